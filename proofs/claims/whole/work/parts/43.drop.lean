/-! the model: who drops out -/
def mx1 (p : Nat → Bool) (c : Nat → Int32) : Nat → Option Nat
  | 0 => none
  | k + 1 => match mx1 p c k with
    | none => if p k = true then some k else none
    | some b => if p k = true ∧ ¬ c k < c b then some k else some b
theorem mx1_n {p : Nat → Bool} {c : Nat → Int32} {k : Nat} (hp : ¬ p k = true) : mx1 p c (k + 1) = mx1 p c k := by
  simp only [mx1]
  cases hb : mx1 p c k with
  | none => simp [hp]
  | some b => simp [hp]
theorem mx1_a {p : Nat → Bool} {c : Nat → Int32} {k : Nat} (hp : p k = true) (hn : mx1 p c k = none) : mx1 p c (k + 1) = some k := by
  simp only [mx1, hn, if_pos hp]
theorem mx1_b {p : Nat → Bool} {c : Nat → Int32} {k b : Nat} (hp : p k = true) (hn : mx1 p c k = some b) (h : ¬ c k < c b) : mx1 p c (k + 1) = some k := by
  simp only [mx1, hn, if_pos (And.intro hp h)]
theorem mx1_c {p : Nat → Bool} {c : Nat → Int32} {k b : Nat} (hn : mx1 p c k = some b) (h : c k < c b) : mx1 p c (k + 1) = some b := by
  simp only [mx1, hn, if_neg (fun q : p k = true ∧ ¬ c k < c b => q.2 h)]
def mxS (p : Nat → Bool) (c : Nat → Int32) (n : Nat) : Option Nat → Prop
  | none => ∀ s, s < n → ¬ p s = true
  | some b => b < n ∧ p b = true ∧ ∀ s, s < n → p s = true → c s < c b ∨ (c s = c b ∧ s ≤ b)
theorem mx1_spec (p : Nat → Bool) (c : Nat → Int32) : ∀ n, mxS p c n (mx1 p c n)
  | 0 => fun s h => absurd h (Nat.not_lt_zero s)
  | n + 1 => by
    have ih := mx1_spec p c n
    by_cases hp : p n = true
    · rcases hm : mx1 p c n with _ | b
      · rw [mx1_a hp hm]
        rw [hm] at ih
        refine ⟨Nat.lt_succ_self n, hp, fun s hs hps => ?_⟩
        rcases Nat.lt_or_ge s n with z | z
        · exact absurd hps (ih s z)
        · rw [show s = n by omega]; exact Or.inr ⟨rfl, Nat.le_refl _⟩
      · rw [hm] at ih
        obtain ⟨h1, h2, h3⟩ := ih
        by_cases hc : c n < c b
        · rw [mx1_c hm hc]
          refine ⟨by omega, h2, fun s hs hps => ?_⟩
          rcases Nat.lt_or_ge s n with z | z
          · exact h3 s z hps
          · rw [show s = n by omega]; exact Or.inl hc
        · rw [mx1_b hp hm hc]
          refine ⟨Nat.lt_succ_self n, hp, fun s hs hps => ?_⟩
          rcases Nat.lt_or_ge s n with z | z
          · rcases h3 s z hps with q | q
            · rcases i32_tri (c b) (c n) with t | t | t
              · exact Or.inl (Int32.lt_trans q t)
              · exact Or.inl (t ▸ q)
              · exact absurd t hc
            · rcases i32_tri (c b) (c n) with t | t | t
              · exact Or.inl (q.1 ▸ t)
              · exact Or.inr ⟨q.1.trans t, by omega⟩
              · exact absurd t hc
          · rw [show s = n by omega]; exact Or.inr ⟨rfl, Nat.le_refl _⟩
    · rw [mx1_n hp]
      rcases hm : mx1 p c n with _ | b
      · rw [hm] at ih
        intro s hs
        rcases Nat.lt_or_ge s n with z | z
        · exact ih s z
        · rw [show s = n by omega]; exact hp
      · rw [hm] at ih
        obtain ⟨h1, h2, h3⟩ := ih
        refine ⟨by omega, h2, fun s hs hps => ?_⟩
        rcases Nat.lt_or_ge s n with z | z
        · exact h3 s z hps
        · rw [show s = n by omega] at hps; exact absurd hps hp
def amS (p : Nat → Bool) (c : Nat → Int32) (n : Nat) : Option Nat → Prop
  | none => ∀ s, s < n → ¬ p s = true
  | some b => b < n ∧ p b = true ∧ ∀ s, s < n → p s = true → c b < c s ∨ (c b = c s ∧ b ≤ s)
theorem am1_spec (p : Nat → Bool) (c : Nat → Int32) : ∀ n, amS p c n (am1 p c n)
  | 0 => fun s h => absurd h (Nat.not_lt_zero s)
  | n + 1 => by
    have ih := am1_spec p c n
    by_cases hp : p n = true
    · rcases hm : am1 p c n with _ | b
      · rw [am1_a hp hm]
        rw [hm] at ih
        refine ⟨Nat.lt_succ_self n, hp, fun s hs hps => ?_⟩
        rcases Nat.lt_or_ge s n with z | z
        · exact absurd hps (ih s z)
        · rw [show s = n by omega]; exact Or.inr ⟨rfl, Nat.le_refl _⟩
      · rw [hm] at ih
        obtain ⟨h1, h2, h3⟩ := ih
        by_cases hc : c n < c b
        · rw [am1_b hp hm hc]
          refine ⟨Nat.lt_succ_self n, hp, fun s hs hps => ?_⟩
          rcases Nat.lt_or_ge s n with z | z
          · rcases h3 s z hps with q | q
            · exact Or.inl (Int32.lt_trans hc q)
            · exact Or.inl (q.1 ▸ hc)
          · rw [show s = n by omega]; exact Or.inr ⟨rfl, Nat.le_refl _⟩
        · rw [am1_c hm hc]
          refine ⟨by omega, h2, fun s hs hps => ?_⟩
          rcases Nat.lt_or_ge s n with z | z
          · exact h3 s z hps
          · rw [show s = n by omega]
            rcases i32_tri (c b) (c n) with t | t | t
            · exact Or.inl t
            · exact Or.inr ⟨t, by omega⟩
            · exact absurd t hc
    · rw [am1_n hp]
      rcases hm : am1 p c n with _ | b
      · rw [hm] at ih
        intro s hs
        rcases Nat.lt_or_ge s n with z | z
        · exact ih s z
        · rw [show s = n by omega]; exact hp
      · rw [hm] at ih
        obtain ⟨h1, h2, h3⟩ := ih
        refine ⟨by omega, h2, fun s hs hps => ?_⟩
        rcases Nat.lt_or_ge s n with z | z
        · exact h3 s z hps
        · rw [show s = n by omega] at hps; exact absurd hps hp
theorem mx_pick {T : List Nat} {rk : Nat → Nat} {R : Nat → Int32} {n : Nat} (hT : T.Pairwise (fun x y => lexR rk y x)) (hm : ∀ s ∈ T, s < n) (hrk : ∀ s, rk s < 2 ^ 31) (hR : ∀ s, s < n → R s = if s ∈ T then nI (rk s) else -1) : mx1 (fun s => decide (¬ R s < 0)) R n = T.head? := by
  have hp : ∀ s, s < n → (decide (¬ R s < 0) = true ↔ s ∈ T) := fun s hs => by
    rw [decide_eq_true_eq, hR s hs]
    by_cases h : s ∈ T
    · rw [if_pos h]; exact ⟨fun _ => h, fun _ => nI_pos (hrk s)⟩
    · rw [if_neg h]; exact ⟨fun z => absurd (by decide) z, fun z => absurd z h⟩
  have hsp := mx1_spec (fun s => decide (¬ R s < 0)) R n
  rcases T with _ | ⟨y, T'⟩
  · rcases hmx : mx1 (fun s => decide (¬ R s < 0)) R n with _ | b
    · rfl
    · rw [hmx] at hsp
      exact absurd ((hp b hsp.1).mp hsp.2.1) (by simp)
  · have hy : y < n := hm y List.mem_cons_self
    have hyp := (hp y hy).mpr List.mem_cons_self
    rcases hmx : mx1 (fun s => decide (¬ R s < 0)) R n with _ | b
    · rw [hmx] at hsp
      exact absurd hyp (hsp y hy)
    · rw [hmx] at hsp
      obtain ⟨h1, h2, h3⟩ := hsp
      have hbT := (hp b h1).mp h2
      rcases List.mem_cons.mp hbT with e | e
      · rw [e]; rfl
      · have hl := (List.pairwise_cons.mp hT).1 b e
        have hq := h3 y hy hyp
        rw [hR y hy, hR b h1, if_pos List.mem_cons_self, if_pos hbT, nI_ltI (hrk _) (hrk _), nI_eq (hrk _) (hrk _)] at hq
        unfold lexR at hl
        omega
theorem am_head {A : List Nat} {rk : Nat → Nat} {p : Nat → Bool} {n : Nat} (hA : A.Pairwise (lexR rk)) (hm : ∀ s, s ∈ A ↔ s < n ∧ p s = true) (hrk : ∀ s, rk s < 2 ^ 31) : am1 p (fun s => nI (rk s)) n = A.head? := by
  have hsp := am1_spec p (fun s => nI (rk s)) n
  rcases A with _ | ⟨y, A'⟩
  · rcases hmx : am1 p (fun s => nI (rk s)) n with _ | b
    · rfl
    · rw [hmx] at hsp
      exact absurd ((hm b).mpr ⟨hsp.1, hsp.2.1⟩) (by simp)
  · have hy := (hm y).mp List.mem_cons_self
    rcases hmx : am1 p (fun s => nI (rk s)) n with _ | b
    · rw [hmx] at hsp
      exact absurd hy.2 (hsp y hy.1)
    · rw [hmx] at hsp
      obtain ⟨h1, h2, h3⟩ := hsp
      rcases List.mem_cons.mp ((hm b).mpr ⟨h1, h2⟩) with e | e
      · rw [e]; rfl
      · have hl := (List.pairwise_cons.mp hA).1 b e
        have hq := h3 y hy.1 hy.2
        rw [nI_ltI (hrk _) (hrk _), nI_eq (hrk _) (hrk _)] at hq
        unfold lexR at hl
        omega
def bdN (kd : Int32) (up dn m : Nat) (ca cb : Nat → Int32) : Bool := decide (¬ (up * 2 ^ odN ca cb m < odUN kd ca cb m * dn))
theorem bd_red {U D up dn : Nat} (hD : 0 < D) : (D / Nat.gcd U D * up < U / Nat.gcd U D * dn) ↔ (up * D < U * dn) := by
  have hg : 0 < Nat.gcd U D := Nat.gcd_pos_of_pos_right U hD
  have h1 := Nat.div_mul_cancel (Nat.gcd_dvd_left U D)
  have h2 := Nat.div_mul_cancel (Nat.gcd_dvd_right U D)
  have e1 : up * D = D / Nat.gcd U D * up * Nat.gcd U D := by rw [Nat.mul_assoc, Nat.mul_comm up (Nat.gcd U D), ← Nat.mul_assoc, h2, Nat.mul_comm]
  have e2 : U * dn = U / Nat.gcd U D * dn * Nat.gcd U D := by rw [Nat.mul_assoc, Nat.mul_comm dn (Nat.gcd U D), ← Nat.mul_assoc, h1]
  rw [e1, e2]
  exact (Nat.mul_lt_mul_right hg).symm
def Sdm (a : Nat) : Prop := 51 ≤ a ∧ a ≤ 55
theorem f12_s {μ : am_M} {F : Nat → Int32} {r : Nat} : upd (fun s => if s < r then F s else mm_I μ 52 s) r (F r) = (fun s => if s < r + 1 then F s else mm_I μ 52 s) := by
  funext s
  unfold upd
  by_cases h : s = r
  · subst h; rw [if_pos rfl, if_pos (by omega)]
  · rw [if_neg h]
    show (if s < r then F s else mm_I μ 52 s) = _
    by_cases h2 : s < r
    · rw [if_pos h2, if_pos (by omega)]
    · rw [if_neg h2, if_neg (by omega)]
set_option maxRecDepth 100000 in
set_option maxHeartbeats 4000000 in
theorem ct_X7_drop {E : am_E} {μ : am_M} (hb : Bs μ) {En Rd pl : Nat} {od : Nat → Nat} {ou : Nat → Int32} (ho : Mo μ En Rd pl od ou) {S N : Nat} {cs : Nat → Nat → Int32} (hm : Mt μ S N cs) {kd : Int32} (h6 : mm_I μ 46 6 = kd) (hkd : kd = 0 ∨ kd = 1) {least up dn rem ld : Nat} (h10 : mm_I μ 46 10 = nI least) (h8 : mm_I μ 46 8 = nI up) (h9 : mm_I μ 46 9 = nI dn) (hls : least ≤ 12) (hup : up ≤ 1000) (hdn : dn ≤ 1000) (hrem : cnt (fun s => decide (ou s = 0)) En = rem) {T0 : List Nat} (hT0 : T0.Pairwise (fun x y => lexR (fun x => rkN (fun s => decide (ou s = 0)) (fun s r => cs s (od r)) Rd x En) y x)) (hTm : ∀ s, s ∈ T0 ↔ s < En ∧ ou s = 0 ∧ s ≠ ld) (hTl : T0.length ≤ 11) (hld : (am1 (fun s => decide (ou s = 0)) (fun x => nI (rkN (fun s => decide (ou s = 0)) (fun s r => cs s (od r)) Rd x En)) En) = some ld) : am_Ct E yX7_drop cX7_drop 6 none rmX7_drop [.ref 46] μ (fun v μ' => v = none ∧ Fr μ μ' ∧ (∀ x y, ¬ Sdm x → mm_I μ' x y = mm_I μ x y) ∧ (∀ x y, ¬ Smo x → mm_L μ' x y = mm_L μ x y) ∧ (∀ s, s < 12 → mm_I μ' 51 s = (dropL (fun x => bdN kd up dn Rd (fun r => cs ld (od r)) (fun r => cs x (od r))) least (nI Rd) T0 (ou, rem)).1 s)) := by
  refine am_Ct.of (ls := [some (.ref 46), none, none, none, none, none]) (by decide) (Nat.le_of_ble_eq_true rfl) rfl (fun C fx hnm => ?_)
  have hE := ho.e
  have hR := ho.r
  have hP := ho.p
  have hrk : ∀ s, (fun x => rkN (fun s => decide (ou s = 0)) (fun s r => cs s (od r)) Rd x En) s < 2 ^ 31 := fun s => by have := rkN_top (fun s => decide (ou s = 0)) (fun s r => cs s (od r)) (s := s) (show Rd ≤ 24 by omega) hE; show rkN _ _ _ _ _ < _; omega
  have hcn := cnt_le (fun s => decide (ou s = 0)) En
  obtain ⟨hldE, hldo⟩ : ld < En ∧ ou ld = 0 := by
    have h := am1_lt hld
    exact ⟨h.1, of_decide_eq_true h.2⟩
  refine am_aload_n fx dX7_drop_0 rfl ?_
  refine am_callV fx dX7_drop_1 mkX7_121 (ct_X7_leader hb ho hm) (so7 hb) ⟨by decide, rfl⟩ rfl (Nat.le_of_ble_eq_true rfl) ⟨by decide, by decide⟩ ⟨Nat.le_of_ble_eq_true rfl, Nat.le_of_ble_eq_true rfl⟩ rfl ?_
  rintro _ _ ⟨rfl, rfl⟩
  rw [hld]
  refine am_topi (show enO (-1) (some ld) = nI ld from rfl) ?_
  refine am_istore_n fx dX7_drop_4 (by decide) rfl ?_
  refine am_aload_n fx dX7_drop_5 rfl ?_
  refine am_callV fx dX7_drop_6 mkX7_72 (ct_X7_leftMany hb ho) (so7 hb) ⟨by decide, rfl⟩ rfl (Nat.le_of_ble_eq_true rfl) ⟨by decide, by decide⟩ ⟨Nat.le_of_ble_eq_true rfl, Nat.le_of_ble_eq_true rfl⟩ rfl ?_
  rintro _ _ ⟨rfl, rfl⟩
  rw [hrem]
  refine am_istore_n fx dX7_drop_9 (by decide) rfl ?_
  refine am_iconst (v := 0) fx dX7_drop_10 (by decide) ?_
  refine am_istore_n fx dX7_drop_11 (by decide) rfl ?_
  have lp12 : ∀ (mz : Nat) (r : Nat), En - r = mz → r ≤ En → am_W E C (am_MQ E C (fun v μ' => v = none ∧ Fr μ μ' ∧ (∀ x y, ¬ Sdm x → mm_I μ' x y = mm_I μ x y) ∧ (∀ x y, ¬ Smo x → mm_L μ' x y = mm_L μ x y) ∧ (∀ s, s < 12 → mm_I μ' 51 s = (dropL (fun x => bdN kd up dn Rd (fun r => cs ld (od r)) (fun r => cs x (od r))) least (nI Rd) T0 (ou, rem)).1 s)) (rmX7_drop).cells (rmX7_drop).slots) (mm_fI μ 52 (fun s => if s < r then (if ou s = 0 ∧ s ≠ ld then nI ((fun x => rkN (fun s => decide (ou s = 0)) (fun s r => cs s (od r)) Rd x En) s) else -1) else mm_I μ 52 s)) 0 0 12 [some (.ref 46), some (.int (nI ld)), some (.int (nI rem)), some (.int (nI r)), none, none] [] := by
    intro mz
    induction mz using Nat.strongRecOn with
    | ind mz ih =>
      intro r hz hr
      have hb2 : Bs (mm_fI μ 52 (fun s => if s < r then (if ou s = 0 ∧ s ≠ ld then nI ((fun x => rkN (fun s => decide (ou s = 0)) (fun s r => cs s (od r)) Rd x En) s) else -1) else mm_I μ 52 s)) := hb.fr (Fr.fI _ _ _)
      have ho2 : Mo (mm_fI μ 52 (fun s => if s < r then (if ou s = 0 ∧ s ≠ ld then nI ((fun x => rkN (fun s => decide (ou s = 0)) (fun s r => cs s (od r)) Rd x En) s) else -1) else mm_I μ 52 s)) En Rd pl od ou := ho.keep rfl rfl rfl (fun k => rfl) (fun k => rfl)
      have hm2 : Mt (mm_fI μ 52 (fun s => if s < r then (if ou s = 0 ∧ s ≠ ld then nI ((fun x => rkN (fun s => decide (ou s = 0)) (fun s r => cs s (od r)) Rd x En) s) else -1) else mm_I μ 52 s)) S N cs := hm.keep rfl rfl (fun k => rfl)
      refine am_iload_n fx dX7_drop_12 rfl ?_
      refine am_aload_n fx dX7_drop_13 rfl ?_
      refine am_getI fx dX7_drop_14 fkX7_69 (by decide) (by decide) rfl (so7 hb2) ho2.1 ?_
      refine am_icmp_ge fx 55 dX7_drop_17 (by decide) (fun c17 => ?_) (fun c17 => ?_)
      · try simp (disch := omega) only [bz_0, Classical.not_not, Int32.not_le, Int32.not_lt, Nat.not_le, Nat.not_lt, nI_leI, nI_ltI, nI_eq, nI_le0, nI_lt0] at c17
        refine am_iconst (v := (nI 1)) fx dX7_drop_55 (by decide) ?_
        refine am_istore_n fx dX7_drop_56 (by decide) rfl ?_
        have lp57 : ∀ (mz : Nat) (k : Nat) (ν : am_M) (ov : Nat → Int32) (l : Nat) (T : List Nat), 12 - k = mz → (1 ≤ k ∧ T.length + k ≤ 12 ∧ T.Pairwise (fun x y => lexR (fun x => rkN (fun s => decide (ou s = 0)) (fun s r => cs s (od r)) Rd x En) y x) ∧ (∀ s ∈ T, s < En ∧ ov s = 0 ∧ s ≠ ld) ∧ ov ld = 0 ∧ dropL (fun x => bdN kd up dn Rd (fun r => cs ld (od r)) (fun r => cs x (od r))) least (nI Rd) T (ov, l) = (dropL (fun x => bdN kd up dn Rd (fun r => cs ld (od r)) (fun r => cs x (od r))) least (nI Rd) T0 (ou, rem)) ∧ l ≤ 12 ∧ Fr μ ν ∧ (∀ x y, ¬ Sdm x → mm_I ν x y = mm_I μ x y) ∧ (∀ x y, ¬ Smo x → mm_L ν x y = mm_L μ x y) ∧ (∀ s, s < 12 → mm_I ν 51 s = ov s) ∧ (∀ s, s < En → mm_I ν 52 s = if s ∈ T then nI ((fun x => rkN (fun s => decide (ou s = 0)) (fun s r => cs s (od r)) Rd x En) s) else -1)) → am_W E C (am_MQ E C (fun v μ' => v = none ∧ Fr μ μ' ∧ (∀ x y, ¬ Sdm x → mm_I μ' x y = mm_I μ x y) ∧ (∀ x y, ¬ Smo x → mm_L μ' x y = mm_L μ x y) ∧ (∀ s, s < 12 → mm_I μ' 51 s = (dropL (fun x => bdN kd up dn Rd (fun r => cs ld (od r)) (fun r => cs x (od r))) least (nI Rd) T0 (ou, rem)).1 s)) (rmX7_drop).cells (rmX7_drop).slots) ν 0 0 57 [some (.ref 46), some (.int (nI ld)), some (.int (nI l)), some (.int (nI k)), none, none] [] := by
          intro mz
          induction mz using Nat.strongRecOn with
          | ind mz ih3 =>
            intro k ν ov l T hz hI
            obtain ⟨hk1, hTl2, hT, hTe, hol, hdr, hl12, hfr, hdI, hdL, h51, h52⟩ := hI
            have hbn : Bs ν := hb.fr hfr
            have hon : Mo ν En Rd pl od ov := ⟨(hdI 46 12 (by unfold Sdm; omega)).trans ho.1, (hdI 46 15 (by unfold Sdm; omega)).trans ho.2.1, (hdI 46 13 (by unfold Sdm; omega)).trans ho.2.2.1, hE, hR, hP, fun i hi => ⟨(hdI 50 i (by unfold Sdm; omega)).trans (ho.xo hi), ho.ol hi⟩, h51⟩
            have hmx := mx_pick hT (fun s hs => (hTe s hs).1) hrk h52
            refine am_iload_n fx dX7_drop_57 rfl ?_
            refine am_bipush (v := (nI 12)) fx dX7_drop_58 (by decide) ?_
            refine am_icmp_ge fx 197 dX7_drop_60 (by decide) (fun c60 => ?_) (fun c60 => ?_)
            · try simp (disch := omega) only [bz_0, Classical.not_not, Int32.not_le, Int32.not_lt, Nat.not_le, Nat.not_lt, nI_leI, nI_ltI, nI_eq, nI_le0, nI_lt0] at c60
              exact am_vret fx dX7_drop_197 ⟨rfl, hfr, hdI, hdL, fun s hs => by rw [← hdr, show T = [] from List.length_eq_zero_iff.mp (by omega)]; exact h51 s hs⟩
            · try simp (disch := omega) only [bz_0, Classical.not_not, Int32.not_le, Int32.not_lt, Nat.not_le, Nat.not_lt, nI_leI, nI_ltI, nI_eq, nI_le0, nI_lt0] at c60
              refine am_iconst (v := (-1)) fx dX7_drop_63 (by decide) ?_
              refine am_istore fx dX7_drop_64 (by decide) rfl ?_
              refine am_iconst (v := 0) fx dX7_drop_66 (by decide) ?_
              refine am_istore fx dX7_drop_67 (by decide) rfl ?_
              have lp69 : ∀ (mz : Nat) (r : Nat), En - r = mz → r ≤ En → am_W E C (am_MQ E C (fun v μ' => v = none ∧ Fr μ μ' ∧ (∀ x y, ¬ Sdm x → mm_I μ' x y = mm_I μ x y) ∧ (∀ x y, ¬ Smo x → mm_L μ' x y = mm_L μ x y) ∧ (∀ s, s < 12 → mm_I μ' 51 s = (dropL (fun x => bdN kd up dn Rd (fun r => cs ld (od r)) (fun r => cs x (od r))) least (nI Rd) T0 (ou, rem)).1 s)) (rmX7_drop).cells (rmX7_drop).slots) ν 0 0 69 [some (.ref 46), some (.int (nI ld)), some (.int (nI l)), some (.int (nI k)), some (.int (enO (-1) (mx1 (fun s => decide (¬ mm_I ν 52 s < 0)) (mm_I ν 52) r))), some (.int (nI r))] [] := by
                intro mz
                induction mz using Nat.strongRecOn with
                | ind mz ih4 =>
                  intro r hz2 hr
                  have hlt : ∀ b, (mx1 (fun s => decide (¬ mm_I ν 52 s < 0)) (mm_I ν 52) r) = some b → b < r := fun b hb8 => by have := mx1_spec (fun s => decide (¬ mm_I ν 52 s < 0)) (mm_I ν 52) r; rw [hb8] at this; exact this.1
                  refine am_iload fx dX7_drop_69 rfl ?_
                  refine am_aload_n fx dX7_drop_71 rfl ?_
                  refine am_getI fx dX7_drop_72 fkX7_69 (by decide) (by decide) rfl (so7 hbn) hon.1 ?_
                  refine am_icmp_ge fx 125 dX7_drop_75 (by decide) (fun c75 => ?_) (fun c75 => ?_)
                  · try simp (disch := omega) only [bz_0, Classical.not_not, Int32.not_le, Int32.not_lt, Nat.not_le, Nat.not_lt, nI_leI, nI_ltI, nI_eq, nI_le0, nI_lt0] at c75
                    rw [show r = En by omega, hmx]
                    refine am_iload fx dX7_drop_125 rfl ?_
                    refine am_if_lt fx 191 dX7_drop_127 (by decide) (fun c127 => ?_) (fun c127 => ?_)
                    · skip
                      have c127 : T = [] := by
                        rcases T with _ | ⟨x, T'⟩
                        · rfl
                        · exact absurd c127 (nI_pos (by have := (hTe x List.mem_cons_self).1; omega))
                      first | refine am_iinc fx dX7_drop_191 rfl (nI_inc _) (by decide) rfl ?_ | refine am_iinc fx dX7_drop_191 rfl rfl (by decide) rfl ?_
                      refine am_goto fx 57 dX7_drop_194 (by decide) ?_
                      refine am_sub [true, true, true, true, false, false] rfl ?_
                      exact ih3 (12 - (k + 1)) (by omega) (k + 1) ν ov l T rfl ⟨by omega, by rw [c127] at hTl2 ⊢; simp only [List.length_nil]; omega, hT, hTe, hol, hdr, hl12, hfr, hdI, hdL, h51, h52⟩
                    · skip
                      obtain ⟨x, T', hTx⟩ : ∃ x T', T = x :: T' := by
                        rcases T with _ | ⟨x, T'⟩
                        · exact absurd (show (-1 : Int32) < 0 by decide) c127
                        · exact ⟨x, T', rfl⟩
                      rw [hTx]
                      have hx9 := hTe x (by rw [hTx]; exact List.mem_cons_self)
                      have hxE := hx9.1
                      have hxl := hx9.2.2
                      have hTp := List.pairwise_cons.mp (hTx ▸ hT)
                      have hT' := hTp.2
                      have hTe' : ∀ s ∈ T', s < En ∧ ov s = 0 ∧ s ≠ ld := fun s hs => hTe s (by rw [hTx]; exact List.mem_cons_of_mem _ hs)
                      have hxn : ∀ s ∈ T', s ≠ x := fun s hs e => by
                        have := hTp.1 s hs
                        rw [e] at this
                        unfold lexR at this
                        omega
                      have hTl3 : T'.length + 1 + k ≤ 12 := by
                        rw [hTx] at hTl2
                        exact hTl2
                      refine am_aload_n fx dX7_drop_130 rfl ?_
                      refine am_getR fx dX7_drop_131 fkX7_30 (by decide) (by decide) rfl (so7 hbn) (rf7_20 hbn) ?_
                      refine am_iload fx dX7_drop_134 rfl ?_
                      refine am_iconst (v := (-1)) fx dX7_drop_136 (by decide) ?_
                      refine am_iast (j := x) fx dX7_drop_137 (sa7_20 hbn) rfl (by omega) (by decide) ?_
                      have hb3 : Bs (mm_sI ν 52 x (-1)) := hbn.fr (Fr.sI _ _ _ _)
                      have ho3 : Mo (mm_sI ν 52 x (-1)) En Rd pl od ov := hon.keep (mI_ne (Or.inl (by decide))) (mI_ne (Or.inl (by decide))) (mI_ne (Or.inl (by decide))) (fun k => mI_ne (Or.inl (by decide))) (fun k => mI_ne (Or.inl (by decide)))
                      have hm3 : Mt (mm_sI ν 52 x (-1)) S N cs := hm.keep ((mI_ne (Or.inl (by decide))).trans (hdI 46 1 (by unfold Sdm; omega))) ((mI_ne (Or.inl (by decide))).trans (hdI 46 2 (by unfold Sdm; omega))) (fun k => (mI_ne (Or.inl (by decide))).trans (hdI 49 k (by unfold Sdm; omega)))
                      have h63 : mm_I (mm_sI ν 52 x (-1)) 46 6 = kd := (mI_ne (Or.inl (by decide))).trans ((hdI 46 6 (by unfold Sdm; omega)).trans h6)
                      refine am_aload_n fx dX7_drop_138 rfl ?_
                      refine am_iload_n fx dX7_drop_139 rfl ?_
                      refine am_iload fx dX7_drop_140 rfl ?_
                      refine am_callV fx dX7_drop_142 mkX7_124 (ct_X7_findOdds hb3 ho3 hm3 h63 hkd ld x Rd Rd Rd (by omega) (by omega) (by rw [if_pos hol]) (by rw [if_pos hx9.2.1]) hR hR (Nat.min_self Rd).symm) (so7 hb3) ⟨by decide, rfl⟩ rfl (Nat.le_of_ble_eq_true rfl) ⟨by decide, by decide⟩ ⟨Nat.le_of_ble_eq_true rfl, Nat.le_of_ble_eq_true rfl⟩ rfl ?_
                      rintro _ ν2 ⟨rfl, hSm, h46, hU, hD⟩
                      have hb4 : Bs ν2 := hb3.fr hSm.1
                      have hfr2 : Fr μ ν2 := hfr.tr ((Fr.sI _ _ _ _).tr hSm.1)
                      have hdI2 : ∀ a b, ¬ Sdm a → mm_I ν2 a b = mm_I μ a b := fun a b hx => by
                        by_cases h4 : a = 46
                        · subst h4
                          rw [h46, mI_ne (Or.inl (by decide))]
                          exact hdI 46 b hx
                        · rw [hSm.2.1 a b (by unfold Smo; unfold Sdm at hx; omega), mI_ne (Or.inl (fun z => hx (by unfold Sdm; omega)))]
                          exact hdI a b hx
                      have hdL2 : ∀ a b, ¬ Smo a → mm_L ν2 a b = mm_L μ a b := fun a b hx => (hSm.2.2 a b hx).trans (hdL a b hx)
                      have h51b : ∀ s, s < 12 → mm_I ν2 51 s = ov s := fun s hs => (hSm.2.1 51 s (by unfold Smo; omega)).trans ((mI_ne (Or.inl (by decide))).trans (h51 s hs))
                      have h52b : ∀ s, s < En → mm_I ν2 52 s = if s ∈ T' then nI ((fun x => rkN (fun s => decide (ou s = 0)) (fun s r => cs s (od r)) Rd x En) s) else -1 := fun s hs => by
                        rw [hSm.2.1 52 s (by unfold Smo; omega), mI_sI]
                        by_cases e : s = x
                        · rw [if_pos ⟨rfl, e⟩, if_neg (fun z => hxn s z e)]
                        · rw [if_neg (fun z => e z.2), h52 s hs, hTx]
                          by_cases e2 : s ∈ T'
                          · rw [if_pos e2, if_pos (List.mem_cons_of_mem _ e2)]
                          · rw [if_neg e2, if_neg (fun z => (List.mem_cons.mp z).elim e e2)]
                      have hU9 := odUN_le kd (fun r => cs ld (od r)) (fun r => cs x (od r)) Rd
                      have hD9 := p2_lt (n := odN (fun r => cs ld (od r)) (fun r => cs x (od r)) Rd) (by have := odN_le (fun r => cs ld (od r)) (fun r => cs x (od r)) Rd; omega)
                      have hU8 := Nat.div_le_self (odUN kd (fun r => cs ld (od r)) (fun r => cs x (od r)) Rd) (Nat.gcd (odUN kd (fun r => cs ld (od r)) (fun r => cs x (od r)) Rd) (2 ^ odN (fun r => cs ld (od r)) (fun r => cs x (od r)) Rd))
                      have hD8 := Nat.div_le_self (2 ^ odN (fun r => cs ld (od r)) (fun r => cs x (od r)) Rd) (Nat.gcd (odUN kd (fun r => cs ld (od r)) (fun r => cs x (od r)) Rd) (2 ^ odN (fun r => cs ld (od r)) (fun r => cs x (od r)) Rd))
                      have hbad : ((fun x => bdN kd up dn Rd (fun r => cs ld (od r)) (fun r => cs x (od r))) x = true) = ¬ (2 ^ odN (fun r => cs ld (od r)) (fun r => cs x (od r)) Rd / Nat.gcd (odUN kd (fun r => cs ld (od r)) (fun r => cs x (od r)) Rd) (2 ^ odN (fun r => cs ld (od r)) (fun r => cs x (od r)) Rd) * up < odUN kd (fun r => cs ld (od r)) (fun r => cs x (od r)) Rd / Nat.gcd (odUN kd (fun r => cs ld (od r)) (fun r => cs x (od r)) Rd) (2 ^ odN (fun r => cs ld (od r)) (fun r => cs x (od r)) Rd) * dn) := by
                        rw [bd_red (Nat.two_pow_pos _)]
                        unfold bdN
                        simp only [decide_eq_true_eq]
                      generalize odUN kd (fun r => cs ld (od r)) (fun r => cs x (od r)) Rd / Nat.gcd (odUN kd (fun r => cs ld (od r)) (fun r => cs x (od r)) Rd) (2 ^ odN (fun r => cs ld (od r)) (fun r => cs x (od r)) Rd) = UU at hU hU8 hbad
                      generalize 2 ^ odN (fun r => cs ld (od r)) (fun r => cs x (od r)) Rd / Nat.gcd (odUN kd (fun r => cs ld (od r)) (fun r => cs x (od r)) Rd) (2 ^ odN (fun r => cs ld (od r)) (fun r => cs x (od r)) Rd) = DD at hD hD8 hbad
                      have hm1 : UU * dn ≤ 67108864 * 1000 := Nat.mul_le_mul (by omega) hdn
                      have hm4 : DD * up ≤ 67108864 * 1000 := Nat.mul_le_mul (by omega) hup
                      refine am_iload_n fx dX7_drop_145 rfl ?_
                      refine am_aload_n fx dX7_drop_146 rfl ?_
                      refine am_getI fx dX7_drop_147 fkX7_76 (by decide) (by decide) rfl (so7 hb4) ((hdI2 46 10 (by unfold Sdm; omega)).trans h10) ?_
                      refine am_icmp_le fx 191 dX7_drop_150 (by decide) (fun c150 => ?_) (fun c150 => ?_)
                      · try simp (disch := omega) only [bz_0, Classical.not_not, Int32.not_le, Int32.not_lt, Nat.not_le, Nat.not_lt, nI_leI, nI_ltI, nI_eq, nI_le0, nI_lt0] at c150
                        first | refine am_iinc fx dX7_drop_191 rfl (nI_inc _) (by decide) rfl ?_ | refine am_iinc fx dX7_drop_191 rfl rfl (by decide) rfl ?_
                        refine am_goto fx 57 dX7_drop_194 (by decide) ?_
                        refine am_sub [true, true, true, true, false, false] rfl ?_
                        exact ih3 (12 - (k + 1)) (by omega) (k + 1) ν2 ov l T' rfl ⟨by omega, by omega, hT', hTe', hol, by rw [← hdr, hTx]; simp only [dropL]; rw [if_neg (fun z => by omega)], hl12, hfr2, hdI2, hdL2, h51b, h52b⟩
                      · try simp (disch := omega) only [bz_0, Classical.not_not, Int32.not_le, Int32.not_lt, Nat.not_le, Nat.not_lt, nI_leI, nI_ltI, nI_eq, nI_le0, nI_lt0] at c150
                        refine am_aload_n fx dX7_drop_153 rfl ?_
                        refine am_getL fx dX7_drop_154 fkX7_128 (by decide) (by decide) rfl (so7 hb4) hU ?_
                        refine am_aload_n fx dX7_drop_157 rfl ?_
                        refine am_getI fx dX7_drop_158 fkX7_103 (by decide) (by decide) rfl (so7 hb4) ((hdI2 46 9 (by unfold Sdm; omega)).trans h9) ?_
                        refine am_i2l fx dX7_drop_161 (nI_l (by omega)) ?_
                        refine am_lmul fx dX7_drop_162 ?_
                        refine am_topl (lN_mul _ _) ?_
                        refine am_aload_n fx dX7_drop_163 rfl ?_
                        refine am_getL fx dX7_drop_164 fkX7_132 (by decide) (by decide) rfl (so7 hb4) hD ?_
                        refine am_aload_n fx dX7_drop_167 rfl ?_
                        refine am_getI fx dX7_drop_168 fkX7_100 (by decide) (by decide) rfl (so7 hb4) ((hdI2 46 8 (by unfold Sdm; omega)).trans h8) ?_
                        refine am_i2l fx dX7_drop_171 (nI_l (by omega)) ?_
                        refine am_lmul fx dX7_drop_172 ?_
                        refine am_topl (lN_mul _ _) ?_
                        refine am_lcmp fx dX7_drop_173 ?_
                        refine am_if_gt fx 191 dX7_drop_174 (by decide) (fun c174 => ?_) (fun c174 => ?_)
                        · skip
                          have c174 : DD * up < UU * dn := by
                            rcases Nat.lt_or_ge (DD * up) (UU * dn) with z | z
                            · exact z
                            · exact absurd ((lg_le0 _ _).mpr (fun q => absurd ((pk_lLT (by omega) (by omega)).mp q) (by omega))) (Int32.not_le.mpr c174)
                          first | refine am_iinc fx dX7_drop_191 rfl (nI_inc _) (by decide) rfl ?_ | refine am_iinc fx dX7_drop_191 rfl rfl (by decide) rfl ?_
                          refine am_goto fx 57 dX7_drop_194 (by decide) ?_
                          refine am_sub [true, true, true, true, false, false] rfl ?_
                          exact ih3 (12 - (k + 1)) (by omega) (k + 1) ν2 ov l T' rfl ⟨by omega, by omega, hT', hTe', hol, by rw [← hdr, hTx]; simp only [dropL]; rw [if_neg (fun z => by have := z.2; rw [hbad] at this; exact this c174)], hl12, hfr2, hdI2, hdL2, h51b, h52b⟩
                        · skip
                          have c174 : ¬ DD * up < UU * dn := fun z => (lg_le0 _ _).mp (Int32.not_lt.mp c174) ((pk_lLT (by omega) (by omega)).mpr z)
                          refine am_aload_n fx dX7_drop_177 rfl ?_
                          refine am_getR fx dX7_drop_178 fkX7_27 (by decide) (by decide) rfl (so7 hb4) (rf7_19 hb4) ?_
                          refine am_iload fx dX7_drop_181 rfl ?_
                          refine am_aload_n fx dX7_drop_183 rfl ?_
                          refine am_getI fx dX7_drop_184 fkX7_79 (by decide) (by decide) rfl (so7 hb4) ((hdI2 46 15 (by unfold Sdm; omega)).trans ho.2.1) ?_
                          refine am_iast (j := x) fx dX7_drop_187 (sa7_19 hb4) rfl (by omega) (by decide) ?_
                          refine am_iinc fx dX7_drop_188 rfl (nI_dec (by omega)) (by decide) rfl ?_
                          first | refine am_iinc fx dX7_drop_191 rfl (nI_inc _) (by decide) rfl ?_ | refine am_iinc fx dX7_drop_191 rfl rfl (by decide) rfl ?_
                          refine am_goto fx 57 dX7_drop_194 (by decide) ?_
                          refine am_sub [true, true, true, true, false, false] rfl ?_
                          exact ih3 (12 - (k + 1)) (by omega) (k + 1) (mm_sI ν2 51 x (nI Rd)) (upd ov x (nI Rd)) (l - 1) T' rfl ⟨by omega, by omega, hT', fun s hs => ⟨(hTe' s hs).1, by rw [pk_un (hxn s hs)]; exact (hTe' s hs).2.1, (hTe' s hs).2.2⟩, by rw [pk_un (Ne.symm hxl)]; exact hol, by rw [← hdr, hTx]; simp only [dropL]; rw [if_pos ⟨c150, by rw [hbad]; exact c174⟩], by omega, hfr2.tr (Fr.sI _ _ _ _), fun a b hx => by rw [mI_ne (Or.inl (fun z => hx (by unfold Sdm; omega)))]; exact hdI2 a b hx, hdL2, fun s hs => by rw [mI_sI]; unfold upd; by_cases e : s = x; rw [if_pos ⟨rfl, e⟩, if_pos e]; rw [if_neg (fun z => e z.2), if_neg e]; exact h51b s hs, fun s hs => by rw [mI_ne (Or.inl (by decide))]; exact h52b s hs⟩
                  · try simp (disch := omega) only [bz_0, Classical.not_not, Int32.not_le, Int32.not_lt, Nat.not_le, Nat.not_lt, nI_leI, nI_ltI, nI_eq, nI_le0, nI_lt0] at c75
                    refine am_aload_n fx dX7_drop_78 rfl ?_
                    refine am_getR fx dX7_drop_79 fkX7_30 (by decide) (by decide) rfl (so7 hbn) (rf7_20 hbn) ?_
                    refine am_iload fx dX7_drop_82 rfl ?_
                    refine am_iald (j := r) fx dX7_drop_84 (sa7_20 hbn) rfl (by omega) (by decide) rfl ?_
                    refine am_if_lt fx 115 dX7_drop_85 (by decide) (fun c85 => ?_) (fun c85 => ?_)
                    · skip
                      refine am_iload fx dX7_drop_115 rfl ?_
                      refine am_topi (show _ = enO (-1) (mx1 (fun s => decide (¬ mm_I ν 52 s < 0)) (mm_I ν 52) (r + 1)) by rw [mx1_n (by simp only [decide_eq_true_eq]; exact fun z => z c85)]) ?_
                      refine am_istore fx dX7_drop_117 (by decide) rfl ?_
                      first | refine am_iinc fx dX7_drop_119 rfl (nI_inc _) (by decide) rfl ?_ | refine am_iinc fx dX7_drop_119 rfl rfl (by decide) rfl ?_
                      refine am_goto fx 69 dX7_drop_122 (by decide) ?_
                      exact ih4 (En - (r + 1)) (by omega) (r + 1) rfl (by omega)
                    · skip
                      refine am_iload fx dX7_drop_88 rfl ?_
                      refine am_if_lt fx 110 dX7_drop_90 (by decide) (fun c90 => ?_) (fun c90 => ?_)
                      · skip
                        have c90 : (mx1 (fun s => decide (¬ mm_I ν 52 s < 0)) (mm_I ν 52) r) = none := enO_neg c90 (fun b hb9 => by have := hlt b hb9; omega)
                        refine am_iload fx dX7_drop_110 rfl ?_
                        refine am_topi (show nI r = enO (-1) (mx1 (fun s => decide (¬ mm_I ν 52 s < 0)) (mm_I ν 52) (r + 1)) by rw [mx1_a (by simp only [decide_eq_true_eq]; exact c85) c90]; rfl) ?_
                        refine am_goto fx 117 dX7_drop_112 (by decide) ?_
                        skip
                        refine am_istore fx dX7_drop_117 (by decide) rfl ?_
                        first | refine am_iinc fx dX7_drop_119 rfl (nI_inc _) (by decide) rfl ?_ | refine am_iinc fx dX7_drop_119 rfl rfl (by decide) rfl ?_
                        refine am_goto fx 69 dX7_drop_122 (by decide) ?_
                        exact ih4 (En - (r + 1)) (by omega) (r + 1) rfl (by omega)
                      · skip
                        obtain ⟨b, hbs⟩ := enO_nn (by decide) c90
                        have hbr := hlt b hbs
                        rw [hbs]
                        refine am_aload_n fx dX7_drop_93 rfl ?_
                        refine am_getR fx dX7_drop_94 fkX7_30 (by decide) (by decide) rfl (so7 hbn) (rf7_20 hbn) ?_
                        refine am_iload fx dX7_drop_97 rfl ?_
                        refine am_iald (j := r) fx dX7_drop_99 (sa7_20 hbn) rfl (by omega) (by decide) rfl ?_
                        refine am_aload_n fx dX7_drop_100 rfl ?_
                        refine am_getR fx dX7_drop_101 fkX7_30 (by decide) (by decide) rfl (so7 hbn) (rf7_20 hbn) ?_
                        refine am_iload fx dX7_drop_104 rfl ?_
                        refine am_iald (j := b) fx dX7_drop_106 (sa7_20 hbn) rfl (by omega) (by decide) rfl ?_
                        refine am_icmp_lt fx 115 dX7_drop_107 (by decide) (fun c107 => ?_) (fun c107 => ?_)
                        · skip
                          refine am_iload fx dX7_drop_115 rfl ?_
                          refine am_topi (show _ = enO (-1) (mx1 (fun s => decide (¬ mm_I ν 52 s < 0)) (mm_I ν 52) (r + 1)) by rw [mx1_c hbs c107]) ?_
                          refine am_istore fx dX7_drop_117 (by decide) rfl ?_
                          first | refine am_iinc fx dX7_drop_119 rfl (nI_inc _) (by decide) rfl ?_ | refine am_iinc fx dX7_drop_119 rfl rfl (by decide) rfl ?_
                          refine am_goto fx 69 dX7_drop_122 (by decide) ?_
                          exact ih4 (En - (r + 1)) (by omega) (r + 1) rfl (by omega)
                        · skip
                          refine am_iload fx dX7_drop_110 rfl ?_
                          refine am_topi (show nI r = enO (-1) (mx1 (fun s => decide (¬ mm_I ν 52 s < 0)) (mm_I ν 52) (r + 1)) by rw [mx1_b (by simp only [decide_eq_true_eq]; exact c85) hbs c107]; rfl) ?_
                          refine am_goto fx 117 dX7_drop_112 (by decide) ?_
                          skip
                          refine am_istore fx dX7_drop_117 (by decide) rfl ?_
                          first | refine am_iinc fx dX7_drop_119 rfl (nI_inc _) (by decide) rfl ?_ | refine am_iinc fx dX7_drop_119 rfl rfl (by decide) rfl ?_
                          refine am_goto fx 69 dX7_drop_122 (by decide) ?_
                          exact ih4 (En - (r + 1)) (by omega) (r + 1) rfl (by omega)
              exact lp69 _ 0 rfl (Nat.zero_le _)
        refine am_sub [true, true, true, true, false, false] rfl ?_
        exact lp57 _ 1 _ ou rem T0 rfl ⟨Nat.le_refl _, by omega, hT0, fun s hs => (hTm s).mp hs, hldo, rfl, by omega, Fr.fI _ _ _, fun x y hx => mI_fIn (fun z => hx (by unfold Sdm; omega)), fun x y hx => rfl, fun s hs => ho.xu hs, fun s hs => by rw [mI_fIs, if_pos (by omega)]; by_cases e : ou s = 0 ∧ s ≠ ld; rw [if_pos e, if_pos ((hTm s).mpr ⟨hs, e⟩)]; rw [if_neg e, if_neg (fun z => e ((hTm s).mp z).2)]⟩
      · try simp (disch := omega) only [bz_0, Classical.not_not, Int32.not_le, Int32.not_lt, Nat.not_le, Nat.not_lt, nI_leI, nI_ltI, nI_eq, nI_le0, nI_lt0] at c17
        refine am_aload_n fx dX7_drop_20 rfl ?_
        refine am_getR fx dX7_drop_21 fkX7_30 (by decide) (by decide) rfl (so7 hb2) (rf7_20 hb2) ?_
        refine am_iload_n fx dX7_drop_24 rfl ?_
        refine am_aload_n fx dX7_drop_25 rfl ?_
        refine am_getR fx dX7_drop_26 fkX7_27 (by decide) (by decide) rfl (so7 hb2) (rf7_19 hb2) ?_
        refine am_iload_n fx dX7_drop_29 rfl ?_
        refine am_iald (j := r) fx dX7_drop_30 (sa7_19 hb2) rfl (by omega) (by decide) (ho2.xu (by omega)) ?_
        refine am_if_ne fx 47 dX7_drop_31 (by decide) (fun c31 => ?_) (fun c31 => ?_)
        · skip
          refine am_iconst (v := (-1)) fx dX7_drop_47 (by decide) ?_
          refine am_topi (show _ = (if ou r = 0 ∧ r ≠ ld then nI ((fun x => rkN (fun s => decide (ou s = 0)) (fun s r => cs s (od r)) Rd x En) r) else -1) from (if_neg (fun z => c31 z.1)).symm) ?_
          refine am_iast (j := r) fx dX7_drop_48 (sa7_20 hb2) rfl (by omega) (by decide) ?_
          first | refine am_iinc fx dX7_drop_49 rfl (nI_inc _) (by decide) rfl ?_ | refine am_iinc fx dX7_drop_49 rfl rfl (by decide) rfl ?_
          refine am_goto fx 12 dX7_drop_52 (by decide) ?_
          exact am_mem (by rw [sI_fI]; exact congrArg (mm_fI μ 52) (f12_s (F := fun s => if ou s = 0 ∧ s ≠ ld then nI ((fun x => rkN (fun s => decide (ou s = 0)) (fun s r => cs s (od r)) Rd x En) s) else -1))) (ih (En - (r + 1)) (by omega) (r + 1) rfl (by omega))
        · skip
          refine am_iload_n fx dX7_drop_34 rfl ?_
          refine am_iload_n fx dX7_drop_35 rfl ?_
          refine am_icmp_eq fx 47 dX7_drop_36 (by decide) (fun c36 => ?_) (fun c36 => ?_)
          · try simp (disch := omega) only [bz_0, Classical.not_not, Int32.not_le, Int32.not_lt, Nat.not_le, Nat.not_lt, nI_leI, nI_ltI, nI_eq, nI_le0, nI_lt0] at c36
            refine am_iconst (v := (-1)) fx dX7_drop_47 (by decide) ?_
            refine am_topi (show _ = (if ou r = 0 ∧ r ≠ ld then nI ((fun x => rkN (fun s => decide (ou s = 0)) (fun s r => cs s (od r)) Rd x En) r) else -1) from (if_neg (fun z => z.2 c36)).symm) ?_
            refine am_iast (j := r) fx dX7_drop_48 (sa7_20 hb2) rfl (by omega) (by decide) ?_
            first | refine am_iinc fx dX7_drop_49 rfl (nI_inc _) (by decide) rfl ?_ | refine am_iinc fx dX7_drop_49 rfl rfl (by decide) rfl ?_
            refine am_goto fx 12 dX7_drop_52 (by decide) ?_
            exact am_mem (by rw [sI_fI]; exact congrArg (mm_fI μ 52) (f12_s (F := fun s => if ou s = 0 ∧ s ≠ ld then nI ((fun x => rkN (fun s => decide (ou s = 0)) (fun s r => cs s (od r)) Rd x En) s) else -1))) (ih (En - (r + 1)) (by omega) (r + 1) rfl (by omega))
          · try simp (disch := omega) only [bz_0, Classical.not_not, Int32.not_le, Int32.not_lt, Nat.not_le, Nat.not_lt, nI_leI, nI_ltI, nI_eq, nI_le0, nI_lt0] at c36
            refine am_aload_n fx dX7_drop_39 rfl ?_
            refine am_iload_n fx dX7_drop_40 rfl ?_
            refine am_callV fx dX7_drop_41 mkX7_117 (ct_X7_rankOf hb2 ho2 hm2 r (by omega)) (so7 hb2) ⟨by decide, rfl⟩ rfl (Nat.le_of_ble_eq_true rfl) ⟨by decide, by decide⟩ ⟨Nat.le_of_ble_eq_true rfl, Nat.le_of_ble_eq_true rfl⟩ rfl ?_
            rintro _ _ ⟨rfl, rfl⟩
            refine am_goto fx 48 dX7_drop_44 (by decide) ?_
            refine am_topi (show _ = (if ou r = 0 ∧ r ≠ ld then nI ((fun x => rkN (fun s => decide (ou s = 0)) (fun s r => cs s (od r)) Rd x En) r) else -1) from (if_pos ⟨c31, c36⟩).symm) ?_
            refine am_iast (j := r) fx dX7_drop_48 (sa7_20 hb2) rfl (by omega) (by decide) ?_
            first | refine am_iinc fx dX7_drop_49 rfl (nI_inc _) (by decide) rfl ?_ | refine am_iinc fx dX7_drop_49 rfl rfl (by decide) rfl ?_
            refine am_goto fx 12 dX7_drop_52 (by decide) ?_
            exact am_mem (by rw [sI_fI]; exact congrArg (mm_fI μ 52) (f12_s (F := fun s => if ou s = 0 ∧ s ≠ ld then nI ((fun x => rkN (fun s => decide (ou s = 0)) (fun s r => cs s (od r)) Rd x En) s) else -1))) (ih (En - (r + 1)) (by omega) (r + 1) rfl (by omega))
  refine am_sub [true, true, true, true, false, false] rfl ?_
  refine am_mem (show μ = mm_fI μ 52 (fun s => if s < 0 then (if ou s = 0 ∧ s ≠ ld then nI ((fun x => rkN (fun s => decide (ou s = 0)) (fun s r => cs s (od r)) Rd x En) s) else -1) else mm_I μ 52 s) from ?_) ?_
  · simp only [Nat.not_lt_zero, if_false]
    exact (fI_self μ 52).symm
  exact lp12 _ 0 rfl (Nat.zero_le _)
