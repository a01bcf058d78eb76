/-! class and model: the same, in numbers -/
theorem cnt_beyond {b : Nat → Bool} {n : Nat} (h : ∀ i, n ≤ i → ¬ b i = true) : ∀ m, n ≤ m → cnt b m = cnt b n
  | 0, hm => by rw [show n = 0 by omega]
  | m + 1, hm => by
    rcases Nat.lt_or_ge n (m + 1) with z | z
    · rw [cnt_f (h m (by omega)), cnt_beyond h m (by omega)]
    · rw [show n = m + 1 by omega]
theorem cnt_full {b : Nat → Bool} : ∀ {n : Nat}, cnt b n = n ↔ ∀ i, i < n → b i = true
  | 0 => ⟨fun _ i hi => by omega, fun _ => rfl⟩
  | n + 1 => by
    have ih := cnt_full (b := b) (n := n)
    have hl := cnt_le b n
    by_cases hb : b n = true
    · rw [cnt_t hb]
      constructor
      · intro h i hi
        rcases Nat.lt_or_ge i n with z | z
        · exact ih.mp (by omega) i z
        · rw [show i = n by omega]; exact hb
      · intro h
        rw [ih.mpr (fun i hi => h i (by omega))]
    · rw [cnt_f hb]
      constructor
      · intro h; omega
      · intro h; exact absurd (h n (by omega)) hb
/-- a setting is whole: by its count, by its costs -/
theorem wh_eq {t : Nat → Bool} {x : Int32} {N : Nat} (hx : x = nI (cnt t 24)) (hN : N ≤ 24) (hb : ∀ i, N ≤ i → i < 24 → ¬ t i = true) : x = nI N ↔ ∀ i, i < N → t i = true := by
  have h1 : cnt t 24 = cnt t N := by
    have h2 := cnt_beyond (b := fun i => t i && decide (i < 24)) (n := N) (fun i hi => by
      by_cases h24 : i < 24
      · simp [h24]
        simpa using hb i hi h24
      · simp [h24]) 24 hN
    have e : ∀ m, m ≤ 24 → cnt (fun i => t i && decide (i < 24)) m = cnt t m := fun m hm => cnt_congr (fun j hj => by simp [show j < 24 by omega])
    rw [e 24 (Nat.le_refl _), e N hN] at h2
    exact h2
  have hl := cnt_le t 24
  rw [hx, nI_eq (by omega) (by omega), h1]
  exact cnt_full
theorem rkA_cg {ts ts' to to' : Nat → Int32} : ∀ {n : Nat}, (∀ r, r < n → ts r = ts' r) → (∀ r, r < n → to r = to' r) → rkA ts to n = rkA ts' to' n
  | 0, _, _ => rfl
  | n + 1, h1, h2 => by
    simp only [rkA]
    rw [rkA_cg (fun r hr => h1 r (by omega)) (fun r hr => h2 r (by omega)), h1 n (by omega), h2 n (by omega)]
theorem rkN_cg {lf : Nat → Bool} {tk tk' : Nat → Nat → Int32} {Rd s : Nat} (hs : ∀ r, r < Rd → tk s r = tk' s r) : ∀ {n : Nat}, (∀ o, o < n → lf o = true → ∀ r, r < Rd → tk o r = tk' o r) → rkN lf tk Rd s n = rkN lf tk' Rd s n
  | 0, _ => rfl
  | n + 1, h => by
    simp only [rkN]
    rw [rkN_cg hs (fun o ho => h o (by omega))]
    by_cases hl : n ≠ s ∧ lf n = true
    · rw [if_pos hl, if_pos hl, rkA_cg hs (h n (by omega) hl.2)]
    · rw [if_neg hl, if_neg hl]
theorem filv_cg {b b' : Nat → Bool} {v v' g : Nat → Int32} : ∀ {n : Nat}, (∀ r, r < n → b r = b' r ∧ v r = v' r) → filv b v g n = filv b' v' g n
  | 0, _ => rfl
  | n + 1, h => by
    simp only [filv]
    rw [filv_cg (fun r hr => h r (by omega)), (h n (by omega)).1, (h n (by omega)).2, cnt_congr (fun j hj => (h j (by omega)).1)]
theorem od_cg {kd : Int32} {ca ca' cb cb' : Nat → Int32} {m : Nat} (ha : ∀ r, r < m → ca r = ca' r) (hb : ∀ r, r < m → cb r = cb' r) : odUN kd ca cb m = odUN kd ca' cb' m ∧ odN ca cb m = odN ca' cb' m := by
  have h1 : odN ca cb m = odN ca' cb' m := cnt_congr (fun j hj => by simp only [neB]; rw [ha j hj, hb j hj])
  have h2 : gpz ca cb m = gpz ca' cb' m := filv_cg (fun r hr => ⟨by simp only [neB]; rw [ha r hr, hb r hr], by rw [ha r hr, hb r hr]⟩)
  have h3 : fpz ca cb m = fpz ca' cb' m := filv_cg (fun r hr => ⟨by simp only [neB]; rw [ha r hr, hb r hr], by rw [ha r hr, hb r hr]⟩)
  refine ⟨?_, h1⟩
  unfold odUN
  rw [h1, h2, h3]
theorem ab_sym {x y : Int32} (hx : 0 ≤ x ∧ x ≤ nI 100) (hy : 0 ≤ y ∧ y ≤ nI 100) : ab (x - y) = ab (y - x) ∧ ∃ a : Nat, a ≤ 100 ∧ ab (x - y) = nI a := by
  obtain ⟨a, ha, rfl⟩ := rg_le hx (by decide)
  obtain ⟨b, hb, rfl⟩ := rg_le hy (by decide)
  have key : ∀ c d : Nat, c ≤ 100 → d ≤ 100 → d ≤ c → ab (nI c - nI d) = nI (c - d) ∧ ab (nI d - nI c) = nI (c - d) := fun c d hc hd hdc => by
    have e1 : nI c - nI d = nI (c - d) := pk_sub hdc
    refine ⟨by rw [e1]; exact if_pos (nI_pos' (by omega)), ?_⟩
    rcases Nat.eq_or_lt_of_le hdc with z | z
    · subst z
      rw [e1]; exact if_pos (nI_pos' (by omega))
    · have e2 : nI d - nI c < 0 := pk_sneg (by omega) z
      unfold ab
      rw [if_neg (Int32.not_le.mpr e2)]
      rw [show nI d - nI c = 0 - (nI c - nI d) by rw [Int32.zero_sub, Int32.neg_sub], e1, Int32.zero_sub, Int32.zero_sub, Int32.neg_neg]
  rcases Nat.le_total b a with z | z
  · obtain ⟨h1, h2⟩ := key a b ha hb z
    exact ⟨h1.trans h2.symm, a - b, by omega, h1⟩
  · obtain ⟨h1, h2⟩ := key b a hb ha z
    exact ⟨h2.trans h1.symm, b - a, by omega, h2⟩
theorem stC_cg {wh wh' lr : Nat → Bool} {S N : Nat} {fe : Nat → Int32} {cs : Nat → Nat → Int32} {f : Int32} (h : ∀ s, s < S → wh s = wh' s) : ∀ (k : Nat) (st : stS), stC wh lr S N fe cs f k st = stC wh' lr S N fe cs f k st
  | 0, _ => rfl
  | k + 1, st => by
    simp only [stC]
    rw [stC_cg h k st]
    unfold stStep
    rw [am1_congr (p := wh) (p' := wh') (fun j hj => ⟨h j hj, fun _ => rfl⟩), am1_congr (p := wh) (p' := wh') (fun j hj => ⟨h j hj, fun _ => rfl⟩)]
theorem stF_cg {wh wh' lr : Nat → Bool} {S N : Nat} {fe : Nat → Nat → Int32} {cs : Nat → Nat → Int32} {st : stS} (h : ∀ s, s < S → wh s = wh' s) : ∀ f, stF wh lr S N fe cs st f = stF wh' lr S N fe cs st f
  | 0 => rfl
  | f + 1 => by
    simp only [stF]
    rw [stF_cg h f, stC_cg h]
/-- what a cut's state looks like once one was tried -/
def stG (S : Nat) (st : stS) : Prop := ∃ (sv cv : Int32) (ff bb oo : Nat), st = (sv, nI ff, cv, nI bb, nI oo) ∧ ff < 2 ∧ bb < S ∧ oo < S
theorem stC_G {wh lr : Nat → Bool} {S N f : Nat} {fe : Nat → Int32} {cs : Nat → Nat → Int32} (hf : f < 2) {st : stS} (h : stG S st) : ∀ k, stG S (stC wh lr S N fe cs (nI f) k st)
  | 0 => h
  | k + 1 => by
    have ih := stC_G (wh := wh) (lr := lr) (N := N) (fe := fe) (cs := cs) hf h k
    simp only [stC]
    unfold stStep
    split
    · rename_i b hh hb1 hb2
      split
      · exact ⟨_, _, f, b, hh, rfl, hf, (am1_lt hb1).1, (am1_lt hb2).1⟩
      · exact ih
    · exact ih
theorem stF_G {wh lr : Nat → Bool} {S N : Nat} {fe : Nat → Nat → Int32} {cs : Nat → Nat → Int32} {F0 C0 : Int32} (hwh : ∃ s, s < S ∧ wh s = true) (hrg : ∀ (P Q : Nat → Bool) b h, b < S → wh b = true → h < S → wh h = true → smQ P (cs b) N + smQ Q (cs h) N < 2147483647) : stG S (stF wh lr S N fe cs (2147483647, F0, C0, -1, -1) 2) := by
  obtain ⟨w9, hw1, hw2⟩ := hwh
  have h1 : stG S (stC wh lr S N (fe 0) cs (nI 0) 1 (2147483647, F0, C0, -1, -1)) := by
    obtain ⟨b, hb⟩ := am1_ex (p := wh) (c := fun s => smQ (ltP lr (fe 0) 1) (cs s) N) hw1 hw2
    obtain ⟨h, hh⟩ := am1_ex (p := wh) (c := fun s => smQ (geP lr (fe 0) 1) (cs s) N) hw1 hw2
    show stG S (stStep wh S _ _ _ _ _)
    have hq : smQ (ltP lr (fe 0) 1) (cs b) N + smQ (geP lr (fe 0) 1) (cs h) N < (stC wh lr S N (fe 0) cs (nI 0) 0 (2147483647, F0, C0, -1, -1)).1 := hrg _ _ b h (am1_lt hb).1 (am1_lt hb).2 (am1_lt hh).1 (am1_lt hh).2
    rw [stS_step hb hh, if_pos hq]
    exact ⟨_, _, 0, b, h, rfl, by decide, (am1_lt hb).1, (am1_lt hh).1⟩
  have h2 : ∀ k, stG S (stC wh lr S N (fe 0) cs (nI 0) (k + 1) (2147483647, F0, C0, -1, -1)) := fun k => by
    induction k with
    | zero => exact h1
    | succ k ih =>
      show stG S (stStep wh S _ _ _ _ (stC wh lr S N (fe 0) cs (nI 0) (k + 1) (2147483647, F0, C0, -1, -1)))
      unfold stStep
      split
      · rename_i b hh hb1 hb2
        split
        · exact ⟨_, _, 0, b, hh, rfl, by decide, (am1_lt hb1).1, (am1_lt hb2).1⟩
        · exact ih
      · exact ih
  show stG S (stC wh lr S N (fe 1) cs (nI 1) 100 (stC wh lr S N (fe 0) cs (nI 0) 100 (2147483647, F0, C0, -1, -1)))
  exact stC_G (by decide) (h2 99) 100
theorem sm64_N {t : Nat → Int32} {c : Nat → Nat} : ∀ {n : Nat}, (∀ r, r < n → t r = nI (c r) ∧ c r ≤ 2000000) → sm64 t n = lN (smN c 0 n)
  | 0, _ => rfl
  | n + 1, h => by
    simp only [sm64, smN]
    rw [sm64_N (fun r hr => h r (by omega)), (h n (by omega)).1, nI_l (by have := (h n (by omega)).2; omega), Nat.zero_add, lN_add]
theorem smN_le {c : Nat → Nat} : ∀ {n : Nat}, (∀ r, r < n → c r ≤ 2000000) → smN c 0 n ≤ 2000000 * n
  | 0, _ => Nat.zero_le _
  | n + 1, h => by
    have h1 := smN_le (n := n) (fun r hr => h r (by omega))
    have h2 := h n (by omega)
    simp only [smN]
    rw [Nat.zero_add]
    omega
theorem todo_all {A : List Nat} {ld : Nat} (h : A.head? = some ld) : todo A (A.length - 1) = A.tail.reverse := by
  rcases A with _ | ⟨y, A'⟩
  · cases h
  · unfold todo
    simp
theorem bd_cls {U D up dn : Nat} (hU : U ≤ 2 ^ 26) (hD : D ≤ 2 ^ 26) (hup : up ≤ 1000) (hdn : dn ≤ 1000) : ((nI up).toInt64 * lN D < lN U * (nI dn).toInt64) ↔ up * D < U * dn := by
  rw [nI_l (by omega), nI_l (by omega), lN_mul, lN_mul]
  have h1 : up * D ≤ 1000 * 2 ^ 26 := Nat.mul_le_mul hup hD
  have h2 : U * dn ≤ 2 ^ 26 * 1000 := Nat.mul_le_mul hU hdn
  exact pk_lLT (by omega) (by omega)
