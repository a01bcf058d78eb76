/-! where each cell of the system lies, and what of it never changes -/
def bs_shp : Nat → Nat × Nat := fun n => [(12, 0), (6, 0), (5, 0), (11, 12), (8, 24), (8, 24), (8, 24), (8, 24), (8, 24), (8, 24), (8, 24), (8, 24), (8, 24), (8, 24), (8, 24), (8, 24), (8, 12), (11, 2), (8, 24), (8, 24), (10, 24), (0, 0), (8, 24), (10, 24), (9, 601), (1, 0), (8, 12), (8, 12), (8, 12), (11, 13), (8, 24), (8, 24), (8, 24), (8, 24), (8, 24), (8, 24), (8, 24), (8, 24), (8, 24), (8, 24), (8, 24), (8, 24), (8, 24), (4, 0), (8, 12), (8, 12), (7, 0), (8, 48), (10, 24), (8, 288), (8, 24), (8, 12), (8, 12), (8, 24), (10, 24), (9, 1300), (9, 1)].getD n (12, 0)
def bs_ref : List (Nat × Nat × Nat) := [(2, 0, 3), (2, 1, 16), (2, 2, 17), (2, 3, 20), (21, 0, 22), (21, 1, 23), (21, 2, 24), (25, 0, 26), (25, 1, 27), (25, 2, 28), (25, 3, 29), (43, 0, 44), (43, 1, 45), (46, 3, 47), (46, 4, 48), (46, 5, 49), (46, 14, 50), (46, 19, 51), (46, 20, 52), (46, 23, 53), (46, 24, 54), (46, 25, 55), (1, 0, 2), (1, 1, 21), (1, 2, 25), (1, 3, 43)]
def Bs (μ : am_M) : Prop := (∀ n, 0 < n → n < 57 → mm_S μ n = bs_shp n) ∧ (∀ r ∈ bs_ref, mm_R μ r.1 r.2.1 = some r.2.2) ∧ (∀ j, j < 12 → mm_R μ 3 j = some (4 + j)) ∧ (∀ j, j < 2 → mm_R μ 17 j = some (18 + j)) ∧ (∀ j, j < 13 → mm_R μ 29 j = some (30 + j)) ∧ 57 ≤ mm_Z μ
theorem so6 {μ : am_M} (hb : Bs μ) : (mm_S μ 1).1 = 6 := by rw [hb.1 1 (by decide) (by decide)]; rfl
theorem so5 {μ : am_M} (hb : Bs μ) : (mm_S μ 2).1 = 5 := by rw [hb.1 2 (by decide) (by decide)]; rfl
theorem so0 {μ : am_M} (hb : Bs μ) : (mm_S μ 21).1 = 0 := by rw [hb.1 21 (by decide) (by decide)]; rfl
theorem so1 {μ : am_M} (hb : Bs μ) : (mm_S μ 25).1 = 1 := by rw [hb.1 25 (by decide) (by decide)]; rfl
theorem so4 {μ : am_M} (hb : Bs μ) : (mm_S μ 43).1 = 4 := by rw [hb.1 43 (by decide) (by decide)]; rfl
theorem so7 {μ : am_M} (hb : Bs μ) : (mm_S μ 46).1 = 7 := by rw [hb.1 46 (by decide) (by decide)]; rfl
theorem sa5_0 {μ : am_M} (hb : Bs μ) : mm_S μ 3 = (11, 12) := by rw [hb.1 3 (by decide) (by decide)]; rfl
theorem sg5_0 {μ : am_M} (hb : Bs μ) {j : Nat} (h : j < 12) : mm_S μ (4 + j) = (8, 24) := by rw [hb.1 (4 + j) (by omega) (by omega)]; exact (co_dec (N := 12) (P := fun j => bs_shp (4 + j) = (8, 24)) (by decide) h)
theorem rg5_0 {μ : am_M} (hb : Bs μ) {j : Nat} (h : j < 12) : mm_R μ 3 j = some (4 + j) := hb.2.2.1 j h
theorem rf5_0 {μ : am_M} (hb : Bs μ) : mm_R μ 2 0 = some 3 := hb.2.1 (2, 0, 3) (by decide)
theorem sa5_1 {μ : am_M} (hb : Bs μ) : mm_S μ 16 = (8, 12) := by rw [hb.1 16 (by decide) (by decide)]; rfl
theorem rf5_1 {μ : am_M} (hb : Bs μ) : mm_R μ 2 1 = some 16 := hb.2.1 (2, 1, 16) (by decide)
theorem sa5_2 {μ : am_M} (hb : Bs μ) : mm_S μ 17 = (11, 2) := by rw [hb.1 17 (by decide) (by decide)]; rfl
theorem sg5_2 {μ : am_M} (hb : Bs μ) {j : Nat} (h : j < 2) : mm_S μ (18 + j) = (8, 24) := by rw [hb.1 (18 + j) (by omega) (by omega)]; exact (co_dec (N := 2) (P := fun j => bs_shp (18 + j) = (8, 24)) (by decide) h)
theorem rg5_2 {μ : am_M} (hb : Bs μ) {j : Nat} (h : j < 2) : mm_R μ 17 j = some (18 + j) := hb.2.2.2.1 j h
theorem rf5_2 {μ : am_M} (hb : Bs μ) : mm_R μ 2 2 = some 17 := hb.2.1 (2, 2, 17) (by decide)
theorem sa5_3 {μ : am_M} (hb : Bs μ) : mm_S μ 20 = (10, 24) := by rw [hb.1 20 (by decide) (by decide)]; rfl
theorem rf5_3 {μ : am_M} (hb : Bs μ) : mm_R μ 2 3 = some 20 := hb.2.1 (2, 3, 20) (by decide)
theorem sa0_0 {μ : am_M} (hb : Bs μ) : mm_S μ 22 = (8, 24) := by rw [hb.1 22 (by decide) (by decide)]; rfl
theorem rf0_0 {μ : am_M} (hb : Bs μ) : mm_R μ 21 0 = some 22 := hb.2.1 (21, 0, 22) (by decide)
theorem sa0_1 {μ : am_M} (hb : Bs μ) : mm_S μ 23 = (10, 24) := by rw [hb.1 23 (by decide) (by decide)]; rfl
theorem rf0_1 {μ : am_M} (hb : Bs μ) : mm_R μ 21 1 = some 23 := hb.2.1 (21, 1, 23) (by decide)
theorem sa0_2 {μ : am_M} (hb : Bs μ) : mm_S μ 24 = (9, 601) := by rw [hb.1 24 (by decide) (by decide)]; rfl
theorem rf0_2 {μ : am_M} (hb : Bs μ) : mm_R μ 21 2 = some 24 := hb.2.1 (21, 2, 24) (by decide)
theorem sa1_0 {μ : am_M} (hb : Bs μ) : mm_S μ 26 = (8, 12) := by rw [hb.1 26 (by decide) (by decide)]; rfl
theorem rf1_0 {μ : am_M} (hb : Bs μ) : mm_R μ 25 0 = some 26 := hb.2.1 (25, 0, 26) (by decide)
theorem sa1_1 {μ : am_M} (hb : Bs μ) : mm_S μ 27 = (8, 12) := by rw [hb.1 27 (by decide) (by decide)]; rfl
theorem rf1_1 {μ : am_M} (hb : Bs μ) : mm_R μ 25 1 = some 27 := hb.2.1 (25, 1, 27) (by decide)
theorem sa1_2 {μ : am_M} (hb : Bs μ) : mm_S μ 28 = (8, 12) := by rw [hb.1 28 (by decide) (by decide)]; rfl
theorem rf1_2 {μ : am_M} (hb : Bs μ) : mm_R μ 25 2 = some 28 := hb.2.1 (25, 2, 28) (by decide)
theorem sa1_3 {μ : am_M} (hb : Bs μ) : mm_S μ 29 = (11, 13) := by rw [hb.1 29 (by decide) (by decide)]; rfl
theorem sg1_3 {μ : am_M} (hb : Bs μ) {j : Nat} (h : j < 13) : mm_S μ (30 + j) = (8, 24) := by rw [hb.1 (30 + j) (by omega) (by omega)]; exact (co_dec (N := 13) (P := fun j => bs_shp (30 + j) = (8, 24)) (by decide) h)
theorem rg1_3 {μ : am_M} (hb : Bs μ) {j : Nat} (h : j < 13) : mm_R μ 29 j = some (30 + j) := hb.2.2.2.2.1 j h
theorem rf1_3 {μ : am_M} (hb : Bs μ) : mm_R μ 25 3 = some 29 := hb.2.1 (25, 3, 29) (by decide)
theorem sa4_0 {μ : am_M} (hb : Bs μ) : mm_S μ 44 = (8, 12) := by rw [hb.1 44 (by decide) (by decide)]; rfl
theorem rf4_0 {μ : am_M} (hb : Bs μ) : mm_R μ 43 0 = some 44 := hb.2.1 (43, 0, 44) (by decide)
theorem sa4_1 {μ : am_M} (hb : Bs μ) : mm_S μ 45 = (8, 12) := by rw [hb.1 45 (by decide) (by decide)]; rfl
theorem rf4_1 {μ : am_M} (hb : Bs μ) : mm_R μ 43 1 = some 45 := hb.2.1 (43, 1, 45) (by decide)
theorem sa7_3 {μ : am_M} (hb : Bs μ) : mm_S μ 47 = (8, 48) := by rw [hb.1 47 (by decide) (by decide)]; rfl
theorem rf7_3 {μ : am_M} (hb : Bs μ) : mm_R μ 46 3 = some 47 := hb.2.1 (46, 3, 47) (by decide)
theorem sa7_4 {μ : am_M} (hb : Bs μ) : mm_S μ 48 = (10, 24) := by rw [hb.1 48 (by decide) (by decide)]; rfl
theorem rf7_4 {μ : am_M} (hb : Bs μ) : mm_R μ 46 4 = some 48 := hb.2.1 (46, 4, 48) (by decide)
theorem sa7_5 {μ : am_M} (hb : Bs μ) : mm_S μ 49 = (8, 288) := by rw [hb.1 49 (by decide) (by decide)]; rfl
theorem rf7_5 {μ : am_M} (hb : Bs μ) : mm_R μ 46 5 = some 49 := hb.2.1 (46, 5, 49) (by decide)
theorem sa7_14 {μ : am_M} (hb : Bs μ) : mm_S μ 50 = (8, 24) := by rw [hb.1 50 (by decide) (by decide)]; rfl
theorem rf7_14 {μ : am_M} (hb : Bs μ) : mm_R μ 46 14 = some 50 := hb.2.1 (46, 14, 50) (by decide)
theorem sa7_19 {μ : am_M} (hb : Bs μ) : mm_S μ 51 = (8, 12) := by rw [hb.1 51 (by decide) (by decide)]; rfl
theorem rf7_19 {μ : am_M} (hb : Bs μ) : mm_R μ 46 19 = some 51 := hb.2.1 (46, 19, 51) (by decide)
theorem sa7_20 {μ : am_M} (hb : Bs μ) : mm_S μ 52 = (8, 12) := by rw [hb.1 52 (by decide) (by decide)]; rfl
theorem rf7_20 {μ : am_M} (hb : Bs μ) : mm_R μ 46 20 = some 52 := hb.2.1 (46, 20, 52) (by decide)
theorem sa7_23 {μ : am_M} (hb : Bs μ) : mm_S μ 53 = (8, 24) := by rw [hb.1 53 (by decide) (by decide)]; rfl
theorem rf7_23 {μ : am_M} (hb : Bs μ) : mm_R μ 46 23 = some 53 := hb.2.1 (46, 23, 53) (by decide)
theorem sa7_24 {μ : am_M} (hb : Bs μ) : mm_S μ 54 = (10, 24) := by rw [hb.1 54 (by decide) (by decide)]; rfl
theorem rf7_24 {μ : am_M} (hb : Bs μ) : mm_R μ 46 24 = some 54 := hb.2.1 (46, 24, 54) (by decide)
theorem sa7_25 {μ : am_M} (hb : Bs μ) : mm_S μ 55 = (9, 1300) := by rw [hb.1 55 (by decide) (by decide)]; rfl
theorem rf7_25 {μ : am_M} (hb : Bs μ) : mm_R μ 46 25 = some 55 := hb.2.1 (46, 25, 55) (by decide)
theorem rf6_0 {μ : am_M} (hb : Bs μ) : mm_R μ 1 0 = some 2 := hb.2.1 (1, 0, 2) (by decide)
theorem rf6_1 {μ : am_M} (hb : Bs μ) : mm_R μ 1 1 = some 21 := hb.2.1 (1, 1, 21) (by decide)
theorem rf6_2 {μ : am_M} (hb : Bs μ) : mm_R μ 1 2 = some 25 := hb.2.1 (1, 2, 25) (by decide)
theorem rf6_3 {μ : am_M} (hb : Bs μ) : mm_R μ 1 3 = some 43 := hb.2.1 (1, 3, 43) (by decide)
theorem Bs.z {μ : am_M} (hb : Bs μ) : 57 ≤ mm_Z μ := hb.2.2.2.2.2
theorem sa56 {μ : am_M} (hb : Bs μ) : mm_S μ 56 = (9, 1) := by rw [hb.1 56 (by decide) (by decide)]; rfl
/-- what never changes of a race that began at q: L learning instances -/
def Rc (μ : am_M) (q L : Nat) : Prop := 57 ≤ q ∧ mm_S μ q = (3, 0) ∧ mm_S μ (q + 1) = (2, 0) ∧ mm_S μ (q + 2) = (11, 12) ∧ (∀ j, j < 12 → mm_S μ (q + 3 + j) = (8, 24)) ∧ mm_S μ (q + 15) = (8, 12) ∧ mm_S μ (q + 16) = (8, 12) ∧ mm_S μ (q + 17) = (8, 12) ∧ mm_S μ (q + 18) = (8, 12) ∧ mm_S μ (q + 19) = (8, L) ∧ L ≤ 24 ∧
  mm_R μ (q + 1) 0 = some 2 ∧ mm_R μ (q + 1) 1 = some 21 ∧ mm_R μ (q + 1) 2 = some q ∧ mm_R μ (q + 1) 3 = some (q + 19) ∧ mm_R μ (q + 1) 5 = some (q + 2) ∧ mm_R μ (q + 1) 6 = some (q + 15) ∧ mm_R μ (q + 1) 7 = some (q + 16) ∧ mm_R μ (q + 1) 8 = some (q + 17) ∧ mm_R μ (q + 1) 9 = some (q + 18) ∧ (∀ j, j < 12 → mm_R μ (q + 2) j = some (q + 3 + j))
section RCX
variable {μ : am_M} {q L : Nat}
theorem so3 (hr : Rc μ q L) : (mm_S μ q).1 = 3 := by rw [hr.2.1]
theorem so2 (hr : Rc μ q L) : (mm_S μ (q + 1)).1 = 2 := by rw [hr.2.2.1]
theorem sa2_5 (hr : Rc μ q L) : mm_S μ (q + 2) = (11, 12) := hr.2.2.2.1
theorem sg2_5 (hr : Rc μ q L) {j : Nat} (h : j < 12) : mm_S μ (q + 3 + j) = (8, 24) := hr.2.2.2.2.1 j h
theorem sa2_6 (hr : Rc μ q L) : mm_S μ (q + 15) = (8, 12) := hr.2.2.2.2.2.1
theorem sa2_7 (hr : Rc μ q L) : mm_S μ (q + 16) = (8, 12) := hr.2.2.2.2.2.2.1
theorem sa2_8 (hr : Rc μ q L) : mm_S μ (q + 17) = (8, 12) := hr.2.2.2.2.2.2.2.1
theorem sa2_9 (hr : Rc μ q L) : mm_S μ (q + 18) = (8, 12) := hr.2.2.2.2.2.2.2.2.1
theorem sa2_3 (hr : Rc μ q L) : mm_S μ (q + 19) = (8, L) := hr.2.2.2.2.2.2.2.2.2.1
theorem Rc.l (hr : Rc μ q L) : L ≤ 24 := hr.2.2.2.2.2.2.2.2.2.2.1
theorem Rc.qq (hr : Rc μ q L) : 57 ≤ q := hr.1
theorem rf2_0 (hr : Rc μ q L) : mm_R μ (q + 1) 0 = some 2 := hr.2.2.2.2.2.2.2.2.2.2.2.1
theorem rf2_1 (hr : Rc μ q L) : mm_R μ (q + 1) 1 = some 21 := hr.2.2.2.2.2.2.2.2.2.2.2.2.1
theorem rf2_2 (hr : Rc μ q L) : mm_R μ (q + 1) 2 = some q := hr.2.2.2.2.2.2.2.2.2.2.2.2.2.1
theorem rf2_3 (hr : Rc μ q L) : mm_R μ (q + 1) 3 = some (q + 19) := hr.2.2.2.2.2.2.2.2.2.2.2.2.2.2.1
theorem rf2_5 (hr : Rc μ q L) : mm_R μ (q + 1) 5 = some (q + 2) := hr.2.2.2.2.2.2.2.2.2.2.2.2.2.2.2.1
theorem rf2_6 (hr : Rc μ q L) : mm_R μ (q + 1) 6 = some (q + 15) := hr.2.2.2.2.2.2.2.2.2.2.2.2.2.2.2.2.1
theorem rf2_7 (hr : Rc μ q L) : mm_R μ (q + 1) 7 = some (q + 16) := hr.2.2.2.2.2.2.2.2.2.2.2.2.2.2.2.2.2.1
theorem rf2_8 (hr : Rc μ q L) : mm_R μ (q + 1) 8 = some (q + 17) := hr.2.2.2.2.2.2.2.2.2.2.2.2.2.2.2.2.2.2.1
theorem rf2_9 (hr : Rc μ q L) : mm_R μ (q + 1) 9 = some (q + 18) := hr.2.2.2.2.2.2.2.2.2.2.2.2.2.2.2.2.2.2.2.1
theorem rg2_5 (hr : Rc μ q L) {j : Nat} (h : j < 12) : mm_R μ (q + 2) j = some (q + 3 + j) := hr.2.2.2.2.2.2.2.2.2.2.2.2.2.2.2.2.2.2.2.2 j h
end RCX
/-- the same cells, the same references -/
def Fr (μ μ' : am_M) : Prop := mm_S μ' = mm_S μ ∧ mm_R μ' = mm_R μ ∧ mm_Z μ' = mm_Z μ
theorem Fr.rf (μ : am_M) : Fr μ μ := ⟨rfl, rfl, rfl⟩
theorem Fr.tr {μ μ' μ'' : am_M} (h : Fr μ μ') (h2 : Fr μ' μ'') : Fr μ μ'' := ⟨h2.1.trans h.1, h2.2.1.trans h.2.1, h2.2.2.trans h.2.2⟩
theorem Bs.fr {μ μ' : am_M} (hb : Bs μ) (h : Fr μ μ') : Bs μ' := by
  unfold Bs at *
  rw [h.1, h.2.1, h.2.2]
  exact hb
theorem Rc.fr {μ μ' : am_M} {q L : Nat} (hb : Rc μ q L) (h : Fr μ μ') : Rc μ' q L := by
  unfold Rc at *
  rw [h.1, h.2.1]
  exact hb
/-- a truth as the machine has it -/
def bz (P : Prop) [Decidable P] : Int32 := if P then 1 else 0
theorem bz_0 {P : Prop} [Decidable P] : bz P = 0 ↔ ¬ P := by
  unfold bz
  by_cases h : P
  · rw [if_pos h]; exact ⟨fun q => absurd q (by decide), fun q => absurd h q⟩
  · rw [if_neg h]; exact ⟨fun _ => h, fun _ => rfl⟩
theorem bz_1 {P : Prop} [Decidable P] : bz P = 1 ↔ P := by
  unfold bz
  by_cases h : P
  · rw [if_pos h]; exact ⟨fun _ => h, fun _ => rfl⟩
  · rw [if_neg h]; exact ⟨fun q => absurd q (by decide), fun q => absurd q h⟩
theorem bz_t {P : Prop} [Decidable P] (h : P) : (1 : Int32) = bz P := (bz_1.mpr h).symm
theorem bz_f {P : Prop} [Decidable P] (h : ¬ P) : (0 : Int32) = bz P := (bz_0.mpr h).symm
theorem bz_01 {P : Prop} [Decidable P] : bz P = 0 ∨ bz P = 1 := by by_cases h : P; exact Or.inr (bz_1.mpr h); exact Or.inl (bz_0.mpr h)
theorem nI_inc (n : Nat) : nI n + Int32.ofInt 1 = nI (n + 1) := nI_1 n
theorem nI_dec {n : Nat} (h : 0 < n) : nI n + Int32.ofInt (-1) = nI (n - 1) := by
  obtain ⟨k, rfl⟩ : ∃ k, n = k + 1 := ⟨n - 1, by omega⟩
  rw [Nat.add_sub_cancel]
  exact pk_m1 k
/-- an int that lies in a range of naturals -/
theorem nI_rg {x : Int32} {n : Nat} (h0 : ¬ x < 0) (h1 : x < nI n) (hn : n < 2 ^ 31) : ∃ j, j < n ∧ x = nI j := by
  obtain ⟨j, hj, rfl⟩ := nI_of h0
  exact ⟨j, (nI_ltI hj hn).mp h1, rfl⟩
