theorem st_S {ν ν' : am_M} {z c k a : Nat} {o : Option Nat} (h : Kp2 (mm_nw (mm_sR ν 1 k o) c 0) ν' z) (hz : mm_Z ν = z) (ha : a < z) : mm_S ν' a = mm_S ν a := (h.1 a ha).trans (by rw [mS_nw, if_neg (by rw [mZ_sR]; omega), mS_sR])
theorem st_I {ν ν' : am_M} {z c k a j : Nat} {o : Option Nat} (h : Kp2 (mm_nw (mm_sR ν 1 k o) c 0) ν' z) (hz : mm_Z ν = z) (ha : a < z) : mm_I ν' a j = mm_I ν a j := (h.2.1 a j ha).trans (by rw [mI_nw, if_neg (by rw [mZ_sR]; omega), mI_sR])
theorem st_R {ν ν' : am_M} {z c k a j : Nat} {o : Option Nat} (h : Kp2 (mm_nw (mm_sR ν 1 k o) c 0) ν' z) (hz : mm_Z ν = z) (ha : a < z) (h1 : a ≠ 1) : mm_R ν' a j = mm_R ν a j := (h.2.2.2 a j ha).trans (by rw [mR_nw, if_neg (by rw [mZ_sR]; omega), mR_sR, if_neg (fun q => h1 q.1)])
theorem st_R1 {ν ν' : am_M} {z c k j : Nat} {o : Option Nat} (h : Kp2 (mm_nw (mm_sR ν 1 k o) c 0) ν' z) (hz : mm_Z ν = z) (ha : 1 < z) : mm_R ν' 1 j = if j = k then o else mm_R ν 1 j := (h.2.2.2 1 j ha).trans (by
  rw [mR_nw, if_neg (by rw [mZ_sR]; omega), mR_sR]
  by_cases e : j = k
  · rw [if_pos ⟨rfl, e⟩, if_pos e]
  · rw [if_neg (fun q => e q.2), if_neg e])
def St6 (μ' : am_M) : Prop := (∀ n, 0 < n → n < 46 → mm_S μ' n = bs_shp n) ∧ (∀ r ∈ bs_ref, r.1 < 46 → mm_R μ' r.1 r.2.1 = some r.2.2) ∧ (∀ j, j < 12 → mm_R μ' 3 j = some (4 + j)) ∧ (∀ j, j < 2 → mm_R μ' 17 j = some (18 + j)) ∧ (∀ j, j < 13 → mm_R μ' 29 j = some (30 + j)) ∧ mm_Z μ' = 46 ∧ mm_R μ' 1 4 = none ∧ mm_I μ' 2 4 = 0 ∧ mm_I μ' 2 5 = 0 ∧ (∀ k, mm_I μ' 16 k = 0) ∧ (∀ s i, s < 12 → i < 24 → mm_I μ' (4 + s) i = -1)
set_option maxHeartbeats 1000000 in
set_option maxRecDepth 100000 in
theorem st6_all {ν1 ν2 ν3 ν4 : am_M} (s1 : mm_S ν1 1 = (6, 0)) (z5 : mm_Z ν1 = 21) (z0 : mm_Z ν2 = 25) (z1 : mm_Z ν3 = 43) (z4 : mm_Z ν4 = 46) (k0 : Kp2 (mm_nw (mm_sR ν1 1 0 (some 2)) 0 0) ν2 21) (k1 : Kp2 (mm_nw (mm_sR ν2 1 1 (some 21)) 1 0) ν3 25) (k4 : Kp2 (mm_nw (mm_sR ν3 1 2 (some 25)) 4 0) ν4 43)
 (f5_0 : mm_S ν1 2 = (5, 0)) (f5_1 : mm_S ν1 3 = (11, 12)) (f5_2 : (∀ j, j < 12 → mm_S ν1 (4 + j) = (8, 24))) (f5_3 : mm_S ν1 16 = (8, 12)) (f5_4 : mm_S ν1 17 = (11, 2)) (f5_5 : (∀ j, j < 2 → mm_S ν1 (18 + j) = (8, 24))) (f5_6 : mm_S ν1 20 = (10, 24)) (f5_7 : mm_R ν1 2 0 = some 3) (f5_8 : (∀ j, j < 12 → mm_R ν1 3 j = some (4 + j))) (f5_9 : mm_R ν1 2 1 = some 16) (f5_10 : mm_R ν1 2 2 = some 17) (f5_11 : (∀ j, j < 2 → mm_R ν1 17 j = some (18 + j))) (f5_12 : mm_R ν1 2 3 = some 20) (f0_0 : mm_S ν2 21 = (0, 0)) (f0_1 : mm_S ν2 22 = (8, 24)) (f0_2 : mm_S ν2 23 = (10, 24)) (f0_3 : mm_S ν2 24 = (9, 601)) (f0_4 : mm_R ν2 21 0 = some 22) (f0_5 : mm_R ν2 21 1 = some 23) (f0_6 : mm_R ν2 21 2 = some 24) (f1_0 : mm_S ν3 25 = (1, 0)) (f1_1 : mm_S ν3 26 = (8, 12)) (f1_2 : mm_S ν3 27 = (8, 12)) (f1_3 : mm_S ν3 28 = (8, 12)) (f1_4 : mm_S ν3 29 = (11, 13)) (f1_5 : (∀ j, j < 13 → mm_S ν3 (30 + j) = (8, 24))) (f1_6 : mm_R ν3 25 0 = some 26) (f1_7 : mm_R ν3 25 1 = some 27) (f1_8 : mm_R ν3 25 2 = some 28) (f1_9 : mm_R ν3 25 3 = some 29) (f1_10 : (∀ j, j < 13 → mm_R ν3 29 j = some (30 + j))) (f4_0 : mm_S ν4 43 = (4, 0)) (f4_1 : mm_S ν4 44 = (8, 12)) (f4_2 : mm_S ν4 45 = (8, 12)) (f4_3 : mm_R ν4 43 0 = some 44) (f4_4 : mm_R ν4 43 1 = some 45)
  (i4 : mm_I ν1 2 4 = 0) (i5 : mm_I ν1 2 5 = 0) (i16 : ∀ k, mm_I ν1 16 k = 0) (ic : ∀ s i, s < 12 → i < 24 → mm_I ν1 (4 + s) i = -1) : St6 (mm_sR (mm_sR ν4 1 3 (some 43)) 1 4 none) := by
  have c4 : ∀ a, a < 46 → mm_S ν4 a = mm_S ν4 a := fun _ _ => rfl
  have c3 : ∀ a, a < 43 → mm_S ν4 a = mm_S ν3 a := fun a ha => st_S k4 z1 ha
  have c2 : ∀ a, a < 25 → mm_S ν4 a = mm_S ν2 a := fun a ha => (c3 a (by omega)).trans (st_S k1 z0 ha)
  have c1 : ∀ a, a < 21 → mm_S ν4 a = mm_S ν1 a := fun a ha => (c2 a (by omega)).trans (st_S k0 z5 ha)
  have e3 : ∀ a j, a < 43 → mm_I ν4 a j = mm_I ν3 a j := fun a j ha => st_I k4 z1 ha
  have e1 : ∀ a j, a < 21 → mm_I ν4 a j = mm_I ν1 a j := fun a j ha => (e3 a j (by omega)).trans ((st_I k1 z0 (by omega)).trans (st_I k0 z5 ha))
  have sR5 : ∀ a j, a ≠ 1 → mm_R (mm_sR (mm_sR ν4 1 3 (some 43)) 1 4 none) a j = mm_R ν4 a j := fun a j ha => by rw [mR_sR, if_neg (fun q => ha q.1), mR_sR, if_neg (fun q => ha q.1)]
  have d4 : ∀ a j, a < 46 → a ≠ 1 → mm_R (mm_sR (mm_sR ν4 1 3 (some 43)) 1 4 none) a j = mm_R ν4 a j := fun a j _ ha => sR5 a j ha
  have d3 : ∀ a j, a < 43 → a ≠ 1 → mm_R (mm_sR (mm_sR ν4 1 3 (some 43)) 1 4 none) a j = mm_R ν3 a j := fun a j h1 h2 => (d4 a j (by omega) h2).trans (st_R k4 z1 h1 h2)
  have d2 : ∀ a j, a < 25 → a ≠ 1 → mm_R (mm_sR (mm_sR ν4 1 3 (some 43)) 1 4 none) a j = mm_R ν2 a j := fun a j h1 h2 => (d3 a j (by omega) h2).trans (st_R k1 z0 h1 h2)
  have d1 : ∀ a j, a < 21 → a ≠ 1 → mm_R (mm_sR (mm_sR ν4 1 3 (some 43)) 1 4 none) a j = mm_R ν1 a j := fun a j h1 h2 => (d2 a j (by omega) h2).trans (st_R k0 z5 h1 h2)
  have r10 : mm_R (mm_sR (mm_sR ν4 1 3 (some 43)) 1 4 none) 1 0 = some 2 := by rw [mR_sR, if_neg (by decide), mR_sR, if_neg (by decide), st_R1 k4 z1 (by decide), if_neg (by decide), st_R1 k1 z0 (by decide), if_neg (by decide), st_R1 k0 z5 (by decide), if_pos rfl]
  have r11 : mm_R (mm_sR (mm_sR ν4 1 3 (some 43)) 1 4 none) 1 1 = some 21 := by rw [mR_sR, if_neg (by decide), mR_sR, if_neg (by decide), st_R1 k4 z1 (by decide), if_neg (by decide), st_R1 k1 z0 (by decide), if_pos rfl]
  have r12 : mm_R (mm_sR (mm_sR ν4 1 3 (some 43)) 1 4 none) 1 2 = some 25 := by rw [mR_sR, if_neg (by decide), mR_sR, if_neg (by decide), st_R1 k4 z1 (by decide), if_pos rfl]
  have r13 : mm_R (mm_sR (mm_sR ν4 1 3 (some 43)) 1 4 none) 1 3 = some 43 := by rw [mR_sR, if_neg (by decide), mR_sR, if_pos ⟨rfl, rfl⟩]
  refine ⟨fun n h0 h1 => ?_, fun r hr h46 => ?_, fun j hj => ?_, fun j hj => ?_, fun j hj => ?_, z4, by rw [mR_sR, if_pos ⟨rfl, rfl⟩], (e1 2 4 (by decide)).trans i4, (e1 2 5 (by decide)).trans i5, fun k => (e1 16 k (by decide)).trans (i16 k), fun s i hs hi => (e1 (4 + s) i (by omega)).trans (ic s i hs hi)⟩
  · rcases (show n = 1 ∨ n = 2 ∨ n = 3 ∨ n = 4 ∨ n = 5 ∨ n = 6 ∨ n = 7 ∨ n = 8 ∨ n = 9 ∨ n = 10 ∨ n = 11 ∨ n = 12 ∨ n = 13 ∨ n = 14 ∨ n = 15 ∨ n = 16 ∨ n = 17 ∨ n = 18 ∨ n = 19 ∨ n = 20 ∨ n = 21 ∨ n = 22 ∨ n = 23 ∨ n = 24 ∨ n = 25 ∨ n = 26 ∨ n = 27 ∨ n = 28 ∨ n = 29 ∨ n = 30 ∨ n = 31 ∨ n = 32 ∨ n = 33 ∨ n = 34 ∨ n = 35 ∨ n = 36 ∨ n = 37 ∨ n = 38 ∨ n = 39 ∨ n = 40 ∨ n = 41 ∨ n = 42 ∨ n = 43 ∨ n = 44 ∨ n = 45 by omega) with rfl | rfl | rfl | rfl | rfl | rfl | rfl | rfl | rfl | rfl | rfl | rfl | rfl | rfl | rfl | rfl | rfl | rfl | rfl | rfl | rfl | rfl | rfl | rfl | rfl | rfl | rfl | rfl | rfl | rfl | rfl | rfl | rfl | rfl | rfl | rfl | rfl | rfl | rfl | rfl | rfl | rfl | rfl | rfl | rfl
    · exact (c1 1 (by decide)).trans s1
    · exact (c1 2 (by decide)).trans f5_0
    · exact (c1 3 (by decide)).trans f5_1
    · exact (c1 4 (by decide)).trans (f5_2 0 (by decide))
    · exact (c1 5 (by decide)).trans (f5_2 1 (by decide))
    · exact (c1 6 (by decide)).trans (f5_2 2 (by decide))
    · exact (c1 7 (by decide)).trans (f5_2 3 (by decide))
    · exact (c1 8 (by decide)).trans (f5_2 4 (by decide))
    · exact (c1 9 (by decide)).trans (f5_2 5 (by decide))
    · exact (c1 10 (by decide)).trans (f5_2 6 (by decide))
    · exact (c1 11 (by decide)).trans (f5_2 7 (by decide))
    · exact (c1 12 (by decide)).trans (f5_2 8 (by decide))
    · exact (c1 13 (by decide)).trans (f5_2 9 (by decide))
    · exact (c1 14 (by decide)).trans (f5_2 10 (by decide))
    · exact (c1 15 (by decide)).trans (f5_2 11 (by decide))
    · exact (c1 16 (by decide)).trans f5_3
    · exact (c1 17 (by decide)).trans f5_4
    · exact (c1 18 (by decide)).trans (f5_5 0 (by decide))
    · exact (c1 19 (by decide)).trans (f5_5 1 (by decide))
    · exact (c1 20 (by decide)).trans f5_6
    · exact (c2 21 (by decide)).trans f0_0
    · exact (c2 22 (by decide)).trans f0_1
    · exact (c2 23 (by decide)).trans f0_2
    · exact (c2 24 (by decide)).trans f0_3
    · exact (c3 25 (by decide)).trans f1_0
    · exact (c3 26 (by decide)).trans f1_1
    · exact (c3 27 (by decide)).trans f1_2
    · exact (c3 28 (by decide)).trans f1_3
    · exact (c3 29 (by decide)).trans f1_4
    · exact (c3 30 (by decide)).trans (f1_5 0 (by decide))
    · exact (c3 31 (by decide)).trans (f1_5 1 (by decide))
    · exact (c3 32 (by decide)).trans (f1_5 2 (by decide))
    · exact (c3 33 (by decide)).trans (f1_5 3 (by decide))
    · exact (c3 34 (by decide)).trans (f1_5 4 (by decide))
    · exact (c3 35 (by decide)).trans (f1_5 5 (by decide))
    · exact (c3 36 (by decide)).trans (f1_5 6 (by decide))
    · exact (c3 37 (by decide)).trans (f1_5 7 (by decide))
    · exact (c3 38 (by decide)).trans (f1_5 8 (by decide))
    · exact (c3 39 (by decide)).trans (f1_5 9 (by decide))
    · exact (c3 40 (by decide)).trans (f1_5 10 (by decide))
    · exact (c3 41 (by decide)).trans (f1_5 11 (by decide))
    · exact (c3 42 (by decide)).trans (f1_5 12 (by decide))
    · exact (c4 43 (by decide)).trans f4_0
    · exact (c4 44 (by decide)).trans f4_1
    · exact (c4 45 (by decide)).trans f4_2
  · simp only [bs_ref, List.mem_cons, List.not_mem_nil, or_false] at hr
    rcases hr with rfl | rfl | rfl | rfl | rfl | rfl | rfl | rfl | rfl | rfl | rfl | rfl | rfl | rfl | rfl | rfl | rfl | rfl | rfl | rfl | rfl | rfl | rfl | rfl | rfl | rfl
    · exact (d1 2 0 (by decide) (by decide)).trans f5_7
    · exact (d1 2 1 (by decide) (by decide)).trans f5_9
    · exact (d1 2 2 (by decide) (by decide)).trans f5_10
    · exact (d1 2 3 (by decide) (by decide)).trans f5_12
    · exact (d2 21 0 (by decide) (by decide)).trans f0_4
    · exact (d2 21 1 (by decide) (by decide)).trans f0_5
    · exact (d2 21 2 (by decide) (by decide)).trans f0_6
    · exact (d3 25 0 (by decide) (by decide)).trans f1_6
    · exact (d3 25 1 (by decide) (by decide)).trans f1_7
    · exact (d3 25 2 (by decide) (by decide)).trans f1_8
    · exact (d3 25 3 (by decide) (by decide)).trans f1_9
    · exact (d4 43 0 (by decide) (by decide)).trans f4_3
    · exact (d4 43 1 (by decide) (by decide)).trans f4_4
    · exact absurd h46 (by decide)
    · exact absurd h46 (by decide)
    · exact absurd h46 (by decide)
    · exact absurd h46 (by decide)
    · exact absurd h46 (by decide)
    · exact absurd h46 (by decide)
    · exact absurd h46 (by decide)
    · exact absurd h46 (by decide)
    · exact absurd h46 (by decide)
    · exact r10
    · exact r11
    · exact r12
    · exact r13
  · exact (d1 3 j (by decide) (by decide)).trans (f5_8 j hj)
  · exact (d1 17 j (by decide) (by decide)).trans (f5_11 j hj)
  · exact (d3 29 j (by decide) (by decide)).trans (f1_10 j hj)
set_option maxRecDepth 100000 in
set_option maxHeartbeats 1000000 in
theorem ct_X6_init {E : am_E} {μ : am_M} (hz : mm_Z μ = 2) (ho : mm_S μ 1 = (6, 0)) : am_Ct E yX6_init cX6_init 1 none rmX6_init [.ref 1] μ (fun v μ' => v = none ∧ St6 μ') := by
  refine am_Ct.of (ls := [some (.ref 1)]) (by decide) (Nat.le_of_ble_eq_true rfl) rfl (fun C fx hnm => ?_)
  refine am_aload_n fx dX6_init_0 rfl ?_
  refine am_objInit fx dX6_init_1 moX6_3 kw_oi kw_oc ⟨by decide, Nat.le_of_ble_eq_true rfl⟩ ?_
  refine am_aload_n fx dX6_init_4 rfl ?_
  refine am_new fx dX6_init_5 (ci := 5) (by decide) (N := 6) rfl klX6_9 ktX5 knX5 (by decide) (by decide) (by decide) ?_
  rw [show mm_Z (μ) = 2 from hz]
  have a5 : mm_S (mm_nw (μ) 5 0) 1 = (6, 0) := nw_so ho (by show 1 < mm_Z _; rw [show mm_Z (μ) = 2 from hz]; decide)
  have o5 : mm_S (mm_nw (μ) 5 0) 2 = (5, 0) := by rw [mS_nw, if_pos (show 2 = mm_Z (μ) from (hz).symm)]
  have y5 : mm_Z (mm_nw (μ) 5 0) = 3 := by rw [mZ_nw, show mm_Z (μ) = 2 from hz]
  refine am_dup_ref fx dX6_init_8 ?_
  refine am_callI fx dX6_init_9 mkX6_11 (ct_X5_init y5 o5) rfl (Nat.le_of_ble_eq_true rfl) ⟨by decide, by decide⟩ ⟨Nat.le_of_ble_eq_true rfl, Nat.le_of_ble_eq_true rfl⟩ rfl ?_
  rintro _ ν1 ⟨rfl, k5, f5_0, f5_1, f5_2, f5_3, f5_4, f5_5, f5_6, f5_7, f5_8, f5_9, f5_10, f5_11, f5_12, z5, i4, i5, i16, ic⟩
  have s1 : mm_S ν1 1 = (6, 0) := (k5.1 1 (by decide)).trans a5
  refine am_putFR fx hnm dX6_init_12 fgX6_12 (by decide) (by decide) rfl rfl rfl (congrArg Prod.fst s1) ?_
  refine am_aload_n fx dX6_init_15 rfl ?_
  refine am_new fx dX6_init_16 (ci := 0) (by decide) (N := 6) rfl klX6_18 ktX0 knX0 (by decide) (by decide) (by decide) ?_
  rw [show mm_Z (mm_sR ν1 1 0 (some 2)) = 21 from z5]
  have a0 : mm_S (mm_nw (mm_sR ν1 1 0 (some 2)) 0 0) 1 = (6, 0) := nw_so s1 (by show 1 < mm_Z _; rw [show mm_Z (mm_sR ν1 1 0 (some 2)) = 21 from z5]; decide)
  have o0 : mm_S (mm_nw (mm_sR ν1 1 0 (some 2)) 0 0) 21 = (0, 0) := by rw [mS_nw, if_pos (show 21 = mm_Z (mm_sR ν1 1 0 (some 2)) from (z5).symm)]
  have y0 : mm_Z (mm_nw (mm_sR ν1 1 0 (some 2)) 0 0) = 22 := by rw [mZ_nw, show mm_Z (mm_sR ν1 1 0 (some 2)) = 21 from z5]
  refine am_dup_ref fx dX6_init_19 ?_
  refine am_callI fx dX6_init_20 mkX6_20 (ct_X0_init y0 o0) rfl (Nat.le_of_ble_eq_true rfl) ⟨by decide, by decide⟩ ⟨Nat.le_of_ble_eq_true rfl, Nat.le_of_ble_eq_true rfl⟩ rfl ?_
  rintro _ ν2 ⟨rfl, k0, f0_0, f0_1, f0_2, f0_3, f0_4, f0_5, f0_6, z0⟩
  have s2 : mm_S ν2 1 = (6, 0) := (k0.1 1 (by decide)).trans a0
  refine am_putFR fx hnm dX6_init_23 fgX6_21 (by decide) (by decide) rfl rfl rfl (congrArg Prod.fst s2) ?_
  refine am_aload_n fx dX6_init_26 rfl ?_
  refine am_new fx dX6_init_27 (ci := 1) (by decide) (N := 7) rfl klX6_25 ktX1 knX1 (by decide) (by decide) (by decide) ?_
  rw [show mm_Z (mm_sR ν2 1 1 (some 21)) = 25 from z0]
  have a1 : mm_S (mm_nw (mm_sR ν2 1 1 (some 21)) 1 0) 1 = (6, 0) := nw_so s2 (by show 1 < mm_Z _; rw [show mm_Z (mm_sR ν2 1 1 (some 21)) = 25 from z0]; decide)
  have o1 : mm_S (mm_nw (mm_sR ν2 1 1 (some 21)) 1 0) 25 = (1, 0) := by rw [mS_nw, if_pos (show 25 = mm_Z (mm_sR ν2 1 1 (some 21)) from (z0).symm)]
  have y1 : mm_Z (mm_nw (mm_sR ν2 1 1 (some 21)) 1 0) = 26 := by rw [mZ_nw, show mm_Z (mm_sR ν2 1 1 (some 21)) = 25 from z0]
  refine am_dup_ref fx dX6_init_30 ?_
  refine am_callI fx dX6_init_31 mkX6_27 (ct_X1_init y1 o1) rfl (Nat.le_of_ble_eq_true rfl) ⟨by decide, by decide⟩ ⟨Nat.le_of_ble_eq_true rfl, Nat.le_of_ble_eq_true rfl⟩ rfl ?_
  rintro _ ν3 ⟨rfl, k1, f1_0, f1_1, f1_2, f1_3, f1_4, f1_5, f1_6, f1_7, f1_8, f1_9, f1_10, z1⟩
  have s3 : mm_S ν3 1 = (6, 0) := (k1.1 1 (by decide)).trans a1
  refine am_putFR fx hnm dX6_init_34 fgX6_28 (by decide) (by decide) rfl rfl rfl (congrArg Prod.fst s3) ?_
  refine am_aload_n fx dX6_init_37 rfl ?_
  refine am_new fx dX6_init_38 (ci := 4) (by decide) (N := 7) rfl klX6_32 ktX4 knX4 (by decide) (by decide) (by decide) ?_
  rw [show mm_Z (mm_sR ν3 1 2 (some 25)) = 43 from z1]
  have a4 : mm_S (mm_nw (mm_sR ν3 1 2 (some 25)) 4 0) 1 = (6, 0) := nw_so s3 (by show 1 < mm_Z _; rw [show mm_Z (mm_sR ν3 1 2 (some 25)) = 43 from z1]; decide)
  have o4 : mm_S (mm_nw (mm_sR ν3 1 2 (some 25)) 4 0) 43 = (4, 0) := by rw [mS_nw, if_pos (show 43 = mm_Z (mm_sR ν3 1 2 (some 25)) from (z1).symm)]
  have y4 : mm_Z (mm_nw (mm_sR ν3 1 2 (some 25)) 4 0) = 44 := by rw [mZ_nw, show mm_Z (mm_sR ν3 1 2 (some 25)) = 43 from z1]
  refine am_dup_ref fx dX6_init_41 ?_
  refine am_callI fx dX6_init_42 mkX6_34 (ct_X4_init y4 o4) rfl (Nat.le_of_ble_eq_true rfl) ⟨by decide, by decide⟩ ⟨Nat.le_of_ble_eq_true rfl, Nat.le_of_ble_eq_true rfl⟩ rfl ?_
  rintro _ ν4 ⟨rfl, k4, f4_0, f4_1, f4_2, f4_3, f4_4, z4⟩
  have s4 : mm_S ν4 1 = (6, 0) := (k4.1 1 (by decide)).trans a4
  refine am_putFR fx hnm dX6_init_45 fgX6_35 (by decide) (by decide) rfl rfl rfl (congrArg Prod.fst s4) ?_
  refine am_aload_n fx dX6_init_48 rfl ?_
  refine am_null fx dX6_init_49 ?_
  refine am_putN fx dX6_init_50 fkX6_39 (by decide) (by decide) rfl rfl (congrArg Prod.fst s4) ?_
  refine am_widen (k := (rmX6_init).cells) (n := (rmX6_init).slots) (by decide) (by decide) ?_
  exact am_vret fx dX6_init_53 ⟨rfl, st6_all s1 z5 z0 z1 z4 k0 k1 k4 f5_0 f5_1 f5_2 f5_3 f5_4 f5_5 f5_6 f5_7 f5_8 f5_9 f5_10 f5_11 f5_12 f0_0 f0_1 f0_2 f0_3 f0_4 f0_5 f0_6 f1_0 f1_1 f1_2 f1_3 f1_4 f1_5 f1_6 f1_7 f1_8 f1_9 f1_10 f4_0 f4_1 f4_2 f4_3 f4_4 i4 i5 i16 ic⟩
/-- the memory as the law's loop begins -/
def St0 (μ : am_M) : Prop := Bs μ ∧ mm_Z μ = 57 ∧ mm_R μ 1 4 = none ∧ mm_I μ 2 4 = 0 ∧ mm_I μ 2 5 = 0 ∧ (∀ k, mm_I μ 16 k = 0) ∧ (∀ s i, s < 12 → i < 24 → mm_I μ (4 + s) i = -1) ∧ mm_I μ 46 1 = 0 ∧ mm_I μ 46 2 = 0 ∧ mm_I μ 46 6 = -1 ∧ (∀ k, mm_I μ 49 k = 0)
set_option maxHeartbeats 1000000 in
set_option maxRecDepth 100000 in
theorem st0_all {μ ν : am_M} (h : St6 μ) (k7 : Kp2 (mm_nw μ 7 0) ν 46) (z7 : mm_Z ν = 56) (f7_0 : mm_S ν 46 = (7, 0)) (f7_1 : mm_S ν 47 = (8, 48)) (f7_2 : mm_S ν 48 = (10, 24)) (f7_3 : mm_S ν 49 = (8, 288)) (f7_4 : mm_S ν 50 = (8, 24)) (f7_5 : mm_S ν 51 = (8, 12)) (f7_6 : mm_S ν 52 = (8, 12)) (f7_7 : mm_S ν 53 = (8, 24)) (f7_8 : mm_S ν 54 = (10, 24)) (f7_9 : mm_S ν 55 = (9, 1300)) (f7_10 : mm_R ν 46 3 = some 47) (f7_11 : mm_R ν 46 4 = some 48) (f7_12 : mm_R ν 46 5 = some 49) (f7_13 : mm_R ν 46 14 = some 50) (f7_14 : mm_R ν 46 19 = some 51) (f7_15 : mm_R ν 46 20 = some 52) (f7_16 : mm_R ν 46 23 = some 53) (f7_17 : mm_R ν 46 24 = some 54) (f7_18 : mm_R ν 46 25 = some 55) (j1 : mm_I ν 46 1 = mm_I (mm_nw μ 7 0) 46 1) (j2 : mm_I ν 46 2 = mm_I (mm_nw μ 7 0) 46 2) (j6 : mm_I ν 46 6 = -1) (j49 : ∀ k, mm_I ν 49 k = 0) : St0 (mm_nw ν 9 1) := by
  have hz6 : mm_Z μ = 46 := h.2.2.2.2.2.1
  have b1 : ∀ a, a < 56 → mm_S (mm_nw ν 9 1) a = mm_S ν a := fun a ha => by rw [mS_nw, if_neg (by omega)]
  have b2 : ∀ a j, a < 56 → mm_R (mm_nw ν 9 1) a j = mm_R ν a j := fun a j ha => by rw [mR_nw, if_neg (by omega)]
  have b4 : ∀ a j, a < 56 → mm_I (mm_nw ν 9 1) a j = mm_I ν a j := fun a j ha => by rw [mI_nw, if_neg (by omega)]
  have b0 : ∀ a, a < 46 → mm_S (mm_nw ν 9 1) a = mm_S μ a := fun a ha => (b1 a (by omega)).trans ((k7.1 a ha).trans (by rw [mS_nw, if_neg (by omega)]))
  have b3 : ∀ a j, a < 46 → mm_R (mm_nw ν 9 1) a j = mm_R μ a j := fun a j ha => (b2 a j (by omega)).trans ((k7.2.2.2 a j ha).trans (by rw [mR_nw, if_neg (by omega)]))
  have b5 : ∀ a j, a < 46 → mm_I (mm_nw ν 9 1) a j = mm_I μ a j := fun a j ha => (b4 a j (by omega)).trans ((k7.2.1 a j ha).trans (by rw [mI_nw, if_neg (by omega)]))
  have s56 : mm_S (mm_nw ν 9 1) 56 = (9, 1) := by rw [mS_nw, if_pos z7.symm]
  obtain ⟨hS, hR, q0, q1, q2, -, h14, i4, i5, i16, ic⟩ := id h
  refine ⟨⟨fun n h0 h1 => ?_, fun r hr => ?_, fun j hj => (b3 3 j (by decide)).trans (q0 j hj), fun j hj => (b3 17 j (by decide)).trans (q1 j hj), fun j hj => (b3 29 j (by decide)).trans (q2 j hj), by rw [mZ_nw]; omega⟩, by rw [mZ_nw]; omega, (b3 1 4 (by decide)).trans h14, (b5 2 4 (by decide)).trans i4, (b5 2 5 (by decide)).trans i5, fun k => (b5 16 k (by decide)).trans (i16 k), fun s i hs hi => (b5 (4 + s) i (by omega)).trans (ic s i hs hi), (b4 46 1 (by decide)).trans (j1.trans (by rw [mI_nw, if_pos hz6.symm])), (b4 46 2 (by decide)).trans (j2.trans (by rw [mI_nw, if_pos hz6.symm])), (b4 46 6 (by decide)).trans j6, fun k => (b4 49 k (by decide)).trans (j49 k)⟩
  · rcases (show n < 46 ∨ n = 46 ∨ n = 47 ∨ n = 48 ∨ n = 49 ∨ n = 50 ∨ n = 51 ∨ n = 52 ∨ n = 53 ∨ n = 54 ∨ n = 55 ∨ n = 56 by omega) with hlt | rfl | rfl | rfl | rfl | rfl | rfl | rfl | rfl | rfl | rfl | rfl
    · exact (b0 n hlt).trans (hS n h0 hlt)
    · exact (b1 46 (by decide)).trans f7_0
    · exact (b1 47 (by decide)).trans f7_1
    · exact (b1 48 (by decide)).trans f7_2
    · exact (b1 49 (by decide)).trans f7_3
    · exact (b1 50 (by decide)).trans f7_4
    · exact (b1 51 (by decide)).trans f7_5
    · exact (b1 52 (by decide)).trans f7_6
    · exact (b1 53 (by decide)).trans f7_7
    · exact (b1 54 (by decide)).trans f7_8
    · exact (b1 55 (by decide)).trans f7_9
    · exact s56
  · simp only [bs_ref, List.mem_cons, List.not_mem_nil, or_false] at hr
    rcases hr with rfl | rfl | rfl | rfl | rfl | rfl | rfl | rfl | rfl | rfl | rfl | rfl | rfl | rfl | rfl | rfl | rfl | rfl | rfl | rfl | rfl | rfl | rfl | rfl | rfl | rfl
    · exact (b3 2 0 (by decide)).trans (h.2.1 (2, 0, 3) (by decide) (by decide))
    · exact (b3 2 1 (by decide)).trans (h.2.1 (2, 1, 16) (by decide) (by decide))
    · exact (b3 2 2 (by decide)).trans (h.2.1 (2, 2, 17) (by decide) (by decide))
    · exact (b3 2 3 (by decide)).trans (h.2.1 (2, 3, 20) (by decide) (by decide))
    · exact (b3 21 0 (by decide)).trans (h.2.1 (21, 0, 22) (by decide) (by decide))
    · exact (b3 21 1 (by decide)).trans (h.2.1 (21, 1, 23) (by decide) (by decide))
    · exact (b3 21 2 (by decide)).trans (h.2.1 (21, 2, 24) (by decide) (by decide))
    · exact (b3 25 0 (by decide)).trans (h.2.1 (25, 0, 26) (by decide) (by decide))
    · exact (b3 25 1 (by decide)).trans (h.2.1 (25, 1, 27) (by decide) (by decide))
    · exact (b3 25 2 (by decide)).trans (h.2.1 (25, 2, 28) (by decide) (by decide))
    · exact (b3 25 3 (by decide)).trans (h.2.1 (25, 3, 29) (by decide) (by decide))
    · exact (b3 43 0 (by decide)).trans (h.2.1 (43, 0, 44) (by decide) (by decide))
    · exact (b3 43 1 (by decide)).trans (h.2.1 (43, 1, 45) (by decide) (by decide))
    · exact (b2 46 3 (by decide)).trans f7_10
    · exact (b2 46 4 (by decide)).trans f7_11
    · exact (b2 46 5 (by decide)).trans f7_12
    · exact (b2 46 14 (by decide)).trans f7_13
    · exact (b2 46 19 (by decide)).trans f7_14
    · exact (b2 46 20 (by decide)).trans f7_15
    · exact (b2 46 23 (by decide)).trans f7_16
    · exact (b2 46 24 (by decide)).trans f7_17
    · exact (b2 46 25 (by decide)).trans f7_18
    · exact (b3 1 0 (by decide)).trans (h.2.1 (1, 0, 2) (by decide) (by decide))
    · exact (b3 1 1 (by decide)).trans (h.2.1 (1, 1, 21) (by decide) (by decide))
    · exact (b3 1 2 (by decide)).trans (h.2.1 (1, 2, 25) (by decide) (by decide))
    · exact (b3 1 3 (by decide)).trans (h.2.1 (1, 3, 43) (by decide) (by decide))
