/-! the law's body over the abstract memory -/
def am_sc (E : am_E) (C : am_C) (L : Nat) (xs : Nat → Int32) : Prop := va_X E.2.1.1 L xs (cx_s C) (cx_s C).heap ∧ E.2.1.1 < (cx_s C).heap.size ∧ ¬ E.2.1.2 ≤ E.2.1.1
abbrev lw_ls (i : Nat) : List (Option Value) := [some (.ref 0), some (.ref 1), some (.ref 46), some (.ref 56), some (.int (nI i)), none, none, none]
theorem rm_f1 {cl a m k : Nat} (h : a ≤ k) (hc : cl + k ≤ m) : cl + a ≤ m := by omega
theorem rm_f2 {cl a b m k : Nat} (h : a + b ≤ k) (hc : cl + k ≤ m) : cl + a + b ≤ m := by omega
theorem rm_f3 {cl a b c m k : Nat} (h : a + b + c ≤ k) (hc : cl + k ≤ m) : cl + a + b + c ≤ m := by omega
theorem rm_w2 {cl a b k : Nat} (h : a + b ≤ k) : cl + a + b ≤ cl + k := by omega
theorem rm_w3 {cl a b c k : Nat} (h : a + b + c ≤ k) : cl + a + b + c ≤ cl + k := by omega
theorem lg_self (w : Int64) : lg_cmp w w = 0 := by
  unfold lg_cmp
  rw [if_neg (fun h : w > w => Int64.lt_irrefl h), if_pos rfl]
theorem J.b {μ : am_M} (h : J μ) : Bs μ := by
  obtain ⟨S, N, hT, _⟩ := h
  exact hT.b
theorem and_31 (x : Int32) : ∃ j, j < 32 ∧ x &&& 31 = nI j := by
  refine ⟨(x &&& 31).toBitVec.toNat, ?_, ?_⟩
  · have h : (x &&& 31).toBitVec = x.toBitVec &&& 31#32 := rfl
    rw [h, BitVec.toNat_and]
    exact Nat.lt_succ_of_le Nat.and_le_right
  · refine Int32.toBitVec_inj.mp ?_
    show _ = BitVec.ofNat 32 _
    rw [BitVec.ofNat_toNat, BitVec.setWidth_eq]
theorem sc_lt : ∀ L, L < 8 → nI L - 8 < 0 := by decide
theorem sc_go {L i : Nat} (hL : L ≤ 4096) (hi : i ≤ 4200) (h : ¬ nI L - 8 < nI i) : i + 8 ≤ L := by
  rcases Nat.lt_or_ge L 8 with z | z
  · exact absurd (Int32.lt_of_lt_of_le (sc_lt L z) (nI_pos' (by omega))) h
  · have e : nI L - 8 = nI (L - 8) := by
      have h1 : nI (L - 8) + 8 = nI L := (nI_add (L - 8) 8).trans (congrArg nI (by omega))
      rw [← h1, Int32.add_sub_cancel]
    rw [e, nI_ltI (by omega) (by omega)] at h
    omega
section LAW
variable {E : am_E} {C : am_C} {Q : State → Prop} {μ : am_M} {cl sl L i : Nat} {xs : Nat → Int32}
theorem am_sld {pc : Nat} {ls : List (Option Value)} {st : List Value} (fx : am_F E C code RL 8 ret room_1) (hsc : am_sc E C L xs) (hL : L ≤ 4096) {y : Int32} {j : Nat} (hy : y = nI j) (hj : j < L) (hd : decode code pc = .ok (.iaload, 1)) (kk : am_W E C Q μ cl sl (pc + 1) ls (.int (xs j) :: st)) : am_W E C Q μ cl sl pc ls (.int y :: .ref 0 :: st) := by
  intro H locs la hA hS hl
  subst hy
  refine va_sld fx.1 fx.2.1 hsc.1 hsc.2.1 hsc.2.2 hS (vp_in_nI hj (by omega)) hd ?_
  rw [nI_clamp (by omega)]
  exact kk H locs la hA hS hl
theorem am_sln {pc : Nat} {ls : List (Option Value)} {st : List Value} (fx : am_F E C code RL 8 ret room_1) (hsc : am_sc E C L xs) (hd : decode code pc = .ok (.arraylength, 1)) (kk : am_W E C Q μ cl sl (pc + 1) ls (.int (nI L) :: st)) : am_W E C Q μ cl sl pc ls (.ref 0 :: st) := fun H locs la hA hS hl => va_slen fx.1 fx.2.1 hsc.1 hsc.2.1 hsc.2.2 hS hd (kk H locs la hA hS hl)
set_option maxRecDepth 100000 in
set_option maxHeartbeats 1000000 in
theorem lo_setting (fx : am_F E C code RL 8 ret room_1) (hX : am_X E (cx_s C)) (hsc : am_sc E C L xs) (hL : L ≤ 4096) (hi : i + 8 ≤ L) (hcl : cl + 20 ≤ 601024) (hsl : sl + 393 ≤ 7293034) (hJ : J μ) (kk : ∀ μ', J μ' → am_W E C Q μ' (cl + 20) (sl + 393) 768 (lw_ls i) []) : am_W E C Q μ cl sl 124 (lw_ls i) [] := by
  refine am_aload_n fx dL_law_124 rfl ?_
  refine am_callV fx dL_law_125 mkL_19 (jo_setting hJ) (so6 hJ.b) ⟨by decide, rfl⟩ rfl (Nat.le_of_ble_eq_true rfl) ⟨by decide, by decide⟩ ⟨rm_f1 (by decide) hcl, rm_f1 (by decide) hsl⟩ rfl ?_
  rintro _ μ1 ⟨a, rfl, hb1, hM⟩
  refine am_aload_n fx dL_law_128 rfl ?_
  refine am_callV fx dL_law_129 mkL_23 hM (so7 hb1) ⟨by decide, rfl⟩ rfl (Nat.le_of_ble_eq_true rfl) ⟨by decide, by decide⟩ ⟨rm_f2 (by decide) hcl, rm_f2 (by decide) hsl⟩ rfl ?_
  rintro _ μ2 ⟨rfl, hJ2⟩
  refine am_icmp_eq fx 768 dL_law_132 (by decide) (fun _ => ?_) (fun c => absurd rfl c)
  exact am_widen (rm_w2 (by decide)) (rm_w2 (by decide)) (kk μ2 hJ2)
set_option maxRecDepth 100000 in
set_option maxHeartbeats 1000000 in
theorem lo_instance (fx : am_F E C code RL 8 ret room_1) (hX : am_X E (cx_s C)) (hsc : am_sc E C L xs) (hL : L ≤ 4096) (hi : i + 8 ≤ L) (hcl : cl + 20 ≤ 601024) (hsl : sl + 393 ≤ 7293034) (hJ : J μ) (kk : ∀ μ', J μ' → am_W E C Q μ' (cl + 20) (sl + 393) 768 (lw_ls i) []) : am_W E C Q μ cl sl 137 (lw_ls i) [] := by
  refine am_aload_n fx dL_law_137 rfl ?_
  refine am_aload_n fx dL_law_138 rfl ?_
  refine am_iload fx dL_law_139 rfl ?_
  refine am_iconst (v := 1) fx dL_law_141 (by decide) ?_
  refine am_iadd fx dL_law_142 ?_
  refine am_sld fx hsc hL (j := i + 1) (nI_add i 1) (by omega) dL_law_143 ?_
  refine am_aload_n fx dL_law_144 rfl ?_
  refine am_iload fx dL_law_145 rfl ?_
  refine am_iconst (v := 2) fx dL_law_147 (by decide) ?_
  refine am_iadd fx dL_law_148 ?_
  refine am_sld fx hsc hL (j := i + 2) (nI_add i 2) (by omega) dL_law_149 ?_
  refine am_aload_n fx dL_law_150 rfl ?_
  refine am_iload fx dL_law_151 rfl ?_
  refine am_iconst (v := 3) fx dL_law_153 (by decide) ?_
  refine am_iadd fx dL_law_154 ?_
  refine am_sld fx hsc hL (j := i + 3) (nI_add i 3) (by omega) dL_law_155 ?_
  refine am_if_eq fx 163 dL_law_156 (by decide) (fun c => ?_) (fun c => ?_)
  · skip
    refine am_iconst (v := 0) fx dL_law_163 (by decide) ?_
    refine am_callV fx dL_law_164 mkL_24 (jo_instance hJ _ _ _ (Or.inl rfl)) (so6 hJ.b) ⟨by decide, rfl⟩ rfl (Nat.le_of_ble_eq_true rfl) ⟨by decide, by decide⟩ ⟨rm_f1 (by decide) hcl, rm_f1 (by decide) hsl⟩ rfl ?_
    rintro _ μ1 ⟨a, rfl, hb1, hM⟩
    refine am_aload_n fx dL_law_167 rfl ?_
    refine am_aload_n fx dL_law_168 rfl ?_
    refine am_iload fx dL_law_169 rfl ?_
    refine am_iconst (v := 1) fx dL_law_171 (by decide) ?_
    refine am_iadd fx dL_law_172 ?_
    refine am_sld fx hsc hL (j := i + 1) (nI_add i 1) (by omega) dL_law_173 ?_
    refine am_aload_n fx dL_law_174 rfl ?_
    refine am_iload fx dL_law_175 rfl ?_
    refine am_iconst (v := 2) fx dL_law_177 (by decide) ?_
    refine am_iadd fx dL_law_178 ?_
    refine am_sld fx hsc hL (j := i + 2) (nI_add i 2) (by omega) dL_law_179 ?_
    refine am_aload_n fx dL_law_180 rfl ?_
    refine am_iload fx dL_law_181 rfl ?_
    refine am_iconst (v := 3) fx dL_law_183 (by decide) ?_
    refine am_iadd fx dL_law_184 ?_
    refine am_sld fx hsc hL (j := i + 3) (nI_add i 3) (by omega) dL_law_185 ?_
    refine am_if_eq fx 193 dL_law_186 (by decide) (fun _ => ?_) (fun d => absurd c d)
    refine am_iconst (v := 0) fx dL_law_193 (by decide) ?_
    refine am_callV fx dL_law_194 mkL_28 hM (so7 hb1) ⟨by decide, rfl⟩ rfl (Nat.le_of_ble_eq_true rfl) ⟨by decide, by decide⟩ ⟨rm_f2 (by decide) hcl, rm_f2 (by decide) hsl⟩ rfl ?_
    rintro _ μ2 ⟨rfl, hJ2⟩
    refine am_icmp_eq fx 768 dL_law_197 (by decide) (fun _ => ?_) (fun c => absurd rfl c)
    exact am_widen (rm_w2 (by decide)) (rm_w2 (by decide)) (kk μ2 hJ2)
  · skip
    refine am_iconst (v := 1) fx dL_law_159 (by decide) ?_
    refine am_goto fx 164 dL_law_160 (by decide) ?_
    refine am_callV fx dL_law_164 mkL_24 (jo_instance hJ _ _ _ (Or.inr rfl)) (so6 hJ.b) ⟨by decide, rfl⟩ rfl (Nat.le_of_ble_eq_true rfl) ⟨by decide, by decide⟩ ⟨rm_f1 (by decide) hcl, rm_f1 (by decide) hsl⟩ rfl ?_
    rintro _ μ1 ⟨a, rfl, hb1, hM⟩
    refine am_aload_n fx dL_law_167 rfl ?_
    refine am_aload_n fx dL_law_168 rfl ?_
    refine am_iload fx dL_law_169 rfl ?_
    refine am_iconst (v := 1) fx dL_law_171 (by decide) ?_
    refine am_iadd fx dL_law_172 ?_
    refine am_sld fx hsc hL (j := i + 1) (nI_add i 1) (by omega) dL_law_173 ?_
    refine am_aload_n fx dL_law_174 rfl ?_
    refine am_iload fx dL_law_175 rfl ?_
    refine am_iconst (v := 2) fx dL_law_177 (by decide) ?_
    refine am_iadd fx dL_law_178 ?_
    refine am_sld fx hsc hL (j := i + 2) (nI_add i 2) (by omega) dL_law_179 ?_
    refine am_aload_n fx dL_law_180 rfl ?_
    refine am_iload fx dL_law_181 rfl ?_
    refine am_iconst (v := 3) fx dL_law_183 (by decide) ?_
    refine am_iadd fx dL_law_184 ?_
    refine am_sld fx hsc hL (j := i + 3) (nI_add i 3) (by omega) dL_law_185 ?_
    refine am_if_eq fx 193 dL_law_186 (by decide) (fun d => absurd d c) (fun _ => ?_)
    refine am_iconst (v := 1) fx dL_law_189 (by decide) ?_
    refine am_goto fx 194 dL_law_190 (by decide) ?_
    refine am_callV fx dL_law_194 mkL_28 hM (so7 hb1) ⟨by decide, rfl⟩ rfl (Nat.le_of_ble_eq_true rfl) ⟨by decide, by decide⟩ ⟨rm_f2 (by decide) hcl, rm_f2 (by decide) hsl⟩ rfl ?_
    rintro _ μ2 ⟨rfl, hJ2⟩
    refine am_icmp_eq fx 768 dL_law_197 (by decide) (fun _ => ?_) (fun c => absurd rfl c)
    exact am_widen (rm_w2 (by decide)) (rm_w2 (by decide)) (kk μ2 hJ2)
set_option maxRecDepth 100000 in
set_option maxHeartbeats 1000000 in
theorem lo_cost (fx : am_F E C code RL 8 ret room_1) (hX : am_X E (cx_s C)) (hsc : am_sc E C L xs) (hL : L ≤ 4096) (hi : i + 8 ≤ L) (hcl : cl + 20 ≤ 601024) (hsl : sl + 393 ≤ 7293034) (hJ : J μ) (kk : ∀ μ', J μ' → am_W E C Q μ' (cl + 20) (sl + 393) 768 (lw_ls i) []) : am_W E C Q μ cl sl 202 (lw_ls i) [] := by
  refine am_aload_n fx dL_law_202 rfl ?_
  refine am_aload_n fx dL_law_203 rfl ?_
  refine am_iload fx dL_law_204 rfl ?_
  refine am_iconst (v := 1) fx dL_law_206 (by decide) ?_
  refine am_iadd fx dL_law_207 ?_
  refine am_sld fx hsc hL (j := i + 1) (nI_add i 1) (by omega) dL_law_208 ?_
  refine am_aload_n fx dL_law_209 rfl ?_
  refine am_iload fx dL_law_210 rfl ?_
  refine am_iconst (v := 2) fx dL_law_212 (by decide) ?_
  refine am_iadd fx dL_law_213 ?_
  refine am_sld fx hsc hL (j := i + 2) (nI_add i 2) (by omega) dL_law_214 ?_
  refine am_aload_n fx dL_law_215 rfl ?_
  refine am_iload fx dL_law_216 rfl ?_
  refine am_iconst (v := 3) fx dL_law_218 (by decide) ?_
  refine am_iadd fx dL_law_219 ?_
  refine am_sld fx hsc hL (j := i + 3) (nI_add i 3) (by omega) dL_law_220 ?_
  refine am_callV fx dL_law_221 mkL_29 (jo_cost hJ _ _ _) (so6 hJ.b) ⟨by decide, rfl⟩ rfl (Nat.le_of_ble_eq_true rfl) ⟨by decide, by decide⟩ ⟨rm_f1 (by decide) hcl, rm_f1 (by decide) hsl⟩ rfl ?_
  rintro _ μ1 ⟨a, rfl, hb1, hM⟩
  refine am_aload_n fx dL_law_224 rfl ?_
  refine am_aload_n fx dL_law_225 rfl ?_
  refine am_iload fx dL_law_226 rfl ?_
  refine am_iconst (v := 1) fx dL_law_228 (by decide) ?_
  refine am_iadd fx dL_law_229 ?_
  refine am_sld fx hsc hL (j := i + 1) (nI_add i 1) (by omega) dL_law_230 ?_
  refine am_aload_n fx dL_law_231 rfl ?_
  refine am_iload fx dL_law_232 rfl ?_
  refine am_iconst (v := 2) fx dL_law_234 (by decide) ?_
  refine am_iadd fx dL_law_235 ?_
  refine am_sld fx hsc hL (j := i + 2) (nI_add i 2) (by omega) dL_law_236 ?_
  refine am_aload_n fx dL_law_237 rfl ?_
  refine am_iload fx dL_law_238 rfl ?_
  refine am_iconst (v := 3) fx dL_law_240 (by decide) ?_
  refine am_iadd fx dL_law_241 ?_
  refine am_sld fx hsc hL (j := i + 3) (nI_add i 3) (by omega) dL_law_242 ?_
  refine am_callV fx dL_law_243 mkL_33 hM (so7 hb1) ⟨by decide, rfl⟩ rfl (Nat.le_of_ble_eq_true rfl) ⟨by decide, by decide⟩ ⟨rm_f2 (by decide) hcl, rm_f2 (by decide) hsl⟩ rfl ?_
  rintro _ μ2 ⟨rfl, hJ2⟩
  refine am_icmp_eq fx 768 dL_law_246 (by decide) (fun _ => ?_) (fun c => absurd rfl c)
  exact am_widen (rm_w2 (by decide)) (rm_w2 (by decide)) (kk μ2 hJ2)
set_option maxRecDepth 100000 in
set_option maxHeartbeats 1000000 in
theorem lo_costOf (fx : am_F E C code RL 8 ret room_1) (hX : am_X E (cx_s C)) (hsc : am_sc E C L xs) (hL : L ≤ 4096) (hi : i + 8 ≤ L) (hcl : cl + 20 ≤ 601024) (hsl : sl + 393 ≤ 7293034) (hJ : J μ) (kk : ∀ μ', J μ' → am_W E C Q μ' (cl + 20) (sl + 393) 768 (lw_ls i) []) : am_W E C Q μ cl sl 251 (lw_ls i) [] := by
  refine am_aload_n fx dL_law_251 rfl ?_
  refine am_aload_n fx dL_law_252 rfl ?_
  refine am_iload fx dL_law_253 rfl ?_
  refine am_iconst (v := 1) fx dL_law_255 (by decide) ?_
  refine am_iadd fx dL_law_256 ?_
  refine am_sld fx hsc hL (j := i + 1) (nI_add i 1) (by omega) dL_law_257 ?_
  refine am_aload_n fx dL_law_258 rfl ?_
  refine am_iload fx dL_law_259 rfl ?_
  refine am_iconst (v := 2) fx dL_law_261 (by decide) ?_
  refine am_iadd fx dL_law_262 ?_
  refine am_sld fx hsc hL (j := i + 2) (nI_add i 2) (by omega) dL_law_263 ?_
  refine am_callV fx dL_law_264 mkL_34 (jo_costOf hJ _ _) (so6 hJ.b) ⟨by decide, rfl⟩ rfl (Nat.le_of_ble_eq_true rfl) ⟨by decide, by decide⟩ ⟨rm_f1 (by decide) hcl, rm_f1 (by decide) hsl⟩ rfl ?_
  rintro _ μ1 ⟨a, rfl, hb1, hM⟩
  refine am_aload_n fx dL_law_267 rfl ?_
  refine am_aload_n fx dL_law_268 rfl ?_
  refine am_iload fx dL_law_269 rfl ?_
  refine am_iconst (v := 1) fx dL_law_271 (by decide) ?_
  refine am_iadd fx dL_law_272 ?_
  refine am_sld fx hsc hL (j := i + 1) (nI_add i 1) (by omega) dL_law_273 ?_
  refine am_aload_n fx dL_law_274 rfl ?_
  refine am_iload fx dL_law_275 rfl ?_
  refine am_iconst (v := 2) fx dL_law_277 (by decide) ?_
  refine am_iadd fx dL_law_278 ?_
  refine am_sld fx hsc hL (j := i + 2) (nI_add i 2) (by omega) dL_law_279 ?_
  refine am_callV fx dL_law_280 mkL_38 hM (so7 hb1) ⟨by decide, rfl⟩ rfl (Nat.le_of_ble_eq_true rfl) ⟨by decide, by decide⟩ ⟨rm_f2 (by decide) hcl, rm_f2 (by decide) hsl⟩ rfl ?_
  rintro _ μ2 ⟨rfl, hJ2⟩
  refine am_icmp_eq fx 768 dL_law_283 (by decide) (fun _ => ?_) (fun c => absurd rfl c)
  exact am_widen (rm_w2 (by decide)) (rm_w2 (by decide)) (kk μ2 hJ2)
set_option maxRecDepth 100000 in
set_option maxHeartbeats 1000000 in
theorem lo_race (fx : am_F E C code RL 8 ret room_1) (hX : am_X E (cx_s C)) (hsc : am_sc E C L xs) (hL : L ≤ 4096) (hi : i + 8 ≤ L) (hcl : cl + 20 ≤ 601024) (hsl : sl + 393 ≤ 7293034) (hJ : J μ) (kk : ∀ μ', J μ' → am_W E C Q μ' (cl + 20) (sl + 393) 768 (lw_ls i) []) : am_W E C Q μ cl sl 288 (lw_ls i) [] := by
  refine am_aload_n fx dL_law_288 rfl ?_
  refine am_aload_n fx dL_law_289 rfl ?_
  refine am_iload fx dL_law_290 rfl ?_
  refine am_iconst (v := 1) fx dL_law_292 (by decide) ?_
  refine am_iadd fx dL_law_293 ?_
  refine am_sld fx hsc hL (j := i + 1) (nI_add i 1) (by omega) dL_law_294 ?_
  refine am_aload_n fx dL_law_295 rfl ?_
  refine am_iload fx dL_law_296 rfl ?_
  refine am_iconst (v := 2) fx dL_law_298 (by decide) ?_
  refine am_iadd fx dL_law_299 ?_
  refine am_sld fx hsc hL (j := i + 2) (nI_add i 2) (by omega) dL_law_300 ?_
  refine am_aload_n fx dL_law_301 rfl ?_
  refine am_iload fx dL_law_302 rfl ?_
  refine am_iconst (v := 3) fx dL_law_304 (by decide) ?_
  refine am_iadd fx dL_law_305 ?_
  refine am_sld fx hsc hL (j := i + 3) (nI_add i 3) (by omega) dL_law_306 ?_
  refine am_aload_n fx dL_law_307 rfl ?_
  refine am_iload fx dL_law_308 rfl ?_
  refine am_iconst (v := 4) fx dL_law_310 (by decide) ?_
  refine am_iadd fx dL_law_311 ?_
  refine am_sld fx hsc hL (j := i + 4) (nI_add i 4) (by omega) dL_law_312 ?_
  refine am_aload_n fx dL_law_313 rfl ?_
  refine am_iload fx dL_law_314 rfl ?_
  refine am_iconst (v := 5) fx dL_law_316 (by decide) ?_
  refine am_iadd fx dL_law_317 ?_
  refine am_sld fx hsc hL (j := i + 5) (nI_add i 5) (by omega) dL_law_318 ?_
  refine am_aload_n fx dL_law_319 rfl ?_
  refine am_iload fx dL_law_320 rfl ?_
  refine am_bipush (v := 6) fx dL_law_322 (by decide) ?_
  refine am_iadd fx dL_law_324 ?_
  refine am_sld fx hsc hL (j := i + 6) (nI_add i 6) (by omega) dL_law_325 ?_
  refine am_aload_n fx dL_law_326 rfl ?_
  refine am_iload fx dL_law_327 rfl ?_
  refine am_bipush (v := 7) fx dL_law_329 (by decide) ?_
  refine am_iadd fx dL_law_331 ?_
  refine am_sld fx hsc hL (j := i + 7) (nI_add i 7) (by omega) dL_law_332 ?_
  refine am_callV fx dL_law_333 mkL_39 (jo_race hJ _ _ _ _ _ _ _) (so6 hJ.b) ⟨by decide, rfl⟩ rfl (Nat.le_of_ble_eq_true rfl) ⟨by decide, by decide⟩ ⟨rm_f1 (by decide) hcl, rm_f1 (by decide) hsl⟩ rfl ?_
  rintro _ μ1 ⟨a, rfl, hb1, hM⟩
  refine am_aload_n fx dL_law_336 rfl ?_
  refine am_aload_n fx dL_law_337 rfl ?_
  refine am_iload fx dL_law_338 rfl ?_
  refine am_iconst (v := 1) fx dL_law_340 (by decide) ?_
  refine am_iadd fx dL_law_341 ?_
  refine am_sld fx hsc hL (j := i + 1) (nI_add i 1) (by omega) dL_law_342 ?_
  refine am_aload_n fx dL_law_343 rfl ?_
  refine am_iload fx dL_law_344 rfl ?_
  refine am_iconst (v := 2) fx dL_law_346 (by decide) ?_
  refine am_iadd fx dL_law_347 ?_
  refine am_sld fx hsc hL (j := i + 2) (nI_add i 2) (by omega) dL_law_348 ?_
  refine am_aload_n fx dL_law_349 rfl ?_
  refine am_iload fx dL_law_350 rfl ?_
  refine am_iconst (v := 3) fx dL_law_352 (by decide) ?_
  refine am_iadd fx dL_law_353 ?_
  refine am_sld fx hsc hL (j := i + 3) (nI_add i 3) (by omega) dL_law_354 ?_
  refine am_aload_n fx dL_law_355 rfl ?_
  refine am_iload fx dL_law_356 rfl ?_
  refine am_iconst (v := 4) fx dL_law_358 (by decide) ?_
  refine am_iadd fx dL_law_359 ?_
  refine am_sld fx hsc hL (j := i + 4) (nI_add i 4) (by omega) dL_law_360 ?_
  refine am_aload_n fx dL_law_361 rfl ?_
  refine am_iload fx dL_law_362 rfl ?_
  refine am_iconst (v := 5) fx dL_law_364 (by decide) ?_
  refine am_iadd fx dL_law_365 ?_
  refine am_sld fx hsc hL (j := i + 5) (nI_add i 5) (by omega) dL_law_366 ?_
  refine am_aload_n fx dL_law_367 rfl ?_
  refine am_iload fx dL_law_368 rfl ?_
  refine am_bipush (v := 6) fx dL_law_370 (by decide) ?_
  refine am_iadd fx dL_law_372 ?_
  refine am_sld fx hsc hL (j := i + 6) (nI_add i 6) (by omega) dL_law_373 ?_
  refine am_aload_n fx dL_law_374 rfl ?_
  refine am_iload fx dL_law_375 rfl ?_
  refine am_bipush (v := 7) fx dL_law_377 (by decide) ?_
  refine am_iadd fx dL_law_379 ?_
  refine am_sld fx hsc hL (j := i + 7) (nI_add i 7) (by omega) dL_law_380 ?_
  refine am_callV fx dL_law_381 mkL_43 hM (so7 hb1) ⟨by decide, rfl⟩ rfl (Nat.le_of_ble_eq_true rfl) ⟨by decide, by decide⟩ ⟨rm_f2 (by decide) hcl, rm_f2 (by decide) hsl⟩ rfl ?_
  rintro _ μ2 ⟨rfl, hJ2⟩
  refine am_icmp_eq fx 768 dL_law_384 (by decide) (fun _ => ?_) (fun c => absurd rfl c)
  exact am_widen (rm_w2 (by decide)) (rm_w2 (by decide)) (kk μ2 hJ2)
set_option maxRecDepth 100000 in
set_option maxHeartbeats 1000000 in
theorem lo_wants (fx : am_F E C code RL 8 ret room_1) (hX : am_X E (cx_s C)) (hsc : am_sc E C L xs) (hL : L ≤ 4096) (hi : i + 8 ≤ L) (hcl : cl + 20 ≤ 601024) (hsl : sl + 393 ≤ 7293034) (hJ : J μ) (kk : ∀ μ', J μ' → am_W E C Q μ' (cl + 20) (sl + 393) 768 (lw_ls i) []) : am_W E C Q μ cl sl 389 (lw_ls i) [] := by
  refine am_aload_n fx dL_law_389 rfl ?_
  refine am_aload_n fx dL_law_390 rfl ?_
  refine am_iload fx dL_law_391 rfl ?_
  refine am_iconst (v := 1) fx dL_law_393 (by decide) ?_
  refine am_iadd fx dL_law_394 ?_
  refine am_sld fx hsc hL (j := i + 1) (nI_add i 1) (by omega) dL_law_395 ?_
  refine am_callV fx dL_law_396 mkL_44 (jo_wants hJ _) (so6 hJ.b) ⟨by decide, rfl⟩ rfl (Nat.le_of_ble_eq_true rfl) ⟨by decide, by decide⟩ ⟨rm_f1 (by decide) hcl, rm_f1 (by decide) hsl⟩ rfl ?_
  rintro _ μ1 ⟨a, rfl, hb1, hM⟩
  refine am_aload_n fx dL_law_399 rfl ?_
  refine am_aload_n fx dL_law_400 rfl ?_
  refine am_iload fx dL_law_401 rfl ?_
  refine am_iconst (v := 1) fx dL_law_403 (by decide) ?_
  refine am_iadd fx dL_law_404 ?_
  refine am_sld fx hsc hL (j := i + 1) (nI_add i 1) (by omega) dL_law_405 ?_
  refine am_callV fx dL_law_406 mkL_48 hM (so7 hb1) ⟨by decide, rfl⟩ rfl (Nat.le_of_ble_eq_true rfl) ⟨by decide, by decide⟩ ⟨rm_f2 (by decide) hcl, rm_f2 (by decide) hsl⟩ rfl ?_
  rintro _ μ2 ⟨rfl, hJ2⟩
  refine am_icmp_eq fx 768 dL_law_409 (by decide) (fun _ => ?_) (fun c => absurd rfl c)
  exact am_widen (rm_w2 (by decide)) (rm_w2 (by decide)) (kk μ2 hJ2)
set_option maxRecDepth 100000 in
set_option maxHeartbeats 1000000 in
theorem lo_run (fx : am_F E C code RL 8 ret room_1) (hX : am_X E (cx_s C)) (hsc : am_sc E C L xs) (hL : L ≤ 4096) (hi : i + 8 ≤ L) (hcl : cl + 20 ≤ 601024) (hsl : sl + 393 ≤ 7293034) (hJ : J μ) (kk : ∀ μ', J μ' → am_W E C Q μ' (cl + 20) (sl + 393) 768 (lw_ls i) []) : am_W E C Q μ cl sl 414 (lw_ls i) [] := by
  refine am_aload_n fx dL_law_414 rfl ?_
  refine am_callV fx dL_law_415 mkL_49 (jo_run hJ) (so6 hJ.b) ⟨by decide, rfl⟩ rfl (Nat.le_of_ble_eq_true rfl) ⟨by decide, by decide⟩ ⟨rm_f1 (by decide) hcl, rm_f1 (by decide) hsl⟩ rfl ?_
  rintro _ μ1 ⟨a, rfl, hb1, hM⟩
  refine am_aload_n fx dL_law_418 rfl ?_
  refine am_callV fx dL_law_419 mkL_52 hM (so7 hb1) ⟨by decide, rfl⟩ rfl (Nat.le_of_ble_eq_true rfl) ⟨by decide, by decide⟩ ⟨rm_f2 (by decide) hcl, rm_f2 (by decide) hsl⟩ rfl ?_
  rintro _ μ2 ⟨rfl, hJ2⟩
  refine am_icmp_eq fx 768 dL_law_422 (by decide) (fun _ => ?_) (fun c => absurd rfl c)
  exact am_widen (rm_w2 (by decide)) (rm_w2 (by decide)) (kk μ2 hJ2)
set_option maxRecDepth 100000 in
set_option maxHeartbeats 1000000 in
theorem lo_left (fx : am_F E C code RL 8 ret room_1) (hX : am_X E (cx_s C)) (hsc : am_sc E C L xs) (hL : L ≤ 4096) (hi : i + 8 ≤ L) (hcl : cl + 20 ≤ 601024) (hsl : sl + 393 ≤ 7293034) (hJ : J μ) (kk : ∀ μ', J μ' → am_W E C Q μ' (cl + 20) (sl + 393) 768 (lw_ls i) []) : am_W E C Q μ cl sl 427 (lw_ls i) [] := by
  refine am_aload_n fx dL_law_427 rfl ?_
  refine am_aload_n fx dL_law_428 rfl ?_
  refine am_iload fx dL_law_429 rfl ?_
  refine am_iconst (v := 1) fx dL_law_431 (by decide) ?_
  refine am_iadd fx dL_law_432 ?_
  refine am_sld fx hsc hL (j := i + 1) (nI_add i 1) (by omega) dL_law_433 ?_
  refine am_callV fx dL_law_434 mkL_53 (jo_left hJ _) (so6 hJ.b) ⟨by decide, rfl⟩ rfl (Nat.le_of_ble_eq_true rfl) ⟨by decide, by decide⟩ ⟨rm_f1 (by decide) hcl, rm_f1 (by decide) hsl⟩ rfl ?_
  rintro _ μ1 ⟨a, rfl, hb1, hM⟩
  refine am_aload_n fx dL_law_437 rfl ?_
  refine am_aload_n fx dL_law_438 rfl ?_
  refine am_iload fx dL_law_439 rfl ?_
  refine am_iconst (v := 1) fx dL_law_441 (by decide) ?_
  refine am_iadd fx dL_law_442 ?_
  refine am_sld fx hsc hL (j := i + 1) (nI_add i 1) (by omega) dL_law_443 ?_
  refine am_callV fx dL_law_444 mkL_56 hM (so7 hb1) ⟨by decide, rfl⟩ rfl (Nat.le_of_ble_eq_true rfl) ⟨by decide, by decide⟩ ⟨rm_f2 (by decide) hcl, rm_f2 (by decide) hsl⟩ rfl ?_
  rintro _ μ2 ⟨rfl, hJ2⟩
  refine am_icmp_eq fx 768 dL_law_447 (by decide) (fun _ => ?_) (fun c => absurd rfl c)
  exact am_widen (rm_w2 (by decide)) (rm_w2 (by decide)) (kk μ2 hJ2)
set_option maxRecDepth 100000 in
set_option maxHeartbeats 1000000 in
theorem lo_raceOf (fx : am_F E C code RL 8 ret room_1) (hX : am_X E (cx_s C)) (hsc : am_sc E C L xs) (hL : L ≤ 4096) (hi : i + 8 ≤ L) (hcl : cl + 20 ≤ 601024) (hsl : sl + 393 ≤ 7293034) (hJ : J μ) (kk : ∀ μ', J μ' → am_W E C Q μ' (cl + 20) (sl + 393) 768 (lw_ls i) []) : am_W E C Q μ cl sl 452 (lw_ls i) [] := by
  refine am_aload_n fx dL_law_452 rfl ?_
  refine am_aload_n fx dL_law_453 rfl ?_
  refine am_iload fx dL_law_454 rfl ?_
  refine am_iconst (v := 1) fx dL_law_456 (by decide) ?_
  refine am_iadd fx dL_law_457 ?_
  refine am_sld fx hsc hL (j := i + 1) (nI_add i 1) (by omega) dL_law_458 ?_
  refine am_callV fx dL_law_459 mkL_57 (jo_raceOf hJ _) (so6 hJ.b) ⟨by decide, rfl⟩ rfl (Nat.le_of_ble_eq_true rfl) ⟨by decide, by decide⟩ ⟨rm_f1 (by decide) hcl, rm_f1 (by decide) hsl⟩ rfl ?_
  rintro _ μ1 ⟨a, rfl, hb1, hM⟩
  refine am_aload_n fx dL_law_462 rfl ?_
  refine am_aload_n fx dL_law_463 rfl ?_
  refine am_iload fx dL_law_464 rfl ?_
  refine am_iconst (v := 1) fx dL_law_466 (by decide) ?_
  refine am_iadd fx dL_law_467 ?_
  refine am_sld fx hsc hL (j := i + 1) (nI_add i 1) (by omega) dL_law_468 ?_
  refine am_callV fx dL_law_469 mkL_60 hM (so7 hb1) ⟨by decide, rfl⟩ rfl (Nat.le_of_ble_eq_true rfl) ⟨by decide, by decide⟩ ⟨rm_f2 (by decide) hcl, rm_f2 (by decide) hsl⟩ rfl ?_
  rintro _ μ2 ⟨rfl, hJ2⟩
  refine am_icmp_eq fx 768 dL_law_472 (by decide) (fun _ => ?_) (fun c => absurd rfl c)
  exact am_widen (rm_w2 (by decide)) (rm_w2 (by decide)) (kk μ2 hJ2)
set_option maxRecDepth 100000 in
set_option maxHeartbeats 1000000 in
theorem lo_rank (fx : am_F E C code RL 8 ret room_1) (hX : am_X E (cx_s C)) (hsc : am_sc E C L xs) (hL : L ≤ 4096) (hi : i + 8 ≤ L) (hcl : cl + 20 ≤ 601024) (hsl : sl + 393 ≤ 7293034) (hJ : J μ) (kk : ∀ μ', J μ' → am_W E C Q μ' (cl + 20) (sl + 393) 768 (lw_ls i) []) : am_W E C Q μ cl sl 477 (lw_ls i) [] := by
  refine am_aload_n fx dL_law_477 rfl ?_
  refine am_aload_n fx dL_law_478 rfl ?_
  refine am_iload fx dL_law_479 rfl ?_
  refine am_iconst (v := 1) fx dL_law_481 (by decide) ?_
  refine am_iadd fx dL_law_482 ?_
  refine am_sld fx hsc hL (j := i + 1) (nI_add i 1) (by omega) dL_law_483 ?_
  refine am_callV fx dL_law_484 mkL_61 (jo_rank hJ _) (so6 hJ.b) ⟨by decide, rfl⟩ rfl (Nat.le_of_ble_eq_true rfl) ⟨by decide, by decide⟩ ⟨rm_f1 (by decide) hcl, rm_f1 (by decide) hsl⟩ rfl ?_
  rintro _ μ1 ⟨a, rfl, hb1, hM⟩
  refine am_aload_n fx dL_law_487 rfl ?_
  refine am_aload_n fx dL_law_488 rfl ?_
  refine am_iload fx dL_law_489 rfl ?_
  refine am_iconst (v := 1) fx dL_law_491 (by decide) ?_
  refine am_iadd fx dL_law_492 ?_
  refine am_sld fx hsc hL (j := i + 1) (nI_add i 1) (by omega) dL_law_493 ?_
  refine am_callV fx dL_law_494 mkL_64 hM (so7 hb1) ⟨by decide, rfl⟩ rfl (Nat.le_of_ble_eq_true rfl) ⟨by decide, by decide⟩ ⟨rm_f2 (by decide) hcl, rm_f2 (by decide) hsl⟩ rfl ?_
  rintro _ μ2 ⟨rfl, hJ2⟩
  refine am_icmp_eq fx 768 dL_law_497 (by decide) (fun _ => ?_) (fun c => absurd rfl c)
  exact am_widen (rm_w2 (by decide)) (rm_w2 (by decide)) (kk μ2 hJ2)
set_option maxRecDepth 100000 in
set_option maxHeartbeats 1000000 in
theorem lo_dropped (fx : am_F E C code RL 8 ret room_1) (hX : am_X E (cx_s C)) (hsc : am_sc E C L xs) (hL : L ≤ 4096) (hi : i + 8 ≤ L) (hcl : cl + 20 ≤ 601024) (hsl : sl + 393 ≤ 7293034) (hJ : J μ) (kk : ∀ μ', J μ' → am_W E C Q μ' (cl + 20) (sl + 393) 768 (lw_ls i) []) : am_W E C Q μ cl sl 502 (lw_ls i) [] := by
  refine am_aload_n fx dL_law_502 rfl ?_
  refine am_aload_n fx dL_law_503 rfl ?_
  refine am_iload fx dL_law_504 rfl ?_
  refine am_iconst (v := 1) fx dL_law_506 (by decide) ?_
  refine am_iadd fx dL_law_507 ?_
  refine am_sld fx hsc hL (j := i + 1) (nI_add i 1) (by omega) dL_law_508 ?_
  refine am_callV fx dL_law_509 mkL_65 (jo_dropped hJ _) (so6 hJ.b) ⟨by decide, rfl⟩ rfl (Nat.le_of_ble_eq_true rfl) ⟨by decide, by decide⟩ ⟨rm_f1 (by decide) hcl, rm_f1 (by decide) hsl⟩ rfl ?_
  rintro _ μ1 ⟨a, rfl, hb1, hM⟩
  refine am_aload_n fx dL_law_512 rfl ?_
  refine am_aload_n fx dL_law_513 rfl ?_
  refine am_iload fx dL_law_514 rfl ?_
  refine am_iconst (v := 1) fx dL_law_516 (by decide) ?_
  refine am_iadd fx dL_law_517 ?_
  refine am_sld fx hsc hL (j := i + 1) (nI_add i 1) (by omega) dL_law_518 ?_
  refine am_callV fx dL_law_519 mkL_68 hM (so7 hb1) ⟨by decide, rfl⟩ rfl (Nat.le_of_ble_eq_true rfl) ⟨by decide, by decide⟩ ⟨rm_f2 (by decide) hcl, rm_f2 (by decide) hsl⟩ rfl ?_
  rintro _ μ2 ⟨rfl, hJ2⟩
  refine am_icmp_eq fx 768 dL_law_522 (by decide) (fun _ => ?_) (fun c => absurd rfl c)
  exact am_widen (rm_w2 (by decide)) (rm_w2 (by decide)) (kk μ2 hJ2)
set_option maxRecDepth 100000 in
set_option maxHeartbeats 1000000 in
theorem lo_odds (fx : am_F E C code RL 8 ret room_1) (hX : am_X E (cx_s C)) (hsc : am_sc E C L xs) (hL : L ≤ 4096) (hi : i + 8 ≤ L) (hcl : cl + 20 ≤ 601024) (hsl : sl + 393 ≤ 7293034) (hJ : J μ) (kk : ∀ μ', J μ' → am_W E C Q μ' (cl + 20) (sl + 393) 768 (lw_ls i) []) : am_W E C Q μ cl sl 527 (lw_ls i) [] := by
  refine am_aload_n fx dL_law_527 rfl ?_
  refine am_aload_n fx dL_law_528 rfl ?_
  refine am_iload fx dL_law_529 rfl ?_
  refine am_iconst (v := 1) fx dL_law_531 (by decide) ?_
  refine am_iadd fx dL_law_532 ?_
  refine am_sld fx hsc hL (j := i + 1) (nI_add i 1) (by omega) dL_law_533 ?_
  refine am_aload_n fx dL_law_534 rfl ?_
  refine am_iload fx dL_law_535 rfl ?_
  refine am_iconst (v := 2) fx dL_law_537 (by decide) ?_
  refine am_iadd fx dL_law_538 ?_
  refine am_sld fx hsc hL (j := i + 2) (nI_add i 2) (by omega) dL_law_539 ?_
  refine am_aload_n fx dL_law_540 rfl ?_
  refine am_iload fx dL_law_541 rfl ?_
  refine am_iconst (v := 3) fx dL_law_543 (by decide) ?_
  refine am_iadd fx dL_law_544 ?_
  refine am_sld fx hsc hL (j := i + 3) (nI_add i 3) (by omega) dL_law_545 ?_
  refine am_callV fx dL_law_546 mkL_69 (jo_odds hJ _ _ _) (so6 hJ.b) ⟨by decide, rfl⟩ rfl (Nat.le_of_ble_eq_true rfl) ⟨by decide, by decide⟩ ⟨rm_f1 (by decide) hcl, rm_f1 (by decide) hsl⟩ rfl ?_
  rintro _ μ1 ⟨a, rfl, hb1, hM⟩
  refine am_aload_n fx dL_law_549 rfl ?_
  refine am_aload_n fx dL_law_550 rfl ?_
  refine am_iload fx dL_law_551 rfl ?_
  refine am_iconst (v := 1) fx dL_law_553 (by decide) ?_
  refine am_iadd fx dL_law_554 ?_
  refine am_sld fx hsc hL (j := i + 1) (nI_add i 1) (by omega) dL_law_555 ?_
  refine am_aload_n fx dL_law_556 rfl ?_
  refine am_iload fx dL_law_557 rfl ?_
  refine am_iconst (v := 2) fx dL_law_559 (by decide) ?_
  refine am_iadd fx dL_law_560 ?_
  refine am_sld fx hsc hL (j := i + 2) (nI_add i 2) (by omega) dL_law_561 ?_
  refine am_aload_n fx dL_law_562 rfl ?_
  refine am_iload fx dL_law_563 rfl ?_
  refine am_iconst (v := 3) fx dL_law_565 (by decide) ?_
  refine am_iadd fx dL_law_566 ?_
  refine am_sld fx hsc hL (j := i + 3) (nI_add i 3) (by omega) dL_law_567 ?_
  refine am_callV fx dL_law_568 mkL_72 hM (so7 hb1) ⟨by decide, rfl⟩ rfl (Nat.le_of_ble_eq_true rfl) ⟨by decide, by decide⟩ ⟨rm_f2 (by decide) hcl, rm_f2 (by decide) hsl⟩ rfl ?_
  rintro _ μ2 ⟨rfl, hJ2⟩
  refine am_lcmp fx dL_law_571 ?_
  refine am_if_eq fx 768 dL_law_572 (by decide) (fun _ => ?_) (fun c => absurd (lg_self _) c)
  exact am_widen (rm_w2 (by decide)) (rm_w2 (by decide)) (kk μ2 hJ2)
set_option maxRecDepth 100000 in
set_option maxHeartbeats 1000000 in
theorem lo_portfolio (fx : am_F E C code RL 8 ret room_1) (hX : am_X E (cx_s C)) (hsc : am_sc E C L xs) (hL : L ≤ 4096) (hi : i + 8 ≤ L) (hcl : cl + 20 ≤ 601024) (hsl : sl + 393 ≤ 7293034) (hJ : J μ) (kk : ∀ μ', J μ' → am_W E C Q μ' (cl + 20) (sl + 393) 768 (lw_ls i) []) : am_W E C Q μ cl sl 577 (lw_ls i) [] := by
  refine am_aload_n fx dL_law_577 rfl ?_
  refine am_aload_n fx dL_law_578 rfl ?_
  refine am_iload fx dL_law_579 rfl ?_
  refine am_iconst (v := 1) fx dL_law_581 (by decide) ?_
  refine am_iadd fx dL_law_582 ?_
  refine am_sld fx hsc hL (j := i + 1) (nI_add i 1) (by omega) dL_law_583 ?_
  refine am_aload_n fx dL_law_584 rfl ?_
  refine am_iload fx dL_law_585 rfl ?_
  refine am_iconst (v := 2) fx dL_law_587 (by decide) ?_
  refine am_iadd fx dL_law_588 ?_
  refine am_sld fx hsc hL (j := i + 2) (nI_add i 2) (by omega) dL_law_589 ?_
  refine am_callV fx dL_law_590 mkL_73 (jo_portfolio hJ _ _) (so6 hJ.b) ⟨by decide, rfl⟩ rfl (Nat.le_of_ble_eq_true rfl) ⟨by decide, by decide⟩ ⟨rm_f1 (by decide) hcl, rm_f1 (by decide) hsl⟩ rfl ?_
  rintro _ μ1 ⟨a, rfl, hb1, hM⟩
  refine am_aload_n fx dL_law_593 rfl ?_
  refine am_aload_n fx dL_law_594 rfl ?_
  refine am_iload fx dL_law_595 rfl ?_
  refine am_iconst (v := 1) fx dL_law_597 (by decide) ?_
  refine am_iadd fx dL_law_598 ?_
  refine am_sld fx hsc hL (j := i + 1) (nI_add i 1) (by omega) dL_law_599 ?_
  refine am_aload_n fx dL_law_600 rfl ?_
  refine am_iload fx dL_law_601 rfl ?_
  refine am_iconst (v := 2) fx dL_law_603 (by decide) ?_
  refine am_iadd fx dL_law_604 ?_
  refine am_sld fx hsc hL (j := i + 2) (nI_add i 2) (by omega) dL_law_605 ?_
  refine am_callV fx dL_law_606 mkL_76 hM (so7 hb1) ⟨by decide, rfl⟩ rfl (Nat.le_of_ble_eq_true rfl) ⟨by decide, by decide⟩ ⟨rm_f2 (by decide) hcl, rm_f2 (by decide) hsl⟩ rfl ?_
  rintro _ μ2 ⟨rfl, hJ2⟩
  refine am_icmp_eq fx 768 dL_law_609 (by decide) (fun _ => ?_) (fun c => absurd rfl c)
  exact am_widen (rm_w2 (by decide)) (rm_w2 (by decide)) (kk μ2 hJ2)
set_option maxRecDepth 100000 in
set_option maxHeartbeats 1000000 in
theorem lo_pick (fx : am_F E C code RL 8 ret room_1) (hX : am_X E (cx_s C)) (hsc : am_sc E C L xs) (hL : L ≤ 4096) (hi : i + 8 ≤ L) (hcl : cl + 20 ≤ 601024) (hsl : sl + 393 ≤ 7293034) (hJ : J μ) (kk : ∀ μ', J μ' → am_W E C Q μ' (cl + 20) (sl + 393) 768 (lw_ls i) []) : am_W E C Q μ cl sl 614 (lw_ls i) [] := by
  refine am_aload_n fx dL_law_614 rfl ?_
  refine am_aload_n fx dL_law_615 rfl ?_
  refine am_iload fx dL_law_616 rfl ?_
  refine am_iconst (v := 1) fx dL_law_618 (by decide) ?_
  refine am_iadd fx dL_law_619 ?_
  refine am_sld fx hsc hL (j := i + 1) (nI_add i 1) (by omega) dL_law_620 ?_
  refine am_callV fx dL_law_621 mkL_77 (jo_pick hJ _) (so6 hJ.b) ⟨by decide, rfl⟩ rfl (Nat.le_of_ble_eq_true rfl) ⟨by decide, by decide⟩ ⟨rm_f1 (by decide) hcl, rm_f1 (by decide) hsl⟩ rfl ?_
  rintro _ μ1 ⟨a, rfl, hb1, hM⟩
  refine am_aload_n fx dL_law_624 rfl ?_
  refine am_aload_n fx dL_law_625 rfl ?_
  refine am_iload fx dL_law_626 rfl ?_
  refine am_iconst (v := 1) fx dL_law_628 (by decide) ?_
  refine am_iadd fx dL_law_629 ?_
  refine am_sld fx hsc hL (j := i + 1) (nI_add i 1) (by omega) dL_law_630 ?_
  refine am_callV fx dL_law_631 mkL_80 hM (so7 hb1) ⟨by decide, rfl⟩ rfl (Nat.le_of_ble_eq_true rfl) ⟨by decide, by decide⟩ ⟨rm_f2 (by decide) hcl, rm_f2 (by decide) hsl⟩ rfl ?_
  rintro _ μ2 ⟨rfl, hJ2⟩
  refine am_icmp_eq fx 768 dL_law_634 (by decide) (fun _ => ?_) (fun c => absurd rfl c)
  exact am_widen (rm_w2 (by decide)) (rm_w2 (by decide)) (kk μ2 hJ2)
set_option maxRecDepth 100000 in
set_option maxHeartbeats 1000000 in
theorem lo_stump (fx : am_F E C code RL 8 ret room_1) (hX : am_X E (cx_s C)) (hsc : am_sc E C L xs) (hL : L ≤ 4096) (hi : i + 8 ≤ L) (hcl : cl + 20 ≤ 601024) (hsl : sl + 393 ≤ 7293034) (hJ : J μ) (kk : ∀ μ', J μ' → am_W E C Q μ' (cl + 20) (sl + 393) 768 (lw_ls i) []) : am_W E C Q μ cl sl 639 (lw_ls i) [] := by
  refine am_aload_n fx dL_law_639 rfl ?_
  refine am_aload_n fx dL_law_640 rfl ?_
  refine am_iload fx dL_law_641 rfl ?_
  refine am_iconst (v := 1) fx dL_law_643 (by decide) ?_
  refine am_iadd fx dL_law_644 ?_
  refine am_sld fx hsc hL (j := i + 1) (nI_add i 1) (by omega) dL_law_645 ?_
  refine am_callV fx dL_law_646 mkL_81 (jo_stump hJ _) (so6 hJ.b) ⟨by decide, rfl⟩ rfl (Nat.le_of_ble_eq_true rfl) ⟨by decide, by decide⟩ ⟨rm_f1 (by decide) hcl, rm_f1 (by decide) hsl⟩ rfl ?_
  rintro _ μ1 ⟨a, rfl, hb1, hM⟩
  refine am_aload_n fx dL_law_649 rfl ?_
  refine am_aload_n fx dL_law_650 rfl ?_
  refine am_iload fx dL_law_651 rfl ?_
  refine am_iconst (v := 1) fx dL_law_653 (by decide) ?_
  refine am_iadd fx dL_law_654 ?_
  refine am_sld fx hsc hL (j := i + 1) (nI_add i 1) (by omega) dL_law_655 ?_
  refine am_callV fx dL_law_656 mkL_84 hM (so7 hb1) ⟨by decide, rfl⟩ rfl (Nat.le_of_ble_eq_true rfl) ⟨by decide, by decide⟩ ⟨rm_f2 (by decide) hcl, rm_f2 (by decide) hsl⟩ rfl ?_
  rintro _ μ2 ⟨rfl, hJ2⟩
  refine am_icmp_eq fx 768 dL_law_659 (by decide) (fun _ => ?_) (fun c => absurd rfl c)
  exact am_widen (rm_w2 (by decide)) (rm_w2 (by decide)) (kk μ2 hJ2)
set_option maxRecDepth 100000 in
set_option maxHeartbeats 1000000 in
theorem lo_heldOut (fx : am_F E C code RL 8 ret room_1) (hX : am_X E (cx_s C)) (hsc : am_sc E C L xs) (hL : L ≤ 4096) (hi : i + 8 ≤ L) (hcl : cl + 20 ≤ 601024) (hsl : sl + 393 ≤ 7293034) (hJ : J μ) (kk : ∀ μ', J μ' → am_W E C Q μ' (cl + 20) (sl + 393) 768 (lw_ls i) []) : am_W E C Q μ cl sl 664 (lw_ls i) [] := by
  refine am_aload_n fx dL_law_664 rfl ?_
  refine am_aload_n fx dL_law_665 rfl ?_
  refine am_iload fx dL_law_666 rfl ?_
  refine am_iconst (v := 1) fx dL_law_668 (by decide) ?_
  refine am_iadd fx dL_law_669 ?_
  refine am_sld fx hsc hL (j := i + 1) (nI_add i 1) (by omega) dL_law_670 ?_
  refine am_callV fx dL_law_671 mkL_85 (jo_heldOut hJ _) (so6 hJ.b) ⟨by decide, rfl⟩ rfl (Nat.le_of_ble_eq_true rfl) ⟨by decide, by decide⟩ ⟨rm_f1 (by decide) hcl, rm_f1 (by decide) hsl⟩ rfl ?_
  rintro _ μ1 ⟨a, rfl, hb1, hM⟩
  refine am_aload_n fx dL_law_674 rfl ?_
  refine am_aload_n fx dL_law_675 rfl ?_
  refine am_iload fx dL_law_676 rfl ?_
  refine am_iconst (v := 1) fx dL_law_678 (by decide) ?_
  refine am_iadd fx dL_law_679 ?_
  refine am_sld fx hsc hL (j := i + 1) (nI_add i 1) (by omega) dL_law_680 ?_
  refine am_callV fx dL_law_681 mkL_88 hM (so7 hb1) ⟨by decide, rfl⟩ rfl (Nat.le_of_ble_eq_true rfl) ⟨by decide, by decide⟩ ⟨rm_f2 (by decide) hcl, rm_f2 (by decide) hsl⟩ rfl ?_
  rintro _ μ2 ⟨rfl, hJ2⟩
  refine am_icmp_eq fx 768 dL_law_684 (by decide) (fun _ => ?_) (fun c => absurd rfl c)
  exact am_widen (rm_w2 (by decide)) (rm_w2 (by decide)) (kk μ2 hJ2)
set_option maxRecDepth 100000 in
set_option maxHeartbeats 1000000 in
theorem lo_mean (fx : am_F E C code RL 8 ret room_1) (hX : am_X E (cx_s C)) (hsc : am_sc E C L xs) (hL : L ≤ 4096) (hi : i + 8 ≤ L) (hcl : cl + 20 ≤ 601024) (hsl : sl + 393 ≤ 7293034) (hJ : J μ) (kk : ∀ μ', J μ' → am_W E C Q μ' (cl + 20) (sl + 393) 768 (lw_ls i) []) : am_W E C Q μ cl sl 689 (lw_ls i) [] := by
  refine am_aload_n fx dL_law_689 rfl ?_
  refine am_aload_n fx dL_law_690 rfl ?_
  refine am_iload fx dL_law_691 rfl ?_
  refine am_iconst (v := 1) fx dL_law_693 (by decide) ?_
  refine am_iadd fx dL_law_694 ?_
  refine am_sld fx hsc hL (j := i + 1) (nI_add i 1) (by omega) dL_law_695 ?_
  refine am_aload_n fx dL_law_696 rfl ?_
  refine am_iload fx dL_law_697 rfl ?_
  refine am_iconst (v := 2) fx dL_law_699 (by decide) ?_
  refine am_iadd fx dL_law_700 ?_
  refine am_sld fx hsc hL (j := i + 2) (nI_add i 2) (by omega) dL_law_701 ?_
  refine am_aload_n fx dL_law_702 rfl ?_
  refine am_iload fx dL_law_703 rfl ?_
  refine am_iconst (v := 3) fx dL_law_705 (by decide) ?_
  refine am_iadd fx dL_law_706 ?_
  refine am_sld fx hsc hL (j := i + 3) (nI_add i 3) (by omega) dL_law_707 ?_
  refine am_aload_n fx dL_law_708 rfl ?_
  refine am_callSL fx hX dL_law_709 (jo_mean hJ _ _ _) rfl (Nat.le_of_ble_eq_true rfl) ⟨by decide, by decide⟩ ⟨rm_f1 (by decide) hcl, rm_f1 (by decide) hsl⟩ rfl ?_
  rintro _ μ1 ⟨k, rfl, hb1, hM⟩
  refine am_istore fx dL_law_712 (by decide) rfl ?_
  refine am_aload_n fx dL_law_714 rfl ?_
  refine am_aload_n fx dL_law_715 rfl ?_
  refine am_iload fx dL_law_716 rfl ?_
  refine am_iconst (v := 1) fx dL_law_718 (by decide) ?_
  refine am_iadd fx dL_law_719 ?_
  refine am_sld fx hsc hL (j := i + 1) (nI_add i 1) (by omega) dL_law_720 ?_
  refine am_aload_n fx dL_law_721 rfl ?_
  refine am_iload fx dL_law_722 rfl ?_
  refine am_iconst (v := 2) fx dL_law_724 (by decide) ?_
  refine am_iadd fx dL_law_725 ?_
  refine am_sld fx hsc hL (j := i + 2) (nI_add i 2) (by omega) dL_law_726 ?_
  refine am_aload_n fx dL_law_727 rfl ?_
  refine am_iload fx dL_law_728 rfl ?_
  refine am_iconst (v := 3) fx dL_law_730 (by decide) ?_
  refine am_iadd fx dL_law_731 ?_
  refine am_sld fx hsc hL (j := i + 3) (nI_add i 3) (by omega) dL_law_732 ?_
  refine am_callV fx dL_law_733 mkL_94 hM (so7 hb1) ⟨by decide, rfl⟩ rfl (Nat.le_of_ble_eq_true rfl) ⟨by decide, by decide⟩ ⟨rm_f2 (by decide) hcl, rm_f2 (by decide) hsl⟩ rfl ?_
  rintro _ μ2 ⟨wl, rfl, hb2, h46, h56, hJ2⟩
  refine am_lstore fx dL_law_736 (by decide) rfl ?_
  refine am_aload_n fx dL_law_738 rfl ?_
  refine am_callV fx dL_law_739 mkL_95 (ct_X7_thrown hb2) (so7 hb2) ⟨by decide, rfl⟩ rfl (Nat.le_of_ble_eq_true rfl) ⟨by decide, by decide⟩ ⟨rm_f3 (by decide) hcl, rm_f3 (by decide) hsl⟩ rfl ?_
  rintro _ _ ⟨rfl, rfl⟩
  refine am_iload fx dL_law_742 rfl ?_
  refine am_icmp_eq fx 749 dL_law_744 (by decide) (fun _ => ?_) (fun c => absurd h46 c)
  refine am_iload fx dL_law_749 rfl ?_
  refine am_if_ne fx 765 dL_law_751 (by decide) (fun c => ?_) (fun c => ?_)
  · refine am_goto fx 768 dL_law_765 (by decide) ?_
    refine am_widen (k := cl + 20) (n := sl + 393) (rm_w3 (by decide)) (rm_w3 (by decide)) ?_
    exact am_sub [true, true, true, true, true, false, false, false] rfl (kk _ hJ2)
  · refine am_aload_n fx dL_law_754 rfl ?_
    refine am_iconst (v := 0) fx dL_law_755 (by decide) ?_
    refine am_lald (N := 1) (j := 0) fx dL_law_756 (by rw [hb2.1 56 (by decide) (by decide)]; rfl) rfl (by decide) (by decide) (h56 c) ?_
    refine am_lload fx dL_law_757 rfl ?_
    refine am_lcmp fx dL_law_759 ?_
    refine am_if_eq fx 765 dL_law_760 (by decide) (fun _ => ?_) (fun c => absurd (lg_self _) c)
    refine am_goto fx 768 dL_law_765 (by decide) ?_
    refine am_widen (k := cl + 20) (n := sl + 393) (rm_w3 (by decide)) (rm_w3 (by decide)) ?_
    exact am_sub [true, true, true, true, true, false, false, false] rfl (kk _ hJ2)
set_option maxRecDepth 100000 in
set_option maxHeartbeats 1000000 in
theorem law_loop (fx : am_F E C code RL 8 ret room_1) (hX : am_X E (cx_s C)) (hsc : am_sc E C L xs) (hL : L ≤ 4096) (hend : ∀ (μ : am_M) (cl sl : Nat), cl ≤ 601024 → sl ≤ 7293034 → ∀ i, am_W E C Q μ cl sl 775 (lw_ls i) [.int 1]) : ∀ (mz k : Nat) (μ : am_M), 513 - k = mz → 8 * k ≤ L → J μ → am_W E C Q μ (56 + 20 * k) (3242 + 393 * k) 23 (lw_ls (8 * k)) [] := by
  intro mz
  induction mz with
  | zero =>
    intro k μ h1 h2 hJ
    omega
  | succ mz ih =>
    intro k μ h1 h2 hJ
    refine am_iload fx dL_law_23 rfl ?_
    refine am_aload_n fx dL_law_25 rfl ?_
    refine am_sln fx hsc dL_law_26 ?_
    refine am_bipush (v := 8) fx dL_law_27 (by decide) ?_
    refine am_isub fx dL_law_29 ?_
    refine am_icmp_gt fx 774 dL_law_30 (by decide) (fun _ => ?_) (fun c => ?_)
    · refine am_iconst (v := 1) fx dL_law_774 (by decide) ?_
      exact hend μ _ _ (by omega) (by omega) (8 * k)
    · have hi := sc_go hL (by omega) c
      have hcl : 56 + 20 * k + 20 ≤ 601024 := by omega
      have hsl : 3242 + 393 * k + 393 ≤ 7293034 := by omega
      have kk : ∀ μ', J μ' → am_W E C Q μ' (56 + 20 * k + 20) (3242 + 393 * k + 393) 768 (lw_ls (8 * k)) [] := fun μ' hJ' => by
        refine am_iinc (v := nI (8 * (k + 1))) fx dL_law_768 rfl ((nI_add (8 * k) 8).trans rfl) (by decide) rfl ?_
        refine am_goto fx 23 dL_law_771 (by decide) ?_
        exact ih (k + 1) μ' (by omega) (by omega) hJ'
      refine am_aload_n fx dL_law_33 rfl ?_
      refine am_iload fx dL_law_34 rfl ?_
      refine am_sld fx hsc hL (j := 8 * k) rfl (by omega) dL_law_36 ?_
      refine am_bipush (v := 31) fx dL_law_37 (by decide) ?_
      refine am_iand fx dL_law_39 ?_
      obtain ⟨j, hj, ej⟩ := and_31 (xs (8 * k))
      rw [ej]
      rcases (by omega : j = 0 ∨ j = 1 ∨ j = 2 ∨ j = 3 ∨ j = 4 ∨ j = 5 ∨ j = 6 ∨ j = 7 ∨ j = 8 ∨ j = 9 ∨ j = 10 ∨ j = 11 ∨ j = 12 ∨ j = 13 ∨ j = 14 ∨ j = 15 ∨ j = 16 ∨ 17 ≤ j) with z | z | z | z | z | z | z | z | z | z | z | z | z | z | z | z | z | z
      · subst z
        refine am_tabIn fx 124 dL_law_40 (by decide) (by decide) rfl (by decide) ?_
        exact lo_setting fx hX hsc hL hi hcl hsl hJ kk
      · subst z
        refine am_tabIn fx 137 dL_law_40 (by decide) (by decide) rfl (by decide) ?_
        exact lo_instance fx hX hsc hL hi hcl hsl hJ kk
      · subst z
        refine am_tabIn fx 202 dL_law_40 (by decide) (by decide) rfl (by decide) ?_
        exact lo_cost fx hX hsc hL hi hcl hsl hJ kk
      · subst z
        refine am_tabIn fx 251 dL_law_40 (by decide) (by decide) rfl (by decide) ?_
        exact lo_costOf fx hX hsc hL hi hcl hsl hJ kk
      · subst z
        refine am_tabIn fx 288 dL_law_40 (by decide) (by decide) rfl (by decide) ?_
        exact lo_race fx hX hsc hL hi hcl hsl hJ kk
      · subst z
        refine am_tabIn fx 389 dL_law_40 (by decide) (by decide) rfl (by decide) ?_
        exact lo_wants fx hX hsc hL hi hcl hsl hJ kk
      · subst z
        refine am_tabIn fx 414 dL_law_40 (by decide) (by decide) rfl (by decide) ?_
        exact lo_run fx hX hsc hL hi hcl hsl hJ kk
      · subst z
        refine am_tabIn fx 427 dL_law_40 (by decide) (by decide) rfl (by decide) ?_
        exact lo_left fx hX hsc hL hi hcl hsl hJ kk
      · subst z
        refine am_tabIn fx 452 dL_law_40 (by decide) (by decide) rfl (by decide) ?_
        exact lo_raceOf fx hX hsc hL hi hcl hsl hJ kk
      · subst z
        refine am_tabIn fx 477 dL_law_40 (by decide) (by decide) rfl (by decide) ?_
        exact lo_rank fx hX hsc hL hi hcl hsl hJ kk
      · subst z
        refine am_tabIn fx 502 dL_law_40 (by decide) (by decide) rfl (by decide) ?_
        exact lo_dropped fx hX hsc hL hi hcl hsl hJ kk
      · subst z
        refine am_tabIn fx 527 dL_law_40 (by decide) (by decide) rfl (by decide) ?_
        exact lo_odds fx hX hsc hL hi hcl hsl hJ kk
      · subst z
        refine am_tabIn fx 577 dL_law_40 (by decide) (by decide) rfl (by decide) ?_
        exact lo_portfolio fx hX hsc hL hi hcl hsl hJ kk
      · subst z
        refine am_tabIn fx 614 dL_law_40 (by decide) (by decide) rfl (by decide) ?_
        exact lo_pick fx hX hsc hL hi hcl hsl hJ kk
      · subst z
        refine am_tabIn fx 639 dL_law_40 (by decide) (by decide) rfl (by decide) ?_
        exact lo_stump fx hX hsc hL hi hcl hsl hJ kk
      · subst z
        refine am_tabIn fx 664 dL_law_40 (by decide) (by decide) rfl (by decide) ?_
        exact lo_heldOut fx hX hsc hL hi hcl hsl hJ kk
      · subst z
        refine am_tabIn fx 689 dL_law_40 (by decide) (by decide) rfl (by decide) ?_
        exact lo_mean fx hX hsc hL hi hcl hsl hJ kk
      · refine am_tabOut fx 768 dL_law_40 (Or.inr (by rw [nI_toInt (by omega)]; omega)) (by decide) ?_
        exact am_widen (Nat.le_add_right _ _) (Nat.le_add_right _ _) (kk μ hJ)
end LAW
