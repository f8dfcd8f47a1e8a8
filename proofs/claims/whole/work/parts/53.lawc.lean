/-! the law: calls 0 to 10 -/
set_option maxHeartbeats 4000000 in
set_option maxRecDepth 100000 in
/-- the law's call 0: type -/
theorem lc_0 {p : Program} {l : Launch} {e : Env} {s : State} {m : MethodId} {below : List Frame} {meth : Method} {c : Code} {b L : Nat} {xs : Nat → Int32} {D : va_G} {cy : Nat → ClassId} {adM : NT} {o a0 n i cells slots : Nat} (C : lctx p l s m c b L xs D cy) (hn : n < 1000) (hi : i + 2 < L) (hL : L ≤ 1536) (hro : cells + 6 ≤ room_1.cells ∧ slots + 86 ≤ room_1.slots) (K : lgo p l e s m below meth c b D cy adM o a0 (n + 1) i (cells + 6) (slots + 86) 1166) : lgo p l e s m below meth c b D cy adM o a0 n i cells slots 148 := by
  obtain ⟨hx, hb, hml, hown, hts, hK, hY, hC9, hX, hbl, hl9⟩ := id C
  intro adC τ ν σ μ x0 H locs ls ha hR hJ hB hO hM hS hl
  subst ha
  have hYH := hY.now hS
  have h1 : vp_in (nI (i + 1)) L := vp_in_nI (by omega) (by omega)
  obtain ⟨a1, e1⟩ : ∃ z, xs (nI (i + 1)).toNatClampNeg = z := ⟨_, rfl⟩
  obtain ⟨c1, ec⟩ : ∃ z, (a1.toUInt32 % 65536).toInt32 = z := ⟨_, rfl⟩
  have hc1 : vp_nar .char c1 = c1 := by subst ec; exact pk_vc a1
  refine lv_aload_n hx hb dL_law_148 rfl (lv_at hl 1 rfl) ?_
  refine l_arg (v := 1) hx hb hX hbl hS (lv_at hl 0 rfl) (lv_at hl 4 rfl) h1 e1 (by decide) dL_law_149 dL_law_150 dL_law_152 dL_law_153 dL_law_154 ?_
  refine lv_i2c hx hb dL_law_155 ec ?_
  refine lv_aload_n hx hb dL_law_156 rfl (lv_at hl 3 rfl) ?_
  refine lw_wr (Φ := fun k x τ2 ν2 => okC n k x τ2 ν2 (oType σ μ c1).1 (oType σ μ c1).2.1 (oType σ μ c1).2.2) (vx_runSW (As := [.ref (adC 0 0), .int c1, .ref o]) (rest := []) ⟨hx, hb, hml, hown, hts⟩ (m_L_type l hl9 D cy (lA s.heap.size) H.size adC τ ν hJ.1 o (fun k i hi => (hJ.2.2.1 k i hi).2.1) x0 hR.CI hR.seg15 c1 hc1) (vx_cwSW 3 hts gL_law_L_type rfl rfl rfl (by decide +kernel) ⟨Nat.le_of_ble_eq_true rfl, Nat.le_of_ble_eq_true rfl⟩) (y_preS (B := atSz H.size (WO D cy adC τ ν o x0)) hK hYH ⟨rfl, hB, hO⟩) rfl rfl hl.1 rfl (lv_room (Nat.le_of_ble_eq_true rfl)) dL_law_157 ⟨by have := hro.1; omega, by have := hro.2; omega⟩) hJ hS hM l_addN (t_type hR c1 x0) (fun k1 x1 τ1 ν1 H1 locs1 T1 hJ1 hB1 hO1 hM1 hS1 => ?_)
  refine lv_istore (lv' := [(5, .int k1), (0, .ref b), (1, .ref (adC 0 0)), (2, .ref (adM 0 0)), (3, .ref o), (4, .int (nI i))]) hx hb dL_law_160 hl (by decide) rfl (fun ls hl => ?_)
  refine lv_aload_n hx hb dL_law_162 rfl (lv_at hl 3 rfl) ?_
  refine l_arg (v := 1) hx hb hX hbl hS1 (lv_at hl 1 rfl) (lv_at hl 5 rfl) h1 e1 (by decide) dL_law_163 dL_law_164 dL_law_166 dL_law_167 dL_law_168 ?_
  refine lv_i2c hx hb dL_law_169 ec ?_
  refine lw_md (Ψ := fun b1 σ1 μ1 => okC n k1 x1 τ1 ν1 b1 σ1 μ1) (va_runV (As := [.int c1]) (rest := []) ⟨hx, hb, hml, hown, hts⟩ (m_X4_type l D cy H1.size adM σ μ hJ.2.1 hR.len30 c1) (cwV 1 hts gL_law_X4_type rfl rfl rfl (by decide +kernel) ⟨Nat.le_of_ble_eq_true rfl, Nat.le_of_ble_eq_true rfl⟩) (g_preV (C := RX4) (B := atSz H1.size (MW D cy adM σ μ)) hK ⟨rfl, hM1⟩ (hM1 0 0 Nat.zero_lt_one) rfl) rfl rfl hl.1 rfl (lv_room (Nat.le_of_ble_eq_true rfl)) dL_law_170 ⟨by have := hro.1; omega, by have := hro.2; omega⟩) hJ1 hS1 hB1 hO1 T1 (fun b1 σ1 μ1 H2 locs2 T2 hB2 hO2 hM2 hS2 => ?_)
  exact l_tail (q := 173) C ⟨hro.1, hro.2⟩ dL_law_173 dL_law_175 dL_law_176 dL_law_179 dL_law_181 dL_law_186 dL_law_188 dL_law_191 dL_law_192 dL_law_193 dL_law_194 dL_law_196 dL_law_197 dL_law_198 dL_law_203 (by decide) K (Nat.le_succ n) (by omega) (by omega) rfl T2 hJ1 hB2 hO2 hM2 hS2 hl

set_option maxHeartbeats 4000000 in
set_option maxRecDepth 100000 in
/-- the law's call 1: clearAddress -/
theorem lc_1 {p : Program} {l : Launch} {e : Env} {s : State} {m : MethodId} {below : List Frame} {meth : Method} {c : Code} {b L : Nat} {xs : Nat → Int32} {D : va_G} {cy : Nat → ClassId} {adM : NT} {o a0 n i cells slots : Nat} (C : lctx p l s m c b L xs D cy) (hn : n < 1000) (hi : i + 2 < L) (hL : L ≤ 1536) (hro : cells + 6 ≤ room_1.cells ∧ slots + 86 ≤ room_1.slots) (K : lgo p l e s m below meth c b D cy adM o a0 (n + 1) i (cells + 6) (slots + 86) 1166) : lgo p l e s m below meth c b D cy adM o a0 n i cells slots 206 := by
  obtain ⟨hx, hb, hml, hown, hts, hK, hY, hC9, hX, hbl, hl9⟩ := id C
  intro adC τ ν σ μ x0 H locs ls ha hR hJ hB hO hM hS hl
  subst ha
  refine lv_aload_n hx hb dL_law_206 rfl (lv_at hl 1 rfl) ?_
  refine lw_wc (Φ := fun v τ2 ν2 => v = nI (μ 1 0) ∧ Rel n τ2 ν2 (T0 σ) (up2 μ 1 0 0)) (va_runV (As := []) (rest := []) ⟨hx, hb, hml, hown, hts⟩ (m_X3_clearAddress l D cy H.size adC τ ν hJ.1) (cwV 0 hts gL_law_X3_clearAddress rfl rfl rfl (by decide +kernel) ⟨Nat.le_of_ble_eq_true rfl, Nat.le_of_ble_eq_true rfl⟩) (g_preV (C := RX3) (B := atSz H.size (CW D cy adC τ ν)) hK ⟨rfl, hB⟩ (hB 0 0 Nat.zero_lt_one) rfl) rfl rfl hl.1 rfl (lv_room (Nat.le_of_ble_eq_true rfl)) dL_law_207 ⟨by have := hro.1; omega, by have := hro.2; omega⟩) hJ hS hM hO rfl (t_clear hR) (fun v1 τ1 ν1 H1 locs1 T1 hJ1 hB1 hO1 hM1 hS1 => ?_)
  refine lv_aload_n hx hb dL_law_210 rfl (lv_at hl 2 rfl) ?_
  refine lw_md (Ψ := fun b1 σ1 μ1 => v1 = b1 ∧ Rel n τ1 ν1 σ1 μ1) (va_runV (As := []) (rest := [.int (v1)]) ⟨hx, hb, hml, hown, hts⟩ (m_X4_clearAddress l D cy H1.size adM σ μ hJ.2.1) (cwV 0 hts gL_law_X4_clearAddress rfl rfl rfl (by decide +kernel) ⟨Nat.le_of_ble_eq_true rfl, Nat.le_of_ble_eq_true rfl⟩) (g_preV (C := RX4) (B := atSz H1.size (MW D cy adM σ μ)) hK ⟨rfl, hM1⟩ (hM1 0 0 Nat.zero_lt_one) rfl) rfl rfl hl.1 rfl (lv_room (Nat.le_of_ble_eq_true rfl)) dL_law_211 ⟨by have := hro.1; omega, by have := hro.2; omega⟩) hJ1 hS1 hB1 hO1 (T1) (fun b1 σ1 μ1 H2 locs2 T2 hB2 hO2 hM2 hS2 => ?_)
  exact l_cmp (q := 214) C dL_law_214 (by decide) K (Nat.le_succ n) (by omega) (by omega) rfl T2 hJ1 hB2 hO2 hM2 hS2 hl

set_option maxHeartbeats 4000000 in
set_option maxRecDepth 100000 in
/-- the law's call 2: segments -/
theorem lc_2 {p : Program} {l : Launch} {e : Env} {s : State} {m : MethodId} {below : List Frame} {meth : Method} {c : Code} {b L : Nat} {xs : Nat → Int32} {D : va_G} {cy : Nat → ClassId} {adM : NT} {o a0 n i cells slots : Nat} (C : lctx p l s m c b L xs D cy) (hn : n < 1000) (hi : i + 2 < L) (hL : L ≤ 1536) (hro : cells + 6 ≤ room_1.cells ∧ slots + 86 ≤ room_1.slots) (K : lgo p l e s m below meth c b D cy adM o a0 (n + 1) i (cells + 6) (slots + 86) 1166) : lgo p l e s m below meth c b D cy adM o a0 n i cells slots 219 := by
  obtain ⟨hx, hb, hml, hown, hts, hK, hY, hC9, hX, hbl, hl9⟩ := id C
  intro adC τ ν σ μ x0 H locs ls ha hR hJ hB hO hM hS hl
  subst ha
  refine lv_aload_n hx hb dL_law_219 rfl (lv_at hl 1 rfl) ?_
  refine g_csr (va_runV (As := []) (rest := []) ⟨hx, hb, hml, hown, hts⟩ (m_X3_segments l D cy adC τ ν) (cwV 0 hts gL_law_X3_segments rfl rfl rfl (by decide +kernel) ⟨Nat.le_of_ble_eq_true rfl, Nat.le_of_ble_eq_true rfl⟩) (g_preV (C := RX3) (B := CW D cy adC τ ν) hK hB (hB 0 0 Nat.zero_lt_one) rfl) rfl rfl hl.1 rfl (lv_room (Nat.le_of_ble_eq_true rfl)) dL_law_220 ⟨by have := hro.1; omega, by have := hro.2; omega⟩) ?_
  refine lv_aload_n hx hb dL_law_223 rfl (lv_at hl 2 rfl) ?_
  refine lw_md (Ψ := fun b1 σ1 μ1 => nI (ν 2 0) = b1 ∧ Rel n τ ν σ1 μ1) (va_runV (As := []) (rest := [.int (nI (ν 2 0))]) ⟨hx, hb, hml, hown, hts⟩ (m_X4_segments l D cy H.size adM σ μ hJ.2.1 hR.len30) (cwV 0 hts gL_law_X4_segments rfl rfl rfl (by decide +kernel) ⟨Nat.le_of_ble_eq_true rfl, Nat.le_of_ble_eq_true rfl⟩) (g_preV (C := RX4) (B := atSz H.size (MW D cy adM σ μ)) hK ⟨rfl, hM⟩ (hM 0 0 Nat.zero_lt_one) rfl) rfl rfl hl.1 rfl (lv_room (Nat.le_of_ble_eq_true rfl)) dL_law_224 ⟨by have := hro.1; omega, by have := hro.2; omega⟩) hJ hS hB hO (⟨a_segments hR, (hR.t0 0).lay⟩) (fun b1 σ1 μ1 H2 locs2 T2 hB2 hO2 hM2 hS2 => ?_)
  exact l_cmp (q := 227) C dL_law_227 (by decide) K (Nat.le_succ n) (by omega) (by omega) rfl T2 hJ hB2 hO2 hM2 hS2 hl

set_option maxHeartbeats 4000000 in
set_option maxRecDepth 100000 in
/-- the law's call 3: isTrap -/
theorem lc_3 {p : Program} {l : Launch} {e : Env} {s : State} {m : MethodId} {below : List Frame} {meth : Method} {c : Code} {b L : Nat} {xs : Nat → Int32} {D : va_G} {cy : Nat → ClassId} {adM : NT} {o a0 n i cells slots : Nat} (C : lctx p l s m c b L xs D cy) (hn : n < 1000) (hi : i + 2 < L) (hL : L ≤ 1536) (hro : cells + 6 ≤ room_1.cells ∧ slots + 86 ≤ room_1.slots) (K : lgo p l e s m below meth c b D cy adM o a0 (n + 1) i (cells + 6) (slots + 86) 1166) : lgo p l e s m below meth c b D cy adM o a0 n i cells slots 232 := by
  obtain ⟨hx, hb, hml, hown, hts, hK, hY, hC9, hX, hbl, hl9⟩ := id C
  intro adC τ ν σ μ x0 H locs ls ha hR hJ hB hO hM hS hl
  subst ha
  refine lv_aload_n hx hb dL_law_232 rfl (lv_at hl 1 rfl) ?_
  refine g_csr (va_runV (As := []) (rest := []) ⟨hx, hb, hml, hown, hts⟩ (m_X3_isTrap l D cy adC τ ν hR.CI) (cwV 0 hts gL_law_X3_isTrap rfl rfl rfl (by decide +kernel) ⟨Nat.le_of_ble_eq_true rfl, Nat.le_of_ble_eq_true rfl⟩) (g_preV (C := RX3) (B := CW D cy adC τ ν) hK hB (hB 0 0 Nat.zero_lt_one) rfl) rfl rfl hl.1 rfl (lv_room (Nat.le_of_ble_eq_true rfl)) dL_law_233 ⟨by have := hro.1; omega, by have := hro.2; omega⟩) ?_
  refine lv_aload_n hx hb dL_law_236 rfl (lv_at hl 2 rfl) ?_
  refine lw_md (Ψ := fun b1 σ1 μ1 => zb (repA (τ 6) (τ 22) (ν 1 0) (ν 2 0)) = b1 ∧ Rel n τ ν σ1 μ1) (va_runV (As := []) (rest := [.int (zb (repA (τ 6) (τ 22) (ν 1 0) (ν 2 0)))]) ⟨hx, hb, hml, hown, hts⟩ (m_X4_isTrap l D cy H.size adM σ μ hJ.2.1 hR.len30) (cwV 0 hts gL_law_X4_isTrap rfl rfl rfl (by decide +kernel) ⟨Nat.le_of_ble_eq_true rfl, Nat.le_of_ble_eq_true rfl⟩) (g_preV (C := RX4) (B := atSz H.size (MW D cy adM σ μ)) hK ⟨rfl, hM⟩ (hM 0 0 Nat.zero_lt_one) rfl) rfl rfl hl.1 rfl (lv_room (Nat.le_of_ble_eq_true rfl)) dL_law_237 ⟨by have := hro.1; omega, by have := hro.2; omega⟩) hJ hS hB hO (⟨a_isTrap hR, (hR.t0 0).lay⟩) (fun b1 σ1 μ1 H2 locs2 T2 hB2 hO2 hM2 hS2 => ?_)
  exact l_cmp (q := 240) C dL_law_240 (by decide) K (Nat.le_succ n) (by omega) (by omega) rfl T2 hJ hB2 hO2 hM2 hS2 hl

set_option maxHeartbeats 4000000 in
set_option maxRecDepth 100000 in
/-- the law's call 4: setRest -/
theorem lc_4 {p : Program} {l : Launch} {e : Env} {s : State} {m : MethodId} {below : List Frame} {meth : Method} {c : Code} {b L : Nat} {xs : Nat → Int32} {D : va_G} {cy : Nat → ClassId} {adM : NT} {o a0 n i cells slots : Nat} (C : lctx p l s m c b L xs D cy) (hn : n < 1000) (hi : i + 2 < L) (hL : L ≤ 1536) (hro : cells + 6 ≤ room_1.cells ∧ slots + 86 ≤ room_1.slots) (K : lgo p l e s m below meth c b D cy adM o a0 (n + 1) i (cells + 6) (slots + 86) 1166) : lgo p l e s m below meth c b D cy adM o a0 n i cells slots 245 := by
  obtain ⟨hx, hb, hml, hown, hts, hK, hY, hC9, hX, hbl, hl9⟩ := id C
  intro adC τ ν σ μ x0 H locs ls ha hR hJ hB hO hM hS hl
  subst ha
  have hYH := hY.now hS
  have h1 : vp_in (nI (i + 1)) L := vp_in_nI (by omega) (by omega)
  obtain ⟨a1, e1⟩ : ∃ z, xs (nI (i + 1)).toNatClampNeg = z := ⟨_, rfl⟩
  have h2 : vp_in (nI (i + 2)) L := vp_in_nI (by omega) (by omega)
  obtain ⟨a2, e2⟩ : ∃ z, xs (nI (i + 2)).toNatClampNeg = z := ⟨_, rfl⟩
  refine lv_aload_n hx hb dL_law_245 rfl (lv_at hl 1 rfl) ?_
  refine l_arg (v := 1) hx hb hX hbl hS (lv_at hl 0 rfl) (lv_at hl 4 rfl) h1 e1 (by decide) dL_law_246 dL_law_247 dL_law_249 dL_law_250 dL_law_251 ?_
  refine l_arg (v := 2) hx hb hX hbl hS (lv_at hl 0 rfl) (lv_at hl 4 rfl) h2 e2 (by decide) dL_law_252 dL_law_253 dL_law_255 dL_law_256 dL_law_257 ?_
  refine lv_aload_n hx hb dL_law_258 rfl (lv_at hl 3 rfl) ?_
  refine lw_wr (Φ := fun k x τ2 ν2 => okC n k x τ2 ν2 (oSetRest σ a1 a2).1 (oSetRest σ a1 a2).2 μ) (vx_runSW (As := [.ref (adC 0 0), .int a1, .int a2, .ref o]) (rest := []) ⟨hx, hb, hml, hown, hts⟩ (m_L_setRest l hl9 D cy (lA s.heap.size) H.size adC τ ν hJ.1 o (fun k i hi => (hJ.2.2.1 k i hi).2.1) x0 a1 a2) (vx_cwSW 4 hts gL_law_L_setRest rfl rfl rfl (by decide +kernel) ⟨Nat.le_of_ble_eq_true rfl, Nat.le_of_ble_eq_true rfl⟩) (y_preS (B := atSz H.size (WO D cy adC τ ν o x0)) hK hYH ⟨rfl, hB, hO⟩) rfl rfl hl.1 rfl (lv_room (Nat.le_of_ble_eq_true rfl)) dL_law_259 ⟨by have := hro.1; omega, by have := hro.2; omega⟩) hJ hS hM (by rw [ite_self]) (t_setRest hR a1 a2 x0) (fun k1 x1 τ1 ν1 H1 locs1 T1 hJ1 hB1 hO1 hM1 hS1 => ?_)
  refine lv_istore (lv' := [(5, .int k1), (0, .ref b), (1, .ref (adC 0 0)), (2, .ref (adM 0 0)), (3, .ref o), (4, .int (nI i))]) hx hb dL_law_262 hl (by decide) rfl (fun ls hl => ?_)
  refine lv_aload_n hx hb dL_law_264 rfl (lv_at hl 3 rfl) ?_
  refine l_arg (v := 1) hx hb hX hbl hS1 (lv_at hl 1 rfl) (lv_at hl 5 rfl) h1 e1 (by decide) dL_law_265 dL_law_266 dL_law_268 dL_law_269 dL_law_270 ?_
  refine l_arg (v := 2) hx hb hX hbl hS1 (lv_at hl 1 rfl) (lv_at hl 5 rfl) h2 e2 (by decide) dL_law_271 dL_law_272 dL_law_274 dL_law_275 dL_law_276 ?_
  refine lw_md (Ψ := fun b1 σ1 μ1 => okC n k1 x1 τ1 ν1 b1 σ1 μ1) (va_runV (As := [.int a1, .int a2]) (rest := []) ⟨hx, hb, hml, hown, hts⟩ (m_X4_setRest l D cy H1.size adM σ μ hJ.2.1 a1 a2) (cwV 2 hts gL_law_X4_setRest rfl rfl rfl (by decide +kernel) ⟨Nat.le_of_ble_eq_true rfl, Nat.le_of_ble_eq_true rfl⟩) (g_preV (C := RX4) (B := atSz H1.size (MW D cy adM σ μ)) hK ⟨rfl, hM1⟩ (hM1 0 0 Nat.zero_lt_one) rfl) rfl rfl hl.1 rfl (lv_room (Nat.le_of_ble_eq_true rfl)) dL_law_277 ⟨by have := hro.1; omega, by have := hro.2; omega⟩) hJ1 hS1 hB1 hO1 T1 (fun b1 σ1 μ1 H2 locs2 T2 hB2 hO2 hM2 hS2 => ?_)
  exact l_tail (q := 280) C ⟨hro.1, hro.2⟩ dL_law_280 dL_law_282 dL_law_283 dL_law_286 dL_law_288 dL_law_293 dL_law_295 dL_law_298 dL_law_299 dL_law_300 dL_law_301 dL_law_303 dL_law_304 dL_law_305 dL_law_310 (by decide) K (Nat.le_succ n) (by omega) (by omega) rfl T2 hJ1 hB2 hO2 hM2 hS2 hl

set_option maxHeartbeats 4000000 in
set_option maxRecDepth 100000 in
/-- the law's call 5: setPaces -/
theorem lc_5 {p : Program} {l : Launch} {e : Env} {s : State} {m : MethodId} {below : List Frame} {meth : Method} {c : Code} {b L : Nat} {xs : Nat → Int32} {D : va_G} {cy : Nat → ClassId} {adM : NT} {o a0 n i cells slots : Nat} (C : lctx p l s m c b L xs D cy) (hn : n < 1000) (hi : i + 2 < L) (hL : L ≤ 1536) (hro : cells + 6 ≤ room_1.cells ∧ slots + 86 ≤ room_1.slots) (K : lgo p l e s m below meth c b D cy adM o a0 (n + 1) i (cells + 6) (slots + 86) 1166) : lgo p l e s m below meth c b D cy adM o a0 n i cells slots 313 := by
  obtain ⟨hx, hb, hml, hown, hts, hK, hY, hC9, hX, hbl, hl9⟩ := id C
  intro adC τ ν σ μ x0 H locs ls ha hR hJ hB hO hM hS hl
  subst ha
  have hYH := hY.now hS
  have h1 : vp_in (nI (i + 1)) L := vp_in_nI (by omega) (by omega)
  obtain ⟨a1, e1⟩ : ∃ z, xs (nI (i + 1)).toNatClampNeg = z := ⟨_, rfl⟩
  have h2 : vp_in (nI (i + 2)) L := vp_in_nI (by omega) (by omega)
  obtain ⟨a2, e2⟩ : ∃ z, xs (nI (i + 2)).toNatClampNeg = z := ⟨_, rfl⟩
  refine lv_aload_n hx hb dL_law_313 rfl (lv_at hl 1 rfl) ?_
  refine l_arg (v := 1) hx hb hX hbl hS (lv_at hl 0 rfl) (lv_at hl 4 rfl) h1 e1 (by decide) dL_law_314 dL_law_315 dL_law_317 dL_law_318 dL_law_319 ?_
  refine l_arg (v := 2) hx hb hX hbl hS (lv_at hl 0 rfl) (lv_at hl 4 rfl) h2 e2 (by decide) dL_law_320 dL_law_321 dL_law_323 dL_law_324 dL_law_325 ?_
  refine lw_wc (Φ := fun k τ2 ν2 => oSetPaces σ a1 a2 30 0 = k ∧ Rel n τ2 ν2 (oSetPaces σ a1 a2) μ) (vx_runSW (As := [.ref (adC 0 0), .int a1, .int a2]) (rest := []) ⟨hx, hb, hml, hown, hts⟩ (m_L_setPaces l hl9 D cy (lA s.heap.size) H.size adC τ ν hJ.1 a1 a2) (vx_cwSW 3 hts gL_law_L_setPaces rfl rfl rfl (by decide +kernel) ⟨Nat.le_of_ble_eq_true rfl, Nat.le_of_ble_eq_true rfl⟩) (y_preS (B := atSz H.size (CW D cy adC τ ν)) hK hYH ⟨rfl, hB⟩) rfl rfl hl.1 rfl (lv_room (Nat.le_of_ble_eq_true rfl)) dL_law_326 ⟨by have := hro.1; omega, by have := hro.2; omega⟩) hJ hS hM hO rfl (t_setPaces hR a1 a2) (fun k1 τ1 ν1 H1 locs1 T1 hJ1 hB1 hO1 hM1 hS1 => ?_)
  refine lv_istore (lv' := [(5, .int k1), (0, .ref b), (1, .ref (adC 0 0)), (2, .ref (adM 0 0)), (3, .ref o), (4, .int (nI i))]) hx hb dL_law_329 hl (by decide) rfl (fun ls hl => ?_)
  refine lv_aload_n hx hb dL_law_331 rfl (lv_at hl 3 rfl) ?_
  refine l_arg (v := 1) hx hb hX hbl hS1 (lv_at hl 1 rfl) (lv_at hl 5 rfl) h1 e1 (by decide) dL_law_332 dL_law_333 dL_law_335 dL_law_336 dL_law_337 ?_
  refine l_arg (v := 2) hx hb hX hbl hS1 (lv_at hl 1 rfl) (lv_at hl 5 rfl) h2 e2 (by decide) dL_law_338 dL_law_339 dL_law_341 dL_law_342 dL_law_343 ?_
  refine lw_m0 (Ψ := fun σ1 μ1 => σ1 30 0 = k1 ∧ Rel n τ1 ν1 σ1 μ1) (va_runV (As := [.int a1, .int a2]) (rest := []) ⟨hx, hb, hml, hown, hts⟩ (m_X4_setPaces l D cy H1.size adM σ μ hJ.2.1 a1 a2) (cwV 2 hts gL_law_X4_setPaces rfl rfl rfl (by decide +kernel) ⟨Nat.le_of_ble_eq_true rfl, Nat.le_of_ble_eq_true rfl⟩) (g_preV (C := RX4) (B := atSz H1.size (MW D cy adM σ μ)) hK ⟨rfl, hM1⟩ (hM1 0 0 Nat.zero_lt_one) rfl) rfl rfl hl.1 rfl (lv_room (Nat.le_of_ble_eq_true rfl)) dL_law_344 ⟨by have := hro.1; omega, by have := hro.2; omega⟩) hJ1 hS1 hB1 hO1 T1 (fun σ1 μ1 H2 locs2 T2 hB2 hO2 hM2 hS2 => ?_)
  refine lv_aload_n hx hb dL_law_347 rfl (lv_at hl 3 rfl) ?_
  refine g_csr (va_runV (As := []) (rest := []) ⟨hx, hb, hml, hown, hts⟩ (m_X4_thrown l D cy adM σ1 μ1) (cwV 0 hts gL_law_X4_thrown rfl rfl rfl (by decide +kernel) ⟨Nat.le_of_ble_eq_true rfl, Nat.le_of_ble_eq_true rfl⟩) (g_preV (C := RX4) (B := MW D cy adM σ1 μ1) hK hM2 (hM2 0 0 Nat.zero_lt_one) rfl) rfl rfl hl.1 rfl (lv_room (Nat.le_of_ble_eq_true rfl)) dL_law_348 ⟨by have := hro.1; omega, by have := hro.2; omega⟩) ?_
  refine lv_iload hx hb dL_law_351 (lv_at hl 0 rfl) ?_
  refine W.widen (k := cells + 6) (n := slots + 86) (by omega) (by omega) ?_
  refine lv_icmp_eq (tgt := 358) hx hb dL_law_353 (by decide) (fun c1 => ?_) (fun c1 => absurd T2.1 c1)
  refine lv_goto (tgt := 1166) hx hb dL_law_358 (by decide) ?_
  exact K adC τ1 ν1 σ1 μ1 x0 H2 locs2 ls rfl (T2.2.up (Nat.le_succ n)) hJ1 hB2 hO2 hM2 hS2 (lv_sub hl [1, 2, 3, 4, 5] rfl)

set_option maxHeartbeats 4000000 in
set_option maxRecDepth 100000 in
/-- the law's call 6: setBudget -/
theorem lc_6 {p : Program} {l : Launch} {e : Env} {s : State} {m : MethodId} {below : List Frame} {meth : Method} {c : Code} {b L : Nat} {xs : Nat → Int32} {D : va_G} {cy : Nat → ClassId} {adM : NT} {o a0 n i cells slots : Nat} (C : lctx p l s m c b L xs D cy) (hn : n < 1000) (hi : i + 2 < L) (hL : L ≤ 1536) (hro : cells + 6 ≤ room_1.cells ∧ slots + 86 ≤ room_1.slots) (K : lgo p l e s m below meth c b D cy adM o a0 (n + 1) i (cells + 6) (slots + 86) 1166) : lgo p l e s m below meth c b D cy adM o a0 n i cells slots 361 := by
  obtain ⟨hx, hb, hml, hown, hts, hK, hY, hC9, hX, hbl, hl9⟩ := id C
  intro adC τ ν σ μ x0 H locs ls ha hR hJ hB hO hM hS hl
  subst ha
  have hYH := hY.now hS
  have h1 : vp_in (nI (i + 1)) L := vp_in_nI (by omega) (by omega)
  obtain ⟨a1, e1⟩ : ∃ z, xs (nI (i + 1)).toNatClampNeg = z := ⟨_, rfl⟩
  refine lv_aload_n hx hb dL_law_361 rfl (lv_at hl 1 rfl) ?_
  refine l_arg (v := 1) hx hb hX hbl hS (lv_at hl 0 rfl) (lv_at hl 4 rfl) h1 e1 (by decide) dL_law_362 dL_law_363 dL_law_365 dL_law_366 dL_law_367 ?_
  refine lv_aload_n hx hb dL_law_368 rfl (lv_at hl 3 rfl) ?_
  refine lw_wr (Φ := fun k x τ2 ν2 => okC n k x τ2 ν2 (oSetBudget σ a1).1 (oSetBudget σ a1).2 μ) (vx_runSW (As := [.ref (adC 0 0), .int a1, .ref o]) (rest := []) ⟨hx, hb, hml, hown, hts⟩ (m_L_setBudget l hl9 D cy (lA s.heap.size) H.size adC τ ν hJ.1 o (fun k i hi => (hJ.2.2.1 k i hi).2.1) x0 a1) (vx_cwSW 3 hts gL_law_L_setBudget rfl rfl rfl (by decide +kernel) ⟨Nat.le_of_ble_eq_true rfl, Nat.le_of_ble_eq_true rfl⟩) (y_preS (B := atSz H.size (WO D cy adC τ ν o x0)) hK hYH ⟨rfl, hB, hO⟩) rfl rfl hl.1 rfl (lv_room (Nat.le_of_ble_eq_true rfl)) dL_law_369 ⟨by have := hro.1; omega, by have := hro.2; omega⟩) hJ hS hM (by rw [ite_self]) (t_setBudget hR a1 x0) (fun k1 x1 τ1 ν1 H1 locs1 T1 hJ1 hB1 hO1 hM1 hS1 => ?_)
  refine lv_istore (lv' := [(5, .int k1), (0, .ref b), (1, .ref (adC 0 0)), (2, .ref (adM 0 0)), (3, .ref o), (4, .int (nI i))]) hx hb dL_law_372 hl (by decide) rfl (fun ls hl => ?_)
  refine lv_aload_n hx hb dL_law_374 rfl (lv_at hl 3 rfl) ?_
  refine l_arg (v := 1) hx hb hX hbl hS1 (lv_at hl 1 rfl) (lv_at hl 5 rfl) h1 e1 (by decide) dL_law_375 dL_law_376 dL_law_378 dL_law_379 dL_law_380 ?_
  refine lw_md (Ψ := fun b1 σ1 μ1 => okC n k1 x1 τ1 ν1 b1 σ1 μ1) (va_runV (As := [.int a1]) (rest := []) ⟨hx, hb, hml, hown, hts⟩ (m_X4_setBudget l D cy H1.size adM σ μ hJ.2.1 a1) (cwV 1 hts gL_law_X4_setBudget rfl rfl rfl (by decide +kernel) ⟨Nat.le_of_ble_eq_true rfl, Nat.le_of_ble_eq_true rfl⟩) (g_preV (C := RX4) (B := atSz H1.size (MW D cy adM σ μ)) hK ⟨rfl, hM1⟩ (hM1 0 0 Nat.zero_lt_one) rfl) rfl rfl hl.1 rfl (lv_room (Nat.le_of_ble_eq_true rfl)) dL_law_381 ⟨by have := hro.1; omega, by have := hro.2; omega⟩) hJ1 hS1 hB1 hO1 T1 (fun b1 σ1 μ1 H2 locs2 T2 hB2 hO2 hM2 hS2 => ?_)
  exact l_tail (q := 384) C ⟨hro.1, hro.2⟩ dL_law_384 dL_law_386 dL_law_387 dL_law_390 dL_law_392 dL_law_397 dL_law_399 dL_law_402 dL_law_403 dL_law_404 dL_law_405 dL_law_407 dL_law_408 dL_law_409 dL_law_414 (by decide) K (Nat.le_succ n) (by omega) (by omega) rfl T2 hJ1 hB2 hO2 hM2 hS2 hl

set_option maxHeartbeats 4000000 in
set_option maxRecDepth 100000 in
/-- the law's call 7: failures -/
theorem lc_7 {p : Program} {l : Launch} {e : Env} {s : State} {m : MethodId} {below : List Frame} {meth : Method} {c : Code} {b L : Nat} {xs : Nat → Int32} {D : va_G} {cy : Nat → ClassId} {adM : NT} {o a0 n i cells slots : Nat} (C : lctx p l s m c b L xs D cy) (hn : n < 1000) (hi : i + 2 < L) (hL : L ≤ 1536) (hro : cells + 6 ≤ room_1.cells ∧ slots + 86 ≤ room_1.slots) (K : lgo p l e s m below meth c b D cy adM o a0 (n + 1) i (cells + 6) (slots + 86) 1166) : lgo p l e s m below meth c b D cy adM o a0 n i cells slots 417 := by
  obtain ⟨hx, hb, hml, hown, hts, hK, hY, hC9, hX, hbl, hl9⟩ := id C
  intro adC τ ν σ μ x0 H locs ls ha hR hJ hB hO hM hS hl
  subst ha
  have hYH := hY.now hS
  have h1 : vp_in (nI (i + 1)) L := vp_in_nI (by omega) (by omega)
  obtain ⟨a1, e1⟩ : ∃ z, xs (nI (i + 1)).toNatClampNeg = z := ⟨_, rfl⟩
  refine lv_aload_n hx hb dL_law_417 rfl (lv_at hl 1 rfl) ?_
  refine l_arg (v := 1) hx hb hX hbl hS (lv_at hl 0 rfl) (lv_at hl 4 rfl) h1 e1 (by decide) dL_law_418 dL_law_419 dL_law_421 dL_law_422 dL_law_423 ?_
  refine lv_aload_n hx hb dL_law_424 rfl (lv_at hl 3 rfl) ?_
  refine lw_wr (Φ := fun k x τ2 ν2 => okC n k x τ2 ν2 (oHostQ σ 8 a1).1 (oHostQ σ 8 a1).2 μ) (vx_runSW (As := [.ref (adC 0 0), .int a1, .ref o]) (rest := []) ⟨hx, hb, hml, hown, hts⟩ (m_L_failures l hl9 D cy (lA s.heap.size) H.size adC τ ν hJ.1 o (fun k i hi => (hJ.2.2.1 k i hi).2.1) x0 a1) (vx_cwSW 3 hts gL_law_L_failures rfl rfl rfl (by decide +kernel) ⟨Nat.le_of_ble_eq_true rfl, Nat.le_of_ble_eq_true rfl⟩) (y_preS (B := atSz H.size (WO D cy adC τ ν o x0)) hK hYH ⟨rfl, hB, hO⟩) rfl rfl hl.1 rfl (lv_room (Nat.le_of_ble_eq_true rfl)) dL_law_425 ⟨by have := hro.1; omega, by have := hro.2; omega⟩) hJ hS hM (by rw [ite_self]) (t_hostQ (K := 8) hR (by decide) (by decide) a1 x0) (fun k1 x1 τ1 ν1 H1 locs1 T1 hJ1 hB1 hO1 hM1 hS1 => ?_)
  refine lv_istore (lv' := [(5, .int k1), (0, .ref b), (1, .ref (adC 0 0)), (2, .ref (adM 0 0)), (3, .ref o), (4, .int (nI i))]) hx hb dL_law_428 hl (by decide) rfl (fun ls hl => ?_)
  refine lv_aload_n hx hb dL_law_430 rfl (lv_at hl 3 rfl) ?_
  refine l_arg (v := 1) hx hb hX hbl hS1 (lv_at hl 1 rfl) (lv_at hl 5 rfl) h1 e1 (by decide) dL_law_431 dL_law_432 dL_law_434 dL_law_435 dL_law_436 ?_
  refine lw_md (Ψ := fun b1 σ1 μ1 => okC n k1 x1 τ1 ν1 b1 σ1 μ1) (va_runV (As := [.int a1]) (rest := []) ⟨hx, hb, hml, hown, hts⟩ (m_X4_failures l D cy H1.size adM σ μ hJ.2.1 a1) (cwV 1 hts gL_law_X4_failures rfl rfl rfl (by decide +kernel) ⟨Nat.le_of_ble_eq_true rfl, Nat.le_of_ble_eq_true rfl⟩) (g_preV (C := RX4) (B := atSz H1.size (MW D cy adM σ μ)) hK ⟨rfl, hM1⟩ (hM1 0 0 Nat.zero_lt_one) rfl) rfl rfl hl.1 rfl (lv_room (Nat.le_of_ble_eq_true rfl)) dL_law_437 ⟨by have := hro.1; omega, by have := hro.2; omega⟩) hJ1 hS1 hB1 hO1 T1 (fun b1 σ1 μ1 H2 locs2 T2 hB2 hO2 hM2 hS2 => ?_)
  exact l_tail (q := 440) C ⟨hro.1, hro.2⟩ dL_law_440 dL_law_442 dL_law_443 dL_law_446 dL_law_448 dL_law_453 dL_law_455 dL_law_458 dL_law_459 dL_law_460 dL_law_461 dL_law_463 dL_law_464 dL_law_465 dL_law_470 (by decide) K (Nat.le_succ n) (by omega) (by omega) rfl T2 hJ1 hB2 hO2 hM2 hS2 hl

set_option maxHeartbeats 4000000 in
set_option maxRecDepth 100000 in
/-- the law's call 8: openFrom -/
theorem lc_8 {p : Program} {l : Launch} {e : Env} {s : State} {m : MethodId} {below : List Frame} {meth : Method} {c : Code} {b L : Nat} {xs : Nat → Int32} {D : va_G} {cy : Nat → ClassId} {adM : NT} {o a0 n i cells slots : Nat} (C : lctx p l s m c b L xs D cy) (hn : n < 1000) (hi : i + 2 < L) (hL : L ≤ 1536) (hro : cells + 6 ≤ room_1.cells ∧ slots + 86 ≤ room_1.slots) (K : lgo p l e s m below meth c b D cy adM o a0 (n + 1) i (cells + 6) (slots + 86) 1166) : lgo p l e s m below meth c b D cy adM o a0 n i cells slots 473 := by
  obtain ⟨hx, hb, hml, hown, hts, hK, hY, hC9, hX, hbl, hl9⟩ := id C
  intro adC τ ν σ μ x0 H locs ls ha hR hJ hB hO hM hS hl
  subst ha
  have hYH := hY.now hS
  have h1 : vp_in (nI (i + 1)) L := vp_in_nI (by omega) (by omega)
  obtain ⟨a1, e1⟩ : ∃ z, xs (nI (i + 1)).toNatClampNeg = z := ⟨_, rfl⟩
  refine lv_aload_n hx hb dL_law_473 rfl (lv_at hl 1 rfl) ?_
  refine l_arg (v := 1) hx hb hX hbl hS (lv_at hl 0 rfl) (lv_at hl 4 rfl) h1 e1 (by decide) dL_law_474 dL_law_475 dL_law_477 dL_law_478 dL_law_479 ?_
  refine lv_aload_n hx hb dL_law_480 rfl (lv_at hl 3 rfl) ?_
  refine lw_wr (Φ := fun k x τ2 ν2 => okC n k x τ2 ν2 (oHostQ σ 9 a1).1 (oHostQ σ 9 a1).2 μ) (vx_runSW (As := [.ref (adC 0 0), .int a1, .ref o]) (rest := []) ⟨hx, hb, hml, hown, hts⟩ (m_L_openFrom l hl9 D cy (lA s.heap.size) H.size adC τ ν hJ.1 o (fun k i hi => (hJ.2.2.1 k i hi).2.1) x0 a1) (vx_cwSW 3 hts gL_law_L_openFrom rfl rfl rfl (by decide +kernel) ⟨Nat.le_of_ble_eq_true rfl, Nat.le_of_ble_eq_true rfl⟩) (y_preS (B := atSz H.size (WO D cy adC τ ν o x0)) hK hYH ⟨rfl, hB, hO⟩) rfl rfl hl.1 rfl (lv_room (Nat.le_of_ble_eq_true rfl)) dL_law_481 ⟨by have := hro.1; omega, by have := hro.2; omega⟩) hJ hS hM (by rw [ite_self]) (t_hostQ (K := 9) hR (by decide) (by decide) a1 x0) (fun k1 x1 τ1 ν1 H1 locs1 T1 hJ1 hB1 hO1 hM1 hS1 => ?_)
  refine lv_istore (lv' := [(5, .int k1), (0, .ref b), (1, .ref (adC 0 0)), (2, .ref (adM 0 0)), (3, .ref o), (4, .int (nI i))]) hx hb dL_law_484 hl (by decide) rfl (fun ls hl => ?_)
  refine lv_aload_n hx hb dL_law_486 rfl (lv_at hl 3 rfl) ?_
  refine l_arg (v := 1) hx hb hX hbl hS1 (lv_at hl 1 rfl) (lv_at hl 5 rfl) h1 e1 (by decide) dL_law_487 dL_law_488 dL_law_490 dL_law_491 dL_law_492 ?_
  refine lw_md (Ψ := fun b1 σ1 μ1 => okC n k1 x1 τ1 ν1 b1 σ1 μ1) (va_runV (As := [.int a1]) (rest := []) ⟨hx, hb, hml, hown, hts⟩ (m_X4_openFrom l D cy H1.size adM σ μ hJ.2.1 a1) (cwV 1 hts gL_law_X4_openFrom rfl rfl rfl (by decide +kernel) ⟨Nat.le_of_ble_eq_true rfl, Nat.le_of_ble_eq_true rfl⟩) (g_preV (C := RX4) (B := atSz H1.size (MW D cy adM σ μ)) hK ⟨rfl, hM1⟩ (hM1 0 0 Nat.zero_lt_one) rfl) rfl rfl hl.1 rfl (lv_room (Nat.le_of_ble_eq_true rfl)) dL_law_493 ⟨by have := hro.1; omega, by have := hro.2; omega⟩) hJ1 hS1 hB1 hO1 T1 (fun b1 σ1 μ1 H2 locs2 T2 hB2 hO2 hM2 hS2 => ?_)
  exact l_tail (q := 496) C ⟨hro.1, hro.2⟩ dL_law_496 dL_law_498 dL_law_499 dL_law_502 dL_law_504 dL_law_509 dL_law_511 dL_law_514 dL_law_515 dL_law_516 dL_law_517 dL_law_519 dL_law_520 dL_law_521 dL_law_526 (by decide) K (Nat.le_succ n) (by omega) (by omega) rfl T2 hJ1 hB2 hO2 hM2 hS2 hl

set_option maxHeartbeats 4000000 in
set_option maxRecDepth 100000 in
/-- the law's call 9: find -/
theorem lc_9 {p : Program} {l : Launch} {e : Env} {s : State} {m : MethodId} {below : List Frame} {meth : Method} {c : Code} {b L : Nat} {xs : Nat → Int32} {D : va_G} {cy : Nat → ClassId} {adM : NT} {o a0 n i cells slots : Nat} (C : lctx p l s m c b L xs D cy) (hn : n < 1000) (hi : i + 2 < L) (hL : L ≤ 1536) (hro : cells + 6 ≤ room_1.cells ∧ slots + 86 ≤ room_1.slots) (K : lgo p l e s m below meth c b D cy adM o a0 (n + 1) i (cells + 6) (slots + 86) 1166) : lgo p l e s m below meth c b D cy adM o a0 n i cells slots 529 := by
  obtain ⟨hx, hb, hml, hown, hts, hK, hY, hC9, hX, hbl, hl9⟩ := id C
  intro adC τ ν σ μ x0 H locs ls ha hR hJ hB hO hM hS hl
  subst ha
  have hYH := hY.now hS
  have h1 : vp_in (nI (i + 1)) L := vp_in_nI (by omega) (by omega)
  obtain ⟨a1, e1⟩ : ∃ z, xs (nI (i + 1)).toNatClampNeg = z := ⟨_, rfl⟩
  have h2 : vp_in (nI (i + 2)) L := vp_in_nI (by omega) (by omega)
  obtain ⟨a2, e2⟩ : ∃ z, xs (nI (i + 2)).toNatClampNeg = z := ⟨_, rfl⟩
  refine lv_aload_n hx hb dL_law_529 rfl (lv_at hl 1 rfl) ?_
  refine l_arg (v := 1) hx hb hX hbl hS (lv_at hl 0 rfl) (lv_at hl 4 rfl) h1 e1 (by decide) dL_law_530 dL_law_531 dL_law_533 dL_law_534 dL_law_535 ?_
  refine l_arg (v := 2) hx hb hX hbl hS (lv_at hl 0 rfl) (lv_at hl 4 rfl) h2 e2 (by decide) dL_law_536 dL_law_537 dL_law_539 dL_law_540 dL_law_541 ?_
  refine lv_aload_n hx hb dL_law_542 rfl (lv_at hl 3 rfl) ?_
  have TF := t_find hR a1 a2
  refine lw_fd (Φ := fun k x τ2 ν2 => okC n k x τ2 ν2 (oFind σ μ a1 a2).1 (oFind σ μ a1 a2).2.1 (oFind σ μ a1 a2).2.2) (vx_runSW (As := [.ref (adC 0 0), .int a1, .int a2, .ref o]) (rest := []) ⟨hx, hb, hml, hown, hts⟩ (m_L_find l hl9 D cy (lA s.heap.size) H.size adC τ ν hJ.1 o (fun k i hi => (hJ.2.2.1 k i hi).2.1) x0 hR.CI hR.fits a1 a2) (vx_cwSW 4 hts gL_law_L_find rfl rfl rfl (by decide +kernel) ⟨Nat.le_of_ble_eq_true rfl, Nat.le_of_ble_eq_true rfl⟩) (yc_preS (B := atSz H.size (WO D cy adC τ ν o x0)) hK hYH hC9 ⟨rfl, hB, hO⟩) rfl rfl hl.1 rfl (lv_room (Nat.le_of_ble_eq_true rfl)) dL_law_543 ⟨by have := hro.1; omega, by have := hro.2; omega⟩) rfl hJ hS hB hO hM (fun z1 z2 => ⟨TF.1, fun z => by rw [TF.2.1 z], TF.2.2.1 z1 z2⟩) (fun z1 => ⟨TF.1, fun z => by rw [if_pos z, TF.2.1 z], TF.2.2.2 z1⟩) (fun adC2 k1 x1 τ1 ν1 H1 locs1 ha2 T1 hJ1 hB1 hO1 hM1 hS1 => ?_)
  refine lv_istore (lv' := [(5, .int k1), (0, .ref b), (1, .ref (adC 0 0)), (2, .ref (adM 0 0)), (3, .ref o), (4, .int (nI i))]) hx hb dL_law_546 hl (by decide) rfl (fun ls hl => ?_)
  refine lv_aload_n hx hb dL_law_548 rfl (lv_at hl 3 rfl) ?_
  refine l_arg (v := 1) hx hb hX hbl hS1 (lv_at hl 1 rfl) (lv_at hl 5 rfl) h1 e1 (by decide) dL_law_549 dL_law_550 dL_law_552 dL_law_553 dL_law_554 ?_
  refine l_arg (v := 2) hx hb hX hbl hS1 (lv_at hl 1 rfl) (lv_at hl 5 rfl) h2 e2 (by decide) dL_law_555 dL_law_556 dL_law_558 dL_law_559 dL_law_560 ?_
  refine lw_md (Ψ := fun b1 σ1 μ1 => okC n k1 x1 τ1 ν1 b1 σ1 μ1) (va_runV (As := [.int a1, .int a2]) (rest := []) ⟨hx, hb, hml, hown, hts⟩ (m_X4_find l D cy H1.size adM σ μ hJ.2.1 hR.MI a1 a2) (cwV 2 hts gL_law_X4_find rfl rfl rfl (by decide +kernel) ⟨Nat.le_of_ble_eq_true rfl, Nat.le_of_ble_eq_true rfl⟩) (g_preV (C := RX4) (B := atSz H1.size (MW D cy adM σ μ)) hK ⟨rfl, hM1⟩ (hM1 0 0 Nat.zero_lt_one) rfl) rfl rfl hl.1 rfl (lv_room (Nat.le_of_ble_eq_true rfl)) dL_law_561 ⟨by have := hro.1; omega, by have := hro.2; omega⟩) hJ1 hS1 hB1 hO1 T1 (fun b1 σ1 μ1 H2 locs2 T2 hB2 hO2 hM2 hS2 => ?_)
  exact l_tail (q := 564) C ⟨hro.1, hro.2⟩ dL_law_564 dL_law_566 dL_law_567 dL_law_570 dL_law_572 dL_law_577 dL_law_579 dL_law_582 dL_law_583 dL_law_584 dL_law_585 dL_law_587 dL_law_588 dL_law_589 dL_law_594 (by decide) K (Nat.le_succ n) (by omega) (by omega) ha2 T2 hJ1 hB2 hO2 hM2 hS2 hl

set_option maxHeartbeats 4000000 in
set_option maxRecDepth 100000 in
/-- the law's call 10: setRank -/
theorem lc_10 {p : Program} {l : Launch} {e : Env} {s : State} {m : MethodId} {below : List Frame} {meth : Method} {c : Code} {b L : Nat} {xs : Nat → Int32} {D : va_G} {cy : Nat → ClassId} {adM : NT} {o a0 n i cells slots : Nat} (C : lctx p l s m c b L xs D cy) (hn : n < 1000) (hi : i + 2 < L) (hL : L ≤ 1536) (hro : cells + 6 ≤ room_1.cells ∧ slots + 86 ≤ room_1.slots) (K : lgo p l e s m below meth c b D cy adM o a0 (n + 1) i (cells + 6) (slots + 86) 1166) : lgo p l e s m below meth c b D cy adM o a0 n i cells slots 597 := by
  obtain ⟨hx, hb, hml, hown, hts, hK, hY, hC9, hX, hbl, hl9⟩ := id C
  intro adC τ ν σ μ x0 H locs ls ha hR hJ hB hO hM hS hl
  subst ha
  have hYH := hY.now hS
  have h1 : vp_in (nI (i + 1)) L := vp_in_nI (by omega) (by omega)
  obtain ⟨a1, e1⟩ : ∃ z, xs (nI (i + 1)).toNatClampNeg = z := ⟨_, rfl⟩
  have h2 : vp_in (nI (i + 2)) L := vp_in_nI (by omega) (by omega)
  obtain ⟨a2, e2⟩ : ∃ z, xs (nI (i + 2)).toNatClampNeg = z := ⟨_, rfl⟩
  refine lv_aload_n hx hb dL_law_597 rfl (lv_at hl 1 rfl) ?_
  refine l_arg (v := 1) hx hb hX hbl hS (lv_at hl 0 rfl) (lv_at hl 4 rfl) h1 e1 (by decide) dL_law_598 dL_law_599 dL_law_601 dL_law_602 dL_law_603 ?_
  refine l_arg (v := 2) hx hb hX hbl hS (lv_at hl 0 rfl) (lv_at hl 4 rfl) h2 e2 (by decide) dL_law_604 dL_law_605 dL_law_607 dL_law_608 dL_law_609 ?_
  refine lv_aload_n hx hb dL_law_610 rfl (lv_at hl 3 rfl) ?_
  refine lw_wr (Φ := fun k x τ2 ν2 => okC n k x τ2 ν2 (oSetRank σ μ a1 a2).1 (oSetRank σ μ a1 a2).2 μ) (vx_runSW (As := [.ref (adC 0 0), .int a1, .int a2, .ref o]) (rest := []) ⟨hx, hb, hml, hown, hts⟩ (m_L_setRank l hl9 D cy (lA s.heap.size) H.size adC τ ν hJ.1 o (fun k i hi => (hJ.2.2.1 k i hi).2.1) x0 hR.le30 a1 a2) (vx_cwSW 4 hts gL_law_L_setRank rfl rfl rfl (by decide +kernel) ⟨Nat.le_of_ble_eq_true rfl, Nat.le_of_ble_eq_true rfl⟩) (y_preS (B := atSz H.size (WO D cy adC τ ν o x0)) hK hYH ⟨rfl, hB, hO⟩) rfl rfl hl.1 rfl (lv_room (Nat.le_of_ble_eq_true rfl)) dL_law_611 ⟨by have := hro.1; omega, by have := hro.2; omega⟩) hJ hS hM (by rw [ite_self]) (t_setRank hR a1 a2 x0) (fun k1 x1 τ1 ν1 H1 locs1 T1 hJ1 hB1 hO1 hM1 hS1 => ?_)
  refine lv_istore (lv' := [(5, .int k1), (0, .ref b), (1, .ref (adC 0 0)), (2, .ref (adM 0 0)), (3, .ref o), (4, .int (nI i))]) hx hb dL_law_614 hl (by decide) rfl (fun ls hl => ?_)
  refine lv_aload_n hx hb dL_law_616 rfl (lv_at hl 3 rfl) ?_
  refine l_arg (v := 1) hx hb hX hbl hS1 (lv_at hl 1 rfl) (lv_at hl 5 rfl) h1 e1 (by decide) dL_law_617 dL_law_618 dL_law_620 dL_law_621 dL_law_622 ?_
  refine l_arg (v := 2) hx hb hX hbl hS1 (lv_at hl 1 rfl) (lv_at hl 5 rfl) h2 e2 (by decide) dL_law_623 dL_law_624 dL_law_626 dL_law_627 dL_law_628 ?_
  refine lw_md (Ψ := fun b1 σ1 μ1 => okC n k1 x1 τ1 ν1 b1 σ1 μ1) (va_runV (As := [.int a1, .int a2]) (rest := []) ⟨hx, hb, hml, hown, hts⟩ (m_X4_setRank l D cy H1.size adM σ μ hJ.2.1 hR.MI a1 a2) (cwV 2 hts gL_law_X4_setRank rfl rfl rfl (by decide +kernel) ⟨Nat.le_of_ble_eq_true rfl, Nat.le_of_ble_eq_true rfl⟩) (g_preV (C := RX4) (B := atSz H1.size (MW D cy adM σ μ)) hK ⟨rfl, hM1⟩ (hM1 0 0 Nat.zero_lt_one) rfl) rfl rfl hl.1 rfl (lv_room (Nat.le_of_ble_eq_true rfl)) dL_law_629 ⟨by have := hro.1; omega, by have := hro.2; omega⟩) hJ1 hS1 hB1 hO1 T1 (fun b1 σ1 μ1 H2 locs2 T2 hB2 hO2 hM2 hS2 => ?_)
  exact l_tail (q := 632) C ⟨hro.1, hro.2⟩ dL_law_632 dL_law_634 dL_law_635 dL_law_638 dL_law_640 dL_law_645 dL_law_647 dL_law_650 dL_law_651 dL_law_652 dL_law_653 dL_law_655 dL_law_656 dL_law_657 dL_law_662 (by decide) K (Nat.le_succ n) (by omega) (by omega) rfl T2 hJ1 hB2 hO2 hM2 hS2 hl
