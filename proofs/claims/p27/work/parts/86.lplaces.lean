/-! the law: its places -/
set_option maxHeartbeats 8000000 in
set_option maxRecDepth 100000 in
/-- the law: setRest -/
theorem la_rest {p : Program} {l : Launch} {e : Env} {s : State} {m : MethodId} {below : List Frame} {meth : Method} {c : Code} {b L : Nat} {xs : Nat → Int32} {D : va_G} {cy : Nat → ClassId} {bd : NT} {a0 t : Nat} {z y : Int32} (C : lctx p l s m c b L xs D cy bd) (ht : t < 120)  (K : lgo p l e s m below meth c b D cy bd a0 (t + 1) t 0 (lPot (t + 1)) [(10, .int z), (12, .int 1)] (100 + 200 * t + 20) (2000 + 1000 * t + 160) 678) : lgo p l e s m below meth c b D cy bd a0 t t 2 (lPot t) [(10, .int z), (11, .int y), (12, .int 1)] (100 + 200 * t) (2000 + 1000 * t) 184 := by
  obtain ⟨hx, hb, hml, hown, hts, hK, hX0, hcK, hXs, hbl, hl9, hL260, hbd⟩ := id C
  intro ad τ ν ρ κ σ μ H locs ls ha hR hLR hP hJ hge hg2 hC hB hS hl
  subst ha
  have hl : lv_has ls 16 [(10, .int z), (11, .int y), (12, .int 1), (0, .ref b), (1, .ref (ad 0 0)), (2, .ref (bd 0 0)), (3, .ref (bd 1 0)), (4, .ref (bd 2 0)), (5, .ref (bd 3 0)), (6, .ref (bd 4 0)), (7, .ref (bd 5 0)), (8, .ref (bd 6 0)), (9, .int (nI t))] := hl
  have h10 := hLR.2.1.1
  have h12 := hLR.2.1.2.1
  have hn0 := hR.n0
  have hn1 := hR.n1
  have hX := hX0.kept hS.2.1
  have hA9 : ∀ q, wB (ν 0 0) ad bd s.heap.size q → lZ s.heap.size q := lA_wB hge hbd (Nat.le_refl _)
  refine lv_iload hx hb dL_law_184 (lv_at hl 0 rfl) ?_
  refine lv_iconst (v := 5) hx hb dL_law_186 (by decide) ?_
  refine lv_ishr hx hb dL_law_187 ?_
  refine lv_iconst (v := 3) hx hb dL_law_188 (by decide) ?_
  refine g_csr (va_runS (As := [.int (z >>> (5 &&& 31)), .int 3]) (rest := []) ⟨hx, hb, hml, hown, hts⟩ (m_L_low l D cy bd ρ κ (z >>> (5 &&& 31)) 3 (by decide)) (va_cwS 2 hts gL_law_L_low rfl rfl rfl (by decide +kernel) ⟨Nat.le_of_ble_eq_true rfl, Nat.le_of_ble_eq_true rfl⟩) (g_preS (B := (fun _ => True)) hK trivial) rfl rfl hl.1 rfl (lv_room (Nat.le_of_ble_eq_true rfl)) dL_law_189 ⟨(by show (100 + 200 * t) + 0 ≤ 600172; omega), (by show (2000 + 1000 * t) + 0 ≤ 7300668; omega)⟩) ?_
  obtain ⟨g4, hg4, eg4⟩ := low_nI (v := (z >>> (5 &&& 31))) (m := 3) (by decide) (by decide)
  refine lv_topi (fun y1 ey1 => ?_)
  obtain rfl : y1 = nI g4 := ey1.trans (eg4)
  refine lv_istore (lv' := [(13, .int (nI g4)), (10, .int z), (11, .int y), (12, .int 1), (0, .ref b), (1, .ref (ad 0 0)), (2, .ref (bd 0 0)), (3, .ref (bd 1 0)), (4, .ref (bd 2 0)), (5, .ref (bd 3 0)), (6, .ref (bd 4 0)), (7, .ref (bd 5 0)), (8, .ref (bd 6 0)), (9, .int (nI t))]) hx hb dL_law_192 hl (by decide) rfl (fun ls hl => ?_)
  refine lv_aload_n hx hb dL_law_194 rfl (lv_at hl 7 rfl) ?_
  refine lv_iconst (v := 3) hx hb dL_law_195 (by decide) ?_
  refine lv_iload hx hb dL_law_196 (lv_at hl 0 rfl) ?_
  refine lv_imul hx hb dL_law_198 ?_
  refine lv_topi (fun y2 ey2 => ?_)
  obtain rfl : y2 = nI (3 * g4) := ey2.trans (pk_mul 3 g4)
  refine g_iald (f := ρ 1) (x := ρ 1 (3 * g4)) hx hb hK (hB 1 0 Nat.zero_lt_one) (vp_in_nI (n := 3 * g4) (N := 9) (by omega) (by decide)) (congrArg (ρ 1) (cl_nI (n := 3 * g4) (by omega))) dL_law_199 ?_
  refine lv_istore (lv' := [(14, .int (ρ 1 (3 * g4))), (13, .int (nI g4)), (10, .int z), (11, .int y), (12, .int 1), (0, .ref b), (1, .ref (ad 0 0)), (2, .ref (bd 0 0)), (3, .ref (bd 1 0)), (4, .ref (bd 2 0)), (5, .ref (bd 3 0)), (6, .ref (bd 4 0)), (7, .ref (bd 5 0)), (8, .ref (bd 6 0)), (9, .int (nI t))]) hx hb dL_law_200 hl (by decide) rfl (fun ls hl => ?_)
  refine lv_aload_n hx hb dL_law_202 rfl (lv_at hl 8 rfl) ?_
  refine lv_iconst (v := 3) hx hb dL_law_203 (by decide) ?_
  refine lv_iload hx hb dL_law_204 (lv_at hl 1 rfl) ?_
  refine lv_imul hx hb dL_law_206 ?_
  refine lv_topi (fun y3 ey3 => ?_)
  obtain rfl : y3 = nI (3 * g4) := ey3.trans (pk_mul 3 g4)
  refine lv_iconst (v := 1) hx hb dL_law_207 (by decide) ?_
  refine lv_iload hx hb dL_law_208 (lv_at hl 2 rfl) ?_
  refine lv_bipush (v := 7) hx hb dL_law_210 (by decide) ?_
  refine lv_ishr hx hb dL_law_212 ?_
  have k_235_213 : ∀ ra : Nat, ra < 100 → W p l e room_1 s m ([.ref b] : List Value).toArray below meth c H locs (100 + 200 * t) (2000 + 1000 * t) (lw_Z below #[Value.ref b] s) (F0 m 235 ls [.int (nI ra), .int 1, .int (nI (3 * g4)), .ref (bd 1 0)]) := by
    intro ra hra
    refine lv_iadd hx hb dL_law_235 ?_
    refine lv_topi (fun y4 ey4 => ?_)
    obtain rfl : y4 = nI (1 + ra) := ey4.trans (nI_add 1 ra)
    refine g_iast (f := ρ 1) (A := (lZ s.heap.size)) hx hb hK (hB 1 0 Nat.zero_lt_one) hS (hbd 1 Nat.zero_lt_one) (vp_in_nI (n := 3 * g4) (N := 9) (by omega) (by decide)) dL_law_236 (fun H1 locs1 hc1 hu1 hS1 => ?_)
    have hB1 : LW D cy bd (up2 ρ 1 (3 * g4) (nI (1 + ra))) κ H1 := hB.ist hJ.2.1 1 (q := (3 * g4)) (by decide) (cl_nI (n := 3 * g4) (by omega)) hc1 hu1
    have hC1 : CW D cy ad τ ν H1 := hC.byR hJ (show 0 < cL 1 from Nat.zero_lt_one) hu1
    have hX1 := xKeep (A1 := wA cL bd s.heap.size) hX (hu1.in (wA.in (k := 1) (i := 0) Nat.zero_lt_one)) (fun q z => hA9 q (Or.inr z))
    refine lv_aload_n hx hb dL_law_237 rfl (lv_at hl 6 rfl) ?_
    refine lv_iconst (v := 2) hx hb dL_law_238 (by decide) ?_
    refine lv_iload hx hb dL_law_239 (lv_at hl 1 rfl) ?_
    refine lv_imul hx hb dL_law_241 ?_
    refine lv_topi (fun y5 ey5 => ?_)
    obtain rfl : y5 = nI (2 * g4) := ey5.trans (pk_mul 2 g4)
    refine lv_aload_n hx hb dL_law_242 rfl (lv_at hl 8 rfl) ?_
    refine lv_iconst (v := 3) hx hb dL_law_243 (by decide) ?_
    refine lv_iload hx hb dL_law_244 (lv_at hl 1 rfl) ?_
    refine lv_imul hx hb dL_law_246 ?_
    refine lv_topi (fun y6 ey6 => ?_)
    obtain rfl : y6 = nI (3 * g4) := ey6.trans (pk_mul 3 g4)
    refine g_iald (f := (up2 ρ 1 (3 * g4) (nI (1 + ra))) 1) (x := nI (1 + ra)) hx hb hK (hB1 1 0 Nat.zero_lt_one) (vp_in_nI (n := 3 * g4) (N := 9) (by omega) (by decide)) ((congrArg ((up2 ρ 1 (3 * g4) (nI (1 + ra))) 1) (cl_nI (n := 3 * g4) (by omega))).trans up2_s) dL_law_247 ?_
    have hm7 := m_X3_setRest l hl9 D cy (lZ s.heap.size) H1.size ad τ ν hJ.1 (nI (2 * g4)) (nI (1 + ra))
    rw [cl_nI (n := 2 * g4) (by omega)] at hm7
    refine x_wr1 (vx_runV (As := [.int (nI (2 * g4)), .int (nI (1 + ra))]) (rest := []) ⟨hx, hb, hml, hown, hts⟩ hm7 (cwV 2 hts gL_law_X3_setRest rfl rfl rfl (by decide +kernel) ⟨Nat.le_of_ble_eq_true rfl, Nat.le_of_ble_eq_true rfl⟩) (x_preV (C := RX3) (B := atSz H1.size (CW D cy ad τ ν)) hK hX1 ⟨rfl, hC1⟩ (hC1 0 0 Nat.zero_lt_one) rfl) rfl rfl hl.1 rfl (lv_room (Nat.le_of_ble_eq_true rfl)) dL_law_248 ⟨(by show (100 + 200 * t) + 2 ≤ 600172; omega), (by show (2000 + 1000 * t) + 12 ≤ 7300668; omega)⟩) (fun E z => z.elim (fun z => by rw [idx_host' (show 2 * g4 < 6 by omega)] at z; cases z.1) (fun z => by rw [show inB (nI (1 + ra)) 1 100 = true from in_nI (a := 1) (b := 100) (by omega) (by omega) (by decide)] at z; cases z.2.1)) hS1 (fun q _ h => hA9 q (Or.inl (wA.mono hS1.1 h))) (fun q h => hA9 q (Or.inl (wA.mono hS1.1 h))) (fun H2 locs2 hC2 hz2 hk2 hS2 => ?_)
    have hB2 : LW D cy bd (up2 ρ 1 (3 * g4) (nI (1 + ra))) κ H2 := hB1.byC hJ hk2
    have hX2 := xKeep hX1 hk2 (fun q z => hA9 q (Or.inl (wA.mono hS1.1 z)))
    refine lv_iload hx hb dL_law_251 (lv_at hl 0 rfl) ?_
    refine lv_icmp_ne (tgt := 260) hx hb dL_law_253 (by decide) (fun c_253 => ?_) (fun c_253 => ?_)
    · -- 253 t
      exact absurd (hLR.resE hR hg4) c_253
    · -- 253 f
      refine lv_iconst (v := 1) hx hb dL_law_256 (by decide) ?_
      refine lv_goto (tgt := 261) hx hb dL_law_257 (by decide) ?_
      refine lv_istore (lv' := [(12, .int 1), (14, .int (ρ 1 (3 * g4))), (13, .int (nI g4)), (10, .int z), (11, .int y), (0, .ref b), (1, .ref (ad 0 0)), (2, .ref (bd 0 0)), (3, .ref (bd 1 0)), (4, .ref (bd 2 0)), (5, .ref (bd 3 0)), (6, .ref (bd 4 0)), (7, .ref (bd 5 0)), (8, .ref (bd 6 0)), (9, .int (nI t))]) hx hb dL_law_261 hl (by decide) rfl (fun ls hl => ?_)
      refine lv_goto (tgt := 678) hx hb dL_law_263 (by decide) ?_
      refine W.widen (k := 100 + 200 * t + 20) (n := 2000 + 1000 * t + 160) (by omega) (by omega) ?_
      exact K ad (up2 τ 7 (2 * g4) (nI (1 + ra))) ν (up2 ρ 1 (3 * g4) (nI (1 + ra))) κ (up2 σ 7 (2 * g4) (nI (1 + ra))) μ H2 locs2 ls rfl ((hR.upd (K := 7) (i := 2 * g4) (v := nI (1 + ra)) (Or.inr (Or.inl rfl)) (fun z => absurd z (by decide)) (fun z => absurd z (by decide)) (fun z => absurd z (by decide)) (fun _ => ⟨1 + ra, rfl, by omega⟩)).up (Nat.le_succ t)) (hLR.setR hg4) (hP.next rfl) hJ hge (Nat.zero_le _) hC2 hB2 hS2 (lv_sub hl [3, 0, 5, 6, 7, 8, 9, 10, 11, 12, 13, 14] rfl)
  refine lv_iload hx hb dL_law_213 (lv_at hl 2 rfl) ?_
  refine lv_bipush (v := 15) hx hb dL_law_215 (by decide) ?_
  refine lv_ishr hx hb dL_law_217 ?_
  refine lv_iconst (v := 3) hx hb dL_law_218 (by decide) ?_
  refine g_csr (va_runS (As := [.int (z >>> (15 &&& 31)), .int 3]) (rest := [.int (z >>> (7 &&& 31)), .int 1, .int (nI (3 * g4)), .ref (bd 1 0)]) ⟨hx, hb, hml, hown, hts⟩ (m_L_low l D cy bd ρ κ (z >>> (15 &&& 31)) 3 (by decide)) (va_cwS 2 hts gL_law_L_low rfl rfl rfl (by decide +kernel) ⟨Nat.le_of_ble_eq_true rfl, Nat.le_of_ble_eq_true rfl⟩) (g_preS (B := (fun _ => True)) hK trivial) rfl rfl hl.1 rfl (lv_room (Nat.le_of_ble_eq_true rfl)) dL_law_219 ⟨(by show (100 + 200 * t) + 0 ≤ 600172; omega), (by show (2000 + 1000 * t) + 0 ≤ 7300668; omega)⟩) ?_
  refine lv_if_ne (tgt := 230) hx hb dL_law_222 (by decide) (fun c_222 => ?_) (fun c_222 => ?_)
  · -- 222 t
    refine lv_bipush (v := 9) hx hb dL_law_230 (by decide) ?_
    refine g_csr (va_runS (As := [.int (z >>> (7 &&& 31)), .int 9]) (rest := [.int 1, .int (nI (3 * g4)), .ref (bd 1 0)]) ⟨hx, hb, hml, hown, hts⟩ (m_L_low l D cy bd ρ κ (z >>> (7 &&& 31)) 9 (by decide)) (va_cwS 2 hts gL_law_L_low rfl rfl rfl (by decide +kernel) ⟨Nat.le_of_ble_eq_true rfl, Nat.le_of_ble_eq_true rfl⟩) (g_preS (B := (fun _ => True)) hK trivial) rfl rfl hl.1 rfl (lv_room (Nat.le_of_ble_eq_true rfl)) dL_law_232 ⟨(by show (100 + 200 * t) + 0 ≤ 600172; omega), (by show (2000 + 1000 * t) + 0 ≤ 7300668; omega)⟩) ?_
    obtain ⟨rj, hrj, erj⟩ := low_nI (v := (z >>> (7 &&& 31))) (m := 9) (by decide) (by decide)
    refine lv_topi (fun y8 ey8 => ?_)
    obtain rfl : y8 = nI rj := ey8.trans (erj)
    exact k_235_213 (rj) (by omega)
  · -- 222 f
    refine lv_bipush (v := 100) hx hb dL_law_225 (by decide) ?_
    refine lv_goto (tgt := 232) hx hb dL_law_227 (by decide) ?_
    refine g_csr (va_runS (As := [.int (z >>> (7 &&& 31)), .int 100]) (rest := [.int 1, .int (nI (3 * g4)), .ref (bd 1 0)]) ⟨hx, hb, hml, hown, hts⟩ (m_L_low l D cy bd ρ κ (z >>> (7 &&& 31)) 100 (by decide)) (va_cwS 2 hts gL_law_L_low rfl rfl rfl (by decide +kernel) ⟨Nat.le_of_ble_eq_true rfl, Nat.le_of_ble_eq_true rfl⟩) (g_preS (B := (fun _ => True)) hK trivial) rfl rfl hl.1 rfl (lv_room (Nat.le_of_ble_eq_true rfl)) dL_law_232 ⟨(by show (100 + 200 * t) + 0 ≤ 600172; omega), (by show (2000 + 1000 * t) + 0 ≤ 7300668; omega)⟩) ?_
    obtain ⟨rj, hrj, erj⟩ := low_nI (v := (z >>> (7 &&& 31))) (m := 100) (by decide) (by decide)
    refine lv_topi (fun y9 ey9 => ?_)
    obtain rfl : y9 = nI rj := ey9.trans (erj)
    exact k_235_213 (rj) (by omega)

set_option maxHeartbeats 8000000 in
set_option maxRecDepth 100000 in
/-- the law: setPaces -/
theorem la_paces {p : Program} {l : Launch} {e : Env} {s : State} {m : MethodId} {below : List Frame} {meth : Method} {c : Code} {b L : Nat} {xs : Nat → Int32} {D : va_G} {cy : Nat → ClassId} {bd : NT} {a0 t : Nat} {z y : Int32} (C : lctx p l s m c b L xs D cy bd) (ht : t < 120)  (K : lgo p l e s m below meth c b D cy bd a0 (t + 1) t 0 (lPot (t + 1)) [(10, .int z), (12, .int 1)] (100 + 200 * t + 20) (2000 + 1000 * t + 160) 678) : lgo p l e s m below meth c b D cy bd a0 t t 2 (lPot t) [(10, .int z), (11, .int y), (12, .int 1)] (100 + 200 * t) (2000 + 1000 * t) 272 := by
  obtain ⟨hx, hb, hml, hown, hts, hK, hX0, hcK, hXs, hbl, hl9, hL260, hbd⟩ := id C
  intro ad τ ν ρ κ σ μ H locs ls ha hR hLR hP hJ hge hg2 hC hB hS hl
  subst ha
  have hl : lv_has ls 16 [(10, .int z), (11, .int y), (12, .int 1), (0, .ref b), (1, .ref (ad 0 0)), (2, .ref (bd 0 0)), (3, .ref (bd 1 0)), (4, .ref (bd 2 0)), (5, .ref (bd 3 0)), (6, .ref (bd 4 0)), (7, .ref (bd 5 0)), (8, .ref (bd 6 0)), (9, .int (nI t))] := hl
  have h10 := hLR.2.1.1
  have h12 := hLR.2.1.2.1
  have hn0 := hR.n0
  have hn1 := hR.n1
  have hX := hX0.kept hS.2.1
  have hA9 : ∀ q, wB (ν 0 0) ad bd s.heap.size q → lZ s.heap.size q := lA_wB hge hbd (Nat.le_refl _)
  refine lv_aload_n hx hb dL_law_272 rfl (lv_at hl 5 rfl) ?_
  refine lv_iconst (v := 1) hx hb dL_law_273 (by decide) ?_
  refine lv_iconst (v := 1) hx hb dL_law_274 (by decide) ?_
  refine lv_iload hx hb dL_law_275 (lv_at hl 0 rfl) ?_
  refine lv_iconst (v := 5) hx hb dL_law_277 (by decide) ?_
  refine lv_ishr hx hb dL_law_278 ?_
  have k_302_279 : ∀ ra : Nat, ra < 1000 → W p l e room_1 s m ([.ref b] : List Value).toArray below meth c H locs (100 + 200 * t) (2000 + 1000 * t) (lw_Z below #[Value.ref b] s) (F0 m 302 ls [.int (nI ra), .int 1, .int 1, .ref (bd 0 0)]) := by
    intro ra hra
    refine lv_iadd hx hb dL_law_302 ?_
    refine lv_topi (fun y1 ey1 => ?_)
    obtain rfl : y1 = nI (1 + ra) := ey1.trans (nI_add 1 ra)
    refine g_iast (f := ρ 0) (A := (lZ s.heap.size)) hx hb hK (hB 0 0 Nat.zero_lt_one) hS (hbd 0 Nat.zero_lt_one) (vp_in_nI (n := 1) (N := 8) (by decide) (by decide)) dL_law_303 (fun H1 locs1 hc1 hu1 hS1 => ?_)
    have hB1 : LW D cy bd (up2 ρ 0 1 (nI (1 + ra))) κ H1 := hB.ist hJ.2.1 0 (q := 1) (by decide) (cl_nI (n := 1) (by decide)) hc1 hu1
    have hC1 : CW D cy ad τ ν H1 := hC.byR hJ (show 0 < cL 0 from Nat.zero_lt_one) hu1
    have hX1 := xKeep (A1 := wA cL bd s.heap.size) hX (hu1.in (wA.in (k := 0) (i := 0) Nat.zero_lt_one)) (fun q z => hA9 q (Or.inr z))
    refine lv_aload_n hx hb dL_law_304 rfl (lv_at hl 5 rfl) ?_
    refine lv_iconst (v := 2) hx hb dL_law_305 (by decide) ?_
    refine lv_aload_n hx hb dL_law_306 rfl (lv_at hl 5 rfl) ?_
    refine lv_iconst (v := 1) hx hb dL_law_307 (by decide) ?_
    refine g_iald (f := (up2 ρ 0 1 (nI (1 + ra))) 0) (x := nI (1 + ra)) hx hb hK (hB1 0 0 Nat.zero_lt_one) (vp_in_nI (n := 1) (N := 8) (by decide) (by decide)) ((congrArg ((up2 ρ 0 1 (nI (1 + ra))) 0) (cl_nI (n := 1) (by decide))).trans up2_s) dL_law_308 ?_
    refine lv_iload hx hb dL_law_309 (lv_at hl 0 rfl) ?_
    refine lv_bipush (v := 9) hx hb dL_law_311 (by decide) ?_
    refine lv_ishr hx hb dL_law_313 ?_
    refine lv_sipush (v := 300) hx hb dL_law_314 (by decide) ?_
    refine g_csr (va_runS (As := [.int (z >>> (9 &&& 31)), .int 300]) (rest := [.int (nI (1 + ra)), .int 2, .ref (bd 0 0)]) ⟨hx, hb, hml, hown, hts⟩ (m_L_low l D cy bd ρ κ (z >>> (9 &&& 31)) 300 (by decide)) (va_cwS 2 hts gL_law_L_low rfl rfl rfl (by decide +kernel) ⟨Nat.le_of_ble_eq_true rfl, Nat.le_of_ble_eq_true rfl⟩) (g_preS (B := (fun _ => True)) hK trivial) rfl rfl hl.1 rfl (lv_room (Nat.le_of_ble_eq_true rfl)) dL_law_317 ⟨(by show (100 + 200 * t) + 0 ≤ 600172; omega), (by show (2000 + 1000 * t) + 0 ≤ 7300668; omega)⟩) ?_
    obtain ⟨rb, hrb, erb⟩ := low_nI (v := (z >>> (9 &&& 31))) (m := 300) (by decide) (by decide)
    refine lv_topi (fun y2 ey2 => ?_)
    obtain rfl : y2 = nI rb := ey2.trans (erb)
    refine lv_iadd hx hb dL_law_320 ?_
    refine lv_topi (fun y3 ey3 => ?_)
    obtain rfl : y3 = nI ((1 + ra) + rb) := ey3.trans (nI_add (1 + ra) rb)
    refine g_iast (f := (up2 ρ 0 1 (nI (1 + ra))) 0) (A := (lZ s.heap.size)) hx hb hK (hB1 0 0 Nat.zero_lt_one) hS1 (hbd 0 Nat.zero_lt_one) (vp_in_nI (n := 2) (N := 8) (by decide) (by decide)) dL_law_321 (fun H2 locs2 hc2 hu2 hS2 => ?_)
    have hB2 : LW D cy bd (up2 (up2 ρ 0 1 (nI (1 + ra))) 0 2 (nI ((1 + ra) + rb))) κ H2 := hB1.ist hJ.2.1 0 (q := 2) (by decide) (cl_nI (n := 2) (by decide)) hc2 hu2
    have hC2 : CW D cy ad τ ν H2 := hC1.byR hJ (show 0 < cL 0 from Nat.zero_lt_one) hu2
    have hX2 := xKeep (A1 := wA cL bd s.heap.size) hX1 (hu2.in (wA.in (k := 0) (i := 0) Nat.zero_lt_one)) (fun q z => hA9 q (Or.inr z))
    refine lv_aload_n hx hb dL_law_322 rfl (lv_at hl 4 rfl) ?_
    refine lv_aload_n hx hb dL_law_323 rfl (lv_at hl 5 rfl) ?_
    refine lv_iconst (v := 1) hx hb dL_law_324 (by decide) ?_
    refine g_iald (f := (up2 (up2 ρ 0 1 (nI (1 + ra))) 0 2 (nI ((1 + ra) + rb))) 0) (x := nI (1 + ra)) hx hb hK (hB2 0 0 Nat.zero_lt_one) (vp_in_nI (n := 1) (N := 8) (by decide) (by decide)) ((congrArg ((up2 (up2 ρ 0 1 (nI (1 + ra))) 0 2 (nI ((1 + ra) + rb))) 0) (cl_nI (n := 1) (by decide))).trans ((up2_i (show (1 : Nat) ≠ 2 by decide)).trans up2_s)) dL_law_325 ?_
    refine lv_aload_n hx hb dL_law_326 rfl (lv_at hl 5 rfl) ?_
    refine lv_iconst (v := 2) hx hb dL_law_327 (by decide) ?_
    refine g_iald (f := (up2 (up2 ρ 0 1 (nI (1 + ra))) 0 2 (nI ((1 + ra) + rb))) 0) (x := nI ((1 + ra) + rb)) hx hb hK (hB2 0 0 Nat.zero_lt_one) (vp_in_nI (n := 2) (N := 8) (by decide) (by decide)) ((congrArg ((up2 (up2 ρ 0 1 (nI (1 + ra))) 0 2 (nI ((1 + ra) + rb))) 0) (cl_nI (n := 2) (by decide))).trans up2_s) dL_law_328 ?_
    have hm4 := m_X3_setPaces l hl9 D cy (lZ s.heap.size) H2.size ad τ ν hJ.1 (nI (1 + ra)) (nI ((1 + ra) + rb))
    refine x_wr0 (vx_runV (As := [.int (nI (1 + ra)), .int (nI ((1 + ra) + rb))]) (rest := []) ⟨hx, hb, hml, hown, hts⟩ hm4 (cwV 2 hts gL_law_X3_setPaces rfl rfl rfl (by decide +kernel) ⟨Nat.le_of_ble_eq_true rfl, Nat.le_of_ble_eq_true rfl⟩) (x_preV (C := RX3) (B := atSz H2.size (CW D cy ad τ ν)) hK hX2 ⟨rfl, hC2⟩ (hC2 0 0 Nat.zero_lt_one) rfl) rfl rfl hl.1 rfl (lv_room (Nat.le_of_ble_eq_true rfl)) dL_law_329 ⟨(by show (100 + 200 * t) + 1 ≤ 600172; omega), (by show (2000 + 1000 * t) + 6 ≤ 7300668; omega)⟩) (fun E z => z.1.elim (fun z => by rw [show inB (nI (1 + ra)) 1 1000 = true from in_nI (a := 1) (b := 1000) (by omega) (by omega) (by decide)] at z; cases z) (fun z => by rw [show inB (nI ((1 + ra) + rb)) (nI (1 + ra)) 5000 = true from in_nI (b := 5000) (by omega) (by omega) (by decide)] at z; cases z)) hS2 (fun q _ h => hA9 q (Or.inl (wA.mono hS2.1 h))) (fun q h => hA9 q (Or.inl (wA.mono hS2.1 h))) (fun H3 locs3 hC3 hz3 hk3 hS3 => ?_)
    have hB3 : LW D cy bd (up2 (up2 ρ 0 1 (nI (1 + ra))) 0 2 (nI ((1 + ra) + rb))) κ H3 := hB2.byC hJ hk3
    have hX3 := xKeep hX2 hk3 (fun q z => hA9 q (Or.inl (wA.mono hS2.1 z)))
    refine lv_goto (tgt := 678) hx hb dL_law_332 (by decide) ?_
    refine W.widen (k := 100 + 200 * t + 20) (n := 2000 + 1000 * t + 160) (by omega) (by omega) ?_
    exact K ad (up2 (up2 τ 1 0 (nI (1 + ra))) 2 0 (nI ((1 + ra) + rb))) ν (up2 (up2 ρ 0 1 (nI (1 + ra))) 0 2 (nI ((1 + ra) + rb))) κ (up2 (up2 σ 1 0 (nI (1 + ra))) 2 0 (nI ((1 + ra) + rb))) μ H3 locs3 ls rfl (((hR.upd (K := 1) (i := 0) (v := nI (1 + ra)) (Or.inl ⟨by decide, by decide, rfl⟩) (fun _ => ⟨1 + ra, rfl, by omega⟩) (fun z => absurd z (by decide)) (fun z => absurd z (by decide)) (fun z => absurd z (by decide))).upd (K := 2) (i := 0) (v := nI ((1 + ra) + rb)) (Or.inl ⟨by decide, by decide, rfl⟩) (fun z => absurd z (by decide)) (fun _ => ⟨(1 + ra) + rb, rfl, by omega⟩) (fun z => absurd z (by decide)) (fun z => absurd z (by decide))).up (Nat.le_succ t)) ((hLR.set0 (K := 1) (i := 1) (v := nI (1 + ra)) ⟨rfl, by decide⟩ (fun z => absurd z (by decide))).set0 (K := 2) (i := 2) (v := nI ((1 + ra) + rb)) ⟨rfl, by decide⟩ (fun z => absurd z (by decide))) (hP.next rfl) hJ hge (Nat.zero_le _) hC3 hB3 hS3 (lv_sub hl [0, 2, 3, 4, 5, 6, 7, 8, 9, 10, 11, 12] rfl)
  refine lv_iload hx hb dL_law_279 (lv_at hl 0 rfl) ?_
  refine lv_bipush (v := 15) hx hb dL_law_281 (by decide) ?_
  refine lv_ishr hx hb dL_law_283 ?_
  refine lv_iconst (v := 4) hx hb dL_law_284 (by decide) ?_
  refine g_csr (va_runS (As := [.int (z >>> (15 &&& 31)), .int 4]) (rest := [.int (z >>> (5 &&& 31)), .int 1, .int 1, .ref (bd 0 0)]) ⟨hx, hb, hml, hown, hts⟩ (m_L_low l D cy bd ρ κ (z >>> (15 &&& 31)) 4 (by decide)) (va_cwS 2 hts gL_law_L_low rfl rfl rfl (by decide +kernel) ⟨Nat.le_of_ble_eq_true rfl, Nat.le_of_ble_eq_true rfl⟩) (g_preS (B := (fun _ => True)) hK trivial) rfl rfl hl.1 rfl (lv_room (Nat.le_of_ble_eq_true rfl)) dL_law_285 ⟨(by show (100 + 200 * t) + 0 ≤ 600172; omega), (by show (2000 + 1000 * t) + 0 ≤ 7300668; omega)⟩) ?_
  refine lv_if_ne (tgt := 297) hx hb dL_law_288 (by decide) (fun c_288 => ?_) (fun c_288 => ?_)
  · -- 288 t
    refine lv_bipush (v := 30) hx hb dL_law_297 (by decide) ?_
    refine g_csr (va_runS (As := [.int (z >>> (5 &&& 31)), .int 30]) (rest := [.int 1, .int 1, .ref (bd 0 0)]) ⟨hx, hb, hml, hown, hts⟩ (m_L_low l D cy bd ρ κ (z >>> (5 &&& 31)) 30 (by decide)) (va_cwS 2 hts gL_law_L_low rfl rfl rfl (by decide +kernel) ⟨Nat.le_of_ble_eq_true rfl, Nat.le_of_ble_eq_true rfl⟩) (g_preS (B := (fun _ => True)) hK trivial) rfl rfl hl.1 rfl (lv_room (Nat.le_of_ble_eq_true rfl)) dL_law_299 ⟨(by show (100 + 200 * t) + 0 ≤ 600172; omega), (by show (2000 + 1000 * t) + 0 ≤ 7300668; omega)⟩) ?_
    obtain ⟨rj, hrj, erj⟩ := low_nI (v := (z >>> (5 &&& 31))) (m := 30) (by decide) (by decide)
    refine lv_topi (fun y5 ey5 => ?_)
    obtain rfl : y5 = nI rj := ey5.trans (erj)
    exact k_302_279 (rj) (by omega)
  · -- 288 f
    refine lv_sipush (v := 1000) hx hb dL_law_291 (by decide) ?_
    refine lv_goto (tgt := 299) hx hb dL_law_294 (by decide) ?_
    refine g_csr (va_runS (As := [.int (z >>> (5 &&& 31)), .int 1000]) (rest := [.int 1, .int 1, .ref (bd 0 0)]) ⟨hx, hb, hml, hown, hts⟩ (m_L_low l D cy bd ρ κ (z >>> (5 &&& 31)) 1000 (by decide)) (va_cwS 2 hts gL_law_L_low rfl rfl rfl (by decide +kernel) ⟨Nat.le_of_ble_eq_true rfl, Nat.le_of_ble_eq_true rfl⟩) (g_preS (B := (fun _ => True)) hK trivial) rfl rfl hl.1 rfl (lv_room (Nat.le_of_ble_eq_true rfl)) dL_law_299 ⟨(by show (100 + 200 * t) + 0 ≤ 600172; omega), (by show (2000 + 1000 * t) + 0 ≤ 7300668; omega)⟩) ?_
    obtain ⟨rj, hrj, erj⟩ := low_nI (v := (z >>> (5 &&& 31))) (m := 1000) (by decide) (by decide)
    refine lv_topi (fun y6 ey6 => ?_)
    obtain rfl : y6 = nI rj := ey6.trans (erj)
    exact k_302_279 (rj) (by omega)

set_option maxHeartbeats 8000000 in
set_option maxRecDepth 100000 in
/-- the law: setBudget -/
theorem la_budget {p : Program} {l : Launch} {e : Env} {s : State} {m : MethodId} {below : List Frame} {meth : Method} {c : Code} {b L : Nat} {xs : Nat → Int32} {D : va_G} {cy : Nat → ClassId} {bd : NT} {a0 t : Nat} {z y : Int32} (C : lctx p l s m c b L xs D cy bd) (ht : t < 120)  (K : lgo p l e s m below meth c b D cy bd a0 (t + 1) t 0 (lPot (t + 1)) [(10, .int z), (12, .int 1)] (100 + 200 * t + 20) (2000 + 1000 * t + 160) 678) : lgo p l e s m below meth c b D cy bd a0 t t 2 (lPot t) [(10, .int z), (11, .int y), (12, .int 1)] (100 + 200 * t) (2000 + 1000 * t) 342 := by
  obtain ⟨hx, hb, hml, hown, hts, hK, hX0, hcK, hXs, hbl, hl9, hL260, hbd⟩ := id C
  intro ad τ ν ρ κ σ μ H locs ls ha hR hLR hP hJ hge hg2 hC hB hS hl
  subst ha
  have hl : lv_has ls 16 [(10, .int z), (11, .int y), (12, .int 1), (0, .ref b), (1, .ref (ad 0 0)), (2, .ref (bd 0 0)), (3, .ref (bd 1 0)), (4, .ref (bd 2 0)), (5, .ref (bd 3 0)), (6, .ref (bd 4 0)), (7, .ref (bd 5 0)), (8, .ref (bd 6 0)), (9, .int (nI t))] := hl
  have h10 := hLR.2.1.1
  have h12 := hLR.2.1.2.1
  have hn0 := hR.n0
  have hn1 := hR.n1
  have hX := hX0.kept hS.2.1
  have hA9 : ∀ q, wB (ν 0 0) ad bd s.heap.size q → lZ s.heap.size q := lA_wB hge hbd (Nat.le_refl _)
  refine lv_aload_n hx hb dL_law_342 rfl (lv_at hl 5 rfl) ?_
  refine lv_iconst (v := 3) hx hb dL_law_343 (by decide) ?_
  refine g_iald (f := ρ 0) (x := ρ 0 3) hx hb hK (hB 0 0 Nat.zero_lt_one) (vp_in_nI (n := 3) (N := 8) (by decide) (by decide)) (congrArg (ρ 0) (cl_nI (n := 3) (by decide))) dL_law_344 ?_
  refine lv_istore (lv' := [(13, .int (ρ 0 3)), (10, .int z), (11, .int y), (12, .int 1), (0, .ref b), (1, .ref (ad 0 0)), (2, .ref (bd 0 0)), (3, .ref (bd 1 0)), (4, .ref (bd 2 0)), (5, .ref (bd 3 0)), (6, .ref (bd 4 0)), (7, .ref (bd 5 0)), (8, .ref (bd 6 0)), (9, .int (nI t))]) hx hb dL_law_345 hl (by decide) rfl (fun ls hl => ?_)
  refine lv_aload_n hx hb dL_law_347 rfl (lv_at hl 6 rfl) ?_
  refine lv_iconst (v := 3) hx hb dL_law_348 (by decide) ?_
  refine lv_iconst (v := 1) hx hb dL_law_349 (by decide) ?_
  refine lv_iload hx hb dL_law_350 (lv_at hl 1 rfl) ?_
  refine lv_iconst (v := 5) hx hb dL_law_352 (by decide) ?_
  refine lv_ishr hx hb dL_law_353 ?_
  refine lv_bipush (v := 6) hx hb dL_law_354 (by decide) ?_
  refine g_csr (va_runS (As := [.int (z >>> (5 &&& 31)), .int 6]) (rest := [.int 1, .int 3, .ref (bd 0 0)]) ⟨hx, hb, hml, hown, hts⟩ (m_L_low l D cy bd ρ κ (z >>> (5 &&& 31)) 6 (by decide)) (va_cwS 2 hts gL_law_L_low rfl rfl rfl (by decide +kernel) ⟨Nat.le_of_ble_eq_true rfl, Nat.le_of_ble_eq_true rfl⟩) (g_preS (B := (fun _ => True)) hK trivial) rfl rfl hl.1 rfl (lv_room (Nat.le_of_ble_eq_true rfl)) dL_law_356 ⟨(by show (100 + 200 * t) + 0 ≤ 600172; omega), (by show (2000 + 1000 * t) + 0 ≤ 7300668; omega)⟩) ?_
  obtain ⟨ra, hra, era⟩ := low_nI (v := (z >>> (5 &&& 31))) (m := 6) (by decide) (by decide)
  refine lv_topi (fun y1 ey1 => ?_)
  obtain rfl : y1 = nI ra := ey1.trans (era)
  refine lv_iadd hx hb dL_law_359 ?_
  refine lv_topi (fun y2 ey2 => ?_)
  obtain rfl : y2 = nI (1 + ra) := ey2.trans (nI_add 1 ra)
  refine g_iast (f := ρ 0) (A := (lZ s.heap.size)) hx hb hK (hB 0 0 Nat.zero_lt_one) hS (hbd 0 Nat.zero_lt_one) (vp_in_nI (n := 3) (N := 8) (by decide) (by decide)) dL_law_360 (fun H1 locs1 hc1 hu1 hS1 => ?_)
  have hB1 : LW D cy bd (up2 ρ 0 3 (nI (1 + ra))) κ H1 := hB.ist hJ.2.1 0 (q := 3) (by decide) (cl_nI (n := 3) (by decide)) hc1 hu1
  have hC1 : CW D cy ad τ ν H1 := hC.byR hJ (show 0 < cL 0 from Nat.zero_lt_one) hu1
  have hX1 := xKeep (A1 := wA cL bd s.heap.size) hX (hu1.in (wA.in (k := 0) (i := 0) Nat.zero_lt_one)) (fun q z => hA9 q (Or.inr z))
  refine lv_aload_n hx hb dL_law_361 rfl (lv_at hl 5 rfl) ?_
  refine lv_aload_n hx hb dL_law_362 rfl (lv_at hl 6 rfl) ?_
  refine lv_iconst (v := 3) hx hb dL_law_363 (by decide) ?_
  refine g_iald (f := (up2 ρ 0 3 (nI (1 + ra))) 0) (x := nI (1 + ra)) hx hb hK (hB1 0 0 Nat.zero_lt_one) (vp_in_nI (n := 3) (N := 8) (by decide) (by decide)) ((congrArg ((up2 ρ 0 3 (nI (1 + ra))) 0) (cl_nI (n := 3) (by decide))).trans up2_s) dL_law_364 ?_
  have hm3 := m_X3_setBudget l hl9 D cy (lZ s.heap.size) H1.size ad τ ν hJ.1 (nI (1 + ra))
  refine x_wr1 (vx_runV (As := [.int (nI (1 + ra))]) (rest := []) ⟨hx, hb, hml, hown, hts⟩ hm3 (cwV 1 hts gL_law_X3_setBudget rfl rfl rfl (by decide +kernel) ⟨Nat.le_of_ble_eq_true rfl, Nat.le_of_ble_eq_true rfl⟩) (x_preV (C := RX3) (B := atSz H1.size (CW D cy ad τ ν)) hK hX1 ⟨rfl, hC1⟩ (hC1 0 0 Nat.zero_lt_one) rfl) rfl rfl hl.1 rfl (lv_room (Nat.le_of_ble_eq_true rfl)) dL_law_365 ⟨(by show (100 + 200 * t) + 1 ≤ 600172; omega), (by show (2000 + 1000 * t) + 6 ≤ 7300668; omega)⟩) (fun E z => by rw [show inB (nI (1 + ra)) 1 100 = true from in_nI (a := 1) (b := 100) (by omega) (by omega) (by decide)] at z; cases z.1) hS1 (fun q _ h => hA9 q (Or.inl (wA.mono hS1.1 h))) (fun q h => hA9 q (Or.inl (wA.mono hS1.1 h))) (fun H2 locs2 hC2 hz2 hk2 hS2 => ?_)
  have hB2 : LW D cy bd (up2 ρ 0 3 (nI (1 + ra))) κ H2 := hB1.byC hJ hk2
  have hX2 := xKeep hX1 hk2 (fun q z => hA9 q (Or.inl (wA.mono hS1.1 z)))
  refine lv_iload hx hb dL_law_368 (lv_at hl 0 rfl) ?_
  refine lv_icmp_ne (tgt := 377) hx hb dL_law_370 (by decide) (fun c_370 => ?_) (fun c_370 => ?_)
  · -- 370 t
    exact absurd ((hR.eq0 (by decide)).trans hLR.1.2.2.2.1.symm) c_370
  · -- 370 f
    refine lv_iconst (v := 1) hx hb dL_law_373 (by decide) ?_
    refine lv_goto (tgt := 378) hx hb dL_law_374 (by decide) ?_
    refine lv_istore (lv' := [(12, .int 1), (13, .int (ρ 0 3)), (10, .int z), (11, .int y), (0, .ref b), (1, .ref (ad 0 0)), (2, .ref (bd 0 0)), (3, .ref (bd 1 0)), (4, .ref (bd 2 0)), (5, .ref (bd 3 0)), (6, .ref (bd 4 0)), (7, .ref (bd 5 0)), (8, .ref (bd 6 0)), (9, .int (nI t))]) hx hb dL_law_378 hl (by decide) rfl (fun ls hl => ?_)
    refine lv_goto (tgt := 678) hx hb dL_law_380 (by decide) ?_
    refine W.widen (k := 100 + 200 * t + 20) (n := 2000 + 1000 * t + 160) (by omega) (by omega) ?_
    exact K ad (up2 τ 3 0 (nI (1 + ra))) ν (up2 ρ 0 3 (nI (1 + ra))) κ (up2 σ 3 0 (nI (1 + ra))) μ H2 locs2 ls rfl ((hR.upd (K := 3) (i := 0) (v := nI (1 + ra)) (Or.inl ⟨by decide, by decide, rfl⟩) (fun z => absurd z (by decide)) (fun z => absurd z (by decide)) (fun _ => ⟨1 + ra, rfl, by omega⟩) (fun z => absurd z (by decide))).up (Nat.le_succ t)) (hLR.set0 (K := 3) (i := 3) (v := nI (1 + ra)) ⟨rfl, by decide⟩ (fun _ => ⟨1 + ra, by omega, rfl, by omega⟩)) (hP.next rfl) hJ hge (Nat.zero_le _) hC2 hB2 hS2 (lv_sub hl [2, 0, 4, 5, 6, 7, 8, 9, 10, 11, 12, 13] rfl)

set_option maxHeartbeats 8000000 in
set_option maxRecDepth 100000 in
/-- the law: setRank -/
theorem la_rank {p : Program} {l : Launch} {e : Env} {s : State} {m : MethodId} {below : List Frame} {meth : Method} {c : Code} {b L : Nat} {xs : Nat → Int32} {D : va_G} {cy : Nat → ClassId} {bd : NT} {a0 t : Nat} {z y : Int32} (C : lctx p l s m c b L xs D cy bd) (ht : t < 120)  (K : lgo p l e s m below meth c b D cy bd a0 (t + 1) t 0 (lPot (t + 1)) [(10, .int z), (12, .int 1)] (100 + 200 * t + 20) (2000 + 1000 * t + 160) 678) : lgo p l e s m below meth c b D cy bd a0 t t 2 (lPot t) [(10, .int z), (11, .int y), (12, .int 1)] (100 + 200 * t) (2000 + 1000 * t) 390 := by
  obtain ⟨hx, hb, hml, hown, hts, hK, hX0, hcK, hXs, hbl, hl9, hL260, hbd⟩ := id C
  intro ad τ ν ρ κ σ μ H locs ls ha hR hLR hP hJ hge hg2 hC hB hS hl
  subst ha
  have hl : lv_has ls 16 [(10, .int z), (11, .int y), (12, .int 1), (0, .ref b), (1, .ref (ad 0 0)), (2, .ref (bd 0 0)), (3, .ref (bd 1 0)), (4, .ref (bd 2 0)), (5, .ref (bd 3 0)), (6, .ref (bd 4 0)), (7, .ref (bd 5 0)), (8, .ref (bd 6 0)), (9, .int (nI t))] := hl
  have h10 := hLR.2.1.1
  have h12 := hLR.2.1.2.1
  have hn0 := hR.n0
  have hn1 := hR.n1
  have hX := hX0.kept hS.2.1
  have hA9 : ∀ q, wB (ν 0 0) ad bd s.heap.size q → lZ s.heap.size q := lA_wB hge hbd (Nat.le_refl _)
  refine lv_iload hx hb dL_law_390 (lv_at hl 0 rfl) ?_
  refine lv_iconst (v := 5) hx hb dL_law_392 (by decide) ?_
  refine lv_ishr hx hb dL_law_393 ?_
  refine lv_aload_n hx hb dL_law_394 rfl (lv_at hl 5 rfl) ?_
  refine lv_bipush (v := 6) hx hb dL_law_395 (by decide) ?_
  refine g_iald (f := ρ 0) (x := nI (μ 0 0)) hx hb hK (hB 0 0 Nat.zero_lt_one) (vp_in_nI (n := 6) (N := 8) (by decide) (by decide)) ((congrArg (ρ 0) (cl_nI (n := 6) (by decide))).trans hLR.1.2.2.2.2.2.2.1) dL_law_397 ?_
  refine g_csr (va_runS (As := [.int (z >>> (5 &&& 31)), .int (nI (μ 0 0))]) (rest := []) ⟨hx, hb, hml, hown, hts⟩ (m_L_low l D cy bd ρ κ (z >>> (5 &&& 31)) (nI (μ 0 0)) (nI_ne0 (by omega) (by omega))) (va_cwS 2 hts gL_law_L_low rfl rfl rfl (by decide +kernel) ⟨Nat.le_of_ble_eq_true rfl, Nat.le_of_ble_eq_true rfl⟩) (g_preS (B := (fun _ => True)) hK trivial) rfl rfl hl.1 rfl (lv_room (Nat.le_of_ble_eq_true rfl)) dL_law_398 ⟨(by show (100 + 200 * t) + 0 ≤ 600172; omega), (by show (2000 + 1000 * t) + 0 ≤ 7300668; omega)⟩) ?_
  obtain ⟨pq, hpq, epq⟩ := low_nI (v := (z >>> (5 &&& 31))) (m := μ 0 0) (by omega) (by omega)
  refine lv_topi (fun y1 ey1 => ?_)
  obtain rfl : y1 = nI pq := ey1.trans (epq)
  refine lv_istore (lv' := [(13, .int (nI pq)), (10, .int z), (11, .int y), (12, .int 1), (0, .ref b), (1, .ref (ad 0 0)), (2, .ref (bd 0 0)), (3, .ref (bd 1 0)), (4, .ref (bd 2 0)), (5, .ref (bd 3 0)), (6, .ref (bd 4 0)), (7, .ref (bd 5 0)), (8, .ref (bd 6 0)), (9, .int (nI t))]) hx hb dL_law_401 hl (by decide) rfl (fun ls hl => ?_)
  refine lv_aload hx hb dL_law_403 (lv_at hl 8 rfl) ?_
  refine lv_bipush (v := 6) hx hb dL_law_405 (by decide) ?_
  refine lv_iload hx hb dL_law_407 (lv_at hl 0 rfl) ?_
  refine lv_imul hx hb dL_law_409 ?_
  refine lv_topi (fun y2 ey2 => ?_)
  obtain rfl : y2 = nI (6 * pq) := ey2.trans (pk_mul 6 pq)
  refine lv_iconst (v := 1) hx hb dL_law_410 (by decide) ?_
  refine lv_iadd hx hb dL_law_411 ?_
  refine lv_topi (fun y3 ey3 => ?_)
  obtain rfl : y3 = nI ((6 * pq) + 1) := ey3.trans (nI_add (6 * pq) 1)
  refine g_iald (f := ρ 2) (x := ρ 2 ((6 * pq) + 1)) hx hb hK (hB 2 0 Nat.zero_lt_one) (vp_in_nI (n := (6 * pq) + 1) (N := 60) (by omega) (by decide)) (congrArg (ρ 2) (cl_nI (n := (6 * pq) + 1) (by omega))) dL_law_412 ?_
  refine lv_istore (lv' := [(14, .int (ρ 2 ((6 * pq) + 1))), (13, .int (nI pq)), (10, .int z), (11, .int y), (12, .int 1), (0, .ref b), (1, .ref (ad 0 0)), (2, .ref (bd 0 0)), (3, .ref (bd 1 0)), (4, .ref (bd 2 0)), (5, .ref (bd 3 0)), (6, .ref (bd 4 0)), (7, .ref (bd 5 0)), (8, .ref (bd 6 0)), (9, .int (nI t))]) hx hb dL_law_413 hl (by decide) rfl (fun ls hl => ?_)
  refine lv_aload hx hb dL_law_415 (lv_at hl 9 rfl) ?_
  refine lv_bipush (v := 6) hx hb dL_law_417 (by decide) ?_
  refine lv_iload hx hb dL_law_419 (lv_at hl 1 rfl) ?_
  refine lv_imul hx hb dL_law_421 ?_
  refine lv_topi (fun y4 ey4 => ?_)
  obtain rfl : y4 = nI (6 * pq) := ey4.trans (pk_mul 6 pq)
  refine lv_iconst (v := 1) hx hb dL_law_422 (by decide) ?_
  refine lv_iadd hx hb dL_law_423 ?_
  refine lv_topi (fun y5 ey5 => ?_)
  obtain rfl : y5 = nI ((6 * pq) + 1) := ey5.trans (nI_add (6 * pq) 1)
  refine lv_iload hx hb dL_law_424 (lv_at hl 2 rfl) ?_
  refine lv_bipush (v := 9) hx hb dL_law_426 (by decide) ?_
  refine lv_ishr hx hb dL_law_428 ?_
  refine lv_bipush (v := 10) hx hb dL_law_429 (by decide) ?_
  refine g_csr (va_runS (As := [.int (z >>> (9 &&& 31)), .int 10]) (rest := [.int (nI ((6 * pq) + 1)), .ref (bd 2 0)]) ⟨hx, hb, hml, hown, hts⟩ (m_L_low l D cy bd ρ κ (z >>> (9 &&& 31)) 10 (by decide)) (va_cwS 2 hts gL_law_L_low rfl rfl rfl (by decide +kernel) ⟨Nat.le_of_ble_eq_true rfl, Nat.le_of_ble_eq_true rfl⟩) (g_preS (B := (fun _ => True)) hK trivial) rfl rfl hl.1 rfl (lv_room (Nat.le_of_ble_eq_true rfl)) dL_law_431 ⟨(by show (100 + 200 * t) + 0 ≤ 600172; omega), (by show (2000 + 1000 * t) + 0 ≤ 7300668; omega)⟩) ?_
  obtain ⟨ra, hra, era⟩ := low_nI (v := (z >>> (9 &&& 31))) (m := 10) (by decide) (by decide)
  refine lv_topi (fun y6 ey6 => ?_)
  obtain rfl : y6 = nI ra := ey6.trans (era)
  refine g_iast (f := ρ 2) (A := (lZ s.heap.size)) hx hb hK (hB 2 0 Nat.zero_lt_one) hS (hbd 2 Nat.zero_lt_one) (vp_in_nI (n := (6 * pq) + 1) (N := 60) (by omega) (by decide)) dL_law_434 (fun H1 locs1 hc1 hu1 hS1 => ?_)
  have hB1 : LW D cy bd (up2 ρ 2 ((6 * pq) + 1) (nI ra)) κ H1 := hB.ist hJ.2.1 2 (q := ((6 * pq) + 1)) (by decide) (cl_nI (n := (6 * pq) + 1) (by omega)) hc1 hu1
  have hC1 : CW D cy ad τ ν H1 := hC.byR hJ (show 0 < cL 2 from Nat.zero_lt_one) hu1
  have hX1 := xKeep (A1 := wA cL bd s.heap.size) hX (hu1.in (wA.in (k := 2) (i := 0) Nat.zero_lt_one)) (fun q z => hA9 q (Or.inr z))
  refine lv_aload_n hx hb dL_law_435 rfl (lv_at hl 6 rfl) ?_
  refine lv_iload hx hb dL_law_436 (lv_at hl 1 rfl) ?_
  refine lv_aload hx hb dL_law_438 (lv_at hl 9 rfl) ?_
  refine lv_bipush (v := 6) hx hb dL_law_440 (by decide) ?_
  refine lv_iload hx hb dL_law_442 (lv_at hl 1 rfl) ?_
  refine lv_imul hx hb dL_law_444 ?_
  refine lv_topi (fun y7 ey7 => ?_)
  obtain rfl : y7 = nI (6 * pq) := ey7.trans (pk_mul 6 pq)
  refine lv_iconst (v := 1) hx hb dL_law_445 (by decide) ?_
  refine lv_iadd hx hb dL_law_446 ?_
  refine lv_topi (fun y8 ey8 => ?_)
  obtain rfl : y8 = nI ((6 * pq) + 1) := ey8.trans (nI_add (6 * pq) 1)
  refine g_iald (f := (up2 ρ 2 ((6 * pq) + 1) (nI ra)) 2) (x := nI ra) hx hb hK (hB1 2 0 Nat.zero_lt_one) (vp_in_nI (n := (6 * pq) + 1) (N := 60) (by omega) (by decide)) ((congrArg ((up2 ρ 2 ((6 * pq) + 1) (nI ra)) 2) (cl_nI (n := (6 * pq) + 1) (by omega))).trans up2_s) dL_law_447 ?_
  have hm9 := m_X3_setRank l hl9 D cy (lZ s.heap.size) H1.size ad τ ν hJ.1 (by omega) (nI pq) (nI ra)
  rw [cl_nI (n := pq) (by omega)] at hm9
  refine x_wr1 (vx_runV (As := [.int (nI pq), .int (nI ra)]) (rest := []) ⟨hx, hb, hml, hown, hts⟩ hm9 (cwV 2 hts gL_law_X3_setRank rfl rfl rfl (by decide +kernel) ⟨Nat.le_of_ble_eq_true rfl, Nat.le_of_ble_eq_true rfl⟩) (x_preV (C := RX3) (B := atSz H1.size (CW D cy ad τ ν)) hK hX1 ⟨rfl, hC1⟩ (hC1 0 0 Nat.zero_lt_one) rfl) rfl rfl hl.1 rfl (lv_room (Nat.le_of_ble_eq_true rfl)) dL_law_448 ⟨(by show (100 + 200 * t) + 2 ≤ 600172; omega), (by show (2000 + 1000 * t) + 12 ≤ 7300668; omega)⟩) (fun E z => z.elim (fun z => by rw [idx_page' (show ν 0 0 ≤ 30 by omega) (show pq < ν 0 0 by omega)] at z; cases z.1) (fun z => by rw [in_9 (show ra ≤ 9 by omega)] at z; cases z.2.1)) hS1 (fun q _ h => hA9 q (Or.inl (wA.mono hS1.1 h))) (fun q h => hA9 q (Or.inl (wA.mono hS1.1 h))) (fun H2 locs2 hC2 hz2 hk2 hS2 => ?_)
  have hB2 : LW D cy bd (up2 ρ 2 ((6 * pq) + 1) (nI ra)) κ H2 := hB1.byC hJ hk2
  have hX2 := xKeep hX1 hk2 (fun q z => hA9 q (Or.inl (wA.mono hS1.1 z)))
  refine lv_iload hx hb dL_law_451 (lv_at hl 0 rfl) ?_
  refine lv_icmp_ne (tgt := 460) hx hb dL_law_453 (by decide) (fun c_453 => ?_) (fun c_453 => ?_)
  · -- 453 t
    exact absurd ((hR.eqP (by decide) (by decide) (show pq < ν 0 0 by omega)).trans (hLR.2.2.2.1 pq hpq).2.2.2.2.1.symm) c_453
  · -- 453 f
    refine lv_iconst (v := 1) hx hb dL_law_456 (by decide) ?_
    refine lv_goto (tgt := 461) hx hb dL_law_457 (by decide) ?_
    refine lv_istore (lv' := [(12, .int 1), (14, .int (ρ 2 ((6 * pq) + 1))), (13, .int (nI pq)), (10, .int z), (11, .int y), (0, .ref b), (1, .ref (ad 0 0)), (2, .ref (bd 0 0)), (3, .ref (bd 1 0)), (4, .ref (bd 2 0)), (5, .ref (bd 3 0)), (6, .ref (bd 4 0)), (7, .ref (bd 5 0)), (8, .ref (bd 6 0)), (9, .int (nI t))]) hx hb dL_law_461 hl (by decide) rfl (fun ls hl => ?_)
    refine lv_goto (tgt := 678) hx hb dL_law_463 (by decide) ?_
    refine W.widen (k := 100 + 200 * t + 20) (n := 2000 + 1000 * t + 160) (by omega) (by omega) ?_
    exact K ad (up2 τ 10 pq (nI ra)) ν (up2 ρ 2 ((6 * pq) + 1) (nI ra)) κ (up2 σ 10 pq (nI ra)) μ H2 locs2 ls rfl ((hR.upd (K := 10) (i := pq) (v := nI ra) (Or.inr (Or.inr rfl)) (fun z => absurd z (by decide)) (fun z => absurd z (by decide)) (fun z => absurd z (by decide)) (fun z => absurd z (by decide))).up (Nat.le_succ t)) (hLR.setK (q := pq) (r := ra) (by omega)) (hP.next rfl) hJ hge (Nat.zero_le _) hC2 hB2 hS2 (lv_sub hl [3, 0, 5, 6, 7, 8, 9, 10, 11, 12, 13, 14] rfl)

set_option maxHeartbeats 8000000 in
set_option maxRecDepth 100000 in
/-- the law: pass -/
theorem la_pass {p : Program} {l : Launch} {e : Env} {s : State} {m : MethodId} {below : List Frame} {meth : Method} {c : Code} {b L : Nat} {xs : Nat → Int32} {D : va_G} {cy : Nat → ClassId} {bd : NT} {a0 t : Nat} {z y : Int32} (C : lctx p l s m c b L xs D cy bd) (ht : t < 120)  (K : lgo p l e s m below meth c b D cy bd a0 (t + 1) t 0 (lPot (t + 1)) [(10, .int z), (12, .int 1)] (100 + 200 * t + 20) (2000 + 1000 * t + 160) 678) : lgo p l e s m below meth c b D cy bd a0 t t 2 (lPot t) [(10, .int z), (11, .int y), (12, .int 1)] (100 + 200 * t) (2000 + 1000 * t) 473 := by
  obtain ⟨hx, hb, hml, hown, hts, hK, hX0, hcK, hXs, hbl, hl9, hL260, hbd⟩ := id C
  intro ad τ ν ρ κ σ μ H locs ls ha hR hLR hP hJ hge hg2 hC hB hS hl
  subst ha
  have hl : lv_has ls 16 [(10, .int z), (11, .int y), (12, .int 1), (0, .ref b), (1, .ref (ad 0 0)), (2, .ref (bd 0 0)), (3, .ref (bd 1 0)), (4, .ref (bd 2 0)), (5, .ref (bd 3 0)), (6, .ref (bd 4 0)), (7, .ref (bd 5 0)), (8, .ref (bd 6 0)), (9, .int (nI t))] := hl
  have h10 := hLR.2.1.1
  have h12 := hLR.2.1.2.1
  have hn0 := hR.n0
  have hn1 := hR.n1
  have hX := hX0.kept hS.2.1
  have hA9 : ∀ q, wB (ν 0 0) ad bd s.heap.size q → lZ s.heap.size q := lA_wB hge hbd (Nat.le_refl _)
  refine lv_aload hx hb dL_law_473 (lv_at hl 7 rfl) ?_
  refine lv_aload_n hx hb dL_law_475 rfl (lv_at hl 6 rfl) ?_
  refine lv_aload_n hx hb dL_law_476 rfl (lv_at hl 5 rfl) ?_
  refine g_csr (va_runS (As := [.ref (bd 2 0), .ref (bd 1 0), .ref (bd 0 0)]) (rest := []) ⟨hx, hb, hml, hown, hts⟩ (m_L_waiting l D cy bd ρ κ (μ 0 0) (gP μ) h10 hLR.hG hLR.1.2.2.2.2.2.2.1) (va_cwS 3 hts gL_law_L_waiting rfl rfl rfl (by decide +kernel) ⟨Nat.le_of_ble_eq_true rfl, Nat.le_of_ble_eq_true rfl⟩) (g_preS (B := (LW D cy bd ρ κ)) hK hB) rfl rfl hl.1 rfl (lv_room (Nat.le_of_ble_eq_true rfl)) dL_law_477 ⟨(by show (100 + 200 * t) + 0 ≤ 600172; omega), (by show (2000 + 1000 * t) + 0 ≤ 7300668; omega)⟩) ?_
  refine lv_istore (lv' := [(13, .int (wtQ ρ (gP μ) (μ 0 0))), (10, .int z), (11, .int y), (12, .int 1), (0, .ref b), (1, .ref (ad 0 0)), (2, .ref (bd 0 0)), (3, .ref (bd 1 0)), (4, .ref (bd 2 0)), (5, .ref (bd 3 0)), (6, .ref (bd 4 0)), (7, .ref (bd 5 0)), (8, .ref (bd 6 0)), (9, .int (nI t))]) hx hb dL_law_480 hl (by decide) rfl (fun ls hl => ?_)
  have k_541 : ∀ d : Nat, 1 ≤ d → d < 900 → (d ≤ 300 ∨ (d < 900 ∧ wtQ ρ (gP μ) (μ 0 0) = nI d)) → W p l e room_1 s m ([.ref b] : List Value).toArray below meth c H locs (100 + 200 * t) (2000 + 1000 * t) (lw_Z below #[Value.ref b] s) (F0 m 541 ls [.int (nI d)]) := by
    intro d hd1 hd9 hdd
    obtain ⟨w0, w1, w2, w3⟩ := id hP
    have e00 : τ 0 0 = nI w0 := (hR.eq0 (by decide)).trans w1
    have hle : τ 0 0 + nI d ≤ 100000 := by rw [e00, nI_add]; exact (nI_leI (a := w0 + d) (b := 100000) (by omega) (by decide)).mpr (by omega)
    refine lv_istore (lv' := [(14, .int (nI d)), (13, .int (wtQ ρ (gP μ) (μ 0 0))), (10, .int z), (11, .int y), (12, .int 1), (0, .ref b), (1, .ref (ad 0 0)), (2, .ref (bd 0 0)), (3, .ref (bd 1 0)), (4, .ref (bd 2 0)), (5, .ref (bd 3 0)), (6, .ref (bd 4 0)), (7, .ref (bd 5 0)), (8, .ref (bd 6 0)), (9, .int (nI t))]) hx hb dL_law_541 hl (by decide) rfl (fun ls hl => ?_)
    refine lv_aload_n hx hb dL_law_543 rfl (lv_at hl 7 rfl) ?_
    refine lv_iconst (v := 0) hx hb dL_law_544 (by decide) ?_
    refine lv_dup2_11 hx hb dL_law_545 rfl rfl ?_
    refine g_iald (f := ρ 0) (x := ρ 0 0) hx hb hK (hB 0 0 Nat.zero_lt_one) (vp_in_nI (n := 0) (N := 8) (by decide) (by decide)) (congrArg (ρ 0) (cl_nI (n := 0) (by decide))) dL_law_546 ?_
    refine lv_iload hx hb dL_law_547 (lv_at hl 0 rfl) ?_
    refine lv_iadd hx hb dL_law_549 ?_
    refine g_iast (f := ρ 0) (A := (lZ s.heap.size)) hx hb hK (hB 0 0 Nat.zero_lt_one) hS (hbd 0 Nat.zero_lt_one) (vp_in_nI (n := 0) (N := 8) (by decide) (by decide)) dL_law_550 (fun H1 locs1 hc1 hu1 hS1 => ?_)
    have hB1 : LW D cy bd (up2 ρ 0 0 ((ρ 0 0) + (nI d))) κ H1 := hB.ist hJ.2.1 0 (q := 0) (by decide) (cl_nI (n := 0) (by decide)) hc1 hu1
    have hC1 : CW D cy ad τ ν H1 := hC.byR hJ (show 0 < cL 0 from Nat.zero_lt_one) hu1
    have hX1 := xKeep (A1 := wA cL bd s.heap.size) hX (hu1.in (wA.in (k := 0) (i := 0) Nat.zero_lt_one)) (fun q z => hA9 q (Or.inr z))
    refine lv_aload_n hx hb dL_law_551 rfl (lv_at hl 6 rfl) ?_
    refine lv_iload hx hb dL_law_552 (lv_at hl 0 rfl) ?_
    have hm1 := m_X3_pass l hl9 D cy (lZ s.heap.size) H1.size ad τ ν hJ.1 (nI d)
    refine x_wr1 (vx_runV (As := [.int (nI d)]) (rest := []) ⟨hx, hb, hml, hown, hts⟩ hm1 (cwV 1 hts gL_law_X3_pass rfl rfl rfl (by decide +kernel) ⟨Nat.le_of_ble_eq_true rfl, Nat.le_of_ble_eq_true rfl⟩) (x_preV (C := RX3) (B := atSz H1.size (CW D cy ad τ ν)) hK hX1 ⟨rfl, hC1⟩ (hC1 0 0 Nat.zero_lt_one) rfl) rfl rfl hl.1 rfl (lv_room (Nat.le_of_ble_eq_true rfl)) dL_law_554 ⟨(by show (100 + 200 * t) + 1 ≤ 600172; omega), (by show (2000 + 1000 * t) + 6 ≤ 7300668; omega)⟩) (fun E z => z.elim (fun z => by rw [show inB (nI d) 1 1000 = true from in_nI (a := 1) (b := 1000) (by omega) (by omega) (by decide)] at z; cases z.1) (fun z => absurd hle z.2.1)) hS1 (fun q _ h => hA9 q (Or.inl (wA.mono hS1.1 h))) (fun q h => hA9 q (Or.inl (wA.mono hS1.1 h))) (fun H2 locs2 hC2 hz2 hk2 hS2 => ?_)
    have hB2 : LW D cy bd (up2 ρ 0 0 ((ρ 0 0) + (nI d))) κ H2 := hB1.byC hJ hk2
    have hX2 := xKeep hX1 hk2 (fun q z => hA9 q (Or.inl (wA.mono hS1.1 z)))
    refine lv_aload_n hx hb dL_law_557 rfl (lv_at hl 7 rfl) ?_
    refine lv_iconst (v := 0) hx hb dL_law_558 (by decide) ?_
    refine g_iald (f := (up2 ρ 0 0 ((ρ 0 0) + (nI d))) 0) (x := (ρ 0 0 + nI d)) hx hb hK (hB2 0 0 Nat.zero_lt_one) (vp_in_nI (n := 0) (N := 8) (by decide) (by decide)) ((congrArg ((up2 ρ 0 0 ((ρ 0 0) + (nI d))) 0) (cl_nI (n := 0) (by decide))).trans up2_s) dL_law_559 ?_
    refine lv_icmp_ne (tgt := 567) hx hb dL_law_560 (by decide) (fun c_560 => ?_) (fun c_560 => ?_)
    · -- 560 t
      exact absurd (congrArg (fun q => q + nI d) ((hR.eq0 (by decide)).trans hLR.1.1.symm)) c_560
    · -- 560 f
      refine lv_iconst (v := 1) hx hb dL_law_563 (by decide) ?_
      refine lv_goto (tgt := 568) hx hb dL_law_564 (by decide) ?_
      refine lv_istore (lv' := [(12, .int 1), (14, .int (nI d)), (13, .int (wtQ ρ (gP μ) (μ 0 0))), (10, .int z), (11, .int y), (0, .ref b), (1, .ref (ad 0 0)), (2, .ref (bd 0 0)), (3, .ref (bd 1 0)), (4, .ref (bd 2 0)), (5, .ref (bd 3 0)), (6, .ref (bd 4 0)), (7, .ref (bd 5 0)), (8, .ref (bd 6 0)), (9, .int (nI t))]) hx hb dL_law_568 hl (by decide) rfl (fun ls hl => ?_)
      refine lv_goto (tgt := 678) hx hb dL_law_570 (by decide) ?_
      refine W.widen (k := 100 + 200 * t + 20) (n := 2000 + 1000 * t + 160) (by omega) (by omega) ?_
      exact K ad (passC τ (nI d)) ν (up2 ρ 0 0 ((ρ 0 0) + (nI d))) κ (up2 (T0 σ) 0 0 (σ 0 0 + nI d)) μ H2 locs2 ls rfl ((pass_rel hR w1 (show w0 + d ≤ 100000 by omega)).up (Nat.le_succ t)) hLR.pas (hP.pass hLR hR hLR.pas (pass_rel hR w1 (show w0 + d ≤ 100000 by omega)) hd1 (by omega) hdd up2_s (fun K hK => (up2_row (by omega)).trans (up2_30 (by omega)))) hJ hge (Nat.zero_le _) hC2 hB2 hS2 (lv_sub hl [3, 0, 5, 6, 7, 8, 9, 10, 11, 12, 13, 14] rfl)
  refine lv_iload hx hb dL_law_482 (lv_at hl 1 rfl) ?_
  refine lv_bipush (v := 13) hx hb dL_law_484 (by decide) ?_
  refine lv_ishr hx hb dL_law_486 ?_
  refine lv_iconst (v := 2) hx hb dL_law_487 (by decide) ?_
  refine g_csr (va_runS (As := [.int (z >>> (13 &&& 31)), .int 2]) (rest := []) ⟨hx, hb, hml, hown, hts⟩ (m_L_low l D cy bd ρ κ (z >>> (13 &&& 31)) 2 (by decide)) (va_cwS 2 hts gL_law_L_low rfl rfl rfl (by decide +kernel) ⟨Nat.le_of_ble_eq_true rfl, Nat.le_of_ble_eq_true rfl⟩) (g_preS (B := (fun _ => True)) hK trivial) rfl rfl hl.1 rfl (lv_room (Nat.le_of_ble_eq_true rfl)) dL_law_488 ⟨(by show (100 + 200 * t) + 0 ≤ 600172; omega), (by show (2000 + 1000 * t) + 0 ≤ 7300668; omega)⟩) ?_
  refine lv_if_ne (tgt := 512) hx hb dL_law_491 (by decide) (fun c_491 => ?_) (fun c_491 => ?_)
  · -- 491 t
    refine lv_iconst (v := 1) hx hb dL_law_512 (by decide) ?_
    refine lv_iload hx hb dL_law_513 (lv_at hl 1 rfl) ?_
    refine lv_iconst (v := 5) hx hb dL_law_515 (by decide) ?_
    refine lv_ishr hx hb dL_law_516 ?_
    have k_540_517 : ∀ ra : Nat, ra < 300 → W p l e room_1 s m ([.ref b] : List Value).toArray below meth c H locs (100 + 200 * t) (2000 + 1000 * t) (lw_Z below #[Value.ref b] s) (F0 m 540 ls [.int (nI ra), .int 1]) := by
      intro ra hra
      refine lv_iadd hx hb dL_law_540 ?_
      refine lv_topi (fun y2 ey2 => ?_)
      obtain rfl : y2 = nI (1 + ra) := ey2.trans (nI_add 1 ra)
      exact k_541 (1 + ra) (by omega) (by omega) (Or.inl (by omega))
    refine lv_iload hx hb dL_law_517 (lv_at hl 1 rfl) ?_
    refine lv_bipush (v := 15) hx hb dL_law_519 (by decide) ?_
    refine lv_ishr hx hb dL_law_521 ?_
    refine lv_iconst (v := 4) hx hb dL_law_522 (by decide) ?_
    refine g_csr (va_runS (As := [.int (z >>> (15 &&& 31)), .int 4]) (rest := [.int (z >>> (5 &&& 31)), .int 1]) ⟨hx, hb, hml, hown, hts⟩ (m_L_low l D cy bd ρ κ (z >>> (15 &&& 31)) 4 (by decide)) (va_cwS 2 hts gL_law_L_low rfl rfl rfl (by decide +kernel) ⟨Nat.le_of_ble_eq_true rfl, Nat.le_of_ble_eq_true rfl⟩) (g_preS (B := (fun _ => True)) hK trivial) rfl rfl hl.1 rfl (lv_room (Nat.le_of_ble_eq_true rfl)) dL_law_523 ⟨(by show (100 + 200 * t) + 0 ≤ 600172; omega), (by show (2000 + 1000 * t) + 0 ≤ 7300668; omega)⟩) ?_
    refine lv_if_ne (tgt := 535) hx hb dL_law_526 (by decide) (fun c_526 => ?_) (fun c_526 => ?_)
    · -- 526 t
      refine lv_bipush (v := 20) hx hb dL_law_535 (by decide) ?_
      refine g_csr (va_runS (As := [.int (z >>> (5 &&& 31)), .int 20]) (rest := [.int 1]) ⟨hx, hb, hml, hown, hts⟩ (m_L_low l D cy bd ρ κ (z >>> (5 &&& 31)) 20 (by decide)) (va_cwS 2 hts gL_law_L_low rfl rfl rfl (by decide +kernel) ⟨Nat.le_of_ble_eq_true rfl, Nat.le_of_ble_eq_true rfl⟩) (g_preS (B := (fun _ => True)) hK trivial) rfl rfl hl.1 rfl (lv_room (Nat.le_of_ble_eq_true rfl)) dL_law_537 ⟨(by show (100 + 200 * t) + 0 ≤ 600172; omega), (by show (2000 + 1000 * t) + 0 ≤ 7300668; omega)⟩) ?_
      obtain ⟨rj, hrj, erj⟩ := low_nI (v := (z >>> (5 &&& 31))) (m := 20) (by decide) (by decide)
      refine lv_topi (fun y3 ey3 => ?_)
      obtain rfl : y3 = nI rj := ey3.trans (erj)
      exact k_540_517 (rj) (by omega)
    · -- 526 f
      refine lv_sipush (v := 300) hx hb dL_law_529 (by decide) ?_
      refine lv_goto (tgt := 537) hx hb dL_law_532 (by decide) ?_
      refine g_csr (va_runS (As := [.int (z >>> (5 &&& 31)), .int 300]) (rest := [.int 1]) ⟨hx, hb, hml, hown, hts⟩ (m_L_low l D cy bd ρ κ (z >>> (5 &&& 31)) 300 (by decide)) (va_cwS 2 hts gL_law_L_low rfl rfl rfl (by decide +kernel) ⟨Nat.le_of_ble_eq_true rfl, Nat.le_of_ble_eq_true rfl⟩) (g_preS (B := (fun _ => True)) hK trivial) rfl rfl hl.1 rfl (lv_room (Nat.le_of_ble_eq_true rfl)) dL_law_537 ⟨(by show (100 + 200 * t) + 0 ≤ 600172; omega), (by show (2000 + 1000 * t) + 0 ≤ 7300668; omega)⟩) ?_
      obtain ⟨rj, hrj, erj⟩ := low_nI (v := (z >>> (5 &&& 31))) (m := 300) (by decide) (by decide)
      refine lv_topi (fun y4 ey4 => ?_)
      obtain rfl : y4 = nI rj := ey4.trans (erj)
      exact k_540_517 (rj) (by omega)
  · -- 491 f
    refine lv_iload hx hb dL_law_494 (lv_at hl 0 rfl) ?_
    refine lv_if_le (tgt := 512) hx hb dL_law_496 (by decide) (fun c_496 => ?_) (fun c_496 => ?_)
    · -- 496 t
      refine lv_iconst (v := 1) hx hb dL_law_512 (by decide) ?_
      refine lv_iload hx hb dL_law_513 (lv_at hl 1 rfl) ?_
      refine lv_iconst (v := 5) hx hb dL_law_515 (by decide) ?_
      refine lv_ishr hx hb dL_law_516 ?_
      have k_540_517 : ∀ ra : Nat, ra < 300 → W p l e room_1 s m ([.ref b] : List Value).toArray below meth c H locs (100 + 200 * t) (2000 + 1000 * t) (lw_Z below #[Value.ref b] s) (F0 m 540 ls [.int (nI ra), .int 1]) := by
        intro ra hra
        refine lv_iadd hx hb dL_law_540 ?_
        refine lv_topi (fun y5 ey5 => ?_)
        obtain rfl : y5 = nI (1 + ra) := ey5.trans (nI_add 1 ra)
        exact k_541 (1 + ra) (by omega) (by omega) (Or.inl (by omega))
      refine lv_iload hx hb dL_law_517 (lv_at hl 1 rfl) ?_
      refine lv_bipush (v := 15) hx hb dL_law_519 (by decide) ?_
      refine lv_ishr hx hb dL_law_521 ?_
      refine lv_iconst (v := 4) hx hb dL_law_522 (by decide) ?_
      refine g_csr (va_runS (As := [.int (z >>> (15 &&& 31)), .int 4]) (rest := [.int (z >>> (5 &&& 31)), .int 1]) ⟨hx, hb, hml, hown, hts⟩ (m_L_low l D cy bd ρ κ (z >>> (15 &&& 31)) 4 (by decide)) (va_cwS 2 hts gL_law_L_low rfl rfl rfl (by decide +kernel) ⟨Nat.le_of_ble_eq_true rfl, Nat.le_of_ble_eq_true rfl⟩) (g_preS (B := (fun _ => True)) hK trivial) rfl rfl hl.1 rfl (lv_room (Nat.le_of_ble_eq_true rfl)) dL_law_523 ⟨(by show (100 + 200 * t) + 0 ≤ 600172; omega), (by show (2000 + 1000 * t) + 0 ≤ 7300668; omega)⟩) ?_
      refine lv_if_ne (tgt := 535) hx hb dL_law_526 (by decide) (fun c_526 => ?_) (fun c_526 => ?_)
      · -- 526 t
        refine lv_bipush (v := 20) hx hb dL_law_535 (by decide) ?_
        refine g_csr (va_runS (As := [.int (z >>> (5 &&& 31)), .int 20]) (rest := [.int 1]) ⟨hx, hb, hml, hown, hts⟩ (m_L_low l D cy bd ρ κ (z >>> (5 &&& 31)) 20 (by decide)) (va_cwS 2 hts gL_law_L_low rfl rfl rfl (by decide +kernel) ⟨Nat.le_of_ble_eq_true rfl, Nat.le_of_ble_eq_true rfl⟩) (g_preS (B := (fun _ => True)) hK trivial) rfl rfl hl.1 rfl (lv_room (Nat.le_of_ble_eq_true rfl)) dL_law_537 ⟨(by show (100 + 200 * t) + 0 ≤ 600172; omega), (by show (2000 + 1000 * t) + 0 ≤ 7300668; omega)⟩) ?_
        obtain ⟨rj, hrj, erj⟩ := low_nI (v := (z >>> (5 &&& 31))) (m := 20) (by decide) (by decide)
        refine lv_topi (fun y6 ey6 => ?_)
        obtain rfl : y6 = nI rj := ey6.trans (erj)
        exact k_540_517 (rj) (by omega)
      · -- 526 f
        refine lv_sipush (v := 300) hx hb dL_law_529 (by decide) ?_
        refine lv_goto (tgt := 537) hx hb dL_law_532 (by decide) ?_
        refine g_csr (va_runS (As := [.int (z >>> (5 &&& 31)), .int 300]) (rest := [.int 1]) ⟨hx, hb, hml, hown, hts⟩ (m_L_low l D cy bd ρ κ (z >>> (5 &&& 31)) 300 (by decide)) (va_cwS 2 hts gL_law_L_low rfl rfl rfl (by decide +kernel) ⟨Nat.le_of_ble_eq_true rfl, Nat.le_of_ble_eq_true rfl⟩) (g_preS (B := (fun _ => True)) hK trivial) rfl rfl hl.1 rfl (lv_room (Nat.le_of_ble_eq_true rfl)) dL_law_537 ⟨(by show (100 + 200 * t) + 0 ≤ 600172; omega), (by show (2000 + 1000 * t) + 0 ≤ 7300668; omega)⟩) ?_
        obtain ⟨rj, hrj, erj⟩ := low_nI (v := (z >>> (5 &&& 31))) (m := 300) (by decide) (by decide)
        refine lv_topi (fun y7 ey7 => ?_)
        obtain rfl : y7 = nI rj := ey7.trans (erj)
        exact k_540_517 (rj) (by omega)
    · -- 496 f
      refine lv_iload hx hb dL_law_499 (lv_at hl 0 rfl) ?_
      refine lv_sipush (v := 900) hx hb dL_law_501 (by decide) ?_
      refine lv_icmp_ge (tgt := 512) hx hb dL_law_504 (by decide) (fun c_504 => ?_) (fun c_504 => ?_)
      · -- 504 t
        refine lv_iconst (v := 1) hx hb dL_law_512 (by decide) ?_
        refine lv_iload hx hb dL_law_513 (lv_at hl 1 rfl) ?_
        refine lv_iconst (v := 5) hx hb dL_law_515 (by decide) ?_
        refine lv_ishr hx hb dL_law_516 ?_
        have k_540_517 : ∀ ra : Nat, ra < 300 → W p l e room_1 s m ([.ref b] : List Value).toArray below meth c H locs (100 + 200 * t) (2000 + 1000 * t) (lw_Z below #[Value.ref b] s) (F0 m 540 ls [.int (nI ra), .int 1]) := by
          intro ra hra
          refine lv_iadd hx hb dL_law_540 ?_
          refine lv_topi (fun y8 ey8 => ?_)
          obtain rfl : y8 = nI (1 + ra) := ey8.trans (nI_add 1 ra)
          exact k_541 (1 + ra) (by omega) (by omega) (Or.inl (by omega))
        refine lv_iload hx hb dL_law_517 (lv_at hl 1 rfl) ?_
        refine lv_bipush (v := 15) hx hb dL_law_519 (by decide) ?_
        refine lv_ishr hx hb dL_law_521 ?_
        refine lv_iconst (v := 4) hx hb dL_law_522 (by decide) ?_
        refine g_csr (va_runS (As := [.int (z >>> (15 &&& 31)), .int 4]) (rest := [.int (z >>> (5 &&& 31)), .int 1]) ⟨hx, hb, hml, hown, hts⟩ (m_L_low l D cy bd ρ κ (z >>> (15 &&& 31)) 4 (by decide)) (va_cwS 2 hts gL_law_L_low rfl rfl rfl (by decide +kernel) ⟨Nat.le_of_ble_eq_true rfl, Nat.le_of_ble_eq_true rfl⟩) (g_preS (B := (fun _ => True)) hK trivial) rfl rfl hl.1 rfl (lv_room (Nat.le_of_ble_eq_true rfl)) dL_law_523 ⟨(by show (100 + 200 * t) + 0 ≤ 600172; omega), (by show (2000 + 1000 * t) + 0 ≤ 7300668; omega)⟩) ?_
        refine lv_if_ne (tgt := 535) hx hb dL_law_526 (by decide) (fun c_526 => ?_) (fun c_526 => ?_)
        · -- 526 t
          refine lv_bipush (v := 20) hx hb dL_law_535 (by decide) ?_
          refine g_csr (va_runS (As := [.int (z >>> (5 &&& 31)), .int 20]) (rest := [.int 1]) ⟨hx, hb, hml, hown, hts⟩ (m_L_low l D cy bd ρ κ (z >>> (5 &&& 31)) 20 (by decide)) (va_cwS 2 hts gL_law_L_low rfl rfl rfl (by decide +kernel) ⟨Nat.le_of_ble_eq_true rfl, Nat.le_of_ble_eq_true rfl⟩) (g_preS (B := (fun _ => True)) hK trivial) rfl rfl hl.1 rfl (lv_room (Nat.le_of_ble_eq_true rfl)) dL_law_537 ⟨(by show (100 + 200 * t) + 0 ≤ 600172; omega), (by show (2000 + 1000 * t) + 0 ≤ 7300668; omega)⟩) ?_
          obtain ⟨rj, hrj, erj⟩ := low_nI (v := (z >>> (5 &&& 31))) (m := 20) (by decide) (by decide)
          refine lv_topi (fun y9 ey9 => ?_)
          obtain rfl : y9 = nI rj := ey9.trans (erj)
          exact k_540_517 (rj) (by omega)
        · -- 526 f
          refine lv_sipush (v := 300) hx hb dL_law_529 (by decide) ?_
          refine lv_goto (tgt := 537) hx hb dL_law_532 (by decide) ?_
          refine g_csr (va_runS (As := [.int (z >>> (5 &&& 31)), .int 300]) (rest := [.int 1]) ⟨hx, hb, hml, hown, hts⟩ (m_L_low l D cy bd ρ κ (z >>> (5 &&& 31)) 300 (by decide)) (va_cwS 2 hts gL_law_L_low rfl rfl rfl (by decide +kernel) ⟨Nat.le_of_ble_eq_true rfl, Nat.le_of_ble_eq_true rfl⟩) (g_preS (B := (fun _ => True)) hK trivial) rfl rfl hl.1 rfl (lv_room (Nat.le_of_ble_eq_true rfl)) dL_law_537 ⟨(by show (100 + 200 * t) + 0 ≤ 600172; omega), (by show (2000 + 1000 * t) + 0 ≤ 7300668; omega)⟩) ?_
          obtain ⟨rj, hrj, erj⟩ := low_nI (v := (z >>> (5 &&& 31))) (m := 300) (by decide) (by decide)
          refine lv_topi (fun y10 ey10 => ?_)
          obtain rfl : y10 = nI rj := ey10.trans (erj)
          exact k_540_517 (rj) (by omega)
      · -- 504 f
        refine lv_iload hx hb dL_law_507 (lv_at hl 0 rfl) ?_
        refine lv_goto (tgt := 541) hx hb dL_law_509 (by decide) ?_
        obtain ⟨d9, e9, h91, h92⟩ := wt_d c_496 c_504
        refine lv_topi (fun y11 ey11 => ?_)
        obtain rfl : y11 = nI d9 := ey11.trans (e9)
        exact k_541 d9 h91 h92 (Or.inr ⟨h92, e9⟩)

set_option maxHeartbeats 8000000 in
set_option maxRecDepth 100000 in
/-- the law: visit -/
theorem la_visit {p : Program} {l : Launch} {e : Env} {s : State} {m : MethodId} {below : List Frame} {meth : Method} {c : Code} {b L : Nat} {xs : Nat → Int32} {D : va_G} {cy : Nat → ClassId} {bd : NT} {a0 t : Nat} {z y : Int32} (C : lctx p l s m c b L xs D cy bd) (ht : t < 120)  (K : lgo p l e s m below meth c b D cy bd a0 (t + 1) t 0 (lPot (t + 1)) [(10, .int z), (12, .int 1)] (100 + 200 * t + 20) (2000 + 1000 * t + 160) 678) : lgo p l e s m below meth c b D cy bd a0 t t 2 (lPot t) [(10, .int z), (11, .int y), (12, .int 1)] (100 + 200 * t) (2000 + 1000 * t) 573 := by
  obtain ⟨hx, hb, hml, hown, hts, hK, hX0, hcK, hXs, hbl, hl9, hL260, hbd⟩ := id C
  intro ad τ ν ρ κ σ μ H locs ls ha hR hLR hP hJ hge hg2 hC hB hS hl
  subst ha
  have hl : lv_has ls 16 [(10, .int z), (11, .int y), (12, .int 1), (0, .ref b), (1, .ref (ad 0 0)), (2, .ref (bd 0 0)), (3, .ref (bd 1 0)), (4, .ref (bd 2 0)), (5, .ref (bd 3 0)), (6, .ref (bd 4 0)), (7, .ref (bd 5 0)), (8, .ref (bd 6 0)), (9, .int (nI t))] := hl
  have h10 := hLR.2.1.1
  have h12 := hLR.2.1.2.1
  have hn0 := hR.n0
  have hn1 := hR.n1
  have hX := hX0.kept hS.2.1
  have hA9 : ∀ q, wB (ν 0 0) ad bd s.heap.size q → lZ s.heap.size q := lA_wB hge hbd (Nat.le_refl _)
  have k_615 : ∀ (q : Nat) (ls : Array Slot), q < μ 0 0 → lv_has ls 16 [(10, .int z), (12, .int 1), (0, .ref b), (1, .ref (ad 0 0)), (2, .ref (bd 0 0)), (3, .ref (bd 1 0)), (4, .ref (bd 2 0)), (5, .ref (bd 3 0)), (6, .ref (bd 4 0)), (7, .ref (bd 5 0)), (8, .ref (bd 6 0)), (9, .int (nI t))] → W p l e room_1 s m ([.ref b] : List Value).toArray below meth c H locs (100 + 200 * t) (2000 + 1000 * t) (lw_Z below #[Value.ref b] s) (F0 m 615 ls [.int (nI q)]) := by
    intro q ls hq hl
    refine lv_istore (lv' := [(13, .int (nI q)), (10, .int z), (12, .int 1), (0, .ref b), (1, .ref (ad 0 0)), (2, .ref (bd 0 0)), (3, .ref (bd 1 0)), (4, .ref (bd 2 0)), (5, .ref (bd 3 0)), (6, .ref (bd 4 0)), (7, .ref (bd 5 0)), (8, .ref (bd 6 0)), (9, .int (nI t))]) hx hb dL_law_615 hl (by decide) rfl (fun ls hl => ?_)
    have k_643_617 : ∀ oq : Nat, oq < 4 → W p l e room_1 s m ([.ref b] : List Value).toArray below meth c H locs (100 + 200 * t) (2000 + 1000 * t) (lw_Z below #[Value.ref b] s) (F0 m 643 ls [.int (nI oq)]) := by
      intro oq hoq
      refine lv_istore (lv' := [(14, .int (nI oq)), (13, .int (nI q)), (10, .int z), (12, .int 1), (0, .ref b), (1, .ref (ad 0 0)), (2, .ref (bd 0 0)), (3, .ref (bd 1 0)), (4, .ref (bd 2 0)), (5, .ref (bd 3 0)), (6, .ref (bd 4 0)), (7, .ref (bd 5 0)), (8, .ref (bd 6 0)), (9, .int (nI t))]) hx hb dL_law_643 hl (by decide) rfl (fun ls hl => ?_)
      have ho9 : inB (nI oq) 0 3 = true := in_nI (a := 0) (b := 3) (Nat.zero_le _) (by omega) (by decide)
      have hq30 : ν 0 0 ≤ 30 := by omega
      have hqv : q < ν 0 0 := by omega
      by_cases hm9 : mayQ ρ (gP μ) q = true
      ·
        have hrd : isRdy τ ν q = true := (hLR.may hR hq).symm.trans hm9
        have hop9 : openB σ μ q = true := (hR.opn hqv).symm.trans hrd
        refine lv_iload hx hb dL_law_645 (lv_at hl 1 rfl) ?_
        refine lv_iload hx hb dL_law_647 (lv_at hl 0 rfl) ?_
        refine lv_aload hx hb dL_law_649 (lv_at hl 8 rfl) ?_
        refine lv_aload_n hx hb dL_law_651 rfl (lv_at hl 7 rfl) ?_
        refine lv_aload_n hx hb dL_law_652 rfl (lv_at hl 6 rfl) ?_
        have hm1 := m_L_visits l D cy H.size bd ρ κ hJ.2.1 (μ 0 0) (gP μ) h10 hLR.hG q hq (nI oq) (hLR.vpre hR (by omega) hq ho9)
        simp only [if_pos hm9] at hm1
        refine g_cu1 (va_runS (As := [.int (nI q), .int (nI oq), .ref (bd 2 0), .ref (bd 1 0), .ref (bd 0 0)]) (rest := []) ⟨hx, hb, hml, hown, hts⟩ hm1 (va_cwS 5 hts gL_law_L_visits rfl rfl rfl (by decide +kernel) ⟨Nat.le_of_ble_eq_true rfl, Nat.le_of_ble_eq_true rfl⟩) (g_preS (B := atSz H.size (LW D cy bd ρ κ)) hK ⟨rfl, hB⟩) rfl rfl hl.1 rfl (lv_room (Nat.le_of_ble_eq_true rfl)) dL_law_653 ⟨(by show (100 + 200 * t) + 0 ≤ 600172; omega), (by show (2000 + 1000 * t) + 0 ≤ 7300668; omega)⟩) hS (fun q _ h => hA9 q (Or.inr (wA.mono hS.1 h))) (fun q h => hA9 q (Or.inr (wA.mono hS.1 h))) (fun H1 locs1 hB1 hz1 hk1 hS1 => ?_)
        have hC1 : CW D cy ad τ ν H1 := hC.byL hJ hk1
        have hX1 := xKeep hX hk1 (fun q z => hA9 q (Or.inr (wA.mono hS.1 z)))
        refine lv_istore (lv' := [(15, .int (vS ρ (gP μ q) q (nI oq) 1 (3 * gP μ q + 2))), (14, .int (nI oq)), (13, .int (nI q)), (10, .int z), (12, .int 1), (0, .ref b), (1, .ref (ad 0 0)), (2, .ref (bd 0 0)), (3, .ref (bd 1 0)), (4, .ref (bd 2 0)), (5, .ref (bd 3 0)), (6, .ref (bd 4 0)), (7, .ref (bd 5 0)), (8, .ref (bd 6 0)), (9, .int (nI t))]) hx hb dL_law_656 hl (by decide) rfl (fun ls hl => ?_)
        refine lv_aload_n hx hb dL_law_658 rfl (lv_at hl 6 rfl) ?_
        refine lv_iload hx hb dL_law_659 (lv_at hl 2 rfl) ?_
        refine lv_iload hx hb dL_law_661 (lv_at hl 1 rfl) ?_
        have hm2 := m_L_visit l hl9 D cy (lZ s.heap.size) H1.size ad τ ν hJ.1 hR.CI (nI q) (nI oq) (idx_page' hq30 hqv) ho9
        rw [cl_nI (n := q) (by omega)] at hm2
        simp only [if_pos hrd] at hm2
        refine g_cu1 (vx_runSW (As := [.ref (ad 0 0), .int (nI q), .int (nI oq)]) (rest := []) ⟨hx, hb, hml, hown, hts⟩ hm2 (vx_cwSW 3 hts gL_law_L_visit rfl rfl rfl (by decide +kernel) ⟨Nat.le_of_ble_eq_true rfl, Nat.le_of_ble_eq_true rfl⟩) (x_preS (B := atSz H1.size (CW D cy ad τ ν)) hK hX1 ⟨rfl, hC1⟩) rfl rfl hl.1 rfl (lv_room (Nat.le_of_ble_eq_true rfl)) dL_law_663 ⟨(by show (100 + 200 * t) + 2 ≤ 600172; omega), (by show (2000 + 1000 * t) + 12 ≤ 7300668; omega)⟩) hS1 (fun q _ h => hA9 q (Or.inl (wA.mono hS1.1 h))) (fun q h => hA9 q (Or.inl (wA.mono hS1.1 h))) (fun H2 locs2 hC2 hz2 hk2 hS2 => ?_)
        have hB2 : LW D cy bd (vS ρ (gP μ q) q (nI oq)) κ H2 := hB1.byC hJ hk2
        refine lv_iload hx hb dL_law_666 (lv_at hl 0 rfl) ?_
        refine lv_icmp_ne (tgt := 675) hx hb dL_law_668 (by decide) (fun c_668 => ?_) (fun c_668 => ?_)
        · -- 668 t
          exact absurd ((visit_rel hR (by omega) hqv ho9 hop9).2.trans (hLR.visA hR (by omega) hq).symm) c_668
        · -- 668 f
          refine lv_iconst (v := 1) hx hb dL_law_671 (by decide) ?_
          refine lv_goto (tgt := 676) hx hb dL_law_672 (by decide) ?_
          refine lv_istore (lv' := [(12, .int 1), (15, .int (vS ρ (gP μ q) q (nI oq) 1 (3 * gP μ q + 2))), (14, .int (nI oq)), (13, .int (nI q)), (10, .int z), (0, .ref b), (1, .ref (ad 0 0)), (2, .ref (bd 0 0)), (3, .ref (bd 1 0)), (4, .ref (bd 2 0)), (5, .ref (bd 3 0)), (6, .ref (bd 4 0)), (7, .ref (bd 5 0)), (8, .ref (bd 6 0)), (9, .int (nI t))]) hx hb dL_law_676 hl (by decide) rfl (fun ls hl => ?_)
          refine W.widen (k := 100 + 200 * t + 20) (n := 2000 + 1000 * t + 160) (by omega) (by omega) ?_
          exact K ad (visC τ ν q (nI oq)) ν (vS ρ (gP μ q) q (nI oq)) κ (vis4 σ (μ 5 q) q (nI oq)) μ H2 locs2 ls rfl (visit_rel hR (by omega) hqv ho9 hop9).1 (hLR.vis hR (by omega) hq ho9 hop9) (hP.next (congrFun (vis4_row ho9 (Or.inl rfl)) 0)) hJ hge (Nat.zero_le _) hC2 hB2 hS2 (lv_sub hl [4, 0, 5, 6, 7, 8, 9, 10, 11, 12, 13, 14] rfl)
      ·
        have hrd : isRdy τ ν q = false := (hLR.may hR hq).symm.trans (by simpa using hm9)
        refine lv_iload hx hb dL_law_645 (lv_at hl 1 rfl) ?_
        refine lv_iload hx hb dL_law_647 (lv_at hl 0 rfl) ?_
        refine lv_aload hx hb dL_law_649 (lv_at hl 8 rfl) ?_
        refine lv_aload_n hx hb dL_law_651 rfl (lv_at hl 7 rfl) ?_
        refine lv_aload_n hx hb dL_law_652 rfl (lv_at hl 6 rfl) ?_
        have hm3 := m_L_visits l D cy H.size bd ρ κ hJ.2.1 (μ 0 0) (gP μ) h10 hLR.hG q hq (nI oq) (hLR.vpre hR (by omega) hq ho9)
        simp only [if_neg hm9] at hm3
        refine g_cu1 (va_runS (As := [.int (nI q), .int (nI oq), .ref (bd 2 0), .ref (bd 1 0), .ref (bd 0 0)]) (rest := []) ⟨hx, hb, hml, hown, hts⟩ hm3 (va_cwS 5 hts gL_law_L_visits rfl rfl rfl (by decide +kernel) ⟨Nat.le_of_ble_eq_true rfl, Nat.le_of_ble_eq_true rfl⟩) (g_preS (B := atSz H.size (LW D cy bd ρ κ)) hK ⟨rfl, hB⟩) rfl rfl hl.1 rfl (lv_room (Nat.le_of_ble_eq_true rfl)) dL_law_653 ⟨(by show (100 + 200 * t) + 0 ≤ 600172; omega), (by show (2000 + 1000 * t) + 0 ≤ 7300668; omega)⟩) hS (fun q _ h => hA9 q (Or.inr (wA.mono hS.1 h))) (fun q h => hA9 q (Or.inr (wA.mono hS.1 h))) (fun H3 locs3 hB3 hz3 hk3 hS3 => ?_)
        have hC3 : CW D cy ad τ ν H3 := hC.byL hJ hk3
        have hX3 := xKeep hX hk3 (fun q z => hA9 q (Or.inr (wA.mono hS.1 z)))
        refine lv_istore (lv' := [(15, .int (-3)), (14, .int (nI oq)), (13, .int (nI q)), (10, .int z), (12, .int 1), (0, .ref b), (1, .ref (ad 0 0)), (2, .ref (bd 0 0)), (3, .ref (bd 1 0)), (4, .ref (bd 2 0)), (5, .ref (bd 3 0)), (6, .ref (bd 4 0)), (7, .ref (bd 5 0)), (8, .ref (bd 6 0)), (9, .int (nI t))]) hx hb dL_law_656 hl (by decide) rfl (fun ls hl => ?_)
        refine lv_aload_n hx hb dL_law_658 rfl (lv_at hl 6 rfl) ?_
        refine lv_iload hx hb dL_law_659 (lv_at hl 2 rfl) ?_
        refine lv_iload hx hb dL_law_661 (lv_at hl 1 rfl) ?_
        have hm4 := m_L_visit l hl9 D cy (lZ s.heap.size) H3.size ad τ ν hJ.1 hR.CI (nI q) (nI oq) (idx_page' hq30 hqv) ho9
        rw [cl_nI (n := q) (by omega)] at hm4
        simp only [hrd, Bool.false_eq_true, if_false] at hm4
        refine g_cu1 (vx_runSW (As := [.ref (ad 0 0), .int (nI q), .int (nI oq)]) (rest := []) ⟨hx, hb, hml, hown, hts⟩ hm4 (vx_cwSW 3 hts gL_law_L_visit rfl rfl rfl (by decide +kernel) ⟨Nat.le_of_ble_eq_true rfl, Nat.le_of_ble_eq_true rfl⟩) (x_preS (B := atSz H3.size (CW D cy ad τ ν)) hK hX3 ⟨rfl, hC3⟩) rfl rfl hl.1 rfl (lv_room (Nat.le_of_ble_eq_true rfl)) dL_law_663 ⟨(by show (100 + 200 * t) + 2 ≤ 600172; omega), (by show (2000 + 1000 * t) + 12 ≤ 7300668; omega)⟩) hS3 (fun q _ h => hA9 q (Or.inl (wA.mono hS3.1 h))) (fun q h => hA9 q (Or.inl (wA.mono hS3.1 h))) (fun H4 locs4 hC4 hz4 hk4 hS4 => ?_)
        have hB4 : LW D cy bd ρ κ H4 := hB3.byC hJ hk4
        refine lv_iload hx hb dL_law_666 (lv_at hl 0 rfl) ?_
        refine lv_icmp_ne (tgt := 675) hx hb dL_law_668 (by decide) (fun c_668 => ?_) (fun c_668 => ?_)
        · exact absurd c_668 (by decide)
        · -- 668 f
          refine lv_iconst (v := 1) hx hb dL_law_671 (by decide) ?_
          refine lv_goto (tgt := 676) hx hb dL_law_672 (by decide) ?_
          refine lv_istore (lv' := [(12, .int 1), (15, .int (-3)), (14, .int (nI oq)), (13, .int (nI q)), (10, .int z), (0, .ref b), (1, .ref (ad 0 0)), (2, .ref (bd 0 0)), (3, .ref (bd 1 0)), (4, .ref (bd 2 0)), (5, .ref (bd 3 0)), (6, .ref (bd 4 0)), (7, .ref (bd 5 0)), (8, .ref (bd 6 0)), (9, .int (nI t))]) hx hb dL_law_676 hl (by decide) rfl (fun ls hl => ?_)
          refine W.widen (k := 100 + 200 * t + 20) (n := 2000 + 1000 * t + 160) (by omega) (by omega) ?_
          exact K ad τ ν ρ κ σ μ H4 locs4 ls rfl (hR.up (Nat.le_succ t)) hLR (hP.next rfl) hJ hge (Nat.zero_le _) hC4 hB4 hS4 (lv_sub hl [4, 0, 5, 6, 7, 8, 9, 10, 11, 12, 13, 14] rfl)
    refine lv_iload hx hb dL_law_617 (lv_at hl 1 rfl) ?_
    refine lv_bipush (v := 9) hx hb dL_law_619 (by decide) ?_
    refine lv_ishr hx hb dL_law_621 ?_
    refine lv_bipush (v := 12) hx hb dL_law_622 (by decide) ?_
    refine g_csr (va_runS (As := [.int (z >>> (9 &&& 31)), .int 12]) (rest := []) ⟨hx, hb, hml, hown, hts⟩ (m_L_low l D cy bd ρ κ (z >>> (9 &&& 31)) 12 (by decide)) (va_cwS 2 hts gL_law_L_low rfl rfl rfl (by decide +kernel) ⟨Nat.le_of_ble_eq_true rfl, Nat.le_of_ble_eq_true rfl⟩) (g_preS (B := (fun _ => True)) hK trivial) rfl rfl hl.1 rfl (lv_room (Nat.le_of_ble_eq_true rfl)) dL_law_624 ⟨(by show (100 + 200 * t) + 0 ≤ 600172; omega), (by show (2000 + 1000 * t) + 0 ≤ 7300668; omega)⟩) ?_
    refine lv_if_ne (tgt := 634) hx hb dL_law_627 (by decide) (fun c_627 => ?_) (fun c_627 => ?_)
    · -- 627 t
      refine lv_iload hx hb dL_law_634 (lv_at hl 1 rfl) ?_
      refine lv_bipush (v := 10) hx hb dL_law_636 (by decide) ?_
      refine lv_ishr hx hb dL_law_638 ?_
      refine lv_iconst (v := 3) hx hb dL_law_639 (by decide) ?_
      refine g_csr (va_runS (As := [.int (z >>> (10 &&& 31)), .int 3]) (rest := []) ⟨hx, hb, hml, hown, hts⟩ (m_L_low l D cy bd ρ κ (z >>> (10 &&& 31)) 3 (by decide)) (va_cwS 2 hts gL_law_L_low rfl rfl rfl (by decide +kernel) ⟨Nat.le_of_ble_eq_true rfl, Nat.le_of_ble_eq_true rfl⟩) (g_preS (B := (fun _ => True)) hK trivial) rfl rfl hl.1 rfl (lv_room (Nat.le_of_ble_eq_true rfl)) dL_law_640 ⟨(by show (100 + 200 * t) + 0 ≤ 600172; omega), (by show (2000 + 1000 * t) + 0 ≤ 7300668; omega)⟩) ?_
      obtain ⟨rj, hrj, erj⟩ := low_nI (v := (z >>> (10 &&& 31))) (m := 3) (by decide) (by decide)
      refine lv_topi (fun y5 ey5 => ?_)
      obtain rfl : y5 = nI rj := ey5.trans (erj)
      exact k_643_617 (rj) (by omega)
    · -- 627 f
      refine lv_iconst (v := 3) hx hb dL_law_630 (by decide) ?_
      refine lv_goto (tgt := 643) hx hb dL_law_631 (by decide) ?_
      refine lv_topi (fun y6 ey6 => ?_)
      obtain rfl : y6 = nI 3 := ey6.trans (rfl)
      exact k_643_617 (3) (by omega)
  refine lv_aload hx hb dL_law_573 (lv_at hl 7 rfl) ?_
  refine lv_aload_n hx hb dL_law_575 rfl (lv_at hl 6 rfl) ?_
  refine lv_aload_n hx hb dL_law_576 rfl (lv_at hl 5 rfl) ?_
  refine g_csr (va_runS (As := [.ref (bd 2 0), .ref (bd 1 0), .ref (bd 0 0)]) (rest := []) ⟨hx, hb, hml, hown, hts⟩ (m_L_next l D cy bd ρ κ (μ 0 0) (gP μ) h10 hLR.hG hLR.1.2.2.2.2.2.2.1) (va_cwS 3 hts gL_law_L_next rfl rfl rfl (by decide +kernel) ⟨Nat.le_of_ble_eq_true rfl, Nat.le_of_ble_eq_true rfl⟩) (g_preS (B := (LW D cy bd ρ κ)) hK hB) rfl rfl hl.1 rfl (lv_room (Nat.le_of_ble_eq_true rfl)) dL_law_577 ⟨(by show (100 + 200 * t) + 0 ≤ 600172; omega), (by show (2000 + 1000 * t) + 0 ≤ 7300668; omega)⟩) ?_
  cases hq9 : nxtQ ρ (gP μ) (μ 0 0) none with
  | none =>
    refine lv_topi (fun y7 ey7 => ?_)
    obtain rfl : y7 = (-1) := ey7.trans (rfl)
    refine lv_istore (lv' := [(13, .int (-1)), (10, .int z), (11, .int y), (12, .int 1), (0, .ref b), (1, .ref (ad 0 0)), (2, .ref (bd 0 0)), (3, .ref (bd 1 0)), (4, .ref (bd 2 0)), (5, .ref (bd 3 0)), (6, .ref (bd 4 0)), (7, .ref (bd 5 0)), (8, .ref (bd 6 0)), (9, .int (nI t))]) hx hb dL_law_580 hl (by decide) rfl (fun ls hl => ?_)
    refine lv_iload hx hb dL_law_582 (lv_at hl 0 rfl) ?_
    refine lv_if_lt (tgt := 599) hx hb dL_law_584 (by decide) (fun c_584 => ?_) (fun c_584 => ?_)
    · -- 584 t
      refine lv_iload hx hb dL_law_599 (lv_at hl 1 rfl) ?_
      refine lv_iconst (v := 5) hx hb dL_law_601 (by decide) ?_
      refine lv_ishr hx hb dL_law_602 ?_
      refine lv_aload_n hx hb dL_law_603 rfl (lv_at hl 6 rfl) ?_
      refine lv_bipush (v := 6) hx hb dL_law_604 (by decide) ?_
      refine g_iald (f := ρ 0) (x := nI (μ 0 0)) hx hb hK (hB 0 0 Nat.zero_lt_one) (vp_in_nI (n := 6) (N := 8) (by decide) (by decide)) ((congrArg (ρ 0) (cl_nI (n := 6) (by decide))).trans hLR.1.2.2.2.2.2.2.1) dL_law_606 ?_
      refine g_csr (va_runS (As := [.int (z >>> (5 &&& 31)), .int (nI (μ 0 0))]) (rest := []) ⟨hx, hb, hml, hown, hts⟩ (m_L_low l D cy bd ρ κ (z >>> (5 &&& 31)) (nI (μ 0 0)) (nI_ne0 (by omega) (by omega))) (va_cwS 2 hts gL_law_L_low rfl rfl rfl (by decide +kernel) ⟨Nat.le_of_ble_eq_true rfl, Nat.le_of_ble_eq_true rfl⟩) (g_preS (B := (fun _ => True)) hK trivial) rfl rfl hl.1 rfl (lv_room (Nat.le_of_ble_eq_true rfl)) dL_law_607 ⟨(by show (100 + 200 * t) + 0 ≤ 600172; omega), (by show (2000 + 1000 * t) + 0 ≤ 7300668; omega)⟩) ?_
      refine lv_goto (tgt := 615) hx hb dL_law_610 (by decide) ?_
      obtain ⟨rj, hrj, erj⟩ := low_nI (v := (z >>> (5 &&& 31))) (m := μ 0 0) (by omega) (by omega)
      refine lv_topi (fun y8 ey8 => ?_)
      obtain rfl : y8 = nI rj := ey8.trans (erj)
      exact k_615 (rj) ls (by omega) (lv_sub hl [1, 3, 4, 5, 6, 7, 8, 9, 10, 11, 12, 13] rfl)
    · exact absurd c_584 (by decide)
  | some a9 =>
    have ha9 := nxtQ_lt (n := μ 0 0) _ _ (Nat.le_refl _) (fun _ z => by cases z) _ hq9
    refine lv_topi (fun y9 ey9 => ?_)
    obtain rfl : y9 = nI a9 := ey9.trans (rfl)
    refine lv_istore (lv' := [(13, .int (nI a9)), (10, .int z), (11, .int y), (12, .int 1), (0, .ref b), (1, .ref (ad 0 0)), (2, .ref (bd 0 0)), (3, .ref (bd 1 0)), (4, .ref (bd 2 0)), (5, .ref (bd 3 0)), (6, .ref (bd 4 0)), (7, .ref (bd 5 0)), (8, .ref (bd 6 0)), (9, .int (nI t))]) hx hb dL_law_580 hl (by decide) rfl (fun ls hl => ?_)
    refine lv_iload hx hb dL_law_582 (lv_at hl 0 rfl) ?_
    refine lv_if_lt (tgt := 599) hx hb dL_law_584 (by decide) (fun c_584 => ?_) (fun c_584 => ?_)
    · -- 584 t
      exact absurd c_584 (nI_pos (by omega))
    · -- 584 f
      refine lv_iload hx hb dL_law_587 (lv_at hl 1 rfl) ?_
      refine lv_bipush (v := 13) hx hb dL_law_589 (by decide) ?_
      refine lv_ishr hx hb dL_law_591 ?_
      refine lv_iconst (v := 3) hx hb dL_law_592 (by decide) ?_
      refine g_csr (va_runS (As := [.int (z >>> (13 &&& 31)), .int 3]) (rest := []) ⟨hx, hb, hml, hown, hts⟩ (m_L_low l D cy bd ρ κ (z >>> (13 &&& 31)) 3 (by decide)) (va_cwS 2 hts gL_law_L_low rfl rfl rfl (by decide +kernel) ⟨Nat.le_of_ble_eq_true rfl, Nat.le_of_ble_eq_true rfl⟩) (g_preS (B := (fun _ => True)) hK trivial) rfl rfl hl.1 rfl (lv_room (Nat.le_of_ble_eq_true rfl)) dL_law_593 ⟨(by show (100 + 200 * t) + 0 ≤ 600172; omega), (by show (2000 + 1000 * t) + 0 ≤ 7300668; omega)⟩) ?_
      refine lv_if_ne (tgt := 613) hx hb dL_law_596 (by decide) (fun c_596 => ?_) (fun c_596 => ?_)
      · -- 596 t
        refine lv_iload hx hb dL_law_613 (lv_at hl 0 rfl) ?_
        exact k_615 (a9) ls (by omega) (lv_sub hl [1, 3, 4, 5, 6, 7, 8, 9, 10, 11, 12, 13] rfl)
      · -- 596 f
        refine lv_iload hx hb dL_law_599 (lv_at hl 1 rfl) ?_
        refine lv_iconst (v := 5) hx hb dL_law_601 (by decide) ?_
        refine lv_ishr hx hb dL_law_602 ?_
        refine lv_aload_n hx hb dL_law_603 rfl (lv_at hl 6 rfl) ?_
        refine lv_bipush (v := 6) hx hb dL_law_604 (by decide) ?_
        refine g_iald (f := ρ 0) (x := nI (μ 0 0)) hx hb hK (hB 0 0 Nat.zero_lt_one) (vp_in_nI (n := 6) (N := 8) (by decide) (by decide)) ((congrArg (ρ 0) (cl_nI (n := 6) (by decide))).trans hLR.1.2.2.2.2.2.2.1) dL_law_606 ?_
        refine g_csr (va_runS (As := [.int (z >>> (5 &&& 31)), .int (nI (μ 0 0))]) (rest := []) ⟨hx, hb, hml, hown, hts⟩ (m_L_low l D cy bd ρ κ (z >>> (5 &&& 31)) (nI (μ 0 0)) (nI_ne0 (by omega) (by omega))) (va_cwS 2 hts gL_law_L_low rfl rfl rfl (by decide +kernel) ⟨Nat.le_of_ble_eq_true rfl, Nat.le_of_ble_eq_true rfl⟩) (g_preS (B := (fun _ => True)) hK trivial) rfl rfl hl.1 rfl (lv_room (Nat.le_of_ble_eq_true rfl)) dL_law_607 ⟨(by show (100 + 200 * t) + 0 ≤ 600172; omega), (by show (2000 + 1000 * t) + 0 ≤ 7300668; omega)⟩) ?_
        refine lv_goto (tgt := 615) hx hb dL_law_610 (by decide) ?_
        obtain ⟨rj, hrj, erj⟩ := low_nI (v := (z >>> (5 &&& 31))) (m := μ 0 0) (by omega) (by omega)
        refine lv_topi (fun y10 ey10 => ?_)
        obtain rfl : y10 = nI rj := ey10.trans (erj)
        exact k_615 (rj) ls (by omega) (lv_sub hl [1, 3, 4, 5, 6, 7, 8, 9, 10, 11, 12, 13] rfl)

set_option maxHeartbeats 8000000 in
set_option maxRecDepth 100000 in
/-- the law: finds -/
theorem la_finds {p : Program} {l : Launch} {e : Env} {s : State} {m : MethodId} {below : List Frame} {meth : Method} {c : Code} {b L : Nat} {xs : Nat → Int32} {D : va_G} {cy : Nat → ClassId} {bd : NT} {a0 t : Nat} {z y : Int32} (C : lctx p l s m c b L xs D cy bd) (ht : t < 120)  (K : lgo p l e s m below meth c b D cy bd a0 (t + 1) t 0 (lPot (t + 1)) [(10, .int z), (12, .int 1)] (100 + 200 * t + 20) (2000 + 1000 * t + 160) 678) : lgo p l e s m below meth c b D cy bd a0 t t 0 (lWk t) [(10, .int z), (11, .int y), (12, .int 1)] (100 + 200 * t + 12) (2000 + 1000 * t + 72) 147 := by
  obtain ⟨hx, hb, hml, hown, hts, hK, hX0, hcK, hXs, hbl, hl9, hL260, hbd⟩ := id C
  intro ad τ ν ρ κ σ μ H locs ls ha hR hLR hP hJ hge hg2 hC hB hS hl
  subst ha
  have hl : lv_has ls 16 [(10, .int z), (11, .int y), (12, .int 1), (0, .ref b), (1, .ref (ad 0 0)), (2, .ref (bd 0 0)), (3, .ref (bd 1 0)), (4, .ref (bd 2 0)), (5, .ref (bd 3 0)), (6, .ref (bd 4 0)), (7, .ref (bd 5 0)), (8, .ref (bd 6 0)), (9, .int (nI t))] := hl
  have h10 := hLR.2.1.1
  have h12 := hLR.2.1.2.1
  have hn0 := hR.n0
  have hn1 := hR.n1
  have hX := hX0.kept hS.2.1
  have hA9 : ∀ q, wB (ν 0 0) ad bd s.heap.size q → lZ s.heap.size q := lA_wB hge hbd (Nat.le_refl _)
  refine lv_aload_n hx hb dL_law_147 rfl (lv_at hl 4 rfl) ?_
  refine lv_iload hx hb dL_law_148 (lv_at hl 0 rfl) ?_
  refine lv_bipush (v := 9) hx hb dL_law_150 (by decide) ?_
  refine lv_ishr hx hb dL_law_152 ?_
  refine lv_aload hx hb dL_law_153 (lv_at hl 9 rfl) ?_
  refine lv_aload hx hb dL_law_155 (lv_at hl 11 rfl) ?_
  refine lv_aload hx hb dL_law_157 (lv_at hl 10 rfl) ?_
  refine lv_aload hx hb dL_law_159 (lv_at hl 7 rfl) ?_
  refine lv_aload_n hx hb dL_law_161 rfl (lv_at hl 5 rfl) ?_
  have hm1 := m_L_finds l hl9 D cy (lZ s.heap.size) H.size ad bd τ ν ρ κ σ μ t hR (by omega) hLR hJ (fun q h => hA9 q (wB.mono hS.1 h)) (z >>> (9 &&& 31))
  refine g_cu1 (va_runS (As := [.ref (ad 0 0), .int (z >>> (9 &&& 31)), .ref (bd 4 0), .ref (bd 6 0), .ref (bd 5 0), .ref (bd 2 0), .ref (bd 0 0)]) (rest := []) ⟨hx, hb, hml, hown, hts⟩ hm1 (va_cwS 7 hts gL_law_L_finds rfl rfl rfl (by decide +kernel) ⟨Nat.le_of_ble_eq_true rfl, Nat.le_of_ble_eq_true rfl⟩) (xc_preS (B := atSz H.size (BW D cy ad bd τ ν ρ κ)) hK hX hcK ⟨rfl, hC, hB⟩) rfl rfl hl.1 rfl (lv_room (Nat.le_of_ble_eq_true rfl)) dL_law_162 ⟨(by show (100 + 200 * t + 12) + 6 ≤ 600172; omega), (by show (2000 + 1000 * t + 72) + 86 ≤ 7300668; omega)⟩) hS (fun q _ h => hA9 q (wB.mono hS.1 h)) (fun q h => hA9 q (wB.mono hS.1 h)) (fun H1 locs1 hQ1 hz1 hk1 hS1 => ?_)
  obtain ⟨ad2, τ2, ν2, σ2, μ2, ρ2, κ2, ha2, hown2, hJ2, hR2, hLR2, hσ2, hC2, hB2⟩ := hQ1
  refine lv_if_eq (tgt := 172) hx hb dL_law_165 (by decide) (fun c_165 => ?_) (fun c_165 => ?_)
  · exact absurd c_165 (by decide)
  · -- 165 f
    refine lv_iconst (v := 1) hx hb dL_law_168 (by decide) ?_
    refine lv_goto (tgt := 173) hx hb dL_law_169 (by decide) ?_
    refine lv_istore (lv' := [(12, .int 1), (10, .int z), (11, .int y), (0, .ref b), (1, .ref (ad 0 0)), (2, .ref (bd 0 0)), (3, .ref (bd 1 0)), (4, .ref (bd 2 0)), (5, .ref (bd 3 0)), (6, .ref (bd 4 0)), (7, .ref (bd 5 0)), (8, .ref (bd 6 0)), (9, .int (nI t))]) hx hb dL_law_173 hl (by decide) rfl (fun ls hl => ?_)
    refine lv_goto (tgt := 678) hx hb dL_law_175 (by decide) ?_
    refine W.widen (k := 100 + 200 * t + 20) (n := 2000 + 1000 * t + 160) (by omega) (by omega) ?_
    exact K ad2 τ2 ν2 ρ2 κ2 σ2 μ2 H1 locs1 ls ha2 (hR2.up (Nat.le_succ t)) hLR2 (lWk.next hP hσ2) hJ2 (fun k i hi => hA9 _ (Or.inl (wA.mono hS.1 (hown2 k i hi)))) (Nat.zero_le _) hC2 hB2 hS1 (lv_sub hl [1, 0, 3, 4, 5, 6, 7, 8, 9, 10, 11, 12] rfl)

set_option maxHeartbeats 8000000 in
set_option maxRecDepth 100000 in
/-- the law: types, or none -/
theorem la_types {p : Program} {l : Launch} {e : Env} {s : State} {m : MethodId} {below : List Frame} {meth : Method} {c : Code} {b L : Nat} {xs : Nat → Int32} {D : va_G} {cy : Nat → ClassId} {bd : NT} {a0 t : Nat} {z y : Int32} (C : lctx p l s m c b L xs D cy bd) (ht : t < 120)  (K : lgo p l e s m below meth c b D cy bd a0 t t 0 (lWk t) [(10, .int z), (11, .int y), (12, .int 1)] (100 + 200 * t + 12) (2000 + 1000 * t + 72) 147) : lgo p l e s m below meth c b D cy bd a0 t t 0 (lPot t) [(10, .int z), (11, .int y), (12, .int 1)] (100 + 200 * t) (2000 + 1000 * t) 121 := by
  obtain ⟨hx, hb, hml, hown, hts, hK, hX0, hcK, hXs, hbl, hl9, hL260, hbd⟩ := id C
  intro ad τ ν ρ κ σ μ H locs ls ha hR hLR hP hJ hge hg2 hC hB hS hl
  subst ha
  have hl : lv_has ls 16 [(10, .int z), (11, .int y), (12, .int 1), (0, .ref b), (1, .ref (ad 0 0)), (2, .ref (bd 0 0)), (3, .ref (bd 1 0)), (4, .ref (bd 2 0)), (5, .ref (bd 3 0)), (6, .ref (bd 4 0)), (7, .ref (bd 5 0)), (8, .ref (bd 6 0)), (9, .int (nI t))] := hl
  have h10 := hLR.2.1.1
  have h12 := hLR.2.1.2.1
  have hn0 := hR.n0
  have hn1 := hR.n1
  have hX := hX0.kept hS.2.1
  have hA9 : ∀ q, wB (ν 0 0) ad bd s.heap.size q → lZ s.heap.size q := lA_wB hge hbd (Nat.le_refl _)
  refine lv_iload hx hb dL_law_121 (lv_at hl 0 rfl) ?_
  refine lv_bipush (v := 14) hx hb dL_law_123 (by decide) ?_
  refine lv_ishr hx hb dL_law_125 ?_
  refine lv_iconst (v := 4) hx hb dL_law_126 (by decide) ?_
  refine g_csr (va_runS (As := [.int (z >>> (14 &&& 31)), .int 4]) (rest := []) ⟨hx, hb, hml, hown, hts⟩ (m_L_low l D cy bd ρ κ (z >>> (14 &&& 31)) 4 (by decide)) (va_cwS 2 hts gL_law_L_low rfl rfl rfl (by decide +kernel) ⟨Nat.le_of_ble_eq_true rfl, Nat.le_of_ble_eq_true rfl⟩) (g_preS (B := (fun _ => True)) hK trivial) rfl rfl hl.1 rfl (lv_room (Nat.le_of_ble_eq_true rfl)) dL_law_127 ⟨(by show (100 + 200 * t) + 0 ≤ 600172; omega), (by show (2000 + 1000 * t) + 0 ≤ 7300668; omega)⟩) ?_
  refine lv_if_eq (tgt := 147) hx hb dL_law_130 (by decide) (fun c_130 => ?_) (fun c_130 => ?_)
  · -- 130 t
    refine W.widen (k := 100 + 200 * t + 12) (n := 2000 + 1000 * t + 72) (by omega) (by omega) ?_
    exact K ad τ ν ρ κ σ μ H locs ls rfl hR hLR (lWk.of hP rfl) hJ hge (Nat.zero_le _) hC hB hS (lv_sub hl [0, 1, 2, 3, 4, 5, 6, 7, 8, 9, 10, 11, 12] rfl)
  · -- 130 f
    refine lv_aload_n hx hb dL_law_133 rfl (lv_at hl 4 rfl) ?_
    refine lv_iload hx hb dL_law_134 (lv_at hl 0 rfl) ?_
    refine lv_iconst (v := 5) hx hb dL_law_136 (by decide) ?_
    refine lv_ishr hx hb dL_law_137 ?_
    refine lv_aload hx hb dL_law_138 (lv_at hl 9 rfl) ?_
    refine lv_aload_n hx hb dL_law_140 rfl (lv_at hl 5 rfl) ?_
    have hm1 := m_L_types l hl9 D cy (lZ s.heap.size) H.size ad bd τ ν ρ κ σ μ t hR (by omega) hLR hJ (fun q h => hA9 q (wB.mono hS.1 h)) (z >>> (5 &&& 31))
    refine g_cu1 (va_runS (As := [.ref (ad 0 0), .int (z >>> (5 &&& 31)), .ref (bd 4 0), .ref (bd 0 0)]) (rest := []) ⟨hx, hb, hml, hown, hts⟩ hm1 (va_cwS 4 hts gL_law_L_types rfl rfl rfl (by decide +kernel) ⟨Nat.le_of_ble_eq_true rfl, Nat.le_of_ble_eq_true rfl⟩) (x_preS (B := atSz H.size (BW D cy ad bd τ ν ρ κ)) hK hX ⟨rfl, hC, hB⟩) rfl rfl hl.1 rfl (lv_room (Nat.le_of_ble_eq_true rfl)) dL_law_141 ⟨(by show (100 + 200 * t) + 12 ≤ 600172; omega), (by show (2000 + 1000 * t) + 72 ≤ 7300668; omega)⟩) hS (fun q _ h => hA9 q (wB.mono hS.1 h)) (fun q h => hA9 q (wB.mono hS.1 h)) (fun H1 locs1 hQ1 hz1 hk1 hS1 => ?_)
    obtain ⟨τ2, ν2, σ2, μ2, ρ2, hR2, hLR2, hν2, hσ2, hC2, hB2⟩ := hQ1
    refine lv_if_eq (tgt := 172) hx hb dL_law_144 (by decide) (fun c_144 => ?_) (fun c_144 => ?_)
    · exact absurd c_144 (by decide)
    · -- 144 f
      refine W.widen (k := 100 + 200 * t + 12) (n := 2000 + 1000 * t + 72) (by omega) (by omega) ?_
      exact K ad τ2 ν2 ρ2 κ σ2 μ2 H1 locs1 ls rfl hR2 hLR2 (lWk.of hP hσ2) (by rw [hν2]; exact hJ) (by rw [hν2]; exact hge) (Nat.zero_le _) hC2 hB2 hS1 (lv_sub hl [0, 1, 2, 3, 4, 5, 6, 7, 8, 9, 10, 11, 12] rfl)

set_option maxHeartbeats 8000000 in
set_option maxRecDepth 100000 in
/-- the law: what a turn does -/
theorem la_act {p : Program} {l : Launch} {e : Env} {s : State} {m : MethodId} {below : List Frame} {meth : Method} {c : Code} {b L : Nat} {xs : Nat → Int32} {D : va_G} {cy : Nat → ClassId} {bd : NT} {a0 t : Nat} {z y : Int32} (C : lctx p l s m c b L xs D cy bd) (ht : t < 120) {ac : Nat} (hac : ac < 20) (K121 : lgo p l e s m below meth c b D cy bd a0 t t 0 (lPot t) [(10, .int z), (11, .int (nI ac)), (12, .int 1)] (100 + 200 * t) (2000 + 1000 * t) 121) (K184 : lgo p l e s m below meth c b D cy bd a0 t t 2 (lPot t) [(10, .int z), (11, .int (nI ac)), (12, .int 1)] (100 + 200 * t) (2000 + 1000 * t) 184) (K272 : lgo p l e s m below meth c b D cy bd a0 t t 2 (lPot t) [(10, .int z), (11, .int (nI ac)), (12, .int 1)] (100 + 200 * t) (2000 + 1000 * t) 272) (K342 : lgo p l e s m below meth c b D cy bd a0 t t 2 (lPot t) [(10, .int z), (11, .int (nI ac)), (12, .int 1)] (100 + 200 * t) (2000 + 1000 * t) 342) (K390 : lgo p l e s m below meth c b D cy bd a0 t t 2 (lPot t) [(10, .int z), (11, .int (nI ac)), (12, .int 1)] (100 + 200 * t) (2000 + 1000 * t) 390) (K473 : lgo p l e s m below meth c b D cy bd a0 t t 2 (lPot t) [(10, .int z), (11, .int (nI ac)), (12, .int 1)] (100 + 200 * t) (2000 + 1000 * t) 473) (K573 : lgo p l e s m below meth c b D cy bd a0 t t 2 (lPot t) [(10, .int z), (11, .int (nI ac)), (12, .int 1)] (100 + 200 * t) (2000 + 1000 * t) 573) : lgo p l e s m below meth c b D cy bd a0 t t 0 (lPot t) [(10, .int z), (11, .int (nI ac)), (12, .int 1)] (100 + 200 * t) (2000 + 1000 * t) 107 := by
  obtain ⟨hx, hb, hml, hown, hts, hK, hX0, hcK, hXs, hbl, hl9, hL260, hbd⟩ := id C
  intro ad τ ν ρ κ σ μ H locs ls ha hR hLR hP hJ hge hg2 hC hB hS hl
  subst ha
  have hl : lv_has ls 16 [(10, .int z), (11, .int (nI ac)), (12, .int 1), (0, .ref b), (1, .ref (ad 0 0)), (2, .ref (bd 0 0)), (3, .ref (bd 1 0)), (4, .ref (bd 2 0)), (5, .ref (bd 3 0)), (6, .ref (bd 4 0)), (7, .ref (bd 5 0)), (8, .ref (bd 6 0)), (9, .int (nI t))] := hl
  have h10 := hLR.2.1.1
  have h12 := hLR.2.1.2.1
  have hn0 := hR.n0
  have hn1 := hR.n1
  have hX := hX0.kept hS.2.1
  have hA9 : ∀ q, wB (ν 0 0) ad bd s.heap.size q → lZ s.heap.size q := lA_wB hge hbd (Nat.le_refl _)
  refine lv_iload hx hb dL_law_107 (lv_at hl 1 rfl) ?_
  refine lv_iconst (v := 4) hx hb dL_law_109 (by decide) ?_
  refine lv_icmp_lt (tgt := 121) hx hb dL_law_110 (by decide) (fun c_110 => ?_) (fun c_110 => ?_)
  · -- 110 t
    exact K121 ad τ ν ρ κ σ μ H locs ls rfl hR hLR hP hJ hge (Nat.zero_le _) hC hB hS (lv_sub hl [0, 1, 2, 3, 4, 5, 6, 7, 8, 9, 10, 11, 12] rfl)
  · -- 110 f
    refine lv_aload_n hx hb dL_law_113 rfl (lv_at hl 5 rfl) ?_
    refine lv_bipush (v := 6) hx hb dL_law_114 (by decide) ?_
    refine g_iald (f := ρ 0) (x := nI (μ 0 0)) hx hb hK (hB 0 0 Nat.zero_lt_one) (vp_in_nI (n := 6) (N := 8) (by decide) (by decide)) ((congrArg (ρ 0) (cl_nI (n := 6) (by decide))).trans hLR.1.2.2.2.2.2.2.1) dL_law_116 ?_
    refine lv_iconst (v := 2) hx hb dL_law_117 (by decide) ?_
    refine lv_icmp_ge (tgt := 178) hx hb dL_law_118 (by decide) (fun c_118 => ?_) (fun c_118 => ?_)
    · -- 118 t
      have hg9 : 2 ≤ μ 0 0 := (nI_leI (a := 2) (by decide) (by omega)).mp c_118
      refine lv_iload hx hb dL_law_178 (lv_at hl 1 rfl) ?_
      refine lv_iconst (v := 4) hx hb dL_law_180 (by decide) ?_
      refine lv_icmp_ne (tgt := 266) hx hb dL_law_181 (by decide) (fun c_181 => ?_) (fun c_181 => ?_)
      · -- 181 t
        refine lv_iload hx hb dL_law_266 (lv_at hl 1 rfl) ?_
        refine lv_iconst (v := 5) hx hb dL_law_268 (by decide) ?_
        refine lv_icmp_ne (tgt := 335) hx hb dL_law_269 (by decide) (fun c_269 => ?_) (fun c_269 => ?_)
        · -- 269 t
          refine lv_iload hx hb dL_law_335 (lv_at hl 1 rfl) ?_
          refine lv_bipush (v := 6) hx hb dL_law_337 (by decide) ?_
          refine lv_icmp_ne (tgt := 383) hx hb dL_law_339 (by decide) (fun c_339 => ?_) (fun c_339 => ?_)
          · -- 339 t
            refine lv_iload hx hb dL_law_383 (lv_at hl 1 rfl) ?_
            refine lv_bipush (v := 7) hx hb dL_law_385 (by decide) ?_
            refine lv_icmp_ne (tgt := 466) hx hb dL_law_387 (by decide) (fun c_387 => ?_) (fun c_387 => ?_)
            · -- 387 t
              refine lv_iload hx hb dL_law_466 (lv_at hl 1 rfl) ?_
              refine lv_bipush (v := 11) hx hb dL_law_468 (by decide) ?_
              refine lv_icmp_ge (tgt := 573) hx hb dL_law_470 (by decide) (fun c_470 => ?_) (fun c_470 => ?_)
              · -- 470 t
                exact K573 ad τ ν ρ κ σ μ H locs ls rfl hR hLR hP hJ hge hg9 hC hB hS (lv_sub hl [0, 1, 2, 3, 4, 5, 6, 7, 8, 9, 10, 11, 12] rfl)
              · -- 470 f
                exact K473 ad τ ν ρ κ σ μ H locs ls rfl hR hLR hP hJ hge hg9 hC hB hS (lv_sub hl [0, 1, 2, 3, 4, 5, 6, 7, 8, 9, 10, 11, 12] rfl)
            · -- 387 f
              exact K390 ad τ ν ρ κ σ μ H locs ls rfl hR hLR hP hJ hge hg9 hC hB hS (lv_sub hl [0, 1, 2, 3, 4, 5, 6, 7, 8, 9, 10, 11, 12] rfl)
          · -- 339 f
            exact K342 ad τ ν ρ κ σ μ H locs ls rfl hR hLR hP hJ hge hg9 hC hB hS (lv_sub hl [0, 1, 2, 3, 4, 5, 6, 7, 8, 9, 10, 11, 12] rfl)
        · -- 269 f
          exact K272 ad τ ν ρ κ σ μ H locs ls rfl hR hLR hP hJ hge hg9 hC hB hS (lv_sub hl [0, 1, 2, 3, 4, 5, 6, 7, 8, 9, 10, 11, 12] rfl)
      · -- 181 f
        exact K184 ad τ ν ρ κ σ μ H locs ls rfl hR hLR hP hJ hge hg9 hC hB hS (lv_sub hl [0, 1, 2, 3, 4, 5, 6, 7, 8, 9, 10, 11, 12] rfl)
    · -- 118 f
      exact K121 ad τ ν ρ κ σ μ H locs ls rfl hR hLR hP hJ hge (Nat.zero_le _) hC hB hS (lv_sub hl [0, 1, 2, 3, 4, 5, 6, 7, 8, 9, 10, 11, 12] rfl)

set_option maxHeartbeats 8000000 in
set_option maxRecDepth 100000 in
/-- the law: isSo -/
theorem la_so {p : Program} {l : Launch} {e : Env} {s : State} {m : MethodId} {below : List Frame} {meth : Method} {c : Code} {b L : Nat} {xs : Nat → Int32} {D : va_G} {cy : Nat → ClassId} {bd : NT} {a0 t : Nat} {z y : Int32} (C : lctx p l s m c b L xs D cy bd) (ht : t < 120)  (K : lgo p l e s m below meth c b D cy bd a0 (t + 1) (t + 1) 0 (lPot (t + 1)) [] (100 + 200 * (t + 1)) (2000 + 1000 * (t + 1)) 80) : lgo p l e s m below meth c b D cy bd a0 (t + 1) t 0 (lPot (t + 1)) [(10, .int z), (12, .int 1)] (100 + 200 * t + 20) (2000 + 1000 * t + 160) 678 := by
  obtain ⟨hx, hb, hml, hown, hts, hK, hX0, hcK, hXs, hbl, hl9, hL260, hbd⟩ := id C
  intro ad τ ν ρ κ σ μ H locs ls ha hR hLR hP hJ hge hg2 hC hB hS hl
  subst ha
  have hl : lv_has ls 16 [(10, .int z), (12, .int 1), (0, .ref b), (1, .ref (ad 0 0)), (2, .ref (bd 0 0)), (3, .ref (bd 1 0)), (4, .ref (bd 2 0)), (5, .ref (bd 3 0)), (6, .ref (bd 4 0)), (7, .ref (bd 5 0)), (8, .ref (bd 6 0)), (9, .int (nI t))] := hl
  have h10 := hLR.2.1.1
  have h12 := hLR.2.1.2.1
  have hn0 := hR.n0
  have hn1 := hR.n1
  have hX := hX0.kept hS.2.1
  have hA9 : ∀ q, wB (ν 0 0) ad bd s.heap.size q → lZ s.heap.size q := lA_wB hge hbd (Nat.le_refl _)
  refine lv_iload hx hb dL_law_678 (lv_at hl 1 rfl) ?_
  refine lv_if_eq (tgt := 704) hx hb dL_law_680 (by decide) (fun c_680 => ?_) (fun c_680 => ?_)
  · exact absurd c_680 (by decide)
  · -- 680 f
    refine lv_aload_n hx hb dL_law_683 rfl (lv_at hl 3 rfl) ?_
    refine lv_iload hx hb dL_law_684 (lv_at hl 0 rfl) ?_
    refine lv_iconst (v := 2) hx hb dL_law_686 (by decide) ?_
    refine lv_ishr hx hb dL_law_687 ?_
    refine lv_aload hx hb dL_law_688 (lv_at hl 8 rfl) ?_
    refine lv_aload hx hb dL_law_690 (lv_at hl 10 rfl) ?_
    refine lv_aload hx hb dL_law_692 (lv_at hl 6 rfl) ?_
    refine lv_aload_n hx hb dL_law_694 rfl (lv_at hl 5 rfl) ?_
    refine lv_aload hx hb dL_law_695 (lv_at hl 7 rfl) ?_
    refine lv_aload_n hx hb dL_law_697 rfl (lv_at hl 4 rfl) ?_
    have hm1 := m_L_isSo l hl9 D cy (lZ s.heap.size) H.size ad bd τ ν ρ κ σ μ (t + 1) hR (by omega) hLR hJ (fun q h => hA9 q (wB.mono hS.1 h)) (z >>> (2 &&& 31))
    refine g_cu1 (va_runS (As := [.ref (ad 0 0), .int (z >>> (2 &&& 31)), .ref (bd 4 0), .ref (bd 6 0), .ref (bd 2 0), .ref (bd 1 0), .ref (bd 3 0), .ref (bd 0 0)]) (rest := []) ⟨hx, hb, hml, hown, hts⟩ hm1 (va_cwS 8 hts gL_law_L_isSo rfl rfl rfl (by decide +kernel) ⟨Nat.le_of_ble_eq_true rfl, Nat.le_of_ble_eq_true rfl⟩) (x_preS (B := atSz H.size (BW D cy ad bd τ ν ρ κ)) hK hX ⟨rfl, hC, hB⟩) rfl rfl hl.1 rfl (lv_room (Nat.le_of_ble_eq_true rfl)) dL_law_698 ⟨(by show (100 + 200 * t + 20) + 100 ≤ 600172; omega), (by show (2000 + 1000 * t + 160) + 700 ≤ 7300668; omega)⟩) hS (fun q _ h => hA9 q (wB.mono hS.1 h)) (fun q h => hA9 q (wB.mono hS.1 h)) (fun H1 locs1 hQ1 hz1 hk1 hS1 => ?_)
    obtain ⟨τ2, ρ2, κ2, hR2, hLR2, hC2, hB2⟩ := hQ1
    refine lv_if_ne (tgt := 706) hx hb dL_law_701 (by decide) (fun c_701 => ?_) (fun c_701 => ?_)
    · -- 701 t
      refine lv_iinc (v := nI (t + 1)) (lv' := [(9, .int (nI (t + 1))), (10, .int z), (12, .int 1), (0, .ref b), (1, .ref (ad 0 0)), (2, .ref (bd 0 0)), (3, .ref (bd 1 0)), (4, .ref (bd 2 0)), (5, .ref (bd 3 0)), (6, .ref (bd 4 0)), (7, .ref (bd 5 0)), (8, .ref (bd 6 0))]) hx hb dL_law_706 hl (k := 11) rfl (nI_1 _) (by decide) rfl (fun ls hl => ?_)
      refine lv_goto (tgt := 80) hx hb dL_law_709 (by decide) ?_
      refine W.widen (k := 100 + 200 * (t + 1)) (n := 2000 + 1000 * (t + 1)) (by omega) (by omega) ?_
      exact K ad τ2 ν ρ2 κ2 σ μ H1 locs1 ls rfl hR2 hLR2 (hP.cg hLR hLR2 hR hR2) hJ hge (Nat.zero_le _) hC2 hB2 hS1 (lv_sub hl [3, 4, 5, 6, 7, 8, 9, 10, 11, 0] rfl)
    · exact absurd c_701 (by decide)
