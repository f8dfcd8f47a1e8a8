/-! the law, from its entry -/
theorem CW.keep2 {D : va_G} {cy : Nat → ClassId} {ad : NT} {τ : IT} {ν : NT} {H H1 : Heap} (h : CW D cy ad τ ν H) (hk : ∀ q : Nat, q < H.size → H1[q]? = H[q]?) : CW D cy ad τ ν H1 := h.keep hk
set_option maxHeartbeats 8000000 in
set_option maxRecDepth 100000 in
/-- from the entry, for every script of at most 260 ints, the law comes to its end with true -/
theorem whole_start {p : Program} {e : Env} {s : State} {m : MethodId} {below : List Frame} {meth : Method} {c : Code} (l : Launch) (hflags : l.flags = flags0) {b L : Nat} {xs : Nat → Int32} (hL : L ≤ 260) (C0 : lw_At p s m meth c b L xs) : W p l e room_1 s m #[Value.ref b] below meth c s.heap [] 0 0 (lw_Z below #[Value.ref b] s) (entryFrame m ([Value.ref b] : List Value).toArray 16) := by
  obtain ⟨hx, hb, hr, hml, hown, htsA, hX, hbl, hlocks, hgv⟩ := id C0
  have hts : ∀ w ∈ wsL_law, w.before #[Value.ref b] s = true := fun w h => htsA w (wsL_law_in w h)
  obtain ⟨D, cy, hK⟩ := l_gK htsA
  have hX9 := l_xK htsA hgv
  have hC9 := l_cK htsA
  have hN := l_nK htsA
  have hown : s.vm.findClass RL = some m.cls := hown
  have hl9 : l.stackTraces = false := by
    show (!l.flags.contains noTraceFlag) = false
    rw [hflags]
    decide +kernel
  have hS : va_S (lZ s.heap.size) s.heap s.heap [] := va_S.rf
  have hl := lv_entry ([.ref b]) (n := 16) (Nat.le_of_ble_eq_true rfl)
  rw [lg_entry_eq]
  generalize (lg_sl ([.ref b]) ++ List.replicate (16 - (lg_sl ([.ref b])).length) Slot.unset).toArray = ls at hl ⊢
  have hl : lv_has ls 16 [(0, .ref b)] := hl
  refine g_new (D := D) (cy := cy) (C := RX3) (T := TX3) (N := 9) (ci := 3) (index := 11) (fs := [.null, .null, .null, .int 0, .int 0, .int 0, .int 0, .int 0, .int 0]) hx hb htsA inX3 tyX3 tyX3_ok hown (htsA (.classLink RL 11 RX3) (by decide +kernel)) (htsA (.instantiable RX3 9) (by decide +kernel)) (htsA (.initialized RX3) (by decide +kernel)) hK hS rfl (fun j hj => by match j, hj with | 0, _ => rfl | 1, _ => rfl | 2, _ => rfl | 3, _ => rfl | 4, _ => rfl | 5, _ => rfl | 6, _ => rfl | 7, _ => rfl | 8, _ => rfl | _ + 9, h => exact absurd h (by omega)) (Nat.le_of_ble_eq_true rfl) (Nat.le_of_ble_eq_true rfl) dL_law_0 (fun q1 H1 e1 hc1 z1 o1 hS1 => ?_)
  refine lv_dup hx hb dL_law_3 rfl ?_
  refine g_cu0 (va_runI (As := []) (rest := [.ref q1]) ⟨hx, hb, hml, hown, hts⟩ (m_X3_init l D cy H1.size q1) (cwI 0 hts gL_law_X3_init rfl rfl rfl (htsA (.initialized RX3) (by decide +kernel)) (htsA (.methodLink RL 111 yX3_init) (by decide +kernel)) (htsA (.instanceMethod yX3_init) (by decide +kernel)) rfl (by decide +kernel) ⟨(Nat.le_of_ble_eq_true rfl), (Nat.le_of_ble_eq_true rfl)⟩) (n_preS (As := [.ref q1]) (B := atSz H1.size (fun H => oA D q1 (.inr (3, [.null, .null, .null, .int 0, .int 0, .int 0, .int 0, .int 0, .int 0])) H)) hK hN ⟨rfl, hc1⟩) rfl rfl hl.1 rfl (lv_room (Nat.le_of_ble_eq_true rfl)) dL_law_4 ⟨(Nat.le_of_ble_eq_true rfl), (Nat.le_of_ble_eq_true rfl)⟩) hS1 (fun x _ hx => hx.elim (fun z => by show s.heap.size ≤ x; omega) (fun z => by show s.heap.size ≤ x; omega)) (fun x hx => hx.elim (fun z => by show s.heap.size ≤ x; omega) (fun z => by show s.heap.size ≤ x; omega)) (fun H2 locs2 hB2 hz2 hk2 hS2 => ?_)
  obtain ⟨ad, ha0, hJC, hgeC, hC2⟩ := hB2
  have ltC : ∀ k i, i < cC 0 k → ad k i < H2.size := fun k i hi => wP.lt hC2 hi
  have geC : ∀ k i, i < cC 0 k → s.heap.size ≤ ad k i := fun k i hi => by
    by_cases k0 : k = 0
    · subst k0
      have i0 : i = 0 := Nat.lt_one_iff.mp hi
      subst i0
      omega
    · have := hgeC k i hi k0
      omega
  refine lv_astore_n (lv' := [(1, .ref q1), (0, .ref b)]) hx hb dL_law_7 rfl hl (by decide) rfl (fun ls hl => ?_)
  have hCa : CW D cy ad s0C z0N H2 := hC2
  refine lv_bipush (v := 8) hx hb dL_law_8 (by decide) ?_
  refine g_newa (D := D) (a0 := (8, .inl (fun _ => 0))) (N := 8) (ty := .int) hx hb rfl (htsA (.arrayClass .int) (by decide +kernel)) (hK.2 1 _ rfl).2 hS2 (by rw [vp_cell_i]; rfl) (by decide) (by decide) (by decide) (Nat.le_of_ble_eq_true rfl) (Nat.le_of_ble_eq_true rfl) dL_law_10 (fun r0 H3 e3 hc3 z3 o3 hS3 => ?_)
  refine lv_astore_n (lv' := [(2, .ref r0), (1, .ref q1), (0, .ref b)]) hx hb dL_law_12 rfl hl (by decide) rfl (fun ls hl => ?_)
  refine lv_bipush (v := 9) hx hb dL_law_13 (by decide) ?_
  refine g_newa (D := D) (a0 := (9, .inl (fun _ => 0))) (N := 9) (ty := .int) hx hb rfl (htsA (.arrayClass .int) (by decide +kernel)) (hK.2 1 _ rfl).2 hS3 (by rw [vp_cell_i]; rfl) (by decide) (by decide) (by decide) (Nat.le_of_ble_eq_true rfl) (Nat.le_of_ble_eq_true rfl) dL_law_15 (fun r1 H4 e4 hc4 z4 o4 hS4 => ?_)
  refine lv_astore_n (lv' := [(3, .ref r1), (2, .ref r0), (1, .ref q1), (0, .ref b)]) hx hb dL_law_17 rfl hl (by decide) rfl (fun ls hl => ?_)
  refine lv_bipush (v := 60) hx hb dL_law_18 (by decide) ?_
  refine g_newa (D := D) (a0 := (60, .inl (fun _ => 0))) (N := 60) (ty := .int) hx hb rfl (htsA (.arrayClass .int) (by decide +kernel)) (hK.2 1 _ rfl).2 hS4 (by rw [vp_cell_i]; rfl) (by decide) (by decide) (by decide) (Nat.le_of_ble_eq_true rfl) (Nat.le_of_ble_eq_true rfl) dL_law_20 (fun r2 H5 e5 hc5 z5 o5 hS5 => ?_)
  refine lv_astore (lv' := [(4, .ref r2), (3, .ref r1), (2, .ref r0), (1, .ref q1), (0, .ref b)]) hx hb dL_law_22 hl (by decide) rfl (fun ls hl => ?_)
  refine lv_bipush (v := 10) hx hb dL_law_24 (by decide) ?_
  refine g_newa (D := D) (a0 := (10, .inl (fun _ => 0))) (N := 10) (ty := .int) hx hb rfl (htsA (.arrayClass .int) (by decide +kernel)) (hK.2 1 _ rfl).2 hS5 (by rw [vp_cell_i]; rfl) (by decide) (by decide) (by decide) (Nat.le_of_ble_eq_true rfl) (Nat.le_of_ble_eq_true rfl) dL_law_26 (fun r3 H6 e6 hc6 z6 o6 hS6 => ?_)
  refine lv_astore (lv' := [(5, .ref r3), (4, .ref r2), (3, .ref r1), (2, .ref r0), (1, .ref q1), (0, .ref b)]) hx hb dL_law_28 hl (by decide) rfl (fun ls hl => ?_)
  refine lv_bipush (v := 12) hx hb dL_law_30 (by decide) ?_
  refine g_newa (D := D) (a0 := (12, .inl (fun _ => 0))) (N := 12) (ty := .int) hx hb rfl (htsA (.arrayClass .int) (by decide +kernel)) (hK.2 1 _ rfl).2 hS6 (by rw [vp_cell_i]; rfl) (by decide) (by decide) (by decide) (Nat.le_of_ble_eq_true rfl) (Nat.le_of_ble_eq_true rfl) dL_law_32 (fun r4 H7 e7 hc7 z7 o7 hS7 => ?_)
  refine lv_astore (lv' := [(6, .ref r4), (5, .ref r3), (4, .ref r2), (3, .ref r1), (2, .ref r0), (1, .ref q1), (0, .ref b)]) hx hb dL_law_34 hl (by decide) rfl (fun ls hl => ?_)
  refine lv_bipush (v := 10) hx hb dL_law_36 (by decide) ?_
  refine g_newa (D := D) (a0 := (10, .inr (.inl (fun _ => 0)))) (N := 10) (ty := .long) hx hb rfl (htsA (.arrayClass .long) (by decide +kernel)) (hK.2 5 _ rfl).2 hS7 (by rw [vp_cell_l]; rfl) (by decide) (by decide) (by decide) (Nat.le_of_ble_eq_true rfl) (Nat.le_of_ble_eq_true rfl) dL_law_38 (fun r5 H8 e8 hc8 z8 o8 hS8 => ?_)
  refine lv_astore (lv' := [(7, .ref r5), (6, .ref r4), (5, .ref r3), (4, .ref r2), (3, .ref r1), (2, .ref r0), (1, .ref q1), (0, .ref b)]) hx hb dL_law_40 hl (by decide) rfl (fun ls hl => ?_)
  refine lv_bipush (v := 12) hx hb dL_law_42 (by decide) ?_
  refine g_newa (D := D) (a0 := (12, .inr (.inl (fun _ => 0)))) (N := 12) (ty := .long) hx hb rfl (htsA (.arrayClass .long) (by decide +kernel)) (hK.2 5 _ rfl).2 hS8 (by rw [vp_cell_l]; rfl) (by decide) (by decide) (by decide) (Nat.le_of_ble_eq_true rfl) (Nat.le_of_ble_eq_true rfl) dL_law_44 (fun r6 H9 e9 hc9 z9 o9 hS9 => ?_)
  refine lv_astore (lv' := [(8, .ref r6), (7, .ref r5), (6, .ref r4), (5, .ref r3), (4, .ref r2), (3, .ref r1), (2, .ref r0), (1, .ref q1), (0, .ref b)]) hx hb dL_law_46 hl (by decide) rfl (fun ls hl => ?_)
  obtain ⟨bd, hbd0⟩ : ∃ z : NT, z = fun k _ => if k = 0 then r0 else if k = 1 then r1 else if k = 2 then r2 else if k = 3 then r3 else if k = 4 then r4 else if k = 5 then r5 else r6 := ⟨_, rfl⟩
  have b0 : r0 = bd 0 0 := by rw [hbd0]; rfl
  have b1 : r1 = bd 1 0 := by rw [hbd0]; rfl
  have b2 : r2 = bd 2 0 := by rw [hbd0]; rfl
  have b3 : r3 = bd 3 0 := by rw [hbd0]; rfl
  have b4 : r4 = bd 4 0 := by rw [hbd0]; rfl
  have b5 : r5 = bd 5 0 := by rw [hbd0]; rfl
  have b6 : r6 = bd 6 0 := by rw [hbd0]; rfl
  have hbk : ∀ k, 0 < cL k → bd k 0 = H2.size + k ∧ k < 7 := fun k hk => by
    obtain ⟨-, -, k7⟩ := cL_0 hk
    refine ⟨?_, k7⟩
    have : k = 0 ∨ k = 1 ∨ k = 2 ∨ k = 3 ∨ k = 4 ∨ k = 5 ∨ k = 6 := by omega
    rcases this with rfl | rfl | rfl | rfl | rfl | rfl | rfl <;> omega
  have hz2 : s.heap.size ≤ H2.size := hS2.1
  have hbd : ∀ k, 0 < cL k → s.heap.size ≤ bd k 0 := fun k hk => by have := (hbk k hk).1; omega
  have hJ : J2 (z0N 0 0) ad bd := by
    refine ⟨hJC, fun k i k2 i2 hi hi2 e => ?_, fun k i k2 hi hk2 => ?_⟩
    · obtain ⟨i0, h0, -⟩ := cL_0 hi
      obtain ⟨i20, h20, -⟩ := cL_0 hi2
      subst i0; subst i20
      have := (hbk k h0).1
      have := (hbk k2 h20).1
      exact ⟨by omega, rfl⟩
    · have h1 := ltC k i hi
      have h2 := (hbk k2 hk2).1
      omega
  have hC9' : CW D cy ad s0C z0N H9 := ((((((hCa.keep2 o3).keep2 o4).keep2 o5).keep2 o6).keep2 o7).keep2 o8).keep2 o9
  have k0 : oA D (bd 0 0) (eL cy z0I z0L 0 0) H9 := b0 ▸ ((((((hc3.keep o4).keep o5).keep o6).keep o7).keep o8).keep o9)
  have k1 : oA D (bd 1 0) (eL cy z0I z0L 1 0) H9 := b1 ▸ (((((hc4.keep o5).keep o6).keep o7).keep o8).keep o9)
  have k2 : oA D (bd 2 0) (eL cy z0I z0L 2 0) H9 := b2 ▸ ((((hc5.keep o6).keep o7).keep o8).keep o9)
  have k3 : oA D (bd 3 0) (eL cy z0I z0L 3 0) H9 := b3 ▸ (((hc6.keep o7).keep o8).keep o9)
  have k4 : oA D (bd 4 0) (eL cy z0I z0L 4 0) H9 := b4 ▸ ((hc7.keep o8).keep o9)
  have k5 : oA D (bd 5 0) (eL cy z0I z0L 5 0) H9 := b5 ▸ (hc8.keep o9)
  have k6 : oA D (bd 6 0) (eL cy z0I z0L 6 0) H9 := b6 ▸ hc9
  have hB9 : LW D cy bd z0I z0L H9 := fun k i hi => by
    obtain ⟨i0, -, k7⟩ := cL_0 hi
    subst i0
    have : k = 0 ∨ k = 1 ∨ k = 2 ∨ k = 3 ∨ k = 4 ∨ k = 5 ∨ k = 6 := by omega
    rcases this with rfl | rfl | rfl | rfl | rfl | rfl | rfl
    · exact k0
    · exact k1
    · exact k2
    · exact k3
    · exact k4
    · exact k5
    · exact k6
  have C : lctx p l s m c b L xs D cy bd := ⟨hx, hb, hml, hown, hts, hK, hX9, hC9, hX, hbl, hl9, hL, hbd⟩
  refine W.widen (k := 100 + 200 * 0) (n := 2000 + 1000 * 0) (by omega) (by omega) ?_
  subst ha0; subst b0; subst b1; subst b2; subst b3; subst b4; subst b5; subst b6
  exact l_48 C (l_loop C hr hlocks 120 0 rfl) hJ geC hC9' hB9 hS9 (lv_sub hl [8, 7, 6, 5, 4, 3, 2, 1, 0] rfl)
