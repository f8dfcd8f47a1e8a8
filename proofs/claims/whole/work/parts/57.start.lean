/-! the law, from its entry -/
theorem cM_0 {k i : Nat} (h : i < cM k) : i = 0 ∧ 0 < cM k := by
  have : cM k ≤ 1 := by unfold cM; split <;> decide
  omega
set_option maxHeartbeats 4000000 in
set_option maxRecDepth 100000 in
/-- from the entry, for every script of at most 1536 ints, the law comes to its end with true -/
theorem whole_start {p : Program} {e : Env} {s : State} {m : MethodId} {below : List Frame} {meth : Method} {c : Code} (l : Launch) (hflags : l.flags = flags0) {b L : Nat} {xs : Nat → Int32} (hL : L ≤ 1536) (C0 : lw_At p s m meth c b L xs) : W p l e room_1 s m #[Value.ref b] below meth c s.heap [] 0 0 (lw_Z below #[Value.ref b] s) (entryFrame m ([Value.ref b] : List Value).toArray 7) := by
  obtain ⟨hx, hb, hr, hml, hown, htsA, hX, hbl, hlocks, hgv⟩ := id C0
  have hts : ∀ w ∈ wsL_law, w.before #[Value.ref b] s = true := fun w h => htsA w (wsL_law_in w h)
  obtain ⟨D, cy, hK⟩ := l_gK htsA
  have hY := l_yK htsA hgv
  have hC9 := l_cK htsA
  have hN := l_nK htsA
  have hown : s.vm.findClass RL = some m.cls := hown
  have hl9 : l.stackTraces = false := by
    show (!l.flags.contains noTraceFlag) = false
    rw [hflags]
    decide +kernel
  have C : lctx p l s m c b L xs D cy := ⟨hx, hb, hml, hown, hts, hK, hY, hC9, hX, hbl, hl9⟩
  have hS : va_S (lA s.heap.size) s.heap s.heap [] := va_S.rf
  have hl := lv_entry ([.ref b]) (n := 7) (Nat.le_of_ble_eq_true rfl)
  rw [lg_entry_eq]
  generalize (lg_sl ([.ref b]) ++ List.replicate (7 - (lg_sl ([.ref b])).length) Slot.unset).toArray = ls at hl ⊢
  have hl : lv_has ls 7 [(0, .ref b)] := hl
  refine g_new (D := D) (cy := cy) (C := RX3) (T := TX3) (N := 9) (ci := 3) (index := 8) (fs := [.null, .null, .null, .int 0, .int 0, .int 0, .int 0, .int 0, .int 0]) hx hb htsA inX3 tyX3 tyX3_ok hown (htsA (.classLink RL 8 RX3) (by decide +kernel)) (htsA (.instantiable RX3 9) (by decide +kernel)) (htsA (.initialized RX3) (by decide +kernel)) hK hS rfl (fun j hj => by match j, hj with | 0, _ => rfl | 1, _ => rfl | 2, _ => rfl | 3, _ => rfl | 4, _ => rfl | 5, _ => rfl | 6, _ => rfl | 7, _ => rfl | 8, _ => rfl | _ + 9, h => exact absurd h (by omega)) (Nat.le_of_ble_eq_true rfl) (Nat.le_of_ble_eq_true rfl) dL_law_0 (fun q1 H1 e1 hc1 z1 o1 hS1 => ?_)
  refine lv_dup hx hb dL_law_3 rfl ?_
  refine g_cu0 (va_runI (As := []) (rest := [.ref q1]) ⟨hx, hb, hml, hown, hts⟩ (m_X3_init l D cy H1.size q1) (cwI 0 hts gL_law_X3_init rfl rfl rfl (htsA (.initialized RX3) (by decide +kernel)) (htsA (.methodLink RL 65 yX3_init) (by decide +kernel)) (htsA (.instanceMethod yX3_init) (by decide +kernel)) rfl (by decide +kernel) ⟨(Nat.le_of_ble_eq_true rfl), (Nat.le_of_ble_eq_true rfl)⟩) (n_preS (As := [.ref q1]) (B := atSz H1.size (fun H => oA D q1 (.inr (3, [.null, .null, .null, .int 0, .int 0, .int 0, .int 0, .int 0, .int 0])) H)) hK hN ⟨rfl, hc1⟩) rfl rfl hl.1 rfl (lv_room (Nat.le_of_ble_eq_true rfl)) dL_law_4 ⟨(Nat.le_of_ble_eq_true rfl), (Nat.le_of_ble_eq_true rfl)⟩) hS1 (fun x _ hx => hx.elim (fun z => by show s.heap.size ≤ x; omega) (fun z => by show s.heap.size ≤ x; omega)) (fun x hx => hx.elim (fun z => by show s.heap.size ≤ x; omega) (fun z => by show s.heap.size ≤ x; omega)) (fun H2 locs2 hB2 hz2 hk2 hS2 => ?_)
  obtain ⟨adC, ha0, hJC, hgeC, hC2⟩ := hB2
  have ltC : ∀ k i, i < cC 0 k → adC k i < H2.size := fun k i hi => wP.lt hC2 hi
  have geC : ∀ k i, i < cC 0 k → s.heap.size ≤ adC k i := fun k i hi => by
    by_cases k0 : k = 0
    · subst k0
      have i0 : i = 0 := Nat.lt_one_iff.mp hi
      subst i0
      omega
    · have := hgeC k i hi k0
      omega
  refine lv_astore_n (lv' := [(1, .ref q1), (0, .ref b)]) hx hb dL_law_7 rfl hl (by decide) rfl (fun ls hl => ?_)
  refine g_new (D := D) (cy := cy) (C := RX4) (T := TX4) (N := 26) (ci := 4) (index := 66) (fs := [.int 0, .int 0, .int 0, .null, .null, .null, .null, .int 0, .int 0, .int 0, .int 0, .int 0, .int 0, .null, .null, .null, .null, .null, .null, .null, .null, .null, .int 0, .null, .null, .null]) hx hb htsA inX4 tyX4 tyX4_ok hown (htsA (.classLink RL 66 RX4) (by decide +kernel)) (htsA (.instantiable RX4 26) (by decide +kernel)) (htsA (.initialized RX4) (by decide +kernel)) hK hS2 rfl (fun j hj => by match j, hj with | 0, _ => rfl | 1, _ => rfl | 2, _ => rfl | 3, _ => rfl | 4, _ => rfl | 5, _ => rfl | 6, _ => rfl | 7, _ => rfl | 8, _ => rfl | 9, _ => rfl | 10, _ => rfl | 11, _ => rfl | 12, _ => rfl | 13, _ => rfl | 14, _ => rfl | 15, _ => rfl | 16, _ => rfl | 17, _ => rfl | 18, _ => rfl | 19, _ => rfl | 20, _ => rfl | 21, _ => rfl | 22, _ => rfl | 23, _ => rfl | 24, _ => rfl | 25, _ => rfl | _ + 26, h => exact absurd h (by omega)) (Nat.le_of_ble_eq_true rfl) (Nat.le_of_ble_eq_true rfl) dL_law_8 (fun q2 H3 e3 hc3 z3 o3 hS3 => ?_)
  have hC3 := hC2.keep o3
  refine lv_dup hx hb dL_law_11 rfl ?_
  refine g_cu0 (va_runI (As := []) (rest := [.ref q2]) ⟨hx, hb, hml, hown, hts⟩ (m_X4_init l D cy H3.size q2) (cwI 0 hts gL_law_X4_init rfl rfl rfl (htsA (.initialized RX4) (by decide +kernel)) (htsA (.methodLink RL 68 yX4_init) (by decide +kernel)) (htsA (.instanceMethod yX4_init) (by decide +kernel)) rfl (by decide +kernel) ⟨(Nat.le_of_ble_eq_true rfl), (Nat.le_of_ble_eq_true rfl)⟩) (g_preS (As := [.ref q2]) (B := atSz H3.size (fun H => oA D q2 (.inr (4, [.int 0, .int 0, .int 0, .null, .null, .null, .null, .int 0, .int 0, .int 0, .int 0, .int 0, .int 0, .null, .null, .null, .null, .null, .null, .null, .null, .null, .int 0, .null, .null, .null])) H)) hK ⟨rfl, hc3⟩) rfl rfl hl.1 rfl (lv_room (Nat.le_of_ble_eq_true rfl)) dL_law_12 ⟨(Nat.le_of_ble_eq_true rfl), (Nat.le_of_ble_eq_true rfl)⟩) hS3 (fun x _ hx => hx.elim (fun z => by show s.heap.size ≤ x; omega) (fun z => by show s.heap.size ≤ x; omega)) (fun x hx => hx.elim (fun z => by show s.heap.size ≤ x; omega) (fun z => by show s.heap.size ≤ x; omega)) (fun H4 locs4 hB4 hz4 hk4 hS4 => ?_)
  obtain ⟨adM, hm0, hJM, hgeM, hM4⟩ := hB4
  have hC4 : CW D cy adC s0C (fun _ _ => 0) H4 := wP.kept hC3 (fun k i hi => hk4 _ (wP.lt hC3 hi) (fun z => by
    have h1 := ltC k i hi
    rcases z with z | z <;> omega))
  have ltM : ∀ k i, i < cM k → adM k i < H4.size := fun k i hi => wP.lt hM4 hi
  have geM : ∀ k i, i < cM k → H2.size ≤ adM k i := fun k i hi => by
    obtain ⟨i0, hk0⟩ := cM_0 hi
    subst i0
    by_cases k0 : k = 0
    · subst k0; omega
    · have := hgeM k hk0 k0
      omega
  refine lv_astore_n (lv' := [(2, .ref q2), (1, .ref q1), (0, .ref b)]) hx hb dL_law_15 rfl hl (by decide) rfl (fun ls hl => ?_)
  refine lv_iconst (v := 1) hx hb dL_law_16 (by decide) ?_
  refine g_newa (D := D) (a0 := (1, .inr (.inl (fun _ => 0)))) (N := 1) (ty := .long) hx hb rfl (htsA (.arrayClass .long) (by decide +kernel)) (hK.2 5 _ rfl).2 hS4 (by rw [vp_cell_l]; rfl) (by decide) (by decide) (by decide) (Nat.le_of_ble_eq_true rfl) (Nat.le_of_ble_eq_true rfl) dL_law_17 (fun o H5 e5 hc5 z5 o5 hS5 => ?_)
  have hC5 := hC4.keep o5
  have hM5 : MW D cy adM s0M (fun _ _ => 0) H5 := wP.kept hM4 (fun k i hi => o5 _ (ltM k i hi))
  have hO5 : outE D cy o 0 H5 := ⟨fun _ => 0, rfl, hc5⟩
  refine lv_astore_n (lv' := [(3, .ref o), (2, .ref q2), (1, .ref q1), (0, .ref b)]) hx hb dL_law_19 rfl hl (by decide) rfl (fun ls hl => ?_)
  refine lv_iconst (v := nI (3 * 0)) hx hb dL_law_20 (by decide) ?_
  refine lv_istore (lv' := [(4, .int (nI (3 * 0))), (3, .ref o), (2, .ref q2), (1, .ref q1), (0, .ref b)]) hx hb dL_law_21 hl (by decide) rfl (fun ls hl => ?_)
  have hz3 : H2.size ≤ H4.size := by omega
  have hz2b : s.heap.size ≤ H2.size := by omega
  have hJ : lJ s.heap.size 0 adC adM o := by
    refine ⟨hJC, hJM, fun k i hi => ⟨geC k i hi, ?_, fun k2 i2 hi2 => ?_⟩, fun k i hi => ⟨?_, ?_⟩, ?_⟩
    · have := ltC k i hi; omega
    · have h1 := ltC k i hi
      have h2 := geM k2 i2 hi2
      omega
    · have := geM k i hi; omega
    · have := ltM k i hi; omega
    · omega
  subst hm0
  refine W.widen (k := 100 + 6 * 0) (n := 2000 + 86 * 0) (by omega) (by omega) ?_
  exact l_loop (a0 := q1) C hr hlocks hL 512 0 (by omega) (by decide) adC s0C (fun _ _ => 0) s0M (fun _ _ => 0) 0 H5 _ ls ha0 Rel_0 hJ hC5 hO5 hM5 hS5 (lv_sub hl [4, 3, 2, 1, 0] rfl)
