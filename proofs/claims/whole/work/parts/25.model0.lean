/-! PolitecrawlModel made -/
theorem mk_up5 {fz : Nat → Int32} {iz : Nat} (hf : ∀ j, j < 6 → fz j = if j < iz then 5 else 0) {j : Nat} (hj : j < 6) : upd fz iz 5 j = if j < iz + 1 then 5 else 0 := by
  by_cases e : j = iz
  · subst e; simp [upd]
  · have h1 : upd fz iz 5 j = fz j := by simp [upd, e]
    rw [h1, hf j hj]
    by_cases q : j < iz
    · rw [if_pos q, if_pos (by omega)]
    · rw [if_neg q, if_neg (by omega)]
/-- the model at the start -/
def s0M : IT := fun k i => if k = 7 then 5 else if k = 1 then 10 else if k = 2 then 500 else if k = 3 then 20 else 0

def mk_ix : Nat → Nat := fun k => if k = 6 then 0 else if k = 7 then 1 else if k = 8 then 2 else if k = 9 then 3 else if k = 18 then 4 else if k = 17 then 5 else if k = 16 then 6 else if k = 10 then 7 else if k = 11 then 8 else if k = 12 then 9 else if k = 13 then 10 else if k = 14 then 11 else if k = 15 then 12 else if k = 34 then 13 else if k = 35 then 14 else if k = 36 then 15 else 0
def mk_iv : Nat → Nat := fun j => if j = 0 then 6 else if j = 1 then 7 else if j = 2 then 8 else if j = 3 then 9 else if j = 4 then 18 else if j = 5 then 17 else if j = 6 then 16 else if j = 7 then 10 else if j = 8 then 11 else if j = 9 then 12 else if j = 10 then 13 else if j = 11 then 14 else if j = 12 then 15 else if j = 13 then 34 else if j = 14 then 35 else if j = 15 then 36 else 0
def mk_adM (a sz : Nat) : NT := fun k _ => if k = 0 then a else sz + mk_ix k
theorem mk_M {D : va_G} {cy : Nat → ClassId} {H : Heap} {a sz : Nat} (ha : a < sz) (hobj : oA D a (.inr (4, [.int 0, .int 0, .int 0, .ref (sz + 0), .ref (sz + 1), .ref (sz + 2), .ref (sz + 3), .int 10, .int 500, .int 20, .int 0, .int 0, .int 0, .ref (sz + 4), .ref (sz + 5), .ref (sz + 6), .ref (sz + 7), .ref (sz + 8), .ref (sz + 9), .ref (sz + 10), .ref (sz + 11), .ref (sz + 12), .int 0, .ref (sz + 13), .ref (sz + 14), .ref (sz + 15)])) H)
    (h6 : oA D (sz + 0) (.inl (cy 1, 30, .inl (fun _ => 0))) H)
    (h7 : oA D (sz + 1) (.inl (cy 1, 6, .inl (fun _ => 5))) H)
    (h8 : oA D (sz + 2) (.inl (cy 1, 6, .inl (fun _ => 0))) H)
    (h9 : oA D (sz + 3) (.inl (cy 1, 6, .inl (fun _ => 0))) H)
    (h18 : oA D (sz + 4) (.inl (cy 1, 900, .inl (fun _ => 0))) H)
    (h17 : oA D (sz + 5) (.inl (cy 1, 30, .inl (fun _ => 0))) H)
    (h16 : oA D (sz + 6) (.inl (cy 1, 30, .inl (fun _ => 0))) H)
    (h10 : oA D (sz + 7) (.inl (cy 1, 30, .inl (fun _ => 0))) H)
    (h11 : oA D (sz + 8) (.inl (cy 1, 30, .inl (fun _ => 0))) H)
    (h12 : oA D (sz + 9) (.inl (cy 1, 30, .inl (fun _ => 0))) H)
    (h13 : oA D (sz + 10) (.inl (cy 1, 30, .inl (fun _ => 0))) H)
    (h14 : oA D (sz + 11) (.inl (cy 2, 30, .inl (fun _ => 0))) H)
    (h15 : oA D (sz + 12) (.inl (cy 2, 30, .inl (fun _ => 0))) H)
    (h34 : oA D (sz + 13) (.inl (cy 1, 15, .inl (fun _ => 0))) H)
    (h35 : oA D (sz + 14) (.inl (cy 1, 15, .inl (fun _ => 0))) H)
    (h36 : oA D (sz + 15) (.inl (cy 1, 30, .inl (fun _ => 0))) H) :
    ∃ ad : NT, ad 0 0 = a ∧ wJ cM ad ∧ (∀ k, 0 < cM k → k ≠ 0 → sz ≤ ad k 0) ∧ MW D cy ad s0M (fun _ _ => 0) H := by
  have hv : ∀ k, 0 < cM k → k = 0 ∨ k = 6 ∨ k = 7 ∨ k = 8 ∨ k = 9 ∨ k = 10 ∨ k = 11 ∨ k = 12 ∨ k = 13 ∨ k = 14 ∨ k = 15 ∨ k = 16 ∨ k = 17 ∨ k = 18 ∨ k = 34 ∨ k = 35 ∨ k = 36 := by
    intro k hk
    have hk1 : k = 0 ∨ (6 ≤ k ∧ k ≤ 18) ∨ (34 ≤ k ∧ k ≤ 36) := by
      unfold cM at hk
      by_cases c : k = 0 ∨ (6 ≤ k ∧ k ≤ 18) ∨ (34 ≤ k ∧ k ≤ 36)
      · exact c
      · rw [if_neg c] at hk; exact absurd hk (Nat.lt_irrefl 0)
    omega
  have hiv : ∀ k, 0 < cM k → k ≠ 0 → mk_iv (mk_ix k) = k := by
    intro k hk h0
    rcases hv k hk with rfl | rfl | rfl | rfl | rfl | rfl | rfl | rfl | rfl | rfl | rfl | rfl | rfl | rfl | rfl | rfl | rfl <;> first | rfl | exact absurd rfl h0
  have h1 : ∀ k i, i < cM k → i = 0 ∧ 0 < cM k := by
    intro k i hi
    have : cM k ≤ 1 := by unfold cM; split <;> decide
    omega
  refine ⟨mk_adM a sz, rfl, ?_, ?_, ?_⟩
  · intro k i k' i' hi hi' e
    obtain ⟨rfl, hk⟩ := h1 k i hi
    obtain ⟨rfl, hk'⟩ := h1 k' i' hi'
    refine ⟨?_, rfl⟩
    simp only [mk_adM] at e
    by_cases c : k = 0
    · by_cases c' : k' = 0
      · rw [c, c']
      · rw [if_pos c, if_neg c'] at e; omega
    · by_cases c' : k' = 0
      · rw [if_neg c, if_pos c'] at e; omega
      · rw [if_neg c, if_neg c'] at e
        rw [← hiv k hk c, ← hiv k' hk' c', Nat.add_left_cancel e]
  · intro k hk h0
    simp only [mk_adM, if_neg h0]
    omega
  · intro k i hi
    obtain ⟨rfl, hk⟩ := h1 k i hi
    rcases hv k hk with rfl | rfl | rfl | rfl | rfl | rfl | rfl | rfl | rfl | rfl | rfl | rfl | rfl | rfl | rfl | rfl | rfl
    · have e0 : nI 0 = 0 := nI_0
      show oA D a (.inr (4, [.int 0, .int 0, .int (nI 0), .ref (sz + 0), .ref (sz + 1), .ref (sz + 2), .ref (sz + 3), .int 10, .int 500, .int 20, .int 0, .int 0, .int (nI 0), .ref (sz + 4), .ref (sz + 5), .ref (sz + 6), .ref (sz + 7), .ref (sz + 8), .ref (sz + 9), .ref (sz + 10), .ref (sz + 11), .ref (sz + 12), .int (nI 0), .ref (sz + 13), .ref (sz + 14), .ref (sz + 15)])) H
      rw [e0]
      exact hobj
    · exact h6
    · exact h7
    · exact h8
    · exact h9
    · exact h10
    · exact h11
    · exact h12
    · exact h13
    · exact h14
    · exact h15
    · have e0 : nI 0 = 0 := nI_0
      show oA D (sz + 6) (.inl (cy 1, 30, .inl (fun _ => nI 0))) H
      rw [e0]
      exact h16
    · have e0 : nI 0 = 0 := nI_0
      show oA D (sz + 5) (.inl (cy 1, 30, .inl (fun _ => nI 0))) H
      rw [e0]
      exact h17
    · exact h18
    · have e0 : nI 0 = 0 := nI_0
      show oA D (sz + 13) (.inl (cy 1, 15, .inl (fun _ => nI 0))) H
      rw [e0]
      exact h34
    · have e0 : nI 0 = 0 := nI_0
      show oA D (sz + 14) (.inl (cy 1, 15, .inl (fun _ => nI 0))) H
      rw [e0]
      exact h35
    · exact h36

set_option maxHeartbeats 4000000 in
set_option maxRecDepth 100000 in
/-- X4_init -/
theorem m_X4_init (l : Launch) (D : va_G) (cy : Nat → ClassId) (sz : Nat) (a : Nat) : Met l yX4_init wsX4_init ({ frames := 1, cells := 16, slots := 1248, locals := 30 } : Room) (va_Pc [.ref a] (fun U => gK D cy U ∧ (atSz sz (fun H => oA D a (.inr (4, [.int 0, .int 0, .int 0, .null, .null, .null, .null, .int 0, .int 0, .int 0, .int 0, .int 0, .int 0, .null, .null, .null, .null, .null, .null, .null, .null, .null, .int 0, .null, .null, .null])) H)) U.heap)) (uQ none (fun H => ∃ ad : NT, ad 0 0 = a ∧ wJ cM ad ∧ (∀ k, 0 < cM k → k ≠ 0 → sz ≤ ad k 0) ∧ MW D cy ad s0M (fun _ _ => 0) H) (nA a sz)) 16 1248 (nA a sz) := by
  refine Met.ofW (cc := cX4_init) (maxL := 2) (ret := none) (by decide) rfl ?_
  intro p e s m args below meth c s₁ B9 hml hv
  obtain ⟨rfl, hK, hsz, hB⟩ := hv
  have hx := B9.exec
  have hb := B9.bytes
  have hr := B9.returns
  have hts := atoms_spec (ws := wsX4_init) B9.pre
  have hown : s.vm.findClass RX4 = some m.cls := findClass_of_methodNamed B9.named
  have hlocks := B9.notSynchronized
  have hin9 : meth.name = "<init>" := (name_of_methodNamed B9.named B9.method).1
  subst hsz
  have hS : va_S (nA a s.heap.size) s.heap s.heap [] := va_S.rf
  have lk7 := hts (.fieldLink RX4 7 "PolitecrawlModel" "buffer" "[I") (by decide +kernel)
  have inX4 : ∀ w ∈ u_ws RX4 TX4 26, w ∈ wsX4_init := by decide +kernel
  have lk13 := hts (.fieldLink RX4 13 "PolitecrawlModel" "rest" "[I") (by decide +kernel)
  have lk16 := hts (.fieldLink RX4 16 "PolitecrawlModel" "failures" "[I") (by decide +kernel)
  have lk19 := hts (.fieldLink RX4 19 "PolitecrawlModel" "openFrom" "[I") (by decide +kernel)
  have lk22 := hts (.fieldLink RX4 22 "PolitecrawlModel" "shortest" "I") (by decide +kernel)
  have lk26 := hts (.fieldLink RX4 26 "PolitecrawlModel" "longest" "I") (by decide +kernel)
  have lk29 := hts (.fieldLink RX4 29 "PolitecrawlModel" "budget" "I") (by decide +kernel)
  have lk32 := hts (.fieldLink RX4 32 "PolitecrawlModel" "text" "[I") (by decide +kernel)
  have lk35 := hts (.fieldLink RX4 35 "PolitecrawlModel" "size" "[I") (by decide +kernel)
  have lk38 := hts (.fieldLink RX4 38 "PolitecrawlModel" "host" "[I") (by decide +kernel)
  have lk41 := hts (.fieldLink RX4 41 "PolitecrawlModel" "rank" "[I") (by decide +kernel)
  have lk44 := hts (.fieldLink RX4 44 "PolitecrawlModel" "due" "[I") (by decide +kernel)
  have lk47 := hts (.fieldLink RX4 47 "PolitecrawlModel" "visits" "[I") (by decide +kernel)
  have lk50 := hts (.fieldLink RX4 50 "PolitecrawlModel" "changes" "[I") (by decide +kernel)
  have lk53 := hts (.fieldLink RX4 53 "PolitecrawlModel" "gone" "[Z") (by decide +kernel)
  have lk57 := hts (.fieldLink RX4 57 "PolitecrawlModel" "lost" "[Z") (by decide +kernel)
  have lk60 := hts (.fieldLink RX4 60 "PolitecrawlModel" "begin" "[I") (by decide +kernel)
  have lk63 := hts (.fieldLink RX4 63 "PolitecrawlModel" "many" "[I") (by decide +kernel)
  have lk66 := hts (.fieldLink RX4 66 "PolitecrawlModel" "shares" "[I") (by decide +kernel)
  have hl := lv_entry ([.ref a]) (n := 2) (Nat.le_of_ble_eq_true rfl)
  rw [lg_entry_eq]
  generalize (lg_sl ([.ref a]) ++ List.replicate (2 - (lg_sl ([.ref a])).length) Slot.unset).toArray = ls at hl ⊢
  have hl : lv_has ls 2 [(0, .ref a)] := hl
  have ha9 : a < s.heap.size := va_at.lt hB
  refine lv_aload_n hx hb dX4_init_0 rfl (lv_at hl 0 rfl) ?_
  refine W.objInit hx hb hown (hts (.methodLink RX4 1 objectInit) (by decide +kernel)) (hts (.instanceMethod objectInit) (by decide +kernel)) (hts (.code objectInit ⟨#[0xb1]⟩ 1 none) (by decide +kernel)) rfl (by rw [hml]; exact hl.1) rfl dX4_init_1 (Nat.le_of_ble_eq_true rfl) (Nat.le_of_ble_eq_true rfl) ?_
  refine W.eq (g2 := F0 m 4 ls []) rfl ?_
  refine lv_aload_n hx hb dX4_init_4 rfl (lv_at hl 0 rfl) ?_
  refine lv_bipush (v := 30) hx hb dX4_init_5 (by decide) ?_
  refine g_newa (D := D) (a0 := (30, .inl (fun _ => 0))) (N := 30) (ty := .int) hx hb rfl (hts (.arrayClass .int) (by decide +kernel)) (hK.2 1 _ rfl).2 hS (by rw [vp_cell_i]; rfl) (by decide) (by decide) (by decide) (Nat.le_of_ble_eq_true rfl) (Nat.le_of_ble_eq_true rfl) dX4_init_7 (fun q6 H1 e1 hc1 z1 o1 hS1 => ?_)
  have h_a_1 := oA.keep hB o1
  refine g_putF (C := RX4) (T := TX4) (N := 26) (ci := 4) (fs := [.int 0, .int 0, .int 0, .null, .null, .null, .null, .int 0, .int 0, .int 0, .int 0, .int 0, .int 0, .null, .null, .null, .null, .null, .null, .null, .null, .null, .int 0, .null, .null, .null]) (A := (nA a s.heap.size)) hx hb hts inX4 tyX4 tyX4_ok nmX4 hown hK h_a_1 rfl hS1 (Or.inl rfl) 3 (by decide) lk7 rfl rfl hin9 rfl rfl rfl (Nat.le_of_ble_eq_true rfl) dX4_init_9 (fun H2 locs2 hc2 hu2 hS2 => ?_)
  have h_q6_2 := hc1.off hu2 (by omega)
  have zz2 := hu2.1
  refine lv_aload_n hx hb dX4_init_12 rfl (lv_at hl 0 rfl) ?_
  refine lv_bipush (v := 6) hx hb dX4_init_13 (by decide) ?_
  refine g_newa (D := D) (a0 := (6, .inl (fun _ => 0))) (N := 6) (ty := .int) hx hb rfl (hts (.arrayClass .int) (by decide +kernel)) (hK.2 1 _ rfl).2 hS2 (by rw [vp_cell_i]; rfl) (by decide) (by decide) (by decide) (Nat.le_of_ble_eq_true rfl) (Nat.le_of_ble_eq_true rfl) dX4_init_15 (fun q7 H3 e3 hc3 z3 o3 hS3 => ?_)
  have h_a_3 := oA.keep hc2 o3
  have h_q6_3 := oA.keep h_q6_2 o3
  refine g_putF (C := RX4) (T := TX4) (N := 26) (ci := 4) (fs := [.int 0, .int 0, .int 0, .ref q6, .null, .null, .null, .int 0, .int 0, .int 0, .int 0, .int 0, .int 0, .null, .null, .null, .null, .null, .null, .null, .null, .null, .int 0, .null, .null, .null]) (A := (nA a s.heap.size)) hx hb hts inX4 tyX4 tyX4_ok nmX4 hown hK h_a_3 rfl hS3 (Or.inl rfl) 4 (by decide) lk13 rfl rfl hin9 rfl rfl rfl (Nat.le_of_ble_eq_true rfl) dX4_init_17 (fun H4 locs4 hc4 hu4 hS4 => ?_)
  have h_q6_4 := h_q6_3.off hu4 (by omega)
  have h_q7_4 := hc3.off hu4 (by omega)
  have zz4 := hu4.1
  refine lv_aload_n hx hb dX4_init_20 rfl (lv_at hl 0 rfl) ?_
  refine lv_bipush (v := 6) hx hb dX4_init_21 (by decide) ?_
  refine g_newa (D := D) (a0 := (6, .inl (fun _ => 0))) (N := 6) (ty := .int) hx hb rfl (hts (.arrayClass .int) (by decide +kernel)) (hK.2 1 _ rfl).2 hS4 (by rw [vp_cell_i]; rfl) (by decide) (by decide) (by decide) (Nat.le_of_ble_eq_true rfl) (Nat.le_of_ble_eq_true rfl) dX4_init_23 (fun q8 H5 e5 hc5 z5 o5 hS5 => ?_)
  have h_a_5 := oA.keep hc4 o5
  have h_q6_5 := oA.keep h_q6_4 o5
  have h_q7_5 := oA.keep h_q7_4 o5
  refine g_putF (C := RX4) (T := TX4) (N := 26) (ci := 4) (fs := [.int 0, .int 0, .int 0, .ref q6, .ref q7, .null, .null, .int 0, .int 0, .int 0, .int 0, .int 0, .int 0, .null, .null, .null, .null, .null, .null, .null, .null, .null, .int 0, .null, .null, .null]) (A := (nA a s.heap.size)) hx hb hts inX4 tyX4 tyX4_ok nmX4 hown hK h_a_5 rfl hS5 (Or.inl rfl) 5 (by decide) lk16 rfl rfl hin9 rfl rfl rfl (Nat.le_of_ble_eq_true rfl) dX4_init_25 (fun H6 locs6 hc6 hu6 hS6 => ?_)
  have h_q6_6 := h_q6_5.off hu6 (by omega)
  have h_q7_6 := h_q7_5.off hu6 (by omega)
  have h_q8_6 := hc5.off hu6 (by omega)
  have zz6 := hu6.1
  refine lv_aload_n hx hb dX4_init_28 rfl (lv_at hl 0 rfl) ?_
  refine lv_bipush (v := 6) hx hb dX4_init_29 (by decide) ?_
  refine g_newa (D := D) (a0 := (6, .inl (fun _ => 0))) (N := 6) (ty := .int) hx hb rfl (hts (.arrayClass .int) (by decide +kernel)) (hK.2 1 _ rfl).2 hS6 (by rw [vp_cell_i]; rfl) (by decide) (by decide) (by decide) (Nat.le_of_ble_eq_true rfl) (Nat.le_of_ble_eq_true rfl) dX4_init_31 (fun q9 H7 e7 hc7 z7 o7 hS7 => ?_)
  have h_a_7 := oA.keep hc6 o7
  have h_q6_7 := oA.keep h_q6_6 o7
  have h_q7_7 := oA.keep h_q7_6 o7
  have h_q8_7 := oA.keep h_q8_6 o7
  refine g_putF (C := RX4) (T := TX4) (N := 26) (ci := 4) (fs := [.int 0, .int 0, .int 0, .ref q6, .ref q7, .ref q8, .null, .int 0, .int 0, .int 0, .int 0, .int 0, .int 0, .null, .null, .null, .null, .null, .null, .null, .null, .null, .int 0, .null, .null, .null]) (A := (nA a s.heap.size)) hx hb hts inX4 tyX4 tyX4_ok nmX4 hown hK h_a_7 rfl hS7 (Or.inl rfl) 6 (by decide) lk19 rfl rfl hin9 rfl rfl rfl (Nat.le_of_ble_eq_true rfl) dX4_init_33 (fun H8 locs8 hc8 hu8 hS8 => ?_)
  have h_q6_8 := h_q6_7.off hu8 (by omega)
  have h_q7_8 := h_q7_7.off hu8 (by omega)
  have h_q8_8 := h_q8_7.off hu8 (by omega)
  have h_q9_8 := hc7.off hu8 (by omega)
  have zz8 := hu8.1
  refine lv_aload_n hx hb dX4_init_36 rfl (lv_at hl 0 rfl) ?_
  refine lv_bipush (v := 10) hx hb dX4_init_37 (by decide) ?_
  refine g_put (C := RX4) (T := TX4) (N := 26) (ci := 4) (fs := [.int 0, .int 0, .int 0, .ref q6, .ref q7, .ref q8, .ref q9, .int 0, .int 0, .int 0, .int 0, .int 0, .int 0, .null, .null, .null, .null, .null, .null, .null, .null, .null, .int 0, .null, .null, .null]) (A := (nA a s.heap.size)) hx hb hts inX4 tyX4 tyX4_ok nmX4 hown hK hc8 rfl hS8 (Or.inl rfl) 7 (by decide) lk22 rfl rfl rfl rfl (Nat.le_of_ble_eq_true rfl) dX4_init_39 (fun H9 locs9 hc9 hu9 hS9 => ?_)
  have h_q6_9 := h_q6_8.off hu9 (by omega)
  have h_q7_9 := h_q7_8.off hu9 (by omega)
  have h_q8_9 := h_q8_8.off hu9 (by omega)
  have h_q9_9 := h_q9_8.off hu9 (by omega)
  have zz9 := hu9.1
  refine lv_aload_n hx hb dX4_init_42 rfl (lv_at hl 0 rfl) ?_
  refine lv_sipush (v := 500) hx hb dX4_init_43 (by decide) ?_
  refine g_put (C := RX4) (T := TX4) (N := 26) (ci := 4) (fs := [.int 0, .int 0, .int 0, .ref q6, .ref q7, .ref q8, .ref q9, .int 10, .int 0, .int 0, .int 0, .int 0, .int 0, .null, .null, .null, .null, .null, .null, .null, .null, .null, .int 0, .null, .null, .null]) (A := (nA a s.heap.size)) hx hb hts inX4 tyX4 tyX4_ok nmX4 hown hK hc9 rfl hS9 (Or.inl rfl) 8 (by decide) lk26 rfl rfl rfl rfl (Nat.le_of_ble_eq_true rfl) dX4_init_46 (fun H10 locs10 hc10 hu10 hS10 => ?_)
  have h_q6_10 := h_q6_9.off hu10 (by omega)
  have h_q7_10 := h_q7_9.off hu10 (by omega)
  have h_q8_10 := h_q8_9.off hu10 (by omega)
  have h_q9_10 := h_q9_9.off hu10 (by omega)
  have zz10 := hu10.1
  refine lv_aload_n hx hb dX4_init_49 rfl (lv_at hl 0 rfl) ?_
  refine lv_bipush (v := 20) hx hb dX4_init_50 (by decide) ?_
  refine g_put (C := RX4) (T := TX4) (N := 26) (ci := 4) (fs := [.int 0, .int 0, .int 0, .ref q6, .ref q7, .ref q8, .ref q9, .int 10, .int 500, .int 0, .int 0, .int 0, .int 0, .null, .null, .null, .null, .null, .null, .null, .null, .null, .int 0, .null, .null, .null]) (A := (nA a s.heap.size)) hx hb hts inX4 tyX4 tyX4_ok nmX4 hown hK hc10 rfl hS10 (Or.inl rfl) 9 (by decide) lk29 rfl rfl rfl rfl (Nat.le_of_ble_eq_true rfl) dX4_init_52 (fun H11 locs11 hc11 hu11 hS11 => ?_)
  have h_q6_11 := h_q6_10.off hu11 (by omega)
  have h_q7_11 := h_q7_10.off hu11 (by omega)
  have h_q8_11 := h_q8_10.off hu11 (by omega)
  have h_q9_11 := h_q9_10.off hu11 (by omega)
  have zz11 := hu11.1
  refine lv_aload_n hx hb dX4_init_55 rfl (lv_at hl 0 rfl) ?_
  refine lv_sipush (v := 900) hx hb dX4_init_56 (by decide) ?_
  refine g_newa (D := D) (a0 := (900, .inl (fun _ => 0))) (N := 900) (ty := .int) hx hb rfl (hts (.arrayClass .int) (by decide +kernel)) (hK.2 1 _ rfl).2 hS11 (by rw [vp_cell_i]; rfl) (by decide) (by decide) (by decide) (Nat.le_of_ble_eq_true rfl) (Nat.le_of_ble_eq_true rfl) dX4_init_59 (fun q18 H12 e12 hc12 z12 o12 hS12 => ?_)
  have h_a_12 := oA.keep hc11 o12
  have h_q6_12 := oA.keep h_q6_11 o12
  have h_q7_12 := oA.keep h_q7_11 o12
  have h_q8_12 := oA.keep h_q8_11 o12
  have h_q9_12 := oA.keep h_q9_11 o12
  refine g_putF (C := RX4) (T := TX4) (N := 26) (ci := 4) (fs := [.int 0, .int 0, .int 0, .ref q6, .ref q7, .ref q8, .ref q9, .int 10, .int 500, .int 20, .int 0, .int 0, .int 0, .null, .null, .null, .null, .null, .null, .null, .null, .null, .int 0, .null, .null, .null]) (A := (nA a s.heap.size)) hx hb hts inX4 tyX4 tyX4_ok nmX4 hown hK h_a_12 rfl hS12 (Or.inl rfl) 13 (by decide) lk32 rfl rfl hin9 rfl rfl rfl (Nat.le_of_ble_eq_true rfl) dX4_init_61 (fun H13 locs13 hc13 hu13 hS13 => ?_)
  have h_q6_13 := h_q6_12.off hu13 (by omega)
  have h_q7_13 := h_q7_12.off hu13 (by omega)
  have h_q8_13 := h_q8_12.off hu13 (by omega)
  have h_q9_13 := h_q9_12.off hu13 (by omega)
  have h_q18_13 := hc12.off hu13 (by omega)
  have zz13 := hu13.1
  refine lv_aload_n hx hb dX4_init_64 rfl (lv_at hl 0 rfl) ?_
  refine lv_bipush (v := 30) hx hb dX4_init_65 (by decide) ?_
  refine g_newa (D := D) (a0 := (30, .inl (fun _ => 0))) (N := 30) (ty := .int) hx hb rfl (hts (.arrayClass .int) (by decide +kernel)) (hK.2 1 _ rfl).2 hS13 (by rw [vp_cell_i]; rfl) (by decide) (by decide) (by decide) (Nat.le_of_ble_eq_true rfl) (Nat.le_of_ble_eq_true rfl) dX4_init_67 (fun q17 H14 e14 hc14 z14 o14 hS14 => ?_)
  have h_a_14 := oA.keep hc13 o14
  have h_q6_14 := oA.keep h_q6_13 o14
  have h_q7_14 := oA.keep h_q7_13 o14
  have h_q8_14 := oA.keep h_q8_13 o14
  have h_q9_14 := oA.keep h_q9_13 o14
  have h_q18_14 := oA.keep h_q18_13 o14
  refine g_putF (C := RX4) (T := TX4) (N := 26) (ci := 4) (fs := [.int 0, .int 0, .int 0, .ref q6, .ref q7, .ref q8, .ref q9, .int 10, .int 500, .int 20, .int 0, .int 0, .int 0, .ref q18, .null, .null, .null, .null, .null, .null, .null, .null, .int 0, .null, .null, .null]) (A := (nA a s.heap.size)) hx hb hts inX4 tyX4 tyX4_ok nmX4 hown hK h_a_14 rfl hS14 (Or.inl rfl) 14 (by decide) lk35 rfl rfl hin9 rfl rfl rfl (Nat.le_of_ble_eq_true rfl) dX4_init_69 (fun H15 locs15 hc15 hu15 hS15 => ?_)
  have h_q6_15 := h_q6_14.off hu15 (by omega)
  have h_q7_15 := h_q7_14.off hu15 (by omega)
  have h_q8_15 := h_q8_14.off hu15 (by omega)
  have h_q9_15 := h_q9_14.off hu15 (by omega)
  have h_q18_15 := h_q18_14.off hu15 (by omega)
  have h_q17_15 := hc14.off hu15 (by omega)
  have zz15 := hu15.1
  refine lv_aload_n hx hb dX4_init_72 rfl (lv_at hl 0 rfl) ?_
  refine lv_bipush (v := 30) hx hb dX4_init_73 (by decide) ?_
  refine g_newa (D := D) (a0 := (30, .inl (fun _ => 0))) (N := 30) (ty := .int) hx hb rfl (hts (.arrayClass .int) (by decide +kernel)) (hK.2 1 _ rfl).2 hS15 (by rw [vp_cell_i]; rfl) (by decide) (by decide) (by decide) (Nat.le_of_ble_eq_true rfl) (Nat.le_of_ble_eq_true rfl) dX4_init_75 (fun q16 H16 e16 hc16 z16 o16 hS16 => ?_)
  have h_a_16 := oA.keep hc15 o16
  have h_q6_16 := oA.keep h_q6_15 o16
  have h_q7_16 := oA.keep h_q7_15 o16
  have h_q8_16 := oA.keep h_q8_15 o16
  have h_q9_16 := oA.keep h_q9_15 o16
  have h_q18_16 := oA.keep h_q18_15 o16
  have h_q17_16 := oA.keep h_q17_15 o16
  refine g_putF (C := RX4) (T := TX4) (N := 26) (ci := 4) (fs := [.int 0, .int 0, .int 0, .ref q6, .ref q7, .ref q8, .ref q9, .int 10, .int 500, .int 20, .int 0, .int 0, .int 0, .ref q18, .ref q17, .null, .null, .null, .null, .null, .null, .null, .int 0, .null, .null, .null]) (A := (nA a s.heap.size)) hx hb hts inX4 tyX4 tyX4_ok nmX4 hown hK h_a_16 rfl hS16 (Or.inl rfl) 15 (by decide) lk38 rfl rfl hin9 rfl rfl rfl (Nat.le_of_ble_eq_true rfl) dX4_init_77 (fun H17 locs17 hc17 hu17 hS17 => ?_)
  have h_q6_17 := h_q6_16.off hu17 (by omega)
  have h_q7_17 := h_q7_16.off hu17 (by omega)
  have h_q8_17 := h_q8_16.off hu17 (by omega)
  have h_q9_17 := h_q9_16.off hu17 (by omega)
  have h_q18_17 := h_q18_16.off hu17 (by omega)
  have h_q17_17 := h_q17_16.off hu17 (by omega)
  have h_q16_17 := hc16.off hu17 (by omega)
  have zz17 := hu17.1
  refine lv_aload_n hx hb dX4_init_80 rfl (lv_at hl 0 rfl) ?_
  refine lv_bipush (v := 30) hx hb dX4_init_81 (by decide) ?_
  refine g_newa (D := D) (a0 := (30, .inl (fun _ => 0))) (N := 30) (ty := .int) hx hb rfl (hts (.arrayClass .int) (by decide +kernel)) (hK.2 1 _ rfl).2 hS17 (by rw [vp_cell_i]; rfl) (by decide) (by decide) (by decide) (Nat.le_of_ble_eq_true rfl) (Nat.le_of_ble_eq_true rfl) dX4_init_83 (fun q10 H18 e18 hc18 z18 o18 hS18 => ?_)
  have h_a_18 := oA.keep hc17 o18
  have h_q6_18 := oA.keep h_q6_17 o18
  have h_q7_18 := oA.keep h_q7_17 o18
  have h_q8_18 := oA.keep h_q8_17 o18
  have h_q9_18 := oA.keep h_q9_17 o18
  have h_q18_18 := oA.keep h_q18_17 o18
  have h_q17_18 := oA.keep h_q17_17 o18
  have h_q16_18 := oA.keep h_q16_17 o18
  refine g_putF (C := RX4) (T := TX4) (N := 26) (ci := 4) (fs := [.int 0, .int 0, .int 0, .ref q6, .ref q7, .ref q8, .ref q9, .int 10, .int 500, .int 20, .int 0, .int 0, .int 0, .ref q18, .ref q17, .ref q16, .null, .null, .null, .null, .null, .null, .int 0, .null, .null, .null]) (A := (nA a s.heap.size)) hx hb hts inX4 tyX4 tyX4_ok nmX4 hown hK h_a_18 rfl hS18 (Or.inl rfl) 16 (by decide) lk41 rfl rfl hin9 rfl rfl rfl (Nat.le_of_ble_eq_true rfl) dX4_init_85 (fun H19 locs19 hc19 hu19 hS19 => ?_)
  have h_q6_19 := h_q6_18.off hu19 (by omega)
  have h_q7_19 := h_q7_18.off hu19 (by omega)
  have h_q8_19 := h_q8_18.off hu19 (by omega)
  have h_q9_19 := h_q9_18.off hu19 (by omega)
  have h_q18_19 := h_q18_18.off hu19 (by omega)
  have h_q17_19 := h_q17_18.off hu19 (by omega)
  have h_q16_19 := h_q16_18.off hu19 (by omega)
  have h_q10_19 := hc18.off hu19 (by omega)
  have zz19 := hu19.1
  refine lv_aload_n hx hb dX4_init_88 rfl (lv_at hl 0 rfl) ?_
  refine lv_bipush (v := 30) hx hb dX4_init_89 (by decide) ?_
  refine g_newa (D := D) (a0 := (30, .inl (fun _ => 0))) (N := 30) (ty := .int) hx hb rfl (hts (.arrayClass .int) (by decide +kernel)) (hK.2 1 _ rfl).2 hS19 (by rw [vp_cell_i]; rfl) (by decide) (by decide) (by decide) (Nat.le_of_ble_eq_true rfl) (Nat.le_of_ble_eq_true rfl) dX4_init_91 (fun q11 H20 e20 hc20 z20 o20 hS20 => ?_)
  have h_a_20 := oA.keep hc19 o20
  have h_q6_20 := oA.keep h_q6_19 o20
  have h_q7_20 := oA.keep h_q7_19 o20
  have h_q8_20 := oA.keep h_q8_19 o20
  have h_q9_20 := oA.keep h_q9_19 o20
  have h_q18_20 := oA.keep h_q18_19 o20
  have h_q17_20 := oA.keep h_q17_19 o20
  have h_q16_20 := oA.keep h_q16_19 o20
  have h_q10_20 := oA.keep h_q10_19 o20
  refine g_putF (C := RX4) (T := TX4) (N := 26) (ci := 4) (fs := [.int 0, .int 0, .int 0, .ref q6, .ref q7, .ref q8, .ref q9, .int 10, .int 500, .int 20, .int 0, .int 0, .int 0, .ref q18, .ref q17, .ref q16, .ref q10, .null, .null, .null, .null, .null, .int 0, .null, .null, .null]) (A := (nA a s.heap.size)) hx hb hts inX4 tyX4 tyX4_ok nmX4 hown hK h_a_20 rfl hS20 (Or.inl rfl) 17 (by decide) lk44 rfl rfl hin9 rfl rfl rfl (Nat.le_of_ble_eq_true rfl) dX4_init_93 (fun H21 locs21 hc21 hu21 hS21 => ?_)
  have h_q6_21 := h_q6_20.off hu21 (by omega)
  have h_q7_21 := h_q7_20.off hu21 (by omega)
  have h_q8_21 := h_q8_20.off hu21 (by omega)
  have h_q9_21 := h_q9_20.off hu21 (by omega)
  have h_q18_21 := h_q18_20.off hu21 (by omega)
  have h_q17_21 := h_q17_20.off hu21 (by omega)
  have h_q16_21 := h_q16_20.off hu21 (by omega)
  have h_q10_21 := h_q10_20.off hu21 (by omega)
  have h_q11_21 := hc20.off hu21 (by omega)
  have zz21 := hu21.1
  refine lv_aload_n hx hb dX4_init_96 rfl (lv_at hl 0 rfl) ?_
  refine lv_bipush (v := 30) hx hb dX4_init_97 (by decide) ?_
  refine g_newa (D := D) (a0 := (30, .inl (fun _ => 0))) (N := 30) (ty := .int) hx hb rfl (hts (.arrayClass .int) (by decide +kernel)) (hK.2 1 _ rfl).2 hS21 (by rw [vp_cell_i]; rfl) (by decide) (by decide) (by decide) (Nat.le_of_ble_eq_true rfl) (Nat.le_of_ble_eq_true rfl) dX4_init_99 (fun q12 H22 e22 hc22 z22 o22 hS22 => ?_)
  have h_a_22 := oA.keep hc21 o22
  have h_q6_22 := oA.keep h_q6_21 o22
  have h_q7_22 := oA.keep h_q7_21 o22
  have h_q8_22 := oA.keep h_q8_21 o22
  have h_q9_22 := oA.keep h_q9_21 o22
  have h_q18_22 := oA.keep h_q18_21 o22
  have h_q17_22 := oA.keep h_q17_21 o22
  have h_q16_22 := oA.keep h_q16_21 o22
  have h_q10_22 := oA.keep h_q10_21 o22
  have h_q11_22 := oA.keep h_q11_21 o22
  refine g_putF (C := RX4) (T := TX4) (N := 26) (ci := 4) (fs := [.int 0, .int 0, .int 0, .ref q6, .ref q7, .ref q8, .ref q9, .int 10, .int 500, .int 20, .int 0, .int 0, .int 0, .ref q18, .ref q17, .ref q16, .ref q10, .ref q11, .null, .null, .null, .null, .int 0, .null, .null, .null]) (A := (nA a s.heap.size)) hx hb hts inX4 tyX4 tyX4_ok nmX4 hown hK h_a_22 rfl hS22 (Or.inl rfl) 18 (by decide) lk47 rfl rfl hin9 rfl rfl rfl (Nat.le_of_ble_eq_true rfl) dX4_init_101 (fun H23 locs23 hc23 hu23 hS23 => ?_)
  have h_q6_23 := h_q6_22.off hu23 (by omega)
  have h_q7_23 := h_q7_22.off hu23 (by omega)
  have h_q8_23 := h_q8_22.off hu23 (by omega)
  have h_q9_23 := h_q9_22.off hu23 (by omega)
  have h_q18_23 := h_q18_22.off hu23 (by omega)
  have h_q17_23 := h_q17_22.off hu23 (by omega)
  have h_q16_23 := h_q16_22.off hu23 (by omega)
  have h_q10_23 := h_q10_22.off hu23 (by omega)
  have h_q11_23 := h_q11_22.off hu23 (by omega)
  have h_q12_23 := hc22.off hu23 (by omega)
  have zz23 := hu23.1
  refine lv_aload_n hx hb dX4_init_104 rfl (lv_at hl 0 rfl) ?_
  refine lv_bipush (v := 30) hx hb dX4_init_105 (by decide) ?_
  refine g_newa (D := D) (a0 := (30, .inl (fun _ => 0))) (N := 30) (ty := .int) hx hb rfl (hts (.arrayClass .int) (by decide +kernel)) (hK.2 1 _ rfl).2 hS23 (by rw [vp_cell_i]; rfl) (by decide) (by decide) (by decide) (Nat.le_of_ble_eq_true rfl) (Nat.le_of_ble_eq_true rfl) dX4_init_107 (fun q13 H24 e24 hc24 z24 o24 hS24 => ?_)
  have h_a_24 := oA.keep hc23 o24
  have h_q6_24 := oA.keep h_q6_23 o24
  have h_q7_24 := oA.keep h_q7_23 o24
  have h_q8_24 := oA.keep h_q8_23 o24
  have h_q9_24 := oA.keep h_q9_23 o24
  have h_q18_24 := oA.keep h_q18_23 o24
  have h_q17_24 := oA.keep h_q17_23 o24
  have h_q16_24 := oA.keep h_q16_23 o24
  have h_q10_24 := oA.keep h_q10_23 o24
  have h_q11_24 := oA.keep h_q11_23 o24
  have h_q12_24 := oA.keep h_q12_23 o24
  refine g_putF (C := RX4) (T := TX4) (N := 26) (ci := 4) (fs := [.int 0, .int 0, .int 0, .ref q6, .ref q7, .ref q8, .ref q9, .int 10, .int 500, .int 20, .int 0, .int 0, .int 0, .ref q18, .ref q17, .ref q16, .ref q10, .ref q11, .ref q12, .null, .null, .null, .int 0, .null, .null, .null]) (A := (nA a s.heap.size)) hx hb hts inX4 tyX4 tyX4_ok nmX4 hown hK h_a_24 rfl hS24 (Or.inl rfl) 19 (by decide) lk50 rfl rfl hin9 rfl rfl rfl (Nat.le_of_ble_eq_true rfl) dX4_init_109 (fun H25 locs25 hc25 hu25 hS25 => ?_)
  have h_q6_25 := h_q6_24.off hu25 (by omega)
  have h_q7_25 := h_q7_24.off hu25 (by omega)
  have h_q8_25 := h_q8_24.off hu25 (by omega)
  have h_q9_25 := h_q9_24.off hu25 (by omega)
  have h_q18_25 := h_q18_24.off hu25 (by omega)
  have h_q17_25 := h_q17_24.off hu25 (by omega)
  have h_q16_25 := h_q16_24.off hu25 (by omega)
  have h_q10_25 := h_q10_24.off hu25 (by omega)
  have h_q11_25 := h_q11_24.off hu25 (by omega)
  have h_q12_25 := h_q12_24.off hu25 (by omega)
  have h_q13_25 := hc24.off hu25 (by omega)
  have zz25 := hu25.1
  refine lv_aload_n hx hb dX4_init_112 rfl (lv_at hl 0 rfl) ?_
  refine lv_bipush (v := 30) hx hb dX4_init_113 (by decide) ?_
  refine g_newa (D := D) (a0 := (30, .inl (fun _ => 0))) (N := 30) (ty := .boolean) hx hb rfl (hts (.arrayClass .boolean) (by decide +kernel)) (hK.2 2 _ rfl).2 hS25 (by rw [vp_cell_i]; rfl) (by decide) (by decide) (by decide) (Nat.le_of_ble_eq_true rfl) (Nat.le_of_ble_eq_true rfl) dX4_init_115 (fun q14 H26 e26 hc26 z26 o26 hS26 => ?_)
  have h_a_26 := oA.keep hc25 o26
  have h_q6_26 := oA.keep h_q6_25 o26
  have h_q7_26 := oA.keep h_q7_25 o26
  have h_q8_26 := oA.keep h_q8_25 o26
  have h_q9_26 := oA.keep h_q9_25 o26
  have h_q18_26 := oA.keep h_q18_25 o26
  have h_q17_26 := oA.keep h_q17_25 o26
  have h_q16_26 := oA.keep h_q16_25 o26
  have h_q10_26 := oA.keep h_q10_25 o26
  have h_q11_26 := oA.keep h_q11_25 o26
  have h_q12_26 := oA.keep h_q12_25 o26
  have h_q13_26 := oA.keep h_q13_25 o26
  refine g_putF (C := RX4) (T := TX4) (N := 26) (ci := 4) (fs := [.int 0, .int 0, .int 0, .ref q6, .ref q7, .ref q8, .ref q9, .int 10, .int 500, .int 20, .int 0, .int 0, .int 0, .ref q18, .ref q17, .ref q16, .ref q10, .ref q11, .ref q12, .ref q13, .null, .null, .int 0, .null, .null, .null]) (A := (nA a s.heap.size)) hx hb hts inX4 tyX4 tyX4_ok nmX4 hown hK h_a_26 rfl hS26 (Or.inl rfl) 20 (by decide) lk53 rfl rfl hin9 rfl rfl rfl (Nat.le_of_ble_eq_true rfl) dX4_init_117 (fun H27 locs27 hc27 hu27 hS27 => ?_)
  have h_q6_27 := h_q6_26.off hu27 (by omega)
  have h_q7_27 := h_q7_26.off hu27 (by omega)
  have h_q8_27 := h_q8_26.off hu27 (by omega)
  have h_q9_27 := h_q9_26.off hu27 (by omega)
  have h_q18_27 := h_q18_26.off hu27 (by omega)
  have h_q17_27 := h_q17_26.off hu27 (by omega)
  have h_q16_27 := h_q16_26.off hu27 (by omega)
  have h_q10_27 := h_q10_26.off hu27 (by omega)
  have h_q11_27 := h_q11_26.off hu27 (by omega)
  have h_q12_27 := h_q12_26.off hu27 (by omega)
  have h_q13_27 := h_q13_26.off hu27 (by omega)
  have h_q14_27 := hc26.off hu27 (by omega)
  have zz27 := hu27.1
  refine lv_aload_n hx hb dX4_init_120 rfl (lv_at hl 0 rfl) ?_
  refine lv_bipush (v := 30) hx hb dX4_init_121 (by decide) ?_
  refine g_newa (D := D) (a0 := (30, .inl (fun _ => 0))) (N := 30) (ty := .boolean) hx hb rfl (hts (.arrayClass .boolean) (by decide +kernel)) (hK.2 2 _ rfl).2 hS27 (by rw [vp_cell_i]; rfl) (by decide) (by decide) (by decide) (Nat.le_of_ble_eq_true rfl) (Nat.le_of_ble_eq_true rfl) dX4_init_123 (fun q15 H28 e28 hc28 z28 o28 hS28 => ?_)
  have h_a_28 := oA.keep hc27 o28
  have h_q6_28 := oA.keep h_q6_27 o28
  have h_q7_28 := oA.keep h_q7_27 o28
  have h_q8_28 := oA.keep h_q8_27 o28
  have h_q9_28 := oA.keep h_q9_27 o28
  have h_q18_28 := oA.keep h_q18_27 o28
  have h_q17_28 := oA.keep h_q17_27 o28
  have h_q16_28 := oA.keep h_q16_27 o28
  have h_q10_28 := oA.keep h_q10_27 o28
  have h_q11_28 := oA.keep h_q11_27 o28
  have h_q12_28 := oA.keep h_q12_27 o28
  have h_q13_28 := oA.keep h_q13_27 o28
  have h_q14_28 := oA.keep h_q14_27 o28
  refine g_putF (C := RX4) (T := TX4) (N := 26) (ci := 4) (fs := [.int 0, .int 0, .int 0, .ref q6, .ref q7, .ref q8, .ref q9, .int 10, .int 500, .int 20, .int 0, .int 0, .int 0, .ref q18, .ref q17, .ref q16, .ref q10, .ref q11, .ref q12, .ref q13, .ref q14, .null, .int 0, .null, .null, .null]) (A := (nA a s.heap.size)) hx hb hts inX4 tyX4 tyX4_ok nmX4 hown hK h_a_28 rfl hS28 (Or.inl rfl) 21 (by decide) lk57 rfl rfl hin9 rfl rfl rfl (Nat.le_of_ble_eq_true rfl) dX4_init_125 (fun H29 locs29 hc29 hu29 hS29 => ?_)
  have h_q6_29 := h_q6_28.off hu29 (by omega)
  have h_q7_29 := h_q7_28.off hu29 (by omega)
  have h_q8_29 := h_q8_28.off hu29 (by omega)
  have h_q9_29 := h_q9_28.off hu29 (by omega)
  have h_q18_29 := h_q18_28.off hu29 (by omega)
  have h_q17_29 := h_q17_28.off hu29 (by omega)
  have h_q16_29 := h_q16_28.off hu29 (by omega)
  have h_q10_29 := h_q10_28.off hu29 (by omega)
  have h_q11_29 := h_q11_28.off hu29 (by omega)
  have h_q12_29 := h_q12_28.off hu29 (by omega)
  have h_q13_29 := h_q13_28.off hu29 (by omega)
  have h_q14_29 := h_q14_28.off hu29 (by omega)
  have h_q15_29 := hc28.off hu29 (by omega)
  have zz29 := hu29.1
  refine lv_aload_n hx hb dX4_init_128 rfl (lv_at hl 0 rfl) ?_
  refine lv_bipush (v := 15) hx hb dX4_init_129 (by decide) ?_
  refine g_newa (D := D) (a0 := (15, .inl (fun _ => 0))) (N := 15) (ty := .int) hx hb rfl (hts (.arrayClass .int) (by decide +kernel)) (hK.2 1 _ rfl).2 hS29 (by rw [vp_cell_i]; rfl) (by decide) (by decide) (by decide) (Nat.le_of_ble_eq_true rfl) (Nat.le_of_ble_eq_true rfl) dX4_init_131 (fun q34 H30 e30 hc30 z30 o30 hS30 => ?_)
  have h_a_30 := oA.keep hc29 o30
  have h_q6_30 := oA.keep h_q6_29 o30
  have h_q7_30 := oA.keep h_q7_29 o30
  have h_q8_30 := oA.keep h_q8_29 o30
  have h_q9_30 := oA.keep h_q9_29 o30
  have h_q18_30 := oA.keep h_q18_29 o30
  have h_q17_30 := oA.keep h_q17_29 o30
  have h_q16_30 := oA.keep h_q16_29 o30
  have h_q10_30 := oA.keep h_q10_29 o30
  have h_q11_30 := oA.keep h_q11_29 o30
  have h_q12_30 := oA.keep h_q12_29 o30
  have h_q13_30 := oA.keep h_q13_29 o30
  have h_q14_30 := oA.keep h_q14_29 o30
  have h_q15_30 := oA.keep h_q15_29 o30
  refine g_putF (C := RX4) (T := TX4) (N := 26) (ci := 4) (fs := [.int 0, .int 0, .int 0, .ref q6, .ref q7, .ref q8, .ref q9, .int 10, .int 500, .int 20, .int 0, .int 0, .int 0, .ref q18, .ref q17, .ref q16, .ref q10, .ref q11, .ref q12, .ref q13, .ref q14, .ref q15, .int 0, .null, .null, .null]) (A := (nA a s.heap.size)) hx hb hts inX4 tyX4 tyX4_ok nmX4 hown hK h_a_30 rfl hS30 (Or.inl rfl) 23 (by decide) lk60 rfl rfl hin9 rfl rfl rfl (Nat.le_of_ble_eq_true rfl) dX4_init_133 (fun H31 locs31 hc31 hu31 hS31 => ?_)
  have h_q6_31 := h_q6_30.off hu31 (by omega)
  have h_q7_31 := h_q7_30.off hu31 (by omega)
  have h_q8_31 := h_q8_30.off hu31 (by omega)
  have h_q9_31 := h_q9_30.off hu31 (by omega)
  have h_q18_31 := h_q18_30.off hu31 (by omega)
  have h_q17_31 := h_q17_30.off hu31 (by omega)
  have h_q16_31 := h_q16_30.off hu31 (by omega)
  have h_q10_31 := h_q10_30.off hu31 (by omega)
  have h_q11_31 := h_q11_30.off hu31 (by omega)
  have h_q12_31 := h_q12_30.off hu31 (by omega)
  have h_q13_31 := h_q13_30.off hu31 (by omega)
  have h_q14_31 := h_q14_30.off hu31 (by omega)
  have h_q15_31 := h_q15_30.off hu31 (by omega)
  have h_q34_31 := hc30.off hu31 (by omega)
  have zz31 := hu31.1
  refine lv_aload_n hx hb dX4_init_136 rfl (lv_at hl 0 rfl) ?_
  refine lv_bipush (v := 15) hx hb dX4_init_137 (by decide) ?_
  refine g_newa (D := D) (a0 := (15, .inl (fun _ => 0))) (N := 15) (ty := .int) hx hb rfl (hts (.arrayClass .int) (by decide +kernel)) (hK.2 1 _ rfl).2 hS31 (by rw [vp_cell_i]; rfl) (by decide) (by decide) (by decide) (Nat.le_of_ble_eq_true rfl) (Nat.le_of_ble_eq_true rfl) dX4_init_139 (fun q35 H32 e32 hc32 z32 o32 hS32 => ?_)
  have h_a_32 := oA.keep hc31 o32
  have h_q6_32 := oA.keep h_q6_31 o32
  have h_q7_32 := oA.keep h_q7_31 o32
  have h_q8_32 := oA.keep h_q8_31 o32
  have h_q9_32 := oA.keep h_q9_31 o32
  have h_q18_32 := oA.keep h_q18_31 o32
  have h_q17_32 := oA.keep h_q17_31 o32
  have h_q16_32 := oA.keep h_q16_31 o32
  have h_q10_32 := oA.keep h_q10_31 o32
  have h_q11_32 := oA.keep h_q11_31 o32
  have h_q12_32 := oA.keep h_q12_31 o32
  have h_q13_32 := oA.keep h_q13_31 o32
  have h_q14_32 := oA.keep h_q14_31 o32
  have h_q15_32 := oA.keep h_q15_31 o32
  have h_q34_32 := oA.keep h_q34_31 o32
  refine g_putF (C := RX4) (T := TX4) (N := 26) (ci := 4) (fs := [.int 0, .int 0, .int 0, .ref q6, .ref q7, .ref q8, .ref q9, .int 10, .int 500, .int 20, .int 0, .int 0, .int 0, .ref q18, .ref q17, .ref q16, .ref q10, .ref q11, .ref q12, .ref q13, .ref q14, .ref q15, .int 0, .ref q34, .null, .null]) (A := (nA a s.heap.size)) hx hb hts inX4 tyX4 tyX4_ok nmX4 hown hK h_a_32 rfl hS32 (Or.inl rfl) 24 (by decide) lk63 rfl rfl hin9 rfl rfl rfl (Nat.le_of_ble_eq_true rfl) dX4_init_141 (fun H33 locs33 hc33 hu33 hS33 => ?_)
  have h_q6_33 := h_q6_32.off hu33 (by omega)
  have h_q7_33 := h_q7_32.off hu33 (by omega)
  have h_q8_33 := h_q8_32.off hu33 (by omega)
  have h_q9_33 := h_q9_32.off hu33 (by omega)
  have h_q18_33 := h_q18_32.off hu33 (by omega)
  have h_q17_33 := h_q17_32.off hu33 (by omega)
  have h_q16_33 := h_q16_32.off hu33 (by omega)
  have h_q10_33 := h_q10_32.off hu33 (by omega)
  have h_q11_33 := h_q11_32.off hu33 (by omega)
  have h_q12_33 := h_q12_32.off hu33 (by omega)
  have h_q13_33 := h_q13_32.off hu33 (by omega)
  have h_q14_33 := h_q14_32.off hu33 (by omega)
  have h_q15_33 := h_q15_32.off hu33 (by omega)
  have h_q34_33 := h_q34_32.off hu33 (by omega)
  have h_q35_33 := hc32.off hu33 (by omega)
  have zz33 := hu33.1
  refine lv_aload_n hx hb dX4_init_144 rfl (lv_at hl 0 rfl) ?_
  refine lv_bipush (v := 30) hx hb dX4_init_145 (by decide) ?_
  refine g_newa (D := D) (a0 := (30, .inl (fun _ => 0))) (N := 30) (ty := .int) hx hb rfl (hts (.arrayClass .int) (by decide +kernel)) (hK.2 1 _ rfl).2 hS33 (by rw [vp_cell_i]; rfl) (by decide) (by decide) (by decide) (Nat.le_of_ble_eq_true rfl) (Nat.le_of_ble_eq_true rfl) dX4_init_147 (fun q36 H34 e34 hc34 z34 o34 hS34 => ?_)
  have h_a_34 := oA.keep hc33 o34
  have h_q6_34 := oA.keep h_q6_33 o34
  have h_q7_34 := oA.keep h_q7_33 o34
  have h_q8_34 := oA.keep h_q8_33 o34
  have h_q9_34 := oA.keep h_q9_33 o34
  have h_q18_34 := oA.keep h_q18_33 o34
  have h_q17_34 := oA.keep h_q17_33 o34
  have h_q16_34 := oA.keep h_q16_33 o34
  have h_q10_34 := oA.keep h_q10_33 o34
  have h_q11_34 := oA.keep h_q11_33 o34
  have h_q12_34 := oA.keep h_q12_33 o34
  have h_q13_34 := oA.keep h_q13_33 o34
  have h_q14_34 := oA.keep h_q14_33 o34
  have h_q15_34 := oA.keep h_q15_33 o34
  have h_q34_34 := oA.keep h_q34_33 o34
  have h_q35_34 := oA.keep h_q35_33 o34
  refine g_putF (C := RX4) (T := TX4) (N := 26) (ci := 4) (fs := [.int 0, .int 0, .int 0, .ref q6, .ref q7, .ref q8, .ref q9, .int 10, .int 500, .int 20, .int 0, .int 0, .int 0, .ref q18, .ref q17, .ref q16, .ref q10, .ref q11, .ref q12, .ref q13, .ref q14, .ref q15, .int 0, .ref q34, .ref q35, .null]) (A := (nA a s.heap.size)) hx hb hts inX4 tyX4 tyX4_ok nmX4 hown hK h_a_34 rfl hS34 (Or.inl rfl) 25 (by decide) lk66 rfl rfl hin9 rfl rfl rfl (Nat.le_of_ble_eq_true rfl) dX4_init_149 (fun H35 locs35 hc35 hu35 hS35 => ?_)
  have h_q6_35 := h_q6_34.off hu35 (by omega)
  have h_q7_35 := h_q7_34.off hu35 (by omega)
  have h_q8_35 := h_q8_34.off hu35 (by omega)
  have h_q9_35 := h_q9_34.off hu35 (by omega)
  have h_q18_35 := h_q18_34.off hu35 (by omega)
  have h_q17_35 := h_q17_34.off hu35 (by omega)
  have h_q16_35 := h_q16_34.off hu35 (by omega)
  have h_q10_35 := h_q10_34.off hu35 (by omega)
  have h_q11_35 := h_q11_34.off hu35 (by omega)
  have h_q12_35 := h_q12_34.off hu35 (by omega)
  have h_q13_35 := h_q13_34.off hu35 (by omega)
  have h_q14_35 := h_q14_34.off hu35 (by omega)
  have h_q15_35 := h_q15_34.off hu35 (by omega)
  have h_q34_35 := h_q34_34.off hu35 (by omega)
  have h_q35_35 := h_q35_34.off hu35 (by omega)
  have h_q36_35 := hc34.off hu35 (by omega)
  have zz35 := hu35.1
  refine lv_iconst (v := 0) hx hb dX4_init_152 (by decide) ?_
  refine lv_topi (fun y1 ey1 => ?_)
  obtain rfl : y1 = nI 0 := ey1.trans (nI_0.symm)
  refine lv_istore_n (lv' := [(1, .int (nI 0)), (0, .ref a)]) hx hb dX4_init_153 rfl hl (by decide) rfl (fun ls hl => ?_)
  have loop : ∀ (k : Nat) (iz : Nat) (Hz : Heap) (locsz : List Loc) (fz : Nat → Int32) (ls : Array Slot), iz ≤ 6 → 6 < iz + k → Hz.size = s.heap.size + 16 → va_S (nA a s.heap.size) s.heap Hz locsz → oA D q7 (.inl (cy 1, 6, .inl fz)) Hz → (∀ j, j < 6 → fz j = if j < iz then 5 else 0) → oA D a (.inr (4, [.int 0, .int 0, .int 0, .ref q6, .ref q7, .ref q8, .ref q9, .int 10, .int 500, .int 20, .int 0, .int 0, .int 0, .ref q18, .ref q17, .ref q16, .ref q10, .ref q11, .ref q12, .ref q13, .ref q14, .ref q15, .int 0, .ref q34, .ref q35, .ref q36])) Hz → oA D q6 (.inl (cy 1, 30, .inl (fun _ => 0))) Hz → oA D q8 (.inl (cy 1, 6, .inl (fun _ => 0))) Hz → oA D q9 (.inl (cy 1, 6, .inl (fun _ => 0))) Hz → oA D q18 (.inl (cy 1, 900, .inl (fun _ => 0))) Hz → oA D q17 (.inl (cy 1, 30, .inl (fun _ => 0))) Hz → oA D q16 (.inl (cy 1, 30, .inl (fun _ => 0))) Hz → oA D q10 (.inl (cy 1, 30, .inl (fun _ => 0))) Hz → oA D q11 (.inl (cy 1, 30, .inl (fun _ => 0))) Hz → oA D q12 (.inl (cy 1, 30, .inl (fun _ => 0))) Hz → oA D q13 (.inl (cy 1, 30, .inl (fun _ => 0))) Hz → oA D q14 (.inl (cy 2, 30, .inl (fun _ => 0))) Hz → oA D q15 (.inl (cy 2, 30, .inl (fun _ => 0))) Hz → oA D q34 (.inl (cy 1, 15, .inl (fun _ => 0))) Hz → oA D q35 (.inl (cy 1, 15, .inl (fun _ => 0))) Hz → oA D q36 (.inl (cy 1, 30, .inl (fun _ => 0))) Hz → lv_has ls 2 [(0, .ref a), (1, .int (nI iz))] → W p l e (headSpec wsX4_init ({ frames := 1, cells := 16, slots := 1248, locals := 30 } : Room)).room s m ([.ref a] : List Value).toArray below meth c Hz locsz ((((((((((((((((0 + 1) + 1) + 1) + 1) + 1) + 1) + 1) + 1) + 1) + 1) + 1) + 1) + 1) + 1) + 1) + 1) ((((((((((((((((0 + 30) + 6) + 6) + 6) + 900) + 30) + 30) + 30) + 30) + 30) + 30) + 30) + 30) + 15) + 15) + 30) (MQ below (uQ none (fun H => ∃ ad : NT, ad 0 0 = a ∧ wJ cM ad ∧ (∀ k, 0 < cM k → k ≠ 0 → s.heap.size ≤ ad k 0) ∧ MW D cy ad s0M (fun _ _ => 0) H) (nA a s.heap.size)) ([.ref a] : List Value).toArray s 16 1248 (nA a s.heap.size)) (F0 m 154 ls []) := by
    intro k
    induction k with
    | zero => intro iz Hz locsz fz ls hi hk zz hSz y_q7 hf y_a y_q6 y_q8 y_q9 y_q18 y_q17 y_q16 y_q10 y_q11 y_q12 y_q13 y_q14 y_q15 y_q34 y_q35 y_q36 hl; exfalso; omega
    | succ k loop_ih =>
      intro iz Hz locsz fz ls hi hk zz hSz y_q7 hf y_a y_q6 y_q8 y_q9 y_q18 y_q17 y_q16 y_q10 y_q11 y_q12 y_q13 y_q14 y_q15 y_q34 y_q35 y_q36 hl
      refine lv_iload_n hx hb dX4_init_154 rfl (lv_at hl 1 rfl) ?_
      refine lv_bipush (v := 6) hx hb dX4_init_155 (by decide) ?_
      refine lv_icmp_ge (tgt := 173) hx hb dX4_init_157 (by decide) (fun c_157 => ?_) (fun c_157 => ?_)
      · -- 157 t
        have hie : iz = 6 := by have := (nI_leI (a := 6) (by decide) (by omega)).mp c_157; omega
        have y7 : oA D q7 (.inl (cy 1, 6, .inl (fun _ => 5))) Hz := y_q7.rowI (fun j hj => by rw [hf j hj, hie, if_pos hj])
        obtain rfl : q6 = s.heap.size + 0 := by omega
        obtain rfl : q7 = s.heap.size + 1 := by omega
        obtain rfl : q8 = s.heap.size + 2 := by omega
        obtain rfl : q9 = s.heap.size + 3 := by omega
        obtain rfl : q18 = s.heap.size + 4 := by omega
        obtain rfl : q17 = s.heap.size + 5 := by omega
        obtain rfl : q16 = s.heap.size + 6 := by omega
        obtain rfl : q10 = s.heap.size + 7 := by omega
        obtain rfl : q11 = s.heap.size + 8 := by omega
        obtain rfl : q12 = s.heap.size + 9 := by omega
        obtain rfl : q13 = s.heap.size + 10 := by omega
        obtain rfl : q14 = s.heap.size + 11 := by omega
        obtain rfl : q15 = s.heap.size + 12 := by omega
        obtain rfl : q34 = s.heap.size + 13 := by omega
        obtain rfl : q35 = s.heap.size + 14 := by omega
        obtain rfl : q36 = s.heap.size + 15 := by omega
        exact g_vretU hx hb hr hlocks hSz (mk_M (a := a) (sz := s.heap.size) ha9 y_a y_q6 y7 y_q8 y_q9 y_q18 y_q17 y_q16 y_q10 y_q11 y_q12 y_q13 y_q14 y_q15 y_q34 y_q35 y_q36) (Nat.le_of_ble_eq_true rfl) (Nat.le_of_ble_eq_true rfl) dX4_init_173
      · -- 157 f
        have hlt : iz < 6 := Nat.not_le.mp fun q => c_157 ((nI_leI (a := 6) (by decide) (by omega)).mpr q)
        refine lv_aload_n hx hb dX4_init_160 rfl (lv_at hl 0 rfl) ?_
        refine g_get (C := RX4) (T := TX4) (N := 26) (ci := 4) (fs := [.int 0, .int 0, .int 0, .ref q6, .ref q7, .ref q8, .ref q9, .int 10, .int 500, .int 20, .int 0, .int 0, .int 0, .ref q18, .ref q17, .ref q16, .ref q10, .ref q11, .ref q12, .ref q13, .ref q14, .ref q15, .int 0, .ref q34, .ref q35, .ref q36]) hx hb hts inX4 hown hK y_a rfl 4 (by decide) lk13 rfl rfl dX4_init_161 ?_
        refine lv_iload_n hx hb dX4_init_164 rfl (lv_at hl 1 rfl) ?_
        refine lv_iconst (v := 5) hx hb dX4_init_165 (by decide) ?_
        refine g_iast (f := fz) (A := (nA a s.heap.size)) hx hb hK y_q7 hSz (Or.inr (by omega)) (vp_in_nI (N := 6) hlt (by decide)) dX4_init_166 (fun H36 locs36 hc36 hu36 hS36 => ?_)
        have h_a_36 := y_a.off hu36 (by omega)
        have h_q6_36 := y_q6.off hu36 (by omega)
        have h_q8_36 := y_q8.off hu36 (by omega)
        have h_q9_36 := y_q9.off hu36 (by omega)
        have h_q18_36 := y_q18.off hu36 (by omega)
        have h_q17_36 := y_q17.off hu36 (by omega)
        have h_q16_36 := y_q16.off hu36 (by omega)
        have h_q10_36 := y_q10.off hu36 (by omega)
        have h_q11_36 := y_q11.off hu36 (by omega)
        have h_q12_36 := y_q12.off hu36 (by omega)
        have h_q13_36 := y_q13.off hu36 (by omega)
        have h_q14_36 := y_q14.off hu36 (by omega)
        have h_q15_36 := y_q15.off hu36 (by omega)
        have h_q34_36 := y_q34.off hu36 (by omega)
        have h_q35_36 := y_q35.off hu36 (by omega)
        have h_q36_36 := y_q36.off hu36 (by omega)
        have zz36 := hu36.1
        refine lv_iinc (v := nI (iz + 1)) (lv' := [(1, .int (nI (iz + 1))), (0, .ref a)]) hx hb dX4_init_167 hl (k := 1) rfl (nI_1 iz) (by decide) rfl (fun ls hl => ?_)
        refine lv_goto (tgt := 154) hx hb dX4_init_170 (by decide) ?_
        exact loop_ih (iz + 1) H36 locs36 _ ls (by omega) (by omega) (by omega) hS36 hc36 (fun j hj => by rw [cl_nI (by omega)]; exact mk_up5 hf hj) h_a_36 h_q6_36 h_q8_36 h_q9_36 h_q18_36 h_q17_36 h_q16_36 h_q10_36 h_q11_36 h_q12_36 h_q13_36 h_q14_36 h_q15_36 h_q34_36 h_q35_36 h_q36_36 (lv_sub hl [1, 0] rfl)
  exact loop (7) 0 H35 locs35 _ ls (Nat.zero_le _) (by omega) (by omega) hS35 h_q7_35 (fun j _ => by rw [if_neg (Nat.not_lt_zero _)]) hc35 h_q6_35 h_q8_35 h_q9_35 h_q18_35 h_q17_35 h_q16_35 h_q10_35 h_q11_35 h_q12_35 h_q13_35 h_q14_35 h_q15_35 h_q34_35 h_q35_35 h_q36_35 (lv_sub hl [1, 0] rfl)
