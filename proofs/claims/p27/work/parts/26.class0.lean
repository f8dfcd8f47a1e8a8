/-! Politecrawl made -/
theorem w_in6_0 : vp_in 0 6 := by unfold vp_in; decide
theorem w_in6_1 : vp_in 1 6 := by unfold vp_in; decide
theorem w_in6_2 : vp_in 2 6 := by unfold vp_in; decide
theorem w_in6_3 : vp_in 3 6 := by unfold vp_in; decide
theorem w_in6_4 : vp_in 4 6 := by unfold vp_in; decide
theorem w_in6_5 : vp_in 5 6 := by unfold vp_in; decide
/-- the words of what the constructor makes -/
def nK (U : State) : Prop := va_Nw (.methodLinkNest RX3 22 yX1_init RX3) U ∧ va_AO RX1 U ∧ va_AO RX2 U
def s0C : IT := fun k i => if k = 1 then 10 else if k = 2 then 500 else if k = 3 then 20 else if k = 7 then 5 else 0
def mk_adC (a q1 c9 t9 q2 qh0 qh1 qh2 qh3 qh4 qh5 q3 : Nat) : NT := fun k i => if k = 0 then a else if k = 1 then q1 else if k = 2 then q2 else if k = 3 then q3 else if k = 4 then c9 else if k = 5 then t9 else if i = 0 then qh0 else if i = 1 then qh1 else if i = 2 then qh2 else if i = 3 then qh3 else if i = 4 then qh4 else qh5
theorem cC_0 (k i : Nat) (h : i < cC 0 k) : (k = 0 ∧ i = 0) ∨ (k = 1 ∧ i = 0) ∨ (k = 2 ∧ i = 0) ∨ (k = 3 ∧ i = 0) ∨ (k = 4 ∧ i = 0) ∨ (k = 5 ∧ i = 0) ∨ (k = 6 ∧ i = 0) ∨ (k = 6 ∧ i = 1) ∨ (k = 6 ∧ i = 2) ∨ (k = 6 ∧ i = 3) ∨ (k = 6 ∧ i = 4) ∨ (k = 6 ∧ i = 5) := by
  match k, h with
  | 0, h => have : i = 0 := Nat.lt_one_iff.mp h; omega
  | 1, h => have : i = 0 := Nat.lt_one_iff.mp h; omega
  | 2, h => have : i = 0 := Nat.lt_one_iff.mp h; omega
  | 3, h => have : i = 0 := Nat.lt_one_iff.mp h; omega
  | 4, h => have : i = 0 := Nat.lt_one_iff.mp h; omega
  | 5, h => have : i = 0 := Nat.lt_one_iff.mp h; omega
  | 6, h => have : i < 6 := h; omega
  | 7, h => exact absurd h (Nat.not_lt_zero _)
  | 8, h => exact absurd h (Nat.not_lt_zero _)
  | 9, h => exact absurd h (Nat.not_lt_zero _)
  | 10, h => exact absurd h (Nat.not_lt_zero _)
  | _ + 11, h => exact absurd h (Nat.not_lt_zero _)
set_option maxHeartbeats 4000000 in
theorem mk_C {D : va_G} {cy : Nat → ClassId} {H : Heap} {a sz q1 c9 t9 q2 qh0 qh1 qh2 qh3 qh4 qh5 q3 : Nat} (l0 : a < sz) (l1 : sz ≤ q1) (l2 : q1 < c9) (l3 : c9 ≠ t9) (l4 : q1 < t9) (l5 : c9 < q2) (l6 : t9 < q2) (l7 : q2 < qh0) (l8 : qh0 < qh1) (l9 : qh1 < qh2) (l10 : qh2 < qh3) (l11 : qh3 < qh4) (l12 : qh4 < qh5) (l13 : qh5 < q3) (l14 : sz ≤ q3)
    (ha : oA D a (.inr (3, [.ref q1, .ref q2, .ref q3, .int 0, .int 0, .int 10, .int 500, .int 20, .int 0])) H) (h1 : oA D q1 (.inr (0, [.ref c9, .ref t9, .int (nI 0), .int (nI 0)])) H) (h4 : oA D c9 (.inl (cy 0, 30, .inl (fun _ => 0))) H) (h5 : oA D t9 (.inl (cy 1, 30, .inl (fun _ => 0))) H)
    (h2 : oA D q2 (.inl (cy 3, 6, .inr (.inr (.inr (.inr (va_up (va_up (va_up (va_up (va_up (va_up (fun _ => none) (0 : Int32).toNatClampNeg (some qh0)) (1 : Int32).toNatClampNeg (some qh1)) (2 : Int32).toNatClampNeg (some qh2)) (3 : Int32).toNatClampNeg (some qh3)) (4 : Int32).toNatClampNeg (some qh4)) (5 : Int32).toNatClampNeg (some qh5))))))) H) (g0 : oA D qh0 (.inr (1, [.int 5, .int 0, .int 0])) H) (g1 : oA D qh1 (.inr (1, [.int 5, .int 0, .int 0])) H) (g2 : oA D qh2 (.inr (1, [.int 5, .int 0, .int 0])) H) (g3 : oA D qh3 (.inr (1, [.int 5, .int 0, .int 0])) H) (g4 : oA D qh4 (.inr (1, [.int 5, .int 0, .int 0])) H) (g5 : oA D qh5 (.inr (1, [.int 5, .int 0, .int 0])) H) (h3 : oA D q3 (.inl (cy 4, 30, .inr (.inr (.inr (.inr (fun _ => none)))))) H) :
    ∃ ad : NT, ad 0 0 = a ∧ wJ (cC 0) ad ∧ (∀ k i, i < cC 0 k → k ≠ 0 → sz ≤ ad k i) ∧ CW D cy ad s0C (fun _ _ => 0) H := by
  refine ⟨mk_adC a q1 c9 t9 q2 qh0 qh1 qh2 qh3 qh4 qh5 q3, rfl, ?_, ?_, ?_⟩
  · intro k i k' i' hi hi' e
    rcases cC_0 k i hi with ⟨rfl, rfl⟩ | ⟨rfl, rfl⟩ | ⟨rfl, rfl⟩ | ⟨rfl, rfl⟩ | ⟨rfl, rfl⟩ | ⟨rfl, rfl⟩ | ⟨rfl, rfl⟩ | ⟨rfl, rfl⟩ | ⟨rfl, rfl⟩ | ⟨rfl, rfl⟩ | ⟨rfl, rfl⟩ | ⟨rfl, rfl⟩ <;> rcases cC_0 k' i' hi' with ⟨rfl, rfl⟩ | ⟨rfl, rfl⟩ | ⟨rfl, rfl⟩ | ⟨rfl, rfl⟩ | ⟨rfl, rfl⟩ | ⟨rfl, rfl⟩ | ⟨rfl, rfl⟩ | ⟨rfl, rfl⟩ | ⟨rfl, rfl⟩ | ⟨rfl, rfl⟩ | ⟨rfl, rfl⟩ | ⟨rfl, rfl⟩ <;> first | exact ⟨rfl, rfl⟩ | (exfalso; simp [mk_adC] at e; omega)
  · intro k i hi h0
    rcases cC_0 k i hi with ⟨rfl, rfl⟩ | ⟨rfl, rfl⟩ | ⟨rfl, rfl⟩ | ⟨rfl, rfl⟩ | ⟨rfl, rfl⟩ | ⟨rfl, rfl⟩ | ⟨rfl, rfl⟩ | ⟨rfl, rfl⟩ | ⟨rfl, rfl⟩ | ⟨rfl, rfl⟩ | ⟨rfl, rfl⟩ | ⟨rfl, rfl⟩ <;> first | exact absurd rfl h0 | (simp [mk_adC]; omega)
  · intro k i hi
    rcases cC_0 k i hi with ⟨rfl, rfl⟩ | ⟨rfl, rfl⟩ | ⟨rfl, rfl⟩ | ⟨rfl, rfl⟩ | ⟨rfl, rfl⟩ | ⟨rfl, rfl⟩ | ⟨rfl, rfl⟩ | ⟨rfl, rfl⟩ | ⟨rfl, rfl⟩ | ⟨rfl, rfl⟩ | ⟨rfl, rfl⟩ | ⟨rfl, rfl⟩
    · have e0 : nI 0 = 0 := nI_0
      show oA D a (.inr (3, [.ref q1, .ref q2, .ref q3, .int (nI 0), .int 0, .int 10, .int 500, .int 20, .int 0])) H
      rw [e0]; exact ha
    · exact h1
    · exact h2.rowQ (fun j hj => by
        match j, hj with
        | 0, _ => rfl
        | 1, _ => rfl
        | 2, _ => rfl
        | 3, _ => rfl
        | 4, _ => rfl
        | 5, _ => rfl
        | _ + 6, h => exact absurd h (by omega))
    · exact h3.rowQ (fun j hj => by
        show none = if j < 0 then _ else none
        rw [if_neg (Nat.not_lt_zero j)])
    · exact h4
    · exact h5
    · exact g0
    · exact g1
    · exact g2
    · exact g3
    · exact g4
    · exact g5

set_option maxHeartbeats 4000000 in
set_option maxRecDepth 100000 in
/-- X3_init -/
theorem m_X3_init (l : Launch) (D : va_G) (cy : Nat → ClassId) (sz : Nat) (a : Nat) : Met l yX3_init wsX3_init ({ frames := 3, cells := 11, slots := 118, locals := 90 } : Room) (va_Pc [.ref a] (fun U => gK D cy U ∧ nK U ∧ (atSz sz (fun H => oA D a (.inr (3, [.null, .null, .null, .int 0, .int 0, .int 0, .int 0, .int 0, .int 0])) H)) U.heap)) (uQ none (fun H => ∃ ad : NT, ad 0 0 = a ∧ wJ (cC 0) ad ∧ (∀ k i, i < cC 0 k → k ≠ 0 → sz ≤ ad k i) ∧ CW D cy ad s0C (fun _ _ => 0) H) (nA a sz)) 11 118 (nA a sz) := by
  refine Met.ofW (cc := cX3_init) (maxL := 2) (ret := none) (by decide) rfl ?_
  intro p e s m args below meth c s₁ B9 hml hv
  obtain ⟨rfl, hK, ⟨hNest, hAO3, hAO4⟩, hsz, hB⟩ := hv
  have hx := B9.exec
  have hb := B9.bytes
  have hr := B9.returns
  have hts := atoms_spec (ws := wsX3_init) B9.pre
  have hown : s.vm.findClass RX3 = some m.cls := findClass_of_methodNamed B9.named
  have hlocks := B9.notSynchronized
  have hin9 : meth.name = "<init>" := (name_of_methodNamed B9.named B9.method).1
  subst hsz
  have hS : va_S (nA a s.heap.size) s.heap s.heap [] := va_S.rf
  have inX0 : ∀ w ∈ u_ws RX0 TX0 4, w ∈ wsX3_init := by decide +kernel
  have lk10 := hts (.fieldLink RX3 10 "Politecrawl" "buffer" "LPolitecrawl$Address;") (by decide +kernel)
  have inX3 : ∀ w ∈ u_ws RX3 TX3 9, w ∈ wsX3_init := by decide +kernel
  have lk18 := hts (.fieldLink RX3 18 "Politecrawl" "hosts" "[LPolitecrawl$Host;") (by decide +kernel)
  have inX1 : ∀ w ∈ u_ws RX1 TX1 3, w ∈ wsX3_init := by decide +kernel
  have lk25 := hts (.fieldLink RX3 25 "Politecrawl" "found" "[LPolitecrawl$Page;") (by decide +kernel)
  have lk29 := hts (.fieldLink RX3 29 "Politecrawl" "shortestPace" "I") (by decide +kernel)
  have lk33 := hts (.fieldLink RX3 33 "Politecrawl" "longestPace" "I") (by decide +kernel)
  have lk36 := hts (.fieldLink RX3 36 "Politecrawl" "budget" "I") (by decide +kernel)
  have hl := lv_entry ([.ref a]) (n := 2) (Nat.le_of_ble_eq_true rfl)
  rw [lg_entry_eq]
  generalize (lg_sl ([.ref a]) ++ List.replicate (2 - (lg_sl ([.ref a])).length) Slot.unset).toArray = ls at hl ⊢
  have hl : lv_has ls 2 [(0, .ref a)] := hl
  have ha9 : a < s.heap.size := va_at.lt hB
  refine lv_aload_n hx hb dX3_init_0 rfl (lv_at hl 0 rfl) ?_
  refine W.objInit hx hb hown (hts (.methodLink RX3 1 objectInit) (by decide +kernel)) (hts (.instanceMethod objectInit) (by decide +kernel)) (hts (.code objectInit ⟨#[0xb1]⟩ 1 none) (by decide +kernel)) rfl (by rw [hml]; exact hl.1) rfl dX3_init_1 (Nat.le_of_ble_eq_true rfl) (Nat.le_of_ble_eq_true rfl) ?_
  refine W.eq (g2 := F0 m 4 ls []) rfl ?_
  refine lv_aload_n hx hb dX3_init_4 rfl (lv_at hl 0 rfl) ?_
  refine g_new (D := D) (cy := cy) (C := RX0) (T := TX0) (N := 4) (ci := 0) (index := 7) (fs := [.null, .null, .int 0, .int 0]) hx hb hts inX0 tyX0 tyX0_ok hown (hts (.classLink RX3 7 RX0) (by decide +kernel)) (hts (.instantiable RX0 4) (by decide +kernel)) (hts (.initialized RX0) (by decide +kernel)) hK hS rfl (fun j hj => by match j, hj with | 0, _ => rfl | 1, _ => rfl | 2, _ => rfl | 3, _ => rfl | _ + 4, h => exact absurd h (by omega)) (Nat.le_of_ble_eq_true rfl) (Nat.le_of_ble_eq_true rfl) dX3_init_5 (fun q1 H1 e1 hc1 z1 o1 hS1 => ?_)
  have h_a_1 := oA.keep hB o1
  refine lv_dup hx hb dX3_init_8 rfl ?_
  have hq_2 : q1 < H1.size := va_at.lt hc1
  refine g_cu0 (va_runI (As := []) (rest := [.ref q1, .ref a]) ⟨hx, hb, hml, hown, hts⟩ (m_X0_init l D cy H1.size q1) (cwI 0 hts gX3_init_X0_init rfl rfl rfl (hts (.initialized RX0) (by decide +kernel)) (hts (.methodLink RX3 9 yX0_init) (by decide +kernel)) (hts (.instanceMethod yX0_init) (by decide +kernel)) rfl (by decide +kernel) ⟨(Nat.le_of_ble_eq_true rfl), (Nat.le_of_ble_eq_true rfl)⟩) (g_preS (As := [.ref q1]) (B := atSz H1.size (fun H => oA D q1 (.inr (0, [.null, .null, .int 0, .int 0])) H)) hK ⟨rfl, hc1⟩) rfl rfl hl.1 rfl (lv_room (Nat.le_of_ble_eq_true rfl)) dX3_init_9 ⟨(Nat.le_of_ble_eq_true rfl), (Nat.le_of_ble_eq_true rfl)⟩) hS1 (fun x _ hx => hx.elim (fun z => by rw [z]; exact (Or.inr (by omega))) (fun z => Or.inr (by omega))) (fun x hx => hx.elim (fun z => by rw [z]; exact (Or.inr (by omega))) (fun z => Or.inr (by omega))) (fun H2 locs2 hB2 hz2 hk2 hS2 => ?_)
  have h_a_2 := va_at.kept h_a_1 (hk2 _ (va_at.lt h_a_1) (fun z => z.elim (fun y => absurd y (by omega)) (fun y => absurd (va_at.lt h_a_1) (Nat.not_lt.mpr y))))
  obtain ⟨c9, t9, hc9a, ht9a, hct, hp1, hp2, hp3⟩ := hB2
  have hc9b : c9 < H2.size := va_at.lt hp2
  have ht9b : t9 < H2.size := va_at.lt hp3
  refine g_putF (C := RX3) (T := TX3) (N := 9) (ci := 3) (fs := [.null, .null, .null, .int 0, .int 0, .int 0, .int 0, .int 0, .int 0]) (A := (nA a s.heap.size)) hx hb hts inX3 tyX3 tyX3_ok nmX3 hown hK h_a_2 rfl hS2 (Or.inl rfl) 0 (by decide) lk10 rfl rfl hin9 rfl rfl rfl (Nat.le_of_ble_eq_true rfl) dX3_init_12 (fun H3 locs3 hc3 hu3 hS3 => ?_)
  have h_q1_3 := oA.off hp1 hu3 (by omega)
  have h_c9_3 := oA.off hp2 hu3 (by omega)
  have h_t9_3 := oA.off hp3 hu3 (by omega)
  have zz3 := hu3.1
  refine lv_aload_n hx hb dX3_init_15 rfl (lv_at hl 0 rfl) ?_
  refine lv_bipush (v := 6) hx hb dX3_init_16 (by decide) ?_
  refine g_newq (D := D) (C := RX1) (index := 16) (N := 6) (c0 := cy 3) hx hb hown (hts (.classLink RX3 16 RX1) (by decide +kernel)) hAO3 (hK.2 3 _ rfl).2 hS3 (by decide) (by decide) (by decide) (Nat.le_of_ble_eq_true rfl) (Nat.le_of_ble_eq_true rfl) dX3_init_18 (fun q2 H4 e4 hc4 z4 o4 hS4 => ?_)
  have h_a_4 := oA.keep hc3 o4
  have h_q1_4 := oA.keep h_q1_3 o4
  have h_c9_4 := oA.keep h_c9_3 o4
  have h_t9_4 := oA.keep h_t9_3 o4
  refine g_putF (C := RX3) (T := TX3) (N := 9) (ci := 3) (fs := [.ref q1, .null, .null, .int 0, .int 0, .int 0, .int 0, .int 0, .int 0]) (A := (nA a s.heap.size)) hx hb hts inX3 tyX3 tyX3_ok nmX3 hown hK h_a_4 rfl hS4 (Or.inl rfl) 1 (by decide) lk18 rfl rfl hin9 rfl rfl rfl (Nat.le_of_ble_eq_true rfl) dX3_init_21 (fun H5 locs5 hc5 hu5 hS5 => ?_)
  have h_q1_5 := oA.off h_q1_4 hu5 (by omega)
  have h_c9_5 := oA.off h_c9_4 hu5 (by omega)
  have h_t9_5 := oA.off h_t9_4 hu5 (by omega)
  have h_q2_5 := oA.off hc4 hu5 (by omega)
  have zz5 := hu5.1
  refine lv_iconst (v := 0) hx hb dX3_init_24 (by decide) ?_
  refine lv_istore_n (lv' := [(1, .int 0), (0, .ref a)]) hx hb dX3_init_25 rfl hl (by decide) rfl (fun ls hl => ?_)
  refine lv_iload_n hx hb dX3_init_26 rfl (lv_at hl 0 rfl) ?_
  refine lv_aload_n hx hb dX3_init_27 rfl (lv_at hl 1 rfl) ?_
  refine g_get (C := RX3) (T := TX3) (N := 9) (ci := 3) (fs := [.ref q1, .ref q2, .null, .int 0, .int 0, .int 0, .int 0, .int 0, .int 0]) hx hb hts inX3 hown hK hc5 rfl 1 (by decide) lk18 rfl rfl dX3_init_28 ?_
  refine g_alen (v := 6) hx hb hK 3 h_q2_5 rfl rfl dX3_init_31 ?_
  refine lv_icmp_ge (tgt := 54) hx hb dX3_init_32 (by decide) (fun c_32 => ?_) (fun c_32 => ?_)
  · exact absurd c_32 (by decide)
  · -- 32 f
    refine lv_aload_n hx hb dX3_init_35 rfl (lv_at hl 1 rfl) ?_
    refine g_get (C := RX3) (T := TX3) (N := 9) (ci := 3) (fs := [.ref q1, .ref q2, .null, .int 0, .int 0, .int 0, .int 0, .int 0, .int 0]) hx hb hts inX3 hown hK hc5 rfl 1 (by decide) lk18 rfl rfl dX3_init_36 ?_
    refine lv_iload_n hx hb dX3_init_39 rfl (lv_at hl 0 rfl) ?_
    refine g_new (D := D) (cy := cy) (C := RX1) (T := TX1) (N := 3) (ci := 1) (index := 16) (fs := [.int 0, .int 0, .int 0]) hx hb hts inX1 tyX1 tyX1_ok hown (hts (.classLink RX3 16 RX1) (by decide +kernel)) (hts (.instantiable RX1 3) (by decide +kernel)) (hts (.initialized RX1) (by decide +kernel)) hK hS5 rfl (fun j hj => by match j, hj with | 0, _ => rfl | 1, _ => rfl | 2, _ => rfl | _ + 3, h => exact absurd h (by omega)) (Nat.le_of_ble_eq_true rfl) (Nat.le_of_ble_eq_true rfl) dX3_init_40 (fun qh0 H6 e6 hc6 z6 o6 hS6 => ?_)
    have h_a_6 := oA.keep hc5 o6
    have h_q1_6 := oA.keep h_q1_5 o6
    have h_c9_6 := oA.keep h_c9_5 o6
    have h_t9_6 := oA.keep h_t9_5 o6
    have h_q2_6 := oA.keep h_q2_5 o6
    refine lv_dup hx hb dX3_init_43 rfl ?_
    have hq_7 : qh0 < H6.size := va_at.lt hc6
    refine g_cu0 (va_runIN (As := []) (rest := [.ref qh0, .int 0, .ref q2]) ⟨hx, hb, hml, hown, hts⟩ (m_X1_init l D cy H6.size qh0) ⟨va_cnB 0 hts gX3_init_X1_init_n22 rfl rfl rfl hNest (hts (.initialized RX1) (by decide +kernel)) (by decide +kernel) ⟨(Nat.le_of_ble_eq_true rfl), (Nat.le_of_ble_eq_true rfl)⟩, rfl, hts (.instanceMethod yX1_init) (by decide +kernel)⟩ (g_preS (As := [.ref qh0]) (B := atSz H6.size (fun H => oA D qh0 (.inr (1, [.int 0, .int 0, .int 0])) H)) hK ⟨rfl, hc6⟩) rfl rfl hl.1 rfl (lv_room (Nat.le_of_ble_eq_true rfl)) dX3_init_44 ⟨(Nat.le_of_ble_eq_true rfl), (Nat.le_of_ble_eq_true rfl)⟩) hS6 (fun x _ hx => hx.elim (fun z => by rw [z]; exact (Or.inr (by omega))) (fun z => Or.inr (by omega))) (fun x hx => hx.elim (fun z => by rw [z]; exact (Or.inr (by omega))) (fun z => Or.inr (by omega))) (fun H7 locs7 hB7 hz7 hk7 hS7 => ?_)
    have h_a_7 := va_at.kept h_a_6 (hk7 _ (va_at.lt h_a_6) (fun z => z.elim (fun y => absurd y (by omega)) (fun y => absurd (va_at.lt h_a_6) (Nat.not_lt.mpr y))))
    have h_q1_7 := va_at.kept h_q1_6 (hk7 _ (va_at.lt h_q1_6) (fun z => z.elim (fun y => absurd y (by omega)) (fun y => absurd (va_at.lt h_q1_6) (Nat.not_lt.mpr y))))
    have h_c9_7 := va_at.kept h_c9_6 (hk7 _ (va_at.lt h_c9_6) (fun z => z.elim (fun y => absurd y (by omega)) (fun y => absurd (va_at.lt h_c9_6) (Nat.not_lt.mpr y))))
    have h_t9_7 := va_at.kept h_t9_6 (hk7 _ (va_at.lt h_t9_6) (fun z => z.elim (fun y => absurd y (by omega)) (fun y => absurd (va_at.lt h_t9_6) (Nat.not_lt.mpr y))))
    have h_q2_7 := va_at.kept h_q2_6 (hk7 _ (va_at.lt h_q2_6) (fun z => z.elim (fun y => absurd y (by omega)) (fun y => absurd (va_at.lt h_q2_6) (Nat.not_lt.mpr y))))
    refine g_aast (A := (nA a s.heap.size)) (t0 := 3) (ci := 1) hx hb hK h_q2_7 rfl hB7 rfl hS7 (Or.inr (by omega)) w_in6_0 dX3_init_47 (fun H8 locs8 hc8 hu8 hS8 => ?_)
    have zz8 := hu8.1
    have h_a_8 := oA.off h_a_7 hu8 (by omega)
    have h_q1_8 := oA.off h_q1_7 hu8 (by omega)
    have h_c9_8 := oA.off h_c9_7 hu8 (by omega)
    have h_t9_8 := oA.off h_t9_7 hu8 (by omega)
    have h_qh0_8 := oA.off hB7 hu8 (by omega)
    refine lv_iinc (v := 1) (lv' := [(1, .int 1), (0, .ref a)]) hx hb dX3_init_48 hl (k := 0) rfl (by decide) (by decide) rfl (fun ls hl => ?_)
    refine lv_goto (tgt := 26) hx hb dX3_init_51 (by decide) ?_
    refine lv_iload_n hx hb dX3_init_26 rfl (lv_at hl 0 rfl) ?_
    refine lv_aload_n hx hb dX3_init_27 rfl (lv_at hl 1 rfl) ?_
    refine g_get (C := RX3) (T := TX3) (N := 9) (ci := 3) (fs := [.ref q1, .ref q2, .null, .int 0, .int 0, .int 0, .int 0, .int 0, .int 0]) hx hb hts inX3 hown hK h_a_8 rfl 1 (by decide) lk18 rfl rfl dX3_init_28 ?_
    refine g_alen (v := 6) hx hb hK 3 hc8 rfl rfl dX3_init_31 ?_
    refine lv_icmp_ge (tgt := 54) hx hb dX3_init_32 (by decide) (fun c_32' => ?_) (fun c_32' => ?_)
    · exact absurd c_32' (by decide)
    · -- 32 f
      refine lv_aload_n hx hb dX3_init_35 rfl (lv_at hl 1 rfl) ?_
      refine g_get (C := RX3) (T := TX3) (N := 9) (ci := 3) (fs := [.ref q1, .ref q2, .null, .int 0, .int 0, .int 0, .int 0, .int 0, .int 0]) hx hb hts inX3 hown hK h_a_8 rfl 1 (by decide) lk18 rfl rfl dX3_init_36 ?_
      refine lv_iload_n hx hb dX3_init_39 rfl (lv_at hl 0 rfl) ?_
      refine g_new (D := D) (cy := cy) (C := RX1) (T := TX1) (N := 3) (ci := 1) (index := 16) (fs := [.int 0, .int 0, .int 0]) hx hb hts inX1 tyX1 tyX1_ok hown (hts (.classLink RX3 16 RX1) (by decide +kernel)) (hts (.instantiable RX1 3) (by decide +kernel)) (hts (.initialized RX1) (by decide +kernel)) hK hS8 rfl (fun j hj => by match j, hj with | 0, _ => rfl | 1, _ => rfl | 2, _ => rfl | _ + 3, h => exact absurd h (by omega)) (Nat.le_of_ble_eq_true rfl) (Nat.le_of_ble_eq_true rfl) dX3_init_40 (fun qh1 H9 e9 hc9 z9 o9 hS9 => ?_)
      have h_a_9 := oA.keep h_a_8 o9
      have h_q1_9 := oA.keep h_q1_8 o9
      have h_c9_9 := oA.keep h_c9_8 o9
      have h_t9_9 := oA.keep h_t9_8 o9
      have h_q2_9 := oA.keep hc8 o9
      have h_qh0_9 := oA.keep h_qh0_8 o9
      refine lv_dup hx hb dX3_init_43 rfl ?_
      have hq_10 : qh1 < H9.size := va_at.lt hc9
      refine g_cu0 (va_runIN (As := []) (rest := [.ref qh1, .int 1, .ref q2]) ⟨hx, hb, hml, hown, hts⟩ (m_X1_init l D cy H9.size qh1) ⟨va_cnB 0 hts gX3_init_X1_init_n22 rfl rfl rfl hNest (hts (.initialized RX1) (by decide +kernel)) (by decide +kernel) ⟨(Nat.le_of_ble_eq_true rfl), (Nat.le_of_ble_eq_true rfl)⟩, rfl, hts (.instanceMethod yX1_init) (by decide +kernel)⟩ (g_preS (As := [.ref qh1]) (B := atSz H9.size (fun H => oA D qh1 (.inr (1, [.int 0, .int 0, .int 0])) H)) hK ⟨rfl, hc9⟩) rfl rfl hl.1 rfl (lv_room (Nat.le_of_ble_eq_true rfl)) dX3_init_44 ⟨(Nat.le_of_ble_eq_true rfl), (Nat.le_of_ble_eq_true rfl)⟩) hS9 (fun x _ hx => hx.elim (fun z => by rw [z]; exact (Or.inr (by omega))) (fun z => Or.inr (by omega))) (fun x hx => hx.elim (fun z => by rw [z]; exact (Or.inr (by omega))) (fun z => Or.inr (by omega))) (fun H10 locs10 hB10 hz10 hk10 hS10 => ?_)
      have h_a_10 := va_at.kept h_a_9 (hk10 _ (va_at.lt h_a_9) (fun z => z.elim (fun y => absurd y (by omega)) (fun y => absurd (va_at.lt h_a_9) (Nat.not_lt.mpr y))))
      have h_q1_10 := va_at.kept h_q1_9 (hk10 _ (va_at.lt h_q1_9) (fun z => z.elim (fun y => absurd y (by omega)) (fun y => absurd (va_at.lt h_q1_9) (Nat.not_lt.mpr y))))
      have h_c9_10 := va_at.kept h_c9_9 (hk10 _ (va_at.lt h_c9_9) (fun z => z.elim (fun y => absurd y (by omega)) (fun y => absurd (va_at.lt h_c9_9) (Nat.not_lt.mpr y))))
      have h_t9_10 := va_at.kept h_t9_9 (hk10 _ (va_at.lt h_t9_9) (fun z => z.elim (fun y => absurd y (by omega)) (fun y => absurd (va_at.lt h_t9_9) (Nat.not_lt.mpr y))))
      have h_q2_10 := va_at.kept h_q2_9 (hk10 _ (va_at.lt h_q2_9) (fun z => z.elim (fun y => absurd y (by omega)) (fun y => absurd (va_at.lt h_q2_9) (Nat.not_lt.mpr y))))
      have h_qh0_10 := va_at.kept h_qh0_9 (hk10 _ (va_at.lt h_qh0_9) (fun z => z.elim (fun y => absurd y (by omega)) (fun y => absurd (va_at.lt h_qh0_9) (Nat.not_lt.mpr y))))
      refine g_aast (A := (nA a s.heap.size)) (t0 := 3) (ci := 1) hx hb hK h_q2_10 rfl hB10 rfl hS10 (Or.inr (by omega)) w_in6_1 dX3_init_47 (fun H11 locs11 hc11 hu11 hS11 => ?_)
      have zz11 := hu11.1
      have h_a_11 := oA.off h_a_10 hu11 (by omega)
      have h_q1_11 := oA.off h_q1_10 hu11 (by omega)
      have h_c9_11 := oA.off h_c9_10 hu11 (by omega)
      have h_t9_11 := oA.off h_t9_10 hu11 (by omega)
      have h_qh0_11 := oA.off h_qh0_10 hu11 (by omega)
      have h_qh1_11 := oA.off hB10 hu11 (by omega)
      refine lv_iinc (v := 2) (lv' := [(1, .int 2), (0, .ref a)]) hx hb dX3_init_48 hl (k := 0) rfl (by decide) (by decide) rfl (fun ls hl => ?_)
      refine lv_goto (tgt := 26) hx hb dX3_init_51 (by decide) ?_
      refine lv_iload_n hx hb dX3_init_26 rfl (lv_at hl 0 rfl) ?_
      refine lv_aload_n hx hb dX3_init_27 rfl (lv_at hl 1 rfl) ?_
      refine g_get (C := RX3) (T := TX3) (N := 9) (ci := 3) (fs := [.ref q1, .ref q2, .null, .int 0, .int 0, .int 0, .int 0, .int 0, .int 0]) hx hb hts inX3 hown hK h_a_11 rfl 1 (by decide) lk18 rfl rfl dX3_init_28 ?_
      refine g_alen (v := 6) hx hb hK 3 hc11 rfl rfl dX3_init_31 ?_
      refine lv_icmp_ge (tgt := 54) hx hb dX3_init_32 (by decide) (fun c_32'' => ?_) (fun c_32'' => ?_)
      · exact absurd c_32'' (by decide)
      · -- 32 f
        refine lv_aload_n hx hb dX3_init_35 rfl (lv_at hl 1 rfl) ?_
        refine g_get (C := RX3) (T := TX3) (N := 9) (ci := 3) (fs := [.ref q1, .ref q2, .null, .int 0, .int 0, .int 0, .int 0, .int 0, .int 0]) hx hb hts inX3 hown hK h_a_11 rfl 1 (by decide) lk18 rfl rfl dX3_init_36 ?_
        refine lv_iload_n hx hb dX3_init_39 rfl (lv_at hl 0 rfl) ?_
        refine g_new (D := D) (cy := cy) (C := RX1) (T := TX1) (N := 3) (ci := 1) (index := 16) (fs := [.int 0, .int 0, .int 0]) hx hb hts inX1 tyX1 tyX1_ok hown (hts (.classLink RX3 16 RX1) (by decide +kernel)) (hts (.instantiable RX1 3) (by decide +kernel)) (hts (.initialized RX1) (by decide +kernel)) hK hS11 rfl (fun j hj => by match j, hj with | 0, _ => rfl | 1, _ => rfl | 2, _ => rfl | _ + 3, h => exact absurd h (by omega)) (Nat.le_of_ble_eq_true rfl) (Nat.le_of_ble_eq_true rfl) dX3_init_40 (fun qh2 H12 e12 hc12 z12 o12 hS12 => ?_)
        have h_a_12 := oA.keep h_a_11 o12
        have h_q1_12 := oA.keep h_q1_11 o12
        have h_c9_12 := oA.keep h_c9_11 o12
        have h_t9_12 := oA.keep h_t9_11 o12
        have h_q2_12 := oA.keep hc11 o12
        have h_qh0_12 := oA.keep h_qh0_11 o12
        have h_qh1_12 := oA.keep h_qh1_11 o12
        refine lv_dup hx hb dX3_init_43 rfl ?_
        have hq_13 : qh2 < H12.size := va_at.lt hc12
        refine g_cu0 (va_runIN (As := []) (rest := [.ref qh2, .int 2, .ref q2]) ⟨hx, hb, hml, hown, hts⟩ (m_X1_init l D cy H12.size qh2) ⟨va_cnB 0 hts gX3_init_X1_init_n22 rfl rfl rfl hNest (hts (.initialized RX1) (by decide +kernel)) (by decide +kernel) ⟨(Nat.le_of_ble_eq_true rfl), (Nat.le_of_ble_eq_true rfl)⟩, rfl, hts (.instanceMethod yX1_init) (by decide +kernel)⟩ (g_preS (As := [.ref qh2]) (B := atSz H12.size (fun H => oA D qh2 (.inr (1, [.int 0, .int 0, .int 0])) H)) hK ⟨rfl, hc12⟩) rfl rfl hl.1 rfl (lv_room (Nat.le_of_ble_eq_true rfl)) dX3_init_44 ⟨(Nat.le_of_ble_eq_true rfl), (Nat.le_of_ble_eq_true rfl)⟩) hS12 (fun x _ hx => hx.elim (fun z => by rw [z]; exact (Or.inr (by omega))) (fun z => Or.inr (by omega))) (fun x hx => hx.elim (fun z => by rw [z]; exact (Or.inr (by omega))) (fun z => Or.inr (by omega))) (fun H13 locs13 hB13 hz13 hk13 hS13 => ?_)
        have h_a_13 := va_at.kept h_a_12 (hk13 _ (va_at.lt h_a_12) (fun z => z.elim (fun y => absurd y (by omega)) (fun y => absurd (va_at.lt h_a_12) (Nat.not_lt.mpr y))))
        have h_q1_13 := va_at.kept h_q1_12 (hk13 _ (va_at.lt h_q1_12) (fun z => z.elim (fun y => absurd y (by omega)) (fun y => absurd (va_at.lt h_q1_12) (Nat.not_lt.mpr y))))
        have h_c9_13 := va_at.kept h_c9_12 (hk13 _ (va_at.lt h_c9_12) (fun z => z.elim (fun y => absurd y (by omega)) (fun y => absurd (va_at.lt h_c9_12) (Nat.not_lt.mpr y))))
        have h_t9_13 := va_at.kept h_t9_12 (hk13 _ (va_at.lt h_t9_12) (fun z => z.elim (fun y => absurd y (by omega)) (fun y => absurd (va_at.lt h_t9_12) (Nat.not_lt.mpr y))))
        have h_q2_13 := va_at.kept h_q2_12 (hk13 _ (va_at.lt h_q2_12) (fun z => z.elim (fun y => absurd y (by omega)) (fun y => absurd (va_at.lt h_q2_12) (Nat.not_lt.mpr y))))
        have h_qh0_13 := va_at.kept h_qh0_12 (hk13 _ (va_at.lt h_qh0_12) (fun z => z.elim (fun y => absurd y (by omega)) (fun y => absurd (va_at.lt h_qh0_12) (Nat.not_lt.mpr y))))
        have h_qh1_13 := va_at.kept h_qh1_12 (hk13 _ (va_at.lt h_qh1_12) (fun z => z.elim (fun y => absurd y (by omega)) (fun y => absurd (va_at.lt h_qh1_12) (Nat.not_lt.mpr y))))
        refine g_aast (A := (nA a s.heap.size)) (t0 := 3) (ci := 1) hx hb hK h_q2_13 rfl hB13 rfl hS13 (Or.inr (by omega)) w_in6_2 dX3_init_47 (fun H14 locs14 hc14 hu14 hS14 => ?_)
        have zz14 := hu14.1
        have h_a_14 := oA.off h_a_13 hu14 (by omega)
        have h_q1_14 := oA.off h_q1_13 hu14 (by omega)
        have h_c9_14 := oA.off h_c9_13 hu14 (by omega)
        have h_t9_14 := oA.off h_t9_13 hu14 (by omega)
        have h_qh0_14 := oA.off h_qh0_13 hu14 (by omega)
        have h_qh1_14 := oA.off h_qh1_13 hu14 (by omega)
        have h_qh2_14 := oA.off hB13 hu14 (by omega)
        refine lv_iinc (v := 3) (lv' := [(1, .int 3), (0, .ref a)]) hx hb dX3_init_48 hl (k := 0) rfl (by decide) (by decide) rfl (fun ls hl => ?_)
        refine lv_goto (tgt := 26) hx hb dX3_init_51 (by decide) ?_
        refine lv_iload_n hx hb dX3_init_26 rfl (lv_at hl 0 rfl) ?_
        refine lv_aload_n hx hb dX3_init_27 rfl (lv_at hl 1 rfl) ?_
        refine g_get (C := RX3) (T := TX3) (N := 9) (ci := 3) (fs := [.ref q1, .ref q2, .null, .int 0, .int 0, .int 0, .int 0, .int 0, .int 0]) hx hb hts inX3 hown hK h_a_14 rfl 1 (by decide) lk18 rfl rfl dX3_init_28 ?_
        refine g_alen (v := 6) hx hb hK 3 hc14 rfl rfl dX3_init_31 ?_
        refine lv_icmp_ge (tgt := 54) hx hb dX3_init_32 (by decide) (fun c_32''' => ?_) (fun c_32''' => ?_)
        · exact absurd c_32''' (by decide)
        · -- 32 f
          refine lv_aload_n hx hb dX3_init_35 rfl (lv_at hl 1 rfl) ?_
          refine g_get (C := RX3) (T := TX3) (N := 9) (ci := 3) (fs := [.ref q1, .ref q2, .null, .int 0, .int 0, .int 0, .int 0, .int 0, .int 0]) hx hb hts inX3 hown hK h_a_14 rfl 1 (by decide) lk18 rfl rfl dX3_init_36 ?_
          refine lv_iload_n hx hb dX3_init_39 rfl (lv_at hl 0 rfl) ?_
          refine g_new (D := D) (cy := cy) (C := RX1) (T := TX1) (N := 3) (ci := 1) (index := 16) (fs := [.int 0, .int 0, .int 0]) hx hb hts inX1 tyX1 tyX1_ok hown (hts (.classLink RX3 16 RX1) (by decide +kernel)) (hts (.instantiable RX1 3) (by decide +kernel)) (hts (.initialized RX1) (by decide +kernel)) hK hS14 rfl (fun j hj => by match j, hj with | 0, _ => rfl | 1, _ => rfl | 2, _ => rfl | _ + 3, h => exact absurd h (by omega)) (Nat.le_of_ble_eq_true rfl) (Nat.le_of_ble_eq_true rfl) dX3_init_40 (fun qh3 H15 e15 hc15 z15 o15 hS15 => ?_)
          have h_a_15 := oA.keep h_a_14 o15
          have h_q1_15 := oA.keep h_q1_14 o15
          have h_c9_15 := oA.keep h_c9_14 o15
          have h_t9_15 := oA.keep h_t9_14 o15
          have h_q2_15 := oA.keep hc14 o15
          have h_qh0_15 := oA.keep h_qh0_14 o15
          have h_qh1_15 := oA.keep h_qh1_14 o15
          have h_qh2_15 := oA.keep h_qh2_14 o15
          refine lv_dup hx hb dX3_init_43 rfl ?_
          have hq_16 : qh3 < H15.size := va_at.lt hc15
          refine g_cu0 (va_runIN (As := []) (rest := [.ref qh3, .int 3, .ref q2]) ⟨hx, hb, hml, hown, hts⟩ (m_X1_init l D cy H15.size qh3) ⟨va_cnB 0 hts gX3_init_X1_init_n22 rfl rfl rfl hNest (hts (.initialized RX1) (by decide +kernel)) (by decide +kernel) ⟨(Nat.le_of_ble_eq_true rfl), (Nat.le_of_ble_eq_true rfl)⟩, rfl, hts (.instanceMethod yX1_init) (by decide +kernel)⟩ (g_preS (As := [.ref qh3]) (B := atSz H15.size (fun H => oA D qh3 (.inr (1, [.int 0, .int 0, .int 0])) H)) hK ⟨rfl, hc15⟩) rfl rfl hl.1 rfl (lv_room (Nat.le_of_ble_eq_true rfl)) dX3_init_44 ⟨(Nat.le_of_ble_eq_true rfl), (Nat.le_of_ble_eq_true rfl)⟩) hS15 (fun x _ hx => hx.elim (fun z => by rw [z]; exact (Or.inr (by omega))) (fun z => Or.inr (by omega))) (fun x hx => hx.elim (fun z => by rw [z]; exact (Or.inr (by omega))) (fun z => Or.inr (by omega))) (fun H16 locs16 hB16 hz16 hk16 hS16 => ?_)
          have h_a_16 := va_at.kept h_a_15 (hk16 _ (va_at.lt h_a_15) (fun z => z.elim (fun y => absurd y (by omega)) (fun y => absurd (va_at.lt h_a_15) (Nat.not_lt.mpr y))))
          have h_q1_16 := va_at.kept h_q1_15 (hk16 _ (va_at.lt h_q1_15) (fun z => z.elim (fun y => absurd y (by omega)) (fun y => absurd (va_at.lt h_q1_15) (Nat.not_lt.mpr y))))
          have h_c9_16 := va_at.kept h_c9_15 (hk16 _ (va_at.lt h_c9_15) (fun z => z.elim (fun y => absurd y (by omega)) (fun y => absurd (va_at.lt h_c9_15) (Nat.not_lt.mpr y))))
          have h_t9_16 := va_at.kept h_t9_15 (hk16 _ (va_at.lt h_t9_15) (fun z => z.elim (fun y => absurd y (by omega)) (fun y => absurd (va_at.lt h_t9_15) (Nat.not_lt.mpr y))))
          have h_q2_16 := va_at.kept h_q2_15 (hk16 _ (va_at.lt h_q2_15) (fun z => z.elim (fun y => absurd y (by omega)) (fun y => absurd (va_at.lt h_q2_15) (Nat.not_lt.mpr y))))
          have h_qh0_16 := va_at.kept h_qh0_15 (hk16 _ (va_at.lt h_qh0_15) (fun z => z.elim (fun y => absurd y (by omega)) (fun y => absurd (va_at.lt h_qh0_15) (Nat.not_lt.mpr y))))
          have h_qh1_16 := va_at.kept h_qh1_15 (hk16 _ (va_at.lt h_qh1_15) (fun z => z.elim (fun y => absurd y (by omega)) (fun y => absurd (va_at.lt h_qh1_15) (Nat.not_lt.mpr y))))
          have h_qh2_16 := va_at.kept h_qh2_15 (hk16 _ (va_at.lt h_qh2_15) (fun z => z.elim (fun y => absurd y (by omega)) (fun y => absurd (va_at.lt h_qh2_15) (Nat.not_lt.mpr y))))
          refine g_aast (A := (nA a s.heap.size)) (t0 := 3) (ci := 1) hx hb hK h_q2_16 rfl hB16 rfl hS16 (Or.inr (by omega)) w_in6_3 dX3_init_47 (fun H17 locs17 hc17 hu17 hS17 => ?_)
          have zz17 := hu17.1
          have h_a_17 := oA.off h_a_16 hu17 (by omega)
          have h_q1_17 := oA.off h_q1_16 hu17 (by omega)
          have h_c9_17 := oA.off h_c9_16 hu17 (by omega)
          have h_t9_17 := oA.off h_t9_16 hu17 (by omega)
          have h_qh0_17 := oA.off h_qh0_16 hu17 (by omega)
          have h_qh1_17 := oA.off h_qh1_16 hu17 (by omega)
          have h_qh2_17 := oA.off h_qh2_16 hu17 (by omega)
          have h_qh3_17 := oA.off hB16 hu17 (by omega)
          refine lv_iinc (v := 4) (lv' := [(1, .int 4), (0, .ref a)]) hx hb dX3_init_48 hl (k := 0) rfl (by decide) (by decide) rfl (fun ls hl => ?_)
          refine lv_goto (tgt := 26) hx hb dX3_init_51 (by decide) ?_
          refine lv_iload_n hx hb dX3_init_26 rfl (lv_at hl 0 rfl) ?_
          refine lv_aload_n hx hb dX3_init_27 rfl (lv_at hl 1 rfl) ?_
          refine g_get (C := RX3) (T := TX3) (N := 9) (ci := 3) (fs := [.ref q1, .ref q2, .null, .int 0, .int 0, .int 0, .int 0, .int 0, .int 0]) hx hb hts inX3 hown hK h_a_17 rfl 1 (by decide) lk18 rfl rfl dX3_init_28 ?_
          refine g_alen (v := 6) hx hb hK 3 hc17 rfl rfl dX3_init_31 ?_
          refine lv_icmp_ge (tgt := 54) hx hb dX3_init_32 (by decide) (fun c_32'''' => ?_) (fun c_32'''' => ?_)
          · exact absurd c_32'''' (by decide)
          · -- 32 f
            refine lv_aload_n hx hb dX3_init_35 rfl (lv_at hl 1 rfl) ?_
            refine g_get (C := RX3) (T := TX3) (N := 9) (ci := 3) (fs := [.ref q1, .ref q2, .null, .int 0, .int 0, .int 0, .int 0, .int 0, .int 0]) hx hb hts inX3 hown hK h_a_17 rfl 1 (by decide) lk18 rfl rfl dX3_init_36 ?_
            refine lv_iload_n hx hb dX3_init_39 rfl (lv_at hl 0 rfl) ?_
            refine g_new (D := D) (cy := cy) (C := RX1) (T := TX1) (N := 3) (ci := 1) (index := 16) (fs := [.int 0, .int 0, .int 0]) hx hb hts inX1 tyX1 tyX1_ok hown (hts (.classLink RX3 16 RX1) (by decide +kernel)) (hts (.instantiable RX1 3) (by decide +kernel)) (hts (.initialized RX1) (by decide +kernel)) hK hS17 rfl (fun j hj => by match j, hj with | 0, _ => rfl | 1, _ => rfl | 2, _ => rfl | _ + 3, h => exact absurd h (by omega)) (Nat.le_of_ble_eq_true rfl) (Nat.le_of_ble_eq_true rfl) dX3_init_40 (fun qh4 H18 e18 hc18 z18 o18 hS18 => ?_)
            have h_a_18 := oA.keep h_a_17 o18
            have h_q1_18 := oA.keep h_q1_17 o18
            have h_c9_18 := oA.keep h_c9_17 o18
            have h_t9_18 := oA.keep h_t9_17 o18
            have h_q2_18 := oA.keep hc17 o18
            have h_qh0_18 := oA.keep h_qh0_17 o18
            have h_qh1_18 := oA.keep h_qh1_17 o18
            have h_qh2_18 := oA.keep h_qh2_17 o18
            have h_qh3_18 := oA.keep h_qh3_17 o18
            refine lv_dup hx hb dX3_init_43 rfl ?_
            have hq_19 : qh4 < H18.size := va_at.lt hc18
            refine g_cu0 (va_runIN (As := []) (rest := [.ref qh4, .int 4, .ref q2]) ⟨hx, hb, hml, hown, hts⟩ (m_X1_init l D cy H18.size qh4) ⟨va_cnB 0 hts gX3_init_X1_init_n22 rfl rfl rfl hNest (hts (.initialized RX1) (by decide +kernel)) (by decide +kernel) ⟨(Nat.le_of_ble_eq_true rfl), (Nat.le_of_ble_eq_true rfl)⟩, rfl, hts (.instanceMethod yX1_init) (by decide +kernel)⟩ (g_preS (As := [.ref qh4]) (B := atSz H18.size (fun H => oA D qh4 (.inr (1, [.int 0, .int 0, .int 0])) H)) hK ⟨rfl, hc18⟩) rfl rfl hl.1 rfl (lv_room (Nat.le_of_ble_eq_true rfl)) dX3_init_44 ⟨(Nat.le_of_ble_eq_true rfl), (Nat.le_of_ble_eq_true rfl)⟩) hS18 (fun x _ hx => hx.elim (fun z => by rw [z]; exact (Or.inr (by omega))) (fun z => Or.inr (by omega))) (fun x hx => hx.elim (fun z => by rw [z]; exact (Or.inr (by omega))) (fun z => Or.inr (by omega))) (fun H19 locs19 hB19 hz19 hk19 hS19 => ?_)
            have h_a_19 := va_at.kept h_a_18 (hk19 _ (va_at.lt h_a_18) (fun z => z.elim (fun y => absurd y (by omega)) (fun y => absurd (va_at.lt h_a_18) (Nat.not_lt.mpr y))))
            have h_q1_19 := va_at.kept h_q1_18 (hk19 _ (va_at.lt h_q1_18) (fun z => z.elim (fun y => absurd y (by omega)) (fun y => absurd (va_at.lt h_q1_18) (Nat.not_lt.mpr y))))
            have h_c9_19 := va_at.kept h_c9_18 (hk19 _ (va_at.lt h_c9_18) (fun z => z.elim (fun y => absurd y (by omega)) (fun y => absurd (va_at.lt h_c9_18) (Nat.not_lt.mpr y))))
            have h_t9_19 := va_at.kept h_t9_18 (hk19 _ (va_at.lt h_t9_18) (fun z => z.elim (fun y => absurd y (by omega)) (fun y => absurd (va_at.lt h_t9_18) (Nat.not_lt.mpr y))))
            have h_q2_19 := va_at.kept h_q2_18 (hk19 _ (va_at.lt h_q2_18) (fun z => z.elim (fun y => absurd y (by omega)) (fun y => absurd (va_at.lt h_q2_18) (Nat.not_lt.mpr y))))
            have h_qh0_19 := va_at.kept h_qh0_18 (hk19 _ (va_at.lt h_qh0_18) (fun z => z.elim (fun y => absurd y (by omega)) (fun y => absurd (va_at.lt h_qh0_18) (Nat.not_lt.mpr y))))
            have h_qh1_19 := va_at.kept h_qh1_18 (hk19 _ (va_at.lt h_qh1_18) (fun z => z.elim (fun y => absurd y (by omega)) (fun y => absurd (va_at.lt h_qh1_18) (Nat.not_lt.mpr y))))
            have h_qh2_19 := va_at.kept h_qh2_18 (hk19 _ (va_at.lt h_qh2_18) (fun z => z.elim (fun y => absurd y (by omega)) (fun y => absurd (va_at.lt h_qh2_18) (Nat.not_lt.mpr y))))
            have h_qh3_19 := va_at.kept h_qh3_18 (hk19 _ (va_at.lt h_qh3_18) (fun z => z.elim (fun y => absurd y (by omega)) (fun y => absurd (va_at.lt h_qh3_18) (Nat.not_lt.mpr y))))
            refine g_aast (A := (nA a s.heap.size)) (t0 := 3) (ci := 1) hx hb hK h_q2_19 rfl hB19 rfl hS19 (Or.inr (by omega)) w_in6_4 dX3_init_47 (fun H20 locs20 hc20 hu20 hS20 => ?_)
            have zz20 := hu20.1
            have h_a_20 := oA.off h_a_19 hu20 (by omega)
            have h_q1_20 := oA.off h_q1_19 hu20 (by omega)
            have h_c9_20 := oA.off h_c9_19 hu20 (by omega)
            have h_t9_20 := oA.off h_t9_19 hu20 (by omega)
            have h_qh0_20 := oA.off h_qh0_19 hu20 (by omega)
            have h_qh1_20 := oA.off h_qh1_19 hu20 (by omega)
            have h_qh2_20 := oA.off h_qh2_19 hu20 (by omega)
            have h_qh3_20 := oA.off h_qh3_19 hu20 (by omega)
            have h_qh4_20 := oA.off hB19 hu20 (by omega)
            refine lv_iinc (v := 5) (lv' := [(1, .int 5), (0, .ref a)]) hx hb dX3_init_48 hl (k := 0) rfl (by decide) (by decide) rfl (fun ls hl => ?_)
            refine lv_goto (tgt := 26) hx hb dX3_init_51 (by decide) ?_
            refine lv_iload_n hx hb dX3_init_26 rfl (lv_at hl 0 rfl) ?_
            refine lv_aload_n hx hb dX3_init_27 rfl (lv_at hl 1 rfl) ?_
            refine g_get (C := RX3) (T := TX3) (N := 9) (ci := 3) (fs := [.ref q1, .ref q2, .null, .int 0, .int 0, .int 0, .int 0, .int 0, .int 0]) hx hb hts inX3 hown hK h_a_20 rfl 1 (by decide) lk18 rfl rfl dX3_init_28 ?_
            refine g_alen (v := 6) hx hb hK 3 hc20 rfl rfl dX3_init_31 ?_
            refine lv_icmp_ge (tgt := 54) hx hb dX3_init_32 (by decide) (fun c_32''''' => ?_) (fun c_32''''' => ?_)
            · exact absurd c_32''''' (by decide)
            · -- 32 f
              refine lv_aload_n hx hb dX3_init_35 rfl (lv_at hl 1 rfl) ?_
              refine g_get (C := RX3) (T := TX3) (N := 9) (ci := 3) (fs := [.ref q1, .ref q2, .null, .int 0, .int 0, .int 0, .int 0, .int 0, .int 0]) hx hb hts inX3 hown hK h_a_20 rfl 1 (by decide) lk18 rfl rfl dX3_init_36 ?_
              refine lv_iload_n hx hb dX3_init_39 rfl (lv_at hl 0 rfl) ?_
              refine g_new (D := D) (cy := cy) (C := RX1) (T := TX1) (N := 3) (ci := 1) (index := 16) (fs := [.int 0, .int 0, .int 0]) hx hb hts inX1 tyX1 tyX1_ok hown (hts (.classLink RX3 16 RX1) (by decide +kernel)) (hts (.instantiable RX1 3) (by decide +kernel)) (hts (.initialized RX1) (by decide +kernel)) hK hS20 rfl (fun j hj => by match j, hj with | 0, _ => rfl | 1, _ => rfl | 2, _ => rfl | _ + 3, h => exact absurd h (by omega)) (Nat.le_of_ble_eq_true rfl) (Nat.le_of_ble_eq_true rfl) dX3_init_40 (fun qh5 H21 e21 hc21 z21 o21 hS21 => ?_)
              have h_a_21 := oA.keep h_a_20 o21
              have h_q1_21 := oA.keep h_q1_20 o21
              have h_c9_21 := oA.keep h_c9_20 o21
              have h_t9_21 := oA.keep h_t9_20 o21
              have h_q2_21 := oA.keep hc20 o21
              have h_qh0_21 := oA.keep h_qh0_20 o21
              have h_qh1_21 := oA.keep h_qh1_20 o21
              have h_qh2_21 := oA.keep h_qh2_20 o21
              have h_qh3_21 := oA.keep h_qh3_20 o21
              have h_qh4_21 := oA.keep h_qh4_20 o21
              refine lv_dup hx hb dX3_init_43 rfl ?_
              have hq_22 : qh5 < H21.size := va_at.lt hc21
              refine g_cu0 (va_runIN (As := []) (rest := [.ref qh5, .int 5, .ref q2]) ⟨hx, hb, hml, hown, hts⟩ (m_X1_init l D cy H21.size qh5) ⟨va_cnB 0 hts gX3_init_X1_init_n22 rfl rfl rfl hNest (hts (.initialized RX1) (by decide +kernel)) (by decide +kernel) ⟨(Nat.le_of_ble_eq_true rfl), (Nat.le_of_ble_eq_true rfl)⟩, rfl, hts (.instanceMethod yX1_init) (by decide +kernel)⟩ (g_preS (As := [.ref qh5]) (B := atSz H21.size (fun H => oA D qh5 (.inr (1, [.int 0, .int 0, .int 0])) H)) hK ⟨rfl, hc21⟩) rfl rfl hl.1 rfl (lv_room (Nat.le_of_ble_eq_true rfl)) dX3_init_44 ⟨(Nat.le_of_ble_eq_true rfl), (Nat.le_of_ble_eq_true rfl)⟩) hS21 (fun x _ hx => hx.elim (fun z => by rw [z]; exact (Or.inr (by omega))) (fun z => Or.inr (by omega))) (fun x hx => hx.elim (fun z => by rw [z]; exact (Or.inr (by omega))) (fun z => Or.inr (by omega))) (fun H22 locs22 hB22 hz22 hk22 hS22 => ?_)
              have h_a_22 := va_at.kept h_a_21 (hk22 _ (va_at.lt h_a_21) (fun z => z.elim (fun y => absurd y (by omega)) (fun y => absurd (va_at.lt h_a_21) (Nat.not_lt.mpr y))))
              have h_q1_22 := va_at.kept h_q1_21 (hk22 _ (va_at.lt h_q1_21) (fun z => z.elim (fun y => absurd y (by omega)) (fun y => absurd (va_at.lt h_q1_21) (Nat.not_lt.mpr y))))
              have h_c9_22 := va_at.kept h_c9_21 (hk22 _ (va_at.lt h_c9_21) (fun z => z.elim (fun y => absurd y (by omega)) (fun y => absurd (va_at.lt h_c9_21) (Nat.not_lt.mpr y))))
              have h_t9_22 := va_at.kept h_t9_21 (hk22 _ (va_at.lt h_t9_21) (fun z => z.elim (fun y => absurd y (by omega)) (fun y => absurd (va_at.lt h_t9_21) (Nat.not_lt.mpr y))))
              have h_q2_22 := va_at.kept h_q2_21 (hk22 _ (va_at.lt h_q2_21) (fun z => z.elim (fun y => absurd y (by omega)) (fun y => absurd (va_at.lt h_q2_21) (Nat.not_lt.mpr y))))
              have h_qh0_22 := va_at.kept h_qh0_21 (hk22 _ (va_at.lt h_qh0_21) (fun z => z.elim (fun y => absurd y (by omega)) (fun y => absurd (va_at.lt h_qh0_21) (Nat.not_lt.mpr y))))
              have h_qh1_22 := va_at.kept h_qh1_21 (hk22 _ (va_at.lt h_qh1_21) (fun z => z.elim (fun y => absurd y (by omega)) (fun y => absurd (va_at.lt h_qh1_21) (Nat.not_lt.mpr y))))
              have h_qh2_22 := va_at.kept h_qh2_21 (hk22 _ (va_at.lt h_qh2_21) (fun z => z.elim (fun y => absurd y (by omega)) (fun y => absurd (va_at.lt h_qh2_21) (Nat.not_lt.mpr y))))
              have h_qh3_22 := va_at.kept h_qh3_21 (hk22 _ (va_at.lt h_qh3_21) (fun z => z.elim (fun y => absurd y (by omega)) (fun y => absurd (va_at.lt h_qh3_21) (Nat.not_lt.mpr y))))
              have h_qh4_22 := va_at.kept h_qh4_21 (hk22 _ (va_at.lt h_qh4_21) (fun z => z.elim (fun y => absurd y (by omega)) (fun y => absurd (va_at.lt h_qh4_21) (Nat.not_lt.mpr y))))
              refine g_aast (A := (nA a s.heap.size)) (t0 := 3) (ci := 1) hx hb hK h_q2_22 rfl hB22 rfl hS22 (Or.inr (by omega)) w_in6_5 dX3_init_47 (fun H23 locs23 hc23 hu23 hS23 => ?_)
              have zz23 := hu23.1
              have h_a_23 := oA.off h_a_22 hu23 (by omega)
              have h_q1_23 := oA.off h_q1_22 hu23 (by omega)
              have h_c9_23 := oA.off h_c9_22 hu23 (by omega)
              have h_t9_23 := oA.off h_t9_22 hu23 (by omega)
              have h_qh0_23 := oA.off h_qh0_22 hu23 (by omega)
              have h_qh1_23 := oA.off h_qh1_22 hu23 (by omega)
              have h_qh2_23 := oA.off h_qh2_22 hu23 (by omega)
              have h_qh3_23 := oA.off h_qh3_22 hu23 (by omega)
              have h_qh4_23 := oA.off h_qh4_22 hu23 (by omega)
              have h_qh5_23 := oA.off hB22 hu23 (by omega)
              refine lv_iinc (v := 6) (lv' := [(1, .int 6), (0, .ref a)]) hx hb dX3_init_48 hl (k := 0) rfl (by decide) (by decide) rfl (fun ls hl => ?_)
              refine lv_goto (tgt := 26) hx hb dX3_init_51 (by decide) ?_
              refine lv_iload_n hx hb dX3_init_26 rfl (lv_at hl 0 rfl) ?_
              refine lv_aload_n hx hb dX3_init_27 rfl (lv_at hl 1 rfl) ?_
              refine g_get (C := RX3) (T := TX3) (N := 9) (ci := 3) (fs := [.ref q1, .ref q2, .null, .int 0, .int 0, .int 0, .int 0, .int 0, .int 0]) hx hb hts inX3 hown hK h_a_23 rfl 1 (by decide) lk18 rfl rfl dX3_init_28 ?_
              refine g_alen (v := 6) hx hb hK 3 hc23 rfl rfl dX3_init_31 ?_
              refine lv_icmp_ge (tgt := 54) hx hb dX3_init_32 (by decide) (fun c_32'''''' => ?_) (fun c_32'''''' => ?_)
              · -- 32 t
                refine lv_aload_n hx hb dX3_init_54 rfl (lv_at hl 1 rfl) ?_
                refine lv_bipush (v := 30) hx hb dX3_init_55 (by decide) ?_
                refine g_newq (D := D) (C := RX2) (index := 23) (N := 30) (c0 := cy 4) hx hb hown (hts (.classLink RX3 23 RX2) (by decide +kernel)) hAO4 (hK.2 4 _ rfl).2 hS23 (by decide) (by decide) (by decide) (Nat.le_of_ble_eq_true rfl) (Nat.le_of_ble_eq_true rfl) dX3_init_57 (fun q3 H24 e24 hc24 z24 o24 hS24 => ?_)
                have h_a_24 := oA.keep h_a_23 o24
                have h_q1_24 := oA.keep h_q1_23 o24
                have h_c9_24 := oA.keep h_c9_23 o24
                have h_t9_24 := oA.keep h_t9_23 o24
                have h_q2_24 := oA.keep hc23 o24
                have h_qh0_24 := oA.keep h_qh0_23 o24
                have h_qh1_24 := oA.keep h_qh1_23 o24
                have h_qh2_24 := oA.keep h_qh2_23 o24
                have h_qh3_24 := oA.keep h_qh3_23 o24
                have h_qh4_24 := oA.keep h_qh4_23 o24
                have h_qh5_24 := oA.keep h_qh5_23 o24
                refine g_putF (C := RX3) (T := TX3) (N := 9) (ci := 3) (fs := [.ref q1, .ref q2, .null, .int 0, .int 0, .int 0, .int 0, .int 0, .int 0]) (A := (nA a s.heap.size)) hx hb hts inX3 tyX3 tyX3_ok nmX3 hown hK h_a_24 rfl hS24 (Or.inl rfl) 2 (by decide) lk25 rfl rfl hin9 rfl rfl rfl (Nat.le_of_ble_eq_true rfl) dX3_init_60 (fun H25 locs25 hc25 hu25 hS25 => ?_)
                have h_q1_25 := oA.off h_q1_24 hu25 (by omega)
                have h_c9_25 := oA.off h_c9_24 hu25 (by omega)
                have h_t9_25 := oA.off h_t9_24 hu25 (by omega)
                have h_q2_25 := oA.off h_q2_24 hu25 (by omega)
                have h_qh0_25 := oA.off h_qh0_24 hu25 (by omega)
                have h_qh1_25 := oA.off h_qh1_24 hu25 (by omega)
                have h_qh2_25 := oA.off h_qh2_24 hu25 (by omega)
                have h_qh3_25 := oA.off h_qh3_24 hu25 (by omega)
                have h_qh4_25 := oA.off h_qh4_24 hu25 (by omega)
                have h_qh5_25 := oA.off h_qh5_24 hu25 (by omega)
                have h_q3_25 := oA.off hc24 hu25 (by omega)
                have zz25 := hu25.1
                refine lv_aload_n hx hb dX3_init_63 rfl (lv_at hl 1 rfl) ?_
                refine lv_bipush (v := 10) hx hb dX3_init_64 (by decide) ?_
                refine g_put (C := RX3) (T := TX3) (N := 9) (ci := 3) (fs := [.ref q1, .ref q2, .ref q3, .int 0, .int 0, .int 0, .int 0, .int 0, .int 0]) (A := (nA a s.heap.size)) hx hb hts inX3 tyX3 tyX3_ok nmX3 hown hK hc25 rfl hS25 (Or.inl rfl) 5 (by decide) lk29 rfl rfl rfl rfl (Nat.le_of_ble_eq_true rfl) dX3_init_66 (fun H26 locs26 hc26 hu26 hS26 => ?_)
                have h_q1_26 := oA.off h_q1_25 hu26 (by omega)
                have h_c9_26 := oA.off h_c9_25 hu26 (by omega)
                have h_t9_26 := oA.off h_t9_25 hu26 (by omega)
                have h_q2_26 := oA.off h_q2_25 hu26 (by omega)
                have h_qh0_26 := oA.off h_qh0_25 hu26 (by omega)
                have h_qh1_26 := oA.off h_qh1_25 hu26 (by omega)
                have h_qh2_26 := oA.off h_qh2_25 hu26 (by omega)
                have h_qh3_26 := oA.off h_qh3_25 hu26 (by omega)
                have h_qh4_26 := oA.off h_qh4_25 hu26 (by omega)
                have h_qh5_26 := oA.off h_qh5_25 hu26 (by omega)
                have h_q3_26 := oA.off h_q3_25 hu26 (by omega)
                have zz26 := hu26.1
                refine lv_aload_n hx hb dX3_init_69 rfl (lv_at hl 1 rfl) ?_
                refine lv_sipush (v := 500) hx hb dX3_init_70 (by decide) ?_
                refine g_put (C := RX3) (T := TX3) (N := 9) (ci := 3) (fs := [.ref q1, .ref q2, .ref q3, .int 0, .int 0, .int 10, .int 0, .int 0, .int 0]) (A := (nA a s.heap.size)) hx hb hts inX3 tyX3 tyX3_ok nmX3 hown hK hc26 rfl hS26 (Or.inl rfl) 6 (by decide) lk33 rfl rfl rfl rfl (Nat.le_of_ble_eq_true rfl) dX3_init_73 (fun H27 locs27 hc27 hu27 hS27 => ?_)
                have h_q1_27 := oA.off h_q1_26 hu27 (by omega)
                have h_c9_27 := oA.off h_c9_26 hu27 (by omega)
                have h_t9_27 := oA.off h_t9_26 hu27 (by omega)
                have h_q2_27 := oA.off h_q2_26 hu27 (by omega)
                have h_qh0_27 := oA.off h_qh0_26 hu27 (by omega)
                have h_qh1_27 := oA.off h_qh1_26 hu27 (by omega)
                have h_qh2_27 := oA.off h_qh2_26 hu27 (by omega)
                have h_qh3_27 := oA.off h_qh3_26 hu27 (by omega)
                have h_qh4_27 := oA.off h_qh4_26 hu27 (by omega)
                have h_qh5_27 := oA.off h_qh5_26 hu27 (by omega)
                have h_q3_27 := oA.off h_q3_26 hu27 (by omega)
                have zz27 := hu27.1
                refine lv_aload_n hx hb dX3_init_76 rfl (lv_at hl 1 rfl) ?_
                refine lv_bipush (v := 20) hx hb dX3_init_77 (by decide) ?_
                refine g_put (C := RX3) (T := TX3) (N := 9) (ci := 3) (fs := [.ref q1, .ref q2, .ref q3, .int 0, .int 0, .int 10, .int 500, .int 0, .int 0]) (A := (nA a s.heap.size)) hx hb hts inX3 tyX3 tyX3_ok nmX3 hown hK hc27 rfl hS27 (Or.inl rfl) 7 (by decide) lk36 rfl rfl rfl rfl (Nat.le_of_ble_eq_true rfl) dX3_init_79 (fun H28 locs28 hc28 hu28 hS28 => ?_)
                have h_q1_28 := oA.off h_q1_27 hu28 (by omega)
                have h_c9_28 := oA.off h_c9_27 hu28 (by omega)
                have h_t9_28 := oA.off h_t9_27 hu28 (by omega)
                have h_q2_28 := oA.off h_q2_27 hu28 (by omega)
                have h_qh0_28 := oA.off h_qh0_27 hu28 (by omega)
                have h_qh1_28 := oA.off h_qh1_27 hu28 (by omega)
                have h_qh2_28 := oA.off h_qh2_27 hu28 (by omega)
                have h_qh3_28 := oA.off h_qh3_27 hu28 (by omega)
                have h_qh4_28 := oA.off h_qh4_27 hu28 (by omega)
                have h_qh5_28 := oA.off h_qh5_27 hu28 (by omega)
                have h_q3_28 := oA.off h_q3_27 hu28 (by omega)
                have zz28 := hu28.1
                exact g_vretU hx hb hr hlocks hS28 (mk_C (by omega) (by omega) (by omega) hct (by omega) (by omega) (by omega) (by omega) (by omega) (by omega) (by omega) (by omega) (by omega) (by omega) (by omega) hc28 h_q1_28 h_c9_28 h_t9_28 h_q2_28 h_qh0_28 h_qh1_28 h_qh2_28 h_qh3_28 h_qh4_28 h_qh5_28 h_q3_28) (Nat.le_of_ble_eq_true rfl) (Nat.le_of_ble_eq_true rfl) dX3_init_82
              · exact absurd c_32'''''' (by decide)
