/-! an address copied -/

/-- the words of a clone -/
def cK (U : State) : Prop := va_Nw (.castable "[C" "java/lang/Cloneable") U ∧ va_Nw (.castable "[I" "java/lang/Cloneable") U
def cA4 (a b c2 t2 sz : Nat) : Nat → Prop := fun q => q = a ∨ q = b ∨ q = c2 ∨ q = t2 ∨ sz ≤ q

set_option maxHeartbeats 4000000 in
set_option maxRecDepth 100000 in
/-- X0_init_ -/
theorem m_X0_init_ (l : Launch) (D : va_G) (cy : Nat → ClassId) (sz : Nat) (a b c2 t2 : Nat) (ch st : Nat → Int32) (len seg : Nat) (n1 : b ≠ a) (n2 : c2 ≠ a) (n3 : t2 ≠ a) (n4 : c2 ≠ b) (n5 : t2 ≠ b) (n6 : t2 ≠ c2) (hfc : ∀ j, j < 30 → fits .char (.int (ch j)) = true) : Met l yX0_init_ wsX0_init_ ({ frames := 1, cells := 2, slots := 60, locals := 40 } : Room) (va_Pc [.ref a, .ref b] (fun U => gK D cy U ∧ cK U ∧ (atSz sz (fun H => oA D a (.inr (0, [.null, .null, .int 0, .int 0])) H ∧ pA D cy b c2 t2 ch st len seg H)) U.heap)) (uQ none (fun H => ∃ c9 t9 : Nat, sz ≤ c9 ∧ sz ≤ t9 ∧ c9 ≠ t9 ∧ pA D cy a c9 t9 ch st len seg H ∧ pA D cy b c2 t2 ch st len seg H) (cA4 a b c2 t2 sz)) 2 60 (cA4 a b c2 t2 sz) := by
  refine Met.ofW (cc := cX0_init_) (maxL := 2) (ret := none) (by decide) rfl ?_
  intro p e s m args below meth c s₁ B9 hml hv
  obtain ⟨rfl, hK, ⟨hcc, hci⟩, hsz, hB⟩ := hv
  have hx := B9.exec
  have hb := B9.bytes
  have hr := B9.returns
  have hts := atoms_spec (ws := wsX0_init_) B9.pre
  have hown : s.vm.findClass RX0 = some m.cls := findClass_of_methodNamed B9.named
  have hlocks := B9.notSynchronized
  have hin9 : meth.name = "<init>" := (name_of_methodNamed B9.named B9.method).1
  subst hsz
  have hS : va_S (cA4 a b c2 t2 s.heap.size) s.heap s.heap [] := va_S.rf
  have lk9 := hts (.fieldLink RX0 9 "Politecrawl$Address" "characters" "[C") (by decide +kernel)
  have inX0 : ∀ w ∈ u_ws RX0 TX0 4, w ∈ wsX0_init_ := by decide +kernel
  have lk15 := hts (.fieldLink RX0 15 "Politecrawl$Address" "starts" "[I") (by decide +kernel)
  have lk26 := hts (.fieldLink RX0 26 "Politecrawl$Address" "length" "I") (by decide +kernel)
  have lk30 := hts (.fieldLink RX0 30 "Politecrawl$Address" "segmentCount" "I") (by decide +kernel)
  have hl := lv_entry ([.ref a, .ref b]) (n := 2) (Nat.le_of_ble_eq_true rfl)
  rw [lg_entry_eq]
  generalize (lg_sl ([.ref a, .ref b]) ++ List.replicate (2 - (lg_sl ([.ref a, .ref b])).length) Slot.unset).toArray = ls at hl ⊢
  have hl : lv_has ls 2 [(0, .ref a), (1, .ref b)] := hl
  refine lv_aload_n hx hb dX0_init__0 rfl (lv_at hl 0 rfl) ?_
  refine W.objInit hx hb hown (hts (.methodLink RX0 3 objectInit) (by decide +kernel)) (hts (.instanceMethod objectInit) (by decide +kernel)) (hts (.code objectInit ⟨#[0xb1]⟩ 1 none) (by decide +kernel)) rfl (by rw [hml]; exact hl.1) rfl dX0_init__1 (Nat.le_of_ble_eq_true rfl) (Nat.le_of_ble_eq_true rfl) ?_
  refine W.eq (g2 := F0 m 4 ls []) rfl ?_
  refine lv_aload_n hx hb dX0_init__4 rfl (lv_at hl 0 rfl) ?_
  refine lv_aload_n hx hb dX0_init__5 rfl (lv_at hl 1 rfl) ?_
  refine g_get (C := RX0) (T := TX0) (N := 4) (ci := 0) (fs := [.ref c2, .ref t2, .int (nI len), .int (nI seg)]) hx hb hts inX0 hown hK hB.2.1 rfl 0 (by decide) lk9 rfl rfl dX0_init__6 ?_
  refine va_clone (D := D) (cl := vwCl) (A := (cA4 a b c2 t2 s.heap.size)) (cA := cy 0) (x := (30, .inl ch)) (ty := .char) (a := c2) (ws := [(a, .inr (0, [.null, .null, .int 0, .int 0])), (b, .inr (0, [.ref c2, .ref t2, .int (nI len), .int (nI seg)])), (c2, .inl (cy 0, 30, .inl ch)), (t2, .inl (cy 1, 30, .inl st))]) (H0 := s.heap) (tys := gT cy) (q0 := 2) (t0 := 0) (ad := "[C") hx hb (by rw [hml]; exact hl.1.symm) hown (hts (.methodLink RX0 19 ⟨"[C", "clone", "()Ljava/lang/Object;"⟩) (by decide +kernel)) (hts (.sameMethod "[C" "java/lang/Object" "clone" "()Ljava/lang/Object;") (by decide +kernel)) (hts (.native ⟨"java/lang/Object", "clone", "()Ljava/lang/Object;"⟩) (by decide +kernel)) (hts (.instanceMethod ⟨"java/lang/Object", "clone", "()Ljava/lang/Object;"⟩) (by decide +kernel)) (hts (.selects "[C" ⟨"[C", "clone", "()Ljava/lang/Object;"⟩ ⟨"java/lang/Object", "clone", "()Ljava/lang/Object;"⟩) (by decide +kernel)) hcc hK (pl_c hB.1 (pl_c hB.2.1 (pl_c hB.2.2.1 (pl_c hB.2.2.2 pl_n)))) (vd_c (Or.inl rfl) (vn_c n1 (vn_c n2 (vn_c n3 vn_n))) (vd_c (Or.inr (Or.inl rfl)) (vn_c n4 (vn_c n5 vn_n)) (vd_c (Or.inr (Or.inr (Or.inl rfl))) (vn_c n6 vn_n) (vd_c (Or.inr (Or.inr (Or.inr (Or.inl rfl)))) vn_n vd_n)))) hS (fun q h => Or.inr (Or.inr (Or.inr (Or.inr h)))) rfl rfl (va_nm_char (hK.2 0 _ rfl).2) (fun i9 v9 hv9 => va_fit (cA := cy 0) (n := 30) (F := fun j => .int (ch j)) (fun i hi => hfc i hi) i9 v9 hv9) (Nat.le_of_ble_eq_true rfl) (Nat.le_of_ble_eq_true rfl) (Nat.le_of_ble_eq_true rfl) (Nat.le_of_ble_eq_true rfl) dX0_init__9 (fun c9 H1 _ hP1 hD1 hS1 => ?_)
  have h_a_1 := hP1 0 (a, _) rfl
  have ne_a_c9 : a ≠ c9 := fun z => absurd (hD1.1 0 4 (a, _) (c9, _) rfl rfl z) (by decide)
  have h_b_1 := hP1 1 (b, _) rfl
  have ne_b_c9 : b ≠ c9 := fun z => absurd (hD1.1 1 4 (b, _) (c9, _) rfl rfl z) (by decide)
  have h_c2_1 := hP1 2 (c2, _) rfl
  have ne_c2_c9 : c2 ≠ c9 := fun z => absurd (hD1.1 2 4 (c2, _) (c9, _) rfl rfl z) (by decide)
  have h_t2_1 := hP1 3 (t2, _) rfl
  have ne_t2_c9 : t2 ≠ c9 := fun z => absurd (hD1.1 3 4 (t2, _) (c9, _) rfl rfl z) (by decide)
  have hc1 := hP1 4 (c9, _) rfl
  have hA_c9 : (cA4 a b c2 t2 s.heap.size) c9 := hD1.2 4 (c9, _) rfl
  refine va_castA (q0 := 0) (nm := "[C") hx hb hown (hts (.classLink RX0 20 "[C") (by decide +kernel)) (g1 hc1) rfl (va_nm_char (hK.2 0 _ rfl).2) dX0_init__12 ?_
  refine g_putF (C := RX0) (T := TX0) (N := 4) (ci := 0) (fs := [.null, .null, .int 0, .int 0]) (A := (cA4 a b c2 t2 s.heap.size)) hx hb hts inX0 tyX0 tyX0_ok nmX0 hown hK h_a_1 rfl hS1 (Or.inl rfl) 0 (by decide) lk9 rfl rfl hin9 rfl rfl rfl (Nat.le_of_ble_eq_true rfl) dX0_init__15 (fun H2 locs2 hc2 hu2 hS2 => ?_)
  have h_b_2 := oA.off h_b_1 hu2 n1
  have h_c2_2 := oA.off h_c2_1 hu2 n2
  have h_t2_2 := oA.off h_t2_1 hu2 n3
  have h_c9_2 := oA.off hc1 hu2 (Ne.symm ne_a_c9)
  have zz2 := hu2.1
  refine lv_aload_n hx hb dX0_init__18 rfl (lv_at hl 0 rfl) ?_
  refine lv_aload_n hx hb dX0_init__19 rfl (lv_at hl 1 rfl) ?_
  refine g_get (C := RX0) (T := TX0) (N := 4) (ci := 0) (fs := [.ref c2, .ref t2, .int (nI len), .int (nI seg)]) hx hb hts inX0 hown hK h_b_2 rfl 1 (by decide) lk15 rfl rfl dX0_init__20 ?_
  refine va_clone (D := D) (cl := vwCl) (A := (cA4 a b c2 t2 s.heap.size)) (cA := cy 1) (x := (30, .inl st)) (ty := .int) (a := t2) (ws := [(a, .inr (0, [.ref c9, .null, .int 0, .int 0])), (b, .inr (0, [.ref c2, .ref t2, .int (nI len), .int (nI seg)])), (c2, .inl (cy 0, 30, .inl ch)), (t2, .inl (cy 1, 30, .inl st)), (c9, .inl (cy 0, 30, .inl ch))]) (H0 := s.heap) (tys := gT cy) (q0 := 3) (t0 := 1) (ad := "[I") hx hb (by rw [hml]; exact hl.1.symm) hown (hts (.methodLink RX0 24 ⟨"[I", "clone", "()Ljava/lang/Object;"⟩) (by decide +kernel)) (hts (.sameMethod "[I" "java/lang/Object" "clone" "()Ljava/lang/Object;") (by decide +kernel)) (hts (.native ⟨"java/lang/Object", "clone", "()Ljava/lang/Object;"⟩) (by decide +kernel)) (hts (.instanceMethod ⟨"java/lang/Object", "clone", "()Ljava/lang/Object;"⟩) (by decide +kernel)) (hts (.selects "[I" ⟨"[I", "clone", "()Ljava/lang/Object;"⟩ ⟨"java/lang/Object", "clone", "()Ljava/lang/Object;"⟩) (by decide +kernel)) hci hK (pl_c hc2 (pl_c h_b_2 (pl_c h_c2_2 (pl_c h_t2_2 (pl_c h_c9_2 pl_n))))) (vd_c (Or.inl rfl) (vn_c n1 (vn_c n2 (vn_c n3 (vn_c (Ne.symm ne_a_c9) vn_n)))) (vd_c (Or.inr (Or.inl rfl)) (vn_c n4 (vn_c n5 (vn_c (Ne.symm ne_b_c9) vn_n))) (vd_c (Or.inr (Or.inr (Or.inl rfl))) (vn_c n6 (vn_c (Ne.symm ne_c2_c9) vn_n)) (vd_c (Or.inr (Or.inr (Or.inr (Or.inl rfl)))) (vn_c (Ne.symm ne_t2_c9) vn_n) (vd_c hA_c9 vn_n vd_n))))) hS2 (fun q h => Or.inr (Or.inr (Or.inr (Or.inr h)))) rfl rfl (va_nm_int (hK.2 1 _ rfl).2) (fun i9 v9 hv9 => va_fit (cA := cy 1) (n := 30) (F := fun j => .int (st j)) (fun i hi => rfl) i9 v9 hv9) (Nat.le_of_ble_eq_true rfl) (Nat.le_of_ble_eq_true rfl) (Nat.le_of_ble_eq_true rfl) (Nat.le_of_ble_eq_true rfl) dX0_init__23 (fun t9 H3 _ hP3 hD3 hS3 => ?_)
  have h_a_3 := hP3 0 (a, _) rfl
  have ne_a_t9 : a ≠ t9 := fun z => absurd (hD3.1 0 5 (a, _) (t9, _) rfl rfl z) (by decide)
  have h_b_3 := hP3 1 (b, _) rfl
  have ne_b_t9 : b ≠ t9 := fun z => absurd (hD3.1 1 5 (b, _) (t9, _) rfl rfl z) (by decide)
  have h_c2_3 := hP3 2 (c2, _) rfl
  have ne_c2_t9 : c2 ≠ t9 := fun z => absurd (hD3.1 2 5 (c2, _) (t9, _) rfl rfl z) (by decide)
  have h_t2_3 := hP3 3 (t2, _) rfl
  have ne_t2_t9 : t2 ≠ t9 := fun z => absurd (hD3.1 3 5 (t2, _) (t9, _) rfl rfl z) (by decide)
  have h_c9_3 := hP3 4 (c9, _) rfl
  have ne_c9_t9 : c9 ≠ t9 := fun z => absurd (hD3.1 4 5 (c9, _) (t9, _) rfl rfl z) (by decide)
  have hc3 := hP3 5 (t9, _) rfl
  have hA_t9 : (cA4 a b c2 t2 s.heap.size) t9 := hD3.2 5 (t9, _) rfl
  refine va_castA (q0 := 0) (nm := "[I") hx hb hown (hts (.classLink RX0 25 "[I") (by decide +kernel)) (g1 hc3) rfl (va_nm_int (hK.2 1 _ rfl).2) dX0_init__26 ?_
  refine g_putF (C := RX0) (T := TX0) (N := 4) (ci := 0) (fs := [.ref c9, .null, .int 0, .int 0]) (A := (cA4 a b c2 t2 s.heap.size)) hx hb hts inX0 tyX0 tyX0_ok nmX0 hown hK h_a_3 rfl hS3 (Or.inl rfl) 1 (by decide) lk15 rfl rfl hin9 rfl rfl rfl (Nat.le_of_ble_eq_true rfl) dX0_init__29 (fun H4 locs4 hc4 hu4 hS4 => ?_)
  have h_b_4 := oA.off h_b_3 hu4 n1
  have h_c2_4 := oA.off h_c2_3 hu4 n2
  have h_t2_4 := oA.off h_t2_3 hu4 n3
  have h_c9_4 := oA.off h_c9_3 hu4 (Ne.symm ne_a_c9)
  have h_t9_4 := oA.off hc3 hu4 (Ne.symm ne_a_t9)
  have zz4 := hu4.1
  refine lv_aload_n hx hb dX0_init__32 rfl (lv_at hl 0 rfl) ?_
  refine lv_aload_n hx hb dX0_init__33 rfl (lv_at hl 1 rfl) ?_
  refine g_get (C := RX0) (T := TX0) (N := 4) (ci := 0) (fs := [.ref c2, .ref t2, .int (nI len), .int (nI seg)]) hx hb hts inX0 hown hK h_b_4 rfl 2 (by decide) lk26 rfl rfl dX0_init__34 ?_
  refine g_put (C := RX0) (T := TX0) (N := 4) (ci := 0) (fs := [.ref c9, .ref t9, .int 0, .int 0]) (A := (cA4 a b c2 t2 s.heap.size)) hx hb hts inX0 tyX0 tyX0_ok nmX0 hown hK hc4 rfl hS4 (Or.inl rfl) 2 (by decide) lk26 rfl rfl rfl rfl (Nat.le_of_ble_eq_true rfl) dX0_init__37 (fun H5 locs5 hc5 hu5 hS5 => ?_)
  have h_b_5 := oA.off h_b_4 hu5 n1
  have h_c2_5 := oA.off h_c2_4 hu5 n2
  have h_t2_5 := oA.off h_t2_4 hu5 n3
  have h_c9_5 := oA.off h_c9_4 hu5 (Ne.symm ne_a_c9)
  have h_t9_5 := oA.off h_t9_4 hu5 (Ne.symm ne_a_t9)
  have zz5 := hu5.1
  refine lv_aload_n hx hb dX0_init__40 rfl (lv_at hl 0 rfl) ?_
  refine lv_aload_n hx hb dX0_init__41 rfl (lv_at hl 1 rfl) ?_
  refine g_get (C := RX0) (T := TX0) (N := 4) (ci := 0) (fs := [.ref c2, .ref t2, .int (nI len), .int (nI seg)]) hx hb hts inX0 hown hK h_b_5 rfl 3 (by decide) lk30 rfl rfl dX0_init__42 ?_
  refine g_put (C := RX0) (T := TX0) (N := 4) (ci := 0) (fs := [.ref c9, .ref t9, .int (nI len), .int 0]) (A := (cA4 a b c2 t2 s.heap.size)) hx hb hts inX0 tyX0 tyX0_ok nmX0 hown hK hc5 rfl hS5 (Or.inl rfl) 3 (by decide) lk30 rfl rfl rfl rfl (Nat.le_of_ble_eq_true rfl) dX0_init__45 (fun H6 locs6 hc6 hu6 hS6 => ?_)
  have h_b_6 := oA.off h_b_5 hu6 n1
  have h_c2_6 := oA.off h_c2_5 hu6 n2
  have h_t2_6 := oA.off h_t2_5 hu6 n3
  have h_c9_6 := oA.off h_c9_5 hu6 (Ne.symm ne_a_c9)
  have h_t9_6 := oA.off h_t9_5 hu6 (Ne.symm ne_a_t9)
  have zz6 := hu6.1
  have hs_c9 : s.heap.size ≤ c9 := by
    have y : c9 = a ∨ c9 = b ∨ c9 = c2 ∨ c9 = t2 ∨ s.heap.size ≤ c9 := hA_c9
    rcases y with y | y | y | y | y
    · exact absurd y.symm ne_a_c9
    · exact absurd y.symm ne_b_c9
    · exact absurd y.symm ne_c2_c9
    · exact absurd y.symm ne_t2_c9
    · exact y
  have hs_t9 : s.heap.size ≤ t9 := by
    have y : t9 = a ∨ t9 = b ∨ t9 = c2 ∨ t9 = t2 ∨ s.heap.size ≤ t9 := hA_t9
    rcases y with y | y | y | y | y
    · exact absurd y.symm ne_a_t9
    · exact absurd y.symm ne_b_t9
    · exact absurd y.symm ne_c2_t9
    · exact absurd y.symm ne_t2_t9
    · exact y
  exact g_vretU hx hb hr hlocks hS6 ⟨c9, t9, hs_c9, hs_t9, ne_c9_t9, ⟨hc6, h_c9_6, h_t9_6⟩, h_b_6, h_c2_6, h_t2_6⟩ (Nat.le_of_ble_eq_true rfl) (Nat.le_of_ble_eq_true rfl) dX0_init__48
