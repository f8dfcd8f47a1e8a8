/-! constructors: an address, a host, a page -/
def nA (a sz : Nat) : Nat → Prop := fun q => q = a ∨ sz ≤ q
theorem pl_n {D : va_G} {H : Heap} : va_P D vwCl [] H := fun k q h => by simp at h
theorem pl_c {D : va_G} {a : Nat} {e : va_E} {ws : va_W} {H : Heap} (h : oA D a e H) (t : va_P D vwCl ws H) : va_P D vwCl ((a, e) :: ws) H := by
  intro k q hk
  match k, hk with
  | 0, hk => cases hk; exact h
  | k + 1, hk => exact t k q hk
theorem vn_n {a : Nat} : ∀ q ∈ ([] : va_W), q.1 ≠ a := fun q h => nomatch h
theorem vn_c {a b : Nat} {e : va_E} {ws : va_W} (h : b ≠ a) (t : ∀ q ∈ ws, q.1 ≠ a) : ∀ q ∈ (b, e) :: ws, q.1 ≠ a := fun q hq => (List.mem_cons.mp hq).elim (fun z => by rw [z]; exact h) (t q)
theorem vd_n {A : Nat → Prop} : va_D A [] := ⟨fun i j p q h => by simp at h, fun k q h => by simp at h⟩
theorem vd_c {A : Nat → Prop} {a : Nat} {e : va_E} {ws : va_W} (hA : A a) (hne : ∀ q ∈ ws, q.1 ≠ a) (t : va_D A ws) : va_D A ((a, e) :: ws) := by
  refine ⟨fun i j p q hp hq hpq => ?_, fun k q hk => ?_⟩
  · match i, j, hp, hq with
    | 0, 0, _, _ => rfl
    | 0, j + 1, hp, hq => cases hp; exact absurd hpq.symm (hne q (List.mem_of_getElem? hq))
    | i + 1, 0, hp, hq => cases hq; exact absurd hpq (hne p (List.mem_of_getElem? hp))
    | i + 1, j + 1, hp, hq => exact congrArg (· + 1) (t.1 i j p q hp hq hpq)
  · match k, hk with
    | 0, hk => cases hk; exact hA
    | k + 1, hk => exact t.2 k q hk

set_option maxHeartbeats 4000000 in
set_option maxRecDepth 100000 in
/-- X0_init -/
theorem m_X0_init (l : Launch) (D : va_G) (cy : Nat → ClassId) (sz : Nat) (a : Nat) : Met l yX0_init wsX0_init ({ frames := 1, cells := 2, slots := 60, locals := 30 } : Room) (va_Pc [.ref a] (fun U => gK D cy U ∧ (atSz sz (fun H => oA D a (.inr (0, [.null, .null, .int 0, .int 0])) H)) U.heap)) (uQ none (fun H => ∃ c9 t9 : Nat, sz ≤ c9 ∧ sz ≤ t9 ∧ c9 ≠ t9 ∧ pA D cy a c9 t9 (fun _ => 0) (fun _ => 0) 0 0 H) (nA a sz)) 2 60 (nA a sz) := by
  refine Met.ofW (cc := cX0_init) (maxL := 1) (ret := none) (by decide) rfl ?_
  intro p e s m args below meth c s₁ B9 hml hv
  obtain ⟨rfl, hK, hsz, hB⟩ := hv
  have hx := B9.exec
  have hb := B9.bytes
  have hr := B9.returns
  have hts := atoms_spec (ws := wsX0_init) B9.pre
  have hown : s.vm.findClass RX0 = some m.cls := findClass_of_methodNamed B9.named
  have hlocks := B9.notSynchronized
  have hin9 : meth.name = "<init>" := (name_of_methodNamed B9.named B9.method).1
  subst hsz
  have hS : va_S (nA a s.heap.size) s.heap s.heap [] := va_S.rf
  have lk9 := hts (.fieldLink RX0 9 "Politecrawl$Address" "characters" "[C") (by decide +kernel)
  have inX0 : ∀ w ∈ u_ws RX0 TX0 4, w ∈ wsX0_init := by decide +kernel
  have lk15 := hts (.fieldLink RX0 15 "Politecrawl$Address" "starts" "[I") (by decide +kernel)
  have hl := lv_entry ([.ref a]) (n := 1) (Nat.le_of_ble_eq_true rfl)
  rw [lg_entry_eq]
  generalize (lg_sl ([.ref a]) ++ List.replicate (1 - (lg_sl ([.ref a])).length) Slot.unset).toArray = ls at hl ⊢
  have hl : lv_has ls 1 [(0, .ref a)] := hl
  have ha9 : a < s.heap.size := va_at.lt hB
  refine lv_aload_n hx hb dX0_init_0 rfl (lv_at hl 0 rfl) ?_
  refine W.objInit hx hb hown (hts (.methodLink RX0 3 objectInit) (by decide +kernel)) (hts (.instanceMethod objectInit) (by decide +kernel)) (hts (.code objectInit ⟨#[0xb1]⟩ 1 none) (by decide +kernel)) rfl (by rw [hml]; exact hl.1) rfl dX0_init_1 (Nat.le_of_ble_eq_true rfl) (Nat.le_of_ble_eq_true rfl) ?_
  refine W.eq (g2 := F0 m 4 ls []) rfl ?_
  refine lv_aload_n hx hb dX0_init_4 rfl (lv_at hl 0 rfl) ?_
  refine lv_bipush (v := 30) hx hb dX0_init_5 (by decide) ?_
  refine g_newa (D := D) (a0 := (30, .inl (fun _ => 0))) (N := 30) (ty := .char) hx hb rfl (hts (.arrayClass .char) (by decide +kernel)) (hK.2 0 _ rfl).2 hS (by rw [vp_cell_i]; rfl) (by decide) (by decide) (by decide) (Nat.le_of_ble_eq_true rfl) (Nat.le_of_ble_eq_true rfl) dX0_init_7 (fun c9 H1 e1 hc1 z1 o1 hS1 => ?_)
  have h_a_1 := oA.keep hB o1
  refine g_putF (C := RX0) (T := TX0) (N := 4) (ci := 0) (fs := [.null, .null, .int 0, .int 0]) (A := (nA a s.heap.size)) hx hb hts inX0 tyX0 tyX0_ok nmX0 hown hK h_a_1 rfl hS1 (Or.inl rfl) 0 (by decide) lk9 rfl rfl hin9 rfl rfl rfl (Nat.le_of_ble_eq_true rfl) dX0_init_9 (fun H2 locs2 hc2 hu2 hS2 => ?_)
  have h_c9_2 := hc1.off hu2 (by omega)
  have zz2 := hu2.1
  refine lv_aload_n hx hb dX0_init_12 rfl (lv_at hl 0 rfl) ?_
  refine lv_bipush (v := 30) hx hb dX0_init_13 (by decide) ?_
  refine g_newa (D := D) (a0 := (30, .inl (fun _ => 0))) (N := 30) (ty := .int) hx hb rfl (hts (.arrayClass .int) (by decide +kernel)) (hK.2 1 _ rfl).2 hS2 (by rw [vp_cell_i]; rfl) (by decide) (by decide) (by decide) (Nat.le_of_ble_eq_true rfl) (Nat.le_of_ble_eq_true rfl) dX0_init_15 (fun t9 H3 e3 hc3 z3 o3 hS3 => ?_)
  have h_a_3 := oA.keep hc2 o3
  have h_c9_3 := oA.keep h_c9_2 o3
  refine g_putF (C := RX0) (T := TX0) (N := 4) (ci := 0) (fs := [.ref c9, .null, .int 0, .int 0]) (A := (nA a s.heap.size)) hx hb hts inX0 tyX0 tyX0_ok nmX0 hown hK h_a_3 rfl hS3 (Or.inl rfl) 1 (by decide) lk15 rfl rfl hin9 rfl rfl rfl (Nat.le_of_ble_eq_true rfl) dX0_init_17 (fun H4 locs4 hc4 hu4 hS4 => ?_)
  have h_c9_4 := h_c9_3.off hu4 (by omega)
  have h_t9_4 := hc3.off hu4 (by omega)
  have zz4 := hu4.1
  exact g_vretU hx hb hr hlocks hS4 ⟨c9, t9, by omega, by omega, by omega, by show oA D a (.inr (0, [.ref c9, .ref t9, .int (nI 0), .int (nI 0)])) _; rw [nI_0]; exact hc4, h_c9_4, h_t9_4⟩ (Nat.le_of_ble_eq_true rfl) (Nat.le_of_ble_eq_true rfl) dX0_init_20

set_option maxHeartbeats 4000000 in
set_option maxRecDepth 100000 in
/-- X1_init -/
theorem m_X1_init (l : Launch) (D : va_G) (cy : Nat → ClassId) (sz : Nat) (a : Nat) : Met l yX1_init wsX1_init ({ frames := 1, cells := 0, slots := 0, locals := 30 } : Room) (va_Pc [.ref a] (fun U => gK D cy U ∧ (atSz sz (fun H => oA D a (.inr (1, [.int 0, .int 0, .int 0])) H)) U.heap)) (uQ none (fun H => oA D a (.inr (1, [.int 5, .int 0, .int 0])) H) (nA a sz)) 0 0 (nA a sz) := by
  refine Met.ofW (cc := cX1_init) (maxL := 1) (ret := none) (by decide) rfl ?_
  intro p e s m args below meth c s₁ B9 hml hv
  obtain ⟨rfl, hK, hsz, hB⟩ := hv
  have hx := B9.exec
  have hb := B9.bytes
  have hr := B9.returns
  have hts := atoms_spec (ws := wsX1_init) B9.pre
  have hown : s.vm.findClass RX1 = some m.cls := findClass_of_methodNamed B9.named
  have hlocks := B9.notSynchronized
  have hin9 : meth.name = "<init>" := (name_of_methodNamed B9.named B9.method).1
  subst hsz
  have hS : va_S (nA a s.heap.size) s.heap s.heap [] := va_S.rf
  have lk9 := hts (.fieldLink RX1 9 "Politecrawl$Host" "rest" "I") (by decide +kernel)
  have inX1 : ∀ w ∈ u_ws RX1 TX1 3, w ∈ wsX1_init := by decide +kernel
  have hl := lv_entry ([.ref a]) (n := 1) (Nat.le_of_ble_eq_true rfl)
  rw [lg_entry_eq]
  generalize (lg_sl ([.ref a]) ++ List.replicate (1 - (lg_sl ([.ref a])).length) Slot.unset).toArray = ls at hl ⊢
  have hl : lv_has ls 1 [(0, .ref a)] := hl
  refine lv_aload_n hx hb dX1_init_0 rfl (lv_at hl 0 rfl) ?_
  refine W.objInit hx hb hown (hts (.methodLink RX1 3 objectInit) (by decide +kernel)) (hts (.instanceMethod objectInit) (by decide +kernel)) (hts (.code objectInit ⟨#[0xb1]⟩ 1 none) (by decide +kernel)) rfl (by rw [hml]; exact hl.1) rfl dX1_init_1 (Nat.le_of_ble_eq_true rfl) (Nat.le_of_ble_eq_true rfl) ?_
  refine W.eq (g2 := F0 m 4 ls []) rfl ?_
  refine lv_aload_n hx hb dX1_init_4 rfl (lv_at hl 0 rfl) ?_
  refine lv_iconst (v := 5) hx hb dX1_init_5 (by decide) ?_
  refine g_put (C := RX1) (T := TX1) (N := 3) (ci := 1) (fs := [.int 0, .int 0, .int 0]) (A := (nA a s.heap.size)) hx hb hts inX1 tyX1 tyX1_ok nmX1 hown hK hB rfl hS (Or.inl rfl) 0 (by decide) lk9 rfl rfl rfl rfl (Nat.le_of_ble_eq_true rfl) dX1_init_6 (fun H1 locs1 hc1 hu1 hS1 => ?_)
  have zz1 := hu1.1
  exact g_vretU hx hb hr hlocks hS1 hc1 (Nat.le_of_ble_eq_true rfl) (Nat.le_of_ble_eq_true rfl) dX1_init_9

set_option maxHeartbeats 4000000 in
set_option maxRecDepth 100000 in
/-- X2_init -/
theorem m_X2_init (l : Launch) (D : va_G) (cy : Nat → ClassId) (sz : Nat) (a b c9 t9 h9 : Nat) (ch st : Nat → Int32) (len seg : Nat) (hlen : len ≤ 30) (hch : chOK ch) (hseg : seg ≤ 30) (hst : stOK st seg len) (nb : b ≠ a) (nc : c9 ≠ a) (nt : t9 ≠ a) (num rank due : Int32) : Met l yX2_init wsX2_init ({ frames := 4, cells := 0, slots := 0, locals := 130 } : Room) (va_Pc [.ref a, .int num, .ref h9, .ref b, .int rank, .int due] (fun U => gK D cy U ∧ (atSz sz (fun H => oA D a (.inr (2, [.int 0, .null, .null, .int 0, .int 0, .int 0, .int 0, .int 0, .int 0, .int 0])) H ∧ pA D cy b c9 t9 ch st len seg H)) U.heap)) (uQ none (fun H => oA D a (.inr (2, [.int num, .ref h9, .ref b, .int (zb (repA ch st len seg)), .int rank, .int due, .int 0, .int 0, .int 0, .int 0])) H) (nA a sz)) 0 0 (nA a sz) := by
  refine Met.ofW (cc := cX2_init) (maxL := 6) (ret := none) (by decide) rfl ?_
  intro p e s m args below meth c s₁ B9 hml hv
  obtain ⟨rfl, hK, hsz, hB⟩ := hv
  have hx := B9.exec
  have hb := B9.bytes
  have hr := B9.returns
  have hts := atoms_spec (ws := wsX2_init) B9.pre
  have hown : s.vm.findClass RX2 = some m.cls := findClass_of_methodNamed B9.named
  have hlocks := B9.notSynchronized
  have hin9 : meth.name = "<init>" := (name_of_methodNamed B9.named B9.method).1
  subst hsz
  have hS : va_S (nA a s.heap.size) s.heap s.heap [] := va_S.rf
  have lk9 := hts (.fieldLink RX2 9 "Politecrawl$Page" "number" "I") (by decide +kernel)
  have inX2 : ∀ w ∈ u_ws RX2 TX2 10, w ∈ wsX2_init := by decide +kernel
  have lk15 := hts (.fieldLink RX2 15 "Politecrawl$Page" "host" "LPolitecrawl$Host;") (by decide +kernel)
  have lk19 := hts (.fieldLink RX2 19 "Politecrawl$Page" "address" "LPolitecrawl$Address;") (by decide +kernel)
  have lk29 := hts (.fieldLink RX2 29 "Politecrawl$Page" "lost" "Z") (by decide +kernel)
  have lk33 := hts (.fieldLink RX2 33 "Politecrawl$Page" "rank" "I") (by decide +kernel)
  have lk36 := hts (.fieldLink RX2 36 "Politecrawl$Page" "due" "I") (by decide +kernel)
  have hl := lv_entry ([.ref a, .int num, .ref h9, .ref b, .int rank, .int due]) (n := 6) (Nat.le_of_ble_eq_true rfl)
  rw [lg_entry_eq]
  generalize (lg_sl ([.ref a, .int num, .ref h9, .ref b, .int rank, .int due]) ++ List.replicate (6 - (lg_sl ([.ref a, .int num, .ref h9, .ref b, .int rank, .int due])).length) Slot.unset).toArray = ls at hl ⊢
  have hl : lv_has ls 6 [(0, .ref a), (1, .int num), (2, .ref h9), (3, .ref b), (4, .int rank), (5, .int due)] := hl
  refine lv_aload_n hx hb dX2_init_0 rfl (lv_at hl 0 rfl) ?_
  refine W.objInit hx hb hown (hts (.methodLink RX2 3 objectInit) (by decide +kernel)) (hts (.instanceMethod objectInit) (by decide +kernel)) (hts (.code objectInit ⟨#[0xb1]⟩ 1 none) (by decide +kernel)) rfl (by rw [hml]; exact hl.1) rfl dX2_init_1 (Nat.le_of_ble_eq_true rfl) (Nat.le_of_ble_eq_true rfl) ?_
  refine W.eq (g2 := F0 m 4 ls []) rfl ?_
  refine lv_aload_n hx hb dX2_init_4 rfl (lv_at hl 0 rfl) ?_
  refine lv_iload_n hx hb dX2_init_5 rfl (lv_at hl 1 rfl) ?_
  refine g_putF (C := RX2) (T := TX2) (N := 10) (ci := 2) (fs := [.int 0, .null, .null, .int 0, .int 0, .int 0, .int 0, .int 0, .int 0, .int 0]) (A := (nA a s.heap.size)) hx hb hts inX2 tyX2 tyX2_ok nmX2 hown hK hB.1 rfl hS (Or.inl rfl) 0 (by decide) lk9 rfl rfl hin9 rfl rfl rfl (Nat.le_of_ble_eq_true rfl) dX2_init_6 (fun H1 locs1 hc1 hu1 hS1 => ?_)
  have h_b_1 := hB.2.1.off hu1 nb
  have h_c9_1 := hB.2.2.1.off hu1 nc
  have h_t9_1 := hB.2.2.2.off hu1 nt
  have zz1 := hu1.1
  refine lv_aload_n hx hb dX2_init_9 rfl (lv_at hl 0 rfl) ?_
  refine lv_aload_n hx hb dX2_init_10 rfl (lv_at hl 2 rfl) ?_
  refine g_putF (C := RX2) (T := TX2) (N := 10) (ci := 2) (fs := [.int num, .null, .null, .int 0, .int 0, .int 0, .int 0, .int 0, .int 0, .int 0]) (A := (nA a s.heap.size)) hx hb hts inX2 tyX2 tyX2_ok nmX2 hown hK hc1 rfl hS1 (Or.inl rfl) 1 (by decide) lk15 rfl rfl hin9 rfl rfl rfl (Nat.le_of_ble_eq_true rfl) dX2_init_11 (fun H2 locs2 hc2 hu2 hS2 => ?_)
  have h_b_2 := h_b_1.off hu2 nb
  have h_c9_2 := h_c9_1.off hu2 nc
  have h_t9_2 := h_t9_1.off hu2 nt
  have zz2 := hu2.1
  refine lv_aload_n hx hb dX2_init_14 rfl (lv_at hl 0 rfl) ?_
  refine lv_aload_n hx hb dX2_init_15 rfl (lv_at hl 3 rfl) ?_
  refine g_putF (C := RX2) (T := TX2) (N := 10) (ci := 2) (fs := [.int num, .ref h9, .null, .int 0, .int 0, .int 0, .int 0, .int 0, .int 0, .int 0]) (A := (nA a s.heap.size)) hx hb hts inX2 tyX2 tyX2_ok nmX2 hown hK hc2 rfl hS2 (Or.inl rfl) 2 (by decide) lk19 rfl rfl hin9 rfl rfl rfl (Nat.le_of_ble_eq_true rfl) dX2_init_16 (fun H3 locs3 hc3 hu3 hS3 => ?_)
  have h_b_3 := h_b_2.off hu3 nb
  have h_c9_3 := h_c9_2.off hu3 nc
  have h_t9_3 := h_t9_2.off hu3 nt
  have zz3 := hu3.1
  refine lv_aload_n hx hb dX2_init_19 rfl (lv_at hl 0 rfl) ?_
  refine lv_aload_n hx hb dX2_init_20 rfl (lv_at hl 3 rfl) ?_
  refine g_csr (va_runV (As := []) (rest := [.ref a]) ⟨hx, hb, hml, hown, hts⟩ (m_X0_repeatsItself l D cy b c9 t9 ch st len seg hlen hch hseg hst) (cwV 0 hts gX2_init_X0_repeatsItself rfl rfl rfl (by decide +kernel) ⟨Nat.le_of_ble_eq_true rfl, Nat.le_of_ble_eq_true rfl⟩) (g_preV (C := RX0) (B := (pA D cy b c9 t9 ch st len seg)) hK ⟨h_b_3, h_c9_3, h_t9_3⟩ h_b_3 rfl) rfl rfl hl.1 rfl (lv_room (Nat.le_of_ble_eq_true rfl)) dX2_init_21 ⟨Nat.le_of_ble_eq_true rfl, Nat.le_of_ble_eq_true rfl⟩) ?_
  refine g_putF (C := RX2) (T := TX2) (N := 10) (ci := 2) (fs := [.int num, .ref h9, .ref b, .int 0, .int 0, .int 0, .int 0, .int 0, .int 0, .int 0]) (A := (nA a s.heap.size)) hx hb hts inX2 tyX2 tyX2_ok nmX2 hown hK hc3 rfl hS3 (Or.inl rfl) 3 (by decide) lk29 rfl rfl hin9 rfl (by cases repA ch st len seg <;> rfl) (by cases repA ch st len seg <;> rfl) (Nat.le_of_ble_eq_true rfl) dX2_init_24 (fun H4 locs4 hc4 hu4 hS4 => ?_)
  have h_b_4 := h_b_3.off hu4 nb
  have h_c9_4 := h_c9_3.off hu4 nc
  have h_t9_4 := h_t9_3.off hu4 nt
  have zz4 := hu4.1
  refine lv_aload_n hx hb dX2_init_27 rfl (lv_at hl 0 rfl) ?_
  refine lv_iload hx hb dX2_init_28 (lv_at hl 4 rfl) ?_
  refine g_put (C := RX2) (T := TX2) (N := 10) (ci := 2) (fs := [.int num, .ref h9, .ref b, .int (zb (repA ch st len seg)), .int 0, .int 0, .int 0, .int 0, .int 0, .int 0]) (A := (nA a s.heap.size)) hx hb hts inX2 tyX2 tyX2_ok nmX2 hown hK hc4 rfl hS4 (Or.inl rfl) 4 (by decide) lk33 rfl rfl rfl rfl (Nat.le_of_ble_eq_true rfl) dX2_init_30 (fun H5 locs5 hc5 hu5 hS5 => ?_)
  have h_b_5 := h_b_4.off hu5 nb
  have h_c9_5 := h_c9_4.off hu5 nc
  have h_t9_5 := h_t9_4.off hu5 nt
  have zz5 := hu5.1
  refine lv_aload_n hx hb dX2_init_33 rfl (lv_at hl 0 rfl) ?_
  refine lv_iload hx hb dX2_init_34 (lv_at hl 5 rfl) ?_
  refine g_put (C := RX2) (T := TX2) (N := 10) (ci := 2) (fs := [.int num, .ref h9, .ref b, .int (zb (repA ch st len seg)), .int rank, .int 0, .int 0, .int 0, .int 0, .int 0]) (A := (nA a s.heap.size)) hx hb hts inX2 tyX2 tyX2_ok nmX2 hown hK hc5 rfl hS5 (Or.inl rfl) 5 (by decide) lk36 rfl rfl rfl rfl (Nat.le_of_ble_eq_true rfl) dX2_init_36 (fun H6 locs6 hc6 hu6 hS6 => ?_)
  have h_b_6 := h_b_5.off hu6 nb
  have h_c9_6 := h_c9_5.off hu6 nc
  have h_t9_6 := h_t9_5.off hu6 nt
  have zz6 := hu6.1
  exact g_vretU hx hb hr hlocks hS6 hc6 (Nat.le_of_ble_eq_true rfl) (Nat.le_of_ble_eq_true rfl) dX2_init_39
