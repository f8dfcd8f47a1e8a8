/-! the class: reads over all pages -/
set_option maxHeartbeats 4000000 in
set_option maxRecDepth 100000 in
/-- earlier(null, null) -/
theorem m_earlier_nn (l : Launch) (D : va_G) (cy : Nat → ClassId) (ad : NT) (τ : IT) (ν : NT)  : Met l yX3_earlier wsX3_earlier ({ frames := 2, cells := 0, slots := 0, locals := 60 } : Room) (va_Pc [.ref (ad 0 0), .null, .null] (fun U => gK D cy U ∧ (CW D cy ad τ ν) U.heap)) (rQ (some .null)) 0 0 (fun _ => False) := by
  refine Met.ofW (cc := cX3_earlier) (maxL := 3) (ret := (some (.object "Politecrawl$Page"))) (by decide) rfl ?_
  intro p e s m args below meth c s₁ B9 hml hv
  obtain ⟨rfl, hK, hB⟩ := hv
  have hx := B9.exec
  have hb := B9.bytes
  have hr := B9.returns
  have hts := atoms_spec (ws := wsX3_earlier) B9.pre
  have hown : s.vm.findClass RX3 = some m.cls := findClass_of_methodNamed B9.named
  have hlocks := B9.notSynchronized
  have hl := lv_entry ([.ref (ad 0 0), .null, .null]) (n := 3) (Nat.le_of_ble_eq_true rfl)
  rw [lg_entry_eq]
  generalize (lg_sl ([.ref (ad 0 0), .null, .null]) ++ List.replicate (3 - (lg_sl ([.ref (ad 0 0), .null, .null])).length) Slot.unset).toArray = ls at hl ⊢
  have hl : lv_has ls 3 [(0, .ref (ad 0 0)), (1, .null), (2, .null)] := hl
  refine lv_aload_nN hx hb dX3_earlier_0 rfl (lv_at hl 1 rfl) ?_
  refine lv_ifnonnullN hx hb dX3_earlier_1 ?_
  refine lv_aload_nN hx hb dX3_earlier_4 rfl (lv_at hl 2 rfl) ?_
  exact g_aret hx hb hr hlocks (Or.inl rfl) dX3_earlier_5 rfl

set_option maxHeartbeats 4000000 in
set_option maxRecDepth 100000 in
/-- earlier(null, x) -/
theorem m_earlier_ns (l : Launch) (D : va_G) (cy : Nat → ClassId) (ad : NT) (τ : IT) (ν : NT) (x : Nat) : Met l yX3_earlier wsX3_earlier ({ frames := 2, cells := 0, slots := 0, locals := 60 } : Room) (va_Pc [.ref (ad 0 0), .null, .ref (ad 7 x)] (fun U => gK D cy U ∧ (CW D cy ad τ ν) U.heap)) (rQ (some (.ref (ad 7 x)))) 0 0 (fun _ => False) := by
  refine Met.ofW (cc := cX3_earlier) (maxL := 3) (ret := (some (.object "Politecrawl$Page"))) (by decide) rfl ?_
  intro p e s m args below meth c s₁ B9 hml hv
  obtain ⟨rfl, hK, hB⟩ := hv
  have hx := B9.exec
  have hb := B9.bytes
  have hr := B9.returns
  have hts := atoms_spec (ws := wsX3_earlier) B9.pre
  have hown : s.vm.findClass RX3 = some m.cls := findClass_of_methodNamed B9.named
  have hlocks := B9.notSynchronized
  have hl := lv_entry ([.ref (ad 0 0), .null, .ref (ad 7 x)]) (n := 3) (Nat.le_of_ble_eq_true rfl)
  rw [lg_entry_eq]
  generalize (lg_sl ([.ref (ad 0 0), .null, .ref (ad 7 x)]) ++ List.replicate (3 - (lg_sl ([.ref (ad 0 0), .null, .ref (ad 7 x)])).length) Slot.unset).toArray = ls at hl ⊢
  have hl : lv_has ls 3 [(0, .ref (ad 0 0)), (1, .null), (2, .ref (ad 7 x))] := hl
  refine lv_aload_nN hx hb dX3_earlier_0 rfl (lv_at hl 1 rfl) ?_
  refine lv_ifnonnullN hx hb dX3_earlier_1 ?_
  refine lv_aload_n hx hb dX3_earlier_4 rfl (lv_at hl 2 rfl) ?_
  exact g_aret hx hb hr hlocks (Or.inr ⟨_, rfl⟩) dX3_earlier_5 rfl

set_option maxHeartbeats 4000000 in
set_option maxRecDepth 100000 in
/-- earlier(x, null) -/
theorem m_earlier_sn (l : Launch) (D : va_G) (cy : Nat → ClassId) (ad : NT) (τ : IT) (ν : NT) (x : Nat) : Met l yX3_earlier wsX3_earlier ({ frames := 2, cells := 0, slots := 0, locals := 60 } : Room) (va_Pc [.ref (ad 0 0), .ref (ad 7 x), .null] (fun U => gK D cy U ∧ (CW D cy ad τ ν) U.heap)) (rQ (some (.ref (ad 7 x)))) 0 0 (fun _ => False) := by
  refine Met.ofW (cc := cX3_earlier) (maxL := 3) (ret := (some (.object "Politecrawl$Page"))) (by decide) rfl ?_
  intro p e s m args below meth c s₁ B9 hml hv
  obtain ⟨rfl, hK, hB⟩ := hv
  have hx := B9.exec
  have hb := B9.bytes
  have hr := B9.returns
  have hts := atoms_spec (ws := wsX3_earlier) B9.pre
  have hown : s.vm.findClass RX3 = some m.cls := findClass_of_methodNamed B9.named
  have hlocks := B9.notSynchronized
  have hl := lv_entry ([.ref (ad 0 0), .ref (ad 7 x), .null]) (n := 3) (Nat.le_of_ble_eq_true rfl)
  rw [lg_entry_eq]
  generalize (lg_sl ([.ref (ad 0 0), .ref (ad 7 x), .null]) ++ List.replicate (3 - (lg_sl ([.ref (ad 0 0), .ref (ad 7 x), .null])).length) Slot.unset).toArray = ls at hl ⊢
  have hl : lv_has ls 3 [(0, .ref (ad 0 0)), (1, .ref (ad 7 x)), (2, .null)] := hl
  refine lv_aload_n hx hb dX3_earlier_0 rfl (lv_at hl 1 rfl) ?_
  refine lv_ifnonnull (tgt := 6) hx hb dX3_earlier_1 (by decide) ?_
  refine lv_aload_nN hx hb dX3_earlier_6 rfl (lv_at hl 2 rfl) ?_
  refine lv_ifnullN (tgt := 23) hx hb dX3_earlier_7 (by decide) ?_
  refine lv_aload_n hx hb dX3_earlier_23 rfl (lv_at hl 1 rfl) ?_
  exact g_aret hx hb hr hlocks (Or.inr ⟨_, rfl⟩) dX3_earlier_24 rfl

set_option maxHeartbeats 4000000 in
set_option maxRecDepth 100000 in
/-- earlier(x, y) -/
theorem m_earlier_ss (l : Launch) (D : va_G) (cy : Nat → ClassId) (ad : NT) (τ : IT) (ν : NT) (x y : Nat) (hx0 : x < ν 0 0) (hy0 : y < ν 0 0) : Met l yX3_earlier wsX3_earlier ({ frames := 2, cells := 0, slots := 0, locals := 60 } : Room) (va_Pc [.ref (ad 0 0), .ref (ad 7 x), .ref (ad 7 y)] (fun U => gK D cy U ∧ (CW D cy ad τ ν) U.heap)) (rQ (some (.ref (if befC τ y x = true then ad 7 y else ad 7 x)))) 0 0 (fun _ => False) := by
  refine Met.ofW (cc := cX3_earlier) (maxL := 3) (ret := (some (.object "Politecrawl$Page"))) (by decide) rfl ?_
  intro p e s m args below meth c s₁ B9 hml hv
  obtain ⟨rfl, hK, hB⟩ := hv
  have hx := B9.exec
  have hb := B9.bytes
  have hr := B9.returns
  have hts := atoms_spec (ws := wsX3_earlier) B9.pre
  have hown : s.vm.findClass RX3 = some m.cls := findClass_of_methodNamed B9.named
  have hlocks := B9.notSynchronized
  have hl := lv_entry ([.ref (ad 0 0), .ref (ad 7 x), .ref (ad 7 y)]) (n := 3) (Nat.le_of_ble_eq_true rfl)
  rw [lg_entry_eq]
  generalize (lg_sl ([.ref (ad 0 0), .ref (ad 7 x), .ref (ad 7 y)]) ++ List.replicate (3 - (lg_sl ([.ref (ad 0 0), .ref (ad 7 x), .ref (ad 7 y)])).length) Slot.unset).toArray = ls at hl ⊢
  have hl : lv_has ls 3 [(0, .ref (ad 0 0)), (1, .ref (ad 7 x)), (2, .ref (ad 7 y))] := hl
  refine lv_aload_n hx hb dX3_earlier_0 rfl (lv_at hl 1 rfl) ?_
  refine lv_ifnonnull (tgt := 6) hx hb dX3_earlier_1 (by decide) ?_
  refine lv_aload_n hx hb dX3_earlier_6 rfl (lv_at hl 2 rfl) ?_
  refine lv_ifnull hx hb dX3_earlier_7 ?_
  refine lv_aload_n hx hb dX3_earlier_10 rfl (lv_at hl 0 rfl) ?_
  refine lv_aload_n hx hb dX3_earlier_11 rfl (lv_at hl 2 rfl) ?_
  refine lv_aload_n hx hb dX3_earlier_12 rfl (lv_at hl 1 rfl) ?_
  refine g_csr (va_runV (As := [.ref (ad 7 y), .ref (ad 7 x)]) (rest := []) ⟨hx, hb, hml, hown, hts⟩ (m_X3_goesBefore l D cy ad τ ν y x hy0 hx0) (cwV 2 hts gX3_earlier_X3_goesBefore rfl rfl rfl (by decide +kernel) ⟨Nat.le_of_ble_eq_true rfl, Nat.le_of_ble_eq_true rfl⟩) (g_preV (C := RX3) (B := (CW D cy ad τ ν)) hK hB (hB 0 0 Nat.zero_lt_one) rfl) rfl rfl hl.1 rfl (lv_room (Nat.le_of_ble_eq_true rfl)) dX3_earlier_13 ⟨Nat.zero_le _, Nat.zero_le _⟩) ?_
  refine lv_if_eq (tgt := 23) hx hb dX3_earlier_16 (by decide) (fun c_16 => ?_) (fun c_16 => ?_)
  · -- 16 t
    refine lv_aload_n hx hb dX3_earlier_23 rfl (lv_at hl 1 rfl) ?_
    exact g_aret hx hb hr hlocks (Or.inr ⟨_, rfl⟩) dX3_earlier_24 (by rw [if_neg (fun z => by rw [zb_0.mp c_16] at z; cases z)])
  · -- 16 f
    refine lv_aload_n hx hb dX3_earlier_19 rfl (lv_at hl 2 rfl) ?_
    refine lv_goto (tgt := 24) hx hb dX3_earlier_20 (by decide) ?_
    exact g_aret hx hb hr hlocks (Or.inr ⟨_, rfl⟩) dX3_earlier_24 (by rw [if_pos (zb_n0.mp c_16)])


/-- earlier: of two pages, or none, the one that is visited first -/
theorem m_X3_earlier (l : Launch) (D : va_G) (cy : Nat → ClassId) (ad : NT) (τ : IT) (ν : NT) (x y : Option Nat) (hx0 : ∀ a, x = some a → a < ν 0 0) (hy0 : ∀ a, y = some a → a < ν 0 0) : Met l yX3_earlier wsX3_earlier ({ frames := 2, cells := 0, slots := 0, locals := 60 } : Room) (va_Pc [.ref (ad 0 0), va_rf (x.map (ad 7)), va_rf (y.map (ad 7))] (fun U => gK D cy U ∧ (CW D cy ad τ ν) U.heap)) (rQ (some (va_rf ((earl τ x y).map (ad 7))))) 0 0 (fun _ => False) := by
  cases x with
  | none =>
    cases y with
    | none => exact m_earlier_nn l D cy ad τ ν
    | some b => exact m_earlier_ns l D cy ad τ ν b
  | some a =>
    cases y with
    | none => exact m_earlier_sn l D cy ad τ ν a
    | some b =>
      have h := m_earlier_ss l D cy ad τ ν a b (hx0 a rfl) (hy0 b rfl)
      have e : (some (Value.ref (if befC τ b a = true then ad 7 b else ad 7 a)) : Option Value) = some (va_rf ((earl τ (some a) (some b)).map (ad 7))) := by
        rw [earl]
        by_cases q : befC τ b a = true
        · rw [if_pos q, if_pos q]; rfl
        · rw [if_neg q, if_neg q]; rfl
      rw [e] at h
      exact h
theorem va_cat (r : Option Nat) : (va_rf r).category = 1 := by cases r <;> rfl
theorem earl_lt {τ : IT} {x y : Option Nat} {n : Nat} (hx : ∀ a, x = some a → a < n) (hy : ∀ a, y = some a → a < n) : ∀ a, earl τ x y = some a → a < n := by
  intro a h
  cases x with
  | none => exact hy a h
  | some b =>
    cases y with
    | none => exact hx a h
    | some c =>
      rw [earl] at h
      by_cases q : befC τ c b = true
      · rw [if_pos q] at h; exact hy a h
      · rw [if_neg q] at h; exact hx a h
theorem some_lt {i n : Nat} (h : i < n) : ∀ a, some i = some a → a < n := fun a e => by cases e; exact h

set_option maxHeartbeats 4000000 in
set_option maxRecDepth 100000 in
/-- numberOf(null) -/
theorem m_numberOf_n (l : Launch) (D : va_G) (cy : Nat → ClassId) (ad : NT) (τ : IT) (ν : NT) : Met l yX3_numberOf wsX3_numberOf ({ frames := 0, cells := 0, slots := 0, locals := 0 } : Room) (va_Pc [.null] (fun U => gK D cy U ∧ (CW D cy ad τ ν) U.heap)) (rQ (some (.int (-1)))) 0 0 (fun _ => False) := by
  refine Met.ofW (cc := cX3_numberOf) (maxL := 1) (ret := (some .int)) (by decide) rfl ?_
  intro p e s m args below meth c s₁ B9 hml hv
  obtain ⟨rfl, hK, hB⟩ := hv
  have hx := B9.exec
  have hb := B9.bytes
  have hr := B9.returns
  have hts := atoms_spec (ws := wsX3_numberOf) B9.pre
  have hown : s.vm.findClass RX3 = some m.cls := findClass_of_methodNamed B9.named
  have hlocks := B9.notSynchronized
  have lk100 := hts (.fieldLink RX3 100 "Politecrawl$Page" "number" "I") (by decide +kernel)
  have inX2 : ∀ w ∈ u_ws RX2 TX2 10, w ∈ wsX3_numberOf := by decide +kernel
  have hl := lv_entry ([.null]) (n := 1) (Nat.le_of_ble_eq_true rfl)
  rw [lg_entry_eq]
  generalize (lg_sl ([.null]) ++ List.replicate (1 - (lg_sl ([.null])).length) Slot.unset).toArray = ls at hl ⊢
  have hl : lv_has ls 1 [(0, .null)] := hl
  refine lv_aload_nN hx hb dX3_numberOf_0 rfl (lv_at hl 0 rfl) ?_
  refine lv_ifnonnullN hx hb dX3_numberOf_1 ?_
  refine lv_iconst (v := (-1)) hx hb dX3_numberOf_4 (by decide) ?_
  refine lv_goto (tgt := 12) hx hb dX3_numberOf_5 (by decide) ?_
  exact g_iret hx hb hr hlocks dX3_numberOf_12 rfl

set_option maxHeartbeats 4000000 in
set_option maxRecDepth 100000 in
/-- numberOf(x) -/
theorem m_numberOf_s (l : Launch) (D : va_G) (cy : Nat → ClassId) (ad : NT) (τ : IT) (ν : NT) (x : Nat) (hx0 : x < ν 0 0) : Met l yX3_numberOf wsX3_numberOf ({ frames := 0, cells := 0, slots := 0, locals := 0 } : Room) (va_Pc [.ref (ad 7 x)] (fun U => gK D cy U ∧ (CW D cy ad τ ν) U.heap)) (rQ (some (.int (nI x)))) 0 0 (fun _ => False) := by
  refine Met.ofW (cc := cX3_numberOf) (maxL := 1) (ret := (some .int)) (by decide) rfl ?_
  intro p e s m args below meth c s₁ B9 hml hv
  obtain ⟨rfl, hK, hB⟩ := hv
  have hx := B9.exec
  have hb := B9.bytes
  have hr := B9.returns
  have hts := atoms_spec (ws := wsX3_numberOf) B9.pre
  have hown : s.vm.findClass RX3 = some m.cls := findClass_of_methodNamed B9.named
  have hlocks := B9.notSynchronized
  have lk100 := hts (.fieldLink RX3 100 "Politecrawl$Page" "number" "I") (by decide +kernel)
  have inX2 : ∀ w ∈ u_ws RX2 TX2 10, w ∈ wsX3_numberOf := by decide +kernel
  have hl := lv_entry ([.ref (ad 7 x)]) (n := 1) (Nat.le_of_ble_eq_true rfl)
  rw [lg_entry_eq]
  generalize (lg_sl ([.ref (ad 7 x)]) ++ List.replicate (1 - (lg_sl ([.ref (ad 7 x)])).length) Slot.unset).toArray = ls at hl ⊢
  have hl : lv_has ls 1 [(0, .ref (ad 7 x))] := hl
  refine lv_aload_n hx hb dX3_numberOf_0 rfl (lv_at hl 0 rfl) ?_
  refine lv_ifnonnull (tgt := 8) hx hb dX3_numberOf_1 (by decide) ?_
  refine lv_aload_n hx hb dX3_numberOf_8 rfl (lv_at hl 0 rfl) ?_
  refine g_get (C := RX2) (T := TX2) (N := 10) (ci := 2) (fs := [.int (nI x), .ref (ad 6 (ν 5 x)), .ref (ad 8 x), .int (τ 15 x), .int (τ 10 x), .int (τ 11 x), .int (τ 12 x), .int (τ 13 x), .int (τ 14 x), .int (τ 25 x)]) hx hb hts inX2 hown hK (hB 7 x hx0) rfl 0 (by decide) lk100 rfl rfl dX3_numberOf_9 ?_
  exact g_iret hx hb hr hlocks dX3_numberOf_12 rfl


theorem m_X3_numberOf (l : Launch) (D : va_G) (cy : Nat → ClassId) (ad : NT) (τ : IT) (ν : NT) (x : Option Nat) (hx0 : ∀ a, x = some a → a < ν 0 0) : Met l yX3_numberOf wsX3_numberOf ({ frames := 0, cells := 0, slots := 0, locals := 0 } : Room) (va_Pc [va_rf (x.map (ad 7))] (fun U => gK D cy U ∧ (CW D cy ad τ ν) U.heap)) (rQ (some (.int (numO x)))) 0 0 (fun _ => False) := by
  cases x with
  | none => exact m_numberOf_n l D cy ad τ ν
  | some a => exact m_numberOf_s l D cy ad τ ν a (hx0 a rfl)

set_option maxHeartbeats 4000000 in
set_option maxRecDepth 100000 in
/-- dividedUp(x, y) -/
theorem m_X3_dividedUp (l : Launch) (D : va_G) (cy : Nat → ClassId) (x y : Int32) : Met l yX3_dividedUp wsX3_dividedUp ({ frames := 0, cells := 0, slots := 0, locals := 0 } : Room) (va_Pc [.int x, .int y] (fun U => gK D cy U ∧ (fun _ => True) U.heap)) (rQ (some (.int (divUp x y)))) 0 0 (fun _ => False) := by
  refine Met.ofW (cc := cX3_dividedUp) (maxL := 2) (ret := (some .int)) (by decide) rfl ?_
  intro p e s m args below meth c s₁ B9 hml hv
  obtain ⟨rfl, hK, hB⟩ := hv
  have hx := B9.exec
  have hb := B9.bytes
  have hr := B9.returns
  have hts := atoms_spec (ws := wsX3_dividedUp) B9.pre
  have hown : s.vm.findClass RX3 = some m.cls := findClass_of_methodNamed B9.named
  have hlocks := B9.notSynchronized
  have hl := lv_entry ([.int x, .int y]) (n := 2) (Nat.le_of_ble_eq_true rfl)
  rw [lg_entry_eq]
  generalize (lg_sl ([.int x, .int y]) ++ List.replicate (2 - (lg_sl ([.int x, .int y])).length) Slot.unset).toArray = ls at hl ⊢
  have hl : lv_has ls 2 [(0, .int x), (1, .int y)] := hl
  refine lv_iload_n hx hb dX3_dividedUp_0 rfl (lv_at hl 1 rfl) ?_
  refine lv_iconst (v := 1) hx hb dX3_dividedUp_1 (by decide) ?_
  refine lv_icmp_ge (tgt := 9) hx hb dX3_dividedUp_2 (by decide) (fun c_2 => ?_) (fun c_2 => ?_)
  · -- 2 t
    refine lv_iload_n hx hb dX3_dividedUp_9 rfl (lv_at hl 0 rfl) ?_
    refine lv_iload_n hx hb dX3_dividedUp_10 rfl (lv_at hl 1 rfl) ?_
    refine lv_iadd hx hb dX3_dividedUp_11 ?_
    refine lv_iconst (v := 1) hx hb dX3_dividedUp_12 (by decide) ?_
    refine lv_isub hx hb dX3_dividedUp_13 ?_
    refine lv_iload_n hx hb dX3_dividedUp_14 rfl (lv_at hl 1 rfl) ?_
    refine lv_idiv hx hb dX3_dividedUp_15 (fun q => absurd c_2 (by rw [q]; decide)) ?_
    exact g_iret hx hb hr hlocks dX3_dividedUp_16 (by rw [divUp, if_pos c_2])
  · -- 2 f
    refine lv_iload_n hx hb dX3_dividedUp_5 rfl (lv_at hl 0 rfl) ?_
    refine lv_goto (tgt := 16) hx hb dX3_dividedUp_6 (by decide) ?_
    exact g_iret hx hb hr hlocks dX3_dividedUp_16 (by rw [divUp, if_neg c_2])

set_option maxHeartbeats 4000000 in
set_option maxRecDepth 100000 in
/-- nextByScan -/
theorem m_X3_nextByScan (l : Launch) (D : va_G) (cy : Nat → ClassId) (ad : NT) (τ : IT) (ν : NT) (hI : CI τ ν) : Met l yX3_nextByScan wsX3_nextByScan ({ frames := 4, cells := 0, slots := 0, locals := 95 } : Room) (va_Pc [.ref (ad 0 0)] (fun U => gK D cy U ∧ (CW D cy ad τ ν) U.heap)) (rQ (some (.int (numO (scanL τ ν 30 0 none))))) 0 0 (fun _ => False) := by
  refine Met.ofW (cc := cX3_nextByScan) (maxL := 6) (ret := (some .int)) (by decide) rfl ?_
  intro p e s m args below meth c s₁ B9 hml hv
  obtain ⟨rfl, hK, hB⟩ := hv
  have hx := B9.exec
  have hb := B9.bytes
  have hr := B9.returns
  have hts := atoms_spec (ws := wsX3_nextByScan) B9.pre
  have hown : s.vm.findClass RX3 = some m.cls := findClass_of_methodNamed B9.named
  have hlocks := B9.notSynchronized
  have lk25 := hts (.fieldLink RX3 25 "Politecrawl" "found" "[LPolitecrawl$Page;") (by decide +kernel)
  have inX3 : ∀ w ∈ u_ws RX3 TX3 9, w ∈ wsX3_nextByScan := by decide +kernel
  have hl := lv_entry ([.ref (ad 0 0)]) (n := 6) (Nat.le_of_ble_eq_true rfl)
  rw [lg_entry_eq]
  generalize (lg_sl ([.ref (ad 0 0)]) ++ List.replicate (6 - (lg_sl ([.ref (ad 0 0)])).length) Slot.unset).toArray = ls at hl ⊢
  have hl : lv_has ls 6 [(0, .ref (ad 0 0))] := hl
  obtain ⟨V, hV⟩ : ∃ V, V = numO (scanL τ ν (30 - 0) 0 none) := ⟨_, rfl⟩
  have hV0 : numO (scanL τ ν 30 0 none) = V := hV.symm
  rw [hV0]
  refine lv_null hx hb dX3_nextByScan_0 ?_
  refine lv_astore_nN (lv' := [(1, .null), (0, .ref (ad 0 0))]) hx hb dX3_nextByScan_1 rfl hl (by decide) rfl (fun ls hl => ?_)
  refine lv_aload_n hx hb dX3_nextByScan_2 rfl (lv_at hl 1 rfl) ?_
  refine g_get (C := RX3) (T := TX3) (N := 9) (ci := 3) (fs := [.ref (ad 1 0), .ref (ad 2 0), .ref (ad 3 0), .int (nI (ν 0 0)), .int (τ 0 0), .int (τ 1 0), .int (τ 2 0), .int (τ 3 0), .int (τ 20 0)]) hx hb hts inX3 hown hK (hB 0 0 Nat.zero_lt_one) rfl 2 (by decide) lk25 rfl rfl dX3_nextByScan_3 ?_
  refine lv_astore_n (lv' := [(2, .ref (ad 3 0)), (1, .null), (0, .ref (ad 0 0))]) hx hb dX3_nextByScan_6 rfl hl (by decide) rfl (fun ls hl => ?_)
  refine lv_aload_n hx hb dX3_nextByScan_7 rfl (lv_at hl 0 rfl) ?_
  refine g_alen (v := 30) hx hb hK 4 (hB 3 0 Nat.zero_lt_one) rfl rfl dX3_nextByScan_8 ?_
  refine lv_istore_n (lv' := [(3, .int 30), (2, .ref (ad 3 0)), (1, .null), (0, .ref (ad 0 0))]) hx hb dX3_nextByScan_9 rfl hl (by decide) rfl (fun ls hl => ?_)
  refine lv_iconst (v := 0) hx hb dX3_nextByScan_10 (by decide) ?_
  refine lv_topi (fun y1 ey1 => ?_)
  obtain rfl : y1 = nI 0 := ey1.trans (nI_0.symm)
  refine lv_istore (lv' := [(4, .int (nI 0)), (3, .int 30), (2, .ref (ad 3 0)), (1, .null), (0, .ref (ad 0 0))]) hx hb dX3_nextByScan_11 hl (by decide) rfl (fun ls hl => ?_)
  have loop : ∀ (k : Nat) (i : Nat) (f : Option Nat) (ls : Array Slot), i ≤ 30 → (∀ a, f = some a → a < ν 0 0) → 30 < i + k → V = numO (scanL τ ν (30 - i) i f) → lv_has ls 6 [(0, .ref (ad 0 0)), (1, va_rf (f.map (ad 7))), (2, .ref (ad 3 0)), (3, .int 30), (4, .int (nI i))] → W p l e (headSpec wsX3_nextByScan ({ frames := 4, cells := 0, slots := 0, locals := 95 } : Room)).room s m ([.ref (ad 0 0)] : List Value).toArray below meth c s.heap [] 0 0 (MQ below (rQ (some (.int V))) ([.ref (ad 0 0)] : List Value).toArray s 0 0 (fun _ => False)) (F0 m 13 ls []) := by
    intro k
    induction k with
    | zero => intro i f ls hi hf hk hV hl; exfalso; omega
    | succ k loop_ih =>
      intro i f ls hi hf hk hV hl
      refine lv_iload hx hb dX3_nextByScan_13 (lv_at hl 4 rfl) ?_
      refine lv_iload_n hx hb dX3_nextByScan_15 rfl (lv_at hl 3 rfl) ?_
      refine lv_icmp_ge (tgt := 53) hx hb dX3_nextByScan_16 (by decide) (fun c_16 => ?_) (fun c_16 => ?_)
      · -- 16 t
        have hle : 30 ≤ i := (nI_leI (a := 30) (by decide) (by omega)).mp c_16
        rw [show 30 - i = 0 by omega, scanL] at hV
        refine g_aload_n hx hb (va_rf_or _) dX3_nextByScan_53 rfl (lv_at hl 1 rfl) ?_
        refine g_csr (va_runS (As := [va_rf (f.map (ad 7))]) (rest := []) ⟨hx, hb, hml, hown, hts⟩ (m_X3_numberOf l D cy ad τ ν f hf) (va_cwS 1 hts gX3_nextByScan_X3_numberOf rfl rfl rfl (by decide +kernel) ⟨Nat.le_of_ble_eq_true rfl, Nat.le_of_ble_eq_true rfl⟩) (g_preS (B := (CW D cy ad τ ν)) hK hB) rfl rfl hl.1 rfl (lv_room (Nat.le_of_ble_eq_true rfl)) dX3_nextByScan_54 ⟨Nat.zero_le _, Nat.zero_le _⟩) ?_
        exact g_iret hx hb hr hlocks dX3_nextByScan_57 hV.symm
      · -- 16 f
        have hlt : i < 30 := Nat.not_le.mp fun q => c_16 ((nI_leI (a := 30) (by decide) (by omega)).mpr q)
        obtain ⟨j, hj⟩ : ∃ j, 30 - i = j + 1 := ⟨30 - i - 1, by omega⟩
        have hj2 : 30 - (i + 1) = j := by omega
        rw [hj, scanL] at hV
        refine lv_aload_n hx hb dX3_nextByScan_19 rfl (lv_at hl 2 rfl) ?_
        refine lv_iload hx hb dX3_nextByScan_20 (lv_at hl 4 rfl) ?_
        refine g_pald (f := fun j => if j < ν 0 0 then some (ad 7 j) else none) (v := va_rf (if i < ν 0 0 then some (ad 7 i) else none)) hx hb hK (hB 3 0 Nat.zero_lt_one) (vp_in_nI hlt (by decide)) (by rw [cl_nI (by omega)]) dX3_nextByScan_22 ?_
        by_cases hp9 : i < ν 0 0
        · -- page t
          refine g_top (v' := .ref (ad 7 i)) (by rw [if_pos hp9]; rfl) ?_
          refine lv_astore (lv' := [(5, .ref (ad 7 i)), (0, .ref (ad 0 0)), (1, va_rf (f.map (ad 7))), (2, .ref (ad 3 0)), (3, .int 30), (4, .int (nI i))]) hx hb dX3_nextByScan_23 hl (by decide) rfl (fun ls hl => ?_)
          refine lv_aload hx hb dX3_nextByScan_25 (lv_at hl 0 rfl) ?_
          refine lv_ifnull hx hb dX3_nextByScan_27 ?_
          refine lv_aload_n hx hb dX3_nextByScan_30 rfl (lv_at hl 1 rfl) ?_
          refine lv_aload hx hb dX3_nextByScan_31 (lv_at hl 0 rfl) ?_
          refine g_csr (va_runV (As := [.ref (ad 7 i)]) (rest := []) ⟨hx, hb, hml, hown, hts⟩ (m_X3_isReady l D cy ad τ ν hI i hp9) (cwV 1 hts gX3_nextByScan_X3_isReady rfl rfl rfl (by decide +kernel) ⟨Nat.le_of_ble_eq_true rfl, Nat.le_of_ble_eq_true rfl⟩) (g_preV (C := RX3) (B := (CW D cy ad τ ν)) hK hB (hB 0 0 Nat.zero_lt_one) rfl) rfl rfl hl.1 rfl (lv_room (Nat.le_of_ble_eq_true rfl)) dX3_nextByScan_33 ⟨Nat.zero_le _, Nat.zero_le _⟩) ?_
          refine lv_if_eq (tgt := 47) hx hb dX3_nextByScan_36 (by decide) (fun c_36 => ?_) (fun c_36 => ?_)
          · -- 36 t
            rw [if_neg (fun q => by rw [zb_0.mp c_36] at q; cases q.2)] at hV
            refine lv_iinc (v := nI (i + 1)) (lv' := [(4, .int (nI (i + 1))), (5, .ref (ad 7 i)), (0, .ref (ad 0 0)), (1, va_rf (f.map (ad 7))), (2, .ref (ad 3 0)), (3, .int 30)]) hx hb dX3_nextByScan_47 hl (k := 5) rfl (nI_1 i) (by decide) rfl (fun ls hl => ?_)
            refine lv_goto (tgt := 13) hx hb dX3_nextByScan_50 (by decide) ?_
            exact loop_ih (i + 1) f ls (by omega) hf (by omega) (by rw [hj2]; exact hV) (lv_sub hl [2, 3, 4, 5, 0] rfl)
          · -- 36 f
            refine lv_aload_n hx hb dX3_nextByScan_39 rfl (lv_at hl 1 rfl) ?_
            refine g_aload_n hx hb (va_rf_or _) dX3_nextByScan_40 rfl (lv_at hl 2 rfl) ?_
            refine lv_aload hx hb dX3_nextByScan_41 (lv_at hl 0 rfl) ?_
            refine g_csr (va_runV (As := [va_rf (f.map (ad 7)), .ref (ad 7 i)]) (rest := []) ⟨hx, hb, hml, hown, hts⟩ (m_X3_earlier l D cy ad τ ν f (some i) hf (some_lt hp9)) (cwV 2 hts gX3_nextByScan_X3_earlier rfl rfl rfl (by decide +kernel) ⟨Nat.le_of_ble_eq_true rfl, Nat.le_of_ble_eq_true rfl⟩) (g_preV (C := RX3) (B := (CW D cy ad τ ν)) hK hB (hB 0 0 Nat.zero_lt_one) rfl) rfl rfl hl.1 rfl (lv_room (Nat.le_of_ble_eq_true rfl)) dX3_nextByScan_43 ⟨Nat.zero_le _, Nat.zero_le _⟩) ?_
            refine g_astore_n (lv' := [(1, va_rf ((earl τ f (some i)).map (ad 7))), (5, .ref (ad 7 i)), (0, .ref (ad 0 0)), (2, .ref (ad 3 0)), (3, .int 30), (4, .int (nI i))]) hx hb (va_rf_or _) dX3_nextByScan_46 rfl hl (by decide) rfl (fun ls hl => ?_)
            rw [if_pos ⟨hp9, zb_n0.mp c_36⟩] at hV
            refine lv_iinc (v := nI (i + 1)) (lv' := [(4, .int (nI (i + 1))), (1, va_rf ((earl τ f (some i)).map (ad 7))), (5, .ref (ad 7 i)), (0, .ref (ad 0 0)), (2, .ref (ad 3 0)), (3, .int 30)]) hx hb dX3_nextByScan_47 hl (k := 5) rfl (nI_1 i) (by decide) rfl (fun ls hl => ?_)
            refine lv_goto (tgt := 13) hx hb dX3_nextByScan_50 (by decide) ?_
            exact loop_ih (i + 1) (earl τ f (some i)) ls (by omega) (earl_lt hf (some_lt hp9)) (by omega) (by rw [hj2]; exact hV) (lv_sub hl [3, 1, 4, 5, 0] rfl)
        · -- page f
          refine g_top (v' := .null) (by rw [if_neg hp9]; rfl) ?_
          refine lv_astoreN (lv' := [(5, .null), (0, .ref (ad 0 0)), (1, va_rf (f.map (ad 7))), (2, .ref (ad 3 0)), (3, .int 30), (4, .int (nI i))]) hx hb dX3_nextByScan_23 hl (by decide) rfl (fun ls hl => ?_)
          refine lv_aloadN hx hb dX3_nextByScan_25 (lv_at hl 0 rfl) ?_
          refine lv_ifnullN (tgt := 47) hx hb dX3_nextByScan_27 (by decide) ?_
          rw [if_neg (fun q => hp9 q.1)] at hV
          refine lv_iinc (v := nI (i + 1)) (lv' := [(4, .int (nI (i + 1))), (5, .null), (0, .ref (ad 0 0)), (1, va_rf (f.map (ad 7))), (2, .ref (ad 3 0)), (3, .int 30)]) hx hb dX3_nextByScan_47 hl (k := 5) rfl (nI_1 i) (by decide) rfl (fun ls hl => ?_)
          refine lv_goto (tgt := 13) hx hb dX3_nextByScan_50 (by decide) ?_
          exact loop_ih (i + 1) f ls (by omega) hf (by omega) (by rw [hj2]; exact hV) (lv_sub hl [2, 3, 4, 5, 0] rfl)
  exact loop (30 + 1) 0 none ls (Nat.zero_le _) (fun _ h => nomatch h) (by omega) hV (lv_sub hl [4, 3, 2, 1, 0] rfl)

set_option maxHeartbeats 4000000 in
set_option maxRecDepth 100000 in
/-- firstOfHost -/
theorem m_X3_firstOfHost (l : Launch) (D : va_G) (cy : Nat → ClassId) (ad : NT) (τ : IT) (ν : NT) (hI : CI τ ν) (hJ : wJ (cC (ν 0 0)) ad) (h : Nat) (hh : h < 6) : Met l yX3_firstOfHost wsX3_firstOfHost ({ frames := 4, cells := 0, slots := 0, locals := 95 } : Room) (va_Pc [.ref (ad 0 0), .ref (ad 6 h)] (fun U => gK D cy U ∧ (CW D cy ad τ ν) U.heap)) (rQ (some (va_rf ((fohL τ ν h 30 0 none).map (ad 7))))) 0 0 (fun _ => False) := by
  refine Met.ofW (cc := cX3_firstOfHost) (maxL := 7) (ret := (some (.object "Politecrawl$Page"))) (by decide) rfl ?_
  intro p e s m args below meth c s₁ B9 hml hv
  obtain ⟨rfl, hK, hB⟩ := hv
  have hx := B9.exec
  have hb := B9.bytes
  have hr := B9.returns
  have hts := atoms_spec (ws := wsX3_firstOfHost) B9.pre
  have hown : s.vm.findClass RX3 = some m.cls := findClass_of_methodNamed B9.named
  have hlocks := B9.notSynchronized
  have lk25 := hts (.fieldLink RX3 25 "Politecrawl" "found" "[LPolitecrawl$Page;") (by decide +kernel)
  have inX3 : ∀ w ∈ u_ws RX3 TX3 9, w ∈ wsX3_firstOfHost := by decide +kernel
  have lk162 := hts (.fieldLink RX3 162 "Politecrawl$Page" "host" "LPolitecrawl$Host;") (by decide +kernel)
  have inX2 : ∀ w ∈ u_ws RX2 TX2 10, w ∈ wsX3_firstOfHost := by decide +kernel
  have hl := lv_entry ([.ref (ad 0 0), .ref (ad 6 h)]) (n := 7) (Nat.le_of_ble_eq_true rfl)
  rw [lg_entry_eq]
  generalize (lg_sl ([.ref (ad 0 0), .ref (ad 6 h)]) ++ List.replicate (7 - (lg_sl ([.ref (ad 0 0), .ref (ad 6 h)])).length) Slot.unset).toArray = ls at hl ⊢
  have hl : lv_has ls 7 [(0, .ref (ad 0 0)), (1, .ref (ad 6 h))] := hl
  obtain ⟨V, hV⟩ : ∃ V, V = va_rf ((fohL τ ν h (30 - 0) 0 none).map (ad 7)) := ⟨_, rfl⟩
  have hV0 : va_rf ((fohL τ ν h 30 0 none).map (ad 7)) = V := hV.symm
  rw [hV0]
  refine lv_null hx hb dX3_firstOfHost_0 ?_
  refine lv_astore_nN (lv' := [(2, .null), (0, .ref (ad 0 0)), (1, .ref (ad 6 h))]) hx hb dX3_firstOfHost_1 rfl hl (by decide) rfl (fun ls hl => ?_)
  refine lv_aload_n hx hb dX3_firstOfHost_2 rfl (lv_at hl 1 rfl) ?_
  refine g_get (C := RX3) (T := TX3) (N := 9) (ci := 3) (fs := [.ref (ad 1 0), .ref (ad 2 0), .ref (ad 3 0), .int (nI (ν 0 0)), .int (τ 0 0), .int (τ 1 0), .int (τ 2 0), .int (τ 3 0), .int (τ 20 0)]) hx hb hts inX3 hown hK (hB 0 0 Nat.zero_lt_one) rfl 2 (by decide) lk25 rfl rfl dX3_firstOfHost_3 ?_
  refine lv_astore_n (lv' := [(3, .ref (ad 3 0)), (2, .null), (0, .ref (ad 0 0)), (1, .ref (ad 6 h))]) hx hb dX3_firstOfHost_6 rfl hl (by decide) rfl (fun ls hl => ?_)
  refine lv_aload_n hx hb dX3_firstOfHost_7 rfl (lv_at hl 0 rfl) ?_
  refine g_alen (v := 30) hx hb hK 4 (hB 3 0 Nat.zero_lt_one) rfl rfl dX3_firstOfHost_8 ?_
  refine lv_istore (lv' := [(4, .int 30), (3, .ref (ad 3 0)), (2, .null), (0, .ref (ad 0 0)), (1, .ref (ad 6 h))]) hx hb dX3_firstOfHost_9 hl (by decide) rfl (fun ls hl => ?_)
  refine lv_iconst (v := 0) hx hb dX3_firstOfHost_11 (by decide) ?_
  refine lv_topi (fun y1 ey1 => ?_)
  obtain rfl : y1 = nI 0 := ey1.trans (nI_0.symm)
  refine lv_istore (lv' := [(5, .int (nI 0)), (4, .int 30), (3, .ref (ad 3 0)), (2, .null), (0, .ref (ad 0 0)), (1, .ref (ad 6 h))]) hx hb dX3_firstOfHost_12 hl (by decide) rfl (fun ls hl => ?_)
  have loop : ∀ (k : Nat) (i : Nat) (f : Option Nat) (ls : Array Slot), i ≤ 30 → (∀ a, f = some a → a < ν 0 0) → 30 < i + k → V = va_rf ((fohL τ ν h (30 - i) i f).map (ad 7)) → lv_has ls 7 [(0, .ref (ad 0 0)), (1, .ref (ad 6 h)), (2, va_rf (f.map (ad 7))), (3, .ref (ad 3 0)), (4, .int 30), (5, .int (nI i))] → W p l e (headSpec wsX3_firstOfHost ({ frames := 4, cells := 0, slots := 0, locals := 95 } : Room)).room s m ([.ref (ad 0 0), .ref (ad 6 h)] : List Value).toArray below meth c s.heap [] 0 0 (MQ below (rQ (some (V))) ([.ref (ad 0 0), .ref (ad 6 h)] : List Value).toArray s 0 0 (fun _ => False)) (F0 m 14 ls []) := by
    intro k
    induction k with
    | zero => intro i f ls hi hf hk hV hl; exfalso; omega
    | succ k loop_ih =>
      intro i f ls hi hf hk hV hl
      refine lv_iload hx hb dX3_firstOfHost_14 (lv_at hl 5 rfl) ?_
      refine lv_iload hx hb dX3_firstOfHost_16 (lv_at hl 4 rfl) ?_
      refine lv_icmp_ge (tgt := 64) hx hb dX3_firstOfHost_18 (by decide) (fun c_18 => ?_) (fun c_18 => ?_)
      · -- 18 t
        have hle : 30 ≤ i := (nI_leI (a := 30) (by decide) (by omega)).mp c_18
        rw [show 30 - i = 0 by omega, fohL] at hV
        refine g_aload_n hx hb (va_rf_or _) dX3_firstOfHost_64 rfl (lv_at hl 2 rfl) ?_
        exact g_aret hx hb hr hlocks (va_rf_or _) dX3_firstOfHost_65 hV.symm
      · -- 18 f
        have hlt : i < 30 := Nat.not_le.mp fun q => c_18 ((nI_leI (a := 30) (by decide) (by omega)).mpr q)
        obtain ⟨j, hj⟩ : ∃ j, 30 - i = j + 1 := ⟨30 - i - 1, by omega⟩
        have hj2 : 30 - (i + 1) = j := by omega
        rw [hj, fohL] at hV
        refine lv_aload_n hx hb dX3_firstOfHost_21 rfl (lv_at hl 3 rfl) ?_
        refine lv_iload hx hb dX3_firstOfHost_22 (lv_at hl 5 rfl) ?_
        refine g_pald (f := fun j => if j < ν 0 0 then some (ad 7 j) else none) (v := va_rf (if i < ν 0 0 then some (ad 7 i) else none)) hx hb hK (hB 3 0 Nat.zero_lt_one) (vp_in_nI hlt (by decide)) (by rw [cl_nI (by omega)]) dX3_firstOfHost_24 ?_
        by_cases hp9 : i < ν 0 0
        · -- page t
          refine g_top (v' := .ref (ad 7 i)) (by rw [if_pos hp9]; rfl) ?_
          refine lv_astore (lv' := [(6, .ref (ad 7 i)), (0, .ref (ad 0 0)), (1, .ref (ad 6 h)), (2, va_rf (f.map (ad 7))), (3, .ref (ad 3 0)), (4, .int 30), (5, .int (nI i))]) hx hb dX3_firstOfHost_25 hl (by decide) rfl (fun ls hl => ?_)
          refine lv_aload hx hb dX3_firstOfHost_27 (lv_at hl 0 rfl) ?_
          refine lv_ifnull hx hb dX3_firstOfHost_29 ?_
          refine lv_aload hx hb dX3_firstOfHost_32 (lv_at hl 0 rfl) ?_
          refine g_get (C := RX2) (T := TX2) (N := 10) (ci := 2) (fs := [.int (nI i), .ref (ad 6 (ν 5 i)), .ref (ad 8 i), .int (τ 15 i), .int (τ 10 i), .int (τ 11 i), .int (τ 12 i), .int (τ 13 i), .int (τ 14 i), .int (τ 25 i)]) hx hb hts inX2 hown hK (hB 7 i hp9) rfl 1 (by decide) lk162 rfl rfl dX3_firstOfHost_34 ?_
          refine lv_aload_n hx hb dX3_firstOfHost_37 rfl (lv_at hl 2 rfl) ?_
          refine lv_acmp_ne (rx := (some (ad 6 (ν 5 i)))) (ry := (some (ad 6 h))) (tgt := 58) hx hb dX3_firstOfHost_38 (by decide) (fun c_38 => ?_) (fun c_38 => ?_)
          · -- 38 t
            rw [if_neg (fun q => c_38 (by rw [q.2.1]))] at hV
            refine lv_iinc (v := nI (i + 1)) (lv' := [(5, .int (nI (i + 1))), (6, .ref (ad 7 i)), (0, .ref (ad 0 0)), (1, .ref (ad 6 h)), (2, va_rf (f.map (ad 7))), (3, .ref (ad 3 0)), (4, .int 30)]) hx hb dX3_firstOfHost_58 hl (k := 6) rfl (nI_1 i) (by decide) rfl (fun ls hl => ?_)
            refine lv_goto (tgt := 14) hx hb dX3_firstOfHost_61 (by decide) ?_
            exact loop_ih (i + 1) f ls (by omega) hf (by omega) (by rw [hj2]; exact hV) (lv_sub hl [2, 3, 4, 5, 6, 0] rfl)
          · -- 38 f
            refine lv_aload_n hx hb dX3_firstOfHost_41 rfl (lv_at hl 1 rfl) ?_
            refine lv_aload hx hb dX3_firstOfHost_42 (lv_at hl 0 rfl) ?_
            refine g_csr (va_runV (As := [.ref (ad 7 i)]) (rest := []) ⟨hx, hb, hml, hown, hts⟩ (m_X3_isReady l D cy ad τ ν hI i hp9) (cwV 1 hts gX3_firstOfHost_X3_isReady rfl rfl rfl (by decide +kernel) ⟨Nat.le_of_ble_eq_true rfl, Nat.le_of_ble_eq_true rfl⟩) (g_preV (C := RX3) (B := (CW D cy ad τ ν)) hK hB (hB 0 0 Nat.zero_lt_one) rfl) rfl rfl hl.1 rfl (lv_room (Nat.le_of_ble_eq_true rfl)) dX3_firstOfHost_44 ⟨Nat.zero_le _, Nat.zero_le _⟩) ?_
            refine lv_if_eq (tgt := 58) hx hb dX3_firstOfHost_47 (by decide) (fun c_47 => ?_) (fun c_47 => ?_)
            · -- 47 t
              have h38 : ν 5 i = h := (hJ 6 _ 6 h (hI.2.2.2.2.2 i hp9).1 hh (Option.some.inj c_38)).2
              rw [if_neg (fun q => by rw [zb_0.mp c_47] at q; cases q.2.2)] at hV
              refine lv_iinc (v := nI (i + 1)) (lv' := [(5, .int (nI (i + 1))), (6, .ref (ad 7 i)), (0, .ref (ad 0 0)), (1, .ref (ad 6 h)), (2, va_rf (f.map (ad 7))), (3, .ref (ad 3 0)), (4, .int 30)]) hx hb dX3_firstOfHost_58 hl (k := 6) rfl (nI_1 i) (by decide) rfl (fun ls hl => ?_)
              refine lv_goto (tgt := 14) hx hb dX3_firstOfHost_61 (by decide) ?_
              exact loop_ih (i + 1) f ls (by omega) hf (by omega) (by rw [hj2]; exact hV) (lv_sub hl [2, 3, 4, 5, 6, 0] rfl)
            · -- 47 f
              refine lv_aload_n hx hb dX3_firstOfHost_50 rfl (lv_at hl 1 rfl) ?_
              refine g_aload_n hx hb (va_rf_or _) dX3_firstOfHost_51 rfl (lv_at hl 3 rfl) ?_
              refine lv_aload hx hb dX3_firstOfHost_52 (lv_at hl 0 rfl) ?_
              refine g_csr (va_runV (As := [va_rf (f.map (ad 7)), .ref (ad 7 i)]) (rest := []) ⟨hx, hb, hml, hown, hts⟩ (m_X3_earlier l D cy ad τ ν f (some i) hf (some_lt hp9)) (cwV 2 hts gX3_firstOfHost_X3_earlier rfl rfl rfl (by decide +kernel) ⟨Nat.le_of_ble_eq_true rfl, Nat.le_of_ble_eq_true rfl⟩) (g_preV (C := RX3) (B := (CW D cy ad τ ν)) hK hB (hB 0 0 Nat.zero_lt_one) rfl) rfl rfl hl.1 rfl (lv_room (Nat.le_of_ble_eq_true rfl)) dX3_firstOfHost_54 ⟨Nat.zero_le _, Nat.zero_le _⟩) ?_
              refine g_astore_n (lv' := [(2, va_rf ((earl τ f (some i)).map (ad 7))), (6, .ref (ad 7 i)), (0, .ref (ad 0 0)), (1, .ref (ad 6 h)), (3, .ref (ad 3 0)), (4, .int 30), (5, .int (nI i))]) hx hb (va_rf_or _) dX3_firstOfHost_57 rfl hl (by decide) rfl (fun ls hl => ?_)
              have h38 : ν 5 i = h := (hJ 6 _ 6 h (hI.2.2.2.2.2 i hp9).1 hh (Option.some.inj c_38)).2
              rw [if_pos ⟨hp9, h38, zb_n0.mp c_47⟩] at hV
              refine lv_iinc (v := nI (i + 1)) (lv' := [(5, .int (nI (i + 1))), (2, va_rf ((earl τ f (some i)).map (ad 7))), (6, .ref (ad 7 i)), (0, .ref (ad 0 0)), (1, .ref (ad 6 h)), (3, .ref (ad 3 0)), (4, .int 30)]) hx hb dX3_firstOfHost_58 hl (k := 6) rfl (nI_1 i) (by decide) rfl (fun ls hl => ?_)
              refine lv_goto (tgt := 14) hx hb dX3_firstOfHost_61 (by decide) ?_
              exact loop_ih (i + 1) (earl τ f (some i)) ls (by omega) (earl_lt hf (some_lt hp9)) (by omega) (by rw [hj2]; exact hV) (lv_sub hl [3, 4, 1, 5, 6, 0] rfl)
        · -- page f
          refine g_top (v' := .null) (by rw [if_neg hp9]; rfl) ?_
          refine lv_astoreN (lv' := [(6, .null), (0, .ref (ad 0 0)), (1, .ref (ad 6 h)), (2, va_rf (f.map (ad 7))), (3, .ref (ad 3 0)), (4, .int 30), (5, .int (nI i))]) hx hb dX3_firstOfHost_25 hl (by decide) rfl (fun ls hl => ?_)
          refine lv_aloadN hx hb dX3_firstOfHost_27 (lv_at hl 0 rfl) ?_
          refine lv_ifnullN (tgt := 58) hx hb dX3_firstOfHost_29 (by decide) ?_
          rw [if_neg (fun q => hp9 q.1)] at hV
          refine lv_iinc (v := nI (i + 1)) (lv' := [(5, .int (nI (i + 1))), (6, .null), (0, .ref (ad 0 0)), (1, .ref (ad 6 h)), (2, va_rf (f.map (ad 7))), (3, .ref (ad 3 0)), (4, .int 30)]) hx hb dX3_firstOfHost_58 hl (k := 6) rfl (nI_1 i) (by decide) rfl (fun ls hl => ?_)
          refine lv_goto (tgt := 14) hx hb dX3_firstOfHost_61 (by decide) ?_
          exact loop_ih (i + 1) f ls (by omega) hf (by omega) (by rw [hj2]; exact hV) (lv_sub hl [2, 3, 4, 5, 6, 0] rfl)
  exact loop (30 + 1) 0 none ls (Nat.zero_le _) (fun _ h => nomatch h) (by omega) hV (lv_sub hl [4, 5, 3, 2, 1, 0] rfl)


theorem fohL_lt {τ : IT} {ν : NT} {h : Nat} : ∀ (k i : Nat) (f : Option Nat), (∀ a, f = some a → a < ν 0 0) → ∀ a, fohL τ ν h k i f = some a → a < ν 0 0 := by
  intro k
  induction k with
  | zero => intro i f hf a e; exact hf a e
  | succ k ih =>
    intro i f hf a e
    rw [fohL] at e
    by_cases q : i < ν 0 0 ∧ ν 5 i = h ∧ isRdy τ ν i = true
    · rw [if_pos q] at e; exact ih _ _ (earl_lt hf (some_lt q.1)) a e
    · rw [if_neg q] at e; exact ih _ _ hf a e

set_option maxHeartbeats 4000000 in
set_option maxRecDepth 100000 in
/-- next -/
theorem m_X3_next (l : Launch) (D : va_G) (cy : Nat → ClassId) (ad : NT) (τ : IT) (ν : NT) (hI : CI τ ν) (hJ : wJ (cC (ν 0 0)) ad) : Met l yX3_next wsX3_next ({ frames := 5, cells := 0, slots := 0, locals := 130 } : Room) (va_Pc [.ref (ad 0 0)] (fun U => gK D cy U ∧ (CW D cy ad τ ν) U.heap)) (rQ (some (.int (numO (nextL τ ν 6 0 none))))) 0 0 (fun _ => False) := by
  refine Met.ofW (cc := cX3_next) (maxL := 6) (ret := (some .int)) (by decide) rfl ?_
  intro p e s m args below meth c s₁ B9 hml hv
  obtain ⟨rfl, hK, hB⟩ := hv
  have hx := B9.exec
  have hb := B9.bytes
  have hr := B9.returns
  have hts := atoms_spec (ws := wsX3_next) B9.pre
  have hown : s.vm.findClass RX3 = some m.cls := findClass_of_methodNamed B9.named
  have hlocks := B9.notSynchronized
  have lk18 := hts (.fieldLink RX3 18 "Politecrawl" "hosts" "[LPolitecrawl$Host;") (by decide +kernel)
  have inX3 : ∀ w ∈ u_ws RX3 TX3 9, w ∈ wsX3_next := by decide +kernel
  have hl := lv_entry ([.ref (ad 0 0)]) (n := 6) (Nat.le_of_ble_eq_true rfl)
  rw [lg_entry_eq]
  generalize (lg_sl ([.ref (ad 0 0)]) ++ List.replicate (6 - (lg_sl ([.ref (ad 0 0)])).length) Slot.unset).toArray = ls at hl ⊢
  have hl : lv_has ls 6 [(0, .ref (ad 0 0))] := hl
  obtain ⟨V, hV⟩ : ∃ V, V = numO (nextL τ ν (6 - 0) 0 none) := ⟨_, rfl⟩
  have hV0 : numO (nextL τ ν 6 0 none) = V := hV.symm
  rw [hV0]
  refine lv_null hx hb dX3_next_0 ?_
  refine lv_astore_nN (lv' := [(1, .null), (0, .ref (ad 0 0))]) hx hb dX3_next_1 rfl hl (by decide) rfl (fun ls hl => ?_)
  refine lv_aload_n hx hb dX3_next_2 rfl (lv_at hl 1 rfl) ?_
  refine g_get (C := RX3) (T := TX3) (N := 9) (ci := 3) (fs := [.ref (ad 1 0), .ref (ad 2 0), .ref (ad 3 0), .int (nI (ν 0 0)), .int (τ 0 0), .int (τ 1 0), .int (τ 2 0), .int (τ 3 0), .int (τ 20 0)]) hx hb hts inX3 hown hK (hB 0 0 Nat.zero_lt_one) rfl 1 (by decide) lk18 rfl rfl dX3_next_3 ?_
  refine lv_astore_n (lv' := [(2, .ref (ad 2 0)), (1, .null), (0, .ref (ad 0 0))]) hx hb dX3_next_6 rfl hl (by decide) rfl (fun ls hl => ?_)
  refine lv_aload_n hx hb dX3_next_7 rfl (lv_at hl 0 rfl) ?_
  refine g_alen (v := 6) hx hb hK 3 (hB 2 0 Nat.zero_lt_one) rfl rfl dX3_next_8 ?_
  refine lv_istore_n (lv' := [(3, .int 6), (2, .ref (ad 2 0)), (1, .null), (0, .ref (ad 0 0))]) hx hb dX3_next_9 rfl hl (by decide) rfl (fun ls hl => ?_)
  refine lv_iconst (v := 0) hx hb dX3_next_10 (by decide) ?_
  refine lv_topi (fun y1 ey1 => ?_)
  obtain rfl : y1 = nI 0 := ey1.trans (nI_0.symm)
  refine lv_istore (lv' := [(4, .int (nI 0)), (3, .int 6), (2, .ref (ad 2 0)), (1, .null), (0, .ref (ad 0 0))]) hx hb dX3_next_11 hl (by decide) rfl (fun ls hl => ?_)
  have loop : ∀ (k : Nat) (i : Nat) (f : Option Nat) (ls : Array Slot), i ≤ 6 → (∀ a, f = some a → a < ν 0 0) → 6 < i + k → V = numO (nextL τ ν (6 - i) i f) → lv_has ls 6 [(0, .ref (ad 0 0)), (1, va_rf (f.map (ad 7))), (2, .ref (ad 2 0)), (3, .int 6), (4, .int (nI i))] → W p l e (headSpec wsX3_next ({ frames := 5, cells := 0, slots := 0, locals := 130 } : Room)).room s m ([.ref (ad 0 0)] : List Value).toArray below meth c s.heap [] 0 0 (MQ below (rQ (some (.int V))) ([.ref (ad 0 0)] : List Value).toArray s 0 0 (fun _ => False)) (F0 m 13 ls []) := by
    intro k
    induction k with
    | zero => intro i f ls hi hf hk hV hl; exfalso; omega
    | succ k loop_ih =>
      intro i f ls hi hf hk hV hl
      refine lv_iload hx hb dX3_next_13 (lv_at hl 4 rfl) ?_
      refine lv_iload_n hx hb dX3_next_15 rfl (lv_at hl 3 rfl) ?_
      refine lv_icmp_ge (tgt := 43) hx hb dX3_next_16 (by decide) (fun c_16 => ?_) (fun c_16 => ?_)
      · -- 16 t
        have hle : 6 ≤ i := (nI_leI (a := 6) (by decide) (by omega)).mp c_16
        rw [show 6 - i = 0 by omega, nextL] at hV
        refine g_aload_n hx hb (va_rf_or _) dX3_next_43 rfl (lv_at hl 1 rfl) ?_
        refine g_csr (va_runS (As := [va_rf (f.map (ad 7))]) (rest := []) ⟨hx, hb, hml, hown, hts⟩ (m_X3_numberOf l D cy ad τ ν f hf) (va_cwS 1 hts gX3_next_X3_numberOf rfl rfl rfl (by decide +kernel) ⟨Nat.le_of_ble_eq_true rfl, Nat.le_of_ble_eq_true rfl⟩) (g_preS (B := (CW D cy ad τ ν)) hK hB) rfl rfl hl.1 rfl (lv_room (Nat.le_of_ble_eq_true rfl)) dX3_next_44 ⟨Nat.zero_le _, Nat.zero_le _⟩) ?_
        exact g_iret hx hb hr hlocks dX3_next_47 hV.symm
      · -- 16 f
        have hlt : i < 6 := Nat.not_le.mp fun q => c_16 ((nI_leI (a := 6) (by decide) (by omega)).mpr q)
        obtain ⟨j, hj⟩ : ∃ j, 6 - i = j + 1 := ⟨6 - i - 1, by omega⟩
        have hj2 : 6 - (i + 1) = j := by omega
        rw [hj, nextL] at hV
        refine lv_aload_n hx hb dX3_next_19 rfl (lv_at hl 2 rfl) ?_
        refine lv_iload hx hb dX3_next_20 (lv_at hl 4 rfl) ?_
        refine g_hald (f := fun j => some (ad 6 j)) (v := .ref (ad 6 i)) hx hb hK (hB 2 0 Nat.zero_lt_one) (vp_in_nI hlt (by decide)) (by rw [cl_nI (by omega)]; rfl) dX3_next_22 ?_
        refine lv_astore (lv' := [(5, .ref (ad 6 i)), (0, .ref (ad 0 0)), (1, va_rf (f.map (ad 7))), (2, .ref (ad 2 0)), (3, .int 6), (4, .int (nI i))]) hx hb dX3_next_23 hl (by decide) rfl (fun ls hl => ?_)
        refine lv_aload_n hx hb dX3_next_25 rfl (lv_at hl 1 rfl) ?_
        refine g_aload_n hx hb (va_rf_or _) dX3_next_26 rfl (lv_at hl 2 rfl) ?_
        refine lv_aload_n hx hb dX3_next_27 rfl (lv_at hl 1 rfl) ?_
        refine lv_aload hx hb dX3_next_28 (lv_at hl 0 rfl) ?_
        refine g_csr (va_runV (As := [.ref (ad 6 i)]) (rest := [va_rf (f.map (ad 7)), .ref (ad 0 0)]) ⟨hx, hb, hml, hown, hts⟩ (m_X3_firstOfHost l D cy ad τ ν hI hJ i hlt) (cwV 1 hts gX3_next_X3_firstOfHost rfl rfl rfl (by decide +kernel) ⟨Nat.le_of_ble_eq_true rfl, Nat.le_of_ble_eq_true rfl⟩) (g_preV (C := RX3) (B := (CW D cy ad τ ν)) hK hB (hB 0 0 Nat.zero_lt_one) rfl) rfl rfl hl.1 rfl (lv_room (by simp only [List.map_cons, va_cat]; exact Nat.le_of_ble_eq_true rfl)) dX3_next_30 ⟨Nat.zero_le _, Nat.zero_le _⟩) ?_
        refine g_csr (va_runV (As := [va_rf (f.map (ad 7)), va_rf ((fohL τ ν i 30 0 none).map (ad 7))]) (rest := []) ⟨hx, hb, hml, hown, hts⟩ (m_X3_earlier l D cy ad τ ν f (fohL τ ν i 30 0 none) hf (fohL_lt 30 0 none (fun _ h => nomatch h))) (cwV 2 hts gX3_next_X3_earlier rfl rfl rfl (by decide +kernel) ⟨Nat.le_of_ble_eq_true rfl, Nat.le_of_ble_eq_true rfl⟩) (g_preV (C := RX3) (B := (CW D cy ad τ ν)) hK hB (hB 0 0 Nat.zero_lt_one) rfl) rfl rfl hl.1 rfl (lv_room (Nat.le_of_ble_eq_true rfl)) dX3_next_33 ⟨Nat.zero_le _, Nat.zero_le _⟩) ?_
        refine g_astore_n (lv' := [(1, va_rf ((earl τ f (fohL τ ν i 30 0 none)).map (ad 7))), (5, .ref (ad 6 i)), (0, .ref (ad 0 0)), (2, .ref (ad 2 0)), (3, .int 6), (4, .int (nI i))]) hx hb (va_rf_or _) dX3_next_36 rfl hl (by decide) rfl (fun ls hl => ?_)
        refine lv_iinc (v := nI (i + 1)) (lv' := [(4, .int (nI (i + 1))), (1, va_rf ((earl τ f (fohL τ ν i 30 0 none)).map (ad 7))), (5, .ref (ad 6 i)), (0, .ref (ad 0 0)), (2, .ref (ad 2 0)), (3, .int 6)]) hx hb dX3_next_37 hl (k := 5) rfl (nI_1 i) (by decide) rfl (fun ls hl => ?_)
        refine lv_goto (tgt := 13) hx hb dX3_next_40 (by decide) ?_
        exact loop_ih (i + 1) (earl τ f (fohL τ ν i 30 0 none)) ls (by omega) (earl_lt hf (fohL_lt 30 0 none (fun _ h => nomatch h))) (by omega) (by rw [hj2]; exact hV) (lv_sub hl [3, 1, 4, 5, 0] rfl)
  exact loop (6 + 1) 0 none ls (Nat.zero_le _) (fun _ h => nomatch h) (by omega) hV (lv_sub hl [4, 3, 2, 1, 0] rfl)

set_option maxHeartbeats 4000000 in
set_option maxRecDepth 100000 in
/-- waiting -/
theorem m_X3_waiting (l : Launch) (D : va_G) (cy : Nat → ClassId) (ad : NT) (τ : IT) (ν : NT) (hI : CI τ ν) : Met l yX3_waiting wsX3_waiting ({ frames := 3, cells := 0, slots := 0, locals := 80 } : Room) (va_Pc [.ref (ad 0 0)] (fun U => gK D cy U ∧ (CW D cy ad τ ν) U.heap)) (rQ (some (.int (waitL τ ν 30 0 (-1))))) 0 0 (fun _ => False) := by
  refine Met.ofW (cc := cX3_waiting) (maxL := 7) (ret := (some .int)) (by decide) rfl ?_
  intro p e s m args below meth c s₁ B9 hml hv
  obtain ⟨rfl, hK, hB⟩ := hv
  have hx := B9.exec
  have hb := B9.bytes
  have hr := B9.returns
  have hts := atoms_spec (ws := wsX3_waiting) B9.pre
  have hown : s.vm.findClass RX3 = some m.cls := findClass_of_methodNamed B9.named
  have hlocks := B9.notSynchronized
  have lk25 := hts (.fieldLink RX3 25 "Politecrawl" "found" "[LPolitecrawl$Page;") (by decide +kernel)
  have inX3 : ∀ w ∈ u_ws RX3 TX3 9, w ∈ wsX3_waiting := by decide +kernel
  have lk111 := hts (.fieldLink RX3 111 "Politecrawl" "tick" "I") (by decide +kernel)
  have hl := lv_entry ([.ref (ad 0 0)]) (n := 7) (Nat.le_of_ble_eq_true rfl)
  rw [lg_entry_eq]
  generalize (lg_sl ([.ref (ad 0 0)]) ++ List.replicate (7 - (lg_sl ([.ref (ad 0 0)])).length) Slot.unset).toArray = ls at hl ⊢
  have hl : lv_has ls 7 [(0, .ref (ad 0 0))] := hl
  obtain ⟨V, hV⟩ : ∃ V, V = waitL τ ν (30 - 0) 0 (-1) := ⟨_, rfl⟩
  have hV0 : waitL τ ν 30 0 (-1) = V := hV.symm
  rw [hV0]
  refine lv_iconst (v := (-1)) hx hb dX3_waiting_0 (by decide) ?_
  refine lv_istore_n (lv' := [(1, .int (-1)), (0, .ref (ad 0 0))]) hx hb dX3_waiting_1 rfl hl (by decide) rfl (fun ls hl => ?_)
  refine lv_aload_n hx hb dX3_waiting_2 rfl (lv_at hl 1 rfl) ?_
  refine g_get (C := RX3) (T := TX3) (N := 9) (ci := 3) (fs := [.ref (ad 1 0), .ref (ad 2 0), .ref (ad 3 0), .int (nI (ν 0 0)), .int (τ 0 0), .int (τ 1 0), .int (τ 2 0), .int (τ 3 0), .int (τ 20 0)]) hx hb hts inX3 hown hK (hB 0 0 Nat.zero_lt_one) rfl 2 (by decide) lk25 rfl rfl dX3_waiting_3 ?_
  refine lv_astore_n (lv' := [(2, .ref (ad 3 0)), (1, .int (-1)), (0, .ref (ad 0 0))]) hx hb dX3_waiting_6 rfl hl (by decide) rfl (fun ls hl => ?_)
  refine lv_aload_n hx hb dX3_waiting_7 rfl (lv_at hl 0 rfl) ?_
  refine g_alen (v := 30) hx hb hK 4 (hB 3 0 Nat.zero_lt_one) rfl rfl dX3_waiting_8 ?_
  refine lv_istore_n (lv' := [(3, .int 30), (2, .ref (ad 3 0)), (1, .int (-1)), (0, .ref (ad 0 0))]) hx hb dX3_waiting_9 rfl hl (by decide) rfl (fun ls hl => ?_)
  refine lv_iconst (v := 0) hx hb dX3_waiting_10 (by decide) ?_
  refine lv_topi (fun y1 ey1 => ?_)
  obtain rfl : y1 = nI 0 := ey1.trans (nI_0.symm)
  refine lv_istore (lv' := [(4, .int (nI 0)), (3, .int 30), (2, .ref (ad 3 0)), (1, .int (-1)), (0, .ref (ad 0 0))]) hx hb dX3_waiting_11 hl (by decide) rfl (fun ls hl => ?_)
  have loop : ∀ (k : Nat) (i : Nat) (g : Int32) (ls : Array Slot), i ≤ 30 → 30 < i + k → V = waitL τ ν (30 - i) i g → lv_has ls 7 [(0, .ref (ad 0 0)), (1, .int g), (2, .ref (ad 3 0)), (3, .int 30), (4, .int (nI i))] → W p l e (headSpec wsX3_waiting ({ frames := 3, cells := 0, slots := 0, locals := 80 } : Room)).room s m ([.ref (ad 0 0)] : List Value).toArray below meth c s.heap [] 0 0 (MQ below (rQ (some (.int V))) ([.ref (ad 0 0)] : List Value).toArray s 0 0 (fun _ => False)) (F0 m 13 ls []) := by
    intro k
    induction k with
    | zero => intro i g ls hi hk hV hl; exfalso; omega
    | succ k loop_ih =>
      intro i g ls hi hk hV hl
      refine lv_iload hx hb dX3_waiting_13 (lv_at hl 4 rfl) ?_
      refine lv_iload_n hx hb dX3_waiting_15 rfl (lv_at hl 3 rfl) ?_
      refine lv_icmp_ge (tgt := 74) hx hb dX3_waiting_16 (by decide) (fun c_16 => ?_) (fun c_16 => ?_)
      · -- 16 t
        have hle : 30 ≤ i := (nI_leI (a := 30) (by decide) (by omega)).mp c_16
        rw [show 30 - i = 0 by omega, waitL] at hV
        refine lv_iload_n hx hb dX3_waiting_74 rfl (lv_at hl 1 rfl) ?_
        exact g_iret hx hb hr hlocks dX3_waiting_75 hV.symm
      · -- 16 f
        have hlt : i < 30 := Nat.not_le.mp fun q => c_16 ((nI_leI (a := 30) (by decide) (by omega)).mpr q)
        obtain ⟨j, hj⟩ : ∃ j, 30 - i = j + 1 := ⟨30 - i - 1, by omega⟩
        have hj2 : 30 - (i + 1) = j := by omega
        rw [hj, waitL] at hV
        refine lv_aload_n hx hb dX3_waiting_19 rfl (lv_at hl 2 rfl) ?_
        refine lv_iload hx hb dX3_waiting_20 (lv_at hl 4 rfl) ?_
        refine g_pald (f := fun j => if j < ν 0 0 then some (ad 7 j) else none) (v := va_rf (if i < ν 0 0 then some (ad 7 i) else none)) hx hb hK (hB 3 0 Nat.zero_lt_one) (vp_in_nI hlt (by decide)) (by rw [cl_nI (by omega)]) dX3_waiting_22 ?_
        by_cases hp9 : i < ν 0 0
        · -- page t
          refine g_top (v' := .ref (ad 7 i)) (by rw [if_pos hp9]; rfl) ?_
          refine lv_astore (lv' := [(5, .ref (ad 7 i)), (0, .ref (ad 0 0)), (1, .int g), (2, .ref (ad 3 0)), (3, .int 30), (4, .int (nI i))]) hx hb dX3_waiting_23 hl (by decide) rfl (fun ls hl => ?_)
          refine lv_aload hx hb dX3_waiting_25 (lv_at hl 0 rfl) ?_
          refine lv_ifnull hx hb dX3_waiting_27 ?_
          refine lv_aload hx hb dX3_waiting_30 (lv_at hl 0 rfl) ?_
          refine g_csr (va_runV (As := []) (rest := []) ⟨hx, hb, hml, hown, hts⟩ (m_X2_isKept l D cy (ad 7 i) (ad 6 (ν 5 i)) (ad 8 i) (nI i) (τ 15 i) (τ 10 i) (τ 11 i) (τ 12 i) (τ 13 i) (τ 14 i) (τ 25 i)) (cwV 0 hts gX3_waiting_X2_isKept rfl rfl rfl (by decide +kernel) ⟨Nat.le_of_ble_eq_true rfl, Nat.le_of_ble_eq_true rfl⟩) (g_preV (C := RX2) (B := (pPage D (ad 7 i) (ad 6 (ν 5 i)) (ad 8 i) (nI i) (τ 15 i) (τ 10 i) (τ 11 i) (τ 12 i) (τ 13 i) (τ 14 i) (τ 25 i))) hK (hB.page hp9) (hB 7 i hp9) rfl) rfl rfl hl.1 rfl (lv_room (Nat.le_of_ble_eq_true rfl)) dX3_waiting_32 ⟨Nat.zero_le _, Nat.zero_le _⟩) ?_
          refine lv_if_eq (tgt := 68) hx hb dX3_waiting_35 (by decide) (fun c_35 => ?_) (fun c_35 => ?_)
          · -- 35 t
            rw [if_neg (fun q => by rw [(zb_0.mp c_35 : keptC τ i = false)] at q; cases q.2)] at hV
            refine lv_iinc (v := nI (i + 1)) (lv' := [(4, .int (nI (i + 1))), (5, .ref (ad 7 i)), (0, .ref (ad 0 0)), (1, .int g), (2, .ref (ad 3 0)), (3, .int 30)]) hx hb dX3_waiting_68 hl (k := 5) rfl (nI_1 i) (by decide) rfl (fun ls hl => ?_)
            refine lv_goto (tgt := 13) hx hb dX3_waiting_71 (by decide) ?_
            exact loop_ih (i + 1) g ls (by omega) (by omega) (by rw [hj2]; exact hV) (lv_sub hl [2, 3, 4, 5, 0] rfl)
          · -- 35 f
            refine lv_aload_n hx hb dX3_waiting_38 rfl (lv_at hl 1 rfl) ?_
            refine lv_aload hx hb dX3_waiting_39 (lv_at hl 0 rfl) ?_
            refine g_csr (va_runV (As := [.ref (ad 7 i)]) (rest := []) ⟨hx, hb, hml, hown, hts⟩ (m_X3_readyFrom l D cy ad τ ν hI i hp9) (cwV 1 hts gX3_waiting_X3_readyFrom rfl rfl rfl (by decide +kernel) ⟨Nat.le_of_ble_eq_true rfl, Nat.le_of_ble_eq_true rfl⟩) (g_preV (C := RX3) (B := (CW D cy ad τ ν)) hK hB (hB 0 0 Nat.zero_lt_one) rfl) rfl rfl hl.1 rfl (lv_room (Nat.le_of_ble_eq_true rfl)) dX3_waiting_41 ⟨Nat.zero_le _, Nat.zero_le _⟩) ?_
            refine lv_aload_n hx hb dX3_waiting_44 rfl (lv_at hl 1 rfl) ?_
            refine g_get (C := RX3) (T := TX3) (N := 9) (ci := 3) (fs := [.ref (ad 1 0), .ref (ad 2 0), .ref (ad 3 0), .int (nI (ν 0 0)), .int (τ 0 0), .int (τ 1 0), .int (τ 2 0), .int (τ 3 0), .int (τ 20 0)]) hx hb hts inX3 hown hK (hB 0 0 Nat.zero_lt_one) rfl 4 (by decide) lk111 rfl rfl dX3_waiting_45 ?_
            refine lv_isub hx hb dX3_waiting_48 ?_
            refine lv_istore (lv' := [(6, .int ((readyC τ ν i) - (τ 0 0))), (5, .ref (ad 7 i)), (0, .ref (ad 0 0)), (1, .int g), (2, .ref (ad 3 0)), (3, .int 30), (4, .int (nI i))]) hx hb dX3_waiting_49 hl (by decide) rfl (fun ls hl => ?_)
            refine lv_iload_n hx hb dX3_waiting_51 rfl (lv_at hl 3 rfl) ?_
            refine lv_iconst (v := (-1)) hx hb dX3_waiting_52 (by decide) ?_
            refine lv_icmp_ne (tgt := 61) hx hb dX3_waiting_53 (by decide) (fun c_53 => ?_) (fun c_53 => ?_)
            · -- 53 t
              refine lv_iload_n hx hb dX3_waiting_61 rfl (lv_at hl 3 rfl) ?_
              refine lv_iload hx hb dX3_waiting_62 (lv_at hl 0 rfl) ?_
              refine va_mmin hx hb (by rw [hml]; exact hl.1.symm) hown (hts (.methodLink RX3 187 Lib.Math.min.name) (by decide +kernel)) (hts (.static Lib.Math.min.name) (by decide +kernel)) (hts (.initialized "java/lang/Math") (by decide +kernel)) (hts (.code Lib.Math.min.name Lib.Math.min.code 2 (some .int)) (by decide +kernel)) (Nat.le_of_ble_eq_true rfl) (Nat.le_of_ble_eq_true rfl) (Nat.zero_le _) (Nat.zero_le _) dX3_waiting_64 ?_
              refine lv_istore_n (lv' := [(1, .int (if ((readyC τ ν i) - (τ 0 0)) < g then ((readyC τ ν i) - (τ 0 0)) else g)), (6, .int ((readyC τ ν i) - (τ 0 0))), (5, .ref (ad 7 i)), (0, .ref (ad 0 0)), (2, .ref (ad 3 0)), (3, .int 30), (4, .int (nI i))]) hx hb dX3_waiting_67 rfl hl (by decide) rfl (fun ls hl => ?_)
              rw [if_pos ⟨hp9, zb_n0.mp c_35⟩] at hV
              rw [if_neg c_53] at hV
              refine lv_iinc (v := nI (i + 1)) (lv' := [(4, .int (nI (i + 1))), (1, .int (if ((readyC τ ν i) - (τ 0 0)) < g then ((readyC τ ν i) - (τ 0 0)) else g)), (6, .int ((readyC τ ν i) - (τ 0 0))), (5, .ref (ad 7 i)), (0, .ref (ad 0 0)), (2, .ref (ad 3 0)), (3, .int 30)]) hx hb dX3_waiting_68 hl (k := 6) rfl (nI_1 i) (by decide) rfl (fun ls hl => ?_)
              refine lv_goto (tgt := 13) hx hb dX3_waiting_71 (by decide) ?_
              exact loop_ih (i + 1) (mn g (readyC τ ν i - τ 0 0)) ls (by omega) (by omega) (by rw [hj2]; exact hV) (lv_sub hl [4, 1, 5, 6, 0] rfl)
            · -- 53 f
              refine lv_iload hx hb dX3_waiting_56 (lv_at hl 0 rfl) ?_
              refine lv_goto (tgt := 67) hx hb dX3_waiting_58 (by decide) ?_
              refine lv_istore_n (lv' := [(1, .int ((readyC τ ν i) - (τ 0 0))), (6, .int ((readyC τ ν i) - (τ 0 0))), (5, .ref (ad 7 i)), (0, .ref (ad 0 0)), (2, .ref (ad 3 0)), (3, .int 30), (4, .int (nI i))]) hx hb dX3_waiting_67 rfl hl (by decide) rfl (fun ls hl => ?_)
              rw [if_pos ⟨hp9, zb_n0.mp c_35⟩] at hV
              rw [if_pos c_53] at hV
              refine lv_iinc (v := nI (i + 1)) (lv' := [(4, .int (nI (i + 1))), (1, .int ((readyC τ ν i) - (τ 0 0))), (6, .int ((readyC τ ν i) - (τ 0 0))), (5, .ref (ad 7 i)), (0, .ref (ad 0 0)), (2, .ref (ad 3 0)), (3, .int 30)]) hx hb dX3_waiting_68 hl (k := 6) rfl (nI_1 i) (by decide) rfl (fun ls hl => ?_)
              refine lv_goto (tgt := 13) hx hb dX3_waiting_71 (by decide) ?_
              exact loop_ih (i + 1) (readyC τ ν i - τ 0 0) ls (by omega) (by omega) (by rw [hj2]; exact hV) (lv_sub hl [4, 1, 5, 6, 0] rfl)
        · -- page f
          refine g_top (v' := .null) (by rw [if_neg hp9]; rfl) ?_
          refine lv_astoreN (lv' := [(5, .null), (0, .ref (ad 0 0)), (1, .int g), (2, .ref (ad 3 0)), (3, .int 30), (4, .int (nI i))]) hx hb dX3_waiting_23 hl (by decide) rfl (fun ls hl => ?_)
          refine lv_aloadN hx hb dX3_waiting_25 (lv_at hl 0 rfl) ?_
          refine lv_ifnullN (tgt := 68) hx hb dX3_waiting_27 (by decide) ?_
          rw [if_neg (fun q => hp9 q.1)] at hV
          refine lv_iinc (v := nI (i + 1)) (lv' := [(4, .int (nI (i + 1))), (5, .null), (0, .ref (ad 0 0)), (1, .int g), (2, .ref (ad 3 0)), (3, .int 30)]) hx hb dX3_waiting_68 hl (k := 5) rfl (nI_1 i) (by decide) rfl (fun ls hl => ?_)
          refine lv_goto (tgt := 13) hx hb dX3_waiting_71 (by decide) ?_
          exact loop_ih (i + 1) g ls (by omega) (by omega) (by rw [hj2]; exact hV) (lv_sub hl [2, 3, 4, 5, 0] rfl)
  exact loop (30 + 1) 0 (-1) ls (Nat.zero_le _) (by omega) hV (lv_sub hl [4, 3, 2, 1, 0] rfl)

set_option maxHeartbeats 4000000 in
set_option maxRecDepth 100000 in
/-- pageAtBuffer -/
theorem m_X3_pageAtBuffer (l : Launch) (D : va_G) (cy : Nat → ClassId) (ad : NT) (τ : IT) (ν : NT) (hI : CI τ ν) (hJ : wJ (cC (ν 0 0)) ad) (h : Nat) (hh : h < 6) : Met l yX3_pageAtBuffer wsX3_pageAtBuffer ({ frames := 2, cells := 0, slots := 0, locals := 60 } : Room) (va_Pc [.ref (ad 0 0), .ref (ad 6 h)] (fun U => gK D cy U ∧ (CW D cy ad τ ν) U.heap)) (rQ (some (va_rf ((pabL τ ν h 30 0).map (ad 7))))) 0 0 (fun _ => False) := by
  refine Met.ofW (cc := cX3_pageAtBuffer) (maxL := 6) (ret := (some (.object "Politecrawl$Page"))) (by decide) rfl ?_
  intro p e s m args below meth c s₁ B9 hml hv
  obtain ⟨rfl, hK, hB⟩ := hv
  have hx := B9.exec
  have hb := B9.bytes
  have hr := B9.returns
  have hts := atoms_spec (ws := wsX3_pageAtBuffer) B9.pre
  have hown : s.vm.findClass RX3 = some m.cls := findClass_of_methodNamed B9.named
  have hlocks := B9.notSynchronized
  have lk25 := hts (.fieldLink RX3 25 "Politecrawl" "found" "[LPolitecrawl$Page;") (by decide +kernel)
  have inX3 : ∀ w ∈ u_ws RX3 TX3 9, w ∈ wsX3_pageAtBuffer := by decide +kernel
  have lk162 := hts (.fieldLink RX3 162 "Politecrawl$Page" "host" "LPolitecrawl$Host;") (by decide +kernel)
  have inX2 : ∀ w ∈ u_ws RX2 TX2 10, w ∈ wsX3_pageAtBuffer := by decide +kernel
  have lk210 := hts (.fieldLink RX3 210 "Politecrawl$Page" "address" "LPolitecrawl$Address;") (by decide +kernel)
  have lk10 := hts (.fieldLink RX3 10 "Politecrawl" "buffer" "LPolitecrawl$Address;") (by decide +kernel)
  have hl := lv_entry ([.ref (ad 0 0), .ref (ad 6 h)]) (n := 6) (Nat.le_of_ble_eq_true rfl)
  rw [lg_entry_eq]
  generalize (lg_sl ([.ref (ad 0 0), .ref (ad 6 h)]) ++ List.replicate (6 - (lg_sl ([.ref (ad 0 0), .ref (ad 6 h)])).length) Slot.unset).toArray = ls at hl ⊢
  have hl : lv_has ls 6 [(0, .ref (ad 0 0)), (1, .ref (ad 6 h))] := hl
  obtain ⟨V, hV⟩ : ∃ V, V = va_rf ((pabL τ ν h (30 - 0) 0).map (ad 7)) := ⟨_, rfl⟩
  have hV0 : va_rf ((pabL τ ν h 30 0).map (ad 7)) = V := hV.symm
  rw [hV0]
  refine lv_aload_n hx hb dX3_pageAtBuffer_0 rfl (lv_at hl 0 rfl) ?_
  refine g_get (C := RX3) (T := TX3) (N := 9) (ci := 3) (fs := [.ref (ad 1 0), .ref (ad 2 0), .ref (ad 3 0), .int (nI (ν 0 0)), .int (τ 0 0), .int (τ 1 0), .int (τ 2 0), .int (τ 3 0), .int (τ 20 0)]) hx hb hts inX3 hown hK (hB 0 0 Nat.zero_lt_one) rfl 2 (by decide) lk25 rfl rfl dX3_pageAtBuffer_1 ?_
  refine lv_astore_n (lv' := [(2, .ref (ad 3 0)), (0, .ref (ad 0 0)), (1, .ref (ad 6 h))]) hx hb dX3_pageAtBuffer_4 rfl hl (by decide) rfl (fun ls hl => ?_)
  refine lv_aload_n hx hb dX3_pageAtBuffer_5 rfl (lv_at hl 0 rfl) ?_
  refine g_alen (v := 30) hx hb hK 4 (hB 3 0 Nat.zero_lt_one) rfl rfl dX3_pageAtBuffer_6 ?_
  refine lv_istore_n (lv' := [(3, .int 30), (2, .ref (ad 3 0)), (0, .ref (ad 0 0)), (1, .ref (ad 6 h))]) hx hb dX3_pageAtBuffer_7 rfl hl (by decide) rfl (fun ls hl => ?_)
  refine lv_iconst (v := 0) hx hb dX3_pageAtBuffer_8 (by decide) ?_
  refine lv_topi (fun y1 ey1 => ?_)
  obtain rfl : y1 = nI 0 := ey1.trans (nI_0.symm)
  refine lv_istore (lv' := [(4, .int (nI 0)), (3, .int 30), (2, .ref (ad 3 0)), (0, .ref (ad 0 0)), (1, .ref (ad 6 h))]) hx hb dX3_pageAtBuffer_9 hl (by decide) rfl (fun ls hl => ?_)
  have loop : ∀ (k : Nat) (i : Nat) (ls : Array Slot), i ≤ 30 → 30 < i + k → V = va_rf ((pabL τ ν h (30 - i) i).map (ad 7)) → lv_has ls 6 [(0, .ref (ad 0 0)), (1, .ref (ad 6 h)), (2, .ref (ad 3 0)), (3, .int 30), (4, .int (nI i))] → W p l e (headSpec wsX3_pageAtBuffer ({ frames := 2, cells := 0, slots := 0, locals := 60 } : Room)).room s m ([.ref (ad 0 0), .ref (ad 6 h)] : List Value).toArray below meth c s.heap [] 0 0 (MQ below (rQ (some (V))) ([.ref (ad 0 0), .ref (ad 6 h)] : List Value).toArray s 0 0 (fun _ => False)) (F0 m 11 ls []) := by
    intro k
    induction k with
    | zero => intro i ls hi hk hV hl; exfalso; omega
    | succ k loop_ih =>
      intro i ls hi hk hV hl
      refine lv_iload hx hb dX3_pageAtBuffer_11 (lv_at hl 4 rfl) ?_
      refine lv_iload_n hx hb dX3_pageAtBuffer_13 rfl (lv_at hl 3 rfl) ?_
      refine lv_icmp_ge (tgt := 61) hx hb dX3_pageAtBuffer_14 (by decide) (fun c_14 => ?_) (fun c_14 => ?_)
      · -- 14 t
        have hle : 30 ≤ i := (nI_leI (a := 30) (by decide) (by omega)).mp c_14
        rw [show 30 - i = 0 by omega, pabL] at hV
        refine lv_null hx hb dX3_pageAtBuffer_61 ?_
        exact g_aret hx hb hr hlocks (Or.inl rfl) dX3_pageAtBuffer_62 hV.symm
      · -- 14 f
        have hlt : i < 30 := Nat.not_le.mp fun q => c_14 ((nI_leI (a := 30) (by decide) (by omega)).mpr q)
        obtain ⟨j, hj⟩ : ∃ j, 30 - i = j + 1 := ⟨30 - i - 1, by omega⟩
        have hj2 : 30 - (i + 1) = j := by omega
        rw [hj, pabL] at hV
        refine lv_aload_n hx hb dX3_pageAtBuffer_17 rfl (lv_at hl 2 rfl) ?_
        refine lv_iload hx hb dX3_pageAtBuffer_18 (lv_at hl 4 rfl) ?_
        refine g_pald (f := fun j => if j < ν 0 0 then some (ad 7 j) else none) (v := va_rf (if i < ν 0 0 then some (ad 7 i) else none)) hx hb hK (hB 3 0 Nat.zero_lt_one) (vp_in_nI hlt (by decide)) (by rw [cl_nI (by omega)]) dX3_pageAtBuffer_20 ?_
        by_cases hp9 : i < ν 0 0
        · -- page t
          refine g_top (v' := .ref (ad 7 i)) (by rw [if_pos hp9]; rfl) ?_
          refine lv_astore (lv' := [(5, .ref (ad 7 i)), (0, .ref (ad 0 0)), (1, .ref (ad 6 h)), (2, .ref (ad 3 0)), (3, .int 30), (4, .int (nI i))]) hx hb dX3_pageAtBuffer_21 hl (by decide) rfl (fun ls hl => ?_)
          refine lv_aload hx hb dX3_pageAtBuffer_23 (lv_at hl 0 rfl) ?_
          refine lv_ifnull hx hb dX3_pageAtBuffer_25 ?_
          refine lv_aload hx hb dX3_pageAtBuffer_28 (lv_at hl 0 rfl) ?_
          refine g_get (C := RX2) (T := TX2) (N := 10) (ci := 2) (fs := [.int (nI i), .ref (ad 6 (ν 5 i)), .ref (ad 8 i), .int (τ 15 i), .int (τ 10 i), .int (τ 11 i), .int (τ 12 i), .int (τ 13 i), .int (τ 14 i), .int (τ 25 i)]) hx hb hts inX2 hown hK (hB 7 i hp9) rfl 1 (by decide) lk162 rfl rfl dX3_pageAtBuffer_30 ?_
          refine lv_aload_n hx hb dX3_pageAtBuffer_33 rfl (lv_at hl 2 rfl) ?_
          refine lv_acmp_ne (rx := (some (ad 6 (ν 5 i)))) (ry := (some (ad 6 h))) (tgt := 55) hx hb dX3_pageAtBuffer_34 (by decide) (fun c_34 => ?_) (fun c_34 => ?_)
          · -- 34 t
            rw [if_neg (fun q => c_34 (by rw [q.2.1]))] at hV
            refine lv_iinc (v := nI (i + 1)) (lv' := [(4, .int (nI (i + 1))), (5, .ref (ad 7 i)), (0, .ref (ad 0 0)), (1, .ref (ad 6 h)), (2, .ref (ad 3 0)), (3, .int 30)]) hx hb dX3_pageAtBuffer_55 hl (k := 5) rfl (nI_1 i) (by decide) rfl (fun ls hl => ?_)
            refine lv_goto (tgt := 11) hx hb dX3_pageAtBuffer_58 (by decide) ?_
            exact loop_ih (i + 1) ls (by omega) (by omega) (by rw [hj2]; exact hV) (lv_sub hl [2, 3, 4, 5, 0] rfl)
          · -- 34 f
            refine lv_aload hx hb dX3_pageAtBuffer_37 (lv_at hl 0 rfl) ?_
            refine g_get (C := RX2) (T := TX2) (N := 10) (ci := 2) (fs := [.int (nI i), .ref (ad 6 (ν 5 i)), .ref (ad 8 i), .int (τ 15 i), .int (τ 10 i), .int (τ 11 i), .int (τ 12 i), .int (τ 13 i), .int (τ 14 i), .int (τ 25 i)]) hx hb hts inX2 hown hK (hB 7 i hp9) rfl 2 (by decide) lk210 rfl rfl dX3_pageAtBuffer_39 ?_
            refine lv_aload_n hx hb dX3_pageAtBuffer_42 rfl (lv_at hl 1 rfl) ?_
            refine g_get (C := RX3) (T := TX3) (N := 9) (ci := 3) (fs := [.ref (ad 1 0), .ref (ad 2 0), .ref (ad 3 0), .int (nI (ν 0 0)), .int (τ 0 0), .int (τ 1 0), .int (τ 2 0), .int (τ 3 0), .int (τ 20 0)]) hx hb hts inX3 hown hK (hB 0 0 Nat.zero_lt_one) rfl 0 (by decide) lk10 rfl rfl dX3_pageAtBuffer_43 ?_
            refine g_csr (va_runV (As := [.ref (ad 1 0)]) (rest := []) ⟨hx, hb, hml, hown, hts⟩ (m_X0_isSameAs l D cy (ad 8 i) (ad 9 i) (ad 10 i) (fun j => τ 18 (30 * i + j)) (fun j => τ 24 (30 * i + j)) (ν 3 i) (ν 4 i) (ad 1 0) (ad 4 0) (ad 5 0) (τ 6) (τ 22) (ν 1 0) (ν 2 0) (hI.2.2.2.2.2 i hp9).2.1 hI.2.1 (hI.2.2.2.2.2 i hp9).2.2.2.1 hI.2.2.2.1) (cwV 1 hts gX3_pageAtBuffer_X0_isSameAs rfl rfl rfl (by decide +kernel) ⟨Nat.le_of_ble_eq_true rfl, Nat.le_of_ble_eq_true rfl⟩) (g_preV (C := RX0) (B := (pAA D cy (ad 8 i) (ad 9 i) (ad 10 i) (fun j => τ 18 (30 * i + j)) (fun j => τ 24 (30 * i + j)) (ν 3 i) (ν 4 i) (ad 1 0) (ad 4 0) (ad 5 0) (τ 6) (τ 22) (ν 1 0) (ν 2 0))) hK ⟨hB.addr hp9, hB.buf⟩ (hB 8 i hp9) rfl) rfl rfl hl.1 rfl (lv_room (Nat.le_of_ble_eq_true rfl)) dX3_pageAtBuffer_46 ⟨Nat.zero_le _, Nat.zero_le _⟩) ?_
            refine lv_if_eq (tgt := 55) hx hb dX3_pageAtBuffer_49 (by decide) (fun c_49 => ?_) (fun c_49 => ?_)
            · -- 49 t
              rw [if_neg (fun q => by rw [(zb_0.mp c_49 : sameC τ ν i = false)] at q; cases q.2.2)] at hV
              refine lv_iinc (v := nI (i + 1)) (lv' := [(4, .int (nI (i + 1))), (5, .ref (ad 7 i)), (0, .ref (ad 0 0)), (1, .ref (ad 6 h)), (2, .ref (ad 3 0)), (3, .int 30)]) hx hb dX3_pageAtBuffer_55 hl (k := 5) rfl (nI_1 i) (by decide) rfl (fun ls hl => ?_)
              refine lv_goto (tgt := 11) hx hb dX3_pageAtBuffer_58 (by decide) ?_
              exact loop_ih (i + 1) ls (by omega) (by omega) (by rw [hj2]; exact hV) (lv_sub hl [2, 3, 4, 5, 0] rfl)
            · -- 49 f
              have h34 : ν 5 i = h := (hJ 6 _ 6 h (hI.2.2.2.2.2 i hp9).1 hh (Option.some.inj c_34)).2
              rw [if_pos ⟨hp9, h34, zb_n0.mp c_49⟩] at hV
              refine lv_aload hx hb dX3_pageAtBuffer_52 (lv_at hl 0 rfl) ?_
              exact g_aret hx hb hr hlocks (Or.inr ⟨_, rfl⟩) dX3_pageAtBuffer_54 hV.symm
        · -- page f
          refine g_top (v' := .null) (by rw [if_neg hp9]; rfl) ?_
          refine lv_astoreN (lv' := [(5, .null), (0, .ref (ad 0 0)), (1, .ref (ad 6 h)), (2, .ref (ad 3 0)), (3, .int 30), (4, .int (nI i))]) hx hb dX3_pageAtBuffer_21 hl (by decide) rfl (fun ls hl => ?_)
          refine lv_aloadN hx hb dX3_pageAtBuffer_23 (lv_at hl 0 rfl) ?_
          refine lv_ifnullN (tgt := 55) hx hb dX3_pageAtBuffer_25 (by decide) ?_
          rw [if_neg (fun q => hp9 q.1)] at hV
          refine lv_iinc (v := nI (i + 1)) (lv' := [(4, .int (nI (i + 1))), (5, .null), (0, .ref (ad 0 0)), (1, .ref (ad 6 h)), (2, .ref (ad 3 0)), (3, .int 30)]) hx hb dX3_pageAtBuffer_55 hl (k := 5) rfl (nI_1 i) (by decide) rfl (fun ls hl => ?_)
          refine lv_goto (tgt := 11) hx hb dX3_pageAtBuffer_58 (by decide) ?_
          exact loop_ih (i + 1) ls (by omega) (by omega) (by rw [hj2]; exact hV) (lv_sub hl [2, 3, 4, 5, 0] rfl)
  exact loop (30 + 1) 0 ls (Nat.zero_le _) (by omega) hV (lv_sub hl [3, 4, 2, 1, 0] rfl)

set_option maxHeartbeats 4000000 in
set_option maxRecDepth 100000 in
/-- paceOf -/
theorem m_X3_paceOf (l : Launch) (D : va_G) (cy : Nat → ClassId) (ad : NT) (τ : IT) (ν : NT) (q : Nat) (hq : q < ν 0 0) : Met l yX3_paceOf wsX3_paceOf ({ frames := 1, cells := 0, slots := 0, locals := 30 } : Room) (va_Pc [.ref (ad 0 0), .ref (ad 7 q)] (fun U => gK D cy U ∧ (CW D cy ad τ ν) U.heap)) (rQ (some (.int (paceC τ q)))) 0 0 (fun _ => False) := by
  refine Met.ofW (cc := cX3_paceOf) (maxL := 2) (ret := (some .int)) (by decide) rfl ?_
  intro p e s m args below meth c s₁ B9 hml hv
  obtain ⟨rfl, hK, hB⟩ := hv
  have hx := B9.exec
  have hb := B9.bytes
  have hr := B9.returns
  have hts := atoms_spec (ws := wsX3_paceOf) B9.pre
  have hown : s.vm.findClass RX3 = some m.cls := findClass_of_methodNamed B9.named
  have hlocks := B9.notSynchronized
  have lk33 := hts (.fieldLink RX3 33 "Politecrawl" "longestPace" "I") (by decide +kernel)
  have inX3 : ∀ w ∈ u_ws RX3 TX3 9, w ∈ wsX3_paceOf := by decide +kernel
  have lk29 := hts (.fieldLink RX3 29 "Politecrawl" "shortestPace" "I") (by decide +kernel)
  have lk130 := hts (.fieldLink RX3 130 "Politecrawl$Page" "visits" "I") (by decide +kernel)
  have inX2 : ∀ w ∈ u_ws RX2 TX2 10, w ∈ wsX3_paceOf := by decide +kernel
  have lk133 := hts (.fieldLink RX3 133 "Politecrawl$Page" "changes" "I") (by decide +kernel)
  have hl := lv_entry ([.ref (ad 0 0), .ref (ad 7 q)]) (n := 2) (Nat.le_of_ble_eq_true rfl)
  rw [lg_entry_eq]
  generalize (lg_sl ([.ref (ad 0 0), .ref (ad 7 q)]) ++ List.replicate (2 - (lg_sl ([.ref (ad 0 0), .ref (ad 7 q)])).length) Slot.unset).toArray = ls at hl ⊢
  have hl : lv_has ls 2 [(0, .ref (ad 0 0)), (1, .ref (ad 7 q))] := hl
  refine lv_aload_n hx hb dX3_paceOf_0 rfl (lv_at hl 0 rfl) ?_
  refine g_get (C := RX3) (T := TX3) (N := 9) (ci := 3) (fs := [.ref (ad 1 0), .ref (ad 2 0), .ref (ad 3 0), .int (nI (ν 0 0)), .int (τ 0 0), .int (τ 1 0), .int (τ 2 0), .int (τ 3 0), .int (τ 20 0)]) hx hb hts inX3 hown hK (hB 0 0 Nat.zero_lt_one) rfl 6 (by decide) lk33 rfl rfl dX3_paceOf_1 ?_
  refine lv_aload_n hx hb dX3_paceOf_4 rfl (lv_at hl 0 rfl) ?_
  refine g_get (C := RX3) (T := TX3) (N := 9) (ci := 3) (fs := [.ref (ad 1 0), .ref (ad 2 0), .ref (ad 3 0), .int (nI (ν 0 0)), .int (τ 0 0), .int (τ 1 0), .int (τ 2 0), .int (τ 3 0), .int (τ 20 0)]) hx hb hts inX3 hown hK (hB 0 0 Nat.zero_lt_one) rfl 5 (by decide) lk29 rfl rfl dX3_paceOf_5 ?_
  refine lv_aload_n hx hb dX3_paceOf_8 rfl (lv_at hl 1 rfl) ?_
  refine g_get (C := RX2) (T := TX2) (N := 10) (ci := 2) (fs := [.int (nI q), .ref (ad 6 (ν 5 q)), .ref (ad 8 q), .int (τ 15 q), .int (τ 10 q), .int (τ 11 q), .int (τ 12 q), .int (τ 13 q), .int (τ 14 q), .int (τ 25 q)]) hx hb hts inX2 hown hK (hB 7 q hq) rfl 6 (by decide) lk130 rfl rfl dX3_paceOf_9 ?_
  refine lv_iconst (v := 2) hx hb dX3_paceOf_12 (by decide) ?_
  refine lv_iadd hx hb dX3_paceOf_13 ?_
  refine lv_imul hx hb dX3_paceOf_14 ?_
  refine lv_aload_n hx hb dX3_paceOf_15 rfl (lv_at hl 1 rfl) ?_
  refine g_get (C := RX2) (T := TX2) (N := 10) (ci := 2) (fs := [.int (nI q), .ref (ad 6 (ν 5 q)), .ref (ad 8 q), .int (τ 15 q), .int (τ 10 q), .int (τ 11 q), .int (τ 12 q), .int (τ 13 q), .int (τ 14 q), .int (τ 25 q)]) hx hb hts inX2 hown hK (hB 7 q hq) rfl 7 (by decide) lk133 rfl rfl dX3_paceOf_16 ?_
  refine lv_iconst (v := 1) hx hb dX3_paceOf_19 (by decide) ?_
  refine lv_iadd hx hb dX3_paceOf_20 ?_
  refine g_csr (va_runS (As := [.int ((τ 1 0) * ((τ 12 q) + 2)), .int ((τ 13 q) + 1)]) (rest := [.int (τ 2 0)]) ⟨hx, hb, hml, hown, hts⟩ (m_X3_dividedUp l D cy ((τ 1 0) * ((τ 12 q) + 2)) ((τ 13 q) + 1)) (va_cwS 2 hts gX3_paceOf_X3_dividedUp rfl rfl rfl (by decide +kernel) ⟨Nat.le_of_ble_eq_true rfl, Nat.le_of_ble_eq_true rfl⟩) (g_preS (B := (fun _ => True)) hK trivial) rfl rfl hl.1 rfl (lv_room (Nat.le_of_ble_eq_true rfl)) dX3_paceOf_21 ⟨Nat.zero_le _, Nat.zero_le _⟩) ?_
  refine va_mmin hx hb (by rw [hml]; exact hl.1.symm) hown (hts (.methodLink RX3 187 Lib.Math.min.name) (by decide +kernel)) (hts (.static Lib.Math.min.name) (by decide +kernel)) (hts (.initialized "java/lang/Math") (by decide +kernel)) (hts (.code Lib.Math.min.name Lib.Math.min.code 2 (some .int)) (by decide +kernel)) (Nat.le_of_ble_eq_true rfl) (Nat.le_of_ble_eq_true rfl) (Nat.zero_le _) (Nat.zero_le _) dX3_paceOf_24 ?_
  exact g_iret hx hb hr hlocks dX3_paceOf_27 rfl
