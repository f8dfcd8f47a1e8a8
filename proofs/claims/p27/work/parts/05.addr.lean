/-! Politecrawl$Address: what it reads -/
/-- an address object a, its rows of characters and of starts -/
def pA (D : va_G) (cy : Nat → ClassId) (a c t : Nat) (ch st : Nat → Int32) (len seg : Nat) : Heap → Prop := fun H => oA D a (.inr (0, [.ref c, .ref t, .int (nI len), .int (nI seg)])) H ∧ oA D c (.inl (cy 0, 30, .inl ch)) H ∧ oA D t (.inl (cy 1, 30, .inl st)) H
/-- characters are characters -/
def chOK (ch : Nat → Int32) : Prop := ∀ j, j < 30 → narrow .char (.int (ch j)) = .int (ch j)
def atN (ch : Nat → Int32) (len j : Nat) : Int32 := if j < len then ch j else 47
def atI (ch : Nat → Int32) (len : Nat) (i : Int32) : Int32 := if i < 0 then 47 else atN ch len i.toNatClampNeg
theorem atI_nI {ch : Nat → Int32} {len j : Nat} (h : j < 2 ^ 31) : atI ch len (nI j) = atN ch len j := by rw [atI, if_neg (nI_lt0 h), cl_nI h]
def stI (st : Nat → Int32) (len : Nat) (i : Int32) : Int32 := if i < 0 ∨ (30 : Int32) ≤ i then nI len else st i.toNatClampNeg
theorem stI_nI {st : Nat → Int32} {len j : Nat} (h : j < 30) : stI st len (nI j) = st j := by
  rw [stI, if_neg, cl_nI (by omega)]
  rintro (h1 | h1)
  · exact nI_lt0 (by omega) h1
  · exact nI_ge (a := j) (b := 30) h (by decide) h1
/-- two segments from a and from b: equal up to the first slash -/
def hss (ch : Nat → Int32) (len a b : Nat) : Nat → Nat → Bool
  | 0, _ => true
  | k + 1, i => if atN ch len (a + i) = atN ch len (b + i) then (if atN ch len (a + i) = 47 then true else hss ch len a b k (i + 1)) else false
/-- twice 'size' equal ones in a row -/
def c3 (P : Nat → Bool) (size seg : Nat) : Nat → Nat → Nat → Bool
  | 0, _, _ => false
  | k + 1, i, q => if i + size < seg then (if (if P i then q + 1 else 0) = 2 * size then true else c3 P size seg k (i + 1) (if P i then q + 1 else 0)) else false
def hssP (ch st : Nat → Int32) (len size : Nat) (i : Nat) : Bool := hss ch len (st i).toNatClampNeg (st (i + size)).toNatClampNeg len 0
def c3A (ch st : Nat → Int32) (len seg size : Nat) : Bool := c3 (hssP ch st len size) size seg (seg + 1) 0 0
def repA (ch st : Nat → Int32) (len seg : Nat) : Bool := c3A ch st len seg 1 || c3A ch st len seg 2 || c3A ch st len seg 3
/-- starts lie in the text -/
def stOK (st : Nat → Int32) (seg len : Nat) : Prop := ∀ j, j < seg → ∃ q, st j = nI q ∧ q < len

set_option maxHeartbeats 4000000 in
set_option maxRecDepth 100000 in
/-- isFull() -/
theorem m_X0_isFull (l : Launch) (D : va_G) (cy : Nat → ClassId) (a c9 t : Nat) (ch st : Nat → Int32) (len seg : Nat) : Met l yX0_isFull wsX0_isFull ({ frames := 0, cells := 0, slots := 0, locals := 0 } : Room) (va_Pc [.ref a] (fun U => gK D cy U ∧ (pA D cy a c9 t ch st len seg) U.heap)) (rQ (some (.int (if nI len < 30 then 0 else 1)))) 0 0 (fun _ => False) := by
  refine Met.ofW (cc := cX0_isFull) (maxL := 1) (ret := (some .boolean)) (by decide) rfl ?_
  intro p e s m args below meth c s₁ B9 hml hv
  obtain ⟨rfl, hK, hB⟩ := hv
  have hx := B9.exec
  have hb := B9.bytes
  have hr := B9.returns
  have hts := atoms_spec (ws := wsX0_isFull) B9.pre
  have hown : s.vm.findClass RX0 = some m.cls := findClass_of_methodNamed B9.named
  have hlocks := B9.notSynchronized
  have lk26 := hts (.fieldLink RX0 26 "Politecrawl$Address" "length" "I") (by decide +kernel)
  have inX0 : ∀ w ∈ u_ws RX0 TX0 4, w ∈ wsX0_isFull := by decide +kernel
  have lk9 := hts (.fieldLink RX0 9 "Politecrawl$Address" "characters" "[C") (by decide +kernel)
  have hl := lv_entry ([.ref a]) (n := 1) (Nat.le_of_ble_eq_true rfl)
  rw [lg_entry_eq]
  generalize (lg_sl ([.ref a]) ++ List.replicate (1 - (lg_sl ([.ref a])).length) Slot.unset).toArray = ls at hl ⊢
  have hl : lv_has ls 1 [(0, .ref a)] := hl
  refine lv_aload_n hx hb dX0_isFull_0 rfl (lv_at hl 0 rfl) ?_
  refine g_get (C := RX0) (T := TX0) (N := 4) (ci := 0) (fs := [.ref c9, .ref t, .int (nI len), .int (nI seg)]) hx hb hts inX0 hown hK hB.1 rfl 2 (by decide) lk26 rfl rfl dX0_isFull_1 ?_
  refine lv_aload_n hx hb dX0_isFull_4 rfl (lv_at hl 0 rfl) ?_
  refine g_get (C := RX0) (T := TX0) (N := 4) (ci := 0) (fs := [.ref c9, .ref t, .int (nI len), .int (nI seg)]) hx hb hts inX0 hown hK hB.1 rfl 0 (by decide) lk9 rfl rfl dX0_isFull_5 ?_
  refine g_alen (v := 30) hx hb hK 0 hB.2.1 rfl rfl dX0_isFull_8 ?_
  refine lv_icmp_lt (tgt := 16) hx hb dX0_isFull_9 (by decide) (fun c_9 => ?_) (fun c_9 => ?_)
  · -- 9 t
    refine lv_iconst (v := 0) hx hb dX0_isFull_16 (by decide) ?_
    exact g_zret hx hb hr hlocks rfl dX0_isFull_17 (by simp [c_9])
  · -- 9 f
    refine lv_iconst (v := 1) hx hb dX0_isFull_12 (by decide) ?_
    refine lv_goto (tgt := 17) hx hb dX0_isFull_13 (by decide) ?_
    exact g_zret hx hb hr hlocks rfl dX0_isFull_17 (by simp [c_9])

set_option maxHeartbeats 4000000 in
set_option maxRecDepth 100000 in
/-- at(i) -/
theorem m_X0_at (l : Launch) (D : va_G) (cy : Nat → ClassId) (a c9 t : Nat) (ch st : Nat → Int32) (len seg : Nat) (hlen : len ≤ 30) (hch : chOK ch) (i : Int32) : Met l yX0_at wsX0_at ({ frames := 0, cells := 0, slots := 0, locals := 0 } : Room) (va_Pc [.ref a, .int i] (fun U => gK D cy U ∧ (pA D cy a c9 t ch st len seg) U.heap)) (rQ (some (.int (atI ch len i)))) 0 0 (fun _ => False) := by
  refine Met.ofW (cc := cX0_at) (maxL := 3) (ret := (some .char)) (by decide) rfl ?_
  intro p e s m args below meth c s₁ B9 hml hv
  obtain ⟨rfl, hK, hB⟩ := hv
  have hx := B9.exec
  have hb := B9.bytes
  have hr := B9.returns
  have hts := atoms_spec (ws := wsX0_at) B9.pre
  have hown : s.vm.findClass RX0 = some m.cls := findClass_of_methodNamed B9.named
  have hlocks := B9.notSynchronized
  have lk26 := hts (.fieldLink RX0 26 "Politecrawl$Address" "length" "I") (by decide +kernel)
  have inX0 : ∀ w ∈ u_ws RX0 TX0 4, w ∈ wsX0_at := by decide +kernel
  have lk9 := hts (.fieldLink RX0 9 "Politecrawl$Address" "characters" "[C") (by decide +kernel)
  have hl := lv_entry ([.ref a, .int i]) (n := 3) (Nat.le_of_ble_eq_true rfl)
  rw [lg_entry_eq]
  generalize (lg_sl ([.ref a, .int i]) ++ List.replicate (3 - (lg_sl ([.ref a, .int i])).length) Slot.unset).toArray = ls at hl ⊢
  have hl : lv_has ls 3 [(0, .ref a), (1, .int i)] := hl
  refine lv_iload_n hx hb dX0_at_0 rfl (lv_at hl 1 rfl) ?_
  refine lv_if_lt (tgt := 25) hx hb dX0_at_1 (by decide) (fun c_1 => ?_) (fun c_1 => ?_)
  · -- 1 t
    refine lv_iconst (v := 0) hx hb dX0_at_25 (by decide) ?_
    refine lv_istore_n (lv' := [(2, .int 0), (0, .ref a), (1, .int i)]) hx hb dX0_at_26 rfl hl (by decide) rfl (fun ls hl => ?_)
    refine lv_iload_n hx hb dX0_at_27 rfl (lv_at hl 0 rfl) ?_
    refine lv_if_eq (tgt := 40) hx hb dX0_at_28 (by decide) (fun c_28 => ?_) (fun c_28 => ?_)
    · -- 28 t
      refine lv_bipush (v := 47) hx hb dX0_at_40 (by decide) ?_
      exact g_zret hx hb hr hlocks rfl dX0_at_42 (by rw [atI, if_pos c_1])
    · exact absurd c_28 (by decide)
  · -- 1 f
    refine lv_iload_n hx hb dX0_at_4 rfl (lv_at hl 1 rfl) ?_
    refine lv_aload_n hx hb dX0_at_5 rfl (lv_at hl 0 rfl) ?_
    refine g_get (C := RX0) (T := TX0) (N := 4) (ci := 0) (fs := [.ref c9, .ref t, .int (nI len), .int (nI seg)]) hx hb hts inX0 hown hK hB.1 rfl 2 (by decide) lk26 rfl rfl dX0_at_6 ?_
    refine lv_icmp_ge (tgt := 25) hx hb dX0_at_9 (by decide) (fun c_9 => ?_) (fun c_9 => ?_)
    · -- 9 t
      refine lv_iconst (v := 0) hx hb dX0_at_25 (by decide) ?_
      refine lv_istore_n (lv' := [(2, .int 0), (0, .ref a), (1, .int i)]) hx hb dX0_at_26 rfl hl (by decide) rfl (fun ls hl => ?_)
      refine lv_iload_n hx hb dX0_at_27 rfl (lv_at hl 0 rfl) ?_
      refine lv_if_eq (tgt := 40) hx hb dX0_at_28 (by decide) (fun c_28 => ?_) (fun c_28 => ?_)
      · -- 28 t
        refine lv_bipush (v := 47) hx hb dX0_at_40 (by decide) ?_
        exact g_zret hx hb hr hlocks rfl dX0_at_42 (by rw [atI, if_neg c_1, atN, if_neg (Nat.not_lt.mpr ((cl_le (by omega) c_1).mp c_9))])
      · exact absurd c_28 (by decide)
    · -- 9 f
      refine lv_iload_n hx hb dX0_at_12 rfl (lv_at hl 1 rfl) ?_
      refine lv_aload_n hx hb dX0_at_13 rfl (lv_at hl 0 rfl) ?_
      refine g_get (C := RX0) (T := TX0) (N := 4) (ci := 0) (fs := [.ref c9, .ref t, .int (nI len), .int (nI seg)]) hx hb hts inX0 hown hK hB.1 rfl 0 (by decide) lk9 rfl rfl dX0_at_14 ?_
      refine g_alen (v := 30) hx hb hK 0 hB.2.1 rfl rfl dX0_at_17 ?_
      refine lv_icmp_ge (tgt := 25) hx hb dX0_at_18 (by decide) (fun c_18 => ?_) (fun c_18 => ?_)
      · -- 18 t
        refine lv_iconst (v := 0) hx hb dX0_at_25 (by decide) ?_
        refine lv_istore_n (lv' := [(2, .int 0), (0, .ref a), (1, .int i)]) hx hb dX0_at_26 rfl hl (by decide) rfl (fun ls hl => ?_)
        refine lv_iload_n hx hb dX0_at_27 rfl (lv_at hl 0 rfl) ?_
        refine lv_if_eq (tgt := 40) hx hb dX0_at_28 (by decide) (fun c_28 => ?_) (fun c_28 => ?_)
        · -- 28 t
          refine lv_bipush (v := 47) hx hb dX0_at_40 (by decide) ?_
          exact g_zret hx hb hr hlocks rfl dX0_at_42 (by rw [atI, if_neg c_1, atN, if_neg (fun q => c_9 ((cl_le (by omega) c_1).mpr (by have := (cl_le (n := 30) (by decide) c_1).mp c_18; omega)))])
        · exact absurd c_28 (by decide)
      · -- 18 f
        refine lv_iconst (v := 1) hx hb dX0_at_21 (by decide) ?_
        refine lv_goto (tgt := 26) hx hb dX0_at_22 (by decide) ?_
        refine lv_istore_n (lv' := [(2, .int 1), (0, .ref a), (1, .int i)]) hx hb dX0_at_26 rfl hl (by decide) rfl (fun ls hl => ?_)
        refine lv_iload_n hx hb dX0_at_27 rfl (lv_at hl 0 rfl) ?_
        refine lv_if_eq (tgt := 40) hx hb dX0_at_28 (by decide) (fun c_28 => ?_) (fun c_28 => ?_)
        · exact absurd c_28 (by decide)
        · -- 28 f
          refine lv_aload_n hx hb dX0_at_31 rfl (lv_at hl 1 rfl) ?_
          refine g_get (C := RX0) (T := TX0) (N := 4) (ci := 0) (fs := [.ref c9, .ref t, .int (nI len), .int (nI seg)]) hx hb hts inX0 hown hK hB.1 rfl 0 (by decide) lk9 rfl rfl dX0_at_32 ?_
          refine lv_iload_n hx hb dX0_at_35 rfl (lv_at hl 2 rfl) ?_
          refine g_cald (f := ch) (x := ch i.toNatClampNeg) hx hb hK hB.2.1 (cl_in30 c_1 c_18) rfl dX0_at_36 ?_
          refine lv_goto (tgt := 42) hx hb dX0_at_37 (by decide) ?_
          exact g_zret hx hb hr hlocks (hch _ (Nat.not_le.mp fun q => (cl_in30 c_1 c_18) (Or.inr q))) dX0_at_42 (by rw [atI, if_neg c_1, atN, if_pos (Nat.not_le.mp fun q => c_9 ((cl_le (by omega) c_1).mpr q))])

set_option maxHeartbeats 4000000 in
set_option maxRecDepth 100000 in
/-- startOf(i) -/
theorem m_X0_startOf (l : Launch) (D : va_G) (cy : Nat → ClassId) (a c9 t : Nat) (ch st : Nat → Int32) (len seg : Nat) (i : Int32) : Met l yX0_startOf wsX0_startOf ({ frames := 0, cells := 0, slots := 0, locals := 0 } : Room) (va_Pc [.ref a, .int i] (fun U => gK D cy U ∧ (pA D cy a c9 t ch st len seg) U.heap)) (rQ (some (.int (stI st len i)))) 0 0 (fun _ => False) := by
  refine Met.ofW (cc := cX0_startOf) (maxL := 2) (ret := (some .int)) (by decide) rfl ?_
  intro p e s m args below meth c s₁ B9 hml hv
  obtain ⟨rfl, hK, hB⟩ := hv
  have hx := B9.exec
  have hb := B9.bytes
  have hr := B9.returns
  have hts := atoms_spec (ws := wsX0_startOf) B9.pre
  have hown : s.vm.findClass RX0 = some m.cls := findClass_of_methodNamed B9.named
  have hlocks := B9.notSynchronized
  have lk15 := hts (.fieldLink RX0 15 "Politecrawl$Address" "starts" "[I") (by decide +kernel)
  have inX0 : ∀ w ∈ u_ws RX0 TX0 4, w ∈ wsX0_startOf := by decide +kernel
  have lk26 := hts (.fieldLink RX0 26 "Politecrawl$Address" "length" "I") (by decide +kernel)
  have hl := lv_entry ([.ref a, .int i]) (n := 2) (Nat.le_of_ble_eq_true rfl)
  rw [lg_entry_eq]
  generalize (lg_sl ([.ref a, .int i]) ++ List.replicate (2 - (lg_sl ([.ref a, .int i])).length) Slot.unset).toArray = ls at hl ⊢
  have hl : lv_has ls 2 [(0, .ref a), (1, .int i)] := hl
  refine lv_iload_n hx hb dX0_startOf_0 rfl (lv_at hl 1 rfl) ?_
  refine lv_if_lt (tgt := 22) hx hb dX0_startOf_1 (by decide) (fun c_1 => ?_) (fun c_1 => ?_)
  · -- 1 t
    refine lv_aload_n hx hb dX0_startOf_22 rfl (lv_at hl 0 rfl) ?_
    refine g_get (C := RX0) (T := TX0) (N := 4) (ci := 0) (fs := [.ref c9, .ref t, .int (nI len), .int (nI seg)]) hx hb hts inX0 hown hK hB.1 rfl 2 (by decide) lk26 rfl rfl dX0_startOf_23 ?_
    exact g_iret hx hb hr hlocks dX0_startOf_26 (by rw [stI, if_pos (Or.inl c_1)])
  · -- 1 f
    refine lv_iload_n hx hb dX0_startOf_4 rfl (lv_at hl 1 rfl) ?_
    refine lv_aload_n hx hb dX0_startOf_5 rfl (lv_at hl 0 rfl) ?_
    refine g_get (C := RX0) (T := TX0) (N := 4) (ci := 0) (fs := [.ref c9, .ref t, .int (nI len), .int (nI seg)]) hx hb hts inX0 hown hK hB.1 rfl 1 (by decide) lk15 rfl rfl dX0_startOf_6 ?_
    refine g_alen (v := 30) hx hb hK 1 hB.2.2 rfl rfl dX0_startOf_9 ?_
    refine lv_icmp_ge (tgt := 22) hx hb dX0_startOf_10 (by decide) (fun c_10 => ?_) (fun c_10 => ?_)
    · -- 10 t
      refine lv_aload_n hx hb dX0_startOf_22 rfl (lv_at hl 0 rfl) ?_
      refine g_get (C := RX0) (T := TX0) (N := 4) (ci := 0) (fs := [.ref c9, .ref t, .int (nI len), .int (nI seg)]) hx hb hts inX0 hown hK hB.1 rfl 2 (by decide) lk26 rfl rfl dX0_startOf_23 ?_
      exact g_iret hx hb hr hlocks dX0_startOf_26 (by rw [stI, if_pos (Or.inr c_10)])
    · -- 10 f
      refine lv_aload_n hx hb dX0_startOf_13 rfl (lv_at hl 0 rfl) ?_
      refine g_get (C := RX0) (T := TX0) (N := 4) (ci := 0) (fs := [.ref c9, .ref t, .int (nI len), .int (nI seg)]) hx hb hts inX0 hown hK hB.1 rfl 1 (by decide) lk15 rfl rfl dX0_startOf_14 ?_
      refine lv_iload_n hx hb dX0_startOf_17 rfl (lv_at hl 1 rfl) ?_
      refine g_iald (f := st) (x := st i.toNatClampNeg) hx hb hK hB.2.2 (cl_in30 c_1 c_10) rfl dX0_startOf_18 ?_
      refine lv_goto (tgt := 26) hx hb dX0_startOf_19 (by decide) ?_
      exact g_iret hx hb hr hlocks dX0_startOf_26 (by rw [stI, if_neg (fun h => h.elim c_1 c_10)])


/-- two addresses -/
def pAA (D : va_G) (cy : Nat → ClassId) (a c t : Nat) (ch st : Nat → Int32) (len seg : Nat) (a2 c2 t2 : Nat) (ch2 st2 : Nat → Int32) (len2 seg2 : Nat) : Heap → Prop := fun H => pA D cy a c t ch st len seg H ∧ pA D cy a2 c2 t2 ch2 st2 len2 seg2 H
/-- equal from i on, k places -/
def sameF (f g : Nat → Int32) : Nat → Nat → Bool
  | 0, _ => true
  | k + 1, i => if f i = g i then sameF f g k (i + 1) else false

set_option maxHeartbeats 4000000 in
set_option maxRecDepth 100000 in
/-- hasSameSegments(x, y) -/
theorem m_X0_hasSameSegments (l : Launch) (D : va_G) (cy : Nat → ClassId) (a c9 t : Nat) (ch st : Nat → Int32) (len seg : Nat) (hlen : len ≤ 30) (hch : chOK ch) (hseg : seg ≤ 30) (hst : stOK st seg len) (x y : Nat) (hx0 : x < seg) (hy0 : y < seg) : Met l yX0_hasSameSegments wsX0_hasSameSegments ({ frames := 1, cells := 0, slots := 0, locals := 30 } : Room) (va_Pc [.ref a, .int (nI x), .int (nI y)] (fun U => gK D cy U ∧ (pA D cy a c9 t ch st len seg) U.heap)) (rQ (some (.int (zb (hss ch len (st x).toNatClampNeg (st y).toNatClampNeg len 0))))) 0 0 (fun _ => False) := by
  refine Met.ofW (cc := cX0_hasSameSegments) (maxL := 7) (ret := (some .boolean)) (by decide) rfl ?_
  intro p e s m args below meth c s₁ B9 hml hv
  obtain ⟨rfl, hK, hB⟩ := hv
  have hx := B9.exec
  have hb := B9.bytes
  have hr := B9.returns
  have hts := atoms_spec (ws := wsX0_hasSameSegments) B9.pre
  have hown : s.vm.findClass RX0 = some m.cls := findClass_of_methodNamed B9.named
  have hlocks := B9.notSynchronized
  have lk26 := hts (.fieldLink RX0 26 "Politecrawl$Address" "length" "I") (by decide +kernel)
  have inX0 : ∀ w ∈ u_ws RX0 TX0 4, w ∈ wsX0_hasSameSegments := by decide +kernel
  have hl := lv_entry ([.ref a, .int (nI x), .int (nI y)]) (n := 7) (Nat.le_of_ble_eq_true rfl)
  rw [lg_entry_eq]
  generalize (lg_sl ([.ref a, .int (nI x), .int (nI y)]) ++ List.replicate (7 - (lg_sl ([.ref a, .int (nI x), .int (nI y)])).length) Slot.unset).toArray = ls at hl ⊢
  have hl : lv_has ls 7 [(0, .ref a), (1, .int (nI x)), (2, .int (nI y))] := hl
  obtain ⟨qa, ea, hqa⟩ := hst x hx0
  obtain ⟨qb, eb, hqb⟩ := hst y hy0
  have e1 : (st x).toNatClampNeg = qa := by rw [ea, cl_nI (by omega)]
  have e2 : (st y).toNatClampNeg = qb := by rw [eb, cl_nI (by omega)]
  obtain ⟨V, hV⟩ : ∃ V, V = zb (hss ch len (st x).toNatClampNeg (st y).toNatClampNeg len 0) := ⟨_, rfl⟩
  rw [← hV]
  rw [e1, e2] at hV
  refine lv_aload_n hx hb dX0_hasSameSegments_0 rfl (lv_at hl 0 rfl) ?_
  refine lv_iload_n hx hb dX0_hasSameSegments_1 rfl (lv_at hl 1 rfl) ?_
  refine g_csr (va_runV (As := [.int (nI x)]) (rest := []) ⟨hx, hb, hml, hown, hts⟩ (m_X0_startOf l D cy a c9 t ch st len seg (nI x)) (cwV 1 hts gX0_hasSameSegments_X0_startOf rfl rfl rfl (by decide +kernel) ⟨Nat.le_of_ble_eq_true rfl, Nat.le_of_ble_eq_true rfl⟩) (g_preV (C := RX0) (B := (pA D cy a c9 t ch st len seg)) hK hB hB.1 rfl) rfl rfl hl.1 rfl (lv_room (Nat.le_of_ble_eq_true rfl)) dX0_hasSameSegments_2 ⟨Nat.zero_le _, Nat.zero_le _⟩) ?_
  refine lv_topi (fun y1 ey1 => ?_)
  obtain rfl : y1 = nI qa := ey1.trans ((stI_nI (by omega)).trans ea)
  refine lv_istore_n (lv' := [(3, .int (nI qa)), (0, .ref a), (1, .int (nI x)), (2, .int (nI y))]) hx hb dX0_hasSameSegments_5 rfl hl (by decide) rfl (fun ls hl => ?_)
  refine lv_aload_n hx hb dX0_hasSameSegments_6 rfl (lv_at hl 1 rfl) ?_
  refine lv_iload_n hx hb dX0_hasSameSegments_7 rfl (lv_at hl 3 rfl) ?_
  refine g_csr (va_runV (As := [.int (nI y)]) (rest := []) ⟨hx, hb, hml, hown, hts⟩ (m_X0_startOf l D cy a c9 t ch st len seg (nI y)) (cwV 1 hts gX0_hasSameSegments_X0_startOf rfl rfl rfl (by decide +kernel) ⟨Nat.le_of_ble_eq_true rfl, Nat.le_of_ble_eq_true rfl⟩) (g_preV (C := RX0) (B := (pA D cy a c9 t ch st len seg)) hK hB hB.1 rfl) rfl rfl hl.1 rfl (lv_room (Nat.le_of_ble_eq_true rfl)) dX0_hasSameSegments_8 ⟨Nat.zero_le _, Nat.zero_le _⟩) ?_
  refine lv_topi (fun y2 ey2 => ?_)
  obtain rfl : y2 = nI qb := ey2.trans ((stI_nI (by omega)).trans eb)
  refine lv_istore (lv' := [(4, .int (nI qb)), (3, .int (nI qa)), (0, .ref a), (1, .int (nI x)), (2, .int (nI y))]) hx hb dX0_hasSameSegments_11 hl (by decide) rfl (fun ls hl => ?_)
  refine lv_iconst (v := 0) hx hb dX0_hasSameSegments_13 (by decide) ?_
  refine lv_istore (lv' := [(5, .int 0), (4, .int (nI qb)), (3, .int (nI qa)), (0, .ref a), (1, .int (nI x)), (2, .int (nI y))]) hx hb dX0_hasSameSegments_14 hl (by decide) rfl (fun ls hl => ?_)
  have loop : ∀ (k : Nat) (i : Nat) (ls : Array Slot), i ≤ len → len < i + k → V = zb (hss ch len qa qb (len - i) i) → lv_has ls 7 [(0, .ref a), (1, .int (nI x)), (2, .int (nI y)), (3, .int (nI qa)), (4, .int (nI qb)), (5, .int (nI i))] → W p l e (headSpec wsX0_hasSameSegments ({ frames := 1, cells := 0, slots := 0, locals := 30 } : Room)).room s m ([.ref a, .int (nI x), .int (nI y)] : List Value).toArray below meth c s.heap [] 0 0 (MQ below (rQ (some (.int V))) ([.ref a, .int (nI x), .int (nI y)] : List Value).toArray s 0 0 (fun _ => False)) (F0 m 16 ls []) := by
    intro k
    induction k with
    | zero => intro i ls hi hk hV hl; exfalso; omega
    | succ k loop_ih =>
      intro i ls hi hk hV hl
      refine lv_iload hx hb dX0_hasSameSegments_16 (lv_at hl 5 rfl) ?_
      refine lv_aload_n hx hb dX0_hasSameSegments_18 rfl (lv_at hl 0 rfl) ?_
      refine g_get (C := RX0) (T := TX0) (N := 4) (ci := 0) (fs := [.ref c9, .ref t, .int (nI len), .int (nI seg)]) hx hb hts inX0 hown hK hB.1 rfl 2 (by decide) lk26 rfl rfl dX0_hasSameSegments_19 ?_
      refine lv_icmp_ge (tgt := 66) hx hb dX0_hasSameSegments_22 (by decide) (fun c_22 => ?_) (fun c_22 => ?_)
      · -- 22 t
        have hle : len ≤ i := (nI_leI (by omega) (by omega)).mp c_22
        refine lv_iconst (v := 1) hx hb dX0_hasSameSegments_66 (by decide) ?_
        exact g_zret hx hb hr hlocks rfl dX0_hasSameSegments_67 (by rw [hV, show len - i = 0 by omega]; rfl)
      · -- 22 f
        have hlt : i < len := Nat.not_le.mp fun q => c_22 ((nI_leI (by omega) (by omega)).mpr q)
        obtain ⟨j, hj⟩ : ∃ j, len - i = j + 1 := ⟨len - i - 1, by omega⟩
        have hj2 : len - (i + 1) = j := by omega
        rw [hj, hss] at hV
        refine lv_aload_n hx hb dX0_hasSameSegments_25 rfl (lv_at hl 0 rfl) ?_
        refine lv_iload_n hx hb dX0_hasSameSegments_26 rfl (lv_at hl 3 rfl) ?_
        refine lv_iload hx hb dX0_hasSameSegments_27 (lv_at hl 5 rfl) ?_
        refine lv_iadd hx hb dX0_hasSameSegments_29 ?_
        refine lv_topi (fun y3 ey3 => ?_)
        obtain rfl : y3 = nI (qa + i) := ey3.trans (nI_add _ _)
        refine g_csr (va_runV (As := [.int (nI (qa + i))]) (rest := []) ⟨hx, hb, hml, hown, hts⟩ (m_X0_at l D cy a c9 t ch st len seg (by omega) hch (nI (qa + i))) (cwV 1 hts gX0_hasSameSegments_X0_at rfl rfl rfl (by decide +kernel) ⟨Nat.le_of_ble_eq_true rfl, Nat.le_of_ble_eq_true rfl⟩) (g_preV (C := RX0) (B := (pA D cy a c9 t ch st len seg)) hK hB hB.1 rfl) rfl rfl hl.1 rfl (lv_room (Nat.le_of_ble_eq_true rfl)) dX0_hasSameSegments_30 ⟨Nat.zero_le _, Nat.zero_le _⟩) ?_
        refine lv_topi (fun y4 ey4 => ?_)
        obtain rfl : y4 = atN ch len (qa + i) := ey4.trans (atI_nI (by omega))
        refine lv_istore (lv' := [(6, .int (atN ch len (qa + i))), (0, .ref a), (1, .int (nI x)), (2, .int (nI y)), (3, .int (nI qa)), (4, .int (nI qb)), (5, .int (nI i))]) hx hb dX0_hasSameSegments_33 hl (by decide) rfl (fun ls hl => ?_)
        refine lv_iload hx hb dX0_hasSameSegments_35 (lv_at hl 0 rfl) ?_
        refine lv_aload_n hx hb dX0_hasSameSegments_37 rfl (lv_at hl 1 rfl) ?_
        refine lv_iload hx hb dX0_hasSameSegments_38 (lv_at hl 5 rfl) ?_
        refine lv_iload hx hb dX0_hasSameSegments_40 (lv_at hl 6 rfl) ?_
        refine lv_iadd hx hb dX0_hasSameSegments_42 ?_
        refine lv_topi (fun y5 ey5 => ?_)
        obtain rfl : y5 = nI (qb + i) := ey5.trans (nI_add _ _)
        refine g_csr (va_runV (As := [.int (nI (qb + i))]) (rest := [.int (atN ch len (qa + i))]) ⟨hx, hb, hml, hown, hts⟩ (m_X0_at l D cy a c9 t ch st len seg (by omega) hch (nI (qb + i))) (cwV 1 hts gX0_hasSameSegments_X0_at rfl rfl rfl (by decide +kernel) ⟨Nat.le_of_ble_eq_true rfl, Nat.le_of_ble_eq_true rfl⟩) (g_preV (C := RX0) (B := (pA D cy a c9 t ch st len seg)) hK hB hB.1 rfl) rfl rfl hl.1 rfl (lv_room (Nat.le_of_ble_eq_true rfl)) dX0_hasSameSegments_43 ⟨Nat.zero_le _, Nat.zero_le _⟩) ?_
        refine lv_topi (fun y6 ey6 => ?_)
        obtain rfl : y6 = atN ch len (qb + i) := ey6.trans (atI_nI (by omega))
        refine lv_icmp_eq (tgt := 51) hx hb dX0_hasSameSegments_46 (by decide) (fun c_46 => ?_) (fun c_46 => ?_)
        · -- 46 t
          rw [if_pos c_46] at hV
          refine lv_iload hx hb dX0_hasSameSegments_51 (lv_at hl 0 rfl) ?_
          refine lv_bipush (v := 47) hx hb dX0_hasSameSegments_53 (by decide) ?_
          refine lv_icmp_ne (tgt := 60) hx hb dX0_hasSameSegments_55 (by decide) (fun c_55 => ?_) (fun c_55 => ?_)
          · -- 55 t
            rw [if_neg c_55, ← hj2] at hV
            refine lv_iinc (v := nI (i + 1)) (lv' := [(5, .int (nI (i + 1))), (6, .int (atN ch len (qa + i))), (0, .ref a), (1, .int (nI x)), (2, .int (nI y)), (3, .int (nI qa)), (4, .int (nI qb))]) hx hb dX0_hasSameSegments_60 hl (k := 6) rfl (nI_1 i) (by decide) rfl (fun ls hl => ?_)
            refine lv_goto (tgt := 16) hx hb dX0_hasSameSegments_63 (by decide) ?_
            exact loop_ih (i + 1) ls (by omega) (by omega) hV (lv_sub hl [2, 3, 4, 5, 6, 0] rfl)
          · -- 55 f
            rw [if_pos c_55] at hV
            refine lv_iconst (v := 1) hx hb dX0_hasSameSegments_58 (by decide) ?_
            exact g_zret hx hb hr hlocks rfl dX0_hasSameSegments_59 (by rw [hV]; rfl)
        · -- 46 f
          rw [if_neg c_46] at hV
          refine lv_iconst (v := 0) hx hb dX0_hasSameSegments_49 (by decide) ?_
          exact g_zret hx hb hr hlocks rfl dX0_hasSameSegments_50 (by rw [hV]; rfl)
  exact loop (len + 1) 0 ls (Nat.zero_le _) (by omega) hV (lv_sub hl [3, 4, 5, 2, 1, 0] rfl)

set_option maxHeartbeats 4000000 in
set_option maxRecDepth 100000 in
/-- comesThrice(size) -/
theorem m_X0_comesThrice (l : Launch) (D : va_G) (cy : Nat → ClassId) (a c9 t : Nat) (ch st : Nat → Int32) (len seg : Nat) (hlen : len ≤ 30) (hch : chOK ch) (hseg : seg ≤ 30) (hst : stOK st seg len) (sz : Nat) (hz0 : 1 ≤ sz) (hz1 : sz ≤ 3) : Met l yX0_comesThrice wsX0_comesThrice ({ frames := 2, cells := 0, slots := 0, locals := 60 } : Room) (va_Pc [.ref a, .int (nI sz)] (fun U => gK D cy U ∧ (pA D cy a c9 t ch st len seg) U.heap)) (rQ (some (.int (zb (c3A ch st len seg sz))))) 0 0 (fun _ => False) := by
  refine Met.ofW (cc := cX0_comesThrice) (maxL := 4) (ret := (some .boolean)) (by decide) rfl ?_
  intro p e s m args below meth c s₁ B9 hml hv
  obtain ⟨rfl, hK, hB⟩ := hv
  have hx := B9.exec
  have hb := B9.bytes
  have hr := B9.returns
  have hts := atoms_spec (ws := wsX0_comesThrice) B9.pre
  have hown : s.vm.findClass RX0 = some m.cls := findClass_of_methodNamed B9.named
  have hlocks := B9.notSynchronized
  have lk30 := hts (.fieldLink RX0 30 "Politecrawl$Address" "segmentCount" "I") (by decide +kernel)
  have inX0 : ∀ w ∈ u_ws RX0 TX0 4, w ∈ wsX0_comesThrice := by decide +kernel
  have hl := lv_entry ([.ref a, .int (nI sz)]) (n := 4) (Nat.le_of_ble_eq_true rfl)
  rw [lg_entry_eq]
  generalize (lg_sl ([.ref a, .int (nI sz)]) ++ List.replicate (4 - (lg_sl ([.ref a, .int (nI sz)])).length) Slot.unset).toArray = ls at hl ⊢
  have hl : lv_has ls 4 [(0, .ref a), (1, .int (nI sz))] := hl
  obtain ⟨V, hV⟩ : ∃ V, V = zb (c3 (hssP ch st len sz) sz seg (seg + 1 - 0) 0 0) := ⟨_, rfl⟩
  have hV0 : zb (c3A ch st len seg sz) = V := hV.symm
  rw [hV0]
  refine lv_iconst (v := 0) hx hb dX0_comesThrice_0 (by decide) ?_
  refine lv_topi (fun y1 ey1 => ?_)
  obtain rfl : y1 = nI 0 := ey1.trans (nI_0.symm)
  refine lv_istore_n (lv' := [(2, .int (nI 0)), (0, .ref a), (1, .int (nI sz))]) hx hb dX0_comesThrice_1 rfl hl (by decide) rfl (fun ls hl => ?_)
  refine lv_iconst (v := 0) hx hb dX0_comesThrice_2 (by decide) ?_
  refine lv_topi (fun y2 ey2 => ?_)
  obtain rfl : y2 = nI 0 := ey2.trans (nI_0.symm)
  refine lv_istore_n (lv' := [(3, .int (nI 0)), (2, .int (nI 0)), (0, .ref a), (1, .int (nI sz))]) hx hb dX0_comesThrice_3 rfl hl (by decide) rfl (fun ls hl => ?_)
  have loop : ∀ (k : Nat) (i q : Nat) (ls : Array Slot), i ≤ seg → q ≤ i → seg < i + k → V = zb (c3 (hssP ch st len sz) sz seg (seg + 1 - i) i q) → lv_has ls 4 [(0, .ref a), (1, .int (nI sz)), (2, .int (nI q)), (3, .int (nI i))] → W p l e (headSpec wsX0_comesThrice ({ frames := 2, cells := 0, slots := 0, locals := 60 } : Room)).room s m ([.ref a, .int (nI sz)] : List Value).toArray below meth c s.heap [] 0 0 (MQ below (rQ (some (.int V))) ([.ref a, .int (nI sz)] : List Value).toArray s 0 0 (fun _ => False)) (F0 m 4 ls []) := by
    intro k
    induction k with
    | zero => intro i q ls hi hq hk hV hl; exfalso; omega
    | succ k loop_ih =>
      intro i q ls hi hq hk hV hl
      refine lv_iload_n hx hb dX0_comesThrice_4 rfl (lv_at hl 3 rfl) ?_
      refine lv_iload_n hx hb dX0_comesThrice_5 rfl (lv_at hl 1 rfl) ?_
      refine lv_iadd hx hb dX0_comesThrice_6 ?_
      refine lv_topi (fun y3 ey3 => ?_)
      obtain rfl : y3 = nI (i + sz) := ey3.trans (nI_add _ _)
      refine lv_aload_n hx hb dX0_comesThrice_7 rfl (lv_at hl 0 rfl) ?_
      refine g_get (C := RX0) (T := TX0) (N := 4) (ci := 0) (fs := [.ref c9, .ref t, .int (nI len), .int (nI seg)]) hx hb hts inX0 hown hK hB.1 rfl 3 (by decide) lk30 rfl rfl dX0_comesThrice_8 ?_
      refine lv_icmp_ge (tgt := 48) hx hb dX0_comesThrice_11 (by decide) (fun c_11 => ?_) (fun c_11 => ?_)
      · -- 11 t
        have hge : seg ≤ i + sz := (nI_leI (by omega) (by omega)).mp c_11
        obtain ⟨j, hj⟩ : ∃ j, seg + 1 - i = j + 1 := ⟨seg - i, by omega⟩
        rw [hj, c3, if_neg (by omega)] at hV
        refine lv_iconst (v := 0) hx hb dX0_comesThrice_48 (by decide) ?_
        exact g_zret hx hb hr hlocks rfl dX0_comesThrice_49 (by rw [hV]; rfl)
      · -- 11 f
        have hlt : i + sz < seg := Nat.not_le.mp fun q => c_11 ((nI_leI (by omega) (by omega)).mpr q)
        obtain ⟨j, hj⟩ : ∃ j, seg + 1 - i = j + 1 := ⟨seg - i, by omega⟩
        have hj2 : seg + 1 - (i + 1) = j := by omega
        rw [hj, c3, if_pos hlt] at hV
        refine lv_aload_n hx hb dX0_comesThrice_14 rfl (lv_at hl 0 rfl) ?_
        refine lv_iload_n hx hb dX0_comesThrice_15 rfl (lv_at hl 3 rfl) ?_
        refine lv_iload_n hx hb dX0_comesThrice_16 rfl (lv_at hl 3 rfl) ?_
        refine lv_iload_n hx hb dX0_comesThrice_17 rfl (lv_at hl 1 rfl) ?_
        refine lv_iadd hx hb dX0_comesThrice_18 ?_
        refine lv_topi (fun y4 ey4 => ?_)
        obtain rfl : y4 = nI (i + sz) := ey4.trans (nI_add _ _)
        refine g_csr (va_runV (As := [.int (nI i), .int (nI (i + sz))]) (rest := []) ⟨hx, hb, hml, hown, hts⟩ (m_X0_hasSameSegments l D cy a c9 t ch st len seg hlen hch hseg hst i (i + sz) (by omega) hlt) (cwV 2 hts gX0_comesThrice_X0_hasSameSegments rfl rfl rfl (by decide +kernel) ⟨Nat.le_of_ble_eq_true rfl, Nat.le_of_ble_eq_true rfl⟩) (g_preV (C := RX0) (B := (pA D cy a c9 t ch st len seg)) hK hB hB.1 rfl) rfl rfl hl.1 rfl (lv_room (Nat.le_of_ble_eq_true rfl)) dX0_comesThrice_19 ⟨Nat.zero_le _, Nat.zero_le _⟩) ?_
        refine lv_if_eq (tgt := 31) hx hb dX0_comesThrice_22 (by decide) (fun c_22 => ?_) (fun c_22 => ?_)
        · -- 22 t
          have p22 : hssP ch st len sz i = false := zb_0.mp c_22
          simp only [p22, Bool.false_eq_true, reduceIte] at hV
          refine lv_iconst (v := 0) hx hb dX0_comesThrice_31 (by decide) ?_
          refine lv_topi (fun y5 ey5 => ?_)
          obtain rfl : y5 = nI 0 := ey5.trans (nI_0.symm)
          refine lv_istore_n (lv' := [(2, .int (nI 0)), (0, .ref a), (1, .int (nI sz)), (3, .int (nI i))]) hx hb dX0_comesThrice_32 rfl hl (by decide) rfl (fun ls hl => ?_)
          refine lv_iload_n hx hb dX0_comesThrice_33 rfl (lv_at hl 0 rfl) ?_
          refine lv_iconst (v := 2) hx hb dX0_comesThrice_34 (by decide) ?_
          refine lv_iload_n hx hb dX0_comesThrice_35 rfl (lv_at hl 2 rfl) ?_
          refine lv_imul hx hb dX0_comesThrice_36 ?_
          refine lv_topi (fun y6 ey6 => ?_)
          obtain rfl : y6 = nI (2 * sz) := ey6.trans (pk_mul 2 _)
          refine lv_icmp_ne (tgt := 42) hx hb dX0_comesThrice_37 (by decide) (fun c_37 => ?_) (fun c_37 => ?_)
          · -- 37 t
            rw [if_neg (by omega), ← hj2] at hV
            refine lv_iinc (v := nI (i + 1)) (lv' := [(3, .int (nI (i + 1))), (2, .int (nI 0)), (0, .ref a), (1, .int (nI sz))]) hx hb dX0_comesThrice_42 hl (k := 3) rfl (nI_1 i) (by decide) rfl (fun ls hl => ?_)
            refine lv_goto (tgt := 4) hx hb dX0_comesThrice_45 (by decide) ?_
            exact loop_ih (i + 1) 0 ls (by omega) (by omega) (by omega) hV (lv_sub hl [2, 3, 1, 0] rfl)
          · -- 37 f
            exact absurd ((nI_eq (by omega) (by omega)).mp c_37) (by omega)
        · -- 22 f
          have p22 : hssP ch st len sz i = true := zb_n0.mp c_22
          simp only [p22, reduceIte] at hV
          refine lv_iload_n hx hb dX0_comesThrice_25 rfl (lv_at hl 2 rfl) ?_
          refine lv_iconst (v := 1) hx hb dX0_comesThrice_26 (by decide) ?_
          refine lv_iadd hx hb dX0_comesThrice_27 ?_
          refine lv_goto (tgt := 32) hx hb dX0_comesThrice_28 (by decide) ?_
          refine lv_topi (fun y7 ey7 => ?_)
          obtain rfl : y7 = nI (q + 1) := ey7.trans (nI_1 _)
          refine lv_istore_n (lv' := [(2, .int (nI (q + 1))), (0, .ref a), (1, .int (nI sz)), (3, .int (nI i))]) hx hb dX0_comesThrice_32 rfl hl (by decide) rfl (fun ls hl => ?_)
          refine lv_iload_n hx hb dX0_comesThrice_33 rfl (lv_at hl 0 rfl) ?_
          refine lv_iconst (v := 2) hx hb dX0_comesThrice_34 (by decide) ?_
          refine lv_iload_n hx hb dX0_comesThrice_35 rfl (lv_at hl 2 rfl) ?_
          refine lv_imul hx hb dX0_comesThrice_36 ?_
          refine lv_topi (fun y8 ey8 => ?_)
          obtain rfl : y8 = nI (2 * sz) := ey8.trans (pk_mul 2 _)
          refine lv_icmp_ne (tgt := 42) hx hb dX0_comesThrice_37 (by decide) (fun c_37 => ?_) (fun c_37 => ?_)
          · -- 37 t
            rw [if_neg (fun z => c_37 (by rw [z])), ← hj2] at hV
            refine lv_iinc (v := nI (i + 1)) (lv' := [(3, .int (nI (i + 1))), (2, .int (nI (q + 1))), (0, .ref a), (1, .int (nI sz))]) hx hb dX0_comesThrice_42 hl (k := 3) rfl (nI_1 i) (by decide) rfl (fun ls hl => ?_)
            refine lv_goto (tgt := 4) hx hb dX0_comesThrice_45 (by decide) ?_
            exact loop_ih (i + 1) (q + 1) ls (by omega) (by omega) (by omega) hV (lv_sub hl [2, 3, 1, 0] rfl)
          · -- 37 f
            rw [if_pos ((nI_eq (by omega) (by omega)).mp c_37)] at hV
            refine lv_iconst (v := 1) hx hb dX0_comesThrice_40 (by decide) ?_
            exact g_zret hx hb hr hlocks rfl dX0_comesThrice_41 (by rw [hV]; rfl)
  exact loop (seg + 1) 0 0 ls (Nat.zero_le _) (Nat.zero_le _) (by omega) hV (lv_sub hl [2, 3, 1, 0] rfl)

set_option maxHeartbeats 4000000 in
set_option maxRecDepth 100000 in
/-- repeatsItself() -/
theorem m_X0_repeatsItself (l : Launch) (D : va_G) (cy : Nat → ClassId) (a c9 t : Nat) (ch st : Nat → Int32) (len seg : Nat) (hlen : len ≤ 30) (hch : chOK ch) (hseg : seg ≤ 30) (hst : stOK st seg len) : Met l yX0_repeatsItself wsX0_repeatsItself ({ frames := 3, cells := 0, slots := 0, locals := 90 } : Room) (va_Pc [.ref a] (fun U => gK D cy U ∧ (pA D cy a c9 t ch st len seg) U.heap)) (rQ (some (.int (zb (repA ch st len seg))))) 0 0 (fun _ => False) := by
  refine Met.ofW (cc := cX0_repeatsItself) (maxL := 2) (ret := (some .boolean)) (by decide) rfl ?_
  intro p e s m args below meth c s₁ B9 hml hv
  obtain ⟨rfl, hK, hB⟩ := hv
  have hx := B9.exec
  have hb := B9.bytes
  have hr := B9.returns
  have hts := atoms_spec (ws := wsX0_repeatsItself) B9.pre
  have hown : s.vm.findClass RX0 = some m.cls := findClass_of_methodNamed B9.named
  have hlocks := B9.notSynchronized
  have hl := lv_entry ([.ref a]) (n := 2) (Nat.le_of_ble_eq_true rfl)
  rw [lg_entry_eq]
  generalize (lg_sl ([.ref a]) ++ List.replicate (2 - (lg_sl ([.ref a])).length) Slot.unset).toArray = ls at hl ⊢
  have hl : lv_has ls 2 [(0, .ref a)] := hl
  refine lv_iconst (v := 1) hx hb dX0_repeatsItself_0 (by decide) ?_
  refine lv_istore_n (lv' := [(1, .int 1), (0, .ref a)]) hx hb dX0_repeatsItself_1 rfl hl (by decide) rfl (fun ls hl => ?_)
  refine lv_iload_n hx hb dX0_repeatsItself_2 rfl (lv_at hl 0 rfl) ?_
  refine lv_iconst (v := 3) hx hb dX0_repeatsItself_3 (by decide) ?_
  refine lv_icmp_gt (tgt := 23) hx hb dX0_repeatsItself_4 (by decide) (fun c_4 => ?_) (fun c_4 => ?_)
  · exact absurd c_4 (by decide)
  · -- 4 f
    refine lv_aload_n hx hb dX0_repeatsItself_7 rfl (lv_at hl 1 rfl) ?_
    refine lv_iload_n hx hb dX0_repeatsItself_8 rfl (lv_at hl 0 rfl) ?_
    refine lv_topi (fun y1 ey1 => ?_)
    obtain rfl : y1 = nI 1 := ey1.trans (rfl)
    refine g_csr (va_runV (As := [.int (nI 1)]) (rest := []) ⟨hx, hb, hml, hown, hts⟩ (m_X0_comesThrice l D cy a c9 t ch st len seg hlen hch hseg hst 1 (by decide) (by decide)) (cwV 1 hts gX0_repeatsItself_X0_comesThrice rfl rfl rfl (by decide +kernel) ⟨Nat.le_of_ble_eq_true rfl, Nat.le_of_ble_eq_true rfl⟩) (g_preV (C := RX0) (B := (pA D cy a c9 t ch st len seg)) hK hB hB.1 rfl) rfl rfl hl.1 rfl (lv_room (Nat.le_of_ble_eq_true rfl)) dX0_repeatsItself_9 ⟨Nat.zero_le _, Nat.zero_le _⟩) ?_
    refine lv_if_eq (tgt := 17) hx hb dX0_repeatsItself_12 (by decide) (fun c_12 => ?_) (fun c_12 => ?_)
    · -- 12 t
      refine lv_iinc (v := 2) (lv' := [(1, .int 2), (0, .ref a)]) hx hb dX0_repeatsItself_17 hl (k := 0) rfl (by decide) (by decide) rfl (fun ls hl => ?_)
      refine lv_goto (tgt := 2) hx hb dX0_repeatsItself_20 (by decide) ?_
      refine lv_iload_n hx hb dX0_repeatsItself_2 rfl (lv_at hl 0 rfl) ?_
      refine lv_iconst (v := 3) hx hb dX0_repeatsItself_3 (by decide) ?_
      refine lv_icmp_gt (tgt := 23) hx hb dX0_repeatsItself_4 (by decide) (fun c_4' => ?_) (fun c_4' => ?_)
      · exact absurd c_4' (by decide)
      · -- 4 f
        refine lv_aload_n hx hb dX0_repeatsItself_7 rfl (lv_at hl 1 rfl) ?_
        refine lv_iload_n hx hb dX0_repeatsItself_8 rfl (lv_at hl 0 rfl) ?_
        refine lv_topi (fun y2 ey2 => ?_)
        obtain rfl : y2 = nI 2 := ey2.trans (rfl)
        refine g_csr (va_runV (As := [.int (nI 2)]) (rest := []) ⟨hx, hb, hml, hown, hts⟩ (m_X0_comesThrice l D cy a c9 t ch st len seg hlen hch hseg hst 2 (by decide) (by decide)) (cwV 1 hts gX0_repeatsItself_X0_comesThrice rfl rfl rfl (by decide +kernel) ⟨Nat.le_of_ble_eq_true rfl, Nat.le_of_ble_eq_true rfl⟩) (g_preV (C := RX0) (B := (pA D cy a c9 t ch st len seg)) hK hB hB.1 rfl) rfl rfl hl.1 rfl (lv_room (Nat.le_of_ble_eq_true rfl)) dX0_repeatsItself_9 ⟨Nat.zero_le _, Nat.zero_le _⟩) ?_
        refine lv_if_eq (tgt := 17) hx hb dX0_repeatsItself_12 (by decide) (fun c_12' => ?_) (fun c_12' => ?_)
        · -- 12 t
          refine lv_iinc (v := 3) (lv' := [(1, .int 3), (0, .ref a)]) hx hb dX0_repeatsItself_17 hl (k := 0) rfl (by decide) (by decide) rfl (fun ls hl => ?_)
          refine lv_goto (tgt := 2) hx hb dX0_repeatsItself_20 (by decide) ?_
          refine lv_iload_n hx hb dX0_repeatsItself_2 rfl (lv_at hl 0 rfl) ?_
          refine lv_iconst (v := 3) hx hb dX0_repeatsItself_3 (by decide) ?_
          refine lv_icmp_gt (tgt := 23) hx hb dX0_repeatsItself_4 (by decide) (fun c_4'' => ?_) (fun c_4'' => ?_)
          · exact absurd c_4'' (by decide)
          · -- 4 f
            refine lv_aload_n hx hb dX0_repeatsItself_7 rfl (lv_at hl 1 rfl) ?_
            refine lv_iload_n hx hb dX0_repeatsItself_8 rfl (lv_at hl 0 rfl) ?_
            refine lv_topi (fun y3 ey3 => ?_)
            obtain rfl : y3 = nI 3 := ey3.trans (rfl)
            refine g_csr (va_runV (As := [.int (nI 3)]) (rest := []) ⟨hx, hb, hml, hown, hts⟩ (m_X0_comesThrice l D cy a c9 t ch st len seg hlen hch hseg hst 3 (by decide) (by decide)) (cwV 1 hts gX0_repeatsItself_X0_comesThrice rfl rfl rfl (by decide +kernel) ⟨Nat.le_of_ble_eq_true rfl, Nat.le_of_ble_eq_true rfl⟩) (g_preV (C := RX0) (B := (pA D cy a c9 t ch st len seg)) hK hB hB.1 rfl) rfl rfl hl.1 rfl (lv_room (Nat.le_of_ble_eq_true rfl)) dX0_repeatsItself_9 ⟨Nat.zero_le _, Nat.zero_le _⟩) ?_
            refine lv_if_eq (tgt := 17) hx hb dX0_repeatsItself_12 (by decide) (fun c_12'' => ?_) (fun c_12'' => ?_)
            · -- 12 t
              refine lv_iinc (v := 4) (lv' := [(1, .int 4), (0, .ref a)]) hx hb dX0_repeatsItself_17 hl (k := 0) rfl (by decide) (by decide) rfl (fun ls hl => ?_)
              refine lv_goto (tgt := 2) hx hb dX0_repeatsItself_20 (by decide) ?_
              refine lv_iload_n hx hb dX0_repeatsItself_2 rfl (lv_at hl 0 rfl) ?_
              refine lv_iconst (v := 3) hx hb dX0_repeatsItself_3 (by decide) ?_
              refine lv_icmp_gt (tgt := 23) hx hb dX0_repeatsItself_4 (by decide) (fun c_4''' => ?_) (fun c_4''' => ?_)
              · -- 4 t
                refine lv_iconst (v := 0) hx hb dX0_repeatsItself_23 (by decide) ?_
                exact g_zret hx hb hr hlocks rfl dX0_repeatsItself_24 (by simp only [repA, zb_0.mp c_12, zb_0.mp c_12', zb_0.mp c_12'', Bool.or_false]; rfl)
              · exact absurd c_4''' (by decide)
            · -- 12 f
              refine lv_iconst (v := 1) hx hb dX0_repeatsItself_15 (by decide) ?_
              exact g_zret hx hb hr hlocks rfl dX0_repeatsItself_16 (by simp only [repA, zb_n0.mp c_12'', Bool.or_true, Bool.true_or]; rfl)
        · -- 12 f
          refine lv_iconst (v := 1) hx hb dX0_repeatsItself_15 (by decide) ?_
          exact g_zret hx hb hr hlocks rfl dX0_repeatsItself_16 (by simp only [repA, zb_n0.mp c_12', Bool.or_true, Bool.true_or]; rfl)
    · -- 12 f
      refine lv_iconst (v := 1) hx hb dX0_repeatsItself_15 (by decide) ?_
      exact g_zret hx hb hr hlocks rfl dX0_repeatsItself_16 (by simp only [repA, zb_n0.mp c_12, Bool.or_true, Bool.true_or]; rfl)

set_option maxHeartbeats 4000000 in
set_option maxRecDepth 100000 in
/-- isSameAs(other) -/
theorem m_X0_isSameAs (l : Launch) (D : va_G) (cy : Nat → ClassId) (a c9 t : Nat) (ch st : Nat → Int32) (len seg : Nat) (a2 c2 t2 : Nat) (ch2 st2 : Nat → Int32) (len2 seg2 : Nat) (hlen : len ≤ 30) (hlen2 : len2 ≤ 30) (hch : chOK ch) (hch2 : chOK ch2) : Met l yX0_isSameAs wsX0_isSameAs ({ frames := 1, cells := 0, slots := 0, locals := 30 } : Room) (va_Pc [.ref a, .ref a2] (fun U => gK D cy U ∧ (pAA D cy a c9 t ch st len seg a2 c2 t2 ch2 st2 len2 seg2) U.heap)) (rQ (some (.int (zb (decide (len = len2) && sameF (atN ch len) (atN ch2 len2) len 0))))) 0 0 (fun _ => False) := by
  refine Met.ofW (cc := cX0_isSameAs) (maxL := 3) (ret := (some .boolean)) (by decide) rfl ?_
  intro p e s m args below meth c s₁ B9 hml hv
  obtain ⟨rfl, hK, hB⟩ := hv
  have hx := B9.exec
  have hb := B9.bytes
  have hr := B9.returns
  have hts := atoms_spec (ws := wsX0_isSameAs) B9.pre
  have hown : s.vm.findClass RX0 = some m.cls := findClass_of_methodNamed B9.named
  have hlocks := B9.notSynchronized
  have lk26 := hts (.fieldLink RX0 26 "Politecrawl$Address" "length" "I") (by decide +kernel)
  have inX0 : ∀ w ∈ u_ws RX0 TX0 4, w ∈ wsX0_isSameAs := by decide +kernel
  have hl := lv_entry ([.ref a, .ref a2]) (n := 3) (Nat.le_of_ble_eq_true rfl)
  rw [lg_entry_eq]
  generalize (lg_sl ([.ref a, .ref a2]) ++ List.replicate (3 - (lg_sl ([.ref a, .ref a2])).length) Slot.unset).toArray = ls at hl ⊢
  have hl : lv_has ls 3 [(0, .ref a), (1, .ref a2)] := hl
  obtain ⟨V, hV⟩ : ∃ V, V = zb (decide (len = len2) && sameF (atN ch len) (atN ch2 len2) len 0) := ⟨_, rfl⟩
  rw [← hV]
  refine lv_aload_n hx hb dX0_isSameAs_0 rfl (lv_at hl 0 rfl) ?_
  refine g_get (C := RX0) (T := TX0) (N := 4) (ci := 0) (fs := [.ref c9, .ref t, .int (nI len), .int (nI seg)]) hx hb hts inX0 hown hK hB.1.1 rfl 2 (by decide) lk26 rfl rfl dX0_isSameAs_1 ?_
  refine lv_aload_n hx hb dX0_isSameAs_4 rfl (lv_at hl 1 rfl) ?_
  refine g_get (C := RX0) (T := TX0) (N := 4) (ci := 0) (fs := [.ref c2, .ref t2, .int (nI len2), .int (nI seg2)]) hx hb hts inX0 hown hK hB.2.1 rfl 2 (by decide) lk26 rfl rfl dX0_isSameAs_5 ?_
  refine lv_icmp_eq (tgt := 13) hx hb dX0_isSameAs_8 (by decide) (fun c_8 => ?_) (fun c_8 => ?_)
  · -- 8 t
    refine lv_iconst (v := 0) hx hb dX0_isSameAs_13 (by decide) ?_
    refine lv_topi (fun y1 ey1 => ?_)
    obtain rfl : y1 = nI 0 := ey1.trans (nI_0.symm)
    refine lv_istore_n (lv' := [(2, .int (nI 0)), (0, .ref a), (1, .ref a2)]) hx hb dX0_isSameAs_14 rfl hl (by decide) rfl (fun ls hl => ?_)
    have hle0 : len = len2 := (nI_eq (by omega) (by omega)).mp c_8
    subst hle0
    rw [decide_eq_true rfl, Bool.true_and] at hV
    have loop : ∀ (k : Nat) (i : Nat) (ls : Array Slot), i ≤ len → len < i + k → V = zb (sameF (atN ch len) (atN ch2 len) (len - i) i) → lv_has ls 3 [(0, .ref a), (1, .ref a2), (2, .int (nI i))] → W p l e (headSpec wsX0_isSameAs ({ frames := 1, cells := 0, slots := 0, locals := 30 } : Room)).room s m ([.ref a, .ref a2] : List Value).toArray below meth c s.heap [] 0 0 (MQ below (rQ (some (.int V))) ([.ref a, .ref a2] : List Value).toArray s 0 0 (fun _ => False)) (F0 m 15 ls []) := by
      intro k
      induction k with
      | zero => intro i ls hi hk hV hl; exfalso; omega
      | succ k loop_ih =>
        intro i ls hi hk hV hl
        refine lv_iload_n hx hb dX0_isSameAs_15 rfl (lv_at hl 2 rfl) ?_
        refine lv_aload_n hx hb dX0_isSameAs_16 rfl (lv_at hl 0 rfl) ?_
        refine g_get (C := RX0) (T := TX0) (N := 4) (ci := 0) (fs := [.ref c9, .ref t, .int (nI len), .int (nI seg)]) hx hb hts inX0 hown hK hB.1.1 rfl 2 (by decide) lk26 rfl rfl dX0_isSameAs_17 ?_
        refine lv_icmp_ge (tgt := 44) hx hb dX0_isSameAs_20 (by decide) (fun c_20 => ?_) (fun c_20 => ?_)
        · -- 20 t
          have hle : len ≤ i := (nI_leI (by omega) (by omega)).mp c_20
          refine lv_iconst (v := 1) hx hb dX0_isSameAs_44 (by decide) ?_
          exact g_zret hx hb hr hlocks rfl dX0_isSameAs_45 (by rw [hV, show len - i = 0 by omega]; rfl)
        · -- 20 f
          have hlt : i < len := Nat.not_le.mp fun q => c_20 ((nI_leI (by omega) (by omega)).mpr q)
          obtain ⟨j, hj⟩ : ∃ j, len - i = j + 1 := ⟨len - i - 1, by omega⟩
          have hj2 : len - (i + 1) = j := by omega
          rw [hj, sameF] at hV
          refine lv_aload_n hx hb dX0_isSameAs_23 rfl (lv_at hl 0 rfl) ?_
          refine lv_iload_n hx hb dX0_isSameAs_24 rfl (lv_at hl 2 rfl) ?_
          refine g_csr (va_runV (As := [.int (nI i)]) (rest := []) ⟨hx, hb, hml, hown, hts⟩ (m_X0_at l D cy a c9 t ch st len seg hlen hch (nI i)) (cwV 1 hts gX0_isSameAs_X0_at rfl rfl rfl (by decide +kernel) ⟨Nat.le_of_ble_eq_true rfl, Nat.le_of_ble_eq_true rfl⟩) (g_preV (C := RX0) (B := (pA D cy a c9 t ch st len seg)) hK hB.1 hB.1.1 rfl) rfl rfl hl.1 rfl (lv_room (Nat.le_of_ble_eq_true rfl)) dX0_isSameAs_25 ⟨Nat.zero_le _, Nat.zero_le _⟩) ?_
          refine lv_topi (fun y2 ey2 => ?_)
          obtain rfl : y2 = atN ch len i := ey2.trans (atI_nI (by omega))
          refine lv_aload_n hx hb dX0_isSameAs_28 rfl (lv_at hl 1 rfl) ?_
          refine lv_iload_n hx hb dX0_isSameAs_29 rfl (lv_at hl 2 rfl) ?_
          refine g_csr (va_runV (As := [.int (nI i)]) (rest := [.int (atN ch len i)]) ⟨hx, hb, hml, hown, hts⟩ (m_X0_at l D cy a2 c2 t2 ch2 st2 len seg2 hlen hch2 (nI i)) (cwV 1 hts gX0_isSameAs_X0_at rfl rfl rfl (by decide +kernel) ⟨Nat.le_of_ble_eq_true rfl, Nat.le_of_ble_eq_true rfl⟩) (g_preV (C := RX0) (B := (pA D cy a2 c2 t2 ch2 st2 len seg2)) hK hB.2 hB.2.1 rfl) rfl rfl hl.1 rfl (lv_room (Nat.le_of_ble_eq_true rfl)) dX0_isSameAs_30 ⟨Nat.zero_le _, Nat.zero_le _⟩) ?_
          refine lv_topi (fun y3 ey3 => ?_)
          obtain rfl : y3 = atN ch2 len i := ey3.trans (atI_nI (by omega))
          refine lv_icmp_eq (tgt := 38) hx hb dX0_isSameAs_33 (by decide) (fun c_33 => ?_) (fun c_33 => ?_)
          · -- 33 t
            rw [if_pos c_33, ← hj2] at hV
            refine lv_iinc (v := nI (i + 1)) (lv' := [(2, .int (nI (i + 1))), (0, .ref a), (1, .ref a2)]) hx hb dX0_isSameAs_38 hl (k := 2) rfl (nI_1 i) (by decide) rfl (fun ls hl => ?_)
            refine lv_goto (tgt := 15) hx hb dX0_isSameAs_41 (by decide) ?_
            exact loop_ih (i + 1) ls (by omega) (by omega) hV (lv_sub hl [1, 2, 0] rfl)
          · -- 33 f
            rw [if_neg c_33] at hV
            refine lv_iconst (v := 0) hx hb dX0_isSameAs_36 (by decide) ?_
            exact g_zret hx hb hr hlocks rfl dX0_isSameAs_37 (by rw [hV]; rfl)
    exact loop (len + 1) 0 ls (Nat.zero_le _) (by omega) hV (lv_sub hl [1, 2, 0] rfl)
  · -- 8 f
    refine lv_iconst (v := 0) hx hb dX0_isSameAs_11 (by decide) ?_
    exact g_zret hx hb hr hlocks rfl dX0_isSameAs_12 (by rw [hV, decide_eq_false (fun q => c_8 (by rw [q])), Bool.false_and]; rfl)
