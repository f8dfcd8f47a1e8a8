/-! PolitecrawlModel: its state, and what its helpers read -/
/-- kinds of rows as the class's; 16 hosts, 17 sizes, 34 begin, 35 many, 36 shares; scalars: 30 thrown 31 span 32 used; numbers: 6 segments 7 begin 8 many -/
def cM : Nat → Nat := fun k => if k = 0 ∨ (6 ≤ k ∧ k ≤ 18) ∨ (34 ≤ k ∧ k ≤ 36) then 1 else 0
def mT (k : Nat) : Nat := if k = 14 ∨ k = 15 then 2 else 1
def mS (k : Nat) : Nat := if k = 18 then 900 else if k = 34 ∨ k = 35 then 15 else if k = 7 ∨ k = 8 ∨ k = 9 then 6 else 30
def rowM (σ : IT) (ν : NT) (k : Nat) : Nat → Int32 := if k = 16 then (fun j => nI (ν 5 j)) else if k = 17 then (fun j => nI (ν 3 j)) else if k = 34 then (fun j => nI (ν 7 j)) else if k = 35 then (fun j => nI (ν 8 j)) else σ k
def eM (cy : Nat → ClassId) (ad : NT) (σ : IT) (ν : NT) : Nat → Nat → va_E := fun k _ => if k = 0 then .inr (4, [.int (σ 30 0), .int (σ 0 0), .int (nI (ν 1 0)), .ref (ad 6 0), .ref (ad 7 0), .ref (ad 8 0), .ref (ad 9 0), .int (σ 1 0), .int (σ 2 0), .int (σ 3 0), .int (σ 31 0), .int (σ 32 0), .int (nI (ν 0 0)), .ref (ad 18 0), .ref (ad 17 0), .ref (ad 16 0), .ref (ad 10 0), .ref (ad 11 0), .ref (ad 12 0), .ref (ad 13 0), .ref (ad 14 0), .ref (ad 15 0), .int (nI (ν 6 0)), .ref (ad 34 0), .ref (ad 35 0), .ref (ad 36 0)])
  else .inl (cy (mT k), mS k, .inl (rowM σ ν k))
def MW (D : va_G) (cy : Nat → ClassId) (ad : NT) (σ : IT) (ν : NT) : Heap → Prop := fun H => wP D cM ad (eM cy ad σ ν) H
def MI (σ : IT) (ν : NT) : Prop := ν 0 0 ≤ 30 ∧ ν 1 0 ≤ 30 ∧ ∀ p, p < ν 0 0 → ν 5 p < 6 ∧ ν 3 p ≤ 30
def inB (v a b : Int32) : Bool := !decide (v < a) && !decide (b < v)
def hostB (h : Int32) : Bool := inB h 0 5
def pageB (ν : NT) (p : Int32) : Bool := inB p 0 (nI (ν 0 0) - 1)
def leftM (σ : IT) : Int32 := if (if σ 31 0 = σ 0 0 / 100 then σ 32 0 else 0) < σ 3 0 then σ 3 0 - (if σ 31 0 = σ 0 0 / 100 then σ 32 0 else 0) else 0
def openB (σ : IT) (ν : NT) (p : Nat) : Bool := keptB (σ 14 p) (σ 15 p) && (!decide (σ 0 0 < σ 11 p) && (!decide (σ 0 0 < σ 9 (ν 5 p)) && !decide (leftM σ ≤ 0)))
def addsB (σ : IT) (p q : Nat) : Bool := decide (gA (σ 10 q) (σ 13 q) * gB (σ 36 p) (σ 13 p) < gA (σ 10 p) (σ 13 p) * gB (σ 36 q) (σ 13 q))
theorem idx_page {ν : NT} {p : Int32} (h30 : ν 0 0 ≤ 30) (h : pageB ν p = true) : ∃ q, q < ν 0 0 ∧ p = nI q := by
  simp only [pageB, inB, Bool.and_eq_true, Bool.not_eq_true', decide_eq_false_iff_not] at h
  obtain ⟨h1, h2⟩ := h
  obtain ⟨j, hj, rfl⟩ := nI_of h1
  refine ⟨j, ?_, rfl⟩
  rcases Nat.eq_zero_or_pos (ν 0 0) with hz | hz
  · rw [hz] at h2
    exact absurd (show nI 0 - 1 < nI j by
      rw [Int32.lt_iff_toInt_lt, nI_toInt hj]
      have : (nI 0 - 1).toInt = -1 := by decide
      omega) h2
  · obtain ⟨n, hn⟩ : ∃ n, ν 0 0 = n + 1 := ⟨ν 0 0 - 1, by omega⟩
    rw [hn, nI_pred] at h2
    rw [nI_ltI (by omega) hj] at h2
    omega
theorem idx_page' {ν : NT} {q : Nat} (h30 : ν 0 0 ≤ 30) (hq : q < ν 0 0) : pageB ν (nI q) = true := by
  simp only [pageB, inB, Bool.and_eq_true, Bool.not_eq_true', decide_eq_false_iff_not]
  refine ⟨nI_pos (by omega), ?_⟩
  obtain ⟨n, hn⟩ : ∃ n, ν 0 0 = n + 1 := ⟨ν 0 0 - 1, by omega⟩
  rw [hn, nI_pred, nI_ltI (by omega) (by omega)]
  omega
theorem idx_host {h : Int32} (hh : hostB h = true) : ∃ q, q < 6 ∧ h = nI q := by
  simp only [hostB, inB, Bool.and_eq_true, Bool.not_eq_true', decide_eq_false_iff_not] at hh
  obtain ⟨h1, h2⟩ := hh
  obtain ⟨j, hj, rfl⟩ := nI_of h1
  refine ⟨j, ?_, rfl⟩
  have h3 : ¬ nI 5 < nI j := h2
  rw [nI_ltI (by decide) hj] at h3
  omega
theorem idx_host' {q : Nat} (hq : q < 6) : hostB (nI q) = true := by
  simp only [hostB, inB, Bool.and_eq_true, Bool.not_eq_true', decide_eq_false_iff_not]
  refine ⟨nI_pos (by omega), fun z => ?_⟩
  have h3 : nI 5 < nI q := z
  rw [nI_ltI (by decide) (by omega)] at h3
  omega

set_option maxHeartbeats 4000000 in
set_option maxRecDepth 100000 in
/-- in(v, a, b) -/
theorem m_X4_in (l : Launch) (D : va_G) (cy : Nat → ClassId) (v a b : Int32) : Met l yX4_in wsX4_in ({ frames := 0, cells := 0, slots := 0, locals := 0 } : Room) (va_Pc [.int v, .int a, .int b] (fun U => gK D cy U ∧ (fun _ => True) U.heap)) (rQ (some (.int (zb (inB v a b))))) 0 0 (fun _ => False) := by
  refine Met.ofW (cc := cX4_in) (maxL := 3) (ret := (some .boolean)) (by decide) rfl ?_
  intro p e s m args below meth c s₁ B9 hml hv
  obtain ⟨rfl, hK, hB⟩ := hv
  have hx := B9.exec
  have hb := B9.bytes
  have hr := B9.returns
  have hts := atoms_spec (ws := wsX4_in) B9.pre
  have hown : s.vm.findClass RX4 = some m.cls := findClass_of_methodNamed B9.named
  have hlocks := B9.notSynchronized
  have hl := lv_entry ([.int v, .int a, .int b]) (n := 3) (Nat.le_of_ble_eq_true rfl)
  rw [lg_entry_eq]
  generalize (lg_sl ([.int v, .int a, .int b]) ++ List.replicate (3 - (lg_sl ([.int v, .int a, .int b])).length) Slot.unset).toArray = ls at hl ⊢
  have hl : lv_has ls 3 [(0, .int v), (1, .int a), (2, .int b)] := hl
  refine lv_iload_n hx hb dX4_in_0 rfl (lv_at hl 0 rfl) ?_
  refine lv_iload_n hx hb dX4_in_1 rfl (lv_at hl 1 rfl) ?_
  refine lv_icmp_lt (tgt := 14) hx hb dX4_in_2 (by decide) (fun c_2 => ?_) (fun c_2 => ?_)
  · -- 2 t
    refine lv_iconst (v := 0) hx hb dX4_in_14 (by decide) ?_
    exact g_zret hx hb hr hlocks rfl dX4_in_15 (by simp [inB, zb, c_2])
  · -- 2 f
    refine lv_iload_n hx hb dX4_in_5 rfl (lv_at hl 0 rfl) ?_
    refine lv_iload_n hx hb dX4_in_6 rfl (lv_at hl 2 rfl) ?_
    refine lv_icmp_gt (tgt := 14) hx hb dX4_in_7 (by decide) (fun c_7 => ?_) (fun c_7 => ?_)
    · -- 7 t
      refine lv_iconst (v := 0) hx hb dX4_in_14 (by decide) ?_
      exact g_zret hx hb hr hlocks rfl dX4_in_15 (by simp [inB, zb, c_2, c_7])
    · -- 7 f
      refine lv_iconst (v := 1) hx hb dX4_in_10 (by decide) ?_
      refine lv_goto (tgt := 15) hx hb dX4_in_11 (by decide) ?_
      exact g_zret hx hb hr hlocks rfl dX4_in_15 (by simp [inB, zb, c_2, c_7])

set_option maxHeartbeats 4000000 in
set_option maxRecDepth 100000 in
/-- isHost(h) -/
theorem m_X4_isHost (l : Launch) (D : va_G) (cy : Nat → ClassId) (h : Int32) : Met l yX4_isHost wsX4_isHost ({ frames := 1, cells := 0, slots := 0, locals := 30 } : Room) (va_Pc [.int h] (fun U => gK D cy U ∧ (fun _ => True) U.heap)) (rQ (some (.int (zb (hostB h))))) 0 0 (fun _ => False) := by
  refine Met.ofW (cc := cX4_isHost) (maxL := 1) (ret := (some .boolean)) (by decide) rfl ?_
  intro p e s m args below meth c s₁ B9 hml hv
  obtain ⟨rfl, hK, hB⟩ := hv
  have hx := B9.exec
  have hb := B9.bytes
  have hr := B9.returns
  have hts := atoms_spec (ws := wsX4_isHost) B9.pre
  have hown : s.vm.findClass RX4 = some m.cls := findClass_of_methodNamed B9.named
  have hlocks := B9.notSynchronized
  have hl := lv_entry ([.int h]) (n := 1) (Nat.le_of_ble_eq_true rfl)
  rw [lg_entry_eq]
  generalize (lg_sl ([.int h]) ++ List.replicate (1 - (lg_sl ([.int h])).length) Slot.unset).toArray = ls at hl ⊢
  have hl : lv_has ls 1 [(0, .int h)] := hl
  refine lv_iload_n hx hb dX4_isHost_0 rfl (lv_at hl 0 rfl) ?_
  refine lv_iconst (v := 0) hx hb dX4_isHost_1 (by decide) ?_
  refine lv_iconst (v := 5) hx hb dX4_isHost_2 (by decide) ?_
  refine g_csr (va_runS (As := [.int h, .int 0, .int 5]) (rest := []) ⟨hx, hb, hml, hown, hts⟩ (m_X4_in l D cy (h) (0) (5)) (va_cwS 3 hts gX4_isHost_X4_in rfl rfl rfl (by decide +kernel) ⟨Nat.le_of_ble_eq_true rfl, Nat.le_of_ble_eq_true rfl⟩) (g_preS (B := (fun _ => True)) hK trivial) rfl rfl hl.1 rfl (lv_room (Nat.le_of_ble_eq_true rfl)) dX4_isHost_3 ⟨Nat.zero_le _, Nat.zero_le _⟩) ?_
  exact g_zret hx hb hr hlocks (by cases inB h 0 5 <;> rfl) dX4_isHost_6 rfl

set_option maxHeartbeats 4000000 in
set_option maxRecDepth 100000 in
/-- model: isPage -/
theorem m_X4_isPage (l : Launch) (D : va_G) (cy : Nat → ClassId) (ad : NT) (σ : IT) (ν : NT) (q : Int32) : Met l yX4_isPage wsX4_isPage ({ frames := 1, cells := 0, slots := 0, locals := 30 } : Room) (va_Pc [.ref (ad 0 0), .int q] (fun U => gK D cy U ∧ (MW D cy ad σ ν) U.heap)) (rQ (some (.int (zb (pageB ν q))))) 0 0 (fun _ => False) := by
  refine Met.ofW (cc := cX4_isPage) (maxL := 2) (ret := (some .boolean)) (by decide) rfl ?_
  intro p e s m args below meth c s₁ B9 hml hv
  obtain ⟨rfl, hK, hB⟩ := hv
  have hx := B9.exec
  have hb := B9.bytes
  have hr := B9.returns
  have hts := atoms_spec (ws := wsX4_isPage) B9.pre
  have hown : s.vm.findClass RX4 = some m.cls := findClass_of_methodNamed B9.named
  have hlocks := B9.notSynchronized
  have lk76 := hts (.fieldLink RX4 76 "PolitecrawlModel" "pages" "I") (by decide +kernel)
  have inX4 : ∀ w ∈ u_ws RX4 TX4 26, w ∈ wsX4_isPage := by decide +kernel
  have hl := lv_entry ([.ref (ad 0 0), .int q]) (n := 2) (Nat.le_of_ble_eq_true rfl)
  rw [lg_entry_eq]
  generalize (lg_sl ([.ref (ad 0 0), .int q]) ++ List.replicate (2 - (lg_sl ([.ref (ad 0 0), .int q])).length) Slot.unset).toArray = ls at hl ⊢
  have hl : lv_has ls 2 [(0, .ref (ad 0 0)), (1, .int q)] := hl
  refine lv_iload_n hx hb dX4_isPage_0 rfl (lv_at hl 1 rfl) ?_
  refine lv_iconst (v := 0) hx hb dX4_isPage_1 (by decide) ?_
  refine lv_aload_n hx hb dX4_isPage_2 rfl (lv_at hl 0 rfl) ?_
  refine g_get (C := RX4) (T := TX4) (N := 26) (ci := 4) (fs := [.int (σ 30 0), .int (σ 0 0), .int (nI (ν 1 0)), .ref (ad 6 0), .ref (ad 7 0), .ref (ad 8 0), .ref (ad 9 0), .int (σ 1 0), .int (σ 2 0), .int (σ 3 0), .int (σ 31 0), .int (σ 32 0), .int (nI (ν 0 0)), .ref (ad 18 0), .ref (ad 17 0), .ref (ad 16 0), .ref (ad 10 0), .ref (ad 11 0), .ref (ad 12 0), .ref (ad 13 0), .ref (ad 14 0), .ref (ad 15 0), .int (nI (ν 6 0)), .ref (ad 34 0), .ref (ad 35 0), .ref (ad 36 0)]) hx hb hts inX4 hown hK (hB 0 0 Nat.zero_lt_one) rfl 12 (by decide) lk76 rfl rfl dX4_isPage_3 ?_
  refine lv_iconst (v := 1) hx hb dX4_isPage_6 (by decide) ?_
  refine lv_isub hx hb dX4_isPage_7 ?_
  refine g_csr (va_runS (As := [.int q, .int 0, .int ((nI (ν 0 0)) - 1)]) (rest := []) ⟨hx, hb, hml, hown, hts⟩ (m_X4_in l D cy (q) (0) ((nI (ν 0 0)) - 1)) (va_cwS 3 hts gX4_isPage_X4_in rfl rfl rfl (by decide +kernel) ⟨Nat.le_of_ble_eq_true rfl, Nat.le_of_ble_eq_true rfl⟩) (g_preS (B := (fun _ => True)) hK trivial) rfl rfl hl.1 rfl (lv_room (Nat.le_of_ble_eq_true rfl)) dX4_isPage_8 ⟨Nat.zero_le _, Nat.zero_le _⟩) ?_
  exact g_zret hx hb hr hlocks (by cases inB q 0 (nI (ν 0 0) - 1) <;> rfl) dX4_isPage_11 rfl

set_option maxHeartbeats 4000000 in
set_option maxRecDepth 100000 in
/-- model: thrown -/
theorem m_X4_thrown (l : Launch) (D : va_G) (cy : Nat → ClassId) (ad : NT) (σ : IT) (ν : NT) : Met l yX4_thrown wsX4_thrown ({ frames := 0, cells := 0, slots := 0, locals := 0 } : Room) (va_Pc [.ref (ad 0 0)] (fun U => gK D cy U ∧ (MW D cy ad σ ν) U.heap)) (rQ (some (.int (σ 30 0)))) 0 0 (fun _ => False) := by
  refine Met.ofW (cc := cX4_thrown) (maxL := 1) (ret := (some .int)) (by decide) rfl ?_
  intro p e s m args below meth c s₁ B9 hml hv
  obtain ⟨rfl, hK, hB⟩ := hv
  have hx := B9.exec
  have hb := B9.bytes
  have hr := B9.returns
  have hts := atoms_spec (ws := wsX4_thrown) B9.pre
  have hown : s.vm.findClass RX4 = some m.cls := findClass_of_methodNamed B9.named
  have hlocks := B9.notSynchronized
  have lk69 := hts (.fieldLink RX4 69 "PolitecrawlModel" "thrown" "I") (by decide +kernel)
  have inX4 : ∀ w ∈ u_ws RX4 TX4 26, w ∈ wsX4_thrown := by decide +kernel
  have hl := lv_entry ([.ref (ad 0 0)]) (n := 1) (Nat.le_of_ble_eq_true rfl)
  rw [lg_entry_eq]
  generalize (lg_sl ([.ref (ad 0 0)]) ++ List.replicate (1 - (lg_sl ([.ref (ad 0 0)])).length) Slot.unset).toArray = ls at hl ⊢
  have hl : lv_has ls 1 [(0, .ref (ad 0 0))] := hl
  refine lv_aload_n hx hb dX4_thrown_0 rfl (lv_at hl 0 rfl) ?_
  refine g_get (C := RX4) (T := TX4) (N := 26) (ci := 4) (fs := [.int (σ 30 0), .int (σ 0 0), .int (nI (ν 1 0)), .ref (ad 6 0), .ref (ad 7 0), .ref (ad 8 0), .ref (ad 9 0), .int (σ 1 0), .int (σ 2 0), .int (σ 3 0), .int (σ 31 0), .int (σ 32 0), .int (nI (ν 0 0)), .ref (ad 18 0), .ref (ad 17 0), .ref (ad 16 0), .ref (ad 10 0), .ref (ad 11 0), .ref (ad 12 0), .ref (ad 13 0), .ref (ad 14 0), .ref (ad 15 0), .int (nI (ν 6 0)), .ref (ad 34 0), .ref (ad 35 0), .ref (ad 36 0)]) hx hb hts inX4 hown hK (hB 0 0 Nat.zero_lt_one) rfl 0 (by decide) lk69 rfl rfl dX4_thrown_1 ?_
  exact g_iret hx hb hr hlocks dX4_thrown_4 rfl

set_option maxHeartbeats 4000000 in
set_option maxRecDepth 100000 in
/-- model: counts -/
theorem m_X4_counts (l : Launch) (D : va_G) (cy : Nat → ClassId) (ad : NT) (σ : IT) (ν : NT) (q : Nat) (hq : q < 30) : Met l yX4_counts wsX4_counts ({ frames := 0, cells := 0, slots := 0, locals := 0 } : Room) (va_Pc [.ref (ad 0 0), .int (nI q)] (fun U => gK D cy U ∧ (MW D cy ad σ ν) U.heap)) (rQ (some (.int (zb (keptB (σ 14 q) (σ 15 q)))))) 0 0 (fun _ => False) := by
  refine Met.ofW (cc := cX4_counts) (maxL := 2) (ret := (some .boolean)) (by decide) rfl ?_
  intro p e s m args below meth c s₁ B9 hml hv
  obtain ⟨rfl, hK, hB⟩ := hv
  have hx := B9.exec
  have hb := B9.bytes
  have hr := B9.returns
  have hts := atoms_spec (ws := wsX4_counts) B9.pre
  have hown : s.vm.findClass RX4 = some m.cls := findClass_of_methodNamed B9.named
  have hlocks := B9.notSynchronized
  have lk53 := hts (.fieldLink RX4 53 "PolitecrawlModel" "gone" "[Z") (by decide +kernel)
  have inX4 : ∀ w ∈ u_ws RX4 TX4 26, w ∈ wsX4_counts := by decide +kernel
  have lk57 := hts (.fieldLink RX4 57 "PolitecrawlModel" "lost" "[Z") (by decide +kernel)
  have hl := lv_entry ([.ref (ad 0 0), .int (nI q)]) (n := 2) (Nat.le_of_ble_eq_true rfl)
  rw [lg_entry_eq]
  generalize (lg_sl ([.ref (ad 0 0), .int (nI q)]) ++ List.replicate (2 - (lg_sl ([.ref (ad 0 0), .int (nI q)])).length) Slot.unset).toArray = ls at hl ⊢
  have hl : lv_has ls 2 [(0, .ref (ad 0 0)), (1, .int (nI q))] := hl
  refine lv_aload_n hx hb dX4_counts_0 rfl (lv_at hl 0 rfl) ?_
  refine g_get (C := RX4) (T := TX4) (N := 26) (ci := 4) (fs := [.int (σ 30 0), .int (σ 0 0), .int (nI (ν 1 0)), .ref (ad 6 0), .ref (ad 7 0), .ref (ad 8 0), .ref (ad 9 0), .int (σ 1 0), .int (σ 2 0), .int (σ 3 0), .int (σ 31 0), .int (σ 32 0), .int (nI (ν 0 0)), .ref (ad 18 0), .ref (ad 17 0), .ref (ad 16 0), .ref (ad 10 0), .ref (ad 11 0), .ref (ad 12 0), .ref (ad 13 0), .ref (ad 14 0), .ref (ad 15 0), .int (nI (ν 6 0)), .ref (ad 34 0), .ref (ad 35 0), .ref (ad 36 0)]) hx hb hts inX4 hown hK (hB 0 0 Nat.zero_lt_one) rfl 20 (by decide) lk53 rfl rfl dX4_counts_1 ?_
  refine lv_iload_n hx hb dX4_counts_4 rfl (lv_at hl 1 rfl) ?_
  refine g_zald (f := σ 14) (x := σ 14 q) hx hb hK (hB 14 0 Nat.zero_lt_one) (vp_in_nI (N := 30) (by omega) (by decide)) (by rw [cl_nI (by omega)]) dX4_counts_5 ?_
  refine lv_if_ne (tgt := 22) hx hb dX4_counts_6 (by decide) (fun c_6 => ?_) (fun c_6 => ?_)
  · -- 6 t
    refine lv_iconst (v := 0) hx hb dX4_counts_22 (by decide) ?_
    exact g_zret hx hb hr hlocks rfl dX4_counts_23 (by simp [keptB, zb, c_6])
  · -- 6 f
    refine lv_aload_n hx hb dX4_counts_9 rfl (lv_at hl 0 rfl) ?_
    refine g_get (C := RX4) (T := TX4) (N := 26) (ci := 4) (fs := [.int (σ 30 0), .int (σ 0 0), .int (nI (ν 1 0)), .ref (ad 6 0), .ref (ad 7 0), .ref (ad 8 0), .ref (ad 9 0), .int (σ 1 0), .int (σ 2 0), .int (σ 3 0), .int (σ 31 0), .int (σ 32 0), .int (nI (ν 0 0)), .ref (ad 18 0), .ref (ad 17 0), .ref (ad 16 0), .ref (ad 10 0), .ref (ad 11 0), .ref (ad 12 0), .ref (ad 13 0), .ref (ad 14 0), .ref (ad 15 0), .int (nI (ν 6 0)), .ref (ad 34 0), .ref (ad 35 0), .ref (ad 36 0)]) hx hb hts inX4 hown hK (hB 0 0 Nat.zero_lt_one) rfl 21 (by decide) lk57 rfl rfl dX4_counts_10 ?_
    refine lv_iload_n hx hb dX4_counts_13 rfl (lv_at hl 1 rfl) ?_
    refine g_zald (f := σ 15) (x := σ 15 q) hx hb hK (hB 15 0 Nat.zero_lt_one) (vp_in_nI (N := 30) (by omega) (by decide)) (by rw [cl_nI (by omega)]) dX4_counts_14 ?_
    refine lv_if_ne (tgt := 22) hx hb dX4_counts_15 (by decide) (fun c_15 => ?_) (fun c_15 => ?_)
    · -- 15 t
      refine lv_iconst (v := 0) hx hb dX4_counts_22 (by decide) ?_
      exact g_zret hx hb hr hlocks rfl dX4_counts_23 (by simp [keptB, zb, c_6, c_15])
    · -- 15 f
      refine lv_iconst (v := 1) hx hb dX4_counts_18 (by decide) ?_
      refine lv_goto (tgt := 23) hx hb dX4_counts_19 (by decide) ?_
      exact g_zret hx hb hr hlocks rfl dX4_counts_23 (by simp [keptB, zb, c_6, c_15])

set_option maxHeartbeats 4000000 in
set_option maxRecDepth 100000 in
/-- model: left -/
theorem m_X4_left (l : Launch) (D : va_G) (cy : Nat → ClassId) (ad : NT) (σ : IT) (ν : NT) : Met l yX4_left wsX4_left ({ frames := 0, cells := 0, slots := 0, locals := 0 } : Room) (va_Pc [.ref (ad 0 0)] (fun U => gK D cy U ∧ (MW D cy ad σ ν) U.heap)) (rQ (some (.int (leftM σ)))) 0 0 (fun _ => False) := by
  refine Met.ofW (cc := cX4_left) (maxL := 2) (ret := (some .int)) (by decide) rfl ?_
  intro p e s m args below meth c s₁ B9 hml hv
  obtain ⟨rfl, hK, hB⟩ := hv
  have hx := B9.exec
  have hb := B9.bytes
  have hr := B9.returns
  have hts := atoms_spec (ws := wsX4_left) B9.pre
  have hown : s.vm.findClass RX4 = some m.cls := findClass_of_methodNamed B9.named
  have hlocks := B9.notSynchronized
  have lk119 := hts (.fieldLink RX4 119 "PolitecrawlModel" "span" "I") (by decide +kernel)
  have inX4 : ∀ w ∈ u_ws RX4 TX4 26, w ∈ wsX4_left := by decide +kernel
  have lk110 := hts (.fieldLink RX4 110 "PolitecrawlModel" "now" "I") (by decide +kernel)
  have lk122 := hts (.fieldLink RX4 122 "PolitecrawlModel" "used" "I") (by decide +kernel)
  have lk29 := hts (.fieldLink RX4 29 "PolitecrawlModel" "budget" "I") (by decide +kernel)
  have hl := lv_entry ([.ref (ad 0 0)]) (n := 2) (Nat.le_of_ble_eq_true rfl)
  rw [lg_entry_eq]
  generalize (lg_sl ([.ref (ad 0 0)]) ++ List.replicate (2 - (lg_sl ([.ref (ad 0 0)])).length) Slot.unset).toArray = ls at hl ⊢
  have hl : lv_has ls 2 [(0, .ref (ad 0 0))] := hl
  refine lv_aload_n hx hb dX4_left_0 rfl (lv_at hl 0 rfl) ?_
  refine g_get (C := RX4) (T := TX4) (N := 26) (ci := 4) (fs := [.int (σ 30 0), .int (σ 0 0), .int (nI (ν 1 0)), .ref (ad 6 0), .ref (ad 7 0), .ref (ad 8 0), .ref (ad 9 0), .int (σ 1 0), .int (σ 2 0), .int (σ 3 0), .int (σ 31 0), .int (σ 32 0), .int (nI (ν 0 0)), .ref (ad 18 0), .ref (ad 17 0), .ref (ad 16 0), .ref (ad 10 0), .ref (ad 11 0), .ref (ad 12 0), .ref (ad 13 0), .ref (ad 14 0), .ref (ad 15 0), .int (nI (ν 6 0)), .ref (ad 34 0), .ref (ad 35 0), .ref (ad 36 0)]) hx hb hts inX4 hown hK (hB 0 0 Nat.zero_lt_one) rfl 10 (by decide) lk119 rfl rfl dX4_left_1 ?_
  refine lv_aload_n hx hb dX4_left_4 rfl (lv_at hl 0 rfl) ?_
  refine g_get (C := RX4) (T := TX4) (N := 26) (ci := 4) (fs := [.int (σ 30 0), .int (σ 0 0), .int (nI (ν 1 0)), .ref (ad 6 0), .ref (ad 7 0), .ref (ad 8 0), .ref (ad 9 0), .int (σ 1 0), .int (σ 2 0), .int (σ 3 0), .int (σ 31 0), .int (σ 32 0), .int (nI (ν 0 0)), .ref (ad 18 0), .ref (ad 17 0), .ref (ad 16 0), .ref (ad 10 0), .ref (ad 11 0), .ref (ad 12 0), .ref (ad 13 0), .ref (ad 14 0), .ref (ad 15 0), .int (nI (ν 6 0)), .ref (ad 34 0), .ref (ad 35 0), .ref (ad 36 0)]) hx hb hts inX4 hown hK (hB 0 0 Nat.zero_lt_one) rfl 1 (by decide) lk110 rfl rfl dX4_left_5 ?_
  refine lv_bipush (v := 100) hx hb dX4_left_8 (by decide) ?_
  refine lv_idiv hx hb dX4_left_10 (by decide) ?_
  refine lv_icmp_ne (tgt := 21) hx hb dX4_left_11 (by decide) (fun c_11 => ?_) (fun c_11 => ?_)
  · -- 11 t
    refine lv_iconst (v := 0) hx hb dX4_left_21 (by decide) ?_
    refine lv_istore_n (lv' := [(1, .int 0), (0, .ref (ad 0 0))]) hx hb dX4_left_22 rfl hl (by decide) rfl (fun ls hl => ?_)
    refine lv_iload_n hx hb dX4_left_23 rfl (lv_at hl 0 rfl) ?_
    refine lv_aload_n hx hb dX4_left_24 rfl (lv_at hl 1 rfl) ?_
    refine g_get (C := RX4) (T := TX4) (N := 26) (ci := 4) (fs := [.int (σ 30 0), .int (σ 0 0), .int (nI (ν 1 0)), .ref (ad 6 0), .ref (ad 7 0), .ref (ad 8 0), .ref (ad 9 0), .int (σ 1 0), .int (σ 2 0), .int (σ 3 0), .int (σ 31 0), .int (σ 32 0), .int (nI (ν 0 0)), .ref (ad 18 0), .ref (ad 17 0), .ref (ad 16 0), .ref (ad 10 0), .ref (ad 11 0), .ref (ad 12 0), .ref (ad 13 0), .ref (ad 14 0), .ref (ad 15 0), .int (nI (ν 6 0)), .ref (ad 34 0), .ref (ad 35 0), .ref (ad 36 0)]) hx hb hts inX4 hown hK (hB 0 0 Nat.zero_lt_one) rfl 9 (by decide) lk29 rfl rfl dX4_left_25 ?_
    refine lv_icmp_ge (tgt := 40) hx hb dX4_left_28 (by decide) (fun c_28 => ?_) (fun c_28 => ?_)
    · -- 28 t
      refine lv_iconst (v := 0) hx hb dX4_left_40 (by decide) ?_
      exact g_iret hx hb hr hlocks dX4_left_41 (by simp only [leftM, if_neg c_11, if_neg (Int32.not_lt.mpr c_28)])
    · -- 28 f
      refine lv_aload_n hx hb dX4_left_31 rfl (lv_at hl 1 rfl) ?_
      refine g_get (C := RX4) (T := TX4) (N := 26) (ci := 4) (fs := [.int (σ 30 0), .int (σ 0 0), .int (nI (ν 1 0)), .ref (ad 6 0), .ref (ad 7 0), .ref (ad 8 0), .ref (ad 9 0), .int (σ 1 0), .int (σ 2 0), .int (σ 3 0), .int (σ 31 0), .int (σ 32 0), .int (nI (ν 0 0)), .ref (ad 18 0), .ref (ad 17 0), .ref (ad 16 0), .ref (ad 10 0), .ref (ad 11 0), .ref (ad 12 0), .ref (ad 13 0), .ref (ad 14 0), .ref (ad 15 0), .int (nI (ν 6 0)), .ref (ad 34 0), .ref (ad 35 0), .ref (ad 36 0)]) hx hb hts inX4 hown hK (hB 0 0 Nat.zero_lt_one) rfl 9 (by decide) lk29 rfl rfl dX4_left_32 ?_
      refine lv_iload_n hx hb dX4_left_35 rfl (lv_at hl 0 rfl) ?_
      refine lv_isub hx hb dX4_left_36 ?_
      refine lv_goto (tgt := 41) hx hb dX4_left_37 (by decide) ?_
      exact g_iret hx hb hr hlocks dX4_left_41 (by simp only [leftM, if_neg c_11, if_pos (Int32.not_le.mp c_28)])
  · -- 11 f
    refine lv_aload_n hx hb dX4_left_14 rfl (lv_at hl 0 rfl) ?_
    refine g_get (C := RX4) (T := TX4) (N := 26) (ci := 4) (fs := [.int (σ 30 0), .int (σ 0 0), .int (nI (ν 1 0)), .ref (ad 6 0), .ref (ad 7 0), .ref (ad 8 0), .ref (ad 9 0), .int (σ 1 0), .int (σ 2 0), .int (σ 3 0), .int (σ 31 0), .int (σ 32 0), .int (nI (ν 0 0)), .ref (ad 18 0), .ref (ad 17 0), .ref (ad 16 0), .ref (ad 10 0), .ref (ad 11 0), .ref (ad 12 0), .ref (ad 13 0), .ref (ad 14 0), .ref (ad 15 0), .int (nI (ν 6 0)), .ref (ad 34 0), .ref (ad 35 0), .ref (ad 36 0)]) hx hb hts inX4 hown hK (hB 0 0 Nat.zero_lt_one) rfl 11 (by decide) lk122 rfl rfl dX4_left_15 ?_
    refine lv_goto (tgt := 22) hx hb dX4_left_18 (by decide) ?_
    refine lv_istore_n (lv' := [(1, .int (σ 32 0)), (0, .ref (ad 0 0))]) hx hb dX4_left_22 rfl hl (by decide) rfl (fun ls hl => ?_)
    refine lv_iload_n hx hb dX4_left_23 rfl (lv_at hl 0 rfl) ?_
    refine lv_aload_n hx hb dX4_left_24 rfl (lv_at hl 1 rfl) ?_
    refine g_get (C := RX4) (T := TX4) (N := 26) (ci := 4) (fs := [.int (σ 30 0), .int (σ 0 0), .int (nI (ν 1 0)), .ref (ad 6 0), .ref (ad 7 0), .ref (ad 8 0), .ref (ad 9 0), .int (σ 1 0), .int (σ 2 0), .int (σ 3 0), .int (σ 31 0), .int (σ 32 0), .int (nI (ν 0 0)), .ref (ad 18 0), .ref (ad 17 0), .ref (ad 16 0), .ref (ad 10 0), .ref (ad 11 0), .ref (ad 12 0), .ref (ad 13 0), .ref (ad 14 0), .ref (ad 15 0), .int (nI (ν 6 0)), .ref (ad 34 0), .ref (ad 35 0), .ref (ad 36 0)]) hx hb hts inX4 hown hK (hB 0 0 Nat.zero_lt_one) rfl 9 (by decide) lk29 rfl rfl dX4_left_25 ?_
    refine lv_icmp_ge (tgt := 40) hx hb dX4_left_28 (by decide) (fun c_28 => ?_) (fun c_28 => ?_)
    · -- 28 t
      refine lv_iconst (v := 0) hx hb dX4_left_40 (by decide) ?_
      exact g_iret hx hb hr hlocks dX4_left_41 (by simp only [leftM, if_pos c_11, if_neg (Int32.not_lt.mpr c_28)])
    · -- 28 f
      refine lv_aload_n hx hb dX4_left_31 rfl (lv_at hl 1 rfl) ?_
      refine g_get (C := RX4) (T := TX4) (N := 26) (ci := 4) (fs := [.int (σ 30 0), .int (σ 0 0), .int (nI (ν 1 0)), .ref (ad 6 0), .ref (ad 7 0), .ref (ad 8 0), .ref (ad 9 0), .int (σ 1 0), .int (σ 2 0), .int (σ 3 0), .int (σ 31 0), .int (σ 32 0), .int (nI (ν 0 0)), .ref (ad 18 0), .ref (ad 17 0), .ref (ad 16 0), .ref (ad 10 0), .ref (ad 11 0), .ref (ad 12 0), .ref (ad 13 0), .ref (ad 14 0), .ref (ad 15 0), .int (nI (ν 6 0)), .ref (ad 34 0), .ref (ad 35 0), .ref (ad 36 0)]) hx hb hts inX4 hown hK (hB 0 0 Nat.zero_lt_one) rfl 9 (by decide) lk29 rfl rfl dX4_left_32 ?_
      refine lv_iload_n hx hb dX4_left_35 rfl (lv_at hl 0 rfl) ?_
      refine lv_isub hx hb dX4_left_36 ?_
      refine lv_goto (tgt := 41) hx hb dX4_left_37 (by decide) ?_
      exact g_iret hx hb hr hlocks dX4_left_41 (by simp only [leftM, if_pos c_11, if_pos (Int32.not_le.mp c_28)])

set_option maxHeartbeats 4000000 in
set_option maxRecDepth 100000 in
/-- model: isOpen -/
theorem m_X4_isOpen (l : Launch) (D : va_G) (cy : Nat → ClassId) (ad : NT) (σ : IT) (ν : NT) (hI : MI σ ν) (q : Nat) (hq : q < ν 0 0) : Met l yX4_isOpen wsX4_isOpen ({ frames := 1, cells := 0, slots := 0, locals := 30 } : Room) (va_Pc [.ref (ad 0 0), .int (nI q)] (fun U => gK D cy U ∧ (MW D cy ad σ ν) U.heap)) (rQ (some (.int (zb (openB σ ν q))))) 0 0 (fun _ => False) := by
  refine Met.ofW (cc := cX4_isOpen) (maxL := 2) (ret := (some .boolean)) (by decide) rfl ?_
  intro p e s m args below meth c s₁ B9 hml hv
  obtain ⟨rfl, hK, hB⟩ := hv
  have hx := B9.exec
  have hb := B9.bytes
  have hr := B9.returns
  have hts := atoms_spec (ws := wsX4_isOpen) B9.pre
  have hown : s.vm.findClass RX4 = some m.cls := findClass_of_methodNamed B9.named
  have hlocks := B9.notSynchronized
  have lk44 := hts (.fieldLink RX4 44 "PolitecrawlModel" "due" "[I") (by decide +kernel)
  have inX4 : ∀ w ∈ u_ws RX4 TX4 26, w ∈ wsX4_isOpen := by decide +kernel
  have lk110 := hts (.fieldLink RX4 110 "PolitecrawlModel" "now" "I") (by decide +kernel)
  have lk19 := hts (.fieldLink RX4 19 "PolitecrawlModel" "openFrom" "[I") (by decide +kernel)
  have lk38 := hts (.fieldLink RX4 38 "PolitecrawlModel" "host" "[I") (by decide +kernel)
  have hl := lv_entry ([.ref (ad 0 0), .int (nI q)]) (n := 2) (Nat.le_of_ble_eq_true rfl)
  rw [lg_entry_eq]
  generalize (lg_sl ([.ref (ad 0 0), .int (nI q)]) ++ List.replicate (2 - (lg_sl ([.ref (ad 0 0), .int (nI q)])).length) Slot.unset).toArray = ls at hl ⊢
  have hl : lv_has ls 2 [(0, .ref (ad 0 0)), (1, .int (nI q))] := hl
  have hq30 : q < 30 := Nat.lt_of_lt_of_le hq hI.1
  have hh6 : ν 5 q < 6 := (hI.2.2 q hq).1
  refine lv_aload_n hx hb dX4_isOpen_0 rfl (lv_at hl 0 rfl) ?_
  refine lv_iload_n hx hb dX4_isOpen_1 rfl (lv_at hl 1 rfl) ?_
  refine g_csr (va_runV (As := [.int (nI q)]) (rest := []) ⟨hx, hb, hml, hown, hts⟩ (m_X4_counts l D cy ad σ ν q hq30) (cwV 1 hts gX4_isOpen_X4_counts rfl rfl rfl (by decide +kernel) ⟨Nat.le_of_ble_eq_true rfl, Nat.le_of_ble_eq_true rfl⟩) (g_preV (C := RX4) (B := (MW D cy ad σ ν)) hK hB (hB 0 0 Nat.zero_lt_one) rfl) rfl rfl hl.1 rfl (lv_room (Nat.le_of_ble_eq_true rfl)) dX4_isOpen_2 ⟨Nat.zero_le _, Nat.zero_le _⟩) ?_
  refine lv_if_eq (tgt := 50) hx hb dX4_isOpen_5 (by decide) (fun c_5 => ?_) (fun c_5 => ?_)
  · -- 5 t
    refine lv_iconst (v := 0) hx hb dX4_isOpen_50 (by decide) ?_
    exact g_zret hx hb hr hlocks rfl dX4_isOpen_51 (by simp [openB, zb_0.mp c_5, zb])
  · -- 5 f
    refine lv_aload_n hx hb dX4_isOpen_8 rfl (lv_at hl 0 rfl) ?_
    refine g_get (C := RX4) (T := TX4) (N := 26) (ci := 4) (fs := [.int (σ 30 0), .int (σ 0 0), .int (nI (ν 1 0)), .ref (ad 6 0), .ref (ad 7 0), .ref (ad 8 0), .ref (ad 9 0), .int (σ 1 0), .int (σ 2 0), .int (σ 3 0), .int (σ 31 0), .int (σ 32 0), .int (nI (ν 0 0)), .ref (ad 18 0), .ref (ad 17 0), .ref (ad 16 0), .ref (ad 10 0), .ref (ad 11 0), .ref (ad 12 0), .ref (ad 13 0), .ref (ad 14 0), .ref (ad 15 0), .int (nI (ν 6 0)), .ref (ad 34 0), .ref (ad 35 0), .ref (ad 36 0)]) hx hb hts inX4 hown hK (hB 0 0 Nat.zero_lt_one) rfl 17 (by decide) lk44 rfl rfl dX4_isOpen_9 ?_
    refine lv_iload_n hx hb dX4_isOpen_12 rfl (lv_at hl 1 rfl) ?_
    refine g_iald (f := σ 11) (x := σ 11 q) hx hb hK (hB 11 0 Nat.zero_lt_one) (vp_in_nI (N := 30) (by omega) (by decide)) (by rw [cl_nI (by omega)]) dX4_isOpen_13 ?_
    refine lv_aload_n hx hb dX4_isOpen_14 rfl (lv_at hl 0 rfl) ?_
    refine g_get (C := RX4) (T := TX4) (N := 26) (ci := 4) (fs := [.int (σ 30 0), .int (σ 0 0), .int (nI (ν 1 0)), .ref (ad 6 0), .ref (ad 7 0), .ref (ad 8 0), .ref (ad 9 0), .int (σ 1 0), .int (σ 2 0), .int (σ 3 0), .int (σ 31 0), .int (σ 32 0), .int (nI (ν 0 0)), .ref (ad 18 0), .ref (ad 17 0), .ref (ad 16 0), .ref (ad 10 0), .ref (ad 11 0), .ref (ad 12 0), .ref (ad 13 0), .ref (ad 14 0), .ref (ad 15 0), .int (nI (ν 6 0)), .ref (ad 34 0), .ref (ad 35 0), .ref (ad 36 0)]) hx hb hts inX4 hown hK (hB 0 0 Nat.zero_lt_one) rfl 1 (by decide) lk110 rfl rfl dX4_isOpen_15 ?_
    refine lv_icmp_gt (tgt := 50) hx hb dX4_isOpen_18 (by decide) (fun c_18 => ?_) (fun c_18 => ?_)
    · -- 18 t
      refine lv_iconst (v := 0) hx hb dX4_isOpen_50 (by decide) ?_
      exact g_zret hx hb hr hlocks rfl dX4_isOpen_51 (by simp [openB, zb_n0.mp c_5, zb, c_18])
    · -- 18 f
      refine lv_aload_n hx hb dX4_isOpen_21 rfl (lv_at hl 0 rfl) ?_
      refine g_get (C := RX4) (T := TX4) (N := 26) (ci := 4) (fs := [.int (σ 30 0), .int (σ 0 0), .int (nI (ν 1 0)), .ref (ad 6 0), .ref (ad 7 0), .ref (ad 8 0), .ref (ad 9 0), .int (σ 1 0), .int (σ 2 0), .int (σ 3 0), .int (σ 31 0), .int (σ 32 0), .int (nI (ν 0 0)), .ref (ad 18 0), .ref (ad 17 0), .ref (ad 16 0), .ref (ad 10 0), .ref (ad 11 0), .ref (ad 12 0), .ref (ad 13 0), .ref (ad 14 0), .ref (ad 15 0), .int (nI (ν 6 0)), .ref (ad 34 0), .ref (ad 35 0), .ref (ad 36 0)]) hx hb hts inX4 hown hK (hB 0 0 Nat.zero_lt_one) rfl 6 (by decide) lk19 rfl rfl dX4_isOpen_22 ?_
      refine lv_aload_n hx hb dX4_isOpen_25 rfl (lv_at hl 0 rfl) ?_
      refine g_get (C := RX4) (T := TX4) (N := 26) (ci := 4) (fs := [.int (σ 30 0), .int (σ 0 0), .int (nI (ν 1 0)), .ref (ad 6 0), .ref (ad 7 0), .ref (ad 8 0), .ref (ad 9 0), .int (σ 1 0), .int (σ 2 0), .int (σ 3 0), .int (σ 31 0), .int (σ 32 0), .int (nI (ν 0 0)), .ref (ad 18 0), .ref (ad 17 0), .ref (ad 16 0), .ref (ad 10 0), .ref (ad 11 0), .ref (ad 12 0), .ref (ad 13 0), .ref (ad 14 0), .ref (ad 15 0), .int (nI (ν 6 0)), .ref (ad 34 0), .ref (ad 35 0), .ref (ad 36 0)]) hx hb hts inX4 hown hK (hB 0 0 Nat.zero_lt_one) rfl 15 (by decide) lk38 rfl rfl dX4_isOpen_26 ?_
      refine lv_iload_n hx hb dX4_isOpen_29 rfl (lv_at hl 1 rfl) ?_
      refine g_iald (f := fun j => nI (ν 5 j)) (x := nI (ν 5 q)) hx hb hK (hB 16 0 Nat.zero_lt_one) (vp_in_nI (N := 30) (by omega) (by decide)) (by rw [cl_nI (by omega)]) dX4_isOpen_30 ?_
      refine g_iald (f := σ 9) (x := σ 9 (ν 5 q)) hx hb hK (hB 9 0 Nat.zero_lt_one) (vp_in_nI (N := 6) (by omega) (by decide)) (by rw [cl_nI (by omega)]) dX4_isOpen_31 ?_
      refine lv_aload_n hx hb dX4_isOpen_32 rfl (lv_at hl 0 rfl) ?_
      refine g_get (C := RX4) (T := TX4) (N := 26) (ci := 4) (fs := [.int (σ 30 0), .int (σ 0 0), .int (nI (ν 1 0)), .ref (ad 6 0), .ref (ad 7 0), .ref (ad 8 0), .ref (ad 9 0), .int (σ 1 0), .int (σ 2 0), .int (σ 3 0), .int (σ 31 0), .int (σ 32 0), .int (nI (ν 0 0)), .ref (ad 18 0), .ref (ad 17 0), .ref (ad 16 0), .ref (ad 10 0), .ref (ad 11 0), .ref (ad 12 0), .ref (ad 13 0), .ref (ad 14 0), .ref (ad 15 0), .int (nI (ν 6 0)), .ref (ad 34 0), .ref (ad 35 0), .ref (ad 36 0)]) hx hb hts inX4 hown hK (hB 0 0 Nat.zero_lt_one) rfl 1 (by decide) lk110 rfl rfl dX4_isOpen_33 ?_
      refine lv_icmp_gt (tgt := 50) hx hb dX4_isOpen_36 (by decide) (fun c_36 => ?_) (fun c_36 => ?_)
      · -- 36 t
        refine lv_iconst (v := 0) hx hb dX4_isOpen_50 (by decide) ?_
        exact g_zret hx hb hr hlocks rfl dX4_isOpen_51 (by simp [openB, zb_n0.mp c_5, zb, c_18, c_36])
      · -- 36 f
        refine lv_aload_n hx hb dX4_isOpen_39 rfl (lv_at hl 0 rfl) ?_
        refine g_csr (va_runV (As := []) (rest := []) ⟨hx, hb, hml, hown, hts⟩ (m_X4_left l D cy ad σ ν) (cwV 0 hts gX4_isOpen_X4_left rfl rfl rfl (by decide +kernel) ⟨Nat.le_of_ble_eq_true rfl, Nat.le_of_ble_eq_true rfl⟩) (g_preV (C := RX4) (B := (MW D cy ad σ ν)) hK hB (hB 0 0 Nat.zero_lt_one) rfl) rfl rfl hl.1 rfl (lv_room (Nat.le_of_ble_eq_true rfl)) dX4_isOpen_40 ⟨Nat.zero_le _, Nat.zero_le _⟩) ?_
        refine lv_if_le (tgt := 50) hx hb dX4_isOpen_43 (by decide) (fun c_43 => ?_) (fun c_43 => ?_)
        · -- 43 t
          refine lv_iconst (v := 0) hx hb dX4_isOpen_50 (by decide) ?_
          exact g_zret hx hb hr hlocks rfl dX4_isOpen_51 (by simp [openB, zb_n0.mp c_5, zb, c_18, c_36, c_43])
        · -- 43 f
          refine lv_iconst (v := 1) hx hb dX4_isOpen_46 (by decide) ?_
          refine lv_goto (tgt := 51) hx hb dX4_isOpen_47 (by decide) ?_
          exact g_zret hx hb hr hlocks rfl dX4_isOpen_51 (by simp [openB, zb_n0.mp c_5, zb, c_18, c_36, c_43])

set_option maxHeartbeats 4000000 in
set_option maxRecDepth 100000 in
/-- model: addsMore -/
theorem m_X4_addsMore (l : Launch) (D : va_G) (cy : Nat → ClassId) (ad : NT) (σ : IT) (ν : NT) (p9 q9 : Nat) (hp9 : p9 < 30) (hq9 : q9 < 30) : Met l yX4_addsMore wsX4_addsMore ({ frames := 0, cells := 0, slots := 0, locals := 0 } : Room) (va_Pc [.ref (ad 0 0), .int (nI p9), .int (nI q9)] (fun U => gK D cy U ∧ (MW D cy ad σ ν) U.heap)) (rQ (some (.int (zb (addsB σ p9 q9))))) 0 0 (fun _ => False) := by
  refine Met.ofW (cc := cX4_addsMore) (maxL := 11) (ret := (some .boolean)) (by decide) rfl ?_
  intro p e s m args below meth c s₁ B9 hml hv
  obtain ⟨rfl, hK, hB⟩ := hv
  have hx := B9.exec
  have hb := B9.bytes
  have hr := B9.returns
  have hts := atoms_spec (ws := wsX4_addsMore) B9.pre
  have hown : s.vm.findClass RX4 = some m.cls := findClass_of_methodNamed B9.named
  have hlocks := B9.notSynchronized
  have lk41 := hts (.fieldLink RX4 41 "PolitecrawlModel" "rank" "[I") (by decide +kernel)
  have inX4 : ∀ w ∈ u_ws RX4 TX4 26, w ∈ wsX4_addsMore := by decide +kernel
  have lk50 := hts (.fieldLink RX4 50 "PolitecrawlModel" "changes" "[I") (by decide +kernel)
  have lk66 := hts (.fieldLink RX4 66 "PolitecrawlModel" "shares" "[I") (by decide +kernel)
  have hl := lv_entry ([.ref (ad 0 0), .int (nI p9), .int (nI q9)]) (n := 11) (Nat.le_of_ble_eq_true rfl)
  rw [lg_entry_eq]
  generalize (lg_sl ([.ref (ad 0 0), .int (nI p9), .int (nI q9)]) ++ List.replicate (11 - (lg_sl ([.ref (ad 0 0), .int (nI p9), .int (nI q9)])).length) Slot.unset).toArray = ls at hl ⊢
  have hl : lv_has ls 11 [(0, .ref (ad 0 0)), (1, .int (nI p9)), (2, .int (nI q9))] := hl
  refine lv_aload_n hx hb dX4_addsMore_0 rfl (lv_at hl 0 rfl) ?_
  refine g_get (C := RX4) (T := TX4) (N := 26) (ci := 4) (fs := [.int (σ 30 0), .int (σ 0 0), .int (nI (ν 1 0)), .ref (ad 6 0), .ref (ad 7 0), .ref (ad 8 0), .ref (ad 9 0), .int (σ 1 0), .int (σ 2 0), .int (σ 3 0), .int (σ 31 0), .int (σ 32 0), .int (nI (ν 0 0)), .ref (ad 18 0), .ref (ad 17 0), .ref (ad 16 0), .ref (ad 10 0), .ref (ad 11 0), .ref (ad 12 0), .ref (ad 13 0), .ref (ad 14 0), .ref (ad 15 0), .int (nI (ν 6 0)), .ref (ad 34 0), .ref (ad 35 0), .ref (ad 36 0)]) hx hb hts inX4 hown hK (hB 0 0 Nat.zero_lt_one) rfl 16 (by decide) lk41 rfl rfl dX4_addsMore_1 ?_
  refine lv_iload_n hx hb dX4_addsMore_4 rfl (lv_at hl 1 rfl) ?_
  refine g_iald (f := σ 10) (x := σ 10 p9) hx hb hK (hB 10 0 Nat.zero_lt_one) (vp_in_nI (N := 30) (by omega) (by decide)) (by rw [cl_nI (by omega)]) dX4_addsMore_5 ?_
  refine lv_i2l hx hb dX4_addsMore_6 rfl ?_
  refine lv_lconst (v := 1) hx hb dX4_addsMore_7 rfl ?_
  refine lv_ladd hx hb dX4_addsMore_8 ?_
  refine lv_aload_n hx hb dX4_addsMore_9 rfl (lv_at hl 0 rfl) ?_
  refine g_get (C := RX4) (T := TX4) (N := 26) (ci := 4) (fs := [.int (σ 30 0), .int (σ 0 0), .int (nI (ν 1 0)), .ref (ad 6 0), .ref (ad 7 0), .ref (ad 8 0), .ref (ad 9 0), .int (σ 1 0), .int (σ 2 0), .int (σ 3 0), .int (σ 31 0), .int (σ 32 0), .int (nI (ν 0 0)), .ref (ad 18 0), .ref (ad 17 0), .ref (ad 16 0), .ref (ad 10 0), .ref (ad 11 0), .ref (ad 12 0), .ref (ad 13 0), .ref (ad 14 0), .ref (ad 15 0), .int (nI (ν 6 0)), .ref (ad 34 0), .ref (ad 35 0), .ref (ad 36 0)]) hx hb hts inX4 hown hK (hB 0 0 Nat.zero_lt_one) rfl 19 (by decide) lk50 rfl rfl dX4_addsMore_10 ?_
  refine lv_iload_n hx hb dX4_addsMore_13 rfl (lv_at hl 1 rfl) ?_
  refine g_iald (f := σ 13) (x := σ 13 p9) hx hb hK (hB 13 0 Nat.zero_lt_one) (vp_in_nI (N := 30) (by omega) (by decide)) (by rw [cl_nI (by omega)]) dX4_addsMore_14 ?_
  refine lv_i2l hx hb dX4_addsMore_15 rfl ?_
  refine lv_lconst (v := 1) hx hb dX4_addsMore_16 rfl ?_
  refine lv_ladd hx hb dX4_addsMore_17 ?_
  refine lv_lmul hx hb dX4_addsMore_18 ?_
  refine lv_lstore_n (lv' := [(3, .long ((((σ 10 p9).toInt64) + 1) * (((σ 13 p9).toInt64) + 1))), (0, .ref (ad 0 0)), (1, .int (nI p9)), (2, .int (nI q9))]) hx hb dX4_addsMore_19 rfl hl (by decide) rfl (fun ls hl => ?_)
  refine lv_aload_n hx hb dX4_addsMore_20 rfl (lv_at hl 1 rfl) ?_
  refine g_get (C := RX4) (T := TX4) (N := 26) (ci := 4) (fs := [.int (σ 30 0), .int (σ 0 0), .int (nI (ν 1 0)), .ref (ad 6 0), .ref (ad 7 0), .ref (ad 8 0), .ref (ad 9 0), .int (σ 1 0), .int (σ 2 0), .int (σ 3 0), .int (σ 31 0), .int (σ 32 0), .int (nI (ν 0 0)), .ref (ad 18 0), .ref (ad 17 0), .ref (ad 16 0), .ref (ad 10 0), .ref (ad 11 0), .ref (ad 12 0), .ref (ad 13 0), .ref (ad 14 0), .ref (ad 15 0), .int (nI (ν 6 0)), .ref (ad 34 0), .ref (ad 35 0), .ref (ad 36 0)]) hx hb hts inX4 hown hK (hB 0 0 Nat.zero_lt_one) rfl 16 (by decide) lk41 rfl rfl dX4_addsMore_21 ?_
  refine lv_iload_n hx hb dX4_addsMore_24 rfl (lv_at hl 3 rfl) ?_
  refine g_iald (f := σ 10) (x := σ 10 q9) hx hb hK (hB 10 0 Nat.zero_lt_one) (vp_in_nI (N := 30) (by omega) (by decide)) (by rw [cl_nI (by omega)]) dX4_addsMore_25 ?_
  refine lv_i2l hx hb dX4_addsMore_26 rfl ?_
  refine lv_lconst (v := 1) hx hb dX4_addsMore_27 rfl ?_
  refine lv_ladd hx hb dX4_addsMore_28 ?_
  refine lv_aload_n hx hb dX4_addsMore_29 rfl (lv_at hl 1 rfl) ?_
  refine g_get (C := RX4) (T := TX4) (N := 26) (ci := 4) (fs := [.int (σ 30 0), .int (σ 0 0), .int (nI (ν 1 0)), .ref (ad 6 0), .ref (ad 7 0), .ref (ad 8 0), .ref (ad 9 0), .int (σ 1 0), .int (σ 2 0), .int (σ 3 0), .int (σ 31 0), .int (σ 32 0), .int (nI (ν 0 0)), .ref (ad 18 0), .ref (ad 17 0), .ref (ad 16 0), .ref (ad 10 0), .ref (ad 11 0), .ref (ad 12 0), .ref (ad 13 0), .ref (ad 14 0), .ref (ad 15 0), .int (nI (ν 6 0)), .ref (ad 34 0), .ref (ad 35 0), .ref (ad 36 0)]) hx hb hts inX4 hown hK (hB 0 0 Nat.zero_lt_one) rfl 19 (by decide) lk50 rfl rfl dX4_addsMore_30 ?_
  refine lv_iload_n hx hb dX4_addsMore_33 rfl (lv_at hl 3 rfl) ?_
  refine g_iald (f := σ 13) (x := σ 13 q9) hx hb hK (hB 13 0 Nat.zero_lt_one) (vp_in_nI (N := 30) (by omega) (by decide)) (by rw [cl_nI (by omega)]) dX4_addsMore_34 ?_
  refine lv_i2l hx hb dX4_addsMore_35 rfl ?_
  refine lv_lconst (v := 1) hx hb dX4_addsMore_36 rfl ?_
  refine lv_ladd hx hb dX4_addsMore_37 ?_
  refine lv_lmul hx hb dX4_addsMore_38 ?_
  refine lv_lstore (lv' := [(5, .long ((((σ 10 q9).toInt64) + 1) * (((σ 13 q9).toInt64) + 1))), (3, .long ((((σ 10 p9).toInt64) + 1) * (((σ 13 p9).toInt64) + 1))), (0, .ref (ad 0 0)), (1, .int (nI p9)), (2, .int (nI q9))]) hx hb dX4_addsMore_39 hl (by decide) rfl (fun ls hl => ?_)
  refine lv_aload_n hx hb dX4_addsMore_41 rfl (lv_at hl 2 rfl) ?_
  refine g_get (C := RX4) (T := TX4) (N := 26) (ci := 4) (fs := [.int (σ 30 0), .int (σ 0 0), .int (nI (ν 1 0)), .ref (ad 6 0), .ref (ad 7 0), .ref (ad 8 0), .ref (ad 9 0), .int (σ 1 0), .int (σ 2 0), .int (σ 3 0), .int (σ 31 0), .int (σ 32 0), .int (nI (ν 0 0)), .ref (ad 18 0), .ref (ad 17 0), .ref (ad 16 0), .ref (ad 10 0), .ref (ad 11 0), .ref (ad 12 0), .ref (ad 13 0), .ref (ad 14 0), .ref (ad 15 0), .int (nI (ν 6 0)), .ref (ad 34 0), .ref (ad 35 0), .ref (ad 36 0)]) hx hb hts inX4 hown hK (hB 0 0 Nat.zero_lt_one) rfl 25 (by decide) lk66 rfl rfl dX4_addsMore_42 ?_
  refine lv_iload_n hx hb dX4_addsMore_45 rfl (lv_at hl 3 rfl) ?_
  refine g_iald (f := σ 36) (x := σ 36 p9) hx hb hK (hB 36 0 Nat.zero_lt_one) (vp_in_nI (N := 30) (by omega) (by decide)) (by rw [cl_nI (by omega)]) dX4_addsMore_46 ?_
  refine lv_aload_n hx hb dX4_addsMore_47 rfl (lv_at hl 2 rfl) ?_
  refine g_get (C := RX4) (T := TX4) (N := 26) (ci := 4) (fs := [.int (σ 30 0), .int (σ 0 0), .int (nI (ν 1 0)), .ref (ad 6 0), .ref (ad 7 0), .ref (ad 8 0), .ref (ad 9 0), .int (σ 1 0), .int (σ 2 0), .int (σ 3 0), .int (σ 31 0), .int (σ 32 0), .int (nI (ν 0 0)), .ref (ad 18 0), .ref (ad 17 0), .ref (ad 16 0), .ref (ad 10 0), .ref (ad 11 0), .ref (ad 12 0), .ref (ad 13 0), .ref (ad 14 0), .ref (ad 15 0), .int (nI (ν 6 0)), .ref (ad 34 0), .ref (ad 35 0), .ref (ad 36 0)]) hx hb hts inX4 hown hK (hB 0 0 Nat.zero_lt_one) rfl 19 (by decide) lk50 rfl rfl dX4_addsMore_48 ?_
  refine lv_iload_n hx hb dX4_addsMore_51 rfl (lv_at hl 3 rfl) ?_
  refine g_iald (f := σ 13) (x := σ 13 p9) hx hb hK (hB 13 0 Nat.zero_lt_one) (vp_in_nI (N := 30) (by omega) (by decide)) (by rw [cl_nI (by omega)]) dX4_addsMore_52 ?_
  refine lv_iadd hx hb dX4_addsMore_53 ?_
  refine lv_i2l hx hb dX4_addsMore_54 rfl ?_
  refine lv_lconst (v := 1) hx hb dX4_addsMore_55 rfl ?_
  refine lv_ladd hx hb dX4_addsMore_56 ?_
  refine lv_aload_n hx hb dX4_addsMore_57 rfl (lv_at hl 2 rfl) ?_
  refine g_get (C := RX4) (T := TX4) (N := 26) (ci := 4) (fs := [.int (σ 30 0), .int (σ 0 0), .int (nI (ν 1 0)), .ref (ad 6 0), .ref (ad 7 0), .ref (ad 8 0), .ref (ad 9 0), .int (σ 1 0), .int (σ 2 0), .int (σ 3 0), .int (σ 31 0), .int (σ 32 0), .int (nI (ν 0 0)), .ref (ad 18 0), .ref (ad 17 0), .ref (ad 16 0), .ref (ad 10 0), .ref (ad 11 0), .ref (ad 12 0), .ref (ad 13 0), .ref (ad 14 0), .ref (ad 15 0), .int (nI (ν 6 0)), .ref (ad 34 0), .ref (ad 35 0), .ref (ad 36 0)]) hx hb hts inX4 hown hK (hB 0 0 Nat.zero_lt_one) rfl 25 (by decide) lk66 rfl rfl dX4_addsMore_58 ?_
  refine lv_iload_n hx hb dX4_addsMore_61 rfl (lv_at hl 3 rfl) ?_
  refine g_iald (f := σ 36) (x := σ 36 p9) hx hb hK (hB 36 0 Nat.zero_lt_one) (vp_in_nI (N := 30) (by omega) (by decide)) (by rw [cl_nI (by omega)]) dX4_addsMore_62 ?_
  refine lv_aload_n hx hb dX4_addsMore_63 rfl (lv_at hl 2 rfl) ?_
  refine g_get (C := RX4) (T := TX4) (N := 26) (ci := 4) (fs := [.int (σ 30 0), .int (σ 0 0), .int (nI (ν 1 0)), .ref (ad 6 0), .ref (ad 7 0), .ref (ad 8 0), .ref (ad 9 0), .int (σ 1 0), .int (σ 2 0), .int (σ 3 0), .int (σ 31 0), .int (σ 32 0), .int (nI (ν 0 0)), .ref (ad 18 0), .ref (ad 17 0), .ref (ad 16 0), .ref (ad 10 0), .ref (ad 11 0), .ref (ad 12 0), .ref (ad 13 0), .ref (ad 14 0), .ref (ad 15 0), .int (nI (ν 6 0)), .ref (ad 34 0), .ref (ad 35 0), .ref (ad 36 0)]) hx hb hts inX4 hown hK (hB 0 0 Nat.zero_lt_one) rfl 19 (by decide) lk50 rfl rfl dX4_addsMore_64 ?_
  refine lv_iload_n hx hb dX4_addsMore_67 rfl (lv_at hl 3 rfl) ?_
  refine g_iald (f := σ 13) (x := σ 13 p9) hx hb hK (hB 13 0 Nat.zero_lt_one) (vp_in_nI (N := 30) (by omega) (by decide)) (by rw [cl_nI (by omega)]) dX4_addsMore_68 ?_
  refine lv_iadd hx hb dX4_addsMore_69 ?_
  refine lv_i2l hx hb dX4_addsMore_70 rfl ?_
  refine lv_ldc2 (v := 2) hx hb hown (hts (.constantLong RX4 136 (2)) (by decide +kernel)) dX4_addsMore_71 ?_
  refine lv_ladd hx hb dX4_addsMore_74 ?_
  refine lv_lmul hx hb dX4_addsMore_75 ?_
  refine lv_lstore (lv' := [(7, .long (((((σ 36 p9) + (σ 13 p9)).toInt64) + 1) * ((((σ 36 p9) + (σ 13 p9)).toInt64) + 2))), (5, .long ((((σ 10 q9).toInt64) + 1) * (((σ 13 q9).toInt64) + 1))), (3, .long ((((σ 10 p9).toInt64) + 1) * (((σ 13 p9).toInt64) + 1))), (0, .ref (ad 0 0)), (1, .int (nI p9)), (2, .int (nI q9))]) hx hb dX4_addsMore_76 hl (by decide) rfl (fun ls hl => ?_)
  refine lv_aload_n hx hb dX4_addsMore_78 rfl (lv_at hl 3 rfl) ?_
  refine g_get (C := RX4) (T := TX4) (N := 26) (ci := 4) (fs := [.int (σ 30 0), .int (σ 0 0), .int (nI (ν 1 0)), .ref (ad 6 0), .ref (ad 7 0), .ref (ad 8 0), .ref (ad 9 0), .int (σ 1 0), .int (σ 2 0), .int (σ 3 0), .int (σ 31 0), .int (σ 32 0), .int (nI (ν 0 0)), .ref (ad 18 0), .ref (ad 17 0), .ref (ad 16 0), .ref (ad 10 0), .ref (ad 11 0), .ref (ad 12 0), .ref (ad 13 0), .ref (ad 14 0), .ref (ad 15 0), .int (nI (ν 6 0)), .ref (ad 34 0), .ref (ad 35 0), .ref (ad 36 0)]) hx hb hts inX4 hown hK (hB 0 0 Nat.zero_lt_one) rfl 25 (by decide) lk66 rfl rfl dX4_addsMore_79 ?_
  refine lv_iload_n hx hb dX4_addsMore_82 rfl (lv_at hl 5 rfl) ?_
  refine g_iald (f := σ 36) (x := σ 36 q9) hx hb hK (hB 36 0 Nat.zero_lt_one) (vp_in_nI (N := 30) (by omega) (by decide)) (by rw [cl_nI (by omega)]) dX4_addsMore_83 ?_
  refine lv_aload_n hx hb dX4_addsMore_84 rfl (lv_at hl 3 rfl) ?_
  refine g_get (C := RX4) (T := TX4) (N := 26) (ci := 4) (fs := [.int (σ 30 0), .int (σ 0 0), .int (nI (ν 1 0)), .ref (ad 6 0), .ref (ad 7 0), .ref (ad 8 0), .ref (ad 9 0), .int (σ 1 0), .int (σ 2 0), .int (σ 3 0), .int (σ 31 0), .int (σ 32 0), .int (nI (ν 0 0)), .ref (ad 18 0), .ref (ad 17 0), .ref (ad 16 0), .ref (ad 10 0), .ref (ad 11 0), .ref (ad 12 0), .ref (ad 13 0), .ref (ad 14 0), .ref (ad 15 0), .int (nI (ν 6 0)), .ref (ad 34 0), .ref (ad 35 0), .ref (ad 36 0)]) hx hb hts inX4 hown hK (hB 0 0 Nat.zero_lt_one) rfl 19 (by decide) lk50 rfl rfl dX4_addsMore_85 ?_
  refine lv_iload_n hx hb dX4_addsMore_88 rfl (lv_at hl 5 rfl) ?_
  refine g_iald (f := σ 13) (x := σ 13 q9) hx hb hK (hB 13 0 Nat.zero_lt_one) (vp_in_nI (N := 30) (by omega) (by decide)) (by rw [cl_nI (by omega)]) dX4_addsMore_89 ?_
  refine lv_iadd hx hb dX4_addsMore_90 ?_
  refine lv_i2l hx hb dX4_addsMore_91 rfl ?_
  refine lv_lconst (v := 1) hx hb dX4_addsMore_92 rfl ?_
  refine lv_ladd hx hb dX4_addsMore_93 ?_
  refine lv_aload_n hx hb dX4_addsMore_94 rfl (lv_at hl 3 rfl) ?_
  refine g_get (C := RX4) (T := TX4) (N := 26) (ci := 4) (fs := [.int (σ 30 0), .int (σ 0 0), .int (nI (ν 1 0)), .ref (ad 6 0), .ref (ad 7 0), .ref (ad 8 0), .ref (ad 9 0), .int (σ 1 0), .int (σ 2 0), .int (σ 3 0), .int (σ 31 0), .int (σ 32 0), .int (nI (ν 0 0)), .ref (ad 18 0), .ref (ad 17 0), .ref (ad 16 0), .ref (ad 10 0), .ref (ad 11 0), .ref (ad 12 0), .ref (ad 13 0), .ref (ad 14 0), .ref (ad 15 0), .int (nI (ν 6 0)), .ref (ad 34 0), .ref (ad 35 0), .ref (ad 36 0)]) hx hb hts inX4 hown hK (hB 0 0 Nat.zero_lt_one) rfl 25 (by decide) lk66 rfl rfl dX4_addsMore_95 ?_
  refine lv_iload_n hx hb dX4_addsMore_98 rfl (lv_at hl 5 rfl) ?_
  refine g_iald (f := σ 36) (x := σ 36 q9) hx hb hK (hB 36 0 Nat.zero_lt_one) (vp_in_nI (N := 30) (by omega) (by decide)) (by rw [cl_nI (by omega)]) dX4_addsMore_99 ?_
  refine lv_aload_n hx hb dX4_addsMore_100 rfl (lv_at hl 3 rfl) ?_
  refine g_get (C := RX4) (T := TX4) (N := 26) (ci := 4) (fs := [.int (σ 30 0), .int (σ 0 0), .int (nI (ν 1 0)), .ref (ad 6 0), .ref (ad 7 0), .ref (ad 8 0), .ref (ad 9 0), .int (σ 1 0), .int (σ 2 0), .int (σ 3 0), .int (σ 31 0), .int (σ 32 0), .int (nI (ν 0 0)), .ref (ad 18 0), .ref (ad 17 0), .ref (ad 16 0), .ref (ad 10 0), .ref (ad 11 0), .ref (ad 12 0), .ref (ad 13 0), .ref (ad 14 0), .ref (ad 15 0), .int (nI (ν 6 0)), .ref (ad 34 0), .ref (ad 35 0), .ref (ad 36 0)]) hx hb hts inX4 hown hK (hB 0 0 Nat.zero_lt_one) rfl 19 (by decide) lk50 rfl rfl dX4_addsMore_101 ?_
  refine lv_iload_n hx hb dX4_addsMore_104 rfl (lv_at hl 5 rfl) ?_
  refine g_iald (f := σ 13) (x := σ 13 q9) hx hb hK (hB 13 0 Nat.zero_lt_one) (vp_in_nI (N := 30) (by omega) (by decide)) (by rw [cl_nI (by omega)]) dX4_addsMore_105 ?_
  refine lv_iadd hx hb dX4_addsMore_106 ?_
  refine lv_i2l hx hb dX4_addsMore_107 rfl ?_
  refine lv_ldc2 (v := 2) hx hb hown (hts (.constantLong RX4 136 (2)) (by decide +kernel)) dX4_addsMore_108 ?_
  refine lv_ladd hx hb dX4_addsMore_111 ?_
  refine lv_lmul hx hb dX4_addsMore_112 ?_
  refine lv_lstore (lv' := [(9, .long (((((σ 36 q9) + (σ 13 q9)).toInt64) + 1) * ((((σ 36 q9) + (σ 13 q9)).toInt64) + 2))), (7, .long (((((σ 36 p9) + (σ 13 p9)).toInt64) + 1) * ((((σ 36 p9) + (σ 13 p9)).toInt64) + 2))), (5, .long ((((σ 10 q9).toInt64) + 1) * (((σ 13 q9).toInt64) + 1))), (3, .long ((((σ 10 p9).toInt64) + 1) * (((σ 13 p9).toInt64) + 1))), (0, .ref (ad 0 0)), (1, .int (nI p9)), (2, .int (nI q9))]) hx hb dX4_addsMore_113 hl (by decide) rfl (fun ls hl => ?_)
  refine lv_lload_n hx hb dX4_addsMore_115 rfl (lv_at hl 3 rfl) ?_
  refine lv_lload hx hb dX4_addsMore_116 (lv_at hl 0 rfl) ?_
  refine lv_lmul hx hb dX4_addsMore_118 ?_
  refine lv_lload hx hb dX4_addsMore_119 (lv_at hl 2 rfl) ?_
  refine lv_lload hx hb dX4_addsMore_121 (lv_at hl 1 rfl) ?_
  refine lv_lmul hx hb dX4_addsMore_123 ?_
  refine W.lcmp hx hb dX4_addsMore_124 ?_
  refine lv_if_le (tgt := 132) hx hb dX4_addsMore_125 (by decide) (fun c_125 => ?_) (fun c_125 => ?_)
  · -- 125 t
    refine lv_iconst (v := 0) hx hb dX4_addsMore_132 (by decide) ?_
    exact g_zret hx hb hr hlocks rfl dX4_addsMore_133 (by rw [addsB]; exact (zb_n (Int64.not_lt.mpr (lg_le.mp c_125))).symm)
  · -- 125 f
    refine lv_iconst (v := 1) hx hb dX4_addsMore_128 (by decide) ?_
    refine lv_goto (tgt := 133) hx hb dX4_addsMore_129 (by decide) ?_
    exact g_zret hx hb hr hlocks rfl dX4_addsMore_133 (by rw [addsB]; exact (zb_p (Int64.not_le.mp (fun q => c_125 (lg_le.mpr q)))).symm)


/-- numbers of rows: equal from i on, k places -/
def sameM (σ : IT) (ν : NT) (x y : Nat) : Bool := decide (ν 8 x = ν 8 y) && sameF (fun i => σ 6 (ν 7 x + i)) (fun i => σ 6 (ν 7 y + i)) (ν 8 x) 0
def sameT (σ : IT) (ν : NT) (p : Nat) : Bool := decide (ν 3 p = ν 1 0) && sameF (fun i => σ 18 (30 * p + i)) (σ 6) (ν 1 0) 0
/-- segments lie in the text -/
def sgOK (ν : NT) : Prop := ∀ j, j < ν 6 0 → ν 7 j + ν 8 j ≤ 30

set_option maxHeartbeats 4000000 in
set_option maxRecDepth 100000 in
/-- model: areSame -/
theorem m_X4_areSame (l : Launch) (D : va_G) (cy : Nat → ClassId) (ad : NT) (σ : IT) (ν : NT) (hm : ∀ j, j < ν 6 0 → ν 7 j + ν 8 j ≤ 30) (h15 : ν 6 0 ≤ 15) (x y : Nat) (hx0 : x < ν 6 0) (hy0 : y < ν 6 0) : Met l yX4_areSame wsX4_areSame ({ frames := 0, cells := 0, slots := 0, locals := 0 } : Room) (va_Pc [.ref (ad 0 0), .int (nI x), .int (nI y)] (fun U => gK D cy U ∧ (MW D cy ad σ ν) U.heap)) (rQ (some (.int (zb (sameM σ ν x y))))) 0 0 (fun _ => False) := by
  refine Met.ofW (cc := cX4_areSame) (maxL := 5) (ret := (some .boolean)) (by decide) rfl ?_
  intro p e s m args below meth c s₁ B9 hml hv
  obtain ⟨rfl, hK, hB⟩ := hv
  have hx := B9.exec
  have hb := B9.bytes
  have hr := B9.returns
  have hts := atoms_spec (ws := wsX4_areSame) B9.pre
  have hown : s.vm.findClass RX4 = some m.cls := findClass_of_methodNamed B9.named
  have hlocks := B9.notSynchronized
  have lk63 := hts (.fieldLink RX4 63 "PolitecrawlModel" "many" "[I") (by decide +kernel)
  have inX4 : ∀ w ∈ u_ws RX4 TX4 26, w ∈ wsX4_areSame := by decide +kernel
  have lk7 := hts (.fieldLink RX4 7 "PolitecrawlModel" "buffer" "[I") (by decide +kernel)
  have lk60 := hts (.fieldLink RX4 60 "PolitecrawlModel" "begin" "[I") (by decide +kernel)
  have hl := lv_entry ([.ref (ad 0 0), .int (nI x), .int (nI y)]) (n := 5) (Nat.le_of_ble_eq_true rfl)
  rw [lg_entry_eq]
  generalize (lg_sl ([.ref (ad 0 0), .int (nI x), .int (nI y)]) ++ List.replicate (5 - (lg_sl ([.ref (ad 0 0), .int (nI x), .int (nI y)])).length) Slot.unset).toArray = ls at hl ⊢
  have hl : lv_has ls 5 [(0, .ref (ad 0 0)), (1, .int (nI x)), (2, .int (nI y))] := hl
  have bx := hm x hx0
  have by9 := hm y hy0
  obtain ⟨V, hV⟩ : ∃ V, V = zb (decide (ν 8 x = ν 8 y) && sameF (fun i => σ 6 (ν 7 x + i)) (fun i => σ 6 (ν 7 y + i)) (ν 8 x - 0) 0) := ⟨_, rfl⟩
  have hV0 : zb (sameM σ ν x y) = V := hV.symm
  rw [hV0]
  refine lv_aload_n hx hb dX4_areSame_0 rfl (lv_at hl 0 rfl) ?_
  refine g_get (C := RX4) (T := TX4) (N := 26) (ci := 4) (fs := [.int (σ 30 0), .int (σ 0 0), .int (nI (ν 1 0)), .ref (ad 6 0), .ref (ad 7 0), .ref (ad 8 0), .ref (ad 9 0), .int (σ 1 0), .int (σ 2 0), .int (σ 3 0), .int (σ 31 0), .int (σ 32 0), .int (nI (ν 0 0)), .ref (ad 18 0), .ref (ad 17 0), .ref (ad 16 0), .ref (ad 10 0), .ref (ad 11 0), .ref (ad 12 0), .ref (ad 13 0), .ref (ad 14 0), .ref (ad 15 0), .int (nI (ν 6 0)), .ref (ad 34 0), .ref (ad 35 0), .ref (ad 36 0)]) hx hb hts inX4 hown hK (hB 0 0 Nat.zero_lt_one) rfl 24 (by decide) lk63 rfl rfl dX4_areSame_1 ?_
  refine lv_iload_n hx hb dX4_areSame_4 rfl (lv_at hl 1 rfl) ?_
  refine g_iald (f := fun j => nI (ν 8 j)) (x := nI (ν 8 x)) hx hb hK (hB 35 0 Nat.zero_lt_one) (vp_in_nI (N := 15) (by omega) (by decide)) (by rw [cl_nI (by omega)]) dX4_areSame_5 ?_
  refine lv_aload_n hx hb dX4_areSame_6 rfl (lv_at hl 0 rfl) ?_
  refine g_get (C := RX4) (T := TX4) (N := 26) (ci := 4) (fs := [.int (σ 30 0), .int (σ 0 0), .int (nI (ν 1 0)), .ref (ad 6 0), .ref (ad 7 0), .ref (ad 8 0), .ref (ad 9 0), .int (σ 1 0), .int (σ 2 0), .int (σ 3 0), .int (σ 31 0), .int (σ 32 0), .int (nI (ν 0 0)), .ref (ad 18 0), .ref (ad 17 0), .ref (ad 16 0), .ref (ad 10 0), .ref (ad 11 0), .ref (ad 12 0), .ref (ad 13 0), .ref (ad 14 0), .ref (ad 15 0), .int (nI (ν 6 0)), .ref (ad 34 0), .ref (ad 35 0), .ref (ad 36 0)]) hx hb hts inX4 hown hK (hB 0 0 Nat.zero_lt_one) rfl 24 (by decide) lk63 rfl rfl dX4_areSame_7 ?_
  refine lv_iload_n hx hb dX4_areSame_10 rfl (lv_at hl 2 rfl) ?_
  refine g_iald (f := fun j => nI (ν 8 j)) (x := nI (ν 8 y)) hx hb hK (hB 35 0 Nat.zero_lt_one) (vp_in_nI (N := 15) (by omega) (by decide)) (by rw [cl_nI (by omega)]) dX4_areSame_11 ?_
  refine lv_icmp_ne (tgt := 19) hx hb dX4_areSame_12 (by decide) (fun c_12 => ?_) (fun c_12 => ?_)
  · -- 12 t
    refine lv_iconst (v := 0) hx hb dX4_areSame_19 (by decide) ?_
    refine lv_topi (fun y1 ey1 => ?_)
    obtain rfl : y1 = zb (decide (ν 8 x = ν 8 y)) := ey1.trans ((by rw [decide_eq_false (fun q => c_12 (by rw [q]))]; rfl))
    refine lv_istore_n (lv' := [(3, .int (zb (decide (ν 8 x = ν 8 y)))), (0, .ref (ad 0 0)), (1, .int (nI x)), (2, .int (nI y))]) hx hb dX4_areSame_20 rfl hl (by decide) rfl (fun ls hl => ?_)
    refine lv_iconst (v := 0) hx hb dX4_areSame_21 (by decide) ?_
    refine lv_topi (fun y2 ey2 => ?_)
    obtain rfl : y2 = nI 0 := ey2.trans (nI_0.symm)
    refine lv_istore (lv' := [(4, .int (nI 0)), (3, .int (zb (decide (ν 8 x = ν 8 y)))), (0, .ref (ad 0 0)), (1, .int (nI x)), (2, .int (nI y))]) hx hb dX4_areSame_22 hl (by decide) rfl (fun ls hl => ?_)
    have loop : ∀ (k : Nat) (i : Nat) (b : Bool) (ls : Array Slot), i ≤ ν 8 x → ν 8 x < i + k → (b = true → ν 8 x = ν 8 y) → V = zb (b && sameF (fun i => σ 6 (ν 7 x + i)) (fun i => σ 6 (ν 7 y + i)) (ν 8 x - i) i) → lv_has ls 5 [(0, .ref (ad 0 0)), (1, .int (nI x)), (2, .int (nI y)), (3, .int (zb b)), (4, .int (nI i))] → W p l e (headSpec wsX4_areSame ({ frames := 0, cells := 0, slots := 0, locals := 0 } : Room)).room s m ([.ref (ad 0 0), .int (nI x), .int (nI y)] : List Value).toArray below meth c s.heap [] 0 0 (MQ below (rQ (some (.int V))) ([.ref (ad 0 0), .int (nI x), .int (nI y)] : List Value).toArray s 0 0 (fun _ => False)) (F0 m 24 ls []) := by
      intro k
      induction k with
      | zero => intro i b ls hi hk hb9 hV hl; exfalso; omega
      | succ k loop_ih =>
        intro i b ls hi hk hb9 hV hl
        refine lv_iload hx hb dX4_areSame_24 (lv_at hl 4 rfl) ?_
        refine lv_aload_n hx hb dX4_areSame_26 rfl (lv_at hl 0 rfl) ?_
        refine g_get (C := RX4) (T := TX4) (N := 26) (ci := 4) (fs := [.int (σ 30 0), .int (σ 0 0), .int (nI (ν 1 0)), .ref (ad 6 0), .ref (ad 7 0), .ref (ad 8 0), .ref (ad 9 0), .int (σ 1 0), .int (σ 2 0), .int (σ 3 0), .int (σ 31 0), .int (σ 32 0), .int (nI (ν 0 0)), .ref (ad 18 0), .ref (ad 17 0), .ref (ad 16 0), .ref (ad 10 0), .ref (ad 11 0), .ref (ad 12 0), .ref (ad 13 0), .ref (ad 14 0), .ref (ad 15 0), .int (nI (ν 6 0)), .ref (ad 34 0), .ref (ad 35 0), .ref (ad 36 0)]) hx hb hts inX4 hown hK (hB 0 0 Nat.zero_lt_one) rfl 24 (by decide) lk63 rfl rfl dX4_areSame_27 ?_
        refine lv_iload_n hx hb dX4_areSame_30 rfl (lv_at hl 1 rfl) ?_
        refine g_iald (f := fun j => nI (ν 8 j)) (x := nI (ν 8 x)) hx hb hK (hB 35 0 Nat.zero_lt_one) (vp_in_nI (N := 15) (by omega) (by decide)) (by rw [cl_nI (by omega)]) dX4_areSame_31 ?_
        refine lv_icmp_ge (tgt := 82) hx hb dX4_areSame_32 (by decide) (fun c_32 => ?_) (fun c_32 => ?_)
        · -- 32 t
          refine lv_iload_n hx hb dX4_areSame_82 rfl (lv_at hl 3 rfl) ?_
          exact g_zret hx hb hr hlocks (by cases b <;> rfl) dX4_areSame_83 (by rw [hV, show ν 8 x - i = 0 from by have := (nI_leI (by omega) (by omega)).mp c_32; omega, sameF, Bool.and_true])
        · -- 32 f
          refine lv_iload_n hx hb dX4_areSame_35 rfl (lv_at hl 3 rfl) ?_
          refine lv_if_eq (tgt := 82) hx hb dX4_areSame_36 (by decide) (fun c_36 => ?_) (fun c_36 => ?_)
          · -- 36 t
            refine lv_iload_n hx hb dX4_areSame_82 rfl (lv_at hl 3 rfl) ?_
            exact g_zret hx hb hr hlocks (by cases b <;> rfl) dX4_areSame_83 (by rw [hV, (zb_0.mp c_36 : b = false), Bool.false_and])
          · -- 36 f
            have pb : b = true := zb_n0.mp c_36
            have ey := hb9 pb
            have hlt : i < ν 8 x := Nat.not_le.mp fun q => c_32 ((nI_leI (by omega) (by omega)).mpr q)
            obtain ⟨j, hj⟩ : ∃ j, ν 8 x - i = j + 1 := ⟨ν 8 x - i - 1, by omega⟩
            have hj2 : ν 8 x - (i + 1) = j := by omega
            rw [pb, Bool.true_and, hj, sameF] at hV
            refine lv_aload_n hx hb dX4_areSame_39 rfl (lv_at hl 0 rfl) ?_
            refine g_get (C := RX4) (T := TX4) (N := 26) (ci := 4) (fs := [.int (σ 30 0), .int (σ 0 0), .int (nI (ν 1 0)), .ref (ad 6 0), .ref (ad 7 0), .ref (ad 8 0), .ref (ad 9 0), .int (σ 1 0), .int (σ 2 0), .int (σ 3 0), .int (σ 31 0), .int (σ 32 0), .int (nI (ν 0 0)), .ref (ad 18 0), .ref (ad 17 0), .ref (ad 16 0), .ref (ad 10 0), .ref (ad 11 0), .ref (ad 12 0), .ref (ad 13 0), .ref (ad 14 0), .ref (ad 15 0), .int (nI (ν 6 0)), .ref (ad 34 0), .ref (ad 35 0), .ref (ad 36 0)]) hx hb hts inX4 hown hK (hB 0 0 Nat.zero_lt_one) rfl 3 (by decide) lk7 rfl rfl dX4_areSame_40 ?_
            refine lv_aload_n hx hb dX4_areSame_43 rfl (lv_at hl 0 rfl) ?_
            refine g_get (C := RX4) (T := TX4) (N := 26) (ci := 4) (fs := [.int (σ 30 0), .int (σ 0 0), .int (nI (ν 1 0)), .ref (ad 6 0), .ref (ad 7 0), .ref (ad 8 0), .ref (ad 9 0), .int (σ 1 0), .int (σ 2 0), .int (σ 3 0), .int (σ 31 0), .int (σ 32 0), .int (nI (ν 0 0)), .ref (ad 18 0), .ref (ad 17 0), .ref (ad 16 0), .ref (ad 10 0), .ref (ad 11 0), .ref (ad 12 0), .ref (ad 13 0), .ref (ad 14 0), .ref (ad 15 0), .int (nI (ν 6 0)), .ref (ad 34 0), .ref (ad 35 0), .ref (ad 36 0)]) hx hb hts inX4 hown hK (hB 0 0 Nat.zero_lt_one) rfl 23 (by decide) lk60 rfl rfl dX4_areSame_44 ?_
            refine lv_iload_n hx hb dX4_areSame_47 rfl (lv_at hl 1 rfl) ?_
            refine g_iald (f := fun j => nI (ν 7 j)) (x := nI (ν 7 x)) hx hb hK (hB 34 0 Nat.zero_lt_one) (vp_in_nI (N := 15) (by omega) (by decide)) (by rw [cl_nI (by omega)]) dX4_areSame_48 ?_
            refine lv_iload hx hb dX4_areSame_49 (lv_at hl 4 rfl) ?_
            refine lv_iadd hx hb dX4_areSame_51 ?_
            refine lv_topi (fun y3 ey3 => ?_)
            obtain rfl : y3 = nI (ν 7 x + i) := ey3.trans (nI_add _ _)
            refine g_iald (f := σ 6) (x := σ 6 (ν 7 x + i)) hx hb hK (hB 6 0 Nat.zero_lt_one) (vp_in_nI (N := 30) (by omega) (by decide)) (by rw [cl_nI (by omega)]) dX4_areSame_52 ?_
            refine lv_aload_n hx hb dX4_areSame_53 rfl (lv_at hl 0 rfl) ?_
            refine g_get (C := RX4) (T := TX4) (N := 26) (ci := 4) (fs := [.int (σ 30 0), .int (σ 0 0), .int (nI (ν 1 0)), .ref (ad 6 0), .ref (ad 7 0), .ref (ad 8 0), .ref (ad 9 0), .int (σ 1 0), .int (σ 2 0), .int (σ 3 0), .int (σ 31 0), .int (σ 32 0), .int (nI (ν 0 0)), .ref (ad 18 0), .ref (ad 17 0), .ref (ad 16 0), .ref (ad 10 0), .ref (ad 11 0), .ref (ad 12 0), .ref (ad 13 0), .ref (ad 14 0), .ref (ad 15 0), .int (nI (ν 6 0)), .ref (ad 34 0), .ref (ad 35 0), .ref (ad 36 0)]) hx hb hts inX4 hown hK (hB 0 0 Nat.zero_lt_one) rfl 3 (by decide) lk7 rfl rfl dX4_areSame_54 ?_
            refine lv_aload_n hx hb dX4_areSame_57 rfl (lv_at hl 0 rfl) ?_
            refine g_get (C := RX4) (T := TX4) (N := 26) (ci := 4) (fs := [.int (σ 30 0), .int (σ 0 0), .int (nI (ν 1 0)), .ref (ad 6 0), .ref (ad 7 0), .ref (ad 8 0), .ref (ad 9 0), .int (σ 1 0), .int (σ 2 0), .int (σ 3 0), .int (σ 31 0), .int (σ 32 0), .int (nI (ν 0 0)), .ref (ad 18 0), .ref (ad 17 0), .ref (ad 16 0), .ref (ad 10 0), .ref (ad 11 0), .ref (ad 12 0), .ref (ad 13 0), .ref (ad 14 0), .ref (ad 15 0), .int (nI (ν 6 0)), .ref (ad 34 0), .ref (ad 35 0), .ref (ad 36 0)]) hx hb hts inX4 hown hK (hB 0 0 Nat.zero_lt_one) rfl 23 (by decide) lk60 rfl rfl dX4_areSame_58 ?_
            refine lv_iload_n hx hb dX4_areSame_61 rfl (lv_at hl 2 rfl) ?_
            refine g_iald (f := fun j => nI (ν 7 j)) (x := nI (ν 7 y)) hx hb hK (hB 34 0 Nat.zero_lt_one) (vp_in_nI (N := 15) (by omega) (by decide)) (by rw [cl_nI (by omega)]) dX4_areSame_62 ?_
            refine lv_iload hx hb dX4_areSame_63 (lv_at hl 4 rfl) ?_
            refine lv_iadd hx hb dX4_areSame_65 ?_
            refine lv_topi (fun y4 ey4 => ?_)
            obtain rfl : y4 = nI (ν 7 y + i) := ey4.trans (nI_add _ _)
            refine g_iald (f := σ 6) (x := σ 6 (ν 7 y + i)) hx hb hK (hB 6 0 Nat.zero_lt_one) (vp_in_nI (N := 30) (by omega) (by decide)) (by rw [cl_nI (by omega)]) dX4_areSame_66 ?_
            refine lv_icmp_ne (tgt := 74) hx hb dX4_areSame_67 (by decide) (fun c_67 => ?_) (fun c_67 => ?_)
            · -- 67 t
              refine lv_iconst (v := 0) hx hb dX4_areSame_74 (by decide) ?_
              refine lv_topi (fun y5 ey5 => ?_)
              obtain rfl : y5 = zb false := ey5.trans (rfl)
              rw [if_neg c_67] at hV
              have hV : V = zb (false && sameF (fun i => σ 6 (ν 7 x + i)) (fun i => σ 6 (ν 7 y + i)) j (i + 1)) := hV
              refine lv_istore_n (lv' := [(3, .int (zb false)), (0, .ref (ad 0 0)), (1, .int (nI x)), (2, .int (nI y)), (4, .int (nI i))]) hx hb dX4_areSame_75 rfl hl (by decide) rfl (fun ls hl => ?_)
              refine lv_iinc (v := nI (i + 1)) (lv' := [(4, .int (nI (i + 1))), (3, .int (zb false)), (0, .ref (ad 0 0)), (1, .int (nI x)), (2, .int (nI y))]) hx hb dX4_areSame_76 hl (k := 4) rfl (nI_1 i) (by decide) rfl (fun ls hl => ?_)
              refine lv_goto (tgt := 24) hx hb dX4_areSame_79 (by decide) ?_
              exact loop_ih (i + 1) false ls (by omega) (by omega) (fun h => nomatch h) (by rw [hj2]; exact hV) (lv_sub hl [2, 3, 4, 1, 0] rfl)
            · -- 67 f
              refine lv_iconst (v := 1) hx hb dX4_areSame_70 (by decide) ?_
              refine lv_goto (tgt := 75) hx hb dX4_areSame_71 (by decide) ?_
              refine lv_topi (fun y6 ey6 => ?_)
              obtain rfl : y6 = zb true := ey6.trans (rfl)
              rw [if_pos c_67] at hV
              have hV : V = zb (true && sameF (fun i => σ 6 (ν 7 x + i)) (fun i => σ 6 (ν 7 y + i)) j (i + 1)) := hV
              refine lv_istore_n (lv' := [(3, .int (zb true)), (0, .ref (ad 0 0)), (1, .int (nI x)), (2, .int (nI y)), (4, .int (nI i))]) hx hb dX4_areSame_75 rfl hl (by decide) rfl (fun ls hl => ?_)
              refine lv_iinc (v := nI (i + 1)) (lv' := [(4, .int (nI (i + 1))), (3, .int (zb true)), (0, .ref (ad 0 0)), (1, .int (nI x)), (2, .int (nI y))]) hx hb dX4_areSame_76 hl (k := 4) rfl (nI_1 i) (by decide) rfl (fun ls hl => ?_)
              refine lv_goto (tgt := 24) hx hb dX4_areSame_79 (by decide) ?_
              exact loop_ih (i + 1) true ls (by omega) (by omega) (fun _ => ey) (by rw [hj2]; exact hV) (lv_sub hl [2, 3, 4, 1, 0] rfl)
    exact loop (ν 8 x + 1) 0 (decide (ν 8 x = ν 8 y)) ls (Nat.zero_le _) (by omega) (fun h => of_decide_eq_true h) hV (lv_sub hl [2, 3, 4, 1, 0] rfl)
  · -- 12 f
    refine lv_iconst (v := 1) hx hb dX4_areSame_15 (by decide) ?_
    refine lv_goto (tgt := 20) hx hb dX4_areSame_16 (by decide) ?_
    refine lv_topi (fun y7 ey7 => ?_)
    obtain rfl : y7 = zb (decide (ν 8 x = ν 8 y)) := ey7.trans ((by rw [decide_eq_true ((nI_eq (by omega) (by omega)).mp c_12)]; rfl))
    refine lv_istore_n (lv' := [(3, .int (zb (decide (ν 8 x = ν 8 y)))), (0, .ref (ad 0 0)), (1, .int (nI x)), (2, .int (nI y))]) hx hb dX4_areSame_20 rfl hl (by decide) rfl (fun ls hl => ?_)
    refine lv_iconst (v := 0) hx hb dX4_areSame_21 (by decide) ?_
    refine lv_topi (fun y8 ey8 => ?_)
    obtain rfl : y8 = nI 0 := ey8.trans (nI_0.symm)
    refine lv_istore (lv' := [(4, .int (nI 0)), (3, .int (zb (decide (ν 8 x = ν 8 y)))), (0, .ref (ad 0 0)), (1, .int (nI x)), (2, .int (nI y))]) hx hb dX4_areSame_22 hl (by decide) rfl (fun ls hl => ?_)
    have loop : ∀ (k : Nat) (i : Nat) (b : Bool) (ls : Array Slot), i ≤ ν 8 x → ν 8 x < i + k → (b = true → ν 8 x = ν 8 y) → V = zb (b && sameF (fun i => σ 6 (ν 7 x + i)) (fun i => σ 6 (ν 7 y + i)) (ν 8 x - i) i) → lv_has ls 5 [(0, .ref (ad 0 0)), (1, .int (nI x)), (2, .int (nI y)), (3, .int (zb b)), (4, .int (nI i))] → W p l e (headSpec wsX4_areSame ({ frames := 0, cells := 0, slots := 0, locals := 0 } : Room)).room s m ([.ref (ad 0 0), .int (nI x), .int (nI y)] : List Value).toArray below meth c s.heap [] 0 0 (MQ below (rQ (some (.int V))) ([.ref (ad 0 0), .int (nI x), .int (nI y)] : List Value).toArray s 0 0 (fun _ => False)) (F0 m 24 ls []) := by
      intro k
      induction k with
      | zero => intro i b ls hi hk hb9 hV hl; exfalso; omega
      | succ k loop_ih =>
        intro i b ls hi hk hb9 hV hl
        refine lv_iload hx hb dX4_areSame_24 (lv_at hl 4 rfl) ?_
        refine lv_aload_n hx hb dX4_areSame_26 rfl (lv_at hl 0 rfl) ?_
        refine g_get (C := RX4) (T := TX4) (N := 26) (ci := 4) (fs := [.int (σ 30 0), .int (σ 0 0), .int (nI (ν 1 0)), .ref (ad 6 0), .ref (ad 7 0), .ref (ad 8 0), .ref (ad 9 0), .int (σ 1 0), .int (σ 2 0), .int (σ 3 0), .int (σ 31 0), .int (σ 32 0), .int (nI (ν 0 0)), .ref (ad 18 0), .ref (ad 17 0), .ref (ad 16 0), .ref (ad 10 0), .ref (ad 11 0), .ref (ad 12 0), .ref (ad 13 0), .ref (ad 14 0), .ref (ad 15 0), .int (nI (ν 6 0)), .ref (ad 34 0), .ref (ad 35 0), .ref (ad 36 0)]) hx hb hts inX4 hown hK (hB 0 0 Nat.zero_lt_one) rfl 24 (by decide) lk63 rfl rfl dX4_areSame_27 ?_
        refine lv_iload_n hx hb dX4_areSame_30 rfl (lv_at hl 1 rfl) ?_
        refine g_iald (f := fun j => nI (ν 8 j)) (x := nI (ν 8 x)) hx hb hK (hB 35 0 Nat.zero_lt_one) (vp_in_nI (N := 15) (by omega) (by decide)) (by rw [cl_nI (by omega)]) dX4_areSame_31 ?_
        refine lv_icmp_ge (tgt := 82) hx hb dX4_areSame_32 (by decide) (fun c_32 => ?_) (fun c_32 => ?_)
        · -- 32 t
          refine lv_iload_n hx hb dX4_areSame_82 rfl (lv_at hl 3 rfl) ?_
          exact g_zret hx hb hr hlocks (by cases b <;> rfl) dX4_areSame_83 (by rw [hV, show ν 8 x - i = 0 from by have := (nI_leI (by omega) (by omega)).mp c_32; omega, sameF, Bool.and_true])
        · -- 32 f
          refine lv_iload_n hx hb dX4_areSame_35 rfl (lv_at hl 3 rfl) ?_
          refine lv_if_eq (tgt := 82) hx hb dX4_areSame_36 (by decide) (fun c_36 => ?_) (fun c_36 => ?_)
          · -- 36 t
            refine lv_iload_n hx hb dX4_areSame_82 rfl (lv_at hl 3 rfl) ?_
            exact g_zret hx hb hr hlocks (by cases b <;> rfl) dX4_areSame_83 (by rw [hV, (zb_0.mp c_36 : b = false), Bool.false_and])
          · -- 36 f
            have pb : b = true := zb_n0.mp c_36
            have ey := hb9 pb
            have hlt : i < ν 8 x := Nat.not_le.mp fun q => c_32 ((nI_leI (by omega) (by omega)).mpr q)
            obtain ⟨j, hj⟩ : ∃ j, ν 8 x - i = j + 1 := ⟨ν 8 x - i - 1, by omega⟩
            have hj2 : ν 8 x - (i + 1) = j := by omega
            rw [pb, Bool.true_and, hj, sameF] at hV
            refine lv_aload_n hx hb dX4_areSame_39 rfl (lv_at hl 0 rfl) ?_
            refine g_get (C := RX4) (T := TX4) (N := 26) (ci := 4) (fs := [.int (σ 30 0), .int (σ 0 0), .int (nI (ν 1 0)), .ref (ad 6 0), .ref (ad 7 0), .ref (ad 8 0), .ref (ad 9 0), .int (σ 1 0), .int (σ 2 0), .int (σ 3 0), .int (σ 31 0), .int (σ 32 0), .int (nI (ν 0 0)), .ref (ad 18 0), .ref (ad 17 0), .ref (ad 16 0), .ref (ad 10 0), .ref (ad 11 0), .ref (ad 12 0), .ref (ad 13 0), .ref (ad 14 0), .ref (ad 15 0), .int (nI (ν 6 0)), .ref (ad 34 0), .ref (ad 35 0), .ref (ad 36 0)]) hx hb hts inX4 hown hK (hB 0 0 Nat.zero_lt_one) rfl 3 (by decide) lk7 rfl rfl dX4_areSame_40 ?_
            refine lv_aload_n hx hb dX4_areSame_43 rfl (lv_at hl 0 rfl) ?_
            refine g_get (C := RX4) (T := TX4) (N := 26) (ci := 4) (fs := [.int (σ 30 0), .int (σ 0 0), .int (nI (ν 1 0)), .ref (ad 6 0), .ref (ad 7 0), .ref (ad 8 0), .ref (ad 9 0), .int (σ 1 0), .int (σ 2 0), .int (σ 3 0), .int (σ 31 0), .int (σ 32 0), .int (nI (ν 0 0)), .ref (ad 18 0), .ref (ad 17 0), .ref (ad 16 0), .ref (ad 10 0), .ref (ad 11 0), .ref (ad 12 0), .ref (ad 13 0), .ref (ad 14 0), .ref (ad 15 0), .int (nI (ν 6 0)), .ref (ad 34 0), .ref (ad 35 0), .ref (ad 36 0)]) hx hb hts inX4 hown hK (hB 0 0 Nat.zero_lt_one) rfl 23 (by decide) lk60 rfl rfl dX4_areSame_44 ?_
            refine lv_iload_n hx hb dX4_areSame_47 rfl (lv_at hl 1 rfl) ?_
            refine g_iald (f := fun j => nI (ν 7 j)) (x := nI (ν 7 x)) hx hb hK (hB 34 0 Nat.zero_lt_one) (vp_in_nI (N := 15) (by omega) (by decide)) (by rw [cl_nI (by omega)]) dX4_areSame_48 ?_
            refine lv_iload hx hb dX4_areSame_49 (lv_at hl 4 rfl) ?_
            refine lv_iadd hx hb dX4_areSame_51 ?_
            refine lv_topi (fun y9 ey9 => ?_)
            obtain rfl : y9 = nI (ν 7 x + i) := ey9.trans (nI_add _ _)
            refine g_iald (f := σ 6) (x := σ 6 (ν 7 x + i)) hx hb hK (hB 6 0 Nat.zero_lt_one) (vp_in_nI (N := 30) (by omega) (by decide)) (by rw [cl_nI (by omega)]) dX4_areSame_52 ?_
            refine lv_aload_n hx hb dX4_areSame_53 rfl (lv_at hl 0 rfl) ?_
            refine g_get (C := RX4) (T := TX4) (N := 26) (ci := 4) (fs := [.int (σ 30 0), .int (σ 0 0), .int (nI (ν 1 0)), .ref (ad 6 0), .ref (ad 7 0), .ref (ad 8 0), .ref (ad 9 0), .int (σ 1 0), .int (σ 2 0), .int (σ 3 0), .int (σ 31 0), .int (σ 32 0), .int (nI (ν 0 0)), .ref (ad 18 0), .ref (ad 17 0), .ref (ad 16 0), .ref (ad 10 0), .ref (ad 11 0), .ref (ad 12 0), .ref (ad 13 0), .ref (ad 14 0), .ref (ad 15 0), .int (nI (ν 6 0)), .ref (ad 34 0), .ref (ad 35 0), .ref (ad 36 0)]) hx hb hts inX4 hown hK (hB 0 0 Nat.zero_lt_one) rfl 3 (by decide) lk7 rfl rfl dX4_areSame_54 ?_
            refine lv_aload_n hx hb dX4_areSame_57 rfl (lv_at hl 0 rfl) ?_
            refine g_get (C := RX4) (T := TX4) (N := 26) (ci := 4) (fs := [.int (σ 30 0), .int (σ 0 0), .int (nI (ν 1 0)), .ref (ad 6 0), .ref (ad 7 0), .ref (ad 8 0), .ref (ad 9 0), .int (σ 1 0), .int (σ 2 0), .int (σ 3 0), .int (σ 31 0), .int (σ 32 0), .int (nI (ν 0 0)), .ref (ad 18 0), .ref (ad 17 0), .ref (ad 16 0), .ref (ad 10 0), .ref (ad 11 0), .ref (ad 12 0), .ref (ad 13 0), .ref (ad 14 0), .ref (ad 15 0), .int (nI (ν 6 0)), .ref (ad 34 0), .ref (ad 35 0), .ref (ad 36 0)]) hx hb hts inX4 hown hK (hB 0 0 Nat.zero_lt_one) rfl 23 (by decide) lk60 rfl rfl dX4_areSame_58 ?_
            refine lv_iload_n hx hb dX4_areSame_61 rfl (lv_at hl 2 rfl) ?_
            refine g_iald (f := fun j => nI (ν 7 j)) (x := nI (ν 7 y)) hx hb hK (hB 34 0 Nat.zero_lt_one) (vp_in_nI (N := 15) (by omega) (by decide)) (by rw [cl_nI (by omega)]) dX4_areSame_62 ?_
            refine lv_iload hx hb dX4_areSame_63 (lv_at hl 4 rfl) ?_
            refine lv_iadd hx hb dX4_areSame_65 ?_
            refine lv_topi (fun y10 ey10 => ?_)
            obtain rfl : y10 = nI (ν 7 y + i) := ey10.trans (nI_add _ _)
            refine g_iald (f := σ 6) (x := σ 6 (ν 7 y + i)) hx hb hK (hB 6 0 Nat.zero_lt_one) (vp_in_nI (N := 30) (by omega) (by decide)) (by rw [cl_nI (by omega)]) dX4_areSame_66 ?_
            refine lv_icmp_ne (tgt := 74) hx hb dX4_areSame_67 (by decide) (fun c_67 => ?_) (fun c_67 => ?_)
            · -- 67 t
              refine lv_iconst (v := 0) hx hb dX4_areSame_74 (by decide) ?_
              refine lv_topi (fun y11 ey11 => ?_)
              obtain rfl : y11 = zb false := ey11.trans (rfl)
              rw [if_neg c_67] at hV
              have hV : V = zb (false && sameF (fun i => σ 6 (ν 7 x + i)) (fun i => σ 6 (ν 7 y + i)) j (i + 1)) := hV
              refine lv_istore_n (lv' := [(3, .int (zb false)), (0, .ref (ad 0 0)), (1, .int (nI x)), (2, .int (nI y)), (4, .int (nI i))]) hx hb dX4_areSame_75 rfl hl (by decide) rfl (fun ls hl => ?_)
              refine lv_iinc (v := nI (i + 1)) (lv' := [(4, .int (nI (i + 1))), (3, .int (zb false)), (0, .ref (ad 0 0)), (1, .int (nI x)), (2, .int (nI y))]) hx hb dX4_areSame_76 hl (k := 4) rfl (nI_1 i) (by decide) rfl (fun ls hl => ?_)
              refine lv_goto (tgt := 24) hx hb dX4_areSame_79 (by decide) ?_
              exact loop_ih (i + 1) false ls (by omega) (by omega) (fun h => nomatch h) (by rw [hj2]; exact hV) (lv_sub hl [2, 3, 4, 1, 0] rfl)
            · -- 67 f
              refine lv_iconst (v := 1) hx hb dX4_areSame_70 (by decide) ?_
              refine lv_goto (tgt := 75) hx hb dX4_areSame_71 (by decide) ?_
              refine lv_topi (fun y12 ey12 => ?_)
              obtain rfl : y12 = zb true := ey12.trans (rfl)
              rw [if_pos c_67] at hV
              have hV : V = zb (true && sameF (fun i => σ 6 (ν 7 x + i)) (fun i => σ 6 (ν 7 y + i)) j (i + 1)) := hV
              refine lv_istore_n (lv' := [(3, .int (zb true)), (0, .ref (ad 0 0)), (1, .int (nI x)), (2, .int (nI y)), (4, .int (nI i))]) hx hb dX4_areSame_75 rfl hl (by decide) rfl (fun ls hl => ?_)
              refine lv_iinc (v := nI (i + 1)) (lv' := [(4, .int (nI (i + 1))), (3, .int (zb true)), (0, .ref (ad 0 0)), (1, .int (nI x)), (2, .int (nI y))]) hx hb dX4_areSame_76 hl (k := 4) rfl (nI_1 i) (by decide) rfl (fun ls hl => ?_)
              refine lv_goto (tgt := 24) hx hb dX4_areSame_79 (by decide) ?_
              exact loop_ih (i + 1) true ls (by omega) (by omega) (fun _ => ey) (by rw [hj2]; exact hV) (lv_sub hl [2, 3, 4, 1, 0] rfl)
    exact loop (ν 8 x + 1) 0 (decide (ν 8 x = ν 8 y)) ls (Nat.zero_le _) (by omega) (fun h => of_decide_eq_true h) hV (lv_sub hl [2, 3, 4, 1, 0] rfl)

set_option maxHeartbeats 4000000 in
set_option maxRecDepth 100000 in
/-- model: isAddress -/
theorem m_X4_isAddress (l : Launch) (D : va_G) (cy : Nat → ClassId) (ad : NT) (σ : IT) (ν : NT) (hI : MI σ ν) (x : Nat) (hx0 : x < ν 0 0) : Met l yX4_isAddress wsX4_isAddress ({ frames := 0, cells := 0, slots := 0, locals := 0 } : Room) (va_Pc [.ref (ad 0 0), .int (nI x)] (fun U => gK D cy U ∧ (MW D cy ad σ ν) U.heap)) (rQ (some (.int (zb (sameT σ ν x))))) 0 0 (fun _ => False) := by
  refine Met.ofW (cc := cX4_isAddress) (maxL := 4) (ret := (some .boolean)) (by decide) rfl ?_
  intro p e s m args below meth c s₁ B9 hml hv
  obtain ⟨rfl, hK, hB⟩ := hv
  have hx := B9.exec
  have hb := B9.bytes
  have hr := B9.returns
  have hts := atoms_spec (ws := wsX4_isAddress) B9.pre
  have hown : s.vm.findClass RX4 = some m.cls := findClass_of_methodNamed B9.named
  have hlocks := B9.notSynchronized
  have lk35 := hts (.fieldLink RX4 35 "PolitecrawlModel" "size" "[I") (by decide +kernel)
  have inX4 : ∀ w ∈ u_ws RX4 TX4 26, w ∈ wsX4_isAddress := by decide +kernel
  have lk86 := hts (.fieldLink RX4 86 "PolitecrawlModel" "length" "I") (by decide +kernel)
  have lk32 := hts (.fieldLink RX4 32 "PolitecrawlModel" "text" "[I") (by decide +kernel)
  have lk7 := hts (.fieldLink RX4 7 "PolitecrawlModel" "buffer" "[I") (by decide +kernel)
  have hl := lv_entry ([.ref (ad 0 0), .int (nI x)]) (n := 4) (Nat.le_of_ble_eq_true rfl)
  rw [lg_entry_eq]
  generalize (lg_sl ([.ref (ad 0 0), .int (nI x)]) ++ List.replicate (4 - (lg_sl ([.ref (ad 0 0), .int (nI x)])).length) Slot.unset).toArray = ls at hl ⊢
  have hl : lv_has ls 4 [(0, .ref (ad 0 0)), (1, .int (nI x))] := hl
  have hx30 : x < 30 := Nat.lt_of_lt_of_le hx0 hI.1
  have hl30 := hI.2.1
  have hs30 := (hI.2.2 x hx0).2
  obtain ⟨V, hV⟩ : ∃ V, V = zb (decide (ν 3 x = ν 1 0) && sameF (fun i => σ 18 (30 * x + i)) (σ 6) (ν 1 0 - 0) 0) := ⟨_, rfl⟩
  have hV0 : zb (sameT σ ν x) = V := hV.symm
  rw [hV0]
  refine lv_aload_n hx hb dX4_isAddress_0 rfl (lv_at hl 0 rfl) ?_
  refine g_get (C := RX4) (T := TX4) (N := 26) (ci := 4) (fs := [.int (σ 30 0), .int (σ 0 0), .int (nI (ν 1 0)), .ref (ad 6 0), .ref (ad 7 0), .ref (ad 8 0), .ref (ad 9 0), .int (σ 1 0), .int (σ 2 0), .int (σ 3 0), .int (σ 31 0), .int (σ 32 0), .int (nI (ν 0 0)), .ref (ad 18 0), .ref (ad 17 0), .ref (ad 16 0), .ref (ad 10 0), .ref (ad 11 0), .ref (ad 12 0), .ref (ad 13 0), .ref (ad 14 0), .ref (ad 15 0), .int (nI (ν 6 0)), .ref (ad 34 0), .ref (ad 35 0), .ref (ad 36 0)]) hx hb hts inX4 hown hK (hB 0 0 Nat.zero_lt_one) rfl 14 (by decide) lk35 rfl rfl dX4_isAddress_1 ?_
  refine lv_iload_n hx hb dX4_isAddress_4 rfl (lv_at hl 1 rfl) ?_
  refine g_iald (f := fun j => nI (ν 3 j)) (x := nI (ν 3 x)) hx hb hK (hB 17 0 Nat.zero_lt_one) (vp_in_nI (N := 30) (by omega) (by decide)) (by rw [cl_nI (by omega)]) dX4_isAddress_5 ?_
  refine lv_aload_n hx hb dX4_isAddress_6 rfl (lv_at hl 0 rfl) ?_
  refine g_get (C := RX4) (T := TX4) (N := 26) (ci := 4) (fs := [.int (σ 30 0), .int (σ 0 0), .int (nI (ν 1 0)), .ref (ad 6 0), .ref (ad 7 0), .ref (ad 8 0), .ref (ad 9 0), .int (σ 1 0), .int (σ 2 0), .int (σ 3 0), .int (σ 31 0), .int (σ 32 0), .int (nI (ν 0 0)), .ref (ad 18 0), .ref (ad 17 0), .ref (ad 16 0), .ref (ad 10 0), .ref (ad 11 0), .ref (ad 12 0), .ref (ad 13 0), .ref (ad 14 0), .ref (ad 15 0), .int (nI (ν 6 0)), .ref (ad 34 0), .ref (ad 35 0), .ref (ad 36 0)]) hx hb hts inX4 hown hK (hB 0 0 Nat.zero_lt_one) rfl 2 (by decide) lk86 rfl rfl dX4_isAddress_7 ?_
  refine lv_icmp_ne (tgt := 17) hx hb dX4_isAddress_10 (by decide) (fun c_10 => ?_) (fun c_10 => ?_)
  · -- 10 t
    refine lv_iconst (v := 0) hx hb dX4_isAddress_17 (by decide) ?_
    refine lv_topi (fun y1 ey1 => ?_)
    obtain rfl : y1 = zb (decide (ν 3 x = ν 1 0)) := ey1.trans ((by rw [decide_eq_false (fun q => c_10 (by rw [q]))]; rfl))
    refine lv_istore_n (lv' := [(2, .int (zb (decide (ν 3 x = ν 1 0)))), (0, .ref (ad 0 0)), (1, .int (nI x))]) hx hb dX4_isAddress_18 rfl hl (by decide) rfl (fun ls hl => ?_)
    refine lv_iconst (v := 0) hx hb dX4_isAddress_19 (by decide) ?_
    refine lv_topi (fun y2 ey2 => ?_)
    obtain rfl : y2 = nI 0 := ey2.trans (nI_0.symm)
    refine lv_istore_n (lv' := [(3, .int (nI 0)), (2, .int (zb (decide (ν 3 x = ν 1 0)))), (0, .ref (ad 0 0)), (1, .int (nI x))]) hx hb dX4_isAddress_20 rfl hl (by decide) rfl (fun ls hl => ?_)
    have loop : ∀ (k : Nat) (i : Nat) (b : Bool) (ls : Array Slot), i ≤ ν 1 0 → ν 1 0 < i + k → V = zb (b && sameF (fun i => σ 18 (30 * x + i)) (σ 6) (ν 1 0 - i) i) → lv_has ls 4 [(0, .ref (ad 0 0)), (1, .int (nI x)), (2, .int (zb b)), (3, .int (nI i))] → W p l e (headSpec wsX4_isAddress ({ frames := 0, cells := 0, slots := 0, locals := 0 } : Room)).room s m ([.ref (ad 0 0), .int (nI x)] : List Value).toArray below meth c s.heap [] 0 0 (MQ below (rQ (some (.int V))) ([.ref (ad 0 0), .int (nI x)] : List Value).toArray s 0 0 (fun _ => False)) (F0 m 21 ls []) := by
      intro k
      induction k with
      | zero => intro i b ls hi hk hV hl; exfalso; omega
      | succ k loop_ih =>
        intro i b ls hi hk hV hl
        refine lv_iload_n hx hb dX4_isAddress_21 rfl (lv_at hl 3 rfl) ?_
        refine lv_aload_n hx hb dX4_isAddress_22 rfl (lv_at hl 0 rfl) ?_
        refine g_get (C := RX4) (T := TX4) (N := 26) (ci := 4) (fs := [.int (σ 30 0), .int (σ 0 0), .int (nI (ν 1 0)), .ref (ad 6 0), .ref (ad 7 0), .ref (ad 8 0), .ref (ad 9 0), .int (σ 1 0), .int (σ 2 0), .int (σ 3 0), .int (σ 31 0), .int (σ 32 0), .int (nI (ν 0 0)), .ref (ad 18 0), .ref (ad 17 0), .ref (ad 16 0), .ref (ad 10 0), .ref (ad 11 0), .ref (ad 12 0), .ref (ad 13 0), .ref (ad 14 0), .ref (ad 15 0), .int (nI (ν 6 0)), .ref (ad 34 0), .ref (ad 35 0), .ref (ad 36 0)]) hx hb hts inX4 hown hK (hB 0 0 Nat.zero_lt_one) rfl 2 (by decide) lk86 rfl rfl dX4_isAddress_23 ?_
        refine lv_icmp_ge (tgt := 65) hx hb dX4_isAddress_26 (by decide) (fun c_26 => ?_) (fun c_26 => ?_)
        · -- 26 t
          refine lv_iload_n hx hb dX4_isAddress_65 rfl (lv_at hl 2 rfl) ?_
          exact g_zret hx hb hr hlocks (by cases b <;> rfl) dX4_isAddress_66 (by rw [hV, show ν 1 0 - i = 0 from by have := (nI_leI (by omega) (by omega)).mp c_26; omega, sameF, Bool.and_true])
        · -- 26 f
          refine lv_iload_n hx hb dX4_isAddress_29 rfl (lv_at hl 2 rfl) ?_
          refine lv_if_eq (tgt := 65) hx hb dX4_isAddress_30 (by decide) (fun c_30 => ?_) (fun c_30 => ?_)
          · -- 30 t
            refine lv_iload_n hx hb dX4_isAddress_65 rfl (lv_at hl 2 rfl) ?_
            exact g_zret hx hb hr hlocks (by cases b <;> rfl) dX4_isAddress_66 (by rw [hV, (zb_0.mp c_30 : b = false), Bool.false_and])
          · -- 30 f
            have pb : b = true := zb_n0.mp c_30
            have hlt : i < ν 1 0 := Nat.not_le.mp fun q => c_26 ((nI_leI (by omega) (by omega)).mpr q)
            obtain ⟨j, hj⟩ : ∃ j, ν 1 0 - i = j + 1 := ⟨ν 1 0 - i - 1, by omega⟩
            have hj2 : ν 1 0 - (i + 1) = j := by omega
            rw [pb, Bool.true_and, hj, sameF] at hV
            refine lv_aload_n hx hb dX4_isAddress_33 rfl (lv_at hl 0 rfl) ?_
            refine g_get (C := RX4) (T := TX4) (N := 26) (ci := 4) (fs := [.int (σ 30 0), .int (σ 0 0), .int (nI (ν 1 0)), .ref (ad 6 0), .ref (ad 7 0), .ref (ad 8 0), .ref (ad 9 0), .int (σ 1 0), .int (σ 2 0), .int (σ 3 0), .int (σ 31 0), .int (σ 32 0), .int (nI (ν 0 0)), .ref (ad 18 0), .ref (ad 17 0), .ref (ad 16 0), .ref (ad 10 0), .ref (ad 11 0), .ref (ad 12 0), .ref (ad 13 0), .ref (ad 14 0), .ref (ad 15 0), .int (nI (ν 6 0)), .ref (ad 34 0), .ref (ad 35 0), .ref (ad 36 0)]) hx hb hts inX4 hown hK (hB 0 0 Nat.zero_lt_one) rfl 13 (by decide) lk32 rfl rfl dX4_isAddress_34 ?_
            refine lv_bipush (v := 30) hx hb dX4_isAddress_37 (by decide) ?_
            refine lv_iload_n hx hb dX4_isAddress_39 rfl (lv_at hl 1 rfl) ?_
            refine lv_imul hx hb dX4_isAddress_40 ?_
            refine lv_topi (fun y3 ey3 => ?_)
            obtain rfl : y3 = nI (30 * x) := ey3.trans (pk_mul 30 _)
            refine lv_iload_n hx hb dX4_isAddress_41 rfl (lv_at hl 3 rfl) ?_
            refine lv_iadd hx hb dX4_isAddress_42 ?_
            refine lv_topi (fun y4 ey4 => ?_)
            obtain rfl : y4 = nI (30 * x + i) := ey4.trans (nI_add _ _)
            refine g_iald (f := σ 18) (x := σ 18 (30 * x + i)) hx hb hK (hB 18 0 Nat.zero_lt_one) (vp_in_nI (N := 900) (by omega) (by decide)) (by rw [cl_nI (by omega)]) dX4_isAddress_43 ?_
            refine lv_aload_n hx hb dX4_isAddress_44 rfl (lv_at hl 0 rfl) ?_
            refine g_get (C := RX4) (T := TX4) (N := 26) (ci := 4) (fs := [.int (σ 30 0), .int (σ 0 0), .int (nI (ν 1 0)), .ref (ad 6 0), .ref (ad 7 0), .ref (ad 8 0), .ref (ad 9 0), .int (σ 1 0), .int (σ 2 0), .int (σ 3 0), .int (σ 31 0), .int (σ 32 0), .int (nI (ν 0 0)), .ref (ad 18 0), .ref (ad 17 0), .ref (ad 16 0), .ref (ad 10 0), .ref (ad 11 0), .ref (ad 12 0), .ref (ad 13 0), .ref (ad 14 0), .ref (ad 15 0), .int (nI (ν 6 0)), .ref (ad 34 0), .ref (ad 35 0), .ref (ad 36 0)]) hx hb hts inX4 hown hK (hB 0 0 Nat.zero_lt_one) rfl 3 (by decide) lk7 rfl rfl dX4_isAddress_45 ?_
            refine lv_iload_n hx hb dX4_isAddress_48 rfl (lv_at hl 3 rfl) ?_
            refine g_iald (f := σ 6) (x := σ 6 i) hx hb hK (hB 6 0 Nat.zero_lt_one) (vp_in_nI (N := 30) (by omega) (by decide)) (by rw [cl_nI (by omega)]) dX4_isAddress_49 ?_
            refine lv_icmp_ne (tgt := 57) hx hb dX4_isAddress_50 (by decide) (fun c_50 => ?_) (fun c_50 => ?_)
            · -- 50 t
              refine lv_iconst (v := 0) hx hb dX4_isAddress_57 (by decide) ?_
              refine lv_topi (fun y5 ey5 => ?_)
              obtain rfl : y5 = zb false := ey5.trans (rfl)
              rw [if_neg c_50] at hV
              have hV : V = zb (false && sameF (fun i => σ 18 (30 * x + i)) (σ 6) j (i + 1)) := hV
              refine lv_istore_n (lv' := [(2, .int (zb false)), (0, .ref (ad 0 0)), (1, .int (nI x)), (3, .int (nI i))]) hx hb dX4_isAddress_58 rfl hl (by decide) rfl (fun ls hl => ?_)
              refine lv_iinc (v := nI (i + 1)) (lv' := [(3, .int (nI (i + 1))), (2, .int (zb false)), (0, .ref (ad 0 0)), (1, .int (nI x))]) hx hb dX4_isAddress_59 hl (k := 3) rfl (nI_1 i) (by decide) rfl (fun ls hl => ?_)
              refine lv_goto (tgt := 21) hx hb dX4_isAddress_62 (by decide) ?_
              exact loop_ih (i + 1) false ls (by omega) (by omega) (by rw [hj2]; exact hV) (lv_sub hl [2, 3, 1, 0] rfl)
            · -- 50 f
              refine lv_iconst (v := 1) hx hb dX4_isAddress_53 (by decide) ?_
              refine lv_goto (tgt := 58) hx hb dX4_isAddress_54 (by decide) ?_
              refine lv_topi (fun y6 ey6 => ?_)
              obtain rfl : y6 = zb true := ey6.trans (rfl)
              rw [if_pos c_50] at hV
              have hV : V = zb (true && sameF (fun i => σ 18 (30 * x + i)) (σ 6) j (i + 1)) := hV
              refine lv_istore_n (lv' := [(2, .int (zb true)), (0, .ref (ad 0 0)), (1, .int (nI x)), (3, .int (nI i))]) hx hb dX4_isAddress_58 rfl hl (by decide) rfl (fun ls hl => ?_)
              refine lv_iinc (v := nI (i + 1)) (lv' := [(3, .int (nI (i + 1))), (2, .int (zb true)), (0, .ref (ad 0 0)), (1, .int (nI x))]) hx hb dX4_isAddress_59 hl (k := 3) rfl (nI_1 i) (by decide) rfl (fun ls hl => ?_)
              refine lv_goto (tgt := 21) hx hb dX4_isAddress_62 (by decide) ?_
              exact loop_ih (i + 1) true ls (by omega) (by omega) (by rw [hj2]; exact hV) (lv_sub hl [2, 3, 1, 0] rfl)
    exact loop (ν 1 0 + 1) 0 (decide (ν 3 x = ν 1 0)) ls (Nat.zero_le _) (by omega) hV (lv_sub hl [2, 3, 1, 0] rfl)
  · -- 10 f
    refine lv_iconst (v := 1) hx hb dX4_isAddress_13 (by decide) ?_
    refine lv_goto (tgt := 18) hx hb dX4_isAddress_14 (by decide) ?_
    refine lv_topi (fun y7 ey7 => ?_)
    obtain rfl : y7 = zb (decide (ν 3 x = ν 1 0)) := ey7.trans ((by rw [decide_eq_true ((nI_eq (by omega) (by omega)).mp c_10)]; rfl))
    refine lv_istore_n (lv' := [(2, .int (zb (decide (ν 3 x = ν 1 0)))), (0, .ref (ad 0 0)), (1, .int (nI x))]) hx hb dX4_isAddress_18 rfl hl (by decide) rfl (fun ls hl => ?_)
    refine lv_iconst (v := 0) hx hb dX4_isAddress_19 (by decide) ?_
    refine lv_topi (fun y8 ey8 => ?_)
    obtain rfl : y8 = nI 0 := ey8.trans (nI_0.symm)
    refine lv_istore_n (lv' := [(3, .int (nI 0)), (2, .int (zb (decide (ν 3 x = ν 1 0)))), (0, .ref (ad 0 0)), (1, .int (nI x))]) hx hb dX4_isAddress_20 rfl hl (by decide) rfl (fun ls hl => ?_)
    have loop : ∀ (k : Nat) (i : Nat) (b : Bool) (ls : Array Slot), i ≤ ν 1 0 → ν 1 0 < i + k → V = zb (b && sameF (fun i => σ 18 (30 * x + i)) (σ 6) (ν 1 0 - i) i) → lv_has ls 4 [(0, .ref (ad 0 0)), (1, .int (nI x)), (2, .int (zb b)), (3, .int (nI i))] → W p l e (headSpec wsX4_isAddress ({ frames := 0, cells := 0, slots := 0, locals := 0 } : Room)).room s m ([.ref (ad 0 0), .int (nI x)] : List Value).toArray below meth c s.heap [] 0 0 (MQ below (rQ (some (.int V))) ([.ref (ad 0 0), .int (nI x)] : List Value).toArray s 0 0 (fun _ => False)) (F0 m 21 ls []) := by
      intro k
      induction k with
      | zero => intro i b ls hi hk hV hl; exfalso; omega
      | succ k loop_ih =>
        intro i b ls hi hk hV hl
        refine lv_iload_n hx hb dX4_isAddress_21 rfl (lv_at hl 3 rfl) ?_
        refine lv_aload_n hx hb dX4_isAddress_22 rfl (lv_at hl 0 rfl) ?_
        refine g_get (C := RX4) (T := TX4) (N := 26) (ci := 4) (fs := [.int (σ 30 0), .int (σ 0 0), .int (nI (ν 1 0)), .ref (ad 6 0), .ref (ad 7 0), .ref (ad 8 0), .ref (ad 9 0), .int (σ 1 0), .int (σ 2 0), .int (σ 3 0), .int (σ 31 0), .int (σ 32 0), .int (nI (ν 0 0)), .ref (ad 18 0), .ref (ad 17 0), .ref (ad 16 0), .ref (ad 10 0), .ref (ad 11 0), .ref (ad 12 0), .ref (ad 13 0), .ref (ad 14 0), .ref (ad 15 0), .int (nI (ν 6 0)), .ref (ad 34 0), .ref (ad 35 0), .ref (ad 36 0)]) hx hb hts inX4 hown hK (hB 0 0 Nat.zero_lt_one) rfl 2 (by decide) lk86 rfl rfl dX4_isAddress_23 ?_
        refine lv_icmp_ge (tgt := 65) hx hb dX4_isAddress_26 (by decide) (fun c_26 => ?_) (fun c_26 => ?_)
        · -- 26 t
          refine lv_iload_n hx hb dX4_isAddress_65 rfl (lv_at hl 2 rfl) ?_
          exact g_zret hx hb hr hlocks (by cases b <;> rfl) dX4_isAddress_66 (by rw [hV, show ν 1 0 - i = 0 from by have := (nI_leI (by omega) (by omega)).mp c_26; omega, sameF, Bool.and_true])
        · -- 26 f
          refine lv_iload_n hx hb dX4_isAddress_29 rfl (lv_at hl 2 rfl) ?_
          refine lv_if_eq (tgt := 65) hx hb dX4_isAddress_30 (by decide) (fun c_30 => ?_) (fun c_30 => ?_)
          · -- 30 t
            refine lv_iload_n hx hb dX4_isAddress_65 rfl (lv_at hl 2 rfl) ?_
            exact g_zret hx hb hr hlocks (by cases b <;> rfl) dX4_isAddress_66 (by rw [hV, (zb_0.mp c_30 : b = false), Bool.false_and])
          · -- 30 f
            have pb : b = true := zb_n0.mp c_30
            have hlt : i < ν 1 0 := Nat.not_le.mp fun q => c_26 ((nI_leI (by omega) (by omega)).mpr q)
            obtain ⟨j, hj⟩ : ∃ j, ν 1 0 - i = j + 1 := ⟨ν 1 0 - i - 1, by omega⟩
            have hj2 : ν 1 0 - (i + 1) = j := by omega
            rw [pb, Bool.true_and, hj, sameF] at hV
            refine lv_aload_n hx hb dX4_isAddress_33 rfl (lv_at hl 0 rfl) ?_
            refine g_get (C := RX4) (T := TX4) (N := 26) (ci := 4) (fs := [.int (σ 30 0), .int (σ 0 0), .int (nI (ν 1 0)), .ref (ad 6 0), .ref (ad 7 0), .ref (ad 8 0), .ref (ad 9 0), .int (σ 1 0), .int (σ 2 0), .int (σ 3 0), .int (σ 31 0), .int (σ 32 0), .int (nI (ν 0 0)), .ref (ad 18 0), .ref (ad 17 0), .ref (ad 16 0), .ref (ad 10 0), .ref (ad 11 0), .ref (ad 12 0), .ref (ad 13 0), .ref (ad 14 0), .ref (ad 15 0), .int (nI (ν 6 0)), .ref (ad 34 0), .ref (ad 35 0), .ref (ad 36 0)]) hx hb hts inX4 hown hK (hB 0 0 Nat.zero_lt_one) rfl 13 (by decide) lk32 rfl rfl dX4_isAddress_34 ?_
            refine lv_bipush (v := 30) hx hb dX4_isAddress_37 (by decide) ?_
            refine lv_iload_n hx hb dX4_isAddress_39 rfl (lv_at hl 1 rfl) ?_
            refine lv_imul hx hb dX4_isAddress_40 ?_
            refine lv_topi (fun y9 ey9 => ?_)
            obtain rfl : y9 = nI (30 * x) := ey9.trans (pk_mul 30 _)
            refine lv_iload_n hx hb dX4_isAddress_41 rfl (lv_at hl 3 rfl) ?_
            refine lv_iadd hx hb dX4_isAddress_42 ?_
            refine lv_topi (fun y10 ey10 => ?_)
            obtain rfl : y10 = nI (30 * x + i) := ey10.trans (nI_add _ _)
            refine g_iald (f := σ 18) (x := σ 18 (30 * x + i)) hx hb hK (hB 18 0 Nat.zero_lt_one) (vp_in_nI (N := 900) (by omega) (by decide)) (by rw [cl_nI (by omega)]) dX4_isAddress_43 ?_
            refine lv_aload_n hx hb dX4_isAddress_44 rfl (lv_at hl 0 rfl) ?_
            refine g_get (C := RX4) (T := TX4) (N := 26) (ci := 4) (fs := [.int (σ 30 0), .int (σ 0 0), .int (nI (ν 1 0)), .ref (ad 6 0), .ref (ad 7 0), .ref (ad 8 0), .ref (ad 9 0), .int (σ 1 0), .int (σ 2 0), .int (σ 3 0), .int (σ 31 0), .int (σ 32 0), .int (nI (ν 0 0)), .ref (ad 18 0), .ref (ad 17 0), .ref (ad 16 0), .ref (ad 10 0), .ref (ad 11 0), .ref (ad 12 0), .ref (ad 13 0), .ref (ad 14 0), .ref (ad 15 0), .int (nI (ν 6 0)), .ref (ad 34 0), .ref (ad 35 0), .ref (ad 36 0)]) hx hb hts inX4 hown hK (hB 0 0 Nat.zero_lt_one) rfl 3 (by decide) lk7 rfl rfl dX4_isAddress_45 ?_
            refine lv_iload_n hx hb dX4_isAddress_48 rfl (lv_at hl 3 rfl) ?_
            refine g_iald (f := σ 6) (x := σ 6 i) hx hb hK (hB 6 0 Nat.zero_lt_one) (vp_in_nI (N := 30) (by omega) (by decide)) (by rw [cl_nI (by omega)]) dX4_isAddress_49 ?_
            refine lv_icmp_ne (tgt := 57) hx hb dX4_isAddress_50 (by decide) (fun c_50 => ?_) (fun c_50 => ?_)
            · -- 50 t
              refine lv_iconst (v := 0) hx hb dX4_isAddress_57 (by decide) ?_
              refine lv_topi (fun y11 ey11 => ?_)
              obtain rfl : y11 = zb false := ey11.trans (rfl)
              rw [if_neg c_50] at hV
              have hV : V = zb (false && sameF (fun i => σ 18 (30 * x + i)) (σ 6) j (i + 1)) := hV
              refine lv_istore_n (lv' := [(2, .int (zb false)), (0, .ref (ad 0 0)), (1, .int (nI x)), (3, .int (nI i))]) hx hb dX4_isAddress_58 rfl hl (by decide) rfl (fun ls hl => ?_)
              refine lv_iinc (v := nI (i + 1)) (lv' := [(3, .int (nI (i + 1))), (2, .int (zb false)), (0, .ref (ad 0 0)), (1, .int (nI x))]) hx hb dX4_isAddress_59 hl (k := 3) rfl (nI_1 i) (by decide) rfl (fun ls hl => ?_)
              refine lv_goto (tgt := 21) hx hb dX4_isAddress_62 (by decide) ?_
              exact loop_ih (i + 1) false ls (by omega) (by omega) (by rw [hj2]; exact hV) (lv_sub hl [2, 3, 1, 0] rfl)
            · -- 50 f
              refine lv_iconst (v := 1) hx hb dX4_isAddress_53 (by decide) ?_
              refine lv_goto (tgt := 58) hx hb dX4_isAddress_54 (by decide) ?_
              refine lv_topi (fun y12 ey12 => ?_)
              obtain rfl : y12 = zb true := ey12.trans (rfl)
              rw [if_pos c_50] at hV
              have hV : V = zb (true && sameF (fun i => σ 18 (30 * x + i)) (σ 6) j (i + 1)) := hV
              refine lv_istore_n (lv' := [(2, .int (zb true)), (0, .ref (ad 0 0)), (1, .int (nI x)), (3, .int (nI i))]) hx hb dX4_isAddress_58 rfl hl (by decide) rfl (fun ls hl => ?_)
              refine lv_iinc (v := nI (i + 1)) (lv' := [(3, .int (nI (i + 1))), (2, .int (zb true)), (0, .ref (ad 0 0)), (1, .int (nI x))]) hx hb dX4_isAddress_59 hl (k := 3) rfl (nI_1 i) (by decide) rfl (fun ls hl => ?_)
              refine lv_goto (tgt := 21) hx hb dX4_isAddress_62 (by decide) ?_
              exact loop_ih (i + 1) true ls (by omega) (by omega) (by rw [hj2]; exact hV) (lv_sub hl [2, 3, 1, 0] rfl)
    exact loop (ν 1 0 + 1) 0 (decide (ν 3 x = ν 1 0)) ls (Nat.zero_le _) (by omega) hV (lv_sub hl [2, 3, 1, 0] rfl)
