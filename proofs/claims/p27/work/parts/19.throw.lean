/-! Politecrawl: the methods that may throw, but find -/
def dueC (τ : IT) (q : Nat) : Int32 := if keptC τ q = true then τ 11 q else -1
def passC (τ : IT) (t : Int32) : IT := if τ 0 0 + t < spanC τ then up2 τ 0 0 (τ 0 0 + t) else up2 (up2 τ 20 0 0) 0 0 (τ 0 0 + t)
def visA (τ : IT) (ν : NT) (q : Nat) (o : Int32) : IT := settleC (up2 τ 20 0 (τ 20 0 + 1)) ν q o
def visC (τ : IT) (ν : NT) (q : Nat) (o : Int32) : IT := up2 (visA τ ν q o) 9 (ν 5 q) (visA τ ν q o 0 0 + visA τ ν q o 7 (ν 5 q) <<< (mn (visA τ ν q o 8 (ν 5 q)) 5 &&& 31))
def svN (τ : IT) (ν : NT) : Nat → IT
  | 0 => fgL τ (ν 0 0) 30
  | k + 1 => incC (svN τ ν k) (bstL (svN τ ν k) ν 30 0 none)

set_option maxRecDepth 100000 in
theorem xm_X3_setRest_xcA : ∀ w ∈ (vx_atS "Politecrawl" 43 xcA xnm).filter goodWord, w ∈ wsX3_setRest := by decide +kernel
set_option maxHeartbeats 4000000 in
set_option maxRecDepth 100000 in
/-- setRest -/
theorem m_X3_setRest (l : Launch) (hl9 : l.stackTraces = false) (D : va_G) (cy : Nat → ClassId) (A9 : Nat → Prop) (sz : Nat) (ad : NT) (τ : IT) (ν : NT) (hJ : wJ (cC (ν 0 0)) ad) (h r : Int32) : vx_Met l yX3_setRest wsX3_setRest ({ frames := 7, cells := 2, slots := 12, locals := 120 } : Room) (va_Pc [.ref (ad 0 0), .int h, .int r] (fun U => gK D cy U ∧ xK A9 U U.heap ∧ (atSz sz (CW D cy ad τ ν)) U.heap)) (kQ (hostB h = true ∧ inB r 1 100 = true) (uQ (some (.int (τ 7 h.toNatClampNeg))) (CW D cy ad (up2 τ 7 h.toNatClampNeg r) ν) (wA (cC (ν 0 0)) ad sz))) (xQ (fun E => (hostB h = false ∧ E = xcI) ∨ (hostB h = true ∧ inB r 1 100 = false ∧ E = xcA))) 2 12 (wA (cC (ν 0 0)) ad sz) := by
  refine vx_ofW (cc := cX3_setRest) (maxL := 5) (ret := (some .int)) (by decide) rfl ?_
  intro p e s m args below meth c s₁ B9 hml ht9 hv
  obtain ⟨rfl, hK, hX9, hsz, hB⟩ := hv
  have hx := B9.exec
  have hb := B9.bytes
  have hr := B9.returns
  have hts := atoms_spec (ws := wsX3_setRest) B9.pre
  have hown : s.vm.findClass RX3 = some m.cls := findClass_of_methodNamed B9.named
  have hlocks := B9.notSynchronized
  subst hsz
  have hS : va_S (wA (cC (ν 0 0)) ad s.heap.size) s.heap s.heap [] := va_S.rf
  have lk77 := hts (.fieldLink RX3 77 "Politecrawl$Host" "rest" "I") (by decide +kernel)
  have inX1 : ∀ w ∈ u_ws RX1 TX1 3, w ∈ wsX3_setRest := by decide +kernel
  have hl := lv_entry ([.ref (ad 0 0), .int h, .int r]) (n := 5) (Nat.le_of_ble_eq_true rfl)
  rw [lg_entry_eq]
  generalize (lg_sl ([.ref (ad 0 0), .int h, .int r]) ++ List.replicate (5 - (lg_sl ([.ref (ad 0 0), .int h, .int r])).length) Slot.unset).toArray = ls at hl ⊢
  have hl : lv_has ls 5 [(0, .ref (ad 0 0)), (1, .int h), (2, .int r)] := hl
  refine lv_aload_n hx hb dX3_setRest_0 rfl (lv_at hl 0 rfl) ?_
  refine lv_iload_n hx hb dX3_setRest_1 rfl (lv_at hl 1 rfl) ?_
  refine x_call1 (vx_runV (As := [.int h]) (rest := []) ⟨hx, hb, hml, hown, hts⟩ (m_X3_knownHost l hl9 D cy A9 ad τ ν h) (cwV 1 hts gX3_setRest_X3_knownHost rfl rfl rfl (by decide +kernel) ⟨Nat.le_of_ble_eq_true rfl, Nat.le_of_ble_eq_true rfl⟩) (x_preV (C := RX3) (B := CW D cy ad τ ν) hK hX9 hB (hB 0 0 Nat.zero_lt_one) rfl) rfl rfl hl.1 rfl (lv_room (Nat.le_of_ble_eq_true rfl)) dX3_setRest_2 ⟨Nat.le_of_ble_eq_true rfl, Nat.le_of_ble_eq_true rfl⟩) hlocks ht9 (fun E hE => Or.inl hE) (Nat.le_of_ble_eq_true rfl) (Nat.le_of_ble_eq_true rfl) (fun hk9 => ?_)
  obtain ⟨q0, hq0, eh⟩ := idx_host hk9
  have ec : h.toNatClampNeg = q0 := by rw [eh, cl_nI (by omega)]
  refine g_top (v' := .ref (ad 6 q0)) (by rw [ec]) ?_
  refine lv_astore_n (lv' := [(3, .ref (ad 6 q0)), (0, .ref (ad 0 0)), (1, .int h), (2, .int r)]) hx hb dX3_setRest_5 rfl hl (by decide) rfl (fun ls hl => ?_)
  refine lv_iload_n hx hb dX3_setRest_6 rfl (lv_at hl 3 rfl) ?_
  refine lv_iconst (v := 1) hx hb dX3_setRest_7 (by decide) ?_
  refine lv_icmp_lt (tgt := 17) hx hb dX3_setRest_8 (by decide) (fun c_8 => ?_) (fun c_8 => ?_)
  · -- 8 t
    obtain ⟨sa9, hsa9⟩ := hX9.2.2.2.2 (75, "the rest is out of range") (by decide)
    exact vx_throwS (own := "Politecrawl") (cls := xcA) (text := "the rest is out of range") (names := xnm) (ik := 39) (is := 75) (ic := 43) (sa := sa9) (A := A9) hx hb hl9 hown (by decide +kernel) (by decide +kernel) (hts _ (by decide +kernel)) (hts _ (by decide +kernel)) hsa9 (vx_hat (fun w hw => hts w (xm_X3_setRest_xcA w hw)) xw_xcA (vx_c (va_Nw.use rfl (hX9.2.2.1 xcA (by decide))) (vx_c (va_Nw.use rfl (hX9.2.2.2.1 _ (by decide))) (vx_c (va_Nw.use rfl (hX9.2.2.2.1 _ (by decide))) (vx_c (va_Nw.use rfl (hX9.2.2.2.1 _ (by decide))) vx_n))))) xg_xcA hX9.1 hX9.2.1 va_S.rf (by rw [hml]; exact hl.1) dX3_setRest_17 dX3_setRest_20 dX3_setRest_21 dX3_setRest_23 dX3_setRest_26 (fun x hx => (ht9 x hx).elim) (Nat.le_of_ble_eq_true rfl) (Nat.le_of_ble_eq_true rfl) (Nat.le_of_ble_eq_true rfl) (Nat.le_of_ble_eq_true rfl) hlocks (fun t _ z1 z2 => ⟨Or.inr ⟨hk9, in_no1 c_8, rfl⟩, z1, z2⟩) (fun z hz => nomatch hz) (Nat.le_of_ble_eq_true rfl) (Nat.le_of_ble_eq_true rfl)
  · -- 8 f
    refine lv_iload_n hx hb dX3_setRest_11 rfl (lv_at hl 3 rfl) ?_
    refine lv_bipush (v := 100) hx hb dX3_setRest_12 (by decide) ?_
    refine lv_icmp_le (tgt := 27) hx hb dX3_setRest_14 (by decide) (fun c_14 => ?_) (fun c_14 => ?_)
    · -- 14 t
      refine lv_aload_n hx hb dX3_setRest_27 rfl (lv_at hl 0 rfl) ?_
      refine g_get (C := RX1) (T := TX1) (N := 3) (ci := 1) (fs := [.int (τ 7 q0), .int (τ 8 q0), .int (τ 9 q0)]) hx hb hts inX1 hown hK (hB 6 q0 hq0) rfl 0 (by decide) lk77 rfl rfl dX3_setRest_28 ?_
      refine lv_istore (lv' := [(4, .int (τ 7 q0)), (3, .ref (ad 6 q0)), (0, .ref (ad 0 0)), (1, .int h), (2, .int r)]) hx hb dX3_setRest_31 hl (by decide) rfl (fun ls hl => ?_)
      refine lv_aload_n hx hb dX3_setRest_33 rfl (lv_at hl 1 rfl) ?_
      refine lv_iload_n hx hb dX3_setRest_34 rfl (lv_at hl 4 rfl) ?_
      refine g_put (C := RX1) (T := TX1) (N := 3) (ci := 1) (fs := [.int (τ 7 q0), .int (τ 8 q0), .int (τ 9 q0)]) (A := (wA (cC (ν 0 0)) ad s.heap.size)) hx hb hts inX1 tyX1 tyX1_ok nmX1 hown hK (hB 6 q0 hq0) rfl hS (wA.in (cn := cC (ν 0 0)) (k := 6) (i := q0) (hq0)) 0 (by decide) lk77 rfl rfl rfl rfl (Nat.le_of_ble_eq_true rfl) dX3_setRest_35 (fun H1 locs1 hc1 hu1 hS1 => ?_)
      have hB1 : CW D cy ad (up2 τ 7 q0 r) ν H1 := hB.h7 hJ (hq0) hc1 hu1
      obtain ⟨τ1, hs1⟩ : ∃ z : IT, z = up2 τ 7 q0 r := ⟨_, rfl⟩
      rw [← hs1] at hB1
      refine lv_iload hx hb dX3_setRest_38 (lv_at hl 0 rfl) ?_
      exact x_ret ⟨hk9, in_of c_8 c_14⟩ (g_iretU hx hb hr hlocks hS1 (by rw [ec]; rw [hs1] at hB1; exact hB1) (Nat.le_of_ble_eq_true rfl) (Nat.le_of_ble_eq_true rfl) dX3_setRest_40 (by rw [ec]))
    · -- 14 f
      obtain ⟨sa9, hsa9⟩ := hX9.2.2.2.2 (75, "the rest is out of range") (by decide)
      exact vx_throwS (own := "Politecrawl") (cls := xcA) (text := "the rest is out of range") (names := xnm) (ik := 39) (is := 75) (ic := 43) (sa := sa9) (A := A9) hx hb hl9 hown (by decide +kernel) (by decide +kernel) (hts _ (by decide +kernel)) (hts _ (by decide +kernel)) hsa9 (vx_hat (fun w hw => hts w (xm_X3_setRest_xcA w hw)) xw_xcA (vx_c (va_Nw.use rfl (hX9.2.2.1 xcA (by decide))) (vx_c (va_Nw.use rfl (hX9.2.2.2.1 _ (by decide))) (vx_c (va_Nw.use rfl (hX9.2.2.2.1 _ (by decide))) (vx_c (va_Nw.use rfl (hX9.2.2.2.1 _ (by decide))) vx_n))))) xg_xcA hX9.1 hX9.2.1 va_S.rf (by rw [hml]; exact hl.1) dX3_setRest_17 dX3_setRest_20 dX3_setRest_21 dX3_setRest_23 dX3_setRest_26 (fun x hx => (ht9 x hx).elim) (Nat.le_of_ble_eq_true rfl) (Nat.le_of_ble_eq_true rfl) (Nat.le_of_ble_eq_true rfl) (Nat.le_of_ble_eq_true rfl) hlocks (fun t _ z1 z2 => ⟨Or.inr ⟨hk9, in_no2 c_14, rfl⟩, z1, z2⟩) (fun z hz => nomatch hz) (Nat.le_of_ble_eq_true rfl) (Nat.le_of_ble_eq_true rfl)

set_option maxHeartbeats 4000000 in
set_option maxRecDepth 100000 in
/-- failures -/
theorem m_X3_failures (l : Launch) (hl9 : l.stackTraces = false) (D : va_G) (cy : Nat → ClassId) (A9 : Nat → Prop) (ad : NT) (τ : IT) (ν : NT) (h : Int32) : vx_Met l yX3_failures wsX3_failures ({ frames := 7, cells := 1, slots := 6, locals := 120 } : Room) (va_Pc [.ref (ad 0 0), .int h] (fun U => gK D cy U ∧ xK A9 U U.heap ∧ (CW D cy ad τ ν) U.heap)) (kQ (hostB h = true) (rQ (some (.int (τ 8 h.toNatClampNeg))))) (xQ (fun E => hostB h = false ∧ E = xcI)) 1 6 (fun _ => False) := by
  refine vx_ofW (cc := cX3_failures) (maxL := 2) (ret := (some .int)) (by decide) rfl ?_
  intro p e s m args below meth c s₁ B9 hml ht9 hv
  obtain ⟨rfl, hK, hX9, hB⟩ := hv
  have hx := B9.exec
  have hb := B9.bytes
  have hr := B9.returns
  have hts := atoms_spec (ws := wsX3_failures) B9.pre
  have hown : s.vm.findClass RX3 = some m.cls := findClass_of_methodNamed B9.named
  have hlocks := B9.notSynchronized
  have lk86 := hts (.fieldLink RX3 86 "Politecrawl$Host" "failures" "I") (by decide +kernel)
  have inX1 : ∀ w ∈ u_ws RX1 TX1 3, w ∈ wsX3_failures := by decide +kernel
  have hl := lv_entry ([.ref (ad 0 0), .int h]) (n := 2) (Nat.le_of_ble_eq_true rfl)
  rw [lg_entry_eq]
  generalize (lg_sl ([.ref (ad 0 0), .int h]) ++ List.replicate (2 - (lg_sl ([.ref (ad 0 0), .int h])).length) Slot.unset).toArray = ls at hl ⊢
  have hl : lv_has ls 2 [(0, .ref (ad 0 0)), (1, .int h)] := hl
  refine lv_aload_n hx hb dX3_failures_0 rfl (lv_at hl 0 rfl) ?_
  refine lv_iload_n hx hb dX3_failures_1 rfl (lv_at hl 1 rfl) ?_
  refine x_call1 (vx_runV (As := [.int h]) (rest := []) ⟨hx, hb, hml, hown, hts⟩ (m_X3_knownHost l hl9 D cy A9 ad τ ν h) (cwV 1 hts gX3_failures_X3_knownHost rfl rfl rfl (by decide +kernel) ⟨Nat.le_of_ble_eq_true rfl, Nat.le_of_ble_eq_true rfl⟩) (x_preV (C := RX3) (B := CW D cy ad τ ν) hK hX9 hB (hB 0 0 Nat.zero_lt_one) rfl) rfl rfl hl.1 rfl (lv_room (Nat.le_of_ble_eq_true rfl)) dX3_failures_2 ⟨Nat.le_of_ble_eq_true rfl, Nat.le_of_ble_eq_true rfl⟩) hlocks ht9 (fun E hE => hE) (Nat.le_of_ble_eq_true rfl) (Nat.le_of_ble_eq_true rfl) (fun hk9 => ?_)
  obtain ⟨q0, hq0, eh⟩ := idx_host hk9
  have ec : h.toNatClampNeg = q0 := by rw [eh, cl_nI (by omega)]
  refine g_top (v' := .ref (ad 6 q0)) (by rw [ec]) ?_
  refine g_get (C := RX1) (T := TX1) (N := 3) (ci := 1) (fs := [.int (τ 7 q0), .int (τ 8 q0), .int (τ 9 q0)]) hx hb hts inX1 hown hK (hB 6 q0 hq0) rfl 1 (by decide) lk86 rfl rfl dX3_failures_5 ?_
  exact x_ret hk9 (x_iret hx hb hr hlocks (Nat.le_of_ble_eq_true rfl) (Nat.le_of_ble_eq_true rfl) dX3_failures_8 (by rw [ec]))

set_option maxHeartbeats 4000000 in
set_option maxRecDepth 100000 in
/-- openFrom -/
theorem m_X3_openFrom (l : Launch) (hl9 : l.stackTraces = false) (D : va_G) (cy : Nat → ClassId) (A9 : Nat → Prop) (ad : NT) (τ : IT) (ν : NT) (h : Int32) : vx_Met l yX3_openFrom wsX3_openFrom ({ frames := 7, cells := 1, slots := 6, locals := 120 } : Room) (va_Pc [.ref (ad 0 0), .int h] (fun U => gK D cy U ∧ xK A9 U U.heap ∧ (CW D cy ad τ ν) U.heap)) (kQ (hostB h = true) (rQ (some (.int (τ 9 h.toNatClampNeg))))) (xQ (fun E => hostB h = false ∧ E = xcI)) 1 6 (fun _ => False) := by
  refine vx_ofW (cc := cX3_openFrom) (maxL := 2) (ret := (some .int)) (by decide) rfl ?_
  intro p e s m args below meth c s₁ B9 hml ht9 hv
  obtain ⟨rfl, hK, hX9, hB⟩ := hv
  have hx := B9.exec
  have hb := B9.bytes
  have hr := B9.returns
  have hts := atoms_spec (ws := wsX3_openFrom) B9.pre
  have hown : s.vm.findClass RX3 = some m.cls := findClass_of_methodNamed B9.named
  have hlocks := B9.notSynchronized
  have lk89 := hts (.fieldLink RX3 89 "Politecrawl$Host" "openFrom" "I") (by decide +kernel)
  have inX1 : ∀ w ∈ u_ws RX1 TX1 3, w ∈ wsX3_openFrom := by decide +kernel
  have hl := lv_entry ([.ref (ad 0 0), .int h]) (n := 2) (Nat.le_of_ble_eq_true rfl)
  rw [lg_entry_eq]
  generalize (lg_sl ([.ref (ad 0 0), .int h]) ++ List.replicate (2 - (lg_sl ([.ref (ad 0 0), .int h])).length) Slot.unset).toArray = ls at hl ⊢
  have hl : lv_has ls 2 [(0, .ref (ad 0 0)), (1, .int h)] := hl
  refine lv_aload_n hx hb dX3_openFrom_0 rfl (lv_at hl 0 rfl) ?_
  refine lv_iload_n hx hb dX3_openFrom_1 rfl (lv_at hl 1 rfl) ?_
  refine x_call1 (vx_runV (As := [.int h]) (rest := []) ⟨hx, hb, hml, hown, hts⟩ (m_X3_knownHost l hl9 D cy A9 ad τ ν h) (cwV 1 hts gX3_openFrom_X3_knownHost rfl rfl rfl (by decide +kernel) ⟨Nat.le_of_ble_eq_true rfl, Nat.le_of_ble_eq_true rfl⟩) (x_preV (C := RX3) (B := CW D cy ad τ ν) hK hX9 hB (hB 0 0 Nat.zero_lt_one) rfl) rfl rfl hl.1 rfl (lv_room (Nat.le_of_ble_eq_true rfl)) dX3_openFrom_2 ⟨Nat.le_of_ble_eq_true rfl, Nat.le_of_ble_eq_true rfl⟩) hlocks ht9 (fun E hE => hE) (Nat.le_of_ble_eq_true rfl) (Nat.le_of_ble_eq_true rfl) (fun hk9 => ?_)
  obtain ⟨q0, hq0, eh⟩ := idx_host hk9
  have ec : h.toNatClampNeg = q0 := by rw [eh, cl_nI (by omega)]
  refine g_top (v' := .ref (ad 6 q0)) (by rw [ec]) ?_
  refine g_get (C := RX1) (T := TX1) (N := 3) (ci := 1) (fs := [.int (τ 7 q0), .int (τ 8 q0), .int (τ 9 q0)]) hx hb hts inX1 hown hK (hB 6 q0 hq0) rfl 2 (by decide) lk89 rfl rfl dX3_openFrom_5 ?_
  exact x_ret hk9 (x_iret hx hb hr hlocks (Nat.le_of_ble_eq_true rfl) (Nat.le_of_ble_eq_true rfl) dX3_openFrom_8 (by rw [ec]))

set_option maxRecDepth 100000 in
theorem xm_X3_setPaces_xcA : ∀ w ∈ (vx_atS "Politecrawl" 43 xcA xnm).filter goodWord, w ∈ wsX3_setPaces := by decide +kernel
set_option maxHeartbeats 4000000 in
set_option maxRecDepth 100000 in
/-- setPaces -/
theorem m_X3_setPaces (l : Launch) (hl9 : l.stackTraces = false) (D : va_G) (cy : Nat → ClassId) (A9 : Nat → Prop) (sz : Nat) (ad : NT) (τ : IT) (ν : NT) (hJ : wJ (cC (ν 0 0)) ad) (a b : Int32) : vx_Met l yX3_setPaces wsX3_setPaces ({ frames := 6, cells := 1, slots := 6, locals := 90 } : Room) (va_Pc [.ref (ad 0 0), .int a, .int b] (fun U => gK D cy U ∧ xK A9 U U.heap ∧ (atSz sz (CW D cy ad τ ν)) U.heap)) (kQ (inB a 1 1000 = true ∧ inB b a 5000 = true) (uQ none (CW D cy ad (up2 (up2 τ 1 0 a) 2 0 b) ν) (wA (cC (ν 0 0)) ad sz))) (xQ (fun E => (inB a 1 1000 = false ∨ inB b a 5000 = false) ∧ E = xcA)) 1 6 (wA (cC (ν 0 0)) ad sz) := by
  refine vx_ofW (cc := cX3_setPaces) (maxL := 3) (ret := none) (by decide) rfl ?_
  intro p e s m args below meth c s₁ B9 hml ht9 hv
  obtain ⟨rfl, hK, hX9, hsz, hB⟩ := hv
  have hx := B9.exec
  have hb := B9.bytes
  have hr := B9.returns
  have hts := atoms_spec (ws := wsX3_setPaces) B9.pre
  have hown : s.vm.findClass RX3 = some m.cls := findClass_of_methodNamed B9.named
  have hlocks := B9.notSynchronized
  subst hsz
  have hS : va_S (wA (cC (ν 0 0)) ad s.heap.size) s.heap s.heap [] := va_S.rf
  have lk29 := hts (.fieldLink RX3 29 "Politecrawl" "shortestPace" "I") (by decide +kernel)
  have inX3 : ∀ w ∈ u_ws RX3 TX3 9, w ∈ wsX3_setPaces := by decide +kernel
  have lk33 := hts (.fieldLink RX3 33 "Politecrawl" "longestPace" "I") (by decide +kernel)
  have hl := lv_entry ([.ref (ad 0 0), .int a, .int b]) (n := 3) (Nat.le_of_ble_eq_true rfl)
  rw [lg_entry_eq]
  generalize (lg_sl ([.ref (ad 0 0), .int a, .int b]) ++ List.replicate (3 - (lg_sl ([.ref (ad 0 0), .int a, .int b])).length) Slot.unset).toArray = ls at hl ⊢
  have hl : lv_has ls 3 [(0, .ref (ad 0 0)), (1, .int a), (2, .int b)] := hl
  refine lv_iload_n hx hb dX3_setPaces_0 rfl (lv_at hl 1 rfl) ?_
  refine lv_iconst (v := 1) hx hb dX3_setPaces_1 (by decide) ?_
  refine lv_icmp_lt (tgt := 12) hx hb dX3_setPaces_2 (by decide) (fun c_2 => ?_) (fun c_2 => ?_)
  · -- 2 t
    obtain ⟨sa9, hsa9⟩ := hX9.2.2.2.2 (80, "the shortest pace is out of range") (by decide)
    exact vx_throwS (own := "Politecrawl") (cls := xcA) (text := "the shortest pace is out of range") (names := xnm) (ik := 39) (is := 80) (ic := 43) (sa := sa9) (A := A9) hx hb hl9 hown (by decide +kernel) (by decide +kernel) (hts _ (by decide +kernel)) (hts _ (by decide +kernel)) hsa9 (vx_hat (fun w hw => hts w (xm_X3_setPaces_xcA w hw)) xw_xcA (vx_c (va_Nw.use rfl (hX9.2.2.1 xcA (by decide))) (vx_c (va_Nw.use rfl (hX9.2.2.2.1 _ (by decide))) (vx_c (va_Nw.use rfl (hX9.2.2.2.1 _ (by decide))) (vx_c (va_Nw.use rfl (hX9.2.2.2.1 _ (by decide))) vx_n))))) xg_xcA hX9.1 hX9.2.1 va_S.rf (by rw [hml]; exact hl.1) dX3_setPaces_12 dX3_setPaces_15 dX3_setPaces_16 dX3_setPaces_18 dX3_setPaces_21 (fun x hx => (ht9 x hx).elim) (Nat.le_of_ble_eq_true rfl) (Nat.le_of_ble_eq_true rfl) (Nat.le_of_ble_eq_true rfl) (Nat.le_of_ble_eq_true rfl) hlocks (fun t _ z1 z2 => ⟨⟨Or.inl (in_no1 c_2), rfl⟩, z1, z2⟩) (fun z hz => nomatch hz) (Nat.le_of_ble_eq_true rfl) (Nat.le_of_ble_eq_true rfl)
  · -- 2 f
    refine lv_iload_n hx hb dX3_setPaces_5 rfl (lv_at hl 1 rfl) ?_
    refine lv_sipush (v := 1000) hx hb dX3_setPaces_6 (by decide) ?_
    refine lv_icmp_le (tgt := 22) hx hb dX3_setPaces_9 (by decide) (fun c_9 => ?_) (fun c_9 => ?_)
    · -- 9 t
      refine lv_iload_n hx hb dX3_setPaces_22 rfl (lv_at hl 2 rfl) ?_
      refine lv_iload_n hx hb dX3_setPaces_23 rfl (lv_at hl 1 rfl) ?_
      refine lv_icmp_lt (tgt := 34) hx hb dX3_setPaces_24 (by decide) (fun c_24 => ?_) (fun c_24 => ?_)
      · -- 24 t
        obtain ⟨sa9, hsa9⟩ := hX9.2.2.2.2 (82, "the longest pace is out of range") (by decide)
        exact vx_throwS (own := "Politecrawl") (cls := xcA) (text := "the longest pace is out of range") (names := xnm) (ik := 39) (is := 82) (ic := 43) (sa := sa9) (A := A9) hx hb hl9 hown (by decide +kernel) (by decide +kernel) (hts _ (by decide +kernel)) (hts _ (by decide +kernel)) hsa9 (vx_hat (fun w hw => hts w (xm_X3_setPaces_xcA w hw)) xw_xcA (vx_c (va_Nw.use rfl (hX9.2.2.1 xcA (by decide))) (vx_c (va_Nw.use rfl (hX9.2.2.2.1 _ (by decide))) (vx_c (va_Nw.use rfl (hX9.2.2.2.1 _ (by decide))) (vx_c (va_Nw.use rfl (hX9.2.2.2.1 _ (by decide))) vx_n))))) xg_xcA hX9.1 hX9.2.1 va_S.rf (by rw [hml]; exact hl.1) dX3_setPaces_34 dX3_setPaces_37 dX3_setPaces_38 dX3_setPaces_40 dX3_setPaces_43 (fun x hx => (ht9 x hx).elim) (Nat.le_of_ble_eq_true rfl) (Nat.le_of_ble_eq_true rfl) (Nat.le_of_ble_eq_true rfl) (Nat.le_of_ble_eq_true rfl) hlocks (fun t _ z1 z2 => ⟨⟨Or.inr (in_no1 c_24), rfl⟩, z1, z2⟩) (fun z hz => nomatch hz) (Nat.le_of_ble_eq_true rfl) (Nat.le_of_ble_eq_true rfl)
      · -- 24 f
        refine lv_iload_n hx hb dX3_setPaces_27 rfl (lv_at hl 2 rfl) ?_
        refine lv_sipush (v := 5000) hx hb dX3_setPaces_28 (by decide) ?_
        refine lv_icmp_le (tgt := 44) hx hb dX3_setPaces_31 (by decide) (fun c_31 => ?_) (fun c_31 => ?_)
        · -- 31 t
          refine lv_aload_n hx hb dX3_setPaces_44 rfl (lv_at hl 0 rfl) ?_
          refine lv_iload_n hx hb dX3_setPaces_45 rfl (lv_at hl 1 rfl) ?_
          refine g_put (C := RX3) (T := TX3) (N := 9) (ci := 3) (fs := [.ref (ad 1 0), .ref (ad 2 0), .ref (ad 3 0), .int (nI (ν 0 0)), .int (τ 0 0), .int (τ 1 0), .int (τ 2 0), .int (τ 3 0), .int (τ 20 0)]) (A := (wA (cC (ν 0 0)) ad s.heap.size)) hx hb hts inX3 tyX3 tyX3_ok nmX3 hown hK (hB 0 0 Nat.zero_lt_one) rfl hS (wA.in (cn := cC (ν 0 0)) (k := 0) (i := 0) (Nat.zero_lt_one)) 5 (by decide) lk29 rfl rfl rfl rfl (Nat.le_of_ble_eq_true rfl) dX3_setPaces_46 (fun H1 locs1 hc1 hu1 hS1 => ?_)
          have hB1 : CW D cy ad (up2 τ 1 0 a) ν H1 := hB.sc hJ (by decide) hc1 hu1
          obtain ⟨τ1, hs1⟩ : ∃ z : IT, z = up2 τ 1 0 a := ⟨_, rfl⟩
          rw [← hs1] at hB1
          refine lv_aload_n hx hb dX3_setPaces_49 rfl (lv_at hl 0 rfl) ?_
          refine lv_iload_n hx hb dX3_setPaces_50 rfl (lv_at hl 2 rfl) ?_
          refine g_put (C := RX3) (T := TX3) (N := 9) (ci := 3) (fs := [.ref (ad 1 0), .ref (ad 2 0), .ref (ad 3 0), .int (nI (ν 0 0)), .int (τ1 0 0), .int (τ1 1 0), .int (τ1 2 0), .int (τ1 3 0), .int (τ1 20 0)]) (A := (wA (cC (ν 0 0)) ad s.heap.size)) hx hb hts inX3 tyX3 tyX3_ok nmX3 hown hK (hB1 0 0 Nat.zero_lt_one) rfl hS1 (wA.in (cn := cC (ν 0 0)) (k := 0) (i := 0) (Nat.zero_lt_one)) 6 (by decide) lk33 rfl rfl rfl rfl (Nat.le_of_ble_eq_true rfl) dX3_setPaces_51 (fun H2 locs2 hc2 hu2 hS2 => ?_)
          have hB2 : CW D cy ad (up2 τ1 2 0 b) ν H2 := hB1.sc hJ (by decide) hc2 hu2
          obtain ⟨τ2, hs2⟩ : ∃ z : IT, z = up2 τ1 2 0 b := ⟨_, rfl⟩
          rw [← hs2] at hB2
          exact x_ret ⟨in_of c_2 c_9, in_of c_24 c_31⟩ (g_vretU hx hb hr hlocks hS2 (by rw [hs2, hs1] at hB2; exact hB2) (Nat.le_of_ble_eq_true rfl) (Nat.le_of_ble_eq_true rfl) dX3_setPaces_54)
        · -- 31 f
          obtain ⟨sa9, hsa9⟩ := hX9.2.2.2.2 (82, "the longest pace is out of range") (by decide)
          exact vx_throwS (own := "Politecrawl") (cls := xcA) (text := "the longest pace is out of range") (names := xnm) (ik := 39) (is := 82) (ic := 43) (sa := sa9) (A := A9) hx hb hl9 hown (by decide +kernel) (by decide +kernel) (hts _ (by decide +kernel)) (hts _ (by decide +kernel)) hsa9 (vx_hat (fun w hw => hts w (xm_X3_setPaces_xcA w hw)) xw_xcA (vx_c (va_Nw.use rfl (hX9.2.2.1 xcA (by decide))) (vx_c (va_Nw.use rfl (hX9.2.2.2.1 _ (by decide))) (vx_c (va_Nw.use rfl (hX9.2.2.2.1 _ (by decide))) (vx_c (va_Nw.use rfl (hX9.2.2.2.1 _ (by decide))) vx_n))))) xg_xcA hX9.1 hX9.2.1 va_S.rf (by rw [hml]; exact hl.1) dX3_setPaces_34 dX3_setPaces_37 dX3_setPaces_38 dX3_setPaces_40 dX3_setPaces_43 (fun x hx => (ht9 x hx).elim) (Nat.le_of_ble_eq_true rfl) (Nat.le_of_ble_eq_true rfl) (Nat.le_of_ble_eq_true rfl) (Nat.le_of_ble_eq_true rfl) hlocks (fun t _ z1 z2 => ⟨⟨Or.inr (in_no2 c_31), rfl⟩, z1, z2⟩) (fun z hz => nomatch hz) (Nat.le_of_ble_eq_true rfl) (Nat.le_of_ble_eq_true rfl)
    · -- 9 f
      obtain ⟨sa9, hsa9⟩ := hX9.2.2.2.2 (80, "the shortest pace is out of range") (by decide)
      exact vx_throwS (own := "Politecrawl") (cls := xcA) (text := "the shortest pace is out of range") (names := xnm) (ik := 39) (is := 80) (ic := 43) (sa := sa9) (A := A9) hx hb hl9 hown (by decide +kernel) (by decide +kernel) (hts _ (by decide +kernel)) (hts _ (by decide +kernel)) hsa9 (vx_hat (fun w hw => hts w (xm_X3_setPaces_xcA w hw)) xw_xcA (vx_c (va_Nw.use rfl (hX9.2.2.1 xcA (by decide))) (vx_c (va_Nw.use rfl (hX9.2.2.2.1 _ (by decide))) (vx_c (va_Nw.use rfl (hX9.2.2.2.1 _ (by decide))) (vx_c (va_Nw.use rfl (hX9.2.2.2.1 _ (by decide))) vx_n))))) xg_xcA hX9.1 hX9.2.1 va_S.rf (by rw [hml]; exact hl.1) dX3_setPaces_12 dX3_setPaces_15 dX3_setPaces_16 dX3_setPaces_18 dX3_setPaces_21 (fun x hx => (ht9 x hx).elim) (Nat.le_of_ble_eq_true rfl) (Nat.le_of_ble_eq_true rfl) (Nat.le_of_ble_eq_true rfl) (Nat.le_of_ble_eq_true rfl) hlocks (fun t _ z1 z2 => ⟨⟨Or.inl (in_no2 c_9), rfl⟩, z1, z2⟩) (fun z hz => nomatch hz) (Nat.le_of_ble_eq_true rfl) (Nat.le_of_ble_eq_true rfl)

set_option maxRecDepth 100000 in
theorem xm_X3_setBudget_xcA : ∀ w ∈ (vx_atS "Politecrawl" 43 xcA xnm).filter goodWord, w ∈ wsX3_setBudget := by decide +kernel
set_option maxHeartbeats 4000000 in
set_option maxRecDepth 100000 in
/-- setBudget -/
theorem m_X3_setBudget (l : Launch) (hl9 : l.stackTraces = false) (D : va_G) (cy : Nat → ClassId) (A9 : Nat → Prop) (sz : Nat) (ad : NT) (τ : IT) (ν : NT) (hJ : wJ (cC (ν 0 0)) ad) (v0 : Int32) : vx_Met l yX3_setBudget wsX3_setBudget ({ frames := 6, cells := 1, slots := 6, locals := 90 } : Room) (va_Pc [.ref (ad 0 0), .int v0] (fun U => gK D cy U ∧ xK A9 U U.heap ∧ (atSz sz (CW D cy ad τ ν)) U.heap)) (kQ (inB v0 1 100 = true) (uQ (some (.int (τ 3 0))) (CW D cy ad (up2 τ 3 0 v0) ν) (wA (cC (ν 0 0)) ad sz))) (xQ (fun E => inB v0 1 100 = false ∧ E = xcA)) 1 6 (wA (cC (ν 0 0)) ad sz) := by
  refine vx_ofW (cc := cX3_setBudget) (maxL := 3) (ret := (some .int)) (by decide) rfl ?_
  intro p e s m args below meth c s₁ B9 hml ht9 hv
  obtain ⟨rfl, hK, hX9, hsz, hB⟩ := hv
  have hx := B9.exec
  have hb := B9.bytes
  have hr := B9.returns
  have hts := atoms_spec (ws := wsX3_setBudget) B9.pre
  have hown : s.vm.findClass RX3 = some m.cls := findClass_of_methodNamed B9.named
  have hlocks := B9.notSynchronized
  subst hsz
  have hS : va_S (wA (cC (ν 0 0)) ad s.heap.size) s.heap s.heap [] := va_S.rf
  have lk36 := hts (.fieldLink RX3 36 "Politecrawl" "budget" "I") (by decide +kernel)
  have inX3 : ∀ w ∈ u_ws RX3 TX3 9, w ∈ wsX3_setBudget := by decide +kernel
  have hl := lv_entry ([.ref (ad 0 0), .int v0]) (n := 3) (Nat.le_of_ble_eq_true rfl)
  rw [lg_entry_eq]
  generalize (lg_sl ([.ref (ad 0 0), .int v0]) ++ List.replicate (3 - (lg_sl ([.ref (ad 0 0), .int v0])).length) Slot.unset).toArray = ls at hl ⊢
  have hl : lv_has ls 3 [(0, .ref (ad 0 0)), (1, .int v0)] := hl
  refine lv_iload_n hx hb dX3_setBudget_0 rfl (lv_at hl 1 rfl) ?_
  refine lv_iconst (v := 1) hx hb dX3_setBudget_1 (by decide) ?_
  refine lv_icmp_lt (tgt := 11) hx hb dX3_setBudget_2 (by decide) (fun c_2 => ?_) (fun c_2 => ?_)
  · -- 2 t
    obtain ⟨sa9, hsa9⟩ := hX9.2.2.2.2 (84, "the budget is out of range") (by decide)
    exact vx_throwS (own := "Politecrawl") (cls := xcA) (text := "the budget is out of range") (names := xnm) (ik := 39) (is := 84) (ic := 43) (sa := sa9) (A := A9) hx hb hl9 hown (by decide +kernel) (by decide +kernel) (hts _ (by decide +kernel)) (hts _ (by decide +kernel)) hsa9 (vx_hat (fun w hw => hts w (xm_X3_setBudget_xcA w hw)) xw_xcA (vx_c (va_Nw.use rfl (hX9.2.2.1 xcA (by decide))) (vx_c (va_Nw.use rfl (hX9.2.2.2.1 _ (by decide))) (vx_c (va_Nw.use rfl (hX9.2.2.2.1 _ (by decide))) (vx_c (va_Nw.use rfl (hX9.2.2.2.1 _ (by decide))) vx_n))))) xg_xcA hX9.1 hX9.2.1 va_S.rf (by rw [hml]; exact hl.1) dX3_setBudget_11 dX3_setBudget_14 dX3_setBudget_15 dX3_setBudget_17 dX3_setBudget_20 (fun x hx => (ht9 x hx).elim) (Nat.le_of_ble_eq_true rfl) (Nat.le_of_ble_eq_true rfl) (Nat.le_of_ble_eq_true rfl) (Nat.le_of_ble_eq_true rfl) hlocks (fun t _ z1 z2 => ⟨⟨in_no1 c_2, rfl⟩, z1, z2⟩) (fun z hz => nomatch hz) (Nat.le_of_ble_eq_true rfl) (Nat.le_of_ble_eq_true rfl)
  · -- 2 f
    refine lv_iload_n hx hb dX3_setBudget_5 rfl (lv_at hl 1 rfl) ?_
    refine lv_bipush (v := 100) hx hb dX3_setBudget_6 (by decide) ?_
    refine lv_icmp_le (tgt := 21) hx hb dX3_setBudget_8 (by decide) (fun c_8 => ?_) (fun c_8 => ?_)
    · -- 8 t
      refine lv_aload_n hx hb dX3_setBudget_21 rfl (lv_at hl 0 rfl) ?_
      refine g_get (C := RX3) (T := TX3) (N := 9) (ci := 3) (fs := [.ref (ad 1 0), .ref (ad 2 0), .ref (ad 3 0), .int (nI (ν 0 0)), .int (τ 0 0), .int (τ 1 0), .int (τ 2 0), .int (τ 3 0), .int (τ 20 0)]) hx hb hts inX3 hown hK (hB 0 0 Nat.zero_lt_one) rfl 7 (by decide) lk36 rfl rfl dX3_setBudget_22 ?_
      refine lv_istore_n (lv' := [(2, .int (τ 3 0)), (0, .ref (ad 0 0)), (1, .int v0)]) hx hb dX3_setBudget_25 rfl hl (by decide) rfl (fun ls hl => ?_)
      refine lv_aload_n hx hb dX3_setBudget_26 rfl (lv_at hl 1 rfl) ?_
      refine lv_iload_n hx hb dX3_setBudget_27 rfl (lv_at hl 2 rfl) ?_
      refine g_put (C := RX3) (T := TX3) (N := 9) (ci := 3) (fs := [.ref (ad 1 0), .ref (ad 2 0), .ref (ad 3 0), .int (nI (ν 0 0)), .int (τ 0 0), .int (τ 1 0), .int (τ 2 0), .int (τ 3 0), .int (τ 20 0)]) (A := (wA (cC (ν 0 0)) ad s.heap.size)) hx hb hts inX3 tyX3 tyX3_ok nmX3 hown hK (hB 0 0 Nat.zero_lt_one) rfl hS (wA.in (cn := cC (ν 0 0)) (k := 0) (i := 0) (Nat.zero_lt_one)) 7 (by decide) lk36 rfl rfl rfl rfl (Nat.le_of_ble_eq_true rfl) dX3_setBudget_28 (fun H1 locs1 hc1 hu1 hS1 => ?_)
      have hB1 : CW D cy ad (up2 τ 3 0 v0) ν H1 := hB.sc hJ (by decide) hc1 hu1
      obtain ⟨τ1, hs1⟩ : ∃ z : IT, z = up2 τ 3 0 v0 := ⟨_, rfl⟩
      rw [← hs1] at hB1
      refine lv_iload_n hx hb dX3_setBudget_31 rfl (lv_at hl 0 rfl) ?_
      exact x_ret (in_of c_2 c_8) (g_iretU hx hb hr hlocks hS1 (by rw [hs1] at hB1; exact hB1) (Nat.le_of_ble_eq_true rfl) (Nat.le_of_ble_eq_true rfl) dX3_setBudget_32 rfl)
    · -- 8 f
      obtain ⟨sa9, hsa9⟩ := hX9.2.2.2.2 (84, "the budget is out of range") (by decide)
      exact vx_throwS (own := "Politecrawl") (cls := xcA) (text := "the budget is out of range") (names := xnm) (ik := 39) (is := 84) (ic := 43) (sa := sa9) (A := A9) hx hb hl9 hown (by decide +kernel) (by decide +kernel) (hts _ (by decide +kernel)) (hts _ (by decide +kernel)) hsa9 (vx_hat (fun w hw => hts w (xm_X3_setBudget_xcA w hw)) xw_xcA (vx_c (va_Nw.use rfl (hX9.2.2.1 xcA (by decide))) (vx_c (va_Nw.use rfl (hX9.2.2.2.1 _ (by decide))) (vx_c (va_Nw.use rfl (hX9.2.2.2.1 _ (by decide))) (vx_c (va_Nw.use rfl (hX9.2.2.2.1 _ (by decide))) vx_n))))) xg_xcA hX9.1 hX9.2.1 va_S.rf (by rw [hml]; exact hl.1) dX3_setBudget_11 dX3_setBudget_14 dX3_setBudget_15 dX3_setBudget_17 dX3_setBudget_20 (fun x hx => (ht9 x hx).elim) (Nat.le_of_ble_eq_true rfl) (Nat.le_of_ble_eq_true rfl) (Nat.le_of_ble_eq_true rfl) (Nat.le_of_ble_eq_true rfl) hlocks (fun t _ z1 z2 => ⟨⟨in_no2 c_8, rfl⟩, z1, z2⟩) (fun z hz => nomatch hz) (Nat.le_of_ble_eq_true rfl) (Nat.le_of_ble_eq_true rfl)

set_option maxHeartbeats 4000000 in
set_option maxRecDepth 100000 in
/-- setRank -/
theorem m_X3_setRank (l : Launch) (hl9 : l.stackTraces = false) (D : va_G) (cy : Nat → ClassId) (A9 : Nat → Prop) (sz : Nat) (ad : NT) (τ : IT) (ν : NT) (hJ : wJ (cC (ν 0 0)) ad) (hn30 : ν 0 0 ≤ 30) (p0 r : Int32) : vx_Met l yX3_setRank wsX3_setRank ({ frames := 7, cells := 2, slots := 12, locals := 120 } : Room) (va_Pc [.ref (ad 0 0), .int p0, .int r] (fun U => gK D cy U ∧ xK A9 U U.heap ∧ (atSz sz (CW D cy ad τ ν)) U.heap)) (kQ (pageB ν p0 = true ∧ inB r 0 9 = true) (uQ (some (.int (τ 10 p0.toNatClampNeg))) (CW D cy ad (up2 τ 10 p0.toNatClampNeg r) ν) (wA (cC (ν 0 0)) ad sz))) (xQ (fun E => (pageB ν p0 = false ∧ E = xcI) ∨ (pageB ν p0 = true ∧ inB r 0 9 = false ∧ E = xcA))) 2 12 (wA (cC (ν 0 0)) ad sz) := by
  refine vx_ofW (cc := cX3_setRank) (maxL := 5) (ret := (some .int)) (by decide) rfl ?_
  intro p e s m args below meth c s₁ B9 hml ht9 hv
  obtain ⟨rfl, hK, hX9, hsz, hB⟩ := hv
  have hx := B9.exec
  have hb := B9.bytes
  have hr := B9.returns
  have hts := atoms_spec (ws := wsX3_setRank) B9.pre
  have hown : s.vm.findClass RX3 = some m.cls := findClass_of_methodNamed B9.named
  have hlocks := B9.notSynchronized
  subst hsz
  have hS : va_S (wA (cC (ν 0 0)) ad s.heap.size) s.heap s.heap [] := va_S.rf
  have lk121 := hts (.fieldLink RX3 121 "Politecrawl$Page" "rank" "I") (by decide +kernel)
  have inX2 : ∀ w ∈ u_ws RX2 TX2 10, w ∈ wsX3_setRank := by decide +kernel
  have hl := lv_entry ([.ref (ad 0 0), .int p0, .int r]) (n := 5) (Nat.le_of_ble_eq_true rfl)
  rw [lg_entry_eq]
  generalize (lg_sl ([.ref (ad 0 0), .int p0, .int r]) ++ List.replicate (5 - (lg_sl ([.ref (ad 0 0), .int p0, .int r])).length) Slot.unset).toArray = ls at hl ⊢
  have hl : lv_has ls 5 [(0, .ref (ad 0 0)), (1, .int p0), (2, .int r)] := hl
  refine lv_aload_n hx hb dX3_setRank_0 rfl (lv_at hl 0 rfl) ?_
  refine lv_iload_n hx hb dX3_setRank_1 rfl (lv_at hl 1 rfl) ?_
  refine x_call1 (vx_runV (As := [.int p0]) (rest := []) ⟨hx, hb, hml, hown, hts⟩ (m_X3_knownPage l hl9 D cy A9 ad τ ν hn30 p0) (cwV 1 hts gX3_setRank_X3_knownPage rfl rfl rfl (by decide +kernel) ⟨Nat.le_of_ble_eq_true rfl, Nat.le_of_ble_eq_true rfl⟩) (x_preV (C := RX3) (B := CW D cy ad τ ν) hK hX9 hB (hB 0 0 Nat.zero_lt_one) rfl) rfl rfl hl.1 rfl (lv_room (Nat.le_of_ble_eq_true rfl)) dX3_setRank_2 ⟨Nat.le_of_ble_eq_true rfl, Nat.le_of_ble_eq_true rfl⟩) hlocks ht9 (fun E hE => Or.inl hE) (Nat.le_of_ble_eq_true rfl) (Nat.le_of_ble_eq_true rfl) (fun hk9 => ?_)
  obtain ⟨q0, hq0, eh⟩ := idx_page hn30 hk9
  have q30 : q0 < 30 := Nat.lt_of_lt_of_le hq0 hn30
  have ec : p0.toNatClampNeg = q0 := by rw [eh, cl_nI (by omega)]
  refine g_top (v' := .ref (ad 7 q0)) (by rw [ec]) ?_
  refine lv_astore_n (lv' := [(3, .ref (ad 7 q0)), (0, .ref (ad 0 0)), (1, .int p0), (2, .int r)]) hx hb dX3_setRank_5 rfl hl (by decide) rfl (fun ls hl => ?_)
  refine lv_iload_n hx hb dX3_setRank_6 rfl (lv_at hl 3 rfl) ?_
  refine x_call0 (vx_runS (As := [.int r]) (rest := []) ⟨hx, hb, hml, hown, hts⟩ (m_X3_refuseOtherRanks l hl9 D cy A9 ad τ ν r) (va_cwS 1 hts gX3_setRank_X3_refuseOtherRanks rfl rfl rfl (by decide +kernel) ⟨Nat.le_of_ble_eq_true rfl, Nat.le_of_ble_eq_true rfl⟩) (x_preS (B := CW D cy ad τ ν) hK hX9 hB) rfl rfl hl.1 rfl (lv_room (Nat.le_of_ble_eq_true rfl)) dX3_setRank_7 ⟨Nat.le_of_ble_eq_true rfl, Nat.le_of_ble_eq_true rfl⟩) hlocks ht9 (fun E hE => Or.inr ⟨hk9, hE⟩) (Nat.le_of_ble_eq_true rfl) (Nat.le_of_ble_eq_true rfl) (fun hr9 => ?_)
  refine lv_aload_n hx hb dX3_setRank_10 rfl (lv_at hl 0 rfl) ?_
  refine g_get (C := RX2) (T := TX2) (N := 10) (ci := 2) (fs := [.int (nI q0), .ref (ad 6 (ν 5 q0)), .ref (ad 8 q0), .int (τ 15 q0), .int (τ 10 q0), .int (τ 11 q0), .int (τ 12 q0), .int (τ 13 q0), .int (τ 14 q0), .int (τ 25 q0)]) hx hb hts inX2 hown hK (hB 7 q0 hq0) rfl 4 (by decide) lk121 rfl rfl dX3_setRank_11 ?_
  refine lv_istore (lv' := [(4, .int (τ 10 q0)), (3, .ref (ad 7 q0)), (0, .ref (ad 0 0)), (1, .int p0), (2, .int r)]) hx hb dX3_setRank_14 hl (by decide) rfl (fun ls hl => ?_)
  refine lv_aload_n hx hb dX3_setRank_16 rfl (lv_at hl 1 rfl) ?_
  refine lv_iload_n hx hb dX3_setRank_17 rfl (lv_at hl 4 rfl) ?_
  refine g_put (C := RX2) (T := TX2) (N := 10) (ci := 2) (fs := [.int (nI q0), .ref (ad 6 (ν 5 q0)), .ref (ad 8 q0), .int (τ 15 q0), .int (τ 10 q0), .int (τ 11 q0), .int (τ 12 q0), .int (τ 13 q0), .int (τ 14 q0), .int (τ 25 q0)]) (A := (wA (cC (ν 0 0)) ad s.heap.size)) hx hb hts inX2 tyX2 tyX2_ok nmX2 hown hK (hB 7 q0 hq0) rfl hS (wA.in (cn := cC (ν 0 0)) (k := 7) (i := q0) (hq0)) 4 (by decide) lk121 rfl rfl rfl rfl (Nat.le_of_ble_eq_true rfl) dX3_setRank_18 (fun H1 locs1 hc1 hu1 hS1 => ?_)
  have hB1 : CW D cy ad (up2 τ 10 q0 r) ν H1 := hB.g10 hJ hq0 hc1 hu1
  obtain ⟨τ1, hs1⟩ : ∃ z : IT, z = up2 τ 10 q0 r := ⟨_, rfl⟩
  rw [← hs1] at hB1
  refine lv_iload hx hb dX3_setRank_21 (lv_at hl 0 rfl) ?_
  exact x_ret ⟨hk9, hr9⟩ (g_iretU hx hb hr hlocks hS1 (by rw [ec]; rw [hs1] at hB1; exact hB1) (Nat.le_of_ble_eq_true rfl) (Nat.le_of_ble_eq_true rfl) dX3_setRank_23 (by rw [ec]))

set_option maxHeartbeats 4000000 in
set_option maxRecDepth 100000 in
/-- dueAt -/
theorem m_X3_dueAt (l : Launch) (hl9 : l.stackTraces = false) (D : va_G) (cy : Nat → ClassId) (A9 : Nat → Prop) (ad : NT) (τ : IT) (ν : NT) (hn30 : ν 0 0 ≤ 30) (p0 : Int32) : vx_Met l yX3_dueAt wsX3_dueAt ({ frames := 7, cells := 1, slots := 6, locals := 120 } : Room) (va_Pc [.ref (ad 0 0), .int p0] (fun U => gK D cy U ∧ xK A9 U U.heap ∧ (CW D cy ad τ ν) U.heap)) (kQ (pageB ν p0 = true) (rQ (some (.int (dueC τ p0.toNatClampNeg))))) (xQ (fun E => pageB ν p0 = false ∧ E = xcI)) 1 6 (fun _ => False) := by
  refine vx_ofW (cc := cX3_dueAt) (maxL := 3) (ret := (some .int)) (by decide) rfl ?_
  intro p e s m args below meth c s₁ B9 hml ht9 hv
  obtain ⟨rfl, hK, hX9, hB⟩ := hv
  have hx := B9.exec
  have hb := B9.bytes
  have hr := B9.returns
  have hts := atoms_spec (ws := wsX3_dueAt) B9.pre
  have hown : s.vm.findClass RX3 = some m.cls := findClass_of_methodNamed B9.named
  have hlocks := B9.notSynchronized
  have lk127 := hts (.fieldLink RX3 127 "Politecrawl$Page" "due" "I") (by decide +kernel)
  have inX2 : ∀ w ∈ u_ws RX2 TX2 10, w ∈ wsX3_dueAt := by decide +kernel
  have hl := lv_entry ([.ref (ad 0 0), .int p0]) (n := 3) (Nat.le_of_ble_eq_true rfl)
  rw [lg_entry_eq]
  generalize (lg_sl ([.ref (ad 0 0), .int p0]) ++ List.replicate (3 - (lg_sl ([.ref (ad 0 0), .int p0])).length) Slot.unset).toArray = ls at hl ⊢
  have hl : lv_has ls 3 [(0, .ref (ad 0 0)), (1, .int p0)] := hl
  refine lv_aload_n hx hb dX3_dueAt_0 rfl (lv_at hl 0 rfl) ?_
  refine lv_iload_n hx hb dX3_dueAt_1 rfl (lv_at hl 1 rfl) ?_
  refine x_call1 (vx_runV (As := [.int p0]) (rest := []) ⟨hx, hb, hml, hown, hts⟩ (m_X3_knownPage l hl9 D cy A9 ad τ ν hn30 p0) (cwV 1 hts gX3_dueAt_X3_knownPage rfl rfl rfl (by decide +kernel) ⟨Nat.le_of_ble_eq_true rfl, Nat.le_of_ble_eq_true rfl⟩) (x_preV (C := RX3) (B := CW D cy ad τ ν) hK hX9 hB (hB 0 0 Nat.zero_lt_one) rfl) rfl rfl hl.1 rfl (lv_room (Nat.le_of_ble_eq_true rfl)) dX3_dueAt_2 ⟨Nat.le_of_ble_eq_true rfl, Nat.le_of_ble_eq_true rfl⟩) hlocks ht9 (fun E hE => hE) (Nat.le_of_ble_eq_true rfl) (Nat.le_of_ble_eq_true rfl) (fun hk9 => ?_)
  obtain ⟨q0, hq0, eh⟩ := idx_page hn30 hk9
  have q30 : q0 < 30 := Nat.lt_of_lt_of_le hq0 hn30
  have ec : p0.toNatClampNeg = q0 := by rw [eh, cl_nI (by omega)]
  refine g_top (v' := .ref (ad 7 q0)) (by rw [ec]) ?_
  refine lv_astore_n (lv' := [(2, .ref (ad 7 q0)), (0, .ref (ad 0 0)), (1, .int p0)]) hx hb dX3_dueAt_5 rfl hl (by decide) rfl (fun ls hl => ?_)
  refine lv_aload_n hx hb dX3_dueAt_6 rfl (lv_at hl 0 rfl) ?_
  refine g_csr (va_runV (As := []) (rest := []) ⟨hx, hb, hml, hown, hts⟩ (m_X2_isKept l D cy (ad 7 q0) (ad 6 (ν 5 q0)) (ad 8 q0) (nI q0) (τ 15 q0) (τ 10 q0) (τ 11 q0) (τ 12 q0) (τ 13 q0) (τ 14 q0) (τ 25 q0)) (cwV 0 hts gX3_dueAt_X2_isKept rfl rfl rfl (by decide +kernel) ⟨Nat.le_of_ble_eq_true rfl, Nat.le_of_ble_eq_true rfl⟩) (g_preV (C := RX2) (B := (pPage D (ad 7 q0) (ad 6 (ν 5 q0)) (ad 8 q0) (nI q0) (τ 15 q0) (τ 10 q0) (τ 11 q0) (τ 12 q0) (τ 13 q0) (τ 14 q0) (τ 25 q0))) hK (hB.page hq0) (hB 7 q0 hq0) rfl) rfl rfl hl.1 rfl (lv_room (Nat.le_of_ble_eq_true rfl)) dX3_dueAt_7 ⟨Nat.le_of_ble_eq_true rfl, Nat.le_of_ble_eq_true rfl⟩) ?_
  refine lv_if_eq (tgt := 20) hx hb dX3_dueAt_10 (by decide) (fun c_10 => ?_) (fun c_10 => ?_)
  · -- 10 t
    refine lv_iconst (v := (-1)) hx hb dX3_dueAt_20 (by decide) ?_
    exact x_ret hk9 (x_iret hx hb hr hlocks (Nat.le_of_ble_eq_true rfl) (Nat.le_of_ble_eq_true rfl) dX3_dueAt_21 (by rw [ec, dueC, if_neg (fun z => by rw [(zb_0.mp c_10 : keptC τ q0 = false)] at z; cases z)]))
  · -- 10 f
    refine lv_aload_n hx hb dX3_dueAt_13 rfl (lv_at hl 0 rfl) ?_
    refine g_get (C := RX2) (T := TX2) (N := 10) (ci := 2) (fs := [.int (nI q0), .ref (ad 6 (ν 5 q0)), .ref (ad 8 q0), .int (τ 15 q0), .int (τ 10 q0), .int (τ 11 q0), .int (τ 12 q0), .int (τ 13 q0), .int (τ 14 q0), .int (τ 25 q0)]) hx hb hts inX2 hown hK (hB 7 q0 hq0) rfl 5 (by decide) lk127 rfl rfl dX3_dueAt_14 ?_
    refine lv_goto (tgt := 21) hx hb dX3_dueAt_17 (by decide) ?_
    exact x_ret hk9 (x_iret hx hb hr hlocks (Nat.le_of_ble_eq_true rfl) (Nat.le_of_ble_eq_true rfl) dX3_dueAt_21 (by rw [ec, dueC, if_pos (zb_n0.mp c_10 : keptC τ q0 = true)]))

set_option maxHeartbeats 4000000 in
set_option maxRecDepth 100000 in
/-- visits -/
theorem m_X3_visits (l : Launch) (hl9 : l.stackTraces = false) (D : va_G) (cy : Nat → ClassId) (A9 : Nat → Prop) (ad : NT) (τ : IT) (ν : NT) (hn30 : ν 0 0 ≤ 30) (p0 : Int32) : vx_Met l yX3_visits wsX3_visits ({ frames := 7, cells := 1, slots := 6, locals := 120 } : Room) (va_Pc [.ref (ad 0 0), .int p0] (fun U => gK D cy U ∧ xK A9 U U.heap ∧ (CW D cy ad τ ν) U.heap)) (kQ (pageB ν p0 = true) (rQ (some (.int (τ 12 p0.toNatClampNeg))))) (xQ (fun E => pageB ν p0 = false ∧ E = xcI)) 1 6 (fun _ => False) := by
  refine vx_ofW (cc := cX3_visits) (maxL := 2) (ret := (some .int)) (by decide) rfl ?_
  intro p e s m args below meth c s₁ B9 hml ht9 hv
  obtain ⟨rfl, hK, hX9, hB⟩ := hv
  have hx := B9.exec
  have hb := B9.bytes
  have hr := B9.returns
  have hts := atoms_spec (ws := wsX3_visits) B9.pre
  have hown : s.vm.findClass RX3 = some m.cls := findClass_of_methodNamed B9.named
  have hlocks := B9.notSynchronized
  have lk130 := hts (.fieldLink RX3 130 "Politecrawl$Page" "visits" "I") (by decide +kernel)
  have inX2 : ∀ w ∈ u_ws RX2 TX2 10, w ∈ wsX3_visits := by decide +kernel
  have hl := lv_entry ([.ref (ad 0 0), .int p0]) (n := 2) (Nat.le_of_ble_eq_true rfl)
  rw [lg_entry_eq]
  generalize (lg_sl ([.ref (ad 0 0), .int p0]) ++ List.replicate (2 - (lg_sl ([.ref (ad 0 0), .int p0])).length) Slot.unset).toArray = ls at hl ⊢
  have hl : lv_has ls 2 [(0, .ref (ad 0 0)), (1, .int p0)] := hl
  refine lv_aload_n hx hb dX3_visits_0 rfl (lv_at hl 0 rfl) ?_
  refine lv_iload_n hx hb dX3_visits_1 rfl (lv_at hl 1 rfl) ?_
  refine x_call1 (vx_runV (As := [.int p0]) (rest := []) ⟨hx, hb, hml, hown, hts⟩ (m_X3_knownPage l hl9 D cy A9 ad τ ν hn30 p0) (cwV 1 hts gX3_visits_X3_knownPage rfl rfl rfl (by decide +kernel) ⟨Nat.le_of_ble_eq_true rfl, Nat.le_of_ble_eq_true rfl⟩) (x_preV (C := RX3) (B := CW D cy ad τ ν) hK hX9 hB (hB 0 0 Nat.zero_lt_one) rfl) rfl rfl hl.1 rfl (lv_room (Nat.le_of_ble_eq_true rfl)) dX3_visits_2 ⟨Nat.le_of_ble_eq_true rfl, Nat.le_of_ble_eq_true rfl⟩) hlocks ht9 (fun E hE => hE) (Nat.le_of_ble_eq_true rfl) (Nat.le_of_ble_eq_true rfl) (fun hk9 => ?_)
  obtain ⟨q0, hq0, eh⟩ := idx_page hn30 hk9
  have q30 : q0 < 30 := Nat.lt_of_lt_of_le hq0 hn30
  have ec : p0.toNatClampNeg = q0 := by rw [eh, cl_nI (by omega)]
  refine g_top (v' := .ref (ad 7 q0)) (by rw [ec]) ?_
  refine g_get (C := RX2) (T := TX2) (N := 10) (ci := 2) (fs := [.int (nI q0), .ref (ad 6 (ν 5 q0)), .ref (ad 8 q0), .int (τ 15 q0), .int (τ 10 q0), .int (τ 11 q0), .int (τ 12 q0), .int (τ 13 q0), .int (τ 14 q0), .int (τ 25 q0)]) hx hb hts inX2 hown hK (hB 7 q0 hq0) rfl 6 (by decide) lk130 rfl rfl dX3_visits_5 ?_
  exact x_ret hk9 (x_iret hx hb hr hlocks (Nat.le_of_ble_eq_true rfl) (Nat.le_of_ble_eq_true rfl) dX3_visits_8 (by rw [ec]))

set_option maxHeartbeats 4000000 in
set_option maxRecDepth 100000 in
/-- changes -/
theorem m_X3_changes (l : Launch) (hl9 : l.stackTraces = false) (D : va_G) (cy : Nat → ClassId) (A9 : Nat → Prop) (ad : NT) (τ : IT) (ν : NT) (hn30 : ν 0 0 ≤ 30) (p0 : Int32) : vx_Met l yX3_changes wsX3_changes ({ frames := 7, cells := 1, slots := 6, locals := 120 } : Room) (va_Pc [.ref (ad 0 0), .int p0] (fun U => gK D cy U ∧ xK A9 U U.heap ∧ (CW D cy ad τ ν) U.heap)) (kQ (pageB ν p0 = true) (rQ (some (.int (τ 13 p0.toNatClampNeg))))) (xQ (fun E => pageB ν p0 = false ∧ E = xcI)) 1 6 (fun _ => False) := by
  refine vx_ofW (cc := cX3_changes) (maxL := 2) (ret := (some .int)) (by decide) rfl ?_
  intro p e s m args below meth c s₁ B9 hml ht9 hv
  obtain ⟨rfl, hK, hX9, hB⟩ := hv
  have hx := B9.exec
  have hb := B9.bytes
  have hr := B9.returns
  have hts := atoms_spec (ws := wsX3_changes) B9.pre
  have hown : s.vm.findClass RX3 = some m.cls := findClass_of_methodNamed B9.named
  have hlocks := B9.notSynchronized
  have lk133 := hts (.fieldLink RX3 133 "Politecrawl$Page" "changes" "I") (by decide +kernel)
  have inX2 : ∀ w ∈ u_ws RX2 TX2 10, w ∈ wsX3_changes := by decide +kernel
  have hl := lv_entry ([.ref (ad 0 0), .int p0]) (n := 2) (Nat.le_of_ble_eq_true rfl)
  rw [lg_entry_eq]
  generalize (lg_sl ([.ref (ad 0 0), .int p0]) ++ List.replicate (2 - (lg_sl ([.ref (ad 0 0), .int p0])).length) Slot.unset).toArray = ls at hl ⊢
  have hl : lv_has ls 2 [(0, .ref (ad 0 0)), (1, .int p0)] := hl
  refine lv_aload_n hx hb dX3_changes_0 rfl (lv_at hl 0 rfl) ?_
  refine lv_iload_n hx hb dX3_changes_1 rfl (lv_at hl 1 rfl) ?_
  refine x_call1 (vx_runV (As := [.int p0]) (rest := []) ⟨hx, hb, hml, hown, hts⟩ (m_X3_knownPage l hl9 D cy A9 ad τ ν hn30 p0) (cwV 1 hts gX3_changes_X3_knownPage rfl rfl rfl (by decide +kernel) ⟨Nat.le_of_ble_eq_true rfl, Nat.le_of_ble_eq_true rfl⟩) (x_preV (C := RX3) (B := CW D cy ad τ ν) hK hX9 hB (hB 0 0 Nat.zero_lt_one) rfl) rfl rfl hl.1 rfl (lv_room (Nat.le_of_ble_eq_true rfl)) dX3_changes_2 ⟨Nat.le_of_ble_eq_true rfl, Nat.le_of_ble_eq_true rfl⟩) hlocks ht9 (fun E hE => hE) (Nat.le_of_ble_eq_true rfl) (Nat.le_of_ble_eq_true rfl) (fun hk9 => ?_)
  obtain ⟨q0, hq0, eh⟩ := idx_page hn30 hk9
  have q30 : q0 < 30 := Nat.lt_of_lt_of_le hq0 hn30
  have ec : p0.toNatClampNeg = q0 := by rw [eh, cl_nI (by omega)]
  refine g_top (v' := .ref (ad 7 q0)) (by rw [ec]) ?_
  refine g_get (C := RX2) (T := TX2) (N := 10) (ci := 2) (fs := [.int (nI q0), .ref (ad 6 (ν 5 q0)), .ref (ad 8 q0), .int (τ 15 q0), .int (τ 10 q0), .int (τ 11 q0), .int (τ 12 q0), .int (τ 13 q0), .int (τ 14 q0), .int (τ 25 q0)]) hx hb hts inX2 hown hK (hB 7 q0 hq0) rfl 7 (by decide) lk133 rfl rfl dX3_changes_5 ?_
  exact x_ret hk9 (x_iret hx hb hr hlocks (Nat.le_of_ble_eq_true rfl) (Nat.le_of_ble_eq_true rfl) dX3_changes_8 (by rw [ec]))

set_option maxHeartbeats 4000000 in
set_option maxRecDepth 100000 in
/-- mayVisit -/
theorem m_X3_mayVisit (l : Launch) (hl9 : l.stackTraces = false) (D : va_G) (cy : Nat → ClassId) (A9 : Nat → Prop) (ad : NT) (τ : IT) (ν : NT) (hI : CI τ ν) (p0 : Int32) : vx_Met l yX3_mayVisit wsX3_mayVisit ({ frames := 7, cells := 1, slots := 6, locals := 120 } : Room) (va_Pc [.ref (ad 0 0), .int p0] (fun U => gK D cy U ∧ xK A9 U U.heap ∧ (CW D cy ad τ ν) U.heap)) (kQ (pageB ν p0 = true) (rQ (some (.int (zb (isRdy τ ν p0.toNatClampNeg)))))) (xQ (fun E => pageB ν p0 = false ∧ E = xcI)) 1 6 (fun _ => False) := by
  refine vx_ofW (cc := cX3_mayVisit) (maxL := 2) (ret := (some .boolean)) (by decide) rfl ?_
  intro p e s m args below meth c s₁ B9 hml ht9 hv
  obtain ⟨rfl, hK, hX9, hB⟩ := hv
  have hx := B9.exec
  have hb := B9.bytes
  have hr := B9.returns
  have hts := atoms_spec (ws := wsX3_mayVisit) B9.pre
  have hown : s.vm.findClass RX3 = some m.cls := findClass_of_methodNamed B9.named
  have hlocks := B9.notSynchronized
  have hl := lv_entry ([.ref (ad 0 0), .int p0]) (n := 2) (Nat.le_of_ble_eq_true rfl)
  rw [lg_entry_eq]
  generalize (lg_sl ([.ref (ad 0 0), .int p0]) ++ List.replicate (2 - (lg_sl ([.ref (ad 0 0), .int p0])).length) Slot.unset).toArray = ls at hl ⊢
  have hl : lv_has ls 2 [(0, .ref (ad 0 0)), (1, .int p0)] := hl
  have hn30 := hI.1
  refine lv_aload_n hx hb dX3_mayVisit_0 rfl (lv_at hl 0 rfl) ?_
  refine lv_aload_n hx hb dX3_mayVisit_1 rfl (lv_at hl 0 rfl) ?_
  refine lv_iload_n hx hb dX3_mayVisit_2 rfl (lv_at hl 1 rfl) ?_
  refine x_call1 (vx_runV (As := [.int p0]) (rest := [.ref (ad 0 0)]) ⟨hx, hb, hml, hown, hts⟩ (m_X3_knownPage l hl9 D cy A9 ad τ ν hn30 p0) (cwV 1 hts gX3_mayVisit_X3_knownPage rfl rfl rfl (by decide +kernel) ⟨Nat.le_of_ble_eq_true rfl, Nat.le_of_ble_eq_true rfl⟩) (x_preV (C := RX3) (B := CW D cy ad τ ν) hK hX9 hB (hB 0 0 Nat.zero_lt_one) rfl) rfl rfl hl.1 rfl (lv_room (Nat.le_of_ble_eq_true rfl)) dX3_mayVisit_3 ⟨Nat.le_of_ble_eq_true rfl, Nat.le_of_ble_eq_true rfl⟩) hlocks ht9 (fun E hE => hE) (Nat.le_of_ble_eq_true rfl) (Nat.le_of_ble_eq_true rfl) (fun hk9 => ?_)
  obtain ⟨q0, hq0, eh⟩ := idx_page hn30 hk9
  have q30 : q0 < 30 := Nat.lt_of_lt_of_le hq0 hn30
  have ec : p0.toNatClampNeg = q0 := by rw [eh, cl_nI (by omega)]
  refine g_top (v' := .ref (ad 7 q0)) (by rw [ec]) ?_
  refine g_csr (va_runV (As := [.ref (ad 7 q0)]) (rest := []) ⟨hx, hb, hml, hown, hts⟩ (m_X3_isReady l D cy ad τ ν hI q0 hq0) (cwV 1 hts gX3_mayVisit_X3_isReady rfl rfl rfl (by decide +kernel) ⟨Nat.le_of_ble_eq_true rfl, Nat.le_of_ble_eq_true rfl⟩) (g_preV (C := RX3) (B := (CW D cy ad τ ν)) hK hB (hB 0 0 Nat.zero_lt_one) rfl) rfl rfl hl.1 rfl (lv_room (Nat.le_of_ble_eq_true rfl)) dX3_mayVisit_6 ⟨Nat.le_of_ble_eq_true rfl, Nat.le_of_ble_eq_true rfl⟩) ?_
  exact x_ret hk9 (x_zret hx hb hr hlocks (by cases isRdy τ ν q0 <;> rfl) (Nat.le_of_ble_eq_true rfl) (Nat.le_of_ble_eq_true rfl) dX3_mayVisit_9 (by rw [ec]))

set_option maxRecDepth 100000 in
theorem xm_X3_pass_xcA : ∀ w ∈ (vx_atS "Politecrawl" 43 xcA xnm).filter goodWord, w ∈ wsX3_pass := by decide +kernel
set_option maxRecDepth 100000 in
theorem xm_X3_pass_xcL : ∀ w ∈ (vx_atS "Politecrawl" 54 xcL xnm).filter goodWord, w ∈ wsX3_pass := by decide +kernel
set_option maxHeartbeats 4000000 in
set_option maxRecDepth 100000 in
/-- pass -/
theorem m_X3_pass (l : Launch) (hl9 : l.stackTraces = false) (D : va_G) (cy : Nat → ClassId) (A9 : Nat → Prop) (sz : Nat) (ad : NT) (τ : IT) (ν : NT) (hJ : wJ (cC (ν 0 0)) ad) (t0 : Int32) : vx_Met l yX3_pass wsX3_pass ({ frames := 6, cells := 1, slots := 6, locals := 90 } : Room) (va_Pc [.ref (ad 0 0), .int t0] (fun U => gK D cy U ∧ xK A9 U U.heap ∧ (atSz sz (CW D cy ad τ ν)) U.heap)) (kQ (inB t0 1 1000 = true ∧ τ 0 0 + t0 ≤ 100000) (uQ (some (.int (τ 0 0 + t0))) (CW D cy ad (passC τ t0) ν) (wA (cC (ν 0 0)) ad sz))) (xQ (fun E => (inB t0 1 1000 = false ∧ E = xcA) ∨ (inB t0 1 1000 = true ∧ ¬ τ 0 0 + t0 ≤ 100000 ∧ E = xcL))) 1 6 (wA (cC (ν 0 0)) ad sz) := by
  refine vx_ofW (cc := cX3_pass) (maxL := 2) (ret := (some .int)) (by decide) rfl ?_
  intro p e s m args below meth c s₁ B9 hml ht9 hv
  obtain ⟨rfl, hK, hX9, hsz, hB⟩ := hv
  have hx := B9.exec
  have hb := B9.bytes
  have hr := B9.returns
  have hts := atoms_spec (ws := wsX3_pass) B9.pre
  have hown : s.vm.findClass RX3 = some m.cls := findClass_of_methodNamed B9.named
  have hlocks := B9.notSynchronized
  subst hsz
  have hS : va_S (wA (cC (ν 0 0)) ad s.heap.size) s.heap s.heap [] := va_S.rf
  have lk111 := hts (.fieldLink RX3 111 "Politecrawl" "tick" "I") (by decide +kernel)
  have inX3 : ∀ w ∈ u_ws RX3 TX3 9, w ∈ wsX3_pass := by decide +kernel
  have lk155 := hts (.fieldLink RX3 155 "Politecrawl" "visitsInSpan" "I") (by decide +kernel)
  have hl := lv_entry ([.ref (ad 0 0), .int t0]) (n := 2) (Nat.le_of_ble_eq_true rfl)
  rw [lg_entry_eq]
  generalize (lg_sl ([.ref (ad 0 0), .int t0]) ++ List.replicate (2 - (lg_sl ([.ref (ad 0 0), .int t0])).length) Slot.unset).toArray = ls at hl ⊢
  have hl : lv_has ls 2 [(0, .ref (ad 0 0)), (1, .int t0)] := hl
  refine lv_iload_n hx hb dX3_pass_0 rfl (lv_at hl 1 rfl) ?_
  refine lv_iconst (v := 1) hx hb dX3_pass_1 (by decide) ?_
  refine lv_icmp_lt (tgt := 12) hx hb dX3_pass_2 (by decide) (fun c_2 => ?_) (fun c_2 => ?_)
  · -- 2 t
    obtain ⟨sa9, hsa9⟩ := hX9.2.2.2.2 (169, "the ticks are out of range") (by decide)
    exact vx_throwS (own := "Politecrawl") (cls := xcA) (text := "the ticks are out of range") (names := xnm) (ik := 39) (is := 169) (ic := 43) (sa := sa9) (A := A9) hx hb hl9 hown (by decide +kernel) (by decide +kernel) (hts _ (by decide +kernel)) (hts _ (by decide +kernel)) hsa9 (vx_hat (fun w hw => hts w (xm_X3_pass_xcA w hw)) xw_xcA (vx_c (va_Nw.use rfl (hX9.2.2.1 xcA (by decide))) (vx_c (va_Nw.use rfl (hX9.2.2.2.1 _ (by decide))) (vx_c (va_Nw.use rfl (hX9.2.2.2.1 _ (by decide))) (vx_c (va_Nw.use rfl (hX9.2.2.2.1 _ (by decide))) vx_n))))) xg_xcA hX9.1 hX9.2.1 va_S.rf (by rw [hml]; exact hl.1) dX3_pass_12 dX3_pass_15 dX3_pass_16 dX3_pass_18 dX3_pass_21 (fun x hx => (ht9 x hx).elim) (Nat.le_of_ble_eq_true rfl) (Nat.le_of_ble_eq_true rfl) (Nat.le_of_ble_eq_true rfl) (Nat.le_of_ble_eq_true rfl) hlocks (fun t _ z1 z2 => ⟨Or.inl ⟨in_no1 c_2, rfl⟩, z1, z2⟩) (fun z hz => nomatch hz) (Nat.le_of_ble_eq_true rfl) (Nat.le_of_ble_eq_true rfl)
  · -- 2 f
    refine lv_iload_n hx hb dX3_pass_5 rfl (lv_at hl 1 rfl) ?_
    refine lv_sipush (v := 1000) hx hb dX3_pass_6 (by decide) ?_
    refine lv_icmp_le (tgt := 22) hx hb dX3_pass_9 (by decide) (fun c_9 => ?_) (fun c_9 => ?_)
    · -- 9 t
      refine lv_aload_n hx hb dX3_pass_22 rfl (lv_at hl 0 rfl) ?_
      refine g_get (C := RX3) (T := TX3) (N := 9) (ci := 3) (fs := [.ref (ad 1 0), .ref (ad 2 0), .ref (ad 3 0), .int (nI (ν 0 0)), .int (τ 0 0), .int (τ 1 0), .int (τ 2 0), .int (τ 3 0), .int (τ 20 0)]) hx hb hts inX3 hown hK (hB 0 0 Nat.zero_lt_one) rfl 4 (by decide) lk111 rfl rfl dX3_pass_23 ?_
      refine lv_iload_n hx hb dX3_pass_26 rfl (lv_at hl 1 rfl) ?_
      refine lv_iadd hx hb dX3_pass_27 ?_
      refine lv_ldc (v := 100000) hx hb hown (hts (.constant RX3 171 (100000)) (by decide +kernel)) dX3_pass_28 ?_
      refine lv_icmp_le (tgt := 43) hx hb dX3_pass_30 (by decide) (fun c_30 => ?_) (fun c_30 => ?_)
      · -- 30 t
        refine lv_aload_n hx hb dX3_pass_43 rfl (lv_at hl 0 rfl) ?_
        refine g_get (C := RX3) (T := TX3) (N := 9) (ci := 3) (fs := [.ref (ad 1 0), .ref (ad 2 0), .ref (ad 3 0), .int (nI (ν 0 0)), .int (τ 0 0), .int (τ 1 0), .int (τ 2 0), .int (τ 3 0), .int (τ 20 0)]) hx hb hts inX3 hown hK (hB 0 0 Nat.zero_lt_one) rfl 4 (by decide) lk111 rfl rfl dX3_pass_44 ?_
        refine lv_iload_n hx hb dX3_pass_47 rfl (lv_at hl 1 rfl) ?_
        refine lv_iadd hx hb dX3_pass_48 ?_
        refine lv_aload_n hx hb dX3_pass_49 rfl (lv_at hl 0 rfl) ?_
        refine g_csr (va_runV (As := []) (rest := [.int ((τ 0 0) + t0)]) ⟨hx, hb, hml, hown, hts⟩ (m_X3_startOfNextSpan l D cy ad τ ν) (cwV 0 hts gX3_pass_X3_startOfNextSpan rfl rfl rfl (by decide +kernel) ⟨Nat.le_of_ble_eq_true rfl, Nat.le_of_ble_eq_true rfl⟩) (g_preV (C := RX3) (B := (CW D cy ad τ ν)) hK hB (hB 0 0 Nat.zero_lt_one) rfl) rfl rfl hl.1 rfl (lv_room (Nat.le_of_ble_eq_true rfl)) dX3_pass_50 ⟨Nat.le_of_ble_eq_true rfl, Nat.le_of_ble_eq_true rfl⟩) ?_
        refine lv_icmp_lt (tgt := 61) hx hb dX3_pass_53 (by decide) (fun c_53 => ?_) (fun c_53 => ?_)
        · -- 53 t
          refine lv_aload_n hx hb dX3_pass_61 rfl (lv_at hl 0 rfl) ?_
          refine lv_dup hx hb dX3_pass_62 rfl ?_
          refine g_get (C := RX3) (T := TX3) (N := 9) (ci := 3) (fs := [.ref (ad 1 0), .ref (ad 2 0), .ref (ad 3 0), .int (nI (ν 0 0)), .int (τ 0 0), .int (τ 1 0), .int (τ 2 0), .int (τ 3 0), .int (τ 20 0)]) hx hb hts inX3 hown hK (hB 0 0 Nat.zero_lt_one) rfl 4 (by decide) lk111 rfl rfl dX3_pass_63 ?_
          refine lv_iload_n hx hb dX3_pass_66 rfl (lv_at hl 1 rfl) ?_
          refine lv_iadd hx hb dX3_pass_67 ?_
          refine g_put (C := RX3) (T := TX3) (N := 9) (ci := 3) (fs := [.ref (ad 1 0), .ref (ad 2 0), .ref (ad 3 0), .int (nI (ν 0 0)), .int (τ 0 0), .int (τ 1 0), .int (τ 2 0), .int (τ 3 0), .int (τ 20 0)]) (A := (wA (cC (ν 0 0)) ad s.heap.size)) hx hb hts inX3 tyX3 tyX3_ok nmX3 hown hK (hB 0 0 Nat.zero_lt_one) rfl hS (wA.in (cn := cC (ν 0 0)) (k := 0) (i := 0) (Nat.zero_lt_one)) 4 (by decide) lk111 rfl rfl rfl rfl (Nat.le_of_ble_eq_true rfl) dX3_pass_68 (fun H1 locs1 hc1 hu1 hS1 => ?_)
          have hB1 : CW D cy ad (up2 τ 0 0 ((τ 0 0) + t0)) ν H1 := hB.sc hJ (by decide) hc1 hu1
          obtain ⟨τ1, hs1⟩ : ∃ z : IT, z = up2 τ 0 0 ((τ 0 0) + t0) := ⟨_, rfl⟩
          rw [← hs1] at hB1
          refine lv_aload_n hx hb dX3_pass_71 rfl (lv_at hl 0 rfl) ?_
          refine g_get (C := RX3) (T := TX3) (N := 9) (ci := 3) (fs := [.ref (ad 1 0), .ref (ad 2 0), .ref (ad 3 0), .int (nI (ν 0 0)), .int (τ1 0 0), .int (τ1 1 0), .int (τ1 2 0), .int (τ1 3 0), .int (τ1 20 0)]) hx hb hts inX3 hown hK (hB1 0 0 Nat.zero_lt_one) rfl 4 (by decide) lk111 rfl rfl dX3_pass_72 ?_
          exact x_ret ⟨in_of c_2 c_9, c_30⟩ (g_iretU hx hb hr hlocks hS1 (by rw [passC, if_pos c_53]; rw [hs1] at hB1; exact hB1) (Nat.le_of_ble_eq_true rfl) (Nat.le_of_ble_eq_true rfl) dX3_pass_75 (by rw [hs1]; rfl))
        · -- 53 f
          refine lv_aload_n hx hb dX3_pass_56 rfl (lv_at hl 0 rfl) ?_
          refine lv_iconst (v := 0) hx hb dX3_pass_57 (by decide) ?_
          refine g_put (C := RX3) (T := TX3) (N := 9) (ci := 3) (fs := [.ref (ad 1 0), .ref (ad 2 0), .ref (ad 3 0), .int (nI (ν 0 0)), .int (τ 0 0), .int (τ 1 0), .int (τ 2 0), .int (τ 3 0), .int (τ 20 0)]) (A := (wA (cC (ν 0 0)) ad s.heap.size)) hx hb hts inX3 tyX3 tyX3_ok nmX3 hown hK (hB 0 0 Nat.zero_lt_one) rfl hS (wA.in (cn := cC (ν 0 0)) (k := 0) (i := 0) (Nat.zero_lt_one)) 8 (by decide) lk155 rfl rfl rfl rfl (Nat.le_of_ble_eq_true rfl) dX3_pass_58 (fun H2 locs2 hc2 hu2 hS2 => ?_)
          have hB2 : CW D cy ad (up2 τ 20 0 0) ν H2 := hB.sc hJ (by decide) hc2 hu2
          obtain ⟨τ2, hs2⟩ : ∃ z : IT, z = up2 τ 20 0 0 := ⟨_, rfl⟩
          rw [← hs2] at hB2
          refine lv_aload_n hx hb dX3_pass_61 rfl (lv_at hl 0 rfl) ?_
          refine lv_dup hx hb dX3_pass_62 rfl ?_
          refine g_get (C := RX3) (T := TX3) (N := 9) (ci := 3) (fs := [.ref (ad 1 0), .ref (ad 2 0), .ref (ad 3 0), .int (nI (ν 0 0)), .int (τ2 0 0), .int (τ2 1 0), .int (τ2 2 0), .int (τ2 3 0), .int (τ2 20 0)]) hx hb hts inX3 hown hK (hB2 0 0 Nat.zero_lt_one) rfl 4 (by decide) lk111 rfl rfl dX3_pass_63 ?_
          refine lv_iload_n hx hb dX3_pass_66 rfl (lv_at hl 1 rfl) ?_
          refine lv_iadd hx hb dX3_pass_67 ?_
          refine g_put (C := RX3) (T := TX3) (N := 9) (ci := 3) (fs := [.ref (ad 1 0), .ref (ad 2 0), .ref (ad 3 0), .int (nI (ν 0 0)), .int (τ2 0 0), .int (τ2 1 0), .int (τ2 2 0), .int (τ2 3 0), .int (τ2 20 0)]) (A := (wA (cC (ν 0 0)) ad s.heap.size)) hx hb hts inX3 tyX3 tyX3_ok nmX3 hown hK (hB2 0 0 Nat.zero_lt_one) rfl hS2 (wA.in (cn := cC (ν 0 0)) (k := 0) (i := 0) (Nat.zero_lt_one)) 4 (by decide) lk111 rfl rfl rfl rfl (Nat.le_of_ble_eq_true rfl) dX3_pass_68 (fun H3 locs3 hc3 hu3 hS3 => ?_)
          have hB3 : CW D cy ad (up2 τ2 0 0 ((τ2 0 0) + t0)) ν H3 := hB2.sc hJ (by decide) hc3 hu3
          obtain ⟨τ3, hs3⟩ : ∃ z : IT, z = up2 τ2 0 0 ((τ2 0 0) + t0) := ⟨_, rfl⟩
          rw [← hs3] at hB3
          refine lv_aload_n hx hb dX3_pass_71 rfl (lv_at hl 0 rfl) ?_
          refine g_get (C := RX3) (T := TX3) (N := 9) (ci := 3) (fs := [.ref (ad 1 0), .ref (ad 2 0), .ref (ad 3 0), .int (nI (ν 0 0)), .int (τ3 0 0), .int (τ3 1 0), .int (τ3 2 0), .int (τ3 3 0), .int (τ3 20 0)]) hx hb hts inX3 hown hK (hB3 0 0 Nat.zero_lt_one) rfl 4 (by decide) lk111 rfl rfl dX3_pass_72 ?_
          exact x_ret ⟨in_of c_2 c_9, c_30⟩ (g_iretU hx hb hr hlocks hS3 (by rw [passC, if_neg c_53]; rw [hs3, hs2] at hB3; exact hB3) (Nat.le_of_ble_eq_true rfl) (Nat.le_of_ble_eq_true rfl) dX3_pass_75 (by rw [hs3, hs2]; rfl))
      · -- 30 f
        obtain ⟨sa9, hsa9⟩ := hX9.2.2.2.2 (172, "the tick would be above the last one") (by decide)
        exact vx_throwS (own := "Politecrawl") (cls := xcL) (text := "the tick would be above the last one") (names := xnm) (ik := 50) (is := 172) (ic := 54) (sa := sa9) (A := A9) hx hb hl9 hown (by decide +kernel) (by decide +kernel) (hts _ (by decide +kernel)) (hts _ (by decide +kernel)) hsa9 (vx_hat (fun w hw => hts w (xm_X3_pass_xcL w hw)) xw_xcL (vx_c (va_Nw.use rfl (hX9.2.2.1 xcL (by decide))) (vx_c (va_Nw.use rfl (hX9.2.2.2.1 _ (by decide))) (vx_c (va_Nw.use rfl (hX9.2.2.2.1 _ (by decide))) (vx_c (va_Nw.use rfl (hX9.2.2.2.1 _ (by decide))) vx_n))))) xg_xcL hX9.1 hX9.2.1 va_S.rf (by rw [hml]; exact hl.1) dX3_pass_33 dX3_pass_36 dX3_pass_37 dX3_pass_39 dX3_pass_42 (fun x hx => (ht9 x hx).elim) (Nat.le_of_ble_eq_true rfl) (Nat.le_of_ble_eq_true rfl) (Nat.le_of_ble_eq_true rfl) (Nat.le_of_ble_eq_true rfl) hlocks (fun t _ z1 z2 => ⟨Or.inr ⟨in_of c_2 c_9, c_30, rfl⟩, z1, z2⟩) (fun z hz => nomatch hz) (Nat.le_of_ble_eq_true rfl) (Nat.le_of_ble_eq_true rfl)
    · -- 9 f
      obtain ⟨sa9, hsa9⟩ := hX9.2.2.2.2 (169, "the ticks are out of range") (by decide)
      exact vx_throwS (own := "Politecrawl") (cls := xcA) (text := "the ticks are out of range") (names := xnm) (ik := 39) (is := 169) (ic := 43) (sa := sa9) (A := A9) hx hb hl9 hown (by decide +kernel) (by decide +kernel) (hts _ (by decide +kernel)) (hts _ (by decide +kernel)) hsa9 (vx_hat (fun w hw => hts w (xm_X3_pass_xcA w hw)) xw_xcA (vx_c (va_Nw.use rfl (hX9.2.2.1 xcA (by decide))) (vx_c (va_Nw.use rfl (hX9.2.2.2.1 _ (by decide))) (vx_c (va_Nw.use rfl (hX9.2.2.2.1 _ (by decide))) (vx_c (va_Nw.use rfl (hX9.2.2.2.1 _ (by decide))) vx_n))))) xg_xcA hX9.1 hX9.2.1 va_S.rf (by rw [hml]; exact hl.1) dX3_pass_12 dX3_pass_15 dX3_pass_16 dX3_pass_18 dX3_pass_21 (fun x hx => (ht9 x hx).elim) (Nat.le_of_ble_eq_true rfl) (Nat.le_of_ble_eq_true rfl) (Nat.le_of_ble_eq_true rfl) (Nat.le_of_ble_eq_true rfl) hlocks (fun t _ z1 z2 => ⟨Or.inl ⟨in_no2 c_9, rfl⟩, z1, z2⟩) (fun z hz => nomatch hz) (Nat.le_of_ble_eq_true rfl) (Nat.le_of_ble_eq_true rfl)

set_option maxRecDepth 100000 in
theorem xm_X3_visit_xcA : ∀ w ∈ (vx_atS "Politecrawl" 43 xcA xnm).filter goodWord, w ∈ wsX3_visit := by decide +kernel
set_option maxRecDepth 100000 in
theorem xm_X3_visit_xcL : ∀ w ∈ (vx_atS "Politecrawl" 54 xcL xnm).filter goodWord, w ∈ wsX3_visit := by decide +kernel
set_option maxHeartbeats 4000000 in
set_option maxRecDepth 100000 in
/-- visit -/
theorem m_X3_visit (l : Launch) (hl9 : l.stackTraces = false) (D : va_G) (cy : Nat → ClassId) (A9 : Nat → Prop) (sz : Nat) (ad : NT) (τ : IT) (ν : NT) (hJ : wJ (cC (ν 0 0)) ad) (hI : CI τ ν) (p0 o : Int32) : vx_Met l yX3_visit wsX3_visit ({ frames := 7, cells := 2, slots := 12, locals := 120 } : Room) (va_Pc [.ref (ad 0 0), .int p0, .int o] (fun U => gK D cy U ∧ xK A9 U U.heap ∧ (atSz sz (CW D cy ad τ ν)) U.heap)) (kQ (pageB ν p0 = true ∧ inB o 0 3 = true ∧ isRdy τ ν p0.toNatClampNeg = true) (uQ (some (.int (visC τ ν p0.toNatClampNeg o 9 (ν 5 p0.toNatClampNeg)))) (CW D cy ad (visC τ ν p0.toNatClampNeg o) ν) (wA (cC (ν 0 0)) ad sz))) (xQ (fun E => (pageB ν p0 = false ∧ E = xcI) ∨ (pageB ν p0 = true ∧ inB o 0 3 = false ∧ E = xcA) ∨ (pageB ν p0 = true ∧ inB o 0 3 = true ∧ isRdy τ ν p0.toNatClampNeg = false ∧ E = xcL))) 2 12 (wA (cC (ν 0 0)) ad sz) := by
  refine vx_ofW (cc := cX3_visit) (maxL := 4) (ret := (some .int)) (by decide) rfl ?_
  intro p e s m args below meth c s₁ B9 hml ht9 hv
  obtain ⟨rfl, hK, hX9, hsz, hB⟩ := hv
  have hx := B9.exec
  have hb := B9.bytes
  have hr := B9.returns
  have hts := atoms_spec (ws := wsX3_visit) B9.pre
  have hown : s.vm.findClass RX3 = some m.cls := findClass_of_methodNamed B9.named
  have hlocks := B9.notSynchronized
  subst hsz
  have hS : va_S (wA (cC (ν 0 0)) ad s.heap.size) s.heap s.heap [] := va_S.rf
  have lk155 := hts (.fieldLink RX3 155 "Politecrawl" "visitsInSpan" "I") (by decide +kernel)
  have inX3 : ∀ w ∈ u_ws RX3 TX3 9, w ∈ wsX3_visit := by decide +kernel
  have lk162 := hts (.fieldLink RX3 162 "Politecrawl$Page" "host" "LPolitecrawl$Host;") (by decide +kernel)
  have inX2 : ∀ w ∈ u_ws RX2 TX2 10, w ∈ wsX3_visit := by decide +kernel
  have lk111 := hts (.fieldLink RX3 111 "Politecrawl" "tick" "I") (by decide +kernel)
  have lk89 := hts (.fieldLink RX3 89 "Politecrawl$Host" "openFrom" "I") (by decide +kernel)
  have inX1 : ∀ w ∈ u_ws RX1 TX1 3, w ∈ wsX3_visit := by decide +kernel
  have hl := lv_entry ([.ref (ad 0 0), .int p0, .int o]) (n := 4) (Nat.le_of_ble_eq_true rfl)
  rw [lg_entry_eq]
  generalize (lg_sl ([.ref (ad 0 0), .int p0, .int o]) ++ List.replicate (4 - (lg_sl ([.ref (ad 0 0), .int p0, .int o])).length) Slot.unset).toArray = ls at hl ⊢
  have hl : lv_has ls 4 [(0, .ref (ad 0 0)), (1, .int p0), (2, .int o)] := hl
  have hn30 := hI.1
  refine lv_aload_n hx hb dX3_visit_0 rfl (lv_at hl 0 rfl) ?_
  refine lv_iload_n hx hb dX3_visit_1 rfl (lv_at hl 1 rfl) ?_
  refine x_call1 (vx_runV (As := [.int p0]) (rest := []) ⟨hx, hb, hml, hown, hts⟩ (m_X3_knownPage l hl9 D cy A9 ad τ ν hn30 p0) (cwV 1 hts gX3_visit_X3_knownPage rfl rfl rfl (by decide +kernel) ⟨Nat.le_of_ble_eq_true rfl, Nat.le_of_ble_eq_true rfl⟩) (x_preV (C := RX3) (B := CW D cy ad τ ν) hK hX9 hB (hB 0 0 Nat.zero_lt_one) rfl) rfl rfl hl.1 rfl (lv_room (Nat.le_of_ble_eq_true rfl)) dX3_visit_2 ⟨Nat.le_of_ble_eq_true rfl, Nat.le_of_ble_eq_true rfl⟩) hlocks ht9 (fun E hE => Or.inl hE) (Nat.le_of_ble_eq_true rfl) (Nat.le_of_ble_eq_true rfl) (fun hk9 => ?_)
  obtain ⟨q0, hq0, eh⟩ := idx_page hn30 hk9
  have q30 : q0 < 30 := Nat.lt_of_lt_of_le hq0 hn30
  have ec : p0.toNatClampNeg = q0 := by rw [eh, cl_nI (by omega)]
  refine g_top (v' := .ref (ad 7 q0)) (by rw [ec]) ?_
  refine lv_astore_n (lv' := [(3, .ref (ad 7 q0)), (0, .ref (ad 0 0)), (1, .int p0), (2, .int o)]) hx hb dX3_visit_5 rfl hl (by decide) rfl (fun ls hl => ?_)
  refine lv_iload_n hx hb dX3_visit_6 rfl (lv_at hl 3 rfl) ?_
  refine lv_if_lt (tgt := 15) hx hb dX3_visit_7 (by decide) (fun c_7 => ?_) (fun c_7 => ?_)
  · -- 7 t
    obtain ⟨sa9, hsa9⟩ := hX9.2.2.2.2 (151, "there is no such outcome") (by decide)
    exact vx_throwS (own := "Politecrawl") (cls := xcA) (text := "there is no such outcome") (names := xnm) (ik := 39) (is := 151) (ic := 43) (sa := sa9) (A := A9) hx hb hl9 hown (by decide +kernel) (by decide +kernel) (hts _ (by decide +kernel)) (hts _ (by decide +kernel)) hsa9 (vx_hat (fun w hw => hts w (xm_X3_visit_xcA w hw)) xw_xcA (vx_c (va_Nw.use rfl (hX9.2.2.1 xcA (by decide))) (vx_c (va_Nw.use rfl (hX9.2.2.2.1 _ (by decide))) (vx_c (va_Nw.use rfl (hX9.2.2.2.1 _ (by decide))) (vx_c (va_Nw.use rfl (hX9.2.2.2.1 _ (by decide))) vx_n))))) xg_xcA hX9.1 hX9.2.1 va_S.rf (by rw [hml]; exact hl.1) dX3_visit_15 dX3_visit_18 dX3_visit_19 dX3_visit_21 dX3_visit_24 (fun x hx => (ht9 x hx).elim) (Nat.le_of_ble_eq_true rfl) (Nat.le_of_ble_eq_true rfl) (Nat.le_of_ble_eq_true rfl) (Nat.le_of_ble_eq_true rfl) hlocks (fun t _ z1 z2 => ⟨Or.inr (Or.inl ⟨hk9, in_no1 c_7, rfl⟩), z1, z2⟩) (fun z hz => nomatch hz) (Nat.le_of_ble_eq_true rfl) (Nat.le_of_ble_eq_true rfl)
  · -- 7 f
    refine lv_iload_n hx hb dX3_visit_10 rfl (lv_at hl 3 rfl) ?_
    refine lv_iconst (v := 3) hx hb dX3_visit_11 (by decide) ?_
    refine lv_icmp_le (tgt := 25) hx hb dX3_visit_12 (by decide) (fun c_12 => ?_) (fun c_12 => ?_)
    · -- 12 t
      refine lv_aload_n hx hb dX3_visit_25 rfl (lv_at hl 1 rfl) ?_
      refine lv_aload_n hx hb dX3_visit_26 rfl (lv_at hl 0 rfl) ?_
      refine g_csr (va_runV (As := [.ref (ad 7 q0)]) (rest := []) ⟨hx, hb, hml, hown, hts⟩ (m_X3_isReady l D cy ad τ ν hI q0 hq0) (cwV 1 hts gX3_visit_X3_isReady rfl rfl rfl (by decide +kernel) ⟨Nat.le_of_ble_eq_true rfl, Nat.le_of_ble_eq_true rfl⟩) (g_preV (C := RX3) (B := (CW D cy ad τ ν)) hK hB (hB 0 0 Nat.zero_lt_one) rfl) rfl rfl hl.1 rfl (lv_room (Nat.le_of_ble_eq_true rfl)) dX3_visit_27 ⟨Nat.le_of_ble_eq_true rfl, Nat.le_of_ble_eq_true rfl⟩) ?_
      refine lv_if_ne (tgt := 43) hx hb dX3_visit_30 (by decide) (fun c_30 => ?_) (fun c_30 => ?_)
      · -- 30 t
        refine lv_aload_n hx hb dX3_visit_43 rfl (lv_at hl 1 rfl) ?_
        refine lv_dup hx hb dX3_visit_44 rfl ?_
        refine g_get (C := RX3) (T := TX3) (N := 9) (ci := 3) (fs := [.ref (ad 1 0), .ref (ad 2 0), .ref (ad 3 0), .int (nI (ν 0 0)), .int (τ 0 0), .int (τ 1 0), .int (τ 2 0), .int (τ 3 0), .int (τ 20 0)]) hx hb hts inX3 hown hK (hB 0 0 Nat.zero_lt_one) rfl 8 (by decide) lk155 rfl rfl dX3_visit_45 ?_
        refine lv_iconst (v := 1) hx hb dX3_visit_48 (by decide) ?_
        refine lv_iadd hx hb dX3_visit_49 ?_
        refine g_put (C := RX3) (T := TX3) (N := 9) (ci := 3) (fs := [.ref (ad 1 0), .ref (ad 2 0), .ref (ad 3 0), .int (nI (ν 0 0)), .int (τ 0 0), .int (τ 1 0), .int (τ 2 0), .int (τ 3 0), .int (τ 20 0)]) (A := (wA (cC (ν 0 0)) ad s.heap.size)) hx hb hts inX3 tyX3 tyX3_ok nmX3 hown hK (hB 0 0 Nat.zero_lt_one) rfl hS (wA.in (cn := cC (ν 0 0)) (k := 0) (i := 0) (Nat.zero_lt_one)) 8 (by decide) lk155 rfl rfl rfl rfl (Nat.le_of_ble_eq_true rfl) dX3_visit_50 (fun H1 locs1 hc1 hu1 hS1 => ?_)
        have hB1 : CW D cy ad (up2 τ 20 0 ((τ 20 0) + 1)) ν H1 := hB.sc hJ (by decide) hc1 hu1
        obtain ⟨τ1, hs1⟩ : ∃ z : IT, z = up2 τ 20 0 ((τ 20 0) + 1) := ⟨_, rfl⟩
        rw [← hs1] at hB1
        refine lv_aload_n hx hb dX3_visit_53 rfl (lv_at hl 1 rfl) ?_
        refine lv_aload_n hx hb dX3_visit_54 rfl (lv_at hl 0 rfl) ?_
        refine lv_iload_n hx hb dX3_visit_55 rfl (lv_at hl 3 rfl) ?_
        refine g_cu0 (va_runV (As := [.ref (ad 7 q0), .int o]) (rest := []) ⟨hx, hb, hml, hown, hts⟩ (m_X3_settle l D cy H1.size ad τ1 ν hJ (fun p hp => (hI.2.2.2.2.2 p hp).1) q0 hq0 o) (cwV 2 hts gX3_visit_X3_settle rfl rfl rfl (by decide +kernel) ⟨Nat.le_of_ble_eq_true rfl, Nat.le_of_ble_eq_true rfl⟩) (g_preV (C := RX3) (B := atSz H1.size (CW D cy ad τ1 ν)) hK ⟨rfl, hB1⟩ (hB1 0 0 Nat.zero_lt_one) rfl) rfl rfl hl.1 rfl (lv_room (Nat.le_of_ble_eq_true rfl)) dX3_visit_56 ⟨Nat.le_of_ble_eq_true rfl, Nat.le_of_ble_eq_true rfl⟩) hS1 (fun q _ h => wA.mono hS1.1 h) (fun q h => wA.mono hS1.1 h) (fun H2 locs2 hB2 hz2 hk2 hS2 => ?_)
        obtain ⟨τ2, hs2⟩ : ∃ z : IT, z = settleC τ1 ν q0 o := ⟨_, rfl⟩
        rw [← hs2] at hB2
        refine lv_aload_n hx hb dX3_visit_59 rfl (lv_at hl 0 rfl) ?_
        refine g_get (C := RX2) (T := TX2) (N := 10) (ci := 2) (fs := [.int (nI q0), .ref (ad 6 (ν 5 q0)), .ref (ad 8 q0), .int (τ2 15 q0), .int (τ2 10 q0), .int (τ2 11 q0), .int (τ2 12 q0), .int (τ2 13 q0), .int (τ2 14 q0), .int (τ2 25 q0)]) hx hb hts inX2 hown hK (hB2 7 q0 hq0) rfl 1 (by decide) lk162 rfl rfl dX3_visit_60 ?_
        refine lv_aload_n hx hb dX3_visit_63 rfl (lv_at hl 1 rfl) ?_
        refine g_get (C := RX3) (T := TX3) (N := 9) (ci := 3) (fs := [.ref (ad 1 0), .ref (ad 2 0), .ref (ad 3 0), .int (nI (ν 0 0)), .int (τ2 0 0), .int (τ2 1 0), .int (τ2 2 0), .int (τ2 3 0), .int (τ2 20 0)]) hx hb hts inX3 hown hK (hB2 0 0 Nat.zero_lt_one) rfl 4 (by decide) lk111 rfl rfl dX3_visit_64 ?_
        refine g_cu0 (va_runV (As := [.int (τ2 0 0)]) (rest := []) ⟨hx, hb, hml, hown, hts⟩ (m_X1_restFrom l D cy H2.size ad τ2 ν hJ (ν 5 q0) (hI.2.2.2.2.2 q0 hq0).1 (τ2 0 0)) (cwV 1 hts gX3_visit_X1_restFrom rfl rfl rfl (by decide +kernel) ⟨Nat.le_of_ble_eq_true rfl, Nat.le_of_ble_eq_true rfl⟩) (g_preV (C := RX1) (B := atSz H2.size (CW D cy ad τ2 ν)) hK ⟨rfl, hB2⟩ (hB2 6 (ν 5 q0) (hI.2.2.2.2.2 q0 hq0).1) rfl) rfl rfl hl.1 rfl (lv_room (Nat.le_of_ble_eq_true rfl)) dX3_visit_67 ⟨Nat.le_of_ble_eq_true rfl, Nat.le_of_ble_eq_true rfl⟩) hS2 (fun q _ h => wA.mono hS2.1 h) (fun q h => wA.mono hS2.1 h) (fun H3 locs3 hB3 hz3 hk3 hS3 => ?_)
        obtain ⟨τ3, hs3⟩ : ∃ z : IT, z = up2 τ2 9 (ν 5 q0) (τ2 0 0 + τ2 7 (ν 5 q0) <<< (mn (τ2 8 (ν 5 q0)) 5 &&& 31)) := ⟨_, rfl⟩
        rw [← hs3] at hB3
        refine lv_aload_n hx hb dX3_visit_70 rfl (lv_at hl 0 rfl) ?_
        refine g_get (C := RX2) (T := TX2) (N := 10) (ci := 2) (fs := [.int (nI q0), .ref (ad 6 (ν 5 q0)), .ref (ad 8 q0), .int (τ3 15 q0), .int (τ3 10 q0), .int (τ3 11 q0), .int (τ3 12 q0), .int (τ3 13 q0), .int (τ3 14 q0), .int (τ3 25 q0)]) hx hb hts inX2 hown hK (hB3 7 q0 hq0) rfl 1 (by decide) lk162 rfl rfl dX3_visit_71 ?_
        refine g_get (C := RX1) (T := TX1) (N := 3) (ci := 1) (fs := [.int (τ3 7 (ν 5 q0)), .int (τ3 8 (ν 5 q0)), .int (τ3 9 (ν 5 q0))]) hx hb hts inX1 hown hK (hB3 6 (ν 5 q0) (hI.2.2.2.2.2 q0 hq0).1) rfl 2 (by decide) lk89 rfl rfl dX3_visit_74 ?_
        exact x_ret ⟨hk9, in_of c_7 c_12, by rw [ec]; exact zb_n0.mp c_30⟩ (g_iretU hx hb hr hlocks hS3 (by rw [ec]; rw [hs3, hs2, hs1] at hB3; exact hB3) (Nat.le_of_ble_eq_true rfl) (Nat.le_of_ble_eq_true rfl) dX3_visit_77 (by rw [ec, hs3, hs2, hs1]; rfl))
      · -- 30 f
        obtain ⟨sa9, hsa9⟩ := hX9.2.2.2.2 (153, "the page may not be visited now") (by decide)
        exact vx_throwS (own := "Politecrawl") (cls := xcL) (text := "the page may not be visited now") (names := xnm) (ik := 50) (is := 153) (ic := 54) (sa := sa9) (A := A9) hx hb hl9 hown (by decide +kernel) (by decide +kernel) (hts _ (by decide +kernel)) (hts _ (by decide +kernel)) hsa9 (vx_hat (fun w hw => hts w (xm_X3_visit_xcL w hw)) xw_xcL (vx_c (va_Nw.use rfl (hX9.2.2.1 xcL (by decide))) (vx_c (va_Nw.use rfl (hX9.2.2.2.1 _ (by decide))) (vx_c (va_Nw.use rfl (hX9.2.2.2.1 _ (by decide))) (vx_c (va_Nw.use rfl (hX9.2.2.2.1 _ (by decide))) vx_n))))) xg_xcL hX9.1 hX9.2.1 va_S.rf (by rw [hml]; exact hl.1) dX3_visit_33 dX3_visit_36 dX3_visit_37 dX3_visit_39 dX3_visit_42 (fun x hx => (ht9 x hx).elim) (Nat.le_of_ble_eq_true rfl) (Nat.le_of_ble_eq_true rfl) (Nat.le_of_ble_eq_true rfl) (Nat.le_of_ble_eq_true rfl) hlocks (fun t _ z1 z2 => ⟨Or.inr (Or.inr ⟨hk9, in_of c_7 c_12, by rw [ec]; exact zb_0.mp c_30, rfl⟩), z1, z2⟩) (fun z hz => nomatch hz) (Nat.le_of_ble_eq_true rfl) (Nat.le_of_ble_eq_true rfl)
    · -- 12 f
      obtain ⟨sa9, hsa9⟩ := hX9.2.2.2.2 (151, "there is no such outcome") (by decide)
      exact vx_throwS (own := "Politecrawl") (cls := xcA) (text := "there is no such outcome") (names := xnm) (ik := 39) (is := 151) (ic := 43) (sa := sa9) (A := A9) hx hb hl9 hown (by decide +kernel) (by decide +kernel) (hts _ (by decide +kernel)) (hts _ (by decide +kernel)) hsa9 (vx_hat (fun w hw => hts w (xm_X3_visit_xcA w hw)) xw_xcA (vx_c (va_Nw.use rfl (hX9.2.2.1 xcA (by decide))) (vx_c (va_Nw.use rfl (hX9.2.2.2.1 _ (by decide))) (vx_c (va_Nw.use rfl (hX9.2.2.2.1 _ (by decide))) (vx_c (va_Nw.use rfl (hX9.2.2.2.1 _ (by decide))) vx_n))))) xg_xcA hX9.1 hX9.2.1 va_S.rf (by rw [hml]; exact hl.1) dX3_visit_15 dX3_visit_18 dX3_visit_19 dX3_visit_21 dX3_visit_24 (fun x hx => (ht9 x hx).elim) (Nat.le_of_ble_eq_true rfl) (Nat.le_of_ble_eq_true rfl) (Nat.le_of_ble_eq_true rfl) (Nat.le_of_ble_eq_true rfl) hlocks (fun t _ z1 z2 => ⟨Or.inr (Or.inl ⟨hk9, in_no2 c_12, rfl⟩), z1, z2⟩) (fun z hz => nomatch hz) (Nat.le_of_ble_eq_true rfl) (Nat.le_of_ble_eq_true rfl)

set_option maxRecDepth 100000 in
theorem xm_X3_share_xcA : ∀ w ∈ (vx_atS "Politecrawl" 43 xcA xnm).filter goodWord, w ∈ wsX3_share := by decide +kernel
set_option maxHeartbeats 4000000 in
set_option maxRecDepth 100000 in
/-- share -/
theorem m_X3_share (l : Launch) (hl9 : l.stackTraces = false) (D : va_G) (cy : Nat → ClassId) (A9 : Nat → Prop) (sz : Nat) (ad : NT) (τ : IT) (ν : NT) (hJ : wJ (cC (ν 0 0)) ad) (hn30 : ν 0 0 ≤ 30) (p0 cnt : Int32) : vx_Met l yX3_share wsX3_share ({ frames := 7, cells := 2, slots := 12, locals := 120 } : Room) (va_Pc [.ref (ad 0 0), .int p0, .int cnt] (fun U => gK D cy U ∧ xK A9 U U.heap ∧ (atSz sz (CW D cy ad τ ν)) U.heap)) (kQ (pageB ν p0 = true ∧ inB cnt 0 100 = true) (uQ (some (.int (svN τ ν cnt.toNatClampNeg 25 p0.toNatClampNeg))) (CW D cy ad (svN τ ν cnt.toNatClampNeg) ν) (wA (cC (ν 0 0)) ad sz))) (xQ (fun E => (pageB ν p0 = false ∧ E = xcI) ∨ (pageB ν p0 = true ∧ inB cnt 0 100 = false ∧ E = xcA))) 2 12 (wA (cC (ν 0 0)) ad sz) := by
  refine vx_ofW (cc := cX3_share) (maxL := 5) (ret := (some .int)) (by decide) rfl ?_
  intro p e s m args below meth c s₁ B9 hml ht9 hv
  obtain ⟨rfl, hK, hX9, hsz, hB⟩ := hv
  have hx := B9.exec
  have hb := B9.bytes
  have hr := B9.returns
  have hts := atoms_spec (ws := wsX3_share) B9.pre
  have hown : s.vm.findClass RX3 = some m.cls := findClass_of_methodNamed B9.named
  have hlocks := B9.notSynchronized
  subst hsz
  have hS : va_S (wA (cC (ν 0 0)) ad s.heap.size) s.heap s.heap [] := va_S.rf
  have lk198 := hts (.fieldLink RX3 198 "Politecrawl$Page" "spread" "I") (by decide +kernel)
  have inX2 : ∀ w ∈ u_ws RX2 TX2 10, w ∈ wsX3_share := by decide +kernel
  have hl := lv_entry ([.ref (ad 0 0), .int p0, .int cnt]) (n := 5) (Nat.le_of_ble_eq_true rfl)
  rw [lg_entry_eq]
  generalize (lg_sl ([.ref (ad 0 0), .int p0, .int cnt]) ++ List.replicate (5 - (lg_sl ([.ref (ad 0 0), .int p0, .int cnt])).length) Slot.unset).toArray = ls at hl ⊢
  have hl : lv_has ls 5 [(0, .ref (ad 0 0)), (1, .int p0), (2, .int cnt)] := hl
  refine lv_aload_n hx hb dX3_share_0 rfl (lv_at hl 0 rfl) ?_
  refine lv_iload_n hx hb dX3_share_1 rfl (lv_at hl 1 rfl) ?_
  refine x_call1 (vx_runV (As := [.int p0]) (rest := []) ⟨hx, hb, hml, hown, hts⟩ (m_X3_knownPage l hl9 D cy A9 ad τ ν hn30 p0) (cwV 1 hts gX3_share_X3_knownPage rfl rfl rfl (by decide +kernel) ⟨Nat.le_of_ble_eq_true rfl, Nat.le_of_ble_eq_true rfl⟩) (x_preV (C := RX3) (B := CW D cy ad τ ν) hK hX9 hB (hB 0 0 Nat.zero_lt_one) rfl) rfl rfl hl.1 rfl (lv_room (Nat.le_of_ble_eq_true rfl)) dX3_share_2 ⟨Nat.le_of_ble_eq_true rfl, Nat.le_of_ble_eq_true rfl⟩) hlocks ht9 (fun E hE => Or.inl hE) (Nat.le_of_ble_eq_true rfl) (Nat.le_of_ble_eq_true rfl) (fun hk9 => ?_)
  obtain ⟨q0, hq0, eh⟩ := idx_page hn30 hk9
  have q30 : q0 < 30 := Nat.lt_of_lt_of_le hq0 hn30
  have ec : p0.toNatClampNeg = q0 := by rw [eh, cl_nI (by omega)]
  refine g_top (v' := .ref (ad 7 q0)) (by rw [ec]) ?_
  refine lv_astore_n (lv' := [(3, .ref (ad 7 q0)), (0, .ref (ad 0 0)), (1, .int p0), (2, .int cnt)]) hx hb dX3_share_5 rfl hl (by decide) rfl (fun ls hl => ?_)
  refine lv_iload_n hx hb dX3_share_6 rfl (lv_at hl 3 rfl) ?_
  refine lv_if_lt (tgt := 16) hx hb dX3_share_7 (by decide) (fun c_7 => ?_) (fun c_7 => ?_)
  · -- 7 t
    obtain ⟨sa9, hsa9⟩ := hX9.2.2.2.2 (190, "the visits are out of range") (by decide)
    exact vx_throwS (own := "Politecrawl") (cls := xcA) (text := "the visits are out of range") (names := xnm) (ik := 39) (is := 190) (ic := 43) (sa := sa9) (A := A9) hx hb hl9 hown (by decide +kernel) (by decide +kernel) (hts _ (by decide +kernel)) (hts _ (by decide +kernel)) hsa9 (vx_hat (fun w hw => hts w (xm_X3_share_xcA w hw)) xw_xcA (vx_c (va_Nw.use rfl (hX9.2.2.1 xcA (by decide))) (vx_c (va_Nw.use rfl (hX9.2.2.2.1 _ (by decide))) (vx_c (va_Nw.use rfl (hX9.2.2.2.1 _ (by decide))) (vx_c (va_Nw.use rfl (hX9.2.2.2.1 _ (by decide))) vx_n))))) xg_xcA hX9.1 hX9.2.1 va_S.rf (by rw [hml]; exact hl.1) dX3_share_16 dX3_share_19 dX3_share_20 dX3_share_22 dX3_share_25 (fun x hx => (ht9 x hx).elim) (Nat.le_of_ble_eq_true rfl) (Nat.le_of_ble_eq_true rfl) (Nat.le_of_ble_eq_true rfl) (Nat.le_of_ble_eq_true rfl) hlocks (fun t _ z1 z2 => ⟨Or.inr ⟨hk9, in_no1 c_7, rfl⟩, z1, z2⟩) (fun z hz => nomatch hz) (Nat.le_of_ble_eq_true rfl) (Nat.le_of_ble_eq_true rfl)
  · -- 7 f
    refine lv_iload_n hx hb dX3_share_10 rfl (lv_at hl 3 rfl) ?_
    refine lv_bipush (v := 100) hx hb dX3_share_11 (by decide) ?_
    refine lv_icmp_le (tgt := 26) hx hb dX3_share_13 (by decide) (fun c_13 => ?_) (fun c_13 => ?_)
    · -- 13 t
      refine lv_aload_n hx hb dX3_share_26 rfl (lv_at hl 1 rfl) ?_
      refine g_cu0 (va_runV (As := []) (rest := []) ⟨hx, hb, hml, hown, hts⟩ (m_X3_forgetSpread l D cy s.heap.size ad τ ν hJ) (cwV 0 hts gX3_share_X3_forgetSpread rfl rfl rfl (by decide +kernel) ⟨Nat.le_of_ble_eq_true rfl, Nat.le_of_ble_eq_true rfl⟩) (g_preV (C := RX3) (B := atSz s.heap.size (CW D cy ad τ ν)) hK ⟨rfl, hB⟩ (hB 0 0 Nat.zero_lt_one) rfl) rfl rfl hl.1 rfl (lv_room (Nat.le_of_ble_eq_true rfl)) dX3_share_27 ⟨Nat.le_of_ble_eq_true rfl, Nat.le_of_ble_eq_true rfl⟩) hS (fun q _ h => wA.mono hS.1 h) (fun q h => wA.mono hS.1 h) (fun H1 locs1 hB1 hz1 hk1 hS1 => ?_)
      obtain ⟨τ1, hs1⟩ : ∃ z : IT, z = fgL τ (ν 0 0) 30 := ⟨_, rfl⟩
      rw [← hs1] at hB1
      refine lv_iconst (v := 0) hx hb dX3_share_30 (by decide) ?_
      refine lv_topi (fun y1 ey1 => ?_)
      obtain rfl : y1 = nI 0 := ey1.trans (nI_0.symm)
      refine lv_istore (lv' := [(4, .int (nI 0)), (3, .ref (ad 7 q0)), (0, .ref (ad 0 0)), (1, .int p0), (2, .int cnt)]) hx hb dX3_share_31 hl (by decide) rfl (fun ls hl => ?_)
      obtain ⟨cn, hcn, ecn⟩ := idx_cnt (in_of c_7 c_13)
      have ec2 : cnt.toNatClampNeg = cn := by rw [ecn, cl_nI (by omega)]
      have loop : ∀ (k : Nat) (iz : Nat) (Hz : Heap) (locsz : List Loc) (τz : IT) (ls : Array Slot), iz ≤ cn → cn < iz + k → CW D cy ad τz ν Hz → va_S (wA (cC (ν 0 0)) ad s.heap.size) s.heap Hz locsz → τz = svN τ ν iz → lv_has ls 5 [(0, .ref (ad 0 0)), (1, .int p0), (2, .int cnt), (3, .ref (ad 7 q0)), (4, .int (nI iz))] → W p l e (headSpec wsX3_share ({ frames := 7, cells := 2, slots := 12, locals := 120 } : Room)).room s m ([.ref (ad 0 0), .int p0, .int cnt] : List Value).toArray below meth c Hz locsz (0 + 1) (0 + 6) (vx_MQ below (kQ (pageB ν p0 = true ∧ inB cnt 0 100 = true) (uQ (some (.int (svN τ ν cnt.toNatClampNeg 25 p0.toNatClampNeg))) (CW D cy ad (svN τ ν cnt.toNatClampNeg) ν) (wA (cC (ν 0 0)) ad s.heap.size))) (xQ (fun E => (pageB ν p0 = false ∧ E = xcI) ∨ (pageB ν p0 = true ∧ inB cnt 0 100 = false ∧ E = xcA))) ([.ref (ad 0 0), .int p0, .int cnt] : List Value).toArray s 2 12 (wA (cC (ν 0 0)) ad s.heap.size)) (F0 m 33 ls []) := by
        intro k
        induction k with
        | zero => intro iz Hz locsz τz ls hi hk hBz hSz hτ hl; exfalso; omega
        | succ k loop_ih =>
          intro iz Hz locsz τz ls hi hk hBz hSz hτ hl
          refine lv_iload hx hb dX3_share_33 (lv_at hl 4 rfl) ?_
          refine lv_iload_n hx hb dX3_share_35 rfl (lv_at hl 2 rfl) ?_
          refine lv_icmp_ge (tgt := 49) hx hb dX3_share_36 (by decide) (fun c_36 => ?_) (fun c_36 => ?_)
          · -- 36 t
            rw [ecn] at c_36
            have hie : iz = cn := by have := (nI_leI (by omega) (by omega)).mp c_36; omega
            refine lv_aload_n hx hb dX3_share_49 rfl (lv_at hl 3 rfl) ?_
            refine g_get (C := RX2) (T := TX2) (N := 10) (ci := 2) (fs := [.int (nI q0), .ref (ad 6 (ν 5 q0)), .ref (ad 8 q0), .int (τz 15 q0), .int (τz 10 q0), .int (τz 11 q0), .int (τz 12 q0), .int (τz 13 q0), .int (τz 14 q0), .int (τz 25 q0)]) hx hb hts inX2 hown hK (hBz 7 q0 hq0) rfl 9 (by decide) lk198 rfl rfl dX3_share_50 ?_
            exact x_ret ⟨hk9, in_of c_7 c_13⟩ (g_iretU hx hb hr hlocks hSz (by rw [ec2]; rw [hτ, hie] at hBz; exact hBz) (Nat.le_of_ble_eq_true rfl) (Nat.le_of_ble_eq_true rfl) dX3_share_53 (by rw [ec, ec2, hτ, hie]))
          · -- 36 f
            rw [ecn] at c_36
            have hlt : iz < cn := Nat.not_le.mp fun q => c_36 ((nI_leI (by omega) (by omega)).mpr q)
            refine lv_aload_n hx hb dX3_share_39 rfl (lv_at hl 0 rfl) ?_
            refine g_cu0 (va_runV (As := []) (rest := []) ⟨hx, hb, hml, hown, hts⟩ (m_X3_spreadOneVisit l D cy Hz.size ad τz ν hJ) (cwV 0 hts gX3_share_X3_spreadOneVisit rfl rfl rfl (by decide +kernel) ⟨Nat.le_of_ble_eq_true rfl, Nat.le_of_ble_eq_true rfl⟩) (g_preV (C := RX3) (B := atSz Hz.size (CW D cy ad τz ν)) hK ⟨rfl, hBz⟩ (hBz 0 0 Nat.zero_lt_one) rfl) rfl rfl hl.1 rfl (lv_room (Nat.le_of_ble_eq_true rfl)) dX3_share_40 ⟨Nat.le_of_ble_eq_true rfl, Nat.le_of_ble_eq_true rfl⟩) hSz (fun q _ h => wA.mono hSz.1 h) (fun q h => wA.mono hSz.1 h) (fun H2 locs2 hB2 hz2 hk2 hS2 => ?_)
            obtain ⟨τ2, hs2⟩ : ∃ z : IT, z = incC τz (bstL τz ν 30 0 none) := ⟨_, rfl⟩
            rw [← hs2] at hB2
            refine lv_iinc (v := nI (iz + 1)) (lv' := [(4, .int (nI (iz + 1))), (0, .ref (ad 0 0)), (1, .int p0), (2, .int cnt), (3, .ref (ad 7 q0))]) hx hb dX3_share_43 hl (k := 4) rfl (nI_1 iz) (by decide) rfl (fun ls hl => ?_)
            refine lv_goto (tgt := 33) hx hb dX3_share_46 (by decide) ?_
            exact loop_ih (iz + 1) H2 locs2 τ2 ls (by omega) (by omega) hB2 hS2 (by rw [hs2, svN, ← hτ]) (lv_sub hl [1, 2, 3, 4, 0] rfl)
      exact loop (cn + 1) 0 H1 locs1 τ1 ls (Nat.zero_le _) (by omega) hB1 hS1 (by rw [hs1]; rfl) (lv_sub hl [2, 3, 4, 1, 0] rfl)
    · -- 13 f
      obtain ⟨sa9, hsa9⟩ := hX9.2.2.2.2 (190, "the visits are out of range") (by decide)
      exact vx_throwS (own := "Politecrawl") (cls := xcA) (text := "the visits are out of range") (names := xnm) (ik := 39) (is := 190) (ic := 43) (sa := sa9) (A := A9) hx hb hl9 hown (by decide +kernel) (by decide +kernel) (hts _ (by decide +kernel)) (hts _ (by decide +kernel)) hsa9 (vx_hat (fun w hw => hts w (xm_X3_share_xcA w hw)) xw_xcA (vx_c (va_Nw.use rfl (hX9.2.2.1 xcA (by decide))) (vx_c (va_Nw.use rfl (hX9.2.2.2.1 _ (by decide))) (vx_c (va_Nw.use rfl (hX9.2.2.2.1 _ (by decide))) (vx_c (va_Nw.use rfl (hX9.2.2.2.1 _ (by decide))) vx_n))))) xg_xcA hX9.1 hX9.2.1 va_S.rf (by rw [hml]; exact hl.1) dX3_share_16 dX3_share_19 dX3_share_20 dX3_share_22 dX3_share_25 (fun x hx => (ht9 x hx).elim) (Nat.le_of_ble_eq_true rfl) (Nat.le_of_ble_eq_true rfl) (Nat.le_of_ble_eq_true rfl) (Nat.le_of_ble_eq_true rfl) hlocks (fun t _ z1 z2 => ⟨Or.inr ⟨hk9, in_no2 c_13, rfl⟩, z1, z2⟩) (fun z hz => nomatch hz) (Nat.le_of_ble_eq_true rfl) (Nat.le_of_ble_eq_true rfl)

set_option maxRecDepth 100000 in
theorem xm_X3_type_xcA : ∀ w ∈ (vx_atS "Politecrawl" 43 xcA xnm).filter goodWord, w ∈ wsX3_type := by decide +kernel
set_option maxRecDepth 100000 in
theorem xm_X3_type_xcL : ∀ w ∈ (vx_atS "Politecrawl" 54 xcL xnm).filter goodWord, w ∈ wsX3_type := by decide +kernel
set_option maxHeartbeats 4000000 in
set_option maxRecDepth 100000 in
/-- type -/
theorem m_X3_type (l : Launch) (hl9 : l.stackTraces = false) (D : va_G) (cy : Nat → ClassId) (A9 : Nat → Prop) (sz : Nat) (ad : NT) (τ : IT) (ν : NT) (hJ : wJ (cC (ν 0 0)) ad) (hI : CI τ ν) (hs2 : ν 2 0 < 30) (c0 : Int32) (hc0 : vp_nar .char c0 = c0) : vx_Met l yX3_type wsX3_type ({ frames := 6, cells := 1, slots := 6, locals := 90 } : Room) (va_Pc [.ref (ad 0 0), .int c0] (fun U => gK D cy U ∧ xK A9 U U.heap ∧ (atSz sz (CW D cy ad τ ν)) U.heap)) (kQ ((c0 = 47 ∨ inB c0 97 122 = true) ∧ ν 1 0 ≠ 30) (uQ (some (.int (nI (ν 1 0 + 1)))) (CW D cy ad (addT τ ν c0) (addN τ ν c0)) (wA (cC (ν 0 0)) ad sz))) (xQ (fun E => (¬ (c0 = 47 ∨ inB c0 97 122 = true) ∧ E = xcA) ∨ ((c0 = 47 ∨ inB c0 97 122 = true) ∧ ν 1 0 = 30 ∧ E = xcL))) 1 6 (wA (cC (ν 0 0)) ad sz) := by
  refine vx_ofW (cc := cX3_type) (maxL := 3) (ret := (some .int)) (by decide) rfl ?_
  intro p e s m args below meth c s₁ B9 hml ht9 hv
  obtain ⟨rfl, hK, hX9, hsz, hB⟩ := hv
  have hx := B9.exec
  have hb := B9.bytes
  have hr := B9.returns
  have hts := atoms_spec (ws := wsX3_type) B9.pre
  have hown : s.vm.findClass RX3 = some m.cls := findClass_of_methodNamed B9.named
  have hlocks := B9.notSynchronized
  subst hsz
  have hS : va_S (wA (cC (ν 0 0)) ad s.heap.size) s.heap s.heap [] := va_S.rf
  have lk10 := hts (.fieldLink RX3 10 "Politecrawl" "buffer" "LPolitecrawl$Address;") (by decide +kernel)
  have inX3 : ∀ w ∈ u_ws RX3 TX3 9, w ∈ wsX3_type := by decide +kernel
  have lk59 := hts (.fieldLink RX3 59 "Politecrawl$Address" "length" "I") (by decide +kernel)
  have inX0 : ∀ w ∈ u_ws RX0 TX0 4, w ∈ wsX3_type := by decide +kernel
  have hl := lv_entry ([.ref (ad 0 0), .int c0]) (n := 3) (Nat.le_of_ble_eq_true rfl)
  rw [lg_entry_eq]
  generalize (lg_sl ([.ref (ad 0 0), .int c0]) ++ List.replicate (3 - (lg_sl ([.ref (ad 0 0), .int c0])).length) Slot.unset).toArray = ls at hl ⊢
  have hl : lv_has ls 3 [(0, .ref (ad 0 0)), (1, .int c0)] := hl
  have hl30 := hI.2.1
  refine lv_iload_n hx hb dX3_type_0 rfl (lv_at hl 1 rfl) ?_
  refine lv_bipush (v := 97) hx hb dX3_type_1 (by decide) ?_
  refine lv_icmp_lt (tgt := 16) hx hb dX3_type_3 (by decide) (fun c_3 => ?_) (fun c_3 => ?_)
  · -- 3 t
    refine lv_iconst (v := 0) hx hb dX3_type_16 (by decide) ?_
    refine lv_istore_n (lv' := [(2, .int 0), (0, .ref (ad 0 0)), (1, .int c0)]) hx hb dX3_type_17 rfl hl (by decide) rfl (fun ls hl => ?_)
    refine lv_iload_n hx hb dX3_type_18 rfl (lv_at hl 0 rfl) ?_
    refine lv_if_ne (tgt := 38) hx hb dX3_type_19 (by decide) (fun c_19 => ?_) (fun c_19 => ?_)
    · exact absurd c_19 (by decide)
    · -- 19 f
      refine lv_iload_n hx hb dX3_type_22 rfl (lv_at hl 2 rfl) ?_
      refine lv_bipush (v := 47) hx hb dX3_type_23 (by decide) ?_
      refine lv_icmp_eq (tgt := 38) hx hb dX3_type_25 (by decide) (fun c_25 => ?_) (fun c_25 => ?_)
      · -- 25 t
        refine lv_aload_n hx hb dX3_type_38 rfl (lv_at hl 1 rfl) ?_
        refine g_get (C := RX3) (T := TX3) (N := 9) (ci := 3) (fs := [.ref (ad 1 0), .ref (ad 2 0), .ref (ad 3 0), .int (nI (ν 0 0)), .int (τ 0 0), .int (τ 1 0), .int (τ 2 0), .int (τ 3 0), .int (τ 20 0)]) hx hb hts inX3 hown hK (hB 0 0 Nat.zero_lt_one) rfl 0 (by decide) lk10 rfl rfl dX3_type_39 ?_
        refine g_csr (va_runV (As := []) (rest := []) ⟨hx, hb, hml, hown, hts⟩ (m_X0_isFull l D cy (ad 1 0) (ad 4 0) (ad 5 0) (τ 6) (τ 22) (ν 1 0) (ν 2 0)) (cwV 0 hts gX3_type_X0_isFull rfl rfl rfl (by decide +kernel) ⟨Nat.le_of_ble_eq_true rfl, Nat.le_of_ble_eq_true rfl⟩) (g_preV (C := RX0) (B := (pA D cy (ad 1 0) (ad 4 0) (ad 5 0) (τ 6) (τ 22) (ν 1 0) (ν 2 0))) hK hB.buf (hB 1 0 Nat.zero_lt_one) rfl) rfl rfl hl.1 rfl (lv_room (Nat.le_of_ble_eq_true rfl)) dX3_type_42 ⟨Nat.le_of_ble_eq_true rfl, Nat.le_of_ble_eq_true rfl⟩) ?_
        refine lv_if_eq (tgt := 58) hx hb dX3_type_45 (by decide) (fun c_45 => ?_) (fun c_45 => ?_)
        · -- 45 t
          have l30 : ν 1 0 < 30 := by have z := c_45; by_cases y : nI (ν 1 0) < 30; exact (nI_ltI (by omega) (by decide)).mp y; rw [if_neg y] at z; exact absurd z (by decide)
          refine lv_aload_n hx hb dX3_type_58 rfl (lv_at hl 1 rfl) ?_
          refine g_get (C := RX3) (T := TX3) (N := 9) (ci := 3) (fs := [.ref (ad 1 0), .ref (ad 2 0), .ref (ad 3 0), .int (nI (ν 0 0)), .int (τ 0 0), .int (τ 1 0), .int (τ 2 0), .int (τ 3 0), .int (τ 20 0)]) hx hb hts inX3 hown hK (hB 0 0 Nat.zero_lt_one) rfl 0 (by decide) lk10 rfl rfl dX3_type_59 ?_
          refine lv_iload_n hx hb dX3_type_62 rfl (lv_at hl 2 rfl) ?_
          refine g_cu0 (va_runV (As := [.int c0]) (rest := []) ⟨hx, hb, hml, hown, hts⟩ (m_X0_add l D cy s.heap.size ad τ ν hJ l30 hs2 hI.2.2.2.1 c0 hc0) (cwV 1 hts gX3_type_X0_add rfl rfl rfl (by decide +kernel) ⟨Nat.le_of_ble_eq_true rfl, Nat.le_of_ble_eq_true rfl⟩) (g_preV (C := RX0) (B := atSz s.heap.size (CW D cy ad τ ν)) hK ⟨rfl, hB⟩ (hB 1 0 Nat.zero_lt_one) rfl) rfl rfl hl.1 rfl (lv_room (Nat.le_of_ble_eq_true rfl)) dX3_type_63 ⟨Nat.le_of_ble_eq_true rfl, Nat.le_of_ble_eq_true rfl⟩) hS (fun q _ h => wA.mono hS.1 h) (fun q h => wA.mono hS.1 h) (fun H1 locs1 hB1 hz1 hk1 hS1 => ?_)
          obtain ⟨τ1, hs1⟩ : ∃ z : IT, z = addT τ ν c0 := ⟨_, rfl⟩
          rw [← hs1] at hB1
          refine lv_aload_n hx hb dX3_type_66 rfl (lv_at hl 1 rfl) ?_
          refine g_get (C := RX3) (T := TX3) (N := 9) (ci := 3) (fs := [.ref (ad 1 0), .ref (ad 2 0), .ref (ad 3 0), .int (nI ((addN τ ν c0) 0 0)), .int (τ1 0 0), .int (τ1 1 0), .int (τ1 2 0), .int (τ1 3 0), .int (τ1 20 0)]) hx hb hts inX3 hown hK (hB1 0 0 Nat.zero_lt_one) rfl 0 (by decide) lk10 rfl rfl dX3_type_67 ?_
          refine g_get (C := RX0) (T := TX0) (N := 4) (ci := 0) (fs := [.ref (ad 4 0), .ref (ad 5 0), .int (nI ((addN τ ν c0) 1 0)), .int (nI ((addN τ ν c0) 2 0))]) hx hb hts inX0 hown hK (hB1 1 0 Nat.zero_lt_one) rfl 2 (by decide) lk59 rfl rfl dX3_type_70 ?_
          exact x_ret ⟨Or.inl c_25, Nat.ne_of_lt l30⟩ (g_iretU hx hb hr hlocks hS1 (by rw [hs1] at hB1; exact hB1) (Nat.le_of_ble_eq_true rfl) (Nat.le_of_ble_eq_true rfl) dX3_type_73 (by rw [addN]; split <;> rfl))
        · -- 45 f
          have l30 : ν 1 0 = 30 := by have z := c_45; by_cases y : nI (ν 1 0) < 30; rw [if_pos y] at z; exact absurd rfl z; have := mt (nI_ltI (a := ν 1 0) (b := 30) (by omega) (by decide)).mpr y; omega
          obtain ⟨sa9, hsa9⟩ := hX9.2.2.2.2 (52, "the address has all its characters") (by decide)
          exact vx_throwS (own := "Politecrawl") (cls := xcL) (text := "the address has all its characters") (names := xnm) (ik := 50) (is := 52) (ic := 54) (sa := sa9) (A := A9) hx hb hl9 hown (by decide +kernel) (by decide +kernel) (hts _ (by decide +kernel)) (hts _ (by decide +kernel)) hsa9 (vx_hat (fun w hw => hts w (xm_X3_type_xcL w hw)) xw_xcL (vx_c (va_Nw.use rfl (hX9.2.2.1 xcL (by decide))) (vx_c (va_Nw.use rfl (hX9.2.2.2.1 _ (by decide))) (vx_c (va_Nw.use rfl (hX9.2.2.2.1 _ (by decide))) (vx_c (va_Nw.use rfl (hX9.2.2.2.1 _ (by decide))) vx_n))))) xg_xcL hX9.1 hX9.2.1 va_S.rf (by rw [hml]; exact hl.1) dX3_type_48 dX3_type_51 dX3_type_52 dX3_type_54 dX3_type_57 (fun x hx => (ht9 x hx).elim) (Nat.le_of_ble_eq_true rfl) (Nat.le_of_ble_eq_true rfl) (Nat.le_of_ble_eq_true rfl) (Nat.le_of_ble_eq_true rfl) hlocks (fun t _ z1 z2 => ⟨Or.inr ⟨Or.inl c_25, l30, rfl⟩, z1, z2⟩) (fun z hz => nomatch hz) (Nat.le_of_ble_eq_true rfl) (Nat.le_of_ble_eq_true rfl)
      · -- 25 f
        obtain ⟨sa9, hsa9⟩ := hX9.2.2.2.2 (41, "neither a letter a to z nor a slash") (by decide)
        exact vx_throwS (own := "Politecrawl") (cls := xcA) (text := "neither a letter a to z nor a slash") (names := xnm) (ik := 39) (is := 41) (ic := 43) (sa := sa9) (A := A9) hx hb hl9 hown (by decide +kernel) (by decide +kernel) (hts _ (by decide +kernel)) (hts _ (by decide +kernel)) hsa9 (vx_hat (fun w hw => hts w (xm_X3_type_xcA w hw)) xw_xcA (vx_c (va_Nw.use rfl (hX9.2.2.1 xcA (by decide))) (vx_c (va_Nw.use rfl (hX9.2.2.2.1 _ (by decide))) (vx_c (va_Nw.use rfl (hX9.2.2.2.1 _ (by decide))) (vx_c (va_Nw.use rfl (hX9.2.2.2.1 _ (by decide))) vx_n))))) xg_xcA hX9.1 hX9.2.1 va_S.rf (by rw [hml]; exact hl.1) dX3_type_28 dX3_type_31 dX3_type_32 dX3_type_34 dX3_type_37 (fun x hx => (ht9 x hx).elim) (Nat.le_of_ble_eq_true rfl) (Nat.le_of_ble_eq_true rfl) (Nat.le_of_ble_eq_true rfl) (Nat.le_of_ble_eq_true rfl) hlocks (fun t _ z1 z2 => ⟨Or.inl ⟨fun z => z.elim c_25 (fun y => by rw [in_no1 c_3] at y; cases y), rfl⟩, z1, z2⟩) (fun z hz => nomatch hz) (Nat.le_of_ble_eq_true rfl) (Nat.le_of_ble_eq_true rfl)
  · -- 3 f
    refine lv_iload_n hx hb dX3_type_6 rfl (lv_at hl 1 rfl) ?_
    refine lv_bipush (v := 122) hx hb dX3_type_7 (by decide) ?_
    refine lv_icmp_gt (tgt := 16) hx hb dX3_type_9 (by decide) (fun c_9 => ?_) (fun c_9 => ?_)
    · -- 9 t
      refine lv_iconst (v := 0) hx hb dX3_type_16 (by decide) ?_
      refine lv_istore_n (lv' := [(2, .int 0), (0, .ref (ad 0 0)), (1, .int c0)]) hx hb dX3_type_17 rfl hl (by decide) rfl (fun ls hl => ?_)
      refine lv_iload_n hx hb dX3_type_18 rfl (lv_at hl 0 rfl) ?_
      refine lv_if_ne (tgt := 38) hx hb dX3_type_19 (by decide) (fun c_19 => ?_) (fun c_19 => ?_)
      · exact absurd c_19 (by decide)
      · -- 19 f
        refine lv_iload_n hx hb dX3_type_22 rfl (lv_at hl 2 rfl) ?_
        refine lv_bipush (v := 47) hx hb dX3_type_23 (by decide) ?_
        refine lv_icmp_eq (tgt := 38) hx hb dX3_type_25 (by decide) (fun c_25 => ?_) (fun c_25 => ?_)
        · -- 25 t
          refine lv_aload_n hx hb dX3_type_38 rfl (lv_at hl 1 rfl) ?_
          refine g_get (C := RX3) (T := TX3) (N := 9) (ci := 3) (fs := [.ref (ad 1 0), .ref (ad 2 0), .ref (ad 3 0), .int (nI (ν 0 0)), .int (τ 0 0), .int (τ 1 0), .int (τ 2 0), .int (τ 3 0), .int (τ 20 0)]) hx hb hts inX3 hown hK (hB 0 0 Nat.zero_lt_one) rfl 0 (by decide) lk10 rfl rfl dX3_type_39 ?_
          refine g_csr (va_runV (As := []) (rest := []) ⟨hx, hb, hml, hown, hts⟩ (m_X0_isFull l D cy (ad 1 0) (ad 4 0) (ad 5 0) (τ 6) (τ 22) (ν 1 0) (ν 2 0)) (cwV 0 hts gX3_type_X0_isFull rfl rfl rfl (by decide +kernel) ⟨Nat.le_of_ble_eq_true rfl, Nat.le_of_ble_eq_true rfl⟩) (g_preV (C := RX0) (B := (pA D cy (ad 1 0) (ad 4 0) (ad 5 0) (τ 6) (τ 22) (ν 1 0) (ν 2 0))) hK hB.buf (hB 1 0 Nat.zero_lt_one) rfl) rfl rfl hl.1 rfl (lv_room (Nat.le_of_ble_eq_true rfl)) dX3_type_42 ⟨Nat.le_of_ble_eq_true rfl, Nat.le_of_ble_eq_true rfl⟩) ?_
          refine lv_if_eq (tgt := 58) hx hb dX3_type_45 (by decide) (fun c_45 => ?_) (fun c_45 => ?_)
          · -- 45 t
            have l30 : ν 1 0 < 30 := by have z := c_45; by_cases y : nI (ν 1 0) < 30; exact (nI_ltI (by omega) (by decide)).mp y; rw [if_neg y] at z; exact absurd z (by decide)
            refine lv_aload_n hx hb dX3_type_58 rfl (lv_at hl 1 rfl) ?_
            refine g_get (C := RX3) (T := TX3) (N := 9) (ci := 3) (fs := [.ref (ad 1 0), .ref (ad 2 0), .ref (ad 3 0), .int (nI (ν 0 0)), .int (τ 0 0), .int (τ 1 0), .int (τ 2 0), .int (τ 3 0), .int (τ 20 0)]) hx hb hts inX3 hown hK (hB 0 0 Nat.zero_lt_one) rfl 0 (by decide) lk10 rfl rfl dX3_type_59 ?_
            refine lv_iload_n hx hb dX3_type_62 rfl (lv_at hl 2 rfl) ?_
            refine g_cu0 (va_runV (As := [.int c0]) (rest := []) ⟨hx, hb, hml, hown, hts⟩ (m_X0_add l D cy s.heap.size ad τ ν hJ l30 hs2 hI.2.2.2.1 c0 hc0) (cwV 1 hts gX3_type_X0_add rfl rfl rfl (by decide +kernel) ⟨Nat.le_of_ble_eq_true rfl, Nat.le_of_ble_eq_true rfl⟩) (g_preV (C := RX0) (B := atSz s.heap.size (CW D cy ad τ ν)) hK ⟨rfl, hB⟩ (hB 1 0 Nat.zero_lt_one) rfl) rfl rfl hl.1 rfl (lv_room (Nat.le_of_ble_eq_true rfl)) dX3_type_63 ⟨Nat.le_of_ble_eq_true rfl, Nat.le_of_ble_eq_true rfl⟩) hS (fun q _ h => wA.mono hS.1 h) (fun q h => wA.mono hS.1 h) (fun H2 locs2 hB2 hz2 hk2 hS2 => ?_)
            obtain ⟨τ2, hs2⟩ : ∃ z : IT, z = addT τ ν c0 := ⟨_, rfl⟩
            rw [← hs2] at hB2
            refine lv_aload_n hx hb dX3_type_66 rfl (lv_at hl 1 rfl) ?_
            refine g_get (C := RX3) (T := TX3) (N := 9) (ci := 3) (fs := [.ref (ad 1 0), .ref (ad 2 0), .ref (ad 3 0), .int (nI ((addN τ ν c0) 0 0)), .int (τ2 0 0), .int (τ2 1 0), .int (τ2 2 0), .int (τ2 3 0), .int (τ2 20 0)]) hx hb hts inX3 hown hK (hB2 0 0 Nat.zero_lt_one) rfl 0 (by decide) lk10 rfl rfl dX3_type_67 ?_
            refine g_get (C := RX0) (T := TX0) (N := 4) (ci := 0) (fs := [.ref (ad 4 0), .ref (ad 5 0), .int (nI ((addN τ ν c0) 1 0)), .int (nI ((addN τ ν c0) 2 0))]) hx hb hts inX0 hown hK (hB2 1 0 Nat.zero_lt_one) rfl 2 (by decide) lk59 rfl rfl dX3_type_70 ?_
            exact x_ret ⟨Or.inl c_25, Nat.ne_of_lt l30⟩ (g_iretU hx hb hr hlocks hS2 (by rw [hs2] at hB2; exact hB2) (Nat.le_of_ble_eq_true rfl) (Nat.le_of_ble_eq_true rfl) dX3_type_73 (by rw [addN]; split <;> rfl))
          · -- 45 f
            have l30 : ν 1 0 = 30 := by have z := c_45; by_cases y : nI (ν 1 0) < 30; rw [if_pos y] at z; exact absurd rfl z; have := mt (nI_ltI (a := ν 1 0) (b := 30) (by omega) (by decide)).mpr y; omega
            obtain ⟨sa9, hsa9⟩ := hX9.2.2.2.2 (52, "the address has all its characters") (by decide)
            exact vx_throwS (own := "Politecrawl") (cls := xcL) (text := "the address has all its characters") (names := xnm) (ik := 50) (is := 52) (ic := 54) (sa := sa9) (A := A9) hx hb hl9 hown (by decide +kernel) (by decide +kernel) (hts _ (by decide +kernel)) (hts _ (by decide +kernel)) hsa9 (vx_hat (fun w hw => hts w (xm_X3_type_xcL w hw)) xw_xcL (vx_c (va_Nw.use rfl (hX9.2.2.1 xcL (by decide))) (vx_c (va_Nw.use rfl (hX9.2.2.2.1 _ (by decide))) (vx_c (va_Nw.use rfl (hX9.2.2.2.1 _ (by decide))) (vx_c (va_Nw.use rfl (hX9.2.2.2.1 _ (by decide))) vx_n))))) xg_xcL hX9.1 hX9.2.1 va_S.rf (by rw [hml]; exact hl.1) dX3_type_48 dX3_type_51 dX3_type_52 dX3_type_54 dX3_type_57 (fun x hx => (ht9 x hx).elim) (Nat.le_of_ble_eq_true rfl) (Nat.le_of_ble_eq_true rfl) (Nat.le_of_ble_eq_true rfl) (Nat.le_of_ble_eq_true rfl) hlocks (fun t _ z1 z2 => ⟨Or.inr ⟨Or.inl c_25, l30, rfl⟩, z1, z2⟩) (fun z hz => nomatch hz) (Nat.le_of_ble_eq_true rfl) (Nat.le_of_ble_eq_true rfl)
        · -- 25 f
          obtain ⟨sa9, hsa9⟩ := hX9.2.2.2.2 (41, "neither a letter a to z nor a slash") (by decide)
          exact vx_throwS (own := "Politecrawl") (cls := xcA) (text := "neither a letter a to z nor a slash") (names := xnm) (ik := 39) (is := 41) (ic := 43) (sa := sa9) (A := A9) hx hb hl9 hown (by decide +kernel) (by decide +kernel) (hts _ (by decide +kernel)) (hts _ (by decide +kernel)) hsa9 (vx_hat (fun w hw => hts w (xm_X3_type_xcA w hw)) xw_xcA (vx_c (va_Nw.use rfl (hX9.2.2.1 xcA (by decide))) (vx_c (va_Nw.use rfl (hX9.2.2.2.1 _ (by decide))) (vx_c (va_Nw.use rfl (hX9.2.2.2.1 _ (by decide))) (vx_c (va_Nw.use rfl (hX9.2.2.2.1 _ (by decide))) vx_n))))) xg_xcA hX9.1 hX9.2.1 va_S.rf (by rw [hml]; exact hl.1) dX3_type_28 dX3_type_31 dX3_type_32 dX3_type_34 dX3_type_37 (fun x hx => (ht9 x hx).elim) (Nat.le_of_ble_eq_true rfl) (Nat.le_of_ble_eq_true rfl) (Nat.le_of_ble_eq_true rfl) (Nat.le_of_ble_eq_true rfl) hlocks (fun t _ z1 z2 => ⟨Or.inl ⟨fun z => z.elim c_25 (fun y => by rw [in_no2 (fun x => absurd c_9 (Int32.not_lt.mpr x))] at y; cases y), rfl⟩, z1, z2⟩) (fun z hz => nomatch hz) (Nat.le_of_ble_eq_true rfl) (Nat.le_of_ble_eq_true rfl)
    · -- 9 f
      refine lv_iconst (v := 1) hx hb dX3_type_12 (by decide) ?_
      refine lv_goto (tgt := 17) hx hb dX3_type_13 (by decide) ?_
      refine lv_istore_n (lv' := [(2, .int 1), (0, .ref (ad 0 0)), (1, .int c0)]) hx hb dX3_type_17 rfl hl (by decide) rfl (fun ls hl => ?_)
      refine lv_iload_n hx hb dX3_type_18 rfl (lv_at hl 0 rfl) ?_
      refine lv_if_ne (tgt := 38) hx hb dX3_type_19 (by decide) (fun c_19 => ?_) (fun c_19 => ?_)
      · -- 19 t
        refine lv_aload_n hx hb dX3_type_38 rfl (lv_at hl 1 rfl) ?_
        refine g_get (C := RX3) (T := TX3) (N := 9) (ci := 3) (fs := [.ref (ad 1 0), .ref (ad 2 0), .ref (ad 3 0), .int (nI (ν 0 0)), .int (τ 0 0), .int (τ 1 0), .int (τ 2 0), .int (τ 3 0), .int (τ 20 0)]) hx hb hts inX3 hown hK (hB 0 0 Nat.zero_lt_one) rfl 0 (by decide) lk10 rfl rfl dX3_type_39 ?_
        refine g_csr (va_runV (As := []) (rest := []) ⟨hx, hb, hml, hown, hts⟩ (m_X0_isFull l D cy (ad 1 0) (ad 4 0) (ad 5 0) (τ 6) (τ 22) (ν 1 0) (ν 2 0)) (cwV 0 hts gX3_type_X0_isFull rfl rfl rfl (by decide +kernel) ⟨Nat.le_of_ble_eq_true rfl, Nat.le_of_ble_eq_true rfl⟩) (g_preV (C := RX0) (B := (pA D cy (ad 1 0) (ad 4 0) (ad 5 0) (τ 6) (τ 22) (ν 1 0) (ν 2 0))) hK hB.buf (hB 1 0 Nat.zero_lt_one) rfl) rfl rfl hl.1 rfl (lv_room (Nat.le_of_ble_eq_true rfl)) dX3_type_42 ⟨Nat.le_of_ble_eq_true rfl, Nat.le_of_ble_eq_true rfl⟩) ?_
        refine lv_if_eq (tgt := 58) hx hb dX3_type_45 (by decide) (fun c_45 => ?_) (fun c_45 => ?_)
        · -- 45 t
          have l30 : ν 1 0 < 30 := by have z := c_45; by_cases y : nI (ν 1 0) < 30; exact (nI_ltI (by omega) (by decide)).mp y; rw [if_neg y] at z; exact absurd z (by decide)
          refine lv_aload_n hx hb dX3_type_58 rfl (lv_at hl 1 rfl) ?_
          refine g_get (C := RX3) (T := TX3) (N := 9) (ci := 3) (fs := [.ref (ad 1 0), .ref (ad 2 0), .ref (ad 3 0), .int (nI (ν 0 0)), .int (τ 0 0), .int (τ 1 0), .int (τ 2 0), .int (τ 3 0), .int (τ 20 0)]) hx hb hts inX3 hown hK (hB 0 0 Nat.zero_lt_one) rfl 0 (by decide) lk10 rfl rfl dX3_type_59 ?_
          refine lv_iload_n hx hb dX3_type_62 rfl (lv_at hl 2 rfl) ?_
          refine g_cu0 (va_runV (As := [.int c0]) (rest := []) ⟨hx, hb, hml, hown, hts⟩ (m_X0_add l D cy s.heap.size ad τ ν hJ l30 hs2 hI.2.2.2.1 c0 hc0) (cwV 1 hts gX3_type_X0_add rfl rfl rfl (by decide +kernel) ⟨Nat.le_of_ble_eq_true rfl, Nat.le_of_ble_eq_true rfl⟩) (g_preV (C := RX0) (B := atSz s.heap.size (CW D cy ad τ ν)) hK ⟨rfl, hB⟩ (hB 1 0 Nat.zero_lt_one) rfl) rfl rfl hl.1 rfl (lv_room (Nat.le_of_ble_eq_true rfl)) dX3_type_63 ⟨Nat.le_of_ble_eq_true rfl, Nat.le_of_ble_eq_true rfl⟩) hS (fun q _ h => wA.mono hS.1 h) (fun q h => wA.mono hS.1 h) (fun H3 locs3 hB3 hz3 hk3 hS3 => ?_)
          obtain ⟨τ3, hs3⟩ : ∃ z : IT, z = addT τ ν c0 := ⟨_, rfl⟩
          rw [← hs3] at hB3
          refine lv_aload_n hx hb dX3_type_66 rfl (lv_at hl 1 rfl) ?_
          refine g_get (C := RX3) (T := TX3) (N := 9) (ci := 3) (fs := [.ref (ad 1 0), .ref (ad 2 0), .ref (ad 3 0), .int (nI ((addN τ ν c0) 0 0)), .int (τ3 0 0), .int (τ3 1 0), .int (τ3 2 0), .int (τ3 3 0), .int (τ3 20 0)]) hx hb hts inX3 hown hK (hB3 0 0 Nat.zero_lt_one) rfl 0 (by decide) lk10 rfl rfl dX3_type_67 ?_
          refine g_get (C := RX0) (T := TX0) (N := 4) (ci := 0) (fs := [.ref (ad 4 0), .ref (ad 5 0), .int (nI ((addN τ ν c0) 1 0)), .int (nI ((addN τ ν c0) 2 0))]) hx hb hts inX0 hown hK (hB3 1 0 Nat.zero_lt_one) rfl 2 (by decide) lk59 rfl rfl dX3_type_70 ?_
          exact x_ret ⟨Or.inr (in_of c_3 (Int32.not_lt.mp c_9)), Nat.ne_of_lt l30⟩ (g_iretU hx hb hr hlocks hS3 (by rw [hs3] at hB3; exact hB3) (Nat.le_of_ble_eq_true rfl) (Nat.le_of_ble_eq_true rfl) dX3_type_73 (by rw [addN]; split <;> rfl))
        · -- 45 f
          have l30 : ν 1 0 = 30 := by have z := c_45; by_cases y : nI (ν 1 0) < 30; rw [if_pos y] at z; exact absurd rfl z; have := mt (nI_ltI (a := ν 1 0) (b := 30) (by omega) (by decide)).mpr y; omega
          obtain ⟨sa9, hsa9⟩ := hX9.2.2.2.2 (52, "the address has all its characters") (by decide)
          exact vx_throwS (own := "Politecrawl") (cls := xcL) (text := "the address has all its characters") (names := xnm) (ik := 50) (is := 52) (ic := 54) (sa := sa9) (A := A9) hx hb hl9 hown (by decide +kernel) (by decide +kernel) (hts _ (by decide +kernel)) (hts _ (by decide +kernel)) hsa9 (vx_hat (fun w hw => hts w (xm_X3_type_xcL w hw)) xw_xcL (vx_c (va_Nw.use rfl (hX9.2.2.1 xcL (by decide))) (vx_c (va_Nw.use rfl (hX9.2.2.2.1 _ (by decide))) (vx_c (va_Nw.use rfl (hX9.2.2.2.1 _ (by decide))) (vx_c (va_Nw.use rfl (hX9.2.2.2.1 _ (by decide))) vx_n))))) xg_xcL hX9.1 hX9.2.1 va_S.rf (by rw [hml]; exact hl.1) dX3_type_48 dX3_type_51 dX3_type_52 dX3_type_54 dX3_type_57 (fun x hx => (ht9 x hx).elim) (Nat.le_of_ble_eq_true rfl) (Nat.le_of_ble_eq_true rfl) (Nat.le_of_ble_eq_true rfl) (Nat.le_of_ble_eq_true rfl) hlocks (fun t _ z1 z2 => ⟨Or.inr ⟨Or.inr (in_of c_3 (Int32.not_lt.mp c_9)), l30, rfl⟩, z1, z2⟩) (fun z hz => nomatch hz) (Nat.le_of_ble_eq_true rfl) (Nat.le_of_ble_eq_true rfl)
      · exact absurd c_19 (by decide)
