/-! the law's wrappers, but find: codes, and what they write -/
def k1 (a : Bool) : Int32 := if a = true then 0 else 1
def k2 (a b : Bool) : Int32 := if a = true then (if b = true then 0 else 2) else 1
def k3 (a b c : Bool) : Int32 := if a = true then (if b = true then (if c = true then 0 else 3) else 2) else 1
def kPaces (a b : Int32) : Int32 := if inB a 1 1000 = true ∧ inB b a 5000 = true then 0 else 1
def kType (ν : NT) (c : Int32) : Int32 := if c = 47 ∨ inB c 97 122 = true then (if ν 1 0 = 30 then 2 else 0) else 1
def kPass (τ : IT) (t : Int32) : Int32 := k2 (inB t 1 1000) (decide (τ 0 0 + t ≤ 100000))
theorem w_in : vp_in 0 1 := by unfold vp_in; decide
theorem k1_0 {a : Bool} (h : a = true) : k1 a = 0 := if_pos h
theorem k1_1 {a : Bool} (h : a = false) : k1 a = 1 := by subst h; rfl
theorem k2_0 {a b : Bool} (h : a = true) (g : b = true) : k2 a b = 0 := by subst h; subst g; rfl
theorem k2_1 {a b : Bool} (h : a = false) : k2 a b = 1 := by subst h; rfl
theorem k2_2 {a b : Bool} (h : a = true) (g : b = false) : k2 a b = 2 := by subst h; subst g; rfl
theorem k3_0 {a b c : Bool} (h : a = true) (g : b = true) (f : c = true) : k3 a b c = 0 := by subst h; subst g; subst f; rfl
theorem k3_1 {a b c : Bool} (h : a = false) : k3 a b c = 1 := by subst h; rfl
theorem k3_2 {a b c : Bool} (h : a = true) (g : b = false) : k3 a b c = 2 := by subst h; subst g; rfl
theorem k3_3 {a b c : Bool} (h : a = true) (g : b = true) (f : c = false) : k3 a b c = 3 := by subst h; subst g; subst f; rfl

set_option maxHeartbeats 4000000 in
set_option maxRecDepth 100000 in
/-- the law: setRest, caught -/
theorem m_L_setRest (l : Launch) (hl9 : l.stackTraces = false) (D : va_G) (cy : Nat → ClassId) (A9 : Nat → Prop) (sz : Nat) (ad : NT) (τ : IT) (ν : NT) (hJ : wJ (cC (ν 0 0)) ad) (o : Nat) (ho : ∀ k i, i < cC (ν 0 0) k → ad k i ≠ o) (x0 : Int64) (h r : Int32) : Met l yL_setRest wsL_setRest ({ frames := 8, cells := 2, slots := 12, locals := 150 } : Room) (va_Pc [.ref (ad 0 0), .int h, .int r, .ref o] (fun U => gK D cy U ∧ yK A9 U U.heap ∧ (atSz sz (WO D cy ad τ ν o x0)) U.heap)) (uQ (some (.int (k2 (hostB h) (inB r 1 100)))) (WO D cy ad (if k2 (hostB h) (inB r 1 100) = 0 then up2 τ 7 h.toNatClampNeg r else τ) (if k2 (hostB h) (inB r 1 100) = 0 then ν else ν) o (if k2 (hostB h) (inB r 1 100) = 0 then (τ 7 h.toNatClampNeg).toInt64 else x0)) (wO (ν 0 0) ad o sz)) 2 12 (wO (ν 0 0) ad o sz) := by
  refine w_ofWH (cc := cL_setRest) (maxL := 5) (ret := (some .int)) (hh := [(0, 10, 13, 21), (0, 10, 17, 13)]) (by decide) rfl ?_
  intro p e s m args below meth c s₁ B9 hml hv
  obtain ⟨rfl, hK, hY9, hsz, hB, f0, hf0, hO⟩ := hv
  have hB : CW D cy ad τ ν s.heap := hB
  subst hsz
  have hx := B9.exec
  have hb := B9.bytes
  have hr := B9.returns
  have hts := atoms_spec (ws := wsL_setRest) B9.pre
  have hown : s.vm.findClass RL = some m.cls := findClass_of_methodNamed B9.named
  have hlocks := B9.notSynchronized
  have htab := vx_table (x := yL_setRest) B9 (hts (.codeWith yL_setRest cL_setRest 5 (some .int) [(0, 10, 13, 21), (0, 10, 17, 13)]) (by decide +kernel))
  have hno : ¬ wA (cC (ν 0 0)) ad s.heap.size o := fun z => z.elim (fun y => by obtain ⟨k, i, hi, e⟩ := y; exact ho k i hi e) (fun y => absurd (va_at.lt hO) (Nat.not_lt.mpr y))
  have hl := lv_entry ([.ref (ad 0 0), .int h, .int r, .ref o]) (n := 5) (Nat.le_of_ble_eq_true rfl)
  rw [lg_entry_eq]
  generalize (lg_sl ([.ref (ad 0 0), .int h, .int r, .ref o]) ++ List.replicate (5 - (lg_sl ([.ref (ad 0 0), .int h, .int r, .ref o])).length) Slot.unset).toArray = ls at hl ⊢
  have hl : lv_has ls 5 [(0, .ref (ad 0 0)), (1, .int h), (2, .int r), (3, .ref o)] := hl
  refine lv_aload_n hx hb dL_setRest_0 rfl (lv_at hl 3 rfl) ?_
  refine lv_iconst (v := 0) hx hb dL_setRest_1 (by decide) ?_
  refine lv_aload_n hx hb dL_setRest_2 rfl (lv_at hl 0 rfl) ?_
  refine lv_iload_n hx hb dL_setRest_3 rfl (lv_at hl 1 rfl) ?_
  refine lv_iload_n hx hb dL_setRest_4 rfl (lv_at hl 2 rfl) ?_
  refine w_call1 (vx_runV (As := [.int h, .int r]) (rest := [.int 0, .ref o]) ⟨hx, hb, hml, hown, hts⟩ (m_X3_setRest l hl9 D cy A9 s.heap.size ad τ ν hJ h r) (cwV 2 hts gL_setRest_X3_setRest rfl rfl rfl (by decide +kernel) ⟨Nat.le_of_ble_eq_true rfl, Nat.le_of_ble_eq_true rfl⟩) (x_preV (C := RX3) (B := atSz s.heap.size (CW D cy ad τ ν)) hK hY9.1 ⟨rfl, hB⟩ (hB 0 0 Nat.zero_lt_one) rfl) rfl rfl hl.1 rfl (lv_room (Nat.le_of_ble_eq_true rfl)) dL_setRest_5 ⟨Nat.le_of_ble_eq_true rfl, Nat.le_of_ble_eq_true rfl⟩) (fun E ce q9 H1 locs1 hPE hz1 hk1 hL1 hce hcv hcl => ?_) (fun hok H1 locs1 hB1 hz1 hk1 hL1 => ?_)
  · have hS1 : va_S (wO (ν 0 0) ad o s.heap.size) s.heap H1 locs1 := ⟨hz1, fun q h1 _ => hk1 q h1, (fun z hz => Or.inl (hL1 z hz))⟩
    have hB1 : CW D cy ad τ ν H1 := hB.keep hk1
    have hO1 := hO.keep hk1
    rcases hPE with hPE | hPE
    · obtain ⟨w1, rfl⟩ := hPE
      refine vx_catch (own := RL) (name := xcI) hown [] ⟨0, 10, 13, 21⟩ [⟨0, 10, 17, 13⟩] (by rw [htab]; rfl) (fun z hz => nomatch hz) (by decide) (by decide) (hts (.classLink RL 21 xcI) (by decide +kernel)) (va_Nw.use rfl (hY9.1.2.2.1 xcI (by decide))) hce hcv hcl ?_
      have hkk : k2 (hostB h) (inB r 1 100) = 1 := k2_1 w1
      refine lv_astore (lv' := [(4, .ref q9), (0, .ref (ad 0 0)), (1, .int h), (2, .int r), (3, .ref o)]) hx hb dL_setRest_13 hl (by decide) rfl (fun ls hl => ?_)
      refine lv_iconst (v := 1) hx hb dL_setRest_15 (by decide) ?_
      exact g_iretU hx hb hr hlocks hS1 (by rw [if_neg (by rw [hkk]; decide), if_neg (by rw [hkk]; decide), if_neg (by rw [hkk]; decide)]; exact ⟨hB1, f0, hf0, hO1⟩) (Nat.le_of_ble_eq_true rfl) (Nat.le_of_ble_eq_true rfl) dL_setRest_16 hkk.symm
    · obtain ⟨w1, w2, rfl⟩ := hPE
      refine vx_catch (own := RL) (name := xcA) hown [⟨0, 10, 13, 21⟩] ⟨0, 10, 17, 13⟩ [] (by rw [htab]; rfl) (fun z hz => (List.mem_cons.mp hz).elim (fun e => by subst e; exact Or.inr ⟨by decide, xcI, hts (.classLink RL 21 xcI) (by decide +kernel), hY9.2.1⟩) (fun hz => nomatch hz)) (by decide) (by decide) (hts (.classLink RL 13 xcA) (by decide +kernel)) (va_Nw.use rfl (hY9.1.2.2.1 xcA (by decide))) hce hcv hcl ?_
      have hkk : k2 (hostB h) (inB r 1 100) = 2 := k2_2 w1 w2
      refine lv_astore (lv' := [(4, .ref q9), (0, .ref (ad 0 0)), (1, .int h), (2, .int r), (3, .ref o)]) hx hb dL_setRest_17 hl (by decide) rfl (fun ls hl => ?_)
      refine lv_iconst (v := 2) hx hb dL_setRest_19 (by decide) ?_
      exact g_iretU hx hb hr hlocks hS1 (by rw [if_neg (by rw [hkk]; decide), if_neg (by rw [hkk]; decide), if_neg (by rw [hkk]; decide)]; exact ⟨hB1, f0, hf0, hO1⟩) (Nat.le_of_ble_eq_true rfl) (Nat.le_of_ble_eq_true rfl) dL_setRest_20 hkk.symm
  · have hk0 : k2 (hostB h) (inB r 1 100) = 0 := k2_0 hok.1 hok.2
    have hS1 : va_S (wO (ν 0 0) ad o s.heap.size) s.heap H1 locs1 := ⟨hz1, fun q h1 h2 => hk1 q h1 (fun z => h2 (Or.inl z)), (fun z hz => Or.inl (hL1 z hz))⟩
    have hO1 : oA D o (.inl (cy 5, 1, .inr (.inl f0))) H1 := va_at.kept hO (hk1 o (va_at.lt hO) hno)
    have hB1 : CW D cy ad (up2 τ 7 h.toNatClampNeg r) (ν) H1 := hB1
    refine lv_i2l hx hb dL_setRest_8 rfl ?_
    refine g_last (A := (wO (ν 0 0) ad o s.heap.size)) (f := f0) hx hb hK hO1 hS1 (Or.inr rfl) w_in dL_setRest_9 (fun H2 locs2 hO2 hu2 hS2 => ?_)
    have hB2 : CW D cy ad (up2 τ 7 h.toNatClampNeg r) (ν) H2 := wP.kept hB1 (fun k i hi => hu2.2 _ (ho k i hi))
    refine lv_goto (tgt := 21) hx hb dL_setRest_10 (by decide) ?_
    refine lv_iconst (v := 0) hx hb dL_setRest_21 (by decide) ?_
    exact g_iretU hx hb hr hlocks hS2 (by rw [if_pos hk0, if_pos hk0, if_pos hk0]; exact ⟨hB2, _, (by rfl), hO2⟩) (Nat.le_of_ble_eq_true rfl) (Nat.le_of_ble_eq_true rfl) dL_setRest_22 hk0.symm

set_option maxHeartbeats 4000000 in
set_option maxRecDepth 100000 in
/-- the law: setPaces, caught -/
theorem m_L_setPaces (l : Launch) (hl9 : l.stackTraces = false) (D : va_G) (cy : Nat → ClassId) (A9 : Nat → Prop) (sz : Nat) (ad : NT) (τ : IT) (ν : NT) (hJ : wJ (cC (ν 0 0)) ad) (a b : Int32) : Met l yL_setPaces wsL_setPaces ({ frames := 8, cells := 1, slots := 6, locals := 150 } : Room) (va_Pc [.ref (ad 0 0), .int a, .int b] (fun U => gK D cy U ∧ yK A9 U U.heap ∧ (atSz sz (CW D cy ad τ ν)) U.heap)) (uQ (some (.int (kPaces a b))) (CW D cy ad (if kPaces a b = 0 then up2 (up2 τ 1 0 a) 2 0 b else τ) ν) (wA (cC (ν 0 0)) ad sz)) 1 6 (wA (cC (ν 0 0)) ad sz) := by
  refine w_ofWH (cc := cL_setPaces) (maxL := 4) (ret := (some .int)) (hh := [(0, 6, 9, 13)]) (by decide) rfl ?_
  intro p e s m args below meth c s₁ B9 hml hv
  obtain ⟨rfl, hK, hY9, hsz, hB⟩ := hv
  have hB : CW D cy ad τ ν s.heap := hB
  subst hsz
  have hx := B9.exec
  have hb := B9.bytes
  have hr := B9.returns
  have hts := atoms_spec (ws := wsL_setPaces) B9.pre
  have hown : s.vm.findClass RL = some m.cls := findClass_of_methodNamed B9.named
  have hlocks := B9.notSynchronized
  have htab := vx_table (x := yL_setPaces) B9 (hts (.codeWith yL_setPaces cL_setPaces 4 (some .int) [(0, 6, 9, 13)]) (by decide +kernel))
  have hl := lv_entry ([.ref (ad 0 0), .int a, .int b]) (n := 4) (Nat.le_of_ble_eq_true rfl)
  rw [lg_entry_eq]
  generalize (lg_sl ([.ref (ad 0 0), .int a, .int b]) ++ List.replicate (4 - (lg_sl ([.ref (ad 0 0), .int a, .int b])).length) Slot.unset).toArray = ls at hl ⊢
  have hl : lv_has ls 4 [(0, .ref (ad 0 0)), (1, .int a), (2, .int b)] := hl
  refine lv_aload_n hx hb dL_setPaces_0 rfl (lv_at hl 0 rfl) ?_
  refine lv_iload_n hx hb dL_setPaces_1 rfl (lv_at hl 1 rfl) ?_
  refine lv_iload_n hx hb dL_setPaces_2 rfl (lv_at hl 2 rfl) ?_
  refine w_call0 (vx_runV (As := [.int a, .int b]) (rest := []) ⟨hx, hb, hml, hown, hts⟩ (m_X3_setPaces l hl9 D cy A9 s.heap.size ad τ ν hJ a b) (cwV 2 hts gL_setPaces_X3_setPaces rfl rfl rfl (by decide +kernel) ⟨Nat.le_of_ble_eq_true rfl, Nat.le_of_ble_eq_true rfl⟩) (x_preV (C := RX3) (B := atSz s.heap.size (CW D cy ad τ ν)) hK hY9.1 ⟨rfl, hB⟩ (hB 0 0 Nat.zero_lt_one) rfl) rfl rfl hl.1 rfl (lv_room (Nat.le_of_ble_eq_true rfl)) dL_setPaces_3 ⟨Nat.le_of_ble_eq_true rfl, Nat.le_of_ble_eq_true rfl⟩) (fun E ce q9 H1 locs1 hPE hz1 hk1 hL1 hce hcv hcl => ?_) (fun hok H1 locs1 hB1 hz1 hk1 hL1 => ?_)
  · have hS1 : va_S (wA (cC (ν 0 0)) ad s.heap.size) s.heap H1 locs1 := ⟨hz1, fun q h1 _ => hk1 q h1, (fun z hz => hL1 z hz)⟩
    have hB1 : CW D cy ad τ ν H1 := hB.keep hk1
    · obtain ⟨w1, rfl⟩ := hPE
      refine vx_catch (own := RL) (name := xcA) hown [] ⟨0, 6, 9, 13⟩ [] (by rw [htab]; rfl) (fun z hz => nomatch hz) (by decide) (by decide) (hts (.classLink RL 13 xcA) (by decide +kernel)) (va_Nw.use rfl (hY9.1.2.2.1 xcA (by decide))) hce hcv hcl ?_
      have hkk : kPaces a b = 1 := if_neg (fun z => w1.elim (fun y => by rw [y] at z; cases z.1) (fun y => by rw [y] at z; cases z.2))
      refine lv_astore_n (lv' := [(3, .ref q9), (0, .ref (ad 0 0)), (1, .int a), (2, .int b)]) hx hb dL_setPaces_9 rfl hl (by decide) rfl (fun ls hl => ?_)
      refine lv_iconst (v := 1) hx hb dL_setPaces_10 (by decide) ?_
      exact g_iretU hx hb hr hlocks hS1 (by rw [if_neg (by rw [hkk]; decide)]; exact hB1) (Nat.le_of_ble_eq_true rfl) (Nat.le_of_ble_eq_true rfl) dL_setPaces_11 hkk.symm
  · have hk0 : kPaces a b = 0 := if_pos hok
    have hS1 : va_S (wA (cC (ν 0 0)) ad s.heap.size) s.heap H1 locs1 := ⟨hz1, fun q h1 h2 => hk1 q h1 (fun z => h2 (z)), (fun z hz => hL1 z hz)⟩
    have hB1 : CW D cy ad (up2 (up2 τ 1 0 a) 2 0 b) (ν) H1 := hB1
    refine lv_goto (tgt := 12) hx hb dL_setPaces_6 (by decide) ?_
    refine lv_iconst (v := 0) hx hb dL_setPaces_12 (by decide) ?_
    exact g_iretU hx hb hr hlocks hS1 (by rw [if_pos hk0]; exact hB1) (Nat.le_of_ble_eq_true rfl) (Nat.le_of_ble_eq_true rfl) dL_setPaces_13 hk0.symm

set_option maxHeartbeats 4000000 in
set_option maxRecDepth 100000 in
/-- the law: setBudget, caught -/
theorem m_L_setBudget (l : Launch) (hl9 : l.stackTraces = false) (D : va_G) (cy : Nat → ClassId) (A9 : Nat → Prop) (sz : Nat) (ad : NT) (τ : IT) (ν : NT) (hJ : wJ (cC (ν 0 0)) ad) (o : Nat) (ho : ∀ k i, i < cC (ν 0 0) k → ad k i ≠ o) (x0 : Int64) (v0 : Int32) : Met l yL_setBudget wsL_setBudget ({ frames := 8, cells := 1, slots := 6, locals := 150 } : Room) (va_Pc [.ref (ad 0 0), .int v0, .ref o] (fun U => gK D cy U ∧ yK A9 U U.heap ∧ (atSz sz (WO D cy ad τ ν o x0)) U.heap)) (uQ (some (.int (k1 (inB v0 1 100)))) (WO D cy ad (if k1 (inB v0 1 100) = 0 then up2 τ 3 0 v0 else τ) (if k1 (inB v0 1 100) = 0 then ν else ν) o (if k1 (inB v0 1 100) = 0 then (τ 3 0).toInt64 else x0)) (wO (ν 0 0) ad o sz)) 1 6 (wO (ν 0 0) ad o sz) := by
  refine w_ofWH (cc := cL_setBudget) (maxL := 4) (ret := (some .int)) (hh := [(0, 9, 12, 13)]) (by decide) rfl ?_
  intro p e s m args below meth c s₁ B9 hml hv
  obtain ⟨rfl, hK, hY9, hsz, hB, f0, hf0, hO⟩ := hv
  have hB : CW D cy ad τ ν s.heap := hB
  subst hsz
  have hx := B9.exec
  have hb := B9.bytes
  have hr := B9.returns
  have hts := atoms_spec (ws := wsL_setBudget) B9.pre
  have hown : s.vm.findClass RL = some m.cls := findClass_of_methodNamed B9.named
  have hlocks := B9.notSynchronized
  have htab := vx_table (x := yL_setBudget) B9 (hts (.codeWith yL_setBudget cL_setBudget 4 (some .int) [(0, 9, 12, 13)]) (by decide +kernel))
  have hno : ¬ wA (cC (ν 0 0)) ad s.heap.size o := fun z => z.elim (fun y => by obtain ⟨k, i, hi, e⟩ := y; exact ho k i hi e) (fun y => absurd (va_at.lt hO) (Nat.not_lt.mpr y))
  have hl := lv_entry ([.ref (ad 0 0), .int v0, .ref o]) (n := 4) (Nat.le_of_ble_eq_true rfl)
  rw [lg_entry_eq]
  generalize (lg_sl ([.ref (ad 0 0), .int v0, .ref o]) ++ List.replicate (4 - (lg_sl ([.ref (ad 0 0), .int v0, .ref o])).length) Slot.unset).toArray = ls at hl ⊢
  have hl : lv_has ls 4 [(0, .ref (ad 0 0)), (1, .int v0), (2, .ref o)] := hl
  refine lv_aload_n hx hb dL_setBudget_0 rfl (lv_at hl 2 rfl) ?_
  refine lv_iconst (v := 0) hx hb dL_setBudget_1 (by decide) ?_
  refine lv_aload_n hx hb dL_setBudget_2 rfl (lv_at hl 0 rfl) ?_
  refine lv_iload_n hx hb dL_setBudget_3 rfl (lv_at hl 1 rfl) ?_
  refine w_call1 (vx_runV (As := [.int v0]) (rest := [.int 0, .ref o]) ⟨hx, hb, hml, hown, hts⟩ (m_X3_setBudget l hl9 D cy A9 s.heap.size ad τ ν hJ v0) (cwV 1 hts gL_setBudget_X3_setBudget rfl rfl rfl (by decide +kernel) ⟨Nat.le_of_ble_eq_true rfl, Nat.le_of_ble_eq_true rfl⟩) (x_preV (C := RX3) (B := atSz s.heap.size (CW D cy ad τ ν)) hK hY9.1 ⟨rfl, hB⟩ (hB 0 0 Nat.zero_lt_one) rfl) rfl rfl hl.1 rfl (lv_room (Nat.le_of_ble_eq_true rfl)) dL_setBudget_4 ⟨Nat.le_of_ble_eq_true rfl, Nat.le_of_ble_eq_true rfl⟩) (fun E ce q9 H1 locs1 hPE hz1 hk1 hL1 hce hcv hcl => ?_) (fun hok H1 locs1 hB1 hz1 hk1 hL1 => ?_)
  · have hS1 : va_S (wO (ν 0 0) ad o s.heap.size) s.heap H1 locs1 := ⟨hz1, fun q h1 _ => hk1 q h1, (fun z hz => Or.inl (hL1 z hz))⟩
    have hB1 : CW D cy ad τ ν H1 := hB.keep hk1
    have hO1 := hO.keep hk1
    · obtain ⟨w1, rfl⟩ := hPE
      refine vx_catch (own := RL) (name := xcA) hown [] ⟨0, 9, 12, 13⟩ [] (by rw [htab]; rfl) (fun z hz => nomatch hz) (by decide) (by decide) (hts (.classLink RL 13 xcA) (by decide +kernel)) (va_Nw.use rfl (hY9.1.2.2.1 xcA (by decide))) hce hcv hcl ?_
      have hkk : k1 (inB v0 1 100) = 1 := k1_1 w1
      refine lv_astore_n (lv' := [(3, .ref q9), (0, .ref (ad 0 0)), (1, .int v0), (2, .ref o)]) hx hb dL_setBudget_12 rfl hl (by decide) rfl (fun ls hl => ?_)
      refine lv_iconst (v := 1) hx hb dL_setBudget_13 (by decide) ?_
      exact g_iretU hx hb hr hlocks hS1 (by rw [if_neg (by rw [hkk]; decide), if_neg (by rw [hkk]; decide), if_neg (by rw [hkk]; decide)]; exact ⟨hB1, f0, hf0, hO1⟩) (Nat.le_of_ble_eq_true rfl) (Nat.le_of_ble_eq_true rfl) dL_setBudget_14 hkk.symm
  · have hk0 : k1 (inB v0 1 100) = 0 := k1_0 hok
    have hS1 : va_S (wO (ν 0 0) ad o s.heap.size) s.heap H1 locs1 := ⟨hz1, fun q h1 h2 => hk1 q h1 (fun z => h2 (Or.inl z)), (fun z hz => Or.inl (hL1 z hz))⟩
    have hO1 : oA D o (.inl (cy 5, 1, .inr (.inl f0))) H1 := va_at.kept hO (hk1 o (va_at.lt hO) hno)
    have hB1 : CW D cy ad (up2 τ 3 0 v0) (ν) H1 := hB1
    refine lv_i2l hx hb dL_setBudget_7 rfl ?_
    refine g_last (A := (wO (ν 0 0) ad o s.heap.size)) (f := f0) hx hb hK hO1 hS1 (Or.inr rfl) w_in dL_setBudget_8 (fun H2 locs2 hO2 hu2 hS2 => ?_)
    have hB2 : CW D cy ad (up2 τ 3 0 v0) (ν) H2 := wP.kept hB1 (fun k i hi => hu2.2 _ (ho k i hi))
    refine lv_goto (tgt := 15) hx hb dL_setBudget_9 (by decide) ?_
    refine lv_iconst (v := 0) hx hb dL_setBudget_15 (by decide) ?_
    exact g_iretU hx hb hr hlocks hS2 (by rw [if_pos hk0, if_pos hk0, if_pos hk0]; exact ⟨hB2, _, (by rfl), hO2⟩) (Nat.le_of_ble_eq_true rfl) (Nat.le_of_ble_eq_true rfl) dL_setBudget_16 hk0.symm

set_option maxHeartbeats 4000000 in
set_option maxRecDepth 100000 in
/-- the law: failures, caught -/
theorem m_L_failures (l : Launch) (hl9 : l.stackTraces = false) (D : va_G) (cy : Nat → ClassId) (A9 : Nat → Prop) (sz : Nat) (ad : NT) (τ : IT) (ν : NT) (hJ : wJ (cC (ν 0 0)) ad) (o : Nat) (ho : ∀ k i, i < cC (ν 0 0) k → ad k i ≠ o) (x0 : Int64) (h : Int32) : Met l yL_failures wsL_failures ({ frames := 8, cells := 1, slots := 6, locals := 150 } : Room) (va_Pc [.ref (ad 0 0), .int h, .ref o] (fun U => gK D cy U ∧ yK A9 U U.heap ∧ (atSz sz (WO D cy ad τ ν o x0)) U.heap)) (uQ (some (.int (k1 (hostB h)))) (WO D cy ad (if k1 (hostB h) = 0 then τ else τ) (if k1 (hostB h) = 0 then ν else ν) o (if k1 (hostB h) = 0 then (τ 8 h.toNatClampNeg).toInt64 else x0)) (wO (ν 0 0) ad o sz)) 1 6 (wO (ν 0 0) ad o sz) := by
  refine w_ofWH (cc := cL_failures) (maxL := 4) (ret := (some .int)) (hh := [(0, 9, 12, 21)]) (by decide) rfl ?_
  intro p e s m args below meth c s₁ B9 hml hv
  obtain ⟨rfl, hK, hY9, hsz, hB, f0, hf0, hO⟩ := hv
  have hB : CW D cy ad τ ν s.heap := hB
  subst hsz
  have hx := B9.exec
  have hb := B9.bytes
  have hr := B9.returns
  have hts := atoms_spec (ws := wsL_failures) B9.pre
  have hown : s.vm.findClass RL = some m.cls := findClass_of_methodNamed B9.named
  have hlocks := B9.notSynchronized
  have htab := vx_table (x := yL_failures) B9 (hts (.codeWith yL_failures cL_failures 4 (some .int) [(0, 9, 12, 21)]) (by decide +kernel))
  have hno : ¬ wA (cC (ν 0 0)) ad s.heap.size o := fun z => z.elim (fun y => by obtain ⟨k, i, hi, e⟩ := y; exact ho k i hi e) (fun y => absurd (va_at.lt hO) (Nat.not_lt.mpr y))
  have hl := lv_entry ([.ref (ad 0 0), .int h, .ref o]) (n := 4) (Nat.le_of_ble_eq_true rfl)
  rw [lg_entry_eq]
  generalize (lg_sl ([.ref (ad 0 0), .int h, .ref o]) ++ List.replicate (4 - (lg_sl ([.ref (ad 0 0), .int h, .ref o])).length) Slot.unset).toArray = ls at hl ⊢
  have hl : lv_has ls 4 [(0, .ref (ad 0 0)), (1, .int h), (2, .ref o)] := hl
  refine lv_aload_n hx hb dL_failures_0 rfl (lv_at hl 2 rfl) ?_
  refine lv_iconst (v := 0) hx hb dL_failures_1 (by decide) ?_
  refine lv_aload_n hx hb dL_failures_2 rfl (lv_at hl 0 rfl) ?_
  refine lv_iload_n hx hb dL_failures_3 rfl (lv_at hl 1 rfl) ?_
  refine w_callR (vx_runV (As := [.int h]) (rest := [.int 0, .ref o]) ⟨hx, hb, hml, hown, hts⟩ (m_X3_failures l hl9 D cy A9  ad τ ν h) (cwV 1 hts gL_failures_X3_failures rfl rfl rfl (by decide +kernel) ⟨Nat.le_of_ble_eq_true rfl, Nat.le_of_ble_eq_true rfl⟩) (x_preV (C := RX3) (B := CW D cy ad τ ν) hK hY9.1 hB (hB 0 0 Nat.zero_lt_one) rfl) rfl rfl hl.1 rfl (lv_room (Nat.le_of_ble_eq_true rfl)) dL_failures_4 ⟨Nat.le_of_ble_eq_true rfl, Nat.le_of_ble_eq_true rfl⟩) (fun E ce q9 H1 locs1 hPE hz1 hk1 hL1 hce hcv hcl => ?_) (fun hok locs1 hL1 => ?_)
  · have hS1 : va_S (wO (ν 0 0) ad o s.heap.size) s.heap H1 locs1 := ⟨hz1, fun q h1 _ => hk1 q h1, (fun z hz => (hL1 z hz).elim)⟩
    have hB1 : CW D cy ad τ ν H1 := hB.keep hk1
    have hO1 := hO.keep hk1
    · obtain ⟨w1, rfl⟩ := hPE
      refine vx_catch (own := RL) (name := xcI) hown [] ⟨0, 9, 12, 21⟩ [] (by rw [htab]; rfl) (fun z hz => nomatch hz) (by decide) (by decide) (hts (.classLink RL 21 xcI) (by decide +kernel)) (va_Nw.use rfl (hY9.1.2.2.1 xcI (by decide))) hce hcv hcl ?_
      have hkk : k1 (hostB h) = 1 := k1_1 w1
      refine lv_astore_n (lv' := [(3, .ref q9), (0, .ref (ad 0 0)), (1, .int h), (2, .ref o)]) hx hb dL_failures_12 rfl hl (by decide) rfl (fun ls hl => ?_)
      refine lv_iconst (v := 1) hx hb dL_failures_13 (by decide) ?_
      exact g_iretU hx hb hr hlocks hS1 (by rw [if_neg (by rw [hkk]; decide), if_neg (by rw [hkk]; decide), if_neg (by rw [hkk]; decide)]; exact ⟨hB1, f0, hf0, hO1⟩) (Nat.le_of_ble_eq_true rfl) (Nat.le_of_ble_eq_true rfl) dL_failures_14 hkk.symm
  · have hk0 : k1 (hostB h) = 0 := k1_0 hok
    have hS1 : va_S (wO (ν 0 0) ad o s.heap.size) s.heap s.heap locs1 := ⟨Nat.le_refl _, fun q _ _ => rfl, (fun z hz => (hL1 z hz).elim)⟩
    have hB1 := hB
    have hO1 := hO
    have hB1 : CW D cy ad (τ) (ν) s.heap := hB1
    refine lv_i2l hx hb dL_failures_7 rfl ?_
    refine g_last (A := (wO (ν 0 0) ad o s.heap.size)) (f := f0) hx hb hK hO1 hS1 (Or.inr rfl) w_in dL_failures_8 (fun H2 locs2 hO2 hu2 hS2 => ?_)
    have hB2 : CW D cy ad (τ) (ν) H2 := wP.kept hB1 (fun k i hi => hu2.2 _ (ho k i hi))
    refine lv_goto (tgt := 15) hx hb dL_failures_9 (by decide) ?_
    refine lv_iconst (v := 0) hx hb dL_failures_15 (by decide) ?_
    exact g_iretU hx hb hr hlocks hS2 (by rw [if_pos hk0, if_pos hk0, if_pos hk0]; exact ⟨hB2, _, (by rfl), hO2⟩) (Nat.le_of_ble_eq_true rfl) (Nat.le_of_ble_eq_true rfl) dL_failures_16 hk0.symm

set_option maxHeartbeats 4000000 in
set_option maxRecDepth 100000 in
/-- the law: openFrom, caught -/
theorem m_L_openFrom (l : Launch) (hl9 : l.stackTraces = false) (D : va_G) (cy : Nat → ClassId) (A9 : Nat → Prop) (sz : Nat) (ad : NT) (τ : IT) (ν : NT) (hJ : wJ (cC (ν 0 0)) ad) (o : Nat) (ho : ∀ k i, i < cC (ν 0 0) k → ad k i ≠ o) (x0 : Int64) (h : Int32) : Met l yL_openFrom wsL_openFrom ({ frames := 8, cells := 1, slots := 6, locals := 150 } : Room) (va_Pc [.ref (ad 0 0), .int h, .ref o] (fun U => gK D cy U ∧ yK A9 U U.heap ∧ (atSz sz (WO D cy ad τ ν o x0)) U.heap)) (uQ (some (.int (k1 (hostB h)))) (WO D cy ad (if k1 (hostB h) = 0 then τ else τ) (if k1 (hostB h) = 0 then ν else ν) o (if k1 (hostB h) = 0 then (τ 9 h.toNatClampNeg).toInt64 else x0)) (wO (ν 0 0) ad o sz)) 1 6 (wO (ν 0 0) ad o sz) := by
  refine w_ofWH (cc := cL_openFrom) (maxL := 4) (ret := (some .int)) (hh := [(0, 9, 12, 21)]) (by decide) rfl ?_
  intro p e s m args below meth c s₁ B9 hml hv
  obtain ⟨rfl, hK, hY9, hsz, hB, f0, hf0, hO⟩ := hv
  have hB : CW D cy ad τ ν s.heap := hB
  subst hsz
  have hx := B9.exec
  have hb := B9.bytes
  have hr := B9.returns
  have hts := atoms_spec (ws := wsL_openFrom) B9.pre
  have hown : s.vm.findClass RL = some m.cls := findClass_of_methodNamed B9.named
  have hlocks := B9.notSynchronized
  have htab := vx_table (x := yL_openFrom) B9 (hts (.codeWith yL_openFrom cL_openFrom 4 (some .int) [(0, 9, 12, 21)]) (by decide +kernel))
  have hno : ¬ wA (cC (ν 0 0)) ad s.heap.size o := fun z => z.elim (fun y => by obtain ⟨k, i, hi, e⟩ := y; exact ho k i hi e) (fun y => absurd (va_at.lt hO) (Nat.not_lt.mpr y))
  have hl := lv_entry ([.ref (ad 0 0), .int h, .ref o]) (n := 4) (Nat.le_of_ble_eq_true rfl)
  rw [lg_entry_eq]
  generalize (lg_sl ([.ref (ad 0 0), .int h, .ref o]) ++ List.replicate (4 - (lg_sl ([.ref (ad 0 0), .int h, .ref o])).length) Slot.unset).toArray = ls at hl ⊢
  have hl : lv_has ls 4 [(0, .ref (ad 0 0)), (1, .int h), (2, .ref o)] := hl
  refine lv_aload_n hx hb dL_openFrom_0 rfl (lv_at hl 2 rfl) ?_
  refine lv_iconst (v := 0) hx hb dL_openFrom_1 (by decide) ?_
  refine lv_aload_n hx hb dL_openFrom_2 rfl (lv_at hl 0 rfl) ?_
  refine lv_iload_n hx hb dL_openFrom_3 rfl (lv_at hl 1 rfl) ?_
  refine w_callR (vx_runV (As := [.int h]) (rest := [.int 0, .ref o]) ⟨hx, hb, hml, hown, hts⟩ (m_X3_openFrom l hl9 D cy A9  ad τ ν h) (cwV 1 hts gL_openFrom_X3_openFrom rfl rfl rfl (by decide +kernel) ⟨Nat.le_of_ble_eq_true rfl, Nat.le_of_ble_eq_true rfl⟩) (x_preV (C := RX3) (B := CW D cy ad τ ν) hK hY9.1 hB (hB 0 0 Nat.zero_lt_one) rfl) rfl rfl hl.1 rfl (lv_room (Nat.le_of_ble_eq_true rfl)) dL_openFrom_4 ⟨Nat.le_of_ble_eq_true rfl, Nat.le_of_ble_eq_true rfl⟩) (fun E ce q9 H1 locs1 hPE hz1 hk1 hL1 hce hcv hcl => ?_) (fun hok locs1 hL1 => ?_)
  · have hS1 : va_S (wO (ν 0 0) ad o s.heap.size) s.heap H1 locs1 := ⟨hz1, fun q h1 _ => hk1 q h1, (fun z hz => (hL1 z hz).elim)⟩
    have hB1 : CW D cy ad τ ν H1 := hB.keep hk1
    have hO1 := hO.keep hk1
    · obtain ⟨w1, rfl⟩ := hPE
      refine vx_catch (own := RL) (name := xcI) hown [] ⟨0, 9, 12, 21⟩ [] (by rw [htab]; rfl) (fun z hz => nomatch hz) (by decide) (by decide) (hts (.classLink RL 21 xcI) (by decide +kernel)) (va_Nw.use rfl (hY9.1.2.2.1 xcI (by decide))) hce hcv hcl ?_
      have hkk : k1 (hostB h) = 1 := k1_1 w1
      refine lv_astore_n (lv' := [(3, .ref q9), (0, .ref (ad 0 0)), (1, .int h), (2, .ref o)]) hx hb dL_openFrom_12 rfl hl (by decide) rfl (fun ls hl => ?_)
      refine lv_iconst (v := 1) hx hb dL_openFrom_13 (by decide) ?_
      exact g_iretU hx hb hr hlocks hS1 (by rw [if_neg (by rw [hkk]; decide), if_neg (by rw [hkk]; decide), if_neg (by rw [hkk]; decide)]; exact ⟨hB1, f0, hf0, hO1⟩) (Nat.le_of_ble_eq_true rfl) (Nat.le_of_ble_eq_true rfl) dL_openFrom_14 hkk.symm
  · have hk0 : k1 (hostB h) = 0 := k1_0 hok
    have hS1 : va_S (wO (ν 0 0) ad o s.heap.size) s.heap s.heap locs1 := ⟨Nat.le_refl _, fun q _ _ => rfl, (fun z hz => (hL1 z hz).elim)⟩
    have hB1 := hB
    have hO1 := hO
    have hB1 : CW D cy ad (τ) (ν) s.heap := hB1
    refine lv_i2l hx hb dL_openFrom_7 rfl ?_
    refine g_last (A := (wO (ν 0 0) ad o s.heap.size)) (f := f0) hx hb hK hO1 hS1 (Or.inr rfl) w_in dL_openFrom_8 (fun H2 locs2 hO2 hu2 hS2 => ?_)
    have hB2 : CW D cy ad (τ) (ν) H2 := wP.kept hB1 (fun k i hi => hu2.2 _ (ho k i hi))
    refine lv_goto (tgt := 15) hx hb dL_openFrom_9 (by decide) ?_
    refine lv_iconst (v := 0) hx hb dL_openFrom_15 (by decide) ?_
    exact g_iretU hx hb hr hlocks hS2 (by rw [if_pos hk0, if_pos hk0, if_pos hk0]; exact ⟨hB2, _, (by rfl), hO2⟩) (Nat.le_of_ble_eq_true rfl) (Nat.le_of_ble_eq_true rfl) dL_openFrom_16 hk0.symm

set_option maxHeartbeats 4000000 in
set_option maxRecDepth 100000 in
/-- the law: setRank, caught -/
theorem m_L_setRank (l : Launch) (hl9 : l.stackTraces = false) (D : va_G) (cy : Nat → ClassId) (A9 : Nat → Prop) (sz : Nat) (ad : NT) (τ : IT) (ν : NT) (hJ : wJ (cC (ν 0 0)) ad) (o : Nat) (ho : ∀ k i, i < cC (ν 0 0) k → ad k i ≠ o) (x0 : Int64) (hn30 : ν 0 0 ≤ 30) (p0 r : Int32) : Met l yL_setRank wsL_setRank ({ frames := 8, cells := 2, slots := 12, locals := 150 } : Room) (va_Pc [.ref (ad 0 0), .int p0, .int r, .ref o] (fun U => gK D cy U ∧ yK A9 U U.heap ∧ (atSz sz (WO D cy ad τ ν o x0)) U.heap)) (uQ (some (.int (k2 (pageB ν p0) (inB r 0 9)))) (WO D cy ad (if k2 (pageB ν p0) (inB r 0 9) = 0 then up2 τ 10 p0.toNatClampNeg r else τ) (if k2 (pageB ν p0) (inB r 0 9) = 0 then ν else ν) o (if k2 (pageB ν p0) (inB r 0 9) = 0 then (τ 10 p0.toNatClampNeg).toInt64 else x0)) (wO (ν 0 0) ad o sz)) 2 12 (wO (ν 0 0) ad o sz) := by
  refine w_ofWH (cc := cL_setRank) (maxL := 5) (ret := (some .int)) (hh := [(0, 10, 13, 21), (0, 10, 17, 13)]) (by decide) rfl ?_
  intro p e s m args below meth c s₁ B9 hml hv
  obtain ⟨rfl, hK, hY9, hsz, hB, f0, hf0, hO⟩ := hv
  have hB : CW D cy ad τ ν s.heap := hB
  subst hsz
  have hx := B9.exec
  have hb := B9.bytes
  have hr := B9.returns
  have hts := atoms_spec (ws := wsL_setRank) B9.pre
  have hown : s.vm.findClass RL = some m.cls := findClass_of_methodNamed B9.named
  have hlocks := B9.notSynchronized
  have htab := vx_table (x := yL_setRank) B9 (hts (.codeWith yL_setRank cL_setRank 5 (some .int) [(0, 10, 13, 21), (0, 10, 17, 13)]) (by decide +kernel))
  have hno : ¬ wA (cC (ν 0 0)) ad s.heap.size o := fun z => z.elim (fun y => by obtain ⟨k, i, hi, e⟩ := y; exact ho k i hi e) (fun y => absurd (va_at.lt hO) (Nat.not_lt.mpr y))
  have hl := lv_entry ([.ref (ad 0 0), .int p0, .int r, .ref o]) (n := 5) (Nat.le_of_ble_eq_true rfl)
  rw [lg_entry_eq]
  generalize (lg_sl ([.ref (ad 0 0), .int p0, .int r, .ref o]) ++ List.replicate (5 - (lg_sl ([.ref (ad 0 0), .int p0, .int r, .ref o])).length) Slot.unset).toArray = ls at hl ⊢
  have hl : lv_has ls 5 [(0, .ref (ad 0 0)), (1, .int p0), (2, .int r), (3, .ref o)] := hl
  refine lv_aload_n hx hb dL_setRank_0 rfl (lv_at hl 3 rfl) ?_
  refine lv_iconst (v := 0) hx hb dL_setRank_1 (by decide) ?_
  refine lv_aload_n hx hb dL_setRank_2 rfl (lv_at hl 0 rfl) ?_
  refine lv_iload_n hx hb dL_setRank_3 rfl (lv_at hl 1 rfl) ?_
  refine lv_iload_n hx hb dL_setRank_4 rfl (lv_at hl 2 rfl) ?_
  refine w_call1 (vx_runV (As := [.int p0, .int r]) (rest := [.int 0, .ref o]) ⟨hx, hb, hml, hown, hts⟩ (m_X3_setRank l hl9 D cy A9 s.heap.size ad τ ν hJ hn30 p0 r) (cwV 2 hts gL_setRank_X3_setRank rfl rfl rfl (by decide +kernel) ⟨Nat.le_of_ble_eq_true rfl, Nat.le_of_ble_eq_true rfl⟩) (x_preV (C := RX3) (B := atSz s.heap.size (CW D cy ad τ ν)) hK hY9.1 ⟨rfl, hB⟩ (hB 0 0 Nat.zero_lt_one) rfl) rfl rfl hl.1 rfl (lv_room (Nat.le_of_ble_eq_true rfl)) dL_setRank_5 ⟨Nat.le_of_ble_eq_true rfl, Nat.le_of_ble_eq_true rfl⟩) (fun E ce q9 H1 locs1 hPE hz1 hk1 hL1 hce hcv hcl => ?_) (fun hok H1 locs1 hB1 hz1 hk1 hL1 => ?_)
  · have hS1 : va_S (wO (ν 0 0) ad o s.heap.size) s.heap H1 locs1 := ⟨hz1, fun q h1 _ => hk1 q h1, (fun z hz => Or.inl (hL1 z hz))⟩
    have hB1 : CW D cy ad τ ν H1 := hB.keep hk1
    have hO1 := hO.keep hk1
    rcases hPE with hPE | hPE
    · obtain ⟨w1, rfl⟩ := hPE
      refine vx_catch (own := RL) (name := xcI) hown [] ⟨0, 10, 13, 21⟩ [⟨0, 10, 17, 13⟩] (by rw [htab]; rfl) (fun z hz => nomatch hz) (by decide) (by decide) (hts (.classLink RL 21 xcI) (by decide +kernel)) (va_Nw.use rfl (hY9.1.2.2.1 xcI (by decide))) hce hcv hcl ?_
      have hkk : k2 (pageB ν p0) (inB r 0 9) = 1 := k2_1 w1
      refine lv_astore (lv' := [(4, .ref q9), (0, .ref (ad 0 0)), (1, .int p0), (2, .int r), (3, .ref o)]) hx hb dL_setRank_13 hl (by decide) rfl (fun ls hl => ?_)
      refine lv_iconst (v := 1) hx hb dL_setRank_15 (by decide) ?_
      exact g_iretU hx hb hr hlocks hS1 (by rw [if_neg (by rw [hkk]; decide), if_neg (by rw [hkk]; decide), if_neg (by rw [hkk]; decide)]; exact ⟨hB1, f0, hf0, hO1⟩) (Nat.le_of_ble_eq_true rfl) (Nat.le_of_ble_eq_true rfl) dL_setRank_16 hkk.symm
    · obtain ⟨w1, w2, rfl⟩ := hPE
      refine vx_catch (own := RL) (name := xcA) hown [⟨0, 10, 13, 21⟩] ⟨0, 10, 17, 13⟩ [] (by rw [htab]; rfl) (fun z hz => (List.mem_cons.mp hz).elim (fun e => by subst e; exact Or.inr ⟨by decide, xcI, hts (.classLink RL 21 xcI) (by decide +kernel), hY9.2.1⟩) (fun hz => nomatch hz)) (by decide) (by decide) (hts (.classLink RL 13 xcA) (by decide +kernel)) (va_Nw.use rfl (hY9.1.2.2.1 xcA (by decide))) hce hcv hcl ?_
      have hkk : k2 (pageB ν p0) (inB r 0 9) = 2 := k2_2 w1 w2
      refine lv_astore (lv' := [(4, .ref q9), (0, .ref (ad 0 0)), (1, .int p0), (2, .int r), (3, .ref o)]) hx hb dL_setRank_17 hl (by decide) rfl (fun ls hl => ?_)
      refine lv_iconst (v := 2) hx hb dL_setRank_19 (by decide) ?_
      exact g_iretU hx hb hr hlocks hS1 (by rw [if_neg (by rw [hkk]; decide), if_neg (by rw [hkk]; decide), if_neg (by rw [hkk]; decide)]; exact ⟨hB1, f0, hf0, hO1⟩) (Nat.le_of_ble_eq_true rfl) (Nat.le_of_ble_eq_true rfl) dL_setRank_20 hkk.symm
  · have hk0 : k2 (pageB ν p0) (inB r 0 9) = 0 := k2_0 hok.1 hok.2
    have hS1 : va_S (wO (ν 0 0) ad o s.heap.size) s.heap H1 locs1 := ⟨hz1, fun q h1 h2 => hk1 q h1 (fun z => h2 (Or.inl z)), (fun z hz => Or.inl (hL1 z hz))⟩
    have hO1 : oA D o (.inl (cy 5, 1, .inr (.inl f0))) H1 := va_at.kept hO (hk1 o (va_at.lt hO) hno)
    have hB1 : CW D cy ad (up2 τ 10 p0.toNatClampNeg r) (ν) H1 := hB1
    refine lv_i2l hx hb dL_setRank_8 rfl ?_
    refine g_last (A := (wO (ν 0 0) ad o s.heap.size)) (f := f0) hx hb hK hO1 hS1 (Or.inr rfl) w_in dL_setRank_9 (fun H2 locs2 hO2 hu2 hS2 => ?_)
    have hB2 : CW D cy ad (up2 τ 10 p0.toNatClampNeg r) (ν) H2 := wP.kept hB1 (fun k i hi => hu2.2 _ (ho k i hi))
    refine lv_goto (tgt := 21) hx hb dL_setRank_10 (by decide) ?_
    refine lv_iconst (v := 0) hx hb dL_setRank_21 (by decide) ?_
    exact g_iretU hx hb hr hlocks hS2 (by rw [if_pos hk0, if_pos hk0, if_pos hk0]; exact ⟨hB2, _, (by rfl), hO2⟩) (Nat.le_of_ble_eq_true rfl) (Nat.le_of_ble_eq_true rfl) dL_setRank_22 hk0.symm

set_option maxHeartbeats 4000000 in
set_option maxRecDepth 100000 in
/-- the law: dueAt, caught -/
theorem m_L_dueAt (l : Launch) (hl9 : l.stackTraces = false) (D : va_G) (cy : Nat → ClassId) (A9 : Nat → Prop) (sz : Nat) (ad : NT) (τ : IT) (ν : NT) (hJ : wJ (cC (ν 0 0)) ad) (o : Nat) (ho : ∀ k i, i < cC (ν 0 0) k → ad k i ≠ o) (x0 : Int64) (hn30 : ν 0 0 ≤ 30) (p0 : Int32) : Met l yL_dueAt wsL_dueAt ({ frames := 8, cells := 1, slots := 6, locals := 150 } : Room) (va_Pc [.ref (ad 0 0), .int p0, .ref o] (fun U => gK D cy U ∧ yK A9 U U.heap ∧ (atSz sz (WO D cy ad τ ν o x0)) U.heap)) (uQ (some (.int (k1 (pageB ν p0)))) (WO D cy ad (if k1 (pageB ν p0) = 0 then τ else τ) (if k1 (pageB ν p0) = 0 then ν else ν) o (if k1 (pageB ν p0) = 0 then (dueC τ p0.toNatClampNeg).toInt64 else x0)) (wO (ν 0 0) ad o sz)) 1 6 (wO (ν 0 0) ad o sz) := by
  refine w_ofWH (cc := cL_dueAt) (maxL := 4) (ret := (some .int)) (hh := [(0, 9, 12, 21)]) (by decide) rfl ?_
  intro p e s m args below meth c s₁ B9 hml hv
  obtain ⟨rfl, hK, hY9, hsz, hB, f0, hf0, hO⟩ := hv
  have hB : CW D cy ad τ ν s.heap := hB
  subst hsz
  have hx := B9.exec
  have hb := B9.bytes
  have hr := B9.returns
  have hts := atoms_spec (ws := wsL_dueAt) B9.pre
  have hown : s.vm.findClass RL = some m.cls := findClass_of_methodNamed B9.named
  have hlocks := B9.notSynchronized
  have htab := vx_table (x := yL_dueAt) B9 (hts (.codeWith yL_dueAt cL_dueAt 4 (some .int) [(0, 9, 12, 21)]) (by decide +kernel))
  have hno : ¬ wA (cC (ν 0 0)) ad s.heap.size o := fun z => z.elim (fun y => by obtain ⟨k, i, hi, e⟩ := y; exact ho k i hi e) (fun y => absurd (va_at.lt hO) (Nat.not_lt.mpr y))
  have hl := lv_entry ([.ref (ad 0 0), .int p0, .ref o]) (n := 4) (Nat.le_of_ble_eq_true rfl)
  rw [lg_entry_eq]
  generalize (lg_sl ([.ref (ad 0 0), .int p0, .ref o]) ++ List.replicate (4 - (lg_sl ([.ref (ad 0 0), .int p0, .ref o])).length) Slot.unset).toArray = ls at hl ⊢
  have hl : lv_has ls 4 [(0, .ref (ad 0 0)), (1, .int p0), (2, .ref o)] := hl
  refine lv_aload_n hx hb dL_dueAt_0 rfl (lv_at hl 2 rfl) ?_
  refine lv_iconst (v := 0) hx hb dL_dueAt_1 (by decide) ?_
  refine lv_aload_n hx hb dL_dueAt_2 rfl (lv_at hl 0 rfl) ?_
  refine lv_iload_n hx hb dL_dueAt_3 rfl (lv_at hl 1 rfl) ?_
  refine w_callR (vx_runV (As := [.int p0]) (rest := [.int 0, .ref o]) ⟨hx, hb, hml, hown, hts⟩ (m_X3_dueAt l hl9 D cy A9  ad τ ν hn30 p0) (cwV 1 hts gL_dueAt_X3_dueAt rfl rfl rfl (by decide +kernel) ⟨Nat.le_of_ble_eq_true rfl, Nat.le_of_ble_eq_true rfl⟩) (x_preV (C := RX3) (B := CW D cy ad τ ν) hK hY9.1 hB (hB 0 0 Nat.zero_lt_one) rfl) rfl rfl hl.1 rfl (lv_room (Nat.le_of_ble_eq_true rfl)) dL_dueAt_4 ⟨Nat.le_of_ble_eq_true rfl, Nat.le_of_ble_eq_true rfl⟩) (fun E ce q9 H1 locs1 hPE hz1 hk1 hL1 hce hcv hcl => ?_) (fun hok locs1 hL1 => ?_)
  · have hS1 : va_S (wO (ν 0 0) ad o s.heap.size) s.heap H1 locs1 := ⟨hz1, fun q h1 _ => hk1 q h1, (fun z hz => (hL1 z hz).elim)⟩
    have hB1 : CW D cy ad τ ν H1 := hB.keep hk1
    have hO1 := hO.keep hk1
    · obtain ⟨w1, rfl⟩ := hPE
      refine vx_catch (own := RL) (name := xcI) hown [] ⟨0, 9, 12, 21⟩ [] (by rw [htab]; rfl) (fun z hz => nomatch hz) (by decide) (by decide) (hts (.classLink RL 21 xcI) (by decide +kernel)) (va_Nw.use rfl (hY9.1.2.2.1 xcI (by decide))) hce hcv hcl ?_
      have hkk : k1 (pageB ν p0) = 1 := k1_1 w1
      refine lv_astore_n (lv' := [(3, .ref q9), (0, .ref (ad 0 0)), (1, .int p0), (2, .ref o)]) hx hb dL_dueAt_12 rfl hl (by decide) rfl (fun ls hl => ?_)
      refine lv_iconst (v := 1) hx hb dL_dueAt_13 (by decide) ?_
      exact g_iretU hx hb hr hlocks hS1 (by rw [if_neg (by rw [hkk]; decide), if_neg (by rw [hkk]; decide), if_neg (by rw [hkk]; decide)]; exact ⟨hB1, f0, hf0, hO1⟩) (Nat.le_of_ble_eq_true rfl) (Nat.le_of_ble_eq_true rfl) dL_dueAt_14 hkk.symm
  · have hk0 : k1 (pageB ν p0) = 0 := k1_0 hok
    have hS1 : va_S (wO (ν 0 0) ad o s.heap.size) s.heap s.heap locs1 := ⟨Nat.le_refl _, fun q _ _ => rfl, (fun z hz => (hL1 z hz).elim)⟩
    have hB1 := hB
    have hO1 := hO
    have hB1 : CW D cy ad (τ) (ν) s.heap := hB1
    refine lv_i2l hx hb dL_dueAt_7 rfl ?_
    refine g_last (A := (wO (ν 0 0) ad o s.heap.size)) (f := f0) hx hb hK hO1 hS1 (Or.inr rfl) w_in dL_dueAt_8 (fun H2 locs2 hO2 hu2 hS2 => ?_)
    have hB2 : CW D cy ad (τ) (ν) H2 := wP.kept hB1 (fun k i hi => hu2.2 _ (ho k i hi))
    refine lv_goto (tgt := 15) hx hb dL_dueAt_9 (by decide) ?_
    refine lv_iconst (v := 0) hx hb dL_dueAt_15 (by decide) ?_
    exact g_iretU hx hb hr hlocks hS2 (by rw [if_pos hk0, if_pos hk0, if_pos hk0]; exact ⟨hB2, _, (by rfl), hO2⟩) (Nat.le_of_ble_eq_true rfl) (Nat.le_of_ble_eq_true rfl) dL_dueAt_16 hk0.symm

set_option maxHeartbeats 4000000 in
set_option maxRecDepth 100000 in
/-- the law: visits, caught -/
theorem m_L_visits (l : Launch) (hl9 : l.stackTraces = false) (D : va_G) (cy : Nat → ClassId) (A9 : Nat → Prop) (sz : Nat) (ad : NT) (τ : IT) (ν : NT) (hJ : wJ (cC (ν 0 0)) ad) (o : Nat) (ho : ∀ k i, i < cC (ν 0 0) k → ad k i ≠ o) (x0 : Int64) (hn30 : ν 0 0 ≤ 30) (p0 : Int32) : Met l yL_visits wsL_visits ({ frames := 8, cells := 1, slots := 6, locals := 150 } : Room) (va_Pc [.ref (ad 0 0), .int p0, .ref o] (fun U => gK D cy U ∧ yK A9 U U.heap ∧ (atSz sz (WO D cy ad τ ν o x0)) U.heap)) (uQ (some (.int (k1 (pageB ν p0)))) (WO D cy ad (if k1 (pageB ν p0) = 0 then τ else τ) (if k1 (pageB ν p0) = 0 then ν else ν) o (if k1 (pageB ν p0) = 0 then (τ 12 p0.toNatClampNeg).toInt64 else x0)) (wO (ν 0 0) ad o sz)) 1 6 (wO (ν 0 0) ad o sz) := by
  refine w_ofWH (cc := cL_visits) (maxL := 4) (ret := (some .int)) (hh := [(0, 9, 12, 21)]) (by decide) rfl ?_
  intro p e s m args below meth c s₁ B9 hml hv
  obtain ⟨rfl, hK, hY9, hsz, hB, f0, hf0, hO⟩ := hv
  have hB : CW D cy ad τ ν s.heap := hB
  subst hsz
  have hx := B9.exec
  have hb := B9.bytes
  have hr := B9.returns
  have hts := atoms_spec (ws := wsL_visits) B9.pre
  have hown : s.vm.findClass RL = some m.cls := findClass_of_methodNamed B9.named
  have hlocks := B9.notSynchronized
  have htab := vx_table (x := yL_visits) B9 (hts (.codeWith yL_visits cL_visits 4 (some .int) [(0, 9, 12, 21)]) (by decide +kernel))
  have hno : ¬ wA (cC (ν 0 0)) ad s.heap.size o := fun z => z.elim (fun y => by obtain ⟨k, i, hi, e⟩ := y; exact ho k i hi e) (fun y => absurd (va_at.lt hO) (Nat.not_lt.mpr y))
  have hl := lv_entry ([.ref (ad 0 0), .int p0, .ref o]) (n := 4) (Nat.le_of_ble_eq_true rfl)
  rw [lg_entry_eq]
  generalize (lg_sl ([.ref (ad 0 0), .int p0, .ref o]) ++ List.replicate (4 - (lg_sl ([.ref (ad 0 0), .int p0, .ref o])).length) Slot.unset).toArray = ls at hl ⊢
  have hl : lv_has ls 4 [(0, .ref (ad 0 0)), (1, .int p0), (2, .ref o)] := hl
  refine lv_aload_n hx hb dL_visits_0 rfl (lv_at hl 2 rfl) ?_
  refine lv_iconst (v := 0) hx hb dL_visits_1 (by decide) ?_
  refine lv_aload_n hx hb dL_visits_2 rfl (lv_at hl 0 rfl) ?_
  refine lv_iload_n hx hb dL_visits_3 rfl (lv_at hl 1 rfl) ?_
  refine w_callR (vx_runV (As := [.int p0]) (rest := [.int 0, .ref o]) ⟨hx, hb, hml, hown, hts⟩ (m_X3_visits l hl9 D cy A9  ad τ ν hn30 p0) (cwV 1 hts gL_visits_X3_visits rfl rfl rfl (by decide +kernel) ⟨Nat.le_of_ble_eq_true rfl, Nat.le_of_ble_eq_true rfl⟩) (x_preV (C := RX3) (B := CW D cy ad τ ν) hK hY9.1 hB (hB 0 0 Nat.zero_lt_one) rfl) rfl rfl hl.1 rfl (lv_room (Nat.le_of_ble_eq_true rfl)) dL_visits_4 ⟨Nat.le_of_ble_eq_true rfl, Nat.le_of_ble_eq_true rfl⟩) (fun E ce q9 H1 locs1 hPE hz1 hk1 hL1 hce hcv hcl => ?_) (fun hok locs1 hL1 => ?_)
  · have hS1 : va_S (wO (ν 0 0) ad o s.heap.size) s.heap H1 locs1 := ⟨hz1, fun q h1 _ => hk1 q h1, (fun z hz => (hL1 z hz).elim)⟩
    have hB1 : CW D cy ad τ ν H1 := hB.keep hk1
    have hO1 := hO.keep hk1
    · obtain ⟨w1, rfl⟩ := hPE
      refine vx_catch (own := RL) (name := xcI) hown [] ⟨0, 9, 12, 21⟩ [] (by rw [htab]; rfl) (fun z hz => nomatch hz) (by decide) (by decide) (hts (.classLink RL 21 xcI) (by decide +kernel)) (va_Nw.use rfl (hY9.1.2.2.1 xcI (by decide))) hce hcv hcl ?_
      have hkk : k1 (pageB ν p0) = 1 := k1_1 w1
      refine lv_astore_n (lv' := [(3, .ref q9), (0, .ref (ad 0 0)), (1, .int p0), (2, .ref o)]) hx hb dL_visits_12 rfl hl (by decide) rfl (fun ls hl => ?_)
      refine lv_iconst (v := 1) hx hb dL_visits_13 (by decide) ?_
      exact g_iretU hx hb hr hlocks hS1 (by rw [if_neg (by rw [hkk]; decide), if_neg (by rw [hkk]; decide), if_neg (by rw [hkk]; decide)]; exact ⟨hB1, f0, hf0, hO1⟩) (Nat.le_of_ble_eq_true rfl) (Nat.le_of_ble_eq_true rfl) dL_visits_14 hkk.symm
  · have hk0 : k1 (pageB ν p0) = 0 := k1_0 hok
    have hS1 : va_S (wO (ν 0 0) ad o s.heap.size) s.heap s.heap locs1 := ⟨Nat.le_refl _, fun q _ _ => rfl, (fun z hz => (hL1 z hz).elim)⟩
    have hB1 := hB
    have hO1 := hO
    have hB1 : CW D cy ad (τ) (ν) s.heap := hB1
    refine lv_i2l hx hb dL_visits_7 rfl ?_
    refine g_last (A := (wO (ν 0 0) ad o s.heap.size)) (f := f0) hx hb hK hO1 hS1 (Or.inr rfl) w_in dL_visits_8 (fun H2 locs2 hO2 hu2 hS2 => ?_)
    have hB2 : CW D cy ad (τ) (ν) H2 := wP.kept hB1 (fun k i hi => hu2.2 _ (ho k i hi))
    refine lv_goto (tgt := 15) hx hb dL_visits_9 (by decide) ?_
    refine lv_iconst (v := 0) hx hb dL_visits_15 (by decide) ?_
    exact g_iretU hx hb hr hlocks hS2 (by rw [if_pos hk0, if_pos hk0, if_pos hk0]; exact ⟨hB2, _, (by rfl), hO2⟩) (Nat.le_of_ble_eq_true rfl) (Nat.le_of_ble_eq_true rfl) dL_visits_16 hk0.symm

set_option maxHeartbeats 4000000 in
set_option maxRecDepth 100000 in
/-- the law: changes, caught -/
theorem m_L_changes (l : Launch) (hl9 : l.stackTraces = false) (D : va_G) (cy : Nat → ClassId) (A9 : Nat → Prop) (sz : Nat) (ad : NT) (τ : IT) (ν : NT) (hJ : wJ (cC (ν 0 0)) ad) (o : Nat) (ho : ∀ k i, i < cC (ν 0 0) k → ad k i ≠ o) (x0 : Int64) (hn30 : ν 0 0 ≤ 30) (p0 : Int32) : Met l yL_changes wsL_changes ({ frames := 8, cells := 1, slots := 6, locals := 150 } : Room) (va_Pc [.ref (ad 0 0), .int p0, .ref o] (fun U => gK D cy U ∧ yK A9 U U.heap ∧ (atSz sz (WO D cy ad τ ν o x0)) U.heap)) (uQ (some (.int (k1 (pageB ν p0)))) (WO D cy ad (if k1 (pageB ν p0) = 0 then τ else τ) (if k1 (pageB ν p0) = 0 then ν else ν) o (if k1 (pageB ν p0) = 0 then (τ 13 p0.toNatClampNeg).toInt64 else x0)) (wO (ν 0 0) ad o sz)) 1 6 (wO (ν 0 0) ad o sz) := by
  refine w_ofWH (cc := cL_changes) (maxL := 4) (ret := (some .int)) (hh := [(0, 9, 12, 21)]) (by decide) rfl ?_
  intro p e s m args below meth c s₁ B9 hml hv
  obtain ⟨rfl, hK, hY9, hsz, hB, f0, hf0, hO⟩ := hv
  have hB : CW D cy ad τ ν s.heap := hB
  subst hsz
  have hx := B9.exec
  have hb := B9.bytes
  have hr := B9.returns
  have hts := atoms_spec (ws := wsL_changes) B9.pre
  have hown : s.vm.findClass RL = some m.cls := findClass_of_methodNamed B9.named
  have hlocks := B9.notSynchronized
  have htab := vx_table (x := yL_changes) B9 (hts (.codeWith yL_changes cL_changes 4 (some .int) [(0, 9, 12, 21)]) (by decide +kernel))
  have hno : ¬ wA (cC (ν 0 0)) ad s.heap.size o := fun z => z.elim (fun y => by obtain ⟨k, i, hi, e⟩ := y; exact ho k i hi e) (fun y => absurd (va_at.lt hO) (Nat.not_lt.mpr y))
  have hl := lv_entry ([.ref (ad 0 0), .int p0, .ref o]) (n := 4) (Nat.le_of_ble_eq_true rfl)
  rw [lg_entry_eq]
  generalize (lg_sl ([.ref (ad 0 0), .int p0, .ref o]) ++ List.replicate (4 - (lg_sl ([.ref (ad 0 0), .int p0, .ref o])).length) Slot.unset).toArray = ls at hl ⊢
  have hl : lv_has ls 4 [(0, .ref (ad 0 0)), (1, .int p0), (2, .ref o)] := hl
  refine lv_aload_n hx hb dL_changes_0 rfl (lv_at hl 2 rfl) ?_
  refine lv_iconst (v := 0) hx hb dL_changes_1 (by decide) ?_
  refine lv_aload_n hx hb dL_changes_2 rfl (lv_at hl 0 rfl) ?_
  refine lv_iload_n hx hb dL_changes_3 rfl (lv_at hl 1 rfl) ?_
  refine w_callR (vx_runV (As := [.int p0]) (rest := [.int 0, .ref o]) ⟨hx, hb, hml, hown, hts⟩ (m_X3_changes l hl9 D cy A9  ad τ ν hn30 p0) (cwV 1 hts gL_changes_X3_changes rfl rfl rfl (by decide +kernel) ⟨Nat.le_of_ble_eq_true rfl, Nat.le_of_ble_eq_true rfl⟩) (x_preV (C := RX3) (B := CW D cy ad τ ν) hK hY9.1 hB (hB 0 0 Nat.zero_lt_one) rfl) rfl rfl hl.1 rfl (lv_room (Nat.le_of_ble_eq_true rfl)) dL_changes_4 ⟨Nat.le_of_ble_eq_true rfl, Nat.le_of_ble_eq_true rfl⟩) (fun E ce q9 H1 locs1 hPE hz1 hk1 hL1 hce hcv hcl => ?_) (fun hok locs1 hL1 => ?_)
  · have hS1 : va_S (wO (ν 0 0) ad o s.heap.size) s.heap H1 locs1 := ⟨hz1, fun q h1 _ => hk1 q h1, (fun z hz => (hL1 z hz).elim)⟩
    have hB1 : CW D cy ad τ ν H1 := hB.keep hk1
    have hO1 := hO.keep hk1
    · obtain ⟨w1, rfl⟩ := hPE
      refine vx_catch (own := RL) (name := xcI) hown [] ⟨0, 9, 12, 21⟩ [] (by rw [htab]; rfl) (fun z hz => nomatch hz) (by decide) (by decide) (hts (.classLink RL 21 xcI) (by decide +kernel)) (va_Nw.use rfl (hY9.1.2.2.1 xcI (by decide))) hce hcv hcl ?_
      have hkk : k1 (pageB ν p0) = 1 := k1_1 w1
      refine lv_astore_n (lv' := [(3, .ref q9), (0, .ref (ad 0 0)), (1, .int p0), (2, .ref o)]) hx hb dL_changes_12 rfl hl (by decide) rfl (fun ls hl => ?_)
      refine lv_iconst (v := 1) hx hb dL_changes_13 (by decide) ?_
      exact g_iretU hx hb hr hlocks hS1 (by rw [if_neg (by rw [hkk]; decide), if_neg (by rw [hkk]; decide), if_neg (by rw [hkk]; decide)]; exact ⟨hB1, f0, hf0, hO1⟩) (Nat.le_of_ble_eq_true rfl) (Nat.le_of_ble_eq_true rfl) dL_changes_14 hkk.symm
  · have hk0 : k1 (pageB ν p0) = 0 := k1_0 hok
    have hS1 : va_S (wO (ν 0 0) ad o s.heap.size) s.heap s.heap locs1 := ⟨Nat.le_refl _, fun q _ _ => rfl, (fun z hz => (hL1 z hz).elim)⟩
    have hB1 := hB
    have hO1 := hO
    have hB1 : CW D cy ad (τ) (ν) s.heap := hB1
    refine lv_i2l hx hb dL_changes_7 rfl ?_
    refine g_last (A := (wO (ν 0 0) ad o s.heap.size)) (f := f0) hx hb hK hO1 hS1 (Or.inr rfl) w_in dL_changes_8 (fun H2 locs2 hO2 hu2 hS2 => ?_)
    have hB2 : CW D cy ad (τ) (ν) H2 := wP.kept hB1 (fun k i hi => hu2.2 _ (ho k i hi))
    refine lv_goto (tgt := 15) hx hb dL_changes_9 (by decide) ?_
    refine lv_iconst (v := 0) hx hb dL_changes_15 (by decide) ?_
    exact g_iretU hx hb hr hlocks hS2 (by rw [if_pos hk0, if_pos hk0, if_pos hk0]; exact ⟨hB2, _, (by rfl), hO2⟩) (Nat.le_of_ble_eq_true rfl) (Nat.le_of_ble_eq_true rfl) dL_changes_16 hk0.symm

set_option maxHeartbeats 4000000 in
set_option maxRecDepth 100000 in
/-- the law: mayVisit, caught -/
theorem m_L_mayVisit (l : Launch) (hl9 : l.stackTraces = false) (D : va_G) (cy : Nat → ClassId) (A9 : Nat → Prop) (sz : Nat) (ad : NT) (τ : IT) (ν : NT) (hJ : wJ (cC (ν 0 0)) ad) (o : Nat) (ho : ∀ k i, i < cC (ν 0 0) k → ad k i ≠ o) (x0 : Int64) (hI : CI τ ν) (p0 : Int32) : Met l yL_mayVisit wsL_mayVisit ({ frames := 8, cells := 1, slots := 6, locals := 150 } : Room) (va_Pc [.ref (ad 0 0), .int p0, .ref o] (fun U => gK D cy U ∧ yK A9 U U.heap ∧ (atSz sz (WO D cy ad τ ν o x0)) U.heap)) (uQ (some (.int (k1 (pageB ν p0)))) (WO D cy ad (if k1 (pageB ν p0) = 0 then τ else τ) (if k1 (pageB ν p0) = 0 then ν else ν) o (if k1 (pageB ν p0) = 0 then (if isRdy τ ν p0.toNatClampNeg = true then (1 : Int64) else 0) else x0)) (wO (ν 0 0) ad o sz)) 1 6 (wO (ν 0 0) ad o sz) := by
  refine w_ofWH (cc := cL_mayVisit) (maxL := 4) (ret := (some .int)) (hh := [(0, 16, 19, 21)]) (by decide) rfl ?_
  intro p e s m args below meth c s₁ B9 hml hv
  obtain ⟨rfl, hK, hY9, hsz, hB, f0, hf0, hO⟩ := hv
  have hB : CW D cy ad τ ν s.heap := hB
  subst hsz
  have hx := B9.exec
  have hb := B9.bytes
  have hr := B9.returns
  have hts := atoms_spec (ws := wsL_mayVisit) B9.pre
  have hown : s.vm.findClass RL = some m.cls := findClass_of_methodNamed B9.named
  have hlocks := B9.notSynchronized
  have htab := vx_table (x := yL_mayVisit) B9 (hts (.codeWith yL_mayVisit cL_mayVisit 4 (some .int) [(0, 16, 19, 21)]) (by decide +kernel))
  have hno : ¬ wA (cC (ν 0 0)) ad s.heap.size o := fun z => z.elim (fun y => by obtain ⟨k, i, hi, e⟩ := y; exact ho k i hi e) (fun y => absurd (va_at.lt hO) (Nat.not_lt.mpr y))
  have hl := lv_entry ([.ref (ad 0 0), .int p0, .ref o]) (n := 4) (Nat.le_of_ble_eq_true rfl)
  rw [lg_entry_eq]
  generalize (lg_sl ([.ref (ad 0 0), .int p0, .ref o]) ++ List.replicate (4 - (lg_sl ([.ref (ad 0 0), .int p0, .ref o])).length) Slot.unset).toArray = ls at hl ⊢
  have hl : lv_has ls 4 [(0, .ref (ad 0 0)), (1, .int p0), (2, .ref o)] := hl
  refine lv_aload_n hx hb dL_mayVisit_0 rfl (lv_at hl 2 rfl) ?_
  refine lv_iconst (v := 0) hx hb dL_mayVisit_1 (by decide) ?_
  refine lv_aload_n hx hb dL_mayVisit_2 rfl (lv_at hl 0 rfl) ?_
  refine lv_iload_n hx hb dL_mayVisit_3 rfl (lv_at hl 1 rfl) ?_
  refine w_callR (vx_runV (As := [.int p0]) (rest := [.int 0, .ref o]) ⟨hx, hb, hml, hown, hts⟩ (m_X3_mayVisit l hl9 D cy A9  ad τ ν hI p0) (cwV 1 hts gL_mayVisit_X3_mayVisit rfl rfl rfl (by decide +kernel) ⟨Nat.le_of_ble_eq_true rfl, Nat.le_of_ble_eq_true rfl⟩) (x_preV (C := RX3) (B := CW D cy ad τ ν) hK hY9.1 hB (hB 0 0 Nat.zero_lt_one) rfl) rfl rfl hl.1 rfl (lv_room (Nat.le_of_ble_eq_true rfl)) dL_mayVisit_4 ⟨Nat.le_of_ble_eq_true rfl, Nat.le_of_ble_eq_true rfl⟩) (fun E ce q9 H1 locs1 hPE hz1 hk1 hL1 hce hcv hcl => ?_) (fun hok locs1 hL1 => ?_)
  · have hS1 : va_S (wO (ν 0 0) ad o s.heap.size) s.heap H1 locs1 := ⟨hz1, fun q h1 _ => hk1 q h1, (fun z hz => (hL1 z hz).elim)⟩
    have hB1 : CW D cy ad τ ν H1 := hB.keep hk1
    have hO1 := hO.keep hk1
    · obtain ⟨w1, rfl⟩ := hPE
      refine vx_catch (own := RL) (name := xcI) hown [] ⟨0, 16, 19, 21⟩ [] (by rw [htab]; rfl) (fun z hz => nomatch hz) (by decide) (by decide) (hts (.classLink RL 21 xcI) (by decide +kernel)) (va_Nw.use rfl (hY9.1.2.2.1 xcI (by decide))) hce hcv hcl ?_
      have hkk : k1 (pageB ν p0) = 1 := k1_1 w1
      refine lv_astore_n (lv' := [(3, .ref q9), (0, .ref (ad 0 0)), (1, .int p0), (2, .ref o)]) hx hb dL_mayVisit_19 rfl hl (by decide) rfl (fun ls hl => ?_)
      refine lv_iconst (v := 1) hx hb dL_mayVisit_20 (by decide) ?_
      exact g_iretU hx hb hr hlocks hS1 (by rw [if_neg (by rw [hkk]; decide), if_neg (by rw [hkk]; decide), if_neg (by rw [hkk]; decide)]; exact ⟨hB1, f0, hf0, hO1⟩) (Nat.le_of_ble_eq_true rfl) (Nat.le_of_ble_eq_true rfl) dL_mayVisit_21 hkk.symm
  · have hk0 : k1 (pageB ν p0) = 0 := k1_0 hok
    have hS1 : va_S (wO (ν 0 0) ad o s.heap.size) s.heap s.heap locs1 := ⟨Nat.le_refl _, fun q _ _ => rfl, (fun z hz => (hL1 z hz).elim)⟩
    have hB1 := hB
    have hO1 := hO
    have hB1 : CW D cy ad (τ) (ν) s.heap := hB1
    refine lv_if_eq (tgt := 14) hx hb dL_mayVisit_7 (by decide) (fun c_7 => ?_) (fun c_7 => ?_)
    · -- 7 t
      refine lv_lconst (v := 0) hx hb dL_mayVisit_14 rfl ?_
      refine g_last (A := (wO (ν 0 0) ad o s.heap.size)) (f := f0) hx hb hK hO1 hS1 (Or.inr rfl) w_in dL_mayVisit_15 (fun H2 locs2 hO2 hu2 hS2 => ?_)
      have hB2 : CW D cy ad (τ) (ν) H2 := wP.kept hB1 (fun k i hi => hu2.2 _ (ho k i hi))
      refine lv_goto (tgt := 22) hx hb dL_mayVisit_16 (by decide) ?_
      refine lv_iconst (v := 0) hx hb dL_mayVisit_22 (by decide) ?_
      exact g_iretU hx hb hr hlocks hS2 (by rw [if_pos hk0, if_pos hk0, if_pos hk0]; exact ⟨hB2, _, (by rw [if_neg (fun z => by rw [zb_0.mp c_7] at z; cases z)]; rfl), hO2⟩) (Nat.le_of_ble_eq_true rfl) (Nat.le_of_ble_eq_true rfl) dL_mayVisit_23 hk0.symm
    · -- 7 f
      refine lv_lconst (v := 1) hx hb dL_mayVisit_10 rfl ?_
      refine lv_goto (tgt := 15) hx hb dL_mayVisit_11 (by decide) ?_
      refine g_last (A := (wO (ν 0 0) ad o s.heap.size)) (f := f0) hx hb hK hO1 hS1 (Or.inr rfl) w_in dL_mayVisit_15 (fun H2 locs2 hO2 hu2 hS2 => ?_)
      have hB2 : CW D cy ad (τ) (ν) H2 := wP.kept hB1 (fun k i hi => hu2.2 _ (ho k i hi))
      refine lv_goto (tgt := 22) hx hb dL_mayVisit_16 (by decide) ?_
      refine lv_iconst (v := 0) hx hb dL_mayVisit_22 (by decide) ?_
      exact g_iretU hx hb hr hlocks hS2 (by rw [if_pos hk0, if_pos hk0, if_pos hk0]; exact ⟨hB2, _, (by rw [if_pos (zb_n0.mp c_7)]; rfl), hO2⟩) (Nat.le_of_ble_eq_true rfl) (Nat.le_of_ble_eq_true rfl) dL_mayVisit_23 hk0.symm

set_option maxHeartbeats 4000000 in
set_option maxRecDepth 100000 in
/-- the law: visit, caught -/
theorem m_L_visit (l : Launch) (hl9 : l.stackTraces = false) (D : va_G) (cy : Nat → ClassId) (A9 : Nat → Prop) (sz : Nat) (ad : NT) (τ : IT) (ν : NT) (hJ : wJ (cC (ν 0 0)) ad) (o : Nat) (ho : ∀ k i, i < cC (ν 0 0) k → ad k i ≠ o) (x0 : Int64) (hI : CI τ ν) (p0 o0 : Int32) : Met l yL_visit wsL_visit ({ frames := 8, cells := 2, slots := 12, locals := 150 } : Room) (va_Pc [.ref (ad 0 0), .int p0, .int o0, .ref o] (fun U => gK D cy U ∧ yK A9 U U.heap ∧ (atSz sz (WO D cy ad τ ν o x0)) U.heap)) (uQ (some (.int (k3 (pageB ν p0) (inB o0 0 3) (isRdy τ ν p0.toNatClampNeg)))) (WO D cy ad (if k3 (pageB ν p0) (inB o0 0 3) (isRdy τ ν p0.toNatClampNeg) = 0 then visC τ ν p0.toNatClampNeg o0 else τ) (if k3 (pageB ν p0) (inB o0 0 3) (isRdy τ ν p0.toNatClampNeg) = 0 then ν else ν) o (if k3 (pageB ν p0) (inB o0 0 3) (isRdy τ ν p0.toNatClampNeg) = 0 then (visC τ ν p0.toNatClampNeg o0 9 (ν 5 p0.toNatClampNeg)).toInt64 else x0)) (wO (ν 0 0) ad o sz)) 2 12 (wO (ν 0 0) ad o sz) := by
  refine w_ofWH (cc := cL_visit) (maxL := 5) (ret := (some .int)) (hh := [(0, 10, 13, 21), (0, 10, 17, 13), (0, 10, 21, 15)]) (by decide) rfl ?_
  intro p e s m args below meth c s₁ B9 hml hv
  obtain ⟨rfl, hK, hY9, hsz, hB, f0, hf0, hO⟩ := hv
  have hB : CW D cy ad τ ν s.heap := hB
  subst hsz
  have hx := B9.exec
  have hb := B9.bytes
  have hr := B9.returns
  have hts := atoms_spec (ws := wsL_visit) B9.pre
  have hown : s.vm.findClass RL = some m.cls := findClass_of_methodNamed B9.named
  have hlocks := B9.notSynchronized
  have htab := vx_table (x := yL_visit) B9 (hts (.codeWith yL_visit cL_visit 5 (some .int) [(0, 10, 13, 21), (0, 10, 17, 13), (0, 10, 21, 15)]) (by decide +kernel))
  have hno : ¬ wA (cC (ν 0 0)) ad s.heap.size o := fun z => z.elim (fun y => by obtain ⟨k, i, hi, e⟩ := y; exact ho k i hi e) (fun y => absurd (va_at.lt hO) (Nat.not_lt.mpr y))
  have hl := lv_entry ([.ref (ad 0 0), .int p0, .int o0, .ref o]) (n := 5) (Nat.le_of_ble_eq_true rfl)
  rw [lg_entry_eq]
  generalize (lg_sl ([.ref (ad 0 0), .int p0, .int o0, .ref o]) ++ List.replicate (5 - (lg_sl ([.ref (ad 0 0), .int p0, .int o0, .ref o])).length) Slot.unset).toArray = ls at hl ⊢
  have hl : lv_has ls 5 [(0, .ref (ad 0 0)), (1, .int p0), (2, .int o0), (3, .ref o)] := hl
  refine lv_aload_n hx hb dL_visit_0 rfl (lv_at hl 3 rfl) ?_
  refine lv_iconst (v := 0) hx hb dL_visit_1 (by decide) ?_
  refine lv_aload_n hx hb dL_visit_2 rfl (lv_at hl 0 rfl) ?_
  refine lv_iload_n hx hb dL_visit_3 rfl (lv_at hl 1 rfl) ?_
  refine lv_iload_n hx hb dL_visit_4 rfl (lv_at hl 2 rfl) ?_
  refine w_call1 (vx_runV (As := [.int p0, .int o0]) (rest := [.int 0, .ref o]) ⟨hx, hb, hml, hown, hts⟩ (m_X3_visit l hl9 D cy A9 s.heap.size ad τ ν hJ hI p0 o0) (cwV 2 hts gL_visit_X3_visit rfl rfl rfl (by decide +kernel) ⟨Nat.le_of_ble_eq_true rfl, Nat.le_of_ble_eq_true rfl⟩) (x_preV (C := RX3) (B := atSz s.heap.size (CW D cy ad τ ν)) hK hY9.1 ⟨rfl, hB⟩ (hB 0 0 Nat.zero_lt_one) rfl) rfl rfl hl.1 rfl (lv_room (Nat.le_of_ble_eq_true rfl)) dL_visit_5 ⟨Nat.le_of_ble_eq_true rfl, Nat.le_of_ble_eq_true rfl⟩) (fun E ce q9 H1 locs1 hPE hz1 hk1 hL1 hce hcv hcl => ?_) (fun hok H1 locs1 hB1 hz1 hk1 hL1 => ?_)
  · have hS1 : va_S (wO (ν 0 0) ad o s.heap.size) s.heap H1 locs1 := ⟨hz1, fun q h1 _ => hk1 q h1, (fun z hz => Or.inl (hL1 z hz))⟩
    have hB1 : CW D cy ad τ ν H1 := hB.keep hk1
    have hO1 := hO.keep hk1
    rcases hPE with hPE | hPE
    · obtain ⟨w1, rfl⟩ := hPE
      refine vx_catch (own := RL) (name := xcI) hown [] ⟨0, 10, 13, 21⟩ [⟨0, 10, 17, 13⟩, ⟨0, 10, 21, 15⟩] (by rw [htab]; rfl) (fun z hz => nomatch hz) (by decide) (by decide) (hts (.classLink RL 21 xcI) (by decide +kernel)) (va_Nw.use rfl (hY9.1.2.2.1 xcI (by decide))) hce hcv hcl ?_
      have hkk : k3 (pageB ν p0) (inB o0 0 3) (isRdy τ ν p0.toNatClampNeg) = 1 := k3_1 w1
      refine lv_astore (lv' := [(4, .ref q9), (0, .ref (ad 0 0)), (1, .int p0), (2, .int o0), (3, .ref o)]) hx hb dL_visit_13 hl (by decide) rfl (fun ls hl => ?_)
      refine lv_iconst (v := 1) hx hb dL_visit_15 (by decide) ?_
      exact g_iretU hx hb hr hlocks hS1 (by rw [if_neg (by rw [hkk]; decide), if_neg (by rw [hkk]; decide), if_neg (by rw [hkk]; decide)]; exact ⟨hB1, f0, hf0, hO1⟩) (Nat.le_of_ble_eq_true rfl) (Nat.le_of_ble_eq_true rfl) dL_visit_16 hkk.symm
    rcases hPE with hPE | hPE
    · obtain ⟨w1, w2, rfl⟩ := hPE
      refine vx_catch (own := RL) (name := xcA) hown [⟨0, 10, 13, 21⟩] ⟨0, 10, 17, 13⟩ [⟨0, 10, 21, 15⟩] (by rw [htab]; rfl) (fun z hz => (List.mem_cons.mp hz).elim (fun e => by subst e; exact Or.inr ⟨by decide, xcI, hts (.classLink RL 21 xcI) (by decide +kernel), hY9.2.1⟩) (fun hz => nomatch hz)) (by decide) (by decide) (hts (.classLink RL 13 xcA) (by decide +kernel)) (va_Nw.use rfl (hY9.1.2.2.1 xcA (by decide))) hce hcv hcl ?_
      have hkk : k3 (pageB ν p0) (inB o0 0 3) (isRdy τ ν p0.toNatClampNeg) = 2 := k3_2 w1 w2
      refine lv_astore (lv' := [(4, .ref q9), (0, .ref (ad 0 0)), (1, .int p0), (2, .int o0), (3, .ref o)]) hx hb dL_visit_17 hl (by decide) rfl (fun ls hl => ?_)
      refine lv_iconst (v := 2) hx hb dL_visit_19 (by decide) ?_
      exact g_iretU hx hb hr hlocks hS1 (by rw [if_neg (by rw [hkk]; decide), if_neg (by rw [hkk]; decide), if_neg (by rw [hkk]; decide)]; exact ⟨hB1, f0, hf0, hO1⟩) (Nat.le_of_ble_eq_true rfl) (Nat.le_of_ble_eq_true rfl) dL_visit_20 hkk.symm
    · obtain ⟨w1, w2, w3, rfl⟩ := hPE
      refine vx_catch (own := RL) (name := xcL) hown [⟨0, 10, 13, 21⟩, ⟨0, 10, 17, 13⟩] ⟨0, 10, 21, 15⟩ [] (by rw [htab]; rfl) (fun z hz => (List.mem_cons.mp hz).elim (fun e => by subst e; exact Or.inr ⟨by decide, xcI, hts (.classLink RL 21 xcI) (by decide +kernel), hY9.2.2.1⟩) (fun hz => (List.mem_cons.mp hz).elim (fun e => by subst e; exact Or.inr ⟨by decide, xcA, hts (.classLink RL 13 xcA) (by decide +kernel), hY9.2.2.2⟩) (fun hz => nomatch hz))) (by decide) (by decide) (hts (.classLink RL 15 xcL) (by decide +kernel)) (va_Nw.use rfl (hY9.1.2.2.1 xcL (by decide))) hce hcv hcl ?_
      have hkk : k3 (pageB ν p0) (inB o0 0 3) (isRdy τ ν p0.toNatClampNeg) = 3 := k3_3 w1 w2 w3
      refine lv_astore (lv' := [(4, .ref q9), (0, .ref (ad 0 0)), (1, .int p0), (2, .int o0), (3, .ref o)]) hx hb dL_visit_21 hl (by decide) rfl (fun ls hl => ?_)
      refine lv_iconst (v := 3) hx hb dL_visit_23 (by decide) ?_
      exact g_iretU hx hb hr hlocks hS1 (by rw [if_neg (by rw [hkk]; decide), if_neg (by rw [hkk]; decide), if_neg (by rw [hkk]; decide)]; exact ⟨hB1, f0, hf0, hO1⟩) (Nat.le_of_ble_eq_true rfl) (Nat.le_of_ble_eq_true rfl) dL_visit_24 hkk.symm
  · have hk0 : k3 (pageB ν p0) (inB o0 0 3) (isRdy τ ν p0.toNatClampNeg) = 0 := k3_0 hok.1 hok.2.1 hok.2.2
    have hS1 : va_S (wO (ν 0 0) ad o s.heap.size) s.heap H1 locs1 := ⟨hz1, fun q h1 h2 => hk1 q h1 (fun z => h2 (Or.inl z)), (fun z hz => Or.inl (hL1 z hz))⟩
    have hO1 : oA D o (.inl (cy 5, 1, .inr (.inl f0))) H1 := va_at.kept hO (hk1 o (va_at.lt hO) hno)
    have hB1 : CW D cy ad (visC τ ν p0.toNatClampNeg o0) (ν) H1 := hB1
    refine lv_i2l hx hb dL_visit_8 rfl ?_
    refine g_last (A := (wO (ν 0 0) ad o s.heap.size)) (f := f0) hx hb hK hO1 hS1 (Or.inr rfl) w_in dL_visit_9 (fun H2 locs2 hO2 hu2 hS2 => ?_)
    have hB2 : CW D cy ad (visC τ ν p0.toNatClampNeg o0) (ν) H2 := wP.kept hB1 (fun k i hi => hu2.2 _ (ho k i hi))
    refine lv_goto (tgt := 25) hx hb dL_visit_10 (by decide) ?_
    refine lv_iconst (v := 0) hx hb dL_visit_25 (by decide) ?_
    exact g_iretU hx hb hr hlocks hS2 (by rw [if_pos hk0, if_pos hk0, if_pos hk0]; exact ⟨hB2, _, (by rfl), hO2⟩) (Nat.le_of_ble_eq_true rfl) (Nat.le_of_ble_eq_true rfl) dL_visit_26 hk0.symm

set_option maxHeartbeats 4000000 in
set_option maxRecDepth 100000 in
/-- the law: pass, caught -/
theorem m_L_pass (l : Launch) (hl9 : l.stackTraces = false) (D : va_G) (cy : Nat → ClassId) (A9 : Nat → Prop) (sz : Nat) (ad : NT) (τ : IT) (ν : NT) (hJ : wJ (cC (ν 0 0)) ad) (o : Nat) (ho : ∀ k i, i < cC (ν 0 0) k → ad k i ≠ o) (x0 : Int64) (t0 : Int32) : Met l yL_pass wsL_pass ({ frames := 8, cells := 1, slots := 6, locals := 150 } : Room) (va_Pc [.ref (ad 0 0), .int t0, .ref o] (fun U => gK D cy U ∧ yK A9 U U.heap ∧ (atSz sz (WO D cy ad τ ν o x0)) U.heap)) (uQ (some (.int (kPass τ t0))) (WO D cy ad (if kPass τ t0 = 0 then passC τ t0 else τ) (if kPass τ t0 = 0 then ν else ν) o (if kPass τ t0 = 0 then (τ 0 0 + t0).toInt64 else x0)) (wO (ν 0 0) ad o sz)) 1 6 (wO (ν 0 0) ad o sz) := by
  refine w_ofWH (cc := cL_pass) (maxL := 4) (ret := (some .int)) (hh := [(0, 9, 12, 13), (0, 9, 15, 15)]) (by decide) rfl ?_
  intro p e s m args below meth c s₁ B9 hml hv
  obtain ⟨rfl, hK, hY9, hsz, hB, f0, hf0, hO⟩ := hv
  have hB : CW D cy ad τ ν s.heap := hB
  subst hsz
  have hx := B9.exec
  have hb := B9.bytes
  have hr := B9.returns
  have hts := atoms_spec (ws := wsL_pass) B9.pre
  have hown : s.vm.findClass RL = some m.cls := findClass_of_methodNamed B9.named
  have hlocks := B9.notSynchronized
  have htab := vx_table (x := yL_pass) B9 (hts (.codeWith yL_pass cL_pass 4 (some .int) [(0, 9, 12, 13), (0, 9, 15, 15)]) (by decide +kernel))
  have hno : ¬ wA (cC (ν 0 0)) ad s.heap.size o := fun z => z.elim (fun y => by obtain ⟨k, i, hi, e⟩ := y; exact ho k i hi e) (fun y => absurd (va_at.lt hO) (Nat.not_lt.mpr y))
  have hl := lv_entry ([.ref (ad 0 0), .int t0, .ref o]) (n := 4) (Nat.le_of_ble_eq_true rfl)
  rw [lg_entry_eq]
  generalize (lg_sl ([.ref (ad 0 0), .int t0, .ref o]) ++ List.replicate (4 - (lg_sl ([.ref (ad 0 0), .int t0, .ref o])).length) Slot.unset).toArray = ls at hl ⊢
  have hl : lv_has ls 4 [(0, .ref (ad 0 0)), (1, .int t0), (2, .ref o)] := hl
  refine lv_aload_n hx hb dL_pass_0 rfl (lv_at hl 2 rfl) ?_
  refine lv_iconst (v := 0) hx hb dL_pass_1 (by decide) ?_
  refine lv_aload_n hx hb dL_pass_2 rfl (lv_at hl 0 rfl) ?_
  refine lv_iload_n hx hb dL_pass_3 rfl (lv_at hl 1 rfl) ?_
  refine w_call1 (vx_runV (As := [.int t0]) (rest := [.int 0, .ref o]) ⟨hx, hb, hml, hown, hts⟩ (m_X3_pass l hl9 D cy A9 s.heap.size ad τ ν hJ t0) (cwV 1 hts gL_pass_X3_pass rfl rfl rfl (by decide +kernel) ⟨Nat.le_of_ble_eq_true rfl, Nat.le_of_ble_eq_true rfl⟩) (x_preV (C := RX3) (B := atSz s.heap.size (CW D cy ad τ ν)) hK hY9.1 ⟨rfl, hB⟩ (hB 0 0 Nat.zero_lt_one) rfl) rfl rfl hl.1 rfl (lv_room (Nat.le_of_ble_eq_true rfl)) dL_pass_4 ⟨Nat.le_of_ble_eq_true rfl, Nat.le_of_ble_eq_true rfl⟩) (fun E ce q9 H1 locs1 hPE hz1 hk1 hL1 hce hcv hcl => ?_) (fun hok H1 locs1 hB1 hz1 hk1 hL1 => ?_)
  · have hS1 : va_S (wO (ν 0 0) ad o s.heap.size) s.heap H1 locs1 := ⟨hz1, fun q h1 _ => hk1 q h1, (fun z hz => Or.inl (hL1 z hz))⟩
    have hB1 : CW D cy ad τ ν H1 := hB.keep hk1
    have hO1 := hO.keep hk1
    rcases hPE with hPE | hPE
    · obtain ⟨w1, rfl⟩ := hPE
      refine vx_catch (own := RL) (name := xcA) hown [] ⟨0, 9, 12, 13⟩ [⟨0, 9, 15, 15⟩] (by rw [htab]; rfl) (fun z hz => nomatch hz) (by decide) (by decide) (hts (.classLink RL 13 xcA) (by decide +kernel)) (va_Nw.use rfl (hY9.1.2.2.1 xcA (by decide))) hce hcv hcl ?_
      have hkk : kPass τ t0 = 1 := k2_1 w1
      refine lv_astore_n (lv' := [(3, .ref q9), (0, .ref (ad 0 0)), (1, .int t0), (2, .ref o)]) hx hb dL_pass_12 rfl hl (by decide) rfl (fun ls hl => ?_)
      refine lv_iconst (v := 1) hx hb dL_pass_13 (by decide) ?_
      exact g_iretU hx hb hr hlocks hS1 (by rw [if_neg (by rw [hkk]; decide), if_neg (by rw [hkk]; decide), if_neg (by rw [hkk]; decide)]; exact ⟨hB1, f0, hf0, hO1⟩) (Nat.le_of_ble_eq_true rfl) (Nat.le_of_ble_eq_true rfl) dL_pass_14 hkk.symm
    · obtain ⟨w1, w2, rfl⟩ := hPE
      refine vx_catch (own := RL) (name := xcL) hown [⟨0, 9, 12, 13⟩] ⟨0, 9, 15, 15⟩ [] (by rw [htab]; rfl) (fun z hz => (List.mem_cons.mp hz).elim (fun e => by subst e; exact Or.inr ⟨by decide, xcA, hts (.classLink RL 13 xcA) (by decide +kernel), hY9.2.2.2⟩) (fun hz => nomatch hz)) (by decide) (by decide) (hts (.classLink RL 15 xcL) (by decide +kernel)) (va_Nw.use rfl (hY9.1.2.2.1 xcL (by decide))) hce hcv hcl ?_
      have hkk : kPass τ t0 = 2 := k2_2 w1 (decide_eq_false w2)
      refine lv_astore_n (lv' := [(3, .ref q9), (0, .ref (ad 0 0)), (1, .int t0), (2, .ref o)]) hx hb dL_pass_15 rfl hl (by decide) rfl (fun ls hl => ?_)
      refine lv_iconst (v := 2) hx hb dL_pass_16 (by decide) ?_
      exact g_iretU hx hb hr hlocks hS1 (by rw [if_neg (by rw [hkk]; decide), if_neg (by rw [hkk]; decide), if_neg (by rw [hkk]; decide)]; exact ⟨hB1, f0, hf0, hO1⟩) (Nat.le_of_ble_eq_true rfl) (Nat.le_of_ble_eq_true rfl) dL_pass_17 hkk.symm
  · have hk0 : kPass τ t0 = 0 := k2_0 hok.1 (decide_eq_true hok.2)
    have hS1 : va_S (wO (ν 0 0) ad o s.heap.size) s.heap H1 locs1 := ⟨hz1, fun q h1 h2 => hk1 q h1 (fun z => h2 (Or.inl z)), (fun z hz => Or.inl (hL1 z hz))⟩
    have hO1 : oA D o (.inl (cy 5, 1, .inr (.inl f0))) H1 := va_at.kept hO (hk1 o (va_at.lt hO) hno)
    have hB1 : CW D cy ad (passC τ t0) (ν) H1 := hB1
    refine lv_i2l hx hb dL_pass_7 rfl ?_
    refine g_last (A := (wO (ν 0 0) ad o s.heap.size)) (f := f0) hx hb hK hO1 hS1 (Or.inr rfl) w_in dL_pass_8 (fun H2 locs2 hO2 hu2 hS2 => ?_)
    have hB2 : CW D cy ad (passC τ t0) (ν) H2 := wP.kept hB1 (fun k i hi => hu2.2 _ (ho k i hi))
    refine lv_goto (tgt := 18) hx hb dL_pass_9 (by decide) ?_
    refine lv_iconst (v := 0) hx hb dL_pass_18 (by decide) ?_
    exact g_iretU hx hb hr hlocks hS2 (by rw [if_pos hk0, if_pos hk0, if_pos hk0]; exact ⟨hB2, _, (by rfl), hO2⟩) (Nat.le_of_ble_eq_true rfl) (Nat.le_of_ble_eq_true rfl) dL_pass_19 hk0.symm

set_option maxHeartbeats 4000000 in
set_option maxRecDepth 100000 in
/-- the law: share, caught -/
theorem m_L_share (l : Launch) (hl9 : l.stackTraces = false) (D : va_G) (cy : Nat → ClassId) (A9 : Nat → Prop) (sz : Nat) (ad : NT) (τ : IT) (ν : NT) (hJ : wJ (cC (ν 0 0)) ad) (o : Nat) (ho : ∀ k i, i < cC (ν 0 0) k → ad k i ≠ o) (x0 : Int64) (hn30 : ν 0 0 ≤ 30) (p0 cnt : Int32) : Met l yL_share wsL_share ({ frames := 8, cells := 2, slots := 12, locals := 150 } : Room) (va_Pc [.ref (ad 0 0), .int p0, .int cnt, .ref o] (fun U => gK D cy U ∧ yK A9 U U.heap ∧ (atSz sz (WO D cy ad τ ν o x0)) U.heap)) (uQ (some (.int (k2 (pageB ν p0) (inB cnt 0 100)))) (WO D cy ad (if k2 (pageB ν p0) (inB cnt 0 100) = 0 then svN τ ν cnt.toNatClampNeg else τ) (if k2 (pageB ν p0) (inB cnt 0 100) = 0 then ν else ν) o (if k2 (pageB ν p0) (inB cnt 0 100) = 0 then (svN τ ν cnt.toNatClampNeg 25 p0.toNatClampNeg).toInt64 else x0)) (wO (ν 0 0) ad o sz)) 2 12 (wO (ν 0 0) ad o sz) := by
  refine w_ofWH (cc := cL_share) (maxL := 5) (ret := (some .int)) (hh := [(0, 10, 13, 21), (0, 10, 17, 13)]) (by decide) rfl ?_
  intro p e s m args below meth c s₁ B9 hml hv
  obtain ⟨rfl, hK, hY9, hsz, hB, f0, hf0, hO⟩ := hv
  have hB : CW D cy ad τ ν s.heap := hB
  subst hsz
  have hx := B9.exec
  have hb := B9.bytes
  have hr := B9.returns
  have hts := atoms_spec (ws := wsL_share) B9.pre
  have hown : s.vm.findClass RL = some m.cls := findClass_of_methodNamed B9.named
  have hlocks := B9.notSynchronized
  have htab := vx_table (x := yL_share) B9 (hts (.codeWith yL_share cL_share 5 (some .int) [(0, 10, 13, 21), (0, 10, 17, 13)]) (by decide +kernel))
  have hno : ¬ wA (cC (ν 0 0)) ad s.heap.size o := fun z => z.elim (fun y => by obtain ⟨k, i, hi, e⟩ := y; exact ho k i hi e) (fun y => absurd (va_at.lt hO) (Nat.not_lt.mpr y))
  have hl := lv_entry ([.ref (ad 0 0), .int p0, .int cnt, .ref o]) (n := 5) (Nat.le_of_ble_eq_true rfl)
  rw [lg_entry_eq]
  generalize (lg_sl ([.ref (ad 0 0), .int p0, .int cnt, .ref o]) ++ List.replicate (5 - (lg_sl ([.ref (ad 0 0), .int p0, .int cnt, .ref o])).length) Slot.unset).toArray = ls at hl ⊢
  have hl : lv_has ls 5 [(0, .ref (ad 0 0)), (1, .int p0), (2, .int cnt), (3, .ref o)] := hl
  refine lv_aload_n hx hb dL_share_0 rfl (lv_at hl 3 rfl) ?_
  refine lv_iconst (v := 0) hx hb dL_share_1 (by decide) ?_
  refine lv_aload_n hx hb dL_share_2 rfl (lv_at hl 0 rfl) ?_
  refine lv_iload_n hx hb dL_share_3 rfl (lv_at hl 1 rfl) ?_
  refine lv_iload_n hx hb dL_share_4 rfl (lv_at hl 2 rfl) ?_
  refine w_call1 (vx_runV (As := [.int p0, .int cnt]) (rest := [.int 0, .ref o]) ⟨hx, hb, hml, hown, hts⟩ (m_X3_share l hl9 D cy A9 s.heap.size ad τ ν hJ hn30 p0 cnt) (cwV 2 hts gL_share_X3_share rfl rfl rfl (by decide +kernel) ⟨Nat.le_of_ble_eq_true rfl, Nat.le_of_ble_eq_true rfl⟩) (x_preV (C := RX3) (B := atSz s.heap.size (CW D cy ad τ ν)) hK hY9.1 ⟨rfl, hB⟩ (hB 0 0 Nat.zero_lt_one) rfl) rfl rfl hl.1 rfl (lv_room (Nat.le_of_ble_eq_true rfl)) dL_share_5 ⟨Nat.le_of_ble_eq_true rfl, Nat.le_of_ble_eq_true rfl⟩) (fun E ce q9 H1 locs1 hPE hz1 hk1 hL1 hce hcv hcl => ?_) (fun hok H1 locs1 hB1 hz1 hk1 hL1 => ?_)
  · have hS1 : va_S (wO (ν 0 0) ad o s.heap.size) s.heap H1 locs1 := ⟨hz1, fun q h1 _ => hk1 q h1, (fun z hz => Or.inl (hL1 z hz))⟩
    have hB1 : CW D cy ad τ ν H1 := hB.keep hk1
    have hO1 := hO.keep hk1
    rcases hPE with hPE | hPE
    · obtain ⟨w1, rfl⟩ := hPE
      refine vx_catch (own := RL) (name := xcI) hown [] ⟨0, 10, 13, 21⟩ [⟨0, 10, 17, 13⟩] (by rw [htab]; rfl) (fun z hz => nomatch hz) (by decide) (by decide) (hts (.classLink RL 21 xcI) (by decide +kernel)) (va_Nw.use rfl (hY9.1.2.2.1 xcI (by decide))) hce hcv hcl ?_
      have hkk : k2 (pageB ν p0) (inB cnt 0 100) = 1 := k2_1 w1
      refine lv_astore (lv' := [(4, .ref q9), (0, .ref (ad 0 0)), (1, .int p0), (2, .int cnt), (3, .ref o)]) hx hb dL_share_13 hl (by decide) rfl (fun ls hl => ?_)
      refine lv_iconst (v := 1) hx hb dL_share_15 (by decide) ?_
      exact g_iretU hx hb hr hlocks hS1 (by rw [if_neg (by rw [hkk]; decide), if_neg (by rw [hkk]; decide), if_neg (by rw [hkk]; decide)]; exact ⟨hB1, f0, hf0, hO1⟩) (Nat.le_of_ble_eq_true rfl) (Nat.le_of_ble_eq_true rfl) dL_share_16 hkk.symm
    · obtain ⟨w1, w2, rfl⟩ := hPE
      refine vx_catch (own := RL) (name := xcA) hown [⟨0, 10, 13, 21⟩] ⟨0, 10, 17, 13⟩ [] (by rw [htab]; rfl) (fun z hz => (List.mem_cons.mp hz).elim (fun e => by subst e; exact Or.inr ⟨by decide, xcI, hts (.classLink RL 21 xcI) (by decide +kernel), hY9.2.1⟩) (fun hz => nomatch hz)) (by decide) (by decide) (hts (.classLink RL 13 xcA) (by decide +kernel)) (va_Nw.use rfl (hY9.1.2.2.1 xcA (by decide))) hce hcv hcl ?_
      have hkk : k2 (pageB ν p0) (inB cnt 0 100) = 2 := k2_2 w1 w2
      refine lv_astore (lv' := [(4, .ref q9), (0, .ref (ad 0 0)), (1, .int p0), (2, .int cnt), (3, .ref o)]) hx hb dL_share_17 hl (by decide) rfl (fun ls hl => ?_)
      refine lv_iconst (v := 2) hx hb dL_share_19 (by decide) ?_
      exact g_iretU hx hb hr hlocks hS1 (by rw [if_neg (by rw [hkk]; decide), if_neg (by rw [hkk]; decide), if_neg (by rw [hkk]; decide)]; exact ⟨hB1, f0, hf0, hO1⟩) (Nat.le_of_ble_eq_true rfl) (Nat.le_of_ble_eq_true rfl) dL_share_20 hkk.symm
  · have hk0 : k2 (pageB ν p0) (inB cnt 0 100) = 0 := k2_0 hok.1 hok.2
    have hS1 : va_S (wO (ν 0 0) ad o s.heap.size) s.heap H1 locs1 := ⟨hz1, fun q h1 h2 => hk1 q h1 (fun z => h2 (Or.inl z)), (fun z hz => Or.inl (hL1 z hz))⟩
    have hO1 : oA D o (.inl (cy 5, 1, .inr (.inl f0))) H1 := va_at.kept hO (hk1 o (va_at.lt hO) hno)
    have hB1 : CW D cy ad (svN τ ν cnt.toNatClampNeg) (ν) H1 := hB1
    refine lv_i2l hx hb dL_share_8 rfl ?_
    refine g_last (A := (wO (ν 0 0) ad o s.heap.size)) (f := f0) hx hb hK hO1 hS1 (Or.inr rfl) w_in dL_share_9 (fun H2 locs2 hO2 hu2 hS2 => ?_)
    have hB2 : CW D cy ad (svN τ ν cnt.toNatClampNeg) (ν) H2 := wP.kept hB1 (fun k i hi => hu2.2 _ (ho k i hi))
    refine lv_goto (tgt := 21) hx hb dL_share_10 (by decide) ?_
    refine lv_iconst (v := 0) hx hb dL_share_21 (by decide) ?_
    exact g_iretU hx hb hr hlocks hS2 (by rw [if_pos hk0, if_pos hk0, if_pos hk0]; exact ⟨hB2, _, (by rfl), hO2⟩) (Nat.le_of_ble_eq_true rfl) (Nat.le_of_ble_eq_true rfl) dL_share_22 hk0.symm

set_option maxHeartbeats 4000000 in
set_option maxRecDepth 100000 in
/-- the law: type, caught -/
theorem m_L_type (l : Launch) (hl9 : l.stackTraces = false) (D : va_G) (cy : Nat → ClassId) (A9 : Nat → Prop) (sz : Nat) (ad : NT) (τ : IT) (ν : NT) (hJ : wJ (cC (ν 0 0)) ad) (o : Nat) (ho : ∀ k i, i < cC (ν 0 0) k → ad k i ≠ o) (x0 : Int64) (hI : CI τ ν) (hs2 : ν 2 0 < 30) (c0 : Int32) (hc0 : vp_nar .char c0 = c0) : Met l yL_type wsL_type ({ frames := 8, cells := 1, slots := 6, locals := 150 } : Room) (va_Pc [.ref (ad 0 0), .int c0, .ref o] (fun U => gK D cy U ∧ yK A9 U U.heap ∧ (atSz sz (WO D cy ad τ ν o x0)) U.heap)) (uQ (some (.int (kType ν c0))) (WO D cy ad (if kType ν c0 = 0 then addT τ ν c0 else τ) (if kType ν c0 = 0 then addN τ ν c0 else ν) o (if kType ν c0 = 0 then (nI (ν 1 0 + 1)).toInt64 else x0)) (wO (ν 0 0) ad o sz)) 1 6 (wO (ν 0 0) ad o sz) := by
  refine w_ofWH (cc := cL_type) (maxL := 4) (ret := (some .int)) (hh := [(0, 9, 12, 13), (0, 9, 15, 15)]) (by decide) rfl ?_
  intro p e s m args below meth c s₁ B9 hml hv
  obtain ⟨rfl, hK, hY9, hsz, hB, f0, hf0, hO⟩ := hv
  have hB : CW D cy ad τ ν s.heap := hB
  subst hsz
  have hx := B9.exec
  have hb := B9.bytes
  have hr := B9.returns
  have hts := atoms_spec (ws := wsL_type) B9.pre
  have hown : s.vm.findClass RL = some m.cls := findClass_of_methodNamed B9.named
  have hlocks := B9.notSynchronized
  have htab := vx_table (x := yL_type) B9 (hts (.codeWith yL_type cL_type 4 (some .int) [(0, 9, 12, 13), (0, 9, 15, 15)]) (by decide +kernel))
  have hno : ¬ wA (cC (ν 0 0)) ad s.heap.size o := fun z => z.elim (fun y => by obtain ⟨k, i, hi, e⟩ := y; exact ho k i hi e) (fun y => absurd (va_at.lt hO) (Nat.not_lt.mpr y))
  have hl := lv_entry ([.ref (ad 0 0), .int c0, .ref o]) (n := 4) (Nat.le_of_ble_eq_true rfl)
  rw [lg_entry_eq]
  generalize (lg_sl ([.ref (ad 0 0), .int c0, .ref o]) ++ List.replicate (4 - (lg_sl ([.ref (ad 0 0), .int c0, .ref o])).length) Slot.unset).toArray = ls at hl ⊢
  have hl : lv_has ls 4 [(0, .ref (ad 0 0)), (1, .int c0), (2, .ref o)] := hl
  refine lv_aload_n hx hb dL_type_0 rfl (lv_at hl 2 rfl) ?_
  refine lv_iconst (v := 0) hx hb dL_type_1 (by decide) ?_
  refine lv_aload_n hx hb dL_type_2 rfl (lv_at hl 0 rfl) ?_
  refine lv_iload_n hx hb dL_type_3 rfl (lv_at hl 1 rfl) ?_
  refine w_call1 (vx_runV (As := [.int c0]) (rest := [.int 0, .ref o]) ⟨hx, hb, hml, hown, hts⟩ (m_X3_type l hl9 D cy A9 s.heap.size ad τ ν hJ hI hs2 c0 hc0) (cwV 1 hts gL_type_X3_type rfl rfl rfl (by decide +kernel) ⟨Nat.le_of_ble_eq_true rfl, Nat.le_of_ble_eq_true rfl⟩) (x_preV (C := RX3) (B := atSz s.heap.size (CW D cy ad τ ν)) hK hY9.1 ⟨rfl, hB⟩ (hB 0 0 Nat.zero_lt_one) rfl) rfl rfl hl.1 rfl (lv_room (Nat.le_of_ble_eq_true rfl)) dL_type_4 ⟨Nat.le_of_ble_eq_true rfl, Nat.le_of_ble_eq_true rfl⟩) (fun E ce q9 H1 locs1 hPE hz1 hk1 hL1 hce hcv hcl => ?_) (fun hok H1 locs1 hB1 hz1 hk1 hL1 => ?_)
  · have hS1 : va_S (wO (ν 0 0) ad o s.heap.size) s.heap H1 locs1 := ⟨hz1, fun q h1 _ => hk1 q h1, (fun z hz => Or.inl (hL1 z hz))⟩
    have hB1 : CW D cy ad τ ν H1 := hB.keep hk1
    have hO1 := hO.keep hk1
    rcases hPE with hPE | hPE
    · obtain ⟨w1, rfl⟩ := hPE
      refine vx_catch (own := RL) (name := xcA) hown [] ⟨0, 9, 12, 13⟩ [⟨0, 9, 15, 15⟩] (by rw [htab]; rfl) (fun z hz => nomatch hz) (by decide) (by decide) (hts (.classLink RL 13 xcA) (by decide +kernel)) (va_Nw.use rfl (hY9.1.2.2.1 xcA (by decide))) hce hcv hcl ?_
      have hkk : kType ν c0 = 1 := if_neg w1
      refine lv_astore_n (lv' := [(3, .ref q9), (0, .ref (ad 0 0)), (1, .int c0), (2, .ref o)]) hx hb dL_type_12 rfl hl (by decide) rfl (fun ls hl => ?_)
      refine lv_iconst (v := 1) hx hb dL_type_13 (by decide) ?_
      exact g_iretU hx hb hr hlocks hS1 (by rw [if_neg (by rw [hkk]; decide), if_neg (by rw [hkk]; decide), if_neg (by rw [hkk]; decide)]; exact ⟨hB1, f0, hf0, hO1⟩) (Nat.le_of_ble_eq_true rfl) (Nat.le_of_ble_eq_true rfl) dL_type_14 hkk.symm
    · obtain ⟨w1, w2, rfl⟩ := hPE
      refine vx_catch (own := RL) (name := xcL) hown [⟨0, 9, 12, 13⟩] ⟨0, 9, 15, 15⟩ [] (by rw [htab]; rfl) (fun z hz => (List.mem_cons.mp hz).elim (fun e => by subst e; exact Or.inr ⟨by decide, xcA, hts (.classLink RL 13 xcA) (by decide +kernel), hY9.2.2.2⟩) (fun hz => nomatch hz)) (by decide) (by decide) (hts (.classLink RL 15 xcL) (by decide +kernel)) (va_Nw.use rfl (hY9.1.2.2.1 xcL (by decide))) hce hcv hcl ?_
      have hkk : kType ν c0 = 2 := (if_pos w1).trans (if_pos w2)
      refine lv_astore_n (lv' := [(3, .ref q9), (0, .ref (ad 0 0)), (1, .int c0), (2, .ref o)]) hx hb dL_type_15 rfl hl (by decide) rfl (fun ls hl => ?_)
      refine lv_iconst (v := 2) hx hb dL_type_16 (by decide) ?_
      exact g_iretU hx hb hr hlocks hS1 (by rw [if_neg (by rw [hkk]; decide), if_neg (by rw [hkk]; decide), if_neg (by rw [hkk]; decide)]; exact ⟨hB1, f0, hf0, hO1⟩) (Nat.le_of_ble_eq_true rfl) (Nat.le_of_ble_eq_true rfl) dL_type_17 hkk.symm
  · have hk0 : kType ν c0 = 0 := (if_pos hok.1).trans (if_neg hok.2)
    have hS1 : va_S (wO (ν 0 0) ad o s.heap.size) s.heap H1 locs1 := ⟨hz1, fun q h1 h2 => hk1 q h1 (fun z => h2 (Or.inl z)), (fun z hz => Or.inl (hL1 z hz))⟩
    have hO1 : oA D o (.inl (cy 5, 1, .inr (.inl f0))) H1 := va_at.kept hO (hk1 o (va_at.lt hO) hno)
    have hB1 : CW D cy ad (addT τ ν c0) (addN τ ν c0) H1 := hB1
    refine lv_i2l hx hb dL_type_7 rfl ?_
    refine g_last (A := (wO (ν 0 0) ad o s.heap.size)) (f := f0) hx hb hK hO1 hS1 (Or.inr rfl) w_in dL_type_8 (fun H2 locs2 hO2 hu2 hS2 => ?_)
    have hB2 : CW D cy ad (addT τ ν c0) (addN τ ν c0) H2 := wP.kept hB1 (fun k i hi => hu2.2 _ (ho k i (by have e9 : addN τ ν c0 0 0 = ν 0 0 := (by rw [addN]; split <;> rfl); rw [← e9]; exact hi)))
    refine lv_goto (tgt := 18) hx hb dL_type_9 (by decide) ?_
    refine lv_iconst (v := 0) hx hb dL_type_18 (by decide) ?_
    exact g_iretU hx hb hr hlocks hS2 (by rw [if_pos hk0, if_pos hk0, if_pos hk0]; exact ⟨hB2, _, (by rfl), hO2⟩) (Nat.le_of_ble_eq_true rfl) (Nat.le_of_ble_eq_true rfl) dL_type_19 hk0.symm
