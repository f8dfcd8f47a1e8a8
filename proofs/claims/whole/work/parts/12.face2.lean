/-! PolitecrawlModel: its face, but find, visit and share -/
/-- the code of the last call: 0 first -/
abbrev T0 (σ : IT) : IT := up2 σ 30 0 0
abbrev T1 (σ : IT) (c : Int32) : IT := up2 (up2 σ 30 0 0) 30 0 c
def oType (σ : IT) (ν : NT) (c : Int32) : Int32 × IT × NT :=
  if c = 47 ∨ inB c 97 122 = true then (if ν 1 0 = 30 then (0, T1 σ 2, ν) else (nI (ν 1 0 + 1), up2 (T0 σ) 6 (ν 1 0) c, up2 ν 1 0 (ν 1 0 + 1))) else (0, T1 σ 1, ν)
def oSetRest (σ : IT) (h r : Int32) : Int32 × IT := if hostB h = true then (if inB r 1 100 = true then (σ 7 h.toNatClampNeg, up2 (T0 σ) 7 h.toNatClampNeg r) else (0, T1 σ 2)) else (0, T1 σ 1)
def pcode (a b : Int32) : Int32 := ask (inB a 1 1000 && inB b a 5000)
def oSetPaces (σ : IT) (a b : Int32) : IT := if pcode a b = 0 then up2 (up2 (up2 σ 30 0 (pcode a b)) 1 0 a) 2 0 b else up2 σ 30 0 (pcode a b)
def oSetBudget (σ : IT) (v : Int32) : Int32 × IT := if inB v 1 100 = true then (σ 3 0, up2 (T0 σ) 3 0 v) else (0, T1 σ 1)
def oHostQ (σ : IT) (k : Nat) (h : Int32) : Int32 × IT := if hostB h = true then (σ k h.toNatClampNeg, T0 σ) else (0, T1 σ 1)
def oSetRank (σ : IT) (ν : NT) (p r : Int32) : Int32 × IT := if pageB ν p = true then (if inB r 0 9 = true then (σ 10 p.toNatClampNeg, up2 (T0 σ) 10 p.toNatClampNeg r) else (0, T1 σ 2)) else (0, T1 σ 1)
def oDueAt (σ : IT) (ν : NT) (p : Int32) : Int32 := if pageB ν p = true then (if keptB (σ 14 p.toNatClampNeg) (σ 15 p.toNatClampNeg) = true then σ 11 p.toNatClampNeg else -1) else 0
def oPageQ (σ : IT) (ν : NT) (k : Nat) (p : Int32) : Int32 := if pageB ν p = true then σ k p.toNatClampNeg else 0
def oMayVisit (σ : IT) (ν : NT) (p : Int32) : Bool := if pageB ν p = true then openB σ ν p.toNatClampNeg else false
def oPass (σ : IT) (t : Int32) : Int32 × IT := if inB t 1 1000 = true then (if (100000 : Int32) < σ 0 0 + t then (0, T1 σ 2) else (σ 0 0 + t, up2 (T0 σ) 0 0 (σ 0 0 + t))) else (0, T1 σ 1)
theorem ltNe {a b : Int32} (h : ¬ b < a) : a ≤ b := Int32.not_lt.mp h

set_option maxHeartbeats 4000000 in
set_option maxRecDepth 100000 in
/-- model: type -/
theorem m_X4_type (l : Launch) (D : va_G) (cy : Nat → ClassId) (sz : Nat) (ad : NT) (σ : IT) (ν : NT) (hJ : wJ cM ad) (hl30 : ν 1 0 ≤ 30) (c0 : Int32) : Met l yX4_type wsX4_type ({ frames := 1, cells := 0, slots := 0, locals := 30 } : Room) (va_Pc [.ref (ad 0 0), .int c0] (fun U => gK D cy U ∧ (atSz sz (MW D cy ad σ ν)) U.heap)) (uQ (some (.int (oType σ ν c0).1)) (MW D cy ad (oType σ ν c0).2.1 (oType σ ν c0).2.2) (wA cM ad sz)) 0 0 (wA cM ad sz) := by
  refine Met.ofW (cc := cX4_type) (maxL := 2) (ret := (some .int)) (by decide) rfl ?_
  intro p e s m args below meth c s₁ B9 hml hv
  obtain ⟨rfl, hK, hsz, hB⟩ := hv
  have hx := B9.exec
  have hb := B9.bytes
  have hr := B9.returns
  have hts := atoms_spec (ws := wsX4_type) B9.pre
  have hown : s.vm.findClass RX4 = some m.cls := findClass_of_methodNamed B9.named
  have hlocks := B9.notSynchronized
  subst hsz
  have hS : va_S (wA cM ad s.heap.size) s.heap s.heap [] := va_S.rf
  have lk69 := hts (.fieldLink RX4 69 "PolitecrawlModel" "thrown" "I") (by decide +kernel)
  have inX4 : ∀ w ∈ u_ws RX4 TX4 26, w ∈ wsX4_type := by decide +kernel
  have lk86 := hts (.fieldLink RX4 86 "PolitecrawlModel" "length" "I") (by decide +kernel)
  have lk7 := hts (.fieldLink RX4 7 "PolitecrawlModel" "buffer" "[I") (by decide +kernel)
  have hl := lv_entry ([.ref (ad 0 0), .int c0]) (n := 2) (Nat.le_of_ble_eq_true rfl)
  rw [lg_entry_eq]
  generalize (lg_sl ([.ref (ad 0 0), .int c0]) ++ List.replicate (2 - (lg_sl ([.ref (ad 0 0), .int c0])).length) Slot.unset).toArray = ls at hl ⊢
  have hl : lv_has ls 2 [(0, .ref (ad 0 0)), (1, .int c0)] := hl
  refine lv_aload_n hx hb dX4_type_0 rfl (lv_at hl 0 rfl) ?_
  refine lv_iconst (v := 0) hx hb dX4_type_1 (by decide) ?_
  refine g_put (C := RX4) (T := TX4) (N := 26) (ci := 4) (fs := [.int (σ 30 0), .int (σ 0 0), .int (nI (ν 1 0)), .ref (ad 6 0), .ref (ad 7 0), .ref (ad 8 0), .ref (ad 9 0), .int (σ 1 0), .int (σ 2 0), .int (σ 3 0), .int (σ 31 0), .int (σ 32 0), .int (nI (ν 0 0)), .ref (ad 18 0), .ref (ad 17 0), .ref (ad 16 0), .ref (ad 10 0), .ref (ad 11 0), .ref (ad 12 0), .ref (ad 13 0), .ref (ad 14 0), .ref (ad 15 0), .int (nI (ν 6 0)), .ref (ad 34 0), .ref (ad 35 0), .ref (ad 36 0)]) (A := (wA cM ad s.heap.size)) hx hb hts inX4 tyX4 tyX4_ok nmX4 hown hK (hB 0 0 Nat.zero_lt_one) rfl hS (wA.in (k := 0) (i := 0) Nat.zero_lt_one) 0 (by decide) lk69 rfl rfl rfl rfl (Nat.le_of_ble_eq_true rfl) dX4_type_2 (fun H1 locs1 hc1 hu1 hS1 => ?_)
  have hB1 : MW D cy ad (up2 σ 30 0 0) ν H1 := hB.sc hJ (by decide) hc1 hu1
  obtain ⟨σ1, hs1⟩ : ∃ z : IT, z = up2 σ 30 0 0 := ⟨_, rfl⟩
  rw [← hs1] at hB1
  refine lv_iload_n hx hb dX4_type_5 rfl (lv_at hl 1 rfl) ?_
  refine lv_bipush (v := 47) hx hb dX4_type_6 (by decide) ?_
  refine lv_icmp_eq (tgt := 28) hx hb dX4_type_8 (by decide) (fun c_8 => ?_) (fun c_8 => ?_)
  · -- 8 t
    refine lv_aload_n hx hb dX4_type_28 rfl (lv_at hl 0 rfl) ?_
    refine g_get (C := RX4) (T := TX4) (N := 26) (ci := 4) (fs := [.int (σ1 30 0), .int (σ1 0 0), .int (nI (ν 1 0)), .ref (ad 6 0), .ref (ad 7 0), .ref (ad 8 0), .ref (ad 9 0), .int (σ1 1 0), .int (σ1 2 0), .int (σ1 3 0), .int (σ1 31 0), .int (σ1 32 0), .int (nI (ν 0 0)), .ref (ad 18 0), .ref (ad 17 0), .ref (ad 16 0), .ref (ad 10 0), .ref (ad 11 0), .ref (ad 12 0), .ref (ad 13 0), .ref (ad 14 0), .ref (ad 15 0), .int (nI (ν 6 0)), .ref (ad 34 0), .ref (ad 35 0), .ref (ad 36 0)]) hx hb hts inX4 hown hK (hB1 0 0 Nat.zero_lt_one) rfl 2 (by decide) lk86 rfl rfl dX4_type_29 ?_
    refine lv_bipush (v := 30) hx hb dX4_type_32 (by decide) ?_
    refine lv_icmp_ne (tgt := 43) hx hb dX4_type_34 (by decide) (fun c_34 => ?_) (fun c_34 => ?_)
    · -- 34 t
      have l30 : ν 1 0 < 30 := Nat.lt_of_le_of_ne hl30 (fun q => c_34 (by rw [q]; rfl))
      refine lv_aload_n hx hb dX4_type_43 rfl (lv_at hl 0 rfl) ?_
      refine g_get (C := RX4) (T := TX4) (N := 26) (ci := 4) (fs := [.int (σ1 30 0), .int (σ1 0 0), .int (nI (ν 1 0)), .ref (ad 6 0), .ref (ad 7 0), .ref (ad 8 0), .ref (ad 9 0), .int (σ1 1 0), .int (σ1 2 0), .int (σ1 3 0), .int (σ1 31 0), .int (σ1 32 0), .int (nI (ν 0 0)), .ref (ad 18 0), .ref (ad 17 0), .ref (ad 16 0), .ref (ad 10 0), .ref (ad 11 0), .ref (ad 12 0), .ref (ad 13 0), .ref (ad 14 0), .ref (ad 15 0), .int (nI (ν 6 0)), .ref (ad 34 0), .ref (ad 35 0), .ref (ad 36 0)]) hx hb hts inX4 hown hK (hB1 0 0 Nat.zero_lt_one) rfl 3 (by decide) lk7 rfl rfl dX4_type_44 ?_
      refine lv_aload_n hx hb dX4_type_47 rfl (lv_at hl 0 rfl) ?_
      refine g_get (C := RX4) (T := TX4) (N := 26) (ci := 4) (fs := [.int (σ1 30 0), .int (σ1 0 0), .int (nI (ν 1 0)), .ref (ad 6 0), .ref (ad 7 0), .ref (ad 8 0), .ref (ad 9 0), .int (σ1 1 0), .int (σ1 2 0), .int (σ1 3 0), .int (σ1 31 0), .int (σ1 32 0), .int (nI (ν 0 0)), .ref (ad 18 0), .ref (ad 17 0), .ref (ad 16 0), .ref (ad 10 0), .ref (ad 11 0), .ref (ad 12 0), .ref (ad 13 0), .ref (ad 14 0), .ref (ad 15 0), .int (nI (ν 6 0)), .ref (ad 34 0), .ref (ad 35 0), .ref (ad 36 0)]) hx hb hts inX4 hown hK (hB1 0 0 Nat.zero_lt_one) rfl 2 (by decide) lk86 rfl rfl dX4_type_48 ?_
      refine lv_iload_n hx hb dX4_type_51 rfl (lv_at hl 1 rfl) ?_
      refine g_iast (f := σ1 6) (A := (wA cM ad s.heap.size)) hx hb hK (hB1 6 0 Nat.zero_lt_one) hS1 (wA.in (k := 6) (i := 0) Nat.zero_lt_one) (vp_in_nI (N := 30) (by omega) (by decide)) dX4_type_52 (fun H2 locs2 hc2 hu2 hS2 => ?_)
      have hB2 : MW D cy ad (up2 σ1 6 (ν 1 0) c0) ν H2 := hB1.sst hJ 6 Nat.zero_lt_one (by decide) (by decide) (by decide) (cl_nI (by omega)) hc2 hu2
      obtain ⟨σ2, hs2⟩ : ∃ z : IT, z = up2 σ1 6 (ν 1 0) c0 := ⟨_, rfl⟩
      rw [← hs2] at hB2
      refine lv_aload_n hx hb dX4_type_53 rfl (lv_at hl 0 rfl) ?_
      refine lv_dup hx hb dX4_type_54 rfl ?_
      refine g_get (C := RX4) (T := TX4) (N := 26) (ci := 4) (fs := [.int (σ2 30 0), .int (σ2 0 0), .int (nI (ν 1 0)), .ref (ad 6 0), .ref (ad 7 0), .ref (ad 8 0), .ref (ad 9 0), .int (σ2 1 0), .int (σ2 2 0), .int (σ2 3 0), .int (σ2 31 0), .int (σ2 32 0), .int (nI (ν 0 0)), .ref (ad 18 0), .ref (ad 17 0), .ref (ad 16 0), .ref (ad 10 0), .ref (ad 11 0), .ref (ad 12 0), .ref (ad 13 0), .ref (ad 14 0), .ref (ad 15 0), .int (nI (ν 6 0)), .ref (ad 34 0), .ref (ad 35 0), .ref (ad 36 0)]) hx hb hts inX4 hown hK (hB2 0 0 Nat.zero_lt_one) rfl 2 (by decide) lk86 rfl rfl dX4_type_55 ?_
      refine lv_iconst (v := 1) hx hb dX4_type_58 (by decide) ?_
      refine lv_iadd hx hb dX4_type_59 ?_
      refine lv_topi (fun y1 ey1 => ?_)
      obtain rfl : y1 = nI (ν 1 0 + 1) := ey1.trans (nI_1 _)
      refine g_put (C := RX4) (T := TX4) (N := 26) (ci := 4) (fs := [.int (σ2 30 0), .int (σ2 0 0), .int (nI (ν 1 0)), .ref (ad 6 0), .ref (ad 7 0), .ref (ad 8 0), .ref (ad 9 0), .int (σ2 1 0), .int (σ2 2 0), .int (σ2 3 0), .int (σ2 31 0), .int (σ2 32 0), .int (nI (ν 0 0)), .ref (ad 18 0), .ref (ad 17 0), .ref (ad 16 0), .ref (ad 10 0), .ref (ad 11 0), .ref (ad 12 0), .ref (ad 13 0), .ref (ad 14 0), .ref (ad 15 0), .int (nI (ν 6 0)), .ref (ad 34 0), .ref (ad 35 0), .ref (ad 36 0)]) (A := (wA cM ad s.heap.size)) hx hb hts inX4 tyX4 tyX4_ok nmX4 hown hK (hB2 0 0 Nat.zero_lt_one) rfl hS2 (wA.in (k := 0) (i := 0) Nat.zero_lt_one) 2 (by decide) lk86 rfl rfl rfl rfl (Nat.le_of_ble_eq_true rfl) dX4_type_60 (fun H3 locs3 hc3 hu3 hS3 => ?_)
      have hB3 : MW D cy ad σ2 (up2 ν 1 0 (ν 1 0 + 1)) H3 := hB2.nc hJ (by decide) hc3 hu3
      obtain ⟨ν3, hs3⟩ : ∃ z : NT, z = up2 ν 1 0 (ν 1 0 + 1) := ⟨_, rfl⟩
      rw [← hs3] at hB3
      refine lv_aload_n hx hb dX4_type_63 rfl (lv_at hl 0 rfl) ?_
      refine g_get (C := RX4) (T := TX4) (N := 26) (ci := 4) (fs := [.int (σ2 30 0), .int (σ2 0 0), .int (nI (ν3 1 0)), .ref (ad 6 0), .ref (ad 7 0), .ref (ad 8 0), .ref (ad 9 0), .int (σ2 1 0), .int (σ2 2 0), .int (σ2 3 0), .int (σ2 31 0), .int (σ2 32 0), .int (nI (ν3 0 0)), .ref (ad 18 0), .ref (ad 17 0), .ref (ad 16 0), .ref (ad 10 0), .ref (ad 11 0), .ref (ad 12 0), .ref (ad 13 0), .ref (ad 14 0), .ref (ad 15 0), .int (nI (ν3 6 0)), .ref (ad 34 0), .ref (ad 35 0), .ref (ad 36 0)]) hx hb hts inX4 hown hK (hB3 0 0 Nat.zero_lt_one) rfl 2 (by decide) lk86 rfl rfl dX4_type_64 ?_
      exact g_iretU hx hb hr hlocks hS3 (by rw [oType, if_pos (Or.inl c_8), if_neg (fun q => c_34 (by rw [q]; rfl))]; rw [hs3, hs2, hs1] at hB3; exact hB3) (Nat.le_refl _) (Nat.le_refl _) dX4_type_67 (by rw [oType, if_pos (Or.inl c_8), if_neg (fun q => c_34 (by rw [q]; rfl))]; rw [hs3, up2_s])
    · -- 34 f
      refine lv_aload_n hx hb dX4_type_37 rfl (lv_at hl 0 rfl) ?_
      refine lv_iconst (v := 2) hx hb dX4_type_38 (by decide) ?_
      refine g_cu1 (va_runV (As := [.int 2]) (rest := []) ⟨hx, hb, hml, hown, hts⟩ (m_X4_fails l D cy H1.size ad σ1 ν hJ (2)) (cwV 1 hts gX4_type_X4_fails rfl rfl rfl (by decide +kernel) ⟨Nat.le_of_ble_eq_true rfl, Nat.le_of_ble_eq_true rfl⟩) (g_preV (C := RX4) (B := atSz H1.size (MW D cy ad σ1 ν)) hK ⟨rfl, hB1⟩ (hB1 0 0 Nat.zero_lt_one) rfl) rfl rfl hl.1 rfl (lv_room (Nat.le_of_ble_eq_true rfl)) dX4_type_39 ⟨Nat.zero_le _, Nat.zero_le _⟩) hS1 (fun q _ h => wA.mono hS1.1 h) (fun q h => wA.mono hS1.1 h) (fun H4 locs4 hB4 hz4 hk4 hS4 => ?_)
      obtain ⟨σ4, hs4⟩ : ∃ z : IT, z = up2 σ1 30 0 2 := ⟨_, rfl⟩
      rw [← hs4] at hB4
      exact g_iretU hx hb hr hlocks hS4 (by rw [oType, if_pos (Or.inl c_8), if_pos ((nI_eq (by omega) (by decide)).mp c_34)]; rw [hs4, hs1] at hB4; exact hB4) (Nat.le_refl _) (Nat.le_refl _) dX4_type_42 (by rw [oType, if_pos (Or.inl c_8), if_pos ((nI_eq (by omega) (by decide)).mp c_34)])
  · -- 8 f
    refine lv_iload_n hx hb dX4_type_11 rfl (lv_at hl 1 rfl) ?_
    refine lv_bipush (v := 97) hx hb dX4_type_12 (by decide) ?_
    refine lv_bipush (v := 122) hx hb dX4_type_14 (by decide) ?_
    refine g_csr (va_runS (As := [.int c0, .int 97, .int 122]) (rest := []) ⟨hx, hb, hml, hown, hts⟩ (m_X4_in l D cy (c0) (97) (122)) (va_cwS 3 hts gX4_type_X4_in rfl rfl rfl (by decide +kernel) ⟨Nat.le_of_ble_eq_true rfl, Nat.le_of_ble_eq_true rfl⟩) (g_preS (B := (fun _ => True)) hK trivial) rfl rfl hl.1 rfl (lv_room (Nat.le_of_ble_eq_true rfl)) dX4_type_16 ⟨Nat.zero_le _, Nat.zero_le _⟩) ?_
    refine lv_if_ne (tgt := 28) hx hb dX4_type_19 (by decide) (fun c_19 => ?_) (fun c_19 => ?_)
    · -- 19 t
      refine lv_aload_n hx hb dX4_type_28 rfl (lv_at hl 0 rfl) ?_
      refine g_get (C := RX4) (T := TX4) (N := 26) (ci := 4) (fs := [.int (σ1 30 0), .int (σ1 0 0), .int (nI (ν 1 0)), .ref (ad 6 0), .ref (ad 7 0), .ref (ad 8 0), .ref (ad 9 0), .int (σ1 1 0), .int (σ1 2 0), .int (σ1 3 0), .int (σ1 31 0), .int (σ1 32 0), .int (nI (ν 0 0)), .ref (ad 18 0), .ref (ad 17 0), .ref (ad 16 0), .ref (ad 10 0), .ref (ad 11 0), .ref (ad 12 0), .ref (ad 13 0), .ref (ad 14 0), .ref (ad 15 0), .int (nI (ν 6 0)), .ref (ad 34 0), .ref (ad 35 0), .ref (ad 36 0)]) hx hb hts inX4 hown hK (hB1 0 0 Nat.zero_lt_one) rfl 2 (by decide) lk86 rfl rfl dX4_type_29 ?_
      refine lv_bipush (v := 30) hx hb dX4_type_32 (by decide) ?_
      refine lv_icmp_ne (tgt := 43) hx hb dX4_type_34 (by decide) (fun c_34 => ?_) (fun c_34 => ?_)
      · -- 34 t
        have l30 : ν 1 0 < 30 := Nat.lt_of_le_of_ne hl30 (fun q => c_34 (by rw [q]; rfl))
        refine lv_aload_n hx hb dX4_type_43 rfl (lv_at hl 0 rfl) ?_
        refine g_get (C := RX4) (T := TX4) (N := 26) (ci := 4) (fs := [.int (σ1 30 0), .int (σ1 0 0), .int (nI (ν 1 0)), .ref (ad 6 0), .ref (ad 7 0), .ref (ad 8 0), .ref (ad 9 0), .int (σ1 1 0), .int (σ1 2 0), .int (σ1 3 0), .int (σ1 31 0), .int (σ1 32 0), .int (nI (ν 0 0)), .ref (ad 18 0), .ref (ad 17 0), .ref (ad 16 0), .ref (ad 10 0), .ref (ad 11 0), .ref (ad 12 0), .ref (ad 13 0), .ref (ad 14 0), .ref (ad 15 0), .int (nI (ν 6 0)), .ref (ad 34 0), .ref (ad 35 0), .ref (ad 36 0)]) hx hb hts inX4 hown hK (hB1 0 0 Nat.zero_lt_one) rfl 3 (by decide) lk7 rfl rfl dX4_type_44 ?_
        refine lv_aload_n hx hb dX4_type_47 rfl (lv_at hl 0 rfl) ?_
        refine g_get (C := RX4) (T := TX4) (N := 26) (ci := 4) (fs := [.int (σ1 30 0), .int (σ1 0 0), .int (nI (ν 1 0)), .ref (ad 6 0), .ref (ad 7 0), .ref (ad 8 0), .ref (ad 9 0), .int (σ1 1 0), .int (σ1 2 0), .int (σ1 3 0), .int (σ1 31 0), .int (σ1 32 0), .int (nI (ν 0 0)), .ref (ad 18 0), .ref (ad 17 0), .ref (ad 16 0), .ref (ad 10 0), .ref (ad 11 0), .ref (ad 12 0), .ref (ad 13 0), .ref (ad 14 0), .ref (ad 15 0), .int (nI (ν 6 0)), .ref (ad 34 0), .ref (ad 35 0), .ref (ad 36 0)]) hx hb hts inX4 hown hK (hB1 0 0 Nat.zero_lt_one) rfl 2 (by decide) lk86 rfl rfl dX4_type_48 ?_
        refine lv_iload_n hx hb dX4_type_51 rfl (lv_at hl 1 rfl) ?_
        refine g_iast (f := σ1 6) (A := (wA cM ad s.heap.size)) hx hb hK (hB1 6 0 Nat.zero_lt_one) hS1 (wA.in (k := 6) (i := 0) Nat.zero_lt_one) (vp_in_nI (N := 30) (by omega) (by decide)) dX4_type_52 (fun H5 locs5 hc5 hu5 hS5 => ?_)
        have hB5 : MW D cy ad (up2 σ1 6 (ν 1 0) c0) ν H5 := hB1.sst hJ 6 Nat.zero_lt_one (by decide) (by decide) (by decide) (cl_nI (by omega)) hc5 hu5
        obtain ⟨σ5, hs5⟩ : ∃ z : IT, z = up2 σ1 6 (ν 1 0) c0 := ⟨_, rfl⟩
        rw [← hs5] at hB5
        refine lv_aload_n hx hb dX4_type_53 rfl (lv_at hl 0 rfl) ?_
        refine lv_dup hx hb dX4_type_54 rfl ?_
        refine g_get (C := RX4) (T := TX4) (N := 26) (ci := 4) (fs := [.int (σ5 30 0), .int (σ5 0 0), .int (nI (ν 1 0)), .ref (ad 6 0), .ref (ad 7 0), .ref (ad 8 0), .ref (ad 9 0), .int (σ5 1 0), .int (σ5 2 0), .int (σ5 3 0), .int (σ5 31 0), .int (σ5 32 0), .int (nI (ν 0 0)), .ref (ad 18 0), .ref (ad 17 0), .ref (ad 16 0), .ref (ad 10 0), .ref (ad 11 0), .ref (ad 12 0), .ref (ad 13 0), .ref (ad 14 0), .ref (ad 15 0), .int (nI (ν 6 0)), .ref (ad 34 0), .ref (ad 35 0), .ref (ad 36 0)]) hx hb hts inX4 hown hK (hB5 0 0 Nat.zero_lt_one) rfl 2 (by decide) lk86 rfl rfl dX4_type_55 ?_
        refine lv_iconst (v := 1) hx hb dX4_type_58 (by decide) ?_
        refine lv_iadd hx hb dX4_type_59 ?_
        refine lv_topi (fun y2 ey2 => ?_)
        obtain rfl : y2 = nI (ν 1 0 + 1) := ey2.trans (nI_1 _)
        refine g_put (C := RX4) (T := TX4) (N := 26) (ci := 4) (fs := [.int (σ5 30 0), .int (σ5 0 0), .int (nI (ν 1 0)), .ref (ad 6 0), .ref (ad 7 0), .ref (ad 8 0), .ref (ad 9 0), .int (σ5 1 0), .int (σ5 2 0), .int (σ5 3 0), .int (σ5 31 0), .int (σ5 32 0), .int (nI (ν 0 0)), .ref (ad 18 0), .ref (ad 17 0), .ref (ad 16 0), .ref (ad 10 0), .ref (ad 11 0), .ref (ad 12 0), .ref (ad 13 0), .ref (ad 14 0), .ref (ad 15 0), .int (nI (ν 6 0)), .ref (ad 34 0), .ref (ad 35 0), .ref (ad 36 0)]) (A := (wA cM ad s.heap.size)) hx hb hts inX4 tyX4 tyX4_ok nmX4 hown hK (hB5 0 0 Nat.zero_lt_one) rfl hS5 (wA.in (k := 0) (i := 0) Nat.zero_lt_one) 2 (by decide) lk86 rfl rfl rfl rfl (Nat.le_of_ble_eq_true rfl) dX4_type_60 (fun H6 locs6 hc6 hu6 hS6 => ?_)
        have hB6 : MW D cy ad σ5 (up2 ν 1 0 (ν 1 0 + 1)) H6 := hB5.nc hJ (by decide) hc6 hu6
        obtain ⟨ν6, hs6⟩ : ∃ z : NT, z = up2 ν 1 0 (ν 1 0 + 1) := ⟨_, rfl⟩
        rw [← hs6] at hB6
        refine lv_aload_n hx hb dX4_type_63 rfl (lv_at hl 0 rfl) ?_
        refine g_get (C := RX4) (T := TX4) (N := 26) (ci := 4) (fs := [.int (σ5 30 0), .int (σ5 0 0), .int (nI (ν6 1 0)), .ref (ad 6 0), .ref (ad 7 0), .ref (ad 8 0), .ref (ad 9 0), .int (σ5 1 0), .int (σ5 2 0), .int (σ5 3 0), .int (σ5 31 0), .int (σ5 32 0), .int (nI (ν6 0 0)), .ref (ad 18 0), .ref (ad 17 0), .ref (ad 16 0), .ref (ad 10 0), .ref (ad 11 0), .ref (ad 12 0), .ref (ad 13 0), .ref (ad 14 0), .ref (ad 15 0), .int (nI (ν6 6 0)), .ref (ad 34 0), .ref (ad 35 0), .ref (ad 36 0)]) hx hb hts inX4 hown hK (hB6 0 0 Nat.zero_lt_one) rfl 2 (by decide) lk86 rfl rfl dX4_type_64 ?_
        exact g_iretU hx hb hr hlocks hS6 (by rw [oType, if_pos (Or.inr (zb_n0.mp c_19)), if_neg (fun q => c_34 (by rw [q]; rfl))]; rw [hs6, hs5, hs1] at hB6; exact hB6) (Nat.le_refl _) (Nat.le_refl _) dX4_type_67 (by rw [oType, if_pos (Or.inr (zb_n0.mp c_19)), if_neg (fun q => c_34 (by rw [q]; rfl))]; rw [hs6, up2_s])
      · -- 34 f
        refine lv_aload_n hx hb dX4_type_37 rfl (lv_at hl 0 rfl) ?_
        refine lv_iconst (v := 2) hx hb dX4_type_38 (by decide) ?_
        refine g_cu1 (va_runV (As := [.int 2]) (rest := []) ⟨hx, hb, hml, hown, hts⟩ (m_X4_fails l D cy H1.size ad σ1 ν hJ (2)) (cwV 1 hts gX4_type_X4_fails rfl rfl rfl (by decide +kernel) ⟨Nat.le_of_ble_eq_true rfl, Nat.le_of_ble_eq_true rfl⟩) (g_preV (C := RX4) (B := atSz H1.size (MW D cy ad σ1 ν)) hK ⟨rfl, hB1⟩ (hB1 0 0 Nat.zero_lt_one) rfl) rfl rfl hl.1 rfl (lv_room (Nat.le_of_ble_eq_true rfl)) dX4_type_39 ⟨Nat.zero_le _, Nat.zero_le _⟩) hS1 (fun q _ h => wA.mono hS1.1 h) (fun q h => wA.mono hS1.1 h) (fun H7 locs7 hB7 hz7 hk7 hS7 => ?_)
        obtain ⟨σ7, hs7⟩ : ∃ z : IT, z = up2 σ1 30 0 2 := ⟨_, rfl⟩
        rw [← hs7] at hB7
        exact g_iretU hx hb hr hlocks hS7 (by rw [oType, if_pos (Or.inr (zb_n0.mp c_19)), if_pos ((nI_eq (by omega) (by decide)).mp c_34)]; rw [hs7, hs1] at hB7; exact hB7) (Nat.le_refl _) (Nat.le_refl _) dX4_type_42 (by rw [oType, if_pos (Or.inr (zb_n0.mp c_19)), if_pos ((nI_eq (by omega) (by decide)).mp c_34)])
    · -- 19 f
      refine lv_aload_n hx hb dX4_type_22 rfl (lv_at hl 0 rfl) ?_
      refine lv_iconst (v := 1) hx hb dX4_type_23 (by decide) ?_
      refine g_cu1 (va_runV (As := [.int 1]) (rest := []) ⟨hx, hb, hml, hown, hts⟩ (m_X4_fails l D cy H1.size ad σ1 ν hJ (1)) (cwV 1 hts gX4_type_X4_fails rfl rfl rfl (by decide +kernel) ⟨Nat.le_of_ble_eq_true rfl, Nat.le_of_ble_eq_true rfl⟩) (g_preV (C := RX4) (B := atSz H1.size (MW D cy ad σ1 ν)) hK ⟨rfl, hB1⟩ (hB1 0 0 Nat.zero_lt_one) rfl) rfl rfl hl.1 rfl (lv_room (Nat.le_of_ble_eq_true rfl)) dX4_type_24 ⟨Nat.zero_le _, Nat.zero_le _⟩) hS1 (fun q _ h => wA.mono hS1.1 h) (fun q h => wA.mono hS1.1 h) (fun H8 locs8 hB8 hz8 hk8 hS8 => ?_)
      obtain ⟨σ8, hs8⟩ : ∃ z : IT, z = up2 σ1 30 0 1 := ⟨_, rfl⟩
      rw [← hs8] at hB8
      exact g_iretU hx hb hr hlocks hS8 (by rw [oType, if_neg (fun h => h.elim c_8 (fun q => by rw [zb_0.mp c_19] at q; cases q))]; rw [hs8, hs1] at hB8; exact hB8) (Nat.le_refl _) (Nat.le_refl _) dX4_type_27 (by rw [oType, if_neg (fun h => h.elim c_8 (fun q => by rw [zb_0.mp c_19] at q; cases q))])

set_option maxHeartbeats 4000000 in
set_option maxRecDepth 100000 in
/-- model: clearAddress -/
theorem m_X4_clearAddress (l : Launch) (D : va_G) (cy : Nat → ClassId) (sz : Nat) (ad : NT) (σ : IT) (ν : NT) (hJ : wJ cM ad) : Met l yX4_clearAddress wsX4_clearAddress ({ frames := 0, cells := 0, slots := 0, locals := 0 } : Room) (va_Pc [.ref (ad 0 0)] (fun U => gK D cy U ∧ (atSz sz (MW D cy ad σ ν)) U.heap)) (uQ (some (.int (nI (ν 1 0)))) (MW D cy ad (T0 σ) (up2 ν 1 0 0)) (wA cM ad sz)) 0 0 (wA cM ad sz) := by
  refine Met.ofW (cc := cX4_clearAddress) (maxL := 2) (ret := (some .int)) (by decide) rfl ?_
  intro p e s m args below meth c s₁ B9 hml hv
  obtain ⟨rfl, hK, hsz, hB⟩ := hv
  have hx := B9.exec
  have hb := B9.bytes
  have hr := B9.returns
  have hts := atoms_spec (ws := wsX4_clearAddress) B9.pre
  have hown : s.vm.findClass RX4 = some m.cls := findClass_of_methodNamed B9.named
  have hlocks := B9.notSynchronized
  subst hsz
  have hS : va_S (wA cM ad s.heap.size) s.heap s.heap [] := va_S.rf
  have lk69 := hts (.fieldLink RX4 69 "PolitecrawlModel" "thrown" "I") (by decide +kernel)
  have inX4 : ∀ w ∈ u_ws RX4 TX4 26, w ∈ wsX4_clearAddress := by decide +kernel
  have lk86 := hts (.fieldLink RX4 86 "PolitecrawlModel" "length" "I") (by decide +kernel)
  have hl := lv_entry ([.ref (ad 0 0)]) (n := 2) (Nat.le_of_ble_eq_true rfl)
  rw [lg_entry_eq]
  generalize (lg_sl ([.ref (ad 0 0)]) ++ List.replicate (2 - (lg_sl ([.ref (ad 0 0)])).length) Slot.unset).toArray = ls at hl ⊢
  have hl : lv_has ls 2 [(0, .ref (ad 0 0))] := hl
  refine lv_aload_n hx hb dX4_clearAddress_0 rfl (lv_at hl 0 rfl) ?_
  refine lv_iconst (v := 0) hx hb dX4_clearAddress_1 (by decide) ?_
  refine g_put (C := RX4) (T := TX4) (N := 26) (ci := 4) (fs := [.int (σ 30 0), .int (σ 0 0), .int (nI (ν 1 0)), .ref (ad 6 0), .ref (ad 7 0), .ref (ad 8 0), .ref (ad 9 0), .int (σ 1 0), .int (σ 2 0), .int (σ 3 0), .int (σ 31 0), .int (σ 32 0), .int (nI (ν 0 0)), .ref (ad 18 0), .ref (ad 17 0), .ref (ad 16 0), .ref (ad 10 0), .ref (ad 11 0), .ref (ad 12 0), .ref (ad 13 0), .ref (ad 14 0), .ref (ad 15 0), .int (nI (ν 6 0)), .ref (ad 34 0), .ref (ad 35 0), .ref (ad 36 0)]) (A := (wA cM ad s.heap.size)) hx hb hts inX4 tyX4 tyX4_ok nmX4 hown hK (hB 0 0 Nat.zero_lt_one) rfl hS (wA.in (k := 0) (i := 0) Nat.zero_lt_one) 0 (by decide) lk69 rfl rfl rfl rfl (Nat.le_of_ble_eq_true rfl) dX4_clearAddress_2 (fun H1 locs1 hc1 hu1 hS1 => ?_)
  have hB1 : MW D cy ad (up2 σ 30 0 0) ν H1 := hB.sc hJ (by decide) hc1 hu1
  obtain ⟨σ1, hs1⟩ : ∃ z : IT, z = up2 σ 30 0 0 := ⟨_, rfl⟩
  rw [← hs1] at hB1
  refine lv_aload_n hx hb dX4_clearAddress_5 rfl (lv_at hl 0 rfl) ?_
  refine g_get (C := RX4) (T := TX4) (N := 26) (ci := 4) (fs := [.int (σ1 30 0), .int (σ1 0 0), .int (nI (ν 1 0)), .ref (ad 6 0), .ref (ad 7 0), .ref (ad 8 0), .ref (ad 9 0), .int (σ1 1 0), .int (σ1 2 0), .int (σ1 3 0), .int (σ1 31 0), .int (σ1 32 0), .int (nI (ν 0 0)), .ref (ad 18 0), .ref (ad 17 0), .ref (ad 16 0), .ref (ad 10 0), .ref (ad 11 0), .ref (ad 12 0), .ref (ad 13 0), .ref (ad 14 0), .ref (ad 15 0), .int (nI (ν 6 0)), .ref (ad 34 0), .ref (ad 35 0), .ref (ad 36 0)]) hx hb hts inX4 hown hK (hB1 0 0 Nat.zero_lt_one) rfl 2 (by decide) lk86 rfl rfl dX4_clearAddress_6 ?_
  refine lv_istore_n (lv' := [(1, .int (nI (ν 1 0))), (0, .ref (ad 0 0))]) hx hb dX4_clearAddress_9 rfl hl (by decide) rfl (fun ls hl => ?_)
  refine lv_aload_n hx hb dX4_clearAddress_10 rfl (lv_at hl 1 rfl) ?_
  refine lv_iconst (v := 0) hx hb dX4_clearAddress_11 (by decide) ?_
  refine lv_topi (fun y1 ey1 => ?_)
  obtain rfl : y1 = nI 0 := ey1.trans (nI_0.symm)
  refine g_put (C := RX4) (T := TX4) (N := 26) (ci := 4) (fs := [.int (σ1 30 0), .int (σ1 0 0), .int (nI (ν 1 0)), .ref (ad 6 0), .ref (ad 7 0), .ref (ad 8 0), .ref (ad 9 0), .int (σ1 1 0), .int (σ1 2 0), .int (σ1 3 0), .int (σ1 31 0), .int (σ1 32 0), .int (nI (ν 0 0)), .ref (ad 18 0), .ref (ad 17 0), .ref (ad 16 0), .ref (ad 10 0), .ref (ad 11 0), .ref (ad 12 0), .ref (ad 13 0), .ref (ad 14 0), .ref (ad 15 0), .int (nI (ν 6 0)), .ref (ad 34 0), .ref (ad 35 0), .ref (ad 36 0)]) (A := (wA cM ad s.heap.size)) hx hb hts inX4 tyX4 tyX4_ok nmX4 hown hK (hB1 0 0 Nat.zero_lt_one) rfl hS1 (wA.in (k := 0) (i := 0) Nat.zero_lt_one) 2 (by decide) lk86 rfl rfl rfl rfl (Nat.le_of_ble_eq_true rfl) dX4_clearAddress_12 (fun H2 locs2 hc2 hu2 hS2 => ?_)
  have hB2 : MW D cy ad σ1 (up2 ν 1 0 0) H2 := hB1.nc hJ (by decide) hc2 hu2
  obtain ⟨ν2, hs2⟩ : ∃ z : NT, z = up2 ν 1 0 0 := ⟨_, rfl⟩
  rw [← hs2] at hB2
  refine lv_iload_n hx hb dX4_clearAddress_15 rfl (lv_at hl 0 rfl) ?_
  exact g_iretU hx hb hr hlocks hS2 (by rw [hs2, hs1] at hB2; exact hB2) (Nat.le_refl _) (Nat.le_refl _) dX4_clearAddress_16 rfl

set_option maxHeartbeats 4000000 in
set_option maxRecDepth 100000 in
/-- model: segments -/
theorem m_X4_segments (l : Launch) (D : va_G) (cy : Nat → ClassId) (sz : Nat) (ad : NT) (σ : IT) (ν : NT) (hJ : wJ cM ad) (hl30 : ν 1 0 ≤ 30) : Met l yX4_segments wsX4_segments ({ frames := 1, cells := 0, slots := 0, locals := 30 } : Room) (va_Pc [.ref (ad 0 0)] (fun U => gK D cy U ∧ (atSz sz (MW D cy ad σ ν)) U.heap)) (uQ (some (.int (nI (layN (σ 6) ν (ν 1 0) 6 0)))) (MW D cy ad (T0 σ) (layN (σ 6) ν (ν 1 0))) (wA cM ad sz)) 0 0 (wA cM ad sz) := by
  refine Met.ofW (cc := cX4_segments) (maxL := 1) (ret := (some .int)) (by decide) rfl ?_
  intro p e s m args below meth c s₁ B9 hml hv
  obtain ⟨rfl, hK, hsz, hB⟩ := hv
  have hx := B9.exec
  have hb := B9.bytes
  have hr := B9.returns
  have hts := atoms_spec (ws := wsX4_segments) B9.pre
  have hown : s.vm.findClass RX4 = some m.cls := findClass_of_methodNamed B9.named
  have hlocks := B9.notSynchronized
  subst hsz
  have hS : va_S (wA cM ad s.heap.size) s.heap s.heap [] := va_S.rf
  have lk69 := hts (.fieldLink RX4 69 "PolitecrawlModel" "thrown" "I") (by decide +kernel)
  have inX4 : ∀ w ∈ u_ws RX4 TX4 26, w ∈ wsX4_segments := by decide +kernel
  have lk83 := hts (.fieldLink RX4 83 "PolitecrawlModel" "segments" "I") (by decide +kernel)
  have hl := lv_entry ([.ref (ad 0 0)]) (n := 1) (Nat.le_of_ble_eq_true rfl)
  rw [lg_entry_eq]
  generalize (lg_sl ([.ref (ad 0 0)]) ++ List.replicate (1 - (lg_sl ([.ref (ad 0 0)])).length) Slot.unset).toArray = ls at hl ⊢
  have hl : lv_has ls 1 [(0, .ref (ad 0 0))] := hl
  refine lv_aload_n hx hb dX4_segments_0 rfl (lv_at hl 0 rfl) ?_
  refine lv_iconst (v := 0) hx hb dX4_segments_1 (by decide) ?_
  refine g_put (C := RX4) (T := TX4) (N := 26) (ci := 4) (fs := [.int (σ 30 0), .int (σ 0 0), .int (nI (ν 1 0)), .ref (ad 6 0), .ref (ad 7 0), .ref (ad 8 0), .ref (ad 9 0), .int (σ 1 0), .int (σ 2 0), .int (σ 3 0), .int (σ 31 0), .int (σ 32 0), .int (nI (ν 0 0)), .ref (ad 18 0), .ref (ad 17 0), .ref (ad 16 0), .ref (ad 10 0), .ref (ad 11 0), .ref (ad 12 0), .ref (ad 13 0), .ref (ad 14 0), .ref (ad 15 0), .int (nI (ν 6 0)), .ref (ad 34 0), .ref (ad 35 0), .ref (ad 36 0)]) (A := (wA cM ad s.heap.size)) hx hb hts inX4 tyX4 tyX4_ok nmX4 hown hK (hB 0 0 Nat.zero_lt_one) rfl hS (wA.in (k := 0) (i := 0) Nat.zero_lt_one) 0 (by decide) lk69 rfl rfl rfl rfl (Nat.le_of_ble_eq_true rfl) dX4_segments_2 (fun H1 locs1 hc1 hu1 hS1 => ?_)
  have hB1 : MW D cy ad (up2 σ 30 0 0) ν H1 := hB.sc hJ (by decide) hc1 hu1
  obtain ⟨σ1, hs1⟩ : ∃ z : IT, z = up2 σ 30 0 0 := ⟨_, rfl⟩
  rw [← hs1] at hB1
  refine lv_aload_n hx hb dX4_segments_5 rfl (lv_at hl 0 rfl) ?_
  refine g_cu0 (va_runV (As := []) (rest := []) ⟨hx, hb, hml, hown, hts⟩ (m_X4_laySegments l D cy H1.size ad σ1 ν hJ hl30) (cwV 0 hts gX4_segments_X4_laySegments rfl rfl rfl (by decide +kernel) ⟨Nat.le_of_ble_eq_true rfl, Nat.le_of_ble_eq_true rfl⟩) (g_preV (C := RX4) (B := atSz H1.size (MW D cy ad σ1 ν)) hK ⟨rfl, hB1⟩ (hB1 0 0 Nat.zero_lt_one) rfl) rfl rfl hl.1 rfl (lv_room (Nat.le_of_ble_eq_true rfl)) dX4_segments_6 ⟨Nat.zero_le _, Nat.zero_le _⟩) hS1 (fun q _ h => wA.mono hS1.1 h) (fun q h => wA.mono hS1.1 h) (fun H2 locs2 hB2 hz2 hk2 hS2 => ?_)
  obtain ⟨ν2, hv2⟩ : ∃ z : NT, z = layN (σ1 6) ν (ν 1 0) := ⟨_, rfl⟩
  rw [← hv2] at hB2
  refine lv_aload_n hx hb dX4_segments_9 rfl (lv_at hl 0 rfl) ?_
  refine g_get (C := RX4) (T := TX4) (N := 26) (ci := 4) (fs := [.int (σ1 30 0), .int (σ1 0 0), .int (nI (ν2 1 0)), .ref (ad 6 0), .ref (ad 7 0), .ref (ad 8 0), .ref (ad 9 0), .int (σ1 1 0), .int (σ1 2 0), .int (σ1 3 0), .int (σ1 31 0), .int (σ1 32 0), .int (nI (ν2 0 0)), .ref (ad 18 0), .ref (ad 17 0), .ref (ad 16 0), .ref (ad 10 0), .ref (ad 11 0), .ref (ad 12 0), .ref (ad 13 0), .ref (ad 14 0), .ref (ad 15 0), .int (nI (ν2 6 0)), .ref (ad 34 0), .ref (ad 35 0), .ref (ad 36 0)]) hx hb hts inX4 hown hK (hB2 0 0 Nat.zero_lt_one) rfl 22 (by decide) lk83 rfl rfl dX4_segments_10 ?_
  exact g_iretU hx hb hr hlocks hS2 (by rw [hv2, hs1] at hB2; exact hB2) (Nat.le_refl _) (Nat.le_refl _) dX4_segments_13 (by rw [hv2, hs1]; rfl)

set_option maxHeartbeats 4000000 in
set_option maxRecDepth 100000 in
/-- model: isTrap -/
theorem m_X4_isTrap (l : Launch) (D : va_G) (cy : Nat → ClassId) (sz : Nat) (ad : NT) (σ : IT) (ν : NT) (hJ : wJ cM ad) (hl30 : ν 1 0 ≤ 30) : Met l yX4_isTrap wsX4_isTrap ({ frames := 2, cells := 0, slots := 0, locals := 60 } : Room) (va_Pc [.ref (ad 0 0)] (fun U => gK D cy U ∧ (atSz sz (MW D cy ad σ ν)) U.heap)) (uQ (some (.int (zb (repM (T0 σ) ν)))) (MW D cy ad (T0 σ) (layN (σ 6) ν (ν 1 0))) (wA cM ad sz)) 0 0 (wA cM ad sz) := by
  refine Met.ofW (cc := cX4_isTrap) (maxL := 1) (ret := (some .boolean)) (by decide) rfl ?_
  intro p e s m args below meth c s₁ B9 hml hv
  obtain ⟨rfl, hK, hsz, hB⟩ := hv
  have hx := B9.exec
  have hb := B9.bytes
  have hr := B9.returns
  have hts := atoms_spec (ws := wsX4_isTrap) B9.pre
  have hown : s.vm.findClass RX4 = some m.cls := findClass_of_methodNamed B9.named
  have hlocks := B9.notSynchronized
  subst hsz
  have hS : va_S (wA cM ad s.heap.size) s.heap s.heap [] := va_S.rf
  have lk69 := hts (.fieldLink RX4 69 "PolitecrawlModel" "thrown" "I") (by decide +kernel)
  have inX4 : ∀ w ∈ u_ws RX4 TX4 26, w ∈ wsX4_isTrap := by decide +kernel
  have hl := lv_entry ([.ref (ad 0 0)]) (n := 1) (Nat.le_of_ble_eq_true rfl)
  rw [lg_entry_eq]
  generalize (lg_sl ([.ref (ad 0 0)]) ++ List.replicate (1 - (lg_sl ([.ref (ad 0 0)])).length) Slot.unset).toArray = ls at hl ⊢
  have hl : lv_has ls 1 [(0, .ref (ad 0 0))] := hl
  refine lv_aload_n hx hb dX4_isTrap_0 rfl (lv_at hl 0 rfl) ?_
  refine lv_iconst (v := 0) hx hb dX4_isTrap_1 (by decide) ?_
  refine g_put (C := RX4) (T := TX4) (N := 26) (ci := 4) (fs := [.int (σ 30 0), .int (σ 0 0), .int (nI (ν 1 0)), .ref (ad 6 0), .ref (ad 7 0), .ref (ad 8 0), .ref (ad 9 0), .int (σ 1 0), .int (σ 2 0), .int (σ 3 0), .int (σ 31 0), .int (σ 32 0), .int (nI (ν 0 0)), .ref (ad 18 0), .ref (ad 17 0), .ref (ad 16 0), .ref (ad 10 0), .ref (ad 11 0), .ref (ad 12 0), .ref (ad 13 0), .ref (ad 14 0), .ref (ad 15 0), .int (nI (ν 6 0)), .ref (ad 34 0), .ref (ad 35 0), .ref (ad 36 0)]) (A := (wA cM ad s.heap.size)) hx hb hts inX4 tyX4 tyX4_ok nmX4 hown hK (hB 0 0 Nat.zero_lt_one) rfl hS (wA.in (k := 0) (i := 0) Nat.zero_lt_one) 0 (by decide) lk69 rfl rfl rfl rfl (Nat.le_of_ble_eq_true rfl) dX4_isTrap_2 (fun H1 locs1 hc1 hu1 hS1 => ?_)
  have hB1 : MW D cy ad (up2 σ 30 0 0) ν H1 := hB.sc hJ (by decide) hc1 hu1
  obtain ⟨σ1, hs1⟩ : ∃ z : IT, z = up2 σ 30 0 0 := ⟨_, rfl⟩
  rw [← hs1] at hB1
  refine lv_aload_n hx hb dX4_isTrap_5 rfl (lv_at hl 0 rfl) ?_
  refine g_cu1 (va_runV (As := []) (rest := []) ⟨hx, hb, hml, hown, hts⟩ (m_X4_repeats l D cy H1.size ad σ1 ν hJ hl30) (cwV 0 hts gX4_isTrap_X4_repeats rfl rfl rfl (by decide +kernel) ⟨Nat.le_of_ble_eq_true rfl, Nat.le_of_ble_eq_true rfl⟩) (g_preV (C := RX4) (B := atSz H1.size (MW D cy ad σ1 ν)) hK ⟨rfl, hB1⟩ (hB1 0 0 Nat.zero_lt_one) rfl) rfl rfl hl.1 rfl (lv_room (Nat.le_of_ble_eq_true rfl)) dX4_isTrap_6 ⟨Nat.zero_le _, Nat.zero_le _⟩) hS1 (fun q _ h => wA.mono hS1.1 h) (fun q h => wA.mono hS1.1 h) (fun H2 locs2 hB2 hz2 hk2 hS2 => ?_)
  obtain ⟨ν2, hv2⟩ : ∃ z : NT, z = layN (σ1 6) ν (ν 1 0) := ⟨_, rfl⟩
  rw [← hv2] at hB2
  exact g_zretU hx hb hr hlocks (by cases repM σ1 ν <;> rfl) hS2 (by rw [hv2, hs1] at hB2; exact hB2) (Nat.le_refl _) (Nat.le_refl _) dX4_isTrap_9 (by rw [hs1])

set_option maxHeartbeats 4000000 in
set_option maxRecDepth 100000 in
/-- model: setRest -/
theorem m_X4_setRest (l : Launch) (D : va_G) (cy : Nat → ClassId) (sz : Nat) (ad : NT) (σ : IT) (ν : NT) (hJ : wJ cM ad) (h r : Int32) : Met l yX4_setRest wsX4_setRest ({ frames := 2, cells := 0, slots := 0, locals := 60 } : Room) (va_Pc [.ref (ad 0 0), .int h, .int r] (fun U => gK D cy U ∧ (atSz sz (MW D cy ad σ ν)) U.heap)) (uQ (some (.int (oSetRest σ h r).1)) (MW D cy ad (oSetRest σ h r).2 ν) (wA cM ad sz)) 0 0 (wA cM ad sz) := by
  refine Met.ofW (cc := cX4_setRest) (maxL := 4) (ret := (some .int)) (by decide) rfl ?_
  intro p e s m args below meth c s₁ B9 hml hv
  obtain ⟨rfl, hK, hsz, hB⟩ := hv
  have hx := B9.exec
  have hb := B9.bytes
  have hr := B9.returns
  have hts := atoms_spec (ws := wsX4_setRest) B9.pre
  have hown : s.vm.findClass RX4 = some m.cls := findClass_of_methodNamed B9.named
  have hlocks := B9.notSynchronized
  subst hsz
  have hS : va_S (wA cM ad s.heap.size) s.heap s.heap [] := va_S.rf
  have lk69 := hts (.fieldLink RX4 69 "PolitecrawlModel" "thrown" "I") (by decide +kernel)
  have inX4 : ∀ w ∈ u_ws RX4 TX4 26, w ∈ wsX4_setRest := by decide +kernel
  have lk13 := hts (.fieldLink RX4 13 "PolitecrawlModel" "rest" "[I") (by decide +kernel)
  have hl := lv_entry ([.ref (ad 0 0), .int h, .int r]) (n := 4) (Nat.le_of_ble_eq_true rfl)
  rw [lg_entry_eq]
  generalize (lg_sl ([.ref (ad 0 0), .int h, .int r]) ++ List.replicate (4 - (lg_sl ([.ref (ad 0 0), .int h, .int r])).length) Slot.unset).toArray = ls at hl ⊢
  have hl : lv_has ls 4 [(0, .ref (ad 0 0)), (1, .int h), (2, .int r)] := hl
  refine lv_aload_n hx hb dX4_setRest_0 rfl (lv_at hl 0 rfl) ?_
  refine lv_iconst (v := 0) hx hb dX4_setRest_1 (by decide) ?_
  refine g_put (C := RX4) (T := TX4) (N := 26) (ci := 4) (fs := [.int (σ 30 0), .int (σ 0 0), .int (nI (ν 1 0)), .ref (ad 6 0), .ref (ad 7 0), .ref (ad 8 0), .ref (ad 9 0), .int (σ 1 0), .int (σ 2 0), .int (σ 3 0), .int (σ 31 0), .int (σ 32 0), .int (nI (ν 0 0)), .ref (ad 18 0), .ref (ad 17 0), .ref (ad 16 0), .ref (ad 10 0), .ref (ad 11 0), .ref (ad 12 0), .ref (ad 13 0), .ref (ad 14 0), .ref (ad 15 0), .int (nI (ν 6 0)), .ref (ad 34 0), .ref (ad 35 0), .ref (ad 36 0)]) (A := (wA cM ad s.heap.size)) hx hb hts inX4 tyX4 tyX4_ok nmX4 hown hK (hB 0 0 Nat.zero_lt_one) rfl hS (wA.in (k := 0) (i := 0) Nat.zero_lt_one) 0 (by decide) lk69 rfl rfl rfl rfl (Nat.le_of_ble_eq_true rfl) dX4_setRest_2 (fun H1 locs1 hc1 hu1 hS1 => ?_)
  have hB1 : MW D cy ad (up2 σ 30 0 0) ν H1 := hB.sc hJ (by decide) hc1 hu1
  obtain ⟨σ1, hs1⟩ : ∃ z : IT, z = up2 σ 30 0 0 := ⟨_, rfl⟩
  rw [← hs1] at hB1
  refine lv_iload_n hx hb dX4_setRest_5 rfl (lv_at hl 1 rfl) ?_
  refine g_csr (va_runS (As := [.int h]) (rest := []) ⟨hx, hb, hml, hown, hts⟩ (m_X4_isHost l D cy (h)) (va_cwS 1 hts gX4_setRest_X4_isHost rfl rfl rfl (by decide +kernel) ⟨Nat.le_of_ble_eq_true rfl, Nat.le_of_ble_eq_true rfl⟩) (g_preS (B := (fun _ => True)) hK trivial) rfl rfl hl.1 rfl (lv_room (Nat.le_of_ble_eq_true rfl)) dX4_setRest_6 ⟨Nat.zero_le _, Nat.zero_le _⟩) ?_
  refine lv_if_ne (tgt := 18) hx hb dX4_setRest_9 (by decide) (fun c_9 => ?_) (fun c_9 => ?_)
  · -- 9 t
    refine lv_iload_n hx hb dX4_setRest_18 rfl (lv_at hl 2 rfl) ?_
    refine lv_iconst (v := 1) hx hb dX4_setRest_19 (by decide) ?_
    refine lv_bipush (v := 100) hx hb dX4_setRest_20 (by decide) ?_
    refine g_csr (va_runS (As := [.int r, .int 1, .int 100]) (rest := []) ⟨hx, hb, hml, hown, hts⟩ (m_X4_in l D cy (r) (1) (100)) (va_cwS 3 hts gX4_setRest_X4_in rfl rfl rfl (by decide +kernel) ⟨Nat.le_of_ble_eq_true rfl, Nat.le_of_ble_eq_true rfl⟩) (g_preS (B := (fun _ => True)) hK trivial) rfl rfl hl.1 rfl (lv_room (Nat.le_of_ble_eq_true rfl)) dX4_setRest_22 ⟨Nat.zero_le _, Nat.zero_le _⟩) ?_
    refine lv_if_ne (tgt := 34) hx hb dX4_setRest_25 (by decide) (fun c_25 => ?_) (fun c_25 => ?_)
    · -- 25 t
      obtain ⟨q0, hq0, eh⟩ := idx_host (zb_n0.mp c_9)
      have ec : h.toNatClampNeg = q0 := by rw [eh, cl_nI (by omega)]
      refine lv_aload_n hx hb dX4_setRest_34 rfl (lv_at hl 0 rfl) ?_
      refine g_get (C := RX4) (T := TX4) (N := 26) (ci := 4) (fs := [.int (σ1 30 0), .int (σ1 0 0), .int (nI (ν 1 0)), .ref (ad 6 0), .ref (ad 7 0), .ref (ad 8 0), .ref (ad 9 0), .int (σ1 1 0), .int (σ1 2 0), .int (σ1 3 0), .int (σ1 31 0), .int (σ1 32 0), .int (nI (ν 0 0)), .ref (ad 18 0), .ref (ad 17 0), .ref (ad 16 0), .ref (ad 10 0), .ref (ad 11 0), .ref (ad 12 0), .ref (ad 13 0), .ref (ad 14 0), .ref (ad 15 0), .int (nI (ν 6 0)), .ref (ad 34 0), .ref (ad 35 0), .ref (ad 36 0)]) hx hb hts inX4 hown hK (hB1 0 0 Nat.zero_lt_one) rfl 4 (by decide) lk13 rfl rfl dX4_setRest_35 ?_
      refine lv_iload_n hx hb dX4_setRest_38 rfl (lv_at hl 1 rfl) ?_
      refine lv_topi (fun y1 ey1 => ?_)
      obtain rfl : y1 = nI q0 := ey1.trans (eh)
      refine g_iald (f := σ1 7) (x := σ1 7 q0) hx hb hK (hB1 7 0 Nat.zero_lt_one) (vp_in_nI (N := 6) (by omega) (by decide)) (by rw [cl_nI (by omega)]) dX4_setRest_39 ?_
      refine lv_istore_n (lv' := [(3, .int (σ1 7 q0)), (0, .ref (ad 0 0)), (1, .int h), (2, .int r)]) hx hb dX4_setRest_40 rfl hl (by decide) rfl (fun ls hl => ?_)
      refine lv_aload_n hx hb dX4_setRest_41 rfl (lv_at hl 1 rfl) ?_
      refine g_get (C := RX4) (T := TX4) (N := 26) (ci := 4) (fs := [.int (σ1 30 0), .int (σ1 0 0), .int (nI (ν 1 0)), .ref (ad 6 0), .ref (ad 7 0), .ref (ad 8 0), .ref (ad 9 0), .int (σ1 1 0), .int (σ1 2 0), .int (σ1 3 0), .int (σ1 31 0), .int (σ1 32 0), .int (nI (ν 0 0)), .ref (ad 18 0), .ref (ad 17 0), .ref (ad 16 0), .ref (ad 10 0), .ref (ad 11 0), .ref (ad 12 0), .ref (ad 13 0), .ref (ad 14 0), .ref (ad 15 0), .int (nI (ν 6 0)), .ref (ad 34 0), .ref (ad 35 0), .ref (ad 36 0)]) hx hb hts inX4 hown hK (hB1 0 0 Nat.zero_lt_one) rfl 4 (by decide) lk13 rfl rfl dX4_setRest_42 ?_
      refine lv_iload_n hx hb dX4_setRest_45 rfl (lv_at hl 2 rfl) ?_
      refine lv_topi (fun y2 ey2 => ?_)
      obtain rfl : y2 = nI q0 := ey2.trans (eh)
      refine lv_iload_n hx hb dX4_setRest_46 rfl (lv_at hl 3 rfl) ?_
      refine g_iast (f := σ1 7) (A := (wA cM ad s.heap.size)) hx hb hK (hB1 7 0 Nat.zero_lt_one) hS1 (wA.in (k := 7) (i := 0) Nat.zero_lt_one) (vp_in_nI (N := 6) hq0 (by decide)) dX4_setRest_47 (fun H2 locs2 hc2 hu2 hS2 => ?_)
      have hB2 : MW D cy ad (up2 σ1 7 q0 r) ν H2 := hB1.sst hJ 7 Nat.zero_lt_one (by decide) (by decide) (by decide) (cl_nI (by omega)) hc2 hu2
      obtain ⟨σ2, hs2⟩ : ∃ z : IT, z = up2 σ1 7 q0 r := ⟨_, rfl⟩
      rw [← hs2] at hB2
      refine lv_iload_n hx hb dX4_setRest_48 rfl (lv_at hl 0 rfl) ?_
      exact g_iretU hx hb hr hlocks hS2 (by rw [oSetRest, if_pos (zb_n0.mp c_9), if_pos (zb_n0.mp c_25), ec]; rw [hs2, hs1] at hB2; exact hB2) (Nat.le_refl _) (Nat.le_refl _) dX4_setRest_49 (by rw [oSetRest, if_pos (zb_n0.mp c_9), if_pos (zb_n0.mp c_25), ec]; rw [hs1]; rfl)
    · -- 25 f
      refine lv_aload_n hx hb dX4_setRest_28 rfl (lv_at hl 0 rfl) ?_
      refine lv_iconst (v := 2) hx hb dX4_setRest_29 (by decide) ?_
      refine g_cu1 (va_runV (As := [.int 2]) (rest := []) ⟨hx, hb, hml, hown, hts⟩ (m_X4_fails l D cy H1.size ad σ1 ν hJ (2)) (cwV 1 hts gX4_setRest_X4_fails rfl rfl rfl (by decide +kernel) ⟨Nat.le_of_ble_eq_true rfl, Nat.le_of_ble_eq_true rfl⟩) (g_preV (C := RX4) (B := atSz H1.size (MW D cy ad σ1 ν)) hK ⟨rfl, hB1⟩ (hB1 0 0 Nat.zero_lt_one) rfl) rfl rfl hl.1 rfl (lv_room (Nat.le_of_ble_eq_true rfl)) dX4_setRest_30 ⟨Nat.zero_le _, Nat.zero_le _⟩) hS1 (fun q _ h => wA.mono hS1.1 h) (fun q h => wA.mono hS1.1 h) (fun H3 locs3 hB3 hz3 hk3 hS3 => ?_)
      obtain ⟨σ3, hs3⟩ : ∃ z : IT, z = up2 σ1 30 0 2 := ⟨_, rfl⟩
      rw [← hs3] at hB3
      exact g_iretU hx hb hr hlocks hS3 (by rw [oSetRest, if_pos (zb_n0.mp c_9), if_neg (fun q => by rw [zb_0.mp c_25] at q; cases q)]; rw [hs3, hs1] at hB3; exact hB3) (Nat.le_refl _) (Nat.le_refl _) dX4_setRest_33 (by rw [oSetRest, if_pos (zb_n0.mp c_9), if_neg (fun q => by rw [zb_0.mp c_25] at q; cases q)])
  · -- 9 f
    refine lv_aload_n hx hb dX4_setRest_12 rfl (lv_at hl 0 rfl) ?_
    refine lv_iconst (v := 1) hx hb dX4_setRest_13 (by decide) ?_
    refine g_cu1 (va_runV (As := [.int 1]) (rest := []) ⟨hx, hb, hml, hown, hts⟩ (m_X4_fails l D cy H1.size ad σ1 ν hJ (1)) (cwV 1 hts gX4_setRest_X4_fails rfl rfl rfl (by decide +kernel) ⟨Nat.le_of_ble_eq_true rfl, Nat.le_of_ble_eq_true rfl⟩) (g_preV (C := RX4) (B := atSz H1.size (MW D cy ad σ1 ν)) hK ⟨rfl, hB1⟩ (hB1 0 0 Nat.zero_lt_one) rfl) rfl rfl hl.1 rfl (lv_room (Nat.le_of_ble_eq_true rfl)) dX4_setRest_14 ⟨Nat.zero_le _, Nat.zero_le _⟩) hS1 (fun q _ h => wA.mono hS1.1 h) (fun q h => wA.mono hS1.1 h) (fun H4 locs4 hB4 hz4 hk4 hS4 => ?_)
    obtain ⟨σ4, hs4⟩ : ∃ z : IT, z = up2 σ1 30 0 1 := ⟨_, rfl⟩
    rw [← hs4] at hB4
    exact g_iretU hx hb hr hlocks hS4 (by rw [oSetRest, if_neg (fun q => by rw [zb_0.mp c_9] at q; cases q)]; rw [hs4, hs1] at hB4; exact hB4) (Nat.le_refl _) (Nat.le_refl _) dX4_setRest_17 (by rw [oSetRest, if_neg (fun q => by rw [zb_0.mp c_9] at q; cases q)])

set_option maxHeartbeats 4000000 in
set_option maxRecDepth 100000 in
/-- model: setPaces -/
theorem m_X4_setPaces (l : Launch) (D : va_G) (cy : Nat → ClassId) (sz : Nat) (ad : NT) (σ : IT) (ν : NT) (hJ : wJ cM ad) (a b : Int32) : Met l yX4_setPaces wsX4_setPaces ({ frames := 1, cells := 0, slots := 0, locals := 30 } : Room) (va_Pc [.ref (ad 0 0), .int a, .int b] (fun U => gK D cy U ∧ (atSz sz (MW D cy ad σ ν)) U.heap)) (uQ none (MW D cy ad (oSetPaces σ a b) ν) (wA cM ad sz)) 0 0 (wA cM ad sz) := by
  refine Met.ofW (cc := cX4_setPaces) (maxL := 3) (ret := none) (by decide) rfl ?_
  intro p e s m args below meth c s₁ B9 hml hv
  obtain ⟨rfl, hK, hsz, hB⟩ := hv
  have hx := B9.exec
  have hb := B9.bytes
  have hr := B9.returns
  have hts := atoms_spec (ws := wsX4_setPaces) B9.pre
  have hown : s.vm.findClass RX4 = some m.cls := findClass_of_methodNamed B9.named
  have hlocks := B9.notSynchronized
  subst hsz
  have hS : va_S (wA cM ad s.heap.size) s.heap s.heap [] := va_S.rf
  have lk69 := hts (.fieldLink RX4 69 "PolitecrawlModel" "thrown" "I") (by decide +kernel)
  have inX4 : ∀ w ∈ u_ws RX4 TX4 26, w ∈ wsX4_setPaces := by decide +kernel
  have lk22 := hts (.fieldLink RX4 22 "PolitecrawlModel" "shortest" "I") (by decide +kernel)
  have lk26 := hts (.fieldLink RX4 26 "PolitecrawlModel" "longest" "I") (by decide +kernel)
  have hl := lv_entry ([.ref (ad 0 0), .int a, .int b]) (n := 3) (Nat.le_of_ble_eq_true rfl)
  rw [lg_entry_eq]
  generalize (lg_sl ([.ref (ad 0 0), .int a, .int b]) ++ List.replicate (3 - (lg_sl ([.ref (ad 0 0), .int a, .int b])).length) Slot.unset).toArray = ls at hl ⊢
  have hl : lv_has ls 3 [(0, .ref (ad 0 0)), (1, .int a), (2, .int b)] := hl
  refine lv_aload_n hx hb dX4_setPaces_0 rfl (lv_at hl 0 rfl) ?_
  refine lv_iload_n hx hb dX4_setPaces_1 rfl (lv_at hl 1 rfl) ?_
  refine lv_iconst (v := 1) hx hb dX4_setPaces_2 (by decide) ?_
  refine lv_sipush (v := 1000) hx hb dX4_setPaces_3 (by decide) ?_
  refine g_csr (va_runS (As := [.int a, .int 1, .int 1000]) (rest := [.ref (ad 0 0)]) ⟨hx, hb, hml, hown, hts⟩ (m_X4_in l D cy (a) (1) (1000)) (va_cwS 3 hts gX4_setPaces_X4_in rfl rfl rfl (by decide +kernel) ⟨Nat.le_of_ble_eq_true rfl, Nat.le_of_ble_eq_true rfl⟩) (g_preS (B := (fun _ => True)) hK trivial) rfl rfl hl.1 rfl (lv_room (Nat.le_of_ble_eq_true rfl)) dX4_setPaces_6 ⟨Nat.zero_le _, Nat.zero_le _⟩) ?_
  have k_28 : ∀ zp : Int32, zp = pcode a b → W p l e (headSpec wsX4_setPaces ({ frames := 1, cells := 0, slots := 0, locals := 30 } : Room)).room s m ([.ref (ad 0 0), .int a, .int b] : List Value).toArray below meth c s.heap [] 0 0 (MQ below (uQ none (MW D cy ad (oSetPaces σ a b) ν) (wA cM ad s.heap.size)) ([.ref (ad 0 0), .int a, .int b] : List Value).toArray s 0 0 (wA cM ad s.heap.size)) (F0 m 28 ls [.int zp, .ref (ad 0 0)]) := by
    intro zp ezp
    refine g_put (C := RX4) (T := TX4) (N := 26) (ci := 4) (fs := [.int (σ 30 0), .int (σ 0 0), .int (nI (ν 1 0)), .ref (ad 6 0), .ref (ad 7 0), .ref (ad 8 0), .ref (ad 9 0), .int (σ 1 0), .int (σ 2 0), .int (σ 3 0), .int (σ 31 0), .int (σ 32 0), .int (nI (ν 0 0)), .ref (ad 18 0), .ref (ad 17 0), .ref (ad 16 0), .ref (ad 10 0), .ref (ad 11 0), .ref (ad 12 0), .ref (ad 13 0), .ref (ad 14 0), .ref (ad 15 0), .int (nI (ν 6 0)), .ref (ad 34 0), .ref (ad 35 0), .ref (ad 36 0)]) (A := (wA cM ad s.heap.size)) hx hb hts inX4 tyX4 tyX4_ok nmX4 hown hK (hB 0 0 Nat.zero_lt_one) rfl hS (wA.in (k := 0) (i := 0) Nat.zero_lt_one) 0 (by decide) lk69 rfl rfl rfl rfl (Nat.le_of_ble_eq_true rfl) dX4_setPaces_28 (fun H1 locs1 hc1 hu1 hS1 => ?_)
    have hB1 : MW D cy ad (up2 σ 30 0 zp) ν H1 := hB.sc hJ (by decide) hc1 hu1
    obtain ⟨σ1, hs1⟩ : ∃ z : IT, z = up2 σ 30 0 zp := ⟨_, rfl⟩
    rw [← hs1] at hB1
    refine lv_aload_n hx hb dX4_setPaces_31 rfl (lv_at hl 0 rfl) ?_
    refine g_get (C := RX4) (T := TX4) (N := 26) (ci := 4) (fs := [.int (σ1 30 0), .int (σ1 0 0), .int (nI (ν 1 0)), .ref (ad 6 0), .ref (ad 7 0), .ref (ad 8 0), .ref (ad 9 0), .int (σ1 1 0), .int (σ1 2 0), .int (σ1 3 0), .int (σ1 31 0), .int (σ1 32 0), .int (nI (ν 0 0)), .ref (ad 18 0), .ref (ad 17 0), .ref (ad 16 0), .ref (ad 10 0), .ref (ad 11 0), .ref (ad 12 0), .ref (ad 13 0), .ref (ad 14 0), .ref (ad 15 0), .int (nI (ν 6 0)), .ref (ad 34 0), .ref (ad 35 0), .ref (ad 36 0)]) hx hb hts inX4 hown hK (hB1 0 0 Nat.zero_lt_one) rfl 0 (by decide) lk69 rfl rfl dX4_setPaces_32 ?_
    refine lv_if_ne (tgt := 48) hx hb dX4_setPaces_35 (by decide) (fun c_35 => ?_) (fun c_35 => ?_)
    · -- 35 t
      exact g_vretU hx hb hr hlocks hS1 (by rw [oSetPaces, if_neg (fun q => c_35 (by rw [hs1, ezp]; exact q))]; rw [hs1, ezp] at hB1; exact hB1) (Nat.le_refl _) (Nat.le_refl _) dX4_setPaces_48
    · -- 35 f
      refine lv_aload_n hx hb dX4_setPaces_38 rfl (lv_at hl 0 rfl) ?_
      refine lv_iload_n hx hb dX4_setPaces_39 rfl (lv_at hl 1 rfl) ?_
      refine g_put (C := RX4) (T := TX4) (N := 26) (ci := 4) (fs := [.int (σ1 30 0), .int (σ1 0 0), .int (nI (ν 1 0)), .ref (ad 6 0), .ref (ad 7 0), .ref (ad 8 0), .ref (ad 9 0), .int (σ1 1 0), .int (σ1 2 0), .int (σ1 3 0), .int (σ1 31 0), .int (σ1 32 0), .int (nI (ν 0 0)), .ref (ad 18 0), .ref (ad 17 0), .ref (ad 16 0), .ref (ad 10 0), .ref (ad 11 0), .ref (ad 12 0), .ref (ad 13 0), .ref (ad 14 0), .ref (ad 15 0), .int (nI (ν 6 0)), .ref (ad 34 0), .ref (ad 35 0), .ref (ad 36 0)]) (A := (wA cM ad s.heap.size)) hx hb hts inX4 tyX4 tyX4_ok nmX4 hown hK (hB1 0 0 Nat.zero_lt_one) rfl hS1 (wA.in (k := 0) (i := 0) Nat.zero_lt_one) 7 (by decide) lk22 rfl rfl rfl rfl (Nat.le_of_ble_eq_true rfl) dX4_setPaces_40 (fun H2 locs2 hc2 hu2 hS2 => ?_)
      have hB2 : MW D cy ad (up2 σ1 1 0 a) ν H2 := hB1.sc hJ (by decide) hc2 hu2
      obtain ⟨σ2, hs2⟩ : ∃ z : IT, z = up2 σ1 1 0 a := ⟨_, rfl⟩
      rw [← hs2] at hB2
      refine lv_aload_n hx hb dX4_setPaces_43 rfl (lv_at hl 0 rfl) ?_
      refine lv_iload_n hx hb dX4_setPaces_44 rfl (lv_at hl 2 rfl) ?_
      refine g_put (C := RX4) (T := TX4) (N := 26) (ci := 4) (fs := [.int (σ2 30 0), .int (σ2 0 0), .int (nI (ν 1 0)), .ref (ad 6 0), .ref (ad 7 0), .ref (ad 8 0), .ref (ad 9 0), .int (σ2 1 0), .int (σ2 2 0), .int (σ2 3 0), .int (σ2 31 0), .int (σ2 32 0), .int (nI (ν 0 0)), .ref (ad 18 0), .ref (ad 17 0), .ref (ad 16 0), .ref (ad 10 0), .ref (ad 11 0), .ref (ad 12 0), .ref (ad 13 0), .ref (ad 14 0), .ref (ad 15 0), .int (nI (ν 6 0)), .ref (ad 34 0), .ref (ad 35 0), .ref (ad 36 0)]) (A := (wA cM ad s.heap.size)) hx hb hts inX4 tyX4 tyX4_ok nmX4 hown hK (hB2 0 0 Nat.zero_lt_one) rfl hS2 (wA.in (k := 0) (i := 0) Nat.zero_lt_one) 8 (by decide) lk26 rfl rfl rfl rfl (Nat.le_of_ble_eq_true rfl) dX4_setPaces_45 (fun H3 locs3 hc3 hu3 hS3 => ?_)
      have hB3 : MW D cy ad (up2 σ2 2 0 b) ν H3 := hB2.sc hJ (by decide) hc3 hu3
      obtain ⟨σ3, hs3⟩ : ∃ z : IT, z = up2 σ2 2 0 b := ⟨_, rfl⟩
      rw [← hs3] at hB3
      exact g_vretU hx hb hr hlocks hS3 (by rw [oSetPaces, if_pos (by rw [hs1, ezp] at c_35; exact c_35)]; rw [hs3, hs2, hs1, ezp] at hB3; exact hB3) (Nat.le_refl _) (Nat.le_refl _) dX4_setPaces_48
  refine lv_if_eq (tgt := 27) hx hb dX4_setPaces_9 (by decide) (fun c_9 => ?_) (fun c_9 => ?_)
  · -- 9 t
    refine lv_iconst (v := 1) hx hb dX4_setPaces_27 (by decide) ?_
    exact k_28 _ (by rw [pcode, zb_0.mp c_9]; rfl)
  · -- 9 f
    refine lv_iload_n hx hb dX4_setPaces_12 rfl (lv_at hl 2 rfl) ?_
    refine lv_iload_n hx hb dX4_setPaces_13 rfl (lv_at hl 1 rfl) ?_
    refine lv_sipush (v := 5000) hx hb dX4_setPaces_14 (by decide) ?_
    refine g_csr (va_runS (As := [.int b, .int a, .int 5000]) (rest := [.ref (ad 0 0)]) ⟨hx, hb, hml, hown, hts⟩ (m_X4_in l D cy (b) (a) (5000)) (va_cwS 3 hts gX4_setPaces_X4_in rfl rfl rfl (by decide +kernel) ⟨Nat.le_of_ble_eq_true rfl, Nat.le_of_ble_eq_true rfl⟩) (g_preS (B := (fun _ => True)) hK trivial) rfl rfl hl.1 rfl (lv_room (Nat.le_of_ble_eq_true rfl)) dX4_setPaces_17 ⟨Nat.zero_le _, Nat.zero_le _⟩) ?_
    refine lv_if_eq (tgt := 27) hx hb dX4_setPaces_20 (by decide) (fun c_20 => ?_) (fun c_20 => ?_)
    · -- 20 t
      refine lv_iconst (v := 1) hx hb dX4_setPaces_27 (by decide) ?_
      exact k_28 _ (by rw [pcode, zb_n0.mp c_9, zb_0.mp c_20]; rfl)
    · -- 20 f
      refine lv_iconst (v := 0) hx hb dX4_setPaces_23 (by decide) ?_
      refine lv_goto (tgt := 28) hx hb dX4_setPaces_24 (by decide) ?_
      exact k_28 _ (by rw [pcode, zb_n0.mp c_9, zb_n0.mp c_20]; rfl)

set_option maxHeartbeats 4000000 in
set_option maxRecDepth 100000 in
/-- model: setBudget -/
theorem m_X4_setBudget (l : Launch) (D : va_G) (cy : Nat → ClassId) (sz : Nat) (ad : NT) (σ : IT) (ν : NT) (hJ : wJ cM ad) (v0 : Int32) : Met l yX4_setBudget wsX4_setBudget ({ frames := 1, cells := 0, slots := 0, locals := 30 } : Room) (va_Pc [.ref (ad 0 0), .int v0] (fun U => gK D cy U ∧ (atSz sz (MW D cy ad σ ν)) U.heap)) (uQ (some (.int (oSetBudget σ v0).1)) (MW D cy ad (oSetBudget σ v0).2 ν) (wA cM ad sz)) 0 0 (wA cM ad sz) := by
  refine Met.ofW (cc := cX4_setBudget) (maxL := 3) (ret := (some .int)) (by decide) rfl ?_
  intro p e s m args below meth c s₁ B9 hml hv
  obtain ⟨rfl, hK, hsz, hB⟩ := hv
  have hx := B9.exec
  have hb := B9.bytes
  have hr := B9.returns
  have hts := atoms_spec (ws := wsX4_setBudget) B9.pre
  have hown : s.vm.findClass RX4 = some m.cls := findClass_of_methodNamed B9.named
  have hlocks := B9.notSynchronized
  subst hsz
  have hS : va_S (wA cM ad s.heap.size) s.heap s.heap [] := va_S.rf
  have lk69 := hts (.fieldLink RX4 69 "PolitecrawlModel" "thrown" "I") (by decide +kernel)
  have inX4 : ∀ w ∈ u_ws RX4 TX4 26, w ∈ wsX4_setBudget := by decide +kernel
  have lk29 := hts (.fieldLink RX4 29 "PolitecrawlModel" "budget" "I") (by decide +kernel)
  have hl := lv_entry ([.ref (ad 0 0), .int v0]) (n := 3) (Nat.le_of_ble_eq_true rfl)
  rw [lg_entry_eq]
  generalize (lg_sl ([.ref (ad 0 0), .int v0]) ++ List.replicate (3 - (lg_sl ([.ref (ad 0 0), .int v0])).length) Slot.unset).toArray = ls at hl ⊢
  have hl : lv_has ls 3 [(0, .ref (ad 0 0)), (1, .int v0)] := hl
  refine lv_aload_n hx hb dX4_setBudget_0 rfl (lv_at hl 0 rfl) ?_
  refine lv_iconst (v := 0) hx hb dX4_setBudget_1 (by decide) ?_
  refine g_put (C := RX4) (T := TX4) (N := 26) (ci := 4) (fs := [.int (σ 30 0), .int (σ 0 0), .int (nI (ν 1 0)), .ref (ad 6 0), .ref (ad 7 0), .ref (ad 8 0), .ref (ad 9 0), .int (σ 1 0), .int (σ 2 0), .int (σ 3 0), .int (σ 31 0), .int (σ 32 0), .int (nI (ν 0 0)), .ref (ad 18 0), .ref (ad 17 0), .ref (ad 16 0), .ref (ad 10 0), .ref (ad 11 0), .ref (ad 12 0), .ref (ad 13 0), .ref (ad 14 0), .ref (ad 15 0), .int (nI (ν 6 0)), .ref (ad 34 0), .ref (ad 35 0), .ref (ad 36 0)]) (A := (wA cM ad s.heap.size)) hx hb hts inX4 tyX4 tyX4_ok nmX4 hown hK (hB 0 0 Nat.zero_lt_one) rfl hS (wA.in (k := 0) (i := 0) Nat.zero_lt_one) 0 (by decide) lk69 rfl rfl rfl rfl (Nat.le_of_ble_eq_true rfl) dX4_setBudget_2 (fun H1 locs1 hc1 hu1 hS1 => ?_)
  have hB1 : MW D cy ad (up2 σ 30 0 0) ν H1 := hB.sc hJ (by decide) hc1 hu1
  obtain ⟨σ1, hs1⟩ : ∃ z : IT, z = up2 σ 30 0 0 := ⟨_, rfl⟩
  rw [← hs1] at hB1
  refine lv_iload_n hx hb dX4_setBudget_5 rfl (lv_at hl 1 rfl) ?_
  refine lv_iconst (v := 1) hx hb dX4_setBudget_6 (by decide) ?_
  refine lv_bipush (v := 100) hx hb dX4_setBudget_7 (by decide) ?_
  refine g_csr (va_runS (As := [.int v0, .int 1, .int 100]) (rest := []) ⟨hx, hb, hml, hown, hts⟩ (m_X4_in l D cy (v0) (1) (100)) (va_cwS 3 hts gX4_setBudget_X4_in rfl rfl rfl (by decide +kernel) ⟨Nat.le_of_ble_eq_true rfl, Nat.le_of_ble_eq_true rfl⟩) (g_preS (B := (fun _ => True)) hK trivial) rfl rfl hl.1 rfl (lv_room (Nat.le_of_ble_eq_true rfl)) dX4_setBudget_9 ⟨Nat.zero_le _, Nat.zero_le _⟩) ?_
  refine lv_if_ne (tgt := 21) hx hb dX4_setBudget_12 (by decide) (fun c_12 => ?_) (fun c_12 => ?_)
  · -- 12 t
    refine lv_aload_n hx hb dX4_setBudget_21 rfl (lv_at hl 0 rfl) ?_
    refine g_get (C := RX4) (T := TX4) (N := 26) (ci := 4) (fs := [.int (σ1 30 0), .int (σ1 0 0), .int (nI (ν 1 0)), .ref (ad 6 0), .ref (ad 7 0), .ref (ad 8 0), .ref (ad 9 0), .int (σ1 1 0), .int (σ1 2 0), .int (σ1 3 0), .int (σ1 31 0), .int (σ1 32 0), .int (nI (ν 0 0)), .ref (ad 18 0), .ref (ad 17 0), .ref (ad 16 0), .ref (ad 10 0), .ref (ad 11 0), .ref (ad 12 0), .ref (ad 13 0), .ref (ad 14 0), .ref (ad 15 0), .int (nI (ν 6 0)), .ref (ad 34 0), .ref (ad 35 0), .ref (ad 36 0)]) hx hb hts inX4 hown hK (hB1 0 0 Nat.zero_lt_one) rfl 9 (by decide) lk29 rfl rfl dX4_setBudget_22 ?_
    refine lv_istore_n (lv' := [(2, .int (σ1 3 0)), (0, .ref (ad 0 0)), (1, .int v0)]) hx hb dX4_setBudget_25 rfl hl (by decide) rfl (fun ls hl => ?_)
    refine lv_aload_n hx hb dX4_setBudget_26 rfl (lv_at hl 1 rfl) ?_
    refine lv_iload_n hx hb dX4_setBudget_27 rfl (lv_at hl 2 rfl) ?_
    refine g_put (C := RX4) (T := TX4) (N := 26) (ci := 4) (fs := [.int (σ1 30 0), .int (σ1 0 0), .int (nI (ν 1 0)), .ref (ad 6 0), .ref (ad 7 0), .ref (ad 8 0), .ref (ad 9 0), .int (σ1 1 0), .int (σ1 2 0), .int (σ1 3 0), .int (σ1 31 0), .int (σ1 32 0), .int (nI (ν 0 0)), .ref (ad 18 0), .ref (ad 17 0), .ref (ad 16 0), .ref (ad 10 0), .ref (ad 11 0), .ref (ad 12 0), .ref (ad 13 0), .ref (ad 14 0), .ref (ad 15 0), .int (nI (ν 6 0)), .ref (ad 34 0), .ref (ad 35 0), .ref (ad 36 0)]) (A := (wA cM ad s.heap.size)) hx hb hts inX4 tyX4 tyX4_ok nmX4 hown hK (hB1 0 0 Nat.zero_lt_one) rfl hS1 (wA.in (k := 0) (i := 0) Nat.zero_lt_one) 9 (by decide) lk29 rfl rfl rfl rfl (Nat.le_of_ble_eq_true rfl) dX4_setBudget_28 (fun H2 locs2 hc2 hu2 hS2 => ?_)
    have hB2 : MW D cy ad (up2 σ1 3 0 v0) ν H2 := hB1.sc hJ (by decide) hc2 hu2
    obtain ⟨σ2, hs2⟩ : ∃ z : IT, z = up2 σ1 3 0 v0 := ⟨_, rfl⟩
    rw [← hs2] at hB2
    refine lv_iload_n hx hb dX4_setBudget_31 rfl (lv_at hl 0 rfl) ?_
    exact g_iretU hx hb hr hlocks hS2 (by rw [oSetBudget, if_pos (zb_n0.mp c_12)]; rw [hs2, hs1] at hB2; exact hB2) (Nat.le_refl _) (Nat.le_refl _) dX4_setBudget_32 (by rw [oSetBudget, if_pos (zb_n0.mp c_12)]; rw [hs1]; rfl)
  · -- 12 f
    refine lv_aload_n hx hb dX4_setBudget_15 rfl (lv_at hl 0 rfl) ?_
    refine lv_iconst (v := 1) hx hb dX4_setBudget_16 (by decide) ?_
    refine g_cu1 (va_runV (As := [.int 1]) (rest := []) ⟨hx, hb, hml, hown, hts⟩ (m_X4_fails l D cy H1.size ad σ1 ν hJ (1)) (cwV 1 hts gX4_setBudget_X4_fails rfl rfl rfl (by decide +kernel) ⟨Nat.le_of_ble_eq_true rfl, Nat.le_of_ble_eq_true rfl⟩) (g_preV (C := RX4) (B := atSz H1.size (MW D cy ad σ1 ν)) hK ⟨rfl, hB1⟩ (hB1 0 0 Nat.zero_lt_one) rfl) rfl rfl hl.1 rfl (lv_room (Nat.le_of_ble_eq_true rfl)) dX4_setBudget_17 ⟨Nat.zero_le _, Nat.zero_le _⟩) hS1 (fun q _ h => wA.mono hS1.1 h) (fun q h => wA.mono hS1.1 h) (fun H3 locs3 hB3 hz3 hk3 hS3 => ?_)
    obtain ⟨σ3, hs3⟩ : ∃ z : IT, z = up2 σ1 30 0 1 := ⟨_, rfl⟩
    rw [← hs3] at hB3
    exact g_iretU hx hb hr hlocks hS3 (by rw [oSetBudget, if_neg (fun q => by rw [zb_0.mp c_12] at q; cases q)]; rw [hs3, hs1] at hB3; exact hB3) (Nat.le_refl _) (Nat.le_refl _) dX4_setBudget_20 (by rw [oSetBudget, if_neg (fun q => by rw [zb_0.mp c_12] at q; cases q)])

set_option maxHeartbeats 4000000 in
set_option maxRecDepth 100000 in
/-- model: failures -/
theorem m_X4_failures (l : Launch) (D : va_G) (cy : Nat → ClassId) (sz : Nat) (ad : NT) (σ : IT) (ν : NT) (hJ : wJ cM ad) (h : Int32) : Met l yX4_failures wsX4_failures ({ frames := 2, cells := 0, slots := 0, locals := 60 } : Room) (va_Pc [.ref (ad 0 0), .int h] (fun U => gK D cy U ∧ (atSz sz (MW D cy ad σ ν)) U.heap)) (uQ (some (.int (oHostQ σ 8 h).1)) (MW D cy ad (oHostQ σ 8 h).2 ν) (wA cM ad sz)) 0 0 (wA cM ad sz) := by
  refine Met.ofW (cc := cX4_failures) (maxL := 2) (ret := (some .int)) (by decide) rfl ?_
  intro p e s m args below meth c s₁ B9 hml hv
  obtain ⟨rfl, hK, hsz, hB⟩ := hv
  have hx := B9.exec
  have hb := B9.bytes
  have hr := B9.returns
  have hts := atoms_spec (ws := wsX4_failures) B9.pre
  have hown : s.vm.findClass RX4 = some m.cls := findClass_of_methodNamed B9.named
  have hlocks := B9.notSynchronized
  subst hsz
  have hS : va_S (wA cM ad s.heap.size) s.heap s.heap [] := va_S.rf
  have lk69 := hts (.fieldLink RX4 69 "PolitecrawlModel" "thrown" "I") (by decide +kernel)
  have inX4 : ∀ w ∈ u_ws RX4 TX4 26, w ∈ wsX4_failures := by decide +kernel
  have lk16 := hts (.fieldLink RX4 16 "PolitecrawlModel" "failures" "[I") (by decide +kernel)
  have hl := lv_entry ([.ref (ad 0 0), .int h]) (n := 2) (Nat.le_of_ble_eq_true rfl)
  rw [lg_entry_eq]
  generalize (lg_sl ([.ref (ad 0 0), .int h]) ++ List.replicate (2 - (lg_sl ([.ref (ad 0 0), .int h])).length) Slot.unset).toArray = ls at hl ⊢
  have hl : lv_has ls 2 [(0, .ref (ad 0 0)), (1, .int h)] := hl
  refine lv_aload_n hx hb dX4_failures_0 rfl (lv_at hl 0 rfl) ?_
  refine lv_iconst (v := 0) hx hb dX4_failures_1 (by decide) ?_
  refine g_put (C := RX4) (T := TX4) (N := 26) (ci := 4) (fs := [.int (σ 30 0), .int (σ 0 0), .int (nI (ν 1 0)), .ref (ad 6 0), .ref (ad 7 0), .ref (ad 8 0), .ref (ad 9 0), .int (σ 1 0), .int (σ 2 0), .int (σ 3 0), .int (σ 31 0), .int (σ 32 0), .int (nI (ν 0 0)), .ref (ad 18 0), .ref (ad 17 0), .ref (ad 16 0), .ref (ad 10 0), .ref (ad 11 0), .ref (ad 12 0), .ref (ad 13 0), .ref (ad 14 0), .ref (ad 15 0), .int (nI (ν 6 0)), .ref (ad 34 0), .ref (ad 35 0), .ref (ad 36 0)]) (A := (wA cM ad s.heap.size)) hx hb hts inX4 tyX4 tyX4_ok nmX4 hown hK (hB 0 0 Nat.zero_lt_one) rfl hS (wA.in (k := 0) (i := 0) Nat.zero_lt_one) 0 (by decide) lk69 rfl rfl rfl rfl (Nat.le_of_ble_eq_true rfl) dX4_failures_2 (fun H1 locs1 hc1 hu1 hS1 => ?_)
  have hB1 : MW D cy ad (up2 σ 30 0 0) ν H1 := hB.sc hJ (by decide) hc1 hu1
  obtain ⟨σ1, hs1⟩ : ∃ z : IT, z = up2 σ 30 0 0 := ⟨_, rfl⟩
  rw [← hs1] at hB1
  refine lv_iload_n hx hb dX4_failures_5 rfl (lv_at hl 1 rfl) ?_
  refine g_csr (va_runS (As := [.int h]) (rest := []) ⟨hx, hb, hml, hown, hts⟩ (m_X4_isHost l D cy (h)) (va_cwS 1 hts gX4_failures_X4_isHost rfl rfl rfl (by decide +kernel) ⟨Nat.le_of_ble_eq_true rfl, Nat.le_of_ble_eq_true rfl⟩) (g_preS (B := (fun _ => True)) hK trivial) rfl rfl hl.1 rfl (lv_room (Nat.le_of_ble_eq_true rfl)) dX4_failures_6 ⟨Nat.zero_le _, Nat.zero_le _⟩) ?_
  refine lv_if_eq (tgt := 21) hx hb dX4_failures_9 (by decide) (fun c_9 => ?_) (fun c_9 => ?_)
  · -- 9 t
    refine lv_aload_n hx hb dX4_failures_21 rfl (lv_at hl 0 rfl) ?_
    refine lv_iconst (v := 1) hx hb dX4_failures_22 (by decide) ?_
    refine g_cu1 (va_runV (As := [.int 1]) (rest := []) ⟨hx, hb, hml, hown, hts⟩ (m_X4_fails l D cy H1.size ad σ1 ν hJ (1)) (cwV 1 hts gX4_failures_X4_fails rfl rfl rfl (by decide +kernel) ⟨Nat.le_of_ble_eq_true rfl, Nat.le_of_ble_eq_true rfl⟩) (g_preV (C := RX4) (B := atSz H1.size (MW D cy ad σ1 ν)) hK ⟨rfl, hB1⟩ (hB1 0 0 Nat.zero_lt_one) rfl) rfl rfl hl.1 rfl (lv_room (Nat.le_of_ble_eq_true rfl)) dX4_failures_23 ⟨Nat.zero_le _, Nat.zero_le _⟩) hS1 (fun q _ h => wA.mono hS1.1 h) (fun q h => wA.mono hS1.1 h) (fun H2 locs2 hB2 hz2 hk2 hS2 => ?_)
    obtain ⟨σ2, hs2⟩ : ∃ z : IT, z = up2 σ1 30 0 1 := ⟨_, rfl⟩
    rw [← hs2] at hB2
    exact g_iretU hx hb hr hlocks hS2 (by rw [oHostQ, if_neg (fun q => by rw [zb_0.mp c_9] at q; cases q)]; rw [hs2, hs1] at hB2; exact hB2) (Nat.le_refl _) (Nat.le_refl _) dX4_failures_26 (by rw [oHostQ, if_neg (fun q => by rw [zb_0.mp c_9] at q; cases q)])
  · -- 9 f
    obtain ⟨q0, hq0, eh⟩ := idx_host (zb_n0.mp c_9)
    have ec : h.toNatClampNeg = q0 := by rw [eh, cl_nI (by omega)]
    refine lv_aload_n hx hb dX4_failures_12 rfl (lv_at hl 0 rfl) ?_
    refine g_get (C := RX4) (T := TX4) (N := 26) (ci := 4) (fs := [.int (σ1 30 0), .int (σ1 0 0), .int (nI (ν 1 0)), .ref (ad 6 0), .ref (ad 7 0), .ref (ad 8 0), .ref (ad 9 0), .int (σ1 1 0), .int (σ1 2 0), .int (σ1 3 0), .int (σ1 31 0), .int (σ1 32 0), .int (nI (ν 0 0)), .ref (ad 18 0), .ref (ad 17 0), .ref (ad 16 0), .ref (ad 10 0), .ref (ad 11 0), .ref (ad 12 0), .ref (ad 13 0), .ref (ad 14 0), .ref (ad 15 0), .int (nI (ν 6 0)), .ref (ad 34 0), .ref (ad 35 0), .ref (ad 36 0)]) hx hb hts inX4 hown hK (hB1 0 0 Nat.zero_lt_one) rfl 5 (by decide) lk16 rfl rfl dX4_failures_13 ?_
    refine lv_iload_n hx hb dX4_failures_16 rfl (lv_at hl 1 rfl) ?_
    refine lv_topi (fun y1 ey1 => ?_)
    obtain rfl : y1 = nI q0 := ey1.trans (eh)
    refine g_iald (f := σ1 8) (x := σ1 8 q0) hx hb hK (hB1 8 0 Nat.zero_lt_one) (vp_in_nI (N := 6) (by omega) (by decide)) (by rw [cl_nI (by omega)]) dX4_failures_17 ?_
    refine lv_goto (tgt := 26) hx hb dX4_failures_18 (by decide) ?_
    exact g_iretU hx hb hr hlocks hS1 (by rw [oHostQ, if_pos (zb_n0.mp c_9), ec]; rw [hs1] at hB1; exact hB1) (Nat.le_refl _) (Nat.le_refl _) dX4_failures_26 (by rw [oHostQ, if_pos (zb_n0.mp c_9), ec]; rw [hs1]; rfl)

set_option maxHeartbeats 4000000 in
set_option maxRecDepth 100000 in
/-- model: openFrom -/
theorem m_X4_openFrom (l : Launch) (D : va_G) (cy : Nat → ClassId) (sz : Nat) (ad : NT) (σ : IT) (ν : NT) (hJ : wJ cM ad) (h : Int32) : Met l yX4_openFrom wsX4_openFrom ({ frames := 2, cells := 0, slots := 0, locals := 60 } : Room) (va_Pc [.ref (ad 0 0), .int h] (fun U => gK D cy U ∧ (atSz sz (MW D cy ad σ ν)) U.heap)) (uQ (some (.int (oHostQ σ 9 h).1)) (MW D cy ad (oHostQ σ 9 h).2 ν) (wA cM ad sz)) 0 0 (wA cM ad sz) := by
  refine Met.ofW (cc := cX4_openFrom) (maxL := 2) (ret := (some .int)) (by decide) rfl ?_
  intro p e s m args below meth c s₁ B9 hml hv
  obtain ⟨rfl, hK, hsz, hB⟩ := hv
  have hx := B9.exec
  have hb := B9.bytes
  have hr := B9.returns
  have hts := atoms_spec (ws := wsX4_openFrom) B9.pre
  have hown : s.vm.findClass RX4 = some m.cls := findClass_of_methodNamed B9.named
  have hlocks := B9.notSynchronized
  subst hsz
  have hS : va_S (wA cM ad s.heap.size) s.heap s.heap [] := va_S.rf
  have lk69 := hts (.fieldLink RX4 69 "PolitecrawlModel" "thrown" "I") (by decide +kernel)
  have inX4 : ∀ w ∈ u_ws RX4 TX4 26, w ∈ wsX4_openFrom := by decide +kernel
  have lk19 := hts (.fieldLink RX4 19 "PolitecrawlModel" "openFrom" "[I") (by decide +kernel)
  have hl := lv_entry ([.ref (ad 0 0), .int h]) (n := 2) (Nat.le_of_ble_eq_true rfl)
  rw [lg_entry_eq]
  generalize (lg_sl ([.ref (ad 0 0), .int h]) ++ List.replicate (2 - (lg_sl ([.ref (ad 0 0), .int h])).length) Slot.unset).toArray = ls at hl ⊢
  have hl : lv_has ls 2 [(0, .ref (ad 0 0)), (1, .int h)] := hl
  refine lv_aload_n hx hb dX4_openFrom_0 rfl (lv_at hl 0 rfl) ?_
  refine lv_iconst (v := 0) hx hb dX4_openFrom_1 (by decide) ?_
  refine g_put (C := RX4) (T := TX4) (N := 26) (ci := 4) (fs := [.int (σ 30 0), .int (σ 0 0), .int (nI (ν 1 0)), .ref (ad 6 0), .ref (ad 7 0), .ref (ad 8 0), .ref (ad 9 0), .int (σ 1 0), .int (σ 2 0), .int (σ 3 0), .int (σ 31 0), .int (σ 32 0), .int (nI (ν 0 0)), .ref (ad 18 0), .ref (ad 17 0), .ref (ad 16 0), .ref (ad 10 0), .ref (ad 11 0), .ref (ad 12 0), .ref (ad 13 0), .ref (ad 14 0), .ref (ad 15 0), .int (nI (ν 6 0)), .ref (ad 34 0), .ref (ad 35 0), .ref (ad 36 0)]) (A := (wA cM ad s.heap.size)) hx hb hts inX4 tyX4 tyX4_ok nmX4 hown hK (hB 0 0 Nat.zero_lt_one) rfl hS (wA.in (k := 0) (i := 0) Nat.zero_lt_one) 0 (by decide) lk69 rfl rfl rfl rfl (Nat.le_of_ble_eq_true rfl) dX4_openFrom_2 (fun H1 locs1 hc1 hu1 hS1 => ?_)
  have hB1 : MW D cy ad (up2 σ 30 0 0) ν H1 := hB.sc hJ (by decide) hc1 hu1
  obtain ⟨σ1, hs1⟩ : ∃ z : IT, z = up2 σ 30 0 0 := ⟨_, rfl⟩
  rw [← hs1] at hB1
  refine lv_iload_n hx hb dX4_openFrom_5 rfl (lv_at hl 1 rfl) ?_
  refine g_csr (va_runS (As := [.int h]) (rest := []) ⟨hx, hb, hml, hown, hts⟩ (m_X4_isHost l D cy (h)) (va_cwS 1 hts gX4_openFrom_X4_isHost rfl rfl rfl (by decide +kernel) ⟨Nat.le_of_ble_eq_true rfl, Nat.le_of_ble_eq_true rfl⟩) (g_preS (B := (fun _ => True)) hK trivial) rfl rfl hl.1 rfl (lv_room (Nat.le_of_ble_eq_true rfl)) dX4_openFrom_6 ⟨Nat.zero_le _, Nat.zero_le _⟩) ?_
  refine lv_if_eq (tgt := 21) hx hb dX4_openFrom_9 (by decide) (fun c_9 => ?_) (fun c_9 => ?_)
  · -- 9 t
    refine lv_aload_n hx hb dX4_openFrom_21 rfl (lv_at hl 0 rfl) ?_
    refine lv_iconst (v := 1) hx hb dX4_openFrom_22 (by decide) ?_
    refine g_cu1 (va_runV (As := [.int 1]) (rest := []) ⟨hx, hb, hml, hown, hts⟩ (m_X4_fails l D cy H1.size ad σ1 ν hJ (1)) (cwV 1 hts gX4_openFrom_X4_fails rfl rfl rfl (by decide +kernel) ⟨Nat.le_of_ble_eq_true rfl, Nat.le_of_ble_eq_true rfl⟩) (g_preV (C := RX4) (B := atSz H1.size (MW D cy ad σ1 ν)) hK ⟨rfl, hB1⟩ (hB1 0 0 Nat.zero_lt_one) rfl) rfl rfl hl.1 rfl (lv_room (Nat.le_of_ble_eq_true rfl)) dX4_openFrom_23 ⟨Nat.zero_le _, Nat.zero_le _⟩) hS1 (fun q _ h => wA.mono hS1.1 h) (fun q h => wA.mono hS1.1 h) (fun H2 locs2 hB2 hz2 hk2 hS2 => ?_)
    obtain ⟨σ2, hs2⟩ : ∃ z : IT, z = up2 σ1 30 0 1 := ⟨_, rfl⟩
    rw [← hs2] at hB2
    exact g_iretU hx hb hr hlocks hS2 (by rw [oHostQ, if_neg (fun q => by rw [zb_0.mp c_9] at q; cases q)]; rw [hs2, hs1] at hB2; exact hB2) (Nat.le_refl _) (Nat.le_refl _) dX4_openFrom_26 (by rw [oHostQ, if_neg (fun q => by rw [zb_0.mp c_9] at q; cases q)])
  · -- 9 f
    obtain ⟨q0, hq0, eh⟩ := idx_host (zb_n0.mp c_9)
    have ec : h.toNatClampNeg = q0 := by rw [eh, cl_nI (by omega)]
    refine lv_aload_n hx hb dX4_openFrom_12 rfl (lv_at hl 0 rfl) ?_
    refine g_get (C := RX4) (T := TX4) (N := 26) (ci := 4) (fs := [.int (σ1 30 0), .int (σ1 0 0), .int (nI (ν 1 0)), .ref (ad 6 0), .ref (ad 7 0), .ref (ad 8 0), .ref (ad 9 0), .int (σ1 1 0), .int (σ1 2 0), .int (σ1 3 0), .int (σ1 31 0), .int (σ1 32 0), .int (nI (ν 0 0)), .ref (ad 18 0), .ref (ad 17 0), .ref (ad 16 0), .ref (ad 10 0), .ref (ad 11 0), .ref (ad 12 0), .ref (ad 13 0), .ref (ad 14 0), .ref (ad 15 0), .int (nI (ν 6 0)), .ref (ad 34 0), .ref (ad 35 0), .ref (ad 36 0)]) hx hb hts inX4 hown hK (hB1 0 0 Nat.zero_lt_one) rfl 6 (by decide) lk19 rfl rfl dX4_openFrom_13 ?_
    refine lv_iload_n hx hb dX4_openFrom_16 rfl (lv_at hl 1 rfl) ?_
    refine lv_topi (fun y1 ey1 => ?_)
    obtain rfl : y1 = nI q0 := ey1.trans (eh)
    refine g_iald (f := σ1 9) (x := σ1 9 q0) hx hb hK (hB1 9 0 Nat.zero_lt_one) (vp_in_nI (N := 6) (by omega) (by decide)) (by rw [cl_nI (by omega)]) dX4_openFrom_17 ?_
    refine lv_goto (tgt := 26) hx hb dX4_openFrom_18 (by decide) ?_
    exact g_iretU hx hb hr hlocks hS1 (by rw [oHostQ, if_pos (zb_n0.mp c_9), ec]; rw [hs1] at hB1; exact hB1) (Nat.le_refl _) (Nat.le_refl _) dX4_openFrom_26 (by rw [oHostQ, if_pos (zb_n0.mp c_9), ec]; rw [hs1]; rfl)

set_option maxHeartbeats 4000000 in
set_option maxRecDepth 100000 in
/-- model: setRank -/
theorem m_X4_setRank (l : Launch) (D : va_G) (cy : Nat → ClassId) (sz : Nat) (ad : NT) (σ : IT) (ν : NT) (hJ : wJ cM ad) (hI : MI σ ν) (p0 r : Int32) : Met l yX4_setRank wsX4_setRank ({ frames := 2, cells := 0, slots := 0, locals := 60 } : Room) (va_Pc [.ref (ad 0 0), .int p0, .int r] (fun U => gK D cy U ∧ (atSz sz (MW D cy ad σ ν)) U.heap)) (uQ (some (.int (oSetRank σ ν p0 r).1)) (MW D cy ad (oSetRank σ ν p0 r).2 ν) (wA cM ad sz)) 0 0 (wA cM ad sz) := by
  refine Met.ofW (cc := cX4_setRank) (maxL := 4) (ret := (some .int)) (by decide) rfl ?_
  intro p e s m args below meth c s₁ B9 hml hv
  obtain ⟨rfl, hK, hsz, hB⟩ := hv
  have hx := B9.exec
  have hb := B9.bytes
  have hr := B9.returns
  have hts := atoms_spec (ws := wsX4_setRank) B9.pre
  have hown : s.vm.findClass RX4 = some m.cls := findClass_of_methodNamed B9.named
  have hlocks := B9.notSynchronized
  subst hsz
  have hS : va_S (wA cM ad s.heap.size) s.heap s.heap [] := va_S.rf
  have lk69 := hts (.fieldLink RX4 69 "PolitecrawlModel" "thrown" "I") (by decide +kernel)
  have inX4 : ∀ w ∈ u_ws RX4 TX4 26, w ∈ wsX4_setRank := by decide +kernel
  have lk41 := hts (.fieldLink RX4 41 "PolitecrawlModel" "rank" "[I") (by decide +kernel)
  have hl := lv_entry ([.ref (ad 0 0), .int p0, .int r]) (n := 4) (Nat.le_of_ble_eq_true rfl)
  rw [lg_entry_eq]
  generalize (lg_sl ([.ref (ad 0 0), .int p0, .int r]) ++ List.replicate (4 - (lg_sl ([.ref (ad 0 0), .int p0, .int r])).length) Slot.unset).toArray = ls at hl ⊢
  have hl : lv_has ls 4 [(0, .ref (ad 0 0)), (1, .int p0), (2, .int r)] := hl
  refine lv_aload_n hx hb dX4_setRank_0 rfl (lv_at hl 0 rfl) ?_
  refine lv_iconst (v := 0) hx hb dX4_setRank_1 (by decide) ?_
  refine g_put (C := RX4) (T := TX4) (N := 26) (ci := 4) (fs := [.int (σ 30 0), .int (σ 0 0), .int (nI (ν 1 0)), .ref (ad 6 0), .ref (ad 7 0), .ref (ad 8 0), .ref (ad 9 0), .int (σ 1 0), .int (σ 2 0), .int (σ 3 0), .int (σ 31 0), .int (σ 32 0), .int (nI (ν 0 0)), .ref (ad 18 0), .ref (ad 17 0), .ref (ad 16 0), .ref (ad 10 0), .ref (ad 11 0), .ref (ad 12 0), .ref (ad 13 0), .ref (ad 14 0), .ref (ad 15 0), .int (nI (ν 6 0)), .ref (ad 34 0), .ref (ad 35 0), .ref (ad 36 0)]) (A := (wA cM ad s.heap.size)) hx hb hts inX4 tyX4 tyX4_ok nmX4 hown hK (hB 0 0 Nat.zero_lt_one) rfl hS (wA.in (k := 0) (i := 0) Nat.zero_lt_one) 0 (by decide) lk69 rfl rfl rfl rfl (Nat.le_of_ble_eq_true rfl) dX4_setRank_2 (fun H1 locs1 hc1 hu1 hS1 => ?_)
  have hB1 : MW D cy ad (up2 σ 30 0 0) ν H1 := hB.sc hJ (by decide) hc1 hu1
  obtain ⟨σ1, hs1⟩ : ∃ z : IT, z = up2 σ 30 0 0 := ⟨_, rfl⟩
  rw [← hs1] at hB1
  refine lv_aload_n hx hb dX4_setRank_5 rfl (lv_at hl 0 rfl) ?_
  refine lv_iload_n hx hb dX4_setRank_6 rfl (lv_at hl 1 rfl) ?_
  refine g_csr (va_runV (As := [.int p0]) (rest := []) ⟨hx, hb, hml, hown, hts⟩ (m_X4_isPage l D cy ad σ1 ν (p0)) (cwV 1 hts gX4_setRank_X4_isPage rfl rfl rfl (by decide +kernel) ⟨Nat.le_of_ble_eq_true rfl, Nat.le_of_ble_eq_true rfl⟩) (g_preV (C := RX4) (B := (MW D cy ad σ1 ν)) hK hB1 (hB1 0 0 Nat.zero_lt_one) rfl) rfl rfl hl.1 rfl (lv_room (Nat.le_of_ble_eq_true rfl)) dX4_setRank_7 ⟨Nat.zero_le _, Nat.zero_le _⟩) ?_
  refine lv_if_ne (tgt := 19) hx hb dX4_setRank_10 (by decide) (fun c_10 => ?_) (fun c_10 => ?_)
  · -- 10 t
    refine lv_iload_n hx hb dX4_setRank_19 rfl (lv_at hl 2 rfl) ?_
    refine lv_iconst (v := 0) hx hb dX4_setRank_20 (by decide) ?_
    refine lv_bipush (v := 9) hx hb dX4_setRank_21 (by decide) ?_
    refine g_csr (va_runS (As := [.int r, .int 0, .int 9]) (rest := []) ⟨hx, hb, hml, hown, hts⟩ (m_X4_in l D cy (r) (0) (9)) (va_cwS 3 hts gX4_setRank_X4_in rfl rfl rfl (by decide +kernel) ⟨Nat.le_of_ble_eq_true rfl, Nat.le_of_ble_eq_true rfl⟩) (g_preS (B := (fun _ => True)) hK trivial) rfl rfl hl.1 rfl (lv_room (Nat.le_of_ble_eq_true rfl)) dX4_setRank_23 ⟨Nat.zero_le _, Nat.zero_le _⟩) ?_
    refine lv_if_ne (tgt := 35) hx hb dX4_setRank_26 (by decide) (fun c_26 => ?_) (fun c_26 => ?_)
    · -- 26 t
      obtain ⟨q0, hq0, eh⟩ := idx_page hI.1 (zb_n0.mp c_10)
      have q30 : q0 < 30 := Nat.lt_of_lt_of_le hq0 hI.1
      have ec : p0.toNatClampNeg = q0 := by rw [eh, cl_nI (by omega)]
      refine lv_aload_n hx hb dX4_setRank_35 rfl (lv_at hl 0 rfl) ?_
      refine g_get (C := RX4) (T := TX4) (N := 26) (ci := 4) (fs := [.int (σ1 30 0), .int (σ1 0 0), .int (nI (ν 1 0)), .ref (ad 6 0), .ref (ad 7 0), .ref (ad 8 0), .ref (ad 9 0), .int (σ1 1 0), .int (σ1 2 0), .int (σ1 3 0), .int (σ1 31 0), .int (σ1 32 0), .int (nI (ν 0 0)), .ref (ad 18 0), .ref (ad 17 0), .ref (ad 16 0), .ref (ad 10 0), .ref (ad 11 0), .ref (ad 12 0), .ref (ad 13 0), .ref (ad 14 0), .ref (ad 15 0), .int (nI (ν 6 0)), .ref (ad 34 0), .ref (ad 35 0), .ref (ad 36 0)]) hx hb hts inX4 hown hK (hB1 0 0 Nat.zero_lt_one) rfl 16 (by decide) lk41 rfl rfl dX4_setRank_36 ?_
      refine lv_iload_n hx hb dX4_setRank_39 rfl (lv_at hl 1 rfl) ?_
      refine lv_topi (fun y1 ey1 => ?_)
      obtain rfl : y1 = nI q0 := ey1.trans (eh)
      refine g_iald (f := σ1 10) (x := σ1 10 q0) hx hb hK (hB1 10 0 Nat.zero_lt_one) (vp_in_nI (N := 30) (by omega) (by decide)) (by rw [cl_nI (by omega)]) dX4_setRank_40 ?_
      refine lv_istore_n (lv' := [(3, .int (σ1 10 q0)), (0, .ref (ad 0 0)), (1, .int p0), (2, .int r)]) hx hb dX4_setRank_41 rfl hl (by decide) rfl (fun ls hl => ?_)
      refine lv_aload_n hx hb dX4_setRank_42 rfl (lv_at hl 1 rfl) ?_
      refine g_get (C := RX4) (T := TX4) (N := 26) (ci := 4) (fs := [.int (σ1 30 0), .int (σ1 0 0), .int (nI (ν 1 0)), .ref (ad 6 0), .ref (ad 7 0), .ref (ad 8 0), .ref (ad 9 0), .int (σ1 1 0), .int (σ1 2 0), .int (σ1 3 0), .int (σ1 31 0), .int (σ1 32 0), .int (nI (ν 0 0)), .ref (ad 18 0), .ref (ad 17 0), .ref (ad 16 0), .ref (ad 10 0), .ref (ad 11 0), .ref (ad 12 0), .ref (ad 13 0), .ref (ad 14 0), .ref (ad 15 0), .int (nI (ν 6 0)), .ref (ad 34 0), .ref (ad 35 0), .ref (ad 36 0)]) hx hb hts inX4 hown hK (hB1 0 0 Nat.zero_lt_one) rfl 16 (by decide) lk41 rfl rfl dX4_setRank_43 ?_
      refine lv_iload_n hx hb dX4_setRank_46 rfl (lv_at hl 2 rfl) ?_
      refine lv_topi (fun y2 ey2 => ?_)
      obtain rfl : y2 = nI q0 := ey2.trans (eh)
      refine lv_iload_n hx hb dX4_setRank_47 rfl (lv_at hl 3 rfl) ?_
      refine g_iast (f := σ1 10) (A := (wA cM ad s.heap.size)) hx hb hK (hB1 10 0 Nat.zero_lt_one) hS1 (wA.in (k := 10) (i := 0) Nat.zero_lt_one) (vp_in_nI (N := 30) q30 (by decide)) dX4_setRank_48 (fun H2 locs2 hc2 hu2 hS2 => ?_)
      have hB2 : MW D cy ad (up2 σ1 10 q0 r) ν H2 := hB1.sst hJ 10 Nat.zero_lt_one (by decide) (by decide) (by decide) (cl_nI (by omega)) hc2 hu2
      obtain ⟨σ2, hs2⟩ : ∃ z : IT, z = up2 σ1 10 q0 r := ⟨_, rfl⟩
      rw [← hs2] at hB2
      refine lv_iload_n hx hb dX4_setRank_49 rfl (lv_at hl 0 rfl) ?_
      exact g_iretU hx hb hr hlocks hS2 (by rw [oSetRank, if_pos (zb_n0.mp c_10), if_pos (zb_n0.mp c_26), ec]; rw [hs2, hs1] at hB2; exact hB2) (Nat.le_refl _) (Nat.le_refl _) dX4_setRank_50 (by rw [oSetRank, if_pos (zb_n0.mp c_10), if_pos (zb_n0.mp c_26), ec]; rw [hs1]; rfl)
    · -- 26 f
      refine lv_aload_n hx hb dX4_setRank_29 rfl (lv_at hl 0 rfl) ?_
      refine lv_iconst (v := 2) hx hb dX4_setRank_30 (by decide) ?_
      refine g_cu1 (va_runV (As := [.int 2]) (rest := []) ⟨hx, hb, hml, hown, hts⟩ (m_X4_fails l D cy H1.size ad σ1 ν hJ (2)) (cwV 1 hts gX4_setRank_X4_fails rfl rfl rfl (by decide +kernel) ⟨Nat.le_of_ble_eq_true rfl, Nat.le_of_ble_eq_true rfl⟩) (g_preV (C := RX4) (B := atSz H1.size (MW D cy ad σ1 ν)) hK ⟨rfl, hB1⟩ (hB1 0 0 Nat.zero_lt_one) rfl) rfl rfl hl.1 rfl (lv_room (Nat.le_of_ble_eq_true rfl)) dX4_setRank_31 ⟨Nat.zero_le _, Nat.zero_le _⟩) hS1 (fun q _ h => wA.mono hS1.1 h) (fun q h => wA.mono hS1.1 h) (fun H3 locs3 hB3 hz3 hk3 hS3 => ?_)
      obtain ⟨σ3, hs3⟩ : ∃ z : IT, z = up2 σ1 30 0 2 := ⟨_, rfl⟩
      rw [← hs3] at hB3
      exact g_iretU hx hb hr hlocks hS3 (by rw [oSetRank, if_pos (zb_n0.mp c_10), if_neg (fun q => by rw [zb_0.mp c_26] at q; cases q)]; rw [hs3, hs1] at hB3; exact hB3) (Nat.le_refl _) (Nat.le_refl _) dX4_setRank_34 (by rw [oSetRank, if_pos (zb_n0.mp c_10), if_neg (fun q => by rw [zb_0.mp c_26] at q; cases q)])
  · -- 10 f
    refine lv_aload_n hx hb dX4_setRank_13 rfl (lv_at hl 0 rfl) ?_
    refine lv_iconst (v := 1) hx hb dX4_setRank_14 (by decide) ?_
    refine g_cu1 (va_runV (As := [.int 1]) (rest := []) ⟨hx, hb, hml, hown, hts⟩ (m_X4_fails l D cy H1.size ad σ1 ν hJ (1)) (cwV 1 hts gX4_setRank_X4_fails rfl rfl rfl (by decide +kernel) ⟨Nat.le_of_ble_eq_true rfl, Nat.le_of_ble_eq_true rfl⟩) (g_preV (C := RX4) (B := atSz H1.size (MW D cy ad σ1 ν)) hK ⟨rfl, hB1⟩ (hB1 0 0 Nat.zero_lt_one) rfl) rfl rfl hl.1 rfl (lv_room (Nat.le_of_ble_eq_true rfl)) dX4_setRank_15 ⟨Nat.zero_le _, Nat.zero_le _⟩) hS1 (fun q _ h => wA.mono hS1.1 h) (fun q h => wA.mono hS1.1 h) (fun H4 locs4 hB4 hz4 hk4 hS4 => ?_)
    obtain ⟨σ4, hs4⟩ : ∃ z : IT, z = up2 σ1 30 0 1 := ⟨_, rfl⟩
    rw [← hs4] at hB4
    exact g_iretU hx hb hr hlocks hS4 (by rw [oSetRank, if_neg (fun q => by rw [zb_0.mp c_10] at q; cases q)]; rw [hs4, hs1] at hB4; exact hB4) (Nat.le_refl _) (Nat.le_refl _) dX4_setRank_18 (by rw [oSetRank, if_neg (fun q => by rw [zb_0.mp c_10] at q; cases q)])

set_option maxHeartbeats 4000000 in
set_option maxRecDepth 100000 in
/-- model: pages -/
theorem m_X4_pages (l : Launch) (D : va_G) (cy : Nat → ClassId) (sz : Nat) (ad : NT) (σ : IT) (ν : NT) (hJ : wJ cM ad) : Met l yX4_pages wsX4_pages ({ frames := 0, cells := 0, slots := 0, locals := 0 } : Room) (va_Pc [.ref (ad 0 0)] (fun U => gK D cy U ∧ (atSz sz (MW D cy ad σ ν)) U.heap)) (uQ (some (.int (nI (ν 0 0)))) (MW D cy ad (T0 σ) ν) (wA cM ad sz)) 0 0 (wA cM ad sz) := by
  refine Met.ofW (cc := cX4_pages) (maxL := 1) (ret := (some .int)) (by decide) rfl ?_
  intro p e s m args below meth c s₁ B9 hml hv
  obtain ⟨rfl, hK, hsz, hB⟩ := hv
  have hx := B9.exec
  have hb := B9.bytes
  have hr := B9.returns
  have hts := atoms_spec (ws := wsX4_pages) B9.pre
  have hown : s.vm.findClass RX4 = some m.cls := findClass_of_methodNamed B9.named
  have hlocks := B9.notSynchronized
  subst hsz
  have hS : va_S (wA cM ad s.heap.size) s.heap s.heap [] := va_S.rf
  have lk69 := hts (.fieldLink RX4 69 "PolitecrawlModel" "thrown" "I") (by decide +kernel)
  have inX4 : ∀ w ∈ u_ws RX4 TX4 26, w ∈ wsX4_pages := by decide +kernel
  have lk76 := hts (.fieldLink RX4 76 "PolitecrawlModel" "pages" "I") (by decide +kernel)
  have hl := lv_entry ([.ref (ad 0 0)]) (n := 1) (Nat.le_of_ble_eq_true rfl)
  rw [lg_entry_eq]
  generalize (lg_sl ([.ref (ad 0 0)]) ++ List.replicate (1 - (lg_sl ([.ref (ad 0 0)])).length) Slot.unset).toArray = ls at hl ⊢
  have hl : lv_has ls 1 [(0, .ref (ad 0 0))] := hl
  refine lv_aload_n hx hb dX4_pages_0 rfl (lv_at hl 0 rfl) ?_
  refine lv_iconst (v := 0) hx hb dX4_pages_1 (by decide) ?_
  refine g_put (C := RX4) (T := TX4) (N := 26) (ci := 4) (fs := [.int (σ 30 0), .int (σ 0 0), .int (nI (ν 1 0)), .ref (ad 6 0), .ref (ad 7 0), .ref (ad 8 0), .ref (ad 9 0), .int (σ 1 0), .int (σ 2 0), .int (σ 3 0), .int (σ 31 0), .int (σ 32 0), .int (nI (ν 0 0)), .ref (ad 18 0), .ref (ad 17 0), .ref (ad 16 0), .ref (ad 10 0), .ref (ad 11 0), .ref (ad 12 0), .ref (ad 13 0), .ref (ad 14 0), .ref (ad 15 0), .int (nI (ν 6 0)), .ref (ad 34 0), .ref (ad 35 0), .ref (ad 36 0)]) (A := (wA cM ad s.heap.size)) hx hb hts inX4 tyX4 tyX4_ok nmX4 hown hK (hB 0 0 Nat.zero_lt_one) rfl hS (wA.in (k := 0) (i := 0) Nat.zero_lt_one) 0 (by decide) lk69 rfl rfl rfl rfl (Nat.le_of_ble_eq_true rfl) dX4_pages_2 (fun H1 locs1 hc1 hu1 hS1 => ?_)
  have hB1 : MW D cy ad (up2 σ 30 0 0) ν H1 := hB.sc hJ (by decide) hc1 hu1
  obtain ⟨σ1, hs1⟩ : ∃ z : IT, z = up2 σ 30 0 0 := ⟨_, rfl⟩
  rw [← hs1] at hB1
  refine lv_aload_n hx hb dX4_pages_5 rfl (lv_at hl 0 rfl) ?_
  refine g_get (C := RX4) (T := TX4) (N := 26) (ci := 4) (fs := [.int (σ1 30 0), .int (σ1 0 0), .int (nI (ν 1 0)), .ref (ad 6 0), .ref (ad 7 0), .ref (ad 8 0), .ref (ad 9 0), .int (σ1 1 0), .int (σ1 2 0), .int (σ1 3 0), .int (σ1 31 0), .int (σ1 32 0), .int (nI (ν 0 0)), .ref (ad 18 0), .ref (ad 17 0), .ref (ad 16 0), .ref (ad 10 0), .ref (ad 11 0), .ref (ad 12 0), .ref (ad 13 0), .ref (ad 14 0), .ref (ad 15 0), .int (nI (ν 6 0)), .ref (ad 34 0), .ref (ad 35 0), .ref (ad 36 0)]) hx hb hts inX4 hown hK (hB1 0 0 Nat.zero_lt_one) rfl 12 (by decide) lk76 rfl rfl dX4_pages_6 ?_
  exact g_iretU hx hb hr hlocks hS1 (by rw [hs1] at hB1; exact hB1) (Nat.le_refl _) (Nat.le_refl _) dX4_pages_9 rfl

set_option maxHeartbeats 4000000 in
set_option maxRecDepth 100000 in
/-- model: now -/
theorem m_X4_now (l : Launch) (D : va_G) (cy : Nat → ClassId) (sz : Nat) (ad : NT) (σ : IT) (ν : NT) (hJ : wJ cM ad) : Met l yX4_now wsX4_now ({ frames := 0, cells := 0, slots := 0, locals := 0 } : Room) (va_Pc [.ref (ad 0 0)] (fun U => gK D cy U ∧ (atSz sz (MW D cy ad σ ν)) U.heap)) (uQ (some (.int (σ 0 0))) (MW D cy ad (T0 σ) ν) (wA cM ad sz)) 0 0 (wA cM ad sz) := by
  refine Met.ofW (cc := cX4_now) (maxL := 1) (ret := (some .int)) (by decide) rfl ?_
  intro p e s m args below meth c s₁ B9 hml hv
  obtain ⟨rfl, hK, hsz, hB⟩ := hv
  have hx := B9.exec
  have hb := B9.bytes
  have hr := B9.returns
  have hts := atoms_spec (ws := wsX4_now) B9.pre
  have hown : s.vm.findClass RX4 = some m.cls := findClass_of_methodNamed B9.named
  have hlocks := B9.notSynchronized
  subst hsz
  have hS : va_S (wA cM ad s.heap.size) s.heap s.heap [] := va_S.rf
  have lk69 := hts (.fieldLink RX4 69 "PolitecrawlModel" "thrown" "I") (by decide +kernel)
  have inX4 : ∀ w ∈ u_ws RX4 TX4 26, w ∈ wsX4_now := by decide +kernel
  have lk110 := hts (.fieldLink RX4 110 "PolitecrawlModel" "now" "I") (by decide +kernel)
  have hl := lv_entry ([.ref (ad 0 0)]) (n := 1) (Nat.le_of_ble_eq_true rfl)
  rw [lg_entry_eq]
  generalize (lg_sl ([.ref (ad 0 0)]) ++ List.replicate (1 - (lg_sl ([.ref (ad 0 0)])).length) Slot.unset).toArray = ls at hl ⊢
  have hl : lv_has ls 1 [(0, .ref (ad 0 0))] := hl
  refine lv_aload_n hx hb dX4_now_0 rfl (lv_at hl 0 rfl) ?_
  refine lv_iconst (v := 0) hx hb dX4_now_1 (by decide) ?_
  refine g_put (C := RX4) (T := TX4) (N := 26) (ci := 4) (fs := [.int (σ 30 0), .int (σ 0 0), .int (nI (ν 1 0)), .ref (ad 6 0), .ref (ad 7 0), .ref (ad 8 0), .ref (ad 9 0), .int (σ 1 0), .int (σ 2 0), .int (σ 3 0), .int (σ 31 0), .int (σ 32 0), .int (nI (ν 0 0)), .ref (ad 18 0), .ref (ad 17 0), .ref (ad 16 0), .ref (ad 10 0), .ref (ad 11 0), .ref (ad 12 0), .ref (ad 13 0), .ref (ad 14 0), .ref (ad 15 0), .int (nI (ν 6 0)), .ref (ad 34 0), .ref (ad 35 0), .ref (ad 36 0)]) (A := (wA cM ad s.heap.size)) hx hb hts inX4 tyX4 tyX4_ok nmX4 hown hK (hB 0 0 Nat.zero_lt_one) rfl hS (wA.in (k := 0) (i := 0) Nat.zero_lt_one) 0 (by decide) lk69 rfl rfl rfl rfl (Nat.le_of_ble_eq_true rfl) dX4_now_2 (fun H1 locs1 hc1 hu1 hS1 => ?_)
  have hB1 : MW D cy ad (up2 σ 30 0 0) ν H1 := hB.sc hJ (by decide) hc1 hu1
  obtain ⟨σ1, hs1⟩ : ∃ z : IT, z = up2 σ 30 0 0 := ⟨_, rfl⟩
  rw [← hs1] at hB1
  refine lv_aload_n hx hb dX4_now_5 rfl (lv_at hl 0 rfl) ?_
  refine g_get (C := RX4) (T := TX4) (N := 26) (ci := 4) (fs := [.int (σ1 30 0), .int (σ1 0 0), .int (nI (ν 1 0)), .ref (ad 6 0), .ref (ad 7 0), .ref (ad 8 0), .ref (ad 9 0), .int (σ1 1 0), .int (σ1 2 0), .int (σ1 3 0), .int (σ1 31 0), .int (σ1 32 0), .int (nI (ν 0 0)), .ref (ad 18 0), .ref (ad 17 0), .ref (ad 16 0), .ref (ad 10 0), .ref (ad 11 0), .ref (ad 12 0), .ref (ad 13 0), .ref (ad 14 0), .ref (ad 15 0), .int (nI (ν 6 0)), .ref (ad 34 0), .ref (ad 35 0), .ref (ad 36 0)]) hx hb hts inX4 hown hK (hB1 0 0 Nat.zero_lt_one) rfl 1 (by decide) lk110 rfl rfl dX4_now_6 ?_
  exact g_iretU hx hb hr hlocks hS1 (by rw [hs1] at hB1; exact hB1) (Nat.le_refl _) (Nat.le_refl _) dX4_now_9 (by rw [hs1]; rfl)

set_option maxHeartbeats 4000000 in
set_option maxRecDepth 100000 in
/-- model: budgetLeft -/
theorem m_X4_budgetLeft (l : Launch) (D : va_G) (cy : Nat → ClassId) (sz : Nat) (ad : NT) (σ : IT) (ν : NT) (hJ : wJ cM ad) : Met l yX4_budgetLeft wsX4_budgetLeft ({ frames := 1, cells := 0, slots := 0, locals := 30 } : Room) (va_Pc [.ref (ad 0 0)] (fun U => gK D cy U ∧ (atSz sz (MW D cy ad σ ν)) U.heap)) (uQ (some (.int (leftM σ))) (MW D cy ad (T0 σ) ν) (wA cM ad sz)) 0 0 (wA cM ad sz) := by
  refine Met.ofW (cc := cX4_budgetLeft) (maxL := 1) (ret := (some .int)) (by decide) rfl ?_
  intro p e s m args below meth c s₁ B9 hml hv
  obtain ⟨rfl, hK, hsz, hB⟩ := hv
  have hx := B9.exec
  have hb := B9.bytes
  have hr := B9.returns
  have hts := atoms_spec (ws := wsX4_budgetLeft) B9.pre
  have hown : s.vm.findClass RX4 = some m.cls := findClass_of_methodNamed B9.named
  have hlocks := B9.notSynchronized
  subst hsz
  have hS : va_S (wA cM ad s.heap.size) s.heap s.heap [] := va_S.rf
  have lk69 := hts (.fieldLink RX4 69 "PolitecrawlModel" "thrown" "I") (by decide +kernel)
  have inX4 : ∀ w ∈ u_ws RX4 TX4 26, w ∈ wsX4_budgetLeft := by decide +kernel
  have hl := lv_entry ([.ref (ad 0 0)]) (n := 1) (Nat.le_of_ble_eq_true rfl)
  rw [lg_entry_eq]
  generalize (lg_sl ([.ref (ad 0 0)]) ++ List.replicate (1 - (lg_sl ([.ref (ad 0 0)])).length) Slot.unset).toArray = ls at hl ⊢
  have hl : lv_has ls 1 [(0, .ref (ad 0 0))] := hl
  refine lv_aload_n hx hb dX4_budgetLeft_0 rfl (lv_at hl 0 rfl) ?_
  refine lv_iconst (v := 0) hx hb dX4_budgetLeft_1 (by decide) ?_
  refine g_put (C := RX4) (T := TX4) (N := 26) (ci := 4) (fs := [.int (σ 30 0), .int (σ 0 0), .int (nI (ν 1 0)), .ref (ad 6 0), .ref (ad 7 0), .ref (ad 8 0), .ref (ad 9 0), .int (σ 1 0), .int (σ 2 0), .int (σ 3 0), .int (σ 31 0), .int (σ 32 0), .int (nI (ν 0 0)), .ref (ad 18 0), .ref (ad 17 0), .ref (ad 16 0), .ref (ad 10 0), .ref (ad 11 0), .ref (ad 12 0), .ref (ad 13 0), .ref (ad 14 0), .ref (ad 15 0), .int (nI (ν 6 0)), .ref (ad 34 0), .ref (ad 35 0), .ref (ad 36 0)]) (A := (wA cM ad s.heap.size)) hx hb hts inX4 tyX4 tyX4_ok nmX4 hown hK (hB 0 0 Nat.zero_lt_one) rfl hS (wA.in (k := 0) (i := 0) Nat.zero_lt_one) 0 (by decide) lk69 rfl rfl rfl rfl (Nat.le_of_ble_eq_true rfl) dX4_budgetLeft_2 (fun H1 locs1 hc1 hu1 hS1 => ?_)
  have hB1 : MW D cy ad (up2 σ 30 0 0) ν H1 := hB.sc hJ (by decide) hc1 hu1
  obtain ⟨σ1, hs1⟩ : ∃ z : IT, z = up2 σ 30 0 0 := ⟨_, rfl⟩
  rw [← hs1] at hB1
  refine lv_aload_n hx hb dX4_budgetLeft_5 rfl (lv_at hl 0 rfl) ?_
  refine g_csr (va_runV (As := []) (rest := []) ⟨hx, hb, hml, hown, hts⟩ (m_X4_left l D cy ad σ1 ν) (cwV 0 hts gX4_budgetLeft_X4_left rfl rfl rfl (by decide +kernel) ⟨Nat.le_of_ble_eq_true rfl, Nat.le_of_ble_eq_true rfl⟩) (g_preV (C := RX4) (B := (MW D cy ad σ1 ν)) hK hB1 (hB1 0 0 Nat.zero_lt_one) rfl) rfl rfl hl.1 rfl (lv_room (Nat.le_of_ble_eq_true rfl)) dX4_budgetLeft_6 ⟨Nat.zero_le _, Nat.zero_le _⟩) ?_
  exact g_iretU hx hb hr hlocks hS1 (by rw [hs1] at hB1; exact hB1) (Nat.le_refl _) (Nat.le_refl _) dX4_budgetLeft_9 (by rw [hs1]; rfl)

set_option maxHeartbeats 4000000 in
set_option maxRecDepth 100000 in
/-- model: dueAt -/
theorem m_X4_dueAt (l : Launch) (D : va_G) (cy : Nat → ClassId) (sz : Nat) (ad : NT) (σ : IT) (ν : NT) (hJ : wJ cM ad) (hI : MI σ ν) (p0 : Int32) : Met l yX4_dueAt wsX4_dueAt ({ frames := 3, cells := 0, slots := 0, locals := 90 } : Room) (va_Pc [.ref (ad 0 0), .int p0] (fun U => gK D cy U ∧ (atSz sz (MW D cy ad σ ν)) U.heap)) (uQ (some (.int (oDueAt σ ν p0))) (MW D cy ad (oIsAsked σ ν p0) ν) (wA cM ad sz)) 0 0 (wA cM ad sz) := by
  refine Met.ofW (cc := cX4_dueAt) (maxL := 2) (ret := (some .int)) (by decide) rfl ?_
  intro p e s m args below meth c s₁ B9 hml hv
  obtain ⟨rfl, hK, hsz, hB⟩ := hv
  have hx := B9.exec
  have hb := B9.bytes
  have hr := B9.returns
  have hts := atoms_spec (ws := wsX4_dueAt) B9.pre
  have hown : s.vm.findClass RX4 = some m.cls := findClass_of_methodNamed B9.named
  have hlocks := B9.notSynchronized
  subst hsz
  have hS : va_S (wA cM ad s.heap.size) s.heap s.heap [] := va_S.rf
  have lk44 := hts (.fieldLink RX4 44 "PolitecrawlModel" "due" "[I") (by decide +kernel)
  have inX4 : ∀ w ∈ u_ws RX4 TX4 26, w ∈ wsX4_dueAt := by decide +kernel
  have hl := lv_entry ([.ref (ad 0 0), .int p0]) (n := 2) (Nat.le_of_ble_eq_true rfl)
  rw [lg_entry_eq]
  generalize (lg_sl ([.ref (ad 0 0), .int p0]) ++ List.replicate (2 - (lg_sl ([.ref (ad 0 0), .int p0])).length) Slot.unset).toArray = ls at hl ⊢
  have hl : lv_has ls 2 [(0, .ref (ad 0 0)), (1, .int p0)] := hl
  refine lv_aload_n hx hb dX4_dueAt_0 rfl (lv_at hl 0 rfl) ?_
  refine lv_iload_n hx hb dX4_dueAt_1 rfl (lv_at hl 1 rfl) ?_
  refine g_cu1 (va_runV (As := [.int p0]) (rest := []) ⟨hx, hb, hml, hown, hts⟩ (m_X4_isAsked l D cy s.heap.size ad σ ν hJ (p0)) (cwV 1 hts gX4_dueAt_X4_isAsked rfl rfl rfl (by decide +kernel) ⟨Nat.le_of_ble_eq_true rfl, Nat.le_of_ble_eq_true rfl⟩) (g_preV (C := RX4) (B := atSz s.heap.size (MW D cy ad σ ν)) hK ⟨rfl, hB⟩ (hB 0 0 Nat.zero_lt_one) rfl) rfl rfl hl.1 rfl (lv_room (Nat.le_of_ble_eq_true rfl)) dX4_dueAt_2 ⟨Nat.zero_le _, Nat.zero_le _⟩) hS (fun q _ h => wA.mono hS.1 h) (fun q h => wA.mono hS.1 h) (fun H1 locs1 hB1 hz1 hk1 hS1 => ?_)
  obtain ⟨σ1, hs1⟩ : ∃ z : IT, z = oIsAsked σ ν p0 := ⟨_, rfl⟩
  rw [← hs1] at hB1
  refine lv_if_ne (tgt := 12) hx hb dX4_dueAt_5 (by decide) (fun c_5 => ?_) (fun c_5 => ?_)
  · -- 5 t
    obtain ⟨q0, hq0, eh⟩ := idx_page hI.1 (zb_n0.mp c_5)
    have q30 : q0 < 30 := Nat.lt_of_lt_of_le hq0 hI.1
    have ec : p0.toNatClampNeg = q0 := by rw [eh, cl_nI (by omega)]
    refine lv_aload_n hx hb dX4_dueAt_12 rfl (lv_at hl 0 rfl) ?_
    refine lv_iload_n hx hb dX4_dueAt_13 rfl (lv_at hl 1 rfl) ?_
    refine lv_topi (fun y1 ey1 => ?_)
    obtain rfl : y1 = nI q0 := ey1.trans (eh)
    refine g_csr (va_runV (As := [.int (nI q0)]) (rest := []) ⟨hx, hb, hml, hown, hts⟩ (m_X4_counts l D cy ad σ1 ν q0 q30) (cwV 1 hts gX4_dueAt_X4_counts rfl rfl rfl (by decide +kernel) ⟨Nat.le_of_ble_eq_true rfl, Nat.le_of_ble_eq_true rfl⟩) (g_preV (C := RX4) (B := (MW D cy ad σ1 ν)) hK hB1 (hB1 0 0 Nat.zero_lt_one) rfl) rfl rfl hl.1 rfl (lv_room (Nat.le_of_ble_eq_true rfl)) dX4_dueAt_14 ⟨Nat.zero_le _, Nat.zero_le _⟩) ?_
    refine lv_if_eq (tgt := 29) hx hb dX4_dueAt_17 (by decide) (fun c_17 => ?_) (fun c_17 => ?_)
    · -- 17 t
      refine lv_iconst (v := (-1)) hx hb dX4_dueAt_29 (by decide) ?_
      exact g_iretU hx hb hr hlocks hS1 (by rw [hs1] at hB1; exact hB1) (Nat.le_refl _) (Nat.le_refl _) dX4_dueAt_30 (by rw [oDueAt, if_pos (zb_n0.mp c_5), ec, if_neg (fun q => by rw [hs1] at c_17; rw [zb_0.mp (show zb (keptB (σ 14 q0) (σ 15 q0)) = 0 from c_17)] at q; cases q)])
    · -- 17 f
      refine lv_aload_n hx hb dX4_dueAt_20 rfl (lv_at hl 0 rfl) ?_
      refine g_get (C := RX4) (T := TX4) (N := 26) (ci := 4) (fs := [.int (σ1 30 0), .int (σ1 0 0), .int (nI (ν 1 0)), .ref (ad 6 0), .ref (ad 7 0), .ref (ad 8 0), .ref (ad 9 0), .int (σ1 1 0), .int (σ1 2 0), .int (σ1 3 0), .int (σ1 31 0), .int (σ1 32 0), .int (nI (ν 0 0)), .ref (ad 18 0), .ref (ad 17 0), .ref (ad 16 0), .ref (ad 10 0), .ref (ad 11 0), .ref (ad 12 0), .ref (ad 13 0), .ref (ad 14 0), .ref (ad 15 0), .int (nI (ν 6 0)), .ref (ad 34 0), .ref (ad 35 0), .ref (ad 36 0)]) hx hb hts inX4 hown hK (hB1 0 0 Nat.zero_lt_one) rfl 17 (by decide) lk44 rfl rfl dX4_dueAt_21 ?_
      refine lv_iload_n hx hb dX4_dueAt_24 rfl (lv_at hl 1 rfl) ?_
      refine lv_topi (fun y2 ey2 => ?_)
      obtain rfl : y2 = nI q0 := ey2.trans (eh)
      refine g_iald (f := σ1 11) (x := σ1 11 q0) hx hb hK (hB1 11 0 Nat.zero_lt_one) (vp_in_nI (N := 30) (by omega) (by decide)) (by rw [cl_nI (by omega)]) dX4_dueAt_25 ?_
      refine lv_goto (tgt := 30) hx hb dX4_dueAt_26 (by decide) ?_
      exact g_iretU hx hb hr hlocks hS1 (by rw [hs1] at hB1; exact hB1) (Nat.le_refl _) (Nat.le_refl _) dX4_dueAt_30 (by rw [oDueAt, if_pos (zb_n0.mp c_5), ec, if_pos (by rw [hs1] at c_17; exact zb_n0.mp (show ¬ zb (keptB (σ 14 q0) (σ 15 q0)) = 0 from c_17))]; rw [hs1]; rfl)
  · -- 5 f
    refine lv_iconst (v := 0) hx hb dX4_dueAt_8 (by decide) ?_
    refine lv_goto (tgt := 30) hx hb dX4_dueAt_9 (by decide) ?_
    exact g_iretU hx hb hr hlocks hS1 (by rw [hs1] at hB1; exact hB1) (Nat.le_refl _) (Nat.le_refl _) dX4_dueAt_30 (by rw [oDueAt, if_neg (fun q => by rw [zb_0.mp c_5] at q; cases q)])

set_option maxHeartbeats 4000000 in
set_option maxRecDepth 100000 in
/-- model: visits -/
theorem m_X4_visits (l : Launch) (D : va_G) (cy : Nat → ClassId) (sz : Nat) (ad : NT) (σ : IT) (ν : NT) (hJ : wJ cM ad) (hI : MI σ ν) (p0 : Int32) : Met l yX4_visits wsX4_visits ({ frames := 3, cells := 0, slots := 0, locals := 90 } : Room) (va_Pc [.ref (ad 0 0), .int p0] (fun U => gK D cy U ∧ (atSz sz (MW D cy ad σ ν)) U.heap)) (uQ (some (.int (oPageQ σ ν 12 p0))) (MW D cy ad (oIsAsked σ ν p0) ν) (wA cM ad sz)) 0 0 (wA cM ad sz) := by
  refine Met.ofW (cc := cX4_visits) (maxL := 2) (ret := (some .int)) (by decide) rfl ?_
  intro p e s m args below meth c s₁ B9 hml hv
  obtain ⟨rfl, hK, hsz, hB⟩ := hv
  have hx := B9.exec
  have hb := B9.bytes
  have hr := B9.returns
  have hts := atoms_spec (ws := wsX4_visits) B9.pre
  have hown : s.vm.findClass RX4 = some m.cls := findClass_of_methodNamed B9.named
  have hlocks := B9.notSynchronized
  subst hsz
  have hS : va_S (wA cM ad s.heap.size) s.heap s.heap [] := va_S.rf
  have lk47 := hts (.fieldLink RX4 47 "PolitecrawlModel" "visits" "[I") (by decide +kernel)
  have inX4 : ∀ w ∈ u_ws RX4 TX4 26, w ∈ wsX4_visits := by decide +kernel
  have hl := lv_entry ([.ref (ad 0 0), .int p0]) (n := 2) (Nat.le_of_ble_eq_true rfl)
  rw [lg_entry_eq]
  generalize (lg_sl ([.ref (ad 0 0), .int p0]) ++ List.replicate (2 - (lg_sl ([.ref (ad 0 0), .int p0])).length) Slot.unset).toArray = ls at hl ⊢
  have hl : lv_has ls 2 [(0, .ref (ad 0 0)), (1, .int p0)] := hl
  refine lv_aload_n hx hb dX4_visits_0 rfl (lv_at hl 0 rfl) ?_
  refine lv_iload_n hx hb dX4_visits_1 rfl (lv_at hl 1 rfl) ?_
  refine g_cu1 (va_runV (As := [.int p0]) (rest := []) ⟨hx, hb, hml, hown, hts⟩ (m_X4_isAsked l D cy s.heap.size ad σ ν hJ (p0)) (cwV 1 hts gX4_visits_X4_isAsked rfl rfl rfl (by decide +kernel) ⟨Nat.le_of_ble_eq_true rfl, Nat.le_of_ble_eq_true rfl⟩) (g_preV (C := RX4) (B := atSz s.heap.size (MW D cy ad σ ν)) hK ⟨rfl, hB⟩ (hB 0 0 Nat.zero_lt_one) rfl) rfl rfl hl.1 rfl (lv_room (Nat.le_of_ble_eq_true rfl)) dX4_visits_2 ⟨Nat.zero_le _, Nat.zero_le _⟩) hS (fun q _ h => wA.mono hS.1 h) (fun q h => wA.mono hS.1 h) (fun H1 locs1 hB1 hz1 hk1 hS1 => ?_)
  obtain ⟨σ1, hs1⟩ : ∃ z : IT, z = oIsAsked σ ν p0 := ⟨_, rfl⟩
  rw [← hs1] at hB1
  refine lv_if_eq (tgt := 17) hx hb dX4_visits_5 (by decide) (fun c_5 => ?_) (fun c_5 => ?_)
  · -- 5 t
    refine lv_iconst (v := 0) hx hb dX4_visits_17 (by decide) ?_
    exact g_iretU hx hb hr hlocks hS1 (by rw [hs1] at hB1; exact hB1) (Nat.le_refl _) (Nat.le_refl _) dX4_visits_18 (by rw [oPageQ, if_neg (fun q => by rw [zb_0.mp c_5] at q; cases q)])
  · -- 5 f
    obtain ⟨q0, hq0, eh⟩ := idx_page hI.1 (zb_n0.mp c_5)
    have q30 : q0 < 30 := Nat.lt_of_lt_of_le hq0 hI.1
    have ec : p0.toNatClampNeg = q0 := by rw [eh, cl_nI (by omega)]
    refine lv_aload_n hx hb dX4_visits_8 rfl (lv_at hl 0 rfl) ?_
    refine g_get (C := RX4) (T := TX4) (N := 26) (ci := 4) (fs := [.int (σ1 30 0), .int (σ1 0 0), .int (nI (ν 1 0)), .ref (ad 6 0), .ref (ad 7 0), .ref (ad 8 0), .ref (ad 9 0), .int (σ1 1 0), .int (σ1 2 0), .int (σ1 3 0), .int (σ1 31 0), .int (σ1 32 0), .int (nI (ν 0 0)), .ref (ad 18 0), .ref (ad 17 0), .ref (ad 16 0), .ref (ad 10 0), .ref (ad 11 0), .ref (ad 12 0), .ref (ad 13 0), .ref (ad 14 0), .ref (ad 15 0), .int (nI (ν 6 0)), .ref (ad 34 0), .ref (ad 35 0), .ref (ad 36 0)]) hx hb hts inX4 hown hK (hB1 0 0 Nat.zero_lt_one) rfl 18 (by decide) lk47 rfl rfl dX4_visits_9 ?_
    refine lv_iload_n hx hb dX4_visits_12 rfl (lv_at hl 1 rfl) ?_
    refine lv_topi (fun y1 ey1 => ?_)
    obtain rfl : y1 = nI q0 := ey1.trans (eh)
    refine g_iald (f := σ1 12) (x := σ1 12 q0) hx hb hK (hB1 12 0 Nat.zero_lt_one) (vp_in_nI (N := 30) (by omega) (by decide)) (by rw [cl_nI (by omega)]) dX4_visits_13 ?_
    refine lv_goto (tgt := 18) hx hb dX4_visits_14 (by decide) ?_
    exact g_iretU hx hb hr hlocks hS1 (by rw [hs1] at hB1; exact hB1) (Nat.le_refl _) (Nat.le_refl _) dX4_visits_18 (by rw [oPageQ, if_pos (zb_n0.mp c_5), ec]; rw [hs1]; rfl)

set_option maxHeartbeats 4000000 in
set_option maxRecDepth 100000 in
/-- model: changes -/
theorem m_X4_changes (l : Launch) (D : va_G) (cy : Nat → ClassId) (sz : Nat) (ad : NT) (σ : IT) (ν : NT) (hJ : wJ cM ad) (hI : MI σ ν) (p0 : Int32) : Met l yX4_changes wsX4_changes ({ frames := 3, cells := 0, slots := 0, locals := 90 } : Room) (va_Pc [.ref (ad 0 0), .int p0] (fun U => gK D cy U ∧ (atSz sz (MW D cy ad σ ν)) U.heap)) (uQ (some (.int (oPageQ σ ν 13 p0))) (MW D cy ad (oIsAsked σ ν p0) ν) (wA cM ad sz)) 0 0 (wA cM ad sz) := by
  refine Met.ofW (cc := cX4_changes) (maxL := 2) (ret := (some .int)) (by decide) rfl ?_
  intro p e s m args below meth c s₁ B9 hml hv
  obtain ⟨rfl, hK, hsz, hB⟩ := hv
  have hx := B9.exec
  have hb := B9.bytes
  have hr := B9.returns
  have hts := atoms_spec (ws := wsX4_changes) B9.pre
  have hown : s.vm.findClass RX4 = some m.cls := findClass_of_methodNamed B9.named
  have hlocks := B9.notSynchronized
  subst hsz
  have hS : va_S (wA cM ad s.heap.size) s.heap s.heap [] := va_S.rf
  have lk50 := hts (.fieldLink RX4 50 "PolitecrawlModel" "changes" "[I") (by decide +kernel)
  have inX4 : ∀ w ∈ u_ws RX4 TX4 26, w ∈ wsX4_changes := by decide +kernel
  have hl := lv_entry ([.ref (ad 0 0), .int p0]) (n := 2) (Nat.le_of_ble_eq_true rfl)
  rw [lg_entry_eq]
  generalize (lg_sl ([.ref (ad 0 0), .int p0]) ++ List.replicate (2 - (lg_sl ([.ref (ad 0 0), .int p0])).length) Slot.unset).toArray = ls at hl ⊢
  have hl : lv_has ls 2 [(0, .ref (ad 0 0)), (1, .int p0)] := hl
  refine lv_aload_n hx hb dX4_changes_0 rfl (lv_at hl 0 rfl) ?_
  refine lv_iload_n hx hb dX4_changes_1 rfl (lv_at hl 1 rfl) ?_
  refine g_cu1 (va_runV (As := [.int p0]) (rest := []) ⟨hx, hb, hml, hown, hts⟩ (m_X4_isAsked l D cy s.heap.size ad σ ν hJ (p0)) (cwV 1 hts gX4_changes_X4_isAsked rfl rfl rfl (by decide +kernel) ⟨Nat.le_of_ble_eq_true rfl, Nat.le_of_ble_eq_true rfl⟩) (g_preV (C := RX4) (B := atSz s.heap.size (MW D cy ad σ ν)) hK ⟨rfl, hB⟩ (hB 0 0 Nat.zero_lt_one) rfl) rfl rfl hl.1 rfl (lv_room (Nat.le_of_ble_eq_true rfl)) dX4_changes_2 ⟨Nat.zero_le _, Nat.zero_le _⟩) hS (fun q _ h => wA.mono hS.1 h) (fun q h => wA.mono hS.1 h) (fun H1 locs1 hB1 hz1 hk1 hS1 => ?_)
  obtain ⟨σ1, hs1⟩ : ∃ z : IT, z = oIsAsked σ ν p0 := ⟨_, rfl⟩
  rw [← hs1] at hB1
  refine lv_if_eq (tgt := 17) hx hb dX4_changes_5 (by decide) (fun c_5 => ?_) (fun c_5 => ?_)
  · -- 5 t
    refine lv_iconst (v := 0) hx hb dX4_changes_17 (by decide) ?_
    exact g_iretU hx hb hr hlocks hS1 (by rw [hs1] at hB1; exact hB1) (Nat.le_refl _) (Nat.le_refl _) dX4_changes_18 (by rw [oPageQ, if_neg (fun q => by rw [zb_0.mp c_5] at q; cases q)])
  · -- 5 f
    obtain ⟨q0, hq0, eh⟩ := idx_page hI.1 (zb_n0.mp c_5)
    have q30 : q0 < 30 := Nat.lt_of_lt_of_le hq0 hI.1
    have ec : p0.toNatClampNeg = q0 := by rw [eh, cl_nI (by omega)]
    refine lv_aload_n hx hb dX4_changes_8 rfl (lv_at hl 0 rfl) ?_
    refine g_get (C := RX4) (T := TX4) (N := 26) (ci := 4) (fs := [.int (σ1 30 0), .int (σ1 0 0), .int (nI (ν 1 0)), .ref (ad 6 0), .ref (ad 7 0), .ref (ad 8 0), .ref (ad 9 0), .int (σ1 1 0), .int (σ1 2 0), .int (σ1 3 0), .int (σ1 31 0), .int (σ1 32 0), .int (nI (ν 0 0)), .ref (ad 18 0), .ref (ad 17 0), .ref (ad 16 0), .ref (ad 10 0), .ref (ad 11 0), .ref (ad 12 0), .ref (ad 13 0), .ref (ad 14 0), .ref (ad 15 0), .int (nI (ν 6 0)), .ref (ad 34 0), .ref (ad 35 0), .ref (ad 36 0)]) hx hb hts inX4 hown hK (hB1 0 0 Nat.zero_lt_one) rfl 19 (by decide) lk50 rfl rfl dX4_changes_9 ?_
    refine lv_iload_n hx hb dX4_changes_12 rfl (lv_at hl 1 rfl) ?_
    refine lv_topi (fun y1 ey1 => ?_)
    obtain rfl : y1 = nI q0 := ey1.trans (eh)
    refine g_iald (f := σ1 13) (x := σ1 13 q0) hx hb hK (hB1 13 0 Nat.zero_lt_one) (vp_in_nI (N := 30) (by omega) (by decide)) (by rw [cl_nI (by omega)]) dX4_changes_13 ?_
    refine lv_goto (tgt := 18) hx hb dX4_changes_14 (by decide) ?_
    exact g_iretU hx hb hr hlocks hS1 (by rw [hs1] at hB1; exact hB1) (Nat.le_refl _) (Nat.le_refl _) dX4_changes_18 (by rw [oPageQ, if_pos (zb_n0.mp c_5), ec]; rw [hs1]; rfl)

set_option maxHeartbeats 4000000 in
set_option maxRecDepth 100000 in
/-- model: mayVisit -/
theorem m_X4_mayVisit (l : Launch) (D : va_G) (cy : Nat → ClassId) (sz : Nat) (ad : NT) (σ : IT) (ν : NT) (hJ : wJ cM ad) (hI : MI σ ν) (p0 : Int32) : Met l yX4_mayVisit wsX4_mayVisit ({ frames := 3, cells := 0, slots := 0, locals := 90 } : Room) (va_Pc [.ref (ad 0 0), .int p0] (fun U => gK D cy U ∧ (atSz sz (MW D cy ad σ ν)) U.heap)) (uQ (some (.int (zb (oMayVisit σ ν p0)))) (MW D cy ad (oIsAsked σ ν p0) ν) (wA cM ad sz)) 0 0 (wA cM ad sz) := by
  refine Met.ofW (cc := cX4_mayVisit) (maxL := 2) (ret := (some .boolean)) (by decide) rfl ?_
  intro p e s m args below meth c s₁ B9 hml hv
  obtain ⟨rfl, hK, hsz, hB⟩ := hv
  have hx := B9.exec
  have hb := B9.bytes
  have hr := B9.returns
  have hts := atoms_spec (ws := wsX4_mayVisit) B9.pre
  have hown : s.vm.findClass RX4 = some m.cls := findClass_of_methodNamed B9.named
  have hlocks := B9.notSynchronized
  subst hsz
  have hS : va_S (wA cM ad s.heap.size) s.heap s.heap [] := va_S.rf
  have hl := lv_entry ([.ref (ad 0 0), .int p0]) (n := 2) (Nat.le_of_ble_eq_true rfl)
  rw [lg_entry_eq]
  generalize (lg_sl ([.ref (ad 0 0), .int p0]) ++ List.replicate (2 - (lg_sl ([.ref (ad 0 0), .int p0])).length) Slot.unset).toArray = ls at hl ⊢
  have hl : lv_has ls 2 [(0, .ref (ad 0 0)), (1, .int p0)] := hl
  refine lv_aload_n hx hb dX4_mayVisit_0 rfl (lv_at hl 0 rfl) ?_
  refine lv_iload_n hx hb dX4_mayVisit_1 rfl (lv_at hl 1 rfl) ?_
  refine g_cu1 (va_runV (As := [.int p0]) (rest := []) ⟨hx, hb, hml, hown, hts⟩ (m_X4_isAsked l D cy s.heap.size ad σ ν hJ (p0)) (cwV 1 hts gX4_mayVisit_X4_isAsked rfl rfl rfl (by decide +kernel) ⟨Nat.le_of_ble_eq_true rfl, Nat.le_of_ble_eq_true rfl⟩) (g_preV (C := RX4) (B := atSz s.heap.size (MW D cy ad σ ν)) hK ⟨rfl, hB⟩ (hB 0 0 Nat.zero_lt_one) rfl) rfl rfl hl.1 rfl (lv_room (Nat.le_of_ble_eq_true rfl)) dX4_mayVisit_2 ⟨Nat.zero_le _, Nat.zero_le _⟩) hS (fun q _ h => wA.mono hS.1 h) (fun q h => wA.mono hS.1 h) (fun H1 locs1 hB1 hz1 hk1 hS1 => ?_)
  obtain ⟨σ1, hs1⟩ : ∃ z : IT, z = oIsAsked σ ν p0 := ⟨_, rfl⟩
  rw [← hs1] at hB1
  refine lv_if_eq (tgt := 20) hx hb dX4_mayVisit_5 (by decide) (fun c_5 => ?_) (fun c_5 => ?_)
  · -- 5 t
    refine lv_iconst (v := 0) hx hb dX4_mayVisit_20 (by decide) ?_
    exact g_zretU hx hb hr hlocks rfl hS1 (by rw [hs1] at hB1; exact hB1) (Nat.le_refl _) (Nat.le_refl _) dX4_mayVisit_21 (by rw [oMayVisit, if_neg (fun q => by rw [zb_0.mp c_5] at q; cases q)]; rfl)
  · -- 5 f
    obtain ⟨q0, hq0, eh⟩ := idx_page hI.1 (zb_n0.mp c_5)
    have q30 : q0 < 30 := Nat.lt_of_lt_of_le hq0 hI.1
    have ec : p0.toNatClampNeg = q0 := by rw [eh, cl_nI (by omega)]
    refine lv_aload_n hx hb dX4_mayVisit_8 rfl (lv_at hl 0 rfl) ?_
    refine lv_iload_n hx hb dX4_mayVisit_9 rfl (lv_at hl 1 rfl) ?_
    refine lv_topi (fun y1 ey1 => ?_)
    obtain rfl : y1 = nI q0 := ey1.trans (eh)
    refine g_csr (va_runV (As := [.int (nI q0)]) (rest := []) ⟨hx, hb, hml, hown, hts⟩ (m_X4_isOpen l D cy ad σ1 ν hI q0 hq0) (cwV 1 hts gX4_mayVisit_X4_isOpen rfl rfl rfl (by decide +kernel) ⟨Nat.le_of_ble_eq_true rfl, Nat.le_of_ble_eq_true rfl⟩) (g_preV (C := RX4) (B := (MW D cy ad σ1 ν)) hK hB1 (hB1 0 0 Nat.zero_lt_one) rfl) rfl rfl hl.1 rfl (lv_room (Nat.le_of_ble_eq_true rfl)) dX4_mayVisit_10 ⟨Nat.zero_le _, Nat.zero_le _⟩) ?_
    refine lv_if_eq (tgt := 20) hx hb dX4_mayVisit_13 (by decide) (fun c_13 => ?_) (fun c_13 => ?_)
    · -- 13 t
      refine lv_iconst (v := 0) hx hb dX4_mayVisit_20 (by decide) ?_
      exact g_zretU hx hb hr hlocks rfl hS1 (by rw [hs1] at hB1; exact hB1) (Nat.le_refl _) (Nat.le_refl _) dX4_mayVisit_21 (by rw [hs1] at c_13; have c_13 :  zb (openB σ ν q0) = 0 := c_13; rw [oMayVisit, if_pos (zb_n0.mp c_5), ec, (zb_0.mp c_13)]; rfl)
    · -- 13 f
      refine lv_iconst (v := 1) hx hb dX4_mayVisit_16 (by decide) ?_
      refine lv_goto (tgt := 21) hx hb dX4_mayVisit_17 (by decide) ?_
      exact g_zretU hx hb hr hlocks rfl hS1 (by rw [hs1] at hB1; exact hB1) (Nat.le_refl _) (Nat.le_refl _) dX4_mayVisit_21 (by rw [hs1] at c_13; have c_13 : ¬ zb (openB σ ν q0) = 0 := c_13; rw [oMayVisit, if_pos (zb_n0.mp c_5), ec, (zb_n0.mp c_13)]; rfl)

set_option maxHeartbeats 4000000 in
set_option maxRecDepth 100000 in
/-- model: next -/
theorem m_X4_next (l : Launch) (D : va_G) (cy : Nat → ClassId) (sz : Nat) (ad : NT) (σ : IT) (ν : NT) (hJ : wJ cM ad) (hI : MI σ ν) : Met l yX4_next wsX4_next ({ frames := 3, cells := 0, slots := 0, locals := 90 } : Room) (va_Pc [.ref (ad 0 0)] (fun U => gK D cy U ∧ (atSz sz (MW D cy ad σ ν)) U.heap)) (uQ (some (.int (numO (bestM (T0 σ) ν (ν 0 0) 0 none 0)))) (MW D cy ad (T0 σ) ν) (wA cM ad sz)) 0 0 (wA cM ad sz) := by
  refine Met.ofW (cc := cX4_next) (maxL := 1) (ret := (some .int)) (by decide) rfl ?_
  intro p e s m args below meth c s₁ B9 hml hv
  obtain ⟨rfl, hK, hsz, hB⟩ := hv
  have hx := B9.exec
  have hb := B9.bytes
  have hr := B9.returns
  have hts := atoms_spec (ws := wsX4_next) B9.pre
  have hown : s.vm.findClass RX4 = some m.cls := findClass_of_methodNamed B9.named
  have hlocks := B9.notSynchronized
  subst hsz
  have hS : va_S (wA cM ad s.heap.size) s.heap s.heap [] := va_S.rf
  have lk69 := hts (.fieldLink RX4 69 "PolitecrawlModel" "thrown" "I") (by decide +kernel)
  have inX4 : ∀ w ∈ u_ws RX4 TX4 26, w ∈ wsX4_next := by decide +kernel
  have hl := lv_entry ([.ref (ad 0 0)]) (n := 1) (Nat.le_of_ble_eq_true rfl)
  rw [lg_entry_eq]
  generalize (lg_sl ([.ref (ad 0 0)]) ++ List.replicate (1 - (lg_sl ([.ref (ad 0 0)])).length) Slot.unset).toArray = ls at hl ⊢
  have hl : lv_has ls 1 [(0, .ref (ad 0 0))] := hl
  refine lv_aload_n hx hb dX4_next_0 rfl (lv_at hl 0 rfl) ?_
  refine lv_iconst (v := 0) hx hb dX4_next_1 (by decide) ?_
  refine g_put (C := RX4) (T := TX4) (N := 26) (ci := 4) (fs := [.int (σ 30 0), .int (σ 0 0), .int (nI (ν 1 0)), .ref (ad 6 0), .ref (ad 7 0), .ref (ad 8 0), .ref (ad 9 0), .int (σ 1 0), .int (σ 2 0), .int (σ 3 0), .int (σ 31 0), .int (σ 32 0), .int (nI (ν 0 0)), .ref (ad 18 0), .ref (ad 17 0), .ref (ad 16 0), .ref (ad 10 0), .ref (ad 11 0), .ref (ad 12 0), .ref (ad 13 0), .ref (ad 14 0), .ref (ad 15 0), .int (nI (ν 6 0)), .ref (ad 34 0), .ref (ad 35 0), .ref (ad 36 0)]) (A := (wA cM ad s.heap.size)) hx hb hts inX4 tyX4 tyX4_ok nmX4 hown hK (hB 0 0 Nat.zero_lt_one) rfl hS (wA.in (k := 0) (i := 0) Nat.zero_lt_one) 0 (by decide) lk69 rfl rfl rfl rfl (Nat.le_of_ble_eq_true rfl) dX4_next_2 (fun H1 locs1 hc1 hu1 hS1 => ?_)
  have hB1 : MW D cy ad (up2 σ 30 0 0) ν H1 := hB.sc hJ (by decide) hc1 hu1
  obtain ⟨σ1, hs1⟩ : ∃ z : IT, z = up2 σ 30 0 0 := ⟨_, rfl⟩
  rw [← hs1] at hB1
  refine lv_aload_n hx hb dX4_next_5 rfl (lv_at hl 0 rfl) ?_
  refine g_csr (va_runV (As := []) (rest := []) ⟨hx, hb, hml, hown, hts⟩ (m_X4_best l D cy ad σ1 ν hI) (cwV 0 hts gX4_next_X4_best rfl rfl rfl (by decide +kernel) ⟨Nat.le_of_ble_eq_true rfl, Nat.le_of_ble_eq_true rfl⟩) (g_preV (C := RX4) (B := (MW D cy ad σ1 ν)) hK hB1 (hB1 0 0 Nat.zero_lt_one) rfl) rfl rfl hl.1 rfl (lv_room (Nat.le_of_ble_eq_true rfl)) dX4_next_6 ⟨Nat.zero_le _, Nat.zero_le _⟩) ?_
  exact g_iretU hx hb hr hlocks hS1 (by rw [hs1] at hB1; exact hB1) (Nat.le_refl _) (Nat.le_refl _) dX4_next_9 (by rw [hs1])

set_option maxHeartbeats 4000000 in
set_option maxRecDepth 100000 in
/-- model: nextByScan -/
theorem m_X4_nextByScan (l : Launch) (D : va_G) (cy : Nat → ClassId) (sz : Nat) (ad : NT) (σ : IT) (ν : NT) (hJ : wJ cM ad) (hI : MI σ ν) : Met l yX4_nextByScan wsX4_nextByScan ({ frames := 3, cells := 0, slots := 0, locals := 90 } : Room) (va_Pc [.ref (ad 0 0)] (fun U => gK D cy U ∧ (atSz sz (MW D cy ad σ ν)) U.heap)) (uQ (some (.int (numO (bestM (T0 σ) ν (ν 0 0) 0 none 0)))) (MW D cy ad (T0 σ) ν) (wA cM ad sz)) 0 0 (wA cM ad sz) := by
  refine Met.ofW (cc := cX4_nextByScan) (maxL := 1) (ret := (some .int)) (by decide) rfl ?_
  intro p e s m args below meth c s₁ B9 hml hv
  obtain ⟨rfl, hK, hsz, hB⟩ := hv
  have hx := B9.exec
  have hb := B9.bytes
  have hr := B9.returns
  have hts := atoms_spec (ws := wsX4_nextByScan) B9.pre
  have hown : s.vm.findClass RX4 = some m.cls := findClass_of_methodNamed B9.named
  have hlocks := B9.notSynchronized
  subst hsz
  have hS : va_S (wA cM ad s.heap.size) s.heap s.heap [] := va_S.rf
  have lk69 := hts (.fieldLink RX4 69 "PolitecrawlModel" "thrown" "I") (by decide +kernel)
  have inX4 : ∀ w ∈ u_ws RX4 TX4 26, w ∈ wsX4_nextByScan := by decide +kernel
  have hl := lv_entry ([.ref (ad 0 0)]) (n := 1) (Nat.le_of_ble_eq_true rfl)
  rw [lg_entry_eq]
  generalize (lg_sl ([.ref (ad 0 0)]) ++ List.replicate (1 - (lg_sl ([.ref (ad 0 0)])).length) Slot.unset).toArray = ls at hl ⊢
  have hl : lv_has ls 1 [(0, .ref (ad 0 0))] := hl
  refine lv_aload_n hx hb dX4_nextByScan_0 rfl (lv_at hl 0 rfl) ?_
  refine lv_iconst (v := 0) hx hb dX4_nextByScan_1 (by decide) ?_
  refine g_put (C := RX4) (T := TX4) (N := 26) (ci := 4) (fs := [.int (σ 30 0), .int (σ 0 0), .int (nI (ν 1 0)), .ref (ad 6 0), .ref (ad 7 0), .ref (ad 8 0), .ref (ad 9 0), .int (σ 1 0), .int (σ 2 0), .int (σ 3 0), .int (σ 31 0), .int (σ 32 0), .int (nI (ν 0 0)), .ref (ad 18 0), .ref (ad 17 0), .ref (ad 16 0), .ref (ad 10 0), .ref (ad 11 0), .ref (ad 12 0), .ref (ad 13 0), .ref (ad 14 0), .ref (ad 15 0), .int (nI (ν 6 0)), .ref (ad 34 0), .ref (ad 35 0), .ref (ad 36 0)]) (A := (wA cM ad s.heap.size)) hx hb hts inX4 tyX4 tyX4_ok nmX4 hown hK (hB 0 0 Nat.zero_lt_one) rfl hS (wA.in (k := 0) (i := 0) Nat.zero_lt_one) 0 (by decide) lk69 rfl rfl rfl rfl (Nat.le_of_ble_eq_true rfl) dX4_nextByScan_2 (fun H1 locs1 hc1 hu1 hS1 => ?_)
  have hB1 : MW D cy ad (up2 σ 30 0 0) ν H1 := hB.sc hJ (by decide) hc1 hu1
  obtain ⟨σ1, hs1⟩ : ∃ z : IT, z = up2 σ 30 0 0 := ⟨_, rfl⟩
  rw [← hs1] at hB1
  refine lv_aload_n hx hb dX4_nextByScan_5 rfl (lv_at hl 0 rfl) ?_
  refine g_csr (va_runV (As := []) (rest := []) ⟨hx, hb, hml, hown, hts⟩ (m_X4_best l D cy ad σ1 ν hI) (cwV 0 hts gX4_nextByScan_X4_best rfl rfl rfl (by decide +kernel) ⟨Nat.le_of_ble_eq_true rfl, Nat.le_of_ble_eq_true rfl⟩) (g_preV (C := RX4) (B := (MW D cy ad σ1 ν)) hK hB1 (hB1 0 0 Nat.zero_lt_one) rfl) rfl rfl hl.1 rfl (lv_room (Nat.le_of_ble_eq_true rfl)) dX4_nextByScan_6 ⟨Nat.zero_le _, Nat.zero_le _⟩) ?_
  exact g_iretU hx hb hr hlocks hS1 (by rw [hs1] at hB1; exact hB1) (Nat.le_refl _) (Nat.le_refl _) dX4_nextByScan_9 (by rw [hs1])

set_option maxHeartbeats 4000000 in
set_option maxRecDepth 100000 in
/-- model: pass -/
theorem m_X4_pass (l : Launch) (D : va_G) (cy : Nat → ClassId) (sz : Nat) (ad : NT) (σ : IT) (ν : NT) (hJ : wJ cM ad) (t : Int32) : Met l yX4_pass wsX4_pass ({ frames := 1, cells := 0, slots := 0, locals := 30 } : Room) (va_Pc [.ref (ad 0 0), .int t] (fun U => gK D cy U ∧ (atSz sz (MW D cy ad σ ν)) U.heap)) (uQ (some (.int (oPass σ t).1)) (MW D cy ad (oPass σ t).2 ν) (wA cM ad sz)) 0 0 (wA cM ad sz) := by
  refine Met.ofW (cc := cX4_pass) (maxL := 2) (ret := (some .int)) (by decide) rfl ?_
  intro p e s m args below meth c s₁ B9 hml hv
  obtain ⟨rfl, hK, hsz, hB⟩ := hv
  have hx := B9.exec
  have hb := B9.bytes
  have hr := B9.returns
  have hts := atoms_spec (ws := wsX4_pass) B9.pre
  have hown : s.vm.findClass RX4 = some m.cls := findClass_of_methodNamed B9.named
  have hlocks := B9.notSynchronized
  subst hsz
  have hS : va_S (wA cM ad s.heap.size) s.heap s.heap [] := va_S.rf
  have lk69 := hts (.fieldLink RX4 69 "PolitecrawlModel" "thrown" "I") (by decide +kernel)
  have inX4 : ∀ w ∈ u_ws RX4 TX4 26, w ∈ wsX4_pass := by decide +kernel
  have lk110 := hts (.fieldLink RX4 110 "PolitecrawlModel" "now" "I") (by decide +kernel)
  have hl := lv_entry ([.ref (ad 0 0), .int t]) (n := 2) (Nat.le_of_ble_eq_true rfl)
  rw [lg_entry_eq]
  generalize (lg_sl ([.ref (ad 0 0), .int t]) ++ List.replicate (2 - (lg_sl ([.ref (ad 0 0), .int t])).length) Slot.unset).toArray = ls at hl ⊢
  have hl : lv_has ls 2 [(0, .ref (ad 0 0)), (1, .int t)] := hl
  refine lv_aload_n hx hb dX4_pass_0 rfl (lv_at hl 0 rfl) ?_
  refine lv_iconst (v := 0) hx hb dX4_pass_1 (by decide) ?_
  refine g_put (C := RX4) (T := TX4) (N := 26) (ci := 4) (fs := [.int (σ 30 0), .int (σ 0 0), .int (nI (ν 1 0)), .ref (ad 6 0), .ref (ad 7 0), .ref (ad 8 0), .ref (ad 9 0), .int (σ 1 0), .int (σ 2 0), .int (σ 3 0), .int (σ 31 0), .int (σ 32 0), .int (nI (ν 0 0)), .ref (ad 18 0), .ref (ad 17 0), .ref (ad 16 0), .ref (ad 10 0), .ref (ad 11 0), .ref (ad 12 0), .ref (ad 13 0), .ref (ad 14 0), .ref (ad 15 0), .int (nI (ν 6 0)), .ref (ad 34 0), .ref (ad 35 0), .ref (ad 36 0)]) (A := (wA cM ad s.heap.size)) hx hb hts inX4 tyX4 tyX4_ok nmX4 hown hK (hB 0 0 Nat.zero_lt_one) rfl hS (wA.in (k := 0) (i := 0) Nat.zero_lt_one) 0 (by decide) lk69 rfl rfl rfl rfl (Nat.le_of_ble_eq_true rfl) dX4_pass_2 (fun H1 locs1 hc1 hu1 hS1 => ?_)
  have hB1 : MW D cy ad (up2 σ 30 0 0) ν H1 := hB.sc hJ (by decide) hc1 hu1
  obtain ⟨σ1, hs1⟩ : ∃ z : IT, z = up2 σ 30 0 0 := ⟨_, rfl⟩
  rw [← hs1] at hB1
  refine lv_iload_n hx hb dX4_pass_5 rfl (lv_at hl 1 rfl) ?_
  refine lv_iconst (v := 1) hx hb dX4_pass_6 (by decide) ?_
  refine lv_sipush (v := 1000) hx hb dX4_pass_7 (by decide) ?_
  refine g_csr (va_runS (As := [.int t, .int 1, .int 1000]) (rest := []) ⟨hx, hb, hml, hown, hts⟩ (m_X4_in l D cy (t) (1) (1000)) (va_cwS 3 hts gX4_pass_X4_in rfl rfl rfl (by decide +kernel) ⟨Nat.le_of_ble_eq_true rfl, Nat.le_of_ble_eq_true rfl⟩) (g_preS (B := (fun _ => True)) hK trivial) rfl rfl hl.1 rfl (lv_room (Nat.le_of_ble_eq_true rfl)) dX4_pass_10 ⟨Nat.zero_le _, Nat.zero_le _⟩) ?_
  refine lv_if_ne (tgt := 22) hx hb dX4_pass_13 (by decide) (fun c_13 => ?_) (fun c_13 => ?_)
  · -- 13 t
    refine lv_aload_n hx hb dX4_pass_22 rfl (lv_at hl 0 rfl) ?_
    refine g_get (C := RX4) (T := TX4) (N := 26) (ci := 4) (fs := [.int (σ1 30 0), .int (σ1 0 0), .int (nI (ν 1 0)), .ref (ad 6 0), .ref (ad 7 0), .ref (ad 8 0), .ref (ad 9 0), .int (σ1 1 0), .int (σ1 2 0), .int (σ1 3 0), .int (σ1 31 0), .int (σ1 32 0), .int (nI (ν 0 0)), .ref (ad 18 0), .ref (ad 17 0), .ref (ad 16 0), .ref (ad 10 0), .ref (ad 11 0), .ref (ad 12 0), .ref (ad 13 0), .ref (ad 14 0), .ref (ad 15 0), .int (nI (ν 6 0)), .ref (ad 34 0), .ref (ad 35 0), .ref (ad 36 0)]) hx hb hts inX4 hown hK (hB1 0 0 Nat.zero_lt_one) rfl 1 (by decide) lk110 rfl rfl dX4_pass_23 ?_
    refine lv_iload_n hx hb dX4_pass_26 rfl (lv_at hl 1 rfl) ?_
    refine lv_iadd hx hb dX4_pass_27 ?_
    refine lv_ldc (v := 100000) hx hb hown (hts (.constant RX4 135 (100000)) (by decide +kernel)) dX4_pass_28 ?_
    refine lv_icmp_le (tgt := 39) hx hb dX4_pass_30 (by decide) (fun c_30 => ?_) (fun c_30 => ?_)
    · -- 30 t
      refine lv_aload_n hx hb dX4_pass_39 rfl (lv_at hl 0 rfl) ?_
      refine lv_dup hx hb dX4_pass_40 rfl ?_
      refine g_get (C := RX4) (T := TX4) (N := 26) (ci := 4) (fs := [.int (σ1 30 0), .int (σ1 0 0), .int (nI (ν 1 0)), .ref (ad 6 0), .ref (ad 7 0), .ref (ad 8 0), .ref (ad 9 0), .int (σ1 1 0), .int (σ1 2 0), .int (σ1 3 0), .int (σ1 31 0), .int (σ1 32 0), .int (nI (ν 0 0)), .ref (ad 18 0), .ref (ad 17 0), .ref (ad 16 0), .ref (ad 10 0), .ref (ad 11 0), .ref (ad 12 0), .ref (ad 13 0), .ref (ad 14 0), .ref (ad 15 0), .int (nI (ν 6 0)), .ref (ad 34 0), .ref (ad 35 0), .ref (ad 36 0)]) hx hb hts inX4 hown hK (hB1 0 0 Nat.zero_lt_one) rfl 1 (by decide) lk110 rfl rfl dX4_pass_41 ?_
      refine lv_iload_n hx hb dX4_pass_44 rfl (lv_at hl 1 rfl) ?_
      refine lv_iadd hx hb dX4_pass_45 ?_
      refine g_put (C := RX4) (T := TX4) (N := 26) (ci := 4) (fs := [.int (σ1 30 0), .int (σ1 0 0), .int (nI (ν 1 0)), .ref (ad 6 0), .ref (ad 7 0), .ref (ad 8 0), .ref (ad 9 0), .int (σ1 1 0), .int (σ1 2 0), .int (σ1 3 0), .int (σ1 31 0), .int (σ1 32 0), .int (nI (ν 0 0)), .ref (ad 18 0), .ref (ad 17 0), .ref (ad 16 0), .ref (ad 10 0), .ref (ad 11 0), .ref (ad 12 0), .ref (ad 13 0), .ref (ad 14 0), .ref (ad 15 0), .int (nI (ν 6 0)), .ref (ad 34 0), .ref (ad 35 0), .ref (ad 36 0)]) (A := (wA cM ad s.heap.size)) hx hb hts inX4 tyX4 tyX4_ok nmX4 hown hK (hB1 0 0 Nat.zero_lt_one) rfl hS1 (wA.in (k := 0) (i := 0) Nat.zero_lt_one) 1 (by decide) lk110 rfl rfl rfl rfl (Nat.le_of_ble_eq_true rfl) dX4_pass_46 (fun H2 locs2 hc2 hu2 hS2 => ?_)
      have hB2 : MW D cy ad (up2 σ1 0 0 ((σ1 0 0) + t)) ν H2 := hB1.sc hJ (by decide) hc2 hu2
      obtain ⟨σ2, hs2⟩ : ∃ z : IT, z = up2 σ1 0 0 ((σ1 0 0) + t) := ⟨_, rfl⟩
      rw [← hs2] at hB2
      refine lv_aload_n hx hb dX4_pass_49 rfl (lv_at hl 0 rfl) ?_
      refine g_get (C := RX4) (T := TX4) (N := 26) (ci := 4) (fs := [.int (σ2 30 0), .int (σ2 0 0), .int (nI (ν 1 0)), .ref (ad 6 0), .ref (ad 7 0), .ref (ad 8 0), .ref (ad 9 0), .int (σ2 1 0), .int (σ2 2 0), .int (σ2 3 0), .int (σ2 31 0), .int (σ2 32 0), .int (nI (ν 0 0)), .ref (ad 18 0), .ref (ad 17 0), .ref (ad 16 0), .ref (ad 10 0), .ref (ad 11 0), .ref (ad 12 0), .ref (ad 13 0), .ref (ad 14 0), .ref (ad 15 0), .int (nI (ν 6 0)), .ref (ad 34 0), .ref (ad 35 0), .ref (ad 36 0)]) hx hb hts inX4 hown hK (hB2 0 0 Nat.zero_lt_one) rfl 1 (by decide) lk110 rfl rfl dX4_pass_50 ?_
      exact g_iretU hx hb hr hlocks hS2 (by rw [oPass, if_pos (zb_n0.mp c_13), if_neg (by rw [hs1] at c_30; exact Int32.not_lt.mpr c_30)]; rw [hs2, hs1] at hB2; exact hB2) (Nat.le_refl _) (Nat.le_refl _) dX4_pass_53 (by rw [oPass, if_pos (zb_n0.mp c_13), if_neg (by rw [hs1] at c_30; exact Int32.not_lt.mpr c_30)]; rw [hs2, hs1]; rfl)
    · -- 30 f
      refine lv_aload_n hx hb dX4_pass_33 rfl (lv_at hl 0 rfl) ?_
      refine lv_iconst (v := 2) hx hb dX4_pass_34 (by decide) ?_
      refine g_cu1 (va_runV (As := [.int 2]) (rest := []) ⟨hx, hb, hml, hown, hts⟩ (m_X4_fails l D cy H1.size ad σ1 ν hJ (2)) (cwV 1 hts gX4_pass_X4_fails rfl rfl rfl (by decide +kernel) ⟨Nat.le_of_ble_eq_true rfl, Nat.le_of_ble_eq_true rfl⟩) (g_preV (C := RX4) (B := atSz H1.size (MW D cy ad σ1 ν)) hK ⟨rfl, hB1⟩ (hB1 0 0 Nat.zero_lt_one) rfl) rfl rfl hl.1 rfl (lv_room (Nat.le_of_ble_eq_true rfl)) dX4_pass_35 ⟨Nat.zero_le _, Nat.zero_le _⟩) hS1 (fun q _ h => wA.mono hS1.1 h) (fun q h => wA.mono hS1.1 h) (fun H3 locs3 hB3 hz3 hk3 hS3 => ?_)
      obtain ⟨σ3, hs3⟩ : ∃ z : IT, z = up2 σ1 30 0 2 := ⟨_, rfl⟩
      rw [← hs3] at hB3
      exact g_iretU hx hb hr hlocks hS3 (by rw [oPass, if_pos (zb_n0.mp c_13), if_pos (by rw [hs1] at c_30; exact Int32.not_le.mp c_30)]; rw [hs3, hs1] at hB3; exact hB3) (Nat.le_refl _) (Nat.le_refl _) dX4_pass_38 (by rw [oPass, if_pos (zb_n0.mp c_13), if_pos (by rw [hs1] at c_30; exact Int32.not_le.mp c_30)])
  · -- 13 f
    refine lv_aload_n hx hb dX4_pass_16 rfl (lv_at hl 0 rfl) ?_
    refine lv_iconst (v := 1) hx hb dX4_pass_17 (by decide) ?_
    refine g_cu1 (va_runV (As := [.int 1]) (rest := []) ⟨hx, hb, hml, hown, hts⟩ (m_X4_fails l D cy H1.size ad σ1 ν hJ (1)) (cwV 1 hts gX4_pass_X4_fails rfl rfl rfl (by decide +kernel) ⟨Nat.le_of_ble_eq_true rfl, Nat.le_of_ble_eq_true rfl⟩) (g_preV (C := RX4) (B := atSz H1.size (MW D cy ad σ1 ν)) hK ⟨rfl, hB1⟩ (hB1 0 0 Nat.zero_lt_one) rfl) rfl rfl hl.1 rfl (lv_room (Nat.le_of_ble_eq_true rfl)) dX4_pass_18 ⟨Nat.zero_le _, Nat.zero_le _⟩) hS1 (fun q _ h => wA.mono hS1.1 h) (fun q h => wA.mono hS1.1 h) (fun H4 locs4 hB4 hz4 hk4 hS4 => ?_)
    obtain ⟨σ4, hs4⟩ : ∃ z : IT, z = up2 σ1 30 0 1 := ⟨_, rfl⟩
    rw [← hs4] at hB4
    exact g_iretU hx hb hr hlocks hS4 (by rw [oPass, if_neg (fun q => by rw [zb_0.mp c_13] at q; cases q)]; rw [hs4, hs1] at hB4; exact hB4) (Nat.le_refl _) (Nat.le_refl _) dX4_pass_21 (by rw [oPass, if_neg (fun q => by rw [zb_0.mp c_13] at q; cases q)])
