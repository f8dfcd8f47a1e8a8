/-! Politecrawl: hosts and pages by number, ranks: or a throw -/
set_option maxRecDepth 100000 in
theorem xm_X3_knownHost_xcI : ∀ w ∈ (vx_atS "Politecrawl" 205 xcI xnm).filter goodWord, w ∈ wsX3_knownHost := by decide +kernel
set_option maxHeartbeats 4000000 in
set_option maxRecDepth 100000 in
/-- knownHost -/
theorem m_X3_knownHost (l : Launch) (hl9 : l.stackTraces = false) (D : va_G) (cy : Nat → ClassId) (A9 : Nat → Prop) (ad : NT) (τ : IT) (ν : NT) (i : Int32) : vx_Met l yX3_knownHost wsX3_knownHost ({ frames := 6, cells := 1, slots := 6, locals := 90 } : Room) (va_Pc [.ref (ad 0 0), .int i] (fun U => gK D cy U ∧ xK A9 U U.heap ∧ (CW D cy ad τ ν) U.heap)) (kQ (hostB i = true) (rQ (some (.ref (ad 6 i.toNatClampNeg))))) (xQ (fun E => hostB i = false ∧ E = xcI)) 1 6 (fun _ => False) := by
  refine vx_ofW (cc := cX3_knownHost) (maxL := 3) (ret := (some (.object "Politecrawl$Host"))) (by decide) rfl ?_
  intro p e s m args below meth c s₁ B9 hml ht9 hv
  obtain ⟨rfl, hK, hX9, hB⟩ := hv
  have hx := B9.exec
  have hb := B9.bytes
  have hr := B9.returns
  have hts := atoms_spec (ws := wsX3_knownHost) B9.pre
  have hown : s.vm.findClass RX3 = some m.cls := findClass_of_methodNamed B9.named
  have hlocks := B9.notSynchronized
  have lk18 := hts (.fieldLink RX3 18 "Politecrawl" "hosts" "[LPolitecrawl$Host;") (by decide +kernel)
  have inX3 : ∀ w ∈ u_ws RX3 TX3 9, w ∈ wsX3_knownHost := by decide +kernel
  have hl := lv_entry ([.ref (ad 0 0), .int i]) (n := 3) (Nat.le_of_ble_eq_true rfl)
  rw [lg_entry_eq]
  generalize (lg_sl ([.ref (ad 0 0), .int i]) ++ List.replicate (3 - (lg_sl ([.ref (ad 0 0), .int i])).length) Slot.unset).toArray = ls at hl ⊢
  have hl : lv_has ls 3 [(0, .ref (ad 0 0)), (1, .int i)] := hl
  refine lv_iload_n hx hb dX3_knownHost_0 rfl (lv_at hl 1 rfl) ?_
  refine lv_if_lt (tgt := 22) hx hb dX3_knownHost_1 (by decide) (fun c_1 => ?_) (fun c_1 => ?_)
  · -- 1 t
    refine lv_null hx hb dX3_knownHost_22 ?_
    refine lv_astore_nN (lv' := [(2, .null), (0, .ref (ad 0 0)), (1, .int i)]) hx hb dX3_knownHost_23 rfl hl (by decide) rfl (fun ls hl => ?_)
    refine lv_aload_nN hx hb dX3_knownHost_24 rfl (lv_at hl 0 rfl) ?_
    refine lv_ifnonnullN hx hb dX3_knownHost_25 ?_
    obtain ⟨sa9, hsa9⟩ := hX9.2.2.2.2 (203, "there is no such host") (by decide)
    exact vx_throwS (own := "Politecrawl") (cls := xcI) (text := "there is no such host") (names := xnm) (ik := 201) (is := 203) (ic := 205) (sa := sa9) (A := A9) hx hb hl9 hown (by decide +kernel) (by decide +kernel) (hts _ (by decide +kernel)) (hts _ (by decide +kernel)) hsa9 (vx_hat (fun w hw => hts w (xm_X3_knownHost_xcI w hw)) xw_xcI (vx_c (va_Nw.use rfl (hX9.2.2.1 xcI (by decide))) (vx_c (va_Nw.use rfl (hX9.2.2.2.1 _ (by decide))) (vx_c (va_Nw.use rfl (hX9.2.2.2.1 _ (by decide))) (vx_c (va_Nw.use rfl (hX9.2.2.2.1 _ (by decide))) vx_n))))) xg_xcI hX9.1 hX9.2.1 va_S.rf (by rw [hml]; exact hl.1) dX3_knownHost_28 dX3_knownHost_31 dX3_knownHost_32 dX3_knownHost_34 dX3_knownHost_37 (fun x hx => (ht9 x hx).elim) (Nat.le_of_ble_eq_true rfl) (Nat.le_of_ble_eq_true rfl) (Nat.le_of_ble_eq_true rfl) (Nat.le_of_ble_eq_true rfl) hlocks (fun t _ z1 z2 => ⟨⟨host_no1 c_1, rfl⟩, z1, z2⟩) (fun z hz => nomatch hz) (Nat.le_of_ble_eq_true rfl) (Nat.le_of_ble_eq_true rfl)
  · -- 1 f
    refine lv_iload_n hx hb dX3_knownHost_4 rfl (lv_at hl 1 rfl) ?_
    refine lv_aload_n hx hb dX3_knownHost_5 rfl (lv_at hl 0 rfl) ?_
    refine g_get (C := RX3) (T := TX3) (N := 9) (ci := 3) (fs := [.ref (ad 1 0), .ref (ad 2 0), .ref (ad 3 0), .int (nI (ν 0 0)), .int (τ 0 0), .int (τ 1 0), .int (τ 2 0), .int (τ 3 0), .int (τ 20 0)]) hx hb hts inX3 hown hK (hB 0 0 Nat.zero_lt_one) rfl 1 (by decide) lk18 rfl rfl dX3_knownHost_6 ?_
    refine g_alen (v := 6) hx hb hK 3 (hB 2 0 Nat.zero_lt_one) rfl rfl dX3_knownHost_9 ?_
    refine lv_icmp_ge (tgt := 22) hx hb dX3_knownHost_10 (by decide) (fun c_10 => ?_) (fun c_10 => ?_)
    · -- 10 t
      refine lv_null hx hb dX3_knownHost_22 ?_
      refine lv_astore_nN (lv' := [(2, .null), (0, .ref (ad 0 0)), (1, .int i)]) hx hb dX3_knownHost_23 rfl hl (by decide) rfl (fun ls hl => ?_)
      refine lv_aload_nN hx hb dX3_knownHost_24 rfl (lv_at hl 0 rfl) ?_
      refine lv_ifnonnullN hx hb dX3_knownHost_25 ?_
      obtain ⟨sa9, hsa9⟩ := hX9.2.2.2.2 (203, "there is no such host") (by decide)
      exact vx_throwS (own := "Politecrawl") (cls := xcI) (text := "there is no such host") (names := xnm) (ik := 201) (is := 203) (ic := 205) (sa := sa9) (A := A9) hx hb hl9 hown (by decide +kernel) (by decide +kernel) (hts _ (by decide +kernel)) (hts _ (by decide +kernel)) hsa9 (vx_hat (fun w hw => hts w (xm_X3_knownHost_xcI w hw)) xw_xcI (vx_c (va_Nw.use rfl (hX9.2.2.1 xcI (by decide))) (vx_c (va_Nw.use rfl (hX9.2.2.2.1 _ (by decide))) (vx_c (va_Nw.use rfl (hX9.2.2.2.1 _ (by decide))) (vx_c (va_Nw.use rfl (hX9.2.2.2.1 _ (by decide))) vx_n))))) xg_xcI hX9.1 hX9.2.1 va_S.rf (by rw [hml]; exact hl.1) dX3_knownHost_28 dX3_knownHost_31 dX3_knownHost_32 dX3_knownHost_34 dX3_knownHost_37 (fun x hx => (ht9 x hx).elim) (Nat.le_of_ble_eq_true rfl) (Nat.le_of_ble_eq_true rfl) (Nat.le_of_ble_eq_true rfl) (Nat.le_of_ble_eq_true rfl) hlocks (fun t _ z1 z2 => ⟨⟨host_no2 c_10, rfl⟩, z1, z2⟩) (fun z hz => nomatch hz) (Nat.le_of_ble_eq_true rfl) (Nat.le_of_ble_eq_true rfl)
    · -- 10 f
      have hh9 : hostB i = true := host_of c_1 c_10
      obtain ⟨q0, hq0, eh⟩ := idx_host hh9
      have ec : i.toNatClampNeg = q0 := by rw [eh, cl_nI (by omega)]
      refine lv_aload_n hx hb dX3_knownHost_13 rfl (lv_at hl 0 rfl) ?_
      refine g_get (C := RX3) (T := TX3) (N := 9) (ci := 3) (fs := [.ref (ad 1 0), .ref (ad 2 0), .ref (ad 3 0), .int (nI (ν 0 0)), .int (τ 0 0), .int (τ 1 0), .int (τ 2 0), .int (τ 3 0), .int (τ 20 0)]) hx hb hts inX3 hown hK (hB 0 0 Nat.zero_lt_one) rfl 1 (by decide) lk18 rfl rfl dX3_knownHost_14 ?_
      refine lv_iload_n hx hb dX3_knownHost_17 rfl (lv_at hl 1 rfl) ?_
      refine lv_topi (fun y1 ey1 => ?_)
      obtain rfl : y1 = nI q0 := ey1.trans (eh)
      refine g_hald (f := fun j => some (ad 6 j)) (v := .ref (ad 6 q0)) hx hb hK (hB 2 0 Nat.zero_lt_one) (vp_in_nI (N := 6) hq0 (by decide)) (by rw [cl_nI (by omega)]; rfl) dX3_knownHost_18 ?_
      refine lv_goto (tgt := 23) hx hb dX3_knownHost_19 (by decide) ?_
      refine lv_astore_n (lv' := [(2, .ref (ad 6 q0)), (0, .ref (ad 0 0)), (1, .int i)]) hx hb dX3_knownHost_23 rfl hl (by decide) rfl (fun ls hl => ?_)
      refine lv_aload_n hx hb dX3_knownHost_24 rfl (lv_at hl 0 rfl) ?_
      refine lv_ifnonnull (tgt := 38) hx hb dX3_knownHost_25 (by decide) ?_
      refine lv_aload_n hx hb dX3_knownHost_38 rfl (lv_at hl 0 rfl) ?_
      exact x_ret hh9 (x_aret hx hb hr hlocks (Or.inr ⟨_, rfl⟩) (Nat.le_of_ble_eq_true rfl) (Nat.le_of_ble_eq_true rfl) dX3_knownHost_39 (by rw [ec]))

set_option maxRecDepth 100000 in
theorem xm_X3_knownPage_xcI : ∀ w ∈ (vx_atS "Politecrawl" 205 xcI xnm).filter goodWord, w ∈ wsX3_knownPage := by decide +kernel
set_option maxHeartbeats 4000000 in
set_option maxRecDepth 100000 in
/-- knownPage -/
theorem m_X3_knownPage (l : Launch) (hl9 : l.stackTraces = false) (D : va_G) (cy : Nat → ClassId) (A9 : Nat → Prop) (ad : NT) (τ : IT) (ν : NT) (hn30 : ν 0 0 ≤ 30) (i : Int32) : vx_Met l yX3_knownPage wsX3_knownPage ({ frames := 6, cells := 1, slots := 6, locals := 90 } : Room) (va_Pc [.ref (ad 0 0), .int i] (fun U => gK D cy U ∧ xK A9 U U.heap ∧ (CW D cy ad τ ν) U.heap)) (kQ (pageB ν i = true) (rQ (some (.ref (ad 7 i.toNatClampNeg))))) (xQ (fun E => pageB ν i = false ∧ E = xcI)) 1 6 (fun _ => False) := by
  refine vx_ofW (cc := cX3_knownPage) (maxL := 3) (ret := (some (.object "Politecrawl$Page"))) (by decide) rfl ?_
  intro p e s m args below meth c s₁ B9 hml ht9 hv
  obtain ⟨rfl, hK, hX9, hB⟩ := hv
  have hx := B9.exec
  have hb := B9.bytes
  have hr := B9.returns
  have hts := atoms_spec (ws := wsX3_knownPage) B9.pre
  have hown : s.vm.findClass RX3 = some m.cls := findClass_of_methodNamed B9.named
  have hlocks := B9.notSynchronized
  have lk25 := hts (.fieldLink RX3 25 "Politecrawl" "found" "[LPolitecrawl$Page;") (by decide +kernel)
  have inX3 : ∀ w ∈ u_ws RX3 TX3 9, w ∈ wsX3_knownPage := by decide +kernel
  have hl := lv_entry ([.ref (ad 0 0), .int i]) (n := 3) (Nat.le_of_ble_eq_true rfl)
  rw [lg_entry_eq]
  generalize (lg_sl ([.ref (ad 0 0), .int i]) ++ List.replicate (3 - (lg_sl ([.ref (ad 0 0), .int i])).length) Slot.unset).toArray = ls at hl ⊢
  have hl : lv_has ls 3 [(0, .ref (ad 0 0)), (1, .int i)] := hl
  refine lv_iload_n hx hb dX3_knownPage_0 rfl (lv_at hl 1 rfl) ?_
  refine lv_if_lt (tgt := 22) hx hb dX3_knownPage_1 (by decide) (fun c_1 => ?_) (fun c_1 => ?_)
  · -- 1 t
    refine lv_null hx hb dX3_knownPage_22 ?_
    refine lv_astore_nN (lv' := [(2, .null), (0, .ref (ad 0 0)), (1, .int i)]) hx hb dX3_knownPage_23 rfl hl (by decide) rfl (fun ls hl => ?_)
    refine lv_aload_nN hx hb dX3_knownPage_24 rfl (lv_at hl 0 rfl) ?_
    refine lv_ifnonnullN hx hb dX3_knownPage_25 ?_
    obtain ⟨sa9, hsa9⟩ := hX9.2.2.2.2 (206, "there is no such page") (by decide)
    exact vx_throwS (own := "Politecrawl") (cls := xcI) (text := "there is no such page") (names := xnm) (ik := 201) (is := 206) (ic := 205) (sa := sa9) (A := A9) hx hb hl9 hown (by decide +kernel) (by decide +kernel) (hts _ (by decide +kernel)) (hts _ (by decide +kernel)) hsa9 (vx_hat (fun w hw => hts w (xm_X3_knownPage_xcI w hw)) xw_xcI (vx_c (va_Nw.use rfl (hX9.2.2.1 xcI (by decide))) (vx_c (va_Nw.use rfl (hX9.2.2.2.1 _ (by decide))) (vx_c (va_Nw.use rfl (hX9.2.2.2.1 _ (by decide))) (vx_c (va_Nw.use rfl (hX9.2.2.2.1 _ (by decide))) vx_n))))) xg_xcI hX9.1 hX9.2.1 va_S.rf (by rw [hml]; exact hl.1) dX3_knownPage_28 dX3_knownPage_31 dX3_knownPage_32 dX3_knownPage_34 dX3_knownPage_37 (fun x hx => (ht9 x hx).elim) (Nat.le_of_ble_eq_true rfl) (Nat.le_of_ble_eq_true rfl) (Nat.le_of_ble_eq_true rfl) (Nat.le_of_ble_eq_true rfl) hlocks (fun t _ z1 z2 => ⟨⟨page_no1 c_1, rfl⟩, z1, z2⟩) (fun z hz => nomatch hz) (Nat.le_of_ble_eq_true rfl) (Nat.le_of_ble_eq_true rfl)
  · -- 1 f
    refine lv_iload_n hx hb dX3_knownPage_4 rfl (lv_at hl 1 rfl) ?_
    refine lv_aload_n hx hb dX3_knownPage_5 rfl (lv_at hl 0 rfl) ?_
    refine g_get (C := RX3) (T := TX3) (N := 9) (ci := 3) (fs := [.ref (ad 1 0), .ref (ad 2 0), .ref (ad 3 0), .int (nI (ν 0 0)), .int (τ 0 0), .int (τ 1 0), .int (τ 2 0), .int (τ 3 0), .int (τ 20 0)]) hx hb hts inX3 hown hK (hB 0 0 Nat.zero_lt_one) rfl 2 (by decide) lk25 rfl rfl dX3_knownPage_6 ?_
    refine g_alen (v := 30) hx hb hK 4 (hB 3 0 Nat.zero_lt_one) rfl rfl dX3_knownPage_9 ?_
    refine lv_icmp_ge (tgt := 22) hx hb dX3_knownPage_10 (by decide) (fun c_10 => ?_) (fun c_10 => ?_)
    · -- 10 t
      refine lv_null hx hb dX3_knownPage_22 ?_
      refine lv_astore_nN (lv' := [(2, .null), (0, .ref (ad 0 0)), (1, .int i)]) hx hb dX3_knownPage_23 rfl hl (by decide) rfl (fun ls hl => ?_)
      refine lv_aload_nN hx hb dX3_knownPage_24 rfl (lv_at hl 0 rfl) ?_
      refine lv_ifnonnullN hx hb dX3_knownPage_25 ?_
      obtain ⟨sa9, hsa9⟩ := hX9.2.2.2.2 (206, "there is no such page") (by decide)
      exact vx_throwS (own := "Politecrawl") (cls := xcI) (text := "there is no such page") (names := xnm) (ik := 201) (is := 206) (ic := 205) (sa := sa9) (A := A9) hx hb hl9 hown (by decide +kernel) (by decide +kernel) (hts _ (by decide +kernel)) (hts _ (by decide +kernel)) hsa9 (vx_hat (fun w hw => hts w (xm_X3_knownPage_xcI w hw)) xw_xcI (vx_c (va_Nw.use rfl (hX9.2.2.1 xcI (by decide))) (vx_c (va_Nw.use rfl (hX9.2.2.2.1 _ (by decide))) (vx_c (va_Nw.use rfl (hX9.2.2.2.1 _ (by decide))) (vx_c (va_Nw.use rfl (hX9.2.2.2.1 _ (by decide))) vx_n))))) xg_xcI hX9.1 hX9.2.1 va_S.rf (by rw [hml]; exact hl.1) dX3_knownPage_28 dX3_knownPage_31 dX3_knownPage_32 dX3_knownPage_34 dX3_knownPage_37 (fun x hx => (ht9 x hx).elim) (Nat.le_of_ble_eq_true rfl) (Nat.le_of_ble_eq_true rfl) (Nat.le_of_ble_eq_true rfl) (Nat.le_of_ble_eq_true rfl) hlocks (fun t _ z1 z2 => ⟨⟨page_no2 hn30 c_10, rfl⟩, z1, z2⟩) (fun z hz => nomatch hz) (Nat.le_of_ble_eq_true rfl) (Nat.le_of_ble_eq_true rfl)
    · -- 10 f
      obtain ⟨q0, hq0, eh⟩ := idx_30 c_1 c_10
      have ec : i.toNatClampNeg = q0 := by rw [eh, cl_nI (by omega)]
      refine lv_aload_n hx hb dX3_knownPage_13 rfl (lv_at hl 0 rfl) ?_
      refine g_get (C := RX3) (T := TX3) (N := 9) (ci := 3) (fs := [.ref (ad 1 0), .ref (ad 2 0), .ref (ad 3 0), .int (nI (ν 0 0)), .int (τ 0 0), .int (τ 1 0), .int (τ 2 0), .int (τ 3 0), .int (τ 20 0)]) hx hb hts inX3 hown hK (hB 0 0 Nat.zero_lt_one) rfl 2 (by decide) lk25 rfl rfl dX3_knownPage_14 ?_
      refine lv_iload_n hx hb dX3_knownPage_17 rfl (lv_at hl 1 rfl) ?_
      refine lv_topi (fun y1 ey1 => ?_)
      obtain rfl : y1 = nI q0 := ey1.trans (eh)
      have hlt : q0 < 30 := hq0
      refine g_pald (f := fun j => if j < ν 0 0 then some (ad 7 j) else none) (v := va_rf (if q0 < ν 0 0 then some (ad 7 q0) else none)) hx hb hK (hB 3 0 Nat.zero_lt_one) (vp_in_nI hlt (by decide)) (by rw [cl_nI (by omega)]) dX3_knownPage_18 ?_
      by_cases hp9 : q0 < ν 0 0
      · -- page t
        refine g_top (v' := .ref (ad 7 q0)) (by rw [if_pos hp9]; rfl) ?_
        refine lv_goto (tgt := 23) hx hb dX3_knownPage_19 (by decide) ?_
        refine lv_astore_n (lv' := [(2, .ref (ad 7 q0)), (0, .ref (ad 0 0)), (1, .int i)]) hx hb dX3_knownPage_23 rfl hl (by decide) rfl (fun ls hl => ?_)
        refine lv_aload_n hx hb dX3_knownPage_24 rfl (lv_at hl 0 rfl) ?_
        refine lv_ifnonnull (tgt := 38) hx hb dX3_knownPage_25 (by decide) ?_
        refine lv_aload_n hx hb dX3_knownPage_38 rfl (lv_at hl 0 rfl) ?_
        exact x_ret (by rw [eh]; exact idx_page' hn30 hp9) (x_aret hx hb hr hlocks (Or.inr ⟨_, rfl⟩) (Nat.le_of_ble_eq_true rfl) (Nat.le_of_ble_eq_true rfl) dX3_knownPage_39 (by rw [ec]))
      · -- page f
        refine g_top (v' := .null) (by rw [if_neg hp9]; rfl) ?_
        refine lv_goto (tgt := 23) hx hb dX3_knownPage_19 (by decide) ?_
        refine lv_astore_nN (lv' := [(2, .null), (0, .ref (ad 0 0)), (1, .int i)]) hx hb dX3_knownPage_23 rfl hl (by decide) rfl (fun ls hl => ?_)
        refine lv_aload_nN hx hb dX3_knownPage_24 rfl (lv_at hl 0 rfl) ?_
        refine lv_ifnonnullN hx hb dX3_knownPage_25 ?_
        obtain ⟨sa9, hsa9⟩ := hX9.2.2.2.2 (206, "there is no such page") (by decide)
        exact vx_throwS (own := "Politecrawl") (cls := xcI) (text := "there is no such page") (names := xnm) (ik := 201) (is := 206) (ic := 205) (sa := sa9) (A := A9) hx hb hl9 hown (by decide +kernel) (by decide +kernel) (hts _ (by decide +kernel)) (hts _ (by decide +kernel)) hsa9 (vx_hat (fun w hw => hts w (xm_X3_knownPage_xcI w hw)) xw_xcI (vx_c (va_Nw.use rfl (hX9.2.2.1 xcI (by decide))) (vx_c (va_Nw.use rfl (hX9.2.2.2.1 _ (by decide))) (vx_c (va_Nw.use rfl (hX9.2.2.2.1 _ (by decide))) (vx_c (va_Nw.use rfl (hX9.2.2.2.1 _ (by decide))) vx_n))))) xg_xcI hX9.1 hX9.2.1 va_S.rf (by rw [hml]; exact hl.1) dX3_knownPage_28 dX3_knownPage_31 dX3_knownPage_32 dX3_knownPage_34 dX3_knownPage_37 (fun x hx => (ht9 x hx).elim) (Nat.le_of_ble_eq_true rfl) (Nat.le_of_ble_eq_true rfl) (Nat.le_of_ble_eq_true rfl) (Nat.le_of_ble_eq_true rfl) hlocks (fun t _ z1 z2 => ⟨⟨by rw [eh]; exact page_no3 hn30 hq0 hp9, rfl⟩, z1, z2⟩) (fun z hz => nomatch hz) (Nat.le_of_ble_eq_true rfl) (Nat.le_of_ble_eq_true rfl)

set_option maxRecDepth 100000 in
theorem xm_X3_refuseOtherRanks_xcA : ∀ w ∈ (vx_atS "Politecrawl" 43 xcA xnm).filter goodWord, w ∈ wsX3_refuseOtherRanks := by decide +kernel
set_option maxHeartbeats 4000000 in
set_option maxRecDepth 100000 in
/-- refuseOtherRanks -/
theorem m_X3_refuseOtherRanks (l : Launch) (hl9 : l.stackTraces = false) (D : va_G) (cy : Nat → ClassId) (A9 : Nat → Prop) (ad : NT) (τ : IT) (ν : NT) (r : Int32) : vx_Met l yX3_refuseOtherRanks wsX3_refuseOtherRanks ({ frames := 6, cells := 1, slots := 6, locals := 90 } : Room) (va_Pc [.int r] (fun U => gK D cy U ∧ xK A9 U U.heap ∧ (CW D cy ad τ ν) U.heap)) (kQ (inB r 0 9 = true) (rQ none)) (xQ (fun E => inB r 0 9 = false ∧ E = xcA)) 1 6 (fun _ => False) := by
  refine vx_ofW (cc := cX3_refuseOtherRanks) (maxL := 1) (ret := none) (by decide) rfl ?_
  intro p e s m args below meth c s₁ B9 hml ht9 hv
  obtain ⟨rfl, hK, hX9, hB⟩ := hv
  have hx := B9.exec
  have hb := B9.bytes
  have hr := B9.returns
  have hts := atoms_spec (ws := wsX3_refuseOtherRanks) B9.pre
  have hown : s.vm.findClass RX3 = some m.cls := findClass_of_methodNamed B9.named
  have hlocks := B9.notSynchronized
  have hl := lv_entry ([.int r]) (n := 1) (Nat.le_of_ble_eq_true rfl)
  rw [lg_entry_eq]
  generalize (lg_sl ([.int r]) ++ List.replicate (1 - (lg_sl ([.int r])).length) Slot.unset).toArray = ls at hl ⊢
  have hl : lv_has ls 1 [(0, .int r)] := hl
  refine lv_iload_n hx hb dX3_refuseOtherRanks_0 rfl (lv_at hl 0 rfl) ?_
  refine lv_if_lt (tgt := 10) hx hb dX3_refuseOtherRanks_1 (by decide) (fun c_1 => ?_) (fun c_1 => ?_)
  · -- 1 t
    obtain ⟨sa9, hsa9⟩ := hX9.2.2.2.2 (208, "the rank is out of range") (by decide)
    exact vx_throwS (own := "Politecrawl") (cls := xcA) (text := "the rank is out of range") (names := xnm) (ik := 39) (is := 208) (ic := 43) (sa := sa9) (A := A9) hx hb hl9 hown (by decide +kernel) (by decide +kernel) (hts _ (by decide +kernel)) (hts _ (by decide +kernel)) hsa9 (vx_hat (fun w hw => hts w (xm_X3_refuseOtherRanks_xcA w hw)) xw_xcA (vx_c (va_Nw.use rfl (hX9.2.2.1 xcA (by decide))) (vx_c (va_Nw.use rfl (hX9.2.2.2.1 _ (by decide))) (vx_c (va_Nw.use rfl (hX9.2.2.2.1 _ (by decide))) (vx_c (va_Nw.use rfl (hX9.2.2.2.1 _ (by decide))) vx_n))))) xg_xcA hX9.1 hX9.2.1 va_S.rf (by rw [hml]; exact hl.1) dX3_refuseOtherRanks_10 dX3_refuseOtherRanks_13 dX3_refuseOtherRanks_14 dX3_refuseOtherRanks_16 dX3_refuseOtherRanks_19 (fun x hx => (ht9 x hx).elim) (Nat.le_of_ble_eq_true rfl) (Nat.le_of_ble_eq_true rfl) (Nat.le_of_ble_eq_true rfl) (Nat.le_of_ble_eq_true rfl) hlocks (fun t _ z1 z2 => ⟨⟨in_no1 c_1, rfl⟩, z1, z2⟩) (fun z hz => nomatch hz) (Nat.le_of_ble_eq_true rfl) (Nat.le_of_ble_eq_true rfl)
  · -- 1 f
    refine lv_iload_n hx hb dX3_refuseOtherRanks_4 rfl (lv_at hl 0 rfl) ?_
    refine lv_bipush (v := 9) hx hb dX3_refuseOtherRanks_5 (by decide) ?_
    refine lv_icmp_le (tgt := 20) hx hb dX3_refuseOtherRanks_7 (by decide) (fun c_7 => ?_) (fun c_7 => ?_)
    · -- 7 t
      exact x_ret (in_of c_1 c_7) (x_vret hx hb hr hlocks (Nat.le_of_ble_eq_true rfl) (Nat.le_of_ble_eq_true rfl) dX3_refuseOtherRanks_20)
    · -- 7 f
      obtain ⟨sa9, hsa9⟩ := hX9.2.2.2.2 (208, "the rank is out of range") (by decide)
      exact vx_throwS (own := "Politecrawl") (cls := xcA) (text := "the rank is out of range") (names := xnm) (ik := 39) (is := 208) (ic := 43) (sa := sa9) (A := A9) hx hb hl9 hown (by decide +kernel) (by decide +kernel) (hts _ (by decide +kernel)) (hts _ (by decide +kernel)) hsa9 (vx_hat (fun w hw => hts w (xm_X3_refuseOtherRanks_xcA w hw)) xw_xcA (vx_c (va_Nw.use rfl (hX9.2.2.1 xcA (by decide))) (vx_c (va_Nw.use rfl (hX9.2.2.2.1 _ (by decide))) (vx_c (va_Nw.use rfl (hX9.2.2.2.1 _ (by decide))) (vx_c (va_Nw.use rfl (hX9.2.2.2.1 _ (by decide))) vx_n))))) xg_xcA hX9.1 hX9.2.1 va_S.rf (by rw [hml]; exact hl.1) dX3_refuseOtherRanks_10 dX3_refuseOtherRanks_13 dX3_refuseOtherRanks_14 dX3_refuseOtherRanks_16 dX3_refuseOtherRanks_19 (fun x hx => (ht9 x hx).elim) (Nat.le_of_ble_eq_true rfl) (Nat.le_of_ble_eq_true rfl) (Nat.le_of_ble_eq_true rfl) (Nat.le_of_ble_eq_true rfl) hlocks (fun t _ z1 z2 => ⟨⟨in_no2 c_7, rfl⟩, z1, z2⟩) (fun z hz => nomatch hz) (Nat.le_of_ble_eq_true rfl) (Nat.le_of_ble_eq_true rfl)
