/-! the law: calls 11 to 23 -/
set_option maxHeartbeats 4000000 in
set_option maxRecDepth 100000 in
/-- the law's call 11: pages -/
theorem lc_11 {p : Program} {l : Launch} {e : Env} {s : State} {m : MethodId} {below : List Frame} {meth : Method} {c : Code} {b L : Nat} {xs : Nat → Int32} {D : va_G} {cy : Nat → ClassId} {adM : NT} {o a0 n i cells slots : Nat} (C : lctx p l s m c b L xs D cy) (hn : n < 1000) (hi : i + 2 < L) (hL : L ≤ 1536) (hro : cells + 6 ≤ room_1.cells ∧ slots + 86 ≤ room_1.slots) (K : lgo p l e s m below meth c b D cy adM o a0 (n + 1) i (cells + 6) (slots + 86) 1166) : lgo p l e s m below meth c b D cy adM o a0 n i cells slots 665 := by
  obtain ⟨hx, hb, hml, hown, hts, hK, hY, hC9, hX, hbl, hl9⟩ := id C
  intro adC τ ν σ μ x0 H locs ls ha hR hJ hB hO hM hS hl
  subst ha
  refine lv_aload_n hx hb dL_law_665 rfl (lv_at hl 1 rfl) ?_
  refine g_csr (va_runV (As := []) (rest := []) ⟨hx, hb, hml, hown, hts⟩ (m_X3_pages l D cy adC τ ν) (cwV 0 hts gL_law_X3_pages rfl rfl rfl (by decide +kernel) ⟨Nat.le_of_ble_eq_true rfl, Nat.le_of_ble_eq_true rfl⟩) (g_preV (C := RX3) (B := CW D cy adC τ ν) hK hB (hB 0 0 Nat.zero_lt_one) rfl) rfl rfl hl.1 rfl (lv_room (Nat.le_of_ble_eq_true rfl)) dL_law_666 ⟨by have := hro.1; omega, by have := hro.2; omega⟩) ?_
  refine lv_aload_n hx hb dL_law_669 rfl (lv_at hl 2 rfl) ?_
  refine lw_md (Ψ := fun b1 σ1 μ1 => nI (ν 0 0) = b1 ∧ Rel n τ ν σ1 μ1) (va_runV (As := []) (rest := [.int (nI (ν 0 0))]) ⟨hx, hb, hml, hown, hts⟩ (m_X4_pages l D cy H.size adM σ μ hJ.2.1) (cwV 0 hts gL_law_X4_pages rfl rfl rfl (by decide +kernel) ⟨Nat.le_of_ble_eq_true rfl, Nat.le_of_ble_eq_true rfl⟩) (g_preV (C := RX4) (B := atSz H.size (MW D cy adM σ μ)) hK ⟨rfl, hM⟩ (hM 0 0 Nat.zero_lt_one) rfl) rfl rfl hl.1 rfl (lv_room (Nat.le_of_ble_eq_true rfl)) dL_law_670 ⟨by have := hro.1; omega, by have := hro.2; omega⟩) hJ hS hB hO (⟨congrArg nI hR.n0, hR.t0 0⟩) (fun b1 σ1 μ1 H2 locs2 T2 hB2 hO2 hM2 hS2 => ?_)
  exact l_cmp (q := 673) C dL_law_673 (by decide) K (Nat.le_succ n) (by omega) (by omega) rfl T2 hJ hB2 hO2 hM2 hS2 hl

set_option maxHeartbeats 4000000 in
set_option maxRecDepth 100000 in
/-- the law's call 12: dueAt -/
theorem lc_12 {p : Program} {l : Launch} {e : Env} {s : State} {m : MethodId} {below : List Frame} {meth : Method} {c : Code} {b L : Nat} {xs : Nat → Int32} {D : va_G} {cy : Nat → ClassId} {adM : NT} {o a0 n i cells slots : Nat} (C : lctx p l s m c b L xs D cy) (hn : n < 1000) (hi : i + 2 < L) (hL : L ≤ 1536) (hro : cells + 6 ≤ room_1.cells ∧ slots + 86 ≤ room_1.slots) (K : lgo p l e s m below meth c b D cy adM o a0 (n + 1) i (cells + 6) (slots + 86) 1166) : lgo p l e s m below meth c b D cy adM o a0 n i cells slots 678 := by
  obtain ⟨hx, hb, hml, hown, hts, hK, hY, hC9, hX, hbl, hl9⟩ := id C
  intro adC τ ν σ μ x0 H locs ls ha hR hJ hB hO hM hS hl
  subst ha
  have hYH := hY.now hS
  have h1 : vp_in (nI (i + 1)) L := vp_in_nI (by omega) (by omega)
  obtain ⟨a1, e1⟩ : ∃ z, xs (nI (i + 1)).toNatClampNeg = z := ⟨_, rfl⟩
  refine lv_aload_n hx hb dL_law_678 rfl (lv_at hl 1 rfl) ?_
  refine l_arg (v := 1) hx hb hX hbl hS (lv_at hl 0 rfl) (lv_at hl 4 rfl) h1 e1 (by decide) dL_law_679 dL_law_680 dL_law_682 dL_law_683 dL_law_684 ?_
  refine lv_aload_n hx hb dL_law_685 rfl (lv_at hl 3 rfl) ?_
  refine lw_wr (Φ := fun k x τ2 ν2 => okC n k x τ2 ν2 (oDueAt σ μ a1) (oIsAsked σ μ a1) μ) (vx_runSW (As := [.ref (adC 0 0), .int a1, .ref o]) (rest := []) ⟨hx, hb, hml, hown, hts⟩ (m_L_dueAt l hl9 D cy (lA s.heap.size) H.size adC τ ν hJ.1 o (fun k i hi => (hJ.2.2.1 k i hi).2.1) x0 hR.le30 a1) (vx_cwSW 3 hts gL_law_L_dueAt rfl rfl rfl (by decide +kernel) ⟨Nat.le_of_ble_eq_true rfl, Nat.le_of_ble_eq_true rfl⟩) (y_preS (B := atSz H.size (WO D cy adC τ ν o x0)) hK hYH ⟨rfl, hB, hO⟩) rfl rfl hl.1 rfl (lv_room (Nat.le_of_ble_eq_true rfl)) dL_law_686 ⟨by have := hro.1; omega, by have := hro.2; omega⟩) hJ hS hM (by rw [ite_self]) (t_dueAt hR a1 x0) (fun k1 x1 τ1 ν1 H1 locs1 T1 hJ1 hB1 hO1 hM1 hS1 => ?_)
  refine lv_istore (lv' := [(5, .int k1), (0, .ref b), (1, .ref (adC 0 0)), (2, .ref (adM 0 0)), (3, .ref o), (4, .int (nI i))]) hx hb dL_law_689 hl (by decide) rfl (fun ls hl => ?_)
  refine lv_aload_n hx hb dL_law_691 rfl (lv_at hl 3 rfl) ?_
  refine l_arg (v := 1) hx hb hX hbl hS1 (lv_at hl 1 rfl) (lv_at hl 5 rfl) h1 e1 (by decide) dL_law_692 dL_law_693 dL_law_695 dL_law_696 dL_law_697 ?_
  refine lw_md (Ψ := fun b1 σ1 μ1 => okC n k1 x1 τ1 ν1 b1 σ1 μ1) (va_runV (As := [.int a1]) (rest := []) ⟨hx, hb, hml, hown, hts⟩ (m_X4_dueAt l D cy H1.size adM σ μ hJ.2.1 hR.MI a1) (cwV 1 hts gL_law_X4_dueAt rfl rfl rfl (by decide +kernel) ⟨Nat.le_of_ble_eq_true rfl, Nat.le_of_ble_eq_true rfl⟩) (g_preV (C := RX4) (B := atSz H1.size (MW D cy adM σ μ)) hK ⟨rfl, hM1⟩ (hM1 0 0 Nat.zero_lt_one) rfl) rfl rfl hl.1 rfl (lv_room (Nat.le_of_ble_eq_true rfl)) dL_law_698 ⟨by have := hro.1; omega, by have := hro.2; omega⟩) hJ1 hS1 hB1 hO1 T1 (fun b1 σ1 μ1 H2 locs2 T2 hB2 hO2 hM2 hS2 => ?_)
  exact l_tail (q := 701) C ⟨hro.1, hro.2⟩ dL_law_701 dL_law_703 dL_law_704 dL_law_707 dL_law_709 dL_law_714 dL_law_716 dL_law_719 dL_law_720 dL_law_721 dL_law_722 dL_law_724 dL_law_725 dL_law_726 dL_law_731 (by decide) K (Nat.le_succ n) (by omega) (by omega) rfl T2 hJ1 hB2 hO2 hM2 hS2 hl

set_option maxHeartbeats 4000000 in
set_option maxRecDepth 100000 in
/-- the law's call 13: visits -/
theorem lc_13 {p : Program} {l : Launch} {e : Env} {s : State} {m : MethodId} {below : List Frame} {meth : Method} {c : Code} {b L : Nat} {xs : Nat → Int32} {D : va_G} {cy : Nat → ClassId} {adM : NT} {o a0 n i cells slots : Nat} (C : lctx p l s m c b L xs D cy) (hn : n < 1000) (hi : i + 2 < L) (hL : L ≤ 1536) (hro : cells + 6 ≤ room_1.cells ∧ slots + 86 ≤ room_1.slots) (K : lgo p l e s m below meth c b D cy adM o a0 (n + 1) i (cells + 6) (slots + 86) 1166) : lgo p l e s m below meth c b D cy adM o a0 n i cells slots 734 := by
  obtain ⟨hx, hb, hml, hown, hts, hK, hY, hC9, hX, hbl, hl9⟩ := id C
  intro adC τ ν σ μ x0 H locs ls ha hR hJ hB hO hM hS hl
  subst ha
  have hYH := hY.now hS
  have h1 : vp_in (nI (i + 1)) L := vp_in_nI (by omega) (by omega)
  obtain ⟨a1, e1⟩ : ∃ z, xs (nI (i + 1)).toNatClampNeg = z := ⟨_, rfl⟩
  refine lv_aload_n hx hb dL_law_734 rfl (lv_at hl 1 rfl) ?_
  refine l_arg (v := 1) hx hb hX hbl hS (lv_at hl 0 rfl) (lv_at hl 4 rfl) h1 e1 (by decide) dL_law_735 dL_law_736 dL_law_738 dL_law_739 dL_law_740 ?_
  refine lv_aload_n hx hb dL_law_741 rfl (lv_at hl 3 rfl) ?_
  refine lw_wr (Φ := fun k x τ2 ν2 => okC n k x τ2 ν2 (oPageQ σ μ 12 a1) (oIsAsked σ μ a1) μ) (vx_runSW (As := [.ref (adC 0 0), .int a1, .ref o]) (rest := []) ⟨hx, hb, hml, hown, hts⟩ (m_L_visits l hl9 D cy (lA s.heap.size) H.size adC τ ν hJ.1 o (fun k i hi => (hJ.2.2.1 k i hi).2.1) x0 hR.le30 a1) (vx_cwSW 3 hts gL_law_L_visits rfl rfl rfl (by decide +kernel) ⟨Nat.le_of_ble_eq_true rfl, Nat.le_of_ble_eq_true rfl⟩) (y_preS (B := atSz H.size (WO D cy adC τ ν o x0)) hK hYH ⟨rfl, hB, hO⟩) rfl rfl hl.1 rfl (lv_room (Nat.le_of_ble_eq_true rfl)) dL_law_742 ⟨by have := hro.1; omega, by have := hro.2; omega⟩) hJ hS hM (by rw [ite_self]) (t_pageQ (K := 12) hR (by decide) (by decide) a1 x0) (fun k1 x1 τ1 ν1 H1 locs1 T1 hJ1 hB1 hO1 hM1 hS1 => ?_)
  refine lv_istore (lv' := [(5, .int k1), (0, .ref b), (1, .ref (adC 0 0)), (2, .ref (adM 0 0)), (3, .ref o), (4, .int (nI i))]) hx hb dL_law_745 hl (by decide) rfl (fun ls hl => ?_)
  refine lv_aload_n hx hb dL_law_747 rfl (lv_at hl 3 rfl) ?_
  refine l_arg (v := 1) hx hb hX hbl hS1 (lv_at hl 1 rfl) (lv_at hl 5 rfl) h1 e1 (by decide) dL_law_748 dL_law_749 dL_law_751 dL_law_752 dL_law_753 ?_
  refine lw_md (Ψ := fun b1 σ1 μ1 => okC n k1 x1 τ1 ν1 b1 σ1 μ1) (va_runV (As := [.int a1]) (rest := []) ⟨hx, hb, hml, hown, hts⟩ (m_X4_visits l D cy H1.size adM σ μ hJ.2.1 hR.MI a1) (cwV 1 hts gL_law_X4_visits rfl rfl rfl (by decide +kernel) ⟨Nat.le_of_ble_eq_true rfl, Nat.le_of_ble_eq_true rfl⟩) (g_preV (C := RX4) (B := atSz H1.size (MW D cy adM σ μ)) hK ⟨rfl, hM1⟩ (hM1 0 0 Nat.zero_lt_one) rfl) rfl rfl hl.1 rfl (lv_room (Nat.le_of_ble_eq_true rfl)) dL_law_754 ⟨by have := hro.1; omega, by have := hro.2; omega⟩) hJ1 hS1 hB1 hO1 T1 (fun b1 σ1 μ1 H2 locs2 T2 hB2 hO2 hM2 hS2 => ?_)
  exact l_tail (q := 757) C ⟨hro.1, hro.2⟩ dL_law_757 dL_law_759 dL_law_760 dL_law_763 dL_law_765 dL_law_770 dL_law_772 dL_law_775 dL_law_776 dL_law_777 dL_law_778 dL_law_780 dL_law_781 dL_law_782 dL_law_787 (by decide) K (Nat.le_succ n) (by omega) (by omega) rfl T2 hJ1 hB2 hO2 hM2 hS2 hl

set_option maxHeartbeats 4000000 in
set_option maxRecDepth 100000 in
/-- the law's call 14: changes -/
theorem lc_14 {p : Program} {l : Launch} {e : Env} {s : State} {m : MethodId} {below : List Frame} {meth : Method} {c : Code} {b L : Nat} {xs : Nat → Int32} {D : va_G} {cy : Nat → ClassId} {adM : NT} {o a0 n i cells slots : Nat} (C : lctx p l s m c b L xs D cy) (hn : n < 1000) (hi : i + 2 < L) (hL : L ≤ 1536) (hro : cells + 6 ≤ room_1.cells ∧ slots + 86 ≤ room_1.slots) (K : lgo p l e s m below meth c b D cy adM o a0 (n + 1) i (cells + 6) (slots + 86) 1166) : lgo p l e s m below meth c b D cy adM o a0 n i cells slots 790 := by
  obtain ⟨hx, hb, hml, hown, hts, hK, hY, hC9, hX, hbl, hl9⟩ := id C
  intro adC τ ν σ μ x0 H locs ls ha hR hJ hB hO hM hS hl
  subst ha
  have hYH := hY.now hS
  have h1 : vp_in (nI (i + 1)) L := vp_in_nI (by omega) (by omega)
  obtain ⟨a1, e1⟩ : ∃ z, xs (nI (i + 1)).toNatClampNeg = z := ⟨_, rfl⟩
  refine lv_aload_n hx hb dL_law_790 rfl (lv_at hl 1 rfl) ?_
  refine l_arg (v := 1) hx hb hX hbl hS (lv_at hl 0 rfl) (lv_at hl 4 rfl) h1 e1 (by decide) dL_law_791 dL_law_792 dL_law_794 dL_law_795 dL_law_796 ?_
  refine lv_aload_n hx hb dL_law_797 rfl (lv_at hl 3 rfl) ?_
  refine lw_wr (Φ := fun k x τ2 ν2 => okC n k x τ2 ν2 (oPageQ σ μ 13 a1) (oIsAsked σ μ a1) μ) (vx_runSW (As := [.ref (adC 0 0), .int a1, .ref o]) (rest := []) ⟨hx, hb, hml, hown, hts⟩ (m_L_changes l hl9 D cy (lA s.heap.size) H.size adC τ ν hJ.1 o (fun k i hi => (hJ.2.2.1 k i hi).2.1) x0 hR.le30 a1) (vx_cwSW 3 hts gL_law_L_changes rfl rfl rfl (by decide +kernel) ⟨Nat.le_of_ble_eq_true rfl, Nat.le_of_ble_eq_true rfl⟩) (y_preS (B := atSz H.size (WO D cy adC τ ν o x0)) hK hYH ⟨rfl, hB, hO⟩) rfl rfl hl.1 rfl (lv_room (Nat.le_of_ble_eq_true rfl)) dL_law_798 ⟨by have := hro.1; omega, by have := hro.2; omega⟩) hJ hS hM (by rw [ite_self]) (t_pageQ (K := 13) hR (by decide) (by decide) a1 x0) (fun k1 x1 τ1 ν1 H1 locs1 T1 hJ1 hB1 hO1 hM1 hS1 => ?_)
  refine lv_istore (lv' := [(5, .int k1), (0, .ref b), (1, .ref (adC 0 0)), (2, .ref (adM 0 0)), (3, .ref o), (4, .int (nI i))]) hx hb dL_law_801 hl (by decide) rfl (fun ls hl => ?_)
  refine lv_aload_n hx hb dL_law_803 rfl (lv_at hl 3 rfl) ?_
  refine l_arg (v := 1) hx hb hX hbl hS1 (lv_at hl 1 rfl) (lv_at hl 5 rfl) h1 e1 (by decide) dL_law_804 dL_law_805 dL_law_807 dL_law_808 dL_law_809 ?_
  refine lw_md (Ψ := fun b1 σ1 μ1 => okC n k1 x1 τ1 ν1 b1 σ1 μ1) (va_runV (As := [.int a1]) (rest := []) ⟨hx, hb, hml, hown, hts⟩ (m_X4_changes l D cy H1.size adM σ μ hJ.2.1 hR.MI a1) (cwV 1 hts gL_law_X4_changes rfl rfl rfl (by decide +kernel) ⟨Nat.le_of_ble_eq_true rfl, Nat.le_of_ble_eq_true rfl⟩) (g_preV (C := RX4) (B := atSz H1.size (MW D cy adM σ μ)) hK ⟨rfl, hM1⟩ (hM1 0 0 Nat.zero_lt_one) rfl) rfl rfl hl.1 rfl (lv_room (Nat.le_of_ble_eq_true rfl)) dL_law_810 ⟨by have := hro.1; omega, by have := hro.2; omega⟩) hJ1 hS1 hB1 hO1 T1 (fun b1 σ1 μ1 H2 locs2 T2 hB2 hO2 hM2 hS2 => ?_)
  exact l_tail (q := 813) C ⟨hro.1, hro.2⟩ dL_law_813 dL_law_815 dL_law_816 dL_law_819 dL_law_821 dL_law_826 dL_law_828 dL_law_831 dL_law_832 dL_law_833 dL_law_834 dL_law_836 dL_law_837 dL_law_838 dL_law_843 (by decide) K (Nat.le_succ n) (by omega) (by omega) rfl T2 hJ1 hB2 hO2 hM2 hS2 hl

set_option maxHeartbeats 4000000 in
set_option maxRecDepth 100000 in
/-- the law's call 15: mayVisit -/
theorem lc_15 {p : Program} {l : Launch} {e : Env} {s : State} {m : MethodId} {below : List Frame} {meth : Method} {c : Code} {b L : Nat} {xs : Nat → Int32} {D : va_G} {cy : Nat → ClassId} {adM : NT} {o a0 n i cells slots : Nat} (C : lctx p l s m c b L xs D cy) (hn : n < 1000) (hi : i + 2 < L) (hL : L ≤ 1536) (hro : cells + 6 ≤ room_1.cells ∧ slots + 86 ≤ room_1.slots) (K : lgo p l e s m below meth c b D cy adM o a0 (n + 1) i (cells + 6) (slots + 86) 1166) : lgo p l e s m below meth c b D cy adM o a0 n i cells slots 846 := by
  obtain ⟨hx, hb, hml, hown, hts, hK, hY, hC9, hX, hbl, hl9⟩ := id C
  intro adC τ ν σ μ x0 H locs ls ha hR hJ hB hO hM hS hl
  subst ha
  have hYH := hY.now hS
  have h1 : vp_in (nI (i + 1)) L := vp_in_nI (by omega) (by omega)
  obtain ⟨a1, e1⟩ : ∃ z, xs (nI (i + 1)).toNatClampNeg = z := ⟨_, rfl⟩
  refine lv_aload_n hx hb dL_law_846 rfl (lv_at hl 1 rfl) ?_
  refine l_arg (v := 1) hx hb hX hbl hS (lv_at hl 0 rfl) (lv_at hl 4 rfl) h1 e1 (by decide) dL_law_847 dL_law_848 dL_law_850 dL_law_851 dL_law_852 ?_
  refine lv_aload_n hx hb dL_law_853 rfl (lv_at hl 3 rfl) ?_
  refine lw_wr (Φ := fun k x τ2 ν2 => oIsAsked σ μ a1 30 0 = k ∧ (k = 0 → x = if oMayVisit σ μ a1 = true then (1 : Int64) else 0) ∧ Rel n τ2 ν2 (oIsAsked σ μ a1) μ) (vx_runSW (As := [.ref (adC 0 0), .int a1, .ref o]) (rest := []) ⟨hx, hb, hml, hown, hts⟩ (m_L_mayVisit l hl9 D cy (lA s.heap.size) H.size adC τ ν hJ.1 o (fun k i hi => (hJ.2.2.1 k i hi).2.1) x0 hR.CI a1) (vx_cwSW 3 hts gL_law_L_mayVisit rfl rfl rfl (by decide +kernel) ⟨Nat.le_of_ble_eq_true rfl, Nat.le_of_ble_eq_true rfl⟩) (y_preS (B := atSz H.size (WO D cy adC τ ν o x0)) hK hYH ⟨rfl, hB, hO⟩) rfl rfl hl.1 rfl (lv_room (Nat.le_of_ble_eq_true rfl)) dL_law_854 ⟨by have := hro.1; omega, by have := hro.2; omega⟩) hJ hS hM (by rw [ite_self]) (t_mayVisit hR a1 x0) (fun k1 x1 τ1 ν1 H1 locs1 T1 hJ1 hB1 hO1 hM1 hS1 => ?_)
  refine lv_istore (lv' := [(5, .int k1), (0, .ref b), (1, .ref (adC 0 0)), (2, .ref (adM 0 0)), (3, .ref o), (4, .int (nI i))]) hx hb dL_law_857 hl (by decide) rfl (fun ls hl => ?_)
  refine lv_aload_n hx hb dL_law_859 rfl (lv_at hl 3 rfl) ?_
  refine l_arg (v := 1) hx hb hX hbl hS1 (lv_at hl 1 rfl) (lv_at hl 5 rfl) h1 e1 (by decide) dL_law_860 dL_law_861 dL_law_863 dL_law_864 dL_law_865 ?_
  refine lw_md (Ψ := fun b1 σ1 μ1 => σ1 30 0 = k1 ∧ (k1 = 0 → x1 = if b1 = 0 then (0 : Int64) else 1) ∧ Rel n τ1 ν1 σ1 μ1) (va_runV (As := [.int a1]) (rest := []) ⟨hx, hb, hml, hown, hts⟩ (m_X4_mayVisit l D cy H1.size adM σ μ hJ.2.1 hR.MI a1) (cwV 1 hts gL_law_X4_mayVisit rfl rfl rfl (by decide +kernel) ⟨Nat.le_of_ble_eq_true rfl, Nat.le_of_ble_eq_true rfl⟩) (g_preV (C := RX4) (B := atSz H1.size (MW D cy adM σ μ)) hK ⟨rfl, hM1⟩ (hM1 0 0 Nat.zero_lt_one) rfl) rfl rfl hl.1 rfl (lv_room (Nat.le_of_ble_eq_true rfl)) dL_law_866 ⟨by have := hro.1; omega, by have := hro.2; omega⟩) hJ1 hS1 hB1 hO1 ⟨T1.1, fun z => by rw [T1.2.1 z]; cases oMayVisit σ μ a1 <;> rfl, T1.2.2⟩ (fun b1 σ1 μ1 H2 locs2 T2 hB2 hO2 hM2 hS2 => ?_)
  exact l_tailz (q := 869) C ⟨hro.1, hro.2⟩ dL_law_869 dL_law_871 dL_law_872 dL_law_875 dL_law_877 dL_law_882 dL_law_884 dL_law_887 dL_law_888 dL_law_889 dL_law_890 dL_law_892 dL_law_895 dL_law_896 dL_law_899 dL_law_900 dL_law_901 dL_law_906 (by decide) K (Nat.le_succ n) (by omega) (by omega) rfl T2 hJ1 hB2 hO2 hM2 hS2 hl

set_option maxHeartbeats 4000000 in
set_option maxRecDepth 100000 in
/-- the law's call 16: next -/
theorem lc_16 {p : Program} {l : Launch} {e : Env} {s : State} {m : MethodId} {below : List Frame} {meth : Method} {c : Code} {b L : Nat} {xs : Nat → Int32} {D : va_G} {cy : Nat → ClassId} {adM : NT} {o a0 n i cells slots : Nat} (C : lctx p l s m c b L xs D cy) (hn : n < 1000) (hi : i + 2 < L) (hL : L ≤ 1536) (hro : cells + 6 ≤ room_1.cells ∧ slots + 86 ≤ room_1.slots) (K : lgo p l e s m below meth c b D cy adM o a0 (n + 1) i (cells + 6) (slots + 86) 1166) : lgo p l e s m below meth c b D cy adM o a0 n i cells slots 909 := by
  obtain ⟨hx, hb, hml, hown, hts, hK, hY, hC9, hX, hbl, hl9⟩ := id C
  intro adC τ ν σ μ x0 H locs ls ha hR hJ hB hO hM hS hl
  subst ha
  refine lv_aload_n hx hb dL_law_909 rfl (lv_at hl 1 rfl) ?_
  refine g_csr (va_runV (As := []) (rest := []) ⟨hx, hb, hml, hown, hts⟩ (m_X3_next l D cy adC τ ν hR.CI hJ.1) (cwV 0 hts gL_law_X3_next rfl rfl rfl (by decide +kernel) ⟨Nat.le_of_ble_eq_true rfl, Nat.le_of_ble_eq_true rfl⟩) (g_preV (C := RX3) (B := CW D cy adC τ ν) hK hB (hB 0 0 Nat.zero_lt_one) rfl) rfl rfl hl.1 rfl (lv_room (Nat.le_of_ble_eq_true rfl)) dL_law_910 ⟨by have := hro.1; omega, by have := hro.2; omega⟩) ?_
  refine lv_aload_n hx hb dL_law_913 rfl (lv_at hl 2 rfl) ?_
  refine lw_md (Ψ := fun b1 σ1 μ1 => numO (nextL τ ν 6 0 none) = b1 ∧ Rel n τ ν σ1 μ1) (va_runV (As := []) (rest := [.int (numO (nextL τ ν 6 0 none))]) ⟨hx, hb, hml, hown, hts⟩ (m_X4_next l D cy H.size adM σ μ hJ.2.1 hR.MI) (cwV 0 hts gL_law_X4_next rfl rfl rfl (by decide +kernel) ⟨Nat.le_of_ble_eq_true rfl, Nat.le_of_ble_eq_true rfl⟩) (g_preV (C := RX4) (B := atSz H.size (MW D cy adM σ μ)) hK ⟨rfl, hM⟩ (hM 0 0 Nat.zero_lt_one) rfl) rfl rfl hl.1 rfl (lv_room (Nat.le_of_ble_eq_true rfl)) dL_law_914 ⟨by have := hro.1; omega, by have := hro.2; omega⟩) hJ hS hB hO (⟨a_next hR, hR.t0 0⟩) (fun b1 σ1 μ1 H2 locs2 T2 hB2 hO2 hM2 hS2 => ?_)
  exact l_cmp (q := 917) C dL_law_917 (by decide) K (Nat.le_succ n) (by omega) (by omega) rfl T2 hJ hB2 hO2 hM2 hS2 hl

set_option maxHeartbeats 4000000 in
set_option maxRecDepth 100000 in
/-- the law's call 17: nextByScan -/
theorem lc_17 {p : Program} {l : Launch} {e : Env} {s : State} {m : MethodId} {below : List Frame} {meth : Method} {c : Code} {b L : Nat} {xs : Nat → Int32} {D : va_G} {cy : Nat → ClassId} {adM : NT} {o a0 n i cells slots : Nat} (C : lctx p l s m c b L xs D cy) (hn : n < 1000) (hi : i + 2 < L) (hL : L ≤ 1536) (hro : cells + 6 ≤ room_1.cells ∧ slots + 86 ≤ room_1.slots) (K : lgo p l e s m below meth c b D cy adM o a0 (n + 1) i (cells + 6) (slots + 86) 1166) : lgo p l e s m below meth c b D cy adM o a0 n i cells slots 922 := by
  obtain ⟨hx, hb, hml, hown, hts, hK, hY, hC9, hX, hbl, hl9⟩ := id C
  intro adC τ ν σ μ x0 H locs ls ha hR hJ hB hO hM hS hl
  subst ha
  refine lv_aload_n hx hb dL_law_922 rfl (lv_at hl 1 rfl) ?_
  refine g_csr (va_runV (As := []) (rest := []) ⟨hx, hb, hml, hown, hts⟩ (m_X3_nextByScan l D cy adC τ ν hR.CI) (cwV 0 hts gL_law_X3_nextByScan rfl rfl rfl (by decide +kernel) ⟨Nat.le_of_ble_eq_true rfl, Nat.le_of_ble_eq_true rfl⟩) (g_preV (C := RX3) (B := CW D cy adC τ ν) hK hB (hB 0 0 Nat.zero_lt_one) rfl) rfl rfl hl.1 rfl (lv_room (Nat.le_of_ble_eq_true rfl)) dL_law_923 ⟨by have := hro.1; omega, by have := hro.2; omega⟩) ?_
  refine lv_aload_n hx hb dL_law_926 rfl (lv_at hl 2 rfl) ?_
  refine lw_md (Ψ := fun b1 σ1 μ1 => numO (scanL τ ν 30 0 none) = b1 ∧ Rel n τ ν σ1 μ1) (va_runV (As := []) (rest := [.int (numO (scanL τ ν 30 0 none))]) ⟨hx, hb, hml, hown, hts⟩ (m_X4_nextByScan l D cy H.size adM σ μ hJ.2.1 hR.MI) (cwV 0 hts gL_law_X4_nextByScan rfl rfl rfl (by decide +kernel) ⟨Nat.le_of_ble_eq_true rfl, Nat.le_of_ble_eq_true rfl⟩) (g_preV (C := RX4) (B := atSz H.size (MW D cy adM σ μ)) hK ⟨rfl, hM⟩ (hM 0 0 Nat.zero_lt_one) rfl) rfl rfl hl.1 rfl (lv_room (Nat.le_of_ble_eq_true rfl)) dL_law_927 ⟨by have := hro.1; omega, by have := hro.2; omega⟩) hJ hS hB hO (⟨a_scan hR, hR.t0 0⟩) (fun b1 σ1 μ1 H2 locs2 T2 hB2 hO2 hM2 hS2 => ?_)
  exact l_cmp (q := 930) C dL_law_930 (by decide) K (Nat.le_succ n) (by omega) (by omega) rfl T2 hJ hB2 hO2 hM2 hS2 hl

set_option maxHeartbeats 4000000 in
set_option maxRecDepth 100000 in
/-- the law's call 18: visit -/
theorem lc_18 {p : Program} {l : Launch} {e : Env} {s : State} {m : MethodId} {below : List Frame} {meth : Method} {c : Code} {b L : Nat} {xs : Nat → Int32} {D : va_G} {cy : Nat → ClassId} {adM : NT} {o a0 n i cells slots : Nat} (C : lctx p l s m c b L xs D cy) (hn : n < 1000) (hi : i + 2 < L) (hL : L ≤ 1536) (hro : cells + 6 ≤ room_1.cells ∧ slots + 86 ≤ room_1.slots) (K : lgo p l e s m below meth c b D cy adM o a0 (n + 1) i (cells + 6) (slots + 86) 1166) : lgo p l e s m below meth c b D cy adM o a0 n i cells slots 935 := by
  obtain ⟨hx, hb, hml, hown, hts, hK, hY, hC9, hX, hbl, hl9⟩ := id C
  intro adC τ ν σ μ x0 H locs ls ha hR hJ hB hO hM hS hl
  subst ha
  have hYH := hY.now hS
  have h1 : vp_in (nI (i + 1)) L := vp_in_nI (by omega) (by omega)
  obtain ⟨a1, e1⟩ : ∃ z, xs (nI (i + 1)).toNatClampNeg = z := ⟨_, rfl⟩
  have h2 : vp_in (nI (i + 2)) L := vp_in_nI (by omega) (by omega)
  obtain ⟨a2, e2⟩ : ∃ z, xs (nI (i + 2)).toNatClampNeg = z := ⟨_, rfl⟩
  refine lv_aload_n hx hb dL_law_935 rfl (lv_at hl 1 rfl) ?_
  refine l_arg (v := 1) hx hb hX hbl hS (lv_at hl 0 rfl) (lv_at hl 4 rfl) h1 e1 (by decide) dL_law_936 dL_law_937 dL_law_939 dL_law_940 dL_law_941 ?_
  refine l_arg (v := 2) hx hb hX hbl hS (lv_at hl 0 rfl) (lv_at hl 4 rfl) h2 e2 (by decide) dL_law_942 dL_law_943 dL_law_945 dL_law_946 dL_law_947 ?_
  refine lv_aload_n hx hb dL_law_948 rfl (lv_at hl 3 rfl) ?_
  refine lw_wr (Φ := fun k x τ2 ν2 => okC (n + 1) k x τ2 ν2 (oVisit σ μ a1 a2).1 (oVisit σ μ a1 a2).2 μ) (vx_runSW (As := [.ref (adC 0 0), .int a1, .int a2, .ref o]) (rest := []) ⟨hx, hb, hml, hown, hts⟩ (m_L_visit l hl9 D cy (lA s.heap.size) H.size adC τ ν hJ.1 o (fun k i hi => (hJ.2.2.1 k i hi).2.1) x0 hR.CI a1 a2) (vx_cwSW 4 hts gL_law_L_visit rfl rfl rfl (by decide +kernel) ⟨Nat.le_of_ble_eq_true rfl, Nat.le_of_ble_eq_true rfl⟩) (y_preS (B := atSz H.size (WO D cy adC τ ν o x0)) hK hYH ⟨rfl, hB, hO⟩) rfl rfl hl.1 rfl (lv_room (Nat.le_of_ble_eq_true rfl)) dL_law_949 ⟨by have := hro.1; omega, by have := hro.2; omega⟩) hJ hS hM (by rw [ite_self]) (t_visit hR hn a1 a2 x0) (fun k1 x1 τ1 ν1 H1 locs1 T1 hJ1 hB1 hO1 hM1 hS1 => ?_)
  refine lv_istore (lv' := [(5, .int k1), (0, .ref b), (1, .ref (adC 0 0)), (2, .ref (adM 0 0)), (3, .ref o), (4, .int (nI i))]) hx hb dL_law_952 hl (by decide) rfl (fun ls hl => ?_)
  refine lv_aload_n hx hb dL_law_954 rfl (lv_at hl 3 rfl) ?_
  refine l_arg (v := 1) hx hb hX hbl hS1 (lv_at hl 1 rfl) (lv_at hl 5 rfl) h1 e1 (by decide) dL_law_955 dL_law_956 dL_law_958 dL_law_959 dL_law_960 ?_
  refine l_arg (v := 2) hx hb hX hbl hS1 (lv_at hl 1 rfl) (lv_at hl 5 rfl) h2 e2 (by decide) dL_law_961 dL_law_962 dL_law_964 dL_law_965 dL_law_966 ?_
  refine lw_md (Ψ := fun b1 σ1 μ1 => okC (n + 1) k1 x1 τ1 ν1 b1 σ1 μ1) (va_runV (As := [.int a1, .int a2]) (rest := []) ⟨hx, hb, hml, hown, hts⟩ (m_X4_visit l D cy H1.size adM σ μ hJ.2.1 hR.MI (hR.hC hn) a1 a2) (cwV 2 hts gL_law_X4_visit rfl rfl rfl (by decide +kernel) ⟨Nat.le_of_ble_eq_true rfl, Nat.le_of_ble_eq_true rfl⟩) (g_preV (C := RX4) (B := atSz H1.size (MW D cy adM σ μ)) hK ⟨rfl, hM1⟩ (hM1 0 0 Nat.zero_lt_one) rfl) rfl rfl hl.1 rfl (lv_room (Nat.le_of_ble_eq_true rfl)) dL_law_967 ⟨by have := hro.1; omega, by have := hro.2; omega⟩) hJ1 hS1 hB1 hO1 T1 (fun b1 σ1 μ1 H2 locs2 T2 hB2 hO2 hM2 hS2 => ?_)
  exact l_tail (q := 970) C ⟨hro.1, hro.2⟩ dL_law_970 dL_law_972 dL_law_973 dL_law_976 dL_law_978 dL_law_983 dL_law_985 dL_law_988 dL_law_989 dL_law_990 dL_law_991 dL_law_993 dL_law_994 dL_law_995 dL_law_1000 (by decide) K (Nat.le_refl _) (by omega) (by omega) rfl T2 hJ1 hB2 hO2 hM2 hS2 hl

set_option maxHeartbeats 4000000 in
set_option maxRecDepth 100000 in
/-- the law's call 19: pass -/
theorem lc_19 {p : Program} {l : Launch} {e : Env} {s : State} {m : MethodId} {below : List Frame} {meth : Method} {c : Code} {b L : Nat} {xs : Nat → Int32} {D : va_G} {cy : Nat → ClassId} {adM : NT} {o a0 n i cells slots : Nat} (C : lctx p l s m c b L xs D cy) (hn : n < 1000) (hi : i + 2 < L) (hL : L ≤ 1536) (hro : cells + 6 ≤ room_1.cells ∧ slots + 86 ≤ room_1.slots) (K : lgo p l e s m below meth c b D cy adM o a0 (n + 1) i (cells + 6) (slots + 86) 1166) : lgo p l e s m below meth c b D cy adM o a0 n i cells slots 1003 := by
  obtain ⟨hx, hb, hml, hown, hts, hK, hY, hC9, hX, hbl, hl9⟩ := id C
  intro adC τ ν σ μ x0 H locs ls ha hR hJ hB hO hM hS hl
  subst ha
  have hYH := hY.now hS
  have h1 : vp_in (nI (i + 1)) L := vp_in_nI (by omega) (by omega)
  obtain ⟨a1, e1⟩ : ∃ z, xs (nI (i + 1)).toNatClampNeg = z := ⟨_, rfl⟩
  refine lv_aload_n hx hb dL_law_1003 rfl (lv_at hl 1 rfl) ?_
  refine l_arg (v := 1) hx hb hX hbl hS (lv_at hl 0 rfl) (lv_at hl 4 rfl) h1 e1 (by decide) dL_law_1004 dL_law_1005 dL_law_1007 dL_law_1008 dL_law_1009 ?_
  refine lv_aload_n hx hb dL_law_1010 rfl (lv_at hl 3 rfl) ?_
  refine lw_wr (Φ := fun k x τ2 ν2 => okC n k x τ2 ν2 (oPass σ a1).1 (oPass σ a1).2 μ) (vx_runSW (As := [.ref (adC 0 0), .int a1, .ref o]) (rest := []) ⟨hx, hb, hml, hown, hts⟩ (m_L_pass l hl9 D cy (lA s.heap.size) H.size adC τ ν hJ.1 o (fun k i hi => (hJ.2.2.1 k i hi).2.1) x0 a1) (vx_cwSW 3 hts gL_law_L_pass rfl rfl rfl (by decide +kernel) ⟨Nat.le_of_ble_eq_true rfl, Nat.le_of_ble_eq_true rfl⟩) (y_preS (B := atSz H.size (WO D cy adC τ ν o x0)) hK hYH ⟨rfl, hB, hO⟩) rfl rfl hl.1 rfl (lv_room (Nat.le_of_ble_eq_true rfl)) dL_law_1011 ⟨by have := hro.1; omega, by have := hro.2; omega⟩) hJ hS hM (by rw [ite_self]) (t_pass hR a1 x0) (fun k1 x1 τ1 ν1 H1 locs1 T1 hJ1 hB1 hO1 hM1 hS1 => ?_)
  refine lv_istore (lv' := [(5, .int k1), (0, .ref b), (1, .ref (adC 0 0)), (2, .ref (adM 0 0)), (3, .ref o), (4, .int (nI i))]) hx hb dL_law_1014 hl (by decide) rfl (fun ls hl => ?_)
  refine lv_aload_n hx hb dL_law_1016 rfl (lv_at hl 3 rfl) ?_
  refine l_arg (v := 1) hx hb hX hbl hS1 (lv_at hl 1 rfl) (lv_at hl 5 rfl) h1 e1 (by decide) dL_law_1017 dL_law_1018 dL_law_1020 dL_law_1021 dL_law_1022 ?_
  refine lw_md (Ψ := fun b1 σ1 μ1 => okC n k1 x1 τ1 ν1 b1 σ1 μ1) (va_runV (As := [.int a1]) (rest := []) ⟨hx, hb, hml, hown, hts⟩ (m_X4_pass l D cy H1.size adM σ μ hJ.2.1 a1) (cwV 1 hts gL_law_X4_pass rfl rfl rfl (by decide +kernel) ⟨Nat.le_of_ble_eq_true rfl, Nat.le_of_ble_eq_true rfl⟩) (g_preV (C := RX4) (B := atSz H1.size (MW D cy adM σ μ)) hK ⟨rfl, hM1⟩ (hM1 0 0 Nat.zero_lt_one) rfl) rfl rfl hl.1 rfl (lv_room (Nat.le_of_ble_eq_true rfl)) dL_law_1023 ⟨by have := hro.1; omega, by have := hro.2; omega⟩) hJ1 hS1 hB1 hO1 T1 (fun b1 σ1 μ1 H2 locs2 T2 hB2 hO2 hM2 hS2 => ?_)
  exact l_tail (q := 1026) C ⟨hro.1, hro.2⟩ dL_law_1026 dL_law_1028 dL_law_1029 dL_law_1032 dL_law_1034 dL_law_1039 dL_law_1041 dL_law_1044 dL_law_1045 dL_law_1046 dL_law_1047 dL_law_1049 dL_law_1050 dL_law_1051 dL_law_1056 (by decide) K (Nat.le_succ n) (by omega) (by omega) rfl T2 hJ1 hB2 hO2 hM2 hS2 hl

set_option maxHeartbeats 4000000 in
set_option maxRecDepth 100000 in
/-- the law's call 20: now -/
theorem lc_20 {p : Program} {l : Launch} {e : Env} {s : State} {m : MethodId} {below : List Frame} {meth : Method} {c : Code} {b L : Nat} {xs : Nat → Int32} {D : va_G} {cy : Nat → ClassId} {adM : NT} {o a0 n i cells slots : Nat} (C : lctx p l s m c b L xs D cy) (hn : n < 1000) (hi : i + 2 < L) (hL : L ≤ 1536) (hro : cells + 6 ≤ room_1.cells ∧ slots + 86 ≤ room_1.slots) (K : lgo p l e s m below meth c b D cy adM o a0 (n + 1) i (cells + 6) (slots + 86) 1166) : lgo p l e s m below meth c b D cy adM o a0 n i cells slots 1059 := by
  obtain ⟨hx, hb, hml, hown, hts, hK, hY, hC9, hX, hbl, hl9⟩ := id C
  intro adC τ ν σ μ x0 H locs ls ha hR hJ hB hO hM hS hl
  subst ha
  refine lv_aload_n hx hb dL_law_1059 rfl (lv_at hl 1 rfl) ?_
  refine g_csr (va_runV (As := []) (rest := []) ⟨hx, hb, hml, hown, hts⟩ (m_X3_now l D cy adC τ ν) (cwV 0 hts gL_law_X3_now rfl rfl rfl (by decide +kernel) ⟨Nat.le_of_ble_eq_true rfl, Nat.le_of_ble_eq_true rfl⟩) (g_preV (C := RX3) (B := CW D cy adC τ ν) hK hB (hB 0 0 Nat.zero_lt_one) rfl) rfl rfl hl.1 rfl (lv_room (Nat.le_of_ble_eq_true rfl)) dL_law_1060 ⟨by have := hro.1; omega, by have := hro.2; omega⟩) ?_
  refine lv_aload_n hx hb dL_law_1063 rfl (lv_at hl 2 rfl) ?_
  refine lw_md (Ψ := fun b1 σ1 μ1 => τ 0 0 = b1 ∧ Rel n τ ν σ1 μ1) (va_runV (As := []) (rest := [.int (τ 0 0)]) ⟨hx, hb, hml, hown, hts⟩ (m_X4_now l D cy H.size adM σ μ hJ.2.1) (cwV 0 hts gL_law_X4_now rfl rfl rfl (by decide +kernel) ⟨Nat.le_of_ble_eq_true rfl, Nat.le_of_ble_eq_true rfl⟩) (g_preV (C := RX4) (B := atSz H.size (MW D cy adM σ μ)) hK ⟨rfl, hM⟩ (hM 0 0 Nat.zero_lt_one) rfl) rfl rfl hl.1 rfl (lv_room (Nat.le_of_ble_eq_true rfl)) dL_law_1064 ⟨by have := hro.1; omega, by have := hro.2; omega⟩) hJ hS hB hO (⟨hR.eq0 (by decide), hR.t0 0⟩) (fun b1 σ1 μ1 H2 locs2 T2 hB2 hO2 hM2 hS2 => ?_)
  exact l_cmp (q := 1067) C dL_law_1067 (by decide) K (Nat.le_succ n) (by omega) (by omega) rfl T2 hJ hB2 hO2 hM2 hS2 hl

set_option maxHeartbeats 4000000 in
set_option maxRecDepth 100000 in
/-- the law's call 21: budgetLeft -/
theorem lc_21 {p : Program} {l : Launch} {e : Env} {s : State} {m : MethodId} {below : List Frame} {meth : Method} {c : Code} {b L : Nat} {xs : Nat → Int32} {D : va_G} {cy : Nat → ClassId} {adM : NT} {o a0 n i cells slots : Nat} (C : lctx p l s m c b L xs D cy) (hn : n < 1000) (hi : i + 2 < L) (hL : L ≤ 1536) (hro : cells + 6 ≤ room_1.cells ∧ slots + 86 ≤ room_1.slots) (K : lgo p l e s m below meth c b D cy adM o a0 (n + 1) i (cells + 6) (slots + 86) 1166) : lgo p l e s m below meth c b D cy adM o a0 n i cells slots 1072 := by
  obtain ⟨hx, hb, hml, hown, hts, hK, hY, hC9, hX, hbl, hl9⟩ := id C
  intro adC τ ν σ μ x0 H locs ls ha hR hJ hB hO hM hS hl
  subst ha
  refine lv_aload_n hx hb dL_law_1072 rfl (lv_at hl 1 rfl) ?_
  refine g_csr (va_runV (As := []) (rest := []) ⟨hx, hb, hml, hown, hts⟩ (m_X3_budgetLeft l D cy adC τ ν) (cwV 0 hts gL_law_X3_budgetLeft rfl rfl rfl (by decide +kernel) ⟨Nat.le_of_ble_eq_true rfl, Nat.le_of_ble_eq_true rfl⟩) (g_preV (C := RX3) (B := CW D cy adC τ ν) hK hB (hB 0 0 Nat.zero_lt_one) rfl) rfl rfl hl.1 rfl (lv_room (Nat.le_of_ble_eq_true rfl)) dL_law_1073 ⟨by have := hro.1; omega, by have := hro.2; omega⟩) ?_
  refine lv_aload_n hx hb dL_law_1076 rfl (lv_at hl 2 rfl) ?_
  refine lw_md (Ψ := fun b1 σ1 μ1 => leftC τ = b1 ∧ Rel n τ ν σ1 μ1) (va_runV (As := []) (rest := [.int (leftC τ)]) ⟨hx, hb, hml, hown, hts⟩ (m_X4_budgetLeft l D cy H.size adM σ μ hJ.2.1) (cwV 0 hts gL_law_X4_budgetLeft rfl rfl rfl (by decide +kernel) ⟨Nat.le_of_ble_eq_true rfl, Nat.le_of_ble_eq_true rfl⟩) (g_preV (C := RX4) (B := atSz H.size (MW D cy adM σ μ)) hK ⟨rfl, hM⟩ (hM 0 0 Nat.zero_lt_one) rfl) rfl rfl hl.1 rfl (lv_room (Nat.le_of_ble_eq_true rfl)) dL_law_1077 ⟨by have := hro.1; omega, by have := hro.2; omega⟩) hJ hS hB hO (⟨hR.left.1, hR.t0 0⟩) (fun b1 σ1 μ1 H2 locs2 T2 hB2 hO2 hM2 hS2 => ?_)
  exact l_cmp (q := 1080) C dL_law_1080 (by decide) K (Nat.le_succ n) (by omega) (by omega) rfl T2 hJ hB2 hO2 hM2 hS2 hl

set_option maxHeartbeats 4000000 in
set_option maxRecDepth 100000 in
/-- the law's call 22: waiting -/
theorem lc_22 {p : Program} {l : Launch} {e : Env} {s : State} {m : MethodId} {below : List Frame} {meth : Method} {c : Code} {b L : Nat} {xs : Nat → Int32} {D : va_G} {cy : Nat → ClassId} {adM : NT} {o a0 n i cells slots : Nat} (C : lctx p l s m c b L xs D cy) (hn : n < 1000) (hi : i + 2 < L) (hL : L ≤ 1536) (hro : cells + 6 ≤ room_1.cells ∧ slots + 86 ≤ room_1.slots) (K : lgo p l e s m below meth c b D cy adM o a0 (n + 1) i (cells + 6) (slots + 86) 1166) : lgo p l e s m below meth c b D cy adM o a0 n i cells slots 1085 := by
  obtain ⟨hx, hb, hml, hown, hts, hK, hY, hC9, hX, hbl, hl9⟩ := id C
  intro adC τ ν σ μ x0 H locs ls ha hR hJ hB hO hM hS hl
  subst ha
  refine lv_aload_n hx hb dL_law_1085 rfl (lv_at hl 1 rfl) ?_
  refine g_csr (va_runV (As := []) (rest := []) ⟨hx, hb, hml, hown, hts⟩ (m_X3_waiting l D cy adC τ ν hR.CI) (cwV 0 hts gL_law_X3_waiting rfl rfl rfl (by decide +kernel) ⟨Nat.le_of_ble_eq_true rfl, Nat.le_of_ble_eq_true rfl⟩) (g_preV (C := RX3) (B := CW D cy adC τ ν) hK hB (hB 0 0 Nat.zero_lt_one) rfl) rfl rfl hl.1 rfl (lv_room (Nat.le_of_ble_eq_true rfl)) dL_law_1086 ⟨by have := hro.1; omega, by have := hro.2; omega⟩) ?_
  refine lv_aload_n hx hb dL_law_1089 rfl (lv_at hl 2 rfl) ?_
  refine lw_md (Ψ := fun b1 σ1 μ1 => waitL τ ν 30 0 (-1) = b1 ∧ Rel n τ ν σ1 μ1) (va_runV (As := []) (rest := [.int (waitL τ ν 30 0 (-1))]) ⟨hx, hb, hml, hown, hts⟩ (m_X4_waiting l D cy H.size adM σ μ hJ.2.1 hR.MI) (cwV 0 hts gL_law_X4_waiting rfl rfl rfl (by decide +kernel) ⟨Nat.le_of_ble_eq_true rfl, Nat.le_of_ble_eq_true rfl⟩) (g_preV (C := RX4) (B := atSz H.size (MW D cy adM σ μ)) hK ⟨rfl, hM⟩ (hM 0 0 Nat.zero_lt_one) rfl) rfl rfl hl.1 rfl (lv_room (Nat.le_of_ble_eq_true rfl)) dL_law_1090 ⟨by have := hro.1; omega, by have := hro.2; omega⟩) hJ hS hB hO (⟨a_waiting hR, hR.t0 0⟩) (fun b1 σ1 μ1 H2 locs2 T2 hB2 hO2 hM2 hS2 => ?_)
  exact l_cmp (q := 1093) C dL_law_1093 (by decide) K (Nat.le_succ n) (by omega) (by omega) rfl T2 hJ hB2 hO2 hM2 hS2 hl

set_option maxHeartbeats 4000000 in
set_option maxRecDepth 100000 in
/-- the law's call 23: share -/
theorem lc_23 {p : Program} {l : Launch} {e : Env} {s : State} {m : MethodId} {below : List Frame} {meth : Method} {c : Code} {b L : Nat} {xs : Nat → Int32} {D : va_G} {cy : Nat → ClassId} {adM : NT} {o a0 n i cells slots : Nat} (C : lctx p l s m c b L xs D cy) (hn : n < 1000) (hi : i + 2 < L) (hL : L ≤ 1536) (hro : cells + 6 ≤ room_1.cells ∧ slots + 86 ≤ room_1.slots) (K : lgo p l e s m below meth c b D cy adM o a0 (n + 1) i (cells + 6) (slots + 86) 1166) : lgo p l e s m below meth c b D cy adM o a0 n i cells slots 1098 := by
  obtain ⟨hx, hb, hml, hown, hts, hK, hY, hC9, hX, hbl, hl9⟩ := id C
  intro adC τ ν σ μ x0 H locs ls ha hR hJ hB hO hM hS hl
  subst ha
  have hYH := hY.now hS
  have h1 : vp_in (nI (i + 1)) L := vp_in_nI (by omega) (by omega)
  obtain ⟨a1, e1⟩ : ∃ z, xs (nI (i + 1)).toNatClampNeg = z := ⟨_, rfl⟩
  have h2 : vp_in (nI (i + 2)) L := vp_in_nI (by omega) (by omega)
  obtain ⟨a2, e2⟩ : ∃ z, xs (nI (i + 2)).toNatClampNeg = z := ⟨_, rfl⟩
  refine lv_aload_n hx hb dL_law_1098 rfl (lv_at hl 1 rfl) ?_
  refine l_arg (v := 1) hx hb hX hbl hS (lv_at hl 0 rfl) (lv_at hl 4 rfl) h1 e1 (by decide) dL_law_1099 dL_law_1100 dL_law_1102 dL_law_1103 dL_law_1104 ?_
  refine l_arg (v := 2) hx hb hX hbl hS (lv_at hl 0 rfl) (lv_at hl 4 rfl) h2 e2 (by decide) dL_law_1105 dL_law_1106 dL_law_1108 dL_law_1109 dL_law_1110 ?_
  refine lv_aload_n hx hb dL_law_1111 rfl (lv_at hl 3 rfl) ?_
  refine lw_wr (Φ := fun k x τ2 ν2 => okC n k x τ2 ν2 (oShare σ μ a1 a2).1 (oShare σ μ a1 a2).2 μ) (vx_runSW (As := [.ref (adC 0 0), .int a1, .int a2, .ref o]) (rest := []) ⟨hx, hb, hml, hown, hts⟩ (m_L_share l hl9 D cy (lA s.heap.size) H.size adC τ ν hJ.1 o (fun k i hi => (hJ.2.2.1 k i hi).2.1) x0 hR.le30 a1 a2) (vx_cwSW 4 hts gL_law_L_share rfl rfl rfl (by decide +kernel) ⟨Nat.le_of_ble_eq_true rfl, Nat.le_of_ble_eq_true rfl⟩) (y_preS (B := atSz H.size (WO D cy adC τ ν o x0)) hK hYH ⟨rfl, hB, hO⟩) rfl rfl hl.1 rfl (lv_room (Nat.le_of_ble_eq_true rfl)) dL_law_1112 ⟨by have := hro.1; omega, by have := hro.2; omega⟩) hJ hS hM (by rw [ite_self]) (t_share hR a1 a2 x0) (fun k1 x1 τ1 ν1 H1 locs1 T1 hJ1 hB1 hO1 hM1 hS1 => ?_)
  refine lv_istore (lv' := [(5, .int k1), (0, .ref b), (1, .ref (adC 0 0)), (2, .ref (adM 0 0)), (3, .ref o), (4, .int (nI i))]) hx hb dL_law_1115 hl (by decide) rfl (fun ls hl => ?_)
  refine lv_aload_n hx hb dL_law_1117 rfl (lv_at hl 3 rfl) ?_
  refine l_arg (v := 1) hx hb hX hbl hS1 (lv_at hl 1 rfl) (lv_at hl 5 rfl) h1 e1 (by decide) dL_law_1118 dL_law_1119 dL_law_1121 dL_law_1122 dL_law_1123 ?_
  refine l_arg (v := 2) hx hb hX hbl hS1 (lv_at hl 1 rfl) (lv_at hl 5 rfl) h2 e2 (by decide) dL_law_1124 dL_law_1125 dL_law_1127 dL_law_1128 dL_law_1129 ?_
  refine lw_md (Ψ := fun b1 σ1 μ1 => okC n k1 x1 τ1 ν1 b1 σ1 μ1) (va_runV (As := [.int a1, .int a2]) (rest := []) ⟨hx, hb, hml, hown, hts⟩ (m_X4_share l D cy H1.size adM σ μ hJ.2.1 hR.MI a1 a2) (cwV 2 hts gL_law_X4_share rfl rfl rfl (by decide +kernel) ⟨Nat.le_of_ble_eq_true rfl, Nat.le_of_ble_eq_true rfl⟩) (g_preV (C := RX4) (B := atSz H1.size (MW D cy adM σ μ)) hK ⟨rfl, hM1⟩ (hM1 0 0 Nat.zero_lt_one) rfl) rfl rfl hl.1 rfl (lv_room (Nat.le_of_ble_eq_true rfl)) dL_law_1130 ⟨by have := hro.1; omega, by have := hro.2; omega⟩) hJ1 hS1 hB1 hO1 T1 (fun b1 σ1 μ1 H2 locs2 T2 hB2 hO2 hM2 hS2 => ?_)
  exact l_tail (q := 1133) C ⟨hro.1, hro.2⟩ dL_law_1133 dL_law_1135 dL_law_1136 dL_law_1139 dL_law_1141 dL_law_1146 dL_law_1148 dL_law_1151 dL_law_1152 dL_law_1153 dL_law_1154 dL_law_1156 dL_law_1157 dL_law_1158 dL_law_1163 (by decide) K (Nat.le_succ n) (by omega) (by omega) rfl T2 hJ1 hB2 hO2 hM2 hS2 hl
