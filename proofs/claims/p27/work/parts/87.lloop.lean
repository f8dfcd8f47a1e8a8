/-! the law: its loop -/
set_option maxHeartbeats 8000000 in
set_option maxRecDepth 100000 in
/-- from its head, t turns done, to its end -/
theorem l_loop {p : Program} {l : Launch} {e : Env} {s : State} {m : MethodId} {below : List Frame} {meth : Method} {c : Code} {b L : Nat} {xs : Nat → Int32} {D : va_G} {cy : Nat → ClassId} {bd : NT} {a0 : Nat} (C : lctx p l s m c b L xs D cy bd) (hr : meth.sig.returnType = ret) (hlocks : meth.locks = false) : ∀ (k t : Nat), t + k = 120 → lgo p l e s m below meth c b D cy bd a0 t t 0 (lPot t) [] (100 + 200 * t) (2000 + 1000 * t) 80 := by
  intro k
  induction k with
  | zero =>
    intro t htk
    obtain ⟨hx, hb, hml, hown, hts, hK, hX0, hcK, hXs, hbl, hl9, hL260, hbd⟩ := id C
    intro ad τ ν ρ κ σ μ H locs ls ha hR hLR hP hJ hge hg2 hC hB hS hl
    have hl : lv_has ls 16 (lbase b a0 bd t) := hl
    obtain rfl : t = 120 := by omega
    refine lv_iload hx hb dL_law_80 (lv_at hl 9 rfl) ?_
    refine lv_bipush (v := nI 120) hx hb dL_law_82 (by decide) ?_
    refine lv_icmp_ge (tgt := 712) hx hb dL_law_84 (by decide) (fun c1 => ?_) (fun c1 => ?_)
    · refine lv_iconst (v := 1) hx hb dL_law_712 (by decide) ?_
      refine va_forget (fun q hq => hS.2.2 q hq) ?_
      exact W.widen (k := 600172) (n := 7300668) (by omega) (by omega) (lw_ret hx hb hr hlocks dL_law_713)
    · exact absurd (Int32.le_refl _) c1
  | succ k ih =>
    intro t htk
    have ht : t < 120 := by omega
    have K80 := ih (t + 1) (by omega)
    have K678 := fun z : Int32 => la_so (e := e) (below := below) (meth := meth) (a0 := a0) (z := z) (y := 0) C ht K80
    have K147 := fun z y : Int32 => la_finds (e := e) (below := below) (meth := meth) (a0 := a0) (z := z) (y := y) C ht (K678 z)
    obtain ⟨hx, hb, hml, hown, hts, hK, hX0, hcK, hXs, hbl, hl9, hL260, hbd⟩ := id C
    intro ad τ ν ρ κ σ μ H locs ls ha hR hLR hP hJ hge hg2 hC hB hS hl
    have hl : lv_has ls 16 (lbase b a0 bd t) := hl
    refine lv_iload hx hb dL_law_80 (lv_at hl 9 rfl) ?_
    refine lv_bipush (v := nI 120) hx hb dL_law_82 (by decide) ?_
    refine lv_icmp_ge (tgt := 712) hx hb dL_law_84 (by decide) (fun c1 => ?_) (fun c1 => ?_)
    · exact absurd (ge_of c1 (by omega) (by decide)) (by omega)
    refine lv_aload_n hx hb dL_law_87 rfl (lv_at hl 0 rfl) ?_
    refine lv_iload hx hb dL_law_88 (lv_at hl 9 rfl) ?_
    refine g_csr (va_runS (As := [.ref b, .int (nI t)]) (rest := []) ⟨hx, hb, hml, hown, hts⟩ (m_L_cell l b L xs t (by omega) (by omega)) (va_cwS 2 hts gL_law_L_cell rfl rfl rfl (by decide +kernel) ⟨Nat.le_of_ble_eq_true rfl, Nat.le_of_ble_eq_true rfl⟩) (xs_preS (hXs.now hS)) rfl rfl hl.1 rfl (lv_room (Nat.le_of_ble_eq_true rfl)) dL_law_90 ⟨(by show 100 + 200 * t + 0 ≤ 600172; omega), (by show 2000 + 1000 * t + 0 ≤ 7300668; omega)⟩) ?_
    refine lv_istore (lv' := (10, .int (cellQ xs L t)) :: lbase b a0 bd t) hx hb dL_law_93 hl (by decide) rfl (fun ls hl => ?_)
    refine lv_iload hx hb dL_law_95 (lv_at hl 0 rfl) ?_
    refine lv_bipush (v := 20) hx hb dL_law_97 (by decide) ?_
    refine g_csr (va_runS (As := [.int (cellQ xs L t), .int 20]) (rest := []) ⟨hx, hb, hml, hown, hts⟩ (m_L_low l D cy bd ρ κ (cellQ xs L t) 20 (by decide)) (va_cwS 2 hts gL_law_L_low rfl rfl rfl (by decide +kernel) ⟨Nat.le_of_ble_eq_true rfl, Nat.le_of_ble_eq_true rfl⟩) (g_preS (B := (fun _ => True)) hK trivial) rfl rfl hl.1 rfl (lv_room (Nat.le_of_ble_eq_true rfl)) dL_law_99 ⟨(by show 100 + 200 * t + 0 ≤ 600172; omega), (by show 2000 + 1000 * t + 0 ≤ 7300668; omega)⟩) ?_
    obtain ⟨ac, hac, eac⟩ := low_nI (v := cellQ xs L t) (m := 20) (by decide) (by decide)
    refine g_top (v' := .int (nI ac)) (congrArg Value.int eac) ?_
    refine lv_istore (lv' := (11, .int (nI ac)) :: (10, .int (cellQ xs L t)) :: lbase b a0 bd t) hx hb dL_law_102 hl (by decide) rfl (fun ls hl => ?_)
    refine lv_iconst (v := 1) hx hb dL_law_104 (by decide) ?_
    refine lv_istore (lv' := (12, .int 1) :: (11, .int (nI ac)) :: (10, .int (cellQ xs L t)) :: lbase b a0 bd t) hx hb dL_law_105 hl (by decide) rfl (fun ls hl => ?_)
    exact la_act (z := cellQ xs L t) (y := 0) C ht hac (la_types C ht (K147 _ _)) (la_rest C ht (K678 _)) (la_paces C ht (K678 _)) (la_budget C ht (K678 _)) (la_rank C ht (K678 _)) (la_pass C ht (K678 _)) (la_visit C ht (K678 _)) ad τ ν ρ κ σ μ H locs ls ha hR hLR hP hJ hge hg2 hC hB hS (lv_sub hl [2, 1, 0, 3, 4, 5, 6, 7, 8, 9, 10, 11, 12] rfl)
/-! the law: its numbers at first -/
def z0I : IT := fun _ _ => 0
def z0N : NT := fun _ _ => 0
def z0L : LT := fun _ _ => 0

set_option maxHeartbeats 8000000 in
set_option maxRecDepth 100000 in
theorem l_48 {p : Program} {l : Launch} {e : Env} {s : State} {m : MethodId} {below : List Frame} {meth : Method} {c : Code} {b L : Nat} {xs : Nat → Int32} {D : va_G} {cy : Nat → ClassId} {bd ad : NT} {H : Heap} {locs : List Loc} {ls : Array Slot} (C : lctx p l s m c b L xs D cy bd) (K : lgo p l e s m below meth c b D cy bd (ad 0 0) 0 0 0 (lPot 0) [] (100 + 200 * 0) (2000 + 1000 * 0) 80) (hJ : J2 (z0N 0 0) ad bd) (hge : ∀ k i, i < cC (z0N 0 0) k → s.heap.size ≤ ad k i) (hC : CW D cy ad s0C z0N H) (hB : LW D cy bd z0I z0L H) (hS : va_S (lZ s.heap.size) s.heap H locs) (hl : lv_has ls 16 [(0, .ref b), (1, .ref (ad 0 0)), (2, .ref (bd 0 0)), (3, .ref (bd 1 0)), (4, .ref (bd 2 0)), (5, .ref (bd 3 0)), (6, .ref (bd 4 0)), (7, .ref (bd 5 0)), (8, .ref (bd 6 0))]) : W p l e room_1 s m #[Value.ref b] below meth c H locs (100 + 200 * 0) (2000 + 1000 * 0) (lw_Z below #[Value.ref b] s) (F0 m 48 ls []) := by
  obtain ⟨hx, hb, hml, hown, hts, hK, hX0, hcK, hXs, hbl, hl9, hL260, hbd⟩ := id C
  have hX := hX0.kept hS.2.1
  have hA9 : ∀ q, wB (z0N 0 0) ad bd s.heap.size q → lZ s.heap.size q := lA_wB hge hbd (Nat.le_refl _)
  refine lv_aload_n hx hb dL_law_48 rfl (lv_at hl 2 rfl) ?_
  refine lv_iconst (v := 1) hx hb dL_law_49 (by decide) ?_
  refine lv_bipush (v := 10) hx hb dL_law_50 (by decide) ?_
  refine g_iast (f := z0I 0) (A := (lZ s.heap.size)) hx hb hK (hB 0 0 Nat.zero_lt_one) hS (hbd 0 Nat.zero_lt_one) (vp_in_nI (n := 1) (N := 8) (by decide) (by decide)) dL_law_52 (fun H1 locs1 hc1 hu1 hS1 => ?_)
  have hB1 : LW D cy bd (up2 z0I 0 1 10) z0L H1 := hB.ist hJ.2.1 0 (q := 1) (by decide) (cl_nI (n := 1) (by decide)) hc1 hu1
  have hC1 : CW D cy ad s0C z0N H1 := hC.byR hJ (show 0 < cL 0 from Nat.zero_lt_one) hu1
  have hX1 := xKeep (A1 := wA cL bd s.heap.size) hX (hu1.in (wA.in (k := 0) (i := 0) Nat.zero_lt_one)) (fun q z => hA9 q (Or.inr z))
  refine lv_aload_n hx hb dL_law_53 rfl (lv_at hl 2 rfl) ?_
  refine lv_iconst (v := 2) hx hb dL_law_54 (by decide) ?_
  refine lv_sipush (v := 500) hx hb dL_law_55 (by decide) ?_
  refine g_iast (f := (up2 z0I 0 1 10) 0) (A := (lZ s.heap.size)) hx hb hK (hB1 0 0 Nat.zero_lt_one) hS1 (hbd 0 Nat.zero_lt_one) (vp_in_nI (n := 2) (N := 8) (by decide) (by decide)) dL_law_58 (fun H2 locs2 hc2 hu2 hS2 => ?_)
  have hB2 : LW D cy bd (up2 (up2 z0I 0 1 10) 0 2 500) z0L H2 := hB1.ist hJ.2.1 0 (q := 2) (by decide) (cl_nI (n := 2) (by decide)) hc2 hu2
  have hC2 : CW D cy ad s0C z0N H2 := hC1.byR hJ (show 0 < cL 0 from Nat.zero_lt_one) hu2
  have hX2 := xKeep (A1 := wA cL bd s.heap.size) hX1 (hu2.in (wA.in (k := 0) (i := 0) Nat.zero_lt_one)) (fun q z => hA9 q (Or.inr z))
  refine lv_aload_n hx hb dL_law_59 rfl (lv_at hl 2 rfl) ?_
  refine lv_iconst (v := 3) hx hb dL_law_60 (by decide) ?_
  refine lv_bipush (v := 20) hx hb dL_law_61 (by decide) ?_
  refine g_iast (f := (up2 (up2 z0I 0 1 10) 0 2 500) 0) (A := (lZ s.heap.size)) hx hb hK (hB2 0 0 Nat.zero_lt_one) hS2 (hbd 0 Nat.zero_lt_one) (vp_in_nI (n := 3) (N := 8) (by decide) (by decide)) dL_law_63 (fun H3 locs3 hc3 hu3 hS3 => ?_)
  have hB3 : LW D cy bd (up2 (up2 (up2 z0I 0 1 10) 0 2 500) 0 3 20) z0L H3 := hB2.ist hJ.2.1 0 (q := 3) (by decide) (cl_nI (n := 3) (by decide)) hc3 hu3
  have hC3 : CW D cy ad s0C z0N H3 := hC2.byR hJ (show 0 < cL 0 from Nat.zero_lt_one) hu3
  have hX3 := xKeep (A1 := wA cL bd s.heap.size) hX2 (hu3.in (wA.in (k := 0) (i := 0) Nat.zero_lt_one)) (fun q z => hA9 q (Or.inr z))
  refine lv_aload_n hx hb dL_law_64 rfl (lv_at hl 3 rfl) ?_
  refine lv_iconst (v := 0) hx hb dL_law_65 (by decide) ?_
  refine lv_iconst (v := 5) hx hb dL_law_66 (by decide) ?_
  refine g_iast (f := (up2 (up2 (up2 z0I 0 1 10) 0 2 500) 0 3 20) 1) (A := (lZ s.heap.size)) hx hb hK (hB3 1 0 Nat.zero_lt_one) hS3 (hbd 1 Nat.zero_lt_one) (vp_in_nI (n := 0) (N := 9) (by decide) (by decide)) dL_law_67 (fun H4 locs4 hc4 hu4 hS4 => ?_)
  have hB4 : LW D cy bd (up2 (up2 (up2 (up2 z0I 0 1 10) 0 2 500) 0 3 20) 1 0 5) z0L H4 := hB3.ist hJ.2.1 1 (q := 0) (by decide) (cl_nI (n := 0) (by decide)) hc4 hu4
  have hC4 : CW D cy ad s0C z0N H4 := hC3.byR hJ (show 0 < cL 1 from Nat.zero_lt_one) hu4
  have hX4 := xKeep (A1 := wA cL bd s.heap.size) hX3 (hu4.in (wA.in (k := 1) (i := 0) Nat.zero_lt_one)) (fun q z => hA9 q (Or.inr z))
  refine lv_aload_n hx hb dL_law_68 rfl (lv_at hl 3 rfl) ?_
  refine lv_iconst (v := 3) hx hb dL_law_69 (by decide) ?_
  refine lv_iconst (v := 5) hx hb dL_law_70 (by decide) ?_
  refine g_iast (f := (up2 (up2 (up2 (up2 z0I 0 1 10) 0 2 500) 0 3 20) 1 0 5) 1) (A := (lZ s.heap.size)) hx hb hK (hB4 1 0 Nat.zero_lt_one) hS4 (hbd 1 Nat.zero_lt_one) (vp_in_nI (n := 3) (N := 9) (by decide) (by decide)) dL_law_71 (fun H5 locs5 hc5 hu5 hS5 => ?_)
  have hB5 : LW D cy bd (up2 (up2 (up2 (up2 (up2 z0I 0 1 10) 0 2 500) 0 3 20) 1 0 5) 1 3 5) z0L H5 := hB4.ist hJ.2.1 1 (q := 3) (by decide) (cl_nI (n := 3) (by decide)) hc5 hu5
  have hC5 : CW D cy ad s0C z0N H5 := hC4.byR hJ (show 0 < cL 1 from Nat.zero_lt_one) hu5
  have hX5 := xKeep (A1 := wA cL bd s.heap.size) hX4 (hu5.in (wA.in (k := 1) (i := 0) Nat.zero_lt_one)) (fun q z => hA9 q (Or.inr z))
  refine lv_aload_n hx hb dL_law_72 rfl (lv_at hl 3 rfl) ?_
  refine lv_bipush (v := 6) hx hb dL_law_73 (by decide) ?_
  refine lv_iconst (v := 5) hx hb dL_law_75 (by decide) ?_
  refine g_iast (f := (up2 (up2 (up2 (up2 (up2 z0I 0 1 10) 0 2 500) 0 3 20) 1 0 5) 1 3 5) 1) (A := (lZ s.heap.size)) hx hb hK (hB5 1 0 Nat.zero_lt_one) hS5 (hbd 1 Nat.zero_lt_one) (vp_in_nI (n := 6) (N := 9) (by decide) (by decide)) dL_law_76 (fun H6 locs6 hc6 hu6 hS6 => ?_)
  have hB6 : LW D cy bd (up2 (up2 (up2 (up2 (up2 (up2 z0I 0 1 10) 0 2 500) 0 3 20) 1 0 5) 1 3 5) 1 6 5) z0L H6 := hB5.ist hJ.2.1 1 (q := 6) (by decide) (cl_nI (n := 6) (by decide)) hc6 hu6
  have hC6 : CW D cy ad s0C z0N H6 := hC5.byR hJ (show 0 < cL 1 from Nat.zero_lt_one) hu6
  have hX6 := xKeep (A1 := wA cL bd s.heap.size) hX5 (hu6.in (wA.in (k := 1) (i := 0) Nat.zero_lt_one)) (fun q z => hA9 q (Or.inr z))
  refine lv_iconst (v := 0) hx hb dL_law_77 (by decide) ?_
  refine lv_topi (fun y1 ey1 => ?_)
  obtain rfl : y1 = nI 0 := ey1.trans (nI_0.symm)
  refine lv_istore (lv' := [(9, .int (nI 0)), (0, .ref b), (1, .ref (ad 0 0)), (2, .ref (bd 0 0)), (3, .ref (bd 1 0)), (4, .ref (bd 2 0)), (5, .ref (bd 3 0)), (6, .ref (bd 4 0)), (7, .ref (bd 5 0)), (8, .ref (bd 6 0))]) hx hb dL_law_78 hl (by decide) rfl (fun ls hl => ?_)
  have hLR0 : LR (up2 (up2 (up2 (up2 (up2 (up2 z0I 0 1 10) 0 2 500) 0 3 20) 1 0 5) 1 3 5) 1 6 5) z0L s0M z0N := by
    refine ⟨⟨rfl, rfl, rfl, rfl, rfl, rfl, rfl, rfl⟩, ⟨by decide, by decide, ⟨20, by decide, rfl, by decide⟩⟩, ?_, fun k hk => absurd hk (Nat.not_lt_zero k), fun k hk => absurd hk (Nat.not_lt_zero k), fun j hj => absurd hj (Nat.not_lt_zero j), fun k j _ hj => absurd hj (Nat.not_lt_zero j)⟩
    intro g hg
    have : g = 0 ∨ g = 1 ∨ g = 2 := by omega
    rcases this with rfl | rfl | rfl <;> exact ⟨rfl, rfl, rfl⟩
  exact K ad s0C z0N (up2 (up2 (up2 (up2 (up2 (up2 z0I 0 1 10) 0 2 500) 0 3 20) 1 0 5) 1 3 5) 1 6 5) z0L s0M z0N H6 locs6 ls rfl Rel_0 hLR0 ⟨0, rfl, by decide, fun _ => Nat.le_refl _⟩ hJ hge (Nat.zero_le _) hC6 hB6 hS6 (lv_sub hl [1, 2, 3, 4, 5, 6, 7, 8, 9, 0] rfl)
