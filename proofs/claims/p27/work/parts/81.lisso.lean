/-! the law: all that can be seen is as it should be -/
theorem in_100 {v : Nat} (h : v ≤ 100) : inB (nI v) 0 100 = true := by
  simp only [inB, Bool.and_eq_true, Bool.not_eq_true', decide_eq_false_iff_not]
  exact ⟨nI_pos (by omega), Int32.not_lt.mpr ((nI_leI (a := v) (b := 100) (by omega) (by decide)).mpr h)⟩

set_option maxHeartbeats 8000000 in
set_option maxRecDepth 100000 in
/-- the law: isSo -/
theorem m_L_isSo (l : Launch) (hl9 : l.stackTraces = false) (D : va_G) (cy : Nat → ClassId) (A9 : Nat → Prop) (sz : Nat) (ad bd : NT) (τ : IT) (ν : NT) (ρ : IT) (κ : LT) (σ : IT) (μ : NT) (n : Nat) (hR : Rel n τ ν σ μ) (hn : n < 900) (hLR : LR ρ κ σ μ) (hJ : J2 (ν 0 0) ad bd) (hA9 : ∀ q, (wB (ν 0 0) ad bd sz) q → A9 q) (z0 : Int32) : Met l yL_isSo wsL_isSo ({ frames := 8, cells := 100, slots := 700, locals := 200 } : Room) (va_Pc [.ref (ad 0 0), .int z0, .ref (bd 4 0), .ref (bd 6 0), .ref (bd 2 0), .ref (bd 1 0), .ref (bd 3 0), .ref (bd 0 0)] (fun U => gK D cy U ∧ xK A9 U U.heap ∧ atSz sz (BW D cy ad bd τ ν ρ κ) U.heap)) (uQ (some (.int 1)) (fun H => ∃ (τ2 : IT) (ρ2 : IT) (κ2 : LT), Rel n τ2 ν σ μ ∧ LR ρ2 κ2 σ μ ∧ BW D cy ad bd τ2 ν ρ2 κ2 H) (wB (ν 0 0) ad bd sz)) 100 700 (wB (ν 0 0) ad bd sz) := by
  refine Met.ofW (cc := cL_isSo) (maxL := 11) (ret := (some .boolean)) (by decide) rfl ?_
  intro p e s m args below meth c s₁ B9 hml hv
  obtain ⟨rfl, hK, hX, hsz, hC, hB⟩ := hv
  have hx := B9.exec
  have hb := B9.bytes
  have hr := B9.returns
  have hts := atoms_spec (ws := wsL_isSo) B9.pre
  have hown : s.vm.findClass RL = some m.cls := findClass_of_methodNamed B9.named
  have hlocks := B9.notSynchronized
  subst hsz
  have hS : va_S (wB (ν 0 0) ad bd s.heap.size) s.heap s.heap [] := va_S.rf
  have hl := lv_entry ([.ref (ad 0 0), .int z0, .ref (bd 4 0), .ref (bd 6 0), .ref (bd 2 0), .ref (bd 1 0), .ref (bd 3 0), .ref (bd 0 0)]) (n := 11) (Nat.le_of_ble_eq_true rfl)
  rw [lg_entry_eq]
  generalize (lg_sl ([.ref (ad 0 0), .int z0, .ref (bd 4 0), .ref (bd 6 0), .ref (bd 2 0), .ref (bd 1 0), .ref (bd 3 0), .ref (bd 0 0)]) ++ List.replicate (11 - (lg_sl ([.ref (ad 0 0), .int z0, .ref (bd 4 0), .ref (bd 6 0), .ref (bd 2 0), .ref (bd 1 0), .ref (bd 3 0), .ref (bd 0 0)])).length) Slot.unset).toArray = ls at hl ⊢
  have hl : lv_has ls 11 [(0, .ref (ad 0 0)), (1, .int z0), (2, .ref (bd 4 0)), (3, .ref (bd 6 0)), (4, .ref (bd 2 0)), (5, .ref (bd 1 0)), (6, .ref (bd 3 0)), (7, .ref (bd 0 0))] := hl
  have h10 := hLR.2.1.1
  have h12 := hLR.2.1.2.1
  have hn0 := hR.n0
  have hn1 := hR.n1
  refine lv_aload_n hx hb dL_isSo_0 rfl (lv_at hl 0 rfl) ?_
  refine g_csr (va_runV (As := []) (rest := []) ⟨hx, hb, hml, hown, hts⟩ (m_X3_now l D cy ad τ ν) (cwV 0 hts gL_isSo_X3_now rfl rfl rfl (by decide +kernel) ⟨Nat.le_of_ble_eq_true rfl, Nat.le_of_ble_eq_true rfl⟩) (g_preV (C := RX3) (B := CW D cy ad τ ν) hK hC (hC 0 0 Nat.zero_lt_one) rfl) rfl rfl hl.1 rfl (lv_room (Nat.le_of_ble_eq_true rfl)) dL_isSo_1 ⟨(Nat.le_of_ble_eq_true rfl), (Nat.le_of_ble_eq_true rfl)⟩) ?_
  refine lv_aload hx hb dL_isSo_4 (lv_at hl 7 rfl) ?_
  refine lv_iconst (v := 0) hx hb dL_isSo_6 (by decide) ?_
  refine g_iald (f := ρ 0) (x := ρ 0 0) hx hb hK (hB 0 0 Nat.zero_lt_one) (vp_in_nI (n := 0) (N := 8) (by decide) (by decide)) (congrArg (ρ 0) (cl_nI (n := 0) (by decide))) dL_isSo_7 ?_
  refine lv_icmp_ne (tgt := 115) hx hb dL_isSo_8 (by decide) (fun c_8 => ?_) (fun c_8 => ?_)
  · -- 8 t
    exact absurd ((hR.eq0 (by decide)).trans hLR.1.1.symm) c_8
  · -- 8 f
    refine lv_aload_n hx hb dL_isSo_11 rfl (lv_at hl 0 rfl) ?_
    refine g_csr (va_runV (As := []) (rest := []) ⟨hx, hb, hml, hown, hts⟩ (m_X3_pages l D cy ad τ ν) (cwV 0 hts gL_isSo_X3_pages rfl rfl rfl (by decide +kernel) ⟨Nat.le_of_ble_eq_true rfl, Nat.le_of_ble_eq_true rfl⟩) (g_preV (C := RX3) (B := CW D cy ad τ ν) hK hC (hC 0 0 Nat.zero_lt_one) rfl) rfl rfl hl.1 rfl (lv_room (Nat.le_of_ble_eq_true rfl)) dL_isSo_12 ⟨(Nat.le_of_ble_eq_true rfl), (Nat.le_of_ble_eq_true rfl)⟩) ?_
    refine lv_aload hx hb dL_isSo_15 (lv_at hl 7 rfl) ?_
    refine lv_bipush (v := 6) hx hb dL_isSo_17 (by decide) ?_
    refine g_iald (f := ρ 0) (x := nI (μ 0 0)) hx hb hK (hB 0 0 Nat.zero_lt_one) (vp_in_nI (n := 6) (N := 8) (by decide) (by decide)) ((congrArg (ρ 0) (cl_nI (n := 6) (by decide))).trans hLR.1.2.2.2.2.2.2.1) dL_isSo_19 ?_
    refine lv_icmp_ne (tgt := 115) hx hb dL_isSo_20 (by decide) (fun c_20 => ?_) (fun c_20 => ?_)
    · -- 20 t
      exact absurd (congrArg nI hn0) c_20
    · -- 20 f
      refine lv_aload_n hx hb dL_isSo_23 rfl (lv_at hl 0 rfl) ?_
      refine g_csr (va_runV (As := []) (rest := []) ⟨hx, hb, hml, hown, hts⟩ (m_X3_budgetLeft l D cy ad τ ν) (cwV 0 hts gL_isSo_X3_budgetLeft rfl rfl rfl (by decide +kernel) ⟨Nat.le_of_ble_eq_true rfl, Nat.le_of_ble_eq_true rfl⟩) (g_preV (C := RX3) (B := CW D cy ad τ ν) hK hC (hC 0 0 Nat.zero_lt_one) rfl) rfl rfl hl.1 rfl (lv_room (Nat.le_of_ble_eq_true rfl)) dL_isSo_24 ⟨(Nat.le_of_ble_eq_true rfl), (Nat.le_of_ble_eq_true rfl)⟩) ?_
      refine lv_aload hx hb dL_isSo_27 (lv_at hl 7 rfl) ?_
      refine g_csr (va_runS (As := [.ref (bd 0 0)]) (rest := [.int (leftC τ)]) ⟨hx, hb, hml, hown, hts⟩ (m_L_left l D cy bd ρ κ) (va_cwS 1 hts gL_isSo_L_left rfl rfl rfl (by decide +kernel) ⟨Nat.le_of_ble_eq_true rfl, Nat.le_of_ble_eq_true rfl⟩) (g_preS (B := (LW D cy bd ρ κ)) hK hB) rfl rfl hl.1 rfl (lv_room (Nat.le_of_ble_eq_true rfl)) dL_isSo_29 ⟨(Nat.le_of_ble_eq_true rfl), (Nat.le_of_ble_eq_true rfl)⟩) ?_
      refine lv_icmp_ne (tgt := 115) hx hb dL_isSo_32 (by decide) (fun c_32 => ?_) (fun c_32 => ?_)
      · -- 32 t
        exact absurd (hR.left.1.trans (hLR.left hR).symm) c_32
      · -- 32 f
        refine lv_aload_n hx hb dL_isSo_35 rfl (lv_at hl 0 rfl) ?_
        refine g_csr (va_runV (As := []) (rest := []) ⟨hx, hb, hml, hown, hts⟩ (m_X3_next l D cy ad τ ν hR.CI hJ.1) (cwV 0 hts gL_isSo_X3_next rfl rfl rfl (by decide +kernel) ⟨Nat.le_of_ble_eq_true rfl, Nat.le_of_ble_eq_true rfl⟩) (g_preV (C := RX3) (B := CW D cy ad τ ν) hK hC (hC 0 0 Nat.zero_lt_one) rfl) rfl rfl hl.1 rfl (lv_room (Nat.le_of_ble_eq_true rfl)) dL_isSo_36 ⟨(Nat.le_of_ble_eq_true rfl), (Nat.le_of_ble_eq_true rfl)⟩) ?_
        refine lv_aload hx hb dL_isSo_39 (lv_at hl 4 rfl) ?_
        refine lv_aload hx hb dL_isSo_41 (lv_at hl 5 rfl) ?_
        refine lv_aload hx hb dL_isSo_43 (lv_at hl 7 rfl) ?_
        refine g_csr (va_runS (As := [.ref (bd 2 0), .ref (bd 1 0), .ref (bd 0 0)]) (rest := [.int (numO (nextL τ ν 6 0 none))]) ⟨hx, hb, hml, hown, hts⟩ (m_L_next l D cy bd ρ κ (μ 0 0) (gP μ) h10 hLR.hG hLR.1.2.2.2.2.2.2.1) (va_cwS 3 hts gL_isSo_L_next rfl rfl rfl (by decide +kernel) ⟨Nat.le_of_ble_eq_true rfl, Nat.le_of_ble_eq_true rfl⟩) (g_preS (B := (LW D cy bd ρ κ)) hK hB) rfl rfl hl.1 rfl (lv_room (Nat.le_of_ble_eq_true rfl)) dL_isSo_45 ⟨(Nat.le_of_ble_eq_true rfl), (Nat.le_of_ble_eq_true rfl)⟩) ?_
        refine lv_icmp_ne (tgt := 115) hx hb dL_isSo_48 (by decide) (fun c_48 => ?_) (fun c_48 => ?_)
        · -- 48 t
          exact absurd (congrArg numO (hLR.nxt2 hR).symm) c_48
        · -- 48 f
          refine lv_aload_n hx hb dL_isSo_51 rfl (lv_at hl 0 rfl) ?_
          refine g_csr (va_runV (As := []) (rest := []) ⟨hx, hb, hml, hown, hts⟩ (m_X3_nextByScan l D cy ad τ ν hR.CI) (cwV 0 hts gL_isSo_X3_nextByScan rfl rfl rfl (by decide +kernel) ⟨Nat.le_of_ble_eq_true rfl, Nat.le_of_ble_eq_true rfl⟩) (g_preV (C := RX3) (B := CW D cy ad τ ν) hK hC (hC 0 0 Nat.zero_lt_one) rfl) rfl rfl hl.1 rfl (lv_room (Nat.le_of_ble_eq_true rfl)) dL_isSo_52 ⟨(Nat.le_of_ble_eq_true rfl), (Nat.le_of_ble_eq_true rfl)⟩) ?_
          refine lv_aload hx hb dL_isSo_55 (lv_at hl 4 rfl) ?_
          refine lv_aload hx hb dL_isSo_57 (lv_at hl 5 rfl) ?_
          refine lv_aload hx hb dL_isSo_59 (lv_at hl 7 rfl) ?_
          refine g_csr (va_runS (As := [.ref (bd 2 0), .ref (bd 1 0), .ref (bd 0 0)]) (rest := [.int (numO (scanL τ ν 30 0 none))]) ⟨hx, hb, hml, hown, hts⟩ (m_L_next l D cy bd ρ κ (μ 0 0) (gP μ) h10 hLR.hG hLR.1.2.2.2.2.2.2.1) (va_cwS 3 hts gL_isSo_L_next rfl rfl rfl (by decide +kernel) ⟨Nat.le_of_ble_eq_true rfl, Nat.le_of_ble_eq_true rfl⟩) (g_preS (B := (LW D cy bd ρ κ)) hK hB) rfl rfl hl.1 rfl (lv_room (Nat.le_of_ble_eq_true rfl)) dL_isSo_61 ⟨(Nat.le_of_ble_eq_true rfl), (Nat.le_of_ble_eq_true rfl)⟩) ?_
          refine lv_icmp_ne (tgt := 115) hx hb dL_isSo_64 (by decide) (fun c_64 => ?_) (fun c_64 => ?_)
          · -- 64 t
            exact absurd (congrArg numO (hLR.nxt hR).symm) c_64
          · -- 64 f
            refine lv_aload_n hx hb dL_isSo_67 rfl (lv_at hl 0 rfl) ?_
            refine g_csr (va_runV (As := []) (rest := []) ⟨hx, hb, hml, hown, hts⟩ (m_X3_waiting l D cy ad τ ν hR.CI) (cwV 0 hts gL_isSo_X3_waiting rfl rfl rfl (by decide +kernel) ⟨Nat.le_of_ble_eq_true rfl, Nat.le_of_ble_eq_true rfl⟩) (g_preV (C := RX3) (B := CW D cy ad τ ν) hK hC (hC 0 0 Nat.zero_lt_one) rfl) rfl rfl hl.1 rfl (lv_room (Nat.le_of_ble_eq_true rfl)) dL_isSo_68 ⟨(Nat.le_of_ble_eq_true rfl), (Nat.le_of_ble_eq_true rfl)⟩) ?_
            refine lv_aload hx hb dL_isSo_71 (lv_at hl 4 rfl) ?_
            refine lv_aload hx hb dL_isSo_73 (lv_at hl 5 rfl) ?_
            refine lv_aload hx hb dL_isSo_75 (lv_at hl 7 rfl) ?_
            refine g_csr (va_runS (As := [.ref (bd 2 0), .ref (bd 1 0), .ref (bd 0 0)]) (rest := [.int (waitL τ ν 30 0 (-1))]) ⟨hx, hb, hml, hown, hts⟩ (m_L_waiting l D cy bd ρ κ (μ 0 0) (gP μ) h10 hLR.hG hLR.1.2.2.2.2.2.2.1) (va_cwS 3 hts gL_isSo_L_waiting rfl rfl rfl (by decide +kernel) ⟨Nat.le_of_ble_eq_true rfl, Nat.le_of_ble_eq_true rfl⟩) (g_preS (B := (LW D cy bd ρ κ)) hK hB) rfl rfl hl.1 rfl (lv_room (Nat.le_of_ble_eq_true rfl)) dL_isSo_77 ⟨(Nat.le_of_ble_eq_true rfl), (Nat.le_of_ble_eq_true rfl)⟩) ?_
            refine lv_icmp_ne (tgt := 115) hx hb dL_isSo_80 (by decide) (fun c_80 => ?_) (fun c_80 => ?_)
            · -- 80 t
              exact absurd ((hLR.wt hR).symm) c_80
            · -- 80 f
              refine lv_aload_n hx hb dL_isSo_83 rfl (lv_at hl 0 rfl) ?_
              refine g_csr (va_runV (As := []) (rest := []) ⟨hx, hb, hml, hown, hts⟩ (m_X3_segments l D cy ad τ ν) (cwV 0 hts gL_isSo_X3_segments rfl rfl rfl (by decide +kernel) ⟨Nat.le_of_ble_eq_true rfl, Nat.le_of_ble_eq_true rfl⟩) (g_preV (C := RX3) (B := CW D cy ad τ ν) hK hC (hC 0 0 Nat.zero_lt_one) rfl) rfl rfl hl.1 rfl (lv_room (Nat.le_of_ble_eq_true rfl)) dL_isSo_84 ⟨(Nat.le_of_ble_eq_true rfl), (Nat.le_of_ble_eq_true rfl)⟩) ?_
              refine lv_aload_n hx hb dL_isSo_87 rfl (lv_at hl 2 rfl) ?_
              refine lv_aload_n hx hb dL_isSo_88 rfl (lv_at hl 3 rfl) ?_
              refine lv_aload hx hb dL_isSo_89 (lv_at hl 7 rfl) ?_
              have hm1 := m_L_segments l D cy s.heap.size bd ρ κ hJ.2.1 (μ 1 0) h12 hLR.1.2.2.2.2.2.2.2
              refine g_cu1 (va_runS (As := [.ref (bd 4 0), .ref (bd 6 0), .ref (bd 0 0)]) (rest := [.int (nI (ν 2 0))]) ⟨hx, hb, hml, hown, hts⟩ hm1 (va_cwS 3 hts gL_isSo_L_segments rfl rfl rfl (by decide +kernel) ⟨Nat.le_of_ble_eq_true rfl, Nat.le_of_ble_eq_true rfl⟩) (g_preS (B := atSz s.heap.size (LW D cy bd ρ κ)) hK ⟨rfl, hB⟩) rfl rfl hl.1 rfl (lv_room (Nat.le_of_ble_eq_true rfl)) dL_isSo_91 ⟨(Nat.le_of_ble_eq_true rfl), (Nat.le_of_ble_eq_true rfl)⟩) hS (fun q _ h => Or.inr (wA.mono hS.1 h)) (fun q h => Or.inr (wA.mono hS.1 h)) (fun H1 locs1 hB1 hz1 hk1 hS1 => ?_)
              have hC1 : CW D cy ad τ ν H1 := hC.byL hJ hk1
              have hX1 := xKeep hX hk1 (fun q z => hA9 q (Or.inr (wA.mono hS.1 z)))
              refine lv_icmp_ne (tgt := 115) hx hb dL_isSo_94 (by decide) (fun c_94 => ?_) (fun c_94 => ?_)
              · -- 94 t
                exact absurd (hLR.segs hR) c_94
              · -- 94 f
                refine lv_aload_n hx hb dL_isSo_97 rfl (lv_at hl 0 rfl) ?_
                refine g_csr (va_runV (As := []) (rest := []) ⟨hx, hb, hml, hown, hts⟩ (m_X3_isTrap l D cy ad τ ν hR.CI) (cwV 0 hts gL_isSo_X3_isTrap rfl rfl rfl (by decide +kernel) ⟨Nat.le_of_ble_eq_true rfl, Nat.le_of_ble_eq_true rfl⟩) (g_preV (C := RX3) (B := CW D cy ad τ ν) hK hC1 (hC1 0 0 Nat.zero_lt_one) rfl) rfl rfl hl.1 rfl (lv_room (Nat.le_of_ble_eq_true rfl)) dL_isSo_98 ⟨(Nat.le_of_ble_eq_true rfl), (Nat.le_of_ble_eq_true rfl)⟩) ?_
                refine lv_aload_n hx hb dL_isSo_101 rfl (lv_at hl 2 rfl) ?_
                refine lv_aload_n hx hb dL_isSo_102 rfl (lv_at hl 3 rfl) ?_
                refine lv_aload hx hb dL_isSo_103 (lv_at hl 7 rfl) ?_
                have hm2 := m_L_isTrap l D cy H1.size bd ρ (sgL (ρ 4) (μ 1 0) κ (μ 1 0 + 1)).2.2 hJ.2.1 (μ 1 0) h12 hLR.1.2.2.2.2.2.2.2
                refine g_cu1 (va_runS (As := [.ref (bd 4 0), .ref (bd 6 0), .ref (bd 0 0)]) (rest := [.int (zb (repA (τ 6) (τ 22) (ν 1 0) (ν 2 0)))]) ⟨hx, hb, hml, hown, hts⟩ hm2 (va_cwS 3 hts gL_isSo_L_isTrap rfl rfl rfl (by decide +kernel) ⟨Nat.le_of_ble_eq_true rfl, Nat.le_of_ble_eq_true rfl⟩) (g_preS (B := atSz H1.size (LW D cy bd ρ (sgL (ρ 4) (μ 1 0) κ (μ 1 0 + 1)).2.2)) hK ⟨rfl, hB1⟩) rfl rfl hl.1 rfl (lv_room (Nat.le_of_ble_eq_true rfl)) dL_isSo_105 ⟨(Nat.le_of_ble_eq_true rfl), (Nat.le_of_ble_eq_true rfl)⟩) hS1 (fun q _ h => Or.inr (wA.mono hS1.1 h)) (fun q h => Or.inr (wA.mono hS1.1 h)) (fun H2 locs2 hB2 hz2 hk2 hS2 => ?_)
                have hC2 : CW D cy ad τ ν H2 := hC1.byL hJ hk2
                have hX2 := xKeep hX1 hk2 (fun q z => hA9 q (Or.inr (wA.mono hS1.1 z)))
                refine lv_icmp_ne (tgt := 115) hx hb dL_isSo_108 (by decide) (fun c_108 => ?_) (fun c_108 => ?_)
                · -- 108 t
                  exact absurd (hLR.trap hR) c_108
                · -- 108 f
                  refine lv_iconst (v := 1) hx hb dL_isSo_111 (by decide) ?_
                  refine lv_goto (tgt := 116) hx hb dL_isSo_112 (by decide) ?_
                  refine lv_istore (lv' := [(8, .int 1), (0, .ref (ad 0 0)), (1, .int z0), (2, .ref (bd 4 0)), (3, .ref (bd 6 0)), (4, .ref (bd 2 0)), (5, .ref (bd 1 0)), (6, .ref (bd 3 0)), (7, .ref (bd 0 0))]) hx hb dL_isSo_116 hl (by decide) rfl (fun ls hl => ?_)
                  refine lv_iconst (v := 0) hx hb dL_isSo_118 (by decide) ?_
                  refine lv_topi (fun y3 ey3 => ?_)
                  obtain rfl : y3 = nI 0 := ey3.trans (nI_0.symm)
                  refine lv_istore (lv' := [(9, .int (nI 0)), (8, .int 1), (0, .ref (ad 0 0)), (1, .int z0), (2, .ref (bd 4 0)), (3, .ref (bd 6 0)), (4, .ref (bd 2 0)), (5, .ref (bd 1 0)), (6, .ref (bd 3 0)), (7, .ref (bd 0 0))]) hx hb dL_isSo_119 hl (by decide) rfl (fun ls hl => ?_)
                  have loop : ∀ (k : Nat) (i : Nat) (ls : Array Slot), i ≤ 3 → 3 < i + k → lv_has ls 11 [(0, .ref (ad 0 0)), (1, .int z0), (2, .ref (bd 4 0)), (3, .ref (bd 6 0)), (4, .ref (bd 2 0)), (5, .ref (bd 1 0)), (6, .ref (bd 3 0)), (7, .ref (bd 0 0)), (8, .int 1), (9, .int (nI i))] → W p l e (headSpec wsL_isSo ({ frames := 8, cells := 100, slots := 700, locals := 200 } : Room)).room s m ([.ref (ad 0 0), .int z0, .ref (bd 4 0), .ref (bd 6 0), .ref (bd 2 0), .ref (bd 1 0), .ref (bd 3 0), .ref (bd 0 0)] : List Value).toArray below meth c H2 locs2 (2 * i) (12 * i) (MQ below (uQ (some (.int 1)) (fun H => ∃ (τ2 : IT) (ρ2 : IT) (κ2 : LT), Rel n τ2 ν σ μ ∧ LR ρ2 κ2 σ μ ∧ BW D cy ad bd τ2 ν ρ2 κ2 H) (wB (ν 0 0) ad bd s.heap.size)) ([.ref (ad 0 0), .int z0, .ref (bd 4 0), .ref (bd 6 0), .ref (bd 2 0), .ref (bd 1 0), .ref (bd 3 0), .ref (bd 0 0)] : List Value).toArray s 100 700 (wB (ν 0 0) ad bd s.heap.size)) (F0 m 121 ls []) := by
                    intro k
                    induction k with
                    | zero => intro i ls hi hik hl; exfalso; omega
                    | succ k loop_ih =>
                      intro i ls hi hik hl
                      refine lv_iload hx hb dL_isSo_121 (lv_at hl 9 rfl) ?_
                      refine lv_iconst (v := 3) hx hb dL_isSo_123 (by decide) ?_
                      refine lv_icmp_ge (tgt := 185) hx hb dL_isSo_124 (by decide) (fun c_124 => ?_) (fun c_124 => ?_)
                      · -- 124 t
                        obtain rfl : i = 3 := by have := ge_of (n := 3) c_124 (by omega) (by decide); omega
                        refine lv_iload_n hx hb dL_isSo_185 rfl (lv_at hl 1 rfl) ?_
                        refine lv_bipush (v := 30) hx hb dL_isSo_186 (by decide) ?_
                        refine g_csr (va_runS (As := [.int z0, .int 30]) (rest := []) ⟨hx, hb, hml, hown, hts⟩ (m_L_low l D cy bd ρ κ z0 30 (by decide)) (va_cwS 2 hts gL_isSo_L_low rfl rfl rfl (by decide +kernel) ⟨Nat.le_of_ble_eq_true rfl, Nat.le_of_ble_eq_true rfl⟩) (g_preS (B := (fun _ => True)) hK trivial) rfl rfl hl.1 rfl (lv_room (Nat.le_of_ble_eq_true rfl)) dL_isSo_188 ⟨(Nat.le_of_ble_eq_true rfl), (Nat.le_of_ble_eq_true rfl)⟩) ?_
                        obtain ⟨vs, hvs, evs⟩ := low_nI (v := z0) (m := 30) (by decide) (by decide)
                        refine lv_topi (fun y4 ey4 => ?_)
                        obtain rfl : y4 = nI vs := ey4.trans (evs)
                        refine lv_istore (lv' := [(9, .int (nI vs)), (0, .ref (ad 0 0)), (1, .int z0), (2, .ref (bd 4 0)), (3, .ref (bd 6 0)), (4, .ref (bd 2 0)), (5, .ref (bd 1 0)), (6, .ref (bd 3 0)), (7, .ref (bd 0 0)), (8, .int 1)]) hx hb dL_isSo_191 hl (by decide) rfl (fun ls hl => ?_)
                        refine lv_iload hx hb dL_isSo_193 (lv_at hl 0 rfl) ?_
                        refine lv_aload hx hb dL_isSo_195 (lv_at hl 5 rfl) ?_
                        refine lv_aload hx hb dL_isSo_197 (lv_at hl 7 rfl) ?_
                        refine lv_aload hx hb dL_isSo_199 (lv_at hl 8 rfl) ?_
                        have hm5 := m_L_spread l D cy H2.size bd ρ (sgL (ρ 4) (μ 1 0) (sgL (ρ 4) (μ 1 0) κ (μ 1 0 + 1)).2.2 (μ 1 0 + 1)).2.2 hJ.2.1 (μ 0 0) h10 hLR.1.2.2.2.2.2.2.1 vs (by omega)
                        refine g_cu0 (va_runS (As := [.int (nI vs), .ref (bd 2 0), .ref (bd 3 0), .ref (bd 0 0)]) (rest := []) ⟨hx, hb, hml, hown, hts⟩ hm5 (va_cwS 4 hts gL_isSo_L_spread rfl rfl rfl (by decide +kernel) ⟨Nat.le_of_ble_eq_true rfl, Nat.le_of_ble_eq_true rfl⟩) (g_preS (B := atSz H2.size (LW D cy bd ρ (sgL (ρ 4) (μ 1 0) (sgL (ρ 4) (μ 1 0) κ (μ 1 0 + 1)).2.2 (μ 1 0 + 1)).2.2)) hK ⟨rfl, hB2⟩) rfl rfl hl.1 rfl (lv_room (Nat.le_of_ble_eq_true rfl)) dL_isSo_201 ⟨(Nat.le_of_ble_eq_true rfl), (Nat.le_of_ble_eq_true rfl)⟩) hS2 (fun q _ h => Or.inr (wA.mono hS2.1 h)) (fun q h => Or.inr (wA.mono hS2.1 h)) (fun H3 locs3 hB3 hz3 hk3 hS3 => ?_)
                        have hC3 : CW D cy ad τ ν H3 := hC2.byL hJ hk3
                        have hX3 := xKeep hX2 hk3 (fun q z => hA9 q (Or.inr (wA.mono hS2.1 z)))
                        obtain ⟨ρ1, hρ1⟩ : ∃ z : IT, z = (spv ρ (μ 0 0) vs) := ⟨_, rfl⟩
                        rw [← hρ1] at hB3
                        obtain ⟨κ1, hκ1⟩ : ∃ z : LT, z = (sgL (ρ 4) (μ 1 0) (sgL (ρ 4) (μ 1 0) κ (μ 1 0 + 1)).2.2 (μ 1 0 + 1)).2.2 := ⟨_, rfl⟩
                        rw [← hκ1] at hB3
                        have hL1 : LR ρ1 κ1 σ μ := hLR.cg (fun K hK => by rw [hρ1, spv_k hK]) (by rw [hκ1, hLR.rowK 5 (by decide), hLR.rowK 5 (by decide)]) (fun _ _ _ => rfl) (fun _ _ => rfl)
                        refine lv_iconst (v := 0) hx hb dL_isSo_204 (by decide) ?_
                        refine lv_topi (fun y6 ey6 => ?_)
                        obtain rfl : y6 = nI 0 := ey6.trans (nI_0.symm)
                        refine lv_istore (lv' := [(10, .int (nI 0)), (9, .int (nI vs)), (0, .ref (ad 0 0)), (1, .int z0), (2, .ref (bd 4 0)), (3, .ref (bd 6 0)), (4, .ref (bd 2 0)), (5, .ref (bd 1 0)), (6, .ref (bd 3 0)), (7, .ref (bd 0 0)), (8, .int 1)]) hx hb dL_isSo_205 hl (by decide) rfl (fun ls hl => ?_)
                        have loop2 : ∀ (k : Nat) (iz : Nat) (H9 : Heap) (locs9 : List Loc) (τ9 : IT) (ls : Array Slot), iz ≤ μ 0 0 → μ 0 0 < iz + k → Rel n τ9 ν σ μ → CW D cy ad τ9 ν H9 → LW D cy bd ρ1 κ1 H9 → va_S (wB (ν 0 0) ad bd s.heap.size) s.heap H9 locs9 → xK A9 s H9 → lv_has ls 11 [(0, .ref (ad 0 0)), (1, .int z0), (2, .ref (bd 4 0)), (3, .ref (bd 6 0)), (4, .ref (bd 2 0)), (5, .ref (bd 1 0)), (6, .ref (bd 3 0)), (7, .ref (bd 0 0)), (8, .int 1), (9, .int (nI vs)), (10, .int (nI iz))] → W p l e (headSpec wsL_isSo ({ frames := 8, cells := 100, slots := 700, locals := 200 } : Room)).room s m ([.ref (ad 0 0), .int z0, .ref (bd 4 0), .ref (bd 6 0), .ref (bd 2 0), .ref (bd 1 0), .ref (bd 3 0), .ref (bd 0 0)] : List Value).toArray below meth c H9 locs9 (6 + 6 * iz) (36 + 36 * iz) (MQ below (uQ (some (.int 1)) (fun H => ∃ (τ2 : IT) (ρ2 : IT) (κ2 : LT), Rel n τ2 ν σ μ ∧ LR ρ2 κ2 σ μ ∧ BW D cy ad bd τ2 ν ρ2 κ2 H) (wB (ν 0 0) ad bd s.heap.size)) ([.ref (ad 0 0), .int z0, .ref (bd 4 0), .ref (bd 6 0), .ref (bd 2 0), .ref (bd 1 0), .ref (bd 3 0), .ref (bd 0 0)] : List Value).toArray s 100 700 (wB (ν 0 0) ad bd s.heap.size)) (F0 m 207 ls []) := by
                          intro k
                          induction k with
                          | zero => intro iz H9 locs9 τ9 ls hz hzk hR9 hC9 hB9 hS9 hX9 hl; exfalso; omega
                          | succ k loop2_ih =>
                            intro iz H9 locs9 τ9 ls hz hzk hR9 hC9 hB9 hS9 hX9 hl
                            refine lv_iload hx hb dL_isSo_207 (lv_at hl 10 rfl) ?_
                            refine lv_aload hx hb dL_isSo_209 (lv_at hl 7 rfl) ?_
                            refine lv_bipush (v := 6) hx hb dL_isSo_211 (by decide) ?_
                            refine g_iald (f := ρ1 0) (x := nI (μ 0 0)) hx hb hK (hB9 0 0 Nat.zero_lt_one) (vp_in_nI (n := 6) (N := 8) (by decide) (by decide)) ((congrArg (ρ1 0) (cl_nI (n := 6) (by decide))).trans hL1.1.2.2.2.2.2.2.1) dL_isSo_213 ?_
                            refine lv_icmp_ge (tgt := 352) hx hb dL_isSo_214 (by decide) (fun c_214 => ?_) (fun c_214 => ?_)
                            · -- 214 t
                              refine lv_iload hx hb dL_isSo_352 (lv_at hl 8 rfl) ?_
                              exact g_zretU hx hb hr hlocks (by rfl) hS9 ⟨τ9, ρ1, κ1, hR9, hL1, hC9, hB9⟩ (by first | exact Nat.le_of_ble_eq_true rfl | omega) (by first | exact Nat.le_of_ble_eq_true rfl | omega) dL_isSo_354 rfl
                            · -- 214 f
                              have hz1 : iz < μ 0 0 := lt_of c_214 (by omega) (by omega)
                              refine lv_iload hx hb dL_isSo_217 (lv_at hl 8 rfl) ?_
                              refine lv_if_eq (tgt := 352) hx hb dL_isSo_219 (by decide) (fun c_219 => ?_) (fun c_219 => ?_)
                              · exact absurd c_219 (by decide)
                              · -- 219 f
                                refine lv_aload_n hx hb dL_isSo_222 rfl (lv_at hl 0 rfl) ?_
                                refine lv_iload hx hb dL_isSo_223 (lv_at hl 10 rfl) ?_
                                have hm7 := m_X3_dueAt l hl9 D cy A9 ad τ9 ν (by omega) (nI iz)
                                rw [cl_nI (n := iz) (by omega)] at hm7
                                refine x_rd (vx_runV (As := [.int (nI iz)]) (rest := []) ⟨hx, hb, hml, hown, hts⟩ hm7 (cwV 1 hts gL_isSo_X3_dueAt rfl rfl rfl (by decide +kernel) ⟨Nat.le_of_ble_eq_true rfl, Nat.le_of_ble_eq_true rfl⟩) (x_preV (C := RX3) (B := CW D cy ad τ9 ν) hK hX9 hC9 (hC9 0 0 Nat.zero_lt_one) rfl) rfl rfl hl.1 rfl (lv_room (Nat.le_of_ble_eq_true rfl)) dL_isSo_225 ⟨(by show (6 + 6 * iz) + 1 ≤ 100; omega), (by show (36 + 36 * iz) + 6 ≤ 700; omega)⟩) (fun E z => by rw [idx_page' (show ν 0 0 ≤ 30 by omega) (show iz < ν 0 0 by omega)] at z; cases z.1) ?_
                                have k_255 : ∀ z8 : Int32, z8 = dueC τ9 iz → W p l e (headSpec wsL_isSo ({ frames := 8, cells := 100, slots := 700, locals := 200 } : Room)).room s m ([.ref (ad 0 0), .int z0, .ref (bd 4 0), .ref (bd 6 0), .ref (bd 2 0), .ref (bd 1 0), .ref (bd 3 0), .ref (bd 0 0)] : List Value).toArray below meth c H9 locs9 ((6 + 6 * iz) + 1) ((36 + 36 * iz) + 6) (MQ below (uQ (some (.int 1)) (fun H => ∃ (τ2 : IT) (ρ2 : IT) (κ2 : LT), Rel n τ2 ν σ μ ∧ LR ρ2 κ2 σ μ ∧ BW D cy ad bd τ2 ν ρ2 κ2 H) (wB (ν 0 0) ad bd s.heap.size)) ([.ref (ad 0 0), .int z0, .ref (bd 4 0), .ref (bd 6 0), .ref (bd 2 0), .ref (bd 1 0), .ref (bd 3 0), .ref (bd 0 0)] : List Value).toArray s 100 700 (wB (ν 0 0) ad bd s.heap.size)) (F0 m 255 ls [.int z8, .int (dueC τ9 iz)]) := by
                                  intro z8 ez8
                                  subst ez8
                                  refine lv_icmp_ne (tgt := 343) hx hb dL_isSo_255 (by decide) (fun c_255 => ?_) (fun c_255 => ?_)
                                  · -- 255 t
                                    exact absurd (rfl) c_255
                                  · -- 255 f
                                    refine lv_aload_n hx hb dL_isSo_258 rfl (lv_at hl 0 rfl) ?_
                                    refine lv_iload hx hb dL_isSo_259 (lv_at hl 10 rfl) ?_
                                    have hm9 := m_X3_visits l hl9 D cy A9 ad τ9 ν (by omega) (nI iz)
                                    rw [cl_nI (n := iz) (by omega)] at hm9
                                    refine x_rd (vx_runV (As := [.int (nI iz)]) (rest := []) ⟨hx, hb, hml, hown, hts⟩ hm9 (cwV 1 hts gL_isSo_X3_visits rfl rfl rfl (by decide +kernel) ⟨Nat.le_of_ble_eq_true rfl, Nat.le_of_ble_eq_true rfl⟩) (x_preV (C := RX3) (B := CW D cy ad τ9 ν) hK hX9 hC9 (hC9 0 0 Nat.zero_lt_one) rfl) rfl rfl hl.1 rfl (lv_room (Nat.le_of_ble_eq_true rfl)) dL_isSo_261 ⟨(by show ((6 + 6 * iz) + 1) + 1 ≤ 100; omega), (by show ((36 + 36 * iz) + 6) + 6 ≤ 700; omega)⟩) (fun E z => by rw [idx_page' (show ν 0 0 ≤ 30 by omega) (show iz < ν 0 0 by omega)] at z; cases z.1) ?_
                                    refine lv_aload hx hb dL_isSo_264 (lv_at hl 4 rfl) ?_
                                    refine lv_bipush (v := 6) hx hb dL_isSo_266 (by decide) ?_
                                    refine lv_iload hx hb dL_isSo_268 (lv_at hl 10 rfl) ?_
                                    refine lv_imul hx hb dL_isSo_270 ?_
                                    refine lv_topi (fun y10 ey10 => ?_)
                                    obtain rfl : y10 = nI (6 * iz) := ey10.trans (pk_mul 6 iz)
                                    refine lv_iconst (v := 3) hx hb dL_isSo_271 (by decide) ?_
                                    refine lv_iadd hx hb dL_isSo_272 ?_
                                    refine lv_topi (fun y11 ey11 => ?_)
                                    obtain rfl : y11 = nI ((6 * iz) + 3) := ey11.trans (nI_add (6 * iz) 3)
                                    refine g_iald (f := ρ1 2) (x := ρ1 2 ((6 * iz) + 3)) hx hb hK (hB9 2 0 Nat.zero_lt_one) (vp_in_nI (n := (6 * iz) + 3) (N := 60) (by omega) (by decide)) (congrArg (ρ1 2) (cl_nI (n := (6 * iz) + 3) (by omega))) dL_isSo_273 ?_
                                    refine lv_icmp_ne (tgt := 343) hx hb dL_isSo_274 (by decide) (fun c_274 => ?_) (fun c_274 => ?_)
                                    · -- 274 t
                                      exact absurd (hL1.visE hR9 hz1) c_274
                                    · -- 274 f
                                      refine lv_aload_n hx hb dL_isSo_277 rfl (lv_at hl 0 rfl) ?_
                                      refine lv_iload hx hb dL_isSo_278 (lv_at hl 10 rfl) ?_
                                      have hm12 := m_X3_changes l hl9 D cy A9 ad τ9 ν (by omega) (nI iz)
                                      rw [cl_nI (n := iz) (by omega)] at hm12
                                      refine x_rd (vx_runV (As := [.int (nI iz)]) (rest := []) ⟨hx, hb, hml, hown, hts⟩ hm12 (cwV 1 hts gL_isSo_X3_changes rfl rfl rfl (by decide +kernel) ⟨Nat.le_of_ble_eq_true rfl, Nat.le_of_ble_eq_true rfl⟩) (x_preV (C := RX3) (B := CW D cy ad τ9 ν) hK hX9 hC9 (hC9 0 0 Nat.zero_lt_one) rfl) rfl rfl hl.1 rfl (lv_room (Nat.le_of_ble_eq_true rfl)) dL_isSo_280 ⟨(by show (((6 + 6 * iz) + 1) + 1) + 1 ≤ 100; omega), (by show (((36 + 36 * iz) + 6) + 6) + 6 ≤ 700; omega)⟩) (fun E z => by rw [idx_page' (show ν 0 0 ≤ 30 by omega) (show iz < ν 0 0 by omega)] at z; cases z.1) ?_
                                      refine lv_aload hx hb dL_isSo_283 (lv_at hl 4 rfl) ?_
                                      refine lv_bipush (v := 6) hx hb dL_isSo_285 (by decide) ?_
                                      refine lv_iload hx hb dL_isSo_287 (lv_at hl 10 rfl) ?_
                                      refine lv_imul hx hb dL_isSo_289 ?_
                                      refine lv_topi (fun y13 ey13 => ?_)
                                      obtain rfl : y13 = nI (6 * iz) := ey13.trans (pk_mul 6 iz)
                                      refine lv_iconst (v := 4) hx hb dL_isSo_290 (by decide) ?_
                                      refine lv_iadd hx hb dL_isSo_291 ?_
                                      refine lv_topi (fun y14 ey14 => ?_)
                                      obtain rfl : y14 = nI ((6 * iz) + 4) := ey14.trans (nI_add (6 * iz) 4)
                                      refine g_iald (f := ρ1 2) (x := ρ1 2 ((6 * iz) + 4)) hx hb hK (hB9 2 0 Nat.zero_lt_one) (vp_in_nI (n := (6 * iz) + 4) (N := 60) (by omega) (by decide)) (congrArg (ρ1 2) (cl_nI (n := (6 * iz) + 4) (by omega))) dL_isSo_292 ?_
                                      refine lv_icmp_ne (tgt := 343) hx hb dL_isSo_293 (by decide) (fun c_293 => ?_) (fun c_293 => ?_)
                                      · -- 293 t
                                        exact absurd (hL1.chgE hR9 hz1) c_293
                                      · -- 293 f
                                        refine lv_aload_n hx hb dL_isSo_296 rfl (lv_at hl 0 rfl) ?_
                                        refine lv_iload hx hb dL_isSo_297 (lv_at hl 10 rfl) ?_
                                        have hm15 := m_X3_mayVisit l hl9 D cy A9 ad τ9 ν hR9.CI (nI iz)
                                        rw [cl_nI (n := iz) (by omega)] at hm15
                                        refine x_rd (vx_runV (As := [.int (nI iz)]) (rest := []) ⟨hx, hb, hml, hown, hts⟩ hm15 (cwV 1 hts gL_isSo_X3_mayVisit rfl rfl rfl (by decide +kernel) ⟨Nat.le_of_ble_eq_true rfl, Nat.le_of_ble_eq_true rfl⟩) (x_preV (C := RX3) (B := CW D cy ad τ9 ν) hK hX9 hC9 (hC9 0 0 Nat.zero_lt_one) rfl) rfl rfl hl.1 rfl (lv_room (Nat.le_of_ble_eq_true rfl)) dL_isSo_299 ⟨(by show ((((6 + 6 * iz) + 1) + 1) + 1) + 1 ≤ 100; omega), (by show ((((36 + 36 * iz) + 6) + 6) + 6) + 6 ≤ 700; omega)⟩) (fun E z => by rw [idx_page' (show ν 0 0 ≤ 30 by omega) (show iz < ν 0 0 by omega)] at z; cases z.1) ?_
                                        refine lv_iload hx hb dL_isSo_302 (lv_at hl 10 rfl) ?_
                                        refine lv_aload hx hb dL_isSo_304 (lv_at hl 4 rfl) ?_
                                        refine lv_aload hx hb dL_isSo_306 (lv_at hl 5 rfl) ?_
                                        refine lv_aload hx hb dL_isSo_308 (lv_at hl 7 rfl) ?_
                                        refine g_csr (va_runS (As := [.int (nI iz), .ref (bd 2 0), .ref (bd 1 0), .ref (bd 0 0)]) (rest := [.int (zb (isRdy τ9 ν iz))]) ⟨hx, hb, hml, hown, hts⟩ (m_L_may l D cy bd ρ1 κ1 (μ 0 0) (gP μ) h10 hL1.hG iz (by omega)) (va_cwS 4 hts gL_isSo_L_may rfl rfl rfl (by decide +kernel) ⟨Nat.le_of_ble_eq_true rfl, Nat.le_of_ble_eq_true rfl⟩) (g_preS (B := (LW D cy bd ρ1 κ1)) hK hB9) rfl rfl hl.1 rfl (lv_room (Nat.le_of_ble_eq_true rfl)) dL_isSo_310 ⟨(by show (((((6 + 6 * iz) + 1) + 1) + 1) + 1) + 0 ≤ 100; omega), (by show (((((36 + 36 * iz) + 6) + 6) + 6) + 6) + 0 ≤ 700; omega)⟩) ?_
                                        refine lv_icmp_ne (tgt := 343) hx hb dL_isSo_313 (by decide) (fun c_313 => ?_) (fun c_313 => ?_)
                                        · -- 313 t
                                          exact absurd (congrArg zb (hL1.may hR9 hz1).symm) c_313
                                        · -- 313 f
                                          refine lv_iload hx hb dL_isSo_316 (lv_at hl 9 rfl) ?_
                                          refine lv_iconst (v := 3) hx hb dL_isSo_318 (by decide) ?_
                                          refine lv_irem hx hb dL_isSo_319 (by decide) ?_
                                          refine lv_if_gt (tgt := 339) hx hb dL_isSo_320 (by decide) (fun c_320 => ?_) (fun c_320 => ?_)
                                          · -- 320 t
                                            refine lv_iconst (v := 1) hx hb dL_isSo_339 (by decide) ?_
                                            refine lv_goto (tgt := 344) hx hb dL_isSo_340 (by decide) ?_
                                            refine lv_istore (lv' := [(8, .int 1), (0, .ref (ad 0 0)), (1, .int z0), (2, .ref (bd 4 0)), (3, .ref (bd 6 0)), (4, .ref (bd 2 0)), (5, .ref (bd 1 0)), (6, .ref (bd 3 0)), (7, .ref (bd 0 0)), (9, .int (nI vs)), (10, .int (nI iz))]) hx hb dL_isSo_344 hl (by decide) rfl (fun ls hl => ?_)
                                            refine lv_iinc (v := nI (iz + 1)) (lv' := [(10, .int (nI (iz + 1))), (8, .int 1), (0, .ref (ad 0 0)), (1, .int z0), (2, .ref (bd 4 0)), (3, .ref (bd 6 0)), (4, .ref (bd 2 0)), (5, .ref (bd 1 0)), (6, .ref (bd 3 0)), (7, .ref (bd 0 0)), (9, .int (nI vs))]) hx hb dL_isSo_346 hl (k := 10) rfl (nI_1 _) (by decide) rfl (fun ls hl => ?_)
                                            refine lv_goto (tgt := 207) hx hb dL_isSo_349 (by decide) ?_
                                            refine W.widen (k := 6 + 6 * (iz + 1)) (n := 36 + 36 * (iz + 1)) (by omega) (by omega) ?_
                                            exact loop2_ih (iz + 1) H9 locs9 τ9 ls (by omega) (by omega) hR9 hC9 hB9 hS9 hX9 (lv_sub hl [2, 3, 4, 5, 6, 7, 8, 9, 1, 10, 0] rfl)
                                          · -- 320 f
                                            refine lv_aload_n hx hb dL_isSo_323 rfl (lv_at hl 0 rfl) ?_
                                            refine lv_iload hx hb dL_isSo_324 (lv_at hl 10 rfl) ?_
                                            refine lv_iload hx hb dL_isSo_326 (lv_at hl 9 rfl) ?_
                                            have hm16 := m_X3_share l hl9 D cy A9 H9.size ad τ9 ν hJ.1 (by omega) (nI iz) (nI vs)
                                            rw [cl_nI (n := iz) (by omega), cl_nI (n := vs) (by omega)] at hm16
                                            refine x_wr1 (vx_runV (As := [.int (nI iz), .int (nI vs)]) (rest := []) ⟨hx, hb, hml, hown, hts⟩ hm16 (cwV 2 hts gL_isSo_X3_share rfl rfl rfl (by decide +kernel) ⟨Nat.le_of_ble_eq_true rfl, Nat.le_of_ble_eq_true rfl⟩) (x_preV (C := RX3) (B := atSz H9.size (CW D cy ad τ9 ν)) hK hX9 ⟨rfl, hC9⟩ (hC9 0 0 Nat.zero_lt_one) rfl) rfl rfl hl.1 rfl (lv_room (Nat.le_of_ble_eq_true rfl)) dL_isSo_328 ⟨(by show (((((6 + 6 * iz) + 1) + 1) + 1) + 1) + 2 ≤ 100; omega), (by show (((((36 + 36 * iz) + 6) + 6) + 6) + 6) + 12 ≤ 700; omega)⟩) (fun E z => z.elim (fun z => by rw [idx_page' (show ν 0 0 ≤ 30 by omega) (show iz < ν 0 0 by omega)] at z; cases z.1) (fun z => by rw [in_100 (show vs ≤ 100 by omega)] at z; cases z.2.1)) hS9 (fun q _ h => Or.inl (wA.mono hS9.1 h)) (fun q h => Or.inl (wA.mono hS9.1 h)) (fun H4 locs4 hC4 hz4 hk4 hS4 => ?_)
                                            have hB4 : LW D cy bd ρ1 κ1 H4 := hB9.byC hJ hk4
                                            have hX4 := xKeep hX9 hk4 (fun q z => hA9 q (Or.inl (wA.mono hS9.1 z)))
                                            refine lv_aload hx hb dL_isSo_331 (lv_at hl 6 rfl) ?_
                                            refine lv_iload hx hb dL_isSo_333 (lv_at hl 10 rfl) ?_
                                            refine g_iald (f := ρ1 3) (x := ρ1 3 iz) hx hb hK (hB4 3 0 Nat.zero_lt_one) (vp_in_nI (n := iz) (N := 10) (by omega) (by decide)) (congrArg (ρ1 3) (cl_nI (n := iz) (by omega))) dL_isSo_335 ?_
                                            refine lv_icmp_ne (tgt := 343) hx hb dL_isSo_336 (by decide) (fun c_336 => ?_) (fun c_336 => ?_)
                                            · -- 336 t
                                              exact absurd ((hLR.shr hR9 (by omega) (by omega) hz1).trans (congrFun (congrFun hρ1 3) iz).symm) c_336
                                            · -- 336 f
                                              refine lv_iconst (v := 1) hx hb dL_isSo_339 (by decide) ?_
                                              refine lv_goto (tgt := 344) hx hb dL_isSo_340 (by decide) ?_
                                              refine lv_istore (lv' := [(8, .int 1), (0, .ref (ad 0 0)), (1, .int z0), (2, .ref (bd 4 0)), (3, .ref (bd 6 0)), (4, .ref (bd 2 0)), (5, .ref (bd 1 0)), (6, .ref (bd 3 0)), (7, .ref (bd 0 0)), (9, .int (nI vs)), (10, .int (nI iz))]) hx hb dL_isSo_344 hl (by decide) rfl (fun ls hl => ?_)
                                              refine lv_iinc (v := nI (iz + 1)) (lv' := [(10, .int (nI (iz + 1))), (8, .int 1), (0, .ref (ad 0 0)), (1, .int z0), (2, .ref (bd 4 0)), (3, .ref (bd 6 0)), (4, .ref (bd 2 0)), (5, .ref (bd 1 0)), (6, .ref (bd 3 0)), (7, .ref (bd 0 0)), (9, .int (nI vs))]) hx hb dL_isSo_346 hl (k := 10) rfl (nI_1 _) (by decide) rfl (fun ls hl => ?_)
                                              refine lv_goto (tgt := 207) hx hb dL_isSo_349 (by decide) ?_
                                              refine W.widen (k := 6 + 6 * (iz + 1)) (n := 36 + 36 * (iz + 1)) (by omega) (by omega) ?_
                                              exact loop2_ih (iz + 1) H4 locs4 (svN τ9 ν vs) ls (by omega) (by omega) hR9.shr hC4 hB4 hS4 hX4 (lv_sub hl [2, 3, 4, 5, 6, 7, 8, 9, 1, 10, 0] rfl)
                                refine lv_aload hx hb dL_isSo_228 (lv_at hl 4 rfl) ?_
                                refine lv_bipush (v := 6) hx hb dL_isSo_230 (by decide) ?_
                                refine lv_iload hx hb dL_isSo_232 (lv_at hl 10 rfl) ?_
                                refine lv_imul hx hb dL_isSo_234 ?_
                                refine lv_topi (fun y17 ey17 => ?_)
                                obtain rfl : y17 = nI (6 * iz) := ey17.trans (pk_mul 6 iz)
                                refine lv_iconst (v := 5) hx hb dL_isSo_235 (by decide) ?_
                                refine lv_iadd hx hb dL_isSo_236 ?_
                                refine lv_topi (fun y18 ey18 => ?_)
                                obtain rfl : y18 = nI ((6 * iz) + 5) := ey18.trans (nI_add (6 * iz) 5)
                                refine g_iald (f := ρ1 2) (x := ρ1 2 ((6 * iz) + 5)) hx hb hK (hB9 2 0 Nat.zero_lt_one) (vp_in_nI (n := (6 * iz) + 5) (N := 60) (by omega) (by decide)) (congrArg (ρ1 2) (cl_nI (n := (6 * iz) + 5) (by omega))) dL_isSo_237 ?_
                                refine lv_if_ne (tgt := 254) hx hb dL_isSo_238 (by decide) (fun c_238 => ?_) (fun c_238 => ?_)
                                · -- 238 t
                                  refine lv_iconst (v := (-1)) hx hb dL_isSo_254 (by decide) ?_
                                  exact k_255 _ (hL1.dueN hR9 hz1 c_238)
                                · -- 238 f
                                  refine lv_aload hx hb dL_isSo_241 (lv_at hl 4 rfl) ?_
                                  refine lv_bipush (v := 6) hx hb dL_isSo_243 (by decide) ?_
                                  refine lv_iload hx hb dL_isSo_245 (lv_at hl 10 rfl) ?_
                                  refine lv_imul hx hb dL_isSo_247 ?_
                                  refine lv_topi (fun y19 ey19 => ?_)
                                  obtain rfl : y19 = nI (6 * iz) := ey19.trans (pk_mul 6 iz)
                                  refine lv_iconst (v := 2) hx hb dL_isSo_248 (by decide) ?_
                                  refine lv_iadd hx hb dL_isSo_249 ?_
                                  refine lv_topi (fun y20 ey20 => ?_)
                                  obtain rfl : y20 = nI ((6 * iz) + 2) := ey20.trans (nI_add (6 * iz) 2)
                                  refine g_iald (f := ρ1 2) (x := ρ1 2 ((6 * iz) + 2)) hx hb hK (hB9 2 0 Nat.zero_lt_one) (vp_in_nI (n := (6 * iz) + 2) (N := 60) (by omega) (by decide)) (congrArg (ρ1 2) (cl_nI (n := (6 * iz) + 2) (by omega))) dL_isSo_250 ?_
                                  refine lv_goto (tgt := 255) hx hb dL_isSo_251 (by decide) ?_
                                  exact k_255 _ (hL1.dueE hR9 hz1 c_238)
                        exact loop2 (μ 0 0 + 1) 0 H3 locs3 τ ls (Nat.zero_le _) (by omega) hR hC3 hB3 hS3 hX3 (lv_sub hl [2, 3, 4, 5, 6, 7, 8, 9, 10, 1, 0] rfl)
                      · -- 124 f
                        have hi3 : i < 3 := lt_of (n := 3) c_124 (by omega) (by decide)
                        refine lv_iload hx hb dL_isSo_127 (lv_at hl 8 rfl) ?_
                        refine lv_if_eq (tgt := 185) hx hb dL_isSo_129 (by decide) (fun c_129 => ?_) (fun c_129 => ?_)
                        · exact absurd c_129 (by decide)
                        · -- 129 f
                          refine lv_aload_n hx hb dL_isSo_132 rfl (lv_at hl 0 rfl) ?_
                          refine lv_iconst (v := 2) hx hb dL_isSo_133 (by decide) ?_
                          refine lv_iload hx hb dL_isSo_134 (lv_at hl 9 rfl) ?_
                          refine lv_imul hx hb dL_isSo_136 ?_
                          refine lv_topi (fun y21 ey21 => ?_)
                          obtain rfl : y21 = nI (2 * i) := ey21.trans (pk_mul 2 i)
                          have hm22 := m_X3_failures l hl9 D cy A9 ad τ ν (nI (2 * i))
                          rw [cl_nI (n := 2 * i) (by omega)] at hm22
                          refine x_rd (vx_runV (As := [.int (nI (2 * i))]) (rest := []) ⟨hx, hb, hml, hown, hts⟩ hm22 (cwV 1 hts gL_isSo_X3_failures rfl rfl rfl (by decide +kernel) ⟨Nat.le_of_ble_eq_true rfl, Nat.le_of_ble_eq_true rfl⟩) (x_preV (C := RX3) (B := CW D cy ad τ ν) hK hX2 hC2 (hC2 0 0 Nat.zero_lt_one) rfl) rfl rfl hl.1 rfl (lv_room (Nat.le_of_ble_eq_true rfl)) dL_isSo_137 ⟨(by show (2 * i) + 1 ≤ 100; omega), (by show (12 * i) + 6 ≤ 700; omega)⟩) (fun E z => by rw [idx_host' (show 2 * i < 6 by omega)] at z; cases z.1) ?_
                          refine lv_aload hx hb dL_isSo_140 (lv_at hl 5 rfl) ?_
                          refine lv_iconst (v := 3) hx hb dL_isSo_142 (by decide) ?_
                          refine lv_iload hx hb dL_isSo_143 (lv_at hl 9 rfl) ?_
                          refine lv_imul hx hb dL_isSo_145 ?_
                          refine lv_topi (fun y23 ey23 => ?_)
                          obtain rfl : y23 = nI (3 * i) := ey23.trans (pk_mul 3 i)
                          refine lv_iconst (v := 1) hx hb dL_isSo_146 (by decide) ?_
                          refine lv_iadd hx hb dL_isSo_147 ?_
                          refine lv_topi (fun y24 ey24 => ?_)
                          obtain rfl : y24 = nI ((3 * i) + 1) := ey24.trans (nI_add (3 * i) 1)
                          refine g_iald (f := ρ 1) (x := ρ 1 ((3 * i) + 1)) hx hb hK (hB2 1 0 Nat.zero_lt_one) (vp_in_nI (n := (3 * i) + 1) (N := 9) (by omega) (by decide)) (congrArg (ρ 1) (cl_nI (n := (3 * i) + 1) (by omega))) dL_isSo_148 ?_
                          refine lv_icmp_ne (tgt := 176) hx hb dL_isSo_149 (by decide) (fun c_149 => ?_) (fun c_149 => ?_)
                          · -- 149 t
                            exact absurd (hLR.faiE hR hi3) c_149
                          · -- 149 f
                            refine lv_aload_n hx hb dL_isSo_152 rfl (lv_at hl 0 rfl) ?_
                            refine lv_iconst (v := 2) hx hb dL_isSo_153 (by decide) ?_
                            refine lv_iload hx hb dL_isSo_154 (lv_at hl 9 rfl) ?_
                            refine lv_imul hx hb dL_isSo_156 ?_
                            refine lv_topi (fun y25 ey25 => ?_)
                            obtain rfl : y25 = nI (2 * i) := ey25.trans (pk_mul 2 i)
                            have hm26 := m_X3_openFrom l hl9 D cy A9 ad τ ν (nI (2 * i))
                            rw [cl_nI (n := 2 * i) (by omega)] at hm26
                            refine x_rd (vx_runV (As := [.int (nI (2 * i))]) (rest := []) ⟨hx, hb, hml, hown, hts⟩ hm26 (cwV 1 hts gL_isSo_X3_openFrom rfl rfl rfl (by decide +kernel) ⟨Nat.le_of_ble_eq_true rfl, Nat.le_of_ble_eq_true rfl⟩) (x_preV (C := RX3) (B := CW D cy ad τ ν) hK hX2 hC2 (hC2 0 0 Nat.zero_lt_one) rfl) rfl rfl hl.1 rfl (lv_room (Nat.le_of_ble_eq_true rfl)) dL_isSo_157 ⟨(by show ((2 * i) + 1) + 1 ≤ 100; omega), (by show ((12 * i) + 6) + 6 ≤ 700; omega)⟩) (fun E z => by rw [idx_host' (show 2 * i < 6 by omega)] at z; cases z.1) ?_
                            refine lv_aload hx hb dL_isSo_160 (lv_at hl 5 rfl) ?_
                            refine lv_iconst (v := 3) hx hb dL_isSo_162 (by decide) ?_
                            refine lv_iload hx hb dL_isSo_163 (lv_at hl 9 rfl) ?_
                            refine lv_imul hx hb dL_isSo_165 ?_
                            refine lv_topi (fun y27 ey27 => ?_)
                            obtain rfl : y27 = nI (3 * i) := ey27.trans (pk_mul 3 i)
                            refine lv_iconst (v := 2) hx hb dL_isSo_166 (by decide) ?_
                            refine lv_iadd hx hb dL_isSo_167 ?_
                            refine lv_topi (fun y28 ey28 => ?_)
                            obtain rfl : y28 = nI ((3 * i) + 2) := ey28.trans (nI_add (3 * i) 2)
                            refine g_iald (f := ρ 1) (x := ρ 1 ((3 * i) + 2)) hx hb hK (hB2 1 0 Nat.zero_lt_one) (vp_in_nI (n := (3 * i) + 2) (N := 9) (by omega) (by decide)) (congrArg (ρ 1) (cl_nI (n := (3 * i) + 2) (by omega))) dL_isSo_168 ?_
                            refine lv_icmp_ne (tgt := 176) hx hb dL_isSo_169 (by decide) (fun c_169 => ?_) (fun c_169 => ?_)
                            · -- 169 t
                              exact absurd (hLR.opnE hR hi3) c_169
                            · -- 169 f
                              refine lv_iconst (v := 1) hx hb dL_isSo_172 (by decide) ?_
                              refine lv_goto (tgt := 177) hx hb dL_isSo_173 (by decide) ?_
                              refine lv_istore (lv' := [(8, .int 1), (0, .ref (ad 0 0)), (1, .int z0), (2, .ref (bd 4 0)), (3, .ref (bd 6 0)), (4, .ref (bd 2 0)), (5, .ref (bd 1 0)), (6, .ref (bd 3 0)), (7, .ref (bd 0 0)), (9, .int (nI i))]) hx hb dL_isSo_177 hl (by decide) rfl (fun ls hl => ?_)
                              refine lv_iinc (v := nI (i + 1)) (lv' := [(9, .int (nI (i + 1))), (8, .int 1), (0, .ref (ad 0 0)), (1, .int z0), (2, .ref (bd 4 0)), (3, .ref (bd 6 0)), (4, .ref (bd 2 0)), (5, .ref (bd 1 0)), (6, .ref (bd 3 0)), (7, .ref (bd 0 0))]) hx hb dL_isSo_179 hl (k := 9) rfl (nI_1 _) (by decide) rfl (fun ls hl => ?_)
                              refine lv_goto (tgt := 121) hx hb dL_isSo_182 (by decide) ?_
                              refine W.widen (k := 2 * (i + 1)) (n := 12 * (i + 1)) (by omega) (by omega) ?_
                              exact loop_ih (i + 1) ls (by omega) (by omega) (lv_sub hl [2, 3, 4, 5, 6, 7, 8, 9, 1, 0] rfl)
                  exact loop (4) 0 ls (Nat.zero_le _) (by decide) (lv_sub hl [2, 3, 4, 5, 6, 7, 8, 9, 1, 0] rfl)
