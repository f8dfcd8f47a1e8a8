/-! the law: a page is found -/
theorem J2.grow {n z pp bb cc2 tt : Nat} {ad bd : NT} (hJ : J2 n ad bd) (hlt : ∀ k i, i < cC n k → ad k i < z) (hbl : ∀ k, 0 < cL k → bd k 0 < z) (h1 : z ≤ pp) (h2 : pp < bb) (h3 : bb < cc2) (h4 : bb < tt) (h5 : cc2 ≠ tt) : J2 (n + 1) (fdAd ad n pp bb cc2 tt) bd ∧ ∀ k i, i < cC (n + 1) k → (i < cC n k ∧ fdAd ad n pp bb cc2 tt k i = ad k i) ∨ z ≤ fdAd ad n pp bb cc2 tt k i := by
  have own : ∀ k i, i < cC (n + 1) k → (i < cC n k ∧ fdAd ad n pp bb cc2 tt k i = ad k i) ∨ z ≤ fdAd ad n pp bb cc2 tt k i := by
    intro k i hi
    rcases cC_up hi with ⟨hh, g⟩ | ⟨hk, rfl⟩
    · exact Or.inl ⟨hh, fdAd_old g⟩
    · right
      rcases hk with rfl | rfl | rfl | rfl <;> simp [fdAd] <;> omega
  refine ⟨⟨fdAd_J hJ.1 hlt h1 h2 h3 h4 h5, hJ.2.1, fun k i k2 hi hk2 => ?_⟩, own⟩
  rcases own k i hi with ⟨hh, e⟩ | hge
  · rw [e]; exact hJ.2.2 k i k2 hh hk2
  · have := hbl k2 hk2
    omega
theorem tv_0 {a b : Bool} (h : zb a = zb b) : ((if b = true then (2 : Int32) else 0) = 0) ↔ a = false := by
  cases a <;> cases b <;> first | (exact ⟨fun _ => rfl, fun _ => rfl⟩) | (exact ⟨fun z => absurd z (by decide), fun z => Bool.noConfusion z⟩) | (exact absurd h (by decide))
theorem in_9 {v : Nat} (h : v ≤ 9) : inB (nI v) 0 9 = true := by
  simp only [inB, Bool.and_eq_true, Bool.not_eq_true', decide_eq_false_iff_not]
  exact ⟨nI_pos (by omega), Int32.not_lt.mpr ((nI_leI (a := v) (b := 9) (by omega) (by decide)).mpr h)⟩

set_option maxHeartbeats 8000000 in
set_option maxRecDepth 100000 in
/-- the law: finds -/
theorem m_L_finds (l : Launch) (hl9 : l.stackTraces = false) (D : va_G) (cy : Nat → ClassId) (A9 : Nat → Prop) (sz : Nat) (ad bd : NT) (τ : IT) (ν : NT) (ρ : IT) (κ : LT) (σ : IT) (μ : NT) (n : Nat) (hR : Rel n τ ν σ μ) (hn : n < 900) (hLR : LR ρ κ σ μ) (hJ : J2 (ν 0 0) ad bd) (hA9 : ∀ q, (wB (ν 0 0) ad bd sz) q → A9 q) (z0 : Int32) : Met l yL_finds wsL_finds ({ frames := 9, cells := 6, slots := 86, locals := 215 } : Room) (va_Pc [.ref (ad 0 0), .int z0, .ref (bd 4 0), .ref (bd 6 0), .ref (bd 5 0), .ref (bd 2 0), .ref (bd 0 0)] (fun U => gK D cy U ∧ xK A9 U U.heap ∧ cK U ∧ atSz sz (BW D cy ad bd τ ν ρ κ) U.heap)) (uQ (some (.int 1)) (fun H => ∃ (ad2 : NT) (τ2 : IT) (ν2 : NT) (σ2 : IT) (μ2 : NT) (ρ2 : IT) (κ2 : LT), ad2 0 0 = ad 0 0 ∧ (∀ k i, i < cC (ν2 0 0) k → wA (cC (ν 0 0)) ad sz (ad2 k i)) ∧ J2 (ν2 0 0) ad2 bd ∧ Rel n τ2 ν2 σ2 μ2 ∧ LR ρ2 κ2 σ2 μ2 ∧ σ2 0 0 = σ 0 0 ∧ BW D cy ad2 bd τ2 ν2 ρ2 κ2 H) (wB (ν 0 0) ad bd sz)) 6 86 (wB (ν 0 0) ad bd sz) := by
  refine Met.ofW (cc := cL_finds) (maxL := 13) (ret := (some .boolean)) (by decide) rfl ?_
  intro p e s m args below meth c s₁ B9 hml hv
  obtain ⟨rfl, hK, hX, hcK, hsz, hC, hB⟩ := hv
  have hx := B9.exec
  have hb := B9.bytes
  have hr := B9.returns
  have hts := atoms_spec (ws := wsL_finds) B9.pre
  have hown : s.vm.findClass RL = some m.cls := findClass_of_methodNamed B9.named
  have hlocks := B9.notSynchronized
  subst hsz
  have hS : va_S (wB (ν 0 0) ad bd s.heap.size) s.heap s.heap [] := va_S.rf
  have hl := lv_entry ([.ref (ad 0 0), .int z0, .ref (bd 4 0), .ref (bd 6 0), .ref (bd 5 0), .ref (bd 2 0), .ref (bd 0 0)]) (n := 13) (Nat.le_of_ble_eq_true rfl)
  rw [lg_entry_eq]
  generalize (lg_sl ([.ref (ad 0 0), .int z0, .ref (bd 4 0), .ref (bd 6 0), .ref (bd 5 0), .ref (bd 2 0), .ref (bd 0 0)]) ++ List.replicate (13 - (lg_sl ([.ref (ad 0 0), .int z0, .ref (bd 4 0), .ref (bd 6 0), .ref (bd 5 0), .ref (bd 2 0), .ref (bd 0 0)])).length) Slot.unset).toArray = ls at hl ⊢
  have hl : lv_has ls 13 [(0, .ref (ad 0 0)), (1, .int z0), (2, .ref (bd 4 0)), (3, .ref (bd 6 0)), (4, .ref (bd 5 0)), (5, .ref (bd 2 0)), (6, .ref (bd 0 0))] := hl
  have h10 := hLR.2.1.1
  have h12 := hLR.2.1.2.1
  have hn0 := hR.n0
  have hn1 := hR.n1
  refine lv_iload_n hx hb dL_finds_0 rfl (lv_at hl 1 rfl) ?_
  refine lv_iconst (v := 3) hx hb dL_finds_1 (by decide) ?_
  refine g_csr (va_runS (As := [.int z0, .int 3]) (rest := []) ⟨hx, hb, hml, hown, hts⟩ (m_L_low l D cy bd ρ κ z0 3 (by decide)) (va_cwS 2 hts gL_finds_L_low rfl rfl rfl (by decide +kernel) ⟨Nat.le_of_ble_eq_true rfl, Nat.le_of_ble_eq_true rfl⟩) (g_preS (B := (fun _ => True)) hK trivial) rfl rfl hl.1 rfl (lv_room (Nat.le_of_ble_eq_true rfl)) dL_finds_2 ⟨(Nat.le_of_ble_eq_true rfl), (Nat.le_of_ble_eq_true rfl)⟩) ?_
  obtain ⟨hz, hhz, ehz⟩ := low_nI (v := z0) (m := 3) (by decide) (by decide)
  refine lv_topi (fun y1 ey1 => ?_)
  obtain rfl : y1 = nI hz := ey1.trans (ehz)
  refine lv_istore (lv' := [(7, .int (nI hz)), (0, .ref (ad 0 0)), (1, .int z0), (2, .ref (bd 4 0)), (3, .ref (bd 6 0)), (4, .ref (bd 5 0)), (5, .ref (bd 2 0)), (6, .ref (bd 0 0))]) hx hb dL_finds_5 hl (by decide) rfl (fun ls hl => ?_)
  refine lv_iload_n hx hb dL_finds_7 rfl (lv_at hl 2 rfl) ?_
  refine lv_iconst (v := 2) hx hb dL_finds_8 (by decide) ?_
  refine lv_ishr hx hb dL_finds_9 ?_
  refine lv_bipush (v := 10) hx hb dL_finds_10 (by decide) ?_
  refine g_csr (va_runS (As := [.int (z0 >>> (2 &&& 31)), .int 10]) (rest := []) ⟨hx, hb, hml, hown, hts⟩ (m_L_low l D cy bd ρ κ (z0 >>> (2 &&& 31)) 10 (by decide)) (va_cwS 2 hts gL_finds_L_low rfl rfl rfl (by decide +kernel) ⟨Nat.le_of_ble_eq_true rfl, Nat.le_of_ble_eq_true rfl⟩) (g_preS (B := (fun _ => True)) hK trivial) rfl rfl hl.1 rfl (lv_room (Nat.le_of_ble_eq_true rfl)) dL_finds_12 ⟨(Nat.le_of_ble_eq_true rfl), (Nat.le_of_ble_eq_true rfl)⟩) ?_
  obtain ⟨rz, hrz, erz⟩ := low_nI (v := (z0 >>> (2 &&& 31))) (m := 10) (by decide) (by decide)
  refine lv_topi (fun y2 ey2 => ?_)
  obtain rfl : y2 = nI rz := ey2.trans (erz)
  refine lv_istore (lv' := [(8, .int (nI rz)), (7, .int (nI hz)), (0, .ref (ad 0 0)), (1, .int z0), (2, .ref (bd 4 0)), (3, .ref (bd 6 0)), (4, .ref (bd 5 0)), (5, .ref (bd 2 0)), (6, .ref (bd 0 0))]) hx hb dL_finds_15 hl (by decide) rfl (fun ls hl => ?_)
  refine lv_aload_n hx hb dL_finds_17 rfl (lv_at hl 4 rfl) ?_
  refine lv_aload hx hb dL_finds_18 (lv_at hl 8 rfl) ?_
  refine g_csr (va_runS (As := [.ref (bd 4 0), .ref (bd 0 0)]) (rest := []) ⟨hx, hb, hml, hown, hts⟩ (m_L_address l D cy bd ρ κ (μ 1 0) h12 hLR.1.2.2.2.2.2.2.2) (va_cwS 2 hts gL_finds_L_address rfl rfl rfl (by decide +kernel) ⟨Nat.le_of_ble_eq_true rfl, Nat.le_of_ble_eq_true rfl⟩) (g_preS (B := (LW D cy bd ρ κ)) hK hB) rfl rfl hl.1 rfl (lv_room (Nat.le_of_ble_eq_true rfl)) dL_finds_20 ⟨(Nat.le_of_ble_eq_true rfl), (Nat.le_of_ble_eq_true rfl)⟩) ?_
  refine lv_lstore (lv' := [(9, .long (adQ (ρ 4) (μ 1 0))), (8, .int (nI rz)), (7, .int (nI hz)), (0, .ref (ad 0 0)), (1, .int z0), (2, .ref (bd 4 0)), (3, .ref (bd 6 0)), (4, .ref (bd 5 0)), (5, .ref (bd 2 0)), (6, .ref (bd 0 0))]) hx hb dL_finds_23 hl (by decide) rfl (fun ls hl => ?_)
  refine lv_iconst (v := (-1)) hx hb dL_finds_25 (by decide) ?_
  refine lv_topi (fun y3 ey3 => ?_)
  obtain rfl : y3 = numO (ldQ (gP μ) (κ 5) hz (adQ (ρ 4) (μ 1 0)) 0) := ey3.trans (rfl)
  refine lv_istore (lv' := [(11, .int (numO (ldQ (gP μ) (κ 5) hz (adQ (ρ 4) (μ 1 0)) 0))), (9, .long (adQ (ρ 4) (μ 1 0))), (8, .int (nI rz)), (7, .int (nI hz)), (0, .ref (ad 0 0)), (1, .int z0), (2, .ref (bd 4 0)), (3, .ref (bd 6 0)), (4, .ref (bd 5 0)), (5, .ref (bd 2 0)), (6, .ref (bd 0 0))]) hx hb dL_finds_26 hl (by decide) rfl (fun ls hl => ?_)
  refine lv_iconst (v := 0) hx hb dL_finds_28 (by decide) ?_
  refine lv_topi (fun y4 ey4 => ?_)
  obtain rfl : y4 = nI 0 := ey4.trans (nI_0.symm)
  refine lv_istore (lv' := [(12, .int (nI 0)), (11, .int (numO (ldQ (gP μ) (κ 5) hz (adQ (ρ 4) (μ 1 0)) 0))), (9, .long (adQ (ρ 4) (μ 1 0))), (8, .int (nI rz)), (7, .int (nI hz)), (0, .ref (ad 0 0)), (1, .int z0), (2, .ref (bd 4 0)), (3, .ref (bd 6 0)), (4, .ref (bd 5 0)), (5, .ref (bd 2 0)), (6, .ref (bd 0 0))]) hx hb dL_finds_29 hl (by decide) rfl (fun ls hl => ?_)
  have loop : ∀ (k : Nat) (i : Nat) (ls : Array Slot), i ≤ μ 0 0 → μ 0 0 < i + k → lv_has ls 13 [(0, .ref (ad 0 0)), (1, .int z0), (2, .ref (bd 4 0)), (3, .ref (bd 6 0)), (4, .ref (bd 5 0)), (5, .ref (bd 2 0)), (6, .ref (bd 0 0)), (7, .int (nI hz)), (8, .int (nI rz)), (9, .long (adQ (ρ 4) (μ 1 0))), (11, .int (numO (ldQ (gP μ) (κ 5) hz (adQ (ρ 4) (μ 1 0)) i))), (12, .int (nI i))] → W p l e (headSpec wsL_finds ({ frames := 9, cells := 6, slots := 86, locals := 215 } : Room)).room s m ([.ref (ad 0 0), .int z0, .ref (bd 4 0), .ref (bd 6 0), .ref (bd 5 0), .ref (bd 2 0), .ref (bd 0 0)] : List Value).toArray below meth c s.heap [] 0 0 (MQ below (uQ (some (.int 1)) (fun H => ∃ (ad2 : NT) (τ2 : IT) (ν2 : NT) (σ2 : IT) (μ2 : NT) (ρ2 : IT) (κ2 : LT), ad2 0 0 = ad 0 0 ∧ (∀ k i, i < cC (ν2 0 0) k → wA (cC (ν 0 0)) ad s.heap.size (ad2 k i)) ∧ J2 (ν2 0 0) ad2 bd ∧ Rel n τ2 ν2 σ2 μ2 ∧ LR ρ2 κ2 σ2 μ2 ∧ σ2 0 0 = σ 0 0 ∧ BW D cy ad2 bd τ2 ν2 ρ2 κ2 H) (wB (ν 0 0) ad bd s.heap.size)) ([.ref (ad 0 0), .int z0, .ref (bd 4 0), .ref (bd 6 0), .ref (bd 5 0), .ref (bd 2 0), .ref (bd 0 0)] : List Value).toArray s 6 86 (wB (ν 0 0) ad bd s.heap.size)) (F0 m 31 ls []) := by
    intro k
    induction k with
    | zero => intro i ls hi hik hl; exfalso; omega
    | succ k loop_ih =>
      intro i ls hi hik hl
      refine lv_iload hx hb dL_finds_31 (lv_at hl 11 rfl) ?_
      refine lv_aload hx hb dL_finds_33 (lv_at hl 6 rfl) ?_
      refine lv_bipush (v := 6) hx hb dL_finds_35 (by decide) ?_
      refine g_iald (f := ρ 0) (x := nI (μ 0 0)) hx hb hK (hB 0 0 Nat.zero_lt_one) (vp_in_nI (n := 6) (N := 8) (by decide) (by decide)) ((congrArg (ρ 0) (cl_nI (n := 6) (by decide))).trans hLR.1.2.2.2.2.2.2.1) dL_finds_37 ?_
      refine lv_icmp_ge (tgt := 80) hx hb dL_finds_38 (by decide) (fun c_38 => ?_) (fun c_38 => ?_)
      · -- 38 t
        have hie : i = μ 0 0 := by have := ge_of c_38 (by omega) (by omega); omega
        rw [hie] at hl
        cases hd : ldQ (gP μ) (κ 5) hz (adQ (ρ 4) (μ 1 0)) (μ 0 0) with
        | none =>
          rw [hd] at hl
          have hl : lv_has ls 13 [(0, .ref (ad 0 0)), (1, .int z0), (2, .ref (bd 4 0)), (3, .ref (bd 6 0)), (4, .ref (bd 5 0)), (5, .ref (bd 2 0)), (6, .ref (bd 0 0)), (7, .int (nI hz)), (8, .int (nI rz)), (9, .long (adQ (ρ 4) (μ 1 0))), (11, .int (-1)), (12, .int (nI (μ 0 0)))] := hl
          refine lv_iload hx hb dL_finds_80 (lv_at hl 10 rfl) ?_
          refine lv_if_ge (tgt := 97) hx hb dL_finds_82 (by decide) (fun c_82 => ?_) (fun c_82 => ?_)
          · exact absurd c_82 (by decide)
          · -- 82 f
            refine lv_aload hx hb dL_finds_85 (lv_at hl 6 rfl) ?_
            refine lv_bipush (v := 6) hx hb dL_finds_87 (by decide) ?_
            refine g_iald (f := ρ 0) (x := nI (μ 0 0)) hx hb hK (hB 0 0 Nat.zero_lt_one) (vp_in_nI (n := 6) (N := 8) (by decide) (by decide)) ((congrArg (ρ 0) (cl_nI (n := 6) (by decide))).trans hLR.1.2.2.2.2.2.2.1) dL_finds_89 ?_
            refine lv_bipush (v := 10) hx hb dL_finds_90 (by decide) ?_
            refine lv_icmp_ne (tgt := 97) hx hb dL_finds_92 (by decide) (fun c_92 => ?_) (fun c_92 => ?_)
            · -- 92 t
              have hm10 : μ 0 0 < 10 := by have : μ 0 0 ≠ 10 := fun z => c_92 (by rw [z]; rfl); omega
              refine lv_iload hx hb dL_finds_97 (lv_at hl 10 rfl) ?_
              refine lv_if_ge (tgt := 208) hx hb dL_finds_99 (by decide) (fun c_99 => ?_) (fun c_99 => ?_)
              · exact absurd c_99 (by decide)
              · -- 99 f
                refine lv_aload hx hb dL_finds_102 (lv_at hl 6 rfl) ?_
                refine lv_bipush (v := 6) hx hb dL_finds_104 (by decide) ?_
                refine g_iald (f := ρ 0) (x := nI (μ 0 0)) hx hb hK (hB 0 0 Nat.zero_lt_one) (vp_in_nI (n := 6) (N := 8) (by decide) (by decide)) ((congrArg (ρ 0) (cl_nI (n := 6) (by decide))).trans hLR.1.2.2.2.2.2.2.1) dL_finds_106 ?_
                refine lv_istore (lv' := [(11, .int (nI (μ 0 0))), (0, .ref (ad 0 0)), (1, .int z0), (2, .ref (bd 4 0)), (3, .ref (bd 6 0)), (4, .ref (bd 5 0)), (5, .ref (bd 2 0)), (6, .ref (bd 0 0)), (7, .int (nI hz)), (8, .int (nI rz)), (9, .long (adQ (ρ 4) (μ 1 0))), (12, .int (nI (μ 0 0)))]) hx hb dL_finds_107 hl (by decide) rfl (fun ls hl => ?_)
                refine lv_aload hx hb dL_finds_109 (lv_at hl 5 rfl) ?_
                refine lv_iload hx hb dL_finds_111 (lv_at hl 0 rfl) ?_
                refine lv_lload hx hb dL_finds_113 (lv_at hl 10 rfl) ?_
                refine g_last (f := κ 5) (A := (wB (ν 0 0) ad bd s.heap.size)) hx hb hK (hB 5 0 Nat.zero_lt_one) hS (Or.inr (wA.in (k := 5) (i := 0) Nat.zero_lt_one)) (vp_in_nI (n := μ 0 0) (N := 10) (by omega) (by decide)) dL_finds_115 (fun H1 locs1 hc1 hu1 hS1 => ?_)
                have hB1 : LW D cy bd ρ (up2 κ 5 (μ 0 0) (adQ (ρ 4) (μ 1 0))) H1 := hB.lst hJ.2.1 5 (q := (μ 0 0)) (by decide) (cl_nI (n := μ 0 0) (by omega)) hc1 hu1
                have hC1 : CW D cy ad τ ν H1 := hC.byR hJ (show 0 < cL 5 from Nat.zero_lt_one) hu1
                have hX1 := xKeep (A1 := wA cL bd s.heap.size) hX (hu1.in (wA.in (k := 5) (i := 0) Nat.zero_lt_one)) (fun q z => hA9 q (Or.inr z))
                refine lv_aload hx hb dL_finds_116 (lv_at hl 6 rfl) ?_
                refine lv_bipush (v := 6) hx hb dL_finds_118 (by decide) ?_
                refine lv_iload hx hb dL_finds_120 (lv_at hl 0 rfl) ?_
                refine lv_imul hx hb dL_finds_122 ?_
                refine lv_topi (fun y5 ey5 => ?_)
                obtain rfl : y5 = nI (6 * (μ 0 0)) := ey5.trans (pk_mul 6 (μ 0 0))
                refine lv_iload hx hb dL_finds_123 (lv_at hl 8 rfl) ?_
                refine g_iast (f := ρ 2) (A := (wB (ν 0 0) ad bd s.heap.size)) hx hb hK (hB1 2 0 Nat.zero_lt_one) hS1 (Or.inr (wA.in (k := 2) (i := 0) Nat.zero_lt_one)) (vp_in_nI (n := 6 * (μ 0 0)) (N := 60) (by omega) (by decide)) dL_finds_125 (fun H2 locs2 hc2 hu2 hS2 => ?_)
                have hB2 : LW D cy bd (up2 ρ 2 (6 * (μ 0 0)) (nI hz)) (up2 κ 5 (μ 0 0) (adQ (ρ 4) (μ 1 0))) H2 := hB1.ist hJ.2.1 2 (q := (6 * (μ 0 0))) (by decide) (cl_nI (n := 6 * (μ 0 0)) (by omega)) hc2 hu2
                have hC2 : CW D cy ad τ ν H2 := hC1.byR hJ (show 0 < cL 2 from Nat.zero_lt_one) hu2
                have hX2 := xKeep (A1 := wA cL bd s.heap.size) hX1 (hu2.in (wA.in (k := 2) (i := 0) Nat.zero_lt_one)) (fun q z => hA9 q (Or.inr z))
                refine lv_aload hx hb dL_finds_126 (lv_at hl 6 rfl) ?_
                refine lv_bipush (v := 6) hx hb dL_finds_128 (by decide) ?_
                refine lv_iload hx hb dL_finds_130 (lv_at hl 0 rfl) ?_
                refine lv_imul hx hb dL_finds_132 ?_
                refine lv_topi (fun y6 ey6 => ?_)
                obtain rfl : y6 = nI (6 * (μ 0 0)) := ey6.trans (pk_mul 6 (μ 0 0))
                refine lv_iconst (v := 1) hx hb dL_finds_133 (by decide) ?_
                refine lv_iadd hx hb dL_finds_134 ?_
                refine lv_topi (fun y7 ey7 => ?_)
                obtain rfl : y7 = nI ((6 * (μ 0 0)) + 1) := ey7.trans (nI_add (6 * (μ 0 0)) 1)
                refine lv_iload hx hb dL_finds_135 (lv_at hl 9 rfl) ?_
                refine g_iast (f := (up2 ρ 2 (6 * (μ 0 0)) (nI hz)) 2) (A := (wB (ν 0 0) ad bd s.heap.size)) hx hb hK (hB2 2 0 Nat.zero_lt_one) hS2 (Or.inr (wA.in (k := 2) (i := 0) Nat.zero_lt_one)) (vp_in_nI (n := (6 * (μ 0 0)) + 1) (N := 60) (by omega) (by decide)) dL_finds_137 (fun H3 locs3 hc3 hu3 hS3 => ?_)
                have hB3 : LW D cy bd (up2 (up2 ρ 2 (6 * (μ 0 0)) (nI hz)) 2 ((6 * (μ 0 0)) + 1) (nI rz)) (up2 κ 5 (μ 0 0) (adQ (ρ 4) (μ 1 0))) H3 := hB2.ist hJ.2.1 2 (q := ((6 * (μ 0 0)) + 1)) (by decide) (cl_nI (n := (6 * (μ 0 0)) + 1) (by omega)) hc3 hu3
                have hC3 : CW D cy ad τ ν H3 := hC2.byR hJ (show 0 < cL 2 from Nat.zero_lt_one) hu3
                have hX3 := xKeep (A1 := wA cL bd s.heap.size) hX2 (hu3.in (wA.in (k := 2) (i := 0) Nat.zero_lt_one)) (fun q z => hA9 q (Or.inr z))
                refine lv_aload hx hb dL_finds_138 (lv_at hl 6 rfl) ?_
                refine lv_bipush (v := 6) hx hb dL_finds_140 (by decide) ?_
                refine lv_iload hx hb dL_finds_142 (lv_at hl 0 rfl) ?_
                refine lv_imul hx hb dL_finds_144 ?_
                refine lv_topi (fun y8 ey8 => ?_)
                obtain rfl : y8 = nI (6 * (μ 0 0)) := ey8.trans (pk_mul 6 (μ 0 0))
                refine lv_iconst (v := 2) hx hb dL_finds_145 (by decide) ?_
                refine lv_iadd hx hb dL_finds_146 ?_
                refine lv_topi (fun y9 ey9 => ?_)
                obtain rfl : y9 = nI ((6 * (μ 0 0)) + 2) := ey9.trans (nI_add (6 * (μ 0 0)) 2)
                refine lv_aload hx hb dL_finds_147 (lv_at hl 7 rfl) ?_
                refine lv_iconst (v := 0) hx hb dL_finds_149 (by decide) ?_
                refine g_iald (f := (up2 (up2 ρ 2 (6 * (μ 0 0)) (nI hz)) 2 ((6 * (μ 0 0)) + 1) (nI rz)) 0) (x := ρ 0 0) hx hb hK (hB3 0 0 Nat.zero_lt_one) (vp_in_nI (n := 0) (N := 8) (by decide) (by decide)) ((congrArg ((up2 (up2 ρ 2 (6 * (μ 0 0)) (nI hz)) 2 ((6 * (μ 0 0)) + 1) (nI rz)) 0) (cl_nI (n := 0) (by decide))).trans (show _ = _ from rfl)) dL_finds_150 ?_
                refine g_iast (f := (up2 (up2 ρ 2 (6 * (μ 0 0)) (nI hz)) 2 ((6 * (μ 0 0)) + 1) (nI rz)) 2) (A := (wB (ν 0 0) ad bd s.heap.size)) hx hb hK (hB3 2 0 Nat.zero_lt_one) hS3 (Or.inr (wA.in (k := 2) (i := 0) Nat.zero_lt_one)) (vp_in_nI (n := (6 * (μ 0 0)) + 2) (N := 60) (by omega) (by decide)) dL_finds_151 (fun H4 locs4 hc4 hu4 hS4 => ?_)
                have hB4 : LW D cy bd (up2 (up2 (up2 ρ 2 (6 * (μ 0 0)) (nI hz)) 2 ((6 * (μ 0 0)) + 1) (nI rz)) 2 ((6 * (μ 0 0)) + 2) (ρ 0 0)) (up2 κ 5 (μ 0 0) (adQ (ρ 4) (μ 1 0))) H4 := hB3.ist hJ.2.1 2 (q := ((6 * (μ 0 0)) + 2)) (by decide) (cl_nI (n := (6 * (μ 0 0)) + 2) (by omega)) hc4 hu4
                have hC4 : CW D cy ad τ ν H4 := hC3.byR hJ (show 0 < cL 2 from Nat.zero_lt_one) hu4
                have hX4 := xKeep (A1 := wA cL bd s.heap.size) hX3 (hu4.in (wA.in (k := 2) (i := 0) Nat.zero_lt_one)) (fun q z => hA9 q (Or.inr z))
                refine lv_aload hx hb dL_finds_152 (lv_at hl 6 rfl) ?_
                refine lv_bipush (v := 6) hx hb dL_finds_154 (by decide) ?_
                refine lv_iload hx hb dL_finds_156 (lv_at hl 0 rfl) ?_
                refine lv_imul hx hb dL_finds_158 ?_
                refine lv_topi (fun y10 ey10 => ?_)
                obtain rfl : y10 = nI (6 * (μ 0 0)) := ey10.trans (pk_mul 6 (μ 0 0))
                refine lv_iconst (v := 3) hx hb dL_finds_159 (by decide) ?_
                refine lv_iadd hx hb dL_finds_160 ?_
                refine lv_topi (fun y11 ey11 => ?_)
                obtain rfl : y11 = nI ((6 * (μ 0 0)) + 3) := ey11.trans (nI_add (6 * (μ 0 0)) 3)
                refine lv_iconst (v := 0) hx hb dL_finds_161 (by decide) ?_
                refine g_iast (f := (up2 (up2 (up2 ρ 2 (6 * (μ 0 0)) (nI hz)) 2 ((6 * (μ 0 0)) + 1) (nI rz)) 2 ((6 * (μ 0 0)) + 2) (ρ 0 0)) 2) (A := (wB (ν 0 0) ad bd s.heap.size)) hx hb hK (hB4 2 0 Nat.zero_lt_one) hS4 (Or.inr (wA.in (k := 2) (i := 0) Nat.zero_lt_one)) (vp_in_nI (n := (6 * (μ 0 0)) + 3) (N := 60) (by omega) (by decide)) dL_finds_162 (fun H5 locs5 hc5 hu5 hS5 => ?_)
                have hB5 : LW D cy bd (up2 (up2 (up2 (up2 ρ 2 (6 * (μ 0 0)) (nI hz)) 2 ((6 * (μ 0 0)) + 1) (nI rz)) 2 ((6 * (μ 0 0)) + 2) (ρ 0 0)) 2 ((6 * (μ 0 0)) + 3) 0) (up2 κ 5 (μ 0 0) (adQ (ρ 4) (μ 1 0))) H5 := hB4.ist hJ.2.1 2 (q := ((6 * (μ 0 0)) + 3)) (by decide) (cl_nI (n := (6 * (μ 0 0)) + 3) (by omega)) hc5 hu5
                have hC5 : CW D cy ad τ ν H5 := hC4.byR hJ (show 0 < cL 2 from Nat.zero_lt_one) hu5
                have hX5 := xKeep (A1 := wA cL bd s.heap.size) hX4 (hu5.in (wA.in (k := 2) (i := 0) Nat.zero_lt_one)) (fun q z => hA9 q (Or.inr z))
                refine lv_aload hx hb dL_finds_163 (lv_at hl 6 rfl) ?_
                refine lv_bipush (v := 6) hx hb dL_finds_165 (by decide) ?_
                refine lv_iload hx hb dL_finds_167 (lv_at hl 0 rfl) ?_
                refine lv_imul hx hb dL_finds_169 ?_
                refine lv_topi (fun y12 ey12 => ?_)
                obtain rfl : y12 = nI (6 * (μ 0 0)) := ey12.trans (pk_mul 6 (μ 0 0))
                refine lv_iconst (v := 4) hx hb dL_finds_170 (by decide) ?_
                refine lv_iadd hx hb dL_finds_171 ?_
                refine lv_topi (fun y13 ey13 => ?_)
                obtain rfl : y13 = nI ((6 * (μ 0 0)) + 4) := ey13.trans (nI_add (6 * (μ 0 0)) 4)
                refine lv_iconst (v := 0) hx hb dL_finds_172 (by decide) ?_
                refine g_iast (f := (up2 (up2 (up2 (up2 ρ 2 (6 * (μ 0 0)) (nI hz)) 2 ((6 * (μ 0 0)) + 1) (nI rz)) 2 ((6 * (μ 0 0)) + 2) (ρ 0 0)) 2 ((6 * (μ 0 0)) + 3) 0) 2) (A := (wB (ν 0 0) ad bd s.heap.size)) hx hb hK (hB5 2 0 Nat.zero_lt_one) hS5 (Or.inr (wA.in (k := 2) (i := 0) Nat.zero_lt_one)) (vp_in_nI (n := (6 * (μ 0 0)) + 4) (N := 60) (by omega) (by decide)) dL_finds_173 (fun H6 locs6 hc6 hu6 hS6 => ?_)
                have hB6 : LW D cy bd (fpQ ρ (μ 0 0) hz rz) (up2 κ 5 (μ 0 0) (adQ (ρ 4) (μ 1 0))) H6 := hB5.ist hJ.2.1 2 (q := ((6 * (μ 0 0)) + 4)) (by decide) (cl_nI (n := (6 * (μ 0 0)) + 4) (by omega)) hc6 hu6
                have hC6 : CW D cy ad τ ν H6 := hC5.byR hJ (show 0 < cL 2 from Nat.zero_lt_one) hu6
                have hX6 := xKeep (A1 := wA cL bd s.heap.size) hX5 (hu6.in (wA.in (k := 2) (i := 0) Nat.zero_lt_one)) (fun q z => hA9 q (Or.inr z))
                refine lv_aload hx hb dL_finds_174 (lv_at hl 6 rfl) ?_
                refine lv_bipush (v := 6) hx hb dL_finds_176 (by decide) ?_
                refine lv_iload hx hb dL_finds_178 (lv_at hl 0 rfl) ?_
                refine lv_imul hx hb dL_finds_180 ?_
                refine lv_topi (fun y14 ey14 => ?_)
                obtain rfl : y14 = nI (6 * (μ 0 0)) := ey14.trans (pk_mul 6 (μ 0 0))
                refine lv_iconst (v := 5) hx hb dL_finds_181 (by decide) ?_
                refine lv_iadd hx hb dL_finds_182 ?_
                refine lv_topi (fun y15 ey15 => ?_)
                obtain rfl : y15 = nI ((6 * (μ 0 0)) + 5) := ey15.trans (nI_add (6 * (μ 0 0)) 5)
                refine lv_aload_n hx hb dL_finds_183 rfl (lv_at hl 3 rfl) ?_
                refine lv_aload_n hx hb dL_finds_184 rfl (lv_at hl 4 rfl) ?_
                refine lv_aload hx hb dL_finds_185 (lv_at hl 7 rfl) ?_
                have hm16 := m_L_isTrap l D cy H6.size bd (fpQ ρ (μ 0 0) hz rz) (up2 κ 5 (μ 0 0) (adQ (ρ 4) (μ 1 0))) hJ.2.1 (μ 1 0) h12 (by rw [fpQ_K (by decide)]; exact hLR.1.2.2.2.2.2.2.2)
                rw [fpQ_K (K := 4) (by decide)] at hm16
                refine g_cu1 (va_runS (As := [.ref (bd 4 0), .ref (bd 6 0), .ref (bd 0 0)]) (rest := [.int (nI ((6 * (μ 0 0)) + 5)), .ref (bd 2 0)]) ⟨hx, hb, hml, hown, hts⟩ hm16 (va_cwS 3 hts gL_finds_L_isTrap rfl rfl rfl (by decide +kernel) ⟨Nat.le_of_ble_eq_true rfl, Nat.le_of_ble_eq_true rfl⟩) (g_preS (B := atSz H6.size (LW D cy bd (fpQ ρ (μ 0 0) hz rz) (up2 κ 5 (μ 0 0) (adQ (ρ 4) (μ 1 0))))) hK ⟨rfl, hB6⟩) rfl rfl hl.1 rfl (lv_room (Nat.le_of_ble_eq_true rfl)) dL_finds_187 ⟨(Nat.le_of_ble_eq_true rfl), (Nat.le_of_ble_eq_true rfl)⟩) hS6 (fun q _ h => Or.inr (wA.mono hS6.1 h)) (fun q h => Or.inr (wA.mono hS6.1 h)) (fun H7 locs7 hB7 hz7 hk7 hS7 => ?_)
                have hC7 : CW D cy ad τ ν H7 := hC6.byL hJ hk7
                have hX7 := xKeep hX6 hk7 (fun q z => hA9 q (Or.inr (wA.mono hS6.1 z)))
                have k_198 : ∀ z17 : Int32, z17 = (if trQ ((sgL (ρ 4) (μ 1 0) (up2 κ 5 (μ 0 0) (adQ (ρ 4) (μ 1 0))) (μ 1 0 + 1)).2.2 6) (sgL (ρ 4) (μ 1 0) (up2 κ 5 (μ 0 0) (adQ (ρ 4) (μ 1 0))) (μ 1 0 + 1)).1 (sgL (ρ 4) (μ 1 0) (up2 κ 5 (μ 0 0) (adQ (ρ 4) (μ 1 0))) (μ 1 0 + 1)).1 = true then 2 else 0) → W p l e (headSpec wsL_finds ({ frames := 9, cells := 6, slots := 86, locals := 215 } : Room)).room s m ([.ref (ad 0 0), .int z0, .ref (bd 4 0), .ref (bd 6 0), .ref (bd 5 0), .ref (bd 2 0), .ref (bd 0 0)] : List Value).toArray below meth c H7 locs7 0 0 (MQ below (uQ (some (.int 1)) (fun H => ∃ (ad2 : NT) (τ2 : IT) (ν2 : NT) (σ2 : IT) (μ2 : NT) (ρ2 : IT) (κ2 : LT), ad2 0 0 = ad 0 0 ∧ (∀ k i, i < cC (ν2 0 0) k → wA (cC (ν 0 0)) ad s.heap.size (ad2 k i)) ∧ J2 (ν2 0 0) ad2 bd ∧ Rel n τ2 ν2 σ2 μ2 ∧ LR ρ2 κ2 σ2 μ2 ∧ σ2 0 0 = σ 0 0 ∧ BW D cy ad2 bd τ2 ν2 ρ2 κ2 H) (wB (ν 0 0) ad bd s.heap.size)) ([.ref (ad 0 0), .int z0, .ref (bd 4 0), .ref (bd 6 0), .ref (bd 5 0), .ref (bd 2 0), .ref (bd 0 0)] : List Value).toArray s 6 86 (wB (ν 0 0) ad bd s.heap.size)) (F0 m 198 ls [.int z17, .int (nI ((6 * (μ 0 0)) + 5)), .ref (bd 2 0)]) := by
                  intro z17 ez17
                  subst ez17
                  refine g_iast (f := (fpQ ρ (μ 0 0) hz rz) 2) (A := (wB (ν 0 0) ad bd s.heap.size)) hx hb hK (hB7 2 0 Nat.zero_lt_one) hS7 (Or.inr (wA.in (k := 2) (i := 0) Nat.zero_lt_one)) (vp_in_nI (n := (6 * (μ 0 0)) + 5) (N := 60) (by omega) (by decide)) dL_finds_198 (fun H8 locs8 hc8 hu8 hS8 => ?_)
                  have hB8 : LW D cy bd (fqQ ρ (μ 0 0) hz rz (if trQ ((sgL (ρ 4) (μ 1 0) (up2 κ 5 (μ 0 0) (adQ (ρ 4) (μ 1 0))) (μ 1 0 + 1)).2.2 6) (sgL (ρ 4) (μ 1 0) (up2 κ 5 (μ 0 0) (adQ (ρ 4) (μ 1 0))) (μ 1 0 + 1)).1 (sgL (ρ 4) (μ 1 0) (up2 κ 5 (μ 0 0) (adQ (ρ 4) (μ 1 0))) (μ 1 0 + 1)).1 = true then 2 else 0)) (sgL (ρ 4) (μ 1 0) (up2 κ 5 (μ 0 0) (adQ (ρ 4) (μ 1 0))) (μ 1 0 + 1)).2.2 H8 := hB7.ist hJ.2.1 2 (q := ((6 * (μ 0 0)) + 5)) (by decide) (cl_nI (n := (6 * (μ 0 0)) + 5) (by omega)) hc8 hu8
                  have hC8 : CW D cy ad τ ν H8 := hC7.byR hJ (show 0 < cL 2 from Nat.zero_lt_one) hu8
                  have hX8 := xKeep (A1 := wA cL bd s.heap.size) hX7 (hu8.in (wA.in (k := 2) (i := 0) Nat.zero_lt_one)) (fun q z => hA9 q (Or.inr z))
                  refine lv_aload hx hb dL_finds_199 (lv_at hl 7 rfl) ?_
                  refine lv_bipush (v := 6) hx hb dL_finds_201 (by decide) ?_
                  refine lv_dup2_11 hx hb dL_finds_203 rfl rfl ?_
                  refine g_iald (f := (fqQ ρ (μ 0 0) hz rz (if trQ ((sgL (ρ 4) (μ 1 0) (up2 κ 5 (μ 0 0) (adQ (ρ 4) (μ 1 0))) (μ 1 0 + 1)).2.2 6) (sgL (ρ 4) (μ 1 0) (up2 κ 5 (μ 0 0) (adQ (ρ 4) (μ 1 0))) (μ 1 0 + 1)).1 (sgL (ρ 4) (μ 1 0) (up2 κ 5 (μ 0 0) (adQ (ρ 4) (μ 1 0))) (μ 1 0 + 1)).1 = true then 2 else 0)) 0) (x := nI (μ 0 0)) hx hb hK (hB8 0 0 Nat.zero_lt_one) (vp_in_nI (n := 6) (N := 8) (by decide) (by decide)) ((congrArg ((fqQ ρ (μ 0 0) hz rz (if trQ ((sgL (ρ 4) (μ 1 0) (up2 κ 5 (μ 0 0) (adQ (ρ 4) (μ 1 0))) (μ 1 0 + 1)).2.2 6) (sgL (ρ 4) (μ 1 0) (up2 κ 5 (μ 0 0) (adQ (ρ 4) (μ 1 0))) (μ 1 0 + 1)).1 (sgL (ρ 4) (μ 1 0) (up2 κ 5 (μ 0 0) (adQ (ρ 4) (μ 1 0))) (μ 1 0 + 1)).1 = true then 2 else 0)) 0) (cl_nI (n := 6) (by decide))).trans (show (fqQ ρ (μ 0 0) hz rz (if trQ ((sgL (ρ 4) (μ 1 0) (up2 κ 5 (μ 0 0) (adQ (ρ 4) (μ 1 0))) (μ 1 0 + 1)).2.2 6) (sgL (ρ 4) (μ 1 0) (up2 κ 5 (μ 0 0) (adQ (ρ 4) (μ 1 0))) (μ 1 0 + 1)).1 (sgL (ρ 4) (μ 1 0) (up2 κ 5 (μ 0 0) (adQ (ρ 4) (μ 1 0))) (μ 1 0 + 1)).1 = true then 2 else 0)) 0 6 = nI (μ 0 0) from by rw [fqQ_K (by decide)]; exact hLR.1.2.2.2.2.2.2.1)) dL_finds_204 ?_
                  refine lv_iconst (v := 1) hx hb dL_finds_205 (by decide) ?_
                  refine lv_iadd hx hb dL_finds_206 ?_
                  refine lv_topi (fun y18 ey18 => ?_)
                  obtain rfl : y18 = nI ((μ 0 0) + 1) := ey18.trans (nI_add (μ 0 0) 1)
                  refine g_iast (f := (fqQ ρ (μ 0 0) hz rz (if trQ ((sgL (ρ 4) (μ 1 0) (up2 κ 5 (μ 0 0) (adQ (ρ 4) (μ 1 0))) (μ 1 0 + 1)).2.2 6) (sgL (ρ 4) (μ 1 0) (up2 κ 5 (μ 0 0) (adQ (ρ 4) (μ 1 0))) (μ 1 0 + 1)).1 (sgL (ρ 4) (μ 1 0) (up2 κ 5 (μ 0 0) (adQ (ρ 4) (μ 1 0))) (μ 1 0 + 1)).1 = true then 2 else 0)) 0) (A := (wB (ν 0 0) ad bd s.heap.size)) hx hb hK (hB8 0 0 Nat.zero_lt_one) hS8 (Or.inr (wA.in (k := 0) (i := 0) Nat.zero_lt_one)) (vp_in_nI (n := 6) (N := 8) (by decide) (by decide)) dL_finds_207 (fun H9 locs9 hc9 hu9 hS9 => ?_)
                  have hB9 : LW D cy bd (frQ ρ (μ 0 0) hz rz (if trQ ((sgL (ρ 4) (μ 1 0) (up2 κ 5 (μ 0 0) (adQ (ρ 4) (μ 1 0))) (μ 1 0 + 1)).2.2 6) (sgL (ρ 4) (μ 1 0) (up2 κ 5 (μ 0 0) (adQ (ρ 4) (μ 1 0))) (μ 1 0 + 1)).1 (sgL (ρ 4) (μ 1 0) (up2 κ 5 (μ 0 0) (adQ (ρ 4) (μ 1 0))) (μ 1 0 + 1)).1 = true then 2 else 0)) (sgL (ρ 4) (μ 1 0) (up2 κ 5 (μ 0 0) (adQ (ρ 4) (μ 1 0))) (μ 1 0 + 1)).2.2 H9 := hB8.ist hJ.2.1 0 (q := 6) (by decide) (cl_nI (n := 6) (by decide)) hc9 hu9
                  have hC9 : CW D cy ad τ ν H9 := hC8.byR hJ (show 0 < cL 0 from Nat.zero_lt_one) hu9
                  have hX9 := xKeep (A1 := wA cL bd s.heap.size) hX8 (hu9.in (wA.in (k := 0) (i := 0) Nat.zero_lt_one)) (fun q z => hA9 q (Or.inr z))
                  refine lv_aload_n hx hb dL_finds_208 rfl (lv_at hl 1 rfl) ?_
                  refine lv_iconst (v := 2) hx hb dL_finds_209 (by decide) ?_
                  refine lv_iload hx hb dL_finds_210 (lv_at hl 8 rfl) ?_
                  refine lv_imul hx hb dL_finds_212 ?_
                  refine lv_topi (fun y19 ey19 => ?_)
                  obtain rfl : y19 = nI (2 * hz) := ey19.trans (pk_mul 2 hz)
                  refine lv_iload hx hb dL_finds_213 (lv_at hl 9 rfl) ?_
                  have hm20 := m_X3_find l hl9 D cy A9 H9.size ad τ ν hJ.1 hR.CI hR.fits (nI (2 * hz)) (nI rz)
                  rw [cl_nI (n := 2 * hz) (by omega), hLR.fnd hR, hd] at hm20
                  refine x_wr1 (vx_runV (As := [.int (nI (2 * hz)), .int (nI rz)]) (rest := []) ⟨hx, hb, hml, hown, hts⟩ hm20 (cwV 2 hts gL_finds_X3_find rfl rfl rfl (by decide +kernel) ⟨Nat.le_of_ble_eq_true rfl, Nat.le_of_ble_eq_true rfl⟩) (xc_preV (C := RX3) (B := atSz H9.size (CW D cy ad τ ν)) hK hX9 hcK ⟨rfl, hC9⟩ (hC9 0 0 Nat.zero_lt_one) rfl) rfl rfl hl.1 rfl (lv_room (Nat.le_of_ble_eq_true rfl)) dL_finds_215 ⟨(Nat.le_of_ble_eq_true rfl), (Nat.le_of_ble_eq_true rfl)⟩) (fun E z => z.elim (fun z => by rw [idx_host' (show 2 * hz < 6 by omega)] at z; cases z.1) (fun z => z.elim (fun z => by rw [in_9 (show rz ≤ 9 by omega)] at z; cases z.2.1) (fun z => by have := z.2.2.2.1; omega))) hS9 (fun q _ h => Or.inl (wA.mono hS9.1 h)) (fun q h => Or.inl (wA.mono hS9.1 h)) (fun H10 locs10 hC10 hz10 hk10 hS10 => ?_)
                  have hB10 : LW D cy bd (frQ ρ (μ 0 0) hz rz (if trQ ((sgL (ρ 4) (μ 1 0) (up2 κ 5 (μ 0 0) (adQ (ρ 4) (μ 1 0))) (μ 1 0 + 1)).2.2 6) (sgL (ρ 4) (μ 1 0) (up2 κ 5 (μ 0 0) (adQ (ρ 4) (μ 1 0))) (μ 1 0 + 1)).1 (sgL (ρ 4) (μ 1 0) (up2 κ 5 (μ 0 0) (adQ (ρ 4) (μ 1 0))) (μ 1 0 + 1)).1 = true then 2 else 0)) (sgL (ρ 4) (μ 1 0) (up2 κ 5 (μ 0 0) (adQ (ρ 4) (μ 1 0))) (μ 1 0 + 1)).2.2 H10 := hB9.byC hJ hk10
                  refine lv_iload hx hb dL_finds_218 (lv_at hl 0 rfl) ?_
                  refine lv_icmp_ne (tgt := 227) hx hb dL_finds_220 (by decide) (fun c_220 => ?_) (fun c_220 => ?_)
                  · -- 220 t
                    exact absurd (show fdAns ν none = nI (μ 0 0) from congrArg nI hn0) c_220
                  · -- 220 f
                    refine lv_iconst (v := 1) hx hb dL_finds_223 (by decide) ?_
                    refine lv_goto (tgt := 228) hx hb dL_finds_224 (by decide) ?_
                    obtain ⟨pp, bb, cc2, tt, w1, w2, w3, w4, w5, hCn⟩ := hC10
                    have e0 : fdNC ν (2 * hz) 0 0 = ν 0 0 + 1 := by simp [fdNC]
                    obtain ⟨hJn, hown9⟩ := hJ.grow (fun k i hi => wP.lt hC9 hi) (fun k hk => wP.lt hB9 hk) w1 w2 w3 w4 w5
                    have hRn := find_rel (r := nI rz) hR (idx_host' (show 2 * hz < 6 by omega)) (by omega)
                    rw [cl_nI (n := 2 * hz) (by omega)] at hRn
                    have hLRn := hLR.new hR (hz := hz) (rz := rz) (v := (if trQ ((sgL (ρ 4) (μ 1 0) (up2 κ 5 (μ 0 0) (adQ (ρ 4) (μ 1 0))) (μ 1 0 + 1)).2.2 6) (sgL (ρ 4) (μ 1 0) (up2 κ 5 (μ 0 0) (adQ (ρ 4) (μ 1 0))) (μ 1 0 + 1)).1 (sgL (ρ 4) (μ 1 0) (up2 κ 5 (μ 0 0) (adQ (ρ 4) (μ 1 0))) (μ 1 0 + 1)).1 = true then 2 else 0)) (κ1 := (sgL (ρ 4) (μ 1 0) (up2 κ 5 (μ 0 0) (adQ (ρ 4) (μ 1 0))) (μ 1 0 + 1)).2.2) (by omega) (by omega) hm10 (tv_0 (hLR.trap hR)) (ldQ_n _ hd) (hLR.rowK 5 (by decide))
                    exact g_zretU hx hb hr hlocks (by rfl) hS10 ⟨fdAd ad (ν 0 0) pp bb cc2 tt, fdTC τ ν (nI rz), fdNC ν (2 * hz), _, _, (frQ ρ (μ 0 0) hz rz (if trQ ((sgL (ρ 4) (μ 1 0) (up2 κ 5 (μ 0 0) (adQ (ρ 4) (μ 1 0))) (μ 1 0 + 1)).2.2 6) (sgL (ρ 4) (μ 1 0) (up2 κ 5 (μ 0 0) (adQ (ρ 4) (μ 1 0))) (μ 1 0 + 1)).1 (sgL (ρ 4) (μ 1 0) (up2 κ 5 (μ 0 0) (adQ (ρ 4) (μ 1 0))) (μ 1 0 + 1)).1 = true then 2 else 0)), (sgL (ρ 4) (μ 1 0) (up2 κ 5 (μ 0 0) (adQ (ρ 4) (μ 1 0))) (μ 1 0 + 1)).2.2, fdAd_old (by omega), fun k i hi => (hown9 k i (by rw [← e0]; exact hi)).elim (fun z => by rw [z.2]; exact wA.in z.1) (fun z => Or.inr (Nat.le_trans hS9.1 z)), by rw [e0]; exact hJn, hRn, hLRn, fdS_k (by decide) (by decide) (by omega), hCn, hB10⟩ (by first | exact Nat.le_of_ble_eq_true rfl | omega) (by first | exact Nat.le_of_ble_eq_true rfl | omega) dL_finds_228 rfl
                refine lv_if_eq (tgt := 197) hx hb dL_finds_190 (by decide) (fun c_190 => ?_) (fun c_190 => ?_)
                · -- 190 t
                  refine lv_iconst (v := 0) hx hb dL_finds_197 (by decide) ?_
                  exact k_198 _ (by rw [if_neg (by rw [zb_0.mp c_190]; decide)])
                · -- 190 f
                  refine lv_iconst (v := 2) hx hb dL_finds_193 (by decide) ?_
                  refine lv_goto (tgt := 198) hx hb dL_finds_194 (by decide) ?_
                  exact k_198 _ (by rw [if_pos (zb_n0.mp c_190)])
            · -- 92 f
              refine lv_iconst (v := 1) hx hb dL_finds_95 (by decide) ?_
              exact g_zretU hx hb hr hlocks (by rfl) hS ⟨ad, τ, ν, σ, μ, ρ, κ, rfl, fun k i hi => wA.in hi, hJ, hR, hLR, rfl, hC, hB⟩ (by first | exact Nat.le_of_ble_eq_true rfl | omega) (by first | exact Nat.le_of_ble_eq_true rfl | omega) dL_finds_96 rfl
        | some d0 =>
          rw [hd] at hl
          have hl : lv_has ls 13 [(0, .ref (ad 0 0)), (1, .int z0), (2, .ref (bd 4 0)), (3, .ref (bd 6 0)), (4, .ref (bd 5 0)), (5, .ref (bd 2 0)), (6, .ref (bd 0 0)), (7, .int (nI hz)), (8, .int (nI rz)), (9, .long (adQ (ρ 4) (μ 1 0))), (11, .int (nI d0)), (12, .int (nI (μ 0 0)))] := hl
          have hd0 := (ldQ_s _ _ hd).1
          refine lv_iload hx hb dL_finds_80 (lv_at hl 10 rfl) ?_
          refine lv_if_ge (tgt := 97) hx hb dL_finds_82 (by decide) (fun c_82 => ?_) (fun c_82 => ?_)
          · -- 82 t
            refine lv_iload hx hb dL_finds_97 (lv_at hl 10 rfl) ?_
            refine lv_if_ge (tgt := 208) hx hb dL_finds_99 (by decide) (fun c_99 => ?_) (fun c_99 => ?_)
            · -- 99 t
              refine lv_aload_n hx hb dL_finds_208 rfl (lv_at hl 0 rfl) ?_
              refine lv_iconst (v := 2) hx hb dL_finds_209 (by decide) ?_
              refine lv_iload hx hb dL_finds_210 (lv_at hl 7 rfl) ?_
              refine lv_imul hx hb dL_finds_212 ?_
              refine lv_topi (fun y21 ey21 => ?_)
              obtain rfl : y21 = nI (2 * hz) := ey21.trans (pk_mul 2 hz)
              refine lv_iload hx hb dL_finds_213 (lv_at hl 8 rfl) ?_
              have hm22 := m_X3_find l hl9 D cy A9 s.heap.size ad τ ν hJ.1 hR.CI hR.fits (nI (2 * hz)) (nI rz)
              rw [cl_nI (n := 2 * hz) (by omega), hLR.fnd hR, hd] at hm22
              refine x_wr1 (vx_runV (As := [.int (nI (2 * hz)), .int (nI rz)]) (rest := []) ⟨hx, hb, hml, hown, hts⟩ hm22 (cwV 2 hts gL_finds_X3_find rfl rfl rfl (by decide +kernel) ⟨Nat.le_of_ble_eq_true rfl, Nat.le_of_ble_eq_true rfl⟩) (xc_preV (C := RX3) (B := atSz s.heap.size (CW D cy ad τ ν)) hK hX hcK ⟨rfl, hC⟩ (hC 0 0 Nat.zero_lt_one) rfl) rfl rfl hl.1 rfl (lv_room (Nat.le_of_ble_eq_true rfl)) dL_finds_215 ⟨(Nat.le_of_ble_eq_true rfl), (Nat.le_of_ble_eq_true rfl)⟩) (fun E z => z.elim (fun z => by rw [idx_host' (show 2 * hz < 6 by omega)] at z; cases z.1) (fun z => z.elim (fun z => by rw [in_9 (show rz ≤ 9 by omega)] at z; cases z.2.1) (fun z => by have := z.2.2.2.1; omega))) hS (fun q _ h => Or.inl (wA.mono hS.1 h)) (fun q h => Or.inl (wA.mono hS.1 h)) (fun H11 locs11 hC11 hz11 hk11 hS11 => ?_)
              have hB11 : LW D cy bd ρ κ H11 := hB.byC hJ hk11
              refine lv_iload hx hb dL_finds_218 (lv_at hl 10 rfl) ?_
              refine lv_icmp_ne (tgt := 227) hx hb dL_finds_220 (by decide) (fun c_220 => ?_) (fun c_220 => ?_)
              · -- 220 t
                exact absurd (show fdAns ν (some d0) = nI d0 from rfl) c_220
              · -- 220 f
                refine lv_iconst (v := 1) hx hb dL_finds_223 (by decide) ?_
                refine lv_goto (tgt := 228) hx hb dL_finds_224 (by decide) ?_
                exact g_zretU hx hb hr hlocks (by rfl) hS11 ⟨ad, τ, ν, σ, μ, ρ, κ, rfl, fun k i hi => wA.in hi, hJ, hR, hLR, rfl, hC11, hB11⟩ (by first | exact Nat.le_of_ble_eq_true rfl | omega) (by first | exact Nat.le_of_ble_eq_true rfl | omega) dL_finds_228 rfl
            · -- 99 f
              exact absurd (nI_pos' (by omega)) c_99
          · -- 82 f
            exact absurd (nI_pos' (by omega)) c_82
      · -- 38 f
        have hi2 : i < μ 0 0 := lt_of c_38 (by omega) (by omega)
        have hg3 := (hLR.hG i hi2).2
        have k_72 : ∀ z23 : Int32, z23 = numO (ldQ (gP μ) (κ 5) hz (adQ (ρ 4) (μ 1 0)) (i + 1)) → W p l e (headSpec wsL_finds ({ frames := 9, cells := 6, slots := 86, locals := 215 } : Room)).room s m ([.ref (ad 0 0), .int z0, .ref (bd 4 0), .ref (bd 6 0), .ref (bd 5 0), .ref (bd 2 0), .ref (bd 0 0)] : List Value).toArray below meth c s.heap [] 0 0 (MQ below (uQ (some (.int 1)) (fun H => ∃ (ad2 : NT) (τ2 : IT) (ν2 : NT) (σ2 : IT) (μ2 : NT) (ρ2 : IT) (κ2 : LT), ad2 0 0 = ad 0 0 ∧ (∀ k i, i < cC (ν2 0 0) k → wA (cC (ν 0 0)) ad s.heap.size (ad2 k i)) ∧ J2 (ν2 0 0) ad2 bd ∧ Rel n τ2 ν2 σ2 μ2 ∧ LR ρ2 κ2 σ2 μ2 ∧ σ2 0 0 = σ 0 0 ∧ BW D cy ad2 bd τ2 ν2 ρ2 κ2 H) (wB (ν 0 0) ad bd s.heap.size)) ([.ref (ad 0 0), .int z0, .ref (bd 4 0), .ref (bd 6 0), .ref (bd 5 0), .ref (bd 2 0), .ref (bd 0 0)] : List Value).toArray s 6 86 (wB (ν 0 0) ad bd s.heap.size)) (F0 m 72 ls [.int z23]) := by
          intro z23 ez23
          subst ez23
          refine lv_istore (lv' := [(11, .int (numO (ldQ (gP μ) (κ 5) hz (adQ (ρ 4) (μ 1 0)) (i + 1)))), (0, .ref (ad 0 0)), (1, .int z0), (2, .ref (bd 4 0)), (3, .ref (bd 6 0)), (4, .ref (bd 5 0)), (5, .ref (bd 2 0)), (6, .ref (bd 0 0)), (7, .int (nI hz)), (8, .int (nI rz)), (9, .long (adQ (ρ 4) (μ 1 0))), (12, .int (nI i))]) hx hb dL_finds_72 hl (by decide) rfl (fun ls hl => ?_)
          refine lv_iinc (v := nI (i + 1)) (lv' := [(12, .int (nI (i + 1))), (11, .int (numO (ldQ (gP μ) (κ 5) hz (adQ (ρ 4) (μ 1 0)) (i + 1)))), (0, .ref (ad 0 0)), (1, .int z0), (2, .ref (bd 4 0)), (3, .ref (bd 6 0)), (4, .ref (bd 5 0)), (5, .ref (bd 2 0)), (6, .ref (bd 0 0)), (7, .int (nI hz)), (8, .int (nI rz)), (9, .long (adQ (ρ 4) (μ 1 0)))]) hx hb dL_finds_74 hl (k := 11) rfl (nI_1 _) (by decide) rfl (fun ls hl => ?_)
          refine lv_goto (tgt := 31) hx hb dL_finds_77 (by decide) ?_
          exact loop_ih (i + 1) ls (by omega) (by omega) (lv_sub hl [2, 3, 4, 5, 6, 7, 8, 9, 10, 11, 1, 0] rfl)
        refine lv_aload hx hb dL_finds_41 (lv_at hl 5 rfl) ?_
        refine lv_bipush (v := 6) hx hb dL_finds_43 (by decide) ?_
        refine lv_iload hx hb dL_finds_45 (lv_at hl 11 rfl) ?_
        refine lv_imul hx hb dL_finds_47 ?_
        refine lv_topi (fun y24 ey24 => ?_)
        obtain rfl : y24 = nI (6 * i) := ey24.trans (pk_mul 6 i)
        refine g_iald (f := ρ 2) (x := nI (gP μ i)) hx hb hK (hB 2 0 Nat.zero_lt_one) (vp_in_nI (n := 6 * i) (N := 60) (by omega) (by decide)) ((congrArg (ρ 2) (cl_nI (n := 6 * i) (by omega))).trans (hLR.hG i hi2).1) dL_finds_48 ?_
        refine lv_iload hx hb dL_finds_49 (lv_at hl 7 rfl) ?_
        refine lv_icmp_ne (tgt := 70) hx hb dL_finds_51 (by decide) (fun c_51 => ?_) (fun c_51 => ?_)
        · -- 51 t
          refine lv_iload hx hb dL_finds_70 (lv_at hl 10 rfl) ?_
          exact k_72 _ (by rw [ldQ, if_neg (fun z => c_51 (congrArg nI z.1))])
        · -- 51 f
          refine lv_aload hx hb dL_finds_54 (lv_at hl 4 rfl) ?_
          refine lv_iload hx hb dL_finds_56 (lv_at hl 11 rfl) ?_
          refine g_lald (f := κ 5) (x := κ 5 i) hx hb hK (hB 5 0 Nat.zero_lt_one) (vp_in_nI (n := i) (N := 10) (by omega) (by decide)) (congrArg (κ 5) (cl_nI (n := i) (by omega))) dL_finds_58 ?_
          refine lv_lload hx hb dL_finds_59 (lv_at hl 9 rfl) ?_
          refine W.lcmp hx hb dL_finds_61 ?_
          refine lv_if_ne (tgt := 70) hx hb dL_finds_62 (by decide) (fun c_62 => ?_) (fun c_62 => ?_)
          · -- 62 t
            refine lv_iload hx hb dL_finds_70 (lv_at hl 10 rfl) ?_
            exact k_72 _ (by rw [ldQ, if_neg (fun z => c_62 ((lg_cmp_eq _ _).mpr z.2))])
          · -- 62 f
            refine lv_iload hx hb dL_finds_65 (lv_at hl 11 rfl) ?_
            refine lv_goto (tgt := 72) hx hb dL_finds_67 (by decide) ?_
            exact k_72 _ (by rw [ldQ, if_pos ⟨(nI_eq (by omega) (by omega)).mp c_51, cmpE' c_62⟩]; rfl)
  exact loop (μ 0 0 + 1) 0 ls (Nat.zero_le _) (by omega) (lv_sub hl [5, 6, 7, 8, 9, 10, 11, 4, 3, 2, 1, 0] rfl)
