/-! the law: an address is typed -/
set_option maxHeartbeats 8000000 in
set_option maxRecDepth 100000 in
/-- the law: types -/
theorem m_L_types (l : Launch) (hl9 : l.stackTraces = false) (D : va_G) (cy : Nat → ClassId) (A9 : Nat → Prop) (sz : Nat) (ad bd : NT) (τ : IT) (ν : NT) (ρ : IT) (κ : LT) (σ : IT) (μ : NT) (n : Nat) (hR : Rel n τ ν σ μ) (hn : n < 900) (hLR : LR ρ κ σ μ) (hJ : J2 (ν 0 0) ad bd) (hA9 : ∀ q, (wB (ν 0 0) ad bd sz) q → A9 q) (z0 : Int32) : Met l yL_types wsL_types ({ frames := 7, cells := 12, slots := 72, locals := 130 } : Room) (va_Pc [.ref (ad 0 0), .int z0, .ref (bd 4 0), .ref (bd 0 0)] (fun U => gK D cy U ∧ xK A9 U U.heap ∧ atSz sz (BW D cy ad bd τ ν ρ κ) U.heap)) (uQ (some (.int 1)) (fun H => ∃ (τ2 : IT) (ν2 : NT) (σ2 : IT) (μ2 : NT) (ρ2 : IT), Rel n τ2 ν2 σ2 μ2 ∧ LR ρ2 κ σ2 μ2 ∧ ν2 0 0 = ν 0 0 ∧ σ2 0 0 = σ 0 0 ∧ BW D cy ad bd τ2 ν2 ρ2 κ H) (wB (ν 0 0) ad bd sz)) 12 72 (wB (ν 0 0) ad bd sz) := by
  refine Met.ofW (cc := cL_types) (maxL := 8) (ret := (some .boolean)) (by decide) rfl ?_
  intro p e s m args below meth c s₁ B9 hml hv
  obtain ⟨rfl, hK, hX, hsz, hC, hB⟩ := hv
  have hx := B9.exec
  have hb := B9.bytes
  have hr := B9.returns
  have hts := atoms_spec (ws := wsL_types) B9.pre
  have hown : s.vm.findClass RL = some m.cls := findClass_of_methodNamed B9.named
  have hlocks := B9.notSynchronized
  subst hsz
  have hS : va_S (wB (ν 0 0) ad bd s.heap.size) s.heap s.heap [] := va_S.rf
  have hl := lv_entry ([.ref (ad 0 0), .int z0, .ref (bd 4 0), .ref (bd 0 0)]) (n := 8) (Nat.le_of_ble_eq_true rfl)
  rw [lg_entry_eq]
  generalize (lg_sl ([.ref (ad 0 0), .int z0, .ref (bd 4 0), .ref (bd 0 0)]) ++ List.replicate (8 - (lg_sl ([.ref (ad 0 0), .int z0, .ref (bd 4 0), .ref (bd 0 0)])).length) Slot.unset).toArray = ls at hl ⊢
  have hl : lv_has ls 8 [(0, .ref (ad 0 0)), (1, .int z0), (2, .ref (bd 4 0)), (3, .ref (bd 0 0))] := hl
  have h10 := hLR.2.1.1
  have h12 := hLR.2.1.2.1
  have hn0 := hR.n0
  have hn1 := hR.n1
  refine lv_aload_n hx hb dL_types_0 rfl (lv_at hl 0 rfl) ?_
  have hm1 := m_X3_clearAddress l D cy s.heap.size ad τ ν hJ.1
  refine g_cu1 (va_runV (As := []) (rest := []) ⟨hx, hb, hml, hown, hts⟩ hm1 (cwV 0 hts gL_types_X3_clearAddress rfl rfl rfl (by decide +kernel) ⟨Nat.le_of_ble_eq_true rfl, Nat.le_of_ble_eq_true rfl⟩) (g_preV (C := RX3) (B := atSz s.heap.size (CW D cy ad τ ν)) hK ⟨rfl, hC⟩ (hC 0 0 Nat.zero_lt_one) rfl) rfl rfl hl.1 rfl (lv_room (Nat.le_of_ble_eq_true rfl)) dL_types_1 ⟨(Nat.le_of_ble_eq_true rfl), (Nat.le_of_ble_eq_true rfl)⟩) hS (fun q _ h => Or.inl (wA.mono hS.1 h)) (fun q h => Or.inl (wA.mono hS.1 h)) (fun H1 locs1 hC1 hz1 hk1 hS1 => ?_)
  have hB1 : LW D cy bd ρ κ H1 := hB.byC hJ hk1
  have hX1 := xKeep hX hk1 (fun q z => hA9 q (Or.inl (wA.mono hS.1 z)))
  refine lv_aload_n hx hb dL_types_4 rfl (lv_at hl 3 rfl) ?_
  refine lv_bipush (v := 7) hx hb dL_types_5 (by decide) ?_
  refine g_iald (f := ρ 0) (x := nI (μ 1 0)) hx hb hK (hB1 0 0 Nat.zero_lt_one) (vp_in_nI (n := 7) (N := 8) (by decide) (by decide)) ((congrArg (ρ 0) (cl_nI (n := 7) (by decide))).trans hLR.1.2.2.2.2.2.2.2) dL_types_7 ?_
  refine lv_icmp_eq (tgt := 13) hx hb dL_types_8 (by decide) (fun c_8 => ?_) (fun c_8 => ?_)
  · -- 8 t
    refine lv_aload_n hx hb dL_types_13 rfl (lv_at hl 3 rfl) ?_
    refine lv_bipush (v := 7) hx hb dL_types_14 (by decide) ?_
    refine lv_iconst (v := 0) hx hb dL_types_16 (by decide) ?_
    refine g_iast (f := ρ 0) (A := (wB (ν 0 0) ad bd s.heap.size)) hx hb hK (hB1 0 0 Nat.zero_lt_one) hS1 (Or.inr (wA.in (k := 0) (i := 0) Nat.zero_lt_one)) (vp_in_nI (n := 7) (N := 8) (by decide) (by decide)) dL_types_17 (fun H2 locs2 hc2 hu2 hS2 => ?_)
    have hB2 : LW D cy bd (clQ ρ) κ H2 := hB1.ist hJ.2.1 0 (q := 7) (by decide) (cl_nI (n := 7) (by decide)) hc2 hu2
    have hC2 : CW D cy ad τ (up2 (up2 ν 1 0 0) 2 0 0) H2 := hC1.byR hJ (show 0 < cL 0 from Nat.zero_lt_one) hu2
    have hX2 := xKeep (A1 := wA cL bd s.heap.size) hX1 (hu2.in (wA.in (k := 0) (i := 0) Nat.zero_lt_one)) (fun q z => hA9 q (Or.inr z))
    refine lv_iconst (v := 1) hx hb dL_types_18 (by decide) ?_
    refine lv_iload_n hx hb dL_types_19 rfl (lv_at hl 1 rfl) ?_
    refine lv_iconst (v := 3) hx hb dL_types_20 (by decide) ?_
    refine lv_ishr hx hb dL_types_21 ?_
    refine lv_bipush (v := 12) hx hb dL_types_22 (by decide) ?_
    refine g_csr (va_runS (As := [.int (z0 >>> (3 &&& 31)), .int 12]) (rest := [.int 1]) ⟨hx, hb, hml, hown, hts⟩ (m_L_low l D cy bd ρ κ (z0 >>> (3 &&& 31)) 12 (by decide)) (va_cwS 2 hts gL_types_L_low rfl rfl rfl (by decide +kernel) ⟨Nat.le_of_ble_eq_true rfl, Nat.le_of_ble_eq_true rfl⟩) (g_preS (B := (fun _ => True)) hK trivial) rfl rfl hl.1 rfl (lv_room (Nat.le_of_ble_eq_true rfl)) dL_types_24 ⟨(Nat.le_of_ble_eq_true rfl), (Nat.le_of_ble_eq_true rfl)⟩) ?_
    obtain ⟨mz, hmz, emz⟩ := low_nI (v := (z0 >>> (3 &&& 31))) (m := 12) (by decide) (by decide)
    refine lv_topi (fun y2 ey2 => ?_)
    obtain rfl : y2 = nI mz := ey2.trans (emz)
    refine lv_iadd hx hb dL_types_27 ?_
    refine lv_topi (fun y3 ey3 => ?_)
    obtain rfl : y3 = nI (1 + mz) := ey3.trans (nI_add 1 mz)
    refine lv_istore (lv' := [(4, .int (nI (1 + mz))), (0, .ref (ad 0 0)), (1, .int z0), (2, .ref (bd 4 0)), (3, .ref (bd 0 0))]) hx hb dL_types_28 hl (by decide) rfl (fun ls hl => ?_)
    refine lv_iconst (v := 1) hx hb dL_types_30 (by decide) ?_
    refine lv_istore (lv' := [(5, .int 1), (4, .int (nI (1 + mz))), (0, .ref (ad 0 0)), (1, .int z0), (2, .ref (bd 4 0)), (3, .ref (bd 0 0))]) hx hb dL_types_31 hl (by decide) rfl (fun ls hl => ?_)
    refine lv_iconst (v := 0) hx hb dL_types_33 (by decide) ?_
    refine lv_topi (fun y4 ey4 => ?_)
    obtain rfl : y4 = nI 0 := ey4.trans (nI_0.symm)
    refine lv_istore (lv' := [(6, .int (nI 0)), (5, .int 1), (4, .int (nI (1 + mz))), (0, .ref (ad 0 0)), (1, .int z0), (2, .ref (bd 4 0)), (3, .ref (bd 0 0))]) hx hb dL_types_34 hl (by decide) rfl (fun ls hl => ?_)
    have loop : ∀ (k : Nat) (i : Nat) (H9 : Heap) (locs9 : List Loc) (τ9 : IT) (ν9 : NT) (σ9 : IT) (μ9 : NT) (ρ9 : IT) (ls : Array Slot), i ≤ 1 + mz → 1 + mz < i + k → Rel n τ9 ν9 σ9 μ9 → LR ρ9 κ σ9 μ9 → μ9 1 0 = i → ν9 0 0 = ν 0 0 → σ9 0 0 = σ 0 0 → CW D cy ad τ9 ν9 H9 → LW D cy bd ρ9 κ H9 → va_S (wB (ν 0 0) ad bd s.heap.size) s.heap H9 locs9 → xK A9 s H9 → lv_has ls 8 [(0, .ref (ad 0 0)), (1, .int z0), (2, .ref (bd 4 0)), (3, .ref (bd 0 0)), (4, .int (nI (1 + mz))), (5, .int 1), (6, .int (nI i))] → W p l e (headSpec wsL_types ({ frames := 7, cells := 12, slots := 72, locals := 130 } : Room)).room s m ([.ref (ad 0 0), .int z0, .ref (bd 4 0), .ref (bd 0 0)] : List Value).toArray below meth c H9 locs9 i (6 * i) (MQ below (uQ (some (.int 1)) (fun H => ∃ (τ2 : IT) (ν2 : NT) (σ2 : IT) (μ2 : NT) (ρ2 : IT), Rel n τ2 ν2 σ2 μ2 ∧ LR ρ2 κ σ2 μ2 ∧ ν2 0 0 = ν 0 0 ∧ σ2 0 0 = σ 0 0 ∧ BW D cy ad bd τ2 ν2 ρ2 κ H) (wB (ν 0 0) ad bd s.heap.size)) ([.ref (ad 0 0), .int z0, .ref (bd 4 0), .ref (bd 0 0)] : List Value).toArray s 12 72 (wB (ν 0 0) ad bd s.heap.size)) (F0 m 36 ls []) := by
      intro k
      induction k with
      | zero => intro i H9 locs9 τ9 ν9 σ9 μ9 ρ9 ls hi hik hR9 hLR9 hi9 hν9 hσ9 hC9 hB9 hS9 hX9 hl; exfalso; omega
      | succ k loop_ih =>
        intro i H9 locs9 τ9 ν9 σ9 μ9 ρ9 ls hi hik hR9 hLR9 hi9 hν9 hσ9 hC9 hB9 hS9 hX9 hl
        refine lv_iload hx hb dL_types_36 (lv_at hl 6 rfl) ?_
        refine lv_iload hx hb dL_types_38 (lv_at hl 4 rfl) ?_
        refine lv_icmp_ge (tgt := 214) hx hb dL_types_40 (by decide) (fun c_40 => ?_) (fun c_40 => ?_)
        · -- 40 t
          refine lv_iload hx hb dL_types_214 (lv_at hl 5 rfl) ?_
          exact g_zretU hx hb hr hlocks (by rfl) hS9 ⟨τ9, ν9, σ9, μ9, ρ9, hR9, hLR9, hν9, hσ9, hC9, hB9⟩ (by first | exact Nat.le_of_ble_eq_true rfl | omega) (by first | exact Nat.le_of_ble_eq_true rfl | omega) dL_types_216 rfl
        · -- 40 f
          have hi2 : i < 1 + mz := lt_of c_40 (by omega) (by omega)
          have hn9 := hR9.n1
          have hJ9 : J2 (ν9 0 0) ad bd := by rw [hν9]; exact hJ
          have hA99 : ∀ q, wB (ν9 0 0) ad bd s.heap.size q → A9 q := by rw [hν9]; exact hA9
          refine lv_iload hx hb dL_types_43 (lv_at hl 5 rfl) ?_
          refine lv_if_eq (tgt := 214) hx hb dL_types_45 (by decide) (fun c_45 => ?_) (fun c_45 => ?_)
          · exact absurd c_45 (by decide)
          · -- 45 f
            have k_149 : ∀ x : Nat, x ≤ 2 → W p l e (headSpec wsL_types ({ frames := 7, cells := 12, slots := 72, locals := 130 } : Room)).room s m ([.ref (ad 0 0), .int z0, .ref (bd 4 0), .ref (bd 0 0)] : List Value).toArray below meth c H9 locs9 i (6 * i) (MQ below (uQ (some (.int 1)) (fun H => ∃ (τ2 : IT) (ν2 : NT) (σ2 : IT) (μ2 : NT) (ρ2 : IT), Rel n τ2 ν2 σ2 μ2 ∧ LR ρ2 κ σ2 μ2 ∧ ν2 0 0 = ν 0 0 ∧ σ2 0 0 = σ 0 0 ∧ BW D cy ad bd τ2 ν2 ρ2 κ H) (wB (ν 0 0) ad bd s.heap.size)) ([.ref (ad 0 0), .int z0, .ref (bd 4 0), .ref (bd 0 0)] : List Value).toArray s 12 72 (wB (ν 0 0) ad bd s.heap.size)) (F0 m 149 ls [.int (nI x)]) := by
              intro x hx9
              refine lv_istore (lv' := [(7, .int (nI x)), (0, .ref (ad 0 0)), (1, .int z0), (2, .ref (bd 4 0)), (3, .ref (bd 0 0)), (4, .int (nI (1 + mz))), (5, .int 1), (6, .int (nI i))]) hx hb dL_types_149 hl (by decide) rfl (fun ls hl => ?_)
              refine lv_aload_n hx hb dL_types_151 rfl (lv_at hl 3 rfl) ?_
              refine lv_aload_n hx hb dL_types_152 rfl (lv_at hl 4 rfl) ?_
              refine lv_bipush (v := 7) hx hb dL_types_153 (by decide) ?_
              refine g_iald (f := ρ9 0) (x := nI i) hx hb hK (hB9 0 0 Nat.zero_lt_one) (vp_in_nI (n := 7) (N := 8) (by decide) (by decide)) ((congrArg (ρ9 0) (cl_nI (n := 7) (by decide))).trans (hLR9.1.2.2.2.2.2.2.2.trans (congrArg nI hi9))) dL_types_155 ?_
              refine lv_iload hx hb dL_types_156 (lv_at hl 0 rfl) ?_
              refine g_iast (f := ρ9 4) (A := (wB (ν 0 0) ad bd s.heap.size)) hx hb hK (hB9 4 0 Nat.zero_lt_one) hS9 (Or.inr (wA.in (k := 4) (i := 0) Nat.zero_lt_one)) (vp_in_nI (n := i) (N := 12) (by omega) (by decide)) dL_types_158 (fun H3 locs3 hc3 hu3 hS3 => ?_)
              have hB3 : LW D cy bd (tyA ρ9 i x) κ H3 := hB9.ist hJ9.2.1 4 (q := i) (by decide) (cl_nI (n := i) (by omega)) hc3 hu3
              have hC3 : CW D cy ad τ9 ν9 H3 := hC9.byR hJ9 (show 0 < cL 4 from Nat.zero_lt_one) hu3
              have hX3 := xKeep (A1 := wA cL bd s.heap.size) hX9 (hu3.in (wA.in (k := 4) (i := 0) Nat.zero_lt_one)) (fun q z => hA9 q (Or.inr z))
              refine lv_aload_n hx hb dL_types_159 rfl (lv_at hl 4 rfl) ?_
              refine lv_bipush (v := 7) hx hb dL_types_160 (by decide) ?_
              refine lv_dup2_11 hx hb dL_types_162 rfl rfl ?_
              refine g_iald (f := (tyA ρ9 i x) 0) (x := nI i) hx hb hK (hB3 0 0 Nat.zero_lt_one) (vp_in_nI (n := 7) (N := 8) (by decide) (by decide)) ((congrArg ((tyA ρ9 i x) 0) (cl_nI (n := 7) (by decide))).trans (show tyA ρ9 i x 0 7 = nI i from by rw [tyA, up2_k (by decide)]; exact hLR9.1.2.2.2.2.2.2.2.trans (congrArg nI hi9))) dL_types_163 ?_
              refine lv_iconst (v := 1) hx hb dL_types_164 (by decide) ?_
              refine lv_iadd hx hb dL_types_165 ?_
              refine lv_topi (fun y5 ey5 => ?_)
              obtain rfl : y5 = nI (i + 1) := ey5.trans (nI_add i 1)
              refine g_iast (f := (tyA ρ9 i x) 0) (A := (wB (ν 0 0) ad bd s.heap.size)) hx hb hK (hB3 0 0 Nat.zero_lt_one) hS3 (Or.inr (wA.in (k := 0) (i := 0) Nat.zero_lt_one)) (vp_in_nI (n := 7) (N := 8) (by decide) (by decide)) dL_types_166 (fun H4 locs4 hc4 hu4 hS4 => ?_)
              have hB4 : LW D cy bd (tyB ρ9 i x) κ H4 := hB3.ist hJ9.2.1 0 (q := 7) (by decide) (cl_nI (n := 7) (by decide)) hc4 hu4
              have hC4 : CW D cy ad τ9 ν9 H4 := hC3.byR hJ9 (show 0 < cL 0 from Nat.zero_lt_one) hu4
              have hX4 := xKeep (A1 := wA cL bd s.heap.size) hX3 (hu4.in (wA.in (k := 0) (i := 0) Nat.zero_lt_one)) (fun q z => hA9 q (Or.inr z))
              refine lv_aload_n hx hb dL_types_167 rfl (lv_at hl 1 rfl) ?_
              have k_191 : ∀ z6 : Int32, z6 = chQ x → W p l e (headSpec wsL_types ({ frames := 7, cells := 12, slots := 72, locals := 130 } : Room)).room s m ([.ref (ad 0 0), .int z0, .ref (bd 4 0), .ref (bd 0 0)] : List Value).toArray below meth c H4 locs4 i (6 * i) (MQ below (uQ (some (.int 1)) (fun H => ∃ (τ2 : IT) (ν2 : NT) (σ2 : IT) (μ2 : NT) (ρ2 : IT), Rel n τ2 ν2 σ2 μ2 ∧ LR ρ2 κ σ2 μ2 ∧ ν2 0 0 = ν 0 0 ∧ σ2 0 0 = σ 0 0 ∧ BW D cy ad bd τ2 ν2 ρ2 κ H) (wB (ν 0 0) ad bd s.heap.size)) ([.ref (ad 0 0), .int z0, .ref (bd 4 0), .ref (bd 0 0)] : List Value).toArray s 12 72 (wB (ν 0 0) ad bd s.heap.size)) (F0 m 191 ls [.int z6, .ref (ad 0 0)]) := by
                intro z6 ez6
                subst ez6
                have hm7 := m_X3_type l hl9 D cy A9 H4.size ad τ9 ν9 hJ9.1 hR9.CI hR9.seg15 (chQ x) (chQ_ok hx9).2.2.2.1
                refine x_wr1 (vx_runV (As := [.int (chQ x)]) (rest := []) ⟨hx, hb, hml, hown, hts⟩ hm7 (cwV 1 hts gL_types_X3_type rfl rfl rfl (by decide +kernel) ⟨Nat.le_of_ble_eq_true rfl, Nat.le_of_ble_eq_true rfl⟩) (x_preV (C := RX3) (B := atSz H4.size (CW D cy ad τ9 ν9)) hK hX4 ⟨rfl, hC4⟩ (hC4 0 0 Nat.zero_lt_one) rfl) rfl rfl hl.1 rfl (lv_room (Nat.le_of_ble_eq_true rfl)) dL_types_191 ⟨(by show i + 1 ≤ 12; omega), (by show (6 * i) + 6 ≤ 72; omega)⟩) (fun E z => z.elim (fun z => z.1 (chQ_ok hx9).2.2.1) (fun z => by have := z.2.1; omega)) hS4 (fun q _ h => Or.inl (wA.mono hS4.1 (by rw [hν9] at h; exact h))) (fun q h => Or.inl (wA.mono hS4.1 (by rw [hν9] at h; exact h))) (fun H5 locs5 hC5 hz5 hk5 hS5 => ?_)
                have hB5 : LW D cy bd (tyB ρ9 i x) κ H5 := hB4.byC hJ9 hk5
                have hX5 := xKeep hX4 hk5 (fun q z => hA99 q (Or.inl (wA.mono hS4.1 z)))
                refine lv_aload_n hx hb dL_types_194 rfl (lv_at hl 4 rfl) ?_
                refine lv_bipush (v := 7) hx hb dL_types_195 (by decide) ?_
                refine g_iald (f := (tyB ρ9 i x) 0) (x := nI (i + 1)) hx hb hK (hB5 0 0 Nat.zero_lt_one) (vp_in_nI (n := 7) (N := 8) (by decide) (by decide)) ((congrArg ((tyB ρ9 i x) 0) (cl_nI (n := 7) (by decide))).trans (show tyB ρ9 i x 0 7 = nI (i + 1) from by rw [tyB, up2_s])) dL_types_197 ?_
                refine lv_icmp_ne (tgt := 205) hx hb dL_types_198 (by decide) (fun c_198 => ?_) (fun c_198 => ?_)
                · -- 198 t
                  exact absurd (congrArg nI (show ν9 1 0 + 1 = i + 1 by omega)) c_198
                · -- 198 f
                  refine lv_iconst (v := 1) hx hb dL_types_201 (by decide) ?_
                  refine lv_goto (tgt := 206) hx hb dL_types_202 (by decide) ?_
                  refine lv_istore (lv' := [(5, .int 1), (7, .int (nI x)), (0, .ref (ad 0 0)), (1, .int z0), (2, .ref (bd 4 0)), (3, .ref (bd 0 0)), (4, .int (nI (1 + mz))), (6, .int (nI i))]) hx hb dL_types_206 hl (by decide) rfl (fun ls hl => ?_)
                  refine lv_iinc (v := nI (i + 1)) (lv' := [(6, .int (nI (i + 1))), (5, .int 1), (7, .int (nI x)), (0, .ref (ad 0 0)), (1, .int z0), (2, .ref (bd 4 0)), (3, .ref (bd 0 0)), (4, .int (nI (1 + mz)))]) hx hb dL_types_208 hl (k := 7) rfl (nI_1 _) (by decide) rfl (fun ls hl => ?_)
                  refine lv_goto (tgt := 36) hx hb dL_types_211 (by decide) ?_
                  refine W.widen (k := i + 1) (n := 6 * (i + 1)) (by omega) (by omega) ?_
                  exact loop_ih (i + 1) H5 locs5 (addT τ9 ν9 (chQ x)) (addN τ9 ν9 (chQ x)) (up2 (T0 σ9) 6 (μ9 1 0) (chQ x)) (up2 μ9 1 0 (μ9 1 0 + 1)) (tyB ρ9 i x) ls (by omega) (by omega) (type_rel hR9 (chQ_ok hx9).2.2.2.2 (by omega)) (by have q9 := hLR9.typ (x := x) (by omega) hx9; rw [show tyB ρ9 (μ9 1 0) x = tyB ρ9 i x from by rw [hi9]] at q9; exact q9) (by rw [up2_s, hi9]) (by rw [addN_k (by decide) (by decide)]; exact hν9) (show _ = _ from hσ9) hC5 hB5 hS5 hX5 (lv_sub hl [3, 4, 5, 6, 7, 1, 0] rfl)
              refine lv_iload hx hb dL_types_168 (lv_at hl 0 rfl) ?_
              refine lv_if_ne (tgt := 178) hx hb dL_types_170 (by decide) (fun c_170 => ?_) (fun c_170 => ?_)
              · -- 170 t
                refine lv_iload hx hb dL_types_178 (lv_at hl 0 rfl) ?_
                refine lv_iconst (v := 1) hx hb dL_types_180 (by decide) ?_
                refine lv_icmp_ne (tgt := 189) hx hb dL_types_181 (by decide) (fun c_181 => ?_) (fun c_181 => ?_)
                · -- 181 t
                  refine lv_bipush (v := 98) hx hb dL_types_189 (by decide) ?_
                  exact k_191 _ (by rw [chQ, if_neg (fun z => c_170 (by rw [z]; exact nI_0)), if_neg (fun z => c_181 (by rw [z]; rfl))])
                · -- 181 f
                  refine lv_bipush (v := 97) hx hb dL_types_184 (by decide) ?_
                  refine lv_goto (tgt := 191) hx hb dL_types_186 (by decide) ?_
                  exact k_191 _ (by rw [chQ, if_neg (fun z => c_170 (by rw [z]; exact nI_0)), if_pos ((nI_eq (a := x) (b := 1) (by omega) (by decide)).mp c_181)])
              · -- 170 f
                refine lv_bipush (v := 47) hx hb dL_types_173 (by decide) ?_
                refine lv_goto (tgt := 191) hx hb dL_types_175 (by decide) ?_
                exact k_191 _ (by rw [chQ, if_pos ((nI_eq (a := x) (b := 0) (by omega) (by decide)).mp (c_170.trans nI_0.symm))])
            refine lv_iload_n hx hb dL_types_48 rfl (lv_at hl 1 rfl) ?_
            refine lv_iconst (v := 3) hx hb dL_types_49 (by decide) ?_
            refine g_csr (va_runS (As := [.int z0, .int 3]) (rest := []) ⟨hx, hb, hml, hown, hts⟩ (m_L_low l D cy bd ρ κ z0 3 (by decide)) (va_cwS 2 hts gL_types_L_low rfl rfl rfl (by decide +kernel) ⟨Nat.le_of_ble_eq_true rfl, Nat.le_of_ble_eq_true rfl⟩) (g_preS (B := (fun _ => True)) hK trivial) rfl rfl hl.1 rfl (lv_room (Nat.le_of_ble_eq_true rfl)) dL_types_50 ⟨(by show i + 0 ≤ 12; omega), (by show (6 * i) + 0 ≤ 72; omega)⟩) ?_
            refine lv_if_ne (tgt := 80) hx hb dL_types_53 (by decide) (fun c_53 => ?_) (fun c_53 => ?_)
            · -- 53 t
              refine lv_iload_n hx hb dL_types_80 rfl (lv_at hl 1 rfl) ?_
              refine lv_iconst (v := 3) hx hb dL_types_81 (by decide) ?_
              refine g_csr (va_runS (As := [.int z0, .int 3]) (rest := []) ⟨hx, hb, hml, hown, hts⟩ (m_L_low l D cy bd ρ κ z0 3 (by decide)) (va_cwS 2 hts gL_types_L_low rfl rfl rfl (by decide +kernel) ⟨Nat.le_of_ble_eq_true rfl, Nat.le_of_ble_eq_true rfl⟩) (g_preS (B := (fun _ => True)) hK trivial) rfl rfl hl.1 rfl (lv_room (Nat.le_of_ble_eq_true rfl)) dL_types_82 ⟨(by show i + 0 ≤ 12; omega), (by show (6 * i) + 0 ≤ 72; omega)⟩) ?_
              refine lv_iconst (v := 1) hx hb dL_types_85 (by decide) ?_
              refine lv_icmp_ne (tgt := 120) hx hb dL_types_86 (by decide) (fun c_86 => ?_) (fun c_86 => ?_)
              · -- 86 t
                refine lv_iload_n hx hb dL_types_120 rfl (lv_at hl 1 rfl) ?_
                refine lv_iload hx hb dL_types_121 (lv_at hl 6 rfl) ?_
                refine lv_iconst (v := 4) hx hb dL_types_123 (by decide) ?_
                refine lv_iadd hx hb dL_types_124 ?_
                refine lv_topi (fun y8 ey8 => ?_)
                obtain rfl : y8 = nI (i + 4) := ey8.trans (nI_add i 4)
                refine lv_ishr hx hb dL_types_125 ?_
                refine lv_iconst (v := 4) hx hb dL_types_126 (by decide) ?_
                refine g_csr (va_runS (As := [.int (z0 >>> ((nI (i + 4)) &&& 31)), .int 4]) (rest := []) ⟨hx, hb, hml, hown, hts⟩ (m_L_low l D cy bd ρ κ (z0 >>> ((nI (i + 4)) &&& 31)) 4 (by decide)) (va_cwS 2 hts gL_types_L_low rfl rfl rfl (by decide +kernel) ⟨Nat.le_of_ble_eq_true rfl, Nat.le_of_ble_eq_true rfl⟩) (g_preS (B := (fun _ => True)) hK trivial) rfl rfl hl.1 rfl (lv_room (Nat.le_of_ble_eq_true rfl)) dL_types_127 ⟨(by show i + 0 ≤ 12; omega), (by show (6 * i) + 0 ≤ 72; omega)⟩) ?_
                refine lv_if_ne (tgt := 137) hx hb dL_types_130 (by decide) (fun c_130 => ?_) (fun c_130 => ?_)
                · -- 130 t
                  refine lv_iconst (v := 1) hx hb dL_types_137 (by decide) ?_
                  refine lv_iload_n hx hb dL_types_138 rfl (lv_at hl 1 rfl) ?_
                  refine lv_iload hx hb dL_types_139 (lv_at hl 6 rfl) ?_
                  refine lv_iconst (v := 5) hx hb dL_types_141 (by decide) ?_
                  refine lv_iadd hx hb dL_types_142 ?_
                  refine lv_topi (fun y9 ey9 => ?_)
                  obtain rfl : y9 = nI (i + 5) := ey9.trans (nI_add i 5)
                  refine lv_ishr hx hb dL_types_143 ?_
                  refine lv_iconst (v := 2) hx hb dL_types_144 (by decide) ?_
                  refine g_csr (va_runS (As := [.int (z0 >>> ((nI (i + 5)) &&& 31)), .int 2]) (rest := [.int 1]) ⟨hx, hb, hml, hown, hts⟩ (m_L_low l D cy bd ρ κ (z0 >>> ((nI (i + 5)) &&& 31)) 2 (by decide)) (va_cwS 2 hts gL_types_L_low rfl rfl rfl (by decide +kernel) ⟨Nat.le_of_ble_eq_true rfl, Nat.le_of_ble_eq_true rfl⟩) (g_preS (B := (fun _ => True)) hK trivial) rfl rfl hl.1 rfl (lv_room (Nat.le_of_ble_eq_true rfl)) dL_types_145 ⟨(by show i + 0 ≤ 12; omega), (by show (6 * i) + 0 ≤ 72; omega)⟩) ?_
                  obtain ⟨rb, hrb, erb⟩ := low_nI (v := (z0 >>> ((nI (i + 5)) &&& 31))) (m := 2) (by decide) (by decide)
                  refine lv_topi (fun y10 ey10 => ?_)
                  obtain rfl : y10 = nI rb := ey10.trans (erb)
                  refine lv_iadd hx hb dL_types_148 ?_
                  refine lv_topi (fun y11 ey11 => ?_)
                  obtain rfl : y11 = nI (1 + rb) := ey11.trans (nI_add 1 rb)
                  exact k_149 (1 + rb) (by omega)
                · -- 130 f
                  refine lv_iconst (v := 0) hx hb dL_types_133 (by decide) ?_
                  refine lv_topi (fun y12 ey12 => ?_)
                  obtain rfl : y12 = nI 0 := ey12.trans (nI_0.symm)
                  refine lv_goto (tgt := 149) hx hb dL_types_134 (by decide) ?_
                  exact k_149 (0) (by omega)
              · -- 86 f
                refine lv_iload hx hb dL_types_89 (lv_at hl 6 rfl) ?_
                refine lv_iconst (v := 4) hx hb dL_types_91 (by decide) ?_
                refine lv_irem hx hb dL_types_92 (by decide) ?_
                refine lv_iconst (v := 1) hx hb dL_types_93 (by decide) ?_
                refine lv_icmp_eq (tgt := 105) hx hb dL_types_94 (by decide) (fun c_94 => ?_) (fun c_94 => ?_)
                · -- 94 t
                  refine lv_iconst (v := 0) hx hb dL_types_105 (by decide) ?_
                  refine lv_topi (fun y13 ey13 => ?_)
                  obtain rfl : y13 = nI 0 := ey13.trans (nI_0.symm)
                  refine lv_goto (tgt := 149) hx hb dL_types_106 (by decide) ?_
                  exact k_149 (0) (by omega)
                · -- 94 f
                  refine lv_iload hx hb dL_types_97 (lv_at hl 6 rfl) ?_
                  refine lv_iconst (v := 4) hx hb dL_types_99 (by decide) ?_
                  refine lv_irem hx hb dL_types_100 (by decide) ?_
                  refine lv_iconst (v := 3) hx hb dL_types_101 (by decide) ?_
                  refine lv_icmp_ne (tgt := 109) hx hb dL_types_102 (by decide) (fun c_102 => ?_) (fun c_102 => ?_)
                  · -- 102 t
                    refine lv_iconst (v := 1) hx hb dL_types_109 (by decide) ?_
                    refine lv_iload hx hb dL_types_110 (lv_at hl 6 rfl) ?_
                    refine lv_iconst (v := 4) hx hb dL_types_112 (by decide) ?_
                    refine lv_irem hx hb dL_types_113 (by decide) ?_
                    refine lv_iconst (v := 2) hx hb dL_types_114 (by decide) ?_
                    refine lv_idiv hx hb dL_types_115 (by decide) ?_
                    refine lv_topi (fun y14 ey14 => ?_)
                    obtain rfl : y14 = nI (i % 4 / 2) := ey14.trans (by rw [show nI i - nI i / 4 * 4 = nI (i % 4) from pk_rem (d := 4) (by omega) (by decide) (by decide)]; exact pk_div (d := 2) (by omega) (by decide) (by decide))
                    refine lv_iadd hx hb dL_types_116 ?_
                    refine lv_topi (fun y15 ey15 => ?_)
                    obtain rfl : y15 = nI (1 + (i % 4 / 2)) := ey15.trans (nI_add 1 (i % 4 / 2))
                    refine lv_goto (tgt := 149) hx hb dL_types_117 (by decide) ?_
                    exact k_149 (1 + (i % 4 / 2)) (by omega)
                  · -- 102 f
                    refine lv_iconst (v := 0) hx hb dL_types_105 (by decide) ?_
                    refine lv_topi (fun y16 ey16 => ?_)
                    obtain rfl : y16 = nI 0 := ey16.trans (nI_0.symm)
                    refine lv_goto (tgt := 149) hx hb dL_types_106 (by decide) ?_
                    exact k_149 (0) (by omega)
            · -- 53 f
              refine lv_iload hx hb dL_types_56 (lv_at hl 6 rfl) ?_
              refine lv_iconst (v := 2) hx hb dL_types_58 (by decide) ?_
              refine lv_irem hx hb dL_types_59 (by decide) ?_
              refine lv_iconst (v := 1) hx hb dL_types_60 (by decide) ?_
              refine lv_icmp_ne (tgt := 68) hx hb dL_types_61 (by decide) (fun c_61 => ?_) (fun c_61 => ?_)
              · -- 61 t
                refine lv_iconst (v := 1) hx hb dL_types_68 (by decide) ?_
                refine lv_iload_n hx hb dL_types_69 rfl (lv_at hl 1 rfl) ?_
                refine lv_iconst (v := 5) hx hb dL_types_70 (by decide) ?_
                refine lv_ishr hx hb dL_types_71 ?_
                refine lv_iconst (v := 2) hx hb dL_types_72 (by decide) ?_
                refine g_csr (va_runS (As := [.int (z0 >>> (5 &&& 31)), .int 2]) (rest := [.int 1]) ⟨hx, hb, hml, hown, hts⟩ (m_L_low l D cy bd ρ κ (z0 >>> (5 &&& 31)) 2 (by decide)) (va_cwS 2 hts gL_types_L_low rfl rfl rfl (by decide +kernel) ⟨Nat.le_of_ble_eq_true rfl, Nat.le_of_ble_eq_true rfl⟩) (g_preS (B := (fun _ => True)) hK trivial) rfl rfl hl.1 rfl (lv_room (Nat.le_of_ble_eq_true rfl)) dL_types_73 ⟨(by show i + 0 ≤ 12; omega), (by show (6 * i) + 0 ≤ 72; omega)⟩) ?_
                obtain ⟨ra, hra, era⟩ := low_nI (v := (z0 >>> (5 &&& 31))) (m := 2) (by decide) (by decide)
                refine lv_topi (fun y17 ey17 => ?_)
                obtain rfl : y17 = nI ra := ey17.trans (era)
                refine lv_iadd hx hb dL_types_76 ?_
                refine lv_topi (fun y18 ey18 => ?_)
                obtain rfl : y18 = nI (1 + ra) := ey18.trans (nI_add 1 ra)
                refine lv_goto (tgt := 149) hx hb dL_types_77 (by decide) ?_
                exact k_149 (1 + ra) (by omega)
              · -- 61 f
                refine lv_iconst (v := 0) hx hb dL_types_64 (by decide) ?_
                refine lv_topi (fun y19 ey19 => ?_)
                obtain rfl : y19 = nI 0 := ey19.trans (nI_0.symm)
                refine lv_goto (tgt := 149) hx hb dL_types_65 (by decide) ?_
                exact k_149 (0) (by omega)
    exact loop (1 + mz + 1) 0 H2 locs2 τ (up2 (up2 ν 1 0 0) 2 0 0) (T0 σ) (up2 μ 1 0 0) (clQ ρ) ls (Nat.zero_le _) (by omega) (t_clear hR).2 hLR.clr up2_s rfl rfl hC2 hB2 hS2 hX2 (lv_sub hl [3, 4, 5, 6, 2, 1, 0] rfl)
  · -- 8 f
    exact absurd (congrArg nI hn1) c_8
