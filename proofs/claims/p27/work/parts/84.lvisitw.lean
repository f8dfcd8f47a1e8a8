/-! the law: visit, caught -/
theorem cC_keep {D : va_G} {cy : Nat → ClassId} {ad : NT} {τ : IT} {ν : NT} {H H1 : Heap} (h : CW D cy ad τ ν H) (hk : ∀ q : Nat, q < H.size → H1[q]? = H[q]?) : CW D cy ad τ ν H1 := h.keep hk
set_option maxHeartbeats 4000000 in
set_option maxRecDepth 100000 in
theorem m_L_visit (l : Launch) (hl9 : l.stackTraces = false) (D : va_G) (cy : Nat → ClassId) (A9 : Nat → Prop) (sz : Nat) (ad : NT) (τ : IT) (ν : NT) (hJ : wJ (cC (ν 0 0)) ad) (hI : CI τ ν) (p0 o0 : Int32) (hp0 : pageB ν p0 = true) (ho0 : inB o0 0 3 = true) : Met l yL_visit wsL_visit ({ frames := 8, cells := 2, slots := 12, locals := 150 } : Room) (va_Pc [.ref (ad 0 0), .int p0, .int o0] (fun U => gK D cy U ∧ xK A9 U U.heap ∧ (atSz sz (CW D cy ad τ ν)) U.heap)) (uQ (some (.int (if isRdy τ ν p0.toNatClampNeg = true then visC τ ν p0.toNatClampNeg o0 9 (ν 5 p0.toNatClampNeg) else -3))) (CW D cy ad (if isRdy τ ν p0.toNatClampNeg = true then visC τ ν p0.toNatClampNeg o0 else τ) ν) (wA (cC (ν 0 0)) ad sz)) 2 12 (wA (cC (ν 0 0)) ad sz) := by
  refine w_ofWH (cc := cL_visit) (maxL := 4) (ret := (some .int)) (hh := [(0, 6, 7, 16)]) (by decide) rfl ?_
  intro p e s m args below meth c s₁ B9 hml hv
  obtain ⟨rfl, hK, hX9, hsz, hB⟩ := hv
  have hB : CW D cy ad τ ν s.heap := hB
  subst hsz
  have hx := B9.exec
  have hb := B9.bytes
  have hr := B9.returns
  have hts := atoms_spec (ws := wsL_visit) B9.pre
  have hown : s.vm.findClass RL = some m.cls := findClass_of_methodNamed B9.named
  have hlocks := B9.notSynchronized
  have htab := vx_table (x := yL_visit) B9 (hts (.codeWith yL_visit cL_visit 4 (some .int) [(0, 6, 7, 16)]) (by decide +kernel))
  have hl := lv_entry ([.ref (ad 0 0), .int p0, .int o0]) (n := 4) (Nat.le_of_ble_eq_true rfl)
  rw [lg_entry_eq]
  generalize (lg_sl ([.ref (ad 0 0), .int p0, .int o0]) ++ List.replicate (4 - (lg_sl ([.ref (ad 0 0), .int p0, .int o0])).length) Slot.unset).toArray = ls at hl ⊢
  have hl : lv_has ls 4 [(0, .ref (ad 0 0)), (1, .int p0), (2, .int o0)] := hl
  refine lv_aload_n hx hb dL_visit_0 rfl (lv_at hl 0 rfl) ?_
  refine lv_iload_n hx hb dL_visit_1 rfl (lv_at hl 1 rfl) ?_
  refine lv_iload_n hx hb dL_visit_2 rfl (lv_at hl 2 rfl) ?_
  refine w_call1 (vx_runV (As := [.int p0, .int o0]) (rest := []) ⟨hx, hb, hml, hown, hts⟩ (m_X3_visit l hl9 D cy A9 s.heap.size ad τ ν hJ hI p0 o0) (cwV 2 hts gL_visit_X3_visit rfl rfl rfl (by decide +kernel) ⟨Nat.le_of_ble_eq_true rfl, Nat.le_of_ble_eq_true rfl⟩) (x_preV (C := RX3) (B := atSz s.heap.size (CW D cy ad τ ν)) hK hX9 ⟨rfl, hB⟩ (hB 0 0 Nat.zero_lt_one) rfl) rfl rfl hl.1 rfl (lv_room (Nat.le_of_ble_eq_true rfl)) dL_visit_3 ⟨Nat.le_of_ble_eq_true rfl, Nat.le_of_ble_eq_true rfl⟩) (fun E ce q9 H1 locs1 hPE hz1 hk1 hL1 hce hcv hcl => ?_) (fun hok H1 locs1 hB1 hz1 hk1 hL1 => ?_)
  · have hS1 : va_S (wA (cC (ν 0 0)) ad s.heap.size) s.heap H1 locs1 := ⟨hz1, fun q h1 _ => hk1 q h1, hL1⟩
    have hB1 : CW D cy ad τ ν H1 := hB.keep hk1
    rcases hPE with hPE | hPE
    · rw [hp0] at hPE; exact absurd hPE.1 (by decide)
    rcases hPE with hPE | hPE
    · rw [ho0] at hPE; exact absurd hPE.2.1 (by decide)
    · obtain ⟨w1, w2, w3, rfl⟩ := hPE
      refine vx_catch (own := RL) (name := xcL) hown [] ⟨0, 6, 7, 16⟩ [] (by rw [htab]; rfl) (fun z hz => nomatch hz) (by decide) (by decide) (hts (.classLink RL 16 xcL) (by decide +kernel)) (va_Nw.use rfl (hX9.2.2.1 xcL (by decide))) hce hcv hcl ?_
      refine lv_astore_n (lv' := [(3, .ref q9), (0, .ref (ad 0 0)), (1, .int p0), (2, .int o0)]) hx hb dL_visit_7 rfl hl (by decide) rfl (fun ls hl => ?_)
      refine lv_bipush (v := (-3)) hx hb dL_visit_8 (by decide) ?_
      exact g_iretU hx hb hr hlocks hS1 (by rw [if_neg (by rw [w3]; decide)]; exact hB1) (Nat.le_of_ble_eq_true rfl) (Nat.le_of_ble_eq_true rfl) dL_visit_10 (by rw [if_neg (by rw [w3]; decide)])
  · have hS1 : va_S (wA (cC (ν 0 0)) ad s.heap.size) s.heap H1 locs1 := ⟨hz1, fun q h1 h2 => hk1 q h1 h2, hL1⟩
    exact g_iretU hx hb hr hlocks hS1 (by rw [if_pos hok.2.2]; exact hB1) (Nat.le_of_ble_eq_true rfl) (Nat.le_of_ble_eq_true rfl) dL_visit_6 (by rw [if_pos hok.2.2])
