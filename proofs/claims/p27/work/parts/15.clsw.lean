/-! Politecrawl: what its methods write -/
section CWS
variable {D : va_G} {cy : Nat → ClassId} {ad : NT} {τ : IT} {ν : NT} {H H1 : Heap}
theorem CW.cell {τ' : IT} {ν' : NT} (h : CW D cy ad τ ν H) (hJ : wJ (cC (ν 0 0)) ad) (hν : ν' 0 0 = ν 0 0) (k i : Nat) (hi : i < cC (ν 0 0) k) {e : va_E} (hc : oA D (ad k i) e H1) (hu : hU (ad k i) H H1) (he : eC cy ad τ' ν' k i = e) (hr : ∀ k' i', i' < cC (ν 0 0) k' → ¬ (k' = k ∧ i' = i) → eC cy ad τ' ν' k' i' = eC cy ad τ ν k' i') : CW D cy ad τ' ν' H1 := by
  show wP D (cC (ν' 0 0)) ad _ H1
  rw [hν]
  exact wP.set h hJ k i hi hc hu he hr
theorem eC_sc {K : Nat} {v : Int32} (hK : K = 0 ∨ K = 1 ∨ K = 2 ∨ K = 3 ∨ K = 20) (k' i' : Nat) (h : ¬ k' = 0) : eC cy ad (up2 τ K 0 v) ν k' i' = eC cy ad τ ν k' i' := by
  rcases hK with rfl | rfl | rfl | rfl | rfl <;> (match k', h with
  | 0, h => exact absurd rfl h
  | 1, _ => rfl
  | 2, _ => rfl
  | 3, _ => rfl
  | 4, _ => rfl
  | 5, _ => rfl
  | 6, _ => rfl
  | 7, _ => rfl
  | 8, _ => rfl
  | 9, _ => rfl
  | 10, _ => rfl
  | _ + 11, _ => rfl)
theorem CW.sc {K : Nat} {v : Int32} (h : CW D cy ad τ ν H) (hJ : wJ (cC (ν 0 0)) ad) (hK : K = 0 ∨ K = 1 ∨ K = 2 ∨ K = 3 ∨ K = 20) (hc : oA D (ad 0 0) (eC cy ad (up2 τ K 0 v) ν 0 0) H1) (hu : hU (ad 0 0) H H1) : CW D cy ad (up2 τ K 0 v) ν H1 :=
  h.cell hJ rfl 0 0 Nat.zero_lt_one hc hu rfl (fun k' i' hi hne => eC_sc hK k' i' (fun e => hne ⟨e, by subst e; exact Nat.lt_one_iff.mp hi⟩))
theorem CW.ln {K v : Nat} (h : CW D cy ad τ ν H) (hJ : wJ (cC (ν 0 0)) ad) (hK : K = 1 ∨ K = 2) (hc : oA D (ad 1 0) (eC cy ad τ (up2 ν K 0 v) 1 0) H1) (hu : hU (ad 1 0) H H1) : CW D cy ad τ (up2 ν K 0 v) H1 := by
  refine h.cell hJ (up2_k (by omega)) 1 0 Nat.zero_lt_one hc hu rfl (fun k' i' hi hne => ?_)
  rcases hK with rfl | rfl <;> (match k', hi, hne with
  | 0, _, _ => rfl
  | 1, hi, hne => exact absurd ⟨rfl, Nat.lt_one_iff.mp hi⟩ hne
  | 2, _, _ => rfl
  | 3, _, _ => rfl
  | 4, _, _ => rfl
  | 5, _, _ => rfl
  | 6, _, _ => rfl
  | 7, _, _ => rfl
  | 8, _, _ => rfl
  | 9, _, _ => rfl
  | 10, _, _ => rfl
  | _ + 11, _, _ => rfl)
theorem CW.ch {q : Nat} {i v : Int32} (h : CW D cy ad τ ν H) (hJ : wJ (cC (ν 0 0)) ad) (hq : i.toNatClampNeg = q) (hc : oA D (ad 4 0) (.inl (cy 0, 30, .inl (upd (τ 6) i.toNatClampNeg v))) H1) (hu : hU (ad 4 0) H H1) : CW D cy ad (up2 τ 6 q v) ν H1 := by
  refine h.cell hJ rfl 4 0 Nat.zero_lt_one (hc.rowI (g := up2 τ 6 q v 6) fun j _ => ?_) hu rfl (fun k' i' hi hne => ?_)
  · subst hq
    by_cases e : j = i.toNatClampNeg <;> simp [upd, up2, e]
  match k', hi, hne with
  | 0, _, _ => rfl
  | 1, _, _ => rfl
  | 2, _, _ => rfl
  | 3, _, _ => rfl
  | 4, hi, hne => exact absurd ⟨rfl, Nat.lt_one_iff.mp hi⟩ hne
  | 5, _, _ => rfl
  | 6, _, _ => rfl
  | 7, _, _ => rfl
  | 8, _, _ => rfl
  | 9, _, _ => rfl
  | 10, _, _ => rfl
  | _ + 11, _, _ => rfl
theorem CW.st {q : Nat} {i v : Int32} (h : CW D cy ad τ ν H) (hJ : wJ (cC (ν 0 0)) ad) (hq : i.toNatClampNeg = q) (hc : oA D (ad 5 0) (.inl (cy 1, 30, .inl (upd (τ 22) i.toNatClampNeg v))) H1) (hu : hU (ad 5 0) H H1) : CW D cy ad (up2 τ 22 q v) ν H1 := by
  refine h.cell hJ rfl 5 0 Nat.zero_lt_one (hc.rowI (g := up2 τ 22 q v 22) fun j _ => ?_) hu rfl (fun k' i' hi hne => ?_)
  · subst hq
    by_cases e : j = i.toNatClampNeg <;> simp [upd, up2, e]
  match k', hi, hne with
  | 0, _, _ => rfl
  | 1, _, _ => rfl
  | 2, _, _ => rfl
  | 3, _, _ => rfl
  | 4, _, _ => rfl
  | 5, hi, hne => exact absurd ⟨rfl, Nat.lt_one_iff.mp hi⟩ hne
  | 6, _, _ => rfl
  | 7, _, _ => rfl
  | 8, _, _ => rfl
  | 9, _, _ => rfl
  | 10, _, _ => rfl
  | _ + 11, _, _ => rfl
theorem CW.h7 {i : Nat} {v : Int32} (h : CW D cy ad τ ν H) (hJ : wJ (cC (ν 0 0)) ad) (hi : i < 6) (hc : oA D (ad 6 i) (.inr (1, [.int v, .int (τ 8 i), .int (τ 9 i)])) H1) (hu : hU (ad 6 i) H H1) : CW D cy ad (up2 τ 7 i v) ν H1 := by
  refine h.cell hJ rfl 6 i hi hc hu (by simp only [eC, up2_s]; rfl) (fun k' i' hi hne => ?_)
  match k', hi, hne with
  | 0, _, _ => rfl
  | 1, _, _ => rfl
  | 2, _, _ => rfl
  | 3, _, _ => rfl
  | 4, _, _ => rfl
  | 5, _, _ => rfl
  | 6, _, hne => have hne2 : i' ≠ i := fun e => hne ⟨rfl, e⟩; simp only [eC, up2_i hne2]
  | 7, _, _ => rfl
  | 8, _, _ => rfl
  | 9, _, _ => rfl
  | 10, _, _ => rfl
  | _ + 11, _, _ => rfl
theorem CW.h8 {i : Nat} {v : Int32} (h : CW D cy ad τ ν H) (hJ : wJ (cC (ν 0 0)) ad) (hi : i < 6) (hc : oA D (ad 6 i) (.inr (1, [.int (τ 7 i), .int v, .int (τ 9 i)])) H1) (hu : hU (ad 6 i) H H1) : CW D cy ad (up2 τ 8 i v) ν H1 := by
  refine h.cell hJ rfl 6 i hi hc hu (by simp only [eC, up2_s]; rfl) (fun k' i' hi hne => ?_)
  match k', hi, hne with
  | 0, _, _ => rfl
  | 1, _, _ => rfl
  | 2, _, _ => rfl
  | 3, _, _ => rfl
  | 4, _, _ => rfl
  | 5, _, _ => rfl
  | 6, _, hne => have hne2 : i' ≠ i := fun e => hne ⟨rfl, e⟩; simp only [eC, up2_i hne2]
  | 7, _, _ => rfl
  | 8, _, _ => rfl
  | 9, _, _ => rfl
  | 10, _, _ => rfl
  | _ + 11, _, _ => rfl
theorem CW.h9 {i : Nat} {v : Int32} (h : CW D cy ad τ ν H) (hJ : wJ (cC (ν 0 0)) ad) (hi : i < 6) (hc : oA D (ad 6 i) (.inr (1, [.int (τ 7 i), .int (τ 8 i), .int v])) H1) (hu : hU (ad 6 i) H H1) : CW D cy ad (up2 τ 9 i v) ν H1 := by
  refine h.cell hJ rfl 6 i hi hc hu (by simp only [eC, up2_s]; rfl) (fun k' i' hi hne => ?_)
  match k', hi, hne with
  | 0, _, _ => rfl
  | 1, _, _ => rfl
  | 2, _, _ => rfl
  | 3, _, _ => rfl
  | 4, _, _ => rfl
  | 5, _, _ => rfl
  | 6, _, hne => have hne2 : i' ≠ i := fun e => hne ⟨rfl, e⟩; simp only [eC, up2_i hne2]
  | 7, _, _ => rfl
  | 8, _, _ => rfl
  | 9, _, _ => rfl
  | 10, _, _ => rfl
  | _ + 11, _, _ => rfl
theorem CW.g10 {i : Nat} {v : Int32} (h : CW D cy ad τ ν H) (hJ : wJ (cC (ν 0 0)) ad) (hi : i < ν 0 0) (hc : oA D (ad 7 i) (.inr (2, [.int (nI i), .ref (ad 6 (ν 5 i)), .ref (ad 8 i), .int (τ 15 i), .int v, .int (τ 11 i), .int (τ 12 i), .int (τ 13 i), .int (τ 14 i), .int (τ 25 i)])) H1) (hu : hU (ad 7 i) H H1) : CW D cy ad (up2 τ 10 i v) ν H1 := by
  refine h.cell hJ rfl 7 i hi hc hu (by simp only [eC, up2_s]; rfl) (fun k' i' hi hne => ?_)
  match k', hi, hne with
  | 0, _, _ => rfl
  | 1, _, _ => rfl
  | 2, _, _ => rfl
  | 3, _, _ => rfl
  | 4, _, _ => rfl
  | 5, _, _ => rfl
  | 6, _, _ => rfl
  | 7, _, hne => have hne2 : i' ≠ i := fun e => hne ⟨rfl, e⟩; simp only [eC, up2_i hne2]
  | 8, _, _ => rfl
  | 9, _, _ => rfl
  | 10, _, _ => rfl
  | _ + 11, _, _ => rfl
theorem CW.g11 {i : Nat} {v : Int32} (h : CW D cy ad τ ν H) (hJ : wJ (cC (ν 0 0)) ad) (hi : i < ν 0 0) (hc : oA D (ad 7 i) (.inr (2, [.int (nI i), .ref (ad 6 (ν 5 i)), .ref (ad 8 i), .int (τ 15 i), .int (τ 10 i), .int v, .int (τ 12 i), .int (τ 13 i), .int (τ 14 i), .int (τ 25 i)])) H1) (hu : hU (ad 7 i) H H1) : CW D cy ad (up2 τ 11 i v) ν H1 := by
  refine h.cell hJ rfl 7 i hi hc hu (by simp only [eC, up2_s]; rfl) (fun k' i' hi hne => ?_)
  match k', hi, hne with
  | 0, _, _ => rfl
  | 1, _, _ => rfl
  | 2, _, _ => rfl
  | 3, _, _ => rfl
  | 4, _, _ => rfl
  | 5, _, _ => rfl
  | 6, _, _ => rfl
  | 7, _, hne => have hne2 : i' ≠ i := fun e => hne ⟨rfl, e⟩; simp only [eC, up2_i hne2]
  | 8, _, _ => rfl
  | 9, _, _ => rfl
  | 10, _, _ => rfl
  | _ + 11, _, _ => rfl
theorem CW.g12 {i : Nat} {v : Int32} (h : CW D cy ad τ ν H) (hJ : wJ (cC (ν 0 0)) ad) (hi : i < ν 0 0) (hc : oA D (ad 7 i) (.inr (2, [.int (nI i), .ref (ad 6 (ν 5 i)), .ref (ad 8 i), .int (τ 15 i), .int (τ 10 i), .int (τ 11 i), .int v, .int (τ 13 i), .int (τ 14 i), .int (τ 25 i)])) H1) (hu : hU (ad 7 i) H H1) : CW D cy ad (up2 τ 12 i v) ν H1 := by
  refine h.cell hJ rfl 7 i hi hc hu (by simp only [eC, up2_s]; rfl) (fun k' i' hi hne => ?_)
  match k', hi, hne with
  | 0, _, _ => rfl
  | 1, _, _ => rfl
  | 2, _, _ => rfl
  | 3, _, _ => rfl
  | 4, _, _ => rfl
  | 5, _, _ => rfl
  | 6, _, _ => rfl
  | 7, _, hne => have hne2 : i' ≠ i := fun e => hne ⟨rfl, e⟩; simp only [eC, up2_i hne2]
  | 8, _, _ => rfl
  | 9, _, _ => rfl
  | 10, _, _ => rfl
  | _ + 11, _, _ => rfl
theorem CW.g13 {i : Nat} {v : Int32} (h : CW D cy ad τ ν H) (hJ : wJ (cC (ν 0 0)) ad) (hi : i < ν 0 0) (hc : oA D (ad 7 i) (.inr (2, [.int (nI i), .ref (ad 6 (ν 5 i)), .ref (ad 8 i), .int (τ 15 i), .int (τ 10 i), .int (τ 11 i), .int (τ 12 i), .int v, .int (τ 14 i), .int (τ 25 i)])) H1) (hu : hU (ad 7 i) H H1) : CW D cy ad (up2 τ 13 i v) ν H1 := by
  refine h.cell hJ rfl 7 i hi hc hu (by simp only [eC, up2_s]; rfl) (fun k' i' hi hne => ?_)
  match k', hi, hne with
  | 0, _, _ => rfl
  | 1, _, _ => rfl
  | 2, _, _ => rfl
  | 3, _, _ => rfl
  | 4, _, _ => rfl
  | 5, _, _ => rfl
  | 6, _, _ => rfl
  | 7, _, hne => have hne2 : i' ≠ i := fun e => hne ⟨rfl, e⟩; simp only [eC, up2_i hne2]
  | 8, _, _ => rfl
  | 9, _, _ => rfl
  | 10, _, _ => rfl
  | _ + 11, _, _ => rfl
theorem CW.g14 {i : Nat} {v : Int32} (h : CW D cy ad τ ν H) (hJ : wJ (cC (ν 0 0)) ad) (hi : i < ν 0 0) (hc : oA D (ad 7 i) (.inr (2, [.int (nI i), .ref (ad 6 (ν 5 i)), .ref (ad 8 i), .int (τ 15 i), .int (τ 10 i), .int (τ 11 i), .int (τ 12 i), .int (τ 13 i), .int v, .int (τ 25 i)])) H1) (hu : hU (ad 7 i) H H1) : CW D cy ad (up2 τ 14 i v) ν H1 := by
  refine h.cell hJ rfl 7 i hi hc hu (by simp only [eC, up2_s]; rfl) (fun k' i' hi hne => ?_)
  match k', hi, hne with
  | 0, _, _ => rfl
  | 1, _, _ => rfl
  | 2, _, _ => rfl
  | 3, _, _ => rfl
  | 4, _, _ => rfl
  | 5, _, _ => rfl
  | 6, _, _ => rfl
  | 7, _, hne => have hne2 : i' ≠ i := fun e => hne ⟨rfl, e⟩; simp only [eC, up2_i hne2]
  | 8, _, _ => rfl
  | 9, _, _ => rfl
  | 10, _, _ => rfl
  | _ + 11, _, _ => rfl
theorem CW.g25 {i : Nat} {v : Int32} (h : CW D cy ad τ ν H) (hJ : wJ (cC (ν 0 0)) ad) (hi : i < ν 0 0) (hc : oA D (ad 7 i) (.inr (2, [.int (nI i), .ref (ad 6 (ν 5 i)), .ref (ad 8 i), .int (τ 15 i), .int (τ 10 i), .int (τ 11 i), .int (τ 12 i), .int (τ 13 i), .int (τ 14 i), .int v])) H1) (hu : hU (ad 7 i) H H1) : CW D cy ad (up2 τ 25 i v) ν H1 := by
  refine h.cell hJ rfl 7 i hi hc hu (by simp only [eC, up2_s]; rfl) (fun k' i' hi hne => ?_)
  match k', hi, hne with
  | 0, _, _ => rfl
  | 1, _, _ => rfl
  | 2, _, _ => rfl
  | 3, _, _ => rfl
  | 4, _, _ => rfl
  | 5, _, _ => rfl
  | 6, _, _ => rfl
  | 7, _, hne => have hne2 : i' ≠ i := fun e => hne ⟨rfl, e⟩; simp only [eC, up2_i hne2]
  | 8, _, _ => rfl
  | 9, _, _ => rfl
  | 10, _, _ => rfl
  | _ + 11, _, _ => rfl
end CWS

set_option maxHeartbeats 4000000 in
set_option maxRecDepth 100000 in
/-- empty -/
theorem m_X0_empty (l : Launch) (D : va_G) (cy : Nat → ClassId) (sz : Nat) (ad : NT) (τ : IT) (ν : NT) (hJ : wJ (cC (ν 0 0)) ad) : Met l yX0_empty wsX0_empty ({ frames := 0, cells := 0, slots := 0, locals := 0 } : Room) (va_Pc [.ref (ad 1 0)] (fun U => gK D cy U ∧ (atSz sz (CW D cy ad τ ν)) U.heap)) (uQ none (CW D cy ad τ (up2 (up2 ν 1 0 0) 2 0 0)) (wA (cC (ν 0 0)) ad sz)) 0 0 (wA (cC (ν 0 0)) ad sz) := by
  refine Met.ofW (cc := cX0_empty) (maxL := 1) (ret := none) (by decide) rfl ?_
  intro p e s m args below meth c s₁ B9 hml hv
  obtain ⟨rfl, hK, hsz, hB⟩ := hv
  have hx := B9.exec
  have hb := B9.bytes
  have hr := B9.returns
  have hts := atoms_spec (ws := wsX0_empty) B9.pre
  have hown : s.vm.findClass RX0 = some m.cls := findClass_of_methodNamed B9.named
  have hlocks := B9.notSynchronized
  subst hsz
  have hS : va_S (wA (cC (ν 0 0)) ad s.heap.size) s.heap s.heap [] := va_S.rf
  have lk26 := hts (.fieldLink RX0 26 "Politecrawl$Address" "length" "I") (by decide +kernel)
  have inX0 : ∀ w ∈ u_ws RX0 TX0 4, w ∈ wsX0_empty := by decide +kernel
  have lk30 := hts (.fieldLink RX0 30 "Politecrawl$Address" "segmentCount" "I") (by decide +kernel)
  have hl := lv_entry ([.ref (ad 1 0)]) (n := 1) (Nat.le_of_ble_eq_true rfl)
  rw [lg_entry_eq]
  generalize (lg_sl ([.ref (ad 1 0)]) ++ List.replicate (1 - (lg_sl ([.ref (ad 1 0)])).length) Slot.unset).toArray = ls at hl ⊢
  have hl : lv_has ls 1 [(0, .ref (ad 1 0))] := hl
  refine lv_aload_n hx hb dX0_empty_0 rfl (lv_at hl 0 rfl) ?_
  refine lv_iconst (v := 0) hx hb dX0_empty_1 (by decide) ?_
  refine lv_topi (fun y1 ey1 => ?_)
  obtain rfl : y1 = nI 0 := ey1.trans (nI_0.symm)
  refine g_put (C := RX0) (T := TX0) (N := 4) (ci := 0) (fs := [.ref (ad 4 0), .ref (ad 5 0), .int (nI (ν 1 0)), .int (nI (ν 2 0))]) (A := (wA (cC (ν 0 0)) ad s.heap.size)) hx hb hts inX0 tyX0 tyX0_ok nmX0 hown hK (hB 1 0 Nat.zero_lt_one) rfl hS (wA.in (cn := cC (ν 0 0)) (k := 1) (i := 0) (Nat.zero_lt_one)) 2 (by decide) lk26 rfl rfl rfl rfl (Nat.le_of_ble_eq_true rfl) dX0_empty_2 (fun H1 locs1 hc1 hu1 hS1 => ?_)
  have hB1 : CW D cy ad τ (up2 ν 1 0 0) H1 := hB.ln hJ (by decide) hc1 hu1
  refine lv_aload_n hx hb dX0_empty_5 rfl (lv_at hl 0 rfl) ?_
  refine lv_iconst (v := 0) hx hb dX0_empty_6 (by decide) ?_
  refine lv_topi (fun y2 ey2 => ?_)
  obtain rfl : y2 = nI 0 := ey2.trans (nI_0.symm)
  refine g_put (C := RX0) (T := TX0) (N := 4) (ci := 0) (fs := [.ref (ad 4 0), .ref (ad 5 0), .int (nI ((up2 ν 1 0 0) 1 0)), .int (nI ((up2 ν 1 0 0) 2 0))]) (A := (wA (cC (ν 0 0)) ad s.heap.size)) hx hb hts inX0 tyX0 tyX0_ok nmX0 hown hK (hB1 1 0 Nat.zero_lt_one) rfl hS1 (wA.in (cn := cC (ν 0 0)) (k := 1) (i := 0) (Nat.zero_lt_one)) 3 (by decide) lk30 rfl rfl rfl rfl (Nat.le_of_ble_eq_true rfl) dX0_empty_7 (fun H2 locs2 hc2 hu2 hS2 => ?_)
  have hB2 : CW D cy ad τ (up2 (up2 ν 1 0 0) 2 0 0) H2 := hB1.ln hJ (by decide) hc2 hu2
  exact g_vretU hx hb hr hlocks hS2 hB2 (Nat.le_refl _) (Nat.le_refl _) dX0_empty_10

set_option maxHeartbeats 4000000 in
set_option maxRecDepth 100000 in
/-- startSegment -/
theorem m_X0_startSegment (l : Launch) (D : va_G) (cy : Nat → ClassId) (sz : Nat) (ad : NT) (τ : IT) (ν : NT) (hJ : wJ (cC (ν 0 0)) ad) (hs2 : ν 2 0 < 30) : Met l yX0_startSegment wsX0_startSegment ({ frames := 0, cells := 0, slots := 0, locals := 0 } : Room) (va_Pc [.ref (ad 1 0)] (fun U => gK D cy U ∧ (atSz sz (CW D cy ad τ ν)) U.heap)) (uQ none (CW D cy ad (up2 τ 22 (ν 2 0) (nI (ν 1 0))) (up2 ν 2 0 (ν 2 0 + 1))) (wA (cC (ν 0 0)) ad sz)) 0 0 (wA (cC (ν 0 0)) ad sz) := by
  refine Met.ofW (cc := cX0_startSegment) (maxL := 1) (ret := none) (by decide) rfl ?_
  intro p e s m args below meth c s₁ B9 hml hv
  obtain ⟨rfl, hK, hsz, hB⟩ := hv
  have hx := B9.exec
  have hb := B9.bytes
  have hr := B9.returns
  have hts := atoms_spec (ws := wsX0_startSegment) B9.pre
  have hown : s.vm.findClass RX0 = some m.cls := findClass_of_methodNamed B9.named
  have hlocks := B9.notSynchronized
  subst hsz
  have hS : va_S (wA (cC (ν 0 0)) ad s.heap.size) s.heap s.heap [] := va_S.rf
  have lk30 := hts (.fieldLink RX0 30 "Politecrawl$Address" "segmentCount" "I") (by decide +kernel)
  have inX0 : ∀ w ∈ u_ws RX0 TX0 4, w ∈ wsX0_startSegment := by decide +kernel
  have lk15 := hts (.fieldLink RX0 15 "Politecrawl$Address" "starts" "[I") (by decide +kernel)
  have lk26 := hts (.fieldLink RX0 26 "Politecrawl$Address" "length" "I") (by decide +kernel)
  have hl := lv_entry ([.ref (ad 1 0)]) (n := 1) (Nat.le_of_ble_eq_true rfl)
  rw [lg_entry_eq]
  generalize (lg_sl ([.ref (ad 1 0)]) ++ List.replicate (1 - (lg_sl ([.ref (ad 1 0)])).length) Slot.unset).toArray = ls at hl ⊢
  have hl : lv_has ls 1 [(0, .ref (ad 1 0))] := hl
  refine lv_aload_n hx hb dX0_startSegment_0 rfl (lv_at hl 0 rfl) ?_
  refine g_get (C := RX0) (T := TX0) (N := 4) (ci := 0) (fs := [.ref (ad 4 0), .ref (ad 5 0), .int (nI (ν 1 0)), .int (nI (ν 2 0))]) hx hb hts inX0 hown hK (hB 1 0 Nat.zero_lt_one) rfl 3 (by decide) lk30 rfl rfl dX0_startSegment_1 ?_
  refine lv_if_lt (tgt := 42) hx hb dX0_startSegment_4 (by decide) (fun c_4 => ?_) (fun c_4 => ?_)
  · -- 4 t
    exact absurd c_4 (nI_lt0 (by omega))
  · -- 4 f
    refine lv_aload_n hx hb dX0_startSegment_7 rfl (lv_at hl 0 rfl) ?_
    refine g_get (C := RX0) (T := TX0) (N := 4) (ci := 0) (fs := [.ref (ad 4 0), .ref (ad 5 0), .int (nI (ν 1 0)), .int (nI (ν 2 0))]) hx hb hts inX0 hown hK (hB 1 0 Nat.zero_lt_one) rfl 3 (by decide) lk30 rfl rfl dX0_startSegment_8 ?_
    refine lv_aload_n hx hb dX0_startSegment_11 rfl (lv_at hl 0 rfl) ?_
    refine g_get (C := RX0) (T := TX0) (N := 4) (ci := 0) (fs := [.ref (ad 4 0), .ref (ad 5 0), .int (nI (ν 1 0)), .int (nI (ν 2 0))]) hx hb hts inX0 hown hK (hB 1 0 Nat.zero_lt_one) rfl 1 (by decide) lk15 rfl rfl dX0_startSegment_12 ?_
    refine g_alen (v := 30) hx hb hK 1 (hB 5 0 Nat.zero_lt_one) rfl rfl dX0_startSegment_15 ?_
    refine lv_icmp_ge (tgt := 42) hx hb dX0_startSegment_16 (by decide) (fun c_16 => ?_) (fun c_16 => ?_)
    · -- 16 t
      exact absurd ((nI_leI (a := 30) (by decide) (by omega)).mp c_16) (by omega)
    · -- 16 f
      refine lv_aload_n hx hb dX0_startSegment_19 rfl (lv_at hl 0 rfl) ?_
      refine g_get (C := RX0) (T := TX0) (N := 4) (ci := 0) (fs := [.ref (ad 4 0), .ref (ad 5 0), .int (nI (ν 1 0)), .int (nI (ν 2 0))]) hx hb hts inX0 hown hK (hB 1 0 Nat.zero_lt_one) rfl 1 (by decide) lk15 rfl rfl dX0_startSegment_20 ?_
      refine lv_aload_n hx hb dX0_startSegment_23 rfl (lv_at hl 0 rfl) ?_
      refine g_get (C := RX0) (T := TX0) (N := 4) (ci := 0) (fs := [.ref (ad 4 0), .ref (ad 5 0), .int (nI (ν 1 0)), .int (nI (ν 2 0))]) hx hb hts inX0 hown hK (hB 1 0 Nat.zero_lt_one) rfl 3 (by decide) lk30 rfl rfl dX0_startSegment_24 ?_
      refine lv_aload_n hx hb dX0_startSegment_27 rfl (lv_at hl 0 rfl) ?_
      refine g_get (C := RX0) (T := TX0) (N := 4) (ci := 0) (fs := [.ref (ad 4 0), .ref (ad 5 0), .int (nI (ν 1 0)), .int (nI (ν 2 0))]) hx hb hts inX0 hown hK (hB 1 0 Nat.zero_lt_one) rfl 2 (by decide) lk26 rfl rfl dX0_startSegment_28 ?_
      refine g_iast (f := τ 22) (A := (wA (cC (ν 0 0)) ad s.heap.size)) hx hb hK (hB 5 0 Nat.zero_lt_one) hS (wA.in (cn := cC (ν 0 0)) (k := 5) (i := 0) (Nat.zero_lt_one)) (vp_in_nI (N := 30) hs2 (by decide)) dX0_startSegment_31 (fun H1 locs1 hc1 hu1 hS1 => ?_)
      have hB1 : CW D cy ad (up2 τ 22 (ν 2 0) (nI (ν 1 0))) ν H1 := hB.st hJ (cl_nI (by omega)) hc1 hu1
      obtain ⟨τ1, hs1⟩ : ∃ z : IT, z = up2 τ 22 (ν 2 0) (nI (ν 1 0)) := ⟨_, rfl⟩
      rw [← hs1] at hB1
      refine lv_aload_n hx hb dX0_startSegment_32 rfl (lv_at hl 0 rfl) ?_
      refine lv_dup hx hb dX0_startSegment_33 rfl ?_
      refine g_get (C := RX0) (T := TX0) (N := 4) (ci := 0) (fs := [.ref (ad 4 0), .ref (ad 5 0), .int (nI (ν 1 0)), .int (nI (ν 2 0))]) hx hb hts inX0 hown hK (hB1 1 0 Nat.zero_lt_one) rfl 3 (by decide) lk30 rfl rfl dX0_startSegment_34 ?_
      refine lv_iconst (v := 1) hx hb dX0_startSegment_37 (by decide) ?_
      refine lv_iadd hx hb dX0_startSegment_38 ?_
      refine lv_topi (fun y1 ey1 => ?_)
      obtain rfl : y1 = nI (ν 2 0 + 1) := ey1.trans (nI_1 _)
      refine g_put (C := RX0) (T := TX0) (N := 4) (ci := 0) (fs := [.ref (ad 4 0), .ref (ad 5 0), .int (nI (ν 1 0)), .int (nI (ν 2 0))]) (A := (wA (cC (ν 0 0)) ad s.heap.size)) hx hb hts inX0 tyX0 tyX0_ok nmX0 hown hK (hB1 1 0 Nat.zero_lt_one) rfl hS1 (wA.in (cn := cC (ν 0 0)) (k := 1) (i := 0) (Nat.zero_lt_one)) 3 (by decide) lk30 rfl rfl rfl rfl (Nat.le_of_ble_eq_true rfl) dX0_startSegment_39 (fun H2 locs2 hc2 hu2 hS2 => ?_)
      have hB2 : CW D cy ad τ1 (up2 ν 2 0 (ν 2 0 + 1)) H2 := hB1.ln hJ (by decide) hc2 hu2
      exact g_vretU hx hb hr hlocks hS2 (by rw [hs1] at hB2; exact hB2) (Nat.le_refl _) (Nat.le_refl _) dX0_startSegment_42


/-- a character is typed: the class's starts and segments -/
def startB (f : Nat → Int32) (n : Nat) (c : Int32) : Bool := decide (c ≠ 47) && (decide (n = 0) || decide (f (n - 1) = 47))
def addT (τ : IT) (ν : NT) (c : Int32) : IT := if startB (τ 6) (ν 1 0) c = true then up2 (up2 τ 22 (ν 2 0) (nI (ν 1 0))) 6 (ν 1 0) c else up2 τ 6 (ν 1 0) c
def addN (τ : IT) (ν : NT) (c : Int32) : NT := if startB (τ 6) (ν 1 0) c = true then up2 (up2 ν 2 0 (ν 2 0 + 1)) 1 0 (ν 1 0 + 1) else up2 ν 1 0 (ν 1 0 + 1)
theorem atI_pred {ch : Nat → Int32} {n : Nat} (hn : n < 30) : atI ch n (nI n - 1) = if n = 0 then 47 else ch (n - 1) := by
  by_cases h : n = 0
  · subst h; rw [if_pos rfl, atI, if_pos (by decide)]
  · obtain ⟨k, rfl⟩ : ∃ k, n = k + 1 := ⟨n - 1, by omega⟩
    rw [if_neg h, nI_pred, atI_nI (by omega), atN, if_pos (by omega), Nat.add_sub_cancel]

set_option maxHeartbeats 4000000 in
set_option maxRecDepth 100000 in
/-- add -/
theorem m_X0_add (l : Launch) (D : va_G) (cy : Nat → ClassId) (sz : Nat) (ad : NT) (τ : IT) (ν : NT) (hJ : wJ (cC (ν 0 0)) ad) (hl30 : ν 1 0 < 30) (hs2 : ν 2 0 < 30) (hch : chOK (τ 6)) (c0 : Int32) (hc0 : vp_nar .char c0 = c0) : Met l yX0_add wsX0_add ({ frames := 1, cells := 0, slots := 0, locals := 30 } : Room) (va_Pc [.ref (ad 1 0), .int c0] (fun U => gK D cy U ∧ (atSz sz (CW D cy ad τ ν)) U.heap)) (uQ none (CW D cy ad (addT τ ν c0) (addN τ ν c0)) (wA (cC (ν 0 0)) ad sz)) 0 0 (wA (cC (ν 0 0)) ad sz) := by
  refine Met.ofW (cc := cX0_add) (maxL := 2) (ret := none) (by decide) rfl ?_
  intro p e s m args below meth c s₁ B9 hml hv
  obtain ⟨rfl, hK, hsz, hB⟩ := hv
  have hx := B9.exec
  have hb := B9.bytes
  have hr := B9.returns
  have hts := atoms_spec (ws := wsX0_add) B9.pre
  have hown : s.vm.findClass RX0 = some m.cls := findClass_of_methodNamed B9.named
  have hlocks := B9.notSynchronized
  subst hsz
  have hS : va_S (wA (cC (ν 0 0)) ad s.heap.size) s.heap s.heap [] := va_S.rf
  have lk26 := hts (.fieldLink RX0 26 "Politecrawl$Address" "length" "I") (by decide +kernel)
  have inX0 : ∀ w ∈ u_ws RX0 TX0 4, w ∈ wsX0_add := by decide +kernel
  have lk9 := hts (.fieldLink RX0 9 "Politecrawl$Address" "characters" "[C") (by decide +kernel)
  have hl := lv_entry ([.ref (ad 1 0), .int c0]) (n := 2) (Nat.le_of_ble_eq_true rfl)
  rw [lg_entry_eq]
  generalize (lg_sl ([.ref (ad 1 0), .int c0]) ++ List.replicate (2 - (lg_sl ([.ref (ad 1 0), .int c0])).length) Slot.unset).toArray = ls at hl ⊢
  have hl : lv_has ls 2 [(0, .ref (ad 1 0)), (1, .int c0)] := hl
  refine lv_aload_n hx hb dX0_add_0 rfl (lv_at hl 0 rfl) ?_
  refine g_get (C := RX0) (T := TX0) (N := 4) (ci := 0) (fs := [.ref (ad 4 0), .ref (ad 5 0), .int (nI (ν 1 0)), .int (nI (ν 2 0))]) hx hb hts inX0 hown hK (hB 1 0 Nat.zero_lt_one) rfl 2 (by decide) lk26 rfl rfl dX0_add_1 ?_
  refine lv_if_lt (tgt := 19) hx hb dX0_add_4 (by decide) (fun c_4 => ?_) (fun c_4 => ?_)
  · -- 4 t
    exact absurd c_4 (nI_lt0 (by omega))
  · -- 4 f
    refine lv_aload_n hx hb dX0_add_7 rfl (lv_at hl 0 rfl) ?_
    refine g_get (C := RX0) (T := TX0) (N := 4) (ci := 0) (fs := [.ref (ad 4 0), .ref (ad 5 0), .int (nI (ν 1 0)), .int (nI (ν 2 0))]) hx hb hts inX0 hown hK (hB 1 0 Nat.zero_lt_one) rfl 2 (by decide) lk26 rfl rfl dX0_add_8 ?_
    refine lv_aload_n hx hb dX0_add_11 rfl (lv_at hl 0 rfl) ?_
    refine g_get (C := RX0) (T := TX0) (N := 4) (ci := 0) (fs := [.ref (ad 4 0), .ref (ad 5 0), .int (nI (ν 1 0)), .int (nI (ν 2 0))]) hx hb hts inX0 hown hK (hB 1 0 Nat.zero_lt_one) rfl 0 (by decide) lk9 rfl rfl dX0_add_12 ?_
    refine g_alen (v := 30) hx hb hK 0 (hB 4 0 Nat.zero_lt_one) rfl rfl dX0_add_15 ?_
    refine lv_icmp_lt (tgt := 20) hx hb dX0_add_16 (by decide) (fun c_16 => ?_) (fun c_16 => ?_)
    · -- 16 t
      refine lv_iload_n hx hb dX0_add_20 rfl (lv_at hl 1 rfl) ?_
      refine lv_bipush (v := 47) hx hb dX0_add_21 (by decide) ?_
      refine lv_icmp_eq (tgt := 45) hx hb dX0_add_23 (by decide) (fun c_23 => ?_) (fun c_23 => ?_)
      · -- 23 t
        have sb : startB (τ 6) (ν 1 0) c0 = false := by rw [startB, decide_eq_false (fun h => h c_23), Bool.false_and]
        refine lv_aload_n hx hb dX0_add_45 rfl (lv_at hl 0 rfl) ?_
        refine g_get (C := RX0) (T := TX0) (N := 4) (ci := 0) (fs := [.ref (ad 4 0), .ref (ad 5 0), .int (nI (ν 1 0)), .int (nI (ν 2 0))]) hx hb hts inX0 hown hK (hB 1 0 Nat.zero_lt_one) rfl 0 (by decide) lk9 rfl rfl dX0_add_46 ?_
        refine lv_aload_n hx hb dX0_add_49 rfl (lv_at hl 0 rfl) ?_
        refine g_get (C := RX0) (T := TX0) (N := 4) (ci := 0) (fs := [.ref (ad 4 0), .ref (ad 5 0), .int (nI (ν 1 0)), .int (nI (ν 2 0))]) hx hb hts inX0 hown hK (hB 1 0 Nat.zero_lt_one) rfl 2 (by decide) lk26 rfl rfl dX0_add_50 ?_
        refine lv_topi (fun y1 ey1 => ?_)
        obtain rfl : y1 = nI (ν 1 0) := ey1.trans (rfl)
        refine lv_iload_n hx hb dX0_add_53 rfl (lv_at hl 1 rfl) ?_
        refine g_cast (f := τ 6) (A := (wA (cC (ν 0 0)) ad s.heap.size)) hx hb hK (hB 4 0 Nat.zero_lt_one) hS (wA.in (cn := cC (ν 0 0)) (k := 4) (i := 0) (Nat.zero_lt_one)) (vp_in_nI (N := 30) (show _ < 30 from hl30) (by decide)) hc0 dX0_add_54 (fun H1 locs1 hc1 hu1 hS1 => ?_)
        have hB1 : CW D cy ad (up2 τ 6 (ν 1 0) c0) ν H1 := hB.ch hJ (cl_nI (by omega)) hc1 hu1
        obtain ⟨τ1, hs1⟩ : ∃ z : IT, z = up2 τ 6 (ν 1 0) c0 := ⟨_, rfl⟩
        rw [← hs1] at hB1
        refine lv_aload_n hx hb dX0_add_55 rfl (lv_at hl 0 rfl) ?_
        refine lv_dup hx hb dX0_add_56 rfl ?_
        refine g_get (C := RX0) (T := TX0) (N := 4) (ci := 0) (fs := [.ref (ad 4 0), .ref (ad 5 0), .int (nI (ν 1 0)), .int (nI (ν 2 0))]) hx hb hts inX0 hown hK (hB1 1 0 Nat.zero_lt_one) rfl 2 (by decide) lk26 rfl rfl dX0_add_57 ?_
        refine lv_iconst (v := 1) hx hb dX0_add_60 (by decide) ?_
        refine lv_iadd hx hb dX0_add_61 ?_
        refine lv_topi (fun y2 ey2 => ?_)
        obtain rfl : y2 = nI (ν 1 0 + 1) := ey2.trans (nI_1 _)
        refine g_put (C := RX0) (T := TX0) (N := 4) (ci := 0) (fs := [.ref (ad 4 0), .ref (ad 5 0), .int (nI (ν 1 0)), .int (nI (ν 2 0))]) (A := (wA (cC (ν 0 0)) ad s.heap.size)) hx hb hts inX0 tyX0 tyX0_ok nmX0 hown hK (hB1 1 0 Nat.zero_lt_one) rfl hS1 (wA.in (cn := cC (ν 0 0)) (k := 1) (i := 0) (Nat.zero_lt_one)) 2 (by decide) lk26 rfl rfl rfl rfl (Nat.le_of_ble_eq_true rfl) dX0_add_62 (fun H2 locs2 hc2 hu2 hS2 => ?_)
        have hB2 : CW D cy ad τ1 (up2 ν 1 0 (ν 1 0 + 1)) H2 := hB1.ln hJ (by decide) hc2 hu2
        exact g_vretU hx hb hr hlocks hS2 (by rw [addT, addN, if_neg (by rw [sb]; decide), if_neg (by rw [sb]; decide)]; rw [hs1] at hB2; exact hB2) (Nat.le_refl _) (Nat.le_refl _) dX0_add_65
      · -- 23 f
        refine lv_aload_n hx hb dX0_add_26 rfl (lv_at hl 0 rfl) ?_
        refine lv_aload_n hx hb dX0_add_27 rfl (lv_at hl 0 rfl) ?_
        refine g_get (C := RX0) (T := TX0) (N := 4) (ci := 0) (fs := [.ref (ad 4 0), .ref (ad 5 0), .int (nI (ν 1 0)), .int (nI (ν 2 0))]) hx hb hts inX0 hown hK (hB 1 0 Nat.zero_lt_one) rfl 2 (by decide) lk26 rfl rfl dX0_add_28 ?_
        refine lv_iconst (v := 1) hx hb dX0_add_31 (by decide) ?_
        refine lv_isub hx hb dX0_add_32 ?_
        refine g_csr (va_runV (As := [.int ((nI (ν 1 0)) - 1)]) (rest := []) ⟨hx, hb, hml, hown, hts⟩ (m_X0_at l D cy (ad 1 0) (ad 4 0) (ad 5 0) (τ 6) (τ 22) (ν 1 0) (ν 2 0) (Nat.le_of_lt hl30) hch ((nI (ν 1 0)) - 1)) (cwV 1 hts gX0_add_X0_at rfl rfl rfl (by decide +kernel) ⟨Nat.le_of_ble_eq_true rfl, Nat.le_of_ble_eq_true rfl⟩) (g_preV (C := RX0) (B := (pA D cy (ad 1 0) (ad 4 0) (ad 5 0) (τ 6) (τ 22) (ν 1 0) (ν 2 0))) hK hB.buf (hB 1 0 Nat.zero_lt_one) rfl) rfl rfl hl.1 rfl (lv_room (Nat.le_of_ble_eq_true rfl)) dX0_add_33 ⟨Nat.zero_le _, Nat.zero_le _⟩) ?_
        refine lv_bipush (v := 47) hx hb dX0_add_36 (by decide) ?_
        refine lv_icmp_ne (tgt := 45) hx hb dX0_add_38 (by decide) (fun c_38 => ?_) (fun c_38 => ?_)
        · -- 38 t
          rw [atI_pred hl30] at c_38
          have sb : startB (τ 6) (ν 1 0) c0 = false := by rw [startB, Bool.and_eq_false_iff]; right; rw [Bool.or_eq_false_iff]; refine ⟨decide_eq_false fun e => c_38 (if_pos e), decide_eq_false fun e => c_38 ?_⟩; by_cases z : ν 1 0 = 0; exact if_pos z; rw [if_neg z]; exact e
          refine lv_aload_n hx hb dX0_add_45 rfl (lv_at hl 0 rfl) ?_
          refine g_get (C := RX0) (T := TX0) (N := 4) (ci := 0) (fs := [.ref (ad 4 0), .ref (ad 5 0), .int (nI (ν 1 0)), .int (nI (ν 2 0))]) hx hb hts inX0 hown hK (hB 1 0 Nat.zero_lt_one) rfl 0 (by decide) lk9 rfl rfl dX0_add_46 ?_
          refine lv_aload_n hx hb dX0_add_49 rfl (lv_at hl 0 rfl) ?_
          refine g_get (C := RX0) (T := TX0) (N := 4) (ci := 0) (fs := [.ref (ad 4 0), .ref (ad 5 0), .int (nI (ν 1 0)), .int (nI (ν 2 0))]) hx hb hts inX0 hown hK (hB 1 0 Nat.zero_lt_one) rfl 2 (by decide) lk26 rfl rfl dX0_add_50 ?_
          refine lv_topi (fun y3 ey3 => ?_)
          obtain rfl : y3 = nI (ν 1 0) := ey3.trans (rfl)
          refine lv_iload_n hx hb dX0_add_53 rfl (lv_at hl 1 rfl) ?_
          refine g_cast (f := τ 6) (A := (wA (cC (ν 0 0)) ad s.heap.size)) hx hb hK (hB 4 0 Nat.zero_lt_one) hS (wA.in (cn := cC (ν 0 0)) (k := 4) (i := 0) (Nat.zero_lt_one)) (vp_in_nI (N := 30) (show _ < 30 from hl30) (by decide)) hc0 dX0_add_54 (fun H3 locs3 hc3 hu3 hS3 => ?_)
          have hB3 : CW D cy ad (up2 τ 6 (ν 1 0) c0) ν H3 := hB.ch hJ (cl_nI (by omega)) hc3 hu3
          obtain ⟨τ3, hs3⟩ : ∃ z : IT, z = up2 τ 6 (ν 1 0) c0 := ⟨_, rfl⟩
          rw [← hs3] at hB3
          refine lv_aload_n hx hb dX0_add_55 rfl (lv_at hl 0 rfl) ?_
          refine lv_dup hx hb dX0_add_56 rfl ?_
          refine g_get (C := RX0) (T := TX0) (N := 4) (ci := 0) (fs := [.ref (ad 4 0), .ref (ad 5 0), .int (nI (ν 1 0)), .int (nI (ν 2 0))]) hx hb hts inX0 hown hK (hB3 1 0 Nat.zero_lt_one) rfl 2 (by decide) lk26 rfl rfl dX0_add_57 ?_
          refine lv_iconst (v := 1) hx hb dX0_add_60 (by decide) ?_
          refine lv_iadd hx hb dX0_add_61 ?_
          refine lv_topi (fun y4 ey4 => ?_)
          obtain rfl : y4 = nI (ν 1 0 + 1) := ey4.trans (nI_1 _)
          refine g_put (C := RX0) (T := TX0) (N := 4) (ci := 0) (fs := [.ref (ad 4 0), .ref (ad 5 0), .int (nI (ν 1 0)), .int (nI (ν 2 0))]) (A := (wA (cC (ν 0 0)) ad s.heap.size)) hx hb hts inX0 tyX0 tyX0_ok nmX0 hown hK (hB3 1 0 Nat.zero_lt_one) rfl hS3 (wA.in (cn := cC (ν 0 0)) (k := 1) (i := 0) (Nat.zero_lt_one)) 2 (by decide) lk26 rfl rfl rfl rfl (Nat.le_of_ble_eq_true rfl) dX0_add_62 (fun H4 locs4 hc4 hu4 hS4 => ?_)
          have hB4 : CW D cy ad τ3 (up2 ν 1 0 (ν 1 0 + 1)) H4 := hB3.ln hJ (by decide) hc4 hu4
          exact g_vretU hx hb hr hlocks hS4 (by rw [addT, addN, if_neg (by rw [sb]; decide), if_neg (by rw [sb]; decide)]; rw [hs3] at hB4; exact hB4) (Nat.le_refl _) (Nat.le_refl _) dX0_add_65
        · -- 38 f
          rw [atI_pred hl30] at c_38
          have sb : startB (τ 6) (ν 1 0) c0 = true := by rw [startB, decide_eq_true c_23, Bool.true_and]; by_cases z : ν 1 0 = 0; exact (by rw [decide_eq_true z]; rfl); rw [if_neg z] at c_38; rw [decide_eq_true c_38, Bool.or_true]
          refine lv_aload_n hx hb dX0_add_41 rfl (lv_at hl 0 rfl) ?_
          refine g_cu0 (va_runV (As := []) (rest := []) ⟨hx, hb, hml, hown, hts⟩ (m_X0_startSegment l D cy s.heap.size ad τ ν hJ hs2) (cwV 0 hts gX0_add_X0_startSegment rfl rfl rfl (by decide +kernel) ⟨Nat.le_of_ble_eq_true rfl, Nat.le_of_ble_eq_true rfl⟩) (g_preV (C := RX0) (B := atSz s.heap.size (CW D cy ad τ ν)) hK ⟨rfl, hB⟩ (hB 1 0 Nat.zero_lt_one) rfl) rfl rfl hl.1 rfl (lv_room (Nat.le_of_ble_eq_true rfl)) dX0_add_42 ⟨Nat.zero_le _, Nat.zero_le _⟩) hS (fun q _ h => wA.mono hS.1 h) (fun q h => wA.mono hS.1 h) (fun H5 locs5 hB5 hz5 hk5 hS5 => ?_)
          obtain ⟨τ5, hs5⟩ : ∃ z : IT, z = up2 τ 22 (ν 2 0) (nI (ν 1 0)) := ⟨_, rfl⟩
          rw [← hs5] at hB5
          refine lv_aload_n hx hb dX0_add_45 rfl (lv_at hl 0 rfl) ?_
          refine g_get (C := RX0) (T := TX0) (N := 4) (ci := 0) (fs := [.ref (ad 4 0), .ref (ad 5 0), .int (nI ((up2 ν 2 0 (ν 2 0 + 1)) 1 0)), .int (nI ((up2 ν 2 0 (ν 2 0 + 1)) 2 0))]) hx hb hts inX0 hown hK (hB5 1 0 Nat.zero_lt_one) rfl 0 (by decide) lk9 rfl rfl dX0_add_46 ?_
          refine lv_aload_n hx hb dX0_add_49 rfl (lv_at hl 0 rfl) ?_
          refine g_get (C := RX0) (T := TX0) (N := 4) (ci := 0) (fs := [.ref (ad 4 0), .ref (ad 5 0), .int (nI ((up2 ν 2 0 (ν 2 0 + 1)) 1 0)), .int (nI ((up2 ν 2 0 (ν 2 0 + 1)) 2 0))]) hx hb hts inX0 hown hK (hB5 1 0 Nat.zero_lt_one) rfl 2 (by decide) lk26 rfl rfl dX0_add_50 ?_
          refine lv_topi (fun y5 ey5 => ?_)
          obtain rfl : y5 = nI (ν 1 0) := ey5.trans (rfl)
          refine lv_iload_n hx hb dX0_add_53 rfl (lv_at hl 1 rfl) ?_
          refine g_cast (f := τ5 6) (A := (wA (cC (ν 0 0)) ad s.heap.size)) hx hb hK (hB5 4 0 Nat.zero_lt_one) hS5 (wA.in (cn := cC (ν 0 0)) (k := 4) (i := 0) (Nat.zero_lt_one)) (vp_in_nI (N := 30) (show _ < 30 from hl30) (by decide)) hc0 dX0_add_54 (fun H6 locs6 hc6 hu6 hS6 => ?_)
          have hB6 : CW D cy ad (up2 τ5 6 (ν 1 0) c0) (up2 ν 2 0 (ν 2 0 + 1)) H6 := hB5.ch hJ (cl_nI (by omega)) hc6 hu6
          obtain ⟨τ6, hs6⟩ : ∃ z : IT, z = up2 τ5 6 (ν 1 0) c0 := ⟨_, rfl⟩
          rw [← hs6] at hB6
          refine lv_aload_n hx hb dX0_add_55 rfl (lv_at hl 0 rfl) ?_
          refine lv_dup hx hb dX0_add_56 rfl ?_
          refine g_get (C := RX0) (T := TX0) (N := 4) (ci := 0) (fs := [.ref (ad 4 0), .ref (ad 5 0), .int (nI ((up2 ν 2 0 (ν 2 0 + 1)) 1 0)), .int (nI ((up2 ν 2 0 (ν 2 0 + 1)) 2 0))]) hx hb hts inX0 hown hK (hB6 1 0 Nat.zero_lt_one) rfl 2 (by decide) lk26 rfl rfl dX0_add_57 ?_
          refine lv_iconst (v := 1) hx hb dX0_add_60 (by decide) ?_
          refine lv_iadd hx hb dX0_add_61 ?_
          refine lv_topi (fun y6 ey6 => ?_)
          obtain rfl : y6 = nI (ν 1 0 + 1) := ey6.trans (nI_1 _)
          refine g_put (C := RX0) (T := TX0) (N := 4) (ci := 0) (fs := [.ref (ad 4 0), .ref (ad 5 0), .int (nI ((up2 ν 2 0 (ν 2 0 + 1)) 1 0)), .int (nI ((up2 ν 2 0 (ν 2 0 + 1)) 2 0))]) (A := (wA (cC (ν 0 0)) ad s.heap.size)) hx hb hts inX0 tyX0 tyX0_ok nmX0 hown hK (hB6 1 0 Nat.zero_lt_one) rfl hS6 (wA.in (cn := cC (ν 0 0)) (k := 1) (i := 0) (Nat.zero_lt_one)) 2 (by decide) lk26 rfl rfl rfl rfl (Nat.le_of_ble_eq_true rfl) dX0_add_62 (fun H7 locs7 hc7 hu7 hS7 => ?_)
          have hB7 : CW D cy ad τ6 (up2 (up2 ν 2 0 (ν 2 0 + 1)) 1 0 (ν 1 0 + 1)) H7 := hB6.ln hJ (by decide) hc7 hu7
          exact g_vretU hx hb hr hlocks hS7 (by rw [addT, addN, if_pos sb, if_pos sb]; rw [hs6, hs5] at hB7; exact hB7) (Nat.le_refl _) (Nat.le_refl _) dX0_add_65
    · -- 16 f
      exact absurd ((nI_ltI (b := 30) (by omega) (by decide)).mpr hl30) c_16

set_option maxHeartbeats 4000000 in
set_option maxRecDepth 100000 in
/-- restFrom -/
theorem m_X1_restFrom (l : Launch) (D : va_G) (cy : Nat → ClassId) (sz : Nat) (ad : NT) (τ : IT) (ν : NT) (hJ : wJ (cC (ν 0 0)) ad) (h9 : Nat) (hh9 : h9 < 6) (now : Int32) : Met l yX1_restFrom wsX1_restFrom ({ frames := 1, cells := 0, slots := 0, locals := 21 } : Room) (va_Pc [.ref (ad 6 h9), .int now] (fun U => gK D cy U ∧ (atSz sz (CW D cy ad τ ν)) U.heap)) (uQ none (CW D cy ad (up2 τ 9 h9 (now + τ 7 h9 <<< (mn (τ 8 h9) 5 &&& 31))) ν) (wA (cC (ν 0 0)) ad sz)) 0 0 (wA (cC (ν 0 0)) ad sz) := by
  refine Met.ofW (cc := cX1_restFrom) (maxL := 2) (ret := none) (by decide) rfl ?_
  intro p e s m args below meth c s₁ B9 hml hv
  obtain ⟨rfl, hK, hsz, hB⟩ := hv
  have hx := B9.exec
  have hb := B9.bytes
  have hr := B9.returns
  have hts := atoms_spec (ws := wsX1_restFrom) B9.pre
  have hown : s.vm.findClass RX1 = some m.cls := findClass_of_methodNamed B9.named
  have hlocks := B9.notSynchronized
  subst hsz
  have hS : va_S (wA (cC (ν 0 0)) ad s.heap.size) s.heap s.heap [] := va_S.rf
  have lk9 := hts (.fieldLink RX1 9 "Politecrawl$Host" "rest" "I") (by decide +kernel)
  have inX1 : ∀ w ∈ u_ws RX1 TX1 3, w ∈ wsX1_restFrom := by decide +kernel
  have lk15 := hts (.fieldLink RX1 15 "Politecrawl$Host" "failures" "I") (by decide +kernel)
  have lk24 := hts (.fieldLink RX1 24 "Politecrawl$Host" "openFrom" "I") (by decide +kernel)
  have hl := lv_entry ([.ref (ad 6 h9), .int now]) (n := 2) (Nat.le_of_ble_eq_true rfl)
  rw [lg_entry_eq]
  generalize (lg_sl ([.ref (ad 6 h9), .int now]) ++ List.replicate (2 - (lg_sl ([.ref (ad 6 h9), .int now])).length) Slot.unset).toArray = ls at hl ⊢
  have hl : lv_has ls 2 [(0, .ref (ad 6 h9)), (1, .int now)] := hl
  refine lv_aload_n hx hb dX1_restFrom_0 rfl (lv_at hl 0 rfl) ?_
  refine lv_iload_n hx hb dX1_restFrom_1 rfl (lv_at hl 1 rfl) ?_
  refine lv_aload_n hx hb dX1_restFrom_2 rfl (lv_at hl 0 rfl) ?_
  refine g_get (C := RX1) (T := TX1) (N := 3) (ci := 1) (fs := [.int (τ 7 h9), .int (τ 8 h9), .int (τ 9 h9)]) hx hb hts inX1 hown hK (hB 6 h9 hh9) rfl 0 (by decide) lk9 rfl rfl dX1_restFrom_3 ?_
  refine lv_aload_n hx hb dX1_restFrom_6 rfl (lv_at hl 0 rfl) ?_
  refine g_get (C := RX1) (T := TX1) (N := 3) (ci := 1) (fs := [.int (τ 7 h9), .int (τ 8 h9), .int (τ 9 h9)]) hx hb hts inX1 hown hK (hB 6 h9 hh9) rfl 1 (by decide) lk15 rfl rfl dX1_restFrom_7 ?_
  refine lv_iconst (v := 5) hx hb dX1_restFrom_10 (by decide) ?_
  refine va_mmin hx hb (by rw [hml]; exact hl.1.symm) hown (hts (.methodLink RX1 18 Lib.Math.min.name) (by decide +kernel)) (hts (.static Lib.Math.min.name) (by decide +kernel)) (hts (.initialized "java/lang/Math") (by decide +kernel)) (hts (.code Lib.Math.min.name Lib.Math.min.code 2 (some .int)) (by decide +kernel)) (Nat.le_of_ble_eq_true rfl) (Nat.le_of_ble_eq_true rfl) (Nat.zero_le _) (Nat.zero_le _) dX1_restFrom_11 ?_
  refine lv_ishl hx hb dX1_restFrom_14 ?_
  refine lv_iadd hx hb dX1_restFrom_15 ?_
  refine g_put (C := RX1) (T := TX1) (N := 3) (ci := 1) (fs := [.int (τ 7 h9), .int (τ 8 h9), .int (τ 9 h9)]) (A := (wA (cC (ν 0 0)) ad s.heap.size)) hx hb hts inX1 tyX1 tyX1_ok nmX1 hown hK (hB 6 h9 hh9) rfl hS (wA.in (cn := cC (ν 0 0)) (k := 6) (i := h9) (hh9)) 2 (by decide) lk24 rfl rfl rfl rfl (Nat.le_of_ble_eq_true rfl) dX1_restFrom_16 (fun H1 locs1 hc1 hu1 hS1 => ?_)
  have hB1 : CW D cy ad (up2 τ 9 h9 (now + ((τ 7 h9) <<< ((if 5 < (τ 8 h9) then 5 else (τ 8 h9)) &&& 31)))) ν H1 := hB.h9 hJ (hh9) hc1 hu1
  obtain ⟨τ1, hs1⟩ : ∃ z : IT, z = up2 τ 9 h9 (now + ((τ 7 h9) <<< ((if 5 < (τ 8 h9) then 5 else (τ 8 h9)) &&& 31))) := ⟨_, rfl⟩
  rw [← hs1] at hB1
  exact g_vretU hx hb hr hlocks hS1 (by rw [hs1] at hB1; exact hB1) (Nat.le_refl _) (Nat.le_refl _) dX1_restFrom_19
