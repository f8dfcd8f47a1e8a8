/-! the law: find, caught -/
def fdR (ν : NT) : Option Nat → Bool
  | some _ => true
  | none => decide (ν 0 0 < 30)
theorem fdR_f {ν : NT} {x : Option Nat} (h : x = none) (g : ν 0 0 = 30) : fdR ν x = false := by subst h; exact decide_eq_false (by omega)
theorem fdR_t {ν : NT} {x : Option Nat} (h : x ≠ none ∨ ν 0 0 < 30) : fdR ν x = true := by
  cases x with
  | some a => rfl
  | none => exact decide_eq_true (h.elim (fun z => absurd rfl z) id)
theorem fdB_off {D : va_G} {cy : Nat → ClassId} {ad : NT} {τ : IT} {ν : NT} {r : Int32} {h sz o : Nat} {x : Option Nat} {H H1 : Heap} (hB : fdB D cy ad τ ν r h sz x H) (hu : hU o H H1) (ho : ∀ k i, i < cC (ν 0 0) k → ad k i ≠ o) (hlt : o < sz) : fdB D cy ad τ ν r h sz x H1 := by
  cases x with
  | some a => exact wP.kept (show CW D cy ad τ ν H from hB) (fun k i hi => hu.2 _ (ho k i hi))
  | none =>
    obtain ⟨p, b, c, t, h1, h2, h3, h4, h5, hW⟩ := hB
    refine ⟨p, b, c, t, h1, h2, h3, h4, h5, wP.kept (show wP D _ _ _ H from hW) (fun k i hi => hu.2 _ ?_)⟩
    rcases cC_up (show i < cC (ν 0 0 + 1) k from hi) with ⟨hh, g⟩ | ⟨hk, rfl⟩
    · rw [fdAd_old g]; exact ho k i hh
    · rcases hk with rfl | rfl | rfl | rfl <;> simp [fdAd] <;> omega
theorem xc_preV {D : va_G} {cy : Nat → ClassId} {s : State} {H : Heap} {C : String} {T : u_T} {N : Nat} {b ci : Nat} {fs : List Value} {As : List Value} {A9 : Nat → Prop} {B : Heap → Prop} (hK : gK D cy s) (hX : xK A9 s H) (hC : cK s) (hB : B H) (hc : oA D b (.inr (ci, fs)) H) (hcl : vwCl[ci]? = some (C, T, N)) : PreV s H C b (va_Pc (.ref b :: As) (fun U => gK D cy U ∧ xK A9 U U.heap ∧ cK U ∧ B U.heap)) As :=
  ⟨fun a U g mk q => ⟨q.1, va_K.moved (u := U) (U := U.calling g mk a) (Vm.Alike.refl U.vm) q.2.1, xK.same (u := U) (U := U.calling g mk a) rfl q.2.2.1, ⟨va_Nw.same (u := U) rfl rfl q.2.2.2.1.1, va_Nw.same (u := U) rfl rfl q.2.2.2.1.2⟩, q.2.2.2.2⟩, va_recv (q := (C, T, N)) hK (g1 hc) hcl (q0 := 0) rfl, fun U hU hW => ⟨rfl, va_K.moved hW.alike hK, by rw [hU]; exact xK.warm hW hX, ⟨va_Nw.warmC hW hC.1, va_Nw.warmC hW hC.2⟩, by rw [hU]; exact hB⟩⟩

set_option maxHeartbeats 4000000 in
set_option maxRecDepth 100000 in
/-- the law: find, caught -/
theorem m_L_find (l : Launch) (hl9 : l.stackTraces = false) (D : va_G) (cy : Nat → ClassId) (A9 : Nat → Prop) (sz : Nat) (ad : NT) (τ : IT) (ν : NT) (hJ : wJ (cC (ν 0 0)) ad) (o : Nat) (ho : ∀ k i, i < cC (ν 0 0) k → ad k i ≠ o) (x0 : Int64) (hI : CI τ ν) (hfc : ∀ j, j < 30 → fits .char (.int (τ 6 j)) = true) (h r : Int32) : Met l yL_find wsL_find ({ frames := 10, cells := 6, slots := 86, locals := 230 } : Room) (va_Pc [.ref (ad 0 0), .int h, .int r, .ref o] (fun U => gK D cy U ∧ yK A9 U U.heap ∧ cK U ∧ (atSz sz (WO D cy ad τ ν o x0)) U.heap)) (uQ (some (.int (k3 (hostB h) (inB r 0 9) (fdR ν (pabL τ ν h.toNatClampNeg 30 0))))) (fun H => (if k3 (hostB h) (inB r 0 9) (fdR ν (pabL τ ν h.toNatClampNeg 30 0)) = 0 then fdB D cy ad τ ν r h.toNatClampNeg sz (pabL τ ν h.toNatClampNeg 30 0) H else CW D cy ad τ ν H) ∧ ∃ f : Nat → Int64, f 0 = (if k3 (hostB h) (inB r 0 9) (fdR ν (pabL τ ν h.toNatClampNeg 30 0)) = 0 then (fdAns ν (pabL τ ν h.toNatClampNeg 30 0)).toInt64 else x0) ∧ oA D o (.inl (cy 5, 1, .inr (.inl f))) H) (wO (ν 0 0) ad o sz)) 6 86 (wO (ν 0 0) ad o sz) := by
  refine w_ofWH (cc := cL_find) (maxL := 5) (ret := (some .int)) (hh := [(0, 10, 13, 21), (0, 10, 17, 13), (0, 10, 21, 15)]) (by decide) rfl ?_
  intro p e s m args below meth c s₁ B9 hml hv
  obtain ⟨rfl, hK, hY9, hC9, hsz, hB, f0, hf0, hO⟩ := hv
  have hB : CW D cy ad τ ν s.heap := hB
  subst hsz
  have hx := B9.exec
  have hb := B9.bytes
  have hr := B9.returns
  have hts := atoms_spec (ws := wsL_find) B9.pre
  have hown : s.vm.findClass RL = some m.cls := findClass_of_methodNamed B9.named
  have hlocks := B9.notSynchronized
  have htab := vx_table (x := yL_find) B9 (hts (.codeWith yL_find cL_find 5 (some .int) [(0, 10, 13, 21), (0, 10, 17, 13), (0, 10, 21, 15)]) (by decide +kernel))
  have hno : ¬ wA (cC (ν 0 0)) ad s.heap.size o := fun z => z.elim (fun y => by obtain ⟨k, i, hi, e⟩ := y; exact ho k i hi e) (fun y => absurd (va_at.lt hO) (Nat.not_lt.mpr y))
  have hl := lv_entry ([.ref (ad 0 0), .int h, .int r, .ref o]) (n := 5) (Nat.le_of_ble_eq_true rfl)
  rw [lg_entry_eq]
  generalize (lg_sl ([.ref (ad 0 0), .int h, .int r, .ref o]) ++ List.replicate (5 - (lg_sl ([.ref (ad 0 0), .int h, .int r, .ref o])).length) Slot.unset).toArray = ls at hl ⊢
  have hl : lv_has ls 5 [(0, .ref (ad 0 0)), (1, .int h), (2, .int r), (3, .ref o)] := hl
  refine lv_aload_n hx hb dL_find_0 rfl (lv_at hl 3 rfl) ?_
  refine lv_iconst (v := 0) hx hb dL_find_1 (by decide) ?_
  refine lv_aload_n hx hb dL_find_2 rfl (lv_at hl 0 rfl) ?_
  refine lv_iload_n hx hb dL_find_3 rfl (lv_at hl 1 rfl) ?_
  refine lv_iload_n hx hb dL_find_4 rfl (lv_at hl 2 rfl) ?_
  refine w_call1 (vx_runV (As := [.int h, .int r]) (rest := [.int 0, .ref o]) ⟨hx, hb, hml, hown, hts⟩ (m_X3_find l hl9 D cy A9 s.heap.size ad τ ν hJ hI hfc h r) (cwV 2 hts gL_find_X3_find rfl rfl rfl (by decide +kernel) ⟨Nat.le_of_ble_eq_true rfl, Nat.le_of_ble_eq_true rfl⟩) (xc_preV (C := RX3) (B := atSz s.heap.size (CW D cy ad τ ν)) hK hY9.1 hC9 ⟨rfl, hB⟩ (hB 0 0 Nat.zero_lt_one) rfl) rfl rfl hl.1 rfl (lv_room (Nat.le_of_ble_eq_true rfl)) dL_find_5 ⟨Nat.le_of_ble_eq_true rfl, Nat.le_of_ble_eq_true rfl⟩) (fun E ce q9 H1 locs1 hPE hz1 hk1 hL1 hce hcv hcl => ?_) (fun hok H1 locs1 hB1 hz1 hk1 hL1 => ?_)
  · have hS1 : va_S (wO (ν 0 0) ad o s.heap.size) s.heap H1 locs1 := ⟨hz1, fun q h1 _ => hk1 q h1, (fun z hz => Or.inl (hL1 z hz))⟩
    have hB1 : CW D cy ad τ ν H1 := hB.keep hk1
    have hO1 := hO.keep hk1
    rcases hPE with hPE | hPE
    · obtain ⟨w1, rfl⟩ := hPE
      refine vx_catch (own := RL) (name := xcI) hown [] ⟨0, 10, 13, 21⟩ [⟨0, 10, 17, 13⟩, ⟨0, 10, 21, 15⟩] (by rw [htab]; rfl) (fun z hz => nomatch hz) (by decide) (by decide) (hts (.classLink RL 21 xcI) (by decide +kernel)) (va_Nw.use rfl (hY9.1.2.2.1 xcI (by decide))) hce hcv hcl ?_
      have hkk : k3 (hostB h) (inB r 0 9) (fdR ν (pabL τ ν h.toNatClampNeg 30 0)) = 1 := k3_1 w1
      refine lv_astore (lv' := [(4, .ref q9), (0, .ref (ad 0 0)), (1, .int h), (2, .int r), (3, .ref o)]) hx hb dL_find_13 hl (by decide) rfl (fun ls hl => ?_)
      refine lv_iconst (v := 1) hx hb dL_find_15 (by decide) ?_
      exact g_iretU hx hb hr hlocks hS1 ⟨by rw [if_neg (by rw [hkk]; decide)]; exact hB1, f0, by rw [if_neg (by rw [hkk]; decide)]; exact hf0, hO1⟩ (Nat.le_of_ble_eq_true rfl) (Nat.le_of_ble_eq_true rfl) dL_find_16 hkk.symm
    rcases hPE with hPE | hPE
    · obtain ⟨w1, w2, rfl⟩ := hPE
      refine vx_catch (own := RL) (name := xcA) hown [⟨0, 10, 13, 21⟩] ⟨0, 10, 17, 13⟩ [⟨0, 10, 21, 15⟩] (by rw [htab]; rfl) (fun z hz => (List.mem_cons.mp hz).elim (fun e => by subst e; exact Or.inr ⟨by decide, xcI, hts (.classLink RL 21 xcI) (by decide +kernel), hY9.2.1⟩) (fun hz => nomatch hz)) (by decide) (by decide) (hts (.classLink RL 13 xcA) (by decide +kernel)) (va_Nw.use rfl (hY9.1.2.2.1 xcA (by decide))) hce hcv hcl ?_
      have hkk : k3 (hostB h) (inB r 0 9) (fdR ν (pabL τ ν h.toNatClampNeg 30 0)) = 2 := k3_2 w1 w2
      refine lv_astore (lv' := [(4, .ref q9), (0, .ref (ad 0 0)), (1, .int h), (2, .int r), (3, .ref o)]) hx hb dL_find_17 hl (by decide) rfl (fun ls hl => ?_)
      refine lv_iconst (v := 2) hx hb dL_find_19 (by decide) ?_
      exact g_iretU hx hb hr hlocks hS1 ⟨by rw [if_neg (by rw [hkk]; decide)]; exact hB1, f0, by rw [if_neg (by rw [hkk]; decide)]; exact hf0, hO1⟩ (Nat.le_of_ble_eq_true rfl) (Nat.le_of_ble_eq_true rfl) dL_find_20 hkk.symm
    · obtain ⟨w1, w2, w3, w4, rfl⟩ := hPE
      refine vx_catch (own := RL) (name := xcL) hown [⟨0, 10, 13, 21⟩, ⟨0, 10, 17, 13⟩] ⟨0, 10, 21, 15⟩ [] (by rw [htab]; rfl) (fun z hz => (List.mem_cons.mp hz).elim (fun e => by subst e; exact Or.inr ⟨by decide, xcI, hts (.classLink RL 21 xcI) (by decide +kernel), hY9.2.2.1⟩) (fun hz => (List.mem_cons.mp hz).elim (fun e => by subst e; exact Or.inr ⟨by decide, xcA, hts (.classLink RL 13 xcA) (by decide +kernel), hY9.2.2.2⟩) (fun hz => nomatch hz))) (by decide) (by decide) (hts (.classLink RL 15 xcL) (by decide +kernel)) (va_Nw.use rfl (hY9.1.2.2.1 xcL (by decide))) hce hcv hcl ?_
      have hkk : k3 (hostB h) (inB r 0 9) (fdR ν (pabL τ ν h.toNatClampNeg 30 0)) = 3 := k3_3 w1 w2 (fdR_f w3 w4)
      refine lv_astore (lv' := [(4, .ref q9), (0, .ref (ad 0 0)), (1, .int h), (2, .int r), (3, .ref o)]) hx hb dL_find_21 hl (by decide) rfl (fun ls hl => ?_)
      refine lv_iconst (v := 3) hx hb dL_find_23 (by decide) ?_
      exact g_iretU hx hb hr hlocks hS1 ⟨by rw [if_neg (by rw [hkk]; decide)]; exact hB1, f0, by rw [if_neg (by rw [hkk]; decide)]; exact hf0, hO1⟩ (Nat.le_of_ble_eq_true rfl) (Nat.le_of_ble_eq_true rfl) dL_find_24 hkk.symm
  · have hk0 : k3 (hostB h) (inB r 0 9) (fdR ν (pabL τ ν h.toNatClampNeg 30 0)) = 0 := k3_0 hok.1 hok.2.1 (fdR_t hok.2.2)
    have hS1 : va_S (wO (ν 0 0) ad o s.heap.size) s.heap H1 locs1 := ⟨hz1, fun q h1 h2 => hk1 q h1 (fun z => h2 (Or.inl z)), (fun z hz => Or.inl (hL1 z hz))⟩
    have hO1 : oA D o (.inl (cy 5, 1, .inr (.inl f0))) H1 := va_at.kept hO (hk1 o (va_at.lt hO) hno)
    have hB1 : fdB D cy ad τ ν r h.toNatClampNeg s.heap.size (pabL τ ν h.toNatClampNeg 30 0) H1 := hB1
    refine lv_i2l hx hb dL_find_8 rfl ?_
    refine g_last (A := (wO (ν 0 0) ad o s.heap.size)) (f := f0) hx hb hK hO1 hS1 (Or.inr rfl) w_in dL_find_9 (fun H2 locs2 hO2 hu2 hS2 => ?_)
    have hB2 := fdB_off hB1 hu2 ho (va_at.lt hO)
    refine lv_goto (tgt := 25) hx hb dL_find_10 (by decide) ?_
    refine lv_iconst (v := 0) hx hb dL_find_25 (by decide) ?_
    exact g_iretU hx hb hr hlocks hS2 ⟨by rw [if_pos hk0]; exact hB2, _, by rw [if_pos hk0]; rfl, hO2⟩ (Nat.le_of_ble_eq_true rfl) (Nat.le_of_ble_eq_true rfl) dL_find_26 hk0.symm
