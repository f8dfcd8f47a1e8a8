/-! Politecrawl: find -/
theorem pabL_lt {τ : IT} {ν : NT} {h : Nat} : ∀ (k i : Nat) {a : Nat}, pabL τ ν h k i = some a → a < ν 0 0 := by
  intro k
  induction k with
  | zero => intro i a e; cases e
  | succ k ih =>
    intro i a e
    rw [pabL] at e
    by_cases q : i < ν 0 0 ∧ ν 5 i = h ∧ sameC τ ν i = true
    · rw [if_pos q] at e; cases e; exact q.1
    · rw [if_neg q] at e; exact ih _ e
theorem pabL_lt30 {τ : IT} {ν : NT} {h a : Nat} (e : pabL τ ν h 30 0 = some a) : a < ν 0 0 := pabL_lt 30 0 e
theorem cA4_sub {b a1 a4 a5 sz : Nat} {P : Nat → Prop} (h1 : P b) (h2 : P a1) (h3 : P a4) (h4 : P a5) (h5 : ∀ q, sz ≤ q → P q) : ∀ q, cA4 b a1 a4 a5 sz q → P q := by
  intro q z
  rcases z with z | z | z | z | z
  · rw [z]; exact h1
  · rw [z]; exact h2
  · rw [z]; exact h3
  · rw [z]; exact h4
  · exact h5 q z
theorem c_preS {D : va_G} {cy : Nat → ClassId} {s : State} {H : Heap} {As : List Value} {B : Heap → Prop} (hK : gK D cy s) (hC : cK s) (hB : B H) : PreS s H (va_Pc As (fun U => gK D cy U ∧ cK U ∧ B U.heap)) As :=
  ⟨fun a U g mk q => ⟨q.1, va_K.moved (u := U) (U := U.calling g mk a) (Vm.Alike.refl U.vm) q.2.1, ⟨va_Nw.same (u := U) rfl rfl q.2.2.1.1, va_Nw.same (u := U) rfl rfl q.2.2.1.2⟩, q.2.2.2⟩, fun U hU hW => ⟨rfl, va_K.moved hW.alike hK, ⟨va_Nw.warmC hW hC.1, va_Nw.warmC hW hC.2⟩, by rw [hU]; exact hB⟩⟩
def fdAns (ν : NT) : Option Nat → Int32
  | some x => nI x
  | none => nI (ν 0 0)
def fdB (D : va_G) (cy : Nat → ClassId) (ad : NT) (τ : IT) (ν : NT) (r : Int32) (h sz : Nat) : Option Nat → Heap → Prop
  | some _ => fun H => CW D cy ad τ ν H
  | none => fun H => ∃ p b c t : Nat, sz ≤ p ∧ p < b ∧ b < c ∧ b < t ∧ c ≠ t ∧ CW D cy (fdAd ad (ν 0 0) p b c t) (fdTC τ ν r) (fdNC ν h) H

set_option maxRecDepth 100000 in
theorem xm_X3_find_xcL : ∀ w ∈ (vx_atS "Politecrawl" 54 xcL xnm).filter goodWord, w ∈ wsX3_find := by decide +kernel
set_option maxHeartbeats 4000000 in
set_option maxRecDepth 100000 in
/-- find -/
theorem m_X3_find (l : Launch) (hl9 : l.stackTraces = false) (D : va_G) (cy : Nat → ClassId) (A9 : Nat → Prop) (sz : Nat) (ad : NT) (τ : IT) (ν : NT) (hJ : wJ (cC (ν 0 0)) ad) (hI : CI τ ν) (hfc : ∀ j, j < 30 → fits .char (.int (τ 6 j)) = true) (h r : Int32) : vx_Met l yX3_find wsX3_find ({ frames := 8, cells := 6, slots := 86, locals := 170 } : Room) (va_Pc [.ref (ad 0 0), .int h, .int r] (fun U => gK D cy U ∧ xK A9 U U.heap ∧ cK U ∧ (atSz sz (CW D cy ad τ ν)) U.heap)) (kQ (hostB h = true ∧ inB r 0 9 = true ∧ (pabL τ ν h.toNatClampNeg 30 0 ≠ none ∨ ν 0 0 < 30)) (uQ (some (.int (fdAns ν (pabL τ ν h.toNatClampNeg 30 0)))) (fdB D cy ad τ ν r h.toNatClampNeg sz (pabL τ ν h.toNatClampNeg 30 0)) (wA (cC (ν 0 0)) ad sz))) (xQ (fun E => (hostB h = false ∧ E = xcI) ∨ (hostB h = true ∧ inB r 0 9 = false ∧ E = xcA) ∨ (hostB h = true ∧ inB r 0 9 = true ∧ pabL τ ν h.toNatClampNeg 30 0 = none ∧ ν 0 0 = 30 ∧ E = xcL))) 6 86 (wA (cC (ν 0 0)) ad sz) := by
  refine vx_ofW (cc := cX3_find) (maxL := 6) (ret := (some .int)) (by decide) rfl ?_
  intro p e s m args below meth c s₁ B9 hml ht9 hv
  obtain ⟨rfl, hK, hX9, hC9, hsz, hB⟩ := hv
  have hx := B9.exec
  have hb := B9.bytes
  have hr := B9.returns
  have hts := atoms_spec (ws := wsX3_find) B9.pre
  have hown : s.vm.findClass RX3 = some m.cls := findClass_of_methodNamed B9.named
  have hlocks := B9.notSynchronized
  subst hsz
  have hS : va_S (wA (cC (ν 0 0)) ad s.heap.size) s.heap s.heap [] := va_S.rf
  have lk100 := hts (.fieldLink RX3 100 "Politecrawl$Page" "number" "I") (by decide +kernel)
  have inX2 : ∀ w ∈ u_ws RX2 TX2 10, w ∈ wsX3_find := by decide +kernel
  have lk103 := hts (.fieldLink RX3 103 "Politecrawl" "foundCount" "I") (by decide +kernel)
  have inX3 : ∀ w ∈ u_ws RX3 TX3 9, w ∈ wsX3_find := by decide +kernel
  have lk25 := hts (.fieldLink RX3 25 "Politecrawl" "found" "[LPolitecrawl$Page;") (by decide +kernel)
  have inX0 : ∀ w ∈ u_ws RX0 TX0 4, w ∈ wsX3_find := by decide +kernel
  have lk10 := hts (.fieldLink RX3 10 "Politecrawl" "buffer" "LPolitecrawl$Address;") (by decide +kernel)
  have lk111 := hts (.fieldLink RX3 111 "Politecrawl" "tick" "I") (by decide +kernel)
  have hl := lv_entry ([.ref (ad 0 0), .int h, .int r]) (n := 6) (Nat.le_of_ble_eq_true rfl)
  rw [lg_entry_eq]
  generalize (lg_sl ([.ref (ad 0 0), .int h, .int r]) ++ List.replicate (6 - (lg_sl ([.ref (ad 0 0), .int h, .int r])).length) Slot.unset).toArray = ls at hl ⊢
  have hl : lv_has ls 6 [(0, .ref (ad 0 0)), (1, .int h), (2, .int r)] := hl
  have hn30 := hI.1
  refine lv_aload_n hx hb dX3_find_0 rfl (lv_at hl 0 rfl) ?_
  refine lv_iload_n hx hb dX3_find_1 rfl (lv_at hl 1 rfl) ?_
  refine x_call1 (vx_runV (As := [.int h]) (rest := []) ⟨hx, hb, hml, hown, hts⟩ (m_X3_knownHost l hl9 D cy A9 ad τ ν h) (cwV 1 hts gX3_find_X3_knownHost rfl rfl rfl (by decide +kernel) ⟨Nat.le_of_ble_eq_true rfl, Nat.le_of_ble_eq_true rfl⟩) (x_preV (C := RX3) (B := CW D cy ad τ ν) hK hX9 hB (hB 0 0 Nat.zero_lt_one) rfl) rfl rfl hl.1 rfl (lv_room (Nat.le_of_ble_eq_true rfl)) dX3_find_2 ⟨Nat.le_of_ble_eq_true rfl, Nat.le_of_ble_eq_true rfl⟩) hlocks ht9 (fun E hE => Or.inl hE) (Nat.le_of_ble_eq_true rfl) (Nat.le_of_ble_eq_true rfl) (fun hk9 => ?_)
  obtain ⟨q0, hq0, eh⟩ := idx_host hk9
  have ec : h.toNatClampNeg = q0 := by rw [eh, cl_nI (by omega)]
  refine g_top (v' := .ref (ad 6 q0)) (by rw [ec]) ?_
  refine lv_astore_n (lv' := [(3, .ref (ad 6 q0)), (0, .ref (ad 0 0)), (1, .int h), (2, .int r)]) hx hb dX3_find_5 rfl hl (by decide) rfl (fun ls hl => ?_)
  refine lv_iload_n hx hb dX3_find_6 rfl (lv_at hl 3 rfl) ?_
  refine x_call0 (vx_runS (As := [.int r]) (rest := []) ⟨hx, hb, hml, hown, hts⟩ (m_X3_refuseOtherRanks l hl9 D cy A9 ad τ ν r) (va_cwS 1 hts gX3_find_X3_refuseOtherRanks rfl rfl rfl (by decide +kernel) ⟨Nat.le_of_ble_eq_true rfl, Nat.le_of_ble_eq_true rfl⟩) (x_preS (B := CW D cy ad τ ν) hK hX9 hB) rfl rfl hl.1 rfl (lv_room (Nat.le_of_ble_eq_true rfl)) dX3_find_7 ⟨Nat.le_of_ble_eq_true rfl, Nat.le_of_ble_eq_true rfl⟩) hlocks ht9 (fun E hE => Or.inr (Or.inl ⟨hk9, hE⟩)) (Nat.le_of_ble_eq_true rfl) (Nat.le_of_ble_eq_true rfl) (fun hr9 => ?_)
  refine lv_aload_n hx hb dX3_find_10 rfl (lv_at hl 1 rfl) ?_
  refine lv_aload_n hx hb dX3_find_11 rfl (lv_at hl 0 rfl) ?_
  refine g_csr (va_runV (As := [.ref (ad 6 q0)]) (rest := []) ⟨hx, hb, hml, hown, hts⟩ (m_X3_pageAtBuffer l D cy ad τ ν hI hJ q0 hq0) (cwV 1 hts gX3_find_X3_pageAtBuffer rfl rfl rfl (by decide +kernel) ⟨Nat.le_of_ble_eq_true rfl, Nat.le_of_ble_eq_true rfl⟩) (g_preV (C := RX3) (B := (CW D cy ad τ ν)) hK hB (hB 0 0 Nat.zero_lt_one) rfl) rfl rfl hl.1 rfl (lv_room (Nat.le_of_ble_eq_true rfl)) dX3_find_12 ⟨Nat.le_of_ble_eq_true rfl, Nat.le_of_ble_eq_true rfl⟩) ?_
  rcases hpab : pabL τ ν q0 30 0 with _ | x0
  · -- n
    refine g_top (v' := .null) rfl ?_
    refine lv_astoreN (lv' := [(4, .null), (3, .ref (ad 6 q0)), (0, .ref (ad 0 0)), (1, .int h), (2, .int r)]) hx hb dX3_find_15 hl (by decide) rfl (fun ls hl => ?_)
    refine lv_aloadN hx hb dX3_find_17 (lv_at hl 0 rfl) ?_
    refine lv_ifnullN (tgt := 28) hx hb dX3_find_19 (by decide) ?_
    refine lv_aload_n hx hb dX3_find_28 rfl (lv_at hl 2 rfl) ?_
    refine g_get (C := RX3) (T := TX3) (N := 9) (ci := 3) (fs := [.ref (ad 1 0), .ref (ad 2 0), .ref (ad 3 0), .int (nI (ν 0 0)), .int (τ 0 0), .int (τ 1 0), .int (τ 2 0), .int (τ 3 0), .int (τ 20 0)]) hx hb hts inX3 hown hK (hB 0 0 Nat.zero_lt_one) rfl 3 (by decide) lk103 rfl rfl dX3_find_29 ?_
    refine lv_istore (lv' := [(5, .int (nI (ν 0 0))), (4, .null), (3, .ref (ad 6 q0)), (0, .ref (ad 0 0)), (1, .int h), (2, .int r)]) hx hb dX3_find_32 hl (by decide) rfl (fun ls hl => ?_)
    refine lv_iload hx hb dX3_find_34 (lv_at hl 0 rfl) ?_
    refine lv_if_lt (tgt := 49) hx hb dX3_find_36 (by decide) (fun c_36 => ?_) (fun c_36 => ?_)
    · -- 36 t
      exact absurd c_36 (nI_lt0 (by omega))
    · -- 36 f
      refine lv_iload hx hb dX3_find_39 (lv_at hl 0 rfl) ?_
      refine lv_aload_n hx hb dX3_find_41 rfl (lv_at hl 3 rfl) ?_
      refine g_get (C := RX3) (T := TX3) (N := 9) (ci := 3) (fs := [.ref (ad 1 0), .ref (ad 2 0), .ref (ad 3 0), .int (nI (ν 0 0)), .int (τ 0 0), .int (τ 1 0), .int (τ 2 0), .int (τ 3 0), .int (τ 20 0)]) hx hb hts inX3 hown hK (hB 0 0 Nat.zero_lt_one) rfl 2 (by decide) lk25 rfl rfl dX3_find_42 ?_
      refine g_alen (v := 30) hx hb hK 4 (hB 3 0 Nat.zero_lt_one) rfl rfl dX3_find_45 ?_
      refine lv_icmp_lt (tgt := 59) hx hb dX3_find_46 (by decide) (fun c_46 => ?_) (fun c_46 => ?_)
      · -- 46 t
        have hn29 : ν 0 0 < 30 := (nI_ltI (b := 30) (by omega) (by decide)).mp c_46
        refine lv_aload_n hx hb dX3_find_59 rfl (lv_at hl 3 rfl) ?_
        refine g_get (C := RX3) (T := TX3) (N := 9) (ci := 3) (fs := [.ref (ad 1 0), .ref (ad 2 0), .ref (ad 3 0), .int (nI (ν 0 0)), .int (τ 0 0), .int (τ 1 0), .int (τ 2 0), .int (τ 3 0), .int (τ 20 0)]) hx hb hts inX3 hown hK (hB 0 0 Nat.zero_lt_one) rfl 2 (by decide) lk25 rfl rfl dX3_find_60 ?_
        refine lv_iload hx hb dX3_find_63 (lv_at hl 0 rfl) ?_
        have lt0 : ad 0 0 < s.heap.size := wP.lt hB (k := 0) (i := 0) Nat.zero_lt_one
        have lt1 : ad 1 0 < s.heap.size := wP.lt hB (k := 1) (i := 0) Nat.zero_lt_one
        have lt2 : ad 2 0 < s.heap.size := wP.lt hB (k := 2) (i := 0) Nat.zero_lt_one
        have lt3 : ad 3 0 < s.heap.size := wP.lt hB (k := 3) (i := 0) Nat.zero_lt_one
        have lt4 : ad 4 0 < s.heap.size := wP.lt hB (k := 4) (i := 0) Nat.zero_lt_one
        have lt5 : ad 5 0 < s.heap.size := wP.lt hB (k := 5) (i := 0) Nat.zero_lt_one
        have ltA : ∀ k i, i < cC (ν 0 0) k → ad k i < s.heap.size := fun k i hi => wP.lt hB hi
        refine g_new (D := D) (cy := cy) (C := RX2) (T := TX2) (N := 10) (ci := 2) (index := 23) (fs := [.int 0, .null, .null, .int 0, .int 0, .int 0, .int 0, .int 0, .int 0, .int 0]) hx hb hts inX2 tyX2 tyX2_ok hown (hts (.classLink RX3 23 RX2) (by decide +kernel)) (hts (.instantiable RX2 10) (by decide +kernel)) (hts (.initialized RX2) (by decide +kernel)) hK hS rfl (fun j hj => by match j, hj with | 0, _ => rfl | 1, _ => rfl | 2, _ => rfl | 3, _ => rfl | 4, _ => rfl | 5, _ => rfl | 6, _ => rfl | 7, _ => rfl | 8, _ => rfl | 9, _ => rfl | _ + 10, h => exact absurd h (by omega)) (Nat.le_of_ble_eq_true rfl) (Nat.le_of_ble_eq_true rfl) dX3_find_65 (fun p9 H901 e901 hp9 z901 o901 hS901 => ?_)
        have hB901 : CW D cy ad τ ν H901 := hB.keep o901
        refine lv_dup hx hb dX3_find_68 rfl ?_
        refine lv_iload hx hb dX3_find_69 (lv_at hl 0 rfl) ?_
        refine lv_aload_n hx hb dX3_find_71 rfl (lv_at hl 2 rfl) ?_
        refine g_new (D := D) (cy := cy) (C := RX0) (T := TX0) (N := 4) (ci := 0) (index := 7) (fs := [.null, .null, .int 0, .int 0]) hx hb hts inX0 tyX0 tyX0_ok hown (hts (.classLink RX3 7 RX0) (by decide +kernel)) (hts (.instantiable RX0 4) (by decide +kernel)) (hts (.initialized RX0) (by decide +kernel)) hK hS901 rfl (fun j hj => by match j, hj with | 0, _ => rfl | 1, _ => rfl | 2, _ => rfl | 3, _ => rfl | _ + 4, h => exact absurd h (by omega)) (Nat.le_of_ble_eq_true rfl) (Nat.le_of_ble_eq_true rfl) dX3_find_72 (fun b9 H902 e902 hb9 z902 o902 hS902 => ?_)
        have hB902 : CW D cy ad τ ν H902 := hB901.keep o902
        have hp902 := oA.keep hp9 o902
        refine lv_dup hx hb dX3_find_75 rfl ?_
        refine lv_aload_n hx hb dX3_find_76 rfl (lv_at hl 3 rfl) ?_
        refine g_get (C := RX3) (T := TX3) (N := 9) (ci := 3) (fs := [.ref (ad 1 0), .ref (ad 2 0), .ref (ad 3 0), .int (nI (ν 0 0)), .int (τ 0 0), .int (τ 1 0), .int (τ 2 0), .int (τ 3 0), .int (τ 20 0)]) hx hb hts inX3 hown hK (hB902 0 0 Nat.zero_lt_one) rfl 0 (by decide) lk10 rfl rfl dX3_find_77 ?_
        refine g_cu0 (va_runI (As := [.ref (ad 1 0)]) (rest := [.ref b9, .ref (ad 6 q0), .int (nI (ν 0 0)), .ref p9, .ref p9, .int (nI (ν 0 0)), .ref (ad 3 0)]) ⟨hx, hb, hml, hown, hts⟩ (m_X0_init_ l D cy H902.size b9 (ad 1 0) (ad 4 0) (ad 5 0) (τ 6) (τ 22) (ν 1 0) (ν 2 0) (by omega) (by omega) (by omega) (fun z => absurd (hJ 4 0 1 0 Nat.zero_lt_one Nat.zero_lt_one z).1 (by decide)) (fun z => absurd (hJ 5 0 1 0 Nat.zero_lt_one Nat.zero_lt_one z).1 (by decide)) (fun z => absurd (hJ 5 0 4 0 Nat.zero_lt_one Nat.zero_lt_one z).1 (by decide)) hfc) (cwI 1 hts gX3_find_X0_init_ rfl rfl rfl (hts (.initialized RX0) (by decide +kernel)) (hts (.methodLink RX3 108 yX0_init_) (by decide +kernel)) (hts (.instanceMethod yX0_init_) (by decide +kernel)) rfl (by decide +kernel) ⟨Nat.le_of_ble_eq_true rfl, Nat.le_of_ble_eq_true rfl⟩) (c_preS (As := [.ref b9, .ref (ad 1 0)]) (B := atSz H902.size (fun H => oA D b9 (.inr (0, [.null, .null, .int 0, .int 0])) H ∧ pA D cy (ad 1 0) (ad 4 0) (ad 5 0) (τ 6) (τ 22) (ν 1 0) (ν 2 0) H)) hK hC9 ⟨rfl, hb9, hB902.buf⟩) rfl rfl hl.1 rfl (lv_room (Nat.le_of_ble_eq_true rfl)) dX3_find_80 ⟨Nat.le_of_ble_eq_true rfl, Nat.le_of_ble_eq_true rfl⟩) hS902 (fun x _ hx => (cA4_sub (P := wA (cC (ν 0 0)) ad s.heap.size) (Or.inr (by omega)) (wA.in (k := 1) (i := 0) Nat.zero_lt_one) (wA.in (k := 4) (i := 0) Nat.zero_lt_one) (wA.in (k := 5) (i := 0) Nat.zero_lt_one) (fun q hq => Or.inr (by omega))) x hx) (cA4_sub (P := wA (cC (ν 0 0)) ad s.heap.size) (Or.inr (by omega)) (wA.in (k := 1) (i := 0) Nat.zero_lt_one) (wA.in (k := 4) (i := 0) Nat.zero_lt_one) (wA.in (k := 5) (i := 0) Nat.zero_lt_one) (fun q hq => Or.inr (by omega))) (fun H903 locs903 hX903 hz903 hk903 hS903 => ?_)
        obtain ⟨c9, t9, hcs, hts9, hct, hadr3, hbuf3⟩ := hX903
        have hB903 : CW D cy ad τ ν H903 := hB902.copy hJ hk903 hbuf3 (fun k i hi => by have := ltA k i hi; omega) (Nat.le_refl _)
        have hp903 := va_at.kept hp902 (hk903 _ (va_at.lt hp902) (fun z => cA4_sub (P := fun q => q ≠ p9) (by omega) (by omega) (by omega) (by omega) (fun q hq => by have := va_at.lt hp902; omega) _ z rfl))
        have ltb : b9 < H903.size := va_at.lt hadr3.1
        have ltc : c9 < H903.size := va_at.lt hadr3.2.1
        have ltt : t9 < H903.size := va_at.lt hadr3.2.2
        have ltp : p9 < H902.size := va_at.lt hp902
        have ltb2 : b9 < H902.size := va_at.lt hb9
        refine lv_iload_n hx hb dX3_find_83 rfl (lv_at hl 5 rfl) ?_
        refine lv_aload_n hx hb dX3_find_84 rfl (lv_at hl 3 rfl) ?_
        refine g_get (C := RX3) (T := TX3) (N := 9) (ci := 3) (fs := [.ref (ad 1 0), .ref (ad 2 0), .ref (ad 3 0), .int (nI (ν 0 0)), .int (τ 0 0), .int (τ 1 0), .int (τ 2 0), .int (τ 3 0), .int (τ 20 0)]) hx hb hts inX3 hown hK (hB903 0 0 Nat.zero_lt_one) rfl 4 (by decide) lk111 rfl rfl dX3_find_85 ?_
        refine g_cu0 (va_runI (As := [.int (nI (ν 0 0)), .ref (ad 6 q0), .ref b9, .int r, .int (τ 0 0)]) (rest := [.ref p9, .int (nI (ν 0 0)), .ref (ad 3 0)]) ⟨hx, hb, hml, hown, hts⟩ (m_X2_init l D cy H903.size p9 b9 c9 t9 (ad 6 q0) (τ 6) (τ 22) (ν 1 0) (ν 2 0) hI.2.1 hI.2.2.2.1 hI.2.2.1 hI.2.2.2.2.1 (by omega) (by omega) (by omega) (nI (ν 0 0)) r (τ 0 0)) (cwI 5 hts gX3_find_X2_init rfl rfl rfl (hts (.initialized RX2) (by decide +kernel)) (hts (.methodLink RX3 114 yX2_init) (by decide +kernel)) (hts (.instanceMethod yX2_init) (by decide +kernel)) rfl (by decide +kernel) ⟨Nat.le_of_ble_eq_true rfl, Nat.le_of_ble_eq_true rfl⟩) (g_preS (As := [.ref p9, .int (nI (ν 0 0)), .ref (ad 6 q0), .ref b9, .int r, .int (τ 0 0)]) (B := atSz H903.size (fun H => oA D p9 (.inr (2, [.int 0, .null, .null, .int 0, .int 0, .int 0, .int 0, .int 0, .int 0, .int 0])) H ∧ pA D cy b9 c9 t9 (τ 6) (τ 22) (ν 1 0) (ν 2 0) H)) hK ⟨rfl, hp903, hadr3⟩) rfl rfl hl.1 rfl (lv_room (Nat.le_of_ble_eq_true rfl)) dX3_find_88 ⟨Nat.le_of_ble_eq_true rfl, Nat.le_of_ble_eq_true rfl⟩) hS903 (fun x _ hx => hx.elim (fun z => Or.inr (by omega)) (fun z => Or.inr (by omega))) (fun x hx => hx.elim (fun z => Or.inr (by omega)) (fun z => Or.inr (by omega))) (fun H904 locs904 hp904 hz904 hk904 hS904 => ?_)
        have hB904 : CW D cy ad τ ν H904 := wP.kept hB903 (fun k i hi => hk904 _ (wP.lt hB903 hi) (fun z => z.elim (fun y => by have := ltA k i hi; omega) (fun y => absurd (wP.lt hB903 hi) (Nat.not_lt.mpr y))))
        have hadr4 : pA D cy b9 c9 t9 (τ 6) (τ 22) (ν 1 0) (ν 2 0) H904 := ⟨va_at.kept hadr3.1 (hk904 _ ltb (fun z => z.elim (fun y => by omega) (fun y => by omega))), va_at.kept hadr3.2.1 (hk904 _ ltc (fun z => z.elim (fun y => by omega) (fun y => by omega))), va_at.kept hadr3.2.2 (hk904 _ ltt (fun z => z.elim (fun y => by omega) (fun y => by omega)))⟩
        refine g_aast (A := (wA (cC (ν 0 0)) ad s.heap.size)) (t0 := 4) (ci := 2) hx hb hK (hB904 3 0 Nat.zero_lt_one) rfl hp904 rfl hS904 (wA.in (k := 3) (i := 0) Nat.zero_lt_one) (vp_in_nI (N := 30) hn29 (by decide)) dX3_find_91 (fun H905 locs905 hc905 hu905 hS905 => ?_)
        rw [cl_nI (by omega)] at hc905
        have hold5 : ∀ k i, i < cC (ν 0 0) k → k ≠ 3 → oA D (ad k i) (eC cy ad τ ν k i) H905 := fun k i hi h3 => oA.off (hB904 k i hi) hu905 (fun z => h3 (hJ k i 3 0 hi Nat.zero_lt_one z).1)
        have hp905 := oA.off hp904 hu905 (by omega)
        have hadr5 : pA D cy b9 c9 t9 (τ 6) (τ 22) (ν 1 0) (ν 2 0) H905 := ⟨oA.off hadr4.1 hu905 (by omega), oA.off hadr4.2.1 hu905 (by omega), oA.off hadr4.2.2 hu905 (by omega)⟩
        refine lv_aload_n hx hb dX3_find_92 rfl (lv_at hl 3 rfl) ?_
        refine lv_dup hx hb dX3_find_93 rfl ?_
        refine g_get (C := RX3) (T := TX3) (N := 9) (ci := 3) (fs := [.ref (ad 1 0), .ref (ad 2 0), .ref (ad 3 0), .int (nI (ν 0 0)), .int (τ 0 0), .int (τ 1 0), .int (τ 2 0), .int (τ 3 0), .int (τ 20 0)]) hx hb hts inX3 hown hK (hold5 0 0 Nat.zero_lt_one (by decide)) rfl 3 (by decide) lk103 rfl rfl dX3_find_94 ?_
        refine lv_iconst (v := 1) hx hb dX3_find_97 (by decide) ?_
        refine lv_iadd hx hb dX3_find_98 ?_
        refine lv_topi (fun y1 ey1 => ?_)
        obtain rfl : y1 = nI (ν 0 0 + 1) := ey1.trans (nI_1 _)
        refine g_put (C := RX3) (T := TX3) (N := 9) (ci := 3) (fs := [.ref (ad 1 0), .ref (ad 2 0), .ref (ad 3 0), .int (nI (ν 0 0)), .int (τ 0 0), .int (τ 1 0), .int (τ 2 0), .int (τ 3 0), .int (τ 20 0)]) (A := (wA (cC (ν 0 0)) ad s.heap.size)) hx hb hts inX3 tyX3 tyX3_ok nmX3 hown hK (hold5 0 0 Nat.zero_lt_one (by decide)) rfl hS905 (wA.in (cn := cC (ν 0 0)) (k := 0) (i := 0) (Nat.zero_lt_one)) 3 (by decide) lk103 rfl rfl rfl rfl (Nat.le_of_ble_eq_true rfl) dX3_find_99 (fun H1 locs1 hc1 hu1 hS1 => ?_)
        have hold6 : ∀ k i, i < cC (ν 0 0) k → k ≠ 0 → k ≠ 3 → oA D (ad k i) (eC cy ad τ ν k i) H1 := fun k i hi h0 h3 => oA.off (hold5 k i hi h3) hu1 (fun z => h0 (hJ k i 0 0 hi Nat.zero_lt_one z).1)
        have hFin : CW D cy (fdAd ad (ν 0 0) p9 b9 c9 t9) (fdTC τ ν r) (fdNC ν q0) H1 := CW.grow hold6 hc1 (oA.off hc905 hu1 (fun z => absurd (hJ 3 0 0 0 Nat.zero_lt_one Nat.zero_lt_one z).1 (by decide))) (oA.off hp905 hu1 (by omega)) ⟨oA.off hadr5.1 hu1 (by omega), oA.off hadr5.2.1 hu1 (by omega), oA.off hadr5.2.2 hu1 (by omega)⟩
        refine lv_iload hx hb dX3_find_102 (lv_at hl 0 rfl) ?_
        exact x_ret ⟨hk9, hr9, Or.inr hn29⟩ (g_iretU hx hb hr hlocks hS1 (by rw [ec, hpab]; exact ⟨p9, b9, c9, t9, by omega, by omega, by omega, by omega, hct, hFin⟩) (Nat.le_of_ble_eq_true rfl) (Nat.le_of_ble_eq_true rfl) dX3_find_104 (by rw [ec, hpab]; rfl))
      · -- 46 f
        have hn30e : ν 0 0 = 30 := by have := mt (nI_ltI (a := ν 0 0) (b := 30) (by omega) (by decide)).mpr c_46; omega
        obtain ⟨sa9, hsa9⟩ := hX9.2.2.2.2 (106, "there are as many pages as there can be") (by decide)
        exact vx_throwS (own := "Politecrawl") (cls := xcL) (text := "there are as many pages as there can be") (names := xnm) (ik := 50) (is := 106) (ic := 54) (sa := sa9) (A := A9) hx hb hl9 hown (by decide +kernel) (by decide +kernel) (hts _ (by decide +kernel)) (hts _ (by decide +kernel)) hsa9 (vx_hat (fun w hw => hts w (xm_X3_find_xcL w hw)) xw_xcL (vx_c (va_Nw.use rfl (hX9.2.2.1 xcL (by decide))) (vx_c (va_Nw.use rfl (hX9.2.2.2.1 _ (by decide))) (vx_c (va_Nw.use rfl (hX9.2.2.2.1 _ (by decide))) (vx_c (va_Nw.use rfl (hX9.2.2.2.1 _ (by decide))) vx_n))))) xg_xcL hX9.1 hX9.2.1 va_S.rf (by rw [hml]; exact hl.1) dX3_find_49 dX3_find_52 dX3_find_53 dX3_find_55 dX3_find_58 (fun x hx => (ht9 x hx).elim) (Nat.le_of_ble_eq_true rfl) (Nat.le_of_ble_eq_true rfl) (Nat.le_of_ble_eq_true rfl) (Nat.le_of_ble_eq_true rfl) hlocks (fun t _ z1 z2 => ⟨Or.inr (Or.inr ⟨hk9, hr9, by rw [ec]; exact hpab, hn30e, rfl⟩), z1, z2⟩) (fun z hz => nomatch hz) (Nat.le_of_ble_eq_true rfl) (Nat.le_of_ble_eq_true rfl)
  · -- s
    have hx0 : x0 < ν 0 0 := pabL_lt30 hpab
    refine g_top (v' := .ref (ad 7 x0)) rfl ?_
    refine lv_astore (lv' := [(4, .ref (ad 7 x0)), (3, .ref (ad 6 q0)), (0, .ref (ad 0 0)), (1, .int h), (2, .int r)]) hx hb dX3_find_15 hl (by decide) rfl (fun ls hl => ?_)
    refine lv_aload hx hb dX3_find_17 (lv_at hl 0 rfl) ?_
    refine lv_ifnull hx hb dX3_find_19 ?_
    refine lv_aload hx hb dX3_find_22 (lv_at hl 0 rfl) ?_
    refine g_get (C := RX2) (T := TX2) (N := 10) (ci := 2) (fs := [.int (nI x0), .ref (ad 6 (ν 5 x0)), .ref (ad 8 x0), .int (τ 15 x0), .int (τ 10 x0), .int (τ 11 x0), .int (τ 12 x0), .int (τ 13 x0), .int (τ 14 x0), .int (τ 25 x0)]) hx hb hts inX2 hown hK (hB 7 x0 hx0) rfl 0 (by decide) lk100 rfl rfl dX3_find_24 ?_
    exact x_ret ⟨hk9, hr9, Or.inl (by rw [ec, hpab]; exact fun z => by cases z)⟩ (g_iretU hx hb hr hlocks hS (by rw [ec, hpab]; exact hB) (Nat.le_of_ble_eq_true rfl) (Nat.le_of_ble_eq_true rfl) dX3_find_27 (by rw [ec, hpab]; rfl))
