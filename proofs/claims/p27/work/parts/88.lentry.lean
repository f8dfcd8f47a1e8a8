/-! the law's start: what the machine gives -/
theorem l_ids (w : Cond) (h : w ∈ lw_tbl) {b : Nat} {s : State} (hts : ∀ w ∈ lw_tbl, w.before #[Value.ref b] s = true) : w.before #[Value.ref b] s = true := hts w h
set_option maxRecDepth 100000 in
theorem l_in1 : ∀ X ∈ xcAll, Cond.castable X X ∈ lw_tbl := by decide +kernel
set_option maxRecDepth 100000 in
theorem l_in2 : ∀ X ∈ xcUp, Cond.declares (Bundle.initS X) ∈ lw_tbl := by decide +kernel
set_option maxRecDepth 100000 in
theorem l_in3 : ∀ q ∈ xcTxt, Cond.stringRef "Politecrawl" q.1 q.2 ∈ lw_tbl := by decide +kernel
set_option maxRecDepth 100000 in
theorem l_in4 : ∀ q ∈ xcTxt, Cond.exactly (.string "Politecrawl" q.1) "java/lang/String" ∈ flatC (Jvm.Cond.and given_1 narrow_1) := by decide +kernel
set_option maxRecDepth 100000 in
theorem l_in5 : ∀ w ∈ [Cond.laysStatic Bundle.tN "UNASSIGNED_STACK" Bundle.steD, .laysStatic Bundle.tN "SUPPRESSED_SENTINEL" Bundle.listD, .initialized Bundle.tN, .methodLinkNest RX3 22 yX1_init RX3, .arrayOver (.object RX1), .arrayOver (.object RX2), .castable "[C" "java/lang/Cloneable", .castable "[I" "java/lang/Cloneable", .arrayClass .char, .arrayClass .int, .arrayClass .long, .instantiable RX0 4, .instantiable RX1 3, .instantiable RX2 10, .instantiable RX3 9], w ∈ lw_tbl := by decide +kernel
set_option maxRecDepth 100000 in
theorem l_in6 : ∀ w ∈ [Cond.isRef (.static Bundle.tN "UNASSIGNED_STACK" Bundle.steD), .isRef (.static Bundle.tN "SUPPRESSED_SENTINEL" Bundle.listD)], w ∈ flatC (Jvm.Cond.and given_1 narrow_1) := by decide +kernel
section LEN
variable {s : State} {b : Nat}
theorem l_xK (hts : ∀ w ∈ lw_tbl, w.before #[Value.ref b] s = true) (hgv : (Jvm.Cond.and given_1 narrow_1).before #[Value.ref b] s = true) : xK (lZ s.heap.size) s s.heap := by
  have hA : ∀ a : Nat, a < s.heap.size → ¬ lZ s.heap.size a := fun a h => Nat.not_le.mpr h
  have h5 := fun w h => hts w (l_in5 w h)
  have h6 := fun w h => flat_of_before _ hgv w (l_in6 w h)
  refine ⟨vx_Zqof (h5 _ (by simp)) (h5 (.initialized Bundle.tN) (by simp)) (h6 _ (by simp)) hA, vx_Zqof (h5 _ (by simp)) (h5 (.initialized Bundle.tN) (by simp)) (h6 _ (by simp)) hA, fun X hX => va_Nw.of rfl (hts _ (l_in1 X hX)), fun X hX => va_Nw.of rfl (hts _ (l_in2 X hX)), fun q hq => ?_⟩
  obtain ⟨a, c9, cell, k, e9, -⟩ := Cond.exactly_spec (flat_of_before _ hgv _ (l_in4 q hq))
  exact ⟨a, vk_R.of (hts _ (l_in3 q hq)) e9⟩
theorem l_cK (hts : ∀ w ∈ lw_tbl, w.before #[Value.ref b] s = true) : cK s := ⟨va_Nw.of rfl (hts _ (l_in5 (.castable "[C" "java/lang/Cloneable") (by simp))), va_Nw.of rfl (hts _ (l_in5 (.castable "[I" "java/lang/Cloneable") (by simp)))⟩
theorem l_nK (hts : ∀ w ∈ lw_tbl, w.before #[Value.ref b] s = true) : nK s := ⟨va_Nw.of rfl (hts _ (l_in5 (.methodLinkNest RX3 22 yX1_init RX3) (by simp))), va_AO.of (hts _ (l_in5 (.arrayOver (.object RX1)) (by simp))), va_AO.of (hts _ (l_in5 (.arrayOver (.object RX2)) (by simp)))⟩
theorem l_arrO {X : String} (h : (Cond.arrayOver (.object X)).before #[Value.ref b] s = true) : ∃ cA, ArrOfT s cA (.object X) ∧ va_RA s cA (.object X) := by
  obtain ⟨comp, c9, k, h1, h2, h3, h4, h5⟩ := Cond.arrayOver_spec h
  exact ⟨c9, fun n z => ⟨(fun k h => by cases h), k, h3, comp, h4⟩, k, comp, h3, h4, h1, h5⟩
theorem l_arrP {ty : FieldType} (h : (Cond.arrayClass ty).before #[Value.ref b] s = true) : ∃ cA, ArrOfT s cA ty ∧ s.vm.findClass ("[" ++ ty.toString) = some cA := by
  obtain ⟨c9, k, comp, h1, h2, h3⟩ := Cond.arrayClass_spec h
  exact ⟨c9, fun n z => ⟨(fun k h => by cases h), k, h2, comp, h3⟩, h1⟩
theorem l_gK (hts : ∀ w ∈ lw_tbl, w.before #[Value.ref b] s = true) : ∃ (D : va_G) (cy : Nat → ClassId), gK D cy s := by
  obtain ⟨c0, f0, g0⟩ := u_known (C := RX0) (T := TX0) (N := 4) (n := 4) hts inX0 (hts _ (l_in5 (.instantiable RX0 4) (by simp)))
  obtain ⟨c1, f1, g1⟩ := u_known (C := RX1) (T := TX1) (N := 3) (n := 3) hts inX1 (hts _ (l_in5 (.instantiable RX1 3) (by simp)))
  obtain ⟨c2, f2, g2⟩ := u_known (C := RX2) (T := TX2) (N := 10) (n := 10) hts inX2 (hts _ (l_in5 (.instantiable RX2 10) (by simp)))
  obtain ⟨c3, f3, g3⟩ := u_known (C := RX3) (T := TX3) (N := 9) (n := 9) hts inX3 (hts _ (l_in5 (.instantiable RX3 9) (by simp)))
  obtain ⟨a0, i0, j0⟩ := l_arrP (hts _ (l_in5 (.arrayClass .char) (by simp)))
  obtain ⟨a1, i1, j1⟩ := l_arrP (hts _ (l_in5 (.arrayClass .int) (by simp)))
  obtain ⟨a3, i3, j3⟩ := l_arrO (hts _ (l_in5 (.arrayOver (.object RX1)) (by simp)))
  obtain ⟨a4, i4, j4⟩ := l_arrO (hts _ (l_in5 (.arrayOver (.object RX2)) (by simp)))
  obtain ⟨a5, i5, j5⟩ := l_arrP (hts _ (l_in5 (.arrayClass .long) (by simp)))
  refine ⟨(fun k => if k = 0 then c0 else if k = 1 then c1 else if k = 2 then c2 else c3, fun k => if k = 0 then f0 else if k = 1 then f1 else if k = 2 then f2 else f3), fun k => if k = 0 then a0 else if k = 1 then a1 else if k = 2 then a1 else if k = 3 then a3 else if k = 4 then a4 else a5, fun k q hq => ?_, fun k q hq => ?_⟩
  · match k, hq with
    | 0, hq => cases hq; exact g0
    | 1, hq => cases hq; exact g1
    | 2, hq => cases hq; exact g2
    | 3, hq => cases hq; exact g3
    | k + 4, hq => simp [vwCl] at hq
  · match k, hq with
    | 0, hq => cases hq; exact ⟨i0, j0⟩
    | 1, hq => cases hq; exact ⟨i1, j1⟩
    | 2, hq => cases hq; exact ⟨i1, j1⟩
    | 3, hq => cases hq; exact ⟨i3, j3⟩
    | 4, hq => cases hq; exact ⟨i4, j4⟩
    | 5, hq => cases hq; exact ⟨i5, j5⟩
    | k + 6, hq => simp [gT] at hq
theorem n_preS {D : va_G} {cy : Nat → ClassId} {H : Heap} {As : List Value} {B : Heap → Prop} (hK : gK D cy s) (hN : nK s) (hB : B H) : PreS s H (va_Pc As (fun U => gK D cy U ∧ nK U ∧ B U.heap)) As :=
  ⟨fun a U g mk q => ⟨q.1, va_K.moved (u := U) (U := U.calling g mk a) (Vm.Alike.refl U.vm) q.2.1, ⟨va_Nw.same (u := U) rfl rfl q.2.2.1.1, va_AO.moved (u := U) (U := U.calling g mk a) (Vm.Alike.refl U.vm) q.2.2.1.2.1, va_AO.moved (u := U) (U := U.calling g mk a) (Vm.Alike.refl U.vm) q.2.2.1.2.2⟩, q.2.2.2⟩, fun U hU hW => ⟨rfl, va_K.moved hW.alike hK, ⟨va_Nw.warmM hW hN.1, va_AO.moved hW.alike hN.2.1, va_AO.moved hW.alike hN.2.2⟩, by rw [hU]; exact hB⟩⟩
end LEN
