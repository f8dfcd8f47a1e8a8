/-! the law: what its calls have alike -/
section LWT
variable {p : Program} {l : Launch} {e : Env} {s : State} {m : MethodId} {below : List Frame} {meth : Method} {c : Code} {H : Heap} {locs : List Loc} {cells slots : Nat} {Q : State → Prop}
variable {ls : Array Slot} {rest : List Value} {D : va_G} {cy : Nat → ClassId} {b L : Nat} {xs : Nat → Int32} {adC adM : NT} {τ σ : IT} {ν μ : NT} {o : Nat} {x0 : Int64}
/-- a number of the script -/
theorem l_arg {q i v : Nat} {nn : Int} {a : Int32} (hx : p.tables.exec = Jvm.exec) (hb : c.code = cL_law) (hX : va_X b L xs s s.heap) (hbl : b < s.heap.size) (hS : va_S (lA s.heap.size) s.heap H locs) (h0 : ls[0]? = some (.val (.ref b))) (h4 : ls[4]? = some (.val (.int (nI i)))) (hin : vp_in (nI (i + v)) L) (ha : xs (nI (i + v)).toNatClampNeg = a) (hn : Int32.ofInt nn = nI v)
    (d0 : decode cL_law q = .ok (.aload_n 0, 1)) (d1 : decode cL_law (q + 1) = .ok (.iload 4, 2)) (d3 : decode cL_law (q + 3) = .ok (.iconst nn, 1)) (d4 : decode cL_law (q + 4) = .ok (.iadd, 1)) (d5 : decode cL_law (q + 5) = .ok (.iaload, 1))
    (kk : W p l e room_1 s m #[Value.ref b] below meth c H locs cells slots Q (F0 m (q + 6) ls (.int a :: rest))) : W p l e room_1 s m #[Value.ref b] below meth c H locs cells slots Q (F0 m q ls rest) := by
  subst ha
  refine lv_aload_n hx hb d0 rfl h0 ?_
  refine lv_iload hx hb d1 h4 ?_
  refine lv_iconst (v := nI v) hx hb d3 hn ?_
  refine lv_iadd hx hb d4 ?_
  refine g_top (v' := .int (nI (i + v))) (congrArg Value.int (nI_add i v)) ?_
  exact va_sld hx hb hX hbl (Nat.not_le.mpr hbl) hS hin d5 kk
/-- behind both calls: the codes, the answers, and on -/
theorem l_tail {q n n1 i a0 cells1 slots1 : Nat} {G : Int} {k1 b1 : Int32} {x1 : Int64} (C : lctx p l s m c b L xs D cy) (hr1 : cells1 ≤ room_1.cells ∧ slots1 ≤ room_1.slots)
    (d0 : decode cL_law q = .ok (.istore 6, 2)) (d2 : decode cL_law (q + 2) = .ok (.aload_n 2, 1)) (d3 : decode cL_law (q + 3) = .ok (.invokevirtual 75, 3)) (d6 : decode cL_law (q + 6) = .ok (.iload 5, 2)) (d8 : decode cL_law (q + 8) = .ok (.if_icmp .eq 5, 3)) (d13 : decode cL_law (q + 13) = .ok (.iload 5, 2)) (d15 : decode cL_law (q + 15) = .ok (.ifCond .ne 15, 3)) (d18 : decode cL_law (q + 18) = .ok (.aload_n 3, 1)) (d19 : decode cL_law (q + 19) = .ok (.iconst 0, 1)) (d20 : decode cL_law (q + 20) = .ok (.laload, 1)) (d21 : decode cL_law (q + 21) = .ok (.iload 6, 2)) (d23 : decode cL_law (q + 23) = .ok (.i2l, 1)) (d24 : decode cL_law (q + 24) = .ok (.lcmp, 1)) (d25 : decode cL_law (q + 25) = .ok (.ifCond .eq 5, 3)) (d30 : decode cL_law (q + 30) = .ok (.goto G, 3)) (hG : ((q + 30 : Nat) : Int) + G = ((1166 : Nat) : Int))
    (K : lgo p l e s m below meth c b D cy adM o a0 n1 i cells1 slots1 1166) (hn : n ≤ n1) (hc : cells ≤ cells1) (hs : slots ≤ slots1) (ha : adC 0 0 = a0) (T : okC n k1 x1 τ ν b1 σ μ) (hJ : lJ s.heap.size (ν 0 0) adC adM o) (hB : CW D cy adC τ ν H) (hO : outE D cy o x1 H) (hM : MW D cy adM σ μ H) (hS : va_S (lA s.heap.size) s.heap H locs) (hl : lv_has ls 7 [(5, .int k1), (0, .ref b), (1, .ref a0), (2, .ref (adM 0 0)), (3, .ref o), (4, .int (nI i))]) : W p l e room_1 s m #[Value.ref b] below meth c H locs cells slots (lw_Z below #[Value.ref b] s) (F0 m q ls [.int b1]) := by
  obtain ⟨hx, hb, hml, hown, hts, hK, hY, hC9, hX, hbl, hl9⟩ := C
  refine W.widen (k := cells1) (n := slots1) hc hs ?_
  have hend : ∀ ls, lv_has ls 7 [(0, .ref b), (1, .ref a0), (2, .ref (adM 0 0)), (3, .ref o), (4, .int (nI i))] → W p l e room_1 s m #[Value.ref b] below meth c H locs cells1 slots1 (lw_Z below #[Value.ref b] s) (F0 m (q + 30) ls []) := fun ls hl => by
    refine lv_goto (tgt := 1166) hx hb d30 hG ?_
    exact K adC τ ν σ μ x1 H locs ls ha (T.2.2.up hn) hJ hB hO hM hS hl
  refine lv_istore (lv' := [(6, .int b1), (5, .int k1), (0, .ref b), (1, .ref a0), (2, .ref (adM 0 0)), (3, .ref o), (4, .int (nI i))]) hx hb d0 hl (by decide) rfl (fun ls hl => ?_)
  refine lv_aload_n hx hb d2 rfl (lv_at hl 4 rfl) ?_
  refine g_csr (va_runV (As := []) (rest := []) ⟨hx, hb, hml, hown, hts⟩ (m_X4_thrown l D cy adM σ μ) (cwV 0 hts gL_law_X4_thrown rfl rfl rfl (by decide +kernel) ⟨Nat.le_of_ble_eq_true rfl, Nat.le_of_ble_eq_true rfl⟩) (g_preV (C := RX4) (B := MW D cy adM σ μ) hK hM (hM 0 0 Nat.zero_lt_one) rfl) rfl rfl hl.1 rfl (lv_room (Nat.le_of_ble_eq_true rfl)) d3 ⟨hr1.1, hr1.2⟩) ?_
  refine lv_iload hx hb d6 (lv_at hl 1 rfl) ?_
  refine lv_icmp_eq (tgt := q + 13) hx hb d8 (by omega) (fun c1 => ?_) (fun c1 => absurd T.1 c1)
  refine lv_iload hx hb d13 (lv_at hl 1 rfl) ?_
  refine lv_if_ne (tgt := q + 30) hx hb d15 (by omega) (fun c2 => hend ls (lv_sub hl [2, 3, 4, 5, 6] rfl)) (fun c2 => ?_)
  refine lv_aload_n hx hb d18 rfl (lv_at hl 5 rfl) ?_
  refine lv_iconst (v := 0) hx hb d19 (by decide) ?_
  obtain ⟨f9, hf9, hO9⟩ := id hO
  refine g_lald (f := f9) (x := x1) hx hb hK hO9 w_in hf9 d20 ?_
  refine lv_iload hx hb d21 (lv_at hl 0 rfl) ?_
  refine lv_i2l hx hb d23 rfl ?_
  refine W.lcmp hx hb d24 ?_
  refine lv_if_eq (tgt := q + 30) hx hb d25 (by omega) (fun c3 => hend ls (lv_sub hl [2, 3, 4, 5, 6] rfl)) (fun c3 => absurd ((lg_cmp_eq _ _).mpr (T.2.1 c2)) c3)
/-- .. where the answers are compared at once -/
theorem l_cmp {q n n1 i a0 cells1 slots1 : Nat} {G : Int} {v1 b1 : Int32} (C : lctx p l s m c b L xs D cy)
    (d0 : decode cL_law q = .ok (.if_icmp .eq G, 3)) (hG : ((q : Nat) : Int) + G = ((1166 : Nat) : Int))
    (K : lgo p l e s m below meth c b D cy adM o a0 n1 i cells1 slots1 1166) (hn : n ≤ n1) (hc : cells ≤ cells1) (hs : slots ≤ slots1) (ha : adC 0 0 = a0) (T : v1 = b1 ∧ Rel n τ ν σ μ) (hJ : lJ s.heap.size (ν 0 0) adC adM o) (hB : CW D cy adC τ ν H) (hO : outE D cy o x0 H) (hM : MW D cy adM σ μ H) (hS : va_S (lA s.heap.size) s.heap H locs) (hl : lv_has ls 7 [(0, .ref b), (1, .ref a0), (2, .ref (adM 0 0)), (3, .ref o), (4, .int (nI i))]) : W p l e room_1 s m #[Value.ref b] below meth c H locs cells slots (lw_Z below #[Value.ref b] s) (F0 m q ls [.int b1, .int v1]) := by
  obtain ⟨hx, hb, hml, hown, hts, hK, hY, hC9, hX, hbl, hl9⟩ := C
  refine W.widen (k := cells1) (n := slots1) hc hs ?_
  exact lv_icmp_eq (tgt := 1166) hx hb d0 hG (fun c1 => K adC τ ν σ μ x0 H locs ls ha (T.2.up hn) hJ hB hO hM hS hl) (fun c1 => absurd T.1 c1)
/-- .. of mayVisit, whose answer is a bool in the model -/
theorem l_tailz {q n n1 i a0 cells1 slots1 : Nat} {G : Int} {k1 b1 : Int32} {x1 : Int64} (C : lctx p l s m c b L xs D cy) (hr1 : cells1 ≤ room_1.cells ∧ slots1 ≤ room_1.slots)
    (d0 : decode cL_law q = .ok (.istore 6, 2)) (d2 : decode cL_law (q + 2) = .ok (.aload_n 2, 1)) (d3 : decode cL_law (q + 3) = .ok (.invokevirtual 75, 3)) (d6 : decode cL_law (q + 6) = .ok (.iload 5, 2)) (d8 : decode cL_law (q + 8) = .ok (.if_icmp .eq 5, 3)) (d13 : decode cL_law (q + 13) = .ok (.iload 5, 2)) (d15 : decode cL_law (q + 15) = .ok (.ifCond .ne 22, 3)) (d18 : decode cL_law (q + 18) = .ok (.aload_n 3, 1)) (d19 : decode cL_law (q + 19) = .ok (.iconst 0, 1)) (d20 : decode cL_law (q + 20) = .ok (.laload, 1)) (d21 : decode cL_law (q + 21) = .ok (.iload 6, 2)) (d23 : decode cL_law (q + 23) = .ok (.ifCond .eq 7, 3)) (d26 : decode cL_law (q + 26) = .ok (.lconst 1, 1)) (d27 : decode cL_law (q + 27) = .ok (.goto 4, 3)) (d30 : decode cL_law (q + 30) = .ok (.lconst 0, 1)) (d31 : decode cL_law (q + 31) = .ok (.lcmp, 1)) (d32 : decode cL_law (q + 32) = .ok (.ifCond .eq 5, 3)) (d37 : decode cL_law (q + 37) = .ok (.goto G, 3)) (hG : ((q + 37 : Nat) : Int) + G = ((1166 : Nat) : Int))
    (K : lgo p l e s m below meth c b D cy adM o a0 n1 i cells1 slots1 1166) (hn : n ≤ n1) (hc : cells ≤ cells1) (hs : slots ≤ slots1) (ha : adC 0 0 = a0) (T : σ 30 0 = k1 ∧ (k1 = 0 → x1 = if b1 = 0 then (0 : Int64) else 1) ∧ Rel n τ ν σ μ) (hJ : lJ s.heap.size (ν 0 0) adC adM o) (hB : CW D cy adC τ ν H) (hO : outE D cy o x1 H) (hM : MW D cy adM σ μ H) (hS : va_S (lA s.heap.size) s.heap H locs) (hl : lv_has ls 7 [(5, .int k1), (0, .ref b), (1, .ref a0), (2, .ref (adM 0 0)), (3, .ref o), (4, .int (nI i))]) : W p l e room_1 s m #[Value.ref b] below meth c H locs cells slots (lw_Z below #[Value.ref b] s) (F0 m q ls [.int b1]) := by
  obtain ⟨hx, hb, hml, hown, hts, hK, hY, hC9, hX, hbl, hl9⟩ := C
  refine W.widen (k := cells1) (n := slots1) hc hs ?_
  have hend : ∀ ls, lv_has ls 7 [(0, .ref b), (1, .ref a0), (2, .ref (adM 0 0)), (3, .ref o), (4, .int (nI i))] → W p l e room_1 s m #[Value.ref b] below meth c H locs cells1 slots1 (lw_Z below #[Value.ref b] s) (F0 m (q + 37) ls []) := fun ls hl => by
    refine lv_goto (tgt := 1166) hx hb d37 hG ?_
    exact K adC τ ν σ μ x1 H locs ls ha (T.2.2.up hn) hJ hB hO hM hS hl
  refine lv_istore (lv' := [(6, .int b1), (5, .int k1), (0, .ref b), (1, .ref a0), (2, .ref (adM 0 0)), (3, .ref o), (4, .int (nI i))]) hx hb d0 hl (by decide) rfl (fun ls hl => ?_)
  refine lv_aload_n hx hb d2 rfl (lv_at hl 4 rfl) ?_
  refine g_csr (va_runV (As := []) (rest := []) ⟨hx, hb, hml, hown, hts⟩ (m_X4_thrown l D cy adM σ μ) (cwV 0 hts gL_law_X4_thrown rfl rfl rfl (by decide +kernel) ⟨Nat.le_of_ble_eq_true rfl, Nat.le_of_ble_eq_true rfl⟩) (g_preV (C := RX4) (B := MW D cy adM σ μ) hK hM (hM 0 0 Nat.zero_lt_one) rfl) rfl rfl hl.1 rfl (lv_room (Nat.le_of_ble_eq_true rfl)) d3 ⟨hr1.1, hr1.2⟩) ?_
  refine lv_iload hx hb d6 (lv_at hl 1 rfl) ?_
  refine lv_icmp_eq (tgt := q + 13) hx hb d8 (by omega) (fun c1 => ?_) (fun c1 => absurd T.1 c1)
  refine lv_iload hx hb d13 (lv_at hl 1 rfl) ?_
  refine lv_if_ne (tgt := q + 37) hx hb d15 (by omega) (fun c2 => hend ls (lv_sub hl [2, 3, 4, 5, 6] rfl)) (fun c2 => ?_)
  refine lv_aload_n hx hb d18 rfl (lv_at hl 5 rfl) ?_
  refine lv_iconst (v := 0) hx hb d19 (by decide) ?_
  obtain ⟨f9, hf9, hO9⟩ := id hO
  refine g_lald (f := f9) (x := x1) hx hb hK hO9 w_in hf9 d20 ?_
  refine lv_iload hx hb d21 (lv_at hl 0 rfl) ?_
  have hz : ∀ y : Int64, x1 = y → W p l e room_1 s m #[Value.ref b] below meth c H locs cells1 slots1 (lw_Z below #[Value.ref b] s) (F0 m (q + 31) ls [.long y, .long x1]) := fun y ey => by
    refine W.lcmp hx hb d31 ?_
    exact lv_if_eq (tgt := q + 37) hx hb d32 (by omega) (fun c3 => hend ls (lv_sub hl [2, 3, 4, 5, 6] rfl)) (fun c3 => absurd ((lg_cmp_eq _ _).mpr ey) c3)
  refine lv_if_eq (tgt := q + 30) hx hb d23 (by omega) (fun c3 => ?_) (fun c3 => ?_)
  · refine lv_lconst (v := 0) hx hb d30 rfl ?_
    exact hz 0 (by rw [T.2.1 c2, if_pos c3])
  · refine lv_lconst (v := 1) hx hb d26 rfl ?_
    refine lv_goto (tgt := q + 31) hx hb d27 (by omega) ?_
    exact hz 1 (by rw [T.2.1 c2, if_neg c3])
theorem yc_preS {As : List Value} {A9 : Nat → Prop} {B : Heap → Prop} (hK : gK D cy s) (hX : yK A9 s H) (hC : cK s) (hB : B H) : PreS s H (va_Pc As (fun U => gK D cy U ∧ yK A9 U U.heap ∧ cK U ∧ B U.heap)) As :=
  ⟨fun a U g mk q => ⟨q.1, va_K.moved (u := U) (U := U.calling g mk a) (Vm.Alike.refl U.vm) q.2.1, ⟨xK.same (u := U) (U := U.calling g mk a) rfl q.2.2.1.1, wN.moved (u := U) (U := U.calling g mk a) (Vm.Alike.refl U.vm) q.2.2.1.2⟩, ⟨va_Nw.same (u := U) rfl rfl q.2.2.2.1.1, va_Nw.same (u := U) rfl rfl q.2.2.2.1.2⟩, q.2.2.2.2⟩, fun U hU hW => ⟨rfl, va_K.moved hW.alike hK, ⟨by rw [hU]; exact xK.warm hW hX.1, wN.moved hW.alike hX.2⟩, ⟨va_Nw.warmC hW hC.1, va_Nw.warmC hW hC.2⟩, by rw [hU]; exact hB⟩⟩
end LWT
theorem l_addN {τ : IT} {ν : NT} {k c : Int32} : (if k = 0 then addN τ ν c else ν) 0 0 = ν 0 0 := by
  by_cases z : k = 0
  · rw [if_pos z]; exact congrFun (addN_k (by decide) (by decide)) 0
  · rw [if_neg z]
