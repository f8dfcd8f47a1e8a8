/-! PolitecrawlModel: segments laid, repeats -/
/-- segments, begin, many after k characters -/
def layN (f : Nat → Int32) (ν : NT) : Nat → NT
  | 0 => up2 ν 6 0 0
  | k + 1 =>
    if f k = 47 then layN f ν k
    else if k = 0 ∨ f (k - 1) = 47 then up2 (up2 (up2 (up2 (layN f ν k) 7 (layN f ν k 6 0) k) 8 (layN f ν k 6 0) 0) 6 0 (layN f ν k 6 0 + 1)) 8 (layN f ν k 6 0) 1
    else up2 (layN f ν k) 8 (layN f ν k 6 0 - 1) (layN f ν k 8 (layN f ν k 6 0 - 1) + 1)
theorem layN_keep {f : Nat → Int32} {ν : NT} (k K i : Nat) (h6 : K ≠ 6) (h7 : K ≠ 7) (h8 : K ≠ 8) : layN f ν k K i = ν K i := by
  induction k with
  | zero => rw [layN, up2_k h6]
  | succ k ih =>
    rw [layN]
    by_cases c : f k = 47
    · rw [if_pos c]; exact ih
    · rw [if_neg c]
      by_cases d : k = 0 ∨ f (k - 1) = 47
      · rw [if_pos d, up2_k h8, up2_k h6, up2_k h8, up2_k h7]; exact ih
      · rw [if_neg d, up2_k h8]; exact ih
/-- how many segments there are, by the character behind -/
theorem layN_seg {f : Nat → Int32} {ν : NT} (k : Nat) : 2 * layN f ν k 6 0 ≤ k + 1 ∧ ((k = 0 ∨ f (k - 1) = 47) → 2 * layN f ν k 6 0 ≤ k) ∧ ((0 < k ∧ f (k - 1) ≠ 47) → 1 ≤ layN f ν k 6 0) := by
  induction k with
  | zero => rw [layN, up2_s]; refine ⟨by omega, fun _ => by omega, fun h => absurd h.1 (by omega)⟩
  | succ k ih =>
    obtain ⟨h1, h2, h3⟩ := ih
    rw [layN, Nat.add_sub_cancel]
    by_cases c : f k = 47
    · rw [if_pos c]; exact ⟨by omega, fun _ => h1, fun h => absurd c h.2⟩
    · rw [if_neg c]
      by_cases d : k = 0 ∨ f (k - 1) = 47
      · rw [if_pos d, up2_k (by decide), up2_s]
        have := h2 d
        exact ⟨by omega, fun h => h.elim (fun e => absurd e (by omega)) (fun e => absurd e c), fun _ => by omega⟩
      · rw [if_neg d, up2_k (by decide)]
        have : 1 ≤ layN f ν k 6 0 := h3 ⟨by omega, fun e => d (Or.inr e)⟩
        exact ⟨by omega, fun h => h.elim (fun e => absurd e (by omega)) (fun e => absurd e c), fun _ => this⟩
/-- where segments lie -/
theorem layN_ok {f : Nat → Int32} {ν : NT} (k : Nat) : ∀ j, j < layN f ν k 6 0 → layN f ν k 7 j + layN f ν k 8 j ≤ k ∧ ((j + 1 = layN f ν k 6 0 ∧ 0 < k ∧ f (k - 1) ≠ 47) → layN f ν k 7 j + layN f ν k 8 j = k) := by
  induction k with
  | zero => intro j h; rw [layN, up2_s] at h; exact absurd h (Nat.not_lt_zero _)
  | succ k ih =>
    have hs := layN_seg (f := f) (ν := ν) k
    rw [layN, Nat.add_sub_cancel]
    by_cases c : f k = 47
    · rw [if_pos c]
      intro j h
      exact ⟨Nat.le_succ_of_le (ih j h).1, fun q => absurd c q.2.2⟩
    · rw [if_neg c]
      generalize hL : layN f ν k = L at ih hs ⊢
      by_cases d : k = 0 ∨ f (k - 1) = 47
      · rw [if_pos d]
        intro j h
        rw [up2_k (by decide), up2_s] at h
        by_cases e : j = L 6 0
        · subst e
          rw [up2_k (by decide), up2_k (by decide), up2_k (by decide), up2_s, up2_s]
          exact ⟨by omega, fun _ => by omega⟩
        · have hj : j < L 6 0 := by omega
          rw [up2_k (by decide), up2_k (by decide), up2_k (by decide), up2_i e, up2_i e, up2_k (by decide), up2_i e, up2_k (by decide)]
          have := (ih j hj).1
          refine ⟨by omega, fun q => ?_⟩
          have q1 := q.1
          rw [up2_k (by decide), up2_s] at q1
          omega
      · rw [if_neg d]
        have h1 : 1 ≤ L 6 0 := hs.2.2 ⟨by omega, fun e => d (Or.inr e)⟩
        intro j h
        rw [up2_k (by decide)] at h
        by_cases e : j = L 6 0 - 1
        · subst e
          rw [up2_k (by decide), up2_s]
          have := (ih (L 6 0 - 1) (by omega)).2 ⟨by omega, by omega, fun e => d (Or.inr e)⟩
          exact ⟨by omega, fun _ => by omega⟩
        · rw [up2_k (by decide), up2_i e]
          have := (ih j h).1
          refine ⟨by omega, fun q => ?_⟩
          have q1 := q.1
          rw [up2_k (by decide)] at q1
          omega

set_option maxHeartbeats 4000000 in
set_option maxRecDepth 100000 in
/-- model: laySegments -/
theorem m_X4_laySegments (l : Launch) (D : va_G) (cy : Nat → ClassId) (sz : Nat) (ad : NT) (σ : IT) (ν : NT) (hJ : wJ cM ad) (hl30 : ν 1 0 ≤ 30) : Met l yX4_laySegments wsX4_laySegments ({ frames := 0, cells := 0, slots := 0, locals := 0 } : Room) (va_Pc [.ref (ad 0 0)] (fun U => gK D cy U ∧ (atSz sz (MW D cy ad σ ν)) U.heap)) (uQ none (MW D cy ad σ (layN (σ 6) ν (ν 1 0))) (wA cM ad sz)) 0 0 (wA cM ad sz) := by
  refine Met.ofW (cc := cX4_laySegments) (maxL := 3) (ret := none) (by decide) rfl ?_
  intro p e s m args below meth c s₁ B9 hml hv
  obtain ⟨rfl, hK, hsz, hB⟩ := hv
  have hx := B9.exec
  have hb := B9.bytes
  have hr := B9.returns
  have hts := atoms_spec (ws := wsX4_laySegments) B9.pre
  have hown : s.vm.findClass RX4 = some m.cls := findClass_of_methodNamed B9.named
  have hlocks := B9.notSynchronized
  subst hsz
  have hS : va_S (wA cM ad s.heap.size) s.heap s.heap [] := va_S.rf
  have lk83 := hts (.fieldLink RX4 83 "PolitecrawlModel" "segments" "I") (by decide +kernel)
  have inX4 : ∀ w ∈ u_ws RX4 TX4 26, w ∈ wsX4_laySegments := by decide +kernel
  have lk86 := hts (.fieldLink RX4 86 "PolitecrawlModel" "length" "I") (by decide +kernel)
  have lk7 := hts (.fieldLink RX4 7 "PolitecrawlModel" "buffer" "[I") (by decide +kernel)
  have lk60 := hts (.fieldLink RX4 60 "PolitecrawlModel" "begin" "[I") (by decide +kernel)
  have lk63 := hts (.fieldLink RX4 63 "PolitecrawlModel" "many" "[I") (by decide +kernel)
  have hl := lv_entry ([.ref (ad 0 0)]) (n := 3) (Nat.le_of_ble_eq_true rfl)
  rw [lg_entry_eq]
  generalize (lg_sl ([.ref (ad 0 0)]) ++ List.replicate (3 - (lg_sl ([.ref (ad 0 0)])).length) Slot.unset).toArray = ls at hl ⊢
  have hl : lv_has ls 3 [(0, .ref (ad 0 0))] := hl
  refine lv_aload_n hx hb dX4_laySegments_0 rfl (lv_at hl 0 rfl) ?_
  refine lv_iconst (v := 0) hx hb dX4_laySegments_1 (by decide) ?_
  refine lv_topi (fun y1 ey1 => ?_)
  obtain rfl : y1 = nI 0 := ey1.trans (nI_0.symm)
  refine g_put (C := RX4) (T := TX4) (N := 26) (ci := 4) (fs := [.int (σ 30 0), .int (σ 0 0), .int (nI (ν 1 0)), .ref (ad 6 0), .ref (ad 7 0), .ref (ad 8 0), .ref (ad 9 0), .int (σ 1 0), .int (σ 2 0), .int (σ 3 0), .int (σ 31 0), .int (σ 32 0), .int (nI (ν 0 0)), .ref (ad 18 0), .ref (ad 17 0), .ref (ad 16 0), .ref (ad 10 0), .ref (ad 11 0), .ref (ad 12 0), .ref (ad 13 0), .ref (ad 14 0), .ref (ad 15 0), .int (nI (ν 6 0)), .ref (ad 34 0), .ref (ad 35 0), .ref (ad 36 0)]) (A := (wA cM ad s.heap.size)) hx hb hts inX4 tyX4 tyX4_ok nmX4 hown hK (hB 0 0 Nat.zero_lt_one) rfl hS (wA.in (k := 0) (i := 0) Nat.zero_lt_one) 22 (by decide) lk83 rfl rfl rfl rfl (Nat.le_of_ble_eq_true rfl) dX4_laySegments_2 (fun H1 locs1 hc1 hu1 hS1 => ?_)
  have hB1 : MW D cy ad σ (up2 ν 6 0 0) H1 := hB.nc hJ (by decide) hc1 hu1
  obtain ⟨ν1, hs1⟩ : ∃ z : NT, z = up2 ν 6 0 0 := ⟨_, rfl⟩
  rw [← hs1] at hB1
  refine lv_iconst (v := 0) hx hb dX4_laySegments_5 (by decide) ?_
  refine lv_topi (fun y2 ey2 => ?_)
  obtain rfl : y2 = nI 0 := ey2.trans (nI_0.symm)
  refine lv_istore_n (lv' := [(1, .int (nI 0)), (0, .ref (ad 0 0))]) hx hb dX4_laySegments_6 rfl hl (by decide) rfl (fun ls hl => ?_)
  have loop : ∀ (k : Nat) (i : Nat) (H9 : Heap) (locs9 : List Loc) (ν9 : NT) (ls : Array Slot), i ≤ ν 1 0 → ν 1 0 < i + k → MW D cy ad σ ν9 H9 → va_S (wA cM ad s.heap.size) s.heap H9 locs9 → ν9 = layN (σ 6) ν i → lv_has ls 3 [(0, .ref (ad 0 0)), (1, .int (nI i))] → W p l e (headSpec wsX4_laySegments ({ frames := 0, cells := 0, slots := 0, locals := 0 } : Room)).room s m ([.ref (ad 0 0)] : List Value).toArray below meth c H9 locs9 0 0 (MQ below (uQ none (MW D cy ad σ (layN (σ 6) ν (ν 1 0))) (wA cM ad s.heap.size)) ([.ref (ad 0 0)] : List Value).toArray s 0 0 (wA cM ad s.heap.size)) (F0 m 7 ls []) := by
    intro k
    induction k with
    | zero => intro i H9 locs9 ν9 ls hi hk hB9 hS9 hν hl; exfalso; omega
    | succ k loop_ih =>
      intro i H9 locs9 ν9 ls hi hk hB9 hS9 hν hl
      refine lv_iload_n hx hb dX4_laySegments_7 rfl (lv_at hl 1 rfl) ?_
      refine lv_aload_n hx hb dX4_laySegments_8 rfl (lv_at hl 0 rfl) ?_
      refine g_get (C := RX4) (T := TX4) (N := 26) (ci := 4) (fs := [.int (σ 30 0), .int (σ 0 0), .int (nI (ν9 1 0)), .ref (ad 6 0), .ref (ad 7 0), .ref (ad 8 0), .ref (ad 9 0), .int (σ 1 0), .int (σ 2 0), .int (σ 3 0), .int (σ 31 0), .int (σ 32 0), .int (nI (ν9 0 0)), .ref (ad 18 0), .ref (ad 17 0), .ref (ad 16 0), .ref (ad 10 0), .ref (ad 11 0), .ref (ad 12 0), .ref (ad 13 0), .ref (ad 14 0), .ref (ad 15 0), .int (nI (ν9 6 0)), .ref (ad 34 0), .ref (ad 35 0), .ref (ad 36 0)]) hx hb hts inX4 hown hK (hB9 0 0 Nat.zero_lt_one) rfl 2 (by decide) lk86 rfl rfl dX4_laySegments_9 ?_
      refine lv_icmp_ge (tgt := 115) hx hb dX4_laySegments_12 (by decide) (fun c_12 => ?_) (fun c_12 => ?_)
      · -- 12 t
        have e1 : ν9 1 0 = ν 1 0 := by rw [hν, layN_keep] <;> decide
        rw [e1] at c_12
        have hie : i = ν 1 0 := by have := (nI_leI (by omega) (by omega)).mp c_12; omega
        exact g_vretU hx hb hr hlocks hS9 (by rw [hν, hie] at hB9; exact hB9) (Nat.le_refl _) (Nat.le_refl _) dX4_laySegments_115
      · -- 12 f
        have e1 : ν9 1 0 = ν 1 0 := by rw [hν, layN_keep] <;> decide
        rw [e1] at c_12
        have hlt : i < ν 1 0 := Nat.not_le.mp fun q => c_12 ((nI_leI (by omega) (by omega)).mpr q)
        have hsg := layN_seg (f := σ 6) (ν := ν) i
        rw [← hν] at hsg
        have hstep : layN (σ 6) ν (i + 1) = if σ 6 i = 47 then ν9 else if i = 0 ∨ σ 6 (i - 1) = 47 then up2 (up2 (up2 (up2 ν9 7 (ν9 6 0) i) 8 (ν9 6 0) 0) 6 0 (ν9 6 0 + 1)) 8 (ν9 6 0) 1 else up2 ν9 8 (ν9 6 0 - 1) (ν9 8 (ν9 6 0 - 1) + 1) := by rw [layN, ← hν]
        refine lv_iload_n hx hb dX4_laySegments_15 rfl (lv_at hl 1 rfl) ?_
        have k_37 : ∀ z9 : Int32, z9 = zb (decide (i = 0 ∨ σ 6 (i - 1) = 47)) → W p l e (headSpec wsX4_laySegments ({ frames := 0, cells := 0, slots := 0, locals := 0 } : Room)).room s m ([.ref (ad 0 0)] : List Value).toArray below meth c H9 locs9 0 0 (MQ below (uQ none (MW D cy ad σ (layN (σ 6) ν (ν 1 0))) (wA cM ad s.heap.size)) ([.ref (ad 0 0)] : List Value).toArray s 0 0 (wA cM ad s.heap.size)) (F0 m 37 ls [.int z9]) := by
          intro z9 ez9
          refine lv_istore_n (lv' := [(2, .int z9), (0, .ref (ad 0 0)), (1, .int (nI i))]) hx hb dX4_laySegments_37 rfl hl (by decide) rfl (fun ls hl => ?_)
          refine lv_aload_n hx hb dX4_laySegments_38 rfl (lv_at hl 1 rfl) ?_
          refine g_get (C := RX4) (T := TX4) (N := 26) (ci := 4) (fs := [.int (σ 30 0), .int (σ 0 0), .int (nI (ν9 1 0)), .ref (ad 6 0), .ref (ad 7 0), .ref (ad 8 0), .ref (ad 9 0), .int (σ 1 0), .int (σ 2 0), .int (σ 3 0), .int (σ 31 0), .int (σ 32 0), .int (nI (ν9 0 0)), .ref (ad 18 0), .ref (ad 17 0), .ref (ad 16 0), .ref (ad 10 0), .ref (ad 11 0), .ref (ad 12 0), .ref (ad 13 0), .ref (ad 14 0), .ref (ad 15 0), .int (nI (ν9 6 0)), .ref (ad 34 0), .ref (ad 35 0), .ref (ad 36 0)]) hx hb hts inX4 hown hK (hB9 0 0 Nat.zero_lt_one) rfl 3 (by decide) lk7 rfl rfl dX4_laySegments_39 ?_
          refine lv_iload_n hx hb dX4_laySegments_42 rfl (lv_at hl 2 rfl) ?_
          refine g_iald (f := σ 6) (x := σ 6 i) hx hb hK (hB9 6 0 Nat.zero_lt_one) (vp_in_nI (N := 30) (by omega) (by decide)) (by rw [cl_nI (by omega)]) dX4_laySegments_43 ?_
          refine lv_bipush (v := 47) hx hb dX4_laySegments_44 (by decide) ?_
          refine lv_icmp_eq (tgt := 83) hx hb dX4_laySegments_46 (by decide) (fun c_46 => ?_) (fun c_46 => ?_)
          · -- 46 t
            refine lv_aload_n hx hb dX4_laySegments_83 rfl (lv_at hl 1 rfl) ?_
            refine g_get (C := RX4) (T := TX4) (N := 26) (ci := 4) (fs := [.int (σ 30 0), .int (σ 0 0), .int (nI (ν9 1 0)), .ref (ad 6 0), .ref (ad 7 0), .ref (ad 8 0), .ref (ad 9 0), .int (σ 1 0), .int (σ 2 0), .int (σ 3 0), .int (σ 31 0), .int (σ 32 0), .int (nI (ν9 0 0)), .ref (ad 18 0), .ref (ad 17 0), .ref (ad 16 0), .ref (ad 10 0), .ref (ad 11 0), .ref (ad 12 0), .ref (ad 13 0), .ref (ad 14 0), .ref (ad 15 0), .int (nI (ν9 6 0)), .ref (ad 34 0), .ref (ad 35 0), .ref (ad 36 0)]) hx hb hts inX4 hown hK (hB9 0 0 Nat.zero_lt_one) rfl 3 (by decide) lk7 rfl rfl dX4_laySegments_84 ?_
            refine lv_iload_n hx hb dX4_laySegments_87 rfl (lv_at hl 2 rfl) ?_
            refine g_iald (f := σ 6) (x := σ 6 i) hx hb hK (hB9 6 0 Nat.zero_lt_one) (vp_in_nI (N := 30) (by omega) (by decide)) (by rw [cl_nI (by omega)]) dX4_laySegments_88 ?_
            refine lv_bipush (v := 47) hx hb dX4_laySegments_89 (by decide) ?_
            refine lv_icmp_eq (tgt := 109) hx hb dX4_laySegments_91 (by decide) (fun c_91 => ?_) (fun c_91 => ?_)
            · -- 91 t
              refine lv_iinc (v := nI (i + 1)) (lv' := [(1, .int (nI (i + 1))), (2, .int z9), (0, .ref (ad 0 0))]) hx hb dX4_laySegments_109 hl (k := 2) rfl (nI_1 i) (by decide) rfl (fun ls hl => ?_)
              refine lv_goto (tgt := 7) hx hb dX4_laySegments_112 (by decide) ?_
              exact loop_ih (i + 1) H9 locs9 ν9 ls (by omega) (by omega) hB9 hS9 (by rw [hstep, if_pos c_46]) (lv_sub hl [2, 0] rfl)
            · -- 91 f
              exact absurd c_46 c_91
          · -- 46 f
            refine lv_iload_n hx hb dX4_laySegments_49 rfl (lv_at hl 0 rfl) ?_
            refine lv_if_eq (tgt := 83) hx hb dX4_laySegments_50 (by decide) (fun c_50 => ?_) (fun c_50 => ?_)
            · -- 50 t
              rw [ez9] at c_50
              have nf := of_decide_eq_false (zb_0.mp c_50)
              refine lv_aload_n hx hb dX4_laySegments_83 rfl (lv_at hl 1 rfl) ?_
              refine g_get (C := RX4) (T := TX4) (N := 26) (ci := 4) (fs := [.int (σ 30 0), .int (σ 0 0), .int (nI (ν9 1 0)), .ref (ad 6 0), .ref (ad 7 0), .ref (ad 8 0), .ref (ad 9 0), .int (σ 1 0), .int (σ 2 0), .int (σ 3 0), .int (σ 31 0), .int (σ 32 0), .int (nI (ν9 0 0)), .ref (ad 18 0), .ref (ad 17 0), .ref (ad 16 0), .ref (ad 10 0), .ref (ad 11 0), .ref (ad 12 0), .ref (ad 13 0), .ref (ad 14 0), .ref (ad 15 0), .int (nI (ν9 6 0)), .ref (ad 34 0), .ref (ad 35 0), .ref (ad 36 0)]) hx hb hts inX4 hown hK (hB9 0 0 Nat.zero_lt_one) rfl 3 (by decide) lk7 rfl rfl dX4_laySegments_84 ?_
              refine lv_iload_n hx hb dX4_laySegments_87 rfl (lv_at hl 2 rfl) ?_
              refine g_iald (f := σ 6) (x := σ 6 i) hx hb hK (hB9 6 0 Nat.zero_lt_one) (vp_in_nI (N := 30) (by omega) (by decide)) (by rw [cl_nI (by omega)]) dX4_laySegments_88 ?_
              refine lv_bipush (v := 47) hx hb dX4_laySegments_89 (by decide) ?_
              refine lv_icmp_eq (tgt := 109) hx hb dX4_laySegments_91 (by decide) (fun c_91 => ?_) (fun c_91 => ?_)
              · -- 91 t
                exact absurd c_91 c_46
              · -- 91 f
                refine lv_aload_n hx hb dX4_laySegments_94 rfl (lv_at hl 1 rfl) ?_
                refine g_get (C := RX4) (T := TX4) (N := 26) (ci := 4) (fs := [.int (σ 30 0), .int (σ 0 0), .int (nI (ν9 1 0)), .ref (ad 6 0), .ref (ad 7 0), .ref (ad 8 0), .ref (ad 9 0), .int (σ 1 0), .int (σ 2 0), .int (σ 3 0), .int (σ 31 0), .int (σ 32 0), .int (nI (ν9 0 0)), .ref (ad 18 0), .ref (ad 17 0), .ref (ad 16 0), .ref (ad 10 0), .ref (ad 11 0), .ref (ad 12 0), .ref (ad 13 0), .ref (ad 14 0), .ref (ad 15 0), .int (nI (ν9 6 0)), .ref (ad 34 0), .ref (ad 35 0), .ref (ad 36 0)]) hx hb hts inX4 hown hK (hB9 0 0 Nat.zero_lt_one) rfl 24 (by decide) lk63 rfl rfl dX4_laySegments_95 ?_
                refine lv_aload_n hx hb dX4_laySegments_98 rfl (lv_at hl 1 rfl) ?_
                refine g_get (C := RX4) (T := TX4) (N := 26) (ci := 4) (fs := [.int (σ 30 0), .int (σ 0 0), .int (nI (ν9 1 0)), .ref (ad 6 0), .ref (ad 7 0), .ref (ad 8 0), .ref (ad 9 0), .int (σ 1 0), .int (σ 2 0), .int (σ 3 0), .int (σ 31 0), .int (σ 32 0), .int (nI (ν9 0 0)), .ref (ad 18 0), .ref (ad 17 0), .ref (ad 16 0), .ref (ad 10 0), .ref (ad 11 0), .ref (ad 12 0), .ref (ad 13 0), .ref (ad 14 0), .ref (ad 15 0), .int (nI (ν9 6 0)), .ref (ad 34 0), .ref (ad 35 0), .ref (ad 36 0)]) hx hb hts inX4 hown hK (hB9 0 0 Nat.zero_lt_one) rfl 22 (by decide) lk83 rfl rfl dX4_laySegments_99 ?_
                refine lv_iconst (v := 1) hx hb dX4_laySegments_102 (by decide) ?_
                refine lv_isub hx hb dX4_laySegments_103 ?_
                obtain ⟨qq, hqq⟩ : ∃ q, q = ν9 6 0 - 1 := ⟨_, rfl⟩
                have hq1 : 1 ≤ ν9 6 0 ∧ ν9 6 0 ≤ 15 := by have := hsg.2.2 ⟨by omega, fun e => nf (Or.inr e)⟩; omega
                refine lv_topi (fun y3 ey3 => ?_)
                obtain rfl : y3 = nI qq := ey3.trans (by rw [hqq]; exact pk_sub (b := 1) hq1.1)
                refine lv_dup2_11 hx hb dX4_laySegments_104 rfl rfl ?_
                refine g_iald (f := fun j => nI (ν9 8 j)) (x := nI (ν9 8 qq)) hx hb hK (hB9 35 0 Nat.zero_lt_one) (vp_in_nI (N := 15) (by omega) (by decide)) (by rw [cl_nI (by omega)]) dX4_laySegments_105 ?_
                refine lv_iconst (v := 1) hx hb dX4_laySegments_106 (by decide) ?_
                refine lv_iadd hx hb dX4_laySegments_107 ?_
                refine lv_topi (fun y4 ey4 => ?_)
                obtain rfl : y4 = nI (ν9 8 qq + 1) := ey4.trans (nI_1 _)
                refine g_iast (f := fun j => nI (ν9 8 j)) (A := (wA cM ad s.heap.size)) hx hb hK (hB9 35 0 Nat.zero_lt_one) hS9 (wA.in (k := 35) (i := 0) Nat.zero_lt_one) (vp_in_nI (N := 15) (by omega) (by decide)) dX4_laySegments_108 (fun H2 locs2 hc2 hu2 hS2 => ?_)
                have hB2 : MW D cy ad σ (up2 ν9 8 qq (ν9 8 qq + 1)) H2 := hB9.nst hJ 35 8 (by decide) (cl_nI (by omega)) hc2 hu2
                obtain ⟨ν2, hs2⟩ : ∃ z : NT, z = up2 ν9 8 qq (ν9 8 qq + 1) := ⟨_, rfl⟩
                rw [← hs2] at hB2
                refine lv_iinc (v := nI (i + 1)) (lv' := [(1, .int (nI (i + 1))), (2, .int z9), (0, .ref (ad 0 0))]) hx hb dX4_laySegments_109 hl (k := 2) rfl (nI_1 i) (by decide) rfl (fun ls hl => ?_)
                refine lv_goto (tgt := 7) hx hb dX4_laySegments_112 (by decide) ?_
                exact loop_ih (i + 1) H2 locs2 ν2 ls (by omega) (by omega) hB2 hS2 (by rw [hstep, if_neg c_46, if_neg nf, ← hqq]; exact hs2) (lv_sub hl [2, 0] rfl)
            · -- 50 f
              rw [ez9] at c_50
              have nf := of_decide_eq_true (zb_n0.mp c_50)
              have hlt15 : 2 * ν9 6 0 ≤ i := hsg.2.1 nf
              refine lv_aload_n hx hb dX4_laySegments_53 rfl (lv_at hl 1 rfl) ?_
              refine g_get (C := RX4) (T := TX4) (N := 26) (ci := 4) (fs := [.int (σ 30 0), .int (σ 0 0), .int (nI (ν9 1 0)), .ref (ad 6 0), .ref (ad 7 0), .ref (ad 8 0), .ref (ad 9 0), .int (σ 1 0), .int (σ 2 0), .int (σ 3 0), .int (σ 31 0), .int (σ 32 0), .int (nI (ν9 0 0)), .ref (ad 18 0), .ref (ad 17 0), .ref (ad 16 0), .ref (ad 10 0), .ref (ad 11 0), .ref (ad 12 0), .ref (ad 13 0), .ref (ad 14 0), .ref (ad 15 0), .int (nI (ν9 6 0)), .ref (ad 34 0), .ref (ad 35 0), .ref (ad 36 0)]) hx hb hts inX4 hown hK (hB9 0 0 Nat.zero_lt_one) rfl 23 (by decide) lk60 rfl rfl dX4_laySegments_54 ?_
              refine lv_aload_n hx hb dX4_laySegments_57 rfl (lv_at hl 1 rfl) ?_
              refine g_get (C := RX4) (T := TX4) (N := 26) (ci := 4) (fs := [.int (σ 30 0), .int (σ 0 0), .int (nI (ν9 1 0)), .ref (ad 6 0), .ref (ad 7 0), .ref (ad 8 0), .ref (ad 9 0), .int (σ 1 0), .int (σ 2 0), .int (σ 3 0), .int (σ 31 0), .int (σ 32 0), .int (nI (ν9 0 0)), .ref (ad 18 0), .ref (ad 17 0), .ref (ad 16 0), .ref (ad 10 0), .ref (ad 11 0), .ref (ad 12 0), .ref (ad 13 0), .ref (ad 14 0), .ref (ad 15 0), .int (nI (ν9 6 0)), .ref (ad 34 0), .ref (ad 35 0), .ref (ad 36 0)]) hx hb hts inX4 hown hK (hB9 0 0 Nat.zero_lt_one) rfl 22 (by decide) lk83 rfl rfl dX4_laySegments_58 ?_
              refine lv_iload_n hx hb dX4_laySegments_61 rfl (lv_at hl 2 rfl) ?_
              refine g_iast (f := fun j => nI (ν9 7 j)) (A := (wA cM ad s.heap.size)) hx hb hK (hB9 34 0 Nat.zero_lt_one) hS9 (wA.in (k := 34) (i := 0) Nat.zero_lt_one) (vp_in_nI (N := 15) (by omega) (by decide)) dX4_laySegments_62 (fun H3 locs3 hc3 hu3 hS3 => ?_)
              have hB3 : MW D cy ad σ (up2 ν9 7 (ν9 6 0) i) H3 := hB9.nst hJ 34 7 (by decide) (cl_nI (by omega)) hc3 hu3
              obtain ⟨ν3, hs3⟩ : ∃ z : NT, z = up2 ν9 7 (ν9 6 0) i := ⟨_, rfl⟩
              rw [← hs3] at hB3
              have b62 : ν3 6 0 < 15 := by rw [hs3, up2_k (by decide)]; omega
              refine lv_aload_n hx hb dX4_laySegments_63 rfl (lv_at hl 1 rfl) ?_
              refine g_get (C := RX4) (T := TX4) (N := 26) (ci := 4) (fs := [.int (σ 30 0), .int (σ 0 0), .int (nI (ν3 1 0)), .ref (ad 6 0), .ref (ad 7 0), .ref (ad 8 0), .ref (ad 9 0), .int (σ 1 0), .int (σ 2 0), .int (σ 3 0), .int (σ 31 0), .int (σ 32 0), .int (nI (ν3 0 0)), .ref (ad 18 0), .ref (ad 17 0), .ref (ad 16 0), .ref (ad 10 0), .ref (ad 11 0), .ref (ad 12 0), .ref (ad 13 0), .ref (ad 14 0), .ref (ad 15 0), .int (nI (ν3 6 0)), .ref (ad 34 0), .ref (ad 35 0), .ref (ad 36 0)]) hx hb hts inX4 hown hK (hB3 0 0 Nat.zero_lt_one) rfl 24 (by decide) lk63 rfl rfl dX4_laySegments_64 ?_
              refine lv_aload_n hx hb dX4_laySegments_67 rfl (lv_at hl 1 rfl) ?_
              refine g_get (C := RX4) (T := TX4) (N := 26) (ci := 4) (fs := [.int (σ 30 0), .int (σ 0 0), .int (nI (ν3 1 0)), .ref (ad 6 0), .ref (ad 7 0), .ref (ad 8 0), .ref (ad 9 0), .int (σ 1 0), .int (σ 2 0), .int (σ 3 0), .int (σ 31 0), .int (σ 32 0), .int (nI (ν3 0 0)), .ref (ad 18 0), .ref (ad 17 0), .ref (ad 16 0), .ref (ad 10 0), .ref (ad 11 0), .ref (ad 12 0), .ref (ad 13 0), .ref (ad 14 0), .ref (ad 15 0), .int (nI (ν3 6 0)), .ref (ad 34 0), .ref (ad 35 0), .ref (ad 36 0)]) hx hb hts inX4 hown hK (hB3 0 0 Nat.zero_lt_one) rfl 22 (by decide) lk83 rfl rfl dX4_laySegments_68 ?_
              refine lv_iconst (v := 0) hx hb dX4_laySegments_71 (by decide) ?_
              refine lv_topi (fun y5 ey5 => ?_)
              obtain rfl : y5 = nI 0 := ey5.trans (nI_0.symm)
              refine g_iast (f := fun j => nI (ν3 8 j)) (A := (wA cM ad s.heap.size)) hx hb hK (hB3 35 0 Nat.zero_lt_one) hS3 (wA.in (k := 35) (i := 0) Nat.zero_lt_one) (vp_in_nI (N := 15) (by omega) (by decide)) dX4_laySegments_72 (fun H4 locs4 hc4 hu4 hS4 => ?_)
              have hB4 : MW D cy ad σ (up2 ν3 8 (ν3 6 0) 0) H4 := hB3.nst hJ 35 8 (by decide) (cl_nI (by omega)) hc4 hu4
              obtain ⟨ν4, hs4⟩ : ∃ z : NT, z = up2 ν3 8 (ν3 6 0) 0 := ⟨_, rfl⟩
              rw [← hs4] at hB4
              refine lv_aload_n hx hb dX4_laySegments_73 rfl (lv_at hl 1 rfl) ?_
              refine lv_dup hx hb dX4_laySegments_74 rfl ?_
              refine g_get (C := RX4) (T := TX4) (N := 26) (ci := 4) (fs := [.int (σ 30 0), .int (σ 0 0), .int (nI (ν4 1 0)), .ref (ad 6 0), .ref (ad 7 0), .ref (ad 8 0), .ref (ad 9 0), .int (σ 1 0), .int (σ 2 0), .int (σ 3 0), .int (σ 31 0), .int (σ 32 0), .int (nI (ν4 0 0)), .ref (ad 18 0), .ref (ad 17 0), .ref (ad 16 0), .ref (ad 10 0), .ref (ad 11 0), .ref (ad 12 0), .ref (ad 13 0), .ref (ad 14 0), .ref (ad 15 0), .int (nI (ν4 6 0)), .ref (ad 34 0), .ref (ad 35 0), .ref (ad 36 0)]) hx hb hts inX4 hown hK (hB4 0 0 Nat.zero_lt_one) rfl 22 (by decide) lk83 rfl rfl dX4_laySegments_75 ?_
              refine lv_iconst (v := 1) hx hb dX4_laySegments_78 (by decide) ?_
              refine lv_iadd hx hb dX4_laySegments_79 ?_
              refine lv_topi (fun y6 ey6 => ?_)
              obtain rfl : y6 = nI (ν4 6 0 + 1) := ey6.trans (nI_1 _)
              refine g_put (C := RX4) (T := TX4) (N := 26) (ci := 4) (fs := [.int (σ 30 0), .int (σ 0 0), .int (nI (ν4 1 0)), .ref (ad 6 0), .ref (ad 7 0), .ref (ad 8 0), .ref (ad 9 0), .int (σ 1 0), .int (σ 2 0), .int (σ 3 0), .int (σ 31 0), .int (σ 32 0), .int (nI (ν4 0 0)), .ref (ad 18 0), .ref (ad 17 0), .ref (ad 16 0), .ref (ad 10 0), .ref (ad 11 0), .ref (ad 12 0), .ref (ad 13 0), .ref (ad 14 0), .ref (ad 15 0), .int (nI (ν4 6 0)), .ref (ad 34 0), .ref (ad 35 0), .ref (ad 36 0)]) (A := (wA cM ad s.heap.size)) hx hb hts inX4 tyX4 tyX4_ok nmX4 hown hK (hB4 0 0 Nat.zero_lt_one) rfl hS4 (wA.in (k := 0) (i := 0) Nat.zero_lt_one) 22 (by decide) lk83 rfl rfl rfl rfl (Nat.le_of_ble_eq_true rfl) dX4_laySegments_80 (fun H5 locs5 hc5 hu5 hS5 => ?_)
              have hB5 : MW D cy ad σ (up2 ν4 6 0 (ν4 6 0 + 1)) H5 := hB4.nc hJ (by decide) hc5 hu5
              obtain ⟨ν5, hs5⟩ : ∃ z : NT, z = up2 ν4 6 0 (ν4 6 0 + 1) := ⟨_, rfl⟩
              rw [← hs5] at hB5
              refine lv_aload_n hx hb dX4_laySegments_83 rfl (lv_at hl 1 rfl) ?_
              refine g_get (C := RX4) (T := TX4) (N := 26) (ci := 4) (fs := [.int (σ 30 0), .int (σ 0 0), .int (nI (ν5 1 0)), .ref (ad 6 0), .ref (ad 7 0), .ref (ad 8 0), .ref (ad 9 0), .int (σ 1 0), .int (σ 2 0), .int (σ 3 0), .int (σ 31 0), .int (σ 32 0), .int (nI (ν5 0 0)), .ref (ad 18 0), .ref (ad 17 0), .ref (ad 16 0), .ref (ad 10 0), .ref (ad 11 0), .ref (ad 12 0), .ref (ad 13 0), .ref (ad 14 0), .ref (ad 15 0), .int (nI (ν5 6 0)), .ref (ad 34 0), .ref (ad 35 0), .ref (ad 36 0)]) hx hb hts inX4 hown hK (hB5 0 0 Nat.zero_lt_one) rfl 3 (by decide) lk7 rfl rfl dX4_laySegments_84 ?_
              refine lv_iload_n hx hb dX4_laySegments_87 rfl (lv_at hl 2 rfl) ?_
              refine g_iald (f := σ 6) (x := σ 6 i) hx hb hK (hB5 6 0 Nat.zero_lt_one) (vp_in_nI (N := 30) (by omega) (by decide)) (by rw [cl_nI (by omega)]) dX4_laySegments_88 ?_
              refine lv_bipush (v := 47) hx hb dX4_laySegments_89 (by decide) ?_
              refine lv_icmp_eq (tgt := 109) hx hb dX4_laySegments_91 (by decide) (fun c_91 => ?_) (fun c_91 => ?_)
              · -- 91 t
                exact absurd c_91 c_46
              · -- 91 f
                refine lv_aload_n hx hb dX4_laySegments_94 rfl (lv_at hl 1 rfl) ?_
                refine g_get (C := RX4) (T := TX4) (N := 26) (ci := 4) (fs := [.int (σ 30 0), .int (σ 0 0), .int (nI (ν5 1 0)), .ref (ad 6 0), .ref (ad 7 0), .ref (ad 8 0), .ref (ad 9 0), .int (σ 1 0), .int (σ 2 0), .int (σ 3 0), .int (σ 31 0), .int (σ 32 0), .int (nI (ν5 0 0)), .ref (ad 18 0), .ref (ad 17 0), .ref (ad 16 0), .ref (ad 10 0), .ref (ad 11 0), .ref (ad 12 0), .ref (ad 13 0), .ref (ad 14 0), .ref (ad 15 0), .int (nI (ν5 6 0)), .ref (ad 34 0), .ref (ad 35 0), .ref (ad 36 0)]) hx hb hts inX4 hown hK (hB5 0 0 Nat.zero_lt_one) rfl 24 (by decide) lk63 rfl rfl dX4_laySegments_95 ?_
                refine lv_aload_n hx hb dX4_laySegments_98 rfl (lv_at hl 1 rfl) ?_
                refine g_get (C := RX4) (T := TX4) (N := 26) (ci := 4) (fs := [.int (σ 30 0), .int (σ 0 0), .int (nI (ν5 1 0)), .ref (ad 6 0), .ref (ad 7 0), .ref (ad 8 0), .ref (ad 9 0), .int (σ 1 0), .int (σ 2 0), .int (σ 3 0), .int (σ 31 0), .int (σ 32 0), .int (nI (ν5 0 0)), .ref (ad 18 0), .ref (ad 17 0), .ref (ad 16 0), .ref (ad 10 0), .ref (ad 11 0), .ref (ad 12 0), .ref (ad 13 0), .ref (ad 14 0), .ref (ad 15 0), .int (nI (ν5 6 0)), .ref (ad 34 0), .ref (ad 35 0), .ref (ad 36 0)]) hx hb hts inX4 hown hK (hB5 0 0 Nat.zero_lt_one) rfl 22 (by decide) lk83 rfl rfl dX4_laySegments_99 ?_
                refine lv_iconst (v := 1) hx hb dX4_laySegments_102 (by decide) ?_
                refine lv_isub hx hb dX4_laySegments_103 ?_
                obtain ⟨qq, hqq⟩ : ∃ q, q = ν5 6 0 - 1 := ⟨_, rfl⟩
                have hq1 : 1 ≤ ν5 6 0 ∧ ν5 6 0 ≤ 15 := by rw [hs5, up2_s, hs4, up2_k (by decide), hs3, up2_k (by decide)]; omega
                refine lv_topi (fun y7 ey7 => ?_)
                obtain rfl : y7 = nI qq := ey7.trans (by rw [hqq]; exact pk_sub (b := 1) hq1.1)
                refine lv_dup2_11 hx hb dX4_laySegments_104 rfl rfl ?_
                refine g_iald (f := fun j => nI (ν5 8 j)) (x := nI (ν5 8 qq)) hx hb hK (hB5 35 0 Nat.zero_lt_one) (vp_in_nI (N := 15) (by omega) (by decide)) (by rw [cl_nI (by omega)]) dX4_laySegments_105 ?_
                refine lv_iconst (v := 1) hx hb dX4_laySegments_106 (by decide) ?_
                refine lv_iadd hx hb dX4_laySegments_107 ?_
                refine lv_topi (fun y8 ey8 => ?_)
                obtain rfl : y8 = nI (ν5 8 qq + 1) := ey8.trans (nI_1 _)
                refine g_iast (f := fun j => nI (ν5 8 j)) (A := (wA cM ad s.heap.size)) hx hb hK (hB5 35 0 Nat.zero_lt_one) hS5 (wA.in (k := 35) (i := 0) Nat.zero_lt_one) (vp_in_nI (N := 15) (by omega) (by decide)) dX4_laySegments_108 (fun H6 locs6 hc6 hu6 hS6 => ?_)
                have hB6 : MW D cy ad σ (up2 ν5 8 qq (ν5 8 qq + 1)) H6 := hB5.nst hJ 35 8 (by decide) (cl_nI (by omega)) hc6 hu6
                obtain ⟨ν6, hs6⟩ : ∃ z : NT, z = up2 ν5 8 qq (ν5 8 qq + 1) := ⟨_, rfl⟩
                rw [← hs6] at hB6
                refine lv_iinc (v := nI (i + 1)) (lv' := [(1, .int (nI (i + 1))), (2, .int z9), (0, .ref (ad 0 0))]) hx hb dX4_laySegments_109 hl (k := 2) rfl (nI_1 i) (by decide) rfl (fun ls hl => ?_)
                refine lv_goto (tgt := 7) hx hb dX4_laySegments_112 (by decide) ?_
                exact loop_ih (i + 1) H6 locs6 ν6 ls (by omega) (by omega) hB6 hS6 (by rw [hstep, if_neg c_46, if_pos nf, hs6, hqq, hs5]; simp only [hs4, hs3, up2_s, Nat.add_sub_cancel]; simp only [up2_k (show (6:Nat) ≠ 8 by decide), up2_k (show (6:Nat) ≠ 7 by decide), up2_k (show (8:Nat) ≠ 6 by decide), up2_s, Nat.add_sub_cancel]) (lv_sub hl [2, 0] rfl)
        refine lv_if_eq (tgt := 32) hx hb dX4_laySegments_16 (by decide) (fun c_16 => ?_) (fun c_16 => ?_)
        · -- 16 t
          refine lv_iconst (v := 1) hx hb dX4_laySegments_32 (by decide) ?_
          refine lv_goto (tgt := 37) hx hb dX4_laySegments_33 (by decide) ?_
          exact k_37 _ (by rw [decide_eq_true (Or.inl (by rw [← nI_0] at c_16; exact (nI_eq (by omega) (by decide)).mp c_16))]; rfl)
        · -- 16 f
          refine lv_aload_n hx hb dX4_laySegments_19 rfl (lv_at hl 0 rfl) ?_
          refine g_get (C := RX4) (T := TX4) (N := 26) (ci := 4) (fs := [.int (σ 30 0), .int (σ 0 0), .int (nI (ν9 1 0)), .ref (ad 6 0), .ref (ad 7 0), .ref (ad 8 0), .ref (ad 9 0), .int (σ 1 0), .int (σ 2 0), .int (σ 3 0), .int (σ 31 0), .int (σ 32 0), .int (nI (ν9 0 0)), .ref (ad 18 0), .ref (ad 17 0), .ref (ad 16 0), .ref (ad 10 0), .ref (ad 11 0), .ref (ad 12 0), .ref (ad 13 0), .ref (ad 14 0), .ref (ad 15 0), .int (nI (ν9 6 0)), .ref (ad 34 0), .ref (ad 35 0), .ref (ad 36 0)]) hx hb hts inX4 hown hK (hB9 0 0 Nat.zero_lt_one) rfl 3 (by decide) lk7 rfl rfl dX4_laySegments_20 ?_
          refine lv_iload_n hx hb dX4_laySegments_23 rfl (lv_at hl 1 rfl) ?_
          refine lv_iconst (v := 1) hx hb dX4_laySegments_24 (by decide) ?_
          refine lv_isub hx hb dX4_laySegments_25 ?_
          have hi1 : 1 ≤ i := Nat.pos_of_ne_zero fun e => c_16 (by rw [e]; exact nI_0)
          refine lv_topi (fun y9 ey9 => ?_)
          obtain rfl : y9 = nI (i - 1) := ey9.trans (pk_sub (b := 1) hi1)
          refine g_iald (f := σ 6) (x := σ 6 (i - 1)) hx hb hK (hB9 6 0 Nat.zero_lt_one) (vp_in_nI (N := 30) (by omega) (by decide)) (by rw [cl_nI (by omega)]) dX4_laySegments_26 ?_
          refine lv_bipush (v := 47) hx hb dX4_laySegments_27 (by decide) ?_
          refine lv_icmp_ne (tgt := 36) hx hb dX4_laySegments_29 (by decide) (fun c_29 => ?_) (fun c_29 => ?_)
          · -- 29 t
            refine lv_iconst (v := 0) hx hb dX4_laySegments_36 (by decide) ?_
            exact k_37 _ (by rw [decide_eq_false (fun h => h.elim (fun e => c_16 (by rw [e]; exact nI_0)) c_29)]; rfl)
          · -- 29 f
            refine lv_iconst (v := 1) hx hb dX4_laySegments_32 (by decide) ?_
            refine lv_goto (tgt := 37) hx hb dX4_laySegments_33 (by decide) ?_
            exact k_37 _ (by rw [decide_eq_true (Or.inr c_29)]; rfl)
  exact loop (ν 1 0 + 1) 0 H1 locs1 ν1 ls (Nat.zero_le _) (by omega) hB1 hS1 hs1 (lv_sub hl [1, 0] rfl)
