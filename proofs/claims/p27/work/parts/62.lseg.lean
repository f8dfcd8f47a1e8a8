/-! the law: segments, traps, visits, spreads -/
def ltQ (c : Nat → Int32) (n k : Nat) : Int32 := if k < n then c k else 0
/-- segments found, the number of the segment that goes on, the rows of longs, behind k letters -/
def sgL (c : Nat → Int32) (n : Nat) (κ : LT) : Nat → Nat × Int64 × LT
  | 0 => (0, 0, κ)
  | k + 1 => if ltQ c n k = 0 then (if 0 < (sgL c n κ k).2.1 then ((sgL c n κ k).1 + 1, 0, up2 (sgL c n κ k).2.2 6 (sgL c n κ k).1 (sgL c n κ k).2.1) else ((sgL c n κ k).1, 0, (sgL c n κ k).2.2)) else ((sgL c n κ k).1, (sgL c n κ k).2.1 * 28 + (ltQ c n k).toInt64, (sgL c n κ k).2.2)
theorem sg_a {c : Nat → Int32} {n k m : Nat} {κ κ1 : LT} {w : Int64} (h : sgL c n κ k = (m, w, κ1)) (hx : ¬ ltQ c n k = 0) : sgL c n κ (k + 1) = (m, w * 28 + (ltQ c n k).toInt64, κ1) := by rw [sgL, if_neg hx, h]
theorem sg_b {c : Nat → Int32} {n k m : Nat} {κ κ1 : LT} {w : Int64} (h : sgL c n κ k = (m, w, κ1)) (hx : ltQ c n k = 0) (hw : ¬ 0 < w) : sgL c n κ (k + 1) = (m, 0, κ1) := by rw [sgL, if_pos hx, h, if_neg hw]
theorem sg_c {c : Nat → Int32} {n k m : Nat} {κ κ1 : LT} {w : Int64} (h : sgL c n κ k = (m, w, κ1)) (hx : ltQ c n k = 0) (hw : 0 < w) : sgL c n κ (k + 1) = (m + 1, 0, up2 κ1 6 m w) := by rw [sgL, if_pos hx, h, if_pos hw]
theorem sg_in {c : Nat → Int32} {n : Nat} {κ : LT} : ∀ k, 2 * (sgL c n κ k).1 ≤ k ∧ (0 < (sgL c n κ k).2.1 → 2 * (sgL c n κ k).1 + 1 ≤ k) := by
  intro k
  induction k with
  | zero => exact ⟨Nat.le_refl _, fun h => absurd (show (0 : Int64) < 0 from h) (by decide)⟩
  | succ k ih =>
    obtain ⟨m, w, κ1⟩ : Nat × Int64 × LT := sgL c n κ k
    rcases h : sgL c n κ k with ⟨m, w, κ1⟩
    rw [h] at ih
    by_cases hx : ltQ c n k = 0
    · by_cases hw : 0 < w
      · rw [sg_c h hx hw]
        have := ih.2 hw
        exact ⟨by show 2 * (m + 1) ≤ k + 1; simp only at this; omega, fun z => absurd (show (0 : Int64) < 0 from z) (by decide)⟩
      · rw [sg_b h hx hw]
        have := ih.1
        exact ⟨by show 2 * m ≤ k + 1; simp only at this; omega, fun z => absurd (show (0 : Int64) < 0 from z) (by decide)⟩
    · rw [sg_a h hx]
      have := ih.1
      exact ⟨by show 2 * m ≤ k + 1; simp only at this; omega, fun _ => by show 2 * m + 1 ≤ k + 1; simp only at this; omega⟩
theorem sg_le {c : Nat → Int32} {n k m : Nat} {κ κ1 : LT} {w : Int64} (h : sgL c n κ k = (m, w, κ1)) : 2 * m ≤ k := by
  have := (sg_in (c := c) (n := n) (κ := κ) k).1
  rw [h] at this; exact this
theorem sg_lt {c : Nat → Int32} {n k m : Nat} {κ κ1 : LT} {w : Int64} (h : sgL c n κ k = (m, w, κ1)) (hw : 0 < w) : 2 * m + 1 ≤ k := by
  have := (sg_in (c := c) (n := n) (κ := κ) k).2
  rw [h] at this; exact this hw
theorem cmp0_t {w : Int64} (h : lg_cmp w 0 ≤ 0) : ¬ 0 < w := fun z => Int64.not_lt.mpr ((lg_cmp_le w 0).mp h) z
theorem cmp0_f {w : Int64} (h : ¬ lg_cmp w 0 ≤ 0) : 0 < w := Int64.not_le.mp (fun z => h ((lg_cmp_le w 0).mpr z))
/-- three in a row, behind i looks -/
def trA (s : Nat → Int64) (m i : Nat) (b : Bool) : Bool := b || (decide (i + 2 < m) && (decide (s i = s (i + 1)) && decide (s i = s (i + 2))))
def trB (s : Nat → Int64) (m i : Nat) (b : Bool) : Bool := b || (decide (i + 5 < m) && (decide (s i = s (i + 2)) && (decide (s i = s (i + 4)) && (decide (s (i + 1) = s (i + 3)) && decide (s (i + 1) = s (i + 5))))))
def trQ (s : Nat → Int64) (m : Nat) : Nat → Bool
  | 0 => false
  | i + 1 => trB s m i (trA s m i (trQ s m i))
theorem trA_1 {s : Nat → Int64} {m i : Nat} {b : Bool} (h : b = true ∨ (i + 2 < m ∧ s i = s (i + 1) ∧ s i = s (i + 2))) : (1 : Int32) = zb (trA s m i b) := by
  rcases h with h | ⟨h1, h2, h3⟩
  · rw [trA, h]; rfl
  · rw [trA, decide_eq_true h1, decide_eq_true h2, decide_eq_true h3]; cases b <;> rfl
theorem trA_0 {s : Nat → Int64} {m i : Nat} {b : Bool} (h0 : b = false) (h : ¬ (i + 2 < m ∧ s i = s (i + 1) ∧ s i = s (i + 2))) : (0 : Int32) = zb (trA s m i b) := by
  have : trA s m i b = false := by
    rw [trA, h0, Bool.false_or, ← Bool.not_eq_true]
    simpa only [Bool.and_eq_true, decide_eq_true_iff] using h
  rw [this]; rfl
theorem trB_1 {s : Nat → Int64} {m i : Nat} {b : Bool} (h : b = true ∨ (i + 5 < m ∧ s i = s (i + 2) ∧ s i = s (i + 4) ∧ s (i + 1) = s (i + 3) ∧ s (i + 1) = s (i + 5))) : (1 : Int32) = zb (trB s m i b) := by
  rcases h with h | ⟨h1, h2, h3, h4, h5⟩
  · rw [trB, h]; rfl
  · rw [trB, decide_eq_true h1, decide_eq_true h2, decide_eq_true h3, decide_eq_true h4, decide_eq_true h5]; cases b <;> rfl
theorem trB_0 {s : Nat → Int64} {m i : Nat} {b : Bool} (h0 : b = false) (h : ¬ (i + 5 < m ∧ s i = s (i + 2) ∧ s i = s (i + 4) ∧ s (i + 1) = s (i + 3) ∧ s (i + 1) = s (i + 5))) : (0 : Int32) = zb (trB s m i b) := by
  have : trB s m i b = false := by
    rw [trB, h0, Bool.false_or, ← Bool.not_eq_true]
    simpa only [Bool.and_eq_true, decide_eq_true_iff] using h
  rw [this]; rfl
theorem cmpE {x y : Int64} (h : ¬ lg_cmp x y = 0) : ¬ x = y := fun z => h ((lg_cmp_eq x y).mpr z)
theorem cmpE' {x y : Int64} (h : lg_cmp x y = 0) : x = y := (lg_cmp_eq x y).mp h

set_option maxHeartbeats 4000000 in
set_option maxRecDepth 100000 in
/-- the law: segments -/
theorem m_L_segments (l : Launch) (D : va_G) (cy : Nat → ClassId) (sz : Nat) (bd : NT) (ρ : IT) (κ : LT) (hJ : wJ cL bd) (n : Nat) (hn : n ≤ 12) (h7 : ρ 0 7 = nI n) : Met l yL_segments wsL_segments ({ frames := 0, cells := 0, slots := 0, locals := 0 } : Room) (va_Pc [.ref (bd 4 0), .ref (bd 6 0), .ref (bd 0 0)] (fun U => gK D cy U ∧ (atSz sz (LW D cy bd ρ κ)) U.heap)) (uQ (some (.int (nI (sgL (ρ 4) n κ (n + 1)).1))) (LW D cy bd ρ (sgL (ρ 4) n κ (n + 1)).2.2) (wA cL bd sz)) 0 0 (wA cL bd sz) := by
  refine Met.ofW (cc := cL_segments) (maxL := 8) (ret := (some .int)) (by decide) rfl ?_
  intro p e s m args below meth c s₁ B9 hml hv
  obtain ⟨rfl, hK, hsz, hB⟩ := hv
  have hx := B9.exec
  have hb := B9.bytes
  have hr := B9.returns
  have hts := atoms_spec (ws := wsL_segments) B9.pre
  have hown : s.vm.findClass RL = some m.cls := findClass_of_methodNamed B9.named
  have hlocks := B9.notSynchronized
  subst hsz
  have hS : va_S (wA cL bd s.heap.size) s.heap s.heap [] := va_S.rf
  have hl := lv_entry ([.ref (bd 4 0), .ref (bd 6 0), .ref (bd 0 0)]) (n := 8) (Nat.le_of_ble_eq_true rfl)
  rw [lg_entry_eq]
  generalize (lg_sl ([.ref (bd 4 0), .ref (bd 6 0), .ref (bd 0 0)]) ++ List.replicate (8 - (lg_sl ([.ref (bd 4 0), .ref (bd 6 0), .ref (bd 0 0)])).length) Slot.unset).toArray = ls at hl ⊢
  have hl : lv_has ls 8 [(0, .ref (bd 4 0)), (1, .ref (bd 6 0)), (2, .ref (bd 0 0))] := hl
  refine lv_iconst (v := 0) hx hb dL_segments_0 (by decide) ?_
  refine lv_topi (fun y1 ey1 => ?_)
  obtain rfl : y1 = nI 0 := ey1.trans (nI_0.symm)
  refine lv_istore_n (lv' := [(3, .int (nI 0)), (0, .ref (bd 4 0)), (1, .ref (bd 6 0)), (2, .ref (bd 0 0))]) hx hb dL_segments_1 rfl hl (by decide) rfl (fun ls hl => ?_)
  refine lv_lconst (v := 0) hx hb dL_segments_2 rfl ?_
  refine lv_lstore (lv' := [(4, .long 0), (3, .int (nI 0)), (0, .ref (bd 4 0)), (1, .ref (bd 6 0)), (2, .ref (bd 0 0))]) hx hb dL_segments_3 hl (by decide) rfl (fun ls hl => ?_)
  refine lv_iconst (v := 0) hx hb dL_segments_5 (by decide) ?_
  refine lv_topi (fun y2 ey2 => ?_)
  obtain rfl : y2 = nI 0 := ey2.trans (nI_0.symm)
  refine lv_istore (lv' := [(6, .int (nI 0)), (4, .long 0), (3, .int (nI 0)), (0, .ref (bd 4 0)), (1, .ref (bd 6 0)), (2, .ref (bd 0 0))]) hx hb dL_segments_6 hl (by decide) rfl (fun ls hl => ?_)
  have loop : ∀ (k : Nat) (i : Nat) (H9 : Heap) (locs9 : List Loc) (m9 : Nat) (w9 : Int64) (κ1 : LT) (ls : Array Slot), i ≤ n + 1 → n + 1 < i + k → LW D cy bd ρ κ1 H9 → va_S (wA cL bd s.heap.size) s.heap H9 locs9 → sgL (ρ 4) n κ i = (m9, w9, κ1) → lv_has ls 8 [(0, .ref (bd 4 0)), (1, .ref (bd 6 0)), (2, .ref (bd 0 0)), (3, .int (nI m9)), (4, .long w9), (6, .int (nI i))] → W p l e (headSpec wsL_segments ({ frames := 0, cells := 0, slots := 0, locals := 0 } : Room)).room s m ([.ref (bd 4 0), .ref (bd 6 0), .ref (bd 0 0)] : List Value).toArray below meth c H9 locs9 0 0 (MQ below (uQ (some (.int (nI (sgL (ρ 4) n κ (n + 1)).1))) (LW D cy bd ρ (sgL (ρ 4) n κ (n + 1)).2.2) (wA cL bd s.heap.size)) ([.ref (bd 4 0), .ref (bd 6 0), .ref (bd 0 0)] : List Value).toArray s 0 0 (wA cL bd s.heap.size)) (F0 m 8 ls []) := by
    intro k
    induction k with
    | zero => intro i H9 locs9 m9 w9 κ1 ls hi hik hB9 hS9 hT hl; exfalso; omega
    | succ k loop_ih =>
      intro i H9 locs9 m9 w9 κ1 ls hi hik hB9 hS9 hT hl
      refine lv_iload hx hb dL_segments_8 (lv_at hl 5 rfl) ?_
      refine lv_aload_n hx hb dL_segments_10 rfl (lv_at hl 2 rfl) ?_
      refine lv_bipush (v := 7) hx hb dL_segments_11 (by decide) ?_
      refine g_iald (f := ρ 0) (x := nI n) hx hb hK (hB9 0 0 Nat.zero_lt_one) (vp_in_nI (n := 7) (N := 8) (by decide) (by decide)) ((congrArg (ρ 0) (cl_nI (n := 7) (by decide))).trans h7) dL_segments_13 ?_
      refine lv_icmp_gt (tgt := 83) hx hb dL_segments_14 (by decide) (fun c_14 => ?_) (fun c_14 => ?_)
      · -- 14 t
        obtain rfl : i = n + 1 := by have := (nI_ltI (a := n) (b := i) (by omega) (by omega)).mp c_14; omega
        refine lv_iload_n hx hb dL_segments_83 rfl (lv_at hl 3 rfl) ?_
        exact g_iretU hx hb hr hlocks hS9 (by rw [hT]; exact hB9) (Nat.le_refl _) (Nat.le_refl _) dL_segments_84 (by rw [hT])
      · -- 14 f
        have hi2 : i ≤ n := by have := mt (nI_ltI (a := n) (b := i) (by omega) (by omega)).mpr c_14; omega
        have k_34 : ∀ z3 : Int32, z3 = ltQ (ρ 4) n i → W p l e (headSpec wsL_segments ({ frames := 0, cells := 0, slots := 0, locals := 0 } : Room)).room s m ([.ref (bd 4 0), .ref (bd 6 0), .ref (bd 0 0)] : List Value).toArray below meth c H9 locs9 0 0 (MQ below (uQ (some (.int (nI (sgL (ρ 4) n κ (n + 1)).1))) (LW D cy bd ρ (sgL (ρ 4) n κ (n + 1)).2.2) (wA cL bd s.heap.size)) ([.ref (bd 4 0), .ref (bd 6 0), .ref (bd 0 0)] : List Value).toArray s 0 0 (wA cL bd s.heap.size)) (F0 m 34 ls [.int z3]) := by
          intro z3 ez3
          subst ez3
          refine lv_istore (lv' := [(7, .int (ltQ (ρ 4) n i)), (0, .ref (bd 4 0)), (1, .ref (bd 6 0)), (2, .ref (bd 0 0)), (3, .int (nI m9)), (4, .long w9), (6, .int (nI i))]) hx hb dL_segments_34 hl (by decide) rfl (fun ls hl => ?_)
          refine lv_iload hx hb dL_segments_36 (lv_at hl 0 rfl) ?_
          refine lv_if_ne (tgt := 56) hx hb dL_segments_38 (by decide) (fun c_38 => ?_) (fun c_38 => ?_)
          · -- 38 t
            refine lv_iload hx hb dL_segments_56 (lv_at hl 0 rfl) ?_
            refine lv_if_ne (tgt := 65) hx hb dL_segments_58 (by decide) (fun c_58 => ?_) (fun c_58 => ?_)
            · -- 58 t
              refine lv_lload hx hb dL_segments_65 (lv_at hl 5 rfl) ?_
              refine lv_ldc2 (v := 28) hx hb hown (hts (.constantLong RL 18 (28)) (by decide +kernel)) dL_segments_67 ?_
              refine lv_lmul hx hb dL_segments_70 ?_
              refine lv_iload hx hb dL_segments_71 (lv_at hl 0 rfl) ?_
              refine lv_i2l hx hb dL_segments_73 rfl ?_
              refine lv_ladd hx hb dL_segments_74 ?_
              refine lv_lstore (lv' := [(4, .long ((w9 * 28) + ((ltQ (ρ 4) n i).toInt64))), (7, .int (ltQ (ρ 4) n i)), (0, .ref (bd 4 0)), (1, .ref (bd 6 0)), (2, .ref (bd 0 0)), (3, .int (nI m9)), (6, .int (nI i))]) hx hb dL_segments_75 hl (by decide) rfl (fun ls hl => ?_)
              refine lv_iinc (v := nI (i + 1)) (lv' := [(6, .int (nI (i + 1))), (4, .long ((w9 * 28) + ((ltQ (ρ 4) n i).toInt64))), (7, .int (ltQ (ρ 4) n i)), (0, .ref (bd 4 0)), (1, .ref (bd 6 0)), (2, .ref (bd 0 0)), (3, .int (nI m9))]) hx hb dL_segments_77 hl (k := 6) rfl (nI_1 _) (by decide) rfl (fun ls hl => ?_)
              refine lv_goto (tgt := 8) hx hb dL_segments_80 (by decide) ?_
              exact loop_ih (i + 1) H9 locs9 m9 (w9 * 28 + (ltQ (ρ 4) n i).toInt64) κ1 ls (by omega) (by omega) hB9 hS9 (sg_a hT c_38) (lv_sub hl [3, 4, 5, 6, 1, 0] rfl)
            · -- 58 f
              exact absurd c_58 c_38
          · -- 38 f
            refine lv_lload hx hb dL_segments_41 (lv_at hl 5 rfl) ?_
            refine lv_lconst (v := 0) hx hb dL_segments_43 rfl ?_
            refine W.lcmp hx hb dL_segments_44 ?_
            refine lv_if_le (tgt := 56) hx hb dL_segments_45 (by decide) (fun c_45 => ?_) (fun c_45 => ?_)
            · -- 45 t
              refine lv_iload hx hb dL_segments_56 (lv_at hl 0 rfl) ?_
              refine lv_if_ne (tgt := 65) hx hb dL_segments_58 (by decide) (fun c_58 => ?_) (fun c_58 => ?_)
              · -- 58 t
                exact absurd c_38 c_58
              · -- 58 f
                refine lv_lconst (v := 0) hx hb dL_segments_61 rfl ?_
                refine lv_goto (tgt := 75) hx hb dL_segments_62 (by decide) ?_
                refine lv_lstore (lv' := [(4, .long 0), (7, .int (ltQ (ρ 4) n i)), (0, .ref (bd 4 0)), (1, .ref (bd 6 0)), (2, .ref (bd 0 0)), (3, .int (nI m9)), (6, .int (nI i))]) hx hb dL_segments_75 hl (by decide) rfl (fun ls hl => ?_)
                refine lv_iinc (v := nI (i + 1)) (lv' := [(6, .int (nI (i + 1))), (4, .long 0), (7, .int (ltQ (ρ 4) n i)), (0, .ref (bd 4 0)), (1, .ref (bd 6 0)), (2, .ref (bd 0 0)), (3, .int (nI m9))]) hx hb dL_segments_77 hl (k := 6) rfl (nI_1 _) (by decide) rfl (fun ls hl => ?_)
                refine lv_goto (tgt := 8) hx hb dL_segments_80 (by decide) ?_
                exact loop_ih (i + 1) H9 locs9 m9 0 κ1 ls (by omega) (by omega) hB9 hS9 (sg_b hT c_38 (cmp0_t c_45)) (lv_sub hl [3, 4, 5, 6, 1, 0] rfl)
            · -- 45 f
              have hw9 := cmp0_f c_45
              have hm9 := sg_lt hT hw9
              refine lv_aload_n hx hb dL_segments_48 rfl (lv_at hl 2 rfl) ?_
              refine lv_iload_n hx hb dL_segments_49 rfl (lv_at hl 4 rfl) ?_
              refine lv_lload hx hb dL_segments_50 (lv_at hl 5 rfl) ?_
              refine g_last (f := κ1 6) (A := (wA cL bd s.heap.size)) hx hb hK (hB9 6 0 Nat.zero_lt_one) hS9 (wA.in (k := 6) (i := 0) Nat.zero_lt_one) (vp_in_nI (n := m9) (N := 12) (by omega) (by decide)) dL_segments_52 (fun H1 locs1 hc1 hu1 hS1 => ?_)
              have hB1 : LW D cy bd ρ (up2 κ1 6 m9 w9) H1 := hB9.lst hJ 6 (q := m9) (by decide) (cl_nI (n := m9) (by omega)) hc1 hu1
              refine lv_iinc (v := nI (m9 + 1)) (lv' := [(3, .int (nI (m9 + 1))), (7, .int (ltQ (ρ 4) n i)), (0, .ref (bd 4 0)), (1, .ref (bd 6 0)), (2, .ref (bd 0 0)), (4, .long w9), (6, .int (nI i))]) hx hb dL_segments_53 hl (k := 4) rfl (nI_1 _) (by decide) rfl (fun ls hl => ?_)
              refine lv_iload hx hb dL_segments_56 (lv_at hl 1 rfl) ?_
              refine lv_if_ne (tgt := 65) hx hb dL_segments_58 (by decide) (fun c_58 => ?_) (fun c_58 => ?_)
              · -- 58 t
                exact absurd c_38 c_58
              · -- 58 f
                refine lv_lconst (v := 0) hx hb dL_segments_61 rfl ?_
                refine lv_goto (tgt := 75) hx hb dL_segments_62 (by decide) ?_
                refine lv_lstore (lv' := [(4, .long 0), (3, .int (nI (m9 + 1))), (7, .int (ltQ (ρ 4) n i)), (0, .ref (bd 4 0)), (1, .ref (bd 6 0)), (2, .ref (bd 0 0)), (6, .int (nI i))]) hx hb dL_segments_75 hl (by decide) rfl (fun ls hl => ?_)
                refine lv_iinc (v := nI (i + 1)) (lv' := [(6, .int (nI (i + 1))), (4, .long 0), (3, .int (nI (m9 + 1))), (7, .int (ltQ (ρ 4) n i)), (0, .ref (bd 4 0)), (1, .ref (bd 6 0)), (2, .ref (bd 0 0))]) hx hb dL_segments_77 hl (k := 6) rfl (nI_1 _) (by decide) rfl (fun ls hl => ?_)
                refine lv_goto (tgt := 8) hx hb dL_segments_80 (by decide) ?_
                exact loop_ih (i + 1) H1 locs1 (m9 + 1) 0 (up2 κ1 6 m9 w9) ls (by omega) (by omega) hB1 hS1 (sg_c hT c_38 hw9) (lv_sub hl [4, 5, 6, 2, 1, 0] rfl)
        refine lv_iload hx hb dL_segments_17 (lv_at hl 5 rfl) ?_
        refine lv_aload_n hx hb dL_segments_19 rfl (lv_at hl 2 rfl) ?_
        refine lv_bipush (v := 7) hx hb dL_segments_20 (by decide) ?_
        refine g_iald (f := ρ 0) (x := nI n) hx hb hK (hB9 0 0 Nat.zero_lt_one) (vp_in_nI (n := 7) (N := 8) (by decide) (by decide)) ((congrArg (ρ 0) (cl_nI (n := 7) (by decide))).trans h7) dL_segments_22 ?_
        refine lv_icmp_ge (tgt := 33) hx hb dL_segments_23 (by decide) (fun c_23 => ?_) (fun c_23 => ?_)
        · -- 23 t
          refine lv_iconst (v := 0) hx hb dL_segments_33 (by decide) ?_
          exact k_34 _ (by rw [ltQ, if_neg (by have := ge_of c_23 (by omega) (by omega); omega)])
        · -- 23 f
          have h23 : i < n := lt_of c_23 (by omega) (by omega)
          refine lv_aload_n hx hb dL_segments_26 rfl (lv_at hl 0 rfl) ?_
          refine lv_iload hx hb dL_segments_27 (lv_at hl 5 rfl) ?_
          refine g_iald (f := ρ 4) (x := ρ 4 i) hx hb hK (hB9 4 0 Nat.zero_lt_one) (vp_in_nI (n := i) (N := 12) (by omega) (by decide)) (congrArg (ρ 4) (cl_nI (n := i) (by omega))) dL_segments_29 ?_
          refine lv_goto (tgt := 34) hx hb dL_segments_30 (by decide) ?_
          exact k_34 _ (by rw [ltQ, if_pos (lt_of c_23 (by omega) (by omega))])
  exact loop (n + 2) 0 s.heap [] 0 0 κ ls (Nat.zero_le _) (by omega) hB hS rfl (lv_sub hl [3, 4, 5, 2, 1, 0] rfl)

set_option maxHeartbeats 4000000 in
set_option maxRecDepth 100000 in
/-- the law: isTrap -/
theorem m_L_isTrap (l : Launch) (D : va_G) (cy : Nat → ClassId) (sz : Nat) (bd : NT) (ρ : IT) (κ : LT) (hJ : wJ cL bd) (n : Nat) (hn : n ≤ 12) (h7 : ρ 0 7 = nI n) : Met l yL_isTrap wsL_isTrap ({ frames := 1, cells := 0, slots := 0, locals := 40 } : Room) (va_Pc [.ref (bd 4 0), .ref (bd 6 0), .ref (bd 0 0)] (fun U => gK D cy U ∧ (atSz sz (LW D cy bd ρ κ)) U.heap)) (uQ (some (.int (zb (trQ ((sgL (ρ 4) n κ (n + 1)).2.2 6) (sgL (ρ 4) n κ (n + 1)).1 (sgL (ρ 4) n κ (n + 1)).1)))) (LW D cy bd ρ (sgL (ρ 4) n κ (n + 1)).2.2) (wA cL bd sz)) 0 0 (wA cL bd sz) := by
  refine Met.ofW (cc := cL_isTrap) (maxL := 6) (ret := (some .boolean)) (by decide) rfl ?_
  intro p e s m args below meth c s₁ B9 hml hv
  obtain ⟨rfl, hK, hsz, hB⟩ := hv
  have hx := B9.exec
  have hb := B9.bytes
  have hr := B9.returns
  have hts := atoms_spec (ws := wsL_isTrap) B9.pre
  have hown : s.vm.findClass RL = some m.cls := findClass_of_methodNamed B9.named
  have hlocks := B9.notSynchronized
  subst hsz
  have hS : va_S (wA cL bd s.heap.size) s.heap s.heap [] := va_S.rf
  have hl := lv_entry ([.ref (bd 4 0), .ref (bd 6 0), .ref (bd 0 0)]) (n := 6) (Nat.le_of_ble_eq_true rfl)
  rw [lg_entry_eq]
  generalize (lg_sl ([.ref (bd 4 0), .ref (bd 6 0), .ref (bd 0 0)]) ++ List.replicate (6 - (lg_sl ([.ref (bd 4 0), .ref (bd 6 0), .ref (bd 0 0)])).length) Slot.unset).toArray = ls at hl ⊢
  have hl : lv_has ls 6 [(0, .ref (bd 4 0)), (1, .ref (bd 6 0)), (2, .ref (bd 0 0))] := hl
  refine lv_aload_n hx hb dL_isTrap_0 rfl (lv_at hl 0 rfl) ?_
  refine lv_aload_n hx hb dL_isTrap_1 rfl (lv_at hl 1 rfl) ?_
  refine lv_aload_n hx hb dL_isTrap_2 rfl (lv_at hl 2 rfl) ?_
  refine g_cu1 (va_runS (As := [.ref (bd 4 0), .ref (bd 6 0), .ref (bd 0 0)]) (rest := []) ⟨hx, hb, hml, hown, hts⟩ (m_L_segments l D cy s.heap.size bd ρ κ hJ n hn h7) (va_cwS 3 hts gL_isTrap_L_segments rfl rfl rfl (by decide +kernel) ⟨Nat.le_of_ble_eq_true rfl, Nat.le_of_ble_eq_true rfl⟩) (g_preS (B := atSz s.heap.size (LW D cy bd ρ κ)) hK ⟨rfl, hB⟩) rfl rfl hl.1 rfl (lv_room (Nat.le_of_ble_eq_true rfl)) dL_isTrap_3 ⟨Nat.zero_le _, Nat.zero_le _⟩) hS (fun q _ h => wA.mono hS.1 h) (fun q h => wA.mono hS.1 h) (fun H1 locs1 hB1 hz1 hk1 hS1 => ?_)
  obtain ⟨m9, hm9⟩ : ∃ z, z = (sgL (ρ 4) n κ (n + 1)).1 := ⟨_, rfl⟩
  obtain ⟨κ1, hκ⟩ : ∃ z, z = (sgL (ρ 4) n κ (n + 1)).2.2 := ⟨_, rfl⟩
  have hm12 : m9 ≤ 6 := by have := (sg_in (c := ρ 4) (n := n) (κ := κ) (n + 1)).1; rw [← hm9] at this; omega
  rw [← hκ] at hB1
  rw [← hm9, ← hκ]
  refine lv_istore_n (lv' := [(3, .int (nI m9)), (0, .ref (bd 4 0)), (1, .ref (bd 6 0)), (2, .ref (bd 0 0))]) hx hb dL_isTrap_6 rfl hl (by decide) rfl (fun ls hl => ?_)
  refine lv_iconst (v := 0) hx hb dL_isTrap_7 (by decide) ?_
  refine lv_topi (fun y1 ey1 => ?_)
  obtain rfl : y1 = zb (trQ (κ1 6) m9 0) := ey1.trans (rfl)
  refine lv_istore (lv' := [(4, .int (zb (trQ (κ1 6) m9 0))), (3, .int (nI m9)), (0, .ref (bd 4 0)), (1, .ref (bd 6 0)), (2, .ref (bd 0 0))]) hx hb dL_isTrap_8 hl (by decide) rfl (fun ls hl => ?_)
  refine lv_iconst (v := 0) hx hb dL_isTrap_10 (by decide) ?_
  refine lv_topi (fun y2 ey2 => ?_)
  obtain rfl : y2 = nI 0 := ey2.trans (nI_0.symm)
  refine lv_istore (lv' := [(5, .int (nI 0)), (4, .int (zb (trQ (κ1 6) m9 0))), (3, .int (nI m9)), (0, .ref (bd 4 0)), (1, .ref (bd 6 0)), (2, .ref (bd 0 0))]) hx hb dL_isTrap_11 hl (by decide) rfl (fun ls hl => ?_)
  have loop : ∀ (k : Nat) (i : Nat) (ls : Array Slot), i ≤ m9 → m9 < i + k → lv_has ls 6 [(0, .ref (bd 4 0)), (1, .ref (bd 6 0)), (2, .ref (bd 0 0)), (3, .int (nI m9)), (4, .int (zb (trQ (κ1 6) m9 i))), (5, .int (nI i))] → W p l e (headSpec wsL_isTrap ({ frames := 1, cells := 0, slots := 0, locals := 40 } : Room)).room s m ([.ref (bd 4 0), .ref (bd 6 0), .ref (bd 0 0)] : List Value).toArray below meth c H1 locs1 0 0 (MQ below (uQ (some (.int (zb (trQ (κ1 6) m9 m9)))) (LW D cy bd ρ κ1) (wA cL bd s.heap.size)) ([.ref (bd 4 0), .ref (bd 6 0), .ref (bd 0 0)] : List Value).toArray s 0 0 (wA cL bd s.heap.size)) (F0 m 13 ls []) := by
    intro k
    induction k with
    | zero => intro i ls hi hik hl; exfalso; omega
    | succ k loop_ih =>
      intro i ls hi hik hl
      refine lv_iload hx hb dL_isTrap_13 (lv_at hl 5 rfl) ?_
      refine lv_iload_n hx hb dL_isTrap_15 rfl (lv_at hl 3 rfl) ?_
      refine lv_icmp_ge (tgt := 153) hx hb dL_isTrap_16 (by decide) (fun c_16 => ?_) (fun c_16 => ?_)
      · -- 16 t
        obtain rfl : m9 = i := by have := ge_of c_16 (by omega) (by omega); omega
        refine lv_iload hx hb dL_isTrap_153 (lv_at hl 4 rfl) ?_
        exact g_zretU hx hb hr hlocks (by cases trQ (κ1 6) m9 m9 <;> rfl) hS1 hB1 (Nat.le_refl _) (Nat.le_refl _) dL_isTrap_155 rfl
      · -- 16 f
        have hi2 : i < m9 := lt_of c_16 (by omega) (by omega)
        have k_65 : ∀ z3 : Int32, z3 = zb (trA (κ1 6) m9 i (trQ (κ1 6) m9 i)) → W p l e (headSpec wsL_isTrap ({ frames := 1, cells := 0, slots := 0, locals := 40 } : Room)).room s m ([.ref (bd 4 0), .ref (bd 6 0), .ref (bd 0 0)] : List Value).toArray below meth c H1 locs1 0 0 (MQ below (uQ (some (.int (zb (trQ (κ1 6) m9 m9)))) (LW D cy bd ρ κ1) (wA cL bd s.heap.size)) ([.ref (bd 4 0), .ref (bd 6 0), .ref (bd 0 0)] : List Value).toArray s 0 0 (wA cL bd s.heap.size)) (F0 m 65 ls [.int z3]) := by
          intro z3 ez3
          subst ez3
          refine lv_istore (lv' := [(4, .int (zb (trA (κ1 6) m9 i (trQ (κ1 6) m9 i)))), (0, .ref (bd 4 0)), (1, .ref (bd 6 0)), (2, .ref (bd 0 0)), (3, .int (nI m9)), (5, .int (nI i))]) hx hb dL_isTrap_65 hl (by decide) rfl (fun ls hl => ?_)
          have k_145 : ∀ z4 : Int32, z4 = zb (trB (κ1 6) m9 i (trA (κ1 6) m9 i (trQ (κ1 6) m9 i))) → W p l e (headSpec wsL_isTrap ({ frames := 1, cells := 0, slots := 0, locals := 40 } : Room)).room s m ([.ref (bd 4 0), .ref (bd 6 0), .ref (bd 0 0)] : List Value).toArray below meth c H1 locs1 0 0 (MQ below (uQ (some (.int (zb (trQ (κ1 6) m9 m9)))) (LW D cy bd ρ κ1) (wA cL bd s.heap.size)) ([.ref (bd 4 0), .ref (bd 6 0), .ref (bd 0 0)] : List Value).toArray s 0 0 (wA cL bd s.heap.size)) (F0 m 145 ls [.int z4]) := by
            intro z4 ez4
            subst ez4
            refine lv_istore (lv' := [(4, .int (zb (trB (κ1 6) m9 i (trA (κ1 6) m9 i (trQ (κ1 6) m9 i))))), (0, .ref (bd 4 0)), (1, .ref (bd 6 0)), (2, .ref (bd 0 0)), (3, .int (nI m9)), (5, .int (nI i))]) hx hb dL_isTrap_145 hl (by decide) rfl (fun ls hl => ?_)
            refine lv_iinc (v := nI (i + 1)) (lv' := [(5, .int (nI (i + 1))), (4, .int (zb (trB (κ1 6) m9 i (trA (κ1 6) m9 i (trQ (κ1 6) m9 i))))), (0, .ref (bd 4 0)), (1, .ref (bd 6 0)), (2, .ref (bd 0 0)), (3, .int (nI m9))]) hx hb dL_isTrap_147 hl (k := 5) rfl (nI_1 _) (by decide) rfl (fun ls hl => ?_)
            refine lv_goto (tgt := 13) hx hb dL_isTrap_150 (by decide) ?_
            exact loop_ih (i + 1) ls (by omega) (by omega) (lv_sub hl [2, 3, 4, 5, 1, 0] rfl)
          refine lv_iload hx hb dL_isTrap_67 (lv_at hl 0 rfl) ?_
          refine lv_if_ne (tgt := 140) hx hb dL_isTrap_69 (by decide) (fun c_69 => ?_) (fun c_69 => ?_)
          · -- 69 t
            refine lv_iconst (v := 1) hx hb dL_isTrap_140 (by decide) ?_
            refine lv_goto (tgt := 145) hx hb dL_isTrap_141 (by decide) ?_
            exact k_145 _ (trB_1 (Or.inl (zb_n0.mp c_69)))
          · -- 69 f
            refine lv_iload hx hb dL_isTrap_72 (lv_at hl 5 rfl) ?_
            refine lv_iconst (v := 5) hx hb dL_isTrap_74 (by decide) ?_
            refine lv_iadd hx hb dL_isTrap_75 ?_
            refine lv_topi (fun y5 ey5 => ?_)
            obtain rfl : y5 = nI (i + 5) := ey5.trans (nI_add i 5)
            refine lv_iload_n hx hb dL_isTrap_76 rfl (lv_at hl 4 rfl) ?_
            refine lv_icmp_ge (tgt := 144) hx hb dL_isTrap_77 (by decide) (fun c_77 => ?_) (fun c_77 => ?_)
            · -- 77 t
              refine lv_iconst (v := 0) hx hb dL_isTrap_144 (by decide) ?_
              exact k_145 _ (trB_0 (zb_0.mp c_69) (fun z => by have := ge_of c_77 (by omega) (by omega); omega))
            · -- 77 f
              have h77 := lt_of c_77 (by omega) (by omega)
              refine lv_aload_n hx hb dL_isTrap_80 rfl (lv_at hl 2 rfl) ?_
              refine lv_iload hx hb dL_isTrap_81 (lv_at hl 5 rfl) ?_
              refine g_lald (f := κ1 6) (x := κ1 6 i) hx hb hK (hB1 6 0 Nat.zero_lt_one) (vp_in_nI (n := i) (N := 12) (by omega) (by decide)) (congrArg (κ1 6) (cl_nI (n := i) (by omega))) dL_isTrap_83 ?_
              refine lv_aload_n hx hb dL_isTrap_84 rfl (lv_at hl 2 rfl) ?_
              refine lv_iload hx hb dL_isTrap_85 (lv_at hl 5 rfl) ?_
              refine lv_iconst (v := 2) hx hb dL_isTrap_87 (by decide) ?_
              refine lv_iadd hx hb dL_isTrap_88 ?_
              refine lv_topi (fun y6 ey6 => ?_)
              obtain rfl : y6 = nI (i + 2) := ey6.trans (nI_add i 2)
              refine g_lald (f := κ1 6) (x := κ1 6 (i + 2)) hx hb hK (hB1 6 0 Nat.zero_lt_one) (vp_in_nI (n := i + 2) (N := 12) (by omega) (by decide)) (congrArg (κ1 6) (cl_nI (n := i + 2) (by omega))) dL_isTrap_89 ?_
              refine W.lcmp hx hb dL_isTrap_90 ?_
              refine lv_if_ne (tgt := 144) hx hb dL_isTrap_91 (by decide) (fun c_91 => ?_) (fun c_91 => ?_)
              · -- 91 t
                refine lv_iconst (v := 0) hx hb dL_isTrap_144 (by decide) ?_
                exact k_145 _ (trB_0 (zb_0.mp c_69) (fun z => cmpE c_91 z.2.1))
              · -- 91 f
                refine lv_aload_n hx hb dL_isTrap_94 rfl (lv_at hl 2 rfl) ?_
                refine lv_iload hx hb dL_isTrap_95 (lv_at hl 5 rfl) ?_
                refine g_lald (f := κ1 6) (x := κ1 6 i) hx hb hK (hB1 6 0 Nat.zero_lt_one) (vp_in_nI (n := i) (N := 12) (by omega) (by decide)) (congrArg (κ1 6) (cl_nI (n := i) (by omega))) dL_isTrap_97 ?_
                refine lv_aload_n hx hb dL_isTrap_98 rfl (lv_at hl 2 rfl) ?_
                refine lv_iload hx hb dL_isTrap_99 (lv_at hl 5 rfl) ?_
                refine lv_iconst (v := 4) hx hb dL_isTrap_101 (by decide) ?_
                refine lv_iadd hx hb dL_isTrap_102 ?_
                refine lv_topi (fun y7 ey7 => ?_)
                obtain rfl : y7 = nI (i + 4) := ey7.trans (nI_add i 4)
                refine g_lald (f := κ1 6) (x := κ1 6 (i + 4)) hx hb hK (hB1 6 0 Nat.zero_lt_one) (vp_in_nI (n := i + 4) (N := 12) (by omega) (by decide)) (congrArg (κ1 6) (cl_nI (n := i + 4) (by omega))) dL_isTrap_103 ?_
                refine W.lcmp hx hb dL_isTrap_104 ?_
                refine lv_if_ne (tgt := 144) hx hb dL_isTrap_105 (by decide) (fun c_105 => ?_) (fun c_105 => ?_)
                · -- 105 t
                  refine lv_iconst (v := 0) hx hb dL_isTrap_144 (by decide) ?_
                  exact k_145 _ (trB_0 (zb_0.mp c_69) (fun z => cmpE c_105 z.2.2.1))
                · -- 105 f
                  refine lv_aload_n hx hb dL_isTrap_108 rfl (lv_at hl 2 rfl) ?_
                  refine lv_iload hx hb dL_isTrap_109 (lv_at hl 5 rfl) ?_
                  refine lv_iconst (v := 1) hx hb dL_isTrap_111 (by decide) ?_
                  refine lv_iadd hx hb dL_isTrap_112 ?_
                  refine lv_topi (fun y8 ey8 => ?_)
                  obtain rfl : y8 = nI (i + 1) := ey8.trans (nI_add i 1)
                  refine g_lald (f := κ1 6) (x := κ1 6 (i + 1)) hx hb hK (hB1 6 0 Nat.zero_lt_one) (vp_in_nI (n := i + 1) (N := 12) (by omega) (by decide)) (congrArg (κ1 6) (cl_nI (n := i + 1) (by omega))) dL_isTrap_113 ?_
                  refine lv_aload_n hx hb dL_isTrap_114 rfl (lv_at hl 2 rfl) ?_
                  refine lv_iload hx hb dL_isTrap_115 (lv_at hl 5 rfl) ?_
                  refine lv_iconst (v := 3) hx hb dL_isTrap_117 (by decide) ?_
                  refine lv_iadd hx hb dL_isTrap_118 ?_
                  refine lv_topi (fun y9 ey9 => ?_)
                  obtain rfl : y9 = nI (i + 3) := ey9.trans (nI_add i 3)
                  refine g_lald (f := κ1 6) (x := κ1 6 (i + 3)) hx hb hK (hB1 6 0 Nat.zero_lt_one) (vp_in_nI (n := i + 3) (N := 12) (by omega) (by decide)) (congrArg (κ1 6) (cl_nI (n := i + 3) (by omega))) dL_isTrap_119 ?_
                  refine W.lcmp hx hb dL_isTrap_120 ?_
                  refine lv_if_ne (tgt := 144) hx hb dL_isTrap_121 (by decide) (fun c_121 => ?_) (fun c_121 => ?_)
                  · -- 121 t
                    refine lv_iconst (v := 0) hx hb dL_isTrap_144 (by decide) ?_
                    exact k_145 _ (trB_0 (zb_0.mp c_69) (fun z => cmpE c_121 z.2.2.2.1))
                  · -- 121 f
                    refine lv_aload_n hx hb dL_isTrap_124 rfl (lv_at hl 2 rfl) ?_
                    refine lv_iload hx hb dL_isTrap_125 (lv_at hl 5 rfl) ?_
                    refine lv_iconst (v := 1) hx hb dL_isTrap_127 (by decide) ?_
                    refine lv_iadd hx hb dL_isTrap_128 ?_
                    refine lv_topi (fun y10 ey10 => ?_)
                    obtain rfl : y10 = nI (i + 1) := ey10.trans (nI_add i 1)
                    refine g_lald (f := κ1 6) (x := κ1 6 (i + 1)) hx hb hK (hB1 6 0 Nat.zero_lt_one) (vp_in_nI (n := i + 1) (N := 12) (by omega) (by decide)) (congrArg (κ1 6) (cl_nI (n := i + 1) (by omega))) dL_isTrap_129 ?_
                    refine lv_aload_n hx hb dL_isTrap_130 rfl (lv_at hl 2 rfl) ?_
                    refine lv_iload hx hb dL_isTrap_131 (lv_at hl 5 rfl) ?_
                    refine lv_iconst (v := 5) hx hb dL_isTrap_133 (by decide) ?_
                    refine lv_iadd hx hb dL_isTrap_134 ?_
                    refine lv_topi (fun y11 ey11 => ?_)
                    obtain rfl : y11 = nI (i + 5) := ey11.trans (nI_add i 5)
                    refine g_lald (f := κ1 6) (x := κ1 6 (i + 5)) hx hb hK (hB1 6 0 Nat.zero_lt_one) (vp_in_nI (n := i + 5) (N := 12) (by omega) (by decide)) (congrArg (κ1 6) (cl_nI (n := i + 5) (by omega))) dL_isTrap_135 ?_
                    refine W.lcmp hx hb dL_isTrap_136 ?_
                    refine lv_if_ne (tgt := 144) hx hb dL_isTrap_137 (by decide) (fun c_137 => ?_) (fun c_137 => ?_)
                    · -- 137 t
                      refine lv_iconst (v := 0) hx hb dL_isTrap_144 (by decide) ?_
                      exact k_145 _ (trB_0 (zb_0.mp c_69) (fun z => cmpE c_137 z.2.2.2.2))
                    · -- 137 f
                      refine lv_iconst (v := 1) hx hb dL_isTrap_140 (by decide) ?_
                      refine lv_goto (tgt := 145) hx hb dL_isTrap_141 (by decide) ?_
                      exact k_145 _ (trB_1 (Or.inr ⟨lt_of c_77 (by omega) (by omega), cmpE' c_91, cmpE' c_105, cmpE' c_121, cmpE' c_137⟩))
        refine lv_iload hx hb dL_isTrap_19 (lv_at hl 4 rfl) ?_
        refine lv_if_ne (tgt := 60) hx hb dL_isTrap_21 (by decide) (fun c_21 => ?_) (fun c_21 => ?_)
        · -- 21 t
          refine lv_iconst (v := 1) hx hb dL_isTrap_60 (by decide) ?_
          refine lv_goto (tgt := 65) hx hb dL_isTrap_61 (by decide) ?_
          exact k_65 _ (trA_1 (Or.inl (zb_n0.mp c_21)))
        · -- 21 f
          refine lv_iload hx hb dL_isTrap_24 (lv_at hl 5 rfl) ?_
          refine lv_iconst (v := 2) hx hb dL_isTrap_26 (by decide) ?_
          refine lv_iadd hx hb dL_isTrap_27 ?_
          refine lv_topi (fun y12 ey12 => ?_)
          obtain rfl : y12 = nI (i + 2) := ey12.trans (nI_add i 2)
          refine lv_iload_n hx hb dL_isTrap_28 rfl (lv_at hl 3 rfl) ?_
          refine lv_icmp_ge (tgt := 64) hx hb dL_isTrap_29 (by decide) (fun c_29 => ?_) (fun c_29 => ?_)
          · -- 29 t
            refine lv_iconst (v := 0) hx hb dL_isTrap_64 (by decide) ?_
            exact k_65 _ (trA_0 (zb_0.mp c_21) (fun z => by have := ge_of c_29 (by omega) (by omega); omega))
          · -- 29 f
            have h29 := lt_of c_29 (by omega) (by omega)
            refine lv_aload_n hx hb dL_isTrap_32 rfl (lv_at hl 1 rfl) ?_
            refine lv_iload hx hb dL_isTrap_33 (lv_at hl 5 rfl) ?_
            refine g_lald (f := κ1 6) (x := κ1 6 i) hx hb hK (hB1 6 0 Nat.zero_lt_one) (vp_in_nI (n := i) (N := 12) (by omega) (by decide)) (congrArg (κ1 6) (cl_nI (n := i) (by omega))) dL_isTrap_35 ?_
            refine lv_aload_n hx hb dL_isTrap_36 rfl (lv_at hl 1 rfl) ?_
            refine lv_iload hx hb dL_isTrap_37 (lv_at hl 5 rfl) ?_
            refine lv_iconst (v := 1) hx hb dL_isTrap_39 (by decide) ?_
            refine lv_iadd hx hb dL_isTrap_40 ?_
            refine lv_topi (fun y13 ey13 => ?_)
            obtain rfl : y13 = nI (i + 1) := ey13.trans (nI_add i 1)
            refine g_lald (f := κ1 6) (x := κ1 6 (i + 1)) hx hb hK (hB1 6 0 Nat.zero_lt_one) (vp_in_nI (n := i + 1) (N := 12) (by omega) (by decide)) (congrArg (κ1 6) (cl_nI (n := i + 1) (by omega))) dL_isTrap_41 ?_
            refine W.lcmp hx hb dL_isTrap_42 ?_
            refine lv_if_ne (tgt := 64) hx hb dL_isTrap_43 (by decide) (fun c_43 => ?_) (fun c_43 => ?_)
            · -- 43 t
              refine lv_iconst (v := 0) hx hb dL_isTrap_64 (by decide) ?_
              exact k_65 _ (trA_0 (zb_0.mp c_21) (fun z => cmpE c_43 z.2.1))
            · -- 43 f
              refine lv_aload_n hx hb dL_isTrap_46 rfl (lv_at hl 1 rfl) ?_
              refine lv_iload hx hb dL_isTrap_47 (lv_at hl 5 rfl) ?_
              refine g_lald (f := κ1 6) (x := κ1 6 i) hx hb hK (hB1 6 0 Nat.zero_lt_one) (vp_in_nI (n := i) (N := 12) (by omega) (by decide)) (congrArg (κ1 6) (cl_nI (n := i) (by omega))) dL_isTrap_49 ?_
              refine lv_aload_n hx hb dL_isTrap_50 rfl (lv_at hl 1 rfl) ?_
              refine lv_iload hx hb dL_isTrap_51 (lv_at hl 5 rfl) ?_
              refine lv_iconst (v := 2) hx hb dL_isTrap_53 (by decide) ?_
              refine lv_iadd hx hb dL_isTrap_54 ?_
              refine lv_topi (fun y14 ey14 => ?_)
              obtain rfl : y14 = nI (i + 2) := ey14.trans (nI_add i 2)
              refine g_lald (f := κ1 6) (x := κ1 6 (i + 2)) hx hb hK (hB1 6 0 Nat.zero_lt_one) (vp_in_nI (n := i + 2) (N := 12) (by omega) (by decide)) (congrArg (κ1 6) (cl_nI (n := i + 2) (by omega))) dL_isTrap_55 ?_
              refine W.lcmp hx hb dL_isTrap_56 ?_
              refine lv_if_ne (tgt := 64) hx hb dL_isTrap_57 (by decide) (fun c_57 => ?_) (fun c_57 => ?_)
              · -- 57 t
                refine lv_iconst (v := 0) hx hb dL_isTrap_64 (by decide) ?_
                exact k_65 _ (trA_0 (zb_0.mp c_21) (fun z => cmpE c_57 z.2.2))
              · -- 57 f
                refine lv_iconst (v := 1) hx hb dL_isTrap_60 (by decide) ?_
                refine lv_goto (tgt := 65) hx hb dL_isTrap_61 (by decide) ?_
                exact k_65 _ (trA_1 (Or.inr ⟨lt_of c_29 (by omega) (by omega), cmpE' c_43, cmpE' c_57⟩))
  exact loop (m9 + 1) 0 ls (Nat.zero_le _) (by omega) (lv_sub hl [3, 4, 5, 2, 1, 0] rfl)
