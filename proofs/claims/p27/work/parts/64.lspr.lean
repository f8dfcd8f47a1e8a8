/-! the law: visits spread -/
def spz (ρ : IT) : Nat → IT
  | 0 => ρ
  | k + 1 => up2 (spz ρ k) 3 k 0
def fQ (X : IT) (k : Nat) : Int64 := (X 2 (6 * k + 4)).toInt64 + 1
def oneQ (X : IT) (k : Nat) : Int64 := ((X 2 (6 * k + 1)).toInt64 + 1) * fQ X k
def hereQ (X : IT) (k : Nat) : Int64 := ((X 3 k).toInt64 + fQ X k) * ((X 3 k).toInt64 + fQ X k + 1)
def thO (X : IT) : Option Nat → Int64
  | none => 1
  | some b => hereQ X b
def otO (X : IT) : Option Nat → Int64
  | none => 0
  | some b => oneQ X b
def gnQ (X : IT) (k : Nat) (b : Option Nat) : Bool := decide (X 2 (6 * k + 5) = 0) && !decide (oneQ X k * thO X b < otO X b * hereQ X k)
theorem gnQ_1 {X : IT} {k : Nat} {b : Option Nat} (h1 : X 2 (6 * k + 5) = 0) (h2 : ¬ lg_cmp (oneQ X k * thO X b) (otO X b * hereQ X k) < 0) : gnQ X k b = true := by
  rw [gnQ, decide_eq_true h1, decide_eq_false (fun z => h2 ((lg_cmp_lt _ _).mpr z))]; rfl
theorem gnQ_2 {X : IT} {k : Nat} {b : Option Nat} (h2 : lg_cmp (oneQ X k * thO X b) (otO X b * hereQ X k) < 0) : gnQ X k b = false := by
  rw [gnQ, decide_eq_true ((lg_cmp_lt _ _).mp h2)]; simp
theorem gnQ_3 {X : IT} {k : Nat} {b : Option Nat} (h1 : ¬ X 2 (6 * k + 5) = 0) : gnQ X k b = false := by
  rw [gnQ, decide_eq_false h1]; rfl
def bsQ (X : IT) : Nat → Option Nat → Option Nat
  | 0, b => b
  | k + 1, b => bsQ X k (if gnQ X k b = true then some k else b)
def icQ (X : IT) : Option Nat → IT
  | none => X
  | some b => up2 X 3 b (X 3 b + 1)
def spv (ρ : IT) (n : Nat) : Nat → IT
  | 0 => spz ρ n
  | t + 1 => icQ (spv ρ n t) (bsQ (spv ρ n t) n none)
theorem spz_k {ρ : IT} {K : Nat} (hK : K ≠ 3) : ∀ k, spz ρ k K = ρ K := by
  intro k
  induction k with
  | zero => rfl
  | succ k ih => rw [spz, up2_row hK, ih]
theorem icQ_k {X : IT} {b : Option Nat} {K : Nat} (hK : K ≠ 3) : icQ X b K = X K := by
  cases b with
  | none => rfl
  | some b => exact up2_row hK
theorem spv_k {ρ : IT} {n K : Nat} (hK : K ≠ 3) : ∀ t, spv ρ n t K = ρ K := by
  intro t
  induction t with
  | zero => exact spz_k hK n
  | succ t ih => rw [spv, icQ_k hK, ih]
theorem bsQ_lt {X : IT} {n : Nat} : ∀ (k : Nat) (b : Option Nat), k ≤ n → (∀ a, b = some a → a < n) → ∀ a, bsQ X k b = some a → a < n := by
  intro k
  induction k with
  | zero => intro b _ h; exact h
  | succ k ih => intro b hk h; exact ih _ (by omega) (sel_lt (by omega) h)

set_option maxHeartbeats 4000000 in
set_option maxRecDepth 100000 in
/-- the law: spread -/
theorem m_L_spread (l : Launch) (D : va_G) (cy : Nat → ClassId) (sz : Nat) (bd : NT) (ρ : IT) (κ : LT) (hJ : wJ cL bd) (n : Nat) (hn : n ≤ 10) (h6 : ρ 0 6 = nI n) (vs : Nat) (hvs : vs ≤ 100) : Met l yL_spread wsL_spread ({ frames := 0, cells := 0, slots := 0, locals := 0 } : Room) (va_Pc [.int (nI vs), .ref (bd 2 0), .ref (bd 3 0), .ref (bd 0 0)] (fun U => gK D cy U ∧ (atSz sz (LW D cy bd ρ κ)) U.heap)) (uQ none (LW D cy bd (spv ρ n vs) κ) (wA cL bd sz)) 0 0 (wA cL bd sz) := by
  refine Met.ofW (cc := cL_spread) (maxL := 19) (ret := none) (by decide) rfl ?_
  intro p e s m args below meth c s₁ B9 hml hv
  obtain ⟨rfl, hK, hsz, hB⟩ := hv
  have hx := B9.exec
  have hb := B9.bytes
  have hr := B9.returns
  have hts := atoms_spec (ws := wsL_spread) B9.pre
  have hown : s.vm.findClass RL = some m.cls := findClass_of_methodNamed B9.named
  have hlocks := B9.notSynchronized
  subst hsz
  have hS : va_S (wA cL bd s.heap.size) s.heap s.heap [] := va_S.rf
  have hl := lv_entry ([.int (nI vs), .ref (bd 2 0), .ref (bd 3 0), .ref (bd 0 0)]) (n := 19) (Nat.le_of_ble_eq_true rfl)
  rw [lg_entry_eq]
  generalize (lg_sl ([.int (nI vs), .ref (bd 2 0), .ref (bd 3 0), .ref (bd 0 0)]) ++ List.replicate (19 - (lg_sl ([.int (nI vs), .ref (bd 2 0), .ref (bd 3 0), .ref (bd 0 0)])).length) Slot.unset).toArray = ls at hl ⊢
  have hl : lv_has ls 19 [(0, .int (nI vs)), (1, .ref (bd 2 0)), (2, .ref (bd 3 0)), (3, .ref (bd 0 0))] := hl
  refine lv_iconst (v := 0) hx hb dL_spread_0 (by decide) ?_
  refine lv_topi (fun y1 ey1 => ?_)
  obtain rfl : y1 = nI 0 := ey1.trans (nI_0.symm)
  refine lv_istore (lv' := [(4, .int (nI 0)), (0, .int (nI vs)), (1, .ref (bd 2 0)), (2, .ref (bd 3 0)), (3, .ref (bd 0 0))]) hx hb dL_spread_1 hl (by decide) rfl (fun ls hl => ?_)
  have loopz : ∀ (k : Nat) (i : Nat) (H9 : Heap) (locs9 : List Loc) (ls : Array Slot), i ≤ n → n < i + k → LW D cy bd (spz ρ i) κ H9 → va_S (wA cL bd s.heap.size) s.heap H9 locs9 → lv_has ls 19 [(0, .int (nI vs)), (1, .ref (bd 2 0)), (2, .ref (bd 3 0)), (3, .ref (bd 0 0)), (4, .int (nI i))] → W p l e (headSpec wsL_spread ({ frames := 0, cells := 0, slots := 0, locals := 0 } : Room)).room s m ([.int (nI vs), .ref (bd 2 0), .ref (bd 3 0), .ref (bd 0 0)] : List Value).toArray below meth c H9 locs9 0 0 (MQ below (uQ none (LW D cy bd (spv ρ n vs) κ) (wA cL bd s.heap.size)) ([.int (nI vs), .ref (bd 2 0), .ref (bd 3 0), .ref (bd 0 0)] : List Value).toArray s 0 0 (wA cL bd s.heap.size)) (F0 m 3 ls []) := by
    intro k
    induction k with
    | zero => intro i H9 locs9 ls hi hik hB9 hS9 hl; exfalso; omega
    | succ k loopz_ih =>
      intro i H9 locs9 ls hi hik hB9 hS9 hl
      refine lv_iload hx hb dL_spread_3 (lv_at hl 4 rfl) ?_
      refine lv_aload_n hx hb dL_spread_5 rfl (lv_at hl 3 rfl) ?_
      refine lv_bipush (v := 6) hx hb dL_spread_6 (by decide) ?_
      refine g_iald (f := (spz ρ i) 0) (x := nI n) hx hb hK (hB9 0 0 Nat.zero_lt_one) (vp_in_nI (n := 6) (N := 8) (by decide) (by decide)) ((congrArg ((spz ρ i) 0) (cl_nI (n := 6) (by decide))).trans (show spz ρ i 0 6 = nI n from by rw [spz_k (by decide)]; exact h6)) dL_spread_8 ?_
      refine lv_icmp_ge (tgt := 23) hx hb dL_spread_9 (by decide) (fun c_9 => ?_) (fun c_9 => ?_)
      · -- 9 t
        have hin : i = n := by have := ge_of c_9 (by omega) (by omega); omega
        rw [hin] at hB9
        refine lv_iconst (v := 0) hx hb dL_spread_23 (by decide) ?_
        refine lv_topi (fun y2 ey2 => ?_)
        obtain rfl : y2 = nI 0 := ey2.trans (nI_0.symm)
        refine lv_istore (lv' := [(4, .int (nI 0)), (0, .int (nI vs)), (1, .ref (bd 2 0)), (2, .ref (bd 3 0)), (3, .ref (bd 0 0))]) hx hb dL_spread_24 hl (by decide) rfl (fun ls hl => ?_)
        have loopo : ∀ (k : Nat) (t : Nat) (H8 : Heap) (locs8 : List Loc) (ls : Array Slot), t ≤ vs → vs < t + k → LW D cy bd (spv ρ n t) κ H8 → va_S (wA cL bd s.heap.size) s.heap H8 locs8 → lv_has ls 19 [(0, .int (nI vs)), (1, .ref (bd 2 0)), (2, .ref (bd 3 0)), (3, .ref (bd 0 0)), (4, .int (nI t))] → W p l e (headSpec wsL_spread ({ frames := 0, cells := 0, slots := 0, locals := 0 } : Room)).room s m ([.int (nI vs), .ref (bd 2 0), .ref (bd 3 0), .ref (bd 0 0)] : List Value).toArray below meth c H8 locs8 0 0 (MQ below (uQ none (LW D cy bd (spv ρ n vs) κ) (wA cL bd s.heap.size)) ([.int (nI vs), .ref (bd 2 0), .ref (bd 3 0), .ref (bd 0 0)] : List Value).toArray s 0 0 (wA cL bd s.heap.size)) (F0 m 26 ls []) := by
          intro k
          induction k with
          | zero => intro t H8 locs8 ls ht htk hB8 hS8 hl; exfalso; omega
          | succ k loopo_ih =>
            intro t H8 locs8 ls ht htk hB8 hS8 hl
            refine lv_iload hx hb dL_spread_26 (lv_at hl 4 rfl) ?_
            refine lv_iload_n hx hb dL_spread_28 rfl (lv_at hl 0 rfl) ?_
            refine lv_icmp_ge (tgt := 239) hx hb dL_spread_29 (by decide) (fun c_29 => ?_) (fun c_29 => ?_)
            · -- 29 t
              have htv : t = vs := by have := ge_of c_29 (by omega) (by omega); omega
              rw [htv] at hB8
              exact g_vretU hx hb hr hlocks hS8 hB8 (Nat.le_refl _) (Nat.le_refl _) dL_spread_239
            · -- 29 f
              have ht2 : t < vs := lt_of c_29 (by omega) (by omega)
              refine lv_iconst (v := (-1)) hx hb dL_spread_32 (by decide) ?_
              refine lv_istore (lv' := [(5, .int (-1)), (0, .int (nI vs)), (1, .ref (bd 2 0)), (2, .ref (bd 3 0)), (3, .ref (bd 0 0)), (4, .int (nI t))]) hx hb dL_spread_33 hl (by decide) rfl (fun ls hl => ?_)
              refine lv_aload_n hx hb dL_spread_35 rfl (lv_at hl 4 rfl) ?_
              refine lv_bipush (v := 6) hx hb dL_spread_36 (by decide) ?_
              refine g_iald (f := (spv ρ n t) 0) (x := nI n) hx hb hK (hB8 0 0 Nat.zero_lt_one) (vp_in_nI (n := 6) (N := 8) (by decide) (by decide)) ((congrArg ((spv ρ n t) 0) (cl_nI (n := 6) (by decide))).trans (show spv ρ n t 0 6 = nI n from by rw [spv_k (by decide)]; exact h6)) dL_spread_38 ?_
              refine lv_iconst (v := 1) hx hb dL_spread_39 (by decide) ?_
              refine lv_isub hx hb dL_spread_40 ?_
              refine lv_istore (lv' := [(6, .int ((nI n) - 1)), (5, .int (-1)), (0, .int (nI vs)), (1, .ref (bd 2 0)), (2, .ref (bd 3 0)), (3, .ref (bd 0 0)), (4, .int (nI t))]) hx hb dL_spread_41 hl (by decide) rfl (fun ls hl => ?_)
              have loopi : ∀ (k : Nat) (j : Nat) (b : Option Nat) (ls : Array Slot), j < k → j ≤ n → (∀ a, b = some a → a < n) → bsQ (spv ρ n t) j b = bsQ (spv ρ n t) n none → lv_has ls 19 [(0, .int (nI vs)), (1, .ref (bd 2 0)), (2, .ref (bd 3 0)), (3, .ref (bd 0 0)), (4, .int (nI t)), (5, .int (numO b)), (6, .int (nI j - 1))] → W p l e (headSpec wsL_spread ({ frames := 0, cells := 0, slots := 0, locals := 0 } : Room)).room s m ([.int (nI vs), .ref (bd 2 0), .ref (bd 3 0), .ref (bd 0 0)] : List Value).toArray below meth c H8 locs8 0 0 (MQ below (uQ none (LW D cy bd (spv ρ n vs) κ) (wA cL bd s.heap.size)) ([.int (nI vs), .ref (bd 2 0), .ref (bd 3 0), .ref (bd 0 0)] : List Value).toArray s 0 0 (wA cL bd s.heap.size)) (F0 m 43 ls []) := by
                intro k
                induction k with
                | zero => intro j b ls hjk hjn hbo hR hl; exfalso; omega
                | succ k loopi_ih =>
                  intro j b ls hjk hjn hbo hR hl
                  refine lv_iload hx hb dL_spread_43 (lv_at hl 6 rfl) ?_
                  refine lv_if_lt (tgt := 220) hx hb dL_spread_45 (by decide) (fun c_45 => ?_) (fun c_45 => ?_)
                  · -- 45 t
                    obtain rfl : j = 0 := m1_0 c_45 (by omega)
                    have hR : b = bsQ (spv ρ n t) n none := hR
                    cases b with
                    | none =>
                      have hl : lv_has ls 19 [(0, .int (nI vs)), (1, .ref (bd 2 0)), (2, .ref (bd 3 0)), (3, .ref (bd 0 0)), (4, .int (nI t)), (5, .int (-1)), (6, .int (nI 0 - 1))] := hl
                      have hB8 : LW D cy bd (spv ρ n (t + 1)) κ H8 := by rw [spv, ← hR]; exact hB8
                      refine lv_iload hx hb dL_spread_220 (lv_at hl 5 rfl) ?_
                      refine lv_if_lt (tgt := 233) hx hb dL_spread_222 (by decide) (fun c_222 => ?_) (fun c_222 => ?_)
                      · -- 222 t
                        refine lv_iinc (v := nI (t + 1)) (lv' := [(4, .int (nI (t + 1))), (0, .int (nI vs)), (1, .ref (bd 2 0)), (2, .ref (bd 3 0)), (3, .ref (bd 0 0)), (5, .int (-1)), (6, .int (nI 0 - 1))]) hx hb dL_spread_233 hl (k := 4) rfl (nI_1 _) (by decide) rfl (fun ls hl => ?_)
                        refine lv_goto (tgt := 26) hx hb dL_spread_236 (by decide) ?_
                        exact loopo_ih (t + 1) H8 locs8 ls (by omega) (by omega) hB8 hS8 (lv_sub hl [1, 2, 3, 4, 0] rfl)
                      · exact absurd c_222 (by decide)
                    | some b =>
                      have hl : lv_has ls 19 [(0, .int (nI vs)), (1, .ref (bd 2 0)), (2, .ref (bd 3 0)), (3, .ref (bd 0 0)), (4, .int (nI t)), (5, .int (nI b)), (6, .int (nI 0 - 1))] := hl
                      have hbn := hbo b rfl
                      refine lv_iload hx hb dL_spread_220 (lv_at hl 5 rfl) ?_
                      refine lv_if_lt (tgt := 233) hx hb dL_spread_222 (by decide) (fun c_222 => ?_) (fun c_222 => ?_)
                      · -- 222 t
                        exact absurd c_222 (nI_pos (by omega))
                      · -- 222 f
                        refine lv_aload_n hx hb dL_spread_225 rfl (lv_at hl 2 rfl) ?_
                        refine lv_iload hx hb dL_spread_226 (lv_at hl 5 rfl) ?_
                        refine lv_dup2_11 hx hb dL_spread_228 rfl rfl ?_
                        refine g_iald (f := (spv ρ n t) 3) (x := (spv ρ n t) 3 b) hx hb hK (hB8 3 0 Nat.zero_lt_one) (vp_in_nI (n := b) (N := 10) (by omega) (by decide)) (congrArg ((spv ρ n t) 3) (cl_nI (n := b) (by omega))) dL_spread_229 ?_
                        refine lv_iconst (v := 1) hx hb dL_spread_230 (by decide) ?_
                        refine lv_iadd hx hb dL_spread_231 ?_
                        refine g_iast (f := (spv ρ n t) 3) (A := (wA cL bd s.heap.size)) hx hb hK (hB8 3 0 Nat.zero_lt_one) hS8 (wA.in (k := 3) (i := 0) Nat.zero_lt_one) (vp_in_nI (n := b) (N := 10) (by omega) (by decide)) dL_spread_232 (fun H1 locs1 hc1 hu1 hS1 => ?_)
                        have hB1 : LW D cy bd (spv ρ n (t + 1)) κ H1 := by have hq := hB8.ist hJ 3 (q := b) (by decide) (cl_nI (n := b) (by omega)) hc1 hu1; rw [spv, ← hR]; exact hq
                        refine lv_iinc (v := nI (t + 1)) (lv' := [(4, .int (nI (t + 1))), (0, .int (nI vs)), (1, .ref (bd 2 0)), (2, .ref (bd 3 0)), (3, .ref (bd 0 0)), (5, .int (nI b)), (6, .int (nI 0 - 1))]) hx hb dL_spread_233 hl (k := 4) rfl (nI_1 _) (by decide) rfl (fun ls hl => ?_)
                        refine lv_goto (tgt := 26) hx hb dL_spread_236 (by decide) ?_
                        exact loopo_ih (t + 1) H1 locs1 ls (by omega) (by omega) hB1 hS1 (lv_sub hl [1, 2, 3, 4, 0] rfl)
                  · -- 45 f
                    obtain ⟨i, rfl⟩ := m1_s c_45
                    rw [nI_pred] at hl
                    cases b with
                    | none =>
                      have hl : lv_has ls 19 [(0, .int (nI vs)), (1, .ref (bd 2 0)), (2, .ref (bd 3 0)), (3, .ref (bd 0 0)), (4, .int (nI t)), (5, .int (-1)), (6, .int (nI i))] := hl
                      refine lv_aload_n hx hb dL_spread_48 rfl (lv_at hl 1 rfl) ?_
                      refine lv_bipush (v := 6) hx hb dL_spread_49 (by decide) ?_
                      refine lv_iload hx hb dL_spread_51 (lv_at hl 6 rfl) ?_
                      refine lv_imul hx hb dL_spread_53 ?_
                      refine lv_topi (fun y3 ey3 => ?_)
                      obtain rfl : y3 = nI (6 * i) := ey3.trans (pk_mul 6 i)
                      refine lv_iconst (v := 4) hx hb dL_spread_54 (by decide) ?_
                      refine lv_iadd hx hb dL_spread_55 ?_
                      refine lv_topi (fun y4 ey4 => ?_)
                      obtain rfl : y4 = nI ((6 * i) + 4) := ey4.trans (nI_add (6 * i) 4)
                      refine g_iald (f := (spv ρ n t) 2) (x := (spv ρ n t) 2 ((6 * i) + 4)) hx hb hK (hB8 2 0 Nat.zero_lt_one) (vp_in_nI (n := (6 * i) + 4) (N := 60) (by omega) (by decide)) (congrArg ((spv ρ n t) 2) (cl_nI (n := (6 * i) + 4) (by omega))) dL_spread_56 ?_
                      refine lv_i2l hx hb dL_spread_57 rfl ?_
                      refine lv_lconst (v := 1) hx hb dL_spread_58 rfl ?_
                      refine lv_ladd hx hb dL_spread_59 ?_
                      refine lv_topl (fun y5 ey5 => ?_)
                      obtain rfl : y5 = fQ (spv ρ n t) i := ey5.trans (rfl)
                      refine lv_lstore (lv' := [(7, .long (fQ (spv ρ n t) i)), (0, .int (nI vs)), (1, .ref (bd 2 0)), (2, .ref (bd 3 0)), (3, .ref (bd 0 0)), (4, .int (nI t)), (5, .int (-1)), (6, .int (nI i))]) hx hb dL_spread_60 hl (by decide) rfl (fun ls hl => ?_)
                      refine lv_iload hx hb dL_spread_62 (lv_at hl 6 rfl) ?_
                      refine lv_if_ge (tgt := 71) hx hb dL_spread_64 (by decide) (fun c_64 => ?_) (fun c_64 => ?_)
                      · exact absurd c_64 (by decide)
                      · -- 64 f
                        refine lv_lconst (v := 1) hx hb dL_spread_67 rfl ?_
                        refine lv_goto (tgt := 83) hx hb dL_spread_68 (by decide) ?_
                        refine lv_lstore (lv' := [(9, .long 1), (7, .long (fQ (spv ρ n t) i)), (0, .int (nI vs)), (1, .ref (bd 2 0)), (2, .ref (bd 3 0)), (3, .ref (bd 0 0)), (4, .int (nI t)), (5, .int (-1)), (6, .int (nI i))]) hx hb dL_spread_83 hl (by decide) rfl (fun ls hl => ?_)
                        refine lv_aload_n hx hb dL_spread_85 rfl (lv_at hl 3 rfl) ?_
                        refine lv_bipush (v := 6) hx hb dL_spread_86 (by decide) ?_
                        refine lv_iload hx hb dL_spread_88 (lv_at hl 8 rfl) ?_
                        refine lv_imul hx hb dL_spread_90 ?_
                        refine lv_topi (fun y6 ey6 => ?_)
                        obtain rfl : y6 = nI (6 * i) := ey6.trans (pk_mul 6 i)
                        refine lv_iconst (v := 1) hx hb dL_spread_91 (by decide) ?_
                        refine lv_iadd hx hb dL_spread_92 ?_
                        refine lv_topi (fun y7 ey7 => ?_)
                        obtain rfl : y7 = nI ((6 * i) + 1) := ey7.trans (nI_add (6 * i) 1)
                        refine g_iald (f := (spv ρ n t) 2) (x := (spv ρ n t) 2 ((6 * i) + 1)) hx hb hK (hB8 2 0 Nat.zero_lt_one) (vp_in_nI (n := (6 * i) + 1) (N := 60) (by omega) (by decide)) (congrArg ((spv ρ n t) 2) (cl_nI (n := (6 * i) + 1) (by omega))) dL_spread_93 ?_
                        refine lv_i2l hx hb dL_spread_94 rfl ?_
                        refine lv_lconst (v := 1) hx hb dL_spread_95 rfl ?_
                        refine lv_ladd hx hb dL_spread_96 ?_
                        refine lv_lload hx hb dL_spread_97 (lv_at hl 1 rfl) ?_
                        refine lv_lmul hx hb dL_spread_99 ?_
                        refine lv_topl (fun y8 ey8 => ?_)
                        obtain rfl : y8 = oneQ (spv ρ n t) i := ey8.trans (rfl)
                        refine lv_lstore (lv' := [(11, .long (oneQ (spv ρ n t) i)), (9, .long 1), (7, .long (fQ (spv ρ n t) i)), (0, .int (nI vs)), (1, .ref (bd 2 0)), (2, .ref (bd 3 0)), (3, .ref (bd 0 0)), (4, .int (nI t)), (5, .int (-1)), (6, .int (nI i))]) hx hb dL_spread_100 hl (by decide) rfl (fun ls hl => ?_)
                        refine lv_iload hx hb dL_spread_102 (lv_at hl 8 rfl) ?_
                        refine lv_if_ge (tgt := 111) hx hb dL_spread_104 (by decide) (fun c_104 => ?_) (fun c_104 => ?_)
                        · exact absurd c_104 (by decide)
                        · -- 104 f
                          refine lv_lconst (v := 0) hx hb dL_spread_107 rfl ?_
                          refine lv_goto (tgt := 126) hx hb dL_spread_108 (by decide) ?_
                          refine lv_topl (fun y9 ey9 => ?_)
                          obtain rfl : y9 = otO (spv ρ n t) none := ey9.trans (rfl)
                          refine lv_lstore (lv' := [(13, .long (otO (spv ρ n t) none)), (11, .long (oneQ (spv ρ n t) i)), (9, .long 1), (7, .long (fQ (spv ρ n t) i)), (0, .int (nI vs)), (1, .ref (bd 2 0)), (2, .ref (bd 3 0)), (3, .ref (bd 0 0)), (4, .int (nI t)), (5, .int (-1)), (6, .int (nI i))]) hx hb dL_spread_126 hl (by decide) rfl (fun ls hl => ?_)
                          refine lv_aload_n hx hb dL_spread_128 rfl (lv_at hl 6 rfl) ?_
                          refine lv_iload hx hb dL_spread_129 (lv_at hl 10 rfl) ?_
                          refine g_iald (f := (spv ρ n t) 3) (x := (spv ρ n t) 3 i) hx hb hK (hB8 3 0 Nat.zero_lt_one) (vp_in_nI (n := i) (N := 10) (by omega) (by decide)) (congrArg ((spv ρ n t) 3) (cl_nI (n := i) (by omega))) dL_spread_131 ?_
                          refine lv_i2l hx hb dL_spread_132 rfl ?_
                          refine lv_lload hx hb dL_spread_133 (lv_at hl 3 rfl) ?_
                          refine lv_ladd hx hb dL_spread_135 ?_
                          refine lv_aload_n hx hb dL_spread_136 rfl (lv_at hl 6 rfl) ?_
                          refine lv_iload hx hb dL_spread_137 (lv_at hl 10 rfl) ?_
                          refine g_iald (f := (spv ρ n t) 3) (x := (spv ρ n t) 3 i) hx hb hK (hB8 3 0 Nat.zero_lt_one) (vp_in_nI (n := i) (N := 10) (by omega) (by decide)) (congrArg ((spv ρ n t) 3) (cl_nI (n := i) (by omega))) dL_spread_139 ?_
                          refine lv_i2l hx hb dL_spread_140 rfl ?_
                          refine lv_lload hx hb dL_spread_141 (lv_at hl 3 rfl) ?_
                          refine lv_ladd hx hb dL_spread_143 ?_
                          refine lv_lconst (v := 1) hx hb dL_spread_144 rfl ?_
                          refine lv_ladd hx hb dL_spread_145 ?_
                          refine lv_lmul hx hb dL_spread_146 ?_
                          refine lv_topl (fun y10 ey10 => ?_)
                          obtain rfl : y10 = hereQ (spv ρ n t) i := ey10.trans (rfl)
                          refine lv_lstore (lv' := [(15, .long (hereQ (spv ρ n t) i)), (13, .long (otO (spv ρ n t) none)), (11, .long (oneQ (spv ρ n t) i)), (9, .long 1), (7, .long (fQ (spv ρ n t) i)), (0, .int (nI vs)), (1, .ref (bd 2 0)), (2, .ref (bd 3 0)), (3, .ref (bd 0 0)), (4, .int (nI t)), (5, .int (-1)), (6, .int (nI i))]) hx hb dL_spread_147 hl (by decide) rfl (fun ls hl => ?_)
                          refine lv_iload hx hb dL_spread_149 (lv_at hl 10 rfl) ?_
                          refine lv_if_ge (tgt := 158) hx hb dL_spread_151 (by decide) (fun c_151 => ?_) (fun c_151 => ?_)
                          · exact absurd c_151 (by decide)
                          · -- 151 f
                            refine lv_lconst (v := 1) hx hb dL_spread_154 rfl ?_
                            refine lv_goto (tgt := 177) hx hb dL_spread_155 (by decide) ?_
                            refine lv_topl (fun y11 ey11 => ?_)
                            obtain rfl : y11 = thO (spv ρ n t) none := ey11.trans (rfl)
                            refine lv_lstore (lv' := [(17, .long (thO (spv ρ n t) none)), (15, .long (hereQ (spv ρ n t) i)), (13, .long (otO (spv ρ n t) none)), (11, .long (oneQ (spv ρ n t) i)), (9, .long 1), (7, .long (fQ (spv ρ n t) i)), (0, .int (nI vs)), (1, .ref (bd 2 0)), (2, .ref (bd 3 0)), (3, .ref (bd 0 0)), (4, .int (nI t)), (5, .int (-1)), (6, .int (nI i))]) hx hb dL_spread_177 hl (by decide) rfl (fun ls hl => ?_)
                            have k_212 : ∀ z12 : Int32, z12 = numO (if gnQ (spv ρ n t) i none = true then some i else none) → W p l e (headSpec wsL_spread ({ frames := 0, cells := 0, slots := 0, locals := 0 } : Room)).room s m ([.int (nI vs), .ref (bd 2 0), .ref (bd 3 0), .ref (bd 0 0)] : List Value).toArray below meth c H8 locs8 0 0 (MQ below (uQ none (LW D cy bd (spv ρ n vs) κ) (wA cL bd s.heap.size)) ([.int (nI vs), .ref (bd 2 0), .ref (bd 3 0), .ref (bd 0 0)] : List Value).toArray s 0 0 (wA cL bd s.heap.size)) (F0 m 212 ls [.int z12]) := by
                              intro z12 ez12
                              subst ez12
                              refine lv_istore (lv' := [(5, .int (numO (if gnQ (spv ρ n t) i none = true then some i else none))), (17, .long (thO (spv ρ n t) none)), (15, .long (hereQ (spv ρ n t) i)), (13, .long (otO (spv ρ n t) none)), (11, .long (oneQ (spv ρ n t) i)), (9, .long 1), (7, .long (fQ (spv ρ n t) i)), (0, .int (nI vs)), (1, .ref (bd 2 0)), (2, .ref (bd 3 0)), (3, .ref (bd 0 0)), (4, .int (nI t)), (6, .int (nI i))]) hx hb dL_spread_212 hl (by decide) rfl (fun ls hl => ?_)
                              refine lv_iinc (v := nI i - 1) (lv' := [(6, .int (nI i - 1)), (5, .int (numO (if gnQ (spv ρ n t) i none = true then some i else none))), (17, .long (thO (spv ρ n t) none)), (15, .long (hereQ (spv ρ n t) i)), (13, .long (otO (spv ρ n t) none)), (11, .long (oneQ (spv ρ n t) i)), (9, .long 1), (7, .long (fQ (spv ρ n t) i)), (0, .int (nI vs)), (1, .ref (bd 2 0)), (2, .ref (bd 3 0)), (3, .ref (bd 0 0)), (4, .int (nI t))]) hx hb dL_spread_214 hl (k := 12) rfl ((Int32.sub_eq_add_neg (nI i) 1).symm) (by decide) rfl (fun ls hl => ?_)
                              refine lv_goto (tgt := 43) hx hb dL_spread_217 (by decide) ?_
                              exact loopi_ih i (if gnQ (spv ρ n t) i none = true then some i else none) ls (by omega) (by omega) (sel_lt (by omega) hbo) (by rw [← hR, bsQ]) (lv_sub hl [8, 9, 10, 11, 12, 1, 0] rfl)
                            refine lv_aload_n hx hb dL_spread_179 rfl (lv_at hl 7 rfl) ?_
                            refine lv_bipush (v := 6) hx hb dL_spread_180 (by decide) ?_
                            refine lv_iload hx hb dL_spread_182 (lv_at hl 12 rfl) ?_
                            refine lv_imul hx hb dL_spread_184 ?_
                            refine lv_topi (fun y13 ey13 => ?_)
                            obtain rfl : y13 = nI (6 * i) := ey13.trans (pk_mul 6 i)
                            refine lv_iconst (v := 5) hx hb dL_spread_185 (by decide) ?_
                            refine lv_iadd hx hb dL_spread_186 ?_
                            refine lv_topi (fun y14 ey14 => ?_)
                            obtain rfl : y14 = nI ((6 * i) + 5) := ey14.trans (nI_add (6 * i) 5)
                            refine g_iald (f := (spv ρ n t) 2) (x := (spv ρ n t) 2 ((6 * i) + 5)) hx hb hK (hB8 2 0 Nat.zero_lt_one) (vp_in_nI (n := (6 * i) + 5) (N := 60) (by omega) (by decide)) (congrArg ((spv ρ n t) 2) (cl_nI (n := (6 * i) + 5) (by omega))) dL_spread_187 ?_
                            refine lv_if_ne (tgt := 210) hx hb dL_spread_188 (by decide) (fun c_188 => ?_) (fun c_188 => ?_)
                            · -- 188 t
                              refine lv_iload hx hb dL_spread_210 (lv_at hl 11 rfl) ?_
                              exact k_212 _ (by rw [if_neg (by rw [gnQ_3 c_188]; decide)]; rfl)
                            · -- 188 f
                              refine lv_lload hx hb dL_spread_191 (lv_at hl 3 rfl) ?_
                              refine lv_lload hx hb dL_spread_193 (lv_at hl 0 rfl) ?_
                              refine lv_lmul hx hb dL_spread_195 ?_
                              refine lv_lload hx hb dL_spread_196 (lv_at hl 2 rfl) ?_
                              refine lv_lload hx hb dL_spread_198 (lv_at hl 1 rfl) ?_
                              refine lv_lmul hx hb dL_spread_200 ?_
                              refine W.lcmp hx hb dL_spread_201 ?_
                              refine lv_if_lt (tgt := 210) hx hb dL_spread_202 (by decide) (fun c_202 => ?_) (fun c_202 => ?_)
                              · -- 202 t
                                refine lv_iload hx hb dL_spread_210 (lv_at hl 11 rfl) ?_
                                exact k_212 _ (by rw [if_neg (by rw [gnQ_2 c_202]; decide)]; rfl)
                              · -- 202 f
                                refine lv_iload hx hb dL_spread_205 (lv_at hl 12 rfl) ?_
                                refine lv_goto (tgt := 212) hx hb dL_spread_207 (by decide) ?_
                                exact k_212 _ (by rw [if_pos (gnQ_1 c_188 c_202)]; rfl)
                    | some b =>
                      have hl : lv_has ls 19 [(0, .int (nI vs)), (1, .ref (bd 2 0)), (2, .ref (bd 3 0)), (3, .ref (bd 0 0)), (4, .int (nI t)), (5, .int (nI b)), (6, .int (nI i))] := hl
                      have hbn := hbo b rfl
                      refine lv_aload_n hx hb dL_spread_48 rfl (lv_at hl 1 rfl) ?_
                      refine lv_bipush (v := 6) hx hb dL_spread_49 (by decide) ?_
                      refine lv_iload hx hb dL_spread_51 (lv_at hl 6 rfl) ?_
                      refine lv_imul hx hb dL_spread_53 ?_
                      refine lv_topi (fun y15 ey15 => ?_)
                      obtain rfl : y15 = nI (6 * i) := ey15.trans (pk_mul 6 i)
                      refine lv_iconst (v := 4) hx hb dL_spread_54 (by decide) ?_
                      refine lv_iadd hx hb dL_spread_55 ?_
                      refine lv_topi (fun y16 ey16 => ?_)
                      obtain rfl : y16 = nI ((6 * i) + 4) := ey16.trans (nI_add (6 * i) 4)
                      refine g_iald (f := (spv ρ n t) 2) (x := (spv ρ n t) 2 ((6 * i) + 4)) hx hb hK (hB8 2 0 Nat.zero_lt_one) (vp_in_nI (n := (6 * i) + 4) (N := 60) (by omega) (by decide)) (congrArg ((spv ρ n t) 2) (cl_nI (n := (6 * i) + 4) (by omega))) dL_spread_56 ?_
                      refine lv_i2l hx hb dL_spread_57 rfl ?_
                      refine lv_lconst (v := 1) hx hb dL_spread_58 rfl ?_
                      refine lv_ladd hx hb dL_spread_59 ?_
                      refine lv_topl (fun y17 ey17 => ?_)
                      obtain rfl : y17 = fQ (spv ρ n t) i := ey17.trans (rfl)
                      refine lv_lstore (lv' := [(7, .long (fQ (spv ρ n t) i)), (0, .int (nI vs)), (1, .ref (bd 2 0)), (2, .ref (bd 3 0)), (3, .ref (bd 0 0)), (4, .int (nI t)), (5, .int (nI b)), (6, .int (nI i))]) hx hb dL_spread_60 hl (by decide) rfl (fun ls hl => ?_)
                      refine lv_iload hx hb dL_spread_62 (lv_at hl 6 rfl) ?_
                      refine lv_if_ge (tgt := 71) hx hb dL_spread_64 (by decide) (fun c_64 => ?_) (fun c_64 => ?_)
                      · -- 64 t
                        refine lv_aload_n hx hb dL_spread_71 rfl (lv_at hl 2 rfl) ?_
                        refine lv_bipush (v := 6) hx hb dL_spread_72 (by decide) ?_
                        refine lv_iload hx hb dL_spread_74 (lv_at hl 6 rfl) ?_
                        refine lv_imul hx hb dL_spread_76 ?_
                        refine lv_topi (fun y18 ey18 => ?_)
                        obtain rfl : y18 = nI (6 * b) := ey18.trans (pk_mul 6 b)
                        refine lv_iconst (v := 4) hx hb dL_spread_77 (by decide) ?_
                        refine lv_iadd hx hb dL_spread_78 ?_
                        refine lv_topi (fun y19 ey19 => ?_)
                        obtain rfl : y19 = nI ((6 * b) + 4) := ey19.trans (nI_add (6 * b) 4)
                        refine g_iald (f := (spv ρ n t) 2) (x := (spv ρ n t) 2 ((6 * b) + 4)) hx hb hK (hB8 2 0 Nat.zero_lt_one) (vp_in_nI (n := (6 * b) + 4) (N := 60) (by omega) (by decide)) (congrArg ((spv ρ n t) 2) (cl_nI (n := (6 * b) + 4) (by omega))) dL_spread_79 ?_
                        refine lv_i2l hx hb dL_spread_80 rfl ?_
                        refine lv_lconst (v := 1) hx hb dL_spread_81 rfl ?_
                        refine lv_ladd hx hb dL_spread_82 ?_
                        refine lv_topl (fun y20 ey20 => ?_)
                        obtain rfl : y20 = fQ (spv ρ n t) b := ey20.trans (rfl)
                        refine lv_lstore (lv' := [(9, .long (fQ (spv ρ n t) b)), (7, .long (fQ (spv ρ n t) i)), (0, .int (nI vs)), (1, .ref (bd 2 0)), (2, .ref (bd 3 0)), (3, .ref (bd 0 0)), (4, .int (nI t)), (5, .int (nI b)), (6, .int (nI i))]) hx hb dL_spread_83 hl (by decide) rfl (fun ls hl => ?_)
                        refine lv_aload_n hx hb dL_spread_85 rfl (lv_at hl 3 rfl) ?_
                        refine lv_bipush (v := 6) hx hb dL_spread_86 (by decide) ?_
                        refine lv_iload hx hb dL_spread_88 (lv_at hl 8 rfl) ?_
                        refine lv_imul hx hb dL_spread_90 ?_
                        refine lv_topi (fun y21 ey21 => ?_)
                        obtain rfl : y21 = nI (6 * i) := ey21.trans (pk_mul 6 i)
                        refine lv_iconst (v := 1) hx hb dL_spread_91 (by decide) ?_
                        refine lv_iadd hx hb dL_spread_92 ?_
                        refine lv_topi (fun y22 ey22 => ?_)
                        obtain rfl : y22 = nI ((6 * i) + 1) := ey22.trans (nI_add (6 * i) 1)
                        refine g_iald (f := (spv ρ n t) 2) (x := (spv ρ n t) 2 ((6 * i) + 1)) hx hb hK (hB8 2 0 Nat.zero_lt_one) (vp_in_nI (n := (6 * i) + 1) (N := 60) (by omega) (by decide)) (congrArg ((spv ρ n t) 2) (cl_nI (n := (6 * i) + 1) (by omega))) dL_spread_93 ?_
                        refine lv_i2l hx hb dL_spread_94 rfl ?_
                        refine lv_lconst (v := 1) hx hb dL_spread_95 rfl ?_
                        refine lv_ladd hx hb dL_spread_96 ?_
                        refine lv_lload hx hb dL_spread_97 (lv_at hl 1 rfl) ?_
                        refine lv_lmul hx hb dL_spread_99 ?_
                        refine lv_topl (fun y23 ey23 => ?_)
                        obtain rfl : y23 = oneQ (spv ρ n t) i := ey23.trans (rfl)
                        refine lv_lstore (lv' := [(11, .long (oneQ (spv ρ n t) i)), (9, .long (fQ (spv ρ n t) b)), (7, .long (fQ (spv ρ n t) i)), (0, .int (nI vs)), (1, .ref (bd 2 0)), (2, .ref (bd 3 0)), (3, .ref (bd 0 0)), (4, .int (nI t)), (5, .int (nI b)), (6, .int (nI i))]) hx hb dL_spread_100 hl (by decide) rfl (fun ls hl => ?_)
                        refine lv_iload hx hb dL_spread_102 (lv_at hl 8 rfl) ?_
                        refine lv_if_ge (tgt := 111) hx hb dL_spread_104 (by decide) (fun c_104 => ?_) (fun c_104 => ?_)
                        · -- 104 t
                          refine lv_aload_n hx hb dL_spread_111 rfl (lv_at hl 4 rfl) ?_
                          refine lv_bipush (v := 6) hx hb dL_spread_112 (by decide) ?_
                          refine lv_iload hx hb dL_spread_114 (lv_at hl 8 rfl) ?_
                          refine lv_imul hx hb dL_spread_116 ?_
                          refine lv_topi (fun y24 ey24 => ?_)
                          obtain rfl : y24 = nI (6 * b) := ey24.trans (pk_mul 6 b)
                          refine lv_iconst (v := 1) hx hb dL_spread_117 (by decide) ?_
                          refine lv_iadd hx hb dL_spread_118 ?_
                          refine lv_topi (fun y25 ey25 => ?_)
                          obtain rfl : y25 = nI ((6 * b) + 1) := ey25.trans (nI_add (6 * b) 1)
                          refine g_iald (f := (spv ρ n t) 2) (x := (spv ρ n t) 2 ((6 * b) + 1)) hx hb hK (hB8 2 0 Nat.zero_lt_one) (vp_in_nI (n := (6 * b) + 1) (N := 60) (by omega) (by decide)) (congrArg ((spv ρ n t) 2) (cl_nI (n := (6 * b) + 1) (by omega))) dL_spread_119 ?_
                          refine lv_i2l hx hb dL_spread_120 rfl ?_
                          refine lv_lconst (v := 1) hx hb dL_spread_121 rfl ?_
                          refine lv_ladd hx hb dL_spread_122 ?_
                          refine lv_lload hx hb dL_spread_123 (lv_at hl 1 rfl) ?_
                          refine lv_lmul hx hb dL_spread_125 ?_
                          refine lv_topl (fun y26 ey26 => ?_)
                          obtain rfl : y26 = oneQ (spv ρ n t) b := ey26.trans (rfl)
                          refine lv_topl (fun y27 ey27 => ?_)
                          obtain rfl : y27 = otO (spv ρ n t) (some b) := ey27.trans (rfl)
                          refine lv_lstore (lv' := [(13, .long (otO (spv ρ n t) (some b))), (11, .long (oneQ (spv ρ n t) i)), (9, .long (fQ (spv ρ n t) b)), (7, .long (fQ (spv ρ n t) i)), (0, .int (nI vs)), (1, .ref (bd 2 0)), (2, .ref (bd 3 0)), (3, .ref (bd 0 0)), (4, .int (nI t)), (5, .int (nI b)), (6, .int (nI i))]) hx hb dL_spread_126 hl (by decide) rfl (fun ls hl => ?_)
                          refine lv_aload_n hx hb dL_spread_128 rfl (lv_at hl 6 rfl) ?_
                          refine lv_iload hx hb dL_spread_129 (lv_at hl 10 rfl) ?_
                          refine g_iald (f := (spv ρ n t) 3) (x := (spv ρ n t) 3 i) hx hb hK (hB8 3 0 Nat.zero_lt_one) (vp_in_nI (n := i) (N := 10) (by omega) (by decide)) (congrArg ((spv ρ n t) 3) (cl_nI (n := i) (by omega))) dL_spread_131 ?_
                          refine lv_i2l hx hb dL_spread_132 rfl ?_
                          refine lv_lload hx hb dL_spread_133 (lv_at hl 3 rfl) ?_
                          refine lv_ladd hx hb dL_spread_135 ?_
                          refine lv_aload_n hx hb dL_spread_136 rfl (lv_at hl 6 rfl) ?_
                          refine lv_iload hx hb dL_spread_137 (lv_at hl 10 rfl) ?_
                          refine g_iald (f := (spv ρ n t) 3) (x := (spv ρ n t) 3 i) hx hb hK (hB8 3 0 Nat.zero_lt_one) (vp_in_nI (n := i) (N := 10) (by omega) (by decide)) (congrArg ((spv ρ n t) 3) (cl_nI (n := i) (by omega))) dL_spread_139 ?_
                          refine lv_i2l hx hb dL_spread_140 rfl ?_
                          refine lv_lload hx hb dL_spread_141 (lv_at hl 3 rfl) ?_
                          refine lv_ladd hx hb dL_spread_143 ?_
                          refine lv_lconst (v := 1) hx hb dL_spread_144 rfl ?_
                          refine lv_ladd hx hb dL_spread_145 ?_
                          refine lv_lmul hx hb dL_spread_146 ?_
                          refine lv_topl (fun y28 ey28 => ?_)
                          obtain rfl : y28 = hereQ (spv ρ n t) i := ey28.trans (rfl)
                          refine lv_lstore (lv' := [(15, .long (hereQ (spv ρ n t) i)), (13, .long (otO (spv ρ n t) (some b))), (11, .long (oneQ (spv ρ n t) i)), (9, .long (fQ (spv ρ n t) b)), (7, .long (fQ (spv ρ n t) i)), (0, .int (nI vs)), (1, .ref (bd 2 0)), (2, .ref (bd 3 0)), (3, .ref (bd 0 0)), (4, .int (nI t)), (5, .int (nI b)), (6, .int (nI i))]) hx hb dL_spread_147 hl (by decide) rfl (fun ls hl => ?_)
                          refine lv_iload hx hb dL_spread_149 (lv_at hl 10 rfl) ?_
                          refine lv_if_ge (tgt := 158) hx hb dL_spread_151 (by decide) (fun c_151 => ?_) (fun c_151 => ?_)
                          · -- 151 t
                            refine lv_aload_n hx hb dL_spread_158 rfl (lv_at hl 7 rfl) ?_
                            refine lv_iload hx hb dL_spread_159 (lv_at hl 10 rfl) ?_
                            refine g_iald (f := (spv ρ n t) 3) (x := (spv ρ n t) 3 b) hx hb hK (hB8 3 0 Nat.zero_lt_one) (vp_in_nI (n := b) (N := 10) (by omega) (by decide)) (congrArg ((spv ρ n t) 3) (cl_nI (n := b) (by omega))) dL_spread_161 ?_
                            refine lv_i2l hx hb dL_spread_162 rfl ?_
                            refine lv_lload hx hb dL_spread_163 (lv_at hl 3 rfl) ?_
                            refine lv_ladd hx hb dL_spread_165 ?_
                            refine lv_aload_n hx hb dL_spread_166 rfl (lv_at hl 7 rfl) ?_
                            refine lv_iload hx hb dL_spread_167 (lv_at hl 10 rfl) ?_
                            refine g_iald (f := (spv ρ n t) 3) (x := (spv ρ n t) 3 b) hx hb hK (hB8 3 0 Nat.zero_lt_one) (vp_in_nI (n := b) (N := 10) (by omega) (by decide)) (congrArg ((spv ρ n t) 3) (cl_nI (n := b) (by omega))) dL_spread_169 ?_
                            refine lv_i2l hx hb dL_spread_170 rfl ?_
                            refine lv_lload hx hb dL_spread_171 (lv_at hl 3 rfl) ?_
                            refine lv_ladd hx hb dL_spread_173 ?_
                            refine lv_lconst (v := 1) hx hb dL_spread_174 rfl ?_
                            refine lv_ladd hx hb dL_spread_175 ?_
                            refine lv_lmul hx hb dL_spread_176 ?_
                            refine lv_topl (fun y29 ey29 => ?_)
                            obtain rfl : y29 = thO (spv ρ n t) (some b) := ey29.trans (rfl)
                            refine lv_lstore (lv' := [(17, .long (thO (spv ρ n t) (some b))), (15, .long (hereQ (spv ρ n t) i)), (13, .long (otO (spv ρ n t) (some b))), (11, .long (oneQ (spv ρ n t) i)), (9, .long (fQ (spv ρ n t) b)), (7, .long (fQ (spv ρ n t) i)), (0, .int (nI vs)), (1, .ref (bd 2 0)), (2, .ref (bd 3 0)), (3, .ref (bd 0 0)), (4, .int (nI t)), (5, .int (nI b)), (6, .int (nI i))]) hx hb dL_spread_177 hl (by decide) rfl (fun ls hl => ?_)
                            have k_212 : ∀ z30 : Int32, z30 = numO (if gnQ (spv ρ n t) i (some b) = true then some i else (some b)) → W p l e (headSpec wsL_spread ({ frames := 0, cells := 0, slots := 0, locals := 0 } : Room)).room s m ([.int (nI vs), .ref (bd 2 0), .ref (bd 3 0), .ref (bd 0 0)] : List Value).toArray below meth c H8 locs8 0 0 (MQ below (uQ none (LW D cy bd (spv ρ n vs) κ) (wA cL bd s.heap.size)) ([.int (nI vs), .ref (bd 2 0), .ref (bd 3 0), .ref (bd 0 0)] : List Value).toArray s 0 0 (wA cL bd s.heap.size)) (F0 m 212 ls [.int z30]) := by
                              intro z30 ez30
                              subst ez30
                              refine lv_istore (lv' := [(5, .int (numO (if gnQ (spv ρ n t) i (some b) = true then some i else (some b)))), (17, .long (thO (spv ρ n t) (some b))), (15, .long (hereQ (spv ρ n t) i)), (13, .long (otO (spv ρ n t) (some b))), (11, .long (oneQ (spv ρ n t) i)), (9, .long (fQ (spv ρ n t) b)), (7, .long (fQ (spv ρ n t) i)), (0, .int (nI vs)), (1, .ref (bd 2 0)), (2, .ref (bd 3 0)), (3, .ref (bd 0 0)), (4, .int (nI t)), (6, .int (nI i))]) hx hb dL_spread_212 hl (by decide) rfl (fun ls hl => ?_)
                              refine lv_iinc (v := nI i - 1) (lv' := [(6, .int (nI i - 1)), (5, .int (numO (if gnQ (spv ρ n t) i (some b) = true then some i else (some b)))), (17, .long (thO (spv ρ n t) (some b))), (15, .long (hereQ (spv ρ n t) i)), (13, .long (otO (spv ρ n t) (some b))), (11, .long (oneQ (spv ρ n t) i)), (9, .long (fQ (spv ρ n t) b)), (7, .long (fQ (spv ρ n t) i)), (0, .int (nI vs)), (1, .ref (bd 2 0)), (2, .ref (bd 3 0)), (3, .ref (bd 0 0)), (4, .int (nI t))]) hx hb dL_spread_214 hl (k := 12) rfl ((Int32.sub_eq_add_neg (nI i) 1).symm) (by decide) rfl (fun ls hl => ?_)
                              refine lv_goto (tgt := 43) hx hb dL_spread_217 (by decide) ?_
                              exact loopi_ih i (if gnQ (spv ρ n t) i (some b) = true then some i else (some b)) ls (by omega) (by omega) (sel_lt (by omega) hbo) (by rw [← hR, bsQ]) (lv_sub hl [8, 9, 10, 11, 12, 1, 0] rfl)
                            refine lv_aload_n hx hb dL_spread_179 rfl (lv_at hl 7 rfl) ?_
                            refine lv_bipush (v := 6) hx hb dL_spread_180 (by decide) ?_
                            refine lv_iload hx hb dL_spread_182 (lv_at hl 12 rfl) ?_
                            refine lv_imul hx hb dL_spread_184 ?_
                            refine lv_topi (fun y31 ey31 => ?_)
                            obtain rfl : y31 = nI (6 * i) := ey31.trans (pk_mul 6 i)
                            refine lv_iconst (v := 5) hx hb dL_spread_185 (by decide) ?_
                            refine lv_iadd hx hb dL_spread_186 ?_
                            refine lv_topi (fun y32 ey32 => ?_)
                            obtain rfl : y32 = nI ((6 * i) + 5) := ey32.trans (nI_add (6 * i) 5)
                            refine g_iald (f := (spv ρ n t) 2) (x := (spv ρ n t) 2 ((6 * i) + 5)) hx hb hK (hB8 2 0 Nat.zero_lt_one) (vp_in_nI (n := (6 * i) + 5) (N := 60) (by omega) (by decide)) (congrArg ((spv ρ n t) 2) (cl_nI (n := (6 * i) + 5) (by omega))) dL_spread_187 ?_
                            refine lv_if_ne (tgt := 210) hx hb dL_spread_188 (by decide) (fun c_188 => ?_) (fun c_188 => ?_)
                            · -- 188 t
                              refine lv_iload hx hb dL_spread_210 (lv_at hl 11 rfl) ?_
                              exact k_212 _ (by rw [if_neg (by rw [gnQ_3 c_188]; decide)]; rfl)
                            · -- 188 f
                              refine lv_lload hx hb dL_spread_191 (lv_at hl 3 rfl) ?_
                              refine lv_lload hx hb dL_spread_193 (lv_at hl 0 rfl) ?_
                              refine lv_lmul hx hb dL_spread_195 ?_
                              refine lv_lload hx hb dL_spread_196 (lv_at hl 2 rfl) ?_
                              refine lv_lload hx hb dL_spread_198 (lv_at hl 1 rfl) ?_
                              refine lv_lmul hx hb dL_spread_200 ?_
                              refine W.lcmp hx hb dL_spread_201 ?_
                              refine lv_if_lt (tgt := 210) hx hb dL_spread_202 (by decide) (fun c_202 => ?_) (fun c_202 => ?_)
                              · -- 202 t
                                refine lv_iload hx hb dL_spread_210 (lv_at hl 11 rfl) ?_
                                exact k_212 _ (by rw [if_neg (by rw [gnQ_2 c_202]; decide)]; rfl)
                              · -- 202 f
                                refine lv_iload hx hb dL_spread_205 (lv_at hl 12 rfl) ?_
                                refine lv_goto (tgt := 212) hx hb dL_spread_207 (by decide) ?_
                                exact k_212 _ (by rw [if_pos (gnQ_1 c_188 c_202)]; rfl)
                          · -- 151 f
                            exact absurd (nI_pos' (by omega)) c_151
                        · -- 104 f
                          exact absurd (nI_pos' (by omega)) c_104
                      · -- 64 f
                        exact absurd (nI_pos' (by omega)) c_64
              exact loopi (n + 1) n none ls (Nat.lt_succ_self n) (Nat.le_refl n) (fun _ z => nomatch z) rfl (lv_sub hl [2, 3, 4, 5, 6, 1, 0] rfl)
        exact loopo (vs + 1) 0 H9 locs9 ls (Nat.zero_le _) (by omega) hB9 hS9 (lv_sub hl [1, 2, 3, 4, 0] rfl)
      · -- 9 f
        have hi2 : i < n := lt_of c_9 (by omega) (by omega)
        refine lv_aload_n hx hb dL_spread_12 rfl (lv_at hl 2 rfl) ?_
        refine lv_iload hx hb dL_spread_13 (lv_at hl 4 rfl) ?_
        refine lv_iconst (v := 0) hx hb dL_spread_15 (by decide) ?_
        refine g_iast (f := (spz ρ i) 3) (A := (wA cL bd s.heap.size)) hx hb hK (hB9 3 0 Nat.zero_lt_one) hS9 (wA.in (k := 3) (i := 0) Nat.zero_lt_one) (vp_in_nI (n := i) (N := 10) (by omega) (by decide)) dL_spread_16 (fun H2 locs2 hc2 hu2 hS2 => ?_)
        have hB2 : LW D cy bd (spz ρ (i + 1)) κ H2 := hB9.ist hJ 3 (q := i) (by decide) (cl_nI (n := i) (by omega)) hc2 hu2
        refine lv_iinc (v := nI (i + 1)) (lv' := [(4, .int (nI (i + 1))), (0, .int (nI vs)), (1, .ref (bd 2 0)), (2, .ref (bd 3 0)), (3, .ref (bd 0 0))]) hx hb dL_spread_17 hl (k := 4) rfl (nI_1 _) (by decide) rfl (fun ls hl => ?_)
        refine lv_goto (tgt := 3) hx hb dL_spread_20 (by decide) ?_
        exact loopz_ih (i + 1) H2 locs2 ls (by omega) (by omega) hB2 hS2 (lv_sub hl [1, 2, 3, 4, 0] rfl)
  exact loopz (n + 1) 0 s.heap [] ls (Nat.zero_le _) (by omega) hB hS (lv_sub hl [1, 2, 3, 4, 0] rfl)
