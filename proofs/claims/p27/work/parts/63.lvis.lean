/-! the law: a visit -/
def vA (ρ : IT) : IT := up2 ρ 0 4 (if ρ 0 5 = ρ 0 0 / 100 then ρ 0 4 + 1 else 1)
def vB (ρ : IT) : IT := up2 (vA ρ) 0 5 (vA ρ 0 0 / 100)
def vC (ρ : IT) (g : Nat) (o : Int32) : IT := up2 (vB ρ) 1 (3 * g + 1) (if o = 2 then vB ρ 1 (3 * g + 1) + 1 else 0)
def vD (ρ : IT) (g k : Nat) (o : Int32) : IT := up2 (vC ρ g o) 2 (6 * k + 3) (vC ρ g o 2 (6 * k + 3) + 1)
def vE (ρ : IT) (g k : Nat) (o : Int32) : IT := up2 (vD ρ g k o) 2 (6 * k + 4) (vD ρ g k o 2 (6 * k + 4) + o)
def ovQ (ρ : IT) (g k : Nat) (o : Int32) : Int32 := vE ρ g k o 0 1 * (vE ρ g k o 2 (6 * k + 3) + 2)
def dvQ (ρ : IT) (g k : Nat) (o : Int32) : Int32 := vE ρ g k o 2 (6 * k + 4) + 1
def paQ (ρ : IT) (g k : Nat) (o : Int32) : Int32 := ovQ ρ g k o / dvQ ρ g k o + (if rmI (ovQ ρ g k o) (dvQ ρ g k o) ≤ 0 then 0 else 1)
def pcQ (ρ : IT) (g k : Nat) (o : Int32) : Int32 := if paQ ρ g k o ≤ vE ρ g k o 0 2 then paQ ρ g k o else vE ρ g k o 0 2
def vF (ρ : IT) (g k : Nat) (o : Int32) : IT := up2 (vE ρ g k o) 2 (6 * k + 2) (vE ρ g k o 0 0 + pcQ ρ g k o)
def vG (ρ : IT) (g k : Nat) (o : Int32) : IT := up2 (vC ρ g o) 2 (6 * k + 2) (vC ρ g o 0 0 + vC ρ g o 0 1)
def vH (ρ : IT) (g k : Nat) (o : Int32) : IT := up2 (vC ρ g o) 2 (6 * k + 5) 1
def rsF (r f : Int32) : Nat → Int32
  | 0 => r
  | n + 1 => if nI n < f then rsF r f n * 2 else rsF r f n
theorem rsF_s {r f : Int32} {n : Nat} (h : ¬ nI n < f) : ∀ m, n + m < 100 → rsF r f (n + m) = rsF r f n := by
  intro m
  induction m with
  | zero => intro _; rfl
  | succ m ih =>
    intro hm
    have h2 : ¬ nI (n + m) < f := fun z => h (Int32.lt_of_le_of_lt ((nI_leI (by omega) (by omega)).mpr (by omega)) z)
    show (if nI (n + m) < f then rsF r f (n + m) * 2 else rsF r f (n + m)) = _
    rw [if_neg h2]; exact ih (by omega)
def vI (X : IT) (g : Nat) : IT := up2 X 1 (3 * g + 2) (X 0 0 + rsF (X 1 (3 * g)) (X 1 (3 * g + 1)) 5)
def vX (ρ : IT) (g k : Nat) (o : Int32) : IT := if o < 2 then vF ρ g k o else if o = 2 then vG ρ g k o else vH ρ g k o
def vS (ρ : IT) (g k : Nat) (o : Int32) : IT := vI (vX ρ g k o) g
theorem vE_4 {ρ : IT} {g k : Nat} {o : Int32} : vE ρ g k o 2 (6 * k + 4) = ρ 2 (6 * k + 4) + o := by
  simp [vE, vD, vC, vB, vA, up2]

set_option maxHeartbeats 4000000 in
set_option maxRecDepth 100000 in
/-- the law: visits -/
theorem m_L_visits (l : Launch) (D : va_G) (cy : Nat → ClassId) (sz : Nat) (bd : NT) (ρ : IT) (κ : LT) (hJ : wJ cL bd) (n : Nat) (G : Nat → Nat) (hn : n ≤ 10) (hG : ∀ k, k < n → ρ 2 (6 * k) = nI (G k) ∧ G k < 3) (k : Nat) (hk : k < n) (o : Int32) (hc : o < 2 → ∃ c, c < 1000 ∧ ρ 2 (6 * k + 4) + o = nI c) : Met l yL_visits wsL_visits ({ frames := 2, cells := 0, slots := 0, locals := 80 } : Room) (va_Pc [.int (nI k), .int o, .ref (bd 2 0), .ref (bd 1 0), .ref (bd 0 0)] (fun U => gK D cy U ∧ (atSz sz (LW D cy bd ρ κ)) U.heap)) (uQ (some (.int (if mayQ ρ G k = true then vS ρ (G k) k o 1 (3 * G k + 2) else -3))) (LW D cy bd (if mayQ ρ G k = true then vS ρ (G k) k o else ρ) κ) (wA cL bd sz)) 0 0 (wA cL bd sz) := by
  refine Met.ofW (cc := cL_visits) (maxL := 8) (ret := (some .int)) (by decide) rfl ?_
  intro p e s m args below meth c s₁ B9 hml hv
  obtain ⟨rfl, hK, hsz, hB⟩ := hv
  have hx := B9.exec
  have hb := B9.bytes
  have hr := B9.returns
  have hts := atoms_spec (ws := wsL_visits) B9.pre
  have hown : s.vm.findClass RL = some m.cls := findClass_of_methodNamed B9.named
  have hlocks := B9.notSynchronized
  subst hsz
  have hS : va_S (wA cL bd s.heap.size) s.heap s.heap [] := va_S.rf
  have hl := lv_entry ([.int (nI k), .int o, .ref (bd 2 0), .ref (bd 1 0), .ref (bd 0 0)]) (n := 8) (Nat.le_of_ble_eq_true rfl)
  rw [lg_entry_eq]
  generalize (lg_sl ([.int (nI k), .int o, .ref (bd 2 0), .ref (bd 1 0), .ref (bd 0 0)]) ++ List.replicate (8 - (lg_sl ([.int (nI k), .int o, .ref (bd 2 0), .ref (bd 1 0), .ref (bd 0 0)])).length) Slot.unset).toArray = ls at hl ⊢
  have hl : lv_has ls 8 [(0, .int (nI k)), (1, .int o), (2, .ref (bd 2 0)), (3, .ref (bd 1 0)), (4, .ref (bd 0 0))] := hl
  obtain ⟨hg1, hg3⟩ := hG k hk
  refine lv_iload_n hx hb dL_visits_0 rfl (lv_at hl 0 rfl) ?_
  refine lv_aload_n hx hb dL_visits_1 rfl (lv_at hl 2 rfl) ?_
  refine lv_aload_n hx hb dL_visits_2 rfl (lv_at hl 3 rfl) ?_
  refine lv_aload hx hb dL_visits_3 (lv_at hl 4 rfl) ?_
  refine g_csr (va_runS (As := [.int (nI k), .ref (bd 2 0), .ref (bd 1 0), .ref (bd 0 0)]) (rest := []) ⟨hx, hb, hml, hown, hts⟩ (m_L_may l D cy bd ρ κ n G hn hG k hk) (va_cwS 4 hts gL_visits_L_may rfl rfl rfl (by decide +kernel) ⟨Nat.le_of_ble_eq_true rfl, Nat.le_of_ble_eq_true rfl⟩) (g_preS (B := (LW D cy bd ρ κ)) hK hB) rfl rfl hl.1 rfl (lv_room (Nat.le_of_ble_eq_true rfl)) dL_visits_5 ⟨Nat.zero_le _, Nat.zero_le _⟩) ?_
  refine lv_if_ne (tgt := 14) hx hb dL_visits_8 (by decide) (fun c_8 => ?_) (fun c_8 => ?_)
  · -- 8 t
    have hmay : mayQ ρ G k = true := zb_n0.mp c_8
    refine lv_iconst (v := 3) hx hb dL_visits_14 (by decide) ?_
    refine lv_aload_n hx hb dL_visits_15 rfl (lv_at hl 2 rfl) ?_
    refine lv_bipush (v := 6) hx hb dL_visits_16 (by decide) ?_
    refine lv_iload_n hx hb dL_visits_18 rfl (lv_at hl 0 rfl) ?_
    refine lv_imul hx hb dL_visits_19 ?_
    refine lv_topi (fun y1 ey1 => ?_)
    obtain rfl : y1 = nI (6 * k) := ey1.trans (pk_mul 6 k)
    refine g_iald (f := ρ 2) (x := nI (G k)) hx hb hK (hB 2 0 Nat.zero_lt_one) (vp_in_nI (n := 6 * k) (N := 60) (by omega) (by decide)) ((congrArg (ρ 2) (cl_nI (n := 6 * k) (by omega))).trans (hG k (by omega)).1) dL_visits_20 ?_
    refine lv_imul hx hb dL_visits_21 ?_
    refine lv_topi (fun y2 ey2 => ?_)
    obtain rfl : y2 = nI (3 * (G k)) := ey2.trans (pk_mul 3 (G k))
    refine lv_istore (lv' := [(5, .int (nI (3 * (G k)))), (0, .int (nI k)), (1, .int o), (2, .ref (bd 2 0)), (3, .ref (bd 1 0)), (4, .ref (bd 0 0))]) hx hb dL_visits_22 hl (by decide) rfl (fun ls hl => ?_)
    refine lv_aload hx hb dL_visits_24 (lv_at hl 5 rfl) ?_
    refine lv_iconst (v := 4) hx hb dL_visits_26 (by decide) ?_
    have k_51 : ∀ z3 : Int32, z3 = (if ρ 0 5 = ρ 0 0 / 100 then ρ 0 4 + 1 else 1) → W p l e (headSpec wsL_visits ({ frames := 2, cells := 0, slots := 0, locals := 80 } : Room)).room s m ([.int (nI k), .int o, .ref (bd 2 0), .ref (bd 1 0), .ref (bd 0 0)] : List Value).toArray below meth c s.heap [] 0 0 (MQ below (uQ (some (.int (if mayQ ρ G k = true then vS ρ (G k) k o 1 (3 * G k + 2) else -3))) (LW D cy bd (if mayQ ρ G k = true then vS ρ (G k) k o else ρ) κ) (wA cL bd s.heap.size)) ([.int (nI k), .int o, .ref (bd 2 0), .ref (bd 1 0), .ref (bd 0 0)] : List Value).toArray s 0 0 (wA cL bd s.heap.size)) (F0 m 51 ls [.int z3, .int 4, .ref (bd 0 0)]) := by
      intro z3 ez3
      subst ez3
      refine g_iast (f := ρ 0) (A := (wA cL bd s.heap.size)) hx hb hK (hB 0 0 Nat.zero_lt_one) hS (wA.in (k := 0) (i := 0) Nat.zero_lt_one) (vp_in_nI (n := 4) (N := 8) (by decide) (by decide)) dL_visits_51 (fun H1 locs1 hc1 hu1 hS1 => ?_)
      have hB1 : LW D cy bd (vA ρ) κ H1 := hB.ist hJ 0 (q := 4) (by decide) (cl_nI (n := 4) (by decide)) hc1 hu1
      refine lv_aload hx hb dL_visits_52 (lv_at hl 5 rfl) ?_
      refine lv_iconst (v := 5) hx hb dL_visits_54 (by decide) ?_
      refine lv_aload hx hb dL_visits_55 (lv_at hl 5 rfl) ?_
      refine lv_iconst (v := 0) hx hb dL_visits_57 (by decide) ?_
      refine g_iald (f := (vA ρ) 0) (x := (vA ρ) 0 0) hx hb hK (hB1 0 0 Nat.zero_lt_one) (vp_in_nI (n := 0) (N := 8) (by decide) (by decide)) (congrArg ((vA ρ) 0) (cl_nI (n := 0) (by decide))) dL_visits_58 ?_
      refine lv_bipush (v := 100) hx hb dL_visits_59 (by decide) ?_
      refine lv_idiv hx hb dL_visits_61 (by decide) ?_
      refine g_iast (f := (vA ρ) 0) (A := (wA cL bd s.heap.size)) hx hb hK (hB1 0 0 Nat.zero_lt_one) hS1 (wA.in (k := 0) (i := 0) Nat.zero_lt_one) (vp_in_nI (n := 5) (N := 8) (by decide) (by decide)) dL_visits_62 (fun H2 locs2 hc2 hu2 hS2 => ?_)
      have hB2 : LW D cy bd (vB ρ) κ H2 := hB1.ist hJ 0 (q := 5) (by decide) (cl_nI (n := 5) (by decide)) hc2 hu2
      refine lv_aload_n hx hb dL_visits_63 rfl (lv_at hl 4 rfl) ?_
      refine lv_iload hx hb dL_visits_64 (lv_at hl 0 rfl) ?_
      refine lv_iconst (v := 1) hx hb dL_visits_66 (by decide) ?_
      refine lv_iadd hx hb dL_visits_67 ?_
      refine lv_topi (fun y4 ey4 => ?_)
      obtain rfl : y4 = nI ((3 * (G k)) + 1) := ey4.trans (nI_add (3 * (G k)) 1)
      have k_85 : ∀ z5 : Int32, z5 = (if o = 2 then vB ρ 1 (3 * G k + 1) + 1 else 0) → W p l e (headSpec wsL_visits ({ frames := 2, cells := 0, slots := 0, locals := 80 } : Room)).room s m ([.int (nI k), .int o, .ref (bd 2 0), .ref (bd 1 0), .ref (bd 0 0)] : List Value).toArray below meth c H2 locs2 0 0 (MQ below (uQ (some (.int (if mayQ ρ G k = true then vS ρ (G k) k o 1 (3 * G k + 2) else -3))) (LW D cy bd (if mayQ ρ G k = true then vS ρ (G k) k o else ρ) κ) (wA cL bd s.heap.size)) ([.int (nI k), .int o, .ref (bd 2 0), .ref (bd 1 0), .ref (bd 0 0)] : List Value).toArray s 0 0 (wA cL bd s.heap.size)) (F0 m 85 ls [.int z5, .int (nI ((3 * (G k)) + 1)), .ref (bd 1 0)]) := by
        intro z5 ez5
        subst ez5
        refine g_iast (f := (vB ρ) 1) (A := (wA cL bd s.heap.size)) hx hb hK (hB2 1 0 Nat.zero_lt_one) hS2 (wA.in (k := 1) (i := 0) Nat.zero_lt_one) (vp_in_nI (n := (3 * (G k)) + 1) (N := 9) (by omega) (by decide)) dL_visits_85 (fun H3 locs3 hc3 hu3 hS3 => ?_)
        have hB3 : LW D cy bd (vC ρ (G k) o) κ H3 := hB2.ist hJ 1 (q := ((3 * (G k)) + 1)) (by decide) (cl_nI (n := (3 * (G k)) + 1) (by omega)) hc3 hu3
        refine lv_iload_n hx hb dL_visits_86 rfl (lv_at hl 2 rfl) ?_
        refine lv_iconst (v := 2) hx hb dL_visits_87 (by decide) ?_
        refine lv_icmp_ge (tgt := 203) hx hb dL_visits_88 (by decide) (fun c_88 => ?_) (fun c_88 => ?_)
        · -- 88 t
          refine lv_iload_n hx hb dL_visits_203 rfl (lv_at hl 2 rfl) ?_
          refine lv_iconst (v := 2) hx hb dL_visits_204 (by decide) ?_
          refine lv_icmp_ne (tgt := 228) hx hb dL_visits_205 (by decide) (fun c_205 => ?_) (fun c_205 => ?_)
          · -- 205 t
            refine lv_aload_n hx hb dL_visits_228 rfl (lv_at hl 3 rfl) ?_
            refine lv_bipush (v := 6) hx hb dL_visits_229 (by decide) ?_
            refine lv_iload_n hx hb dL_visits_231 rfl (lv_at hl 1 rfl) ?_
            refine lv_imul hx hb dL_visits_232 ?_
            refine lv_topi (fun y6 ey6 => ?_)
            obtain rfl : y6 = nI (6 * k) := ey6.trans (pk_mul 6 k)
            refine lv_iconst (v := 5) hx hb dL_visits_233 (by decide) ?_
            refine lv_iadd hx hb dL_visits_234 ?_
            refine lv_topi (fun y7 ey7 => ?_)
            obtain rfl : y7 = nI ((6 * k) + 5) := ey7.trans (nI_add (6 * k) 5)
            refine lv_iconst (v := 1) hx hb dL_visits_235 (by decide) ?_
            refine g_iast (f := (vC ρ (G k) o) 2) (A := (wA cL bd s.heap.size)) hx hb hK (hB3 2 0 Nat.zero_lt_one) hS3 (wA.in (k := 2) (i := 0) Nat.zero_lt_one) (vp_in_nI (n := (6 * k) + 5) (N := 60) (by omega) (by decide)) dL_visits_236 (fun H4 locs4 hc4 hu4 hS4 => ?_)
            have hB4 : LW D cy bd (vH ρ (G k) k o) κ H4 := hB3.ist hJ 2 (q := ((6 * k) + 5)) (by decide) (cl_nI (n := (6 * k) + 5) (by omega)) hc4 hu4
            refine lv_aload_n hx hb dL_visits_237 rfl (lv_at hl 4 rfl) ?_
            refine lv_iload hx hb dL_visits_238 (lv_at hl 0 rfl) ?_
            refine g_iald (f := (vH ρ (G k) k o) 1) (x := (vH ρ (G k) k o) 1 (3 * (G k))) hx hb hK (hB4 1 0 Nat.zero_lt_one) (vp_in_nI (n := 3 * (G k)) (N := 9) (by omega) (by decide)) (congrArg ((vH ρ (G k) k o) 1) (cl_nI (n := 3 * (G k)) (by omega))) dL_visits_240 ?_
            refine lv_istore (lv' := [(6, .int ((vH ρ (G k) k o) 1 (3 * (G k)))), (5, .int (nI (3 * (G k)))), (0, .int (nI k)), (1, .int o), (2, .ref (bd 2 0)), (3, .ref (bd 1 0)), (4, .ref (bd 0 0))]) hx hb dL_visits_241 hl (by decide) rfl (fun ls hl => ?_)
            refine lv_iconst (v := 0) hx hb dL_visits_243 (by decide) ?_
            refine lv_topi (fun y8 ey8 => ?_)
            obtain rfl : y8 = nI 0 := ey8.trans (nI_0.symm)
            refine lv_istore (lv' := [(7, .int (nI 0)), (6, .int ((vH ρ (G k) k o) 1 (3 * (G k)))), (5, .int (nI (3 * (G k)))), (0, .int (nI k)), (1, .int o), (2, .ref (bd 2 0)), (3, .ref (bd 1 0)), (4, .ref (bd 0 0))]) hx hb dL_visits_244 hl (by decide) rfl (fun ls hl => ?_)
            have loop : ∀ (k9 : Nat) (i : Nat) (ls : Array Slot), i ≤ 5 → 5 < i + k9 → lv_has ls 8 [(0, .int (nI k)), (1, .int o), (2, .ref (bd 2 0)), (3, .ref (bd 1 0)), (4, .ref (bd 0 0)), (5, .int (nI (3 * G k))), (6, .int (rsF ((vH ρ (G k) k o) 1 (3 * G k)) ((vH ρ (G k) k o) 1 (3 * G k + 1)) i)), (7, .int (nI i))] → W p l e (headSpec wsL_visits ({ frames := 2, cells := 0, slots := 0, locals := 80 } : Room)).room s m ([.int (nI k), .int o, .ref (bd 2 0), .ref (bd 1 0), .ref (bd 0 0)] : List Value).toArray below meth c H4 locs4 0 0 (MQ below (uQ (some (.int (if mayQ ρ G k = true then vS ρ (G k) k o 1 (3 * G k + 2) else -3))) (LW D cy bd (if mayQ ρ G k = true then vS ρ (G k) k o else ρ) κ) (wA cL bd s.heap.size)) ([.int (nI k), .int o, .ref (bd 2 0), .ref (bd 1 0), .ref (bd 0 0)] : List Value).toArray s 0 0 (wA cL bd s.heap.size)) (F0 m 246 ls []) := by
              intro k9
              induction k9 with
              | zero => intro i ls hi hik hl; exfalso; omega
              | succ k9 loop_ih =>
                intro i ls hi hik hl
                refine lv_iload hx hb dL_visits_246 (lv_at hl 7 rfl) ?_
                refine lv_iconst (v := 5) hx hb dL_visits_248 (by decide) ?_
                refine lv_icmp_ge (tgt := 275) hx hb dL_visits_249 (by decide) (fun c_249 => ?_) (fun c_249 => ?_)
                · -- 249 t
                  obtain rfl : i = 5 := by have := ge_of (n := 5) c_249 (by omega) (by decide); omega
                  refine lv_aload_n hx hb dL_visits_275 rfl (lv_at hl 3 rfl) ?_
                  refine lv_iload hx hb dL_visits_276 (lv_at hl 5 rfl) ?_
                  refine lv_iconst (v := 2) hx hb dL_visits_278 (by decide) ?_
                  refine lv_iadd hx hb dL_visits_279 ?_
                  refine lv_topi (fun y9 ey9 => ?_)
                  obtain rfl : y9 = nI ((3 * G k) + 2) := ey9.trans (nI_add (3 * G k) 2)
                  refine lv_aload hx hb dL_visits_280 (lv_at hl 4 rfl) ?_
                  refine lv_iconst (v := 0) hx hb dL_visits_282 (by decide) ?_
                  refine g_iald (f := (vH ρ (G k) k o) 0) (x := (vH ρ (G k) k o) 0 0) hx hb hK (hB4 0 0 Nat.zero_lt_one) (vp_in_nI (n := 0) (N := 8) (by decide) (by decide)) (congrArg ((vH ρ (G k) k o) 0) (cl_nI (n := 0) (by decide))) dL_visits_283 ?_
                  refine lv_iload hx hb dL_visits_284 (lv_at hl 6 rfl) ?_
                  refine lv_iadd hx hb dL_visits_286 ?_
                  refine g_iast (f := (vH ρ (G k) k o) 1) (A := (wA cL bd s.heap.size)) hx hb hK (hB4 1 0 Nat.zero_lt_one) hS4 (wA.in (k := 1) (i := 0) Nat.zero_lt_one) (vp_in_nI (n := (3 * G k) + 2) (N := 9) (by omega) (by decide)) dL_visits_287 (fun H5 locs5 hc5 hu5 hS5 => ?_)
                  have hB5 : LW D cy bd (vI (vH ρ (G k) k o) (G k)) κ H5 := hB4.ist hJ 1 (q := ((3 * G k) + 2)) (by decide) (cl_nI (n := (3 * G k) + 2) (by omega)) hc5 hu5
                  refine lv_aload_n hx hb dL_visits_288 rfl (lv_at hl 3 rfl) ?_
                  refine lv_iload hx hb dL_visits_289 (lv_at hl 5 rfl) ?_
                  refine lv_iconst (v := 2) hx hb dL_visits_291 (by decide) ?_
                  refine lv_iadd hx hb dL_visits_292 ?_
                  refine lv_topi (fun y10 ey10 => ?_)
                  obtain rfl : y10 = nI ((3 * G k) + 2) := ey10.trans (nI_add (3 * G k) 2)
                  refine g_iald (f := (vI (vH ρ (G k) k o) (G k)) 1) (x := (vI (vH ρ (G k) k o) (G k)) 1 ((3 * G k) + 2)) hx hb hK (hB5 1 0 Nat.zero_lt_one) (vp_in_nI (n := (3 * G k) + 2) (N := 9) (by omega) (by decide)) (congrArg ((vI (vH ρ (G k) k o) (G k)) 1) (cl_nI (n := (3 * G k) + 2) (by omega))) dL_visits_293 ?_
                  exact g_iretU hx hb hr hlocks hS5 (by rw [if_pos hmay]; rw [vS, vX, if_neg (Int32.not_lt.mpr c_88), if_neg c_205]; exact hB5) (Nat.le_refl _) (Nat.le_refl _) dL_visits_294 (by rw [if_pos hmay]; rw [vS, vX, if_neg (Int32.not_lt.mpr c_88), if_neg c_205])
                · -- 249 f
                  have hi2 : i < 5 := lt_of (n := 5) c_249 (by omega) (by decide)
                  refine lv_iload hx hb dL_visits_252 (lv_at hl 7 rfl) ?_
                  refine lv_aload_n hx hb dL_visits_254 rfl (lv_at hl 3 rfl) ?_
                  refine lv_iload hx hb dL_visits_255 (lv_at hl 5 rfl) ?_
                  refine lv_iconst (v := 1) hx hb dL_visits_257 (by decide) ?_
                  refine lv_iadd hx hb dL_visits_258 ?_
                  refine lv_topi (fun y11 ey11 => ?_)
                  obtain rfl : y11 = nI ((3 * G k) + 1) := ey11.trans (nI_add (3 * G k) 1)
                  refine g_iald (f := (vH ρ (G k) k o) 1) (x := (vH ρ (G k) k o) 1 ((3 * G k) + 1)) hx hb hK (hB4 1 0 Nat.zero_lt_one) (vp_in_nI (n := (3 * G k) + 1) (N := 9) (by omega) (by decide)) (congrArg ((vH ρ (G k) k o) 1) (cl_nI (n := (3 * G k) + 1) (by omega))) dL_visits_259 ?_
                  refine lv_icmp_ge (tgt := 275) hx hb dL_visits_260 (by decide) (fun c_260 => ?_) (fun c_260 => ?_)
                  · -- 260 t
                    rw [show rsF ((vH ρ (G k) k o) 1 (3 * G k)) ((vH ρ (G k) k o) 1 (3 * G k + 1)) i = rsF ((vH ρ (G k) k o) 1 (3 * G k)) ((vH ρ (G k) k o) 1 (3 * G k + 1)) 5 from by have := rsF_s (r := (vH ρ (G k) k o) 1 (3 * G k)) (Int32.not_lt.mpr c_260) (5 - i) (by omega); rw [show i + (5 - i) = 5 by omega] at this; exact this.symm] at hl
                    refine lv_aload_n hx hb dL_visits_275 rfl (lv_at hl 3 rfl) ?_
                    refine lv_iload hx hb dL_visits_276 (lv_at hl 5 rfl) ?_
                    refine lv_iconst (v := 2) hx hb dL_visits_278 (by decide) ?_
                    refine lv_iadd hx hb dL_visits_279 ?_
                    refine lv_topi (fun y12 ey12 => ?_)
                    obtain rfl : y12 = nI ((3 * G k) + 2) := ey12.trans (nI_add (3 * G k) 2)
                    refine lv_aload hx hb dL_visits_280 (lv_at hl 4 rfl) ?_
                    refine lv_iconst (v := 0) hx hb dL_visits_282 (by decide) ?_
                    refine g_iald (f := (vH ρ (G k) k o) 0) (x := (vH ρ (G k) k o) 0 0) hx hb hK (hB4 0 0 Nat.zero_lt_one) (vp_in_nI (n := 0) (N := 8) (by decide) (by decide)) (congrArg ((vH ρ (G k) k o) 0) (cl_nI (n := 0) (by decide))) dL_visits_283 ?_
                    refine lv_iload hx hb dL_visits_284 (lv_at hl 6 rfl) ?_
                    refine lv_iadd hx hb dL_visits_286 ?_
                    refine g_iast (f := (vH ρ (G k) k o) 1) (A := (wA cL bd s.heap.size)) hx hb hK (hB4 1 0 Nat.zero_lt_one) hS4 (wA.in (k := 1) (i := 0) Nat.zero_lt_one) (vp_in_nI (n := (3 * G k) + 2) (N := 9) (by omega) (by decide)) dL_visits_287 (fun H6 locs6 hc6 hu6 hS6 => ?_)
                    have hB6 : LW D cy bd (vI (vH ρ (G k) k o) (G k)) κ H6 := hB4.ist hJ 1 (q := ((3 * G k) + 2)) (by decide) (cl_nI (n := (3 * G k) + 2) (by omega)) hc6 hu6
                    refine lv_aload_n hx hb dL_visits_288 rfl (lv_at hl 3 rfl) ?_
                    refine lv_iload hx hb dL_visits_289 (lv_at hl 5 rfl) ?_
                    refine lv_iconst (v := 2) hx hb dL_visits_291 (by decide) ?_
                    refine lv_iadd hx hb dL_visits_292 ?_
                    refine lv_topi (fun y13 ey13 => ?_)
                    obtain rfl : y13 = nI ((3 * G k) + 2) := ey13.trans (nI_add (3 * G k) 2)
                    refine g_iald (f := (vI (vH ρ (G k) k o) (G k)) 1) (x := (vI (vH ρ (G k) k o) (G k)) 1 ((3 * G k) + 2)) hx hb hK (hB6 1 0 Nat.zero_lt_one) (vp_in_nI (n := (3 * G k) + 2) (N := 9) (by omega) (by decide)) (congrArg ((vI (vH ρ (G k) k o) (G k)) 1) (cl_nI (n := (3 * G k) + 2) (by omega))) dL_visits_293 ?_
                    exact g_iretU hx hb hr hlocks hS6 (by rw [if_pos hmay]; rw [vS, vX, if_neg (Int32.not_lt.mpr c_88), if_neg c_205]; exact hB6) (Nat.le_refl _) (Nat.le_refl _) dL_visits_294 (by rw [if_pos hmay]; rw [vS, vX, if_neg (Int32.not_lt.mpr c_88), if_neg c_205])
                  · -- 260 f
                    refine lv_iload hx hb dL_visits_263 (lv_at hl 6 rfl) ?_
                    refine lv_iconst (v := 2) hx hb dL_visits_265 (by decide) ?_
                    refine lv_imul hx hb dL_visits_266 ?_
                    refine lv_istore (lv' := [(6, .int ((rsF ((vH ρ (G k) k o) 1 (3 * G k)) ((vH ρ (G k) k o) 1 (3 * G k + 1)) i) * 2)), (0, .int (nI k)), (1, .int o), (2, .ref (bd 2 0)), (3, .ref (bd 1 0)), (4, .ref (bd 0 0)), (5, .int (nI (3 * G k))), (7, .int (nI i))]) hx hb dL_visits_267 hl (by decide) rfl (fun ls hl => ?_)
                    rw [show rsF ((vH ρ (G k) k o) 1 (3 * G k)) ((vH ρ (G k) k o) 1 (3 * G k + 1)) i * 2 = rsF ((vH ρ (G k) k o) 1 (3 * G k)) ((vH ρ (G k) k o) 1 (3 * G k + 1)) (i + 1) from by rw [show rsF ((vH ρ (G k) k o) 1 (3 * G k)) ((vH ρ (G k) k o) 1 (3 * G k + 1)) (i + 1) = if nI i < (vH ρ (G k) k o) 1 (3 * G k + 1) then rsF ((vH ρ (G k) k o) 1 (3 * G k)) ((vH ρ (G k) k o) 1 (3 * G k + 1)) i * 2 else rsF ((vH ρ (G k) k o) 1 (3 * G k)) ((vH ρ (G k) k o) 1 (3 * G k + 1)) i from rfl, if_pos (Int32.not_le.mp c_260)]] at hl
                    refine lv_iinc (v := nI (i + 1)) (lv' := [(7, .int (nI (i + 1))), (6, .int (rsF ((vH ρ (G k) k o) 1 (3 * G k)) ((vH ρ (G k) k o) 1 (3 * G k + 1)) (i + 1))), (0, .int (nI k)), (1, .int o), (2, .ref (bd 2 0)), (3, .ref (bd 1 0)), (4, .ref (bd 0 0)), (5, .int (nI (3 * G k)))]) hx hb dL_visits_269 hl (k := 7) rfl (nI_1 _) (by decide) rfl (fun ls hl => ?_)
                    refine lv_goto (tgt := 246) hx hb dL_visits_272 (by decide) ?_
                    exact loop_ih (i + 1) ls (by omega) (by omega) (lv_sub hl [2, 3, 4, 5, 6, 7, 1, 0] rfl)
            exact loop (6) 0 ls (Nat.zero_le _) (by decide) (lv_sub hl [3, 4, 5, 6, 7, 2, 1, 0] rfl)
          · -- 205 f
            refine lv_aload_n hx hb dL_visits_208 rfl (lv_at hl 3 rfl) ?_
            refine lv_bipush (v := 6) hx hb dL_visits_209 (by decide) ?_
            refine lv_iload_n hx hb dL_visits_211 rfl (lv_at hl 1 rfl) ?_
            refine lv_imul hx hb dL_visits_212 ?_
            refine lv_topi (fun y14 ey14 => ?_)
            obtain rfl : y14 = nI (6 * k) := ey14.trans (pk_mul 6 k)
            refine lv_iconst (v := 2) hx hb dL_visits_213 (by decide) ?_
            refine lv_iadd hx hb dL_visits_214 ?_
            refine lv_topi (fun y15 ey15 => ?_)
            obtain rfl : y15 = nI ((6 * k) + 2) := ey15.trans (nI_add (6 * k) 2)
            refine lv_aload hx hb dL_visits_215 (lv_at hl 5 rfl) ?_
            refine lv_iconst (v := 0) hx hb dL_visits_217 (by decide) ?_
            refine g_iald (f := (vC ρ (G k) o) 0) (x := (vC ρ (G k) o) 0 0) hx hb hK (hB3 0 0 Nat.zero_lt_one) (vp_in_nI (n := 0) (N := 8) (by decide) (by decide)) (congrArg ((vC ρ (G k) o) 0) (cl_nI (n := 0) (by decide))) dL_visits_218 ?_
            refine lv_aload hx hb dL_visits_219 (lv_at hl 5 rfl) ?_
            refine lv_iconst (v := 1) hx hb dL_visits_221 (by decide) ?_
            refine g_iald (f := (vC ρ (G k) o) 0) (x := (vC ρ (G k) o) 0 1) hx hb hK (hB3 0 0 Nat.zero_lt_one) (vp_in_nI (n := 1) (N := 8) (by decide) (by decide)) (congrArg ((vC ρ (G k) o) 0) (cl_nI (n := 1) (by decide))) dL_visits_222 ?_
            refine lv_iadd hx hb dL_visits_223 ?_
            refine g_iast (f := (vC ρ (G k) o) 2) (A := (wA cL bd s.heap.size)) hx hb hK (hB3 2 0 Nat.zero_lt_one) hS3 (wA.in (k := 2) (i := 0) Nat.zero_lt_one) (vp_in_nI (n := (6 * k) + 2) (N := 60) (by omega) (by decide)) dL_visits_224 (fun H7 locs7 hc7 hu7 hS7 => ?_)
            have hB7 : LW D cy bd (vG ρ (G k) k o) κ H7 := hB3.ist hJ 2 (q := ((6 * k) + 2)) (by decide) (cl_nI (n := (6 * k) + 2) (by omega)) hc7 hu7
            refine lv_goto (tgt := 237) hx hb dL_visits_225 (by decide) ?_
            refine lv_aload_n hx hb dL_visits_237 rfl (lv_at hl 4 rfl) ?_
            refine lv_iload hx hb dL_visits_238 (lv_at hl 0 rfl) ?_
            refine g_iald (f := (vG ρ (G k) k o) 1) (x := (vG ρ (G k) k o) 1 (3 * (G k))) hx hb hK (hB7 1 0 Nat.zero_lt_one) (vp_in_nI (n := 3 * (G k)) (N := 9) (by omega) (by decide)) (congrArg ((vG ρ (G k) k o) 1) (cl_nI (n := 3 * (G k)) (by omega))) dL_visits_240 ?_
            refine lv_istore (lv' := [(6, .int ((vG ρ (G k) k o) 1 (3 * (G k)))), (5, .int (nI (3 * (G k)))), (0, .int (nI k)), (1, .int o), (2, .ref (bd 2 0)), (3, .ref (bd 1 0)), (4, .ref (bd 0 0))]) hx hb dL_visits_241 hl (by decide) rfl (fun ls hl => ?_)
            refine lv_iconst (v := 0) hx hb dL_visits_243 (by decide) ?_
            refine lv_topi (fun y16 ey16 => ?_)
            obtain rfl : y16 = nI 0 := ey16.trans (nI_0.symm)
            refine lv_istore (lv' := [(7, .int (nI 0)), (6, .int ((vG ρ (G k) k o) 1 (3 * (G k)))), (5, .int (nI (3 * (G k)))), (0, .int (nI k)), (1, .int o), (2, .ref (bd 2 0)), (3, .ref (bd 1 0)), (4, .ref (bd 0 0))]) hx hb dL_visits_244 hl (by decide) rfl (fun ls hl => ?_)
            have loop : ∀ (k9 : Nat) (i : Nat) (ls : Array Slot), i ≤ 5 → 5 < i + k9 → lv_has ls 8 [(0, .int (nI k)), (1, .int o), (2, .ref (bd 2 0)), (3, .ref (bd 1 0)), (4, .ref (bd 0 0)), (5, .int (nI (3 * G k))), (6, .int (rsF ((vG ρ (G k) k o) 1 (3 * G k)) ((vG ρ (G k) k o) 1 (3 * G k + 1)) i)), (7, .int (nI i))] → W p l e (headSpec wsL_visits ({ frames := 2, cells := 0, slots := 0, locals := 80 } : Room)).room s m ([.int (nI k), .int o, .ref (bd 2 0), .ref (bd 1 0), .ref (bd 0 0)] : List Value).toArray below meth c H7 locs7 0 0 (MQ below (uQ (some (.int (if mayQ ρ G k = true then vS ρ (G k) k o 1 (3 * G k + 2) else -3))) (LW D cy bd (if mayQ ρ G k = true then vS ρ (G k) k o else ρ) κ) (wA cL bd s.heap.size)) ([.int (nI k), .int o, .ref (bd 2 0), .ref (bd 1 0), .ref (bd 0 0)] : List Value).toArray s 0 0 (wA cL bd s.heap.size)) (F0 m 246 ls []) := by
              intro k9
              induction k9 with
              | zero => intro i ls hi hik hl; exfalso; omega
              | succ k9 loop_ih =>
                intro i ls hi hik hl
                refine lv_iload hx hb dL_visits_246 (lv_at hl 7 rfl) ?_
                refine lv_iconst (v := 5) hx hb dL_visits_248 (by decide) ?_
                refine lv_icmp_ge (tgt := 275) hx hb dL_visits_249 (by decide) (fun c_249 => ?_) (fun c_249 => ?_)
                · -- 249 t
                  obtain rfl : i = 5 := by have := ge_of (n := 5) c_249 (by omega) (by decide); omega
                  refine lv_aload_n hx hb dL_visits_275 rfl (lv_at hl 3 rfl) ?_
                  refine lv_iload hx hb dL_visits_276 (lv_at hl 5 rfl) ?_
                  refine lv_iconst (v := 2) hx hb dL_visits_278 (by decide) ?_
                  refine lv_iadd hx hb dL_visits_279 ?_
                  refine lv_topi (fun y17 ey17 => ?_)
                  obtain rfl : y17 = nI ((3 * G k) + 2) := ey17.trans (nI_add (3 * G k) 2)
                  refine lv_aload hx hb dL_visits_280 (lv_at hl 4 rfl) ?_
                  refine lv_iconst (v := 0) hx hb dL_visits_282 (by decide) ?_
                  refine g_iald (f := (vG ρ (G k) k o) 0) (x := (vG ρ (G k) k o) 0 0) hx hb hK (hB7 0 0 Nat.zero_lt_one) (vp_in_nI (n := 0) (N := 8) (by decide) (by decide)) (congrArg ((vG ρ (G k) k o) 0) (cl_nI (n := 0) (by decide))) dL_visits_283 ?_
                  refine lv_iload hx hb dL_visits_284 (lv_at hl 6 rfl) ?_
                  refine lv_iadd hx hb dL_visits_286 ?_
                  refine g_iast (f := (vG ρ (G k) k o) 1) (A := (wA cL bd s.heap.size)) hx hb hK (hB7 1 0 Nat.zero_lt_one) hS7 (wA.in (k := 1) (i := 0) Nat.zero_lt_one) (vp_in_nI (n := (3 * G k) + 2) (N := 9) (by omega) (by decide)) dL_visits_287 (fun H8 locs8 hc8 hu8 hS8 => ?_)
                  have hB8 : LW D cy bd (vI (vG ρ (G k) k o) (G k)) κ H8 := hB7.ist hJ 1 (q := ((3 * G k) + 2)) (by decide) (cl_nI (n := (3 * G k) + 2) (by omega)) hc8 hu8
                  refine lv_aload_n hx hb dL_visits_288 rfl (lv_at hl 3 rfl) ?_
                  refine lv_iload hx hb dL_visits_289 (lv_at hl 5 rfl) ?_
                  refine lv_iconst (v := 2) hx hb dL_visits_291 (by decide) ?_
                  refine lv_iadd hx hb dL_visits_292 ?_
                  refine lv_topi (fun y18 ey18 => ?_)
                  obtain rfl : y18 = nI ((3 * G k) + 2) := ey18.trans (nI_add (3 * G k) 2)
                  refine g_iald (f := (vI (vG ρ (G k) k o) (G k)) 1) (x := (vI (vG ρ (G k) k o) (G k)) 1 ((3 * G k) + 2)) hx hb hK (hB8 1 0 Nat.zero_lt_one) (vp_in_nI (n := (3 * G k) + 2) (N := 9) (by omega) (by decide)) (congrArg ((vI (vG ρ (G k) k o) (G k)) 1) (cl_nI (n := (3 * G k) + 2) (by omega))) dL_visits_293 ?_
                  exact g_iretU hx hb hr hlocks hS8 (by rw [if_pos hmay]; rw [vS, vX, if_neg (Int32.not_lt.mpr c_88), if_pos c_205]; exact hB8) (Nat.le_refl _) (Nat.le_refl _) dL_visits_294 (by rw [if_pos hmay]; rw [vS, vX, if_neg (Int32.not_lt.mpr c_88), if_pos c_205])
                · -- 249 f
                  have hi2 : i < 5 := lt_of (n := 5) c_249 (by omega) (by decide)
                  refine lv_iload hx hb dL_visits_252 (lv_at hl 7 rfl) ?_
                  refine lv_aload_n hx hb dL_visits_254 rfl (lv_at hl 3 rfl) ?_
                  refine lv_iload hx hb dL_visits_255 (lv_at hl 5 rfl) ?_
                  refine lv_iconst (v := 1) hx hb dL_visits_257 (by decide) ?_
                  refine lv_iadd hx hb dL_visits_258 ?_
                  refine lv_topi (fun y19 ey19 => ?_)
                  obtain rfl : y19 = nI ((3 * G k) + 1) := ey19.trans (nI_add (3 * G k) 1)
                  refine g_iald (f := (vG ρ (G k) k o) 1) (x := (vG ρ (G k) k o) 1 ((3 * G k) + 1)) hx hb hK (hB7 1 0 Nat.zero_lt_one) (vp_in_nI (n := (3 * G k) + 1) (N := 9) (by omega) (by decide)) (congrArg ((vG ρ (G k) k o) 1) (cl_nI (n := (3 * G k) + 1) (by omega))) dL_visits_259 ?_
                  refine lv_icmp_ge (tgt := 275) hx hb dL_visits_260 (by decide) (fun c_260 => ?_) (fun c_260 => ?_)
                  · -- 260 t
                    rw [show rsF ((vG ρ (G k) k o) 1 (3 * G k)) ((vG ρ (G k) k o) 1 (3 * G k + 1)) i = rsF ((vG ρ (G k) k o) 1 (3 * G k)) ((vG ρ (G k) k o) 1 (3 * G k + 1)) 5 from by have := rsF_s (r := (vG ρ (G k) k o) 1 (3 * G k)) (Int32.not_lt.mpr c_260) (5 - i) (by omega); rw [show i + (5 - i) = 5 by omega] at this; exact this.symm] at hl
                    refine lv_aload_n hx hb dL_visits_275 rfl (lv_at hl 3 rfl) ?_
                    refine lv_iload hx hb dL_visits_276 (lv_at hl 5 rfl) ?_
                    refine lv_iconst (v := 2) hx hb dL_visits_278 (by decide) ?_
                    refine lv_iadd hx hb dL_visits_279 ?_
                    refine lv_topi (fun y20 ey20 => ?_)
                    obtain rfl : y20 = nI ((3 * G k) + 2) := ey20.trans (nI_add (3 * G k) 2)
                    refine lv_aload hx hb dL_visits_280 (lv_at hl 4 rfl) ?_
                    refine lv_iconst (v := 0) hx hb dL_visits_282 (by decide) ?_
                    refine g_iald (f := (vG ρ (G k) k o) 0) (x := (vG ρ (G k) k o) 0 0) hx hb hK (hB7 0 0 Nat.zero_lt_one) (vp_in_nI (n := 0) (N := 8) (by decide) (by decide)) (congrArg ((vG ρ (G k) k o) 0) (cl_nI (n := 0) (by decide))) dL_visits_283 ?_
                    refine lv_iload hx hb dL_visits_284 (lv_at hl 6 rfl) ?_
                    refine lv_iadd hx hb dL_visits_286 ?_
                    refine g_iast (f := (vG ρ (G k) k o) 1) (A := (wA cL bd s.heap.size)) hx hb hK (hB7 1 0 Nat.zero_lt_one) hS7 (wA.in (k := 1) (i := 0) Nat.zero_lt_one) (vp_in_nI (n := (3 * G k) + 2) (N := 9) (by omega) (by decide)) dL_visits_287 (fun H9 locs9 hc9 hu9 hS9 => ?_)
                    have hB9 : LW D cy bd (vI (vG ρ (G k) k o) (G k)) κ H9 := hB7.ist hJ 1 (q := ((3 * G k) + 2)) (by decide) (cl_nI (n := (3 * G k) + 2) (by omega)) hc9 hu9
                    refine lv_aload_n hx hb dL_visits_288 rfl (lv_at hl 3 rfl) ?_
                    refine lv_iload hx hb dL_visits_289 (lv_at hl 5 rfl) ?_
                    refine lv_iconst (v := 2) hx hb dL_visits_291 (by decide) ?_
                    refine lv_iadd hx hb dL_visits_292 ?_
                    refine lv_topi (fun y21 ey21 => ?_)
                    obtain rfl : y21 = nI ((3 * G k) + 2) := ey21.trans (nI_add (3 * G k) 2)
                    refine g_iald (f := (vI (vG ρ (G k) k o) (G k)) 1) (x := (vI (vG ρ (G k) k o) (G k)) 1 ((3 * G k) + 2)) hx hb hK (hB9 1 0 Nat.zero_lt_one) (vp_in_nI (n := (3 * G k) + 2) (N := 9) (by omega) (by decide)) (congrArg ((vI (vG ρ (G k) k o) (G k)) 1) (cl_nI (n := (3 * G k) + 2) (by omega))) dL_visits_293 ?_
                    exact g_iretU hx hb hr hlocks hS9 (by rw [if_pos hmay]; rw [vS, vX, if_neg (Int32.not_lt.mpr c_88), if_pos c_205]; exact hB9) (Nat.le_refl _) (Nat.le_refl _) dL_visits_294 (by rw [if_pos hmay]; rw [vS, vX, if_neg (Int32.not_lt.mpr c_88), if_pos c_205])
                  · -- 260 f
                    refine lv_iload hx hb dL_visits_263 (lv_at hl 6 rfl) ?_
                    refine lv_iconst (v := 2) hx hb dL_visits_265 (by decide) ?_
                    refine lv_imul hx hb dL_visits_266 ?_
                    refine lv_istore (lv' := [(6, .int ((rsF ((vG ρ (G k) k o) 1 (3 * G k)) ((vG ρ (G k) k o) 1 (3 * G k + 1)) i) * 2)), (0, .int (nI k)), (1, .int o), (2, .ref (bd 2 0)), (3, .ref (bd 1 0)), (4, .ref (bd 0 0)), (5, .int (nI (3 * G k))), (7, .int (nI i))]) hx hb dL_visits_267 hl (by decide) rfl (fun ls hl => ?_)
                    rw [show rsF ((vG ρ (G k) k o) 1 (3 * G k)) ((vG ρ (G k) k o) 1 (3 * G k + 1)) i * 2 = rsF ((vG ρ (G k) k o) 1 (3 * G k)) ((vG ρ (G k) k o) 1 (3 * G k + 1)) (i + 1) from by rw [show rsF ((vG ρ (G k) k o) 1 (3 * G k)) ((vG ρ (G k) k o) 1 (3 * G k + 1)) (i + 1) = if nI i < (vG ρ (G k) k o) 1 (3 * G k + 1) then rsF ((vG ρ (G k) k o) 1 (3 * G k)) ((vG ρ (G k) k o) 1 (3 * G k + 1)) i * 2 else rsF ((vG ρ (G k) k o) 1 (3 * G k)) ((vG ρ (G k) k o) 1 (3 * G k + 1)) i from rfl, if_pos (Int32.not_le.mp c_260)]] at hl
                    refine lv_iinc (v := nI (i + 1)) (lv' := [(7, .int (nI (i + 1))), (6, .int (rsF ((vG ρ (G k) k o) 1 (3 * G k)) ((vG ρ (G k) k o) 1 (3 * G k + 1)) (i + 1))), (0, .int (nI k)), (1, .int o), (2, .ref (bd 2 0)), (3, .ref (bd 1 0)), (4, .ref (bd 0 0)), (5, .int (nI (3 * G k)))]) hx hb dL_visits_269 hl (k := 7) rfl (nI_1 _) (by decide) rfl (fun ls hl => ?_)
                    refine lv_goto (tgt := 246) hx hb dL_visits_272 (by decide) ?_
                    exact loop_ih (i + 1) ls (by omega) (by omega) (lv_sub hl [2, 3, 4, 5, 6, 7, 1, 0] rfl)
            exact loop (6) 0 ls (Nat.zero_le _) (by decide) (lv_sub hl [3, 4, 5, 6, 7, 2, 1, 0] rfl)
        · -- 88 f
          refine lv_aload_n hx hb dL_visits_91 rfl (lv_at hl 3 rfl) ?_
          refine lv_bipush (v := 6) hx hb dL_visits_92 (by decide) ?_
          refine lv_iload_n hx hb dL_visits_94 rfl (lv_at hl 1 rfl) ?_
          refine lv_imul hx hb dL_visits_95 ?_
          refine lv_topi (fun y22 ey22 => ?_)
          obtain rfl : y22 = nI (6 * k) := ey22.trans (pk_mul 6 k)
          refine lv_iconst (v := 3) hx hb dL_visits_96 (by decide) ?_
          refine lv_iadd hx hb dL_visits_97 ?_
          refine lv_topi (fun y23 ey23 => ?_)
          obtain rfl : y23 = nI ((6 * k) + 3) := ey23.trans (nI_add (6 * k) 3)
          refine lv_dup2_11 hx hb dL_visits_98 rfl rfl ?_
          refine g_iald (f := (vC ρ (G k) o) 2) (x := (vC ρ (G k) o) 2 ((6 * k) + 3)) hx hb hK (hB3 2 0 Nat.zero_lt_one) (vp_in_nI (n := (6 * k) + 3) (N := 60) (by omega) (by decide)) (congrArg ((vC ρ (G k) o) 2) (cl_nI (n := (6 * k) + 3) (by omega))) dL_visits_99 ?_
          refine lv_iconst (v := 1) hx hb dL_visits_100 (by decide) ?_
          refine lv_iadd hx hb dL_visits_101 ?_
          refine g_iast (f := (vC ρ (G k) o) 2) (A := (wA cL bd s.heap.size)) hx hb hK (hB3 2 0 Nat.zero_lt_one) hS3 (wA.in (k := 2) (i := 0) Nat.zero_lt_one) (vp_in_nI (n := (6 * k) + 3) (N := 60) (by omega) (by decide)) dL_visits_102 (fun H10 locs10 hc10 hu10 hS10 => ?_)
          have hB10 : LW D cy bd (vD ρ (G k) k o) κ H10 := hB3.ist hJ 2 (q := ((6 * k) + 3)) (by decide) (cl_nI (n := (6 * k) + 3) (by omega)) hc10 hu10
          refine lv_aload_n hx hb dL_visits_103 rfl (lv_at hl 3 rfl) ?_
          refine lv_bipush (v := 6) hx hb dL_visits_104 (by decide) ?_
          refine lv_iload_n hx hb dL_visits_106 rfl (lv_at hl 1 rfl) ?_
          refine lv_imul hx hb dL_visits_107 ?_
          refine lv_topi (fun y24 ey24 => ?_)
          obtain rfl : y24 = nI (6 * k) := ey24.trans (pk_mul 6 k)
          refine lv_iconst (v := 4) hx hb dL_visits_108 (by decide) ?_
          refine lv_iadd hx hb dL_visits_109 ?_
          refine lv_topi (fun y25 ey25 => ?_)
          obtain rfl : y25 = nI ((6 * k) + 4) := ey25.trans (nI_add (6 * k) 4)
          refine lv_dup2_11 hx hb dL_visits_110 rfl rfl ?_
          refine g_iald (f := (vD ρ (G k) k o) 2) (x := (vD ρ (G k) k o) 2 ((6 * k) + 4)) hx hb hK (hB10 2 0 Nat.zero_lt_one) (vp_in_nI (n := (6 * k) + 4) (N := 60) (by omega) (by decide)) (congrArg ((vD ρ (G k) k o) 2) (cl_nI (n := (6 * k) + 4) (by omega))) dL_visits_111 ?_
          refine lv_iload_n hx hb dL_visits_112 rfl (lv_at hl 2 rfl) ?_
          refine lv_iadd hx hb dL_visits_113 ?_
          refine g_iast (f := (vD ρ (G k) k o) 2) (A := (wA cL bd s.heap.size)) hx hb hK (hB10 2 0 Nat.zero_lt_one) hS10 (wA.in (k := 2) (i := 0) Nat.zero_lt_one) (vp_in_nI (n := (6 * k) + 4) (N := 60) (by omega) (by decide)) dL_visits_114 (fun H11 locs11 hc11 hu11 hS11 => ?_)
          have hB11 : LW D cy bd (vE ρ (G k) k o) κ H11 := hB10.ist hJ 2 (q := ((6 * k) + 4)) (by decide) (cl_nI (n := (6 * k) + 4) (by omega)) hc11 hu11
          refine lv_aload hx hb dL_visits_115 (lv_at hl 5 rfl) ?_
          refine lv_iconst (v := 1) hx hb dL_visits_117 (by decide) ?_
          refine g_iald (f := (vE ρ (G k) k o) 0) (x := (vE ρ (G k) k o) 0 1) hx hb hK (hB11 0 0 Nat.zero_lt_one) (vp_in_nI (n := 1) (N := 8) (by decide) (by decide)) (congrArg ((vE ρ (G k) k o) 0) (cl_nI (n := 1) (by decide))) dL_visits_118 ?_
          refine lv_aload_n hx hb dL_visits_119 rfl (lv_at hl 3 rfl) ?_
          refine lv_bipush (v := 6) hx hb dL_visits_120 (by decide) ?_
          refine lv_iload_n hx hb dL_visits_122 rfl (lv_at hl 1 rfl) ?_
          refine lv_imul hx hb dL_visits_123 ?_
          refine lv_topi (fun y26 ey26 => ?_)
          obtain rfl : y26 = nI (6 * k) := ey26.trans (pk_mul 6 k)
          refine lv_iconst (v := 3) hx hb dL_visits_124 (by decide) ?_
          refine lv_iadd hx hb dL_visits_125 ?_
          refine lv_topi (fun y27 ey27 => ?_)
          obtain rfl : y27 = nI ((6 * k) + 3) := ey27.trans (nI_add (6 * k) 3)
          refine g_iald (f := (vE ρ (G k) k o) 2) (x := (vE ρ (G k) k o) 2 ((6 * k) + 3)) hx hb hK (hB11 2 0 Nat.zero_lt_one) (vp_in_nI (n := (6 * k) + 3) (N := 60) (by omega) (by decide)) (congrArg ((vE ρ (G k) k o) 2) (cl_nI (n := (6 * k) + 3) (by omega))) dL_visits_126 ?_
          refine lv_iconst (v := 2) hx hb dL_visits_127 (by decide) ?_
          refine lv_iadd hx hb dL_visits_128 ?_
          refine lv_imul hx hb dL_visits_129 ?_
          have hne : ¬ dvQ ρ (G k) k o = 0 := by obtain ⟨c9, c91, c92⟩ := hc (Int32.not_le.mp c_88); rw [dvQ, vE_4, c92, nI_1]; exact nI_ne0 (by omega) (by omega)
          refine lv_topi (fun y28 ey28 => ?_)
          obtain rfl : y28 = ovQ ρ (G k) k o := ey28.trans (rfl)
          refine lv_istore (lv' := [(6, .int (ovQ ρ (G k) k o)), (5, .int (nI (3 * (G k)))), (0, .int (nI k)), (1, .int o), (2, .ref (bd 2 0)), (3, .ref (bd 1 0)), (4, .ref (bd 0 0))]) hx hb dL_visits_130 hl (by decide) rfl (fun ls hl => ?_)
          refine lv_iload hx hb dL_visits_132 (lv_at hl 0 rfl) ?_
          refine lv_aload_n hx hb dL_visits_134 rfl (lv_at hl 4 rfl) ?_
          refine lv_bipush (v := 6) hx hb dL_visits_135 (by decide) ?_
          refine lv_iload_n hx hb dL_visits_137 rfl (lv_at hl 2 rfl) ?_
          refine lv_imul hx hb dL_visits_138 ?_
          refine lv_topi (fun y29 ey29 => ?_)
          obtain rfl : y29 = nI (6 * k) := ey29.trans (pk_mul 6 k)
          refine lv_iconst (v := 4) hx hb dL_visits_139 (by decide) ?_
          refine lv_iadd hx hb dL_visits_140 ?_
          refine lv_topi (fun y30 ey30 => ?_)
          obtain rfl : y30 = nI ((6 * k) + 4) := ey30.trans (nI_add (6 * k) 4)
          refine g_iald (f := (vE ρ (G k) k o) 2) (x := (vE ρ (G k) k o) 2 ((6 * k) + 4)) hx hb hK (hB11 2 0 Nat.zero_lt_one) (vp_in_nI (n := (6 * k) + 4) (N := 60) (by omega) (by decide)) (congrArg ((vE ρ (G k) k o) 2) (cl_nI (n := (6 * k) + 4) (by omega))) dL_visits_141 ?_
          refine lv_iconst (v := 1) hx hb dL_visits_142 (by decide) ?_
          refine lv_iadd hx hb dL_visits_143 ?_
          refine lv_topi (fun y31 ey31 => ?_)
          obtain rfl : y31 = dvQ ρ (G k) k o := ey31.trans (rfl)
          refine lv_idiv hx hb dL_visits_144 (hne) ?_
          have k_166 : ∀ z32 : Int32, z32 = (if rmI (ovQ ρ (G k) k o) (dvQ ρ (G k) k o) ≤ 0 then 0 else 1) → W p l e (headSpec wsL_visits ({ frames := 2, cells := 0, slots := 0, locals := 80 } : Room)).room s m ([.int (nI k), .int o, .ref (bd 2 0), .ref (bd 1 0), .ref (bd 0 0)] : List Value).toArray below meth c H11 locs11 0 0 (MQ below (uQ (some (.int (if mayQ ρ G k = true then vS ρ (G k) k o 1 (3 * G k + 2) else -3))) (LW D cy bd (if mayQ ρ G k = true then vS ρ (G k) k o else ρ) κ) (wA cL bd s.heap.size)) ([.int (nI k), .int o, .ref (bd 2 0), .ref (bd 1 0), .ref (bd 0 0)] : List Value).toArray s 0 0 (wA cL bd s.heap.size)) (F0 m 166 ls [.int z32, .int ((ovQ ρ (G k) k o) / (dvQ ρ (G k) k o))]) := by
            intro z32 ez32
            subst ez32
            refine lv_iadd hx hb dL_visits_166 ?_
            have hpa : (ovQ ρ (G k) k o) / (dvQ ρ (G k) k o) + (if rmI (ovQ ρ (G k) k o) (dvQ ρ (G k) k o) ≤ 0 then 0 else 1) = paQ ρ (G k) k o := rfl
            refine lv_topi (fun y33 ey33 => ?_)
            obtain rfl : y33 = paQ ρ (G k) k o := ey33.trans (rfl)
            refine lv_istore (lv' := [(7, .int (paQ ρ (G k) k o)), (6, .int (ovQ ρ (G k) k o)), (5, .int (nI (3 * (G k)))), (0, .int (nI k)), (1, .int o), (2, .ref (bd 2 0)), (3, .ref (bd 1 0)), (4, .ref (bd 0 0))]) hx hb dL_visits_167 hl (by decide) rfl (fun ls hl => ?_)
            refine lv_aload_n hx hb dL_visits_169 rfl (lv_at hl 5 rfl) ?_
            refine lv_bipush (v := 6) hx hb dL_visits_170 (by decide) ?_
            refine lv_iload_n hx hb dL_visits_172 rfl (lv_at hl 3 rfl) ?_
            refine lv_imul hx hb dL_visits_173 ?_
            refine lv_topi (fun y34 ey34 => ?_)
            obtain rfl : y34 = nI (6 * k) := ey34.trans (pk_mul 6 k)
            refine lv_iconst (v := 2) hx hb dL_visits_174 (by decide) ?_
            refine lv_iadd hx hb dL_visits_175 ?_
            refine lv_topi (fun y35 ey35 => ?_)
            obtain rfl : y35 = nI ((6 * k) + 2) := ey35.trans (nI_add (6 * k) 2)
            refine lv_aload hx hb dL_visits_176 (lv_at hl 7 rfl) ?_
            refine lv_iconst (v := 0) hx hb dL_visits_178 (by decide) ?_
            refine g_iald (f := (vE ρ (G k) k o) 0) (x := (vE ρ (G k) k o) 0 0) hx hb hK (hB11 0 0 Nat.zero_lt_one) (vp_in_nI (n := 0) (N := 8) (by decide) (by decide)) (congrArg ((vE ρ (G k) k o) 0) (cl_nI (n := 0) (by decide))) dL_visits_179 ?_
            have k_198 : ∀ z36 : Int32, z36 = pcQ ρ (G k) k o → W p l e (headSpec wsL_visits ({ frames := 2, cells := 0, slots := 0, locals := 80 } : Room)).room s m ([.int (nI k), .int o, .ref (bd 2 0), .ref (bd 1 0), .ref (bd 0 0)] : List Value).toArray below meth c H11 locs11 0 0 (MQ below (uQ (some (.int (if mayQ ρ G k = true then vS ρ (G k) k o 1 (3 * G k + 2) else -3))) (LW D cy bd (if mayQ ρ G k = true then vS ρ (G k) k o else ρ) κ) (wA cL bd s.heap.size)) ([.int (nI k), .int o, .ref (bd 2 0), .ref (bd 1 0), .ref (bd 0 0)] : List Value).toArray s 0 0 (wA cL bd s.heap.size)) (F0 m 198 ls [.int z36, .int ((vE ρ (G k) k o) 0 0), .int (nI ((6 * k) + 2)), .ref (bd 2 0)]) := by
              intro z36 ez36
              subst ez36
              refine lv_iadd hx hb dL_visits_198 ?_
              refine g_iast (f := (vE ρ (G k) k o) 2) (A := (wA cL bd s.heap.size)) hx hb hK (hB11 2 0 Nat.zero_lt_one) hS11 (wA.in (k := 2) (i := 0) Nat.zero_lt_one) (vp_in_nI (n := (6 * k) + 2) (N := 60) (by omega) (by decide)) dL_visits_199 (fun H12 locs12 hc12 hu12 hS12 => ?_)
              have hB12 : LW D cy bd (vF ρ (G k) k o) κ H12 := hB11.ist hJ 2 (q := ((6 * k) + 2)) (by decide) (cl_nI (n := (6 * k) + 2) (by omega)) hc12 hu12
              refine lv_goto (tgt := 237) hx hb dL_visits_200 (by decide) ?_
              refine lv_aload_n hx hb dL_visits_237 rfl (lv_at hl 6 rfl) ?_
              refine lv_iload hx hb dL_visits_238 (lv_at hl 2 rfl) ?_
              refine g_iald (f := (vF ρ (G k) k o) 1) (x := (vF ρ (G k) k o) 1 (3 * (G k))) hx hb hK (hB12 1 0 Nat.zero_lt_one) (vp_in_nI (n := 3 * (G k)) (N := 9) (by omega) (by decide)) (congrArg ((vF ρ (G k) k o) 1) (cl_nI (n := 3 * (G k)) (by omega))) dL_visits_240 ?_
              refine lv_istore (lv' := [(6, .int ((vF ρ (G k) k o) 1 (3 * (G k)))), (7, .int (paQ ρ (G k) k o)), (5, .int (nI (3 * (G k)))), (0, .int (nI k)), (1, .int o), (2, .ref (bd 2 0)), (3, .ref (bd 1 0)), (4, .ref (bd 0 0))]) hx hb dL_visits_241 hl (by decide) rfl (fun ls hl => ?_)
              refine lv_iconst (v := 0) hx hb dL_visits_243 (by decide) ?_
              refine lv_topi (fun y37 ey37 => ?_)
              obtain rfl : y37 = nI 0 := ey37.trans (nI_0.symm)
              refine lv_istore (lv' := [(7, .int (nI 0)), (6, .int ((vF ρ (G k) k o) 1 (3 * (G k)))), (5, .int (nI (3 * (G k)))), (0, .int (nI k)), (1, .int o), (2, .ref (bd 2 0)), (3, .ref (bd 1 0)), (4, .ref (bd 0 0))]) hx hb dL_visits_244 hl (by decide) rfl (fun ls hl => ?_)
              have loop : ∀ (k9 : Nat) (i : Nat) (ls : Array Slot), i ≤ 5 → 5 < i + k9 → lv_has ls 8 [(0, .int (nI k)), (1, .int o), (2, .ref (bd 2 0)), (3, .ref (bd 1 0)), (4, .ref (bd 0 0)), (5, .int (nI (3 * G k))), (6, .int (rsF ((vF ρ (G k) k o) 1 (3 * G k)) ((vF ρ (G k) k o) 1 (3 * G k + 1)) i)), (7, .int (nI i))] → W p l e (headSpec wsL_visits ({ frames := 2, cells := 0, slots := 0, locals := 80 } : Room)).room s m ([.int (nI k), .int o, .ref (bd 2 0), .ref (bd 1 0), .ref (bd 0 0)] : List Value).toArray below meth c H12 locs12 0 0 (MQ below (uQ (some (.int (if mayQ ρ G k = true then vS ρ (G k) k o 1 (3 * G k + 2) else -3))) (LW D cy bd (if mayQ ρ G k = true then vS ρ (G k) k o else ρ) κ) (wA cL bd s.heap.size)) ([.int (nI k), .int o, .ref (bd 2 0), .ref (bd 1 0), .ref (bd 0 0)] : List Value).toArray s 0 0 (wA cL bd s.heap.size)) (F0 m 246 ls []) := by
                intro k9
                induction k9 with
                | zero => intro i ls hi hik hl; exfalso; omega
                | succ k9 loop_ih =>
                  intro i ls hi hik hl
                  refine lv_iload hx hb dL_visits_246 (lv_at hl 7 rfl) ?_
                  refine lv_iconst (v := 5) hx hb dL_visits_248 (by decide) ?_
                  refine lv_icmp_ge (tgt := 275) hx hb dL_visits_249 (by decide) (fun c_249 => ?_) (fun c_249 => ?_)
                  · -- 249 t
                    obtain rfl : i = 5 := by have := ge_of (n := 5) c_249 (by omega) (by decide); omega
                    refine lv_aload_n hx hb dL_visits_275 rfl (lv_at hl 3 rfl) ?_
                    refine lv_iload hx hb dL_visits_276 (lv_at hl 5 rfl) ?_
                    refine lv_iconst (v := 2) hx hb dL_visits_278 (by decide) ?_
                    refine lv_iadd hx hb dL_visits_279 ?_
                    refine lv_topi (fun y38 ey38 => ?_)
                    obtain rfl : y38 = nI ((3 * G k) + 2) := ey38.trans (nI_add (3 * G k) 2)
                    refine lv_aload hx hb dL_visits_280 (lv_at hl 4 rfl) ?_
                    refine lv_iconst (v := 0) hx hb dL_visits_282 (by decide) ?_
                    refine g_iald (f := (vF ρ (G k) k o) 0) (x := (vF ρ (G k) k o) 0 0) hx hb hK (hB12 0 0 Nat.zero_lt_one) (vp_in_nI (n := 0) (N := 8) (by decide) (by decide)) (congrArg ((vF ρ (G k) k o) 0) (cl_nI (n := 0) (by decide))) dL_visits_283 ?_
                    refine lv_iload hx hb dL_visits_284 (lv_at hl 6 rfl) ?_
                    refine lv_iadd hx hb dL_visits_286 ?_
                    refine g_iast (f := (vF ρ (G k) k o) 1) (A := (wA cL bd s.heap.size)) hx hb hK (hB12 1 0 Nat.zero_lt_one) hS12 (wA.in (k := 1) (i := 0) Nat.zero_lt_one) (vp_in_nI (n := (3 * G k) + 2) (N := 9) (by omega) (by decide)) dL_visits_287 (fun H13 locs13 hc13 hu13 hS13 => ?_)
                    have hB13 : LW D cy bd (vI (vF ρ (G k) k o) (G k)) κ H13 := hB12.ist hJ 1 (q := ((3 * G k) + 2)) (by decide) (cl_nI (n := (3 * G k) + 2) (by omega)) hc13 hu13
                    refine lv_aload_n hx hb dL_visits_288 rfl (lv_at hl 3 rfl) ?_
                    refine lv_iload hx hb dL_visits_289 (lv_at hl 5 rfl) ?_
                    refine lv_iconst (v := 2) hx hb dL_visits_291 (by decide) ?_
                    refine lv_iadd hx hb dL_visits_292 ?_
                    refine lv_topi (fun y39 ey39 => ?_)
                    obtain rfl : y39 = nI ((3 * G k) + 2) := ey39.trans (nI_add (3 * G k) 2)
                    refine g_iald (f := (vI (vF ρ (G k) k o) (G k)) 1) (x := (vI (vF ρ (G k) k o) (G k)) 1 ((3 * G k) + 2)) hx hb hK (hB13 1 0 Nat.zero_lt_one) (vp_in_nI (n := (3 * G k) + 2) (N := 9) (by omega) (by decide)) (congrArg ((vI (vF ρ (G k) k o) (G k)) 1) (cl_nI (n := (3 * G k) + 2) (by omega))) dL_visits_293 ?_
                    exact g_iretU hx hb hr hlocks hS13 (by rw [if_pos hmay]; rw [vS, vX, if_pos (Int32.not_le.mp c_88)]; exact hB13) (Nat.le_refl _) (Nat.le_refl _) dL_visits_294 (by rw [if_pos hmay]; rw [vS, vX, if_pos (Int32.not_le.mp c_88)])
                  · -- 249 f
                    have hi2 : i < 5 := lt_of (n := 5) c_249 (by omega) (by decide)
                    refine lv_iload hx hb dL_visits_252 (lv_at hl 7 rfl) ?_
                    refine lv_aload_n hx hb dL_visits_254 rfl (lv_at hl 3 rfl) ?_
                    refine lv_iload hx hb dL_visits_255 (lv_at hl 5 rfl) ?_
                    refine lv_iconst (v := 1) hx hb dL_visits_257 (by decide) ?_
                    refine lv_iadd hx hb dL_visits_258 ?_
                    refine lv_topi (fun y40 ey40 => ?_)
                    obtain rfl : y40 = nI ((3 * G k) + 1) := ey40.trans (nI_add (3 * G k) 1)
                    refine g_iald (f := (vF ρ (G k) k o) 1) (x := (vF ρ (G k) k o) 1 ((3 * G k) + 1)) hx hb hK (hB12 1 0 Nat.zero_lt_one) (vp_in_nI (n := (3 * G k) + 1) (N := 9) (by omega) (by decide)) (congrArg ((vF ρ (G k) k o) 1) (cl_nI (n := (3 * G k) + 1) (by omega))) dL_visits_259 ?_
                    refine lv_icmp_ge (tgt := 275) hx hb dL_visits_260 (by decide) (fun c_260 => ?_) (fun c_260 => ?_)
                    · -- 260 t
                      rw [show rsF ((vF ρ (G k) k o) 1 (3 * G k)) ((vF ρ (G k) k o) 1 (3 * G k + 1)) i = rsF ((vF ρ (G k) k o) 1 (3 * G k)) ((vF ρ (G k) k o) 1 (3 * G k + 1)) 5 from by have := rsF_s (r := (vF ρ (G k) k o) 1 (3 * G k)) (Int32.not_lt.mpr c_260) (5 - i) (by omega); rw [show i + (5 - i) = 5 by omega] at this; exact this.symm] at hl
                      refine lv_aload_n hx hb dL_visits_275 rfl (lv_at hl 3 rfl) ?_
                      refine lv_iload hx hb dL_visits_276 (lv_at hl 5 rfl) ?_
                      refine lv_iconst (v := 2) hx hb dL_visits_278 (by decide) ?_
                      refine lv_iadd hx hb dL_visits_279 ?_
                      refine lv_topi (fun y41 ey41 => ?_)
                      obtain rfl : y41 = nI ((3 * G k) + 2) := ey41.trans (nI_add (3 * G k) 2)
                      refine lv_aload hx hb dL_visits_280 (lv_at hl 4 rfl) ?_
                      refine lv_iconst (v := 0) hx hb dL_visits_282 (by decide) ?_
                      refine g_iald (f := (vF ρ (G k) k o) 0) (x := (vF ρ (G k) k o) 0 0) hx hb hK (hB12 0 0 Nat.zero_lt_one) (vp_in_nI (n := 0) (N := 8) (by decide) (by decide)) (congrArg ((vF ρ (G k) k o) 0) (cl_nI (n := 0) (by decide))) dL_visits_283 ?_
                      refine lv_iload hx hb dL_visits_284 (lv_at hl 6 rfl) ?_
                      refine lv_iadd hx hb dL_visits_286 ?_
                      refine g_iast (f := (vF ρ (G k) k o) 1) (A := (wA cL bd s.heap.size)) hx hb hK (hB12 1 0 Nat.zero_lt_one) hS12 (wA.in (k := 1) (i := 0) Nat.zero_lt_one) (vp_in_nI (n := (3 * G k) + 2) (N := 9) (by omega) (by decide)) dL_visits_287 (fun H14 locs14 hc14 hu14 hS14 => ?_)
                      have hB14 : LW D cy bd (vI (vF ρ (G k) k o) (G k)) κ H14 := hB12.ist hJ 1 (q := ((3 * G k) + 2)) (by decide) (cl_nI (n := (3 * G k) + 2) (by omega)) hc14 hu14
                      refine lv_aload_n hx hb dL_visits_288 rfl (lv_at hl 3 rfl) ?_
                      refine lv_iload hx hb dL_visits_289 (lv_at hl 5 rfl) ?_
                      refine lv_iconst (v := 2) hx hb dL_visits_291 (by decide) ?_
                      refine lv_iadd hx hb dL_visits_292 ?_
                      refine lv_topi (fun y42 ey42 => ?_)
                      obtain rfl : y42 = nI ((3 * G k) + 2) := ey42.trans (nI_add (3 * G k) 2)
                      refine g_iald (f := (vI (vF ρ (G k) k o) (G k)) 1) (x := (vI (vF ρ (G k) k o) (G k)) 1 ((3 * G k) + 2)) hx hb hK (hB14 1 0 Nat.zero_lt_one) (vp_in_nI (n := (3 * G k) + 2) (N := 9) (by omega) (by decide)) (congrArg ((vI (vF ρ (G k) k o) (G k)) 1) (cl_nI (n := (3 * G k) + 2) (by omega))) dL_visits_293 ?_
                      exact g_iretU hx hb hr hlocks hS14 (by rw [if_pos hmay]; rw [vS, vX, if_pos (Int32.not_le.mp c_88)]; exact hB14) (Nat.le_refl _) (Nat.le_refl _) dL_visits_294 (by rw [if_pos hmay]; rw [vS, vX, if_pos (Int32.not_le.mp c_88)])
                    · -- 260 f
                      refine lv_iload hx hb dL_visits_263 (lv_at hl 6 rfl) ?_
                      refine lv_iconst (v := 2) hx hb dL_visits_265 (by decide) ?_
                      refine lv_imul hx hb dL_visits_266 ?_
                      refine lv_istore (lv' := [(6, .int ((rsF ((vF ρ (G k) k o) 1 (3 * G k)) ((vF ρ (G k) k o) 1 (3 * G k + 1)) i) * 2)), (0, .int (nI k)), (1, .int o), (2, .ref (bd 2 0)), (3, .ref (bd 1 0)), (4, .ref (bd 0 0)), (5, .int (nI (3 * G k))), (7, .int (nI i))]) hx hb dL_visits_267 hl (by decide) rfl (fun ls hl => ?_)
                      rw [show rsF ((vF ρ (G k) k o) 1 (3 * G k)) ((vF ρ (G k) k o) 1 (3 * G k + 1)) i * 2 = rsF ((vF ρ (G k) k o) 1 (3 * G k)) ((vF ρ (G k) k o) 1 (3 * G k + 1)) (i + 1) from by rw [show rsF ((vF ρ (G k) k o) 1 (3 * G k)) ((vF ρ (G k) k o) 1 (3 * G k + 1)) (i + 1) = if nI i < (vF ρ (G k) k o) 1 (3 * G k + 1) then rsF ((vF ρ (G k) k o) 1 (3 * G k)) ((vF ρ (G k) k o) 1 (3 * G k + 1)) i * 2 else rsF ((vF ρ (G k) k o) 1 (3 * G k)) ((vF ρ (G k) k o) 1 (3 * G k + 1)) i from rfl, if_pos (Int32.not_le.mp c_260)]] at hl
                      refine lv_iinc (v := nI (i + 1)) (lv' := [(7, .int (nI (i + 1))), (6, .int (rsF ((vF ρ (G k) k o) 1 (3 * G k)) ((vF ρ (G k) k o) 1 (3 * G k + 1)) (i + 1))), (0, .int (nI k)), (1, .int o), (2, .ref (bd 2 0)), (3, .ref (bd 1 0)), (4, .ref (bd 0 0)), (5, .int (nI (3 * G k)))]) hx hb dL_visits_269 hl (k := 7) rfl (nI_1 _) (by decide) rfl (fun ls hl => ?_)
                      refine lv_goto (tgt := 246) hx hb dL_visits_272 (by decide) ?_
                      exact loop_ih (i + 1) ls (by omega) (by omega) (lv_sub hl [2, 3, 4, 5, 6, 7, 1, 0] rfl)
              exact loop (6) 0 ls (Nat.zero_le _) (by decide) (lv_sub hl [3, 4, 5, 6, 7, 2, 1, 0] rfl)
            refine lv_iload hx hb dL_visits_180 (lv_at hl 0 rfl) ?_
            refine lv_aload hx hb dL_visits_182 (lv_at hl 7 rfl) ?_
            refine lv_iconst (v := 2) hx hb dL_visits_184 (by decide) ?_
            refine g_iald (f := (vE ρ (G k) k o) 0) (x := (vE ρ (G k) k o) 0 2) hx hb hK (hB11 0 0 Nat.zero_lt_one) (vp_in_nI (n := 2) (N := 8) (by decide) (by decide)) (congrArg ((vE ρ (G k) k o) 0) (cl_nI (n := 2) (by decide))) dL_visits_185 ?_
            refine lv_icmp_le (tgt := 196) hx hb dL_visits_186 (by decide) (fun c_186 => ?_) (fun c_186 => ?_)
            · -- 186 t
              refine lv_iload hx hb dL_visits_196 (lv_at hl 0 rfl) ?_
              exact k_198 _ (if_pos c_186).symm
            · -- 186 f
              refine lv_aload hx hb dL_visits_189 (lv_at hl 7 rfl) ?_
              refine lv_iconst (v := 2) hx hb dL_visits_191 (by decide) ?_
              refine g_iald (f := (vE ρ (G k) k o) 0) (x := (vE ρ (G k) k o) 0 2) hx hb hK (hB11 0 0 Nat.zero_lt_one) (vp_in_nI (n := 2) (N := 8) (by decide) (by decide)) (congrArg ((vE ρ (G k) k o) 0) (cl_nI (n := 2) (by decide))) dL_visits_192 ?_
              refine lv_goto (tgt := 198) hx hb dL_visits_193 (by decide) ?_
              exact k_198 _ (if_neg c_186).symm
          refine lv_iload hx hb dL_visits_145 (lv_at hl 0 rfl) ?_
          refine lv_aload_n hx hb dL_visits_147 rfl (lv_at hl 4 rfl) ?_
          refine lv_bipush (v := 6) hx hb dL_visits_148 (by decide) ?_
          refine lv_iload_n hx hb dL_visits_150 rfl (lv_at hl 2 rfl) ?_
          refine lv_imul hx hb dL_visits_151 ?_
          refine lv_topi (fun y43 ey43 => ?_)
          obtain rfl : y43 = nI (6 * k) := ey43.trans (pk_mul 6 k)
          refine lv_iconst (v := 4) hx hb dL_visits_152 (by decide) ?_
          refine lv_iadd hx hb dL_visits_153 ?_
          refine lv_topi (fun y44 ey44 => ?_)
          obtain rfl : y44 = nI ((6 * k) + 4) := ey44.trans (nI_add (6 * k) 4)
          refine g_iald (f := (vE ρ (G k) k o) 2) (x := (vE ρ (G k) k o) 2 ((6 * k) + 4)) hx hb hK (hB11 2 0 Nat.zero_lt_one) (vp_in_nI (n := (6 * k) + 4) (N := 60) (by omega) (by decide)) (congrArg ((vE ρ (G k) k o) 2) (cl_nI (n := (6 * k) + 4) (by omega))) dL_visits_154 ?_
          refine lv_iconst (v := 1) hx hb dL_visits_155 (by decide) ?_
          refine lv_iadd hx hb dL_visits_156 ?_
          refine lv_topi (fun y45 ey45 => ?_)
          obtain rfl : y45 = dvQ ρ (G k) k o := ey45.trans (rfl)
          refine lv_irem hx hb dL_visits_157 (hne) ?_
          refine lv_if_le (tgt := 165) hx hb dL_visits_158 (by decide) (fun c_158 => ?_) (fun c_158 => ?_)
          · -- 158 t
            refine lv_iconst (v := 0) hx hb dL_visits_165 (by decide) ?_
            exact k_166 _ (if_pos c_158).symm
          · -- 158 f
            refine lv_iconst (v := 1) hx hb dL_visits_161 (by decide) ?_
            refine lv_goto (tgt := 166) hx hb dL_visits_162 (by decide) ?_
            exact k_166 _ (if_neg c_158).symm
      refine lv_iload_n hx hb dL_visits_68 rfl (lv_at hl 2 rfl) ?_
      refine lv_iconst (v := 2) hx hb dL_visits_69 (by decide) ?_
      refine lv_icmp_ne (tgt := 84) hx hb dL_visits_70 (by decide) (fun c_70 => ?_) (fun c_70 => ?_)
      · -- 70 t
        refine lv_iconst (v := 0) hx hb dL_visits_84 (by decide) ?_
        exact k_85 _ (by rw [if_neg c_70])
      · -- 70 f
        refine lv_aload_n hx hb dL_visits_73 rfl (lv_at hl 4 rfl) ?_
        refine lv_iload hx hb dL_visits_74 (lv_at hl 0 rfl) ?_
        refine lv_iconst (v := 1) hx hb dL_visits_76 (by decide) ?_
        refine lv_iadd hx hb dL_visits_77 ?_
        refine lv_topi (fun y46 ey46 => ?_)
        obtain rfl : y46 = nI ((3 * (G k)) + 1) := ey46.trans (nI_add (3 * (G k)) 1)
        refine g_iald (f := (vB ρ) 1) (x := (vB ρ) 1 ((3 * (G k)) + 1)) hx hb hK (hB2 1 0 Nat.zero_lt_one) (vp_in_nI (n := (3 * (G k)) + 1) (N := 9) (by omega) (by decide)) (congrArg ((vB ρ) 1) (cl_nI (n := (3 * (G k)) + 1) (by omega))) dL_visits_78 ?_
        refine lv_iconst (v := 1) hx hb dL_visits_79 (by decide) ?_
        refine lv_iadd hx hb dL_visits_80 ?_
        refine lv_goto (tgt := 85) hx hb dL_visits_81 (by decide) ?_
        exact k_85 _ (by rw [if_pos c_70])
    refine lv_aload hx hb dL_visits_27 (lv_at hl 5 rfl) ?_
    refine lv_iconst (v := 5) hx hb dL_visits_29 (by decide) ?_
    refine g_iald (f := ρ 0) (x := ρ 0 5) hx hb hK (hB 0 0 Nat.zero_lt_one) (vp_in_nI (n := 5) (N := 8) (by decide) (by decide)) (congrArg (ρ 0) (cl_nI (n := 5) (by decide))) dL_visits_30 ?_
    refine lv_aload hx hb dL_visits_31 (lv_at hl 5 rfl) ?_
    refine lv_iconst (v := 0) hx hb dL_visits_33 (by decide) ?_
    refine g_iald (f := ρ 0) (x := ρ 0 0) hx hb hK (hB 0 0 Nat.zero_lt_one) (vp_in_nI (n := 0) (N := 8) (by decide) (by decide)) (congrArg (ρ 0) (cl_nI (n := 0) (by decide))) dL_visits_34 ?_
    refine lv_bipush (v := 100) hx hb dL_visits_35 (by decide) ?_
    refine lv_idiv hx hb dL_visits_37 (by decide) ?_
    refine lv_icmp_ne (tgt := 50) hx hb dL_visits_38 (by decide) (fun c_38 => ?_) (fun c_38 => ?_)
    · -- 38 t
      refine lv_iconst (v := 1) hx hb dL_visits_50 (by decide) ?_
      exact k_51 _ (by rw [if_neg c_38])
    · -- 38 f
      refine lv_aload hx hb dL_visits_41 (lv_at hl 5 rfl) ?_
      refine lv_iconst (v := 4) hx hb dL_visits_43 (by decide) ?_
      refine g_iald (f := ρ 0) (x := ρ 0 4) hx hb hK (hB 0 0 Nat.zero_lt_one) (vp_in_nI (n := 4) (N := 8) (by decide) (by decide)) (congrArg (ρ 0) (cl_nI (n := 4) (by decide))) dL_visits_44 ?_
      refine lv_iconst (v := 1) hx hb dL_visits_45 (by decide) ?_
      refine lv_iadd hx hb dL_visits_46 ?_
      refine lv_goto (tgt := 51) hx hb dL_visits_47 (by decide) ?_
      exact k_51 _ (by rw [if_pos c_38])
  · -- 8 f
    have hmay : ¬ mayQ ρ G k = true := by rw [zb_0.mp c_8]; decide
    refine lv_bipush (v := (-3)) hx hb dL_visits_11 (by decide) ?_
    exact g_iretU hx hb hr hlocks hS (by rw [if_neg hmay]; exact hB) (Nat.le_refl _) (Nat.le_refl _) dL_visits_13 (if_neg hmay).symm
