/-! PolitecrawlModel: waiting, visit, share, find -/
def wt0 (σ : IT) (ν : NT) (p : Nat) : Int32 := if σ 11 p ≤ σ 9 (ν 5 p) then σ 9 (ν 5 p) else σ 11 p
def wt1 (σ : IT) (ν : NT) (p : Nat) : Int32 := if wt0 σ ν p ≤ σ 0 0 then σ 0 0 else wt0 σ ν p
def wt2 (σ : IT) (ν : NT) (p : Nat) : Int32 := if wt1 σ ν p / 100 = σ 0 0 / 100 ∧ leftM σ = 0 then 100 * (σ 0 0 / 100 + 1) else wt1 σ ν p
def wtC (σ : IT) (p : Nat) : Bool := keptB (σ 14 p) (σ 15 p)
def wtL (σ : IT) (ν : NT) : Nat → Nat → Int32 → Int32
  | 0, _, w => w
  | k + 1, p, w => wtL σ ν k (p + 1) (if wtC σ p = true ∧ (w = -1 ∨ wt2 σ ν p < w) then wt2 σ ν p else w)
def oWaiting (σ : IT) (ν : NT) : Int32 := if wtL (T0 σ) ν (ν 0 0) 0 (-1) = -1 then -1 else wtL (T0 σ) ν (ν 0 0) 0 (-1) - σ 0 0

set_option maxHeartbeats 4000000 in
set_option maxRecDepth 100000 in
/-- model: waiting -/
theorem m_X4_waiting (l : Launch) (D : va_G) (cy : Nat → ClassId) (sz : Nat) (ad : NT) (σ : IT) (ν : NT) (hJ : wJ cM ad) (hI : MI σ ν) : Met l yX4_waiting wsX4_waiting ({ frames := 1, cells := 0, slots := 0, locals := 30 } : Room) (va_Pc [.ref (ad 0 0)] (fun U => gK D cy U ∧ (atSz sz (MW D cy ad σ ν)) U.heap)) (uQ (some (.int (oWaiting σ ν))) (MW D cy ad (T0 σ) ν) (wA cM ad sz)) 0 0 (wA cM ad sz) := by
  refine Met.ofW (cc := cX4_waiting) (maxL := 4) (ret := (some .int)) (by decide) rfl ?_
  intro p e s m args below meth c s₁ B9 hml hv
  obtain ⟨rfl, hK, hsz, hB⟩ := hv
  have hx := B9.exec
  have hb := B9.bytes
  have hr := B9.returns
  have hts := atoms_spec (ws := wsX4_waiting) B9.pre
  have hown : s.vm.findClass RX4 = some m.cls := findClass_of_methodNamed B9.named
  have hlocks := B9.notSynchronized
  subst hsz
  have hS : va_S (wA cM ad s.heap.size) s.heap s.heap [] := va_S.rf
  have lk69 := hts (.fieldLink RX4 69 "PolitecrawlModel" "thrown" "I") (by decide +kernel)
  have inX4 : ∀ w ∈ u_ws RX4 TX4 26, w ∈ wsX4_waiting := by decide +kernel
  have lk76 := hts (.fieldLink RX4 76 "PolitecrawlModel" "pages" "I") (by decide +kernel)
  have lk44 := hts (.fieldLink RX4 44 "PolitecrawlModel" "due" "[I") (by decide +kernel)
  have lk19 := hts (.fieldLink RX4 19 "PolitecrawlModel" "openFrom" "[I") (by decide +kernel)
  have lk38 := hts (.fieldLink RX4 38 "PolitecrawlModel" "host" "[I") (by decide +kernel)
  have lk110 := hts (.fieldLink RX4 110 "PolitecrawlModel" "now" "I") (by decide +kernel)
  have hl := lv_entry ([.ref (ad 0 0)]) (n := 4) (Nat.le_of_ble_eq_true rfl)
  rw [lg_entry_eq]
  generalize (lg_sl ([.ref (ad 0 0)]) ++ List.replicate (4 - (lg_sl ([.ref (ad 0 0)])).length) Slot.unset).toArray = ls at hl ⊢
  have hl : lv_has ls 4 [(0, .ref (ad 0 0))] := hl
  have hn30 := hI.1
  refine lv_aload_n hx hb dX4_waiting_0 rfl (lv_at hl 0 rfl) ?_
  refine lv_iconst (v := 0) hx hb dX4_waiting_1 (by decide) ?_
  refine g_put (C := RX4) (T := TX4) (N := 26) (ci := 4) (fs := [.int (σ 30 0), .int (σ 0 0), .int (nI (ν 1 0)), .ref (ad 6 0), .ref (ad 7 0), .ref (ad 8 0), .ref (ad 9 0), .int (σ 1 0), .int (σ 2 0), .int (σ 3 0), .int (σ 31 0), .int (σ 32 0), .int (nI (ν 0 0)), .ref (ad 18 0), .ref (ad 17 0), .ref (ad 16 0), .ref (ad 10 0), .ref (ad 11 0), .ref (ad 12 0), .ref (ad 13 0), .ref (ad 14 0), .ref (ad 15 0), .int (nI (ν 6 0)), .ref (ad 34 0), .ref (ad 35 0), .ref (ad 36 0)]) (A := (wA cM ad s.heap.size)) hx hb hts inX4 tyX4 tyX4_ok nmX4 hown hK (hB 0 0 Nat.zero_lt_one) rfl hS (wA.in (k := 0) (i := 0) Nat.zero_lt_one) 0 (by decide) lk69 rfl rfl rfl rfl (Nat.le_of_ble_eq_true rfl) dX4_waiting_2 (fun H1 locs1 hc1 hu1 hS1 => ?_)
  have hB1 : MW D cy ad (up2 σ 30 0 0) ν H1 := hB.sc hJ (by decide) hc1 hu1
  obtain ⟨σ1, hs1⟩ : ∃ z : IT, z = up2 σ 30 0 0 := ⟨_, rfl⟩
  rw [← hs1] at hB1
  refine lv_iconst (v := (-1)) hx hb dX4_waiting_5 (by decide) ?_
  refine lv_istore_n (lv' := [(1, .int (-1)), (0, .ref (ad 0 0))]) hx hb dX4_waiting_6 rfl hl (by decide) rfl (fun ls hl => ?_)
  refine lv_iconst (v := 0) hx hb dX4_waiting_7 (by decide) ?_
  refine lv_topi (fun y1 ey1 => ?_)
  obtain rfl : y1 = nI 0 := ey1.trans (nI_0.symm)
  refine lv_istore_n (lv' := [(2, .int (nI 0)), (1, .int (-1)), (0, .ref (ad 0 0))]) hx hb dX4_waiting_8 rfl hl (by decide) rfl (fun ls hl => ?_)
  obtain ⟨V, hV⟩ : ∃ V, V = wtL σ1 ν (ν 0 0 - 0) 0 (-1) := ⟨_, rfl⟩
  have hV0 : oWaiting σ ν = if V = -1 then -1 else V - σ1 0 0 := by rw [hV, hs1]; rfl
  rw [hV0]
  have hW : MW D cy ad (T0 σ) ν H1 := by rw [hs1] at hB1; exact hB1
  have loop : ∀ (k : Nat) (pz : Nat) (wz : Int32) (ls : Array Slot), pz ≤ ν 0 0 → ν 0 0 < pz + k → V = wtL σ1 ν (ν 0 0 - pz) pz wz → lv_has ls 4 [(0, .ref (ad 0 0)), (1, .int wz), (2, .int (nI pz))] → W p l e (headSpec wsX4_waiting ({ frames := 1, cells := 0, slots := 0, locals := 30 } : Room)).room s m ([.ref (ad 0 0)] : List Value).toArray below meth c H1 locs1 0 0 (MQ below (uQ (some (.int (if V = -1 then -1 else V - σ1 0 0))) (MW D cy ad (T0 σ) ν) (wA cM ad s.heap.size)) ([.ref (ad 0 0)] : List Value).toArray s 0 0 (wA cM ad s.heap.size)) (F0 m 9 ls []) := by
    intro k
    induction k with
    | zero => intro pz wz ls hi hk hV hl; exfalso; omega
    | succ k loop_ih =>
      intro pz wz ls hi hk hV hl
      refine lv_iload_n hx hb dX4_waiting_9 rfl (lv_at hl 2 rfl) ?_
      refine lv_aload_n hx hb dX4_waiting_10 rfl (lv_at hl 0 rfl) ?_
      refine g_get (C := RX4) (T := TX4) (N := 26) (ci := 4) (fs := [.int (σ1 30 0), .int (σ1 0 0), .int (nI (ν 1 0)), .ref (ad 6 0), .ref (ad 7 0), .ref (ad 8 0), .ref (ad 9 0), .int (σ1 1 0), .int (σ1 2 0), .int (σ1 3 0), .int (σ1 31 0), .int (σ1 32 0), .int (nI (ν 0 0)), .ref (ad 18 0), .ref (ad 17 0), .ref (ad 16 0), .ref (ad 10 0), .ref (ad 11 0), .ref (ad 12 0), .ref (ad 13 0), .ref (ad 14 0), .ref (ad 15 0), .int (nI (ν 6 0)), .ref (ad 34 0), .ref (ad 35 0), .ref (ad 36 0)]) hx hb hts inX4 hown hK (hB1 0 0 Nat.zero_lt_one) rfl 12 (by decide) lk76 rfl rfl dX4_waiting_11 ?_
      refine lv_icmp_ge (tgt := 143) hx hb dX4_waiting_14 (by decide) (fun c_14 => ?_) (fun c_14 => ?_)
      · -- 14 t
        have hle : ν 0 0 ≤ pz := (nI_leI (by omega) (by omega)).mp c_14
        rw [show ν 0 0 - pz = 0 by omega, wtL] at hV
        subst hV
        refine lv_iload_n hx hb dX4_waiting_143 rfl (lv_at hl 1 rfl) ?_
        refine lv_iconst (v := (-1)) hx hb dX4_waiting_144 (by decide) ?_
        refine lv_icmp_ne (tgt := 152) hx hb dX4_waiting_145 (by decide) (fun c_145 => ?_) (fun c_145 => ?_)
        · -- 145 t
          refine lv_iload_n hx hb dX4_waiting_152 rfl (lv_at hl 1 rfl) ?_
          refine lv_aload_n hx hb dX4_waiting_153 rfl (lv_at hl 0 rfl) ?_
          refine g_get (C := RX4) (T := TX4) (N := 26) (ci := 4) (fs := [.int (σ1 30 0), .int (σ1 0 0), .int (nI (ν 1 0)), .ref (ad 6 0), .ref (ad 7 0), .ref (ad 8 0), .ref (ad 9 0), .int (σ1 1 0), .int (σ1 2 0), .int (σ1 3 0), .int (σ1 31 0), .int (σ1 32 0), .int (nI (ν 0 0)), .ref (ad 18 0), .ref (ad 17 0), .ref (ad 16 0), .ref (ad 10 0), .ref (ad 11 0), .ref (ad 12 0), .ref (ad 13 0), .ref (ad 14 0), .ref (ad 15 0), .int (nI (ν 6 0)), .ref (ad 34 0), .ref (ad 35 0), .ref (ad 36 0)]) hx hb hts inX4 hown hK (hB1 0 0 Nat.zero_lt_one) rfl 1 (by decide) lk110 rfl rfl dX4_waiting_154 ?_
          refine lv_isub hx hb dX4_waiting_157 ?_
          exact g_iretU hx hb hr hlocks hS1 hW (Nat.le_refl _) (Nat.le_refl _) dX4_waiting_158 (by rw [if_neg c_145])
        · -- 145 f
          refine lv_iconst (v := (-1)) hx hb dX4_waiting_148 (by decide) ?_
          refine lv_goto (tgt := 158) hx hb dX4_waiting_149 (by decide) ?_
          exact g_iretU hx hb hr hlocks hS1 hW (Nat.le_refl _) (Nat.le_refl _) dX4_waiting_158 (by rw [if_pos c_145])
      · -- 14 f
        have hlt : pz < ν 0 0 := Nat.not_le.mp fun q => c_14 ((nI_leI (by omega) (by omega)).mpr q)
        have hp30 : pz < 30 := Nat.lt_of_lt_of_le hlt hI.1
        have hh6 : ν 5 pz < 6 := (hI.2.2 pz hlt).1
        obtain ⟨j, hj⟩ : ∃ j, ν 0 0 - pz = j + 1 := ⟨ν 0 0 - pz - 1, by omega⟩
        have hj2 : ν 0 0 - (pz + 1) = j := by omega
        rw [hj, wtL] at hV
        refine lv_aload_n hx hb dX4_waiting_17 rfl (lv_at hl 0 rfl) ?_
        refine g_get (C := RX4) (T := TX4) (N := 26) (ci := 4) (fs := [.int (σ1 30 0), .int (σ1 0 0), .int (nI (ν 1 0)), .ref (ad 6 0), .ref (ad 7 0), .ref (ad 8 0), .ref (ad 9 0), .int (σ1 1 0), .int (σ1 2 0), .int (σ1 3 0), .int (σ1 31 0), .int (σ1 32 0), .int (nI (ν 0 0)), .ref (ad 18 0), .ref (ad 17 0), .ref (ad 16 0), .ref (ad 10 0), .ref (ad 11 0), .ref (ad 12 0), .ref (ad 13 0), .ref (ad 14 0), .ref (ad 15 0), .int (nI (ν 6 0)), .ref (ad 34 0), .ref (ad 35 0), .ref (ad 36 0)]) hx hb hts inX4 hown hK (hB1 0 0 Nat.zero_lt_one) rfl 17 (by decide) lk44 rfl rfl dX4_waiting_18 ?_
        refine lv_iload_n hx hb dX4_waiting_21 rfl (lv_at hl 2 rfl) ?_
        refine g_iald (f := σ1 11) (x := σ1 11 pz) hx hb hK (hB1 11 0 Nat.zero_lt_one) (vp_in_nI (N := 30) (by omega) (by decide)) (by rw [cl_nI (by omega)]) dX4_waiting_22 ?_
        refine lv_aload_n hx hb dX4_waiting_23 rfl (lv_at hl 0 rfl) ?_
        refine g_get (C := RX4) (T := TX4) (N := 26) (ci := 4) (fs := [.int (σ1 30 0), .int (σ1 0 0), .int (nI (ν 1 0)), .ref (ad 6 0), .ref (ad 7 0), .ref (ad 8 0), .ref (ad 9 0), .int (σ1 1 0), .int (σ1 2 0), .int (σ1 3 0), .int (σ1 31 0), .int (σ1 32 0), .int (nI (ν 0 0)), .ref (ad 18 0), .ref (ad 17 0), .ref (ad 16 0), .ref (ad 10 0), .ref (ad 11 0), .ref (ad 12 0), .ref (ad 13 0), .ref (ad 14 0), .ref (ad 15 0), .int (nI (ν 6 0)), .ref (ad 34 0), .ref (ad 35 0), .ref (ad 36 0)]) hx hb hts inX4 hown hK (hB1 0 0 Nat.zero_lt_one) rfl 6 (by decide) lk19 rfl rfl dX4_waiting_24 ?_
        refine lv_aload_n hx hb dX4_waiting_27 rfl (lv_at hl 0 rfl) ?_
        refine g_get (C := RX4) (T := TX4) (N := 26) (ci := 4) (fs := [.int (σ1 30 0), .int (σ1 0 0), .int (nI (ν 1 0)), .ref (ad 6 0), .ref (ad 7 0), .ref (ad 8 0), .ref (ad 9 0), .int (σ1 1 0), .int (σ1 2 0), .int (σ1 3 0), .int (σ1 31 0), .int (σ1 32 0), .int (nI (ν 0 0)), .ref (ad 18 0), .ref (ad 17 0), .ref (ad 16 0), .ref (ad 10 0), .ref (ad 11 0), .ref (ad 12 0), .ref (ad 13 0), .ref (ad 14 0), .ref (ad 15 0), .int (nI (ν 6 0)), .ref (ad 34 0), .ref (ad 35 0), .ref (ad 36 0)]) hx hb hts inX4 hown hK (hB1 0 0 Nat.zero_lt_one) rfl 15 (by decide) lk38 rfl rfl dX4_waiting_28 ?_
        refine lv_iload_n hx hb dX4_waiting_31 rfl (lv_at hl 2 rfl) ?_
        refine g_iald (f := fun j => nI (ν 5 j)) (x := nI (ν 5 pz)) hx hb hK (hB1 16 0 Nat.zero_lt_one) (vp_in_nI (N := 30) (by omega) (by decide)) (by rw [cl_nI (by omega)]) dX4_waiting_32 ?_
        refine g_iald (f := σ1 9) (x := σ1 9 (ν 5 pz)) hx hb hK (hB1 9 0 Nat.zero_lt_one) (vp_in_nI (N := 6) (by omega) (by decide)) (by rw [cl_nI (by omega)]) dX4_waiting_33 ?_
        have k_57 : ∀ z0w : Int32, z0w = wt0 σ1 ν pz → W p l e (headSpec wsX4_waiting ({ frames := 1, cells := 0, slots := 0, locals := 30 } : Room)).room s m ([.ref (ad 0 0)] : List Value).toArray below meth c H1 locs1 0 0 (MQ below (uQ (some (.int (if V = -1 then -1 else V - σ1 0 0))) (MW D cy ad (T0 σ) ν) (wA cM ad s.heap.size)) ([.ref (ad 0 0)] : List Value).toArray s 0 0 (wA cM ad s.heap.size)) (F0 m 57 ls [.int z0w]) := by
          intro z0w ez0w
          refine lv_istore_n (lv' := [(3, .int z0w), (0, .ref (ad 0 0)), (1, .int wz), (2, .int (nI pz))]) hx hb dX4_waiting_57 rfl hl (by decide) rfl (fun ls hl => ?_)
          refine lv_iload_n hx hb dX4_waiting_58 rfl (lv_at hl 0 rfl) ?_
          refine lv_aload_n hx hb dX4_waiting_59 rfl (lv_at hl 1 rfl) ?_
          refine g_get (C := RX4) (T := TX4) (N := 26) (ci := 4) (fs := [.int (σ1 30 0), .int (σ1 0 0), .int (nI (ν 1 0)), .ref (ad 6 0), .ref (ad 7 0), .ref (ad 8 0), .ref (ad 9 0), .int (σ1 1 0), .int (σ1 2 0), .int (σ1 3 0), .int (σ1 31 0), .int (σ1 32 0), .int (nI (ν 0 0)), .ref (ad 18 0), .ref (ad 17 0), .ref (ad 16 0), .ref (ad 10 0), .ref (ad 11 0), .ref (ad 12 0), .ref (ad 13 0), .ref (ad 14 0), .ref (ad 15 0), .int (nI (ν 6 0)), .ref (ad 34 0), .ref (ad 35 0), .ref (ad 36 0)]) hx hb hts inX4 hown hK (hB1 0 0 Nat.zero_lt_one) rfl 1 (by decide) lk110 rfl rfl dX4_waiting_60 ?_
          have k_74 : ∀ z1w : Int32, z1w = wt1 σ1 ν pz → W p l e (headSpec wsX4_waiting ({ frames := 1, cells := 0, slots := 0, locals := 30 } : Room)).room s m ([.ref (ad 0 0)] : List Value).toArray below meth c H1 locs1 0 0 (MQ below (uQ (some (.int (if V = -1 then -1 else V - σ1 0 0))) (MW D cy ad (T0 σ) ν) (wA cM ad s.heap.size)) ([.ref (ad 0 0)] : List Value).toArray s 0 0 (wA cM ad s.heap.size)) (F0 m 74 ls [.int z1w]) := by
            intro z1w ez1w
            refine lv_istore_n (lv' := [(3, .int z1w), (0, .ref (ad 0 0)), (1, .int wz), (2, .int (nI pz))]) hx hb dX4_waiting_74 rfl hl (by decide) rfl (fun ls hl => ?_)
            refine lv_iload_n hx hb dX4_waiting_75 rfl (lv_at hl 0 rfl) ?_
            refine lv_bipush (v := 100) hx hb dX4_waiting_76 (by decide) ?_
            refine lv_idiv hx hb dX4_waiting_78 (by decide) ?_
            refine lv_aload_n hx hb dX4_waiting_79 rfl (lv_at hl 1 rfl) ?_
            refine g_get (C := RX4) (T := TX4) (N := 26) (ci := 4) (fs := [.int (σ1 30 0), .int (σ1 0 0), .int (nI (ν 1 0)), .ref (ad 6 0), .ref (ad 7 0), .ref (ad 8 0), .ref (ad 9 0), .int (σ1 1 0), .int (σ1 2 0), .int (σ1 3 0), .int (σ1 31 0), .int (σ1 32 0), .int (nI (ν 0 0)), .ref (ad 18 0), .ref (ad 17 0), .ref (ad 16 0), .ref (ad 10 0), .ref (ad 11 0), .ref (ad 12 0), .ref (ad 13 0), .ref (ad 14 0), .ref (ad 15 0), .int (nI (ν 6 0)), .ref (ad 34 0), .ref (ad 35 0), .ref (ad 36 0)]) hx hb hts inX4 hown hK (hB1 0 0 Nat.zero_lt_one) rfl 1 (by decide) lk110 rfl rfl dX4_waiting_80 ?_
            refine lv_bipush (v := 100) hx hb dX4_waiting_83 (by decide) ?_
            refine lv_idiv hx hb dX4_waiting_85 (by decide) ?_
            have k_112 : ∀ z2w : Int32, z2w = wt2 σ1 ν pz → W p l e (headSpec wsX4_waiting ({ frames := 1, cells := 0, slots := 0, locals := 30 } : Room)).room s m ([.ref (ad 0 0)] : List Value).toArray below meth c H1 locs1 0 0 (MQ below (uQ (some (.int (if V = -1 then -1 else V - σ1 0 0))) (MW D cy ad (T0 σ) ν) (wA cM ad s.heap.size)) ([.ref (ad 0 0)] : List Value).toArray s 0 0 (wA cM ad s.heap.size)) (F0 m 112 ls [.int z2w]) := by
              intro z2w ez2w
              refine lv_istore_n (lv' := [(3, .int z2w), (0, .ref (ad 0 0)), (1, .int wz), (2, .int (nI pz))]) hx hb dX4_waiting_112 rfl hl (by decide) rfl (fun ls hl => ?_)
              refine lv_aload_n hx hb dX4_waiting_113 rfl (lv_at hl 1 rfl) ?_
              refine lv_iload_n hx hb dX4_waiting_114 rfl (lv_at hl 3 rfl) ?_
              refine g_csr (va_runV (As := [.int (nI pz)]) (rest := []) ⟨hx, hb, hml, hown, hts⟩ (m_X4_counts l D cy ad σ1 ν pz hp30) (cwV 1 hts gX4_waiting_X4_counts rfl rfl rfl (by decide +kernel) ⟨Nat.le_of_ble_eq_true rfl, Nat.le_of_ble_eq_true rfl⟩) (g_preV (C := RX4) (B := (MW D cy ad σ1 ν)) hK hB1 (hB1 0 0 Nat.zero_lt_one) rfl) rfl rfl hl.1 rfl (lv_room (Nat.le_of_ble_eq_true rfl)) dX4_waiting_115 ⟨Nat.zero_le _, Nat.zero_le _⟩) ?_
              have k_136 : ∀ zw : Int32, zw = (if wtC σ1 pz = true ∧ (wz = -1 ∨ wt2 σ1 ν pz < wz) then wt2 σ1 ν pz else wz) → W p l e (headSpec wsX4_waiting ({ frames := 1, cells := 0, slots := 0, locals := 30 } : Room)).room s m ([.ref (ad 0 0)] : List Value).toArray below meth c H1 locs1 0 0 (MQ below (uQ (some (.int (if V = -1 then -1 else V - σ1 0 0))) (MW D cy ad (T0 σ) ν) (wA cM ad s.heap.size)) ([.ref (ad 0 0)] : List Value).toArray s 0 0 (wA cM ad s.heap.size)) (F0 m 136 ls [.int zw]) := by
                intro zw ezw
                refine lv_istore_n (lv' := [(1, .int zw), (3, .int z2w), (0, .ref (ad 0 0)), (2, .int (nI pz))]) hx hb dX4_waiting_136 rfl hl (by decide) rfl (fun ls hl => ?_)
                refine lv_iinc (v := nI (pz + 1)) (lv' := [(2, .int (nI (pz + 1))), (1, .int zw), (3, .int z2w), (0, .ref (ad 0 0))]) hx hb dX4_waiting_137 hl (k := 3) rfl (nI_1 pz) (by decide) rfl (fun ls hl => ?_)
                refine lv_goto (tgt := 9) hx hb dX4_waiting_140 (by decide) ?_
                exact loop_ih (pz + 1) zw ls (by omega) (by omega) (by rw [hj2, ezw]; exact hV) (lv_sub hl [3, 1, 0] rfl)
              refine lv_if_eq (tgt := 135) hx hb dX4_waiting_118 (by decide) (fun c_118 => ?_) (fun c_118 => ?_)
              · -- 118 t
                refine lv_iload_n hx hb dX4_waiting_135 rfl (lv_at hl 2 rfl) ?_
                exact k_136 _ (by rw [if_neg (fun z => by rw [zb_0.mp (show zb (wtC σ1 pz) = 0 from c_118)] at z; cases z.1)])
              · -- 118 f
                refine lv_iload_n hx hb dX4_waiting_121 rfl (lv_at hl 2 rfl) ?_
                refine lv_iconst (v := (-1)) hx hb dX4_waiting_122 (by decide) ?_
                refine lv_icmp_eq (tgt := 131) hx hb dX4_waiting_123 (by decide) (fun c_123 => ?_) (fun c_123 => ?_)
                · -- 123 t
                  refine lv_iload_n hx hb dX4_waiting_131 rfl (lv_at hl 0 rfl) ?_
                  refine lv_goto (tgt := 136) hx hb dX4_waiting_132 (by decide) ?_
                  exact k_136 _ (by rw [if_pos ⟨zb_n0.mp (show ¬ zb (wtC σ1 pz) = 0 from c_118), Or.inl c_123⟩]; exact ez2w)
                · -- 123 f
                  refine lv_iload_n hx hb dX4_waiting_126 rfl (lv_at hl 0 rfl) ?_
                  refine lv_iload_n hx hb dX4_waiting_127 rfl (lv_at hl 2 rfl) ?_
                  refine lv_icmp_ge (tgt := 135) hx hb dX4_waiting_128 (by decide) (fun c_128 => ?_) (fun c_128 => ?_)
                  · -- 128 t
                    refine lv_iload_n hx hb dX4_waiting_135 rfl (lv_at hl 2 rfl) ?_
                    exact k_136 _ (by rw [if_neg (fun z => z.2.elim c_123 (fun y => by rw [← ez2w] at y; exact (Int32.not_lt.mpr c_128) y))])
                  · -- 128 f
                    refine lv_iload_n hx hb dX4_waiting_131 rfl (lv_at hl 0 rfl) ?_
                    refine lv_goto (tgt := 136) hx hb dX4_waiting_132 (by decide) ?_
                    exact k_136 _ (by rw [if_pos ⟨zb_n0.mp (show ¬ zb (wtC σ1 pz) = 0 from c_118), Or.inr (by rw [← ez2w]; exact Int32.not_le.mp c_128)⟩]; exact ez2w)
            refine lv_icmp_ne (tgt := 111) hx hb dX4_waiting_86 (by decide) (fun c_86 => ?_) (fun c_86 => ?_)
            · -- 86 t
              refine lv_iload_n hx hb dX4_waiting_111 rfl (lv_at hl 0 rfl) ?_
              exact k_112 _ (by rw [ez1w] at c_86 ⊢; rw [wt2, if_neg (fun z => c_86 z.1)])
            · -- 86 f
              refine lv_aload_n hx hb dX4_waiting_89 rfl (lv_at hl 1 rfl) ?_
              refine g_csr (va_runV (As := []) (rest := []) ⟨hx, hb, hml, hown, hts⟩ (m_X4_left l D cy ad σ1 ν) (cwV 0 hts gX4_waiting_X4_left rfl rfl rfl (by decide +kernel) ⟨Nat.le_of_ble_eq_true rfl, Nat.le_of_ble_eq_true rfl⟩) (g_preV (C := RX4) (B := (MW D cy ad σ1 ν)) hK hB1 (hB1 0 0 Nat.zero_lt_one) rfl) rfl rfl hl.1 rfl (lv_room (Nat.le_of_ble_eq_true rfl)) dX4_waiting_90 ⟨Nat.zero_le _, Nat.zero_le _⟩) ?_
              refine lv_if_ne (tgt := 111) hx hb dX4_waiting_93 (by decide) (fun c_93 => ?_) (fun c_93 => ?_)
              · -- 93 t
                refine lv_iload_n hx hb dX4_waiting_111 rfl (lv_at hl 0 rfl) ?_
                exact k_112 _ (by rw [ez1w] at c_86 ⊢; rw [wt2, if_neg (fun z => c_93 z.2)])
              · -- 93 f
                refine lv_bipush (v := 100) hx hb dX4_waiting_96 (by decide) ?_
                refine lv_aload_n hx hb dX4_waiting_98 rfl (lv_at hl 1 rfl) ?_
                refine g_get (C := RX4) (T := TX4) (N := 26) (ci := 4) (fs := [.int (σ1 30 0), .int (σ1 0 0), .int (nI (ν 1 0)), .ref (ad 6 0), .ref (ad 7 0), .ref (ad 8 0), .ref (ad 9 0), .int (σ1 1 0), .int (σ1 2 0), .int (σ1 3 0), .int (σ1 31 0), .int (σ1 32 0), .int (nI (ν 0 0)), .ref (ad 18 0), .ref (ad 17 0), .ref (ad 16 0), .ref (ad 10 0), .ref (ad 11 0), .ref (ad 12 0), .ref (ad 13 0), .ref (ad 14 0), .ref (ad 15 0), .int (nI (ν 6 0)), .ref (ad 34 0), .ref (ad 35 0), .ref (ad 36 0)]) hx hb hts inX4 hown hK (hB1 0 0 Nat.zero_lt_one) rfl 1 (by decide) lk110 rfl rfl dX4_waiting_99 ?_
                refine lv_bipush (v := 100) hx hb dX4_waiting_102 (by decide) ?_
                refine lv_idiv hx hb dX4_waiting_104 (by decide) ?_
                refine lv_iconst (v := 1) hx hb dX4_waiting_105 (by decide) ?_
                refine lv_iadd hx hb dX4_waiting_106 ?_
                refine lv_imul hx hb dX4_waiting_107 ?_
                refine lv_goto (tgt := 112) hx hb dX4_waiting_108 (by decide) ?_
                exact k_112 _ (by rw [ez1w] at c_86; rw [wt2, if_pos ⟨c_86, c_93⟩])
          refine lv_icmp_le (tgt := 70) hx hb dX4_waiting_63 (by decide) (fun c_63 => ?_) (fun c_63 => ?_)
          · -- 63 t
            refine lv_aload_n hx hb dX4_waiting_70 rfl (lv_at hl 1 rfl) ?_
            refine g_get (C := RX4) (T := TX4) (N := 26) (ci := 4) (fs := [.int (σ1 30 0), .int (σ1 0 0), .int (nI (ν 1 0)), .ref (ad 6 0), .ref (ad 7 0), .ref (ad 8 0), .ref (ad 9 0), .int (σ1 1 0), .int (σ1 2 0), .int (σ1 3 0), .int (σ1 31 0), .int (σ1 32 0), .int (nI (ν 0 0)), .ref (ad 18 0), .ref (ad 17 0), .ref (ad 16 0), .ref (ad 10 0), .ref (ad 11 0), .ref (ad 12 0), .ref (ad 13 0), .ref (ad 14 0), .ref (ad 15 0), .int (nI (ν 6 0)), .ref (ad 34 0), .ref (ad 35 0), .ref (ad 36 0)]) hx hb hts inX4 hown hK (hB1 0 0 Nat.zero_lt_one) rfl 1 (by decide) lk110 rfl rfl dX4_waiting_71 ?_
            exact k_74 _ (by rw [ez0w] at c_63; rw [wt1, if_pos c_63])
          · -- 63 f
            refine lv_iload_n hx hb dX4_waiting_66 rfl (lv_at hl 0 rfl) ?_
            refine lv_goto (tgt := 74) hx hb dX4_waiting_67 (by decide) ?_
            exact k_74 _ (by rw [ez0w] at c_63 ⊢; rw [wt1, if_neg c_63])
        refine lv_icmp_le (tgt := 46) hx hb dX4_waiting_34 (by decide) (fun c_34 => ?_) (fun c_34 => ?_)
        · -- 34 t
          refine lv_aload_n hx hb dX4_waiting_46 rfl (lv_at hl 0 rfl) ?_
          refine g_get (C := RX4) (T := TX4) (N := 26) (ci := 4) (fs := [.int (σ1 30 0), .int (σ1 0 0), .int (nI (ν 1 0)), .ref (ad 6 0), .ref (ad 7 0), .ref (ad 8 0), .ref (ad 9 0), .int (σ1 1 0), .int (σ1 2 0), .int (σ1 3 0), .int (σ1 31 0), .int (σ1 32 0), .int (nI (ν 0 0)), .ref (ad 18 0), .ref (ad 17 0), .ref (ad 16 0), .ref (ad 10 0), .ref (ad 11 0), .ref (ad 12 0), .ref (ad 13 0), .ref (ad 14 0), .ref (ad 15 0), .int (nI (ν 6 0)), .ref (ad 34 0), .ref (ad 35 0), .ref (ad 36 0)]) hx hb hts inX4 hown hK (hB1 0 0 Nat.zero_lt_one) rfl 6 (by decide) lk19 rfl rfl dX4_waiting_47 ?_
          refine lv_aload_n hx hb dX4_waiting_50 rfl (lv_at hl 0 rfl) ?_
          refine g_get (C := RX4) (T := TX4) (N := 26) (ci := 4) (fs := [.int (σ1 30 0), .int (σ1 0 0), .int (nI (ν 1 0)), .ref (ad 6 0), .ref (ad 7 0), .ref (ad 8 0), .ref (ad 9 0), .int (σ1 1 0), .int (σ1 2 0), .int (σ1 3 0), .int (σ1 31 0), .int (σ1 32 0), .int (nI (ν 0 0)), .ref (ad 18 0), .ref (ad 17 0), .ref (ad 16 0), .ref (ad 10 0), .ref (ad 11 0), .ref (ad 12 0), .ref (ad 13 0), .ref (ad 14 0), .ref (ad 15 0), .int (nI (ν 6 0)), .ref (ad 34 0), .ref (ad 35 0), .ref (ad 36 0)]) hx hb hts inX4 hown hK (hB1 0 0 Nat.zero_lt_one) rfl 15 (by decide) lk38 rfl rfl dX4_waiting_51 ?_
          refine lv_iload_n hx hb dX4_waiting_54 rfl (lv_at hl 2 rfl) ?_
          refine g_iald (f := fun j => nI (ν 5 j)) (x := nI (ν 5 pz)) hx hb hK (hB1 16 0 Nat.zero_lt_one) (vp_in_nI (N := 30) (by omega) (by decide)) (by rw [cl_nI (by omega)]) dX4_waiting_55 ?_
          refine g_iald (f := σ1 9) (x := σ1 9 (ν 5 pz)) hx hb hK (hB1 9 0 Nat.zero_lt_one) (vp_in_nI (N := 6) (by omega) (by decide)) (by rw [cl_nI (by omega)]) dX4_waiting_56 ?_
          exact k_57 _ (by rw [wt0, if_pos c_34])
        · -- 34 f
          refine lv_aload_n hx hb dX4_waiting_37 rfl (lv_at hl 0 rfl) ?_
          refine g_get (C := RX4) (T := TX4) (N := 26) (ci := 4) (fs := [.int (σ1 30 0), .int (σ1 0 0), .int (nI (ν 1 0)), .ref (ad 6 0), .ref (ad 7 0), .ref (ad 8 0), .ref (ad 9 0), .int (σ1 1 0), .int (σ1 2 0), .int (σ1 3 0), .int (σ1 31 0), .int (σ1 32 0), .int (nI (ν 0 0)), .ref (ad 18 0), .ref (ad 17 0), .ref (ad 16 0), .ref (ad 10 0), .ref (ad 11 0), .ref (ad 12 0), .ref (ad 13 0), .ref (ad 14 0), .ref (ad 15 0), .int (nI (ν 6 0)), .ref (ad 34 0), .ref (ad 35 0), .ref (ad 36 0)]) hx hb hts inX4 hown hK (hB1 0 0 Nat.zero_lt_one) rfl 17 (by decide) lk44 rfl rfl dX4_waiting_38 ?_
          refine lv_iload_n hx hb dX4_waiting_41 rfl (lv_at hl 2 rfl) ?_
          refine g_iald (f := σ1 11) (x := σ1 11 pz) hx hb hK (hB1 11 0 Nat.zero_lt_one) (vp_in_nI (N := 30) (by omega) (by decide)) (by rw [cl_nI (by omega)]) dX4_waiting_42 ?_
          refine lv_goto (tgt := 57) hx hb dX4_waiting_43 (by decide) ?_
          exact k_57 _ (by rw [wt0, if_neg c_34])
  exact loop (ν 0 0 + 1) 0 (-1) ls (Nat.zero_le _) (by omega) hV (lv_sub hl [2, 1, 0] rfl)


def usedF (σ : IT) : Int32 := if σ 31 0 = σ 0 0 / 100 then σ 32 0 + 1 else 1
def failF (σ : IT) (h : Nat) (o : Int32) : Int32 := if o = 2 then σ 8 h + 1 else 0
def chgF (σ : IT) (p : Nat) (o : Int32) : Int32 := σ 13 p + (if o = 1 then 1 else 0)
def paceF (σ : IT) (v c : Int32) : Int32 := (σ 1 0 * (v + 2) + c) / (c + 1)
def capF (σ : IT) (x : Int32) : Int32 := if σ 2 0 ≤ x then σ 2 0 else x
def powF (f : Int32) : Int32 := if (5 : Int32) ≤ f then 5 else f
/-- the visit that is made: v0 the budget's part, v1 the host's failures, v2 the page's counts, v3 .. -/
def vis0 (σ : IT) : IT := up2 (up2 (T0 σ) 32 0 (usedF σ)) 31 0 (σ 0 0 / 100)
def vis1 (σ : IT) (h : Nat) (o : Int32) : IT := up2 (vis0 σ) 8 h (failF σ h o)
def vis2 (σ : IT) (h p : Nat) (o : Int32) : IT := if o < 2 then up2 (up2 (up2 (vis1 σ h o) 12 p (σ 12 p + 1)) 13 p (chgF σ p o)) 11 p (σ 0 0 + capF σ (paceF σ (σ 12 p + 1) (chgF σ p o))) else vis1 σ h o
def vis3 (σ : IT) (h p : Nat) (o : Int32) : IT := up2 (up2 (vis2 σ h p o) 11 p (if o = 2 then σ 0 0 + σ 1 0 else vis2 σ h p o 11 p)) 14 p (if o = 3 then 1 else 0)
def vis4 (σ : IT) (h p : Nat) (o : Int32) : IT := up2 (vis3 σ h p o) 9 h (σ 0 0 + σ 7 h <<< (powF (failF σ h o) &&& 31))
def oVisit (σ : IT) (ν : NT) (p o : Int32) : Int32 × IT := if pageB ν p = true then (if inB o 0 3 = true then (if openB σ ν p.toNatClampNeg = true then (σ 0 0 + σ 7 (ν 5 p.toNatClampNeg) <<< (powF (failF σ (ν 5 p.toNatClampNeg) o) &&& 31), vis4 σ (ν 5 p.toNatClampNeg) p.toNatClampNeg o) else (0, T1 σ 3)) else (0, T1 σ 2)) else (0, T1 σ 1)


section
variable {σ : IT} {h p : Nat} {o : Int32}
theorem vis2_0 : vis2 σ h p o 0 0 = σ 0 0 := by simp only [vis2, vis1, vis0]; split <;> rfl
theorem vis2_1 : vis2 σ h p o 1 0 = σ 1 0 := by simp only [vis2, vis1, vis0]; split <;> rfl
theorem vis3_0 : vis3 σ h p o 0 0 = σ 0 0 := by simp only [vis3]; exact vis2_0
theorem vis3_7 : vis3 σ h p o 7 h = σ 7 h := by simp only [vis3, vis2, vis1, vis0]; split <;> rfl
theorem vis3_8 : vis3 σ h p o 8 h = failF σ h o := by simp only [vis3, vis2, vis1, vis0]; split <;> simp [up2]
theorem chg_ne {c : Nat} (hc : c < 1000) (e : σ 13 p = nI c) : ¬ chgF σ p o + 1 = 0 := by
  rw [chgF, e]
  by_cases q : o = 1
  · rw [if_pos q, nI_1, nI_1]; exact nI_ne0 (by omega) (by omega)
  · rw [if_neg q, show nI c + (0 : Int32) = nI c from Int32.add_zero _, nI_1]; exact nI_ne0 (by omega) (by omega)
end

set_option maxHeartbeats 4000000 in
set_option maxRecDepth 100000 in
/-- model: visit -/
theorem m_X4_visit (l : Launch) (D : va_G) (cy : Nat → ClassId) (sz : Nat) (ad : NT) (σ : IT) (ν : NT) (hJ : wJ cM ad) (hI : MI σ ν) (hC : ∀ q, q < ν 0 0 → ∃ c, c < 1000 ∧ σ 13 q = nI c) (p0 o : Int32) : Met l yX4_visit wsX4_visit ({ frames := 2, cells := 0, slots := 0, locals := 60 } : Room) (va_Pc [.ref (ad 0 0), .int p0, .int o] (fun U => gK D cy U ∧ (atSz sz (MW D cy ad σ ν)) U.heap)) (uQ (some (.int (oVisit σ ν p0 o).1)) (MW D cy ad (oVisit σ ν p0 o).2 ν) (wA cM ad sz)) 0 0 (wA cM ad sz) := by
  refine Met.ofW (cc := cX4_visit) (maxL := 5) (ret := (some .int)) (by decide) rfl ?_
  intro p e s m args below meth c s₁ B9 hml hv
  obtain ⟨rfl, hK, hsz, hB⟩ := hv
  have hx := B9.exec
  have hb := B9.bytes
  have hr := B9.returns
  have hts := atoms_spec (ws := wsX4_visit) B9.pre
  have hown : s.vm.findClass RX4 = some m.cls := findClass_of_methodNamed B9.named
  have hlocks := B9.notSynchronized
  subst hsz
  have hS : va_S (wA cM ad s.heap.size) s.heap s.heap [] := va_S.rf
  have lk69 := hts (.fieldLink RX4 69 "PolitecrawlModel" "thrown" "I") (by decide +kernel)
  have inX4 : ∀ w ∈ u_ws RX4 TX4 26, w ∈ wsX4_visit := by decide +kernel
  have lk119 := hts (.fieldLink RX4 119 "PolitecrawlModel" "span" "I") (by decide +kernel)
  have lk110 := hts (.fieldLink RX4 110 "PolitecrawlModel" "now" "I") (by decide +kernel)
  have lk122 := hts (.fieldLink RX4 122 "PolitecrawlModel" "used" "I") (by decide +kernel)
  have lk38 := hts (.fieldLink RX4 38 "PolitecrawlModel" "host" "[I") (by decide +kernel)
  have lk16 := hts (.fieldLink RX4 16 "PolitecrawlModel" "failures" "[I") (by decide +kernel)
  have lk47 := hts (.fieldLink RX4 47 "PolitecrawlModel" "visits" "[I") (by decide +kernel)
  have lk50 := hts (.fieldLink RX4 50 "PolitecrawlModel" "changes" "[I") (by decide +kernel)
  have lk22 := hts (.fieldLink RX4 22 "PolitecrawlModel" "shortest" "I") (by decide +kernel)
  have lk44 := hts (.fieldLink RX4 44 "PolitecrawlModel" "due" "[I") (by decide +kernel)
  have lk26 := hts (.fieldLink RX4 26 "PolitecrawlModel" "longest" "I") (by decide +kernel)
  have lk53 := hts (.fieldLink RX4 53 "PolitecrawlModel" "gone" "[Z") (by decide +kernel)
  have lk19 := hts (.fieldLink RX4 19 "PolitecrawlModel" "openFrom" "[I") (by decide +kernel)
  have lk13 := hts (.fieldLink RX4 13 "PolitecrawlModel" "rest" "[I") (by decide +kernel)
  have hl := lv_entry ([.ref (ad 0 0), .int p0, .int o]) (n := 5) (Nat.le_of_ble_eq_true rfl)
  rw [lg_entry_eq]
  generalize (lg_sl ([.ref (ad 0 0), .int p0, .int o]) ++ List.replicate (5 - (lg_sl ([.ref (ad 0 0), .int p0, .int o])).length) Slot.unset).toArray = ls at hl ⊢
  have hl : lv_has ls 5 [(0, .ref (ad 0 0)), (1, .int p0), (2, .int o)] := hl
  refine lv_aload_n hx hb dX4_visit_0 rfl (lv_at hl 0 rfl) ?_
  refine lv_iconst (v := 0) hx hb dX4_visit_1 (by decide) ?_
  refine g_put (C := RX4) (T := TX4) (N := 26) (ci := 4) (fs := [.int (σ 30 0), .int (σ 0 0), .int (nI (ν 1 0)), .ref (ad 6 0), .ref (ad 7 0), .ref (ad 8 0), .ref (ad 9 0), .int (σ 1 0), .int (σ 2 0), .int (σ 3 0), .int (σ 31 0), .int (σ 32 0), .int (nI (ν 0 0)), .ref (ad 18 0), .ref (ad 17 0), .ref (ad 16 0), .ref (ad 10 0), .ref (ad 11 0), .ref (ad 12 0), .ref (ad 13 0), .ref (ad 14 0), .ref (ad 15 0), .int (nI (ν 6 0)), .ref (ad 34 0), .ref (ad 35 0), .ref (ad 36 0)]) (A := (wA cM ad s.heap.size)) hx hb hts inX4 tyX4 tyX4_ok nmX4 hown hK (hB 0 0 Nat.zero_lt_one) rfl hS (wA.in (k := 0) (i := 0) Nat.zero_lt_one) 0 (by decide) lk69 rfl rfl rfl rfl (Nat.le_of_ble_eq_true rfl) dX4_visit_2 (fun H1 locs1 hc1 hu1 hS1 => ?_)
  have hB1 : MW D cy ad (up2 σ 30 0 0) ν H1 := hB.sc hJ (by decide) hc1 hu1
  obtain ⟨σ1, hs1⟩ : ∃ z : IT, z = up2 σ 30 0 0 := ⟨_, rfl⟩
  rw [← hs1] at hB1
  refine lv_aload_n hx hb dX4_visit_5 rfl (lv_at hl 0 rfl) ?_
  refine lv_iload_n hx hb dX4_visit_6 rfl (lv_at hl 1 rfl) ?_
  refine g_csr (va_runV (As := [.int p0]) (rest := []) ⟨hx, hb, hml, hown, hts⟩ (m_X4_isPage l D cy ad σ1 ν (p0)) (cwV 1 hts gX4_visit_X4_isPage rfl rfl rfl (by decide +kernel) ⟨Nat.le_of_ble_eq_true rfl, Nat.le_of_ble_eq_true rfl⟩) (g_preV (C := RX4) (B := (MW D cy ad σ1 ν)) hK hB1 (hB1 0 0 Nat.zero_lt_one) rfl) rfl rfl hl.1 rfl (lv_room (Nat.le_of_ble_eq_true rfl)) dX4_visit_7 ⟨Nat.zero_le _, Nat.zero_le _⟩) ?_
  refine lv_if_ne (tgt := 19) hx hb dX4_visit_10 (by decide) (fun c_10 => ?_) (fun c_10 => ?_)
  · -- 10 t
    refine lv_iload_n hx hb dX4_visit_19 rfl (lv_at hl 2 rfl) ?_
    refine lv_iconst (v := 0) hx hb dX4_visit_20 (by decide) ?_
    refine lv_iconst (v := 3) hx hb dX4_visit_21 (by decide) ?_
    refine g_csr (va_runS (As := [.int o, .int 0, .int 3]) (rest := []) ⟨hx, hb, hml, hown, hts⟩ (m_X4_in l D cy (o) (0) (3)) (va_cwS 3 hts gX4_visit_X4_in rfl rfl rfl (by decide +kernel) ⟨Nat.le_of_ble_eq_true rfl, Nat.le_of_ble_eq_true rfl⟩) (g_preS (B := (fun _ => True)) hK trivial) rfl rfl hl.1 rfl (lv_room (Nat.le_of_ble_eq_true rfl)) dX4_visit_22 ⟨Nat.zero_le _, Nat.zero_le _⟩) ?_
    refine lv_if_ne (tgt := 34) hx hb dX4_visit_25 (by decide) (fun c_25 => ?_) (fun c_25 => ?_)
    · -- 25 t
      obtain ⟨q0, hq0, eh⟩ := idx_page hI.1 (zb_n0.mp c_10)
      have q30 : q0 < 30 := Nat.lt_of_lt_of_le hq0 hI.1
      have ec : p0.toNatClampNeg = q0 := by rw [eh, cl_nI (by omega)]
      refine lv_aload_n hx hb dX4_visit_34 rfl (lv_at hl 0 rfl) ?_
      refine lv_iload_n hx hb dX4_visit_35 rfl (lv_at hl 1 rfl) ?_
      refine lv_topi (fun y1 ey1 => ?_)
      obtain rfl : y1 = nI q0 := ey1.trans (eh)
      refine g_csr (va_runV (As := [.int (nI q0)]) (rest := []) ⟨hx, hb, hml, hown, hts⟩ (m_X4_isOpen l D cy ad σ1 ν hI q0 hq0) (cwV 1 hts gX4_visit_X4_isOpen rfl rfl rfl (by decide +kernel) ⟨Nat.le_of_ble_eq_true rfl, Nat.le_of_ble_eq_true rfl⟩) (g_preV (C := RX4) (B := (MW D cy ad σ1 ν)) hK hB1 (hB1 0 0 Nat.zero_lt_one) rfl) rfl rfl hl.1 rfl (lv_room (Nat.le_of_ble_eq_true rfl)) dX4_visit_36 ⟨Nat.zero_le _, Nat.zero_le _⟩) ?_
      refine lv_if_ne (tgt := 48) hx hb dX4_visit_39 (by decide) (fun c_39 => ?_) (fun c_39 => ?_)
      · -- 39 t
        have hh6 : ν 5 q0 < 6 := (hI.2.2 q0 hq0).1
        have g1 := zb_n0.mp c_10
        have g2 := zb_n0.mp c_25
        have g3 : openB σ ν q0 = true := by rw [hs1] at c_39; exact zb_n0.mp (show ¬ zb (openB σ ν q0) = 0 from c_39)
        have hcd1 : ∀ {α : Type} (x y : α), (if pageB ν p0 = true then x else y) = x := fun x y => if_pos g1
        have hcd2 : ∀ {α : Type} (x y : α), (if inB o 0 3 = true then x else y) = x := fun x y => if_pos g2
        have hcd3 : ∀ {α : Type} (x y : α), (if openB σ ν q0 = true then x else y) = x := fun x y => if_pos g3
        refine lv_aload_n hx hb dX4_visit_48 rfl (lv_at hl 0 rfl) ?_
        refine lv_aload_n hx hb dX4_visit_49 rfl (lv_at hl 0 rfl) ?_
        refine g_get (C := RX4) (T := TX4) (N := 26) (ci := 4) (fs := [.int (σ1 30 0), .int (σ1 0 0), .int (nI (ν 1 0)), .ref (ad 6 0), .ref (ad 7 0), .ref (ad 8 0), .ref (ad 9 0), .int (σ1 1 0), .int (σ1 2 0), .int (σ1 3 0), .int (σ1 31 0), .int (σ1 32 0), .int (nI (ν 0 0)), .ref (ad 18 0), .ref (ad 17 0), .ref (ad 16 0), .ref (ad 10 0), .ref (ad 11 0), .ref (ad 12 0), .ref (ad 13 0), .ref (ad 14 0), .ref (ad 15 0), .int (nI (ν 6 0)), .ref (ad 34 0), .ref (ad 35 0), .ref (ad 36 0)]) hx hb hts inX4 hown hK (hB1 0 0 Nat.zero_lt_one) rfl 10 (by decide) lk119 rfl rfl dX4_visit_50 ?_
        refine lv_aload_n hx hb dX4_visit_53 rfl (lv_at hl 0 rfl) ?_
        refine g_get (C := RX4) (T := TX4) (N := 26) (ci := 4) (fs := [.int (σ1 30 0), .int (σ1 0 0), .int (nI (ν 1 0)), .ref (ad 6 0), .ref (ad 7 0), .ref (ad 8 0), .ref (ad 9 0), .int (σ1 1 0), .int (σ1 2 0), .int (σ1 3 0), .int (σ1 31 0), .int (σ1 32 0), .int (nI (ν 0 0)), .ref (ad 18 0), .ref (ad 17 0), .ref (ad 16 0), .ref (ad 10 0), .ref (ad 11 0), .ref (ad 12 0), .ref (ad 13 0), .ref (ad 14 0), .ref (ad 15 0), .int (nI (ν 6 0)), .ref (ad 34 0), .ref (ad 35 0), .ref (ad 36 0)]) hx hb hts inX4 hown hK (hB1 0 0 Nat.zero_lt_one) rfl 1 (by decide) lk110 rfl rfl dX4_visit_54 ?_
        refine lv_bipush (v := 100) hx hb dX4_visit_57 (by decide) ?_
        refine lv_idiv hx hb dX4_visit_59 (by decide) ?_
        have k_73 : ∀ zu : Int32, zu = usedF σ → W p l e (headSpec wsX4_visit ({ frames := 2, cells := 0, slots := 0, locals := 60 } : Room)).room s m ([.ref (ad 0 0), .int p0, .int o] : List Value).toArray below meth c H1 locs1 0 0 (MQ below (uQ (some (.int (oVisit σ ν p0 o).1)) (MW D cy ad (oVisit σ ν p0 o).2 ν) (wA cM ad s.heap.size)) ([.ref (ad 0 0), .int p0, .int o] : List Value).toArray s 0 0 (wA cM ad s.heap.size)) (F0 m 73 ls [.int zu, .ref (ad 0 0)]) := by
          intro zu ezu
          refine g_put (C := RX4) (T := TX4) (N := 26) (ci := 4) (fs := [.int (σ1 30 0), .int (σ1 0 0), .int (nI (ν 1 0)), .ref (ad 6 0), .ref (ad 7 0), .ref (ad 8 0), .ref (ad 9 0), .int (σ1 1 0), .int (σ1 2 0), .int (σ1 3 0), .int (σ1 31 0), .int (σ1 32 0), .int (nI (ν 0 0)), .ref (ad 18 0), .ref (ad 17 0), .ref (ad 16 0), .ref (ad 10 0), .ref (ad 11 0), .ref (ad 12 0), .ref (ad 13 0), .ref (ad 14 0), .ref (ad 15 0), .int (nI (ν 6 0)), .ref (ad 34 0), .ref (ad 35 0), .ref (ad 36 0)]) (A := (wA cM ad s.heap.size)) hx hb hts inX4 tyX4 tyX4_ok nmX4 hown hK (hB1 0 0 Nat.zero_lt_one) rfl hS1 (wA.in (k := 0) (i := 0) Nat.zero_lt_one) 11 (by decide) lk122 rfl rfl rfl rfl (Nat.le_of_ble_eq_true rfl) dX4_visit_73 (fun H2 locs2 hc2 hu2 hS2 => ?_)
          have hB2 : MW D cy ad (up2 σ1 32 0 zu) ν H2 := hB1.sc hJ (by decide) hc2 hu2
          obtain ⟨σ2, hs2⟩ : ∃ z : IT, z = up2 σ1 32 0 zu := ⟨_, rfl⟩
          rw [← hs2] at hB2
          refine lv_aload_n hx hb dX4_visit_76 rfl (lv_at hl 0 rfl) ?_
          refine lv_aload_n hx hb dX4_visit_77 rfl (lv_at hl 0 rfl) ?_
          refine g_get (C := RX4) (T := TX4) (N := 26) (ci := 4) (fs := [.int (σ2 30 0), .int (σ2 0 0), .int (nI (ν 1 0)), .ref (ad 6 0), .ref (ad 7 0), .ref (ad 8 0), .ref (ad 9 0), .int (σ2 1 0), .int (σ2 2 0), .int (σ2 3 0), .int (σ2 31 0), .int (σ2 32 0), .int (nI (ν 0 0)), .ref (ad 18 0), .ref (ad 17 0), .ref (ad 16 0), .ref (ad 10 0), .ref (ad 11 0), .ref (ad 12 0), .ref (ad 13 0), .ref (ad 14 0), .ref (ad 15 0), .int (nI (ν 6 0)), .ref (ad 34 0), .ref (ad 35 0), .ref (ad 36 0)]) hx hb hts inX4 hown hK (hB2 0 0 Nat.zero_lt_one) rfl 1 (by decide) lk110 rfl rfl dX4_visit_78 ?_
          refine lv_bipush (v := 100) hx hb dX4_visit_81 (by decide) ?_
          refine lv_idiv hx hb dX4_visit_83 (by decide) ?_
          refine g_put (C := RX4) (T := TX4) (N := 26) (ci := 4) (fs := [.int (σ2 30 0), .int (σ2 0 0), .int (nI (ν 1 0)), .ref (ad 6 0), .ref (ad 7 0), .ref (ad 8 0), .ref (ad 9 0), .int (σ2 1 0), .int (σ2 2 0), .int (σ2 3 0), .int (σ2 31 0), .int (σ2 32 0), .int (nI (ν 0 0)), .ref (ad 18 0), .ref (ad 17 0), .ref (ad 16 0), .ref (ad 10 0), .ref (ad 11 0), .ref (ad 12 0), .ref (ad 13 0), .ref (ad 14 0), .ref (ad 15 0), .int (nI (ν 6 0)), .ref (ad 34 0), .ref (ad 35 0), .ref (ad 36 0)]) (A := (wA cM ad s.heap.size)) hx hb hts inX4 tyX4 tyX4_ok nmX4 hown hK (hB2 0 0 Nat.zero_lt_one) rfl hS2 (wA.in (k := 0) (i := 0) Nat.zero_lt_one) 10 (by decide) lk119 rfl rfl rfl rfl (Nat.le_of_ble_eq_true rfl) dX4_visit_84 (fun H3 locs3 hc3 hu3 hS3 => ?_)
          have hB3 : MW D cy ad (up2 σ2 31 0 ((σ2 0 0) / 100)) ν H3 := hB2.sc hJ (by decide) hc3 hu3
          obtain ⟨σ3, hs3⟩ : ∃ z : IT, z = up2 σ2 31 0 ((σ2 0 0) / 100) := ⟨_, rfl⟩
          rw [← hs3] at hB3
          have hv0 : σ3 = vis0 σ := by rw [hs3, hs2, hs1]; rw [ezu]; simp only [vis0]; rfl
          refine lv_aload_n hx hb dX4_visit_87 rfl (lv_at hl 0 rfl) ?_
          refine g_get (C := RX4) (T := TX4) (N := 26) (ci := 4) (fs := [.int (σ3 30 0), .int (σ3 0 0), .int (nI (ν 1 0)), .ref (ad 6 0), .ref (ad 7 0), .ref (ad 8 0), .ref (ad 9 0), .int (σ3 1 0), .int (σ3 2 0), .int (σ3 3 0), .int (σ3 31 0), .int (σ3 32 0), .int (nI (ν 0 0)), .ref (ad 18 0), .ref (ad 17 0), .ref (ad 16 0), .ref (ad 10 0), .ref (ad 11 0), .ref (ad 12 0), .ref (ad 13 0), .ref (ad 14 0), .ref (ad 15 0), .int (nI (ν 6 0)), .ref (ad 34 0), .ref (ad 35 0), .ref (ad 36 0)]) hx hb hts inX4 hown hK (hB3 0 0 Nat.zero_lt_one) rfl 15 (by decide) lk38 rfl rfl dX4_visit_88 ?_
          refine lv_iload_n hx hb dX4_visit_91 rfl (lv_at hl 1 rfl) ?_
          refine lv_topi (fun y2 ey2 => ?_)
          obtain rfl : y2 = nI q0 := ey2.trans (eh)
          refine g_iald (f := fun j => nI (ν 5 j)) (x := nI (ν 5 q0)) hx hb hK (hB3 16 0 Nat.zero_lt_one) (vp_in_nI (N := 30) (by omega) (by decide)) (by rw [cl_nI (by omega)]) dX4_visit_92 ?_
          refine lv_istore_n (lv' := [(3, .int (nI (ν 5 q0))), (0, .ref (ad 0 0)), (1, .int p0), (2, .int o)]) hx hb dX4_visit_93 rfl hl (by decide) rfl (fun ls hl => ?_)
          refine lv_aload_n hx hb dX4_visit_94 rfl (lv_at hl 1 rfl) ?_
          refine g_get (C := RX4) (T := TX4) (N := 26) (ci := 4) (fs := [.int (σ3 30 0), .int (σ3 0 0), .int (nI (ν 1 0)), .ref (ad 6 0), .ref (ad 7 0), .ref (ad 8 0), .ref (ad 9 0), .int (σ3 1 0), .int (σ3 2 0), .int (σ3 3 0), .int (σ3 31 0), .int (σ3 32 0), .int (nI (ν 0 0)), .ref (ad 18 0), .ref (ad 17 0), .ref (ad 16 0), .ref (ad 10 0), .ref (ad 11 0), .ref (ad 12 0), .ref (ad 13 0), .ref (ad 14 0), .ref (ad 15 0), .int (nI (ν 6 0)), .ref (ad 34 0), .ref (ad 35 0), .ref (ad 36 0)]) hx hb hts inX4 hown hK (hB3 0 0 Nat.zero_lt_one) rfl 5 (by decide) lk16 rfl rfl dX4_visit_95 ?_
          refine lv_iload_n hx hb dX4_visit_98 rfl (lv_at hl 0 rfl) ?_
          refine lv_iload_n hx hb dX4_visit_99 rfl (lv_at hl 3 rfl) ?_
          refine lv_iconst (v := 2) hx hb dX4_visit_100 (by decide) ?_
          have k_116 : ∀ zf : Int32, zf = failF σ (ν 5 q0) o → W p l e (headSpec wsX4_visit ({ frames := 2, cells := 0, slots := 0, locals := 60 } : Room)).room s m ([.ref (ad 0 0), .int p0, .int o] : List Value).toArray below meth c H3 locs3 0 0 (MQ below (uQ (some (.int (oVisit σ ν p0 o).1)) (MW D cy ad (oVisit σ ν p0 o).2 ν) (wA cM ad s.heap.size)) ([.ref (ad 0 0), .int p0, .int o] : List Value).toArray s 0 0 (wA cM ad s.heap.size)) (F0 m 116 ls [.int zf, .int (nI (ν 5 q0)), .ref (ad 8 0)]) := by
            intro zf ezf
            refine g_iast (f := σ3 8) (A := (wA cM ad s.heap.size)) hx hb hK (hB3 8 0 Nat.zero_lt_one) hS3 (wA.in (k := 8) (i := 0) Nat.zero_lt_one) (vp_in_nI (N := 6) hh6 (by decide)) dX4_visit_116 (fun H4 locs4 hc4 hu4 hS4 => ?_)
            have hB4 : MW D cy ad (up2 σ3 8 (ν 5 q0) zf) ν H4 := hB3.sst hJ 8 Nat.zero_lt_one (by decide) (by decide) (by decide) (cl_nI (by omega)) hc4 hu4
            obtain ⟨σ4, hs4⟩ : ∃ z : IT, z = up2 σ3 8 (ν 5 q0) zf := ⟨_, rfl⟩
            rw [← hs4] at hB4
            have hv1 : σ4 = vis1 σ (ν 5 q0) o := by rw [hs4, hv0, ezf]; rfl
            refine lv_iload_n hx hb dX4_visit_117 rfl (lv_at hl 3 rfl) ?_
            refine lv_iconst (v := 2) hx hb dX4_visit_118 (by decide) ?_
            refine lv_icmp_ge (tgt := 211) hx hb dX4_visit_119 (by decide) (fun c_119 => ?_) (fun c_119 => ?_)
            · -- 119 t
              have hvv : σ4 = vis2 σ (ν 5 q0) q0 o := by rw [vis2, if_neg (Int32.not_lt.mpr c_119)]; exact hv1
              refine lv_aload_n hx hb dX4_visit_211 rfl (lv_at hl 1 rfl) ?_
              refine g_get (C := RX4) (T := TX4) (N := 26) (ci := 4) (fs := [.int (σ4 30 0), .int (σ4 0 0), .int (nI (ν 1 0)), .ref (ad 6 0), .ref (ad 7 0), .ref (ad 8 0), .ref (ad 9 0), .int (σ4 1 0), .int (σ4 2 0), .int (σ4 3 0), .int (σ4 31 0), .int (σ4 32 0), .int (nI (ν 0 0)), .ref (ad 18 0), .ref (ad 17 0), .ref (ad 16 0), .ref (ad 10 0), .ref (ad 11 0), .ref (ad 12 0), .ref (ad 13 0), .ref (ad 14 0), .ref (ad 15 0), .int (nI (ν 6 0)), .ref (ad 34 0), .ref (ad 35 0), .ref (ad 36 0)]) hx hb hts inX4 hown hK (hB4 0 0 Nat.zero_lt_one) rfl 17 (by decide) lk44 rfl rfl dX4_visit_212 ?_
              refine lv_iload_n hx hb dX4_visit_215 rfl (lv_at hl 2 rfl) ?_
              refine lv_topi (fun y3 ey3 => ?_)
              obtain rfl : y3 = nI q0 := ey3.trans (eh)
              refine lv_iload_n hx hb dX4_visit_216 rfl (lv_at hl 3 rfl) ?_
              refine lv_iconst (v := 2) hx hb dX4_visit_217 (by decide) ?_
              have k_239 : ∀ zd : Int32, zd = (if o = 2 then σ 0 0 + σ 1 0 else σ4 11 q0) → W p l e (headSpec wsX4_visit ({ frames := 2, cells := 0, slots := 0, locals := 60 } : Room)).room s m ([.ref (ad 0 0), .int p0, .int o] : List Value).toArray below meth c H4 locs4 0 0 (MQ below (uQ (some (.int (oVisit σ ν p0 o).1)) (MW D cy ad (oVisit σ ν p0 o).2 ν) (wA cM ad s.heap.size)) ([.ref (ad 0 0), .int p0, .int o] : List Value).toArray s 0 0 (wA cM ad s.heap.size)) (F0 m 239 ls [.int zd, .int (nI q0), .ref (ad 11 0)]) := by
                intro zd ezd
                refine g_iast (f := σ4 11) (A := (wA cM ad s.heap.size)) hx hb hK (hB4 11 0 Nat.zero_lt_one) hS4 (wA.in (k := 11) (i := 0) Nat.zero_lt_one) (vp_in_nI (N := 30) q30 (by decide)) dX4_visit_239 (fun H5 locs5 hc5 hu5 hS5 => ?_)
                have hB5 : MW D cy ad (up2 σ4 11 q0 zd) ν H5 := hB4.sst hJ 11 Nat.zero_lt_one (by decide) (by decide) (by decide) (cl_nI (by omega)) hc5 hu5
                obtain ⟨σ5, hs5⟩ : ∃ z : IT, z = up2 σ4 11 q0 zd := ⟨_, rfl⟩
                rw [← hs5] at hB5
                refine lv_aload_n hx hb dX4_visit_240 rfl (lv_at hl 1 rfl) ?_
                refine g_get (C := RX4) (T := TX4) (N := 26) (ci := 4) (fs := [.int (σ5 30 0), .int (σ5 0 0), .int (nI (ν 1 0)), .ref (ad 6 0), .ref (ad 7 0), .ref (ad 8 0), .ref (ad 9 0), .int (σ5 1 0), .int (σ5 2 0), .int (σ5 3 0), .int (σ5 31 0), .int (σ5 32 0), .int (nI (ν 0 0)), .ref (ad 18 0), .ref (ad 17 0), .ref (ad 16 0), .ref (ad 10 0), .ref (ad 11 0), .ref (ad 12 0), .ref (ad 13 0), .ref (ad 14 0), .ref (ad 15 0), .int (nI (ν 6 0)), .ref (ad 34 0), .ref (ad 35 0), .ref (ad 36 0)]) hx hb hts inX4 hown hK (hB5 0 0 Nat.zero_lt_one) rfl 20 (by decide) lk53 rfl rfl dX4_visit_241 ?_
                refine lv_iload_n hx hb dX4_visit_244 rfl (lv_at hl 2 rfl) ?_
                refine lv_topi (fun y4 ey4 => ?_)
                obtain rfl : y4 = nI q0 := ey4.trans (eh)
                refine lv_iload_n hx hb dX4_visit_245 rfl (lv_at hl 3 rfl) ?_
                refine lv_iconst (v := 3) hx hb dX4_visit_246 (by decide) ?_
                have k_255 : ∀ zg : Int32, zg = (if o = 3 then 1 else 0) → W p l e (headSpec wsX4_visit ({ frames := 2, cells := 0, slots := 0, locals := 60 } : Room)).room s m ([.ref (ad 0 0), .int p0, .int o] : List Value).toArray below meth c H5 locs5 0 0 (MQ below (uQ (some (.int (oVisit σ ν p0 o).1)) (MW D cy ad (oVisit σ ν p0 o).2 ν) (wA cM ad s.heap.size)) ([.ref (ad 0 0), .int p0, .int o] : List Value).toArray s 0 0 (wA cM ad s.heap.size)) (F0 m 255 ls [.int zg, .int (nI q0), .ref (ad 14 0)]) := by
                  intro zg ezg
                  refine g_zast (f := σ5 14) (A := (wA cM ad s.heap.size)) hx hb hK (hB5 14 0 Nat.zero_lt_one) hS5 (wA.in (k := 14) (i := 0) Nat.zero_lt_one) (vp_in_nI (N := 30) q30 (by decide)) (by rw [ezg]; split <;> rfl) dX4_visit_255 (fun H6 locs6 hc6 hu6 hS6 => ?_)
                  have hB6 : MW D cy ad (up2 σ5 14 q0 zg) ν H6 := hB5.sst hJ 14 Nat.zero_lt_one (by decide) (by decide) (by decide) (cl_nI (by omega)) hc6 hu6
                  obtain ⟨σ6, hs6⟩ : ∃ z : IT, z = up2 σ5 14 q0 zg := ⟨_, rfl⟩
                  rw [← hs6] at hB6
                  have hv3 : σ6 = vis3 σ (ν 5 q0) q0 o := by rw [hs6, hs5, ezg, ezd, hvv]; rfl
                  have hf8 : σ6 8 (ν 5 q0) = failF σ (ν 5 q0) o := by rw [hv3]; exact vis3_8
                  refine lv_aload_n hx hb dX4_visit_256 rfl (lv_at hl 1 rfl) ?_
                  refine g_get (C := RX4) (T := TX4) (N := 26) (ci := 4) (fs := [.int (σ6 30 0), .int (σ6 0 0), .int (nI (ν 1 0)), .ref (ad 6 0), .ref (ad 7 0), .ref (ad 8 0), .ref (ad 9 0), .int (σ6 1 0), .int (σ6 2 0), .int (σ6 3 0), .int (σ6 31 0), .int (σ6 32 0), .int (nI (ν 0 0)), .ref (ad 18 0), .ref (ad 17 0), .ref (ad 16 0), .ref (ad 10 0), .ref (ad 11 0), .ref (ad 12 0), .ref (ad 13 0), .ref (ad 14 0), .ref (ad 15 0), .int (nI (ν 6 0)), .ref (ad 34 0), .ref (ad 35 0), .ref (ad 36 0)]) hx hb hts inX4 hown hK (hB6 0 0 Nat.zero_lt_one) rfl 5 (by decide) lk16 rfl rfl dX4_visit_257 ?_
                  refine lv_iload_n hx hb dX4_visit_260 rfl (lv_at hl 0 rfl) ?_
                  refine g_iald (f := σ6 8) (x := σ6 8 (ν 5 q0)) hx hb hK (hB6 8 0 Nat.zero_lt_one) (vp_in_nI (N := 6) (by omega) (by decide)) (by rw [cl_nI (by omega)]) dX4_visit_261 ?_
                  refine lv_iconst (v := 5) hx hb dX4_visit_262 (by decide) ?_
                  have k_276 : ∀ zq : Int32, zq = powF (failF σ (ν 5 q0) o) → W p l e (headSpec wsX4_visit ({ frames := 2, cells := 0, slots := 0, locals := 60 } : Room)).room s m ([.ref (ad 0 0), .int p0, .int o] : List Value).toArray below meth c H6 locs6 0 0 (MQ below (uQ (some (.int (oVisit σ ν p0 o).1)) (MW D cy ad (oVisit σ ν p0 o).2 ν) (wA cM ad s.heap.size)) ([.ref (ad 0 0), .int p0, .int o] : List Value).toArray s 0 0 (wA cM ad s.heap.size)) (F0 m 276 ls [.int zq]) := by
                    intro zq ezq
                    refine lv_istore (lv' := [(4, .int zq), (3, .int (nI (ν 5 q0))), (0, .ref (ad 0 0)), (1, .int p0), (2, .int o)]) hx hb dX4_visit_276 hl (by decide) rfl (fun ls hl => ?_)
                    refine lv_aload_n hx hb dX4_visit_278 rfl (lv_at hl 2 rfl) ?_
                    refine g_get (C := RX4) (T := TX4) (N := 26) (ci := 4) (fs := [.int (σ6 30 0), .int (σ6 0 0), .int (nI (ν 1 0)), .ref (ad 6 0), .ref (ad 7 0), .ref (ad 8 0), .ref (ad 9 0), .int (σ6 1 0), .int (σ6 2 0), .int (σ6 3 0), .int (σ6 31 0), .int (σ6 32 0), .int (nI (ν 0 0)), .ref (ad 18 0), .ref (ad 17 0), .ref (ad 16 0), .ref (ad 10 0), .ref (ad 11 0), .ref (ad 12 0), .ref (ad 13 0), .ref (ad 14 0), .ref (ad 15 0), .int (nI (ν 6 0)), .ref (ad 34 0), .ref (ad 35 0), .ref (ad 36 0)]) hx hb hts inX4 hown hK (hB6 0 0 Nat.zero_lt_one) rfl 6 (by decide) lk19 rfl rfl dX4_visit_279 ?_
                    refine lv_iload_n hx hb dX4_visit_282 rfl (lv_at hl 1 rfl) ?_
                    refine lv_aload_n hx hb dX4_visit_283 rfl (lv_at hl 2 rfl) ?_
                    refine g_get (C := RX4) (T := TX4) (N := 26) (ci := 4) (fs := [.int (σ6 30 0), .int (σ6 0 0), .int (nI (ν 1 0)), .ref (ad 6 0), .ref (ad 7 0), .ref (ad 8 0), .ref (ad 9 0), .int (σ6 1 0), .int (σ6 2 0), .int (σ6 3 0), .int (σ6 31 0), .int (σ6 32 0), .int (nI (ν 0 0)), .ref (ad 18 0), .ref (ad 17 0), .ref (ad 16 0), .ref (ad 10 0), .ref (ad 11 0), .ref (ad 12 0), .ref (ad 13 0), .ref (ad 14 0), .ref (ad 15 0), .int (nI (ν 6 0)), .ref (ad 34 0), .ref (ad 35 0), .ref (ad 36 0)]) hx hb hts inX4 hown hK (hB6 0 0 Nat.zero_lt_one) rfl 1 (by decide) lk110 rfl rfl dX4_visit_284 ?_
                    refine lv_aload_n hx hb dX4_visit_287 rfl (lv_at hl 2 rfl) ?_
                    refine g_get (C := RX4) (T := TX4) (N := 26) (ci := 4) (fs := [.int (σ6 30 0), .int (σ6 0 0), .int (nI (ν 1 0)), .ref (ad 6 0), .ref (ad 7 0), .ref (ad 8 0), .ref (ad 9 0), .int (σ6 1 0), .int (σ6 2 0), .int (σ6 3 0), .int (σ6 31 0), .int (σ6 32 0), .int (nI (ν 0 0)), .ref (ad 18 0), .ref (ad 17 0), .ref (ad 16 0), .ref (ad 10 0), .ref (ad 11 0), .ref (ad 12 0), .ref (ad 13 0), .ref (ad 14 0), .ref (ad 15 0), .int (nI (ν 6 0)), .ref (ad 34 0), .ref (ad 35 0), .ref (ad 36 0)]) hx hb hts inX4 hown hK (hB6 0 0 Nat.zero_lt_one) rfl 4 (by decide) lk13 rfl rfl dX4_visit_288 ?_
                    refine lv_iload_n hx hb dX4_visit_291 rfl (lv_at hl 1 rfl) ?_
                    refine g_iald (f := σ6 7) (x := σ6 7 (ν 5 q0)) hx hb hK (hB6 7 0 Nat.zero_lt_one) (vp_in_nI (N := 6) (by omega) (by decide)) (by rw [cl_nI (by omega)]) dX4_visit_292 ?_
                    refine lv_iload hx hb dX4_visit_293 (lv_at hl 0 rfl) ?_
                    refine lv_ishl hx hb dX4_visit_295 ?_
                    refine lv_iadd hx hb dX4_visit_296 ?_
                    refine g_iast (f := σ6 9) (A := (wA cM ad s.heap.size)) hx hb hK (hB6 9 0 Nat.zero_lt_one) hS6 (wA.in (k := 9) (i := 0) Nat.zero_lt_one) (vp_in_nI (N := 6) hh6 (by decide)) dX4_visit_297 (fun H7 locs7 hc7 hu7 hS7 => ?_)
                    have hB7 : MW D cy ad (up2 σ6 9 (ν 5 q0) ((σ6 0 0) + ((σ6 7 (ν 5 q0)) <<< (zq &&& 31)))) ν H7 := hB6.sst hJ 9 Nat.zero_lt_one (by decide) (by decide) (by decide) (cl_nI (by omega)) hc7 hu7
                    obtain ⟨σ7, hs7⟩ : ∃ z : IT, z = up2 σ6 9 (ν 5 q0) ((σ6 0 0) + ((σ6 7 (ν 5 q0)) <<< (zq &&& 31))) := ⟨_, rfl⟩
                    rw [← hs7] at hB7
                    have hfin : σ7 = vis4 σ (ν 5 q0) q0 o := by rw [hs7, hv3, ezq, vis3_0, vis3_7]; rfl
                    refine lv_aload_n hx hb dX4_visit_298 rfl (lv_at hl 2 rfl) ?_
                    refine g_get (C := RX4) (T := TX4) (N := 26) (ci := 4) (fs := [.int (σ7 30 0), .int (σ7 0 0), .int (nI (ν 1 0)), .ref (ad 6 0), .ref (ad 7 0), .ref (ad 8 0), .ref (ad 9 0), .int (σ7 1 0), .int (σ7 2 0), .int (σ7 3 0), .int (σ7 31 0), .int (σ7 32 0), .int (nI (ν 0 0)), .ref (ad 18 0), .ref (ad 17 0), .ref (ad 16 0), .ref (ad 10 0), .ref (ad 11 0), .ref (ad 12 0), .ref (ad 13 0), .ref (ad 14 0), .ref (ad 15 0), .int (nI (ν 6 0)), .ref (ad 34 0), .ref (ad 35 0), .ref (ad 36 0)]) hx hb hts inX4 hown hK (hB7 0 0 Nat.zero_lt_one) rfl 6 (by decide) lk19 rfl rfl dX4_visit_299 ?_
                    refine lv_iload_n hx hb dX4_visit_302 rfl (lv_at hl 1 rfl) ?_
                    refine g_iald (f := σ7 9) (x := σ7 9 (ν 5 q0)) hx hb hK (hB7 9 0 Nat.zero_lt_one) (vp_in_nI (N := 6) (by omega) (by decide)) (by rw [cl_nI (by omega)]) dX4_visit_303 ?_
                    exact g_iretU hx hb hr hlocks hS7 (by rw [oVisit, hcd1, hcd2, ec, hcd3]; rw [hfin] at hB7; exact hB7) (Nat.le_refl _) (Nat.le_refl _) dX4_visit_304 (by rw [oVisit, hcd1, hcd2, ec, hcd3]; rw [hfin, vis4, up2_s])
                  refine lv_icmp_ge (tgt := 275) hx hb dX4_visit_263 (by decide) (fun c_263 => ?_) (fun c_263 => ?_)
                  · -- 263 t
                    refine lv_iconst (v := 5) hx hb dX4_visit_275 (by decide) ?_
                    exact k_276 _ (by rw [hf8] at c_263; rw [powF, if_pos c_263])
                  · -- 263 f
                    refine lv_aload_n hx hb dX4_visit_266 rfl (lv_at hl 1 rfl) ?_
                    refine g_get (C := RX4) (T := TX4) (N := 26) (ci := 4) (fs := [.int (σ6 30 0), .int (σ6 0 0), .int (nI (ν 1 0)), .ref (ad 6 0), .ref (ad 7 0), .ref (ad 8 0), .ref (ad 9 0), .int (σ6 1 0), .int (σ6 2 0), .int (σ6 3 0), .int (σ6 31 0), .int (σ6 32 0), .int (nI (ν 0 0)), .ref (ad 18 0), .ref (ad 17 0), .ref (ad 16 0), .ref (ad 10 0), .ref (ad 11 0), .ref (ad 12 0), .ref (ad 13 0), .ref (ad 14 0), .ref (ad 15 0), .int (nI (ν 6 0)), .ref (ad 34 0), .ref (ad 35 0), .ref (ad 36 0)]) hx hb hts inX4 hown hK (hB6 0 0 Nat.zero_lt_one) rfl 5 (by decide) lk16 rfl rfl dX4_visit_267 ?_
                    refine lv_iload_n hx hb dX4_visit_270 rfl (lv_at hl 0 rfl) ?_
                    refine g_iald (f := σ6 8) (x := σ6 8 (ν 5 q0)) hx hb hK (hB6 8 0 Nat.zero_lt_one) (vp_in_nI (N := 6) (by omega) (by decide)) (by rw [cl_nI (by omega)]) dX4_visit_271 ?_
                    refine lv_goto (tgt := 276) hx hb dX4_visit_272 (by decide) ?_
                    exact k_276 _ (by rw [hf8] at c_263; rw [powF, if_neg c_263, hf8])
                refine lv_icmp_ne (tgt := 254) hx hb dX4_visit_247 (by decide) (fun c_247 => ?_) (fun c_247 => ?_)
                · -- 247 t
                  refine lv_iconst (v := 0) hx hb dX4_visit_254 (by decide) ?_
                  exact k_255 _ (by rw [if_neg c_247])
                · -- 247 f
                  refine lv_iconst (v := 1) hx hb dX4_visit_250 (by decide) ?_
                  refine lv_goto (tgt := 255) hx hb dX4_visit_251 (by decide) ?_
                  exact k_255 _ (by rw [if_pos c_247])
              refine lv_icmp_ne (tgt := 233) hx hb dX4_visit_218 (by decide) (fun c_218 => ?_) (fun c_218 => ?_)
              · -- 218 t
                refine lv_aload_n hx hb dX4_visit_233 rfl (lv_at hl 1 rfl) ?_
                refine g_get (C := RX4) (T := TX4) (N := 26) (ci := 4) (fs := [.int (σ4 30 0), .int (σ4 0 0), .int (nI (ν 1 0)), .ref (ad 6 0), .ref (ad 7 0), .ref (ad 8 0), .ref (ad 9 0), .int (σ4 1 0), .int (σ4 2 0), .int (σ4 3 0), .int (σ4 31 0), .int (σ4 32 0), .int (nI (ν 0 0)), .ref (ad 18 0), .ref (ad 17 0), .ref (ad 16 0), .ref (ad 10 0), .ref (ad 11 0), .ref (ad 12 0), .ref (ad 13 0), .ref (ad 14 0), .ref (ad 15 0), .int (nI (ν 6 0)), .ref (ad 34 0), .ref (ad 35 0), .ref (ad 36 0)]) hx hb hts inX4 hown hK (hB4 0 0 Nat.zero_lt_one) rfl 17 (by decide) lk44 rfl rfl dX4_visit_234 ?_
                refine lv_iload_n hx hb dX4_visit_237 rfl (lv_at hl 2 rfl) ?_
                refine lv_topi (fun y5 ey5 => ?_)
                obtain rfl : y5 = nI q0 := ey5.trans (eh)
                refine g_iald (f := σ4 11) (x := σ4 11 q0) hx hb hK (hB4 11 0 Nat.zero_lt_one) (vp_in_nI (N := 30) (by omega) (by decide)) (by rw [cl_nI (by omega)]) dX4_visit_238 ?_
                exact k_239 _ (by rw [if_neg c_218])
              · -- 218 f
                refine lv_aload_n hx hb dX4_visit_221 rfl (lv_at hl 1 rfl) ?_
                refine g_get (C := RX4) (T := TX4) (N := 26) (ci := 4) (fs := [.int (σ4 30 0), .int (σ4 0 0), .int (nI (ν 1 0)), .ref (ad 6 0), .ref (ad 7 0), .ref (ad 8 0), .ref (ad 9 0), .int (σ4 1 0), .int (σ4 2 0), .int (σ4 3 0), .int (σ4 31 0), .int (σ4 32 0), .int (nI (ν 0 0)), .ref (ad 18 0), .ref (ad 17 0), .ref (ad 16 0), .ref (ad 10 0), .ref (ad 11 0), .ref (ad 12 0), .ref (ad 13 0), .ref (ad 14 0), .ref (ad 15 0), .int (nI (ν 6 0)), .ref (ad 34 0), .ref (ad 35 0), .ref (ad 36 0)]) hx hb hts inX4 hown hK (hB4 0 0 Nat.zero_lt_one) rfl 1 (by decide) lk110 rfl rfl dX4_visit_222 ?_
                refine lv_aload_n hx hb dX4_visit_225 rfl (lv_at hl 1 rfl) ?_
                refine g_get (C := RX4) (T := TX4) (N := 26) (ci := 4) (fs := [.int (σ4 30 0), .int (σ4 0 0), .int (nI (ν 1 0)), .ref (ad 6 0), .ref (ad 7 0), .ref (ad 8 0), .ref (ad 9 0), .int (σ4 1 0), .int (σ4 2 0), .int (σ4 3 0), .int (σ4 31 0), .int (σ4 32 0), .int (nI (ν 0 0)), .ref (ad 18 0), .ref (ad 17 0), .ref (ad 16 0), .ref (ad 10 0), .ref (ad 11 0), .ref (ad 12 0), .ref (ad 13 0), .ref (ad 14 0), .ref (ad 15 0), .int (nI (ν 6 0)), .ref (ad 34 0), .ref (ad 35 0), .ref (ad 36 0)]) hx hb hts inX4 hown hK (hB4 0 0 Nat.zero_lt_one) rfl 7 (by decide) lk22 rfl rfl dX4_visit_226 ?_
                refine lv_iadd hx hb dX4_visit_229 ?_
                refine lv_goto (tgt := 239) hx hb dX4_visit_230 (by decide) ?_
                exact k_239 _ (by rw [if_pos c_218, hvv, vis2_0, vis2_1])
            · -- 119 f
              refine lv_aload_n hx hb dX4_visit_122 rfl (lv_at hl 1 rfl) ?_
              refine g_get (C := RX4) (T := TX4) (N := 26) (ci := 4) (fs := [.int (σ4 30 0), .int (σ4 0 0), .int (nI (ν 1 0)), .ref (ad 6 0), .ref (ad 7 0), .ref (ad 8 0), .ref (ad 9 0), .int (σ4 1 0), .int (σ4 2 0), .int (σ4 3 0), .int (σ4 31 0), .int (σ4 32 0), .int (nI (ν 0 0)), .ref (ad 18 0), .ref (ad 17 0), .ref (ad 16 0), .ref (ad 10 0), .ref (ad 11 0), .ref (ad 12 0), .ref (ad 13 0), .ref (ad 14 0), .ref (ad 15 0), .int (nI (ν 6 0)), .ref (ad 34 0), .ref (ad 35 0), .ref (ad 36 0)]) hx hb hts inX4 hown hK (hB4 0 0 Nat.zero_lt_one) rfl 18 (by decide) lk47 rfl rfl dX4_visit_123 ?_
              refine lv_iload_n hx hb dX4_visit_126 rfl (lv_at hl 2 rfl) ?_
              refine lv_topi (fun y6 ey6 => ?_)
              obtain rfl : y6 = nI q0 := ey6.trans (eh)
              refine lv_dup2_11 hx hb dX4_visit_127 rfl rfl ?_
              refine g_iald (f := σ4 12) (x := σ4 12 q0) hx hb hK (hB4 12 0 Nat.zero_lt_one) (vp_in_nI (N := 30) (by omega) (by decide)) (by rw [cl_nI (by omega)]) dX4_visit_128 ?_
              refine lv_iconst (v := 1) hx hb dX4_visit_129 (by decide) ?_
              refine lv_iadd hx hb dX4_visit_130 ?_
              refine g_iast (f := σ4 12) (A := (wA cM ad s.heap.size)) hx hb hK (hB4 12 0 Nat.zero_lt_one) hS4 (wA.in (k := 12) (i := 0) Nat.zero_lt_one) (vp_in_nI (N := 30) q30 (by decide)) dX4_visit_131 (fun H8 locs8 hc8 hu8 hS8 => ?_)
              have hB8 : MW D cy ad (up2 σ4 12 q0 ((σ4 12 q0) + 1)) ν H8 := hB4.sst hJ 12 Nat.zero_lt_one (by decide) (by decide) (by decide) (cl_nI (by omega)) hc8 hu8
              obtain ⟨σ8, hs8⟩ : ∃ z : IT, z = up2 σ4 12 q0 ((σ4 12 q0) + 1) := ⟨_, rfl⟩
              rw [← hs8] at hB8
              have e131 : σ8 = up2 (vis1 σ (ν 5 q0) o) 12 q0 (σ 12 q0 + 1) := by rw [hs8, hv1]; rfl
              refine lv_aload_n hx hb dX4_visit_132 rfl (lv_at hl 1 rfl) ?_
              refine g_get (C := RX4) (T := TX4) (N := 26) (ci := 4) (fs := [.int (σ8 30 0), .int (σ8 0 0), .int (nI (ν 1 0)), .ref (ad 6 0), .ref (ad 7 0), .ref (ad 8 0), .ref (ad 9 0), .int (σ8 1 0), .int (σ8 2 0), .int (σ8 3 0), .int (σ8 31 0), .int (σ8 32 0), .int (nI (ν 0 0)), .ref (ad 18 0), .ref (ad 17 0), .ref (ad 16 0), .ref (ad 10 0), .ref (ad 11 0), .ref (ad 12 0), .ref (ad 13 0), .ref (ad 14 0), .ref (ad 15 0), .int (nI (ν 6 0)), .ref (ad 34 0), .ref (ad 35 0), .ref (ad 36 0)]) hx hb hts inX4 hown hK (hB8 0 0 Nat.zero_lt_one) rfl 19 (by decide) lk50 rfl rfl dX4_visit_133 ?_
              refine lv_iload_n hx hb dX4_visit_136 rfl (lv_at hl 2 rfl) ?_
              refine lv_topi (fun y7 ey7 => ?_)
              obtain rfl : y7 = nI q0 := ey7.trans (eh)
              refine lv_dup2_11 hx hb dX4_visit_137 rfl rfl ?_
              refine g_iald (f := σ8 13) (x := σ8 13 q0) hx hb hK (hB8 13 0 Nat.zero_lt_one) (vp_in_nI (N := 30) (by omega) (by decide)) (by rw [cl_nI (by omega)]) dX4_visit_138 ?_
              refine lv_iload_n hx hb dX4_visit_139 rfl (lv_at hl 3 rfl) ?_
              refine lv_iconst (v := 1) hx hb dX4_visit_140 (by decide) ?_
              have k_149 : ∀ zc : Int32, zc = (if o = 1 then 1 else 0) → W p l e (headSpec wsX4_visit ({ frames := 2, cells := 0, slots := 0, locals := 60 } : Room)).room s m ([.ref (ad 0 0), .int p0, .int o] : List Value).toArray below meth c H8 locs8 0 0 (MQ below (uQ (some (.int (oVisit σ ν p0 o).1)) (MW D cy ad (oVisit σ ν p0 o).2 ν) (wA cM ad s.heap.size)) ([.ref (ad 0 0), .int p0, .int o] : List Value).toArray s 0 0 (wA cM ad s.heap.size)) (F0 m 149 ls [.int zc, .int (σ8 13 q0), .int (nI q0), .ref (ad 13 0)]) := by
                intro zc ezc
                refine lv_iadd hx hb dX4_visit_149 ?_
                refine g_iast (f := σ8 13) (A := (wA cM ad s.heap.size)) hx hb hK (hB8 13 0 Nat.zero_lt_one) hS8 (wA.in (k := 13) (i := 0) Nat.zero_lt_one) (vp_in_nI (N := 30) q30 (by decide)) dX4_visit_150 (fun H9 locs9 hc9 hu9 hS9 => ?_)
                have hB9 : MW D cy ad (up2 σ8 13 q0 ((σ8 13 q0) + zc)) ν H9 := hB8.sst hJ 13 Nat.zero_lt_one (by decide) (by decide) (by decide) (cl_nI (by omega)) hc9 hu9
                obtain ⟨σ9, hs9⟩ : ∃ z : IT, z = up2 σ8 13 q0 ((σ8 13 q0) + zc) := ⟨_, rfl⟩
                rw [← hs9] at hB9
                have e150 : σ9 = up2 (up2 (vis1 σ (ν 5 q0) o) 12 q0 (σ 12 q0 + 1)) 13 q0 (chgF σ q0 o) := by rw [hs9, e131, ezc]; rfl
                have hl2 : σ9 2 0 = σ 2 0 := by rw [e150]; rfl
                obtain ⟨c0, hc0, ec0⟩ := hC q0 hq0
                have hc1 : ¬ σ9 13 q0 + 1 = 0 := by rw [e150, up2_s]; exact chg_ne hc0 ec0
                refine lv_aload_n hx hb dX4_visit_151 rfl (lv_at hl 1 rfl) ?_
                refine g_get (C := RX4) (T := TX4) (N := 26) (ci := 4) (fs := [.int (σ9 30 0), .int (σ9 0 0), .int (nI (ν 1 0)), .ref (ad 6 0), .ref (ad 7 0), .ref (ad 8 0), .ref (ad 9 0), .int (σ9 1 0), .int (σ9 2 0), .int (σ9 3 0), .int (σ9 31 0), .int (σ9 32 0), .int (nI (ν 0 0)), .ref (ad 18 0), .ref (ad 17 0), .ref (ad 16 0), .ref (ad 10 0), .ref (ad 11 0), .ref (ad 12 0), .ref (ad 13 0), .ref (ad 14 0), .ref (ad 15 0), .int (nI (ν 6 0)), .ref (ad 34 0), .ref (ad 35 0), .ref (ad 36 0)]) hx hb hts inX4 hown hK (hB9 0 0 Nat.zero_lt_one) rfl 7 (by decide) lk22 rfl rfl dX4_visit_152 ?_
                refine lv_aload_n hx hb dX4_visit_155 rfl (lv_at hl 1 rfl) ?_
                refine g_get (C := RX4) (T := TX4) (N := 26) (ci := 4) (fs := [.int (σ9 30 0), .int (σ9 0 0), .int (nI (ν 1 0)), .ref (ad 6 0), .ref (ad 7 0), .ref (ad 8 0), .ref (ad 9 0), .int (σ9 1 0), .int (σ9 2 0), .int (σ9 3 0), .int (σ9 31 0), .int (σ9 32 0), .int (nI (ν 0 0)), .ref (ad 18 0), .ref (ad 17 0), .ref (ad 16 0), .ref (ad 10 0), .ref (ad 11 0), .ref (ad 12 0), .ref (ad 13 0), .ref (ad 14 0), .ref (ad 15 0), .int (nI (ν 6 0)), .ref (ad 34 0), .ref (ad 35 0), .ref (ad 36 0)]) hx hb hts inX4 hown hK (hB9 0 0 Nat.zero_lt_one) rfl 18 (by decide) lk47 rfl rfl dX4_visit_156 ?_
                refine lv_iload_n hx hb dX4_visit_159 rfl (lv_at hl 2 rfl) ?_
                refine lv_topi (fun y8 ey8 => ?_)
                obtain rfl : y8 = nI q0 := ey8.trans (eh)
                refine g_iald (f := σ9 12) (x := σ9 12 q0) hx hb hK (hB9 12 0 Nat.zero_lt_one) (vp_in_nI (N := 30) (by omega) (by decide)) (by rw [cl_nI (by omega)]) dX4_visit_160 ?_
                refine lv_iconst (v := 2) hx hb dX4_visit_161 (by decide) ?_
                refine lv_iadd hx hb dX4_visit_162 ?_
                refine lv_imul hx hb dX4_visit_163 ?_
                refine lv_aload_n hx hb dX4_visit_164 rfl (lv_at hl 1 rfl) ?_
                refine g_get (C := RX4) (T := TX4) (N := 26) (ci := 4) (fs := [.int (σ9 30 0), .int (σ9 0 0), .int (nI (ν 1 0)), .ref (ad 6 0), .ref (ad 7 0), .ref (ad 8 0), .ref (ad 9 0), .int (σ9 1 0), .int (σ9 2 0), .int (σ9 3 0), .int (σ9 31 0), .int (σ9 32 0), .int (nI (ν 0 0)), .ref (ad 18 0), .ref (ad 17 0), .ref (ad 16 0), .ref (ad 10 0), .ref (ad 11 0), .ref (ad 12 0), .ref (ad 13 0), .ref (ad 14 0), .ref (ad 15 0), .int (nI (ν 6 0)), .ref (ad 34 0), .ref (ad 35 0), .ref (ad 36 0)]) hx hb hts inX4 hown hK (hB9 0 0 Nat.zero_lt_one) rfl 19 (by decide) lk50 rfl rfl dX4_visit_165 ?_
                refine lv_iload_n hx hb dX4_visit_168 rfl (lv_at hl 2 rfl) ?_
                refine lv_topi (fun y9 ey9 => ?_)
                obtain rfl : y9 = nI q0 := ey9.trans (eh)
                refine g_iald (f := σ9 13) (x := σ9 13 q0) hx hb hK (hB9 13 0 Nat.zero_lt_one) (vp_in_nI (N := 30) (by omega) (by decide)) (by rw [cl_nI (by omega)]) dX4_visit_169 ?_
                refine lv_iadd hx hb dX4_visit_170 ?_
                refine lv_aload_n hx hb dX4_visit_171 rfl (lv_at hl 1 rfl) ?_
                refine g_get (C := RX4) (T := TX4) (N := 26) (ci := 4) (fs := [.int (σ9 30 0), .int (σ9 0 0), .int (nI (ν 1 0)), .ref (ad 6 0), .ref (ad 7 0), .ref (ad 8 0), .ref (ad 9 0), .int (σ9 1 0), .int (σ9 2 0), .int (σ9 3 0), .int (σ9 31 0), .int (σ9 32 0), .int (nI (ν 0 0)), .ref (ad 18 0), .ref (ad 17 0), .ref (ad 16 0), .ref (ad 10 0), .ref (ad 11 0), .ref (ad 12 0), .ref (ad 13 0), .ref (ad 14 0), .ref (ad 15 0), .int (nI (ν 6 0)), .ref (ad 34 0), .ref (ad 35 0), .ref (ad 36 0)]) hx hb hts inX4 hown hK (hB9 0 0 Nat.zero_lt_one) rfl 19 (by decide) lk50 rfl rfl dX4_visit_172 ?_
                refine lv_iload_n hx hb dX4_visit_175 rfl (lv_at hl 2 rfl) ?_
                refine lv_topi (fun y10 ey10 => ?_)
                obtain rfl : y10 = nI q0 := ey10.trans (eh)
                refine g_iald (f := σ9 13) (x := σ9 13 q0) hx hb hK (hB9 13 0 Nat.zero_lt_one) (vp_in_nI (N := 30) (by omega) (by decide)) (by rw [cl_nI (by omega)]) dX4_visit_176 ?_
                refine lv_iconst (v := 1) hx hb dX4_visit_177 (by decide) ?_
                refine lv_iadd hx hb dX4_visit_178 ?_
                refine lv_idiv hx hb dX4_visit_179 (fun q => hc1 q) ?_
                refine lv_topi (fun z4 ez4 => ?_)
                have hp4 : z4 = paceF σ (σ 12 q0 + 1) (chgF σ q0 o) := by rw [ez4, e150]; simp [up2, paceF, vis1, vis0]
                refine lv_istore (lv' := [(4, .int z4), (3, .int (nI (ν 5 q0))), (0, .ref (ad 0 0)), (1, .int p0), (2, .int o)]) hx hb dX4_visit_180 hl (by decide) rfl (fun ls hl => ?_)
                refine lv_aload_n hx hb dX4_visit_182 rfl (lv_at hl 2 rfl) ?_
                refine g_get (C := RX4) (T := TX4) (N := 26) (ci := 4) (fs := [.int (σ9 30 0), .int (σ9 0 0), .int (nI (ν 1 0)), .ref (ad 6 0), .ref (ad 7 0), .ref (ad 8 0), .ref (ad 9 0), .int (σ9 1 0), .int (σ9 2 0), .int (σ9 3 0), .int (σ9 31 0), .int (σ9 32 0), .int (nI (ν 0 0)), .ref (ad 18 0), .ref (ad 17 0), .ref (ad 16 0), .ref (ad 10 0), .ref (ad 11 0), .ref (ad 12 0), .ref (ad 13 0), .ref (ad 14 0), .ref (ad 15 0), .int (nI (ν 6 0)), .ref (ad 34 0), .ref (ad 35 0), .ref (ad 36 0)]) hx hb hts inX4 hown hK (hB9 0 0 Nat.zero_lt_one) rfl 17 (by decide) lk44 rfl rfl dX4_visit_183 ?_
                refine lv_iload_n hx hb dX4_visit_186 rfl (lv_at hl 3 rfl) ?_
                refine lv_topi (fun y11 ey11 => ?_)
                obtain rfl : y11 = nI q0 := ey11.trans (eh)
                refine lv_aload_n hx hb dX4_visit_187 rfl (lv_at hl 2 rfl) ?_
                refine g_get (C := RX4) (T := TX4) (N := 26) (ci := 4) (fs := [.int (σ9 30 0), .int (σ9 0 0), .int (nI (ν 1 0)), .ref (ad 6 0), .ref (ad 7 0), .ref (ad 8 0), .ref (ad 9 0), .int (σ9 1 0), .int (σ9 2 0), .int (σ9 3 0), .int (σ9 31 0), .int (σ9 32 0), .int (nI (ν 0 0)), .ref (ad 18 0), .ref (ad 17 0), .ref (ad 16 0), .ref (ad 10 0), .ref (ad 11 0), .ref (ad 12 0), .ref (ad 13 0), .ref (ad 14 0), .ref (ad 15 0), .int (nI (ν 6 0)), .ref (ad 34 0), .ref (ad 35 0), .ref (ad 36 0)]) hx hb hts inX4 hown hK (hB9 0 0 Nat.zero_lt_one) rfl 1 (by decide) lk110 rfl rfl dX4_visit_188 ?_
                refine lv_iload hx hb dX4_visit_191 (lv_at hl 0 rfl) ?_
                refine lv_aload_n hx hb dX4_visit_193 rfl (lv_at hl 2 rfl) ?_
                refine g_get (C := RX4) (T := TX4) (N := 26) (ci := 4) (fs := [.int (σ9 30 0), .int (σ9 0 0), .int (nI (ν 1 0)), .ref (ad 6 0), .ref (ad 7 0), .ref (ad 8 0), .ref (ad 9 0), .int (σ9 1 0), .int (σ9 2 0), .int (σ9 3 0), .int (σ9 31 0), .int (σ9 32 0), .int (nI (ν 0 0)), .ref (ad 18 0), .ref (ad 17 0), .ref (ad 16 0), .ref (ad 10 0), .ref (ad 11 0), .ref (ad 12 0), .ref (ad 13 0), .ref (ad 14 0), .ref (ad 15 0), .int (nI (ν 6 0)), .ref (ad 34 0), .ref (ad 35 0), .ref (ad 36 0)]) hx hb hts inX4 hown hK (hB9 0 0 Nat.zero_lt_one) rfl 8 (by decide) lk26 rfl rfl dX4_visit_194 ?_
                have k_209 : ∀ zp : Int32, zp = capF σ (paceF σ (σ 12 q0 + 1) (chgF σ q0 o)) → W p l e (headSpec wsX4_visit ({ frames := 2, cells := 0, slots := 0, locals := 60 } : Room)).room s m ([.ref (ad 0 0), .int p0, .int o] : List Value).toArray below meth c H9 locs9 0 0 (MQ below (uQ (some (.int (oVisit σ ν p0 o).1)) (MW D cy ad (oVisit σ ν p0 o).2 ν) (wA cM ad s.heap.size)) ([.ref (ad 0 0), .int p0, .int o] : List Value).toArray s 0 0 (wA cM ad s.heap.size)) (F0 m 209 ls [.int zp, .int (σ9 0 0), .int (nI q0), .ref (ad 11 0)]) := by
                  intro zp ezp
                  refine lv_iadd hx hb dX4_visit_209 ?_
                  refine g_iast (f := σ9 11) (A := (wA cM ad s.heap.size)) hx hb hK (hB9 11 0 Nat.zero_lt_one) hS9 (wA.in (k := 11) (i := 0) Nat.zero_lt_one) (vp_in_nI (N := 30) q30 (by decide)) dX4_visit_210 (fun H10 locs10 hc10 hu10 hS10 => ?_)
                  have hB10 : MW D cy ad (up2 σ9 11 q0 ((σ9 0 0) + zp)) ν H10 := hB9.sst hJ 11 Nat.zero_lt_one (by decide) (by decide) (by decide) (cl_nI (by omega)) hc10 hu10
                  obtain ⟨σ10, hs10⟩ : ∃ z : IT, z = up2 σ9 11 q0 ((σ9 0 0) + zp) := ⟨_, rfl⟩
                  rw [← hs10] at hB10
                  have hvv : σ10 = vis2 σ (ν 5 q0) q0 o := by rw [vis2, if_pos (Int32.not_le.mp c_119), hs10, ezp, e150]; rfl
                  refine lv_aload_n hx hb dX4_visit_211 rfl (lv_at hl 2 rfl) ?_
                  refine g_get (C := RX4) (T := TX4) (N := 26) (ci := 4) (fs := [.int (σ10 30 0), .int (σ10 0 0), .int (nI (ν 1 0)), .ref (ad 6 0), .ref (ad 7 0), .ref (ad 8 0), .ref (ad 9 0), .int (σ10 1 0), .int (σ10 2 0), .int (σ10 3 0), .int (σ10 31 0), .int (σ10 32 0), .int (nI (ν 0 0)), .ref (ad 18 0), .ref (ad 17 0), .ref (ad 16 0), .ref (ad 10 0), .ref (ad 11 0), .ref (ad 12 0), .ref (ad 13 0), .ref (ad 14 0), .ref (ad 15 0), .int (nI (ν 6 0)), .ref (ad 34 0), .ref (ad 35 0), .ref (ad 36 0)]) hx hb hts inX4 hown hK (hB10 0 0 Nat.zero_lt_one) rfl 17 (by decide) lk44 rfl rfl dX4_visit_212 ?_
                  refine lv_iload_n hx hb dX4_visit_215 rfl (lv_at hl 3 rfl) ?_
                  refine lv_topi (fun y12 ey12 => ?_)
                  obtain rfl : y12 = nI q0 := ey12.trans (eh)
                  refine lv_iload_n hx hb dX4_visit_216 rfl (lv_at hl 4 rfl) ?_
                  refine lv_iconst (v := 2) hx hb dX4_visit_217 (by decide) ?_
                  have k_239 : ∀ zd : Int32, zd = (if o = 2 then σ 0 0 + σ 1 0 else σ10 11 q0) → W p l e (headSpec wsX4_visit ({ frames := 2, cells := 0, slots := 0, locals := 60 } : Room)).room s m ([.ref (ad 0 0), .int p0, .int o] : List Value).toArray below meth c H10 locs10 0 0 (MQ below (uQ (some (.int (oVisit σ ν p0 o).1)) (MW D cy ad (oVisit σ ν p0 o).2 ν) (wA cM ad s.heap.size)) ([.ref (ad 0 0), .int p0, .int o] : List Value).toArray s 0 0 (wA cM ad s.heap.size)) (F0 m 239 ls [.int zd, .int (nI q0), .ref (ad 11 0)]) := by
                    intro zd ezd
                    refine g_iast (f := σ10 11) (A := (wA cM ad s.heap.size)) hx hb hK (hB10 11 0 Nat.zero_lt_one) hS10 (wA.in (k := 11) (i := 0) Nat.zero_lt_one) (vp_in_nI (N := 30) q30 (by decide)) dX4_visit_239 (fun H11 locs11 hc11 hu11 hS11 => ?_)
                    have hB11 : MW D cy ad (up2 σ10 11 q0 zd) ν H11 := hB10.sst hJ 11 Nat.zero_lt_one (by decide) (by decide) (by decide) (cl_nI (by omega)) hc11 hu11
                    obtain ⟨σ11, hs11⟩ : ∃ z : IT, z = up2 σ10 11 q0 zd := ⟨_, rfl⟩
                    rw [← hs11] at hB11
                    refine lv_aload_n hx hb dX4_visit_240 rfl (lv_at hl 2 rfl) ?_
                    refine g_get (C := RX4) (T := TX4) (N := 26) (ci := 4) (fs := [.int (σ11 30 0), .int (σ11 0 0), .int (nI (ν 1 0)), .ref (ad 6 0), .ref (ad 7 0), .ref (ad 8 0), .ref (ad 9 0), .int (σ11 1 0), .int (σ11 2 0), .int (σ11 3 0), .int (σ11 31 0), .int (σ11 32 0), .int (nI (ν 0 0)), .ref (ad 18 0), .ref (ad 17 0), .ref (ad 16 0), .ref (ad 10 0), .ref (ad 11 0), .ref (ad 12 0), .ref (ad 13 0), .ref (ad 14 0), .ref (ad 15 0), .int (nI (ν 6 0)), .ref (ad 34 0), .ref (ad 35 0), .ref (ad 36 0)]) hx hb hts inX4 hown hK (hB11 0 0 Nat.zero_lt_one) rfl 20 (by decide) lk53 rfl rfl dX4_visit_241 ?_
                    refine lv_iload_n hx hb dX4_visit_244 rfl (lv_at hl 3 rfl) ?_
                    refine lv_topi (fun y13 ey13 => ?_)
                    obtain rfl : y13 = nI q0 := ey13.trans (eh)
                    refine lv_iload_n hx hb dX4_visit_245 rfl (lv_at hl 4 rfl) ?_
                    refine lv_iconst (v := 3) hx hb dX4_visit_246 (by decide) ?_
                    have k_255 : ∀ zg : Int32, zg = (if o = 3 then 1 else 0) → W p l e (headSpec wsX4_visit ({ frames := 2, cells := 0, slots := 0, locals := 60 } : Room)).room s m ([.ref (ad 0 0), .int p0, .int o] : List Value).toArray below meth c H11 locs11 0 0 (MQ below (uQ (some (.int (oVisit σ ν p0 o).1)) (MW D cy ad (oVisit σ ν p0 o).2 ν) (wA cM ad s.heap.size)) ([.ref (ad 0 0), .int p0, .int o] : List Value).toArray s 0 0 (wA cM ad s.heap.size)) (F0 m 255 ls [.int zg, .int (nI q0), .ref (ad 14 0)]) := by
                      intro zg ezg
                      refine g_zast (f := σ11 14) (A := (wA cM ad s.heap.size)) hx hb hK (hB11 14 0 Nat.zero_lt_one) hS11 (wA.in (k := 14) (i := 0) Nat.zero_lt_one) (vp_in_nI (N := 30) q30 (by decide)) (by rw [ezg]; split <;> rfl) dX4_visit_255 (fun H12 locs12 hc12 hu12 hS12 => ?_)
                      have hB12 : MW D cy ad (up2 σ11 14 q0 zg) ν H12 := hB11.sst hJ 14 Nat.zero_lt_one (by decide) (by decide) (by decide) (cl_nI (by omega)) hc12 hu12
                      obtain ⟨σ12, hs12⟩ : ∃ z : IT, z = up2 σ11 14 q0 zg := ⟨_, rfl⟩
                      rw [← hs12] at hB12
                      have hv3 : σ12 = vis3 σ (ν 5 q0) q0 o := by rw [hs12, hs11, ezg, ezd, hvv]; rfl
                      have hf8 : σ12 8 (ν 5 q0) = failF σ (ν 5 q0) o := by rw [hv3]; exact vis3_8
                      refine lv_aload_n hx hb dX4_visit_256 rfl (lv_at hl 2 rfl) ?_
                      refine g_get (C := RX4) (T := TX4) (N := 26) (ci := 4) (fs := [.int (σ12 30 0), .int (σ12 0 0), .int (nI (ν 1 0)), .ref (ad 6 0), .ref (ad 7 0), .ref (ad 8 0), .ref (ad 9 0), .int (σ12 1 0), .int (σ12 2 0), .int (σ12 3 0), .int (σ12 31 0), .int (σ12 32 0), .int (nI (ν 0 0)), .ref (ad 18 0), .ref (ad 17 0), .ref (ad 16 0), .ref (ad 10 0), .ref (ad 11 0), .ref (ad 12 0), .ref (ad 13 0), .ref (ad 14 0), .ref (ad 15 0), .int (nI (ν 6 0)), .ref (ad 34 0), .ref (ad 35 0), .ref (ad 36 0)]) hx hb hts inX4 hown hK (hB12 0 0 Nat.zero_lt_one) rfl 5 (by decide) lk16 rfl rfl dX4_visit_257 ?_
                      refine lv_iload_n hx hb dX4_visit_260 rfl (lv_at hl 1 rfl) ?_
                      refine g_iald (f := σ12 8) (x := σ12 8 (ν 5 q0)) hx hb hK (hB12 8 0 Nat.zero_lt_one) (vp_in_nI (N := 6) (by omega) (by decide)) (by rw [cl_nI (by omega)]) dX4_visit_261 ?_
                      refine lv_iconst (v := 5) hx hb dX4_visit_262 (by decide) ?_
                      have k_276 : ∀ zq : Int32, zq = powF (failF σ (ν 5 q0) o) → W p l e (headSpec wsX4_visit ({ frames := 2, cells := 0, slots := 0, locals := 60 } : Room)).room s m ([.ref (ad 0 0), .int p0, .int o] : List Value).toArray below meth c H12 locs12 0 0 (MQ below (uQ (some (.int (oVisit σ ν p0 o).1)) (MW D cy ad (oVisit σ ν p0 o).2 ν) (wA cM ad s.heap.size)) ([.ref (ad 0 0), .int p0, .int o] : List Value).toArray s 0 0 (wA cM ad s.heap.size)) (F0 m 276 ls [.int zq]) := by
                        intro zq ezq
                        refine lv_istore (lv' := [(4, .int zq), (3, .int (nI (ν 5 q0))), (0, .ref (ad 0 0)), (1, .int p0), (2, .int o)]) hx hb dX4_visit_276 hl (by decide) rfl (fun ls hl => ?_)
                        refine lv_aload_n hx hb dX4_visit_278 rfl (lv_at hl 2 rfl) ?_
                        refine g_get (C := RX4) (T := TX4) (N := 26) (ci := 4) (fs := [.int (σ12 30 0), .int (σ12 0 0), .int (nI (ν 1 0)), .ref (ad 6 0), .ref (ad 7 0), .ref (ad 8 0), .ref (ad 9 0), .int (σ12 1 0), .int (σ12 2 0), .int (σ12 3 0), .int (σ12 31 0), .int (σ12 32 0), .int (nI (ν 0 0)), .ref (ad 18 0), .ref (ad 17 0), .ref (ad 16 0), .ref (ad 10 0), .ref (ad 11 0), .ref (ad 12 0), .ref (ad 13 0), .ref (ad 14 0), .ref (ad 15 0), .int (nI (ν 6 0)), .ref (ad 34 0), .ref (ad 35 0), .ref (ad 36 0)]) hx hb hts inX4 hown hK (hB12 0 0 Nat.zero_lt_one) rfl 6 (by decide) lk19 rfl rfl dX4_visit_279 ?_
                        refine lv_iload_n hx hb dX4_visit_282 rfl (lv_at hl 1 rfl) ?_
                        refine lv_aload_n hx hb dX4_visit_283 rfl (lv_at hl 2 rfl) ?_
                        refine g_get (C := RX4) (T := TX4) (N := 26) (ci := 4) (fs := [.int (σ12 30 0), .int (σ12 0 0), .int (nI (ν 1 0)), .ref (ad 6 0), .ref (ad 7 0), .ref (ad 8 0), .ref (ad 9 0), .int (σ12 1 0), .int (σ12 2 0), .int (σ12 3 0), .int (σ12 31 0), .int (σ12 32 0), .int (nI (ν 0 0)), .ref (ad 18 0), .ref (ad 17 0), .ref (ad 16 0), .ref (ad 10 0), .ref (ad 11 0), .ref (ad 12 0), .ref (ad 13 0), .ref (ad 14 0), .ref (ad 15 0), .int (nI (ν 6 0)), .ref (ad 34 0), .ref (ad 35 0), .ref (ad 36 0)]) hx hb hts inX4 hown hK (hB12 0 0 Nat.zero_lt_one) rfl 1 (by decide) lk110 rfl rfl dX4_visit_284 ?_
                        refine lv_aload_n hx hb dX4_visit_287 rfl (lv_at hl 2 rfl) ?_
                        refine g_get (C := RX4) (T := TX4) (N := 26) (ci := 4) (fs := [.int (σ12 30 0), .int (σ12 0 0), .int (nI (ν 1 0)), .ref (ad 6 0), .ref (ad 7 0), .ref (ad 8 0), .ref (ad 9 0), .int (σ12 1 0), .int (σ12 2 0), .int (σ12 3 0), .int (σ12 31 0), .int (σ12 32 0), .int (nI (ν 0 0)), .ref (ad 18 0), .ref (ad 17 0), .ref (ad 16 0), .ref (ad 10 0), .ref (ad 11 0), .ref (ad 12 0), .ref (ad 13 0), .ref (ad 14 0), .ref (ad 15 0), .int (nI (ν 6 0)), .ref (ad 34 0), .ref (ad 35 0), .ref (ad 36 0)]) hx hb hts inX4 hown hK (hB12 0 0 Nat.zero_lt_one) rfl 4 (by decide) lk13 rfl rfl dX4_visit_288 ?_
                        refine lv_iload_n hx hb dX4_visit_291 rfl (lv_at hl 1 rfl) ?_
                        refine g_iald (f := σ12 7) (x := σ12 7 (ν 5 q0)) hx hb hK (hB12 7 0 Nat.zero_lt_one) (vp_in_nI (N := 6) (by omega) (by decide)) (by rw [cl_nI (by omega)]) dX4_visit_292 ?_
                        refine lv_iload hx hb dX4_visit_293 (lv_at hl 0 rfl) ?_
                        refine lv_ishl hx hb dX4_visit_295 ?_
                        refine lv_iadd hx hb dX4_visit_296 ?_
                        refine g_iast (f := σ12 9) (A := (wA cM ad s.heap.size)) hx hb hK (hB12 9 0 Nat.zero_lt_one) hS12 (wA.in (k := 9) (i := 0) Nat.zero_lt_one) (vp_in_nI (N := 6) hh6 (by decide)) dX4_visit_297 (fun H13 locs13 hc13 hu13 hS13 => ?_)
                        have hB13 : MW D cy ad (up2 σ12 9 (ν 5 q0) ((σ12 0 0) + ((σ12 7 (ν 5 q0)) <<< (zq &&& 31)))) ν H13 := hB12.sst hJ 9 Nat.zero_lt_one (by decide) (by decide) (by decide) (cl_nI (by omega)) hc13 hu13
                        obtain ⟨σ13, hs13⟩ : ∃ z : IT, z = up2 σ12 9 (ν 5 q0) ((σ12 0 0) + ((σ12 7 (ν 5 q0)) <<< (zq &&& 31))) := ⟨_, rfl⟩
                        rw [← hs13] at hB13
                        have hfin : σ13 = vis4 σ (ν 5 q0) q0 o := by rw [hs13, hv3, ezq, vis3_0, vis3_7]; rfl
                        refine lv_aload_n hx hb dX4_visit_298 rfl (lv_at hl 2 rfl) ?_
                        refine g_get (C := RX4) (T := TX4) (N := 26) (ci := 4) (fs := [.int (σ13 30 0), .int (σ13 0 0), .int (nI (ν 1 0)), .ref (ad 6 0), .ref (ad 7 0), .ref (ad 8 0), .ref (ad 9 0), .int (σ13 1 0), .int (σ13 2 0), .int (σ13 3 0), .int (σ13 31 0), .int (σ13 32 0), .int (nI (ν 0 0)), .ref (ad 18 0), .ref (ad 17 0), .ref (ad 16 0), .ref (ad 10 0), .ref (ad 11 0), .ref (ad 12 0), .ref (ad 13 0), .ref (ad 14 0), .ref (ad 15 0), .int (nI (ν 6 0)), .ref (ad 34 0), .ref (ad 35 0), .ref (ad 36 0)]) hx hb hts inX4 hown hK (hB13 0 0 Nat.zero_lt_one) rfl 6 (by decide) lk19 rfl rfl dX4_visit_299 ?_
                        refine lv_iload_n hx hb dX4_visit_302 rfl (lv_at hl 1 rfl) ?_
                        refine g_iald (f := σ13 9) (x := σ13 9 (ν 5 q0)) hx hb hK (hB13 9 0 Nat.zero_lt_one) (vp_in_nI (N := 6) (by omega) (by decide)) (by rw [cl_nI (by omega)]) dX4_visit_303 ?_
                        exact g_iretU hx hb hr hlocks hS13 (by rw [oVisit, hcd1, hcd2, ec, hcd3]; rw [hfin] at hB13; exact hB13) (Nat.le_refl _) (Nat.le_refl _) dX4_visit_304 (by rw [oVisit, hcd1, hcd2, ec, hcd3]; rw [hfin, vis4, up2_s])
                      refine lv_icmp_ge (tgt := 275) hx hb dX4_visit_263 (by decide) (fun c_263 => ?_) (fun c_263 => ?_)
                      · -- 263 t
                        refine lv_iconst (v := 5) hx hb dX4_visit_275 (by decide) ?_
                        exact k_276 _ (by rw [hf8] at c_263; rw [powF, if_pos c_263])
                      · -- 263 f
                        refine lv_aload_n hx hb dX4_visit_266 rfl (lv_at hl 2 rfl) ?_
                        refine g_get (C := RX4) (T := TX4) (N := 26) (ci := 4) (fs := [.int (σ12 30 0), .int (σ12 0 0), .int (nI (ν 1 0)), .ref (ad 6 0), .ref (ad 7 0), .ref (ad 8 0), .ref (ad 9 0), .int (σ12 1 0), .int (σ12 2 0), .int (σ12 3 0), .int (σ12 31 0), .int (σ12 32 0), .int (nI (ν 0 0)), .ref (ad 18 0), .ref (ad 17 0), .ref (ad 16 0), .ref (ad 10 0), .ref (ad 11 0), .ref (ad 12 0), .ref (ad 13 0), .ref (ad 14 0), .ref (ad 15 0), .int (nI (ν 6 0)), .ref (ad 34 0), .ref (ad 35 0), .ref (ad 36 0)]) hx hb hts inX4 hown hK (hB12 0 0 Nat.zero_lt_one) rfl 5 (by decide) lk16 rfl rfl dX4_visit_267 ?_
                        refine lv_iload_n hx hb dX4_visit_270 rfl (lv_at hl 1 rfl) ?_
                        refine g_iald (f := σ12 8) (x := σ12 8 (ν 5 q0)) hx hb hK (hB12 8 0 Nat.zero_lt_one) (vp_in_nI (N := 6) (by omega) (by decide)) (by rw [cl_nI (by omega)]) dX4_visit_271 ?_
                        refine lv_goto (tgt := 276) hx hb dX4_visit_272 (by decide) ?_
                        exact k_276 _ (by rw [hf8] at c_263; rw [powF, if_neg c_263, hf8])
                    refine lv_icmp_ne (tgt := 254) hx hb dX4_visit_247 (by decide) (fun c_247 => ?_) (fun c_247 => ?_)
                    · -- 247 t
                      refine lv_iconst (v := 0) hx hb dX4_visit_254 (by decide) ?_
                      exact k_255 _ (by rw [if_neg c_247])
                    · -- 247 f
                      refine lv_iconst (v := 1) hx hb dX4_visit_250 (by decide) ?_
                      refine lv_goto (tgt := 255) hx hb dX4_visit_251 (by decide) ?_
                      exact k_255 _ (by rw [if_pos c_247])
                  refine lv_icmp_ne (tgt := 233) hx hb dX4_visit_218 (by decide) (fun c_218 => ?_) (fun c_218 => ?_)
                  · -- 218 t
                    refine lv_aload_n hx hb dX4_visit_233 rfl (lv_at hl 2 rfl) ?_
                    refine g_get (C := RX4) (T := TX4) (N := 26) (ci := 4) (fs := [.int (σ10 30 0), .int (σ10 0 0), .int (nI (ν 1 0)), .ref (ad 6 0), .ref (ad 7 0), .ref (ad 8 0), .ref (ad 9 0), .int (σ10 1 0), .int (σ10 2 0), .int (σ10 3 0), .int (σ10 31 0), .int (σ10 32 0), .int (nI (ν 0 0)), .ref (ad 18 0), .ref (ad 17 0), .ref (ad 16 0), .ref (ad 10 0), .ref (ad 11 0), .ref (ad 12 0), .ref (ad 13 0), .ref (ad 14 0), .ref (ad 15 0), .int (nI (ν 6 0)), .ref (ad 34 0), .ref (ad 35 0), .ref (ad 36 0)]) hx hb hts inX4 hown hK (hB10 0 0 Nat.zero_lt_one) rfl 17 (by decide) lk44 rfl rfl dX4_visit_234 ?_
                    refine lv_iload_n hx hb dX4_visit_237 rfl (lv_at hl 3 rfl) ?_
                    refine lv_topi (fun y14 ey14 => ?_)
                    obtain rfl : y14 = nI q0 := ey14.trans (eh)
                    refine g_iald (f := σ10 11) (x := σ10 11 q0) hx hb hK (hB10 11 0 Nat.zero_lt_one) (vp_in_nI (N := 30) (by omega) (by decide)) (by rw [cl_nI (by omega)]) dX4_visit_238 ?_
                    exact k_239 _ (by rw [if_neg c_218])
                  · -- 218 f
                    refine lv_aload_n hx hb dX4_visit_221 rfl (lv_at hl 2 rfl) ?_
                    refine g_get (C := RX4) (T := TX4) (N := 26) (ci := 4) (fs := [.int (σ10 30 0), .int (σ10 0 0), .int (nI (ν 1 0)), .ref (ad 6 0), .ref (ad 7 0), .ref (ad 8 0), .ref (ad 9 0), .int (σ10 1 0), .int (σ10 2 0), .int (σ10 3 0), .int (σ10 31 0), .int (σ10 32 0), .int (nI (ν 0 0)), .ref (ad 18 0), .ref (ad 17 0), .ref (ad 16 0), .ref (ad 10 0), .ref (ad 11 0), .ref (ad 12 0), .ref (ad 13 0), .ref (ad 14 0), .ref (ad 15 0), .int (nI (ν 6 0)), .ref (ad 34 0), .ref (ad 35 0), .ref (ad 36 0)]) hx hb hts inX4 hown hK (hB10 0 0 Nat.zero_lt_one) rfl 1 (by decide) lk110 rfl rfl dX4_visit_222 ?_
                    refine lv_aload_n hx hb dX4_visit_225 rfl (lv_at hl 2 rfl) ?_
                    refine g_get (C := RX4) (T := TX4) (N := 26) (ci := 4) (fs := [.int (σ10 30 0), .int (σ10 0 0), .int (nI (ν 1 0)), .ref (ad 6 0), .ref (ad 7 0), .ref (ad 8 0), .ref (ad 9 0), .int (σ10 1 0), .int (σ10 2 0), .int (σ10 3 0), .int (σ10 31 0), .int (σ10 32 0), .int (nI (ν 0 0)), .ref (ad 18 0), .ref (ad 17 0), .ref (ad 16 0), .ref (ad 10 0), .ref (ad 11 0), .ref (ad 12 0), .ref (ad 13 0), .ref (ad 14 0), .ref (ad 15 0), .int (nI (ν 6 0)), .ref (ad 34 0), .ref (ad 35 0), .ref (ad 36 0)]) hx hb hts inX4 hown hK (hB10 0 0 Nat.zero_lt_one) rfl 7 (by decide) lk22 rfl rfl dX4_visit_226 ?_
                    refine lv_iadd hx hb dX4_visit_229 ?_
                    refine lv_goto (tgt := 239) hx hb dX4_visit_230 (by decide) ?_
                    exact k_239 _ (by rw [if_pos c_218, hvv, vis2_0, vis2_1])
                refine lv_icmp_ge (tgt := 205) hx hb dX4_visit_197 (by decide) (fun c_197 => ?_) (fun c_197 => ?_)
                · -- 197 t
                  refine lv_aload_n hx hb dX4_visit_205 rfl (lv_at hl 2 rfl) ?_
                  refine g_get (C := RX4) (T := TX4) (N := 26) (ci := 4) (fs := [.int (σ9 30 0), .int (σ9 0 0), .int (nI (ν 1 0)), .ref (ad 6 0), .ref (ad 7 0), .ref (ad 8 0), .ref (ad 9 0), .int (σ9 1 0), .int (σ9 2 0), .int (σ9 3 0), .int (σ9 31 0), .int (σ9 32 0), .int (nI (ν 0 0)), .ref (ad 18 0), .ref (ad 17 0), .ref (ad 16 0), .ref (ad 10 0), .ref (ad 11 0), .ref (ad 12 0), .ref (ad 13 0), .ref (ad 14 0), .ref (ad 15 0), .int (nI (ν 6 0)), .ref (ad 34 0), .ref (ad 35 0), .ref (ad 36 0)]) hx hb hts inX4 hown hK (hB9 0 0 Nat.zero_lt_one) rfl 8 (by decide) lk26 rfl rfl dX4_visit_206 ?_
                  exact k_209 _ (by rw [hl2] at c_197; rw [capF, if_pos (by rw [← hp4]; exact c_197), hl2])
                · -- 197 f
                  refine lv_iload hx hb dX4_visit_200 (lv_at hl 0 rfl) ?_
                  refine lv_goto (tgt := 209) hx hb dX4_visit_202 (by decide) ?_
                  exact k_209 _ (by rw [hl2] at c_197; rw [capF, if_neg (by rw [← hp4]; exact c_197)]; exact hp4)
              refine lv_icmp_ne (tgt := 148) hx hb dX4_visit_141 (by decide) (fun c_141 => ?_) (fun c_141 => ?_)
              · -- 141 t
                refine lv_iconst (v := 0) hx hb dX4_visit_148 (by decide) ?_
                exact k_149 _ (by rw [if_neg c_141])
              · -- 141 f
                refine lv_iconst (v := 1) hx hb dX4_visit_144 (by decide) ?_
                refine lv_goto (tgt := 149) hx hb dX4_visit_145 (by decide) ?_
                exact k_149 _ (by rw [if_pos c_141])
          refine lv_icmp_ne (tgt := 115) hx hb dX4_visit_101 (by decide) (fun c_101 => ?_) (fun c_101 => ?_)
          · -- 101 t
            refine lv_iconst (v := 0) hx hb dX4_visit_115 (by decide) ?_
            exact k_116 _ (by rw [failF, if_neg c_101])
          · -- 101 f
            refine lv_aload_n hx hb dX4_visit_104 rfl (lv_at hl 1 rfl) ?_
            refine g_get (C := RX4) (T := TX4) (N := 26) (ci := 4) (fs := [.int (σ3 30 0), .int (σ3 0 0), .int (nI (ν 1 0)), .ref (ad 6 0), .ref (ad 7 0), .ref (ad 8 0), .ref (ad 9 0), .int (σ3 1 0), .int (σ3 2 0), .int (σ3 3 0), .int (σ3 31 0), .int (σ3 32 0), .int (nI (ν 0 0)), .ref (ad 18 0), .ref (ad 17 0), .ref (ad 16 0), .ref (ad 10 0), .ref (ad 11 0), .ref (ad 12 0), .ref (ad 13 0), .ref (ad 14 0), .ref (ad 15 0), .int (nI (ν 6 0)), .ref (ad 34 0), .ref (ad 35 0), .ref (ad 36 0)]) hx hb hts inX4 hown hK (hB3 0 0 Nat.zero_lt_one) rfl 5 (by decide) lk16 rfl rfl dX4_visit_105 ?_
            refine lv_iload_n hx hb dX4_visit_108 rfl (lv_at hl 0 rfl) ?_
            refine g_iald (f := σ3 8) (x := σ3 8 (ν 5 q0)) hx hb hK (hB3 8 0 Nat.zero_lt_one) (vp_in_nI (N := 6) (by omega) (by decide)) (by rw [cl_nI (by omega)]) dX4_visit_109 ?_
            refine lv_iconst (v := 1) hx hb dX4_visit_110 (by decide) ?_
            refine lv_iadd hx hb dX4_visit_111 ?_
            refine lv_goto (tgt := 116) hx hb dX4_visit_112 (by decide) ?_
            exact k_116 _ (by rw [failF, if_pos c_101, hv0]; rfl)
        refine lv_icmp_ne (tgt := 72) hx hb dX4_visit_60 (by decide) (fun c_60 => ?_) (fun c_60 => ?_)
        · -- 60 t
          refine lv_iconst (v := 1) hx hb dX4_visit_72 (by decide) ?_
          exact k_73 _ (by rw [usedF, if_neg (fun z => c_60 (by rw [hs1]; exact z))])
        · -- 60 f
          refine lv_aload_n hx hb dX4_visit_63 rfl (lv_at hl 0 rfl) ?_
          refine g_get (C := RX4) (T := TX4) (N := 26) (ci := 4) (fs := [.int (σ1 30 0), .int (σ1 0 0), .int (nI (ν 1 0)), .ref (ad 6 0), .ref (ad 7 0), .ref (ad 8 0), .ref (ad 9 0), .int (σ1 1 0), .int (σ1 2 0), .int (σ1 3 0), .int (σ1 31 0), .int (σ1 32 0), .int (nI (ν 0 0)), .ref (ad 18 0), .ref (ad 17 0), .ref (ad 16 0), .ref (ad 10 0), .ref (ad 11 0), .ref (ad 12 0), .ref (ad 13 0), .ref (ad 14 0), .ref (ad 15 0), .int (nI (ν 6 0)), .ref (ad 34 0), .ref (ad 35 0), .ref (ad 36 0)]) hx hb hts inX4 hown hK (hB1 0 0 Nat.zero_lt_one) rfl 11 (by decide) lk122 rfl rfl dX4_visit_64 ?_
          refine lv_iconst (v := 1) hx hb dX4_visit_67 (by decide) ?_
          refine lv_iadd hx hb dX4_visit_68 ?_
          refine lv_goto (tgt := 73) hx hb dX4_visit_69 (by decide) ?_
          exact k_73 _ (by rw [usedF, if_pos (by rw [hs1] at c_60; exact c_60), hs1]; rfl)
      · -- 39 f
        refine lv_aload_n hx hb dX4_visit_42 rfl (lv_at hl 0 rfl) ?_
        refine lv_iconst (v := 3) hx hb dX4_visit_43 (by decide) ?_
        refine g_cu1 (va_runV (As := [.int 3]) (rest := []) ⟨hx, hb, hml, hown, hts⟩ (m_X4_fails l D cy H1.size ad σ1 ν hJ (3)) (cwV 1 hts gX4_visit_X4_fails rfl rfl rfl (by decide +kernel) ⟨Nat.le_of_ble_eq_true rfl, Nat.le_of_ble_eq_true rfl⟩) (g_preV (C := RX4) (B := atSz H1.size (MW D cy ad σ1 ν)) hK ⟨rfl, hB1⟩ (hB1 0 0 Nat.zero_lt_one) rfl) rfl rfl hl.1 rfl (lv_room (Nat.le_of_ble_eq_true rfl)) dX4_visit_44 ⟨Nat.zero_le _, Nat.zero_le _⟩) hS1 (fun q _ h => wA.mono hS1.1 h) (fun q h => wA.mono hS1.1 h) (fun H14 locs14 hB14 hz14 hk14 hS14 => ?_)
        obtain ⟨σ14, hs14⟩ : ∃ z : IT, z = up2 σ1 30 0 3 := ⟨_, rfl⟩
        rw [← hs14] at hB14
        exact g_iretU hx hb hr hlocks hS14 (by rw [oVisit, if_pos (zb_n0.mp c_10), if_pos (zb_n0.mp c_25), ec, if_neg (by rw [hs1] at c_39; exact (fun q => by rw [zb_0.mp (show zb (openB σ ν q0) = 0 from c_39)] at q; cases q))]; rw [hs14, hs1] at hB14; exact hB14) (Nat.le_refl _) (Nat.le_refl _) dX4_visit_47 (by rw [oVisit, if_pos (zb_n0.mp c_10), if_pos (zb_n0.mp c_25), ec, if_neg (by rw [hs1] at c_39; exact (fun q => by rw [zb_0.mp (show zb (openB σ ν q0) = 0 from c_39)] at q; cases q))])
    · -- 25 f
      refine lv_aload_n hx hb dX4_visit_28 rfl (lv_at hl 0 rfl) ?_
      refine lv_iconst (v := 2) hx hb dX4_visit_29 (by decide) ?_
      refine g_cu1 (va_runV (As := [.int 2]) (rest := []) ⟨hx, hb, hml, hown, hts⟩ (m_X4_fails l D cy H1.size ad σ1 ν hJ (2)) (cwV 1 hts gX4_visit_X4_fails rfl rfl rfl (by decide +kernel) ⟨Nat.le_of_ble_eq_true rfl, Nat.le_of_ble_eq_true rfl⟩) (g_preV (C := RX4) (B := atSz H1.size (MW D cy ad σ1 ν)) hK ⟨rfl, hB1⟩ (hB1 0 0 Nat.zero_lt_one) rfl) rfl rfl hl.1 rfl (lv_room (Nat.le_of_ble_eq_true rfl)) dX4_visit_30 ⟨Nat.zero_le _, Nat.zero_le _⟩) hS1 (fun q _ h => wA.mono hS1.1 h) (fun q h => wA.mono hS1.1 h) (fun H15 locs15 hB15 hz15 hk15 hS15 => ?_)
      obtain ⟨σ15, hs15⟩ : ∃ z : IT, z = up2 σ1 30 0 2 := ⟨_, rfl⟩
      rw [← hs15] at hB15
      exact g_iretU hx hb hr hlocks hS15 (by rw [oVisit, if_pos (zb_n0.mp c_10), if_neg (fun q => by rw [zb_0.mp c_25] at q; cases q)]; rw [hs15, hs1] at hB15; exact hB15) (Nat.le_refl _) (Nat.le_refl _) dX4_visit_33 (by rw [oVisit, if_pos (zb_n0.mp c_10), if_neg (fun q => by rw [zb_0.mp c_25] at q; cases q)])
  · -- 10 f
    refine lv_aload_n hx hb dX4_visit_13 rfl (lv_at hl 0 rfl) ?_
    refine lv_iconst (v := 1) hx hb dX4_visit_14 (by decide) ?_
    refine g_cu1 (va_runV (As := [.int 1]) (rest := []) ⟨hx, hb, hml, hown, hts⟩ (m_X4_fails l D cy H1.size ad σ1 ν hJ (1)) (cwV 1 hts gX4_visit_X4_fails rfl rfl rfl (by decide +kernel) ⟨Nat.le_of_ble_eq_true rfl, Nat.le_of_ble_eq_true rfl⟩) (g_preV (C := RX4) (B := atSz H1.size (MW D cy ad σ1 ν)) hK ⟨rfl, hB1⟩ (hB1 0 0 Nat.zero_lt_one) rfl) rfl rfl hl.1 rfl (lv_room (Nat.le_of_ble_eq_true rfl)) dX4_visit_15 ⟨Nat.zero_le _, Nat.zero_le _⟩) hS1 (fun q _ h => wA.mono hS1.1 h) (fun q h => wA.mono hS1.1 h) (fun H16 locs16 hB16 hz16 hk16 hS16 => ?_)
    obtain ⟨σ16, hs16⟩ : ∃ z : IT, z = up2 σ1 30 0 1 := ⟨_, rfl⟩
    rw [← hs16] at hB16
    exact g_iretU hx hb hr hlocks hS16 (by rw [oVisit, if_neg (fun q => by rw [zb_0.mp c_10] at q; cases q)]; rw [hs16, hs1] at hB16; exact hB16) (Nat.le_refl _) (Nat.le_refl _) dX4_visit_18 (by rw [oVisit, if_neg (fun q => by rw [zb_0.mp c_10] at q; cases q)])


def rstL (σ : IT) : Nat → IT
  | 0 => σ
  | n + 1 => up2 (rstL σ n) 36 n 0
def bsC (σ : IT) (p : Nat) : Option Nat → Bool
  | none => true
  | some j => addsB σ p j
def bsL (σ : IT) (ν : NT) : Nat → Nat → Option Nat → Option Nat
  | 0, _, f => f
  | k + 1, p, f => bsL σ ν k (p + 1) (if keptB (σ 14 p) (σ 15 p) = true ∧ bsC σ p f = true then some p else f)
def incS (σ : IT) : Option Nat → IT
  | none => σ
  | some j => up2 σ 36 j (σ 36 j + 1)
def shrL (σ : IT) (ν : NT) : Nat → IT
  | 0 => σ
  | n + 1 => incS (shrL σ ν n) (bsL (shrL σ ν n) ν (ν 0 0) 0 none)
def oShare (σ : IT) (ν : NT) (p c : Int32) : Int32 × IT := if pageB ν p = true then (if inB c 0 100 = true then (shrL (rstL (T0 σ) (ν 0 0)) ν c.toNatClampNeg 36 p.toNatClampNeg, shrL (rstL (T0 σ) (ν 0 0)) ν c.toNatClampNeg) else (0, T1 σ 2)) else (0, T1 σ 1)
theorem idx_cnt {c : Int32} (h : inB c 0 100 = true) : ∃ q, q ≤ 100 ∧ c = nI q := by
  simp only [inB, Bool.and_eq_true, Bool.not_eq_true', decide_eq_false_iff_not] at h
  obtain ⟨j, hj, rfl⟩ := nI_of h.1
  refine ⟨j, ?_, rfl⟩
  have h3 : ¬ nI 100 < nI j := h.2
  rw [nI_ltI (by decide) hj] at h3
  omega

set_option maxHeartbeats 4000000 in
set_option maxRecDepth 100000 in
/-- model: share -/
theorem m_X4_share (l : Launch) (D : va_G) (cy : Nat → ClassId) (sz : Nat) (ad : NT) (σ : IT) (ν : NT) (hJ : wJ cM ad) (hI : MI σ ν) (p0 cnt : Int32) : Met l yX4_share wsX4_share ({ frames := 2, cells := 0, slots := 0, locals := 60 } : Room) (va_Pc [.ref (ad 0 0), .int p0, .int cnt] (fun U => gK D cy U ∧ (atSz sz (MW D cy ad σ ν)) U.heap)) (uQ (some (.int (oShare σ ν p0 cnt).1)) (MW D cy ad (oShare σ ν p0 cnt).2 ν) (wA cM ad sz)) 0 0 (wA cM ad sz) := by
  refine Met.ofW (cc := cX4_share) (maxL := 6) (ret := (some .int)) (by decide) rfl ?_
  intro p e s m args below meth c s₁ B9 hml hv
  obtain ⟨rfl, hK, hsz, hB⟩ := hv
  have hx := B9.exec
  have hb := B9.bytes
  have hr := B9.returns
  have hts := atoms_spec (ws := wsX4_share) B9.pre
  have hown : s.vm.findClass RX4 = some m.cls := findClass_of_methodNamed B9.named
  have hlocks := B9.notSynchronized
  subst hsz
  have hS : va_S (wA cM ad s.heap.size) s.heap s.heap [] := va_S.rf
  have lk69 := hts (.fieldLink RX4 69 "PolitecrawlModel" "thrown" "I") (by decide +kernel)
  have inX4 : ∀ w ∈ u_ws RX4 TX4 26, w ∈ wsX4_share := by decide +kernel
  have lk76 := hts (.fieldLink RX4 76 "PolitecrawlModel" "pages" "I") (by decide +kernel)
  have lk66 := hts (.fieldLink RX4 66 "PolitecrawlModel" "shares" "[I") (by decide +kernel)
  have hl := lv_entry ([.ref (ad 0 0), .int p0, .int cnt]) (n := 6) (Nat.le_of_ble_eq_true rfl)
  rw [lg_entry_eq]
  generalize (lg_sl ([.ref (ad 0 0), .int p0, .int cnt]) ++ List.replicate (6 - (lg_sl ([.ref (ad 0 0), .int p0, .int cnt])).length) Slot.unset).toArray = ls at hl ⊢
  have hl : lv_has ls 6 [(0, .ref (ad 0 0)), (1, .int p0), (2, .int cnt)] := hl
  have hn30 := hI.1
  refine lv_aload_n hx hb dX4_share_0 rfl (lv_at hl 0 rfl) ?_
  refine lv_iconst (v := 0) hx hb dX4_share_1 (by decide) ?_
  refine g_put (C := RX4) (T := TX4) (N := 26) (ci := 4) (fs := [.int (σ 30 0), .int (σ 0 0), .int (nI (ν 1 0)), .ref (ad 6 0), .ref (ad 7 0), .ref (ad 8 0), .ref (ad 9 0), .int (σ 1 0), .int (σ 2 0), .int (σ 3 0), .int (σ 31 0), .int (σ 32 0), .int (nI (ν 0 0)), .ref (ad 18 0), .ref (ad 17 0), .ref (ad 16 0), .ref (ad 10 0), .ref (ad 11 0), .ref (ad 12 0), .ref (ad 13 0), .ref (ad 14 0), .ref (ad 15 0), .int (nI (ν 6 0)), .ref (ad 34 0), .ref (ad 35 0), .ref (ad 36 0)]) (A := (wA cM ad s.heap.size)) hx hb hts inX4 tyX4 tyX4_ok nmX4 hown hK (hB 0 0 Nat.zero_lt_one) rfl hS (wA.in (k := 0) (i := 0) Nat.zero_lt_one) 0 (by decide) lk69 rfl rfl rfl rfl (Nat.le_of_ble_eq_true rfl) dX4_share_2 (fun H1 locs1 hc1 hu1 hS1 => ?_)
  have hB1 : MW D cy ad (up2 σ 30 0 0) ν H1 := hB.sc hJ (by decide) hc1 hu1
  obtain ⟨σ1, hs1⟩ : ∃ z : IT, z = up2 σ 30 0 0 := ⟨_, rfl⟩
  rw [← hs1] at hB1
  refine lv_aload_n hx hb dX4_share_5 rfl (lv_at hl 0 rfl) ?_
  refine lv_iload_n hx hb dX4_share_6 rfl (lv_at hl 1 rfl) ?_
  refine g_csr (va_runV (As := [.int p0]) (rest := []) ⟨hx, hb, hml, hown, hts⟩ (m_X4_isPage l D cy ad σ1 ν (p0)) (cwV 1 hts gX4_share_X4_isPage rfl rfl rfl (by decide +kernel) ⟨Nat.le_of_ble_eq_true rfl, Nat.le_of_ble_eq_true rfl⟩) (g_preV (C := RX4) (B := (MW D cy ad σ1 ν)) hK hB1 (hB1 0 0 Nat.zero_lt_one) rfl) rfl rfl hl.1 rfl (lv_room (Nat.le_of_ble_eq_true rfl)) dX4_share_7 ⟨Nat.zero_le _, Nat.zero_le _⟩) ?_
  refine lv_if_ne (tgt := 19) hx hb dX4_share_10 (by decide) (fun c_10 => ?_) (fun c_10 => ?_)
  · -- 10 t
    refine lv_iload_n hx hb dX4_share_19 rfl (lv_at hl 2 rfl) ?_
    refine lv_iconst (v := 0) hx hb dX4_share_20 (by decide) ?_
    refine lv_bipush (v := 100) hx hb dX4_share_21 (by decide) ?_
    refine g_csr (va_runS (As := [.int cnt, .int 0, .int 100]) (rest := []) ⟨hx, hb, hml, hown, hts⟩ (m_X4_in l D cy (cnt) (0) (100)) (va_cwS 3 hts gX4_share_X4_in rfl rfl rfl (by decide +kernel) ⟨Nat.le_of_ble_eq_true rfl, Nat.le_of_ble_eq_true rfl⟩) (g_preS (B := (fun _ => True)) hK trivial) rfl rfl hl.1 rfl (lv_room (Nat.le_of_ble_eq_true rfl)) dX4_share_23 ⟨Nat.zero_le _, Nat.zero_le _⟩) ?_
    refine lv_if_ne (tgt := 35) hx hb dX4_share_26 (by decide) (fun c_26 => ?_) (fun c_26 => ?_)
    · -- 26 t
      refine lv_iconst (v := 0) hx hb dX4_share_35 (by decide) ?_
      refine lv_topi (fun y1 ey1 => ?_)
      obtain rfl : y1 = nI 0 := ey1.trans (nI_0.symm)
      refine lv_istore_n (lv' := [(3, .int (nI 0)), (0, .ref (ad 0 0)), (1, .int p0), (2, .int cnt)]) hx hb dX4_share_36 rfl hl (by decide) rfl (fun ls hl => ?_)
      obtain ⟨q0, hq0, eh⟩ := idx_page hI.1 (zb_n0.mp c_10)
      have q30 : q0 < 30 := Nat.lt_of_lt_of_le hq0 hI.1
      have ec : p0.toNatClampNeg = q0 := by rw [eh, cl_nI (by omega)]
      obtain ⟨cn, hcn, ecn⟩ := idx_cnt (zb_n0.mp c_26)
      have ec2 : cnt.toNatClampNeg = cn := by rw [ecn, cl_nI (by omega)]
      have loopA : ∀ (k : Nat) (iz : Nat) (Hz : Heap) (locsz : List Loc) (σz : IT) (ls : Array Slot), iz ≤ ν 0 0 → ν 0 0 < iz + k → MW D cy ad σz ν Hz → va_S (wA cM ad s.heap.size) s.heap Hz locsz → σz = rstL σ1 iz → lv_has ls 6 [(0, .ref (ad 0 0)), (1, .int p0), (2, .int cnt), (3, .int (nI iz))] → W p l e (headSpec wsX4_share ({ frames := 2, cells := 0, slots := 0, locals := 60 } : Room)).room s m ([.ref (ad 0 0), .int p0, .int cnt] : List Value).toArray below meth c Hz locsz 0 0 (MQ below (uQ (some (.int (oShare σ ν p0 cnt).1)) (MW D cy ad (oShare σ ν p0 cnt).2 ν) (wA cM ad s.heap.size)) ([.ref (ad 0 0), .int p0, .int cnt] : List Value).toArray s 0 0 (wA cM ad s.heap.size)) (F0 m 37 ls []) := by
        intro k
        induction k with
        | zero => intro iz Hz locsz σz ls hi hk hBz hSz hσ hl; exfalso; omega
        | succ k loopA_ih =>
          intro iz Hz locsz σz ls hi hk hBz hSz hσ hl
          refine lv_iload_n hx hb dX4_share_37 rfl (lv_at hl 3 rfl) ?_
          refine lv_aload_n hx hb dX4_share_38 rfl (lv_at hl 0 rfl) ?_
          refine g_get (C := RX4) (T := TX4) (N := 26) (ci := 4) (fs := [.int (σz 30 0), .int (σz 0 0), .int (nI (ν 1 0)), .ref (ad 6 0), .ref (ad 7 0), .ref (ad 8 0), .ref (ad 9 0), .int (σz 1 0), .int (σz 2 0), .int (σz 3 0), .int (σz 31 0), .int (σz 32 0), .int (nI (ν 0 0)), .ref (ad 18 0), .ref (ad 17 0), .ref (ad 16 0), .ref (ad 10 0), .ref (ad 11 0), .ref (ad 12 0), .ref (ad 13 0), .ref (ad 14 0), .ref (ad 15 0), .int (nI (ν 6 0)), .ref (ad 34 0), .ref (ad 35 0), .ref (ad 36 0)]) hx hb hts inX4 hown hK (hBz 0 0 Nat.zero_lt_one) rfl 12 (by decide) lk76 rfl rfl dX4_share_39 ?_
          refine lv_icmp_ge (tgt := 58) hx hb dX4_share_42 (by decide) (fun c_42 => ?_) (fun c_42 => ?_)
          · -- 42 t
            have hie : iz = ν 0 0 := by have := (nI_leI (by omega) (by omega)).mp c_42; omega
            refine lv_iconst (v := 0) hx hb dX4_share_58 (by decide) ?_
            refine lv_topi (fun y2 ey2 => ?_)
            obtain rfl : y2 = nI 0 := ey2.trans (nI_0.symm)
            refine lv_istore_n (lv' := [(3, .int (nI 0)), (0, .ref (ad 0 0)), (1, .int p0), (2, .int cnt)]) hx hb dX4_share_59 rfl hl (by decide) rfl (fun ls hl => ?_)
            have loopB : ∀ (k : Nat) (nz : Nat) (Hy : Heap) (locsy : List Loc) (σy : IT) (ls : Array Slot), nz ≤ cn → cn < nz + k → MW D cy ad σy ν Hy → va_S (wA cM ad s.heap.size) s.heap Hy locsy → σy = shrL (rstL σ1 (ν 0 0)) ν nz → lv_has ls 6 [(0, .ref (ad 0 0)), (1, .int p0), (2, .int cnt), (3, .int (nI nz))] → W p l e (headSpec wsX4_share ({ frames := 2, cells := 0, slots := 0, locals := 60 } : Room)).room s m ([.ref (ad 0 0), .int p0, .int cnt] : List Value).toArray below meth c Hy locsy 0 0 (MQ below (uQ (some (.int (oShare σ ν p0 cnt).1)) (MW D cy ad (oShare σ ν p0 cnt).2 ν) (wA cM ad s.heap.size)) ([.ref (ad 0 0), .int p0, .int cnt] : List Value).toArray s 0 0 (wA cM ad s.heap.size)) (F0 m 60 ls []) := by
              intro k
              induction k with
              | zero => intro nz Hy locsy σy ls hn hk2 hBy hSy hσy hl; exfalso; omega
              | succ k loopB_ih =>
                intro nz Hy locsy σy ls hn hk2 hBy hSy hσy hl
                refine lv_iload_n hx hb dX4_share_60 rfl (lv_at hl 3 rfl) ?_
                refine lv_iload_n hx hb dX4_share_61 rfl (lv_at hl 2 rfl) ?_
                refine lv_icmp_ge (tgt := 144) hx hb dX4_share_62 (by decide) (fun c_62 => ?_) (fun c_62 => ?_)
                · -- 62 t
                  rw [ecn] at c_62
                  have hnc : nz = cn := by have := (nI_leI (by omega) (by omega)).mp c_62; omega
                  refine lv_aload_n hx hb dX4_share_144 rfl (lv_at hl 0 rfl) ?_
                  refine g_get (C := RX4) (T := TX4) (N := 26) (ci := 4) (fs := [.int (σy 30 0), .int (σy 0 0), .int (nI (ν 1 0)), .ref (ad 6 0), .ref (ad 7 0), .ref (ad 8 0), .ref (ad 9 0), .int (σy 1 0), .int (σy 2 0), .int (σy 3 0), .int (σy 31 0), .int (σy 32 0), .int (nI (ν 0 0)), .ref (ad 18 0), .ref (ad 17 0), .ref (ad 16 0), .ref (ad 10 0), .ref (ad 11 0), .ref (ad 12 0), .ref (ad 13 0), .ref (ad 14 0), .ref (ad 15 0), .int (nI (ν 6 0)), .ref (ad 34 0), .ref (ad 35 0), .ref (ad 36 0)]) hx hb hts inX4 hown hK (hBy 0 0 Nat.zero_lt_one) rfl 25 (by decide) lk66 rfl rfl dX4_share_145 ?_
                  refine lv_iload_n hx hb dX4_share_148 rfl (lv_at hl 1 rfl) ?_
                  refine lv_topi (fun y3 ey3 => ?_)
                  obtain rfl : y3 = nI q0 := ey3.trans (eh)
                  refine g_iald (f := σy 36) (x := σy 36 q0) hx hb hK (hBy 36 0 Nat.zero_lt_one) (vp_in_nI (N := 30) (by omega) (by decide)) (by rw [cl_nI (by omega)]) dX4_share_149 ?_
                  exact g_iretU hx hb hr hlocks hSy (by rw [oShare, if_pos (zb_n0.mp c_10), if_pos (zb_n0.mp c_26), ec2]; rw [hσy, hnc, hs1] at hBy; exact hBy) (Nat.le_refl _) (Nat.le_refl _) dX4_share_150 (by rw [oShare, if_pos (zb_n0.mp c_10), if_pos (zb_n0.mp c_26), ec, ec2, hσy, hnc, hs1])
                · -- 62 f
                  rw [ecn] at c_62
                  have hlt2 : nz < cn := Nat.not_le.mp fun q => c_62 ((nI_leI (by omega) (by omega)).mpr q)
                  refine lv_iconst (v := (-1)) hx hb dX4_share_65 (by decide) ?_
                  refine lv_topi (fun y4 ey4 => ?_)
                  obtain rfl : y4 = numO none := ey4.trans (rfl)
                  refine lv_istore (lv' := [(4, .int (numO none)), (0, .ref (ad 0 0)), (1, .int p0), (2, .int cnt), (3, .int (nI nz))]) hx hb dX4_share_66 hl (by decide) rfl (fun ls hl => ?_)
                  refine lv_iconst (v := 0) hx hb dX4_share_68 (by decide) ?_
                  refine lv_topi (fun y5 ey5 => ?_)
                  obtain rfl : y5 = nI 0 := ey5.trans (nI_0.symm)
                  refine lv_istore (lv' := [(5, .int (nI 0)), (4, .int (numO none)), (0, .ref (ad 0 0)), (1, .int p0), (2, .int cnt), (3, .int (nI nz))]) hx hb dX4_share_69 hl (by decide) rfl (fun ls hl => ?_)
                  obtain ⟨V, hV⟩ : ∃ V, V = bsL σy ν (ν 0 0 - 0) 0 none := ⟨_, rfl⟩
                  have hV0 : bsL σy ν (ν 0 0) 0 none = V := hV.symm
                  have loopC : ∀ (k : Nat) (pz : Nat) (fz : Option Nat) (ls : Array Slot), pz ≤ ν 0 0 → (∀ a, fz = some a → a < ν 0 0) → ν 0 0 < pz + k → V = bsL σy ν (ν 0 0 - pz) pz fz → lv_has ls 6 [(0, .ref (ad 0 0)), (1, .int p0), (2, .int cnt), (3, .int (nI nz)), (4, .int (numO fz)), (5, .int (nI pz))] → W p l e (headSpec wsX4_share ({ frames := 2, cells := 0, slots := 0, locals := 60 } : Room)).room s m ([.ref (ad 0 0), .int p0, .int cnt] : List Value).toArray below meth c Hy locsy 0 0 (MQ below (uQ (some (.int (oShare σ ν p0 cnt).1)) (MW D cy ad (oShare σ ν p0 cnt).2 ν) (wA cM ad s.heap.size)) ([.ref (ad 0 0), .int p0, .int cnt] : List Value).toArray s 0 0 (wA cM ad s.heap.size)) (F0 m 71 ls []) := by
                    intro k
                    induction k with
                    | zero => intro pz fz ls hi3 hf hk3 hV hl; exfalso; omega
                    | succ k loopC_ih =>
                      intro pz fz ls hi3 hf hk3 hV hl
                      refine lv_iload hx hb dX4_share_71 (lv_at hl 5 rfl) ?_
                      refine lv_aload_n hx hb dX4_share_73 rfl (lv_at hl 0 rfl) ?_
                      refine g_get (C := RX4) (T := TX4) (N := 26) (ci := 4) (fs := [.int (σy 30 0), .int (σy 0 0), .int (nI (ν 1 0)), .ref (ad 6 0), .ref (ad 7 0), .ref (ad 8 0), .ref (ad 9 0), .int (σy 1 0), .int (σy 2 0), .int (σy 3 0), .int (σy 31 0), .int (σy 32 0), .int (nI (ν 0 0)), .ref (ad 18 0), .ref (ad 17 0), .ref (ad 16 0), .ref (ad 10 0), .ref (ad 11 0), .ref (ad 12 0), .ref (ad 13 0), .ref (ad 14 0), .ref (ad 15 0), .int (nI (ν 6 0)), .ref (ad 34 0), .ref (ad 35 0), .ref (ad 36 0)]) hx hb hts inX4 hown hK (hBy 0 0 Nat.zero_lt_one) rfl 12 (by decide) lk76 rfl rfl dX4_share_74 ?_
                      refine lv_icmp_ge (tgt := 121) hx hb dX4_share_77 (by decide) (fun c_77 => ?_) (fun c_77 => ?_)
                      · -- 77 t
                        have hle3 : ν 0 0 ≤ pz := (nI_leI (by omega) (by omega)).mp c_77
                        rw [show ν 0 0 - pz = 0 by omega, bsL] at hV
                        have hV := hV.symm
                        subst hV
                        refine lv_iload hx hb dX4_share_121 (lv_at hl 4 rfl) ?_
                        refine lv_iconst (v := (-1)) hx hb dX4_share_123 (by decide) ?_
                        refine lv_icmp_eq (tgt := 138) hx hb dX4_share_124 (by decide) (fun c_124 => ?_) (fun c_124 => ?_)
                        · -- 124 t
                          obtain rfl : fz = none := (numO_n1 hf (by omega)).mp c_124
                          refine lv_iinc (v := nI (nz + 1)) (lv' := [(3, .int (nI (nz + 1))), (0, .ref (ad 0 0)), (1, .int p0), (2, .int cnt), (4, .int (numO none)), (5, .int (nI pz))]) hx hb dX4_share_138 hl (k := 3) rfl (nI_1 nz) (by decide) rfl (fun ls hl => ?_)
                          refine lv_goto (tgt := 60) hx hb dX4_share_141 (by decide) ?_
                          exact loopB_ih (nz + 1) Hy locsy σy ls (by omega) (by omega) hBy hSy (by rw [shrL, ← hσy, hV0]; rfl) (lv_sub hl [1, 2, 3, 0] rfl)
                        · -- 124 f
                          obtain ⟨jz, rfl⟩ : ∃ a, fz = some a := by cases fz with | none => exact absurd rfl c_124 | some a => exact ⟨a, rfl⟩
                          have hjz : jz < 30 := Nat.lt_of_lt_of_le (hf jz rfl) hI.1
                          have hl : lv_has ls 6 [(0, .ref (ad 0 0)), (1, .int p0), (2, .int cnt), (3, .int (nI nz)), (4, .int (nI jz)), (5, .int (nI pz))] := hl
                          refine lv_aload_n hx hb dX4_share_127 rfl (lv_at hl 0 rfl) ?_
                          refine g_get (C := RX4) (T := TX4) (N := 26) (ci := 4) (fs := [.int (σy 30 0), .int (σy 0 0), .int (nI (ν 1 0)), .ref (ad 6 0), .ref (ad 7 0), .ref (ad 8 0), .ref (ad 9 0), .int (σy 1 0), .int (σy 2 0), .int (σy 3 0), .int (σy 31 0), .int (σy 32 0), .int (nI (ν 0 0)), .ref (ad 18 0), .ref (ad 17 0), .ref (ad 16 0), .ref (ad 10 0), .ref (ad 11 0), .ref (ad 12 0), .ref (ad 13 0), .ref (ad 14 0), .ref (ad 15 0), .int (nI (ν 6 0)), .ref (ad 34 0), .ref (ad 35 0), .ref (ad 36 0)]) hx hb hts inX4 hown hK (hBy 0 0 Nat.zero_lt_one) rfl 25 (by decide) lk66 rfl rfl dX4_share_128 ?_
                          refine lv_iload hx hb dX4_share_131 (lv_at hl 4 rfl) ?_
                          refine lv_dup2_11 hx hb dX4_share_133 rfl rfl ?_
                          refine g_iald (f := σy 36) (x := σy 36 jz) hx hb hK (hBy 36 0 Nat.zero_lt_one) (vp_in_nI (N := 30) (by omega) (by decide)) (by rw [cl_nI (by omega)]) dX4_share_134 ?_
                          refine lv_iconst (v := 1) hx hb dX4_share_135 (by decide) ?_
                          refine lv_iadd hx hb dX4_share_136 ?_
                          refine g_iast (f := σy 36) (A := (wA cM ad s.heap.size)) hx hb hK (hBy 36 0 Nat.zero_lt_one) hSy (wA.in (k := 36) (i := 0) Nat.zero_lt_one) (vp_in_nI (N := 30) hjz (by decide)) dX4_share_137 (fun H2 locs2 hc2 hu2 hS2 => ?_)
                          have hB2 : MW D cy ad (up2 σy 36 jz ((σy 36 jz) + 1)) ν H2 := hBy.sst hJ 36 Nat.zero_lt_one (by decide) (by decide) (by decide) (cl_nI (by omega)) hc2 hu2
                          obtain ⟨σ2, hs2⟩ : ∃ z : IT, z = up2 σy 36 jz ((σy 36 jz) + 1) := ⟨_, rfl⟩
                          rw [← hs2] at hB2
                          refine lv_iinc (v := nI (nz + 1)) (lv' := [(3, .int (nI (nz + 1))), (0, .ref (ad 0 0)), (1, .int p0), (2, .int cnt), (4, .int (nI jz)), (5, .int (nI pz))]) hx hb dX4_share_138 hl (k := 3) rfl (nI_1 nz) (by decide) rfl (fun ls hl => ?_)
                          refine lv_goto (tgt := 60) hx hb dX4_share_141 (by decide) ?_
                          exact loopB_ih (nz + 1) H2 locs2 σ2 ls (by omega) (by omega) hB2 hS2 (by rw [hs2, shrL, ← hσy, hV0]; rfl) (lv_sub hl [1, 2, 3, 0] rfl)
                      · -- 77 f
                        have hlt3 : pz < ν 0 0 := Nat.not_le.mp fun q => c_77 ((nI_leI (by omega) (by omega)).mpr q)
                        have hp30 : pz < 30 := Nat.lt_of_lt_of_le hlt3 hI.1
                        obtain ⟨j3, hj3⟩ : ∃ j, ν 0 0 - pz = j + 1 := ⟨ν 0 0 - pz - 1, by omega⟩
                        have hj4 : ν 0 0 - (pz + 1) = j3 := by omega
                        rw [hj3, bsL] at hV
                        refine lv_aload_n hx hb dX4_share_80 rfl (lv_at hl 0 rfl) ?_
                        refine lv_iload hx hb dX4_share_81 (lv_at hl 5 rfl) ?_
                        refine g_csr (va_runV (As := [.int (nI pz)]) (rest := []) ⟨hx, hb, hml, hown, hts⟩ (m_X4_counts l D cy ad σy ν pz hp30) (cwV 1 hts gX4_share_X4_counts rfl rfl rfl (by decide +kernel) ⟨Nat.le_of_ble_eq_true rfl, Nat.le_of_ble_eq_true rfl⟩) (g_preV (C := RX4) (B := (MW D cy ad σy ν)) hK hBy (hBy 0 0 Nat.zero_lt_one) rfl) rfl rfl hl.1 rfl (lv_room (Nat.le_of_ble_eq_true rfl)) dX4_share_83 ⟨Nat.zero_le _, Nat.zero_le _⟩) ?_
                        refine lv_if_eq (tgt := 111) hx hb dX4_share_86 (by decide) (fun c_86 => ?_) (fun c_86 => ?_)
                        · -- 86 t
                          refine lv_iload hx hb dX4_share_111 (lv_at hl 4 rfl) ?_
                          rw [if_neg (fun z => by rw [zb_0.mp (show zb (keptB (σy 14 pz) (σy 15 pz)) = 0 from c_86)] at z; cases z.1)] at hV
                          refine lv_topi (fun y6 ey6 => ?_)
                          obtain rfl : y6 = numO fz := ey6.trans (rfl)
                          refine lv_istore (lv' := [(4, .int (numO fz)), (0, .ref (ad 0 0)), (1, .int p0), (2, .int cnt), (3, .int (nI nz)), (5, .int (nI pz))]) hx hb dX4_share_113 hl (by decide) rfl (fun ls hl => ?_)
                          refine lv_iinc (v := nI (pz + 1)) (lv' := [(5, .int (nI (pz + 1))), (4, .int (numO fz)), (0, .ref (ad 0 0)), (1, .int p0), (2, .int cnt), (3, .int (nI nz))]) hx hb dX4_share_115 hl (k := 5) rfl (nI_1 pz) (by decide) rfl (fun ls hl => ?_)
                          refine lv_goto (tgt := 71) hx hb dX4_share_118 (by decide) ?_
                          exact loopC_ih (pz + 1) fz ls (by omega) hf (by omega) (by rw [hj4]; exact hV) (lv_sub hl [2, 3, 4, 5, 1, 0] rfl)
                        · -- 86 f
                          refine lv_iload hx hb dX4_share_89 (lv_at hl 4 rfl) ?_
                          refine lv_iconst (v := (-1)) hx hb dX4_share_91 (by decide) ?_
                          refine lv_icmp_eq (tgt := 106) hx hb dX4_share_92 (by decide) (fun c_92 => ?_) (fun c_92 => ?_)
                          · -- 92 t
                            obtain rfl : fz = none := (numO_n1 hf (by omega)).mp c_92
                            refine lv_iload hx hb dX4_share_106 (lv_at hl 5 rfl) ?_
                            refine lv_goto (tgt := 113) hx hb dX4_share_108 (by decide) ?_
                            rw [if_pos ⟨zb_n0.mp (show ¬ zb (keptB (σy 14 pz) (σy 15 pz)) = 0 from c_86), rfl⟩] at hV
                            refine lv_topi (fun y7 ey7 => ?_)
                            obtain rfl : y7 = numO (some pz) := ey7.trans (rfl)
                            refine lv_istore (lv' := [(4, .int (numO (some pz))), (0, .ref (ad 0 0)), (1, .int p0), (2, .int cnt), (3, .int (nI nz)), (5, .int (nI pz))]) hx hb dX4_share_113 hl (by decide) rfl (fun ls hl => ?_)
                            refine lv_iinc (v := nI (pz + 1)) (lv' := [(5, .int (nI (pz + 1))), (4, .int (numO (some pz))), (0, .ref (ad 0 0)), (1, .int p0), (2, .int cnt), (3, .int (nI nz))]) hx hb dX4_share_115 hl (k := 5) rfl (nI_1 pz) (by decide) rfl (fun ls hl => ?_)
                            refine lv_goto (tgt := 71) hx hb dX4_share_118 (by decide) ?_
                            exact loopC_ih (pz + 1) (some pz) ls (by omega) (some_lt hlt3) (by omega) (by rw [hj4]; exact hV) (lv_sub hl [2, 3, 4, 5, 1, 0] rfl)
                          · -- 92 f
                            obtain ⟨jz, rfl⟩ : ∃ a, fz = some a := by cases fz with | none => exact absurd rfl c_92 | some a => exact ⟨a, rfl⟩
                            have hjz : jz < 30 := Nat.lt_of_lt_of_le (hf jz rfl) hI.1
                            have hl : lv_has ls 6 [(0, .ref (ad 0 0)), (1, .int p0), (2, .int cnt), (3, .int (nI nz)), (4, .int (nI jz)), (5, .int (nI pz))] := hl
                            refine lv_aload_n hx hb dX4_share_95 rfl (lv_at hl 0 rfl) ?_
                            refine lv_iload hx hb dX4_share_96 (lv_at hl 5 rfl) ?_
                            refine lv_iload hx hb dX4_share_98 (lv_at hl 4 rfl) ?_
                            refine g_csr (va_runV (As := [.int (nI pz), .int (nI jz)]) (rest := []) ⟨hx, hb, hml, hown, hts⟩ (m_X4_addsMore l D cy ad σy ν pz jz hp30 hjz) (cwV 2 hts gX4_share_X4_addsMore rfl rfl rfl (by decide +kernel) ⟨Nat.le_of_ble_eq_true rfl, Nat.le_of_ble_eq_true rfl⟩) (g_preV (C := RX4) (B := (MW D cy ad σy ν)) hK hBy (hBy 0 0 Nat.zero_lt_one) rfl) rfl rfl hl.1 rfl (lv_room (Nat.le_of_ble_eq_true rfl)) dX4_share_100 ⟨Nat.zero_le _, Nat.zero_le _⟩) ?_
                            refine lv_if_eq (tgt := 111) hx hb dX4_share_103 (by decide) (fun c_103 => ?_) (fun c_103 => ?_)
                            · -- 103 t
                              refine lv_iload hx hb dX4_share_111 (lv_at hl 4 rfl) ?_
                              rw [if_neg (fun z => by have z2 : addsB σy pz jz = true := z.2; rw [zb_0.mp c_103] at z2; cases z2)] at hV
                              refine lv_topi (fun y8 ey8 => ?_)
                              obtain rfl : y8 = numO (some jz) := ey8.trans (rfl)
                              refine lv_istore (lv' := [(4, .int (numO (some jz))), (0, .ref (ad 0 0)), (1, .int p0), (2, .int cnt), (3, .int (nI nz)), (5, .int (nI pz))]) hx hb dX4_share_113 hl (by decide) rfl (fun ls hl => ?_)
                              refine lv_iinc (v := nI (pz + 1)) (lv' := [(5, .int (nI (pz + 1))), (4, .int (numO (some jz))), (0, .ref (ad 0 0)), (1, .int p0), (2, .int cnt), (3, .int (nI nz))]) hx hb dX4_share_115 hl (k := 5) rfl (nI_1 pz) (by decide) rfl (fun ls hl => ?_)
                              refine lv_goto (tgt := 71) hx hb dX4_share_118 (by decide) ?_
                              exact loopC_ih (pz + 1) (some jz) ls (by omega) hf (by omega) (by rw [hj4]; exact hV) (lv_sub hl [2, 3, 4, 5, 1, 0] rfl)
                            · -- 103 f
                              refine lv_iload hx hb dX4_share_106 (lv_at hl 5 rfl) ?_
                              refine lv_goto (tgt := 113) hx hb dX4_share_108 (by decide) ?_
                              rw [if_pos ⟨zb_n0.mp (show ¬ zb (keptB (σy 14 pz) (σy 15 pz)) = 0 from c_86), (zb_n0.mp c_103)⟩] at hV
                              refine lv_topi (fun y9 ey9 => ?_)
                              obtain rfl : y9 = numO (some pz) := ey9.trans (rfl)
                              refine lv_istore (lv' := [(4, .int (numO (some pz))), (0, .ref (ad 0 0)), (1, .int p0), (2, .int cnt), (3, .int (nI nz)), (5, .int (nI pz))]) hx hb dX4_share_113 hl (by decide) rfl (fun ls hl => ?_)
                              refine lv_iinc (v := nI (pz + 1)) (lv' := [(5, .int (nI (pz + 1))), (4, .int (numO (some pz))), (0, .ref (ad 0 0)), (1, .int p0), (2, .int cnt), (3, .int (nI nz))]) hx hb dX4_share_115 hl (k := 5) rfl (nI_1 pz) (by decide) rfl (fun ls hl => ?_)
                              refine lv_goto (tgt := 71) hx hb dX4_share_118 (by decide) ?_
                              exact loopC_ih (pz + 1) (some pz) ls (by omega) (some_lt hlt3) (by omega) (by rw [hj4]; exact hV) (lv_sub hl [2, 3, 4, 5, 1, 0] rfl)
                  exact loopC (ν 0 0 + 1) 0 none ls (Nat.zero_le _) (fun _ h => nomatch h) (by omega) hV (lv_sub hl [2, 3, 4, 5, 1, 0] rfl)
            exact loopB (cn + 1) 0 Hz locsz σz ls (Nat.zero_le _) (by omega) hBz hSz (by rw [hσ, hie]; rfl) (lv_sub hl [1, 2, 3, 0] rfl)
          · -- 42 f
            have hlt : iz < ν 0 0 := Nat.not_le.mp fun q => c_42 ((nI_leI (by omega) (by omega)).mpr q)
            refine lv_aload_n hx hb dX4_share_45 rfl (lv_at hl 0 rfl) ?_
            refine g_get (C := RX4) (T := TX4) (N := 26) (ci := 4) (fs := [.int (σz 30 0), .int (σz 0 0), .int (nI (ν 1 0)), .ref (ad 6 0), .ref (ad 7 0), .ref (ad 8 0), .ref (ad 9 0), .int (σz 1 0), .int (σz 2 0), .int (σz 3 0), .int (σz 31 0), .int (σz 32 0), .int (nI (ν 0 0)), .ref (ad 18 0), .ref (ad 17 0), .ref (ad 16 0), .ref (ad 10 0), .ref (ad 11 0), .ref (ad 12 0), .ref (ad 13 0), .ref (ad 14 0), .ref (ad 15 0), .int (nI (ν 6 0)), .ref (ad 34 0), .ref (ad 35 0), .ref (ad 36 0)]) hx hb hts inX4 hown hK (hBz 0 0 Nat.zero_lt_one) rfl 25 (by decide) lk66 rfl rfl dX4_share_46 ?_
            refine lv_iload_n hx hb dX4_share_49 rfl (lv_at hl 3 rfl) ?_
            refine lv_iconst (v := 0) hx hb dX4_share_50 (by decide) ?_
            refine g_iast (f := σz 36) (A := (wA cM ad s.heap.size)) hx hb hK (hBz 36 0 Nat.zero_lt_one) hSz (wA.in (k := 36) (i := 0) Nat.zero_lt_one) (vp_in_nI (N := 30) (by omega) (by decide)) dX4_share_51 (fun H3 locs3 hc3 hu3 hS3 => ?_)
            have hB3 : MW D cy ad (up2 σz 36 iz 0) ν H3 := hBz.sst hJ 36 Nat.zero_lt_one (by decide) (by decide) (by decide) (cl_nI (by omega)) hc3 hu3
            obtain ⟨σ3, hs3⟩ : ∃ z : IT, z = up2 σz 36 iz 0 := ⟨_, rfl⟩
            rw [← hs3] at hB3
            refine lv_iinc (v := nI (iz + 1)) (lv' := [(3, .int (nI (iz + 1))), (0, .ref (ad 0 0)), (1, .int p0), (2, .int cnt)]) hx hb dX4_share_52 hl (k := 3) rfl (nI_1 iz) (by decide) rfl (fun ls hl => ?_)
            refine lv_goto (tgt := 37) hx hb dX4_share_55 (by decide) ?_
            exact loopA_ih (iz + 1) H3 locs3 σ3 ls (by omega) (by omega) hB3 hS3 (by rw [hs3, hσ]; rfl) (lv_sub hl [1, 2, 3, 0] rfl)
      exact loopA (ν 0 0 + 1) 0 H1 locs1 σ1 ls (Nat.zero_le _) (by omega) hB1 hS1 rfl (lv_sub hl [1, 2, 3, 0] rfl)
    · -- 26 f
      refine lv_aload_n hx hb dX4_share_29 rfl (lv_at hl 0 rfl) ?_
      refine lv_iconst (v := 2) hx hb dX4_share_30 (by decide) ?_
      refine g_cu1 (va_runV (As := [.int 2]) (rest := []) ⟨hx, hb, hml, hown, hts⟩ (m_X4_fails l D cy H1.size ad σ1 ν hJ (2)) (cwV 1 hts gX4_share_X4_fails rfl rfl rfl (by decide +kernel) ⟨Nat.le_of_ble_eq_true rfl, Nat.le_of_ble_eq_true rfl⟩) (g_preV (C := RX4) (B := atSz H1.size (MW D cy ad σ1 ν)) hK ⟨rfl, hB1⟩ (hB1 0 0 Nat.zero_lt_one) rfl) rfl rfl hl.1 rfl (lv_room (Nat.le_of_ble_eq_true rfl)) dX4_share_31 ⟨Nat.zero_le _, Nat.zero_le _⟩) hS1 (fun q _ h => wA.mono hS1.1 h) (fun q h => wA.mono hS1.1 h) (fun H4 locs4 hB4 hz4 hk4 hS4 => ?_)
      obtain ⟨σ4, hs4⟩ : ∃ z : IT, z = up2 σ1 30 0 2 := ⟨_, rfl⟩
      rw [← hs4] at hB4
      exact g_iretU hx hb hr hlocks hS4 (by rw [oShare, if_pos (zb_n0.mp c_10), if_neg (fun q => by rw [zb_0.mp c_26] at q; cases q)]; rw [hs4, hs1] at hB4; exact hB4) (Nat.le_refl _) (Nat.le_refl _) dX4_share_34 (by rw [oShare, if_pos (zb_n0.mp c_10), if_neg (fun q => by rw [zb_0.mp c_26] at q; cases q)])
  · -- 10 f
    refine lv_aload_n hx hb dX4_share_13 rfl (lv_at hl 0 rfl) ?_
    refine lv_iconst (v := 1) hx hb dX4_share_14 (by decide) ?_
    refine g_cu1 (va_runV (As := [.int 1]) (rest := []) ⟨hx, hb, hml, hown, hts⟩ (m_X4_fails l D cy H1.size ad σ1 ν hJ (1)) (cwV 1 hts gX4_share_X4_fails rfl rfl rfl (by decide +kernel) ⟨Nat.le_of_ble_eq_true rfl, Nat.le_of_ble_eq_true rfl⟩) (g_preV (C := RX4) (B := atSz H1.size (MW D cy ad σ1 ν)) hK ⟨rfl, hB1⟩ (hB1 0 0 Nat.zero_lt_one) rfl) rfl rfl hl.1 rfl (lv_room (Nat.le_of_ble_eq_true rfl)) dX4_share_15 ⟨Nat.zero_le _, Nat.zero_le _⟩) hS1 (fun q _ h => wA.mono hS1.1 h) (fun q h => wA.mono hS1.1 h) (fun H5 locs5 hB5 hz5 hk5 hS5 => ?_)
    obtain ⟨σ5, hs5⟩ : ∃ z : IT, z = up2 σ1 30 0 1 := ⟨_, rfl⟩
    rw [← hs5] at hB5
    exact g_iretU hx hb hr hlocks hS5 (by rw [oShare, if_neg (fun q => by rw [zb_0.mp c_10] at q; cases q)]; rw [hs5, hs1] at hB5; exact hB5) (Nat.le_refl _) (Nat.le_refl _) dX4_share_18 (by rw [oShare, if_neg (fun q => by rw [zb_0.mp c_10] at q; cases q)])
