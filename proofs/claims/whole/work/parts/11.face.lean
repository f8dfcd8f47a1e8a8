/-! PolitecrawlModel: repeats, best, and its face -/
def allF (P : Nat → Bool) : Nat → Nat → Bool → Bool
  | 0, _, b => b
  | n + 1, i, b => allF P n (i + 1) (b && P i)
def frL (P : Nat → Bool) (row seg : Nat) : Nat → Nat → Bool → Bool
  | 0, _, b => b
  | n + 1, i, b => if i + 3 * row ≤ seg then frL P row seg n (i + 1) (b || allF P (2 * row) i true) else b
def rpL (σ : IT) (ν : NT) : Nat → Nat → Bool → Bool
  | 0, _, b => b
  | n + 1, r, b => rpL σ ν n (r + 1) (frL (fun i => sameM σ ν i (i + r)) r (ν 6 0) (ν 6 0 + 1) 0 b)
def repM (σ : IT) (ν : NT) : Bool := rpL σ (layN (σ 6) ν (ν 1 0)) 3 1 false

set_option maxHeartbeats 4000000 in
set_option maxRecDepth 100000 in
/-- model: repeats -/
theorem m_X4_repeats (l : Launch) (D : va_G) (cy : Nat → ClassId) (sz : Nat) (ad : NT) (σ : IT) (ν : NT) (hJ : wJ cM ad) (hl30 : ν 1 0 ≤ 30) : Met l yX4_repeats wsX4_repeats ({ frames := 1, cells := 0, slots := 0, locals := 30 } : Room) (va_Pc [.ref (ad 0 0)] (fun U => gK D cy U ∧ (atSz sz (MW D cy ad σ ν)) U.heap)) (uQ (some (.int (zb (repM σ ν)))) (MW D cy ad σ (layN (σ 6) ν (ν 1 0))) (wA cM ad sz)) 0 0 (wA cM ad sz) := by
  refine Met.ofW (cc := cX4_repeats) (maxL := 6) (ret := (some .boolean)) (by decide) rfl ?_
  intro p e s m args below meth c s₁ B9 hml hv
  obtain ⟨rfl, hK, hsz, hB⟩ := hv
  have hx := B9.exec
  have hb := B9.bytes
  have hr := B9.returns
  have hts := atoms_spec (ws := wsX4_repeats) B9.pre
  have hown : s.vm.findClass RX4 = some m.cls := findClass_of_methodNamed B9.named
  have hlocks := B9.notSynchronized
  subst hsz
  have hS : va_S (wA cM ad s.heap.size) s.heap s.heap [] := va_S.rf
  have lk83 := hts (.fieldLink RX4 83 "PolitecrawlModel" "segments" "I") (by decide +kernel)
  have inX4 : ∀ w ∈ u_ws RX4 TX4 26, w ∈ wsX4_repeats := by decide +kernel
  have hl := lv_entry ([.ref (ad 0 0)]) (n := 6) (Nat.le_of_ble_eq_true rfl)
  rw [lg_entry_eq]
  generalize (lg_sl ([.ref (ad 0 0)]) ++ List.replicate (6 - (lg_sl ([.ref (ad 0 0)])).length) Slot.unset).toArray = ls at hl ⊢
  have hl : lv_has ls 6 [(0, .ref (ad 0 0))] := hl
  refine lv_aload_n hx hb dX4_repeats_0 rfl (lv_at hl 0 rfl) ?_
  refine g_cu0 (va_runV (As := []) (rest := []) ⟨hx, hb, hml, hown, hts⟩ (m_X4_laySegments l D cy s.heap.size ad σ ν hJ hl30) (cwV 0 hts gX4_repeats_X4_laySegments rfl rfl rfl (by decide +kernel) ⟨Nat.le_of_ble_eq_true rfl, Nat.le_of_ble_eq_true rfl⟩) (g_preV (C := RX4) (B := atSz s.heap.size (MW D cy ad σ ν)) hK ⟨rfl, hB⟩ (hB 0 0 Nat.zero_lt_one) rfl) rfl rfl hl.1 rfl (lv_room (Nat.le_of_ble_eq_true rfl)) dX4_repeats_1 ⟨Nat.zero_le _, Nat.zero_le _⟩) hS (fun q _ h => wA.mono hS.1 h) (fun q h => wA.mono hS.1 h) (fun H1 locs1 hB1 hz1 hk1 hS1 => ?_)
  obtain ⟨ν1, hv1⟩ : ∃ z : NT, z = layN (σ 6) ν (ν 1 0) := ⟨_, rfl⟩
  rw [← hv1] at hB1
  have hsg : 2 * ν1 6 0 ≤ 31 := by have := (layN_seg (f := σ 6) (ν := ν) (ν 1 0)).1; rw [← hv1] at this; omega
  have hm : ∀ j, j < ν1 6 0 → ν1 7 j + ν1 8 j ≤ 30 := by intro j hj; have := (layN_ok (f := σ 6) (ν := ν) (ν 1 0) j (by rw [← hv1]; exact hj)).1; rw [← hv1] at this; omega
  obtain ⟨V, hV⟩ : ∃ V, V = rpL σ ν1 (4 - 1) 1 false := ⟨_, rfl⟩
  have hV0 : repM σ ν = V := by rw [repM, ← hv1]; exact hV.symm
  rw [hV0]
  refine lv_iconst (v := 0) hx hb dX4_repeats_4 (by decide) ?_
  refine lv_topi (fun y1 ey1 => ?_)
  obtain rfl : y1 = zb false := ey1.trans (rfl)
  refine lv_istore_n (lv' := [(1, .int (zb false)), (0, .ref (ad 0 0))]) hx hb dX4_repeats_5 rfl hl (by decide) rfl (fun ls hl => ?_)
  refine lv_iconst (v := 1) hx hb dX4_repeats_6 (by decide) ?_
  refine lv_topi (fun y2 ey2 => ?_)
  obtain rfl : y2 = nI 1 := ey2.trans (rfl)
  refine lv_istore_n (lv' := [(2, .int (nI 1)), (1, .int (zb false)), (0, .ref (ad 0 0))]) hx hb dX4_repeats_7 rfl hl (by decide) rfl (fun ls hl => ?_)
  have loopR : ∀ (k : Nat) (rz : Nat) (fz : Bool) (ls : Array Slot), 1 ≤ rz → rz ≤ 4 → 4 < rz + k → V = rpL σ ν1 (4 - rz) rz fz → lv_has ls 6 [(0, .ref (ad 0 0)), (1, .int (zb fz)), (2, .int (nI rz))] → W p l e (headSpec wsX4_repeats ({ frames := 1, cells := 0, slots := 0, locals := 30 } : Room)).room s m ([.ref (ad 0 0)] : List Value).toArray below meth c H1 locs1 0 0 (MQ below (uQ (some (.int (zb V))) (MW D cy ad σ (layN (σ 6) ν (ν 1 0))) (wA cM ad s.heap.size)) ([.ref (ad 0 0)] : List Value).toArray s 0 0 (wA cM ad s.heap.size)) (F0 m 8 ls []) := by
    intro k
    induction k with
    | zero => intro rz fz ls hr1 hr4 hk hV hl; exfalso; omega
    | succ k loopR_ih =>
      intro rz fz ls hr1 hr4 hk hV hl
      refine lv_iload_n hx hb dX4_repeats_8 rfl (lv_at hl 2 rfl) ?_
      refine lv_iconst (v := 4) hx hb dX4_repeats_9 (by decide) ?_
      refine lv_icmp_ge (tgt := 101) hx hb dX4_repeats_10 (by decide) (fun c_10 => ?_) (fun c_10 => ?_)
      · -- 10 t
        have hle : 4 ≤ rz := (nI_leI (a := 4) (by decide) (by omega)).mp c_10
        rw [show 4 - rz = 0 by omega, rpL] at hV
        refine lv_iload_n hx hb dX4_repeats_101 rfl (lv_at hl 1 rfl) ?_
        exact g_zretU hx hb hr hlocks (by cases fz <;> rfl) hS1 (by rw [hv1] at hB1; exact hB1) (Nat.le_refl _) (Nat.le_refl _) dX4_repeats_102 (by rw [hV])
      · -- 10 fz
        have hlt : rz < 4 := Nat.not_le.mp fun q => c_10 ((nI_leI (a := 4) (by decide) (by omega)).mpr q)
        obtain ⟨j, hj⟩ : ∃ j, 4 - rz = j + 1 := ⟨4 - rz - 1, by omega⟩
        have hj2 : 4 - (rz + 1) = j := by omega
        rw [hj, rpL] at hV
        refine lv_iconst (v := 0) hx hb dX4_repeats_13 (by decide) ?_
        refine lv_topi (fun y3 ey3 => ?_)
        obtain rfl : y3 = nI 0 := ey3.trans (nI_0.symm)
        refine lv_istore_n (lv' := [(3, .int (nI 0)), (0, .ref (ad 0 0)), (1, .int (zb fz)), (2, .int (nI rz))]) hx hb dX4_repeats_14 rfl hl (by decide) rfl (fun ls hl => ?_)
        obtain ⟨F, hF⟩ : ∃ F, F = frL (fun iz => sameM σ ν1 iz (iz + rz)) rz (ν1 6 0) (ν1 6 0 + 1 - 0) 0 fz := ⟨_, rfl⟩
        have hV2 : V = rpL σ ν1 j (rz + 1) F := by rw [hF]; exact hV
        have loopF : ∀ (k : Nat) (iz : Nat) (gz : Bool) (ls : Array Slot), iz ≤ ν1 6 0 → ν1 6 0 < iz + k → F = frL (fun iz => sameM σ ν1 iz (iz + rz)) rz (ν1 6 0) (ν1 6 0 + 1 - iz) iz gz → lv_has ls 6 [(0, .ref (ad 0 0)), (1, .int (zb gz)), (2, .int (nI rz)), (3, .int (nI iz))] → W p l e (headSpec wsX4_repeats ({ frames := 1, cells := 0, slots := 0, locals := 30 } : Room)).room s m ([.ref (ad 0 0)] : List Value).toArray below meth c H1 locs1 0 0 (MQ below (uQ (some (.int (zb V))) (MW D cy ad σ (layN (σ 6) ν (ν 1 0))) (wA cM ad s.heap.size)) ([.ref (ad 0 0)] : List Value).toArray s 0 0 (wA cM ad s.heap.size)) (F0 m 15 ls []) := by
          intro k
          induction k with
          | zero => intro iz gz ls hi hk2 hF hl; exfalso; omega
          | succ k loopF_ih =>
            intro iz gz ls hi hk2 hF hl
            refine lv_iload_n hx hb dX4_repeats_15 rfl (lv_at hl 3 rfl) ?_
            refine lv_iconst (v := 3) hx hb dX4_repeats_16 (by decide) ?_
            refine lv_iload_n hx hb dX4_repeats_17 rfl (lv_at hl 2 rfl) ?_
            refine lv_imul hx hb dX4_repeats_18 ?_
            refine lv_topi (fun y4 ey4 => ?_)
            obtain rfl : y4 = nI (3 * rz) := ey4.trans (pk_mul 3 _)
            refine lv_iadd hx hb dX4_repeats_19 ?_
            refine lv_topi (fun y5 ey5 => ?_)
            obtain rfl : y5 = nI (iz + 3 * rz) := ey5.trans (nI_add _ _)
            refine lv_aload_n hx hb dX4_repeats_20 rfl (lv_at hl 0 rfl) ?_
            refine g_get (C := RX4) (T := TX4) (N := 26) (ci := 4) (fs := [.int (σ 30 0), .int (σ 0 0), .int (nI (ν1 1 0)), .ref (ad 6 0), .ref (ad 7 0), .ref (ad 8 0), .ref (ad 9 0), .int (σ 1 0), .int (σ 2 0), .int (σ 3 0), .int (σ 31 0), .int (σ 32 0), .int (nI (ν1 0 0)), .ref (ad 18 0), .ref (ad 17 0), .ref (ad 16 0), .ref (ad 10 0), .ref (ad 11 0), .ref (ad 12 0), .ref (ad 13 0), .ref (ad 14 0), .ref (ad 15 0), .int (nI (ν1 6 0)), .ref (ad 34 0), .ref (ad 35 0), .ref (ad 36 0)]) hx hb hts inX4 hown hK (hB1 0 0 Nat.zero_lt_one) rfl 22 (by decide) lk83 rfl rfl dX4_repeats_21 ?_
            refine lv_icmp_gt (tgt := 95) hx hb dX4_repeats_24 (by decide) (fun c_24 => ?_) (fun c_24 => ?_)
            · -- 24 t
              have hgt3 : ν1 6 0 < iz + 3 * rz := (nI_ltI (by omega) (by omega)).mp c_24
              obtain ⟨j3, hj3⟩ : ∃ j, ν1 6 0 + 1 - iz = j + 1 := ⟨ν1 6 0 - iz, by omega⟩
              rw [hj3, frL, if_neg (by omega)] at hF
              have hF := hF.symm
              subst hF
              refine lv_iinc (v := nI (rz + 1)) (lv' := [(2, .int (nI (rz + 1))), (0, .ref (ad 0 0)), (1, .int (zb gz)), (3, .int (nI iz))]) hx hb dX4_repeats_95 hl (k := 2) rfl (nI_1 rz) (by decide) rfl (fun ls hl => ?_)
              refine lv_goto (tgt := 8) hx hb dX4_repeats_98 (by decide) ?_
              exact loopR_ih (rz + 1) gz ls (by omega) (by omega) (by omega) (by rw [hj2]; exact hV2) (lv_sub hl [1, 2, 0] rfl)
            · -- 24 fz
              have hle3 : iz + 3 * rz ≤ ν1 6 0 := Nat.not_lt.mp fun q => c_24 ((nI_ltI (by omega) (by omega)).mpr q)
              obtain ⟨j3, hj3⟩ : ∃ j, ν1 6 0 + 1 - iz = j + 1 := ⟨ν1 6 0 - iz, by omega⟩
              have hj4 : ν1 6 0 + 1 - (iz + 1) = j3 := by omega
              rw [hj3, frL, if_pos hle3] at hF
              refine lv_iconst (v := 1) hx hb dX4_repeats_27 (by decide) ?_
              refine lv_topi (fun y6 ey6 => ?_)
              obtain rfl : y6 = zb true := ey6.trans (rfl)
              refine lv_istore (lv' := [(4, .int (zb true)), (0, .ref (ad 0 0)), (1, .int (zb gz)), (2, .int (nI rz)), (3, .int (nI iz))]) hx hb dX4_repeats_28 hl (by decide) rfl (fun ls hl => ?_)
              refine lv_iload_n hx hb dX4_repeats_30 rfl (lv_at hl 4 rfl) ?_
              refine lv_istore (lv' := [(5, .int (nI iz)), (4, .int (zb true)), (0, .ref (ad 0 0)), (1, .int (zb gz)), (2, .int (nI rz)), (3, .int (nI iz))]) hx hb dX4_repeats_31 hl (by decide) rfl (fun ls hl => ?_)
              obtain ⟨G, hG⟩ : ∃ G, G = allF (fun iz => sameM σ ν1 iz (iz + rz)) (iz + 2 * rz - iz) iz true := ⟨_, rfl⟩
              have hG0 : allF (fun iz => sameM σ ν1 iz (iz + rz)) (2 * rz) iz true = G := by rw [hG, Nat.add_sub_cancel_left]
              rw [hG0] at hF
              have loopK : ∀ (k : Nat) (uz : Nat) (bz : Bool) (ls : Array Slot), iz ≤ uz → uz ≤ iz + 2 * rz → iz + 2 * rz < uz + k → G = allF (fun iz => sameM σ ν1 iz (iz + rz)) (iz + 2 * rz - uz) uz bz → lv_has ls 6 [(0, .ref (ad 0 0)), (1, .int (zb gz)), (2, .int (nI rz)), (3, .int (nI iz)), (4, .int (zb bz)), (5, .int (nI uz))] → W p l e (headSpec wsX4_repeats ({ frames := 1, cells := 0, slots := 0, locals := 30 } : Room)).room s m ([.ref (ad 0 0)] : List Value).toArray below meth c H1 locs1 0 0 (MQ below (uQ (some (.int (zb V))) (MW D cy ad σ (layN (σ 6) ν (ν 1 0))) (wA cM ad s.heap.size)) ([.ref (ad 0 0)] : List Value).toArray s 0 0 (wA cM ad s.heap.size)) (F0 m 33 ls []) := by
                intro k
                induction k with
                | zero => intro uz bz ls hu0 hu1 hk3 hG hl; exfalso; omega
                | succ k loopK_ih =>
                  intro uz bz ls hu0 hu1 hk3 hG hl
                  refine lv_iload hx hb dX4_repeats_33 (lv_at hl 5 rfl) ?_
                  refine lv_iload_n hx hb dX4_repeats_35 rfl (lv_at hl 3 rfl) ?_
                  refine lv_iconst (v := 2) hx hb dX4_repeats_36 (by decide) ?_
                  refine lv_iload_n hx hb dX4_repeats_37 rfl (lv_at hl 2 rfl) ?_
                  refine lv_imul hx hb dX4_repeats_38 ?_
                  refine lv_topi (fun y7 ey7 => ?_)
                  obtain rfl : y7 = nI (2 * rz) := ey7.trans (pk_mul 2 _)
                  refine lv_iadd hx hb dX4_repeats_39 ?_
                  refine lv_topi (fun y8 ey8 => ?_)
                  obtain rfl : y8 = nI (iz + 2 * rz) := ey8.trans (nI_add _ _)
                  refine lv_icmp_ge (tgt := 74) hx hb dX4_repeats_40 (by decide) (fun c_40 => ?_) (fun c_40 => ?_)
                  · -- 40 t
                    have hle5 : iz + 2 * rz ≤ uz := (nI_leI (by omega) (by omega)).mp c_40
                    rw [show iz + 2 * rz - uz = 0 by omega, allF] at hG
                    have hG := hG.symm
                    subst hG
                    refine lv_iload_n hx hb dX4_repeats_74 rfl (lv_at hl 1 rfl) ?_
                    refine lv_if_ne (tgt := 83) hx hb dX4_repeats_75 (by decide) (fun c_75 => ?_) (fun c_75 => ?_)
                    · -- 75 t
                      refine lv_iconst (v := 1) hx hb dX4_repeats_83 (by decide) ?_
                      refine lv_goto (tgt := 88) hx hb dX4_repeats_84 (by decide) ?_
                      refine lv_topi (fun y9 ey9 => ?_)
                      obtain rfl : y9 = zb (gz || bz) := ey9.trans ((by rw [(zb_n0.mp c_75 : gz = true)]; rfl))
                      refine lv_istore_n (lv' := [(1, .int (zb (gz || bz))), (0, .ref (ad 0 0)), (2, .int (nI rz)), (3, .int (nI iz)), (4, .int (zb bz)), (5, .int (nI uz))]) hx hb dX4_repeats_88 rfl hl (by decide) rfl (fun ls hl => ?_)
                      refine lv_iinc (v := nI (iz + 1)) (lv' := [(3, .int (nI (iz + 1))), (1, .int (zb (gz || bz))), (0, .ref (ad 0 0)), (2, .int (nI rz)), (4, .int (zb bz)), (5, .int (nI uz))]) hx hb dX4_repeats_89 hl (k := 3) rfl (nI_1 iz) (by decide) rfl (fun ls hl => ?_)
                      refine lv_goto (tgt := 15) hx hb dX4_repeats_92 (by decide) ?_
                      exact loopF_ih (iz + 1) (gz || bz) ls (by omega) (by omega) (by rw [hj4]; exact hF) (lv_sub hl [2, 1, 3, 0] rfl)
                    · -- 75 fz
                      refine lv_iload hx hb dX4_repeats_78 (lv_at hl 4 rfl) ?_
                      refine lv_if_eq (tgt := 87) hx hb dX4_repeats_80 (by decide) (fun c_80 => ?_) (fun c_80 => ?_)
                      · -- 80 t
                        refine lv_iconst (v := 0) hx hb dX4_repeats_87 (by decide) ?_
                        refine lv_topi (fun y10 ey10 => ?_)
                        obtain rfl : y10 = zb (gz || bz) := ey10.trans ((by rw [(zb_0.mp c_75 : gz = false), (zb_0.mp c_80 : bz = false)]; rfl))
                        refine lv_istore_n (lv' := [(1, .int (zb (gz || bz))), (0, .ref (ad 0 0)), (2, .int (nI rz)), (3, .int (nI iz)), (4, .int (zb bz)), (5, .int (nI uz))]) hx hb dX4_repeats_88 rfl hl (by decide) rfl (fun ls hl => ?_)
                        refine lv_iinc (v := nI (iz + 1)) (lv' := [(3, .int (nI (iz + 1))), (1, .int (zb (gz || bz))), (0, .ref (ad 0 0)), (2, .int (nI rz)), (4, .int (zb bz)), (5, .int (nI uz))]) hx hb dX4_repeats_89 hl (k := 3) rfl (nI_1 iz) (by decide) rfl (fun ls hl => ?_)
                        refine lv_goto (tgt := 15) hx hb dX4_repeats_92 (by decide) ?_
                        exact loopF_ih (iz + 1) (gz || bz) ls (by omega) (by omega) (by rw [hj4]; exact hF) (lv_sub hl [2, 1, 3, 0] rfl)
                      · -- 80 fz
                        refine lv_iconst (v := 1) hx hb dX4_repeats_83 (by decide) ?_
                        refine lv_goto (tgt := 88) hx hb dX4_repeats_84 (by decide) ?_
                        refine lv_topi (fun y11 ey11 => ?_)
                        obtain rfl : y11 = zb (gz || bz) := ey11.trans ((by rw [(zb_n0.mp c_80 : bz = true), Bool.or_true]; rfl))
                        refine lv_istore_n (lv' := [(1, .int (zb (gz || bz))), (0, .ref (ad 0 0)), (2, .int (nI rz)), (3, .int (nI iz)), (4, .int (zb bz)), (5, .int (nI uz))]) hx hb dX4_repeats_88 rfl hl (by decide) rfl (fun ls hl => ?_)
                        refine lv_iinc (v := nI (iz + 1)) (lv' := [(3, .int (nI (iz + 1))), (1, .int (zb (gz || bz))), (0, .ref (ad 0 0)), (2, .int (nI rz)), (4, .int (zb bz)), (5, .int (nI uz))]) hx hb dX4_repeats_89 hl (k := 3) rfl (nI_1 iz) (by decide) rfl (fun ls hl => ?_)
                        refine lv_goto (tgt := 15) hx hb dX4_repeats_92 (by decide) ?_
                        exact loopF_ih (iz + 1) (gz || bz) ls (by omega) (by omega) (by rw [hj4]; exact hF) (lv_sub hl [2, 1, 3, 0] rfl)
                  · -- 40 fz
                    have hlt5 : uz < iz + 2 * rz := Nat.not_le.mp fun q => c_40 ((nI_leI (by omega) (by omega)).mpr q)
                    obtain ⟨j5, hj5⟩ : ∃ j, iz + 2 * rz - uz = j + 1 := ⟨iz + 2 * rz - uz - 1, by omega⟩
                    have hj6 : iz + 2 * rz - (uz + 1) = j5 := by omega
                    rw [hj5, allF] at hG
                    refine lv_iload hx hb dX4_repeats_43 (lv_at hl 4 rfl) ?_
                    refine lv_if_eq (tgt := 65) hx hb dX4_repeats_45 (by decide) (fun c_45 => ?_) (fun c_45 => ?_)
                    · -- 45 t
                      refine lv_iconst (v := 0) hx hb dX4_repeats_65 (by decide) ?_
                      refine lv_topi (fun y12 ey12 => ?_)
                      obtain rfl : y12 = zb (bz && sameM σ ν1 uz (uz + rz)) := ey12.trans ((by rw [(zb_0.mp c_45 : bz = false)]; rfl))
                      refine lv_istore (lv' := [(4, .int (zb (bz && sameM σ ν1 uz (uz + rz)))), (0, .ref (ad 0 0)), (1, .int (zb gz)), (2, .int (nI rz)), (3, .int (nI iz)), (5, .int (nI uz))]) hx hb dX4_repeats_66 hl (by decide) rfl (fun ls hl => ?_)
                      refine lv_iinc (v := nI (uz + 1)) (lv' := [(5, .int (nI (uz + 1))), (4, .int (zb (bz && sameM σ ν1 uz (uz + rz)))), (0, .ref (ad 0 0)), (1, .int (zb gz)), (2, .int (nI rz)), (3, .int (nI iz))]) hx hb dX4_repeats_68 hl (k := 5) rfl (nI_1 uz) (by decide) rfl (fun ls hl => ?_)
                      refine lv_goto (tgt := 33) hx hb dX4_repeats_71 (by decide) ?_
                      exact loopK_ih (uz + 1) (bz && sameM σ ν1 uz (uz + rz)) ls (by omega) (by omega) (by omega) (by rw [hj6]; exact hG) (lv_sub hl [2, 3, 4, 5, 1, 0] rfl)
                    · -- 45 fz
                      refine lv_aload_n hx hb dX4_repeats_48 rfl (lv_at hl 0 rfl) ?_
                      refine lv_iload hx hb dX4_repeats_49 (lv_at hl 5 rfl) ?_
                      refine lv_iload hx hb dX4_repeats_51 (lv_at hl 5 rfl) ?_
                      refine lv_iload_n hx hb dX4_repeats_53 rfl (lv_at hl 2 rfl) ?_
                      refine lv_iadd hx hb dX4_repeats_54 ?_
                      refine lv_topi (fun y13 ey13 => ?_)
                      obtain rfl : y13 = nI (uz + rz) := ey13.trans (nI_add _ _)
                      refine g_csr (va_runV (As := [.int (nI uz), .int (nI (uz + rz))]) (rest := []) ⟨hx, hb, hml, hown, hts⟩ (m_X4_areSame l D cy ad σ ν1 hm (by omega) uz (uz + rz) (by omega) (by omega)) (cwV 2 hts gX4_repeats_X4_areSame rfl rfl rfl (by decide +kernel) ⟨Nat.le_of_ble_eq_true rfl, Nat.le_of_ble_eq_true rfl⟩) (g_preV (C := RX4) (B := (MW D cy ad σ ν1)) hK hB1 (hB1 0 0 Nat.zero_lt_one) rfl) rfl rfl hl.1 rfl (lv_room (Nat.le_of_ble_eq_true rfl)) dX4_repeats_55 ⟨Nat.zero_le _, Nat.zero_le _⟩) ?_
                      refine lv_if_eq (tgt := 65) hx hb dX4_repeats_58 (by decide) (fun c_58 => ?_) (fun c_58 => ?_)
                      · -- 58 t
                        refine lv_iconst (v := 0) hx hb dX4_repeats_65 (by decide) ?_
                        refine lv_topi (fun y14 ey14 => ?_)
                        obtain rfl : y14 = zb (bz && sameM σ ν1 uz (uz + rz)) := ey14.trans ((by rw [(zb_n0.mp c_45 : bz = true), (zb_0.mp c_58 : sameM σ ν1 uz (uz + rz) = false)]; rfl))
                        refine lv_istore (lv' := [(4, .int (zb (bz && sameM σ ν1 uz (uz + rz)))), (0, .ref (ad 0 0)), (1, .int (zb gz)), (2, .int (nI rz)), (3, .int (nI iz)), (5, .int (nI uz))]) hx hb dX4_repeats_66 hl (by decide) rfl (fun ls hl => ?_)
                        refine lv_iinc (v := nI (uz + 1)) (lv' := [(5, .int (nI (uz + 1))), (4, .int (zb (bz && sameM σ ν1 uz (uz + rz)))), (0, .ref (ad 0 0)), (1, .int (zb gz)), (2, .int (nI rz)), (3, .int (nI iz))]) hx hb dX4_repeats_68 hl (k := 5) rfl (nI_1 uz) (by decide) rfl (fun ls hl => ?_)
                        refine lv_goto (tgt := 33) hx hb dX4_repeats_71 (by decide) ?_
                        exact loopK_ih (uz + 1) (bz && sameM σ ν1 uz (uz + rz)) ls (by omega) (by omega) (by omega) (by rw [hj6]; exact hG) (lv_sub hl [2, 3, 4, 5, 1, 0] rfl)
                      · -- 58 fz
                        refine lv_iconst (v := 1) hx hb dX4_repeats_61 (by decide) ?_
                        refine lv_goto (tgt := 66) hx hb dX4_repeats_62 (by decide) ?_
                        refine lv_topi (fun y15 ey15 => ?_)
                        obtain rfl : y15 = zb (bz && sameM σ ν1 uz (uz + rz)) := ey15.trans ((by rw [(zb_n0.mp c_45 : bz = true), (zb_n0.mp c_58 : sameM σ ν1 uz (uz + rz) = true)]; rfl))
                        refine lv_istore (lv' := [(4, .int (zb (bz && sameM σ ν1 uz (uz + rz)))), (0, .ref (ad 0 0)), (1, .int (zb gz)), (2, .int (nI rz)), (3, .int (nI iz)), (5, .int (nI uz))]) hx hb dX4_repeats_66 hl (by decide) rfl (fun ls hl => ?_)
                        refine lv_iinc (v := nI (uz + 1)) (lv' := [(5, .int (nI (uz + 1))), (4, .int (zb (bz && sameM σ ν1 uz (uz + rz)))), (0, .ref (ad 0 0)), (1, .int (zb gz)), (2, .int (nI rz)), (3, .int (nI iz))]) hx hb dX4_repeats_68 hl (k := 5) rfl (nI_1 uz) (by decide) rfl (fun ls hl => ?_)
                        refine lv_goto (tgt := 33) hx hb dX4_repeats_71 (by decide) ?_
                        exact loopK_ih (uz + 1) (bz && sameM σ ν1 uz (uz + rz)) ls (by omega) (by omega) (by omega) (by rw [hj6]; exact hG) (lv_sub hl [2, 3, 4, 5, 1, 0] rfl)
              exact loopK (2 * rz + 1) iz true ls (Nat.le_refl _) (by omega) (by omega) hG (lv_sub hl [2, 3, 4, 5, 1, 0] rfl)
        exact loopF (ν1 6 0 + 1) 0 fz ls (Nat.zero_le _) (by omega) hF (lv_sub hl [1, 2, 3, 0] rfl)
  exact loopR (4) 1 false ls (by decide) (by decide) (by decide) hV (lv_sub hl [2, 1, 0] rfl)


def pressM (σ : IT) (p : Nat) : Int32 := pressF (σ 10 p) (σ 11 p) (σ 0 0)
def btB (σ : IT) (ν : NT) (p : Nat) (f : Option Nat) (m : Int32) : Bool := openB σ ν p && (match f with | none => true | some j => decide (m < pressM σ p) || (decide (pressM σ p = m) && decide (σ 10 j < σ 10 p)))
def bestM (σ : IT) (ν : NT) : Nat → Nat → Option Nat → Int32 → Option Nat
  | 0, _, f, _ => f
  | k + 1, p, f, m => bestM σ ν k (p + 1) (if btB σ ν p f m = true then some p else f) (if btB σ ν p f m = true then pressM σ p else m)
theorem numO_n1 {f : Option Nat} {n : Nat} (hf : ∀ a, f = some a → a < n) (hn : n ≤ 2 ^ 30) : numO f = -1 ↔ f = none := by
  cases f with
  | none => exact ⟨fun _ => rfl, fun _ => rfl⟩
  | some a =>
    have := hf a rfl
    refine ⟨fun h => ?_, fun h => nomatch h⟩
    have h2 : (nI a).toInt = -1 := by rw [show nI a = -1 from h]; decide
    rw [nI_toInt (by omega)] at h2
    omega

set_option maxHeartbeats 4000000 in
set_option maxRecDepth 100000 in
/-- model: best -/
theorem m_X4_best (l : Launch) (D : va_G) (cy : Nat → ClassId) (ad : NT) (σ : IT) (ν : NT) (hI : MI σ ν) : Met l yX4_best wsX4_best ({ frames := 2, cells := 0, slots := 0, locals := 60 } : Room) (va_Pc [.ref (ad 0 0)] (fun U => gK D cy U ∧ (MW D cy ad σ ν) U.heap)) (rQ (some (.int (numO (bestM σ ν (ν 0 0) 0 none 0))))) 0 0 (fun _ => False) := by
  refine Met.ofW (cc := cX4_best) (maxL := 6) (ret := (some .int)) (by decide) rfl ?_
  intro p e s m args below meth c s₁ B9 hml hv
  obtain ⟨rfl, hK, hB⟩ := hv
  have hx := B9.exec
  have hb := B9.bytes
  have hr := B9.returns
  have hts := atoms_spec (ws := wsX4_best) B9.pre
  have hown : s.vm.findClass RX4 = some m.cls := findClass_of_methodNamed B9.named
  have hlocks := B9.notSynchronized
  have lk76 := hts (.fieldLink RX4 76 "PolitecrawlModel" "pages" "I") (by decide +kernel)
  have inX4 : ∀ w ∈ u_ws RX4 TX4 26, w ∈ wsX4_best := by decide +kernel
  have lk41 := hts (.fieldLink RX4 41 "PolitecrawlModel" "rank" "[I") (by decide +kernel)
  have lk110 := hts (.fieldLink RX4 110 "PolitecrawlModel" "now" "I") (by decide +kernel)
  have lk44 := hts (.fieldLink RX4 44 "PolitecrawlModel" "due" "[I") (by decide +kernel)
  have hl := lv_entry ([.ref (ad 0 0)]) (n := 6) (Nat.le_of_ble_eq_true rfl)
  rw [lg_entry_eq]
  generalize (lg_sl ([.ref (ad 0 0)]) ++ List.replicate (6 - (lg_sl ([.ref (ad 0 0)])).length) Slot.unset).toArray = ls at hl ⊢
  have hl : lv_has ls 6 [(0, .ref (ad 0 0))] := hl
  have hn30 := hI.1
  obtain ⟨V, hV⟩ : ∃ V, V = numO (bestM σ ν (ν 0 0 - 0) 0 none 0) := ⟨_, rfl⟩
  have hV0 : numO (bestM σ ν (ν 0 0) 0 none 0) = V := hV.symm
  rw [hV0]
  refine lv_iconst (v := (-1)) hx hb dX4_best_0 (by decide) ?_
  refine lv_istore_n (lv' := [(1, .int (-1)), (0, .ref (ad 0 0))]) hx hb dX4_best_1 rfl hl (by decide) rfl (fun ls hl => ?_)
  refine lv_iconst (v := 0) hx hb dX4_best_2 (by decide) ?_
  refine lv_istore_n (lv' := [(2, .int 0), (1, .int (-1)), (0, .ref (ad 0 0))]) hx hb dX4_best_3 rfl hl (by decide) rfl (fun ls hl => ?_)
  refine lv_iconst (v := 0) hx hb dX4_best_4 (by decide) ?_
  refine lv_topi (fun y1 ey1 => ?_)
  obtain rfl : y1 = nI 0 := ey1.trans (nI_0.symm)
  refine lv_istore_n (lv' := [(3, .int (nI 0)), (2, .int 0), (1, .int (-1)), (0, .ref (ad 0 0))]) hx hb dX4_best_5 rfl hl (by decide) rfl (fun ls hl => ?_)
  have loop : ∀ (k : Nat) (pz : Nat) (fz : Option Nat) (mz : Int32) (ls : Array Slot), pz ≤ ν 0 0 → (∀ a, fz = some a → a < ν 0 0) → ν 0 0 < pz + k → V = numO (bestM σ ν (ν 0 0 - pz) pz fz mz) → lv_has ls 6 [(0, .ref (ad 0 0)), (1, .int (numO fz)), (2, .int mz), (3, .int (nI pz))] → W p l e (headSpec wsX4_best ({ frames := 2, cells := 0, slots := 0, locals := 60 } : Room)).room s m ([.ref (ad 0 0)] : List Value).toArray below meth c s.heap [] 0 0 (MQ below (rQ (some (.int V))) ([.ref (ad 0 0)] : List Value).toArray s 0 0 (fun _ => False)) (F0 m 6 ls []) := by
    intro k
    induction k with
    | zero => intro pz fz mz ls hi hf hk hV hl; exfalso; omega
    | succ k loop_ih =>
      intro pz fz mz ls hi hf hk hV hl
      refine lv_iload_n hx hb dX4_best_6 rfl (lv_at hl 3 rfl) ?_
      refine lv_aload_n hx hb dX4_best_7 rfl (lv_at hl 0 rfl) ?_
      refine g_get (C := RX4) (T := TX4) (N := 26) (ci := 4) (fs := [.int (σ 30 0), .int (σ 0 0), .int (nI (ν 1 0)), .ref (ad 6 0), .ref (ad 7 0), .ref (ad 8 0), .ref (ad 9 0), .int (σ 1 0), .int (σ 2 0), .int (σ 3 0), .int (σ 31 0), .int (σ 32 0), .int (nI (ν 0 0)), .ref (ad 18 0), .ref (ad 17 0), .ref (ad 16 0), .ref (ad 10 0), .ref (ad 11 0), .ref (ad 12 0), .ref (ad 13 0), .ref (ad 14 0), .ref (ad 15 0), .int (nI (ν 6 0)), .ref (ad 34 0), .ref (ad 35 0), .ref (ad 36 0)]) hx hb hts inX4 hown hK (hB 0 0 Nat.zero_lt_one) rfl 12 (by decide) lk76 rfl rfl dX4_best_8 ?_
      refine lv_icmp_ge (tgt := 113) hx hb dX4_best_11 (by decide) (fun c_11 => ?_) (fun c_11 => ?_)
      · -- 11 t
        have hle : ν 0 0 ≤ pz := (nI_leI (by omega) (by omega)).mp c_11
        rw [show ν 0 0 - pz = 0 by omega, bestM] at hV
        refine lv_iload_n hx hb dX4_best_113 rfl (lv_at hl 1 rfl) ?_
        exact g_iret hx hb hr hlocks dX4_best_114 (by rw [hV])
      · -- 11 f
        have hlt : pz < ν 0 0 := Nat.not_le.mp fun q => c_11 ((nI_leI (by omega) (by omega)).mpr q)
        have hp30 : pz < 30 := Nat.lt_of_lt_of_le hlt hI.1
        obtain ⟨j, hj⟩ : ∃ j, ν 0 0 - pz = j + 1 := ⟨ν 0 0 - pz - 1, by omega⟩
        have hj2 : ν 0 0 - (pz + 1) = j := by omega
        rw [hj, bestM] at hV
        refine lv_bipush (v := 10) hx hb dX4_best_14 (by decide) ?_
        refine lv_aload_n hx hb dX4_best_16 rfl (lv_at hl 0 rfl) ?_
        refine g_get (C := RX4) (T := TX4) (N := 26) (ci := 4) (fs := [.int (σ 30 0), .int (σ 0 0), .int (nI (ν 1 0)), .ref (ad 6 0), .ref (ad 7 0), .ref (ad 8 0), .ref (ad 9 0), .int (σ 1 0), .int (σ 2 0), .int (σ 3 0), .int (σ 31 0), .int (σ 32 0), .int (nI (ν 0 0)), .ref (ad 18 0), .ref (ad 17 0), .ref (ad 16 0), .ref (ad 10 0), .ref (ad 11 0), .ref (ad 12 0), .ref (ad 13 0), .ref (ad 14 0), .ref (ad 15 0), .int (nI (ν 6 0)), .ref (ad 34 0), .ref (ad 35 0), .ref (ad 36 0)]) hx hb hts inX4 hown hK (hB 0 0 Nat.zero_lt_one) rfl 16 (by decide) lk41 rfl rfl dX4_best_17 ?_
        refine lv_iload_n hx hb dX4_best_20 rfl (lv_at hl 3 rfl) ?_
        refine g_iald (f := σ 10) (x := σ 10 pz) hx hb hK (hB 10 0 Nat.zero_lt_one) (vp_in_nI (N := 30) (by omega) (by decide)) (by rw [cl_nI (by omega)]) dX4_best_21 ?_
        refine lv_imul hx hb dX4_best_22 ?_
        refine lv_aload_n hx hb dX4_best_23 rfl (lv_at hl 0 rfl) ?_
        refine g_get (C := RX4) (T := TX4) (N := 26) (ci := 4) (fs := [.int (σ 30 0), .int (σ 0 0), .int (nI (ν 1 0)), .ref (ad 6 0), .ref (ad 7 0), .ref (ad 8 0), .ref (ad 9 0), .int (σ 1 0), .int (σ 2 0), .int (σ 3 0), .int (σ 31 0), .int (σ 32 0), .int (nI (ν 0 0)), .ref (ad 18 0), .ref (ad 17 0), .ref (ad 16 0), .ref (ad 10 0), .ref (ad 11 0), .ref (ad 12 0), .ref (ad 13 0), .ref (ad 14 0), .ref (ad 15 0), .int (nI (ν 6 0)), .ref (ad 34 0), .ref (ad 35 0), .ref (ad 36 0)]) hx hb hts inX4 hown hK (hB 0 0 Nat.zero_lt_one) rfl 1 (by decide) lk110 rfl rfl dX4_best_24 ?_
        refine lv_iadd hx hb dX4_best_27 ?_
        refine lv_aload_n hx hb dX4_best_28 rfl (lv_at hl 0 rfl) ?_
        refine g_get (C := RX4) (T := TX4) (N := 26) (ci := 4) (fs := [.int (σ 30 0), .int (σ 0 0), .int (nI (ν 1 0)), .ref (ad 6 0), .ref (ad 7 0), .ref (ad 8 0), .ref (ad 9 0), .int (σ 1 0), .int (σ 2 0), .int (σ 3 0), .int (σ 31 0), .int (σ 32 0), .int (nI (ν 0 0)), .ref (ad 18 0), .ref (ad 17 0), .ref (ad 16 0), .ref (ad 10 0), .ref (ad 11 0), .ref (ad 12 0), .ref (ad 13 0), .ref (ad 14 0), .ref (ad 15 0), .int (nI (ν 6 0)), .ref (ad 34 0), .ref (ad 35 0), .ref (ad 36 0)]) hx hb hts inX4 hown hK (hB 0 0 Nat.zero_lt_one) rfl 17 (by decide) lk44 rfl rfl dX4_best_29 ?_
        refine lv_iload_n hx hb dX4_best_32 rfl (lv_at hl 3 rfl) ?_
        refine g_iald (f := σ 11) (x := σ 11 pz) hx hb hK (hB 11 0 Nat.zero_lt_one) (vp_in_nI (N := 30) (by omega) (by decide)) (by rw [cl_nI (by omega)]) dX4_best_33 ?_
        refine lv_isub hx hb dX4_best_34 ?_
        refine lv_topi (fun y2 ey2 => ?_)
        obtain rfl : y2 = pressM σ pz := ey2.trans (rfl)
        refine lv_istore (lv' := [(4, .int (pressM σ pz)), (0, .ref (ad 0 0)), (1, .int (numO fz)), (2, .int mz), (3, .int (nI pz))]) hx hb dX4_best_35 hl (by decide) rfl (fun ls hl => ?_)
        refine lv_aload_n hx hb dX4_best_37 rfl (lv_at hl 1 rfl) ?_
        refine lv_iload_n hx hb dX4_best_38 rfl (lv_at hl 4 rfl) ?_
        refine g_csr (va_runV (As := [.int (nI pz)]) (rest := []) ⟨hx, hb, hml, hown, hts⟩ (m_X4_isOpen l D cy ad σ ν hI pz hlt) (cwV 1 hts gX4_best_X4_isOpen rfl rfl rfl (by decide +kernel) ⟨Nat.le_of_ble_eq_true rfl, Nat.le_of_ble_eq_true rfl⟩) (g_preV (C := RX4) (B := (MW D cy ad σ ν)) hK hB (hB 0 0 Nat.zero_lt_one) rfl) rfl rfl hl.1 rfl (lv_room (Nat.le_of_ble_eq_true rfl)) dX4_best_39 ⟨Nat.zero_le _, Nat.zero_le _⟩) ?_
        have k_82 : ∀ zb9 : Int32, zb9 = zb (btB σ ν pz fz mz) → W p l e (headSpec wsX4_best ({ frames := 2, cells := 0, slots := 0, locals := 60 } : Room)).room s m ([.ref (ad 0 0)] : List Value).toArray below meth c s.heap [] 0 0 (MQ below (rQ (some (.int V))) ([.ref (ad 0 0)] : List Value).toArray s 0 0 (fun _ => False)) (F0 m 82 ls [.int zb9]) := by
          intro zb9 ezb
          refine lv_istore (lv' := [(5, .int zb9), (4, .int (pressM σ pz)), (0, .ref (ad 0 0)), (1, .int (numO fz)), (2, .int mz), (3, .int (nI pz))]) hx hb dX4_best_82 hl (by decide) rfl (fun ls hl => ?_)
          refine lv_iload hx hb dX4_best_84 (lv_at hl 0 rfl) ?_
          refine lv_if_eq (tgt := 93) hx hb dX4_best_86 (by decide) (fun c_86 => ?_) (fun c_86 => ?_)
          · -- 86 t
            have b9 : btB σ ν pz fz mz = false := zb_0.mp (by rw [← ezb]; exact c_86)
            simp only [b9, Bool.false_eq_true, if_false] at hV
            refine lv_iload_n hx hb dX4_best_93 rfl (lv_at hl 3 rfl) ?_
            refine lv_topi (fun y3 ey3 => ?_)
            obtain rfl : y3 = numO fz := ey3.trans (rfl)
            refine lv_istore_n (lv' := [(1, .int (numO fz)), (5, .int zb9), (4, .int (pressM σ pz)), (0, .ref (ad 0 0)), (2, .int mz), (3, .int (nI pz))]) hx hb dX4_best_94 rfl hl (by decide) rfl (fun ls hl => ?_)
            refine lv_iload hx hb dX4_best_95 (lv_at hl 1 rfl) ?_
            refine lv_if_eq (tgt := 105) hx hb dX4_best_97 (by decide) (fun c_97 => ?_) (fun c_97 => ?_)
            · -- 97 t
              refine lv_iload_n hx hb dX4_best_105 rfl (lv_at hl 4 rfl) ?_
              refine lv_istore_n (lv' := [(2, .int mz), (1, .int (numO fz)), (5, .int zb9), (4, .int (pressM σ pz)), (0, .ref (ad 0 0)), (3, .int (nI pz))]) hx hb dX4_best_106 rfl hl (by decide) rfl (fun ls hl => ?_)
              refine lv_iinc (v := nI (pz + 1)) (lv' := [(3, .int (nI (pz + 1))), (2, .int mz), (1, .int (numO fz)), (5, .int zb9), (4, .int (pressM σ pz)), (0, .ref (ad 0 0))]) hx hb dX4_best_107 hl (k := 5) rfl (nI_1 pz) (by decide) rfl (fun ls hl => ?_)
              refine lv_goto (tgt := 6) hx hb dX4_best_110 (by decide) ?_
              exact loop_ih (pz + 1) fz mz ls (by omega) hf (by omega) (by rw [hj2]; exact hV) (lv_sub hl [5, 2, 1, 0] rfl)
            · -- 97 f
              exact absurd c_86 c_97
          · -- 86 f
            have b9 : btB σ ν pz fz mz = true := zb_n0.mp (by rw [← ezb]; exact c_86)
            simp only [b9, if_true] at hV
            refine lv_iload_n hx hb dX4_best_89 rfl (lv_at hl 5 rfl) ?_
            refine lv_goto (tgt := 94) hx hb dX4_best_90 (by decide) ?_
            refine lv_topi (fun y4 ey4 => ?_)
            obtain rfl : y4 = numO (some pz) := ey4.trans (rfl)
            refine lv_istore_n (lv' := [(1, .int (numO (some pz))), (5, .int zb9), (4, .int (pressM σ pz)), (0, .ref (ad 0 0)), (2, .int mz), (3, .int (nI pz))]) hx hb dX4_best_94 rfl hl (by decide) rfl (fun ls hl => ?_)
            refine lv_iload hx hb dX4_best_95 (lv_at hl 1 rfl) ?_
            refine lv_if_eq (tgt := 105) hx hb dX4_best_97 (by decide) (fun c_97 => ?_) (fun c_97 => ?_)
            · -- 97 t
              exact absurd c_97 c_86
            · -- 97 f
              refine lv_iload hx hb dX4_best_100 (lv_at hl 2 rfl) ?_
              refine lv_goto (tgt := 106) hx hb dX4_best_102 (by decide) ?_
              refine lv_istore_n (lv' := [(2, .int (pressM σ pz)), (1, .int (numO (some pz))), (5, .int zb9), (4, .int (pressM σ pz)), (0, .ref (ad 0 0)), (3, .int (nI pz))]) hx hb dX4_best_106 rfl hl (by decide) rfl (fun ls hl => ?_)
              refine lv_iinc (v := nI (pz + 1)) (lv' := [(3, .int (nI (pz + 1))), (2, .int (pressM σ pz)), (1, .int (numO (some pz))), (5, .int zb9), (4, .int (pressM σ pz)), (0, .ref (ad 0 0))]) hx hb dX4_best_107 hl (k := 5) rfl (nI_1 pz) (by decide) rfl (fun ls hl => ?_)
              refine lv_goto (tgt := 6) hx hb dX4_best_110 (by decide) ?_
              exact loop_ih (pz + 1) (some pz) (pressM σ pz) ls (by omega) (some_lt hlt) (by omega) (by rw [hj2]; exact hV) (lv_sub hl [5, 2, 1, 0] rfl)
        refine lv_if_eq (tgt := 81) hx hb dX4_best_42 (by decide) (fun c_42 => ?_) (fun c_42 => ?_)
        · -- 42 t
          refine lv_iconst (v := 0) hx hb dX4_best_81 (by decide) ?_
          exact k_82 _ (by rw [btB.eq_def, (zb_0.mp c_42 : openB σ ν pz = false), Bool.false_and]; rfl)
        · -- 42 f
          refine lv_iload_n hx hb dX4_best_45 rfl (lv_at hl 2 rfl) ?_
          refine lv_iconst (v := (-1)) hx hb dX4_best_46 (by decide) ?_
          refine lv_icmp_eq (tgt := 77) hx hb dX4_best_47 (by decide) (fun c_47 => ?_) (fun c_47 => ?_)
          · -- 47 t
            obtain rfl : fz = none := (numO_n1 hf (by omega)).mp c_47
            refine lv_iconst (v := 1) hx hb dX4_best_77 (by decide) ?_
            refine lv_goto (tgt := 82) hx hb dX4_best_78 (by decide) ?_
            exact k_82 _ (by rw [btB.eq_def, (zb_n0.mp c_42 : openB σ ν pz = true)]; rfl)
          · -- 47 f
            obtain ⟨jz, rfl⟩ : ∃ a, fz = some a := by cases fz with | none => exact absurd rfl c_47 | some a => exact ⟨a, rfl⟩
            have hjz : jz < 30 := Nat.lt_of_lt_of_le (hf jz rfl) hI.1
            have hl : lv_has ls 6 [(4, .int (pressM σ pz)), (0, .ref (ad 0 0)), (1, .int (nI jz)), (2, .int mz), (3, .int (nI pz))] := hl
            refine lv_iload hx hb dX4_best_50 (lv_at hl 0 rfl) ?_
            refine lv_iload_n hx hb dX4_best_52 rfl (lv_at hl 3 rfl) ?_
            refine lv_icmp_gt (tgt := 77) hx hb dX4_best_53 (by decide) (fun c_53 => ?_) (fun c_53 => ?_)
            · -- 53 t
              refine lv_iconst (v := 1) hx hb dX4_best_77 (by decide) ?_
              refine lv_goto (tgt := 82) hx hb dX4_best_78 (by decide) ?_
              exact k_82 _ (by rw [btB.eq_def, (zb_n0.mp c_42 : openB σ ν pz = true), Bool.true_and]; simp only [decide_eq_true c_53, Bool.true_or]; rfl)
            · -- 53 f
              refine lv_iload hx hb dX4_best_56 (lv_at hl 0 rfl) ?_
              refine lv_iload_n hx hb dX4_best_58 rfl (lv_at hl 3 rfl) ?_
              refine lv_icmp_ne (tgt := 81) hx hb dX4_best_59 (by decide) (fun c_59 => ?_) (fun c_59 => ?_)
              · -- 59 t
                refine lv_iconst (v := 0) hx hb dX4_best_81 (by decide) ?_
                exact k_82 _ (by rw [btB.eq_def, (zb_n0.mp c_42 : openB σ ν pz = true), Bool.true_and]; simp only [decide_eq_false c_53, decide_eq_false c_59, Bool.false_or, Bool.false_and]; rfl)
              · -- 59 f
                refine lv_aload_n hx hb dX4_best_62 rfl (lv_at hl 1 rfl) ?_
                refine g_get (C := RX4) (T := TX4) (N := 26) (ci := 4) (fs := [.int (σ 30 0), .int (σ 0 0), .int (nI (ν 1 0)), .ref (ad 6 0), .ref (ad 7 0), .ref (ad 8 0), .ref (ad 9 0), .int (σ 1 0), .int (σ 2 0), .int (σ 3 0), .int (σ 31 0), .int (σ 32 0), .int (nI (ν 0 0)), .ref (ad 18 0), .ref (ad 17 0), .ref (ad 16 0), .ref (ad 10 0), .ref (ad 11 0), .ref (ad 12 0), .ref (ad 13 0), .ref (ad 14 0), .ref (ad 15 0), .int (nI (ν 6 0)), .ref (ad 34 0), .ref (ad 35 0), .ref (ad 36 0)]) hx hb hts inX4 hown hK (hB 0 0 Nat.zero_lt_one) rfl 16 (by decide) lk41 rfl rfl dX4_best_63 ?_
                refine lv_iload_n hx hb dX4_best_66 rfl (lv_at hl 4 rfl) ?_
                refine g_iald (f := σ 10) (x := σ 10 pz) hx hb hK (hB 10 0 Nat.zero_lt_one) (vp_in_nI (N := 30) (by omega) (by decide)) (by rw [cl_nI (by omega)]) dX4_best_67 ?_
                refine lv_aload_n hx hb dX4_best_68 rfl (lv_at hl 1 rfl) ?_
                refine g_get (C := RX4) (T := TX4) (N := 26) (ci := 4) (fs := [.int (σ 30 0), .int (σ 0 0), .int (nI (ν 1 0)), .ref (ad 6 0), .ref (ad 7 0), .ref (ad 8 0), .ref (ad 9 0), .int (σ 1 0), .int (σ 2 0), .int (σ 3 0), .int (σ 31 0), .int (σ 32 0), .int (nI (ν 0 0)), .ref (ad 18 0), .ref (ad 17 0), .ref (ad 16 0), .ref (ad 10 0), .ref (ad 11 0), .ref (ad 12 0), .ref (ad 13 0), .ref (ad 14 0), .ref (ad 15 0), .int (nI (ν 6 0)), .ref (ad 34 0), .ref (ad 35 0), .ref (ad 36 0)]) hx hb hts inX4 hown hK (hB 0 0 Nat.zero_lt_one) rfl 16 (by decide) lk41 rfl rfl dX4_best_69 ?_
                refine lv_iload_n hx hb dX4_best_72 rfl (lv_at hl 2 rfl) ?_
                refine g_iald (f := σ 10) (x := σ 10 jz) hx hb hK (hB 10 0 Nat.zero_lt_one) (vp_in_nI (N := 30) (by omega) (by decide)) (by rw [cl_nI (by omega)]) dX4_best_73 ?_
                refine lv_icmp_le (tgt := 81) hx hb dX4_best_74 (by decide) (fun c_74 => ?_) (fun c_74 => ?_)
                · -- 74 t
                  refine lv_iconst (v := 0) hx hb dX4_best_81 (by decide) ?_
                  exact k_82 _ (by rw [btB.eq_def, (zb_n0.mp c_42 : openB σ ν pz = true), Bool.true_and]; simp only [decide_eq_false c_53, decide_eq_true c_59, decide_eq_false (Int32.not_lt.mpr c_74), Bool.false_or, Bool.true_and]; rfl)
                · -- 74 f
                  refine lv_iconst (v := 1) hx hb dX4_best_77 (by decide) ?_
                  refine lv_goto (tgt := 82) hx hb dX4_best_78 (by decide) ?_
                  exact k_82 _ (by rw [btB.eq_def, (zb_n0.mp c_42 : openB σ ν pz = true), Bool.true_and]; simp only [decide_eq_false c_53, decide_eq_true c_59, decide_eq_true (Int32.not_le.mp c_74), Bool.false_or, Bool.true_and]; rfl)
  exact loop (ν 0 0 + 1) 0 none 0 ls (Nat.zero_le _) (fun _ h => nomatch h) (by omega) hV (lv_sub hl [3, 2, 1, 0] rfl)
