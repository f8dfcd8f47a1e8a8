/-! PolitecrawlModel: find -/
def fdL (σ : IT) (ν : NT) (h : Int32) : Nat → Nat → Option Nat
  | 0, _ => none
  | k + 1, p => if nI (ν 5 p) = h ∧ sameT σ ν p = true then some p else fdL σ ν h k (p + 1)
/-- the text of page n -/
def txL (σ : IT) (n : Nat) : Nat → IT
  | 0 => σ
  | k + 1 => up2 (txL σ n k) 18 (30 * n + k) (txL σ n k 6 k)
theorem txL_k {σ : IT} {n : Nat} (k K i : Nat) (h : K ≠ 18) : txL σ n k K i = σ K i := by
  induction k with
  | zero => rfl
  | succ k ih => rw [txL, up2_k h]; exact ih
def fdX (σ : IT) (n : Nat) (r : Int32) : IT := up2 (up2 σ 10 n r) 11 n (σ 0 0)
def fdN (ν : NT) (h : Int32) : NT := up2 (up2 ν 3 (ν 0 0) (ν 1 0)) 5 (ν 0 0) h.toNatClampNeg
def fdS (σ : IT) (ν : NT) (h r : Int32) : IT := up2 (fdX (txL (T0 σ) (ν 0 0) (ν 1 0)) (ν 0 0) r) 15 (ν 0 0) (zb (repM (fdX (txL (T0 σ) (ν 0 0) (ν 1 0)) (ν 0 0) r) (fdN ν h)))
def fdM (σ : IT) (ν : NT) (h r : Int32) : NT := up2 (layN (fdX (txL (T0 σ) (ν 0 0) (ν 1 0)) (ν 0 0) r 6) (fdN ν h) (fdN ν h 1 0)) 0 0 (ν 0 0 + 1)
def fdA (σ : IT) (ν : NT) (h r : Int32) : Option Nat → Int32 × IT × NT
  | some p => (nI p, T0 σ, ν)
  | none => if ν 0 0 = 30 then (0, T1 σ 3, ν) else (nI (ν 0 0), fdS σ ν h r, fdM σ ν h r)
def oFind (σ : IT) (ν : NT) (h r : Int32) : Int32 × IT × NT := if hostB h = true then (if inB r 0 9 = true then fdA σ ν h r (fdL (T0 σ) ν h (ν 0 0) 0) else (0, T1 σ 2, ν)) else (0, T1 σ 1, ν)

set_option maxHeartbeats 4000000 in
set_option maxRecDepth 100000 in
/-- model: find -/
theorem m_X4_find (l : Launch) (D : va_G) (cy : Nat → ClassId) (sz : Nat) (ad : NT) (σ : IT) (ν : NT) (hJ : wJ cM ad) (hI : MI σ ν) (h r : Int32) : Met l yX4_find wsX4_find ({ frames := 3, cells := 0, slots := 0, locals := 90 } : Room) (va_Pc [.ref (ad 0 0), .int h, .int r] (fun U => gK D cy U ∧ (atSz sz (MW D cy ad σ ν)) U.heap)) (uQ (some (.int (oFind σ ν h r).1)) (MW D cy ad (oFind σ ν h r).2.1 (oFind σ ν h r).2.2) (wA cM ad sz)) 0 0 (wA cM ad sz) := by
  refine Met.ofW (cc := cX4_find) (maxL := 4) (ret := (some .int)) (by decide) rfl ?_
  intro p e s m args below meth c s₁ B9 hml hv
  obtain ⟨rfl, hK, hsz, hB⟩ := hv
  have hx := B9.exec
  have hb := B9.bytes
  have hr := B9.returns
  have hts := atoms_spec (ws := wsX4_find) B9.pre
  have hown : s.vm.findClass RX4 = some m.cls := findClass_of_methodNamed B9.named
  have hlocks := B9.notSynchronized
  subst hsz
  have hS : va_S (wA cM ad s.heap.size) s.heap s.heap [] := va_S.rf
  have lk69 := hts (.fieldLink RX4 69 "PolitecrawlModel" "thrown" "I") (by decide +kernel)
  have inX4 : ∀ w ∈ u_ws RX4 TX4 26, w ∈ wsX4_find := by decide +kernel
  have lk76 := hts (.fieldLink RX4 76 "PolitecrawlModel" "pages" "I") (by decide +kernel)
  have lk38 := hts (.fieldLink RX4 38 "PolitecrawlModel" "host" "[I") (by decide +kernel)
  have lk86 := hts (.fieldLink RX4 86 "PolitecrawlModel" "length" "I") (by decide +kernel)
  have lk32 := hts (.fieldLink RX4 32 "PolitecrawlModel" "text" "[I") (by decide +kernel)
  have lk7 := hts (.fieldLink RX4 7 "PolitecrawlModel" "buffer" "[I") (by decide +kernel)
  have lk35 := hts (.fieldLink RX4 35 "PolitecrawlModel" "size" "[I") (by decide +kernel)
  have lk41 := hts (.fieldLink RX4 41 "PolitecrawlModel" "rank" "[I") (by decide +kernel)
  have lk44 := hts (.fieldLink RX4 44 "PolitecrawlModel" "due" "[I") (by decide +kernel)
  have lk110 := hts (.fieldLink RX4 110 "PolitecrawlModel" "now" "I") (by decide +kernel)
  have lk57 := hts (.fieldLink RX4 57 "PolitecrawlModel" "lost" "[Z") (by decide +kernel)
  have hl := lv_entry ([.ref (ad 0 0), .int h, .int r]) (n := 4) (Nat.le_of_ble_eq_true rfl)
  rw [lg_entry_eq]
  generalize (lg_sl ([.ref (ad 0 0), .int h, .int r]) ++ List.replicate (4 - (lg_sl ([.ref (ad 0 0), .int h, .int r])).length) Slot.unset).toArray = ls at hl ⊢
  have hl : lv_has ls 4 [(0, .ref (ad 0 0)), (1, .int h), (2, .int r)] := hl
  have hn30 := hI.1
  have hl30 := hI.2.1
  refine lv_aload_n hx hb dX4_find_0 rfl (lv_at hl 0 rfl) ?_
  refine lv_iconst (v := 0) hx hb dX4_find_1 (by decide) ?_
  refine g_put (C := RX4) (T := TX4) (N := 26) (ci := 4) (fs := [.int (σ 30 0), .int (σ 0 0), .int (nI (ν 1 0)), .ref (ad 6 0), .ref (ad 7 0), .ref (ad 8 0), .ref (ad 9 0), .int (σ 1 0), .int (σ 2 0), .int (σ 3 0), .int (σ 31 0), .int (σ 32 0), .int (nI (ν 0 0)), .ref (ad 18 0), .ref (ad 17 0), .ref (ad 16 0), .ref (ad 10 0), .ref (ad 11 0), .ref (ad 12 0), .ref (ad 13 0), .ref (ad 14 0), .ref (ad 15 0), .int (nI (ν 6 0)), .ref (ad 34 0), .ref (ad 35 0), .ref (ad 36 0)]) (A := (wA cM ad s.heap.size)) hx hb hts inX4 tyX4 tyX4_ok nmX4 hown hK (hB 0 0 Nat.zero_lt_one) rfl hS (wA.in (k := 0) (i := 0) Nat.zero_lt_one) 0 (by decide) lk69 rfl rfl rfl rfl (Nat.le_of_ble_eq_true rfl) dX4_find_2 (fun H1 locs1 hc1 hu1 hS1 => ?_)
  have hB1 : MW D cy ad (up2 σ 30 0 0) ν H1 := hB.sc hJ (by decide) hc1 hu1
  obtain ⟨σ1, hs1⟩ : ∃ z : IT, z = up2 σ 30 0 0 := ⟨_, rfl⟩
  rw [← hs1] at hB1
  refine lv_iload_n hx hb dX4_find_5 rfl (lv_at hl 1 rfl) ?_
  refine g_csr (va_runS (As := [.int h]) (rest := []) ⟨hx, hb, hml, hown, hts⟩ (m_X4_isHost l D cy (h)) (va_cwS 1 hts gX4_find_X4_isHost rfl rfl rfl (by decide +kernel) ⟨Nat.le_of_ble_eq_true rfl, Nat.le_of_ble_eq_true rfl⟩) (g_preS (B := (fun _ => True)) hK trivial) rfl rfl hl.1 rfl (lv_room (Nat.le_of_ble_eq_true rfl)) dX4_find_6 ⟨Nat.zero_le _, Nat.zero_le _⟩) ?_
  refine lv_if_ne (tgt := 18) hx hb dX4_find_9 (by decide) (fun c_9 => ?_) (fun c_9 => ?_)
  · -- 9 t
    refine lv_iload_n hx hb dX4_find_18 rfl (lv_at hl 2 rfl) ?_
    refine lv_iconst (v := 0) hx hb dX4_find_19 (by decide) ?_
    refine lv_bipush (v := 9) hx hb dX4_find_20 (by decide) ?_
    refine g_csr (va_runS (As := [.int r, .int 0, .int 9]) (rest := []) ⟨hx, hb, hml, hown, hts⟩ (m_X4_in l D cy (r) (0) (9)) (va_cwS 3 hts gX4_find_X4_in rfl rfl rfl (by decide +kernel) ⟨Nat.le_of_ble_eq_true rfl, Nat.le_of_ble_eq_true rfl⟩) (g_preS (B := (fun _ => True)) hK trivial) rfl rfl hl.1 rfl (lv_room (Nat.le_of_ble_eq_true rfl)) dX4_find_22 ⟨Nat.zero_le _, Nat.zero_le _⟩) ?_
    refine lv_if_ne (tgt := 34) hx hb dX4_find_25 (by decide) (fun c_25 => ?_) (fun c_25 => ?_)
    · -- 25 t
      refine lv_iconst (v := 0) hx hb dX4_find_34 (by decide) ?_
      refine lv_topi (fun y1 ey1 => ?_)
      obtain rfl : y1 = nI 0 := ey1.trans (nI_0.symm)
      refine lv_istore_n (lv' := [(3, .int (nI 0)), (0, .ref (ad 0 0)), (1, .int h), (2, .int r)]) hx hb dX4_find_35 rfl hl (by decide) rfl (fun ls hl => ?_)
      obtain ⟨q0, hq0, eh⟩ := idx_host (zb_n0.mp c_9)
      have ec : h.toNatClampNeg = q0 := by rw [eh, cl_nI (by omega)]
      have loopA : ∀ (k : Nat) (iz : Nat) (ls : Array Slot), iz ≤ ν 0 0 → ν 0 0 < iz + k → fdL σ1 ν h (ν 0 0) 0 = fdL σ1 ν h (ν 0 0 - iz) iz → lv_has ls 4 [(0, .ref (ad 0 0)), (1, .int h), (2, .int r), (3, .int (nI iz))] → W p l e (headSpec wsX4_find ({ frames := 3, cells := 0, slots := 0, locals := 90 } : Room)).room s m ([.ref (ad 0 0), .int h, .int r] : List Value).toArray below meth c H1 locs1 0 0 (MQ below (uQ (some (.int (oFind σ ν h r).1)) (MW D cy ad (oFind σ ν h r).2.1 (oFind σ ν h r).2.2) (wA cM ad s.heap.size)) ([.ref (ad 0 0), .int h, .int r] : List Value).toArray s 0 0 (wA cM ad s.heap.size)) (F0 m 36 ls []) := by
        intro k
        induction k with
        | zero => intro iz ls hi hk hV hl; exfalso; omega
        | succ k loopA_ih =>
          intro iz ls hi hk hV hl
          refine lv_iload_n hx hb dX4_find_36 rfl (lv_at hl 3 rfl) ?_
          refine lv_aload_n hx hb dX4_find_37 rfl (lv_at hl 0 rfl) ?_
          refine g_get (C := RX4) (T := TX4) (N := 26) (ci := 4) (fs := [.int (σ1 30 0), .int (σ1 0 0), .int (nI (ν 1 0)), .ref (ad 6 0), .ref (ad 7 0), .ref (ad 8 0), .ref (ad 9 0), .int (σ1 1 0), .int (σ1 2 0), .int (σ1 3 0), .int (σ1 31 0), .int (σ1 32 0), .int (nI (ν 0 0)), .ref (ad 18 0), .ref (ad 17 0), .ref (ad 16 0), .ref (ad 10 0), .ref (ad 11 0), .ref (ad 12 0), .ref (ad 13 0), .ref (ad 14 0), .ref (ad 15 0), .int (nI (ν 6 0)), .ref (ad 34 0), .ref (ad 35 0), .ref (ad 36 0)]) hx hb hts inX4 hown hK (hB1 0 0 Nat.zero_lt_one) rfl 12 (by decide) lk76 rfl rfl dX4_find_38 ?_
          refine lv_icmp_ge (tgt := 70) hx hb dX4_find_41 (by decide) (fun c_41 => ?_) (fun c_41 => ?_)
          · -- 41 t
            have hle : ν 0 0 ≤ iz := (nI_leI (by omega) (by omega)).mp c_41
            rw [show ν 0 0 - iz = 0 by omega, fdL] at hV
            have hV0 : fdL (T0 σ) ν h (ν 0 0) 0 = none := by rw [← (show σ1 = T0 σ from hs1)]; exact hV
            refine lv_aload_n hx hb dX4_find_70 rfl (lv_at hl 0 rfl) ?_
            refine g_get (C := RX4) (T := TX4) (N := 26) (ci := 4) (fs := [.int (σ1 30 0), .int (σ1 0 0), .int (nI (ν 1 0)), .ref (ad 6 0), .ref (ad 7 0), .ref (ad 8 0), .ref (ad 9 0), .int (σ1 1 0), .int (σ1 2 0), .int (σ1 3 0), .int (σ1 31 0), .int (σ1 32 0), .int (nI (ν 0 0)), .ref (ad 18 0), .ref (ad 17 0), .ref (ad 16 0), .ref (ad 10 0), .ref (ad 11 0), .ref (ad 12 0), .ref (ad 13 0), .ref (ad 14 0), .ref (ad 15 0), .int (nI (ν 6 0)), .ref (ad 34 0), .ref (ad 35 0), .ref (ad 36 0)]) hx hb hts inX4 hown hK (hB1 0 0 Nat.zero_lt_one) rfl 12 (by decide) lk76 rfl rfl dX4_find_71 ?_
            refine lv_bipush (v := 30) hx hb dX4_find_74 (by decide) ?_
            refine lv_icmp_ne (tgt := 85) hx hb dX4_find_76 (by decide) (fun c_76 => ?_) (fun c_76 => ?_)
            · -- 76 t
              have hn29 : ν 0 0 < 30 := Nat.lt_of_le_of_ne hI.1 (fun q => c_76 (by rw [q]; rfl))
              refine lv_iconst (v := 0) hx hb dX4_find_85 (by decide) ?_
              refine lv_topi (fun y2 ey2 => ?_)
              obtain rfl : y2 = nI 0 := ey2.trans (nI_0.symm)
              refine lv_istore_n (lv' := [(3, .int (nI 0)), (0, .ref (ad 0 0)), (1, .int h), (2, .int r)]) hx hb dX4_find_86 rfl hl (by decide) rfl (fun ls hl => ?_)
              have loopB : ∀ (k : Nat) (nz : Nat) (Hz : Heap) (locsz : List Loc) (σz : IT) (ls : Array Slot), nz ≤ ν 1 0 → ν 1 0 < nz + k → MW D cy ad σz ν Hz → va_S (wA cM ad s.heap.size) s.heap Hz locsz → σz = txL σ1 (ν 0 0) nz → lv_has ls 4 [(0, .ref (ad 0 0)), (1, .int h), (2, .int r), (3, .int (nI nz))] → W p l e (headSpec wsX4_find ({ frames := 3, cells := 0, slots := 0, locals := 90 } : Room)).room s m ([.ref (ad 0 0), .int h, .int r] : List Value).toArray below meth c Hz locsz 0 0 (MQ below (uQ (some (.int (oFind σ ν h r).1)) (MW D cy ad (oFind σ ν h r).2.1 (oFind σ ν h r).2.2) (wA cM ad s.heap.size)) ([.ref (ad 0 0), .int h, .int r] : List Value).toArray s 0 0 (wA cM ad s.heap.size)) (F0 m 87 ls []) := by
                intro k
                induction k with
                | zero => intro nz Hz locsz σz ls hn hk2 hBz hSz hσ hl; exfalso; omega
                | succ k loopB_ih =>
                  intro nz Hz locsz σz ls hn hk2 hBz hSz hσ hl
                  refine lv_iload_n hx hb dX4_find_87 rfl (lv_at hl 3 rfl) ?_
                  refine lv_aload_n hx hb dX4_find_88 rfl (lv_at hl 0 rfl) ?_
                  refine g_get (C := RX4) (T := TX4) (N := 26) (ci := 4) (fs := [.int (σz 30 0), .int (σz 0 0), .int (nI (ν 1 0)), .ref (ad 6 0), .ref (ad 7 0), .ref (ad 8 0), .ref (ad 9 0), .int (σz 1 0), .int (σz 2 0), .int (σz 3 0), .int (σz 31 0), .int (σz 32 0), .int (nI (ν 0 0)), .ref (ad 18 0), .ref (ad 17 0), .ref (ad 16 0), .ref (ad 10 0), .ref (ad 11 0), .ref (ad 12 0), .ref (ad 13 0), .ref (ad 14 0), .ref (ad 15 0), .int (nI (ν 6 0)), .ref (ad 34 0), .ref (ad 35 0), .ref (ad 36 0)]) hx hb hts inX4 hown hK (hBz 0 0 Nat.zero_lt_one) rfl 2 (by decide) lk86 rfl rfl dX4_find_89 ?_
                  refine lv_icmp_ge (tgt := 121) hx hb dX4_find_92 (by decide) (fun c_92 => ?_) (fun c_92 => ?_)
                  · -- 92 t
                    have hie : nz = ν 1 0 := by have := (nI_leI (by omega) (by omega)).mp c_92; omega
                    refine lv_aload_n hx hb dX4_find_121 rfl (lv_at hl 0 rfl) ?_
                    refine g_get (C := RX4) (T := TX4) (N := 26) (ci := 4) (fs := [.int (σz 30 0), .int (σz 0 0), .int (nI (ν 1 0)), .ref (ad 6 0), .ref (ad 7 0), .ref (ad 8 0), .ref (ad 9 0), .int (σz 1 0), .int (σz 2 0), .int (σz 3 0), .int (σz 31 0), .int (σz 32 0), .int (nI (ν 0 0)), .ref (ad 18 0), .ref (ad 17 0), .ref (ad 16 0), .ref (ad 10 0), .ref (ad 11 0), .ref (ad 12 0), .ref (ad 13 0), .ref (ad 14 0), .ref (ad 15 0), .int (nI (ν 6 0)), .ref (ad 34 0), .ref (ad 35 0), .ref (ad 36 0)]) hx hb hts inX4 hown hK (hBz 0 0 Nat.zero_lt_one) rfl 14 (by decide) lk35 rfl rfl dX4_find_122 ?_
                    refine lv_aload_n hx hb dX4_find_125 rfl (lv_at hl 0 rfl) ?_
                    refine g_get (C := RX4) (T := TX4) (N := 26) (ci := 4) (fs := [.int (σz 30 0), .int (σz 0 0), .int (nI (ν 1 0)), .ref (ad 6 0), .ref (ad 7 0), .ref (ad 8 0), .ref (ad 9 0), .int (σz 1 0), .int (σz 2 0), .int (σz 3 0), .int (σz 31 0), .int (σz 32 0), .int (nI (ν 0 0)), .ref (ad 18 0), .ref (ad 17 0), .ref (ad 16 0), .ref (ad 10 0), .ref (ad 11 0), .ref (ad 12 0), .ref (ad 13 0), .ref (ad 14 0), .ref (ad 15 0), .int (nI (ν 6 0)), .ref (ad 34 0), .ref (ad 35 0), .ref (ad 36 0)]) hx hb hts inX4 hown hK (hBz 0 0 Nat.zero_lt_one) rfl 12 (by decide) lk76 rfl rfl dX4_find_126 ?_
                    refine lv_aload_n hx hb dX4_find_129 rfl (lv_at hl 0 rfl) ?_
                    refine g_get (C := RX4) (T := TX4) (N := 26) (ci := 4) (fs := [.int (σz 30 0), .int (σz 0 0), .int (nI (ν 1 0)), .ref (ad 6 0), .ref (ad 7 0), .ref (ad 8 0), .ref (ad 9 0), .int (σz 1 0), .int (σz 2 0), .int (σz 3 0), .int (σz 31 0), .int (σz 32 0), .int (nI (ν 0 0)), .ref (ad 18 0), .ref (ad 17 0), .ref (ad 16 0), .ref (ad 10 0), .ref (ad 11 0), .ref (ad 12 0), .ref (ad 13 0), .ref (ad 14 0), .ref (ad 15 0), .int (nI (ν 6 0)), .ref (ad 34 0), .ref (ad 35 0), .ref (ad 36 0)]) hx hb hts inX4 hown hK (hBz 0 0 Nat.zero_lt_one) rfl 2 (by decide) lk86 rfl rfl dX4_find_130 ?_
                    refine g_iast (f := fun j => nI (ν 3 j)) (A := (wA cM ad s.heap.size)) hx hb hK (hBz 17 0 Nat.zero_lt_one) hSz (wA.in (k := 17) (i := 0) Nat.zero_lt_one) (vp_in_nI (N := 30) hn29 (by decide)) dX4_find_133 (fun H2 locs2 hc2 hu2 hS2 => ?_)
                    have hB2 : MW D cy ad σz (up2 ν 3 (ν 0 0) (ν 1 0)) H2 := hBz.nst hJ 17 3 (by decide) (cl_nI (by omega)) hc2 hu2
                    obtain ⟨ν2, hs2⟩ : ∃ z : NT, z = up2 ν 3 (ν 0 0) (ν 1 0) := ⟨_, rfl⟩
                    rw [← hs2] at hB2
                    have n133 : ν2 = up2 ν 3 (ν 0 0) (ν 1 0) := by rw [hs2]
                    refine lv_aload_n hx hb dX4_find_134 rfl (lv_at hl 0 rfl) ?_
                    refine g_get (C := RX4) (T := TX4) (N := 26) (ci := 4) (fs := [.int (σz 30 0), .int (σz 0 0), .int (nI (ν2 1 0)), .ref (ad 6 0), .ref (ad 7 0), .ref (ad 8 0), .ref (ad 9 0), .int (σz 1 0), .int (σz 2 0), .int (σz 3 0), .int (σz 31 0), .int (σz 32 0), .int (nI (ν2 0 0)), .ref (ad 18 0), .ref (ad 17 0), .ref (ad 16 0), .ref (ad 10 0), .ref (ad 11 0), .ref (ad 12 0), .ref (ad 13 0), .ref (ad 14 0), .ref (ad 15 0), .int (nI (ν2 6 0)), .ref (ad 34 0), .ref (ad 35 0), .ref (ad 36 0)]) hx hb hts inX4 hown hK (hB2 0 0 Nat.zero_lt_one) rfl 15 (by decide) lk38 rfl rfl dX4_find_135 ?_
                    refine lv_aload_n hx hb dX4_find_138 rfl (lv_at hl 0 rfl) ?_
                    refine g_get (C := RX4) (T := TX4) (N := 26) (ci := 4) (fs := [.int (σz 30 0), .int (σz 0 0), .int (nI (ν2 1 0)), .ref (ad 6 0), .ref (ad 7 0), .ref (ad 8 0), .ref (ad 9 0), .int (σz 1 0), .int (σz 2 0), .int (σz 3 0), .int (σz 31 0), .int (σz 32 0), .int (nI (ν2 0 0)), .ref (ad 18 0), .ref (ad 17 0), .ref (ad 16 0), .ref (ad 10 0), .ref (ad 11 0), .ref (ad 12 0), .ref (ad 13 0), .ref (ad 14 0), .ref (ad 15 0), .int (nI (ν2 6 0)), .ref (ad 34 0), .ref (ad 35 0), .ref (ad 36 0)]) hx hb hts inX4 hown hK (hB2 0 0 Nat.zero_lt_one) rfl 12 (by decide) lk76 rfl rfl dX4_find_139 ?_
                    refine lv_topi (fun y3 ey3 => ?_)
                    obtain rfl : y3 = nI (ν 0 0) := ey3.trans (by rw [n133]; rfl)
                    refine lv_iload_n hx hb dX4_find_142 rfl (lv_at hl 1 rfl) ?_
                    refine lv_topi (fun y4 ey4 => ?_)
                    obtain rfl : y4 = nI q0 := ey4.trans (eh)
                    refine g_iast (f := fun j => nI (ν2 5 j)) (A := (wA cM ad s.heap.size)) hx hb hK (hB2 16 0 Nat.zero_lt_one) hS2 (wA.in (k := 16) (i := 0) Nat.zero_lt_one) (vp_in_nI (N := 30) hn29 (by decide)) dX4_find_143 (fun H3 locs3 hc3 hu3 hS3 => ?_)
                    have hB3 : MW D cy ad σz (up2 ν2 5 (ν 0 0) q0) H3 := hB2.nst hJ 16 5 (by decide) (cl_nI (by omega)) hc3 hu3
                    obtain ⟨ν3, hs3⟩ : ∃ z : NT, z = up2 ν2 5 (ν 0 0) q0 := ⟨_, rfl⟩
                    rw [← hs3] at hB3
                    have n143 : ν3 = fdN ν h := by rw [hs3, n133, fdN, ec]
                    refine lv_aload_n hx hb dX4_find_144 rfl (lv_at hl 0 rfl) ?_
                    refine g_get (C := RX4) (T := TX4) (N := 26) (ci := 4) (fs := [.int (σz 30 0), .int (σz 0 0), .int (nI (ν3 1 0)), .ref (ad 6 0), .ref (ad 7 0), .ref (ad 8 0), .ref (ad 9 0), .int (σz 1 0), .int (σz 2 0), .int (σz 3 0), .int (σz 31 0), .int (σz 32 0), .int (nI (ν3 0 0)), .ref (ad 18 0), .ref (ad 17 0), .ref (ad 16 0), .ref (ad 10 0), .ref (ad 11 0), .ref (ad 12 0), .ref (ad 13 0), .ref (ad 14 0), .ref (ad 15 0), .int (nI (ν3 6 0)), .ref (ad 34 0), .ref (ad 35 0), .ref (ad 36 0)]) hx hb hts inX4 hown hK (hB3 0 0 Nat.zero_lt_one) rfl 16 (by decide) lk41 rfl rfl dX4_find_145 ?_
                    refine lv_aload_n hx hb dX4_find_148 rfl (lv_at hl 0 rfl) ?_
                    refine g_get (C := RX4) (T := TX4) (N := 26) (ci := 4) (fs := [.int (σz 30 0), .int (σz 0 0), .int (nI (ν3 1 0)), .ref (ad 6 0), .ref (ad 7 0), .ref (ad 8 0), .ref (ad 9 0), .int (σz 1 0), .int (σz 2 0), .int (σz 3 0), .int (σz 31 0), .int (σz 32 0), .int (nI (ν3 0 0)), .ref (ad 18 0), .ref (ad 17 0), .ref (ad 16 0), .ref (ad 10 0), .ref (ad 11 0), .ref (ad 12 0), .ref (ad 13 0), .ref (ad 14 0), .ref (ad 15 0), .int (nI (ν3 6 0)), .ref (ad 34 0), .ref (ad 35 0), .ref (ad 36 0)]) hx hb hts inX4 hown hK (hB3 0 0 Nat.zero_lt_one) rfl 12 (by decide) lk76 rfl rfl dX4_find_149 ?_
                    refine lv_topi (fun y5 ey5 => ?_)
                    obtain rfl : y5 = nI (ν 0 0) := ey5.trans (by rw [n143]; rfl)
                    refine lv_iload_n hx hb dX4_find_152 rfl (lv_at hl 2 rfl) ?_
                    refine g_iast (f := σz 10) (A := (wA cM ad s.heap.size)) hx hb hK (hB3 10 0 Nat.zero_lt_one) hS3 (wA.in (k := 10) (i := 0) Nat.zero_lt_one) (vp_in_nI (N := 30) hn29 (by decide)) dX4_find_153 (fun H4 locs4 hc4 hu4 hS4 => ?_)
                    have hB4 : MW D cy ad (up2 σz 10 (ν 0 0) r) ν3 H4 := hB3.sst hJ 10 Nat.zero_lt_one (by decide) (by decide) (by decide) (cl_nI (by omega)) hc4 hu4
                    obtain ⟨σ4, hs4⟩ : ∃ z : IT, z = up2 σz 10 (ν 0 0) r := ⟨_, rfl⟩
                    rw [← hs4] at hB4
                    refine lv_aload_n hx hb dX4_find_154 rfl (lv_at hl 0 rfl) ?_
                    refine g_get (C := RX4) (T := TX4) (N := 26) (ci := 4) (fs := [.int (σ4 30 0), .int (σ4 0 0), .int (nI (ν3 1 0)), .ref (ad 6 0), .ref (ad 7 0), .ref (ad 8 0), .ref (ad 9 0), .int (σ4 1 0), .int (σ4 2 0), .int (σ4 3 0), .int (σ4 31 0), .int (σ4 32 0), .int (nI (ν3 0 0)), .ref (ad 18 0), .ref (ad 17 0), .ref (ad 16 0), .ref (ad 10 0), .ref (ad 11 0), .ref (ad 12 0), .ref (ad 13 0), .ref (ad 14 0), .ref (ad 15 0), .int (nI (ν3 6 0)), .ref (ad 34 0), .ref (ad 35 0), .ref (ad 36 0)]) hx hb hts inX4 hown hK (hB4 0 0 Nat.zero_lt_one) rfl 17 (by decide) lk44 rfl rfl dX4_find_155 ?_
                    refine lv_aload_n hx hb dX4_find_158 rfl (lv_at hl 0 rfl) ?_
                    refine g_get (C := RX4) (T := TX4) (N := 26) (ci := 4) (fs := [.int (σ4 30 0), .int (σ4 0 0), .int (nI (ν3 1 0)), .ref (ad 6 0), .ref (ad 7 0), .ref (ad 8 0), .ref (ad 9 0), .int (σ4 1 0), .int (σ4 2 0), .int (σ4 3 0), .int (σ4 31 0), .int (σ4 32 0), .int (nI (ν3 0 0)), .ref (ad 18 0), .ref (ad 17 0), .ref (ad 16 0), .ref (ad 10 0), .ref (ad 11 0), .ref (ad 12 0), .ref (ad 13 0), .ref (ad 14 0), .ref (ad 15 0), .int (nI (ν3 6 0)), .ref (ad 34 0), .ref (ad 35 0), .ref (ad 36 0)]) hx hb hts inX4 hown hK (hB4 0 0 Nat.zero_lt_one) rfl 12 (by decide) lk76 rfl rfl dX4_find_159 ?_
                    refine lv_topi (fun y6 ey6 => ?_)
                    obtain rfl : y6 = nI (ν 0 0) := ey6.trans (by rw [n143]; rfl)
                    refine lv_aload_n hx hb dX4_find_162 rfl (lv_at hl 0 rfl) ?_
                    refine g_get (C := RX4) (T := TX4) (N := 26) (ci := 4) (fs := [.int (σ4 30 0), .int (σ4 0 0), .int (nI (ν3 1 0)), .ref (ad 6 0), .ref (ad 7 0), .ref (ad 8 0), .ref (ad 9 0), .int (σ4 1 0), .int (σ4 2 0), .int (σ4 3 0), .int (σ4 31 0), .int (σ4 32 0), .int (nI (ν3 0 0)), .ref (ad 18 0), .ref (ad 17 0), .ref (ad 16 0), .ref (ad 10 0), .ref (ad 11 0), .ref (ad 12 0), .ref (ad 13 0), .ref (ad 14 0), .ref (ad 15 0), .int (nI (ν3 6 0)), .ref (ad 34 0), .ref (ad 35 0), .ref (ad 36 0)]) hx hb hts inX4 hown hK (hB4 0 0 Nat.zero_lt_one) rfl 1 (by decide) lk110 rfl rfl dX4_find_163 ?_
                    refine lv_topi (fun y7 ey7 => ?_)
                    obtain rfl : y7 = σz 0 0 := ey7.trans (by rw [hs4]; rfl)
                    refine g_iast (f := σ4 11) (A := (wA cM ad s.heap.size)) hx hb hK (hB4 11 0 Nat.zero_lt_one) hS4 (wA.in (k := 11) (i := 0) Nat.zero_lt_one) (vp_in_nI (N := 30) hn29 (by decide)) dX4_find_166 (fun H5 locs5 hc5 hu5 hS5 => ?_)
                    have hB5 : MW D cy ad (up2 σ4 11 (ν 0 0) (σz 0 0)) ν3 H5 := hB4.sst hJ 11 Nat.zero_lt_one (by decide) (by decide) (by decide) (cl_nI (by omega)) hc5 hu5
                    obtain ⟨σ5, hs5⟩ : ∃ z : IT, z = up2 σ4 11 (ν 0 0) (σz 0 0) := ⟨_, rfl⟩
                    rw [← hs5] at hB5
                    have e166 : σ5 = fdX (txL (T0 σ) (ν 0 0) (ν 1 0)) (ν 0 0) r := by rw [hs5, hs4, hσ, hie, hs1]; rfl
                    refine lv_aload_n hx hb dX4_find_167 rfl (lv_at hl 0 rfl) ?_
                    refine g_get (C := RX4) (T := TX4) (N := 26) (ci := 4) (fs := [.int (σ5 30 0), .int (σ5 0 0), .int (nI (ν3 1 0)), .ref (ad 6 0), .ref (ad 7 0), .ref (ad 8 0), .ref (ad 9 0), .int (σ5 1 0), .int (σ5 2 0), .int (σ5 3 0), .int (σ5 31 0), .int (σ5 32 0), .int (nI (ν3 0 0)), .ref (ad 18 0), .ref (ad 17 0), .ref (ad 16 0), .ref (ad 10 0), .ref (ad 11 0), .ref (ad 12 0), .ref (ad 13 0), .ref (ad 14 0), .ref (ad 15 0), .int (nI (ν3 6 0)), .ref (ad 34 0), .ref (ad 35 0), .ref (ad 36 0)]) hx hb hts inX4 hown hK (hB5 0 0 Nat.zero_lt_one) rfl 21 (by decide) lk57 rfl rfl dX4_find_168 ?_
                    refine lv_aload_n hx hb dX4_find_171 rfl (lv_at hl 0 rfl) ?_
                    refine g_get (C := RX4) (T := TX4) (N := 26) (ci := 4) (fs := [.int (σ5 30 0), .int (σ5 0 0), .int (nI (ν3 1 0)), .ref (ad 6 0), .ref (ad 7 0), .ref (ad 8 0), .ref (ad 9 0), .int (σ5 1 0), .int (σ5 2 0), .int (σ5 3 0), .int (σ5 31 0), .int (σ5 32 0), .int (nI (ν3 0 0)), .ref (ad 18 0), .ref (ad 17 0), .ref (ad 16 0), .ref (ad 10 0), .ref (ad 11 0), .ref (ad 12 0), .ref (ad 13 0), .ref (ad 14 0), .ref (ad 15 0), .int (nI (ν3 6 0)), .ref (ad 34 0), .ref (ad 35 0), .ref (ad 36 0)]) hx hb hts inX4 hown hK (hB5 0 0 Nat.zero_lt_one) rfl 12 (by decide) lk76 rfl rfl dX4_find_172 ?_
                    refine lv_topi (fun y8 ey8 => ?_)
                    obtain rfl : y8 = nI (ν 0 0) := ey8.trans (by rw [n143]; rfl)
                    refine lv_aload_n hx hb dX4_find_175 rfl (lv_at hl 0 rfl) ?_
                    refine g_cu1 (va_runV (As := []) (rest := [.int (nI (ν 0 0)), .ref (ad 15 0)]) ⟨hx, hb, hml, hown, hts⟩ (m_X4_repeats l D cy H5.size ad σ5 ν3 hJ (by rw [n143]; exact hI.2.1)) (cwV 0 hts gX4_find_X4_repeats rfl rfl rfl (by decide +kernel) ⟨Nat.le_of_ble_eq_true rfl, Nat.le_of_ble_eq_true rfl⟩) (g_preV (C := RX4) (B := atSz H5.size (MW D cy ad σ5 ν3)) hK ⟨rfl, hB5⟩ (hB5 0 0 Nat.zero_lt_one) rfl) rfl rfl hl.1 rfl (lv_room (Nat.le_of_ble_eq_true rfl)) dX4_find_176 ⟨Nat.zero_le _, Nat.zero_le _⟩) hS5 (fun q _ h => wA.mono hS5.1 h) (fun q h => wA.mono hS5.1 h) (fun H6 locs6 hB6 hz6 hk6 hS6 => ?_)
                    obtain ⟨ν6, hv6⟩ : ∃ z : NT, z = layN (σ5 6) ν3 (ν3 1 0) := ⟨_, rfl⟩
                    rw [← hv6] at hB6
                    have n176 : ν6 = layN (fdX (txL (T0 σ) (ν 0 0) (ν 1 0)) (ν 0 0) r 6) (fdN ν h) (fdN ν h 1 0) := by rw [hv6, n143, e166]
                    have n00 : ν6 0 0 = ν 0 0 := by rw [n176, layN_keep _ _ _ (by decide) (by decide) (by decide)]; rfl
                    refine g_zast (f := σ5 15) (A := (wA cM ad s.heap.size)) hx hb hK (hB6 15 0 Nat.zero_lt_one) hS6 (wA.in (k := 15) (i := 0) Nat.zero_lt_one) (vp_in_nI (N := 30) hn29 (by decide)) (by cases repM _ _ <;> rfl) dX4_find_179 (fun H7 locs7 hc7 hu7 hS7 => ?_)
                    have hB7 : MW D cy ad (up2 σ5 15 (ν 0 0) (zb (repM σ5 ν3))) ν6 H7 := hB6.sst hJ 15 Nat.zero_lt_one (by decide) (by decide) (by decide) (cl_nI (by omega)) hc7 hu7
                    obtain ⟨σ7, hs7⟩ : ∃ z : IT, z = up2 σ5 15 (ν 0 0) (zb (repM σ5 ν3)) := ⟨_, rfl⟩
                    rw [← hs7] at hB7
                    have e179 : σ7 = fdS σ ν h r := by rw [hs7, e166, n143]; rfl
                    refine lv_aload_n hx hb dX4_find_180 rfl (lv_at hl 0 rfl) ?_
                    refine lv_dup hx hb dX4_find_181 rfl ?_
                    refine g_get (C := RX4) (T := TX4) (N := 26) (ci := 4) (fs := [.int (σ7 30 0), .int (σ7 0 0), .int (nI (ν6 1 0)), .ref (ad 6 0), .ref (ad 7 0), .ref (ad 8 0), .ref (ad 9 0), .int (σ7 1 0), .int (σ7 2 0), .int (σ7 3 0), .int (σ7 31 0), .int (σ7 32 0), .int (nI (ν6 0 0)), .ref (ad 18 0), .ref (ad 17 0), .ref (ad 16 0), .ref (ad 10 0), .ref (ad 11 0), .ref (ad 12 0), .ref (ad 13 0), .ref (ad 14 0), .ref (ad 15 0), .int (nI (ν6 6 0)), .ref (ad 34 0), .ref (ad 35 0), .ref (ad 36 0)]) hx hb hts inX4 hown hK (hB7 0 0 Nat.zero_lt_one) rfl 12 (by decide) lk76 rfl rfl dX4_find_182 ?_
                    refine lv_topi (fun y9 ey9 => ?_)
                    obtain rfl : y9 = nI (ν 0 0) := ey9.trans (by rw [n00])
                    refine lv_iconst (v := 1) hx hb dX4_find_185 (by decide) ?_
                    refine lv_iadd hx hb dX4_find_186 ?_
                    refine lv_topi (fun y10 ey10 => ?_)
                    obtain rfl : y10 = nI (ν 0 0 + 1) := ey10.trans (nI_1 _)
                    refine g_put (C := RX4) (T := TX4) (N := 26) (ci := 4) (fs := [.int (σ7 30 0), .int (σ7 0 0), .int (nI (ν6 1 0)), .ref (ad 6 0), .ref (ad 7 0), .ref (ad 8 0), .ref (ad 9 0), .int (σ7 1 0), .int (σ7 2 0), .int (σ7 3 0), .int (σ7 31 0), .int (σ7 32 0), .int (nI (ν6 0 0)), .ref (ad 18 0), .ref (ad 17 0), .ref (ad 16 0), .ref (ad 10 0), .ref (ad 11 0), .ref (ad 12 0), .ref (ad 13 0), .ref (ad 14 0), .ref (ad 15 0), .int (nI (ν6 6 0)), .ref (ad 34 0), .ref (ad 35 0), .ref (ad 36 0)]) (A := (wA cM ad s.heap.size)) hx hb hts inX4 tyX4 tyX4_ok nmX4 hown hK (hB7 0 0 Nat.zero_lt_one) rfl hS7 (wA.in (k := 0) (i := 0) Nat.zero_lt_one) 12 (by decide) lk76 rfl rfl rfl rfl (Nat.le_of_ble_eq_true rfl) dX4_find_187 (fun H8 locs8 hc8 hu8 hS8 => ?_)
                    have hB8 : MW D cy ad σ7 (up2 ν6 0 0 (ν 0 0 + 1)) H8 := hB7.nc hJ (by decide) hc8 hu8
                    obtain ⟨ν8, hs8⟩ : ∃ z : NT, z = up2 ν6 0 0 (ν 0 0 + 1) := ⟨_, rfl⟩
                    rw [← hs8] at hB8
                    have n187 : ν8 = fdM σ ν h r := by rw [hs8, n176]; rfl
                    have hFin : MW D cy ad (fdS σ ν h r) (fdM σ ν h r) H8 := by rw [← e179, ← n187]; exact hB8
                    refine lv_aload_n hx hb dX4_find_190 rfl (lv_at hl 0 rfl) ?_
                    refine g_get (C := RX4) (T := TX4) (N := 26) (ci := 4) (fs := [.int (σ7 30 0), .int (σ7 0 0), .int (nI (ν8 1 0)), .ref (ad 6 0), .ref (ad 7 0), .ref (ad 8 0), .ref (ad 9 0), .int (σ7 1 0), .int (σ7 2 0), .int (σ7 3 0), .int (σ7 31 0), .int (σ7 32 0), .int (nI (ν8 0 0)), .ref (ad 18 0), .ref (ad 17 0), .ref (ad 16 0), .ref (ad 10 0), .ref (ad 11 0), .ref (ad 12 0), .ref (ad 13 0), .ref (ad 14 0), .ref (ad 15 0), .int (nI (ν8 6 0)), .ref (ad 34 0), .ref (ad 35 0), .ref (ad 36 0)]) hx hb hts inX4 hown hK (hB8 0 0 Nat.zero_lt_one) rfl 12 (by decide) lk76 rfl rfl dX4_find_191 ?_
                    refine lv_topi (fun y11 ey11 => ?_)
                    obtain rfl : y11 = nI (ν 0 0 + 1) := ey11.trans (by rw [n187]; rfl)
                    refine lv_iconst (v := 1) hx hb dX4_find_194 (by decide) ?_
                    refine lv_isub hx hb dX4_find_195 ?_
                    exact g_iretU hx hb hr hlocks hS8 (by rw [oFind, if_pos (zb_n0.mp c_9), if_pos (zb_n0.mp c_25), hV0, fdA, if_neg (by omega)]; exact hFin) (Nat.le_refl _) (Nat.le_refl _) dX4_find_196 (by rw [oFind, if_pos (zb_n0.mp c_9), if_pos (zb_n0.mp c_25), hV0, fdA, if_neg (by omega)]; exact nI_pred _)
                  · -- 92 f
                    have hlt2 : nz < ν 1 0 := Nat.not_le.mp fun q => c_92 ((nI_leI (by omega) (by omega)).mpr q)
                    refine lv_aload_n hx hb dX4_find_95 rfl (lv_at hl 0 rfl) ?_
                    refine g_get (C := RX4) (T := TX4) (N := 26) (ci := 4) (fs := [.int (σz 30 0), .int (σz 0 0), .int (nI (ν 1 0)), .ref (ad 6 0), .ref (ad 7 0), .ref (ad 8 0), .ref (ad 9 0), .int (σz 1 0), .int (σz 2 0), .int (σz 3 0), .int (σz 31 0), .int (σz 32 0), .int (nI (ν 0 0)), .ref (ad 18 0), .ref (ad 17 0), .ref (ad 16 0), .ref (ad 10 0), .ref (ad 11 0), .ref (ad 12 0), .ref (ad 13 0), .ref (ad 14 0), .ref (ad 15 0), .int (nI (ν 6 0)), .ref (ad 34 0), .ref (ad 35 0), .ref (ad 36 0)]) hx hb hts inX4 hown hK (hBz 0 0 Nat.zero_lt_one) rfl 13 (by decide) lk32 rfl rfl dX4_find_96 ?_
                    refine lv_bipush (v := 30) hx hb dX4_find_99 (by decide) ?_
                    refine lv_aload_n hx hb dX4_find_101 rfl (lv_at hl 0 rfl) ?_
                    refine g_get (C := RX4) (T := TX4) (N := 26) (ci := 4) (fs := [.int (σz 30 0), .int (σz 0 0), .int (nI (ν 1 0)), .ref (ad 6 0), .ref (ad 7 0), .ref (ad 8 0), .ref (ad 9 0), .int (σz 1 0), .int (σz 2 0), .int (σz 3 0), .int (σz 31 0), .int (σz 32 0), .int (nI (ν 0 0)), .ref (ad 18 0), .ref (ad 17 0), .ref (ad 16 0), .ref (ad 10 0), .ref (ad 11 0), .ref (ad 12 0), .ref (ad 13 0), .ref (ad 14 0), .ref (ad 15 0), .int (nI (ν 6 0)), .ref (ad 34 0), .ref (ad 35 0), .ref (ad 36 0)]) hx hb hts inX4 hown hK (hBz 0 0 Nat.zero_lt_one) rfl 12 (by decide) lk76 rfl rfl dX4_find_102 ?_
                    refine lv_imul hx hb dX4_find_105 ?_
                    refine lv_topi (fun y12 ey12 => ?_)
                    obtain rfl : y12 = nI (30 * ν 0 0) := ey12.trans (pk_mul 30 _)
                    refine lv_iload_n hx hb dX4_find_106 rfl (lv_at hl 3 rfl) ?_
                    refine lv_iadd hx hb dX4_find_107 ?_
                    refine lv_topi (fun y13 ey13 => ?_)
                    obtain rfl : y13 = nI (30 * ν 0 0 + nz) := ey13.trans (nI_add _ _)
                    refine lv_aload_n hx hb dX4_find_108 rfl (lv_at hl 0 rfl) ?_
                    refine g_get (C := RX4) (T := TX4) (N := 26) (ci := 4) (fs := [.int (σz 30 0), .int (σz 0 0), .int (nI (ν 1 0)), .ref (ad 6 0), .ref (ad 7 0), .ref (ad 8 0), .ref (ad 9 0), .int (σz 1 0), .int (σz 2 0), .int (σz 3 0), .int (σz 31 0), .int (σz 32 0), .int (nI (ν 0 0)), .ref (ad 18 0), .ref (ad 17 0), .ref (ad 16 0), .ref (ad 10 0), .ref (ad 11 0), .ref (ad 12 0), .ref (ad 13 0), .ref (ad 14 0), .ref (ad 15 0), .int (nI (ν 6 0)), .ref (ad 34 0), .ref (ad 35 0), .ref (ad 36 0)]) hx hb hts inX4 hown hK (hBz 0 0 Nat.zero_lt_one) rfl 3 (by decide) lk7 rfl rfl dX4_find_109 ?_
                    refine lv_iload_n hx hb dX4_find_112 rfl (lv_at hl 3 rfl) ?_
                    refine g_iald (f := σz 6) (x := σz 6 nz) hx hb hK (hBz 6 0 Nat.zero_lt_one) (vp_in_nI (N := 30) (by omega) (by decide)) (by rw [cl_nI (by omega)]) dX4_find_113 ?_
                    refine g_iast (f := σz 18) (A := (wA cM ad s.heap.size)) hx hb hK (hBz 18 0 Nat.zero_lt_one) hSz (wA.in (k := 18) (i := 0) Nat.zero_lt_one) (vp_in_nI (N := 900) (by omega) (by decide)) dX4_find_114 (fun H9 locs9 hc9 hu9 hS9 => ?_)
                    have hB9 : MW D cy ad (up2 σz 18 (30 * ν 0 0 + nz) (σz 6 nz)) ν H9 := hBz.sst hJ 18 Nat.zero_lt_one (by decide) (by decide) (by decide) (cl_nI (by omega)) hc9 hu9
                    obtain ⟨σ9, hs9⟩ : ∃ z : IT, z = up2 σz 18 (30 * ν 0 0 + nz) (σz 6 nz) := ⟨_, rfl⟩
                    rw [← hs9] at hB9
                    refine lv_iinc (v := nI (nz + 1)) (lv' := [(3, .int (nI (nz + 1))), (0, .ref (ad 0 0)), (1, .int h), (2, .int r)]) hx hb dX4_find_115 hl (k := 3) rfl (nI_1 nz) (by decide) rfl (fun ls hl => ?_)
                    refine lv_goto (tgt := 87) hx hb dX4_find_118 (by decide) ?_
                    exact loopB_ih (nz + 1) H9 locs9 σ9 ls (by omega) (by omega) hB9 hS9 (by rw [hs9, hσ]; rfl) (lv_sub hl [1, 2, 3, 0] rfl)
              exact loopB (ν 1 0 + 1) 0 H1 locs1 σ1 ls (Nat.zero_le _) (by omega) hB1 hS1 rfl (lv_sub hl [1, 2, 3, 0] rfl)
            · -- 76 f
              refine lv_aload_n hx hb dX4_find_79 rfl (lv_at hl 0 rfl) ?_
              refine lv_iconst (v := 3) hx hb dX4_find_80 (by decide) ?_
              refine g_cu1 (va_runV (As := [.int 3]) (rest := []) ⟨hx, hb, hml, hown, hts⟩ (m_X4_fails l D cy H1.size ad σ1 ν hJ (3)) (cwV 1 hts gX4_find_X4_fails rfl rfl rfl (by decide +kernel) ⟨Nat.le_of_ble_eq_true rfl, Nat.le_of_ble_eq_true rfl⟩) (g_preV (C := RX4) (B := atSz H1.size (MW D cy ad σ1 ν)) hK ⟨rfl, hB1⟩ (hB1 0 0 Nat.zero_lt_one) rfl) rfl rfl hl.1 rfl (lv_room (Nat.le_of_ble_eq_true rfl)) dX4_find_81 ⟨Nat.zero_le _, Nat.zero_le _⟩) hS1 (fun q _ h => wA.mono hS1.1 h) (fun q h => wA.mono hS1.1 h) (fun H10 locs10 hB10 hz10 hk10 hS10 => ?_)
              obtain ⟨σ10, hs10⟩ : ∃ z : IT, z = up2 σ1 30 0 3 := ⟨_, rfl⟩
              rw [← hs10] at hB10
              exact g_iretU hx hb hr hlocks hS10 (by rw [oFind, if_pos (zb_n0.mp c_9), if_pos (zb_n0.mp c_25), hV0, fdA, if_pos ((nI_eq (by omega) (by decide)).mp c_76)]; rw [hs10, hs1] at hB10; exact hB10) (Nat.le_refl _) (Nat.le_refl _) dX4_find_84 (by rw [oFind, if_pos (zb_n0.mp c_9), if_pos (zb_n0.mp c_25), hV0, fdA, if_pos ((nI_eq (by omega) (by decide)).mp c_76)])
          · -- 41 f
            have hlt : iz < ν 0 0 := Nat.not_le.mp fun q => c_41 ((nI_leI (by omega) (by omega)).mpr q)
            have hp30 : iz < 30 := Nat.lt_of_lt_of_le hlt hI.1
            obtain ⟨j, hj⟩ : ∃ j, ν 0 0 - iz = j + 1 := ⟨ν 0 0 - iz - 1, by omega⟩
            have hj2 : ν 0 0 - (iz + 1) = j := by omega
            rw [hj, fdL] at hV
            refine lv_aload_n hx hb dX4_find_44 rfl (lv_at hl 0 rfl) ?_
            refine g_get (C := RX4) (T := TX4) (N := 26) (ci := 4) (fs := [.int (σ1 30 0), .int (σ1 0 0), .int (nI (ν 1 0)), .ref (ad 6 0), .ref (ad 7 0), .ref (ad 8 0), .ref (ad 9 0), .int (σ1 1 0), .int (σ1 2 0), .int (σ1 3 0), .int (σ1 31 0), .int (σ1 32 0), .int (nI (ν 0 0)), .ref (ad 18 0), .ref (ad 17 0), .ref (ad 16 0), .ref (ad 10 0), .ref (ad 11 0), .ref (ad 12 0), .ref (ad 13 0), .ref (ad 14 0), .ref (ad 15 0), .int (nI (ν 6 0)), .ref (ad 34 0), .ref (ad 35 0), .ref (ad 36 0)]) hx hb hts inX4 hown hK (hB1 0 0 Nat.zero_lt_one) rfl 15 (by decide) lk38 rfl rfl dX4_find_45 ?_
            refine lv_iload_n hx hb dX4_find_48 rfl (lv_at hl 3 rfl) ?_
            refine g_iald (f := fun j => nI (ν 5 j)) (x := nI (ν 5 iz)) hx hb hK (hB1 16 0 Nat.zero_lt_one) (vp_in_nI (N := 30) (by omega) (by decide)) (by rw [cl_nI (by omega)]) dX4_find_49 ?_
            refine lv_iload_n hx hb dX4_find_50 rfl (lv_at hl 1 rfl) ?_
            refine lv_icmp_ne (tgt := 64) hx hb dX4_find_51 (by decide) (fun c_51 => ?_) (fun c_51 => ?_)
            · -- 51 t
              rw [if_neg (fun z => c_51 z.1)] at hV
              refine lv_iinc (v := nI (iz + 1)) (lv' := [(3, .int (nI (iz + 1))), (0, .ref (ad 0 0)), (1, .int h), (2, .int r)]) hx hb dX4_find_64 hl (k := 3) rfl (nI_1 iz) (by decide) rfl (fun ls hl => ?_)
              refine lv_goto (tgt := 36) hx hb dX4_find_67 (by decide) ?_
              exact loopA_ih (iz + 1) ls (by omega) (by omega) (by rw [hj2]; exact hV) (lv_sub hl [1, 2, 3, 0] rfl)
            · -- 51 f
              refine lv_aload_n hx hb dX4_find_54 rfl (lv_at hl 0 rfl) ?_
              refine lv_iload_n hx hb dX4_find_55 rfl (lv_at hl 3 rfl) ?_
              refine g_csr (va_runV (As := [.int (nI iz)]) (rest := []) ⟨hx, hb, hml, hown, hts⟩ (m_X4_isAddress l D cy ad σ1 ν hI iz hlt) (cwV 1 hts gX4_find_X4_isAddress rfl rfl rfl (by decide +kernel) ⟨Nat.le_of_ble_eq_true rfl, Nat.le_of_ble_eq_true rfl⟩) (g_preV (C := RX4) (B := (MW D cy ad σ1 ν)) hK hB1 (hB1 0 0 Nat.zero_lt_one) rfl) rfl rfl hl.1 rfl (lv_room (Nat.le_of_ble_eq_true rfl)) dX4_find_56 ⟨Nat.zero_le _, Nat.zero_le _⟩) ?_
              refine lv_if_eq (tgt := 64) hx hb dX4_find_59 (by decide) (fun c_59 => ?_) (fun c_59 => ?_)
              · -- 59 t
                rw [if_neg (fun z => by rw [zb_0.mp c_59] at z; cases z.2)] at hV
                refine lv_iinc (v := nI (iz + 1)) (lv' := [(3, .int (nI (iz + 1))), (0, .ref (ad 0 0)), (1, .int h), (2, .int r)]) hx hb dX4_find_64 hl (k := 3) rfl (nI_1 iz) (by decide) rfl (fun ls hl => ?_)
                refine lv_goto (tgt := 36) hx hb dX4_find_67 (by decide) ?_
                exact loopA_ih (iz + 1) ls (by omega) (by omega) (by rw [hj2]; exact hV) (lv_sub hl [1, 2, 3, 0] rfl)
              · -- 59 f
                rw [if_pos ⟨c_51, zb_n0.mp c_59⟩] at hV
                refine lv_iload_n hx hb dX4_find_62 rfl (lv_at hl 3 rfl) ?_
                exact g_iretU hx hb hr hlocks hS1 (by rw [oFind, if_pos (zb_n0.mp c_9), if_pos (zb_n0.mp c_25), ← (show σ1 = T0 σ from hs1), hV, fdA, ← (show σ1 = T0 σ from hs1)]; exact hB1) (Nat.le_refl _) (Nat.le_refl _) dX4_find_63 (by rw [oFind, if_pos (zb_n0.mp c_9), if_pos (zb_n0.mp c_25), ← (show σ1 = T0 σ from hs1), hV, fdA])
      exact loopA (ν 0 0 + 1) 0 ls (Nat.zero_le _) (by omega) rfl (lv_sub hl [1, 2, 3, 0] rfl)
    · -- 25 f
      refine lv_aload_n hx hb dX4_find_28 rfl (lv_at hl 0 rfl) ?_
      refine lv_iconst (v := 2) hx hb dX4_find_29 (by decide) ?_
      refine g_cu1 (va_runV (As := [.int 2]) (rest := []) ⟨hx, hb, hml, hown, hts⟩ (m_X4_fails l D cy H1.size ad σ1 ν hJ (2)) (cwV 1 hts gX4_find_X4_fails rfl rfl rfl (by decide +kernel) ⟨Nat.le_of_ble_eq_true rfl, Nat.le_of_ble_eq_true rfl⟩) (g_preV (C := RX4) (B := atSz H1.size (MW D cy ad σ1 ν)) hK ⟨rfl, hB1⟩ (hB1 0 0 Nat.zero_lt_one) rfl) rfl rfl hl.1 rfl (lv_room (Nat.le_of_ble_eq_true rfl)) dX4_find_30 ⟨Nat.zero_le _, Nat.zero_le _⟩) hS1 (fun q _ h => wA.mono hS1.1 h) (fun q h => wA.mono hS1.1 h) (fun H11 locs11 hB11 hz11 hk11 hS11 => ?_)
      obtain ⟨σ11, hs11⟩ : ∃ z : IT, z = up2 σ1 30 0 2 := ⟨_, rfl⟩
      rw [← hs11] at hB11
      exact g_iretU hx hb hr hlocks hS11 (by rw [oFind, if_pos (zb_n0.mp c_9), if_neg (fun q => by rw [zb_0.mp c_25] at q; cases q)]; rw [hs11, hs1] at hB11; exact hB11) (Nat.le_refl _) (Nat.le_refl _) dX4_find_33 (by rw [oFind, if_pos (zb_n0.mp c_9), if_neg (fun q => by rw [zb_0.mp c_25] at q; cases q)])
  · -- 9 f
    refine lv_aload_n hx hb dX4_find_12 rfl (lv_at hl 0 rfl) ?_
    refine lv_iconst (v := 1) hx hb dX4_find_13 (by decide) ?_
    refine g_cu1 (va_runV (As := [.int 1]) (rest := []) ⟨hx, hb, hml, hown, hts⟩ (m_X4_fails l D cy H1.size ad σ1 ν hJ (1)) (cwV 1 hts gX4_find_X4_fails rfl rfl rfl (by decide +kernel) ⟨Nat.le_of_ble_eq_true rfl, Nat.le_of_ble_eq_true rfl⟩) (g_preV (C := RX4) (B := atSz H1.size (MW D cy ad σ1 ν)) hK ⟨rfl, hB1⟩ (hB1 0 0 Nat.zero_lt_one) rfl) rfl rfl hl.1 rfl (lv_room (Nat.le_of_ble_eq_true rfl)) dX4_find_14 ⟨Nat.zero_le _, Nat.zero_le _⟩) hS1 (fun q _ h => wA.mono hS1.1 h) (fun q h => wA.mono hS1.1 h) (fun H12 locs12 hB12 hz12 hk12 hS12 => ?_)
    obtain ⟨σ12, hs12⟩ : ∃ z : IT, z = up2 σ1 30 0 1 := ⟨_, rfl⟩
    rw [← hs12] at hB12
    exact g_iretU hx hb hr hlocks hS12 (by rw [oFind, if_neg (fun q => by rw [zb_0.mp c_9] at q; cases q)]; rw [hs12, hs1] at hB12; exact hB12) (Nat.le_refl _) (Nat.le_refl _) dX4_find_17 (by rw [oFind, if_neg (fun q => by rw [zb_0.mp c_9] at q; cases q)])
