/-! Politecrawl: settle, spread -/
def setA (τ : IT) (ν : NT) (q : Nat) : IT := up2 τ 8 (ν 5 q) 0
def setB (τ : IT) (ν : NT) (q : Nat) (o : Int32) : IT := up2 (up2 (setA τ ν q) 12 q (setA τ ν q 12 q + 1)) 13 q (setA τ ν q 13 q + (if o = 1 then 1 else 0))
def settleC (τ : IT) (ν : NT) (q : Nat) (o : Int32) : IT := if o = 2 then up2 (up2 τ 8 (ν 5 q) (τ 8 (ν 5 q) + 1)) 11 q (τ 0 0 + τ 1 0) else if o = 3 then up2 (setA τ ν q) 14 q 1 else up2 (setB τ ν q o) 11 q (setB τ ν q o 0 0 + paceC (setB τ ν q o) q)
def fgL (τ : IT) (n : Nat) : Nat → IT
  | 0 => τ
  | k + 1 => if k < n then up2 (fgL τ n k) 25 k 0 else fgL τ n k
def gnC (τ : IT) (p : Nat) : Option Nat → Bool
  | none => true
  | some j => gainsC τ p j
def bstL (τ : IT) (ν : NT) : Nat → Nat → Option Nat → Option Nat
  | 0, _, b => b
  | k + 1, i, b => bstL τ ν k (i + 1) (if i < ν 0 0 ∧ keptC τ i = true ∧ gnC τ i b = true then some i else b)
def incC (τ : IT) : Option Nat → IT
  | none => τ
  | some p => up2 τ 25 p (τ 25 p + 1)

set_option maxHeartbeats 4000000 in
set_option maxRecDepth 100000 in
/-- settle -/
theorem m_X3_settle (l : Launch) (D : va_G) (cy : Nat → ClassId) (sz : Nat) (ad : NT) (τ : IT) (ν : NT) (hJ : wJ (cC (ν 0 0)) ad) (hH : ∀ p, p < ν 0 0 → ν 5 p < 6) (q : Nat) (hq : q < ν 0 0) (o : Int32) : Met l yX3_settle wsX3_settle ({ frames := 3, cells := 0, slots := 0, locals := 60 } : Room) (va_Pc [.ref (ad 0 0), .ref (ad 7 q), .int o] (fun U => gK D cy U ∧ (atSz sz (CW D cy ad τ ν)) U.heap)) (uQ none (CW D cy ad (settleC τ ν q o) ν) (wA (cC (ν 0 0)) ad sz)) 0 0 (wA (cC (ν 0 0)) ad sz) := by
  refine Met.ofW (cc := cX3_settle) (maxL := 3) (ret := none) (by decide) rfl ?_
  intro p e s m args below meth c s₁ B9 hml hv
  obtain ⟨rfl, hK, hsz, hB⟩ := hv
  have hx := B9.exec
  have hb := B9.bytes
  have hr := B9.returns
  have hts := atoms_spec (ws := wsX3_settle) B9.pre
  have hown : s.vm.findClass RX3 = some m.cls := findClass_of_methodNamed B9.named
  have hlocks := B9.notSynchronized
  subst hsz
  have hS : va_S (wA (cC (ν 0 0)) ad s.heap.size) s.heap s.heap [] := va_S.rf
  have lk162 := hts (.fieldLink RX3 162 "Politecrawl$Page" "host" "LPolitecrawl$Host;") (by decide +kernel)
  have inX2 : ∀ w ∈ u_ws RX2 TX2 10, w ∈ wsX3_settle := by decide +kernel
  have lk86 := hts (.fieldLink RX3 86 "Politecrawl$Host" "failures" "I") (by decide +kernel)
  have inX1 : ∀ w ∈ u_ws RX1 TX1 3, w ∈ wsX3_settle := by decide +kernel
  have lk111 := hts (.fieldLink RX3 111 "Politecrawl" "tick" "I") (by decide +kernel)
  have inX3 : ∀ w ∈ u_ws RX3 TX3 9, w ∈ wsX3_settle := by decide +kernel
  have lk29 := hts (.fieldLink RX3 29 "Politecrawl" "shortestPace" "I") (by decide +kernel)
  have lk127 := hts (.fieldLink RX3 127 "Politecrawl$Page" "due" "I") (by decide +kernel)
  have lk228 := hts (.fieldLink RX3 228 "Politecrawl$Page" "gone" "Z") (by decide +kernel)
  have lk130 := hts (.fieldLink RX3 130 "Politecrawl$Page" "visits" "I") (by decide +kernel)
  have lk133 := hts (.fieldLink RX3 133 "Politecrawl$Page" "changes" "I") (by decide +kernel)
  have hl := lv_entry ([.ref (ad 0 0), .ref (ad 7 q), .int o]) (n := 3) (Nat.le_of_ble_eq_true rfl)
  rw [lg_entry_eq]
  generalize (lg_sl ([.ref (ad 0 0), .ref (ad 7 q), .int o]) ++ List.replicate (3 - (lg_sl ([.ref (ad 0 0), .ref (ad 7 q), .int o])).length) Slot.unset).toArray = ls at hl ⊢
  have hl : lv_has ls 3 [(0, .ref (ad 0 0)), (1, .ref (ad 7 q)), (2, .int o)] := hl
  have hh5 := hH q hq
  refine lv_iload_n hx hb dX3_settle_0 rfl (lv_at hl 2 rfl) ?_
  refine lv_iconst (v := 2) hx hb dX3_settle_1 (by decide) ?_
  refine lv_icmp_ne (tgt := 32) hx hb dX3_settle_2 (by decide) (fun c_2 => ?_) (fun c_2 => ?_)
  · -- 2 t
    refine lv_aload_n hx hb dX3_settle_32 rfl (lv_at hl 1 rfl) ?_
    refine g_get (C := RX2) (T := TX2) (N := 10) (ci := 2) (fs := [.int (nI q), .ref (ad 6 (ν 5 q)), .ref (ad 8 q), .int (τ 15 q), .int (τ 10 q), .int (τ 11 q), .int (τ 12 q), .int (τ 13 q), .int (τ 14 q), .int (τ 25 q)]) hx hb hts inX2 hown hK (hB 7 q hq) rfl 1 (by decide) lk162 rfl rfl dX3_settle_33 ?_
    refine lv_iconst (v := 0) hx hb dX3_settle_36 (by decide) ?_
    refine g_put (C := RX1) (T := TX1) (N := 3) (ci := 1) (fs := [.int (τ 7 (ν 5 q)), .int (τ 8 (ν 5 q)), .int (τ 9 (ν 5 q))]) (A := (wA (cC (ν 0 0)) ad s.heap.size)) hx hb hts inX1 tyX1 tyX1_ok nmX1 hown hK (hB 6 (ν 5 q) hh5) rfl hS (wA.in (cn := cC (ν 0 0)) (k := 6) (i := (ν 5 q)) (hh5)) 1 (by decide) lk86 rfl rfl rfl rfl (Nat.le_of_ble_eq_true rfl) dX3_settle_37 (fun H1 locs1 hc1 hu1 hS1 => ?_)
    have hB1 : CW D cy ad (up2 τ 8 (ν 5 q) 0) ν H1 := hB.h8 hJ (hh5) hc1 hu1
    obtain ⟨τ1, hs1⟩ : ∃ z : IT, z = up2 τ 8 (ν 5 q) 0 := ⟨_, rfl⟩
    rw [← hs1] at hB1
    refine lv_iload_n hx hb dX3_settle_40 rfl (lv_at hl 2 rfl) ?_
    refine lv_iconst (v := 3) hx hb dX3_settle_41 (by decide) ?_
    refine lv_icmp_ne (tgt := 51) hx hb dX3_settle_42 (by decide) (fun c_42 => ?_) (fun c_42 => ?_)
    · -- 42 t
      refine lv_aload_n hx hb dX3_settle_51 rfl (lv_at hl 1 rfl) ?_
      refine lv_dup hx hb dX3_settle_52 rfl ?_
      refine g_get (C := RX2) (T := TX2) (N := 10) (ci := 2) (fs := [.int (nI q), .ref (ad 6 (ν 5 q)), .ref (ad 8 q), .int (τ1 15 q), .int (τ1 10 q), .int (τ1 11 q), .int (τ1 12 q), .int (τ1 13 q), .int (τ1 14 q), .int (τ1 25 q)]) hx hb hts inX2 hown hK (hB1 7 q hq) rfl 6 (by decide) lk130 rfl rfl dX3_settle_53 ?_
      refine lv_iconst (v := 1) hx hb dX3_settle_56 (by decide) ?_
      refine lv_iadd hx hb dX3_settle_57 ?_
      refine g_put (C := RX2) (T := TX2) (N := 10) (ci := 2) (fs := [.int (nI q), .ref (ad 6 (ν 5 q)), .ref (ad 8 q), .int (τ1 15 q), .int (τ1 10 q), .int (τ1 11 q), .int (τ1 12 q), .int (τ1 13 q), .int (τ1 14 q), .int (τ1 25 q)]) (A := (wA (cC (ν 0 0)) ad s.heap.size)) hx hb hts inX2 tyX2 tyX2_ok nmX2 hown hK (hB1 7 q hq) rfl hS1 (wA.in (cn := cC (ν 0 0)) (k := 7) (i := q) (hq)) 6 (by decide) lk130 rfl rfl rfl rfl (Nat.le_of_ble_eq_true rfl) dX3_settle_58 (fun H2 locs2 hc2 hu2 hS2 => ?_)
      have hB2 : CW D cy ad (up2 τ1 12 q ((τ1 12 q) + 1)) ν H2 := hB1.g12 hJ hq hc2 hu2
      obtain ⟨τ2, hs2⟩ : ∃ z : IT, z = up2 τ1 12 q ((τ1 12 q) + 1) := ⟨_, rfl⟩
      rw [← hs2] at hB2
      refine lv_aload_n hx hb dX3_settle_61 rfl (lv_at hl 1 rfl) ?_
      refine lv_dup hx hb dX3_settle_62 rfl ?_
      refine g_get (C := RX2) (T := TX2) (N := 10) (ci := 2) (fs := [.int (nI q), .ref (ad 6 (ν 5 q)), .ref (ad 8 q), .int (τ2 15 q), .int (τ2 10 q), .int (τ2 11 q), .int (τ2 12 q), .int (τ2 13 q), .int (τ2 14 q), .int (τ2 25 q)]) hx hb hts inX2 hown hK (hB2 7 q hq) rfl 7 (by decide) lk133 rfl rfl dX3_settle_63 ?_
      refine lv_iload_n hx hb dX3_settle_66 rfl (lv_at hl 2 rfl) ?_
      refine lv_iconst (v := 1) hx hb dX3_settle_67 (by decide) ?_
      have k_76 : ∀ zc : Int32, zc = (if o = 1 then 1 else 0) → W p l e (headSpec wsX3_settle ({ frames := 3, cells := 0, slots := 0, locals := 60 } : Room)).room s m ([.ref (ad 0 0), .ref (ad 7 q), .int o] : List Value).toArray below meth c H2 locs2 0 0 (MQ below (uQ none (CW D cy ad (settleC τ ν q o) ν) (wA (cC (ν 0 0)) ad s.heap.size)) ([.ref (ad 0 0), .ref (ad 7 q), .int o] : List Value).toArray s 0 0 (wA (cC (ν 0 0)) ad s.heap.size)) (F0 m 76 ls [.int zc, .int (τ2 13 q), .ref (ad 7 q)]) := by
        intro zc ezc
        refine lv_iadd hx hb dX3_settle_76 ?_
        refine g_put (C := RX2) (T := TX2) (N := 10) (ci := 2) (fs := [.int (nI q), .ref (ad 6 (ν 5 q)), .ref (ad 8 q), .int (τ2 15 q), .int (τ2 10 q), .int (τ2 11 q), .int (τ2 12 q), .int (τ2 13 q), .int (τ2 14 q), .int (τ2 25 q)]) (A := (wA (cC (ν 0 0)) ad s.heap.size)) hx hb hts inX2 tyX2 tyX2_ok nmX2 hown hK (hB2 7 q hq) rfl hS2 (wA.in (cn := cC (ν 0 0)) (k := 7) (i := q) (hq)) 7 (by decide) lk133 rfl rfl rfl rfl (Nat.le_of_ble_eq_true rfl) dX3_settle_77 (fun H3 locs3 hc3 hu3 hS3 => ?_)
        have hB3 : CW D cy ad (up2 τ2 13 q ((τ2 13 q) + zc)) ν H3 := hB2.g13 hJ hq hc3 hu3
        obtain ⟨τ3, hs3⟩ : ∃ z : IT, z = up2 τ2 13 q ((τ2 13 q) + zc) := ⟨_, rfl⟩
        rw [← hs3] at hB3
        refine lv_aload_n hx hb dX3_settle_80 rfl (lv_at hl 1 rfl) ?_
        refine lv_aload_n hx hb dX3_settle_81 rfl (lv_at hl 0 rfl) ?_
        refine g_get (C := RX3) (T := TX3) (N := 9) (ci := 3) (fs := [.ref (ad 1 0), .ref (ad 2 0), .ref (ad 3 0), .int (nI (ν 0 0)), .int (τ3 0 0), .int (τ3 1 0), .int (τ3 2 0), .int (τ3 3 0), .int (τ3 20 0)]) hx hb hts inX3 hown hK (hB3 0 0 Nat.zero_lt_one) rfl 4 (by decide) lk111 rfl rfl dX3_settle_82 ?_
        refine lv_aload_n hx hb dX3_settle_85 rfl (lv_at hl 0 rfl) ?_
        refine lv_aload_n hx hb dX3_settle_86 rfl (lv_at hl 1 rfl) ?_
        refine g_csr (va_runV (As := [.ref (ad 7 q)]) (rest := [.int (τ3 0 0), .ref (ad 7 q)]) ⟨hx, hb, hml, hown, hts⟩ (m_X3_paceOf l D cy ad τ3 ν q hq) (cwV 1 hts gX3_settle_X3_paceOf rfl rfl rfl (by decide +kernel) ⟨Nat.le_of_ble_eq_true rfl, Nat.le_of_ble_eq_true rfl⟩) (g_preV (C := RX3) (B := (CW D cy ad τ3 ν)) hK hB3 (hB3 0 0 Nat.zero_lt_one) rfl) rfl rfl hl.1 rfl (lv_room (Nat.le_of_ble_eq_true rfl)) dX3_settle_87 ⟨Nat.zero_le _, Nat.zero_le _⟩) ?_
        refine lv_iadd hx hb dX3_settle_90 ?_
        refine g_put (C := RX2) (T := TX2) (N := 10) (ci := 2) (fs := [.int (nI q), .ref (ad 6 (ν 5 q)), .ref (ad 8 q), .int (τ3 15 q), .int (τ3 10 q), .int (τ3 11 q), .int (τ3 12 q), .int (τ3 13 q), .int (τ3 14 q), .int (τ3 25 q)]) (A := (wA (cC (ν 0 0)) ad s.heap.size)) hx hb hts inX2 tyX2 tyX2_ok nmX2 hown hK (hB3 7 q hq) rfl hS3 (wA.in (cn := cC (ν 0 0)) (k := 7) (i := q) (hq)) 5 (by decide) lk127 rfl rfl rfl rfl (Nat.le_of_ble_eq_true rfl) dX3_settle_91 (fun H4 locs4 hc4 hu4 hS4 => ?_)
        have hB4 : CW D cy ad (up2 τ3 11 q ((τ3 0 0) + (paceC τ3 q))) ν H4 := hB3.g11 hJ hq hc4 hu4
        obtain ⟨τ4, hs4⟩ : ∃ z : IT, z = up2 τ3 11 q ((τ3 0 0) + (paceC τ3 q)) := ⟨_, rfl⟩
        rw [← hs4] at hB4
        exact g_vretU hx hb hr hlocks hS4 (by rw [settleC, if_neg c_2, if_neg c_42]; rw [hs4, hs3, hs2, hs1, ezc] at hB4; exact hB4) (Nat.le_refl _) (Nat.le_refl _) dX3_settle_94
      refine lv_icmp_ne (tgt := 75) hx hb dX3_settle_68 (by decide) (fun c_68 => ?_) (fun c_68 => ?_)
      · -- 68 t
        refine lv_iconst (v := 0) hx hb dX3_settle_75 (by decide) ?_
        exact k_76 _ (by rw [if_neg c_68])
      · -- 68 f
        refine lv_iconst (v := 1) hx hb dX3_settle_71 (by decide) ?_
        refine lv_goto (tgt := 76) hx hb dX3_settle_72 (by decide) ?_
        exact k_76 _ (by rw [if_pos c_68])
    · -- 42 f
      refine lv_aload_n hx hb dX3_settle_45 rfl (lv_at hl 1 rfl) ?_
      refine lv_iconst (v := 1) hx hb dX3_settle_46 (by decide) ?_
      refine g_put (C := RX2) (T := TX2) (N := 10) (ci := 2) (fs := [.int (nI q), .ref (ad 6 (ν 5 q)), .ref (ad 8 q), .int (τ1 15 q), .int (τ1 10 q), .int (τ1 11 q), .int (τ1 12 q), .int (τ1 13 q), .int (τ1 14 q), .int (τ1 25 q)]) (A := (wA (cC (ν 0 0)) ad s.heap.size)) hx hb hts inX2 tyX2 tyX2_ok nmX2 hown hK (hB1 7 q hq) rfl hS1 (wA.in (cn := cC (ν 0 0)) (k := 7) (i := q) (hq)) 8 (by decide) lk228 rfl rfl rfl rfl (Nat.le_of_ble_eq_true rfl) dX3_settle_47 (fun H5 locs5 hc5 hu5 hS5 => ?_)
      have hB5 : CW D cy ad (up2 τ1 14 q 1) ν H5 := hB1.g14 hJ hq hc5 hu5
      obtain ⟨τ5, hs5⟩ : ∃ z : IT, z = up2 τ1 14 q 1 := ⟨_, rfl⟩
      rw [← hs5] at hB5
      exact g_vretU hx hb hr hlocks hS5 (by rw [settleC, if_neg c_2, if_pos c_42]; rw [hs5, hs1] at hB5; exact hB5) (Nat.le_refl _) (Nat.le_refl _) dX3_settle_50
  · -- 2 f
    refine lv_aload_n hx hb dX3_settle_5 rfl (lv_at hl 1 rfl) ?_
    refine g_get (C := RX2) (T := TX2) (N := 10) (ci := 2) (fs := [.int (nI q), .ref (ad 6 (ν 5 q)), .ref (ad 8 q), .int (τ 15 q), .int (τ 10 q), .int (τ 11 q), .int (τ 12 q), .int (τ 13 q), .int (τ 14 q), .int (τ 25 q)]) hx hb hts inX2 hown hK (hB 7 q hq) rfl 1 (by decide) lk162 rfl rfl dX3_settle_6 ?_
    refine lv_dup hx hb dX3_settle_9 rfl ?_
    refine g_get (C := RX1) (T := TX1) (N := 3) (ci := 1) (fs := [.int (τ 7 (ν 5 q)), .int (τ 8 (ν 5 q)), .int (τ 9 (ν 5 q))]) hx hb hts inX1 hown hK (hB 6 (ν 5 q) hh5) rfl 1 (by decide) lk86 rfl rfl dX3_settle_10 ?_
    refine lv_iconst (v := 1) hx hb dX3_settle_13 (by decide) ?_
    refine lv_iadd hx hb dX3_settle_14 ?_
    refine g_put (C := RX1) (T := TX1) (N := 3) (ci := 1) (fs := [.int (τ 7 (ν 5 q)), .int (τ 8 (ν 5 q)), .int (τ 9 (ν 5 q))]) (A := (wA (cC (ν 0 0)) ad s.heap.size)) hx hb hts inX1 tyX1 tyX1_ok nmX1 hown hK (hB 6 (ν 5 q) hh5) rfl hS (wA.in (cn := cC (ν 0 0)) (k := 6) (i := (ν 5 q)) (hh5)) 1 (by decide) lk86 rfl rfl rfl rfl (Nat.le_of_ble_eq_true rfl) dX3_settle_15 (fun H6 locs6 hc6 hu6 hS6 => ?_)
    have hB6 : CW D cy ad (up2 τ 8 (ν 5 q) ((τ 8 (ν 5 q)) + 1)) ν H6 := hB.h8 hJ (hh5) hc6 hu6
    obtain ⟨τ6, hs6⟩ : ∃ z : IT, z = up2 τ 8 (ν 5 q) ((τ 8 (ν 5 q)) + 1) := ⟨_, rfl⟩
    rw [← hs6] at hB6
    refine lv_aload_n hx hb dX3_settle_18 rfl (lv_at hl 1 rfl) ?_
    refine lv_aload_n hx hb dX3_settle_19 rfl (lv_at hl 0 rfl) ?_
    refine g_get (C := RX3) (T := TX3) (N := 9) (ci := 3) (fs := [.ref (ad 1 0), .ref (ad 2 0), .ref (ad 3 0), .int (nI (ν 0 0)), .int (τ6 0 0), .int (τ6 1 0), .int (τ6 2 0), .int (τ6 3 0), .int (τ6 20 0)]) hx hb hts inX3 hown hK (hB6 0 0 Nat.zero_lt_one) rfl 4 (by decide) lk111 rfl rfl dX3_settle_20 ?_
    refine lv_aload_n hx hb dX3_settle_23 rfl (lv_at hl 0 rfl) ?_
    refine g_get (C := RX3) (T := TX3) (N := 9) (ci := 3) (fs := [.ref (ad 1 0), .ref (ad 2 0), .ref (ad 3 0), .int (nI (ν 0 0)), .int (τ6 0 0), .int (τ6 1 0), .int (τ6 2 0), .int (τ6 3 0), .int (τ6 20 0)]) hx hb hts inX3 hown hK (hB6 0 0 Nat.zero_lt_one) rfl 5 (by decide) lk29 rfl rfl dX3_settle_24 ?_
    refine lv_iadd hx hb dX3_settle_27 ?_
    refine g_put (C := RX2) (T := TX2) (N := 10) (ci := 2) (fs := [.int (nI q), .ref (ad 6 (ν 5 q)), .ref (ad 8 q), .int (τ6 15 q), .int (τ6 10 q), .int (τ6 11 q), .int (τ6 12 q), .int (τ6 13 q), .int (τ6 14 q), .int (τ6 25 q)]) (A := (wA (cC (ν 0 0)) ad s.heap.size)) hx hb hts inX2 tyX2 tyX2_ok nmX2 hown hK (hB6 7 q hq) rfl hS6 (wA.in (cn := cC (ν 0 0)) (k := 7) (i := q) (hq)) 5 (by decide) lk127 rfl rfl rfl rfl (Nat.le_of_ble_eq_true rfl) dX3_settle_28 (fun H7 locs7 hc7 hu7 hS7 => ?_)
    have hB7 : CW D cy ad (up2 τ6 11 q ((τ6 0 0) + (τ6 1 0))) ν H7 := hB6.g11 hJ hq hc7 hu7
    obtain ⟨τ7, hs7⟩ : ∃ z : IT, z = up2 τ6 11 q ((τ6 0 0) + (τ6 1 0)) := ⟨_, rfl⟩
    rw [← hs7] at hB7
    exact g_vretU hx hb hr hlocks hS7 (by rw [settleC, if_pos c_2]; rw [hs7, hs6] at hB7; exact hB7) (Nat.le_refl _) (Nat.le_refl _) dX3_settle_31

set_option maxHeartbeats 4000000 in
set_option maxRecDepth 100000 in
/-- forgetSpread -/
theorem m_X3_forgetSpread (l : Launch) (D : va_G) (cy : Nat → ClassId) (sz : Nat) (ad : NT) (τ : IT) (ν : NT) (hJ : wJ (cC (ν 0 0)) ad) : Met l yX3_forgetSpread wsX3_forgetSpread ({ frames := 0, cells := 0, slots := 0, locals := 0 } : Room) (va_Pc [.ref (ad 0 0)] (fun U => gK D cy U ∧ (atSz sz (CW D cy ad τ ν)) U.heap)) (uQ none (CW D cy ad (fgL τ (ν 0 0) 30) ν) (wA (cC (ν 0 0)) ad sz)) 0 0 (wA (cC (ν 0 0)) ad sz) := by
  refine Met.ofW (cc := cX3_forgetSpread) (maxL := 5) (ret := none) (by decide) rfl ?_
  intro p e s m args below meth c s₁ B9 hml hv
  obtain ⟨rfl, hK, hsz, hB⟩ := hv
  have hx := B9.exec
  have hb := B9.bytes
  have hr := B9.returns
  have hts := atoms_spec (ws := wsX3_forgetSpread) B9.pre
  have hown : s.vm.findClass RX3 = some m.cls := findClass_of_methodNamed B9.named
  have hlocks := B9.notSynchronized
  subst hsz
  have hS : va_S (wA (cC (ν 0 0)) ad s.heap.size) s.heap s.heap [] := va_S.rf
  have lk25 := hts (.fieldLink RX3 25 "Politecrawl" "found" "[LPolitecrawl$Page;") (by decide +kernel)
  have inX3 : ∀ w ∈ u_ws RX3 TX3 9, w ∈ wsX3_forgetSpread := by decide +kernel
  have lk198 := hts (.fieldLink RX3 198 "Politecrawl$Page" "spread" "I") (by decide +kernel)
  have inX2 : ∀ w ∈ u_ws RX2 TX2 10, w ∈ wsX3_forgetSpread := by decide +kernel
  have hl := lv_entry ([.ref (ad 0 0)]) (n := 5) (Nat.le_of_ble_eq_true rfl)
  rw [lg_entry_eq]
  generalize (lg_sl ([.ref (ad 0 0)]) ++ List.replicate (5 - (lg_sl ([.ref (ad 0 0)])).length) Slot.unset).toArray = ls at hl ⊢
  have hl : lv_has ls 5 [(0, .ref (ad 0 0))] := hl
  refine lv_aload_n hx hb dX3_forgetSpread_0 rfl (lv_at hl 0 rfl) ?_
  refine g_get (C := RX3) (T := TX3) (N := 9) (ci := 3) (fs := [.ref (ad 1 0), .ref (ad 2 0), .ref (ad 3 0), .int (nI (ν 0 0)), .int (τ 0 0), .int (τ 1 0), .int (τ 2 0), .int (τ 3 0), .int (τ 20 0)]) hx hb hts inX3 hown hK (hB 0 0 Nat.zero_lt_one) rfl 2 (by decide) lk25 rfl rfl dX3_forgetSpread_1 ?_
  refine lv_astore_n (lv' := [(1, .ref (ad 3 0)), (0, .ref (ad 0 0))]) hx hb dX3_forgetSpread_4 rfl hl (by decide) rfl (fun ls hl => ?_)
  refine lv_aload_n hx hb dX3_forgetSpread_5 rfl (lv_at hl 0 rfl) ?_
  refine g_alen (v := 30) hx hb hK 4 (hB 3 0 Nat.zero_lt_one) rfl rfl dX3_forgetSpread_6 ?_
  refine lv_istore_n (lv' := [(2, .int 30), (1, .ref (ad 3 0)), (0, .ref (ad 0 0))]) hx hb dX3_forgetSpread_7 rfl hl (by decide) rfl (fun ls hl => ?_)
  refine lv_iconst (v := 0) hx hb dX3_forgetSpread_8 (by decide) ?_
  refine lv_topi (fun y1 ey1 => ?_)
  obtain rfl : y1 = nI 0 := ey1.trans (nI_0.symm)
  refine lv_istore_n (lv' := [(3, .int (nI 0)), (2, .int 30), (1, .ref (ad 3 0)), (0, .ref (ad 0 0))]) hx hb dX3_forgetSpread_9 rfl hl (by decide) rfl (fun ls hl => ?_)
  have loop : ∀ (k : Nat) (iz : Nat) (Hz : Heap) (locsz : List Loc) (τz : IT) (ls : Array Slot), iz ≤ 30 → 30 < iz + k → CW D cy ad τz ν Hz → va_S (wA (cC (ν 0 0)) ad s.heap.size) s.heap Hz locsz → τz = fgL τ (ν 0 0) iz → lv_has ls 5 [(0, .ref (ad 0 0)), (1, .ref (ad 3 0)), (2, .int 30), (3, .int (nI iz))] → W p l e (headSpec wsX3_forgetSpread ({ frames := 0, cells := 0, slots := 0, locals := 0 } : Room)).room s m ([.ref (ad 0 0)] : List Value).toArray below meth c Hz locsz 0 0 (MQ below (uQ none (CW D cy ad (fgL τ (ν 0 0) 30) ν) (wA (cC (ν 0 0)) ad s.heap.size)) ([.ref (ad 0 0)] : List Value).toArray s 0 0 (wA (cC (ν 0 0)) ad s.heap.size)) (F0 m 10 ls []) := by
    intro k
    induction k with
    | zero => intro iz Hz locsz τz ls hi hk hBz hSz hτ hl; exfalso; omega
    | succ k loop_ih =>
      intro iz Hz locsz τz ls hi hk hBz hSz hτ hl
      refine lv_iload_n hx hb dX3_forgetSpread_10 rfl (lv_at hl 3 rfl) ?_
      refine lv_iload_n hx hb dX3_forgetSpread_11 rfl (lv_at hl 2 rfl) ?_
      refine lv_icmp_ge (tgt := 37) hx hb dX3_forgetSpread_12 (by decide) (fun c_12 => ?_) (fun c_12 => ?_)
      · -- 12 t
        have hie : iz = 30 := by have := (nI_leI (a := 30) (by decide) (by omega)).mp c_12; omega
        exact g_vretU hx hb hr hlocks hSz (by rw [hτ, hie] at hBz; exact hBz) (Nat.le_refl _) (Nat.le_refl _) dX3_forgetSpread_37
      · -- 12 f
        have hlt : iz < 30 := Nat.not_le.mp fun q => c_12 ((nI_leI (a := 30) (by decide) (by omega)).mpr q)
        refine lv_aload_n hx hb dX3_forgetSpread_15 rfl (lv_at hl 1 rfl) ?_
        refine lv_iload_n hx hb dX3_forgetSpread_16 rfl (lv_at hl 3 rfl) ?_
        refine g_pald (f := fun j => if j < ν 0 0 then some (ad 7 j) else none) (v := va_rf (if iz < ν 0 0 then some (ad 7 iz) else none)) hx hb hK (hBz 3 0 Nat.zero_lt_one) (vp_in_nI hlt (by decide)) (by rw [cl_nI (by omega)]) dX3_forgetSpread_17 ?_
        by_cases hp9 : iz < ν 0 0
        · -- page t
          refine g_top (v' := .ref (ad 7 iz)) (by rw [if_pos hp9]; rfl) ?_
          refine lv_astore (lv' := [(4, .ref (ad 7 iz)), (0, .ref (ad 0 0)), (1, .ref (ad 3 0)), (2, .int 30), (3, .int (nI iz))]) hx hb dX3_forgetSpread_18 hl (by decide) rfl (fun ls hl => ?_)
          refine lv_aload hx hb dX3_forgetSpread_20 (lv_at hl 0 rfl) ?_
          refine lv_ifnull hx hb dX3_forgetSpread_22 ?_
          refine lv_aload hx hb dX3_forgetSpread_25 (lv_at hl 0 rfl) ?_
          refine lv_iconst (v := 0) hx hb dX3_forgetSpread_27 (by decide) ?_
          refine g_put (C := RX2) (T := TX2) (N := 10) (ci := 2) (fs := [.int (nI iz), .ref (ad 6 (ν 5 iz)), .ref (ad 8 iz), .int (τz 15 iz), .int (τz 10 iz), .int (τz 11 iz), .int (τz 12 iz), .int (τz 13 iz), .int (τz 14 iz), .int (τz 25 iz)]) (A := (wA (cC (ν 0 0)) ad s.heap.size)) hx hb hts inX2 tyX2 tyX2_ok nmX2 hown hK (hBz 7 iz hp9) rfl hSz (wA.in (cn := cC (ν 0 0)) (k := 7) (i := iz) (hp9)) 9 (by decide) lk198 rfl rfl rfl rfl (Nat.le_of_ble_eq_true rfl) dX3_forgetSpread_28 (fun H1 locs1 hc1 hu1 hS1 => ?_)
          have hB1 : CW D cy ad (up2 τz 25 iz 0) ν H1 := hBz.g25 hJ hp9 hc1 hu1
          obtain ⟨τ1, hs1⟩ : ∃ z : IT, z = up2 τz 25 iz 0 := ⟨_, rfl⟩
          rw [← hs1] at hB1
          refine lv_iinc (v := nI (iz + 1)) (lv' := [(3, .int (nI (iz + 1))), (4, .ref (ad 7 iz)), (0, .ref (ad 0 0)), (1, .ref (ad 3 0)), (2, .int 30)]) hx hb dX3_forgetSpread_31 hl (k := 4) rfl (nI_1 iz) (by decide) rfl (fun ls hl => ?_)
          refine lv_goto (tgt := 10) hx hb dX3_forgetSpread_34 (by decide) ?_
          exact loop_ih (iz + 1) H1 locs1 τ1 ls (by omega) (by omega) hB1 hS1 (by rw [fgL, if_pos hp9, ← hτ]; exact hs1) (lv_sub hl [2, 3, 4, 0] rfl)
        · -- page f
          refine g_top (v' := .null) (by rw [if_neg hp9]; rfl) ?_
          refine lv_astoreN (lv' := [(4, .null), (0, .ref (ad 0 0)), (1, .ref (ad 3 0)), (2, .int 30), (3, .int (nI iz))]) hx hb dX3_forgetSpread_18 hl (by decide) rfl (fun ls hl => ?_)
          refine lv_aloadN hx hb dX3_forgetSpread_20 (lv_at hl 0 rfl) ?_
          refine lv_ifnullN (tgt := 31) hx hb dX3_forgetSpread_22 (by decide) ?_
          refine lv_iinc (v := nI (iz + 1)) (lv' := [(3, .int (nI (iz + 1))), (4, .null), (0, .ref (ad 0 0)), (1, .ref (ad 3 0)), (2, .int 30)]) hx hb dX3_forgetSpread_31 hl (k := 4) rfl (nI_1 iz) (by decide) rfl (fun ls hl => ?_)
          refine lv_goto (tgt := 10) hx hb dX3_forgetSpread_34 (by decide) ?_
          exact loop_ih (iz + 1) Hz locsz τz ls (by omega) (by omega) hBz hSz (by rw [fgL, if_neg hp9]; exact hτ) (lv_sub hl [2, 3, 4, 0] rfl)
  exact loop (30 + 1) 0 s.heap [] τ ls (Nat.zero_le _) (by omega) hB hS rfl (lv_sub hl [3, 2, 1, 0] rfl)

set_option maxHeartbeats 4000000 in
set_option maxRecDepth 100000 in
/-- spreadOneVisit -/
theorem m_X3_spreadOneVisit (l : Launch) (D : va_G) (cy : Nat → ClassId) (sz : Nat) (ad : NT) (τ : IT) (ν : NT) (hJ : wJ (cC (ν 0 0)) ad) : Met l yX3_spreadOneVisit wsX3_spreadOneVisit ({ frames := 3, cells := 0, slots := 0, locals := 60 } : Room) (va_Pc [.ref (ad 0 0)] (fun U => gK D cy U ∧ (atSz sz (CW D cy ad τ ν)) U.heap)) (uQ none (CW D cy ad (incC τ (bstL τ ν 30 0 none)) ν) (wA (cC (ν 0 0)) ad sz)) 0 0 (wA (cC (ν 0 0)) ad sz) := by
  refine Met.ofW (cc := cX3_spreadOneVisit) (maxL := 6) (ret := none) (by decide) rfl ?_
  intro p e s m args below meth c s₁ B9 hml hv
  obtain ⟨rfl, hK, hsz, hB⟩ := hv
  have hx := B9.exec
  have hb := B9.bytes
  have hr := B9.returns
  have hts := atoms_spec (ws := wsX3_spreadOneVisit) B9.pre
  have hown : s.vm.findClass RX3 = some m.cls := findClass_of_methodNamed B9.named
  have hlocks := B9.notSynchronized
  subst hsz
  have hS : va_S (wA (cC (ν 0 0)) ad s.heap.size) s.heap s.heap [] := va_S.rf
  have lk25 := hts (.fieldLink RX3 25 "Politecrawl" "found" "[LPolitecrawl$Page;") (by decide +kernel)
  have inX3 : ∀ w ∈ u_ws RX3 TX3 9, w ∈ wsX3_spreadOneVisit := by decide +kernel
  have lk198 := hts (.fieldLink RX3 198 "Politecrawl$Page" "spread" "I") (by decide +kernel)
  have inX2 : ∀ w ∈ u_ws RX2 TX2 10, w ∈ wsX3_spreadOneVisit := by decide +kernel
  have hl := lv_entry ([.ref (ad 0 0)]) (n := 6) (Nat.le_of_ble_eq_true rfl)
  rw [lg_entry_eq]
  generalize (lg_sl ([.ref (ad 0 0)]) ++ List.replicate (6 - (lg_sl ([.ref (ad 0 0)])).length) Slot.unset).toArray = ls at hl ⊢
  have hl : lv_has ls 6 [(0, .ref (ad 0 0))] := hl
  refine lv_null hx hb dX3_spreadOneVisit_0 ?_
  refine lv_astore_nN (lv' := [(1, .null), (0, .ref (ad 0 0))]) hx hb dX3_spreadOneVisit_1 rfl hl (by decide) rfl (fun ls hl => ?_)
  refine lv_aload_n hx hb dX3_spreadOneVisit_2 rfl (lv_at hl 1 rfl) ?_
  refine g_get (C := RX3) (T := TX3) (N := 9) (ci := 3) (fs := [.ref (ad 1 0), .ref (ad 2 0), .ref (ad 3 0), .int (nI (ν 0 0)), .int (τ 0 0), .int (τ 1 0), .int (τ 2 0), .int (τ 3 0), .int (τ 20 0)]) hx hb hts inX3 hown hK (hB 0 0 Nat.zero_lt_one) rfl 2 (by decide) lk25 rfl rfl dX3_spreadOneVisit_3 ?_
  refine lv_astore_n (lv' := [(2, .ref (ad 3 0)), (1, .null), (0, .ref (ad 0 0))]) hx hb dX3_spreadOneVisit_6 rfl hl (by decide) rfl (fun ls hl => ?_)
  refine lv_aload_n hx hb dX3_spreadOneVisit_7 rfl (lv_at hl 0 rfl) ?_
  refine g_alen (v := 30) hx hb hK 4 (hB 3 0 Nat.zero_lt_one) rfl rfl dX3_spreadOneVisit_8 ?_
  refine lv_istore_n (lv' := [(3, .int 30), (2, .ref (ad 3 0)), (1, .null), (0, .ref (ad 0 0))]) hx hb dX3_spreadOneVisit_9 rfl hl (by decide) rfl (fun ls hl => ?_)
  refine lv_iconst (v := 0) hx hb dX3_spreadOneVisit_10 (by decide) ?_
  refine lv_topi (fun y1 ey1 => ?_)
  obtain rfl : y1 = nI 0 := ey1.trans (nI_0.symm)
  refine lv_istore (lv' := [(4, .int (nI 0)), (3, .int 30), (2, .ref (ad 3 0)), (1, .null), (0, .ref (ad 0 0))]) hx hb dX3_spreadOneVisit_11 hl (by decide) rfl (fun ls hl => ?_)
  obtain ⟨V, hV⟩ : ∃ V, V = bstL τ ν (30 - 0) 0 none := ⟨_, rfl⟩
  have hV0 : bstL τ ν 30 0 none = V := hV.symm
  rw [hV0]
  have loop : ∀ (k : Nat) (iz : Nat) (bz : Option Nat) (ls : Array Slot), iz ≤ 30 → (∀ a, bz = some a → a < ν 0 0) → 30 < iz + k → V = bstL τ ν (30 - iz) iz bz → lv_has ls 6 [(0, .ref (ad 0 0)), (1, va_rf (bz.map (ad 7))), (2, .ref (ad 3 0)), (3, .int 30), (4, .int (nI iz))] → W p l e (headSpec wsX3_spreadOneVisit ({ frames := 3, cells := 0, slots := 0, locals := 60 } : Room)).room s m ([.ref (ad 0 0)] : List Value).toArray below meth c s.heap [] 0 0 (MQ below (uQ none (CW D cy ad (incC τ V) ν) (wA (cC (ν 0 0)) ad s.heap.size)) ([.ref (ad 0 0)] : List Value).toArray s 0 0 (wA (cC (ν 0 0)) ad s.heap.size)) (F0 m 13 ls []) := by
    intro k
    induction k with
    | zero => intro iz bz ls hi hf hk hV hl; exfalso; omega
    | succ k loop_ih =>
      intro iz bz ls hi hf hk hV hl
      refine lv_iload hx hb dX3_spreadOneVisit_13 (lv_at hl 4 rfl) ?_
      refine lv_iload_n hx hb dX3_spreadOneVisit_15 rfl (lv_at hl 3 rfl) ?_
      refine lv_icmp_ge (tgt := 60) hx hb dX3_spreadOneVisit_16 (by decide) (fun c_16 => ?_) (fun c_16 => ?_)
      · -- 16 t
        have hie : iz = 30 := by have := (nI_leI (a := 30) (by decide) (by omega)).mp c_16; omega
        rw [show 30 - iz = 0 by omega, bstL] at hV
        have hV := hV.symm
        subst hV
        refine g_aload_n hx hb (va_rf_or _) dX3_spreadOneVisit_60 rfl (lv_at hl 1 rfl) ?_
        rcases bz with _ | jz
        · -- best n
          refine g_top (v' := .null) rfl ?_
          have hl : lv_has ls 6 [(0, .ref (ad 0 0)), (1, .null), (2, .ref (ad 3 0)), (3, .int 30), (4, .int (nI iz))] := hl
          refine lv_ifnullN (tgt := 74) hx hb dX3_spreadOneVisit_61 (by decide) ?_
          exact g_vretU hx hb hr hlocks hS (by rw [incC]; exact hB) (Nat.le_refl _) (Nat.le_refl _) dX3_spreadOneVisit_74
        · -- best s
          refine g_top (v' := .ref (ad 7 jz)) rfl ?_
          have hl : lv_has ls 6 [(0, .ref (ad 0 0)), (1, .ref (ad 7 jz)), (2, .ref (ad 3 0)), (3, .int 30), (4, .int (nI iz))] := hl
          refine lv_ifnull hx hb dX3_spreadOneVisit_61 ?_
          refine lv_aload_n hx hb dX3_spreadOneVisit_64 rfl (lv_at hl 1 rfl) ?_
          refine lv_dup hx hb dX3_spreadOneVisit_65 rfl ?_
          refine g_get (C := RX2) (T := TX2) (N := 10) (ci := 2) (fs := [.int (nI jz), .ref (ad 6 (ν 5 jz)), .ref (ad 8 jz), .int (τ 15 jz), .int (τ 10 jz), .int (τ 11 jz), .int (τ 12 jz), .int (τ 13 jz), .int (τ 14 jz), .int (τ 25 jz)]) hx hb hts inX2 hown hK (hB 7 jz (hf jz rfl)) rfl 9 (by decide) lk198 rfl rfl dX3_spreadOneVisit_66 ?_
          refine lv_iconst (v := 1) hx hb dX3_spreadOneVisit_69 (by decide) ?_
          refine lv_iadd hx hb dX3_spreadOneVisit_70 ?_
          refine g_put (C := RX2) (T := TX2) (N := 10) (ci := 2) (fs := [.int (nI jz), .ref (ad 6 (ν 5 jz)), .ref (ad 8 jz), .int (τ 15 jz), .int (τ 10 jz), .int (τ 11 jz), .int (τ 12 jz), .int (τ 13 jz), .int (τ 14 jz), .int (τ 25 jz)]) (A := (wA (cC (ν 0 0)) ad s.heap.size)) hx hb hts inX2 tyX2 tyX2_ok nmX2 hown hK (hB 7 jz (hf jz rfl)) rfl hS (wA.in (cn := cC (ν 0 0)) (k := 7) (i := jz) ((hf jz rfl))) 9 (by decide) lk198 rfl rfl rfl rfl (Nat.le_of_ble_eq_true rfl) dX3_spreadOneVisit_71 (fun H1 locs1 hc1 hu1 hS1 => ?_)
          have hB1 : CW D cy ad (up2 τ 25 jz ((τ 25 jz) + 1)) ν H1 := hB.g25 hJ (hf jz rfl) hc1 hu1
          obtain ⟨τ1, hs1⟩ : ∃ z : IT, z = up2 τ 25 jz ((τ 25 jz) + 1) := ⟨_, rfl⟩
          rw [← hs1] at hB1
          exact g_vretU hx hb hr hlocks hS1 (by rw [incC]; rw [hs1] at hB1; exact hB1) (Nat.le_refl _) (Nat.le_refl _) dX3_spreadOneVisit_74
      · -- 16 f
        have hlt : iz < 30 := Nat.not_le.mp fun q => c_16 ((nI_leI (a := 30) (by decide) (by omega)).mpr q)
        obtain ⟨j, hj⟩ : ∃ j, 30 - iz = j + 1 := ⟨30 - iz - 1, by omega⟩
        have hj2 : 30 - (iz + 1) = j := by omega
        rw [hj, bstL] at hV
        refine lv_aload_n hx hb dX3_spreadOneVisit_19 rfl (lv_at hl 2 rfl) ?_
        refine lv_iload hx hb dX3_spreadOneVisit_20 (lv_at hl 4 rfl) ?_
        refine g_pald (f := fun j => if j < ν 0 0 then some (ad 7 j) else none) (v := va_rf (if iz < ν 0 0 then some (ad 7 iz) else none)) hx hb hK (hB 3 0 Nat.zero_lt_one) (vp_in_nI hlt (by decide)) (by rw [cl_nI (by omega)]) dX3_spreadOneVisit_22 ?_
        by_cases hp9 : iz < ν 0 0
        · -- page t
          refine g_top (v' := .ref (ad 7 iz)) (by rw [if_pos hp9]; rfl) ?_
          refine lv_astore (lv' := [(5, .ref (ad 7 iz)), (0, .ref (ad 0 0)), (1, va_rf (bz.map (ad 7))), (2, .ref (ad 3 0)), (3, .int 30), (4, .int (nI iz))]) hx hb dX3_spreadOneVisit_23 hl (by decide) rfl (fun ls hl => ?_)
          refine lv_aload hx hb dX3_spreadOneVisit_25 (lv_at hl 0 rfl) ?_
          refine lv_ifnull hx hb dX3_spreadOneVisit_27 ?_
          refine lv_aload hx hb dX3_spreadOneVisit_30 (lv_at hl 0 rfl) ?_
          refine g_csr (va_runV (As := []) (rest := []) ⟨hx, hb, hml, hown, hts⟩ (m_X2_isKept l D cy (ad 7 iz) (ad 6 (ν 5 iz)) (ad 8 iz) (nI iz) (τ 15 iz) (τ 10 iz) (τ 11 iz) (τ 12 iz) (τ 13 iz) (τ 14 iz) (τ 25 iz)) (cwV 0 hts gX3_spreadOneVisit_X2_isKept rfl rfl rfl (by decide +kernel) ⟨Nat.le_of_ble_eq_true rfl, Nat.le_of_ble_eq_true rfl⟩) (g_preV (C := RX2) (B := (pPage D (ad 7 iz) (ad 6 (ν 5 iz)) (ad 8 iz) (nI iz) (τ 15 iz) (τ 10 iz) (τ 11 iz) (τ 12 iz) (τ 13 iz) (τ 14 iz) (τ 25 iz))) hK (hB.page hp9) (hB 7 iz hp9) rfl) rfl rfl hl.1 rfl (lv_room (Nat.le_of_ble_eq_true rfl)) dX3_spreadOneVisit_32 ⟨Nat.zero_le _, Nat.zero_le _⟩) ?_
          refine lv_if_eq (tgt := 54) hx hb dX3_spreadOneVisit_35 (by decide) (fun c_35 => ?_) (fun c_35 => ?_)
          · -- 35 t
            rw [if_neg (fun q => by rw [(zb_0.mp c_35 : keptC τ iz = false)] at q; cases q.2.1)] at hV
            refine lv_iinc (v := nI (iz + 1)) (lv' := [(4, .int (nI (iz + 1))), (5, .ref (ad 7 iz)), (0, .ref (ad 0 0)), (1, va_rf (bz.map (ad 7))), (2, .ref (ad 3 0)), (3, .int 30)]) hx hb dX3_spreadOneVisit_54 hl (k := 5) rfl (nI_1 iz) (by decide) rfl (fun ls hl => ?_)
            refine lv_goto (tgt := 13) hx hb dX3_spreadOneVisit_57 (by decide) ?_
            exact loop_ih (iz + 1) bz ls (by omega) hf (by omega) (by rw [hj2]; exact hV) (lv_sub hl [2, 3, 4, 5, 0] rfl)
          · -- 35 f
            refine g_aload_n hx hb (va_rf_or _) dX3_spreadOneVisit_38 rfl (lv_at hl 2 rfl) ?_
            rcases bz with _ | jz
            · -- best n
              refine g_top (v' := .null) rfl ?_
              have hl : lv_has ls 6 [(5, .ref (ad 7 iz)), (0, .ref (ad 0 0)), (1, .null), (2, .ref (ad 3 0)), (3, .int 30), (4, .int (nI iz))] := hl
              refine lv_ifnullN (tgt := 51) hx hb dX3_spreadOneVisit_39 (by decide) ?_
              refine lv_aload hx hb dX3_spreadOneVisit_51 (lv_at hl 0 rfl) ?_
              refine lv_astore_n (lv' := [(1, .ref (ad 7 iz)), (5, .ref (ad 7 iz)), (0, .ref (ad 0 0)), (2, .ref (ad 3 0)), (3, .int 30), (4, .int (nI iz))]) hx hb dX3_spreadOneVisit_53 rfl hl (by decide) rfl (fun ls hl => ?_)
              rw [if_pos ⟨hp9, (zb_n0.mp c_35 : keptC τ iz = true), rfl⟩] at hV
              refine lv_iinc (v := nI (iz + 1)) (lv' := [(4, .int (nI (iz + 1))), (1, .ref (ad 7 iz)), (5, .ref (ad 7 iz)), (0, .ref (ad 0 0)), (2, .ref (ad 3 0)), (3, .int 30)]) hx hb dX3_spreadOneVisit_54 hl (k := 5) rfl (nI_1 iz) (by decide) rfl (fun ls hl => ?_)
              refine lv_goto (tgt := 13) hx hb dX3_spreadOneVisit_57 (by decide) ?_
              exact loop_ih (iz + 1) (some iz) ls (by omega) (some_lt hp9) (by omega) (by rw [hj2]; exact hV) (lv_sub hl [3, 1, 4, 5, 0] rfl)
            · -- best s
              refine g_top (v' := .ref (ad 7 jz)) rfl ?_
              have hl : lv_has ls 6 [(5, .ref (ad 7 iz)), (0, .ref (ad 0 0)), (1, .ref (ad 7 jz)), (2, .ref (ad 3 0)), (3, .int 30), (4, .int (nI iz))] := hl
              refine lv_ifnull hx hb dX3_spreadOneVisit_39 ?_
              refine lv_aload hx hb dX3_spreadOneVisit_42 (lv_at hl 0 rfl) ?_
              refine lv_aload_n hx hb dX3_spreadOneVisit_44 rfl (lv_at hl 2 rfl) ?_
              refine g_csr (va_runV (As := [.ref (ad 7 jz)]) (rest := []) ⟨hx, hb, hml, hown, hts⟩ (m_X2_gainsMoreThan l D cy (ad 7 iz) (ad 6 (ν 5 iz)) (ad 8 iz) (nI iz) (τ 15 iz) (τ 10 iz) (τ 11 iz) (τ 12 iz) (τ 13 iz) (τ 14 iz) (τ 25 iz) (ad 7 jz) (ad 6 (ν 5 jz)) (ad 8 jz) (nI jz) (τ 15 jz) (τ 10 jz) (τ 11 jz) (τ 12 jz) (τ 13 jz) (τ 14 jz) (τ 25 jz)) (cwV 1 hts gX3_spreadOneVisit_X2_gainsMoreThan rfl rfl rfl (by decide +kernel) ⟨Nat.le_of_ble_eq_true rfl, Nat.le_of_ble_eq_true rfl⟩) (g_preV (C := RX2) (B := (pPP D (ad 7 iz) (ad 6 (ν 5 iz)) (ad 8 iz) (nI iz) (τ 15 iz) (τ 10 iz) (τ 11 iz) (τ 12 iz) (τ 13 iz) (τ 14 iz) (τ 25 iz) (ad 7 jz) (ad 6 (ν 5 jz)) (ad 8 jz) (nI jz) (τ 15 jz) (τ 10 jz) (τ 11 jz) (τ 12 jz) (τ 13 jz) (τ 14 jz) (τ 25 jz))) hK ⟨hB.page hp9, hB.page (hf jz rfl)⟩ (hB 7 iz hp9) rfl) rfl rfl hl.1 rfl (lv_room (Nat.le_of_ble_eq_true rfl)) dX3_spreadOneVisit_45 ⟨Nat.zero_le _, Nat.zero_le _⟩) ?_
              refine lv_if_eq (tgt := 54) hx hb dX3_spreadOneVisit_48 (by decide) (fun c_48 => ?_) (fun c_48 => ?_)
              · -- 48 t
                rw [if_neg (fun q => by have z := q.2.2; rw [gnC, (zb_0.mp c_48 : gainsC τ iz jz = false)] at z; cases z)] at hV
                refine lv_iinc (v := nI (iz + 1)) (lv' := [(4, .int (nI (iz + 1))), (5, .ref (ad 7 iz)), (0, .ref (ad 0 0)), (1, .ref (ad 7 jz)), (2, .ref (ad 3 0)), (3, .int 30)]) hx hb dX3_spreadOneVisit_54 hl (k := 5) rfl (nI_1 iz) (by decide) rfl (fun ls hl => ?_)
                refine lv_goto (tgt := 13) hx hb dX3_spreadOneVisit_57 (by decide) ?_
                exact loop_ih (iz + 1) (some jz) ls (by omega) hf (by omega) (by rw [hj2]; exact hV) (lv_sub hl [2, 3, 4, 5, 0] rfl)
              · -- 48 f
                refine lv_aload hx hb dX3_spreadOneVisit_51 (lv_at hl 0 rfl) ?_
                refine lv_astore_n (lv' := [(1, .ref (ad 7 iz)), (5, .ref (ad 7 iz)), (0, .ref (ad 0 0)), (2, .ref (ad 3 0)), (3, .int 30), (4, .int (nI iz))]) hx hb dX3_spreadOneVisit_53 rfl hl (by decide) rfl (fun ls hl => ?_)
                rw [if_pos ⟨hp9, (zb_n0.mp c_35 : keptC τ iz = true), (zb_n0.mp c_48 : gainsC τ iz jz = true)⟩] at hV
                refine lv_iinc (v := nI (iz + 1)) (lv' := [(4, .int (nI (iz + 1))), (1, .ref (ad 7 iz)), (5, .ref (ad 7 iz)), (0, .ref (ad 0 0)), (2, .ref (ad 3 0)), (3, .int 30)]) hx hb dX3_spreadOneVisit_54 hl (k := 5) rfl (nI_1 iz) (by decide) rfl (fun ls hl => ?_)
                refine lv_goto (tgt := 13) hx hb dX3_spreadOneVisit_57 (by decide) ?_
                exact loop_ih (iz + 1) (some iz) ls (by omega) (some_lt hp9) (by omega) (by rw [hj2]; exact hV) (lv_sub hl [3, 1, 4, 5, 0] rfl)
        · -- page f
          refine g_top (v' := .null) (by rw [if_neg hp9]; rfl) ?_
          refine lv_astoreN (lv' := [(5, .null), (0, .ref (ad 0 0)), (1, va_rf (bz.map (ad 7))), (2, .ref (ad 3 0)), (3, .int 30), (4, .int (nI iz))]) hx hb dX3_spreadOneVisit_23 hl (by decide) rfl (fun ls hl => ?_)
          refine lv_aloadN hx hb dX3_spreadOneVisit_25 (lv_at hl 0 rfl) ?_
          refine lv_ifnullN (tgt := 54) hx hb dX3_spreadOneVisit_27 (by decide) ?_
          rw [if_neg (fun q => hp9 q.1)] at hV
          refine lv_iinc (v := nI (iz + 1)) (lv' := [(4, .int (nI (iz + 1))), (5, .null), (0, .ref (ad 0 0)), (1, va_rf (bz.map (ad 7))), (2, .ref (ad 3 0)), (3, .int 30)]) hx hb dX3_spreadOneVisit_54 hl (k := 5) rfl (nI_1 iz) (by decide) rfl (fun ls hl => ?_)
          refine lv_goto (tgt := 13) hx hb dX3_spreadOneVisit_57 (by decide) ?_
          exact loop_ih (iz + 1) bz ls (by omega) hf (by omega) (by rw [hj2]; exact hV) (lv_sub hl [2, 3, 4, 5, 0] rfl)
  exact loop (30 + 1) 0 none ls (Nat.zero_le _) (fun _ h => nomatch h) (by omega) hV (lv_sub hl [4, 3, 2, 1, 0] rfl)

set_option maxHeartbeats 4000000 in
set_option maxRecDepth 100000 in
/-- clearAddress -/
theorem m_X3_clearAddress (l : Launch) (D : va_G) (cy : Nat → ClassId) (sz : Nat) (ad : NT) (τ : IT) (ν : NT) (hJ : wJ (cC (ν 0 0)) ad) : Met l yX3_clearAddress wsX3_clearAddress ({ frames := 1, cells := 0, slots := 0, locals := 21 } : Room) (va_Pc [.ref (ad 0 0)] (fun U => gK D cy U ∧ (atSz sz (CW D cy ad τ ν)) U.heap)) (uQ (some (.int (nI (ν 1 0)))) (CW D cy ad τ (up2 (up2 ν 1 0 0) 2 0 0)) (wA (cC (ν 0 0)) ad sz)) 0 0 (wA (cC (ν 0 0)) ad sz) := by
  refine Met.ofW (cc := cX3_clearAddress) (maxL := 2) (ret := (some .int)) (by decide) rfl ?_
  intro p e s m args below meth c s₁ B9 hml hv
  obtain ⟨rfl, hK, hsz, hB⟩ := hv
  have hx := B9.exec
  have hb := B9.bytes
  have hr := B9.returns
  have hts := atoms_spec (ws := wsX3_clearAddress) B9.pre
  have hown : s.vm.findClass RX3 = some m.cls := findClass_of_methodNamed B9.named
  have hlocks := B9.notSynchronized
  subst hsz
  have hS : va_S (wA (cC (ν 0 0)) ad s.heap.size) s.heap s.heap [] := va_S.rf
  have lk10 := hts (.fieldLink RX3 10 "Politecrawl" "buffer" "LPolitecrawl$Address;") (by decide +kernel)
  have inX3 : ∀ w ∈ u_ws RX3 TX3 9, w ∈ wsX3_clearAddress := by decide +kernel
  have lk59 := hts (.fieldLink RX3 59 "Politecrawl$Address" "length" "I") (by decide +kernel)
  have inX0 : ∀ w ∈ u_ws RX0 TX0 4, w ∈ wsX3_clearAddress := by decide +kernel
  have hl := lv_entry ([.ref (ad 0 0)]) (n := 2) (Nat.le_of_ble_eq_true rfl)
  rw [lg_entry_eq]
  generalize (lg_sl ([.ref (ad 0 0)]) ++ List.replicate (2 - (lg_sl ([.ref (ad 0 0)])).length) Slot.unset).toArray = ls at hl ⊢
  have hl : lv_has ls 2 [(0, .ref (ad 0 0))] := hl
  refine lv_aload_n hx hb dX3_clearAddress_0 rfl (lv_at hl 0 rfl) ?_
  refine g_get (C := RX3) (T := TX3) (N := 9) (ci := 3) (fs := [.ref (ad 1 0), .ref (ad 2 0), .ref (ad 3 0), .int (nI (ν 0 0)), .int (τ 0 0), .int (τ 1 0), .int (τ 2 0), .int (τ 3 0), .int (τ 20 0)]) hx hb hts inX3 hown hK (hB 0 0 Nat.zero_lt_one) rfl 0 (by decide) lk10 rfl rfl dX3_clearAddress_1 ?_
  refine g_get (C := RX0) (T := TX0) (N := 4) (ci := 0) (fs := [.ref (ad 4 0), .ref (ad 5 0), .int (nI (ν 1 0)), .int (nI (ν 2 0))]) hx hb hts inX0 hown hK (hB 1 0 Nat.zero_lt_one) rfl 2 (by decide) lk59 rfl rfl dX3_clearAddress_4 ?_
  refine lv_istore_n (lv' := [(1, .int (nI (ν 1 0))), (0, .ref (ad 0 0))]) hx hb dX3_clearAddress_7 rfl hl (by decide) rfl (fun ls hl => ?_)
  refine lv_aload_n hx hb dX3_clearAddress_8 rfl (lv_at hl 1 rfl) ?_
  refine g_get (C := RX3) (T := TX3) (N := 9) (ci := 3) (fs := [.ref (ad 1 0), .ref (ad 2 0), .ref (ad 3 0), .int (nI (ν 0 0)), .int (τ 0 0), .int (τ 1 0), .int (τ 2 0), .int (τ 3 0), .int (τ 20 0)]) hx hb hts inX3 hown hK (hB 0 0 Nat.zero_lt_one) rfl 0 (by decide) lk10 rfl rfl dX3_clearAddress_9 ?_
  refine g_cu0 (va_runV (As := []) (rest := []) ⟨hx, hb, hml, hown, hts⟩ (m_X0_empty l D cy s.heap.size ad τ ν hJ) (cwV 0 hts gX3_clearAddress_X0_empty rfl rfl rfl (by decide +kernel) ⟨Nat.le_of_ble_eq_true rfl, Nat.le_of_ble_eq_true rfl⟩) (g_preV (C := RX0) (B := atSz s.heap.size (CW D cy ad τ ν)) hK ⟨rfl, hB⟩ (hB 1 0 Nat.zero_lt_one) rfl) rfl rfl hl.1 rfl (lv_room (Nat.le_of_ble_eq_true rfl)) dX3_clearAddress_12 ⟨Nat.zero_le _, Nat.zero_le _⟩) hS (fun q _ h => wA.mono hS.1 h) (fun q h => wA.mono hS.1 h) (fun H1 locs1 hB1 hz1 hk1 hS1 => ?_)
  refine lv_iload_n hx hb dX3_clearAddress_15 rfl (lv_at hl 0 rfl) ?_
  exact g_iretU hx hb hr hlocks hS1 hB1 (Nat.le_refl _) (Nat.le_refl _) dX3_clearAddress_16 rfl
