/-! PolitecrawlModel: what its methods write -/
section MWS
variable {D : va_G} {cy : Nat → ClassId} {ad : NT} {σ : IT} {ν : NT} {H H1 : Heap}
theorem MW.obj {σ' : IT} {ν' : NT} (h : MW D cy ad σ ν H) (hJ : wJ cM ad) (hc : oA D (ad 0 0) (eM cy ad σ' ν' 0 0) H1) (hu : hU (ad 0 0) H H1) (hr : ∀ k, 0 < cM k → k ≠ 0 → rowM σ' ν' k = rowM σ ν k) : MW D cy ad σ' ν' H1 := by
  refine wP.set h hJ 0 0 Nat.zero_lt_one hc hu rfl (fun k' i' hi hne => ?_)
  have hk : 0 < cM k' := Nat.lt_of_le_of_lt (Nat.zero_le _) hi
  have h1 : i' = 0 := by
    have : cM k' ≤ 1 := by unfold cM; split <;> decide
    omega
  have h0 : k' ≠ 0 := fun e => hne ⟨e, h1⟩
  simp only [eM, if_neg h0, hr k' hk h0]
theorem MW.row {σ' : IT} {ν' : NT} (h : MW D cy ad σ ν H) (hJ : wJ cM ad) (K : Nat) (hK : 0 < cM K) (hK0 : K ≠ 0) (hc : oA D (ad K 0) (.inl (cy (mT K), mS K, .inl (rowM σ' ν' K))) H1) (hu : hU (ad K 0) H H1) (ho : eM cy ad σ' ν' 0 0 = eM cy ad σ ν 0 0) (hr : ∀ k, 0 < cM k → k ≠ K → rowM σ' ν' k = rowM σ ν k) : MW D cy ad σ' ν' H1 := by
  refine wP.set h hJ K 0 hK hc hu (by simp only [eM, if_neg hK0]) (fun k' i' hi hne => ?_)
  have hk : 0 < cM k' := Nat.lt_of_le_of_lt (Nat.zero_le _) hi
  have h1 : i' = 0 := by
    have : cM k' ≤ 1 := by unfold cM; split <;> decide
    omega
  by_cases h0 : k' = 0
  · subst h0; exact ho
  · simp only [eM, if_neg h0, hr k' hk (fun e => hne ⟨e, h1⟩)]
theorem up2_row {α : Type} {f : Nat → Nat → α} {k i k' : Nat} {v : α} (h : k' ≠ k) : up2 f k i v k' = f k' := funext fun i' => up2_k h
theorem up2_up {α : Type} {f : Nat → Nat → α} {k i : Nat} {v w : α} : up2 (up2 f k i v) k i w = up2 f k i w := by
  funext k' i'
  by_cases h : k' = k ∧ i' = i <;> simp [up2, h]
theorem rowM_s {K i : Nat} {v : Int32} {k : Nat} (h : k ≠ K) : rowM (up2 σ K i v) ν k = rowM σ ν k := by simp only [rowM, up2_row h]
theorem rowM_n {K i v : Nat} {k : Nat} (h5 : k = 16 → K ≠ 5) (h3 : k = 17 → K ≠ 3) (h7 : k = 34 → K ≠ 7) (h8 : k = 35 → K ≠ 8) : rowM σ (up2 ν K i v) k = rowM σ ν k := by
  simp only [rowM]
  by_cases e5 : k = 16
  · rw [if_pos e5, if_pos e5, up2_row (Ne.symm (h5 e5))]
  by_cases e3 : k = 17
  · rw [if_neg e5, if_neg e5, if_pos e3, if_pos e3, up2_row (Ne.symm (h3 e3))]
  by_cases e7 : k = 34
  · rw [if_neg e5, if_neg e5, if_neg e3, if_neg e3, if_pos e7, if_pos e7, up2_row (Ne.symm (h7 e7))]
  by_cases e8 : k = 35
  · rw [if_neg e5, if_neg e5, if_neg e3, if_neg e3, if_neg e7, if_neg e7, if_pos e8, if_pos e8, up2_row (Ne.symm (h8 e8))]
  · rw [if_neg e5, if_neg e5, if_neg e3, if_neg e3, if_neg e7, if_neg e7, if_neg e8, if_neg e8]
/-- a scalar of the object is written -/
theorem MW.sc {K : Nat} {v : Int32} (h : MW D cy ad σ ν H) (hJ : wJ cM ad) (hK : cM K = 0 ∨ K = 0) (hc : oA D (ad 0 0) (eM cy ad (up2 σ K 0 v) ν 0 0) H1) (hu : hU (ad 0 0) H H1) : MW D cy ad (up2 σ K 0 v) ν H1 :=
  h.obj hJ hc hu (fun k hk h0 => rowM_s (fun e => by subst e; rcases hK with q | q <;> omega))
theorem MW.nc {K v : Nat} (h : MW D cy ad σ ν H) (hJ : wJ cM ad) (hK : K ≠ 5 ∧ K ≠ 3 ∧ K ≠ 7 ∧ K ≠ 8) (hc : oA D (ad 0 0) (eM cy ad σ (up2 ν K 0 v) 0 0) H1) (hu : hU (ad 0 0) H H1) : MW D cy ad σ (up2 ν K 0 v) H1 :=
  h.obj hJ hc hu (fun k hk h0 => rowM_n (fun _ => hK.1) (fun _ => hK.2.1) (fun _ => hK.2.2.1) (fun _ => hK.2.2.2))
/-- a place of a row is written -/
theorem MW.sst (h : MW D cy ad σ ν H) (hJ : wJ cM ad) (K : Nat) {q : Nat} {i v : Int32} (hK : 0 < cM K) (hK0 : K ≠ 0) (hKn : K ≠ 16 ∧ K ≠ 17 ∧ K ≠ 34 ∧ K ≠ 35) (hs : K ≠ 30 ∧ K ≠ 1 ∧ K ≠ 2 ∧ K ≠ 3 ∧ K ≠ 31 ∧ K ≠ 32) (hq : i.toNatClampNeg = q) (hc : oA D (ad K 0) (.inl (cy (mT K), mS K, .inl (upd (σ K) i.toNatClampNeg v))) H1) (hu : hU (ad K 0) H H1) : MW D cy ad (up2 σ K q v) ν H1 := by
  refine h.row hJ K hK hK0 (hc.rowI fun j _ => ?_) hu ?_ (fun k hk hne => rowM_s hne)
  · subst hq
    simp only [rowM, if_neg hKn.1, if_neg hKn.2.1, if_neg hKn.2.2.1, if_neg hKn.2.2.2]
    by_cases e : j = i.toNatClampNeg <;> simp [upd, up2, e]
  · simp only [eM, if_true, up2_k (Ne.symm hs.1), up2_k (Ne.symm hs.2.1), up2_k (Ne.symm hs.2.2.1), up2_k (Ne.symm hs.2.2.2.1), up2_k (Ne.symm hs.2.2.2.2.1), up2_k (Ne.symm hs.2.2.2.2.2), up2_k (Ne.symm hK0)]
theorem MW.nst (h : MW D cy ad σ ν H) (hJ : wJ cM ad) (K N : Nat) {q v : Nat} {i : Int32} (hKN : (K = 16 ∧ N = 5) ∨ (K = 17 ∧ N = 3) ∨ (K = 34 ∧ N = 7) ∨ (K = 35 ∧ N = 8)) (hq : i.toNatClampNeg = q) (hc : oA D (ad K 0) (.inl (cy (mT K), mS K, .inl (upd (fun j => nI (ν N j)) i.toNatClampNeg (nI v)))) H1) (hu : hU (ad K 0) H H1) : MW D cy ad σ (up2 ν N q v) H1 := by
  have hup : ∀ j, upd (fun j => nI (ν N j)) i.toNatClampNeg (nI v) j = nI (up2 ν N q v N j) := fun j => by
    subst hq
    by_cases e : j = i.toNatClampNeg <;> simp [upd, up2, e]
  rcases hKN with ⟨rfl, rfl⟩ | ⟨rfl, rfl⟩ | ⟨rfl, rfl⟩ | ⟨rfl, rfl⟩
  · exact h.row hJ 16 Nat.zero_lt_one (by decide) (hc.rowI fun j _ => hup j) hu rfl (fun k hk hne => rowM_n (fun e => absurd e hne) (fun _ => by decide) (fun _ => by decide) (fun _ => by decide))
  · exact h.row hJ 17 Nat.zero_lt_one (by decide) (hc.rowI fun j _ => hup j) hu rfl (fun k hk hne => rowM_n (fun _ => by decide) (fun e => absurd e hne) (fun _ => by decide) (fun _ => by decide))
  · exact h.row hJ 34 Nat.zero_lt_one (by decide) (hc.rowI fun j _ => hup j) hu rfl (fun k hk hne => rowM_n (fun _ => by decide) (fun _ => by decide) (fun e => absurd e hne) (fun _ => by decide))
  · exact h.row hJ 35 Nat.zero_lt_one (by decide) (hc.rowI fun j _ => hup j) hu rfl (fun k hk hne => rowM_n (fun _ => by decide) (fun _ => by decide) (fun _ => by decide) (fun e => absurd e hne))
end MWS

set_option maxHeartbeats 4000000 in
set_option maxRecDepth 100000 in
/-- model: fails -/
theorem m_X4_fails (l : Launch) (D : va_G) (cy : Nat → ClassId) (sz : Nat) (ad : NT) (σ : IT) (ν : NT) (hJ : wJ cM ad) (k : Int32) : Met l yX4_fails wsX4_fails ({ frames := 0, cells := 0, slots := 0, locals := 0 } : Room) (va_Pc [.ref (ad 0 0), .int k] (fun U => gK D cy U ∧ (atSz sz (MW D cy ad σ ν)) U.heap)) (uQ (some (.int 0)) (MW D cy ad (up2 σ 30 0 k) ν) (wA cM ad sz)) 0 0 (wA cM ad sz) := by
  refine Met.ofW (cc := cX4_fails) (maxL := 2) (ret := (some .int)) (by decide) rfl ?_
  intro p e s m args below meth c s₁ B9 hml hv
  obtain ⟨rfl, hK, hsz, hB⟩ := hv
  have hx := B9.exec
  have hb := B9.bytes
  have hr := B9.returns
  have hts := atoms_spec (ws := wsX4_fails) B9.pre
  have hown : s.vm.findClass RX4 = some m.cls := findClass_of_methodNamed B9.named
  have hlocks := B9.notSynchronized
  subst hsz
  have hS : va_S (wA cM ad s.heap.size) s.heap s.heap [] := va_S.rf
  have lk69 := hts (.fieldLink RX4 69 "PolitecrawlModel" "thrown" "I") (by decide +kernel)
  have inX4 : ∀ w ∈ u_ws RX4 TX4 26, w ∈ wsX4_fails := by decide +kernel
  have hl := lv_entry ([.ref (ad 0 0), .int k]) (n := 2) (Nat.le_of_ble_eq_true rfl)
  rw [lg_entry_eq]
  generalize (lg_sl ([.ref (ad 0 0), .int k]) ++ List.replicate (2 - (lg_sl ([.ref (ad 0 0), .int k])).length) Slot.unset).toArray = ls at hl ⊢
  have hl : lv_has ls 2 [(0, .ref (ad 0 0)), (1, .int k)] := hl
  refine lv_aload_n hx hb dX4_fails_0 rfl (lv_at hl 0 rfl) ?_
  refine lv_iload_n hx hb dX4_fails_1 rfl (lv_at hl 1 rfl) ?_
  refine g_put (C := RX4) (T := TX4) (N := 26) (ci := 4) (fs := [.int (σ 30 0), .int (σ 0 0), .int (nI (ν 1 0)), .ref (ad 6 0), .ref (ad 7 0), .ref (ad 8 0), .ref (ad 9 0), .int (σ 1 0), .int (σ 2 0), .int (σ 3 0), .int (σ 31 0), .int (σ 32 0), .int (nI (ν 0 0)), .ref (ad 18 0), .ref (ad 17 0), .ref (ad 16 0), .ref (ad 10 0), .ref (ad 11 0), .ref (ad 12 0), .ref (ad 13 0), .ref (ad 14 0), .ref (ad 15 0), .int (nI (ν 6 0)), .ref (ad 34 0), .ref (ad 35 0), .ref (ad 36 0)]) (A := (wA cM ad s.heap.size)) hx hb hts inX4 tyX4 tyX4_ok nmX4 hown hK (hB 0 0 Nat.zero_lt_one) rfl hS (wA.in (k := 0) (i := 0) Nat.zero_lt_one) 0 (by decide) lk69 rfl rfl rfl rfl (Nat.le_of_ble_eq_true rfl) dX4_fails_2 (fun H1 locs1 hc1 hu1 hS1 => ?_)
  have hB1 : MW D cy ad (up2 σ 30 0 k) ν H1 := hB.sc hJ (by decide) hc1 hu1
  obtain ⟨σ1, hs1⟩ : ∃ z : IT, z = up2 σ 30 0 k := ⟨_, rfl⟩
  rw [← hs1] at hB1
  refine lv_iconst (v := 0) hx hb dX4_fails_5 (by decide) ?_
  exact g_iretU hx hb hr hlocks hS1 (by rw [hs1] at hB1; exact hB1) (Nat.le_refl _) (Nat.le_refl _) dX4_fails_6 rfl


def ask (p : Bool) : Int32 := if p then 0 else 1
def oIsAsked (σ : IT) (ν : NT) (q : Int32) : IT := up2 σ 30 0 (ask (pageB ν q))
theorem ask_0 {b : Bool} : ask b = 0 ↔ b = true := by cases b <;> simp [ask]
theorem ask_b {b : Bool} (h : ask b = 0) : b = true := ask_0.mp h
theorem ask_n {b : Bool} (h : ¬ ask b = 0) : b = false := by cases b with | false => rfl | true => exact absurd rfl h

set_option maxHeartbeats 4000000 in
set_option maxRecDepth 100000 in
/-- model: isAsked -/
theorem m_X4_isAsked (l : Launch) (D : va_G) (cy : Nat → ClassId) (sz : Nat) (ad : NT) (σ : IT) (ν : NT) (hJ : wJ cM ad) (q : Int32) : Met l yX4_isAsked wsX4_isAsked ({ frames := 2, cells := 0, slots := 0, locals := 60 } : Room) (va_Pc [.ref (ad 0 0), .int q] (fun U => gK D cy U ∧ (atSz sz (MW D cy ad σ ν)) U.heap)) (uQ (some (.int (zb (pageB ν q)))) (MW D cy ad (oIsAsked σ ν q) ν) (wA cM ad sz)) 0 0 (wA cM ad sz) := by
  refine Met.ofW (cc := cX4_isAsked) (maxL := 2) (ret := (some .boolean)) (by decide) rfl ?_
  intro p e s m args below meth c s₁ B9 hml hv
  obtain ⟨rfl, hK, hsz, hB⟩ := hv
  have hx := B9.exec
  have hb := B9.bytes
  have hr := B9.returns
  have hts := atoms_spec (ws := wsX4_isAsked) B9.pre
  have hown : s.vm.findClass RX4 = some m.cls := findClass_of_methodNamed B9.named
  have hlocks := B9.notSynchronized
  subst hsz
  have hS : va_S (wA cM ad s.heap.size) s.heap s.heap [] := va_S.rf
  have lk69 := hts (.fieldLink RX4 69 "PolitecrawlModel" "thrown" "I") (by decide +kernel)
  have inX4 : ∀ w ∈ u_ws RX4 TX4 26, w ∈ wsX4_isAsked := by decide +kernel
  have hl := lv_entry ([.ref (ad 0 0), .int q]) (n := 2) (Nat.le_of_ble_eq_true rfl)
  rw [lg_entry_eq]
  generalize (lg_sl ([.ref (ad 0 0), .int q]) ++ List.replicate (2 - (lg_sl ([.ref (ad 0 0), .int q])).length) Slot.unset).toArray = ls at hl ⊢
  have hl : lv_has ls 2 [(0, .ref (ad 0 0)), (1, .int q)] := hl
  refine lv_aload_n hx hb dX4_isAsked_0 rfl (lv_at hl 0 rfl) ?_
  refine lv_aload_n hx hb dX4_isAsked_1 rfl (lv_at hl 0 rfl) ?_
  refine lv_iload_n hx hb dX4_isAsked_2 rfl (lv_at hl 1 rfl) ?_
  refine g_csr (va_runV (As := [.int q]) (rest := [.ref (ad 0 0)]) ⟨hx, hb, hml, hown, hts⟩ (m_X4_isPage l D cy ad σ ν q) (cwV 1 hts gX4_isAsked_X4_isPage rfl rfl rfl (by decide +kernel) ⟨Nat.le_of_ble_eq_true rfl, Nat.le_of_ble_eq_true rfl⟩) (g_preV (C := RX4) (B := (MW D cy ad σ ν)) hK hB (hB 0 0 Nat.zero_lt_one) rfl) rfl rfl hl.1 rfl (lv_room (Nat.le_of_ble_eq_true rfl)) dX4_isAsked_3 ⟨Nat.zero_le _, Nat.zero_le _⟩) ?_
  have k_14 : ∀ z1 : Int32, z1 = ask (pageB ν q) → W p l e (headSpec wsX4_isAsked ({ frames := 2, cells := 0, slots := 0, locals := 60 } : Room)).room s m ([.ref (ad 0 0), .int q] : List Value).toArray below meth c s.heap [] 0 0 (MQ below (uQ (some (.int (zb (pageB ν q)))) (MW D cy ad (oIsAsked σ ν q) ν) (wA cM ad s.heap.size)) ([.ref (ad 0 0), .int q] : List Value).toArray s 0 0 (wA cM ad s.heap.size)) (F0 m 14 ls [.int z1, .ref (ad 0 0)]) := by
    intro z1 ez1
    refine g_put (C := RX4) (T := TX4) (N := 26) (ci := 4) (fs := [.int (σ 30 0), .int (σ 0 0), .int (nI (ν 1 0)), .ref (ad 6 0), .ref (ad 7 0), .ref (ad 8 0), .ref (ad 9 0), .int (σ 1 0), .int (σ 2 0), .int (σ 3 0), .int (σ 31 0), .int (σ 32 0), .int (nI (ν 0 0)), .ref (ad 18 0), .ref (ad 17 0), .ref (ad 16 0), .ref (ad 10 0), .ref (ad 11 0), .ref (ad 12 0), .ref (ad 13 0), .ref (ad 14 0), .ref (ad 15 0), .int (nI (ν 6 0)), .ref (ad 34 0), .ref (ad 35 0), .ref (ad 36 0)]) (A := (wA cM ad s.heap.size)) hx hb hts inX4 tyX4 tyX4_ok nmX4 hown hK (hB 0 0 Nat.zero_lt_one) rfl hS (wA.in (k := 0) (i := 0) Nat.zero_lt_one) 0 (by decide) lk69 rfl rfl rfl rfl (Nat.le_of_ble_eq_true rfl) dX4_isAsked_14 (fun H1 locs1 hc1 hu1 hS1 => ?_)
    have hB1 : MW D cy ad (up2 σ 30 0 z1) ν H1 := hB.sc hJ (by decide) hc1 hu1
    obtain ⟨σ1, hs1⟩ : ∃ z : IT, z = up2 σ 30 0 z1 := ⟨_, rfl⟩
    rw [← hs1] at hB1
    refine lv_aload_n hx hb dX4_isAsked_17 rfl (lv_at hl 0 rfl) ?_
    refine g_get (C := RX4) (T := TX4) (N := 26) (ci := 4) (fs := [.int (σ1 30 0), .int (σ1 0 0), .int (nI (ν 1 0)), .ref (ad 6 0), .ref (ad 7 0), .ref (ad 8 0), .ref (ad 9 0), .int (σ1 1 0), .int (σ1 2 0), .int (σ1 3 0), .int (σ1 31 0), .int (σ1 32 0), .int (nI (ν 0 0)), .ref (ad 18 0), .ref (ad 17 0), .ref (ad 16 0), .ref (ad 10 0), .ref (ad 11 0), .ref (ad 12 0), .ref (ad 13 0), .ref (ad 14 0), .ref (ad 15 0), .int (nI (ν 6 0)), .ref (ad 34 0), .ref (ad 35 0), .ref (ad 36 0)]) hx hb hts inX4 hown hK (hB1 0 0 Nat.zero_lt_one) rfl 0 (by decide) lk69 rfl rfl dX4_isAsked_18 ?_
    refine lv_if_ne (tgt := 28) hx hb dX4_isAsked_21 (by decide) (fun c_21 => ?_) (fun c_21 => ?_)
    · -- 21 t
      refine lv_iconst (v := 0) hx hb dX4_isAsked_28 (by decide) ?_
      exact g_zretU hx hb hr hlocks rfl hS1 (by rw [hs1, ez1] at hB1; exact hB1) (Nat.le_refl _) (Nat.le_refl _) dX4_isAsked_29 (by rw [hs1, ez1] at c_21; rw [(ask_n (b := pageB ν q) c_21)]; rfl)
    · -- 21 f
      refine lv_iconst (v := 1) hx hb dX4_isAsked_24 (by decide) ?_
      refine lv_goto (tgt := 29) hx hb dX4_isAsked_25 (by decide) ?_
      exact g_zretU hx hb hr hlocks rfl hS1 (by rw [hs1, ez1] at hB1; exact hB1) (Nat.le_refl _) (Nat.le_refl _) dX4_isAsked_29 (by rw [hs1, ez1] at c_21; rw [(ask_b (b := pageB ν q) c_21)]; rfl)
  refine lv_if_eq (tgt := 13) hx hb dX4_isAsked_6 (by decide) (fun c_6 => ?_) (fun c_6 => ?_)
  · -- 6 t
    refine lv_iconst (v := 1) hx hb dX4_isAsked_13 (by decide) ?_
    exact k_14 _ (by rw [zb_0.mp c_6]; rfl)
  · -- 6 f
    refine lv_iconst (v := 0) hx hb dX4_isAsked_9 (by decide) ?_
    refine lv_goto (tgt := 14) hx hb dX4_isAsked_10 (by decide) ?_
    exact k_14 _ (by rw [zb_n0.mp c_6]; rfl)
