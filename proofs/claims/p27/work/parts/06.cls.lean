/-! Politecrawl, Page, Host: the state of the class, and what its methods read -/
abbrev IT : Type := Nat → Nat → Int32
abbrev NT : Type := Nat → Nat → Nat
def up2 {α : Type} (f : Nat → Nat → α) (k i : Nat) (v : α) : Nat → Nat → α := fun k' i' => if k' = k ∧ i' = i then v else f k' i'
theorem up2_s {α : Type} {f : Nat → Nat → α} {k i : Nat} {v : α} : up2 f k i v k i = v := by simp [up2]
theorem up2_k {α : Type} {f : Nat → Nat → α} {k i k' i' : Nat} {v : α} (h : k' ≠ k) : up2 f k i v k' i' = f k' i' := by simp [up2, h]
theorem up2_i {α : Type} {f : Nat → Nat → α} {k i k' i' : Nat} {v : α} (h : i' ≠ i) : up2 f k i v k' i' = f k' i' := by simp [up2, h]
/-- the counts of the class's cells by kind, with n pages -/
def cC (n : Nat) : Nat → Nat
  | 0 => 1 | 1 => 1 | 2 => 1 | 3 => 1 | 4 => 1 | 5 => 1 | 6 => 6 | 7 => n | 8 => n | 9 => n | 10 => n | _ => 0
/-- the class's cells: 0 the object, 1 the buffer, 2 hosts, 3 found, 4 and 5 the buffer's rows, 6 a host, 7 a page, 8 its address, 9 and 10 its rows.
    ints: 0 now 1 shortest 2 longest 3 budget 6 characters 7 rest 8 failures 9 openFrom 10 rank 11 due 12 visits 13 changes 14 gone 15 lost 18 text 20 visits in span 22 starts 24 starts of pages 25 spread;
    numbers: 0 pages 1 length 2 segments 3 size of a page's address 4 its segments 5 its host -/
def eC (cy : Nat → ClassId) (ad : NT) (τ : IT) (ν : NT) : Nat → Nat → va_E
  | 0, _ => .inr (3, [.ref (ad 1 0), .ref (ad 2 0), .ref (ad 3 0), .int (nI (ν 0 0)), .int (τ 0 0), .int (τ 1 0), .int (τ 2 0), .int (τ 3 0), .int (τ 20 0)])
  | 1, _ => .inr (0, [.ref (ad 4 0), .ref (ad 5 0), .int (nI (ν 1 0)), .int (nI (ν 2 0))])
  | 2, _ => .inl (cy 3, 6, .inr (.inr (.inr (.inr (fun j => some (ad 6 j))))))
  | 3, _ => .inl (cy 4, 30, .inr (.inr (.inr (.inr (fun j => if j < ν 0 0 then some (ad 7 j) else none)))))
  | 4, _ => .inl (cy 0, 30, .inl (τ 6))
  | 5, _ => .inl (cy 1, 30, .inl (τ 22))
  | 6, h => .inr (1, [.int (τ 7 h), .int (τ 8 h), .int (τ 9 h)])
  | 7, p => .inr (2, [.int (nI p), .ref (ad 6 (ν 5 p)), .ref (ad 8 p), .int (τ 15 p), .int (τ 10 p), .int (τ 11 p), .int (τ 12 p), .int (τ 13 p), .int (τ 14 p), .int (τ 25 p)])
  | 8, p => .inr (0, [.ref (ad 9 p), .ref (ad 10 p), .int (nI (ν 3 p)), .int (nI (ν 4 p))])
  | 9, p => .inl (cy 0, 30, .inl (fun i => τ 18 (30 * p + i)))
  | 10, p => .inl (cy 1, 30, .inl (fun i => τ 24 (30 * p + i)))
  | _, _ => .inl (cy 0, 0, .inl fun _ => 0)
def CW (D : va_G) (cy : Nat → ClassId) (ad : NT) (τ : IT) (ν : NT) : Heap → Prop := fun H => wP D (cC (ν 0 0)) ad (eC cy ad τ ν) H
/-- numbers in their bounds, as far as the machine asks -/
def CI (τ : IT) (ν : NT) : Prop := ν 0 0 ≤ 30 ∧ ν 1 0 ≤ 30 ∧ ν 2 0 ≤ 30 ∧ chOK (τ 6) ∧ stOK (τ 22) (ν 2 0) (ν 1 0) ∧ ∀ p, p < ν 0 0 → ν 5 p < 6 ∧ ν 3 p ≤ 30 ∧ ν 4 p ≤ 30 ∧ chOK (fun i => τ 18 (30 * p + i)) ∧ stOK (fun i => τ 24 (30 * p + i)) (ν 4 p) (ν 3 p)
/-- a page's cell -/
def pPage (D : va_G) (a h b : Nat) (num lost rank due vis chg gone spr : Int32) : Heap → Prop := fun H => oA D a (.inr (2, [.int num, .ref h, .ref b, .int lost, .int rank, .int due, .int vis, .int chg, .int gone, .int spr])) H
def mx (a b : Int32) : Int32 := if a < b then b else a
def mn (a b : Int32) : Int32 := if b < a then b else a
def keptB (gone lost : Int32) : Bool := decide (gone = 0) && decide (lost = 0)
def pressF (rank due now : Int32) : Int32 := 10 * rank + now - due
def gA (rank chg : Int32) : Int64 := (rank.toInt64 + 1) * (chg.toInt64 + 1)
def gB (spr chg : Int32) : Int64 := ((spr + chg).toInt64 + 1) * ((spr + chg).toInt64 + 2)
theorem lg_le {x y : Int64} : lg_cmp x y ≤ 0 ↔ x ≤ y := by
  simp only [lg_cmp]
  have h := Int64.not_lt (a := y) (b := x)
  by_cases h1 : x > y
  · rw [if_pos h1]; constructor
    · intro q; exact absurd q (by decide)
    · intro q; exact absurd h1 (Int64.not_lt.mpr q)
  · rw [if_neg h1]
    by_cases h2 : x = y
    · rw [if_pos h2]; constructor
      · intro _; rw [h2]; exact Int64.le_refl _
      · intro _; decide
    · rw [if_neg h2]; constructor
      · intro _; exact Int64.not_lt.mp h1
      · intro _; decide

set_option maxHeartbeats 4000000 in
set_option maxRecDepth 100000 in
/-- isKept() -/
theorem m_X2_isKept (l : Launch) (D : va_G) (cy : Nat → ClassId) (a h9 b9 : Nat) (num lost rank due vis chg gone spr : Int32) : Met l yX2_isKept wsX2_isKept ({ frames := 0, cells := 0, slots := 0, locals := 0 } : Room) (va_Pc [.ref a] (fun U => gK D cy U ∧ (pPage D a h9 b9 num lost rank due vis chg gone spr) U.heap)) (rQ (some (.int (zb (keptB gone lost))))) 0 0 (fun _ => False) := by
  refine Met.ofW (cc := cX2_isKept) (maxL := 1) (ret := (some .boolean)) (by decide) rfl ?_
  intro p e s m args below meth c s₁ B9 hml hv
  obtain ⟨rfl, hK, hB⟩ := hv
  have hx := B9.exec
  have hb := B9.bytes
  have hr := B9.returns
  have hts := atoms_spec (ws := wsX2_isKept) B9.pre
  have hown : s.vm.findClass RX2 = some m.cls := findClass_of_methodNamed B9.named
  have hlocks := B9.notSynchronized
  have lk39 := hts (.fieldLink RX2 39 "Politecrawl$Page" "gone" "Z") (by decide +kernel)
  have inX2 : ∀ w ∈ u_ws RX2 TX2 10, w ∈ wsX2_isKept := by decide +kernel
  have lk29 := hts (.fieldLink RX2 29 "Politecrawl$Page" "lost" "Z") (by decide +kernel)
  have hl := lv_entry ([.ref a]) (n := 1) (Nat.le_of_ble_eq_true rfl)
  rw [lg_entry_eq]
  generalize (lg_sl ([.ref a]) ++ List.replicate (1 - (lg_sl ([.ref a])).length) Slot.unset).toArray = ls at hl ⊢
  have hl : lv_has ls 1 [(0, .ref a)] := hl
  refine lv_aload_n hx hb dX2_isKept_0 rfl (lv_at hl 0 rfl) ?_
  refine g_get (C := RX2) (T := TX2) (N := 10) (ci := 2) (fs := [.int num, .ref h9, .ref b9, .int lost, .int rank, .int due, .int vis, .int chg, .int gone, .int spr]) hx hb hts inX2 hown hK hB rfl 8 (by decide) lk39 rfl rfl dX2_isKept_1 ?_
  refine lv_if_ne (tgt := 18) hx hb dX2_isKept_4 (by decide) (fun c_4 => ?_) (fun c_4 => ?_)
  · -- 4 t
    refine lv_iconst (v := 0) hx hb dX2_isKept_18 (by decide) ?_
    exact g_zret hx hb hr hlocks rfl dX2_isKept_19 (by simp [keptB, zb, c_4])
  · -- 4 f
    refine lv_aload_n hx hb dX2_isKept_7 rfl (lv_at hl 0 rfl) ?_
    refine g_get (C := RX2) (T := TX2) (N := 10) (ci := 2) (fs := [.int num, .ref h9, .ref b9, .int lost, .int rank, .int due, .int vis, .int chg, .int gone, .int spr]) hx hb hts inX2 hown hK hB rfl 3 (by decide) lk29 rfl rfl dX2_isKept_8 ?_
    refine lv_if_ne (tgt := 18) hx hb dX2_isKept_11 (by decide) (fun c_11 => ?_) (fun c_11 => ?_)
    · -- 11 t
      refine lv_iconst (v := 0) hx hb dX2_isKept_18 (by decide) ?_
      exact g_zret hx hb hr hlocks rfl dX2_isKept_19 (by simp [keptB, zb, c_4, c_11])
    · -- 11 f
      refine lv_iconst (v := 1) hx hb dX2_isKept_14 (by decide) ?_
      refine lv_goto (tgt := 19) hx hb dX2_isKept_15 (by decide) ?_
      exact g_zret hx hb hr hlocks rfl dX2_isKept_19 (by simp [keptB, zb, c_4, c_11])

set_option maxHeartbeats 4000000 in
set_option maxRecDepth 100000 in
/-- pressing(now) -/
theorem m_X2_pressing (l : Launch) (D : va_G) (cy : Nat → ClassId) (a h9 b9 : Nat) (num lost rank due vis chg gone spr : Int32) (now : Int32) : Met l yX2_pressing wsX2_pressing ({ frames := 0, cells := 0, slots := 0, locals := 0 } : Room) (va_Pc [.ref a, .int now] (fun U => gK D cy U ∧ (pPage D a h9 b9 num lost rank due vis chg gone spr) U.heap)) (rQ (some (.int (pressF rank due now)))) 0 0 (fun _ => False) := by
  refine Met.ofW (cc := cX2_pressing) (maxL := 2) (ret := (some .int)) (by decide) rfl ?_
  intro p e s m args below meth c s₁ B9 hml hv
  obtain ⟨rfl, hK, hB⟩ := hv
  have hx := B9.exec
  have hb := B9.bytes
  have hr := B9.returns
  have hts := atoms_spec (ws := wsX2_pressing) B9.pre
  have hown : s.vm.findClass RX2 = some m.cls := findClass_of_methodNamed B9.named
  have hlocks := B9.notSynchronized
  have lk33 := hts (.fieldLink RX2 33 "Politecrawl$Page" "rank" "I") (by decide +kernel)
  have inX2 : ∀ w ∈ u_ws RX2 TX2 10, w ∈ wsX2_pressing := by decide +kernel
  have lk36 := hts (.fieldLink RX2 36 "Politecrawl$Page" "due" "I") (by decide +kernel)
  have hl := lv_entry ([.ref a, .int now]) (n := 2) (Nat.le_of_ble_eq_true rfl)
  rw [lg_entry_eq]
  generalize (lg_sl ([.ref a, .int now]) ++ List.replicate (2 - (lg_sl ([.ref a, .int now])).length) Slot.unset).toArray = ls at hl ⊢
  have hl : lv_has ls 2 [(0, .ref a), (1, .int now)] := hl
  refine lv_bipush (v := 10) hx hb dX2_pressing_0 (by decide) ?_
  refine lv_aload_n hx hb dX2_pressing_2 rfl (lv_at hl 0 rfl) ?_
  refine g_get (C := RX2) (T := TX2) (N := 10) (ci := 2) (fs := [.int num, .ref h9, .ref b9, .int lost, .int rank, .int due, .int vis, .int chg, .int gone, .int spr]) hx hb hts inX2 hown hK hB rfl 4 (by decide) lk33 rfl rfl dX2_pressing_3 ?_
  refine lv_imul hx hb dX2_pressing_6 ?_
  refine lv_iload_n hx hb dX2_pressing_7 rfl (lv_at hl 1 rfl) ?_
  refine lv_iadd hx hb dX2_pressing_8 ?_
  refine lv_aload_n hx hb dX2_pressing_9 rfl (lv_at hl 0 rfl) ?_
  refine g_get (C := RX2) (T := TX2) (N := 10) (ci := 2) (fs := [.int num, .ref h9, .ref b9, .int lost, .int rank, .int due, .int vis, .int chg, .int gone, .int spr]) hx hb hts inX2 hown hK hB rfl 5 (by decide) lk36 rfl rfl dX2_pressing_10 ?_
  refine lv_isub hx hb dX2_pressing_13 ?_
  exact g_iret hx hb hr hlocks dX2_pressing_14 rfl

set_option maxHeartbeats 4000000 in
set_option maxRecDepth 100000 in
/-- gainAbove() -/
theorem m_X2_gainAbove (l : Launch) (D : va_G) (cy : Nat → ClassId) (a h9 b9 : Nat) (num lost rank due vis chg gone spr : Int32) : Met l yX2_gainAbove wsX2_gainAbove ({ frames := 0, cells := 0, slots := 0, locals := 0 } : Room) (va_Pc [.ref a] (fun U => gK D cy U ∧ (pPage D a h9 b9 num lost rank due vis chg gone spr) U.heap)) (rQ (some (.long (gA rank chg)))) 0 0 (fun _ => False) := by
  refine Met.ofW (cc := cX2_gainAbove) (maxL := 1) (ret := (some .long)) (by decide) rfl ?_
  intro p e s m args below meth c s₁ B9 hml hv
  obtain ⟨rfl, hK, hB⟩ := hv
  have hx := B9.exec
  have hb := B9.bytes
  have hr := B9.returns
  have hts := atoms_spec (ws := wsX2_gainAbove) B9.pre
  have hown : s.vm.findClass RX2 = some m.cls := findClass_of_methodNamed B9.named
  have hlocks := B9.notSynchronized
  have lk33 := hts (.fieldLink RX2 33 "Politecrawl$Page" "rank" "I") (by decide +kernel)
  have inX2 : ∀ w ∈ u_ws RX2 TX2 10, w ∈ wsX2_gainAbove := by decide +kernel
  have lk49 := hts (.fieldLink RX2 49 "Politecrawl$Page" "changes" "I") (by decide +kernel)
  have hl := lv_entry ([.ref a]) (n := 1) (Nat.le_of_ble_eq_true rfl)
  rw [lg_entry_eq]
  generalize (lg_sl ([.ref a]) ++ List.replicate (1 - (lg_sl ([.ref a])).length) Slot.unset).toArray = ls at hl ⊢
  have hl : lv_has ls 1 [(0, .ref a)] := hl
  refine lv_aload_n hx hb dX2_gainAbove_0 rfl (lv_at hl 0 rfl) ?_
  refine g_get (C := RX2) (T := TX2) (N := 10) (ci := 2) (fs := [.int num, .ref h9, .ref b9, .int lost, .int rank, .int due, .int vis, .int chg, .int gone, .int spr]) hx hb hts inX2 hown hK hB rfl 4 (by decide) lk33 rfl rfl dX2_gainAbove_1 ?_
  refine lv_i2l hx hb dX2_gainAbove_4 rfl ?_
  refine lv_lconst (v := 1) hx hb dX2_gainAbove_5 rfl ?_
  refine lv_ladd hx hb dX2_gainAbove_6 ?_
  refine lv_aload_n hx hb dX2_gainAbove_7 rfl (lv_at hl 0 rfl) ?_
  refine g_get (C := RX2) (T := TX2) (N := 10) (ci := 2) (fs := [.int num, .ref h9, .ref b9, .int lost, .int rank, .int due, .int vis, .int chg, .int gone, .int spr]) hx hb hts inX2 hown hK hB rfl 7 (by decide) lk49 rfl rfl dX2_gainAbove_8 ?_
  refine lv_i2l hx hb dX2_gainAbove_11 rfl ?_
  refine lv_lconst (v := 1) hx hb dX2_gainAbove_12 rfl ?_
  refine lv_ladd hx hb dX2_gainAbove_13 ?_
  refine lv_lmul hx hb dX2_gainAbove_14 ?_
  exact g_lret hx hb hr hlocks dX2_gainAbove_15 rfl

set_option maxHeartbeats 4000000 in
set_option maxRecDepth 100000 in
/-- gainBelow() -/
theorem m_X2_gainBelow (l : Launch) (D : va_G) (cy : Nat → ClassId) (a h9 b9 : Nat) (num lost rank due vis chg gone spr : Int32) : Met l yX2_gainBelow wsX2_gainBelow ({ frames := 0, cells := 0, slots := 0, locals := 0 } : Room) (va_Pc [.ref a] (fun U => gK D cy U ∧ (pPage D a h9 b9 num lost rank due vis chg gone spr) U.heap)) (rQ (some (.long (gB spr chg)))) 0 0 (fun _ => False) := by
  refine Met.ofW (cc := cX2_gainBelow) (maxL := 1) (ret := (some .long)) (by decide) rfl ?_
  intro p e s m args below meth c s₁ B9 hml hv
  obtain ⟨rfl, hK, hB⟩ := hv
  have hx := B9.exec
  have hb := B9.bytes
  have hr := B9.returns
  have hts := atoms_spec (ws := wsX2_gainBelow) B9.pre
  have hown : s.vm.findClass RX2 = some m.cls := findClass_of_methodNamed B9.named
  have hlocks := B9.notSynchronized
  have lk52 := hts (.fieldLink RX2 52 "Politecrawl$Page" "spread" "I") (by decide +kernel)
  have inX2 : ∀ w ∈ u_ws RX2 TX2 10, w ∈ wsX2_gainBelow := by decide +kernel
  have lk49 := hts (.fieldLink RX2 49 "Politecrawl$Page" "changes" "I") (by decide +kernel)
  have hl := lv_entry ([.ref a]) (n := 1) (Nat.le_of_ble_eq_true rfl)
  rw [lg_entry_eq]
  generalize (lg_sl ([.ref a]) ++ List.replicate (1 - (lg_sl ([.ref a])).length) Slot.unset).toArray = ls at hl ⊢
  have hl : lv_has ls 1 [(0, .ref a)] := hl
  refine lv_aload_n hx hb dX2_gainBelow_0 rfl (lv_at hl 0 rfl) ?_
  refine g_get (C := RX2) (T := TX2) (N := 10) (ci := 2) (fs := [.int num, .ref h9, .ref b9, .int lost, .int rank, .int due, .int vis, .int chg, .int gone, .int spr]) hx hb hts inX2 hown hK hB rfl 9 (by decide) lk52 rfl rfl dX2_gainBelow_1 ?_
  refine lv_aload_n hx hb dX2_gainBelow_4 rfl (lv_at hl 0 rfl) ?_
  refine g_get (C := RX2) (T := TX2) (N := 10) (ci := 2) (fs := [.int num, .ref h9, .ref b9, .int lost, .int rank, .int due, .int vis, .int chg, .int gone, .int spr]) hx hb hts inX2 hown hK hB rfl 7 (by decide) lk49 rfl rfl dX2_gainBelow_5 ?_
  refine lv_iadd hx hb dX2_gainBelow_8 ?_
  refine lv_i2l hx hb dX2_gainBelow_9 rfl ?_
  refine lv_lconst (v := 1) hx hb dX2_gainBelow_10 rfl ?_
  refine lv_ladd hx hb dX2_gainBelow_11 ?_
  refine lv_aload_n hx hb dX2_gainBelow_12 rfl (lv_at hl 0 rfl) ?_
  refine g_get (C := RX2) (T := TX2) (N := 10) (ci := 2) (fs := [.int num, .ref h9, .ref b9, .int lost, .int rank, .int due, .int vis, .int chg, .int gone, .int spr]) hx hb hts inX2 hown hK hB rfl 9 (by decide) lk52 rfl rfl dX2_gainBelow_13 ?_
  refine lv_aload_n hx hb dX2_gainBelow_16 rfl (lv_at hl 0 rfl) ?_
  refine g_get (C := RX2) (T := TX2) (N := 10) (ci := 2) (fs := [.int num, .ref h9, .ref b9, .int lost, .int rank, .int due, .int vis, .int chg, .int gone, .int spr]) hx hb hts inX2 hown hK hB rfl 7 (by decide) lk49 rfl rfl dX2_gainBelow_17 ?_
  refine lv_iadd hx hb dX2_gainBelow_20 ?_
  refine lv_i2l hx hb dX2_gainBelow_21 rfl ?_
  refine lv_ldc2 (v := 2) hx hb hown (hts (.constantLong RX2 55 (2)) (by decide +kernel)) dX2_gainBelow_22 ?_
  refine lv_ladd hx hb dX2_gainBelow_25 ?_
  refine lv_lmul hx hb dX2_gainBelow_26 ?_
  exact g_lret hx hb hr hlocks dX2_gainBelow_27 rfl


def pPP (D : va_G) (a h b : Nat) (num lost rank due vis chg gone spr : Int32) (a' h' b' : Nat) (num' lost' rank' due' vis' chg' gone' spr' : Int32) : Heap → Prop := fun H => pPage D a h b num lost rank due vis chg gone spr H ∧ pPage D a' h' b' num' lost' rank' due' vis' chg' gone' spr' H
/-- whether the first gains more than the other -/
def gainsB (rank chg spr rank' chg' spr' : Int32) : Bool := decide (gA rank' chg' * gB spr chg < gA rank chg * gB spr' chg')

set_option maxHeartbeats 4000000 in
set_option maxRecDepth 100000 in
/-- gainsMoreThan(other) -/
theorem m_X2_gainsMoreThan (l : Launch) (D : va_G) (cy : Nat → ClassId) (a h9 b9 : Nat) (num lost rank due vis chg gone spr : Int32) (a' h' b' : Nat) (num' lost' rank' due' vis' chg' gone' spr' : Int32) : Met l yX2_gainsMoreThan wsX2_gainsMoreThan ({ frames := 1, cells := 0, slots := 0, locals := 30 } : Room) (va_Pc [.ref a, .ref a'] (fun U => gK D cy U ∧ (pPP D a h9 b9 num lost rank due vis chg gone spr a' h' b' num' lost' rank' due' vis' chg' gone' spr') U.heap)) (rQ (some (.int (zb (gainsB rank chg spr rank' chg' spr'))))) 0 0 (fun _ => False) := by
  refine Met.ofW (cc := cX2_gainsMoreThan) (maxL := 2) (ret := (some .boolean)) (by decide) rfl ?_
  intro p e s m args below meth c s₁ B9 hml hv
  obtain ⟨rfl, hK, hB⟩ := hv
  have hx := B9.exec
  have hb := B9.bytes
  have hr := B9.returns
  have hts := atoms_spec (ws := wsX2_gainsMoreThan) B9.pre
  have hown : s.vm.findClass RX2 = some m.cls := findClass_of_methodNamed B9.named
  have hlocks := B9.notSynchronized
  have hl := lv_entry ([.ref a, .ref a']) (n := 2) (Nat.le_of_ble_eq_true rfl)
  rw [lg_entry_eq]
  generalize (lg_sl ([.ref a, .ref a']) ++ List.replicate (2 - (lg_sl ([.ref a, .ref a'])).length) Slot.unset).toArray = ls at hl ⊢
  have hl : lv_has ls 2 [(0, .ref a), (1, .ref a')] := hl
  refine lv_aload_n hx hb dX2_gainsMoreThan_0 rfl (lv_at hl 0 rfl) ?_
  refine g_csr (va_runV (As := []) (rest := []) ⟨hx, hb, hml, hown, hts⟩ (m_X2_gainAbove l D cy a h9 b9 num lost rank due vis chg gone spr) (cwV 0 hts gX2_gainsMoreThan_X2_gainAbove rfl rfl rfl (by decide +kernel) ⟨Nat.le_of_ble_eq_true rfl, Nat.le_of_ble_eq_true rfl⟩) (g_preV (C := RX2) (B := (pPage D a h9 b9 num lost rank due vis chg gone spr)) hK hB.1 hB.1 rfl) rfl rfl hl.1 rfl (lv_room (Nat.le_of_ble_eq_true rfl)) dX2_gainsMoreThan_1 ⟨Nat.zero_le _, Nat.zero_le _⟩) ?_
  refine lv_aload_n hx hb dX2_gainsMoreThan_4 rfl (lv_at hl 1 rfl) ?_
  refine g_csr (va_runV (As := []) (rest := [.long (gA rank chg)]) ⟨hx, hb, hml, hown, hts⟩ (m_X2_gainBelow l D cy a' h' b' num' lost' rank' due' vis' chg' gone' spr') (cwV 0 hts gX2_gainsMoreThan_X2_gainBelow rfl rfl rfl (by decide +kernel) ⟨Nat.le_of_ble_eq_true rfl, Nat.le_of_ble_eq_true rfl⟩) (g_preV (C := RX2) (B := (pPage D a' h' b' num' lost' rank' due' vis' chg' gone' spr')) hK hB.2 hB.2 rfl) rfl rfl hl.1 rfl (lv_room (Nat.le_of_ble_eq_true rfl)) dX2_gainsMoreThan_5 ⟨Nat.zero_le _, Nat.zero_le _⟩) ?_
  refine lv_lmul hx hb dX2_gainsMoreThan_8 ?_
  refine lv_aload_n hx hb dX2_gainsMoreThan_9 rfl (lv_at hl 1 rfl) ?_
  refine g_csr (va_runV (As := []) (rest := [.long ((gA rank chg) * (gB spr' chg'))]) ⟨hx, hb, hml, hown, hts⟩ (m_X2_gainAbove l D cy a' h' b' num' lost' rank' due' vis' chg' gone' spr') (cwV 0 hts gX2_gainsMoreThan_X2_gainAbove rfl rfl rfl (by decide +kernel) ⟨Nat.le_of_ble_eq_true rfl, Nat.le_of_ble_eq_true rfl⟩) (g_preV (C := RX2) (B := (pPage D a' h' b' num' lost' rank' due' vis' chg' gone' spr')) hK hB.2 hB.2 rfl) rfl rfl hl.1 rfl (lv_room (Nat.le_of_ble_eq_true rfl)) dX2_gainsMoreThan_10 ⟨Nat.zero_le _, Nat.zero_le _⟩) ?_
  refine lv_aload_n hx hb dX2_gainsMoreThan_13 rfl (lv_at hl 0 rfl) ?_
  refine g_csr (va_runV (As := []) (rest := [.long (gA rank' chg'), .long ((gA rank chg) * (gB spr' chg'))]) ⟨hx, hb, hml, hown, hts⟩ (m_X2_gainBelow l D cy a h9 b9 num lost rank due vis chg gone spr) (cwV 0 hts gX2_gainsMoreThan_X2_gainBelow rfl rfl rfl (by decide +kernel) ⟨Nat.le_of_ble_eq_true rfl, Nat.le_of_ble_eq_true rfl⟩) (g_preV (C := RX2) (B := (pPage D a h9 b9 num lost rank due vis chg gone spr)) hK hB.1 hB.1 rfl) rfl rfl hl.1 rfl (lv_room (Nat.le_of_ble_eq_true rfl)) dX2_gainsMoreThan_14 ⟨Nat.zero_le _, Nat.zero_le _⟩) ?_
  refine lv_lmul hx hb dX2_gainsMoreThan_17 ?_
  refine W.lcmp hx hb dX2_gainsMoreThan_18 ?_
  refine lv_if_le (tgt := 26) hx hb dX2_gainsMoreThan_19 (by decide) (fun c_19 => ?_) (fun c_19 => ?_)
  · -- 19 t
    refine lv_iconst (v := 0) hx hb dX2_gainsMoreThan_26 (by decide) ?_
    exact g_zret hx hb hr hlocks rfl dX2_gainsMoreThan_27 (by rw [gainsB, decide_eq_false (Int64.not_lt.mpr (lg_le.mp c_19))]; rfl)
  · -- 19 f
    refine lv_iconst (v := 1) hx hb dX2_gainsMoreThan_22 (by decide) ?_
    refine lv_goto (tgt := 27) hx hb dX2_gainsMoreThan_23 (by decide) ?_
    exact g_zret hx hb hr hlocks rfl dX2_gainsMoreThan_27 (by rw [gainsB, decide_eq_true (Int64.not_le.mp (fun q => c_19 (lg_le.mpr q)))]; rfl)


/-! the class's own numbers -/
def leftC (τ : IT) : Int32 := mx 0 (τ 3 0 - τ 20 0)
def spanC (τ : IT) : Int32 := (τ 0 0 / 100 + 1) * 100
def readyC (τ : IT) (ν : NT) (p : Nat) : Int32 := mx (if leftC τ ≤ 0 then spanC τ else τ 0 0) (mx (τ 11 p) (τ 9 (ν 5 p)))
def keptC (τ : IT) (p : Nat) : Bool := keptB (τ 14 p) (τ 15 p)
def isRdy (τ : IT) (ν : NT) (p : Nat) : Bool := keptC τ p && !decide (τ 0 0 < readyC τ ν p)
def pressC (τ : IT) (p : Nat) : Int32 := pressF (τ 10 p) (τ 11 p) (τ 0 0)
def befC (τ : IT) (p q : Nat) : Bool := if pressC τ p = pressC τ q then (if τ 10 p = τ 10 q then decide (nI p < nI q) else decide (τ 10 q < τ 10 p)) else decide (pressC τ q < pressC τ p)
def earl (τ : IT) : Option Nat → Option Nat → Option Nat
  | none, o => o
  | some a, none => some a
  | some a, some b => if befC τ b a then some b else some a
def numO : Option Nat → Int32
  | none => -1
  | some p => nI p
def fohL (τ : IT) (ν : NT) (h : Nat) : Nat → Nat → Option Nat → Option Nat
  | 0, _, f => f
  | k + 1, i, f => fohL τ ν h k (i + 1) (if i < ν 0 0 ∧ ν 5 i = h ∧ isRdy τ ν i = true then earl τ f (some i) else f)
def scanL (τ : IT) (ν : NT) : Nat → Nat → Option Nat → Option Nat
  | 0, _, f => f
  | k + 1, i, f => scanL τ ν k (i + 1) (if i < ν 0 0 ∧ isRdy τ ν i = true then earl τ f (some i) else f)
def nextL (τ : IT) (ν : NT) : Nat → Nat → Option Nat → Option Nat
  | 0, _, f => f
  | k + 1, h, f => nextL τ ν k (h + 1) (earl τ f (fohL τ ν h 30 0 none))
def waitL (τ : IT) (ν : NT) : Nat → Nat → Int32 → Int32
  | 0, _, w => w
  | k + 1, i, w => waitL τ ν k (i + 1) (if i < ν 0 0 ∧ keptC τ i = true then (if w = -1 then readyC τ ν i - τ 0 0 else mn w (readyC τ ν i - τ 0 0)) else w)
def sameC (τ : IT) (ν : NT) (p : Nat) : Bool := decide (ν 3 p = ν 1 0) && sameF (atN (fun i => τ 18 (30 * p + i)) (ν 3 p)) (atN (τ 6) (ν 1 0)) (ν 3 p) 0
def pabL (τ : IT) (ν : NT) (h : Nat) : Nat → Nat → Option Nat
  | 0, _ => none
  | k + 1, i => if i < ν 0 0 ∧ ν 5 i = h ∧ sameC τ ν i = true then some i else pabL τ ν h k (i + 1)
def gainsC (τ : IT) (p q : Nat) : Bool := gainsB (τ 10 p) (τ 13 p) (τ 25 p) (τ 10 q) (τ 13 q) (τ 25 q)
def bestL (τ : IT) (ν : NT) : Nat → Nat → Option Nat → Option Nat
  | 0, _, b => b
  | k + 1, i, b => bestL τ ν k (i + 1) (if i < ν 0 0 ∧ keptC τ i = true ∧ (match b with | none => true | some j => gainsC τ i j) = true then some i else b)
def divUp (a b : Int32) : Int32 := if (1 : Int32) ≤ b then (a + b - 1) / b else a
def paceC (τ : IT) (p : Nat) : Int32 := mn (τ 2 0) (divUp (τ 1 0 * (τ 12 p + 2)) (τ 13 p + 1))
theorem CW.page {D : va_G} {cy : Nat → ClassId} {ad : NT} {τ : IT} {ν : NT} {H : Heap} (h : CW D cy ad τ ν H) {p : Nat} (hp : p < ν 0 0) : pPage D (ad 7 p) (ad 6 (ν 5 p)) (ad 8 p) (nI p) (τ 15 p) (τ 10 p) (τ 11 p) (τ 12 p) (τ 13 p) (τ 14 p) (τ 25 p) H := h 7 p hp
theorem CW.buf {D : va_G} {cy : Nat → ClassId} {ad : NT} {τ : IT} {ν : NT} {H : Heap} (h : CW D cy ad τ ν H) : pA D cy (ad 1 0) (ad 4 0) (ad 5 0) (τ 6) (τ 22) (ν 1 0) (ν 2 0) H := ⟨h 1 0 Nat.zero_lt_one, h 4 0 Nat.zero_lt_one, h 5 0 Nat.zero_lt_one⟩
theorem CW.addr {D : va_G} {cy : Nat → ClassId} {ad : NT} {τ : IT} {ν : NT} {H : Heap} (h : CW D cy ad τ ν H) {p : Nat} (hp : p < ν 0 0) : pA D cy (ad 8 p) (ad 9 p) (ad 10 p) (fun i => τ 18 (30 * p + i)) (fun i => τ 24 (30 * p + i)) (ν 3 p) (ν 4 p) H := ⟨h 8 p hp, h 9 p hp, h 10 p hp⟩

set_option maxHeartbeats 4000000 in
set_option maxRecDepth 100000 in
/-- now -/
theorem m_X3_now (l : Launch) (D : va_G) (cy : Nat → ClassId) (ad : NT) (τ : IT) (ν : NT) : Met l yX3_now wsX3_now ({ frames := 0, cells := 0, slots := 0, locals := 0 } : Room) (va_Pc [.ref (ad 0 0)] (fun U => gK D cy U ∧ (CW D cy ad τ ν) U.heap)) (rQ (some (.int (τ 0 0)))) 0 0 (fun _ => False) := by
  refine Met.ofW (cc := cX3_now) (maxL := 1) (ret := (some .int)) (by decide) rfl ?_
  intro p e s m args below meth c s₁ B9 hml hv
  obtain ⟨rfl, hK, hB⟩ := hv
  have hx := B9.exec
  have hb := B9.bytes
  have hr := B9.returns
  have hts := atoms_spec (ws := wsX3_now) B9.pre
  have hown : s.vm.findClass RX3 = some m.cls := findClass_of_methodNamed B9.named
  have hlocks := B9.notSynchronized
  have lk111 := hts (.fieldLink RX3 111 "Politecrawl" "tick" "I") (by decide +kernel)
  have inX3 : ∀ w ∈ u_ws RX3 TX3 9, w ∈ wsX3_now := by decide +kernel
  have hl := lv_entry ([.ref (ad 0 0)]) (n := 1) (Nat.le_of_ble_eq_true rfl)
  rw [lg_entry_eq]
  generalize (lg_sl ([.ref (ad 0 0)]) ++ List.replicate (1 - (lg_sl ([.ref (ad 0 0)])).length) Slot.unset).toArray = ls at hl ⊢
  have hl : lv_has ls 1 [(0, .ref (ad 0 0))] := hl
  refine lv_aload_n hx hb dX3_now_0 rfl (lv_at hl 0 rfl) ?_
  refine g_get (C := RX3) (T := TX3) (N := 9) (ci := 3) (fs := [.ref (ad 1 0), .ref (ad 2 0), .ref (ad 3 0), .int (nI (ν 0 0)), .int (τ 0 0), .int (τ 1 0), .int (τ 2 0), .int (τ 3 0), .int (τ 20 0)]) hx hb hts inX3 hown hK (hB 0 0 Nat.zero_lt_one) rfl 4 (by decide) lk111 rfl rfl dX3_now_1 ?_
  exact g_iret hx hb hr hlocks dX3_now_4 rfl

set_option maxHeartbeats 4000000 in
set_option maxRecDepth 100000 in
/-- pages -/
theorem m_X3_pages (l : Launch) (D : va_G) (cy : Nat → ClassId) (ad : NT) (τ : IT) (ν : NT) : Met l yX3_pages wsX3_pages ({ frames := 0, cells := 0, slots := 0, locals := 0 } : Room) (va_Pc [.ref (ad 0 0)] (fun U => gK D cy U ∧ (CW D cy ad τ ν) U.heap)) (rQ (some (.int (nI (ν 0 0))))) 0 0 (fun _ => False) := by
  refine Met.ofW (cc := cX3_pages) (maxL := 1) (ret := (some .int)) (by decide) rfl ?_
  intro p e s m args below meth c s₁ B9 hml hv
  obtain ⟨rfl, hK, hB⟩ := hv
  have hx := B9.exec
  have hb := B9.bytes
  have hr := B9.returns
  have hts := atoms_spec (ws := wsX3_pages) B9.pre
  have hown : s.vm.findClass RX3 = some m.cls := findClass_of_methodNamed B9.named
  have hlocks := B9.notSynchronized
  have lk103 := hts (.fieldLink RX3 103 "Politecrawl" "foundCount" "I") (by decide +kernel)
  have inX3 : ∀ w ∈ u_ws RX3 TX3 9, w ∈ wsX3_pages := by decide +kernel
  have hl := lv_entry ([.ref (ad 0 0)]) (n := 1) (Nat.le_of_ble_eq_true rfl)
  rw [lg_entry_eq]
  generalize (lg_sl ([.ref (ad 0 0)]) ++ List.replicate (1 - (lg_sl ([.ref (ad 0 0)])).length) Slot.unset).toArray = ls at hl ⊢
  have hl : lv_has ls 1 [(0, .ref (ad 0 0))] := hl
  refine lv_aload_n hx hb dX3_pages_0 rfl (lv_at hl 0 rfl) ?_
  refine g_get (C := RX3) (T := TX3) (N := 9) (ci := 3) (fs := [.ref (ad 1 0), .ref (ad 2 0), .ref (ad 3 0), .int (nI (ν 0 0)), .int (τ 0 0), .int (τ 1 0), .int (τ 2 0), .int (τ 3 0), .int (τ 20 0)]) hx hb hts inX3 hown hK (hB 0 0 Nat.zero_lt_one) rfl 3 (by decide) lk103 rfl rfl dX3_pages_1 ?_
  exact g_iret hx hb hr hlocks dX3_pages_4 rfl

set_option maxHeartbeats 4000000 in
set_option maxRecDepth 100000 in
/-- segments -/
theorem m_X3_segments (l : Launch) (D : va_G) (cy : Nat → ClassId) (ad : NT) (τ : IT) (ν : NT) : Met l yX3_segments wsX3_segments ({ frames := 0, cells := 0, slots := 0, locals := 0 } : Room) (va_Pc [.ref (ad 0 0)] (fun U => gK D cy U ∧ (CW D cy ad τ ν) U.heap)) (rQ (some (.int (nI (ν 2 0))))) 0 0 (fun _ => False) := by
  refine Met.ofW (cc := cX3_segments) (maxL := 1) (ret := (some .int)) (by decide) rfl ?_
  intro p e s m args below meth c s₁ B9 hml hv
  obtain ⟨rfl, hK, hB⟩ := hv
  have hx := B9.exec
  have hb := B9.bytes
  have hr := B9.returns
  have hts := atoms_spec (ws := wsX3_segments) B9.pre
  have hown : s.vm.findClass RX3 = some m.cls := findClass_of_methodNamed B9.named
  have hlocks := B9.notSynchronized
  have lk10 := hts (.fieldLink RX3 10 "Politecrawl" "buffer" "LPolitecrawl$Address;") (by decide +kernel)
  have inX3 : ∀ w ∈ u_ws RX3 TX3 9, w ∈ wsX3_segments := by decide +kernel
  have lk65 := hts (.fieldLink RX3 65 "Politecrawl$Address" "segmentCount" "I") (by decide +kernel)
  have inX0 : ∀ w ∈ u_ws RX0 TX0 4, w ∈ wsX3_segments := by decide +kernel
  have hl := lv_entry ([.ref (ad 0 0)]) (n := 1) (Nat.le_of_ble_eq_true rfl)
  rw [lg_entry_eq]
  generalize (lg_sl ([.ref (ad 0 0)]) ++ List.replicate (1 - (lg_sl ([.ref (ad 0 0)])).length) Slot.unset).toArray = ls at hl ⊢
  have hl : lv_has ls 1 [(0, .ref (ad 0 0))] := hl
  refine lv_aload_n hx hb dX3_segments_0 rfl (lv_at hl 0 rfl) ?_
  refine g_get (C := RX3) (T := TX3) (N := 9) (ci := 3) (fs := [.ref (ad 1 0), .ref (ad 2 0), .ref (ad 3 0), .int (nI (ν 0 0)), .int (τ 0 0), .int (τ 1 0), .int (τ 2 0), .int (τ 3 0), .int (τ 20 0)]) hx hb hts inX3 hown hK (hB 0 0 Nat.zero_lt_one) rfl 0 (by decide) lk10 rfl rfl dX3_segments_1 ?_
  refine g_get (C := RX0) (T := TX0) (N := 4) (ci := 0) (fs := [.ref (ad 4 0), .ref (ad 5 0), .int (nI (ν 1 0)), .int (nI (ν 2 0))]) hx hb hts inX0 hown hK (hB 1 0 Nat.zero_lt_one) rfl 3 (by decide) lk65 rfl rfl dX3_segments_4 ?_
  exact g_iret hx hb hr hlocks dX3_segments_7 rfl

set_option maxHeartbeats 4000000 in
set_option maxRecDepth 100000 in
/-- isTrap -/
theorem m_X3_isTrap (l : Launch) (D : va_G) (cy : Nat → ClassId) (ad : NT) (τ : IT) (ν : NT) (hI : CI τ ν) : Met l yX3_isTrap wsX3_isTrap ({ frames := 4, cells := 0, slots := 0, locals := 115 } : Room) (va_Pc [.ref (ad 0 0)] (fun U => gK D cy U ∧ (CW D cy ad τ ν) U.heap)) (rQ (some (.int (zb (repA (τ 6) (τ 22) (ν 1 0) (ν 2 0)))))) 0 0 (fun _ => False) := by
  refine Met.ofW (cc := cX3_isTrap) (maxL := 1) (ret := (some .boolean)) (by decide) rfl ?_
  intro p e s m args below meth c s₁ B9 hml hv
  obtain ⟨rfl, hK, hB⟩ := hv
  have hx := B9.exec
  have hb := B9.bytes
  have hr := B9.returns
  have hts := atoms_spec (ws := wsX3_isTrap) B9.pre
  have hown : s.vm.findClass RX3 = some m.cls := findClass_of_methodNamed B9.named
  have hlocks := B9.notSynchronized
  have lk10 := hts (.fieldLink RX3 10 "Politecrawl" "buffer" "LPolitecrawl$Address;") (by decide +kernel)
  have inX3 : ∀ w ∈ u_ws RX3 TX3 9, w ∈ wsX3_isTrap := by decide +kernel
  have hl := lv_entry ([.ref (ad 0 0)]) (n := 1) (Nat.le_of_ble_eq_true rfl)
  rw [lg_entry_eq]
  generalize (lg_sl ([.ref (ad 0 0)]) ++ List.replicate (1 - (lg_sl ([.ref (ad 0 0)])).length) Slot.unset).toArray = ls at hl ⊢
  have hl : lv_has ls 1 [(0, .ref (ad 0 0))] := hl
  refine lv_aload_n hx hb dX3_isTrap_0 rfl (lv_at hl 0 rfl) ?_
  refine g_get (C := RX3) (T := TX3) (N := 9) (ci := 3) (fs := [.ref (ad 1 0), .ref (ad 2 0), .ref (ad 3 0), .int (nI (ν 0 0)), .int (τ 0 0), .int (τ 1 0), .int (τ 2 0), .int (τ 3 0), .int (τ 20 0)]) hx hb hts inX3 hown hK (hB 0 0 Nat.zero_lt_one) rfl 0 (by decide) lk10 rfl rfl dX3_isTrap_1 ?_
  refine g_csr (va_runV (As := []) (rest := []) ⟨hx, hb, hml, hown, hts⟩ (m_X0_repeatsItself l D cy (ad 1 0) (ad 4 0) (ad 5 0) (τ 6) (τ 22) (ν 1 0) (ν 2 0) hI.2.1 hI.2.2.2.1 hI.2.2.1 hI.2.2.2.2.1) (cwV 0 hts gX3_isTrap_X0_repeatsItself rfl rfl rfl (by decide +kernel) ⟨Nat.le_of_ble_eq_true rfl, Nat.le_of_ble_eq_true rfl⟩) (g_preV (C := RX0) (B := (pA D cy (ad 1 0) (ad 4 0) (ad 5 0) (τ 6) (τ 22) (ν 1 0) (ν 2 0))) hK hB.buf (hB 1 0 Nat.zero_lt_one) rfl) rfl rfl hl.1 rfl (lv_room (Nat.le_of_ble_eq_true rfl)) dX3_isTrap_4 ⟨Nat.zero_le _, Nat.zero_le _⟩) ?_
  exact g_zret hx hb hr hlocks (by cases repA (τ 6) (τ 22) (ν 1 0) (ν 2 0) <;> rfl) dX3_isTrap_7 rfl

set_option maxHeartbeats 4000000 in
set_option maxRecDepth 100000 in
/-- budgetLeft -/
theorem m_X3_budgetLeft (l : Launch) (D : va_G) (cy : Nat → ClassId) (ad : NT) (τ : IT) (ν : NT) : Met l yX3_budgetLeft wsX3_budgetLeft ({ frames := 1, cells := 0, slots := 0, locals := 21 } : Room) (va_Pc [.ref (ad 0 0)] (fun U => gK D cy U ∧ (CW D cy ad τ ν) U.heap)) (rQ (some (.int (leftC τ)))) 0 0 (fun _ => False) := by
  refine Met.ofW (cc := cX3_budgetLeft) (maxL := 1) (ret := (some .int)) (by decide) rfl ?_
  intro p e s m args below meth c s₁ B9 hml hv
  obtain ⟨rfl, hK, hB⟩ := hv
  have hx := B9.exec
  have hb := B9.bytes
  have hr := B9.returns
  have hts := atoms_spec (ws := wsX3_budgetLeft) B9.pre
  have hown : s.vm.findClass RX3 = some m.cls := findClass_of_methodNamed B9.named
  have hlocks := B9.notSynchronized
  have lk36 := hts (.fieldLink RX3 36 "Politecrawl" "budget" "I") (by decide +kernel)
  have inX3 : ∀ w ∈ u_ws RX3 TX3 9, w ∈ wsX3_budgetLeft := by decide +kernel
  have lk155 := hts (.fieldLink RX3 155 "Politecrawl" "visitsInSpan" "I") (by decide +kernel)
  have hl := lv_entry ([.ref (ad 0 0)]) (n := 1) (Nat.le_of_ble_eq_true rfl)
  rw [lg_entry_eq]
  generalize (lg_sl ([.ref (ad 0 0)]) ++ List.replicate (1 - (lg_sl ([.ref (ad 0 0)])).length) Slot.unset).toArray = ls at hl ⊢
  have hl : lv_has ls 1 [(0, .ref (ad 0 0))] := hl
  refine lv_iconst (v := 0) hx hb dX3_budgetLeft_0 (by decide) ?_
  refine lv_aload_n hx hb dX3_budgetLeft_1 rfl (lv_at hl 0 rfl) ?_
  refine g_get (C := RX3) (T := TX3) (N := 9) (ci := 3) (fs := [.ref (ad 1 0), .ref (ad 2 0), .ref (ad 3 0), .int (nI (ν 0 0)), .int (τ 0 0), .int (τ 1 0), .int (τ 2 0), .int (τ 3 0), .int (τ 20 0)]) hx hb hts inX3 hown hK (hB 0 0 Nat.zero_lt_one) rfl 7 (by decide) lk36 rfl rfl dX3_budgetLeft_2 ?_
  refine lv_aload_n hx hb dX3_budgetLeft_5 rfl (lv_at hl 0 rfl) ?_
  refine g_get (C := RX3) (T := TX3) (N := 9) (ci := 3) (fs := [.ref (ad 1 0), .ref (ad 2 0), .ref (ad 3 0), .int (nI (ν 0 0)), .int (τ 0 0), .int (τ 1 0), .int (τ 2 0), .int (τ 3 0), .int (τ 20 0)]) hx hb hts inX3 hown hK (hB 0 0 Nat.zero_lt_one) rfl 8 (by decide) lk155 rfl rfl dX3_budgetLeft_6 ?_
  refine lv_isub hx hb dX3_budgetLeft_9 ?_
  refine va_mmax hx hb (by rw [hml]; exact hl.1.symm) hown (hts (.methodLink RX3 178 Lib.Math.max.name) (by decide +kernel)) (hts (.static Lib.Math.max.name) (by decide +kernel)) (hts (.initialized "java/lang/Math") (by decide +kernel)) (hts (.code Lib.Math.max.name Lib.Math.max.code 2 (some .int)) (by decide +kernel)) (Nat.le_of_ble_eq_true rfl) (Nat.le_of_ble_eq_true rfl) (Nat.zero_le _) (Nat.zero_le _) dX3_budgetLeft_10 ?_
  exact g_iret hx hb hr hlocks dX3_budgetLeft_13 rfl

set_option maxHeartbeats 4000000 in
set_option maxRecDepth 100000 in
/-- startOfNextSpan -/
theorem m_X3_startOfNextSpan (l : Launch) (D : va_G) (cy : Nat → ClassId) (ad : NT) (τ : IT) (ν : NT) : Met l yX3_startOfNextSpan wsX3_startOfNextSpan ({ frames := 0, cells := 0, slots := 0, locals := 0 } : Room) (va_Pc [.ref (ad 0 0)] (fun U => gK D cy U ∧ (CW D cy ad τ ν) U.heap)) (rQ (some (.int (spanC τ)))) 0 0 (fun _ => False) := by
  refine Met.ofW (cc := cX3_startOfNextSpan) (maxL := 1) (ret := (some .int)) (by decide) rfl ?_
  intro p e s m args below meth c s₁ B9 hml hv
  obtain ⟨rfl, hK, hB⟩ := hv
  have hx := B9.exec
  have hb := B9.bytes
  have hr := B9.returns
  have hts := atoms_spec (ws := wsX3_startOfNextSpan) B9.pre
  have hown : s.vm.findClass RX3 = some m.cls := findClass_of_methodNamed B9.named
  have hlocks := B9.notSynchronized
  have lk111 := hts (.fieldLink RX3 111 "Politecrawl" "tick" "I") (by decide +kernel)
  have inX3 : ∀ w ∈ u_ws RX3 TX3 9, w ∈ wsX3_startOfNextSpan := by decide +kernel
  have hl := lv_entry ([.ref (ad 0 0)]) (n := 1) (Nat.le_of_ble_eq_true rfl)
  rw [lg_entry_eq]
  generalize (lg_sl ([.ref (ad 0 0)]) ++ List.replicate (1 - (lg_sl ([.ref (ad 0 0)])).length) Slot.unset).toArray = ls at hl ⊢
  have hl : lv_has ls 1 [(0, .ref (ad 0 0))] := hl
  refine lv_aload_n hx hb dX3_startOfNextSpan_0 rfl (lv_at hl 0 rfl) ?_
  refine g_get (C := RX3) (T := TX3) (N := 9) (ci := 3) (fs := [.ref (ad 1 0), .ref (ad 2 0), .ref (ad 3 0), .int (nI (ν 0 0)), .int (τ 0 0), .int (τ 1 0), .int (τ 2 0), .int (τ 3 0), .int (τ 20 0)]) hx hb hts inX3 hown hK (hB 0 0 Nat.zero_lt_one) rfl 4 (by decide) lk111 rfl rfl dX3_startOfNextSpan_1 ?_
  refine lv_bipush (v := 100) hx hb dX3_startOfNextSpan_4 (by decide) ?_
  refine lv_idiv hx hb dX3_startOfNextSpan_6 (by decide) ?_
  refine lv_iconst (v := 1) hx hb dX3_startOfNextSpan_7 (by decide) ?_
  refine lv_iadd hx hb dX3_startOfNextSpan_8 ?_
  refine lv_bipush (v := 100) hx hb dX3_startOfNextSpan_9 (by decide) ?_
  refine lv_imul hx hb dX3_startOfNextSpan_11 ?_
  exact g_iret hx hb hr hlocks dX3_startOfNextSpan_12 rfl

set_option maxHeartbeats 4000000 in
set_option maxRecDepth 100000 in
/-- readyFrom -/
theorem m_X3_readyFrom (l : Launch) (D : va_G) (cy : Nat → ClassId) (ad : NT) (τ : IT) (ν : NT) (hI : CI τ ν) (q : Nat) (hq : q < ν 0 0) : Met l yX3_readyFrom wsX3_readyFrom ({ frames := 2, cells := 0, slots := 0, locals := 45 } : Room) (va_Pc [.ref (ad 0 0), .ref (ad 7 q)] (fun U => gK D cy U ∧ (CW D cy ad τ ν) U.heap)) (rQ (some (.int (readyC τ ν q)))) 0 0 (fun _ => False) := by
  refine Met.ofW (cc := cX3_readyFrom) (maxL := 3) (ret := (some .int)) (by decide) rfl ?_
  intro p e s m args below meth c s₁ B9 hml hv
  obtain ⟨rfl, hK, hB⟩ := hv
  have hx := B9.exec
  have hb := B9.bytes
  have hr := B9.returns
  have hts := atoms_spec (ws := wsX3_readyFrom) B9.pre
  have hown : s.vm.findClass RX3 = some m.cls := findClass_of_methodNamed B9.named
  have hlocks := B9.notSynchronized
  have lk111 := hts (.fieldLink RX3 111 "Politecrawl" "tick" "I") (by decide +kernel)
  have inX3 : ∀ w ∈ u_ws RX3 TX3 9, w ∈ wsX3_readyFrom := by decide +kernel
  have lk127 := hts (.fieldLink RX3 127 "Politecrawl$Page" "due" "I") (by decide +kernel)
  have inX2 : ∀ w ∈ u_ws RX2 TX2 10, w ∈ wsX3_readyFrom := by decide +kernel
  have lk162 := hts (.fieldLink RX3 162 "Politecrawl$Page" "host" "LPolitecrawl$Host;") (by decide +kernel)
  have lk89 := hts (.fieldLink RX3 89 "Politecrawl$Host" "openFrom" "I") (by decide +kernel)
  have inX1 : ∀ w ∈ u_ws RX1 TX1 3, w ∈ wsX3_readyFrom := by decide +kernel
  have hl := lv_entry ([.ref (ad 0 0), .ref (ad 7 q)]) (n := 3) (Nat.le_of_ble_eq_true rfl)
  rw [lg_entry_eq]
  generalize (lg_sl ([.ref (ad 0 0), .ref (ad 7 q)]) ++ List.replicate (3 - (lg_sl ([.ref (ad 0 0), .ref (ad 7 q)])).length) Slot.unset).toArray = ls at hl ⊢
  have hl : lv_has ls 3 [(0, .ref (ad 0 0)), (1, .ref (ad 7 q))] := hl
  refine lv_aload_n hx hb dX3_readyFrom_0 rfl (lv_at hl 0 rfl) ?_
  refine g_csr (va_runV (As := []) (rest := []) ⟨hx, hb, hml, hown, hts⟩ (m_X3_budgetLeft l D cy ad τ ν) (cwV 0 hts gX3_readyFrom_X3_budgetLeft rfl rfl rfl (by decide +kernel) ⟨Nat.le_of_ble_eq_true rfl, Nat.le_of_ble_eq_true rfl⟩) (g_preV (C := RX3) (B := (CW D cy ad τ ν)) hK hB (hB 0 0 Nat.zero_lt_one) rfl) rfl rfl hl.1 rfl (lv_room (Nat.le_of_ble_eq_true rfl)) dX3_readyFrom_1 ⟨Nat.zero_le _, Nat.zero_le _⟩) ?_
  refine lv_if_le (tgt := 14) hx hb dX3_readyFrom_4 (by decide) (fun c_4 => ?_) (fun c_4 => ?_)
  · -- 4 t
    refine lv_aload_n hx hb dX3_readyFrom_14 rfl (lv_at hl 0 rfl) ?_
    refine g_csr (va_runV (As := []) (rest := []) ⟨hx, hb, hml, hown, hts⟩ (m_X3_startOfNextSpan l D cy ad τ ν) (cwV 0 hts gX3_readyFrom_X3_startOfNextSpan rfl rfl rfl (by decide +kernel) ⟨Nat.le_of_ble_eq_true rfl, Nat.le_of_ble_eq_true rfl⟩) (g_preV (C := RX3) (B := (CW D cy ad τ ν)) hK hB (hB 0 0 Nat.zero_lt_one) rfl) rfl rfl hl.1 rfl (lv_room (Nat.le_of_ble_eq_true rfl)) dX3_readyFrom_15 ⟨Nat.zero_le _, Nat.zero_le _⟩) ?_
    refine lv_istore_n (lv' := [(2, .int (spanC τ)), (0, .ref (ad 0 0)), (1, .ref (ad 7 q))]) hx hb dX3_readyFrom_18 rfl hl (by decide) rfl (fun ls hl => ?_)
    refine lv_iload_n hx hb dX3_readyFrom_19 rfl (lv_at hl 0 rfl) ?_
    refine lv_aload_n hx hb dX3_readyFrom_20 rfl (lv_at hl 2 rfl) ?_
    refine g_get (C := RX2) (T := TX2) (N := 10) (ci := 2) (fs := [.int (nI q), .ref (ad 6 (ν 5 q)), .ref (ad 8 q), .int (τ 15 q), .int (τ 10 q), .int (τ 11 q), .int (τ 12 q), .int (τ 13 q), .int (τ 14 q), .int (τ 25 q)]) hx hb hts inX2 hown hK (hB 7 q hq) rfl 5 (by decide) lk127 rfl rfl dX3_readyFrom_21 ?_
    refine lv_aload_n hx hb dX3_readyFrom_24 rfl (lv_at hl 2 rfl) ?_
    refine g_get (C := RX2) (T := TX2) (N := 10) (ci := 2) (fs := [.int (nI q), .ref (ad 6 (ν 5 q)), .ref (ad 8 q), .int (τ 15 q), .int (τ 10 q), .int (τ 11 q), .int (τ 12 q), .int (τ 13 q), .int (τ 14 q), .int (τ 25 q)]) hx hb hts inX2 hown hK (hB 7 q hq) rfl 1 (by decide) lk162 rfl rfl dX3_readyFrom_25 ?_
    refine g_get (C := RX1) (T := TX1) (N := 3) (ci := 1) (fs := [.int (τ 7 (ν 5 q)), .int (τ 8 (ν 5 q)), .int (τ 9 (ν 5 q))]) hx hb hts inX1 hown hK (hB 6 (ν 5 q) (hI.2.2.2.2.2 q hq).1) rfl 2 (by decide) lk89 rfl rfl dX3_readyFrom_28 ?_
    refine va_mmax hx hb (by rw [hml]; exact hl.1.symm) hown (hts (.methodLink RX3 178 Lib.Math.max.name) (by decide +kernel)) (hts (.static Lib.Math.max.name) (by decide +kernel)) (hts (.initialized "java/lang/Math") (by decide +kernel)) (hts (.code Lib.Math.max.name Lib.Math.max.code 2 (some .int)) (by decide +kernel)) (Nat.le_of_ble_eq_true rfl) (Nat.le_of_ble_eq_true rfl) (Nat.zero_le _) (Nat.zero_le _) dX3_readyFrom_31 ?_
    refine va_mmax hx hb (by rw [hml]; exact hl.1.symm) hown (hts (.methodLink RX3 178 Lib.Math.max.name) (by decide +kernel)) (hts (.static Lib.Math.max.name) (by decide +kernel)) (hts (.initialized "java/lang/Math") (by decide +kernel)) (hts (.code Lib.Math.max.name Lib.Math.max.code 2 (some .int)) (by decide +kernel)) (Nat.le_of_ble_eq_true rfl) (Nat.le_of_ble_eq_true rfl) (Nat.zero_le _) (Nat.zero_le _) dX3_readyFrom_34 ?_
    exact g_iret hx hb hr hlocks dX3_readyFrom_37 (by rw [readyC, if_pos c_4]; rfl)
  · -- 4 f
    refine lv_aload_n hx hb dX3_readyFrom_7 rfl (lv_at hl 0 rfl) ?_
    refine g_get (C := RX3) (T := TX3) (N := 9) (ci := 3) (fs := [.ref (ad 1 0), .ref (ad 2 0), .ref (ad 3 0), .int (nI (ν 0 0)), .int (τ 0 0), .int (τ 1 0), .int (τ 2 0), .int (τ 3 0), .int (τ 20 0)]) hx hb hts inX3 hown hK (hB 0 0 Nat.zero_lt_one) rfl 4 (by decide) lk111 rfl rfl dX3_readyFrom_8 ?_
    refine lv_goto (tgt := 18) hx hb dX3_readyFrom_11 (by decide) ?_
    refine lv_istore_n (lv' := [(2, .int (τ 0 0)), (0, .ref (ad 0 0)), (1, .ref (ad 7 q))]) hx hb dX3_readyFrom_18 rfl hl (by decide) rfl (fun ls hl => ?_)
    refine lv_iload_n hx hb dX3_readyFrom_19 rfl (lv_at hl 0 rfl) ?_
    refine lv_aload_n hx hb dX3_readyFrom_20 rfl (lv_at hl 2 rfl) ?_
    refine g_get (C := RX2) (T := TX2) (N := 10) (ci := 2) (fs := [.int (nI q), .ref (ad 6 (ν 5 q)), .ref (ad 8 q), .int (τ 15 q), .int (τ 10 q), .int (τ 11 q), .int (τ 12 q), .int (τ 13 q), .int (τ 14 q), .int (τ 25 q)]) hx hb hts inX2 hown hK (hB 7 q hq) rfl 5 (by decide) lk127 rfl rfl dX3_readyFrom_21 ?_
    refine lv_aload_n hx hb dX3_readyFrom_24 rfl (lv_at hl 2 rfl) ?_
    refine g_get (C := RX2) (T := TX2) (N := 10) (ci := 2) (fs := [.int (nI q), .ref (ad 6 (ν 5 q)), .ref (ad 8 q), .int (τ 15 q), .int (τ 10 q), .int (τ 11 q), .int (τ 12 q), .int (τ 13 q), .int (τ 14 q), .int (τ 25 q)]) hx hb hts inX2 hown hK (hB 7 q hq) rfl 1 (by decide) lk162 rfl rfl dX3_readyFrom_25 ?_
    refine g_get (C := RX1) (T := TX1) (N := 3) (ci := 1) (fs := [.int (τ 7 (ν 5 q)), .int (τ 8 (ν 5 q)), .int (τ 9 (ν 5 q))]) hx hb hts inX1 hown hK (hB 6 (ν 5 q) (hI.2.2.2.2.2 q hq).1) rfl 2 (by decide) lk89 rfl rfl dX3_readyFrom_28 ?_
    refine va_mmax hx hb (by rw [hml]; exact hl.1.symm) hown (hts (.methodLink RX3 178 Lib.Math.max.name) (by decide +kernel)) (hts (.static Lib.Math.max.name) (by decide +kernel)) (hts (.initialized "java/lang/Math") (by decide +kernel)) (hts (.code Lib.Math.max.name Lib.Math.max.code 2 (some .int)) (by decide +kernel)) (Nat.le_of_ble_eq_true rfl) (Nat.le_of_ble_eq_true rfl) (Nat.zero_le _) (Nat.zero_le _) dX3_readyFrom_31 ?_
    refine va_mmax hx hb (by rw [hml]; exact hl.1.symm) hown (hts (.methodLink RX3 178 Lib.Math.max.name) (by decide +kernel)) (hts (.static Lib.Math.max.name) (by decide +kernel)) (hts (.initialized "java/lang/Math") (by decide +kernel)) (hts (.code Lib.Math.max.name Lib.Math.max.code 2 (some .int)) (by decide +kernel)) (Nat.le_of_ble_eq_true rfl) (Nat.le_of_ble_eq_true rfl) (Nat.zero_le _) (Nat.zero_le _) dX3_readyFrom_34 ?_
    exact g_iret hx hb hr hlocks dX3_readyFrom_37 (by rw [readyC, if_neg c_4]; rfl)

set_option maxHeartbeats 4000000 in
set_option maxRecDepth 100000 in
/-- isReady -/
theorem m_X3_isReady (l : Launch) (D : va_G) (cy : Nat → ClassId) (ad : NT) (τ : IT) (ν : NT) (hI : CI τ ν) (q : Nat) (hq : q < ν 0 0) : Met l yX3_isReady wsX3_isReady ({ frames := 3, cells := 0, slots := 0, locals := 70 } : Room) (va_Pc [.ref (ad 0 0), .ref (ad 7 q)] (fun U => gK D cy U ∧ (CW D cy ad τ ν) U.heap)) (rQ (some (.int (zb (isRdy τ ν q))))) 0 0 (fun _ => False) := by
  refine Met.ofW (cc := cX3_isReady) (maxL := 2) (ret := (some .boolean)) (by decide) rfl ?_
  intro p e s m args below meth c s₁ B9 hml hv
  obtain ⟨rfl, hK, hB⟩ := hv
  have hx := B9.exec
  have hb := B9.bytes
  have hr := B9.returns
  have hts := atoms_spec (ws := wsX3_isReady) B9.pre
  have hown : s.vm.findClass RX3 = some m.cls := findClass_of_methodNamed B9.named
  have hlocks := B9.notSynchronized
  have lk111 := hts (.fieldLink RX3 111 "Politecrawl" "tick" "I") (by decide +kernel)
  have inX3 : ∀ w ∈ u_ws RX3 TX3 9, w ∈ wsX3_isReady := by decide +kernel
  have hl := lv_entry ([.ref (ad 0 0), .ref (ad 7 q)]) (n := 2) (Nat.le_of_ble_eq_true rfl)
  rw [lg_entry_eq]
  generalize (lg_sl ([.ref (ad 0 0), .ref (ad 7 q)]) ++ List.replicate (2 - (lg_sl ([.ref (ad 0 0), .ref (ad 7 q)])).length) Slot.unset).toArray = ls at hl ⊢
  have hl : lv_has ls 2 [(0, .ref (ad 0 0)), (1, .ref (ad 7 q))] := hl
  refine lv_aload_n hx hb dX3_isReady_0 rfl (lv_at hl 1 rfl) ?_
  refine g_csr (va_runV (As := []) (rest := []) ⟨hx, hb, hml, hown, hts⟩ (m_X2_isKept l D cy (ad 7 q) (ad 6 (ν 5 q)) (ad 8 q) (nI q) (τ 15 q) (τ 10 q) (τ 11 q) (τ 12 q) (τ 13 q) (τ 14 q) (τ 25 q)) (cwV 0 hts gX3_isReady_X2_isKept rfl rfl rfl (by decide +kernel) ⟨Nat.le_of_ble_eq_true rfl, Nat.le_of_ble_eq_true rfl⟩) (g_preV (C := RX2) (B := (pPage D (ad 7 q) (ad 6 (ν 5 q)) (ad 8 q) (nI q) (τ 15 q) (τ 10 q) (τ 11 q) (τ 12 q) (τ 13 q) (τ 14 q) (τ 25 q))) hK (hB.page hq) (hB 7 q hq) rfl) rfl rfl hl.1 rfl (lv_room (Nat.le_of_ble_eq_true rfl)) dX3_isReady_1 ⟨Nat.zero_le _, Nat.zero_le _⟩) ?_
  refine lv_if_eq (tgt := 23) hx hb dX3_isReady_4 (by decide) (fun c_4 => ?_) (fun c_4 => ?_)
  · -- 4 t
    refine lv_iconst (v := 0) hx hb dX3_isReady_23 (by decide) ?_
    exact g_zret hx hb hr hlocks rfl dX3_isReady_24 (by rw [isRdy, (zb_0.mp c_4 : keptC τ q = false), Bool.false_and]; rfl)
  · -- 4 f
    refine lv_aload_n hx hb dX3_isReady_7 rfl (lv_at hl 0 rfl) ?_
    refine lv_aload_n hx hb dX3_isReady_8 rfl (lv_at hl 1 rfl) ?_
    refine g_csr (va_runV (As := [.ref (ad 7 q)]) (rest := []) ⟨hx, hb, hml, hown, hts⟩ (m_X3_readyFrom l D cy ad τ ν hI q hq) (cwV 1 hts gX3_isReady_X3_readyFrom rfl rfl rfl (by decide +kernel) ⟨Nat.le_of_ble_eq_true rfl, Nat.le_of_ble_eq_true rfl⟩) (g_preV (C := RX3) (B := (CW D cy ad τ ν)) hK hB (hB 0 0 Nat.zero_lt_one) rfl) rfl rfl hl.1 rfl (lv_room (Nat.le_of_ble_eq_true rfl)) dX3_isReady_9 ⟨Nat.zero_le _, Nat.zero_le _⟩) ?_
    refine lv_aload_n hx hb dX3_isReady_12 rfl (lv_at hl 0 rfl) ?_
    refine g_get (C := RX3) (T := TX3) (N := 9) (ci := 3) (fs := [.ref (ad 1 0), .ref (ad 2 0), .ref (ad 3 0), .int (nI (ν 0 0)), .int (τ 0 0), .int (τ 1 0), .int (τ 2 0), .int (τ 3 0), .int (τ 20 0)]) hx hb hts inX3 hown hK (hB 0 0 Nat.zero_lt_one) rfl 4 (by decide) lk111 rfl rfl dX3_isReady_13 ?_
    refine lv_icmp_gt (tgt := 23) hx hb dX3_isReady_16 (by decide) (fun c_16 => ?_) (fun c_16 => ?_)
    · -- 16 t
      refine lv_iconst (v := 0) hx hb dX3_isReady_23 (by decide) ?_
      exact g_zret hx hb hr hlocks rfl dX3_isReady_24 (by rw [isRdy, (zb_n0.mp c_4 : keptC τ q = true), decide_eq_true c_16]; rfl)
    · -- 16 f
      refine lv_iconst (v := 1) hx hb dX3_isReady_19 (by decide) ?_
      refine lv_goto (tgt := 24) hx hb dX3_isReady_20 (by decide) ?_
      exact g_zret hx hb hr hlocks rfl dX3_isReady_24 (by rw [isRdy, (zb_n0.mp c_4 : keptC τ q = true), decide_eq_false c_16]; rfl)

set_option maxHeartbeats 4000000 in
set_option maxRecDepth 100000 in
/-- goesBefore -/
theorem m_X3_goesBefore (l : Launch) (D : va_G) (cy : Nat → ClassId) (ad : NT) (τ : IT) (ν : NT) (x y : Nat) (hx0 : x < ν 0 0) (hy0 : y < ν 0 0) : Met l yX3_goesBefore wsX3_goesBefore ({ frames := 1, cells := 0, slots := 0, locals := 30 } : Room) (va_Pc [.ref (ad 0 0), .ref (ad 7 x), .ref (ad 7 y)] (fun U => gK D cy U ∧ (CW D cy ad τ ν) U.heap)) (rQ (some (.int (zb (befC τ x y))))) 0 0 (fun _ => False) := by
  refine Met.ofW (cc := cX3_goesBefore) (maxL := 5) (ret := (some .boolean)) (by decide) rfl ?_
  intro p e s m args below meth c s₁ B9 hml hv
  obtain ⟨rfl, hK, hB⟩ := hv
  have hx := B9.exec
  have hb := B9.bytes
  have hr := B9.returns
  have hts := atoms_spec (ws := wsX3_goesBefore) B9.pre
  have hown : s.vm.findClass RX3 = some m.cls := findClass_of_methodNamed B9.named
  have hlocks := B9.notSynchronized
  have lk111 := hts (.fieldLink RX3 111 "Politecrawl" "tick" "I") (by decide +kernel)
  have inX3 : ∀ w ∈ u_ws RX3 TX3 9, w ∈ wsX3_goesBefore := by decide +kernel
  have lk121 := hts (.fieldLink RX3 121 "Politecrawl$Page" "rank" "I") (by decide +kernel)
  have inX2 : ∀ w ∈ u_ws RX2 TX2 10, w ∈ wsX3_goesBefore := by decide +kernel
  have lk100 := hts (.fieldLink RX3 100 "Politecrawl$Page" "number" "I") (by decide +kernel)
  have hl := lv_entry ([.ref (ad 0 0), .ref (ad 7 x), .ref (ad 7 y)]) (n := 5) (Nat.le_of_ble_eq_true rfl)
  rw [lg_entry_eq]
  generalize (lg_sl ([.ref (ad 0 0), .ref (ad 7 x), .ref (ad 7 y)]) ++ List.replicate (5 - (lg_sl ([.ref (ad 0 0), .ref (ad 7 x), .ref (ad 7 y)])).length) Slot.unset).toArray = ls at hl ⊢
  have hl : lv_has ls 5 [(0, .ref (ad 0 0)), (1, .ref (ad 7 x)), (2, .ref (ad 7 y))] := hl
  refine lv_aload_n hx hb dX3_goesBefore_0 rfl (lv_at hl 1 rfl) ?_
  refine lv_aload_n hx hb dX3_goesBefore_1 rfl (lv_at hl 0 rfl) ?_
  refine g_get (C := RX3) (T := TX3) (N := 9) (ci := 3) (fs := [.ref (ad 1 0), .ref (ad 2 0), .ref (ad 3 0), .int (nI (ν 0 0)), .int (τ 0 0), .int (τ 1 0), .int (τ 2 0), .int (τ 3 0), .int (τ 20 0)]) hx hb hts inX3 hown hK (hB 0 0 Nat.zero_lt_one) rfl 4 (by decide) lk111 rfl rfl dX3_goesBefore_2 ?_
  refine g_csr (va_runV (As := [.int (τ 0 0)]) (rest := []) ⟨hx, hb, hml, hown, hts⟩ (m_X2_pressing l D cy (ad 7 x) (ad 6 (ν 5 x)) (ad 8 x) (nI x) (τ 15 x) (τ 10 x) (τ 11 x) (τ 12 x) (τ 13 x) (τ 14 x) (τ 25 x) (τ 0 0)) (cwV 1 hts gX3_goesBefore_X2_pressing rfl rfl rfl (by decide +kernel) ⟨Nat.le_of_ble_eq_true rfl, Nat.le_of_ble_eq_true rfl⟩) (g_preV (C := RX2) (B := (pPage D (ad 7 x) (ad 6 (ν 5 x)) (ad 8 x) (nI x) (τ 15 x) (τ 10 x) (τ 11 x) (τ 12 x) (τ 13 x) (τ 14 x) (τ 25 x))) hK (hB.page hx0) (hB 7 x hx0) rfl) rfl rfl hl.1 rfl (lv_room (Nat.le_of_ble_eq_true rfl)) dX3_goesBefore_5 ⟨Nat.zero_le _, Nat.zero_le _⟩) ?_
  refine lv_istore_n (lv' := [(3, .int (pressC τ x)), (0, .ref (ad 0 0)), (1, .ref (ad 7 x)), (2, .ref (ad 7 y))]) hx hb dX3_goesBefore_8 rfl hl (by decide) rfl (fun ls hl => ?_)
  refine lv_aload_n hx hb dX3_goesBefore_9 rfl (lv_at hl 3 rfl) ?_
  refine lv_aload_n hx hb dX3_goesBefore_10 rfl (lv_at hl 1 rfl) ?_
  refine g_get (C := RX3) (T := TX3) (N := 9) (ci := 3) (fs := [.ref (ad 1 0), .ref (ad 2 0), .ref (ad 3 0), .int (nI (ν 0 0)), .int (τ 0 0), .int (τ 1 0), .int (τ 2 0), .int (τ 3 0), .int (τ 20 0)]) hx hb hts inX3 hown hK (hB 0 0 Nat.zero_lt_one) rfl 4 (by decide) lk111 rfl rfl dX3_goesBefore_11 ?_
  refine g_csr (va_runV (As := [.int (τ 0 0)]) (rest := []) ⟨hx, hb, hml, hown, hts⟩ (m_X2_pressing l D cy (ad 7 y) (ad 6 (ν 5 y)) (ad 8 y) (nI y) (τ 15 y) (τ 10 y) (τ 11 y) (τ 12 y) (τ 13 y) (τ 14 y) (τ 25 y) (τ 0 0)) (cwV 1 hts gX3_goesBefore_X2_pressing rfl rfl rfl (by decide +kernel) ⟨Nat.le_of_ble_eq_true rfl, Nat.le_of_ble_eq_true rfl⟩) (g_preV (C := RX2) (B := (pPage D (ad 7 y) (ad 6 (ν 5 y)) (ad 8 y) (nI y) (τ 15 y) (τ 10 y) (τ 11 y) (τ 12 y) (τ 13 y) (τ 14 y) (τ 25 y))) hK (hB.page hy0) (hB 7 y hy0) rfl) rfl rfl hl.1 rfl (lv_room (Nat.le_of_ble_eq_true rfl)) dX3_goesBefore_14 ⟨Nat.zero_le _, Nat.zero_le _⟩) ?_
  refine lv_istore (lv' := [(4, .int (pressC τ y)), (3, .int (pressC τ x)), (0, .ref (ad 0 0)), (1, .ref (ad 7 x)), (2, .ref (ad 7 y))]) hx hb dX3_goesBefore_17 hl (by decide) rfl (fun ls hl => ?_)
  refine lv_iload_n hx hb dX3_goesBefore_19 rfl (lv_at hl 1 rfl) ?_
  refine lv_iload hx hb dX3_goesBefore_20 (lv_at hl 0 rfl) ?_
  refine lv_icmp_eq (tgt := 37) hx hb dX3_goesBefore_22 (by decide) (fun c_22 => ?_) (fun c_22 => ?_)
  · -- 22 t
    refine lv_aload_n hx hb dX3_goesBefore_37 rfl (lv_at hl 3 rfl) ?_
    refine g_get (C := RX2) (T := TX2) (N := 10) (ci := 2) (fs := [.int (nI x), .ref (ad 6 (ν 5 x)), .ref (ad 8 x), .int (τ 15 x), .int (τ 10 x), .int (τ 11 x), .int (τ 12 x), .int (τ 13 x), .int (τ 14 x), .int (τ 25 x)]) hx hb hts inX2 hown hK (hB 7 x hx0) rfl 4 (by decide) lk121 rfl rfl dX3_goesBefore_38 ?_
    refine lv_aload_n hx hb dX3_goesBefore_41 rfl (lv_at hl 4 rfl) ?_
    refine g_get (C := RX2) (T := TX2) (N := 10) (ci := 2) (fs := [.int (nI y), .ref (ad 6 (ν 5 y)), .ref (ad 8 y), .int (τ 15 y), .int (τ 10 y), .int (τ 11 y), .int (τ 12 y), .int (τ 13 y), .int (τ 14 y), .int (τ 25 y)]) hx hb hts inX2 hown hK (hB 7 y hy0) rfl 4 (by decide) lk121 rfl rfl dX3_goesBefore_42 ?_
    refine lv_icmp_eq (tgt := 65) hx hb dX3_goesBefore_45 (by decide) (fun c_45 => ?_) (fun c_45 => ?_)
    · -- 45 t
      refine lv_aload_n hx hb dX3_goesBefore_65 rfl (lv_at hl 3 rfl) ?_
      refine g_get (C := RX2) (T := TX2) (N := 10) (ci := 2) (fs := [.int (nI x), .ref (ad 6 (ν 5 x)), .ref (ad 8 x), .int (τ 15 x), .int (τ 10 x), .int (τ 11 x), .int (τ 12 x), .int (τ 13 x), .int (τ 14 x), .int (τ 25 x)]) hx hb hts inX2 hown hK (hB 7 x hx0) rfl 0 (by decide) lk100 rfl rfl dX3_goesBefore_66 ?_
      refine lv_aload_n hx hb dX3_goesBefore_69 rfl (lv_at hl 4 rfl) ?_
      refine g_get (C := RX2) (T := TX2) (N := 10) (ci := 2) (fs := [.int (nI y), .ref (ad 6 (ν 5 y)), .ref (ad 8 y), .int (τ 15 y), .int (τ 10 y), .int (τ 11 y), .int (τ 12 y), .int (τ 13 y), .int (τ 14 y), .int (τ 25 y)]) hx hb hts inX2 hown hK (hB 7 y hy0) rfl 0 (by decide) lk100 rfl rfl dX3_goesBefore_70 ?_
      refine lv_icmp_ge (tgt := 80) hx hb dX3_goesBefore_73 (by decide) (fun c_73 => ?_) (fun c_73 => ?_)
      · -- 73 t
        refine lv_iconst (v := 0) hx hb dX3_goesBefore_80 (by decide) ?_
        exact g_zret hx hb hr hlocks rfl dX3_goesBefore_81 (by rw [befC, if_pos c_22, if_pos c_45, decide_eq_false (Int32.not_lt.mpr c_73)]; rfl)
      · -- 73 f
        refine lv_iconst (v := 1) hx hb dX3_goesBefore_76 (by decide) ?_
        refine lv_goto (tgt := 81) hx hb dX3_goesBefore_77 (by decide) ?_
        exact g_zret hx hb hr hlocks rfl dX3_goesBefore_81 (by rw [befC, if_pos c_22, if_pos c_45, decide_eq_true (Int32.not_le.mp c_73)]; rfl)
    · -- 45 f
      refine lv_aload_n hx hb dX3_goesBefore_48 rfl (lv_at hl 3 rfl) ?_
      refine g_get (C := RX2) (T := TX2) (N := 10) (ci := 2) (fs := [.int (nI x), .ref (ad 6 (ν 5 x)), .ref (ad 8 x), .int (τ 15 x), .int (τ 10 x), .int (τ 11 x), .int (τ 12 x), .int (τ 13 x), .int (τ 14 x), .int (τ 25 x)]) hx hb hts inX2 hown hK (hB 7 x hx0) rfl 4 (by decide) lk121 rfl rfl dX3_goesBefore_49 ?_
      refine lv_aload_n hx hb dX3_goesBefore_52 rfl (lv_at hl 4 rfl) ?_
      refine g_get (C := RX2) (T := TX2) (N := 10) (ci := 2) (fs := [.int (nI y), .ref (ad 6 (ν 5 y)), .ref (ad 8 y), .int (τ 15 y), .int (τ 10 y), .int (τ 11 y), .int (τ 12 y), .int (τ 13 y), .int (τ 14 y), .int (τ 25 y)]) hx hb hts inX2 hown hK (hB 7 y hy0) rfl 4 (by decide) lk121 rfl rfl dX3_goesBefore_53 ?_
      refine lv_icmp_le (tgt := 63) hx hb dX3_goesBefore_56 (by decide) (fun c_56 => ?_) (fun c_56 => ?_)
      · -- 56 t
        refine lv_iconst (v := 0) hx hb dX3_goesBefore_63 (by decide) ?_
        exact g_zret hx hb hr hlocks rfl dX3_goesBefore_64 (by rw [befC, if_pos c_22, if_neg c_45, decide_eq_false (Int32.not_lt.mpr c_56)]; rfl)
      · -- 56 f
        refine lv_iconst (v := 1) hx hb dX3_goesBefore_59 (by decide) ?_
        refine lv_goto (tgt := 64) hx hb dX3_goesBefore_60 (by decide) ?_
        exact g_zret hx hb hr hlocks rfl dX3_goesBefore_64 (by rw [befC, if_pos c_22, if_neg c_45, decide_eq_true (Int32.not_le.mp c_56)]; rfl)
  · -- 22 f
    refine lv_iload_n hx hb dX3_goesBefore_25 rfl (lv_at hl 1 rfl) ?_
    refine lv_iload hx hb dX3_goesBefore_26 (lv_at hl 0 rfl) ?_
    refine lv_icmp_le (tgt := 35) hx hb dX3_goesBefore_28 (by decide) (fun c_28 => ?_) (fun c_28 => ?_)
    · -- 28 t
      refine lv_iconst (v := 0) hx hb dX3_goesBefore_35 (by decide) ?_
      exact g_zret hx hb hr hlocks rfl dX3_goesBefore_36 (by rw [befC, if_neg c_22, decide_eq_false (Int32.not_lt.mpr c_28)]; rfl)
    · -- 28 f
      refine lv_iconst (v := 1) hx hb dX3_goesBefore_31 (by decide) ?_
      refine lv_goto (tgt := 36) hx hb dX3_goesBefore_32 (by decide) ?_
      exact g_zret hx hb hr hlocks rfl dX3_goesBefore_36 (by rw [befC, if_neg c_22, decide_eq_true (Int32.not_le.mp c_28)]; rfl)
