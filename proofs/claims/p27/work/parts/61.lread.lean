/-! the law: its world -/
abbrev LT : Type := Nat → Nat → Int64
def cL : Nat → Nat := fun k => if k < 7 then 1 else 0
def lS (k : Nat) : Nat := if k = 0 then 8 else if k = 1 then 9 else if k = 2 then 60 else if k = 3 then 10 else if k = 4 then 12 else if k = 5 then 10 else 12
def eL (cy : Nat → ClassId) (ρ : IT) (κ : LT) : Nat → Nat → va_E := fun k _ => if k < 5 then .inl (cy 1, lS k, .inl (ρ k)) else .inl (cy 5, lS k, .inr (.inl (κ k)))
/-- kinds of rows: 0 q 1 h 2 p 3 u 4 c, of longs 5 a 6 s -/
def LW (D : va_G) (cy : Nat → ClassId) (bd : NT) (ρ : IT) (κ : LT) : Heap → Prop := fun H => wP D cL bd (eL cy ρ κ) H
theorem cL_0 {k i : Nat} (h : i < cL k) : i = 0 ∧ 0 < cL k ∧ k < 7 := by
  unfold cL at h ⊢
  by_cases c : k < 7
  · rw [if_pos c] at h ⊢; omega
  · rw [if_neg c] at h; omega
theorem oA.rowL {D : va_G} {a : Nat} {c : ClassId} {n : Nat} {f g : Nat → Int64} {H : Heap} (h : oA D a (.inl (c, n, .inr (.inl f))) H) (hf : ∀ j, j < n → f j = g j) : oA D a (.inl (c, n, .inr (.inl g))) H := by
  refine Eq.trans h (congrArg some ?_)
  show arrV c n (fun j => Value.long (f j)) = arrV c n (fun j => Value.long (g j))
  have : (fun j : Fin n => Value.long (f j.val)) = (fun j : Fin n => Value.long (g j.val)) := funext fun j => by rw [hf j.val j.isLt]
  simp only [arrV]
  rw [this]
section LWS
variable {D : va_G} {cy : Nat → ClassId} {bd : NT} {ρ : IT} {κ : LT} {H H1 : Heap}
/-- a place of a row of ints is written -/
theorem LW.ist (h : LW D cy bd ρ κ H) (hJ : wJ cL bd) (K : Nat) {q : Nat} {i v : Int32} (hK : K < 5) (hq : i.toNatClampNeg = q) (hc : oA D (bd K 0) (.inl (cy 1, lS K, .inl (upd (ρ K) i.toNatClampNeg v))) H1) (hu : hU (bd K 0) H H1) : LW D cy bd (up2 ρ K q v) κ H1 := by
  have hK7 : 0 < cL K := by unfold cL; rw [if_pos (by omega)]; decide
  refine wP.set h hJ K 0 hK7 (hc.rowI fun j _ => (rfl : _ = upd (ρ K) i.toNatClampNeg v j)) hu ?_ (fun k' i' hi hne => ?_)
  · subst hq
    simp only [eL, if_pos hK]
    congr 4
    funext j
    by_cases e : j = i.toNatClampNeg <;> simp [upd, up2, e]
  · obtain ⟨i0, -, -⟩ := cL_0 hi
    have hk : k' ≠ K := fun e => hne ⟨e, i0⟩
    simp only [eL, up2_row hk]
/-- .. of longs -/
theorem LW.lst (h : LW D cy bd ρ κ H) (hJ : wJ cL bd) (K : Nat) {q : Nat} {i : Int32} {v : Int64} (hK : K = 5 ∨ K = 6) (hq : i.toNatClampNeg = q) (hc : oA D (bd K 0) (.inl (cy 5, lS K, .inr (.inl (vp_updL (κ K) i.toNatClampNeg v)))) H1) (hu : hU (bd K 0) H H1) : LW D cy bd ρ (up2 κ K q v) H1 := by
  have hK7 : 0 < cL K := by unfold cL; rw [if_pos (by omega)]; decide
  have hK5 : ¬ K < 5 := by omega
  refine wP.set h hJ K 0 hK7 hc hu ?_ (fun k' i' hi hne => ?_)
  · subst hq
    simp only [eL, if_neg hK5]
    congr 5
    funext j
    by_cases e : j = i.toNatClampNeg <;> simp [vp_updL, up2, e]
  · obtain ⟨i0, -, -⟩ := cL_0 hi
    have hk : k' ≠ K := fun e => hne ⟨e, i0⟩
    simp only [eL, up2_row hk]
end LWS
abbrev rmI (x y : Int32) : Int32 := x - x / y * y
/-! the law: what is left, what may be visited, the next page, waits -/
def usedQ (q : Nat → Int32) : Int32 := if q 5 = q 0 / 100 then q 4 else 0
def leftQ (q : Nat → Int32) : Int32 := if usedQ q ≤ q 3 then q 3 - usedQ q else 0
def mayQ (ρ : IT) (G : Nat → Nat) (k : Nat) : Bool := decide (ρ 2 (6 * k + 5) = 0) && (!decide (ρ 0 0 < ρ 2 (6 * k + 2)) && (!decide (ρ 0 0 < ρ 1 (3 * G k + 2)) && !decide (leftQ (ρ 0) ≤ 0)))
theorem mayQ_1 {ρ : IT} {G : Nat → Nat} {k : Nat} (h1 : ρ 2 (6 * k + 5) = 0) (h2 : ¬ ρ 0 0 < ρ 2 (6 * k + 2)) (h3 : ¬ ρ 0 0 < ρ 1 (3 * G k + 2)) (h4 : ¬ leftQ (ρ 0) ≤ 0) : (1 : Int32) = zb (mayQ ρ G k) := by
  rw [mayQ, decide_eq_true h1, decide_eq_false h2, decide_eq_false h3, decide_eq_false h4]; rfl
theorem mayQ_0 {ρ : IT} {G : Nat → Nat} {k : Nat} (h : ¬ ρ 2 (6 * k + 5) = 0 ∨ ρ 0 0 < ρ 2 (6 * k + 2) ∨ ρ 0 0 < ρ 1 (3 * G k + 2) ∨ leftQ (ρ 0) ≤ 0) : (0 : Int32) = zb (mayQ ρ G k) := by
  rcases h with h | h | h | h
  · rw [mayQ, decide_eq_false h]; rfl
  · rw [mayQ, decide_eq_true h]; simp [zb]
  · rw [mayQ, decide_eq_true h]; simp [zb]
  · rw [mayQ, decide_eq_true h]; simp [zb]
def offQ (ρ : IT) (k b : Nat) : Int32 := 10 * (ρ 2 (6 * k + 1) - ρ 2 (6 * b + 1)) + ρ 2 (6 * b + 2) - ρ 2 (6 * k + 2)
def btrQ (ρ : IT) (k b : Nat) : Bool := decide (0 < offQ ρ k b) || (decide (offQ ρ k b = 0) && !decide (ρ 2 (6 * k + 1) < ρ 2 (6 * b + 1)))
theorem btrQ_1 {ρ : IT} {k b : Nat} (h : 0 < offQ ρ k b ∨ (offQ ρ k b = 0 ∧ ¬ ρ 2 (6 * k + 1) < ρ 2 (6 * b + 1))) : (1 : Int32) = zb (btrQ ρ k b) := by
  rcases h with h | ⟨h1, h2⟩
  · rw [btrQ, decide_eq_true h]; rfl
  · rw [btrQ, decide_eq_true h1, decide_eq_false h2]; simp [zb]
theorem btrQ_0 {ρ : IT} {k b : Nat} (h0 : ¬ 0 < offQ ρ k b) (h : ¬ offQ ρ k b = 0 ∨ ρ 2 (6 * k + 1) < ρ 2 (6 * b + 1)) : (0 : Int32) = zb (btrQ ρ k b) := by
  rcases h with h | h
  · rw [btrQ, decide_eq_false h0, decide_eq_false h]; rfl
  · rw [btrQ, decide_eq_false h0, decide_eq_true h]; simp [zb]
def btrO (ρ : IT) (k : Nat) : Option Nat → Bool
  | none => true
  | some b => btrQ ρ k b
def nxtQ (ρ : IT) (G : Nat → Nat) : Nat → Option Nat → Option Nat
  | 0, b => b
  | k + 1, b => nxtQ ρ G k (if mayQ ρ G k = true ∧ btrO ρ k b = true then some k else b)
def w1Q (ρ : IT) (G : Nat → Nat) (k : Nat) : Int32 := if ρ 1 (3 * G k + 2) - ρ 0 0 ≤ ρ 2 (6 * k + 2) - ρ 0 0 then ρ 2 (6 * k + 2) - ρ 0 0 else ρ 1 (3 * G k + 2) - ρ 0 0
def w2Q (ρ : IT) (G : Nat → Nat) (k : Nat) : Int32 := if 0 ≤ w1Q ρ G k then w1Q ρ G k else 0
def waitQ (ρ : IT) (G : Nat → Nat) (k : Nat) : Int32 := if leftQ (ρ 0) = 0 ∧ w2Q ρ G k < 100 - rmI (ρ 0 0) 100 then 100 - rmI (ρ 0 0) 100 else w2Q ρ G k
def lstQ (w0 w : Int32) : Int32 := if w0 < 0 ∨ w < w0 then w else w0
def wtQ (ρ : IT) (G : Nat → Nat) : Nat → Int32
  | 0 => -1
  | k + 1 => if ρ 2 (6 * k + 5) = 0 then lstQ (wtQ ρ G k) (waitQ ρ G k) else wtQ ρ G k
def lowQ (v n : Int32) : Int32 := rmI (v &&& 2147483647) n
def adQ (c : Nat → Int32) : Nat → Int64
  | 0 => 0
  | k + 1 => adQ c k * 28 + (c k).toInt64 + 1
def cellQ (xs : Nat → Int32) (L k : Nat) : Int32 := if k < L then xs k else 48119 * (nI k + 27) + 3084711
theorem va_X.alike {b L : Nat} {xs : Nat → Int32} {u U : State} {H : Heap} (h : va_X b L xs u H) (ha : u.vm.Alike U.vm) : va_X b L xs U H := by
  obtain ⟨scr, h1, h2, h3, h4, h5⟩ := h
  exact ⟨scr, h1, State.isArrayOf_alike ha h2, h3, h4, h5⟩
theorem va_X.lt {b L : Nat} {xs : Nat → Int32} {u : State} {H : Heap} (h : va_X b L xs u H) : b < H.size := by
  obtain ⟨scr, h1, -⟩ := h
  exact (Array.getElem?_eq_some_iff.mp h1).1
theorem xs_preS {b L : Nat} {xs : Nat → Int32} {s : State} {H : Heap} {As : List Value} (hX : va_X b L xs s H) : PreS s H (va_Pc As (fun U => va_X b L xs U U.heap)) As :=
  ⟨fun a U g mk q => ⟨q.1, va_X.alike (u := U) (U := U.calling g mk a) q.2 (Vm.Alike.refl U.vm)⟩, fun U hU hW => ⟨rfl, by show va_X b L xs U U.heap; rw [hU]; exact va_X.alike hX hW.alike⟩⟩
theorem ge_of {i n : Nat} (h : nI n ≤ nI i) (hi : i < 1000) (hn : n < 1000) : n ≤ i := (nI_leI (by omega) (by omega)).mp h
theorem lt_of {i n : Nat} (h : ¬ nI n ≤ nI i) (hi : i < 1000) (hn : n < 1000) : i < n := Nat.lt_of_not_le (fun z => h ((nI_leI (by omega) (by omega)).mpr z))
theorem sel_lt {P : Prop} [Decidable P] {i n : Nat} {b : Option Nat} (hi : i < n) (hb : ∀ a, b = some a → a < n) : ∀ a, (if P then some i else b) = some a → a < n := by
  intro a ha
  by_cases cc : P
  · rw [if_pos cc] at ha; cases ha; exact hi
  · rw [if_neg cc] at ha; exact hb a ha
theorem m1_0 {j : Nat} (h : nI j - 1 < 0) (hj : j < 100) : j = 0 := by
  cases j with
  | zero => rfl
  | succ i => rw [nI_pred] at h; exact absurd h (nI_pos (by omega))
theorem m1_s {j : Nat} (h : ¬ nI j - 1 < 0) : ∃ i, j = i + 1 := by
  cases j with
  | zero => exact absurd (by decide) h
  | succ i => exact ⟨i, rfl⟩

set_option maxHeartbeats 4000000 in
set_option maxRecDepth 100000 in
/-- the law: left -/
theorem m_L_left (l : Launch) (D : va_G) (cy : Nat → ClassId) (bd : NT) (ρ : IT) (κ : LT) : Met l yL_left wsL_left ({ frames := 0, cells := 0, slots := 0, locals := 0 } : Room) (va_Pc [.ref (bd 0 0)] (fun U => gK D cy U ∧ (LW D cy bd ρ κ) U.heap)) (rQ (some (.int (leftQ (ρ 0))))) 0 0 (fun _ => False) := by
  refine Met.ofW (cc := cL_left) (maxL := 2) (ret := (some .int)) (by decide) rfl ?_
  intro p e s m args below meth c s₁ B9 hml hv
  obtain ⟨rfl, hK, hB⟩ := hv
  have hx := B9.exec
  have hb := B9.bytes
  have hr := B9.returns
  have hts := atoms_spec (ws := wsL_left) B9.pre
  have hown : s.vm.findClass RL = some m.cls := findClass_of_methodNamed B9.named
  have hlocks := B9.notSynchronized
  have hl := lv_entry ([.ref (bd 0 0)]) (n := 2) (Nat.le_of_ble_eq_true rfl)
  rw [lg_entry_eq]
  generalize (lg_sl ([.ref (bd 0 0)]) ++ List.replicate (2 - (lg_sl ([.ref (bd 0 0)])).length) Slot.unset).toArray = ls at hl ⊢
  have hl : lv_has ls 2 [(0, .ref (bd 0 0))] := hl
  have k_19 : ∀ z1 : Int32, z1 = usedQ (ρ 0) → W p l e (headSpec wsL_left ({ frames := 0, cells := 0, slots := 0, locals := 0 } : Room)).room s m ([.ref (bd 0 0)] : List Value).toArray below meth c s.heap [] 0 0 (MQ below (rQ (some (.int (leftQ (ρ 0))))) ([.ref (bd 0 0)] : List Value).toArray s 0 0 (fun _ => False)) (F0 m 19 ls [.int z1]) := by
    intro z1 ez1
    subst ez1
    refine lv_istore_n (lv' := [(1, .int (usedQ (ρ 0))), (0, .ref (bd 0 0))]) hx hb dL_left_19 rfl hl (by decide) rfl (fun ls hl => ?_)
    refine lv_iload_n hx hb dL_left_20 rfl (lv_at hl 0 rfl) ?_
    refine lv_aload_n hx hb dL_left_21 rfl (lv_at hl 1 rfl) ?_
    refine lv_iconst (v := 3) hx hb dL_left_22 (by decide) ?_
    refine g_iald (f := ρ 0) (x := ρ 0 3) hx hb hK (hB 0 0 Nat.zero_lt_one) (vp_in_nI (n := 3) (N := 8) (by decide) (by decide)) (congrArg (ρ 0) (cl_nI (n := 3) (by decide))) dL_left_23 ?_
    refine lv_icmp_le (tgt := 31) hx hb dL_left_24 (by decide) (fun c_24 => ?_) (fun c_24 => ?_)
    · -- 24 t
      refine lv_aload_n hx hb dL_left_31 rfl (lv_at hl 1 rfl) ?_
      refine lv_iconst (v := 3) hx hb dL_left_32 (by decide) ?_
      refine g_iald (f := ρ 0) (x := ρ 0 3) hx hb hK (hB 0 0 Nat.zero_lt_one) (vp_in_nI (n := 3) (N := 8) (by decide) (by decide)) (congrArg (ρ 0) (cl_nI (n := 3) (by decide))) dL_left_33 ?_
      refine lv_iload_n hx hb dL_left_34 rfl (lv_at hl 0 rfl) ?_
      refine lv_isub hx hb dL_left_35 ?_
      exact g_iret hx hb hr hlocks dL_left_36 (by rw [leftQ, if_pos c_24])
    · -- 24 f
      refine lv_iconst (v := 0) hx hb dL_left_27 (by decide) ?_
      refine lv_goto (tgt := 36) hx hb dL_left_28 (by decide) ?_
      exact g_iret hx hb hr hlocks dL_left_36 (by rw [leftQ, if_neg c_24])
  refine lv_aload_n hx hb dL_left_0 rfl (lv_at hl 0 rfl) ?_
  refine lv_iconst (v := 5) hx hb dL_left_1 (by decide) ?_
  refine g_iald (f := ρ 0) (x := ρ 0 5) hx hb hK (hB 0 0 Nat.zero_lt_one) (vp_in_nI (n := 5) (N := 8) (by decide) (by decide)) (congrArg (ρ 0) (cl_nI (n := 5) (by decide))) dL_left_2 ?_
  refine lv_aload_n hx hb dL_left_3 rfl (lv_at hl 0 rfl) ?_
  refine lv_iconst (v := 0) hx hb dL_left_4 (by decide) ?_
  refine g_iald (f := ρ 0) (x := ρ 0 0) hx hb hK (hB 0 0 Nat.zero_lt_one) (vp_in_nI (n := 0) (N := 8) (by decide) (by decide)) (congrArg (ρ 0) (cl_nI (n := 0) (by decide))) dL_left_5 ?_
  refine lv_bipush (v := 100) hx hb dL_left_6 (by decide) ?_
  refine lv_idiv hx hb dL_left_8 (by decide) ?_
  refine lv_icmp_ne (tgt := 18) hx hb dL_left_9 (by decide) (fun c_9 => ?_) (fun c_9 => ?_)
  · -- 9 t
    refine lv_iconst (v := 0) hx hb dL_left_18 (by decide) ?_
    exact k_19 _ (by rw [usedQ, if_neg c_9])
  · -- 9 f
    refine lv_aload_n hx hb dL_left_12 rfl (lv_at hl 0 rfl) ?_
    refine lv_iconst (v := 4) hx hb dL_left_13 (by decide) ?_
    refine g_iald (f := ρ 0) (x := ρ 0 4) hx hb hK (hB 0 0 Nat.zero_lt_one) (vp_in_nI (n := 4) (N := 8) (by decide) (by decide)) (congrArg (ρ 0) (cl_nI (n := 4) (by decide))) dL_left_14 ?_
    refine lv_goto (tgt := 19) hx hb dL_left_15 (by decide) ?_
    exact k_19 _ (by rw [usedQ, if_pos c_9])

set_option maxHeartbeats 4000000 in
set_option maxRecDepth 100000 in
/-- the law: may -/
theorem m_L_may (l : Launch) (D : va_G) (cy : Nat → ClassId) (bd : NT) (ρ : IT) (κ : LT) (n : Nat) (G : Nat → Nat) (hn : n ≤ 10) (hG : ∀ k, k < n → ρ 2 (6 * k) = nI (G k) ∧ G k < 3) (k : Nat) (hk : k < n) : Met l yL_may wsL_may ({ frames := 1, cells := 0, slots := 0, locals := 40 } : Room) (va_Pc [.int (nI k), .ref (bd 2 0), .ref (bd 1 0), .ref (bd 0 0)] (fun U => gK D cy U ∧ (LW D cy bd ρ κ) U.heap)) (rQ (some (.int (zb (mayQ ρ G k))))) 0 0 (fun _ => False) := by
  refine Met.ofW (cc := cL_may) (maxL := 4) (ret := (some .boolean)) (by decide) rfl ?_
  intro p e s m args below meth c s₁ B9 hml hv
  obtain ⟨rfl, hK, hB⟩ := hv
  have hx := B9.exec
  have hb := B9.bytes
  have hr := B9.returns
  have hts := atoms_spec (ws := wsL_may) B9.pre
  have hown : s.vm.findClass RL = some m.cls := findClass_of_methodNamed B9.named
  have hlocks := B9.notSynchronized
  have hl := lv_entry ([.int (nI k), .ref (bd 2 0), .ref (bd 1 0), .ref (bd 0 0)]) (n := 4) (Nat.le_of_ble_eq_true rfl)
  rw [lg_entry_eq]
  generalize (lg_sl ([.int (nI k), .ref (bd 2 0), .ref (bd 1 0), .ref (bd 0 0)]) ++ List.replicate (4 - (lg_sl ([.int (nI k), .ref (bd 2 0), .ref (bd 1 0), .ref (bd 0 0)])).length) Slot.unset).toArray = ls at hl ⊢
  have hl : lv_has ls 4 [(0, .int (nI k)), (1, .ref (bd 2 0)), (2, .ref (bd 1 0)), (3, .ref (bd 0 0))] := hl
  obtain ⟨hg1, hg2⟩ := hG k hk
  refine lv_aload_n hx hb dL_may_0 rfl (lv_at hl 1 rfl) ?_
  refine lv_bipush (v := 6) hx hb dL_may_1 (by decide) ?_
  refine lv_iload_n hx hb dL_may_3 rfl (lv_at hl 0 rfl) ?_
  refine lv_imul hx hb dL_may_4 ?_
  refine lv_topi (fun y1 ey1 => ?_)
  obtain rfl : y1 = nI (6 * k) := ey1.trans (pk_mul 6 k)
  refine lv_iconst (v := 5) hx hb dL_may_5 (by decide) ?_
  refine lv_iadd hx hb dL_may_6 ?_
  refine lv_topi (fun y2 ey2 => ?_)
  obtain rfl : y2 = nI ((6 * k) + 5) := ey2.trans (nI_add (6 * k) 5)
  refine g_iald (f := ρ 2) (x := ρ 2 ((6 * k) + 5)) hx hb hK (hB 2 0 Nat.zero_lt_one) (vp_in_nI (n := (6 * k) + 5) (N := 60) (by omega) (by decide)) (congrArg (ρ 2) (cl_nI (n := (6 * k) + 5) (by omega))) dL_may_7 ?_
  refine lv_if_ne (tgt := 54) hx hb dL_may_8 (by decide) (fun c_8 => ?_) (fun c_8 => ?_)
  · -- 8 t
    refine lv_iconst (v := 0) hx hb dL_may_54 (by decide) ?_
    exact g_zret hx hb hr hlocks rfl dL_may_55 (mayQ_0 (Or.inl c_8))
  · -- 8 f
    refine lv_aload_n hx hb dL_may_11 rfl (lv_at hl 1 rfl) ?_
    refine lv_bipush (v := 6) hx hb dL_may_12 (by decide) ?_
    refine lv_iload_n hx hb dL_may_14 rfl (lv_at hl 0 rfl) ?_
    refine lv_imul hx hb dL_may_15 ?_
    refine lv_topi (fun y3 ey3 => ?_)
    obtain rfl : y3 = nI (6 * k) := ey3.trans (pk_mul 6 k)
    refine lv_iconst (v := 2) hx hb dL_may_16 (by decide) ?_
    refine lv_iadd hx hb dL_may_17 ?_
    refine lv_topi (fun y4 ey4 => ?_)
    obtain rfl : y4 = nI ((6 * k) + 2) := ey4.trans (nI_add (6 * k) 2)
    refine g_iald (f := ρ 2) (x := ρ 2 ((6 * k) + 2)) hx hb hK (hB 2 0 Nat.zero_lt_one) (vp_in_nI (n := (6 * k) + 2) (N := 60) (by omega) (by decide)) (congrArg (ρ 2) (cl_nI (n := (6 * k) + 2) (by omega))) dL_may_18 ?_
    refine lv_aload_n hx hb dL_may_19 rfl (lv_at hl 3 rfl) ?_
    refine lv_iconst (v := 0) hx hb dL_may_20 (by decide) ?_
    refine g_iald (f := ρ 0) (x := ρ 0 0) hx hb hK (hB 0 0 Nat.zero_lt_one) (vp_in_nI (n := 0) (N := 8) (by decide) (by decide)) (congrArg (ρ 0) (cl_nI (n := 0) (by decide))) dL_may_21 ?_
    refine lv_icmp_gt (tgt := 54) hx hb dL_may_22 (by decide) (fun c_22 => ?_) (fun c_22 => ?_)
    · -- 22 t
      refine lv_iconst (v := 0) hx hb dL_may_54 (by decide) ?_
      exact g_zret hx hb hr hlocks rfl dL_may_55 (mayQ_0 (Or.inr (Or.inl c_22)))
    · -- 22 f
      refine lv_aload_n hx hb dL_may_25 rfl (lv_at hl 2 rfl) ?_
      refine lv_iconst (v := 3) hx hb dL_may_26 (by decide) ?_
      refine lv_aload_n hx hb dL_may_27 rfl (lv_at hl 1 rfl) ?_
      refine lv_bipush (v := 6) hx hb dL_may_28 (by decide) ?_
      refine lv_iload_n hx hb dL_may_30 rfl (lv_at hl 0 rfl) ?_
      refine lv_imul hx hb dL_may_31 ?_
      refine lv_topi (fun y5 ey5 => ?_)
      obtain rfl : y5 = nI (6 * k) := ey5.trans (pk_mul 6 k)
      refine g_iald (f := ρ 2) (x := nI (G k)) hx hb hK (hB 2 0 Nat.zero_lt_one) (vp_in_nI (n := 6 * k) (N := 60) (by omega) (by decide)) ((congrArg (ρ 2) (cl_nI (n := 6 * k) (by omega))).trans (hG k (by omega)).1) dL_may_32 ?_
      refine lv_imul hx hb dL_may_33 ?_
      refine lv_topi (fun y6 ey6 => ?_)
      obtain rfl : y6 = nI (3 * (G k)) := ey6.trans (pk_mul 3 (G k))
      refine lv_iconst (v := 2) hx hb dL_may_34 (by decide) ?_
      refine lv_iadd hx hb dL_may_35 ?_
      refine lv_topi (fun y7 ey7 => ?_)
      obtain rfl : y7 = nI ((3 * (G k)) + 2) := ey7.trans (nI_add (3 * (G k)) 2)
      refine g_iald (f := ρ 1) (x := ρ 1 ((3 * (G k)) + 2)) hx hb hK (hB 1 0 Nat.zero_lt_one) (vp_in_nI (n := (3 * (G k)) + 2) (N := 9) (by omega) (by decide)) (congrArg (ρ 1) (cl_nI (n := (3 * (G k)) + 2) (by omega))) dL_may_36 ?_
      refine lv_aload_n hx hb dL_may_37 rfl (lv_at hl 3 rfl) ?_
      refine lv_iconst (v := 0) hx hb dL_may_38 (by decide) ?_
      refine g_iald (f := ρ 0) (x := ρ 0 0) hx hb hK (hB 0 0 Nat.zero_lt_one) (vp_in_nI (n := 0) (N := 8) (by decide) (by decide)) (congrArg (ρ 0) (cl_nI (n := 0) (by decide))) dL_may_39 ?_
      refine lv_icmp_gt (tgt := 54) hx hb dL_may_40 (by decide) (fun c_40 => ?_) (fun c_40 => ?_)
      · -- 40 t
        refine lv_iconst (v := 0) hx hb dL_may_54 (by decide) ?_
        exact g_zret hx hb hr hlocks rfl dL_may_55 (mayQ_0 (Or.inr (Or.inr (Or.inl c_40))))
      · -- 40 f
        refine lv_aload_n hx hb dL_may_43 rfl (lv_at hl 3 rfl) ?_
        refine g_csr (va_runS (As := [.ref (bd 0 0)]) (rest := []) ⟨hx, hb, hml, hown, hts⟩ (m_L_left l D cy bd ρ κ) (va_cwS 1 hts gL_may_L_left rfl rfl rfl (by decide +kernel) ⟨Nat.le_of_ble_eq_true rfl, Nat.le_of_ble_eq_true rfl⟩) (g_preS (B := (LW D cy bd ρ κ)) hK hB) rfl rfl hl.1 rfl (lv_room (Nat.le_of_ble_eq_true rfl)) dL_may_44 ⟨Nat.zero_le _, Nat.zero_le _⟩) ?_
        refine lv_if_le (tgt := 54) hx hb dL_may_47 (by decide) (fun c_47 => ?_) (fun c_47 => ?_)
        · -- 47 t
          refine lv_iconst (v := 0) hx hb dL_may_54 (by decide) ?_
          exact g_zret hx hb hr hlocks rfl dL_may_55 (mayQ_0 (Or.inr (Or.inr (Or.inr c_47))))
        · -- 47 f
          refine lv_iconst (v := 1) hx hb dL_may_50 (by decide) ?_
          refine lv_goto (tgt := 55) hx hb dL_may_51 (by decide) ?_
          exact g_zret hx hb hr hlocks rfl dL_may_55 (mayQ_1 c_8 c_22 c_40 c_47)

set_option maxHeartbeats 4000000 in
set_option maxRecDepth 100000 in
/-- the law: next -/
theorem m_L_next (l : Launch) (D : va_G) (cy : Nat → ClassId) (bd : NT) (ρ : IT) (κ : LT) (n : Nat) (G : Nat → Nat) (hn : n ≤ 10) (hG : ∀ k, k < n → ρ 2 (6 * k) = nI (G k) ∧ G k < 3) (h6 : ρ 0 6 = nI n) : Met l yL_next wsL_next ({ frames := 2, cells := 0, slots := 0, locals := 80 } : Room) (va_Pc [.ref (bd 2 0), .ref (bd 1 0), .ref (bd 0 0)] (fun U => gK D cy U ∧ (LW D cy bd ρ κ) U.heap)) (rQ (some (.int (numO (nxtQ ρ G n none))))) 0 0 (fun _ => False) := by
  refine Met.ofW (cc := cL_next) (maxL := 7) (ret := (some .int)) (by decide) rfl ?_
  intro p e s m args below meth c s₁ B9 hml hv
  obtain ⟨rfl, hK, hB⟩ := hv
  have hx := B9.exec
  have hb := B9.bytes
  have hr := B9.returns
  have hts := atoms_spec (ws := wsL_next) B9.pre
  have hown : s.vm.findClass RL = some m.cls := findClass_of_methodNamed B9.named
  have hlocks := B9.notSynchronized
  have hl := lv_entry ([.ref (bd 2 0), .ref (bd 1 0), .ref (bd 0 0)]) (n := 7) (Nat.le_of_ble_eq_true rfl)
  rw [lg_entry_eq]
  generalize (lg_sl ([.ref (bd 2 0), .ref (bd 1 0), .ref (bd 0 0)]) ++ List.replicate (7 - (lg_sl ([.ref (bd 2 0), .ref (bd 1 0), .ref (bd 0 0)])).length) Slot.unset).toArray = ls at hl ⊢
  have hl : lv_has ls 7 [(0, .ref (bd 2 0)), (1, .ref (bd 1 0)), (2, .ref (bd 0 0))] := hl
  refine lv_iconst (v := (-1)) hx hb dL_next_0 (by decide) ?_
  refine lv_istore_n (lv' := [(3, .int (-1)), (0, .ref (bd 2 0)), (1, .ref (bd 1 0)), (2, .ref (bd 0 0))]) hx hb dL_next_1 rfl hl (by decide) rfl (fun ls hl => ?_)
  refine lv_aload_n hx hb dL_next_2 rfl (lv_at hl 3 rfl) ?_
  refine lv_bipush (v := 6) hx hb dL_next_3 (by decide) ?_
  refine g_iald (f := ρ 0) (x := nI n) hx hb hK (hB 0 0 Nat.zero_lt_one) (vp_in_nI (n := 6) (N := 8) (by decide) (by decide)) ((congrArg (ρ 0) (cl_nI (n := 6) (by decide))).trans h6) dL_next_5 ?_
  refine lv_iconst (v := 1) hx hb dL_next_6 (by decide) ?_
  refine lv_isub hx hb dL_next_7 ?_
  refine lv_istore (lv' := [(4, .int ((nI n) - 1)), (3, .int (-1)), (0, .ref (bd 2 0)), (1, .ref (bd 1 0)), (2, .ref (bd 0 0))]) hx hb dL_next_8 hl (by decide) rfl (fun ls hl => ?_)
  have loop : ∀ (k : Nat) (j : Nat) (b : Option Nat) (ls : Array Slot), j < k → j ≤ n → (∀ a, b = some a → a < n) → nxtQ ρ G j b = nxtQ ρ G n none → lv_has ls 7 [(0, .ref (bd 2 0)), (1, .ref (bd 1 0)), (2, .ref (bd 0 0)), (3, .int (numO b)), (4, .int (nI j - 1))] → W p l e (headSpec wsL_next ({ frames := 2, cells := 0, slots := 0, locals := 80 } : Room)).room s m ([.ref (bd 2 0), .ref (bd 1 0), .ref (bd 0 0)] : List Value).toArray below meth c s.heap [] 0 0 (MQ below (rQ (some (.int (numO (nxtQ ρ G n none))))) ([.ref (bd 2 0), .ref (bd 1 0), .ref (bd 0 0)] : List Value).toArray s 0 0 (fun _ => False)) (F0 m 10 ls []) := by
    intro k
    induction k with
    | zero => intro j b ls hjk hjn hbo hR hl; exfalso; omega
    | succ k loop_ih =>
      intro j b ls hjk hjn hbo hR hl
      refine lv_iload hx hb dL_next_10 (lv_at hl 4 rfl) ?_
      refine lv_if_lt (tgt := 135) hx hb dL_next_12 (by decide) (fun c_12 => ?_) (fun c_12 => ?_)
      · -- 12 t
        obtain rfl : j = 0 := m1_0 c_12 (by omega)
        refine lv_iload_n hx hb dL_next_135 rfl (lv_at hl 3 rfl) ?_
        exact g_iret hx hb hr hlocks dL_next_136 (by rw [← hR]; rfl)
      · -- 12 f
        obtain ⟨i, rfl⟩ := m1_s c_12
        rw [nI_pred] at hl
        cases b with
        | none =>
          have hl : lv_has ls 7 [(0, .ref (bd 2 0)), (1, .ref (bd 1 0)), (2, .ref (bd 0 0)), (3, .int (-1)), (4, .int (nI i))] := hl
          refine lv_iload_n hx hb dL_next_15 rfl (lv_at hl 3 rfl) ?_
          refine lv_if_ge (tgt := 23) hx hb dL_next_16 (by decide) (fun c_16 => ?_) (fun c_16 => ?_)
          · exact absurd c_16 (by decide)
          · -- 16 f
            refine lv_iconst (v := 0) hx hb dL_next_19 (by decide) ?_
            refine lv_goto (tgt := 63) hx hb dL_next_20 (by decide) ?_
            refine lv_istore (lv' := [(5, .int 0), (0, .ref (bd 2 0)), (1, .ref (bd 1 0)), (2, .ref (bd 0 0)), (3, .int (-1)), (4, .int (nI i))]) hx hb dL_next_63 hl (by decide) rfl (fun ls hl => ?_)
            refine lv_iload_n hx hb dL_next_65 rfl (lv_at hl 4 rfl) ?_
            refine lv_if_lt (tgt := 99) hx hb dL_next_66 (by decide) (fun c_66 => ?_) (fun c_66 => ?_)
            · -- 66 t
              refine lv_iconst (v := 1) hx hb dL_next_99 (by decide) ?_
              refine lv_goto (tgt := 104) hx hb dL_next_100 (by decide) ?_
              refine lv_istore (lv' := [(6, .int 1), (5, .int 0), (0, .ref (bd 2 0)), (1, .ref (bd 1 0)), (2, .ref (bd 0 0)), (3, .int (-1)), (4, .int (nI i))]) hx hb dL_next_104 hl (by decide) rfl (fun ls hl => ?_)
              have k_128 : ∀ z1 : Int32, z1 = numO (if mayQ ρ G i = true ∧ btrO ρ i none = true then some i else none) → W p l e (headSpec wsL_next ({ frames := 2, cells := 0, slots := 0, locals := 80 } : Room)).room s m ([.ref (bd 2 0), .ref (bd 1 0), .ref (bd 0 0)] : List Value).toArray below meth c s.heap [] 0 0 (MQ below (rQ (some (.int (numO (nxtQ ρ G n none))))) ([.ref (bd 2 0), .ref (bd 1 0), .ref (bd 0 0)] : List Value).toArray s 0 0 (fun _ => False)) (F0 m 128 ls [.int z1]) := by
                intro z1 ez1
                subst ez1
                refine lv_istore_n (lv' := [(3, .int (numO (if mayQ ρ G i = true ∧ btrO ρ i none = true then some i else none))), (6, .int 1), (5, .int 0), (0, .ref (bd 2 0)), (1, .ref (bd 1 0)), (2, .ref (bd 0 0)), (4, .int (nI i))]) hx hb dL_next_128 rfl hl (by decide) rfl (fun ls hl => ?_)
                refine lv_iinc (v := nI i - 1) (lv' := [(4, .int (nI i - 1)), (3, .int (numO (if mayQ ρ G i = true ∧ btrO ρ i none = true then some i else none))), (6, .int 1), (5, .int 0), (0, .ref (bd 2 0)), (1, .ref (bd 1 0)), (2, .ref (bd 0 0))]) hx hb dL_next_129 hl (k := 6) rfl ((Int32.sub_eq_add_neg (nI i) 1).symm) (by decide) rfl (fun ls hl => ?_)
                refine lv_goto (tgt := 10) hx hb dL_next_132 (by decide) ?_
                exact loop_ih i (if mayQ ρ G i = true ∧ btrO ρ i none = true then some i else none) ls (by omega) (by omega) (sel_lt (by omega) hbo) (by rw [← hR, nxtQ]) (lv_sub hl [4, 5, 6, 1, 0] rfl)
              refine lv_iload hx hb dL_next_106 (lv_at hl 6 rfl) ?_
              refine lv_aload_n hx hb dL_next_108 rfl (lv_at hl 2 rfl) ?_
              refine lv_aload_n hx hb dL_next_109 rfl (lv_at hl 3 rfl) ?_
              refine lv_aload_n hx hb dL_next_110 rfl (lv_at hl 4 rfl) ?_
              refine g_csr (va_runS (As := [.int (nI i), .ref (bd 2 0), .ref (bd 1 0), .ref (bd 0 0)]) (rest := []) ⟨hx, hb, hml, hown, hts⟩ (m_L_may l D cy bd ρ κ n G hn hG i (by omega)) (va_cwS 4 hts gL_next_L_may rfl rfl rfl (by decide +kernel) ⟨Nat.le_of_ble_eq_true rfl, Nat.le_of_ble_eq_true rfl⟩) (g_preS (B := (LW D cy bd ρ κ)) hK hB) rfl rfl hl.1 rfl (lv_room (Nat.le_of_ble_eq_true rfl)) dL_next_111 ⟨Nat.zero_le _, Nat.zero_le _⟩) ?_
              refine lv_if_eq (tgt := 127) hx hb dL_next_114 (by decide) (fun c_114 => ?_) (fun c_114 => ?_)
              · -- 114 t
                refine lv_iload_n hx hb dL_next_127 rfl (lv_at hl 5 rfl) ?_
                exact k_128 _ (by rw [if_neg (fun z => by rw [zb_0.mp c_114] at z; cases z.1)]; rfl)
              · -- 114 f
                refine lv_iload hx hb dL_next_117 (lv_at hl 0 rfl) ?_
                refine lv_if_eq (tgt := 127) hx hb dL_next_119 (by decide) (fun c_119 => ?_) (fun c_119 => ?_)
                · exact absurd c_119 (by decide)
                · -- 119 f
                  refine lv_iload hx hb dL_next_122 (lv_at hl 6 rfl) ?_
                  refine lv_goto (tgt := 128) hx hb dL_next_124 (by decide) ?_
                  exact k_128 _ (by rw [if_pos ⟨zb_n0.mp c_114, rfl⟩]; rfl)
            · exact absurd c_66 (by decide)
        | some b =>
          have hl : lv_has ls 7 [(0, .ref (bd 2 0)), (1, .ref (bd 1 0)), (2, .ref (bd 0 0)), (3, .int (nI b)), (4, .int (nI i))] := hl
          have hbn := hbo b rfl
          refine lv_iload_n hx hb dL_next_15 rfl (lv_at hl 3 rfl) ?_
          refine lv_if_ge (tgt := 23) hx hb dL_next_16 (by decide) (fun c_16 => ?_) (fun c_16 => ?_)
          · -- 16 t
            refine lv_bipush (v := 10) hx hb dL_next_23 (by decide) ?_
            refine lv_aload_n hx hb dL_next_25 rfl (lv_at hl 0 rfl) ?_
            refine lv_bipush (v := 6) hx hb dL_next_26 (by decide) ?_
            refine lv_iload hx hb dL_next_28 (lv_at hl 4 rfl) ?_
            refine lv_imul hx hb dL_next_30 ?_
            refine lv_topi (fun y2 ey2 => ?_)
            obtain rfl : y2 = nI (6 * i) := ey2.trans (pk_mul 6 i)
            refine lv_iconst (v := 1) hx hb dL_next_31 (by decide) ?_
            refine lv_iadd hx hb dL_next_32 ?_
            refine lv_topi (fun y3 ey3 => ?_)
            obtain rfl : y3 = nI ((6 * i) + 1) := ey3.trans (nI_add (6 * i) 1)
            refine g_iald (f := ρ 2) (x := ρ 2 ((6 * i) + 1)) hx hb hK (hB 2 0 Nat.zero_lt_one) (vp_in_nI (n := (6 * i) + 1) (N := 60) (by omega) (by decide)) (congrArg (ρ 2) (cl_nI (n := (6 * i) + 1) (by omega))) dL_next_33 ?_
            refine lv_aload_n hx hb dL_next_34 rfl (lv_at hl 0 rfl) ?_
            refine lv_bipush (v := 6) hx hb dL_next_35 (by decide) ?_
            refine lv_iload_n hx hb dL_next_37 rfl (lv_at hl 3 rfl) ?_
            refine lv_imul hx hb dL_next_38 ?_
            refine lv_topi (fun y4 ey4 => ?_)
            obtain rfl : y4 = nI (6 * b) := ey4.trans (pk_mul 6 b)
            refine lv_iconst (v := 1) hx hb dL_next_39 (by decide) ?_
            refine lv_iadd hx hb dL_next_40 ?_
            refine lv_topi (fun y5 ey5 => ?_)
            obtain rfl : y5 = nI ((6 * b) + 1) := ey5.trans (nI_add (6 * b) 1)
            refine g_iald (f := ρ 2) (x := ρ 2 ((6 * b) + 1)) hx hb hK (hB 2 0 Nat.zero_lt_one) (vp_in_nI (n := (6 * b) + 1) (N := 60) (by omega) (by decide)) (congrArg (ρ 2) (cl_nI (n := (6 * b) + 1) (by omega))) dL_next_41 ?_
            refine lv_isub hx hb dL_next_42 ?_
            refine lv_imul hx hb dL_next_43 ?_
            refine lv_aload_n hx hb dL_next_44 rfl (lv_at hl 0 rfl) ?_
            refine lv_bipush (v := 6) hx hb dL_next_45 (by decide) ?_
            refine lv_iload_n hx hb dL_next_47 rfl (lv_at hl 3 rfl) ?_
            refine lv_imul hx hb dL_next_48 ?_
            refine lv_topi (fun y6 ey6 => ?_)
            obtain rfl : y6 = nI (6 * b) := ey6.trans (pk_mul 6 b)
            refine lv_iconst (v := 2) hx hb dL_next_49 (by decide) ?_
            refine lv_iadd hx hb dL_next_50 ?_
            refine lv_topi (fun y7 ey7 => ?_)
            obtain rfl : y7 = nI ((6 * b) + 2) := ey7.trans (nI_add (6 * b) 2)
            refine g_iald (f := ρ 2) (x := ρ 2 ((6 * b) + 2)) hx hb hK (hB 2 0 Nat.zero_lt_one) (vp_in_nI (n := (6 * b) + 2) (N := 60) (by omega) (by decide)) (congrArg (ρ 2) (cl_nI (n := (6 * b) + 2) (by omega))) dL_next_51 ?_
            refine lv_iadd hx hb dL_next_52 ?_
            refine lv_aload_n hx hb dL_next_53 rfl (lv_at hl 0 rfl) ?_
            refine lv_bipush (v := 6) hx hb dL_next_54 (by decide) ?_
            refine lv_iload hx hb dL_next_56 (lv_at hl 4 rfl) ?_
            refine lv_imul hx hb dL_next_58 ?_
            refine lv_topi (fun y8 ey8 => ?_)
            obtain rfl : y8 = nI (6 * i) := ey8.trans (pk_mul 6 i)
            refine lv_iconst (v := 2) hx hb dL_next_59 (by decide) ?_
            refine lv_iadd hx hb dL_next_60 ?_
            refine lv_topi (fun y9 ey9 => ?_)
            obtain rfl : y9 = nI ((6 * i) + 2) := ey9.trans (nI_add (6 * i) 2)
            refine g_iald (f := ρ 2) (x := ρ 2 ((6 * i) + 2)) hx hb hK (hB 2 0 Nat.zero_lt_one) (vp_in_nI (n := (6 * i) + 2) (N := 60) (by omega) (by decide)) (congrArg (ρ 2) (cl_nI (n := (6 * i) + 2) (by omega))) dL_next_61 ?_
            refine lv_isub hx hb dL_next_62 ?_
            refine lv_istore (lv' := [(5, .int (((10 * ((ρ 2 ((6 * i) + 1)) - (ρ 2 ((6 * b) + 1)))) + (ρ 2 ((6 * b) + 2))) - (ρ 2 ((6 * i) + 2)))), (0, .ref (bd 2 0)), (1, .ref (bd 1 0)), (2, .ref (bd 0 0)), (3, .int (nI b)), (4, .int (nI i))]) hx hb dL_next_63 hl (by decide) rfl (fun ls hl => ?_)
            refine lv_iload_n hx hb dL_next_65 rfl (lv_at hl 4 rfl) ?_
            refine lv_if_lt (tgt := 99) hx hb dL_next_66 (by decide) (fun c_66 => ?_) (fun c_66 => ?_)
            · -- 66 t
              exact absurd c_66 (nI_pos (by omega))
            · -- 66 f
              have k_104 : ∀ z10 : Int32, z10 = zb (btrQ ρ i b) → W p l e (headSpec wsL_next ({ frames := 2, cells := 0, slots := 0, locals := 80 } : Room)).room s m ([.ref (bd 2 0), .ref (bd 1 0), .ref (bd 0 0)] : List Value).toArray below meth c s.heap [] 0 0 (MQ below (rQ (some (.int (numO (nxtQ ρ G n none))))) ([.ref (bd 2 0), .ref (bd 1 0), .ref (bd 0 0)] : List Value).toArray s 0 0 (fun _ => False)) (F0 m 104 ls [.int z10]) := by
                intro z10 ez10
                subst ez10
                refine lv_istore (lv' := [(6, .int (zb (btrQ ρ i b))), (5, .int (((10 * ((ρ 2 ((6 * i) + 1)) - (ρ 2 ((6 * b) + 1)))) + (ρ 2 ((6 * b) + 2))) - (ρ 2 ((6 * i) + 2)))), (0, .ref (bd 2 0)), (1, .ref (bd 1 0)), (2, .ref (bd 0 0)), (3, .int (nI b)), (4, .int (nI i))]) hx hb dL_next_104 hl (by decide) rfl (fun ls hl => ?_)
                have k_128 : ∀ z11 : Int32, z11 = numO (if mayQ ρ G i = true ∧ btrO ρ i (some b) = true then some i else (some b)) → W p l e (headSpec wsL_next ({ frames := 2, cells := 0, slots := 0, locals := 80 } : Room)).room s m ([.ref (bd 2 0), .ref (bd 1 0), .ref (bd 0 0)] : List Value).toArray below meth c s.heap [] 0 0 (MQ below (rQ (some (.int (numO (nxtQ ρ G n none))))) ([.ref (bd 2 0), .ref (bd 1 0), .ref (bd 0 0)] : List Value).toArray s 0 0 (fun _ => False)) (F0 m 128 ls [.int z11]) := by
                  intro z11 ez11
                  subst ez11
                  refine lv_istore_n (lv' := [(3, .int (numO (if mayQ ρ G i = true ∧ btrO ρ i (some b) = true then some i else (some b)))), (6, .int (zb (btrQ ρ i b))), (5, .int (((10 * ((ρ 2 ((6 * i) + 1)) - (ρ 2 ((6 * b) + 1)))) + (ρ 2 ((6 * b) + 2))) - (ρ 2 ((6 * i) + 2)))), (0, .ref (bd 2 0)), (1, .ref (bd 1 0)), (2, .ref (bd 0 0)), (4, .int (nI i))]) hx hb dL_next_128 rfl hl (by decide) rfl (fun ls hl => ?_)
                  refine lv_iinc (v := nI i - 1) (lv' := [(4, .int (nI i - 1)), (3, .int (numO (if mayQ ρ G i = true ∧ btrO ρ i (some b) = true then some i else (some b)))), (6, .int (zb (btrQ ρ i b))), (5, .int (((10 * ((ρ 2 ((6 * i) + 1)) - (ρ 2 ((6 * b) + 1)))) + (ρ 2 ((6 * b) + 2))) - (ρ 2 ((6 * i) + 2)))), (0, .ref (bd 2 0)), (1, .ref (bd 1 0)), (2, .ref (bd 0 0))]) hx hb dL_next_129 hl (k := 6) rfl ((Int32.sub_eq_add_neg (nI i) 1).symm) (by decide) rfl (fun ls hl => ?_)
                  refine lv_goto (tgt := 10) hx hb dL_next_132 (by decide) ?_
                  exact loop_ih i (if mayQ ρ G i = true ∧ btrO ρ i (some b) = true then some i else (some b)) ls (by omega) (by omega) (sel_lt (by omega) hbo) (by rw [← hR, nxtQ]) (lv_sub hl [4, 5, 6, 1, 0] rfl)
                refine lv_iload hx hb dL_next_106 (lv_at hl 6 rfl) ?_
                refine lv_aload_n hx hb dL_next_108 rfl (lv_at hl 2 rfl) ?_
                refine lv_aload_n hx hb dL_next_109 rfl (lv_at hl 3 rfl) ?_
                refine lv_aload_n hx hb dL_next_110 rfl (lv_at hl 4 rfl) ?_
                refine g_csr (va_runS (As := [.int (nI i), .ref (bd 2 0), .ref (bd 1 0), .ref (bd 0 0)]) (rest := []) ⟨hx, hb, hml, hown, hts⟩ (m_L_may l D cy bd ρ κ n G hn hG i (by omega)) (va_cwS 4 hts gL_next_L_may rfl rfl rfl (by decide +kernel) ⟨Nat.le_of_ble_eq_true rfl, Nat.le_of_ble_eq_true rfl⟩) (g_preS (B := (LW D cy bd ρ κ)) hK hB) rfl rfl hl.1 rfl (lv_room (Nat.le_of_ble_eq_true rfl)) dL_next_111 ⟨Nat.zero_le _, Nat.zero_le _⟩) ?_
                refine lv_if_eq (tgt := 127) hx hb dL_next_114 (by decide) (fun c_114 => ?_) (fun c_114 => ?_)
                · -- 114 t
                  refine lv_iload_n hx hb dL_next_127 rfl (lv_at hl 5 rfl) ?_
                  exact k_128 _ (by rw [if_neg (fun z => by rw [zb_0.mp c_114] at z; cases z.1)]; rfl)
                · -- 114 f
                  refine lv_iload hx hb dL_next_117 (lv_at hl 0 rfl) ?_
                  refine lv_if_eq (tgt := 127) hx hb dL_next_119 (by decide) (fun c_119 => ?_) (fun c_119 => ?_)
                  · -- 119 t
                    refine lv_iload_n hx hb dL_next_127 rfl (lv_at hl 5 rfl) ?_
                    exact k_128 _ (by rw [if_neg (fun z => by have z2 : btrQ ρ i b = true := z.2; rw [zb_0.mp c_119] at z2; cases z2)]; rfl)
                  · -- 119 f
                    refine lv_iload hx hb dL_next_122 (lv_at hl 6 rfl) ?_
                    refine lv_goto (tgt := 128) hx hb dL_next_124 (by decide) ?_
                    exact k_128 _ (by rw [if_pos ⟨zb_n0.mp c_114, zb_n0.mp c_119⟩]; rfl)
              refine lv_iload hx hb dL_next_69 (lv_at hl 0 rfl) ?_
              refine lv_if_gt (tgt := 99) hx hb dL_next_71 (by decide) (fun c_71 => ?_) (fun c_71 => ?_)
              · -- 71 t
                refine lv_iconst (v := 1) hx hb dL_next_99 (by decide) ?_
                refine lv_goto (tgt := 104) hx hb dL_next_100 (by decide) ?_
                exact k_104 _ (btrQ_1 (Or.inl c_71))
              · -- 71 f
                refine lv_iload hx hb dL_next_74 (lv_at hl 0 rfl) ?_
                refine lv_if_ne (tgt := 103) hx hb dL_next_76 (by decide) (fun c_76 => ?_) (fun c_76 => ?_)
                · -- 76 t
                  refine lv_iconst (v := 0) hx hb dL_next_103 (by decide) ?_
                  exact k_104 _ (btrQ_0 c_71 (Or.inl c_76))
                · -- 76 f
                  refine lv_aload_n hx hb dL_next_79 rfl (lv_at hl 1 rfl) ?_
                  refine lv_bipush (v := 6) hx hb dL_next_80 (by decide) ?_
                  refine lv_iload hx hb dL_next_82 (lv_at hl 5 rfl) ?_
                  refine lv_imul hx hb dL_next_84 ?_
                  refine lv_topi (fun y12 ey12 => ?_)
                  obtain rfl : y12 = nI (6 * i) := ey12.trans (pk_mul 6 i)
                  refine lv_iconst (v := 1) hx hb dL_next_85 (by decide) ?_
                  refine lv_iadd hx hb dL_next_86 ?_
                  refine lv_topi (fun y13 ey13 => ?_)
                  obtain rfl : y13 = nI ((6 * i) + 1) := ey13.trans (nI_add (6 * i) 1)
                  refine g_iald (f := ρ 2) (x := ρ 2 ((6 * i) + 1)) hx hb hK (hB 2 0 Nat.zero_lt_one) (vp_in_nI (n := (6 * i) + 1) (N := 60) (by omega) (by decide)) (congrArg (ρ 2) (cl_nI (n := (6 * i) + 1) (by omega))) dL_next_87 ?_
                  refine lv_aload_n hx hb dL_next_88 rfl (lv_at hl 1 rfl) ?_
                  refine lv_bipush (v := 6) hx hb dL_next_89 (by decide) ?_
                  refine lv_iload_n hx hb dL_next_91 rfl (lv_at hl 4 rfl) ?_
                  refine lv_imul hx hb dL_next_92 ?_
                  refine lv_topi (fun y14 ey14 => ?_)
                  obtain rfl : y14 = nI (6 * b) := ey14.trans (pk_mul 6 b)
                  refine lv_iconst (v := 1) hx hb dL_next_93 (by decide) ?_
                  refine lv_iadd hx hb dL_next_94 ?_
                  refine lv_topi (fun y15 ey15 => ?_)
                  obtain rfl : y15 = nI ((6 * b) + 1) := ey15.trans (nI_add (6 * b) 1)
                  refine g_iald (f := ρ 2) (x := ρ 2 ((6 * b) + 1)) hx hb hK (hB 2 0 Nat.zero_lt_one) (vp_in_nI (n := (6 * b) + 1) (N := 60) (by omega) (by decide)) (congrArg (ρ 2) (cl_nI (n := (6 * b) + 1) (by omega))) dL_next_95 ?_
                  refine lv_icmp_lt (tgt := 103) hx hb dL_next_96 (by decide) (fun c_96 => ?_) (fun c_96 => ?_)
                  · -- 96 t
                    refine lv_iconst (v := 0) hx hb dL_next_103 (by decide) ?_
                    exact k_104 _ (btrQ_0 c_71 (Or.inr c_96))
                  · -- 96 f
                    refine lv_iconst (v := 1) hx hb dL_next_99 (by decide) ?_
                    refine lv_goto (tgt := 104) hx hb dL_next_100 (by decide) ?_
                    exact k_104 _ (btrQ_1 (Or.inr ⟨c_76, c_96⟩))
          · -- 16 f
            exact absurd (nI_pos' (by omega)) c_16
  exact loop (n + 1) n none ls (Nat.lt_succ_self n) (Nat.le_refl n) (fun _ z => nomatch z) rfl (lv_sub hl [2, 3, 4, 1, 0] rfl)

set_option maxHeartbeats 4000000 in
set_option maxRecDepth 100000 in
/-- the law: waiting -/
theorem m_L_waiting (l : Launch) (D : va_G) (cy : Nat → ClassId) (bd : NT) (ρ : IT) (κ : LT) (n : Nat) (G : Nat → Nat) (hn : n ≤ 10) (hG : ∀ k, k < n → ρ 2 (6 * k) = nI (G k) ∧ G k < 3) (h6 : ρ 0 6 = nI n) : Met l yL_waiting wsL_waiting ({ frames := 1, cells := 0, slots := 0, locals := 40 } : Room) (va_Pc [.ref (bd 2 0), .ref (bd 1 0), .ref (bd 0 0)] (fun U => gK D cy U ∧ (LW D cy bd ρ κ) U.heap)) (rQ (some (.int (wtQ ρ G n)))) 0 0 (fun _ => False) := by
  refine Met.ofW (cc := cL_waiting) (maxL := 8) (ret := (some .int)) (by decide) rfl ?_
  intro p e s m args below meth c s₁ B9 hml hv
  obtain ⟨rfl, hK, hB⟩ := hv
  have hx := B9.exec
  have hb := B9.bytes
  have hr := B9.returns
  have hts := atoms_spec (ws := wsL_waiting) B9.pre
  have hown : s.vm.findClass RL = some m.cls := findClass_of_methodNamed B9.named
  have hlocks := B9.notSynchronized
  have hl := lv_entry ([.ref (bd 2 0), .ref (bd 1 0), .ref (bd 0 0)]) (n := 8) (Nat.le_of_ble_eq_true rfl)
  rw [lg_entry_eq]
  generalize (lg_sl ([.ref (bd 2 0), .ref (bd 1 0), .ref (bd 0 0)]) ++ List.replicate (8 - (lg_sl ([.ref (bd 2 0), .ref (bd 1 0), .ref (bd 0 0)])).length) Slot.unset).toArray = ls at hl ⊢
  have hl : lv_has ls 8 [(0, .ref (bd 2 0)), (1, .ref (bd 1 0)), (2, .ref (bd 0 0))] := hl
  refine lv_iconst (v := (-1)) hx hb dL_waiting_0 (by decide) ?_
  refine lv_istore_n (lv' := [(3, .int (-1)), (0, .ref (bd 2 0)), (1, .ref (bd 1 0)), (2, .ref (bd 0 0))]) hx hb dL_waiting_1 rfl hl (by decide) rfl (fun ls hl => ?_)
  refine lv_iconst (v := 0) hx hb dL_waiting_2 (by decide) ?_
  refine lv_istore (lv' := [(4, .int 0), (3, .int (-1)), (0, .ref (bd 2 0)), (1, .ref (bd 1 0)), (2, .ref (bd 0 0))]) hx hb dL_waiting_3 hl (by decide) rfl (fun ls hl => ?_)
  have loop : ∀ (k : Nat) (i : Nat) (ls : Array Slot), n < i + k → i ≤ n → lv_has ls 8 [(0, .ref (bd 2 0)), (1, .ref (bd 1 0)), (2, .ref (bd 0 0)), (3, .int (wtQ ρ G i)), (4, .int (nI i))] → W p l e (headSpec wsL_waiting ({ frames := 1, cells := 0, slots := 0, locals := 40 } : Room)).room s m ([.ref (bd 2 0), .ref (bd 1 0), .ref (bd 0 0)] : List Value).toArray below meth c s.heap [] 0 0 (MQ below (rQ (some (.int (wtQ ρ G n)))) ([.ref (bd 2 0), .ref (bd 1 0), .ref (bd 0 0)] : List Value).toArray s 0 0 (fun _ => False)) (F0 m 5 ls []) := by
    intro k
    induction k with
    | zero => intro i ls hik hin hl; exfalso; omega
    | succ k loop_ih =>
      intro i ls hik hin hl
      refine lv_iload hx hb dL_waiting_5 (lv_at hl 4 rfl) ?_
      refine lv_aload_n hx hb dL_waiting_7 rfl (lv_at hl 2 rfl) ?_
      refine lv_bipush (v := 6) hx hb dL_waiting_8 (by decide) ?_
      refine g_iald (f := ρ 0) (x := nI n) hx hb hK (hB 0 0 Nat.zero_lt_one) (vp_in_nI (n := 6) (N := 8) (by decide) (by decide)) ((congrArg (ρ 0) (cl_nI (n := 6) (by decide))).trans h6) dL_waiting_10 ?_
      refine lv_icmp_ge (tgt := 146) hx hb dL_waiting_11 (by decide) (fun c_11 => ?_) (fun c_11 => ?_)
      · -- 11 t
        obtain rfl : n = i := by have := ge_of c_11 (by omega) (by omega); omega
        refine lv_iload_n hx hb dL_waiting_146 rfl (lv_at hl 3 rfl) ?_
        exact g_iret hx hb hr hlocks dL_waiting_147 rfl
      · -- 11 f
        have hi2 : i < n := lt_of c_11 (by omega) (by omega)
        have hg3 := (hG i hi2).2
        refine lv_aload_n hx hb dL_waiting_14 rfl (lv_at hl 0 rfl) ?_
        refine lv_bipush (v := 6) hx hb dL_waiting_15 (by decide) ?_
        refine lv_iload hx hb dL_waiting_17 (lv_at hl 4 rfl) ?_
        refine lv_imul hx hb dL_waiting_19 ?_
        refine lv_topi (fun y1 ey1 => ?_)
        obtain rfl : y1 = nI (6 * i) := ey1.trans (pk_mul 6 i)
        refine lv_iconst (v := 5) hx hb dL_waiting_20 (by decide) ?_
        refine lv_iadd hx hb dL_waiting_21 ?_
        refine lv_topi (fun y2 ey2 => ?_)
        obtain rfl : y2 = nI ((6 * i) + 5) := ey2.trans (nI_add (6 * i) 5)
        refine g_iald (f := ρ 2) (x := ρ 2 ((6 * i) + 5)) hx hb hK (hB 2 0 Nat.zero_lt_one) (vp_in_nI (n := (6 * i) + 5) (N := 60) (by omega) (by decide)) (congrArg (ρ 2) (cl_nI (n := (6 * i) + 5) (by omega))) dL_waiting_22 ?_
        refine lv_if_ne (tgt := 140) hx hb dL_waiting_23 (by decide) (fun c_23 => ?_) (fun c_23 => ?_)
        · -- 23 t
          rw [show wtQ ρ G i = wtQ ρ G (i + 1) from (by rw [wtQ, if_neg c_23])] at hl
          refine lv_iinc (v := nI (i + 1)) (lv' := [(4, .int (nI (i + 1))), (0, .ref (bd 2 0)), (1, .ref (bd 1 0)), (2, .ref (bd 0 0)), (3, .int (wtQ ρ G (i + 1)))]) hx hb dL_waiting_140 hl (k := 4) rfl (nI_1 _) (by decide) rfl (fun ls hl => ?_)
          refine lv_goto (tgt := 5) hx hb dL_waiting_143 (by decide) ?_
          exact loop_ih (i + 1) ls (by omega) (by omega) (lv_sub hl [1, 2, 3, 4, 0] rfl)
        · -- 23 f
          refine lv_aload_n hx hb dL_waiting_26 rfl (lv_at hl 0 rfl) ?_
          refine lv_bipush (v := 6) hx hb dL_waiting_27 (by decide) ?_
          refine lv_iload hx hb dL_waiting_29 (lv_at hl 4 rfl) ?_
          refine lv_imul hx hb dL_waiting_31 ?_
          refine lv_topi (fun y3 ey3 => ?_)
          obtain rfl : y3 = nI (6 * i) := ey3.trans (pk_mul 6 i)
          refine lv_iconst (v := 2) hx hb dL_waiting_32 (by decide) ?_
          refine lv_iadd hx hb dL_waiting_33 ?_
          refine lv_topi (fun y4 ey4 => ?_)
          obtain rfl : y4 = nI ((6 * i) + 2) := ey4.trans (nI_add (6 * i) 2)
          refine g_iald (f := ρ 2) (x := ρ 2 ((6 * i) + 2)) hx hb hK (hB 2 0 Nat.zero_lt_one) (vp_in_nI (n := (6 * i) + 2) (N := 60) (by omega) (by decide)) (congrArg (ρ 2) (cl_nI (n := (6 * i) + 2) (by omega))) dL_waiting_34 ?_
          refine lv_aload_n hx hb dL_waiting_35 rfl (lv_at hl 2 rfl) ?_
          refine lv_iconst (v := 0) hx hb dL_waiting_36 (by decide) ?_
          refine g_iald (f := ρ 0) (x := ρ 0 0) hx hb hK (hB 0 0 Nat.zero_lt_one) (vp_in_nI (n := 0) (N := 8) (by decide) (by decide)) (congrArg (ρ 0) (cl_nI (n := 0) (by decide))) dL_waiting_37 ?_
          refine lv_isub hx hb dL_waiting_38 ?_
          refine lv_istore (lv' := [(5, .int ((ρ 2 ((6 * i) + 2)) - (ρ 0 0))), (0, .ref (bd 2 0)), (1, .ref (bd 1 0)), (2, .ref (bd 0 0)), (3, .int (wtQ ρ G i)), (4, .int (nI i))]) hx hb dL_waiting_39 hl (by decide) rfl (fun ls hl => ?_)
          refine lv_aload_n hx hb dL_waiting_41 rfl (lv_at hl 2 rfl) ?_
          refine lv_iconst (v := 3) hx hb dL_waiting_42 (by decide) ?_
          refine lv_aload_n hx hb dL_waiting_43 rfl (lv_at hl 1 rfl) ?_
          refine lv_bipush (v := 6) hx hb dL_waiting_44 (by decide) ?_
          refine lv_iload hx hb dL_waiting_46 (lv_at hl 5 rfl) ?_
          refine lv_imul hx hb dL_waiting_48 ?_
          refine lv_topi (fun y5 ey5 => ?_)
          obtain rfl : y5 = nI (6 * i) := ey5.trans (pk_mul 6 i)
          refine g_iald (f := ρ 2) (x := nI (G i)) hx hb hK (hB 2 0 Nat.zero_lt_one) (vp_in_nI (n := 6 * i) (N := 60) (by omega) (by decide)) ((congrArg (ρ 2) (cl_nI (n := 6 * i) (by omega))).trans (hG i (by omega)).1) dL_waiting_49 ?_
          refine lv_imul hx hb dL_waiting_50 ?_
          refine lv_topi (fun y6 ey6 => ?_)
          obtain rfl : y6 = nI (3 * (G i)) := ey6.trans (pk_mul 3 (G i))
          refine lv_iconst (v := 2) hx hb dL_waiting_51 (by decide) ?_
          refine lv_iadd hx hb dL_waiting_52 ?_
          refine lv_topi (fun y7 ey7 => ?_)
          obtain rfl : y7 = nI ((3 * (G i)) + 2) := ey7.trans (nI_add (3 * (G i)) 2)
          refine g_iald (f := ρ 1) (x := ρ 1 ((3 * (G i)) + 2)) hx hb hK (hB 1 0 Nat.zero_lt_one) (vp_in_nI (n := (3 * (G i)) + 2) (N := 9) (by omega) (by decide)) (congrArg (ρ 1) (cl_nI (n := (3 * (G i)) + 2) (by omega))) dL_waiting_53 ?_
          refine lv_aload_n hx hb dL_waiting_54 rfl (lv_at hl 3 rfl) ?_
          refine lv_iconst (v := 0) hx hb dL_waiting_55 (by decide) ?_
          refine g_iald (f := ρ 0) (x := ρ 0 0) hx hb hK (hB 0 0 Nat.zero_lt_one) (vp_in_nI (n := 0) (N := 8) (by decide) (by decide)) (congrArg (ρ 0) (cl_nI (n := 0) (by decide))) dL_waiting_56 ?_
          refine lv_isub hx hb dL_waiting_57 ?_
          refine lv_istore (lv' := [(6, .int ((ρ 1 ((3 * (G i)) + 2)) - (ρ 0 0))), (5, .int ((ρ 2 ((6 * i) + 2)) - (ρ 0 0))), (0, .ref (bd 2 0)), (1, .ref (bd 1 0)), (2, .ref (bd 0 0)), (3, .int (wtQ ρ G i)), (4, .int (nI i))]) hx hb dL_waiting_58 hl (by decide) rfl (fun ls hl => ?_)
          have k_74 : ∀ z8 : Int32, z8 = w1Q ρ G i → W p l e (headSpec wsL_waiting ({ frames := 1, cells := 0, slots := 0, locals := 40 } : Room)).room s m ([.ref (bd 2 0), .ref (bd 1 0), .ref (bd 0 0)] : List Value).toArray below meth c s.heap [] 0 0 (MQ below (rQ (some (.int (wtQ ρ G n)))) ([.ref (bd 2 0), .ref (bd 1 0), .ref (bd 0 0)] : List Value).toArray s 0 0 (fun _ => False)) (F0 m 74 ls [.int z8]) := by
            intro z8 ez8
            subst ez8
            refine lv_istore (lv' := [(5, .int (w1Q ρ G i)), (6, .int ((ρ 1 ((3 * (G i)) + 2)) - (ρ 0 0))), (0, .ref (bd 2 0)), (1, .ref (bd 1 0)), (2, .ref (bd 0 0)), (3, .int (wtQ ρ G i)), (4, .int (nI i))]) hx hb dL_waiting_74 hl (by decide) rfl (fun ls hl => ?_)
            have k_87 : ∀ z9 : Int32, z9 = w2Q ρ G i → W p l e (headSpec wsL_waiting ({ frames := 1, cells := 0, slots := 0, locals := 40 } : Room)).room s m ([.ref (bd 2 0), .ref (bd 1 0), .ref (bd 0 0)] : List Value).toArray below meth c s.heap [] 0 0 (MQ below (rQ (some (.int (wtQ ρ G n)))) ([.ref (bd 2 0), .ref (bd 1 0), .ref (bd 0 0)] : List Value).toArray s 0 0 (fun _ => False)) (F0 m 87 ls [.int z9]) := by
              intro z9 ez9
              subst ez9
              refine lv_istore (lv' := [(5, .int (w2Q ρ G i)), (6, .int ((ρ 1 ((3 * (G i)) + 2)) - (ρ 0 0))), (0, .ref (bd 2 0)), (1, .ref (bd 1 0)), (2, .ref (bd 0 0)), (3, .int (wtQ ρ G i)), (4, .int (nI i))]) hx hb dL_waiting_87 hl (by decide) rfl (fun ls hl => ?_)
              refine lv_bipush (v := 100) hx hb dL_waiting_89 (by decide) ?_
              refine lv_aload_n hx hb dL_waiting_91 rfl (lv_at hl 4 rfl) ?_
              refine lv_iconst (v := 0) hx hb dL_waiting_92 (by decide) ?_
              refine g_iald (f := ρ 0) (x := ρ 0 0) hx hb hK (hB 0 0 Nat.zero_lt_one) (vp_in_nI (n := 0) (N := 8) (by decide) (by decide)) (congrArg (ρ 0) (cl_nI (n := 0) (by decide))) dL_waiting_93 ?_
              refine lv_bipush (v := 100) hx hb dL_waiting_94 (by decide) ?_
              refine lv_irem hx hb dL_waiting_96 (by decide) ?_
              refine lv_isub hx hb dL_waiting_97 ?_
              refine lv_istore (lv' := [(7, .int (100 - (rmI (ρ 0 0) 100))), (5, .int (w2Q ρ G i)), (6, .int ((ρ 1 ((3 * (G i)) + 2)) - (ρ 0 0))), (0, .ref (bd 2 0)), (1, .ref (bd 1 0)), (2, .ref (bd 0 0)), (3, .int (wtQ ρ G i)), (4, .int (nI i))]) hx hb dL_waiting_98 hl (by decide) rfl (fun ls hl => ?_)
              have k_121 : ∀ z10 : Int32, z10 = waitQ ρ G i → W p l e (headSpec wsL_waiting ({ frames := 1, cells := 0, slots := 0, locals := 40 } : Room)).room s m ([.ref (bd 2 0), .ref (bd 1 0), .ref (bd 0 0)] : List Value).toArray below meth c s.heap [] 0 0 (MQ below (rQ (some (.int (wtQ ρ G n)))) ([.ref (bd 2 0), .ref (bd 1 0), .ref (bd 0 0)] : List Value).toArray s 0 0 (fun _ => False)) (F0 m 121 ls [.int z10]) := by
                intro z10 ez10
                subst ez10
                refine lv_istore (lv' := [(5, .int (waitQ ρ G i)), (7, .int (100 - (rmI (ρ 0 0) 100))), (6, .int ((ρ 1 ((3 * (G i)) + 2)) - (ρ 0 0))), (0, .ref (bd 2 0)), (1, .ref (bd 1 0)), (2, .ref (bd 0 0)), (3, .int (wtQ ρ G i)), (4, .int (nI i))]) hx hb dL_waiting_121 hl (by decide) rfl (fun ls hl => ?_)
                have k_139 : ∀ z11 : Int32, z11 = lstQ (wtQ ρ G i) (waitQ ρ G i) → W p l e (headSpec wsL_waiting ({ frames := 1, cells := 0, slots := 0, locals := 40 } : Room)).room s m ([.ref (bd 2 0), .ref (bd 1 0), .ref (bd 0 0)] : List Value).toArray below meth c s.heap [] 0 0 (MQ below (rQ (some (.int (wtQ ρ G n)))) ([.ref (bd 2 0), .ref (bd 1 0), .ref (bd 0 0)] : List Value).toArray s 0 0 (fun _ => False)) (F0 m 139 ls [.int z11]) := by
                  intro z11 ez11
                  subst ez11
                  refine lv_istore_n (lv' := [(3, .int (lstQ (wtQ ρ G i) (waitQ ρ G i))), (5, .int (waitQ ρ G i)), (7, .int (100 - (rmI (ρ 0 0) 100))), (6, .int ((ρ 1 ((3 * (G i)) + 2)) - (ρ 0 0))), (0, .ref (bd 2 0)), (1, .ref (bd 1 0)), (2, .ref (bd 0 0)), (4, .int (nI i))]) hx hb dL_waiting_139 rfl hl (by decide) rfl (fun ls hl => ?_)
                  rw [show lstQ (wtQ ρ G i) (waitQ ρ G i) = wtQ ρ G (i + 1) from (by rw [wtQ, if_pos c_23])] at hl
                  refine lv_iinc (v := nI (i + 1)) (lv' := [(4, .int (nI (i + 1))), (3, .int (wtQ ρ G (i + 1))), (5, .int (waitQ ρ G i)), (7, .int (100 - (rmI (ρ 0 0) 100))), (6, .int ((ρ 1 ((3 * (G i)) + 2)) - (ρ 0 0))), (0, .ref (bd 2 0)), (1, .ref (bd 1 0)), (2, .ref (bd 0 0))]) hx hb dL_waiting_140 hl (k := 7) rfl (nI_1 _) (by decide) rfl (fun ls hl => ?_)
                  refine lv_goto (tgt := 5) hx hb dL_waiting_143 (by decide) ?_
                  exact loop_ih (i + 1) ls (by omega) (by omega) (lv_sub hl [5, 6, 7, 1, 0] rfl)
                refine lv_iload_n hx hb dL_waiting_123 rfl (lv_at hl 6 rfl) ?_
                refine lv_if_lt (tgt := 133) hx hb dL_waiting_124 (by decide) (fun c_124 => ?_) (fun c_124 => ?_)
                · -- 124 t
                  refine lv_iload hx hb dL_waiting_133 (lv_at hl 0 rfl) ?_
                  refine lv_goto (tgt := 139) hx hb dL_waiting_135 (by decide) ?_
                  exact k_139 _ (by rw [lstQ, if_pos (Or.inl c_124)])
                · -- 124 f
                  refine lv_iload hx hb dL_waiting_127 (lv_at hl 0 rfl) ?_
                  refine lv_iload_n hx hb dL_waiting_129 rfl (lv_at hl 6 rfl) ?_
                  refine lv_icmp_ge (tgt := 138) hx hb dL_waiting_130 (by decide) (fun c_130 => ?_) (fun c_130 => ?_)
                  · -- 130 t
                    refine lv_iload_n hx hb dL_waiting_138 rfl (lv_at hl 6 rfl) ?_
                    exact k_139 _ (by rw [lstQ, if_neg (fun z => z.elim c_124 (fun y => absurd y (Int32.not_lt.mpr c_130)))])
                  · -- 130 f
                    refine lv_iload hx hb dL_waiting_133 (lv_at hl 0 rfl) ?_
                    refine lv_goto (tgt := 139) hx hb dL_waiting_135 (by decide) ?_
                    exact k_139 _ (by rw [lstQ, if_pos (Or.inr (Int32.not_le.mp c_130))])
              refine lv_aload_n hx hb dL_waiting_100 rfl (lv_at hl 5 rfl) ?_
              refine g_csr (va_runS (As := [.ref (bd 0 0)]) (rest := []) ⟨hx, hb, hml, hown, hts⟩ (m_L_left l D cy bd ρ κ) (va_cwS 1 hts gL_waiting_L_left rfl rfl rfl (by decide +kernel) ⟨Nat.le_of_ble_eq_true rfl, Nat.le_of_ble_eq_true rfl⟩) (g_preS (B := (LW D cy bd ρ κ)) hK hB) rfl rfl hl.1 rfl (lv_room (Nat.le_of_ble_eq_true rfl)) dL_waiting_101 ⟨Nat.zero_le _, Nat.zero_le _⟩) ?_
              refine lv_if_ne (tgt := 119) hx hb dL_waiting_104 (by decide) (fun c_104 => ?_) (fun c_104 => ?_)
              · -- 104 t
                refine lv_iload hx hb dL_waiting_119 (lv_at hl 1 rfl) ?_
                exact k_121 _ (by rw [waitQ, if_neg (fun z => c_104 z.1)])
              · -- 104 f
                refine lv_iload hx hb dL_waiting_107 (lv_at hl 1 rfl) ?_
                refine lv_iload hx hb dL_waiting_109 (lv_at hl 0 rfl) ?_
                refine lv_icmp_ge (tgt := 119) hx hb dL_waiting_111 (by decide) (fun c_111 => ?_) (fun c_111 => ?_)
                · -- 111 t
                  refine lv_iload hx hb dL_waiting_119 (lv_at hl 1 rfl) ?_
                  exact k_121 _ (by rw [waitQ, if_neg (fun z => absurd z.2 (Int32.not_lt.mpr c_111))])
                · -- 111 f
                  refine lv_iload hx hb dL_waiting_114 (lv_at hl 0 rfl) ?_
                  refine lv_goto (tgt := 121) hx hb dL_waiting_116 (by decide) ?_
                  exact k_121 _ (by rw [waitQ, if_pos ⟨c_104, Int32.not_le.mp c_111⟩])
            refine lv_iload hx hb dL_waiting_76 (lv_at hl 0 rfl) ?_
            refine lv_if_ge (tgt := 85) hx hb dL_waiting_78 (by decide) (fun c_78 => ?_) (fun c_78 => ?_)
            · -- 78 t
              refine lv_iload hx hb dL_waiting_85 (lv_at hl 0 rfl) ?_
              exact k_87 _ (by rw [w2Q, if_pos c_78])
            · -- 78 f
              refine lv_iconst (v := 0) hx hb dL_waiting_81 (by decide) ?_
              refine lv_goto (tgt := 87) hx hb dL_waiting_82 (by decide) ?_
              exact k_87 _ (by rw [w2Q, if_neg c_78])
          refine lv_iload hx hb dL_waiting_60 (lv_at hl 0 rfl) ?_
          refine lv_iload hx hb dL_waiting_62 (lv_at hl 1 rfl) ?_
          refine lv_icmp_le (tgt := 72) hx hb dL_waiting_64 (by decide) (fun c_64 => ?_) (fun c_64 => ?_)
          · -- 64 t
            refine lv_iload hx hb dL_waiting_72 (lv_at hl 1 rfl) ?_
            exact k_74 _ (by rw [w1Q, if_pos c_64])
          · -- 64 f
            refine lv_iload hx hb dL_waiting_67 (lv_at hl 0 rfl) ?_
            refine lv_goto (tgt := 74) hx hb dL_waiting_69 (by decide) ?_
            exact k_74 _ (by rw [w1Q, if_neg c_64])
  exact loop (n + 1) 0 ls (by omega) (Nat.zero_le n) (lv_sub hl [2, 3, 4, 1, 0] rfl)

set_option maxHeartbeats 4000000 in
set_option maxRecDepth 100000 in
/-- the law: low -/
theorem m_L_low (l : Launch) (D : va_G) (cy : Nat → ClassId) (bd : NT) (ρ : IT) (κ : LT) (v n : Int32) (hne : ¬ n = 0) : Met l yL_low wsL_low ({ frames := 0, cells := 0, slots := 0, locals := 0 } : Room) (va_Pc [.int v, .int n] (fun U => gK D cy U ∧ (fun _ => True) U.heap)) (rQ (some (.int (lowQ v n)))) 0 0 (fun _ => False) := by
  refine Met.ofW (cc := cL_low) (maxL := 2) (ret := (some .int)) (by decide) rfl ?_
  intro p e s m args below meth c s₁ B9 hml hv
  obtain ⟨rfl, hK, hB⟩ := hv
  have hx := B9.exec
  have hb := B9.bytes
  have hr := B9.returns
  have hts := atoms_spec (ws := wsL_low) B9.pre
  have hown : s.vm.findClass RL = some m.cls := findClass_of_methodNamed B9.named
  have hlocks := B9.notSynchronized
  have hl := lv_entry ([.int v, .int n]) (n := 2) (Nat.le_of_ble_eq_true rfl)
  rw [lg_entry_eq]
  generalize (lg_sl ([.int v, .int n]) ++ List.replicate (2 - (lg_sl ([.int v, .int n])).length) Slot.unset).toArray = ls at hl ⊢
  have hl : lv_has ls 2 [(0, .int v), (1, .int n)] := hl
  refine lv_iload_n hx hb dL_low_0 rfl (lv_at hl 0 rfl) ?_
  refine lv_ldc (v := 2147483647) hx hb hown (hts (.constant RL 9 (2147483647)) (by decide +kernel)) dL_low_1 ?_
  refine lv_iand hx hb dL_low_3 ?_
  refine lv_iload_n hx hb dL_low_4 rfl (lv_at hl 1 rfl) ?_
  refine lv_irem hx hb dL_low_5 (hne) ?_
  exact g_iret hx hb hr hlocks dL_low_6 rfl

set_option maxHeartbeats 4000000 in
set_option maxRecDepth 100000 in
/-- the law: address -/
theorem m_L_address (l : Launch) (D : va_G) (cy : Nat → ClassId) (bd : NT) (ρ : IT) (κ : LT) (n : Nat) (hn : n ≤ 12) (h7 : ρ 0 7 = nI n) : Met l yL_address wsL_address ({ frames := 0, cells := 0, slots := 0, locals := 0 } : Room) (va_Pc [.ref (bd 4 0), .ref (bd 0 0)] (fun U => gK D cy U ∧ (LW D cy bd ρ κ) U.heap)) (rQ (some (.long (adQ (ρ 4) n)))) 0 0 (fun _ => False) := by
  refine Met.ofW (cc := cL_address) (maxL := 5) (ret := (some .long)) (by decide) rfl ?_
  intro p e s m args below meth c s₁ B9 hml hv
  obtain ⟨rfl, hK, hB⟩ := hv
  have hx := B9.exec
  have hb := B9.bytes
  have hr := B9.returns
  have hts := atoms_spec (ws := wsL_address) B9.pre
  have hown : s.vm.findClass RL = some m.cls := findClass_of_methodNamed B9.named
  have hlocks := B9.notSynchronized
  have hl := lv_entry ([.ref (bd 4 0), .ref (bd 0 0)]) (n := 5) (Nat.le_of_ble_eq_true rfl)
  rw [lg_entry_eq]
  generalize (lg_sl ([.ref (bd 4 0), .ref (bd 0 0)]) ++ List.replicate (5 - (lg_sl ([.ref (bd 4 0), .ref (bd 0 0)])).length) Slot.unset).toArray = ls at hl ⊢
  have hl : lv_has ls 5 [(0, .ref (bd 4 0)), (1, .ref (bd 0 0))] := hl
  refine lv_lconst (v := 0) hx hb dL_address_0 rfl ?_
  refine lv_lstore_n (lv' := [(2, .long 0), (0, .ref (bd 4 0)), (1, .ref (bd 0 0))]) hx hb dL_address_1 rfl hl (by decide) rfl (fun ls hl => ?_)
  refine lv_iconst (v := 0) hx hb dL_address_2 (by decide) ?_
  refine lv_istore (lv' := [(4, .int 0), (2, .long 0), (0, .ref (bd 4 0)), (1, .ref (bd 0 0))]) hx hb dL_address_3 hl (by decide) rfl (fun ls hl => ?_)
  have loop : ∀ (k : Nat) (i : Nat) (ls : Array Slot), n < i + k → i ≤ n → lv_has ls 5 [(0, .ref (bd 4 0)), (1, .ref (bd 0 0)), (2, .long (adQ (ρ 4) i)), (4, .int (nI i))] → W p l e (headSpec wsL_address ({ frames := 0, cells := 0, slots := 0, locals := 0 } : Room)).room s m ([.ref (bd 4 0), .ref (bd 0 0)] : List Value).toArray below meth c s.heap [] 0 0 (MQ below (rQ (some (.long (adQ (ρ 4) n)))) ([.ref (bd 4 0), .ref (bd 0 0)] : List Value).toArray s 0 0 (fun _ => False)) (F0 m 5 ls []) := by
    intro k
    induction k with
    | zero => intro i ls hik hin hl; exfalso; omega
    | succ k loop_ih =>
      intro i ls hik hin hl
      refine lv_iload hx hb dL_address_5 (lv_at hl 3 rfl) ?_
      refine lv_aload_n hx hb dL_address_7 rfl (lv_at hl 1 rfl) ?_
      refine lv_bipush (v := 7) hx hb dL_address_8 (by decide) ?_
      refine g_iald (f := ρ 0) (x := nI n) hx hb hK (hB 0 0 Nat.zero_lt_one) (vp_in_nI (n := 7) (N := 8) (by decide) (by decide)) ((congrArg (ρ 0) (cl_nI (n := 7) (by decide))).trans h7) dL_address_10 ?_
      refine lv_icmp_ge (tgt := 34) hx hb dL_address_11 (by decide) (fun c_11 => ?_) (fun c_11 => ?_)
      · -- 11 t
        obtain rfl : n = i := by have := ge_of c_11 (by omega) (by omega); omega
        refine lv_lload_n hx hb dL_address_34 rfl (lv_at hl 2 rfl) ?_
        exact g_lret hx hb hr hlocks dL_address_35 rfl
      · -- 11 f
        have hi2 : i < n := lt_of c_11 (by omega) (by omega)
        refine lv_lload_n hx hb dL_address_14 rfl (lv_at hl 2 rfl) ?_
        refine lv_ldc2 (v := 28) hx hb hown (hts (.constantLong RL 18 (28)) (by decide +kernel)) dL_address_15 ?_
        refine lv_lmul hx hb dL_address_18 ?_
        refine lv_aload_n hx hb dL_address_19 rfl (lv_at hl 0 rfl) ?_
        refine lv_iload hx hb dL_address_20 (lv_at hl 3 rfl) ?_
        refine g_iald (f := ρ 4) (x := ρ 4 i) hx hb hK (hB 4 0 Nat.zero_lt_one) (vp_in_nI (n := i) (N := 12) (by omega) (by decide)) (congrArg (ρ 4) (cl_nI (n := i) (by omega))) dL_address_22 ?_
        refine lv_i2l hx hb dL_address_23 rfl ?_
        refine lv_ladd hx hb dL_address_24 ?_
        refine lv_lconst (v := 1) hx hb dL_address_25 rfl ?_
        refine lv_ladd hx hb dL_address_26 ?_
        refine lv_lstore_n (lv' := [(2, .long ((((adQ (ρ 4) i) * 28) + ((ρ 4 i).toInt64)) + 1)), (0, .ref (bd 4 0)), (1, .ref (bd 0 0)), (4, .int (nI i))]) hx hb dL_address_27 rfl hl (by decide) rfl (fun ls hl => ?_)
        refine lv_iinc (v := nI (i + 1)) (lv' := [(4, .int (nI (i + 1))), (2, .long ((((adQ (ρ 4) i) * 28) + ((ρ 4 i).toInt64)) + 1)), (0, .ref (bd 4 0)), (1, .ref (bd 0 0))]) hx hb dL_address_28 hl (k := 3) rfl (nI_1 _) (by decide) rfl (fun ls hl => ?_)
        refine lv_goto (tgt := 5) hx hb dL_address_31 (by decide) ?_
        exact loop_ih (i + 1) ls (by omega) (by omega) (lv_sub hl [2, 3, 1, 0] rfl)
  exact loop (n + 1) 0 ls (by omega) (Nat.zero_le n) (lv_sub hl [2, 3, 1, 0] rfl)


set_option maxHeartbeats 4000000 in
set_option maxRecDepth 100000 in
/-- the law: cell -/
theorem m_L_cell (l : Launch) (b L : Nat) (xs : Nat → Int32) (k : Nat) (hk : k < 1000) (hL : L < 1000) : Met l yL_cell wsL_cell ({ frames := 0, cells := 0, slots := 0, locals := 0 } : Room) (va_Pc [.ref b, .int (nI k)] (fun U => va_X b L xs U U.heap)) (rQ (some (.int (cellQ xs L k)))) 0 0 (fun _ => False) := by
  refine Met.ofW (cc := cL_cell) (maxL := 2) (ret := (some .int)) (by decide) rfl ?_
  intro p e s m args below meth c s₁ B9 hml hv
  obtain ⟨rfl, hX⟩ := hv
  have hx := B9.exec
  have hb := B9.bytes
  have hr := B9.returns
  have hts := atoms_spec (ws := wsL_cell) B9.pre
  have hown : s.vm.findClass RL = some m.cls := findClass_of_methodNamed B9.named
  have hlocks := B9.notSynchronized
  have hS : va_S (fun _ => False) s.heap s.heap [] := va_S.rf
  have hl := lv_entry ([.ref b, .int (nI k)]) (n := 2) (Nat.le_of_ble_eq_true rfl)
  rw [lg_entry_eq]
  generalize (lg_sl ([.ref b, .int (nI k)]) ++ List.replicate (2 - (lg_sl ([.ref b, .int (nI k)])).length) Slot.unset).toArray = ls at hl ⊢
  have hl : lv_has ls 2 [(0, .ref b), (1, .int (nI k))] := hl
  refine lv_iload_n hx hb dL_cell_0 rfl (lv_at hl 1 rfl) ?_
  refine lv_aload_n hx hb dL_cell_1 rfl (lv_at hl 0 rfl) ?_
  refine va_slen hx hb hX hX.lt (fun z => z) hS dL_cell_2 ?_
  refine lv_icmp_ge (tgt := 12) hx hb dL_cell_3 (by decide) (fun c_3 => ?_) (fun c_3 => ?_)
  · have h3 : L ≤ k := ge_of c_3 (by omega) (by omega)
    refine lv_ldc (v := 48119) hx hb hown (hts (.constant RL 7 (48119)) (by decide +kernel)) dL_cell_12 ?_
    refine lv_iload_n hx hb dL_cell_14 rfl (lv_at hl 1 rfl) ?_
    refine lv_bipush (v := 27) hx hb dL_cell_15 (by decide) ?_
    refine lv_iadd hx hb dL_cell_17 ?_
    refine lv_imul hx hb dL_cell_18 ?_
    refine lv_ldc (v := 3084711) hx hb hown (hts (.constant RL 8 (3084711)) (by decide +kernel)) dL_cell_19 ?_
    refine lv_iadd hx hb dL_cell_21 ?_
    exact g_iret hx hb hr hlocks dL_cell_22 (by rw [cellQ, if_neg (by omega)])
  · have h3 : k < L := lt_of c_3 (by omega) (by omega)
    refine lv_aload_n hx hb dL_cell_6 rfl (lv_at hl 0 rfl) ?_
    refine lv_iload_n hx hb dL_cell_7 rfl (lv_at hl 1 rfl) ?_
    refine va_sld hx hb hX hX.lt (fun z => z) hS (vp_in_nI h3 (by omega)) dL_cell_8 ?_
    refine lv_goto (tgt := 22) hx hb dL_cell_9 (by decide) ?_
    exact g_iret hx hb hr hlocks dL_cell_22 (by rw [cellQ, if_pos h3, cl_nI (by omega)])
