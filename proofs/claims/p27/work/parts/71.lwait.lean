/-! waits: the law's way, the class's; and how they go on as ticks pass -/
/-- how long a page has to wait -/
def wW (d o t u : Nat) : Nat := max (if u = 0 then 100 * (t / 100 + 1) else t) (max d o) - t
section WTS
variable {ρ : IT} {κ : LT} {τ σ : IT} {ν μ : NT} {n : Nat}
theorem w1_int {d o t : Nat} (hd : d ≤ 200000) (ho : o ≤ 200000) (ht : t ≤ 200000) : (if nI o - nI t ≤ nI d - nI t then nI d - nI t else nI o - nI t).toInt = (max d o : Nat) - (t : Int) := by
  have h1 : (nI d - nI t).toInt = (d : Int) - t := pk_sub_toInt (by omega) (by omega)
  have h2 : (nI o - nI t).toInt = (o : Int) - t := pk_sub_toInt (by omega) (by omega)
  by_cases c : nI o - nI t ≤ nI d - nI t
  · rw [if_pos c, h1]
    rw [Int32.le_iff_toInt_le, h1, h2] at c
    omega
  · rw [if_neg c, h2]
    rw [Int32.le_iff_toInt_le, h1, h2] at c
    omega
theorem w2_nI {x : Int32} {a t : Nat} (ha : a ≤ 200000) (ht : t ≤ 200000) (hx : x.toInt = (a : Int) - t) : (if 0 ≤ x then x else 0) = nI (a - t) := by
  rw [← Int32.toInt_inj, nI_toInt (by omega)]
  by_cases c : 0 ≤ x
  · rw [if_pos c, hx]
    rw [Int32.le_iff_toInt_le, hx, Int32.toInt_zero] at c
    omega
  · rw [if_neg c, Int32.toInt_zero]
    rw [Int32.le_iff_toInt_le, hx, Int32.toInt_zero] at c
    omega
theorem w3_nI {d o t u : Nat} {l x : Int32} (hd : d ≤ 200000) (ho : o ≤ 200000) (ht : t ≤ 200000) (hu : u ≤ 100) (hl : l = nI u) (hx : x = nI (max d o - t)) : (if l = 0 ∧ x < 100 - rmI (nI t) 100 then 100 - rmI (nI t) 100 else x) = nI (wW d o t u) := by
  have hr : (100 : Int32) - rmI (nI t) 100 = nI (100 - t % 100) := by
    have e : rmI (nI t) 100 = nI (t % 100) := pk_rem (d := 100) (by omega) (by decide) (by decide)
    rw [e]
    exact pk_sub (a := 100) (b := t % 100) (by omega)
  have hc : (l = 0 ∧ x < (100 : Int32) - rmI (nI t) 100) ↔ (u = 0 ∧ max d o - t < 100 - t % 100) := by
    rw [hr, hl, hx, nI_ltI (by omega) (by omega), ← nI_0, nI_eq (by omega) (by decide)]
  by_cases c : u = 0 ∧ max d o - t < 100 - t % 100
  · rw [if_pos (hc.mpr c), hr, wW, if_pos c.1]
    congr 1
    omega
  · rw [if_neg (fun z => c (hc.mp z)), hx, wW]
    congr 1
    by_cases e : u = 0
    · rw [if_pos e]
      have := mt (fun z => And.intro e z) c
      omega
    · rw [if_neg e]; omega
/-- what a page's wait stands on -/
theorem LR.wait (h : LR ρ κ σ μ) (R : Rel n τ ν σ μ) {k : Nat} (hk : k < μ 0 0) : ∃ d o t u, d ≤ 110000 ∧ o ≤ 110000 ∧ t ≤ 100000 ∧ u ≤ 100 ∧ σ 11 k = nI d ∧ σ 9 (μ 5 k) = nI o ∧ σ 0 0 = nI t ∧ leftM σ = nI u ∧ waitQ ρ (gP μ) k = nI (wW d o t u) := by
  have hh6 : μ 5 k < 6 := (R.host (by rw [R.n0]; exact hk)).2
  obtain ⟨d, d1, d2⟩ := R.due hk
  obtain ⟨o, o1, o2⟩ := R.opnF hh6
  obtain ⟨t, t1, t2⟩ := R.now
  obtain ⟨-, u, u1, u2⟩ := R.left
  refine ⟨d, o, t, u, d2, o2, t2, u1, d1, o1, t1, u2, ?_⟩
  have hl := h.left R
  obtain ⟨⟨h0, -⟩, -, hh, hpg, -⟩ := h
  obtain ⟨p1, p2, p3, p4, p5, p6, -⟩ := hpg k hk
  have hw1 : (w1Q ρ (gP μ) k).toInt = (max d o : Nat) - (t : Int) := by
    rw [w1Q, p6, (hh _ p2).2.2, ← p3, h0, d1, o1, t1]
    exact w1_int (by omega) (by omega) (by omega)
  have hw2 : w2Q ρ (gP μ) k = nI (max d o - t) := by rw [w2Q]; exact w2_nI (by omega) (by omega) hw1
  rw [waitQ, h0, t1]
  exact w3_nI (by omega) (by omega) (by omega) u1 (by rw [hl]; exact u2) hw2
/-- the class's -/
theorem ready_nI {k d o t u : Nat} (R : Rel n τ ν σ μ) (hk : k < μ 0 0) (d2 : d ≤ 110000) (o2 : o ≤ 110000) (t2 : t ≤ 100000) (u2 : u ≤ 100) (d1 : σ 11 k = nI d) (o1 : σ 9 (μ 5 k) = nI o) (t1 : σ 0 0 = nI t) (u1 : leftM σ = nI u) : readyC τ ν k - τ 0 0 = nI (wW d o t u) := by
  have hk' : k < ν 0 0 := by rw [R.n0]; exact hk
  obtain ⟨b1, b2⟩ := R.host hk'
  have e11 : τ 11 k = σ 11 k := R.eqP (by decide) (by decide) hk'
  have e9 : τ 9 (ν 5 k) = σ 9 (μ 5 k) := by rw [b1]; exact R.eqR (by decide) (by decide)
  have e0 : τ 0 0 = σ 0 0 := R.eq0 (by decide)
  have eu2 : (leftC τ ≤ 0) ↔ u = 0 := by rw [R.left.1, u1, ← nI_0, nI_leI (by omega) (by decide)]; omega
  have er : readyC τ ν k = nI (max (if u = 0 then 100 * (t / 100 + 1) else t) (max d o)) := by
    rw [readyC, e11, e9, d1, o1, mx_nI (by omega) (by omega)]
    by_cases c : u = 0
    · rw [if_pos (eu2.mpr c), if_pos c, spanC, e0, t1, span_nI (by omega), mx_nI (by omega) (by omega)]
    · rw [if_neg (mt eu2.mp c), if_neg c, e0, t1, mx_nI (by omega) (by omega)]
  rw [er, e0, t1, wW, pk_sub]
  by_cases c : u = 0
  · rw [if_pos c]; omega
  · rw [if_neg c]; omega
/-- the least wait of the first i pages: none, or the least of all -/
def wtS (ρ σ : IT) (μ : NT) (i : Nat) : Prop := (wtQ ρ (gP μ) i = -1 ∧ ∀ k, k < i → ¬ keptB (σ 14 k) (σ 15 k) = true) ∨ ∃ x, x ≤ 210000 ∧ wtQ ρ (gP μ) i = nI x ∧ (∃ k, k < i ∧ keptB (σ 14 k) (σ 15 k) = true ∧ waitQ ρ (gP μ) k = nI x) ∧ ∀ k, k < i → keptB (σ 14 k) (σ 15 k) = true → ∃ y, waitQ ρ (gP μ) k = nI y ∧ x ≤ y ∧ y ≤ 210000
theorem wW_le {d o t u : Nat} (hd : d ≤ 110000) (ho : o ≤ 110000) (ht : t ≤ 100000) : wW d o t u ≤ 210000 := by
  rw [wW]
  by_cases c : u = 0
  · rw [if_pos c]; omega
  · rw [if_neg c]; omega
theorem wt_spec (h : LR ρ κ σ μ) (R : Rel n τ ν σ μ) : ∀ i, i ≤ μ 0 0 → wtS ρ σ μ i := by
  intro i
  induction i with
  | zero => intro _; exact Or.inl ⟨rfl, fun k hk => absurd hk (Nat.not_lt_zero k)⟩
  | succ i ih =>
    intro hi
    have ih := ih (by omega)
    have hk := h.kept (p := i) (by omega)
    obtain ⟨d, o, t, u, d2, o2, t2, u2, d1, o1, t1, u1, hw⟩ := h.wait R (k := i) (by omega)
    have hy := wW_le (u := u) d2 o2 t2
    generalize wW d o t u = y at hw hy
    by_cases c : keptB (σ 14 i) (σ 15 i) = true
    · have e : wtQ ρ (gP μ) (i + 1) = lstQ (wtQ ρ (gP μ) i) (waitQ ρ (gP μ) i) := by rw [wtQ, if_pos (hk.mpr c)]
      right
      rcases ih with ⟨h1, h2⟩ | ⟨x, hx, h1, ⟨a, a1, a2, a3⟩, h3⟩
      · refine ⟨y, hy, by rw [e, h1, lstQ, if_pos (Or.inl (by decide)), hw], ⟨i, Nat.lt_succ_self i, c, hw⟩, fun k hk2 ck => ?_⟩
        by_cases q : k = i
        · subst q; exact ⟨y, hw, Nat.le_refl y, hy⟩
        · exact absurd ck (h2 k (by omega))
      · by_cases q : y < x
        · refine ⟨y, hy, by rw [e, h1, hw, lstQ, if_pos (Or.inr ((nI_ltI (by omega) (by omega)).mpr q))], ⟨i, Nat.lt_succ_self i, c, hw⟩, fun k hk2 ck => ?_⟩
          by_cases g : k = i
          · subst g; exact ⟨y, hw, Nat.le_refl y, hy⟩
          · obtain ⟨z, z1, z2, z3⟩ := h3 k (by omega) ck
            exact ⟨z, z1, by omega, z3⟩
        · refine ⟨x, hx, by rw [e, h1, hw, lstQ, if_neg (fun z => z.elim (nI_pos (by omega)) (fun z => q ((nI_ltI (by omega) (by omega)).mp z)))], ⟨a, by omega, a2, a3⟩, fun k hk2 ck => ?_⟩
          by_cases g : k = i
          · subst g; exact ⟨y, hw, by omega, hy⟩
          · exact h3 k (by omega) ck
    · have e : wtQ ρ (gP μ) (i + 1) = wtQ ρ (gP μ) i := by rw [wtQ, if_neg (fun z => c (hk.mp z))]
      rcases ih with ⟨h1, h2⟩ | ⟨x, hx, h1, ⟨a, a1, a2, a3⟩, h3⟩
      · exact Or.inl ⟨by rw [e, h1], fun k hk2 ck => by
          by_cases q : k = i
          · subst q; exact c ck
          · exact h2 k (by omega) ck⟩
      · refine Or.inr ⟨x, hx, by rw [e, h1], ⟨a, by omega, a2, a3⟩, fun k hk2 ck => ?_⟩
        by_cases q : k = i
        · subst q; exact absurd ck c
        · exact h3 k (by omega) ck
theorem waitL_out : ∀ (j i : Nat) (w : Int32), ν 0 0 ≤ i → waitL τ ν j i w = w := by
  intro j
  induction j with
  | zero => intro i w _; rfl
  | succ j ih => intro i w h; rw [waitL, if_neg (fun z => by omega)]; exact ih (i + 1) w (by omega)
/-- the class's least wait is the law's -/
theorem wait_all (h : LR ρ κ σ μ) (R : Rel n τ ν σ μ) : ∀ (k j i : Nat), i + k = μ 0 0 → k ≤ j → waitL τ ν j i (wtQ ρ (gP μ) i) = wtQ ρ (gP μ) (μ 0 0) := by
  intro k
  induction k with
  | zero =>
    intro j i hi _
    rw [waitL_out j i _ (by rw [R.n0]; omega), show i = μ 0 0 by omega]
  | succ k ih =>
    intro j i hi hj
    obtain ⟨j, rfl⟩ : ∃ z, j = z + 1 := ⟨j - 1, by omega⟩
    have hlt : i < μ 0 0 := by omega
    have hlt' : i < ν 0 0 := by rw [R.n0]; exact hlt
    have hk := h.kept hlt
    obtain ⟨d, o, t, u, d2, o2, t2, u2, d1, o1, t1, u1, hw⟩ := h.wait R hlt
    have hrd := ready_nI R hlt d2 o2 t2 u2 d1 o1 t1 u1
    have hy := wW_le (u := u) d2 o2 t2
    generalize wW d o t u = y at hw hy hrd
    rw [waitL, hrd, R.kept hlt', ← ih j (i + 1) (by omega) (by omega)]
    congr 1
    by_cases c : keptB (σ 14 i) (σ 15 i) = true
    · rw [if_pos ⟨hlt', c⟩, wtQ, if_pos (hk.mpr c), hw, lstQ]
      rcases wt_spec h R i (by omega) with ⟨h1, -⟩ | ⟨x, hx, h1, -⟩
      · rw [h1, if_pos rfl, if_pos (Or.inl (by decide))]
      · rw [h1, if_neg (nI_nm1 (by omega)), mn]
        by_cases q : nI y < nI x
        · rw [if_pos q, if_pos (Or.inr q)]
        · rw [if_neg q, if_neg (fun z => z.elim (nI_pos (by omega)) q)]
    · rw [if_neg (fun z => c z.2), wtQ, if_neg (fun z => c (hk.mp z))]
theorem LR.wt (h : LR ρ κ σ μ) (R : Rel n τ ν σ μ) : wtQ ρ (gP μ) (μ 0 0) = waitL τ ν 30 0 (-1) := (wait_all h R (μ 0 0) 30 0 (Nat.zero_add _) (by have := h.2.1.1; omega)).symm
end WTS
/-- ticks that are no fewer than the wait leave none -/
theorem wt_pass {ρ ρ1 : IT} {κ κ1 : LT} {τ τ1 σ σ1 : IT} {ν ν1 μ : NT} {n n1 t d : Nat} (h : LR ρ κ σ μ) (R : Rel n τ ν σ μ) (h1 : LR ρ1 κ1 σ1 μ) (R1 : Rel n1 τ1 ν1 σ1 μ) (ht : σ 0 0 = nI t) (ht1 : σ1 0 0 = nI (t + d)) (hd1 : 1 ≤ d) (hK : ∀ K, K = 3 ∨ K = 9 ∨ K = 11 ∨ K = 14 ∨ K = 15 ∨ K = 31 ∨ K = 32 → σ1 K = σ K) (hd : ¬ nI d < wtQ ρ (gP μ) (μ 0 0)) (htd : t + d ≤ 100000) : ¬ 0 < wtQ ρ1 (gP μ) (μ 0 0) := by
  intro hpos
  have e14 := hK 14 (by decide)
  have e15 := hK 15 (by decide)
  rcases wt_spec h1 R1 (μ 0 0) (Nat.le_refl _) with ⟨a1, -⟩ | ⟨x1, hx1, a1, -, a3⟩
  · rw [a1] at hpos; exact absurd hpos (by decide)
  · rcases wt_spec h R (μ 0 0) (Nat.le_refl _) with ⟨b1, b2⟩ | ⟨x, hx, b1, ⟨k, k1, k2, k3⟩, -⟩
    · rcases wt_spec h1 R1 (μ 0 0) (Nat.le_refl _) with ⟨c1, -⟩ | ⟨x2, hx2, c1, ⟨k, k1, k2, k3⟩, -⟩
      · rw [c1] at hpos; exact absurd hpos (by decide)
      · rw [e14, e15] at k2; exact b2 k k1 k2
    · rw [b1, nI_ltI (by omega) (by omega)] at hd
      obtain ⟨y, y1, y2, y3⟩ := a3 k k1 (by rw [e14, e15]; exact k2)
      rw [a1, ← nI_0, nI_ltI (by decide) (by omega)] at hpos
      obtain ⟨d0, o0, t0, u0, d2, o2, t2, u2, d1, o1, t1, u1, hw⟩ := h.wait R k1
      obtain ⟨d9, o9, t9, u9, d92, o92, t92, u92, d91, o91, t91, u91, hw9⟩ := h1.wait R1 k1
      have q1 := wW_le (u := u0) d2 o2 t2
      have q2 := wW_le (u := u9) d92 o92 t92
      have et : t0 = t := (nI_eq (by omega) (by omega)).mp (t1.symm.trans ht)
      have et9 : t9 = t + d := (nI_eq (by omega) (by omega)).mp (t91.symm.trans ht1)
      have ed : d9 = d0 := (nI_eq (by omega) (by omega)).mp (d91.symm.trans (by rw [hK 11 (by decide)]; exact d1))
      have eo : o9 = o0 := (nI_eq (by omega) (by omega)).mp (o91.symm.trans (by rw [hK 9 (by decide)]; exact o1))
      rw [hw, nI_eq (by omega) (by omega)] at k3
      rw [hw9, nI_eq (by omega) (by omega)] at y1
      subst et; subst et9; subst ed; subst eo
      -- what is left then
      have hu9 : u9 = 0 → u0 = 0 ∧ (t0 + d) / 100 = t0 / 100 := by
        intro e9
        obtain ⟨tt, z, v, b, c1, c2, c3, c4, c5, c6, c7, c8⟩ := R.2.2.2.2.2.2.1
        obtain ⟨b0, b01, b02, b03⟩ := h.2.1.2.2
        have eb : b = b0 := (nI_eq (by omega) (by omega)).mp (c7.symm.trans b02)
        have ett : tt = t0 := (nI_eq (by omega) (by omega)).mp (c1.symm.trans t1)
        subst eb; subst ett
        have l9 : leftM σ1 = if usedM σ1 < σ1 3 0 then σ1 3 0 - usedM σ1 else 0 := rfl
        have l0 : leftM σ = if usedM σ < σ 3 0 then σ 3 0 - usedM σ else 0 := rfl
        have us9 : usedM σ1 = if nI z = nI ((tt + d) / 100) then σ 32 0 else 0 := by
          rw [usedM, hK 31 (by decide), hK 32 (by decide), ht1, c3, show nI (tt + d) / 100 = nI ((tt + d) / 100) from pk_div (d := 100) (by omega) (by decide) (by decide)]
        have us0 : usedM σ = if nI z = nI (tt / 100) then σ 32 0 else 0 := by
          rw [usedM, c1, c3, show nI tt / 100 = nI (tt / 100) from pk_div (d := 100) (by omega) (by decide) (by decide)]
        rw [hK 3 (by decide), c7, u91, e9] at l9
        by_cases q : z = (tt + d) / 100
        · have q3 : z = tt / 100 := by omega
          rw [if_pos (by rw [q])] at us9
          rw [if_pos (by rw [q3])] at us0
          rw [us9] at l9
          rw [u1, c7, us0, ← l9] at l0
          exact ⟨(nI_eq (by omega) (by decide)).mp l0, by omega⟩
        · exfalso
          rw [if_neg (fun y => q ((nI_eq (by omega) (by omega)).mp y))] at us9
          rw [us9, if_pos (by rw [← nI_0]; exact (nI_ltI (by decide) (by omega)).mpr (by omega)), ← nI_0, pk_sub (Nat.zero_le _), nI_eq (by decide) (by omega)] at l9
          omega
      rw [wW] at k3 y1
      by_cases c9 : u9 = 0
      · obtain ⟨c0, cs⟩ := hu9 c9
        rw [if_pos c0] at k3
        rw [if_pos c9] at y1
        omega
      · rw [if_neg c9] at y1
        by_cases c0 : u0 = 0
        · rw [if_pos c0] at k3; omega
        · rw [if_neg c0] at k3; omega
