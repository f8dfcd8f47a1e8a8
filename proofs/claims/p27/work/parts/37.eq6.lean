/-! class and model: waiting -/
theorem nI_nm1 {x : Nat} (h : x < 2 ^ 31) : ¬ nI x = -1 := by
  intro e
  have h2 : (nI x).toInt = -1 := by rw [e]; decide
  rw [nI_toInt h] at h2
  omega
/-- the least wait so far: w' in ticks from now, w as a tick -/
def wtR (t : Nat) (w w' : Int32) : Prop := (w = -1 ∧ w' = -1) ∨ ∃ x, t ≤ x ∧ x ≤ 200100 ∧ w = nI x ∧ w' = nI (x - t)
theorem wait_eq {τ σ : IT} {ν μ : NT} {t : Nat} (h0 : τ 0 0 = σ 0 0) (ht : σ 0 0 = nI t) (ht2 : t ≤ 200000) (hk : ∀ p, p < ν 0 0 → keptC τ p = wtC σ p) (hr : ∀ p, p < ν 0 0 → readyC τ ν p = wt2 σ μ p ∧ ∃ w, w ≤ 200100 ∧ t ≤ w ∧ wt2 σ μ p = nI w) :
    ∀ (k j i : Nat) (w w' : Int32), i + k = ν 0 0 → k ≤ j → wtR t w w' → wtR t (wtL σ μ k i w) (waitL τ ν j i w') := by
  intro k
  induction k with
  | zero =>
    intro j i w w' hi _ h
    rw [wtL]
    have hout : ∀ (j i : Nat) (w' : Int32), ν 0 0 ≤ i → waitL τ ν j i w' = w' := by
      intro j
      induction j with
      | zero => intro i w' _; rfl
      | succ j ih2 => intro i w' hi2; rw [waitL, if_neg (fun z => by omega)]; exact ih2 (i + 1) w' (by omega)
    rw [hout j i w' (by omega)]
    exact h
  | succ k ih =>
    intro j i w w' hi hj h
    obtain ⟨j, rfl⟩ : ∃ z, j = z + 1 := ⟨j - 1, by omega⟩
    have hlt : i < ν 0 0 := by omega
    obtain ⟨e1, y, hy1, hy2, e2⟩ := hr i hlt
    rw [wtL, waitL, hk i hlt, e1, h0, e2, ht]
    refine ih j (i + 1) _ _ (by omega) (by omega) ?_
    by_cases c : wtC σ i = true
    · rcases h with ⟨rfl, rfl⟩ | ⟨x, hx1, hx2, rfl, rfl⟩
      · rw [if_pos ⟨c, Or.inl rfl⟩, if_pos ⟨hlt, c⟩, if_pos rfl, pk_sub hy2]
        exact Or.inr ⟨y, hy2, hy1, rfl, rfl⟩
      · have e3 : (if i < ν 0 0 ∧ wtC σ i = true then (if nI (x - t) = -1 then nI y - nI t else mn (nI (x - t)) (nI y - nI t)) else nI (x - t)) = mn (nI (x - t)) (nI (y - t)) := by rw [if_pos ⟨hlt, c⟩, if_neg (nI_nm1 (by omega)), pk_sub hy2]
        rw [e3]
        unfold mn
        by_cases q : y < x
        · rw [if_pos ⟨c, Or.inr ((nI_ltI (by omega) (by omega)).mpr q)⟩, if_pos ((nI_ltI (by omega) (by omega)).mpr (by omega))]
          exact Or.inr ⟨y, hy2, hy1, rfl, rfl⟩
        · rw [if_neg (fun z => z.2.elim (nI_nm1 (by omega)) (fun z => q ((nI_ltI (by omega) (by omega)).mp z))), if_neg (fun z => by have := (nI_ltI (a := y - t) (b := x - t) (by omega) (by omega)).mp z; omega)]
          exact Or.inr ⟨x, hx1, hx2, rfl, rfl⟩
    · rw [if_neg (fun z => c z.1), if_neg (fun z => c z.2)]
      exact h
theorem waits_eq {τ σ : IT} {ν μ : NT} {t : Nat} (hn : ν 0 0 ≤ 30) (hm : ν 0 0 = μ 0 0) (h0 : τ 0 0 = σ 0 0) (ht : σ 0 0 = nI t) (ht2 : t ≤ 200000) (hk : ∀ p, p < ν 0 0 → keptC τ p = wtC (T0 σ) p) (hr : ∀ p, p < ν 0 0 → readyC τ ν p = wt2 (T0 σ) μ p ∧ ∃ w, w ≤ 200100 ∧ t ≤ w ∧ wt2 (T0 σ) μ p = nI w) : waitL τ ν 30 0 (-1) = oWaiting σ μ := by
  have h := wait_eq (τ := τ) (σ := T0 σ) (ν := ν) (μ := μ) (t := t) h0 ht ht2 hk hr (ν 0 0) 30 0 (-1) (-1) (by omega) hn (Or.inl ⟨rfl, rfl⟩)
  rw [oWaiting, ← hm]
  rcases h with ⟨e1, e2⟩ | ⟨x, hx1, hx2, e1, e2⟩
  · rw [e1, e2, if_pos rfl]
  · rw [e1, e2, if_neg (nI_nm1 (by omega)), ht, pk_sub hx1]
