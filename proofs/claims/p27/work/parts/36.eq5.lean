/-! class and model: the page at the address; waiting -/
theorem sameF_cg {f g f9 g9 : Nat → Int32} : ∀ (k i : Nat), (∀ j, i ≤ j → j < i + k → f j = f9 j ∧ g j = g9 j) → sameF f g k i = sameF f9 g9 k i := by
  intro k
  induction k with
  | zero => intro i _; rfl
  | succ k ih =>
    intro i h
    obtain ⟨e1, e2⟩ := h i (Nat.le_refl i) (by omega)
    rw [sameF, sameF, e1, e2, ih (i + 1) (fun j h1 h2 => h j (by omega) (by omega))]
theorem same_eq {τ σ : IT} {ν μ : NT} {p : Nat} (h6 : ∀ j, j < ν 1 0 → τ 6 j = σ 6 j) (h1 : ν 1 0 = μ 1 0) (h3 : ν 3 p = μ 3 p) (h18 : ∀ j, j < ν 3 p → τ 18 (30 * p + j) = σ 18 (30 * p + j)) : sameC τ ν p = sameT σ μ p := by
  rw [sameC, sameT, ← h1, ← h3]
  by_cases e : ν 3 p = ν 1 0
  · rw [decide_eq_true e, Bool.true_and, Bool.true_and, e]
    refine sameF_cg _ _ (fun j _ hj => ?_)
    have hj2 : j < ν 1 0 := by omega
    refine ⟨?_, ?_⟩
    · rw [atN, if_pos hj2]; exact h18 j (by omega)
    · rw [atN, if_pos hj2]; exact h6 j hj2
  · rw [decide_eq_false e, Bool.false_and, Bool.false_and]
theorem pab_eq {τ σ : IT} {ν μ : NT} {h : Nat} (hh : h < 6) (h5 : ∀ p, p < ν 0 0 → ν 5 p = μ 5 p ∧ μ 5 p < 6) (hs : ∀ p, p < ν 0 0 → sameC τ ν p = sameT σ μ p) : ∀ (k j i : Nat), i + k = ν 0 0 → k ≤ j → pabL τ ν h j i = fdL σ μ (nI h) k i := by
  intro k
  induction k with
  | zero =>
    intro j i hi _
    rw [fdL]
    have hout : ∀ (j i : Nat), ν 0 0 ≤ i → pabL τ ν h j i = none := by
      intro j
      induction j with
      | zero => intro i _; rfl
      | succ j ih2 => intro i hi2; rw [pabL, if_neg (fun z => by omega)]; exact ih2 (i + 1) (by omega)
    exact hout j i (by omega)
  | succ k ih =>
    intro j i hi hj
    obtain ⟨j, rfl⟩ : ∃ z, j = z + 1 := ⟨j - 1, by omega⟩
    have hlt : i < ν 0 0 := by omega
    obtain ⟨e5, l5⟩ := h5 i hlt
    have e : nI (μ 5 i) = nI h ↔ ν 5 i = h := by rw [nI_eq (by omega) (by omega), e5]
    rw [pabL, fdL, ← hs i hlt]
    by_cases c : ν 5 i = h ∧ sameC τ ν i = true
    · rw [if_pos ⟨hlt, c⟩, if_pos ⟨e.mpr c.1, c.2⟩]
    · rw [if_neg (fun z => c z.2), if_neg (fun z => c ⟨e.mp z.1, z.2⟩)]
      exact ih j (i + 1) (by omega) (by omega)
theorem span_nI {t : Nat} (ht : t ≤ 2 ^ 20) : (nI t / 100 + 1) * 100 = nI (100 * (t / 100 + 1)) := by
  have e1 : nI t / 100 = nI (t / 100) := pk_div (d := 100) (by omega) (by decide) (by decide)
  rw [e1, nI_1, Int32.mul_comm]
  exact pk_mul 100 _
theorem mx_nI {a b : Nat} (ha : a < 2 ^ 30) (hb : b < 2 ^ 30) : mx (nI a) (nI b) = nI (max a b) := by
  unfold mx
  by_cases h : a < b
  · rw [if_pos ((nI_ltI (by omega) (by omega)).mpr h), Nat.max_eq_right (Nat.le_of_lt h)]
  · rw [if_neg (fun z => h ((nI_ltI (by omega) (by omega)).mp z)), Nat.max_eq_left (Nat.le_of_not_lt h)]
/-- from when a page may be visited: the class's way, the model's -/
theorem ready_eq {τ σ : IT} {ν μ : NT} {p t d o u : Nat} (h0 : τ 0 0 = σ 0 0) (ht : σ 0 0 = nI t) (ht2 : t ≤ 200000) (hl : leftC τ = leftM σ) (hu : leftM σ = nI u) (hu2 : u ≤ 100) (h11 : τ 11 p = σ 11 p) (hd : σ 11 p = nI d) (hd2 : d ≤ 200000) (h9 : τ 9 (ν 5 p) = σ 9 (μ 5 p)) (ho : σ 9 (μ 5 p) = nI o) (ho2 : o ≤ 200000) : readyC τ ν p = wt2 σ μ p ∧ ∃ w, w ≤ 200100 ∧ t ≤ w ∧ wt2 σ μ p = nI w := by
  have e0 : wt0 σ μ p = nI (max d o) := by
    rw [wt0, hd, ho]
    by_cases c : d ≤ o
    · rw [if_pos ((nI_leI (by omega) (by omega)).mpr c), Nat.max_eq_right c]
    · rw [if_neg (fun z => c ((nI_leI (by omega) (by omega)).mp z)), Nat.max_eq_left (by omega)]
  have e1 : wt1 σ μ p = nI (max (max d o) t) := by
    rw [wt1, e0, ht]
    by_cases c : max d o ≤ t
    · rw [if_pos ((nI_leI (by omega) (by omega)).mpr c), Nat.max_eq_right c]
    · rw [if_neg (fun z => c ((nI_leI (by omega) (by omega)).mp z)), Nat.max_eq_left (a := max d o) (b := t) (by omega)]
  have ed : ∀ x : Nat, x ≤ 200000 → nI x / 100 = nI (x / 100) := fun x hx => pk_div (d := 100) (by omega) (by decide) (by decide)
  have eu : (leftM σ = 0) ↔ u = 0 := by rw [hu, ← nI_0, nI_eq (by omega) (by decide)]
  have eu2 : (leftC τ ≤ 0) ↔ u = 0 := by rw [hl, hu, ← nI_0, nI_leI (by omega) (by decide)]; omega
  have es : 100 * (σ 0 0 / 100 + 1) = nI (100 * (t / 100 + 1)) := by rw [Int32.mul_comm, ht]; exact span_nI (by omega)
  have ew : (wt1 σ μ p / 100 = σ 0 0 / 100) ↔ (max (max d o) t) / 100 = t / 100 := by rw [e1, ht, ed _ (by omega), ed _ ht2, nI_eq (by omega) (by omega)]
  have er : readyC τ ν p = nI (max (if u = 0 then 100 * (t / 100 + 1) else t) (max d o)) := by
    rw [readyC, h11, h9, hd, ho, mx_nI (by omega) (by omega)]
    by_cases c : u = 0
    · rw [if_pos (eu2.mpr c), if_pos c, spanC, h0, ht, span_nI (by omega), mx_nI (by omega) (by omega)]
    · rw [if_neg (mt eu2.mp c), if_neg c, h0, ht, mx_nI (by omega) (by omega)]
  have e2 : wt2 σ μ p = nI (if (max (max d o) t) / 100 = t / 100 ∧ u = 0 then 100 * (t / 100 + 1) else max (max d o) t) := by
    rw [wt2]
    by_cases c : (max (max d o) t) / 100 = t / 100 ∧ u = 0
    · rw [if_pos ⟨ew.mpr c.1, eu.mpr c.2⟩, if_pos c, es]
    · rw [if_neg (fun z => c ⟨ew.mp z.1, eu.mp z.2⟩), if_neg c, e1]
  rw [er, e2]
  have key : max (if u = 0 then 100 * (t / 100 + 1) else t) (max d o) = (if (max (max d o) t) / 100 = t / 100 ∧ u = 0 then 100 * (t / 100 + 1) else max (max d o) t) := by
    by_cases c : u = 0
    · by_cases q : (max (max d o) t) / 100 = t / 100
      · rw [if_pos c, if_pos ⟨q, c⟩]; omega
      · rw [if_pos c, if_neg (fun z => q z.1)]; omega
    · rw [if_neg c, if_neg (fun z => c z.2)]; omega
  rw [key]
  refine ⟨rfl, _, ?_, ?_, rfl⟩
  · split <;> omega
  · split <;> omega
