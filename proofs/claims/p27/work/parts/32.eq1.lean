/-! class and model: what is left, what is ready -/
def usedM (σ : IT) : Int32 := if σ 31 0 = σ 0 0 / 100 then σ 32 0 else 0
theorem mx_ltI {x a b : Int32} : x < mx a b ↔ x < a ∨ x < b := by
  unfold mx
  rw [Int32.lt_iff_toInt_lt (x := x) (y := a), Int32.lt_iff_toInt_lt (x := x) (y := b)]
  by_cases h : a < b
  · rw [if_pos h, Int32.lt_iff_toInt_lt]
    rw [Int32.lt_iff_toInt_lt] at h
    omega
  · rw [if_neg h, Int32.lt_iff_toInt_lt]
    rw [Int32.lt_iff_toInt_lt] at h
    omega
theorem nI_subI {b u : Nat} (hb : b ≤ 2 ^ 20) (hu : u ≤ 2 ^ 20) : (nI b - nI u).toInt = (b : Int) - u := by
  rw [Int32.toInt_sub, nI_toInt (by omega), nI_toInt (by omega), Int.bmod_def]
  split <;> omega
theorem left_eq {τ σ : IT} {b u : Nat} (h3 : τ 3 0 = σ 3 0) (h20 : τ 20 0 = usedM σ) (hb : σ 3 0 = nI b) (hb2 : b ≤ 100) (hu : usedM σ = nI u) (hu2 : u ≤ 100) : leftC τ = leftM σ := by
  have e1 : leftM σ = if usedM σ < σ 3 0 then σ 3 0 - usedM σ else 0 := rfl
  rw [e1, leftC, h3, h20, hb, hu]
  unfold mx
  have hs := nI_subI (b := b) (u := u) (by omega) (by omega)
  by_cases h : u < b
  · rw [if_pos ((nI_ltI (by omega) (by omega)).mpr h), if_pos]
    rw [Int32.lt_iff_toInt_lt, hs]
    show (0 : Int) < _
    omega
  · rw [if_neg (fun z => h ((nI_ltI (by omega) (by omega)).mp z)), if_neg]
    rw [Int32.lt_iff_toInt_lt, hs]
    show ¬ (0 : Int) < _
    omega
theorem span_gt {t : Nat} (ht : t ≤ 100000) : nI t < (nI t / 100 + 1) * 100 := by
  have e : (nI t / 100 + 1) * 100 = nI (100 * (t / 100 + 1)) := by
    have e1 : nI t / 100 = nI (t / 100) := by
      show nI t / nI 100 = _
      rw [← Int32.toInt_inj, Int32.toInt_div, nI_toInt (by omega), nI_toInt (by decide), nI_toInt (by omega)]
      rw [show Int.tdiv (t : Int) ((100 : Nat) : Int) = ((t / 100 : Nat) : Int) from rfl, Int.bmod_def]
      split <;> omega
    rw [e1, nI_1, Int32.mul_comm]
    exact pk_mul 100 _
  rw [e, nI_ltI (by omega) (by omega)]
  omega
/-- may be visited now: the class's way, the model's -/
theorem open_eq {τ σ : IT} {ν μ : NT} {p t : Nat} (h0 : τ 0 0 = σ 0 0) (ht : σ 0 0 = nI t) (ht2 : t ≤ 100000) (hl : leftC τ = leftM σ) (h11 : τ 11 p = σ 11 p) (h14 : τ 14 p = σ 14 p) (h15 : τ 15 p = σ 15 p) (h5 : ν 5 p = μ 5 p) (h9 : τ 9 (ν 5 p) = σ 9 (μ 5 p)) : isRdy τ ν p = openB σ μ p := by
  rw [isRdy, openB, keptC, h14, h15]
  congr 1
  have e : (τ 0 0 < readyC τ ν p) ↔ (leftM σ ≤ 0 ∨ σ 0 0 < σ 11 p ∨ σ 0 0 < σ 9 (μ 5 p)) := by
    rw [readyC, mx_ltI, mx_ltI, hl, h11, h9, h0]
    by_cases q : leftM σ ≤ 0
    · rw [if_pos q]
      refine ⟨fun _ => Or.inl q, fun _ => Or.inl ?_⟩
      rw [spanC, h0, ht]
      exact span_gt ht2
    · rw [if_neg q]
      exact ⟨fun z => z.elim (fun y => (Int32.lt_irrefl y).elim) Or.inr, fun z => z.elim (fun y => absurd y q) Or.inr⟩
  by_cases a : leftM σ ≤ 0 <;> by_cases b : σ 0 0 < σ 11 p <;> by_cases c : σ 0 0 < σ 9 (μ 5 p) <;> simp [e, a, b, c]
