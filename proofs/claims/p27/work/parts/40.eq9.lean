/-! class and model: paces and powers -/
theorem pow_eq {f : Int32} : mn f 5 = powF f := by
  unfold mn powF
  by_cases h : (5 : Int32) < f
  · rw [if_pos h, if_pos (Int32.le_of_lt h)]
  · rw [if_neg h]
    by_cases g : (5 : Int32) ≤ f
    · rw [if_pos g]; exact Int32.le_antisymm (Int32.not_lt.mp h) g
    · rw [if_neg g]
theorem cap_eq {σ : IT} {x : Int32} : mn (σ 2 0) x = capF σ x := by
  unfold mn capF
  by_cases h : x < σ 2 0
  · rw [if_pos h, if_neg (Int32.not_le.mpr h)]
  · rw [if_neg h, if_pos (Int32.not_lt.mp h)]
theorem pace_eq {τ σ : IT} {p c : Nat} (h1 : τ 1 0 = σ 1 0) (h2 : τ 2 0 = σ 2 0) (hc : τ 13 p = nI c) (hc2 : c < 2 ^ 20) : paceC τ p = capF σ (paceF σ (τ 12 p) (τ 13 p)) := by
  have e1 : (1 : Int32) ≤ τ 13 p + 1 := by
    rw [hc, nI_1]
    exact (nI_leI (a := 1) (by decide) (by omega)).mpr (by omega)
  have e2 : τ 1 0 * (τ 12 p + 2) + (τ 13 p + 1) - 1 = σ 1 0 * (τ 12 p + 2) + τ 13 p := by
    rw [h1, ← Int32.add_assoc, Int32.add_sub_cancel]
  rw [paceC, divUp, if_pos e1, e2, h2, cap_eq, paceF]
