/-! class and model: a visit -/
/-- what both sides keep alike, with n pages -/
def bothK (n K i : Nat) : Prop := (K ≤ 3 ∧ i = 0) ∨ (6 ≤ K ∧ K ≤ 9) ∨ (10 ≤ K ∧ K ≤ 15 ∧ i < n)
theorem out_cases {o : Int32} (h : inB o 0 3 = true) : o = 0 ∨ o = 1 ∨ o = 2 ∨ o = 3 := by
  simp only [inB, Bool.and_eq_true, Bool.not_eq_true', decide_eq_false_iff_not] at h
  obtain ⟨j, hj, rfl⟩ := nI_of h.1
  have h3 : ¬ nI 3 < nI j := h.2
  rw [nI_ltI (by decide) hj] at h3
  have : j = 0 ∨ j = 1 ∨ j = 2 ∨ j = 3 := by omega
  rcases this with rfl | rfl | rfl | rfl
  · exact Or.inl nI_0
  · exact Or.inr (Or.inl rfl)
  · exact Or.inr (Or.inr (Or.inl rfl))
  · exact Or.inr (Or.inr (Or.inr rfl))
theorem vis_used {τ σ : IT} {ν μ : NT} {q h : Nat} {o : Int32} (ho : inB o 0 3 = true) (h20 : τ 20 0 = usedM σ) : visC τ ν q o 20 0 = usedM (vis4 σ h q o) := by
  have e1 : usedM (vis4 σ h q o) = usedF σ := by
    rcases out_cases ho with rfl | rfl | rfl | rfl <;> simp [usedM, vis4, vis3, vis2, vis1, vis0, up2]
  have e2 : visC τ ν q o 20 0 = τ 20 0 + 1 := by
    rcases out_cases ho with rfl | rfl | rfl | rfl <;> simp [visC, visA, settleC, setA, setB, up2]
  rw [e1, e2, h20, usedM, usedF]
  by_cases c : σ 31 0 = σ 0 0 / 100
  · rw [if_pos c, if_pos c]
  · rw [if_neg c, if_neg c]; rfl
