/-! class and model: a visit, whole -/
theorem vis_both {τ σ : IT} {ν μ : NT} {n q c : Nat} {o : Int32} (hE : ∀ K i, bothK n K i → τ K i = σ K i) (hq : q < n) (h5 : ν 5 q = μ 5 q) (hg : σ 14 q = 0) (hc : σ 13 q = nI c) (hc2 : c < 2 ^ 19) (ho : inB o 0 3 = true) : ∀ K i, bothK n K i → visC τ ν q o K i = vis4 σ (μ 5 q) q o K i := by
  intro K i hb
  have hA := visA_both hE hq h5 hg hc hc2 ho
  have a0 : visA τ ν q o 0 0 = σ 0 0 := (hA 0 0 (Or.inl ⟨by decide, rfl⟩)).trans vis3_0
  have a7 : visA τ ν q o 7 (μ 5 q) = σ 7 (μ 5 q) := (hA 7 _ (Or.inr (Or.inl ⟨by decide, by decide⟩))).trans vis3_7
  have a8 : visA τ ν q o 8 (μ 5 q) = failF σ (μ 5 q) o := (hA 8 _ (Or.inr (Or.inl ⟨by decide, by decide⟩))).trans vis3_8
  rw [visC, vis4, h5, a0, a7, a8, pow_eq]
  by_cases e : K = 9 ∧ i = μ 5 q
  · obtain ⟨rfl, rfl⟩ := e
    rw [up2_s, up2_s]
  · simp only [up2, if_neg e]
    exact hA K i hb
