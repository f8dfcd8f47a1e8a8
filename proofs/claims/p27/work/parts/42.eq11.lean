/-! class and model: what a visit leaves -/
theorem visA_both {τ σ : IT} {ν μ : NT} {n q c : Nat} {o : Int32} (hE : ∀ K i, bothK n K i → τ K i = σ K i) (hq : q < n) (h5 : ν 5 q = μ 5 q) (hg : σ 14 q = 0) (hc : σ 13 q = nI c) (hc2 : c < 2 ^ 19) (ho : inB o 0 3 = true) : ∀ K i, bothK n K i → visA τ ν q o K i = vis3 σ (μ 5 q) q o K i := by
  have e00 := hE 0 0 (Or.inl ⟨by decide, rfl⟩)
  have e10 := hE 1 0 (Or.inl ⟨by decide, rfl⟩)
  have e20 := hE 2 0 (Or.inl ⟨by decide, rfl⟩)
  have e8 : ∀ i, τ 8 i = σ 8 i := fun i => hE 8 i (Or.inr (Or.inl ⟨by decide, by decide⟩))
  have e12 := hE 12 q (Or.inr (Or.inr ⟨by decide, by decide, hq⟩))
  have e13 := hE 13 q (Or.inr (Or.inr ⟨by decide, by decide, hq⟩))
  have epace : ∀ w : Int32, (w = 0 ∨ w = 1) → ∀ T : IT, T 1 0 = σ 1 0 → T 2 0 = σ 2 0 → T 12 q = σ 12 q + 1 → T 13 q = σ 13 q + w → paceC T q = capF σ (paceF σ (σ 12 q + 1) (σ 13 q + w)) := by
    intro w hw T h1 h2 h12 h13
    have hd : ∃ d, d < 2 ^ 20 ∧ T 13 q = nI d := by
      rcases hw with rfl | rfl
      · exact ⟨c, by omega, by rw [h13, hc]; exact Int32.add_zero _⟩
      · exact ⟨c + 1, by omega, by rw [h13, hc, nI_1]⟩
    obtain ⟨d, hd2, hd1⟩ := hd
    rw [pace_eq (σ := σ) h1 h2 hd1 hd2, h12, h13]
  intro K i hb
  have e := hE K i hb
  have k20 : K ≠ 20 := by rcases hb with z | z | z <;> omega
  have k30 : K ≠ 30 := by rcases hb with z | z | z <;> omega
  have k31 : K ≠ 31 := by rcases hb with z | z | z <;> omega
  have k32 : K ≠ 32 := by rcases hb with z | z | z <;> omega
  have b0 : vis0 σ K i = σ K i := by rw [vis0, up2_k k31, up2_k k32]; exact up2_k k30
  rcases out_cases ho with rfl | rfl | rfl | rfl
  · have ep := epace 0 (Or.inl rfl) (setB (up2 τ 20 0 (τ 20 0 + 1)) ν q 0) (by simpa [setB, setA, up2] using e10) (by simpa [setB, setA, up2] using e20) (by simpa [setB, setA, up2] using e12) (by simpa [setB, setA, up2] using e13)
    have en : setB (up2 τ 20 0 (τ 20 0 + 1)) ν q 0 0 0 = σ 0 0 := by simpa [setB, setA, up2] using e00
    have ea : visA τ ν q 0 = up2 (setB (up2 τ 20 0 (τ 20 0 + 1)) ν q 0) 11 q (σ 0 0 + capF σ (paceF σ (σ 12 q + 1) (σ 13 q + 0))) := by
      rw [visA, settleC, if_neg (by decide), if_neg (by decide), en, ep]
    rw [ea]
    by_cases a8 : K = 8 ∧ i = μ 5 q <;> by_cases a11 : K = 11 ∧ i = q <;> by_cases a12 : K = 12 ∧ i = q <;> by_cases a13 : K = 13 ∧ i = q <;> by_cases a14 : K = 14 ∧ i = q <;> simp_all [setB, setA, vis3, vis2, vis1, failF, chgF, up2]
  · have ep := epace 1 (Or.inr rfl) (setB (up2 τ 20 0 (τ 20 0 + 1)) ν q 1) (by simpa [setB, setA, up2] using e10) (by simpa [setB, setA, up2] using e20) (by simpa [setB, setA, up2] using e12) (by simpa [setB, setA, up2] using e13)
    have en : setB (up2 τ 20 0 (τ 20 0 + 1)) ν q 1 0 0 = σ 0 0 := by simpa [setB, setA, up2] using e00
    have ea : visA τ ν q 1 = up2 (setB (up2 τ 20 0 (τ 20 0 + 1)) ν q 1) 11 q (σ 0 0 + capF σ (paceF σ (σ 12 q + 1) (σ 13 q + 1))) := by
      rw [visA, settleC, if_neg (by decide), if_neg (by decide), en, ep]
    rw [ea]
    by_cases a8 : K = 8 ∧ i = μ 5 q <;> by_cases a11 : K = 11 ∧ i = q <;> by_cases a12 : K = 12 ∧ i = q <;> by_cases a13 : K = 13 ∧ i = q <;> by_cases a14 : K = 14 ∧ i = q <;> simp_all [setB, setA, vis3, vis2, vis1, failF, chgF, up2]
  · have ea : visA τ ν q 2 = up2 (up2 (up2 τ 20 0 (τ 20 0 + 1)) 8 (ν 5 q) (τ 8 (ν 5 q) + 1)) 11 q (τ 0 0 + τ 1 0) := by rw [visA, settleC, if_pos rfl]; rfl
    rw [ea]
    by_cases a8 : K = 8 ∧ i = μ 5 q <;> by_cases a11 : K = 11 ∧ i = q <;> by_cases a14 : K = 14 ∧ i = q <;> simp_all [vis3, vis2, vis1, failF, up2]
  · have ea : visA τ ν q 3 = up2 (setA (up2 τ 20 0 (τ 20 0 + 1)) ν q) 14 q 1 := by rw [visA, settleC, if_neg (by decide), if_pos rfl]
    rw [ea]
    have b11 : vis0 σ 11 q = σ 11 q := by rw [vis0, up2_k (by decide), up2_k (by decide)]; exact up2_k (by decide)
    have n32 : ¬ (3 : Int32) < 2 := by decide
    have n3e : ¬ (3 : Int32) = 2 := by decide
    by_cases a8 : K = 8 ∧ i = μ 5 q <;> by_cases a11 : K = 11 ∧ i = q <;> by_cases a14 : K = 14 ∧ i = q <;> simp_all [setA, vis3, vis2, vis1, failF, up2] <;> try (by_cases z : K = 11 <;> by_cases y : i = q <;> simp_all)
