/-! a page is found: what the law's rows are then -/
def fpQ (ρ : IT) (m hz rz : Nat) : IT := up2 (up2 (up2 (up2 (up2 ρ 2 (6 * m) (nI hz)) 2 (6 * m + 1) (nI rz)) 2 (6 * m + 2) (ρ 0 0)) 2 (6 * m + 3) 0) 2 (6 * m + 4) 0
def fqQ (ρ : IT) (m hz rz : Nat) (v : Int32) : IT := up2 (fpQ ρ m hz rz) 2 (6 * m + 5) v
def frQ (ρ : IT) (m hz rz : Nat) (v : Int32) : IT := up2 (fqQ ρ m hz rz v) 0 6 (nI (m + 1))
section FND
variable {ρ : IT} {κ κ1 : LT} {τ σ : IT} {ν μ : NT} {n m hz rz : Nat} {v : Int32}
theorem fpQ_K {K : Nat} (h : K ≠ 2) : fpQ ρ m hz rz K = ρ K := by
  rw [fpQ, up2_row h, up2_row h, up2_row h, up2_row h, up2_row h]
theorem fqQ_K {K : Nat} (h : K ≠ 2) : fqQ ρ m hz rz v K = ρ K := by rw [fqQ, up2_row h, fpQ_K h]
theorem frQ_K {K : Nat} (h : K ≠ 2) (h0 : K ≠ 0) : frQ ρ m hz rz v K = ρ K := by rw [frQ, up2_row h0, fqQ_K h]
theorem frQ_0 {i : Nat} (h : i ≠ 6) : frQ ρ m hz rz v 0 i = ρ 0 i := by rw [frQ, up2_i h, fqQ_K (by decide)]
theorem frQ_2o {i : Nat} (h : ∀ c, c < 6 → i ≠ 6 * m + c) : frQ ρ m hz rz v 2 i = ρ 2 i := by
  have h0 : i ≠ 6 * m := h 0 (by decide)
  have h1 := h 1 (by decide)
  have h2 := h 2 (by decide)
  have h3 := h 3 (by decide)
  have h4 := h 4 (by decide)
  have h5 := h 5 (by decide)
  rw [frQ, up2_k (by decide), fqQ, up2_i h5, fpQ, up2_i h4, up2_i h3, up2_i h2, up2_i h1, up2_i h0]
theorem frQ_2 : frQ ρ m hz rz v 2 (6 * m) = nI hz ∧ frQ ρ m hz rz v 2 (6 * m + 1) = nI rz ∧ frQ ρ m hz rz v 2 (6 * m + 2) = ρ 0 0 ∧ frQ ρ m hz rz v 2 (6 * m + 3) = 0 ∧ frQ ρ m hz rz v 2 (6 * m + 4) = 0 ∧ frQ ρ m hz rz v 2 (6 * m + 5) = v := by
  refine ⟨?_, ?_, ?_, ?_, ?_, ?_⟩ <;> simp [frQ, fqQ, fpQ, up2]
/-- behind a page found anew -/
theorem LR.new (h : LR ρ κ σ μ) (R : Rel n τ ν σ μ) (hz3 : hz < 3) (rz9 : rz ≤ 9) (hm : μ 0 0 < 10) (hv : v = 0 ↔ repA (τ 6) (τ 22) (ν 1 0) (ν 2 0) = false) (hno : ∀ q, q < μ 0 0 → ¬ (gP μ q = hz ∧ κ 5 q = adQ (ρ 4) (μ 1 0))) (hk : κ1 5 = up2 κ 5 (μ 0 0) (adQ (ρ 4) (μ 1 0)) 5) : LR (frQ ρ (μ 0 0) hz rz v) κ1 (fdS σ μ (nI (2 * hz)) (nI rz)) (fdM σ μ (nI (2 * hz)) (nI rz)) := by
  have hA : hostB (nI (2 * hz)) = true := idx_host' (by omega)
  have R2 := find_rel (r := nI rz) R hA (by omega)
  have hcl : (nI (2 * hz)).toNatClampNeg = 2 * hz := cl_nI (by omega)
  have hn0 := R.n0
  have had := h.adr
  have f := R.2.2.2.2.2.2.2.2.2.2 (μ 0 0) (Nat.le_refl _) (by omega)
  have hs : ∀ K i, K ≠ 30 → K ≠ 18 → K ≠ 10 → K ≠ 11 → K ≠ 15 → fdS σ μ (nI (2 * hz)) (nI rz) K i = σ K i := fun K i k1 k2 k3 k4 k5 => fdS_k k1 k2 (by omega)
  have hsp : ∀ K i, K ≠ 30 → K ≠ 18 → i ≠ μ 0 0 → fdS σ μ (nI (2 * hz)) (nI rz) K i = σ K i := fun K i k1 k2 k3 => fdS_k k1 k2 (by omega)
  have hmo : ∀ K i, K ≤ 5 → i ≠ μ 0 0 → ¬ (K = 0 ∧ i = 0) → fdM σ μ (nI (2 * hz)) (nI rz) K i = μ K i := fun K i k1 k2 k3 => fdM_k k1 k3 (by omega)
  have hm1 : fdM σ μ (nI (2 * hz)) (nI rz) 1 0 = μ 1 0 := fdM_k (by decide) (by decide) (by omega)
  have h5o : ∀ k, k ≠ μ 0 0 → fdM σ μ (nI (2 * hz)) (nI rz) 5 k = μ 5 k := fun k hk => hmo 5 k (by decide) hk (by omega)
  have h5n : fdM σ μ (nI (2 * hz)) (nI rz) 5 (μ 0 0) = 2 * hz := by rw [fdM_5, hcl]
  have hgo : ∀ k, k ≠ μ 0 0 → gP (fdM σ μ (nI (2 * hz)) (nI rz)) k = gP μ k := fun k hk => by rw [gP, gP, h5o k hk]
  have hgn : gP (fdM σ μ (nI (2 * hz)) (nI rz)) (μ 0 0) = hz := by rw [gP, h5n]; omega
  have hk5o : ∀ k, k ≠ μ 0 0 → κ1 5 k = κ 5 k := fun k hk2 => by rw [hk, up2_i hk2]
  have hk5n : κ1 5 (μ 0 0) = adQ (ρ 4) (μ 1 0) := by rw [hk, up2_s]
  obtain ⟨⟨q0, q1, q2, q3, q4, q5, q6, q7⟩, l2, l3, l4, l5, l6, l7⟩ := h
  refine ⟨⟨?_, ?_, ?_, ?_, ?_, ?_, ?_, ?_⟩, ?_, ?_, ?_, ?_, ?_, ?_⟩
  · rw [frQ_0 (by decide), hs 0 0 (by decide) (by decide) (by decide) (by decide) (by decide)]; exact q0
  · rw [frQ_0 (by decide), hs 1 0 (by decide) (by decide) (by decide) (by decide) (by decide)]; exact q1
  · rw [frQ_0 (by decide), hs 2 0 (by decide) (by decide) (by decide) (by decide) (by decide)]; exact q2
  · rw [frQ_0 (by decide), hs 3 0 (by decide) (by decide) (by decide) (by decide) (by decide)]; exact q3
  · rw [frQ_0 (by decide), hs 32 0 (by decide) (by decide) (by decide) (by decide) (by decide)]; exact q4
  · rw [frQ_0 (by decide), hs 31 0 (by decide) (by decide) (by decide) (by decide) (by decide)]; exact q5
  · rw [frQ, up2_s, fdM_0]
  · rw [frQ_0 (by decide), hm1]; exact q7
  · refine ⟨by rw [fdM_0]; omega, by rw [hm1]; exact l2.2.1, ?_⟩
    rw [hs 3 0 (by decide) (by decide) (by decide) (by decide) (by decide)]; exact l2.2.2
  · intro g hg
    rw [frQ_K (by decide) (by decide), hs 7 _ (by decide) (by decide) (by decide) (by decide) (by decide), hs 8 _ (by decide) (by decide) (by decide) (by decide) (by decide), hs 9 _ (by decide) (by decide) (by decide) (by decide) (by decide)]
    exact l3 g hg
  · intro k hk2
    rw [fdM_0] at hk2
    by_cases e : k = μ 0 0
    · obtain ⟨z0, z1, z2, z3, z4, z5⟩ := frQ_2 (ρ := ρ) (m := μ 0 0) (hz := hz) (rz := rz) (v := v)
      have e14 : fdS σ μ (nI (2 * hz)) (nI rz) 14 (μ 0 0) = 0 := by rw [hs 14 _ (by decide) (by decide) (by decide) (by decide) (by decide)]; exact f.2.2
      have e15 : fdS σ μ (nI (2 * hz)) (nI rz) 15 (μ 0 0) = zb (repA (τ 6) (τ 22) (ν 1 0) (ν 2 0)) := by
        have e1 := R2.eqP (K := 15) (p := μ 0 0) (by decide) (by decide) (by simp [fdNC]; omega)
        rw [← e1, ← hn0]; simp [fdTC]
      rw [e, z0, z1, z2, z3, z4, z5, hgn, h5n, fdS_10, fdS_11, hs 12 _ (by decide) (by decide) (by decide) (by decide) (by decide), hs 13 _ (by decide) (by decide) (by decide) (by decide) (by decide), e14, e15, f.1, f.2.1]
      refine ⟨rfl, hz3, rfl, ⟨rz, rz9, rfl⟩, rfl, q0, rfl, rfl, ?_⟩
      rw [hv]
      cases repA (τ 6) (τ 22) (ν 1 0) (ν 2 0) with
      | false => exact ⟨fun _ => rfl, fun _ => rfl⟩
      | true => exact ⟨fun z => Bool.noConfusion z, fun z => absurd z (by decide)⟩
    · rw [hgo k e, h5o k e, frQ_2o (fun c hc => by omega), frQ_2o (fun c hc => by omega), frQ_2o (fun c hc => by omega), frQ_2o (fun c hc => by omega), frQ_2o (fun c hc => by omega), frQ_2o (fun c hc => by omega), hsp 10 k (by decide) (by decide) e, hsp 11 k (by decide) (by decide) e, hsp 12 k (by decide) (by decide) e, hsp 13 k (by decide) (by decide) e, hsp 14 k (by decide) (by decide) e, hsp 15 k (by decide) (by decide) e]
      exact l4 k (by omega)
  · intro k hk2
    rw [fdM_0] at hk2
    by_cases e : k = μ 0 0
    · rw [e, fdM_3, hk5n, had]
      have e18 : ∀ j, j < μ 1 0 → fdS σ μ (nI (2 * hz)) (nI rz) 18 (30 * μ 0 0 + j) = σ 6 j := fun j hj => by rw [fdS_18, if_pos ⟨by omega, by omega⟩, Nat.add_sub_cancel_left]
      refine ⟨l2.2.1, fun j hj => by rw [e18 j hj]; exact (l6 j hj).1, ?_⟩
      congr 1
      exact adN_cg _ (fun i hi => by rw [e18 i hi])
    · obtain ⟨a1, a2, a3⟩ := l5 k (by omega)
      have e18 : ∀ j, j < 30 → fdS σ μ (nI (2 * hz)) (nI rz) 18 (30 * k + j) = σ 18 (30 * k + j) := fun j hj => by rw [fdS_18, if_neg (by omega)]
      rw [hmo 3 k (by decide) e (by omega), hk5o k e, a3]
      refine ⟨a1, fun j hj => by rw [e18 j (by omega)]; exact a2 j hj, ?_⟩
      congr 1
      exact adN_cg _ (fun i hi => by rw [e18 i (by omega)])
  · intro j hj
    rw [hm1] at hj
    rw [hs 6 j (by decide) (by decide) (by decide) (by decide) (by decide), frQ_K (by decide) (by decide)]
    exact l6 j hj
  · intro k j hkj hj
    rw [fdM_0] at hj
    rw [h5o k (by omega), hk5o k (by omega)]
    by_cases e : j = μ 0 0
    · subst e
      rw [h5n, hk5n]
      intro z1 z2
      exact hno k (by omega) ⟨by rw [gP, z1]; omega, z2⟩
    · rw [h5o j e, hk5o j e]
      exact l7 k j hkj (by omega)
end FND
