/-! class and model: both sides write one number -/
theorem Rel.upd {n : Nat} {τ σ : IT} {ν μ : NT} (h : Rel n τ ν σ μ) {K i : Nat} {v : Int32} (hK : (1 ≤ K ∧ K ≤ 3 ∧ i = 0) ∨ K = 7 ∨ K = 10) (b1 : K = 1 → ∃ a, v = nI a ∧ a ≤ 1000) (b2 : K = 2 → ∃ a, v = nI a ∧ a ≤ 5000) (b3 : K = 3 → ∃ a, v = nI a ∧ a ≤ 100) (b7 : K = 7 → ∃ a, v = nI a ∧ a ≤ 100) : Rel n (up2 τ K i v) ν (up2 σ K i v) μ := by
  obtain ⟨h1, h2, h3, h4, h5, h6, h7, h8, h9, h10, h11⟩ := h
  have hne : ∀ J, (J ≠ 1 ∧ J ≠ 2 ∧ J ≠ 3 ∧ J ≠ 7 ∧ J ≠ 10) → J ≠ K := by clear b1 b2 b3 b7; intro J hJ; omega
  have hi0 : K ≤ 3 → i = 0 := by clear b1 b2 b3 b7; intro hJ; omega
  have ht : ∀ J, J ≠ K → up2 τ K i v J = τ J := fun J hJ => up2_row hJ
  have hs : ∀ J, J ≠ K → up2 σ K i v J = σ J := fun J hJ => up2_row hJ
  have hu : usedM (up2 σ K i v) = usedM σ := usedM_cg (by rw [hs 0 (hne 0 (by decide))]) (by rw [hs 31 (hne 31 (by decide))]) (by rw [hs 32 (hne 32 (by decide))])
  refine ⟨h1, ?_, ?_, ?_, ?_, ?_, ?_, ?_, ?_, ?_, ?_⟩
  · intro J j hb
    have e := h2 J j hb
    by_cases c : J = K ∧ j = i
    · obtain ⟨rfl, rfl⟩ := c
      rw [up2_s, up2_s]
    · simp only [up2, if_neg c]; exact e
  · rw [hu, ht 20 (hne 20 (by decide))]; exact h3
  · rw [rPg, ht 18 (hne 18 (by decide)), ht 24 (hne 24 (by decide)), hs 18 (hne 18 (by decide))]; exact h4
  · rw [rCh, ht 6 (hne 6 (by decide))]; exact h5
  · rw [segR, ht 6 (hne 6 (by decide)), ht 22 (hne 22 (by decide))]; exact h6
  · obtain ⟨t, z, u, b, a1, a2, a3, a4, a5, a6, a7, a8⟩ := h7
    rw [rClk, hu, hs 0 (hne 0 (by decide)), hs 31 (hne 31 (by decide))]
    by_cases c : K = 3
    · obtain ⟨w, w1, w2⟩ := b3 c
      have hi : i = 0 := hi0 (by rw [c]; decide)
      subst c; subst hi
      exact ⟨t, z, u, w, a1, a2, a3, a4, a5, a6, by rw [up2_s]; exact w1, w2⟩
    · rw [hs 3 (Ne.symm c)]
      exact ⟨t, z, u, b, a1, a2, a3, a4, a5, a6, a7, a8⟩
  · obtain ⟨a, c, a1, a2, a3, a4⟩ := h8
    by_cases e1 : K = 1
    · obtain ⟨w, w1, w2⟩ := b1 e1
      have hi : i = 0 := hi0 (by rw [e1]; decide)
      subst e1; subst hi
      exact ⟨w, c, by rw [up2_s]; exact w1, w2, by rw [hs 2 (by decide)]; exact a3, a4⟩
    · by_cases e2 : K = 2
      · obtain ⟨w, w1, w2⟩ := b2 e2
        have hi : i = 0 := hi0 (by rw [e2]; decide)
        subst e2; subst hi
        exact ⟨a, w, by rw [hs 1 (by decide)]; exact a1, a2, by rw [up2_s]; exact w1, w2⟩
      · rw [rPac, hs 1 (Ne.symm e1), hs 2 (Ne.symm e2)]
        exact ⟨a, c, a1, a2, a3, a4⟩
  · intro q hq
    obtain ⟨r, f, o, a1, a2, a3, a4, a5, a6⟩ := h9 q hq
    rw [hs 8 (hne 8 (by decide)), hs 9 (hne 9 (by decide))]
    by_cases c : K = 7 ∧ i = q
    · obtain ⟨w, w1, w2⟩ := b7 c.1
      obtain ⟨rfl, rfl⟩ := c
      exact ⟨w, f, o, by rw [up2_s]; exact w1, w2, a3, a4, a5, a6⟩
    · have e : up2 σ K i v 7 q = σ 7 q := by simp only [up2]; exact if_neg (fun z => c ⟨z.1.symm, z.2.symm⟩)
      rw [e]
      exact ⟨r, f, o, a1, a2, a3, a4, a5, a6⟩
  · intro p hp
    obtain ⟨d, w, c, a1, a2, a3, a4, a5, a6⟩ := h10 p hp
    rw [hs 11 (hne 11 (by decide)), hs 12 (hne 12 (by decide)), hs 13 (hne 13 (by decide))]
    exact ⟨d, w, c, a1, a2, a3, a4, a5, a6⟩
  · rw [rFree, hs 12 (hne 12 (by decide)), hs 13 (hne 13 (by decide)), hs 14 (hne 14 (by decide))]; exact h11
theorem up2_com {σ : IT} {K i : Nat} {v : Int32} (h : K ≠ 30) : up2 (T0 σ) K i v 30 0 = 0 := by rw [up2_k (Ne.symm h)]; exact T0_30
theorem in_le {v : Int32} {a b : Nat} (ha : a < 2 ^ 31) (hb : b < 2 ^ 31) (h : inB v (nI a) (nI b) = true) : ∃ q, a ≤ q ∧ q ≤ b ∧ v = nI q := by
  simp only [inB, Bool.and_eq_true, Bool.not_eq_true', decide_eq_false_iff_not] at h
  have h0 : ¬ v < 0 := by
    intro z
    have h1 := h.1
    rw [Int32.lt_iff_toInt_lt, nI_toInt ha] at h1
    rw [Int32.lt_iff_toInt_lt, Int32.toInt_zero] at z
    omega
  obtain ⟨j, hj, rfl⟩ := nI_of h0
  have h1 := h.1
  have h2 := h.2
  rw [nI_ltI hj ha] at h1
  rw [nI_ltI hb hj] at h2
  exact ⟨j, by omega, by omega, rfl⟩
theorem t_setRest {n : Nat} {τ σ : IT} {ν μ : NT} (h : Rel n τ ν σ μ) (a r : Int32) (x0 : Int64) : okC n (k2 (hostB a) (inB r 1 100)) (if k2 (hostB a) (inB r 1 100) = 0 then (τ 7 a.toNatClampNeg).toInt64 else x0) (if k2 (hostB a) (inB r 1 100) = 0 then up2 τ 7 a.toNatClampNeg r else τ) (if k2 (hostB a) (inB r 1 100) = 0 then ν else ν) (oSetRest σ a r).1 (oSetRest σ a r).2 μ := by
  rw [oSetRest]
  by_cases c : hostB a = true
  · by_cases d : inB r 1 100 = true
    · rw [k2_0 c d, if_pos c, if_pos d, k_yes, k_yes, k_yes]
      obtain ⟨q, q1, q2, q3⟩ := in_le (a := 1) (b := 100) (by decide) (by decide) d
      exact okC_yes ((h.t0 0).upd (Or.inr (Or.inl rfl)) (fun z => absurd z (by decide)) (fun z => absurd z (by decide)) (fun z => absurd z (by decide)) (fun _ => ⟨q, q3, q2⟩)) (up2_com (σ := σ) (K := 7) (i := a.toNatClampNeg) (v := r) (by decide)) (h.eqR (by decide) (by decide))
    · rw [k2_2 c (by simpa using d), if_pos c, if_neg d, k_no n2_0, k_no n2_0, k_no n2_0]
      exact okC_no h n2_0
  · rw [k2_1 (by simpa using c), if_neg c, k_no n1_0, k_no n1_0, k_no n1_0]
    exact okC_no h n1_0
theorem t_setRank {n : Nat} {τ σ : IT} {ν μ : NT} (h : Rel n τ ν σ μ) (a r : Int32) (x0 : Int64) : okC n (k2 (pageB ν a) (inB r 0 9)) (if k2 (pageB ν a) (inB r 0 9) = 0 then (τ 10 a.toNatClampNeg).toInt64 else x0) (if k2 (pageB ν a) (inB r 0 9) = 0 then up2 τ 10 a.toNatClampNeg r else τ) (if k2 (pageB ν a) (inB r 0 9) = 0 then ν else ν) (oSetRank σ μ a r).1 (oSetRank σ μ a r).2 μ := by
  rw [oSetRank, ← pageB_n h.n0]
  by_cases c : pageB ν a = true
  · have hp := page_lt h.le30 c
    by_cases d : inB r 0 9 = true
    · rw [k2_0 c d, if_pos c, if_pos d, k_yes, k_yes, k_yes]
      exact okC_yes ((h.t0 0).upd (Or.inr (Or.inr rfl)) (fun z => absurd z (by decide)) (fun z => absurd z (by decide)) (fun z => absurd z (by decide)) (fun z => absurd z (by decide))) (up2_com (σ := σ) (K := 10) (i := a.toNatClampNeg) (v := r) (by decide)) (h.eqP (by decide) (by decide) hp)
    · rw [k2_2 c (by simpa using d), if_pos c, if_neg d, k_no n2_0, k_no n2_0, k_no n2_0]
      exact okC_no h n2_0
  · rw [k2_1 (by simpa using c), if_neg c, k_no n1_0, k_no n1_0, k_no n1_0]
    exact okC_no h n1_0
theorem t_setBudget {n : Nat} {τ σ : IT} {ν μ : NT} (h : Rel n τ ν σ μ) (r : Int32) (x0 : Int64) : okC n (k1 (inB r 1 100)) (if k1 (inB r 1 100) = 0 then (τ 3 0).toInt64 else x0) (if k1 (inB r 1 100) = 0 then up2 τ 3 0 r else τ) (if k1 (inB r 1 100) = 0 then ν else ν) (oSetBudget σ r).1 (oSetBudget σ r).2 μ := by
  rw [oSetBudget]
  by_cases d : inB r 1 100 = true
  · rw [k1_0 d, if_pos d, k_yes, k_yes, k_yes]
    obtain ⟨q, q1, q2, q3⟩ := in_le (a := 1) (b := 100) (by decide) (by decide) d
    exact okC_yes ((h.t0 0).upd (Or.inl ⟨by decide, by decide, rfl⟩) (fun z => absurd z (by decide)) (fun z => absurd z (by decide)) (fun _ => ⟨q, q3, q2⟩) (fun z => absurd z (by decide))) (up2_com (σ := σ) (K := 3) (i := 0) (v := r) (by decide)) (h.eq0 (by decide))
  · rw [k1_1 (by simpa using d), if_neg d, k_no n1_0, k_no n1_0, k_no n1_0]
    exact okC_no h n1_0
theorem t_setPaces {n : Nat} {τ σ : IT} {ν μ : NT} (h : Rel n τ ν σ μ) (a r : Int32) : oSetPaces σ a r 30 0 = kPaces a r ∧ Rel n (if kPaces a r = 0 then up2 (up2 τ 1 0 a) 2 0 r else τ) ν (oSetPaces σ a r) μ := by
  by_cases c : inB a 1 1000 = true ∧ inB r a 5000 = true
  · have e : pcode a r = 0 := by rw [pcode, c.1, c.2]; rfl
    have e2 : kPaces a r = 0 := if_pos c
    rw [oSetPaces, if_pos e, e, e2, k_yes]
    obtain ⟨q, q1, q2, q3⟩ := in_le (a := 1) (b := 1000) (by decide) (by decide) c.1
    obtain ⟨w, w1, w2, w3⟩ := in_le (v := r) (a := q) (b := 5000) (by omega) (by decide) (by rw [← q3]; exact c.2)
    have g1 := (h.t0 0).upd (K := 1) (i := 0) (v := a) (Or.inl ⟨by decide, by decide, rfl⟩) (fun _ => ⟨q, q3, q2⟩) (fun z => absurd z (by decide)) (fun z => absurd z (by decide)) (fun z => absurd z (by decide))
    have g2 := g1.upd (K := 2) (i := 0) (v := r) (Or.inl ⟨by decide, by decide, rfl⟩) (fun z => absurd z (by decide)) (fun _ => ⟨w, w3, w2⟩) (fun z => absurd z (by decide)) (fun z => absurd z (by decide))
    exact ⟨by rw [up2_k (by decide), up2_k (by decide)]; exact up2_s, g2⟩
  · have e : pcode a r = 1 := by
      rw [pcode]
      cases ca : inB a 1 1000 with
      | false => rfl
      | true =>
        cases cr : inB r a 5000 with
        | false => rfl
        | true => exact absurd ⟨ca, cr⟩ c
    have e2 : kPaces a r = 1 := if_neg c
    rw [oSetPaces, e, if_neg n1_0, e2, k_no n1_0]
    exact ⟨up2_s, h.t0 1⟩
