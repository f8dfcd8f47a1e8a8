/-! class and model: a page is found -/
theorem txL_18 {σ : IT} {n : Nat} : ∀ (k j : Nat), txL σ n k 18 j = if 30 * n ≤ j ∧ j < 30 * n + k then σ 6 (j - 30 * n) else σ 18 j := by
  intro k
  induction k with
  | zero => intro j; rw [txL, if_neg (by omega)]
  | succ k ih =>
    intro j
    rw [txL, txL_k k 6 k (by decide)]
    by_cases e : j = 30 * n + k
    · subst e
      rw [up2_s, if_pos ⟨by omega, by omega⟩, Nat.add_sub_cancel_left]
    · rw [up2_i e, ih]
      by_cases q : 30 * n ≤ j ∧ j < 30 * n + k
      · rw [if_pos q, if_pos ⟨q.1, by omega⟩]
      · rw [if_neg q, if_neg (by omega)]
/-- what a new page leaves of the model's rows -/
theorem fdS_k {σ : IT} {μ : NT} {a r : Int32} {K i : Nat} (h30 : K ≠ 30) (h18 : K ≠ 18) (hP : ¬ ((K = 10 ∨ K = 11 ∨ K = 15) ∧ i = μ 0 0)) : fdS σ μ a r K i = σ K i := by
  have e : fdX (txL (T0 σ) (μ 0 0) (μ 1 0)) (μ 0 0) r K i = σ K i := by
    rw [fdX]
    have e0 : txL (T0 σ) (μ 0 0) (μ 1 0) K i = σ K i := (txL_k _ _ _ h18).trans (up2_k h30)
    by_cases c : K = 11 ∧ i = μ 0 0
    · exact absurd ⟨Or.inr (Or.inl c.1), c.2⟩ hP
    · by_cases d : K = 10 ∧ i = μ 0 0
      · exact absurd ⟨Or.inl d.1, d.2⟩ hP
      · simp only [up2, if_neg c, if_neg d]; exact e0
  rw [fdS]
  by_cases c : K = 15 ∧ i = μ 0 0
  · exact absurd ⟨Or.inr (Or.inr c.1), c.2⟩ hP
  · simp only [up2, if_neg c]; exact e
theorem fdS_30 {σ : IT} {μ : NT} {a r : Int32} : fdS σ μ a r 30 0 = 0 := by
  rw [fdS, up2_k (by decide), fdX, up2_k (by decide), up2_k (by decide), txL_k _ _ _ (by decide)]
  exact T0_30
theorem fdS_18 {σ : IT} {μ : NT} {a r : Int32} {j : Nat} : fdS σ μ a r 18 j = if 30 * μ 0 0 ≤ j ∧ j < 30 * μ 0 0 + μ 1 0 then σ 6 (j - 30 * μ 0 0) else σ 18 j := by
  rw [fdS, up2_k (by decide), fdX, up2_k (by decide), up2_k (by decide), txL_18]
  rfl
theorem fdS_10 {σ : IT} {μ : NT} {a r : Int32} : fdS σ μ a r 10 (μ 0 0) = r := by
  rw [fdS, up2_k (by decide), fdX, up2_k (by decide), up2_s]
theorem fdS_11 {σ : IT} {μ : NT} {a r : Int32} : fdS σ μ a r 11 (μ 0 0) = σ 0 0 := by
  rw [fdS, up2_k (by decide), fdX, up2_s, txL_k _ _ _ (by decide)]
  rfl
theorem fdM_k {σ : IT} {μ : NT} {a r : Int32} {K i : Nat} (hK : K ≤ 5) (h0 : ¬ (K = 0 ∧ i = 0)) (h3 : ¬ ((K = 3 ∨ K = 5) ∧ i = μ 0 0)) : fdM σ μ a r K i = μ K i := by
  rw [fdM]
  have e : layN (fdX (txL (T0 σ) (μ 0 0) (μ 1 0)) (μ 0 0) r 6) (fdN μ a) (fdN μ a 1 0) K i = μ K i := by
    rw [layN_keep _ K i (by omega) (by omega) (by omega), fdN]
    by_cases c : K = 5 ∧ i = μ 0 0
    · exact absurd ⟨Or.inr c.1, c.2⟩ h3
    · by_cases d : K = 3 ∧ i = μ 0 0
      · exact absurd ⟨Or.inl d.1, d.2⟩ h3
      · simp only [up2, if_neg c, if_neg d]
  simp only [up2, if_neg h0]; exact e
theorem fdM_0 {σ : IT} {μ : NT} {a r : Int32} : fdM σ μ a r 0 0 = μ 0 0 + 1 := by rw [fdM, up2_s]
theorem fdM_3 {σ : IT} {μ : NT} {a r : Int32} : fdM σ μ a r 3 (μ 0 0) = μ 1 0 := by
  rw [fdM, up2_k (by decide), layN_keep _ 3 _ (by decide) (by decide) (by decide), fdN, up2_k (by decide), up2_s]
theorem fdM_5 {σ : IT} {μ : NT} {a r : Int32} : fdM σ μ a r 5 (μ 0 0) = a.toNatClampNeg := by
  rw [fdM, up2_k (by decide), layN_keep _ 5 _ (by decide) (by decide) (by decide), fdN, up2_s]
theorem find_rel {n : Nat} {τ σ : IT} {ν μ : NT} {a r : Int32} (h : Rel n τ ν σ μ) (ha : hostB a = true) (hlt : μ 0 0 < 30) : Rel n (fdTC τ ν r) (fdNC ν a.toNatClampNeg) (fdS σ μ a r) (fdM σ μ a r) := by
  have hCI := h.CI
  have hrep : repA (τ 6) (τ 22) (ν 1 0) (ν 2 0) = repM (fdX (txL (T0 σ) (μ 0 0) (μ 1 0)) (μ 0 0) r) (fdN μ a) := by
    refine rep_eq (fun j => ?_) ?_ (segR_mu h.2.2.2.2.2.1) (by rw [h.n1]; exact h.len30)
    · rw [fdX, up2_k (by decide), up2_k (by decide), txL_k _ _ _ (by decide), h.eqR (by decide) (by decide)]
      rfl
    · rw [fdN, up2_k (by decide), up2_k (by decide)]; exact h.n1
  have h15 : fdS σ μ a r 15 (μ 0 0) = zb (repA (τ 6) (τ 22) (ν 1 0) (ν 2 0)) := by rw [hrep, fdS, up2_s]
  have a6 := host_lt ha
  obtain ⟨h1, h2, h3, h4, h5, h6, ⟨t, z, u, b, c1, c2, c3, c4, c5, c6, c7, c8⟩, ⟨pa, pc, p1, p2, p3, p4⟩, h9, h10, h11⟩ := h
  obtain ⟨m1, m2, m3, m4⟩ := h1
  have hn0 : fdNC ν a.toNatClampNeg 0 0 = ν 0 0 + 1 := by simp [fdNC]
  have hs : ∀ K i, K ≠ 30 → K ≠ 18 → K ≠ 10 → K ≠ 11 → K ≠ 15 → fdS σ μ a r K i = σ K i := fun K i k1 k2 k3 k4 k5 => fdS_k k1 k2 (by omega)
  have hsp : ∀ K i, K ≠ 30 → K ≠ 18 → i ≠ μ 0 0 → fdS σ μ a r K i = σ K i := fun K i k1 k2 k3 => fdS_k k1 k2 (by omega)
  have ht : ∀ K i, (K ≤ 9 ∨ K = 20 ∨ K = 22) → fdTC τ ν r K i = τ K i := fun K i hK => fdTC_old (by omega) (by omega)
  have hu : usedM (fdS σ μ a r) = usedM σ := usedM_cg (hs 0 0 (by decide) (by decide) (by decide) (by decide) (by decide)) (hs 31 0 (by decide) (by decide) (by decide) (by decide) (by decide)) (hs 32 0 (by decide) (by decide) (by decide) (by decide) (by decide))
  refine ⟨?_, ?_, ?_, ?_, ?_, ?_, ?_, ?_, ?_, ?_, ?_⟩
  · rw [rNum, hn0, fdM_0, fdNC_old (by omega) (by omega), fdM_k (by decide) (by decide) (by omega)]
    exact ⟨by omega, by omega, m3, m4⟩
  · intro K i hb
    rw [hn0] at hb
    rcases hb with ⟨k1, k2⟩ | ⟨k1, k2⟩ | ⟨k1, k2, k3⟩
    · rw [ht K i (by omega), hs K i (by omega) (by omega) (by omega) (by omega) (by omega)]
      exact h2 K i (Or.inl ⟨k1, k2⟩)
    · rw [ht K i (by omega), hs K i (by omega) (by omega) (by omega) (by omega) (by omega)]
      exact h2 K i (Or.inr (Or.inl ⟨k1, k2⟩))
    · by_cases e : i = ν 0 0
      · have f := h11 (μ 0 0) (Nat.le_refl _) hlt
        have hK : K = 10 ∨ K = 11 ∨ K = 12 ∨ K = 13 ∨ K = 14 ∨ K = 15 := by omega
        rw [e]
        rcases hK with rfl | rfl | rfl | rfl | rfl | rfl
        · rw [show fdTC τ ν r 10 (ν 0 0) = r by simp [fdTC], m1, fdS_10]
        · rw [show fdTC τ ν r 11 (ν 0 0) = τ 0 0 by simp [fdTC], m1, fdS_11]
          exact h2 0 0 (Or.inl ⟨by decide, rfl⟩)
        · rw [show fdTC τ ν r 12 (ν 0 0) = 0 by simp [fdTC], m1, hs 12 _ (by decide) (by decide) (by decide) (by decide) (by decide), f.1]
        · rw [show fdTC τ ν r 13 (ν 0 0) = 0 by simp [fdTC], m1, hs 13 _ (by decide) (by decide) (by decide) (by decide) (by decide), f.2.1]
        · rw [show fdTC τ ν r 14 (ν 0 0) = 0 by simp [fdTC], m1, hs 14 _ (by decide) (by decide) (by decide) (by decide) (by decide), f.2.2]
        · rw [show fdTC τ ν r 15 (ν 0 0) = zb (repA (τ 6) (τ 22) (ν 1 0) (ν 2 0)) by simp [fdTC], m1, h15]
      · rw [fdTC_old (by omega) (by omega), hsp K i (by omega) (by omega) (by omega)]
        exact h2 K i (Or.inr (Or.inr ⟨k1, k2, by omega⟩))
  · rw [ht 20 0 (by decide), hu]; exact h3
  · intro p hp
    rw [hn0] at hp
    by_cases e : p = ν 0 0
    · have q3 : fdNC ν a.toNatClampNeg 3 p = ν 1 0 := by rw [e]; simp [fdNC]
      have q4 : fdNC ν a.toNatClampNeg 4 p = ν 2 0 := by rw [e]; simp [fdNC]
      have q5 : fdNC ν a.toNatClampNeg 5 p = a.toNatClampNeg := by rw [e]; simp [fdNC]
      have w18 : ∀ i, i < 30 → fdTC τ ν r 18 (30 * p + i) = τ 6 i := fun i hi => by
        rw [e]; simp only [fdTC]; rw [if_pos ⟨trivial, by omega, by omega⟩, Nat.add_sub_cancel_left]
      have w24 : ∀ i, i < 30 → fdTC τ ν r 24 (30 * p + i) = τ 22 i := fun i hi => by
        rw [e]; simp only [fdTC]; rw [if_neg (by omega), if_pos ⟨trivial, by omega, by omega⟩, Nat.add_sub_cancel_left]
      have e9 : p = μ 0 0 := by omega
      rw [q3, q4, q5]
      refine ⟨by rw [e9, fdM_5], by rw [e9, fdM_5]; exact a6, by rw [e9, fdM_3]; exact m3, by rw [e9, fdM_3]; exact m4, hCI.2.2.1, fun j hj => ?_, fun j hj => ?_, fun i hi => ?_⟩
      · show narrow .char (.int (fdTC τ ν r 18 (30 * p + j))) = .int (fdTC τ ν r 18 (30 * p + j))
        rw [w18 j hj]; exact hCI.2.2.2.1 j hj
      · show ∃ q, fdTC τ ν r 24 (30 * p + j) = nI q ∧ q < ν 1 0
        rw [w24 j (by have := hCI.2.2.1; omega)]; exact hCI.2.2.2.2.1 j hj
      · rw [w18 i (by omega), fdS_18, e9, if_pos ⟨by omega, by omega⟩, Nat.add_sub_cancel_left]
        exact h2 6 i (Or.inr (Or.inl ⟨by decide, by decide⟩))
    · have hp2 : p < ν 0 0 := by omega
      obtain ⟨b1, b2, b3, b4, b5, b6, b7, b8⟩ := h4 p hp2
      have w18 : ∀ i, i < 30 → fdTC τ ν r 18 (30 * p + i) = τ 18 (30 * p + i) := fun i hi => fdTC_old (by omega) (by omega)
      have w24 : ∀ i, i < 30 → fdTC τ ν r 24 (30 * p + i) = τ 24 (30 * p + i) := fun i hi => fdTC_old (by omega) (by omega)
      rw [fdNC_old (k := 3) (by omega) (by omega), fdNC_old (k := 4) (by omega) (by omega), fdNC_old (k := 5) (by omega) (by omega), fdM_k (K := 5) (by decide) (by omega) (by omega), fdM_k (K := 3) (by decide) (by omega) (by omega)]
      refine ⟨b1, b2, b3, b4, b5, fun j hj => ?_, fun j hj => ?_, fun i hi => ?_⟩
      · show narrow .char (.int (fdTC τ ν r 18 (30 * p + j))) = .int (fdTC τ ν r 18 (30 * p + j))
        rw [w18 j hj]; exact b6 j hj
      · show ∃ q, fdTC τ ν r 24 (30 * p + j) = nI q ∧ q < ν 3 p
        rw [w24 j (by omega)]; exact b7 j hj
      · rw [w18 i (by omega), fdS_18, if_neg (by omega)]; exact b8 i hi
  · intro j
    rw [ht 6 j (by decide)]; exact h5 j
  · have e6 : fdTC τ ν r 6 = τ 6 := funext fun j => ht 6 j (by decide)
    rw [segR, e6, fdNC_old (k := 2) (by omega) (by omega), fdNC_old (k := 1) (by omega) (by omega)]
    obtain ⟨g1, g2⟩ := segR_mu (η := fdM σ μ a r) h6
    exact ⟨g1, fun j hj => by rw [ht 22 j (by decide)]; exact g2 j hj⟩
  · refine ⟨t, z, u, b, ?_, c2, ?_, c4, by rw [hu]; exact c5, c6, ?_, c8⟩
    · rw [hs 0 0 (by decide) (by decide) (by decide) (by decide) (by decide)]; exact c1
    · rw [hs 31 0 (by decide) (by decide) (by decide) (by decide) (by decide)]; exact c3
    · rw [hs 3 0 (by decide) (by decide) (by decide) (by decide) (by decide)]; exact c7
  · refine ⟨pa, pc, ?_, p2, ?_, p4⟩
    · rw [hs 1 0 (by decide) (by decide) (by decide) (by decide) (by decide)]; exact p1
    · rw [hs 2 0 (by decide) (by decide) (by decide) (by decide) (by decide)]; exact p3
  · intro q hq
    rw [hs 7 q (by decide) (by decide) (by decide) (by decide) (by decide), hs 8 q (by decide) (by decide) (by decide) (by decide) (by decide), hs 9 q (by decide) (by decide) (by decide) (by decide) (by decide)]
    exact h9 q hq
  · intro p hp
    rw [fdM_0] at hp
    rw [hs 12 p (by decide) (by decide) (by decide) (by decide) (by decide), hs 13 p (by decide) (by decide) (by decide) (by decide) (by decide)]
    by_cases e : p = μ 0 0
    · have f := h11 p (by omega) (by omega)
      rw [f.1, f.2.1, e, fdS_11]
      exact ⟨t, 0, 0, c1, by omega, nI_0.symm, Nat.zero_le _, nI_0.symm, Nat.zero_le _⟩
    · rw [hsp 11 p (by decide) (by decide) e]
      exact h10 p (by omega)
  · intro p hp hp2
    rw [fdM_0] at hp
    rw [hs 12 p (by decide) (by decide) (by decide) (by decide) (by decide), hs 13 p (by decide) (by decide) (by decide) (by decide) (by decide), hs 14 p (by decide) (by decide) (by decide) (by decide) (by decide)]
    exact h11 p (by omega) hp2
/-- find: the code; the answer; what holds behind it, where no page is made and where one is -/
theorem t_find {n : Nat} {τ σ : IT} {ν μ : NT} (h : Rel n τ ν σ μ) (a r : Int32) : (oFind σ μ a r).2.1 30 0 = k3 (hostB a) (inB r 0 9) (fdR ν (pabL τ ν a.toNatClampNeg 30 0)) ∧ (k3 (hostB a) (inB r 0 9) (fdR ν (pabL τ ν a.toNatClampNeg 30 0)) = 0 → fdAns ν (pabL τ ν a.toNatClampNeg 30 0) = (oFind σ μ a r).1) ∧
    (k3 (hostB a) (inB r 0 9) (fdR ν (pabL τ ν a.toNatClampNeg 30 0)) = 0 → pabL τ ν a.toNatClampNeg 30 0 = none → Rel n (fdTC τ ν r) (fdNC ν a.toNatClampNeg) (oFind σ μ a r).2.1 (oFind σ μ a r).2.2) ∧
    (¬ (k3 (hostB a) (inB r 0 9) (fdR ν (pabL τ ν a.toNatClampNeg 30 0)) = 0 ∧ pabL τ ν a.toNatClampNeg 30 0 = none) → Rel n τ ν (oFind σ μ a r).2.1 (oFind σ μ a r).2.2) := by
  rw [oFind]
  by_cases c : hostB a = true
  · by_cases d : inB r 0 9 = true
    · have g := h.t0 0
      have hp : pabL τ ν a.toNatClampNeg 30 0 = fdL (T0 σ) μ a (μ 0 0) 0 := by
        obtain ⟨q, hq, rfl⟩ := idx_host c
        rw [nI_clamp (by omega), ← h.n0]
        refine pab_eq (τ := τ) (σ := T0 σ) hq (fun p hp => ?_) (fun p hp => ?_) (ν 0 0) 30 0 (Nat.zero_add _) h.le30
        · obtain ⟨b1, b2, -⟩ := h.2.2.2.1 p hp
          exact ⟨b1, b2⟩
        · obtain ⟨b1, b2, b3, b4, b5, b6, b7, b8⟩ := g.2.2.2.1 p hp
          exact same_eq (fun j _ => g.eqR (by decide) (by decide)) h.n1 b3 b8
      rw [if_pos c, if_pos d, ← hp]
      cases e : pabL τ ν a.toNatClampNeg 30 0 with
      | some p =>
        rw [k3_0 c d (show fdR ν (some p) = true from rfl)]
        exact ⟨T0_30 (σ := σ), fun _ => rfl, fun _ z => (nomatch z), fun _ => g⟩
      | none =>
        by_cases q : μ 0 0 = 30
        · have e2 : fdR ν none = false := fdR_f rfl (h.n0.trans q)
          rw [k3_3 c d e2, fdA, if_pos q]
          exact ⟨T1_30 (σ := σ), fun z => absurd z n3_0, fun z _ => absurd z n3_0, fun _ => h.t1 3⟩
        · have hl := h.le30
          have h0 := h.n0
          have e2 : fdR ν none = true := decide_eq_true (by omega)
          rw [k3_0 c d e2, fdA, if_neg q]
          exact ⟨fdS_30 (σ := σ) (μ := μ) (a := a) (r := r), fun _ => by show nI (ν 0 0) = nI (μ 0 0); rw [h0], fun _ _ => find_rel h c (by omega), fun z => absurd ⟨rfl, rfl⟩ z⟩
    · rw [k3_2 c (by simpa using d), if_pos c, if_neg d]
      exact ⟨T1_30 (σ := σ), fun z => absurd z n2_0, fun z _ => absurd z n2_0, fun _ => h.t1 2⟩
  · rw [k3_1 (by simpa using c), if_neg c]
    exact ⟨T1_30 (σ := σ), fun z => absurd z n1_0, fun z _ => absurd z n1_0, fun _ => h.t1 1⟩
