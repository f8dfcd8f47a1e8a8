/-! class and model: ticks pass; characters come; the address is emptied -/
theorem pass_rel {n t d : Nat} {τ σ : IT} {ν μ : NT} (h : Rel n τ ν σ μ) (ht : σ 0 0 = nI t) (htd : t + d ≤ 100000) : Rel n (passC τ (nI d)) ν (up2 (T0 σ) 0 0 (σ 0 0 + nI d)) μ := by
  have e00 := h.eq0 (K := 0) (by decide)
  obtain ⟨h1, h2, h3, h4, h5, h6, ⟨t9, z, u, b, a1, a2, a3, a4, a5, a6, a7, a8⟩, h8, h9, h10, h11⟩ := h
  have et : t9 = t := (nI_eq (by omega) (by omega)).mp (a1.symm.trans ht)
  subst et
  obtain ⟨p20, p0, pK⟩ := pass_eq e00 ht htd h3 a3 a4
  have pR : ∀ K, K ≠ 0 → K ≠ 20 → passC τ (nI d) K = τ K := fun K k0 k20 => funext fun i => pK K i k0 k20
  have hs : ∀ K, K ≠ 0 → K ≠ 30 → up2 (T0 σ) 0 0 (σ 0 0 + nI d) K = σ K := fun K k0 k30 => (up2_row k0).trans (up2_30 k30)
  refine ⟨h1, ?_, p20, ?_, ?_, ?_, ?_, ?_, ?_, ?_, ?_⟩
  · intro K i hb
    have e := h2 K i hb
    by_cases c : K = 0
    · subst c
      have hi : i = 0 := by rcases hb with q | q | q <;> omega
      subst hi
      rw [p0, up2_s]
    · rw [pR K c (by rcases hb with q | q | q <;> omega), hs K c (by rcases hb with q | q | q <;> omega)]
      exact e
  · rw [rPg, pR 18 (by decide) (by decide), pR 24 (by decide) (by decide), hs 18 (by decide) (by decide)]; exact h4
  · rw [rCh, pR 6 (by decide) (by decide)]; exact h5
  · rw [segR, pR 6 (by decide) (by decide), pR 22 (by decide) (by decide)]; exact h6
  · have en : σ 0 0 + nI d = nI (t9 + d) := by rw [ht]; exact nI_add _ _
    have eu : ∃ w, w ≤ 100 ∧ usedM (up2 (T0 σ) 0 0 (σ 0 0 + nI d)) = nI w := by
      rw [show usedM (up2 (T0 σ) 0 0 (σ 0 0 + nI d)) = if σ 31 0 = (σ 0 0 + nI d) / 100 then σ 32 0 else 0 from rfl]
      rw [en, a3, show nI (t9 + d) / 100 = nI ((t9 + d) / 100) from pk_div (d := 100) (by omega) (by decide) (by decide)]
      by_cases q : z = (t9 + d) / 100
      · have q2 : z = t9 / 100 := by omega
        rw [if_pos (by rw [q])]
        refine ⟨u, a6, ?_⟩
        rw [← a5, usedM, a3, ht, show nI t9 / 100 = nI (t9 / 100) from pk_div (d := 100) (by omega) (by decide) (by decide), if_pos (by rw [q2])]
      · rw [if_neg (fun y => q ((nI_eq (by omega) (by omega)).mp y))]
        exact ⟨0, by decide, nI_0.symm⟩
    obtain ⟨w, w1, w2⟩ := eu
    exact ⟨t9 + d, z, w, b, by rw [up2_s]; exact en, htd, by rw [hs 31 (by decide) (by decide)]; exact a3, by omega, w2, w1, by rw [hs 3 (by decide) (by decide)]; exact a7, a8⟩
  · rw [rPac, hs 1 (by decide) (by decide), hs 2 (by decide) (by decide)]; exact h8
  · rw [rHst, hs 7 (by decide) (by decide), hs 8 (by decide) (by decide), hs 9 (by decide) (by decide)]; exact h9
  · rw [rPgn, hs 11 (by decide) (by decide), hs 12 (by decide) (by decide), hs 13 (by decide) (by decide)]; exact h10
  · rw [rFree, hs 12 (by decide) (by decide), hs 13 (by decide) (by decide), hs 14 (by decide) (by decide)]; exact h11
theorem t_pass {n : Nat} {τ σ : IT} {ν μ : NT} (h : Rel n τ ν σ μ) (a : Int32) (x0 : Int64) : okC n (kPass τ a) (if kPass τ a = 0 then (τ 0 0 + a).toInt64 else x0) (if kPass τ a = 0 then passC τ a else τ) (if kPass τ a = 0 then ν else ν) (oPass σ a).1 (oPass σ a).2 μ := by
  have e00 := h.eq0 (K := 0) (by decide)
  rw [oPass, kPass]
  by_cases c : inB a 1 1000 = true
  · obtain ⟨d, d1, d2, rfl⟩ := in_le (a := 1) (b := 1000) (by decide) (by decide) c
    obtain ⟨t, ht, ht2⟩ := h.now
    have en : σ 0 0 + nI d = nI (t + d) := by rw [ht]; exact nI_add _ _
    have hc : nI 100000 < σ 0 0 + nI d ↔ 100000 < t + d := by rw [en, nI_ltI (by omega) (by omega)]
    by_cases q : (100000 : Int32) < σ 0 0 + nI d
    · have q2 : decide (τ 0 0 + nI d ≤ 100000) = false := by rw [e00]; exact decide_eq_false (Int32.not_le.mpr q)
      rw [k2_2 c q2, if_pos c, if_pos q, k_no n2_0, k_no n2_0, k_no n2_0]
      exact okC_no h n2_0
    · have q2 : decide (τ 0 0 + nI d ≤ 100000) = true := by rw [e00]; exact decide_eq_true (Int32.not_lt.mp q)
      rw [k2_0 c q2, if_pos c, if_neg q, k_yes, k_yes, k_yes]
      exact okC_yes (pass_rel h ht (by have := mt hc.mpr q; omega)) (up2_com (σ := σ) (K := 0) (i := 0) (v := (σ 0 0 + nI d)) (by decide)) (by rw [e00])
  · rw [k2_1 (by simpa using c), if_neg c, k_no n1_0, k_no n1_0, k_no n1_0]
    exact okC_no h n1_0
theorem addT_k {τ : IT} {ν : NT} {c : Int32} {K : Nat} (h6 : K ≠ 6) (h22 : K ≠ 22) : addT τ ν c K = τ K := by
  rw [addT]
  split
  · rw [up2_row h6, up2_row h22]
  · rw [up2_row h6]
theorem addT_6 {τ : IT} {ν : NT} {c : Int32} {j : Nat} : addT τ ν c 6 j = if j = ν 1 0 then c else τ 6 j := by
  rw [addT]
  split
  · by_cases e : j = ν 1 0
    · subst e; rw [up2_s, if_pos rfl]
    · rw [up2_i e, if_neg e]; rfl
  · by_cases e : j = ν 1 0
    · subst e; rw [up2_s, if_pos rfl]
    · rw [up2_i e, if_neg e]
theorem addN_k {τ : IT} {ν : NT} {c : Int32} {K : Nat} (h1 : K ≠ 1) (h2 : K ≠ 2) : addN τ ν c K = ν K := by
  rw [addN]
  split
  · rw [up2_row h1, up2_row h2]
  · rw [up2_row h1]
theorem addN_1 {τ : IT} {ν : NT} {c : Int32} : addN τ ν c 1 0 = ν 1 0 + 1 := by rw [addN]; split <;> rfl
theorem type_rel {n : Nat} {τ σ : IT} {ν μ : NT} {c : Int32} (h : Rel n τ ν σ μ) (hc : chr0 c) (hl : μ 1 0 < 30) : Rel n (addT τ ν c) (addN τ ν c) (up2 (T0 σ) 6 (μ 1 0) c) (up2 μ 1 0 (μ 1 0 + 1)) := by
  obtain ⟨h1, h2, h3, h4, h5, h6, h7, h8, h9, h10, h11⟩ := h
  obtain ⟨m1, m2, m3, m4⟩ := h1
  have hs : ∀ K, K ≠ 6 → K ≠ 30 → up2 (T0 σ) 6 (μ 1 0) c K = σ K := fun K k6 k30 => (up2_row k6).trans (up2_30 k30)
  have hm : ∀ K, K ≠ 1 → up2 μ 1 0 (μ 1 0 + 1) K = μ K := fun K k1 => up2_row k1
  have hu : usedM (up2 (T0 σ) 6 (μ 1 0) c) = usedM σ := usedM_cg (by rw [hs 0 (by decide) (by decide)]) (by rw [hs 31 (by decide) (by decide)]) (by rw [hs 32 (by decide) (by decide)])
  refine ⟨?_, ?_, ?_, ?_, ?_, segR_type h6, ?_, ?_, ?_, ?_, ?_⟩
  · rw [rNum, addN_k (by decide) (by decide), hm 0 (by decide), addN_1, up2_s]
    exact ⟨m1, m2, by omega, by omega⟩
  · intro K i hb
    rw [addN_k (by decide) (by decide)] at hb
    have e := h2 K i hb
    by_cases k6 : K = 6
    · subst k6
      rw [addT_6, m3]
      by_cases q : i = μ 1 0
      · subst q; rw [if_pos rfl, up2_s]
      · rw [if_neg q, up2_i q]; exact e.trans (congrFun (up2_30 (σ := σ) (c := 0) (K := 6) (by decide)) i).symm
    · rw [addT_k k6 (by rcases hb with q | q | q <;> omega), hs K k6 (by rcases hb with q | q | q <;> omega)]
      exact e
  · rw [addT_k (by decide) (by decide), hu]; exact h3
  · rw [rPg, addN_k (by decide) (by decide), addN_k (by decide) (by decide), addN_k (by decide) (by decide), addN_k (by decide) (by decide), hm 5 (by decide), hm 3 (by decide), addT_k (by decide) (by decide), addT_k (by decide) (by decide), hs 18 (by decide) (by decide)]
    exact h4
  · intro j
    rw [addT_6]
    by_cases q : j = ν 1 0
    · rw [if_pos q]; exact hc
    · rw [if_neg q]; exact h5 j
  · rw [rClk, hu, hs 0 (by decide) (by decide), hs 3 (by decide) (by decide), hs 31 (by decide) (by decide)]; exact h7
  · rw [rPac, hs 1 (by decide) (by decide), hs 2 (by decide) (by decide)]; exact h8
  · rw [rHst, hs 7 (by decide) (by decide), hs 8 (by decide) (by decide), hs 9 (by decide) (by decide)]; exact h9
  · rw [rPgn, hm 0 (by decide), hs 11 (by decide) (by decide), hs 12 (by decide) (by decide), hs 13 (by decide) (by decide)]; exact h10
  · rw [rFree, hm 0 (by decide), hs 12 (by decide) (by decide), hs 13 (by decide) (by decide), hs 14 (by decide) (by decide)]; exact h11
theorem t_type {n : Nat} {τ σ : IT} {ν μ : NT} (h : Rel n τ ν σ μ) (c : Int32) (x0 : Int64) : okC n (kType ν c) (if kType ν c = 0 then (nI (ν 1 0 + 1)).toInt64 else x0) (if kType ν c = 0 then addT τ ν c else τ) (if kType ν c = 0 then addN τ ν c else ν) (oType σ μ c).1 (oType σ μ c).2.1 (oType σ μ c).2.2 := by
  rw [oType, kType, h.n1]
  by_cases d : c = 47 ∨ inB c 97 122 = true
  · rw [if_pos d, if_pos d]
    by_cases e : μ 1 0 = 30
    · rw [if_pos e, if_pos e, k_no n2_0, k_no n2_0, k_no n2_0]
      exact okC_no h n2_0
    · rw [if_neg e, if_neg e, k_yes, k_yes, k_yes]
      have hl := h.len30
      exact okC_yes (type_rel h (Or.inr d) (by omega)) (up2_com (σ := σ) (K := 6) (i := (μ 1 0)) (v := c) (by decide)) rfl
  · rw [if_neg d, if_neg d, k_no n1_0, k_no n1_0, k_no n1_0]
    exact okC_no h n1_0
theorem t_clear {n : Nat} {τ σ : IT} {ν μ : NT} (h : Rel n τ ν σ μ) : nI (ν 1 0) = nI (μ 1 0) ∧ Rel n τ (up2 (up2 ν 1 0 0) 2 0 0) (T0 σ) (up2 μ 1 0 0) := by
  refine ⟨by rw [h.n1], ?_⟩
  obtain ⟨h1, h2, h3, h4, h5, h6, h7, h8, h9, h10, h11⟩ := h.t0 0
  obtain ⟨m1, m2, m3, m4⟩ := h1
  have hn : ∀ K, K ≠ 1 → K ≠ 2 → up2 (up2 ν 1 0 0) 2 0 0 K = ν K := fun K k1 k2 => (up2_row k2).trans (up2_row k1)
  have hm : ∀ K, K ≠ 1 → up2 μ 1 0 0 K = μ K := fun K k1 => up2_row k1
  have e1 : up2 (up2 ν 1 0 0) 2 0 0 1 0 = 0 := by rw [up2_k (by decide), up2_s]
  have e2 : up2 (up2 ν 1 0 0) 2 0 0 2 0 = 0 := up2_s
  refine ⟨?_, ?_, h3, ?_, h5, ?_, h7, h8, h9, ?_, ?_⟩
  · rw [rNum, hn 0 (by decide) (by decide), hm 0 (by decide), e1, up2_s]
    exact ⟨m1, m2, rfl, by decide⟩
  · intro K i hb
    rw [hn 0 (by decide) (by decide)] at hb
    exact h2 K i hb
  · rw [rPg, hn 0 (by decide) (by decide), hn 5 (by decide) (by decide), hn 3 (by decide) (by decide), hn 4 (by decide) (by decide), hm 5 (by decide), hm 3 (by decide)]
    exact h4
  · rw [segR, e1, e2, layN, up2_s]
    exact ⟨rfl, fun j hj => absurd hj (Nat.not_lt_zero _)⟩
  · rw [rPgn, hm 0 (by decide)]; exact h10
  · rw [rFree, hm 0 (by decide)]; exact h11
