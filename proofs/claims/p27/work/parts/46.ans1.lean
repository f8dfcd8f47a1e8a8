/-! class and model: answers that change nothing -/
theorem Rel.left {n : Nat} {τ σ : IT} {ν μ : NT} (h : Rel n τ ν σ μ) : leftC τ = leftM σ ∧ ∃ u, u ≤ 100 ∧ leftM σ = nI u := by
  have h3 := h.eq0 (K := 3) (by decide)
  obtain ⟨h1, h2, h20, h4, h5, h6, ⟨t, z, u, b, a1, a2, a3, a4, a5, a6, a7, a8⟩, h8⟩ := h
  refine ⟨left_eq h3 h20 a7 a8 a5 a6, ?_⟩
  have e1 : leftM σ = if usedM σ < σ 3 0 then σ 3 0 - usedM σ else 0 := rfl
  rw [e1, a5, a7]
  by_cases c : u < b
  · rw [if_pos ((nI_ltI (by omega) (by omega)).mpr c), pk_sub (by omega)]
    exact ⟨b - u, by omega, rfl⟩
  · rw [if_neg (fun q => c ((nI_ltI (by omega) (by omega)).mp q))]
    exact ⟨0, by decide, nI_0.symm⟩
theorem Rel.now {n : Nat} {τ σ : IT} {ν μ : NT} (h : Rel n τ ν σ μ) : ∃ t, σ 0 0 = nI t ∧ t ≤ 100000 := by
  obtain ⟨h1, h2, h20, h4, h5, h6, ⟨t, z, u, b, a1, a2, a3⟩, h8⟩ := h
  exact ⟨t, a1, a2⟩
theorem Rel.host {n p : Nat} {τ σ : IT} {ν μ : NT} (h : Rel n τ ν σ μ) (hp : p < ν 0 0) : ν 5 p = μ 5 p ∧ μ 5 p < 6 := by
  obtain ⟨b1, b2, -⟩ := h.2.2.2.1 p hp
  exact ⟨b1, b2⟩
theorem Rel.opn {n p : Nat} {τ σ : IT} {ν μ : NT} (h : Rel n τ ν σ μ) (hp : p < ν 0 0) : isRdy τ ν p = openB σ μ p := by
  obtain ⟨t, ht, ht2⟩ := h.now
  obtain ⟨b1, b2⟩ := h.host hp
  exact open_eq (h.eq0 (by decide)) ht ht2 h.left.1 (h.eqP (by decide) (by decide) hp) (h.eqP (by decide) (by decide) hp) (h.eqP (by decide) (by decide) hp) b1 (by rw [b1]; exact h.eqR (by decide) (by decide))
theorem Rel.kept {n p : Nat} {τ σ : IT} {ν μ : NT} (h : Rel n τ ν σ μ) (hp : p < ν 0 0) : keptC τ p = keptB (σ 14 p) (σ 15 p) := by
  rw [keptC, h.eqP (by decide) (by decide) hp, h.eqP (by decide) (by decide) hp]
theorem Rel.press {n p : Nat} {τ σ : IT} {ν μ : NT} (h : Rel n τ ν σ μ) (hp : p < ν 0 0) : pressC τ p = pressM σ p := by
  rw [pressC, pressM, h.eqP (by decide) (by decide) hp, h.eqP (by decide) (by decide) hp, h.eq0 (by decide)]
theorem a_scan {n : Nat} {τ σ : IT} {ν μ : NT} (h : Rel n τ ν σ μ) : numO (scanL τ ν 30 0 none) = numO (bestM (T0 σ) μ (μ 0 0) 0 none 0) := by
  have g := h.t0 0
  have e := best_scan (τ := τ) (σ := T0 σ) h.le30 h.n0 (fun p hp => g.opn hp) (fun p hp => g.press hp) (fun p hp => g.eqP (by decide) (by decide) hp) (ν 0 0) 30 0 none 0 (Nat.zero_add _) h.le30 (fun _ q => nomatch q)
  rw [e, h.n0]
theorem a_next {n : Nat} {τ σ : IT} {ν μ : NT} (h : Rel n τ ν σ μ) : numO (nextL τ ν 6 0 none) = numO (bestM (T0 σ) μ (μ 0 0) 0 none 0) := by
  rw [next_scan h.le30 (fun p hp => by have := h.host hp; omega)]
  exact a_scan h
theorem a_waiting {n : Nat} {τ σ : IT} {ν μ : NT} (h : Rel n τ ν σ μ) : waitL τ ν 30 0 (-1) = oWaiting σ μ := by
  have g := h.t0 0
  obtain ⟨t, ht, ht2⟩ := h.now
  obtain ⟨hl, u, hu1, hu2⟩ := g.left
  refine waits_eq h.le30 h.n0 (h.eq0 (by decide)) ht (by omega) (fun p hp => g.kept hp) (fun p hp => ?_)
  obtain ⟨b1, b2⟩ := h.host hp
  obtain ⟨d, v, c, d1, d2, -⟩ := h.2.2.2.2.2.2.2.2.2.1 p (by rw [← h.n0]; exact hp)
  obtain ⟨r, f, o, -, -, -, -, o1, o2⟩ := h.2.2.2.2.2.2.2.2.1 (μ 5 p) b2
  exact ready_eq (d := d) (o := o) (u := u) (h.eq0 (by decide)) ht (by omega) hl hu2 hu1 (g.eqP (by decide) (by decide) hp) d1 (by omega) (by rw [b1]; exact g.eqR (by decide) (by decide)) o1 (by omega)
theorem a_segments {n : Nat} {τ σ : IT} {ν μ : NT} (h : Rel n τ ν σ μ) : nI (ν 2 0) = nI (layN (σ 6) μ (μ 1 0) 6 0) := by
  have e6 : σ 6 = τ 6 := funext fun j => (h.eqR (by decide) (by decide)).symm
  rw [e6, ← h.n1, h.2.2.2.2.2.1.1]
theorem a_isTrap {n : Nat} {τ σ : IT} {ν μ : NT} (h : Rel n τ ν σ μ) : zb (repA (τ 6) (τ 22) (ν 1 0) (ν 2 0)) = zb (repM (T0 σ) μ) := by
  rw [rep_eq (τ := τ) (σ := T0 σ) (ν := ν) (μ := μ) (fun j => (h.t0 0).eqR (by decide) (by decide)) h.n1 h.2.2.2.2.2.1 (by rw [h.n1]; exact h.len30)]
theorem a_dueAt {n p : Nat} {τ σ : IT} {ν μ : NT} (h : Rel n τ ν σ μ) (hp : p < ν 0 0) : dueC τ p = if keptB (σ 14 p) (σ 15 p) = true then σ 11 p else -1 := by
  rw [dueC, h.kept hp, h.eqP (by decide) (by decide) hp]
theorem page_lt {ν : NT} {i : Int32} (h30 : ν 0 0 ≤ 30) (h : pageB ν i = true) : i.toNatClampNeg < ν 0 0 := by
  obtain ⟨q, hq, rfl⟩ := idx_page h30 h
  rw [nI_clamp (by omega)]
  exact hq
theorem pageB_n {ν μ : NT} (h : ν 0 0 = μ 0 0) (i : Int32) : pageB ν i = pageB μ i := by rw [pageB, pageB, h]
theorem host_lt {i : Int32} (h : hostB i = true) : i.toNatClampNeg < 6 := by
  obtain ⟨q, hq, rfl⟩ := idx_host h
  rw [nI_clamp (by omega)]
  exact hq
theorem k_no {k : Int32} (h : ¬ k = 0) {α : Type} (x y : α) : (if k = 0 then x else y) = y := if_neg h
theorem k_yes {α : Type} (x y : α) : (if (0 : Int32) = 0 then x else y) = x := if_pos rfl
theorem n1_0 : ¬ (1 : Int32) = 0 := by decide
theorem n2_0 : ¬ (2 : Int32) = 0 := by decide
theorem n3_0 : ¬ (3 : Int32) = 0 := by decide
theorem okC_no {n : Nat} {k b : Int32} {x1 : Int64} {τ σ : IT} {ν μ : NT} (h : Rel n τ ν σ μ) (hk : ¬ k = 0) : okC n k x1 τ ν b (T1 σ k) μ := ⟨T1_30, fun z => absurd z hk, h.t1 k⟩
theorem okC_no1 {n : Nat} {k b : Int32} {x1 : Int64} {τ σ : IT} {ν μ : NT} (h : Rel n τ ν σ μ) (hk : ¬ k = 0) : okC n k x1 τ ν b (up2 σ 30 0 k) μ := ⟨up2_s, fun z => absurd z hk, h.t0 k⟩
theorem okC_yes {n : Nat} {b v : Int32} {τ σ : IT} {ν μ : NT} (h : Rel n τ ν σ μ) (h0 : σ 30 0 = 0) (hv : v = b) : okC n 0 v.toInt64 τ ν b σ μ := ⟨h0, fun _ => by rw [hv], h⟩
theorem t_hostQ {n K : Nat} {τ σ : IT} {ν μ : NT} (h : Rel n τ ν σ μ) (h6 : 6 ≤ K) (h9 : K ≤ 9) (a : Int32) (x0 : Int64) : okC n (k1 (hostB a)) (if k1 (hostB a) = 0 then (τ K a.toNatClampNeg).toInt64 else x0) (if k1 (hostB a) = 0 then τ else τ) (if k1 (hostB a) = 0 then ν else ν) (oHostQ σ K a).1 (oHostQ σ K a).2 μ := by
  by_cases c : hostB a = true
  · rw [k1_0 c, oHostQ, if_pos c, k_yes, k_yes, k_yes]
    exact okC_yes (h.t0 0) (T0_30 (σ := σ)) (h.eqR h6 h9)
  · rw [k1_1 (by simpa using c), oHostQ, if_neg c, k_no n1_0, k_no n1_0, k_no n1_0]
    exact okC_no h n1_0
theorem t_pageQ {n K : Nat} {τ σ : IT} {ν μ : NT} (h : Rel n τ ν σ μ) (h6 : 10 ≤ K) (h9 : K ≤ 15) (a : Int32) (x0 : Int64) : okC n (k1 (pageB ν a)) (if k1 (pageB ν a) = 0 then (τ K a.toNatClampNeg).toInt64 else x0) (if k1 (pageB ν a) = 0 then τ else τ) (if k1 (pageB ν a) = 0 then ν else ν) (oPageQ σ μ K a) (oIsAsked σ μ a) μ := by
  rw [oIsAsked, oPageQ, ← pageB_n h.n0]
  by_cases c : pageB ν a = true
  · have hp := page_lt h.le30 c
    rw [k1_0 c, if_pos c, k_yes, k_yes, k_yes, c]
    exact okC_yes (h.t0 0) up2_s (h.eqP h6 h9 hp)
  · have c' : pageB ν a = false := by simpa using c
    rw [k1_1 c', if_neg c, k_no n1_0, k_no n1_0, k_no n1_0, c']
    exact okC_no1 h n1_0
theorem t_dueAt {n : Nat} {τ σ : IT} {ν μ : NT} (h : Rel n τ ν σ μ) (a : Int32) (x0 : Int64) : okC n (k1 (pageB ν a)) (if k1 (pageB ν a) = 0 then (dueC τ a.toNatClampNeg).toInt64 else x0) (if k1 (pageB ν a) = 0 then τ else τ) (if k1 (pageB ν a) = 0 then ν else ν) (oDueAt σ μ a) (oIsAsked σ μ a) μ := by
  rw [oIsAsked, oDueAt, ← pageB_n h.n0]
  by_cases c : pageB ν a = true
  · have hp := page_lt h.le30 c
    rw [k1_0 c, if_pos c, k_yes, k_yes, k_yes, c]
    exact okC_yes (h.t0 0) up2_s (a_dueAt h hp)
  · have c' : pageB ν a = false := by simpa using c
    rw [k1_1 c', if_neg c, k_no n1_0, k_no n1_0, k_no n1_0, c']
    exact okC_no1 h n1_0
/-- mayVisit: the class's answer as a long, the model's as a bool -/
theorem t_mayVisit {n : Nat} {τ σ : IT} {ν μ : NT} (h : Rel n τ ν σ μ) (a : Int32) (x0 : Int64) : oIsAsked σ μ a 30 0 = k1 (pageB ν a) ∧ (k1 (pageB ν a) = 0 → (if k1 (pageB ν a) = 0 then (if isRdy τ ν a.toNatClampNeg = true then (1 : Int64) else 0) else x0) = if oMayVisit σ μ a = true then (1 : Int64) else 0) ∧ Rel n (if k1 (pageB ν a) = 0 then τ else τ) (if k1 (pageB ν a) = 0 then ν else ν) (oIsAsked σ μ a) μ := by
  rw [oIsAsked, oMayVisit, ← pageB_n h.n0]
  by_cases c : pageB ν a = true
  · have hp := page_lt h.le30 c
    rw [k1_0 c, if_pos c, k_yes, k_yes, k_yes, c, h.opn hp]
    exact ⟨up2_s, fun _ => rfl, h.t0 0⟩
  · have c' : pageB ν a = false := by simpa using c
    rw [k1_1 c', if_neg c, k_no n1_0, k_no n1_0, k_no n1_0, c']
    exact ⟨up2_s, fun z => absurd z n1_0, h.t0 1⟩
/-- the shares are no one's but share's -/
theorem t_share {n : Nat} {τ σ : IT} {ν μ : NT} (h : Rel n τ ν σ μ) (a r : Int32) (x0 : Int64) : okC n (k2 (pageB ν a) (inB r 0 100)) (if k2 (pageB ν a) (inB r 0 100) = 0 then (svN τ ν r.toNatClampNeg 25 a.toNatClampNeg).toInt64 else x0) (if k2 (pageB ν a) (inB r 0 100) = 0 then svN τ ν r.toNatClampNeg else τ) (if k2 (pageB ν a) (inB r 0 100) = 0 then ν else ν) (oShare σ μ a r).1 (oShare σ μ a r).2 μ := by
  rw [oShare, ← pageB_n h.n0]
  by_cases c : pageB ν a = true
  · have hp := page_lt h.le30 c
    by_cases d : inB r 0 100 = true
    · rw [k2_0 c d, if_pos c, if_pos d, k_yes, k_yes, k_yes]
      have e := share_eq (τ := τ) (σ := σ) (ν := ν) (μ := μ) h.le30 h.n0 (fun p hp => ⟨h.eqP (by decide) (by decide) hp, h.eqP (by decide) (by decide) hp, h.eqP (by decide) (by decide) hp, h.eqP (by decide) (by decide) hp⟩) r.toNatClampNeg
      refine okC_yes (h.cg (Nat.le_refl n) (fun K hK => funext fun i => svN_k hK _) (fun K h30 h36 => funext fun i => ?_) rfl (fun _ _ => rfl)) ?_ (e _ hp).2.2.2.2
      · show shrL (rstL (T0 σ) (μ 0 0)) μ r.toNatClampNeg K i = σ K i
        rw [shrL_k h36, rstL_k h36]
        exact up2_k h30
      · show shrL (rstL (T0 σ) (μ 0 0)) μ r.toNatClampNeg 30 0 = 0
        rw [shrL_k (by decide), rstL_k (by decide)]
        exact up2_s
    · rw [k2_2 c (by simpa using d), if_pos c, if_neg d, k_no n2_0, k_no n2_0, k_no n2_0]
      exact okC_no h n2_0
  · rw [k2_1 (by simpa using c), if_neg c, k_no n1_0, k_no n1_0, k_no n1_0]
    exact okC_no h n1_0
