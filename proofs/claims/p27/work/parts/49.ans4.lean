/-! class and model: a visit -/
theorem visC_row {τ : IT} {ν : NT} {q K : Nat} {o : Int32} (ho : inB o 0 3 = true) (hK : K = 6 ∨ K = 18 ∨ K = 22 ∨ K = 24) : visC τ ν q o K = τ K := by
  funext i
  rcases out_cases ho with rfl | rfl | rfl | rfl <;> rcases hK with rfl | rfl | rfl | rfl <;> simp [visC, visA, settleC, setA, setB, up2]
theorem vis4_row {σ : IT} {hh q K : Nat} {o : Int32} (ho : inB o 0 3 = true) (hK : K = 0 ∨ K = 1 ∨ K = 2 ∨ K = 3 ∨ K = 7 ∨ K = 18) : vis4 σ hh q o K = σ K := by
  funext i
  rcases out_cases ho with rfl | rfl | rfl | rfl <;> rcases hK with rfl | rfl | rfl | rfl | rfl | rfl <;> simp [vis4, vis3, vis2, vis1, vis0, up2]
theorem vis4_31 {σ : IT} {hh q : Nat} {o : Int32} (ho : inB o 0 3 = true) : vis4 σ hh q o 31 0 = σ 0 0 / 100 := by
  rcases out_cases ho with rfl | rfl | rfl | rfl <;> simp [vis4, vis3, vis2, vis1, vis0, up2]
theorem vis4_30 {σ : IT} {hh q : Nat} {o : Int32} (ho : inB o 0 3 = true) : vis4 σ hh q o 30 0 = 0 := by
  rcases out_cases ho with rfl | rfl | rfl | rfl <;> simp [vis4, vis3, vis2, vis1, vis0, up2]
theorem vis4_use {σ : IT} {hh q : Nat} {o : Int32} (ho : inB o 0 3 = true) : usedM (vis4 σ hh q o) = usedM σ + 1 := by
  have e1 : usedM (vis4 σ hh q o) = usedF σ := by
    rcases out_cases ho with rfl | rfl | rfl | rfl <;> simp [usedM, vis4, vis3, vis2, vis1, vis0, up2]
  rw [e1, usedM, usedF]
  by_cases c : σ 31 0 = σ 0 0 / 100
  · rw [if_pos c, if_pos c]
  · rw [if_neg c, if_neg c]; rfl
theorem vis4_8 {σ : IT} {hh q i : Nat} {o : Int32} (ho : inB o 0 3 = true) : vis4 σ hh q o 8 i = if i = hh then failF σ hh o else σ 8 i := by
  by_cases e : i = hh
  · subst e; rw [if_pos rfl]
    rcases out_cases ho with rfl | rfl | rfl | rfl <;> simp [vis4, vis3, vis2, vis1, vis0, up2]
  · rw [if_neg e]
    rcases out_cases ho with rfl | rfl | rfl | rfl <;> simp [vis4, vis3, vis2, vis1, vis0, up2, e]
theorem vis4_9 {σ : IT} {hh q i : Nat} {o : Int32} (ho : inB o 0 3 = true) : vis4 σ hh q o 9 i = if i = hh then σ 0 0 + σ 7 hh <<< (powF (failF σ hh o) &&& 31) else σ 9 i := by
  by_cases e : i = hh
  · subst e; rw [if_pos rfl, vis4, up2_s]
  · rw [if_neg e]
    rcases out_cases ho with rfl | rfl | rfl | rfl <;> simp [vis4, vis3, vis2, vis1, vis0, up2, e]
theorem vis4_pg {σ : IT} {hh q i K : Nat} {o : Int32} (ho : inB o 0 3 = true) (hK : K = 11 ∨ K = 12 ∨ K = 13 ∨ K = 14) (e : i ≠ q) : vis4 σ hh q o K i = σ K i := by
  rcases out_cases ho with rfl | rfl | rfl | rfl <;> rcases hK with rfl | rfl | rfl | rfl <;> simp [vis4, vis3, vis2, vis1, vis0, up2, e]
theorem vis4_12 {σ : IT} {hh q : Nat} {o : Int32} (ho : inB o 0 3 = true) : vis4 σ hh q o 12 q = σ 12 q ∨ vis4 σ hh q o 12 q = σ 12 q + 1 := by
  rcases out_cases ho with rfl | rfl | rfl | rfl <;> simp [vis4, vis3, vis2, vis1, vis0, up2]
theorem vis4_13 {σ : IT} {hh q : Nat} {o : Int32} (ho : inB o 0 3 = true) : vis4 σ hh q o 13 q = σ 13 q ∨ vis4 σ hh q o 13 q = σ 13 q + 1 := by
  rcases out_cases ho with rfl | rfl | rfl | rfl <;> simp [vis4, vis3, vis2, vis1, vis0, up2, chgF]
theorem vis4_11 {σ : IT} {hh q : Nat} {o : Int32} (ho : inB o 0 3 = true) : vis4 σ hh q o 11 q = σ 11 q ∨ vis4 σ hh q o 11 q = σ 0 0 + σ 1 0 ∨ vis4 σ hh q o 11 q = σ 0 0 + capF σ (paceF σ (σ 12 q + 1) (σ 13 q)) ∨ vis4 σ hh q o 11 q = σ 0 0 + capF σ (paceF σ (σ 12 q + 1) (σ 13 q + 1)) := by
  rcases out_cases ho with rfl | rfl | rfl | rfl <;> simp [vis4, vis3, vis2, vis1, vis0, up2, chgF]
theorem cap_le {σ : IT} {a c9 v w : Nat} (h1 : σ 1 0 = nI a) (ha : a ≤ 1000) (h2 : σ 2 0 = nI c9) (hc : c9 ≤ 5000) (hv : v ≤ 2000) (hw : w ≤ 2000) : ∃ x, x ≤ 5000 ∧ capF σ (paceF σ (nI v) (nI w)) = nI x := by
  have e : paceF σ (nI v) (nI w) = nI ((a * (v + 2) + w) / (w + 1)) := by
    have hm : a * (v + 2) ≤ 1000 * 2002 := Nat.mul_le_mul ha (by omega)
    rw [paceF, h1, show nI v + 2 = nI (v + 2) from nI_add v 2, pk_mul, nI_add, nI_1, pk_div (by omega) (by omega) (by omega)]
  have hd : (a * (v + 2) + w) / (w + 1) ≤ a * (v + 2) + w := Nat.div_le_self _ _
  have hm : a * (v + 2) ≤ 1000 * 2002 := Nat.mul_le_mul ha (by omega)
  rw [e, capF, h2]
  by_cases c : c9 ≤ (a * (v + 2) + w) / (w + 1)
  · rw [if_pos ((nI_leI (by omega) (by omega)).mpr c)]
    exact ⟨c9, hc, rfl⟩
  · rw [if_neg (fun z => c ((nI_leI (by omega) (by omega)).mp z))]
    exact ⟨_, by omega, rfl⟩
theorem rest_le {r f : Nat} (hr : r ≤ 100) (hf : f < 2 ^ 31) : ∃ x, x ≤ 3200 ∧ nI r <<< (powF (nI f) &&& 31) = nI x := by
  have hp : powF (nI f) = nI (min f 5) := by
    rw [powF]
    show (if nI 5 ≤ nI f then (5 : Int32) else nI f) = _
    by_cases c : 5 ≤ f
    · rw [if_pos ((nI_leI (a := 5) (by decide) hf).mpr c), Nat.min_eq_right c]; rfl
    · rw [if_neg (fun z => c ((nI_leI (a := 5) (by decide) hf).mp z)), Nat.min_eq_left (by omega)]
  rw [hp]
  have hm : min f 5 = 0 ∨ min f 5 = 1 ∨ min f 5 = 2 ∨ min f 5 = 3 ∨ min f 5 = 4 ∨ min f 5 = 5 := by omega
  rcases hm with e | e | e | e | e | e <;> rw [e]
  · exact ⟨r * 2 ^ 0, by omega, pk_shlN _ 0 (by decide) (by omega)⟩
  · exact ⟨r * 2 ^ 1, by omega, pk_shlN _ 1 (by decide) (by omega)⟩
  · exact ⟨r * 2 ^ 2, by omega, pk_shlN _ 2 (by decide) (by omega)⟩
  · exact ⟨r * 2 ^ 3, by omega, pk_shlN _ 3 (by decide) (by omega)⟩
  · exact ⟨r * 2 ^ 4, by omega, pk_shlN _ 4 (by decide) (by omega)⟩
  · exact ⟨r * 2 ^ 5, by omega, pk_shlN _ 5 (by decide) (by omega)⟩
theorem visit_rel {n q : Nat} {τ σ : IT} {ν μ : NT} {o : Int32} (h : Rel n τ ν σ μ) (hn : n < 1000) (hq : q < ν 0 0) (ho : inB o 0 3 = true) (hop : openB σ μ q = true) : Rel (n + 1) (visC τ ν q o) ν (vis4 σ (μ 5 q) q o) μ ∧ visC τ ν q o 9 (ν 5 q) = σ 0 0 + σ 7 (μ 5 q) <<< (powF (failF σ (μ 5 q) o) &&& 31) := by
  have hl := h.left
  obtain ⟨h1, h2, h3, h4, h5, h6, ⟨t, z, u, b, a1, a2, a3, a4, a5, a6, a7, a8⟩, ⟨pa, pc, p1, p2, p3, p4⟩, h9, h10, h11⟩ := h
  have hq2 : q < μ 0 0 := by rw [← h1.1]; exact hq
  have h5q := (h4 q hq).1
  have h56 := (h4 q hq).2.1
  obtain ⟨d, v, c, d1, d2, v1, v2, c1, c2⟩ := h10 q hq2
  have hg : σ 14 q = 0 := by
    rw [openB, Bool.and_eq_true, keptB, Bool.and_eq_true, decide_eq_true_iff] at hop
    exact hop.1.1
  have hub : u < b := by
    rw [openB, Bool.and_eq_true, Bool.and_eq_true, Bool.and_eq_true] at hop
    have hlf := hop.2.2.2
    rw [show leftM σ = if usedM σ < σ 3 0 then σ 3 0 - usedM σ else 0 from rfl, a5, a7] at hlf
    rcases Nat.lt_or_ge u b with w | w
    · exact w
    · rw [if_neg (fun y => by have := (nI_ltI (by omega) (by omega)).mp y; omega)] at hlf
      exact absurd hlf (by decide)
  have hB := vis_both (μ := μ) h2 hq h5q hg c1 (by omega) ho
  have r4 : ∀ K, (K = 0 ∨ K = 1 ∨ K = 2 ∨ K = 3 ∨ K = 7 ∨ K = 18) → vis4 σ (μ 5 q) q o K = σ K := fun K hK => vis4_row ho hK
  have rC : ∀ K, (K = 6 ∨ K = 18 ∨ K = 22 ∨ K = 24) → visC τ ν q o K = τ K := fun K hK => visC_row ho hK
  refine ⟨⟨h1, hB, vis_used (μ := μ) ho h3, ?_, ?_, ?_, ?_, ?_, ?_, ?_, ?_⟩, ?_⟩
  · rw [rPg, rC 18 (by decide), rC 24 (by decide), r4 18 (by decide)]; exact h4
  · rw [rCh, rC 6 (by decide)]; exact h5
  · rw [segR, rC 6 (by decide), rC 22 (by decide)]; exact h6
  · refine ⟨t, t / 100, u + 1, b, by rw [r4 0 (by decide)]; exact a1, a2, ?_, Nat.le_refl _, ?_, by omega, by rw [r4 3 (by decide)]; exact a7, a8⟩
    · rw [vis4_31 ho, a1]; exact pk_div (d := 100) (by omega) (by decide) (by decide)
    · rw [vis4_use ho, a5, nI_1]
  · exact ⟨pa, pc, by rw [r4 1 (by decide)]; exact p1, p2, by rw [r4 2 (by decide)]; exact p3, p4⟩
  · intro i hi
    obtain ⟨r, f, w, e1, e2, e3, e4, e5, e6⟩ := h9 i hi
    rw [r4 7 (by decide), vis4_8 ho, vis4_9 ho]
    by_cases e : i = μ 5 q
    · rw [if_pos e, if_pos e, ← e]
      have hf : ∃ f2, f2 ≤ n + 1 ∧ failF σ i o = nI f2 := by
        rw [failF]
        by_cases g : o = 2
        · rw [if_pos g, e3, nI_1]; exact ⟨f + 1, by omega, rfl⟩
        · rw [if_neg g]; exact ⟨0, by omega, nI_0.symm⟩
      obtain ⟨f2, g1, g2⟩ := hf
      obtain ⟨x, x1, x2⟩ := rest_le (r := r) (f := f2) e2 (by omega)
      refine ⟨r, f2, t + x, e1, e2, g2, g1, ?_, by omega⟩
      rw [g2, e1, x2, a1, nI_add]
    · rw [if_neg e, if_neg e]
      exact ⟨r, f, w, e1, e2, e3, by omega, e5, e6⟩
  · intro p hp
    by_cases e : p = q
    · subst e
      have e12 : ∃ v9, v9 ≤ n + 1 ∧ vis4 σ (μ 5 p) p o 12 p = nI v9 := by
        rcases vis4_12 (σ := σ) (hh := μ 5 p) (q := p) ho with w | w
        · exact ⟨v, by omega, w.trans v1⟩
        · exact ⟨v + 1, by omega, by rw [w, v1, nI_1]⟩
      have e13 : ∃ v9, v9 ≤ n + 1 ∧ vis4 σ (μ 5 p) p o 13 p = nI v9 := by
        rcases vis4_13 (σ := σ) (hh := μ 5 p) (q := p) ho with w | w
        · exact ⟨c, by omega, w.trans c1⟩
        · exact ⟨c + 1, by omega, by rw [w, c1, nI_1]⟩
      have e11 : ∃ d9, d9 ≤ 110000 ∧ vis4 σ (μ 5 p) p o 11 p = nI d9 := by
        rcases vis4_11 (σ := σ) (hh := μ 5 p) (q := p) ho with w | w | w | w
        · exact ⟨d, d2, w.trans d1⟩
        · exact ⟨t + pa, by omega, by rw [w, a1, p1, nI_add]⟩
        · obtain ⟨x, x1, x2⟩ := cap_le (v := v + 1) (w := c) p1 p2 p3 p4 (by omega) (by omega)
          exact ⟨t + x, by omega, by rw [w, v1, c1, nI_1, x2, a1, nI_add]⟩
        · obtain ⟨x, x1, x2⟩ := cap_le (v := v + 1) (w := c + 1) p1 p2 p3 p4 (by omega) (by omega)
          exact ⟨t + x, by omega, by rw [w, v1, c1, nI_1, nI_1, x2, a1, nI_add]⟩
      obtain ⟨d9, g1, g2⟩ := e11
      obtain ⟨v9, g3, g4⟩ := e12
      obtain ⟨c9, g5, g6⟩ := e13
      exact ⟨d9, v9, c9, g2, g1, g4, g3, g6, g5⟩
    · obtain ⟨d9, v9, c9, g1, g2, g3, g4, g5, g6⟩ := h10 p hp
      rw [vis4_pg ho (by decide) e, vis4_pg ho (by decide) e, vis4_pg ho (by decide) e]
      exact ⟨d9, v9, c9, g1, g2, g3, by omega, g5, by omega⟩
  · intro p hp hp2
    have e : p ≠ q := by omega
    rw [vis4_pg ho (by decide) e, vis4_pg ho (by decide) e, vis4_pg ho (by decide) e]
    exact h11 p hp hp2
  · rw [hB 9 (ν 5 q) (Or.inr (Or.inl ⟨by decide, by decide⟩)), h5q, vis4_9 ho, if_pos rfl]
theorem t_visit {n : Nat} {τ σ : IT} {ν μ : NT} (h : Rel n τ ν σ μ) (hn : n < 1000) (a o : Int32) (x0 : Int64) : okC (n + 1) (k3 (pageB ν a) (inB o 0 3) (isRdy τ ν a.toNatClampNeg)) (if k3 (pageB ν a) (inB o 0 3) (isRdy τ ν a.toNatClampNeg) = 0 then (visC τ ν a.toNatClampNeg o 9 (ν 5 a.toNatClampNeg)).toInt64 else x0) (if k3 (pageB ν a) (inB o 0 3) (isRdy τ ν a.toNatClampNeg) = 0 then visC τ ν a.toNatClampNeg o else τ) (if k3 (pageB ν a) (inB o 0 3) (isRdy τ ν a.toNatClampNeg) = 0 then ν else ν) (oVisit σ μ a o).1 (oVisit σ μ a o).2 μ := by
  rw [oVisit, ← pageB_n h.n0]
  have hu := h.up (Nat.le_succ n)
  by_cases c : pageB ν a = true
  · have hp := page_lt h.le30 c
    by_cases d : inB o 0 3 = true
    · have eo := h.opn hp
      by_cases e : isRdy τ ν a.toNatClampNeg = true
      · have e2 : openB σ μ a.toNatClampNeg = true := by rw [← eo]; exact e
        obtain ⟨g1, g2⟩ := visit_rel h hn hp d e2
        rw [k3_0 c d e, if_pos c, if_pos d, if_pos e2, k_yes, k_yes, k_yes]
        exact okC_yes g1 (vis4_30 d) g2
      · have e2 : ¬ openB σ μ a.toNatClampNeg = true := by rw [← eo]; exact e
        rw [k3_3 c d (by simpa using e), if_pos c, if_pos d, if_neg e2, k_no n3_0, k_no n3_0, k_no n3_0]
        exact okC_no hu n3_0
    · rw [k3_2 c (by simpa using d), if_pos c, if_neg d, k_no n2_0, k_no n2_0, k_no n2_0]
      exact okC_no hu n2_0
  · rw [k3_1 (by simpa using c), if_neg c, k_no n1_0, k_no n1_0, k_no n1_0]
    exact okC_no hu n1_0
