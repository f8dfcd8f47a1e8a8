/-! a visit: the law's way, the class's -/
section VSR
variable {ρ σ : IT} {g k i : Nat} {o : Int32}
theorem vC_0 : vC ρ g o 0 i = if i = 5 then ρ 0 0 / 100 else if i = 4 then (if ρ 0 5 = ρ 0 0 / 100 then ρ 0 4 + 1 else 1) else ρ 0 i := by
  simp [vC, vB, vA, up2]
theorem vC_1 : vC ρ g o 1 i = if i = 3 * g + 1 then (if o = 2 then ρ 1 (3 * g + 1) + 1 else 0) else ρ 1 i := by
  simp [vC, vB, vA, up2]
theorem vC_K {K : Nat} (h0 : K ≠ 0) (h1 : K ≠ 1) : vC ρ g o K i = ρ K i := by
  simp [vC, vB, vA, up2, h0, h1]
theorem vE_0 : vE ρ g k o 0 i = vC ρ g o 0 i := by simp [vE, vD, up2]
theorem vE_3 : vE ρ g k o 2 (6 * k + 3) = ρ 2 (6 * k + 3) + 1 := by simp [vE, vD, up2, vC_K]
theorem vX_K {K : Nat} (h2 : K ≠ 2) : vX ρ g k o K i = vC ρ g o K i := by
  rw [vX]
  by_cases a : o < 2
  · rw [if_pos a]; simp [vF, vE, vD, up2, h2]
  · rw [if_neg a]
    by_cases b : o = 2
    · rw [if_pos b]; simp [vG, up2, h2]
    · rw [if_neg b]; simp [vH, up2, h2]
theorem vX_2o (h : i ≠ 6 * k + 2 ∧ i ≠ 6 * k + 3 ∧ i ≠ 6 * k + 4 ∧ i ≠ 6 * k + 5) : vX ρ g k o 2 i = ρ 2 i := by
  rw [vX]
  by_cases a : o < 2
  · rw [if_pos a]; simp [vF, vE, vD, up2, h, vC_K]
  · rw [if_neg a]
    by_cases b : o = 2
    · rw [if_pos b]; simp [vG, up2, h, vC_K]
    · rw [if_neg b]; simp [vH, up2, h, vC_K]
theorem vX_a (h : o < 2) : vX ρ g k o 2 (6 * k + 2) = ρ 0 0 + pcQ ρ g k o ∧ vX ρ g k o 2 (6 * k + 3) = ρ 2 (6 * k + 3) + 1 ∧ vX ρ g k o 2 (6 * k + 4) = ρ 2 (6 * k + 4) + o ∧ vX ρ g k o 2 (6 * k + 5) = ρ 2 (6 * k + 5) := by
  rw [vX, if_pos h]
  refine ⟨?_, ?_, ?_, ?_⟩
  · rw [vF, up2_s, vE_0, vC_0]; simp
  · rw [vF, up2_i (by omega), vE_3]
  · rw [vF, up2_i (by omega), vE_4]
  · simp [vF, vE, vD, up2, vC_K]
theorem vX_b : vX ρ g k 2 2 (6 * k + 2) = ρ 0 0 + ρ 0 1 ∧ vX ρ g k 2 2 (6 * k + 3) = ρ 2 (6 * k + 3) ∧ vX ρ g k 2 2 (6 * k + 4) = ρ 2 (6 * k + 4) ∧ vX ρ g k 2 2 (6 * k + 5) = ρ 2 (6 * k + 5) := by
  rw [vX, if_neg (by decide), if_pos rfl]
  refine ⟨?_, ?_, ?_, ?_⟩
  · rw [vG, up2_s, vC_0, vC_0]; simp
  · simp [vG, up2, vC_K]
  · simp [vG, up2, vC_K]
  · simp [vG, up2, vC_K]
theorem vX_c : vX ρ g k 3 2 (6 * k + 2) = ρ 2 (6 * k + 2) ∧ vX ρ g k 3 2 (6 * k + 3) = ρ 2 (6 * k + 3) ∧ vX ρ g k 3 2 (6 * k + 4) = ρ 2 (6 * k + 4) ∧ vX ρ g k 3 2 (6 * k + 5) = 1 := by
  rw [vX, if_neg (by decide), if_neg (by decide)]
  refine ⟨?_, ?_, ?_, ?_⟩
  · simp [vH, up2, vC_K]
  · simp [vH, up2, vC_K]
  · simp [vH, up2, vC_K]
  · simp [vH, up2]
theorem vS_K {K : Nat} (h1 : K ≠ 1) : vS ρ g k o K i = vX ρ g k o K i := by rw [vS, vI, up2_k h1]
theorem vS_1 : vS ρ g k o 1 i = if i = 3 * g + 2 then ρ 0 0 + rsF (vX ρ g k o 1 (3 * g)) (vX ρ g k o 1 (3 * g + 1)) 5 else vX ρ g k o 1 i := by
  rw [vS, vI]
  by_cases e : i = 3 * g + 2
  · subst e; rw [up2_s, if_pos rfl, vX_K (by decide), vC_0]; simp
  · rw [up2_i e, if_neg e]
theorem ceil_eq (x c : Nat) : (x + c) / (c + 1) = x / (c + 1) + (if x % (c + 1) = 0 then 0 else 1) := by
  have hq := Nat.div_add_mod x (c + 1)
  have hr := Nat.mod_lt x (show 0 < c + 1 by omega)
  generalize x / (c + 1) = q at hq ⊢
  generalize x % (c + 1) = r at hq hr ⊢
  by_cases e : r = 0
  · rw [if_pos e, show x + c = c + (c + 1) * q by omega, Nat.add_mul_div_left _ _ (by omega), Nat.div_eq_of_lt (by omega)]; omega
  · rw [if_neg e, show x + c = (r - 1) + (c + 1) * (q + 1) by rw [Nat.mul_add]; omega, Nat.add_mul_div_left _ _ (by omega), Nat.div_eq_of_lt (by omega)]; omega
theorem pc_eq {a c9 v c : Nat} (h1 : σ 1 0 = nI a) (ha : a ≤ 1000) (h2 : σ 2 0 = nI c9) (hc : c9 ≤ 5000) (hv : v ≤ 1000) (hw : c ≤ 1001) (r1 : ρ 0 1 = σ 1 0) (r2 : ρ 0 2 = σ 2 0) (r3 : ρ 2 (6 * k + 3) = nI v) (r4 : ρ 2 (6 * k + 4) + o = nI c) : pcQ ρ g k o = capF σ (paceF σ (nI v + 1) (nI c)) := by
  have hm : a * (v + 3) ≤ 1000 * 1003 := Nat.mul_le_mul ha (by omega)
  have eo : ovQ ρ g k o = nI (a * (v + 3)) := by
    rw [ovQ, vE_0, vC_0, vE_3]
    simp only [show (1 : Nat) ≠ 5 by decide, show (1 : Nat) ≠ 4 by decide, if_false]
    rw [r1, h1, r3, nI_1, show nI (v + 1) + 2 = nI (v + 3) from nI_add (v + 1) 2, pk_mul]
  have ed : dvQ ρ g k o = nI (c + 1) := by rw [dvQ, vE_4, r4, nI_1]
  have ep : paQ ρ g k o = nI ((a * (v + 3) + c) / (c + 1)) := by
    have er : rmI (nI (a * (v + 3))) (nI (c + 1)) = nI (a * (v + 3) % (c + 1)) := pk_rem (by omega) (by omega) (by omega)
    have hml : a * (v + 3) % (c + 1) < c + 1 := Nat.mod_lt _ (by omega)
    rw [paQ, eo, ed, er, pk_div (by omega) (by omega) (by omega), ceil_eq]
    by_cases e : a * (v + 3) % (c + 1) = 0
    · rw [if_pos (show nI (a * (v + 3) % (c + 1)) ≤ 0 by rw [e]; decide), if_pos e]; exact Int32.add_zero _
    · rw [if_neg (nI_nle (by omega) (by omega)), if_neg e, nI_1]
  have ef : paceF σ (nI v + 1) (nI c) = nI ((a * (v + 3) + c) / (c + 1)) := by
    rw [paceF, h1, nI_1, show nI (v + 1) + 2 = nI (v + 3) from nI_add (v + 1) 2, pk_mul, nI_add, nI_1, pk_div (by omega) (by omega) (by omega)]
  have hd : (a * (v + 3) + c) / (c + 1) ≤ a * (v + 3) + c := Nat.div_le_self _ _
  have e2 : vE ρ g k o 0 2 = nI c9 := by
    rw [vE_0, vC_0]
    simp only [show (2 : Nat) ≠ 5 by decide, show (2 : Nat) ≠ 4 by decide, if_false]
    rw [r2, h2]
  rw [pcQ, ep, e2, ef, capF, h2]
  generalize (a * (v + 3) + c) / (c + 1) = x at *
  by_cases q : x ≤ c9
  · rw [if_pos ((nI_leI (by omega) (by omega)).mpr q)]
    by_cases w : c9 ≤ x
    · rw [if_pos ((nI_leI (by omega) (by omega)).mpr w), show x = c9 by omega]
    · rw [if_neg (fun z => w ((nI_leI (by omega) (by omega)).mp z))]
  · rw [if_neg (fun z => q ((nI_leI (by omega) (by omega)).mp z)), if_pos ((nI_leI (by omega) (by omega)).mpr (by omega))]
theorem rsF_nI {r f : Nat} (hf : f < 2 ^ 30) : ∀ m, m ≤ 5 → rsF (nI r) (nI f) m = nI (r * 2 ^ min f m) := by
  intro m
  induction m with
  | zero => intro _; rw [rsF, Nat.min_zero, Nat.pow_zero, Nat.mul_one]
  | succ m ih =>
    intro hm
    rw [rsF, ih (by omega)]
    by_cases c : m < f
    · rw [if_pos ((nI_ltI (by omega) (by omega)).mpr c), show nI (r * 2 ^ min f m) * 2 = nI (r * 2 ^ min f m * 2) from pk_mul _ 2, Nat.min_eq_right (by omega), Nat.min_eq_right (by omega), Nat.pow_succ, Nat.mul_assoc]
    · rw [if_neg (fun z => c ((nI_ltI (by omega) (by omega)).mp z)), Nat.min_eq_left (by omega), Nat.min_eq_left (by omega)]
theorem rest_nI {r f : Nat} (hr : r ≤ 100) (hf : f < 2 ^ 30) : nI r <<< (powF (nI f) &&& 31) = nI (r * 2 ^ min f 5) := by
  have hp : powF (nI f) = nI (min f 5) := by
    rw [powF]
    show (if nI 5 ≤ nI f then (5 : Int32) else nI f) = _
    by_cases c : 5 ≤ f
    · rw [if_pos ((nI_leI (a := 5) (by decide) (by omega)).mpr c), Nat.min_eq_right c]; rfl
    · rw [if_neg (fun z => c ((nI_leI (a := 5) (by decide) (by omega)).mp z)), Nat.min_eq_left (by omega)]
  rw [hp]
  have hm : min f 5 = 0 ∨ min f 5 = 1 ∨ min f 5 = 2 ∨ min f 5 = 3 ∨ min f 5 = 4 ∨ min f 5 = 5 := by omega
  rcases hm with e | e | e | e | e | e <;> rw [e]
  · exact pk_shlN _ 0 (by decide) (by omega)
  · exact pk_shlN _ 1 (by decide) (by omega)
  · exact pk_shlN _ 2 (by decide) (by omega)
  · exact pk_shlN _ 3 (by decide) (by omega)
  · exact pk_shlN _ 4 (by decide) (by omega)
  · exact pk_shlN _ 5 (by decide) (by omega)
end VSR
theorem vis4_r {σ : IT} {hh q K i : Nat} {o : Int32} (ho : inB o 0 3 = true) (hK : K = 6 ∨ K = 10 ∨ K = 15) : vis4 σ hh q o K i = σ K i := by
  rcases out_cases ho with rfl | rfl | rfl | rfl <;> rcases hK with rfl | rfl | rfl <;> simp [vis4, vis3, vis2, vis1, vis0, up2]
theorem vis4_32 {σ : IT} {hh q : Nat} {o : Int32} (ho : inB o 0 3 = true) : vis4 σ hh q o 32 0 = usedF σ := by
  rcases out_cases ho with rfl | rfl | rfl | rfl <;> simp [vis4, vis3, vis2, vis1, vis0, up2]
theorem vis4_a {σ : IT} {hh q : Nat} {o : Int32} (ho : inB o 0 3 = true) (h : o < 2) : vis4 σ hh q o 11 q = σ 0 0 + capF σ (paceF σ (σ 12 q + 1) (σ 13 q + o)) ∧ vis4 σ hh q o 12 q = σ 12 q + 1 ∧ vis4 σ hh q o 13 q = σ 13 q + o ∧ vis4 σ hh q o 14 q = 0 := by
  rcases out_cases ho with rfl | rfl | rfl | rfl
  · simp [vis4, vis3, vis2, vis1, vis0, up2, chgF]
  · simp [vis4, vis3, vis2, vis1, vis0, up2, chgF]
  · exact absurd h (by decide)
  · exact absurd h (by decide)
theorem vis4_b {σ : IT} {hh q : Nat} : vis4 σ hh q 2 11 q = σ 0 0 + σ 1 0 ∧ vis4 σ hh q 2 12 q = σ 12 q ∧ vis4 σ hh q 2 13 q = σ 13 q ∧ vis4 σ hh q 2 14 q = 0 := by
  simp [vis4, vis3, vis2, vis1, vis0, up2]
theorem vis4_c {σ : IT} {hh q : Nat} : vis4 σ hh q 3 11 q = σ 11 q ∧ vis4 σ hh q 3 12 q = σ 12 q ∧ vis4 σ hh q 3 13 q = σ 13 q ∧ vis4 σ hh q 3 14 q = 1 := by
  simp [vis4, vis3, vis2, vis1, vis0, up2]
section VSL
variable {ρ : IT} {κ : LT} {τ σ : IT} {ν μ : NT} {n q : Nat} {o : Int32}
theorem LR.host (h : LR ρ κ σ μ) {k : Nat} (hk : k < μ 0 0) : gP μ k < 3 ∧ μ 5 k = 2 * gP μ k := ⟨(h.2.2.2.1 k hk).2.1, (h.2.2.2.1 k hk).2.2.1⟩
/-- the rest behind a visit -/
theorem LR.rest (h : LR ρ κ σ μ) (R : Rel n τ ν σ μ) (hn : n < 1000) (hq : q < μ 0 0) : vX ρ (gP μ q) q o 1 (3 * gP μ q + 1) = failF σ (μ 5 q) o ∧ vX ρ (gP μ q) q o 1 (3 * gP μ q) = σ 7 (μ 5 q) ∧ rsF (vX ρ (gP μ q) q o 1 (3 * gP μ q)) (vX ρ (gP μ q) q o 1 (3 * gP μ q + 1)) 5 = σ 7 (μ 5 q) <<< (powF (failF σ (μ 5 q) o) &&& 31) := by
  obtain ⟨g3, e5⟩ := h.host hq
  have hh := h.2.2.1 (gP μ q) g3
  rw [← e5] at hh
  obtain ⟨r, f, oo, a1, a2, a3, a4, -⟩ := R.2.2.2.2.2.2.2.2.1 (μ 5 q) (by omega)
  have e1 : vX ρ (gP μ q) q o 1 (3 * gP μ q + 1) = failF σ (μ 5 q) o := by
    rw [vX_K (by decide), vC_1, if_pos rfl, hh.2.1, failF]
  have e2 : vX ρ (gP μ q) q o 1 (3 * gP μ q) = σ 7 (μ 5 q) := by
    rw [vX_K (by decide), vC_1, if_neg (by omega), hh.1]
  refine ⟨e1, e2, ?_⟩
  have hf : ∃ x, x ≤ 2000 ∧ failF σ (μ 5 q) o = nI x := by
    rw [failF]
    by_cases c : o = 2
    · rw [if_pos c, a3, nI_1]; exact ⟨f + 1, by omega, rfl⟩
    · rw [if_neg c]; exact ⟨0, by omega, nI_0.symm⟩
  obtain ⟨x, x1, x2⟩ := hf
  rw [e1, e2, x2, a1, rsF_nI (by omega) 5 (Nat.le_refl 5), rest_nI a2 (by omega)]
/-- the answer -/
theorem LR.visA (h : LR ρ κ σ μ) (R : Rel n τ ν σ μ) (hn : n < 1000) (hq : q < μ 0 0) : vS ρ (gP μ q) q o 1 (3 * gP μ q + 2) = σ 0 0 + σ 7 (μ 5 q) <<< (powF (failF σ (μ 5 q) o) &&& 31) := by
  rw [vS_1, if_pos rfl, (h.rest R hn hq).2.2, h.1.1]
theorem LR.vis (h : LR ρ κ σ μ) (R : Rel n τ ν σ μ) (hn : n < 1000) (hq : q < μ 0 0) (ho : inB o 0 3 = true) (hop : openB σ μ q = true) : LR (vS ρ (gP μ q) q o) κ (vis4 σ (μ 5 q) q o) μ := by
  obtain ⟨g3, e5⟩ := h.host hq
  obtain ⟨x1, x2, x3⟩ := h.rest (o := o) R hn hq
  have h10 : μ 0 0 ≤ 10 := h.2.1.1
  obtain ⟨l1, l2, l3, l4, l5, l6, l7⟩ := h
  obtain ⟨q0, q1, q2, q3, q4, q5, q6, q7⟩ := l1
  have z0 : ∀ i, i ≠ 4 → i ≠ 5 → vS ρ (gP μ q) q o 0 i = ρ 0 i := fun i h4 h5 => by rw [vS_K (by decide), vX_K (by decide), vC_0, if_neg h5, if_neg h4]
  refine ⟨⟨?_, ?_, ?_, ?_, ?_, ?_, ?_, ?_⟩, ?_, ?_, ?_, ?_, ?_, l7⟩
  · rw [z0 0 (by decide) (by decide), vis4_row ho (by decide)]; exact q0
  · rw [z0 1 (by decide) (by decide), vis4_row ho (by decide)]; exact q1
  · rw [z0 2 (by decide) (by decide), vis4_row ho (by decide)]; exact q2
  · rw [z0 3 (by decide) (by decide), vis4_row ho (by decide)]; exact q3
  · rw [vS_K (by decide), vX_K (by decide), vC_0, if_neg (by decide), if_pos rfl, vis4_32 ho, usedF, q0, q4, q5]
  · rw [vS_K (by decide), vX_K (by decide), vC_0, if_pos rfl, vis4_31 ho, q0]
  · rw [z0 6 (by decide) (by decide)]; exact q6
  · rw [z0 7 (by decide) (by decide)]; exact q7
  · rw [lB, vis4_row ho (by decide)]; exact l2
  · intro g hg
    obtain ⟨a1, a2, a3⟩ := l3 g hg
    rw [vis4_row (K := 7) ho (by decide), vis4_8 ho, vis4_9 ho]
    by_cases e : g = gP μ q
    · subst e
      have e6 : 2 * gP μ q = μ 5 q := e5.symm
      rw [if_pos e6, if_pos e6]
      refine ⟨?_, ?_, ?_⟩
      · rw [vS_1, if_neg (by omega), x2, e6]
      · rw [vS_1, if_neg (by omega), x1]
      · rw [vS_1, if_pos rfl, x3, q0]
    · have e6 : 2 * g ≠ μ 5 q := by omega
      rw [if_neg e6, if_neg e6]
      refine ⟨?_, ?_, ?_⟩
      · rw [vS_1, if_neg (by omega), vX_K (by decide), vC_1, if_neg (by omega)]; exact a1
      · rw [vS_1, if_neg (by omega), vX_K (by decide), vC_1, if_neg (by omega)]; exact a2
      · rw [vS_1, if_neg (by omega), vX_K (by decide), vC_1, if_neg (by omega)]; exact a3
  · intro k hk
    obtain ⟨p1, p2, p3, p4, p5, p6, p7, p8, p9⟩ := l4 k hk
    rw [vis4_r (K := 10) ho (by decide), vis4_r (K := 15) ho (by decide)]
    rw [vS_K (by decide), vS_K (by decide), vS_K (by decide), vS_K (by decide), vS_K (by decide), vS_K (by decide)]
    by_cases e : k = q
    · subst e
      have o1 : vX ρ (gP μ k) k o 2 (6 * k) = ρ 2 (6 * k) := vX_2o (by omega)
      have o2 : vX ρ (gP μ k) k o 2 (6 * k + 1) = ρ 2 (6 * k + 1) := vX_2o (by omega)
      rw [o1, o2]
      refine ⟨p1, p2, p3, p4, p5, ?_⟩
      obtain ⟨a, c9, b1, b2, b3, b4⟩ := R.2.2.2.2.2.2.2.1
      obtain ⟨d, v, c, c1, c2, c3, c4, c5, c6⟩ := R.2.2.2.2.2.2.2.2.2.1 k hk
      have hkb : keptB (σ 14 k) (σ 15 k) = true := by
        rw [openB, Bool.and_eq_true] at hop; exact hop.1
      have hk5 : ρ 2 (6 * k + 5) = 0 := p9.mpr hkb
      have hl15 : σ 15 k = 0 := by
        rw [keptB, Bool.and_eq_true, decide_eq_true_iff, decide_eq_true_iff] at hkb; exact hkb.2
      rcases out_cases ho with rfl | rfl | rfl | rfl
      · obtain ⟨v1, v2, v3, v4⟩ := vX_a (ρ := ρ) (g := gP μ k) (k := k) (o := 0) (by decide)
        obtain ⟨w1, w2, w3, w4⟩ := vis4_a (σ := σ) (hh := μ 5 k) (q := k) (o := 0) ho (by decide)
        have e13 : σ 13 k + 0 = nI c := by rw [c5]; exact Int32.add_zero _
        rw [v1, v2, v3, v4, w1, w2, w3, w4, p7, p8, q0, pc_eq (g := gP μ k) (k := k) (o := 0) b1 b2 b3 b4 (v := v) (c := c) (by omega) (by omega) q1 q2 (by rw [p7]; exact c3) (by rw [p8]; exact e13), c3, e13]
        exact ⟨rfl, rfl, rfl, ⟨fun _ => by rw [hl15]; rfl, fun _ => hk5⟩⟩
      · obtain ⟨v1, v2, v3, v4⟩ := vX_a (ρ := ρ) (g := gP μ k) (k := k) (o := 1) (by decide)
        obtain ⟨w1, w2, w3, w4⟩ := vis4_a (σ := σ) (hh := μ 5 k) (q := k) (o := 1) ho (by decide)
        have e13 : σ 13 k + 1 = nI (c + 1) := by rw [c5, nI_1]
        rw [v1, v2, v3, v4, w1, w2, w3, w4, p7, p8, q0, pc_eq (g := gP μ k) (k := k) (o := 1) b1 b2 b3 b4 (v := v) (c := c + 1) (by omega) (by omega) q1 q2 (by rw [p7]; exact c3) (by rw [p8]; exact e13), c3, e13]
        exact ⟨rfl, rfl, rfl, ⟨fun _ => by rw [hl15]; rfl, fun _ => hk5⟩⟩
      · obtain ⟨v1, v2, v3, v4⟩ := vX_b (ρ := ρ) (g := gP μ k) (k := k)
        obtain ⟨w1, w2, w3, w4⟩ := vis4_b (σ := σ) (hh := μ 5 k) (q := k)
        rw [v1, v2, v3, v4, w1, w2, w3, w4, q0, q1]
        exact ⟨rfl, p7, p8, ⟨fun _ => by rw [hl15]; rfl, fun _ => hk5⟩⟩
      · obtain ⟨v1, v2, v3, v4⟩ := vX_c (ρ := ρ) (g := gP μ k) (k := k)
        obtain ⟨w1, w2, w3, w4⟩ := vis4_c (σ := σ) (hh := μ 5 k) (q := k)
        rw [v1, v2, v3, v4, w1, w2, w3, w4]
        exact ⟨p6, p7, p8, ⟨fun z => absurd z (by decide), fun z => absurd z (by simp [keptB])⟩⟩
    · rw [vX_2o (by omega), vX_2o (by omega), vX_2o (by omega), vX_2o (by omega), vX_2o (by omega), vX_2o (by omega), vis4_pg ho (by decide) e, vis4_pg ho (by decide) e, vis4_pg ho (by decide) e, vis4_pg ho (by decide) e]
      exact ⟨p1, p2, p3, p4, p5, p6, p7, p8, p9⟩
  · rw [lA, vis4_row (K := 18) ho (by decide)]; exact l5
  · intro j hj
    rw [vis4_r (K := 6) ho (by decide), vS_K (by decide), vX_K (by decide), vC_K (by decide) (by decide)]
    exact l6 j hj
/-- what `visits` needs -/
theorem LR.vpre (h : LR ρ κ σ μ) (R : Rel n τ ν σ μ) (hn : n < 990) (hq : q < μ 0 0) (ho : inB o 0 3 = true) : o < 2 → ∃ c, c < 1000 ∧ ρ 2 (6 * q + 4) + o = nI c := by
  intro h2
  obtain ⟨d, v, c, c1, c2, c3, c4, c5, c6⟩ := R.2.2.2.2.2.2.2.2.2.1 q hq
  have p8 := (h.2.2.2.1 q hq).2.2.2.2.2.2.2.1
  rw [p8, c5]
  rcases out_cases ho with rfl | rfl | rfl | rfl
  · exact ⟨c, by omega, Int32.add_zero _⟩
  · exact ⟨c + 1, by omega, nI_1 c⟩
  · exact absurd h2 (by decide)
  · exact absurd h2 (by decide)
end VSL
