/-! characters come, pages are found: the law's way, the class's -/
def clQ (ρ : IT) : IT := up2 ρ 0 7 0
def tyA (ρ : IT) (i x : Nat) : IT := up2 ρ 4 i (nI x)
def tyB (ρ : IT) (i x : Nat) : IT := up2 (tyA ρ i x) 0 7 (nI (i + 1))
def chQ (x : Nat) : Int32 := if x = 0 then 47 else if x = 1 then 97 else 98
theorem chQ_ok {x : Nat} (hx : x ≤ 2) : okc (chQ x) ∧ nI x = nI (cdN (chQ x)) ∧ (chQ x = 47 ∨ inB (chQ x) 97 122 = true) ∧ vp_nar .char (chQ x) = chQ x ∧ chr0 (chQ x) := by
  have : x = 0 ∨ x = 1 ∨ x = 2 := by omega
  rcases this with rfl | rfl | rfl
  · exact ⟨Or.inl rfl, rfl, Or.inl rfl, by decide, Or.inr (Or.inl rfl)⟩
  · exact ⟨Or.inr (Or.inl rfl), rfl, Or.inr (by decide), by decide, Or.inr (Or.inr (by decide))⟩
  · exact ⟨Or.inr (Or.inr rfl), rfl, Or.inr (by decide), by decide, Or.inr (Or.inr (by decide))⟩
section TYR
variable {ρ : IT} {κ : LT} {τ σ : IT} {ν μ : NT} {n : Nat}
theorem gP_cg {μ1 : NT} (h : μ1 5 = μ 5) : gP μ1 = gP μ := by funext k; rw [gP, gP, h]
theorem LR.clr (h : LR ρ κ σ μ) : LR (clQ ρ) κ (T0 σ) (up2 μ 1 0 0) := by
  obtain ⟨⟨q0, q1, q2, q3, q4, q5, q6, q7⟩, l2, l3, l4, l5, l6, l7⟩ := h
  have hs : ∀ K, K ≠ 30 → T0 σ K = σ K := fun K hK => up2_30 hK
  have hm : ∀ K, K ≠ 1 → up2 μ 1 0 0 K = μ K := fun K hK => up2_row hK
  have hr : ∀ K, K ≠ 0 → clQ ρ K = ρ K := fun K hK => up2_row hK
  refine ⟨⟨?_, ?_, ?_, ?_, ?_, ?_, ?_, ?_⟩, ?_, ?_, ?_, ?_, ?_, ?_⟩
  · rw [hs 0 (by decide), clQ, up2_i (by decide)]; exact q0
  · rw [hs 1 (by decide), clQ, up2_i (by decide)]; exact q1
  · rw [hs 2 (by decide), clQ, up2_i (by decide)]; exact q2
  · rw [hs 3 (by decide), clQ, up2_i (by decide)]; exact q3
  · rw [hs 32 (by decide), clQ, up2_i (by decide)]; exact q4
  · rw [hs 31 (by decide), clQ, up2_i (by decide)]; exact q5
  · rw [hm 0 (by decide), clQ, up2_i (by decide)]; exact q6
  · rw [clQ, up2_s, up2_s]; exact nI_0.symm
  · rw [lB, hm 0 (by decide), hs 3 (by decide), up2_s]; exact ⟨l2.1, by decide, l2.2.2⟩
  · rw [lH, hr 1 (by decide), hs 7 (by decide), hs 8 (by decide), hs 9 (by decide)]; exact l3
  · rw [lP, gP_cg (hm 5 (by decide)), hr 2 (by decide), hm 0 (by decide), hm 5 (by decide), hs 10 (by decide), hs 11 (by decide), hs 12 (by decide), hs 13 (by decide), hs 14 (by decide), hs 15 (by decide)]; exact l4
  · rw [lA, hm 0 (by decide), hm 3 (by decide), hs 18 (by decide)]; exact l5
  · intro j hj
    rw [up2_s] at hj
    exact absurd hj (Nat.not_lt_zero j)
  · rw [lU, hm 0 (by decide), hm 5 (by decide)]; exact l7
theorem LR.typ {x : Nat} (h : LR ρ κ σ μ) (hi : μ 1 0 ≤ 11) (hx : x ≤ 2) : LR (tyB ρ (μ 1 0) x) κ (up2 (T0 σ) 6 (μ 1 0) (chQ x)) (up2 μ 1 0 (μ 1 0 + 1)) := by
  obtain ⟨⟨q0, q1, q2, q3, q4, q5, q6, q7⟩, l2, l3, l4, l5, l6, l7⟩ := h
  have hs : ∀ K, K ≠ 30 → K ≠ 6 → up2 (T0 σ) 6 (μ 1 0) (chQ x) K = σ K := fun K hK h6 => (up2_row h6).trans (up2_30 hK)
  have hm : ∀ K, K ≠ 1 → up2 μ 1 0 (μ 1 0 + 1) K = μ K := fun K hK => up2_row hK
  have hr : ∀ K, K ≠ 0 → K ≠ 4 → tyB ρ (μ 1 0) x K = ρ K := fun K hK h4 => (up2_row hK).trans (up2_row h4)
  have h0 : ∀ j, j ≠ 7 → tyB ρ (μ 1 0) x 0 j = ρ 0 j := fun j hj => by rw [tyB, up2_i hj, tyA, up2_k (by decide)]
  refine ⟨⟨?_, ?_, ?_, ?_, ?_, ?_, ?_, ?_⟩, ?_, ?_, ?_, ?_, ?_, ?_⟩
  · rw [hs 0 (by decide) (by decide), h0 0 (by decide)]; exact q0
  · rw [hs 1 (by decide) (by decide), h0 1 (by decide)]; exact q1
  · rw [hs 2 (by decide) (by decide), h0 2 (by decide)]; exact q2
  · rw [hs 3 (by decide) (by decide), h0 3 (by decide)]; exact q3
  · rw [hs 32 (by decide) (by decide), h0 4 (by decide)]; exact q4
  · rw [hs 31 (by decide) (by decide), h0 5 (by decide)]; exact q5
  · rw [hm 0 (by decide), h0 6 (by decide)]; exact q6
  · rw [tyB, up2_s, up2_s]
  · rw [lB, hm 0 (by decide), hs 3 (by decide) (by decide), up2_s]; exact ⟨l2.1, by omega, l2.2.2⟩
  · rw [lH, hr 1 (by decide) (by decide), hs 7 (by decide) (by decide), hs 8 (by decide) (by decide), hs 9 (by decide) (by decide)]; exact l3
  · rw [lP, gP_cg (hm 5 (by decide)), hr 2 (by decide) (by decide), hm 0 (by decide), hm 5 (by decide), hs 10 (by decide) (by decide), hs 11 (by decide) (by decide), hs 12 (by decide) (by decide), hs 13 (by decide) (by decide), hs 14 (by decide) (by decide), hs 15 (by decide) (by decide)]; exact l4
  · rw [lA, hm 0 (by decide), hm 3 (by decide), hs 18 (by decide) (by decide)]; exact l5
  · intro j hj
    rw [up2_s] at hj
    rw [show tyB ρ (μ 1 0) x 4 j = up2 ρ 4 (μ 1 0) (nI x) 4 j from by rw [tyB, up2_k (by decide), tyA]]
    obtain ⟨c1, c2, -⟩ := chQ_ok hx
    by_cases e : j = μ 1 0
    · subst e; rw [up2_s, up2_s]; exact ⟨c1, c2⟩
    · rw [up2_i e, up2_i e, show T0 σ 6 j = σ 6 j from rfl]
      exact l6 j (by omega)
  · rw [lU, hm 0 (by decide), hm 5 (by decide)]; exact l7
/-! addresses as numbers -/
theorem adN_lt {g : Nat → Nat} : ∀ k, (∀ i, i < k → g i ≤ 2) → adN g k < 28 ^ k := by
  intro k
  induction k with
  | zero => intro _; exact Nat.one_pos
  | succ k ih =>
    intro h
    have h1 := ih (fun i hi => h i (by omega))
    have h2 := h k (Nat.lt_succ_self k)
    rw [adN, Nat.pow_succ]
    omega
theorem adN_inj {g e : Nat → Nat} : ∀ k j, (∀ i, i < k → g i ≤ 2) → (∀ i, i < j → e i ≤ 2) → adN g k = adN e j → k = j ∧ ∀ i, i < k → g i = e i := by
  intro k
  induction k with
  | zero =>
    intro j _ he h
    cases j with
    | zero => exact ⟨rfl, fun i hi => absurd hi (Nat.not_lt_zero i)⟩
    | succ j => rw [adN, adN] at h; omega
  | succ k ih =>
    intro j hg he h
    cases j with
    | zero => rw [adN, adN] at h; omega
    | succ j =>
      have c1 := hg k (Nat.lt_succ_self k)
      have c2 := he j (Nat.lt_succ_self j)
      rw [adN, adN] at h
      obtain ⟨e1, e2⟩ := ih j (fun i hi => hg i (by omega)) (fun i hi => he i (by omega)) (by omega)
      refine ⟨by omega, fun i hi => ?_⟩
      by_cases q : i = k
      · subst q; subst e1; omega
      · exact e2 i (by omega)
theorem adN_cg {g e : Nat → Nat} : ∀ k, (∀ i, i < k → g i = e i) → adN g k = adN e k := by
  intro k
  induction k with
  | zero => intro _; rfl
  | succ k ih => intro h; rw [adN, adN, ih (fun i hi => h i (by omega)), h k (Nat.lt_succ_self k)]
theorem adQ_lN {c : Nat → Int32} {g : Nat → Nat} : ∀ k, (∀ i, i < k → c i = nI (g i) ∧ g i ≤ 2) → adQ c k = lN (adN g k) := by
  intro k
  induction k with
  | zero => intro _; rfl
  | succ k ih =>
    intro h
    obtain ⟨h1, h2⟩ := h k (Nat.lt_succ_self k)
    rw [adQ, adN, ih (fun i hi => h i (by omega)), h1, nI_l (by omega), show (28 : Int64) = lN 28 from rfl, lN_mul, lN_add, lN_1]
theorem LR.adr (h : LR ρ κ σ μ) : adQ (ρ 4) (μ 1 0) = lN (adN (fun j => cdN (σ 6 j)) (μ 1 0)) := adQ_lN (g := fun j => cdN (σ 6 j)) _ (fun i hi => ⟨(h.cod i hi).2, cdN_le⟩)
/-- the last page that has the host and the address -/
def ldQ (g : Nat → Nat) (a : Nat → Int64) (hz : Nat) (d : Int64) : Nat → Option Nat
  | 0 => none
  | i + 1 => if g i = hz ∧ a i = d then some i else ldQ g a hz d i
theorem ldQ_s {g : Nat → Nat} {a : Nat → Int64} {hz : Nat} {d : Int64} : ∀ k q, ldQ g a hz d k = some q → q < k ∧ g q = hz ∧ a q = d := by
  intro k
  induction k with
  | zero => intro q h; cases h
  | succ k ih =>
    intro q h
    rw [ldQ] at h
    by_cases c : g k = hz ∧ a k = d
    · rw [if_pos c] at h; cases h; exact ⟨Nat.lt_succ_self _, c⟩
    · rw [if_neg c] at h
      obtain ⟨h1, h2⟩ := ih q h
      exact ⟨by omega, h2⟩
theorem ldQ_n {g : Nat → Nat} {a : Nat → Int64} {hz : Nat} {d : Int64} : ∀ k, ldQ g a hz d k = none → ∀ q, q < k → ¬ (g q = hz ∧ a q = d) := by
  intro k
  induction k with
  | zero => intro _ q hq; exact absurd hq (Nat.not_lt_zero q)
  | succ k ih =>
    intro h q hq
    rw [ldQ] at h
    by_cases c : g k = hz ∧ a k = d
    · rw [if_pos c] at h; cases h
    · rw [if_neg c] at h
      by_cases e : q = k
      · subst e; exact c
      · exact ih h q (by omega)
theorem pab_s {h : Nat} : ∀ k i q, pabL τ ν h k i = some q → i ≤ q ∧ q < ν 0 0 ∧ ν 5 q = h ∧ sameC τ ν q = true := by
  intro k
  induction k with
  | zero => intro i q e; rw [pabL] at e; cases e
  | succ k ih =>
    intro i q e
    rw [pabL] at e
    by_cases c : i < ν 0 0 ∧ ν 5 i = h ∧ sameC τ ν i = true
    · rw [if_pos c] at e; cases e; exact ⟨Nat.le_refl _, c⟩
    · rw [if_neg c] at e
      obtain ⟨h1, h2⟩ := ih (i + 1) q e
      exact ⟨by omega, h2⟩
theorem pab_n {h : Nat} : ∀ k i, pabL τ ν h k i = none → ∀ q, i ≤ q → q < i + k → ¬ (q < ν 0 0 ∧ ν 5 q = h ∧ sameC τ ν q = true) := by
  intro k
  induction k with
  | zero => intro i _ q h1 h2; omega
  | succ k ih =>
    intro i e q h1 h2
    rw [pabL] at e
    by_cases c : i < ν 0 0 ∧ ν 5 i = h ∧ sameC τ ν i = true
    · rw [if_pos c] at e; cases e
    · rw [if_neg c] at e
      by_cases g : q = i
      · subst g; exact c
      · exact ih (i + 1) e q (by omega) (by omega)
theorem LR.same (h : LR ρ κ σ μ) (R : Rel n τ ν σ μ) {q : Nat} (hq : q < μ 0 0) : sameC τ ν q = true ↔ κ 5 q = adQ (ρ 4) (μ 1 0) := by
  have hq' : q < ν 0 0 := by rw [R.n0]; exact hq
  obtain ⟨b1, b2, b3, b4, b5, b6, b7, b8⟩ := R.2.2.2.1 q hq'
  have es : sameC τ ν q = sameT σ μ q := same_eq (fun j _ => R.eqR (by decide) (by decide)) R.n1 b3 b8
  obtain ⟨a1, a2, a3⟩ := h.2.2.2.2.1 q hq
  have h12 := h.2.1.2.1
  have lt : ∀ (g : Nat → Nat) l, l ≤ 12 → (∀ i, i < l → g i ≤ 2) → adN g l < 2 ^ 63 := fun g l hl hg => Nat.lt_of_lt_of_le (adN_lt l hg) (Nat.le_trans (Nat.pow_le_pow_right (by decide) hl) (by decide))
  rw [es, h.adr, a3, pk_lEQ (lt _ _ a1 (fun i _ => cdN_le)) (lt _ _ h12 (fun i _ => cdN_le)), sameT, Bool.and_eq_true, decide_eq_true_iff]
  have hF : ∀ k i, sameF (fun i => σ 18 (30 * q + i)) (σ 6) k i = true ↔ ∀ j, i ≤ j → j < i + k → σ 18 (30 * q + j) = σ 6 j := by
    intro k
    induction k with
    | zero => intro i; exact ⟨fun _ j h1 h2 => by omega, fun _ => rfl⟩
    | succ k ih =>
      intro i
      rw [sameF]
      by_cases q9 : σ 18 (30 * q + i) = σ 6 i
      · rw [if_pos q9, ih]
        constructor
        · intro z j h1 h2
          by_cases e : j = i
          · subst e; exact q9
          · exact z j (by omega) (by omega)
        · intro z j h1 h2; exact z j (by omega) (by omega)
      · rw [if_neg q9]
        exact ⟨fun z => Bool.noConfusion z, fun z => absurd (z i (Nat.le_refl i) (by omega)) q9⟩
  rw [hF]
  constructor
  · rintro ⟨e1, e2⟩
    rw [e1]
    exact adN_cg _ (fun i hi => by rw [e2 i (Nat.zero_le i) (by omega)])
  · intro e
    obtain ⟨e1, e2⟩ := adN_inj _ _ (fun i _ => cdN_le) (fun i _ => cdN_le) e
    exact ⟨e1, fun j _ hj => cdN_inj (a2 j (by omega)) (h.cod j (by omega)).1 (e2 j (by omega))⟩
/-- the class's page at the address is the law's -/
theorem LR.fnd (h : LR ρ κ σ μ) (R : Rel n τ ν σ μ) {hz : Nat} : pabL τ ν (2 * hz) 30 0 = ldQ (gP μ) (κ 5) hz (adQ (ρ 4) (μ 1 0)) (μ 0 0) := by
  have h10 := h.2.1.1
  have hn0 := R.n0
  have key : ∀ q, q < μ 0 0 → ((ν 5 q = 2 * hz ∧ sameC τ ν q = true) ↔ (gP μ q = hz ∧ κ 5 q = adQ (ρ 4) (μ 1 0))) := fun q hq => by
    have e1 := (R.host (p := q) (by omega)).1
    have e2 := (h.host hq).2
    rw [h.same R hq]
    exact and_congr (by omega) Iff.rfl
  cases e : ldQ (gP μ) (κ 5) hz (adQ (ρ 4) (μ 1 0)) (μ 0 0) with
  | none =>
    have hno := ldQ_n _ e
    cases f : pabL τ ν (2 * hz) 30 0 with
    | none => rfl
    | some q =>
      obtain ⟨f1, f2, f3⟩ := pab_s _ _ _ f
      exact absurd ((key q (by omega)).mp f3) (hno q (by omega))
  | some a =>
    obtain ⟨a1, a2⟩ := ldQ_s _ _ e
    cases f : pabL τ ν (2 * hz) 30 0 with
    | none => exact absurd ⟨by omega, (key a a1).mpr a2⟩ (pab_n _ _ f a (Nat.zero_le a) (by omega))
    | some q =>
      obtain ⟨f1, f2, f3⟩ := pab_s _ _ _ f
      have g := (key q (by omega)).mp f3
      have hu := h.2.2.2.2.2.2
      have ha5 := (h.host a1).2
      have hq5 := (h.host (k := q) (by omega)).2
      rcases Nat.lt_trichotomy q a with c | c | c
      · exact absurd (g.2.trans a2.2.symm) (hu q a c a1 (by rw [ha5, hq5, g.1, a2.1]))
      · rw [c]
      · exact absurd (a2.2.trans g.2.symm) (hu a q c (by omega) (by rw [ha5, hq5, g.1, a2.1]))
end TYR
