/-! Politecrawl: a page more -/
def fdTC (τ : IT) (ν : NT) (r : Int32) : IT := fun k i =>
  if k = 18 ∧ 30 * ν 0 0 ≤ i ∧ i < 30 * ν 0 0 + 30 then τ 6 (i - 30 * ν 0 0)
  else if k = 24 ∧ 30 * ν 0 0 ≤ i ∧ i < 30 * ν 0 0 + 30 then τ 22 (i - 30 * ν 0 0)
  else if k = 10 ∧ i = ν 0 0 then r
  else if k = 11 ∧ i = ν 0 0 then τ 0 0
  else if (k = 12 ∨ k = 13 ∨ k = 14 ∨ k = 25) ∧ i = ν 0 0 then 0
  else if k = 15 ∧ i = ν 0 0 then zb (repA (τ 6) (τ 22) (ν 1 0) (ν 2 0))
  else τ k i
def fdNC (ν : NT) (h : Nat) : NT := fun k i =>
  if k = 0 ∧ i = 0 then ν 0 0 + 1 else if k = 3 ∧ i = ν 0 0 then ν 1 0 else if k = 4 ∧ i = ν 0 0 then ν 2 0 else if k = 5 ∧ i = ν 0 0 then h else ν k i
def fdAd (ad : NT) (n p b c t : Nat) : NT := fun k i => if k = 7 ∧ i = n then p else if k = 8 ∧ i = n then b else if k = 9 ∧ i = n then c else if k = 10 ∧ i = n then t else ad k i
theorem cC_up {n k i : Nat} (hi : i < cC (n + 1) k) : (i < cC n k ∧ ¬ (7 ≤ k ∧ k ≤ 10 ∧ i = n)) ∨ ((k = 7 ∨ k = 8 ∨ k = 9 ∨ k = 10) ∧ i = n) := by
  match k, hi with
  | 0, hi => exact Or.inl ⟨hi, by omega⟩
  | 1, hi => exact Or.inl ⟨hi, by omega⟩
  | 2, hi => exact Or.inl ⟨hi, by omega⟩
  | 3, hi => exact Or.inl ⟨hi, by omega⟩
  | 4, hi => exact Or.inl ⟨hi, by omega⟩
  | 5, hi => exact Or.inl ⟨hi, by omega⟩
  | 6, hi => exact Or.inl ⟨hi, by omega⟩
  | 7, hi => have h : i < n + 1 := hi; by_cases e : i = n; exact Or.inr ⟨Or.inl rfl, e⟩; exact Or.inl ⟨show i < n by omega, by omega⟩
  | 8, hi => have h : i < n + 1 := hi; by_cases e : i = n; exact Or.inr ⟨Or.inr (Or.inl rfl), e⟩; exact Or.inl ⟨show i < n by omega, by omega⟩
  | 9, hi => have h : i < n + 1 := hi; by_cases e : i = n; exact Or.inr ⟨Or.inr (Or.inr (Or.inl rfl)), e⟩; exact Or.inl ⟨show i < n by omega, by omega⟩
  | 10, hi => have h : i < n + 1 := hi; by_cases e : i = n; exact Or.inr ⟨Or.inr (Or.inr (Or.inr rfl)), e⟩; exact Or.inl ⟨show i < n by omega, by omega⟩
  | _ + 11, hi => exact absurd hi (Nat.not_lt_zero _)
theorem fdAd_old {ad : NT} {n p b c t k i : Nat} (h : ¬ (7 ≤ k ∧ k ≤ 10 ∧ i = n)) : fdAd ad n p b c t k i = ad k i := by
  simp only [fdAd]
  rw [if_neg (by omega), if_neg (by omega), if_neg (by omega), if_neg (by omega)]
theorem fdTC_old {τ : IT} {ν : NT} {r : Int32} {k i : Nat} (h1 : ¬ ((k = 18 ∨ k = 24) ∧ 30 * ν 0 0 ≤ i ∧ i < 30 * ν 0 0 + 30)) (h2 : ¬ ((k = 10 ∨ k = 11 ∨ k = 12 ∨ k = 13 ∨ k = 14 ∨ k = 15 ∨ k = 25) ∧ i = ν 0 0)) : fdTC τ ν r k i = τ k i := by
  simp only [fdTC]
  rw [if_neg (by omega), if_neg (by omega), if_neg (by omega), if_neg (by omega), if_neg (by omega), if_neg (by omega)]
theorem fdNC_old {ν : NT} {h k i : Nat} (h1 : ¬ (k = 0 ∧ i = 0)) (h2 : ¬ ((k = 3 ∨ k = 4 ∨ k = 5) ∧ i = ν 0 0)) : fdNC ν h k i = ν k i := by
  simp only [fdNC]
  rw [if_neg (by omega), if_neg (by omega), if_neg (by omega), if_neg (by omega)]
theorem fdAd_J {ad : NT} {n p b c t sz : Nat} (hJ : wJ (cC n) ad) (ho : ∀ k i, i < cC n k → ad k i < sz) (hp : sz ≤ p) (hpb : p < b) (hbc : b < c) (hbt : b < t) (hct : c ≠ t) : wJ (cC (n + 1)) (fdAd ad n p b c t) := by
  intro k i k' i' hi hi' e
  rcases cC_up hi with ⟨h, g⟩ | ⟨h, rfl⟩
  · rw [fdAd_old g] at e
    have l1 := ho k i h
    rcases cC_up hi' with ⟨h', g'⟩ | ⟨h', rfl⟩
    · rw [fdAd_old g'] at e
      exact hJ k i k' i' h h' e
    · exfalso
      rcases h' with rfl | rfl | rfl | rfl <;> simp [fdAd] at e <;> omega
  · rcases cC_up hi' with ⟨h', g'⟩ | ⟨h', rfl⟩
    · rw [fdAd_old g'] at e
      have l1 := ho k' i' h'
      exfalso
      rcases h with rfl | rfl | rfl | rfl <;> simp [fdAd] at e <;> omega
    · refine ⟨?_, rfl⟩
      rcases h with rfl | rfl | rfl | rfl <;> rcases h' with rfl | rfl | rfl | rfl <;> first | rfl | (exfalso; simp [fdAd] at e; omega)
/-- the copy's cells apart, the class's world stands -/
theorem CW.copy {D : va_G} {cy : Nat → ClassId} {ad : NT} {τ : IT} {ν : NT} {H H1 : Heap} {b sz : Nat} (h : CW D cy ad τ ν H) (hJ : wJ (cC (ν 0 0)) ad) (hk : ∀ q : Nat, q < H.size → ¬ cA4 b (ad 1 0) (ad 4 0) (ad 5 0) sz q → H1[q]? = H[q]?) (hb : pA D cy (ad 1 0) (ad 4 0) (ad 5 0) (τ 6) (τ 22) (ν 1 0) (ν 2 0) H1) (hn : ∀ k i, i < cC (ν 0 0) k → ad k i ≠ b) (hs : H.size ≤ sz) : CW D cy ad τ ν H1 := by
  intro k i hi
  by_cases e1 : k = 1
  · subst e1; have e : i = 0 := Nat.lt_one_iff.mp hi; subst e; exact hb.1
  by_cases e4 : k = 4
  · subst e4; have e : i = 0 := Nat.lt_one_iff.mp hi; subst e; exact hb.2.1
  by_cases e5 : k = 5
  · subst e5; have e : i = 0 := Nat.lt_one_iff.mp hi; subst e; exact hb.2.2
  refine va_at.kept (h k i hi) (hk _ (wP.lt h hi) (fun z => ?_))
  rcases z with z | z | z | z | z
  · exact hn k i hi z
  · exact e1 (hJ k i 1 0 hi Nat.zero_lt_one z).1
  · exact e4 (hJ k i 4 0 hi Nat.zero_lt_one z).1
  · exact e5 (hJ k i 5 0 hi Nat.zero_lt_one z).1
  · exact absurd (wP.lt h hi) (Nat.not_lt.mpr (Nat.le_trans hs z))
