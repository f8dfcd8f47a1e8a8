/-! class and model: addresses that repeat themselves -/
/-- what a segment holds, and what stands behind it -/
theorem layN_in {f : Nat → Int32} {ν : NT} (k : Nat) : ∀ j, j < layN f ν k 6 0 → 1 ≤ layN f ν k 8 j ∧ (∀ i, i < layN f ν k 8 j → f (layN f ν k 7 j + i) ≠ 47) ∧ (layN f ν k 7 j + layN f ν k 8 j < k → f (layN f ν k 7 j + layN f ν k 8 j) = 47) ∧ (j + 1 < layN f ν k 6 0 → layN f ν k 7 j + layN f ν k 8 j < k) := by
  induction k with
  | zero => intro j h; rw [layN, up2_s] at h; exact absurd h (Nat.not_lt_zero _)
  | succ k ih =>
    have hs := layN_seg (f := f) (ν := ν) k
    have ho := layN_ok (f := f) (ν := ν) k
    rw [layN]
    by_cases c : f k = 47
    · rw [if_pos c]
      intro j h
      obtain ⟨h1, h2, h3, h4⟩ := ih j h
      have h5 := (ho j h).1
      refine ⟨h1, h2, fun q => ?_, fun q => by have := h4 q; omega⟩
      by_cases e : layN f ν k 7 j + layN f ν k 8 j = k
      · rw [e]; exact c
      · exact h3 (by omega)
    · rw [if_neg c]
      generalize hL : layN f ν k = L at ih hs ho ⊢
      by_cases d : k = 0 ∨ f (k - 1) = 47
      · rw [if_pos d]
        have E6 : up2 (up2 (up2 (up2 L 7 (L 6 0) k) 8 (L 6 0) 0) 6 0 (L 6 0 + 1)) 8 (L 6 0) 1 6 0 = L 6 0 + 1 := by simp [up2]
        have E7 : ∀ j, up2 (up2 (up2 (up2 L 7 (L 6 0) k) 8 (L 6 0) 0) 6 0 (L 6 0 + 1)) 8 (L 6 0) 1 7 j = if j = L 6 0 then k else L 7 j := fun j => by by_cases q : j = L 6 0 <;> simp [up2, q]
        have E8 : ∀ j, up2 (up2 (up2 (up2 L 7 (L 6 0) k) 8 (L 6 0) 0) 6 0 (L 6 0 + 1)) 8 (L 6 0) 1 8 j = if j = L 6 0 then 1 else L 8 j := fun j => by by_cases q : j = L 6 0 <;> simp [up2, q]
        generalize up2 (up2 (up2 (up2 L 7 (L 6 0) k) 8 (L 6 0) 0) 6 0 (L 6 0 + 1)) 8 (L 6 0) 1 = N at E6 E7 E8 ⊢
        intro j h
        rw [E6] at h
        rw [E6, E7, E8]
        by_cases e : j = L 6 0
        · rw [if_pos e, if_pos e]
          refine ⟨Nat.le_refl 1, fun i hi => ?_, fun q => absurd q (Nat.lt_irrefl _), fun q => by omega⟩
          have hi0 : i = 0 := by omega
          subst hi0; exact c
        · have hj : j < L 6 0 := by omega
          rw [if_neg e, if_neg e]
          obtain ⟨h1, h2, h3, h4⟩ := ih j hj
          have h5 := (ho j hj).1
          refine ⟨h1, h2, fun q => ?_, fun q => by omega⟩
          by_cases e2 : L 7 j + L 8 j = k
          · exfalso
            have h6 := h2 (L 8 j - 1) (by omega)
            rw [show L 7 j + (L 8 j - 1) = k - 1 by omega] at h6
            exact h6 (d.elim (fun z => by omega) id)
          · exact h3 (by omega)
      · rw [if_neg d]
        have hl1 : 1 ≤ L 6 0 := hs.2.2 ⟨by omega, fun e => d (Or.inr e)⟩
        have E6 : up2 L 8 (L 6 0 - 1) (L 8 (L 6 0 - 1) + 1) 6 0 = L 6 0 := by simp [up2]
        have E7 : ∀ j, up2 L 8 (L 6 0 - 1) (L 8 (L 6 0 - 1) + 1) 7 j = L 7 j := fun j => by simp [up2]
        have E8 : ∀ j, up2 L 8 (L 6 0 - 1) (L 8 (L 6 0 - 1) + 1) 8 j = if j = L 6 0 - 1 then L 8 (L 6 0 - 1) + 1 else L 8 j := fun j => by by_cases q : j = L 6 0 - 1 <;> simp [up2, q]
        generalize up2 L 8 (L 6 0 - 1) (L 8 (L 6 0 - 1) + 1) = N at E6 E7 E8 ⊢
        intro j h
        rw [E6] at h
        rw [E6, E7, E8]
        by_cases e : j = L 6 0 - 1
        · subst e
          rw [if_pos rfl]
          obtain ⟨h1, h2, h3, h4⟩ := ih (L 6 0 - 1) (by omega)
          have h5 := (ho (L 6 0 - 1) (by omega)).2 ⟨by omega, by omega, fun e => d (Or.inr e)⟩
          refine ⟨by omega, fun i hi => ?_, fun q => by omega, fun q => by omega⟩
          by_cases e2 : i = L 8 (L 6 0 - 1)
          · rw [e2, h5]; exact c
          · exact h2 i (by omega)
        · rw [if_neg e]
          obtain ⟨h1, h2, h3, h4⟩ := ih j h
          have h5 := h4 (by omega)
          exact ⟨h1, h2, fun q => h3 h5, fun q => by omega⟩
/-- two segments: the class's look, the model's -/
theorem hss_same {f : Nat → Int32} {len a b m1 m2 : Nat} (ha : a + m1 ≤ len) (hb : b + m2 ≤ len) (a1 : ∀ i, i < m1 → f (a + i) ≠ 47) (b1 : ∀ i, i < m2 → f (b + i) ≠ 47) (a2 : a + m1 < len → f (a + m1) = 47) (b2 : b + m2 < len → f (b + m2) = 47) :
    ∀ (k i : Nat), i ≤ m1 → i ≤ m2 → i + k = len → hss f len a b k i = (decide (m1 = m2) && sameF (fun j => f (a + j)) (fun j => f (b + j)) (m1 - i) i) := by
  have ea : atN f len (a + m1) = 47 := by
    rw [atN]
    by_cases q : a + m1 < len
    · rw [if_pos q]; exact a2 q
    · rw [if_neg q]
  have eb : atN f len (b + m2) = 47 := by
    rw [atN]
    by_cases q : b + m2 < len
    · rw [if_pos q]; exact b2 q
    · rw [if_neg q]
  intro k
  induction k with
  | zero =>
    intro i h1 h2 h3
    have e : m1 = m2 := by omega
    have e2 : m1 - i = 0 := by omega
    rw [hss, decide_eq_true e, e2, sameF, Bool.true_and]
  | succ k ih =>
    intro i h1 h2 h3
    rw [hss]
    by_cases c1 : i = m1
    · by_cases c2 : i = m2
      · have e : m1 = m2 := by omega
        have e2 : m1 - i = 0 := by omega
        have ea2 : atN f len (a + i) = 47 := by rw [c1]; exact ea
        have eb2 : atN f len (b + i) = 47 := by rw [c2]; exact eb
        rw [ea2, eb2, if_pos rfl, if_pos rfl, decide_eq_true e, e2, sameF, Bool.true_and]
      · have e : ¬ m1 = m2 := by omega
        have l2 : i < m2 := by omega
        have n2 : atN f len (b + i) ≠ 47 := by rw [atN, if_pos (by omega)]; exact b1 i l2
        rw [decide_eq_false e, Bool.false_and, if_neg]
        intro z
        rw [c1, ea] at z
        rw [c1] at n2
        exact n2 z.symm
    · have l1 : i < m1 := by omega
      have n1 : atN f len (a + i) ≠ 47 := by rw [atN, if_pos (by omega)]; exact a1 i l1
      by_cases c2 : i = m2
      · have e : ¬ m1 = m2 := by omega
        rw [decide_eq_false e, Bool.false_and, if_neg]
        intro z
        rw [c2, eb] at z
        rw [c2] at n1
        exact n1 z
      · have l2 : i < m2 := by omega
        have va : atN f len (a + i) = f (a + i) := by rw [atN, if_pos (by omega)]
        have vb : atN f len (b + i) = f (b + i) := by rw [atN, if_pos (by omega)]
        obtain ⟨q, hq⟩ : ∃ q, m1 - i = q + 1 := ⟨m1 - i - 1, by omega⟩
        rw [hq, sameF]
        rw [va] at n1
        rw [va, vb, if_neg n1]
        by_cases c : f (a + i) = f (b + i)
        · rw [if_pos c, ih (i + 1) (by omega) (by omega) (by omega), show m1 - (i + 1) = q by omega]
          rw [if_pos c]
        · rw [if_neg c]
          rw [if_neg c, Bool.and_false]
/-- from some place on, from lo at least, 2 * size ones -/
def runE (P : Nat → Bool) (size seg lo : Nat) : Prop := ∃ g, lo ≤ g ∧ g + 3 * size ≤ seg ∧ ∀ k, k < 2 * size → P (g + k) = true
theorem c3_run {P : Nat → Bool} {size seg : Nat} (hz : 1 ≤ size) : ∀ (n i q : Nat), i + n = seg + 1 → q ≤ i → q < 2 * size → (∀ k, k < q → P (i - q + k) = true) → (c3 P size seg n i q = true ↔ runE P size seg (i - q)) := by
  have hno : ∀ i q, ¬ i + size < seg → q ≤ i → q < 2 * size → ¬ runE P size seg (i - q) := by
    rintro i q h h1 h2 ⟨g, h3, h4, -⟩
    omega
  intro n
  induction n with
  | zero =>
    intro i q h h1 h2 h3
    rw [c3]
    exact ⟨fun z => Bool.noConfusion z, fun z => absurd z (hno i q (by omega) h1 h2)⟩
  | succ n ih =>
    intro i q h h1 h2 h3
    rw [c3]
    by_cases c : i + size < seg
    · rw [if_pos c]
      by_cases d : P i = true
      · rw [if_pos d]
        by_cases e : q + 1 = 2 * size
        · rw [if_pos e]
          refine ⟨fun _ => ⟨i - q, Nat.le_refl _, by omega, fun k hk => ?_⟩, fun _ => rfl⟩
          by_cases e2 : k = q
          · rw [e2, show i - q + q = i by omega]; exact d
          · exact h3 k (by omega)
        · rw [if_neg e]
          have hk : ∀ k, k < q + 1 → P (i + 1 - (q + 1) + k) = true := by
            intro k hk
            rw [show i + 1 - (q + 1) = i - q by omega]
            by_cases e2 : k = q
            · rw [e2, show i - q + q = i by omega]; exact d
            · exact h3 k (by omega)
          have := ih (i + 1) (q + 1) (by omega) (by omega) (by omega) hk
          rw [show i + 1 - (q + 1) = i - q by omega] at this
          exact this
      · rw [if_neg d, if_neg (by omega)]
        have := ih (i + 1) 0 (by omega) (by omega) (by omega) (fun k hk => absurd hk (Nat.not_lt_zero _))
        rw [this]
        constructor
        · rintro ⟨g, g1, g2, g3⟩
          exact ⟨g, by omega, g2, g3⟩
        · rintro ⟨g, g1, g2, g3⟩
          refine ⟨g, ?_, g2, g3⟩
          rcases Nat.lt_or_ge i g with z | z
          · omega
          · exfalso
            have := g3 (i - g) (by omega)
            rw [show g + (i - g) = i by omega] at this
            exact d this
    · rw [if_neg c]
      exact ⟨fun z => Bool.noConfusion z, fun z => absurd z (hno i q c h1 h2)⟩
theorem allF_iff {P : Nat → Bool} : ∀ (n i : Nat) (b : Bool), allF P n i b = true ↔ (b = true ∧ ∀ k, k < n → P (i + k) = true) := by
  intro n
  induction n with
  | zero => intro i b; rw [allF]; exact ⟨fun z => ⟨z, fun k hk => absurd hk (Nat.not_lt_zero _)⟩, fun z => z.1⟩
  | succ n ih =>
    intro i b
    rw [allF, ih, Bool.and_eq_true]
    constructor
    · rintro ⟨⟨h1, h2⟩, h3⟩
      refine ⟨h1, fun k hk => ?_⟩
      by_cases e : k = 0
      · subst e; exact h2
      · have := h3 (k - 1) (by omega)
        rw [show i + 1 + (k - 1) = i + k by omega] at this
        exact this
    · rintro ⟨h1, h2⟩
      refine ⟨⟨h1, h2 0 (by omega)⟩, fun k hk => ?_⟩
      have := h2 (k + 1) (by omega)
      rw [show i + (k + 1) = i + 1 + k by omega] at this
      exact this
theorem frL_run {P : Nat → Bool} {row seg : Nat} : ∀ (n i : Nat) (b : Bool), seg + 1 ≤ i + n → (frL P row seg n i b = true ↔ (b = true ∨ runE P row seg i)) := by
  have hno : ∀ i, ¬ i + 3 * row ≤ seg → ¬ runE P row seg i := by
    rintro i h ⟨g, g1, g2, -⟩
    omega
  intro n
  induction n with
  | zero =>
    intro i b h
    rw [frL]
    exact ⟨Or.inl, fun z => z.elim id (fun z => absurd z (hno i (by omega)))⟩
  | succ n ih =>
    intro i b h
    rw [frL]
    by_cases c : i + 3 * row ≤ seg
    · rw [if_pos c, ih (i + 1) _ (by omega), Bool.or_eq_true, allF_iff]
      constructor
      · rintro ((z | ⟨-, z⟩) | ⟨g, g1, g2, g3⟩)
        · exact Or.inl z
        · exact Or.inr ⟨i, Nat.le_refl _, c, z⟩
        · exact Or.inr ⟨g, by omega, g2, g3⟩
      · rintro (z | ⟨g, g1, g2, g3⟩)
        · exact Or.inl (Or.inl z)
        · by_cases e : g = i
          · subst e; exact Or.inl (Or.inr ⟨rfl, g3⟩)
          · exact Or.inr ⟨g, by omega, g2, g3⟩
    · rw [if_neg c]
      exact ⟨Or.inl, fun z => z.elim id (fun z => absurd z (hno i c))⟩
theorem runE_cg {P Q : Nat → Bool} {size seg : Nat} (h : ∀ i, i + size < seg → P i = Q i) : runE P size seg 0 ↔ runE Q size seg 0 := by
  constructor
  · rintro ⟨g, g1, g2, g3⟩
    exact ⟨g, g1, g2, fun k hk => by rw [← h (g + k) (by omega)]; exact g3 k hk⟩
  · rintro ⟨g, g1, g2, g3⟩
    exact ⟨g, g1, g2, fun k hk => by rw [h (g + k) (by omega)]; exact g3 k hk⟩
/-- an address repeats itself: the class's look over its starts, the model's over its segments -/
theorem rep_eq {τ σ : IT} {ν μ : NT} (h6 : ∀ j, τ 6 j = σ 6 j) (h1 : ν 1 0 = μ 1 0) (hs : segR τ ν (τ 6) μ) (hl : ν 1 0 ≤ 30) : repA (τ 6) (τ 22) (ν 1 0) (ν 2 0) = repM σ μ := by
  have e6 : σ 6 = τ 6 := funext fun j => (h6 j).symm
  obtain ⟨hs1, hs2⟩ := hs
  have hin := layN_in (f := τ 6) (ν := μ) (ν 1 0)
  have hok := layN_ok (f := τ 6) (ν := μ) (ν 1 0)
  have hP : ∀ size i, i + size < ν 2 0 → hssP (τ 6) (τ 22) (ν 1 0) size i = sameM σ (layN (τ 6) μ (ν 1 0)) i (i + size) := by
    intro size i hi
    have li : i < ν 2 0 := by omega
    rw [hs1] at hi
    have li2 : i < layN (τ 6) μ (ν 1 0) 6 0 := by omega
    obtain ⟨a0, a1, a2, -⟩ := hin i li2
    obtain ⟨b0, b1, b2, -⟩ := hin (i + size) hi
    have a3 := (hok i li2).1
    have b3 := (hok (i + size) hi).1
    rw [hssP, hs2 i li, hs2 (i + size) (by omega), nI_clamp (by omega), nI_clamp (by omega), sameM, e6]
    exact hss_same a3 b3 a1 b1 a2 b2 (ν 1 0) 0 (Nat.zero_le _) (Nat.zero_le _) (Nat.zero_add _)
  have hC : ∀ size, 1 ≤ size → (c3A (τ 6) (τ 22) (ν 1 0) (ν 2 0) size = true ↔ runE (fun i => sameM σ (layN (τ 6) μ (ν 1 0)) i (i + size)) size (ν 2 0) 0) := by
    intro size hz
    rw [c3A, c3_run hz (ν 2 0 + 1) 0 0 (Nat.zero_add _) (Nat.le_refl _) (by omega) (fun k hk => absurd hk (Nat.not_lt_zero _))]
    exact runE_cg (hP size)
  have hF : ∀ row b, frL (fun i => sameM σ (layN (τ 6) μ (ν 1 0)) i (i + row)) row (ν 2 0) (ν 2 0 + 1) 0 b = true ↔ (b = true ∨ runE (fun i => sameM σ (layN (τ 6) μ (ν 1 0)) i (i + row)) row (ν 2 0) 0) := fun row b => frL_run (ν 2 0 + 1) 0 b (by omega)
  have key : (repA (τ 6) (τ 22) (ν 1 0) (ν 2 0) = true) ↔ (repM σ μ = true) := by
    rw [repM, ← h1, e6, rpL, rpL, rpL, rpL, ← hs1, hF 3, hF 2, hF 1, repA, Bool.or_eq_true, Bool.or_eq_true, hC 1 (by decide), hC 2 (by decide), hC 3 (by decide)]
    constructor
    · rintro ((z | z) | z)
      · exact Or.inl (Or.inl (Or.inr z))
      · exact Or.inl (Or.inr z)
      · exact Or.inr z
    · rintro (((z | z) | z) | z)
      · exact Bool.noConfusion z
      · exact Or.inl (Or.inl z)
      · exact Or.inl (Or.inr z)
      · exact Or.inr z
  exact Bool.eq_iff_iff.mpr key
