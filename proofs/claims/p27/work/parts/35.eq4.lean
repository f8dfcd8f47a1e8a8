/-! class and model: visits spread -/
def shEq (τ σ : IT) (n : Nat) : Prop := ∀ p, p < n → τ 10 p = σ 10 p ∧ τ 13 p = σ 13 p ∧ τ 14 p = σ 14 p ∧ τ 15 p = σ 15 p ∧ τ 25 p = σ 36 p
theorem bst_eq {τ σ : IT} {ν μ : NT} (h : shEq τ σ (ν 0 0)) : ∀ (k j i : Nat) (f : Option Nat), i + k = ν 0 0 → k ≤ j → (∀ a, f = some a → a < ν 0 0) → bstL τ ν j i f = bsL σ μ k i f ∧ ∀ a, bsL σ μ k i f = some a → a < ν 0 0 := by
  intro k
  induction k with
  | zero =>
    intro j i f hi _ hf
    refine ⟨?_, fun a e => hf a e⟩
    rw [bsL]
    clear hf
    induction j generalizing i f with
    | zero => rfl
    | succ j ihj =>
      have hout : ∀ (j i : Nat) (f : Option Nat), ν 0 0 ≤ i → bstL τ ν j i f = f := by
        intro j
        induction j with
        | zero => intro i f _; rfl
        | succ j ih2 => intro i f hi2; rw [bstL, if_neg (fun z => by omega)]; exact ih2 (i + 1) f (by omega)
      exact hout _ _ _ (by omega)
  | succ k ih =>
    intro j i f hi hj hf
    obtain ⟨j, rfl⟩ : ∃ z, j = z + 1 := ⟨j - 1, by omega⟩
    have hlt : i < ν 0 0 := by omega
    obtain ⟨e10, e13, e14, e15, e25⟩ := h i hlt
    have hk : keptC τ i = keptB (σ 14 i) (σ 15 i) := by rw [keptC, e14, e15]
    have hg : gnC τ i f = bsC σ i f := by
      cases f with
      | none => rfl
      | some a =>
        obtain ⟨a10, a13, _, _, a25⟩ := h a (hf a rfl)
        show gainsC τ i a = addsB σ i a
        rw [gainsC, gainsB, addsB, e10, e13, e25, a10, a13, a25]
    rw [bstL, bsL, hk, hg]
    by_cases c : keptB (σ 14 i) (σ 15 i) = true ∧ bsC σ i f = true
    · rw [if_pos ⟨hlt, c⟩, if_pos c]
      exact ih j (i + 1) (some i) (by omega) (by omega) (fun a e => by cases e; exact hlt)
    · rw [if_neg (fun z => c z.2), if_neg c]
      exact ih j (i + 1) f (by omega) (by omega) hf
theorem fgL_k {τ : IT} {n K i : Nat} (hK : K ≠ 25) : ∀ k, fgL τ n k K i = τ K i := by
  intro k
  induction k with
  | zero => rfl
  | succ k ih =>
    rw [fgL]
    by_cases c : k < n
    · rw [if_pos c, up2_k hK]; exact ih
    · rw [if_neg c]; exact ih
theorem fgL_0 {τ : IT} {n p : Nat} (hp : p < n) : ∀ k, p < k → fgL τ n k 25 p = 0 := by
  intro k
  induction k with
  | zero => intro h; exact absurd h (Nat.not_lt_zero _)
  | succ k ih =>
    intro h
    rw [fgL]
    by_cases e : p = k
    · subst e; rw [if_pos hp, up2_s]
    · by_cases c : k < n
      · rw [if_pos c, up2_i e]; exact ih (by omega)
      · rw [if_neg c]; exact ih (by omega)
theorem rstL_k {σ : IT} {K i : Nat} (hK : K ≠ 36) : ∀ k, rstL σ k K i = σ K i := by
  intro k
  induction k with
  | zero => rfl
  | succ k ih => rw [rstL, up2_k hK]; exact ih
theorem rstL_0 {σ : IT} {p : Nat} : ∀ k, p < k → rstL σ k 36 p = 0 := by
  intro k
  induction k with
  | zero => intro h; exact absurd h (Nat.not_lt_zero _)
  | succ k ih =>
    intro h
    rw [rstL]
    by_cases e : p = k
    · subst e; rw [up2_s]
    · rw [up2_i e]; exact ih (by omega)
theorem inc_eq {τ σ : IT} {n : Nat} {r : Option Nat} (h : shEq τ σ n) (hr : ∀ a, r = some a → a < n) : shEq (incC τ r) (incS σ r) n := by
  cases r with
  | none => exact h
  | some a =>
    intro p hp
    obtain ⟨e10, e13, e14, e15, e25⟩ := h p hp
    show up2 τ 25 a _ 10 p = up2 σ 36 a _ 10 p ∧ up2 τ 25 a _ 13 p = up2 σ 36 a _ 13 p ∧ up2 τ 25 a _ 14 p = up2 σ 36 a _ 14 p ∧ up2 τ 25 a _ 15 p = up2 σ 36 a _ 15 p ∧ up2 τ 25 a (τ 25 a + 1) 25 p = up2 σ 36 a (σ 36 a + 1) 36 p
    refine ⟨e10, e13, e14, e15, ?_⟩
    by_cases e : p = a
    · subst e; rw [up2_s, up2_s, e25]
    · rw [up2_i e, up2_i e, e25]
theorem share_eq {τ σ : IT} {ν μ : NT} (h30 : ν 0 0 ≤ 30) (h0 : ν 0 0 = μ 0 0) (h : ∀ p, p < ν 0 0 → τ 10 p = σ 10 p ∧ τ 13 p = σ 13 p ∧ τ 14 p = σ 14 p ∧ τ 15 p = σ 15 p) : ∀ k, shEq (svN τ ν k) (shrL (rstL (T0 σ) (μ 0 0)) μ k) (ν 0 0) := by
  intro k
  induction k with
  | zero =>
    intro p hp
    obtain ⟨e10, e13, e14, e15⟩ := h p hp
    show fgL τ (ν 0 0) 30 10 p = rstL (T0 σ) (μ 0 0) 10 p ∧ fgL τ (ν 0 0) 30 13 p = rstL (T0 σ) (μ 0 0) 13 p ∧ fgL τ (ν 0 0) 30 14 p = rstL (T0 σ) (μ 0 0) 14 p ∧ fgL τ (ν 0 0) 30 15 p = rstL (T0 σ) (μ 0 0) 15 p ∧ fgL τ (ν 0 0) 30 25 p = rstL (T0 σ) (μ 0 0) 36 p
    rw [fgL_k (by decide), fgL_k (by decide), fgL_k (by decide), fgL_k (by decide), rstL_k (by decide), rstL_k (by decide), rstL_k (by decide), rstL_k (by decide), fgL_0 hp 30 (by omega), rstL_0 _ (by omega)]
    exact ⟨e10, e13, e14, e15, rfl⟩
  | succ k ih =>
    rw [← h0] at ih ⊢
    have hb := bst_eq (ν := ν) (μ := μ) ih (ν 0 0) 30 0 none (by omega) h30 (fun _ e => nomatch e)
    rw [svN, shrL, ← h0, hb.1]
    exact inc_eq ih hb.2
/-- what the others than the shares are, behind a share -/
theorem svN_k {τ : IT} {ν : NT} {K i : Nat} (hK : K ≠ 25) : ∀ k, svN τ ν k K i = τ K i := by
  intro k
  induction k with
  | zero => exact fgL_k hK 30
  | succ k ih =>
    rw [svN]
    cases bstL (svN τ ν k) ν 30 0 none with
    | none => exact ih
    | some a => show up2 _ 25 a _ K i = _; rw [up2_k hK]; exact ih
theorem shrL_k {σ : IT} {μ : NT} {K i : Nat} (hK : K ≠ 36) : ∀ k, shrL σ μ k K i = σ K i := by
  intro k
  induction k with
  | zero => rfl
  | succ k ih =>
    rw [shrL]
    cases bsL (shrL σ μ k) μ (μ 0 0) 0 none with
    | none => exact ih
    | some a => show up2 _ 36 a _ K i = _; rw [up2_k hK]; exact ih
