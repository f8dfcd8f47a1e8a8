/-! class and model: next, by hosts, by a scan, by the model -/
theorem foh_first {τ : IT} {ν : NT} {h : Nat} (hn : ν 0 0 ≤ 30) : ∀ (k i : Nat) (f : Option Nat), firstIn τ (fun x => x < i ∧ x < ν 0 0 ∧ ν 5 x = h ∧ isRdy τ ν x = true) f → firstIn τ (fun x => x < i + k ∧ x < ν 0 0 ∧ ν 5 x = h ∧ isRdy τ ν x = true) (fohL τ ν h k i f) := by
  intro k
  induction k with
  | zero => intro i f hh; exact hh
  | succ k ih =>
    intro i f hh
    rw [fohL, show i + (k + 1) = (i + 1) + k by omega]
    refine ih (i + 1) _ ?_
    by_cases c : i < ν 0 0 ∧ ν 5 i = h ∧ isRdy τ ν i = true
    · rw [if_pos c]
      refine firstIn_earl (fun x hx => by omega) (fun x hx => by omega) (fun x => ?_) hh (firstIn_one (i := i))
      constructor
      · rintro ⟨h1, h2, h3⟩
        by_cases e : x = i
        · exact Or.inr e
        · exact Or.inl ⟨by omega, h2, h3⟩
      · rintro (⟨h1, h2, h3⟩ | e)
        · exact ⟨by omega, h2, h3⟩
        · subst e; exact ⟨by omega, c.1, c.2⟩
    · rw [if_neg c]
      refine ⟨fun a ha => ⟨⟨by have := (hh.1 a ha).1.1; omega, (hh.1 a ha).1.2⟩, fun b hb hne => (hh.1 a ha).2 b ⟨?_, hb.2⟩ hne⟩, fun z b hb => hh.2 z b ⟨?_, hb.2⟩⟩
      · by_cases e : b = i
        · subst e; exact absurd hb.2 c
        · have := hb.1; omega
      · by_cases e : b = i
        · subst e; exact absurd hb.2 c
        · have := hb.1; omega
theorem firstIn_none {τ : IT} {S : Nat → Prop} (h : ∀ x, ¬ S x) : firstIn τ S none := ⟨fun a e => (nomatch e), fun _ => h⟩
theorem firstIn_iff {τ : IT} {S T : Nat → Prop} {r : Option Nat} (h : ∀ x, S x ↔ T x) (g : firstIn τ S r) : firstIn τ T r :=
  ⟨fun a e => ⟨(h a).mp (g.1 a e).1, fun b hb hne => (g.1 a e).2 b ((h b).mpr hb) hne⟩, fun e b hb => g.2 e b ((h b).mpr hb)⟩
theorem next_first {τ : IT} {ν : NT} (hn : ν 0 0 ≤ 30) : ∀ (k h : Nat) (f : Option Nat), firstIn τ (fun x => ν 5 x < h ∧ x < ν 0 0 ∧ isRdy τ ν x = true) f → firstIn τ (fun x => ν 5 x < h + k ∧ x < ν 0 0 ∧ isRdy τ ν x = true) (nextL τ ν k h f) := by
  intro k
  induction k with
  | zero => intro h f hh; exact hh
  | succ k ih =>
    intro h f hh
    rw [nextL, show h + (k + 1) = (h + 1) + k by omega]
    refine ih (h + 1) _ ?_
    have g := foh_first (τ := τ) (ν := ν) (h := h) hn 30 0 none (firstIn_none (fun x hx => absurd hx.1 (Nat.not_lt_zero x)))
    refine firstIn_earl (fun x hx => by omega) (fun x hx => by omega) (fun x => ?_) hh g
    constructor
    · rintro ⟨h1, h2, h3⟩
      by_cases e : ν 5 x = h
      · exact Or.inr ⟨by omega, h2, e, h3⟩
      · exact Or.inl ⟨by omega, h2, h3⟩
    · rintro (⟨h1, h2, h3⟩ | ⟨h1, h2, h3, h4⟩)
      · exact ⟨by omega, h2, h3⟩
      · exact ⟨by omega, h2, h4⟩
/-- the class's two ways answer the same -/
theorem next_scan {τ : IT} {ν : NT} (hn : ν 0 0 ≤ 30) (hh : ∀ p, p < ν 0 0 → ν 5 p < 6) : nextL τ ν 6 0 none = scanL τ ν 30 0 none := by
  refine firstIn_un (τ := τ) (S := fun x => x < ν 0 0 ∧ isRdy τ ν x = true) (fun x hx => by omega) ?_ ?_
  · refine firstIn_iff (fun x => ?_) (next_first hn 6 0 none (firstIn_none (fun x hx => absurd hx.1 (Nat.not_lt_zero _))))
    exact ⟨fun z => z.2, fun z => ⟨by have := hh x z.1; omega, z⟩⟩
  · refine firstIn_iff (fun x => ?_) (scan_first hn 30 0 none (firstIn_none (fun x hx => absurd hx.1 (Nat.not_lt_zero _))))
    exact ⟨fun z => z.2, fun z => ⟨by omega, z⟩⟩
theorem scan_out {τ : IT} {ν : NT} : ∀ (k i : Nat) (f : Option Nat), ν 0 0 ≤ i → scanL τ ν k i f = f := by
  intro k
  induction k with
  | zero => intro i f h; rfl
  | succ k ih =>
    intro i f h
    rw [scanL, if_neg (fun z => by omega)]
    exact ih (i + 1) f (by omega)
/-- the model's scan is the class's -/
theorem best_scan {τ σ : IT} {ν μ : NT} (hn : ν 0 0 ≤ 30) (h0 : ν 0 0 = μ 0 0) (hop : ∀ p, p < ν 0 0 → isRdy τ ν p = openB σ μ p) (hpr : ∀ p, p < ν 0 0 → pressC τ p = pressM σ p) (hrk : ∀ p, p < ν 0 0 → τ 10 p = σ 10 p) :
    ∀ (k j i : Nat) (f : Option Nat) (m : Int32), i + k = ν 0 0 → k ≤ j → (∀ a, f = some a → a < i ∧ m = pressM σ a) → scanL τ ν j i f = bestM σ μ k i f m := by
  intro k
  induction k with
  | zero => intro j i f m hi _ _; rw [bestM]; exact scan_out j i f (by omega)
  | succ k ih =>
    intro j i f m hi hj hf
    obtain ⟨j, rfl⟩ : ∃ z, j = z + 1 := ⟨j - 1, by omega⟩
    have hlt : i < ν 0 0 := by omega
    rw [scanL, bestM]
    have hb : btB σ μ i f m = true ↔ (isRdy τ ν i = true ∧ earl τ f (some i) = some i) := by
      rw [hop i hlt, btB.eq_def, Bool.and_eq_true]
      refine and_congr Iff.rfl ?_
      cases f with
      | none => exact ⟨fun _ => rfl, fun _ => rfl⟩
      | some a =>
        obtain ⟨ha, hm⟩ := hf a rfl
        have hla : a < ν 0 0 := by omega
        show (decide (m < pressM σ i) || (decide (pressM σ i = m) && decide (σ 10 a < σ 10 i))) = true ↔ earl τ (some a) (some i) = some i
        rw [hm, ← hpr i hlt, ← hpr a hla, ← hrk i hlt, ← hrk a hla, earl]
        have hx := bef_iff (τ := τ) (x := i) (y := a) (by omega) (by omega)
        have hne : a ≠ i := by omega
        simp only [Bool.or_eq_true, Bool.and_eq_true, decide_eq_true_iff, Int32.lt_iff_toInt_lt, ← Int32.toInt_inj]
        by_cases c : befC τ i a = true
        · rw [if_pos c]
          have := hx.mp c
          refine ⟨fun _ => rfl, fun _ => ?_⟩
          omega
        · rw [if_neg c]
          have := mt hx.mpr c
          refine ⟨fun z => ?_, fun z => absurd (Option.some.inj z) hne⟩
          exfalso
          omega
    by_cases c : btB σ μ i f m = true
    · obtain ⟨c1, c2⟩ := hb.mp c
      rw [if_pos ⟨hlt, c1⟩, if_pos c, if_pos c, c2]
      exact ih j (i + 1) (some i) (pressM σ i) (by omega) (by omega) (fun a e => by cases e; exact ⟨by omega, rfl⟩)
    · rw [if_neg c, if_neg c]
      have e : (if i < ν 0 0 ∧ isRdy τ ν i = true then earl τ f (some i) else f) = f := by
        by_cases q : isRdy τ ν i = true
        · rw [if_pos ⟨hlt, q⟩]
          cases f with
          | none => exact absurd (hb.mpr ⟨q, rfl⟩) c
          | some a =>
            rw [earl]
            by_cases g : befC τ i a = true
            · exact absurd (hb.mpr ⟨q, by rw [earl, if_pos g]⟩) c
            · rw [if_neg g]
        · rw [if_neg (fun z => q z.2)]
      rw [e]
      exact ih j (i + 1) f m (by omega) (by omega) (fun a ea => ⟨by have := (hf a ea).1; omega, (hf a ea).2⟩)
