/-! class and model: the next page -/
theorem bef_iff {τ : IT} {x y : Nat} (hx : x < 2 ^ 30) (hy : y < 2 ^ 30) : befC τ x y = true ↔ ((pressC τ y).toInt < (pressC τ x).toInt ∨ ((pressC τ x).toInt = (pressC τ y).toInt ∧ ((τ 10 y).toInt < (τ 10 x).toInt ∨ ((τ 10 x).toInt = (τ 10 y).toInt ∧ x < y)))) := by
  have e1 : (pressC τ x = pressC τ y) ↔ ((pressC τ x).toInt = (pressC τ y).toInt) := Int32.toInt_inj.symm
  have e2 : (τ 10 x = τ 10 y) ↔ ((τ 10 x).toInt = (τ 10 y).toInt) := Int32.toInt_inj.symm
  rw [befC]
  by_cases h1 : pressC τ x = pressC τ y
  · rw [if_pos h1]
    have h1' := e1.mp h1
    by_cases h2 : τ 10 x = τ 10 y
    · rw [if_pos h2, decide_eq_true_iff, nI_ltI (by omega) (by omega)]
      have h2' := e2.mp h2
      omega
    · rw [if_neg h2, decide_eq_true_iff, Int32.lt_iff_toInt_lt]
      have h2' := mt e2.mpr h2
      omega
  · rw [if_neg h1, decide_eq_true_iff, Int32.lt_iff_toInt_lt]
    have h1' := mt e1.mpr h1
    omega
/-- r is the first of S -/
def firstIn (τ : IT) (S : Nat → Prop) (r : Option Nat) : Prop := (∀ a, r = some a → S a ∧ ∀ b, S b → b ≠ a → befC τ a b = true) ∧ (r = none → ∀ b, ¬ S b)
theorem firstIn_un {τ : IT} {S : Nat → Prop} {r q : Option Nat} (hS : ∀ x, S x → x < 2 ^ 30) (h : firstIn τ S r) (g : firstIn τ S q) : r = q := by
  cases r with
  | none =>
    cases q with
    | none => rfl
    | some b => exact absurd (g.1 b rfl).1 (h.2 rfl b)
  | some a =>
    cases q with
    | none => exact absurd (h.1 a rfl).1 (g.2 rfl a)
    | some b =>
      by_cases e : a = b
      · rw [e]
      · exfalso
        have ha := h.1 a rfl
        have hb := g.1 b rfl
        have h1 := (bef_iff (hS a ha.1) (hS b hb.1)).mp (ha.2 b hb.1 (Ne.symm e))
        have h2 := (bef_iff (hS b hb.1) (hS a ha.1)).mp (hb.2 a ha.1 e)
        omega
theorem firstIn_earl {τ : IT} {S T U : Nat → Prop} {r q : Option Nat} (hS : ∀ x, S x → x < 2 ^ 30) (hT : ∀ x, T x → x < 2 ^ 30) (hU : ∀ x, U x ↔ (S x ∨ T x)) (h : firstIn τ S r) (g : firstIn τ T q) : firstIn τ U (earl τ r q) := by
  cases r with
  | none =>
    have hn := h.2 rfl
    have e : earl τ none q = q := by cases q <;> rfl
    rw [e]
    refine ⟨fun a ha => ⟨(hU a).mpr (Or.inr (g.1 a ha).1), fun b hb hne => ?_⟩, fun hq b hb => ?_⟩
    · rcases (hU b).mp hb with z | z
      · exact absurd z (hn b)
      · exact (g.1 a ha).2 b z hne
    · rcases (hU b).mp hb with z | z
      · exact hn b z
      · exact g.2 hq b z
  | some a =>
    have ha := h.1 a rfl
    cases q with
    | none =>
      have hn := g.2 rfl
      refine ⟨fun c hc => ?_, fun z => by cases z⟩
      cases hc
      refine ⟨(hU a).mpr (Or.inl ha.1), fun b hb hne => ?_⟩
      rcases (hU b).mp hb with z | z
      · exact ha.2 b z hne
      · exact absurd z (hn b)
    | some b =>
      have hb := g.1 b rfl
      have la := hS a ha.1
      have lb := hT b hb.1
      rw [earl]
      by_cases c : befC τ b a = true
      · rw [if_pos c]
        refine ⟨fun d hd => ?_, fun z => by cases z⟩
        cases hd
        refine ⟨(hU b).mpr (Or.inr hb.1), fun d hd hne => ?_⟩
        rcases (hU d).mp hd with z | z
        · by_cases e : d = a
          · rw [e]; exact c
          · have l := hS d z
            have h1 := (bef_iff la l).mp (ha.2 d z e)
            have h2 := (bef_iff lb la).mp c
            exact (bef_iff lb l).mpr (by omega)
        · exact hb.2 d z hne
      · rw [if_neg c]
        refine ⟨fun d hd => ?_, fun z => by cases z⟩
        cases hd
        refine ⟨(hU a).mpr (Or.inl ha.1), fun d hd hne => ?_⟩
        have h2 := mt (bef_iff lb la).mpr c
        rcases (hU d).mp hd with z | z
        · exact ha.2 d z hne
        · have l := hT d z
          by_cases e : d = b
          · subst e; exact (bef_iff la l).mpr (by omega)
          · have h1 := (bef_iff lb l).mp (hb.2 d z e)
            exact (bef_iff la l).mpr (by omega)
theorem firstIn_one {τ : IT} {i : Nat} : firstIn τ (fun x => x = i) (some i) := ⟨fun a e => by cases e; exact ⟨rfl, fun b hb hne => absurd hb hne⟩, fun z => by cases z⟩
theorem scan_first {τ : IT} {ν : NT} (hn : ν 0 0 ≤ 30) : ∀ (k i : Nat) (f : Option Nat), firstIn τ (fun x => x < i ∧ x < ν 0 0 ∧ isRdy τ ν x = true) f → firstIn τ (fun x => x < i + k ∧ x < ν 0 0 ∧ isRdy τ ν x = true) (scanL τ ν k i f) := by
  intro k
  induction k with
  | zero => intro i f h; exact h
  | succ k ih =>
    intro i f h
    rw [scanL, show i + (k + 1) = (i + 1) + k by omega]
    refine ih (i + 1) _ ?_
    by_cases c : i < ν 0 0 ∧ isRdy τ ν i = true
    · rw [if_pos c]
      refine firstIn_earl (fun x hx => by omega) (fun x hx => by omega) (fun x => ?_) h (firstIn_one (i := i))
      constructor
      · rintro ⟨h1, h2, h3⟩
        by_cases e : x = i
        · exact Or.inr e
        · exact Or.inl ⟨by omega, h2, h3⟩
      · rintro (⟨h1, h2, h3⟩ | e)
        · exact ⟨by omega, h2, h3⟩
        · subst e; exact ⟨by omega, c.1, c.2⟩
    · rw [if_neg c]
      refine ⟨fun a ha => ⟨⟨by have := (h.1 a ha).1.1; omega, (h.1 a ha).1.2⟩, fun b hb hne => (h.1 a ha).2 b ⟨?_, hb.2⟩ hne⟩, fun z b hb => h.2 z b ⟨?_, hb.2⟩⟩
      · by_cases e : b = i
        · subst e; exact absurd hb.2 c
        · have := hb.1; omega
      · by_cases e : b = i
        · subst e; exact absurd hb.2 c
        · have := hb.1; omega
