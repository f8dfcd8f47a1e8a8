/-! class and model: ticks pass -/
theorem pass_eq {τ σ : IT} {t d z : Nat} (h0 : τ 0 0 = σ 0 0) (ht : σ 0 0 = nI t) (htd : t + d ≤ 100000) (h20 : τ 20 0 = usedM σ) (hz : σ 31 0 = nI z) (hz2 : z ≤ t / 100) :
    passC τ (nI d) 20 0 = usedM (up2 (T0 σ) 0 0 (σ 0 0 + nI d)) ∧ passC τ (nI d) 0 0 = σ 0 0 + nI d ∧ ∀ K i, K ≠ 0 → K ≠ 20 → passC τ (nI d) K i = τ K i := by
  have en : σ 0 0 + nI d = nI (t + d) := by rw [ht]; exact nI_add _ _
  have eu : usedM (up2 (T0 σ) 0 0 (σ 0 0 + nI d)) = if z = (t + d) / 100 then σ 32 0 else 0 := by
    show (if σ 31 0 = (σ 0 0 + nI d) / 100 then σ 32 0 else 0) = _
    rw [en, hz, show nI (t + d) / 100 = nI ((t + d) / 100) from pk_div (d := 100) (by omega) (by decide) (by decide)]
    by_cases q : z = (t + d) / 100
    · rw [if_pos (by rw [q]), if_pos q]
    · rw [if_neg (fun y => q ((nI_eq (by omega) (by omega)).mp y)), if_neg q]
  have eo : usedM σ = if z = t / 100 then σ 32 0 else 0 := by
    rw [usedM, hz, ht, show nI t / 100 = nI (t / 100) from pk_div (d := 100) (by omega) (by decide) (by decide)]
    by_cases q : z = t / 100
    · rw [if_pos (by rw [q]), if_pos q]
    · rw [if_neg (fun y => q ((nI_eq (by omega) (by omega)).mp y)), if_neg q]
  have es : (τ 0 0 + nI d < spanC τ) ↔ t + d < 100 * (t / 100 + 1) := by
    rw [spanC, h0, en, ht, span_nI (by omega), nI_ltI (by omega) (by omega)]
  rw [eu]
  by_cases c : τ 0 0 + nI d < spanC τ
  · have c2 := es.mp c
    have e : passC τ (nI d) = up2 τ 0 0 (τ 0 0 + nI d) := if_pos c
    rw [e]
    refine ⟨?_, by rw [up2_s, h0], fun K i hK _ => by rw [up2_k hK]⟩
    rw [up2_k (by decide), h20, eo, show (t + d) / 100 = t / 100 by omega]
  · have c2 := mt es.mpr c
    have e : passC τ (nI d) = up2 (up2 τ 20 0 0) 0 0 (τ 0 0 + nI d) := if_neg c
    rw [e]
    refine ⟨?_, by rw [up2_s, h0], fun K i hK hK2 => by rw [up2_k hK, up2_k hK2]⟩
    rw [up2_k (by decide), up2_s, if_neg (by omega)]
