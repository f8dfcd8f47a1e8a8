set_option maxHeartbeats 4000000 in
/-- the world with a page more -/
theorem CW.grow {D : va_G} {cy : Nat → ClassId} {ad : NT} {τ : IT} {ν : NT} {H : Heap} {r : Int32} {h p b c t : Nat}
    (hold : ∀ k i, i < cC (ν 0 0) k → k ≠ 0 → k ≠ 3 → oA D (ad k i) (eC cy ad τ ν k i) H)
    (hobj : oA D (ad 0 0) (.inr (3, [.ref (ad 1 0), .ref (ad 2 0), .ref (ad 3 0), .int (nI (ν 0 0 + 1)), .int (τ 0 0), .int (τ 1 0), .int (τ 2 0), .int (τ 3 0), .int (τ 20 0)])) H)
    (hfnd : oA D (ad 3 0) (.inl (cy 4, 30, .inr (.inr (.inr (.inr (va_up (fun j => if j < ν 0 0 then some (ad 7 j) else none) (ν 0 0) (some p))))))) H)
    (hpg : oA D p (.inr (2, [.int (nI (ν 0 0)), .ref (ad 6 h), .ref b, .int (zb (repA (τ 6) (τ 22) (ν 1 0) (ν 2 0))), .int r, .int (τ 0 0), .int 0, .int 0, .int 0, .int 0])) H)
    (hadr : pA D cy b c t (τ 6) (τ 22) (ν 1 0) (ν 2 0) H) : CW D cy (fdAd ad (ν 0 0) p b c t) (fdTC τ ν r) (fdNC ν h) H := by
  intro k i hi
  have hi' : i < cC (ν 0 0 + 1) k := hi
  rcases cC_up hi' with ⟨hh, g⟩ | ⟨hk, he⟩
  · rw [fdAd_old g]
    match k, hh, g with
    | 0, hh, _ => have e : i = 0 := Nat.lt_one_iff.mp hh; subst e; exact hobj
    | 1, hh, _ => exact hold 1 i hh (by decide) (by decide)
    | 2, hh, _ => exact hold 2 i hh (by decide) (by decide)
    | 3, hh, _ =>
      have e : i = 0 := Nat.lt_one_iff.mp hh
      subst e
      refine hfnd.rowQ (fun j hj => ?_)
      show va_up (fun j => if j < ν 0 0 then some (ad 7 j) else none) (ν 0 0) (some p) j = if j < ν 0 0 + 1 then some (fdAd ad (ν 0 0) p b c t 7 j) else none
      by_cases e : j = ν 0 0
      · rw [if_pos (by omega)]; subst e; simp [va_up, fdAd]
      · have e1 : fdAd ad (ν 0 0) p b c t 7 j = ad 7 j := fdAd_old (by omega)
        rw [e1]
        by_cases q : j < ν 0 0
        · rw [if_pos (by omega)]; simp [va_up, e, q]
        · rw [if_neg (by omega)]; simp [va_up, e, q]
    | 4, hh, _ => exact hold 4 i hh (by decide) (by decide)
    | 5, hh, _ => exact hold 5 i hh (by decide) (by decide)
    | 6, hh, _ => exact hold 6 i hh (by decide) (by decide)
    | 7, hh, g =>
      have hn : i ≠ ν 0 0 := fun e => g ⟨by decide, by decide, e⟩
      have e5 : fdNC ν h 5 i = ν 5 i := fdNC_old (by omega) (by omega)
      have e8 : fdAd ad (ν 0 0) p b c t 8 i = ad 8 i := fdAd_old (by omega)
      have e6 : fdAd ad (ν 0 0) p b c t 6 (ν 5 i) = ad 6 (ν 5 i) := fdAd_old (by omega)
      have f : ∀ k, (k = 10 ∨ k = 11 ∨ k = 12 ∨ k = 13 ∨ k = 14 ∨ k = 15 ∨ k = 25) → fdTC τ ν r k i = τ k i := fun k _ => fdTC_old (by omega) (by omega)
      have hx := hold 7 i hh (by decide) (by decide)
      show oA D (ad 7 i) (.inr (2, [.int (nI i), .ref (fdAd ad (ν 0 0) p b c t 6 (fdNC ν h 5 i)), .ref (fdAd ad (ν 0 0) p b c t 8 i), .int (fdTC τ ν r 15 i), .int (fdTC τ ν r 10 i), .int (fdTC τ ν r 11 i), .int (fdTC τ ν r 12 i), .int (fdTC τ ν r 13 i), .int (fdTC τ ν r 14 i), .int (fdTC τ ν r 25 i)])) H
      rw [e5, e6, e8, f 15 (by decide), f 10 (by decide), f 11 (by decide), f 12 (by decide), f 13 (by decide), f 14 (by decide), f 25 (by decide)]
      exact hx
    | 8, hh, g =>
      have hn : i ≠ ν 0 0 := fun e => g ⟨by decide, by decide, e⟩
      have e9 : fdAd ad (ν 0 0) p b c t 9 i = ad 9 i := fdAd_old (by omega)
      have e10 : fdAd ad (ν 0 0) p b c t 10 i = ad 10 i := fdAd_old (by omega)
      have e3 : fdNC ν h 3 i = ν 3 i := fdNC_old (by omega) (by omega)
      have e4 : fdNC ν h 4 i = ν 4 i := fdNC_old (by omega) (by omega)
      have hx := hold 8 i hh (by decide) (by decide)
      show oA D (ad 8 i) (.inr (0, [.ref (fdAd ad (ν 0 0) p b c t 9 i), .ref (fdAd ad (ν 0 0) p b c t 10 i), .int (nI (fdNC ν h 3 i)), .int (nI (fdNC ν h 4 i))])) H
      rw [e9, e10, e3, e4]
      exact hx
    | 9, hh, g =>
      have hn : i < ν 0 0 := hh
      exact (hold 9 i hh (by decide) (by decide)).rowI (fun j hj => (fdTC_old (by omega) (by omega)).symm)
    | 10, hh, g =>
      have hn : i < ν 0 0 := hh
      exact (hold 10 i hh (by decide) (by decide)).rowI (fun j hj => (fdTC_old (by omega) (by omega)).symm)
    | _ + 11, hh, _ => exact absurd hh (Nat.not_lt_zero _)
  · subst he
    rcases hk with rfl | rfl | rfl | rfl
    · have e : fdAd ad (ν 0 0) p b c t 7 (ν 0 0) = p := by simp [fdAd]
      have e5 : fdNC ν h 5 (ν 0 0) = h := by simp [fdNC]
      have e8 : fdAd ad (ν 0 0) p b c t 8 (ν 0 0) = b := by simp [fdAd]
      have e6 : fdAd ad (ν 0 0) p b c t 6 h = ad 6 h := fdAd_old (by omega)
      rw [e]
      show oA D p (.inr (2, [.int (nI (ν 0 0)), .ref (fdAd ad (ν 0 0) p b c t 6 (fdNC ν h 5 (ν 0 0))), .ref (fdAd ad (ν 0 0) p b c t 8 (ν 0 0)), .int (fdTC τ ν r 15 (ν 0 0)), .int (fdTC τ ν r 10 (ν 0 0)), .int (fdTC τ ν r 11 (ν 0 0)), .int (fdTC τ ν r 12 (ν 0 0)), .int (fdTC τ ν r 13 (ν 0 0)), .int (fdTC τ ν r 14 (ν 0 0)), .int (fdTC τ ν r 25 (ν 0 0))])) H
      have f15 : fdTC τ ν r 15 (ν 0 0) = zb (repA (τ 6) (τ 22) (ν 1 0) (ν 2 0)) := by simp [fdTC]
      have f10 : fdTC τ ν r 10 (ν 0 0) = r := by simp [fdTC]
      have f11 : fdTC τ ν r 11 (ν 0 0) = τ 0 0 := by simp [fdTC]
      have f12 : fdTC τ ν r 12 (ν 0 0) = 0 := by simp [fdTC]
      have f13 : fdTC τ ν r 13 (ν 0 0) = 0 := by simp [fdTC]
      have f14 : fdTC τ ν r 14 (ν 0 0) = 0 := by simp [fdTC]
      have f25 : fdTC τ ν r 25 (ν 0 0) = 0 := by simp [fdTC]
      rw [e5, e6, e8, f15, f10, f11, f12, f13, f14, f25]
      exact hpg
    · have e : fdAd ad (ν 0 0) p b c t 8 (ν 0 0) = b := by simp [fdAd]
      have e9 : fdAd ad (ν 0 0) p b c t 9 (ν 0 0) = c := by simp [fdAd]
      have e10 : fdAd ad (ν 0 0) p b c t 10 (ν 0 0) = t := by simp [fdAd]
      have e3 : fdNC ν h 3 (ν 0 0) = ν 1 0 := by simp [fdNC]
      have e4 : fdNC ν h 4 (ν 0 0) = ν 2 0 := by simp [fdNC]
      rw [e]
      show oA D b (.inr (0, [.ref (fdAd ad (ν 0 0) p b c t 9 (ν 0 0)), .ref (fdAd ad (ν 0 0) p b c t 10 (ν 0 0)), .int (nI (fdNC ν h 3 (ν 0 0))), .int (nI (fdNC ν h 4 (ν 0 0)))])) H
      rw [e9, e10, e3, e4]
      exact hadr.1
    · have e : fdAd ad (ν 0 0) p b c t 9 (ν 0 0) = c := by simp [fdAd]
      rw [e]
      refine hadr.2.1.rowI (fun j hj => ?_)
      show τ 6 j = fdTC τ ν r 18 (30 * ν 0 0 + j)
      simp only [fdTC]
      rw [if_pos ⟨trivial, by omega, by omega⟩, Nat.add_sub_cancel_left]
    · have e : fdAd ad (ν 0 0) p b c t 10 (ν 0 0) = t := by simp [fdAd]
      rw [e]
      refine hadr.2.2.rowI (fun j hj => ?_)
      show τ 22 j = fdTC τ ν r 24 (30 * ν 0 0 + j)
      simp only [fdTC]
      rw [if_neg (by omega), if_pos ⟨trivial, by omega, by omega⟩, Nat.add_sub_cancel_left]
