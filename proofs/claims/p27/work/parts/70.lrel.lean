/-! the law's rows and the numbers that the class's answers come from -/
def okc (c : Int32) : Prop := c = 47 ∨ c = 97 ∨ c = 98
def cdN (c : Int32) : Nat := if c = 47 then 0 else if c = 97 then 1 else 2
def adN (g : Nat → Nat) : Nat → Nat
  | 0 => 0
  | k + 1 => adN g k * 28 + g k + 1
def gP (μ : NT) : Nat → Nat := fun k => μ 5 k / 2
def lQ (ρ σ : IT) (μ : NT) : Prop := ρ 0 0 = σ 0 0 ∧ ρ 0 1 = σ 1 0 ∧ ρ 0 2 = σ 2 0 ∧ ρ 0 3 = σ 3 0 ∧ ρ 0 4 = σ 32 0 ∧ ρ 0 5 = σ 31 0 ∧ ρ 0 6 = nI (μ 0 0) ∧ ρ 0 7 = nI (μ 1 0)
def lB (σ : IT) (μ : NT) : Prop := μ 0 0 ≤ 10 ∧ μ 1 0 ≤ 12 ∧ ∃ b, 1 ≤ b ∧ σ 3 0 = nI b ∧ b ≤ 100
def lH (ρ σ : IT) : Prop := ∀ g, g < 3 → ρ 1 (3 * g) = σ 7 (2 * g) ∧ ρ 1 (3 * g + 1) = σ 8 (2 * g) ∧ ρ 1 (3 * g + 2) = σ 9 (2 * g)
def lP (ρ σ : IT) (μ : NT) : Prop := ∀ k, k < μ 0 0 → ρ 2 (6 * k) = nI (gP μ k) ∧ gP μ k < 3 ∧ μ 5 k = 2 * gP μ k ∧ (∃ r, r ≤ 9 ∧ σ 10 k = nI r) ∧ ρ 2 (6 * k + 1) = σ 10 k ∧ ρ 2 (6 * k + 2) = σ 11 k ∧ ρ 2 (6 * k + 3) = σ 12 k ∧ ρ 2 (6 * k + 4) = σ 13 k ∧ (ρ 2 (6 * k + 5) = 0 ↔ keptB (σ 14 k) (σ 15 k) = true)
def lA (κ : LT) (σ : IT) (μ : NT) : Prop := ∀ k, k < μ 0 0 → μ 3 k ≤ 12 ∧ (∀ j, j < μ 3 k → okc (σ 18 (30 * k + j))) ∧ κ 5 k = lN (adN (fun j => cdN (σ 18 (30 * k + j))) (μ 3 k))
def lC (ρ σ : IT) (μ : NT) : Prop := ∀ j, j < μ 1 0 → okc (σ 6 j) ∧ ρ 4 j = nI (cdN (σ 6 j))
def lU (κ : LT) (μ : NT) : Prop := ∀ k j, k < j → j < μ 0 0 → μ 5 k = μ 5 j → κ 5 k ≠ κ 5 j
def LR (ρ : IT) (κ : LT) (σ : IT) (μ : NT) : Prop := lQ ρ σ μ ∧ lB σ μ ∧ lH ρ σ ∧ lP ρ σ μ ∧ lA κ σ μ ∧ lC ρ σ μ ∧ lU κ μ
theorem LR.cg {ρ ρ1 : IT} {κ κ1 : LT} {σ σ1 : IT} {μ μ1 : NT} (h : LR ρ κ σ μ) (hr : ∀ K, K ≠ 3 → ρ1 K = ρ K) (hk : κ1 5 = κ 5) (hs : ∀ K, K ≠ 30 → K ≠ 36 → σ1 K = σ K) (hm : ∀ K, K ≤ 5 → μ1 K = μ K) : LR ρ1 κ1 σ1 μ1 := by
  obtain ⟨h1, h2, h3, h4, h5, h6, h7⟩ := h
  have e : ∀ K, K ≤ 18 → σ1 K = σ K := fun K hK => hs K (by omega) (by omega)
  refine ⟨?_, ?_, ?_, ?_, ?_, ?_, ?_⟩
  · rw [lQ, hr 0 (by decide), e 0 (by decide), e 1 (by decide), e 2 (by decide), e 3 (by decide), hs 32 (by decide) (by decide), hs 31 (by decide) (by decide), hm 0 (by decide), hm 1 (by decide)]; exact h1
  · rw [lB, e 3 (by decide), hm 0 (by decide), hm 1 (by decide)]; exact h2
  · rw [lH, hr 1 (by decide), e 7 (by decide), e 8 (by decide), e 9 (by decide)]; exact h3
  · have eg : gP μ1 = gP μ := by funext k; rw [gP, gP, hm 5 (by decide)]
    rw [lP, eg, hr 2 (by decide), hm 0 (by decide), hm 5 (by decide), e 10 (by decide), e 11 (by decide), e 12 (by decide), e 13 (by decide), e 14 (by decide), e 15 (by decide)]; exact h4
  · rw [lA, hm 0 (by decide), hm 3 (by decide), e 18 (by decide), hk]; exact h5
  · rw [lC, hm 1 (by decide), hr 4 (by decide), e 6 (by decide)]; exact h6
  · rw [lU, hm 0 (by decide), hm 5 (by decide), hk]; exact h7
section LRS
variable {ρ : IT} {κ : LT} {τ σ : IT} {ν μ : NT} {n : Nat}
theorem LR.hG (h : LR ρ κ σ μ) : ∀ k, k < μ 0 0 → ρ 2 (6 * k) = nI (gP μ k) ∧ gP μ k < 3 := fun k hk => ⟨(h.2.2.2.1 k hk).1, (h.2.2.2.1 k hk).2.1⟩
theorem LR.used (h : LR ρ κ σ μ) : usedQ (ρ 0) = usedM σ := by
  obtain ⟨⟨h0, h1, h2, h3, h4, h5, h6, h7⟩, -⟩ := h
  rw [usedQ, usedM, h0, h4, h5]
theorem LR.left (h : LR ρ κ σ μ) (R : Rel n τ ν σ μ) : leftQ (ρ 0) = leftM σ := by
  have hu := h.used
  obtain ⟨⟨h0, h1, h2, h3, h4, h5, h6, h7⟩, -⟩ := h
  obtain ⟨t, z, u, b, a1, a2, a3, a4, a5, a6, a7, a8⟩ := R.2.2.2.2.2.2.1
  have e1 : leftM σ = if usedM σ < σ 3 0 then σ 3 0 - usedM σ else 0 := rfl
  rw [leftQ, hu, e1, h3, a5, a7]
  by_cases c : u < b
  · rw [if_pos ((nI_ltI (by omega) (by omega)).mpr c), if_pos ((nI_leI (by omega) (by omega)).mpr (by omega))]
  · rw [if_neg (fun z => c ((nI_ltI (by omega) (by omega)).mp z))]
    by_cases d : u ≤ b
    · have : u = b := by omega
      subst this
      rw [if_pos ((nI_leI (by omega) (by omega)).mpr d), pk_sub (Nat.le_refl u), Nat.sub_self]; exact nI_0
    · rw [if_neg (fun z => d ((nI_leI (by omega) (by omega)).mp z))]
theorem LR.kept (h : LR ρ κ σ μ) {p : Nat} (hp : p < μ 0 0) : (ρ 2 (6 * p + 5) = 0) ↔ keptB (σ 14 p) (σ 15 p) = true := (h.2.2.2.1 p hp).2.2.2.2.2.2.2.2
theorem LR.may (h : LR ρ κ σ μ) (R : Rel n τ ν σ μ) {p : Nat} (hp : p < μ 0 0) : mayQ ρ (gP μ) p = isRdy τ ν p := by
  have hl := h.left R
  have hk := h.kept hp
  rw [R.opn (by rw [R.n0]; exact hp), openB, mayQ, hl]
  obtain ⟨⟨h0, h1, h2, h3, h4, h5, h6, h7⟩, -, hh, hpg, -⟩ := h
  obtain ⟨p1, p2, p3, p4, p5, p6, p7, p8, p9⟩ := hpg p hp
  rw [h0, p6, (hh (gP μ p) p2).2.2, ← p3]
  have e : decide (ρ 2 (6 * p + 5) = 0) = keptB (σ 14 p) (σ 15 p) := by
    rw [Bool.eq_iff_iff, decide_eq_true_iff]; exact hk
  rw [e]
theorem LR.rank (h : LR ρ κ σ μ) {p : Nat} (hp : p < μ 0 0) : ∃ r, r ≤ 9 ∧ σ 10 p = nI r := (h.2.2.2.1 p hp).2.2.2.1
theorem Rel.due {p : Nat} (R : Rel n τ ν σ μ) (hp : p < μ 0 0) : ∃ d, σ 11 p = nI d ∧ d ≤ 110000 := by
  obtain ⟨d, v, c, a1, a2, -⟩ := R.2.2.2.2.2.2.2.2.2.1 p hp
  exact ⟨d, a1, a2⟩
theorem Rel.opnF {p : Nat} (R : Rel n τ ν σ μ) (hp : p < 6) : ∃ o, σ 9 p = nI o ∧ o ≤ 110000 := by
  obtain ⟨r, f, o, -, -, -, -, a5, a6⟩ := R.2.2.2.2.2.2.2.2.1 p hp
  exact ⟨o, a5, a6⟩
/-! the next page -/
theorem press_int {r d t : Nat} (hr : r ≤ 9) (hd : d ≤ 200000) (ht : t ≤ 200000) : (pressF (nI r) (nI d) (nI t)).toInt = 10 * (r : Int) + t - d := by
  rw [pressF, show (10 : Int32) * nI r = nI (10 * r) from pk_mul 10 r, nI_add, pk_sub_toInt (by omega) (by omega)]
  omega
theorem off_int {r d q e : Nat} (hr : r ≤ 9) (hd : d ≤ 200000) (hq : q ≤ 9) (he : e ≤ 200000) : (10 * (nI r - nI q) + nI e - nI d).toInt = 10 * ((r : Int) - q) + e - d := by
  have h1 : (nI r - nI q).toInt = (r : Int) - q := pk_sub_toInt (by omega) (by omega)
  have h2 : ((10 : Int32) * (nI r - nI q)).toInt = 10 * ((r : Int) - q) := by
    rw [Int32.toInt_mul, h1, show (10 : Int32).toInt = 10 from rfl, Int.bmod_def]
    split <;> omega
  have h3 : ((10 : Int32) * (nI r - nI q) + nI e).toInt = 10 * ((r : Int) - q) + e := by
    rw [Int32.toInt_add, h2, nI_toInt (by omega), Int.bmod_def]
    split <;> omega
  rw [Int32.toInt_sub, h3, nI_toInt (by omega), Int.bmod_def]
  split <;> omega
theorem btr_bef (h : LR ρ κ σ μ) (R : Rel n τ ν σ μ) {j a : Nat} (hja : j < a) (ha : a < μ 0 0) : btrQ ρ j a = true ↔ befC τ j a = true := by
  have h10 : μ 0 0 ≤ 10 := h.2.1.1
  have hj : j < μ 0 0 := by omega
  obtain ⟨r, r1, r2⟩ := h.rank hj
  obtain ⟨q, q1, q2⟩ := h.rank ha
  obtain ⟨d, d1, d2⟩ := R.due hj
  obtain ⟨e, e1, e2⟩ := R.due ha
  obtain ⟨t, t1, t2⟩ := R.now
  have pj := R.press (p := j) (by rw [R.n0]; exact hj)
  have pa := R.press (p := a) (by rw [R.n0]; exact ha)
  have kj : τ 10 j = σ 10 j := R.eqP (by decide) (by decide) (by rw [R.n0]; exact hj)
  have ka : τ 10 a = σ 10 a := R.eqP (by decide) (by decide) (by rw [R.n0]; exact ha)
  obtain ⟨-, -, -, hpg, -⟩ := h
  obtain ⟨-, -, -, -, j5, j6, -⟩ := hpg j hj
  obtain ⟨-, -, -, -, a5, a6, -⟩ := hpg a ha
  rw [bef_iff (by omega) (by omega), pj, pa, kj, ka, pressM, pressM, r2, q2, d1, e1, t1, press_int r1 (by omega) (by omega), press_int q1 (by omega) (by omega), nI_toInt (by omega), nI_toInt (by omega)]
  have ho : (offQ ρ j a).toInt = 10 * ((r : Int) - q) + e - d := by
    rw [offQ, j5, j6, a5, a6, r2, q2, d1, e1]; exact off_int r1 (by omega) q1 (by omega)
  rw [btrQ, Bool.or_eq_true, Bool.and_eq_true, decide_eq_true_iff, decide_eq_true_iff, Bool.not_eq_true', decide_eq_false_iff_not, Int32.lt_iff_toInt_lt, ← Int32.toInt_inj, ho, j5, a5, r2, q2, nI_ltI (by omega) (by omega)]
  show (0 : Int) < _ ∨ _ = (0 : Int) ∧ _ ↔ _
  omega
theorem nxt_first (h : LR ρ κ σ μ) (R : Rel n τ ν σ μ) : ∀ (j : Nat) (b : Option Nat), j ≤ μ 0 0 → firstIn τ (fun x => j ≤ x ∧ x < μ 0 0 ∧ isRdy τ ν x = true) b → firstIn τ (fun x => x < μ 0 0 ∧ isRdy τ ν x = true) (nxtQ ρ (gP μ) j b) := by
  have h10 : μ 0 0 ≤ 10 := h.2.1.1
  intro j
  induction j with
  | zero => intro b _ hb; exact firstIn_iff (fun x => ⟨fun z => z.2, fun z => ⟨Nat.zero_le x, z⟩⟩) hb
  | succ j ih =>
    intro b hj hb
    rw [nxtQ]
    refine ih _ (by omega) ?_
    have hm := h.may R (p := j) (by omega)
    rw [hm]
    by_cases c : isRdy τ ν j = true
    · cases b with
      | none =>
        rw [if_pos ⟨c, rfl⟩]
        refine ⟨fun a ha => ?_, fun z => nomatch z⟩
        cases ha
        refine ⟨⟨Nat.le_refl _, by omega, c⟩, fun b hbs hne => ?_⟩
        exact absurd ⟨by omega, hbs.2⟩ (hb.2 rfl b)
      | some a =>
        have ha := hb.1 a rfl
        have hb2 := btr_bef h R (j := j) (a := a) (by have := ha.1.1; omega) ha.1.2.1
        have la : a < 2 ^ 30 := by have := ha.1.2.1; omega
        by_cases d : befC τ j a = true
        · rw [if_pos ⟨c, hb2.mpr d⟩]
          refine ⟨fun x hx => ?_, fun z => nomatch z⟩
          cases hx
          refine ⟨⟨Nat.le_refl _, by omega, c⟩, fun y hy hne => ?_⟩
          by_cases e : y = a
          · rw [e]; exact d
          · have ly : y < 2 ^ 30 := by have := hy.2.1; omega
            have h1 := (bef_iff (by omega) la).mp d
            have h2 := (bef_iff la ly).mp (ha.2 y ⟨by omega, hy.2⟩ e)
            exact (bef_iff (by omega) ly).mpr (by omega)
        · rw [if_neg (fun z => d (hb2.mp z.2))]
          refine ⟨fun x hx => ?_, fun z => nomatch z⟩
          cases hx
          refine ⟨⟨by have := ha.1.1; omega, ha.1.2⟩, fun y hy hne => ?_⟩
          by_cases e : y = j
          · subst e
            have h1 := mt (bef_iff (by omega) la).mpr d
            exact (bef_iff la (by omega)).mpr (by omega)
          · exact ha.2 y ⟨by omega, hy.2⟩ hne
    · rw [if_neg (fun z => c z.1)]
      refine firstIn_iff (fun x => ?_) hb
      constructor
      · rintro ⟨z1, z2, z3⟩; exact ⟨by omega, z2, z3⟩
      · rintro ⟨z1, z2, z3⟩
        refine ⟨?_, z2, z3⟩
        by_cases e : x = j
        · subst e; exact absurd z3 c
        · omega
theorem LR.nxt (h : LR ρ κ σ μ) (R : Rel n τ ν σ μ) : nxtQ ρ (gP μ) (μ 0 0) none = scanL τ ν 30 0 none := by
  have h10 : μ 0 0 ≤ 10 := h.2.1.1
  refine firstIn_un (τ := τ) (S := fun x => x < μ 0 0 ∧ isRdy τ ν x = true) (fun x hx => by omega) (nxt_first h R (μ 0 0) none (Nat.le_refl _) (firstIn_none (fun x hx => by omega))) ?_
  refine firstIn_iff (fun x => ?_) (scan_first R.le30 30 0 none (firstIn_none (fun x hx => absurd hx.1 (Nat.not_lt_zero _))))
  rw [R.n0]
  exact ⟨fun z => z.2, fun z => ⟨by omega, z⟩⟩
theorem LR.nxt2 (h : LR ρ κ σ μ) (R : Rel n τ ν σ μ) : nxtQ ρ (gP μ) (μ 0 0) none = nextL τ ν 6 0 none := by
  rw [h.nxt R, next_scan R.le30 (fun p hp => by have := R.host hp; omega)]
end LRS
