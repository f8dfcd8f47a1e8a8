/-! class and model: what holds between them, behind n calls -/
/-- a character that was typed, or none yet -/
def chr0 (c : Int32) : Prop := c = 0 ∨ c = 47 ∨ inB c 97 122 = true
def rNum (ν μ : NT) : Prop := ν 0 0 = μ 0 0 ∧ μ 0 0 ≤ 30 ∧ ν 1 0 = μ 1 0 ∧ μ 1 0 ≤ 30
def rEqu (τ : IT) (ν : NT) (σ : IT) : Prop := ∀ K i, bothK (ν 0 0) K i → τ K i = σ K i
def rPg (τ : IT) (ν : NT) (σ : IT) (μ : NT) : Prop := ∀ p, p < ν 0 0 → ν 5 p = μ 5 p ∧ μ 5 p < 6 ∧ ν 3 p = μ 3 p ∧ μ 3 p ≤ 30 ∧ ν 4 p ≤ 30 ∧ chOK (fun i => τ 18 (30 * p + i)) ∧ stOK (fun i => τ 24 (30 * p + i)) (ν 4 p) (ν 3 p) ∧ ∀ i, i < ν 3 p → τ 18 (30 * p + i) = σ 18 (30 * p + i)
def rCh (τ : IT) : Prop := ∀ j, chr0 (τ 6 j)
def rClk (σ : IT) : Prop := ∃ t z u b, σ 0 0 = nI t ∧ t ≤ 100000 ∧ σ 31 0 = nI z ∧ z ≤ t / 100 ∧ usedM σ = nI u ∧ u ≤ 100 ∧ σ 3 0 = nI b ∧ b ≤ 100
def rPac (σ : IT) : Prop := ∃ a c, σ 1 0 = nI a ∧ a ≤ 1000 ∧ σ 2 0 = nI c ∧ c ≤ 5000
def rHst (n : Nat) (σ : IT) : Prop := ∀ h, h < 6 → ∃ r f o, σ 7 h = nI r ∧ r ≤ 100 ∧ σ 8 h = nI f ∧ f ≤ n ∧ σ 9 h = nI o ∧ o ≤ 110000
def rPgn (n : Nat) (σ : IT) (μ : NT) : Prop := ∀ p, p < μ 0 0 → ∃ d v c, σ 11 p = nI d ∧ d ≤ 110000 ∧ σ 12 p = nI v ∧ v ≤ n ∧ σ 13 p = nI c ∧ c ≤ n
def rFree (σ : IT) (μ : NT) : Prop := ∀ p, μ 0 0 ≤ p → p < 30 → σ 12 p = 0 ∧ σ 13 p = 0 ∧ σ 14 p = 0
def Rel (n : Nat) (τ : IT) (ν : NT) (σ : IT) (μ : NT) : Prop := rNum ν μ ∧ rEqu τ ν σ ∧ τ 20 0 = usedM σ ∧ rPg τ ν σ μ ∧ rCh τ ∧ segR τ ν (τ 6) μ ∧ rClk σ ∧ rPac σ ∧ rHst n σ ∧ rPgn n σ μ ∧ rFree σ μ
/-- an answer of both sides: the code, the answer where none is thrown, what holds behind it -/
def okC (n : Nat) (k : Int32) (x1 : Int64) (τ : IT) (ν : NT) (b : Int32) (σ : IT) (μ : NT) : Prop := σ 30 0 = k ∧ (k = 0 → x1 = b.toInt64) ∧ Rel n τ ν σ μ
theorem segR_mu {τ : IT} {ν : NT} {f : Nat → Int32} {μ η : NT} (h : segR τ ν f μ) : segR τ ν f η := by
  obtain ⟨h1, h2⟩ := h
  obtain ⟨g6, g78⟩ := layN_cg (f := f) (g := f) (μ := μ) (η := η) (ν 1 0) (fun j _ => rfl)
  exact ⟨h1.trans g6, fun j hj => by rw [h2 j hj, (g78 j (by omega)).1]⟩
theorem usedM_cg {σ σ1 : IT} (h0 : σ1 0 0 = σ 0 0) (h31 : σ1 31 0 = σ 31 0) (h32 : σ1 32 0 = σ 32 0) : usedM σ1 = usedM σ := by
  rw [usedM, usedM, h0, h31, h32]
/-- what the relation reads -/
theorem Rel.cg {n n1 : Nat} {τ τ1 σ σ1 : IT} {ν ν1 μ μ1 : NT} (h : Rel n τ ν σ μ) (hn : n ≤ n1) (hτ : ∀ K, K ≠ 25 → τ1 K = τ K) (hσ : ∀ K, K ≠ 30 → K ≠ 36 → σ1 K = σ K) (hν : ν1 = ν) (hμ : ∀ K, K ≤ 5 → μ1 K = μ K) : Rel n1 τ1 ν1 σ1 μ1 := by
  subst hν
  obtain ⟨h1, h2, h3, h4, h5, h6, h7, h8, h9, h10, h11⟩ := h
  have hs : ∀ K, K ≤ 18 → σ1 K = σ K := fun K hK => hσ K (by omega) (by omega)
  have ht : ∀ K, K ≤ 24 → τ1 K = τ K := fun K hK => hτ K (by omega)
  have hu : usedM σ1 = usedM σ := usedM_cg (by rw [hs 0 (by decide)]) (by rw [hσ 31 (by decide) (by decide)]) (by rw [hσ 32 (by decide) (by decide)])
  refine ⟨?_, ?_, ?_, ?_, ?_, ?_, ?_, ?_, ?_, ?_, ?_⟩
  · rw [rNum, hμ 0 (by decide), hμ 1 (by decide)]; exact h1
  · intro K i hb
    have hK : K ≤ 18 := by rcases hb with z | z | z <;> omega
    rw [hs K hK, ht K (by omega)]
    exact h2 K i hb
  · rw [hu, ht 20 (by decide)]; exact h3
  · rw [rPg, hμ 5 (by decide), hμ 3 (by decide), ht 18 (by decide), ht 24 (by decide), hs 18 (by decide)]; exact h4
  · rw [rCh, ht 6 (by decide)]; exact h5
  · rw [segR, ht 6 (by decide), ht 22 (by decide)]; exact segR_mu h6
  · rw [rClk, hu, hs 0 (by decide), hs 3 (by decide), hσ 31 (by decide) (by decide)]; exact h7
  · rw [rPac, hs 1 (by decide), hs 2 (by decide)]; exact h8
  · intro q hq
    obtain ⟨r, f, o, a1, a2, a3, a4, a5, a6⟩ := h9 q hq
    rw [hs 7 (by decide), hs 8 (by decide), hs 9 (by decide)]
    exact ⟨r, f, o, a1, a2, a3, Nat.le_trans a4 hn, a5, a6⟩
  · intro p hp
    rw [hμ 0 (by decide)] at hp
    obtain ⟨d, v, c, a1, a2, a3, a4, a5, a6⟩ := h10 p hp
    rw [hs 11 (by decide), hs 12 (by decide), hs 13 (by decide)]
    exact ⟨d, v, c, a1, a2, a3, Nat.le_trans a4 hn, a5, Nat.le_trans a6 hn⟩
  · rw [rFree, hμ 0 (by decide), hs 12 (by decide), hs 13 (by decide), hs 14 (by decide)]; exact h11
theorem up2_30 {σ : IT} {c : Int32} {K : Nat} (h : K ≠ 30) : up2 σ 30 0 c K = σ K := up2_row h
/-- the code of the last call is the model's alone -/
theorem Rel.t0 {n : Nat} {τ σ : IT} {ν μ : NT} (h : Rel n τ ν σ μ) (c : Int32) : Rel n τ ν (up2 σ 30 0 c) μ := h.cg (Nat.le_refl n) (fun _ _ => rfl) (fun K h1 _ => up2_30 h1) rfl (fun _ _ => rfl)
theorem Rel.t1 {n : Nat} {τ σ : IT} {ν μ : NT} (h : Rel n τ ν σ μ) (c : Int32) : Rel n τ ν (T1 σ c) μ := (h.t0 0).t0 c
theorem T1_30 {σ : IT} {c : Int32} : T1 σ c 30 0 = c := up2_s
theorem T0_30 {σ : IT} : T0 σ 30 0 = 0 := up2_s
theorem Rel.lay {n k : Nat} {f : Nat → Int32} {τ σ : IT} {ν μ : NT} (h : Rel n τ ν σ μ) : Rel n τ ν σ (layN f μ k) := h.cg (Nat.le_refl n) (fun _ _ => rfl) (fun _ _ _ => rfl) rfl (fun K hK => funext fun i => layN_keep k K i (by omega) (by omega) (by omega))
theorem Rel.up {n n1 : Nat} {τ σ : IT} {ν μ : NT} (h : Rel n τ ν σ μ) (hn : n ≤ n1) : Rel n1 τ ν σ μ := h.cg hn (fun _ _ => rfl) (fun _ _ _ => rfl) rfl (fun _ _ => rfl)
theorem chr0_ok {c : Int32} (h : chr0 c) : narrow .char (.int c) = .int c ∧ fits .char (.int c) = true := by
  rcases h with rfl | rfl | h
  · exact pk_charN (q := 0) (by decide)
  · exact pk_charN (q := 47) (by decide)
  · simp only [inB, Bool.and_eq_true, Bool.not_eq_true', decide_eq_false_iff_not] at h
    have h0 : ¬ c < 0 := fun z => h.1 (Int32.lt_of_lt_of_le z (by decide))
    obtain ⟨j, hj, rfl⟩ := nI_of h0
    have h3 : ¬ nI 122 < nI j := h.2
    rw [nI_ltI (by decide) hj] at h3
    exact pk_charN (by omega)
theorem Rel.CI {n : Nat} {τ σ : IT} {ν μ : NT} (h : Rel n τ ν σ μ) : CI τ ν := by
  obtain ⟨h1, h2, h3, h4, h5, h6, h7⟩ := h
  obtain ⟨a1, a2, a3, a4⟩ := h1
  have hs := layN_seg (f := τ 6) (ν := μ) (ν 1 0)
  have ho := layN_ok (f := τ 6) (ν := μ) (ν 1 0)
  have hin := layN_in (f := τ 6) (ν := μ) (ν 1 0)
  obtain ⟨g1, g2⟩ := h6
  refine ⟨by omega, by omega, by omega, fun j _ => (chr0_ok (h5 j)).1, fun j hj => ?_, fun p hp => ?_⟩
  · refine ⟨_, g2 j hj, ?_⟩
    have e1 := (ho j (by omega)).1
    have e2 := (hin j (by omega)).1
    omega
  · obtain ⟨b1, b2, b3, b4, b5, b6, b7, b8⟩ := h4 p hp
    exact ⟨by omega, by omega, b5, b6, b7⟩
theorem Rel.MI {n : Nat} {τ σ : IT} {ν μ : NT} (h : Rel n τ ν σ μ) : MI σ μ := by
  obtain ⟨h1, h2, h3, h4, h5⟩ := h
  refine ⟨h1.2.1, h1.2.2.2, fun p hp => ?_⟩
  obtain ⟨b1, b2, b3, b4, b5⟩ := h4 p (by rw [h1.1]; exact hp)
  exact ⟨b2, b4⟩
theorem Rel.seg15 {n : Nat} {τ σ : IT} {ν μ : NT} (h : Rel n τ ν σ μ) : ν 2 0 < 30 := by
  have hs := layN_seg (f := τ 6) (ν := μ) (ν 1 0)
  have h1 := h.2.2.2.2.2.1.1
  have h2 := h.1
  obtain ⟨a1, a2, a3, a4⟩ := h2
  omega
theorem Rel.fits {n : Nat} {τ σ : IT} {ν μ : NT} (h : Rel n τ ν σ μ) : ∀ j, j < 30 → fits .char (.int (τ 6 j)) = true := fun j _ => (chr0_ok (h.2.2.2.2.1 j)).2
theorem Rel.n0 {n : Nat} {τ σ : IT} {ν μ : NT} (h : Rel n τ ν σ μ) : ν 0 0 = μ 0 0 := h.1.1
theorem Rel.n1 {n : Nat} {τ σ : IT} {ν μ : NT} (h : Rel n τ ν σ μ) : ν 1 0 = μ 1 0 := h.1.2.2.1
theorem Rel.le30 {n : Nat} {τ σ : IT} {ν μ : NT} (h : Rel n τ ν σ μ) : ν 0 0 ≤ 30 := by rw [h.n0]; exact h.1.2.1
theorem Rel.len30 {n : Nat} {τ σ : IT} {ν μ : NT} (h : Rel n τ ν σ μ) : μ 1 0 ≤ 30 := h.1.2.2.2
theorem Rel.eq0 {n K : Nat} {τ σ : IT} {ν μ : NT} (h : Rel n τ ν σ μ) (hK : K ≤ 3) : τ K 0 = σ K 0 := h.2.1 K 0 (Or.inl ⟨hK, rfl⟩)
theorem Rel.eqR {n K i : Nat} {τ σ : IT} {ν μ : NT} (h : Rel n τ ν σ μ) (h6 : 6 ≤ K) (h9 : K ≤ 9) : τ K i = σ K i := h.2.1 K i (Or.inr (Or.inl ⟨h6, h9⟩))
theorem Rel.eqP {n K p : Nat} {τ σ : IT} {ν μ : NT} (h : Rel n τ ν σ μ) (h6 : 10 ≤ K) (h9 : K ≤ 15) (hp : p < ν 0 0) : τ K p = σ K p := h.2.1 K p (Or.inr (Or.inr ⟨h6, h9, hp⟩))
theorem Rel.hC {n : Nat} {τ σ : IT} {ν μ : NT} (h : Rel n τ ν σ μ) (hn : n < 1000) : ∀ q, q < μ 0 0 → ∃ c, c < 1000 ∧ σ 13 q = nI c := fun q hq => by
  obtain ⟨d, v, c, a1, a2, a3, a4, a5, a6⟩ := h.2.2.2.2.2.2.2.2.2.1 q hq
  exact ⟨c, by omega, a5⟩
/-- at the start -/
theorem Rel_0 : Rel 0 s0C (fun _ _ => 0) s0M (fun _ _ => 0) := by
  have hsC : ∀ K i, K ≠ 20 → s0C K i = s0M K i := by
    intro K i _
    simp only [s0C, s0M]
    by_cases a : K = 1
    · subst a; rfl
    by_cases b : K = 2
    · subst b; rfl
    by_cases c : K = 3
    · subst c; rfl
    by_cases d : K = 7
    · subst d; rfl
    simp only [a, b, c, d, if_false]
  have hz : ∀ K i, K ≠ 1 → K ≠ 2 → K ≠ 3 → K ≠ 7 → s0M K i = 0 := by
    intro K i a b c d
    simp only [s0M, a, b, c, d, if_false]
  refine ⟨⟨rfl, by decide, rfl, by decide⟩, fun K i hb => hsC K i (by rcases hb with z | z | z <;> omega), by decide, fun p hp => absurd hp (Nat.not_lt_zero _), fun j => Or.inl rfl, ⟨rfl, fun j hj => absurd hj (Nat.not_lt_zero _)⟩, ⟨0, 0, 0, 20, rfl, by decide, rfl, by decide, by decide, by decide, rfl, by decide⟩, ⟨10, 500, rfl, by decide, rfl, by decide⟩, fun q _ => ⟨5, 0, 0, rfl, by decide, rfl, by decide, rfl, by decide⟩, fun p hp => absurd hp (Nat.not_lt_zero _), fun p _ _ => ⟨rfl, rfl, rfl⟩⟩
