/-! segments as numbers: the law's way, the class's -/
def sgV (f : Nat → Int32) (b : Nat) : Nat → Nat
  | 0 => 0
  | i + 1 => sgV f b i * 28 + cdN (f (b + i))
theorem cdN_le {c : Int32} : cdN c ≤ 2 := by
  rw [cdN]
  by_cases a : c = 47
  · rw [if_pos a]; omega
  · rw [if_neg a]
    by_cases b : c = 97
    · rw [if_pos b]; omega
    · rw [if_neg b]; omega
theorem cdN_0 {c : Int32} : cdN c = 0 ↔ c = 47 := by
  rw [cdN]
  by_cases a : c = 47
  · rw [if_pos a]; exact ⟨fun _ => a, fun _ => rfl⟩
  · rw [if_neg a]
    by_cases b : c = 97
    · rw [if_pos b]; exact ⟨fun z => absurd z (by decide), fun z => absurd z a⟩
    · rw [if_neg b]; exact ⟨fun z => absurd z (by decide), fun z => absurd z a⟩
theorem cdN_inj {c e : Int32} (hc : okc c) (he : okc e) (h : cdN c = cdN e) : c = e := by
  rcases hc with rfl | rfl | rfl <;> rcases he with rfl | rfl | rfl <;> first | rfl | exact absurd h (by decide)
theorem sgV_lt {f : Nat → Int32} {b : Nat} : ∀ l, sgV f b l < 28 ^ l := by
  intro l
  induction l with
  | zero => exact Nat.one_pos
  | succ l ih =>
    have := cdN_le (c := f (b + l))
    rw [sgV, Nat.pow_succ]
    omega
theorem sgV_pos {f : Nat → Int32} {b l : Nat} (h1 : 1 ≤ l) (h : ∀ i, i < l → f (b + i) ≠ 47) : 0 < sgV f b l := by
  obtain ⟨i, rfl⟩ : ∃ i, l = i + 1 := ⟨l - 1, by omega⟩
  rw [sgV]
  have := mt cdN_0.mp (h i (Nat.lt_succ_self i))
  omega
theorem sgV_inj {f : Nat → Int32} {a b : Nat} : ∀ (l k : Nat), (∀ i, i < l → f (a + i) ≠ 47) → (∀ i, i < k → f (b + i) ≠ 47) → sgV f a l = sgV f b k → l = k ∧ ∀ i, i < l → cdN (f (a + i)) = cdN (f (b + i)) := by
  intro l
  induction l with
  | zero =>
    intro k _ hk h
    cases k with
    | zero => exact ⟨rfl, fun i hi => absurd hi (Nat.not_lt_zero i)⟩
    | succ k =>
      have := sgV_pos (l := k + 1) (by omega) hk
      rw [sgV] at h
      omega
  | succ l ih =>
    intro k hl hk h
    cases k with
    | zero =>
      have := sgV_pos (l := l + 1) (by omega) hl
      rw [show sgV f b 0 = 0 from rfl] at h
      omega
    | succ k =>
      have c1 := cdN_le (c := f (a + l))
      have c2 := cdN_le (c := f (b + k))
      rw [sgV, sgV] at h
      obtain ⟨e1, e2⟩ := ih k (fun i hi => hl i (by omega)) (fun i hi => hk i (by omega)) (by omega)
      refine ⟨by omega, fun i hi => ?_⟩
      by_cases q : i = l
      · subst q; subst e1; omega
      · exact e2 i (by omega)
theorem sgV_cg {f : Nat → Int32} {a b : Nat} : ∀ l, (∀ i, i < l → f (a + i) = f (b + i)) → sgV f a l = sgV f b l := by
  intro l
  induction l with
  | zero => intro _; rfl
  | succ l ih => intro h; rw [sgV, sgV, ih (fun i hi => h i (by omega)), h l (Nat.lt_succ_self l)]
section SGS
variable {f c : Nat → Int32} {ν : NT} {κ : LT} {n : Nat}
/-- what both looks know behind k letters -/
def sgI (f : Nat → Int32) (ν : NT) (κ : LT) (k m : Nat) (w : Int64) (κ1 : LT) : Prop := (((0 < k ∧ f (k - 1) ≠ 47) ∧ layN f ν k 6 0 = m + 1 ∧ w = lN (sgV f (layN f ν k 7 m) (layN f ν k 8 m))) ∨ ((k = 0 ∨ f (k - 1) = 47) ∧ layN f ν k 6 0 = m ∧ w = 0)) ∧ (∀ j, j < m → κ1 6 j = lN (sgV f (layN f ν k 7 j) (layN f ν k 8 j))) ∧ ∀ K, K ≠ 6 → κ1 K = κ K
theorem lN_pos {x : Nat} (h0 : 0 < x) (h : x < 2 ^ 63) : 0 < lN x := by
  have := (pk_lLT (a := 0) (b := x) (by decide) h).mpr h0
  exact this
theorem sg_w {k m : Nat} {w : Int64} {κ1 : LT} (hk : k ≤ 12) (h : sgI f ν κ k m w κ1) (ho : 0 < k ∧ f (k - 1) ≠ 47) : 0 < w := by
  rcases h.1 with ⟨-, h2, h3⟩ | ⟨h1, -⟩
  · rw [h3]
    obtain ⟨a0, a1, -⟩ := layN_in (f := f) (ν := ν) k m (by omega)
    have hb := (layN_ok (f := f) (ν := ν) k m (by omega)).1
    refine lN_pos (sgV_pos a0 a1) (Nat.lt_of_lt_of_le (sgV_lt _) ?_)
    exact Nat.le_trans (Nat.pow_le_pow_right (by decide) (show layN f ν k 8 m ≤ 12 by omega)) (by decide)
  · exact h1.elim (fun z => absurd ho.1 (by omega)) (fun z => absurd z ho.2)
/-- a segment ends, or none goes on -/
theorem sg_end {k m : Nat} {w : Int64} {κ1 : LT} (hk : k ≤ 12) (hT : sgL c n κ k = (m, w, κ1)) (h : sgI f ν κ k m w κ1) (hx : ltQ c n k = 0) : ∃ m2 κ2, sgL c n κ (k + 1) = (m2, 0, κ2) ∧ layN f ν k 6 0 = m2 ∧ (∀ j, j < m2 → κ2 6 j = lN (sgV f (layN f ν k 7 j) (layN f ν k 8 j))) ∧ ∀ K, K ≠ 6 → κ2 K = κ K := by
  by_cases ho : 0 < k ∧ f (k - 1) ≠ 47
  · have hw := sg_w hk h ho
    refine ⟨m + 1, _, sg_c hT hx hw, ?_, ?_, ?_⟩
    · rcases h.1 with ⟨-, h2, -⟩ | ⟨h1, -⟩
      · exact h2
      · exact h1.elim (fun z => absurd ho.1 (by omega)) (fun z => absurd z ho.2)
    · intro j hj
      by_cases e : j = m
      · subst e
        rw [up2_s]
        rcases h.1 with ⟨-, -, h3⟩ | ⟨h1, -⟩
        · exact h3
        · exact h1.elim (fun z => absurd ho.1 (by omega)) (fun z => absurd z ho.2)
      · rw [up2_i e]; exact h.2.1 j (by omega)
    · intro K hK; rw [up2_row hK]; exact h.2.2 K hK
  · rcases h.1 with ⟨h1, -⟩ | ⟨-, h2, h3⟩
    · exact absurd h1 ho
    · refine ⟨m, κ1, sg_b hT hx (by rw [h3]; decide), h2, h.2.1, h.2.2⟩
theorem sg_all (hn : n ≤ 12) (hf : ∀ j, j < n → okc (f j) ∧ c j = nI (cdN (f j))) : ∀ k, k ≤ n → ∃ m w κ1, sgL c n κ k = (m, w, κ1) ∧ sgI f ν κ k m w κ1 := by
  intro k
  induction k with
  | zero =>
    intro _
    exact ⟨0, 0, κ, rfl, Or.inr ⟨Or.inl rfl, up2_s, rfl⟩, fun j hj => absurd hj (Nat.not_lt_zero j), fun K _ => rfl⟩
  | succ k ih =>
    intro hk
    obtain ⟨m, w, κ1, hT, hI⟩ := ih (by omega)
    obtain ⟨o1, o2⟩ := hf k (by omega)
    have ex : ltQ c n k = nI (cdN (f k)) := by rw [ltQ, if_pos (by omega)]; exact o2
    have ex0 : ltQ c n k = 0 ↔ f k = 47 := by
      have := cdN_le (c := f k)
      rw [ex, ← nI_0, nI_eq (by omega) (by decide)]; exact cdN_0
    by_cases e : f k = 47
    · obtain ⟨m2, κ2, a1, a2, a3, a4⟩ := sg_end (f := f) (ν := ν) (by omega) hT hI (ex0.mpr e)
      have el : layN f ν (k + 1) = layN f ν k := by rw [layN, if_pos e]
      refine ⟨m2, 0, κ2, a1, Or.inr ⟨Or.inr e, ?_, rfl⟩, ?_, a4⟩
      · rw [el]; exact a2
      · rw [el]; exact a3
    · have hx : ¬ ltQ c n k = 0 := mt ex0.mp e
      refine ⟨m, _, κ1, sg_a hT hx, ?_, ?_, hI.2.2⟩
      · refine Or.inl ⟨⟨Nat.succ_pos k, e⟩, ?_⟩
        have ecd : (ltQ c n k).toInt64 = lN (cdN (f k)) := by
          have := cdN_le (c := f k)
          rw [ex, nI_l (by omega)]
        rw [ecd]
        rcases hI.1 with ⟨h1, h2, h3⟩ | ⟨h1, h2, h3⟩
        · have hb := (layN_ok (f := f) (ν := ν) k m (by omega)).2 ⟨by omega, h1.1, h1.2⟩
          rw [layN, if_neg e, if_neg (fun z => z.elim (fun y => absurd h1.1 (by omega)) h1.2), h2, Nat.add_sub_cancel]
          refine ⟨by rw [up2_k (by decide)]; exact h2, ?_⟩
          rw [up2_k (by decide), up2_s, sgV, hb, h3, show (28 : Int64) = lN 28 from rfl, lN_mul, lN_add]
        · rw [layN, if_neg e, if_pos h1, h2]
          refine ⟨by rw [up2_k (by decide), up2_s], ?_⟩
          rw [up2_k (k := 8) (k' := 7) (by decide), up2_k (k := 6) (k' := 7) (by decide), up2_k (k := 8) (k' := 7) (by decide), up2_s, up2_s, h3, show sgV f k 1 = 0 * 28 + cdN (f (k + 0)) from rfl, Nat.zero_mul, Nat.zero_add, Nat.add_zero]
          show (0 : Int64) * 28 + lN (cdN (f k)) = _
          rw [show (0 : Int64) * 28 = lN 0 from rfl, lN_add, Nat.zero_add]
      · intro j hj
        rw [hI.2.1 j hj]
        rcases hI.1 with ⟨h1, h2, h3⟩ | ⟨h1, h2, h3⟩
        · rw [layN, if_neg e, if_neg (fun z => z.elim (fun y => absurd h1.1 (by omega)) h1.2), h2, Nat.add_sub_cancel]
          rw [up2_k (by decide), up2_i (by omega)]
        · have hjm : j ≠ m := by omega
          rw [layN, if_neg e, if_pos h1, h2]
          rw [up2_k (k := 8) (k' := 7) (by decide), up2_k (k := 6) (k' := 7) (by decide), up2_k (k := 8) (k' := 7) (by decide), up2_i hjm, up2_i hjm, up2_k (k := 6) (k' := 8) (by decide), up2_i hjm, up2_k (k := 7) (k' := 8) (by decide)]
/-- the law's look at the end -/
theorem sg_fin (hn : n ≤ 12) (hf : ∀ j, j < n → okc (f j) ∧ c j = nI (cdN (f j))) : (sgL c n κ (n + 1)).1 = layN f ν n 6 0 ∧ (∀ j, j < layN f ν n 6 0 → (sgL c n κ (n + 1)).2.2 6 j = lN (sgV f (layN f ν n 7 j) (layN f ν n 8 j))) ∧ ∀ K, K ≠ 6 → (sgL c n κ (n + 1)).2.2 K = κ K := by
  obtain ⟨m, w, κ1, hT, hI⟩ := sg_all (ν := ν) (κ := κ) hn hf n (Nat.le_refl n)
  obtain ⟨m2, κ2, a1, a2, a3, a4⟩ := sg_end (f := f) (ν := ν) hn hT hI (by rw [ltQ, if_neg (Nat.lt_irrefl n)])
  rw [a1]
  exact ⟨a2.symm, fun j hj => a3 j (by omega), a4⟩
theorem seg_same {σ : IT} {s : Nat → Int64} {x y : Nat} (hn : n ≤ 12) (ho : ∀ j, j < n → okc (σ 6 j)) (hs : ∀ j, j < layN (σ 6) ν n 6 0 → s j = lN (sgV (σ 6) (layN (σ 6) ν n 7 j) (layN (σ 6) ν n 8 j))) (hx : x < layN (σ 6) ν n 6 0) (hy : y < layN (σ 6) ν n 6 0) : s x = s y ↔ sameM σ (layN (σ 6) ν n) x y = true := by
  obtain ⟨x0, x1, -⟩ := layN_in (f := σ 6) (ν := ν) n x hx
  obtain ⟨y0, y1, -⟩ := layN_in (f := σ 6) (ν := ν) n y hy
  have bx := (layN_ok (f := σ 6) (ν := ν) n x hx).1
  have by' := (layN_ok (f := σ 6) (ν := ν) n y hy).1
  have lt : ∀ b l, l ≤ 12 → sgV (σ 6) b l < 2 ^ 63 := fun b l hl => Nat.lt_of_lt_of_le (sgV_lt _) (Nat.le_trans (Nat.pow_le_pow_right (by decide) hl) (by decide))
  rw [hs x hx, hs y hy, pk_lEQ (lt _ _ (by omega)) (lt _ _ (by omega)), sameM, Bool.and_eq_true, decide_eq_true_iff]
  have hF : ∀ k i, sameF (fun i => σ 6 (layN (σ 6) ν n 7 x + i)) (fun i => σ 6 (layN (σ 6) ν n 7 y + i)) k i = true ↔ ∀ j, i ≤ j → j < i + k → σ 6 (layN (σ 6) ν n 7 x + j) = σ 6 (layN (σ 6) ν n 7 y + j) := by
    intro k
    induction k with
    | zero => intro i; exact ⟨fun _ j h1 h2 => by omega, fun _ => rfl⟩
    | succ k ih =>
      intro i
      rw [sameF]
      by_cases q : σ 6 (layN (σ 6) ν n 7 x + i) = σ 6 (layN (σ 6) ν n 7 y + i)
      · rw [if_pos q, ih]
        constructor
        · intro z j h1 h2
          by_cases e : j = i
          · subst e; exact q
          · exact z j (by omega) (by omega)
        · intro z j h1 h2; exact z j (by omega) (by omega)
      · rw [if_neg q]
        exact ⟨fun z => Bool.noConfusion z, fun z => absurd (z i (Nat.le_refl i) (by omega)) q⟩
  rw [hF]
  constructor
  · intro h
    obtain ⟨e1, e2⟩ := sgV_inj _ _ x1 y1 h
    exact ⟨e1, fun j _ hj => cdN_inj (ho _ (by omega)) (ho _ (by omega)) (e2 j (by omega))⟩
  · rintro ⟨e1, e2⟩
    rw [← e1]
    exact sgV_cg _ (fun i hi => e2 i (Nat.zero_le i) (by omega))
theorem trQ_iff {s : Nat → Int64} {m : Nat} : ∀ i, trQ s m i = true ↔ ∃ g, g < i ∧ ((g + 2 < m ∧ s g = s (g + 1) ∧ s g = s (g + 2)) ∨ (g + 5 < m ∧ s g = s (g + 2) ∧ s g = s (g + 4) ∧ s (g + 1) = s (g + 3) ∧ s (g + 1) = s (g + 5))) := by
  intro i
  induction i with
  | zero => exact ⟨fun z => Bool.noConfusion z, fun ⟨g, h, _⟩ => absurd h (Nat.not_lt_zero g)⟩
  | succ i ih =>
    rw [trQ, trB, trA, Bool.or_eq_true, Bool.or_eq_true, ih]
    simp only [Bool.and_eq_true, decide_eq_true_iff]
    constructor
    · rintro ((⟨g, g1, g2⟩ | h) | h)
      · exact ⟨g, by omega, g2⟩
      · exact ⟨i, Nat.lt_succ_self i, Or.inl h⟩
      · exact ⟨i, Nat.lt_succ_self i, Or.inr h⟩
    · rintro ⟨g, g1, g2⟩
      by_cases e : g = i
      · subst e
        rcases g2 with h | h
        · exact Or.inl (Or.inr h)
        · exact Or.inr h
      · exact Or.inl (Or.inl ⟨g, by omega, g2⟩)
theorem repM_iff {σ : IT} {μ : NT} : repM σ μ = true ↔ (runE (fun i => sameM σ (layN (σ 6) μ (μ 1 0)) i (i + 1)) 1 (layN (σ 6) μ (μ 1 0) 6 0) 0 ∨ runE (fun i => sameM σ (layN (σ 6) μ (μ 1 0)) i (i + 2)) 2 (layN (σ 6) μ (μ 1 0) 6 0) 0 ∨ runE (fun i => sameM σ (layN (σ 6) μ (μ 1 0)) i (i + 3)) 3 (layN (σ 6) μ (μ 1 0) 6 0) 0) := by
  have hF : ∀ row b, frL (fun i => sameM σ (layN (σ 6) μ (μ 1 0)) i (i + row)) row (layN (σ 6) μ (μ 1 0) 6 0) (layN (σ 6) μ (μ 1 0) 6 0 + 1) 0 b = true ↔ (b = true ∨ runE (fun i => sameM σ (layN (σ 6) μ (μ 1 0)) i (i + row)) row (layN (σ 6) μ (μ 1 0) 6 0) 0) := fun row b => frL_run _ 0 b (by omega)
  rw [repM, rpL, rpL, rpL, rpL, hF 3, hF 2, hF 1]
  constructor
  · rintro (((z | z) | z) | z)
    · exact Bool.noConfusion z
    · exact Or.inl z
    · exact Or.inr (Or.inl z)
    · exact Or.inr (Or.inr z)
  · rintro (z | z | z)
    · exact Or.inl (Or.inl (Or.inr z))
    · exact Or.inl (Or.inr z)
    · exact Or.inr z
theorem trap_eq {σ : IT} {μ : NT} {s : Nat → Int64} (hn : μ 1 0 ≤ 12) (ho : ∀ j, j < μ 1 0 → okc (σ 6 j)) (hs : ∀ j, j < layN (σ 6) μ (μ 1 0) 6 0 → s j = lN (sgV (σ 6) (layN (σ 6) μ (μ 1 0) 7 j) (layN (σ 6) μ (μ 1 0) 8 j))) : trQ s (layN (σ 6) μ (μ 1 0) 6 0) (layN (σ 6) μ (μ 1 0) 6 0) = repM σ μ := by
  have hm := (layN_seg (f := σ 6) (ν := μ) (μ 1 0)).1
  have S := fun x y hx hy => seg_same (σ := σ) (ν := μ) (s := s) (n := μ 1 0) (x := x) (y := y) hn ho hs hx hy
  rw [Bool.eq_iff_iff, trQ_iff, repM_iff]
  generalize layN (σ 6) μ (μ 1 0) 6 0 = m at *
  constructor
  · rintro ⟨g, g1, ⟨h1, h2, h3⟩ | ⟨h1, h2, h3, h4, h5⟩⟩
    · refine Or.inl ⟨g, Nat.zero_le g, by omega, fun k hk => ?_⟩
      have : k = 0 ∨ k = 1 := by omega
      rcases this with rfl | rfl
      · exact (S _ _ (by omega) (by omega)).mp h2
      · exact (S _ _ (by omega) (by omega)).mp (h2.symm.trans h3)
    · refine Or.inr (Or.inl ⟨g, Nat.zero_le g, by omega, fun k hk => ?_⟩)
      have : k = 0 ∨ k = 1 ∨ k = 2 ∨ k = 3 := by omega
      rcases this with rfl | rfl | rfl | rfl
      · exact (S _ _ (by omega) (by omega)).mp h2
      · exact (S _ _ (by omega) (by omega)).mp h4
      · exact (S _ _ (by omega) (by omega)).mp (h2.symm.trans h3)
      · exact (S _ _ (by omega) (by omega)).mp (h4.symm.trans h5)
  · rintro (⟨g, -, g2, g3⟩ | ⟨g, -, g2, g3⟩ | ⟨g, -, g2, -⟩)
    · have a := (S _ _ (by omega) (by omega)).mpr (g3 0 (by decide))
      have b := (S _ _ (by omega) (by omega)).mpr (g3 1 (by decide))
      exact ⟨g, by omega, Or.inl ⟨by omega, a, a.trans b⟩⟩
    · have a := (S _ _ (by omega) (by omega)).mpr (g3 0 (by decide))
      have b := (S _ _ (by omega) (by omega)).mpr (g3 1 (by decide))
      have c := (S _ _ (by omega) (by omega)).mpr (g3 2 (by decide))
      have d := (S _ _ (by omega) (by omega)).mpr (g3 3 (by decide))
      exact ⟨g, by omega, Or.inr ⟨by omega, a, a.trans c, b, b.trans d⟩⟩
    · omega
end SGS
section LRT
variable {ρ : IT} {κ : LT} {τ σ : IT} {ν μ : NT} {n : Nat}
theorem LR.cod (h : LR ρ κ σ μ) : ∀ j, j < μ 1 0 → okc (σ 6 j) ∧ ρ 4 j = nI (cdN (σ 6 j)) := h.2.2.2.2.2.1
theorem LR.segs (h : LR ρ κ σ μ) (R : Rel n τ ν σ μ) {κ1 : LT} : nI (ν 2 0) = nI (sgL (ρ 4) (μ 1 0) κ1 (μ 1 0 + 1)).1 := by
  rw [a_segments R, (sg_fin (f := σ 6) (ν := μ) h.2.1.2.1 h.cod).1]
theorem LR.trap (h : LR ρ κ σ μ) (R : Rel n τ ν σ μ) {κ1 : LT} : zb (repA (τ 6) (τ 22) (ν 1 0) (ν 2 0)) = zb (trQ ((sgL (ρ 4) (μ 1 0) κ1 (μ 1 0 + 1)).2.2 6) (sgL (ρ 4) (μ 1 0) κ1 (μ 1 0 + 1)).1 (sgL (ρ 4) (μ 1 0) κ1 (μ 1 0 + 1)).1) := by
  obtain ⟨f1, f2, -⟩ := sg_fin (f := σ 6) (ν := μ) (κ := κ1) h.2.1.2.1 h.cod
  rw [f1, trap_eq h.2.1.2.1 (fun j hj => (h.cod j hj).1) f2, rep_eq (τ := τ) (σ := σ) (ν := ν) (μ := μ) (fun j => R.eqR (by decide) (by decide)) R.n1 R.2.2.2.2.2.1 (by rw [R.n1]; exact R.len30)]
theorem LR.rowK (h : LR ρ κ σ μ) {κ1 : LT} : ∀ K, K ≠ 6 → (sgL (ρ 4) (μ 1 0) κ1 (μ 1 0 + 1)).2.2 K = κ1 K := (sg_fin (f := σ 6) (ν := μ) (κ := κ1) h.2.1.2.1 h.cod).2.2
end LRT
