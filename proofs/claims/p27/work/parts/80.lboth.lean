/-! the class's world and the law's, side by side; calls of the class that don't throw here -/
def J2 (n : Nat) (ad bd : NT) : Prop := wJ (cC n) ad ∧ wJ cL bd ∧ ∀ k i k2, i < cC n k → 0 < cL k2 → ad k i ≠ bd k2 0
def BW (D : va_G) (cy : Nat → ClassId) (ad bd : NT) (τ : IT) (ν : NT) (ρ : IT) (κ : LT) : Heap → Prop := fun H => CW D cy ad τ ν H ∧ LW D cy bd ρ κ H
def wB (n : Nat) (ad bd : NT) (sz : Nat) : Nat → Prop := fun q => wA (cC n) ad sz q ∨ wA cL bd sz q
theorem wB.mono {n : Nat} {ad bd : NT} {sz sz' q : Nat} (h : sz ≤ sz') (k : wB n ad bd sz' q) : wB n ad bd sz q := k.elim (fun z => Or.inl (wA.mono h z)) (fun z => Or.inr (wA.mono h z))
section BTH
variable {D : va_G} {cy : Nat → ClassId} {ad bd : NT} {τ : IT} {ν : NT} {ρ : IT} {κ : LT} {H H1 : Heap}
/-- the law's rows were written: the class is as it was -/
theorem CW.byL (h : CW D cy ad τ ν H) (hJ : J2 (ν 0 0) ad bd) (hk : ∀ q : Nat, q < H.size → ¬ wA cL bd H.size q → H1[q]? = H[q]?) : CW D cy ad τ ν H1 :=
  wP.kept h (fun k i hi => hk _ (wP.lt h hi) (fun z => by
    rcases z with ⟨k2, i2, hi2, e⟩ | z
    · obtain ⟨i0, h0, -⟩ := cL_0 hi2
      subst i0
      exact hJ.2.2 k i k2 hi h0 e.symm
    · exact absurd (wP.lt h hi) (Nat.not_lt.mpr z)))
/-- one row of the law's was written -/
theorem CW.byR {K : Nat} (h : CW D cy ad τ ν H) (hJ : J2 (ν 0 0) ad bd) (hK : 0 < cL K) (hu : hU (bd K 0) H H1) : CW D cy ad τ ν H1 :=
  wP.kept h (fun k i hi => hu.2 _ (hJ.2.2 k i K hi hK))
/-- the class was written: the law's rows are as they were -/
theorem LW.byC (h : LW D cy bd ρ κ H) (hJ : J2 (ν 0 0) ad bd) (hk : ∀ q : Nat, q < H.size → ¬ wA (cC (ν 0 0)) ad H.size q → H1[q]? = H[q]?) : LW D cy bd ρ κ H1 :=
  wP.kept h (fun k i hi => hk _ (wP.lt h hi) (fun z => by
    obtain ⟨i0, h0, -⟩ := cL_0 hi
    subst i0
    rcases z with ⟨k2, i2, hi2, e⟩ | z
    · exact hJ.2.2 k2 i2 k hi2 h0 e
    · exact absurd (wP.lt h hi) (Nat.not_lt.mpr z)))
theorem hU.in {a : Nat} {A : Nat → Prop} (hu : hU a H H1) (hA : A a) : ∀ q : Nat, q < H.size → ¬ A q → H1[q]? = H[q]? := fun q _ hq => hu.2 q (fun e => hq (e ▸ hA))
end BTH
section BTR
variable {p : Program} {l : Launch} {e : Env} {R : Room} {s : State} {m : MethodId} {args : Array Value} {below : List Frame} {meth : Method} {c : Code} {H H0 : Heap} {locs : List Loc} {cells slots : Nat} {Q : State → Prop}
variable {pc : Nat} {ls : Array Slot} {rest st0 : List Value} {args0 : Array Value} {A0 : Nat → Prop}
/-- behind a call of a method that reads, and throws nothing here -/
theorem x_rd {v : Value} {OK : Prop} {P : String → Prop} {mc ms : Nat} (hr : vx_Run p l e R s m args below meth c H locs cells slots mc ms (F0 m pc ls st0) rest (kQ OK (rQ (some v)) args0) (xQ P) (fun _ => False)) (hP : ∀ E, ¬ P E)
    (kk : W p l e R s m args below meth c H locs (cells + mc) (slots + ms) Q (F0 m (pc + 3) ls (v :: rest))) : W p l e R s m args below meth c H locs cells slots Q (F0 m pc ls st0) := by
  intro T hT X
  rcases hr T hT X with ⟨v', st₀, t, T', L, h0, X', hL, e1, e2, ⟨hok, hv, hh⟩, st⟩ | ⟨q, st₀, t, T', L, E, ce, h0, X', hL, e1, e2, ⟨hPE, hz, hk⟩, hce, hcv, hcl, st⟩
  · cases hv
    obtain ⟨t2, a1, b1⟩ := kk T' (by rw [e1, hh, h0]) (Stand.forget X' (fun q h => (hL q h).elim))
    exact ⟨t2, st t2 a1, b1⟩
  · exact absurd hPE (hP E)
/-- .. that writes -/
theorem x_wr {v : Option Value} {OK : Prop} {B : Heap → Prop} {A1 : Nat → Prop} {P : String → Prop} {mc ms : Nat} {free : Addr → Prop} (hr : vx_Run p l e R s m args below meth c H locs cells slots mc ms (F0 m pc ls st0) rest (kQ OK (uQ v B A1) args0) (xQ P) free) (hP : ∀ E, ¬ P E) (hS : va_S A0 H0 H locs) (hA : ∀ q, q < H.size → A1 q → A0 q) (hf : ∀ q, free q → A0 q)
    (kk : ∀ (H1 : Heap) (locs1 : List Loc), B H1 → H.size ≤ H1.size → (∀ q : Nat, q < H.size → ¬ A1 q → H1[q]? = H[q]?) → va_S A0 H0 H1 locs1 → W p l e R s m args below meth c H1 locs1 (cells + mc) (slots + ms) Q (F0 m (pc + 3) ls (v.toList ++ rest))) : W p l e R s m args below meth c H locs cells slots Q (F0 m pc ls st0) := by
  intro T hT X
  rcases hr T hT X with ⟨v', st₀, t, T', L, h0, X', hL, e1, e2, ⟨hok, hv, hB, hz, hk⟩, st⟩ | ⟨q, st₀, t, T', L, E, ce, h0, X', hL, e1, e2, ⟨hPE, hz, hk⟩, hce, hcv, hcl, st⟩
  · cases hv
    rw [h0] at hz hk
    obtain ⟨t2, a1, b1⟩ := kk T'.heap (locs ++ L) (by rw [e1]; exact hB) (by rw [e1]; exact hz) (fun q h1 h2 => by rw [e1]; exact hk q h1 h2)
      ⟨Nat.le_trans hS.1 (by rw [e1]; exact hz), fun q h1 h2 => by rw [e1, hk q (Nat.lt_of_lt_of_le h1 hS.1) (fun z => h2 (hA q (Nat.lt_of_lt_of_le h1 hS.1) z))]; exact hS.2.1 q h1 h2, fun q hq => by
        rcases List.mem_append.mp hq with h | h
        · exact hS.2.2 q h
        · exact hf _ (hL q h)⟩ T' rfl X'
    exact ⟨t2, st t2 a1, b1⟩
  · exact absurd hPE (hP E)
theorem x_wr1 {v : Value} {OK : Prop} {B : Heap → Prop} {A1 : Nat → Prop} {P : String → Prop} {mc ms : Nat} {free : Addr → Prop} (hr : vx_Run p l e R s m args below meth c H locs cells slots mc ms (F0 m pc ls st0) rest (kQ OK (uQ (some v) B A1) args0) (xQ P) free) (hP : ∀ E, ¬ P E) (hS : va_S A0 H0 H locs) (hA : ∀ q, q < H.size → A1 q → A0 q) (hf : ∀ q, free q → A0 q)
    (kk : ∀ (H1 : Heap) (locs1 : List Loc), B H1 → H.size ≤ H1.size → (∀ q : Nat, q < H.size → ¬ A1 q → H1[q]? = H[q]?) → va_S A0 H0 H1 locs1 → W p l e R s m args below meth c H1 locs1 (cells + mc) (slots + ms) Q (F0 m (pc + 3) ls (v :: rest))) : W p l e R s m args below meth c H locs cells slots Q (F0 m pc ls st0) := x_wr hr hP hS hA hf kk
theorem x_wr0 {OK : Prop} {B : Heap → Prop} {A1 : Nat → Prop} {P : String → Prop} {mc ms : Nat} {free : Addr → Prop} (hr : vx_Run p l e R s m args below meth c H locs cells slots mc ms (F0 m pc ls st0) rest (kQ OK (uQ none B A1) args0) (xQ P) free) (hP : ∀ E, ¬ P E) (hS : va_S A0 H0 H locs) (hA : ∀ q, q < H.size → A1 q → A0 q) (hf : ∀ q, free q → A0 q)
    (kk : ∀ (H1 : Heap) (locs1 : List Loc), B H1 → H.size ≤ H1.size → (∀ q : Nat, q < H.size → ¬ A1 q → H1[q]? = H[q]?) → va_S A0 H0 H1 locs1 → W p l e R s m args below meth c H1 locs1 (cells + mc) (slots + ms) Q (F0 m (pc + 3) ls rest)) : W p l e R s m args below meth c H locs cells slots Q (F0 m pc ls st0) := x_wr hr hP hS hA hf kk
end BTR
theorem low_nI {v : Int32} {m : Nat} (h0 : 0 < m) (hm : m < 2 ^ 31) : ∃ r, r < m ∧ lowQ v (nI m) = nI r := by
  obtain ⟨a, ha, e⟩ := pk_andE v (m := 2147483647) 31 (by decide)
  refine ⟨a % m, Nat.mod_lt _ h0, ?_⟩
  rw [lowQ, e]
  exact pk_rem ha h0 hm
theorem xKeep {A9 : Nat → Prop} {s : State} {H H1 : Heap} {A1 : Nat → Prop} (h : xK A9 s H) (hk : ∀ q : Nat, q < H.size → ¬ A1 q → H1[q]? = H[q]?) (hA : ∀ q, A1 q → A9 q) : xK A9 s H1 := h.kept (fun q h1 h2 => hk q h1 (fun z => h2 (hA q z)))
/-! the law's looks at one page -/
section LPG
variable {ρ : IT} {κ : LT} {τ σ : IT} {ν μ : NT} {n q : Nat}
theorem LR.dueE (h : LR ρ κ σ μ) (R : Rel n τ ν σ μ) (hq : q < μ 0 0) (c : ρ 2 (6 * q + 5) = 0) : ρ 2 (6 * q + 2) = dueC τ q := by
  have hq' : q < ν 0 0 := by rw [R.n0]; exact hq
  rw [a_dueAt R hq', if_pos ((h.kept hq).mp c)]
  exact (h.2.2.2.1 q hq).2.2.2.2.2.1
theorem LR.dueN (h : LR ρ κ σ μ) (R : Rel n τ ν σ μ) (hq : q < μ 0 0) (c : ¬ ρ 2 (6 * q + 5) = 0) : (-1 : Int32) = dueC τ q := by
  have hq' : q < ν 0 0 := by rw [R.n0]; exact hq
  rw [a_dueAt R hq', if_neg (fun z => c ((h.kept hq).mpr z))]
theorem LR.visE (h : LR ρ κ σ μ) (R : Rel n τ ν σ μ) (hq : q < μ 0 0) : τ 12 q = ρ 2 (6 * q + 3) := by
  rw [R.eqP (by decide) (by decide) (by rw [R.n0]; exact hq)]; exact (h.2.2.2.1 q hq).2.2.2.2.2.2.1.symm
theorem LR.chgE (h : LR ρ κ σ μ) (R : Rel n τ ν σ μ) (hq : q < μ 0 0) : τ 13 q = ρ 2 (6 * q + 4) := by
  rw [R.eqP (by decide) (by decide) (by rw [R.n0]; exact hq)]; exact (h.2.2.2.1 q hq).2.2.2.2.2.2.2.1.symm
theorem LR.faiE (h : LR ρ κ σ μ) (R : Rel n τ ν σ μ) (hq : q < 3) : τ 8 (2 * q) = ρ 1 (3 * q + 1) := by
  rw [R.eqR (by decide) (by decide)]; exact (h.2.2.1 q hq).2.1.symm
theorem LR.opnE (h : LR ρ κ σ μ) (R : Rel n τ ν σ μ) (hq : q < 3) : τ 9 (2 * q) = ρ 1 (3 * q + 2) := by
  rw [R.eqR (by decide) (by decide)]; exact (h.2.2.1 q hq).2.2.symm
theorem LR.resE (h : LR ρ κ σ μ) (R : Rel n τ ν σ μ) (hq : q < 3) : τ 7 (2 * q) = ρ 1 (3 * q) := by
  rw [R.eqR (by decide) (by decide)]; exact (h.2.2.1 q hq).1.symm
theorem Rel.shr {t : Nat} (R : Rel n τ ν σ μ) : Rel n (svN τ ν t) ν σ μ := R.cg (Nat.le_refl n) (fun K hK => funext fun i => svN_k hK t) (fun _ _ _ => rfl) rfl (fun _ _ => rfl)
end LPG
