/-! the law: its world, its calls -/
def lA (S0 : Nat) : Nat → Prop := fun q => S0 ≤ q
/-- the cells of the class, of the model and the row out are apart, and new -/
def lJ (S0 n : Nat) (adC adM : NT) (o : Nat) : Prop := wJ (cC n) adC ∧ wJ cM adM ∧ (∀ k i, i < cC n k → S0 ≤ adC k i ∧ adC k i ≠ o ∧ ∀ k2 i2, i2 < cM k2 → adM k2 i2 ≠ adC k i) ∧ (∀ k i, i < cM k → S0 ≤ adM k i ∧ adM k i ≠ o) ∧ S0 ≤ o
def outE (D : va_G) (cy : Nat → ClassId) (o : Nat) (x : Int64) (H : Heap) : Prop := ∃ f : Nat → Int64, f 0 = x ∧ oA D o (.inl (cy 5, 1, .inr (.inl f))) H
theorem outE.lt {D : va_G} {cy : Nat → ClassId} {o : Nat} {x : Int64} {H : Heap} (h : outE D cy o x H) : o < H.size := by
  obtain ⟨f, -, h⟩ := h
  exact va_at.lt h
theorem outE.kept {D : va_G} {cy : Nat → ClassId} {o : Nat} {x : Int64} {H H1 : Heap} (h : outE D cy o x H) (hk : H1[o]? = H[o]?) : outE D cy o x H1 := by
  obtain ⟨f, hf, h⟩ := h
  exact ⟨f, hf, va_at.kept h hk⟩
theorem yK.now {s : State} {H : Heap} {locs : List Loc} (h : yK (lA s.heap.size) s s.heap) (hS : va_S (lA s.heap.size) s.heap H locs) : yK (lA s.heap.size) s H := ⟨h.1.kept hS.2.1, h.2⟩
theorem lJ.wO_sub {S0 n sz : Nat} {adC adM : NT} {o : Nat} (h : lJ S0 n adC adM o) (hz : S0 ≤ sz) {q : Nat} (hq : wO n adC o sz q) : lA S0 q := by
  rcases hq with (⟨k, i, hi, rfl⟩ | h1) | rfl
  · exact (h.2.2.1 k i hi).1
  · exact Nat.le_trans hz h1
  · exact h.2.2.2.2
theorem lJ.wC_sub {S0 n sz : Nat} {adC adM : NT} {o : Nat} (h : lJ S0 n adC adM o) (hz : S0 ≤ sz) {q : Nat} (hq : wA (cC n) adC sz q) : lA S0 q := h.wO_sub hz (Or.inl hq)
theorem lJ.wM_sub {S0 n sz : Nat} {adC adM : NT} {o : Nat} (h : lJ S0 n adC adM o) (hz : S0 ≤ sz) {q : Nat} (hq : wA cM adM sz q) : lA S0 q := by
  rcases hq with ⟨k, i, hi, rfl⟩ | h1
  · exact (h.2.2.2.1 k i hi).1
  · exact Nat.le_trans hz h1
theorem lJ.wO_M {S0 n k i : Nat} {H : Heap} {adC adM : NT} {o : Nat} (h : lJ S0 n adC adM o) (hi : i < cM k) (hlt : adM k i < H.size) : ¬ wO n adC o H.size (adM k i) := by
  rintro ((⟨k2, i2, hi2, e⟩ | h1) | e)
  · exact (h.2.2.1 k2 i2 hi2).2.2 k i hi e.symm
  · omega
  · exact (h.2.2.2.1 k i hi).2 e
theorem lJ.wM_C {S0 n k i : Nat} {H : Heap} {adC adM : NT} {o : Nat} (h : lJ S0 n adC adM o) (hi : i < cC n k) (hlt : adC k i < H.size) : ¬ wA cM adM H.size (adC k i) := by
  rintro (⟨k2, i2, hi2, e⟩ | h1)
  · exact (h.2.2.1 k i hi).2.2 k2 i2 hi2 e
  · omega
theorem lJ.wM_o {S0 n : Nat} {H : Heap} {adC adM : NT} {o : Nat} (h : lJ S0 n adC adM o) (hlt : o < H.size) : ¬ wA cM adM H.size o := by
  rintro (⟨k2, i2, hi2, e⟩ | h1)
  · exact (h.2.2.2.1 k2 i2 hi2).2 e
  · omega
theorem lJ.wC_o {S0 n : Nat} {H : Heap} {adC adM : NT} {o : Nat} (h : lJ S0 n adC adM o) (hlt : o < H.size) : ¬ wA (cC n) adC H.size o := by
  rintro (⟨k2, i2, hi2, e⟩ | h1)
  · exact (h.2.2.1 k2 i2 hi2).2.1 e
  · omega
/-- what holds all along the law -/
def lctx (p : Program) (l : Launch) (s : State) (m : MethodId) (c : Code) (b L : Nat) (xs : Nat → Int32) (D : va_G) (cy : Nat → ClassId) : Prop := p.tables.exec = Jvm.exec ∧ c.code = cL_law ∧ c.maxLocals = 7 ∧ s.vm.findClass RL = some m.cls ∧ (∀ w ∈ wsL_law, w.before #[Value.ref b] s = true) ∧ gK D cy s ∧ yK (lA s.heap.size) s s.heap ∧ cK s ∧ va_X b L xs s s.heap ∧ b < s.heap.size ∧ l.stackTraces = false
/-- the law goes on from a place between two calls -/
def lgo (p : Program) (l : Launch) (e : Env) (s : State) (m : MethodId) (below : List Frame) (meth : Method) (c : Code) (b : Nat) (D : va_G) (cy : Nat → ClassId) (adM : NT) (o a0 n i cells slots pc : Nat) : Prop :=
  ∀ (adC : NT) (τ : IT) (ν : NT) (σ : IT) (μ : NT) (x0 : Int64) (H : Heap) (locs : List Loc) (ls : Array Slot), adC 0 0 = a0 → Rel n τ ν σ μ → lJ s.heap.size (ν 0 0) adC adM o → CW D cy adC τ ν H → outE D cy o x0 H → MW D cy adM σ μ H → va_S (lA s.heap.size) s.heap H locs → lv_has ls 7 [(0, .ref b), (1, .ref a0), (2, .ref (adM 0 0)), (3, .ref o), (4, .int (nI i))] →
    W p l e room_1 s m #[Value.ref b] below meth c H locs cells slots (lw_Z below #[Value.ref b] s) (F0 m pc ls [])
section LWB
variable {p : Program} {l : Launch} {e : Env} {s : State} {m : MethodId} {below : List Frame} {meth : Method} {c : Code} {H : Heap} {locs : List Loc} {cells slots : Nat} {Q : State → Prop}
variable {pc : Nat} {ls : Array Slot} {st0 rest : List Value} {D : va_G} {cy : Nat → ClassId} {args0 : Array Value} {b : Nat} {adC adM : NT} {τ σ : IT} {ν μ : NT} {o : Nat} {x0 : Int64}
/-- a method of the law's that catches: what is behind it -/
theorem lw_wr {Φ : Int32 → Int64 → IT → NT → Prop} {k : Int32} {τ1 : IT} {ν1 : NT} {x1 : Int64} {mc ms : Nat} (hr : va_Run p l e room_1 s m #[Value.ref b] below meth c H locs cells slots mc ms (F0 m pc ls st0) rest (uQ (some (.int k)) (WO D cy adC τ1 ν1 o x1) (wO (ν 0 0) adC o H.size) args0) (wO (ν 0 0) adC o H.size)) (hJ : lJ s.heap.size (ν 0 0) adC adM o) (hS : va_S (lA s.heap.size) s.heap H locs) (hM : MW D cy adM σ μ H) (hν : ν1 0 0 = ν 0 0) (T : Φ k x1 τ1 ν1)
    (kk : ∀ (k2 : Int32) (x2 : Int64) (τ2 : IT) (ν2 : NT) (H1 : Heap) (locs1 : List Loc), Φ k2 x2 τ2 ν2 → lJ s.heap.size (ν2 0 0) adC adM o → CW D cy adC τ2 ν2 H1 → outE D cy o x2 H1 → MW D cy adM σ μ H1 → va_S (lA s.heap.size) s.heap H1 locs1 → W p l e room_1 s m #[Value.ref b] below meth c H1 locs1 (cells + mc) (slots + ms) Q (F0 m (pc + 3) ls (.int k2 :: rest))) : W p l e room_1 s m #[Value.ref b] below meth c H locs cells slots Q (F0 m pc ls st0) :=
  g_cu1 hr hS (fun q _ h => hJ.wO_sub hS.1 h) (fun q h => hJ.wO_sub hS.1 h) (fun H1 locs1 hB hz hk hS1 => kk k x1 τ1 ν1 H1 locs1 T (by rw [hν]; exact hJ) hB.1 hB.2 (wP.kept hM (fun k i hi => hk _ (wP.lt hM hi) (hJ.wO_M hi (wP.lt hM hi)))) hS1)
/-- .. one with no row out -/
theorem lw_wc {Φ : Int32 → IT → NT → Prop} {k : Int32} {τ1 : IT} {ν1 : NT} {mc ms : Nat} (hr : va_Run p l e room_1 s m #[Value.ref b] below meth c H locs cells slots mc ms (F0 m pc ls st0) rest (uQ (some (.int k)) (CW D cy adC τ1 ν1) (wA (cC (ν 0 0)) adC H.size) args0) (wA (cC (ν 0 0)) adC H.size)) (hJ : lJ s.heap.size (ν 0 0) adC adM o) (hS : va_S (lA s.heap.size) s.heap H locs) (hM : MW D cy adM σ μ H) (hO : outE D cy o x0 H) (hν : ν1 0 0 = ν 0 0) (T : Φ k τ1 ν1)
    (kk : ∀ (k2 : Int32) (τ2 : IT) (ν2 : NT) (H1 : Heap) (locs1 : List Loc), Φ k2 τ2 ν2 → lJ s.heap.size (ν2 0 0) adC adM o → CW D cy adC τ2 ν2 H1 → outE D cy o x0 H1 → MW D cy adM σ μ H1 → va_S (lA s.heap.size) s.heap H1 locs1 → W p l e room_1 s m #[Value.ref b] below meth c H1 locs1 (cells + mc) (slots + ms) Q (F0 m (pc + 3) ls (.int k2 :: rest))) : W p l e room_1 s m #[Value.ref b] below meth c H locs cells slots Q (F0 m pc ls st0) :=
  g_cu1 hr hS (fun q _ h => hJ.wC_sub hS.1 h) (fun q h => hJ.wC_sub hS.1 h) (fun H1 locs1 hB hz hk hS1 => kk k τ1 ν1 H1 locs1 T (by rw [hν]; exact hJ) hB (hO.kept (hk _ hO.lt (hJ.wC_o hO.lt))) (wP.kept hM (fun k i hi => hk _ (wP.lt hM hi) (fun z => hJ.wO_M hi (wP.lt hM hi) (Or.inl z)))) hS1)
/-- a method of the model's -/
theorem lw_md {Ψ : Int32 → IT → NT → Prop} {k : Int32} {σ1 : IT} {μ1 : NT} (hr : va_Run p l e room_1 s m #[Value.ref b] below meth c H locs cells slots 0 0 (F0 m pc ls st0) rest (uQ (some (.int k)) (MW D cy adM σ1 μ1) (wA cM adM H.size) args0) (wA cM adM H.size)) (hJ : lJ s.heap.size (ν 0 0) adC adM o) (hS : va_S (lA s.heap.size) s.heap H locs) (hB : CW D cy adC τ ν H) (hO : outE D cy o x0 H) (T : Ψ k σ1 μ1)
    (kk : ∀ (k2 : Int32) (σ2 : IT) (μ2 : NT) (H1 : Heap) (locs1 : List Loc), Ψ k2 σ2 μ2 → CW D cy adC τ ν H1 → outE D cy o x0 H1 → MW D cy adM σ2 μ2 H1 → va_S (lA s.heap.size) s.heap H1 locs1 → W p l e room_1 s m #[Value.ref b] below meth c H1 locs1 cells slots Q (F0 m (pc + 3) ls (.int k2 :: rest))) : W p l e room_1 s m #[Value.ref b] below meth c H locs cells slots Q (F0 m pc ls st0) :=
  g_cu1 hr hS (fun q _ h => hJ.wM_sub hS.1 h) (fun q h => hJ.wM_sub hS.1 h) (fun H1 locs1 hM1 hz hk hS1 => kk k σ1 μ1 H1 locs1 T (wP.kept hB (fun k i hi => hk _ (wP.lt hB hi) (hJ.wM_C hi (wP.lt hB hi)))) (hO.kept (hk _ hO.lt (hJ.wM_o hO.lt))) hM1 hS1)
/-- .. one that answers nothing -/
theorem lw_m0 {Ψ : IT → NT → Prop} {σ1 : IT} {μ1 : NT} (hr : va_Run p l e room_1 s m #[Value.ref b] below meth c H locs cells slots 0 0 (F0 m pc ls st0) rest (uQ none (MW D cy adM σ1 μ1) (wA cM adM H.size) args0) (wA cM adM H.size)) (hJ : lJ s.heap.size (ν 0 0) adC adM o) (hS : va_S (lA s.heap.size) s.heap H locs) (hB : CW D cy adC τ ν H) (hO : outE D cy o x0 H) (T : Ψ σ1 μ1)
    (kk : ∀ (σ2 : IT) (μ2 : NT) (H1 : Heap) (locs1 : List Loc), Ψ σ2 μ2 → CW D cy adC τ ν H1 → outE D cy o x0 H1 → MW D cy adM σ2 μ2 H1 → va_S (lA s.heap.size) s.heap H1 locs1 → W p l e room_1 s m #[Value.ref b] below meth c H1 locs1 cells slots Q (F0 m (pc + 3) ls rest)) : W p l e room_1 s m #[Value.ref b] below meth c H locs cells slots Q (F0 m pc ls st0) :=
  g_cu0 hr hS (fun q _ h => hJ.wM_sub hS.1 h) (fun q h => hJ.wM_sub hS.1 h) (fun H1 locs1 hM1 hz hk hS1 => kk σ1 μ1 H1 locs1 T (wP.kept hB (fun k i hi => hk _ (wP.lt hB hi) (hJ.wM_C hi (wP.lt hB hi)))) (hO.kept (hk _ hO.lt (hJ.wM_o hO.lt))) hM1 hS1)
/-- a page more: its cells are apart -/
theorem lJ.grow {n pp bb cc2 tt : Nat} (hJ : lJ s.heap.size n adC adM o) (hlt : ∀ k i, i < cC n k → adC k i < H.size) (hM : MW D cy adM σ μ H) (ho : o < H.size) (hz : s.heap.size ≤ H.size) (h1 : H.size ≤ pp) (h2 : pp < bb) (h3 : bb < cc2) (h4 : bb < tt) (h5 : cc2 ≠ tt) : lJ s.heap.size (n + 1) (fdAd adC n pp bb cc2 tt) adM o := by
  refine ⟨fdAd_J hJ.1 hlt h1 h2 h3 h4 h5, hJ.2.1, fun k i hi => ?_, hJ.2.2.2⟩
  rcases cC_up hi with ⟨hh, g⟩ | ⟨hk, rfl⟩
  · rw [fdAd_old g]
    exact hJ.2.2.1 k i hh
  · have hge : H.size ≤ fdAd adC i pp bb cc2 tt k i := by
      rcases hk with rfl | rfl | rfl | rfl <;> simp [fdAd] <;> omega
    refine ⟨Nat.le_trans hz hge, by omega, fun k2 i2 hi2 => ?_⟩
    have := wP.lt hM hi2
    omega
/-- find, caught -/
theorem lw_fd {H0 : Heap} {Φ : Int32 → Int64 → IT → NT → Prop} {k : Int32} {F : Option Nat} {r : Int32} {h9 : Nat} (hr : va_Run p l e room_1 s m #[Value.ref b] below meth c H locs cells slots 6 86 (F0 m pc ls st0) rest (uQ (some (.int k)) (fun H => (if k = 0 then fdB D cy adC τ ν r h9 H0.size F H else CW D cy adC τ ν H) ∧ ∃ f : Nat → Int64, f 0 = (if k = 0 then (fdAns ν F).toInt64 else x0) ∧ oA D o (.inl (cy 5, 1, .inr (.inl f))) H) (wO (ν 0 0) adC o H0.size) args0) (wO (ν 0 0) adC o H0.size)) (hH0 : H0 = H) (hJ : lJ s.heap.size (ν 0 0) adC adM o) (hS : va_S (lA s.heap.size) s.heap H locs) (hB0 : CW D cy adC τ ν H) (hO : outE D cy o x0 H) (hM : MW D cy adM σ μ H)
    (T1 : k = 0 → F = none → Φ k (fdAns ν F).toInt64 (fdTC τ ν r) (fdNC ν h9)) (T2 : ¬ (k = 0 ∧ F = none) → Φ k (if k = 0 then (fdAns ν F).toInt64 else x0) τ ν)
    (kk : ∀ (adC2 : NT) (k2 : Int32) (x2 : Int64) (τ2 : IT) (ν2 : NT) (H1 : Heap) (locs1 : List Loc), adC2 0 0 = adC 0 0 → Φ k2 x2 τ2 ν2 → lJ s.heap.size (ν2 0 0) adC2 adM o → CW D cy adC2 τ2 ν2 H1 → outE D cy o x2 H1 → MW D cy adM σ μ H1 → va_S (lA s.heap.size) s.heap H1 locs1 → W p l e room_1 s m #[Value.ref b] below meth c H1 locs1 (cells + 6) (slots + 86) Q (F0 m (pc + 3) ls (.int k2 :: rest))) : W p l e room_1 s m #[Value.ref b] below meth c H locs cells slots Q (F0 m pc ls st0) := by
  subst hH0
  refine g_cu1 hr hS (fun q _ h => hJ.wO_sub hS.1 h) (fun q h => hJ.wO_sub hS.1 h) (fun H1 locs1 hB hz hk hS1 => ?_)
  have hM1 : MW D cy adM σ μ H1 := wP.kept hM (fun k i hi => hk _ (wP.lt hM hi) (hJ.wO_M hi (wP.lt hM hi)))
  obtain ⟨hB, hO1⟩ := hB
  by_cases c0 : k = 0
  · rw [if_pos c0] at hB
    cases hF : F with
    | some q =>
      subst hF
      exact kk adC k _ τ ν H1 locs1 rfl (T2 (fun z => nomatch z.2)) hJ hB hO1 hM1 hS1
    | none =>
      subst hF
      obtain ⟨pp, bb, cc2, tt, h1, h2, h3, h4, h5, hW⟩ := hB
      have e0 : fdNC ν h9 0 0 = ν 0 0 + 1 := by simp [fdNC]
      rw [if_pos c0] at hO1
      refine kk _ k _ _ _ H1 locs1 (fdAd_old (by omega)) (T1 c0 rfl) ?_ hW hO1 hM1 hS1
      rw [e0]
      exact hJ.grow (fun k i hi => wP.lt hB0 hi) hM hO.lt hS.1 h1 h2 h3 h4 h5
  · rw [if_neg c0] at hB
    exact kk adC k _ τ ν H1 locs1 rfl (T2 (fun z => c0 z.1)) hJ hB hO1 hM1 hS1
end LWB
