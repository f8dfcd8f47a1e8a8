/-! the law: its world, its turns -/
def lZ (S0 : Nat) : Nat → Prop := fun q => S0 ≤ q
/-- how far the ticks may be behind n turns: further where nothing has to wait -/
def lPot (n : Nat) (ρ σ : IT) (μ : NT) : Prop := ∃ w, σ 0 0 = nI w ∧ w ≤ 450 * n + 449 ∧ (0 < wtQ ρ (gP μ) (μ 0 0) → w ≤ 450 * n)
theorem lPot.next {n : Nat} {ρ σ ρ1 σ1 : IT} {μ μ1 : NT} (h : lPot n ρ σ μ) (e : σ1 0 0 = σ 0 0) : lPot (n + 1) ρ1 σ1 μ1 := by
  obtain ⟨w, w1, w2, -⟩ := h
  exact ⟨w, e.trans w1, by omega, fun _ => by omega⟩
section LPT
variable {ρ ρ1 : IT} {κ κ1 : LT} {τ τ1 σ σ1 : IT} {ν ν1 μ : NT} {n n1 : Nat}
theorem wt_cg (h : LR ρ κ σ μ) (h1 : LR ρ1 κ1 σ μ) (R : Rel n τ ν σ μ) (R1 : Rel n1 τ1 ν1 σ μ) : ∀ i, i ≤ μ 0 0 → wtQ ρ1 (gP μ) i = wtQ ρ (gP μ) i := by
  intro i
  induction i with
  | zero => intro _; rfl
  | succ i ih =>
    intro hi
    have e := ih (by omega)
    obtain ⟨d, o, t, u, d2, o2, t2, u2, d1, o1, t1, u1, hw⟩ := h.wait R (k := i) (by omega)
    obtain ⟨d9, o9, t9, u9, d92, o92, t92, u92, d91, o91, t91, u91, hw9⟩ := h1.wait R1 (k := i) (by omega)
    have ed : d9 = d := (nI_eq (by omega) (by omega)).mp (d91.symm.trans d1)
    have eo : o9 = o := (nI_eq (by omega) (by omega)).mp (o91.symm.trans o1)
    have et : t9 = t := (nI_eq (by omega) (by omega)).mp (t91.symm.trans t1)
    have eu : u9 = u := (nI_eq (by omega) (by omega)).mp (u91.symm.trans u1)
    subst ed; subst eo; subst et; subst eu
    have hk := h.kept (p := i) (by omega)
    have hk1 := h1.kept (p := i) (by omega)
    rw [wtQ, wtQ, hw, hw9, e]
    by_cases c : keptB (σ 14 i) (σ 15 i) = true
    · rw [if_pos (hk1.mpr c), if_pos (hk.mpr c)]
    · rw [if_neg (fun z => c (hk1.mp z)), if_neg (fun z => c (hk.mp z))]
theorem lPot.cg (hP : lPot n ρ σ μ) (h : LR ρ κ σ μ) (h1 : LR ρ1 κ1 σ μ) {m m1 : Nat} (R : Rel m τ ν σ μ) (R1 : Rel m1 τ1 ν1 σ μ) : lPot n ρ1 σ μ := by
  obtain ⟨w, w1, w2, w3⟩ := hP
  exact ⟨w, w1, w2, fun z => w3 (by rw [← wt_cg h h1 R R1 _ (Nat.le_refl _)]; exact z)⟩
/-- ticks pass -/
theorem lPot.pass {d : Nat} (hP : lPot n ρ σ μ) (h : LR ρ κ σ μ) (R : Rel n τ ν σ μ) (h1 : LR ρ1 κ1 σ1 μ) (R1 : Rel n1 τ1 ν1 σ1 μ) (hd1 : 1 ≤ d) (hn : n ≤ 120) (hd : d ≤ 300 ∨ (d < 900 ∧ wtQ ρ (gP μ) (μ 0 0) = nI d)) (e0 : σ1 0 0 = σ 0 0 + nI d) (hK : ∀ K, K = 3 ∨ K = 9 ∨ K = 11 ∨ K = 14 ∨ K = 15 ∨ K = 31 ∨ K = 32 → σ1 K = σ K) : lPot (n + 1) ρ1 σ1 μ := by
  obtain ⟨w, w1, w2, w3⟩ := hP
  have e1 : σ1 0 0 = nI (w + d) := by rw [e0, w1, nI_add]
  have hd9 : d < 900 := by rcases hd with z | z <;> omega
  have hp := fun hw => wt_pass h R h1 R1 w1 e1 hd1 hK hw (by omega)
  refine ⟨w + d, e1, ?_, fun z => ?_⟩
  · rcases hd with z | ⟨z1, z2⟩
    · omega
    · have := w3 (by rw [z2, ← nI_0]; exact (nI_ltI (by decide) (by omega)).mpr (by omega))
      omega
  · have hlt : nI d < wtQ ρ (gP μ) (μ 0 0) := by
      by_cases c : nI d < wtQ ρ (gP μ) (μ 0 0)
      · exact c
      · exact absurd z (hp c)
    have hw := w3 (Int32.lt_trans (show (0 : Int32) < nI d by rw [← nI_0]; exact (nI_ltI (by decide) (by omega)).mpr (by omega)) hlt)
    rcases hd with y | ⟨y1, y2⟩
    · omega
    · rw [y2] at hlt; exact (Int32.lt_irrefl hlt).elim
/-! what the calls that set leave -/
theorem LR.setR {g : Nat} {v : Int32} (h : LR ρ κ σ μ) (hg : g < 3) : LR (up2 ρ 1 (3 * g) v) κ (up2 σ 7 (2 * g) v) μ := by
  have hr : ∀ K, K ≠ 1 → up2 ρ 1 (3 * g) v K = ρ K := fun K hK => up2_row hK
  have hs : ∀ K, K ≠ 7 → up2 σ 7 (2 * g) v K = σ K := fun K hK => up2_row hK
  obtain ⟨l1, l2, l3, l4, l5, l6, l7⟩ := h
  refine ⟨?_, ?_, ?_, ?_, ?_, ?_, l7⟩
  · rw [lQ, hr 0 (by decide), hs 0 (by decide), hs 1 (by decide), hs 2 (by decide), hs 3 (by decide), hs 32 (by decide), hs 31 (by decide)]; exact l1
  · rw [lB, hs 3 (by decide)]; exact l2
  · intro q hq
    obtain ⟨a1, a2, a3⟩ := l3 q hq
    rw [hs 8 (by decide), hs 9 (by decide), up2_i (show 3 * q + 1 ≠ 3 * g by omega), up2_i (show 3 * q + 2 ≠ 3 * g by omega)]
    refine ⟨?_, a2, a3⟩
    by_cases e : q = g
    · subst e; rw [up2_s, up2_s]
    · rw [up2_i (show 3 * q ≠ 3 * g by omega), up2_i (show 2 * q ≠ 2 * g by omega)]; exact a1
  · rw [lP, hr 2 (by decide), hs 10 (by decide), hs 11 (by decide), hs 12 (by decide), hs 13 (by decide), hs 14 (by decide), hs 15 (by decide)]; exact l4
  · rw [lA, hs 18 (by decide)]; exact l5
  · rw [lC, hr 4 (by decide), hs 6 (by decide)]; exact l6
/-- one of q's first four -/
theorem LR.set0 {K i : Nat} {v : Int32} (h : LR ρ κ σ μ) (hK : K = i ∧ i ≤ 3) (h3 : i = 3 → ∃ b, 1 ≤ b ∧ v = nI b ∧ b ≤ 100) : LR (up2 ρ 0 i v) κ (up2 σ K 0 v) μ := by
  obtain ⟨rfl, hi⟩ := hK
  have hr : ∀ J, J ≠ 0 → up2 ρ 0 K v J = ρ J := fun J hJ => up2_row hJ
  have hs : ∀ J, 3 < J → up2 σ K 0 v J = σ J := fun J hJ => up2_row (by omega)
  obtain ⟨⟨q0, q1, q2, q3, q4, q5, q6, q7⟩, l2, l3, l4, l5, l6, l7⟩ := h
  have hz : ∀ j, j ≤ 3 → ρ 0 j = σ j 0 → up2 ρ 0 K v 0 j = up2 σ K 0 v j 0 := fun j hj e => by
    by_cases c : j = K
    · subst c; rw [up2_s, up2_s]
    · rw [up2_i c, up2_k c]; exact e
  refine ⟨⟨hz 0 (by decide) q0, hz 1 (by decide) q1, hz 2 (by decide) q2, hz 3 (by decide) q3, ?_, ?_, ?_, ?_⟩, ⟨l2.1, l2.2.1, ?_⟩, ?_, ?_, ?_, ?_, l7⟩
  · rw [up2_i (by omega), hs 32 (by decide)]; exact q4
  · rw [up2_i (by omega), hs 31 (by decide)]; exact q5
  · rw [up2_i (by omega)]; exact q6
  · rw [up2_i (by omega)]; exact q7
  · by_cases c : K = 3
    · obtain ⟨b, b1, b2, b3⟩ := h3 c
      subst c
      exact ⟨b, b1, by rw [up2_s]; exact b2, b3⟩
    · rw [up2_k (Ne.symm c)]; exact l2.2.2
  · rw [lH, hr 1 (by decide), hs 7 (by decide), hs 8 (by decide), hs 9 (by decide)]; exact l3
  · rw [lP, hr 2 (by decide), hs 10 (by decide), hs 11 (by decide), hs 12 (by decide), hs 13 (by decide), hs 14 (by decide), hs 15 (by decide)]; exact l4
  · rw [lA, hs 18 (by decide)]; exact l5
  · rw [lC, hr 4 (by decide), hs 6 (by decide)]; exact l6
theorem LR.setK {q r : Nat} (h : LR ρ κ σ μ) (hr9 : r ≤ 9) : LR (up2 ρ 2 (6 * q + 1) (nI r)) κ (up2 σ 10 q (nI r)) μ := by
  have hr : ∀ K, K ≠ 2 → up2 ρ 2 (6 * q + 1) (nI r) K = ρ K := fun K hK => up2_row hK
  have hs : ∀ K, K ≠ 10 → up2 σ 10 q (nI r) K = σ K := fun K hK => up2_row hK
  obtain ⟨l1, l2, l3, l4, l5, l6, l7⟩ := h
  refine ⟨?_, ?_, ?_, ?_, ?_, ?_, l7⟩
  · rw [lQ, hr 0 (by decide), hs 0 (by decide), hs 1 (by decide), hs 2 (by decide), hs 3 (by decide), hs 32 (by decide), hs 31 (by decide)]; exact l1
  · rw [lB, hs 3 (by decide)]; exact l2
  · rw [lH, hr 1 (by decide), hs 7 (by decide), hs 8 (by decide), hs 9 (by decide)]; exact l3
  · intro k hk
    obtain ⟨p1, p2, p3, p4, p5, p6, p7, p8, p9⟩ := l4 k hk
    rw [hs 11 (by decide), hs 12 (by decide), hs 13 (by decide), hs 14 (by decide), hs 15 (by decide), up2_i (show 6 * k ≠ 6 * q + 1 by omega), up2_i (show 6 * k + 2 ≠ 6 * q + 1 by omega), up2_i (show 6 * k + 3 ≠ 6 * q + 1 by omega), up2_i (show 6 * k + 4 ≠ 6 * q + 1 by omega), up2_i (show 6 * k + 5 ≠ 6 * q + 1 by omega)]
    by_cases e : k = q
    · subst e; rw [up2_s, up2_s]; exact ⟨p1, p2, p3, ⟨r, hr9, rfl⟩, rfl, p6, p7, p8, p9⟩
    · rw [up2_i (show 6 * k + 1 ≠ 6 * q + 1 by omega), up2_i e]; exact ⟨p1, p2, p3, p4, p5, p6, p7, p8, p9⟩
  · rw [lA, hs 18 (by decide)]; exact l5
  · rw [lC, hr 4 (by decide), hs 6 (by decide)]; exact l6
theorem LR.pas {d : Nat} (h : LR ρ κ σ μ) : LR (up2 ρ 0 0 (ρ 0 0 + nI d)) κ (up2 (T0 σ) 0 0 (σ 0 0 + nI d)) μ := by
  have e : ρ 0 0 + nI d = σ 0 0 + nI d := by rw [h.1.1]
  rw [e]
  have h0 : LR ρ κ (T0 σ) μ := h.cg (fun _ _ => rfl) rfl (fun K h30 _ => up2_30 h30) (fun _ _ => rfl)
  exact h0.set0 (K := 0) (i := 0) ⟨rfl, by decide⟩ (fun z => absurd z (by decide))
theorem nxtQ_lt {G : Nat → Nat} : ∀ (j : Nat) (b : Option Nat), j ≤ n → (∀ a, b = some a → a < n) → ∀ a, nxtQ ρ G j b = some a → a < n := by
  intro j
  induction j with
  | zero => intro b _ h; exact h
  | succ j ih => intro b hj h; exact ih _ (by omega) (sel_lt (by omega) h)
theorem in_nI {a b v : Nat} (h1 : a ≤ v) (h2 : v ≤ b) (hb : b < 2 ^ 30) : inB (nI v) (nI a) (nI b) = true := by
  simp only [inB, Bool.and_eq_true, Bool.not_eq_true', decide_eq_false_iff_not]
  exact ⟨Int32.not_lt.mpr ((nI_leI (by omega) (by omega)).mpr h1), Int32.not_lt.mpr ((nI_leI (by omega) (by omega)).mpr h2)⟩
end LPT
/-- how far the ticks may be within a turn -/
abbrev lWk (t : Nat) : IT → IT → NT → Prop := fun _ σ _ => ∃ w, σ 0 0 = nI w ∧ w ≤ 450 * t + 449
theorem lWk.of {n : Nat} {ρ σ ρ1 σ1 : IT} {μ μ1 : NT} (h : lPot n ρ σ μ) (e : σ1 0 0 = σ 0 0) : lWk n ρ1 σ1 μ1 := by
  obtain ⟨w, w1, w2, -⟩ := h
  exact ⟨w, e.trans w1, w2⟩
theorem lWk.next {n : Nat} {ρ σ ρ1 σ1 : IT} {μ μ1 : NT} (h : lWk n ρ σ μ) (e : σ1 0 0 = σ 0 0) : lPot (n + 1) ρ1 σ1 μ1 := by
  obtain ⟨w, w1, w2⟩ := h
  exact ⟨w, e.trans w1, by omega, fun _ => by omega⟩
theorem wt_d {x : Int32} (h1 : ¬ x ≤ 0) (h2 : ¬ (900 : Int32) ≤ x) : ∃ d, x = nI d ∧ 1 ≤ d ∧ d < 900 := by
  obtain ⟨j, hj, rfl⟩ := nI_of (x := x) (fun z => h1 (Int32.le_of_lt z))
  refine ⟨j, rfl, ?_, ?_⟩
  · rw [← nI_0, nI_leI hj (by decide)] at h1; omega
  · have h3 : ¬ nI 900 ≤ nI j := h2
    rw [nI_leI (by decide) hj] at h3; omega
/-- the law's locals, all along -/
abbrev lbase (b a0 : Nat) (bd : NT) (t : Nat) : List (Nat × Value) := [(0, .ref b), (1, .ref a0), (2, .ref (bd 0 0)), (3, .ref (bd 1 0)), (4, .ref (bd 2 0)), (5, .ref (bd 3 0)), (6, .ref (bd 4 0)), (7, .ref (bd 5 0)), (8, .ref (bd 6 0)), (9, .int (nI t))]
/-- what holds all along the law -/
def lctx (p : Program) (l : Launch) (s : State) (m : MethodId) (c : Code) (b L : Nat) (xs : Nat → Int32) (D : va_G) (cy : Nat → ClassId) (bd : NT) : Prop := p.tables.exec = Jvm.exec ∧ c.code = cL_law ∧ c.maxLocals = 16 ∧ s.vm.findClass RL = some m.cls ∧ (∀ w ∈ wsL_law, w.before #[Value.ref b] s = true) ∧ gK D cy s ∧ xK (lZ s.heap.size) s s.heap ∧ cK s ∧ va_X b L xs s s.heap ∧ b < s.heap.size ∧ l.stackTraces = false ∧ L ≤ 260 ∧ ∀ k, 0 < cL k → s.heap.size ≤ bd k 0
/-- the law goes on from a place: n turns of visits at the most, pages at least g2 -/
def lgo (p : Program) (l : Launch) (e : Env) (s : State) (m : MethodId) (below : List Frame) (meth : Method) (c : Code) (b : Nat) (D : va_G) (cy : Nat → ClassId) (bd : NT) (a0 n t g2 : Nat) (pot : IT → IT → NT → Prop) (lx : List (Nat × Value)) (cells slots pc : Nat) : Prop :=
  ∀ (ad : NT) (τ : IT) (ν : NT) (ρ : IT) (κ : LT) (σ : IT) (μ : NT) (H : Heap) (locs : List Loc) (ls : Array Slot), ad 0 0 = a0 → Rel n τ ν σ μ → LR ρ κ σ μ → pot ρ σ μ → J2 (ν 0 0) ad bd → (∀ k i, i < cC (ν 0 0) k → s.heap.size ≤ ad k i) → g2 ≤ μ 0 0 → CW D cy ad τ ν H → LW D cy bd ρ κ H → va_S (lZ s.heap.size) s.heap H locs → lv_has ls 16 (lx ++ lbase b a0 bd t) →
    W p l e room_1 s m #[Value.ref b] below meth c H locs cells slots (lw_Z below #[Value.ref b] s) (F0 m pc ls [])
theorem lA_wB {S0 n z : Nat} {ad bd : NT} (h1 : ∀ k i, i < cC n k → S0 ≤ ad k i) (h2 : ∀ k, 0 < cL k → S0 ≤ bd k 0) (hz : S0 ≤ z) : ∀ q, wB n ad bd z q → lZ S0 q := by
  rintro q ((⟨k, i, hi, rfl⟩ | h) | (⟨k, i, hi, rfl⟩ | h))
  · exact h1 k i hi
  · exact Nat.le_trans hz h
  · obtain ⟨i0, hk, -⟩ := cL_0 hi
    subst i0
    exact h2 k hk
  · exact Nat.le_trans hz h
theorem va_X.now {b L : Nat} {xs : Nat → Int32} {s : State} {H : Heap} {locs : List Loc} (h : va_X b L xs s s.heap) (hS : va_S (lZ s.heap.size) s.heap H locs) : va_X b L xs s H := by
  have hlt := h.lt
  obtain ⟨scr, h1, h2⟩ := h
  exact ⟨scr, by rw [hS.2.1 b hlt (Nat.not_le.mpr hlt)]; exact h1, h2⟩
theorem xc_preS {D : va_G} {cy : Nat → ClassId} {s : State} {H : Heap} {As : List Value} {A9 : Nat → Prop} {B : Heap → Prop} (hK : gK D cy s) (hX : xK A9 s H) (hC : cK s) (hB : B H) : PreS s H (va_Pc As (fun U => gK D cy U ∧ xK A9 U U.heap ∧ cK U ∧ B U.heap)) As :=
  ⟨fun a U g mk q => ⟨q.1, va_K.moved (u := U) (U := U.calling g mk a) (Vm.Alike.refl U.vm) q.2.1, xK.same (u := U) (U := U.calling g mk a) rfl q.2.2.1, ⟨va_Nw.same (u := U) rfl rfl q.2.2.2.1.1, va_Nw.same (u := U) rfl rfl q.2.2.2.1.2⟩, q.2.2.2.2⟩, fun U hU hW => ⟨rfl, va_K.moved hW.alike hK, by rw [hU]; exact xK.warm hW hX, ⟨va_Nw.warmC hW hC.1, va_Nw.warmC hW hC.2⟩, by rw [hU]; exact hB⟩⟩
