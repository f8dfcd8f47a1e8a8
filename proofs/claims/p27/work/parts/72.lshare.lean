/-! visits spread: the law's way, the class's -/
section SHV
variable {A B : Nat → Nat}
/-- page a adds no more than page b -/
def vLe (A B : Nat → Nat) (a b : Nat) : Prop := A a * B b ≤ A b * B a
def vLt (A B : Nat → Nat) (a b : Nat) : Prop := A a * B b < A b * B a
theorem vLe_not {a b : Nat} : vLe A B a b ↔ ¬ vLt A B b a := Nat.not_lt.symm
theorem vLt_le {a b : Nat} (h : vLt A B a b) : vLe A B a b := Nat.le_of_lt h
theorem vLe_trans {a b c : Nat} (hB : 0 < B b) (h1 : vLe A B a b) (h2 : vLe A B b c) : vLe A B a c := by
  have e : (A a * B c) * B b ≤ (A c * B a) * B b := by
    calc (A a * B c) * B b = (A a * B b) * B c := by rw [Nat.mul_assoc, Nat.mul_comm (B c), ← Nat.mul_assoc]
      _ ≤ (A b * B a) * B c := Nat.mul_le_mul_right _ h1
      _ = (A b * B c) * B a := by rw [Nat.mul_assoc, Nat.mul_comm (B a), ← Nat.mul_assoc]
      _ ≤ (A c * B b) * B a := Nat.mul_le_mul_right _ h2
      _ = (A c * B a) * B b := by rw [Nat.mul_assoc, Nat.mul_comm (B b), ← Nat.mul_assoc]
  exact Nat.le_of_mul_le_mul_right e hB
theorem vLe_lt {a b c : Nat} (hB : 0 < B b) (hBa : 0 < B a) (h1 : vLe A B a b) (h2 : vLt A B b c) : vLt A B a c := by
  have e : (A a * B c) * B b < (A c * B a) * B b := by
    calc (A a * B c) * B b = (A a * B b) * B c := by rw [Nat.mul_assoc, Nat.mul_comm (B c), ← Nat.mul_assoc]
      _ ≤ (A b * B a) * B c := Nat.mul_le_mul_right _ h1
      _ = (A b * B c) * B a := by rw [Nat.mul_assoc, Nat.mul_comm (B a), ← Nat.mul_assoc]
      _ < (A c * B b) * B a := Nat.mul_lt_mul_of_pos_right h2 hBa
      _ = (A c * B a) * B b := by rw [Nat.mul_assoc, Nat.mul_comm (B b), ← Nat.mul_assoc]
  exact Nat.lt_of_mul_lt_mul_right e
def isArg (A B : Nat → Nat) (S : Nat → Prop) (r : Option Nat) : Prop := (∀ a, r = some a → S a ∧ ∀ b, S b → (b < a → vLt A B b a) ∧ (a < b → vLe A B b a)) ∧ (r = none → ∀ b, ¬ S b)
theorem isArg_un {S : Nat → Prop} {r q : Option Nat} (h : isArg A B S r) (g : isArg A B S q) : r = q := by
  cases r with
  | none =>
    cases q with
    | none => rfl
    | some b => exact absurd (g.1 b rfl).1 (h.2 rfl b)
  | some a =>
    cases q with
    | none => exact absurd (h.1 a rfl).1 (g.2 rfl a)
    | some b =>
      have ha := h.1 a rfl
      have hb := g.1 b rfl
      rcases Nat.lt_trichotomy a b with c | c | c
      · exact absurd ((hb.2 a ha.1).1 c) (vLe_not.mp ((ha.2 b hb.1).2 c))
      · rw [c]
      · exact absurd ((ha.2 b hb.1).1 c) (vLe_not.mp ((hb.2 a ha.1).2 c))
theorem isArg_iff {S T : Nat → Prop} {r : Option Nat} (h : ∀ x, S x ↔ T x) (g : isArg A B S r) : isArg A B T r :=
  ⟨fun a e => ⟨(h a).mp (g.1 a e).1, fun b hb => (g.1 a e).2 b ((h b).mpr hb)⟩, fun e b hb => g.2 e b ((h b).mpr hb)⟩
def upO (A B : Nat → Nat) (i : Nat) : Option Nat → Option Nat
  | none => some i
  | some a => if A a * B i < A i * B a then some i else some a
def dnO (A B : Nat → Nat) (i : Nat) : Option Nat → Option Nat
  | none => some i
  | some a => if A i * B a < A a * B i then some a else some i
/-- the scan upwards: only a greater one takes the place -/
theorem isArg_up {S : Nat → Prop} {r : Option Nat} {i : Nat} (hB : ∀ p, 0 < B p) (h : isArg A B S r) (hS : ∀ x, S x → x < i) : isArg A B (fun x => S x ∨ x = i) (upO A B i r) := by
  cases r with
  | none =>
    refine ⟨fun a e => ?_, fun z => nomatch z⟩
    cases e
    exact ⟨Or.inr rfl, fun b hb => hb.elim (fun z => absurd z (h.2 rfl b)) (fun z => by subst z; exact ⟨fun y => absurd y (Nat.lt_irrefl _), fun y => absurd y (Nat.lt_irrefl _)⟩)⟩
  | some a =>
    have ha := h.1 a rfl
    have hai := hS a ha.1
    by_cases c : A a * B i < A i * B a
    · rw [upO, if_pos c]
      refine ⟨fun x e => ?_, fun z => nomatch z⟩
      cases e
      refine ⟨Or.inr rfl, fun b hb => ?_⟩
      rcases hb with hb | rfl
      · have hbi := hS b hb
        refine ⟨fun _ => ?_, fun y => absurd y (by omega)⟩
        rcases Nat.lt_trichotomy b a with q | q | q
        · exact vLe_lt (hB a) (hB b) (vLt_le ((ha.2 b hb).1 q)) c
        · subst q; exact c
        · exact vLe_lt (hB a) (hB b) ((ha.2 b hb).2 q) c
      · exact ⟨fun y => absurd y (Nat.lt_irrefl _), fun y => absurd y (Nat.lt_irrefl _)⟩
    · rw [upO, if_neg c]
      refine ⟨fun x e => ?_, fun z => nomatch z⟩
      cases e
      refine ⟨Or.inl ha.1, fun b hb => ?_⟩
      rcases hb with hb | rfl
      · exact ha.2 b hb
      · exact ⟨fun y => absurd y (by omega), fun _ => vLe_not.mpr c⟩
/-- the scan downwards: one that is no less takes the place -/
theorem isArg_down {S : Nat → Prop} {r : Option Nat} {i : Nat} (hB : ∀ p, 0 < B p) (h : isArg A B S r) (hS : ∀ x, S x → i < x) : isArg A B (fun x => S x ∨ x = i) (dnO A B i r) := by
  cases r with
  | none =>
    refine ⟨fun a e => ?_, fun z => nomatch z⟩
    cases e
    exact ⟨Or.inr rfl, fun b hb => hb.elim (fun z => absurd z (h.2 rfl b)) (fun z => by subst z; exact ⟨fun y => absurd y (Nat.lt_irrefl _), fun y => absurd y (Nat.lt_irrefl _)⟩)⟩
  | some a =>
    have ha := h.1 a rfl
    have hai := hS a ha.1
    by_cases c : A i * B a < A a * B i
    · rw [dnO, if_pos c]
      refine ⟨fun x e => ?_, fun z => nomatch z⟩
      cases e
      refine ⟨Or.inl ha.1, fun b hb => ?_⟩
      rcases hb with hb | rfl
      · exact ha.2 b hb
      · exact ⟨fun _ => c, fun y => absurd y (by omega)⟩
    · rw [dnO, if_neg c]
      refine ⟨fun x e => ?_, fun z => nomatch z⟩
      cases e
      refine ⟨Or.inr rfl, fun b hb => ?_⟩
      rcases hb with hb | rfl
      · have hbi := hS b hb
        refine ⟨fun y => absurd y (by omega), fun _ => ?_⟩
        have hle : vLe A B a i := Nat.le_of_not_lt c
        rcases Nat.lt_trichotomy b a with q | q | q
        · exact vLe_trans (hB a) (vLt_le ((ha.2 b hb).1 q)) hle
        · subst q; exact hle
        · exact vLe_trans (hB a) ((ha.2 b hb).2 q) hle
      · exact ⟨fun y => absurd y (Nat.lt_irrefl _), fun y => absurd y (Nat.lt_irrefl _)⟩
end SHV
def shA (rr cc : Nat → Nat) (p : Nat) : Nat := (rr p + 1) * (cc p + 1)
def shB (ss cc : Nat → Nat) (p : Nat) : Nat := (ss p + cc p + 1) * (ss p + cc p + 2)
theorem shB_pos {ss cc : Nat → Nat} (p : Nat) : 0 < shB ss cc p := Nat.mul_pos (by omega) (by omega)
section SHN
variable {rr cc ss : Nat → Nat} {n : Nat}
/-- the numbers that both sides spread by -/
def shD (rr cc ss : Nat → Nat) (n : Nat) (T X : IT) : Prop := ∀ p, p < n → T 10 p = nI (rr p) ∧ rr p ≤ 9 ∧ T 13 p = nI (cc p) ∧ cc p ≤ 1000 ∧ T 25 p = nI (ss p) ∧ ss p ≤ 1000 ∧ X 2 (6 * p + 1) = nI (rr p) ∧ X 2 (6 * p + 4) = nI (cc p) ∧ X 3 p = nI (ss p) ∧ (X 2 (6 * p + 5) = 0 ↔ keptC T p = true)
theorem shA_le {p : Nat} (h1 : rr p ≤ 9) (h2 : cc p ≤ 1000) : shA rr cc p ≤ 10 * 1001 := Nat.mul_le_mul (by omega) (by omega)
theorem shB_le {p : Nat} (h1 : ss p ≤ 1000) (h2 : cc p ≤ 1000) : shB ss cc p ≤ 2001 * 2002 := Nat.mul_le_mul (by omega) (by omega)
theorem shM_lt {a b : Nat} (h1 : a ≤ 10 * 1001) (h2 : b ≤ 2001 * 2002) : a * b < 2 ^ 63 := Nat.lt_of_le_of_lt (Nat.mul_le_mul h1 h2) (by decide)
theorem gA_lN {p : Nat} {T : IT} (h1 : T 10 p = nI (rr p)) (h2 : rr p ≤ 9) (h3 : T 13 p = nI (cc p)) (h4 : cc p ≤ 1000) : gA (T 10 p) (T 13 p) = lN (shA rr cc p) := by
  rw [gA, h1, h3, nI_l (by omega), nI_l (by omega), lN_1, lN_1, lN_mul]; rfl
theorem gB_lN {p : Nat} {T : IT} (h1 : T 25 p = nI (ss p)) (h2 : ss p ≤ 1000) (h3 : T 13 p = nI (cc p)) (h4 : cc p ≤ 1000) : gB (T 25 p) (T 13 p) = lN (shB ss cc p) := by
  rw [gB, h1, h3, nI_add, nI_l (by omega), lN_1, show lN (ss p + cc p) + 2 = lN (ss p + cc p + 2) from lN_add _ 2, lN_mul]; rfl
theorem one_lN {p : Nat} {X : IT} (h1 : X 2 (6 * p + 1) = nI (rr p)) (h2 : rr p ≤ 9) (h3 : X 2 (6 * p + 4) = nI (cc p)) (h4 : cc p ≤ 1000) : oneQ X p = lN (shA rr cc p) := by
  rw [oneQ, fQ, h1, h3, nI_l (by omega), nI_l (by omega), lN_1, lN_1, lN_mul]; rfl
theorem here_lN {p : Nat} {X : IT} (h1 : X 3 p = nI (ss p)) (h2 : ss p ≤ 1000) (h3 : X 2 (6 * p + 4) = nI (cc p)) (h4 : cc p ≤ 1000) : hereQ X p = lN (shB ss cc p) := by
  rw [hereQ, fQ, h1, h3, nI_l (by omega), nI_l (by omega), lN_1, lN_add, lN_1, lN_mul]
  rfl
theorem bst_arg {T X : IT} {ν : NT} (hn : ν 0 0 = n) (hD : shD rr cc ss n T X) : ∀ (k i : Nat) (b : Option Nat), isArg (shA rr cc) (shB ss cc) (fun x => x < i ∧ x < n ∧ keptC T x = true) b → isArg (shA rr cc) (shB ss cc) (fun x => x < i + k ∧ x < n ∧ keptC T x = true) (bstL T ν k i b) := by
  intro k
  induction k with
  | zero => intro i b h; exact h
  | succ k ih =>
    intro i b h
    rw [bstL, show i + (k + 1) = (i + 1) + k by omega]
    refine ih (i + 1) _ ?_
    by_cases c : i < n ∧ keptC T i = true
    · have h2 := isArg_up (i := i) shB_pos h (fun x hx => hx.1)
      have e : (if i < ν 0 0 ∧ keptC T i = true ∧ gnC T i b = true then some i else b) = upO (shA rr cc) (shB ss cc) i b := by
        cases b with
        | none => rw [if_pos ⟨by omega, c.2, rfl⟩]; rfl
        | some a =>
          have ha := (h.1 a rfl).1
          obtain ⟨p1, p2, p3, p4, p5, p6, -⟩ := hD i c.1
          obtain ⟨q1, q2, q3, q4, q5, q6, -⟩ := hD a ha.2.1
          have eg : gnC T i (some a) = decide (shA rr cc a * shB ss cc i < shA rr cc i * shB ss cc a) := by
            show gainsC T i a = _
            rw [gainsC, gainsB, gA_lN q1 q2 q3 q4, gB_lN p5 p6 p3 p4, gA_lN p1 p2 p3 p4, gB_lN q5 q6 q3 q4, lN_mul, lN_mul]
            have := pk_lLT (shM_lt (shA_le q2 q4) (shB_le p6 p4)) (shM_lt (shA_le p2 p4) (shB_le q6 q4))
            simp only [this]
          by_cases d : shA rr cc a * shB ss cc i < shA rr cc i * shB ss cc a
          · rw [if_pos ⟨by omega, c.2, by rw [eg]; exact decide_eq_true d⟩]; exact (if_pos d).symm
          · rw [if_neg (fun z => d (of_decide_eq_true (eg.symm.trans z.2.2)))]; exact (if_neg d).symm
      rw [e]
      refine isArg_iff (fun x => ?_) h2
      constructor
      · rintro (z | rfl)
        · exact ⟨by omega, z.2⟩
        · exact ⟨by omega, c⟩
      · rintro ⟨z1, z2⟩
        by_cases q : x = i
        · exact Or.inr q
        · exact Or.inl ⟨by omega, z2⟩
    · rw [if_neg (fun z => c ⟨by omega, z.2.1⟩)]
      refine isArg_iff (fun x => ?_) h
      constructor
      · rintro ⟨z1, z2⟩; exact ⟨by omega, z2⟩
      · rintro ⟨z1, z2⟩
        refine ⟨?_, z2⟩
        by_cases q : x = i
        · subst q; exact absurd z2 c
        · omega
theorem bsQ_arg {T X : IT} (hD : shD rr cc ss n T X) : ∀ (j : Nat) (b : Option Nat), j ≤ n → isArg (shA rr cc) (shB ss cc) (fun x => j ≤ x ∧ x < n ∧ keptC T x = true) b → isArg (shA rr cc) (shB ss cc) (fun x => x < n ∧ keptC T x = true) (bsQ X j b) := by
  intro j
  induction j with
  | zero => intro b _ h; exact isArg_iff (fun x => ⟨fun z => z.2, fun z => ⟨Nat.zero_le x, z⟩⟩) h
  | succ i ih =>
    intro b hj h
    rw [bsQ]
    refine ih _ (by omega) ?_
    obtain ⟨p1, p2, p3, p4, p5, p6, p7, p8, p9, p10⟩ := hD i (by omega)
    by_cases c : keptC T i = true
    · have h2 := isArg_down (i := i) shB_pos h (fun x hx => by omega)
      have e : (if gnQ X i b = true then some i else b) = dnO (shA rr cc) (shB ss cc) i b := by
        cases b with
        | none =>
          have eg : gnQ X i none = true := by
            rw [gnQ, decide_eq_true (p10.mpr c), thO, otO, one_lN p7 p2 p8 p4, here_lN p9 p6 p8 p4]
            have e2 : ¬ lN (shA rr cc i) * 1 < 0 * lN (shB ss cc i) := by
              rw [show lN (shA rr cc i) * 1 = lN (shA rr cc i * 1) from lN_mul _ 1, show (0 : Int64) * lN (shB ss cc i) = lN (0 * shB ss cc i) from lN_mul 0 _, Nat.mul_one, Nat.zero_mul, pk_lLT (Nat.lt_of_le_of_lt (shA_le p2 p4) (by decide)) (by decide)]
              omega
            rw [decide_eq_false e2]; rfl
          rw [if_pos eg]; rfl
        | some a =>
          have ha := (h.1 a rfl).1
          obtain ⟨q1, q2, q3, q4, q5, q6, q7, q8, q9, q10⟩ := hD a ha.2.1
          have eg : gnQ X i (some a) = !decide (shA rr cc i * shB ss cc a < shA rr cc a * shB ss cc i) := by
            rw [gnQ, decide_eq_true (p10.mpr c), thO, otO, one_lN p7 p2 p8 p4, here_lN p9 p6 p8 p4, one_lN q7 q2 q8 q4, here_lN q9 q6 q8 q4, lN_mul, lN_mul, Bool.true_and]
            have := pk_lLT (shM_lt (shA_le p2 p4) (shB_le q6 q4)) (shM_lt (shA_le q2 q4) (shB_le p6 p4))
            simp only [this]
          by_cases d : shA rr cc i * shB ss cc a < shA rr cc a * shB ss cc i
          · rw [if_neg (fun z => by rw [eg, decide_eq_true d] at z; cases z)]; exact (if_pos d).symm
          · rw [if_pos (by rw [eg, decide_eq_false d]; rfl)]; exact (if_neg d).symm
      rw [e]
      refine isArg_iff (fun x => ?_) h2
      constructor
      · rintro (z | rfl)
        · exact ⟨by omega, z.2⟩
        · exact ⟨Nat.le_refl _, by omega, c⟩
      · rintro ⟨z1, z2⟩
        by_cases q : x = i
        · exact Or.inr q
        · exact Or.inl ⟨by omega, z2⟩
    · have eg : gnQ X i b = false := by
        rw [gnQ, decide_eq_false (fun z => c (p10.mp z))]; rfl
      rw [if_neg (by rw [eg]; decide)]
      refine isArg_iff (fun x => ?_) h
      constructor
      · rintro ⟨z1, z2⟩; exact ⟨by omega, z2⟩
      · rintro ⟨z1, z2⟩
        refine ⟨?_, z2⟩
        by_cases q : x = i
        · subst q; exact absurd z2.2 c
        · omega
theorem isArg_0 {A B : Nat → Nat} {S : Nat → Prop} (h : ∀ x, ¬ S x) : isArg A B S none := ⟨fun a e => (nomatch e), fun _ => h⟩
theorem best_eq {T X : IT} {ν : NT} (hn : ν 0 0 = n) (h30 : n ≤ 30) (hD : shD rr cc ss n T X) : bstL T ν 30 0 none = bsQ X n none := by
  refine isArg_un (A := shA rr cc) (B := shB ss cc) (S := fun x => x < n ∧ keptC T x = true) ?_ (bsQ_arg hD n none (Nat.le_refl n) (isArg_0 (fun x hx => by omega)))
  refine isArg_iff (fun x => ?_) (bst_arg hn hD 30 0 none (isArg_0 (fun x hx => absurd hx.1 (Nat.not_lt_zero x))))
  exact ⟨fun z => z.2, fun z => ⟨by omega, z⟩⟩
end SHN
theorem spz_0 {ρ : IT} {p : Nat} : ∀ k, p < k → spz ρ k 3 p = 0 := by
  intro k
  induction k with
  | zero => intro h; exact absurd h (Nat.not_lt_zero _)
  | succ k ih =>
    intro h
    rw [spz]
    by_cases e : p = k
    · subst e; rw [up2_s]
    · rw [up2_i e]; exact ih (by omega)
/-- the shares are alike -/
theorem LR.share {ρ : IT} {κ : LT} {τ σ : IT} {ν μ : NT} {n : Nat} (h : LR ρ κ σ μ) (R : Rel n τ ν σ μ) (hn : n < 1000) : ∀ t, t ≤ 900 → ∃ ss : Nat → Nat, ∀ p, p < μ 0 0 → svN τ ν t 25 p = nI (ss p) ∧ ss p ≤ t ∧ spv ρ (μ 0 0) t 3 p = nI (ss p) := by
  have h10 := h.2.1.1
  have hn0 := R.n0
  have hD : ∀ (t : Nat) (ss : Nat → Nat), t ≤ 900 → (∀ p, p < μ 0 0 → svN τ ν t 25 p = nI (ss p) ∧ ss p ≤ t ∧ spv ρ (μ 0 0) t 3 p = nI (ss p)) → bstL (svN τ ν t) ν 30 0 none = bsQ (spv ρ (μ 0 0) t) (μ 0 0) none := by
    intro t ss ht hs
    have hrr : ∀ p, ∃ r, p < μ 0 0 → r ≤ 9 ∧ σ 10 p = nI r := fun p => by
      by_cases c : p < μ 0 0
      · obtain ⟨r, r1, r2⟩ := h.rank c
        exact ⟨r, fun _ => ⟨r1, r2⟩⟩
      · exact ⟨0, fun z => absurd z c⟩
    have hcc : ∀ p, ∃ c, p < μ 0 0 → c < 1000 ∧ σ 13 p = nI c := fun p => by
      by_cases c : p < μ 0 0
      · obtain ⟨r, r1, r2⟩ := R.hC hn p c
        exact ⟨r, fun _ => ⟨r1, r2⟩⟩
      · exact ⟨0, fun z => absurd z c⟩
    refine best_eq (rr := fun p => (hrr p).choose) (cc := fun p => (hcc p).choose) (ss := ss) hn0 (by omega) (fun p hp => ?_)
    have hp' : p < ν 0 0 := by rw [hn0]; exact hp
    obtain ⟨r1, r2⟩ := (hrr p).choose_spec hp
    obtain ⟨c1, c2⟩ := (hcc p).choose_spec hp
    obtain ⟨s1, s2, s3⟩ := hs p hp
    obtain ⟨-, -, -, -, l5, -, -, l8, l9⟩ := h.2.2.2.1 p hp
    refine ⟨?_, r1, ?_, Nat.le_of_lt c1, s1, by omega, ?_, ?_, s3, ?_⟩
    · rw [svN_k (by decide), R.eqP (by decide) (by decide) hp']; exact r2
    · rw [svN_k (by decide), R.eqP (by decide) (by decide) hp']; exact c2
    · rw [spv_k (by decide), l5]; exact r2
    · rw [spv_k (by decide), l8]; exact c2
    · rw [spv_k (by decide), l9, keptC, svN_k (by decide), svN_k (by decide), R.eqP (by decide) (by decide) hp', R.eqP (by decide) (by decide) hp']
  intro t
  induction t with
  | zero =>
    intro _
    refine ⟨fun _ => 0, fun p hp => ⟨?_, Nat.le_refl 0, ?_⟩⟩
    · show fgL τ (ν 0 0) 30 25 p = nI 0
      rw [fgL_0 (by rw [hn0]; exact hp) 30 (by omega)]; exact nI_0.symm
    · show spz ρ (μ 0 0) 3 p = nI 0
      rw [spz_0 _ hp]; exact nI_0.symm
  | succ t ih =>
    intro ht
    obtain ⟨ss, hs⟩ := ih (by omega)
    have hb := hD t ss (by omega) hs
    rw [svN, spv, hb]
    cases e : bsQ (spv ρ (μ 0 0) t) (μ 0 0) none with
    | none => exact ⟨ss, fun p hp => by obtain ⟨a, b, c⟩ := hs p hp; exact ⟨a, by omega, c⟩⟩
    | some a =>
      refine ⟨fun p => if p = a then ss p + 1 else ss p, fun p hp => ?_⟩
      obtain ⟨s1, s2, s3⟩ := hs p hp
      show up2 (svN τ ν t) 25 a (svN τ ν t 25 a + 1) 25 p = _ ∧ _ ∧ up2 (spv ρ (μ 0 0) t) 3 a (spv ρ (μ 0 0) t 3 a + 1) 3 p = _
      dsimp only
      by_cases q : p = a
      · subst q
        rw [up2_s, up2_s, s1, s3, if_pos rfl, nI_1]
        exact ⟨rfl, by omega, rfl⟩
      · rw [up2_i q, up2_i q, if_neg q]
        exact ⟨s1, by omega, s3⟩
theorem LR.shr {ρ : IT} {κ : LT} {τ σ : IT} {ν μ : NT} {n t p : Nat} (h : LR ρ κ σ μ) (R : Rel n τ ν σ μ) (hn : n < 1000) (ht : t ≤ 900) (hp : p < μ 0 0) : svN τ ν t 25 p = spv ρ (μ 0 0) t 3 p := by
  obtain ⟨ss, hs⟩ := h.share R hn t ht
  obtain ⟨a, -, c⟩ := hs p hp
  rw [a, c]
