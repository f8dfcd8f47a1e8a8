/-! out of 08.model -/
def mT (k : Nat) : Nat := if k = 14 ∨ k = 15 then 2 else 1
def mS (k : Nat) : Nat := if k = 18 then 900 else if k = 34 ∨ k = 35 then 15 else if k = 7 ∨ k = 8 ∨ k = 9 then 6 else 30
def MI (σ : IT) (ν : NT) : Prop := ν 0 0 ≤ 30 ∧ ν 1 0 ≤ 30 ∧ ∀ p, p < ν 0 0 → ν 5 p < 6 ∧ ν 3 p ≤ 30
def inB (v a b : Int32) : Bool := !decide (v < a) && !decide (b < v)
def hostB (h : Int32) : Bool := inB h 0 5
def pageB (ν : NT) (p : Int32) : Bool := inB p 0 (nI (ν 0 0) - 1)
def leftM (σ : IT) : Int32 := if (if σ 31 0 = σ 0 0 / 100 then σ 32 0 else 0) < σ 3 0 then σ 3 0 - (if σ 31 0 = σ 0 0 / 100 then σ 32 0 else 0) else 0
def openB (σ : IT) (ν : NT) (p : Nat) : Bool := keptB (σ 14 p) (σ 15 p) && (!decide (σ 0 0 < σ 11 p) && (!decide (σ 0 0 < σ 9 (ν 5 p)) && !decide (leftM σ ≤ 0)))
def addsB (σ : IT) (p q : Nat) : Bool := decide (gA (σ 10 q) (σ 13 q) * gB (σ 36 p) (σ 13 p) < gA (σ 10 p) (σ 13 p) * gB (σ 36 q) (σ 13 q))
theorem idx_page {ν : NT} {p : Int32} (h30 : ν 0 0 ≤ 30) (h : pageB ν p = true) : ∃ q, q < ν 0 0 ∧ p = nI q := by
  simp only [pageB, inB, Bool.and_eq_true, Bool.not_eq_true', decide_eq_false_iff_not] at h
  obtain ⟨h1, h2⟩ := h
  obtain ⟨j, hj, rfl⟩ := nI_of h1
  refine ⟨j, ?_, rfl⟩
  rcases Nat.eq_zero_or_pos (ν 0 0) with hz | hz
  · rw [hz] at h2
    exact absurd (show nI 0 - 1 < nI j by
      rw [Int32.lt_iff_toInt_lt, nI_toInt hj]
      have : (nI 0 - 1).toInt = -1 := by decide
      omega) h2
  · obtain ⟨n, hn⟩ : ∃ n, ν 0 0 = n + 1 := ⟨ν 0 0 - 1, by omega⟩
    rw [hn, nI_pred] at h2
    rw [nI_ltI (by omega) hj] at h2
    omega
theorem idx_page' {ν : NT} {q : Nat} (h30 : ν 0 0 ≤ 30) (hq : q < ν 0 0) : pageB ν (nI q) = true := by
  simp only [pageB, inB, Bool.and_eq_true, Bool.not_eq_true', decide_eq_false_iff_not]
  refine ⟨nI_pos (by omega), ?_⟩
  obtain ⟨n, hn⟩ : ∃ n, ν 0 0 = n + 1 := ⟨ν 0 0 - 1, by omega⟩
  rw [hn, nI_pred, nI_ltI (by omega) (by omega)]
  omega
theorem idx_host {h : Int32} (hh : hostB h = true) : ∃ q, q < 6 ∧ h = nI q := by
  simp only [hostB, inB, Bool.and_eq_true, Bool.not_eq_true', decide_eq_false_iff_not] at hh
  obtain ⟨h1, h2⟩ := hh
  obtain ⟨j, hj, rfl⟩ := nI_of h1
  refine ⟨j, ?_, rfl⟩
  have h3 : ¬ nI 5 < nI j := h2
  rw [nI_ltI (by decide) hj] at h3
  omega
theorem idx_host' {q : Nat} (hq : q < 6) : hostB (nI q) = true := by
  simp only [hostB, inB, Bool.and_eq_true, Bool.not_eq_true', decide_eq_false_iff_not]
  refine ⟨nI_pos (by omega), fun z => ?_⟩
  have h3 : nI 5 < nI q := z
  rw [nI_ltI (by decide) (by omega)] at h3
  omega

/-- numbers of rows: equal from i on, k places -/
def sameM (σ : IT) (ν : NT) (x y : Nat) : Bool := decide (ν 8 x = ν 8 y) && sameF (fun i => σ 6 (ν 7 x + i)) (fun i => σ 6 (ν 7 y + i)) (ν 8 x) 0
def sameT (σ : IT) (ν : NT) (p : Nat) : Bool := decide (ν 3 p = ν 1 0) && sameF (fun i => σ 18 (30 * p + i)) (σ 6) (ν 1 0) 0
/-- segments lie in the text -/
def sgOK (ν : NT) : Prop := ∀ j, j < ν 6 0 → ν 7 j + ν 8 j ≤ 30

/-! out of 09.modelw -/
theorem up2_row {α : Type} {f : Nat → Nat → α} {k i k' : Nat} {v : α} (h : k' ≠ k) : up2 f k i v k' = f k' := funext fun i' => up2_k h
theorem up2_up {α : Type} {f : Nat → Nat → α} {k i : Nat} {v w : α} : up2 (up2 f k i v) k i w = up2 f k i w := by
  funext k' i'
  by_cases h : k' = k ∧ i' = i <;> simp [up2, h]
def ask (p : Bool) : Int32 := if p then 0 else 1
def oIsAsked (σ : IT) (ν : NT) (q : Int32) : IT := up2 σ 30 0 (ask (pageB ν q))
theorem ask_0 {b : Bool} : ask b = 0 ↔ b = true := by cases b <;> simp [ask]
theorem ask_b {b : Bool} (h : ask b = 0) : b = true := ask_0.mp h
theorem ask_n {b : Bool} (h : ¬ ask b = 0) : b = false := by cases b with | false => rfl | true => exact absurd rfl h

/-! out of 10.lay -/
/-- segments, begin, many after k characters -/
def layN (f : Nat → Int32) (ν : NT) : Nat → NT
  | 0 => up2 ν 6 0 0
  | k + 1 =>
    if f k = 47 then layN f ν k
    else if k = 0 ∨ f (k - 1) = 47 then up2 (up2 (up2 (up2 (layN f ν k) 7 (layN f ν k 6 0) k) 8 (layN f ν k 6 0) 0) 6 0 (layN f ν k 6 0 + 1)) 8 (layN f ν k 6 0) 1
    else up2 (layN f ν k) 8 (layN f ν k 6 0 - 1) (layN f ν k 8 (layN f ν k 6 0 - 1) + 1)
theorem layN_keep {f : Nat → Int32} {ν : NT} (k K i : Nat) (h6 : K ≠ 6) (h7 : K ≠ 7) (h8 : K ≠ 8) : layN f ν k K i = ν K i := by
  induction k with
  | zero => rw [layN, up2_k h6]
  | succ k ih =>
    rw [layN]
    by_cases c : f k = 47
    · rw [if_pos c]; exact ih
    · rw [if_neg c]
      by_cases d : k = 0 ∨ f (k - 1) = 47
      · rw [if_pos d, up2_k h8, up2_k h6, up2_k h8, up2_k h7]; exact ih
      · rw [if_neg d, up2_k h8]; exact ih
/-- how many segments there are, by the character behind -/
theorem layN_seg {f : Nat → Int32} {ν : NT} (k : Nat) : 2 * layN f ν k 6 0 ≤ k + 1 ∧ ((k = 0 ∨ f (k - 1) = 47) → 2 * layN f ν k 6 0 ≤ k) ∧ ((0 < k ∧ f (k - 1) ≠ 47) → 1 ≤ layN f ν k 6 0) := by
  induction k with
  | zero => rw [layN, up2_s]; refine ⟨by omega, fun _ => by omega, fun h => absurd h.1 (by omega)⟩
  | succ k ih =>
    obtain ⟨h1, h2, h3⟩ := ih
    rw [layN, Nat.add_sub_cancel]
    by_cases c : f k = 47
    · rw [if_pos c]; exact ⟨by omega, fun _ => h1, fun h => absurd c h.2⟩
    · rw [if_neg c]
      by_cases d : k = 0 ∨ f (k - 1) = 47
      · rw [if_pos d, up2_k (by decide), up2_s]
        have := h2 d
        exact ⟨by omega, fun h => h.elim (fun e => absurd e (by omega)) (fun e => absurd e c), fun _ => by omega⟩
      · rw [if_neg d, up2_k (by decide)]
        have : 1 ≤ layN f ν k 6 0 := h3 ⟨by omega, fun e => d (Or.inr e)⟩
        exact ⟨by omega, fun h => h.elim (fun e => absurd e (by omega)) (fun e => absurd e c), fun _ => this⟩
/-- where segments lie -/
theorem layN_ok {f : Nat → Int32} {ν : NT} (k : Nat) : ∀ j, j < layN f ν k 6 0 → layN f ν k 7 j + layN f ν k 8 j ≤ k ∧ ((j + 1 = layN f ν k 6 0 ∧ 0 < k ∧ f (k - 1) ≠ 47) → layN f ν k 7 j + layN f ν k 8 j = k) := by
  induction k with
  | zero => intro j h; rw [layN, up2_s] at h; exact absurd h (Nat.not_lt_zero _)
  | succ k ih =>
    have hs := layN_seg (f := f) (ν := ν) k
    rw [layN, Nat.add_sub_cancel]
    by_cases c : f k = 47
    · rw [if_pos c]
      intro j h
      exact ⟨Nat.le_succ_of_le (ih j h).1, fun q => absurd c q.2.2⟩
    · rw [if_neg c]
      generalize hL : layN f ν k = L at ih hs ⊢
      by_cases d : k = 0 ∨ f (k - 1) = 47
      · rw [if_pos d]
        intro j h
        rw [up2_k (by decide), up2_s] at h
        by_cases e : j = L 6 0
        · subst e
          rw [up2_k (by decide), up2_k (by decide), up2_k (by decide), up2_s, up2_s]
          exact ⟨by omega, fun _ => by omega⟩
        · have hj : j < L 6 0 := by omega
          rw [up2_k (by decide), up2_k (by decide), up2_k (by decide), up2_i e, up2_i e, up2_k (by decide), up2_i e, up2_k (by decide)]
          have := (ih j hj).1
          refine ⟨by omega, fun q => ?_⟩
          have q1 := q.1
          rw [up2_k (by decide), up2_s] at q1
          omega
      · rw [if_neg d]
        have h1 : 1 ≤ L 6 0 := hs.2.2 ⟨by omega, fun e => d (Or.inr e)⟩
        intro j h
        rw [up2_k (by decide)] at h
        by_cases e : j = L 6 0 - 1
        · subst e
          rw [up2_k (by decide), up2_s]
          have := (ih (L 6 0 - 1) (by omega)).2 ⟨by omega, by omega, fun e => d (Or.inr e)⟩
          exact ⟨by omega, fun _ => by omega⟩
        · rw [up2_k (by decide), up2_i e]
          have := (ih j h).1
          refine ⟨by omega, fun q => ?_⟩
          have q1 := q.1
          rw [up2_k (by decide)] at q1
          omega

/-! out of 11.face -/
def allF (P : Nat → Bool) : Nat → Nat → Bool → Bool
  | 0, _, b => b
  | n + 1, i, b => allF P n (i + 1) (b && P i)
def frL (P : Nat → Bool) (row seg : Nat) : Nat → Nat → Bool → Bool
  | 0, _, b => b
  | n + 1, i, b => if i + 3 * row ≤ seg then frL P row seg n (i + 1) (b || allF P (2 * row) i true) else b
def rpL (σ : IT) (ν : NT) : Nat → Nat → Bool → Bool
  | 0, _, b => b
  | n + 1, r, b => rpL σ ν n (r + 1) (frL (fun i => sameM σ ν i (i + r)) r (ν 6 0) (ν 6 0 + 1) 0 b)
def repM (σ : IT) (ν : NT) : Bool := rpL σ (layN (σ 6) ν (ν 1 0)) 3 1 false

def pressM (σ : IT) (p : Nat) : Int32 := pressF (σ 10 p) (σ 11 p) (σ 0 0)
def btB (σ : IT) (ν : NT) (p : Nat) (f : Option Nat) (m : Int32) : Bool := openB σ ν p && (match f with | none => true | some j => decide (m < pressM σ p) || (decide (pressM σ p = m) && decide (σ 10 j < σ 10 p)))
def bestM (σ : IT) (ν : NT) : Nat → Nat → Option Nat → Int32 → Option Nat
  | 0, _, f, _ => f
  | k + 1, p, f, m => bestM σ ν k (p + 1) (if btB σ ν p f m = true then some p else f) (if btB σ ν p f m = true then pressM σ p else m)
theorem numO_n1 {f : Option Nat} {n : Nat} (hf : ∀ a, f = some a → a < n) (hn : n ≤ 2 ^ 30) : numO f = -1 ↔ f = none := by
  cases f with
  | none => exact ⟨fun _ => rfl, fun _ => rfl⟩
  | some a =>
    have := hf a rfl
    refine ⟨fun h => ?_, fun h => nomatch h⟩
    have h2 : (nI a).toInt = -1 := by rw [show nI a = -1 from h]; decide
    rw [nI_toInt (by omega)] at h2
    omega

/-! out of 12.face2 -/
/-- the code of the last call: 0 first -/
abbrev T0 (σ : IT) : IT := up2 σ 30 0 0
abbrev T1 (σ : IT) (c : Int32) : IT := up2 (up2 σ 30 0 0) 30 0 c
def oType (σ : IT) (ν : NT) (c : Int32) : Int32 × IT × NT :=
  if c = 47 ∨ inB c 97 122 = true then (if ν 1 0 = 30 then (0, T1 σ 2, ν) else (nI (ν 1 0 + 1), up2 (T0 σ) 6 (ν 1 0) c, up2 ν 1 0 (ν 1 0 + 1))) else (0, T1 σ 1, ν)
def oSetRest (σ : IT) (h r : Int32) : Int32 × IT := if hostB h = true then (if inB r 1 100 = true then (σ 7 h.toNatClampNeg, up2 (T0 σ) 7 h.toNatClampNeg r) else (0, T1 σ 2)) else (0, T1 σ 1)
def pcode (a b : Int32) : Int32 := ask (inB a 1 1000 && inB b a 5000)
def oSetPaces (σ : IT) (a b : Int32) : IT := if pcode a b = 0 then up2 (up2 (up2 σ 30 0 (pcode a b)) 1 0 a) 2 0 b else up2 σ 30 0 (pcode a b)
def oSetBudget (σ : IT) (v : Int32) : Int32 × IT := if inB v 1 100 = true then (σ 3 0, up2 (T0 σ) 3 0 v) else (0, T1 σ 1)
def oHostQ (σ : IT) (k : Nat) (h : Int32) : Int32 × IT := if hostB h = true then (σ k h.toNatClampNeg, T0 σ) else (0, T1 σ 1)
def oSetRank (σ : IT) (ν : NT) (p r : Int32) : Int32 × IT := if pageB ν p = true then (if inB r 0 9 = true then (σ 10 p.toNatClampNeg, up2 (T0 σ) 10 p.toNatClampNeg r) else (0, T1 σ 2)) else (0, T1 σ 1)
def oDueAt (σ : IT) (ν : NT) (p : Int32) : Int32 := if pageB ν p = true then (if keptB (σ 14 p.toNatClampNeg) (σ 15 p.toNatClampNeg) = true then σ 11 p.toNatClampNeg else -1) else 0
def oPageQ (σ : IT) (ν : NT) (k : Nat) (p : Int32) : Int32 := if pageB ν p = true then σ k p.toNatClampNeg else 0
def oMayVisit (σ : IT) (ν : NT) (p : Int32) : Bool := if pageB ν p = true then openB σ ν p.toNatClampNeg else false
def oPass (σ : IT) (t : Int32) : Int32 × IT := if inB t 1 1000 = true then (if (100000 : Int32) < σ 0 0 + t then (0, T1 σ 2) else (σ 0 0 + t, up2 (T0 σ) 0 0 (σ 0 0 + t))) else (0, T1 σ 1)
theorem ltNe {a b : Int32} (h : ¬ b < a) : a ≤ b := Int32.not_lt.mp h

/-! out of 13.face3 -/
def wt0 (σ : IT) (ν : NT) (p : Nat) : Int32 := if σ 11 p ≤ σ 9 (ν 5 p) then σ 9 (ν 5 p) else σ 11 p
def wt1 (σ : IT) (ν : NT) (p : Nat) : Int32 := if wt0 σ ν p ≤ σ 0 0 then σ 0 0 else wt0 σ ν p
def wt2 (σ : IT) (ν : NT) (p : Nat) : Int32 := if wt1 σ ν p / 100 = σ 0 0 / 100 ∧ leftM σ = 0 then 100 * (σ 0 0 / 100 + 1) else wt1 σ ν p
def wtC (σ : IT) (p : Nat) : Bool := keptB (σ 14 p) (σ 15 p)
def wtL (σ : IT) (ν : NT) : Nat → Nat → Int32 → Int32
  | 0, _, w => w
  | k + 1, p, w => wtL σ ν k (p + 1) (if wtC σ p = true ∧ (w = -1 ∨ wt2 σ ν p < w) then wt2 σ ν p else w)
def oWaiting (σ : IT) (ν : NT) : Int32 := if wtL (T0 σ) ν (ν 0 0) 0 (-1) = -1 then -1 else wtL (T0 σ) ν (ν 0 0) 0 (-1) - σ 0 0

def usedF (σ : IT) : Int32 := if σ 31 0 = σ 0 0 / 100 then σ 32 0 + 1 else 1
def failF (σ : IT) (h : Nat) (o : Int32) : Int32 := if o = 2 then σ 8 h + 1 else 0
def chgF (σ : IT) (p : Nat) (o : Int32) : Int32 := σ 13 p + (if o = 1 then 1 else 0)
def paceF (σ : IT) (v c : Int32) : Int32 := (σ 1 0 * (v + 2) + c) / (c + 1)
def capF (σ : IT) (x : Int32) : Int32 := if σ 2 0 ≤ x then σ 2 0 else x
def powF (f : Int32) : Int32 := if (5 : Int32) ≤ f then 5 else f
/-- the visit that is made: v0 the budget's part, v1 the host's failures, v2 the page's counts, v3 .. -/
def vis0 (σ : IT) : IT := up2 (up2 (T0 σ) 32 0 (usedF σ)) 31 0 (σ 0 0 / 100)
def vis1 (σ : IT) (h : Nat) (o : Int32) : IT := up2 (vis0 σ) 8 h (failF σ h o)
def vis2 (σ : IT) (h p : Nat) (o : Int32) : IT := if o < 2 then up2 (up2 (up2 (vis1 σ h o) 12 p (σ 12 p + 1)) 13 p (chgF σ p o)) 11 p (σ 0 0 + capF σ (paceF σ (σ 12 p + 1) (chgF σ p o))) else vis1 σ h o
def vis3 (σ : IT) (h p : Nat) (o : Int32) : IT := up2 (up2 (vis2 σ h p o) 11 p (if o = 2 then σ 0 0 + σ 1 0 else vis2 σ h p o 11 p)) 14 p (if o = 3 then 1 else 0)
def vis4 (σ : IT) (h p : Nat) (o : Int32) : IT := up2 (vis3 σ h p o) 9 h (σ 0 0 + σ 7 h <<< (powF (failF σ h o) &&& 31))
def oVisit (σ : IT) (ν : NT) (p o : Int32) : Int32 × IT := if pageB ν p = true then (if inB o 0 3 = true then (if openB σ ν p.toNatClampNeg = true then (σ 0 0 + σ 7 (ν 5 p.toNatClampNeg) <<< (powF (failF σ (ν 5 p.toNatClampNeg) o) &&& 31), vis4 σ (ν 5 p.toNatClampNeg) p.toNatClampNeg o) else (0, T1 σ 3)) else (0, T1 σ 2)) else (0, T1 σ 1)


section
variable {σ : IT} {h p : Nat} {o : Int32}
theorem vis2_0 : vis2 σ h p o 0 0 = σ 0 0 := by simp only [vis2, vis1, vis0]; split <;> rfl
theorem vis2_1 : vis2 σ h p o 1 0 = σ 1 0 := by simp only [vis2, vis1, vis0]; split <;> rfl
theorem vis3_0 : vis3 σ h p o 0 0 = σ 0 0 := by simp only [vis3]; exact vis2_0
theorem vis3_7 : vis3 σ h p o 7 h = σ 7 h := by simp only [vis3, vis2, vis1, vis0]; split <;> rfl
theorem vis3_8 : vis3 σ h p o 8 h = failF σ h o := by simp only [vis3, vis2, vis1, vis0]; split <;> simp [up2]
theorem chg_ne {c : Nat} (hc : c < 1000) (e : σ 13 p = nI c) : ¬ chgF σ p o + 1 = 0 := by
  rw [chgF, e]
  by_cases q : o = 1
  · rw [if_pos q, nI_1, nI_1]; exact nI_ne0 (by omega) (by omega)
  · rw [if_neg q, show nI c + (0 : Int32) = nI c from Int32.add_zero _, nI_1]; exact nI_ne0 (by omega) (by omega)
end

def rstL (σ : IT) : Nat → IT
  | 0 => σ
  | n + 1 => up2 (rstL σ n) 36 n 0
def bsC (σ : IT) (p : Nat) : Option Nat → Bool
  | none => true
  | some j => addsB σ p j
def bsL (σ : IT) (ν : NT) : Nat → Nat → Option Nat → Option Nat
  | 0, _, f => f
  | k + 1, p, f => bsL σ ν k (p + 1) (if keptB (σ 14 p) (σ 15 p) = true ∧ bsC σ p f = true then some p else f)
def incS (σ : IT) : Option Nat → IT
  | none => σ
  | some j => up2 σ 36 j (σ 36 j + 1)
def shrL (σ : IT) (ν : NT) : Nat → IT
  | 0 => σ
  | n + 1 => incS (shrL σ ν n) (bsL (shrL σ ν n) ν (ν 0 0) 0 none)
def oShare (σ : IT) (ν : NT) (p c : Int32) : Int32 × IT := if pageB ν p = true then (if inB c 0 100 = true then (shrL (rstL (T0 σ) (ν 0 0)) ν c.toNatClampNeg 36 p.toNatClampNeg, shrL (rstL (T0 σ) (ν 0 0)) ν c.toNatClampNeg) else (0, T1 σ 2)) else (0, T1 σ 1)
theorem idx_cnt {c : Int32} (h : inB c 0 100 = true) : ∃ q, q ≤ 100 ∧ c = nI q := by
  simp only [inB, Bool.and_eq_true, Bool.not_eq_true', decide_eq_false_iff_not] at h
  obtain ⟨j, hj, rfl⟩ := nI_of h.1
  refine ⟨j, ?_, rfl⟩
  have h3 : ¬ nI 100 < nI j := h.2
  rw [nI_ltI (by decide) hj] at h3
  omega

/-! out of 14.find -/
def fdL (σ : IT) (ν : NT) (h : Int32) : Nat → Nat → Option Nat
  | 0, _ => none
  | k + 1, p => if nI (ν 5 p) = h ∧ sameT σ ν p = true then some p else fdL σ ν h k (p + 1)
/-- the text of page n -/
def txL (σ : IT) (n : Nat) : Nat → IT
  | 0 => σ
  | k + 1 => up2 (txL σ n k) 18 (30 * n + k) (txL σ n k 6 k)
theorem txL_k {σ : IT} {n : Nat} (k K i : Nat) (h : K ≠ 18) : txL σ n k K i = σ K i := by
  induction k with
  | zero => rfl
  | succ k ih => rw [txL, up2_k h]; exact ih
def fdX (σ : IT) (n : Nat) (r : Int32) : IT := up2 (up2 σ 10 n r) 11 n (σ 0 0)
def fdN (ν : NT) (h : Int32) : NT := up2 (up2 ν 3 (ν 0 0) (ν 1 0)) 5 (ν 0 0) h.toNatClampNeg
def fdS (σ : IT) (ν : NT) (h r : Int32) : IT := up2 (fdX (txL (T0 σ) (ν 0 0) (ν 1 0)) (ν 0 0) r) 15 (ν 0 0) (zb (repM (fdX (txL (T0 σ) (ν 0 0) (ν 1 0)) (ν 0 0) r) (fdN ν h)))
def fdM (σ : IT) (ν : NT) (h r : Int32) : NT := up2 (layN (fdX (txL (T0 σ) (ν 0 0) (ν 1 0)) (ν 0 0) r 6) (fdN ν h) (fdN ν h 1 0)) 0 0 (ν 0 0 + 1)
def fdA (σ : IT) (ν : NT) (h r : Int32) : Option Nat → Int32 × IT × NT
  | some p => (nI p, T0 σ, ν)
  | none => if ν 0 0 = 30 then (0, T1 σ 3, ν) else (nI (ν 0 0), fdS σ ν h r, fdM σ ν h r)
def oFind (σ : IT) (ν : NT) (h r : Int32) : Int32 × IT × NT := if hostB h = true then (if inB r 0 9 = true then fdA σ ν h r (fdL (T0 σ) ν h (ν 0 0) 0) else (0, T1 σ 2, ν)) else (0, T1 σ 1, ν)

/-! out of 25.model0 -/
/-- the model at the start -/
def s0M : IT := fun k i => if k = 7 then 5 else if k = 1 then 10 else if k = 2 then 500 else if k = 3 then 20 else 0

