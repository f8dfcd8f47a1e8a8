/-! class and model: segments as characters come -/
/-- segments laid depend on the characters ahead alone -/
theorem layN_cg {f g : Nat → Int32} {μ η : NT} : ∀ k, (∀ j, j < k → f j = g j) → layN f μ k 6 0 = layN g η k 6 0 ∧ ∀ j, j < layN f μ k 6 0 → layN f μ k 7 j = layN g η k 7 j ∧ layN f μ k 8 j = layN g η k 8 j := by
  intro k
  induction k with
  | zero =>
    intro _
    rw [layN, layN, up2_s, up2_s]
    exact ⟨rfl, fun j h => absurd h (Nat.not_lt_zero j)⟩
  | succ k ih =>
    intro h
    obtain ⟨i6, i78⟩ := ih (fun j hj => h j (by omega))
    have sg := layN_seg (f := f) (ν := μ) k
    have ek := h k (Nat.lt_succ_self k)
    have ep : 0 < k → f (k - 1) = g (k - 1) := fun hk => h (k - 1) (by omega)
    rw [layN, layN, ← ek]
    by_cases c : f k = 47
    · rw [if_pos c, if_pos c]; exact ⟨i6, i78⟩
    · rw [if_neg c, if_neg c]
      have ed : (k = 0 ∨ f (k - 1) = 47) ↔ (k = 0 ∨ g (k - 1) = 47) := by
        by_cases hk : k = 0
        · exact ⟨fun _ => Or.inl hk, fun _ => Or.inl hk⟩
        · rw [ep (by omega)]
      generalize hL : layN f μ k = L at *
      generalize hM : layN g η k = M at *
      by_cases d : k = 0 ∨ f (k - 1) = 47
      · rw [if_pos d, if_pos (ed.mp d), ← i6]
        refine ⟨by rw [up2_k (by decide), up2_s, up2_k (by decide), up2_s], fun j hj => ?_⟩
        rw [up2_k (by decide), up2_s] at hj
        by_cases e : j = L 6 0
        · subst e
          refine ⟨?_, by rw [up2_s, up2_s]⟩
          rw [up2_k (by decide), up2_k (by decide), up2_k (by decide), up2_s, up2_k (by decide), up2_k (by decide), up2_k (by decide), up2_s]
        · obtain ⟨a7, a8⟩ := i78 j (by omega)
          refine ⟨?_, ?_⟩
          · rw [up2_k (by decide), up2_k (by decide), up2_k (by decide), up2_i e, up2_k (by decide), up2_k (by decide), up2_k (by decide), up2_i e]; exact a7
          · rw [up2_i e, up2_k (by decide), up2_i e, up2_k (by decide), up2_i e, up2_k (by decide), up2_i e, up2_k (by decide)]; exact a8
      · have h1 : 1 ≤ L 6 0 := sg.2.2 ⟨by omega, fun e => d (Or.inr e)⟩
        rw [if_neg d, if_neg (mt ed.mpr d), ← i6]
        refine ⟨by rw [up2_k (by decide), up2_k (by decide)]; exact i6, fun j hj => ?_⟩
        rw [up2_k (by decide)] at hj
        obtain ⟨a7, a8⟩ := i78 j hj
        obtain ⟨_, b8⟩ := i78 (L 6 0 - 1) (by omega)
        refine ⟨by rw [up2_k (by decide), up2_k (by decide)]; exact a7, ?_⟩
        by_cases e : j = L 6 0 - 1
        · subst e; rw [up2_s, up2_s, b8]
        · rw [up2_i e, up2_i e]; exact a8
/-- the class's starts are where the model's segments begin -/
def segR (τ : IT) (ν : NT) (f : Nat → Int32) (μ : NT) : Prop := ν 2 0 = layN f μ (ν 1 0) 6 0 ∧ ∀ j, j < ν 2 0 → τ 22 j = nI (layN f μ (ν 1 0) 7 j)
theorem segR_type {τ : IT} {ν : NT} {μ η : NT} {c : Int32} (h : segR τ ν (τ 6) μ) : segR (addT τ ν c) (addN τ ν c) (addT τ ν c 6) η := by
  have e6 : ∀ j, addT τ ν c 6 j = if j = ν 1 0 then c else τ 6 j := by
    intro j
    rw [addT]
    split
    · by_cases e : j = ν 1 0
      · subst e; rw [up2_s, if_pos rfl]
      · rw [up2_i e, if_neg e]; rfl
    · by_cases e : j = ν 1 0
      · subst e; rw [up2_s, if_pos rfl]
      · rw [up2_i e, if_neg e]
  obtain ⟨h1, h2⟩ := h
  obtain ⟨g6, g78⟩ := layN_cg (f := τ 6) (g := addT τ ν c 6) (μ := μ) (η := η) (ν 1 0) (fun j hj => by rw [e6, if_neg (by omega)])
  have ec : addT τ ν c 6 (ν 1 0) = c := by rw [e6, if_pos rfl]
  have en : addN τ ν c 1 0 = ν 1 0 + 1 := by rw [addN]; split <;> rfl
  have ep : 0 < ν 1 0 → addT τ ν c 6 (ν 1 0 - 1) = τ 6 (ν 1 0 - 1) := fun hp => by rw [e6, if_neg (by omega)]
  have e7 : ∀ j, j < ν 2 0 → τ 22 j = nI (layN (addT τ ν c 6) η (ν 1 0) 7 j) := fun j hj => by rw [h2 j hj, (g78 j (by omega)).1]
  rw [segR, en, layN, ec]
  by_cases c1 : c = 47
  · have sb : startB (τ 6) (ν 1 0) c = false := by rw [startB, decide_eq_false (fun z => z c1), Bool.false_and]
    have t1 : addT τ ν c = up2 τ 6 (ν 1 0) c := by rw [addT, if_neg (by rw [sb]; decide)]
    have n1 : addN τ ν c = up2 ν 1 0 (ν 1 0 + 1) := by rw [addN, if_neg (by rw [sb]; decide)]
    have n2 : addN τ ν c 2 0 = ν 2 0 := by rw [n1]; rfl
    have t2 : ∀ j, addT τ ν c 22 j = τ 22 j := fun j => by rw [t1]; rfl
    rw [if_pos c1, n2]
    exact ⟨h1.trans g6, fun j hj => by rw [t2]; exact e7 j hj⟩
  · rw [if_neg c1]
    by_cases d : ν 1 0 = 0 ∨ addT τ ν c 6 (ν 1 0 - 1) = 47
    · have sb : startB (τ 6) (ν 1 0) c = true := by
        rw [startB, decide_eq_true c1, Bool.true_and]
        by_cases z : ν 1 0 = 0
        · rw [decide_eq_true z]; rfl
        · rw [← ep (by omega), decide_eq_true (d.elim (fun y => absurd y z) id), Bool.or_true]
      have t1 : addT τ ν c = up2 (up2 τ 22 (ν 2 0) (nI (ν 1 0))) 6 (ν 1 0) c := by rw [addT, if_pos sb]
      have n1 : addN τ ν c = up2 (up2 ν 2 0 (ν 2 0 + 1)) 1 0 (ν 1 0 + 1) := by rw [addN, if_pos sb]
      have n2 : addN τ ν c 2 0 = ν 2 0 + 1 := by rw [n1]; rfl
      have t2 : ∀ j, addT τ ν c 22 j = up2 τ 22 (ν 2 0) (nI (ν 1 0)) 22 j := fun j => by rw [t1]; rfl
      rw [if_pos d, n2, ← g6, ← h1]
      refine ⟨by rw [up2_k (by decide), up2_s], fun j hj => ?_⟩
      rw [t2, up2_k (k' := 7) (k := 8) (by decide), up2_k (k' := 7) (k := 6) (by decide), up2_k (k' := 7) (k := 8) (by decide)]
      by_cases e : j = ν 2 0
      · subst e; rw [up2_s, up2_s]
      · rw [up2_i e, up2_i e]; exact e7 j (by omega)
    · have sb : startB (τ 6) (ν 1 0) c = false := by
        rw [startB, decide_eq_true c1, Bool.true_and, decide_eq_false (fun z => d (Or.inl z)), Bool.false_or]
        refine decide_eq_false (fun z => d (Or.inr ?_))
        rw [ep (Nat.pos_of_ne_zero fun y => d (Or.inl y))]; exact z
      have t1 : addT τ ν c = up2 τ 6 (ν 1 0) c := by rw [addT, if_neg (by rw [sb]; decide)]
      have n1 : addN τ ν c = up2 ν 1 0 (ν 1 0 + 1) := by rw [addN, if_neg (by rw [sb]; decide)]
      have n2 : addN τ ν c 2 0 = ν 2 0 := by rw [n1]; rfl
      have t2 : ∀ j, addT τ ν c 22 j = τ 22 j := fun j => by rw [t1]; rfl
      rw [if_neg d, n2]
      refine ⟨by rw [up2_k (by decide)]; exact h1.trans g6, fun j hj => ?_⟩
      rw [t2, up2_k (by decide)]
      exact e7 j hj
