/-! codes of calls -/
def k1 (a : Bool) : Int32 := if a = true then 0 else 1
def k2 (a b : Bool) : Int32 := if a = true then (if b = true then 0 else 2) else 1
def k3 (a b c : Bool) : Int32 := if a = true then (if b = true then (if c = true then 0 else 3) else 2) else 1
def kPaces (a b : Int32) : Int32 := if inB a 1 1000 = true ∧ inB b a 5000 = true then 0 else 1
def kType (ν : NT) (c : Int32) : Int32 := if c = 47 ∨ inB c 97 122 = true then (if ν 1 0 = 30 then 2 else 0) else 1
def kPass (τ : IT) (t : Int32) : Int32 := k2 (inB t 1 1000) (decide (τ 0 0 + t ≤ 100000))
theorem w_in : vp_in 0 1 := by unfold vp_in; decide
theorem k1_0 {a : Bool} (h : a = true) : k1 a = 0 := if_pos h
theorem k1_1 {a : Bool} (h : a = false) : k1 a = 1 := by subst h; rfl
theorem k2_0 {a b : Bool} (h : a = true) (g : b = true) : k2 a b = 0 := by subst h; subst g; rfl
theorem k2_1 {a b : Bool} (h : a = false) : k2 a b = 1 := by subst h; rfl
theorem k2_2 {a b : Bool} (h : a = true) (g : b = false) : k2 a b = 2 := by subst h; subst g; rfl
theorem k3_0 {a b c : Bool} (h : a = true) (g : b = true) (f : c = true) : k3 a b c = 0 := by subst h; subst g; subst f; rfl
theorem k3_1 {a b c : Bool} (h : a = false) : k3 a b c = 1 := by subst h; rfl
theorem k3_2 {a b c : Bool} (h : a = true) (g : b = false) : k3 a b c = 2 := by subst h; subst g; rfl
theorem k3_3 {a b c : Bool} (h : a = true) (g : b = true) (f : c = false) : k3 a b c = 3 := by subst h; subst g; subst f; rfl

def fdR (ν : NT) : Option Nat → Bool
  | some _ => true
  | none => decide (ν 0 0 < 30)
theorem fdR_f {ν : NT} {x : Option Nat} (h : x = none) (g : ν 0 0 = 30) : fdR ν x = false := by subst h; exact decide_eq_false (by omega)
theorem fdR_t {ν : NT} {x : Option Nat} (h : x ≠ none ∨ ν 0 0 < 30) : fdR ν x = true := by
  cases x with
  | some a => rfl
  | none => exact decide_eq_true (h.elim (fun z => absurd rfl z) id)
theorem xc_preV {D : va_G} {cy : Nat → ClassId} {s : State} {H : Heap} {C : String} {T : u_T} {N : Nat} {b ci : Nat} {fs : List Value} {As : List Value} {A9 : Nat → Prop} {B : Heap → Prop} (hK : gK D cy s) (hX : xK A9 s H) (hC : cK s) (hB : B H) (hc : oA D b (.inr (ci, fs)) H) (hcl : vwCl[ci]? = some (C, T, N)) : PreV s H C b (va_Pc (.ref b :: As) (fun U => gK D cy U ∧ xK A9 U U.heap ∧ cK U ∧ B U.heap)) As :=
  ⟨fun a U g mk q => ⟨q.1, va_K.moved (u := U) (U := U.calling g mk a) (Vm.Alike.refl U.vm) q.2.1, xK.same (u := U) (U := U.calling g mk a) rfl q.2.2.1, ⟨va_Nw.same (u := U) rfl rfl q.2.2.2.1.1, va_Nw.same (u := U) rfl rfl q.2.2.2.1.2⟩, q.2.2.2.2⟩, va_recv (q := (C, T, N)) hK (g1 hc) hcl (q0 := 0) rfl, fun U hU hW => ⟨rfl, va_K.moved hW.alike hK, by rw [hU]; exact xK.warm hW hX, ⟨va_Nw.warmC hW hC.1, va_Nw.warmC hW hC.2⟩, by rw [hU]; exact hB⟩⟩

