/-! the law's own methods that catch: rows -/
/-- the three classes told apart -/
def wN (U : State) : Prop := va_Nc xcA xcI U ∧ va_Nc xcL xcI U ∧ va_Nc xcL xcA U
def yK (A : Nat → Prop) (U : State) (H : Heap) : Prop := xK A U H ∧ wN U
theorem wN.moved {u U : State} (hvm : u.vm.Alike U.vm) (h : wN u) : wN U := ⟨h.1.moved hvm, h.2.1.moved hvm, h.2.2.moved hvm⟩
theorem y_blind {D : va_G} {cy : Nat → ClassId} {av : List Value} {A9 : Nat → Prop} {B : Heap → Prop} : FrameBlind (va_Pc av (fun U => gK D cy U ∧ yK A9 U U.heap ∧ B U.heap)) := fun a U g mk q => ⟨q.1, va_K.moved (u := U) (U := U.calling g mk a) (Vm.Alike.refl U.vm) q.2.1, ⟨xK.same (u := U) (U := U.calling g mk a) rfl q.2.2.1.1, wN.moved (u := U) (U := U.calling g mk a) (Vm.Alike.refl U.vm) q.2.2.1.2⟩, q.2.2.2⟩
theorem y_preS {D : va_G} {cy : Nat → ClassId} {s : State} {H : Heap} {As : List Value} {A9 : Nat → Prop} {B : Heap → Prop} (hK : gK D cy s) (hX : yK A9 s H) (hB : B H) : PreS s H (va_Pc As (fun U => gK D cy U ∧ yK A9 U U.heap ∧ B U.heap)) As :=
  ⟨y_blind, fun U hU hW => ⟨rfl, va_K.moved hW.alike hK, ⟨by rw [hU]; exact xK.warm hW hX.1, wN.moved hW.alike hX.2⟩, by rw [hU]; exact hB⟩⟩
/-- the class's cells, the row out, what is new -/
def wO (n : Nat) (ad : NT) (o sz : Nat) : Nat → Prop := fun q => wA (cC n) ad sz q ∨ q = o
/-- the class's world and the row out -/
def WO (D : va_G) (cy : Nat → ClassId) (ad : NT) (τ : IT) (ν : NT) (o : Nat) (x : Int64) : Heap → Prop := fun H => CW D cy ad τ ν H ∧ ∃ f : Nat → Int64, f 0 = x ∧ oA D o (.inl (cy 5, 1, .inr (.inl f))) H
theorem CW.keep {D : va_G} {cy : Nat → ClassId} {ad : NT} {τ : IT} {ν : NT} {H H1 : Heap} (h : CW D cy ad τ ν H) (hk : ∀ q : Nat, q < H.size → H1[q]? = H[q]?) : CW D cy ad τ ν H1 := wP.kept h (fun k i hi => hk _ (wP.lt h hi))
theorem oA.keep {D : va_G} {a : Nat} {e : va_E} {H H1 : Heap} (h : oA D a e H) (hk : ∀ q : Nat, q < H.size → H1[q]? = H[q]?) : oA D a e H1 := va_at.kept h (hk _ (va_at.lt h))
section WRP
variable {p : Program} {l : Launch} {e : Env} {R : Room} {s : State} {m : MethodId} {args : Array Value} {below : List Frame} {meth : Method} {c : Code} {Q : State → Prop}
variable {cc : ByteArray} {pc : Nat} {ls : Array Slot} {rest st0 : List Value} {D : va_G} {cy : Nat → ClassId} {args0 : Array Value}
theorem w_ofWH {y : MethodName} {ws ws' : List Cond} {rm : Room} {Pc : Array Value → State → Prop} {Qc : Array Value → State → Outcome → State → Prop} {mc ms : Nat} {free : Addr → Prop} {maxL : Nat} {ret : Option FieldType} {hh : List (Nat × Nat × Nat × Nat)}
    (hy : plainName y.cls = true) (hw : ws = Cond.codeWith y cc maxL ret hh :: ws')
    (body : ∀ p e s m args below meth c s₁, BodyLoose p l y (headSpec ws rm) cc maxL ret e s m args below meth c s₁ → c.maxLocals = maxL → Pc args s →
      W p l e (headSpec ws rm).room s m args below meth c s.heap [] 0 0 (MQ below Qc args s mc ms free) (entryFrame m args maxL)) : Met l y ws rm Pc Qc mc ms free := by
  refine MetFree.of_bodyS (code := cc) (maxLocals := maxL) (ret := ret) hy ?_ ?_
  · intro args s m h hn
    obtain ⟨m9, meth, c, hn9, h1, h2, h3, h4, -, h5, h6, -⟩ := Cond.codeWith_spec (atoms_spec (ws := ws) h _ (by rw [hw]; exact List.mem_cons_self))
    cases hn.symm.trans hn9
    exact ⟨meth, c, h1, h2, h3, h4, h5, h6⟩
  · intro p e s m args below meth c s₁ B hml hP _
    obtain ⟨t, a1, o, b1, b2, b3⟩ := body p e s m args below meth c s₁ B hml hP s₁ (by rw [B.state]; rfl) (Stand.of_body B)
    exact ⟨t, o, a1, b1, b2, b3⟩
/-- behind the call of the class: an answer, or a throw to be caught -/
theorem w_call {v : Option Value} {OK : Prop} {B : Heap → Prop} {A1 : Nat → Prop} {P : String → Prop} {free : Addr → Prop} {mc ms : Nat} (hr : vx_Run p l e R s m args below meth c s.heap [] 0 0 mc ms (F0 m pc ls st0) rest (kQ OK (uQ v B A1) args0) (xQ P) free)
    (kx : ∀ (E : String) (ce : Cell) (q9 : Addr) (H1 : Heap) (locs1 : List Loc), P E → s.heap.size ≤ H1.size → (∀ q : Nat, q < s.heap.size → H1[q]? = s.heap[q]?) → (∀ z ∈ locs1, free z.base) → H1[q9]? = some ce → ce.vm = .none → s.vm.findClass E = some ce.cls → vx_W p l e R s m args below meth c H1 locs1 (0 + mc) (0 + ms) Q (F0 m pc ls rest) q9)
    (kk : OK → ∀ (H1 : Heap) (locs1 : List Loc), B H1 → s.heap.size ≤ H1.size → (∀ q : Nat, q < s.heap.size → ¬ A1 q → H1[q]? = s.heap[q]?) → (∀ z ∈ locs1, free z.base) → W p l e R s m args below meth c H1 locs1 (0 + mc) (0 + ms) Q (F0 m (pc + 3) ls (v.toList ++ rest))) : W p l e R s m args below meth c s.heap [] 0 0 Q (F0 m pc ls st0) := by
  intro T hT X
  rcases hr T hT X with ⟨v', st₀, t, T', L, h0, X', hL, e1, e2, ⟨hok, hv, hB, hz, hk⟩, st⟩ | ⟨q, st₀, t, T', L, E, ce, h0, X', hL, e1, e2, ⟨hPE, hz, hk⟩, hce, hcv, hcl, st⟩
  · cases hv
    rw [h0] at hz hk
    obtain ⟨t2, a1, b1⟩ := kk hok T'.heap ([] ++ L) (by rw [e1]; exact hB) (by rw [e1]; exact hz) (fun q h1 h2 => by rw [e1]; exact hk q h1 h2) hL T' rfl X'
    exact ⟨t2, st t2 a1, b1⟩
  · rw [h0] at hz hk
    obtain ⟨t2, a1, b1⟩ := kx E ce q T'.heap ([] ++ L) hPE (by rw [e1]; exact hz) (fun q h1 => by rw [e1]; exact hk q h1) hL (by rw [e1]; exact hce) hcv hcl T' rfl X'
    exact ⟨t2, st.trans a1, b1⟩
theorem w_call1 {v : Value} {OK : Prop} {B : Heap → Prop} {A1 : Nat → Prop} {P : String → Prop} {free : Addr → Prop} {mc ms : Nat} (hr : vx_Run p l e R s m args below meth c s.heap [] 0 0 mc ms (F0 m pc ls st0) rest (kQ OK (uQ (some v) B A1) args0) (xQ P) free)
    (kx : ∀ (E : String) (ce : Cell) (q9 : Addr) (H1 : Heap) (locs1 : List Loc), P E → s.heap.size ≤ H1.size → (∀ q : Nat, q < s.heap.size → H1[q]? = s.heap[q]?) → (∀ z ∈ locs1, free z.base) → H1[q9]? = some ce → ce.vm = .none → s.vm.findClass E = some ce.cls → vx_W p l e R s m args below meth c H1 locs1 (0 + mc) (0 + ms) Q (F0 m pc ls rest) q9)
    (kk : OK → ∀ (H1 : Heap) (locs1 : List Loc), B H1 → s.heap.size ≤ H1.size → (∀ q : Nat, q < s.heap.size → ¬ A1 q → H1[q]? = s.heap[q]?) → (∀ z ∈ locs1, free z.base) → W p l e R s m args below meth c H1 locs1 (0 + mc) (0 + ms) Q (F0 m (pc + 3) ls (v :: rest))) : W p l e R s m args below meth c s.heap [] 0 0 Q (F0 m pc ls st0) := w_call hr kx kk
theorem w_call0 {OK : Prop} {B : Heap → Prop} {A1 : Nat → Prop} {P : String → Prop} {free : Addr → Prop} {mc ms : Nat} (hr : vx_Run p l e R s m args below meth c s.heap [] 0 0 mc ms (F0 m pc ls st0) rest (kQ OK (uQ none B A1) args0) (xQ P) free)
    (kx : ∀ (E : String) (ce : Cell) (q9 : Addr) (H1 : Heap) (locs1 : List Loc), P E → s.heap.size ≤ H1.size → (∀ q : Nat, q < s.heap.size → H1[q]? = s.heap[q]?) → (∀ z ∈ locs1, free z.base) → H1[q9]? = some ce → ce.vm = .none → s.vm.findClass E = some ce.cls → vx_W p l e R s m args below meth c H1 locs1 (0 + mc) (0 + ms) Q (F0 m pc ls rest) q9)
    (kk : OK → ∀ (H1 : Heap) (locs1 : List Loc), B H1 → s.heap.size ≤ H1.size → (∀ q : Nat, q < s.heap.size → ¬ A1 q → H1[q]? = s.heap[q]?) → (∀ z ∈ locs1, free z.base) → W p l e R s m args below meth c H1 locs1 (0 + mc) (0 + ms) Q (F0 m (pc + 3) ls rest)) : W p l e R s m args below meth c s.heap [] 0 0 Q (F0 m pc ls st0) := w_call hr kx kk
/-- .. of a method that reads -/
theorem w_callR {v : Value} {OK : Prop} {P : String → Prop} {mc ms : Nat} (hr : vx_Run p l e R s m args below meth c s.heap [] 0 0 mc ms (F0 m pc ls st0) rest (kQ OK (rQ (some v)) args0) (xQ P) (fun _ => False))
    (kx : ∀ (E : String) (ce : Cell) (q9 : Addr) (H1 : Heap) (locs1 : List Loc), P E → s.heap.size ≤ H1.size → (∀ q : Nat, q < s.heap.size → H1[q]? = s.heap[q]?) → (∀ z ∈ locs1, False) → H1[q9]? = some ce → ce.vm = .none → s.vm.findClass E = some ce.cls → vx_W p l e R s m args below meth c H1 locs1 (0 + mc) (0 + ms) Q (F0 m pc ls rest) q9)
    (kk : OK → ∀ (locs1 : List Loc), (∀ z ∈ locs1, False) → W p l e R s m args below meth c s.heap locs1 (0 + mc) (0 + ms) Q (F0 m (pc + 3) ls (v :: rest))) : W p l e R s m args below meth c s.heap [] 0 0 Q (F0 m pc ls st0) := by
  intro T hT X
  rcases hr T hT X with ⟨v', st₀, t, T', L, h0, X', hL, e1, e2, ⟨hok, hv, hh⟩, st⟩ | ⟨q, st₀, t, T', L, E, ce, h0, X', hL, e1, e2, ⟨hPE, hz, hk⟩, hce, hcv, hcl, st⟩
  · cases hv
    obtain ⟨t2, a1, b1⟩ := kk hok ([] ++ L) hL T' (by rw [e1, hh, h0]) X'
    exact ⟨t2, st t2 a1, b1⟩
  · rw [h0] at hz hk
    obtain ⟨t2, a1, b1⟩ := kx E ce q T'.heap ([] ++ L) hPE (by rw [e1]; exact hz) (fun q h1 => by rw [e1]; exact hk q h1) hL (by rw [e1]; exact hce) hcv hcl T' rfl X'
    exact ⟨t2, st.trans a1, b1⟩
end WRP
