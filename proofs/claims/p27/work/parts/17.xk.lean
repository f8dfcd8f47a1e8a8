/-! what a method that throws needs of the machine, and its rows -/
def xcI : String := "java/lang/IndexOutOfBoundsException"
def xcA : String := "java/lang/IllegalArgumentException"
def xcL : String := "java/lang/IllegalStateException"
def xcAll : List String := [xcI, xcA, xcL]
def xcUp : List String := ["java/lang/RuntimeException", "java/lang/Exception", Bundle.tN]
def xcTxt : List (Nat × String) := [(41, "neither a letter a to z nor a slash"), (52, "the address has all its characters"), (75, "the rest is out of range"), (80, "the shortest pace is out of range"), (82, "the longest pace is out of range"), (84, "the budget is out of range"), (106, "there are as many pages as there can be"), (151, "there is no such outcome"), (153, "the page may not be visited now"), (169, "the ticks are out of range"), (172, "the tick would be above the last one"), (190, "the visits are out of range"), (203, "there is no such host"), (206, "there is no such page"), (208, "the rank is out of range")]
/-- the two static fields of Throwable, the three classes against themselves, the texts; H: the heap now -/
def xK (A : Nat → Prop) (U : State) (H : Heap) : Prop := vx_Zq Bundle.tN "UNASSIGNED_STACK" Bundle.steD A U H ∧ vx_Zq Bundle.tN "SUPPRESSED_SENTINEL" Bundle.listD A U H ∧ (∀ X ∈ xcAll, va_Nw (.castable X X) U) ∧ (∀ X ∈ xcUp, va_Nw (.declares (Bundle.initS X)) U) ∧ ∀ q ∈ xcTxt, ∃ sa, vk_R "Politecrawl" q.1 q.2 sa U
theorem xK.same {A : Nat → Prop} {u U : State} {H : Heap} (hv : u.vm = U.vm) (h : xK A u H) : xK A U H := by
  have ha : u.vm.Alike U.vm := by rw [hv]; exact Vm.Alike.refl U.vm
  exact ⟨vx_Zq.moved ha h.1, vx_Zq.moved ha h.2.1, fun X hX => va_Nw.same rfl hv (h.2.2.1 X hX), fun X hX => va_Nw.same rfl hv (h.2.2.2.1 X hX), fun q hq => by obtain ⟨sa, hs⟩ := h.2.2.2.2 q hq; exact ⟨sa, vk_R.same hv.symm hs⟩⟩
theorem xK.warm {A : Nat → Prop} {u U : State} {H : Heap} (hW : u.WarmedH U.vm) (h : xK A u H) : xK A U H :=
  ⟨vx_Zq.moved hW.alike h.1, vx_Zq.moved hW.alike h.2.1, fun X hX => va_Nw.warmC hW (h.2.2.1 X hX), fun X hX => va_Nw.warmD hW (h.2.2.2.1 X hX), fun q hq => by obtain ⟨sa, hs⟩ := h.2.2.2.2 q hq; exact ⟨sa, vk_R.warm hW hs⟩⟩
theorem xK.kept {A : Nat → Prop} {U : State} {H H1 : Heap} (h : xK A U H) (hq : ∀ a : Nat, a < H.size → ¬ A a → H1[a]? = H[a]?) : xK A U H1 := ⟨h.1.kept hq, h.2.1.kept hq, h.2.2.1, h.2.2.2⟩
/-- an answer, where OK -/
def kQ (OK : Prop) (Qc : Array Value → State → Outcome → State → Prop) : Array Value → State → Outcome → State → Prop := fun a st o t => OK ∧ Qc a st o t
/-- a throw: the heap that was is kept -/
def xQ (P : String → Prop) : String → State → State → Prop := fun E st t => P E ∧ st.heap.size ≤ t.heap.size ∧ ∀ q : Nat, q < st.heap.size → t.heap[q]? = st.heap[q]?
theorem x_blind {D : va_G} {cy : Nat → ClassId} {av : List Value} {A9 : Nat → Prop} {B : Heap → Prop} : FrameBlind (va_Pc av (fun U => gK D cy U ∧ xK A9 U U.heap ∧ B U.heap)) := fun a U g mk q => ⟨q.1, va_K.moved (u := U) (U := U.calling g mk a) (Vm.Alike.refl U.vm) q.2.1, xK.same (u := U) (U := U.calling g mk a) rfl q.2.2.1, q.2.2.2⟩
theorem x_preV {D : va_G} {cy : Nat → ClassId} {s : State} {H : Heap} {C : String} {T : u_T} {N : Nat} {b ci : Nat} {fs : List Value} {As : List Value} {A9 : Nat → Prop} {B : Heap → Prop} (hK : gK D cy s) (hX : xK A9 s H) (hB : B H) (hc : oA D b (.inr (ci, fs)) H) (hcl : vwCl[ci]? = some (C, T, N)) : PreV s H C b (va_Pc (.ref b :: As) (fun U => gK D cy U ∧ xK A9 U U.heap ∧ B U.heap)) As :=
  ⟨x_blind, va_recv (q := (C, T, N)) hK (g1 hc) hcl (q0 := 0) rfl, fun U hU hW => ⟨rfl, va_K.moved hW.alike hK, by rw [hU]; exact xK.warm hW hX, by rw [hU]; exact hB⟩⟩
theorem x_preS {D : va_G} {cy : Nat → ClassId} {s : State} {H : Heap} {As : List Value} {A9 : Nat → Prop} {B : Heap → Prop} (hK : gK D cy s) (hX : xK A9 s H) (hB : B H) : PreS s H (va_Pc As (fun U => gK D cy U ∧ xK A9 U U.heap ∧ B U.heap)) As :=
  ⟨x_blind, fun U hU hW => ⟨rfl, va_K.moved hW.alike hK, by rw [hU]; exact xK.warm hW hX, by rw [hU]; exact hB⟩⟩
section XR
variable {p : Program} {l : Launch} {e : Env} {R : Room} {s : State} {m : MethodId} {args : Array Value} {below : List Frame} {meth : Method} {c : Code} {H : Heap} {locs : List Loc} {cells slots : Nat} {Q Q9 : State → Prop}
variable {cc : ByteArray} {pc : Nat} {ls : Array Slot} {rest st0 : List Value} {D : va_G} {cy : Nat → ClassId} {A A9 : Nat → Prop} {H0 : Heap} {args0 : Array Value} {g : JFrame}
theorem g_mono (h : ∀ t, Q t → Q9 t) (k : W p l e R s m args below meth c H locs cells slots Q g) : W p l e R s m args below meth c H locs cells slots Q9 g := fun T hT X => by
  obtain ⟨t, a1, b1⟩ := k T hT X
  exact ⟨t, a1, h t b1⟩
/-- an end without a throw -/
theorem x_ret {OK : Prop} {Qc : Array Value → State → Outcome → State → Prop} {XC : String → State → State → Prop} {mc ms : Nat} {free : Addr → Prop} (hok : OK) (k : W p l e R s m args below meth c H locs cells slots (MQ below Qc args s mc ms free) g) : W p l e R s m args below meth c H locs cells slots (vx_MQ below (kQ OK Qc) XC args s mc ms free) g :=
  vx_ret (g_mono (fun t ht => by obtain ⟨o, h1, h2, h3, h4⟩ := ht; exact ⟨o, h1, h2, ⟨hok, h3⟩, h4⟩) k)
theorem x_iret {v V : Int32} {mc ms : Nat} (hx : p.tables.exec = Jvm.exec) (hb : c.code = cc) (hr : meth.sig.returnType = some .int) (hlocks : meth.locks = false) (hc : cells ≤ mc) (hs : slots ≤ ms) (hdg : decode cc pc = .ok (.ireturn, 1)) (hv : v = V) : W p l e R s m args below meth c s.heap [] cells slots (MQ below (rQ (some (.int V))) args s mc ms (fun _ => False)) (F0 m pc ls [.int v]) :=
  W.widen (k := mc) (n := ms) hc hs (W.iret hx hb hr (fun t ht hW => ⟨by rw [hv], ht⟩) (fun q h => by cases h) hdg hlocks)
theorem x_zret {v V : Int32} {ty : FieldType} {mc ms : Nat} (hx : p.tables.exec = Jvm.exec) (hb : c.code = cc) (hr : meth.sig.returnType = some ty) (hlocks : meth.locks = false) (hn : narrow ty (.int v) = .int v) (hc : cells ≤ mc) (hs : slots ≤ ms) (hdg : decode cc pc = .ok (.ireturn, 1)) (hv : v = V) : W p l e R s m args below meth c s.heap [] cells slots (MQ below (rQ (some (.int V))) args s mc ms (fun _ => False)) (F0 m pc ls [.int v]) :=
  W.widen (k := mc) (n := ms) hc hs (W.zret hx hb hr hn (fun t ht hW => ⟨by rw [hv], ht⟩) (fun q h => by cases h) hdg hlocks)
theorem x_aret {v V : Value} {C : String} {mc ms : Nat} (hx : p.tables.exec = Jvm.exec) (hb : c.code = cc) (hr : meth.sig.returnType = some (.object C)) (hlocks : meth.locks = false) (hvr : v = .null ∨ ∃ a, v = .ref a) (hc : cells ≤ mc) (hs : slots ≤ ms) (hdg : decode cc pc = .ok (.areturn, 1)) (hv : v = V) : W p l e R s m args below meth c s.heap [] cells slots (MQ below (rQ (some V)) args s mc ms (fun _ => False)) (F0 m pc ls [v]) :=
  W.widen (k := mc) (n := ms) hc hs (W.aret hx hb hr (Or.inl ⟨_, rfl⟩) hvr (fun t ht hW => ⟨by rw [hv], ht⟩) (fun q h => by cases h) hdg hlocks)
theorem x_vret {mc ms : Nat} (hx : p.tables.exec = Jvm.exec) (hb : c.code = cc) (hr : meth.sig.returnType = none) (hlocks : meth.locks = false) (hc : cells ≤ mc) (hs : slots ≤ ms) (hdg : decode cc pc = .ok (.return_, 1)) : W p l e R s m args below meth c s.heap [] cells slots (MQ below (rQ none) args s mc ms (fun _ => False)) (F0 m pc ls []) :=
  W.widen (k := mc) (n := ms) hc hs (W.vret hx hb hr (fun t ht hW => ⟨rfl, ht⟩) (fun q h => by cases h) hdg hlocks)
/-- behind a call, at the heap of the entry, of a method that reads and may throw: what it throws goes out -/
theorem x_call {v : Option Value} {OK : Prop} {P P9 : String → Prop} {Qc : Array Value → State → Outcome → State → Prop} {free9 : Addr → Prop} {mc ms mc9 ms9 : Nat} (hr : vx_Run p l e R s m args below meth c s.heap [] cells slots mc ms (F0 m pc ls st0) rest (kQ OK (rQ v) args0) (xQ P) (fun _ => False)) (hlocks : meth.locks = false) (ht : ∀ x ∈ c.exceptionTable.toList, False) (hP : ∀ E, P E → P9 E) (hc : cells + mc ≤ mc9) (hs : slots + ms ≤ ms9)
    (kk : OK → W p l e R s m args below meth c s.heap [] (cells + mc) (slots + ms) (vx_MQ below Qc (xQ P9) args s mc9 ms9 free9) (F0 m (pc + 3) ls (v.toList ++ rest))) : W p l e R s m args below meth c s.heap [] cells slots (vx_MQ below Qc (xQ P9) args s mc9 ms9 free9) (F0 m pc ls st0) := by
  intro T hT X
  rcases hr T hT X with ⟨v', st₀, t, T', L, h0, X', hL, e1, e2, ⟨hok, hv, hh⟩, st⟩ | ⟨q, st₀, t, T', L, E, ce, h0, X', hL, e1, e2, ⟨hPE, hz, hk⟩, hce, hcv, hcl, st⟩
  · cases hv
    obtain ⟨t2, a1, b1⟩ := kk hok T' (by rw [e1, hh, h0]) (Stand.forget X' (fun q h => (hL q h).elim))
    exact ⟨t2, st t2 a1, b1⟩
  · rw [h0] at hz hk
    have hw := vx_out (Qc := Qc) (XC := xQ P9) (p := p) (l := l) (e := e) (R := R) (args := args) (below := below) (H := T'.heap) (locs := []) (cells := cells + mc) (slots := slots + ms) (free := free9) (ls := ls) (rest := rest) (pc := pc) (fun x hx => (ht x hx).elim) hlocks (by rw [e1]; exact hce) hcv hcl (fun t9 h9 _ => ⟨hP E hPE, by rw [h9, e1]; exact hz, fun q hq => by rw [h9, e1]; exact hk q hq⟩) (fun z hz => nomatch hz) hc hs (m := m) (meth := meth)
    obtain ⟨t2, a1, b1⟩ := hw T' rfl (Stand.forget X' (fun q h => (hL q h).elim))
    exact ⟨t2, st.trans a1, b1⟩
theorem x_call1 {v : Value} {OK : Prop} {P P9 : String → Prop} {Qc : Array Value → State → Outcome → State → Prop} {free9 : Addr → Prop} {mc ms mc9 ms9 : Nat} (hr : vx_Run p l e R s m args below meth c s.heap [] cells slots mc ms (F0 m pc ls st0) rest (kQ OK (rQ (some v)) args0) (xQ P) (fun _ => False)) (hlocks : meth.locks = false) (ht : ∀ x ∈ c.exceptionTable.toList, False) (hP : ∀ E, P E → P9 E) (hc : cells + mc ≤ mc9) (hs : slots + ms ≤ ms9)
    (kk : OK → W p l e R s m args below meth c s.heap [] (cells + mc) (slots + ms) (vx_MQ below Qc (xQ P9) args s mc9 ms9 free9) (F0 m (pc + 3) ls (v :: rest))) : W p l e R s m args below meth c s.heap [] cells slots (vx_MQ below Qc (xQ P9) args s mc9 ms9 free9) (F0 m pc ls st0) := x_call hr hlocks ht hP hc hs kk
theorem x_call0 {OK : Prop} {P P9 : String → Prop} {Qc : Array Value → State → Outcome → State → Prop} {free9 : Addr → Prop} {mc ms mc9 ms9 : Nat} (hr : vx_Run p l e R s m args below meth c s.heap [] cells slots mc ms (F0 m pc ls st0) rest (kQ OK (rQ none) args0) (xQ P) (fun _ => False)) (hlocks : meth.locks = false) (ht : ∀ x ∈ c.exceptionTable.toList, False) (hP : ∀ E, P E → P9 E) (hc : cells + mc ≤ mc9) (hs : slots + ms ≤ ms9)
    (kk : OK → W p l e R s m args below meth c s.heap [] (cells + mc) (slots + ms) (vx_MQ below Qc (xQ P9) args s mc9 ms9 free9) (F0 m (pc + 3) ls rest)) : W p l e R s m args below meth c s.heap [] cells slots (vx_MQ below Qc (xQ P9) args s mc9 ms9 free9) (F0 m pc ls st0) := x_call hr hlocks ht hP hc hs kk
end XR
/-- the words of a throw, of the three classes -/
def xnm : List String := ["java/lang/RuntimeException", "java/lang/Exception"]
theorem xw_xcI : ∀ w ∈ (vx_atS "Politecrawl" 205 xcI xnm).filter (fun w => !goodWord w), w ∈ [Cond.castable xcI xcI, .declares (Bundle.initS "java/lang/RuntimeException"), .declares (Bundle.initS "java/lang/Exception"), .declares (Bundle.initS Bundle.tN)] := by decide +kernel
theorem xg_xcI : ∀ w ∈ Cond.classLink "Politecrawl" 201 xcI :: Cond.initialized xcI :: vx_atS "Politecrawl" 205 xcI xnm, vx_ot w = true := by decide +kernel
theorem xw_xcA : ∀ w ∈ (vx_atS "Politecrawl" 43 xcA xnm).filter (fun w => !goodWord w), w ∈ [Cond.castable xcA xcA, .declares (Bundle.initS "java/lang/RuntimeException"), .declares (Bundle.initS "java/lang/Exception"), .declares (Bundle.initS Bundle.tN)] := by decide +kernel
theorem xg_xcA : ∀ w ∈ Cond.classLink "Politecrawl" 39 xcA :: Cond.initialized xcA :: vx_atS "Politecrawl" 43 xcA xnm, vx_ot w = true := by decide +kernel
theorem xw_xcL : ∀ w ∈ (vx_atS "Politecrawl" 54 xcL xnm).filter (fun w => !goodWord w), w ∈ [Cond.castable xcL xcL, .declares (Bundle.initS "java/lang/RuntimeException"), .declares (Bundle.initS "java/lang/Exception"), .declares (Bundle.initS Bundle.tN)] := by decide +kernel
theorem xg_xcL : ∀ w ∈ Cond.classLink "Politecrawl" 50 xcL :: Cond.initialized xcL :: vx_atS "Politecrawl" 54 xcL xnm, vx_ot w = true := by decide +kernel
theorem i5_lt {i : Int32} {a b : Nat} (hab : b = a + 1) (hb : b < 2 ^ 30) : nI a < i ↔ nI b ≤ i := by
  rw [Int32.lt_iff_toInt_lt, Int32.le_iff_toInt_le, nI_toInt (by omega), nI_toInt (by omega)]
  omega
theorem host_of {i : Int32} (h1 : ¬ i < 0) (h2 : ¬ (6 : Int32) ≤ i) : hostB i = true := by
  simp only [hostB, inB, Bool.and_eq_true, Bool.not_eq_true', decide_eq_false_iff_not]
  exact ⟨h1, fun z => h2 ((i5_lt (a := 5) (b := 6) rfl (by decide)).mp z)⟩
theorem host_no1 {i : Int32} (h1 : i < 0) : hostB i = false := by simp [hostB, inB, h1]
theorem host_no2 {i : Int32} (h2 : (6 : Int32) ≤ i) : hostB i = false := by
  have : (5 : Int32) < i := (i5_lt (a := 5) (b := 6) rfl (by decide)).mpr h2
  simp [hostB, inB, this]
theorem idx_30 {i : Int32} (h1 : ¬ i < 0) (h2 : ¬ (30 : Int32) ≤ i) : ∃ q, q < 30 ∧ i = nI q := by
  obtain ⟨j, hj, rfl⟩ := nI_of h1
  refine ⟨j, ?_, rfl⟩
  have h3 : ¬ nI 30 ≤ nI j := h2
  rw [nI_leI (by decide) hj] at h3
  omega
theorem page_no1 {ν : NT} {i : Int32} (h1 : i < 0) : pageB ν i = false := by simp [pageB, inB, h1]
theorem page_no2 {ν : NT} {i : Int32} (hn : ν 0 0 ≤ 30) (h2 : (30 : Int32) ≤ i) : pageB ν i = false := by
  cases h : pageB ν i with
  | false => rfl
  | true =>
    obtain ⟨q, hq, rfl⟩ := idx_page hn h
    have h3 : nI 30 ≤ nI q := h2
    rw [nI_leI (by decide) (by omega)] at h3
    omega
theorem page_no3 {ν : NT} {q : Nat} (hn : ν 0 0 ≤ 30) (hq : q < 30) (h : ¬ q < ν 0 0) : pageB ν (nI q) = false := by
  cases e : pageB ν (nI q) with
  | false => rfl
  | true =>
    obtain ⟨j, hj, ej⟩ := idx_page hn e
    have := (nI_eq (by omega) (by omega)).mp ej
    omega
theorem in_of {v a b : Int32} (h1 : ¬ v < a) (h2 : v ≤ b) : inB v a b = true := by
  simp only [inB, Bool.and_eq_true, Bool.not_eq_true', decide_eq_false_iff_not]
  exact ⟨h1, Int32.not_lt.mpr h2⟩
theorem in_no1 {v a b : Int32} (h1 : v < a) : inB v a b = false := by simp [inB, h1]
theorem in_no2 {v a b : Int32} (h2 : ¬ v ≤ b) : inB v a b = false := by simp [inB, Int32.not_le.mp h2]
