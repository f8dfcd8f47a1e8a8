section
-- ===== PART A: goes FIRST, ahead of the names: the tables' words, and 'selects' of the private methods out of them =====
/-- a private method of a class that the tables say can be made, by its rows of tables_1 -/
def lw_okq (q : MethodName × Nat) : Prop := (q.1.cls ≠ "java/lang/invoke/MethodHandle" ∧ q.1.cls ≠ "java/lang/invoke/VarHandle") ∧ Cond.instantiable q.1.cls q.2 ∈ tables_1 ∧ Cond.privateMethod q.1 ∈ tables_1 ∧ Cond.instanceMethod q.1 ∈ tables_1
theorem lw_p0 : lw_okq (⟨"Politecrawl$Address", "comesThrice", "(I)Z"⟩, 4) := ⟨⟨by decide +kernel, by decide +kernel⟩, List.mem_of_getElem? (i := 22) (by decide +kernel), List.mem_of_getElem? (i := 115) (by decide +kernel), List.mem_of_getElem? (i := 116) (by decide +kernel)⟩
theorem lw_p1 : lw_okq (⟨"Politecrawl$Address", "hasSameSegments", "(II)Z"⟩, 4) := ⟨⟨by decide +kernel, by decide +kernel⟩, List.mem_of_getElem? (i := 22) (by decide +kernel), List.mem_of_getElem? (i := 119) (by decide +kernel), List.mem_of_getElem? (i := 120) (by decide +kernel)⟩
theorem lw_p2 : lw_okq (⟨"Politecrawl$Address", "startOf", "(I)I"⟩, 4) := ⟨⟨by decide +kernel, by decide +kernel⟩, List.mem_of_getElem? (i := 22) (by decide +kernel), List.mem_of_getElem? (i := 123) (by decide +kernel), List.mem_of_getElem? (i := 124) (by decide +kernel)⟩
theorem lw_p3 : lw_okq (⟨"Politecrawl", "firstOfHost", "(LPolitecrawl$Host;)LPolitecrawl$Page;"⟩, 9) := ⟨⟨by decide +kernel, by decide +kernel⟩, List.mem_of_getElem? (i := 14) (by decide +kernel), List.mem_of_getElem? (i := 139) (by decide +kernel), List.mem_of_getElem? (i := 140) (by decide +kernel)⟩
theorem lw_p4 : lw_okq (⟨"Politecrawl", "isReady", "(LPolitecrawl$Page;)Z"⟩, 9) := ⟨⟨by decide +kernel, by decide +kernel⟩, List.mem_of_getElem? (i := 14) (by decide +kernel), List.mem_of_getElem? (i := 143) (by decide +kernel), List.mem_of_getElem? (i := 144) (by decide +kernel)⟩
theorem lw_p5 : lw_okq (⟨"Politecrawl", "readyFrom", "(LPolitecrawl$Page;)I"⟩, 9) := ⟨⟨by decide +kernel, by decide +kernel⟩, List.mem_of_getElem? (i := 14) (by decide +kernel), List.mem_of_getElem? (i := 151) (by decide +kernel), List.mem_of_getElem? (i := 152) (by decide +kernel)⟩
theorem lw_p6 : lw_okq (⟨"Politecrawl", "startOfNextSpan", "()I"⟩, 9) := ⟨⟨by decide +kernel, by decide +kernel⟩, List.mem_of_getElem? (i := 14) (by decide +kernel), List.mem_of_getElem? (i := 162) (by decide +kernel), List.mem_of_getElem? (i := 163) (by decide +kernel)⟩
theorem lw_p7 : lw_okq (⟨"Politecrawl", "earlier", "(LPolitecrawl$Page;LPolitecrawl$Page;)LPolitecrawl$Page;"⟩, 9) := ⟨⟨by decide +kernel, by decide +kernel⟩, List.mem_of_getElem? (i := 14) (by decide +kernel), List.mem_of_getElem? (i := 166) (by decide +kernel), List.mem_of_getElem? (i := 167) (by decide +kernel)⟩
theorem lw_p8 : lw_okq (⟨"Politecrawl", "goesBefore", "(LPolitecrawl$Page;LPolitecrawl$Page;)Z"⟩, 9) := ⟨⟨by decide +kernel, by decide +kernel⟩, List.mem_of_getElem? (i := 14) (by decide +kernel), List.mem_of_getElem? (i := 170) (by decide +kernel), List.mem_of_getElem? (i := 171) (by decide +kernel)⟩
theorem lw_p9 : lw_okq (⟨"java/lang/Throwable", "fillInStackTrace", "(I)Ljava/lang/Throwable;"⟩, 6) := ⟨⟨by decide +kernel, by decide +kernel⟩, List.mem_of_getElem? (i := 244) (by decide +kernel), List.mem_of_getElem? (i := 242) (by decide +kernel), List.mem_of_getElem? (i := 243) (by decide +kernel)⟩
theorem lw_p10 : lw_okq (⟨"Politecrawl$Address", "startSegment", "()V"⟩, 4) := ⟨⟨by decide +kernel, by decide +kernel⟩, List.mem_of_getElem? (i := 22) (by decide +kernel), List.mem_of_getElem? (i := 298) (by decide +kernel), List.mem_of_getElem? (i := 299) (by decide +kernel)⟩
theorem lw_p11 : lw_okq (⟨"Politecrawl", "knownHost", "(I)LPolitecrawl$Host;"⟩, 9) := ⟨⟨by decide +kernel, by decide +kernel⟩, List.mem_of_getElem? (i := 14) (by decide +kernel), List.mem_of_getElem? (i := 310) (by decide +kernel), List.mem_of_getElem? (i := 311) (by decide +kernel)⟩
theorem lw_p12 : lw_okq (⟨"Politecrawl", "pageAtBuffer", "(LPolitecrawl$Host;)LPolitecrawl$Page;"⟩, 9) := ⟨⟨by decide +kernel, by decide +kernel⟩, List.mem_of_getElem? (i := 14) (by decide +kernel), List.mem_of_getElem? (i := 373) (by decide +kernel), List.mem_of_getElem? (i := 374) (by decide +kernel)⟩
theorem lw_p13 : lw_okq (⟨"Politecrawl", "knownPage", "(I)LPolitecrawl$Page;"⟩, 9) := ⟨⟨by decide +kernel, by decide +kernel⟩, List.mem_of_getElem? (i := 14) (by decide +kernel), List.mem_of_getElem? (i := 449) (by decide +kernel), List.mem_of_getElem? (i := 450) (by decide +kernel)⟩
theorem lw_p14 : lw_okq (⟨"Politecrawl", "settle", "(LPolitecrawl$Page;I)V"⟩, 9) := ⟨⟨by decide +kernel, by decide +kernel⟩, List.mem_of_getElem? (i := 14) (by decide +kernel), List.mem_of_getElem? (i := 491) (by decide +kernel), List.mem_of_getElem? (i := 492) (by decide +kernel)⟩
theorem lw_p15 : lw_okq (⟨"Politecrawl", "paceOf", "(LPolitecrawl$Page;)I"⟩, 9) := ⟨⟨by decide +kernel, by decide +kernel⟩, List.mem_of_getElem? (i := 14) (by decide +kernel), List.mem_of_getElem? (i := 495) (by decide +kernel), List.mem_of_getElem? (i := 496) (by decide +kernel)⟩
def lw_privs_1 : List (MethodName × Nat) := [(⟨"Politecrawl$Address", "comesThrice", "(I)Z"⟩, 4), (⟨"Politecrawl$Address", "hasSameSegments", "(II)Z"⟩, 4), (⟨"Politecrawl$Address", "startOf", "(I)I"⟩, 4), (⟨"Politecrawl", "firstOfHost", "(LPolitecrawl$Host;)LPolitecrawl$Page;"⟩, 9), (⟨"Politecrawl", "isReady", "(LPolitecrawl$Page;)Z"⟩, 9), (⟨"Politecrawl", "readyFrom", "(LPolitecrawl$Page;)I"⟩, 9), (⟨"Politecrawl", "startOfNextSpan", "()I"⟩, 9), (⟨"Politecrawl", "earlier", "(LPolitecrawl$Page;LPolitecrawl$Page;)LPolitecrawl$Page;"⟩, 9), (⟨"Politecrawl", "goesBefore", "(LPolitecrawl$Page;LPolitecrawl$Page;)Z"⟩, 9), (⟨"java/lang/Throwable", "fillInStackTrace", "(I)Ljava/lang/Throwable;"⟩, 6), (⟨"Politecrawl$Address", "startSegment", "()V"⟩, 4), (⟨"Politecrawl", "knownHost", "(I)LPolitecrawl$Host;"⟩, 9), (⟨"Politecrawl", "pageAtBuffer", "(LPolitecrawl$Host;)LPolitecrawl$Page;"⟩, 9), (⟨"Politecrawl", "knownPage", "(I)LPolitecrawl$Page;"⟩, 9), (⟨"Politecrawl", "settle", "(LPolitecrawl$Page;I)V"⟩, 9), (⟨"Politecrawl", "paceOf", "(LPolitecrawl$Page;)I"⟩, 9)]
theorem lw_r1 : ∀ q ∈ lw_privs_1, lw_okq q := List.forall_mem_cons.mpr ⟨lw_p0, List.forall_mem_cons.mpr ⟨lw_p1, List.forall_mem_cons.mpr ⟨lw_p2, List.forall_mem_cons.mpr ⟨lw_p3, List.forall_mem_cons.mpr ⟨lw_p4, List.forall_mem_cons.mpr ⟨lw_p5, List.forall_mem_cons.mpr ⟨lw_p6, List.forall_mem_cons.mpr ⟨lw_p7, List.forall_mem_cons.mpr ⟨lw_p8, List.forall_mem_cons.mpr ⟨lw_p9, List.forall_mem_cons.mpr ⟨lw_p10, List.forall_mem_cons.mpr ⟨lw_p11, List.forall_mem_cons.mpr ⟨lw_p12, List.forall_mem_cons.mpr ⟨lw_p13, List.forall_mem_cons.mpr ⟨lw_p14, List.forall_mem_cons.mpr ⟨lw_p15, fun _ h => absurd h List.not_mem_nil⟩⟩⟩⟩⟩⟩⟩⟩⟩⟩⟩⟩⟩⟩⟩⟩
theorem lw_p16 : lw_okq (⟨"Politecrawl", "forgetSpread", "()V"⟩, 9) := ⟨⟨by decide +kernel, by decide +kernel⟩, List.mem_of_getElem? (i := 14) (by decide +kernel), List.mem_of_getElem? (i := 525) (by decide +kernel), List.mem_of_getElem? (i := 526) (by decide +kernel)⟩
theorem lw_p17 : lw_okq (⟨"Politecrawl", "spreadOneVisit", "()V"⟩, 9) := ⟨⟨by decide +kernel, by decide +kernel⟩, List.mem_of_getElem? (i := 14) (by decide +kernel), List.mem_of_getElem? (i := 529) (by decide +kernel), List.mem_of_getElem? (i := 530) (by decide +kernel)⟩
theorem lw_p18 : lw_okq (⟨"Politecrawl$Page", "gainAbove", "()J"⟩, 10) := ⟨⟨by decide +kernel, by decide +kernel⟩, List.mem_of_getElem? (i := 381) (by decide +kernel), List.mem_of_getElem? (i := 537) (by decide +kernel), List.mem_of_getElem? (i := 538) (by decide +kernel)⟩
theorem lw_p19 : lw_okq (⟨"Politecrawl$Page", "gainBelow", "()J"⟩, 10) := ⟨⟨by decide +kernel, by decide +kernel⟩, List.mem_of_getElem? (i := 381) (by decide +kernel), List.mem_of_getElem? (i := 541) (by decide +kernel), List.mem_of_getElem? (i := 542) (by decide +kernel)⟩
theorem lw_p20 : lw_okq (⟨"PolitecrawlModel", "fails", "(I)I"⟩, 26) := ⟨⟨by decide +kernel, by decide +kernel⟩, List.mem_of_getElem? (i := 546) (by decide +kernel), List.mem_of_getElem? (i := 643) (by decide +kernel), List.mem_of_getElem? (i := 644) (by decide +kernel)⟩
theorem lw_p21 : lw_okq (⟨"PolitecrawlModel", "laySegments", "()V"⟩, 26) := ⟨⟨by decide +kernel, by decide +kernel⟩, List.mem_of_getElem? (i := 546) (by decide +kernel), List.mem_of_getElem? (i := 655) (by decide +kernel), List.mem_of_getElem? (i := 656) (by decide +kernel)⟩
theorem lw_p22 : lw_okq (⟨"PolitecrawlModel", "repeats", "()Z"⟩, 26) := ⟨⟨by decide +kernel, by decide +kernel⟩, List.mem_of_getElem? (i := 546) (by decide +kernel), List.mem_of_getElem? (i := 663) (by decide +kernel), List.mem_of_getElem? (i := 664) (by decide +kernel)⟩
theorem lw_p23 : lw_okq (⟨"PolitecrawlModel", "areSame", "(II)Z"⟩, 26) := ⟨⟨by decide +kernel, by decide +kernel⟩, List.mem_of_getElem? (i := 546) (by decide +kernel), List.mem_of_getElem? (i := 667) (by decide +kernel), List.mem_of_getElem? (i := 668) (by decide +kernel)⟩
theorem lw_p24 : lw_okq (⟨"PolitecrawlModel", "isAddress", "(I)Z"⟩, 26) := ⟨⟨by decide +kernel, by decide +kernel⟩, List.mem_of_getElem? (i := 546) (by decide +kernel), List.mem_of_getElem? (i := 698) (by decide +kernel), List.mem_of_getElem? (i := 699) (by decide +kernel)⟩
theorem lw_p25 : lw_okq (⟨"PolitecrawlModel", "isPage", "(I)Z"⟩, 26) := ⟨⟨by decide +kernel, by decide +kernel⟩, List.mem_of_getElem? (i := 546) (by decide +kernel), List.mem_of_getElem? (i := 706) (by decide +kernel), List.mem_of_getElem? (i := 707) (by decide +kernel)⟩
theorem lw_p26 : lw_okq (⟨"PolitecrawlModel", "isAsked", "(I)Z"⟩, 26) := ⟨⟨by decide +kernel, by decide +kernel⟩, List.mem_of_getElem? (i := 546) (by decide +kernel), List.mem_of_getElem? (i := 718) (by decide +kernel), List.mem_of_getElem? (i := 719) (by decide +kernel)⟩
theorem lw_p27 : lw_okq (⟨"PolitecrawlModel", "counts", "(I)Z"⟩, 26) := ⟨⟨by decide +kernel, by decide +kernel⟩, List.mem_of_getElem? (i := 546) (by decide +kernel), List.mem_of_getElem? (i := 722) (by decide +kernel), List.mem_of_getElem? (i := 723) (by decide +kernel)⟩
theorem lw_p28 : lw_okq (⟨"PolitecrawlModel", "isOpen", "(I)Z"⟩, 26) := ⟨⟨by decide +kernel, by decide +kernel⟩, List.mem_of_getElem? (i := 546) (by decide +kernel), List.mem_of_getElem? (i := 738) (by decide +kernel), List.mem_of_getElem? (i := 739) (by decide +kernel)⟩
theorem lw_p29 : lw_okq (⟨"PolitecrawlModel", "left", "()I"⟩, 26) := ⟨⟨by decide +kernel, by decide +kernel⟩, List.mem_of_getElem? (i := 546) (by decide +kernel), List.mem_of_getElem? (i := 742) (by decide +kernel), List.mem_of_getElem? (i := 743) (by decide +kernel)⟩
theorem lw_p30 : lw_okq (⟨"PolitecrawlModel", "best", "()I"⟩, 26) := ⟨⟨by decide +kernel, by decide +kernel⟩, List.mem_of_getElem? (i := 546) (by decide +kernel), List.mem_of_getElem? (i := 750) (by decide +kernel), List.mem_of_getElem? (i := 751) (by decide +kernel)⟩
theorem lw_p31 : lw_okq (⟨"PolitecrawlModel", "addsMore", "(II)Z"⟩, 26) := ⟨⟨by decide +kernel, by decide +kernel⟩, List.mem_of_getElem? (i := 546) (by decide +kernel), List.mem_of_getElem? (i := 783) (by decide +kernel), List.mem_of_getElem? (i := 784) (by decide +kernel)⟩
def lw_privs_2 : List (MethodName × Nat) := [(⟨"Politecrawl", "forgetSpread", "()V"⟩, 9), (⟨"Politecrawl", "spreadOneVisit", "()V"⟩, 9), (⟨"Politecrawl$Page", "gainAbove", "()J"⟩, 10), (⟨"Politecrawl$Page", "gainBelow", "()J"⟩, 10), (⟨"PolitecrawlModel", "fails", "(I)I"⟩, 26), (⟨"PolitecrawlModel", "laySegments", "()V"⟩, 26), (⟨"PolitecrawlModel", "repeats", "()Z"⟩, 26), (⟨"PolitecrawlModel", "areSame", "(II)Z"⟩, 26), (⟨"PolitecrawlModel", "isAddress", "(I)Z"⟩, 26), (⟨"PolitecrawlModel", "isPage", "(I)Z"⟩, 26), (⟨"PolitecrawlModel", "isAsked", "(I)Z"⟩, 26), (⟨"PolitecrawlModel", "counts", "(I)Z"⟩, 26), (⟨"PolitecrawlModel", "isOpen", "(I)Z"⟩, 26), (⟨"PolitecrawlModel", "left", "()I"⟩, 26), (⟨"PolitecrawlModel", "best", "()I"⟩, 26), (⟨"PolitecrawlModel", "addsMore", "(II)Z"⟩, 26)]
theorem lw_r2 : ∀ q ∈ lw_privs_2, lw_okq q := List.forall_mem_cons.mpr ⟨lw_p16, List.forall_mem_cons.mpr ⟨lw_p17, List.forall_mem_cons.mpr ⟨lw_p18, List.forall_mem_cons.mpr ⟨lw_p19, List.forall_mem_cons.mpr ⟨lw_p20, List.forall_mem_cons.mpr ⟨lw_p21, List.forall_mem_cons.mpr ⟨lw_p22, List.forall_mem_cons.mpr ⟨lw_p23, List.forall_mem_cons.mpr ⟨lw_p24, List.forall_mem_cons.mpr ⟨lw_p25, List.forall_mem_cons.mpr ⟨lw_p26, List.forall_mem_cons.mpr ⟨lw_p27, List.forall_mem_cons.mpr ⟨lw_p28, List.forall_mem_cons.mpr ⟨lw_p29, List.forall_mem_cons.mpr ⟨lw_p30, List.forall_mem_cons.mpr ⟨lw_p31, fun _ h => absurd h List.not_mem_nil⟩⟩⟩⟩⟩⟩⟩⟩⟩⟩⟩⟩⟩⟩⟩⟩
def lw_privs : List (MethodName × Nat) := lw_privs_1 ++ (lw_privs_2)
def lw_tbl : List Cond := k2_sels lw_privs ++ tables_1
theorem lw_privs_ok : ∀ q ∈ lw_privs, lw_okq q := by
  show ∀ q ∈ lw_privs_1 ++ (lw_privs_2), lw_okq q
  exact List.forall_mem_append.mpr ⟨lw_r1, lw_r2⟩
/-! ===== BEGIN words of one list among another's, by their places ===== -/
theorem goodIn_r {big : List Cond} (ws : List Cond) (ps : List Nat) (hp : ws = ps.filterMap (fun i => big[i]?)) (h : ws.all goodWord = true) : GoodIn big ws := by
  intro w hw
  have h1 := List.all_eq_true.mp h w hw
  rw [hp] at hw
  obtain ⟨i, -, hi⟩ := List.mem_filterMap.mp hw
  have hm : w ∈ big := by first | exact List.mem_of_getElem? hi | exact List.getElem?_mem hi
  exact ⟨hm, good_of_word h1⟩
theorem goodIn_app {big a b : List Cond} (ha : GoodIn big a) (hb : GoodIn big b) : GoodIn big (a ++ b) := fun w h => (List.mem_append.mp h).elim (ha w) (hb w)
theorem goodIn_ca {big a b : List Cond} {c : Cond} (ha : GoodIn big (c :: a)) (hb : GoodIn big b) : GoodIn big (c :: (a ++ b)) := fun w h => (List.mem_cons.mp h).elim (fun e => ha w (List.mem_cons.mpr (Or.inl e))) (fun h => (List.mem_append.mp h).elim (fun h => ha w (List.mem_cons.mpr (Or.inr h))) (hb w))
theorem goodIn_sub {big ws : List Cond} (hm : ∀ w ∈ ws, w ∈ big) (h : ws.all goodWord = true) : GoodIn big ws := fun w hw => ⟨hm w hw, good_of_word (List.all_eq_true.mp h w hw)⟩
/-! ===== END ===== -/

/-! ===== BEGIN exceptions that leave a method, and their catching by the caller (launches without stack traces) ===== -/
section VXA
/-! The laws vx_back, vx_callV, vx_callS, vx_callSW, vx_throw0, vx_throwS follow proofs of the library, with one case more: JvmDerived/Free/Laws.lean (Back.of_free), Shelf42/LK1.lean (callV, callS), Shelf/KitTraced.lean (throwNew0V, throwNewS). -/
/-- where a method has thrown q: the class by its name, the cell, what was written, the world -/
def vx_T (XC : String → State → State → Prop) (st : State) (q : Addr) (t : State) (mc ms : Nat) (free : Addr → Prop) : Prop :=
  ∃ (E : String) (ce : Cell) (L : List Loc), XC E st t ∧ t.heap[q]? = some ce ∧ ce.vm = .none ∧ st.vm.findClass E = some ce.cls ∧ st.WarmedH t.vm ∧ st.sameButNew ({ t with vm := st.vm } : State) L mc ms ∧ ∀ z ∈ L, free z.base
def vx_Q (Qc : Array Value → State → Outcome → State → Prop) (XC : String → State → State → Prop) (mc ms : Nat) (free : Addr → Prop) : Array Value → State → Outcome → State → Prop := fun a st o t =>
  (Qc a st o t ∧ ∃ L, FrameEnd st o t L mc ms ∧ ∀ q ∈ L, free q.base) ∨ ∃ q, o = .threw q ∧ vx_T XC st q t mc ms free
/-- a callee that returns or throws -/
def vx_Met (l : Launch) (y : MethodName) (ws : List Cond) (rm : Room) (Pc : Array Value → State → Prop) (Qc : Array Value → State → Outcome → State → Prop) (XC : String → State → State → Prop) (mc ms : Nat) (free : Addr → Prop) : Prop :=
  MetFree l y (headSpec ws rm) Pc (fun _ _ _ _ _ => True) (vx_Q Qc XC mc ms free)
def vx_Post (XC : String → State → State → Prop) (mc ms : Nat) (free : Addr → Prop) : Pt → Array Value → Addr → Pt → Prop := fun A a q B =>
  ∃ (g : JFrame) (mk : MethodId) (t : State) (L : List Loc) (E : String) (ce : Cell), B.U.heap = t.heap ∧ B.U.vm = t.vm ∧ XC E (A.U.calling g mk a) t ∧ t.heap[q]? = some ce ∧ ce.vm = .none ∧ A.U.vm.findClass E = some ce.cls ∧ B.locs = A.locs ++ L ∧ (∀ z ∈ L, free z.base) ∧ B.cells = A.cells + mc ∧ B.slots = A.slots + ms
def vx_Back (l : Launch) (R : Room) (p : Program) (e : Env) (below : List Frame) (s : State) (sargs : Array Value) (y : MethodName) (len W9 : Nat)
    (Pre : Pt → Array Value → Prop) (Post : Pt → Array Value → Option Value → Pt → Prop) (PostX : Pt → Array Value → Addr → Pt → Prop) : Prop :=
  ∀ (m : MethodId) (meth : Method) (c : Code) (A : Pt) (g : JFrame) (ig : Instr) (mk : MethodId) (a : Array Value),
    Stand p l e R s m sargs below meth c A.U A.locs A.cells A.slots → g.method = m → g.locals.size = c.maxLocals → decode c.code g.pc = .ok (ig, len) →
    2 * g.monitorRoom + (g.stack.map fun v => v.category).sum ≤ W9 → A.U.methodNamed? y = some mk → Pre A a →
    (∃ (v : Option Value) (B : Pt), Stand p l e R s m sargs below meth c B.U B.locs B.cells B.slots ∧ Post A a v B ∧
      Steps p.tables e below (doInvoke e (A.U.setTop g) [] mk a).1 (B.U.setTop { g with pc := g.pc + len, stack := v.toList ++ g.stack })) ∨
    (∃ (q : Addr) (B : Pt), Stand p l e R s m sargs below meth c B.U B.locs B.cells B.slots ∧ PostX A a q B ∧
      Steps p.tables e below (doInvoke e (A.U.setTop g) [] mk a).1 ((B.U.setTop g).pushFrame (.throwing q)))
section Payer
variable {l : Launch} {R : Room} {p : Program} {e : Env} {below : List Frame} {s : State} {sargs : Array Value} {y : MethodName} {len W9 : Nat}
theorem vx_back {ws : List Cond} {rm : Room} {Pc : Array Value → State → Prop} {Qc : Array Value → State → Outcome → State → Prop} {XC : String → State → State → Prop} {mc ms : Nat} {free : Addr → Prop} {bytes : ByteArray} {maxL : Nat} {ret : Option FieldType}
    (hM : vx_Met l y ws rm Pc Qc XC mc ms free) (hblind : FrameBlind Pc) (hrc : rm.cells = mc) (hrs : rm.slots = ms)
    (hframes : rm.frames + 1 ≤ R.frames) (hlocals : W9 + (maxL + 11) + rm.locals ≤ R.locals)
    (hws : ∀ w ∈ ws, ∀ a' U, s.WarmedH U.vm → w.before a' U = true) (hcode : Cond.code y bytes maxL ret ∈ ws) (hinit : ∀ a' U, s.WarmedH U.vm → (Cond.initialized y.cls).before a' U = true) :
    vx_Back l R p e below s sargs y len W9 (PreOf R mc ms Pc) (PostOf Qc mc ms free) (vx_Post XC mc ms free) := by
  intro m meth c A g ig mk a X hg hsize hdg hW hn hp
  have h1 : (headSpec ws rm).pre.before a A.U = true := atoms_intro fun w hw => hws w hw _ _ X.warmed
  have h2 : (Cond.code y bytes maxL ret).before a A.U = true := hws _ hcode _ _ X.warmed
  have h3 : (Cond.initialized y.cls).before a A.U = true := hinit _ _ X.warmed
  have h4 : A.cells + (headSpec ws rm).room.cells ≤ R.cells := by rw [show (headSpec ws rm).room.cells = mc from hrc]; exact hp.1
  have h5 : A.slots + (headSpec ws rm).room.slots ≤ R.slots := by rw [show (headSpec ws rm).room.slots = ms from hrs]; exact hp.2.1
  have hPc : Pc a (A.U.calling g mk a) := hblind _ _ _ _ hp.2.2
  obtain ⟨U, Ls, c0, s0⟩ := A
  dsimp only [Pt.U, Pt.locs, Pt.cells, Pt.slots] at h1 h2 h3 h4 h5 X hn hPc ⊢
  obtain ⟨methY, cY, hmY, hcY, -, hlY, -, -, -, -⟩ := Cond.code_spec hn h2
  obtain ⟨kY, hkY, -⟩ := className_of_methodNamed hn
  have hinitY : kY.init = .initialized := Cond.initialized_spec (findClass_of_methodNamed hn) hkY h3
  have h : At U g.method c below := by rw [hg]; exact X.here
  have hlocals9 : W9 + (maxL + 11) + (headSpec ws rm).room.locals ≤ R.locals := hlocals
  have happ : (headSpec ws rm).appliesLoose y e.platform (U.calling g mk a) = true :=
    Spec.appliesLoose_calling (g := g) h hdg hn hkY hinitY
      (X.room_calling (g := g) (R' := (headSpec ws rm).room) hsize hmY hcY hframes (by rw [hlY]; omega) h4 h5) h1
  obtain ⟨mid, hmid⟩ := h.above
  have hfr : (U.setTop g).frames = (.java g :: mid) ++ below := by rw [State.frames_setTop' g h.top, hmid]; rfl
  obtain ⟨o, s₂, hsteps, -, hend, hq⟩ := Steps.callFree hM p X.admits X.cas X.clock (acts := []) hfr happ hPc trivial
  have hq' : vx_Q Qc XC mc ms free a (U.calling g mk a) o s₂ := hq
  rw [State.frames_setTop' g h.top] at hend
  obtain ⟨g₀, hg0⟩ := Option.isSome_iff_exists.mp h.top
  obtain ⟨r, hr⟩ := State.topJava?_eq_some.mp hg0
  have hr' : (({ U with heap := s₂.heap, slotsUsed := s₂.slotsUsed } : State).setVm s₂.vm).frames = .java g₀ :: r := hr
  rcases hq' with ⟨hqc, L, hfe, hL⟩ | ⟨q, rfl, E, ce, L, hx, hce, hcv, hcl, hW₂, hsm, hL⟩
  · obtain ⟨⟨v, rfl⟩, hW₂, e2, q2, q3, q4, q5, q6⟩ := id hfe
    have e3 : s₂ = ({ (U.calling g mk a).setFrames s₂.frames with heap := s₂.heap, slotsUsed := s₂.slotsUsed } : State).setVm s₂.vm := by
      have : s₂ = ({ s₂ with vm := (U.calling g mk a).vm } : State).setVm s₂.vm := rfl
      rw [e2] at this
      exact this
    obtain ⟨c₂, i₂, len₂, hc₂, hd₂, hf₂⟩ := hend
    have hW' : U.WarmedH s₂.vm := hW₂
    have hcc : c₂ = c := by
      have h1 : s₂.code? g.method = U.code? g.method := by
        rw [State.code?_eq, State.code?_eq, hW'.alike.method?]
      exact Option.some.inj (hc₂.symm.trans (h1.trans h.code))
    subst hcc
    have hlen : len₂ = len := by rw [hdg] at hd₂; cases hd₂; rfl
    subst hlen
    have hs₂ : s₂ = (({ U with heap := s₂.heap, slotsUsed := s₂.slotsUsed } : State).setVm s₂.vm).setTop { g with pc := g.pc + len₂, stack := v.toList ++ g.stack } := by
      refine e3.trans ?_
      rw [hf₂, State.calling_eq h.top, State.setFrames_setFrames, State.setTop_of_frames _ hr', hr]
      rfl
    have hsame : U.sameButNew ({ U with heap := s₂.heap, slotsUsed := s₂.slotsUsed } : State) L mc ms := by
      refine ⟨?_, q2, q3, q4, q5, q6⟩
      obtain ⟨t, ht, -⟩ := State.frames_cons hr
      show ({ U with heap := s₂.heap, slotsUsed := s₂.slotsUsed } : State) = { U.setFrames U.frames with heap := s₂.heap, slotsUsed := s₂.slotsUsed }
      rw [State.setFrames_self ht]
    subst hg
    refine Or.inl ⟨v, ⟨(({ U with heap := s₂.heap, slotsUsed := s₂.slotsUsed } : State).setVm s₂.vm), Ls ++ L, c0 + mc, s0 + ms⟩,
      ⟨X.admits, X.cas, X.clock, X.frames, X.room, X.hears, X.method, X.code, (X.here.setHeapUsed s₂.heap s₂.slotsUsed).setVm hW'.alike, X.tail, State.WarmedH.trans X.warmed hW', X.limits, X.bytes, X.same.trans (hsame.setVm s.vm)⟩,
      ⟨g, mk, s₂, L, rfl, rfl, hqc, rfl, hL, rfl, rfl⟩, ?_⟩
    show Steps p.tables e below _ ((({ U with heap := s₂.heap, slotsUsed := s₂.slotsUsed } : State).setVm s₂.vm).setTop { g with pc := g.pc + len₂, stack := v.toList ++ g.stack })
    rw [← hs₂]
    exact hsteps
  · obtain ⟨e2, q2, q3, q4, q5, q6⟩ := id hsm
    have e3 : s₂ = ({ (U.calling g mk a).setFrames s₂.frames with heap := s₂.heap, slotsUsed := s₂.slotsUsed } : State).setVm s₂.vm := by
      have : s₂ = ({ s₂ with vm := (U.calling g mk a).vm } : State).setVm s₂.vm := rfl
      rw [e2] at this
      exact this
    have hf₂ : s₂.frames = .throwing q :: .java g :: U.frames.tail := hend
    have hW' : U.WarmedH s₂.vm := hW₂
    have hs₂ : s₂ = ((({ U with heap := s₂.heap, slotsUsed := s₂.slotsUsed } : State).setVm s₂.vm).setTop g).pushFrame (.throwing q) := by
      refine e3.trans ?_
      rw [hf₂, State.calling_eq h.top, State.setFrames_setFrames, State.pushFrame, State.frames_setTop _ hr', State.setTop_of_frames _ hr', State.setFrames_setFrames, hr]
      rfl
    have hsame : U.sameButNew ({ U with heap := s₂.heap, slotsUsed := s₂.slotsUsed } : State) L mc ms := by
      refine ⟨?_, q2, q3, q4, q5, q6⟩
      obtain ⟨t, ht, -⟩ := State.frames_cons hr
      show ({ U with heap := s₂.heap, slotsUsed := s₂.slotsUsed } : State) = { U.setFrames U.frames with heap := s₂.heap, slotsUsed := s₂.slotsUsed }
      rw [State.setFrames_self ht]
    subst hg
    refine Or.inr ⟨q, ⟨(({ U with heap := s₂.heap, slotsUsed := s₂.slotsUsed } : State).setVm s₂.vm), Ls ++ L, c0 + mc, s0 + ms⟩,
      ⟨X.admits, X.cas, X.clock, X.frames, X.room, X.hears, X.method, X.code, (X.here.setHeapUsed s₂.heap s₂.slotsUsed).setVm hW'.alike, X.tail, State.WarmedH.trans X.warmed hW', X.limits, X.bytes, X.same.trans (hsame.setVm s.vm)⟩,
      ⟨g, mk, s₂, L, E, ce, rfl, rfl, hx, hce, hcv, hcl, rfl, hL, rfl, rfl⟩, ?_⟩
    show Steps p.tables e below _ (((({ U with heap := s₂.heap, slotsUsed := s₂.slotsUsed } : State).setVm s₂.vm).setTop g).pushFrame (.throwing q))
    rw [← hs₂]
    exact hsteps
end Payer
section Calls
variable {p : Program} {l : Launch} {e : Env} {R : Room} {s : State} {m : MethodId} {args : Array Value} {below : List Frame} {meth : Method} {c : Code} {T : State} {locs : List Loc} {cells slots : Nat}
theorem vx_callV (X : Stand p l e R s m args below meth c T locs cells slots) (hexec : p.tables.exec = Jvm.exec) {own C : String} {index : Nat} {y : MethodName} {bytes : ByteArray} {maxL : Nat} {ret : Option FieldType}
    (hown : s.vm.findClass own = some m.cls) (hlink : (Cond.methodLink own index y).before args s = true) (hinst : (Cond.instanceMethod y).before args s = true) (hsel : (Cond.selects C y y).before args s = true)
    (hcode : (Cond.code y bytes maxL ret).before args s = true) (hy : y.cls ≠ "java/lang/invoke/MethodHandle" ∧ y.cls ≠ "java/lang/invoke/VarHandle")
    {W9 : Nat} {Pre : Pt → Array Value → Prop} {Post : Pt → Array Value → Option Value → Pt → Prop} {PostX : Pt → Array Value → Addr → Pt → Prop} (hK : vx_Back l R p e below s args y 3 W9 Pre Post PostX)
    {b : Addr} {cellB : Cell} (hcell : T.heap[b]? = some cellB) (hobj : cellB.vm.isStatics = false) (hcls : s.vm.findClass C = some cellB.cls)
    {g : JFrame} (hg : g.method = m) (hsize : g.locals.size = c.maxLocals) {argsL rest : List Value} (hlen : ∀ sig, parseMethodDescriptor y.desc = some sig → argsL.length = sig.parameters.length)
    (hstack : g.stack = argsL.reverse ++ .ref b :: rest) (hW : 2 * g.monitorRoom + (rest.map fun v => v.category).sum ≤ W9) (hdg : decode c.code g.pc = .ok (.invokevirtual index, 3))
    (hpre : ∀ vm₁, s.WarmedH vm₁ → Pre ⟨T.setVm vm₁, locs, cells, slots⟩ (Value.ref b :: argsL).toArray) :
    (∃ (v : Option Value) (vm₁ : Vm) (B : Pt), s.WarmedH vm₁ ∧ Stand p l e R s m args below meth c B.U B.locs B.cells B.slots ∧ Post ⟨T.setVm vm₁, locs, cells, slots⟩ (Value.ref b :: argsL).toArray v B ∧
      ∀ target, Steps p.tables e below (B.U.setTop { g with pc := g.pc + 3, stack := v.toList ++ rest }) target → Steps p.tables e below (T.setTop g) target) ∨
    (∃ (q : Addr) (vm₁ : Vm) (B : Pt), s.WarmedH vm₁ ∧ Stand p l e R s m args below meth c B.U B.locs B.cells B.slots ∧ PostX ⟨T.setVm vm₁, locs, cells, slots⟩ (Value.ref b :: argsL).toArray q B ∧
      Steps p.tables e below (T.setTop g) ((B.U.setTop { g with stack := rest }).pushFrame (.throwing q))) := by
  obtain ⟨mk, methM, hnamed, hmethM, hstM, habM⟩ := Cond.instanceMethod_spec hinst
  obtain ⟨methM', cM, hmethM', -, -, -, -, -, -, hsigM⟩ := Cond.code_spec hnamed hcode
  cases hmethM.symm.trans hmethM'
  obtain ⟨c2, r2, m2, q1, q2, q3, q4, kP, hkP, hkPi⟩ := Cond.selects_spec hsel
  cases hcls.symm.trans q1
  cases (State.methodFound?_of_named hnamed hy).symm.trans q2
  cases hnamed.symm.trans q3
  have hselP : selectMethod e.platform s.vm cellB.cls mk = .method mk := by rw [Launch.admits_selectMethod X.admits]; exact q4
  obtain ⟨vm₁, X₁, hstep₁⟩ := X.invokevirtual hexec hown hlink hnamed hmethM hstM hkP hkPi hy (a := b) (cell := cellB) hcell
    (fun z h => by rw [h] at hobj; cases hobj) hselP hmethM habM hkP hkPi (g := g) hg (argsL := argsL) (rest := rest) (hlen _ hsigM) hstack hdg
  rcases hK m meth c ⟨T.setVm vm₁, locs, cells, slots⟩ { g with stack := rest } (.invokevirtual index) mk (Value.ref b :: argsL).toArray X₁ hg hsize hdg hW (X₁.named hnamed) (hpre vm₁ X₁.warmed) with ⟨v, B, X', hpost, hsteps⟩ | ⟨q, B, X', hpost, hsteps⟩
  · exact Or.inl ⟨v, vm₁, B, X₁.warmed, X', hpost, fun target h => hstep₁ _ fun acts => by rw [doInvoke_state]; exact hsteps.trans h⟩
  · exact Or.inr ⟨q, vm₁, B, X₁.warmed, X', hpost, hstep₁ _ fun acts => by rw [doInvoke_state]; exact hsteps⟩
theorem vx_callS (X : Stand p l e R s m args below meth c T locs cells slots) (hexec : p.tables.exec = Jvm.exec) {own : String} {index : Nat} {y : MethodName} {bytes : ByteArray} {maxL : Nat} {ret : Option FieldType}
    (hown : s.vm.findClass own = some m.cls) (hlink : (Cond.methodLink own index y).before args s = true) (hstat : (Cond.static y).before args s = true) (hinit : (Cond.initialized y.cls).before args s = true)
    (hcode : (Cond.code y bytes maxL ret).before args s = true) (hy : y.cls ≠ "java/lang/invoke/MethodHandle" ∧ y.cls ≠ "java/lang/invoke/VarHandle")
    {W9 : Nat} {Pre : Pt → Array Value → Prop} {Post : Pt → Array Value → Option Value → Pt → Prop} {PostX : Pt → Array Value → Addr → Pt → Prop} (hK : vx_Back l R p e below s args y 3 W9 Pre Post PostX)
    {g : JFrame} (hg : g.method = m) (hsize : g.locals.size = c.maxLocals) {argsL rest : List Value} (hlen : ∀ sig, parseMethodDescriptor y.desc = some sig → argsL.length = sig.parameters.length)
    (hstack : g.stack = argsL.reverse ++ rest) (hW : 2 * g.monitorRoom + (rest.map fun v => v.category).sum ≤ W9) (hdg : decode c.code g.pc = .ok (.invokestatic index, 3))
    (hpre : ∀ vm₁, s.WarmedH vm₁ → Pre ⟨T.setVm vm₁, locs, cells, slots⟩ argsL.toArray) :
    (∃ (v : Option Value) (vm₁ : Vm) (B : Pt), s.WarmedH vm₁ ∧ Stand p l e R s m args below meth c B.U B.locs B.cells B.slots ∧ Post ⟨T.setVm vm₁, locs, cells, slots⟩ argsL.toArray v B ∧
      ∀ target, Steps p.tables e below (B.U.setTop { g with pc := g.pc + 3, stack := v.toList ++ rest }) target → Steps p.tables e below (T.setTop g) target) ∨
    (∃ (q : Addr) (vm₁ : Vm) (B : Pt), s.WarmedH vm₁ ∧ Stand p l e R s m args below meth c B.U B.locs B.cells B.slots ∧ PostX ⟨T.setVm vm₁, locs, cells, slots⟩ argsL.toArray q B ∧
      Steps p.tables e below (T.setTop g) ((B.U.setTop { g with stack := rest }).pushFrame (.throwing q))) := by
  obtain ⟨mk, hnamed⟩ := Cond.code_named hcode
  obtain ⟨methM, cM, hmethM, -, -, -, -, -, -, hsigM⟩ := Cond.code_spec hnamed hcode
  have hstatic : methM.isStatic = true := Cond.static_spec hnamed hmethM hstat
  obtain ⟨kP, hkP, -⟩ := className_of_methodNamed hnamed
  have hinitP : kP.init = .initialized := Cond.initialized_spec (findClass_of_methodNamed hnamed) hkP hinit
  obtain ⟨vm₁, X₁, hstep₁⟩ := X.invokestatic hexec hown hlink hnamed hmethM hstatic hkP hinitP hy (g := g) hg (argsL := argsL) (rest := rest) (hlen _ hsigM) hstack hdg
  rcases hK m meth c ⟨T.setVm vm₁, locs, cells, slots⟩ { g with stack := rest } (.invokestatic index) mk argsL.toArray X₁ hg hsize hdg hW (X₁.named hnamed) (hpre vm₁ X₁.warmed) with ⟨v, B, X', hpost, hsteps⟩ | ⟨q, B, X', hpost, hsteps⟩
  · exact Or.inl ⟨v, vm₁, B, X₁.warmed, X', hpost, fun target h => hstep₁ _ fun acts => by rw [doInvoke_state]; exact hsteps.trans h⟩
  · exact Or.inr ⟨q, vm₁, B, X₁.warmed, X', hpost, hstep₁ _ fun acts => by rw [doInvoke_state]; exact hsteps⟩
end Calls
theorem vx_cls {s : State} {T : State} {vm₁ : Vm} {E : String} {k : ClassId} (hW : s.WarmedH vm₁) (h : (T.setVm vm₁).vm.findClass E = some k) : s.vm.findClass E = some k := by
  have h1 : vm₁.findClass E = some k := h
  rw [hW.alike.findClass] at h1
  exact h1
/-- the method's frame g, with q thrown over it -/
def vx_W (p : Program) (l : Launch) (e : Env) (R : Room) (s : State) (m : MethodId) (args : Array Value) (below : List Frame) (meth : Method) (c : Code) (H : Heap) (locs : List Loc) (cells slots : Nat) (Q : State → Prop) (g : JFrame) (q : Addr) : Prop :=
  ∀ T : State, T.heap = H → Stand p l e R s m args below meth c T locs cells slots → ∃ t, Steps p.tables e below ((T.setTop g).pushFrame (.throwing q)) t ∧ Q t
def vx_Run (p : Program) (l : Launch) (e : Env) (R : Room) (s : State) (m : MethodId) (args : Array Value) (below : List Frame) (meth : Method) (c : Code) (H : Heap) (locs : List Loc) (cells slots mc ms : Nat) (g : JFrame) (rest : List Value) (Qa : State → Outcome → State → Prop) (XC : String → State → State → Prop) (free : Addr → Prop) : Prop :=
  ∀ T : State, T.heap = H → Stand p l e R s m args below meth c T locs cells slots →
    (∃ (v : Option Value) (st₀ t T' : State) (L : List Loc), st₀.heap = H ∧ Stand p l e R s m args below meth c T' (locs ++ L) (cells + mc) (slots + ms) ∧ (∀ q ∈ L, free q.base) ∧ T'.heap = t.heap ∧ T'.vm = t.vm ∧ Qa st₀ (.returned v) t ∧
      Goes p e below T g T' { g with pc := g.pc + 3, stack := v.toList ++ rest }) ∨
    (∃ (q : Addr) (st₀ t T' : State) (L : List Loc) (E : String) (ce : Cell), st₀.heap = H ∧ Stand p l e R s m args below meth c T' (locs ++ L) (cells + mc) (slots + ms) ∧ (∀ z ∈ L, free z.base) ∧ T'.heap = t.heap ∧ T'.vm = t.vm ∧ XC E st₀ t ∧ t.heap[q]? = some ce ∧ ce.vm = .none ∧ s.vm.findClass E = some ce.cls ∧
      Steps p.tables e below (T.setTop g) ((T'.setTop { g with stack := rest }).pushFrame (.throwing q)))
def vx_X {S : Type} (px : S → Prop) (B : String → S → State → Prop) (A : Nat → Prop) : String → State → State → Prop := fun E st t => ∃ u : S, px u ∧ B E u t ∧ va_F A st t
section Runs
variable {p : Program} {l : Launch} {e : Env} {R : Room} {s : State} {m : MethodId} {args : Array Value} {below : List Frame} {meth : Method} {c : Code} {H : Heap} {locs : List Loc} {cells slots : Nat}
variable {y : MethodName} {bytes cc : ByteArray} {maxL nL mc ms n index : Nat} {ret : Option FieldType} {ws : List Cond} {rm : Room} {Pc : Array Value → State → Prop} {Qc : Array Value → State → Outcome → State → Prop} {XC : String → State → State → Prop} {free : Addr → Prop} {Ts : List Cond} {own C : String} {b : Addr} {As rest : List Value} {g : JFrame}
theorem vx_callBack (cb : CallB R s args own index y bytes maxL ret ws rm mc ms n) (hM : vx_Met l y ws rm Pc Qc XC mc ms free) (hbl : FrameBlind Pc) : vx_Back l R p e below s args y 3 8 (PreOf R mc ms Pc) (PostOf Qc mc ms free) (vx_Post XC mc ms free) := by
  obtain ⟨hrc, hrs, hfr, hlo, hws, hcw, -, hini, -⟩ := cb
  exact vx_back (bytes := bytes) (maxL := maxL) (ret := ret) hM hbl hrc hrs hfr hlo hws hcw (fun a' U hW => word_at hW (Or.inl (by first | rfl | simp [Cond.onTables, Cond.keeps, Cond.steady])) hini)
theorem vx_runV (S : CallFix p m c cc nL s args Ts own) (hM : vx_Met l y ws rm Pc Qc XC mc ms free) (cw : CallW R s args own C index y bytes maxL ret ws rm mc ms n) (hp : PreV s H C b Pc As)
    (hg : g.method = m) (hn : As.length = n) (hsize : g.locals.size = nL) (hstack : g.stack = As.reverse ++ .ref b :: rest) (hW : 2 * g.monitorRoom + (rest.map fun v => v.category).sum ≤ 8) (hdg : decode cc g.pc = .ok (.invokevirtual index, 3)) (hf : cells + mc ≤ R.cells ∧ slots + ms ≤ R.slots) :
    vx_Run p l e R s m args below meth c H locs cells slots mc ms g rest (Qc (Value.ref b :: As).toArray) XC free := by
  have hK : vx_Back l R p e below s args y 3 8 (PreOf R mc ms Pc) (PostOf Qc mc ms free) (vx_Post XC mc ms free) := vx_callBack cw.1 hM hp.1
  obtain ⟨⟨-, -, -, -, -, -, hcode, -, hy, hlen, hl⟩, hin, hse⟩ := cw
  obtain ⟨hx, hb, hml, ho, -⟩ := S
  obtain ⟨-, ⟨cellB, hcB, hoB, hclB⟩, hPc⟩ := hp
  intro T hT X
  rcases vx_callV X hx (C := C) (bytes := bytes) (maxL := maxL) (ret := ret) ho hl hin hse hcode hy hK (by rw [hT]; exact hcB) hoB hclB hg (hsize.trans hml.symm) (argsL := As) (rest := rest) (fun sig h => hn.trans (hlen sig h)) hstack hW (by rw [hb]; exact hdg)
    (fun vm₁ hW₁ => ⟨hf.1, hf.2, hPc (T.setVm vm₁) hT hW₁⟩) with ⟨v, vm₁, ⟨U', l2, c2, s2⟩, hW₁, X', ⟨g', mk, t, L, e1, e2, hq, h1, hL, h2, h3⟩, st⟩ | ⟨q, vm₁, ⟨U', l2, c2, s2⟩, hW₁, X', ⟨g', mk, t, L, E, ce, e1, e2, hq, hce, hcv, hcl, h1, hL, h2, h3⟩, st⟩
  · dsimp only [Pt.U, Pt.locs, Pt.cells, Pt.slots] at X' e1 e2 h1 h2 h3 st
    subst h1; subst h2; subst h3
    exact Or.inl ⟨v, (T.setVm vm₁).calling g' mk (Value.ref b :: As).toArray, t, U', L, hT, X', hL, e1, e2, hq, st⟩
  · dsimp only [Pt.U, Pt.locs, Pt.cells, Pt.slots] at X' e1 e2 h1 h2 h3 st hcl
    subst h1; subst h2; subst h3
    exact Or.inr ⟨q, (T.setVm vm₁).calling g' mk (Value.ref b :: As).toArray, t, U', L, E, ce, hT, X', hL, e1, e2, hq, hce, hcv, vx_cls hW₁ hcl, st⟩
theorem vx_runS (S : CallFix p m c cc nL s args Ts own) (hM : vx_Met l y ws rm Pc Qc XC mc ms free) (cw : CallB R s args own index y bytes maxL ret ws rm mc ms n ∧ (Cond.static y).before args s = true) (hp : PreS s H Pc As)
    (hg : g.method = m) (hn : As.length = n) (hsize : g.locals.size = nL) (hstack : g.stack = As.reverse ++ rest) (hW : 2 * g.monitorRoom + (rest.map fun v => v.category).sum ≤ 8) (hdg : decode cc g.pc = .ok (.invokestatic index, 3)) (hf : cells + mc ≤ R.cells ∧ slots + ms ≤ R.slots) :
    vx_Run p l e R s m args below meth c H locs cells slots mc ms g rest (Qc As.toArray) XC free := by
  have hK : vx_Back l R p e below s args y 3 8 (PreOf R mc ms Pc) (PostOf Qc mc ms free) (vx_Post XC mc ms free) := vx_callBack cw.1 hM hp.1
  obtain ⟨⟨-, -, -, -, -, -, hcode, hini, hy, hlen, hl⟩, hstt⟩ := cw
  obtain ⟨hx, hb, hml, ho, -⟩ := S
  intro T hT X
  rcases vx_callS X hx (bytes := bytes) (maxL := maxL) (ret := ret) ho hl hstt hini hcode hy hK hg (hsize.trans hml.symm) (argsL := As) (rest := rest) (fun sig h => hn.trans (hlen sig h)) hstack hW (by rw [hb]; exact hdg)
    (fun vm₁ hW₁ => ⟨hf.1, hf.2, hp.2 (T.setVm vm₁) hT hW₁⟩) with ⟨v, vm₁, ⟨U', l2, c2, s2⟩, hW₁, X', ⟨g', mk, t, L, e1, e2, hq, h1, hL, h2, h3⟩, st⟩ | ⟨q, vm₁, ⟨U', l2, c2, s2⟩, hW₁, X', ⟨g', mk, t, L, E, ce, e1, e2, hq, hce, hcv, hcl, h1, hL, h2, h3⟩, st⟩
  · dsimp only [Pt.U, Pt.locs, Pt.cells, Pt.slots] at X' e1 e2 h1 h2 h3 st
    subst h1; subst h2; subst h3
    exact Or.inl ⟨v, (T.setVm vm₁).calling g' mk As.toArray, t, U', L, hT, X', hL, e1, e2, hq, st⟩
  · dsimp only [Pt.U, Pt.locs, Pt.cells, Pt.slots] at X' e1 e2 h1 h2 h3 st hcl
    subst h1; subst h2; subst h3
    exact Or.inr ⟨q, (T.setVm vm₁).calling g' mk As.toArray, t, U', L, E, ce, hT, X', hL, e1, e2, hq, hce, hcv, vx_cls hW₁ hcl, st⟩
end Runs
section Rows
variable {p : Program} {l : Launch} {e : Env} {R : Room} {s : State} {m : MethodId} {args : Array Value} {below : List Frame} {meth : Method} {c : Code} {H : Heap} {locs : List Loc} {cells slots : Nat} {Q : State → Prop}
variable {mc ms : Nat} {free : Addr → Prop} {A0 A1 : Nat → Prop} {H0 : Heap} {a : Array Value} {pc : Nat} {ls : Array Slot} {st0 rest : List Value}
theorem vx_keep {st₀ t T' : State} {L : List Loc} (h0 : st₀.heap = H) (e1 : T'.heap = t.heap) (hS : va_S A0 H0 H locs) (hA : ∀ q, q < H.size → A1 q → A0 q) (hf : ∀ q, free q → A0 q) (hL : ∀ q ∈ L, free q.base) (hF : va_F A1 st₀ t) :
    H.size ≤ T'.heap.size ∧ (∀ q : Nat, q < H.size → ¬ A1 q → T'.heap[q]? = H[q]?) ∧ va_S A0 H0 T'.heap (locs ++ L) := by
  obtain ⟨hz, hk⟩ := hF
  rw [h0] at hz hk
  exact ⟨by rw [e1]; exact hz, fun q h1 h2 => by rw [e1]; exact hk q h1 h2,
    ⟨Nat.le_trans hS.1 (by rw [e1]; exact hz), fun q h1 h2 => by rw [e1, hk q (Nat.lt_of_lt_of_le h1 hS.1) (fun z => h2 (hA q (Nat.lt_of_lt_of_le h1 hS.1) z))]; exact hS.2.1 q h1 h2, fun q hq => by
      rcases List.mem_append.mp hq with h | h
      · exact hS.2.2 q h
      · exact hf _ (hL q h)⟩⟩
theorem vx_calli {S SX : Type} {post : Int32 → S → Prop} {px : SX → Prop} {B : S → State → Prop} {BX : String → SX → State → Prop} {AX : Nat → Prop} (hr : vx_Run p l e R s m args below meth c H locs cells slots mc ms (F0 m pc ls st0) rest (va_Qi post B A1 a) (vx_X px BX AX) free) (hS : va_S A0 H0 H locs) (hA : ∀ q, q < H.size → A1 q → A0 q) (hf : ∀ q, free q → A0 q) (hAX : ∀ q, q < H.size → AX q → A0 q)
    (kx : ∀ (E : String) (ce : Cell) (q9 : Addr) (u : SX) (t : State) (H1 : Heap) (locs1 : List Loc), t.heap = H1 → s.vm.Alike t.vm → px u → BX E u t → H.size ≤ H1.size → (∀ q : Nat, q < H.size → ¬ AX q → H1[q]? = H[q]?) → va_S A0 H0 H1 locs1 → H1[q9]? = some ce → ce.vm = .none → s.vm.findClass E = some ce.cls → vx_W p l e R s m args below meth c H1 locs1 (cells + mc) (slots + ms) Q (F0 m pc ls rest) q9)
    (kk : ∀ (r : Int32) (u : S) (t : State) (H1 : Heap) (locs1 : List Loc), t.heap = H1 → s.vm.Alike t.vm → post r u → B u t → H.size ≤ H1.size → (∀ q : Nat, q < H.size → ¬ A1 q → H1[q]? = H[q]?) → va_S A0 H0 H1 locs1 → W p l e R s m args below meth c H1 locs1 (cells + mc) (slots + ms) Q (F0 m (pc + 3) ls (.int r :: rest))) : W p l e R s m args below meth c H locs cells slots Q (F0 m pc ls st0) := by
  intro T hT X
  rcases hr T hT X with ⟨v, st₀, t, T', L, h0, X', hL, e1, e2, ⟨⟨r, u, hv, hp, hb⟩, hF⟩, st⟩ | ⟨q, st₀, t, T', L, E, ce, h0, X', hL, e1, e2, ⟨u, hp, hb, hF⟩, hce, hcv, hcl, st⟩
  · cases hv
    obtain ⟨k1, k2, k3⟩ := vx_keep h0 e1 hS hA hf hL hF
    obtain ⟨t2, a1, b1⟩ := kk r u t T'.heap (locs ++ L) e1.symm (by rw [← e2]; exact X'.warmed.alike) hp hb k1 k2 k3 T' rfl X'
    exact ⟨t2, st t2 a1, b1⟩
  · obtain ⟨k1, k2, k3⟩ := vx_keep h0 e1 hS hAX hf hL hF
    obtain ⟨t2, a1, b1⟩ := kx E ce q u t T'.heap (locs ++ L) e1.symm (by rw [← e2]; exact X'.warmed.alike) hp hb k1 k2 k3 (by rw [e1]; exact hce) hcv hcl T' rfl X'
    exact ⟨t2, st.trans a1, b1⟩
theorem vx_calll {S SX : Type} {post : Int64 → S → Prop} {px : SX → Prop} {B : S → State → Prop} {BX : String → SX → State → Prop} {AX : Nat → Prop} (hr : vx_Run p l e R s m args below meth c H locs cells slots mc ms (F0 m pc ls st0) rest (va_Ql post B A1 a) (vx_X px BX AX) free) (hS : va_S A0 H0 H locs) (hA : ∀ q, q < H.size → A1 q → A0 q) (hf : ∀ q, free q → A0 q) (hAX : ∀ q, q < H.size → AX q → A0 q)
    (kx : ∀ (E : String) (ce : Cell) (q9 : Addr) (u : SX) (t : State) (H1 : Heap) (locs1 : List Loc), t.heap = H1 → s.vm.Alike t.vm → px u → BX E u t → H.size ≤ H1.size → (∀ q : Nat, q < H.size → ¬ AX q → H1[q]? = H[q]?) → va_S A0 H0 H1 locs1 → H1[q9]? = some ce → ce.vm = .none → s.vm.findClass E = some ce.cls → vx_W p l e R s m args below meth c H1 locs1 (cells + mc) (slots + ms) Q (F0 m pc ls rest) q9)
    (kk : ∀ (r : Int64) (u : S) (t : State) (H1 : Heap) (locs1 : List Loc), t.heap = H1 → s.vm.Alike t.vm → post r u → B u t → H.size ≤ H1.size → (∀ q : Nat, q < H.size → ¬ A1 q → H1[q]? = H[q]?) → va_S A0 H0 H1 locs1 → W p l e R s m args below meth c H1 locs1 (cells + mc) (slots + ms) Q (F0 m (pc + 3) ls (.long r :: rest))) : W p l e R s m args below meth c H locs cells slots Q (F0 m pc ls st0) := by
  intro T hT X
  rcases hr T hT X with ⟨v, st₀, t, T', L, h0, X', hL, e1, e2, ⟨⟨r, u, hv, hp, hb⟩, hF⟩, st⟩ | ⟨q, st₀, t, T', L, E, ce, h0, X', hL, e1, e2, ⟨u, hp, hb, hF⟩, hce, hcv, hcl, st⟩
  · cases hv
    obtain ⟨k1, k2, k3⟩ := vx_keep h0 e1 hS hA hf hL hF
    obtain ⟨t2, a1, b1⟩ := kk r u t T'.heap (locs ++ L) e1.symm (by rw [← e2]; exact X'.warmed.alike) hp hb k1 k2 k3 T' rfl X'
    exact ⟨t2, st t2 a1, b1⟩
  · obtain ⟨k1, k2, k3⟩ := vx_keep h0 e1 hS hAX hf hL hF
    obtain ⟨t2, a1, b1⟩ := kx E ce q u t T'.heap (locs ++ L) e1.symm (by rw [← e2]; exact X'.warmed.alike) hp hb k1 k2 k3 (by rw [e1]; exact hce) hcv hcl T' rfl X'
    exact ⟨t2, st.trans a1, b1⟩
theorem vx_callf {S SX : Type} {post : UInt32 → S → Prop} {px : SX → Prop} {B : S → State → Prop} {BX : String → SX → State → Prop} {AX : Nat → Prop} (hr : vx_Run p l e R s m args below meth c H locs cells slots mc ms (F0 m pc ls st0) rest (va_Qf post B A1 a) (vx_X px BX AX) free) (hS : va_S A0 H0 H locs) (hA : ∀ q, q < H.size → A1 q → A0 q) (hf : ∀ q, free q → A0 q) (hAX : ∀ q, q < H.size → AX q → A0 q)
    (kx : ∀ (E : String) (ce : Cell) (q9 : Addr) (u : SX) (t : State) (H1 : Heap) (locs1 : List Loc), t.heap = H1 → s.vm.Alike t.vm → px u → BX E u t → H.size ≤ H1.size → (∀ q : Nat, q < H.size → ¬ AX q → H1[q]? = H[q]?) → va_S A0 H0 H1 locs1 → H1[q9]? = some ce → ce.vm = .none → s.vm.findClass E = some ce.cls → vx_W p l e R s m args below meth c H1 locs1 (cells + mc) (slots + ms) Q (F0 m pc ls rest) q9)
    (kk : ∀ (r : UInt32) (u : S) (t : State) (H1 : Heap) (locs1 : List Loc), t.heap = H1 → s.vm.Alike t.vm → post r u → B u t → H.size ≤ H1.size → (∀ q : Nat, q < H.size → ¬ A1 q → H1[q]? = H[q]?) → va_S A0 H0 H1 locs1 → W p l e R s m args below meth c H1 locs1 (cells + mc) (slots + ms) Q (F0 m (pc + 3) ls (.float r :: rest))) : W p l e R s m args below meth c H locs cells slots Q (F0 m pc ls st0) := by
  intro T hT X
  rcases hr T hT X with ⟨v, st₀, t, T', L, h0, X', hL, e1, e2, ⟨⟨r, u, hv, hp, hb⟩, hF⟩, st⟩ | ⟨q, st₀, t, T', L, E, ce, h0, X', hL, e1, e2, ⟨u, hp, hb, hF⟩, hce, hcv, hcl, st⟩
  · cases hv
    obtain ⟨k1, k2, k3⟩ := vx_keep h0 e1 hS hA hf hL hF
    obtain ⟨t2, a1, b1⟩ := kk r u t T'.heap (locs ++ L) e1.symm (by rw [← e2]; exact X'.warmed.alike) hp hb k1 k2 k3 T' rfl X'
    exact ⟨t2, st t2 a1, b1⟩
  · obtain ⟨k1, k2, k3⟩ := vx_keep h0 e1 hS hAX hf hL hF
    obtain ⟨t2, a1, b1⟩ := kx E ce q u t T'.heap (locs ++ L) e1.symm (by rw [← e2]; exact X'.warmed.alike) hp hb k1 k2 k3 (by rw [e1]; exact hce) hcv hcl T' rfl X'
    exact ⟨t2, st.trans a1, b1⟩
theorem vx_calld {S SX : Type} {post : UInt64 → S → Prop} {px : SX → Prop} {B : S → State → Prop} {BX : String → SX → State → Prop} {AX : Nat → Prop} (hr : vx_Run p l e R s m args below meth c H locs cells slots mc ms (F0 m pc ls st0) rest (va_Qd post B A1 a) (vx_X px BX AX) free) (hS : va_S A0 H0 H locs) (hA : ∀ q, q < H.size → A1 q → A0 q) (hf : ∀ q, free q → A0 q) (hAX : ∀ q, q < H.size → AX q → A0 q)
    (kx : ∀ (E : String) (ce : Cell) (q9 : Addr) (u : SX) (t : State) (H1 : Heap) (locs1 : List Loc), t.heap = H1 → s.vm.Alike t.vm → px u → BX E u t → H.size ≤ H1.size → (∀ q : Nat, q < H.size → ¬ AX q → H1[q]? = H[q]?) → va_S A0 H0 H1 locs1 → H1[q9]? = some ce → ce.vm = .none → s.vm.findClass E = some ce.cls → vx_W p l e R s m args below meth c H1 locs1 (cells + mc) (slots + ms) Q (F0 m pc ls rest) q9)
    (kk : ∀ (r : UInt64) (u : S) (t : State) (H1 : Heap) (locs1 : List Loc), t.heap = H1 → s.vm.Alike t.vm → post r u → B u t → H.size ≤ H1.size → (∀ q : Nat, q < H.size → ¬ A1 q → H1[q]? = H[q]?) → va_S A0 H0 H1 locs1 → W p l e R s m args below meth c H1 locs1 (cells + mc) (slots + ms) Q (F0 m (pc + 3) ls (.double r :: rest))) : W p l e R s m args below meth c H locs cells slots Q (F0 m pc ls st0) := by
  intro T hT X
  rcases hr T hT X with ⟨v, st₀, t, T', L, h0, X', hL, e1, e2, ⟨⟨r, u, hv, hp, hb⟩, hF⟩, st⟩ | ⟨q, st₀, t, T', L, E, ce, h0, X', hL, e1, e2, ⟨u, hp, hb, hF⟩, hce, hcv, hcl, st⟩
  · cases hv
    obtain ⟨k1, k2, k3⟩ := vx_keep h0 e1 hS hA hf hL hF
    obtain ⟨t2, a1, b1⟩ := kk r u t T'.heap (locs ++ L) e1.symm (by rw [← e2]; exact X'.warmed.alike) hp hb k1 k2 k3 T' rfl X'
    exact ⟨t2, st t2 a1, b1⟩
  · obtain ⟨k1, k2, k3⟩ := vx_keep h0 e1 hS hAX hf hL hF
    obtain ⟨t2, a1, b1⟩ := kx E ce q u t T'.heap (locs ++ L) e1.symm (by rw [← e2]; exact X'.warmed.alike) hp hb k1 k2 k3 (by rw [e1]; exact hce) hcv hcl T' rfl X'
    exact ⟨t2, st.trans a1, b1⟩
theorem vx_callv {S SX : Type} {post : S → Prop} {px : SX → Prop} {B : S → State → Prop} {BX : String → SX → State → Prop} {AX : Nat → Prop} (hr : vx_Run p l e R s m args below meth c H locs cells slots mc ms (F0 m pc ls st0) rest (va_Qv post B A1 a) (vx_X px BX AX) free) (hS : va_S A0 H0 H locs) (hA : ∀ q, q < H.size → A1 q → A0 q) (hf : ∀ q, free q → A0 q) (hAX : ∀ q, q < H.size → AX q → A0 q)
    (kx : ∀ (E : String) (ce : Cell) (q9 : Addr) (u : SX) (t : State) (H1 : Heap) (locs1 : List Loc), t.heap = H1 → s.vm.Alike t.vm → px u → BX E u t → H.size ≤ H1.size → (∀ q : Nat, q < H.size → ¬ AX q → H1[q]? = H[q]?) → va_S A0 H0 H1 locs1 → H1[q9]? = some ce → ce.vm = .none → s.vm.findClass E = some ce.cls → vx_W p l e R s m args below meth c H1 locs1 (cells + mc) (slots + ms) Q (F0 m pc ls rest) q9)
    (kk : ∀ (u : S) (t : State) (H1 : Heap) (locs1 : List Loc), t.heap = H1 → s.vm.Alike t.vm → post u → B u t → H.size ≤ H1.size → (∀ q : Nat, q < H.size → ¬ A1 q → H1[q]? = H[q]?) → va_S A0 H0 H1 locs1 → W p l e R s m args below meth c H1 locs1 (cells + mc) (slots + ms) Q (F0 m (pc + 3) ls (rest))) : W p l e R s m args below meth c H locs cells slots Q (F0 m pc ls st0) := by
  intro T hT X
  rcases hr T hT X with ⟨v, st₀, t, T', L, h0, X', hL, e1, e2, ⟨⟨u, hv, hp, hb⟩, hF⟩, st⟩ | ⟨q, st₀, t, T', L, E, ce, h0, X', hL, e1, e2, ⟨u, hp, hb, hF⟩, hce, hcv, hcl, st⟩
  · cases hv
    obtain ⟨k1, k2, k3⟩ := vx_keep h0 e1 hS hA hf hL hF
    obtain ⟨t2, a1, b1⟩ := kk u t T'.heap (locs ++ L) e1.symm (by rw [← e2]; exact X'.warmed.alike) hp hb k1 k2 k3 T' rfl X'
    exact ⟨t2, st t2 a1, b1⟩
  · obtain ⟨k1, k2, k3⟩ := vx_keep h0 e1 hS hAX hf hL hF
    obtain ⟨t2, a1, b1⟩ := kx E ce q u t T'.heap (locs ++ L) e1.symm (by rw [← e2]; exact X'.warmed.alike) hp hb k1 k2 k3 (by rw [e1]; exact hce) hcv hcl T' rfl X'
    exact ⟨t2, st.trans a1, b1⟩
/-- caught by the row x of this method's table; the rows ahead don't take it -/
theorem vx_catch {own name : String} {E : String} {ce : Cell} {q : Addr} (hown : s.vm.findClass own = some m.cls) (pre : List ExceptionTableEntry) (x : ExceptionTableEntry) (suf : List ExceptionTableEntry) (hsplit : c.exceptionTable.toList = pre ++ x :: suf)
    (hpass : ∀ z ∈ pre, covers z pc = false ∨ (z.catchType ≠ 0 ∧ ∃ nm : String, (Cond.classLink own z.catchType nm).before args s = true ∧ va_Nc E nm s)) (hx : covers x pc = true) (h0 : x.catchType ≠ 0)
    (hlink : (Cond.classLink own x.catchType name).before args s = true) (hcast : (Cond.castable E name).before args s = true) (hcell : H[q]? = some ce) (hv : ce.vm = .none) (hcl : s.vm.findClass E = some ce.cls)
    (kk : W p l e R s m args below meth c H locs cells slots Q (F0 m x.handlerPc ls [.ref q])) : vx_W p l e R s m args below meth c H locs cells slots Q (F0 m pc ls rest) q := by
  intro T hT X
  have hpl : e.platform.magicAccessors = ({} : Platform).magicAccessors := by rw [X.admits.platform]
  obtain ⟨c3, c4, hc3, hc4, hasg⟩ := Cond.castable_spec hcast
  cases Option.some.inj (hc3.symm.trans hcl)
  obtain ⟨c5, hc5, hcl5⟩ := Cond.classLink_spec hown hlink e.platform hpl
  cases Option.some.inj (hc4.symm.trans hc5)
  obtain ⟨vm', X', st⟩ := X.thenCaughtThrough q (g := F0 m pc ls rest) rfl (Steps.refl _) (by rw [hT]; exact hcell) (by rw [hv]; rfl) (by obtain ⟨k9, h9, -⟩ := Vm.findClass_spec hcl; exact ⟨k9, h9⟩) pre x suf hsplit
    (fun z hz => by
      rcases hpass z hz with h | ⟨hz0, nm, hl1, hn1⟩
      · exact Or.inl h
      · obtain ⟨c6, hc6, hcl6⟩ := Cond.classLink_spec hown hl1 e.platform hpl
        obtain ⟨a8, b8, h1, h2, h3⟩ := hn1
        cases Option.some.inj (h1.symm.trans hcl)
        cases Option.some.inj (h2.symm.trans hc6)
        exact Or.inr ⟨hz0, _, hcl6, h3⟩) hx (Or.inr ⟨h0, c4, hcl5, hasg⟩)
  obtain ⟨t, a1, b1⟩ := kk (T.setVm vm') hT X'
  exact ⟨t, st.trans a1, b1⟩
end Rows
section Ends
variable {p : Program} {l : Launch} {e : Env} {R : Room} {s : State} {m : MethodId} {args : Array Value} {below : List Frame} {meth : Method} {c : Code} {H : Heap} {locs : List Loc} {cells slots : Nat} {Q : State → Prop}
variable {mc ms : Nat} {free : Addr → Prop} {A0 A1 : Nat → Prop} {H0 : Heap} {a : Array Value} {ls : Array Slot} {st0 rest : List Value}
variable {Qc : Array Value → State → Outcome → State → Prop} {XC : String → State → State → Prop}
/-- what a body that may throw owes at its end -/
def vx_MQ (below : List Frame) (Qc : Array Value → State → Outcome → State → Prop) (XC : String → State → State → Prop) (a : Array Value) (s : State) (mc ms : Nat) (free : Addr → Prop) : State → Prop := fun t =>
  ∃ o, t.status = .running ∧ Ended t below o ∧ vx_Q Qc XC mc ms free a s o t
theorem vx_ret {g : JFrame} {mc ms : Nat} (k : W p l e R s m args below meth c H locs cells slots (MQ below Qc args s mc ms free) g) : W p l e R s m args below meth c H locs cells slots (vx_MQ below Qc XC args s mc ms free) g := by
  intro T hT X
  obtain ⟨t, a1, o, b1, b2, b3, b4⟩ := k T hT X
  exact ⟨t, a1, o, b1, b2, Or.inl ⟨b3, b4⟩⟩
/-- not caught here: it goes on to the caller -/
theorem vx_widen {g : JFrame} {q : Addr} {k n : Nat} (h1 : cells ≤ k) (h2 : slots ≤ n) (kk : vx_W p l e R s m args below meth c H locs k n Q g q) : vx_W p l e R s m args below meth c H locs cells slots Q g q := fun T hT X => kk T hT (stand_widen X h1 h2)
theorem vx_out {pc : Nat} {E : String} {ce : Cell} {q : Addr} {mc ms : Nat} (hout : ∀ x ∈ c.exceptionTable.toList, covers x pc = false) (hlocks : meth.locks = false) (hcell : H[q]? = some ce) (hv : ce.vm = .none) (hcl : s.vm.findClass E = some ce.cls)
    (hx : ∀ t : State, t.heap = H → s.vm.Alike t.vm → XC E s t) (hf : ∀ z ∈ locs, free z.base) (hc : cells ≤ mc) (hs : slots ≤ ms) :
    vx_W p l e R s m args below meth c H locs cells slots (vx_MQ below Qc XC args s mc ms free) (F0 m pc ls rest) q := by
  intro T hT X
  obtain ⟨st1, hrun, hend, hW, hsm⟩ := X.leaveThrown q (g := F0 m pc ls rest) rfl rfl rfl hout hlocks
  have hcell9 : (T.setFrames (.throwing q :: below)).heap[q]? = some ce := by
    show T.heap[q]? = some ce
    rw [hT]; exact hcell
  exact ⟨_, st1, .threw q, hrun, hend, Or.inr ⟨q, rfl, E, ce, locs, hx _ hT hW.alike, hcell9, hv, hcl, hW, hsm.mono hc hs, hf⟩⟩
theorem vx_frame {U : State} {k n : Nat} (h : s.sameButNew ({ U with vm := s.vm } : State) locs k n) : s.heap.size ≤ U.heap.size ∧ ∀ q : Nat, q < s.heap.size → (∀ z ∈ locs, z.base ≠ q) → U.heap[q]? = s.heap[q]? := by
  obtain ⟨-, h2, -, -, -, h6⟩ := h
  refine ⟨h2, fun q hq hz => ?_⟩
  obtain ⟨c9, e1, e2, e3, e4⟩ := h6 q _ (Array.getElem?_eq_getElem hq)
  have hs : c9.slots = (s.heap[q]).slots := Array.ext_getElem? fun i => e4 i fun hm => hz _ hm rfl
  have h9 : c9 = s.heap[q] := by
    rw [hs] at e2
    exact e2
  have e5 : U.heap[q]? = some c9 := e1
  rw [e5, h9, Array.getElem?_eq_getElem hq]
/-- the words of a throw but the four that speak of the heap -/
def vx_no (w : Cond) : Bool := decide (w ≠ .isRef (.static Bundle.tN "UNASSIGNED_STACK" Bundle.steD)) && decide (w ≠ .isRef (.static Bundle.tN "SUPPRESSED_SENTINEL" Bundle.listD)) && decide (w ≠ .laysStatic Bundle.tN "UNASSIGNED_STACK" Bundle.steD) && decide (w ≠ .laysStatic Bundle.tN "SUPPRESSED_SENTINEL" Bundle.listD)
def vx_at0 (own : String) (ic : Nat) (X : String) (names : List String) : List Cond := (Bundle.ownAtoms0 own ic X names).filter vx_no
def vx_atS (own : String) (ic : Nat) (X : String) (names : List String) : List Cond := (Bundle.ownAtoms own ic X names).filter vx_no
/-- a word that the tables alone decide, or a good one -/
def vx_ot (w : Cond) : Bool := w.onTables || goodWord w
theorem vx_ot_at {args a' : Array Value} {s U : State} {w : Cond} (hW : s.WarmedH U.vm) (hvm : s.vm = U.vm) (hg : vx_ot w = true) (h : w.before args s = true) : w.before a' U = true := by
  simp only [vx_ot, Bool.or_eq_true] at hg
  rcases hg with hg | hg
  · exact va_tabs hg hvm h
  · exact word_at hW (good_of_word hg) h
/-- a list's words: the good ones out of the method's own list, the others by premises of their own -/
theorem vx_hat {args : Array Value} {s : State} {L B : List Cond} (h1 : ∀ w ∈ L.filter goodWord, w.before args s = true) (h2 : ∀ w ∈ L.filter (fun w => !goodWord w), w ∈ B) (h3 : ∀ w ∈ B, w.before args s = true) : ∀ w ∈ L, w.before args s = true := by
  intro w hw
  by_cases g : goodWord w = true
  · exact h1 w (List.mem_filter.mpr ⟨hw, g⟩)
  · refine h3 w (h2 w (List.mem_filter.mpr ⟨hw, ?_⟩))
    show (!goodWord w) = true
    cases hgw : goodWord w
    · rfl
    · exact absurd hgw g
theorem vx_c {args : Array Value} {s : State} {w : Cond} {B : List Cond} (h : w.before args s = true) (t : ∀ w ∈ B, w.before args s = true) : ∀ w' ∈ w :: B, w'.before args s = true := fun w' h' => (List.mem_cons.mp h').elim (fun e => by rw [e]; exact h) (t w')
theorem vx_n {args : Array Value} {s : State} : ∀ w ∈ ([] : List Cond), w.before args s = true := fun _ h => nomatch h
theorem vx_own {args : Array Value} {s : State} {L : List Cond} (h1 : ∀ w ∈ L.filter vx_no, w.before args s = true)
    (hU : (Cond.isRef (.static Bundle.tN "UNASSIGNED_STACK" Bundle.steD)).before args s = true) (hN : (Cond.isRef (.static Bundle.tN "SUPPRESSED_SENTINEL" Bundle.listD)).before args s = true)
    (lU : (Cond.laysStatic Bundle.tN "UNASSIGNED_STACK" Bundle.steD).before args s = true) (lN : (Cond.laysStatic Bundle.tN "SUPPRESSED_SENTINEL" Bundle.listD).before args s = true) : ∀ w ∈ L, w.before args s = true := by
  intro w hw
  by_cases e1 : w = .isRef (.static Bundle.tN "UNASSIGNED_STACK" Bundle.steD)
  · rw [e1]; exact hU
  · by_cases e2 : w = .isRef (.static Bundle.tN "SUPPRESSED_SENTINEL" Bundle.listD)
    · rw [e2]; exact hN
    · by_cases e3 : w = .laysStatic Bundle.tN "UNASSIGNED_STACK" Bundle.steD
      · rw [e3]; exact lU
      · by_cases e4 : w = .laysStatic Bundle.tN "SUPPRESSED_SENTINEL" Bundle.listD
        · rw [e4]; exact lN
        · exact h1 w (List.mem_filter.mpr ⟨hw, by unfold vx_no; rw [decide_eq_true e1, decide_eq_true e2, decide_eq_true e3, decide_eq_true e4]; rfl⟩)
/-- where a static field lies, its class's statics cell in H -/
def vx_L (C n d : String) (A : Nat → Prop) (U : State) (H : Heap) : Prop := ∃ (c : ClassId) (k : Class) (i : Nat) (f : Field) (a : Nat) (cell : Cell), U.vm.findClass C = some c ∧ U.fieldFound? C n d = some (c, k, i, f) ∧ f.isStatic = true ∧ k.statics = some a ∧ H[a]? = some cell ∧ cell.vm.isStatics = true ∧ cell.cls = c ∧ f.slot < cell.slots.size ∧ k.staticTypes[f.slot]? = some f.type ∧ ¬ A a
theorem vx_L.moved {C n d : String} {A : Nat → Prop} {u U : State} {H : Heap} (hvm : u.vm.Alike U.vm) (h : vx_L C n d A u H) : vx_L C n d A U H := by
  obtain ⟨c, k, i, f, a, cell, h1, h2, h3, h4, h5, h6, h7, h8, h9, h10⟩ := h
  obtain ⟨k', hi', he⟩ := State.fieldFound?_setVm hvm h2
  exact ⟨c, k', i, f, a, cell, by rw [hvm.findClass]; exact h1, hi', h3, by rw [he]; exact h4, h5, h6, h7, h8, by rw [he]; exact h9, h10⟩
theorem vx_L.kept {C n d : String} {A : Nat → Prop} {U : State} {H H1 : Heap} (h : vx_L C n d A U H) (hq : ∀ a : Nat, a < H.size → ¬ A a → H1[a]? = H[a]?) : vx_L C n d A U H1 := by
  obtain ⟨c, k, i, f, a, cell, h1, h2, h3, h4, h5, h6, h7, h8, h9, h10⟩ := h
  exact ⟨c, k, i, f, a, cell, h1, h2, h3, h4, by rw [hq a (Array.getElem?_eq_some_iff.mp h5).1 h10]; exact h5, h6, h7, h8, h9, h10⟩
theorem vx_L.narrow {C n d : String} {A B : Nat → Prop} {U : State} {H : Heap} (h : vx_L C n d A U H) (hAB : ∀ q, B q → A q) : vx_L C n d B U H := by
  obtain ⟨c, k, i, f, a, cell, h1, h2, h3, h4, h5, h6, h7, h8, h9, h10⟩ := h
  exact ⟨c, k, i, f, a, cell, h1, h2, h3, h4, h5, h6, h7, h8, h9, fun z => h10 (hAB _ z)⟩
theorem vx_L.word {C n d : String} {A : Nat → Prop} {s : State} {args : Array Value} (h : vx_L C n d A s s.heap) : (Cond.laysStatic C n d).before args s = true := by
  obtain ⟨c, k, i, f, a, cell, h1, h2, h3, h4, h5, h6, h7, h8, h9, -⟩ := h
  show (Cond.laysStatic C n d).holds args s none s [] = true
  exact Cond.laysStatic_of h1 h2 h3 h4 h5 h6 h7 h8 h9
/-- .. and what it holds: null or some reference -/
def vx_Zq (C n d : String) (A : Nat → Prop) (U : State) (H : Heap) : Prop := va_Zq C n d A U H ∧ vx_L C n d A U H
theorem vx_Zq.moved {C n d : String} {A : Nat → Prop} {u U : State} {H : Heap} (hvm : u.vm.Alike U.vm) (h : vx_Zq C n d A u H) : vx_Zq C n d A U H := ⟨va_Zq.moved hvm h.1, vx_L.moved hvm h.2⟩
theorem vx_Zq.kept {C n d : String} {A : Nat → Prop} {U : State} {H H1 : Heap} (h : vx_Zq C n d A U H) (hq : ∀ a : Nat, a < H.size → ¬ A a → H1[a]? = H[a]?) : vx_Zq C n d A U H1 := ⟨va_Zq.kept h.1 hq, vx_L.kept h.2 hq⟩
theorem vx_Zq.narrow {C n d : String} {A B : Nat → Prop} {U : State} {H : Heap} (h : vx_Zq C n d A U H) (hAB : ∀ q, B q → A q) : vx_Zq C n d B U H := ⟨va_Zq.narrow h.1 hAB, vx_L.narrow h.2 hAB⟩
theorem vx_Zqof {args : Array Value} {s : State} {C n d : String} {A : Nat → Prop} (hl : (Cond.laysStatic C n d).before args s = true) (hini : (Cond.initialized C).before args s = true) (h : (Cond.isRef (.static C n d)).before args s = true) (hA : ∀ a : Nat, a < s.heap.size → ¬ A a) : vx_Zq C n d A s s.heap := by
  refine ⟨va_Zqof hl hini h hA, ?_⟩
  obtain ⟨c, k, i, f, a, cell, h1, h2, h3, h4, h5, h6, h7, h8, h9⟩ := Cond.laysStatic_spec hl
  exact ⟨c, k, i, f, a, cell, h1, h2, h3, h4, h5, h6, h7, h8, h9, hA a (Array.getElem?_eq_some_iff.mp h5).1⟩
theorem vx_isRef {C n d : String} {v : Value} {A : Nat → Prop} {s : State} {args : Array Value} (h : va_Z C n d v A s s.heap) (hv : v.isRef = true) : (Cond.isRef (.static C n d)).before args s = true := by
  obtain ⟨cf, kf, fi, f, a, cell, h1, h2, h3, h4, h5, h6, h7, -⟩ := h
  have he : (Term.static C n d).eval args s none [] s = some v := by
    simp [Term.eval, State.fieldNamed?, h1, h2, h4, h5, h6, h7]
  simp only [Cond.before, Cond.holds, Cond.value, he]
  cases v <;> simp_all [Value.isRef]
theorem vx_isRefq {C n d : String} {A : Nat → Prop} {s : State} {args : Array Value} (h : va_Zq C n d A s s.heap) : (Cond.isRef (.static C n d)).before args s = true := by
  rcases h with h | ⟨t, h⟩
  · exact vx_isRef h rfl
  · exact vx_isRef h rfl
/-- the same frame, seen from here: as if the method were called anew in this heap -/
theorem vx_rebase {T : State} (X : Stand p l e R s m args below meth c T locs cells slots) {R' : Room} (hf : R'.frames ≤ R.frames) (hl : R'.locals ≤ R.locals) (hc : cells + R'.cells ≤ R.cells) (hs : slots + R'.slots ≤ R.slots) :
    Stand p l e R' ((T.setVm s.vm).setFrames (.invoking m args :: below)) m args below meth c T [] 0 0 := by
  have htop : (T.setVm s.vm).topJava?.isSome := X.here.top
  have hF : ((T.setVm s.vm).setFrames (.invoking m args :: below)).frames = .invoking m args :: below := State.frames_setFrames _ (State.cur_lt_of_top htop)
  obtain ⟨g₀, hg0⟩ := Option.isSome_iff_exists.mp htop
  obtain ⟨r, hr⟩ := State.topJava?_eq_some.mp hg0
  have hl9 : e.platform.stackLimits (T.setVm s.vm).me = e.platform.stackLimits s.me := X.limits
  have hb9 : (T.setVm s.vm).me.stackBytes = s.me.stackBytes := X.bytes
  refine ⟨X.admits, X.cas, X.clock, hF, ?_, X.hears, X.method, X.code, X.here, X.tail, X.warmed, ?_, ?_, ?_⟩
  · have h := X.room
    have hU : ((T.setVm s.vm).setFrames (.invoking m args :: below)).localsInUse = s.localsInUse := by
      rw [State.localsInUse_invoking hF (meth := meth) (c := c) X.method X.code, State.localsInUse_invoking X.frames X.method X.code]
    simp only [State.hasRoom, Bool.and_eq_true, decide_eq_true_eq] at h ⊢
    obtain ⟨⟨⟨⟨h1, h2, h3, h4, h5, h6⟩, h7⟩, h8⟩, h9⟩ := h
    rw [X.frames, List.length_cons] at h2 h3
    have q1 := X.heapSize
    have q2 := X.used
    simp only [hF, hU, List.length_cons, State.stackLimits_setFrames, State.stackBytes_setFrames, hl9, hb9]
    refine ⟨⟨⟨⟨by omega, by omega, by omega, by omega, by omega, h6⟩, ?_⟩, ?_⟩, X.book⟩
    · show T.heap.size + R'.cells ≤ e.platform.maxCells
      omega
    · show T.slotsUsed + R'.slots ≤ e.platform.maxSlots
      omega
  · rw [State.stackLimits_setFrames]; rfl
  · rw [State.stackBytes_setFrames]; rfl
  · refine ⟨?_, Nat.le_refl _, Nat.le_refl _, ?_, ?_, fun a c9 h9 => ⟨c9, h9, rfl, rfl, fun _ _ => rfl⟩⟩
    · obtain ⟨t, ht, -⟩ := State.frames_cons hr
      show T.setVm s.vm = { ((T.setVm s.vm).setFrames (.invoking m args :: below)).setFrames (T.setVm s.vm).frames with heap := T.heap, slotsUsed := T.slotsUsed }
      rw [State.setFrames_setFrames, State.setFrames_self ht]
      rfl
    · show T.slotsUsed = T.slotsUsed + ((T.heap.toList.drop T.heap.size).map (·.slots.size)).sum
      rw [List.drop_eq_nil_of_le (Nat.le_of_eq Array.length_toList)]
      rfl
    · show ((T.heap.toList.drop T.heap.size).map (·.slots.size)).sum ≤ 0
      rw [List.drop_eq_nil_of_le (Nat.le_of_eq Array.length_toList)]
      exact Nat.le_refl _
/-- 'throw new E()': new; dup; invokespecial; athrow -/
theorem vx_throw0 {cc : ByteArray} {pc : Nat} (hexec : p.tables.exec = Jvm.exec) (hb : c.code = cc) (hl : l.stackTraces = false) {own cls : String} {names : List String} {ik ic mc ms : Nat} {A : Nat → Prop}
    (hown : s.vm.findClass own = some m.cls) (hcls : Bundle.fit cls = true) (hnames : ∀ n ∈ names, Bundle.fit n = true)
    (hk : (Cond.classLink own ik cls).before args s = true) (hini : (Cond.initialized cls).before args s = true) (hat : ∀ w ∈ vx_at0 own ic cls names, w.before args s = true)
    (hgood : ∀ w ∈ Cond.classLink own ik cls :: Cond.initialized cls :: vx_at0 own ic cls names, vx_ot w = true)
    (hU : vx_Zq Bundle.tN "UNASSIGNED_STACK" Bundle.steD A s s.heap) (hN : vx_Zq Bundle.tN "SUPPRESSED_SENTINEL" Bundle.listD A s s.heap) (hS : va_S A s.heap H locs) (hsize : ls.size = c.maxLocals)
    (d0 : decode cc pc = .ok (.new ik, 3)) (d3 : decode cc (pc + 3) = .ok (.dup, 1)) (d4 : decode cc (pc + 4) = .ok (.invokespecial ic, 3)) (d7 : decode cc (pc + 7) = .ok (.athrow, 1))
    (hout : ∀ x ∈ c.exceptionTable.toList, covers x (pc + 7) = false)
    (hRframes : names.length + 3 < R.frames) (hRlocals : (rest.map fun v => v.category).sum + (13 * (names.length + 1) + 42) ≤ R.locals) (hRcells : cells + 1 ≤ R.cells) (hRslots : slots + 6 ≤ R.slots) (hlocks : meth.locks = false)
    (hx : ∀ t : State, s.vm.Alike t.vm → H.size ≤ t.heap.size → (∀ q : Nat, q < H.size → t.heap[q]? = H[q]?) → XC cls s t)
    (hf : ∀ z ∈ locs, free z.base) (hc : cells + 1 ≤ mc) (hs : slots + 6 ≤ ms) :
    W p l e R s m args below meth c H locs cells slots (vx_MQ below Qc XC args s mc ms free) (F0 m pc ls rest) := by
  intro T hT X
  have htr : e.platform.stackTraces = false := (show e.platform.stackTraces = l.stackTraces by rw [X.admits.platform]).trans hl
  have Y := vx_rebase X (R' := { frames := R.frames, locals := R.locals, cells := 1, slots := 6 }) (Nat.le_refl _) (Nat.le_refl _) hRcells hRslots
  obtain ⟨s', hA⟩ : ∃ z, z = (T.setVm s.vm).setFrames (.invoking m args :: below) := ⟨_, rfl⟩
  rw [← hA] at Y
  have hvm : s'.vm = s.vm := by rw [hA]; rfl
  have hhp : s'.heap = H := by rw [hA]; exact hT
  have hW0 : s.WarmedH s'.vm := by rw [hvm]; exact State.WarmedH.refl s
  have hat' : ∀ w ∈ vx_at0 own ic cls names, w.before args s' = true := fun w hw => vx_ot_at hW0 hvm.symm (hgood w (List.mem_cons_of_mem _ (List.mem_cons_of_mem _ hw))) (hat w hw)
  have hk' : (Cond.classLink own ik cls).before args s' = true := vx_ot_at hW0 hvm.symm (hgood _ List.mem_cons_self) hk
  have hini' : (Cond.initialized cls).before args s' = true := vx_ot_at hW0 hvm.symm (hgood _ (List.mem_cons_of_mem _ List.mem_cons_self)) hini
  have hU' : vx_Zq Bundle.tN "UNASSIGNED_STACK" Bundle.steD A s' s'.heap := by rw [hhp]; exact vx_Zq.moved hW0.alike (hU.kept hS.2.1)
  have hN' : vx_Zq Bundle.tN "SUPPRESSED_SENTINEL" Bundle.listD A s' s'.heap := by rw [hhp]; exact vx_Zq.moved hW0.alike (hN.kept hS.2.1)
  have h : ∀ w ∈ Bundle.ownAtoms0 own ic cls names, w.before args s' = true := vx_own hat' (vx_isRefq hU'.1) (vx_isRefq hN'.1) hU'.2.word hN'.2.word
  have hown' : s'.vm.findClass own = some m.cls := by rw [hvm]; exact hown
  have hins : (Cond.instantiable cls 6).before args s' = true := h _ (by simp [Bundle.ownAtoms0])
  obtain ⟨vm₁, cX, kX, hfX, hkX, -, -, X₁, st1⟩ := Y.newCold hexec (own := own) (C := cls) (index := ik) (n := 6) hown' hk' hins hini'
    (g := F0 m pc ls rest) rfl (by rw [hb]; exact d0) (Nat.le_refl _) (Nat.le_refl _)
  generalize hT1 : (T.setVm vm₁).pushCell { cls := cX, slots := kX.instanceTypes.map defaultValue, vm := .none } = T1 at X₁ st1
  have hcat : (Value.ref T.heap.size).category = 1 := rfl
  have hcellA : T1.heap[T.heap.size]? = some (freshCell cX kX) := by rw [← hT1]; exact State.heap_pushCell_size _ _
  have d3' : decode c.code (pc + 3) = .ok (.dup, 1) := by rw [hb]; exact d3
  obtain ⟨U, hsteps, hrun, hend, hW, hsame, ce, hce, hO⟩ := X₁.ctorThrow0 hexec htr (own := own) (cls := cls) (names := names) (ic := ic) hown' hcls hnames h (fun x hx => nomatch hx) hfX hkX hcellA (by rw [hhp, hT]; exact Nat.le_refl _)
    (g := { method := m, pc := pc + 4, locals := ls, stack := .ref T.heap.size :: .ref T.heap.size :: rest, locked := none }) rfl hsize rfl rfl (rest := rest) rfl
    (by rw [hb]; exact d4) (by rw [hb]; exact d7) hout hRframes (by simp only [List.map_cons, List.sum_cons, hcat]; omega) hlocks
  obtain ⟨f1, f2⟩ := vx_frame hsame
  rw [hhp] at f1 f2
  have hWs : s.WarmedH U.vm := State.WarmedH.trans hW0 hW
  have hcl : s.vm.findClass cls = some ce.cls := by
    have h9 := hO.cls
    rw [hvm] at h9
    exact h9
  have hall : s.sameButNew ({ U with vm := s.vm } : State) locs mc ms := by
    subst hA
    obtain ⟨e1, e2⟩ := hsame
    rw [State.setFrames_setFrames] at e1
    have h2 : (T.setVm s.vm).sameButNew ({ U with vm := s.vm } : State) [] (0 + 1) (0 + 6) := ⟨e1, e2⟩
    have h3 := X.same.trans h2
    rw [List.append_nil] at h3
    exact h3.mono hc hs
  refine ⟨U, ?_, .threw T.heap.size, hrun, hend, Or.inr ⟨T.heap.size, rfl, cls, ce, locs, hx U hWs.alike f1 (fun q hq => f2 q hq (fun z hz => nomatch hz)), hce, hO.vm, hcl, hWs, hall, hf⟩⟩
  refine st1 _ ?_
  show Steps p.tables e below (T1.setTop { method := m, pc := pc + 3, locals := ls, stack := .ref T.heap.size :: rest, locked := none }) _
  jvm_step X₁.here [X₁.here.top, hexec, d3', Value.category]
  exact hsteps
/-- 'throw new E("text")': new; dup; ldc; invokespecial; athrow -/
theorem vx_throwS {cc : ByteArray} {pc : Nat} (hexec : p.tables.exec = Jvm.exec) (hb : c.code = cc) (hl : l.stackTraces = false) {own cls text : String} {names : List String} {ik is ic mc ms sa : Nat} {A : Nat → Prop}
    (hown : s.vm.findClass own = some m.cls) (hcls : Bundle.fit cls = true) (hnames : ∀ n ∈ names, Bundle.fit n = true)
    (hk : (Cond.classLink own ik cls).before args s = true) (hini : (Cond.initialized cls).before args s = true) (hstr : vk_R own is text sa s) (hat : ∀ w ∈ vx_atS own ic cls names, w.before args s = true)
    (hgood : ∀ w ∈ Cond.classLink own ik cls :: Cond.initialized cls :: vx_atS own ic cls names, vx_ot w = true)
    (hU : vx_Zq Bundle.tN "UNASSIGNED_STACK" Bundle.steD A s s.heap) (hN : vx_Zq Bundle.tN "SUPPRESSED_SENTINEL" Bundle.listD A s s.heap) (hS : va_S A s.heap H locs) (hsize : ls.size = c.maxLocals)
    (d0 : decode cc pc = .ok (.new ik, 3)) (d3 : decode cc (pc + 3) = .ok (.dup, 1)) (d4 : decode cc (pc + 4) = .ok (.ldc is, 2)) (d6 : decode cc (pc + 6) = .ok (.invokespecial ic, 3)) (d9 : decode cc (pc + 9) = .ok (.athrow, 1))
    (hout : ∀ x ∈ c.exceptionTable.toList, covers x (pc + 9) = false)
    (hRframes : names.length + 3 < R.frames) (hRlocals : (rest.map fun v => v.category).sum + (13 * (names.length + 1) + 43) ≤ R.locals) (hRcells : cells + 1 ≤ R.cells) (hRslots : slots + 6 ≤ R.slots) (hlocks : meth.locks = false)
    (hx : ∀ t : State, s.vm.Alike t.vm → H.size ≤ t.heap.size → (∀ q : Nat, q < H.size → t.heap[q]? = H[q]?) → XC cls s t)
    (hf : ∀ z ∈ locs, free z.base) (hc : cells + 1 ≤ mc) (hs : slots + 6 ≤ ms) :
    W p l e R s m args below meth c H locs cells slots (vx_MQ below Qc XC args s mc ms free) (F0 m pc ls rest) := by
  intro T hT X
  have htr : e.platform.stackTraces = false := (show e.platform.stackTraces = l.stackTraces by rw [X.admits.platform]).trans hl
  have Y := vx_rebase X (R' := { frames := R.frames, locals := R.locals, cells := 1, slots := 6 }) (Nat.le_refl _) (Nat.le_refl _) hRcells hRslots
  obtain ⟨s', hA⟩ : ∃ z, z = (T.setVm s.vm).setFrames (.invoking m args :: below) := ⟨_, rfl⟩
  rw [← hA] at Y
  have hvm : s'.vm = s.vm := by rw [hA]; rfl
  have hhp : s'.heap = H := by rw [hA]; exact hT
  have hW0 : s.WarmedH s'.vm := by rw [hvm]; exact State.WarmedH.refl s
  have hat' : ∀ w ∈ vx_atS own ic cls names, w.before args s' = true := fun w hw => vx_ot_at hW0 hvm.symm (hgood w (List.mem_cons_of_mem _ (List.mem_cons_of_mem _ hw))) (hat w hw)
  have hk' : (Cond.classLink own ik cls).before args s' = true := vx_ot_at hW0 hvm.symm (hgood _ List.mem_cons_self) hk
  have hini' : (Cond.initialized cls).before args s' = true := vx_ot_at hW0 hvm.symm (hgood _ (List.mem_cons_of_mem _ List.mem_cons_self)) hini
  have hU' : vx_Zq Bundle.tN "UNASSIGNED_STACK" Bundle.steD A s' s'.heap := by rw [hhp]; exact vx_Zq.moved hW0.alike (hU.kept hS.2.1)
  have hN' : vx_Zq Bundle.tN "SUPPRESSED_SENTINEL" Bundle.listD A s' s'.heap := by rw [hhp]; exact vx_Zq.moved hW0.alike (hN.kept hS.2.1)
  have h : ∀ w ∈ Bundle.ownAtoms own ic cls names, w.before args s' = true := vx_own hat' (vx_isRefq hU'.1) (vx_isRefq hN'.1) hU'.2.word hN'.2.word
  have hown' : s'.vm.findClass own = some m.cls := by rw [hvm]; exact hown
  have hins : (Cond.instantiable cls 6).before args s' = true := h _ (by simp [Bundle.ownAtoms])
  obtain ⟨vm₁, cX, kX, hfX, hkX, -, -, X₁, st1⟩ := Y.newCold hexec (own := own) (C := cls) (index := ik) (n := 6) hown' hk' hins hini'
    (g := F0 m pc ls rest) rfl (by rw [hb]; exact d0) (Nat.le_refl _) (Nat.le_refl _)
  generalize hT1 : (T.setVm vm₁).pushCell { cls := cX, slots := kX.instanceTypes.map defaultValue, vm := .none } = T1 at X₁ st1
  have hcat : (Value.ref T.heap.size).category = 1 := rfl
  have hcellA : T1.heap[T.heap.size]? = some (freshCell cX kX) := by rw [← hT1]; exact State.heap_pushCell_size _ _
  have d3' : decode c.code (pc + 3) = .ok (.dup, 1) := by rw [hb]; exact d3
  have d4' : decode c.code (pc + 4) = .ok (.ldc is, 2) := by rw [hb]; exact d4
  have hstr' : vk_R own is text sa s' := vk_R.warm hW0 hstr
  obtain ⟨U, hsteps, hrun, hend, hW, hsame, ce, hce, hO⟩ := X₁.ctorThrowS hexec htr (own := own) (cls := cls) (names := names) (ic := ic) hown' hcls hnames h (fun x hx => nomatch hx) hfX hkX hcellA (by rw [hhp, hT]; exact Nat.le_refl _) (msg := .ref sa) rfl
    (g := { method := m, pc := pc + 6, locals := ls, stack := .ref sa :: .ref T.heap.size :: .ref T.heap.size :: rest, locked := none }) rfl hsize rfl rfl (rest := rest) rfl
    (by rw [hb]; exact d6) (by rw [hb]; exact d9) hout hRframes (by simp only [List.map_cons, List.sum_cons, hcat]; omega) hlocks
  obtain ⟨f1, f2⟩ := vx_frame hsame
  rw [hhp] at f1 f2
  have hWs : s.WarmedH U.vm := State.WarmedH.trans hW0 hW
  have hcl : s.vm.findClass cls = some ce.cls := by
    have h9 := hO.cls
    rw [hvm] at h9
    exact h9
  have hall : s.sameButNew ({ U with vm := s.vm } : State) locs mc ms := by
    subst hA
    obtain ⟨e1, e2⟩ := hsame
    rw [State.setFrames_setFrames] at e1
    have h2 : (T.setVm s.vm).sameButNew ({ U with vm := s.vm } : State) [] (0 + 1) (0 + 6) := ⟨e1, e2⟩
    have h3 := X.same.trans h2
    rw [List.append_nil] at h3
    exact h3.mono hc hs
  refine ⟨U, ?_, .threw T.heap.size, hrun, hend, Or.inr ⟨T.heap.size, rfl, cls, ce, locs, hx U hWs.alike f1 (fun q hq => f2 q hq (fun z hz => nomatch hz)), hce, hO.vm, hcl, hWs, hall, hf⟩⟩
  refine st1 _ ?_
  show Steps p.tables e below (T1.setTop { method := m, pc := pc + 3, locals := ls, stack := .ref T.heap.size :: rest, locked := none }) _
  jvm_step X₁.here [X₁.here.top, hexec, d3', Value.category]
  exact X₁.ldcString hexec (own := own) (text := text) (index := is) (a := sa) hown' hstr'.1 hstr'.2
    (g := { method := m, pc := pc + 4, locals := ls, stack := .ref T.heap.size :: .ref T.heap.size :: rest, locked := none }) rfl d4' _ hsteps
/-- 'throw new E("text")', the text by a wide index -/
theorem vx_throwSW {cc : ByteArray} {pc : Nat} (hexec : p.tables.exec = Jvm.exec) (hb : c.code = cc) (hl : l.stackTraces = false) {own cls text : String} {names : List String} {ik is ic mc ms sa : Nat} {A : Nat → Prop}
    (hown : s.vm.findClass own = some m.cls) (hcls : Bundle.fit cls = true) (hnames : ∀ n ∈ names, Bundle.fit n = true)
    (hk : (Cond.classLink own ik cls).before args s = true) (hini : (Cond.initialized cls).before args s = true) (hstr : vk_R own is text sa s) (hat : ∀ w ∈ vx_atS own ic cls names, w.before args s = true)
    (hgood : ∀ w ∈ Cond.classLink own ik cls :: Cond.initialized cls :: vx_atS own ic cls names, vx_ot w = true)
    (hU : vx_Zq Bundle.tN "UNASSIGNED_STACK" Bundle.steD A s s.heap) (hN : vx_Zq Bundle.tN "SUPPRESSED_SENTINEL" Bundle.listD A s s.heap) (hS : va_S A s.heap H locs) (hsize : ls.size = c.maxLocals)
    (d0 : decode cc pc = .ok (.new ik, 3)) (d3 : decode cc (pc + 3) = .ok (.dup, 1)) (d4 : decode cc (pc + 4) = .ok (.ldc_w is, 3)) (d7 : decode cc (pc + 7) = .ok (.invokespecial ic, 3)) (d10 : decode cc (pc + 10) = .ok (.athrow, 1))
    (hout : ∀ x ∈ c.exceptionTable.toList, covers x (pc + 10) = false)
    (hRframes : names.length + 3 < R.frames) (hRlocals : (rest.map fun v => v.category).sum + (13 * (names.length + 1) + 43) ≤ R.locals) (hRcells : cells + 1 ≤ R.cells) (hRslots : slots + 6 ≤ R.slots) (hlocks : meth.locks = false)
    (hx : ∀ t : State, s.vm.Alike t.vm → H.size ≤ t.heap.size → (∀ q : Nat, q < H.size → t.heap[q]? = H[q]?) → XC cls s t)
    (hf : ∀ z ∈ locs, free z.base) (hc : cells + 1 ≤ mc) (hs : slots + 6 ≤ ms) :
    W p l e R s m args below meth c H locs cells slots (vx_MQ below Qc XC args s mc ms free) (F0 m pc ls rest) := by
  intro T hT X
  have htr : e.platform.stackTraces = false := (show e.platform.stackTraces = l.stackTraces by rw [X.admits.platform]).trans hl
  have Y := vx_rebase X (R' := { frames := R.frames, locals := R.locals, cells := 1, slots := 6 }) (Nat.le_refl _) (Nat.le_refl _) hRcells hRslots
  obtain ⟨s', hA⟩ : ∃ z, z = (T.setVm s.vm).setFrames (.invoking m args :: below) := ⟨_, rfl⟩
  rw [← hA] at Y
  have hvm : s'.vm = s.vm := by rw [hA]; rfl
  have hhp : s'.heap = H := by rw [hA]; exact hT
  have hW0 : s.WarmedH s'.vm := by rw [hvm]; exact State.WarmedH.refl s
  have hat' : ∀ w ∈ vx_atS own ic cls names, w.before args s' = true := fun w hw => vx_ot_at hW0 hvm.symm (hgood w (List.mem_cons_of_mem _ (List.mem_cons_of_mem _ hw))) (hat w hw)
  have hk' : (Cond.classLink own ik cls).before args s' = true := vx_ot_at hW0 hvm.symm (hgood _ List.mem_cons_self) hk
  have hini' : (Cond.initialized cls).before args s' = true := vx_ot_at hW0 hvm.symm (hgood _ (List.mem_cons_of_mem _ List.mem_cons_self)) hini
  have hU' : vx_Zq Bundle.tN "UNASSIGNED_STACK" Bundle.steD A s' s'.heap := by rw [hhp]; exact vx_Zq.moved hW0.alike (hU.kept hS.2.1)
  have hN' : vx_Zq Bundle.tN "SUPPRESSED_SENTINEL" Bundle.listD A s' s'.heap := by rw [hhp]; exact vx_Zq.moved hW0.alike (hN.kept hS.2.1)
  have h : ∀ w ∈ Bundle.ownAtoms own ic cls names, w.before args s' = true := vx_own hat' (vx_isRefq hU'.1) (vx_isRefq hN'.1) hU'.2.word hN'.2.word
  have hown' : s'.vm.findClass own = some m.cls := by rw [hvm]; exact hown
  have hins : (Cond.instantiable cls 6).before args s' = true := h _ (by simp [Bundle.ownAtoms])
  obtain ⟨vm₁, cX, kX, hfX, hkX, -, -, X₁, st1⟩ := Y.newCold hexec (own := own) (C := cls) (index := ik) (n := 6) hown' hk' hins hini'
    (g := F0 m pc ls rest) rfl (by rw [hb]; exact d0) (Nat.le_refl _) (Nat.le_refl _)
  generalize hT1 : (T.setVm vm₁).pushCell { cls := cX, slots := kX.instanceTypes.map defaultValue, vm := .none } = T1 at X₁ st1
  have hcat : (Value.ref T.heap.size).category = 1 := rfl
  have hcellA : T1.heap[T.heap.size]? = some (freshCell cX kX) := by rw [← hT1]; exact State.heap_pushCell_size _ _
  have d3' : decode c.code (pc + 3) = .ok (.dup, 1) := by rw [hb]; exact d3
  have d4' : decode c.code (pc + 4) = .ok (.ldc_w is, 3) := by rw [hb]; exact d4
  have hstr' : vk_R own is text sa s' := vk_R.warm hW0 hstr
  obtain ⟨U, hsteps, hrun, hend, hW, hsame, ce, hce, hO⟩ := X₁.ctorThrowS hexec htr (own := own) (cls := cls) (names := names) (ic := ic) hown' hcls hnames h (fun x hx => nomatch hx) hfX hkX hcellA (by rw [hhp, hT]; exact Nat.le_refl _) (msg := .ref sa) rfl
    (g := { method := m, pc := pc + 7, locals := ls, stack := .ref sa :: .ref T.heap.size :: .ref T.heap.size :: rest, locked := none }) rfl hsize rfl rfl (rest := rest) rfl
    (by rw [hb]; exact d7) (by rw [hb]; exact d10) hout hRframes (by simp only [List.map_cons, List.sum_cons, hcat]; omega) hlocks
  obtain ⟨f1, f2⟩ := vx_frame hsame
  rw [hhp] at f1 f2
  have hWs : s.WarmedH U.vm := State.WarmedH.trans hW0 hW
  have hcl : s.vm.findClass cls = some ce.cls := by
    have h9 := hO.cls
    rw [hvm] at h9
    exact h9
  have hall : s.sameButNew ({ U with vm := s.vm } : State) locs mc ms := by
    subst hA
    obtain ⟨e1, e2⟩ := hsame
    rw [State.setFrames_setFrames] at e1
    have h2 : (T.setVm s.vm).sameButNew ({ U with vm := s.vm } : State) [] (0 + 1) (0 + 6) := ⟨e1, e2⟩
    have h3 := X.same.trans h2
    rw [List.append_nil] at h3
    exact h3.mono hc hs
  refine ⟨U, ?_, .threw T.heap.size, hrun, hend, Or.inr ⟨T.heap.size, rfl, cls, ce, locs, hx U hWs.alike f1 (fun q hq => f2 q hq (fun z hz => nomatch hz)), hce, hO.vm, hcl, hWs, hall, hf⟩⟩
  refine st1 _ ?_
  show Steps p.tables e below (T1.setTop { method := m, pc := pc + 3, locals := ls, stack := .ref T.heap.size :: rest, locked := none }) _
  jvm_step X₁.here [X₁.here.top, hexec, d3', Value.category]
  exact X₁.ldcStringW hexec (own := own) (text := text) (index := is) (a := sa) hown' hstr'.1 hstr'.2
    (g := { method := m, pc := pc + 4, locals := ls, stack := .ref T.heap.size :: .ref T.heap.size :: rest, locked := none }) rfl d4' _ hsteps
end Ends
section Bodies
variable {l : Launch}
theorem vx_ofW {y : MethodName} {ws ws' : List Cond} {rm : Room} {Pc : Array Value → State → Prop} {Qc : Array Value → State → Outcome → State → Prop} {XC : String → State → State → Prop} {mc ms : Nat} {free : Addr → Prop} {cc : ByteArray} {maxL : Nat} {ret : Option FieldType}
    (hy : plainName y.cls = true) (hw : ws = Cond.code y cc maxL ret :: ws')
    (body : ∀ p e s m args below meth c s₁, BodyLoose p l y (headSpec ws rm) cc maxL ret e s m args below meth c s₁ → c.maxLocals = maxL → (∀ x ∈ c.exceptionTable.toList, False) → Pc args s →
      W p l e (headSpec ws rm).room s m args below meth c s.heap [] 0 0 (vx_MQ below Qc XC args s mc ms free) (entryFrame m args maxL)) : vx_Met l y ws rm Pc Qc XC mc ms free := by
  refine MetFree.of_bodyS (code := cc) (maxLocals := maxL) (ret := ret) hy ?_ ?_
  · intro args s m h hn
    obtain ⟨meth, c, h1, h2, h3, h4, h5, h6, -, -⟩ := Cond.code_spec hn (atoms_spec (ws := ws) h _ (by rw [hw]; exact List.mem_cons_self))
    exact ⟨meth, c, h1, h2, h3, h4, h5, h6⟩
  · intro p e s m args below meth c s₁ B hml hP _
    have hh0 : s₁.heap = s.heap := by rw [B.state]; rfl
    have ht : ∀ x ∈ c.exceptionTable.toList, False := by
      obtain ⟨meth9, c9, h1, h2, -, -, -, -, h7, -⟩ := Cond.code_spec B.named (atoms_spec (ws := ws) B.pre _ (by rw [hw]; exact List.mem_cons_self))
      cases Option.some.inj (h1.symm.trans B.method)
      cases Option.some.inj (h2.symm.trans (Stand.of_body B).code)
      intro x hx
      rw [Array.isEmpty_iff.mp h7] at hx
      cases hx
    obtain ⟨t, a1, o, b1, b2, b3⟩ := body p e s m args below meth c s₁ B hml ht hP s₁ hh0 (Stand.of_body B)
    exact ⟨t, o, a1, b1, b2, b3⟩
/-- the table of a body with handlers -/
theorem vx_table {p : Program} {x y : MethodName} {S : Spec} {cc bytes : ByteArray} {maxL maxL' : Nat} {ret ret' : Option FieldType} {e : Env} {s s₁ : State} {m : MethodId} {args : Array Value} {below : List Frame} {meth : Method} {c : Code} {hh : List (Nat × Nat × Nat × Nat)}
    (B : BodyLoose p l y S cc maxL ret e s m args below meth c s₁) (h : (Cond.codeWith y bytes maxL' ret' hh).before args s = true) : c.exceptionTable.toList = tableOf hh := by
  obtain ⟨m9, meth9, c9, hn9, h1, h2, -, -, h6, -⟩ := Cond.codeWith_spec h
  cases Option.some.inj (hn9.symm.trans B.named)
  cases Option.some.inj (h1.symm.trans B.method)
  cases Option.some.inj (h2.symm.trans (Stand.of_body B).code)
  rw [← h6, table_eq]
end Bodies
end VXA
/-! ===== END ===== -/
/-! ===== BEGIN a static call of a method with an exception table ===== -/
section VXS
variable {p : Program} {l : Launch} {e : Env} {R : Room} {s : State} {m : MethodId} {args : Array Value} {below : List Frame} {meth : Method} {c : Code} {T : State} {H : Heap} {locs : List Loc} {cells slots : Nat}
abbrev vx_CSW (R : Room) (s : State) (args : Array Value) (own : String) (index : Nat) (y : MethodName) (bytes : ByteArray) (maxL : Nat) (ret : Option FieldType) (hh : List (Nat × Nat × Nat × Nat)) (ws : List Cond) (rm : Room) (mc ms n : Nat) : Prop :=
  (rm.cells = mc ∧ rm.slots = ms ∧ rm.frames + 1 ≤ R.frames ∧ 8 + (maxL + 11) + rm.locals ≤ R.locals ∧ (∀ w ∈ ws, ∀ (a' : Array Value) (U : State), s.WarmedH U.vm → w.before a' U = true) ∧ Cond.codeWith y bytes maxL ret hh ∈ ws) ∧
  (Cond.codeWith y bytes maxL ret hh).before args s = true ∧ (Cond.initialized y.cls).before args s = true ∧ (y.cls ≠ "java/lang/invoke/MethodHandle" ∧ y.cls ≠ "java/lang/invoke/VarHandle") ∧
  (∀ sig, parseMethodDescriptor y.desc = some sig → n = sig.parameters.length) ∧ (Cond.methodLink own index y).before args s = true ∧ (Cond.static y).before args s = true
theorem vx_cwSW {own : String} {index maxL mc ms : Nat} {y : MethodName} {bytes : ByteArray} {ret : Option FieldType} {hh : List (Nat × Nat × Nat × Nat)} {Ts ws ws' : List Cond} {rm : Room} (n : Nat) (ht : ∀ w ∈ Ts, w.before args s = true) (hT : GoodIn Ts (va_wsS own index y ws)) (hw : ws = Cond.codeWith y bytes maxL ret hh :: ws') (hrc : rm.cells = mc) (hrs : rm.slots = ms)
    (hd : y.cls ≠ "java/lang/invoke/MethodHandle" ∧ y.cls ≠ "java/lang/invoke/VarHandle" ∧ (parseMethodDescriptor y.desc).map (fun d => d.parameters.length) = some n) (hR : rm.frames + 1 ≤ R.frames ∧ 8 + (maxL + 11) + rm.locals ≤ R.locals) :
    vx_CSW R s args own index y bytes maxL ret hh ws rm mc ms n := by
  have ok : ∀ w ∈ va_wsS own index y ws, w.before args s = true := fun w h => ht w (hT w h).1
  have hG : GoodIn Ts ws := fun w h => hT w (by unfold va_wsS; exact List.mem_append_right _ h)
  have hc : Cond.codeWith y bytes maxL ret hh ∈ ws := by rw [hw]; exact List.mem_cons_self
  refine ⟨⟨hrc, hrs, hR.1, hR.2, pay_in ht hG, hc⟩, ht _ (hG _ hc).1, ok _ (by simp [va_wsS]), ⟨hd.1, hd.2.1⟩, fun sig h => ?_, ok _ (by simp [va_wsS]), ok _ (by simp [va_wsS])⟩
  have h2 := hd.2.2
  rw [h] at h2
  exact (Option.some.inj h2).symm
theorem vx_callSW (X : Stand p l e R s m args below meth c T locs cells slots) (hexec : p.tables.exec = Jvm.exec) {own : String} {index : Nat} {y : MethodName} {bytes : ByteArray} {maxL : Nat} {ret : Option FieldType} {hh : List (Nat × Nat × Nat × Nat)}
    (hown : s.vm.findClass own = some m.cls) (hlink : (Cond.methodLink own index y).before args s = true) (hstat : (Cond.static y).before args s = true) (hinit : (Cond.initialized y.cls).before args s = true)
    (hcode : (Cond.codeWith y bytes maxL ret hh).before args s = true) (hy : y.cls ≠ "java/lang/invoke/MethodHandle" ∧ y.cls ≠ "java/lang/invoke/VarHandle")
    {W9 : Nat} {Pre : Pt → Array Value → Prop} {Post : Pt → Array Value → Option Value → Pt → Prop} (hK : Back l R p e below s args y 3 W9 Pre Post)
    {g : JFrame} (hg : g.method = m) (hsize : g.locals.size = c.maxLocals) {argsL rest : List Value} (hlen : ∀ sig, parseMethodDescriptor y.desc = some sig → argsL.length = sig.parameters.length)
    (hstack : g.stack = argsL.reverse ++ rest) (hW : 2 * g.monitorRoom + (rest.map fun v => v.category).sum ≤ W9) (hdg : decode c.code g.pc = .ok (.invokestatic index, 3))
    (hpre : ∀ vm₁, s.WarmedH vm₁ → Pre ⟨T.setVm vm₁, locs, cells, slots⟩ argsL.toArray) :
    ∃ (v : Option Value) (vm₁ : Vm) (B : Pt), s.WarmedH vm₁ ∧ Stand p l e R s m args below meth c B.U B.locs B.cells B.slots ∧ Post ⟨T.setVm vm₁, locs, cells, slots⟩ argsL.toArray v B ∧
      ∀ target, Steps p.tables e below (B.U.setTop { g with pc := g.pc + 3, stack := v.toList ++ rest }) target → Steps p.tables e below (T.setTop g) target := by
  obtain ⟨mk, methM, cM, hnamed, hmethM, -, -, -, -, -, -, hsigM⟩ := Cond.codeWith_spec hcode
  have hstatic : methM.isStatic = true := Cond.static_spec hnamed hmethM hstat
  obtain ⟨kP, hkP, -⟩ := className_of_methodNamed hnamed
  have hinitP : kP.init = .initialized := Cond.initialized_spec (findClass_of_methodNamed hnamed) hkP hinit
  obtain ⟨vm₁, X₁, hstep₁⟩ := X.invokestatic hexec hown hlink hnamed hmethM hstatic hkP hinitP hy (g := g) hg (argsL := argsL) (rest := rest) (hlen _ hsigM) hstack hdg
  obtain ⟨v, B, X', hpost, hsteps⟩ := hK m meth c ⟨T.setVm vm₁, locs, cells, slots⟩ { g with stack := rest } (.invokestatic index) mk argsL.toArray X₁ hg hsize hdg hW (X₁.named hnamed) (hpre vm₁ X₁.warmed)
  exact ⟨v, vm₁, B, X₁.warmed, X', hpost, fun target h => hstep₁ _ fun acts => by rw [doInvoke_state]; exact hsteps.trans h⟩
theorem vx_runSW {y : MethodName} {bytes cc : ByteArray} {maxL nL mc ms n index : Nat} {ret : Option FieldType} {hh : List (Nat × Nat × Nat × Nat)} {ws : List Cond} {rm : Room} {Pc : Array Value → State → Prop} {Qc : Array Value → State → Outcome → State → Prop} {free : Addr → Prop} {Ts : List Cond} {own : String} {As rest : List Value} {g : JFrame}
    (S : CallFix p m c cc nL s args Ts own) (hM : Met l y ws rm Pc Qc mc ms free) (cw : vx_CSW R s args own index y bytes maxL ret hh ws rm mc ms n) (hp : PreS s H Pc As)
    (hg : g.method = m) (hn : As.length = n) (hsize : g.locals.size = nL) (hstack : g.stack = As.reverse ++ rest) (hW : 2 * g.monitorRoom + (rest.map fun v => v.category).sum ≤ 8) (hdg : decode cc g.pc = .ok (.invokestatic index, 3)) (hf : cells + mc ≤ R.cells ∧ slots + ms ≤ R.slots) :
    va_Run p l e R s m args below meth c H locs cells slots mc ms g rest (Qc As.toArray) (free) := by
  obtain ⟨⟨hrc, hrs, hfr, hlo, hws, hcw⟩, hcode, hini, hy, hlen, hl, hstt⟩ := cw
  have hK : Back l R p e below s args y 3 8 (PreOf R mc ms Pc) (PostOf Qc mc ms free) := va_backW (hh := hh) (bytes := bytes) (maxL := maxL) (ret := ret) hM hp.1 hrc hrs hfr hlo hws hcw (fun a' U hW => word_at hW (Or.inl (by first | rfl | simp [Cond.onTables, Cond.keeps, Cond.steady])) hini)
  obtain ⟨hx, hb, hml, ho, -⟩ := S
  intro T hT X
  obtain ⟨v, vm₁, ⟨U', l2, c2, s2⟩, hW₁, X', ⟨g', mk, t, L, e1, e2, hq, h1, hL, h2, h3⟩, st⟩ := vx_callSW X hx (hh := hh) (bytes := bytes) (maxL := maxL) (ret := ret) ho hl hstt hini hcode hy hK hg (hsize.trans hml.symm) (argsL := As) (rest := rest) (fun sig h => hn.trans (hlen sig h)) hstack hW (by rw [hb]; exact hdg)
    (fun vm₁ hW₁ => ⟨hf.1, hf.2, hp.2 (T.setVm vm₁) hT hW₁⟩)
  dsimp only [Pt.U, Pt.locs, Pt.cells, Pt.slots] at X' e1 e2 h1 h2 h3 st
  subst h1; subst h2; subst h3
  exact ⟨v, (T.setVm vm₁).calling g' mk As.toArray, t, U', L, hT, X', hL, e1, e2, hq, st⟩
/-- not caught here, past rows that name other classes: it goes on to the caller -/
theorem vx_outP {p : Program} {l : Launch} {e : Env} {R : Room} {s : State} {m : MethodId} {args : Array Value} {below : List Frame} {meth : Method} {c : Code} {H : Heap} {locs : List Loc} {cells slots : Nat} {free : Addr → Prop} {ls : Array Slot} {rest : List Value} {Qc : Array Value → State → Outcome → State → Prop} {XC : String → State → State → Prop}
    {pc : Nat} {own E : String} {ce : Cell} {q : Addr} {mc ms : Nat} (hown : s.vm.findClass own = some m.cls) (hlocks : meth.locks = false)
    (hpass : ∀ z ∈ c.exceptionTable.toList, covers z pc = false ∨ (z.catchType ≠ 0 ∧ ∃ nm : String, (Cond.classLink own z.catchType nm).before args s = true ∧ va_Nc E nm s)) (hcell : H[q]? = some ce) (hv : ce.vm = .none) (hcl : s.vm.findClass E = some ce.cls)
    (hx : ∀ t : State, t.heap = H → s.vm.Alike t.vm → XC E s t) (hf : ∀ z ∈ locs, free z.base) (hc : cells ≤ mc) (hs : slots ≤ ms) :
    vx_W p l e R s m args below meth c H locs cells slots (vx_MQ below Qc XC args s mc ms free) (F0 m pc ls rest) q := by
  intro T hT X
  have hpl : e.platform.magicAccessors = ({} : Platform).magicAccessors := by rw [X.admits.platform]
  obtain ⟨vm', hW', X', st⟩ := X.outThrough hlocks q (g := F0 m pc ls rest) rfl rfl rfl (cell := ce) (by rw [hT]; exact hcell) (by rw [hv]; rfl)
    (by obtain ⟨k9, h9, -⟩ := Vm.findClass_spec hcl; exact ⟨k9, h9⟩) (fun z hz => by
      rcases hpass z hz with h | ⟨hz0, nm, hl1, hn1⟩
      · exact Or.inl h
      · obtain ⟨c6, hc6, hcl6⟩ := Cond.classLink_spec hown hl1 e.platform hpl
        obtain ⟨a8, b8, h1, h2, h3⟩ := hn1
        cases Option.some.inj (h1.symm.trans hcl)
        cases Option.some.inj (h2.symm.trans hc6)
        exact Or.inr ⟨hz0, _, hcl6, h3⟩)
  obtain ⟨g₀, hfr⟩ := X'.frames_eq
  have hcell9 : ((T.setVm vm').setFrames (.throwing q :: below)).heap[q]? = some ce := by
    show T.heap[q]? = some ce
    rw [hT]; exact hcell
  have hend : Ended ((T.setVm vm').setFrames (.throwing q :: below)) below (.threw q) := State.frames_setFrames _ (State.cur_lt_of_frames hfr)
  refine ⟨(T.setVm vm').setFrames (.throwing q :: below), ?_, .threw q, X'.here.running, hend, Or.inr ⟨q, rfl, E, ce, locs, hx _ hT (X'.ends _).1.alike, hcell9, hv, hcl, (X'.ends _).1, (X'.ends _).2.mono hc hs, hf⟩⟩
  rw [X.pushThrowing_eq]
  exact st
/-- a thing of a world lies in the heap -/
theorem vx_lt {D : va_G} {cl : List vw_C} {ws : va_W} {H1 : Heap} (h : va_P D cl ws H1) {k : Nat} {q : Nat × va_E} (hk : ws[k]? = some q) : q.1 < H1.size := (h k q hk).lt
end VXS
/-! ===== END ===== -/
/-! ===== BEGIN methods with a table of their own: called by a name, returning or throwing ===== -/
section VXH
/-! vx_backW, vx_callVX, vx_callSX, vx_callVW, vx_runVW, vx_runVX, vx_runSX, vx_ofWH follow the same proofs as their sisters above (Free/Laws.lean, Shelf42/LK1.lean); vx_outP calls Shelf42/NT130.lean (outThrough). -/
section
variable {l : Launch} {R : Room} {p : Program} {e : Env} {below : List Frame} {s : State} {sargs : Array Value} {y : MethodName} {len W9 : Nat}
theorem vx_backW {ws : List Cond} {rm : Room} {Pc : Array Value → State → Prop} {Qc : Array Value → State → Outcome → State → Prop} {XC : String → State → State → Prop} {mc ms : Nat} {free : Addr → Prop} {bytes : ByteArray} {maxL : Nat} {ret : Option FieldType} {hh : List (Nat × Nat × Nat × Nat)}
    (hM : vx_Met l y ws rm Pc Qc XC mc ms free) (hblind : FrameBlind Pc) (hrc : rm.cells = mc) (hrs : rm.slots = ms)
    (hframes : rm.frames + 1 ≤ R.frames) (hlocals : W9 + (maxL + 11) + rm.locals ≤ R.locals)
    (hws : ∀ w ∈ ws, ∀ a' U, s.WarmedH U.vm → w.before a' U = true) (hcode : Cond.codeWith y bytes maxL ret hh ∈ ws) (hinit : ∀ a' U, s.WarmedH U.vm → (Cond.initialized y.cls).before a' U = true) :
    vx_Back l R p e below s sargs y len W9 (PreOf R mc ms Pc) (PostOf Qc mc ms free) (vx_Post XC mc ms free) := by
  intro m meth c A g ig mk a X hg hsize hdg hW hn hp
  have h1 : (headSpec ws rm).pre.before a A.U = true := atoms_intro fun w hw => hws w hw _ _ X.warmed
  have h2 : (Cond.codeWith y bytes maxL ret hh).before a A.U = true := hws _ hcode _ _ X.warmed
  have h3 : (Cond.initialized y.cls).before a A.U = true := hinit _ _ X.warmed
  have h4 : A.cells + (headSpec ws rm).room.cells ≤ R.cells := by rw [show (headSpec ws rm).room.cells = mc from hrc]; exact hp.1
  have h5 : A.slots + (headSpec ws rm).room.slots ≤ R.slots := by rw [show (headSpec ws rm).room.slots = ms from hrs]; exact hp.2.1
  have hPc : Pc a (A.U.calling g mk a) := hblind _ _ _ _ hp.2.2
  obtain ⟨U, Ls, c0, s0⟩ := A
  dsimp only [Pt.U, Pt.locs, Pt.cells, Pt.slots] at h1 h2 h3 h4 h5 X hn hPc ⊢
  obtain ⟨m9, methY, cY, hn9, hmY, hcY, -, hlY, -⟩ := Cond.codeWith_spec h2
  cases Option.some.inj (hn9.symm.trans hn)
  obtain ⟨kY, hkY, -⟩ := className_of_methodNamed hn
  have hinitY : kY.init = .initialized := Cond.initialized_spec (findClass_of_methodNamed hn) hkY h3
  have h : At U g.method c below := by rw [hg]; exact X.here
  have hlocals9 : W9 + (maxL + 11) + (headSpec ws rm).room.locals ≤ R.locals := hlocals
  have happ : (headSpec ws rm).appliesLoose y e.platform (U.calling g mk a) = true :=
    Spec.appliesLoose_calling (g := g) h hdg hn hkY hinitY
      (X.room_calling (g := g) (R' := (headSpec ws rm).room) hsize hmY hcY hframes (by rw [hlY]; omega) h4 h5) h1
  obtain ⟨mid, hmid⟩ := h.above
  have hfr : (U.setTop g).frames = (.java g :: mid) ++ below := by rw [State.frames_setTop' g h.top, hmid]; rfl
  obtain ⟨o, s₂, hsteps, -, hend, hq⟩ := Steps.callFree hM p X.admits X.cas X.clock (acts := []) hfr happ hPc trivial
  have hq' : vx_Q Qc XC mc ms free a (U.calling g mk a) o s₂ := hq
  rw [State.frames_setTop' g h.top] at hend
  obtain ⟨g₀, hg0⟩ := Option.isSome_iff_exists.mp h.top
  obtain ⟨r, hr⟩ := State.topJava?_eq_some.mp hg0
  have hr' : (({ U with heap := s₂.heap, slotsUsed := s₂.slotsUsed } : State).setVm s₂.vm).frames = .java g₀ :: r := hr
  rcases hq' with ⟨hqc, L, hfe, hL⟩ | ⟨q, rfl, E, ce, L, hx, hce, hcv, hcl, hW₂, hsm, hL⟩
  · obtain ⟨⟨v, rfl⟩, hW₂, e2, q2, q3, q4, q5, q6⟩ := id hfe
    have e3 : s₂ = ({ (U.calling g mk a).setFrames s₂.frames with heap := s₂.heap, slotsUsed := s₂.slotsUsed } : State).setVm s₂.vm := by
      have : s₂ = ({ s₂ with vm := (U.calling g mk a).vm } : State).setVm s₂.vm := rfl
      rw [e2] at this
      exact this
    obtain ⟨c₂, i₂, len₂, hc₂, hd₂, hf₂⟩ := hend
    have hW' : U.WarmedH s₂.vm := hW₂
    have hcc : c₂ = c := by
      have h1 : s₂.code? g.method = U.code? g.method := by
        rw [State.code?_eq, State.code?_eq, hW'.alike.method?]
      exact Option.some.inj (hc₂.symm.trans (h1.trans h.code))
    subst hcc
    have hlen : len₂ = len := by rw [hdg] at hd₂; cases hd₂; rfl
    subst hlen
    have hs₂ : s₂ = (({ U with heap := s₂.heap, slotsUsed := s₂.slotsUsed } : State).setVm s₂.vm).setTop { g with pc := g.pc + len₂, stack := v.toList ++ g.stack } := by
      refine e3.trans ?_
      rw [hf₂, State.calling_eq h.top, State.setFrames_setFrames, State.setTop_of_frames _ hr', hr]
      rfl
    have hsame : U.sameButNew ({ U with heap := s₂.heap, slotsUsed := s₂.slotsUsed } : State) L mc ms := by
      refine ⟨?_, q2, q3, q4, q5, q6⟩
      obtain ⟨t, ht, -⟩ := State.frames_cons hr
      show ({ U with heap := s₂.heap, slotsUsed := s₂.slotsUsed } : State) = { U.setFrames U.frames with heap := s₂.heap, slotsUsed := s₂.slotsUsed }
      rw [State.setFrames_self ht]
    subst hg
    refine Or.inl ⟨v, ⟨(({ U with heap := s₂.heap, slotsUsed := s₂.slotsUsed } : State).setVm s₂.vm), Ls ++ L, c0 + mc, s0 + ms⟩,
      ⟨X.admits, X.cas, X.clock, X.frames, X.room, X.hears, X.method, X.code, (X.here.setHeapUsed s₂.heap s₂.slotsUsed).setVm hW'.alike, X.tail, State.WarmedH.trans X.warmed hW', X.limits, X.bytes, X.same.trans (hsame.setVm s.vm)⟩,
      ⟨g, mk, s₂, L, rfl, rfl, hqc, rfl, hL, rfl, rfl⟩, ?_⟩
    show Steps p.tables e below _ ((({ U with heap := s₂.heap, slotsUsed := s₂.slotsUsed } : State).setVm s₂.vm).setTop { g with pc := g.pc + len₂, stack := v.toList ++ g.stack })
    rw [← hs₂]
    exact hsteps
  · obtain ⟨e2, q2, q3, q4, q5, q6⟩ := id hsm
    have e3 : s₂ = ({ (U.calling g mk a).setFrames s₂.frames with heap := s₂.heap, slotsUsed := s₂.slotsUsed } : State).setVm s₂.vm := by
      have : s₂ = ({ s₂ with vm := (U.calling g mk a).vm } : State).setVm s₂.vm := rfl
      rw [e2] at this
      exact this
    have hf₂ : s₂.frames = .throwing q :: .java g :: U.frames.tail := hend
    have hW' : U.WarmedH s₂.vm := hW₂
    have hs₂ : s₂ = ((({ U with heap := s₂.heap, slotsUsed := s₂.slotsUsed } : State).setVm s₂.vm).setTop g).pushFrame (.throwing q) := by
      refine e3.trans ?_
      rw [hf₂, State.calling_eq h.top, State.setFrames_setFrames, State.pushFrame, State.frames_setTop _ hr', State.setTop_of_frames _ hr', State.setFrames_setFrames, hr]
      rfl
    have hsame : U.sameButNew ({ U with heap := s₂.heap, slotsUsed := s₂.slotsUsed } : State) L mc ms := by
      refine ⟨?_, q2, q3, q4, q5, q6⟩
      obtain ⟨t, ht, -⟩ := State.frames_cons hr
      show ({ U with heap := s₂.heap, slotsUsed := s₂.slotsUsed } : State) = { U.setFrames U.frames with heap := s₂.heap, slotsUsed := s₂.slotsUsed }
      rw [State.setFrames_self ht]
    subst hg
    refine Or.inr ⟨q, ⟨(({ U with heap := s₂.heap, slotsUsed := s₂.slotsUsed } : State).setVm s₂.vm), Ls ++ L, c0 + mc, s0 + ms⟩,
      ⟨X.admits, X.cas, X.clock, X.frames, X.room, X.hears, X.method, X.code, (X.here.setHeapUsed s₂.heap s₂.slotsUsed).setVm hW'.alike, X.tail, State.WarmedH.trans X.warmed hW', X.limits, X.bytes, X.same.trans (hsame.setVm s.vm)⟩,
      ⟨g, mk, s₂, L, E, ce, rfl, rfl, hx, hce, hcv, hcl, rfl, hL, rfl, rfl⟩, ?_⟩
    show Steps p.tables e below _ (((({ U with heap := s₂.heap, slotsUsed := s₂.slotsUsed } : State).setVm s₂.vm).setTop g).pushFrame (.throwing q))
    rw [← hs₂]
    exact hsteps
end
variable {p : Program} {l : Launch} {e : Env} {R : Room} {s : State} {m : MethodId} {args : Array Value} {below : List Frame} {meth : Method} {c : Code} {T : State} {H : Heap} {locs : List Loc} {cells slots : Nat}
theorem vx_callVX (X : Stand p l e R s m args below meth c T locs cells slots) (hexec : p.tables.exec = Jvm.exec) {own C : String} {index : Nat} {y : MethodName} {bytes : ByteArray} {maxL : Nat} {ret : Option FieldType} {hh : List (Nat × Nat × Nat × Nat)}
    (hown : s.vm.findClass own = some m.cls) (hlink : (Cond.methodLink own index y).before args s = true) (hinst : (Cond.instanceMethod y).before args s = true) (hsel : (Cond.selects C y y).before args s = true)
    (hcode : (Cond.codeWith y bytes maxL ret hh).before args s = true) (hy : y.cls ≠ "java/lang/invoke/MethodHandle" ∧ y.cls ≠ "java/lang/invoke/VarHandle")
    {W9 : Nat} {Pre : Pt → Array Value → Prop} {Post : Pt → Array Value → Option Value → Pt → Prop} {PostX : Pt → Array Value → Addr → Pt → Prop} (hK : vx_Back l R p e below s args y 3 W9 Pre Post PostX)
    {b : Addr} {cellB : Cell} (hcell : T.heap[b]? = some cellB) (hobj : cellB.vm.isStatics = false) (hcls : s.vm.findClass C = some cellB.cls)
    {g : JFrame} (hg : g.method = m) (hsize : g.locals.size = c.maxLocals) {argsL rest : List Value} (hlen : ∀ sig, parseMethodDescriptor y.desc = some sig → argsL.length = sig.parameters.length)
    (hstack : g.stack = argsL.reverse ++ .ref b :: rest) (hW : 2 * g.monitorRoom + (rest.map fun v => v.category).sum ≤ W9) (hdg : decode c.code g.pc = .ok (.invokevirtual index, 3))
    (hpre : ∀ vm₁, s.WarmedH vm₁ → Pre ⟨T.setVm vm₁, locs, cells, slots⟩ (Value.ref b :: argsL).toArray) :
    (∃ (v : Option Value) (vm₁ : Vm) (B : Pt), s.WarmedH vm₁ ∧ Stand p l e R s m args below meth c B.U B.locs B.cells B.slots ∧ Post ⟨T.setVm vm₁, locs, cells, slots⟩ (Value.ref b :: argsL).toArray v B ∧
      ∀ target, Steps p.tables e below (B.U.setTop { g with pc := g.pc + 3, stack := v.toList ++ rest }) target → Steps p.tables e below (T.setTop g) target) ∨
    (∃ (q : Addr) (vm₁ : Vm) (B : Pt), s.WarmedH vm₁ ∧ Stand p l e R s m args below meth c B.U B.locs B.cells B.slots ∧ PostX ⟨T.setVm vm₁, locs, cells, slots⟩ (Value.ref b :: argsL).toArray q B ∧
      Steps p.tables e below (T.setTop g) ((B.U.setTop { g with stack := rest }).pushFrame (.throwing q))) := by
  obtain ⟨mk, methM, hnamed, hmethM, hstM, habM⟩ := Cond.instanceMethod_spec hinst
  obtain ⟨m8, methM', cM, hn8, hmethM', -, -, -, -, -, -, hsigM⟩ := Cond.codeWith_spec hcode
  cases Option.some.inj (hn8.symm.trans hnamed)
  cases hmethM.symm.trans hmethM'
  obtain ⟨c2, r2, m2, q1, q2, q3, q4, kP, hkP, hkPi⟩ := Cond.selects_spec hsel
  cases hcls.symm.trans q1
  cases (State.methodFound?_of_named hnamed hy).symm.trans q2
  cases hnamed.symm.trans q3
  have hselP : selectMethod e.platform s.vm cellB.cls mk = .method mk := by rw [Launch.admits_selectMethod X.admits]; exact q4
  obtain ⟨vm₁, X₁, hstep₁⟩ := X.invokevirtual hexec hown hlink hnamed hmethM hstM hkP hkPi hy (a := b) (cell := cellB) hcell
    (fun z h => by rw [h] at hobj; cases hobj) hselP hmethM habM hkP hkPi (g := g) hg (argsL := argsL) (rest := rest) (hlen _ hsigM) hstack hdg
  rcases hK m meth c ⟨T.setVm vm₁, locs, cells, slots⟩ { g with stack := rest } (.invokevirtual index) mk (Value.ref b :: argsL).toArray X₁ hg hsize hdg hW (X₁.named hnamed) (hpre vm₁ X₁.warmed) with ⟨v, B, X', hpost, hsteps⟩ | ⟨q, B, X', hpost, hsteps⟩
  · exact Or.inl ⟨v, vm₁, B, X₁.warmed, X', hpost, fun target h => hstep₁ _ fun acts => by rw [doInvoke_state]; exact hsteps.trans h⟩
  · exact Or.inr ⟨q, vm₁, B, X₁.warmed, X', hpost, hstep₁ _ fun acts => by rw [doInvoke_state]; exact hsteps⟩
theorem vx_callSX (X : Stand p l e R s m args below meth c T locs cells slots) (hexec : p.tables.exec = Jvm.exec) {own : String} {index : Nat} {y : MethodName} {bytes : ByteArray} {maxL : Nat} {ret : Option FieldType} {hh : List (Nat × Nat × Nat × Nat)}
    (hown : s.vm.findClass own = some m.cls) (hlink : (Cond.methodLink own index y).before args s = true) (hstat : (Cond.static y).before args s = true) (hinit : (Cond.initialized y.cls).before args s = true)
    (hcode : (Cond.codeWith y bytes maxL ret hh).before args s = true) (hy : y.cls ≠ "java/lang/invoke/MethodHandle" ∧ y.cls ≠ "java/lang/invoke/VarHandle")
    {W9 : Nat} {Pre : Pt → Array Value → Prop} {Post : Pt → Array Value → Option Value → Pt → Prop} {PostX : Pt → Array Value → Addr → Pt → Prop} (hK : vx_Back l R p e below s args y 3 W9 Pre Post PostX)
    {g : JFrame} (hg : g.method = m) (hsize : g.locals.size = c.maxLocals) {argsL rest : List Value} (hlen : ∀ sig, parseMethodDescriptor y.desc = some sig → argsL.length = sig.parameters.length)
    (hstack : g.stack = argsL.reverse ++ rest) (hW : 2 * g.monitorRoom + (rest.map fun v => v.category).sum ≤ W9) (hdg : decode c.code g.pc = .ok (.invokestatic index, 3))
    (hpre : ∀ vm₁, s.WarmedH vm₁ → Pre ⟨T.setVm vm₁, locs, cells, slots⟩ argsL.toArray) :
    (∃ (v : Option Value) (vm₁ : Vm) (B : Pt), s.WarmedH vm₁ ∧ Stand p l e R s m args below meth c B.U B.locs B.cells B.slots ∧ Post ⟨T.setVm vm₁, locs, cells, slots⟩ argsL.toArray v B ∧
      ∀ target, Steps p.tables e below (B.U.setTop { g with pc := g.pc + 3, stack := v.toList ++ rest }) target → Steps p.tables e below (T.setTop g) target) ∨
    (∃ (q : Addr) (vm₁ : Vm) (B : Pt), s.WarmedH vm₁ ∧ Stand p l e R s m args below meth c B.U B.locs B.cells B.slots ∧ PostX ⟨T.setVm vm₁, locs, cells, slots⟩ argsL.toArray q B ∧
      Steps p.tables e below (T.setTop g) ((B.U.setTop { g with stack := rest }).pushFrame (.throwing q))) := by
  obtain ⟨mk, methM, cM, hnamed, hmethM, -, -, -, -, -, -, hsigM⟩ := Cond.codeWith_spec hcode
  have hstatic : methM.isStatic = true := Cond.static_spec hnamed hmethM hstat
  obtain ⟨kP, hkP, -⟩ := className_of_methodNamed hnamed
  have hinitP : kP.init = .initialized := Cond.initialized_spec (findClass_of_methodNamed hnamed) hkP hinit
  obtain ⟨vm₁, X₁, hstep₁⟩ := X.invokestatic hexec hown hlink hnamed hmethM hstatic hkP hinitP hy (g := g) hg (argsL := argsL) (rest := rest) (hlen _ hsigM) hstack hdg
  rcases hK m meth c ⟨T.setVm vm₁, locs, cells, slots⟩ { g with stack := rest } (.invokestatic index) mk argsL.toArray X₁ hg hsize hdg hW (X₁.named hnamed) (hpre vm₁ X₁.warmed) with ⟨v, B, X', hpost, hsteps⟩ | ⟨q, B, X', hpost, hsteps⟩
  · exact Or.inl ⟨v, vm₁, B, X₁.warmed, X', hpost, fun target h => hstep₁ _ fun acts => by rw [doInvoke_state]; exact hsteps.trans h⟩
  · exact Or.inr ⟨q, vm₁, B, X₁.warmed, X', hpost, hstep₁ _ fun acts => by rw [doInvoke_state]; exact hsteps⟩
theorem vx_callVW (X : Stand p l e R s m args below meth c T locs cells slots) (hexec : p.tables.exec = Jvm.exec) {own C : String} {index : Nat} {y : MethodName} {bytes : ByteArray} {maxL : Nat} {ret : Option FieldType} {hh : List (Nat × Nat × Nat × Nat)}
    (hown : s.vm.findClass own = some m.cls) (hlink : (Cond.methodLink own index y).before args s = true) (hinst : (Cond.instanceMethod y).before args s = true) (hsel : (Cond.selects C y y).before args s = true)
    (hcode : (Cond.codeWith y bytes maxL ret hh).before args s = true) (hy : y.cls ≠ "java/lang/invoke/MethodHandle" ∧ y.cls ≠ "java/lang/invoke/VarHandle")
    {W9 : Nat} {Pre : Pt → Array Value → Prop} {Post : Pt → Array Value → Option Value → Pt → Prop} (hK : Back l R p e below s args y 3 W9 Pre Post)
    {b : Addr} {cellB : Cell} (hcell : T.heap[b]? = some cellB) (hobj : cellB.vm.isStatics = false) (hcls : s.vm.findClass C = some cellB.cls)
    {g : JFrame} (hg : g.method = m) (hsize : g.locals.size = c.maxLocals) {argsL rest : List Value} (hlen : ∀ sig, parseMethodDescriptor y.desc = some sig → argsL.length = sig.parameters.length)
    (hstack : g.stack = argsL.reverse ++ .ref b :: rest) (hW : 2 * g.monitorRoom + (rest.map fun v => v.category).sum ≤ W9) (hdg : decode c.code g.pc = .ok (.invokevirtual index, 3))
    (hpre : ∀ vm₁, s.WarmedH vm₁ → Pre ⟨T.setVm vm₁, locs, cells, slots⟩ (Value.ref b :: argsL).toArray) :
    ∃ (v : Option Value) (vm₁ : Vm) (B : Pt), s.WarmedH vm₁ ∧ Stand p l e R s m args below meth c B.U B.locs B.cells B.slots ∧ Post ⟨T.setVm vm₁, locs, cells, slots⟩ (Value.ref b :: argsL).toArray v B ∧
      ∀ target, Steps p.tables e below (B.U.setTop { g with pc := g.pc + 3, stack := v.toList ++ rest }) target → Steps p.tables e below (T.setTop g) target := by
  obtain ⟨mk, methM, hnamed, hmethM, hstM, habM⟩ := Cond.instanceMethod_spec hinst
  obtain ⟨m8, methM', cM, hn8, hmethM', -, -, -, -, -, -, hsigM⟩ := Cond.codeWith_spec hcode
  cases Option.some.inj (hn8.symm.trans hnamed)
  cases hmethM.symm.trans hmethM'
  obtain ⟨c2, r2, m2, q1, q2, q3, q4, kP, hkP, hkPi⟩ := Cond.selects_spec hsel
  cases hcls.symm.trans q1
  cases (State.methodFound?_of_named hnamed hy).symm.trans q2
  cases hnamed.symm.trans q3
  have hselP : selectMethod e.platform s.vm cellB.cls mk = .method mk := by rw [Launch.admits_selectMethod X.admits]; exact q4
  obtain ⟨vm₁, X₁, hstep₁⟩ := X.invokevirtual hexec hown hlink hnamed hmethM hstM hkP hkPi hy (a := b) (cell := cellB) hcell
    (fun z h => by rw [h] at hobj; cases hobj) hselP hmethM habM hkP hkPi (g := g) hg (argsL := argsL) (rest := rest) (hlen _ hsigM) hstack hdg
  obtain ⟨v, B, X', hpost, hsteps⟩ := hK m meth c ⟨T.setVm vm₁, locs, cells, slots⟩ { g with stack := rest } (.invokevirtual index) mk (Value.ref b :: argsL).toArray X₁ hg hsize hdg hW (X₁.named hnamed) (hpre vm₁ X₁.warmed)
  exact ⟨v, vm₁, B, X₁.warmed, X', hpost, fun target h => hstep₁ _ fun acts => by rw [doInvoke_state]; exact hsteps.trans h⟩
abbrev vx_CVW (R : Room) (s : State) (args : Array Value) (own C : String) (index : Nat) (y : MethodName) (bytes : ByteArray) (maxL : Nat) (ret : Option FieldType) (hh : List (Nat × Nat × Nat × Nat)) (ws : List Cond) (rm : Room) (mc ms n : Nat) : Prop :=
  (rm.cells = mc ∧ rm.slots = ms ∧ rm.frames + 1 ≤ R.frames ∧ 8 + (maxL + 11) + rm.locals ≤ R.locals ∧ (∀ w ∈ ws, ∀ (a' : Array Value) (U : State), s.WarmedH U.vm → w.before a' U = true) ∧ Cond.codeWith y bytes maxL ret hh ∈ ws) ∧
  (Cond.codeWith y bytes maxL ret hh).before args s = true ∧ (Cond.initialized y.cls).before args s = true ∧ (y.cls ≠ "java/lang/invoke/MethodHandle" ∧ y.cls ≠ "java/lang/invoke/VarHandle") ∧
  (∀ sig, parseMethodDescriptor y.desc = some sig → n = sig.parameters.length) ∧ (Cond.methodLink own index y).before args s = true ∧ (Cond.instanceMethod y).before args s = true ∧ (Cond.selects C y y).before args s = true
theorem vx_cwVW {own C : String} {index maxL mc ms : Nat} {y : MethodName} {bytes : ByteArray} {ret : Option FieldType} {hh : List (Nat × Nat × Nat × Nat)} {Ts ws ws' : List Cond} {rm : Room} (n : Nat) (ht : ∀ w ∈ Ts, w.before args s = true) (hT : GoodIn Ts (wsV own index C y ws)) (hw : ws = Cond.codeWith y bytes maxL ret hh :: ws') (hrc : rm.cells = mc) (hrs : rm.slots = ms)
    (hd : y.cls = C ∧ y.cls ≠ "java/lang/invoke/MethodHandle" ∧ y.cls ≠ "java/lang/invoke/VarHandle" ∧ (parseMethodDescriptor y.desc).map (fun d => d.parameters.length) = some n) (hR : rm.frames + 1 ≤ R.frames ∧ 8 + (maxL + 11) + rm.locals ≤ R.locals) :
    vx_CVW R s args own C index y bytes maxL ret hh ws rm mc ms n := by
  obtain ⟨hC, hd⟩ := hd
  subst hC
  have ok : ∀ w ∈ wsV own index y.cls y ws, w.before args s = true := fun w h => ht w (hT w h).1
  have hG : GoodIn Ts ws := fun w h => hT w (by unfold wsV; exact List.mem_append_right _ h)
  have hc : Cond.codeWith y bytes maxL ret hh ∈ ws := by rw [hw]; exact List.mem_cons_self
  refine ⟨⟨hrc, hrs, hR.1, hR.2, pay_in ht hG, hc⟩, ht _ (hG _ hc).1, ok _ (by simp [wsV]), ⟨hd.1, hd.2.1⟩, fun sig h => ?_, ok _ (by simp [wsV]), ok _ (by simp [wsV]), ok _ (by simp [wsV])⟩
  have h2 := hd.2.2
  rw [h] at h2
  exact (Option.some.inj h2).symm
theorem vx_runVW {y : MethodName} {bytes cc : ByteArray} {maxL nL mc ms n index : Nat} {ret : Option FieldType} {hh : List (Nat × Nat × Nat × Nat)} {ws : List Cond} {rm : Room} {Pc : Array Value → State → Prop} {Qc : Array Value → State → Outcome → State → Prop} {free : Addr → Prop} {Ts : List Cond} {own C : String} {b : Addr} {As rest : List Value} {g : JFrame}
    (S : CallFix p m c cc nL s args Ts own) (hM : Met l y ws rm Pc Qc mc ms free) (cw : vx_CVW R s args own C index y bytes maxL ret hh ws rm mc ms n) (hp : PreV s H C b Pc As)
    (hg : g.method = m) (hn : As.length = n) (hsize : g.locals.size = nL) (hstack : g.stack = As.reverse ++ .ref b :: rest) (hW : 2 * g.monitorRoom + (rest.map fun v => v.category).sum ≤ 8) (hdg : decode cc g.pc = .ok (.invokevirtual index, 3)) (hf : cells + mc ≤ R.cells ∧ slots + ms ≤ R.slots) :
    va_Run p l e R s m args below meth c H locs cells slots mc ms g rest (Qc (Value.ref b :: As).toArray) free := by
  obtain ⟨⟨hrc, hrs, hfr, hlo, hws, hcw⟩, hcode, hini, hy, hlen, hl, hin, hse⟩ := cw
  have hK : Back l R p e below s args y 3 8 (PreOf R mc ms Pc) (PostOf Qc mc ms free) := va_backW (hh := hh) (bytes := bytes) (maxL := maxL) (ret := ret) hM hp.1 hrc hrs hfr hlo hws hcw (fun a' U hW => word_at hW (Or.inl (by first | rfl | simp [Cond.onTables, Cond.keeps, Cond.steady])) hini)
  obtain ⟨hx, hb, hml, ho, -⟩ := S
  obtain ⟨-, ⟨cellB, hcB, hoB, hclB⟩, hPc⟩ := hp
  intro T hT X
  obtain ⟨v, vm₁, ⟨U', l2, c2, s2⟩, hW₁, X', ⟨g', mk, t, L, e1, e2, hq, h1, hL, h2, h3⟩, st⟩ := vx_callVW X hx (C := C) (hh := hh) (bytes := bytes) (maxL := maxL) (ret := ret) ho hl hin hse hcode hy hK (by rw [hT]; exact hcB) hoB hclB hg (hsize.trans hml.symm) (argsL := As) (rest := rest) (fun sig h => hn.trans (hlen sig h)) hstack hW (by rw [hb]; exact hdg)
    (fun vm₁ hW₁ => ⟨hf.1, hf.2, hPc (T.setVm vm₁) hT hW₁⟩)
  dsimp only [Pt.U, Pt.locs, Pt.cells, Pt.slots] at X' e1 e2 h1 h2 h3 st
  subst h1; subst h2; subst h3
  exact ⟨v, (T.setVm vm₁).calling g' mk (Value.ref b :: As).toArray, t, U', L, hT, X', hL, e1, e2, hq, st⟩
section
variable {y : MethodName} {bytes cc : ByteArray} {maxL nL mc ms n index : Nat} {ret : Option FieldType} {ws : List Cond} {rm : Room} {Pc : Array Value → State → Prop} {Qc : Array Value → State → Outcome → State → Prop} {XC : String → State → State → Prop} {free : Addr → Prop} {Ts : List Cond} {own C : String} {b : Addr} {As rest : List Value} {g : JFrame}
theorem vx_runVX {hh : List (Nat × Nat × Nat × Nat)} (S : CallFix p m c cc nL s args Ts own) (hM : vx_Met l y ws rm Pc Qc XC mc ms free) (cw : vx_CVW R s args own C index y bytes maxL ret hh ws rm mc ms n) (hp : PreV s H C b Pc As)
    (hg : g.method = m) (hn : As.length = n) (hsize : g.locals.size = nL) (hstack : g.stack = As.reverse ++ .ref b :: rest) (hW : 2 * g.monitorRoom + (rest.map fun v => v.category).sum ≤ 8) (hdg : decode cc g.pc = .ok (.invokevirtual index, 3)) (hf : cells + mc ≤ R.cells ∧ slots + ms ≤ R.slots) :
    vx_Run p l e R s m args below meth c H locs cells slots mc ms g rest (Qc (Value.ref b :: As).toArray) XC free := by
  obtain ⟨⟨hrc, hrs, hfr, hlo, hws, hcw⟩, hcode, hini, hy, hlen, hl, hin, hse⟩ := cw
  have hK : vx_Back l R p e below s args y 3 8 (PreOf R mc ms Pc) (PostOf Qc mc ms free) (vx_Post XC mc ms free) := vx_backW (hh := hh) (bytes := bytes) (maxL := maxL) (ret := ret) hM hp.1 hrc hrs hfr hlo hws hcw (fun a' U hW => word_at hW (Or.inl (by first | rfl | simp [Cond.onTables, Cond.keeps, Cond.steady])) hini)
  obtain ⟨hx, hb, hml, ho, -⟩ := S
  obtain ⟨-, ⟨cellB, hcB, hoB, hclB⟩, hPc⟩ := hp
  intro T hT X
  rcases vx_callVX X hx (C := C) (hh := hh) (bytes := bytes) (maxL := maxL) (ret := ret) ho hl hin hse hcode hy hK (by rw [hT]; exact hcB) hoB hclB hg (hsize.trans hml.symm) (argsL := As) (rest := rest) (fun sig h => hn.trans (hlen sig h)) hstack hW (by rw [hb]; exact hdg)
    (fun vm₁ hW₁ => ⟨hf.1, hf.2, hPc (T.setVm vm₁) hT hW₁⟩) with ⟨v, vm₁, ⟨U', l2, c2, s2⟩, hW₁, X', ⟨g', mk, t, L, e1, e2, hq, h1, hL, h2, h3⟩, st⟩ | ⟨q, vm₁, ⟨U', l2, c2, s2⟩, hW₁, X', ⟨g', mk, t, L, E, ce, e1, e2, hq, hce, hcv, hcl, h1, hL, h2, h3⟩, st⟩
  · dsimp only [Pt.U, Pt.locs, Pt.cells, Pt.slots] at X' e1 e2 h1 h2 h3 st
    subst h1; subst h2; subst h3
    exact Or.inl ⟨v, (T.setVm vm₁).calling g' mk (Value.ref b :: As).toArray, t, U', L, hT, X', hL, e1, e2, hq, st⟩
  · dsimp only [Pt.U, Pt.locs, Pt.cells, Pt.slots] at X' e1 e2 h1 h2 h3 st hcl
    subst h1; subst h2; subst h3
    exact Or.inr ⟨q, (T.setVm vm₁).calling g' mk (Value.ref b :: As).toArray, t, U', L, E, ce, hT, X', hL, e1, e2, hq, hce, hcv, vx_cls hW₁ hcl, st⟩
theorem vx_runSX {hh : List (Nat × Nat × Nat × Nat)} (S : CallFix p m c cc nL s args Ts own) (hM : vx_Met l y ws rm Pc Qc XC mc ms free) (cw : vx_CSW R s args own index y bytes maxL ret hh ws rm mc ms n) (hp : PreS s H Pc As)
    (hg : g.method = m) (hn : As.length = n) (hsize : g.locals.size = nL) (hstack : g.stack = As.reverse ++ rest) (hW : 2 * g.monitorRoom + (rest.map fun v => v.category).sum ≤ 8) (hdg : decode cc g.pc = .ok (.invokestatic index, 3)) (hf : cells + mc ≤ R.cells ∧ slots + ms ≤ R.slots) :
    vx_Run p l e R s m args below meth c H locs cells slots mc ms g rest (Qc As.toArray) XC free := by
  obtain ⟨⟨hrc, hrs, hfr, hlo, hws, hcw⟩, hcode, hini, hy, hlen, hl, hstt⟩ := cw
  have hK : vx_Back l R p e below s args y 3 8 (PreOf R mc ms Pc) (PostOf Qc mc ms free) (vx_Post XC mc ms free) := vx_backW (hh := hh) (bytes := bytes) (maxL := maxL) (ret := ret) hM hp.1 hrc hrs hfr hlo hws hcw (fun a' U hW => word_at hW (Or.inl (by first | rfl | simp [Cond.onTables, Cond.keeps, Cond.steady])) hini)
  obtain ⟨hx, hb, hml, ho, -⟩ := S
  intro T hT X
  rcases vx_callSX X hx (hh := hh) (bytes := bytes) (maxL := maxL) (ret := ret) ho hl hstt hini hcode hy hK hg (hsize.trans hml.symm) (argsL := As) (rest := rest) (fun sig h => hn.trans (hlen sig h)) hstack hW (by rw [hb]; exact hdg)
    (fun vm₁ hW₁ => ⟨hf.1, hf.2, hp.2 (T.setVm vm₁) hT hW₁⟩) with ⟨v, vm₁, ⟨U', l2, c2, s2⟩, hW₁, X', ⟨g', mk, t, L, e1, e2, hq, h1, hL, h2, h3⟩, st⟩ | ⟨q, vm₁, ⟨U', l2, c2, s2⟩, hW₁, X', ⟨g', mk, t, L, E, ce, e1, e2, hq, hce, hcv, hcl, h1, hL, h2, h3⟩, st⟩
  · dsimp only [Pt.U, Pt.locs, Pt.cells, Pt.slots] at X' e1 e2 h1 h2 h3 st
    subst h1; subst h2; subst h3
    exact Or.inl ⟨v, (T.setVm vm₁).calling g' mk As.toArray, t, U', L, hT, X', hL, e1, e2, hq, st⟩
  · dsimp only [Pt.U, Pt.locs, Pt.cells, Pt.slots] at X' e1 e2 h1 h2 h3 st hcl
    subst h1; subst h2; subst h3
    exact Or.inr ⟨q, (T.setVm vm₁).calling g' mk As.toArray, t, U', L, E, ce, hT, X', hL, e1, e2, hq, hce, hcv, vx_cls hW₁ hcl, st⟩
end
end VXH
theorem vx_ofWH {l : Launch} {y : MethodName} {ws ws' : List Cond} {rm : Room} {Pc : Array Value → State → Prop} {Qc : Array Value → State → Outcome → State → Prop} {XC : String → State → State → Prop} {mc ms : Nat} {free : Addr → Prop} {cc : ByteArray} {maxL : Nat} {ret : Option FieldType} {hh : List (Nat × Nat × Nat × Nat)}
    (hy : plainName y.cls = true) (hw : ws = Cond.codeWith y cc maxL ret hh :: ws')
    (body : ∀ p e s m args below meth c s₁, BodyLoose p l y (headSpec ws rm) cc maxL ret e s m args below meth c s₁ → c.maxLocals = maxL → Pc args s →
      W p l e (headSpec ws rm).room s m args below meth c s.heap [] 0 0 (vx_MQ below Qc XC args s mc ms free) (entryFrame m args maxL)) : vx_Met l y ws rm Pc Qc XC mc ms free := by
  refine MetFree.of_bodyS (code := cc) (maxLocals := maxL) (ret := ret) hy ?_ ?_
  · intro args s m h hn
    obtain ⟨m9, meth, c, hn9, h1, h2, h3, h4, -, h5, h6, -⟩ := Cond.codeWith_spec (atoms_spec (ws := ws) h _ (by rw [hw]; exact List.mem_cons_self))
    cases hn.symm.trans hn9
    exact ⟨meth, c, h1, h2, h3, h4, h5, h6⟩
  · intro p e s m args below meth c s₁ B hml hP _
    have hh0 : s₁.heap = s.heap := by rw [B.state]; rfl
    obtain ⟨t, a1, o, b1, b2, b3⟩ := body p e s m args below meth c s₁ B hml hP s₁ hh0 (Stand.of_body B)
    exact ⟨t, o, a1, b1, b2, b3⟩
/-! ===== END ===== -/
end
section
/-! ===== BEGIN printed: names, fields, word lists, decode rows ===== -/
def RX0 : String := "Politecrawl$Address"
def TX0 : u_T := fun k => match k with
  | 0 => ("Politecrawl$Address", "characters", "[C", true)
  | 1 => ("Politecrawl$Address", "starts", "[I", true)
  | 2 => ("Politecrawl$Address", "length", "I", false)
  | _ => ("Politecrawl$Address", "segmentCount", "I", false)
def tyX0 : Nat → FieldType := fun k => match k with
  | 0 => .array .char
  | 1 => .array .int
  | 2 => .int
  | _ => .int
abbrev wsX00 : List Cond := u_ws RX0 TX0 4
theorem nmX0 : ∀ a, a < 4 → ∀ b, b < 4 → a ≠ b → (TX0 a).2.1 ≠ (TX0 b).2.1 := by decide +kernel
theorem tyX0_ok : ∀ k, k < 4 → parseFieldDescriptor (TX0 k).2.2.1 = some (tyX0 k) := by decide +kernel
abbrev cX0_init : ByteArray := prog_2_method_1_code
def yX0_init : MethodName := ⟨RX0, "<init>", "()V"⟩
abbrev cX0_init_ : ByteArray := prog_2_method_2_code
def yX0_init_ : MethodName := ⟨RX0, "<init>", "(LPolitecrawl$Address;)V"⟩
abbrev cX0_isFull : ByteArray := prog_2_method_3_code
def yX0_isFull : MethodName := ⟨RX0, "isFull", "()Z"⟩
abbrev cX0_add : ByteArray := prog_2_method_4_code
def yX0_add : MethodName := ⟨RX0, "add", "(C)V"⟩
abbrev cX0_empty : ByteArray := prog_2_method_5_code
def yX0_empty : MethodName := ⟨RX0, "empty", "()V"⟩
abbrev cX0_at : ByteArray := prog_2_method_6_code
def yX0_at : MethodName := ⟨RX0, "at", "(I)C"⟩
abbrev cX0_isSameAs : ByteArray := prog_2_method_7_code
def yX0_isSameAs : MethodName := ⟨RX0, "isSameAs", "(LPolitecrawl$Address;)Z"⟩
abbrev cX0_repeatsItself : ByteArray := prog_2_method_8_code
def yX0_repeatsItself : MethodName := ⟨RX0, "repeatsItself", "()Z"⟩
abbrev cX0_comesThrice : ByteArray := prog_2_method_9_code
def yX0_comesThrice : MethodName := ⟨RX0, "comesThrice", "(I)Z"⟩
abbrev cX0_hasSameSegments : ByteArray := prog_2_method_10_code
def yX0_hasSameSegments : MethodName := ⟨RX0, "hasSameSegments", "(II)Z"⟩
abbrev cX0_startOf : ByteArray := prog_2_method_11_code
def yX0_startOf : MethodName := ⟨RX0, "startOf", "(I)I"⟩
abbrev cX0_startSegment : ByteArray := prog_2_method_12_code
def yX0_startSegment : MethodName := ⟨RX0, "startSegment", "()V"⟩
def RX1 : String := "Politecrawl$Host"
def TX1 : u_T := fun k => match k with
  | 0 => ("Politecrawl$Host", "rest", "I", false)
  | 1 => ("Politecrawl$Host", "failures", "I", false)
  | _ => ("Politecrawl$Host", "openFrom", "I", false)
def tyX1 : Nat → FieldType := fun k => match k with
  | 0 => .int
  | 1 => .int
  | _ => .int
abbrev wsX10 : List Cond := u_ws RX1 TX1 3
theorem nmX1 : ∀ a, a < 3 → ∀ b, b < 3 → a ≠ b → (TX1 a).2.1 ≠ (TX1 b).2.1 := by decide +kernel
theorem tyX1_ok : ∀ k, k < 3 → parseFieldDescriptor (TX1 k).2.2.1 = some (tyX1 k) := by decide +kernel
abbrev cX1_init : ByteArray := prog_3_method_1_code
def yX1_init : MethodName := ⟨RX1, "<init>", "()V"⟩
abbrev cX1_restFrom : ByteArray := prog_3_method_2_code
def yX1_restFrom : MethodName := ⟨RX1, "restFrom", "(I)V"⟩
def RX2 : String := "Politecrawl$Page"
def TX2 : u_T := fun k => match k with
  | 0 => ("Politecrawl$Page", "number", "I", true)
  | 1 => ("Politecrawl$Page", "host", "LPolitecrawl$Host;", true)
  | 2 => ("Politecrawl$Page", "address", "LPolitecrawl$Address;", true)
  | 3 => ("Politecrawl$Page", "lost", "Z", true)
  | 4 => ("Politecrawl$Page", "rank", "I", false)
  | 5 => ("Politecrawl$Page", "due", "I", false)
  | 6 => ("Politecrawl$Page", "visits", "I", false)
  | 7 => ("Politecrawl$Page", "changes", "I", false)
  | 8 => ("Politecrawl$Page", "gone", "Z", false)
  | _ => ("Politecrawl$Page", "spread", "I", false)
def tyX2 : Nat → FieldType := fun k => match k with
  | 0 => .int
  | 1 => .object "Politecrawl$Host"
  | 2 => .object "Politecrawl$Address"
  | 3 => .boolean
  | 4 => .int
  | 5 => .int
  | 6 => .int
  | 7 => .int
  | 8 => .boolean
  | _ => .int
abbrev wsX20 : List Cond := u_ws RX2 TX2 10
theorem nmX2 : ∀ a, a < 10 → ∀ b, b < 10 → a ≠ b → (TX2 a).2.1 ≠ (TX2 b).2.1 := by decide +kernel
theorem tyX2_ok : ∀ k, k < 10 → parseFieldDescriptor (TX2 k).2.2.1 = some (tyX2 k) := by decide +kernel
abbrev cX2_init : ByteArray := prog_4_method_1_code
def yX2_init : MethodName := ⟨RX2, "<init>", "(ILPolitecrawl$Host;LPolitecrawl$Address;II)V"⟩
abbrev cX2_isKept : ByteArray := prog_4_method_2_code
def yX2_isKept : MethodName := ⟨RX2, "isKept", "()Z"⟩
abbrev cX2_pressing : ByteArray := prog_4_method_3_code
def yX2_pressing : MethodName := ⟨RX2, "pressing", "(I)I"⟩
abbrev cX2_gainsMoreThan : ByteArray := prog_4_method_4_code
def yX2_gainsMoreThan : MethodName := ⟨RX2, "gainsMoreThan", "(LPolitecrawl$Page;)Z"⟩
abbrev cX2_gainAbove : ByteArray := prog_4_method_5_code
def yX2_gainAbove : MethodName := ⟨RX2, "gainAbove", "()J"⟩
abbrev cX2_gainBelow : ByteArray := prog_4_method_6_code
def yX2_gainBelow : MethodName := ⟨RX2, "gainBelow", "()J"⟩
def RX3 : String := "Politecrawl"
def TX3 : u_T := fun k => match k with
  | 0 => ("Politecrawl", "buffer", "LPolitecrawl$Address;", true)
  | 1 => ("Politecrawl", "hosts", "[LPolitecrawl$Host;", true)
  | 2 => ("Politecrawl", "found", "[LPolitecrawl$Page;", true)
  | 3 => ("Politecrawl", "foundCount", "I", false)
  | 4 => ("Politecrawl", "tick", "I", false)
  | 5 => ("Politecrawl", "shortestPace", "I", false)
  | 6 => ("Politecrawl", "longestPace", "I", false)
  | 7 => ("Politecrawl", "budget", "I", false)
  | _ => ("Politecrawl", "visitsInSpan", "I", false)
def tyX3 : Nat → FieldType := fun k => match k with
  | 0 => .object "Politecrawl$Address"
  | 1 => .array (.object "Politecrawl$Host")
  | 2 => .array (.object "Politecrawl$Page")
  | 3 => .int
  | 4 => .int
  | 5 => .int
  | 6 => .int
  | 7 => .int
  | _ => .int
abbrev wsX30 : List Cond := u_ws RX3 TX3 9
theorem nmX3 : ∀ a, a < 9 → ∀ b, b < 9 → a ≠ b → (TX3 a).2.1 ≠ (TX3 b).2.1 := by decide +kernel
theorem tyX3_ok : ∀ k, k < 9 → parseFieldDescriptor (TX3 k).2.2.1 = some (tyX3 k) := by decide +kernel
abbrev cX3_init : ByteArray := prog_1_method_1_code
def yX3_init : MethodName := ⟨RX3, "<init>", "()V"⟩
abbrev cX3_type : ByteArray := prog_1_method_2_code
def yX3_type : MethodName := ⟨RX3, "type", "(C)I"⟩
abbrev cX3_clearAddress : ByteArray := prog_1_method_3_code
def yX3_clearAddress : MethodName := ⟨RX3, "clearAddress", "()I"⟩
abbrev cX3_segments : ByteArray := prog_1_method_4_code
def yX3_segments : MethodName := ⟨RX3, "segments", "()I"⟩
abbrev cX3_isTrap : ByteArray := prog_1_method_5_code
def yX3_isTrap : MethodName := ⟨RX3, "isTrap", "()Z"⟩
abbrev cX3_setRest : ByteArray := prog_1_method_6_code
def yX3_setRest : MethodName := ⟨RX3, "setRest", "(II)I"⟩
abbrev cX3_setPaces : ByteArray := prog_1_method_7_code
def yX3_setPaces : MethodName := ⟨RX3, "setPaces", "(II)V"⟩
abbrev cX3_setBudget : ByteArray := prog_1_method_8_code
def yX3_setBudget : MethodName := ⟨RX3, "setBudget", "(I)I"⟩
abbrev cX3_failures : ByteArray := prog_1_method_9_code
def yX3_failures : MethodName := ⟨RX3, "failures", "(I)I"⟩
abbrev cX3_openFrom : ByteArray := prog_1_method_10_code
def yX3_openFrom : MethodName := ⟨RX3, "openFrom", "(I)I"⟩
abbrev cX3_find : ByteArray := prog_1_method_11_code
def yX3_find : MethodName := ⟨RX3, "find", "(II)I"⟩
abbrev cX3_setRank : ByteArray := prog_1_method_12_code
def yX3_setRank : MethodName := ⟨RX3, "setRank", "(II)I"⟩
abbrev cX3_pages : ByteArray := prog_1_method_13_code
def yX3_pages : MethodName := ⟨RX3, "pages", "()I"⟩
abbrev cX3_dueAt : ByteArray := prog_1_method_14_code
def yX3_dueAt : MethodName := ⟨RX3, "dueAt", "(I)I"⟩
abbrev cX3_visits : ByteArray := prog_1_method_15_code
def yX3_visits : MethodName := ⟨RX3, "visits", "(I)I"⟩
abbrev cX3_changes : ByteArray := prog_1_method_16_code
def yX3_changes : MethodName := ⟨RX3, "changes", "(I)I"⟩
abbrev cX3_mayVisit : ByteArray := prog_1_method_17_code
def yX3_mayVisit : MethodName := ⟨RX3, "mayVisit", "(I)Z"⟩
abbrev cX3_next : ByteArray := prog_1_method_18_code
def yX3_next : MethodName := ⟨RX3, "next", "()I"⟩
abbrev cX3_nextByScan : ByteArray := prog_1_method_19_code
def yX3_nextByScan : MethodName := ⟨RX3, "nextByScan", "()I"⟩
abbrev cX3_visit : ByteArray := prog_1_method_20_code
def yX3_visit : MethodName := ⟨RX3, "visit", "(II)I"⟩
abbrev cX3_pass : ByteArray := prog_1_method_21_code
def yX3_pass : MethodName := ⟨RX3, "pass", "(I)I"⟩
abbrev cX3_now : ByteArray := prog_1_method_22_code
def yX3_now : MethodName := ⟨RX3, "now", "()I"⟩
abbrev cX3_budgetLeft : ByteArray := prog_1_method_23_code
def yX3_budgetLeft : MethodName := ⟨RX3, "budgetLeft", "()I"⟩
abbrev cX3_waiting : ByteArray := prog_1_method_24_code
def yX3_waiting : MethodName := ⟨RX3, "waiting", "()I"⟩
abbrev cX3_share : ByteArray := prog_1_method_25_code
def yX3_share : MethodName := ⟨RX3, "share", "(II)I"⟩
abbrev cX3_knownHost : ByteArray := prog_1_method_26_code
def yX3_knownHost : MethodName := ⟨RX3, "knownHost", "(I)LPolitecrawl$Host;"⟩
abbrev cX3_knownPage : ByteArray := prog_1_method_27_code
def yX3_knownPage : MethodName := ⟨RX3, "knownPage", "(I)LPolitecrawl$Page;"⟩
abbrev cX3_refuseOtherRanks : ByteArray := prog_1_method_28_code
def yX3_refuseOtherRanks : MethodName := ⟨RX3, "refuseOtherRanks", "(I)V"⟩
abbrev cX3_pageAtBuffer : ByteArray := prog_1_method_29_code
def yX3_pageAtBuffer : MethodName := ⟨RX3, "pageAtBuffer", "(LPolitecrawl$Host;)LPolitecrawl$Page;"⟩
abbrev cX3_numberOf : ByteArray := prog_1_method_30_code
def yX3_numberOf : MethodName := ⟨RX3, "numberOf", "(LPolitecrawl$Page;)I"⟩
abbrev cX3_isReady : ByteArray := prog_1_method_31_code
def yX3_isReady : MethodName := ⟨RX3, "isReady", "(LPolitecrawl$Page;)Z"⟩
abbrev cX3_readyFrom : ByteArray := prog_1_method_32_code
def yX3_readyFrom : MethodName := ⟨RX3, "readyFrom", "(LPolitecrawl$Page;)I"⟩
abbrev cX3_startOfNextSpan : ByteArray := prog_1_method_33_code
def yX3_startOfNextSpan : MethodName := ⟨RX3, "startOfNextSpan", "()I"⟩
abbrev cX3_firstOfHost : ByteArray := prog_1_method_34_code
def yX3_firstOfHost : MethodName := ⟨RX3, "firstOfHost", "(LPolitecrawl$Host;)LPolitecrawl$Page;"⟩
abbrev cX3_earlier : ByteArray := prog_1_method_35_code
def yX3_earlier : MethodName := ⟨RX3, "earlier", "(LPolitecrawl$Page;LPolitecrawl$Page;)LPolitecrawl$Page;"⟩
abbrev cX3_goesBefore : ByteArray := prog_1_method_36_code
def yX3_goesBefore : MethodName := ⟨RX3, "goesBefore", "(LPolitecrawl$Page;LPolitecrawl$Page;)Z"⟩
abbrev cX3_settle : ByteArray := prog_1_method_37_code
def yX3_settle : MethodName := ⟨RX3, "settle", "(LPolitecrawl$Page;I)V"⟩
abbrev cX3_paceOf : ByteArray := prog_1_method_38_code
def yX3_paceOf : MethodName := ⟨RX3, "paceOf", "(LPolitecrawl$Page;)I"⟩
abbrev cX3_dividedUp : ByteArray := prog_1_method_39_code
def yX3_dividedUp : MethodName := ⟨RX3, "dividedUp", "(II)I"⟩
abbrev cX3_forgetSpread : ByteArray := prog_1_method_40_code
def yX3_forgetSpread : MethodName := ⟨RX3, "forgetSpread", "()V"⟩
abbrev cX3_spreadOneVisit : ByteArray := prog_1_method_41_code
def yX3_spreadOneVisit : MethodName := ⟨RX3, "spreadOneVisit", "()V"⟩
def RX4 : String := "PolitecrawlModel"
def TX4 : u_T := fun k => match k with
  | 0 => ("PolitecrawlModel", "thrown", "I", false)
  | 1 => ("PolitecrawlModel", "now", "I", false)
  | 2 => ("PolitecrawlModel", "length", "I", false)
  | 3 => ("PolitecrawlModel", "buffer", "[I", true)
  | 4 => ("PolitecrawlModel", "rest", "[I", true)
  | 5 => ("PolitecrawlModel", "failures", "[I", true)
  | 6 => ("PolitecrawlModel", "openFrom", "[I", true)
  | 7 => ("PolitecrawlModel", "shortest", "I", false)
  | 8 => ("PolitecrawlModel", "longest", "I", false)
  | 9 => ("PolitecrawlModel", "budget", "I", false)
  | 10 => ("PolitecrawlModel", "span", "I", false)
  | 11 => ("PolitecrawlModel", "used", "I", false)
  | 12 => ("PolitecrawlModel", "pages", "I", false)
  | 13 => ("PolitecrawlModel", "text", "[I", true)
  | 14 => ("PolitecrawlModel", "size", "[I", true)
  | 15 => ("PolitecrawlModel", "host", "[I", true)
  | 16 => ("PolitecrawlModel", "rank", "[I", true)
  | 17 => ("PolitecrawlModel", "due", "[I", true)
  | 18 => ("PolitecrawlModel", "visits", "[I", true)
  | 19 => ("PolitecrawlModel", "changes", "[I", true)
  | 20 => ("PolitecrawlModel", "gone", "[Z", true)
  | 21 => ("PolitecrawlModel", "lost", "[Z", true)
  | 22 => ("PolitecrawlModel", "segments", "I", false)
  | 23 => ("PolitecrawlModel", "begin", "[I", true)
  | 24 => ("PolitecrawlModel", "many", "[I", true)
  | _ => ("PolitecrawlModel", "shares", "[I", true)
def tyX4 : Nat → FieldType := fun k => match k with
  | 0 => .int
  | 1 => .int
  | 2 => .int
  | 3 => .array .int
  | 4 => .array .int
  | 5 => .array .int
  | 6 => .array .int
  | 7 => .int
  | 8 => .int
  | 9 => .int
  | 10 => .int
  | 11 => .int
  | 12 => .int
  | 13 => .array .int
  | 14 => .array .int
  | 15 => .array .int
  | 16 => .array .int
  | 17 => .array .int
  | 18 => .array .int
  | 19 => .array .int
  | 20 => .array .boolean
  | 21 => .array .boolean
  | 22 => .int
  | 23 => .array .int
  | 24 => .array .int
  | _ => .array .int
abbrev wsX40 : List Cond := u_ws RX4 TX4 26
theorem nmX4 : ∀ a, a < 26 → ∀ b, b < 26 → a ≠ b → (TX4 a).2.1 ≠ (TX4 b).2.1 := by decide +kernel
theorem tyX4_ok : ∀ k, k < 26 → parseFieldDescriptor (TX4 k).2.2.1 = some (tyX4 k) := by decide +kernel
abbrev cX4_init : ByteArray := prog_6_method_1_code
def yX4_init : MethodName := ⟨RX4, "<init>", "()V"⟩
abbrev cX4_thrown : ByteArray := prog_6_method_2_code
def yX4_thrown : MethodName := ⟨RX4, "thrown", "()I"⟩
abbrev cX4_fails : ByteArray := prog_6_method_3_code
def yX4_fails : MethodName := ⟨RX4, "fails", "(I)I"⟩
abbrev cX4_in : ByteArray := prog_6_method_4_code
def yX4_in : MethodName := ⟨RX4, "in", "(III)Z"⟩
abbrev cX4_isHost : ByteArray := prog_6_method_5_code
def yX4_isHost : MethodName := ⟨RX4, "isHost", "(I)Z"⟩
abbrev cX4_isPage : ByteArray := prog_6_method_6_code
def yX4_isPage : MethodName := ⟨RX4, "isPage", "(I)Z"⟩
abbrev cX4_isAsked : ByteArray := prog_6_method_7_code
def yX4_isAsked : MethodName := ⟨RX4, "isAsked", "(I)Z"⟩
abbrev cX4_laySegments : ByteArray := prog_6_method_8_code
def yX4_laySegments : MethodName := ⟨RX4, "laySegments", "()V"⟩
abbrev cX4_areSame : ByteArray := prog_6_method_9_code
def yX4_areSame : MethodName := ⟨RX4, "areSame", "(II)Z"⟩
abbrev cX4_repeats : ByteArray := prog_6_method_10_code
def yX4_repeats : MethodName := ⟨RX4, "repeats", "()Z"⟩
abbrev cX4_type : ByteArray := prog_6_method_11_code
def yX4_type : MethodName := ⟨RX4, "type", "(C)I"⟩
abbrev cX4_clearAddress : ByteArray := prog_6_method_12_code
def yX4_clearAddress : MethodName := ⟨RX4, "clearAddress", "()I"⟩
abbrev cX4_segments : ByteArray := prog_6_method_13_code
def yX4_segments : MethodName := ⟨RX4, "segments", "()I"⟩
abbrev cX4_isTrap : ByteArray := prog_6_method_14_code
def yX4_isTrap : MethodName := ⟨RX4, "isTrap", "()Z"⟩
abbrev cX4_setRest : ByteArray := prog_6_method_15_code
def yX4_setRest : MethodName := ⟨RX4, "setRest", "(II)I"⟩
abbrev cX4_setPaces : ByteArray := prog_6_method_16_code
def yX4_setPaces : MethodName := ⟨RX4, "setPaces", "(II)V"⟩
abbrev cX4_setBudget : ByteArray := prog_6_method_17_code
def yX4_setBudget : MethodName := ⟨RX4, "setBudget", "(I)I"⟩
abbrev cX4_failures : ByteArray := prog_6_method_18_code
def yX4_failures : MethodName := ⟨RX4, "failures", "(I)I"⟩
abbrev cX4_openFrom : ByteArray := prog_6_method_19_code
def yX4_openFrom : MethodName := ⟨RX4, "openFrom", "(I)I"⟩
abbrev cX4_isAddress : ByteArray := prog_6_method_20_code
def yX4_isAddress : MethodName := ⟨RX4, "isAddress", "(I)Z"⟩
abbrev cX4_find : ByteArray := prog_6_method_21_code
def yX4_find : MethodName := ⟨RX4, "find", "(II)I"⟩
abbrev cX4_setRank : ByteArray := prog_6_method_22_code
def yX4_setRank : MethodName := ⟨RX4, "setRank", "(II)I"⟩
abbrev cX4_pages : ByteArray := prog_6_method_23_code
def yX4_pages : MethodName := ⟨RX4, "pages", "()I"⟩
abbrev cX4_counts : ByteArray := prog_6_method_24_code
def yX4_counts : MethodName := ⟨RX4, "counts", "(I)Z"⟩
abbrev cX4_dueAt : ByteArray := prog_6_method_25_code
def yX4_dueAt : MethodName := ⟨RX4, "dueAt", "(I)I"⟩
abbrev cX4_visits : ByteArray := prog_6_method_26_code
def yX4_visits : MethodName := ⟨RX4, "visits", "(I)I"⟩
abbrev cX4_changes : ByteArray := prog_6_method_27_code
def yX4_changes : MethodName := ⟨RX4, "changes", "(I)I"⟩
abbrev cX4_left : ByteArray := prog_6_method_28_code
def yX4_left : MethodName := ⟨RX4, "left", "()I"⟩
abbrev cX4_isOpen : ByteArray := prog_6_method_29_code
def yX4_isOpen : MethodName := ⟨RX4, "isOpen", "(I)Z"⟩
abbrev cX4_mayVisit : ByteArray := prog_6_method_30_code
def yX4_mayVisit : MethodName := ⟨RX4, "mayVisit", "(I)Z"⟩
abbrev cX4_best : ByteArray := prog_6_method_31_code
def yX4_best : MethodName := ⟨RX4, "best", "()I"⟩
abbrev cX4_next : ByteArray := prog_6_method_32_code
def yX4_next : MethodName := ⟨RX4, "next", "()I"⟩
abbrev cX4_nextByScan : ByteArray := prog_6_method_33_code
def yX4_nextByScan : MethodName := ⟨RX4, "nextByScan", "()I"⟩
abbrev cX4_visit : ByteArray := prog_6_method_34_code
def yX4_visit : MethodName := ⟨RX4, "visit", "(II)I"⟩
abbrev cX4_pass : ByteArray := prog_6_method_35_code
def yX4_pass : MethodName := ⟨RX4, "pass", "(I)I"⟩
abbrev cX4_now : ByteArray := prog_6_method_36_code
def yX4_now : MethodName := ⟨RX4, "now", "()I"⟩
abbrev cX4_budgetLeft : ByteArray := prog_6_method_37_code
def yX4_budgetLeft : MethodName := ⟨RX4, "budgetLeft", "()I"⟩
abbrev cX4_waiting : ByteArray := prog_6_method_38_code
def yX4_waiting : MethodName := ⟨RX4, "waiting", "()I"⟩
abbrev cX4_addsMore : ByteArray := prog_6_method_39_code
def yX4_addsMore : MethodName := ⟨RX4, "addsMore", "(II)Z"⟩
abbrev cX4_share : ByteArray := prog_6_method_40_code
def yX4_share : MethodName := ⟨RX4, "share", "(II)I"⟩
def RJx8e188 : String := "java/lang/Cloneable"
def TJx8e188 : u_T := fun k => match k with
  | _ => ("", "", "", false)
def tyJx8e188 : Nat → FieldType := fun k => match k with
  | _ => .int
abbrev wsJx8e1880 : List Cond := u_ws RJx8e188 TJx8e188 0
theorem nmJx8e188 : ∀ a, a < 0 → ∀ b, b < 0 → a ≠ b → (TJx8e188 a).2.1 ≠ (TJx8e188 b).2.1 := by decide +kernel
theorem tyJx8e188_ok : ∀ k, k < 0 → parseFieldDescriptor (TJx8e188 k).2.2.1 = some (tyJx8e188 k) := by decide +kernel
def RJ9 : String := "java/lang/Math"
def TJ9 : u_T := fun k => match k with
  | _ => ("", "", "", false)
def tyJ9 : Nat → FieldType := fun k => match k with
  | _ => .int
abbrev wsJ90 : List Cond := u_ws RJ9 TJ9 0
theorem nmJ9 : ∀ a, a < 0 → ∀ b, b < 0 → a ≠ b → (TJ9 a).2.1 ≠ (TJ9 b).2.1 := by decide +kernel
theorem tyJ9_ok : ∀ k, k < 0 → parseFieldDescriptor (TJ9 k).2.2.1 = some (tyJ9 k) := by decide +kernel
abbrev cJ9_max_7cf53 : ByteArray := prog_12_method_65_code
def yJ9_max_7cf53 : MethodName := ⟨RJ9, "max", "(II)I"⟩
abbrev cJ9_min_7cf53 : ByteArray := prog_12_method_69_code
def yJ9_min_7cf53 : MethodName := ⟨RJ9, "min", "(II)I"⟩
def RJ0 : String := "java/lang/String"
def TJ0 : u_T := fun k => match k with
  | _ => ("", "", "", false)
def tyJ0 : Nat → FieldType := fun k => match k with
  | _ => .int
abbrev wsJ00 : List Cond := u_ws RJ0 TJ0 0
theorem nmJ0 : ∀ a, a < 0 → ∀ b, b < 0 → a ≠ b → (TJ0 a).2.1 ≠ (TJ0 b).2.1 := by decide +kernel
theorem tyJ0_ok : ∀ k, k < 0 → parseFieldDescriptor (TJ0 k).2.2.1 = some (tyJ0 k) := by decide +kernel
def RL : String := "PolitecrawlLaw"
abbrev cL_type : ByteArray := method_3_code
def yL_type : MethodName := ⟨RL, "type", "(LPolitecrawl;C[J)I"⟩
abbrev cL_setRest : ByteArray := method_4_code
def yL_setRest : MethodName := ⟨RL, "setRest", "(LPolitecrawl;II[J)I"⟩
abbrev cL_setPaces : ByteArray := method_5_code
def yL_setPaces : MethodName := ⟨RL, "setPaces", "(LPolitecrawl;II)I"⟩
abbrev cL_setBudget : ByteArray := method_6_code
def yL_setBudget : MethodName := ⟨RL, "setBudget", "(LPolitecrawl;I[J)I"⟩
abbrev cL_failures : ByteArray := method_7_code
def yL_failures : MethodName := ⟨RL, "failures", "(LPolitecrawl;I[J)I"⟩
abbrev cL_openFrom : ByteArray := method_8_code
def yL_openFrom : MethodName := ⟨RL, "openFrom", "(LPolitecrawl;I[J)I"⟩
abbrev cL_find : ByteArray := method_9_code
def yL_find : MethodName := ⟨RL, "find", "(LPolitecrawl;II[J)I"⟩
abbrev cL_setRank : ByteArray := method_10_code
def yL_setRank : MethodName := ⟨RL, "setRank", "(LPolitecrawl;II[J)I"⟩
abbrev cL_dueAt : ByteArray := method_11_code
def yL_dueAt : MethodName := ⟨RL, "dueAt", "(LPolitecrawl;I[J)I"⟩
abbrev cL_visits : ByteArray := method_12_code
def yL_visits : MethodName := ⟨RL, "visits", "(LPolitecrawl;I[J)I"⟩
abbrev cL_changes : ByteArray := method_13_code
def yL_changes : MethodName := ⟨RL, "changes", "(LPolitecrawl;I[J)I"⟩
abbrev cL_mayVisit : ByteArray := method_14_code
def yL_mayVisit : MethodName := ⟨RL, "mayVisit", "(LPolitecrawl;I[J)I"⟩
abbrev cL_visit : ByteArray := method_15_code
def yL_visit : MethodName := ⟨RL, "visit", "(LPolitecrawl;II[J)I"⟩
abbrev cL_pass : ByteArray := method_16_code
def yL_pass : MethodName := ⟨RL, "pass", "(LPolitecrawl;I[J)I"⟩
abbrev cL_share : ByteArray := method_17_code
def yL_share : MethodName := ⟨RL, "share", "(LPolitecrawl;II[J)I"⟩
abbrev cL_law : ByteArray := code
def yL_law : MethodName := ⟨RL, "law", "([I)Z"⟩
def wsX0_init : List Cond := .code yX0_init cX0_init 1 none :: ([.methodLink RX0 3 objectInit, .instanceMethod objectInit, .code objectInit ⟨#[0xb1]⟩ 1 none, .arrayClass .char, .fieldLink RX0 9 "Politecrawl$Address" "characters" "[C", .arrayClass .int, .fieldLink RX0 15 "Politecrawl$Address" "starts" "[I"] ++ wsX00)
def wsX0_init_ : List Cond := .code yX0_init_ cX0_init_ 2 none :: ([.methodLink RX0 3 objectInit, .instanceMethod objectInit, .code objectInit ⟨#[0xb1]⟩ 1 none, .fieldLink RX0 9 "Politecrawl$Address" "characters" "[C", .methodLink RX0 19 ⟨"[C", "clone", "()Ljava/lang/Object;"⟩, .sameMethod "[C" "java/lang/Object" "clone" "()Ljava/lang/Object;", .native ⟨"java/lang/Object", "clone", "()Ljava/lang/Object;"⟩, .instanceMethod ⟨"java/lang/Object", "clone", "()Ljava/lang/Object;"⟩, .selects "[C" ⟨"[C", "clone", "()Ljava/lang/Object;"⟩ ⟨"java/lang/Object", "clone", "()Ljava/lang/Object;"⟩, .classLink RX0 20 "[C", .fieldLink RX0 15 "Politecrawl$Address" "starts" "[I", .methodLink RX0 24 ⟨"[I", "clone", "()Ljava/lang/Object;"⟩, .sameMethod "[I" "java/lang/Object" "clone" "()Ljava/lang/Object;", .selects "[I" ⟨"[I", "clone", "()Ljava/lang/Object;"⟩ ⟨"java/lang/Object", "clone", "()Ljava/lang/Object;"⟩, .classLink RX0 25 "[I", .fieldLink RX0 26 "Politecrawl$Address" "length" "I", .fieldLink RX0 30 "Politecrawl$Address" "segmentCount" "I"] ++ wsX00)
def wsX0_isFull : List Cond := .code yX0_isFull cX0_isFull 1 (some .boolean) :: ([.fieldLink RX0 26 "Politecrawl$Address" "length" "I", .fieldLink RX0 9 "Politecrawl$Address" "characters" "[C"] ++ wsX00)
def wsX0_at : List Cond := .code yX0_at cX0_at 3 (some .char) :: ([.fieldLink RX0 26 "Politecrawl$Address" "length" "I", .fieldLink RX0 9 "Politecrawl$Address" "characters" "[C"] ++ wsX00)
def wsX0_startSegment : List Cond := .code yX0_startSegment cX0_startSegment 1 none :: ([.fieldLink RX0 30 "Politecrawl$Address" "segmentCount" "I", .fieldLink RX0 15 "Politecrawl$Address" "starts" "[I", .fieldLink RX0 26 "Politecrawl$Address" "length" "I"] ++ wsX00)
def wsX0_add : List Cond := .code yX0_add cX0_add 2 none :: ([.fieldLink RX0 26 "Politecrawl$Address" "length" "I", .fieldLink RX0 9 "Politecrawl$Address" "characters" "[C", .methodLink RX0 33 yX0_at, .instanceMethod yX0_at, .selects RX0 yX0_at yX0_at, .initialized RX0, .code yX0_at cX0_at 3 (some .char), .methodLink RX0 37 yX0_startSegment, .instanceMethod yX0_startSegment, .selects RX0 yX0_startSegment yX0_startSegment, .code yX0_startSegment cX0_startSegment 1 none, .fieldLink RX0 30 "Politecrawl$Address" "segmentCount" "I", .fieldLink RX0 15 "Politecrawl$Address" "starts" "[I"] ++ wsX00)
def wsX0_empty : List Cond := .code yX0_empty cX0_empty 1 none :: ([.fieldLink RX0 26 "Politecrawl$Address" "length" "I", .fieldLink RX0 30 "Politecrawl$Address" "segmentCount" "I"] ++ wsX00)
def wsX0_isSameAs : List Cond := .code yX0_isSameAs cX0_isSameAs 3 (some .boolean) :: ([.fieldLink RX0 26 "Politecrawl$Address" "length" "I", .methodLink RX0 33 yX0_at, .instanceMethod yX0_at, .selects RX0 yX0_at yX0_at, .initialized RX0, .code yX0_at cX0_at 3 (some .char), .fieldLink RX0 9 "Politecrawl$Address" "characters" "[C"] ++ wsX00)
def wsX0_startOf : List Cond := .code yX0_startOf cX0_startOf 2 (some .int) :: ([.fieldLink RX0 15 "Politecrawl$Address" "starts" "[I", .fieldLink RX0 26 "Politecrawl$Address" "length" "I"] ++ wsX00)
def wsX0_hasSameSegments : List Cond := .code yX0_hasSameSegments cX0_hasSameSegments 7 (some .boolean) :: ([.fieldLink RX0 26 "Politecrawl$Address" "length" "I", .methodLink RX0 48 yX0_startOf, .instanceMethod yX0_startOf, .selects RX0 yX0_startOf yX0_startOf, .initialized RX0, .code yX0_startOf cX0_startOf 2 (some .int), .fieldLink RX0 15 "Politecrawl$Address" "starts" "[I", .methodLink RX0 33 yX0_at, .instanceMethod yX0_at, .selects RX0 yX0_at yX0_at, .code yX0_at cX0_at 3 (some .char), .fieldLink RX0 9 "Politecrawl$Address" "characters" "[C"] ++ wsX00)
def wsX0_comesThrice : List Cond := .code yX0_comesThrice cX0_comesThrice 4 (some .boolean) :: ([.fieldLink RX0 30 "Politecrawl$Address" "segmentCount" "I", .methodLink RX0 44 yX0_hasSameSegments, .instanceMethod yX0_hasSameSegments, .selects RX0 yX0_hasSameSegments yX0_hasSameSegments, .initialized RX0, .code yX0_hasSameSegments cX0_hasSameSegments 7 (some .boolean), .fieldLink RX0 26 "Politecrawl$Address" "length" "I", .methodLink RX0 48 yX0_startOf, .instanceMethod yX0_startOf, .selects RX0 yX0_startOf yX0_startOf, .code yX0_startOf cX0_startOf 2 (some .int), .fieldLink RX0 15 "Politecrawl$Address" "starts" "[I", .methodLink RX0 33 yX0_at, .instanceMethod yX0_at, .selects RX0 yX0_at yX0_at, .code yX0_at cX0_at 3 (some .char), .fieldLink RX0 9 "Politecrawl$Address" "characters" "[C"] ++ wsX00)
def wsX0_repeatsItself : List Cond := .code yX0_repeatsItself cX0_repeatsItself 2 (some .boolean) :: ([.methodLink RX0 40 yX0_comesThrice, .instanceMethod yX0_comesThrice, .selects RX0 yX0_comesThrice yX0_comesThrice, .initialized RX0, .code yX0_comesThrice cX0_comesThrice 4 (some .boolean), .fieldLink RX0 30 "Politecrawl$Address" "segmentCount" "I", .methodLink RX0 44 yX0_hasSameSegments, .instanceMethod yX0_hasSameSegments, .selects RX0 yX0_hasSameSegments yX0_hasSameSegments, .code yX0_hasSameSegments cX0_hasSameSegments 7 (some .boolean), .fieldLink RX0 26 "Politecrawl$Address" "length" "I", .methodLink RX0 48 yX0_startOf, .instanceMethod yX0_startOf, .selects RX0 yX0_startOf yX0_startOf, .code yX0_startOf cX0_startOf 2 (some .int), .fieldLink RX0 15 "Politecrawl$Address" "starts" "[I", .methodLink RX0 33 yX0_at, .instanceMethod yX0_at, .selects RX0 yX0_at yX0_at, .code yX0_at cX0_at 3 (some .char), .fieldLink RX0 9 "Politecrawl$Address" "characters" "[C"] ++ wsX00)
def wsX1_init : List Cond := .code yX1_init cX1_init 1 none :: ([.methodLink RX1 3 objectInit, .instanceMethod objectInit, .code objectInit ⟨#[0xb1]⟩ 1 none, .fieldLink RX1 9 "Politecrawl$Host" "rest" "I"] ++ wsX10)
def wsX1_restFrom : List Cond := .code yX1_restFrom cX1_restFrom 2 none :: ([.fieldLink RX1 9 "Politecrawl$Host" "rest" "I", .fieldLink RX1 15 "Politecrawl$Host" "failures" "I", .methodLink RX1 18 Lib.Math.min.name, .static Lib.Math.min.name, .initialized "java/lang/Math", .code Lib.Math.min.name Lib.Math.min.code 2 (some .int), .fieldLink RX1 24 "Politecrawl$Host" "openFrom" "I"] ++ wsX10)
def wsX2_init_r1 : List Cond := [Cond.methodLink RX2 3 objectInit, Cond.instanceMethod objectInit, Cond.code objectInit ⟨#[0xb1]⟩ 1 none, Cond.fieldLink RX2 9 "Politecrawl$Page" "number" "I", Cond.fieldLink RX2 15 "Politecrawl$Page" "host" "LPolitecrawl$Host;", Cond.fieldLink RX2 19 "Politecrawl$Page" "address" "LPolitecrawl$Address;", Cond.fieldLink RX2 29 "Politecrawl$Page" "lost" "Z", Cond.fieldLink RX2 33 "Politecrawl$Page" "rank" "I", Cond.fieldLink RX2 36 "Politecrawl$Page" "due" "I", Cond.methodLink RX2 23 yX0_repeatsItself, Cond.instanceMethod yX0_repeatsItself, Cond.selects RX0 yX0_repeatsItself yX0_repeatsItself, Cond.initialized RX0, Cond.code yX0_repeatsItself cX0_repeatsItself 2 (some .boolean), Cond.methodLink RX0 40 yX0_comesThrice, Cond.instanceMethod yX0_comesThrice, Cond.selects RX0 yX0_comesThrice yX0_comesThrice, Cond.code yX0_comesThrice cX0_comesThrice 4 (some .boolean), Cond.fieldLink RX0 30 "Politecrawl$Address" "segmentCount" "I", Cond.methodLink RX0 44 yX0_hasSameSegments, Cond.instanceMethod yX0_hasSameSegments, Cond.selects RX0 yX0_hasSameSegments yX0_hasSameSegments, Cond.code yX0_hasSameSegments cX0_hasSameSegments 7 (some .boolean), Cond.fieldLink RX0 26 "Politecrawl$Address" "length" "I"]
def wsX2_init_r2 : List Cond := [Cond.methodLink RX0 48 yX0_startOf, Cond.instanceMethod yX0_startOf, Cond.selects RX0 yX0_startOf yX0_startOf, Cond.code yX0_startOf cX0_startOf 2 (some .int), Cond.fieldLink RX0 15 "Politecrawl$Address" "starts" "[I", Cond.methodLink RX0 33 yX0_at, Cond.instanceMethod yX0_at, Cond.selects RX0 yX0_at yX0_at, Cond.code yX0_at cX0_at 3 (some .char), Cond.fieldLink RX0 9 "Politecrawl$Address" "characters" "[C"]
def wsX2_init : List Cond := .code yX2_init cX2_init 6 none :: ((wsX2_init_r1 ++ wsX2_init_r2) ++ wsX20 ++ wsX00)
def wsX2_isKept : List Cond := .code yX2_isKept cX2_isKept 1 (some .boolean) :: ([.fieldLink RX2 39 "Politecrawl$Page" "gone" "Z", .fieldLink RX2 29 "Politecrawl$Page" "lost" "Z"] ++ wsX20)
def wsX2_pressing : List Cond := .code yX2_pressing cX2_pressing 2 (some .int) :: ([.fieldLink RX2 33 "Politecrawl$Page" "rank" "I", .fieldLink RX2 36 "Politecrawl$Page" "due" "I"] ++ wsX20)
def wsX2_gainAbove : List Cond := .code yX2_gainAbove cX2_gainAbove 1 (some .long) :: ([.fieldLink RX2 33 "Politecrawl$Page" "rank" "I", .fieldLink RX2 49 "Politecrawl$Page" "changes" "I"] ++ wsX20)
def wsX2_gainBelow : List Cond := .code yX2_gainBelow cX2_gainBelow 1 (some .long) :: ([.fieldLink RX2 52 "Politecrawl$Page" "spread" "I", .fieldLink RX2 49 "Politecrawl$Page" "changes" "I", .constantLong RX2 55 (2)] ++ wsX20)
def wsX2_gainsMoreThan : List Cond := .code yX2_gainsMoreThan cX2_gainsMoreThan 2 (some .boolean) :: ([.methodLink RX2 42 yX2_gainAbove, .instanceMethod yX2_gainAbove, .selects RX2 yX2_gainAbove yX2_gainAbove, .initialized RX2, .code yX2_gainAbove cX2_gainAbove 1 (some .long), .fieldLink RX2 33 "Politecrawl$Page" "rank" "I", .fieldLink RX2 49 "Politecrawl$Page" "changes" "I", .methodLink RX2 46 yX2_gainBelow, .instanceMethod yX2_gainBelow, .selects RX2 yX2_gainBelow yX2_gainBelow, .code yX2_gainBelow cX2_gainBelow 1 (some .long), .fieldLink RX2 52 "Politecrawl$Page" "spread" "I", .constantLong RX2 55 (2)] ++ wsX20)
def wsX3_init_r1 : List Cond := [Cond.methodLink RX3 1 objectInit, Cond.instanceMethod objectInit, Cond.code objectInit ⟨#[0xb1]⟩ 1 none, Cond.classLink RX3 7 RX0, Cond.instantiable RX0 4, Cond.initialized RX0, Cond.fieldLink RX3 10 "Politecrawl" "buffer" "LPolitecrawl$Address;", Cond.classLink RX3 16 RX1, Cond.fieldLink RX3 18 "Politecrawl" "hosts" "[LPolitecrawl$Host;", Cond.instantiable RX1 3, Cond.initialized RX1, Cond.classLink RX3 23 RX2, Cond.fieldLink RX3 25 "Politecrawl" "found" "[LPolitecrawl$Page;", Cond.fieldLink RX3 29 "Politecrawl" "shortestPace" "I", Cond.fieldLink RX3 33 "Politecrawl" "longestPace" "I", Cond.fieldLink RX3 36 "Politecrawl" "budget" "I", Cond.methodLink RX3 9 yX0_init, Cond.instanceMethod yX0_init, Cond.code yX0_init cX0_init 1 none, Cond.methodLink RX0 3 objectInit, Cond.arrayClass .char, Cond.fieldLink RX0 9 "Politecrawl$Address" "characters" "[C", Cond.arrayClass .int, Cond.fieldLink RX0 15 "Politecrawl$Address" "starts" "[I"]
def wsX3_init_r2 : List Cond := [Cond.instanceMethod yX1_init, Cond.code yX1_init cX1_init 1 none, Cond.methodLink RX1 3 objectInit, Cond.fieldLink RX1 9 "Politecrawl$Host" "rest" "I"]
def wsX3_init : List Cond := .code yX3_init cX3_init 2 none :: ((wsX3_init_r1 ++ wsX3_init_r2) ++ wsX00 ++ wsX30 ++ wsX10)
def wsX3_type_r1 : List Cond := [Cond.classLink RX3 39 "java/lang/IllegalArgumentException", Cond.initialized "java/lang/IllegalArgumentException", Cond.classLink RX3 50 "java/lang/IllegalStateException", Cond.initialized "java/lang/IllegalStateException", Cond.fieldLink RX3 10 "Politecrawl" "buffer" "LPolitecrawl$Address;", Cond.fieldLink RX3 59 "Politecrawl$Address" "length" "I", Cond.methodLink RX3 46 yX0_isFull, Cond.instanceMethod yX0_isFull, Cond.selects RX0 yX0_isFull yX0_isFull, Cond.initialized RX0, Cond.code yX0_isFull cX0_isFull 1 (some .boolean), Cond.fieldLink RX0 26 "Politecrawl$Address" "length" "I", Cond.fieldLink RX0 9 "Politecrawl$Address" "characters" "[C", Cond.methodLink RX3 55 yX0_add, Cond.instanceMethod yX0_add, Cond.selects RX0 yX0_add yX0_add, Cond.code yX0_add cX0_add 2 none, Cond.methodLink RX0 33 yX0_at, Cond.instanceMethod yX0_at, Cond.selects RX0 yX0_at yX0_at, Cond.code yX0_at cX0_at 3 (some .char), Cond.methodLink RX0 37 yX0_startSegment, Cond.instanceMethod yX0_startSegment, Cond.selects RX0 yX0_startSegment yX0_startSegment]
def wsX3_type_r2 : List Cond := [Cond.code yX0_startSegment cX0_startSegment 1 none, Cond.fieldLink RX0 30 "Politecrawl$Address" "segmentCount" "I", Cond.fieldLink RX0 15 "Politecrawl$Address" "starts" "[I"]
def wsX3_type : List Cond := .code yX3_type cX3_type 3 (some .int) :: ((wsX3_type_r1 ++ wsX3_type_r2) ++ wsX30 ++ wsX00 ++ (vx_atS RX3 43 "java/lang/IllegalArgumentException" ["java/lang/RuntimeException", "java/lang/Exception"]).filter goodWord ++ (vx_atS RX3 54 "java/lang/IllegalStateException" ["java/lang/RuntimeException", "java/lang/Exception"]).filter goodWord)
def wsX3_clearAddress : List Cond := .code yX3_clearAddress cX3_clearAddress 2 (some .int) :: ([.fieldLink RX3 10 "Politecrawl" "buffer" "LPolitecrawl$Address;", .fieldLink RX3 59 "Politecrawl$Address" "length" "I", .methodLink RX3 62 yX0_empty, .instanceMethod yX0_empty, .selects RX0 yX0_empty yX0_empty, .initialized RX0, .code yX0_empty cX0_empty 1 none, .fieldLink RX0 26 "Politecrawl$Address" "length" "I", .fieldLink RX0 30 "Politecrawl$Address" "segmentCount" "I"] ++ wsX30 ++ wsX00)
def wsX3_segments : List Cond := .code yX3_segments cX3_segments 1 (some .int) :: ([.fieldLink RX3 10 "Politecrawl" "buffer" "LPolitecrawl$Address;", .fieldLink RX3 65 "Politecrawl$Address" "segmentCount" "I"] ++ wsX30 ++ wsX00)
def wsX3_isTrap_r1 : List Cond := [Cond.fieldLink RX3 10 "Politecrawl" "buffer" "LPolitecrawl$Address;", Cond.methodLink RX3 68 yX0_repeatsItself, Cond.instanceMethod yX0_repeatsItself, Cond.selects RX0 yX0_repeatsItself yX0_repeatsItself, Cond.initialized RX0, Cond.code yX0_repeatsItself cX0_repeatsItself 2 (some .boolean), Cond.methodLink RX0 40 yX0_comesThrice, Cond.instanceMethod yX0_comesThrice, Cond.selects RX0 yX0_comesThrice yX0_comesThrice, Cond.code yX0_comesThrice cX0_comesThrice 4 (some .boolean), Cond.fieldLink RX0 30 "Politecrawl$Address" "segmentCount" "I", Cond.methodLink RX0 44 yX0_hasSameSegments, Cond.instanceMethod yX0_hasSameSegments, Cond.selects RX0 yX0_hasSameSegments yX0_hasSameSegments, Cond.code yX0_hasSameSegments cX0_hasSameSegments 7 (some .boolean), Cond.fieldLink RX0 26 "Politecrawl$Address" "length" "I", Cond.methodLink RX0 48 yX0_startOf, Cond.instanceMethod yX0_startOf, Cond.selects RX0 yX0_startOf yX0_startOf, Cond.code yX0_startOf cX0_startOf 2 (some .int), Cond.fieldLink RX0 15 "Politecrawl$Address" "starts" "[I", Cond.methodLink RX0 33 yX0_at, Cond.instanceMethod yX0_at, Cond.selects RX0 yX0_at yX0_at]
def wsX3_isTrap_r2 : List Cond := [Cond.code yX0_at cX0_at 3 (some .char), Cond.fieldLink RX0 9 "Politecrawl$Address" "characters" "[C"]
def wsX3_isTrap : List Cond := .code yX3_isTrap cX3_isTrap 1 (some .boolean) :: ((wsX3_isTrap_r1 ++ wsX3_isTrap_r2) ++ wsX30 ++ wsX00)
def wsX3_knownHost : List Cond := .code yX3_knownHost cX3_knownHost 3 (some (.object "Politecrawl$Host")) :: ([.classLink RX3 201 "java/lang/IndexOutOfBoundsException", .initialized "java/lang/IndexOutOfBoundsException", .fieldLink RX3 18 "Politecrawl" "hosts" "[LPolitecrawl$Host;"] ++ wsX30 ++ (vx_atS RX3 205 "java/lang/IndexOutOfBoundsException" ["java/lang/RuntimeException", "java/lang/Exception"]).filter goodWord)
def wsX3_setRest : List Cond := .code yX3_setRest cX3_setRest 5 (some .int) :: ([.classLink RX3 39 "java/lang/IllegalArgumentException", .initialized "java/lang/IllegalArgumentException", .fieldLink RX3 77 "Politecrawl$Host" "rest" "I", .methodLink RX3 71 yX3_knownHost, .instanceMethod yX3_knownHost, .selects RX3 yX3_knownHost yX3_knownHost, .initialized RX3, .code yX3_knownHost cX3_knownHost 3 (some (.object "Politecrawl$Host")), .classLink RX3 201 "java/lang/IndexOutOfBoundsException", .initialized "java/lang/IndexOutOfBoundsException", .fieldLink RX3 18 "Politecrawl" "hosts" "[LPolitecrawl$Host;"] ++ wsX10 ++ wsX30 ++ (vx_atS RX3 43 "java/lang/IllegalArgumentException" ["java/lang/RuntimeException", "java/lang/Exception"]).filter goodWord ++ (vx_atS RX3 205 "java/lang/IndexOutOfBoundsException" ["java/lang/RuntimeException", "java/lang/Exception"]).filter goodWord)
def wsX3_setPaces : List Cond := .code yX3_setPaces cX3_setPaces 3 none :: ([.classLink RX3 39 "java/lang/IllegalArgumentException", .initialized "java/lang/IllegalArgumentException", .fieldLink RX3 29 "Politecrawl" "shortestPace" "I", .fieldLink RX3 33 "Politecrawl" "longestPace" "I"] ++ wsX30 ++ (vx_atS RX3 43 "java/lang/IllegalArgumentException" ["java/lang/RuntimeException", "java/lang/Exception"]).filter goodWord)
def wsX3_setBudget : List Cond := .code yX3_setBudget cX3_setBudget 3 (some .int) :: ([.classLink RX3 39 "java/lang/IllegalArgumentException", .initialized "java/lang/IllegalArgumentException", .fieldLink RX3 36 "Politecrawl" "budget" "I"] ++ wsX30 ++ (vx_atS RX3 43 "java/lang/IllegalArgumentException" ["java/lang/RuntimeException", "java/lang/Exception"]).filter goodWord)
def wsX3_failures : List Cond := .code yX3_failures cX3_failures 2 (some .int) :: ([.fieldLink RX3 86 "Politecrawl$Host" "failures" "I", .methodLink RX3 71 yX3_knownHost, .instanceMethod yX3_knownHost, .selects RX3 yX3_knownHost yX3_knownHost, .initialized RX3, .code yX3_knownHost cX3_knownHost 3 (some (.object "Politecrawl$Host")), .classLink RX3 201 "java/lang/IndexOutOfBoundsException", .initialized "java/lang/IndexOutOfBoundsException", .fieldLink RX3 18 "Politecrawl" "hosts" "[LPolitecrawl$Host;"] ++ wsX10 ++ wsX30 ++ (vx_atS RX3 205 "java/lang/IndexOutOfBoundsException" ["java/lang/RuntimeException", "java/lang/Exception"]).filter goodWord)
def wsX3_openFrom : List Cond := .code yX3_openFrom cX3_openFrom 2 (some .int) :: ([.fieldLink RX3 89 "Politecrawl$Host" "openFrom" "I", .methodLink RX3 71 yX3_knownHost, .instanceMethod yX3_knownHost, .selects RX3 yX3_knownHost yX3_knownHost, .initialized RX3, .code yX3_knownHost cX3_knownHost 3 (some (.object "Politecrawl$Host")), .classLink RX3 201 "java/lang/IndexOutOfBoundsException", .initialized "java/lang/IndexOutOfBoundsException", .fieldLink RX3 18 "Politecrawl" "hosts" "[LPolitecrawl$Host;"] ++ wsX10 ++ wsX30 ++ (vx_atS RX3 205 "java/lang/IndexOutOfBoundsException" ["java/lang/RuntimeException", "java/lang/Exception"]).filter goodWord)
def wsX3_refuseOtherRanks : List Cond := .code yX3_refuseOtherRanks cX3_refuseOtherRanks 1 none :: ([.classLink RX3 39 "java/lang/IllegalArgumentException", .initialized "java/lang/IllegalArgumentException"] ++ (vx_atS RX3 43 "java/lang/IllegalArgumentException" ["java/lang/RuntimeException", "java/lang/Exception"]).filter goodWord)
def wsX3_pageAtBuffer : List Cond := .code yX3_pageAtBuffer cX3_pageAtBuffer 6 (some (.object "Politecrawl$Page")) :: ([.fieldLink RX3 25 "Politecrawl" "found" "[LPolitecrawl$Page;", .fieldLink RX3 162 "Politecrawl$Page" "host" "LPolitecrawl$Host;", .fieldLink RX3 210 "Politecrawl$Page" "address" "LPolitecrawl$Address;", .fieldLink RX3 10 "Politecrawl" "buffer" "LPolitecrawl$Address;", .methodLink RX3 213 yX0_isSameAs, .instanceMethod yX0_isSameAs, .selects RX0 yX0_isSameAs yX0_isSameAs, .initialized RX0, .code yX0_isSameAs cX0_isSameAs 3 (some .boolean), .fieldLink RX0 26 "Politecrawl$Address" "length" "I", .methodLink RX0 33 yX0_at, .instanceMethod yX0_at, .selects RX0 yX0_at yX0_at, .code yX0_at cX0_at 3 (some .char), .fieldLink RX0 9 "Politecrawl$Address" "characters" "[C"] ++ wsX30 ++ wsX20 ++ wsX00)
def wsX3_find_r1 : List Cond := [Cond.classLink RX3 50 "java/lang/IllegalStateException", Cond.initialized "java/lang/IllegalStateException", Cond.fieldLink RX3 100 "Politecrawl$Page" "number" "I", Cond.fieldLink RX3 103 "Politecrawl" "foundCount" "I", Cond.fieldLink RX3 25 "Politecrawl" "found" "[LPolitecrawl$Page;", Cond.classLink RX3 23 RX2, Cond.instantiable RX2 10, Cond.initialized RX2, Cond.classLink RX3 7 RX0, Cond.instantiable RX0 4, Cond.initialized RX0, Cond.fieldLink RX3 10 "Politecrawl" "buffer" "LPolitecrawl$Address;", Cond.fieldLink RX3 111 "Politecrawl" "tick" "I", Cond.methodLink RX3 71 yX3_knownHost, Cond.instanceMethod yX3_knownHost, Cond.selects RX3 yX3_knownHost yX3_knownHost, Cond.initialized RX3, Cond.code yX3_knownHost cX3_knownHost 3 (some (.object "Politecrawl$Host")), Cond.classLink RX3 201 "java/lang/IndexOutOfBoundsException", Cond.initialized "java/lang/IndexOutOfBoundsException", Cond.fieldLink RX3 18 "Politecrawl" "hosts" "[LPolitecrawl$Host;", Cond.methodLink RX3 92 yX3_refuseOtherRanks, Cond.static yX3_refuseOtherRanks, Cond.code yX3_refuseOtherRanks cX3_refuseOtherRanks 1 none]
def wsX3_find_r2 : List Cond := [Cond.classLink RX3 39 "java/lang/IllegalArgumentException", Cond.initialized "java/lang/IllegalArgumentException", Cond.methodLink RX3 96 yX3_pageAtBuffer, Cond.instanceMethod yX3_pageAtBuffer, Cond.selects RX3 yX3_pageAtBuffer yX3_pageAtBuffer, Cond.code yX3_pageAtBuffer cX3_pageAtBuffer 6 (some (.object "Politecrawl$Page")), Cond.fieldLink RX3 162 "Politecrawl$Page" "host" "LPolitecrawl$Host;", Cond.fieldLink RX3 210 "Politecrawl$Page" "address" "LPolitecrawl$Address;", Cond.methodLink RX3 213 yX0_isSameAs, Cond.instanceMethod yX0_isSameAs, Cond.selects RX0 yX0_isSameAs yX0_isSameAs, Cond.code yX0_isSameAs cX0_isSameAs 3 (some .boolean), Cond.fieldLink RX0 26 "Politecrawl$Address" "length" "I", Cond.methodLink RX0 33 yX0_at, Cond.instanceMethod yX0_at, Cond.selects RX0 yX0_at yX0_at, Cond.code yX0_at cX0_at 3 (some .char), Cond.fieldLink RX0 9 "Politecrawl$Address" "characters" "[C", Cond.methodLink RX3 108 yX0_init_, Cond.instanceMethod yX0_init_, Cond.code yX0_init_ cX0_init_ 2 none, Cond.methodLink RX0 3 objectInit, Cond.instanceMethod objectInit, Cond.code objectInit ⟨#[0xb1]⟩ 1 none]
def wsX3_find_r3 : List Cond := [Cond.methodLink RX0 19 ⟨"[C", "clone", "()Ljava/lang/Object;"⟩, Cond.sameMethod "[C" "java/lang/Object" "clone" "()Ljava/lang/Object;", Cond.native ⟨"java/lang/Object", "clone", "()Ljava/lang/Object;"⟩, Cond.instanceMethod ⟨"java/lang/Object", "clone", "()Ljava/lang/Object;"⟩, Cond.selects "[C" ⟨"[C", "clone", "()Ljava/lang/Object;"⟩ ⟨"java/lang/Object", "clone", "()Ljava/lang/Object;"⟩, Cond.classLink RX0 20 "[C", Cond.fieldLink RX0 15 "Politecrawl$Address" "starts" "[I", Cond.methodLink RX0 24 ⟨"[I", "clone", "()Ljava/lang/Object;"⟩, Cond.sameMethod "[I" "java/lang/Object" "clone" "()Ljava/lang/Object;", Cond.selects "[I" ⟨"[I", "clone", "()Ljava/lang/Object;"⟩ ⟨"java/lang/Object", "clone", "()Ljava/lang/Object;"⟩, Cond.classLink RX0 25 "[I", Cond.fieldLink RX0 30 "Politecrawl$Address" "segmentCount" "I", Cond.methodLink RX3 114 yX2_init, Cond.instanceMethod yX2_init, Cond.code yX2_init cX2_init 6 none, Cond.methodLink RX2 3 objectInit, Cond.fieldLink RX2 9 "Politecrawl$Page" "number" "I", Cond.fieldLink RX2 15 "Politecrawl$Page" "host" "LPolitecrawl$Host;", Cond.fieldLink RX2 19 "Politecrawl$Page" "address" "LPolitecrawl$Address;", Cond.fieldLink RX2 29 "Politecrawl$Page" "lost" "Z", Cond.fieldLink RX2 33 "Politecrawl$Page" "rank" "I", Cond.fieldLink RX2 36 "Politecrawl$Page" "due" "I", Cond.methodLink RX2 23 yX0_repeatsItself, Cond.instanceMethod yX0_repeatsItself]
def wsX3_find_r4 : List Cond := [Cond.selects RX0 yX0_repeatsItself yX0_repeatsItself, Cond.code yX0_repeatsItself cX0_repeatsItself 2 (some .boolean), Cond.methodLink RX0 40 yX0_comesThrice, Cond.instanceMethod yX0_comesThrice, Cond.selects RX0 yX0_comesThrice yX0_comesThrice, Cond.code yX0_comesThrice cX0_comesThrice 4 (some .boolean), Cond.methodLink RX0 44 yX0_hasSameSegments, Cond.instanceMethod yX0_hasSameSegments, Cond.selects RX0 yX0_hasSameSegments yX0_hasSameSegments, Cond.code yX0_hasSameSegments cX0_hasSameSegments 7 (some .boolean), Cond.methodLink RX0 48 yX0_startOf, Cond.instanceMethod yX0_startOf, Cond.selects RX0 yX0_startOf yX0_startOf, Cond.code yX0_startOf cX0_startOf 2 (some .int)]
def wsX3_find : List Cond := .code yX3_find cX3_find 6 (some .int) :: ((wsX3_find_r1 ++ (wsX3_find_r2 ++ (wsX3_find_r3 ++ wsX3_find_r4))) ++ wsX20 ++ wsX30 ++ wsX00 ++ (vx_atS RX3 54 "java/lang/IllegalStateException" ["java/lang/RuntimeException", "java/lang/Exception"]).filter goodWord ++ (vx_atS RX3 205 "java/lang/IndexOutOfBoundsException" ["java/lang/RuntimeException", "java/lang/Exception"]).filter goodWord ++ (vx_atS RX3 43 "java/lang/IllegalArgumentException" ["java/lang/RuntimeException", "java/lang/Exception"]).filter goodWord)
def wsX3_knownPage : List Cond := .code yX3_knownPage cX3_knownPage 3 (some (.object "Politecrawl$Page")) :: ([.classLink RX3 201 "java/lang/IndexOutOfBoundsException", .initialized "java/lang/IndexOutOfBoundsException", .fieldLink RX3 25 "Politecrawl" "found" "[LPolitecrawl$Page;"] ++ wsX30 ++ (vx_atS RX3 205 "java/lang/IndexOutOfBoundsException" ["java/lang/RuntimeException", "java/lang/Exception"]).filter goodWord)
def wsX3_setRank : List Cond := .code yX3_setRank cX3_setRank 5 (some .int) :: ([.fieldLink RX3 121 "Politecrawl$Page" "rank" "I", .methodLink RX3 117 yX3_knownPage, .instanceMethod yX3_knownPage, .selects RX3 yX3_knownPage yX3_knownPage, .initialized RX3, .code yX3_knownPage cX3_knownPage 3 (some (.object "Politecrawl$Page")), .classLink RX3 201 "java/lang/IndexOutOfBoundsException", .initialized "java/lang/IndexOutOfBoundsException", .fieldLink RX3 25 "Politecrawl" "found" "[LPolitecrawl$Page;", .methodLink RX3 92 yX3_refuseOtherRanks, .static yX3_refuseOtherRanks, .code yX3_refuseOtherRanks cX3_refuseOtherRanks 1 none, .classLink RX3 39 "java/lang/IllegalArgumentException", .initialized "java/lang/IllegalArgumentException"] ++ wsX20 ++ wsX30 ++ (vx_atS RX3 205 "java/lang/IndexOutOfBoundsException" ["java/lang/RuntimeException", "java/lang/Exception"]).filter goodWord ++ (vx_atS RX3 43 "java/lang/IllegalArgumentException" ["java/lang/RuntimeException", "java/lang/Exception"]).filter goodWord)
def wsX3_pages : List Cond := .code yX3_pages cX3_pages 1 (some .int) :: ([.fieldLink RX3 103 "Politecrawl" "foundCount" "I"] ++ wsX30)
def wsX3_dueAt : List Cond := .code yX3_dueAt cX3_dueAt 3 (some .int) :: ([.fieldLink RX3 127 "Politecrawl$Page" "due" "I", .methodLink RX3 117 yX3_knownPage, .instanceMethod yX3_knownPage, .selects RX3 yX3_knownPage yX3_knownPage, .initialized RX3, .code yX3_knownPage cX3_knownPage 3 (some (.object "Politecrawl$Page")), .classLink RX3 201 "java/lang/IndexOutOfBoundsException", .initialized "java/lang/IndexOutOfBoundsException", .fieldLink RX3 25 "Politecrawl" "found" "[LPolitecrawl$Page;", .methodLink RX3 124 yX2_isKept, .instanceMethod yX2_isKept, .selects RX2 yX2_isKept yX2_isKept, .initialized RX2, .code yX2_isKept cX2_isKept 1 (some .boolean), .fieldLink RX2 39 "Politecrawl$Page" "gone" "Z", .fieldLink RX2 29 "Politecrawl$Page" "lost" "Z"] ++ wsX20 ++ wsX30 ++ (vx_atS RX3 205 "java/lang/IndexOutOfBoundsException" ["java/lang/RuntimeException", "java/lang/Exception"]).filter goodWord)
def wsX3_visits : List Cond := .code yX3_visits cX3_visits 2 (some .int) :: ([.fieldLink RX3 130 "Politecrawl$Page" "visits" "I", .methodLink RX3 117 yX3_knownPage, .instanceMethod yX3_knownPage, .selects RX3 yX3_knownPage yX3_knownPage, .initialized RX3, .code yX3_knownPage cX3_knownPage 3 (some (.object "Politecrawl$Page")), .classLink RX3 201 "java/lang/IndexOutOfBoundsException", .initialized "java/lang/IndexOutOfBoundsException", .fieldLink RX3 25 "Politecrawl" "found" "[LPolitecrawl$Page;"] ++ wsX20 ++ wsX30 ++ (vx_atS RX3 205 "java/lang/IndexOutOfBoundsException" ["java/lang/RuntimeException", "java/lang/Exception"]).filter goodWord)
def wsX3_changes : List Cond := .code yX3_changes cX3_changes 2 (some .int) :: ([.fieldLink RX3 133 "Politecrawl$Page" "changes" "I", .methodLink RX3 117 yX3_knownPage, .instanceMethod yX3_knownPage, .selects RX3 yX3_knownPage yX3_knownPage, .initialized RX3, .code yX3_knownPage cX3_knownPage 3 (some (.object "Politecrawl$Page")), .classLink RX3 201 "java/lang/IndexOutOfBoundsException", .initialized "java/lang/IndexOutOfBoundsException", .fieldLink RX3 25 "Politecrawl" "found" "[LPolitecrawl$Page;"] ++ wsX20 ++ wsX30 ++ (vx_atS RX3 205 "java/lang/IndexOutOfBoundsException" ["java/lang/RuntimeException", "java/lang/Exception"]).filter goodWord)
def wsX3_budgetLeft : List Cond := .code yX3_budgetLeft cX3_budgetLeft 1 (some .int) :: ([.fieldLink RX3 36 "Politecrawl" "budget" "I", .fieldLink RX3 155 "Politecrawl" "visitsInSpan" "I", .methodLink RX3 178 Lib.Math.max.name, .static Lib.Math.max.name, .initialized "java/lang/Math", .code Lib.Math.max.name Lib.Math.max.code 2 (some .int)] ++ wsX30)
def wsX3_startOfNextSpan : List Cond := .code yX3_startOfNextSpan cX3_startOfNextSpan 1 (some .int) :: ([.fieldLink RX3 111 "Politecrawl" "tick" "I"] ++ wsX30)
def wsX3_readyFrom : List Cond := .code yX3_readyFrom cX3_readyFrom 3 (some .int) :: ([.fieldLink RX3 111 "Politecrawl" "tick" "I", .fieldLink RX3 127 "Politecrawl$Page" "due" "I", .fieldLink RX3 162 "Politecrawl$Page" "host" "LPolitecrawl$Host;", .fieldLink RX3 89 "Politecrawl$Host" "openFrom" "I", .methodLink RX3 178 Lib.Math.max.name, .static Lib.Math.max.name, .initialized "java/lang/Math", .code Lib.Math.max.name Lib.Math.max.code 2 (some .int), .methodLink RX3 217 yX3_budgetLeft, .instanceMethod yX3_budgetLeft, .selects RX3 yX3_budgetLeft yX3_budgetLeft, .initialized RX3, .code yX3_budgetLeft cX3_budgetLeft 1 (some .int), .fieldLink RX3 36 "Politecrawl" "budget" "I", .fieldLink RX3 155 "Politecrawl" "visitsInSpan" "I", .methodLink RX3 174 yX3_startOfNextSpan, .instanceMethod yX3_startOfNextSpan, .selects RX3 yX3_startOfNextSpan yX3_startOfNextSpan, .code yX3_startOfNextSpan cX3_startOfNextSpan 1 (some .int)] ++ wsX30 ++ wsX20 ++ wsX10)
def wsX3_isReady_r1 : List Cond := [Cond.fieldLink RX3 111 "Politecrawl" "tick" "I", Cond.methodLink RX3 124 yX2_isKept, Cond.instanceMethod yX2_isKept, Cond.selects RX2 yX2_isKept yX2_isKept, Cond.initialized RX2, Cond.code yX2_isKept cX2_isKept 1 (some .boolean), Cond.fieldLink RX2 39 "Politecrawl$Page" "gone" "Z", Cond.fieldLink RX2 29 "Politecrawl$Page" "lost" "Z", Cond.methodLink RX3 184 yX3_readyFrom, Cond.instanceMethod yX3_readyFrom, Cond.selects RX3 yX3_readyFrom yX3_readyFrom, Cond.initialized RX3, Cond.code yX3_readyFrom cX3_readyFrom 3 (some .int), Cond.fieldLink RX3 127 "Politecrawl$Page" "due" "I", Cond.fieldLink RX3 162 "Politecrawl$Page" "host" "LPolitecrawl$Host;", Cond.fieldLink RX3 89 "Politecrawl$Host" "openFrom" "I", Cond.methodLink RX3 178 Lib.Math.max.name, Cond.static Lib.Math.max.name, Cond.initialized "java/lang/Math", Cond.code Lib.Math.max.name Lib.Math.max.code 2 (some .int), Cond.methodLink RX3 217 yX3_budgetLeft, Cond.instanceMethod yX3_budgetLeft, Cond.selects RX3 yX3_budgetLeft yX3_budgetLeft, Cond.code yX3_budgetLeft cX3_budgetLeft 1 (some .int)]
def wsX3_isReady_r2 : List Cond := [Cond.fieldLink RX3 36 "Politecrawl" "budget" "I", Cond.fieldLink RX3 155 "Politecrawl" "visitsInSpan" "I", Cond.methodLink RX3 174 yX3_startOfNextSpan, Cond.instanceMethod yX3_startOfNextSpan, Cond.selects RX3 yX3_startOfNextSpan yX3_startOfNextSpan, Cond.code yX3_startOfNextSpan cX3_startOfNextSpan 1 (some .int)]
def wsX3_isReady : List Cond := .code yX3_isReady cX3_isReady 2 (some .boolean) :: ((wsX3_isReady_r1 ++ wsX3_isReady_r2) ++ wsX30 ++ wsX20 ++ wsX10)
def wsX3_mayVisit_r1 : List Cond := [Cond.methodLink RX3 117 yX3_knownPage, Cond.instanceMethod yX3_knownPage, Cond.selects RX3 yX3_knownPage yX3_knownPage, Cond.initialized RX3, Cond.code yX3_knownPage cX3_knownPage 3 (some (.object "Politecrawl$Page")), Cond.classLink RX3 201 "java/lang/IndexOutOfBoundsException", Cond.initialized "java/lang/IndexOutOfBoundsException", Cond.fieldLink RX3 25 "Politecrawl" "found" "[LPolitecrawl$Page;", Cond.methodLink RX3 136 yX3_isReady, Cond.instanceMethod yX3_isReady, Cond.selects RX3 yX3_isReady yX3_isReady, Cond.code yX3_isReady cX3_isReady 2 (some .boolean), Cond.fieldLink RX3 111 "Politecrawl" "tick" "I", Cond.methodLink RX3 124 yX2_isKept, Cond.instanceMethod yX2_isKept, Cond.selects RX2 yX2_isKept yX2_isKept, Cond.initialized RX2, Cond.code yX2_isKept cX2_isKept 1 (some .boolean), Cond.fieldLink RX2 39 "Politecrawl$Page" "gone" "Z", Cond.fieldLink RX2 29 "Politecrawl$Page" "lost" "Z", Cond.methodLink RX3 184 yX3_readyFrom, Cond.instanceMethod yX3_readyFrom, Cond.selects RX3 yX3_readyFrom yX3_readyFrom, Cond.code yX3_readyFrom cX3_readyFrom 3 (some .int)]
def wsX3_mayVisit_r2 : List Cond := [Cond.fieldLink RX3 127 "Politecrawl$Page" "due" "I", Cond.fieldLink RX3 162 "Politecrawl$Page" "host" "LPolitecrawl$Host;", Cond.fieldLink RX3 89 "Politecrawl$Host" "openFrom" "I", Cond.methodLink RX3 178 Lib.Math.max.name, Cond.static Lib.Math.max.name, Cond.initialized "java/lang/Math", Cond.code Lib.Math.max.name Lib.Math.max.code 2 (some .int), Cond.methodLink RX3 217 yX3_budgetLeft, Cond.instanceMethod yX3_budgetLeft, Cond.selects RX3 yX3_budgetLeft yX3_budgetLeft, Cond.code yX3_budgetLeft cX3_budgetLeft 1 (some .int), Cond.fieldLink RX3 36 "Politecrawl" "budget" "I", Cond.fieldLink RX3 155 "Politecrawl" "visitsInSpan" "I", Cond.methodLink RX3 174 yX3_startOfNextSpan, Cond.instanceMethod yX3_startOfNextSpan, Cond.selects RX3 yX3_startOfNextSpan yX3_startOfNextSpan, Cond.code yX3_startOfNextSpan cX3_startOfNextSpan 1 (some .int)]
def wsX3_mayVisit : List Cond := .code yX3_mayVisit cX3_mayVisit 2 (some .boolean) :: ((wsX3_mayVisit_r1 ++ wsX3_mayVisit_r2) ++ wsX30 ++ wsX20 ++ wsX10 ++ (vx_atS RX3 205 "java/lang/IndexOutOfBoundsException" ["java/lang/RuntimeException", "java/lang/Exception"]).filter goodWord)
def wsX3_goesBefore : List Cond := .code yX3_goesBefore cX3_goesBefore 5 (some .boolean) :: ([.fieldLink RX3 111 "Politecrawl" "tick" "I", .fieldLink RX3 121 "Politecrawl$Page" "rank" "I", .fieldLink RX3 100 "Politecrawl$Page" "number" "I", .methodLink RX3 224 yX2_pressing, .instanceMethod yX2_pressing, .selects RX2 yX2_pressing yX2_pressing, .initialized RX2, .code yX2_pressing cX2_pressing 2 (some .int), .fieldLink RX2 33 "Politecrawl$Page" "rank" "I", .fieldLink RX2 36 "Politecrawl$Page" "due" "I"] ++ wsX30 ++ wsX20)
def wsX3_earlier : List Cond := .code yX3_earlier cX3_earlier 3 (some (.object "Politecrawl$Page")) :: ([.methodLink RX3 220 yX3_goesBefore, .instanceMethod yX3_goesBefore, .selects RX3 yX3_goesBefore yX3_goesBefore, .initialized RX3, .code yX3_goesBefore cX3_goesBefore 5 (some .boolean), .fieldLink RX3 111 "Politecrawl" "tick" "I", .fieldLink RX3 121 "Politecrawl$Page" "rank" "I", .fieldLink RX3 100 "Politecrawl$Page" "number" "I", .methodLink RX3 224 yX2_pressing, .instanceMethod yX2_pressing, .selects RX2 yX2_pressing yX2_pressing, .initialized RX2, .code yX2_pressing cX2_pressing 2 (some .int), .fieldLink RX2 33 "Politecrawl$Page" "rank" "I", .fieldLink RX2 36 "Politecrawl$Page" "due" "I"] ++ wsX30 ++ wsX20)
def wsX3_firstOfHost_r1 : List Cond := [Cond.fieldLink RX3 25 "Politecrawl" "found" "[LPolitecrawl$Page;", Cond.fieldLink RX3 162 "Politecrawl$Page" "host" "LPolitecrawl$Host;", Cond.methodLink RX3 136 yX3_isReady, Cond.instanceMethod yX3_isReady, Cond.selects RX3 yX3_isReady yX3_isReady, Cond.initialized RX3, Cond.code yX3_isReady cX3_isReady 2 (some .boolean), Cond.fieldLink RX3 111 "Politecrawl" "tick" "I", Cond.methodLink RX3 124 yX2_isKept, Cond.instanceMethod yX2_isKept, Cond.selects RX2 yX2_isKept yX2_isKept, Cond.initialized RX2, Cond.code yX2_isKept cX2_isKept 1 (some .boolean), Cond.fieldLink RX2 39 "Politecrawl$Page" "gone" "Z", Cond.fieldLink RX2 29 "Politecrawl$Page" "lost" "Z", Cond.methodLink RX3 184 yX3_readyFrom, Cond.instanceMethod yX3_readyFrom, Cond.selects RX3 yX3_readyFrom yX3_readyFrom, Cond.code yX3_readyFrom cX3_readyFrom 3 (some .int), Cond.fieldLink RX3 127 "Politecrawl$Page" "due" "I", Cond.fieldLink RX3 89 "Politecrawl$Host" "openFrom" "I", Cond.methodLink RX3 178 Lib.Math.max.name, Cond.static Lib.Math.max.name, Cond.initialized "java/lang/Math"]
def wsX3_firstOfHost_r2 : List Cond := [Cond.code Lib.Math.max.name Lib.Math.max.code 2 (some .int), Cond.methodLink RX3 217 yX3_budgetLeft, Cond.instanceMethod yX3_budgetLeft, Cond.selects RX3 yX3_budgetLeft yX3_budgetLeft, Cond.code yX3_budgetLeft cX3_budgetLeft 1 (some .int), Cond.fieldLink RX3 36 "Politecrawl" "budget" "I", Cond.fieldLink RX3 155 "Politecrawl" "visitsInSpan" "I", Cond.methodLink RX3 174 yX3_startOfNextSpan, Cond.instanceMethod yX3_startOfNextSpan, Cond.selects RX3 yX3_startOfNextSpan yX3_startOfNextSpan, Cond.code yX3_startOfNextSpan cX3_startOfNextSpan 1 (some .int), Cond.methodLink RX3 143 yX3_earlier, Cond.instanceMethod yX3_earlier, Cond.selects RX3 yX3_earlier yX3_earlier, Cond.code yX3_earlier cX3_earlier 3 (some (.object "Politecrawl$Page")), Cond.methodLink RX3 220 yX3_goesBefore, Cond.instanceMethod yX3_goesBefore, Cond.selects RX3 yX3_goesBefore yX3_goesBefore, Cond.code yX3_goesBefore cX3_goesBefore 5 (some .boolean), Cond.fieldLink RX3 121 "Politecrawl$Page" "rank" "I", Cond.fieldLink RX3 100 "Politecrawl$Page" "number" "I", Cond.methodLink RX3 224 yX2_pressing, Cond.instanceMethod yX2_pressing, Cond.selects RX2 yX2_pressing yX2_pressing]
def wsX3_firstOfHost_r3 : List Cond := [Cond.code yX2_pressing cX2_pressing 2 (some .int), Cond.fieldLink RX2 33 "Politecrawl$Page" "rank" "I", Cond.fieldLink RX2 36 "Politecrawl$Page" "due" "I"]
def wsX3_firstOfHost : List Cond := .code yX3_firstOfHost cX3_firstOfHost 7 (some (.object "Politecrawl$Page")) :: ((wsX3_firstOfHost_r1 ++ (wsX3_firstOfHost_r2 ++ wsX3_firstOfHost_r3)) ++ wsX30 ++ wsX20 ++ wsX10)
def wsX3_numberOf : List Cond := .code yX3_numberOf cX3_numberOf 1 (some .int) :: ([.fieldLink RX3 100 "Politecrawl$Page" "number" "I"] ++ wsX20)
def wsX3_next_r1 : List Cond := [Cond.fieldLink RX3 18 "Politecrawl" "hosts" "[LPolitecrawl$Host;", Cond.methodLink RX3 140 yX3_firstOfHost, Cond.instanceMethod yX3_firstOfHost, Cond.selects RX3 yX3_firstOfHost yX3_firstOfHost, Cond.initialized RX3, Cond.code yX3_firstOfHost cX3_firstOfHost 7 (some (.object "Politecrawl$Page")), Cond.fieldLink RX3 25 "Politecrawl" "found" "[LPolitecrawl$Page;", Cond.fieldLink RX3 162 "Politecrawl$Page" "host" "LPolitecrawl$Host;", Cond.methodLink RX3 136 yX3_isReady, Cond.instanceMethod yX3_isReady, Cond.selects RX3 yX3_isReady yX3_isReady, Cond.code yX3_isReady cX3_isReady 2 (some .boolean), Cond.fieldLink RX3 111 "Politecrawl" "tick" "I", Cond.methodLink RX3 124 yX2_isKept, Cond.instanceMethod yX2_isKept, Cond.selects RX2 yX2_isKept yX2_isKept, Cond.initialized RX2, Cond.code yX2_isKept cX2_isKept 1 (some .boolean), Cond.fieldLink RX2 39 "Politecrawl$Page" "gone" "Z", Cond.fieldLink RX2 29 "Politecrawl$Page" "lost" "Z", Cond.methodLink RX3 184 yX3_readyFrom, Cond.instanceMethod yX3_readyFrom, Cond.selects RX3 yX3_readyFrom yX3_readyFrom, Cond.code yX3_readyFrom cX3_readyFrom 3 (some .int)]
def wsX3_next_r2 : List Cond := [Cond.fieldLink RX3 127 "Politecrawl$Page" "due" "I", Cond.fieldLink RX3 89 "Politecrawl$Host" "openFrom" "I", Cond.methodLink RX3 178 Lib.Math.max.name, Cond.static Lib.Math.max.name, Cond.initialized "java/lang/Math", Cond.code Lib.Math.max.name Lib.Math.max.code 2 (some .int), Cond.methodLink RX3 217 yX3_budgetLeft, Cond.instanceMethod yX3_budgetLeft, Cond.selects RX3 yX3_budgetLeft yX3_budgetLeft, Cond.code yX3_budgetLeft cX3_budgetLeft 1 (some .int), Cond.fieldLink RX3 36 "Politecrawl" "budget" "I", Cond.fieldLink RX3 155 "Politecrawl" "visitsInSpan" "I", Cond.methodLink RX3 174 yX3_startOfNextSpan, Cond.instanceMethod yX3_startOfNextSpan, Cond.selects RX3 yX3_startOfNextSpan yX3_startOfNextSpan, Cond.code yX3_startOfNextSpan cX3_startOfNextSpan 1 (some .int), Cond.methodLink RX3 143 yX3_earlier, Cond.instanceMethod yX3_earlier, Cond.selects RX3 yX3_earlier yX3_earlier, Cond.code yX3_earlier cX3_earlier 3 (some (.object "Politecrawl$Page")), Cond.methodLink RX3 220 yX3_goesBefore, Cond.instanceMethod yX3_goesBefore, Cond.selects RX3 yX3_goesBefore yX3_goesBefore, Cond.code yX3_goesBefore cX3_goesBefore 5 (some .boolean)]
def wsX3_next_r3 : List Cond := [Cond.fieldLink RX3 121 "Politecrawl$Page" "rank" "I", Cond.fieldLink RX3 100 "Politecrawl$Page" "number" "I", Cond.methodLink RX3 224 yX2_pressing, Cond.instanceMethod yX2_pressing, Cond.selects RX2 yX2_pressing yX2_pressing, Cond.code yX2_pressing cX2_pressing 2 (some .int), Cond.fieldLink RX2 33 "Politecrawl$Page" "rank" "I", Cond.fieldLink RX2 36 "Politecrawl$Page" "due" "I", Cond.methodLink RX3 147 yX3_numberOf, Cond.static yX3_numberOf, Cond.code yX3_numberOf cX3_numberOf 1 (some .int)]
def wsX3_next : List Cond := .code yX3_next cX3_next 6 (some .int) :: ((wsX3_next_r1 ++ (wsX3_next_r2 ++ wsX3_next_r3)) ++ wsX30 ++ wsX20 ++ wsX10)
def wsX3_nextByScan_r1 : List Cond := [Cond.fieldLink RX3 25 "Politecrawl" "found" "[LPolitecrawl$Page;", Cond.methodLink RX3 136 yX3_isReady, Cond.instanceMethod yX3_isReady, Cond.selects RX3 yX3_isReady yX3_isReady, Cond.initialized RX3, Cond.code yX3_isReady cX3_isReady 2 (some .boolean), Cond.fieldLink RX3 111 "Politecrawl" "tick" "I", Cond.methodLink RX3 124 yX2_isKept, Cond.instanceMethod yX2_isKept, Cond.selects RX2 yX2_isKept yX2_isKept, Cond.initialized RX2, Cond.code yX2_isKept cX2_isKept 1 (some .boolean), Cond.fieldLink RX2 39 "Politecrawl$Page" "gone" "Z", Cond.fieldLink RX2 29 "Politecrawl$Page" "lost" "Z", Cond.methodLink RX3 184 yX3_readyFrom, Cond.instanceMethod yX3_readyFrom, Cond.selects RX3 yX3_readyFrom yX3_readyFrom, Cond.code yX3_readyFrom cX3_readyFrom 3 (some .int), Cond.fieldLink RX3 127 "Politecrawl$Page" "due" "I", Cond.fieldLink RX3 162 "Politecrawl$Page" "host" "LPolitecrawl$Host;", Cond.fieldLink RX3 89 "Politecrawl$Host" "openFrom" "I", Cond.methodLink RX3 178 Lib.Math.max.name, Cond.static Lib.Math.max.name, Cond.initialized "java/lang/Math"]
def wsX3_nextByScan_r2 : List Cond := [Cond.code Lib.Math.max.name Lib.Math.max.code 2 (some .int), Cond.methodLink RX3 217 yX3_budgetLeft, Cond.instanceMethod yX3_budgetLeft, Cond.selects RX3 yX3_budgetLeft yX3_budgetLeft, Cond.code yX3_budgetLeft cX3_budgetLeft 1 (some .int), Cond.fieldLink RX3 36 "Politecrawl" "budget" "I", Cond.fieldLink RX3 155 "Politecrawl" "visitsInSpan" "I", Cond.methodLink RX3 174 yX3_startOfNextSpan, Cond.instanceMethod yX3_startOfNextSpan, Cond.selects RX3 yX3_startOfNextSpan yX3_startOfNextSpan, Cond.code yX3_startOfNextSpan cX3_startOfNextSpan 1 (some .int), Cond.methodLink RX3 143 yX3_earlier, Cond.instanceMethod yX3_earlier, Cond.selects RX3 yX3_earlier yX3_earlier, Cond.code yX3_earlier cX3_earlier 3 (some (.object "Politecrawl$Page")), Cond.methodLink RX3 220 yX3_goesBefore, Cond.instanceMethod yX3_goesBefore, Cond.selects RX3 yX3_goesBefore yX3_goesBefore, Cond.code yX3_goesBefore cX3_goesBefore 5 (some .boolean), Cond.fieldLink RX3 121 "Politecrawl$Page" "rank" "I", Cond.fieldLink RX3 100 "Politecrawl$Page" "number" "I", Cond.methodLink RX3 224 yX2_pressing, Cond.instanceMethod yX2_pressing, Cond.selects RX2 yX2_pressing yX2_pressing]
def wsX3_nextByScan_r3 : List Cond := [Cond.code yX2_pressing cX2_pressing 2 (some .int), Cond.fieldLink RX2 33 "Politecrawl$Page" "rank" "I", Cond.fieldLink RX2 36 "Politecrawl$Page" "due" "I", Cond.methodLink RX3 147 yX3_numberOf, Cond.static yX3_numberOf, Cond.code yX3_numberOf cX3_numberOf 1 (some .int)]
def wsX3_nextByScan : List Cond := .code yX3_nextByScan cX3_nextByScan 6 (some .int) :: ((wsX3_nextByScan_r1 ++ (wsX3_nextByScan_r2 ++ wsX3_nextByScan_r3)) ++ wsX30 ++ wsX20 ++ wsX10)
def wsX3_dividedUp : List Cond := .code yX3_dividedUp cX3_dividedUp 2 (some .int) :: ([])
def wsX3_paceOf : List Cond := .code yX3_paceOf cX3_paceOf 2 (some .int) :: ([.fieldLink RX3 33 "Politecrawl" "longestPace" "I", .fieldLink RX3 29 "Politecrawl" "shortestPace" "I", .fieldLink RX3 130 "Politecrawl$Page" "visits" "I", .fieldLink RX3 133 "Politecrawl$Page" "changes" "I", .methodLink RX3 187 Lib.Math.min.name, .static Lib.Math.min.name, .initialized "java/lang/Math", .code Lib.Math.min.name Lib.Math.min.code 2 (some .int), .methodLink RX3 235 yX3_dividedUp, .static yX3_dividedUp, .initialized RX3, .code yX3_dividedUp cX3_dividedUp 2 (some .int)] ++ wsX30 ++ wsX20)
def wsX3_settle : List Cond := .code yX3_settle cX3_settle 3 none :: ([.fieldLink RX3 162 "Politecrawl$Page" "host" "LPolitecrawl$Host;", .fieldLink RX3 86 "Politecrawl$Host" "failures" "I", .fieldLink RX3 111 "Politecrawl" "tick" "I", .fieldLink RX3 29 "Politecrawl" "shortestPace" "I", .fieldLink RX3 127 "Politecrawl$Page" "due" "I", .fieldLink RX3 228 "Politecrawl$Page" "gone" "Z", .fieldLink RX3 130 "Politecrawl$Page" "visits" "I", .fieldLink RX3 133 "Politecrawl$Page" "changes" "I", .methodLink RX3 232 yX3_paceOf, .instanceMethod yX3_paceOf, .selects RX3 yX3_paceOf yX3_paceOf, .initialized RX3, .code yX3_paceOf cX3_paceOf 2 (some .int), .fieldLink RX3 33 "Politecrawl" "longestPace" "I", .methodLink RX3 187 Lib.Math.min.name, .static Lib.Math.min.name, .initialized "java/lang/Math", .code Lib.Math.min.name Lib.Math.min.code 2 (some .int), .methodLink RX3 235 yX3_dividedUp, .static yX3_dividedUp, .code yX3_dividedUp cX3_dividedUp 2 (some .int)] ++ wsX20 ++ wsX10 ++ wsX30)
def wsX3_visit_r1 : List Cond := [Cond.classLink RX3 39 "java/lang/IllegalArgumentException", Cond.initialized "java/lang/IllegalArgumentException", Cond.classLink RX3 50 "java/lang/IllegalStateException", Cond.initialized "java/lang/IllegalStateException", Cond.fieldLink RX3 155 "Politecrawl" "visitsInSpan" "I", Cond.fieldLink RX3 162 "Politecrawl$Page" "host" "LPolitecrawl$Host;", Cond.fieldLink RX3 111 "Politecrawl" "tick" "I", Cond.fieldLink RX3 89 "Politecrawl$Host" "openFrom" "I", Cond.methodLink RX3 117 yX3_knownPage, Cond.instanceMethod yX3_knownPage, Cond.selects RX3 yX3_knownPage yX3_knownPage, Cond.initialized RX3, Cond.code yX3_knownPage cX3_knownPage 3 (some (.object "Politecrawl$Page")), Cond.classLink RX3 201 "java/lang/IndexOutOfBoundsException", Cond.initialized "java/lang/IndexOutOfBoundsException", Cond.fieldLink RX3 25 "Politecrawl" "found" "[LPolitecrawl$Page;", Cond.methodLink RX3 136 yX3_isReady, Cond.instanceMethod yX3_isReady, Cond.selects RX3 yX3_isReady yX3_isReady, Cond.code yX3_isReady cX3_isReady 2 (some .boolean), Cond.methodLink RX3 124 yX2_isKept, Cond.instanceMethod yX2_isKept, Cond.selects RX2 yX2_isKept yX2_isKept, Cond.initialized RX2]
def wsX3_visit_r2 : List Cond := [Cond.code yX2_isKept cX2_isKept 1 (some .boolean), Cond.fieldLink RX2 39 "Politecrawl$Page" "gone" "Z", Cond.fieldLink RX2 29 "Politecrawl$Page" "lost" "Z", Cond.methodLink RX3 184 yX3_readyFrom, Cond.instanceMethod yX3_readyFrom, Cond.selects RX3 yX3_readyFrom yX3_readyFrom, Cond.code yX3_readyFrom cX3_readyFrom 3 (some .int), Cond.fieldLink RX3 127 "Politecrawl$Page" "due" "I", Cond.methodLink RX3 178 Lib.Math.max.name, Cond.static Lib.Math.max.name, Cond.initialized "java/lang/Math", Cond.code Lib.Math.max.name Lib.Math.max.code 2 (some .int), Cond.methodLink RX3 217 yX3_budgetLeft, Cond.instanceMethod yX3_budgetLeft, Cond.selects RX3 yX3_budgetLeft yX3_budgetLeft, Cond.code yX3_budgetLeft cX3_budgetLeft 1 (some .int), Cond.fieldLink RX3 36 "Politecrawl" "budget" "I", Cond.methodLink RX3 174 yX3_startOfNextSpan, Cond.instanceMethod yX3_startOfNextSpan, Cond.selects RX3 yX3_startOfNextSpan yX3_startOfNextSpan, Cond.code yX3_startOfNextSpan cX3_startOfNextSpan 1 (some .int), Cond.methodLink RX3 158 yX3_settle, Cond.instanceMethod yX3_settle, Cond.selects RX3 yX3_settle yX3_settle]
def wsX3_visit_r3 : List Cond := [Cond.code yX3_settle cX3_settle 3 none, Cond.fieldLink RX3 86 "Politecrawl$Host" "failures" "I", Cond.fieldLink RX3 29 "Politecrawl" "shortestPace" "I", Cond.fieldLink RX3 228 "Politecrawl$Page" "gone" "Z", Cond.fieldLink RX3 130 "Politecrawl$Page" "visits" "I", Cond.fieldLink RX3 133 "Politecrawl$Page" "changes" "I", Cond.methodLink RX3 232 yX3_paceOf, Cond.instanceMethod yX3_paceOf, Cond.selects RX3 yX3_paceOf yX3_paceOf, Cond.code yX3_paceOf cX3_paceOf 2 (some .int), Cond.fieldLink RX3 33 "Politecrawl" "longestPace" "I", Cond.methodLink RX3 187 Lib.Math.min.name, Cond.static Lib.Math.min.name, Cond.code Lib.Math.min.name Lib.Math.min.code 2 (some .int), Cond.methodLink RX3 235 yX3_dividedUp, Cond.static yX3_dividedUp, Cond.code yX3_dividedUp cX3_dividedUp 2 (some .int), Cond.methodLink RX3 166 yX1_restFrom, Cond.instanceMethod yX1_restFrom, Cond.selects RX1 yX1_restFrom yX1_restFrom, Cond.initialized RX1, Cond.code yX1_restFrom cX1_restFrom 2 none, Cond.fieldLink RX1 9 "Politecrawl$Host" "rest" "I", Cond.fieldLink RX1 15 "Politecrawl$Host" "failures" "I"]
def wsX3_visit_r4 : List Cond := [Cond.methodLink RX1 18 Lib.Math.min.name, Cond.fieldLink RX1 24 "Politecrawl$Host" "openFrom" "I"]
def wsX3_visit : List Cond := .code yX3_visit cX3_visit 4 (some .int) :: ((wsX3_visit_r1 ++ (wsX3_visit_r2 ++ (wsX3_visit_r3 ++ wsX3_visit_r4))) ++ wsX30 ++ wsX20 ++ wsX10 ++ (vx_atS RX3 43 "java/lang/IllegalArgumentException" ["java/lang/RuntimeException", "java/lang/Exception"]).filter goodWord ++ (vx_atS RX3 54 "java/lang/IllegalStateException" ["java/lang/RuntimeException", "java/lang/Exception"]).filter goodWord ++ (vx_atS RX3 205 "java/lang/IndexOutOfBoundsException" ["java/lang/RuntimeException", "java/lang/Exception"]).filter goodWord)
def wsX3_pass : List Cond := .code yX3_pass cX3_pass 2 (some .int) :: ([.classLink RX3 39 "java/lang/IllegalArgumentException", .initialized "java/lang/IllegalArgumentException", .classLink RX3 50 "java/lang/IllegalStateException", .initialized "java/lang/IllegalStateException", .fieldLink RX3 111 "Politecrawl" "tick" "I", .constant RX3 171 (100000), .fieldLink RX3 155 "Politecrawl" "visitsInSpan" "I", .methodLink RX3 174 yX3_startOfNextSpan, .instanceMethod yX3_startOfNextSpan, .selects RX3 yX3_startOfNextSpan yX3_startOfNextSpan, .initialized RX3, .code yX3_startOfNextSpan cX3_startOfNextSpan 1 (some .int)] ++ wsX30 ++ (vx_atS RX3 43 "java/lang/IllegalArgumentException" ["java/lang/RuntimeException", "java/lang/Exception"]).filter goodWord ++ (vx_atS RX3 54 "java/lang/IllegalStateException" ["java/lang/RuntimeException", "java/lang/Exception"]).filter goodWord)
def wsX3_now : List Cond := .code yX3_now cX3_now 1 (some .int) :: ([.fieldLink RX3 111 "Politecrawl" "tick" "I"] ++ wsX30)
def wsX3_waiting_r1 : List Cond := [Cond.fieldLink RX3 25 "Politecrawl" "found" "[LPolitecrawl$Page;", Cond.fieldLink RX3 111 "Politecrawl" "tick" "I", Cond.methodLink RX3 187 Lib.Math.min.name, Cond.static Lib.Math.min.name, Cond.initialized "java/lang/Math", Cond.code Lib.Math.min.name Lib.Math.min.code 2 (some .int), Cond.methodLink RX3 124 yX2_isKept, Cond.instanceMethod yX2_isKept, Cond.selects RX2 yX2_isKept yX2_isKept, Cond.initialized RX2, Cond.code yX2_isKept cX2_isKept 1 (some .boolean), Cond.fieldLink RX2 39 "Politecrawl$Page" "gone" "Z", Cond.fieldLink RX2 29 "Politecrawl$Page" "lost" "Z", Cond.methodLink RX3 184 yX3_readyFrom, Cond.instanceMethod yX3_readyFrom, Cond.selects RX3 yX3_readyFrom yX3_readyFrom, Cond.initialized RX3, Cond.code yX3_readyFrom cX3_readyFrom 3 (some .int), Cond.fieldLink RX3 127 "Politecrawl$Page" "due" "I", Cond.fieldLink RX3 162 "Politecrawl$Page" "host" "LPolitecrawl$Host;", Cond.fieldLink RX3 89 "Politecrawl$Host" "openFrom" "I", Cond.methodLink RX3 178 Lib.Math.max.name, Cond.static Lib.Math.max.name, Cond.code Lib.Math.max.name Lib.Math.max.code 2 (some .int)]
def wsX3_waiting_r2 : List Cond := [Cond.methodLink RX3 217 yX3_budgetLeft, Cond.instanceMethod yX3_budgetLeft, Cond.selects RX3 yX3_budgetLeft yX3_budgetLeft, Cond.code yX3_budgetLeft cX3_budgetLeft 1 (some .int), Cond.fieldLink RX3 36 "Politecrawl" "budget" "I", Cond.fieldLink RX3 155 "Politecrawl" "visitsInSpan" "I", Cond.methodLink RX3 174 yX3_startOfNextSpan, Cond.instanceMethod yX3_startOfNextSpan, Cond.selects RX3 yX3_startOfNextSpan yX3_startOfNextSpan, Cond.code yX3_startOfNextSpan cX3_startOfNextSpan 1 (some .int)]
def wsX3_waiting : List Cond := .code yX3_waiting cX3_waiting 7 (some .int) :: ((wsX3_waiting_r1 ++ wsX3_waiting_r2) ++ wsX30 ++ wsX20 ++ wsX10)
def wsX3_forgetSpread : List Cond := .code yX3_forgetSpread cX3_forgetSpread 5 none :: ([.fieldLink RX3 25 "Politecrawl" "found" "[LPolitecrawl$Page;", .fieldLink RX3 198 "Politecrawl$Page" "spread" "I"] ++ wsX30 ++ wsX20)
def wsX3_spreadOneVisit_r1 : List Cond := [Cond.fieldLink RX3 25 "Politecrawl" "found" "[LPolitecrawl$Page;", Cond.fieldLink RX3 198 "Politecrawl$Page" "spread" "I", Cond.methodLink RX3 124 yX2_isKept, Cond.instanceMethod yX2_isKept, Cond.selects RX2 yX2_isKept yX2_isKept, Cond.initialized RX2, Cond.code yX2_isKept cX2_isKept 1 (some .boolean), Cond.fieldLink RX2 39 "Politecrawl$Page" "gone" "Z", Cond.fieldLink RX2 29 "Politecrawl$Page" "lost" "Z", Cond.methodLink RX3 238 yX2_gainsMoreThan, Cond.instanceMethod yX2_gainsMoreThan, Cond.selects RX2 yX2_gainsMoreThan yX2_gainsMoreThan, Cond.code yX2_gainsMoreThan cX2_gainsMoreThan 2 (some .boolean), Cond.methodLink RX2 42 yX2_gainAbove, Cond.instanceMethod yX2_gainAbove, Cond.selects RX2 yX2_gainAbove yX2_gainAbove, Cond.code yX2_gainAbove cX2_gainAbove 1 (some .long), Cond.fieldLink RX2 33 "Politecrawl$Page" "rank" "I", Cond.fieldLink RX2 49 "Politecrawl$Page" "changes" "I", Cond.methodLink RX2 46 yX2_gainBelow, Cond.instanceMethod yX2_gainBelow, Cond.selects RX2 yX2_gainBelow yX2_gainBelow, Cond.code yX2_gainBelow cX2_gainBelow 1 (some .long), Cond.fieldLink RX2 52 "Politecrawl$Page" "spread" "I"]
def wsX3_spreadOneVisit_r2 : List Cond := [Cond.constantLong RX2 55 (2)]
def wsX3_spreadOneVisit : List Cond := .code yX3_spreadOneVisit cX3_spreadOneVisit 6 none :: ((wsX3_spreadOneVisit_r1 ++ wsX3_spreadOneVisit_r2) ++ wsX30 ++ wsX20)
def wsX3_share_r1 : List Cond := [Cond.classLink RX3 39 "java/lang/IllegalArgumentException", Cond.initialized "java/lang/IllegalArgumentException", Cond.fieldLink RX3 198 "Politecrawl$Page" "spread" "I", Cond.methodLink RX3 117 yX3_knownPage, Cond.instanceMethod yX3_knownPage, Cond.selects RX3 yX3_knownPage yX3_knownPage, Cond.initialized RX3, Cond.code yX3_knownPage cX3_knownPage 3 (some (.object "Politecrawl$Page")), Cond.classLink RX3 201 "java/lang/IndexOutOfBoundsException", Cond.initialized "java/lang/IndexOutOfBoundsException", Cond.fieldLink RX3 25 "Politecrawl" "found" "[LPolitecrawl$Page;", Cond.methodLink RX3 192 yX3_forgetSpread, Cond.instanceMethod yX3_forgetSpread, Cond.selects RX3 yX3_forgetSpread yX3_forgetSpread, Cond.code yX3_forgetSpread cX3_forgetSpread 5 none, Cond.methodLink RX3 195 yX3_spreadOneVisit, Cond.instanceMethod yX3_spreadOneVisit, Cond.selects RX3 yX3_spreadOneVisit yX3_spreadOneVisit, Cond.code yX3_spreadOneVisit cX3_spreadOneVisit 6 none, Cond.methodLink RX3 124 yX2_isKept, Cond.instanceMethod yX2_isKept, Cond.selects RX2 yX2_isKept yX2_isKept, Cond.initialized RX2, Cond.code yX2_isKept cX2_isKept 1 (some .boolean)]
def wsX3_share_r2 : List Cond := [Cond.fieldLink RX2 39 "Politecrawl$Page" "gone" "Z", Cond.fieldLink RX2 29 "Politecrawl$Page" "lost" "Z", Cond.methodLink RX3 238 yX2_gainsMoreThan, Cond.instanceMethod yX2_gainsMoreThan, Cond.selects RX2 yX2_gainsMoreThan yX2_gainsMoreThan, Cond.code yX2_gainsMoreThan cX2_gainsMoreThan 2 (some .boolean), Cond.methodLink RX2 42 yX2_gainAbove, Cond.instanceMethod yX2_gainAbove, Cond.selects RX2 yX2_gainAbove yX2_gainAbove, Cond.code yX2_gainAbove cX2_gainAbove 1 (some .long), Cond.fieldLink RX2 33 "Politecrawl$Page" "rank" "I", Cond.fieldLink RX2 49 "Politecrawl$Page" "changes" "I", Cond.methodLink RX2 46 yX2_gainBelow, Cond.instanceMethod yX2_gainBelow, Cond.selects RX2 yX2_gainBelow yX2_gainBelow, Cond.code yX2_gainBelow cX2_gainBelow 1 (some .long), Cond.fieldLink RX2 52 "Politecrawl$Page" "spread" "I", Cond.constantLong RX2 55 (2)]
def wsX3_share : List Cond := .code yX3_share cX3_share 5 (some .int) :: ((wsX3_share_r1 ++ wsX3_share_r2) ++ wsX20 ++ wsX30 ++ (vx_atS RX3 43 "java/lang/IllegalArgumentException" ["java/lang/RuntimeException", "java/lang/Exception"]).filter goodWord ++ (vx_atS RX3 205 "java/lang/IndexOutOfBoundsException" ["java/lang/RuntimeException", "java/lang/Exception"]).filter goodWord)
def wsX4_init : List Cond := .code yX4_init cX4_init 2 none :: ([.methodLink RX4 1 objectInit, .instanceMethod objectInit, .code objectInit ⟨#[0xb1]⟩ 1 none, .arrayClass .int, .fieldLink RX4 7 "PolitecrawlModel" "buffer" "[I", .fieldLink RX4 13 "PolitecrawlModel" "rest" "[I", .fieldLink RX4 16 "PolitecrawlModel" "failures" "[I", .fieldLink RX4 19 "PolitecrawlModel" "openFrom" "[I", .fieldLink RX4 22 "PolitecrawlModel" "shortest" "I", .fieldLink RX4 26 "PolitecrawlModel" "longest" "I", .fieldLink RX4 29 "PolitecrawlModel" "budget" "I", .fieldLink RX4 32 "PolitecrawlModel" "text" "[I", .fieldLink RX4 35 "PolitecrawlModel" "size" "[I", .fieldLink RX4 38 "PolitecrawlModel" "host" "[I", .fieldLink RX4 41 "PolitecrawlModel" "rank" "[I", .fieldLink RX4 44 "PolitecrawlModel" "due" "[I", .fieldLink RX4 47 "PolitecrawlModel" "visits" "[I", .fieldLink RX4 50 "PolitecrawlModel" "changes" "[I", .arrayClass .boolean, .fieldLink RX4 53 "PolitecrawlModel" "gone" "[Z", .fieldLink RX4 57 "PolitecrawlModel" "lost" "[Z", .fieldLink RX4 60 "PolitecrawlModel" "begin" "[I", .fieldLink RX4 63 "PolitecrawlModel" "many" "[I", .fieldLink RX4 66 "PolitecrawlModel" "shares" "[I"] ++ wsX40)
def wsX4_thrown : List Cond := .code yX4_thrown cX4_thrown 1 (some .int) :: ([.fieldLink RX4 69 "PolitecrawlModel" "thrown" "I"] ++ wsX40)
def wsX4_fails : List Cond := .code yX4_fails cX4_fails 2 (some .int) :: ([.fieldLink RX4 69 "PolitecrawlModel" "thrown" "I"] ++ wsX40)
def wsX4_in : List Cond := .code yX4_in cX4_in 3 (some .boolean) :: ([])
def wsX4_isHost : List Cond := .code yX4_isHost cX4_isHost 1 (some .boolean) :: ([.methodLink RX4 72 yX4_in, .static yX4_in, .initialized RX4, .code yX4_in cX4_in 3 (some .boolean)])
def wsX4_isPage : List Cond := .code yX4_isPage cX4_isPage 2 (some .boolean) :: ([.fieldLink RX4 76 "PolitecrawlModel" "pages" "I", .methodLink RX4 72 yX4_in, .static yX4_in, .initialized RX4, .code yX4_in cX4_in 3 (some .boolean)] ++ wsX40)
def wsX4_isAsked : List Cond := .code yX4_isAsked cX4_isAsked 2 (some .boolean) :: ([.fieldLink RX4 69 "PolitecrawlModel" "thrown" "I", .methodLink RX4 79 yX4_isPage, .instanceMethod yX4_isPage, .selects RX4 yX4_isPage yX4_isPage, .initialized RX4, .code yX4_isPage cX4_isPage 2 (some .boolean), .fieldLink RX4 76 "PolitecrawlModel" "pages" "I", .methodLink RX4 72 yX4_in, .static yX4_in, .code yX4_in cX4_in 3 (some .boolean)] ++ wsX40)
def wsX4_laySegments : List Cond := .code yX4_laySegments cX4_laySegments 3 none :: ([.fieldLink RX4 83 "PolitecrawlModel" "segments" "I", .fieldLink RX4 86 "PolitecrawlModel" "length" "I", .fieldLink RX4 7 "PolitecrawlModel" "buffer" "[I", .fieldLink RX4 60 "PolitecrawlModel" "begin" "[I", .fieldLink RX4 63 "PolitecrawlModel" "many" "[I"] ++ wsX40)
def wsX4_areSame : List Cond := .code yX4_areSame cX4_areSame 5 (some .boolean) :: ([.fieldLink RX4 63 "PolitecrawlModel" "many" "[I", .fieldLink RX4 7 "PolitecrawlModel" "buffer" "[I", .fieldLink RX4 60 "PolitecrawlModel" "begin" "[I"] ++ wsX40)
def wsX4_repeats : List Cond := .code yX4_repeats cX4_repeats 6 (some .boolean) :: ([.fieldLink RX4 83 "PolitecrawlModel" "segments" "I", .methodLink RX4 89 yX4_laySegments, .instanceMethod yX4_laySegments, .selects RX4 yX4_laySegments yX4_laySegments, .initialized RX4, .code yX4_laySegments cX4_laySegments 3 none, .fieldLink RX4 86 "PolitecrawlModel" "length" "I", .fieldLink RX4 7 "PolitecrawlModel" "buffer" "[I", .fieldLink RX4 60 "PolitecrawlModel" "begin" "[I", .fieldLink RX4 63 "PolitecrawlModel" "many" "[I", .methodLink RX4 92 yX4_areSame, .instanceMethod yX4_areSame, .selects RX4 yX4_areSame yX4_areSame, .code yX4_areSame cX4_areSame 5 (some .boolean)] ++ wsX40)
def wsX4_type : List Cond := .code yX4_type cX4_type 2 (some .int) :: ([.fieldLink RX4 69 "PolitecrawlModel" "thrown" "I", .fieldLink RX4 86 "PolitecrawlModel" "length" "I", .fieldLink RX4 7 "PolitecrawlModel" "buffer" "[I", .methodLink RX4 72 yX4_in, .static yX4_in, .initialized RX4, .code yX4_in cX4_in 3 (some .boolean), .methodLink RX4 96 yX4_fails, .instanceMethod yX4_fails, .selects RX4 yX4_fails yX4_fails, .code yX4_fails cX4_fails 2 (some .int)] ++ wsX40)
def wsX4_clearAddress : List Cond := .code yX4_clearAddress cX4_clearAddress 2 (some .int) :: ([.fieldLink RX4 69 "PolitecrawlModel" "thrown" "I", .fieldLink RX4 86 "PolitecrawlModel" "length" "I"] ++ wsX40)
def wsX4_segments : List Cond := .code yX4_segments cX4_segments 1 (some .int) :: ([.fieldLink RX4 69 "PolitecrawlModel" "thrown" "I", .fieldLink RX4 83 "PolitecrawlModel" "segments" "I", .methodLink RX4 89 yX4_laySegments, .instanceMethod yX4_laySegments, .selects RX4 yX4_laySegments yX4_laySegments, .initialized RX4, .code yX4_laySegments cX4_laySegments 3 none, .fieldLink RX4 86 "PolitecrawlModel" "length" "I", .fieldLink RX4 7 "PolitecrawlModel" "buffer" "[I", .fieldLink RX4 60 "PolitecrawlModel" "begin" "[I", .fieldLink RX4 63 "PolitecrawlModel" "many" "[I"] ++ wsX40)
def wsX4_isTrap : List Cond := .code yX4_isTrap cX4_isTrap 1 (some .boolean) :: ([.fieldLink RX4 69 "PolitecrawlModel" "thrown" "I", .methodLink RX4 100 yX4_repeats, .instanceMethod yX4_repeats, .selects RX4 yX4_repeats yX4_repeats, .initialized RX4, .code yX4_repeats cX4_repeats 6 (some .boolean), .fieldLink RX4 83 "PolitecrawlModel" "segments" "I", .methodLink RX4 89 yX4_laySegments, .instanceMethod yX4_laySegments, .selects RX4 yX4_laySegments yX4_laySegments, .code yX4_laySegments cX4_laySegments 3 none, .fieldLink RX4 86 "PolitecrawlModel" "length" "I", .fieldLink RX4 7 "PolitecrawlModel" "buffer" "[I", .fieldLink RX4 60 "PolitecrawlModel" "begin" "[I", .fieldLink RX4 63 "PolitecrawlModel" "many" "[I", .methodLink RX4 92 yX4_areSame, .instanceMethod yX4_areSame, .selects RX4 yX4_areSame yX4_areSame, .code yX4_areSame cX4_areSame 5 (some .boolean)] ++ wsX40)
def wsX4_setRest : List Cond := .code yX4_setRest cX4_setRest 4 (some .int) :: ([.fieldLink RX4 69 "PolitecrawlModel" "thrown" "I", .fieldLink RX4 13 "PolitecrawlModel" "rest" "[I", .methodLink RX4 104 yX4_isHost, .static yX4_isHost, .initialized RX4, .code yX4_isHost cX4_isHost 1 (some .boolean), .methodLink RX4 72 yX4_in, .static yX4_in, .code yX4_in cX4_in 3 (some .boolean), .methodLink RX4 96 yX4_fails, .instanceMethod yX4_fails, .selects RX4 yX4_fails yX4_fails, .code yX4_fails cX4_fails 2 (some .int)] ++ wsX40)
def wsX4_setPaces : List Cond := .code yX4_setPaces cX4_setPaces 3 none :: ([.fieldLink RX4 69 "PolitecrawlModel" "thrown" "I", .fieldLink RX4 22 "PolitecrawlModel" "shortest" "I", .fieldLink RX4 26 "PolitecrawlModel" "longest" "I", .methodLink RX4 72 yX4_in, .static yX4_in, .initialized RX4, .code yX4_in cX4_in 3 (some .boolean)] ++ wsX40)
def wsX4_setBudget : List Cond := .code yX4_setBudget cX4_setBudget 3 (some .int) :: ([.fieldLink RX4 69 "PolitecrawlModel" "thrown" "I", .fieldLink RX4 29 "PolitecrawlModel" "budget" "I", .methodLink RX4 72 yX4_in, .static yX4_in, .initialized RX4, .code yX4_in cX4_in 3 (some .boolean), .methodLink RX4 96 yX4_fails, .instanceMethod yX4_fails, .selects RX4 yX4_fails yX4_fails, .code yX4_fails cX4_fails 2 (some .int)] ++ wsX40)
def wsX4_failures : List Cond := .code yX4_failures cX4_failures 2 (some .int) :: ([.fieldLink RX4 69 "PolitecrawlModel" "thrown" "I", .fieldLink RX4 16 "PolitecrawlModel" "failures" "[I", .methodLink RX4 104 yX4_isHost, .static yX4_isHost, .initialized RX4, .code yX4_isHost cX4_isHost 1 (some .boolean), .methodLink RX4 72 yX4_in, .static yX4_in, .code yX4_in cX4_in 3 (some .boolean), .methodLink RX4 96 yX4_fails, .instanceMethod yX4_fails, .selects RX4 yX4_fails yX4_fails, .code yX4_fails cX4_fails 2 (some .int)] ++ wsX40)
def wsX4_openFrom : List Cond := .code yX4_openFrom cX4_openFrom 2 (some .int) :: ([.fieldLink RX4 69 "PolitecrawlModel" "thrown" "I", .fieldLink RX4 19 "PolitecrawlModel" "openFrom" "[I", .methodLink RX4 104 yX4_isHost, .static yX4_isHost, .initialized RX4, .code yX4_isHost cX4_isHost 1 (some .boolean), .methodLink RX4 72 yX4_in, .static yX4_in, .code yX4_in cX4_in 3 (some .boolean), .methodLink RX4 96 yX4_fails, .instanceMethod yX4_fails, .selects RX4 yX4_fails yX4_fails, .code yX4_fails cX4_fails 2 (some .int)] ++ wsX40)
def wsX4_isAddress : List Cond := .code yX4_isAddress cX4_isAddress 4 (some .boolean) :: ([.fieldLink RX4 35 "PolitecrawlModel" "size" "[I", .fieldLink RX4 86 "PolitecrawlModel" "length" "I", .fieldLink RX4 32 "PolitecrawlModel" "text" "[I", .fieldLink RX4 7 "PolitecrawlModel" "buffer" "[I"] ++ wsX40)
def wsX4_find_r1 : List Cond := [Cond.fieldLink RX4 69 "PolitecrawlModel" "thrown" "I", Cond.fieldLink RX4 76 "PolitecrawlModel" "pages" "I", Cond.fieldLink RX4 38 "PolitecrawlModel" "host" "[I", Cond.fieldLink RX4 86 "PolitecrawlModel" "length" "I", Cond.fieldLink RX4 32 "PolitecrawlModel" "text" "[I", Cond.fieldLink RX4 7 "PolitecrawlModel" "buffer" "[I", Cond.fieldLink RX4 35 "PolitecrawlModel" "size" "[I", Cond.fieldLink RX4 41 "PolitecrawlModel" "rank" "[I", Cond.fieldLink RX4 44 "PolitecrawlModel" "due" "[I", Cond.fieldLink RX4 110 "PolitecrawlModel" "now" "I", Cond.fieldLink RX4 57 "PolitecrawlModel" "lost" "[Z", Cond.methodLink RX4 104 yX4_isHost, Cond.static yX4_isHost, Cond.initialized RX4, Cond.code yX4_isHost cX4_isHost 1 (some .boolean), Cond.methodLink RX4 72 yX4_in, Cond.static yX4_in, Cond.code yX4_in cX4_in 3 (some .boolean), Cond.methodLink RX4 96 yX4_fails, Cond.instanceMethod yX4_fails, Cond.selects RX4 yX4_fails yX4_fails, Cond.code yX4_fails cX4_fails 2 (some .int), Cond.methodLink RX4 107 yX4_isAddress, Cond.instanceMethod yX4_isAddress]
def wsX4_find_r2 : List Cond := [Cond.selects RX4 yX4_isAddress yX4_isAddress, Cond.code yX4_isAddress cX4_isAddress 4 (some .boolean), Cond.methodLink RX4 100 yX4_repeats, Cond.instanceMethod yX4_repeats, Cond.selects RX4 yX4_repeats yX4_repeats, Cond.code yX4_repeats cX4_repeats 6 (some .boolean), Cond.fieldLink RX4 83 "PolitecrawlModel" "segments" "I", Cond.methodLink RX4 89 yX4_laySegments, Cond.instanceMethod yX4_laySegments, Cond.selects RX4 yX4_laySegments yX4_laySegments, Cond.code yX4_laySegments cX4_laySegments 3 none, Cond.fieldLink RX4 60 "PolitecrawlModel" "begin" "[I", Cond.fieldLink RX4 63 "PolitecrawlModel" "many" "[I", Cond.methodLink RX4 92 yX4_areSame, Cond.instanceMethod yX4_areSame, Cond.selects RX4 yX4_areSame yX4_areSame, Cond.code yX4_areSame cX4_areSame 5 (some .boolean)]
def wsX4_find : List Cond := .code yX4_find cX4_find 4 (some .int) :: ((wsX4_find_r1 ++ wsX4_find_r2) ++ wsX40)
def wsX4_setRank : List Cond := .code yX4_setRank cX4_setRank 4 (some .int) :: ([.fieldLink RX4 69 "PolitecrawlModel" "thrown" "I", .fieldLink RX4 41 "PolitecrawlModel" "rank" "[I", .methodLink RX4 79 yX4_isPage, .instanceMethod yX4_isPage, .selects RX4 yX4_isPage yX4_isPage, .initialized RX4, .code yX4_isPage cX4_isPage 2 (some .boolean), .fieldLink RX4 76 "PolitecrawlModel" "pages" "I", .methodLink RX4 72 yX4_in, .static yX4_in, .code yX4_in cX4_in 3 (some .boolean), .methodLink RX4 96 yX4_fails, .instanceMethod yX4_fails, .selects RX4 yX4_fails yX4_fails, .code yX4_fails cX4_fails 2 (some .int)] ++ wsX40)
def wsX4_pages : List Cond := .code yX4_pages cX4_pages 1 (some .int) :: ([.fieldLink RX4 69 "PolitecrawlModel" "thrown" "I", .fieldLink RX4 76 "PolitecrawlModel" "pages" "I"] ++ wsX40)
def wsX4_counts : List Cond := .code yX4_counts cX4_counts 2 (some .boolean) :: ([.fieldLink RX4 53 "PolitecrawlModel" "gone" "[Z", .fieldLink RX4 57 "PolitecrawlModel" "lost" "[Z"] ++ wsX40)
def wsX4_dueAt : List Cond := .code yX4_dueAt cX4_dueAt 2 (some .int) :: ([.fieldLink RX4 44 "PolitecrawlModel" "due" "[I", .methodLink RX4 113 yX4_isAsked, .instanceMethod yX4_isAsked, .selects RX4 yX4_isAsked yX4_isAsked, .initialized RX4, .code yX4_isAsked cX4_isAsked 2 (some .boolean), .fieldLink RX4 69 "PolitecrawlModel" "thrown" "I", .methodLink RX4 79 yX4_isPage, .instanceMethod yX4_isPage, .selects RX4 yX4_isPage yX4_isPage, .code yX4_isPage cX4_isPage 2 (some .boolean), .fieldLink RX4 76 "PolitecrawlModel" "pages" "I", .methodLink RX4 72 yX4_in, .static yX4_in, .code yX4_in cX4_in 3 (some .boolean), .methodLink RX4 116 yX4_counts, .instanceMethod yX4_counts, .selects RX4 yX4_counts yX4_counts, .code yX4_counts cX4_counts 2 (some .boolean), .fieldLink RX4 53 "PolitecrawlModel" "gone" "[Z", .fieldLink RX4 57 "PolitecrawlModel" "lost" "[Z"] ++ wsX40)
def wsX4_visits : List Cond := .code yX4_visits cX4_visits 2 (some .int) :: ([.fieldLink RX4 47 "PolitecrawlModel" "visits" "[I", .methodLink RX4 113 yX4_isAsked, .instanceMethod yX4_isAsked, .selects RX4 yX4_isAsked yX4_isAsked, .initialized RX4, .code yX4_isAsked cX4_isAsked 2 (some .boolean), .fieldLink RX4 69 "PolitecrawlModel" "thrown" "I", .methodLink RX4 79 yX4_isPage, .instanceMethod yX4_isPage, .selects RX4 yX4_isPage yX4_isPage, .code yX4_isPage cX4_isPage 2 (some .boolean), .fieldLink RX4 76 "PolitecrawlModel" "pages" "I", .methodLink RX4 72 yX4_in, .static yX4_in, .code yX4_in cX4_in 3 (some .boolean)] ++ wsX40)
def wsX4_changes : List Cond := .code yX4_changes cX4_changes 2 (some .int) :: ([.fieldLink RX4 50 "PolitecrawlModel" "changes" "[I", .methodLink RX4 113 yX4_isAsked, .instanceMethod yX4_isAsked, .selects RX4 yX4_isAsked yX4_isAsked, .initialized RX4, .code yX4_isAsked cX4_isAsked 2 (some .boolean), .fieldLink RX4 69 "PolitecrawlModel" "thrown" "I", .methodLink RX4 79 yX4_isPage, .instanceMethod yX4_isPage, .selects RX4 yX4_isPage yX4_isPage, .code yX4_isPage cX4_isPage 2 (some .boolean), .fieldLink RX4 76 "PolitecrawlModel" "pages" "I", .methodLink RX4 72 yX4_in, .static yX4_in, .code yX4_in cX4_in 3 (some .boolean)] ++ wsX40)
def wsX4_left : List Cond := .code yX4_left cX4_left 2 (some .int) :: ([.fieldLink RX4 119 "PolitecrawlModel" "span" "I", .fieldLink RX4 110 "PolitecrawlModel" "now" "I", .fieldLink RX4 122 "PolitecrawlModel" "used" "I", .fieldLink RX4 29 "PolitecrawlModel" "budget" "I"] ++ wsX40)
def wsX4_isOpen : List Cond := .code yX4_isOpen cX4_isOpen 2 (some .boolean) :: ([.fieldLink RX4 44 "PolitecrawlModel" "due" "[I", .fieldLink RX4 110 "PolitecrawlModel" "now" "I", .fieldLink RX4 19 "PolitecrawlModel" "openFrom" "[I", .fieldLink RX4 38 "PolitecrawlModel" "host" "[I", .methodLink RX4 116 yX4_counts, .instanceMethod yX4_counts, .selects RX4 yX4_counts yX4_counts, .initialized RX4, .code yX4_counts cX4_counts 2 (some .boolean), .fieldLink RX4 53 "PolitecrawlModel" "gone" "[Z", .fieldLink RX4 57 "PolitecrawlModel" "lost" "[Z", .methodLink RX4 125 yX4_left, .instanceMethod yX4_left, .selects RX4 yX4_left yX4_left, .code yX4_left cX4_left 2 (some .int), .fieldLink RX4 119 "PolitecrawlModel" "span" "I", .fieldLink RX4 122 "PolitecrawlModel" "used" "I", .fieldLink RX4 29 "PolitecrawlModel" "budget" "I"] ++ wsX40)
def wsX4_mayVisit_r1 : List Cond := [Cond.methodLink RX4 113 yX4_isAsked, Cond.instanceMethod yX4_isAsked, Cond.selects RX4 yX4_isAsked yX4_isAsked, Cond.initialized RX4, Cond.code yX4_isAsked cX4_isAsked 2 (some .boolean), Cond.fieldLink RX4 69 "PolitecrawlModel" "thrown" "I", Cond.methodLink RX4 79 yX4_isPage, Cond.instanceMethod yX4_isPage, Cond.selects RX4 yX4_isPage yX4_isPage, Cond.code yX4_isPage cX4_isPage 2 (some .boolean), Cond.fieldLink RX4 76 "PolitecrawlModel" "pages" "I", Cond.methodLink RX4 72 yX4_in, Cond.static yX4_in, Cond.code yX4_in cX4_in 3 (some .boolean), Cond.methodLink RX4 129 yX4_isOpen, Cond.instanceMethod yX4_isOpen, Cond.selects RX4 yX4_isOpen yX4_isOpen, Cond.code yX4_isOpen cX4_isOpen 2 (some .boolean), Cond.fieldLink RX4 44 "PolitecrawlModel" "due" "[I", Cond.fieldLink RX4 110 "PolitecrawlModel" "now" "I", Cond.fieldLink RX4 19 "PolitecrawlModel" "openFrom" "[I", Cond.fieldLink RX4 38 "PolitecrawlModel" "host" "[I", Cond.methodLink RX4 116 yX4_counts, Cond.instanceMethod yX4_counts]
def wsX4_mayVisit_r2 : List Cond := [Cond.selects RX4 yX4_counts yX4_counts, Cond.code yX4_counts cX4_counts 2 (some .boolean), Cond.fieldLink RX4 53 "PolitecrawlModel" "gone" "[Z", Cond.fieldLink RX4 57 "PolitecrawlModel" "lost" "[Z", Cond.methodLink RX4 125 yX4_left, Cond.instanceMethod yX4_left, Cond.selects RX4 yX4_left yX4_left, Cond.code yX4_left cX4_left 2 (some .int), Cond.fieldLink RX4 119 "PolitecrawlModel" "span" "I", Cond.fieldLink RX4 122 "PolitecrawlModel" "used" "I", Cond.fieldLink RX4 29 "PolitecrawlModel" "budget" "I"]
def wsX4_mayVisit : List Cond := .code yX4_mayVisit cX4_mayVisit 2 (some .boolean) :: ((wsX4_mayVisit_r1 ++ wsX4_mayVisit_r2) ++ wsX40)
def wsX4_best : List Cond := .code yX4_best cX4_best 6 (some .int) :: ([.fieldLink RX4 76 "PolitecrawlModel" "pages" "I", .fieldLink RX4 41 "PolitecrawlModel" "rank" "[I", .fieldLink RX4 110 "PolitecrawlModel" "now" "I", .fieldLink RX4 44 "PolitecrawlModel" "due" "[I", .methodLink RX4 129 yX4_isOpen, .instanceMethod yX4_isOpen, .selects RX4 yX4_isOpen yX4_isOpen, .initialized RX4, .code yX4_isOpen cX4_isOpen 2 (some .boolean), .fieldLink RX4 19 "PolitecrawlModel" "openFrom" "[I", .fieldLink RX4 38 "PolitecrawlModel" "host" "[I", .methodLink RX4 116 yX4_counts, .instanceMethod yX4_counts, .selects RX4 yX4_counts yX4_counts, .code yX4_counts cX4_counts 2 (some .boolean), .fieldLink RX4 53 "PolitecrawlModel" "gone" "[Z", .fieldLink RX4 57 "PolitecrawlModel" "lost" "[Z", .methodLink RX4 125 yX4_left, .instanceMethod yX4_left, .selects RX4 yX4_left yX4_left, .code yX4_left cX4_left 2 (some .int), .fieldLink RX4 119 "PolitecrawlModel" "span" "I", .fieldLink RX4 122 "PolitecrawlModel" "used" "I", .fieldLink RX4 29 "PolitecrawlModel" "budget" "I"] ++ wsX40)
def wsX4_next_r1 : List Cond := [Cond.fieldLink RX4 69 "PolitecrawlModel" "thrown" "I", Cond.methodLink RX4 132 yX4_best, Cond.instanceMethod yX4_best, Cond.selects RX4 yX4_best yX4_best, Cond.initialized RX4, Cond.code yX4_best cX4_best 6 (some .int), Cond.fieldLink RX4 76 "PolitecrawlModel" "pages" "I", Cond.fieldLink RX4 41 "PolitecrawlModel" "rank" "[I", Cond.fieldLink RX4 110 "PolitecrawlModel" "now" "I", Cond.fieldLink RX4 44 "PolitecrawlModel" "due" "[I", Cond.methodLink RX4 129 yX4_isOpen, Cond.instanceMethod yX4_isOpen, Cond.selects RX4 yX4_isOpen yX4_isOpen, Cond.code yX4_isOpen cX4_isOpen 2 (some .boolean), Cond.fieldLink RX4 19 "PolitecrawlModel" "openFrom" "[I", Cond.fieldLink RX4 38 "PolitecrawlModel" "host" "[I", Cond.methodLink RX4 116 yX4_counts, Cond.instanceMethod yX4_counts, Cond.selects RX4 yX4_counts yX4_counts, Cond.code yX4_counts cX4_counts 2 (some .boolean), Cond.fieldLink RX4 53 "PolitecrawlModel" "gone" "[Z", Cond.fieldLink RX4 57 "PolitecrawlModel" "lost" "[Z", Cond.methodLink RX4 125 yX4_left, Cond.instanceMethod yX4_left]
def wsX4_next_r2 : List Cond := [Cond.selects RX4 yX4_left yX4_left, Cond.code yX4_left cX4_left 2 (some .int), Cond.fieldLink RX4 119 "PolitecrawlModel" "span" "I", Cond.fieldLink RX4 122 "PolitecrawlModel" "used" "I", Cond.fieldLink RX4 29 "PolitecrawlModel" "budget" "I"]
def wsX4_next : List Cond := .code yX4_next cX4_next 1 (some .int) :: ((wsX4_next_r1 ++ wsX4_next_r2) ++ wsX40)
def wsX4_nextByScan_r1 : List Cond := [Cond.fieldLink RX4 69 "PolitecrawlModel" "thrown" "I", Cond.methodLink RX4 132 yX4_best, Cond.instanceMethod yX4_best, Cond.selects RX4 yX4_best yX4_best, Cond.initialized RX4, Cond.code yX4_best cX4_best 6 (some .int), Cond.fieldLink RX4 76 "PolitecrawlModel" "pages" "I", Cond.fieldLink RX4 41 "PolitecrawlModel" "rank" "[I", Cond.fieldLink RX4 110 "PolitecrawlModel" "now" "I", Cond.fieldLink RX4 44 "PolitecrawlModel" "due" "[I", Cond.methodLink RX4 129 yX4_isOpen, Cond.instanceMethod yX4_isOpen, Cond.selects RX4 yX4_isOpen yX4_isOpen, Cond.code yX4_isOpen cX4_isOpen 2 (some .boolean), Cond.fieldLink RX4 19 "PolitecrawlModel" "openFrom" "[I", Cond.fieldLink RX4 38 "PolitecrawlModel" "host" "[I", Cond.methodLink RX4 116 yX4_counts, Cond.instanceMethod yX4_counts, Cond.selects RX4 yX4_counts yX4_counts, Cond.code yX4_counts cX4_counts 2 (some .boolean), Cond.fieldLink RX4 53 "PolitecrawlModel" "gone" "[Z", Cond.fieldLink RX4 57 "PolitecrawlModel" "lost" "[Z", Cond.methodLink RX4 125 yX4_left, Cond.instanceMethod yX4_left]
def wsX4_nextByScan_r2 : List Cond := [Cond.selects RX4 yX4_left yX4_left, Cond.code yX4_left cX4_left 2 (some .int), Cond.fieldLink RX4 119 "PolitecrawlModel" "span" "I", Cond.fieldLink RX4 122 "PolitecrawlModel" "used" "I", Cond.fieldLink RX4 29 "PolitecrawlModel" "budget" "I"]
def wsX4_nextByScan : List Cond := .code yX4_nextByScan cX4_nextByScan 1 (some .int) :: ((wsX4_nextByScan_r1 ++ wsX4_nextByScan_r2) ++ wsX40)
def wsX4_visit_r1 : List Cond := [Cond.fieldLink RX4 69 "PolitecrawlModel" "thrown" "I", Cond.fieldLink RX4 119 "PolitecrawlModel" "span" "I", Cond.fieldLink RX4 110 "PolitecrawlModel" "now" "I", Cond.fieldLink RX4 122 "PolitecrawlModel" "used" "I", Cond.fieldLink RX4 38 "PolitecrawlModel" "host" "[I", Cond.fieldLink RX4 16 "PolitecrawlModel" "failures" "[I", Cond.fieldLink RX4 47 "PolitecrawlModel" "visits" "[I", Cond.fieldLink RX4 50 "PolitecrawlModel" "changes" "[I", Cond.fieldLink RX4 22 "PolitecrawlModel" "shortest" "I", Cond.fieldLink RX4 44 "PolitecrawlModel" "due" "[I", Cond.fieldLink RX4 26 "PolitecrawlModel" "longest" "I", Cond.fieldLink RX4 53 "PolitecrawlModel" "gone" "[Z", Cond.fieldLink RX4 19 "PolitecrawlModel" "openFrom" "[I", Cond.fieldLink RX4 13 "PolitecrawlModel" "rest" "[I", Cond.methodLink RX4 79 yX4_isPage, Cond.instanceMethod yX4_isPage, Cond.selects RX4 yX4_isPage yX4_isPage, Cond.initialized RX4, Cond.code yX4_isPage cX4_isPage 2 (some .boolean), Cond.fieldLink RX4 76 "PolitecrawlModel" "pages" "I", Cond.methodLink RX4 72 yX4_in, Cond.static yX4_in, Cond.code yX4_in cX4_in 3 (some .boolean), Cond.methodLink RX4 96 yX4_fails]
def wsX4_visit_r2 : List Cond := [Cond.instanceMethod yX4_fails, Cond.selects RX4 yX4_fails yX4_fails, Cond.code yX4_fails cX4_fails 2 (some .int), Cond.methodLink RX4 129 yX4_isOpen, Cond.instanceMethod yX4_isOpen, Cond.selects RX4 yX4_isOpen yX4_isOpen, Cond.code yX4_isOpen cX4_isOpen 2 (some .boolean), Cond.methodLink RX4 116 yX4_counts, Cond.instanceMethod yX4_counts, Cond.selects RX4 yX4_counts yX4_counts, Cond.code yX4_counts cX4_counts 2 (some .boolean), Cond.fieldLink RX4 57 "PolitecrawlModel" "lost" "[Z", Cond.methodLink RX4 125 yX4_left, Cond.instanceMethod yX4_left, Cond.selects RX4 yX4_left yX4_left, Cond.code yX4_left cX4_left 2 (some .int), Cond.fieldLink RX4 29 "PolitecrawlModel" "budget" "I"]
def wsX4_visit : List Cond := .code yX4_visit cX4_visit 5 (some .int) :: ((wsX4_visit_r1 ++ wsX4_visit_r2) ++ wsX40)
def wsX4_pass : List Cond := .code yX4_pass cX4_pass 2 (some .int) :: ([.fieldLink RX4 69 "PolitecrawlModel" "thrown" "I", .fieldLink RX4 110 "PolitecrawlModel" "now" "I", .constant RX4 135 (100000), .methodLink RX4 72 yX4_in, .static yX4_in, .initialized RX4, .code yX4_in cX4_in 3 (some .boolean), .methodLink RX4 96 yX4_fails, .instanceMethod yX4_fails, .selects RX4 yX4_fails yX4_fails, .code yX4_fails cX4_fails 2 (some .int)] ++ wsX40)
def wsX4_now : List Cond := .code yX4_now cX4_now 1 (some .int) :: ([.fieldLink RX4 69 "PolitecrawlModel" "thrown" "I", .fieldLink RX4 110 "PolitecrawlModel" "now" "I"] ++ wsX40)
def wsX4_budgetLeft : List Cond := .code yX4_budgetLeft cX4_budgetLeft 1 (some .int) :: ([.fieldLink RX4 69 "PolitecrawlModel" "thrown" "I", .methodLink RX4 125 yX4_left, .instanceMethod yX4_left, .selects RX4 yX4_left yX4_left, .initialized RX4, .code yX4_left cX4_left 2 (some .int), .fieldLink RX4 119 "PolitecrawlModel" "span" "I", .fieldLink RX4 110 "PolitecrawlModel" "now" "I", .fieldLink RX4 122 "PolitecrawlModel" "used" "I", .fieldLink RX4 29 "PolitecrawlModel" "budget" "I"] ++ wsX40)
def wsX4_waiting : List Cond := .code yX4_waiting cX4_waiting 4 (some .int) :: ([.fieldLink RX4 69 "PolitecrawlModel" "thrown" "I", .fieldLink RX4 76 "PolitecrawlModel" "pages" "I", .fieldLink RX4 44 "PolitecrawlModel" "due" "[I", .fieldLink RX4 19 "PolitecrawlModel" "openFrom" "[I", .fieldLink RX4 38 "PolitecrawlModel" "host" "[I", .fieldLink RX4 110 "PolitecrawlModel" "now" "I", .methodLink RX4 125 yX4_left, .instanceMethod yX4_left, .selects RX4 yX4_left yX4_left, .initialized RX4, .code yX4_left cX4_left 2 (some .int), .fieldLink RX4 119 "PolitecrawlModel" "span" "I", .fieldLink RX4 122 "PolitecrawlModel" "used" "I", .fieldLink RX4 29 "PolitecrawlModel" "budget" "I", .methodLink RX4 116 yX4_counts, .instanceMethod yX4_counts, .selects RX4 yX4_counts yX4_counts, .code yX4_counts cX4_counts 2 (some .boolean), .fieldLink RX4 53 "PolitecrawlModel" "gone" "[Z", .fieldLink RX4 57 "PolitecrawlModel" "lost" "[Z"] ++ wsX40)
def wsX4_addsMore : List Cond := .code yX4_addsMore cX4_addsMore 11 (some .boolean) :: ([.fieldLink RX4 41 "PolitecrawlModel" "rank" "[I", .fieldLink RX4 50 "PolitecrawlModel" "changes" "[I", .fieldLink RX4 66 "PolitecrawlModel" "shares" "[I", .constantLong RX4 136 (2)] ++ wsX40)
def wsX4_share_r1 : List Cond := [Cond.fieldLink RX4 69 "PolitecrawlModel" "thrown" "I", Cond.fieldLink RX4 76 "PolitecrawlModel" "pages" "I", Cond.fieldLink RX4 66 "PolitecrawlModel" "shares" "[I", Cond.methodLink RX4 79 yX4_isPage, Cond.instanceMethod yX4_isPage, Cond.selects RX4 yX4_isPage yX4_isPage, Cond.initialized RX4, Cond.code yX4_isPage cX4_isPage 2 (some .boolean), Cond.methodLink RX4 72 yX4_in, Cond.static yX4_in, Cond.code yX4_in cX4_in 3 (some .boolean), Cond.methodLink RX4 96 yX4_fails, Cond.instanceMethod yX4_fails, Cond.selects RX4 yX4_fails yX4_fails, Cond.code yX4_fails cX4_fails 2 (some .int), Cond.methodLink RX4 116 yX4_counts, Cond.instanceMethod yX4_counts, Cond.selects RX4 yX4_counts yX4_counts, Cond.code yX4_counts cX4_counts 2 (some .boolean), Cond.fieldLink RX4 53 "PolitecrawlModel" "gone" "[Z", Cond.fieldLink RX4 57 "PolitecrawlModel" "lost" "[Z", Cond.methodLink RX4 138 yX4_addsMore, Cond.instanceMethod yX4_addsMore, Cond.selects RX4 yX4_addsMore yX4_addsMore]
def wsX4_share_r2 : List Cond := [Cond.code yX4_addsMore cX4_addsMore 11 (some .boolean), Cond.fieldLink RX4 41 "PolitecrawlModel" "rank" "[I", Cond.fieldLink RX4 50 "PolitecrawlModel" "changes" "[I", Cond.constantLong RX4 136 (2)]
def wsX4_share : List Cond := .code yX4_share cX4_share 6 (some .int) :: ((wsX4_share_r1 ++ wsX4_share_r2) ++ wsX40)
def wsJ9_max_7cf53 : List Cond := .code yJ9_max_7cf53 cJ9_max_7cf53 2 (some .int) :: ([])
def wsJ9_min_7cf53 : List Cond := .code yJ9_min_7cf53 cJ9_min_7cf53 2 (some .int) :: ([])
def wsL_type_r1 : List Cond := [Cond.classLink RL 13 "java/lang/IllegalArgumentException", Cond.classLink RL 15 "java/lang/IllegalStateException", Cond.methodLink RL 7 yX3_type, Cond.instanceMethod yX3_type, Cond.selects RX3 yX3_type yX3_type, Cond.initialized RX3, Cond.code yX3_type cX3_type 3 (some .int), Cond.classLink RX3 39 "java/lang/IllegalArgumentException", Cond.initialized "java/lang/IllegalArgumentException", Cond.classLink RX3 50 "java/lang/IllegalStateException", Cond.initialized "java/lang/IllegalStateException", Cond.fieldLink RX3 10 "Politecrawl" "buffer" "LPolitecrawl$Address;", Cond.fieldLink RX3 59 "Politecrawl$Address" "length" "I", Cond.methodLink RX3 46 yX0_isFull, Cond.instanceMethod yX0_isFull, Cond.selects RX0 yX0_isFull yX0_isFull, Cond.initialized RX0, Cond.code yX0_isFull cX0_isFull 1 (some .boolean), Cond.fieldLink RX0 26 "Politecrawl$Address" "length" "I", Cond.fieldLink RX0 9 "Politecrawl$Address" "characters" "[C", Cond.methodLink RX3 55 yX0_add, Cond.instanceMethod yX0_add, Cond.selects RX0 yX0_add yX0_add, Cond.code yX0_add cX0_add 2 none]
def wsL_type_r2 : List Cond := [Cond.methodLink RX0 33 yX0_at, Cond.instanceMethod yX0_at, Cond.selects RX0 yX0_at yX0_at, Cond.code yX0_at cX0_at 3 (some .char), Cond.methodLink RX0 37 yX0_startSegment, Cond.instanceMethod yX0_startSegment, Cond.selects RX0 yX0_startSegment yX0_startSegment, Cond.code yX0_startSegment cX0_startSegment 1 none, Cond.fieldLink RX0 30 "Politecrawl$Address" "segmentCount" "I", Cond.fieldLink RX0 15 "Politecrawl$Address" "starts" "[I"]
def wsL_type : List Cond := .codeWith yL_type cL_type 4 (some .int) [(0, 9, 12, 13), (0, 9, 15, 15)] :: ((wsL_type_r1 ++ wsL_type_r2) ++ wsX30 ++ wsX00 ++ (vx_atS RX3 43 "java/lang/IllegalArgumentException" ["java/lang/RuntimeException", "java/lang/Exception"]).filter goodWord ++ (vx_atS RX3 54 "java/lang/IllegalStateException" ["java/lang/RuntimeException", "java/lang/Exception"]).filter goodWord)
def wsL_setRest : List Cond := .codeWith yL_setRest cL_setRest 5 (some .int) [(0, 10, 13, 21), (0, 10, 17, 13)] :: ([.classLink RL 21 "java/lang/IndexOutOfBoundsException", .classLink RL 13 "java/lang/IllegalArgumentException", .methodLink RL 17 yX3_setRest, .instanceMethod yX3_setRest, .selects RX3 yX3_setRest yX3_setRest, .initialized RX3, .code yX3_setRest cX3_setRest 5 (some .int), .classLink RX3 39 "java/lang/IllegalArgumentException", .initialized "java/lang/IllegalArgumentException", .fieldLink RX3 77 "Politecrawl$Host" "rest" "I", .methodLink RX3 71 yX3_knownHost, .instanceMethod yX3_knownHost, .selects RX3 yX3_knownHost yX3_knownHost, .code yX3_knownHost cX3_knownHost 3 (some (.object "Politecrawl$Host")), .classLink RX3 201 "java/lang/IndexOutOfBoundsException", .initialized "java/lang/IndexOutOfBoundsException", .fieldLink RX3 18 "Politecrawl" "hosts" "[LPolitecrawl$Host;"] ++ wsX10 ++ wsX30 ++ (vx_atS RX3 43 "java/lang/IllegalArgumentException" ["java/lang/RuntimeException", "java/lang/Exception"]).filter goodWord ++ (vx_atS RX3 205 "java/lang/IndexOutOfBoundsException" ["java/lang/RuntimeException", "java/lang/Exception"]).filter goodWord)
def wsL_setPaces : List Cond := .codeWith yL_setPaces cL_setPaces 4 (some .int) [(0, 6, 9, 13)] :: ([.classLink RL 13 "java/lang/IllegalArgumentException", .methodLink RL 23 yX3_setPaces, .instanceMethod yX3_setPaces, .selects RX3 yX3_setPaces yX3_setPaces, .initialized RX3, .code yX3_setPaces cX3_setPaces 3 none, .classLink RX3 39 "java/lang/IllegalArgumentException", .initialized "java/lang/IllegalArgumentException", .fieldLink RX3 29 "Politecrawl" "shortestPace" "I", .fieldLink RX3 33 "Politecrawl" "longestPace" "I"] ++ wsX30 ++ (vx_atS RX3 43 "java/lang/IllegalArgumentException" ["java/lang/RuntimeException", "java/lang/Exception"]).filter goodWord)
def wsL_setBudget : List Cond := .codeWith yL_setBudget cL_setBudget 4 (some .int) [(0, 9, 12, 13)] :: ([.classLink RL 13 "java/lang/IllegalArgumentException", .methodLink RL 27 yX3_setBudget, .instanceMethod yX3_setBudget, .selects RX3 yX3_setBudget yX3_setBudget, .initialized RX3, .code yX3_setBudget cX3_setBudget 3 (some .int), .classLink RX3 39 "java/lang/IllegalArgumentException", .initialized "java/lang/IllegalArgumentException", .fieldLink RX3 36 "Politecrawl" "budget" "I"] ++ wsX30 ++ (vx_atS RX3 43 "java/lang/IllegalArgumentException" ["java/lang/RuntimeException", "java/lang/Exception"]).filter goodWord)
def wsL_failures : List Cond := .codeWith yL_failures cL_failures 4 (some .int) [(0, 9, 12, 21)] :: ([.classLink RL 21 "java/lang/IndexOutOfBoundsException", .methodLink RL 31 yX3_failures, .instanceMethod yX3_failures, .selects RX3 yX3_failures yX3_failures, .initialized RX3, .code yX3_failures cX3_failures 2 (some .int), .fieldLink RX3 86 "Politecrawl$Host" "failures" "I", .methodLink RX3 71 yX3_knownHost, .instanceMethod yX3_knownHost, .selects RX3 yX3_knownHost yX3_knownHost, .code yX3_knownHost cX3_knownHost 3 (some (.object "Politecrawl$Host")), .classLink RX3 201 "java/lang/IndexOutOfBoundsException", .initialized "java/lang/IndexOutOfBoundsException", .fieldLink RX3 18 "Politecrawl" "hosts" "[LPolitecrawl$Host;"] ++ wsX10 ++ wsX30 ++ (vx_atS RX3 205 "java/lang/IndexOutOfBoundsException" ["java/lang/RuntimeException", "java/lang/Exception"]).filter goodWord)
def wsL_openFrom : List Cond := .codeWith yL_openFrom cL_openFrom 4 (some .int) [(0, 9, 12, 21)] :: ([.classLink RL 21 "java/lang/IndexOutOfBoundsException", .methodLink RL 34 yX3_openFrom, .instanceMethod yX3_openFrom, .selects RX3 yX3_openFrom yX3_openFrom, .initialized RX3, .code yX3_openFrom cX3_openFrom 2 (some .int), .fieldLink RX3 89 "Politecrawl$Host" "openFrom" "I", .methodLink RX3 71 yX3_knownHost, .instanceMethod yX3_knownHost, .selects RX3 yX3_knownHost yX3_knownHost, .code yX3_knownHost cX3_knownHost 3 (some (.object "Politecrawl$Host")), .classLink RX3 201 "java/lang/IndexOutOfBoundsException", .initialized "java/lang/IndexOutOfBoundsException", .fieldLink RX3 18 "Politecrawl" "hosts" "[LPolitecrawl$Host;"] ++ wsX10 ++ wsX30 ++ (vx_atS RX3 205 "java/lang/IndexOutOfBoundsException" ["java/lang/RuntimeException", "java/lang/Exception"]).filter goodWord)
def wsL_find_r1 : List Cond := [Cond.classLink RL 21 "java/lang/IndexOutOfBoundsException", Cond.classLink RL 13 "java/lang/IllegalArgumentException", Cond.classLink RL 15 "java/lang/IllegalStateException", Cond.methodLink RL 37 yX3_find, Cond.instanceMethod yX3_find, Cond.selects RX3 yX3_find yX3_find, Cond.initialized RX3, Cond.code yX3_find cX3_find 6 (some .int), Cond.classLink RX3 50 "java/lang/IllegalStateException", Cond.initialized "java/lang/IllegalStateException", Cond.fieldLink RX3 100 "Politecrawl$Page" "number" "I", Cond.fieldLink RX3 103 "Politecrawl" "foundCount" "I", Cond.fieldLink RX3 25 "Politecrawl" "found" "[LPolitecrawl$Page;", Cond.classLink RX3 23 RX2, Cond.instantiable RX2 10, Cond.initialized RX2, Cond.classLink RX3 7 RX0, Cond.instantiable RX0 4, Cond.initialized RX0, Cond.fieldLink RX3 10 "Politecrawl" "buffer" "LPolitecrawl$Address;", Cond.fieldLink RX3 111 "Politecrawl" "tick" "I", Cond.methodLink RX3 71 yX3_knownHost, Cond.instanceMethod yX3_knownHost, Cond.selects RX3 yX3_knownHost yX3_knownHost]
def wsL_find_r2 : List Cond := [Cond.code yX3_knownHost cX3_knownHost 3 (some (.object "Politecrawl$Host")), Cond.classLink RX3 201 "java/lang/IndexOutOfBoundsException", Cond.initialized "java/lang/IndexOutOfBoundsException", Cond.fieldLink RX3 18 "Politecrawl" "hosts" "[LPolitecrawl$Host;", Cond.methodLink RX3 92 yX3_refuseOtherRanks, Cond.static yX3_refuseOtherRanks, Cond.code yX3_refuseOtherRanks cX3_refuseOtherRanks 1 none, Cond.classLink RX3 39 "java/lang/IllegalArgumentException", Cond.initialized "java/lang/IllegalArgumentException", Cond.methodLink RX3 96 yX3_pageAtBuffer, Cond.instanceMethod yX3_pageAtBuffer, Cond.selects RX3 yX3_pageAtBuffer yX3_pageAtBuffer, Cond.code yX3_pageAtBuffer cX3_pageAtBuffer 6 (some (.object "Politecrawl$Page")), Cond.fieldLink RX3 162 "Politecrawl$Page" "host" "LPolitecrawl$Host;", Cond.fieldLink RX3 210 "Politecrawl$Page" "address" "LPolitecrawl$Address;", Cond.methodLink RX3 213 yX0_isSameAs, Cond.instanceMethod yX0_isSameAs, Cond.selects RX0 yX0_isSameAs yX0_isSameAs, Cond.code yX0_isSameAs cX0_isSameAs 3 (some .boolean), Cond.fieldLink RX0 26 "Politecrawl$Address" "length" "I", Cond.methodLink RX0 33 yX0_at, Cond.instanceMethod yX0_at, Cond.selects RX0 yX0_at yX0_at, Cond.code yX0_at cX0_at 3 (some .char)]
def wsL_find_r3 : List Cond := [Cond.fieldLink RX0 9 "Politecrawl$Address" "characters" "[C", Cond.methodLink RX3 108 yX0_init_, Cond.instanceMethod yX0_init_, Cond.code yX0_init_ cX0_init_ 2 none, Cond.methodLink RX0 3 objectInit, Cond.instanceMethod objectInit, Cond.code objectInit ⟨#[0xb1]⟩ 1 none, Cond.methodLink RX0 19 ⟨"[C", "clone", "()Ljava/lang/Object;"⟩, Cond.sameMethod "[C" "java/lang/Object" "clone" "()Ljava/lang/Object;", Cond.native ⟨"java/lang/Object", "clone", "()Ljava/lang/Object;"⟩, Cond.instanceMethod ⟨"java/lang/Object", "clone", "()Ljava/lang/Object;"⟩, Cond.selects "[C" ⟨"[C", "clone", "()Ljava/lang/Object;"⟩ ⟨"java/lang/Object", "clone", "()Ljava/lang/Object;"⟩, Cond.classLink RX0 20 "[C", Cond.fieldLink RX0 15 "Politecrawl$Address" "starts" "[I", Cond.methodLink RX0 24 ⟨"[I", "clone", "()Ljava/lang/Object;"⟩, Cond.sameMethod "[I" "java/lang/Object" "clone" "()Ljava/lang/Object;", Cond.selects "[I" ⟨"[I", "clone", "()Ljava/lang/Object;"⟩ ⟨"java/lang/Object", "clone", "()Ljava/lang/Object;"⟩, Cond.classLink RX0 25 "[I", Cond.fieldLink RX0 30 "Politecrawl$Address" "segmentCount" "I", Cond.methodLink RX3 114 yX2_init, Cond.instanceMethod yX2_init, Cond.code yX2_init cX2_init 6 none, Cond.methodLink RX2 3 objectInit, Cond.fieldLink RX2 9 "Politecrawl$Page" "number" "I"]
def wsL_find_r4 : List Cond := [Cond.fieldLink RX2 15 "Politecrawl$Page" "host" "LPolitecrawl$Host;", Cond.fieldLink RX2 19 "Politecrawl$Page" "address" "LPolitecrawl$Address;", Cond.fieldLink RX2 29 "Politecrawl$Page" "lost" "Z", Cond.fieldLink RX2 33 "Politecrawl$Page" "rank" "I", Cond.fieldLink RX2 36 "Politecrawl$Page" "due" "I", Cond.methodLink RX2 23 yX0_repeatsItself, Cond.instanceMethod yX0_repeatsItself, Cond.selects RX0 yX0_repeatsItself yX0_repeatsItself, Cond.code yX0_repeatsItself cX0_repeatsItself 2 (some .boolean), Cond.methodLink RX0 40 yX0_comesThrice, Cond.instanceMethod yX0_comesThrice, Cond.selects RX0 yX0_comesThrice yX0_comesThrice, Cond.code yX0_comesThrice cX0_comesThrice 4 (some .boolean), Cond.methodLink RX0 44 yX0_hasSameSegments, Cond.instanceMethod yX0_hasSameSegments, Cond.selects RX0 yX0_hasSameSegments yX0_hasSameSegments, Cond.code yX0_hasSameSegments cX0_hasSameSegments 7 (some .boolean), Cond.methodLink RX0 48 yX0_startOf, Cond.instanceMethod yX0_startOf, Cond.selects RX0 yX0_startOf yX0_startOf, Cond.code yX0_startOf cX0_startOf 2 (some .int)]
def wsL_find : List Cond := .codeWith yL_find cL_find 5 (some .int) [(0, 10, 13, 21), (0, 10, 17, 13), (0, 10, 21, 15)] :: ((wsL_find_r1 ++ (wsL_find_r2 ++ (wsL_find_r3 ++ wsL_find_r4))) ++ wsX20 ++ wsX30 ++ wsX00 ++ (vx_atS RX3 54 "java/lang/IllegalStateException" ["java/lang/RuntimeException", "java/lang/Exception"]).filter goodWord ++ (vx_atS RX3 205 "java/lang/IndexOutOfBoundsException" ["java/lang/RuntimeException", "java/lang/Exception"]).filter goodWord ++ (vx_atS RX3 43 "java/lang/IllegalArgumentException" ["java/lang/RuntimeException", "java/lang/Exception"]).filter goodWord)
def wsL_setRank : List Cond := .codeWith yL_setRank cL_setRank 5 (some .int) [(0, 10, 13, 21), (0, 10, 17, 13)] :: ([.classLink RL 21 "java/lang/IndexOutOfBoundsException", .classLink RL 13 "java/lang/IllegalArgumentException", .methodLink RL 40 yX3_setRank, .instanceMethod yX3_setRank, .selects RX3 yX3_setRank yX3_setRank, .initialized RX3, .code yX3_setRank cX3_setRank 5 (some .int), .fieldLink RX3 121 "Politecrawl$Page" "rank" "I", .methodLink RX3 117 yX3_knownPage, .instanceMethod yX3_knownPage, .selects RX3 yX3_knownPage yX3_knownPage, .code yX3_knownPage cX3_knownPage 3 (some (.object "Politecrawl$Page")), .classLink RX3 201 "java/lang/IndexOutOfBoundsException", .initialized "java/lang/IndexOutOfBoundsException", .fieldLink RX3 25 "Politecrawl" "found" "[LPolitecrawl$Page;", .methodLink RX3 92 yX3_refuseOtherRanks, .static yX3_refuseOtherRanks, .code yX3_refuseOtherRanks cX3_refuseOtherRanks 1 none, .classLink RX3 39 "java/lang/IllegalArgumentException", .initialized "java/lang/IllegalArgumentException"] ++ wsX20 ++ wsX30 ++ (vx_atS RX3 205 "java/lang/IndexOutOfBoundsException" ["java/lang/RuntimeException", "java/lang/Exception"]).filter goodWord ++ (vx_atS RX3 43 "java/lang/IllegalArgumentException" ["java/lang/RuntimeException", "java/lang/Exception"]).filter goodWord)
def wsL_dueAt : List Cond := .codeWith yL_dueAt cL_dueAt 4 (some .int) [(0, 9, 12, 21)] :: ([.classLink RL 21 "java/lang/IndexOutOfBoundsException", .methodLink RL 43 yX3_dueAt, .instanceMethod yX3_dueAt, .selects RX3 yX3_dueAt yX3_dueAt, .initialized RX3, .code yX3_dueAt cX3_dueAt 3 (some .int), .fieldLink RX3 127 "Politecrawl$Page" "due" "I", .methodLink RX3 117 yX3_knownPage, .instanceMethod yX3_knownPage, .selects RX3 yX3_knownPage yX3_knownPage, .code yX3_knownPage cX3_knownPage 3 (some (.object "Politecrawl$Page")), .classLink RX3 201 "java/lang/IndexOutOfBoundsException", .initialized "java/lang/IndexOutOfBoundsException", .fieldLink RX3 25 "Politecrawl" "found" "[LPolitecrawl$Page;", .methodLink RX3 124 yX2_isKept, .instanceMethod yX2_isKept, .selects RX2 yX2_isKept yX2_isKept, .initialized RX2, .code yX2_isKept cX2_isKept 1 (some .boolean), .fieldLink RX2 39 "Politecrawl$Page" "gone" "Z", .fieldLink RX2 29 "Politecrawl$Page" "lost" "Z"] ++ wsX20 ++ wsX30 ++ (vx_atS RX3 205 "java/lang/IndexOutOfBoundsException" ["java/lang/RuntimeException", "java/lang/Exception"]).filter goodWord)
def wsL_visits : List Cond := .codeWith yL_visits cL_visits 4 (some .int) [(0, 9, 12, 21)] :: ([.classLink RL 21 "java/lang/IndexOutOfBoundsException", .methodLink RL 46 yX3_visits, .instanceMethod yX3_visits, .selects RX3 yX3_visits yX3_visits, .initialized RX3, .code yX3_visits cX3_visits 2 (some .int), .fieldLink RX3 130 "Politecrawl$Page" "visits" "I", .methodLink RX3 117 yX3_knownPage, .instanceMethod yX3_knownPage, .selects RX3 yX3_knownPage yX3_knownPage, .code yX3_knownPage cX3_knownPage 3 (some (.object "Politecrawl$Page")), .classLink RX3 201 "java/lang/IndexOutOfBoundsException", .initialized "java/lang/IndexOutOfBoundsException", .fieldLink RX3 25 "Politecrawl" "found" "[LPolitecrawl$Page;"] ++ wsX20 ++ wsX30 ++ (vx_atS RX3 205 "java/lang/IndexOutOfBoundsException" ["java/lang/RuntimeException", "java/lang/Exception"]).filter goodWord)
def wsL_changes : List Cond := .codeWith yL_changes cL_changes 4 (some .int) [(0, 9, 12, 21)] :: ([.classLink RL 21 "java/lang/IndexOutOfBoundsException", .methodLink RL 49 yX3_changes, .instanceMethod yX3_changes, .selects RX3 yX3_changes yX3_changes, .initialized RX3, .code yX3_changes cX3_changes 2 (some .int), .fieldLink RX3 133 "Politecrawl$Page" "changes" "I", .methodLink RX3 117 yX3_knownPage, .instanceMethod yX3_knownPage, .selects RX3 yX3_knownPage yX3_knownPage, .code yX3_knownPage cX3_knownPage 3 (some (.object "Politecrawl$Page")), .classLink RX3 201 "java/lang/IndexOutOfBoundsException", .initialized "java/lang/IndexOutOfBoundsException", .fieldLink RX3 25 "Politecrawl" "found" "[LPolitecrawl$Page;"] ++ wsX20 ++ wsX30 ++ (vx_atS RX3 205 "java/lang/IndexOutOfBoundsException" ["java/lang/RuntimeException", "java/lang/Exception"]).filter goodWord)
def wsL_mayVisit_r1 : List Cond := [Cond.classLink RL 21 "java/lang/IndexOutOfBoundsException", Cond.methodLink RL 52 yX3_mayVisit, Cond.instanceMethod yX3_mayVisit, Cond.selects RX3 yX3_mayVisit yX3_mayVisit, Cond.initialized RX3, Cond.code yX3_mayVisit cX3_mayVisit 2 (some .boolean), Cond.methodLink RX3 117 yX3_knownPage, Cond.instanceMethod yX3_knownPage, Cond.selects RX3 yX3_knownPage yX3_knownPage, Cond.code yX3_knownPage cX3_knownPage 3 (some (.object "Politecrawl$Page")), Cond.classLink RX3 201 "java/lang/IndexOutOfBoundsException", Cond.initialized "java/lang/IndexOutOfBoundsException", Cond.fieldLink RX3 25 "Politecrawl" "found" "[LPolitecrawl$Page;", Cond.methodLink RX3 136 yX3_isReady, Cond.instanceMethod yX3_isReady, Cond.selects RX3 yX3_isReady yX3_isReady, Cond.code yX3_isReady cX3_isReady 2 (some .boolean), Cond.fieldLink RX3 111 "Politecrawl" "tick" "I", Cond.methodLink RX3 124 yX2_isKept, Cond.instanceMethod yX2_isKept, Cond.selects RX2 yX2_isKept yX2_isKept, Cond.initialized RX2, Cond.code yX2_isKept cX2_isKept 1 (some .boolean), Cond.fieldLink RX2 39 "Politecrawl$Page" "gone" "Z"]
def wsL_mayVisit_r2 : List Cond := [Cond.fieldLink RX2 29 "Politecrawl$Page" "lost" "Z", Cond.methodLink RX3 184 yX3_readyFrom, Cond.instanceMethod yX3_readyFrom, Cond.selects RX3 yX3_readyFrom yX3_readyFrom, Cond.code yX3_readyFrom cX3_readyFrom 3 (some .int), Cond.fieldLink RX3 127 "Politecrawl$Page" "due" "I", Cond.fieldLink RX3 162 "Politecrawl$Page" "host" "LPolitecrawl$Host;", Cond.fieldLink RX3 89 "Politecrawl$Host" "openFrom" "I", Cond.methodLink RX3 178 Lib.Math.max.name, Cond.static Lib.Math.max.name, Cond.initialized "java/lang/Math", Cond.code Lib.Math.max.name Lib.Math.max.code 2 (some .int), Cond.methodLink RX3 217 yX3_budgetLeft, Cond.instanceMethod yX3_budgetLeft, Cond.selects RX3 yX3_budgetLeft yX3_budgetLeft, Cond.code yX3_budgetLeft cX3_budgetLeft 1 (some .int), Cond.fieldLink RX3 36 "Politecrawl" "budget" "I", Cond.fieldLink RX3 155 "Politecrawl" "visitsInSpan" "I", Cond.methodLink RX3 174 yX3_startOfNextSpan, Cond.instanceMethod yX3_startOfNextSpan, Cond.selects RX3 yX3_startOfNextSpan yX3_startOfNextSpan, Cond.code yX3_startOfNextSpan cX3_startOfNextSpan 1 (some .int)]
def wsL_mayVisit : List Cond := .codeWith yL_mayVisit cL_mayVisit 4 (some .int) [(0, 16, 19, 21)] :: ((wsL_mayVisit_r1 ++ wsL_mayVisit_r2) ++ wsX30 ++ wsX20 ++ wsX10 ++ (vx_atS RX3 205 "java/lang/IndexOutOfBoundsException" ["java/lang/RuntimeException", "java/lang/Exception"]).filter goodWord)
def wsL_visit_r1 : List Cond := [Cond.classLink RL 21 "java/lang/IndexOutOfBoundsException", Cond.classLink RL 13 "java/lang/IllegalArgumentException", Cond.classLink RL 15 "java/lang/IllegalStateException", Cond.methodLink RL 56 yX3_visit, Cond.instanceMethod yX3_visit, Cond.selects RX3 yX3_visit yX3_visit, Cond.initialized RX3, Cond.code yX3_visit cX3_visit 4 (some .int), Cond.classLink RX3 39 "java/lang/IllegalArgumentException", Cond.initialized "java/lang/IllegalArgumentException", Cond.classLink RX3 50 "java/lang/IllegalStateException", Cond.initialized "java/lang/IllegalStateException", Cond.fieldLink RX3 155 "Politecrawl" "visitsInSpan" "I", Cond.fieldLink RX3 162 "Politecrawl$Page" "host" "LPolitecrawl$Host;", Cond.fieldLink RX3 111 "Politecrawl" "tick" "I", Cond.fieldLink RX3 89 "Politecrawl$Host" "openFrom" "I", Cond.methodLink RX3 117 yX3_knownPage, Cond.instanceMethod yX3_knownPage, Cond.selects RX3 yX3_knownPage yX3_knownPage, Cond.code yX3_knownPage cX3_knownPage 3 (some (.object "Politecrawl$Page")), Cond.classLink RX3 201 "java/lang/IndexOutOfBoundsException", Cond.initialized "java/lang/IndexOutOfBoundsException", Cond.fieldLink RX3 25 "Politecrawl" "found" "[LPolitecrawl$Page;", Cond.methodLink RX3 136 yX3_isReady]
def wsL_visit_r2 : List Cond := [Cond.instanceMethod yX3_isReady, Cond.selects RX3 yX3_isReady yX3_isReady, Cond.code yX3_isReady cX3_isReady 2 (some .boolean), Cond.methodLink RX3 124 yX2_isKept, Cond.instanceMethod yX2_isKept, Cond.selects RX2 yX2_isKept yX2_isKept, Cond.initialized RX2, Cond.code yX2_isKept cX2_isKept 1 (some .boolean), Cond.fieldLink RX2 39 "Politecrawl$Page" "gone" "Z", Cond.fieldLink RX2 29 "Politecrawl$Page" "lost" "Z", Cond.methodLink RX3 184 yX3_readyFrom, Cond.instanceMethod yX3_readyFrom, Cond.selects RX3 yX3_readyFrom yX3_readyFrom, Cond.code yX3_readyFrom cX3_readyFrom 3 (some .int), Cond.fieldLink RX3 127 "Politecrawl$Page" "due" "I", Cond.methodLink RX3 178 Lib.Math.max.name, Cond.static Lib.Math.max.name, Cond.initialized "java/lang/Math", Cond.code Lib.Math.max.name Lib.Math.max.code 2 (some .int), Cond.methodLink RX3 217 yX3_budgetLeft, Cond.instanceMethod yX3_budgetLeft, Cond.selects RX3 yX3_budgetLeft yX3_budgetLeft, Cond.code yX3_budgetLeft cX3_budgetLeft 1 (some .int), Cond.fieldLink RX3 36 "Politecrawl" "budget" "I"]
def wsL_visit_r3 : List Cond := [Cond.methodLink RX3 174 yX3_startOfNextSpan, Cond.instanceMethod yX3_startOfNextSpan, Cond.selects RX3 yX3_startOfNextSpan yX3_startOfNextSpan, Cond.code yX3_startOfNextSpan cX3_startOfNextSpan 1 (some .int), Cond.methodLink RX3 158 yX3_settle, Cond.instanceMethod yX3_settle, Cond.selects RX3 yX3_settle yX3_settle, Cond.code yX3_settle cX3_settle 3 none, Cond.fieldLink RX3 86 "Politecrawl$Host" "failures" "I", Cond.fieldLink RX3 29 "Politecrawl" "shortestPace" "I", Cond.fieldLink RX3 228 "Politecrawl$Page" "gone" "Z", Cond.fieldLink RX3 130 "Politecrawl$Page" "visits" "I", Cond.fieldLink RX3 133 "Politecrawl$Page" "changes" "I", Cond.methodLink RX3 232 yX3_paceOf, Cond.instanceMethod yX3_paceOf, Cond.selects RX3 yX3_paceOf yX3_paceOf, Cond.code yX3_paceOf cX3_paceOf 2 (some .int), Cond.fieldLink RX3 33 "Politecrawl" "longestPace" "I", Cond.methodLink RX3 187 Lib.Math.min.name, Cond.static Lib.Math.min.name, Cond.code Lib.Math.min.name Lib.Math.min.code 2 (some .int), Cond.methodLink RX3 235 yX3_dividedUp, Cond.static yX3_dividedUp, Cond.code yX3_dividedUp cX3_dividedUp 2 (some .int)]
def wsL_visit_r4 : List Cond := [Cond.methodLink RX3 166 yX1_restFrom, Cond.instanceMethod yX1_restFrom, Cond.selects RX1 yX1_restFrom yX1_restFrom, Cond.initialized RX1, Cond.code yX1_restFrom cX1_restFrom 2 none, Cond.fieldLink RX1 9 "Politecrawl$Host" "rest" "I", Cond.fieldLink RX1 15 "Politecrawl$Host" "failures" "I", Cond.methodLink RX1 18 Lib.Math.min.name, Cond.fieldLink RX1 24 "Politecrawl$Host" "openFrom" "I"]
def wsL_visit : List Cond := .codeWith yL_visit cL_visit 5 (some .int) [(0, 10, 13, 21), (0, 10, 17, 13), (0, 10, 21, 15)] :: ((wsL_visit_r1 ++ (wsL_visit_r2 ++ (wsL_visit_r3 ++ wsL_visit_r4))) ++ wsX30 ++ wsX20 ++ wsX10 ++ (vx_atS RX3 43 "java/lang/IllegalArgumentException" ["java/lang/RuntimeException", "java/lang/Exception"]).filter goodWord ++ (vx_atS RX3 54 "java/lang/IllegalStateException" ["java/lang/RuntimeException", "java/lang/Exception"]).filter goodWord ++ (vx_atS RX3 205 "java/lang/IndexOutOfBoundsException" ["java/lang/RuntimeException", "java/lang/Exception"]).filter goodWord)
def wsL_pass : List Cond := .codeWith yL_pass cL_pass 4 (some .int) [(0, 9, 12, 13), (0, 9, 15, 15)] :: ([.classLink RL 13 "java/lang/IllegalArgumentException", .classLink RL 15 "java/lang/IllegalStateException", .methodLink RL 59 yX3_pass, .instanceMethod yX3_pass, .selects RX3 yX3_pass yX3_pass, .initialized RX3, .code yX3_pass cX3_pass 2 (some .int), .classLink RX3 39 "java/lang/IllegalArgumentException", .initialized "java/lang/IllegalArgumentException", .classLink RX3 50 "java/lang/IllegalStateException", .initialized "java/lang/IllegalStateException", .fieldLink RX3 111 "Politecrawl" "tick" "I", .constant RX3 171 (100000), .fieldLink RX3 155 "Politecrawl" "visitsInSpan" "I", .methodLink RX3 174 yX3_startOfNextSpan, .instanceMethod yX3_startOfNextSpan, .selects RX3 yX3_startOfNextSpan yX3_startOfNextSpan, .code yX3_startOfNextSpan cX3_startOfNextSpan 1 (some .int)] ++ wsX30 ++ (vx_atS RX3 43 "java/lang/IllegalArgumentException" ["java/lang/RuntimeException", "java/lang/Exception"]).filter goodWord ++ (vx_atS RX3 54 "java/lang/IllegalStateException" ["java/lang/RuntimeException", "java/lang/Exception"]).filter goodWord)
def wsL_share_r1 : List Cond := [Cond.classLink RL 21 "java/lang/IndexOutOfBoundsException", Cond.classLink RL 13 "java/lang/IllegalArgumentException", Cond.methodLink RL 62 yX3_share, Cond.instanceMethod yX3_share, Cond.selects RX3 yX3_share yX3_share, Cond.initialized RX3, Cond.code yX3_share cX3_share 5 (some .int), Cond.classLink RX3 39 "java/lang/IllegalArgumentException", Cond.initialized "java/lang/IllegalArgumentException", Cond.fieldLink RX3 198 "Politecrawl$Page" "spread" "I", Cond.methodLink RX3 117 yX3_knownPage, Cond.instanceMethod yX3_knownPage, Cond.selects RX3 yX3_knownPage yX3_knownPage, Cond.code yX3_knownPage cX3_knownPage 3 (some (.object "Politecrawl$Page")), Cond.classLink RX3 201 "java/lang/IndexOutOfBoundsException", Cond.initialized "java/lang/IndexOutOfBoundsException", Cond.fieldLink RX3 25 "Politecrawl" "found" "[LPolitecrawl$Page;", Cond.methodLink RX3 192 yX3_forgetSpread, Cond.instanceMethod yX3_forgetSpread, Cond.selects RX3 yX3_forgetSpread yX3_forgetSpread, Cond.code yX3_forgetSpread cX3_forgetSpread 5 none, Cond.methodLink RX3 195 yX3_spreadOneVisit, Cond.instanceMethod yX3_spreadOneVisit, Cond.selects RX3 yX3_spreadOneVisit yX3_spreadOneVisit]
def wsL_share_r2 : List Cond := [Cond.code yX3_spreadOneVisit cX3_spreadOneVisit 6 none, Cond.methodLink RX3 124 yX2_isKept, Cond.instanceMethod yX2_isKept, Cond.selects RX2 yX2_isKept yX2_isKept, Cond.initialized RX2, Cond.code yX2_isKept cX2_isKept 1 (some .boolean), Cond.fieldLink RX2 39 "Politecrawl$Page" "gone" "Z", Cond.fieldLink RX2 29 "Politecrawl$Page" "lost" "Z", Cond.methodLink RX3 238 yX2_gainsMoreThan, Cond.instanceMethod yX2_gainsMoreThan, Cond.selects RX2 yX2_gainsMoreThan yX2_gainsMoreThan, Cond.code yX2_gainsMoreThan cX2_gainsMoreThan 2 (some .boolean), Cond.methodLink RX2 42 yX2_gainAbove, Cond.instanceMethod yX2_gainAbove, Cond.selects RX2 yX2_gainAbove yX2_gainAbove, Cond.code yX2_gainAbove cX2_gainAbove 1 (some .long), Cond.fieldLink RX2 33 "Politecrawl$Page" "rank" "I", Cond.fieldLink RX2 49 "Politecrawl$Page" "changes" "I", Cond.methodLink RX2 46 yX2_gainBelow, Cond.instanceMethod yX2_gainBelow, Cond.selects RX2 yX2_gainBelow yX2_gainBelow, Cond.code yX2_gainBelow cX2_gainBelow 1 (some .long), Cond.fieldLink RX2 52 "Politecrawl$Page" "spread" "I", Cond.constantLong RX2 55 (2)]
def wsL_share : List Cond := .codeWith yL_share cL_share 5 (some .int) [(0, 10, 13, 21), (0, 10, 17, 13)] :: ((wsL_share_r1 ++ wsL_share_r2) ++ wsX20 ++ wsX30 ++ (vx_atS RX3 43 "java/lang/IllegalArgumentException" ["java/lang/RuntimeException", "java/lang/Exception"]).filter goodWord ++ (vx_atS RX3 205 "java/lang/IndexOutOfBoundsException" ["java/lang/RuntimeException", "java/lang/Exception"]).filter goodWord)
def wsL_law0_r1 : List Cond := [Cond.classLink RL 8 RX3, Cond.instantiable RX3 9, Cond.initialized RX3, Cond.classLink RL 66 RX4, Cond.instantiable RX4 26, Cond.initialized RX4, Cond.arrayClass .long, Cond.methodLink RL 65 yX3_init, Cond.instanceMethod yX3_init, Cond.code yX3_init cX3_init 2 none, Cond.methodLink RX3 1 objectInit, Cond.instanceMethod objectInit, Cond.code objectInit ⟨#[0xb1]⟩ 1 none, Cond.classLink RX3 7 RX0, Cond.instantiable RX0 4, Cond.initialized RX0, Cond.fieldLink RX3 10 "Politecrawl" "buffer" "LPolitecrawl$Address;", Cond.classLink RX3 16 RX1, Cond.fieldLink RX3 18 "Politecrawl" "hosts" "[LPolitecrawl$Host;", Cond.instantiable RX1 3, Cond.initialized RX1, Cond.classLink RX3 23 RX2, Cond.fieldLink RX3 25 "Politecrawl" "found" "[LPolitecrawl$Page;", Cond.fieldLink RX3 29 "Politecrawl" "shortestPace" "I"]
def wsL_law0_r2 : List Cond := [Cond.fieldLink RX3 33 "Politecrawl" "longestPace" "I", Cond.fieldLink RX3 36 "Politecrawl" "budget" "I", Cond.methodLink RX3 9 yX0_init, Cond.instanceMethod yX0_init, Cond.code yX0_init cX0_init 1 none, Cond.methodLink RX0 3 objectInit, Cond.arrayClass .char, Cond.fieldLink RX0 9 "Politecrawl$Address" "characters" "[C", Cond.arrayClass .int, Cond.fieldLink RX0 15 "Politecrawl$Address" "starts" "[I", Cond.instanceMethod yX1_init, Cond.code yX1_init cX1_init 1 none, Cond.methodLink RX1 3 objectInit, Cond.fieldLink RX1 9 "Politecrawl$Host" "rest" "I", Cond.methodLink RL 68 yX4_init, Cond.instanceMethod yX4_init, Cond.code yX4_init cX4_init 2 none, Cond.methodLink RX4 1 objectInit, Cond.fieldLink RX4 7 "PolitecrawlModel" "buffer" "[I", Cond.fieldLink RX4 13 "PolitecrawlModel" "rest" "[I", Cond.fieldLink RX4 16 "PolitecrawlModel" "failures" "[I", Cond.fieldLink RX4 19 "PolitecrawlModel" "openFrom" "[I", Cond.fieldLink RX4 22 "PolitecrawlModel" "shortest" "I", Cond.fieldLink RX4 26 "PolitecrawlModel" "longest" "I"]
def wsL_law0_r3 : List Cond := [Cond.fieldLink RX4 29 "PolitecrawlModel" "budget" "I", Cond.fieldLink RX4 32 "PolitecrawlModel" "text" "[I", Cond.fieldLink RX4 35 "PolitecrawlModel" "size" "[I", Cond.fieldLink RX4 38 "PolitecrawlModel" "host" "[I", Cond.fieldLink RX4 41 "PolitecrawlModel" "rank" "[I", Cond.fieldLink RX4 44 "PolitecrawlModel" "due" "[I", Cond.fieldLink RX4 47 "PolitecrawlModel" "visits" "[I", Cond.fieldLink RX4 50 "PolitecrawlModel" "changes" "[I", Cond.arrayClass .boolean, Cond.fieldLink RX4 53 "PolitecrawlModel" "gone" "[Z", Cond.fieldLink RX4 57 "PolitecrawlModel" "lost" "[Z", Cond.fieldLink RX4 60 "PolitecrawlModel" "begin" "[I", Cond.fieldLink RX4 63 "PolitecrawlModel" "many" "[I", Cond.fieldLink RX4 66 "PolitecrawlModel" "shares" "[I", Cond.methodLink RL 69 yL_type, Cond.static yL_type, Cond.initialized RL, Cond.codeWith yL_type cL_type 4 (some .int) [(0, 9, 12, 13), (0, 9, 15, 15)], Cond.classLink RL 13 "java/lang/IllegalArgumentException", Cond.classLink RL 15 "java/lang/IllegalStateException", Cond.methodLink RL 7 yX3_type, Cond.instanceMethod yX3_type, Cond.selects RX3 yX3_type yX3_type, Cond.code yX3_type cX3_type 3 (some .int)]
def wsL_law0_r4 : List Cond := [Cond.classLink RX3 39 "java/lang/IllegalArgumentException", Cond.initialized "java/lang/IllegalArgumentException", Cond.classLink RX3 50 "java/lang/IllegalStateException", Cond.initialized "java/lang/IllegalStateException", Cond.fieldLink RX3 59 "Politecrawl$Address" "length" "I", Cond.methodLink RX3 46 yX0_isFull, Cond.instanceMethod yX0_isFull, Cond.selects RX0 yX0_isFull yX0_isFull, Cond.code yX0_isFull cX0_isFull 1 (some .boolean), Cond.fieldLink RX0 26 "Politecrawl$Address" "length" "I", Cond.methodLink RX3 55 yX0_add, Cond.instanceMethod yX0_add, Cond.selects RX0 yX0_add yX0_add, Cond.code yX0_add cX0_add 2 none, Cond.methodLink RX0 33 yX0_at, Cond.instanceMethod yX0_at, Cond.selects RX0 yX0_at yX0_at, Cond.code yX0_at cX0_at 3 (some .char), Cond.methodLink RX0 37 yX0_startSegment, Cond.instanceMethod yX0_startSegment, Cond.selects RX0 yX0_startSegment yX0_startSegment, Cond.code yX0_startSegment cX0_startSegment 1 none, Cond.fieldLink RX0 30 "Politecrawl$Address" "segmentCount" "I", Cond.methodLink RL 74 yX4_type]
def wsL_law0_r5 : List Cond := [Cond.instanceMethod yX4_type, Cond.selects RX4 yX4_type yX4_type, Cond.code yX4_type cX4_type 2 (some .int), Cond.fieldLink RX4 69 "PolitecrawlModel" "thrown" "I", Cond.fieldLink RX4 86 "PolitecrawlModel" "length" "I", Cond.methodLink RX4 72 yX4_in, Cond.static yX4_in, Cond.code yX4_in cX4_in 3 (some .boolean), Cond.methodLink RX4 96 yX4_fails, Cond.instanceMethod yX4_fails, Cond.selects RX4 yX4_fails yX4_fails, Cond.code yX4_fails cX4_fails 2 (some .int), Cond.methodLink RL 75 yX4_thrown, Cond.instanceMethod yX4_thrown, Cond.selects RX4 yX4_thrown yX4_thrown, Cond.code yX4_thrown cX4_thrown 1 (some .int), Cond.methodLink RL 79 yX3_clearAddress, Cond.instanceMethod yX3_clearAddress, Cond.selects RX3 yX3_clearAddress yX3_clearAddress, Cond.code yX3_clearAddress cX3_clearAddress 2 (some .int), Cond.methodLink RX3 62 yX0_empty, Cond.instanceMethod yX0_empty, Cond.selects RX0 yX0_empty yX0_empty, Cond.code yX0_empty cX0_empty 1 none]
def wsL_law0_r6 : List Cond := [Cond.methodLink RL 82 yX4_clearAddress, Cond.instanceMethod yX4_clearAddress, Cond.selects RX4 yX4_clearAddress yX4_clearAddress, Cond.code yX4_clearAddress cX4_clearAddress 2 (some .int), Cond.methodLink RL 83 yX3_segments, Cond.instanceMethod yX3_segments, Cond.selects RX3 yX3_segments yX3_segments, Cond.code yX3_segments cX3_segments 1 (some .int), Cond.fieldLink RX3 65 "Politecrawl$Address" "segmentCount" "I", Cond.methodLink RL 86 yX4_segments, Cond.instanceMethod yX4_segments, Cond.selects RX4 yX4_segments yX4_segments, Cond.code yX4_segments cX4_segments 1 (some .int), Cond.fieldLink RX4 83 "PolitecrawlModel" "segments" "I", Cond.methodLink RX4 89 yX4_laySegments, Cond.instanceMethod yX4_laySegments, Cond.selects RX4 yX4_laySegments yX4_laySegments, Cond.code yX4_laySegments cX4_laySegments 3 none, Cond.methodLink RL 87 yX3_isTrap, Cond.instanceMethod yX3_isTrap, Cond.selects RX3 yX3_isTrap yX3_isTrap, Cond.code yX3_isTrap cX3_isTrap 1 (some .boolean), Cond.methodLink RX3 68 yX0_repeatsItself, Cond.instanceMethod yX0_repeatsItself]
def wsL_law0_r7 : List Cond := [Cond.selects RX0 yX0_repeatsItself yX0_repeatsItself, Cond.code yX0_repeatsItself cX0_repeatsItself 2 (some .boolean), Cond.methodLink RX0 40 yX0_comesThrice, Cond.instanceMethod yX0_comesThrice, Cond.selects RX0 yX0_comesThrice yX0_comesThrice, Cond.code yX0_comesThrice cX0_comesThrice 4 (some .boolean), Cond.methodLink RX0 44 yX0_hasSameSegments, Cond.instanceMethod yX0_hasSameSegments, Cond.selects RX0 yX0_hasSameSegments yX0_hasSameSegments, Cond.code yX0_hasSameSegments cX0_hasSameSegments 7 (some .boolean), Cond.methodLink RX0 48 yX0_startOf, Cond.instanceMethod yX0_startOf, Cond.selects RX0 yX0_startOf yX0_startOf, Cond.code yX0_startOf cX0_startOf 2 (some .int), Cond.methodLink RL 91 yX4_isTrap, Cond.instanceMethod yX4_isTrap, Cond.selects RX4 yX4_isTrap yX4_isTrap, Cond.code yX4_isTrap cX4_isTrap 1 (some .boolean), Cond.methodLink RX4 100 yX4_repeats, Cond.instanceMethod yX4_repeats, Cond.selects RX4 yX4_repeats yX4_repeats, Cond.code yX4_repeats cX4_repeats 6 (some .boolean), Cond.methodLink RX4 92 yX4_areSame, Cond.instanceMethod yX4_areSame]
def wsL_law0_r8 : List Cond := [Cond.selects RX4 yX4_areSame yX4_areSame, Cond.code yX4_areSame cX4_areSame 5 (some .boolean), Cond.methodLink RL 92 yL_setRest, Cond.static yL_setRest, Cond.codeWith yL_setRest cL_setRest 5 (some .int) [(0, 10, 13, 21), (0, 10, 17, 13)], Cond.classLink RL 21 "java/lang/IndexOutOfBoundsException", Cond.methodLink RL 17 yX3_setRest, Cond.instanceMethod yX3_setRest, Cond.selects RX3 yX3_setRest yX3_setRest, Cond.code yX3_setRest cX3_setRest 5 (some .int), Cond.fieldLink RX3 77 "Politecrawl$Host" "rest" "I", Cond.methodLink RX3 71 yX3_knownHost, Cond.instanceMethod yX3_knownHost, Cond.selects RX3 yX3_knownHost yX3_knownHost, Cond.code yX3_knownHost cX3_knownHost 3 (some (.object "Politecrawl$Host")), Cond.classLink RX3 201 "java/lang/IndexOutOfBoundsException", Cond.initialized "java/lang/IndexOutOfBoundsException", Cond.methodLink RL 95 yX4_setRest, Cond.instanceMethod yX4_setRest, Cond.selects RX4 yX4_setRest yX4_setRest, Cond.code yX4_setRest cX4_setRest 4 (some .int), Cond.methodLink RX4 104 yX4_isHost, Cond.static yX4_isHost, Cond.code yX4_isHost cX4_isHost 1 (some .boolean)]
def wsL_law0_r9 : List Cond := [Cond.methodLink RL 96 yL_setPaces, Cond.static yL_setPaces, Cond.codeWith yL_setPaces cL_setPaces 4 (some .int) [(0, 6, 9, 13)], Cond.methodLink RL 23 yX3_setPaces, Cond.instanceMethod yX3_setPaces, Cond.selects RX3 yX3_setPaces yX3_setPaces, Cond.code yX3_setPaces cX3_setPaces 3 none, Cond.methodLink RL 99 yX4_setPaces, Cond.instanceMethod yX4_setPaces, Cond.selects RX4 yX4_setPaces yX4_setPaces, Cond.code yX4_setPaces cX4_setPaces 3 none, Cond.methodLink RL 100 yL_setBudget, Cond.static yL_setBudget, Cond.codeWith yL_setBudget cL_setBudget 4 (some .int) [(0, 9, 12, 13)], Cond.methodLink RL 27 yX3_setBudget, Cond.instanceMethod yX3_setBudget, Cond.selects RX3 yX3_setBudget yX3_setBudget, Cond.code yX3_setBudget cX3_setBudget 3 (some .int), Cond.methodLink RL 103 yX4_setBudget, Cond.instanceMethod yX4_setBudget, Cond.selects RX4 yX4_setBudget yX4_setBudget, Cond.code yX4_setBudget cX4_setBudget 3 (some .int), Cond.methodLink RL 104 yL_failures, Cond.static yL_failures]
def wsL_law0_r10 : List Cond := [Cond.codeWith yL_failures cL_failures 4 (some .int) [(0, 9, 12, 21)], Cond.methodLink RL 31 yX3_failures, Cond.instanceMethod yX3_failures, Cond.selects RX3 yX3_failures yX3_failures, Cond.code yX3_failures cX3_failures 2 (some .int), Cond.fieldLink RX3 86 "Politecrawl$Host" "failures" "I", Cond.methodLink RL 106 yX4_failures, Cond.instanceMethod yX4_failures, Cond.selects RX4 yX4_failures yX4_failures, Cond.code yX4_failures cX4_failures 2 (some .int), Cond.methodLink RL 107 yL_openFrom, Cond.static yL_openFrom, Cond.codeWith yL_openFrom cL_openFrom 4 (some .int) [(0, 9, 12, 21)], Cond.methodLink RL 34 yX3_openFrom, Cond.instanceMethod yX3_openFrom, Cond.selects RX3 yX3_openFrom yX3_openFrom, Cond.code yX3_openFrom cX3_openFrom 2 (some .int), Cond.fieldLink RX3 89 "Politecrawl$Host" "openFrom" "I", Cond.methodLink RL 109 yX4_openFrom, Cond.instanceMethod yX4_openFrom, Cond.selects RX4 yX4_openFrom yX4_openFrom, Cond.code yX4_openFrom cX4_openFrom 2 (some .int), Cond.methodLink RL 110 yL_find, Cond.static yL_find]
def wsL_law0_r11 : List Cond := [Cond.codeWith yL_find cL_find 5 (some .int) [(0, 10, 13, 21), (0, 10, 17, 13), (0, 10, 21, 15)], Cond.methodLink RL 37 yX3_find, Cond.instanceMethod yX3_find, Cond.selects RX3 yX3_find yX3_find, Cond.code yX3_find cX3_find 6 (some .int), Cond.fieldLink RX3 100 "Politecrawl$Page" "number" "I", Cond.fieldLink RX3 103 "Politecrawl" "foundCount" "I", Cond.instantiable RX2 10, Cond.initialized RX2, Cond.fieldLink RX3 111 "Politecrawl" "tick" "I", Cond.methodLink RX3 92 yX3_refuseOtherRanks, Cond.static yX3_refuseOtherRanks, Cond.code yX3_refuseOtherRanks cX3_refuseOtherRanks 1 none, Cond.methodLink RX3 96 yX3_pageAtBuffer, Cond.instanceMethod yX3_pageAtBuffer, Cond.selects RX3 yX3_pageAtBuffer yX3_pageAtBuffer, Cond.code yX3_pageAtBuffer cX3_pageAtBuffer 6 (some (.object "Politecrawl$Page")), Cond.fieldLink RX3 162 "Politecrawl$Page" "host" "LPolitecrawl$Host;", Cond.fieldLink RX3 210 "Politecrawl$Page" "address" "LPolitecrawl$Address;", Cond.methodLink RX3 213 yX0_isSameAs, Cond.instanceMethod yX0_isSameAs, Cond.selects RX0 yX0_isSameAs yX0_isSameAs, Cond.code yX0_isSameAs cX0_isSameAs 3 (some .boolean), Cond.methodLink RX3 108 yX0_init_]
def wsL_law0_r12 : List Cond := [Cond.instanceMethod yX0_init_, Cond.code yX0_init_ cX0_init_ 2 none, Cond.methodLink RX0 19 ⟨"[C", "clone", "()Ljava/lang/Object;"⟩, Cond.sameMethod "[C" "java/lang/Object" "clone" "()Ljava/lang/Object;", Cond.native ⟨"java/lang/Object", "clone", "()Ljava/lang/Object;"⟩, Cond.instanceMethod ⟨"java/lang/Object", "clone", "()Ljava/lang/Object;"⟩, Cond.selects "[C" ⟨"[C", "clone", "()Ljava/lang/Object;"⟩ ⟨"java/lang/Object", "clone", "()Ljava/lang/Object;"⟩, Cond.classLink RX0 20 "[C", Cond.methodLink RX0 24 ⟨"[I", "clone", "()Ljava/lang/Object;"⟩, Cond.sameMethod "[I" "java/lang/Object" "clone" "()Ljava/lang/Object;", Cond.selects "[I" ⟨"[I", "clone", "()Ljava/lang/Object;"⟩ ⟨"java/lang/Object", "clone", "()Ljava/lang/Object;"⟩, Cond.classLink RX0 25 "[I", Cond.methodLink RX3 114 yX2_init, Cond.instanceMethod yX2_init, Cond.code yX2_init cX2_init 6 none, Cond.methodLink RX2 3 objectInit, Cond.fieldLink RX2 9 "Politecrawl$Page" "number" "I", Cond.fieldLink RX2 15 "Politecrawl$Page" "host" "LPolitecrawl$Host;", Cond.fieldLink RX2 19 "Politecrawl$Page" "address" "LPolitecrawl$Address;", Cond.fieldLink RX2 29 "Politecrawl$Page" "lost" "Z", Cond.fieldLink RX2 33 "Politecrawl$Page" "rank" "I", Cond.fieldLink RX2 36 "Politecrawl$Page" "due" "I", Cond.methodLink RX2 23 yX0_repeatsItself, Cond.methodLink RL 112 yX4_find]
def wsL_law0_r13 : List Cond := [Cond.instanceMethod yX4_find, Cond.selects RX4 yX4_find yX4_find, Cond.code yX4_find cX4_find 4 (some .int), Cond.fieldLink RX4 76 "PolitecrawlModel" "pages" "I", Cond.fieldLink RX4 110 "PolitecrawlModel" "now" "I", Cond.methodLink RX4 107 yX4_isAddress, Cond.instanceMethod yX4_isAddress, Cond.selects RX4 yX4_isAddress yX4_isAddress, Cond.code yX4_isAddress cX4_isAddress 4 (some .boolean), Cond.methodLink RL 113 yL_setRank, Cond.static yL_setRank, Cond.codeWith yL_setRank cL_setRank 5 (some .int) [(0, 10, 13, 21), (0, 10, 17, 13)], Cond.methodLink RL 40 yX3_setRank, Cond.instanceMethod yX3_setRank, Cond.selects RX3 yX3_setRank yX3_setRank, Cond.code yX3_setRank cX3_setRank 5 (some .int), Cond.fieldLink RX3 121 "Politecrawl$Page" "rank" "I", Cond.methodLink RX3 117 yX3_knownPage, Cond.instanceMethod yX3_knownPage, Cond.selects RX3 yX3_knownPage yX3_knownPage, Cond.code yX3_knownPage cX3_knownPage 3 (some (.object "Politecrawl$Page")), Cond.methodLink RL 115 yX4_setRank, Cond.instanceMethod yX4_setRank, Cond.selects RX4 yX4_setRank yX4_setRank]
def wsL_law0_r14 : List Cond := [Cond.code yX4_setRank cX4_setRank 4 (some .int), Cond.methodLink RX4 79 yX4_isPage, Cond.instanceMethod yX4_isPage, Cond.selects RX4 yX4_isPage yX4_isPage, Cond.code yX4_isPage cX4_isPage 2 (some .boolean), Cond.methodLink RL 116 yX3_pages, Cond.instanceMethod yX3_pages, Cond.selects RX3 yX3_pages yX3_pages, Cond.code yX3_pages cX3_pages 1 (some .int), Cond.methodLink RL 119 yX4_pages, Cond.instanceMethod yX4_pages, Cond.selects RX4 yX4_pages yX4_pages, Cond.code yX4_pages cX4_pages 1 (some .int), Cond.methodLink RL 120 yL_dueAt, Cond.static yL_dueAt, Cond.codeWith yL_dueAt cL_dueAt 4 (some .int) [(0, 9, 12, 21)], Cond.methodLink RL 43 yX3_dueAt, Cond.instanceMethod yX3_dueAt, Cond.selects RX3 yX3_dueAt yX3_dueAt, Cond.code yX3_dueAt cX3_dueAt 3 (some .int), Cond.fieldLink RX3 127 "Politecrawl$Page" "due" "I", Cond.methodLink RX3 124 yX2_isKept, Cond.instanceMethod yX2_isKept, Cond.selects RX2 yX2_isKept yX2_isKept]
def wsL_law0_r15 : List Cond := [Cond.code yX2_isKept cX2_isKept 1 (some .boolean), Cond.fieldLink RX2 39 "Politecrawl$Page" "gone" "Z", Cond.methodLink RL 122 yX4_dueAt, Cond.instanceMethod yX4_dueAt, Cond.selects RX4 yX4_dueAt yX4_dueAt, Cond.code yX4_dueAt cX4_dueAt 2 (some .int), Cond.methodLink RX4 113 yX4_isAsked, Cond.instanceMethod yX4_isAsked, Cond.selects RX4 yX4_isAsked yX4_isAsked, Cond.code yX4_isAsked cX4_isAsked 2 (some .boolean), Cond.methodLink RX4 116 yX4_counts, Cond.instanceMethod yX4_counts, Cond.selects RX4 yX4_counts yX4_counts, Cond.code yX4_counts cX4_counts 2 (some .boolean), Cond.methodLink RL 123 yL_visits, Cond.static yL_visits, Cond.codeWith yL_visits cL_visits 4 (some .int) [(0, 9, 12, 21)], Cond.methodLink RL 46 yX3_visits, Cond.instanceMethod yX3_visits, Cond.selects RX3 yX3_visits yX3_visits, Cond.code yX3_visits cX3_visits 2 (some .int), Cond.fieldLink RX3 130 "Politecrawl$Page" "visits" "I", Cond.methodLink RL 125 yX4_visits, Cond.instanceMethod yX4_visits]
def wsL_law0_r16 : List Cond := [Cond.selects RX4 yX4_visits yX4_visits, Cond.code yX4_visits cX4_visits 2 (some .int), Cond.methodLink RL 126 yL_changes, Cond.static yL_changes, Cond.codeWith yL_changes cL_changes 4 (some .int) [(0, 9, 12, 21)], Cond.methodLink RL 49 yX3_changes, Cond.instanceMethod yX3_changes, Cond.selects RX3 yX3_changes yX3_changes, Cond.code yX3_changes cX3_changes 2 (some .int), Cond.fieldLink RX3 133 "Politecrawl$Page" "changes" "I", Cond.methodLink RL 128 yX4_changes, Cond.instanceMethod yX4_changes, Cond.selects RX4 yX4_changes yX4_changes, Cond.code yX4_changes cX4_changes 2 (some .int), Cond.methodLink RL 129 yL_mayVisit, Cond.static yL_mayVisit, Cond.codeWith yL_mayVisit cL_mayVisit 4 (some .int) [(0, 16, 19, 21)], Cond.methodLink RL 52 yX3_mayVisit, Cond.instanceMethod yX3_mayVisit, Cond.selects RX3 yX3_mayVisit yX3_mayVisit, Cond.code yX3_mayVisit cX3_mayVisit 2 (some .boolean), Cond.methodLink RX3 136 yX3_isReady, Cond.instanceMethod yX3_isReady, Cond.selects RX3 yX3_isReady yX3_isReady]
def wsL_law0_r17 : List Cond := [Cond.code yX3_isReady cX3_isReady 2 (some .boolean), Cond.methodLink RX3 184 yX3_readyFrom, Cond.instanceMethod yX3_readyFrom, Cond.selects RX3 yX3_readyFrom yX3_readyFrom, Cond.code yX3_readyFrom cX3_readyFrom 3 (some .int), Cond.methodLink RX3 178 Lib.Math.max.name, Cond.static Lib.Math.max.name, Cond.initialized "java/lang/Math", Cond.code Lib.Math.max.name Lib.Math.max.code 2 (some .int), Cond.methodLink RX3 217 yX3_budgetLeft, Cond.instanceMethod yX3_budgetLeft, Cond.selects RX3 yX3_budgetLeft yX3_budgetLeft, Cond.code yX3_budgetLeft cX3_budgetLeft 1 (some .int), Cond.fieldLink RX3 155 "Politecrawl" "visitsInSpan" "I", Cond.methodLink RX3 174 yX3_startOfNextSpan, Cond.instanceMethod yX3_startOfNextSpan, Cond.selects RX3 yX3_startOfNextSpan yX3_startOfNextSpan, Cond.code yX3_startOfNextSpan cX3_startOfNextSpan 1 (some .int), Cond.methodLink RL 131 yX4_mayVisit, Cond.instanceMethod yX4_mayVisit, Cond.selects RX4 yX4_mayVisit yX4_mayVisit, Cond.code yX4_mayVisit cX4_mayVisit 2 (some .boolean), Cond.methodLink RX4 129 yX4_isOpen, Cond.instanceMethod yX4_isOpen]
def wsL_law0_r18 : List Cond := [Cond.selects RX4 yX4_isOpen yX4_isOpen, Cond.code yX4_isOpen cX4_isOpen 2 (some .boolean), Cond.methodLink RX4 125 yX4_left, Cond.instanceMethod yX4_left, Cond.selects RX4 yX4_left yX4_left, Cond.code yX4_left cX4_left 2 (some .int), Cond.fieldLink RX4 119 "PolitecrawlModel" "span" "I", Cond.fieldLink RX4 122 "PolitecrawlModel" "used" "I", Cond.methodLink RL 132 yX3_next, Cond.instanceMethod yX3_next, Cond.selects RX3 yX3_next yX3_next, Cond.code yX3_next cX3_next 6 (some .int), Cond.methodLink RX3 140 yX3_firstOfHost, Cond.instanceMethod yX3_firstOfHost, Cond.selects RX3 yX3_firstOfHost yX3_firstOfHost, Cond.code yX3_firstOfHost cX3_firstOfHost 7 (some (.object "Politecrawl$Page")), Cond.methodLink RX3 143 yX3_earlier, Cond.instanceMethod yX3_earlier, Cond.selects RX3 yX3_earlier yX3_earlier, Cond.code yX3_earlier cX3_earlier 3 (some (.object "Politecrawl$Page")), Cond.methodLink RX3 220 yX3_goesBefore, Cond.instanceMethod yX3_goesBefore, Cond.selects RX3 yX3_goesBefore yX3_goesBefore, Cond.code yX3_goesBefore cX3_goesBefore 5 (some .boolean)]
def wsL_law0_r19 : List Cond := [Cond.methodLink RX3 224 yX2_pressing, Cond.instanceMethod yX2_pressing, Cond.selects RX2 yX2_pressing yX2_pressing, Cond.code yX2_pressing cX2_pressing 2 (some .int), Cond.methodLink RX3 147 yX3_numberOf, Cond.static yX3_numberOf, Cond.code yX3_numberOf cX3_numberOf 1 (some .int), Cond.methodLink RL 135 yX4_next, Cond.instanceMethod yX4_next, Cond.selects RX4 yX4_next yX4_next, Cond.code yX4_next cX4_next 1 (some .int), Cond.methodLink RX4 132 yX4_best, Cond.instanceMethod yX4_best, Cond.selects RX4 yX4_best yX4_best, Cond.code yX4_best cX4_best 6 (some .int), Cond.methodLink RL 136 yX3_nextByScan, Cond.instanceMethod yX3_nextByScan, Cond.selects RX3 yX3_nextByScan yX3_nextByScan, Cond.code yX3_nextByScan cX3_nextByScan 6 (some .int), Cond.methodLink RL 139 yX4_nextByScan, Cond.instanceMethod yX4_nextByScan, Cond.selects RX4 yX4_nextByScan yX4_nextByScan, Cond.code yX4_nextByScan cX4_nextByScan 1 (some .int), Cond.methodLink RL 140 yL_visit]
def wsL_law0_r20 : List Cond := [Cond.static yL_visit, Cond.codeWith yL_visit cL_visit 5 (some .int) [(0, 10, 13, 21), (0, 10, 17, 13), (0, 10, 21, 15)], Cond.methodLink RL 56 yX3_visit, Cond.instanceMethod yX3_visit, Cond.selects RX3 yX3_visit yX3_visit, Cond.code yX3_visit cX3_visit 4 (some .int), Cond.methodLink RX3 158 yX3_settle, Cond.instanceMethod yX3_settle, Cond.selects RX3 yX3_settle yX3_settle, Cond.code yX3_settle cX3_settle 3 none, Cond.fieldLink RX3 228 "Politecrawl$Page" "gone" "Z", Cond.methodLink RX3 232 yX3_paceOf, Cond.instanceMethod yX3_paceOf, Cond.selects RX3 yX3_paceOf yX3_paceOf, Cond.code yX3_paceOf cX3_paceOf 2 (some .int), Cond.methodLink RX3 187 Lib.Math.min.name, Cond.static Lib.Math.min.name, Cond.code Lib.Math.min.name Lib.Math.min.code 2 (some .int), Cond.methodLink RX3 235 yX3_dividedUp, Cond.static yX3_dividedUp, Cond.code yX3_dividedUp cX3_dividedUp 2 (some .int), Cond.methodLink RX3 166 yX1_restFrom, Cond.instanceMethod yX1_restFrom, Cond.selects RX1 yX1_restFrom yX1_restFrom]
def wsL_law0_r21 : List Cond := [Cond.code yX1_restFrom cX1_restFrom 2 none, Cond.fieldLink RX1 15 "Politecrawl$Host" "failures" "I", Cond.methodLink RX1 18 Lib.Math.min.name, Cond.fieldLink RX1 24 "Politecrawl$Host" "openFrom" "I", Cond.methodLink RL 142 yX4_visit, Cond.instanceMethod yX4_visit, Cond.selects RX4 yX4_visit yX4_visit, Cond.code yX4_visit cX4_visit 5 (some .int), Cond.methodLink RL 143 yL_pass, Cond.static yL_pass, Cond.codeWith yL_pass cL_pass 4 (some .int) [(0, 9, 12, 13), (0, 9, 15, 15)], Cond.methodLink RL 59 yX3_pass, Cond.instanceMethod yX3_pass, Cond.selects RX3 yX3_pass yX3_pass, Cond.code yX3_pass cX3_pass 2 (some .int), Cond.constant RX3 171 (100000), Cond.methodLink RL 145 yX4_pass, Cond.instanceMethod yX4_pass, Cond.selects RX4 yX4_pass yX4_pass, Cond.code yX4_pass cX4_pass 2 (some .int), Cond.constant RX4 135 (100000), Cond.methodLink RL 146 yX3_now, Cond.instanceMethod yX3_now, Cond.selects RX3 yX3_now yX3_now]
def wsL_law0_r22 : List Cond := [Cond.code yX3_now cX3_now 1 (some .int), Cond.methodLink RL 149 yX4_now, Cond.instanceMethod yX4_now, Cond.selects RX4 yX4_now yX4_now, Cond.code yX4_now cX4_now 1 (some .int), Cond.methodLink RL 150 yX3_budgetLeft, Cond.methodLink RL 153 yX4_budgetLeft, Cond.instanceMethod yX4_budgetLeft, Cond.selects RX4 yX4_budgetLeft yX4_budgetLeft, Cond.code yX4_budgetLeft cX4_budgetLeft 1 (some .int), Cond.methodLink RL 154 yX3_waiting, Cond.instanceMethod yX3_waiting, Cond.selects RX3 yX3_waiting yX3_waiting, Cond.code yX3_waiting cX3_waiting 7 (some .int), Cond.methodLink RL 157 yX4_waiting, Cond.instanceMethod yX4_waiting, Cond.selects RX4 yX4_waiting yX4_waiting, Cond.code yX4_waiting cX4_waiting 4 (some .int), Cond.methodLink RL 158 yL_share, Cond.static yL_share, Cond.codeWith yL_share cL_share 5 (some .int) [(0, 10, 13, 21), (0, 10, 17, 13)], Cond.methodLink RL 62 yX3_share, Cond.instanceMethod yX3_share, Cond.selects RX3 yX3_share yX3_share]
def wsL_law0_r23 : List Cond := [Cond.code yX3_share cX3_share 5 (some .int), Cond.fieldLink RX3 198 "Politecrawl$Page" "spread" "I", Cond.methodLink RX3 192 yX3_forgetSpread, Cond.instanceMethod yX3_forgetSpread, Cond.selects RX3 yX3_forgetSpread yX3_forgetSpread, Cond.code yX3_forgetSpread cX3_forgetSpread 5 none, Cond.methodLink RX3 195 yX3_spreadOneVisit, Cond.instanceMethod yX3_spreadOneVisit, Cond.selects RX3 yX3_spreadOneVisit yX3_spreadOneVisit, Cond.code yX3_spreadOneVisit cX3_spreadOneVisit 6 none, Cond.methodLink RX3 238 yX2_gainsMoreThan, Cond.instanceMethod yX2_gainsMoreThan, Cond.selects RX2 yX2_gainsMoreThan yX2_gainsMoreThan, Cond.code yX2_gainsMoreThan cX2_gainsMoreThan 2 (some .boolean), Cond.methodLink RX2 42 yX2_gainAbove, Cond.instanceMethod yX2_gainAbove, Cond.selects RX2 yX2_gainAbove yX2_gainAbove, Cond.code yX2_gainAbove cX2_gainAbove 1 (some .long), Cond.fieldLink RX2 49 "Politecrawl$Page" "changes" "I", Cond.methodLink RX2 46 yX2_gainBelow, Cond.instanceMethod yX2_gainBelow, Cond.selects RX2 yX2_gainBelow yX2_gainBelow, Cond.code yX2_gainBelow cX2_gainBelow 1 (some .long), Cond.fieldLink RX2 52 "Politecrawl$Page" "spread" "I"]
def wsL_law0_r24 : List Cond := [Cond.constantLong RX2 55 (2), Cond.methodLink RL 160 yX4_share, Cond.instanceMethod yX4_share, Cond.selects RX4 yX4_share yX4_share, Cond.code yX4_share cX4_share 6 (some .int), Cond.methodLink RX4 138 yX4_addsMore, Cond.instanceMethod yX4_addsMore, Cond.selects RX4 yX4_addsMore yX4_addsMore, Cond.code yX4_addsMore cX4_addsMore 11 (some .boolean), Cond.constantLong RX4 136 (2)]
def wsL_law0 : List Cond := (wsL_law0_r1 ++ (wsL_law0_r2 ++ (wsL_law0_r3 ++ (wsL_law0_r4 ++ (wsL_law0_r5 ++ (wsL_law0_r6 ++ (wsL_law0_r7 ++ (wsL_law0_r8 ++ (wsL_law0_r9 ++ (wsL_law0_r10 ++ (wsL_law0_r11 ++ (wsL_law0_r12 ++ (wsL_law0_r13 ++ (wsL_law0_r14 ++ (wsL_law0_r15 ++ (wsL_law0_r16 ++ (wsL_law0_r17 ++ (wsL_law0_r18 ++ (wsL_law0_r19 ++ (wsL_law0_r20 ++ (wsL_law0_r21 ++ (wsL_law0_r22 ++ (wsL_law0_r23 ++ wsL_law0_r24))))))))))))))))))))))) ++ wsX30 ++ wsX40 ++ wsX00 ++ wsX10 ++ wsX20 ++ ([] : List Cond)
def wsL_law : List Cond := wsL_law0 ++ (vx_atS RX3 43 "java/lang/IllegalArgumentException" ["java/lang/RuntimeException", "java/lang/Exception"]).filter goodWord ++ (vx_atS RX3 54 "java/lang/IllegalStateException" ["java/lang/RuntimeException", "java/lang/Exception"]).filter goodWord ++ (vx_atS RX3 205 "java/lang/IndexOutOfBoundsException" ["java/lang/RuntimeException", "java/lang/Exception"]).filter goodWord
abbrev vwCl : List vw_C := [(RX0, TX0, 4), (RX1, TX1, 3), (RX2, TX2, 10), (RX3, TX3, 9), (RX4, TX4, 26)]
end
section
set_option maxRecDepth 20000 in
theorem lawin_1 : ∀ w ∈ wsL_law0_r1, w ∈ lw_tbl := fun w h => (goodIn_p wsL_law0_r1 [49, 52] rfl (by decide +kernel) w h).1
set_option maxRecDepth 20000 in
theorem lawin_2 : ∀ w ∈ wsL_law0_r2, w ∈ lw_tbl := fun w h => (goodIn_p wsL_law0_r2 [57, 81, 581] rfl (by decide +kernel) w h).1
set_option maxRecDepth 20000 in
theorem lawin_3 : ∀ w ∈ wsL_law0_r3, w ∈ lw_tbl := fun w h => (goodIn_p wsL_law0_r3 [236] rfl (by decide +kernel) w h).1
set_option maxRecDepth 20000 in
theorem lawin_4 : ∀ w ∈ wsL_law0_r4, w ∈ lw_tbl := fun w h => (goodIn_p wsL_law0_r4 [308, 328, 161, 332] rfl (by decide +kernel) w h).1
set_option maxRecDepth 20000 in
theorem lawin_5 : ∀ w ∈ wsL_law0_r5, w ∈ lw_tbl := fun w h => (goodIn_p wsL_law0_r5 [670, 673, 677, 666, 129, 133] rfl (by decide +kernel) w h).1
set_option maxRecDepth 20000 in
theorem lawin_6 : ∀ w ∈ wsL_law0_r6, w ∈ lw_tbl := fun w h => (goodIn_p wsL_law0_r6 [681, 137, 685, 689, 141] rfl (by decide +kernel) w h).1
set_option maxRecDepth 20000 in
theorem lawin_7 : ∀ w ∈ wsL_law0_r7, w ∈ lw_tbl := fun w h => (goodIn_p wsL_law0_r7 [145, 149, 153, 157, 693, 697] rfl (by decide +kernel) w h).1
set_option maxRecDepth 20000 in
theorem lawin_8 : ∀ w ∈ wsL_law0_r8, w ∈ lw_tbl := fun w h => (goodIn_p wsL_law0_r8 [701, 340, 344, 705, 708] rfl (by decide +kernel) w h).1
set_option maxRecDepth 20000 in
theorem lawin_9 : ∀ w ∈ wsL_law0_r9, w ∈ lw_tbl := fun w h => (goodIn_p wsL_law0_r9 [368, 712, 377, 716] rfl (by decide +kernel) w h).1
set_option maxRecDepth 20000 in
theorem lawin_10 : ∀ w ∈ wsL_law0_r10, w ∈ lw_tbl := fun w h => (goodIn_p wsL_law0_r10 [385, 720, 392, 724] rfl (by decide +kernel) w h).1
set_option maxRecDepth 20000 in
theorem lawin_11 : ∀ w ∈ wsL_law0_r11, w ∈ lw_tbl := fun w h => (goodIn_p wsL_law0_r11 [399, 402, 407, 411] rfl (by decide +kernel) w h).1
set_option maxRecDepth 20000 in
theorem lawin_12 : ∀ w ∈ wsL_law0_r12, w ∈ lw_tbl := fun w h => (goodIn_p wsL_law0_r12 [416, 431] rfl (by decide +kernel) w h).1
set_option maxRecDepth 20000 in
theorem lawin_13 : ∀ w ∈ wsL_law0_r13, w ∈ lw_tbl := fun w h => (goodIn_p wsL_law0_r13 [728, 732, 479, 483] rfl (by decide +kernel) w h).1
set_option maxRecDepth 20000 in
theorem lawin_14 : ∀ w ∈ wsL_law0_r14, w ∈ lw_tbl := fun w h => (goodIn_p wsL_law0_r14 [736, 740, 165, 744, 491] rfl (by decide +kernel) w h).1
set_option maxRecDepth 20000 in
theorem lawin_15 : ∀ w ∈ wsL_law0_r15, w ∈ lw_tbl := fun w h => (goodIn_p wsL_law0_r15 [181, 748, 752, 756, 498] rfl (by decide +kernel) w h).1
set_option maxRecDepth 20000 in
theorem lawin_16 : ∀ w ∈ wsL_law0_r16, w ∈ lw_tbl := fun w h => (goodIn_p wsL_law0_r16 [760, 505, 764, 512] rfl (by decide +kernel) w h).1
set_option maxRecDepth 20000 in
theorem lawin_17 : ∀ w ∈ wsL_law0_r17, w ∈ lw_tbl := fun w h => (goodIn_p wsL_law0_r17 [177, 185, 192, 189, 196, 768] rfl (by decide +kernel) w h).1
set_option maxRecDepth 20000 in
theorem lawin_18 : ∀ w ∈ wsL_law0_r18, w ∈ lw_tbl := fun w h => (goodIn_p wsL_law0_r18 [772, 776, 169, 173, 200, 204] rfl (by decide +kernel) w h).1
set_option maxRecDepth 20000 in
theorem lawin_19 : ∀ w ∈ wsL_law0_r19, w ∈ lw_tbl := fun w h => (goodIn_p wsL_law0_r19 [208, 211, 780, 784, 215, 788] rfl (by decide +kernel) w h).1
set_option maxRecDepth 20000 in
theorem lawin_20 : ∀ w ∈ wsL_law0_r20, w ∈ lw_tbl := fun w h => (goodIn_p wsL_law0_r20 [519, 525, 529, 227, 532] rfl (by decide +kernel) w h).1
set_option maxRecDepth 20000 in
theorem lawin_21 : ∀ w ∈ wsL_law0_r21, w ∈ lw_tbl := fun w h => (goodIn_p wsL_law0_r21 [536, 792, 544, 796] rfl (by decide +kernel) w h).1
set_option maxRecDepth 20000 in
theorem lawin_22 : ∀ w ∈ wsL_law0_r22, w ∈ lw_tbl := fun w h => (goodIn_p wsL_law0_r22 [219, 801, 805, 224, 809] rfl (by decide +kernel) w h).1
set_option maxRecDepth 20000 in
theorem lawin_23 : ∀ w ∈ wsL_law0_r23, w ∈ lw_tbl := fun w h => (goodIn_p wsL_law0_r23 [554, 559, 563, 567, 571, 575] rfl (by decide +kernel) w h).1
set_option maxRecDepth 20000 in
theorem lawin_24 : ∀ w ∈ wsL_law0_r24, w ∈ lw_tbl := fun w h => (goodIn_p wsL_law0_r24 [813, 817] rfl (by decide +kernel) w h).1
theorem lawin_X3 : ∀ w ∈ wsX30, w ∈ lw_tbl := by decide +kernel
theorem lawin_X4 : ∀ w ∈ wsX40, w ∈ lw_tbl := by decide +kernel
theorem lawin_X0 : ∀ w ∈ wsX00, w ∈ lw_tbl := by decide +kernel
theorem lawin_X1 : ∀ w ∈ wsX10, w ∈ lw_tbl := by decide +kernel
theorem lawin_X2 : ∀ w ∈ wsX20, w ∈ lw_tbl := by decide +kernel
theorem lawin_rs : ∀ w ∈ (wsL_law0_r1 ++ (wsL_law0_r2 ++ (wsL_law0_r3 ++ (wsL_law0_r4 ++ (wsL_law0_r5 ++ (wsL_law0_r6 ++ (wsL_law0_r7 ++ (wsL_law0_r8 ++ (wsL_law0_r9 ++ (wsL_law0_r10 ++ (wsL_law0_r11 ++ (wsL_law0_r12 ++ (wsL_law0_r13 ++ (wsL_law0_r14 ++ (wsL_law0_r15 ++ (wsL_law0_r16 ++ (wsL_law0_r17 ++ (wsL_law0_r18 ++ (wsL_law0_r19 ++ (wsL_law0_r20 ++ (wsL_law0_r21 ++ (wsL_law0_r22 ++ (wsL_law0_r23 ++ wsL_law0_r24))))))))))))))))))))))), w ∈ lw_tbl := fun w h => (fun h => (List.mem_append.mp h).elim (lawin_1 w) (fun h => (List.mem_append.mp h).elim (lawin_2 w) (fun h => (List.mem_append.mp h).elim (lawin_3 w) (fun h => (List.mem_append.mp h).elim (lawin_4 w) (fun h => (List.mem_append.mp h).elim (lawin_5 w) (fun h => (List.mem_append.mp h).elim (lawin_6 w) (fun h => (List.mem_append.mp h).elim (lawin_7 w) (fun h => (List.mem_append.mp h).elim (lawin_8 w) (fun h => (List.mem_append.mp h).elim (lawin_9 w) (fun h => (List.mem_append.mp h).elim (lawin_10 w) (fun h => (List.mem_append.mp h).elim (lawin_11 w) (fun h => (List.mem_append.mp h).elim (lawin_12 w) (fun h => (List.mem_append.mp h).elim (lawin_13 w) (fun h => (List.mem_append.mp h).elim (lawin_14 w) (fun h => (List.mem_append.mp h).elim (lawin_15 w) (fun h => (List.mem_append.mp h).elim (lawin_16 w) (fun h => (List.mem_append.mp h).elim (lawin_17 w) (fun h => (List.mem_append.mp h).elim (lawin_18 w) (fun h => (List.mem_append.mp h).elim (lawin_19 w) (fun h => (List.mem_append.mp h).elim (lawin_20 w) (fun h => (List.mem_append.mp h).elim (lawin_21 w) (fun h => (List.mem_append.mp h).elim (lawin_22 w) (fun h => (List.mem_append.mp h).elim (lawin_23 w) (lawin_24 w)))))))))))))))))))))))) h
theorem wsL_law_in0 : ∀ w ∈ wsL_law0, w ∈ lw_tbl := fun w h => (List.mem_append.mp h).elim (fun h => (List.mem_append.mp h).elim (fun h => (List.mem_append.mp h).elim (fun h => (List.mem_append.mp h).elim (fun h => (List.mem_append.mp h).elim (fun h => (List.mem_append.mp h).elim (lawin_rs w) (lawin_X3 w)) (lawin_X4 w)) (lawin_X0 w)) (lawin_X1 w)) (lawin_X2 w)) (fun h => nomatch h)
theorem wsL_law_x0 : ∀ w ∈ (vx_atS RX3 43 "java/lang/IllegalArgumentException" ["java/lang/RuntimeException", "java/lang/Exception"]).filter goodWord, w ∈ lw_tbl := by decide +kernel
theorem wsL_law_x1 : ∀ w ∈ (vx_atS RX3 54 "java/lang/IllegalStateException" ["java/lang/RuntimeException", "java/lang/Exception"]).filter goodWord, w ∈ lw_tbl := by decide +kernel
theorem wsL_law_x2 : ∀ w ∈ (vx_atS RX3 205 "java/lang/IndexOutOfBoundsException" ["java/lang/RuntimeException", "java/lang/Exception"]).filter goodWord, w ∈ lw_tbl := by decide +kernel
theorem wsL_law_in : ∀ w ∈ wsL_law, w ∈ lw_tbl := fun w h => (List.mem_append.mp h).elim (fun h => (List.mem_append.mp h).elim (fun h => (List.mem_append.mp h).elim (fun h => wsL_law_in0 w h) (fun h => wsL_law_x0 w h)) (fun h => wsL_law_x1 w h)) (fun h => wsL_law_x2 w h)
theorem inlX0 : ∀ w ∈ wsX00, w ∈ wsL_law := fun _ h => List.mem_append_left _ (List.mem_append_left _ (List.mem_append_left _ (List.mem_append_left _ (List.mem_append_left _ (List.mem_append_left _ (List.mem_append_right _ h))))))
theorem inX0 : ∀ w ∈ wsX00, w ∈ lw_tbl := fun w h => wsL_law_in w (inlX0 w h)
theorem inlX1 : ∀ w ∈ wsX10, w ∈ wsL_law := fun _ h => List.mem_append_left _ (List.mem_append_left _ (List.mem_append_left _ (List.mem_append_left _ (List.mem_append_left _ (List.mem_append_right _ h)))))
theorem inX1 : ∀ w ∈ wsX10, w ∈ lw_tbl := fun w h => wsL_law_in w (inlX1 w h)
theorem inlX2 : ∀ w ∈ wsX20, w ∈ wsL_law := fun _ h => List.mem_append_left _ (List.mem_append_left _ (List.mem_append_left _ (List.mem_append_left _ (List.mem_append_right _ h))))
theorem inX2 : ∀ w ∈ wsX20, w ∈ lw_tbl := fun w h => wsL_law_in w (inlX2 w h)
theorem inlX3 : ∀ w ∈ wsX30, w ∈ wsL_law := fun _ h => List.mem_append_left _ (List.mem_append_left _ (List.mem_append_left _ (List.mem_append_left _ (List.mem_append_left _ (List.mem_append_left _ (List.mem_append_left _ (List.mem_append_left _ (List.mem_append_right _ h))))))))
theorem inX3 : ∀ w ∈ wsX30, w ∈ lw_tbl := fun w h => wsL_law_in w (inlX3 w h)
theorem inlX4 : ∀ w ∈ wsX40, w ∈ wsL_law := fun _ h => List.mem_append_left _ (List.mem_append_left _ (List.mem_append_left _ (List.mem_append_left _ (List.mem_append_left _ (List.mem_append_left _ (List.mem_append_left _ (List.mem_append_right _ h)))))))
theorem inX4 : ∀ w ∈ wsX40, w ∈ lw_tbl := fun w h => wsL_law_in w (inlX4 w h)
theorem inJx8e188 : ∀ w ∈ wsJx8e1880, w ∈ lw_tbl := by decide +kernel
theorem inJ9 : ∀ w ∈ wsJ90, w ∈ lw_tbl := by decide +kernel
theorem inJ0 : ∀ w ∈ wsJ00, w ∈ lw_tbl := by decide +kernel
end
section
theorem dX0_init_0 : decode cX0_init 0 = .ok (.aload_n 0, 1) := by decide +kernel
theorem dX0_init_1 : decode cX0_init 1 = .ok (.invokespecial 3, 3) := by decide +kernel
theorem dX0_init_4 : decode cX0_init 4 = .ok (.aload_n 0, 1) := by decide +kernel
theorem dX0_init_5 : decode cX0_init 5 = .ok (.bipush 30, 2) := by decide +kernel
theorem dX0_init_7 : decode cX0_init 7 = .ok (.newarray .char, 2) := by decide +kernel
theorem dX0_init_9 : decode cX0_init 9 = .ok (.putfield 9, 3) := by decide +kernel
theorem dX0_init_12 : decode cX0_init 12 = .ok (.aload_n 0, 1) := by decide +kernel
theorem dX0_init_13 : decode cX0_init 13 = .ok (.bipush 30, 2) := by decide +kernel
theorem dX0_init_15 : decode cX0_init 15 = .ok (.newarray .int, 2) := by decide +kernel
theorem dX0_init_17 : decode cX0_init 17 = .ok (.putfield 15, 3) := by decide +kernel
theorem dX0_init_20 : decode cX0_init 20 = .ok (.return_, 1) := by decide +kernel
theorem dX0_init__0 : decode cX0_init_ 0 = .ok (.aload_n 0, 1) := by decide +kernel
theorem dX0_init__1 : decode cX0_init_ 1 = .ok (.invokespecial 3, 3) := by decide +kernel
theorem dX0_init__4 : decode cX0_init_ 4 = .ok (.aload_n 0, 1) := by decide +kernel
theorem dX0_init__5 : decode cX0_init_ 5 = .ok (.aload_n 1, 1) := by decide +kernel
theorem dX0_init__6 : decode cX0_init_ 6 = .ok (.getfield 9, 3) := by decide +kernel
theorem dX0_init__9 : decode cX0_init_ 9 = .ok (.invokevirtual 19, 3) := by decide +kernel
theorem dX0_init__12 : decode cX0_init_ 12 = .ok (.checkcast 20, 3) := by decide +kernel
theorem dX0_init__15 : decode cX0_init_ 15 = .ok (.putfield 9, 3) := by decide +kernel
theorem dX0_init__18 : decode cX0_init_ 18 = .ok (.aload_n 0, 1) := by decide +kernel
theorem dX0_init__19 : decode cX0_init_ 19 = .ok (.aload_n 1, 1) := by decide +kernel
theorem dX0_init__20 : decode cX0_init_ 20 = .ok (.getfield 15, 3) := by decide +kernel
theorem dX0_init__23 : decode cX0_init_ 23 = .ok (.invokevirtual 24, 3) := by decide +kernel
theorem dX0_init__26 : decode cX0_init_ 26 = .ok (.checkcast 25, 3) := by decide +kernel
theorem dX0_init__29 : decode cX0_init_ 29 = .ok (.putfield 15, 3) := by decide +kernel
theorem dX0_init__32 : decode cX0_init_ 32 = .ok (.aload_n 0, 1) := by decide +kernel
theorem dX0_init__33 : decode cX0_init_ 33 = .ok (.aload_n 1, 1) := by decide +kernel
theorem dX0_init__34 : decode cX0_init_ 34 = .ok (.getfield 26, 3) := by decide +kernel
theorem dX0_init__37 : decode cX0_init_ 37 = .ok (.putfield 26, 3) := by decide +kernel
theorem dX0_init__40 : decode cX0_init_ 40 = .ok (.aload_n 0, 1) := by decide +kernel
theorem dX0_init__41 : decode cX0_init_ 41 = .ok (.aload_n 1, 1) := by decide +kernel
theorem dX0_init__42 : decode cX0_init_ 42 = .ok (.getfield 30, 3) := by decide +kernel
theorem dX0_init__45 : decode cX0_init_ 45 = .ok (.putfield 30, 3) := by decide +kernel
theorem dX0_init__48 : decode cX0_init_ 48 = .ok (.return_, 1) := by decide +kernel
theorem dX0_isFull_0 : decode cX0_isFull 0 = .ok (.aload_n 0, 1) := by decide +kernel
theorem dX0_isFull_1 : decode cX0_isFull 1 = .ok (.getfield 26, 3) := by decide +kernel
theorem dX0_isFull_4 : decode cX0_isFull 4 = .ok (.aload_n 0, 1) := by decide +kernel
theorem dX0_isFull_5 : decode cX0_isFull 5 = .ok (.getfield 9, 3) := by decide +kernel
theorem dX0_isFull_8 : decode cX0_isFull 8 = .ok (.arraylength, 1) := by decide +kernel
theorem dX0_isFull_9 : decode cX0_isFull 9 = .ok (.if_icmp .lt 7, 3) := by decide +kernel
theorem dX0_isFull_12 : decode cX0_isFull 12 = .ok (.iconst 1, 1) := by decide +kernel
theorem dX0_isFull_13 : decode cX0_isFull 13 = .ok (.goto 4, 3) := by decide +kernel
theorem dX0_isFull_16 : decode cX0_isFull 16 = .ok (.iconst 0, 1) := by decide +kernel
theorem dX0_isFull_17 : decode cX0_isFull 17 = .ok (.ireturn, 1) := by decide +kernel
set_option maxRecDepth 20000 in
theorem ggX0_add_X0_at : GoodIn wsX0_add wsX0_at := goodIn_r _ [7, 1, 2, 14, 15, 16, 17] (by decide +kernel) (by decide +kernel)
set_option maxRecDepth 20000 in
theorem gX0_add_X0_at : GoodIn wsX0_add (wsV RX0 33 RX0 yX0_at wsX0_at) := goodIn_app (goodIn_of _ (by decide +kernel)) ggX0_add_X0_at
set_option maxRecDepth 20000 in
theorem ggX0_add_X0_startSegment : GoodIn wsX0_add wsX0_startSegment := goodIn_r _ [11, 12, 13, 1, 14, 15, 16, 17] (by decide +kernel) (by decide +kernel)
set_option maxRecDepth 20000 in
theorem gX0_add_X0_startSegment : GoodIn wsX0_add (wsV RX0 37 RX0 yX0_startSegment wsX0_startSegment) := goodIn_app (goodIn_of _ (by decide +kernel)) ggX0_add_X0_startSegment
theorem dX0_add_0 : decode cX0_add 0 = .ok (.aload_n 0, 1) := by decide +kernel
theorem dX0_add_1 : decode cX0_add 1 = .ok (.getfield 26, 3) := by decide +kernel
theorem dX0_add_4 : decode cX0_add 4 = .ok (.ifCond .lt 15, 3) := by decide +kernel
theorem dX0_add_7 : decode cX0_add 7 = .ok (.aload_n 0, 1) := by decide +kernel
theorem dX0_add_8 : decode cX0_add 8 = .ok (.getfield 26, 3) := by decide +kernel
theorem dX0_add_11 : decode cX0_add 11 = .ok (.aload_n 0, 1) := by decide +kernel
theorem dX0_add_12 : decode cX0_add 12 = .ok (.getfield 9, 3) := by decide +kernel
theorem dX0_add_15 : decode cX0_add 15 = .ok (.arraylength, 1) := by decide +kernel
theorem dX0_add_16 : decode cX0_add 16 = .ok (.if_icmp .lt 4, 3) := by decide +kernel
theorem dX0_add_19 : decode cX0_add 19 = .ok (.return_, 1) := by decide +kernel
theorem dX0_add_20 : decode cX0_add 20 = .ok (.iload_n 1, 1) := by decide +kernel
theorem dX0_add_21 : decode cX0_add 21 = .ok (.bipush 47, 2) := by decide +kernel
theorem dX0_add_23 : decode cX0_add 23 = .ok (.if_icmp .eq 22, 3) := by decide +kernel
theorem dX0_add_26 : decode cX0_add 26 = .ok (.aload_n 0, 1) := by decide +kernel
theorem dX0_add_27 : decode cX0_add 27 = .ok (.aload_n 0, 1) := by decide +kernel
theorem dX0_add_28 : decode cX0_add 28 = .ok (.getfield 26, 3) := by decide +kernel
theorem dX0_add_31 : decode cX0_add 31 = .ok (.iconst 1, 1) := by decide +kernel
theorem dX0_add_32 : decode cX0_add 32 = .ok (.isub, 1) := by decide +kernel
theorem dX0_add_33 : decode cX0_add 33 = .ok (.invokevirtual 33, 3) := by decide +kernel
theorem dX0_add_36 : decode cX0_add 36 = .ok (.bipush 47, 2) := by decide +kernel
theorem dX0_add_38 : decode cX0_add 38 = .ok (.if_icmp .ne 7, 3) := by decide +kernel
theorem dX0_add_41 : decode cX0_add 41 = .ok (.aload_n 0, 1) := by decide +kernel
theorem dX0_add_42 : decode cX0_add 42 = .ok (.invokevirtual 37, 3) := by decide +kernel
theorem dX0_add_45 : decode cX0_add 45 = .ok (.aload_n 0, 1) := by decide +kernel
theorem dX0_add_46 : decode cX0_add 46 = .ok (.getfield 9, 3) := by decide +kernel
theorem dX0_add_49 : decode cX0_add 49 = .ok (.aload_n 0, 1) := by decide +kernel
theorem dX0_add_50 : decode cX0_add 50 = .ok (.getfield 26, 3) := by decide +kernel
theorem dX0_add_53 : decode cX0_add 53 = .ok (.iload_n 1, 1) := by decide +kernel
theorem dX0_add_54 : decode cX0_add 54 = .ok (.castore, 1) := by decide +kernel
theorem dX0_add_55 : decode cX0_add 55 = .ok (.aload_n 0, 1) := by decide +kernel
theorem dX0_add_56 : decode cX0_add 56 = .ok (.dup, 1) := by decide +kernel
theorem dX0_add_57 : decode cX0_add 57 = .ok (.getfield 26, 3) := by decide +kernel
theorem dX0_add_60 : decode cX0_add 60 = .ok (.iconst 1, 1) := by decide +kernel
theorem dX0_add_61 : decode cX0_add 61 = .ok (.iadd, 1) := by decide +kernel
theorem dX0_add_62 : decode cX0_add 62 = .ok (.putfield 26, 3) := by decide +kernel
theorem dX0_add_65 : decode cX0_add 65 = .ok (.return_, 1) := by decide +kernel
theorem dX0_empty_0 : decode cX0_empty 0 = .ok (.aload_n 0, 1) := by decide +kernel
theorem dX0_empty_1 : decode cX0_empty 1 = .ok (.iconst 0, 1) := by decide +kernel
theorem dX0_empty_2 : decode cX0_empty 2 = .ok (.putfield 26, 3) := by decide +kernel
theorem dX0_empty_5 : decode cX0_empty 5 = .ok (.aload_n 0, 1) := by decide +kernel
theorem dX0_empty_6 : decode cX0_empty 6 = .ok (.iconst 0, 1) := by decide +kernel
theorem dX0_empty_7 : decode cX0_empty 7 = .ok (.putfield 30, 3) := by decide +kernel
theorem dX0_empty_10 : decode cX0_empty 10 = .ok (.return_, 1) := by decide +kernel
theorem dX0_at_0 : decode cX0_at 0 = .ok (.iload_n 1, 1) := by decide +kernel
theorem dX0_at_1 : decode cX0_at 1 = .ok (.ifCond .lt 24, 3) := by decide +kernel
theorem dX0_at_4 : decode cX0_at 4 = .ok (.iload_n 1, 1) := by decide +kernel
theorem dX0_at_5 : decode cX0_at 5 = .ok (.aload_n 0, 1) := by decide +kernel
theorem dX0_at_6 : decode cX0_at 6 = .ok (.getfield 26, 3) := by decide +kernel
theorem dX0_at_9 : decode cX0_at 9 = .ok (.if_icmp .ge 16, 3) := by decide +kernel
theorem dX0_at_12 : decode cX0_at 12 = .ok (.iload_n 1, 1) := by decide +kernel
theorem dX0_at_13 : decode cX0_at 13 = .ok (.aload_n 0, 1) := by decide +kernel
theorem dX0_at_14 : decode cX0_at 14 = .ok (.getfield 9, 3) := by decide +kernel
theorem dX0_at_17 : decode cX0_at 17 = .ok (.arraylength, 1) := by decide +kernel
theorem dX0_at_18 : decode cX0_at 18 = .ok (.if_icmp .ge 7, 3) := by decide +kernel
theorem dX0_at_21 : decode cX0_at 21 = .ok (.iconst 1, 1) := by decide +kernel
theorem dX0_at_22 : decode cX0_at 22 = .ok (.goto 4, 3) := by decide +kernel
theorem dX0_at_25 : decode cX0_at 25 = .ok (.iconst 0, 1) := by decide +kernel
theorem dX0_at_26 : decode cX0_at 26 = .ok (.istore_n 2, 1) := by decide +kernel
theorem dX0_at_27 : decode cX0_at 27 = .ok (.iload_n 2, 1) := by decide +kernel
theorem dX0_at_28 : decode cX0_at 28 = .ok (.ifCond .eq 12, 3) := by decide +kernel
theorem dX0_at_31 : decode cX0_at 31 = .ok (.aload_n 0, 1) := by decide +kernel
theorem dX0_at_32 : decode cX0_at 32 = .ok (.getfield 9, 3) := by decide +kernel
theorem dX0_at_35 : decode cX0_at 35 = .ok (.iload_n 1, 1) := by decide +kernel
theorem dX0_at_36 : decode cX0_at 36 = .ok (.caload, 1) := by decide +kernel
theorem dX0_at_37 : decode cX0_at 37 = .ok (.goto 5, 3) := by decide +kernel
theorem dX0_at_40 : decode cX0_at 40 = .ok (.bipush 47, 2) := by decide +kernel
theorem dX0_at_42 : decode cX0_at 42 = .ok (.ireturn, 1) := by decide +kernel
set_option maxRecDepth 20000 in
theorem ggX0_isSameAs_X0_at : GoodIn wsX0_isSameAs wsX0_at := goodIn_r _ [6, 1, 7, 8, 9, 10, 11] (by decide +kernel) (by decide +kernel)
set_option maxRecDepth 20000 in
theorem gX0_isSameAs_X0_at : GoodIn wsX0_isSameAs (wsV RX0 33 RX0 yX0_at wsX0_at) := goodIn_app (goodIn_of _ (by decide +kernel)) ggX0_isSameAs_X0_at
theorem dX0_isSameAs_0 : decode cX0_isSameAs 0 = .ok (.aload_n 0, 1) := by decide +kernel
theorem dX0_isSameAs_1 : decode cX0_isSameAs 1 = .ok (.getfield 26, 3) := by decide +kernel
theorem dX0_isSameAs_4 : decode cX0_isSameAs 4 = .ok (.aload_n 1, 1) := by decide +kernel
theorem dX0_isSameAs_5 : decode cX0_isSameAs 5 = .ok (.getfield 26, 3) := by decide +kernel
theorem dX0_isSameAs_8 : decode cX0_isSameAs 8 = .ok (.if_icmp .eq 5, 3) := by decide +kernel
theorem dX0_isSameAs_11 : decode cX0_isSameAs 11 = .ok (.iconst 0, 1) := by decide +kernel
theorem dX0_isSameAs_12 : decode cX0_isSameAs 12 = .ok (.ireturn, 1) := by decide +kernel
theorem dX0_isSameAs_13 : decode cX0_isSameAs 13 = .ok (.iconst 0, 1) := by decide +kernel
theorem dX0_isSameAs_14 : decode cX0_isSameAs 14 = .ok (.istore_n 2, 1) := by decide +kernel
theorem dX0_isSameAs_15 : decode cX0_isSameAs 15 = .ok (.iload_n 2, 1) := by decide +kernel
theorem dX0_isSameAs_16 : decode cX0_isSameAs 16 = .ok (.aload_n 0, 1) := by decide +kernel
theorem dX0_isSameAs_17 : decode cX0_isSameAs 17 = .ok (.getfield 26, 3) := by decide +kernel
theorem dX0_isSameAs_20 : decode cX0_isSameAs 20 = .ok (.if_icmp .ge 24, 3) := by decide +kernel
theorem dX0_isSameAs_23 : decode cX0_isSameAs 23 = .ok (.aload_n 0, 1) := by decide +kernel
theorem dX0_isSameAs_24 : decode cX0_isSameAs 24 = .ok (.iload_n 2, 1) := by decide +kernel
theorem dX0_isSameAs_25 : decode cX0_isSameAs 25 = .ok (.invokevirtual 33, 3) := by decide +kernel
theorem dX0_isSameAs_28 : decode cX0_isSameAs 28 = .ok (.aload_n 1, 1) := by decide +kernel
theorem dX0_isSameAs_29 : decode cX0_isSameAs 29 = .ok (.iload_n 2, 1) := by decide +kernel
theorem dX0_isSameAs_30 : decode cX0_isSameAs 30 = .ok (.invokevirtual 33, 3) := by decide +kernel
theorem dX0_isSameAs_33 : decode cX0_isSameAs 33 = .ok (.if_icmp .eq 5, 3) := by decide +kernel
theorem dX0_isSameAs_36 : decode cX0_isSameAs 36 = .ok (.iconst 0, 1) := by decide +kernel
theorem dX0_isSameAs_37 : decode cX0_isSameAs 37 = .ok (.ireturn, 1) := by decide +kernel
theorem dX0_isSameAs_38 : decode cX0_isSameAs 38 = .ok (.iinc 2 1, 3) := by decide +kernel
theorem dX0_isSameAs_41 : decode cX0_isSameAs 41 = .ok (.goto (-26), 3) := by decide +kernel
theorem dX0_isSameAs_44 : decode cX0_isSameAs 44 = .ok (.iconst 1, 1) := by decide +kernel
theorem dX0_isSameAs_45 : decode cX0_isSameAs 45 = .ok (.ireturn, 1) := by decide +kernel
set_option maxRecDepth 20000 in
theorem ggX0_repeatsItself_X0_comesThrice : GoodIn wsX0_repeatsItself wsX0_comesThrice := goodIn_r _ [5, 6, 7, 8, 9, 4, 10, 11, 12, 13, 14, 15, 16, 17, 18, 19, 20, 21, 22, 23, 24, 25] (by decide +kernel) (by decide +kernel)
set_option maxRecDepth 20000 in
theorem gX0_repeatsItself_X0_comesThrice : GoodIn wsX0_repeatsItself (wsV RX0 40 RX0 yX0_comesThrice wsX0_comesThrice) := goodIn_app (goodIn_of _ (by decide +kernel)) ggX0_repeatsItself_X0_comesThrice
theorem dX0_repeatsItself_0 : decode cX0_repeatsItself 0 = .ok (.iconst 1, 1) := by decide +kernel
theorem dX0_repeatsItself_1 : decode cX0_repeatsItself 1 = .ok (.istore_n 1, 1) := by decide +kernel
theorem dX0_repeatsItself_2 : decode cX0_repeatsItself 2 = .ok (.iload_n 1, 1) := by decide +kernel
theorem dX0_repeatsItself_3 : decode cX0_repeatsItself 3 = .ok (.iconst 3, 1) := by decide +kernel
theorem dX0_repeatsItself_4 : decode cX0_repeatsItself 4 = .ok (.if_icmp .gt 19, 3) := by decide +kernel
theorem dX0_repeatsItself_7 : decode cX0_repeatsItself 7 = .ok (.aload_n 0, 1) := by decide +kernel
theorem dX0_repeatsItself_8 : decode cX0_repeatsItself 8 = .ok (.iload_n 1, 1) := by decide +kernel
theorem dX0_repeatsItself_9 : decode cX0_repeatsItself 9 = .ok (.invokevirtual 40, 3) := by decide +kernel
theorem dX0_repeatsItself_12 : decode cX0_repeatsItself 12 = .ok (.ifCond .eq 5, 3) := by decide +kernel
theorem dX0_repeatsItself_15 : decode cX0_repeatsItself 15 = .ok (.iconst 1, 1) := by decide +kernel
theorem dX0_repeatsItself_16 : decode cX0_repeatsItself 16 = .ok (.ireturn, 1) := by decide +kernel
theorem dX0_repeatsItself_17 : decode cX0_repeatsItself 17 = .ok (.iinc 1 1, 3) := by decide +kernel
theorem dX0_repeatsItself_20 : decode cX0_repeatsItself 20 = .ok (.goto (-18), 3) := by decide +kernel
theorem dX0_repeatsItself_23 : decode cX0_repeatsItself 23 = .ok (.iconst 0, 1) := by decide +kernel
theorem dX0_repeatsItself_24 : decode cX0_repeatsItself 24 = .ok (.ireturn, 1) := by decide +kernel
set_option maxRecDepth 20000 in
theorem ggX0_comesThrice_X0_hasSameSegments : GoodIn wsX0_comesThrice wsX0_hasSameSegments := goodIn_r _ [6, 7, 8, 9, 10, 5, 11, 12, 13, 14, 15, 16, 17, 18, 19, 20, 21] (by decide +kernel) (by decide +kernel)
set_option maxRecDepth 20000 in
theorem gX0_comesThrice_X0_hasSameSegments : GoodIn wsX0_comesThrice (wsV RX0 44 RX0 yX0_hasSameSegments wsX0_hasSameSegments) := goodIn_app (goodIn_of _ (by decide +kernel)) ggX0_comesThrice_X0_hasSameSegments
theorem dX0_comesThrice_0 : decode cX0_comesThrice 0 = .ok (.iconst 0, 1) := by decide +kernel
theorem dX0_comesThrice_1 : decode cX0_comesThrice 1 = .ok (.istore_n 2, 1) := by decide +kernel
theorem dX0_comesThrice_2 : decode cX0_comesThrice 2 = .ok (.iconst 0, 1) := by decide +kernel
theorem dX0_comesThrice_3 : decode cX0_comesThrice 3 = .ok (.istore_n 3, 1) := by decide +kernel
theorem dX0_comesThrice_4 : decode cX0_comesThrice 4 = .ok (.iload_n 3, 1) := by decide +kernel
theorem dX0_comesThrice_5 : decode cX0_comesThrice 5 = .ok (.iload_n 1, 1) := by decide +kernel
theorem dX0_comesThrice_6 : decode cX0_comesThrice 6 = .ok (.iadd, 1) := by decide +kernel
theorem dX0_comesThrice_7 : decode cX0_comesThrice 7 = .ok (.aload_n 0, 1) := by decide +kernel
theorem dX0_comesThrice_8 : decode cX0_comesThrice 8 = .ok (.getfield 30, 3) := by decide +kernel
theorem dX0_comesThrice_11 : decode cX0_comesThrice 11 = .ok (.if_icmp .ge 37, 3) := by decide +kernel
theorem dX0_comesThrice_14 : decode cX0_comesThrice 14 = .ok (.aload_n 0, 1) := by decide +kernel
theorem dX0_comesThrice_15 : decode cX0_comesThrice 15 = .ok (.iload_n 3, 1) := by decide +kernel
theorem dX0_comesThrice_16 : decode cX0_comesThrice 16 = .ok (.iload_n 3, 1) := by decide +kernel
theorem dX0_comesThrice_17 : decode cX0_comesThrice 17 = .ok (.iload_n 1, 1) := by decide +kernel
theorem dX0_comesThrice_18 : decode cX0_comesThrice 18 = .ok (.iadd, 1) := by decide +kernel
theorem dX0_comesThrice_19 : decode cX0_comesThrice 19 = .ok (.invokevirtual 44, 3) := by decide +kernel
theorem dX0_comesThrice_22 : decode cX0_comesThrice 22 = .ok (.ifCond .eq 9, 3) := by decide +kernel
theorem dX0_comesThrice_25 : decode cX0_comesThrice 25 = .ok (.iload_n 2, 1) := by decide +kernel
theorem dX0_comesThrice_26 : decode cX0_comesThrice 26 = .ok (.iconst 1, 1) := by decide +kernel
theorem dX0_comesThrice_27 : decode cX0_comesThrice 27 = .ok (.iadd, 1) := by decide +kernel
theorem dX0_comesThrice_28 : decode cX0_comesThrice 28 = .ok (.goto 4, 3) := by decide +kernel
theorem dX0_comesThrice_31 : decode cX0_comesThrice 31 = .ok (.iconst 0, 1) := by decide +kernel
theorem dX0_comesThrice_32 : decode cX0_comesThrice 32 = .ok (.istore_n 2, 1) := by decide +kernel
theorem dX0_comesThrice_33 : decode cX0_comesThrice 33 = .ok (.iload_n 2, 1) := by decide +kernel
theorem dX0_comesThrice_34 : decode cX0_comesThrice 34 = .ok (.iconst 2, 1) := by decide +kernel
theorem dX0_comesThrice_35 : decode cX0_comesThrice 35 = .ok (.iload_n 1, 1) := by decide +kernel
theorem dX0_comesThrice_36 : decode cX0_comesThrice 36 = .ok (.imul, 1) := by decide +kernel
theorem dX0_comesThrice_37 : decode cX0_comesThrice 37 = .ok (.if_icmp .ne 5, 3) := by decide +kernel
theorem dX0_comesThrice_40 : decode cX0_comesThrice 40 = .ok (.iconst 1, 1) := by decide +kernel
theorem dX0_comesThrice_41 : decode cX0_comesThrice 41 = .ok (.ireturn, 1) := by decide +kernel
theorem dX0_comesThrice_42 : decode cX0_comesThrice 42 = .ok (.iinc 3 1, 3) := by decide +kernel
theorem dX0_comesThrice_45 : decode cX0_comesThrice 45 = .ok (.goto (-41), 3) := by decide +kernel
theorem dX0_comesThrice_48 : decode cX0_comesThrice 48 = .ok (.iconst 0, 1) := by decide +kernel
theorem dX0_comesThrice_49 : decode cX0_comesThrice 49 = .ok (.ireturn, 1) := by decide +kernel
set_option maxRecDepth 20000 in
theorem ggX0_hasSameSegments_X0_startOf : GoodIn wsX0_hasSameSegments wsX0_startOf := goodIn_r _ [6, 7, 1, 13, 14, 15, 16] (by decide +kernel) (by decide +kernel)
set_option maxRecDepth 20000 in
theorem gX0_hasSameSegments_X0_startOf : GoodIn wsX0_hasSameSegments (wsV RX0 48 RX0 yX0_startOf wsX0_startOf) := goodIn_app (goodIn_of _ (by decide +kernel)) ggX0_hasSameSegments_X0_startOf
set_option maxRecDepth 20000 in
theorem ggX0_hasSameSegments_X0_at : GoodIn wsX0_hasSameSegments wsX0_at := goodIn_r _ [11, 1, 12, 13, 14, 15, 16] (by decide +kernel) (by decide +kernel)
set_option maxRecDepth 20000 in
theorem gX0_hasSameSegments_X0_at : GoodIn wsX0_hasSameSegments (wsV RX0 33 RX0 yX0_at wsX0_at) := goodIn_app (goodIn_of _ (by decide +kernel)) ggX0_hasSameSegments_X0_at
theorem dX0_hasSameSegments_0 : decode cX0_hasSameSegments 0 = .ok (.aload_n 0, 1) := by decide +kernel
theorem dX0_hasSameSegments_1 : decode cX0_hasSameSegments 1 = .ok (.iload_n 1, 1) := by decide +kernel
theorem dX0_hasSameSegments_2 : decode cX0_hasSameSegments 2 = .ok (.invokevirtual 48, 3) := by decide +kernel
theorem dX0_hasSameSegments_5 : decode cX0_hasSameSegments 5 = .ok (.istore_n 3, 1) := by decide +kernel
theorem dX0_hasSameSegments_6 : decode cX0_hasSameSegments 6 = .ok (.aload_n 0, 1) := by decide +kernel
theorem dX0_hasSameSegments_7 : decode cX0_hasSameSegments 7 = .ok (.iload_n 2, 1) := by decide +kernel
theorem dX0_hasSameSegments_8 : decode cX0_hasSameSegments 8 = .ok (.invokevirtual 48, 3) := by decide +kernel
theorem dX0_hasSameSegments_11 : decode cX0_hasSameSegments 11 = .ok (.istore 4, 2) := by decide +kernel
theorem dX0_hasSameSegments_13 : decode cX0_hasSameSegments 13 = .ok (.iconst 0, 1) := by decide +kernel
theorem dX0_hasSameSegments_14 : decode cX0_hasSameSegments 14 = .ok (.istore 5, 2) := by decide +kernel
theorem dX0_hasSameSegments_16 : decode cX0_hasSameSegments 16 = .ok (.iload 5, 2) := by decide +kernel
theorem dX0_hasSameSegments_18 : decode cX0_hasSameSegments 18 = .ok (.aload_n 0, 1) := by decide +kernel
theorem dX0_hasSameSegments_19 : decode cX0_hasSameSegments 19 = .ok (.getfield 26, 3) := by decide +kernel
theorem dX0_hasSameSegments_22 : decode cX0_hasSameSegments 22 = .ok (.if_icmp .ge 44, 3) := by decide +kernel
theorem dX0_hasSameSegments_25 : decode cX0_hasSameSegments 25 = .ok (.aload_n 0, 1) := by decide +kernel
theorem dX0_hasSameSegments_26 : decode cX0_hasSameSegments 26 = .ok (.iload_n 3, 1) := by decide +kernel
theorem dX0_hasSameSegments_27 : decode cX0_hasSameSegments 27 = .ok (.iload 5, 2) := by decide +kernel
theorem dX0_hasSameSegments_29 : decode cX0_hasSameSegments 29 = .ok (.iadd, 1) := by decide +kernel
theorem dX0_hasSameSegments_30 : decode cX0_hasSameSegments 30 = .ok (.invokevirtual 33, 3) := by decide +kernel
theorem dX0_hasSameSegments_33 : decode cX0_hasSameSegments 33 = .ok (.istore 6, 2) := by decide +kernel
theorem dX0_hasSameSegments_35 : decode cX0_hasSameSegments 35 = .ok (.iload 6, 2) := by decide +kernel
theorem dX0_hasSameSegments_37 : decode cX0_hasSameSegments 37 = .ok (.aload_n 0, 1) := by decide +kernel
theorem dX0_hasSameSegments_38 : decode cX0_hasSameSegments 38 = .ok (.iload 4, 2) := by decide +kernel
theorem dX0_hasSameSegments_40 : decode cX0_hasSameSegments 40 = .ok (.iload 5, 2) := by decide +kernel
theorem dX0_hasSameSegments_42 : decode cX0_hasSameSegments 42 = .ok (.iadd, 1) := by decide +kernel
theorem dX0_hasSameSegments_43 : decode cX0_hasSameSegments 43 = .ok (.invokevirtual 33, 3) := by decide +kernel
theorem dX0_hasSameSegments_46 : decode cX0_hasSameSegments 46 = .ok (.if_icmp .eq 5, 3) := by decide +kernel
theorem dX0_hasSameSegments_49 : decode cX0_hasSameSegments 49 = .ok (.iconst 0, 1) := by decide +kernel
theorem dX0_hasSameSegments_50 : decode cX0_hasSameSegments 50 = .ok (.ireturn, 1) := by decide +kernel
theorem dX0_hasSameSegments_51 : decode cX0_hasSameSegments 51 = .ok (.iload 6, 2) := by decide +kernel
theorem dX0_hasSameSegments_53 : decode cX0_hasSameSegments 53 = .ok (.bipush 47, 2) := by decide +kernel
theorem dX0_hasSameSegments_55 : decode cX0_hasSameSegments 55 = .ok (.if_icmp .ne 5, 3) := by decide +kernel
theorem dX0_hasSameSegments_58 : decode cX0_hasSameSegments 58 = .ok (.iconst 1, 1) := by decide +kernel
theorem dX0_hasSameSegments_59 : decode cX0_hasSameSegments 59 = .ok (.ireturn, 1) := by decide +kernel
theorem dX0_hasSameSegments_60 : decode cX0_hasSameSegments 60 = .ok (.iinc 5 1, 3) := by decide +kernel
theorem dX0_hasSameSegments_63 : decode cX0_hasSameSegments 63 = .ok (.goto (-47), 3) := by decide +kernel
theorem dX0_hasSameSegments_66 : decode cX0_hasSameSegments 66 = .ok (.iconst 1, 1) := by decide +kernel
theorem dX0_hasSameSegments_67 : decode cX0_hasSameSegments 67 = .ok (.ireturn, 1) := by decide +kernel
theorem dX0_startOf_0 : decode cX0_startOf 0 = .ok (.iload_n 1, 1) := by decide +kernel
theorem dX0_startOf_1 : decode cX0_startOf 1 = .ok (.ifCond .lt 21, 3) := by decide +kernel
theorem dX0_startOf_4 : decode cX0_startOf 4 = .ok (.iload_n 1, 1) := by decide +kernel
theorem dX0_startOf_5 : decode cX0_startOf 5 = .ok (.aload_n 0, 1) := by decide +kernel
theorem dX0_startOf_6 : decode cX0_startOf 6 = .ok (.getfield 15, 3) := by decide +kernel
theorem dX0_startOf_9 : decode cX0_startOf 9 = .ok (.arraylength, 1) := by decide +kernel
theorem dX0_startOf_10 : decode cX0_startOf 10 = .ok (.if_icmp .ge 12, 3) := by decide +kernel
theorem dX0_startOf_13 : decode cX0_startOf 13 = .ok (.aload_n 0, 1) := by decide +kernel
theorem dX0_startOf_14 : decode cX0_startOf 14 = .ok (.getfield 15, 3) := by decide +kernel
theorem dX0_startOf_17 : decode cX0_startOf 17 = .ok (.iload_n 1, 1) := by decide +kernel
theorem dX0_startOf_18 : decode cX0_startOf 18 = .ok (.iaload, 1) := by decide +kernel
theorem dX0_startOf_19 : decode cX0_startOf 19 = .ok (.goto 7, 3) := by decide +kernel
theorem dX0_startOf_22 : decode cX0_startOf 22 = .ok (.aload_n 0, 1) := by decide +kernel
theorem dX0_startOf_23 : decode cX0_startOf 23 = .ok (.getfield 26, 3) := by decide +kernel
theorem dX0_startOf_26 : decode cX0_startOf 26 = .ok (.ireturn, 1) := by decide +kernel
theorem dX0_startSegment_0 : decode cX0_startSegment 0 = .ok (.aload_n 0, 1) := by decide +kernel
theorem dX0_startSegment_1 : decode cX0_startSegment 1 = .ok (.getfield 30, 3) := by decide +kernel
theorem dX0_startSegment_4 : decode cX0_startSegment 4 = .ok (.ifCond .lt 38, 3) := by decide +kernel
theorem dX0_startSegment_7 : decode cX0_startSegment 7 = .ok (.aload_n 0, 1) := by decide +kernel
theorem dX0_startSegment_8 : decode cX0_startSegment 8 = .ok (.getfield 30, 3) := by decide +kernel
theorem dX0_startSegment_11 : decode cX0_startSegment 11 = .ok (.aload_n 0, 1) := by decide +kernel
theorem dX0_startSegment_12 : decode cX0_startSegment 12 = .ok (.getfield 15, 3) := by decide +kernel
theorem dX0_startSegment_15 : decode cX0_startSegment 15 = .ok (.arraylength, 1) := by decide +kernel
theorem dX0_startSegment_16 : decode cX0_startSegment 16 = .ok (.if_icmp .ge 26, 3) := by decide +kernel
theorem dX0_startSegment_19 : decode cX0_startSegment 19 = .ok (.aload_n 0, 1) := by decide +kernel
theorem dX0_startSegment_20 : decode cX0_startSegment 20 = .ok (.getfield 15, 3) := by decide +kernel
theorem dX0_startSegment_23 : decode cX0_startSegment 23 = .ok (.aload_n 0, 1) := by decide +kernel
theorem dX0_startSegment_24 : decode cX0_startSegment 24 = .ok (.getfield 30, 3) := by decide +kernel
theorem dX0_startSegment_27 : decode cX0_startSegment 27 = .ok (.aload_n 0, 1) := by decide +kernel
theorem dX0_startSegment_28 : decode cX0_startSegment 28 = .ok (.getfield 26, 3) := by decide +kernel
theorem dX0_startSegment_31 : decode cX0_startSegment 31 = .ok (.iastore, 1) := by decide +kernel
theorem dX0_startSegment_32 : decode cX0_startSegment 32 = .ok (.aload_n 0, 1) := by decide +kernel
theorem dX0_startSegment_33 : decode cX0_startSegment 33 = .ok (.dup, 1) := by decide +kernel
theorem dX0_startSegment_34 : decode cX0_startSegment 34 = .ok (.getfield 30, 3) := by decide +kernel
theorem dX0_startSegment_37 : decode cX0_startSegment 37 = .ok (.iconst 1, 1) := by decide +kernel
theorem dX0_startSegment_38 : decode cX0_startSegment 38 = .ok (.iadd, 1) := by decide +kernel
theorem dX0_startSegment_39 : decode cX0_startSegment 39 = .ok (.putfield 30, 3) := by decide +kernel
theorem dX0_startSegment_42 : decode cX0_startSegment 42 = .ok (.return_, 1) := by decide +kernel
theorem dX1_init_0 : decode cX1_init 0 = .ok (.aload_n 0, 1) := by decide +kernel
theorem dX1_init_1 : decode cX1_init 1 = .ok (.invokespecial 3, 3) := by decide +kernel
theorem dX1_init_4 : decode cX1_init 4 = .ok (.aload_n 0, 1) := by decide +kernel
theorem dX1_init_5 : decode cX1_init 5 = .ok (.iconst 5, 1) := by decide +kernel
theorem dX1_init_6 : decode cX1_init 6 = .ok (.putfield 9, 3) := by decide +kernel
theorem dX1_init_9 : decode cX1_init 9 = .ok (.return_, 1) := by decide +kernel
theorem dX1_restFrom_0 : decode cX1_restFrom 0 = .ok (.aload_n 0, 1) := by decide +kernel
theorem dX1_restFrom_1 : decode cX1_restFrom 1 = .ok (.iload_n 1, 1) := by decide +kernel
theorem dX1_restFrom_2 : decode cX1_restFrom 2 = .ok (.aload_n 0, 1) := by decide +kernel
theorem dX1_restFrom_3 : decode cX1_restFrom 3 = .ok (.getfield 9, 3) := by decide +kernel
theorem dX1_restFrom_6 : decode cX1_restFrom 6 = .ok (.aload_n 0, 1) := by decide +kernel
theorem dX1_restFrom_7 : decode cX1_restFrom 7 = .ok (.getfield 15, 3) := by decide +kernel
theorem dX1_restFrom_10 : decode cX1_restFrom 10 = .ok (.iconst 5, 1) := by decide +kernel
theorem dX1_restFrom_11 : decode cX1_restFrom 11 = .ok (.invokestatic 18, 3) := by decide +kernel
theorem dX1_restFrom_14 : decode cX1_restFrom 14 = .ok (.ishl, 1) := by decide +kernel
theorem dX1_restFrom_15 : decode cX1_restFrom 15 = .ok (.iadd, 1) := by decide +kernel
theorem dX1_restFrom_16 : decode cX1_restFrom 16 = .ok (.putfield 24, 3) := by decide +kernel
theorem dX1_restFrom_19 : decode cX1_restFrom 19 = .ok (.return_, 1) := by decide +kernel
set_option maxRecDepth 20000 in
theorem ggX2_init_X0_repeatsItself : GoodIn wsX2_init wsX0_repeatsItself := goodIn_r _ [14, 15, 16, 17, 13, 18, 19, 20, 21, 22, 23, 24, 25, 26, 27, 28, 29, 30, 31, 32, 33, 34, 45, 46, 47, 48] (by decide +kernel) (by decide +kernel)
set_option maxRecDepth 20000 in
theorem gX2_init_X0_repeatsItself : GoodIn wsX2_init (wsV RX2 23 RX0 yX0_repeatsItself wsX0_repeatsItself) := goodIn_app (goodIn_of _ (by decide +kernel)) ggX2_init_X0_repeatsItself
theorem dX2_init_0 : decode cX2_init 0 = .ok (.aload_n 0, 1) := by decide +kernel
theorem dX2_init_1 : decode cX2_init 1 = .ok (.invokespecial 3, 3) := by decide +kernel
theorem dX2_init_4 : decode cX2_init 4 = .ok (.aload_n 0, 1) := by decide +kernel
theorem dX2_init_5 : decode cX2_init 5 = .ok (.iload_n 1, 1) := by decide +kernel
theorem dX2_init_6 : decode cX2_init 6 = .ok (.putfield 9, 3) := by decide +kernel
theorem dX2_init_9 : decode cX2_init 9 = .ok (.aload_n 0, 1) := by decide +kernel
theorem dX2_init_10 : decode cX2_init 10 = .ok (.aload_n 2, 1) := by decide +kernel
theorem dX2_init_11 : decode cX2_init 11 = .ok (.putfield 15, 3) := by decide +kernel
theorem dX2_init_14 : decode cX2_init 14 = .ok (.aload_n 0, 1) := by decide +kernel
theorem dX2_init_15 : decode cX2_init 15 = .ok (.aload_n 3, 1) := by decide +kernel
theorem dX2_init_16 : decode cX2_init 16 = .ok (.putfield 19, 3) := by decide +kernel
theorem dX2_init_19 : decode cX2_init 19 = .ok (.aload_n 0, 1) := by decide +kernel
theorem dX2_init_20 : decode cX2_init 20 = .ok (.aload_n 3, 1) := by decide +kernel
theorem dX2_init_21 : decode cX2_init 21 = .ok (.invokevirtual 23, 3) := by decide +kernel
theorem dX2_init_24 : decode cX2_init 24 = .ok (.putfield 29, 3) := by decide +kernel
theorem dX2_init_27 : decode cX2_init 27 = .ok (.aload_n 0, 1) := by decide +kernel
theorem dX2_init_28 : decode cX2_init 28 = .ok (.iload 4, 2) := by decide +kernel
theorem dX2_init_30 : decode cX2_init 30 = .ok (.putfield 33, 3) := by decide +kernel
theorem dX2_init_33 : decode cX2_init 33 = .ok (.aload_n 0, 1) := by decide +kernel
theorem dX2_init_34 : decode cX2_init 34 = .ok (.iload 5, 2) := by decide +kernel
theorem dX2_init_36 : decode cX2_init 36 = .ok (.putfield 36, 3) := by decide +kernel
theorem dX2_init_39 : decode cX2_init 39 = .ok (.return_, 1) := by decide +kernel
theorem dX2_isKept_0 : decode cX2_isKept 0 = .ok (.aload_n 0, 1) := by decide +kernel
theorem dX2_isKept_1 : decode cX2_isKept 1 = .ok (.getfield 39, 3) := by decide +kernel
theorem dX2_isKept_4 : decode cX2_isKept 4 = .ok (.ifCond .ne 14, 3) := by decide +kernel
theorem dX2_isKept_7 : decode cX2_isKept 7 = .ok (.aload_n 0, 1) := by decide +kernel
theorem dX2_isKept_8 : decode cX2_isKept 8 = .ok (.getfield 29, 3) := by decide +kernel
theorem dX2_isKept_11 : decode cX2_isKept 11 = .ok (.ifCond .ne 7, 3) := by decide +kernel
theorem dX2_isKept_14 : decode cX2_isKept 14 = .ok (.iconst 1, 1) := by decide +kernel
theorem dX2_isKept_15 : decode cX2_isKept 15 = .ok (.goto 4, 3) := by decide +kernel
theorem dX2_isKept_18 : decode cX2_isKept 18 = .ok (.iconst 0, 1) := by decide +kernel
theorem dX2_isKept_19 : decode cX2_isKept 19 = .ok (.ireturn, 1) := by decide +kernel
theorem dX2_pressing_0 : decode cX2_pressing 0 = .ok (.bipush 10, 2) := by decide +kernel
theorem dX2_pressing_2 : decode cX2_pressing 2 = .ok (.aload_n 0, 1) := by decide +kernel
theorem dX2_pressing_3 : decode cX2_pressing 3 = .ok (.getfield 33, 3) := by decide +kernel
theorem dX2_pressing_6 : decode cX2_pressing 6 = .ok (.imul, 1) := by decide +kernel
theorem dX2_pressing_7 : decode cX2_pressing 7 = .ok (.iload_n 1, 1) := by decide +kernel
theorem dX2_pressing_8 : decode cX2_pressing 8 = .ok (.iadd, 1) := by decide +kernel
theorem dX2_pressing_9 : decode cX2_pressing 9 = .ok (.aload_n 0, 1) := by decide +kernel
theorem dX2_pressing_10 : decode cX2_pressing 10 = .ok (.getfield 36, 3) := by decide +kernel
theorem dX2_pressing_13 : decode cX2_pressing 13 = .ok (.isub, 1) := by decide +kernel
theorem dX2_pressing_14 : decode cX2_pressing 14 = .ok (.ireturn, 1) := by decide +kernel
set_option maxRecDepth 20000 in
theorem ggX2_gainsMoreThan_X2_gainAbove : GoodIn wsX2_gainsMoreThan wsX2_gainAbove := goodIn_r _ [5, 6, 7, 14, 15, 16, 17, 18, 19, 20, 21, 22, 23] (by decide +kernel) (by decide +kernel)
set_option maxRecDepth 20000 in
theorem gX2_gainsMoreThan_X2_gainAbove : GoodIn wsX2_gainsMoreThan (wsV RX2 42 RX2 yX2_gainAbove wsX2_gainAbove) := goodIn_app (goodIn_of _ (by decide +kernel)) ggX2_gainsMoreThan_X2_gainAbove
set_option maxRecDepth 20000 in
theorem ggX2_gainsMoreThan_X2_gainBelow : GoodIn wsX2_gainsMoreThan wsX2_gainBelow := goodIn_r _ [11, 12, 7, 13, 14, 15, 16, 17, 18, 19, 20, 21, 22, 23] (by decide +kernel) (by decide +kernel)
set_option maxRecDepth 20000 in
theorem gX2_gainsMoreThan_X2_gainBelow : GoodIn wsX2_gainsMoreThan (wsV RX2 46 RX2 yX2_gainBelow wsX2_gainBelow) := goodIn_app (goodIn_of _ (by decide +kernel)) ggX2_gainsMoreThan_X2_gainBelow
theorem dX2_gainsMoreThan_0 : decode cX2_gainsMoreThan 0 = .ok (.aload_n 0, 1) := by decide +kernel
theorem dX2_gainsMoreThan_1 : decode cX2_gainsMoreThan 1 = .ok (.invokevirtual 42, 3) := by decide +kernel
theorem dX2_gainsMoreThan_4 : decode cX2_gainsMoreThan 4 = .ok (.aload_n 1, 1) := by decide +kernel
theorem dX2_gainsMoreThan_5 : decode cX2_gainsMoreThan 5 = .ok (.invokevirtual 46, 3) := by decide +kernel
theorem dX2_gainsMoreThan_8 : decode cX2_gainsMoreThan 8 = .ok (.lmul, 1) := by decide +kernel
theorem dX2_gainsMoreThan_9 : decode cX2_gainsMoreThan 9 = .ok (.aload_n 1, 1) := by decide +kernel
theorem dX2_gainsMoreThan_10 : decode cX2_gainsMoreThan 10 = .ok (.invokevirtual 42, 3) := by decide +kernel
theorem dX2_gainsMoreThan_13 : decode cX2_gainsMoreThan 13 = .ok (.aload_n 0, 1) := by decide +kernel
theorem dX2_gainsMoreThan_14 : decode cX2_gainsMoreThan 14 = .ok (.invokevirtual 46, 3) := by decide +kernel
theorem dX2_gainsMoreThan_17 : decode cX2_gainsMoreThan 17 = .ok (.lmul, 1) := by decide +kernel
theorem dX2_gainsMoreThan_18 : decode cX2_gainsMoreThan 18 = .ok (.lcmp, 1) := by decide +kernel
theorem dX2_gainsMoreThan_19 : decode cX2_gainsMoreThan 19 = .ok (.ifCond .le 7, 3) := by decide +kernel
theorem dX2_gainsMoreThan_22 : decode cX2_gainsMoreThan 22 = .ok (.iconst 1, 1) := by decide +kernel
theorem dX2_gainsMoreThan_23 : decode cX2_gainsMoreThan 23 = .ok (.goto 4, 3) := by decide +kernel
theorem dX2_gainsMoreThan_26 : decode cX2_gainsMoreThan 26 = .ok (.iconst 0, 1) := by decide +kernel
theorem dX2_gainsMoreThan_27 : decode cX2_gainsMoreThan 27 = .ok (.ireturn, 1) := by decide +kernel
theorem dX2_gainAbove_0 : decode cX2_gainAbove 0 = .ok (.aload_n 0, 1) := by decide +kernel
theorem dX2_gainAbove_1 : decode cX2_gainAbove 1 = .ok (.getfield 33, 3) := by decide +kernel
theorem dX2_gainAbove_4 : decode cX2_gainAbove 4 = .ok (.i2l, 1) := by decide +kernel
theorem dX2_gainAbove_5 : decode cX2_gainAbove 5 = .ok (.lconst 1, 1) := by decide +kernel
theorem dX2_gainAbove_6 : decode cX2_gainAbove 6 = .ok (.ladd, 1) := by decide +kernel
theorem dX2_gainAbove_7 : decode cX2_gainAbove 7 = .ok (.aload_n 0, 1) := by decide +kernel
theorem dX2_gainAbove_8 : decode cX2_gainAbove 8 = .ok (.getfield 49, 3) := by decide +kernel
theorem dX2_gainAbove_11 : decode cX2_gainAbove 11 = .ok (.i2l, 1) := by decide +kernel
theorem dX2_gainAbove_12 : decode cX2_gainAbove 12 = .ok (.lconst 1, 1) := by decide +kernel
theorem dX2_gainAbove_13 : decode cX2_gainAbove 13 = .ok (.ladd, 1) := by decide +kernel
theorem dX2_gainAbove_14 : decode cX2_gainAbove 14 = .ok (.lmul, 1) := by decide +kernel
theorem dX2_gainAbove_15 : decode cX2_gainAbove 15 = .ok (.lreturn, 1) := by decide +kernel
theorem dX2_gainBelow_0 : decode cX2_gainBelow 0 = .ok (.aload_n 0, 1) := by decide +kernel
theorem dX2_gainBelow_1 : decode cX2_gainBelow 1 = .ok (.getfield 52, 3) := by decide +kernel
theorem dX2_gainBelow_4 : decode cX2_gainBelow 4 = .ok (.aload_n 0, 1) := by decide +kernel
theorem dX2_gainBelow_5 : decode cX2_gainBelow 5 = .ok (.getfield 49, 3) := by decide +kernel
theorem dX2_gainBelow_8 : decode cX2_gainBelow 8 = .ok (.iadd, 1) := by decide +kernel
theorem dX2_gainBelow_9 : decode cX2_gainBelow 9 = .ok (.i2l, 1) := by decide +kernel
theorem dX2_gainBelow_10 : decode cX2_gainBelow 10 = .ok (.lconst 1, 1) := by decide +kernel
theorem dX2_gainBelow_11 : decode cX2_gainBelow 11 = .ok (.ladd, 1) := by decide +kernel
theorem dX2_gainBelow_12 : decode cX2_gainBelow 12 = .ok (.aload_n 0, 1) := by decide +kernel
theorem dX2_gainBelow_13 : decode cX2_gainBelow 13 = .ok (.getfield 52, 3) := by decide +kernel
theorem dX2_gainBelow_16 : decode cX2_gainBelow 16 = .ok (.aload_n 0, 1) := by decide +kernel
theorem dX2_gainBelow_17 : decode cX2_gainBelow 17 = .ok (.getfield 49, 3) := by decide +kernel
theorem dX2_gainBelow_20 : decode cX2_gainBelow 20 = .ok (.iadd, 1) := by decide +kernel
theorem dX2_gainBelow_21 : decode cX2_gainBelow 21 = .ok (.i2l, 1) := by decide +kernel
theorem dX2_gainBelow_22 : decode cX2_gainBelow 22 = .ok (.ldc2_w 55, 3) := by decide +kernel
theorem dX2_gainBelow_25 : decode cX2_gainBelow 25 = .ok (.ladd, 1) := by decide +kernel
theorem dX2_gainBelow_26 : decode cX2_gainBelow 26 = .ok (.lmul, 1) := by decide +kernel
theorem dX2_gainBelow_27 : decode cX2_gainBelow 27 = .ok (.lreturn, 1) := by decide +kernel
set_option maxRecDepth 20000 in
theorem ggX3_init_X0_init : GoodIn wsX3_init wsX0_init := goodIn_r _ [19, 20, 2, 3, 21, 22, 23, 24, 29, 30, 31, 32] (by decide +kernel) (by decide +kernel)
set_option maxRecDepth 20000 in
theorem gX3_init_X0_init : GoodIn wsX3_init (wsX0_init) := ggX3_init_X0_init
set_option maxRecDepth 20000 in
theorem ggX3_init_X1_init : GoodIn wsX3_init wsX1_init := goodIn_r _ [26, 27, 2, 3, 28, 42, 43, 44] (by decide +kernel) (by decide +kernel)
set_option maxRecDepth 20000 in
theorem gX3_init_X1_init_n22 : GoodIn wsX3_init (wsX1_init) := ggX3_init_X1_init
theorem dX3_init_0 : decode cX3_init 0 = .ok (.aload_n 0, 1) := by decide +kernel
theorem dX3_init_1 : decode cX3_init 1 = .ok (.invokespecial 1, 3) := by decide +kernel
theorem dX3_init_4 : decode cX3_init 4 = .ok (.aload_n 0, 1) := by decide +kernel
theorem dX3_init_5 : decode cX3_init 5 = .ok (.new 7, 3) := by decide +kernel
theorem dX3_init_8 : decode cX3_init 8 = .ok (.dup, 1) := by decide +kernel
theorem dX3_init_9 : decode cX3_init 9 = .ok (.invokespecial 9, 3) := by decide +kernel
theorem dX3_init_12 : decode cX3_init 12 = .ok (.putfield 10, 3) := by decide +kernel
theorem dX3_init_15 : decode cX3_init 15 = .ok (.aload_n 0, 1) := by decide +kernel
theorem dX3_init_16 : decode cX3_init 16 = .ok (.bipush 6, 2) := by decide +kernel
theorem dX3_init_18 : decode cX3_init 18 = .ok (.anewarray 16, 3) := by decide +kernel
theorem dX3_init_21 : decode cX3_init 21 = .ok (.putfield 18, 3) := by decide +kernel
theorem dX3_init_24 : decode cX3_init 24 = .ok (.iconst 0, 1) := by decide +kernel
theorem dX3_init_25 : decode cX3_init 25 = .ok (.istore_n 1, 1) := by decide +kernel
theorem dX3_init_26 : decode cX3_init 26 = .ok (.iload_n 1, 1) := by decide +kernel
theorem dX3_init_27 : decode cX3_init 27 = .ok (.aload_n 0, 1) := by decide +kernel
theorem dX3_init_28 : decode cX3_init 28 = .ok (.getfield 18, 3) := by decide +kernel
theorem dX3_init_31 : decode cX3_init 31 = .ok (.arraylength, 1) := by decide +kernel
theorem dX3_init_32 : decode cX3_init 32 = .ok (.if_icmp .ge 22, 3) := by decide +kernel
theorem dX3_init_35 : decode cX3_init 35 = .ok (.aload_n 0, 1) := by decide +kernel
theorem dX3_init_36 : decode cX3_init 36 = .ok (.getfield 18, 3) := by decide +kernel
theorem dX3_init_39 : decode cX3_init 39 = .ok (.iload_n 1, 1) := by decide +kernel
theorem dX3_init_40 : decode cX3_init 40 = .ok (.new 16, 3) := by decide +kernel
theorem dX3_init_43 : decode cX3_init 43 = .ok (.dup, 1) := by decide +kernel
theorem dX3_init_44 : decode cX3_init 44 = .ok (.invokespecial 22, 3) := by decide +kernel
theorem dX3_init_47 : decode cX3_init 47 = .ok (.aastore, 1) := by decide +kernel
theorem dX3_init_48 : decode cX3_init 48 = .ok (.iinc 1 1, 3) := by decide +kernel
theorem dX3_init_51 : decode cX3_init 51 = .ok (.goto (-25), 3) := by decide +kernel
theorem dX3_init_54 : decode cX3_init 54 = .ok (.aload_n 0, 1) := by decide +kernel
theorem dX3_init_55 : decode cX3_init 55 = .ok (.bipush 30, 2) := by decide +kernel
theorem dX3_init_57 : decode cX3_init 57 = .ok (.anewarray 23, 3) := by decide +kernel
theorem dX3_init_60 : decode cX3_init 60 = .ok (.putfield 25, 3) := by decide +kernel
theorem dX3_init_63 : decode cX3_init 63 = .ok (.aload_n 0, 1) := by decide +kernel
theorem dX3_init_64 : decode cX3_init 64 = .ok (.bipush 10, 2) := by decide +kernel
theorem dX3_init_66 : decode cX3_init 66 = .ok (.putfield 29, 3) := by decide +kernel
theorem dX3_init_69 : decode cX3_init 69 = .ok (.aload_n 0, 1) := by decide +kernel
theorem dX3_init_70 : decode cX3_init 70 = .ok (.sipush 500, 3) := by decide +kernel
theorem dX3_init_73 : decode cX3_init 73 = .ok (.putfield 33, 3) := by decide +kernel
theorem dX3_init_76 : decode cX3_init 76 = .ok (.aload_n 0, 1) := by decide +kernel
theorem dX3_init_77 : decode cX3_init 77 = .ok (.bipush 20, 2) := by decide +kernel
theorem dX3_init_79 : decode cX3_init 79 = .ok (.putfield 36, 3) := by decide +kernel
theorem dX3_init_82 : decode cX3_init 82 = .ok (.return_, 1) := by decide +kernel
set_option maxRecDepth 20000 in
theorem ggX3_type_X0_isFull : GoodIn wsX3_type wsX0_isFull := goodIn_r _ [11, 12, 13, 37, 38, 39, 40] (by decide +kernel) (by decide +kernel)
set_option maxRecDepth 20000 in
theorem gX3_type_X0_isFull : GoodIn wsX3_type (wsV RX3 46 RX0 yX0_isFull wsX0_isFull) := goodIn_app (goodIn_of _ (by decide +kernel)) ggX3_type_X0_isFull
set_option maxRecDepth 20000 in
theorem ggX3_type_X0_add : GoodIn wsX3_type wsX0_add := goodIn_r _ [17, 12, 13, 18, 19, 20, 10, 21, 22, 23, 24, 25, 26, 27, 37, 38, 39, 40] (by decide +kernel) (by decide +kernel)
set_option maxRecDepth 20000 in
theorem gX3_type_X0_add : GoodIn wsX3_type (wsV RX3 55 RX0 yX0_add wsX0_add) := goodIn_app (goodIn_of _ (by decide +kernel)) ggX3_type_X0_add
theorem dX3_type_0 : decode cX3_type 0 = .ok (.iload_n 1, 1) := by decide +kernel
theorem dX3_type_1 : decode cX3_type 1 = .ok (.bipush 97, 2) := by decide +kernel
theorem dX3_type_3 : decode cX3_type 3 = .ok (.if_icmp .lt 13, 3) := by decide +kernel
theorem dX3_type_6 : decode cX3_type 6 = .ok (.iload_n 1, 1) := by decide +kernel
theorem dX3_type_7 : decode cX3_type 7 = .ok (.bipush 122, 2) := by decide +kernel
theorem dX3_type_9 : decode cX3_type 9 = .ok (.if_icmp .gt 7, 3) := by decide +kernel
theorem dX3_type_12 : decode cX3_type 12 = .ok (.iconst 1, 1) := by decide +kernel
theorem dX3_type_13 : decode cX3_type 13 = .ok (.goto 4, 3) := by decide +kernel
theorem dX3_type_16 : decode cX3_type 16 = .ok (.iconst 0, 1) := by decide +kernel
theorem dX3_type_17 : decode cX3_type 17 = .ok (.istore_n 2, 1) := by decide +kernel
theorem dX3_type_18 : decode cX3_type 18 = .ok (.iload_n 2, 1) := by decide +kernel
theorem dX3_type_19 : decode cX3_type 19 = .ok (.ifCond .ne 19, 3) := by decide +kernel
theorem dX3_type_22 : decode cX3_type 22 = .ok (.iload_n 1, 1) := by decide +kernel
theorem dX3_type_23 : decode cX3_type 23 = .ok (.bipush 47, 2) := by decide +kernel
theorem dX3_type_25 : decode cX3_type 25 = .ok (.if_icmp .eq 13, 3) := by decide +kernel
theorem dX3_type_28 : decode cX3_type 28 = .ok (.new 39, 3) := by decide +kernel
theorem dX3_type_31 : decode cX3_type 31 = .ok (.dup, 1) := by decide +kernel
theorem dX3_type_32 : decode cX3_type 32 = .ok (.ldc 41, 2) := by decide +kernel
theorem dX3_type_34 : decode cX3_type 34 = .ok (.invokespecial 43, 3) := by decide +kernel
theorem dX3_type_37 : decode cX3_type 37 = .ok (.athrow, 1) := by decide +kernel
theorem dX3_type_38 : decode cX3_type 38 = .ok (.aload_n 0, 1) := by decide +kernel
theorem dX3_type_39 : decode cX3_type 39 = .ok (.getfield 10, 3) := by decide +kernel
theorem dX3_type_42 : decode cX3_type 42 = .ok (.invokevirtual 46, 3) := by decide +kernel
theorem dX3_type_45 : decode cX3_type 45 = .ok (.ifCond .eq 13, 3) := by decide +kernel
theorem dX3_type_48 : decode cX3_type 48 = .ok (.new 50, 3) := by decide +kernel
theorem dX3_type_51 : decode cX3_type 51 = .ok (.dup, 1) := by decide +kernel
theorem dX3_type_52 : decode cX3_type 52 = .ok (.ldc 52, 2) := by decide +kernel
theorem dX3_type_54 : decode cX3_type 54 = .ok (.invokespecial 54, 3) := by decide +kernel
theorem dX3_type_57 : decode cX3_type 57 = .ok (.athrow, 1) := by decide +kernel
theorem dX3_type_58 : decode cX3_type 58 = .ok (.aload_n 0, 1) := by decide +kernel
theorem dX3_type_59 : decode cX3_type 59 = .ok (.getfield 10, 3) := by decide +kernel
theorem dX3_type_62 : decode cX3_type 62 = .ok (.iload_n 1, 1) := by decide +kernel
theorem dX3_type_63 : decode cX3_type 63 = .ok (.invokevirtual 55, 3) := by decide +kernel
theorem dX3_type_66 : decode cX3_type 66 = .ok (.aload_n 0, 1) := by decide +kernel
theorem dX3_type_67 : decode cX3_type 67 = .ok (.getfield 10, 3) := by decide +kernel
theorem dX3_type_70 : decode cX3_type 70 = .ok (.getfield 59, 3) := by decide +kernel
theorem dX3_type_73 : decode cX3_type 73 = .ok (.ireturn, 1) := by decide +kernel
set_option maxRecDepth 20000 in
theorem ggX3_clearAddress_X0_empty : GoodIn wsX3_clearAddress wsX0_empty := goodIn_r _ [7, 8, 9, 19, 20, 21, 22] (by decide +kernel) (by decide +kernel)
set_option maxRecDepth 20000 in
theorem gX3_clearAddress_X0_empty : GoodIn wsX3_clearAddress (wsV RX3 62 RX0 yX0_empty wsX0_empty) := goodIn_app (goodIn_of _ (by decide +kernel)) ggX3_clearAddress_X0_empty
theorem dX3_clearAddress_0 : decode cX3_clearAddress 0 = .ok (.aload_n 0, 1) := by decide +kernel
theorem dX3_clearAddress_1 : decode cX3_clearAddress 1 = .ok (.getfield 10, 3) := by decide +kernel
theorem dX3_clearAddress_4 : decode cX3_clearAddress 4 = .ok (.getfield 59, 3) := by decide +kernel
theorem dX3_clearAddress_7 : decode cX3_clearAddress 7 = .ok (.istore_n 1, 1) := by decide +kernel
theorem dX3_clearAddress_8 : decode cX3_clearAddress 8 = .ok (.aload_n 0, 1) := by decide +kernel
theorem dX3_clearAddress_9 : decode cX3_clearAddress 9 = .ok (.getfield 10, 3) := by decide +kernel
theorem dX3_clearAddress_12 : decode cX3_clearAddress 12 = .ok (.invokevirtual 62, 3) := by decide +kernel
theorem dX3_clearAddress_15 : decode cX3_clearAddress 15 = .ok (.iload_n 1, 1) := by decide +kernel
theorem dX3_clearAddress_16 : decode cX3_clearAddress 16 = .ok (.ireturn, 1) := by decide +kernel
theorem dX3_segments_0 : decode cX3_segments 0 = .ok (.aload_n 0, 1) := by decide +kernel
theorem dX3_segments_1 : decode cX3_segments 1 = .ok (.getfield 10, 3) := by decide +kernel
theorem dX3_segments_4 : decode cX3_segments 4 = .ok (.getfield 65, 3) := by decide +kernel
theorem dX3_segments_7 : decode cX3_segments 7 = .ok (.ireturn, 1) := by decide +kernel
set_option maxRecDepth 20000 in
theorem ggX3_isTrap_X0_repeatsItself : GoodIn wsX3_isTrap wsX0_repeatsItself := goodIn_r _ [6, 7, 8, 9, 5, 10, 11, 12, 13, 14, 15, 16, 17, 18, 19, 20, 21, 22, 23, 24, 25, 26, 36, 37, 38, 39] (by decide +kernel) (by decide +kernel)
set_option maxRecDepth 20000 in
theorem gX3_isTrap_X0_repeatsItself : GoodIn wsX3_isTrap (wsV RX3 68 RX0 yX0_repeatsItself wsX0_repeatsItself) := goodIn_app (goodIn_of _ (by decide +kernel)) ggX3_isTrap_X0_repeatsItself
theorem dX3_isTrap_0 : decode cX3_isTrap 0 = .ok (.aload_n 0, 1) := by decide +kernel
theorem dX3_isTrap_1 : decode cX3_isTrap 1 = .ok (.getfield 10, 3) := by decide +kernel
theorem dX3_isTrap_4 : decode cX3_isTrap 4 = .ok (.invokevirtual 68, 3) := by decide +kernel
theorem dX3_isTrap_7 : decode cX3_isTrap 7 = .ok (.ireturn, 1) := by decide +kernel
set_option maxRecDepth 20000 in
theorem ggX3_setRest_X3_knownHost : GoodIn wsX3_setRest wsX3_knownHost := goodIn_ca (goodIn_r _ [8, 9, 10, 11, 15, 16, 17, 18, 19, 20, 21, 22, 23] (by decide +kernel) (by decide +kernel)) (goodIn_sub (fun _ h => List.mem_cons_of_mem _ (List.mem_append_right _ h)) (by decide +kernel))
set_option maxRecDepth 20000 in
theorem gX3_setRest_X3_knownHost : GoodIn wsX3_setRest (wsV RX3 71 RX3 yX3_knownHost wsX3_knownHost) := goodIn_app (goodIn_of _ (by decide +kernel)) ggX3_setRest_X3_knownHost
theorem dX3_setRest_0 : decode cX3_setRest 0 = .ok (.aload_n 0, 1) := by decide +kernel
theorem dX3_setRest_1 : decode cX3_setRest 1 = .ok (.iload_n 1, 1) := by decide +kernel
theorem dX3_setRest_2 : decode cX3_setRest 2 = .ok (.invokevirtual 71, 3) := by decide +kernel
theorem dX3_setRest_5 : decode cX3_setRest 5 = .ok (.astore_n 3, 1) := by decide +kernel
theorem dX3_setRest_6 : decode cX3_setRest 6 = .ok (.iload_n 2, 1) := by decide +kernel
theorem dX3_setRest_7 : decode cX3_setRest 7 = .ok (.iconst 1, 1) := by decide +kernel
theorem dX3_setRest_8 : decode cX3_setRest 8 = .ok (.if_icmp .lt 9, 3) := by decide +kernel
theorem dX3_setRest_11 : decode cX3_setRest 11 = .ok (.iload_n 2, 1) := by decide +kernel
theorem dX3_setRest_12 : decode cX3_setRest 12 = .ok (.bipush 100, 2) := by decide +kernel
theorem dX3_setRest_14 : decode cX3_setRest 14 = .ok (.if_icmp .le 13, 3) := by decide +kernel
theorem dX3_setRest_17 : decode cX3_setRest 17 = .ok (.new 39, 3) := by decide +kernel
theorem dX3_setRest_20 : decode cX3_setRest 20 = .ok (.dup, 1) := by decide +kernel
theorem dX3_setRest_21 : decode cX3_setRest 21 = .ok (.ldc 75, 2) := by decide +kernel
theorem dX3_setRest_23 : decode cX3_setRest 23 = .ok (.invokespecial 43, 3) := by decide +kernel
theorem dX3_setRest_26 : decode cX3_setRest 26 = .ok (.athrow, 1) := by decide +kernel
theorem dX3_setRest_27 : decode cX3_setRest 27 = .ok (.aload_n 3, 1) := by decide +kernel
theorem dX3_setRest_28 : decode cX3_setRest 28 = .ok (.getfield 77, 3) := by decide +kernel
theorem dX3_setRest_31 : decode cX3_setRest 31 = .ok (.istore 4, 2) := by decide +kernel
theorem dX3_setRest_33 : decode cX3_setRest 33 = .ok (.aload_n 3, 1) := by decide +kernel
theorem dX3_setRest_34 : decode cX3_setRest 34 = .ok (.iload_n 2, 1) := by decide +kernel
theorem dX3_setRest_35 : decode cX3_setRest 35 = .ok (.putfield 77, 3) := by decide +kernel
theorem dX3_setRest_38 : decode cX3_setRest 38 = .ok (.iload 4, 2) := by decide +kernel
theorem dX3_setRest_40 : decode cX3_setRest 40 = .ok (.ireturn, 1) := by decide +kernel
theorem dX3_setPaces_0 : decode cX3_setPaces 0 = .ok (.iload_n 1, 1) := by decide +kernel
theorem dX3_setPaces_1 : decode cX3_setPaces 1 = .ok (.iconst 1, 1) := by decide +kernel
theorem dX3_setPaces_2 : decode cX3_setPaces 2 = .ok (.if_icmp .lt 10, 3) := by decide +kernel
theorem dX3_setPaces_5 : decode cX3_setPaces 5 = .ok (.iload_n 1, 1) := by decide +kernel
theorem dX3_setPaces_6 : decode cX3_setPaces 6 = .ok (.sipush 1000, 3) := by decide +kernel
theorem dX3_setPaces_9 : decode cX3_setPaces 9 = .ok (.if_icmp .le 13, 3) := by decide +kernel
theorem dX3_setPaces_12 : decode cX3_setPaces 12 = .ok (.new 39, 3) := by decide +kernel
theorem dX3_setPaces_15 : decode cX3_setPaces 15 = .ok (.dup, 1) := by decide +kernel
theorem dX3_setPaces_16 : decode cX3_setPaces 16 = .ok (.ldc 80, 2) := by decide +kernel
theorem dX3_setPaces_18 : decode cX3_setPaces 18 = .ok (.invokespecial 43, 3) := by decide +kernel
theorem dX3_setPaces_21 : decode cX3_setPaces 21 = .ok (.athrow, 1) := by decide +kernel
theorem dX3_setPaces_22 : decode cX3_setPaces 22 = .ok (.iload_n 2, 1) := by decide +kernel
theorem dX3_setPaces_23 : decode cX3_setPaces 23 = .ok (.iload_n 1, 1) := by decide +kernel
theorem dX3_setPaces_24 : decode cX3_setPaces 24 = .ok (.if_icmp .lt 10, 3) := by decide +kernel
theorem dX3_setPaces_27 : decode cX3_setPaces 27 = .ok (.iload_n 2, 1) := by decide +kernel
theorem dX3_setPaces_28 : decode cX3_setPaces 28 = .ok (.sipush 5000, 3) := by decide +kernel
theorem dX3_setPaces_31 : decode cX3_setPaces 31 = .ok (.if_icmp .le 13, 3) := by decide +kernel
theorem dX3_setPaces_34 : decode cX3_setPaces 34 = .ok (.new 39, 3) := by decide +kernel
theorem dX3_setPaces_37 : decode cX3_setPaces 37 = .ok (.dup, 1) := by decide +kernel
theorem dX3_setPaces_38 : decode cX3_setPaces 38 = .ok (.ldc 82, 2) := by decide +kernel
theorem dX3_setPaces_40 : decode cX3_setPaces 40 = .ok (.invokespecial 43, 3) := by decide +kernel
theorem dX3_setPaces_43 : decode cX3_setPaces 43 = .ok (.athrow, 1) := by decide +kernel
theorem dX3_setPaces_44 : decode cX3_setPaces 44 = .ok (.aload_n 0, 1) := by decide +kernel
theorem dX3_setPaces_45 : decode cX3_setPaces 45 = .ok (.iload_n 1, 1) := by decide +kernel
theorem dX3_setPaces_46 : decode cX3_setPaces 46 = .ok (.putfield 29, 3) := by decide +kernel
theorem dX3_setPaces_49 : decode cX3_setPaces 49 = .ok (.aload_n 0, 1) := by decide +kernel
theorem dX3_setPaces_50 : decode cX3_setPaces 50 = .ok (.iload_n 2, 1) := by decide +kernel
theorem dX3_setPaces_51 : decode cX3_setPaces 51 = .ok (.putfield 33, 3) := by decide +kernel
theorem dX3_setPaces_54 : decode cX3_setPaces 54 = .ok (.return_, 1) := by decide +kernel
theorem dX3_setBudget_0 : decode cX3_setBudget 0 = .ok (.iload_n 1, 1) := by decide +kernel
theorem dX3_setBudget_1 : decode cX3_setBudget 1 = .ok (.iconst 1, 1) := by decide +kernel
theorem dX3_setBudget_2 : decode cX3_setBudget 2 = .ok (.if_icmp .lt 9, 3) := by decide +kernel
theorem dX3_setBudget_5 : decode cX3_setBudget 5 = .ok (.iload_n 1, 1) := by decide +kernel
theorem dX3_setBudget_6 : decode cX3_setBudget 6 = .ok (.bipush 100, 2) := by decide +kernel
theorem dX3_setBudget_8 : decode cX3_setBudget 8 = .ok (.if_icmp .le 13, 3) := by decide +kernel
theorem dX3_setBudget_11 : decode cX3_setBudget 11 = .ok (.new 39, 3) := by decide +kernel
theorem dX3_setBudget_14 : decode cX3_setBudget 14 = .ok (.dup, 1) := by decide +kernel
theorem dX3_setBudget_15 : decode cX3_setBudget 15 = .ok (.ldc 84, 2) := by decide +kernel
theorem dX3_setBudget_17 : decode cX3_setBudget 17 = .ok (.invokespecial 43, 3) := by decide +kernel
theorem dX3_setBudget_20 : decode cX3_setBudget 20 = .ok (.athrow, 1) := by decide +kernel
theorem dX3_setBudget_21 : decode cX3_setBudget 21 = .ok (.aload_n 0, 1) := by decide +kernel
theorem dX3_setBudget_22 : decode cX3_setBudget 22 = .ok (.getfield 36, 3) := by decide +kernel
theorem dX3_setBudget_25 : decode cX3_setBudget 25 = .ok (.istore_n 2, 1) := by decide +kernel
theorem dX3_setBudget_26 : decode cX3_setBudget 26 = .ok (.aload_n 0, 1) := by decide +kernel
theorem dX3_setBudget_27 : decode cX3_setBudget 27 = .ok (.iload_n 1, 1) := by decide +kernel
theorem dX3_setBudget_28 : decode cX3_setBudget 28 = .ok (.putfield 36, 3) := by decide +kernel
theorem dX3_setBudget_31 : decode cX3_setBudget 31 = .ok (.iload_n 2, 1) := by decide +kernel
theorem dX3_setBudget_32 : decode cX3_setBudget 32 = .ok (.ireturn, 1) := by decide +kernel
set_option maxRecDepth 20000 in
theorem ggX3_failures_X3_knownHost : GoodIn wsX3_failures wsX3_knownHost := goodIn_ca (goodIn_r _ [6, 7, 8, 9, 13, 14, 15, 16, 17, 18, 19, 20, 21] (by decide +kernel) (by decide +kernel)) (goodIn_sub (fun _ h => List.mem_cons_of_mem _ (List.mem_append_right _ h)) (by decide +kernel))
set_option maxRecDepth 20000 in
theorem gX3_failures_X3_knownHost : GoodIn wsX3_failures (wsV RX3 71 RX3 yX3_knownHost wsX3_knownHost) := goodIn_app (goodIn_of _ (by decide +kernel)) ggX3_failures_X3_knownHost
theorem dX3_failures_0 : decode cX3_failures 0 = .ok (.aload_n 0, 1) := by decide +kernel
theorem dX3_failures_1 : decode cX3_failures 1 = .ok (.iload_n 1, 1) := by decide +kernel
theorem dX3_failures_2 : decode cX3_failures 2 = .ok (.invokevirtual 71, 3) := by decide +kernel
theorem dX3_failures_5 : decode cX3_failures 5 = .ok (.getfield 86, 3) := by decide +kernel
theorem dX3_failures_8 : decode cX3_failures 8 = .ok (.ireturn, 1) := by decide +kernel
set_option maxRecDepth 20000 in
theorem ggX3_openFrom_X3_knownHost : GoodIn wsX3_openFrom wsX3_knownHost := goodIn_ca (goodIn_r _ [6, 7, 8, 9, 13, 14, 15, 16, 17, 18, 19, 20, 21] (by decide +kernel) (by decide +kernel)) (goodIn_sub (fun _ h => List.mem_cons_of_mem _ (List.mem_append_right _ h)) (by decide +kernel))
set_option maxRecDepth 20000 in
theorem gX3_openFrom_X3_knownHost : GoodIn wsX3_openFrom (wsV RX3 71 RX3 yX3_knownHost wsX3_knownHost) := goodIn_app (goodIn_of _ (by decide +kernel)) ggX3_openFrom_X3_knownHost
theorem dX3_openFrom_0 : decode cX3_openFrom 0 = .ok (.aload_n 0, 1) := by decide +kernel
theorem dX3_openFrom_1 : decode cX3_openFrom 1 = .ok (.iload_n 1, 1) := by decide +kernel
theorem dX3_openFrom_2 : decode cX3_openFrom 2 = .ok (.invokevirtual 71, 3) := by decide +kernel
theorem dX3_openFrom_5 : decode cX3_openFrom 5 = .ok (.getfield 89, 3) := by decide +kernel
theorem dX3_openFrom_8 : decode cX3_openFrom 8 = .ok (.ireturn, 1) := by decide +kernel
set_option maxRecDepth 20000 in
theorem ggX3_find_X3_knownHost : GoodIn wsX3_find wsX3_knownHost := goodIn_ca (goodIn_r _ [18, 19, 20, 21, 97, 98, 99, 100, 101, 102, 103, 104, 105] (by decide +kernel) (by decide +kernel)) (goodIn_sub (fun _ h => List.mem_cons_of_mem _ (List.mem_append_left _ (List.mem_append_right _ h))) (by decide +kernel))
set_option maxRecDepth 20000 in
theorem gX3_find_X3_knownHost : GoodIn wsX3_find (wsV RX3 71 RX3 yX3_knownHost wsX3_knownHost) := goodIn_app (goodIn_of _ (by decide +kernel)) ggX3_find_X3_knownHost
set_option maxRecDepth 20000 in
theorem ggX3_find_X3_refuseOtherRanks : GoodIn wsX3_find wsX3_refuseOtherRanks := goodIn_ca (goodIn_r _ [24, 25, 26] (by decide +kernel) (by decide +kernel)) (goodIn_sub (fun _ h => List.mem_cons_of_mem _ (List.mem_append_right _ h)) (by decide +kernel))
set_option maxRecDepth 20000 in
theorem gX3_find_X3_refuseOtherRanks : GoodIn wsX3_find (va_wsS RX3 92 yX3_refuseOtherRanks wsX3_refuseOtherRanks) := goodIn_app (goodIn_of _ (by decide +kernel)) ggX3_find_X3_refuseOtherRanks
set_option maxRecDepth 20000 in
theorem ggX3_find_X3_pageAtBuffer : GoodIn wsX3_find wsX3_pageAtBuffer := goodIn_r _ [30, 5, 31, 32, 12, 33, 34, 35, 11, 36, 37, 38, 39, 40, 41, 42, 97, 98, 99, 100, 101, 102, 103, 104, 105, 87, 88, 89, 90, 91, 92, 93, 94, 95, 96, 106, 107, 108, 109] (by decide +kernel) (by decide +kernel)
set_option maxRecDepth 20000 in
theorem gX3_find_X3_pageAtBuffer : GoodIn wsX3_find (wsV RX3 96 RX3 yX3_pageAtBuffer wsX3_pageAtBuffer) := goodIn_app (goodIn_of _ (by decide +kernel)) ggX3_find_X3_pageAtBuffer
set_option maxRecDepth 20000 in
theorem ggX3_find_X0_init_ : GoodIn wsX3_find wsX0_init_ := goodIn_r _ [45, 46, 47, 48, 42, 49, 50, 51, 52, 53, 54, 55, 56, 57, 58, 59, 37, 60, 106, 107, 108, 109] (by decide +kernel) (by decide +kernel)
set_option maxRecDepth 20000 in
theorem gX3_find_X0_init_ : GoodIn wsX3_find (wsX0_init_) := ggX3_find_X0_init_
set_option maxRecDepth 20000 in
theorem ggX3_find_X2_init : GoodIn wsX3_find wsX2_init := goodIn_r _ [63, 64, 47, 48, 65, 66, 67, 68, 69, 70, 71, 72, 73, 11, 74, 75, 76, 77, 78, 60, 79, 80, 81, 82, 37, 83, 84, 85, 86, 55, 38, 39, 40, 41, 42, 87, 88, 89, 90, 91, 92, 93, 94, 95, 96, 106, 107, 108, 109] (by decide +kernel) (by decide +kernel)
set_option maxRecDepth 20000 in
theorem gX3_find_X2_init : GoodIn wsX3_find (wsX2_init) := ggX3_find_X2_init
theorem dX3_find_0 : decode cX3_find 0 = .ok (.aload_n 0, 1) := by decide +kernel
theorem dX3_find_1 : decode cX3_find 1 = .ok (.iload_n 1, 1) := by decide +kernel
theorem dX3_find_2 : decode cX3_find 2 = .ok (.invokevirtual 71, 3) := by decide +kernel
theorem dX3_find_5 : decode cX3_find 5 = .ok (.astore_n 3, 1) := by decide +kernel
theorem dX3_find_6 : decode cX3_find 6 = .ok (.iload_n 2, 1) := by decide +kernel
theorem dX3_find_7 : decode cX3_find 7 = .ok (.invokestatic 92, 3) := by decide +kernel
theorem dX3_find_10 : decode cX3_find 10 = .ok (.aload_n 0, 1) := by decide +kernel
theorem dX3_find_11 : decode cX3_find 11 = .ok (.aload_n 3, 1) := by decide +kernel
theorem dX3_find_12 : decode cX3_find 12 = .ok (.invokevirtual 96, 3) := by decide +kernel
theorem dX3_find_15 : decode cX3_find 15 = .ok (.astore 4, 2) := by decide +kernel
theorem dX3_find_17 : decode cX3_find 17 = .ok (.aload 4, 2) := by decide +kernel
theorem dX3_find_19 : decode cX3_find 19 = .ok (.ifnull 9, 3) := by decide +kernel
theorem dX3_find_22 : decode cX3_find 22 = .ok (.aload 4, 2) := by decide +kernel
theorem dX3_find_24 : decode cX3_find 24 = .ok (.getfield 100, 3) := by decide +kernel
theorem dX3_find_27 : decode cX3_find 27 = .ok (.ireturn, 1) := by decide +kernel
theorem dX3_find_28 : decode cX3_find 28 = .ok (.aload_n 0, 1) := by decide +kernel
theorem dX3_find_29 : decode cX3_find 29 = .ok (.getfield 103, 3) := by decide +kernel
theorem dX3_find_32 : decode cX3_find 32 = .ok (.istore 5, 2) := by decide +kernel
theorem dX3_find_34 : decode cX3_find 34 = .ok (.iload 5, 2) := by decide +kernel
theorem dX3_find_36 : decode cX3_find 36 = .ok (.ifCond .lt 13, 3) := by decide +kernel
theorem dX3_find_39 : decode cX3_find 39 = .ok (.iload 5, 2) := by decide +kernel
theorem dX3_find_41 : decode cX3_find 41 = .ok (.aload_n 0, 1) := by decide +kernel
theorem dX3_find_42 : decode cX3_find 42 = .ok (.getfield 25, 3) := by decide +kernel
theorem dX3_find_45 : decode cX3_find 45 = .ok (.arraylength, 1) := by decide +kernel
theorem dX3_find_46 : decode cX3_find 46 = .ok (.if_icmp .lt 13, 3) := by decide +kernel
theorem dX3_find_49 : decode cX3_find 49 = .ok (.new 50, 3) := by decide +kernel
theorem dX3_find_52 : decode cX3_find 52 = .ok (.dup, 1) := by decide +kernel
theorem dX3_find_53 : decode cX3_find 53 = .ok (.ldc 106, 2) := by decide +kernel
theorem dX3_find_55 : decode cX3_find 55 = .ok (.invokespecial 54, 3) := by decide +kernel
theorem dX3_find_58 : decode cX3_find 58 = .ok (.athrow, 1) := by decide +kernel
theorem dX3_find_59 : decode cX3_find 59 = .ok (.aload_n 0, 1) := by decide +kernel
theorem dX3_find_60 : decode cX3_find 60 = .ok (.getfield 25, 3) := by decide +kernel
theorem dX3_find_63 : decode cX3_find 63 = .ok (.iload 5, 2) := by decide +kernel
theorem dX3_find_65 : decode cX3_find 65 = .ok (.new 23, 3) := by decide +kernel
theorem dX3_find_68 : decode cX3_find 68 = .ok (.dup, 1) := by decide +kernel
theorem dX3_find_69 : decode cX3_find 69 = .ok (.iload 5, 2) := by decide +kernel
theorem dX3_find_71 : decode cX3_find 71 = .ok (.aload_n 3, 1) := by decide +kernel
theorem dX3_find_72 : decode cX3_find 72 = .ok (.new 7, 3) := by decide +kernel
theorem dX3_find_75 : decode cX3_find 75 = .ok (.dup, 1) := by decide +kernel
theorem dX3_find_76 : decode cX3_find 76 = .ok (.aload_n 0, 1) := by decide +kernel
theorem dX3_find_77 : decode cX3_find 77 = .ok (.getfield 10, 3) := by decide +kernel
theorem dX3_find_80 : decode cX3_find 80 = .ok (.invokespecial 108, 3) := by decide +kernel
theorem dX3_find_83 : decode cX3_find 83 = .ok (.iload_n 2, 1) := by decide +kernel
theorem dX3_find_84 : decode cX3_find 84 = .ok (.aload_n 0, 1) := by decide +kernel
theorem dX3_find_85 : decode cX3_find 85 = .ok (.getfield 111, 3) := by decide +kernel
theorem dX3_find_88 : decode cX3_find 88 = .ok (.invokespecial 114, 3) := by decide +kernel
theorem dX3_find_91 : decode cX3_find 91 = .ok (.aastore, 1) := by decide +kernel
theorem dX3_find_92 : decode cX3_find 92 = .ok (.aload_n 0, 1) := by decide +kernel
theorem dX3_find_93 : decode cX3_find 93 = .ok (.dup, 1) := by decide +kernel
theorem dX3_find_94 : decode cX3_find 94 = .ok (.getfield 103, 3) := by decide +kernel
theorem dX3_find_97 : decode cX3_find 97 = .ok (.iconst 1, 1) := by decide +kernel
theorem dX3_find_98 : decode cX3_find 98 = .ok (.iadd, 1) := by decide +kernel
theorem dX3_find_99 : decode cX3_find 99 = .ok (.putfield 103, 3) := by decide +kernel
theorem dX3_find_102 : decode cX3_find 102 = .ok (.iload 5, 2) := by decide +kernel
theorem dX3_find_104 : decode cX3_find 104 = .ok (.ireturn, 1) := by decide +kernel
set_option maxRecDepth 20000 in
theorem ggX3_setRank_X3_knownPage : GoodIn wsX3_setRank wsX3_knownPage := goodIn_ca (goodIn_r _ [6, 7, 8, 9, 25, 26, 27, 28, 29, 30, 31, 32, 33] (by decide +kernel) (by decide +kernel)) (goodIn_sub (fun _ h => List.mem_cons_of_mem _ (List.mem_append_left _ (List.mem_append_right _ h))) (by decide +kernel))
set_option maxRecDepth 20000 in
theorem gX3_setRank_X3_knownPage : GoodIn wsX3_setRank (wsV RX3 117 RX3 yX3_knownPage wsX3_knownPage) := goodIn_app (goodIn_of _ (by decide +kernel)) ggX3_setRank_X3_knownPage
set_option maxRecDepth 20000 in
theorem ggX3_setRank_X3_refuseOtherRanks : GoodIn wsX3_setRank wsX3_refuseOtherRanks := goodIn_ca (goodIn_r _ [12, 13, 14] (by decide +kernel) (by decide +kernel)) (goodIn_sub (fun _ h => List.mem_cons_of_mem _ (List.mem_append_right _ h)) (by decide +kernel))
set_option maxRecDepth 20000 in
theorem gX3_setRank_X3_refuseOtherRanks : GoodIn wsX3_setRank (va_wsS RX3 92 yX3_refuseOtherRanks wsX3_refuseOtherRanks) := goodIn_app (goodIn_of _ (by decide +kernel)) ggX3_setRank_X3_refuseOtherRanks
end
section
theorem dX3_setRank_0 : decode cX3_setRank 0 = .ok (.aload_n 0, 1) := by decide +kernel
theorem dX3_setRank_1 : decode cX3_setRank 1 = .ok (.iload_n 1, 1) := by decide +kernel
theorem dX3_setRank_2 : decode cX3_setRank 2 = .ok (.invokevirtual 117, 3) := by decide +kernel
theorem dX3_setRank_5 : decode cX3_setRank 5 = .ok (.astore_n 3, 1) := by decide +kernel
theorem dX3_setRank_6 : decode cX3_setRank 6 = .ok (.iload_n 2, 1) := by decide +kernel
theorem dX3_setRank_7 : decode cX3_setRank 7 = .ok (.invokestatic 92, 3) := by decide +kernel
theorem dX3_setRank_10 : decode cX3_setRank 10 = .ok (.aload_n 3, 1) := by decide +kernel
theorem dX3_setRank_11 : decode cX3_setRank 11 = .ok (.getfield 121, 3) := by decide +kernel
theorem dX3_setRank_14 : decode cX3_setRank 14 = .ok (.istore 4, 2) := by decide +kernel
theorem dX3_setRank_16 : decode cX3_setRank 16 = .ok (.aload_n 3, 1) := by decide +kernel
theorem dX3_setRank_17 : decode cX3_setRank 17 = .ok (.iload_n 2, 1) := by decide +kernel
theorem dX3_setRank_18 : decode cX3_setRank 18 = .ok (.putfield 121, 3) := by decide +kernel
theorem dX3_setRank_21 : decode cX3_setRank 21 = .ok (.iload 4, 2) := by decide +kernel
theorem dX3_setRank_23 : decode cX3_setRank 23 = .ok (.ireturn, 1) := by decide +kernel
theorem dX3_pages_0 : decode cX3_pages 0 = .ok (.aload_n 0, 1) := by decide +kernel
theorem dX3_pages_1 : decode cX3_pages 1 = .ok (.getfield 103, 3) := by decide +kernel
theorem dX3_pages_4 : decode cX3_pages 4 = .ok (.ireturn, 1) := by decide +kernel
set_option maxRecDepth 20000 in
theorem ggX3_dueAt_X3_knownPage : GoodIn wsX3_dueAt wsX3_knownPage := goodIn_ca (goodIn_r _ [6, 7, 8, 9, 27, 28, 29, 30, 31, 32, 33, 34, 35] (by decide +kernel) (by decide +kernel)) (goodIn_sub (fun _ h => List.mem_cons_of_mem _ (List.mem_append_right _ h)) (by decide +kernel))
set_option maxRecDepth 20000 in
theorem gX3_dueAt_X3_knownPage : GoodIn wsX3_dueAt (wsV RX3 117 RX3 yX3_knownPage wsX3_knownPage) := goodIn_app (goodIn_of _ (by decide +kernel)) ggX3_dueAt_X3_knownPage
set_option maxRecDepth 20000 in
theorem ggX3_dueAt_X2_isKept : GoodIn wsX3_dueAt wsX2_isKept := goodIn_r _ [14, 15, 16, 17, 18, 19, 20, 21, 22, 23, 24, 25, 26] (by decide +kernel) (by decide +kernel)
set_option maxRecDepth 20000 in
theorem gX3_dueAt_X2_isKept : GoodIn wsX3_dueAt (wsV RX3 124 RX2 yX2_isKept wsX2_isKept) := goodIn_app (goodIn_of _ (by decide +kernel)) ggX3_dueAt_X2_isKept
theorem dX3_dueAt_0 : decode cX3_dueAt 0 = .ok (.aload_n 0, 1) := by decide +kernel
theorem dX3_dueAt_1 : decode cX3_dueAt 1 = .ok (.iload_n 1, 1) := by decide +kernel
theorem dX3_dueAt_2 : decode cX3_dueAt 2 = .ok (.invokevirtual 117, 3) := by decide +kernel
theorem dX3_dueAt_5 : decode cX3_dueAt 5 = .ok (.astore_n 2, 1) := by decide +kernel
theorem dX3_dueAt_6 : decode cX3_dueAt 6 = .ok (.aload_n 2, 1) := by decide +kernel
theorem dX3_dueAt_7 : decode cX3_dueAt 7 = .ok (.invokevirtual 124, 3) := by decide +kernel
theorem dX3_dueAt_10 : decode cX3_dueAt 10 = .ok (.ifCond .eq 10, 3) := by decide +kernel
theorem dX3_dueAt_13 : decode cX3_dueAt 13 = .ok (.aload_n 2, 1) := by decide +kernel
theorem dX3_dueAt_14 : decode cX3_dueAt 14 = .ok (.getfield 127, 3) := by decide +kernel
theorem dX3_dueAt_17 : decode cX3_dueAt 17 = .ok (.goto 4, 3) := by decide +kernel
theorem dX3_dueAt_20 : decode cX3_dueAt 20 = .ok (.iconst (-1), 1) := by decide +kernel
theorem dX3_dueAt_21 : decode cX3_dueAt 21 = .ok (.ireturn, 1) := by decide +kernel
set_option maxRecDepth 20000 in
theorem ggX3_visits_X3_knownPage : GoodIn wsX3_visits wsX3_knownPage := goodIn_ca (goodIn_r _ [6, 7, 8, 9, 20, 21, 22, 23, 24, 25, 26, 27, 28] (by decide +kernel) (by decide +kernel)) (goodIn_sub (fun _ h => List.mem_cons_of_mem _ (List.mem_append_right _ h)) (by decide +kernel))
set_option maxRecDepth 20000 in
theorem gX3_visits_X3_knownPage : GoodIn wsX3_visits (wsV RX3 117 RX3 yX3_knownPage wsX3_knownPage) := goodIn_app (goodIn_of _ (by decide +kernel)) ggX3_visits_X3_knownPage
theorem dX3_visits_0 : decode cX3_visits 0 = .ok (.aload_n 0, 1) := by decide +kernel
theorem dX3_visits_1 : decode cX3_visits 1 = .ok (.iload_n 1, 1) := by decide +kernel
theorem dX3_visits_2 : decode cX3_visits 2 = .ok (.invokevirtual 117, 3) := by decide +kernel
theorem dX3_visits_5 : decode cX3_visits 5 = .ok (.getfield 130, 3) := by decide +kernel
theorem dX3_visits_8 : decode cX3_visits 8 = .ok (.ireturn, 1) := by decide +kernel
set_option maxRecDepth 20000 in
theorem ggX3_changes_X3_knownPage : GoodIn wsX3_changes wsX3_knownPage := goodIn_ca (goodIn_r _ [6, 7, 8, 9, 20, 21, 22, 23, 24, 25, 26, 27, 28] (by decide +kernel) (by decide +kernel)) (goodIn_sub (fun _ h => List.mem_cons_of_mem _ (List.mem_append_right _ h)) (by decide +kernel))
set_option maxRecDepth 20000 in
theorem gX3_changes_X3_knownPage : GoodIn wsX3_changes (wsV RX3 117 RX3 yX3_knownPage wsX3_knownPage) := goodIn_app (goodIn_of _ (by decide +kernel)) ggX3_changes_X3_knownPage
theorem dX3_changes_0 : decode cX3_changes 0 = .ok (.aload_n 0, 1) := by decide +kernel
theorem dX3_changes_1 : decode cX3_changes 1 = .ok (.iload_n 1, 1) := by decide +kernel
theorem dX3_changes_2 : decode cX3_changes 2 = .ok (.invokevirtual 117, 3) := by decide +kernel
theorem dX3_changes_5 : decode cX3_changes 5 = .ok (.getfield 133, 3) := by decide +kernel
theorem dX3_changes_8 : decode cX3_changes 8 = .ok (.ireturn, 1) := by decide +kernel
set_option maxRecDepth 20000 in
theorem ggX3_mayVisit_X3_knownPage : GoodIn wsX3_mayVisit wsX3_knownPage := goodIn_ca (goodIn_r _ [5, 6, 7, 8, 42, 43, 44, 45, 46, 47, 48, 49, 50] (by decide +kernel) (by decide +kernel)) (goodIn_sub (fun _ h => List.mem_cons_of_mem _ (List.mem_append_right _ h)) (by decide +kernel))
set_option maxRecDepth 20000 in
theorem gX3_mayVisit_X3_knownPage : GoodIn wsX3_mayVisit (wsV RX3 117 RX3 yX3_knownPage wsX3_knownPage) := goodIn_app (goodIn_of _ (by decide +kernel)) ggX3_mayVisit_X3_knownPage
set_option maxRecDepth 20000 in
theorem ggX3_mayVisit_X3_isReady : GoodIn wsX3_mayVisit wsX3_isReady := goodIn_r _ [12, 13, 14, 15, 16, 17, 18, 19, 20, 21, 22, 23, 4, 24, 25, 26, 27, 28, 29, 30, 31, 32, 33, 34, 35, 36, 37, 38, 39, 40, 41, 42, 43, 44, 45, 46, 47, 48, 49, 50, 51, 52, 53, 54, 55, 56, 57, 58, 59, 60, 61, 62, 63] (by decide +kernel) (by decide +kernel)
set_option maxRecDepth 20000 in
theorem gX3_mayVisit_X3_isReady : GoodIn wsX3_mayVisit (wsV RX3 136 RX3 yX3_isReady wsX3_isReady) := goodIn_app (goodIn_of _ (by decide +kernel)) ggX3_mayVisit_X3_isReady
theorem dX3_mayVisit_0 : decode cX3_mayVisit 0 = .ok (.aload_n 0, 1) := by decide +kernel
theorem dX3_mayVisit_1 : decode cX3_mayVisit 1 = .ok (.aload_n 0, 1) := by decide +kernel
theorem dX3_mayVisit_2 : decode cX3_mayVisit 2 = .ok (.iload_n 1, 1) := by decide +kernel
theorem dX3_mayVisit_3 : decode cX3_mayVisit 3 = .ok (.invokevirtual 117, 3) := by decide +kernel
theorem dX3_mayVisit_6 : decode cX3_mayVisit 6 = .ok (.invokevirtual 136, 3) := by decide +kernel
theorem dX3_mayVisit_9 : decode cX3_mayVisit 9 = .ok (.ireturn, 1) := by decide +kernel
set_option maxRecDepth 20000 in
theorem ggX3_next_X3_firstOfHost : GoodIn wsX3_next wsX3_firstOfHost := goodIn_r _ [6, 7, 8, 9, 10, 11, 5, 12, 13, 14, 15, 16, 17, 18, 19, 20, 21, 22, 23, 24, 25, 26, 27, 28, 29, 30, 31, 32, 33, 34, 35, 36, 37, 38, 39, 40, 41, 42, 43, 44, 45, 46, 47, 48, 49, 50, 51, 52, 53, 54, 55, 56, 60, 61, 62, 63, 64, 65, 66, 67, 68, 69, 70, 71, 72, 73, 74, 75, 76, 77, 78, 79, 80, 81] (by decide +kernel) (by decide +kernel)
set_option maxRecDepth 20000 in
theorem gX3_next_X3_firstOfHost : GoodIn wsX3_next (wsV RX3 140 RX3 yX3_firstOfHost wsX3_firstOfHost) := goodIn_app (goodIn_of _ (by decide +kernel)) ggX3_next_X3_firstOfHost
set_option maxRecDepth 20000 in
theorem ggX3_next_X3_earlier : GoodIn wsX3_next wsX3_earlier := goodIn_r _ [44, 45, 46, 47, 5, 48, 13, 49, 50, 51, 52, 53, 17, 54, 55, 56, 60, 61, 62, 63, 64, 65, 66, 67, 68, 69, 70, 71, 72, 73, 74, 75, 76, 77, 78] (by decide +kernel) (by decide +kernel)
set_option maxRecDepth 20000 in
theorem gX3_next_X3_earlier : GoodIn wsX3_next (wsV RX3 143 RX3 yX3_earlier wsX3_earlier) := goodIn_app (goodIn_of _ (by decide +kernel)) ggX3_next_X3_earlier
set_option maxRecDepth 20000 in
theorem ggX3_next_X3_numberOf : GoodIn wsX3_next wsX3_numberOf := goodIn_r _ [59, 50, 69, 70, 71, 72, 73, 74, 75, 76, 77, 78] (by decide +kernel) (by decide +kernel)
set_option maxRecDepth 20000 in
theorem gX3_next_X3_numberOf : GoodIn wsX3_next (va_wsS RX3 147 yX3_numberOf wsX3_numberOf) := goodIn_app (goodIn_of _ (by decide +kernel)) ggX3_next_X3_numberOf
theorem dX3_next_0 : decode cX3_next 0 = .ok (.aconst_null, 1) := by decide +kernel
theorem dX3_next_1 : decode cX3_next 1 = .ok (.astore_n 1, 1) := by decide +kernel
theorem dX3_next_2 : decode cX3_next 2 = .ok (.aload_n 0, 1) := by decide +kernel
theorem dX3_next_3 : decode cX3_next 3 = .ok (.getfield 18, 3) := by decide +kernel
theorem dX3_next_6 : decode cX3_next 6 = .ok (.astore_n 2, 1) := by decide +kernel
theorem dX3_next_7 : decode cX3_next 7 = .ok (.aload_n 2, 1) := by decide +kernel
theorem dX3_next_8 : decode cX3_next 8 = .ok (.arraylength, 1) := by decide +kernel
theorem dX3_next_9 : decode cX3_next 9 = .ok (.istore_n 3, 1) := by decide +kernel
theorem dX3_next_10 : decode cX3_next 10 = .ok (.iconst 0, 1) := by decide +kernel
theorem dX3_next_11 : decode cX3_next 11 = .ok (.istore 4, 2) := by decide +kernel
theorem dX3_next_13 : decode cX3_next 13 = .ok (.iload 4, 2) := by decide +kernel
theorem dX3_next_15 : decode cX3_next 15 = .ok (.iload_n 3, 1) := by decide +kernel
theorem dX3_next_16 : decode cX3_next 16 = .ok (.if_icmp .ge 27, 3) := by decide +kernel
theorem dX3_next_19 : decode cX3_next 19 = .ok (.aload_n 2, 1) := by decide +kernel
theorem dX3_next_20 : decode cX3_next 20 = .ok (.iload 4, 2) := by decide +kernel
theorem dX3_next_22 : decode cX3_next 22 = .ok (.aaload, 1) := by decide +kernel
theorem dX3_next_23 : decode cX3_next 23 = .ok (.astore 5, 2) := by decide +kernel
theorem dX3_next_25 : decode cX3_next 25 = .ok (.aload_n 0, 1) := by decide +kernel
theorem dX3_next_26 : decode cX3_next 26 = .ok (.aload_n 1, 1) := by decide +kernel
theorem dX3_next_27 : decode cX3_next 27 = .ok (.aload_n 0, 1) := by decide +kernel
theorem dX3_next_28 : decode cX3_next 28 = .ok (.aload 5, 2) := by decide +kernel
theorem dX3_next_30 : decode cX3_next 30 = .ok (.invokevirtual 140, 3) := by decide +kernel
theorem dX3_next_33 : decode cX3_next 33 = .ok (.invokevirtual 143, 3) := by decide +kernel
theorem dX3_next_36 : decode cX3_next 36 = .ok (.astore_n 1, 1) := by decide +kernel
theorem dX3_next_37 : decode cX3_next 37 = .ok (.iinc 4 1, 3) := by decide +kernel
theorem dX3_next_40 : decode cX3_next 40 = .ok (.goto (-27), 3) := by decide +kernel
theorem dX3_next_43 : decode cX3_next 43 = .ok (.aload_n 1, 1) := by decide +kernel
theorem dX3_next_44 : decode cX3_next 44 = .ok (.invokestatic 147, 3) := by decide +kernel
theorem dX3_next_47 : decode cX3_next 47 = .ok (.ireturn, 1) := by decide +kernel
set_option maxRecDepth 20000 in
theorem ggX3_nextByScan_X3_isReady : GoodIn wsX3_nextByScan wsX3_isReady := goodIn_r _ [6, 7, 8, 9, 10, 11, 12, 13, 14, 15, 16, 17, 5, 18, 19, 20, 21, 22, 23, 24, 25, 26, 27, 28, 29, 30, 31, 32, 33, 34, 35, 55, 56, 57, 58, 59, 60, 61, 62, 63, 64, 65, 66, 67, 68, 69, 70, 71, 72, 73, 74, 75, 76] (by decide +kernel) (by decide +kernel)
set_option maxRecDepth 20000 in
theorem gX3_nextByScan_X3_isReady : GoodIn wsX3_nextByScan (wsV RX3 136 RX3 yX3_isReady wsX3_isReady) := goodIn_app (goodIn_of _ (by decide +kernel)) ggX3_nextByScan_X3_isReady
set_option maxRecDepth 20000 in
theorem ggX3_nextByScan_X3_earlier : GoodIn wsX3_nextByScan wsX3_earlier := goodIn_r _ [39, 40, 41, 42, 5, 43, 7, 44, 45, 46, 47, 48, 11, 49, 50, 51, 55, 56, 57, 58, 59, 60, 61, 62, 63, 64, 65, 66, 67, 68, 69, 70, 71, 72, 73] (by decide +kernel) (by decide +kernel)
set_option maxRecDepth 20000 in
theorem gX3_nextByScan_X3_earlier : GoodIn wsX3_nextByScan (wsV RX3 143 RX3 yX3_earlier wsX3_earlier) := goodIn_app (goodIn_of _ (by decide +kernel)) ggX3_nextByScan_X3_earlier
set_option maxRecDepth 20000 in
theorem ggX3_nextByScan_X3_numberOf : GoodIn wsX3_nextByScan wsX3_numberOf := goodIn_r _ [54, 45, 64, 65, 66, 67, 68, 69, 70, 71, 72, 73] (by decide +kernel) (by decide +kernel)
set_option maxRecDepth 20000 in
theorem gX3_nextByScan_X3_numberOf : GoodIn wsX3_nextByScan (va_wsS RX3 147 yX3_numberOf wsX3_numberOf) := goodIn_app (goodIn_of _ (by decide +kernel)) ggX3_nextByScan_X3_numberOf
theorem dX3_nextByScan_0 : decode cX3_nextByScan 0 = .ok (.aconst_null, 1) := by decide +kernel
theorem dX3_nextByScan_1 : decode cX3_nextByScan 1 = .ok (.astore_n 1, 1) := by decide +kernel
theorem dX3_nextByScan_2 : decode cX3_nextByScan 2 = .ok (.aload_n 0, 1) := by decide +kernel
theorem dX3_nextByScan_3 : decode cX3_nextByScan 3 = .ok (.getfield 25, 3) := by decide +kernel
theorem dX3_nextByScan_6 : decode cX3_nextByScan 6 = .ok (.astore_n 2, 1) := by decide +kernel
theorem dX3_nextByScan_7 : decode cX3_nextByScan 7 = .ok (.aload_n 2, 1) := by decide +kernel
theorem dX3_nextByScan_8 : decode cX3_nextByScan 8 = .ok (.arraylength, 1) := by decide +kernel
theorem dX3_nextByScan_9 : decode cX3_nextByScan 9 = .ok (.istore_n 3, 1) := by decide +kernel
theorem dX3_nextByScan_10 : decode cX3_nextByScan 10 = .ok (.iconst 0, 1) := by decide +kernel
theorem dX3_nextByScan_11 : decode cX3_nextByScan 11 = .ok (.istore 4, 2) := by decide +kernel
theorem dX3_nextByScan_13 : decode cX3_nextByScan 13 = .ok (.iload 4, 2) := by decide +kernel
theorem dX3_nextByScan_15 : decode cX3_nextByScan 15 = .ok (.iload_n 3, 1) := by decide +kernel
theorem dX3_nextByScan_16 : decode cX3_nextByScan 16 = .ok (.if_icmp .ge 37, 3) := by decide +kernel
theorem dX3_nextByScan_19 : decode cX3_nextByScan 19 = .ok (.aload_n 2, 1) := by decide +kernel
theorem dX3_nextByScan_20 : decode cX3_nextByScan 20 = .ok (.iload 4, 2) := by decide +kernel
theorem dX3_nextByScan_22 : decode cX3_nextByScan 22 = .ok (.aaload, 1) := by decide +kernel
theorem dX3_nextByScan_23 : decode cX3_nextByScan 23 = .ok (.astore 5, 2) := by decide +kernel
theorem dX3_nextByScan_25 : decode cX3_nextByScan 25 = .ok (.aload 5, 2) := by decide +kernel
theorem dX3_nextByScan_27 : decode cX3_nextByScan 27 = .ok (.ifnull 20, 3) := by decide +kernel
theorem dX3_nextByScan_30 : decode cX3_nextByScan 30 = .ok (.aload_n 0, 1) := by decide +kernel
theorem dX3_nextByScan_31 : decode cX3_nextByScan 31 = .ok (.aload 5, 2) := by decide +kernel
theorem dX3_nextByScan_33 : decode cX3_nextByScan 33 = .ok (.invokevirtual 136, 3) := by decide +kernel
theorem dX3_nextByScan_36 : decode cX3_nextByScan 36 = .ok (.ifCond .eq 11, 3) := by decide +kernel
theorem dX3_nextByScan_39 : decode cX3_nextByScan 39 = .ok (.aload_n 0, 1) := by decide +kernel
theorem dX3_nextByScan_40 : decode cX3_nextByScan 40 = .ok (.aload_n 1, 1) := by decide +kernel
theorem dX3_nextByScan_41 : decode cX3_nextByScan 41 = .ok (.aload 5, 2) := by decide +kernel
theorem dX3_nextByScan_43 : decode cX3_nextByScan 43 = .ok (.invokevirtual 143, 3) := by decide +kernel
theorem dX3_nextByScan_46 : decode cX3_nextByScan 46 = .ok (.astore_n 1, 1) := by decide +kernel
theorem dX3_nextByScan_47 : decode cX3_nextByScan 47 = .ok (.iinc 4 1, 3) := by decide +kernel
theorem dX3_nextByScan_50 : decode cX3_nextByScan 50 = .ok (.goto (-37), 3) := by decide +kernel
theorem dX3_nextByScan_53 : decode cX3_nextByScan 53 = .ok (.aload_n 1, 1) := by decide +kernel
theorem dX3_nextByScan_54 : decode cX3_nextByScan 54 = .ok (.invokestatic 147, 3) := by decide +kernel
theorem dX3_nextByScan_57 : decode cX3_nextByScan 57 = .ok (.ireturn, 1) := by decide +kernel
set_option maxRecDepth 20000 in
theorem ggX3_visit_X3_knownPage : GoodIn wsX3_visit wsX3_knownPage := goodIn_ca (goodIn_r _ [13, 14, 15, 16, 75, 76, 77, 78, 79, 80, 81, 82, 83] (by decide +kernel) (by decide +kernel)) (goodIn_sub (fun _ h => List.mem_cons_of_mem _ (List.mem_append_right _ h)) (by decide +kernel))
set_option maxRecDepth 20000 in
theorem gX3_visit_X3_knownPage : GoodIn wsX3_visit (wsV RX3 117 RX3 yX3_knownPage wsX3_knownPage) := goodIn_app (goodIn_of _ (by decide +kernel)) ggX3_visit_X3_knownPage
set_option maxRecDepth 20000 in
theorem ggX3_visit_X3_isReady : GoodIn wsX3_visit wsX3_isReady := goodIn_r _ [20, 7, 21, 22, 23, 24, 25, 26, 27, 28, 29, 30, 12, 31, 32, 6, 8, 33, 34, 35, 36, 37, 38, 39, 40, 41, 5, 42, 43, 44, 45, 75, 76, 77, 78, 79, 80, 81, 82, 83, 84, 85, 86, 87, 88, 89, 90, 91, 92, 93, 94, 95, 96] (by decide +kernel) (by decide +kernel)
set_option maxRecDepth 20000 in
theorem gX3_visit_X3_isReady : GoodIn wsX3_visit (wsV RX3 136 RX3 yX3_isReady wsX3_isReady) := goodIn_app (goodIn_of _ (by decide +kernel)) ggX3_visit_X3_isReady
set_option maxRecDepth 20000 in
theorem ggX3_visit_X3_settle : GoodIn wsX3_visit wsX3_settle := goodIn_r _ [49, 6, 50, 7, 51, 32, 52, 53, 54, 55, 56, 57, 12, 58, 59, 60, 61, 35, 62, 63, 64, 65, 84, 85, 86, 87, 88, 89, 90, 91, 92, 93, 94, 95, 96, 75, 76, 77, 78, 79, 80, 81, 82, 83] (by decide +kernel) (by decide +kernel)
set_option maxRecDepth 20000 in
theorem gX3_visit_X3_settle : GoodIn wsX3_visit (wsV RX3 158 RX3 yX3_settle wsX3_settle) := goodIn_app (goodIn_of _ (by decide +kernel)) ggX3_visit_X3_settle
set_option maxRecDepth 20000 in
theorem ggX3_visit_X1_restFrom : GoodIn wsX3_visit wsX1_restFrom := goodIn_r _ [70, 71, 72, 73, 61, 35, 62, 74, 94, 95, 96] (by decide +kernel) (by decide +kernel)
set_option maxRecDepth 20000 in
theorem gX3_visit_X1_restFrom : GoodIn wsX3_visit (wsV RX3 166 RX1 yX1_restFrom wsX1_restFrom) := goodIn_app (goodIn_of _ (by decide +kernel)) ggX3_visit_X1_restFrom
theorem dX3_visit_0 : decode cX3_visit 0 = .ok (.aload_n 0, 1) := by decide +kernel
theorem dX3_visit_1 : decode cX3_visit 1 = .ok (.iload_n 1, 1) := by decide +kernel
theorem dX3_visit_2 : decode cX3_visit 2 = .ok (.invokevirtual 117, 3) := by decide +kernel
theorem dX3_visit_5 : decode cX3_visit 5 = .ok (.astore_n 3, 1) := by decide +kernel
theorem dX3_visit_6 : decode cX3_visit 6 = .ok (.iload_n 2, 1) := by decide +kernel
theorem dX3_visit_7 : decode cX3_visit 7 = .ok (.ifCond .lt 8, 3) := by decide +kernel
theorem dX3_visit_10 : decode cX3_visit 10 = .ok (.iload_n 2, 1) := by decide +kernel
theorem dX3_visit_11 : decode cX3_visit 11 = .ok (.iconst 3, 1) := by decide +kernel
theorem dX3_visit_12 : decode cX3_visit 12 = .ok (.if_icmp .le 13, 3) := by decide +kernel
theorem dX3_visit_15 : decode cX3_visit 15 = .ok (.new 39, 3) := by decide +kernel
theorem dX3_visit_18 : decode cX3_visit 18 = .ok (.dup, 1) := by decide +kernel
theorem dX3_visit_19 : decode cX3_visit 19 = .ok (.ldc 151, 2) := by decide +kernel
theorem dX3_visit_21 : decode cX3_visit 21 = .ok (.invokespecial 43, 3) := by decide +kernel
theorem dX3_visit_24 : decode cX3_visit 24 = .ok (.athrow, 1) := by decide +kernel
theorem dX3_visit_25 : decode cX3_visit 25 = .ok (.aload_n 0, 1) := by decide +kernel
theorem dX3_visit_26 : decode cX3_visit 26 = .ok (.aload_n 3, 1) := by decide +kernel
theorem dX3_visit_27 : decode cX3_visit 27 = .ok (.invokevirtual 136, 3) := by decide +kernel
theorem dX3_visit_30 : decode cX3_visit 30 = .ok (.ifCond .ne 13, 3) := by decide +kernel
theorem dX3_visit_33 : decode cX3_visit 33 = .ok (.new 50, 3) := by decide +kernel
theorem dX3_visit_36 : decode cX3_visit 36 = .ok (.dup, 1) := by decide +kernel
theorem dX3_visit_37 : decode cX3_visit 37 = .ok (.ldc 153, 2) := by decide +kernel
theorem dX3_visit_39 : decode cX3_visit 39 = .ok (.invokespecial 54, 3) := by decide +kernel
theorem dX3_visit_42 : decode cX3_visit 42 = .ok (.athrow, 1) := by decide +kernel
theorem dX3_visit_43 : decode cX3_visit 43 = .ok (.aload_n 0, 1) := by decide +kernel
theorem dX3_visit_44 : decode cX3_visit 44 = .ok (.dup, 1) := by decide +kernel
theorem dX3_visit_45 : decode cX3_visit 45 = .ok (.getfield 155, 3) := by decide +kernel
theorem dX3_visit_48 : decode cX3_visit 48 = .ok (.iconst 1, 1) := by decide +kernel
theorem dX3_visit_49 : decode cX3_visit 49 = .ok (.iadd, 1) := by decide +kernel
theorem dX3_visit_50 : decode cX3_visit 50 = .ok (.putfield 155, 3) := by decide +kernel
theorem dX3_visit_53 : decode cX3_visit 53 = .ok (.aload_n 0, 1) := by decide +kernel
theorem dX3_visit_54 : decode cX3_visit 54 = .ok (.aload_n 3, 1) := by decide +kernel
theorem dX3_visit_55 : decode cX3_visit 55 = .ok (.iload_n 2, 1) := by decide +kernel
theorem dX3_visit_56 : decode cX3_visit 56 = .ok (.invokevirtual 158, 3) := by decide +kernel
theorem dX3_visit_59 : decode cX3_visit 59 = .ok (.aload_n 3, 1) := by decide +kernel
theorem dX3_visit_60 : decode cX3_visit 60 = .ok (.getfield 162, 3) := by decide +kernel
theorem dX3_visit_63 : decode cX3_visit 63 = .ok (.aload_n 0, 1) := by decide +kernel
theorem dX3_visit_64 : decode cX3_visit 64 = .ok (.getfield 111, 3) := by decide +kernel
theorem dX3_visit_67 : decode cX3_visit 67 = .ok (.invokevirtual 166, 3) := by decide +kernel
theorem dX3_visit_70 : decode cX3_visit 70 = .ok (.aload_n 3, 1) := by decide +kernel
theorem dX3_visit_71 : decode cX3_visit 71 = .ok (.getfield 162, 3) := by decide +kernel
theorem dX3_visit_74 : decode cX3_visit 74 = .ok (.getfield 89, 3) := by decide +kernel
theorem dX3_visit_77 : decode cX3_visit 77 = .ok (.ireturn, 1) := by decide +kernel
set_option maxRecDepth 20000 in
theorem ggX3_pass_X3_startOfNextSpan : GoodIn wsX3_pass wsX3_startOfNextSpan := goodIn_r _ [12, 5, 13, 14, 15, 16, 17, 18, 19, 20, 21] (by decide +kernel) (by decide +kernel)
set_option maxRecDepth 20000 in
theorem gX3_pass_X3_startOfNextSpan : GoodIn wsX3_pass (wsV RX3 174 RX3 yX3_startOfNextSpan wsX3_startOfNextSpan) := goodIn_app (goodIn_of _ (by decide +kernel)) ggX3_pass_X3_startOfNextSpan
theorem dX3_pass_0 : decode cX3_pass 0 = .ok (.iload_n 1, 1) := by decide +kernel
theorem dX3_pass_1 : decode cX3_pass 1 = .ok (.iconst 1, 1) := by decide +kernel
theorem dX3_pass_2 : decode cX3_pass 2 = .ok (.if_icmp .lt 10, 3) := by decide +kernel
theorem dX3_pass_5 : decode cX3_pass 5 = .ok (.iload_n 1, 1) := by decide +kernel
theorem dX3_pass_6 : decode cX3_pass 6 = .ok (.sipush 1000, 3) := by decide +kernel
theorem dX3_pass_9 : decode cX3_pass 9 = .ok (.if_icmp .le 13, 3) := by decide +kernel
theorem dX3_pass_12 : decode cX3_pass 12 = .ok (.new 39, 3) := by decide +kernel
theorem dX3_pass_15 : decode cX3_pass 15 = .ok (.dup, 1) := by decide +kernel
theorem dX3_pass_16 : decode cX3_pass 16 = .ok (.ldc 169, 2) := by decide +kernel
theorem dX3_pass_18 : decode cX3_pass 18 = .ok (.invokespecial 43, 3) := by decide +kernel
theorem dX3_pass_21 : decode cX3_pass 21 = .ok (.athrow, 1) := by decide +kernel
theorem dX3_pass_22 : decode cX3_pass 22 = .ok (.aload_n 0, 1) := by decide +kernel
theorem dX3_pass_23 : decode cX3_pass 23 = .ok (.getfield 111, 3) := by decide +kernel
theorem dX3_pass_26 : decode cX3_pass 26 = .ok (.iload_n 1, 1) := by decide +kernel
theorem dX3_pass_27 : decode cX3_pass 27 = .ok (.iadd, 1) := by decide +kernel
theorem dX3_pass_28 : decode cX3_pass 28 = .ok (.ldc 171, 2) := by decide +kernel
theorem dX3_pass_30 : decode cX3_pass 30 = .ok (.if_icmp .le 13, 3) := by decide +kernel
theorem dX3_pass_33 : decode cX3_pass 33 = .ok (.new 50, 3) := by decide +kernel
theorem dX3_pass_36 : decode cX3_pass 36 = .ok (.dup, 1) := by decide +kernel
theorem dX3_pass_37 : decode cX3_pass 37 = .ok (.ldc 172, 2) := by decide +kernel
theorem dX3_pass_39 : decode cX3_pass 39 = .ok (.invokespecial 54, 3) := by decide +kernel
theorem dX3_pass_42 : decode cX3_pass 42 = .ok (.athrow, 1) := by decide +kernel
theorem dX3_pass_43 : decode cX3_pass 43 = .ok (.aload_n 0, 1) := by decide +kernel
theorem dX3_pass_44 : decode cX3_pass 44 = .ok (.getfield 111, 3) := by decide +kernel
theorem dX3_pass_47 : decode cX3_pass 47 = .ok (.iload_n 1, 1) := by decide +kernel
theorem dX3_pass_48 : decode cX3_pass 48 = .ok (.iadd, 1) := by decide +kernel
theorem dX3_pass_49 : decode cX3_pass 49 = .ok (.aload_n 0, 1) := by decide +kernel
theorem dX3_pass_50 : decode cX3_pass 50 = .ok (.invokevirtual 174, 3) := by decide +kernel
theorem dX3_pass_53 : decode cX3_pass 53 = .ok (.if_icmp .lt 8, 3) := by decide +kernel
theorem dX3_pass_56 : decode cX3_pass 56 = .ok (.aload_n 0, 1) := by decide +kernel
theorem dX3_pass_57 : decode cX3_pass 57 = .ok (.iconst 0, 1) := by decide +kernel
theorem dX3_pass_58 : decode cX3_pass 58 = .ok (.putfield 155, 3) := by decide +kernel
theorem dX3_pass_61 : decode cX3_pass 61 = .ok (.aload_n 0, 1) := by decide +kernel
theorem dX3_pass_62 : decode cX3_pass 62 = .ok (.dup, 1) := by decide +kernel
theorem dX3_pass_63 : decode cX3_pass 63 = .ok (.getfield 111, 3) := by decide +kernel
theorem dX3_pass_66 : decode cX3_pass 66 = .ok (.iload_n 1, 1) := by decide +kernel
theorem dX3_pass_67 : decode cX3_pass 67 = .ok (.iadd, 1) := by decide +kernel
theorem dX3_pass_68 : decode cX3_pass 68 = .ok (.putfield 111, 3) := by decide +kernel
theorem dX3_pass_71 : decode cX3_pass 71 = .ok (.aload_n 0, 1) := by decide +kernel
theorem dX3_pass_72 : decode cX3_pass 72 = .ok (.getfield 111, 3) := by decide +kernel
theorem dX3_pass_75 : decode cX3_pass 75 = .ok (.ireturn, 1) := by decide +kernel
theorem dX3_now_0 : decode cX3_now 0 = .ok (.aload_n 0, 1) := by decide +kernel
theorem dX3_now_1 : decode cX3_now 1 = .ok (.getfield 111, 3) := by decide +kernel
theorem dX3_now_4 : decode cX3_now 4 = .ok (.ireturn, 1) := by decide +kernel
theorem dX3_budgetLeft_0 : decode cX3_budgetLeft 0 = .ok (.iconst 0, 1) := by decide +kernel
theorem dX3_budgetLeft_1 : decode cX3_budgetLeft 1 = .ok (.aload_n 0, 1) := by decide +kernel
theorem dX3_budgetLeft_2 : decode cX3_budgetLeft 2 = .ok (.getfield 36, 3) := by decide +kernel
theorem dX3_budgetLeft_5 : decode cX3_budgetLeft 5 = .ok (.aload_n 0, 1) := by decide +kernel
theorem dX3_budgetLeft_6 : decode cX3_budgetLeft 6 = .ok (.getfield 155, 3) := by decide +kernel
theorem dX3_budgetLeft_9 : decode cX3_budgetLeft 9 = .ok (.isub, 1) := by decide +kernel
theorem dX3_budgetLeft_10 : decode cX3_budgetLeft 10 = .ok (.invokestatic 178, 3) := by decide +kernel
theorem dX3_budgetLeft_13 : decode cX3_budgetLeft 13 = .ok (.ireturn, 1) := by decide +kernel
set_option maxRecDepth 20000 in
theorem ggX3_waiting_X2_isKept : GoodIn wsX3_waiting wsX2_isKept := goodIn_r _ [11, 12, 13, 44, 45, 46, 47, 48, 49, 50, 51, 52, 53] (by decide +kernel) (by decide +kernel)
set_option maxRecDepth 20000 in
theorem gX3_waiting_X2_isKept : GoodIn wsX3_waiting (wsV RX3 124 RX2 yX2_isKept wsX2_isKept) := goodIn_app (goodIn_of _ (by decide +kernel)) ggX3_waiting_X2_isKept
set_option maxRecDepth 20000 in
theorem ggX3_waiting_X3_readyFrom : GoodIn wsX3_waiting wsX3_readyFrom := goodIn_r _ [18, 2, 19, 20, 21, 22, 23, 5, 24, 25, 26, 27, 17, 28, 29, 30, 31, 32, 33, 34, 35, 36, 37, 38, 39, 40, 41, 42, 43, 44, 45, 46, 47, 48, 49, 50, 51, 52, 53, 54, 55, 56] (by decide +kernel) (by decide +kernel)
set_option maxRecDepth 20000 in
theorem gX3_waiting_X3_readyFrom : GoodIn wsX3_waiting (wsV RX3 184 RX3 yX3_readyFrom wsX3_readyFrom) := goodIn_app (goodIn_of _ (by decide +kernel)) ggX3_waiting_X3_readyFrom
theorem dX3_waiting_0 : decode cX3_waiting 0 = .ok (.iconst (-1), 1) := by decide +kernel
theorem dX3_waiting_1 : decode cX3_waiting 1 = .ok (.istore_n 1, 1) := by decide +kernel
theorem dX3_waiting_2 : decode cX3_waiting 2 = .ok (.aload_n 0, 1) := by decide +kernel
theorem dX3_waiting_3 : decode cX3_waiting 3 = .ok (.getfield 25, 3) := by decide +kernel
theorem dX3_waiting_6 : decode cX3_waiting 6 = .ok (.astore_n 2, 1) := by decide +kernel
theorem dX3_waiting_7 : decode cX3_waiting 7 = .ok (.aload_n 2, 1) := by decide +kernel
theorem dX3_waiting_8 : decode cX3_waiting 8 = .ok (.arraylength, 1) := by decide +kernel
theorem dX3_waiting_9 : decode cX3_waiting 9 = .ok (.istore_n 3, 1) := by decide +kernel
theorem dX3_waiting_10 : decode cX3_waiting 10 = .ok (.iconst 0, 1) := by decide +kernel
theorem dX3_waiting_11 : decode cX3_waiting 11 = .ok (.istore 4, 2) := by decide +kernel
theorem dX3_waiting_13 : decode cX3_waiting 13 = .ok (.iload 4, 2) := by decide +kernel
theorem dX3_waiting_15 : decode cX3_waiting 15 = .ok (.iload_n 3, 1) := by decide +kernel
theorem dX3_waiting_16 : decode cX3_waiting 16 = .ok (.if_icmp .ge 58, 3) := by decide +kernel
theorem dX3_waiting_19 : decode cX3_waiting 19 = .ok (.aload_n 2, 1) := by decide +kernel
theorem dX3_waiting_20 : decode cX3_waiting 20 = .ok (.iload 4, 2) := by decide +kernel
theorem dX3_waiting_22 : decode cX3_waiting 22 = .ok (.aaload, 1) := by decide +kernel
theorem dX3_waiting_23 : decode cX3_waiting 23 = .ok (.astore 5, 2) := by decide +kernel
theorem dX3_waiting_25 : decode cX3_waiting 25 = .ok (.aload 5, 2) := by decide +kernel
theorem dX3_waiting_27 : decode cX3_waiting 27 = .ok (.ifnull 41, 3) := by decide +kernel
theorem dX3_waiting_30 : decode cX3_waiting 30 = .ok (.aload 5, 2) := by decide +kernel
theorem dX3_waiting_32 : decode cX3_waiting 32 = .ok (.invokevirtual 124, 3) := by decide +kernel
theorem dX3_waiting_35 : decode cX3_waiting 35 = .ok (.ifCond .eq 33, 3) := by decide +kernel
theorem dX3_waiting_38 : decode cX3_waiting 38 = .ok (.aload_n 0, 1) := by decide +kernel
theorem dX3_waiting_39 : decode cX3_waiting 39 = .ok (.aload 5, 2) := by decide +kernel
theorem dX3_waiting_41 : decode cX3_waiting 41 = .ok (.invokevirtual 184, 3) := by decide +kernel
theorem dX3_waiting_44 : decode cX3_waiting 44 = .ok (.aload_n 0, 1) := by decide +kernel
theorem dX3_waiting_45 : decode cX3_waiting 45 = .ok (.getfield 111, 3) := by decide +kernel
theorem dX3_waiting_48 : decode cX3_waiting 48 = .ok (.isub, 1) := by decide +kernel
theorem dX3_waiting_49 : decode cX3_waiting 49 = .ok (.istore 6, 2) := by decide +kernel
theorem dX3_waiting_51 : decode cX3_waiting 51 = .ok (.iload_n 1, 1) := by decide +kernel
theorem dX3_waiting_52 : decode cX3_waiting 52 = .ok (.iconst (-1), 1) := by decide +kernel
theorem dX3_waiting_53 : decode cX3_waiting 53 = .ok (.if_icmp .ne 8, 3) := by decide +kernel
theorem dX3_waiting_56 : decode cX3_waiting 56 = .ok (.iload 6, 2) := by decide +kernel
theorem dX3_waiting_58 : decode cX3_waiting 58 = .ok (.goto 9, 3) := by decide +kernel
theorem dX3_waiting_61 : decode cX3_waiting 61 = .ok (.iload_n 1, 1) := by decide +kernel
theorem dX3_waiting_62 : decode cX3_waiting 62 = .ok (.iload 6, 2) := by decide +kernel
theorem dX3_waiting_64 : decode cX3_waiting 64 = .ok (.invokestatic 187, 3) := by decide +kernel
theorem dX3_waiting_67 : decode cX3_waiting 67 = .ok (.istore_n 1, 1) := by decide +kernel
theorem dX3_waiting_68 : decode cX3_waiting 68 = .ok (.iinc 4 1, 3) := by decide +kernel
theorem dX3_waiting_71 : decode cX3_waiting 71 = .ok (.goto (-58), 3) := by decide +kernel
theorem dX3_waiting_74 : decode cX3_waiting 74 = .ok (.iload_n 1, 1) := by decide +kernel
theorem dX3_waiting_75 : decode cX3_waiting 75 = .ok (.ireturn, 1) := by decide +kernel
set_option maxRecDepth 20000 in
theorem ggX3_share_X3_knownPage : GoodIn wsX3_share wsX3_knownPage := goodIn_ca (goodIn_r _ [8, 9, 10, 11, 53, 54, 55, 56, 57, 58, 59, 60, 61] (by decide +kernel) (by decide +kernel)) (goodIn_sub (fun _ h => List.mem_cons_of_mem _ (List.mem_append_right _ h)) (by decide +kernel))
set_option maxRecDepth 20000 in
theorem gX3_share_X3_knownPage : GoodIn wsX3_share (wsV RX3 117 RX3 yX3_knownPage wsX3_knownPage) := goodIn_app (goodIn_of _ (by decide +kernel)) ggX3_share_X3_knownPage
set_option maxRecDepth 20000 in
theorem ggX3_share_X3_forgetSpread : GoodIn wsX3_share wsX3_forgetSpread := goodIn_r _ [15, 11, 3, 53, 54, 55, 56, 57, 58, 59, 60, 61, 43, 44, 45, 46, 47, 48, 49, 50, 51, 52] (by decide +kernel) (by decide +kernel)
set_option maxRecDepth 20000 in
theorem gX3_share_X3_forgetSpread : GoodIn wsX3_share (wsV RX3 192 RX3 yX3_forgetSpread wsX3_forgetSpread) := goodIn_app (goodIn_of _ (by decide +kernel)) ggX3_share_X3_forgetSpread
set_option maxRecDepth 20000 in
theorem ggX3_share_X3_spreadOneVisit : GoodIn wsX3_share wsX3_spreadOneVisit := goodIn_r _ [19, 11, 3, 20, 21, 22, 23, 24, 25, 26, 27, 28, 29, 30, 31, 32, 33, 34, 35, 36, 37, 38, 39, 40, 41, 42, 53, 54, 55, 56, 57, 58, 59, 60, 61, 43, 44, 45, 46, 47, 48, 49, 50, 51, 52] (by decide +kernel) (by decide +kernel)
set_option maxRecDepth 20000 in
theorem gX3_share_X3_spreadOneVisit : GoodIn wsX3_share (wsV RX3 195 RX3 yX3_spreadOneVisit wsX3_spreadOneVisit) := goodIn_app (goodIn_of _ (by decide +kernel)) ggX3_share_X3_spreadOneVisit
theorem dX3_share_0 : decode cX3_share 0 = .ok (.aload_n 0, 1) := by decide +kernel
theorem dX3_share_1 : decode cX3_share 1 = .ok (.iload_n 1, 1) := by decide +kernel
theorem dX3_share_2 : decode cX3_share 2 = .ok (.invokevirtual 117, 3) := by decide +kernel
theorem dX3_share_5 : decode cX3_share 5 = .ok (.astore_n 3, 1) := by decide +kernel
theorem dX3_share_6 : decode cX3_share 6 = .ok (.iload_n 2, 1) := by decide +kernel
theorem dX3_share_7 : decode cX3_share 7 = .ok (.ifCond .lt 9, 3) := by decide +kernel
theorem dX3_share_10 : decode cX3_share 10 = .ok (.iload_n 2, 1) := by decide +kernel
theorem dX3_share_11 : decode cX3_share 11 = .ok (.bipush 100, 2) := by decide +kernel
theorem dX3_share_13 : decode cX3_share 13 = .ok (.if_icmp .le 13, 3) := by decide +kernel
theorem dX3_share_16 : decode cX3_share 16 = .ok (.new 39, 3) := by decide +kernel
theorem dX3_share_19 : decode cX3_share 19 = .ok (.dup, 1) := by decide +kernel
theorem dX3_share_20 : decode cX3_share 20 = .ok (.ldc 190, 2) := by decide +kernel
theorem dX3_share_22 : decode cX3_share 22 = .ok (.invokespecial 43, 3) := by decide +kernel
theorem dX3_share_25 : decode cX3_share 25 = .ok (.athrow, 1) := by decide +kernel
theorem dX3_share_26 : decode cX3_share 26 = .ok (.aload_n 0, 1) := by decide +kernel
theorem dX3_share_27 : decode cX3_share 27 = .ok (.invokevirtual 192, 3) := by decide +kernel
theorem dX3_share_30 : decode cX3_share 30 = .ok (.iconst 0, 1) := by decide +kernel
theorem dX3_share_31 : decode cX3_share 31 = .ok (.istore 4, 2) := by decide +kernel
theorem dX3_share_33 : decode cX3_share 33 = .ok (.iload 4, 2) := by decide +kernel
theorem dX3_share_35 : decode cX3_share 35 = .ok (.iload_n 2, 1) := by decide +kernel
theorem dX3_share_36 : decode cX3_share 36 = .ok (.if_icmp .ge 13, 3) := by decide +kernel
theorem dX3_share_39 : decode cX3_share 39 = .ok (.aload_n 0, 1) := by decide +kernel
theorem dX3_share_40 : decode cX3_share 40 = .ok (.invokevirtual 195, 3) := by decide +kernel
theorem dX3_share_43 : decode cX3_share 43 = .ok (.iinc 4 1, 3) := by decide +kernel
theorem dX3_share_46 : decode cX3_share 46 = .ok (.goto (-13), 3) := by decide +kernel
theorem dX3_share_49 : decode cX3_share 49 = .ok (.aload_n 3, 1) := by decide +kernel
theorem dX3_share_50 : decode cX3_share 50 = .ok (.getfield 198, 3) := by decide +kernel
theorem dX3_share_53 : decode cX3_share 53 = .ok (.ireturn, 1) := by decide +kernel
theorem dX3_knownHost_0 : decode cX3_knownHost 0 = .ok (.iload_n 1, 1) := by decide +kernel
theorem dX3_knownHost_1 : decode cX3_knownHost 1 = .ok (.ifCond .lt 21, 3) := by decide +kernel
theorem dX3_knownHost_4 : decode cX3_knownHost 4 = .ok (.iload_n 1, 1) := by decide +kernel
theorem dX3_knownHost_5 : decode cX3_knownHost 5 = .ok (.aload_n 0, 1) := by decide +kernel
theorem dX3_knownHost_6 : decode cX3_knownHost 6 = .ok (.getfield 18, 3) := by decide +kernel
theorem dX3_knownHost_9 : decode cX3_knownHost 9 = .ok (.arraylength, 1) := by decide +kernel
theorem dX3_knownHost_10 : decode cX3_knownHost 10 = .ok (.if_icmp .ge 12, 3) := by decide +kernel
theorem dX3_knownHost_13 : decode cX3_knownHost 13 = .ok (.aload_n 0, 1) := by decide +kernel
theorem dX3_knownHost_14 : decode cX3_knownHost 14 = .ok (.getfield 18, 3) := by decide +kernel
theorem dX3_knownHost_17 : decode cX3_knownHost 17 = .ok (.iload_n 1, 1) := by decide +kernel
theorem dX3_knownHost_18 : decode cX3_knownHost 18 = .ok (.aaload, 1) := by decide +kernel
theorem dX3_knownHost_19 : decode cX3_knownHost 19 = .ok (.goto 4, 3) := by decide +kernel
theorem dX3_knownHost_22 : decode cX3_knownHost 22 = .ok (.aconst_null, 1) := by decide +kernel
theorem dX3_knownHost_23 : decode cX3_knownHost 23 = .ok (.astore_n 2, 1) := by decide +kernel
theorem dX3_knownHost_24 : decode cX3_knownHost 24 = .ok (.aload_n 2, 1) := by decide +kernel
theorem dX3_knownHost_25 : decode cX3_knownHost 25 = .ok (.ifnonnull 13, 3) := by decide +kernel
theorem dX3_knownHost_28 : decode cX3_knownHost 28 = .ok (.new 201, 3) := by decide +kernel
theorem dX3_knownHost_31 : decode cX3_knownHost 31 = .ok (.dup, 1) := by decide +kernel
theorem dX3_knownHost_32 : decode cX3_knownHost 32 = .ok (.ldc 203, 2) := by decide +kernel
theorem dX3_knownHost_34 : decode cX3_knownHost 34 = .ok (.invokespecial 205, 3) := by decide +kernel
theorem dX3_knownHost_37 : decode cX3_knownHost 37 = .ok (.athrow, 1) := by decide +kernel
theorem dX3_knownHost_38 : decode cX3_knownHost 38 = .ok (.aload_n 2, 1) := by decide +kernel
theorem dX3_knownHost_39 : decode cX3_knownHost 39 = .ok (.areturn, 1) := by decide +kernel
theorem dX3_knownPage_0 : decode cX3_knownPage 0 = .ok (.iload_n 1, 1) := by decide +kernel
theorem dX3_knownPage_1 : decode cX3_knownPage 1 = .ok (.ifCond .lt 21, 3) := by decide +kernel
theorem dX3_knownPage_4 : decode cX3_knownPage 4 = .ok (.iload_n 1, 1) := by decide +kernel
theorem dX3_knownPage_5 : decode cX3_knownPage 5 = .ok (.aload_n 0, 1) := by decide +kernel
theorem dX3_knownPage_6 : decode cX3_knownPage 6 = .ok (.getfield 25, 3) := by decide +kernel
theorem dX3_knownPage_9 : decode cX3_knownPage 9 = .ok (.arraylength, 1) := by decide +kernel
theorem dX3_knownPage_10 : decode cX3_knownPage 10 = .ok (.if_icmp .ge 12, 3) := by decide +kernel
theorem dX3_knownPage_13 : decode cX3_knownPage 13 = .ok (.aload_n 0, 1) := by decide +kernel
theorem dX3_knownPage_14 : decode cX3_knownPage 14 = .ok (.getfield 25, 3) := by decide +kernel
theorem dX3_knownPage_17 : decode cX3_knownPage 17 = .ok (.iload_n 1, 1) := by decide +kernel
theorem dX3_knownPage_18 : decode cX3_knownPage 18 = .ok (.aaload, 1) := by decide +kernel
theorem dX3_knownPage_19 : decode cX3_knownPage 19 = .ok (.goto 4, 3) := by decide +kernel
theorem dX3_knownPage_22 : decode cX3_knownPage 22 = .ok (.aconst_null, 1) := by decide +kernel
theorem dX3_knownPage_23 : decode cX3_knownPage 23 = .ok (.astore_n 2, 1) := by decide +kernel
theorem dX3_knownPage_24 : decode cX3_knownPage 24 = .ok (.aload_n 2, 1) := by decide +kernel
theorem dX3_knownPage_25 : decode cX3_knownPage 25 = .ok (.ifnonnull 13, 3) := by decide +kernel
theorem dX3_knownPage_28 : decode cX3_knownPage 28 = .ok (.new 201, 3) := by decide +kernel
theorem dX3_knownPage_31 : decode cX3_knownPage 31 = .ok (.dup, 1) := by decide +kernel
theorem dX3_knownPage_32 : decode cX3_knownPage 32 = .ok (.ldc 206, 2) := by decide +kernel
theorem dX3_knownPage_34 : decode cX3_knownPage 34 = .ok (.invokespecial 205, 3) := by decide +kernel
theorem dX3_knownPage_37 : decode cX3_knownPage 37 = .ok (.athrow, 1) := by decide +kernel
theorem dX3_knownPage_38 : decode cX3_knownPage 38 = .ok (.aload_n 2, 1) := by decide +kernel
theorem dX3_knownPage_39 : decode cX3_knownPage 39 = .ok (.areturn, 1) := by decide +kernel
theorem dX3_refuseOtherRanks_0 : decode cX3_refuseOtherRanks 0 = .ok (.iload_n 0, 1) := by decide +kernel
theorem dX3_refuseOtherRanks_1 : decode cX3_refuseOtherRanks 1 = .ok (.ifCond .lt 9, 3) := by decide +kernel
theorem dX3_refuseOtherRanks_4 : decode cX3_refuseOtherRanks 4 = .ok (.iload_n 0, 1) := by decide +kernel
theorem dX3_refuseOtherRanks_5 : decode cX3_refuseOtherRanks 5 = .ok (.bipush 9, 2) := by decide +kernel
theorem dX3_refuseOtherRanks_7 : decode cX3_refuseOtherRanks 7 = .ok (.if_icmp .le 13, 3) := by decide +kernel
theorem dX3_refuseOtherRanks_10 : decode cX3_refuseOtherRanks 10 = .ok (.new 39, 3) := by decide +kernel
theorem dX3_refuseOtherRanks_13 : decode cX3_refuseOtherRanks 13 = .ok (.dup, 1) := by decide +kernel
theorem dX3_refuseOtherRanks_14 : decode cX3_refuseOtherRanks 14 = .ok (.ldc 208, 2) := by decide +kernel
theorem dX3_refuseOtherRanks_16 : decode cX3_refuseOtherRanks 16 = .ok (.invokespecial 43, 3) := by decide +kernel
theorem dX3_refuseOtherRanks_19 : decode cX3_refuseOtherRanks 19 = .ok (.athrow, 1) := by decide +kernel
theorem dX3_refuseOtherRanks_20 : decode cX3_refuseOtherRanks 20 = .ok (.return_, 1) := by decide +kernel
set_option maxRecDepth 20000 in
theorem ggX3_pageAtBuffer_X0_isSameAs : GoodIn wsX3_pageAtBuffer wsX0_isSameAs := goodIn_r _ [9, 10, 11, 12, 13, 8, 14, 15, 35, 36, 37, 38] (by decide +kernel) (by decide +kernel)
set_option maxRecDepth 20000 in
theorem gX3_pageAtBuffer_X0_isSameAs : GoodIn wsX3_pageAtBuffer (wsV RX3 213 RX0 yX0_isSameAs wsX0_isSameAs) := goodIn_app (goodIn_of _ (by decide +kernel)) ggX3_pageAtBuffer_X0_isSameAs
theorem dX3_pageAtBuffer_0 : decode cX3_pageAtBuffer 0 = .ok (.aload_n 0, 1) := by decide +kernel
theorem dX3_pageAtBuffer_1 : decode cX3_pageAtBuffer 1 = .ok (.getfield 25, 3) := by decide +kernel
theorem dX3_pageAtBuffer_4 : decode cX3_pageAtBuffer 4 = .ok (.astore_n 2, 1) := by decide +kernel
theorem dX3_pageAtBuffer_5 : decode cX3_pageAtBuffer 5 = .ok (.aload_n 2, 1) := by decide +kernel
theorem dX3_pageAtBuffer_6 : decode cX3_pageAtBuffer 6 = .ok (.arraylength, 1) := by decide +kernel
theorem dX3_pageAtBuffer_7 : decode cX3_pageAtBuffer 7 = .ok (.istore_n 3, 1) := by decide +kernel
theorem dX3_pageAtBuffer_8 : decode cX3_pageAtBuffer 8 = .ok (.iconst 0, 1) := by decide +kernel
theorem dX3_pageAtBuffer_9 : decode cX3_pageAtBuffer 9 = .ok (.istore 4, 2) := by decide +kernel
theorem dX3_pageAtBuffer_11 : decode cX3_pageAtBuffer 11 = .ok (.iload 4, 2) := by decide +kernel
theorem dX3_pageAtBuffer_13 : decode cX3_pageAtBuffer 13 = .ok (.iload_n 3, 1) := by decide +kernel
theorem dX3_pageAtBuffer_14 : decode cX3_pageAtBuffer 14 = .ok (.if_icmp .ge 47, 3) := by decide +kernel
theorem dX3_pageAtBuffer_17 : decode cX3_pageAtBuffer 17 = .ok (.aload_n 2, 1) := by decide +kernel
theorem dX3_pageAtBuffer_18 : decode cX3_pageAtBuffer 18 = .ok (.iload 4, 2) := by decide +kernel
theorem dX3_pageAtBuffer_20 : decode cX3_pageAtBuffer 20 = .ok (.aaload, 1) := by decide +kernel
theorem dX3_pageAtBuffer_21 : decode cX3_pageAtBuffer 21 = .ok (.astore 5, 2) := by decide +kernel
theorem dX3_pageAtBuffer_23 : decode cX3_pageAtBuffer 23 = .ok (.aload 5, 2) := by decide +kernel
theorem dX3_pageAtBuffer_25 : decode cX3_pageAtBuffer 25 = .ok (.ifnull 30, 3) := by decide +kernel
theorem dX3_pageAtBuffer_28 : decode cX3_pageAtBuffer 28 = .ok (.aload 5, 2) := by decide +kernel
theorem dX3_pageAtBuffer_30 : decode cX3_pageAtBuffer 30 = .ok (.getfield 162, 3) := by decide +kernel
theorem dX3_pageAtBuffer_33 : decode cX3_pageAtBuffer 33 = .ok (.aload_n 1, 1) := by decide +kernel
theorem dX3_pageAtBuffer_34 : decode cX3_pageAtBuffer 34 = .ok (.if_acmp .ne 21, 3) := by decide +kernel
theorem dX3_pageAtBuffer_37 : decode cX3_pageAtBuffer 37 = .ok (.aload 5, 2) := by decide +kernel
theorem dX3_pageAtBuffer_39 : decode cX3_pageAtBuffer 39 = .ok (.getfield 210, 3) := by decide +kernel
theorem dX3_pageAtBuffer_42 : decode cX3_pageAtBuffer 42 = .ok (.aload_n 0, 1) := by decide +kernel
theorem dX3_pageAtBuffer_43 : decode cX3_pageAtBuffer 43 = .ok (.getfield 10, 3) := by decide +kernel
theorem dX3_pageAtBuffer_46 : decode cX3_pageAtBuffer 46 = .ok (.invokevirtual 213, 3) := by decide +kernel
theorem dX3_pageAtBuffer_49 : decode cX3_pageAtBuffer 49 = .ok (.ifCond .eq 6, 3) := by decide +kernel
theorem dX3_pageAtBuffer_52 : decode cX3_pageAtBuffer 52 = .ok (.aload 5, 2) := by decide +kernel
theorem dX3_pageAtBuffer_54 : decode cX3_pageAtBuffer 54 = .ok (.areturn, 1) := by decide +kernel
theorem dX3_pageAtBuffer_55 : decode cX3_pageAtBuffer 55 = .ok (.iinc 4 1, 3) := by decide +kernel
theorem dX3_pageAtBuffer_58 : decode cX3_pageAtBuffer 58 = .ok (.goto (-47), 3) := by decide +kernel
theorem dX3_pageAtBuffer_61 : decode cX3_pageAtBuffer 61 = .ok (.aconst_null, 1) := by decide +kernel
theorem dX3_pageAtBuffer_62 : decode cX3_pageAtBuffer 62 = .ok (.areturn, 1) := by decide +kernel
theorem dX3_numberOf_0 : decode cX3_numberOf 0 = .ok (.aload_n 0, 1) := by decide +kernel
theorem dX3_numberOf_1 : decode cX3_numberOf 1 = .ok (.ifnonnull 7, 3) := by decide +kernel
theorem dX3_numberOf_4 : decode cX3_numberOf 4 = .ok (.iconst (-1), 1) := by decide +kernel
theorem dX3_numberOf_5 : decode cX3_numberOf 5 = .ok (.goto 7, 3) := by decide +kernel
theorem dX3_numberOf_8 : decode cX3_numberOf 8 = .ok (.aload_n 0, 1) := by decide +kernel
theorem dX3_numberOf_9 : decode cX3_numberOf 9 = .ok (.getfield 100, 3) := by decide +kernel
theorem dX3_numberOf_12 : decode cX3_numberOf 12 = .ok (.ireturn, 1) := by decide +kernel
set_option maxRecDepth 20000 in
theorem ggX3_isReady_X2_isKept : GoodIn wsX3_isReady wsX2_isKept := goodIn_r _ [6, 7, 8, 40, 41, 42, 43, 44, 45, 46, 47, 48, 49] (by decide +kernel) (by decide +kernel)
set_option maxRecDepth 20000 in
theorem gX3_isReady_X2_isKept : GoodIn wsX3_isReady (wsV RX3 124 RX2 yX2_isKept wsX2_isKept) := goodIn_app (goodIn_of _ (by decide +kernel)) ggX3_isReady_X2_isKept
set_option maxRecDepth 20000 in
theorem ggX3_isReady_X3_readyFrom : GoodIn wsX3_isReady wsX3_readyFrom := goodIn_r _ [13, 1, 14, 15, 16, 17, 18, 19, 20, 21, 22, 23, 12, 24, 25, 26, 27, 28, 29, 30, 31, 32, 33, 34, 35, 36, 37, 38, 39, 40, 41, 42, 43, 44, 45, 46, 47, 48, 49, 50, 51, 52] (by decide +kernel) (by decide +kernel)
set_option maxRecDepth 20000 in
theorem gX3_isReady_X3_readyFrom : GoodIn wsX3_isReady (wsV RX3 184 RX3 yX3_readyFrom wsX3_readyFrom) := goodIn_app (goodIn_of _ (by decide +kernel)) ggX3_isReady_X3_readyFrom
theorem dX3_isReady_0 : decode cX3_isReady 0 = .ok (.aload_n 1, 1) := by decide +kernel
theorem dX3_isReady_1 : decode cX3_isReady 1 = .ok (.invokevirtual 124, 3) := by decide +kernel
theorem dX3_isReady_4 : decode cX3_isReady 4 = .ok (.ifCond .eq 19, 3) := by decide +kernel
theorem dX3_isReady_7 : decode cX3_isReady 7 = .ok (.aload_n 0, 1) := by decide +kernel
theorem dX3_isReady_8 : decode cX3_isReady 8 = .ok (.aload_n 1, 1) := by decide +kernel
theorem dX3_isReady_9 : decode cX3_isReady 9 = .ok (.invokevirtual 184, 3) := by decide +kernel
theorem dX3_isReady_12 : decode cX3_isReady 12 = .ok (.aload_n 0, 1) := by decide +kernel
theorem dX3_isReady_13 : decode cX3_isReady 13 = .ok (.getfield 111, 3) := by decide +kernel
theorem dX3_isReady_16 : decode cX3_isReady 16 = .ok (.if_icmp .gt 7, 3) := by decide +kernel
theorem dX3_isReady_19 : decode cX3_isReady 19 = .ok (.iconst 1, 1) := by decide +kernel
theorem dX3_isReady_20 : decode cX3_isReady 20 = .ok (.goto 4, 3) := by decide +kernel
theorem dX3_isReady_23 : decode cX3_isReady 23 = .ok (.iconst 0, 1) := by decide +kernel
theorem dX3_isReady_24 : decode cX3_isReady 24 = .ok (.ireturn, 1) := by decide +kernel
set_option maxRecDepth 20000 in
theorem ggX3_readyFrom_X3_budgetLeft : GoodIn wsX3_readyFrom wsX3_budgetLeft := goodIn_r _ [13, 14, 15, 5, 6, 7, 8, 20, 21, 22, 23, 24, 25, 26, 27, 28] (by decide +kernel) (by decide +kernel)
set_option maxRecDepth 20000 in
theorem gX3_readyFrom_X3_budgetLeft : GoodIn wsX3_readyFrom (wsV RX3 217 RX3 yX3_budgetLeft wsX3_budgetLeft) := goodIn_app (goodIn_of _ (by decide +kernel)) ggX3_readyFrom_X3_budgetLeft
set_option maxRecDepth 20000 in
theorem ggX3_readyFrom_X3_startOfNextSpan : GoodIn wsX3_readyFrom wsX3_startOfNextSpan := goodIn_r _ [19, 1, 20, 21, 22, 23, 24, 25, 26, 27, 28] (by decide +kernel) (by decide +kernel)
set_option maxRecDepth 20000 in
theorem gX3_readyFrom_X3_startOfNextSpan : GoodIn wsX3_readyFrom (wsV RX3 174 RX3 yX3_startOfNextSpan wsX3_startOfNextSpan) := goodIn_app (goodIn_of _ (by decide +kernel)) ggX3_readyFrom_X3_startOfNextSpan
theorem dX3_readyFrom_0 : decode cX3_readyFrom 0 = .ok (.aload_n 0, 1) := by decide +kernel
theorem dX3_readyFrom_1 : decode cX3_readyFrom 1 = .ok (.invokevirtual 217, 3) := by decide +kernel
theorem dX3_readyFrom_4 : decode cX3_readyFrom 4 = .ok (.ifCond .le 10, 3) := by decide +kernel
theorem dX3_readyFrom_7 : decode cX3_readyFrom 7 = .ok (.aload_n 0, 1) := by decide +kernel
theorem dX3_readyFrom_8 : decode cX3_readyFrom 8 = .ok (.getfield 111, 3) := by decide +kernel
theorem dX3_readyFrom_11 : decode cX3_readyFrom 11 = .ok (.goto 7, 3) := by decide +kernel
theorem dX3_readyFrom_14 : decode cX3_readyFrom 14 = .ok (.aload_n 0, 1) := by decide +kernel
theorem dX3_readyFrom_15 : decode cX3_readyFrom 15 = .ok (.invokevirtual 174, 3) := by decide +kernel
theorem dX3_readyFrom_18 : decode cX3_readyFrom 18 = .ok (.istore_n 2, 1) := by decide +kernel
theorem dX3_readyFrom_19 : decode cX3_readyFrom 19 = .ok (.iload_n 2, 1) := by decide +kernel
theorem dX3_readyFrom_20 : decode cX3_readyFrom 20 = .ok (.aload_n 1, 1) := by decide +kernel
theorem dX3_readyFrom_21 : decode cX3_readyFrom 21 = .ok (.getfield 127, 3) := by decide +kernel
theorem dX3_readyFrom_24 : decode cX3_readyFrom 24 = .ok (.aload_n 1, 1) := by decide +kernel
theorem dX3_readyFrom_25 : decode cX3_readyFrom 25 = .ok (.getfield 162, 3) := by decide +kernel
theorem dX3_readyFrom_28 : decode cX3_readyFrom 28 = .ok (.getfield 89, 3) := by decide +kernel
theorem dX3_readyFrom_31 : decode cX3_readyFrom 31 = .ok (.invokestatic 178, 3) := by decide +kernel
theorem dX3_readyFrom_34 : decode cX3_readyFrom 34 = .ok (.invokestatic 178, 3) := by decide +kernel
theorem dX3_readyFrom_37 : decode cX3_readyFrom 37 = .ok (.ireturn, 1) := by decide +kernel
theorem dX3_startOfNextSpan_0 : decode cX3_startOfNextSpan 0 = .ok (.aload_n 0, 1) := by decide +kernel
theorem dX3_startOfNextSpan_1 : decode cX3_startOfNextSpan 1 = .ok (.getfield 111, 3) := by decide +kernel
theorem dX3_startOfNextSpan_4 : decode cX3_startOfNextSpan 4 = .ok (.bipush 100, 2) := by decide +kernel
theorem dX3_startOfNextSpan_6 : decode cX3_startOfNextSpan 6 = .ok (.idiv, 1) := by decide +kernel
theorem dX3_startOfNextSpan_7 : decode cX3_startOfNextSpan 7 = .ok (.iconst 1, 1) := by decide +kernel
theorem dX3_startOfNextSpan_8 : decode cX3_startOfNextSpan 8 = .ok (.iadd, 1) := by decide +kernel
theorem dX3_startOfNextSpan_9 : decode cX3_startOfNextSpan 9 = .ok (.bipush 100, 2) := by decide +kernel
theorem dX3_startOfNextSpan_11 : decode cX3_startOfNextSpan 11 = .ok (.imul, 1) := by decide +kernel
theorem dX3_startOfNextSpan_12 : decode cX3_startOfNextSpan 12 = .ok (.ireturn, 1) := by decide +kernel
set_option maxRecDepth 20000 in
theorem ggX3_firstOfHost_X3_isReady : GoodIn wsX3_firstOfHost wsX3_isReady := goodIn_r _ [7, 8, 9, 10, 11, 12, 13, 14, 15, 16, 17, 18, 6, 19, 20, 2, 21, 22, 23, 24, 25, 26, 27, 28, 29, 30, 31, 32, 33, 34, 35, 52, 53, 54, 55, 56, 57, 58, 59, 60, 61, 62, 63, 64, 65, 66, 67, 68, 69, 70, 71, 72, 73] (by decide +kernel) (by decide +kernel)
set_option maxRecDepth 20000 in
theorem gX3_firstOfHost_X3_isReady : GoodIn wsX3_firstOfHost (wsV RX3 136 RX3 yX3_isReady wsX3_isReady) := goodIn_app (goodIn_of _ (by decide +kernel)) ggX3_firstOfHost_X3_isReady
set_option maxRecDepth 20000 in
theorem ggX3_firstOfHost_X3_earlier : GoodIn wsX3_firstOfHost wsX3_earlier := goodIn_r _ [39, 40, 41, 42, 6, 43, 8, 44, 45, 46, 47, 48, 12, 49, 50, 51, 52, 53, 54, 55, 56, 57, 58, 59, 60, 61, 62, 63, 64, 65, 66, 67, 68, 69, 70] (by decide +kernel) (by decide +kernel)
set_option maxRecDepth 20000 in
theorem gX3_firstOfHost_X3_earlier : GoodIn wsX3_firstOfHost (wsV RX3 143 RX3 yX3_earlier wsX3_earlier) := goodIn_app (goodIn_of _ (by decide +kernel)) ggX3_firstOfHost_X3_earlier
theorem dX3_firstOfHost_0 : decode cX3_firstOfHost 0 = .ok (.aconst_null, 1) := by decide +kernel
theorem dX3_firstOfHost_1 : decode cX3_firstOfHost 1 = .ok (.astore_n 2, 1) := by decide +kernel
theorem dX3_firstOfHost_2 : decode cX3_firstOfHost 2 = .ok (.aload_n 0, 1) := by decide +kernel
theorem dX3_firstOfHost_3 : decode cX3_firstOfHost 3 = .ok (.getfield 25, 3) := by decide +kernel
theorem dX3_firstOfHost_6 : decode cX3_firstOfHost 6 = .ok (.astore_n 3, 1) := by decide +kernel
theorem dX3_firstOfHost_7 : decode cX3_firstOfHost 7 = .ok (.aload_n 3, 1) := by decide +kernel
theorem dX3_firstOfHost_8 : decode cX3_firstOfHost 8 = .ok (.arraylength, 1) := by decide +kernel
theorem dX3_firstOfHost_9 : decode cX3_firstOfHost 9 = .ok (.istore 4, 2) := by decide +kernel
theorem dX3_firstOfHost_11 : decode cX3_firstOfHost 11 = .ok (.iconst 0, 1) := by decide +kernel
theorem dX3_firstOfHost_12 : decode cX3_firstOfHost 12 = .ok (.istore 5, 2) := by decide +kernel
theorem dX3_firstOfHost_14 : decode cX3_firstOfHost 14 = .ok (.iload 5, 2) := by decide +kernel
theorem dX3_firstOfHost_16 : decode cX3_firstOfHost 16 = .ok (.iload 4, 2) := by decide +kernel
theorem dX3_firstOfHost_18 : decode cX3_firstOfHost 18 = .ok (.if_icmp .ge 46, 3) := by decide +kernel
theorem dX3_firstOfHost_21 : decode cX3_firstOfHost 21 = .ok (.aload_n 3, 1) := by decide +kernel
theorem dX3_firstOfHost_22 : decode cX3_firstOfHost 22 = .ok (.iload 5, 2) := by decide +kernel
theorem dX3_firstOfHost_24 : decode cX3_firstOfHost 24 = .ok (.aaload, 1) := by decide +kernel
theorem dX3_firstOfHost_25 : decode cX3_firstOfHost 25 = .ok (.astore 6, 2) := by decide +kernel
theorem dX3_firstOfHost_27 : decode cX3_firstOfHost 27 = .ok (.aload 6, 2) := by decide +kernel
theorem dX3_firstOfHost_29 : decode cX3_firstOfHost 29 = .ok (.ifnull 29, 3) := by decide +kernel
theorem dX3_firstOfHost_32 : decode cX3_firstOfHost 32 = .ok (.aload 6, 2) := by decide +kernel
theorem dX3_firstOfHost_34 : decode cX3_firstOfHost 34 = .ok (.getfield 162, 3) := by decide +kernel
theorem dX3_firstOfHost_37 : decode cX3_firstOfHost 37 = .ok (.aload_n 1, 1) := by decide +kernel
theorem dX3_firstOfHost_38 : decode cX3_firstOfHost 38 = .ok (.if_acmp .ne 20, 3) := by decide +kernel
theorem dX3_firstOfHost_41 : decode cX3_firstOfHost 41 = .ok (.aload_n 0, 1) := by decide +kernel
theorem dX3_firstOfHost_42 : decode cX3_firstOfHost 42 = .ok (.aload 6, 2) := by decide +kernel
theorem dX3_firstOfHost_44 : decode cX3_firstOfHost 44 = .ok (.invokevirtual 136, 3) := by decide +kernel
theorem dX3_firstOfHost_47 : decode cX3_firstOfHost 47 = .ok (.ifCond .eq 11, 3) := by decide +kernel
theorem dX3_firstOfHost_50 : decode cX3_firstOfHost 50 = .ok (.aload_n 0, 1) := by decide +kernel
theorem dX3_firstOfHost_51 : decode cX3_firstOfHost 51 = .ok (.aload_n 2, 1) := by decide +kernel
theorem dX3_firstOfHost_52 : decode cX3_firstOfHost 52 = .ok (.aload 6, 2) := by decide +kernel
theorem dX3_firstOfHost_54 : decode cX3_firstOfHost 54 = .ok (.invokevirtual 143, 3) := by decide +kernel
theorem dX3_firstOfHost_57 : decode cX3_firstOfHost 57 = .ok (.astore_n 2, 1) := by decide +kernel
theorem dX3_firstOfHost_58 : decode cX3_firstOfHost 58 = .ok (.iinc 5 1, 3) := by decide +kernel
theorem dX3_firstOfHost_61 : decode cX3_firstOfHost 61 = .ok (.goto (-47), 3) := by decide +kernel
theorem dX3_firstOfHost_64 : decode cX3_firstOfHost 64 = .ok (.aload_n 2, 1) := by decide +kernel
theorem dX3_firstOfHost_65 : decode cX3_firstOfHost 65 = .ok (.areturn, 1) := by decide +kernel
set_option maxRecDepth 20000 in
theorem ggX3_earlier_X3_goesBefore : GoodIn wsX3_earlier wsX3_goesBefore := goodIn_r _ [5, 6, 7, 8, 9, 10, 11, 12, 13, 14, 15, 16, 17, 18, 19, 20, 21, 22, 23, 24, 25, 26, 27, 28, 29, 30, 31, 32, 33, 34] (by decide +kernel) (by decide +kernel)
set_option maxRecDepth 20000 in
theorem gX3_earlier_X3_goesBefore : GoodIn wsX3_earlier (wsV RX3 220 RX3 yX3_goesBefore wsX3_goesBefore) := goodIn_app (goodIn_of _ (by decide +kernel)) ggX3_earlier_X3_goesBefore
theorem dX3_earlier_0 : decode cX3_earlier 0 = .ok (.aload_n 1, 1) := by decide +kernel
theorem dX3_earlier_1 : decode cX3_earlier 1 = .ok (.ifnonnull 5, 3) := by decide +kernel
theorem dX3_earlier_4 : decode cX3_earlier 4 = .ok (.aload_n 2, 1) := by decide +kernel
theorem dX3_earlier_5 : decode cX3_earlier 5 = .ok (.areturn, 1) := by decide +kernel
theorem dX3_earlier_6 : decode cX3_earlier 6 = .ok (.aload_n 2, 1) := by decide +kernel
theorem dX3_earlier_7 : decode cX3_earlier 7 = .ok (.ifnull 16, 3) := by decide +kernel
theorem dX3_earlier_10 : decode cX3_earlier 10 = .ok (.aload_n 0, 1) := by decide +kernel
theorem dX3_earlier_11 : decode cX3_earlier 11 = .ok (.aload_n 2, 1) := by decide +kernel
theorem dX3_earlier_12 : decode cX3_earlier 12 = .ok (.aload_n 1, 1) := by decide +kernel
theorem dX3_earlier_13 : decode cX3_earlier 13 = .ok (.invokevirtual 220, 3) := by decide +kernel
theorem dX3_earlier_16 : decode cX3_earlier 16 = .ok (.ifCond .eq 7, 3) := by decide +kernel
theorem dX3_earlier_19 : decode cX3_earlier 19 = .ok (.aload_n 2, 1) := by decide +kernel
theorem dX3_earlier_20 : decode cX3_earlier 20 = .ok (.goto 4, 3) := by decide +kernel
theorem dX3_earlier_23 : decode cX3_earlier 23 = .ok (.aload_n 1, 1) := by decide +kernel
theorem dX3_earlier_24 : decode cX3_earlier 24 = .ok (.areturn, 1) := by decide +kernel
set_option maxRecDepth 20000 in
theorem ggX3_goesBefore_X2_pressing : GoodIn wsX3_goesBefore wsX2_pressing := goodIn_r _ [8, 9, 10, 20, 21, 22, 23, 24, 25, 26, 27, 28, 29] (by decide +kernel) (by decide +kernel)
set_option maxRecDepth 20000 in
theorem gX3_goesBefore_X2_pressing : GoodIn wsX3_goesBefore (wsV RX3 224 RX2 yX2_pressing wsX2_pressing) := goodIn_app (goodIn_of _ (by decide +kernel)) ggX3_goesBefore_X2_pressing
theorem dX3_goesBefore_0 : decode cX3_goesBefore 0 = .ok (.aload_n 1, 1) := by decide +kernel
theorem dX3_goesBefore_1 : decode cX3_goesBefore 1 = .ok (.aload_n 0, 1) := by decide +kernel
theorem dX3_goesBefore_2 : decode cX3_goesBefore 2 = .ok (.getfield 111, 3) := by decide +kernel
theorem dX3_goesBefore_5 : decode cX3_goesBefore 5 = .ok (.invokevirtual 224, 3) := by decide +kernel
theorem dX3_goesBefore_8 : decode cX3_goesBefore 8 = .ok (.istore_n 3, 1) := by decide +kernel
theorem dX3_goesBefore_9 : decode cX3_goesBefore 9 = .ok (.aload_n 2, 1) := by decide +kernel
theorem dX3_goesBefore_10 : decode cX3_goesBefore 10 = .ok (.aload_n 0, 1) := by decide +kernel
theorem dX3_goesBefore_11 : decode cX3_goesBefore 11 = .ok (.getfield 111, 3) := by decide +kernel
theorem dX3_goesBefore_14 : decode cX3_goesBefore 14 = .ok (.invokevirtual 224, 3) := by decide +kernel
theorem dX3_goesBefore_17 : decode cX3_goesBefore 17 = .ok (.istore 4, 2) := by decide +kernel
theorem dX3_goesBefore_19 : decode cX3_goesBefore 19 = .ok (.iload_n 3, 1) := by decide +kernel
theorem dX3_goesBefore_20 : decode cX3_goesBefore 20 = .ok (.iload 4, 2) := by decide +kernel
theorem dX3_goesBefore_22 : decode cX3_goesBefore 22 = .ok (.if_icmp .eq 15, 3) := by decide +kernel
theorem dX3_goesBefore_25 : decode cX3_goesBefore 25 = .ok (.iload_n 3, 1) := by decide +kernel
theorem dX3_goesBefore_26 : decode cX3_goesBefore 26 = .ok (.iload 4, 2) := by decide +kernel
theorem dX3_goesBefore_28 : decode cX3_goesBefore 28 = .ok (.if_icmp .le 7, 3) := by decide +kernel
theorem dX3_goesBefore_31 : decode cX3_goesBefore 31 = .ok (.iconst 1, 1) := by decide +kernel
theorem dX3_goesBefore_32 : decode cX3_goesBefore 32 = .ok (.goto 4, 3) := by decide +kernel
theorem dX3_goesBefore_35 : decode cX3_goesBefore 35 = .ok (.iconst 0, 1) := by decide +kernel
theorem dX3_goesBefore_36 : decode cX3_goesBefore 36 = .ok (.ireturn, 1) := by decide +kernel
theorem dX3_goesBefore_37 : decode cX3_goesBefore 37 = .ok (.aload_n 1, 1) := by decide +kernel
theorem dX3_goesBefore_38 : decode cX3_goesBefore 38 = .ok (.getfield 121, 3) := by decide +kernel
theorem dX3_goesBefore_41 : decode cX3_goesBefore 41 = .ok (.aload_n 2, 1) := by decide +kernel
theorem dX3_goesBefore_42 : decode cX3_goesBefore 42 = .ok (.getfield 121, 3) := by decide +kernel
theorem dX3_goesBefore_45 : decode cX3_goesBefore 45 = .ok (.if_icmp .eq 20, 3) := by decide +kernel
theorem dX3_goesBefore_48 : decode cX3_goesBefore 48 = .ok (.aload_n 1, 1) := by decide +kernel
theorem dX3_goesBefore_49 : decode cX3_goesBefore 49 = .ok (.getfield 121, 3) := by decide +kernel
theorem dX3_goesBefore_52 : decode cX3_goesBefore 52 = .ok (.aload_n 2, 1) := by decide +kernel
theorem dX3_goesBefore_53 : decode cX3_goesBefore 53 = .ok (.getfield 121, 3) := by decide +kernel
theorem dX3_goesBefore_56 : decode cX3_goesBefore 56 = .ok (.if_icmp .le 7, 3) := by decide +kernel
theorem dX3_goesBefore_59 : decode cX3_goesBefore 59 = .ok (.iconst 1, 1) := by decide +kernel
theorem dX3_goesBefore_60 : decode cX3_goesBefore 60 = .ok (.goto 4, 3) := by decide +kernel
theorem dX3_goesBefore_63 : decode cX3_goesBefore 63 = .ok (.iconst 0, 1) := by decide +kernel
theorem dX3_goesBefore_64 : decode cX3_goesBefore 64 = .ok (.ireturn, 1) := by decide +kernel
theorem dX3_goesBefore_65 : decode cX3_goesBefore 65 = .ok (.aload_n 1, 1) := by decide +kernel
theorem dX3_goesBefore_66 : decode cX3_goesBefore 66 = .ok (.getfield 100, 3) := by decide +kernel
theorem dX3_goesBefore_69 : decode cX3_goesBefore 69 = .ok (.aload_n 2, 1) := by decide +kernel
theorem dX3_goesBefore_70 : decode cX3_goesBefore 70 = .ok (.getfield 100, 3) := by decide +kernel
theorem dX3_goesBefore_73 : decode cX3_goesBefore 73 = .ok (.if_icmp .ge 7, 3) := by decide +kernel
theorem dX3_goesBefore_76 : decode cX3_goesBefore 76 = .ok (.iconst 1, 1) := by decide +kernel
theorem dX3_goesBefore_77 : decode cX3_goesBefore 77 = .ok (.goto 4, 3) := by decide +kernel
theorem dX3_goesBefore_80 : decode cX3_goesBefore 80 = .ok (.iconst 0, 1) := by decide +kernel
theorem dX3_goesBefore_81 : decode cX3_goesBefore 81 = .ok (.ireturn, 1) := by decide +kernel
set_option maxRecDepth 20000 in
theorem ggX3_settle_X3_paceOf : GoodIn wsX3_settle wsX3_paceOf := goodIn_r _ [13, 14, 4, 7, 8, 15, 16, 17, 18, 19, 20, 12, 21, 35, 36, 37, 38, 39, 40, 41, 42, 43, 22, 23, 24, 25, 26, 27, 28, 29, 30, 31] (by decide +kernel) (by decide +kernel)
set_option maxRecDepth 20000 in
theorem gX3_settle_X3_paceOf : GoodIn wsX3_settle (wsV RX3 232 RX3 yX3_paceOf wsX3_paceOf) := goodIn_app (goodIn_of _ (by decide +kernel)) ggX3_settle_X3_paceOf
theorem dX3_settle_0 : decode cX3_settle 0 = .ok (.iload_n 2, 1) := by decide +kernel
theorem dX3_settle_1 : decode cX3_settle 1 = .ok (.iconst 2, 1) := by decide +kernel
theorem dX3_settle_2 : decode cX3_settle 2 = .ok (.if_icmp .ne 30, 3) := by decide +kernel
theorem dX3_settle_5 : decode cX3_settle 5 = .ok (.aload_n 1, 1) := by decide +kernel
theorem dX3_settle_6 : decode cX3_settle 6 = .ok (.getfield 162, 3) := by decide +kernel
theorem dX3_settle_9 : decode cX3_settle 9 = .ok (.dup, 1) := by decide +kernel
theorem dX3_settle_10 : decode cX3_settle 10 = .ok (.getfield 86, 3) := by decide +kernel
theorem dX3_settle_13 : decode cX3_settle 13 = .ok (.iconst 1, 1) := by decide +kernel
theorem dX3_settle_14 : decode cX3_settle 14 = .ok (.iadd, 1) := by decide +kernel
theorem dX3_settle_15 : decode cX3_settle 15 = .ok (.putfield 86, 3) := by decide +kernel
theorem dX3_settle_18 : decode cX3_settle 18 = .ok (.aload_n 1, 1) := by decide +kernel
theorem dX3_settle_19 : decode cX3_settle 19 = .ok (.aload_n 0, 1) := by decide +kernel
theorem dX3_settle_20 : decode cX3_settle 20 = .ok (.getfield 111, 3) := by decide +kernel
theorem dX3_settle_23 : decode cX3_settle 23 = .ok (.aload_n 0, 1) := by decide +kernel
theorem dX3_settle_24 : decode cX3_settle 24 = .ok (.getfield 29, 3) := by decide +kernel
theorem dX3_settle_27 : decode cX3_settle 27 = .ok (.iadd, 1) := by decide +kernel
theorem dX3_settle_28 : decode cX3_settle 28 = .ok (.putfield 127, 3) := by decide +kernel
theorem dX3_settle_31 : decode cX3_settle 31 = .ok (.return_, 1) := by decide +kernel
theorem dX3_settle_32 : decode cX3_settle 32 = .ok (.aload_n 1, 1) := by decide +kernel
theorem dX3_settle_33 : decode cX3_settle 33 = .ok (.getfield 162, 3) := by decide +kernel
theorem dX3_settle_36 : decode cX3_settle 36 = .ok (.iconst 0, 1) := by decide +kernel
theorem dX3_settle_37 : decode cX3_settle 37 = .ok (.putfield 86, 3) := by decide +kernel
theorem dX3_settle_40 : decode cX3_settle 40 = .ok (.iload_n 2, 1) := by decide +kernel
theorem dX3_settle_41 : decode cX3_settle 41 = .ok (.iconst 3, 1) := by decide +kernel
theorem dX3_settle_42 : decode cX3_settle 42 = .ok (.if_icmp .ne 9, 3) := by decide +kernel
theorem dX3_settle_45 : decode cX3_settle 45 = .ok (.aload_n 1, 1) := by decide +kernel
theorem dX3_settle_46 : decode cX3_settle 46 = .ok (.iconst 1, 1) := by decide +kernel
theorem dX3_settle_47 : decode cX3_settle 47 = .ok (.putfield 228, 3) := by decide +kernel
theorem dX3_settle_50 : decode cX3_settle 50 = .ok (.return_, 1) := by decide +kernel
theorem dX3_settle_51 : decode cX3_settle 51 = .ok (.aload_n 1, 1) := by decide +kernel
theorem dX3_settle_52 : decode cX3_settle 52 = .ok (.dup, 1) := by decide +kernel
theorem dX3_settle_53 : decode cX3_settle 53 = .ok (.getfield 130, 3) := by decide +kernel
theorem dX3_settle_56 : decode cX3_settle 56 = .ok (.iconst 1, 1) := by decide +kernel
theorem dX3_settle_57 : decode cX3_settle 57 = .ok (.iadd, 1) := by decide +kernel
theorem dX3_settle_58 : decode cX3_settle 58 = .ok (.putfield 130, 3) := by decide +kernel
theorem dX3_settle_61 : decode cX3_settle 61 = .ok (.aload_n 1, 1) := by decide +kernel
theorem dX3_settle_62 : decode cX3_settle 62 = .ok (.dup, 1) := by decide +kernel
theorem dX3_settle_63 : decode cX3_settle 63 = .ok (.getfield 133, 3) := by decide +kernel
theorem dX3_settle_66 : decode cX3_settle 66 = .ok (.iload_n 2, 1) := by decide +kernel
theorem dX3_settle_67 : decode cX3_settle 67 = .ok (.iconst 1, 1) := by decide +kernel
theorem dX3_settle_68 : decode cX3_settle 68 = .ok (.if_icmp .ne 7, 3) := by decide +kernel
theorem dX3_settle_71 : decode cX3_settle 71 = .ok (.iconst 1, 1) := by decide +kernel
theorem dX3_settle_72 : decode cX3_settle 72 = .ok (.goto 4, 3) := by decide +kernel
theorem dX3_settle_75 : decode cX3_settle 75 = .ok (.iconst 0, 1) := by decide +kernel
theorem dX3_settle_76 : decode cX3_settle 76 = .ok (.iadd, 1) := by decide +kernel
theorem dX3_settle_77 : decode cX3_settle 77 = .ok (.putfield 133, 3) := by decide +kernel
theorem dX3_settle_80 : decode cX3_settle 80 = .ok (.aload_n 1, 1) := by decide +kernel
theorem dX3_settle_81 : decode cX3_settle 81 = .ok (.aload_n 0, 1) := by decide +kernel
theorem dX3_settle_82 : decode cX3_settle 82 = .ok (.getfield 111, 3) := by decide +kernel
theorem dX3_settle_85 : decode cX3_settle 85 = .ok (.aload_n 0, 1) := by decide +kernel
theorem dX3_settle_86 : decode cX3_settle 86 = .ok (.aload_n 1, 1) := by decide +kernel
theorem dX3_settle_87 : decode cX3_settle 87 = .ok (.invokevirtual 232, 3) := by decide +kernel
theorem dX3_settle_90 : decode cX3_settle 90 = .ok (.iadd, 1) := by decide +kernel
theorem dX3_settle_91 : decode cX3_settle 91 = .ok (.putfield 127, 3) := by decide +kernel
theorem dX3_settle_94 : decode cX3_settle 94 = .ok (.return_, 1) := by decide +kernel
set_option maxRecDepth 20000 in
theorem ggX3_paceOf_X3_dividedUp : GoodIn wsX3_paceOf wsX3_dividedUp := goodIn_r _ [12] (by decide +kernel) (by decide +kernel)
set_option maxRecDepth 20000 in
theorem gX3_paceOf_X3_dividedUp : GoodIn wsX3_paceOf (va_wsS RX3 235 yX3_dividedUp wsX3_dividedUp) := goodIn_app (goodIn_of _ (by decide +kernel)) ggX3_paceOf_X3_dividedUp
theorem dX3_paceOf_0 : decode cX3_paceOf 0 = .ok (.aload_n 0, 1) := by decide +kernel
theorem dX3_paceOf_1 : decode cX3_paceOf 1 = .ok (.getfield 33, 3) := by decide +kernel
theorem dX3_paceOf_4 : decode cX3_paceOf 4 = .ok (.aload_n 0, 1) := by decide +kernel
theorem dX3_paceOf_5 : decode cX3_paceOf 5 = .ok (.getfield 29, 3) := by decide +kernel
theorem dX3_paceOf_8 : decode cX3_paceOf 8 = .ok (.aload_n 1, 1) := by decide +kernel
theorem dX3_paceOf_9 : decode cX3_paceOf 9 = .ok (.getfield 130, 3) := by decide +kernel
theorem dX3_paceOf_12 : decode cX3_paceOf 12 = .ok (.iconst 2, 1) := by decide +kernel
theorem dX3_paceOf_13 : decode cX3_paceOf 13 = .ok (.iadd, 1) := by decide +kernel
theorem dX3_paceOf_14 : decode cX3_paceOf 14 = .ok (.imul, 1) := by decide +kernel
theorem dX3_paceOf_15 : decode cX3_paceOf 15 = .ok (.aload_n 1, 1) := by decide +kernel
theorem dX3_paceOf_16 : decode cX3_paceOf 16 = .ok (.getfield 133, 3) := by decide +kernel
end
section
theorem dX3_paceOf_19 : decode cX3_paceOf 19 = .ok (.iconst 1, 1) := by decide +kernel
theorem dX3_paceOf_20 : decode cX3_paceOf 20 = .ok (.iadd, 1) := by decide +kernel
theorem dX3_paceOf_21 : decode cX3_paceOf 21 = .ok (.invokestatic 235, 3) := by decide +kernel
theorem dX3_paceOf_24 : decode cX3_paceOf 24 = .ok (.invokestatic 187, 3) := by decide +kernel
theorem dX3_paceOf_27 : decode cX3_paceOf 27 = .ok (.ireturn, 1) := by decide +kernel
theorem dX3_dividedUp_0 : decode cX3_dividedUp 0 = .ok (.iload_n 1, 1) := by decide +kernel
theorem dX3_dividedUp_1 : decode cX3_dividedUp 1 = .ok (.iconst 1, 1) := by decide +kernel
theorem dX3_dividedUp_2 : decode cX3_dividedUp 2 = .ok (.if_icmp .ge 7, 3) := by decide +kernel
theorem dX3_dividedUp_5 : decode cX3_dividedUp 5 = .ok (.iload_n 0, 1) := by decide +kernel
theorem dX3_dividedUp_6 : decode cX3_dividedUp 6 = .ok (.goto 10, 3) := by decide +kernel
theorem dX3_dividedUp_9 : decode cX3_dividedUp 9 = .ok (.iload_n 0, 1) := by decide +kernel
theorem dX3_dividedUp_10 : decode cX3_dividedUp 10 = .ok (.iload_n 1, 1) := by decide +kernel
theorem dX3_dividedUp_11 : decode cX3_dividedUp 11 = .ok (.iadd, 1) := by decide +kernel
theorem dX3_dividedUp_12 : decode cX3_dividedUp 12 = .ok (.iconst 1, 1) := by decide +kernel
theorem dX3_dividedUp_13 : decode cX3_dividedUp 13 = .ok (.isub, 1) := by decide +kernel
theorem dX3_dividedUp_14 : decode cX3_dividedUp 14 = .ok (.iload_n 1, 1) := by decide +kernel
theorem dX3_dividedUp_15 : decode cX3_dividedUp 15 = .ok (.idiv, 1) := by decide +kernel
theorem dX3_dividedUp_16 : decode cX3_dividedUp 16 = .ok (.ireturn, 1) := by decide +kernel
theorem dX3_forgetSpread_0 : decode cX3_forgetSpread 0 = .ok (.aload_n 0, 1) := by decide +kernel
theorem dX3_forgetSpread_1 : decode cX3_forgetSpread 1 = .ok (.getfield 25, 3) := by decide +kernel
theorem dX3_forgetSpread_4 : decode cX3_forgetSpread 4 = .ok (.astore_n 1, 1) := by decide +kernel
theorem dX3_forgetSpread_5 : decode cX3_forgetSpread 5 = .ok (.aload_n 1, 1) := by decide +kernel
theorem dX3_forgetSpread_6 : decode cX3_forgetSpread 6 = .ok (.arraylength, 1) := by decide +kernel
theorem dX3_forgetSpread_7 : decode cX3_forgetSpread 7 = .ok (.istore_n 2, 1) := by decide +kernel
theorem dX3_forgetSpread_8 : decode cX3_forgetSpread 8 = .ok (.iconst 0, 1) := by decide +kernel
theorem dX3_forgetSpread_9 : decode cX3_forgetSpread 9 = .ok (.istore_n 3, 1) := by decide +kernel
theorem dX3_forgetSpread_10 : decode cX3_forgetSpread 10 = .ok (.iload_n 3, 1) := by decide +kernel
theorem dX3_forgetSpread_11 : decode cX3_forgetSpread 11 = .ok (.iload_n 2, 1) := by decide +kernel
theorem dX3_forgetSpread_12 : decode cX3_forgetSpread 12 = .ok (.if_icmp .ge 25, 3) := by decide +kernel
theorem dX3_forgetSpread_15 : decode cX3_forgetSpread 15 = .ok (.aload_n 1, 1) := by decide +kernel
theorem dX3_forgetSpread_16 : decode cX3_forgetSpread 16 = .ok (.iload_n 3, 1) := by decide +kernel
theorem dX3_forgetSpread_17 : decode cX3_forgetSpread 17 = .ok (.aaload, 1) := by decide +kernel
theorem dX3_forgetSpread_18 : decode cX3_forgetSpread 18 = .ok (.astore 4, 2) := by decide +kernel
theorem dX3_forgetSpread_20 : decode cX3_forgetSpread 20 = .ok (.aload 4, 2) := by decide +kernel
theorem dX3_forgetSpread_22 : decode cX3_forgetSpread 22 = .ok (.ifnull 9, 3) := by decide +kernel
theorem dX3_forgetSpread_25 : decode cX3_forgetSpread 25 = .ok (.aload 4, 2) := by decide +kernel
theorem dX3_forgetSpread_27 : decode cX3_forgetSpread 27 = .ok (.iconst 0, 1) := by decide +kernel
theorem dX3_forgetSpread_28 : decode cX3_forgetSpread 28 = .ok (.putfield 198, 3) := by decide +kernel
theorem dX3_forgetSpread_31 : decode cX3_forgetSpread 31 = .ok (.iinc 3 1, 3) := by decide +kernel
theorem dX3_forgetSpread_34 : decode cX3_forgetSpread 34 = .ok (.goto (-24), 3) := by decide +kernel
theorem dX3_forgetSpread_37 : decode cX3_forgetSpread 37 = .ok (.return_, 1) := by decide +kernel
set_option maxRecDepth 20000 in
theorem ggX3_spreadOneVisit_X2_isKept : GoodIn wsX3_spreadOneVisit wsX2_isKept := goodIn_r _ [7, 8, 9, 35, 36, 37, 38, 39, 40, 41, 42, 43, 44] (by decide +kernel) (by decide +kernel)
set_option maxRecDepth 20000 in
theorem gX3_spreadOneVisit_X2_isKept : GoodIn wsX3_spreadOneVisit (wsV RX3 124 RX2 yX2_isKept wsX2_isKept) := goodIn_app (goodIn_of _ (by decide +kernel)) ggX3_spreadOneVisit_X2_isKept
set_option maxRecDepth 20000 in
theorem ggX3_spreadOneVisit_X2_gainsMoreThan : GoodIn wsX3_spreadOneVisit wsX2_gainsMoreThan := goodIn_r _ [13, 14, 15, 16, 6, 17, 18, 19, 20, 21, 22, 23, 24, 25, 35, 36, 37, 38, 39, 40, 41, 42, 43, 44] (by decide +kernel) (by decide +kernel)
set_option maxRecDepth 20000 in
theorem gX3_spreadOneVisit_X2_gainsMoreThan : GoodIn wsX3_spreadOneVisit (wsV RX3 238 RX2 yX2_gainsMoreThan wsX2_gainsMoreThan) := goodIn_app (goodIn_of _ (by decide +kernel)) ggX3_spreadOneVisit_X2_gainsMoreThan
theorem dX3_spreadOneVisit_0 : decode cX3_spreadOneVisit 0 = .ok (.aconst_null, 1) := by decide +kernel
theorem dX3_spreadOneVisit_1 : decode cX3_spreadOneVisit 1 = .ok (.astore_n 1, 1) := by decide +kernel
theorem dX3_spreadOneVisit_2 : decode cX3_spreadOneVisit 2 = .ok (.aload_n 0, 1) := by decide +kernel
theorem dX3_spreadOneVisit_3 : decode cX3_spreadOneVisit 3 = .ok (.getfield 25, 3) := by decide +kernel
theorem dX3_spreadOneVisit_6 : decode cX3_spreadOneVisit 6 = .ok (.astore_n 2, 1) := by decide +kernel
theorem dX3_spreadOneVisit_7 : decode cX3_spreadOneVisit 7 = .ok (.aload_n 2, 1) := by decide +kernel
theorem dX3_spreadOneVisit_8 : decode cX3_spreadOneVisit 8 = .ok (.arraylength, 1) := by decide +kernel
theorem dX3_spreadOneVisit_9 : decode cX3_spreadOneVisit 9 = .ok (.istore_n 3, 1) := by decide +kernel
theorem dX3_spreadOneVisit_10 : decode cX3_spreadOneVisit 10 = .ok (.iconst 0, 1) := by decide +kernel
theorem dX3_spreadOneVisit_11 : decode cX3_spreadOneVisit 11 = .ok (.istore 4, 2) := by decide +kernel
theorem dX3_spreadOneVisit_13 : decode cX3_spreadOneVisit 13 = .ok (.iload 4, 2) := by decide +kernel
theorem dX3_spreadOneVisit_15 : decode cX3_spreadOneVisit 15 = .ok (.iload_n 3, 1) := by decide +kernel
theorem dX3_spreadOneVisit_16 : decode cX3_spreadOneVisit 16 = .ok (.if_icmp .ge 44, 3) := by decide +kernel
theorem dX3_spreadOneVisit_19 : decode cX3_spreadOneVisit 19 = .ok (.aload_n 2, 1) := by decide +kernel
theorem dX3_spreadOneVisit_20 : decode cX3_spreadOneVisit 20 = .ok (.iload 4, 2) := by decide +kernel
theorem dX3_spreadOneVisit_22 : decode cX3_spreadOneVisit 22 = .ok (.aaload, 1) := by decide +kernel
theorem dX3_spreadOneVisit_23 : decode cX3_spreadOneVisit 23 = .ok (.astore 5, 2) := by decide +kernel
theorem dX3_spreadOneVisit_25 : decode cX3_spreadOneVisit 25 = .ok (.aload 5, 2) := by decide +kernel
theorem dX3_spreadOneVisit_27 : decode cX3_spreadOneVisit 27 = .ok (.ifnull 27, 3) := by decide +kernel
theorem dX3_spreadOneVisit_30 : decode cX3_spreadOneVisit 30 = .ok (.aload 5, 2) := by decide +kernel
theorem dX3_spreadOneVisit_32 : decode cX3_spreadOneVisit 32 = .ok (.invokevirtual 124, 3) := by decide +kernel
theorem dX3_spreadOneVisit_35 : decode cX3_spreadOneVisit 35 = .ok (.ifCond .eq 19, 3) := by decide +kernel
theorem dX3_spreadOneVisit_38 : decode cX3_spreadOneVisit 38 = .ok (.aload_n 1, 1) := by decide +kernel
theorem dX3_spreadOneVisit_39 : decode cX3_spreadOneVisit 39 = .ok (.ifnull 12, 3) := by decide +kernel
theorem dX3_spreadOneVisit_42 : decode cX3_spreadOneVisit 42 = .ok (.aload 5, 2) := by decide +kernel
theorem dX3_spreadOneVisit_44 : decode cX3_spreadOneVisit 44 = .ok (.aload_n 1, 1) := by decide +kernel
theorem dX3_spreadOneVisit_45 : decode cX3_spreadOneVisit 45 = .ok (.invokevirtual 238, 3) := by decide +kernel
theorem dX3_spreadOneVisit_48 : decode cX3_spreadOneVisit 48 = .ok (.ifCond .eq 6, 3) := by decide +kernel
theorem dX3_spreadOneVisit_51 : decode cX3_spreadOneVisit 51 = .ok (.aload 5, 2) := by decide +kernel
theorem dX3_spreadOneVisit_53 : decode cX3_spreadOneVisit 53 = .ok (.astore_n 1, 1) := by decide +kernel
theorem dX3_spreadOneVisit_54 : decode cX3_spreadOneVisit 54 = .ok (.iinc 4 1, 3) := by decide +kernel
theorem dX3_spreadOneVisit_57 : decode cX3_spreadOneVisit 57 = .ok (.goto (-44), 3) := by decide +kernel
theorem dX3_spreadOneVisit_60 : decode cX3_spreadOneVisit 60 = .ok (.aload_n 1, 1) := by decide +kernel
theorem dX3_spreadOneVisit_61 : decode cX3_spreadOneVisit 61 = .ok (.ifnull 13, 3) := by decide +kernel
theorem dX3_spreadOneVisit_64 : decode cX3_spreadOneVisit 64 = .ok (.aload_n 1, 1) := by decide +kernel
theorem dX3_spreadOneVisit_65 : decode cX3_spreadOneVisit 65 = .ok (.dup, 1) := by decide +kernel
theorem dX3_spreadOneVisit_66 : decode cX3_spreadOneVisit 66 = .ok (.getfield 198, 3) := by decide +kernel
theorem dX3_spreadOneVisit_69 : decode cX3_spreadOneVisit 69 = .ok (.iconst 1, 1) := by decide +kernel
theorem dX3_spreadOneVisit_70 : decode cX3_spreadOneVisit 70 = .ok (.iadd, 1) := by decide +kernel
theorem dX3_spreadOneVisit_71 : decode cX3_spreadOneVisit 71 = .ok (.putfield 198, 3) := by decide +kernel
theorem dX3_spreadOneVisit_74 : decode cX3_spreadOneVisit 74 = .ok (.return_, 1) := by decide +kernel
theorem dX4_init_0 : decode cX4_init 0 = .ok (.aload_n 0, 1) := by decide +kernel
theorem dX4_init_1 : decode cX4_init 1 = .ok (.invokespecial 1, 3) := by decide +kernel
theorem dX4_init_4 : decode cX4_init 4 = .ok (.aload_n 0, 1) := by decide +kernel
theorem dX4_init_5 : decode cX4_init 5 = .ok (.bipush 30, 2) := by decide +kernel
theorem dX4_init_7 : decode cX4_init 7 = .ok (.newarray .int, 2) := by decide +kernel
theorem dX4_init_9 : decode cX4_init 9 = .ok (.putfield 7, 3) := by decide +kernel
theorem dX4_init_12 : decode cX4_init 12 = .ok (.aload_n 0, 1) := by decide +kernel
theorem dX4_init_13 : decode cX4_init 13 = .ok (.bipush 6, 2) := by decide +kernel
theorem dX4_init_15 : decode cX4_init 15 = .ok (.newarray .int, 2) := by decide +kernel
theorem dX4_init_17 : decode cX4_init 17 = .ok (.putfield 13, 3) := by decide +kernel
theorem dX4_init_20 : decode cX4_init 20 = .ok (.aload_n 0, 1) := by decide +kernel
theorem dX4_init_21 : decode cX4_init 21 = .ok (.bipush 6, 2) := by decide +kernel
theorem dX4_init_23 : decode cX4_init 23 = .ok (.newarray .int, 2) := by decide +kernel
theorem dX4_init_25 : decode cX4_init 25 = .ok (.putfield 16, 3) := by decide +kernel
theorem dX4_init_28 : decode cX4_init 28 = .ok (.aload_n 0, 1) := by decide +kernel
theorem dX4_init_29 : decode cX4_init 29 = .ok (.bipush 6, 2) := by decide +kernel
theorem dX4_init_31 : decode cX4_init 31 = .ok (.newarray .int, 2) := by decide +kernel
theorem dX4_init_33 : decode cX4_init 33 = .ok (.putfield 19, 3) := by decide +kernel
theorem dX4_init_36 : decode cX4_init 36 = .ok (.aload_n 0, 1) := by decide +kernel
theorem dX4_init_37 : decode cX4_init 37 = .ok (.bipush 10, 2) := by decide +kernel
theorem dX4_init_39 : decode cX4_init 39 = .ok (.putfield 22, 3) := by decide +kernel
theorem dX4_init_42 : decode cX4_init 42 = .ok (.aload_n 0, 1) := by decide +kernel
theorem dX4_init_43 : decode cX4_init 43 = .ok (.sipush 500, 3) := by decide +kernel
theorem dX4_init_46 : decode cX4_init 46 = .ok (.putfield 26, 3) := by decide +kernel
theorem dX4_init_49 : decode cX4_init 49 = .ok (.aload_n 0, 1) := by decide +kernel
theorem dX4_init_50 : decode cX4_init 50 = .ok (.bipush 20, 2) := by decide +kernel
theorem dX4_init_52 : decode cX4_init 52 = .ok (.putfield 29, 3) := by decide +kernel
theorem dX4_init_55 : decode cX4_init 55 = .ok (.aload_n 0, 1) := by decide +kernel
theorem dX4_init_56 : decode cX4_init 56 = .ok (.sipush 900, 3) := by decide +kernel
theorem dX4_init_59 : decode cX4_init 59 = .ok (.newarray .int, 2) := by decide +kernel
theorem dX4_init_61 : decode cX4_init 61 = .ok (.putfield 32, 3) := by decide +kernel
theorem dX4_init_64 : decode cX4_init 64 = .ok (.aload_n 0, 1) := by decide +kernel
theorem dX4_init_65 : decode cX4_init 65 = .ok (.bipush 30, 2) := by decide +kernel
theorem dX4_init_67 : decode cX4_init 67 = .ok (.newarray .int, 2) := by decide +kernel
theorem dX4_init_69 : decode cX4_init 69 = .ok (.putfield 35, 3) := by decide +kernel
theorem dX4_init_72 : decode cX4_init 72 = .ok (.aload_n 0, 1) := by decide +kernel
theorem dX4_init_73 : decode cX4_init 73 = .ok (.bipush 30, 2) := by decide +kernel
theorem dX4_init_75 : decode cX4_init 75 = .ok (.newarray .int, 2) := by decide +kernel
theorem dX4_init_77 : decode cX4_init 77 = .ok (.putfield 38, 3) := by decide +kernel
theorem dX4_init_80 : decode cX4_init 80 = .ok (.aload_n 0, 1) := by decide +kernel
theorem dX4_init_81 : decode cX4_init 81 = .ok (.bipush 30, 2) := by decide +kernel
theorem dX4_init_83 : decode cX4_init 83 = .ok (.newarray .int, 2) := by decide +kernel
theorem dX4_init_85 : decode cX4_init 85 = .ok (.putfield 41, 3) := by decide +kernel
theorem dX4_init_88 : decode cX4_init 88 = .ok (.aload_n 0, 1) := by decide +kernel
theorem dX4_init_89 : decode cX4_init 89 = .ok (.bipush 30, 2) := by decide +kernel
theorem dX4_init_91 : decode cX4_init 91 = .ok (.newarray .int, 2) := by decide +kernel
theorem dX4_init_93 : decode cX4_init 93 = .ok (.putfield 44, 3) := by decide +kernel
theorem dX4_init_96 : decode cX4_init 96 = .ok (.aload_n 0, 1) := by decide +kernel
theorem dX4_init_97 : decode cX4_init 97 = .ok (.bipush 30, 2) := by decide +kernel
theorem dX4_init_99 : decode cX4_init 99 = .ok (.newarray .int, 2) := by decide +kernel
theorem dX4_init_101 : decode cX4_init 101 = .ok (.putfield 47, 3) := by decide +kernel
theorem dX4_init_104 : decode cX4_init 104 = .ok (.aload_n 0, 1) := by decide +kernel
theorem dX4_init_105 : decode cX4_init 105 = .ok (.bipush 30, 2) := by decide +kernel
theorem dX4_init_107 : decode cX4_init 107 = .ok (.newarray .int, 2) := by decide +kernel
theorem dX4_init_109 : decode cX4_init 109 = .ok (.putfield 50, 3) := by decide +kernel
theorem dX4_init_112 : decode cX4_init 112 = .ok (.aload_n 0, 1) := by decide +kernel
theorem dX4_init_113 : decode cX4_init 113 = .ok (.bipush 30, 2) := by decide +kernel
theorem dX4_init_115 : decode cX4_init 115 = .ok (.newarray .boolean, 2) := by decide +kernel
theorem dX4_init_117 : decode cX4_init 117 = .ok (.putfield 53, 3) := by decide +kernel
theorem dX4_init_120 : decode cX4_init 120 = .ok (.aload_n 0, 1) := by decide +kernel
theorem dX4_init_121 : decode cX4_init 121 = .ok (.bipush 30, 2) := by decide +kernel
theorem dX4_init_123 : decode cX4_init 123 = .ok (.newarray .boolean, 2) := by decide +kernel
theorem dX4_init_125 : decode cX4_init 125 = .ok (.putfield 57, 3) := by decide +kernel
theorem dX4_init_128 : decode cX4_init 128 = .ok (.aload_n 0, 1) := by decide +kernel
theorem dX4_init_129 : decode cX4_init 129 = .ok (.bipush 15, 2) := by decide +kernel
theorem dX4_init_131 : decode cX4_init 131 = .ok (.newarray .int, 2) := by decide +kernel
theorem dX4_init_133 : decode cX4_init 133 = .ok (.putfield 60, 3) := by decide +kernel
theorem dX4_init_136 : decode cX4_init 136 = .ok (.aload_n 0, 1) := by decide +kernel
theorem dX4_init_137 : decode cX4_init 137 = .ok (.bipush 15, 2) := by decide +kernel
theorem dX4_init_139 : decode cX4_init 139 = .ok (.newarray .int, 2) := by decide +kernel
theorem dX4_init_141 : decode cX4_init 141 = .ok (.putfield 63, 3) := by decide +kernel
theorem dX4_init_144 : decode cX4_init 144 = .ok (.aload_n 0, 1) := by decide +kernel
theorem dX4_init_145 : decode cX4_init 145 = .ok (.bipush 30, 2) := by decide +kernel
theorem dX4_init_147 : decode cX4_init 147 = .ok (.newarray .int, 2) := by decide +kernel
theorem dX4_init_149 : decode cX4_init 149 = .ok (.putfield 66, 3) := by decide +kernel
theorem dX4_init_152 : decode cX4_init 152 = .ok (.iconst 0, 1) := by decide +kernel
theorem dX4_init_153 : decode cX4_init 153 = .ok (.istore_n 1, 1) := by decide +kernel
theorem dX4_init_154 : decode cX4_init 154 = .ok (.iload_n 1, 1) := by decide +kernel
theorem dX4_init_155 : decode cX4_init 155 = .ok (.bipush 6, 2) := by decide +kernel
theorem dX4_init_157 : decode cX4_init 157 = .ok (.if_icmp .ge 16, 3) := by decide +kernel
theorem dX4_init_160 : decode cX4_init 160 = .ok (.aload_n 0, 1) := by decide +kernel
theorem dX4_init_161 : decode cX4_init 161 = .ok (.getfield 13, 3) := by decide +kernel
theorem dX4_init_164 : decode cX4_init 164 = .ok (.iload_n 1, 1) := by decide +kernel
theorem dX4_init_165 : decode cX4_init 165 = .ok (.iconst 5, 1) := by decide +kernel
theorem dX4_init_166 : decode cX4_init 166 = .ok (.iastore, 1) := by decide +kernel
theorem dX4_init_167 : decode cX4_init 167 = .ok (.iinc 1 1, 3) := by decide +kernel
theorem dX4_init_170 : decode cX4_init 170 = .ok (.goto (-16), 3) := by decide +kernel
theorem dX4_init_173 : decode cX4_init 173 = .ok (.return_, 1) := by decide +kernel
theorem dX4_thrown_0 : decode cX4_thrown 0 = .ok (.aload_n 0, 1) := by decide +kernel
theorem dX4_thrown_1 : decode cX4_thrown 1 = .ok (.getfield 69, 3) := by decide +kernel
theorem dX4_thrown_4 : decode cX4_thrown 4 = .ok (.ireturn, 1) := by decide +kernel
theorem dX4_fails_0 : decode cX4_fails 0 = .ok (.aload_n 0, 1) := by decide +kernel
theorem dX4_fails_1 : decode cX4_fails 1 = .ok (.iload_n 1, 1) := by decide +kernel
theorem dX4_fails_2 : decode cX4_fails 2 = .ok (.putfield 69, 3) := by decide +kernel
theorem dX4_fails_5 : decode cX4_fails 5 = .ok (.iconst 0, 1) := by decide +kernel
theorem dX4_fails_6 : decode cX4_fails 6 = .ok (.ireturn, 1) := by decide +kernel
theorem dX4_in_0 : decode cX4_in 0 = .ok (.iload_n 0, 1) := by decide +kernel
theorem dX4_in_1 : decode cX4_in 1 = .ok (.iload_n 1, 1) := by decide +kernel
theorem dX4_in_2 : decode cX4_in 2 = .ok (.if_icmp .lt 12, 3) := by decide +kernel
theorem dX4_in_5 : decode cX4_in 5 = .ok (.iload_n 0, 1) := by decide +kernel
theorem dX4_in_6 : decode cX4_in 6 = .ok (.iload_n 2, 1) := by decide +kernel
theorem dX4_in_7 : decode cX4_in 7 = .ok (.if_icmp .gt 7, 3) := by decide +kernel
theorem dX4_in_10 : decode cX4_in 10 = .ok (.iconst 1, 1) := by decide +kernel
theorem dX4_in_11 : decode cX4_in 11 = .ok (.goto 4, 3) := by decide +kernel
theorem dX4_in_14 : decode cX4_in 14 = .ok (.iconst 0, 1) := by decide +kernel
theorem dX4_in_15 : decode cX4_in 15 = .ok (.ireturn, 1) := by decide +kernel
set_option maxRecDepth 20000 in
theorem ggX4_isHost_X4_in : GoodIn wsX4_isHost wsX4_in := goodIn_r _ [4] (by decide +kernel) (by decide +kernel)
set_option maxRecDepth 20000 in
theorem gX4_isHost_X4_in : GoodIn wsX4_isHost (va_wsS RX4 72 yX4_in wsX4_in) := goodIn_app (goodIn_of _ (by decide +kernel)) ggX4_isHost_X4_in
theorem dX4_isHost_0 : decode cX4_isHost 0 = .ok (.iload_n 0, 1) := by decide +kernel
theorem dX4_isHost_1 : decode cX4_isHost 1 = .ok (.iconst 0, 1) := by decide +kernel
theorem dX4_isHost_2 : decode cX4_isHost 2 = .ok (.iconst 5, 1) := by decide +kernel
theorem dX4_isHost_3 : decode cX4_isHost 3 = .ok (.invokestatic 72, 3) := by decide +kernel
theorem dX4_isHost_6 : decode cX4_isHost 6 = .ok (.ireturn, 1) := by decide +kernel
set_option maxRecDepth 20000 in
theorem ggX4_isPage_X4_in : GoodIn wsX4_isPage wsX4_in := goodIn_r _ [5] (by decide +kernel) (by decide +kernel)
set_option maxRecDepth 20000 in
theorem gX4_isPage_X4_in : GoodIn wsX4_isPage (va_wsS RX4 72 yX4_in wsX4_in) := goodIn_app (goodIn_of _ (by decide +kernel)) ggX4_isPage_X4_in
theorem dX4_isPage_0 : decode cX4_isPage 0 = .ok (.iload_n 1, 1) := by decide +kernel
theorem dX4_isPage_1 : decode cX4_isPage 1 = .ok (.iconst 0, 1) := by decide +kernel
theorem dX4_isPage_2 : decode cX4_isPage 2 = .ok (.aload_n 0, 1) := by decide +kernel
theorem dX4_isPage_3 : decode cX4_isPage 3 = .ok (.getfield 76, 3) := by decide +kernel
theorem dX4_isPage_6 : decode cX4_isPage 6 = .ok (.iconst 1, 1) := by decide +kernel
theorem dX4_isPage_7 : decode cX4_isPage 7 = .ok (.isub, 1) := by decide +kernel
theorem dX4_isPage_8 : decode cX4_isPage 8 = .ok (.invokestatic 72, 3) := by decide +kernel
theorem dX4_isPage_11 : decode cX4_isPage 11 = .ok (.ireturn, 1) := by decide +kernel
set_option maxRecDepth 20000 in
theorem ggX4_isAsked_X4_isPage : GoodIn wsX4_isAsked wsX4_isPage := goodIn_r _ [6, 7, 8, 9, 5, 10, 11, 12, 13, 14, 15, 16, 17, 18, 19, 20, 21, 22, 23, 24, 25, 26, 27, 28, 29, 30, 31, 32, 33, 34, 35, 36] (by decide +kernel) (by decide +kernel)
set_option maxRecDepth 20000 in
theorem gX4_isAsked_X4_isPage : GoodIn wsX4_isAsked (wsV RX4 79 RX4 yX4_isPage wsX4_isPage) := goodIn_app (goodIn_of _ (by decide +kernel)) ggX4_isAsked_X4_isPage
theorem dX4_isAsked_0 : decode cX4_isAsked 0 = .ok (.aload_n 0, 1) := by decide +kernel
theorem dX4_isAsked_1 : decode cX4_isAsked 1 = .ok (.aload_n 0, 1) := by decide +kernel
theorem dX4_isAsked_2 : decode cX4_isAsked 2 = .ok (.iload_n 1, 1) := by decide +kernel
theorem dX4_isAsked_3 : decode cX4_isAsked 3 = .ok (.invokevirtual 79, 3) := by decide +kernel
theorem dX4_isAsked_6 : decode cX4_isAsked 6 = .ok (.ifCond .eq 7, 3) := by decide +kernel
theorem dX4_isAsked_9 : decode cX4_isAsked 9 = .ok (.iconst 0, 1) := by decide +kernel
theorem dX4_isAsked_10 : decode cX4_isAsked 10 = .ok (.goto 4, 3) := by decide +kernel
theorem dX4_isAsked_13 : decode cX4_isAsked 13 = .ok (.iconst 1, 1) := by decide +kernel
theorem dX4_isAsked_14 : decode cX4_isAsked 14 = .ok (.putfield 69, 3) := by decide +kernel
theorem dX4_isAsked_17 : decode cX4_isAsked 17 = .ok (.aload_n 0, 1) := by decide +kernel
theorem dX4_isAsked_18 : decode cX4_isAsked 18 = .ok (.getfield 69, 3) := by decide +kernel
theorem dX4_isAsked_21 : decode cX4_isAsked 21 = .ok (.ifCond .ne 7, 3) := by decide +kernel
theorem dX4_isAsked_24 : decode cX4_isAsked 24 = .ok (.iconst 1, 1) := by decide +kernel
theorem dX4_isAsked_25 : decode cX4_isAsked 25 = .ok (.goto 4, 3) := by decide +kernel
theorem dX4_isAsked_28 : decode cX4_isAsked 28 = .ok (.iconst 0, 1) := by decide +kernel
theorem dX4_isAsked_29 : decode cX4_isAsked 29 = .ok (.ireturn, 1) := by decide +kernel
theorem dX4_laySegments_0 : decode cX4_laySegments 0 = .ok (.aload_n 0, 1) := by decide +kernel
theorem dX4_laySegments_1 : decode cX4_laySegments 1 = .ok (.iconst 0, 1) := by decide +kernel
theorem dX4_laySegments_2 : decode cX4_laySegments 2 = .ok (.putfield 83, 3) := by decide +kernel
theorem dX4_laySegments_5 : decode cX4_laySegments 5 = .ok (.iconst 0, 1) := by decide +kernel
theorem dX4_laySegments_6 : decode cX4_laySegments 6 = .ok (.istore_n 1, 1) := by decide +kernel
theorem dX4_laySegments_7 : decode cX4_laySegments 7 = .ok (.iload_n 1, 1) := by decide +kernel
theorem dX4_laySegments_8 : decode cX4_laySegments 8 = .ok (.aload_n 0, 1) := by decide +kernel
theorem dX4_laySegments_9 : decode cX4_laySegments 9 = .ok (.getfield 86, 3) := by decide +kernel
theorem dX4_laySegments_12 : decode cX4_laySegments 12 = .ok (.if_icmp .ge 103, 3) := by decide +kernel
theorem dX4_laySegments_15 : decode cX4_laySegments 15 = .ok (.iload_n 1, 1) := by decide +kernel
theorem dX4_laySegments_16 : decode cX4_laySegments 16 = .ok (.ifCond .eq 16, 3) := by decide +kernel
theorem dX4_laySegments_19 : decode cX4_laySegments 19 = .ok (.aload_n 0, 1) := by decide +kernel
theorem dX4_laySegments_20 : decode cX4_laySegments 20 = .ok (.getfield 7, 3) := by decide +kernel
theorem dX4_laySegments_23 : decode cX4_laySegments 23 = .ok (.iload_n 1, 1) := by decide +kernel
theorem dX4_laySegments_24 : decode cX4_laySegments 24 = .ok (.iconst 1, 1) := by decide +kernel
theorem dX4_laySegments_25 : decode cX4_laySegments 25 = .ok (.isub, 1) := by decide +kernel
theorem dX4_laySegments_26 : decode cX4_laySegments 26 = .ok (.iaload, 1) := by decide +kernel
theorem dX4_laySegments_27 : decode cX4_laySegments 27 = .ok (.bipush 47, 2) := by decide +kernel
theorem dX4_laySegments_29 : decode cX4_laySegments 29 = .ok (.if_icmp .ne 7, 3) := by decide +kernel
theorem dX4_laySegments_32 : decode cX4_laySegments 32 = .ok (.iconst 1, 1) := by decide +kernel
theorem dX4_laySegments_33 : decode cX4_laySegments 33 = .ok (.goto 4, 3) := by decide +kernel
theorem dX4_laySegments_36 : decode cX4_laySegments 36 = .ok (.iconst 0, 1) := by decide +kernel
theorem dX4_laySegments_37 : decode cX4_laySegments 37 = .ok (.istore_n 2, 1) := by decide +kernel
theorem dX4_laySegments_38 : decode cX4_laySegments 38 = .ok (.aload_n 0, 1) := by decide +kernel
theorem dX4_laySegments_39 : decode cX4_laySegments 39 = .ok (.getfield 7, 3) := by decide +kernel
theorem dX4_laySegments_42 : decode cX4_laySegments 42 = .ok (.iload_n 1, 1) := by decide +kernel
theorem dX4_laySegments_43 : decode cX4_laySegments 43 = .ok (.iaload, 1) := by decide +kernel
theorem dX4_laySegments_44 : decode cX4_laySegments 44 = .ok (.bipush 47, 2) := by decide +kernel
theorem dX4_laySegments_46 : decode cX4_laySegments 46 = .ok (.if_icmp .eq 37, 3) := by decide +kernel
theorem dX4_laySegments_49 : decode cX4_laySegments 49 = .ok (.iload_n 2, 1) := by decide +kernel
theorem dX4_laySegments_50 : decode cX4_laySegments 50 = .ok (.ifCond .eq 33, 3) := by decide +kernel
theorem dX4_laySegments_53 : decode cX4_laySegments 53 = .ok (.aload_n 0, 1) := by decide +kernel
theorem dX4_laySegments_54 : decode cX4_laySegments 54 = .ok (.getfield 60, 3) := by decide +kernel
theorem dX4_laySegments_57 : decode cX4_laySegments 57 = .ok (.aload_n 0, 1) := by decide +kernel
theorem dX4_laySegments_58 : decode cX4_laySegments 58 = .ok (.getfield 83, 3) := by decide +kernel
theorem dX4_laySegments_61 : decode cX4_laySegments 61 = .ok (.iload_n 1, 1) := by decide +kernel
theorem dX4_laySegments_62 : decode cX4_laySegments 62 = .ok (.iastore, 1) := by decide +kernel
theorem dX4_laySegments_63 : decode cX4_laySegments 63 = .ok (.aload_n 0, 1) := by decide +kernel
theorem dX4_laySegments_64 : decode cX4_laySegments 64 = .ok (.getfield 63, 3) := by decide +kernel
theorem dX4_laySegments_67 : decode cX4_laySegments 67 = .ok (.aload_n 0, 1) := by decide +kernel
theorem dX4_laySegments_68 : decode cX4_laySegments 68 = .ok (.getfield 83, 3) := by decide +kernel
theorem dX4_laySegments_71 : decode cX4_laySegments 71 = .ok (.iconst 0, 1) := by decide +kernel
theorem dX4_laySegments_72 : decode cX4_laySegments 72 = .ok (.iastore, 1) := by decide +kernel
theorem dX4_laySegments_73 : decode cX4_laySegments 73 = .ok (.aload_n 0, 1) := by decide +kernel
theorem dX4_laySegments_74 : decode cX4_laySegments 74 = .ok (.dup, 1) := by decide +kernel
theorem dX4_laySegments_75 : decode cX4_laySegments 75 = .ok (.getfield 83, 3) := by decide +kernel
theorem dX4_laySegments_78 : decode cX4_laySegments 78 = .ok (.iconst 1, 1) := by decide +kernel
theorem dX4_laySegments_79 : decode cX4_laySegments 79 = .ok (.iadd, 1) := by decide +kernel
theorem dX4_laySegments_80 : decode cX4_laySegments 80 = .ok (.putfield 83, 3) := by decide +kernel
theorem dX4_laySegments_83 : decode cX4_laySegments 83 = .ok (.aload_n 0, 1) := by decide +kernel
theorem dX4_laySegments_84 : decode cX4_laySegments 84 = .ok (.getfield 7, 3) := by decide +kernel
theorem dX4_laySegments_87 : decode cX4_laySegments 87 = .ok (.iload_n 1, 1) := by decide +kernel
theorem dX4_laySegments_88 : decode cX4_laySegments 88 = .ok (.iaload, 1) := by decide +kernel
theorem dX4_laySegments_89 : decode cX4_laySegments 89 = .ok (.bipush 47, 2) := by decide +kernel
theorem dX4_laySegments_91 : decode cX4_laySegments 91 = .ok (.if_icmp .eq 18, 3) := by decide +kernel
theorem dX4_laySegments_94 : decode cX4_laySegments 94 = .ok (.aload_n 0, 1) := by decide +kernel
theorem dX4_laySegments_95 : decode cX4_laySegments 95 = .ok (.getfield 63, 3) := by decide +kernel
theorem dX4_laySegments_98 : decode cX4_laySegments 98 = .ok (.aload_n 0, 1) := by decide +kernel
theorem dX4_laySegments_99 : decode cX4_laySegments 99 = .ok (.getfield 83, 3) := by decide +kernel
theorem dX4_laySegments_102 : decode cX4_laySegments 102 = .ok (.iconst 1, 1) := by decide +kernel
theorem dX4_laySegments_103 : decode cX4_laySegments 103 = .ok (.isub, 1) := by decide +kernel
theorem dX4_laySegments_104 : decode cX4_laySegments 104 = .ok (.dup2, 1) := by decide +kernel
theorem dX4_laySegments_105 : decode cX4_laySegments 105 = .ok (.iaload, 1) := by decide +kernel
theorem dX4_laySegments_106 : decode cX4_laySegments 106 = .ok (.iconst 1, 1) := by decide +kernel
theorem dX4_laySegments_107 : decode cX4_laySegments 107 = .ok (.iadd, 1) := by decide +kernel
theorem dX4_laySegments_108 : decode cX4_laySegments 108 = .ok (.iastore, 1) := by decide +kernel
theorem dX4_laySegments_109 : decode cX4_laySegments 109 = .ok (.iinc 1 1, 3) := by decide +kernel
theorem dX4_laySegments_112 : decode cX4_laySegments 112 = .ok (.goto (-105), 3) := by decide +kernel
theorem dX4_laySegments_115 : decode cX4_laySegments 115 = .ok (.return_, 1) := by decide +kernel
theorem dX4_areSame_0 : decode cX4_areSame 0 = .ok (.aload_n 0, 1) := by decide +kernel
theorem dX4_areSame_1 : decode cX4_areSame 1 = .ok (.getfield 63, 3) := by decide +kernel
theorem dX4_areSame_4 : decode cX4_areSame 4 = .ok (.iload_n 1, 1) := by decide +kernel
theorem dX4_areSame_5 : decode cX4_areSame 5 = .ok (.iaload, 1) := by decide +kernel
theorem dX4_areSame_6 : decode cX4_areSame 6 = .ok (.aload_n 0, 1) := by decide +kernel
theorem dX4_areSame_7 : decode cX4_areSame 7 = .ok (.getfield 63, 3) := by decide +kernel
theorem dX4_areSame_10 : decode cX4_areSame 10 = .ok (.iload_n 2, 1) := by decide +kernel
theorem dX4_areSame_11 : decode cX4_areSame 11 = .ok (.iaload, 1) := by decide +kernel
theorem dX4_areSame_12 : decode cX4_areSame 12 = .ok (.if_icmp .ne 7, 3) := by decide +kernel
theorem dX4_areSame_15 : decode cX4_areSame 15 = .ok (.iconst 1, 1) := by decide +kernel
theorem dX4_areSame_16 : decode cX4_areSame 16 = .ok (.goto 4, 3) := by decide +kernel
theorem dX4_areSame_19 : decode cX4_areSame 19 = .ok (.iconst 0, 1) := by decide +kernel
theorem dX4_areSame_20 : decode cX4_areSame 20 = .ok (.istore_n 3, 1) := by decide +kernel
theorem dX4_areSame_21 : decode cX4_areSame 21 = .ok (.iconst 0, 1) := by decide +kernel
theorem dX4_areSame_22 : decode cX4_areSame 22 = .ok (.istore 4, 2) := by decide +kernel
theorem dX4_areSame_24 : decode cX4_areSame 24 = .ok (.iload 4, 2) := by decide +kernel
theorem dX4_areSame_26 : decode cX4_areSame 26 = .ok (.aload_n 0, 1) := by decide +kernel
theorem dX4_areSame_27 : decode cX4_areSame 27 = .ok (.getfield 63, 3) := by decide +kernel
theorem dX4_areSame_30 : decode cX4_areSame 30 = .ok (.iload_n 1, 1) := by decide +kernel
theorem dX4_areSame_31 : decode cX4_areSame 31 = .ok (.iaload, 1) := by decide +kernel
theorem dX4_areSame_32 : decode cX4_areSame 32 = .ok (.if_icmp .ge 50, 3) := by decide +kernel
theorem dX4_areSame_35 : decode cX4_areSame 35 = .ok (.iload_n 3, 1) := by decide +kernel
theorem dX4_areSame_36 : decode cX4_areSame 36 = .ok (.ifCond .eq 46, 3) := by decide +kernel
theorem dX4_areSame_39 : decode cX4_areSame 39 = .ok (.aload_n 0, 1) := by decide +kernel
theorem dX4_areSame_40 : decode cX4_areSame 40 = .ok (.getfield 7, 3) := by decide +kernel
theorem dX4_areSame_43 : decode cX4_areSame 43 = .ok (.aload_n 0, 1) := by decide +kernel
theorem dX4_areSame_44 : decode cX4_areSame 44 = .ok (.getfield 60, 3) := by decide +kernel
theorem dX4_areSame_47 : decode cX4_areSame 47 = .ok (.iload_n 1, 1) := by decide +kernel
theorem dX4_areSame_48 : decode cX4_areSame 48 = .ok (.iaload, 1) := by decide +kernel
theorem dX4_areSame_49 : decode cX4_areSame 49 = .ok (.iload 4, 2) := by decide +kernel
theorem dX4_areSame_51 : decode cX4_areSame 51 = .ok (.iadd, 1) := by decide +kernel
theorem dX4_areSame_52 : decode cX4_areSame 52 = .ok (.iaload, 1) := by decide +kernel
theorem dX4_areSame_53 : decode cX4_areSame 53 = .ok (.aload_n 0, 1) := by decide +kernel
theorem dX4_areSame_54 : decode cX4_areSame 54 = .ok (.getfield 7, 3) := by decide +kernel
theorem dX4_areSame_57 : decode cX4_areSame 57 = .ok (.aload_n 0, 1) := by decide +kernel
theorem dX4_areSame_58 : decode cX4_areSame 58 = .ok (.getfield 60, 3) := by decide +kernel
theorem dX4_areSame_61 : decode cX4_areSame 61 = .ok (.iload_n 2, 1) := by decide +kernel
theorem dX4_areSame_62 : decode cX4_areSame 62 = .ok (.iaload, 1) := by decide +kernel
theorem dX4_areSame_63 : decode cX4_areSame 63 = .ok (.iload 4, 2) := by decide +kernel
theorem dX4_areSame_65 : decode cX4_areSame 65 = .ok (.iadd, 1) := by decide +kernel
theorem dX4_areSame_66 : decode cX4_areSame 66 = .ok (.iaload, 1) := by decide +kernel
theorem dX4_areSame_67 : decode cX4_areSame 67 = .ok (.if_icmp .ne 7, 3) := by decide +kernel
theorem dX4_areSame_70 : decode cX4_areSame 70 = .ok (.iconst 1, 1) := by decide +kernel
theorem dX4_areSame_71 : decode cX4_areSame 71 = .ok (.goto 4, 3) := by decide +kernel
theorem dX4_areSame_74 : decode cX4_areSame 74 = .ok (.iconst 0, 1) := by decide +kernel
theorem dX4_areSame_75 : decode cX4_areSame 75 = .ok (.istore_n 3, 1) := by decide +kernel
theorem dX4_areSame_76 : decode cX4_areSame 76 = .ok (.iinc 4 1, 3) := by decide +kernel
theorem dX4_areSame_79 : decode cX4_areSame 79 = .ok (.goto (-55), 3) := by decide +kernel
theorem dX4_areSame_82 : decode cX4_areSame 82 = .ok (.iload_n 3, 1) := by decide +kernel
theorem dX4_areSame_83 : decode cX4_areSame 83 = .ok (.ireturn, 1) := by decide +kernel
set_option maxRecDepth 20000 in
theorem ggX4_repeats_X4_laySegments : GoodIn wsX4_repeats wsX4_laySegments := goodIn_r _ [6, 1, 7, 8, 9, 10, 15, 16, 17, 18, 19, 20, 21, 22, 23, 24, 25, 26, 27, 28, 29, 30, 31, 32, 33, 34, 35, 36, 37, 38, 39, 40] (by decide +kernel) (by decide +kernel)
set_option maxRecDepth 20000 in
theorem gX4_repeats_X4_laySegments : GoodIn wsX4_repeats (wsV RX4 89 RX4 yX4_laySegments wsX4_laySegments) := goodIn_app (goodIn_of _ (by decide +kernel)) ggX4_repeats_X4_laySegments
set_option maxRecDepth 20000 in
theorem ggX4_repeats_X4_areSame : GoodIn wsX4_repeats wsX4_areSame := goodIn_r _ [14, 10, 8, 9, 15, 16, 17, 18, 19, 20, 21, 22, 23, 24, 25, 26, 27, 28, 29, 30, 31, 32, 33, 34, 35, 36, 37, 38, 39, 40] (by decide +kernel) (by decide +kernel)
set_option maxRecDepth 20000 in
theorem gX4_repeats_X4_areSame : GoodIn wsX4_repeats (wsV RX4 92 RX4 yX4_areSame wsX4_areSame) := goodIn_app (goodIn_of _ (by decide +kernel)) ggX4_repeats_X4_areSame
theorem dX4_repeats_0 : decode cX4_repeats 0 = .ok (.aload_n 0, 1) := by decide +kernel
theorem dX4_repeats_1 : decode cX4_repeats 1 = .ok (.invokevirtual 89, 3) := by decide +kernel
theorem dX4_repeats_4 : decode cX4_repeats 4 = .ok (.iconst 0, 1) := by decide +kernel
theorem dX4_repeats_5 : decode cX4_repeats 5 = .ok (.istore_n 1, 1) := by decide +kernel
theorem dX4_repeats_6 : decode cX4_repeats 6 = .ok (.iconst 1, 1) := by decide +kernel
theorem dX4_repeats_7 : decode cX4_repeats 7 = .ok (.istore_n 2, 1) := by decide +kernel
theorem dX4_repeats_8 : decode cX4_repeats 8 = .ok (.iload_n 2, 1) := by decide +kernel
theorem dX4_repeats_9 : decode cX4_repeats 9 = .ok (.iconst 4, 1) := by decide +kernel
theorem dX4_repeats_10 : decode cX4_repeats 10 = .ok (.if_icmp .ge 91, 3) := by decide +kernel
theorem dX4_repeats_13 : decode cX4_repeats 13 = .ok (.iconst 0, 1) := by decide +kernel
theorem dX4_repeats_14 : decode cX4_repeats 14 = .ok (.istore_n 3, 1) := by decide +kernel
theorem dX4_repeats_15 : decode cX4_repeats 15 = .ok (.iload_n 3, 1) := by decide +kernel
theorem dX4_repeats_16 : decode cX4_repeats 16 = .ok (.iconst 3, 1) := by decide +kernel
theorem dX4_repeats_17 : decode cX4_repeats 17 = .ok (.iload_n 2, 1) := by decide +kernel
theorem dX4_repeats_18 : decode cX4_repeats 18 = .ok (.imul, 1) := by decide +kernel
theorem dX4_repeats_19 : decode cX4_repeats 19 = .ok (.iadd, 1) := by decide +kernel
theorem dX4_repeats_20 : decode cX4_repeats 20 = .ok (.aload_n 0, 1) := by decide +kernel
theorem dX4_repeats_21 : decode cX4_repeats 21 = .ok (.getfield 83, 3) := by decide +kernel
theorem dX4_repeats_24 : decode cX4_repeats 24 = .ok (.if_icmp .gt 71, 3) := by decide +kernel
theorem dX4_repeats_27 : decode cX4_repeats 27 = .ok (.iconst 1, 1) := by decide +kernel
theorem dX4_repeats_28 : decode cX4_repeats 28 = .ok (.istore 4, 2) := by decide +kernel
theorem dX4_repeats_30 : decode cX4_repeats 30 = .ok (.iload_n 3, 1) := by decide +kernel
theorem dX4_repeats_31 : decode cX4_repeats 31 = .ok (.istore 5, 2) := by decide +kernel
theorem dX4_repeats_33 : decode cX4_repeats 33 = .ok (.iload 5, 2) := by decide +kernel
theorem dX4_repeats_35 : decode cX4_repeats 35 = .ok (.iload_n 3, 1) := by decide +kernel
theorem dX4_repeats_36 : decode cX4_repeats 36 = .ok (.iconst 2, 1) := by decide +kernel
theorem dX4_repeats_37 : decode cX4_repeats 37 = .ok (.iload_n 2, 1) := by decide +kernel
theorem dX4_repeats_38 : decode cX4_repeats 38 = .ok (.imul, 1) := by decide +kernel
theorem dX4_repeats_39 : decode cX4_repeats 39 = .ok (.iadd, 1) := by decide +kernel
theorem dX4_repeats_40 : decode cX4_repeats 40 = .ok (.if_icmp .ge 34, 3) := by decide +kernel
theorem dX4_repeats_43 : decode cX4_repeats 43 = .ok (.iload 4, 2) := by decide +kernel
theorem dX4_repeats_45 : decode cX4_repeats 45 = .ok (.ifCond .eq 20, 3) := by decide +kernel
theorem dX4_repeats_48 : decode cX4_repeats 48 = .ok (.aload_n 0, 1) := by decide +kernel
theorem dX4_repeats_49 : decode cX4_repeats 49 = .ok (.iload 5, 2) := by decide +kernel
theorem dX4_repeats_51 : decode cX4_repeats 51 = .ok (.iload 5, 2) := by decide +kernel
theorem dX4_repeats_53 : decode cX4_repeats 53 = .ok (.iload_n 2, 1) := by decide +kernel
theorem dX4_repeats_54 : decode cX4_repeats 54 = .ok (.iadd, 1) := by decide +kernel
theorem dX4_repeats_55 : decode cX4_repeats 55 = .ok (.invokevirtual 92, 3) := by decide +kernel
theorem dX4_repeats_58 : decode cX4_repeats 58 = .ok (.ifCond .eq 7, 3) := by decide +kernel
theorem dX4_repeats_61 : decode cX4_repeats 61 = .ok (.iconst 1, 1) := by decide +kernel
theorem dX4_repeats_62 : decode cX4_repeats 62 = .ok (.goto 4, 3) := by decide +kernel
theorem dX4_repeats_65 : decode cX4_repeats 65 = .ok (.iconst 0, 1) := by decide +kernel
theorem dX4_repeats_66 : decode cX4_repeats 66 = .ok (.istore 4, 2) := by decide +kernel
theorem dX4_repeats_68 : decode cX4_repeats 68 = .ok (.iinc 5 1, 3) := by decide +kernel
theorem dX4_repeats_71 : decode cX4_repeats 71 = .ok (.goto (-38), 3) := by decide +kernel
theorem dX4_repeats_74 : decode cX4_repeats 74 = .ok (.iload_n 1, 1) := by decide +kernel
theorem dX4_repeats_75 : decode cX4_repeats 75 = .ok (.ifCond .ne 8, 3) := by decide +kernel
theorem dX4_repeats_78 : decode cX4_repeats 78 = .ok (.iload 4, 2) := by decide +kernel
theorem dX4_repeats_80 : decode cX4_repeats 80 = .ok (.ifCond .eq 7, 3) := by decide +kernel
theorem dX4_repeats_83 : decode cX4_repeats 83 = .ok (.iconst 1, 1) := by decide +kernel
theorem dX4_repeats_84 : decode cX4_repeats 84 = .ok (.goto 4, 3) := by decide +kernel
theorem dX4_repeats_87 : decode cX4_repeats 87 = .ok (.iconst 0, 1) := by decide +kernel
theorem dX4_repeats_88 : decode cX4_repeats 88 = .ok (.istore_n 1, 1) := by decide +kernel
theorem dX4_repeats_89 : decode cX4_repeats 89 = .ok (.iinc 3 1, 3) := by decide +kernel
theorem dX4_repeats_92 : decode cX4_repeats 92 = .ok (.goto (-77), 3) := by decide +kernel
theorem dX4_repeats_95 : decode cX4_repeats 95 = .ok (.iinc 2 1, 3) := by decide +kernel
theorem dX4_repeats_98 : decode cX4_repeats 98 = .ok (.goto (-90), 3) := by decide +kernel
theorem dX4_repeats_101 : decode cX4_repeats 101 = .ok (.iload_n 1, 1) := by decide +kernel
theorem dX4_repeats_102 : decode cX4_repeats 102 = .ok (.ireturn, 1) := by decide +kernel
set_option maxRecDepth 20000 in
theorem ggX4_type_X4_in : GoodIn wsX4_type wsX4_in := goodIn_r _ [7] (by decide +kernel) (by decide +kernel)
set_option maxRecDepth 20000 in
theorem gX4_type_X4_in : GoodIn wsX4_type (va_wsS RX4 72 yX4_in wsX4_in) := goodIn_app (goodIn_of _ (by decide +kernel)) ggX4_type_X4_in
set_option maxRecDepth 20000 in
theorem ggX4_type_X4_fails : GoodIn wsX4_type wsX4_fails := goodIn_r _ [11, 1, 12, 13, 14, 15, 16, 17, 18, 19, 20, 21, 22, 23, 24, 25, 26, 27, 28, 29, 30, 31, 32, 33, 34, 35, 36, 37] (by decide +kernel) (by decide +kernel)
set_option maxRecDepth 20000 in
theorem gX4_type_X4_fails : GoodIn wsX4_type (wsV RX4 96 RX4 yX4_fails wsX4_fails) := goodIn_app (goodIn_of _ (by decide +kernel)) ggX4_type_X4_fails
theorem dX4_type_0 : decode cX4_type 0 = .ok (.aload_n 0, 1) := by decide +kernel
theorem dX4_type_1 : decode cX4_type 1 = .ok (.iconst 0, 1) := by decide +kernel
theorem dX4_type_2 : decode cX4_type 2 = .ok (.putfield 69, 3) := by decide +kernel
theorem dX4_type_5 : decode cX4_type 5 = .ok (.iload_n 1, 1) := by decide +kernel
theorem dX4_type_6 : decode cX4_type 6 = .ok (.bipush 47, 2) := by decide +kernel
theorem dX4_type_8 : decode cX4_type 8 = .ok (.if_icmp .eq 20, 3) := by decide +kernel
theorem dX4_type_11 : decode cX4_type 11 = .ok (.iload_n 1, 1) := by decide +kernel
theorem dX4_type_12 : decode cX4_type 12 = .ok (.bipush 97, 2) := by decide +kernel
theorem dX4_type_14 : decode cX4_type 14 = .ok (.bipush 122, 2) := by decide +kernel
theorem dX4_type_16 : decode cX4_type 16 = .ok (.invokestatic 72, 3) := by decide +kernel
theorem dX4_type_19 : decode cX4_type 19 = .ok (.ifCond .ne 9, 3) := by decide +kernel
theorem dX4_type_22 : decode cX4_type 22 = .ok (.aload_n 0, 1) := by decide +kernel
theorem dX4_type_23 : decode cX4_type 23 = .ok (.iconst 1, 1) := by decide +kernel
theorem dX4_type_24 : decode cX4_type 24 = .ok (.invokevirtual 96, 3) := by decide +kernel
theorem dX4_type_27 : decode cX4_type 27 = .ok (.ireturn, 1) := by decide +kernel
theorem dX4_type_28 : decode cX4_type 28 = .ok (.aload_n 0, 1) := by decide +kernel
theorem dX4_type_29 : decode cX4_type 29 = .ok (.getfield 86, 3) := by decide +kernel
theorem dX4_type_32 : decode cX4_type 32 = .ok (.bipush 30, 2) := by decide +kernel
theorem dX4_type_34 : decode cX4_type 34 = .ok (.if_icmp .ne 9, 3) := by decide +kernel
theorem dX4_type_37 : decode cX4_type 37 = .ok (.aload_n 0, 1) := by decide +kernel
theorem dX4_type_38 : decode cX4_type 38 = .ok (.iconst 2, 1) := by decide +kernel
theorem dX4_type_39 : decode cX4_type 39 = .ok (.invokevirtual 96, 3) := by decide +kernel
theorem dX4_type_42 : decode cX4_type 42 = .ok (.ireturn, 1) := by decide +kernel
theorem dX4_type_43 : decode cX4_type 43 = .ok (.aload_n 0, 1) := by decide +kernel
theorem dX4_type_44 : decode cX4_type 44 = .ok (.getfield 7, 3) := by decide +kernel
theorem dX4_type_47 : decode cX4_type 47 = .ok (.aload_n 0, 1) := by decide +kernel
theorem dX4_type_48 : decode cX4_type 48 = .ok (.getfield 86, 3) := by decide +kernel
theorem dX4_type_51 : decode cX4_type 51 = .ok (.iload_n 1, 1) := by decide +kernel
theorem dX4_type_52 : decode cX4_type 52 = .ok (.iastore, 1) := by decide +kernel
theorem dX4_type_53 : decode cX4_type 53 = .ok (.aload_n 0, 1) := by decide +kernel
theorem dX4_type_54 : decode cX4_type 54 = .ok (.dup, 1) := by decide +kernel
theorem dX4_type_55 : decode cX4_type 55 = .ok (.getfield 86, 3) := by decide +kernel
theorem dX4_type_58 : decode cX4_type 58 = .ok (.iconst 1, 1) := by decide +kernel
theorem dX4_type_59 : decode cX4_type 59 = .ok (.iadd, 1) := by decide +kernel
theorem dX4_type_60 : decode cX4_type 60 = .ok (.putfield 86, 3) := by decide +kernel
theorem dX4_type_63 : decode cX4_type 63 = .ok (.aload_n 0, 1) := by decide +kernel
theorem dX4_type_64 : decode cX4_type 64 = .ok (.getfield 86, 3) := by decide +kernel
theorem dX4_type_67 : decode cX4_type 67 = .ok (.ireturn, 1) := by decide +kernel
theorem dX4_clearAddress_0 : decode cX4_clearAddress 0 = .ok (.aload_n 0, 1) := by decide +kernel
theorem dX4_clearAddress_1 : decode cX4_clearAddress 1 = .ok (.iconst 0, 1) := by decide +kernel
theorem dX4_clearAddress_2 : decode cX4_clearAddress 2 = .ok (.putfield 69, 3) := by decide +kernel
theorem dX4_clearAddress_5 : decode cX4_clearAddress 5 = .ok (.aload_n 0, 1) := by decide +kernel
theorem dX4_clearAddress_6 : decode cX4_clearAddress 6 = .ok (.getfield 86, 3) := by decide +kernel
theorem dX4_clearAddress_9 : decode cX4_clearAddress 9 = .ok (.istore_n 1, 1) := by decide +kernel
theorem dX4_clearAddress_10 : decode cX4_clearAddress 10 = .ok (.aload_n 0, 1) := by decide +kernel
theorem dX4_clearAddress_11 : decode cX4_clearAddress 11 = .ok (.iconst 0, 1) := by decide +kernel
theorem dX4_clearAddress_12 : decode cX4_clearAddress 12 = .ok (.putfield 86, 3) := by decide +kernel
theorem dX4_clearAddress_15 : decode cX4_clearAddress 15 = .ok (.iload_n 1, 1) := by decide +kernel
theorem dX4_clearAddress_16 : decode cX4_clearAddress 16 = .ok (.ireturn, 1) := by decide +kernel
set_option maxRecDepth 20000 in
theorem ggX4_segments_X4_laySegments : GoodIn wsX4_segments wsX4_laySegments := goodIn_r _ [7, 2, 8, 9, 10, 11, 12, 13, 14, 15, 16, 17, 18, 19, 20, 21, 22, 23, 24, 25, 26, 27, 28, 29, 30, 31, 32, 33, 34, 35, 36, 37] (by decide +kernel) (by decide +kernel)
set_option maxRecDepth 20000 in
theorem gX4_segments_X4_laySegments : GoodIn wsX4_segments (wsV RX4 89 RX4 yX4_laySegments wsX4_laySegments) := goodIn_app (goodIn_of _ (by decide +kernel)) ggX4_segments_X4_laySegments
theorem dX4_segments_0 : decode cX4_segments 0 = .ok (.aload_n 0, 1) := by decide +kernel
theorem dX4_segments_1 : decode cX4_segments 1 = .ok (.iconst 0, 1) := by decide +kernel
theorem dX4_segments_2 : decode cX4_segments 2 = .ok (.putfield 69, 3) := by decide +kernel
theorem dX4_segments_5 : decode cX4_segments 5 = .ok (.aload_n 0, 1) := by decide +kernel
theorem dX4_segments_6 : decode cX4_segments 6 = .ok (.invokevirtual 89, 3) := by decide +kernel
theorem dX4_segments_9 : decode cX4_segments 9 = .ok (.aload_n 0, 1) := by decide +kernel
theorem dX4_segments_10 : decode cX4_segments 10 = .ok (.getfield 83, 3) := by decide +kernel
theorem dX4_segments_13 : decode cX4_segments 13 = .ok (.ireturn, 1) := by decide +kernel
set_option maxRecDepth 20000 in
theorem ggX4_isTrap_X4_repeats : GoodIn wsX4_isTrap wsX4_repeats := goodIn_r _ [6, 7, 8, 9, 10, 5, 11, 12, 13, 14, 15, 16, 17, 18, 19, 20, 21, 22, 23, 24, 25, 26, 27, 28, 29, 30, 31, 32, 33, 34, 35, 36, 37, 38, 39, 40, 41, 42, 43, 44, 45] (by decide +kernel) (by decide +kernel)
set_option maxRecDepth 20000 in
theorem gX4_isTrap_X4_repeats : GoodIn wsX4_isTrap (wsV RX4 100 RX4 yX4_repeats wsX4_repeats) := goodIn_app (goodIn_of _ (by decide +kernel)) ggX4_isTrap_X4_repeats
theorem dX4_isTrap_0 : decode cX4_isTrap 0 = .ok (.aload_n 0, 1) := by decide +kernel
theorem dX4_isTrap_1 : decode cX4_isTrap 1 = .ok (.iconst 0, 1) := by decide +kernel
theorem dX4_isTrap_2 : decode cX4_isTrap 2 = .ok (.putfield 69, 3) := by decide +kernel
theorem dX4_isTrap_5 : decode cX4_isTrap 5 = .ok (.aload_n 0, 1) := by decide +kernel
theorem dX4_isTrap_6 : decode cX4_isTrap 6 = .ok (.invokevirtual 100, 3) := by decide +kernel
theorem dX4_isTrap_9 : decode cX4_isTrap 9 = .ok (.ireturn, 1) := by decide +kernel
set_option maxRecDepth 20000 in
theorem ggX4_setRest_X4_isHost : GoodIn wsX4_setRest wsX4_isHost := goodIn_r _ [6, 7, 8, 5, 9] (by decide +kernel) (by decide +kernel)
set_option maxRecDepth 20000 in
theorem gX4_setRest_X4_isHost : GoodIn wsX4_setRest (va_wsS RX4 104 yX4_isHost wsX4_isHost) := goodIn_app (goodIn_of _ (by decide +kernel)) ggX4_setRest_X4_isHost
set_option maxRecDepth 20000 in
theorem ggX4_setRest_X4_fails : GoodIn wsX4_setRest wsX4_fails := goodIn_r _ [13, 1, 14, 15, 16, 17, 18, 19, 20, 21, 22, 23, 24, 25, 26, 27, 28, 29, 30, 31, 32, 33, 34, 35, 36, 37, 38, 39] (by decide +kernel) (by decide +kernel)
set_option maxRecDepth 20000 in
theorem gX4_setRest_X4_fails : GoodIn wsX4_setRest (wsV RX4 96 RX4 yX4_fails wsX4_fails) := goodIn_app (goodIn_of _ (by decide +kernel)) ggX4_setRest_X4_fails
set_option maxRecDepth 20000 in
theorem ggX4_setRest_X4_in : GoodIn wsX4_setRest wsX4_in := goodIn_r _ [9] (by decide +kernel) (by decide +kernel)
set_option maxRecDepth 20000 in
theorem gX4_setRest_X4_in : GoodIn wsX4_setRest (va_wsS RX4 72 yX4_in wsX4_in) := goodIn_app (goodIn_of _ (by decide +kernel)) ggX4_setRest_X4_in
theorem dX4_setRest_0 : decode cX4_setRest 0 = .ok (.aload_n 0, 1) := by decide +kernel
theorem dX4_setRest_1 : decode cX4_setRest 1 = .ok (.iconst 0, 1) := by decide +kernel
theorem dX4_setRest_2 : decode cX4_setRest 2 = .ok (.putfield 69, 3) := by decide +kernel
theorem dX4_setRest_5 : decode cX4_setRest 5 = .ok (.iload_n 1, 1) := by decide +kernel
theorem dX4_setRest_6 : decode cX4_setRest 6 = .ok (.invokestatic 104, 3) := by decide +kernel
theorem dX4_setRest_9 : decode cX4_setRest 9 = .ok (.ifCond .ne 9, 3) := by decide +kernel
theorem dX4_setRest_12 : decode cX4_setRest 12 = .ok (.aload_n 0, 1) := by decide +kernel
theorem dX4_setRest_13 : decode cX4_setRest 13 = .ok (.iconst 1, 1) := by decide +kernel
theorem dX4_setRest_14 : decode cX4_setRest 14 = .ok (.invokevirtual 96, 3) := by decide +kernel
theorem dX4_setRest_17 : decode cX4_setRest 17 = .ok (.ireturn, 1) := by decide +kernel
theorem dX4_setRest_18 : decode cX4_setRest 18 = .ok (.iload_n 2, 1) := by decide +kernel
theorem dX4_setRest_19 : decode cX4_setRest 19 = .ok (.iconst 1, 1) := by decide +kernel
theorem dX4_setRest_20 : decode cX4_setRest 20 = .ok (.bipush 100, 2) := by decide +kernel
theorem dX4_setRest_22 : decode cX4_setRest 22 = .ok (.invokestatic 72, 3) := by decide +kernel
theorem dX4_setRest_25 : decode cX4_setRest 25 = .ok (.ifCond .ne 9, 3) := by decide +kernel
theorem dX4_setRest_28 : decode cX4_setRest 28 = .ok (.aload_n 0, 1) := by decide +kernel
theorem dX4_setRest_29 : decode cX4_setRest 29 = .ok (.iconst 2, 1) := by decide +kernel
theorem dX4_setRest_30 : decode cX4_setRest 30 = .ok (.invokevirtual 96, 3) := by decide +kernel
theorem dX4_setRest_33 : decode cX4_setRest 33 = .ok (.ireturn, 1) := by decide +kernel
theorem dX4_setRest_34 : decode cX4_setRest 34 = .ok (.aload_n 0, 1) := by decide +kernel
theorem dX4_setRest_35 : decode cX4_setRest 35 = .ok (.getfield 13, 3) := by decide +kernel
theorem dX4_setRest_38 : decode cX4_setRest 38 = .ok (.iload_n 1, 1) := by decide +kernel
theorem dX4_setRest_39 : decode cX4_setRest 39 = .ok (.iaload, 1) := by decide +kernel
theorem dX4_setRest_40 : decode cX4_setRest 40 = .ok (.istore_n 3, 1) := by decide +kernel
theorem dX4_setRest_41 : decode cX4_setRest 41 = .ok (.aload_n 0, 1) := by decide +kernel
theorem dX4_setRest_42 : decode cX4_setRest 42 = .ok (.getfield 13, 3) := by decide +kernel
theorem dX4_setRest_45 : decode cX4_setRest 45 = .ok (.iload_n 1, 1) := by decide +kernel
theorem dX4_setRest_46 : decode cX4_setRest 46 = .ok (.iload_n 2, 1) := by decide +kernel
theorem dX4_setRest_47 : decode cX4_setRest 47 = .ok (.iastore, 1) := by decide +kernel
theorem dX4_setRest_48 : decode cX4_setRest 48 = .ok (.iload_n 3, 1) := by decide +kernel
theorem dX4_setRest_49 : decode cX4_setRest 49 = .ok (.ireturn, 1) := by decide +kernel
set_option maxRecDepth 20000 in
theorem ggX4_setPaces_X4_in : GoodIn wsX4_setPaces wsX4_in := goodIn_r _ [7] (by decide +kernel) (by decide +kernel)
set_option maxRecDepth 20000 in
theorem gX4_setPaces_X4_in : GoodIn wsX4_setPaces (va_wsS RX4 72 yX4_in wsX4_in) := goodIn_app (goodIn_of _ (by decide +kernel)) ggX4_setPaces_X4_in
theorem dX4_setPaces_0 : decode cX4_setPaces 0 = .ok (.aload_n 0, 1) := by decide +kernel
theorem dX4_setPaces_1 : decode cX4_setPaces 1 = .ok (.iload_n 1, 1) := by decide +kernel
theorem dX4_setPaces_2 : decode cX4_setPaces 2 = .ok (.iconst 1, 1) := by decide +kernel
theorem dX4_setPaces_3 : decode cX4_setPaces 3 = .ok (.sipush 1000, 3) := by decide +kernel
theorem dX4_setPaces_6 : decode cX4_setPaces 6 = .ok (.invokestatic 72, 3) := by decide +kernel
theorem dX4_setPaces_9 : decode cX4_setPaces 9 = .ok (.ifCond .eq 18, 3) := by decide +kernel
theorem dX4_setPaces_12 : decode cX4_setPaces 12 = .ok (.iload_n 2, 1) := by decide +kernel
theorem dX4_setPaces_13 : decode cX4_setPaces 13 = .ok (.iload_n 1, 1) := by decide +kernel
theorem dX4_setPaces_14 : decode cX4_setPaces 14 = .ok (.sipush 5000, 3) := by decide +kernel
theorem dX4_setPaces_17 : decode cX4_setPaces 17 = .ok (.invokestatic 72, 3) := by decide +kernel
theorem dX4_setPaces_20 : decode cX4_setPaces 20 = .ok (.ifCond .eq 7, 3) := by decide +kernel
theorem dX4_setPaces_23 : decode cX4_setPaces 23 = .ok (.iconst 0, 1) := by decide +kernel
theorem dX4_setPaces_24 : decode cX4_setPaces 24 = .ok (.goto 4, 3) := by decide +kernel
theorem dX4_setPaces_27 : decode cX4_setPaces 27 = .ok (.iconst 1, 1) := by decide +kernel
theorem dX4_setPaces_28 : decode cX4_setPaces 28 = .ok (.putfield 69, 3) := by decide +kernel
theorem dX4_setPaces_31 : decode cX4_setPaces 31 = .ok (.aload_n 0, 1) := by decide +kernel
theorem dX4_setPaces_32 : decode cX4_setPaces 32 = .ok (.getfield 69, 3) := by decide +kernel
theorem dX4_setPaces_35 : decode cX4_setPaces 35 = .ok (.ifCond .ne 13, 3) := by decide +kernel
theorem dX4_setPaces_38 : decode cX4_setPaces 38 = .ok (.aload_n 0, 1) := by decide +kernel
theorem dX4_setPaces_39 : decode cX4_setPaces 39 = .ok (.iload_n 1, 1) := by decide +kernel
theorem dX4_setPaces_40 : decode cX4_setPaces 40 = .ok (.putfield 22, 3) := by decide +kernel
theorem dX4_setPaces_43 : decode cX4_setPaces 43 = .ok (.aload_n 0, 1) := by decide +kernel
theorem dX4_setPaces_44 : decode cX4_setPaces 44 = .ok (.iload_n 2, 1) := by decide +kernel
theorem dX4_setPaces_45 : decode cX4_setPaces 45 = .ok (.putfield 26, 3) := by decide +kernel
theorem dX4_setPaces_48 : decode cX4_setPaces 48 = .ok (.return_, 1) := by decide +kernel
set_option maxRecDepth 20000 in
theorem ggX4_setBudget_X4_in : GoodIn wsX4_setBudget wsX4_in := goodIn_r _ [6] (by decide +kernel) (by decide +kernel)
set_option maxRecDepth 20000 in
theorem gX4_setBudget_X4_in : GoodIn wsX4_setBudget (va_wsS RX4 72 yX4_in wsX4_in) := goodIn_app (goodIn_of _ (by decide +kernel)) ggX4_setBudget_X4_in
set_option maxRecDepth 20000 in
theorem ggX4_setBudget_X4_fails : GoodIn wsX4_setBudget wsX4_fails := goodIn_r _ [10, 1, 11, 12, 13, 14, 15, 16, 17, 18, 19, 20, 21, 22, 23, 24, 25, 26, 27, 28, 29, 30, 31, 32, 33, 34, 35, 36] (by decide +kernel) (by decide +kernel)
set_option maxRecDepth 20000 in
theorem gX4_setBudget_X4_fails : GoodIn wsX4_setBudget (wsV RX4 96 RX4 yX4_fails wsX4_fails) := goodIn_app (goodIn_of _ (by decide +kernel)) ggX4_setBudget_X4_fails
theorem dX4_setBudget_0 : decode cX4_setBudget 0 = .ok (.aload_n 0, 1) := by decide +kernel
theorem dX4_setBudget_1 : decode cX4_setBudget 1 = .ok (.iconst 0, 1) := by decide +kernel
theorem dX4_setBudget_2 : decode cX4_setBudget 2 = .ok (.putfield 69, 3) := by decide +kernel
theorem dX4_setBudget_5 : decode cX4_setBudget 5 = .ok (.iload_n 1, 1) := by decide +kernel
theorem dX4_setBudget_6 : decode cX4_setBudget 6 = .ok (.iconst 1, 1) := by decide +kernel
theorem dX4_setBudget_7 : decode cX4_setBudget 7 = .ok (.bipush 100, 2) := by decide +kernel
theorem dX4_setBudget_9 : decode cX4_setBudget 9 = .ok (.invokestatic 72, 3) := by decide +kernel
theorem dX4_setBudget_12 : decode cX4_setBudget 12 = .ok (.ifCond .ne 9, 3) := by decide +kernel
theorem dX4_setBudget_15 : decode cX4_setBudget 15 = .ok (.aload_n 0, 1) := by decide +kernel
theorem dX4_setBudget_16 : decode cX4_setBudget 16 = .ok (.iconst 1, 1) := by decide +kernel
theorem dX4_setBudget_17 : decode cX4_setBudget 17 = .ok (.invokevirtual 96, 3) := by decide +kernel
theorem dX4_setBudget_20 : decode cX4_setBudget 20 = .ok (.ireturn, 1) := by decide +kernel
theorem dX4_setBudget_21 : decode cX4_setBudget 21 = .ok (.aload_n 0, 1) := by decide +kernel
theorem dX4_setBudget_22 : decode cX4_setBudget 22 = .ok (.getfield 29, 3) := by decide +kernel
theorem dX4_setBudget_25 : decode cX4_setBudget 25 = .ok (.istore_n 2, 1) := by decide +kernel
theorem dX4_setBudget_26 : decode cX4_setBudget 26 = .ok (.aload_n 0, 1) := by decide +kernel
theorem dX4_setBudget_27 : decode cX4_setBudget 27 = .ok (.iload_n 1, 1) := by decide +kernel
theorem dX4_setBudget_28 : decode cX4_setBudget 28 = .ok (.putfield 29, 3) := by decide +kernel
theorem dX4_setBudget_31 : decode cX4_setBudget 31 = .ok (.iload_n 2, 1) := by decide +kernel
theorem dX4_setBudget_32 : decode cX4_setBudget 32 = .ok (.ireturn, 1) := by decide +kernel
set_option maxRecDepth 20000 in
theorem ggX4_failures_X4_isHost : GoodIn wsX4_failures wsX4_isHost := goodIn_r _ [6, 7, 8, 5, 9] (by decide +kernel) (by decide +kernel)
set_option maxRecDepth 20000 in
theorem gX4_failures_X4_isHost : GoodIn wsX4_failures (va_wsS RX4 104 yX4_isHost wsX4_isHost) := goodIn_app (goodIn_of _ (by decide +kernel)) ggX4_failures_X4_isHost
set_option maxRecDepth 20000 in
theorem ggX4_failures_X4_fails : GoodIn wsX4_failures wsX4_fails := goodIn_r _ [13, 1, 14, 15, 16, 17, 18, 19, 20, 21, 22, 23, 24, 25, 26, 27, 28, 29, 30, 31, 32, 33, 34, 35, 36, 37, 38, 39] (by decide +kernel) (by decide +kernel)
set_option maxRecDepth 20000 in
theorem gX4_failures_X4_fails : GoodIn wsX4_failures (wsV RX4 96 RX4 yX4_fails wsX4_fails) := goodIn_app (goodIn_of _ (by decide +kernel)) ggX4_failures_X4_fails
theorem dX4_failures_0 : decode cX4_failures 0 = .ok (.aload_n 0, 1) := by decide +kernel
theorem dX4_failures_1 : decode cX4_failures 1 = .ok (.iconst 0, 1) := by decide +kernel
theorem dX4_failures_2 : decode cX4_failures 2 = .ok (.putfield 69, 3) := by decide +kernel
theorem dX4_failures_5 : decode cX4_failures 5 = .ok (.iload_n 1, 1) := by decide +kernel
theorem dX4_failures_6 : decode cX4_failures 6 = .ok (.invokestatic 104, 3) := by decide +kernel
theorem dX4_failures_9 : decode cX4_failures 9 = .ok (.ifCond .eq 12, 3) := by decide +kernel
theorem dX4_failures_12 : decode cX4_failures 12 = .ok (.aload_n 0, 1) := by decide +kernel
theorem dX4_failures_13 : decode cX4_failures 13 = .ok (.getfield 16, 3) := by decide +kernel
theorem dX4_failures_16 : decode cX4_failures 16 = .ok (.iload_n 1, 1) := by decide +kernel
theorem dX4_failures_17 : decode cX4_failures 17 = .ok (.iaload, 1) := by decide +kernel
theorem dX4_failures_18 : decode cX4_failures 18 = .ok (.goto 8, 3) := by decide +kernel
theorem dX4_failures_21 : decode cX4_failures 21 = .ok (.aload_n 0, 1) := by decide +kernel
theorem dX4_failures_22 : decode cX4_failures 22 = .ok (.iconst 1, 1) := by decide +kernel
theorem dX4_failures_23 : decode cX4_failures 23 = .ok (.invokevirtual 96, 3) := by decide +kernel
theorem dX4_failures_26 : decode cX4_failures 26 = .ok (.ireturn, 1) := by decide +kernel
set_option maxRecDepth 20000 in
theorem ggX4_openFrom_X4_isHost : GoodIn wsX4_openFrom wsX4_isHost := goodIn_r _ [6, 7, 8, 5, 9] (by decide +kernel) (by decide +kernel)
set_option maxRecDepth 20000 in
theorem gX4_openFrom_X4_isHost : GoodIn wsX4_openFrom (va_wsS RX4 104 yX4_isHost wsX4_isHost) := goodIn_app (goodIn_of _ (by decide +kernel)) ggX4_openFrom_X4_isHost
set_option maxRecDepth 20000 in
theorem ggX4_openFrom_X4_fails : GoodIn wsX4_openFrom wsX4_fails := goodIn_r _ [13, 1, 14, 15, 16, 17, 18, 19, 20, 21, 22, 23, 24, 25, 26, 27, 28, 29, 30, 31, 32, 33, 34, 35, 36, 37, 38, 39] (by decide +kernel) (by decide +kernel)
set_option maxRecDepth 20000 in
theorem gX4_openFrom_X4_fails : GoodIn wsX4_openFrom (wsV RX4 96 RX4 yX4_fails wsX4_fails) := goodIn_app (goodIn_of _ (by decide +kernel)) ggX4_openFrom_X4_fails
theorem dX4_openFrom_0 : decode cX4_openFrom 0 = .ok (.aload_n 0, 1) := by decide +kernel
theorem dX4_openFrom_1 : decode cX4_openFrom 1 = .ok (.iconst 0, 1) := by decide +kernel
theorem dX4_openFrom_2 : decode cX4_openFrom 2 = .ok (.putfield 69, 3) := by decide +kernel
theorem dX4_openFrom_5 : decode cX4_openFrom 5 = .ok (.iload_n 1, 1) := by decide +kernel
theorem dX4_openFrom_6 : decode cX4_openFrom 6 = .ok (.invokestatic 104, 3) := by decide +kernel
theorem dX4_openFrom_9 : decode cX4_openFrom 9 = .ok (.ifCond .eq 12, 3) := by decide +kernel
theorem dX4_openFrom_12 : decode cX4_openFrom 12 = .ok (.aload_n 0, 1) := by decide +kernel
theorem dX4_openFrom_13 : decode cX4_openFrom 13 = .ok (.getfield 19, 3) := by decide +kernel
theorem dX4_openFrom_16 : decode cX4_openFrom 16 = .ok (.iload_n 1, 1) := by decide +kernel
theorem dX4_openFrom_17 : decode cX4_openFrom 17 = .ok (.iaload, 1) := by decide +kernel
theorem dX4_openFrom_18 : decode cX4_openFrom 18 = .ok (.goto 8, 3) := by decide +kernel
theorem dX4_openFrom_21 : decode cX4_openFrom 21 = .ok (.aload_n 0, 1) := by decide +kernel
theorem dX4_openFrom_22 : decode cX4_openFrom 22 = .ok (.iconst 1, 1) := by decide +kernel
theorem dX4_openFrom_23 : decode cX4_openFrom 23 = .ok (.invokevirtual 96, 3) := by decide +kernel
theorem dX4_openFrom_26 : decode cX4_openFrom 26 = .ok (.ireturn, 1) := by decide +kernel
theorem dX4_isAddress_0 : decode cX4_isAddress 0 = .ok (.aload_n 0, 1) := by decide +kernel
theorem dX4_isAddress_1 : decode cX4_isAddress 1 = .ok (.getfield 35, 3) := by decide +kernel
theorem dX4_isAddress_4 : decode cX4_isAddress 4 = .ok (.iload_n 1, 1) := by decide +kernel
theorem dX4_isAddress_5 : decode cX4_isAddress 5 = .ok (.iaload, 1) := by decide +kernel
theorem dX4_isAddress_6 : decode cX4_isAddress 6 = .ok (.aload_n 0, 1) := by decide +kernel
theorem dX4_isAddress_7 : decode cX4_isAddress 7 = .ok (.getfield 86, 3) := by decide +kernel
theorem dX4_isAddress_10 : decode cX4_isAddress 10 = .ok (.if_icmp .ne 7, 3) := by decide +kernel
theorem dX4_isAddress_13 : decode cX4_isAddress 13 = .ok (.iconst 1, 1) := by decide +kernel
theorem dX4_isAddress_14 : decode cX4_isAddress 14 = .ok (.goto 4, 3) := by decide +kernel
theorem dX4_isAddress_17 : decode cX4_isAddress 17 = .ok (.iconst 0, 1) := by decide +kernel
theorem dX4_isAddress_18 : decode cX4_isAddress 18 = .ok (.istore_n 2, 1) := by decide +kernel
theorem dX4_isAddress_19 : decode cX4_isAddress 19 = .ok (.iconst 0, 1) := by decide +kernel
theorem dX4_isAddress_20 : decode cX4_isAddress 20 = .ok (.istore_n 3, 1) := by decide +kernel
theorem dX4_isAddress_21 : decode cX4_isAddress 21 = .ok (.iload_n 3, 1) := by decide +kernel
theorem dX4_isAddress_22 : decode cX4_isAddress 22 = .ok (.aload_n 0, 1) := by decide +kernel
theorem dX4_isAddress_23 : decode cX4_isAddress 23 = .ok (.getfield 86, 3) := by decide +kernel
theorem dX4_isAddress_26 : decode cX4_isAddress 26 = .ok (.if_icmp .ge 39, 3) := by decide +kernel
theorem dX4_isAddress_29 : decode cX4_isAddress 29 = .ok (.iload_n 2, 1) := by decide +kernel
theorem dX4_isAddress_30 : decode cX4_isAddress 30 = .ok (.ifCond .eq 35, 3) := by decide +kernel
theorem dX4_isAddress_33 : decode cX4_isAddress 33 = .ok (.aload_n 0, 1) := by decide +kernel
theorem dX4_isAddress_34 : decode cX4_isAddress 34 = .ok (.getfield 32, 3) := by decide +kernel
theorem dX4_isAddress_37 : decode cX4_isAddress 37 = .ok (.bipush 30, 2) := by decide +kernel
theorem dX4_isAddress_39 : decode cX4_isAddress 39 = .ok (.iload_n 1, 1) := by decide +kernel
theorem dX4_isAddress_40 : decode cX4_isAddress 40 = .ok (.imul, 1) := by decide +kernel
theorem dX4_isAddress_41 : decode cX4_isAddress 41 = .ok (.iload_n 3, 1) := by decide +kernel
theorem dX4_isAddress_42 : decode cX4_isAddress 42 = .ok (.iadd, 1) := by decide +kernel
theorem dX4_isAddress_43 : decode cX4_isAddress 43 = .ok (.iaload, 1) := by decide +kernel
theorem dX4_isAddress_44 : decode cX4_isAddress 44 = .ok (.aload_n 0, 1) := by decide +kernel
theorem dX4_isAddress_45 : decode cX4_isAddress 45 = .ok (.getfield 7, 3) := by decide +kernel
theorem dX4_isAddress_48 : decode cX4_isAddress 48 = .ok (.iload_n 3, 1) := by decide +kernel
theorem dX4_isAddress_49 : decode cX4_isAddress 49 = .ok (.iaload, 1) := by decide +kernel
theorem dX4_isAddress_50 : decode cX4_isAddress 50 = .ok (.if_icmp .ne 7, 3) := by decide +kernel
theorem dX4_isAddress_53 : decode cX4_isAddress 53 = .ok (.iconst 1, 1) := by decide +kernel
theorem dX4_isAddress_54 : decode cX4_isAddress 54 = .ok (.goto 4, 3) := by decide +kernel
theorem dX4_isAddress_57 : decode cX4_isAddress 57 = .ok (.iconst 0, 1) := by decide +kernel
theorem dX4_isAddress_58 : decode cX4_isAddress 58 = .ok (.istore_n 2, 1) := by decide +kernel
theorem dX4_isAddress_59 : decode cX4_isAddress 59 = .ok (.iinc 3 1, 3) := by decide +kernel
theorem dX4_isAddress_62 : decode cX4_isAddress 62 = .ok (.goto (-41), 3) := by decide +kernel
theorem dX4_isAddress_65 : decode cX4_isAddress 65 = .ok (.iload_n 2, 1) := by decide +kernel
theorem dX4_isAddress_66 : decode cX4_isAddress 66 = .ok (.ireturn, 1) := by decide +kernel
set_option maxRecDepth 20000 in
theorem ggX4_find_X4_isHost : GoodIn wsX4_find wsX4_isHost := goodIn_r _ [15, 16, 17, 14, 18] (by decide +kernel) (by decide +kernel)
set_option maxRecDepth 20000 in
theorem gX4_find_X4_isHost : GoodIn wsX4_find (va_wsS RX4 104 yX4_isHost wsX4_isHost) := goodIn_app (goodIn_of _ (by decide +kernel)) ggX4_find_X4_isHost
set_option maxRecDepth 20000 in
theorem ggX4_find_X4_fails : GoodIn wsX4_find wsX4_fails := goodIn_r _ [22, 1, 42, 43, 44, 45, 46, 47, 48, 49, 50, 51, 52, 53, 54, 55, 56, 57, 58, 59, 60, 61, 62, 63, 64, 65, 66, 67] (by decide +kernel) (by decide +kernel)
set_option maxRecDepth 20000 in
theorem gX4_find_X4_fails : GoodIn wsX4_find (wsV RX4 96 RX4 yX4_fails wsX4_fails) := goodIn_app (goodIn_of _ (by decide +kernel)) ggX4_find_X4_fails
set_option maxRecDepth 20000 in
theorem ggX4_find_X4_in : GoodIn wsX4_find wsX4_in := goodIn_r _ [18] (by decide +kernel) (by decide +kernel)
set_option maxRecDepth 20000 in
theorem gX4_find_X4_in : GoodIn wsX4_find (va_wsS RX4 72 yX4_in wsX4_in) := goodIn_app (goodIn_of _ (by decide +kernel)) ggX4_find_X4_in
set_option maxRecDepth 20000 in
theorem ggX4_find_X4_isAddress : GoodIn wsX4_find wsX4_isAddress := goodIn_r _ [26, 7, 4, 5, 6, 42, 43, 44, 45, 46, 47, 48, 49, 50, 51, 52, 53, 54, 55, 56, 57, 58, 59, 60, 61, 62, 63, 64, 65, 66, 67] (by decide +kernel) (by decide +kernel)
set_option maxRecDepth 20000 in
theorem gX4_find_X4_isAddress : GoodIn wsX4_find (wsV RX4 107 RX4 yX4_isAddress wsX4_isAddress) := goodIn_app (goodIn_of _ (by decide +kernel)) ggX4_find_X4_isAddress
set_option maxRecDepth 20000 in
theorem ggX4_find_X4_repeats : GoodIn wsX4_find wsX4_repeats := goodIn_r _ [30, 31, 32, 33, 34, 14, 35, 4, 6, 36, 37, 38, 39, 40, 41, 42, 43, 44, 45, 46, 47, 48, 49, 50, 51, 52, 53, 54, 55, 56, 57, 58, 59, 60, 61, 62, 63, 64, 65, 66, 67] (by decide +kernel) (by decide +kernel)
set_option maxRecDepth 20000 in
theorem gX4_find_X4_repeats : GoodIn wsX4_find (wsV RX4 100 RX4 yX4_repeats wsX4_repeats) := goodIn_app (goodIn_of _ (by decide +kernel)) ggX4_find_X4_repeats
end
section
theorem dX4_find_0 : decode cX4_find 0 = .ok (.aload_n 0, 1) := by decide +kernel
theorem dX4_find_1 : decode cX4_find 1 = .ok (.iconst 0, 1) := by decide +kernel
theorem dX4_find_2 : decode cX4_find 2 = .ok (.putfield 69, 3) := by decide +kernel
theorem dX4_find_5 : decode cX4_find 5 = .ok (.iload_n 1, 1) := by decide +kernel
theorem dX4_find_6 : decode cX4_find 6 = .ok (.invokestatic 104, 3) := by decide +kernel
theorem dX4_find_9 : decode cX4_find 9 = .ok (.ifCond .ne 9, 3) := by decide +kernel
theorem dX4_find_12 : decode cX4_find 12 = .ok (.aload_n 0, 1) := by decide +kernel
theorem dX4_find_13 : decode cX4_find 13 = .ok (.iconst 1, 1) := by decide +kernel
theorem dX4_find_14 : decode cX4_find 14 = .ok (.invokevirtual 96, 3) := by decide +kernel
theorem dX4_find_17 : decode cX4_find 17 = .ok (.ireturn, 1) := by decide +kernel
theorem dX4_find_18 : decode cX4_find 18 = .ok (.iload_n 2, 1) := by decide +kernel
theorem dX4_find_19 : decode cX4_find 19 = .ok (.iconst 0, 1) := by decide +kernel
theorem dX4_find_20 : decode cX4_find 20 = .ok (.bipush 9, 2) := by decide +kernel
theorem dX4_find_22 : decode cX4_find 22 = .ok (.invokestatic 72, 3) := by decide +kernel
theorem dX4_find_25 : decode cX4_find 25 = .ok (.ifCond .ne 9, 3) := by decide +kernel
theorem dX4_find_28 : decode cX4_find 28 = .ok (.aload_n 0, 1) := by decide +kernel
theorem dX4_find_29 : decode cX4_find 29 = .ok (.iconst 2, 1) := by decide +kernel
theorem dX4_find_30 : decode cX4_find 30 = .ok (.invokevirtual 96, 3) := by decide +kernel
theorem dX4_find_33 : decode cX4_find 33 = .ok (.ireturn, 1) := by decide +kernel
theorem dX4_find_34 : decode cX4_find 34 = .ok (.iconst 0, 1) := by decide +kernel
theorem dX4_find_35 : decode cX4_find 35 = .ok (.istore_n 3, 1) := by decide +kernel
theorem dX4_find_36 : decode cX4_find 36 = .ok (.iload_n 3, 1) := by decide +kernel
theorem dX4_find_37 : decode cX4_find 37 = .ok (.aload_n 0, 1) := by decide +kernel
theorem dX4_find_38 : decode cX4_find 38 = .ok (.getfield 76, 3) := by decide +kernel
theorem dX4_find_41 : decode cX4_find 41 = .ok (.if_icmp .ge 29, 3) := by decide +kernel
theorem dX4_find_44 : decode cX4_find 44 = .ok (.aload_n 0, 1) := by decide +kernel
theorem dX4_find_45 : decode cX4_find 45 = .ok (.getfield 38, 3) := by decide +kernel
theorem dX4_find_48 : decode cX4_find 48 = .ok (.iload_n 3, 1) := by decide +kernel
theorem dX4_find_49 : decode cX4_find 49 = .ok (.iaload, 1) := by decide +kernel
theorem dX4_find_50 : decode cX4_find 50 = .ok (.iload_n 1, 1) := by decide +kernel
theorem dX4_find_51 : decode cX4_find 51 = .ok (.if_icmp .ne 13, 3) := by decide +kernel
theorem dX4_find_54 : decode cX4_find 54 = .ok (.aload_n 0, 1) := by decide +kernel
theorem dX4_find_55 : decode cX4_find 55 = .ok (.iload_n 3, 1) := by decide +kernel
theorem dX4_find_56 : decode cX4_find 56 = .ok (.invokevirtual 107, 3) := by decide +kernel
theorem dX4_find_59 : decode cX4_find 59 = .ok (.ifCond .eq 5, 3) := by decide +kernel
theorem dX4_find_62 : decode cX4_find 62 = .ok (.iload_n 3, 1) := by decide +kernel
theorem dX4_find_63 : decode cX4_find 63 = .ok (.ireturn, 1) := by decide +kernel
theorem dX4_find_64 : decode cX4_find 64 = .ok (.iinc 3 1, 3) := by decide +kernel
theorem dX4_find_67 : decode cX4_find 67 = .ok (.goto (-31), 3) := by decide +kernel
theorem dX4_find_70 : decode cX4_find 70 = .ok (.aload_n 0, 1) := by decide +kernel
theorem dX4_find_71 : decode cX4_find 71 = .ok (.getfield 76, 3) := by decide +kernel
theorem dX4_find_74 : decode cX4_find 74 = .ok (.bipush 30, 2) := by decide +kernel
theorem dX4_find_76 : decode cX4_find 76 = .ok (.if_icmp .ne 9, 3) := by decide +kernel
theorem dX4_find_79 : decode cX4_find 79 = .ok (.aload_n 0, 1) := by decide +kernel
theorem dX4_find_80 : decode cX4_find 80 = .ok (.iconst 3, 1) := by decide +kernel
theorem dX4_find_81 : decode cX4_find 81 = .ok (.invokevirtual 96, 3) := by decide +kernel
theorem dX4_find_84 : decode cX4_find 84 = .ok (.ireturn, 1) := by decide +kernel
theorem dX4_find_85 : decode cX4_find 85 = .ok (.iconst 0, 1) := by decide +kernel
theorem dX4_find_86 : decode cX4_find 86 = .ok (.istore_n 3, 1) := by decide +kernel
theorem dX4_find_87 : decode cX4_find 87 = .ok (.iload_n 3, 1) := by decide +kernel
theorem dX4_find_88 : decode cX4_find 88 = .ok (.aload_n 0, 1) := by decide +kernel
theorem dX4_find_89 : decode cX4_find 89 = .ok (.getfield 86, 3) := by decide +kernel
theorem dX4_find_92 : decode cX4_find 92 = .ok (.if_icmp .ge 29, 3) := by decide +kernel
theorem dX4_find_95 : decode cX4_find 95 = .ok (.aload_n 0, 1) := by decide +kernel
theorem dX4_find_96 : decode cX4_find 96 = .ok (.getfield 32, 3) := by decide +kernel
theorem dX4_find_99 : decode cX4_find 99 = .ok (.bipush 30, 2) := by decide +kernel
theorem dX4_find_101 : decode cX4_find 101 = .ok (.aload_n 0, 1) := by decide +kernel
theorem dX4_find_102 : decode cX4_find 102 = .ok (.getfield 76, 3) := by decide +kernel
theorem dX4_find_105 : decode cX4_find 105 = .ok (.imul, 1) := by decide +kernel
theorem dX4_find_106 : decode cX4_find 106 = .ok (.iload_n 3, 1) := by decide +kernel
theorem dX4_find_107 : decode cX4_find 107 = .ok (.iadd, 1) := by decide +kernel
theorem dX4_find_108 : decode cX4_find 108 = .ok (.aload_n 0, 1) := by decide +kernel
theorem dX4_find_109 : decode cX4_find 109 = .ok (.getfield 7, 3) := by decide +kernel
theorem dX4_find_112 : decode cX4_find 112 = .ok (.iload_n 3, 1) := by decide +kernel
theorem dX4_find_113 : decode cX4_find 113 = .ok (.iaload, 1) := by decide +kernel
theorem dX4_find_114 : decode cX4_find 114 = .ok (.iastore, 1) := by decide +kernel
theorem dX4_find_115 : decode cX4_find 115 = .ok (.iinc 3 1, 3) := by decide +kernel
theorem dX4_find_118 : decode cX4_find 118 = .ok (.goto (-31), 3) := by decide +kernel
theorem dX4_find_121 : decode cX4_find 121 = .ok (.aload_n 0, 1) := by decide +kernel
theorem dX4_find_122 : decode cX4_find 122 = .ok (.getfield 35, 3) := by decide +kernel
theorem dX4_find_125 : decode cX4_find 125 = .ok (.aload_n 0, 1) := by decide +kernel
theorem dX4_find_126 : decode cX4_find 126 = .ok (.getfield 76, 3) := by decide +kernel
theorem dX4_find_129 : decode cX4_find 129 = .ok (.aload_n 0, 1) := by decide +kernel
theorem dX4_find_130 : decode cX4_find 130 = .ok (.getfield 86, 3) := by decide +kernel
theorem dX4_find_133 : decode cX4_find 133 = .ok (.iastore, 1) := by decide +kernel
theorem dX4_find_134 : decode cX4_find 134 = .ok (.aload_n 0, 1) := by decide +kernel
theorem dX4_find_135 : decode cX4_find 135 = .ok (.getfield 38, 3) := by decide +kernel
theorem dX4_find_138 : decode cX4_find 138 = .ok (.aload_n 0, 1) := by decide +kernel
theorem dX4_find_139 : decode cX4_find 139 = .ok (.getfield 76, 3) := by decide +kernel
theorem dX4_find_142 : decode cX4_find 142 = .ok (.iload_n 1, 1) := by decide +kernel
theorem dX4_find_143 : decode cX4_find 143 = .ok (.iastore, 1) := by decide +kernel
theorem dX4_find_144 : decode cX4_find 144 = .ok (.aload_n 0, 1) := by decide +kernel
theorem dX4_find_145 : decode cX4_find 145 = .ok (.getfield 41, 3) := by decide +kernel
theorem dX4_find_148 : decode cX4_find 148 = .ok (.aload_n 0, 1) := by decide +kernel
theorem dX4_find_149 : decode cX4_find 149 = .ok (.getfield 76, 3) := by decide +kernel
theorem dX4_find_152 : decode cX4_find 152 = .ok (.iload_n 2, 1) := by decide +kernel
theorem dX4_find_153 : decode cX4_find 153 = .ok (.iastore, 1) := by decide +kernel
theorem dX4_find_154 : decode cX4_find 154 = .ok (.aload_n 0, 1) := by decide +kernel
theorem dX4_find_155 : decode cX4_find 155 = .ok (.getfield 44, 3) := by decide +kernel
theorem dX4_find_158 : decode cX4_find 158 = .ok (.aload_n 0, 1) := by decide +kernel
theorem dX4_find_159 : decode cX4_find 159 = .ok (.getfield 76, 3) := by decide +kernel
theorem dX4_find_162 : decode cX4_find 162 = .ok (.aload_n 0, 1) := by decide +kernel
theorem dX4_find_163 : decode cX4_find 163 = .ok (.getfield 110, 3) := by decide +kernel
theorem dX4_find_166 : decode cX4_find 166 = .ok (.iastore, 1) := by decide +kernel
theorem dX4_find_167 : decode cX4_find 167 = .ok (.aload_n 0, 1) := by decide +kernel
theorem dX4_find_168 : decode cX4_find 168 = .ok (.getfield 57, 3) := by decide +kernel
theorem dX4_find_171 : decode cX4_find 171 = .ok (.aload_n 0, 1) := by decide +kernel
theorem dX4_find_172 : decode cX4_find 172 = .ok (.getfield 76, 3) := by decide +kernel
theorem dX4_find_175 : decode cX4_find 175 = .ok (.aload_n 0, 1) := by decide +kernel
theorem dX4_find_176 : decode cX4_find 176 = .ok (.invokevirtual 100, 3) := by decide +kernel
theorem dX4_find_179 : decode cX4_find 179 = .ok (.bastore, 1) := by decide +kernel
theorem dX4_find_180 : decode cX4_find 180 = .ok (.aload_n 0, 1) := by decide +kernel
theorem dX4_find_181 : decode cX4_find 181 = .ok (.dup, 1) := by decide +kernel
theorem dX4_find_182 : decode cX4_find 182 = .ok (.getfield 76, 3) := by decide +kernel
theorem dX4_find_185 : decode cX4_find 185 = .ok (.iconst 1, 1) := by decide +kernel
theorem dX4_find_186 : decode cX4_find 186 = .ok (.iadd, 1) := by decide +kernel
theorem dX4_find_187 : decode cX4_find 187 = .ok (.putfield 76, 3) := by decide +kernel
theorem dX4_find_190 : decode cX4_find 190 = .ok (.aload_n 0, 1) := by decide +kernel
theorem dX4_find_191 : decode cX4_find 191 = .ok (.getfield 76, 3) := by decide +kernel
theorem dX4_find_194 : decode cX4_find 194 = .ok (.iconst 1, 1) := by decide +kernel
theorem dX4_find_195 : decode cX4_find 195 = .ok (.isub, 1) := by decide +kernel
theorem dX4_find_196 : decode cX4_find 196 = .ok (.ireturn, 1) := by decide +kernel
set_option maxRecDepth 20000 in
theorem ggX4_setRank_X4_isPage : GoodIn wsX4_setRank wsX4_isPage := goodIn_r _ [7, 8, 9, 10, 6, 11, 16, 17, 18, 19, 20, 21, 22, 23, 24, 25, 26, 27, 28, 29, 30, 31, 32, 33, 34, 35, 36, 37, 38, 39, 40, 41] (by decide +kernel) (by decide +kernel)
set_option maxRecDepth 20000 in
theorem gX4_setRank_X4_isPage : GoodIn wsX4_setRank (wsV RX4 79 RX4 yX4_isPage wsX4_isPage) := goodIn_app (goodIn_of _ (by decide +kernel)) ggX4_setRank_X4_isPage
set_option maxRecDepth 20000 in
theorem ggX4_setRank_X4_fails : GoodIn wsX4_setRank wsX4_fails := goodIn_r _ [15, 1, 16, 17, 18, 19, 20, 21, 22, 23, 24, 25, 26, 27, 28, 29, 30, 31, 32, 33, 34, 35, 36, 37, 38, 39, 40, 41] (by decide +kernel) (by decide +kernel)
set_option maxRecDepth 20000 in
theorem gX4_setRank_X4_fails : GoodIn wsX4_setRank (wsV RX4 96 RX4 yX4_fails wsX4_fails) := goodIn_app (goodIn_of _ (by decide +kernel)) ggX4_setRank_X4_fails
set_option maxRecDepth 20000 in
theorem ggX4_setRank_X4_in : GoodIn wsX4_setRank wsX4_in := goodIn_r _ [11] (by decide +kernel) (by decide +kernel)
set_option maxRecDepth 20000 in
theorem gX4_setRank_X4_in : GoodIn wsX4_setRank (va_wsS RX4 72 yX4_in wsX4_in) := goodIn_app (goodIn_of _ (by decide +kernel)) ggX4_setRank_X4_in
theorem dX4_setRank_0 : decode cX4_setRank 0 = .ok (.aload_n 0, 1) := by decide +kernel
theorem dX4_setRank_1 : decode cX4_setRank 1 = .ok (.iconst 0, 1) := by decide +kernel
theorem dX4_setRank_2 : decode cX4_setRank 2 = .ok (.putfield 69, 3) := by decide +kernel
theorem dX4_setRank_5 : decode cX4_setRank 5 = .ok (.aload_n 0, 1) := by decide +kernel
theorem dX4_setRank_6 : decode cX4_setRank 6 = .ok (.iload_n 1, 1) := by decide +kernel
theorem dX4_setRank_7 : decode cX4_setRank 7 = .ok (.invokevirtual 79, 3) := by decide +kernel
theorem dX4_setRank_10 : decode cX4_setRank 10 = .ok (.ifCond .ne 9, 3) := by decide +kernel
theorem dX4_setRank_13 : decode cX4_setRank 13 = .ok (.aload_n 0, 1) := by decide +kernel
theorem dX4_setRank_14 : decode cX4_setRank 14 = .ok (.iconst 1, 1) := by decide +kernel
theorem dX4_setRank_15 : decode cX4_setRank 15 = .ok (.invokevirtual 96, 3) := by decide +kernel
theorem dX4_setRank_18 : decode cX4_setRank 18 = .ok (.ireturn, 1) := by decide +kernel
theorem dX4_setRank_19 : decode cX4_setRank 19 = .ok (.iload_n 2, 1) := by decide +kernel
theorem dX4_setRank_20 : decode cX4_setRank 20 = .ok (.iconst 0, 1) := by decide +kernel
theorem dX4_setRank_21 : decode cX4_setRank 21 = .ok (.bipush 9, 2) := by decide +kernel
theorem dX4_setRank_23 : decode cX4_setRank 23 = .ok (.invokestatic 72, 3) := by decide +kernel
theorem dX4_setRank_26 : decode cX4_setRank 26 = .ok (.ifCond .ne 9, 3) := by decide +kernel
theorem dX4_setRank_29 : decode cX4_setRank 29 = .ok (.aload_n 0, 1) := by decide +kernel
theorem dX4_setRank_30 : decode cX4_setRank 30 = .ok (.iconst 2, 1) := by decide +kernel
theorem dX4_setRank_31 : decode cX4_setRank 31 = .ok (.invokevirtual 96, 3) := by decide +kernel
theorem dX4_setRank_34 : decode cX4_setRank 34 = .ok (.ireturn, 1) := by decide +kernel
theorem dX4_setRank_35 : decode cX4_setRank 35 = .ok (.aload_n 0, 1) := by decide +kernel
theorem dX4_setRank_36 : decode cX4_setRank 36 = .ok (.getfield 41, 3) := by decide +kernel
theorem dX4_setRank_39 : decode cX4_setRank 39 = .ok (.iload_n 1, 1) := by decide +kernel
theorem dX4_setRank_40 : decode cX4_setRank 40 = .ok (.iaload, 1) := by decide +kernel
theorem dX4_setRank_41 : decode cX4_setRank 41 = .ok (.istore_n 3, 1) := by decide +kernel
theorem dX4_setRank_42 : decode cX4_setRank 42 = .ok (.aload_n 0, 1) := by decide +kernel
theorem dX4_setRank_43 : decode cX4_setRank 43 = .ok (.getfield 41, 3) := by decide +kernel
theorem dX4_setRank_46 : decode cX4_setRank 46 = .ok (.iload_n 1, 1) := by decide +kernel
theorem dX4_setRank_47 : decode cX4_setRank 47 = .ok (.iload_n 2, 1) := by decide +kernel
theorem dX4_setRank_48 : decode cX4_setRank 48 = .ok (.iastore, 1) := by decide +kernel
theorem dX4_setRank_49 : decode cX4_setRank 49 = .ok (.iload_n 3, 1) := by decide +kernel
theorem dX4_setRank_50 : decode cX4_setRank 50 = .ok (.ireturn, 1) := by decide +kernel
theorem dX4_pages_0 : decode cX4_pages 0 = .ok (.aload_n 0, 1) := by decide +kernel
theorem dX4_pages_1 : decode cX4_pages 1 = .ok (.iconst 0, 1) := by decide +kernel
theorem dX4_pages_2 : decode cX4_pages 2 = .ok (.putfield 69, 3) := by decide +kernel
theorem dX4_pages_5 : decode cX4_pages 5 = .ok (.aload_n 0, 1) := by decide +kernel
theorem dX4_pages_6 : decode cX4_pages 6 = .ok (.getfield 76, 3) := by decide +kernel
theorem dX4_pages_9 : decode cX4_pages 9 = .ok (.ireturn, 1) := by decide +kernel
theorem dX4_counts_0 : decode cX4_counts 0 = .ok (.aload_n 0, 1) := by decide +kernel
theorem dX4_counts_1 : decode cX4_counts 1 = .ok (.getfield 53, 3) := by decide +kernel
theorem dX4_counts_4 : decode cX4_counts 4 = .ok (.iload_n 1, 1) := by decide +kernel
theorem dX4_counts_5 : decode cX4_counts 5 = .ok (.baload, 1) := by decide +kernel
theorem dX4_counts_6 : decode cX4_counts 6 = .ok (.ifCond .ne 16, 3) := by decide +kernel
theorem dX4_counts_9 : decode cX4_counts 9 = .ok (.aload_n 0, 1) := by decide +kernel
theorem dX4_counts_10 : decode cX4_counts 10 = .ok (.getfield 57, 3) := by decide +kernel
theorem dX4_counts_13 : decode cX4_counts 13 = .ok (.iload_n 1, 1) := by decide +kernel
theorem dX4_counts_14 : decode cX4_counts 14 = .ok (.baload, 1) := by decide +kernel
theorem dX4_counts_15 : decode cX4_counts 15 = .ok (.ifCond .ne 7, 3) := by decide +kernel
theorem dX4_counts_18 : decode cX4_counts 18 = .ok (.iconst 1, 1) := by decide +kernel
theorem dX4_counts_19 : decode cX4_counts 19 = .ok (.goto 4, 3) := by decide +kernel
theorem dX4_counts_22 : decode cX4_counts 22 = .ok (.iconst 0, 1) := by decide +kernel
theorem dX4_counts_23 : decode cX4_counts 23 = .ok (.ireturn, 1) := by decide +kernel
set_option maxRecDepth 20000 in
theorem ggX4_dueAt_X4_isAsked : GoodIn wsX4_dueAt wsX4_isAsked := goodIn_r _ [6, 7, 8, 9, 10, 5, 11, 12, 13, 14, 15, 22, 23, 24, 25, 26, 27, 28, 29, 30, 31, 32, 33, 34, 35, 36, 37, 38, 39, 40, 41, 42, 43, 44, 45, 46, 47] (by decide +kernel) (by decide +kernel)
set_option maxRecDepth 20000 in
theorem gX4_dueAt_X4_isAsked : GoodIn wsX4_dueAt (wsV RX4 113 RX4 yX4_isAsked wsX4_isAsked) := goodIn_app (goodIn_of _ (by decide +kernel)) ggX4_dueAt_X4_isAsked
set_option maxRecDepth 20000 in
theorem ggX4_dueAt_X4_counts : GoodIn wsX4_dueAt wsX4_counts := goodIn_r _ [19, 20, 21, 22, 23, 24, 25, 26, 27, 28, 29, 30, 31, 32, 33, 34, 35, 36, 37, 38, 39, 40, 41, 42, 43, 44, 45, 46, 47] (by decide +kernel) (by decide +kernel)
set_option maxRecDepth 20000 in
theorem gX4_dueAt_X4_counts : GoodIn wsX4_dueAt (wsV RX4 116 RX4 yX4_counts wsX4_counts) := goodIn_app (goodIn_of _ (by decide +kernel)) ggX4_dueAt_X4_counts
theorem dX4_dueAt_0 : decode cX4_dueAt 0 = .ok (.aload_n 0, 1) := by decide +kernel
theorem dX4_dueAt_1 : decode cX4_dueAt 1 = .ok (.iload_n 1, 1) := by decide +kernel
theorem dX4_dueAt_2 : decode cX4_dueAt 2 = .ok (.invokevirtual 113, 3) := by decide +kernel
theorem dX4_dueAt_5 : decode cX4_dueAt 5 = .ok (.ifCond .ne 7, 3) := by decide +kernel
theorem dX4_dueAt_8 : decode cX4_dueAt 8 = .ok (.iconst 0, 1) := by decide +kernel
theorem dX4_dueAt_9 : decode cX4_dueAt 9 = .ok (.goto 21, 3) := by decide +kernel
theorem dX4_dueAt_12 : decode cX4_dueAt 12 = .ok (.aload_n 0, 1) := by decide +kernel
theorem dX4_dueAt_13 : decode cX4_dueAt 13 = .ok (.iload_n 1, 1) := by decide +kernel
theorem dX4_dueAt_14 : decode cX4_dueAt 14 = .ok (.invokevirtual 116, 3) := by decide +kernel
theorem dX4_dueAt_17 : decode cX4_dueAt 17 = .ok (.ifCond .eq 12, 3) := by decide +kernel
theorem dX4_dueAt_20 : decode cX4_dueAt 20 = .ok (.aload_n 0, 1) := by decide +kernel
theorem dX4_dueAt_21 : decode cX4_dueAt 21 = .ok (.getfield 44, 3) := by decide +kernel
theorem dX4_dueAt_24 : decode cX4_dueAt 24 = .ok (.iload_n 1, 1) := by decide +kernel
theorem dX4_dueAt_25 : decode cX4_dueAt 25 = .ok (.iaload, 1) := by decide +kernel
theorem dX4_dueAt_26 : decode cX4_dueAt 26 = .ok (.goto 4, 3) := by decide +kernel
theorem dX4_dueAt_29 : decode cX4_dueAt 29 = .ok (.iconst (-1), 1) := by decide +kernel
theorem dX4_dueAt_30 : decode cX4_dueAt 30 = .ok (.ireturn, 1) := by decide +kernel
set_option maxRecDepth 20000 in
theorem ggX4_visits_X4_isAsked : GoodIn wsX4_visits wsX4_isAsked := goodIn_r _ [6, 7, 8, 9, 10, 5, 11, 12, 13, 14, 15, 16, 17, 18, 19, 20, 21, 22, 23, 24, 25, 26, 27, 28, 29, 30, 31, 32, 33, 34, 35, 36, 37, 38, 39, 40, 41] (by decide +kernel) (by decide +kernel)
set_option maxRecDepth 20000 in
theorem gX4_visits_X4_isAsked : GoodIn wsX4_visits (wsV RX4 113 RX4 yX4_isAsked wsX4_isAsked) := goodIn_app (goodIn_of _ (by decide +kernel)) ggX4_visits_X4_isAsked
theorem dX4_visits_0 : decode cX4_visits 0 = .ok (.aload_n 0, 1) := by decide +kernel
theorem dX4_visits_1 : decode cX4_visits 1 = .ok (.iload_n 1, 1) := by decide +kernel
theorem dX4_visits_2 : decode cX4_visits 2 = .ok (.invokevirtual 113, 3) := by decide +kernel
theorem dX4_visits_5 : decode cX4_visits 5 = .ok (.ifCond .eq 12, 3) := by decide +kernel
theorem dX4_visits_8 : decode cX4_visits 8 = .ok (.aload_n 0, 1) := by decide +kernel
theorem dX4_visits_9 : decode cX4_visits 9 = .ok (.getfield 47, 3) := by decide +kernel
theorem dX4_visits_12 : decode cX4_visits 12 = .ok (.iload_n 1, 1) := by decide +kernel
theorem dX4_visits_13 : decode cX4_visits 13 = .ok (.iaload, 1) := by decide +kernel
theorem dX4_visits_14 : decode cX4_visits 14 = .ok (.goto 4, 3) := by decide +kernel
theorem dX4_visits_17 : decode cX4_visits 17 = .ok (.iconst 0, 1) := by decide +kernel
theorem dX4_visits_18 : decode cX4_visits 18 = .ok (.ireturn, 1) := by decide +kernel
set_option maxRecDepth 20000 in
theorem ggX4_changes_X4_isAsked : GoodIn wsX4_changes wsX4_isAsked := goodIn_r _ [6, 7, 8, 9, 10, 5, 11, 12, 13, 14, 15, 16, 17, 18, 19, 20, 21, 22, 23, 24, 25, 26, 27, 28, 29, 30, 31, 32, 33, 34, 35, 36, 37, 38, 39, 40, 41] (by decide +kernel) (by decide +kernel)
set_option maxRecDepth 20000 in
theorem gX4_changes_X4_isAsked : GoodIn wsX4_changes (wsV RX4 113 RX4 yX4_isAsked wsX4_isAsked) := goodIn_app (goodIn_of _ (by decide +kernel)) ggX4_changes_X4_isAsked
theorem dX4_changes_0 : decode cX4_changes 0 = .ok (.aload_n 0, 1) := by decide +kernel
theorem dX4_changes_1 : decode cX4_changes 1 = .ok (.iload_n 1, 1) := by decide +kernel
theorem dX4_changes_2 : decode cX4_changes 2 = .ok (.invokevirtual 113, 3) := by decide +kernel
theorem dX4_changes_5 : decode cX4_changes 5 = .ok (.ifCond .eq 12, 3) := by decide +kernel
theorem dX4_changes_8 : decode cX4_changes 8 = .ok (.aload_n 0, 1) := by decide +kernel
theorem dX4_changes_9 : decode cX4_changes 9 = .ok (.getfield 50, 3) := by decide +kernel
theorem dX4_changes_12 : decode cX4_changes 12 = .ok (.iload_n 1, 1) := by decide +kernel
theorem dX4_changes_13 : decode cX4_changes 13 = .ok (.iaload, 1) := by decide +kernel
theorem dX4_changes_14 : decode cX4_changes 14 = .ok (.goto 4, 3) := by decide +kernel
theorem dX4_changes_17 : decode cX4_changes 17 = .ok (.iconst 0, 1) := by decide +kernel
theorem dX4_changes_18 : decode cX4_changes 18 = .ok (.ireturn, 1) := by decide +kernel
theorem dX4_left_0 : decode cX4_left 0 = .ok (.aload_n 0, 1) := by decide +kernel
theorem dX4_left_1 : decode cX4_left 1 = .ok (.getfield 119, 3) := by decide +kernel
theorem dX4_left_4 : decode cX4_left 4 = .ok (.aload_n 0, 1) := by decide +kernel
theorem dX4_left_5 : decode cX4_left 5 = .ok (.getfield 110, 3) := by decide +kernel
theorem dX4_left_8 : decode cX4_left 8 = .ok (.bipush 100, 2) := by decide +kernel
theorem dX4_left_10 : decode cX4_left 10 = .ok (.idiv, 1) := by decide +kernel
theorem dX4_left_11 : decode cX4_left 11 = .ok (.if_icmp .ne 10, 3) := by decide +kernel
theorem dX4_left_14 : decode cX4_left 14 = .ok (.aload_n 0, 1) := by decide +kernel
theorem dX4_left_15 : decode cX4_left 15 = .ok (.getfield 122, 3) := by decide +kernel
theorem dX4_left_18 : decode cX4_left 18 = .ok (.goto 4, 3) := by decide +kernel
theorem dX4_left_21 : decode cX4_left 21 = .ok (.iconst 0, 1) := by decide +kernel
theorem dX4_left_22 : decode cX4_left 22 = .ok (.istore_n 1, 1) := by decide +kernel
theorem dX4_left_23 : decode cX4_left 23 = .ok (.iload_n 1, 1) := by decide +kernel
theorem dX4_left_24 : decode cX4_left 24 = .ok (.aload_n 0, 1) := by decide +kernel
theorem dX4_left_25 : decode cX4_left 25 = .ok (.getfield 29, 3) := by decide +kernel
theorem dX4_left_28 : decode cX4_left 28 = .ok (.if_icmp .ge 12, 3) := by decide +kernel
theorem dX4_left_31 : decode cX4_left 31 = .ok (.aload_n 0, 1) := by decide +kernel
theorem dX4_left_32 : decode cX4_left 32 = .ok (.getfield 29, 3) := by decide +kernel
theorem dX4_left_35 : decode cX4_left 35 = .ok (.iload_n 1, 1) := by decide +kernel
theorem dX4_left_36 : decode cX4_left 36 = .ok (.isub, 1) := by decide +kernel
theorem dX4_left_37 : decode cX4_left 37 = .ok (.goto 4, 3) := by decide +kernel
theorem dX4_left_40 : decode cX4_left 40 = .ok (.iconst 0, 1) := by decide +kernel
theorem dX4_left_41 : decode cX4_left 41 = .ok (.ireturn, 1) := by decide +kernel
set_option maxRecDepth 20000 in
theorem ggX4_isOpen_X4_counts : GoodIn wsX4_isOpen wsX4_counts := goodIn_r _ [9, 10, 11, 19, 20, 21, 22, 23, 24, 25, 26, 27, 28, 29, 30, 31, 32, 33, 34, 35, 36, 37, 38, 39, 40, 41, 42, 43, 44] (by decide +kernel) (by decide +kernel)
set_option maxRecDepth 20000 in
theorem gX4_isOpen_X4_counts : GoodIn wsX4_isOpen (wsV RX4 116 RX4 yX4_counts wsX4_counts) := goodIn_app (goodIn_of _ (by decide +kernel)) ggX4_isOpen_X4_counts
set_option maxRecDepth 20000 in
theorem ggX4_isOpen_X4_left : GoodIn wsX4_isOpen wsX4_left := goodIn_r _ [15, 16, 2, 17, 18, 19, 20, 21, 22, 23, 24, 25, 26, 27, 28, 29, 30, 31, 32, 33, 34, 35, 36, 37, 38, 39, 40, 41, 42, 43, 44] (by decide +kernel) (by decide +kernel)
set_option maxRecDepth 20000 in
theorem gX4_isOpen_X4_left : GoodIn wsX4_isOpen (wsV RX4 125 RX4 yX4_left wsX4_left) := goodIn_app (goodIn_of _ (by decide +kernel)) ggX4_isOpen_X4_left
theorem dX4_isOpen_0 : decode cX4_isOpen 0 = .ok (.aload_n 0, 1) := by decide +kernel
theorem dX4_isOpen_1 : decode cX4_isOpen 1 = .ok (.iload_n 1, 1) := by decide +kernel
theorem dX4_isOpen_2 : decode cX4_isOpen 2 = .ok (.invokevirtual 116, 3) := by decide +kernel
theorem dX4_isOpen_5 : decode cX4_isOpen 5 = .ok (.ifCond .eq 45, 3) := by decide +kernel
theorem dX4_isOpen_8 : decode cX4_isOpen 8 = .ok (.aload_n 0, 1) := by decide +kernel
theorem dX4_isOpen_9 : decode cX4_isOpen 9 = .ok (.getfield 44, 3) := by decide +kernel
theorem dX4_isOpen_12 : decode cX4_isOpen 12 = .ok (.iload_n 1, 1) := by decide +kernel
theorem dX4_isOpen_13 : decode cX4_isOpen 13 = .ok (.iaload, 1) := by decide +kernel
theorem dX4_isOpen_14 : decode cX4_isOpen 14 = .ok (.aload_n 0, 1) := by decide +kernel
theorem dX4_isOpen_15 : decode cX4_isOpen 15 = .ok (.getfield 110, 3) := by decide +kernel
theorem dX4_isOpen_18 : decode cX4_isOpen 18 = .ok (.if_icmp .gt 32, 3) := by decide +kernel
theorem dX4_isOpen_21 : decode cX4_isOpen 21 = .ok (.aload_n 0, 1) := by decide +kernel
theorem dX4_isOpen_22 : decode cX4_isOpen 22 = .ok (.getfield 19, 3) := by decide +kernel
theorem dX4_isOpen_25 : decode cX4_isOpen 25 = .ok (.aload_n 0, 1) := by decide +kernel
theorem dX4_isOpen_26 : decode cX4_isOpen 26 = .ok (.getfield 38, 3) := by decide +kernel
theorem dX4_isOpen_29 : decode cX4_isOpen 29 = .ok (.iload_n 1, 1) := by decide +kernel
theorem dX4_isOpen_30 : decode cX4_isOpen 30 = .ok (.iaload, 1) := by decide +kernel
theorem dX4_isOpen_31 : decode cX4_isOpen 31 = .ok (.iaload, 1) := by decide +kernel
theorem dX4_isOpen_32 : decode cX4_isOpen 32 = .ok (.aload_n 0, 1) := by decide +kernel
theorem dX4_isOpen_33 : decode cX4_isOpen 33 = .ok (.getfield 110, 3) := by decide +kernel
theorem dX4_isOpen_36 : decode cX4_isOpen 36 = .ok (.if_icmp .gt 14, 3) := by decide +kernel
theorem dX4_isOpen_39 : decode cX4_isOpen 39 = .ok (.aload_n 0, 1) := by decide +kernel
theorem dX4_isOpen_40 : decode cX4_isOpen 40 = .ok (.invokevirtual 125, 3) := by decide +kernel
theorem dX4_isOpen_43 : decode cX4_isOpen 43 = .ok (.ifCond .le 7, 3) := by decide +kernel
theorem dX4_isOpen_46 : decode cX4_isOpen 46 = .ok (.iconst 1, 1) := by decide +kernel
theorem dX4_isOpen_47 : decode cX4_isOpen 47 = .ok (.goto 4, 3) := by decide +kernel
theorem dX4_isOpen_50 : decode cX4_isOpen 50 = .ok (.iconst 0, 1) := by decide +kernel
theorem dX4_isOpen_51 : decode cX4_isOpen 51 = .ok (.ireturn, 1) := by decide +kernel
set_option maxRecDepth 20000 in
theorem ggX4_mayVisit_X4_isAsked : GoodIn wsX4_mayVisit wsX4_isAsked := goodIn_r _ [5, 6, 7, 8, 9, 4, 10, 11, 12, 13, 14, 36, 37, 38, 39, 40, 41, 42, 43, 44, 45, 46, 47, 48, 49, 50, 51, 52, 53, 54, 55, 56, 57, 58, 59, 60, 61] (by decide +kernel) (by decide +kernel)
set_option maxRecDepth 20000 in
theorem gX4_mayVisit_X4_isAsked : GoodIn wsX4_mayVisit (wsV RX4 113 RX4 yX4_isAsked wsX4_isAsked) := goodIn_app (goodIn_of _ (by decide +kernel)) ggX4_mayVisit_X4_isAsked
set_option maxRecDepth 20000 in
theorem ggX4_mayVisit_X4_isOpen : GoodIn wsX4_mayVisit wsX4_isOpen := goodIn_r _ [18, 19, 20, 21, 22, 23, 24, 25, 4, 26, 27, 28, 29, 30, 31, 32, 33, 34, 35, 36, 37, 38, 39, 40, 41, 42, 43, 44, 45, 46, 47, 48, 49, 50, 51, 52, 53, 54, 55, 56, 57, 58, 59, 60, 61] (by decide +kernel) (by decide +kernel)
set_option maxRecDepth 20000 in
theorem gX4_mayVisit_X4_isOpen : GoodIn wsX4_mayVisit (wsV RX4 129 RX4 yX4_isOpen wsX4_isOpen) := goodIn_app (goodIn_of _ (by decide +kernel)) ggX4_mayVisit_X4_isOpen
theorem dX4_mayVisit_0 : decode cX4_mayVisit 0 = .ok (.aload_n 0, 1) := by decide +kernel
theorem dX4_mayVisit_1 : decode cX4_mayVisit 1 = .ok (.iload_n 1, 1) := by decide +kernel
theorem dX4_mayVisit_2 : decode cX4_mayVisit 2 = .ok (.invokevirtual 113, 3) := by decide +kernel
theorem dX4_mayVisit_5 : decode cX4_mayVisit 5 = .ok (.ifCond .eq 15, 3) := by decide +kernel
theorem dX4_mayVisit_8 : decode cX4_mayVisit 8 = .ok (.aload_n 0, 1) := by decide +kernel
theorem dX4_mayVisit_9 : decode cX4_mayVisit 9 = .ok (.iload_n 1, 1) := by decide +kernel
theorem dX4_mayVisit_10 : decode cX4_mayVisit 10 = .ok (.invokevirtual 129, 3) := by decide +kernel
theorem dX4_mayVisit_13 : decode cX4_mayVisit 13 = .ok (.ifCond .eq 7, 3) := by decide +kernel
theorem dX4_mayVisit_16 : decode cX4_mayVisit 16 = .ok (.iconst 1, 1) := by decide +kernel
theorem dX4_mayVisit_17 : decode cX4_mayVisit 17 = .ok (.goto 4, 3) := by decide +kernel
theorem dX4_mayVisit_20 : decode cX4_mayVisit 20 = .ok (.iconst 0, 1) := by decide +kernel
theorem dX4_mayVisit_21 : decode cX4_mayVisit 21 = .ok (.ireturn, 1) := by decide +kernel
set_option maxRecDepth 20000 in
theorem ggX4_best_X4_isOpen : GoodIn wsX4_best wsX4_isOpen := goodIn_r _ [9, 4, 3, 10, 11, 12, 13, 14, 8, 15, 16, 17, 18, 19, 20, 21, 22, 23, 24, 25, 26, 27, 28, 29, 30, 31, 32, 33, 34, 35, 36, 37, 38, 39, 40, 41, 42, 43, 44, 45, 46, 47, 48, 49, 50] (by decide +kernel) (by decide +kernel)
set_option maxRecDepth 20000 in
theorem gX4_best_X4_isOpen : GoodIn wsX4_best (wsV RX4 129 RX4 yX4_isOpen wsX4_isOpen) := goodIn_app (goodIn_of _ (by decide +kernel)) ggX4_best_X4_isOpen
theorem dX4_best_0 : decode cX4_best 0 = .ok (.iconst (-1), 1) := by decide +kernel
theorem dX4_best_1 : decode cX4_best 1 = .ok (.istore_n 1, 1) := by decide +kernel
theorem dX4_best_2 : decode cX4_best 2 = .ok (.iconst 0, 1) := by decide +kernel
theorem dX4_best_3 : decode cX4_best 3 = .ok (.istore_n 2, 1) := by decide +kernel
theorem dX4_best_4 : decode cX4_best 4 = .ok (.iconst 0, 1) := by decide +kernel
theorem dX4_best_5 : decode cX4_best 5 = .ok (.istore_n 3, 1) := by decide +kernel
theorem dX4_best_6 : decode cX4_best 6 = .ok (.iload_n 3, 1) := by decide +kernel
theorem dX4_best_7 : decode cX4_best 7 = .ok (.aload_n 0, 1) := by decide +kernel
theorem dX4_best_8 : decode cX4_best 8 = .ok (.getfield 76, 3) := by decide +kernel
theorem dX4_best_11 : decode cX4_best 11 = .ok (.if_icmp .ge 102, 3) := by decide +kernel
theorem dX4_best_14 : decode cX4_best 14 = .ok (.bipush 10, 2) := by decide +kernel
theorem dX4_best_16 : decode cX4_best 16 = .ok (.aload_n 0, 1) := by decide +kernel
theorem dX4_best_17 : decode cX4_best 17 = .ok (.getfield 41, 3) := by decide +kernel
theorem dX4_best_20 : decode cX4_best 20 = .ok (.iload_n 3, 1) := by decide +kernel
theorem dX4_best_21 : decode cX4_best 21 = .ok (.iaload, 1) := by decide +kernel
theorem dX4_best_22 : decode cX4_best 22 = .ok (.imul, 1) := by decide +kernel
theorem dX4_best_23 : decode cX4_best 23 = .ok (.aload_n 0, 1) := by decide +kernel
theorem dX4_best_24 : decode cX4_best 24 = .ok (.getfield 110, 3) := by decide +kernel
theorem dX4_best_27 : decode cX4_best 27 = .ok (.iadd, 1) := by decide +kernel
theorem dX4_best_28 : decode cX4_best 28 = .ok (.aload_n 0, 1) := by decide +kernel
theorem dX4_best_29 : decode cX4_best 29 = .ok (.getfield 44, 3) := by decide +kernel
theorem dX4_best_32 : decode cX4_best 32 = .ok (.iload_n 3, 1) := by decide +kernel
theorem dX4_best_33 : decode cX4_best 33 = .ok (.iaload, 1) := by decide +kernel
theorem dX4_best_34 : decode cX4_best 34 = .ok (.isub, 1) := by decide +kernel
theorem dX4_best_35 : decode cX4_best 35 = .ok (.istore 4, 2) := by decide +kernel
theorem dX4_best_37 : decode cX4_best 37 = .ok (.aload_n 0, 1) := by decide +kernel
theorem dX4_best_38 : decode cX4_best 38 = .ok (.iload_n 3, 1) := by decide +kernel
theorem dX4_best_39 : decode cX4_best 39 = .ok (.invokevirtual 129, 3) := by decide +kernel
theorem dX4_best_42 : decode cX4_best 42 = .ok (.ifCond .eq 39, 3) := by decide +kernel
theorem dX4_best_45 : decode cX4_best 45 = .ok (.iload_n 1, 1) := by decide +kernel
theorem dX4_best_46 : decode cX4_best 46 = .ok (.iconst (-1), 1) := by decide +kernel
theorem dX4_best_47 : decode cX4_best 47 = .ok (.if_icmp .eq 30, 3) := by decide +kernel
theorem dX4_best_50 : decode cX4_best 50 = .ok (.iload 4, 2) := by decide +kernel
theorem dX4_best_52 : decode cX4_best 52 = .ok (.iload_n 2, 1) := by decide +kernel
theorem dX4_best_53 : decode cX4_best 53 = .ok (.if_icmp .gt 24, 3) := by decide +kernel
theorem dX4_best_56 : decode cX4_best 56 = .ok (.iload 4, 2) := by decide +kernel
theorem dX4_best_58 : decode cX4_best 58 = .ok (.iload_n 2, 1) := by decide +kernel
theorem dX4_best_59 : decode cX4_best 59 = .ok (.if_icmp .ne 22, 3) := by decide +kernel
theorem dX4_best_62 : decode cX4_best 62 = .ok (.aload_n 0, 1) := by decide +kernel
theorem dX4_best_63 : decode cX4_best 63 = .ok (.getfield 41, 3) := by decide +kernel
theorem dX4_best_66 : decode cX4_best 66 = .ok (.iload_n 3, 1) := by decide +kernel
theorem dX4_best_67 : decode cX4_best 67 = .ok (.iaload, 1) := by decide +kernel
theorem dX4_best_68 : decode cX4_best 68 = .ok (.aload_n 0, 1) := by decide +kernel
theorem dX4_best_69 : decode cX4_best 69 = .ok (.getfield 41, 3) := by decide +kernel
theorem dX4_best_72 : decode cX4_best 72 = .ok (.iload_n 1, 1) := by decide +kernel
theorem dX4_best_73 : decode cX4_best 73 = .ok (.iaload, 1) := by decide +kernel
theorem dX4_best_74 : decode cX4_best 74 = .ok (.if_icmp .le 7, 3) := by decide +kernel
theorem dX4_best_77 : decode cX4_best 77 = .ok (.iconst 1, 1) := by decide +kernel
theorem dX4_best_78 : decode cX4_best 78 = .ok (.goto 4, 3) := by decide +kernel
theorem dX4_best_81 : decode cX4_best 81 = .ok (.iconst 0, 1) := by decide +kernel
theorem dX4_best_82 : decode cX4_best 82 = .ok (.istore 5, 2) := by decide +kernel
theorem dX4_best_84 : decode cX4_best 84 = .ok (.iload 5, 2) := by decide +kernel
theorem dX4_best_86 : decode cX4_best 86 = .ok (.ifCond .eq 7, 3) := by decide +kernel
theorem dX4_best_89 : decode cX4_best 89 = .ok (.iload_n 3, 1) := by decide +kernel
theorem dX4_best_90 : decode cX4_best 90 = .ok (.goto 4, 3) := by decide +kernel
theorem dX4_best_93 : decode cX4_best 93 = .ok (.iload_n 1, 1) := by decide +kernel
theorem dX4_best_94 : decode cX4_best 94 = .ok (.istore_n 1, 1) := by decide +kernel
theorem dX4_best_95 : decode cX4_best 95 = .ok (.iload 5, 2) := by decide +kernel
theorem dX4_best_97 : decode cX4_best 97 = .ok (.ifCond .eq 8, 3) := by decide +kernel
theorem dX4_best_100 : decode cX4_best 100 = .ok (.iload 4, 2) := by decide +kernel
theorem dX4_best_102 : decode cX4_best 102 = .ok (.goto 4, 3) := by decide +kernel
theorem dX4_best_105 : decode cX4_best 105 = .ok (.iload_n 2, 1) := by decide +kernel
theorem dX4_best_106 : decode cX4_best 106 = .ok (.istore_n 2, 1) := by decide +kernel
theorem dX4_best_107 : decode cX4_best 107 = .ok (.iinc 3 1, 3) := by decide +kernel
theorem dX4_best_110 : decode cX4_best 110 = .ok (.goto (-104), 3) := by decide +kernel
theorem dX4_best_113 : decode cX4_best 113 = .ok (.iload_n 1, 1) := by decide +kernel
theorem dX4_best_114 : decode cX4_best 114 = .ok (.ireturn, 1) := by decide +kernel
set_option maxRecDepth 20000 in
theorem ggX4_next_X4_best : GoodIn wsX4_next wsX4_best := goodIn_r _ [6, 7, 8, 9, 10, 11, 12, 13, 5, 14, 15, 16, 17, 18, 19, 20, 21, 22, 23, 24, 25, 26, 27, 28, 29, 30, 31, 32, 33, 34, 35, 36, 37, 38, 39, 40, 41, 42, 43, 44, 45, 46, 47, 48, 49, 50, 51, 52, 53, 54, 55] (by decide +kernel) (by decide +kernel)
set_option maxRecDepth 20000 in
theorem gX4_next_X4_best : GoodIn wsX4_next (wsV RX4 132 RX4 yX4_best wsX4_best) := goodIn_app (goodIn_of _ (by decide +kernel)) ggX4_next_X4_best
theorem dX4_next_0 : decode cX4_next 0 = .ok (.aload_n 0, 1) := by decide +kernel
theorem dX4_next_1 : decode cX4_next 1 = .ok (.iconst 0, 1) := by decide +kernel
theorem dX4_next_2 : decode cX4_next 2 = .ok (.putfield 69, 3) := by decide +kernel
theorem dX4_next_5 : decode cX4_next 5 = .ok (.aload_n 0, 1) := by decide +kernel
theorem dX4_next_6 : decode cX4_next 6 = .ok (.invokevirtual 132, 3) := by decide +kernel
theorem dX4_next_9 : decode cX4_next 9 = .ok (.ireturn, 1) := by decide +kernel
set_option maxRecDepth 20000 in
theorem ggX4_nextByScan_X4_best : GoodIn wsX4_nextByScan wsX4_best := goodIn_r _ [6, 7, 8, 9, 10, 11, 12, 13, 5, 14, 15, 16, 17, 18, 19, 20, 21, 22, 23, 24, 25, 26, 27, 28, 29, 30, 31, 32, 33, 34, 35, 36, 37, 38, 39, 40, 41, 42, 43, 44, 45, 46, 47, 48, 49, 50, 51, 52, 53, 54, 55] (by decide +kernel) (by decide +kernel)
set_option maxRecDepth 20000 in
theorem gX4_nextByScan_X4_best : GoodIn wsX4_nextByScan (wsV RX4 132 RX4 yX4_best wsX4_best) := goodIn_app (goodIn_of _ (by decide +kernel)) ggX4_nextByScan_X4_best
theorem dX4_nextByScan_0 : decode cX4_nextByScan 0 = .ok (.aload_n 0, 1) := by decide +kernel
theorem dX4_nextByScan_1 : decode cX4_nextByScan 1 = .ok (.iconst 0, 1) := by decide +kernel
theorem dX4_nextByScan_2 : decode cX4_nextByScan 2 = .ok (.putfield 69, 3) := by decide +kernel
theorem dX4_nextByScan_5 : decode cX4_nextByScan 5 = .ok (.aload_n 0, 1) := by decide +kernel
theorem dX4_nextByScan_6 : decode cX4_nextByScan 6 = .ok (.invokevirtual 132, 3) := by decide +kernel
theorem dX4_nextByScan_9 : decode cX4_nextByScan 9 = .ok (.ireturn, 1) := by decide +kernel
set_option maxRecDepth 20000 in
theorem ggX4_visit_X4_isPage : GoodIn wsX4_visit wsX4_isPage := goodIn_r _ [19, 20, 21, 22, 18, 23, 42, 43, 44, 45, 46, 47, 48, 49, 50, 51, 52, 53, 54, 55, 56, 57, 58, 59, 60, 61, 62, 63, 64, 65, 66, 67] (by decide +kernel) (by decide +kernel)
set_option maxRecDepth 20000 in
theorem gX4_visit_X4_isPage : GoodIn wsX4_visit (wsV RX4 79 RX4 yX4_isPage wsX4_isPage) := goodIn_app (goodIn_of _ (by decide +kernel)) ggX4_visit_X4_isPage
set_option maxRecDepth 20000 in
theorem ggX4_visit_X4_fails : GoodIn wsX4_visit wsX4_fails := goodIn_r _ [27, 1, 42, 43, 44, 45, 46, 47, 48, 49, 50, 51, 52, 53, 54, 55, 56, 57, 58, 59, 60, 61, 62, 63, 64, 65, 66, 67] (by decide +kernel) (by decide +kernel)
set_option maxRecDepth 20000 in
theorem gX4_visit_X4_fails : GoodIn wsX4_visit (wsV RX4 96 RX4 yX4_fails wsX4_fails) := goodIn_app (goodIn_of _ (by decide +kernel)) ggX4_visit_X4_fails
set_option maxRecDepth 20000 in
theorem ggX4_visit_X4_in : GoodIn wsX4_visit wsX4_in := goodIn_r _ [23] (by decide +kernel) (by decide +kernel)
set_option maxRecDepth 20000 in
theorem gX4_visit_X4_in : GoodIn wsX4_visit (va_wsS RX4 72 yX4_in wsX4_in) := goodIn_app (goodIn_of _ (by decide +kernel)) ggX4_visit_X4_in
set_option maxRecDepth 20000 in
theorem ggX4_visit_X4_isOpen : GoodIn wsX4_visit wsX4_isOpen := goodIn_r _ [31, 10, 3, 13, 5, 32, 33, 34, 18, 35, 12, 36, 37, 38, 39, 40, 2, 4, 41, 42, 43, 44, 45, 46, 47, 48, 49, 50, 51, 52, 53, 54, 55, 56, 57, 58, 59, 60, 61, 62, 63, 64, 65, 66, 67] (by decide +kernel) (by decide +kernel)
set_option maxRecDepth 20000 in
theorem gX4_visit_X4_isOpen : GoodIn wsX4_visit (wsV RX4 129 RX4 yX4_isOpen wsX4_isOpen) := goodIn_app (goodIn_of _ (by decide +kernel)) ggX4_visit_X4_isOpen
theorem dX4_visit_0 : decode cX4_visit 0 = .ok (.aload_n 0, 1) := by decide +kernel
theorem dX4_visit_1 : decode cX4_visit 1 = .ok (.iconst 0, 1) := by decide +kernel
theorem dX4_visit_2 : decode cX4_visit 2 = .ok (.putfield 69, 3) := by decide +kernel
theorem dX4_visit_5 : decode cX4_visit 5 = .ok (.aload_n 0, 1) := by decide +kernel
theorem dX4_visit_6 : decode cX4_visit 6 = .ok (.iload_n 1, 1) := by decide +kernel
theorem dX4_visit_7 : decode cX4_visit 7 = .ok (.invokevirtual 79, 3) := by decide +kernel
theorem dX4_visit_10 : decode cX4_visit 10 = .ok (.ifCond .ne 9, 3) := by decide +kernel
theorem dX4_visit_13 : decode cX4_visit 13 = .ok (.aload_n 0, 1) := by decide +kernel
theorem dX4_visit_14 : decode cX4_visit 14 = .ok (.iconst 1, 1) := by decide +kernel
theorem dX4_visit_15 : decode cX4_visit 15 = .ok (.invokevirtual 96, 3) := by decide +kernel
theorem dX4_visit_18 : decode cX4_visit 18 = .ok (.ireturn, 1) := by decide +kernel
theorem dX4_visit_19 : decode cX4_visit 19 = .ok (.iload_n 2, 1) := by decide +kernel
theorem dX4_visit_20 : decode cX4_visit 20 = .ok (.iconst 0, 1) := by decide +kernel
theorem dX4_visit_21 : decode cX4_visit 21 = .ok (.iconst 3, 1) := by decide +kernel
theorem dX4_visit_22 : decode cX4_visit 22 = .ok (.invokestatic 72, 3) := by decide +kernel
theorem dX4_visit_25 : decode cX4_visit 25 = .ok (.ifCond .ne 9, 3) := by decide +kernel
theorem dX4_visit_28 : decode cX4_visit 28 = .ok (.aload_n 0, 1) := by decide +kernel
theorem dX4_visit_29 : decode cX4_visit 29 = .ok (.iconst 2, 1) := by decide +kernel
theorem dX4_visit_30 : decode cX4_visit 30 = .ok (.invokevirtual 96, 3) := by decide +kernel
theorem dX4_visit_33 : decode cX4_visit 33 = .ok (.ireturn, 1) := by decide +kernel
theorem dX4_visit_34 : decode cX4_visit 34 = .ok (.aload_n 0, 1) := by decide +kernel
theorem dX4_visit_35 : decode cX4_visit 35 = .ok (.iload_n 1, 1) := by decide +kernel
theorem dX4_visit_36 : decode cX4_visit 36 = .ok (.invokevirtual 129, 3) := by decide +kernel
theorem dX4_visit_39 : decode cX4_visit 39 = .ok (.ifCond .ne 9, 3) := by decide +kernel
theorem dX4_visit_42 : decode cX4_visit 42 = .ok (.aload_n 0, 1) := by decide +kernel
theorem dX4_visit_43 : decode cX4_visit 43 = .ok (.iconst 3, 1) := by decide +kernel
theorem dX4_visit_44 : decode cX4_visit 44 = .ok (.invokevirtual 96, 3) := by decide +kernel
theorem dX4_visit_47 : decode cX4_visit 47 = .ok (.ireturn, 1) := by decide +kernel
theorem dX4_visit_48 : decode cX4_visit 48 = .ok (.aload_n 0, 1) := by decide +kernel
theorem dX4_visit_49 : decode cX4_visit 49 = .ok (.aload_n 0, 1) := by decide +kernel
theorem dX4_visit_50 : decode cX4_visit 50 = .ok (.getfield 119, 3) := by decide +kernel
theorem dX4_visit_53 : decode cX4_visit 53 = .ok (.aload_n 0, 1) := by decide +kernel
theorem dX4_visit_54 : decode cX4_visit 54 = .ok (.getfield 110, 3) := by decide +kernel
theorem dX4_visit_57 : decode cX4_visit 57 = .ok (.bipush 100, 2) := by decide +kernel
theorem dX4_visit_59 : decode cX4_visit 59 = .ok (.idiv, 1) := by decide +kernel
theorem dX4_visit_60 : decode cX4_visit 60 = .ok (.if_icmp .ne 12, 3) := by decide +kernel
theorem dX4_visit_63 : decode cX4_visit 63 = .ok (.aload_n 0, 1) := by decide +kernel
theorem dX4_visit_64 : decode cX4_visit 64 = .ok (.getfield 122, 3) := by decide +kernel
theorem dX4_visit_67 : decode cX4_visit 67 = .ok (.iconst 1, 1) := by decide +kernel
theorem dX4_visit_68 : decode cX4_visit 68 = .ok (.iadd, 1) := by decide +kernel
theorem dX4_visit_69 : decode cX4_visit 69 = .ok (.goto 4, 3) := by decide +kernel
theorem dX4_visit_72 : decode cX4_visit 72 = .ok (.iconst 1, 1) := by decide +kernel
theorem dX4_visit_73 : decode cX4_visit 73 = .ok (.putfield 122, 3) := by decide +kernel
theorem dX4_visit_76 : decode cX4_visit 76 = .ok (.aload_n 0, 1) := by decide +kernel
theorem dX4_visit_77 : decode cX4_visit 77 = .ok (.aload_n 0, 1) := by decide +kernel
theorem dX4_visit_78 : decode cX4_visit 78 = .ok (.getfield 110, 3) := by decide +kernel
theorem dX4_visit_81 : decode cX4_visit 81 = .ok (.bipush 100, 2) := by decide +kernel
theorem dX4_visit_83 : decode cX4_visit 83 = .ok (.idiv, 1) := by decide +kernel
theorem dX4_visit_84 : decode cX4_visit 84 = .ok (.putfield 119, 3) := by decide +kernel
theorem dX4_visit_87 : decode cX4_visit 87 = .ok (.aload_n 0, 1) := by decide +kernel
theorem dX4_visit_88 : decode cX4_visit 88 = .ok (.getfield 38, 3) := by decide +kernel
theorem dX4_visit_91 : decode cX4_visit 91 = .ok (.iload_n 1, 1) := by decide +kernel
theorem dX4_visit_92 : decode cX4_visit 92 = .ok (.iaload, 1) := by decide +kernel
theorem dX4_visit_93 : decode cX4_visit 93 = .ok (.istore_n 3, 1) := by decide +kernel
theorem dX4_visit_94 : decode cX4_visit 94 = .ok (.aload_n 0, 1) := by decide +kernel
theorem dX4_visit_95 : decode cX4_visit 95 = .ok (.getfield 16, 3) := by decide +kernel
theorem dX4_visit_98 : decode cX4_visit 98 = .ok (.iload_n 3, 1) := by decide +kernel
theorem dX4_visit_99 : decode cX4_visit 99 = .ok (.iload_n 2, 1) := by decide +kernel
theorem dX4_visit_100 : decode cX4_visit 100 = .ok (.iconst 2, 1) := by decide +kernel
theorem dX4_visit_101 : decode cX4_visit 101 = .ok (.if_icmp .ne 14, 3) := by decide +kernel
theorem dX4_visit_104 : decode cX4_visit 104 = .ok (.aload_n 0, 1) := by decide +kernel
theorem dX4_visit_105 : decode cX4_visit 105 = .ok (.getfield 16, 3) := by decide +kernel
theorem dX4_visit_108 : decode cX4_visit 108 = .ok (.iload_n 3, 1) := by decide +kernel
theorem dX4_visit_109 : decode cX4_visit 109 = .ok (.iaload, 1) := by decide +kernel
theorem dX4_visit_110 : decode cX4_visit 110 = .ok (.iconst 1, 1) := by decide +kernel
theorem dX4_visit_111 : decode cX4_visit 111 = .ok (.iadd, 1) := by decide +kernel
theorem dX4_visit_112 : decode cX4_visit 112 = .ok (.goto 4, 3) := by decide +kernel
theorem dX4_visit_115 : decode cX4_visit 115 = .ok (.iconst 0, 1) := by decide +kernel
theorem dX4_visit_116 : decode cX4_visit 116 = .ok (.iastore, 1) := by decide +kernel
theorem dX4_visit_117 : decode cX4_visit 117 = .ok (.iload_n 2, 1) := by decide +kernel
theorem dX4_visit_118 : decode cX4_visit 118 = .ok (.iconst 2, 1) := by decide +kernel
theorem dX4_visit_119 : decode cX4_visit 119 = .ok (.if_icmp .ge 92, 3) := by decide +kernel
theorem dX4_visit_122 : decode cX4_visit 122 = .ok (.aload_n 0, 1) := by decide +kernel
theorem dX4_visit_123 : decode cX4_visit 123 = .ok (.getfield 47, 3) := by decide +kernel
theorem dX4_visit_126 : decode cX4_visit 126 = .ok (.iload_n 1, 1) := by decide +kernel
theorem dX4_visit_127 : decode cX4_visit 127 = .ok (.dup2, 1) := by decide +kernel
theorem dX4_visit_128 : decode cX4_visit 128 = .ok (.iaload, 1) := by decide +kernel
theorem dX4_visit_129 : decode cX4_visit 129 = .ok (.iconst 1, 1) := by decide +kernel
theorem dX4_visit_130 : decode cX4_visit 130 = .ok (.iadd, 1) := by decide +kernel
theorem dX4_visit_131 : decode cX4_visit 131 = .ok (.iastore, 1) := by decide +kernel
theorem dX4_visit_132 : decode cX4_visit 132 = .ok (.aload_n 0, 1) := by decide +kernel
theorem dX4_visit_133 : decode cX4_visit 133 = .ok (.getfield 50, 3) := by decide +kernel
theorem dX4_visit_136 : decode cX4_visit 136 = .ok (.iload_n 1, 1) := by decide +kernel
theorem dX4_visit_137 : decode cX4_visit 137 = .ok (.dup2, 1) := by decide +kernel
theorem dX4_visit_138 : decode cX4_visit 138 = .ok (.iaload, 1) := by decide +kernel
theorem dX4_visit_139 : decode cX4_visit 139 = .ok (.iload_n 2, 1) := by decide +kernel
theorem dX4_visit_140 : decode cX4_visit 140 = .ok (.iconst 1, 1) := by decide +kernel
theorem dX4_visit_141 : decode cX4_visit 141 = .ok (.if_icmp .ne 7, 3) := by decide +kernel
theorem dX4_visit_144 : decode cX4_visit 144 = .ok (.iconst 1, 1) := by decide +kernel
theorem dX4_visit_145 : decode cX4_visit 145 = .ok (.goto 4, 3) := by decide +kernel
theorem dX4_visit_148 : decode cX4_visit 148 = .ok (.iconst 0, 1) := by decide +kernel
theorem dX4_visit_149 : decode cX4_visit 149 = .ok (.iadd, 1) := by decide +kernel
theorem dX4_visit_150 : decode cX4_visit 150 = .ok (.iastore, 1) := by decide +kernel
theorem dX4_visit_151 : decode cX4_visit 151 = .ok (.aload_n 0, 1) := by decide +kernel
theorem dX4_visit_152 : decode cX4_visit 152 = .ok (.getfield 22, 3) := by decide +kernel
theorem dX4_visit_155 : decode cX4_visit 155 = .ok (.aload_n 0, 1) := by decide +kernel
theorem dX4_visit_156 : decode cX4_visit 156 = .ok (.getfield 47, 3) := by decide +kernel
theorem dX4_visit_159 : decode cX4_visit 159 = .ok (.iload_n 1, 1) := by decide +kernel
theorem dX4_visit_160 : decode cX4_visit 160 = .ok (.iaload, 1) := by decide +kernel
theorem dX4_visit_161 : decode cX4_visit 161 = .ok (.iconst 2, 1) := by decide +kernel
theorem dX4_visit_162 : decode cX4_visit 162 = .ok (.iadd, 1) := by decide +kernel
theorem dX4_visit_163 : decode cX4_visit 163 = .ok (.imul, 1) := by decide +kernel
theorem dX4_visit_164 : decode cX4_visit 164 = .ok (.aload_n 0, 1) := by decide +kernel
theorem dX4_visit_165 : decode cX4_visit 165 = .ok (.getfield 50, 3) := by decide +kernel
theorem dX4_visit_168 : decode cX4_visit 168 = .ok (.iload_n 1, 1) := by decide +kernel
theorem dX4_visit_169 : decode cX4_visit 169 = .ok (.iaload, 1) := by decide +kernel
theorem dX4_visit_170 : decode cX4_visit 170 = .ok (.iadd, 1) := by decide +kernel
theorem dX4_visit_171 : decode cX4_visit 171 = .ok (.aload_n 0, 1) := by decide +kernel
theorem dX4_visit_172 : decode cX4_visit 172 = .ok (.getfield 50, 3) := by decide +kernel
theorem dX4_visit_175 : decode cX4_visit 175 = .ok (.iload_n 1, 1) := by decide +kernel
theorem dX4_visit_176 : decode cX4_visit 176 = .ok (.iaload, 1) := by decide +kernel
theorem dX4_visit_177 : decode cX4_visit 177 = .ok (.iconst 1, 1) := by decide +kernel
theorem dX4_visit_178 : decode cX4_visit 178 = .ok (.iadd, 1) := by decide +kernel
theorem dX4_visit_179 : decode cX4_visit 179 = .ok (.idiv, 1) := by decide +kernel
theorem dX4_visit_180 : decode cX4_visit 180 = .ok (.istore 4, 2) := by decide +kernel
theorem dX4_visit_182 : decode cX4_visit 182 = .ok (.aload_n 0, 1) := by decide +kernel
theorem dX4_visit_183 : decode cX4_visit 183 = .ok (.getfield 44, 3) := by decide +kernel
theorem dX4_visit_186 : decode cX4_visit 186 = .ok (.iload_n 1, 1) := by decide +kernel
theorem dX4_visit_187 : decode cX4_visit 187 = .ok (.aload_n 0, 1) := by decide +kernel
theorem dX4_visit_188 : decode cX4_visit 188 = .ok (.getfield 110, 3) := by decide +kernel
theorem dX4_visit_191 : decode cX4_visit 191 = .ok (.iload 4, 2) := by decide +kernel
theorem dX4_visit_193 : decode cX4_visit 193 = .ok (.aload_n 0, 1) := by decide +kernel
theorem dX4_visit_194 : decode cX4_visit 194 = .ok (.getfield 26, 3) := by decide +kernel
theorem dX4_visit_197 : decode cX4_visit 197 = .ok (.if_icmp .ge 8, 3) := by decide +kernel
theorem dX4_visit_200 : decode cX4_visit 200 = .ok (.iload 4, 2) := by decide +kernel
theorem dX4_visit_202 : decode cX4_visit 202 = .ok (.goto 7, 3) := by decide +kernel
theorem dX4_visit_205 : decode cX4_visit 205 = .ok (.aload_n 0, 1) := by decide +kernel
theorem dX4_visit_206 : decode cX4_visit 206 = .ok (.getfield 26, 3) := by decide +kernel
theorem dX4_visit_209 : decode cX4_visit 209 = .ok (.iadd, 1) := by decide +kernel
theorem dX4_visit_210 : decode cX4_visit 210 = .ok (.iastore, 1) := by decide +kernel
theorem dX4_visit_211 : decode cX4_visit 211 = .ok (.aload_n 0, 1) := by decide +kernel
theorem dX4_visit_212 : decode cX4_visit 212 = .ok (.getfield 44, 3) := by decide +kernel
theorem dX4_visit_215 : decode cX4_visit 215 = .ok (.iload_n 1, 1) := by decide +kernel
theorem dX4_visit_216 : decode cX4_visit 216 = .ok (.iload_n 2, 1) := by decide +kernel
theorem dX4_visit_217 : decode cX4_visit 217 = .ok (.iconst 2, 1) := by decide +kernel
theorem dX4_visit_218 : decode cX4_visit 218 = .ok (.if_icmp .ne 15, 3) := by decide +kernel
theorem dX4_visit_221 : decode cX4_visit 221 = .ok (.aload_n 0, 1) := by decide +kernel
theorem dX4_visit_222 : decode cX4_visit 222 = .ok (.getfield 110, 3) := by decide +kernel
theorem dX4_visit_225 : decode cX4_visit 225 = .ok (.aload_n 0, 1) := by decide +kernel
theorem dX4_visit_226 : decode cX4_visit 226 = .ok (.getfield 22, 3) := by decide +kernel
theorem dX4_visit_229 : decode cX4_visit 229 = .ok (.iadd, 1) := by decide +kernel
theorem dX4_visit_230 : decode cX4_visit 230 = .ok (.goto 9, 3) := by decide +kernel
theorem dX4_visit_233 : decode cX4_visit 233 = .ok (.aload_n 0, 1) := by decide +kernel
theorem dX4_visit_234 : decode cX4_visit 234 = .ok (.getfield 44, 3) := by decide +kernel
theorem dX4_visit_237 : decode cX4_visit 237 = .ok (.iload_n 1, 1) := by decide +kernel
theorem dX4_visit_238 : decode cX4_visit 238 = .ok (.iaload, 1) := by decide +kernel
theorem dX4_visit_239 : decode cX4_visit 239 = .ok (.iastore, 1) := by decide +kernel
theorem dX4_visit_240 : decode cX4_visit 240 = .ok (.aload_n 0, 1) := by decide +kernel
theorem dX4_visit_241 : decode cX4_visit 241 = .ok (.getfield 53, 3) := by decide +kernel
theorem dX4_visit_244 : decode cX4_visit 244 = .ok (.iload_n 1, 1) := by decide +kernel
theorem dX4_visit_245 : decode cX4_visit 245 = .ok (.iload_n 2, 1) := by decide +kernel
theorem dX4_visit_246 : decode cX4_visit 246 = .ok (.iconst 3, 1) := by decide +kernel
theorem dX4_visit_247 : decode cX4_visit 247 = .ok (.if_icmp .ne 7, 3) := by decide +kernel
theorem dX4_visit_250 : decode cX4_visit 250 = .ok (.iconst 1, 1) := by decide +kernel
theorem dX4_visit_251 : decode cX4_visit 251 = .ok (.goto 4, 3) := by decide +kernel
theorem dX4_visit_254 : decode cX4_visit 254 = .ok (.iconst 0, 1) := by decide +kernel
theorem dX4_visit_255 : decode cX4_visit 255 = .ok (.bastore, 1) := by decide +kernel
theorem dX4_visit_256 : decode cX4_visit 256 = .ok (.aload_n 0, 1) := by decide +kernel
theorem dX4_visit_257 : decode cX4_visit 257 = .ok (.getfield 16, 3) := by decide +kernel
theorem dX4_visit_260 : decode cX4_visit 260 = .ok (.iload_n 3, 1) := by decide +kernel
theorem dX4_visit_261 : decode cX4_visit 261 = .ok (.iaload, 1) := by decide +kernel
theorem dX4_visit_262 : decode cX4_visit 262 = .ok (.iconst 5, 1) := by decide +kernel
theorem dX4_visit_263 : decode cX4_visit 263 = .ok (.if_icmp .ge 12, 3) := by decide +kernel
theorem dX4_visit_266 : decode cX4_visit 266 = .ok (.aload_n 0, 1) := by decide +kernel
theorem dX4_visit_267 : decode cX4_visit 267 = .ok (.getfield 16, 3) := by decide +kernel
theorem dX4_visit_270 : decode cX4_visit 270 = .ok (.iload_n 3, 1) := by decide +kernel
theorem dX4_visit_271 : decode cX4_visit 271 = .ok (.iaload, 1) := by decide +kernel
theorem dX4_visit_272 : decode cX4_visit 272 = .ok (.goto 4, 3) := by decide +kernel
theorem dX4_visit_275 : decode cX4_visit 275 = .ok (.iconst 5, 1) := by decide +kernel
theorem dX4_visit_276 : decode cX4_visit 276 = .ok (.istore 4, 2) := by decide +kernel
theorem dX4_visit_278 : decode cX4_visit 278 = .ok (.aload_n 0, 1) := by decide +kernel
theorem dX4_visit_279 : decode cX4_visit 279 = .ok (.getfield 19, 3) := by decide +kernel
theorem dX4_visit_282 : decode cX4_visit 282 = .ok (.iload_n 3, 1) := by decide +kernel
theorem dX4_visit_283 : decode cX4_visit 283 = .ok (.aload_n 0, 1) := by decide +kernel
theorem dX4_visit_284 : decode cX4_visit 284 = .ok (.getfield 110, 3) := by decide +kernel
theorem dX4_visit_287 : decode cX4_visit 287 = .ok (.aload_n 0, 1) := by decide +kernel
theorem dX4_visit_288 : decode cX4_visit 288 = .ok (.getfield 13, 3) := by decide +kernel
theorem dX4_visit_291 : decode cX4_visit 291 = .ok (.iload_n 3, 1) := by decide +kernel
theorem dX4_visit_292 : decode cX4_visit 292 = .ok (.iaload, 1) := by decide +kernel
theorem dX4_visit_293 : decode cX4_visit 293 = .ok (.iload 4, 2) := by decide +kernel
theorem dX4_visit_295 : decode cX4_visit 295 = .ok (.ishl, 1) := by decide +kernel
theorem dX4_visit_296 : decode cX4_visit 296 = .ok (.iadd, 1) := by decide +kernel
theorem dX4_visit_297 : decode cX4_visit 297 = .ok (.iastore, 1) := by decide +kernel
theorem dX4_visit_298 : decode cX4_visit 298 = .ok (.aload_n 0, 1) := by decide +kernel
theorem dX4_visit_299 : decode cX4_visit 299 = .ok (.getfield 19, 3) := by decide +kernel
theorem dX4_visit_302 : decode cX4_visit 302 = .ok (.iload_n 3, 1) := by decide +kernel
theorem dX4_visit_303 : decode cX4_visit 303 = .ok (.iaload, 1) := by decide +kernel
theorem dX4_visit_304 : decode cX4_visit 304 = .ok (.ireturn, 1) := by decide +kernel
set_option maxRecDepth 20000 in
theorem ggX4_pass_X4_in : GoodIn wsX4_pass wsX4_in := goodIn_r _ [7] (by decide +kernel) (by decide +kernel)
set_option maxRecDepth 20000 in
theorem gX4_pass_X4_in : GoodIn wsX4_pass (va_wsS RX4 72 yX4_in wsX4_in) := goodIn_app (goodIn_of _ (by decide +kernel)) ggX4_pass_X4_in
set_option maxRecDepth 20000 in
theorem ggX4_pass_X4_fails : GoodIn wsX4_pass wsX4_fails := goodIn_r _ [11, 1, 12, 13, 14, 15, 16, 17, 18, 19, 20, 21, 22, 23, 24, 25, 26, 27, 28, 29, 30, 31, 32, 33, 34, 35, 36, 37] (by decide +kernel) (by decide +kernel)
set_option maxRecDepth 20000 in
theorem gX4_pass_X4_fails : GoodIn wsX4_pass (wsV RX4 96 RX4 yX4_fails wsX4_fails) := goodIn_app (goodIn_of _ (by decide +kernel)) ggX4_pass_X4_fails
theorem dX4_pass_0 : decode cX4_pass 0 = .ok (.aload_n 0, 1) := by decide +kernel
theorem dX4_pass_1 : decode cX4_pass 1 = .ok (.iconst 0, 1) := by decide +kernel
theorem dX4_pass_2 : decode cX4_pass 2 = .ok (.putfield 69, 3) := by decide +kernel
theorem dX4_pass_5 : decode cX4_pass 5 = .ok (.iload_n 1, 1) := by decide +kernel
theorem dX4_pass_6 : decode cX4_pass 6 = .ok (.iconst 1, 1) := by decide +kernel
theorem dX4_pass_7 : decode cX4_pass 7 = .ok (.sipush 1000, 3) := by decide +kernel
theorem dX4_pass_10 : decode cX4_pass 10 = .ok (.invokestatic 72, 3) := by decide +kernel
theorem dX4_pass_13 : decode cX4_pass 13 = .ok (.ifCond .ne 9, 3) := by decide +kernel
theorem dX4_pass_16 : decode cX4_pass 16 = .ok (.aload_n 0, 1) := by decide +kernel
theorem dX4_pass_17 : decode cX4_pass 17 = .ok (.iconst 1, 1) := by decide +kernel
theorem dX4_pass_18 : decode cX4_pass 18 = .ok (.invokevirtual 96, 3) := by decide +kernel
theorem dX4_pass_21 : decode cX4_pass 21 = .ok (.ireturn, 1) := by decide +kernel
theorem dX4_pass_22 : decode cX4_pass 22 = .ok (.aload_n 0, 1) := by decide +kernel
theorem dX4_pass_23 : decode cX4_pass 23 = .ok (.getfield 110, 3) := by decide +kernel
theorem dX4_pass_26 : decode cX4_pass 26 = .ok (.iload_n 1, 1) := by decide +kernel
theorem dX4_pass_27 : decode cX4_pass 27 = .ok (.iadd, 1) := by decide +kernel
theorem dX4_pass_28 : decode cX4_pass 28 = .ok (.ldc 135, 2) := by decide +kernel
theorem dX4_pass_30 : decode cX4_pass 30 = .ok (.if_icmp .le 9, 3) := by decide +kernel
theorem dX4_pass_33 : decode cX4_pass 33 = .ok (.aload_n 0, 1) := by decide +kernel
theorem dX4_pass_34 : decode cX4_pass 34 = .ok (.iconst 2, 1) := by decide +kernel
theorem dX4_pass_35 : decode cX4_pass 35 = .ok (.invokevirtual 96, 3) := by decide +kernel
theorem dX4_pass_38 : decode cX4_pass 38 = .ok (.ireturn, 1) := by decide +kernel
theorem dX4_pass_39 : decode cX4_pass 39 = .ok (.aload_n 0, 1) := by decide +kernel
theorem dX4_pass_40 : decode cX4_pass 40 = .ok (.dup, 1) := by decide +kernel
theorem dX4_pass_41 : decode cX4_pass 41 = .ok (.getfield 110, 3) := by decide +kernel
theorem dX4_pass_44 : decode cX4_pass 44 = .ok (.iload_n 1, 1) := by decide +kernel
theorem dX4_pass_45 : decode cX4_pass 45 = .ok (.iadd, 1) := by decide +kernel
theorem dX4_pass_46 : decode cX4_pass 46 = .ok (.putfield 110, 3) := by decide +kernel
theorem dX4_pass_49 : decode cX4_pass 49 = .ok (.aload_n 0, 1) := by decide +kernel
theorem dX4_pass_50 : decode cX4_pass 50 = .ok (.getfield 110, 3) := by decide +kernel
theorem dX4_pass_53 : decode cX4_pass 53 = .ok (.ireturn, 1) := by decide +kernel
theorem dX4_now_0 : decode cX4_now 0 = .ok (.aload_n 0, 1) := by decide +kernel
theorem dX4_now_1 : decode cX4_now 1 = .ok (.iconst 0, 1) := by decide +kernel
theorem dX4_now_2 : decode cX4_now 2 = .ok (.putfield 69, 3) := by decide +kernel
theorem dX4_now_5 : decode cX4_now 5 = .ok (.aload_n 0, 1) := by decide +kernel
theorem dX4_now_6 : decode cX4_now 6 = .ok (.getfield 110, 3) := by decide +kernel
theorem dX4_now_9 : decode cX4_now 9 = .ok (.ireturn, 1) := by decide +kernel
set_option maxRecDepth 20000 in
theorem ggX4_budgetLeft_X4_left : GoodIn wsX4_budgetLeft wsX4_left := goodIn_r _ [6, 7, 8, 9, 10, 11, 12, 13, 14, 15, 16, 17, 18, 19, 20, 21, 22, 23, 24, 25, 26, 27, 28, 29, 30, 31, 32, 33, 34, 35, 36] (by decide +kernel) (by decide +kernel)
set_option maxRecDepth 20000 in
theorem gX4_budgetLeft_X4_left : GoodIn wsX4_budgetLeft (wsV RX4 125 RX4 yX4_left wsX4_left) := goodIn_app (goodIn_of _ (by decide +kernel)) ggX4_budgetLeft_X4_left
theorem dX4_budgetLeft_0 : decode cX4_budgetLeft 0 = .ok (.aload_n 0, 1) := by decide +kernel
theorem dX4_budgetLeft_1 : decode cX4_budgetLeft 1 = .ok (.iconst 0, 1) := by decide +kernel
theorem dX4_budgetLeft_2 : decode cX4_budgetLeft 2 = .ok (.putfield 69, 3) := by decide +kernel
theorem dX4_budgetLeft_5 : decode cX4_budgetLeft 5 = .ok (.aload_n 0, 1) := by decide +kernel
theorem dX4_budgetLeft_6 : decode cX4_budgetLeft 6 = .ok (.invokevirtual 125, 3) := by decide +kernel
theorem dX4_budgetLeft_9 : decode cX4_budgetLeft 9 = .ok (.ireturn, 1) := by decide +kernel
set_option maxRecDepth 20000 in
theorem ggX4_waiting_X4_left : GoodIn wsX4_waiting wsX4_left := goodIn_r _ [11, 12, 6, 13, 14, 21, 22, 23, 24, 25, 26, 27, 28, 29, 30, 31, 32, 33, 34, 35, 36, 37, 38, 39, 40, 41, 42, 43, 44, 45, 46] (by decide +kernel) (by decide +kernel)
set_option maxRecDepth 20000 in
theorem gX4_waiting_X4_left : GoodIn wsX4_waiting (wsV RX4 125 RX4 yX4_left wsX4_left) := goodIn_app (goodIn_of _ (by decide +kernel)) ggX4_waiting_X4_left
set_option maxRecDepth 20000 in
theorem ggX4_waiting_X4_counts : GoodIn wsX4_waiting wsX4_counts := goodIn_r _ [18, 19, 20, 21, 22, 23, 24, 25, 26, 27, 28, 29, 30, 31, 32, 33, 34, 35, 36, 37, 38, 39, 40, 41, 42, 43, 44, 45, 46] (by decide +kernel) (by decide +kernel)
set_option maxRecDepth 20000 in
theorem gX4_waiting_X4_counts : GoodIn wsX4_waiting (wsV RX4 116 RX4 yX4_counts wsX4_counts) := goodIn_app (goodIn_of _ (by decide +kernel)) ggX4_waiting_X4_counts
theorem dX4_waiting_0 : decode cX4_waiting 0 = .ok (.aload_n 0, 1) := by decide +kernel
theorem dX4_waiting_1 : decode cX4_waiting 1 = .ok (.iconst 0, 1) := by decide +kernel
theorem dX4_waiting_2 : decode cX4_waiting 2 = .ok (.putfield 69, 3) := by decide +kernel
theorem dX4_waiting_5 : decode cX4_waiting 5 = .ok (.iconst (-1), 1) := by decide +kernel
theorem dX4_waiting_6 : decode cX4_waiting 6 = .ok (.istore_n 1, 1) := by decide +kernel
theorem dX4_waiting_7 : decode cX4_waiting 7 = .ok (.iconst 0, 1) := by decide +kernel
theorem dX4_waiting_8 : decode cX4_waiting 8 = .ok (.istore_n 2, 1) := by decide +kernel
theorem dX4_waiting_9 : decode cX4_waiting 9 = .ok (.iload_n 2, 1) := by decide +kernel
theorem dX4_waiting_10 : decode cX4_waiting 10 = .ok (.aload_n 0, 1) := by decide +kernel
theorem dX4_waiting_11 : decode cX4_waiting 11 = .ok (.getfield 76, 3) := by decide +kernel
theorem dX4_waiting_14 : decode cX4_waiting 14 = .ok (.if_icmp .ge 129, 3) := by decide +kernel
theorem dX4_waiting_17 : decode cX4_waiting 17 = .ok (.aload_n 0, 1) := by decide +kernel
theorem dX4_waiting_18 : decode cX4_waiting 18 = .ok (.getfield 44, 3) := by decide +kernel
theorem dX4_waiting_21 : decode cX4_waiting 21 = .ok (.iload_n 2, 1) := by decide +kernel
theorem dX4_waiting_22 : decode cX4_waiting 22 = .ok (.iaload, 1) := by decide +kernel
theorem dX4_waiting_23 : decode cX4_waiting 23 = .ok (.aload_n 0, 1) := by decide +kernel
theorem dX4_waiting_24 : decode cX4_waiting 24 = .ok (.getfield 19, 3) := by decide +kernel
theorem dX4_waiting_27 : decode cX4_waiting 27 = .ok (.aload_n 0, 1) := by decide +kernel
theorem dX4_waiting_28 : decode cX4_waiting 28 = .ok (.getfield 38, 3) := by decide +kernel
theorem dX4_waiting_31 : decode cX4_waiting 31 = .ok (.iload_n 2, 1) := by decide +kernel
theorem dX4_waiting_32 : decode cX4_waiting 32 = .ok (.iaload, 1) := by decide +kernel
theorem dX4_waiting_33 : decode cX4_waiting 33 = .ok (.iaload, 1) := by decide +kernel
theorem dX4_waiting_34 : decode cX4_waiting 34 = .ok (.if_icmp .le 12, 3) := by decide +kernel
theorem dX4_waiting_37 : decode cX4_waiting 37 = .ok (.aload_n 0, 1) := by decide +kernel
theorem dX4_waiting_38 : decode cX4_waiting 38 = .ok (.getfield 44, 3) := by decide +kernel
theorem dX4_waiting_41 : decode cX4_waiting 41 = .ok (.iload_n 2, 1) := by decide +kernel
theorem dX4_waiting_42 : decode cX4_waiting 42 = .ok (.iaload, 1) := by decide +kernel
theorem dX4_waiting_43 : decode cX4_waiting 43 = .ok (.goto 14, 3) := by decide +kernel
theorem dX4_waiting_46 : decode cX4_waiting 46 = .ok (.aload_n 0, 1) := by decide +kernel
theorem dX4_waiting_47 : decode cX4_waiting 47 = .ok (.getfield 19, 3) := by decide +kernel
theorem dX4_waiting_50 : decode cX4_waiting 50 = .ok (.aload_n 0, 1) := by decide +kernel
theorem dX4_waiting_51 : decode cX4_waiting 51 = .ok (.getfield 38, 3) := by decide +kernel
end
section
theorem dX4_waiting_54 : decode cX4_waiting 54 = .ok (.iload_n 2, 1) := by decide +kernel
theorem dX4_waiting_55 : decode cX4_waiting 55 = .ok (.iaload, 1) := by decide +kernel
theorem dX4_waiting_56 : decode cX4_waiting 56 = .ok (.iaload, 1) := by decide +kernel
theorem dX4_waiting_57 : decode cX4_waiting 57 = .ok (.istore_n 3, 1) := by decide +kernel
theorem dX4_waiting_58 : decode cX4_waiting 58 = .ok (.iload_n 3, 1) := by decide +kernel
theorem dX4_waiting_59 : decode cX4_waiting 59 = .ok (.aload_n 0, 1) := by decide +kernel
theorem dX4_waiting_60 : decode cX4_waiting 60 = .ok (.getfield 110, 3) := by decide +kernel
theorem dX4_waiting_63 : decode cX4_waiting 63 = .ok (.if_icmp .le 7, 3) := by decide +kernel
theorem dX4_waiting_66 : decode cX4_waiting 66 = .ok (.iload_n 3, 1) := by decide +kernel
theorem dX4_waiting_67 : decode cX4_waiting 67 = .ok (.goto 7, 3) := by decide +kernel
theorem dX4_waiting_70 : decode cX4_waiting 70 = .ok (.aload_n 0, 1) := by decide +kernel
theorem dX4_waiting_71 : decode cX4_waiting 71 = .ok (.getfield 110, 3) := by decide +kernel
theorem dX4_waiting_74 : decode cX4_waiting 74 = .ok (.istore_n 3, 1) := by decide +kernel
theorem dX4_waiting_75 : decode cX4_waiting 75 = .ok (.iload_n 3, 1) := by decide +kernel
theorem dX4_waiting_76 : decode cX4_waiting 76 = .ok (.bipush 100, 2) := by decide +kernel
theorem dX4_waiting_78 : decode cX4_waiting 78 = .ok (.idiv, 1) := by decide +kernel
theorem dX4_waiting_79 : decode cX4_waiting 79 = .ok (.aload_n 0, 1) := by decide +kernel
theorem dX4_waiting_80 : decode cX4_waiting 80 = .ok (.getfield 110, 3) := by decide +kernel
theorem dX4_waiting_83 : decode cX4_waiting 83 = .ok (.bipush 100, 2) := by decide +kernel
theorem dX4_waiting_85 : decode cX4_waiting 85 = .ok (.idiv, 1) := by decide +kernel
theorem dX4_waiting_86 : decode cX4_waiting 86 = .ok (.if_icmp .ne 25, 3) := by decide +kernel
theorem dX4_waiting_89 : decode cX4_waiting 89 = .ok (.aload_n 0, 1) := by decide +kernel
theorem dX4_waiting_90 : decode cX4_waiting 90 = .ok (.invokevirtual 125, 3) := by decide +kernel
theorem dX4_waiting_93 : decode cX4_waiting 93 = .ok (.ifCond .ne 18, 3) := by decide +kernel
theorem dX4_waiting_96 : decode cX4_waiting 96 = .ok (.bipush 100, 2) := by decide +kernel
theorem dX4_waiting_98 : decode cX4_waiting 98 = .ok (.aload_n 0, 1) := by decide +kernel
theorem dX4_waiting_99 : decode cX4_waiting 99 = .ok (.getfield 110, 3) := by decide +kernel
theorem dX4_waiting_102 : decode cX4_waiting 102 = .ok (.bipush 100, 2) := by decide +kernel
theorem dX4_waiting_104 : decode cX4_waiting 104 = .ok (.idiv, 1) := by decide +kernel
theorem dX4_waiting_105 : decode cX4_waiting 105 = .ok (.iconst 1, 1) := by decide +kernel
theorem dX4_waiting_106 : decode cX4_waiting 106 = .ok (.iadd, 1) := by decide +kernel
theorem dX4_waiting_107 : decode cX4_waiting 107 = .ok (.imul, 1) := by decide +kernel
theorem dX4_waiting_108 : decode cX4_waiting 108 = .ok (.goto 4, 3) := by decide +kernel
theorem dX4_waiting_111 : decode cX4_waiting 111 = .ok (.iload_n 3, 1) := by decide +kernel
theorem dX4_waiting_112 : decode cX4_waiting 112 = .ok (.istore_n 3, 1) := by decide +kernel
theorem dX4_waiting_113 : decode cX4_waiting 113 = .ok (.aload_n 0, 1) := by decide +kernel
theorem dX4_waiting_114 : decode cX4_waiting 114 = .ok (.iload_n 2, 1) := by decide +kernel
theorem dX4_waiting_115 : decode cX4_waiting 115 = .ok (.invokevirtual 116, 3) := by decide +kernel
theorem dX4_waiting_118 : decode cX4_waiting 118 = .ok (.ifCond .eq 17, 3) := by decide +kernel
theorem dX4_waiting_121 : decode cX4_waiting 121 = .ok (.iload_n 1, 1) := by decide +kernel
theorem dX4_waiting_122 : decode cX4_waiting 122 = .ok (.iconst (-1), 1) := by decide +kernel
theorem dX4_waiting_123 : decode cX4_waiting 123 = .ok (.if_icmp .eq 8, 3) := by decide +kernel
theorem dX4_waiting_126 : decode cX4_waiting 126 = .ok (.iload_n 3, 1) := by decide +kernel
theorem dX4_waiting_127 : decode cX4_waiting 127 = .ok (.iload_n 1, 1) := by decide +kernel
theorem dX4_waiting_128 : decode cX4_waiting 128 = .ok (.if_icmp .ge 7, 3) := by decide +kernel
theorem dX4_waiting_131 : decode cX4_waiting 131 = .ok (.iload_n 3, 1) := by decide +kernel
theorem dX4_waiting_132 : decode cX4_waiting 132 = .ok (.goto 4, 3) := by decide +kernel
theorem dX4_waiting_135 : decode cX4_waiting 135 = .ok (.iload_n 1, 1) := by decide +kernel
theorem dX4_waiting_136 : decode cX4_waiting 136 = .ok (.istore_n 1, 1) := by decide +kernel
theorem dX4_waiting_137 : decode cX4_waiting 137 = .ok (.iinc 2 1, 3) := by decide +kernel
theorem dX4_waiting_140 : decode cX4_waiting 140 = .ok (.goto (-131), 3) := by decide +kernel
theorem dX4_waiting_143 : decode cX4_waiting 143 = .ok (.iload_n 1, 1) := by decide +kernel
theorem dX4_waiting_144 : decode cX4_waiting 144 = .ok (.iconst (-1), 1) := by decide +kernel
theorem dX4_waiting_145 : decode cX4_waiting 145 = .ok (.if_icmp .ne 7, 3) := by decide +kernel
theorem dX4_waiting_148 : decode cX4_waiting 148 = .ok (.iconst (-1), 1) := by decide +kernel
theorem dX4_waiting_149 : decode cX4_waiting 149 = .ok (.goto 9, 3) := by decide +kernel
theorem dX4_waiting_152 : decode cX4_waiting 152 = .ok (.iload_n 1, 1) := by decide +kernel
theorem dX4_waiting_153 : decode cX4_waiting 153 = .ok (.aload_n 0, 1) := by decide +kernel
theorem dX4_waiting_154 : decode cX4_waiting 154 = .ok (.getfield 110, 3) := by decide +kernel
theorem dX4_waiting_157 : decode cX4_waiting 157 = .ok (.isub, 1) := by decide +kernel
theorem dX4_waiting_158 : decode cX4_waiting 158 = .ok (.ireturn, 1) := by decide +kernel
theorem dX4_addsMore_0 : decode cX4_addsMore 0 = .ok (.aload_n 0, 1) := by decide +kernel
theorem dX4_addsMore_1 : decode cX4_addsMore 1 = .ok (.getfield 41, 3) := by decide +kernel
theorem dX4_addsMore_4 : decode cX4_addsMore 4 = .ok (.iload_n 1, 1) := by decide +kernel
theorem dX4_addsMore_5 : decode cX4_addsMore 5 = .ok (.iaload, 1) := by decide +kernel
theorem dX4_addsMore_6 : decode cX4_addsMore 6 = .ok (.i2l, 1) := by decide +kernel
theorem dX4_addsMore_7 : decode cX4_addsMore 7 = .ok (.lconst 1, 1) := by decide +kernel
theorem dX4_addsMore_8 : decode cX4_addsMore 8 = .ok (.ladd, 1) := by decide +kernel
theorem dX4_addsMore_9 : decode cX4_addsMore 9 = .ok (.aload_n 0, 1) := by decide +kernel
theorem dX4_addsMore_10 : decode cX4_addsMore 10 = .ok (.getfield 50, 3) := by decide +kernel
theorem dX4_addsMore_13 : decode cX4_addsMore 13 = .ok (.iload_n 1, 1) := by decide +kernel
theorem dX4_addsMore_14 : decode cX4_addsMore 14 = .ok (.iaload, 1) := by decide +kernel
theorem dX4_addsMore_15 : decode cX4_addsMore 15 = .ok (.i2l, 1) := by decide +kernel
theorem dX4_addsMore_16 : decode cX4_addsMore 16 = .ok (.lconst 1, 1) := by decide +kernel
theorem dX4_addsMore_17 : decode cX4_addsMore 17 = .ok (.ladd, 1) := by decide +kernel
theorem dX4_addsMore_18 : decode cX4_addsMore 18 = .ok (.lmul, 1) := by decide +kernel
theorem dX4_addsMore_19 : decode cX4_addsMore 19 = .ok (.lstore_n 3, 1) := by decide +kernel
theorem dX4_addsMore_20 : decode cX4_addsMore 20 = .ok (.aload_n 0, 1) := by decide +kernel
theorem dX4_addsMore_21 : decode cX4_addsMore 21 = .ok (.getfield 41, 3) := by decide +kernel
theorem dX4_addsMore_24 : decode cX4_addsMore 24 = .ok (.iload_n 2, 1) := by decide +kernel
theorem dX4_addsMore_25 : decode cX4_addsMore 25 = .ok (.iaload, 1) := by decide +kernel
theorem dX4_addsMore_26 : decode cX4_addsMore 26 = .ok (.i2l, 1) := by decide +kernel
theorem dX4_addsMore_27 : decode cX4_addsMore 27 = .ok (.lconst 1, 1) := by decide +kernel
theorem dX4_addsMore_28 : decode cX4_addsMore 28 = .ok (.ladd, 1) := by decide +kernel
theorem dX4_addsMore_29 : decode cX4_addsMore 29 = .ok (.aload_n 0, 1) := by decide +kernel
theorem dX4_addsMore_30 : decode cX4_addsMore 30 = .ok (.getfield 50, 3) := by decide +kernel
theorem dX4_addsMore_33 : decode cX4_addsMore 33 = .ok (.iload_n 2, 1) := by decide +kernel
theorem dX4_addsMore_34 : decode cX4_addsMore 34 = .ok (.iaload, 1) := by decide +kernel
theorem dX4_addsMore_35 : decode cX4_addsMore 35 = .ok (.i2l, 1) := by decide +kernel
theorem dX4_addsMore_36 : decode cX4_addsMore 36 = .ok (.lconst 1, 1) := by decide +kernel
theorem dX4_addsMore_37 : decode cX4_addsMore 37 = .ok (.ladd, 1) := by decide +kernel
theorem dX4_addsMore_38 : decode cX4_addsMore 38 = .ok (.lmul, 1) := by decide +kernel
theorem dX4_addsMore_39 : decode cX4_addsMore 39 = .ok (.lstore 5, 2) := by decide +kernel
theorem dX4_addsMore_41 : decode cX4_addsMore 41 = .ok (.aload_n 0, 1) := by decide +kernel
theorem dX4_addsMore_42 : decode cX4_addsMore 42 = .ok (.getfield 66, 3) := by decide +kernel
theorem dX4_addsMore_45 : decode cX4_addsMore 45 = .ok (.iload_n 1, 1) := by decide +kernel
theorem dX4_addsMore_46 : decode cX4_addsMore 46 = .ok (.iaload, 1) := by decide +kernel
theorem dX4_addsMore_47 : decode cX4_addsMore 47 = .ok (.aload_n 0, 1) := by decide +kernel
theorem dX4_addsMore_48 : decode cX4_addsMore 48 = .ok (.getfield 50, 3) := by decide +kernel
theorem dX4_addsMore_51 : decode cX4_addsMore 51 = .ok (.iload_n 1, 1) := by decide +kernel
theorem dX4_addsMore_52 : decode cX4_addsMore 52 = .ok (.iaload, 1) := by decide +kernel
theorem dX4_addsMore_53 : decode cX4_addsMore 53 = .ok (.iadd, 1) := by decide +kernel
theorem dX4_addsMore_54 : decode cX4_addsMore 54 = .ok (.i2l, 1) := by decide +kernel
theorem dX4_addsMore_55 : decode cX4_addsMore 55 = .ok (.lconst 1, 1) := by decide +kernel
theorem dX4_addsMore_56 : decode cX4_addsMore 56 = .ok (.ladd, 1) := by decide +kernel
theorem dX4_addsMore_57 : decode cX4_addsMore 57 = .ok (.aload_n 0, 1) := by decide +kernel
theorem dX4_addsMore_58 : decode cX4_addsMore 58 = .ok (.getfield 66, 3) := by decide +kernel
theorem dX4_addsMore_61 : decode cX4_addsMore 61 = .ok (.iload_n 1, 1) := by decide +kernel
theorem dX4_addsMore_62 : decode cX4_addsMore 62 = .ok (.iaload, 1) := by decide +kernel
theorem dX4_addsMore_63 : decode cX4_addsMore 63 = .ok (.aload_n 0, 1) := by decide +kernel
theorem dX4_addsMore_64 : decode cX4_addsMore 64 = .ok (.getfield 50, 3) := by decide +kernel
theorem dX4_addsMore_67 : decode cX4_addsMore 67 = .ok (.iload_n 1, 1) := by decide +kernel
theorem dX4_addsMore_68 : decode cX4_addsMore 68 = .ok (.iaload, 1) := by decide +kernel
theorem dX4_addsMore_69 : decode cX4_addsMore 69 = .ok (.iadd, 1) := by decide +kernel
theorem dX4_addsMore_70 : decode cX4_addsMore 70 = .ok (.i2l, 1) := by decide +kernel
theorem dX4_addsMore_71 : decode cX4_addsMore 71 = .ok (.ldc2_w 136, 3) := by decide +kernel
theorem dX4_addsMore_74 : decode cX4_addsMore 74 = .ok (.ladd, 1) := by decide +kernel
theorem dX4_addsMore_75 : decode cX4_addsMore 75 = .ok (.lmul, 1) := by decide +kernel
theorem dX4_addsMore_76 : decode cX4_addsMore 76 = .ok (.lstore 7, 2) := by decide +kernel
theorem dX4_addsMore_78 : decode cX4_addsMore 78 = .ok (.aload_n 0, 1) := by decide +kernel
theorem dX4_addsMore_79 : decode cX4_addsMore 79 = .ok (.getfield 66, 3) := by decide +kernel
theorem dX4_addsMore_82 : decode cX4_addsMore 82 = .ok (.iload_n 2, 1) := by decide +kernel
theorem dX4_addsMore_83 : decode cX4_addsMore 83 = .ok (.iaload, 1) := by decide +kernel
theorem dX4_addsMore_84 : decode cX4_addsMore 84 = .ok (.aload_n 0, 1) := by decide +kernel
theorem dX4_addsMore_85 : decode cX4_addsMore 85 = .ok (.getfield 50, 3) := by decide +kernel
theorem dX4_addsMore_88 : decode cX4_addsMore 88 = .ok (.iload_n 2, 1) := by decide +kernel
theorem dX4_addsMore_89 : decode cX4_addsMore 89 = .ok (.iaload, 1) := by decide +kernel
theorem dX4_addsMore_90 : decode cX4_addsMore 90 = .ok (.iadd, 1) := by decide +kernel
theorem dX4_addsMore_91 : decode cX4_addsMore 91 = .ok (.i2l, 1) := by decide +kernel
theorem dX4_addsMore_92 : decode cX4_addsMore 92 = .ok (.lconst 1, 1) := by decide +kernel
theorem dX4_addsMore_93 : decode cX4_addsMore 93 = .ok (.ladd, 1) := by decide +kernel
theorem dX4_addsMore_94 : decode cX4_addsMore 94 = .ok (.aload_n 0, 1) := by decide +kernel
theorem dX4_addsMore_95 : decode cX4_addsMore 95 = .ok (.getfield 66, 3) := by decide +kernel
theorem dX4_addsMore_98 : decode cX4_addsMore 98 = .ok (.iload_n 2, 1) := by decide +kernel
theorem dX4_addsMore_99 : decode cX4_addsMore 99 = .ok (.iaload, 1) := by decide +kernel
theorem dX4_addsMore_100 : decode cX4_addsMore 100 = .ok (.aload_n 0, 1) := by decide +kernel
theorem dX4_addsMore_101 : decode cX4_addsMore 101 = .ok (.getfield 50, 3) := by decide +kernel
theorem dX4_addsMore_104 : decode cX4_addsMore 104 = .ok (.iload_n 2, 1) := by decide +kernel
theorem dX4_addsMore_105 : decode cX4_addsMore 105 = .ok (.iaload, 1) := by decide +kernel
theorem dX4_addsMore_106 : decode cX4_addsMore 106 = .ok (.iadd, 1) := by decide +kernel
theorem dX4_addsMore_107 : decode cX4_addsMore 107 = .ok (.i2l, 1) := by decide +kernel
theorem dX4_addsMore_108 : decode cX4_addsMore 108 = .ok (.ldc2_w 136, 3) := by decide +kernel
theorem dX4_addsMore_111 : decode cX4_addsMore 111 = .ok (.ladd, 1) := by decide +kernel
theorem dX4_addsMore_112 : decode cX4_addsMore 112 = .ok (.lmul, 1) := by decide +kernel
theorem dX4_addsMore_113 : decode cX4_addsMore 113 = .ok (.lstore 9, 2) := by decide +kernel
theorem dX4_addsMore_115 : decode cX4_addsMore 115 = .ok (.lload_n 3, 1) := by decide +kernel
theorem dX4_addsMore_116 : decode cX4_addsMore 116 = .ok (.lload 9, 2) := by decide +kernel
theorem dX4_addsMore_118 : decode cX4_addsMore 118 = .ok (.lmul, 1) := by decide +kernel
theorem dX4_addsMore_119 : decode cX4_addsMore 119 = .ok (.lload 5, 2) := by decide +kernel
theorem dX4_addsMore_121 : decode cX4_addsMore 121 = .ok (.lload 7, 2) := by decide +kernel
theorem dX4_addsMore_123 : decode cX4_addsMore 123 = .ok (.lmul, 1) := by decide +kernel
theorem dX4_addsMore_124 : decode cX4_addsMore 124 = .ok (.lcmp, 1) := by decide +kernel
theorem dX4_addsMore_125 : decode cX4_addsMore 125 = .ok (.ifCond .le 7, 3) := by decide +kernel
theorem dX4_addsMore_128 : decode cX4_addsMore 128 = .ok (.iconst 1, 1) := by decide +kernel
theorem dX4_addsMore_129 : decode cX4_addsMore 129 = .ok (.goto 4, 3) := by decide +kernel
theorem dX4_addsMore_132 : decode cX4_addsMore 132 = .ok (.iconst 0, 1) := by decide +kernel
theorem dX4_addsMore_133 : decode cX4_addsMore 133 = .ok (.ireturn, 1) := by decide +kernel
set_option maxRecDepth 20000 in
theorem ggX4_share_X4_isPage : GoodIn wsX4_share wsX4_isPage := goodIn_r _ [8, 2, 9, 10, 7, 11, 29, 30, 31, 32, 33, 34, 35, 36, 37, 38, 39, 40, 41, 42, 43, 44, 45, 46, 47, 48, 49, 50, 51, 52, 53, 54] (by decide +kernel) (by decide +kernel)
set_option maxRecDepth 20000 in
theorem gX4_share_X4_isPage : GoodIn wsX4_share (wsV RX4 79 RX4 yX4_isPage wsX4_isPage) := goodIn_app (goodIn_of _ (by decide +kernel)) ggX4_share_X4_isPage
set_option maxRecDepth 20000 in
theorem ggX4_share_X4_fails : GoodIn wsX4_share wsX4_fails := goodIn_r _ [15, 1, 29, 30, 31, 32, 33, 34, 35, 36, 37, 38, 39, 40, 41, 42, 43, 44, 45, 46, 47, 48, 49, 50, 51, 52, 53, 54] (by decide +kernel) (by decide +kernel)
set_option maxRecDepth 20000 in
theorem gX4_share_X4_fails : GoodIn wsX4_share (wsV RX4 96 RX4 yX4_fails wsX4_fails) := goodIn_app (goodIn_of _ (by decide +kernel)) ggX4_share_X4_fails
set_option maxRecDepth 20000 in
theorem ggX4_share_X4_in : GoodIn wsX4_share wsX4_in := goodIn_r _ [11] (by decide +kernel) (by decide +kernel)
set_option maxRecDepth 20000 in
theorem gX4_share_X4_in : GoodIn wsX4_share (va_wsS RX4 72 yX4_in wsX4_in) := goodIn_app (goodIn_of _ (by decide +kernel)) ggX4_share_X4_in
set_option maxRecDepth 20000 in
theorem ggX4_share_X4_counts : GoodIn wsX4_share wsX4_counts := goodIn_r _ [19, 20, 21, 29, 30, 31, 32, 33, 34, 35, 36, 37, 38, 39, 40, 41, 42, 43, 44, 45, 46, 47, 48, 49, 50, 51, 52, 53, 54] (by decide +kernel) (by decide +kernel)
set_option maxRecDepth 20000 in
theorem gX4_share_X4_counts : GoodIn wsX4_share (wsV RX4 116 RX4 yX4_counts wsX4_counts) := goodIn_app (goodIn_of _ (by decide +kernel)) ggX4_share_X4_counts
set_option maxRecDepth 20000 in
theorem ggX4_share_X4_addsMore : GoodIn wsX4_share wsX4_addsMore := goodIn_r _ [25, 26, 27, 3, 28, 29, 30, 31, 32, 33, 34, 35, 36, 37, 38, 39, 40, 41, 42, 43, 44, 45, 46, 47, 48, 49, 50, 51, 52, 53, 54] (by decide +kernel) (by decide +kernel)
set_option maxRecDepth 20000 in
theorem gX4_share_X4_addsMore : GoodIn wsX4_share (wsV RX4 138 RX4 yX4_addsMore wsX4_addsMore) := goodIn_app (goodIn_of _ (by decide +kernel)) ggX4_share_X4_addsMore
theorem dX4_share_0 : decode cX4_share 0 = .ok (.aload_n 0, 1) := by decide +kernel
theorem dX4_share_1 : decode cX4_share 1 = .ok (.iconst 0, 1) := by decide +kernel
theorem dX4_share_2 : decode cX4_share 2 = .ok (.putfield 69, 3) := by decide +kernel
theorem dX4_share_5 : decode cX4_share 5 = .ok (.aload_n 0, 1) := by decide +kernel
theorem dX4_share_6 : decode cX4_share 6 = .ok (.iload_n 1, 1) := by decide +kernel
theorem dX4_share_7 : decode cX4_share 7 = .ok (.invokevirtual 79, 3) := by decide +kernel
theorem dX4_share_10 : decode cX4_share 10 = .ok (.ifCond .ne 9, 3) := by decide +kernel
theorem dX4_share_13 : decode cX4_share 13 = .ok (.aload_n 0, 1) := by decide +kernel
theorem dX4_share_14 : decode cX4_share 14 = .ok (.iconst 1, 1) := by decide +kernel
theorem dX4_share_15 : decode cX4_share 15 = .ok (.invokevirtual 96, 3) := by decide +kernel
theorem dX4_share_18 : decode cX4_share 18 = .ok (.ireturn, 1) := by decide +kernel
theorem dX4_share_19 : decode cX4_share 19 = .ok (.iload_n 2, 1) := by decide +kernel
theorem dX4_share_20 : decode cX4_share 20 = .ok (.iconst 0, 1) := by decide +kernel
theorem dX4_share_21 : decode cX4_share 21 = .ok (.bipush 100, 2) := by decide +kernel
theorem dX4_share_23 : decode cX4_share 23 = .ok (.invokestatic 72, 3) := by decide +kernel
theorem dX4_share_26 : decode cX4_share 26 = .ok (.ifCond .ne 9, 3) := by decide +kernel
theorem dX4_share_29 : decode cX4_share 29 = .ok (.aload_n 0, 1) := by decide +kernel
theorem dX4_share_30 : decode cX4_share 30 = .ok (.iconst 2, 1) := by decide +kernel
theorem dX4_share_31 : decode cX4_share 31 = .ok (.invokevirtual 96, 3) := by decide +kernel
theorem dX4_share_34 : decode cX4_share 34 = .ok (.ireturn, 1) := by decide +kernel
theorem dX4_share_35 : decode cX4_share 35 = .ok (.iconst 0, 1) := by decide +kernel
theorem dX4_share_36 : decode cX4_share 36 = .ok (.istore_n 3, 1) := by decide +kernel
theorem dX4_share_37 : decode cX4_share 37 = .ok (.iload_n 3, 1) := by decide +kernel
theorem dX4_share_38 : decode cX4_share 38 = .ok (.aload_n 0, 1) := by decide +kernel
theorem dX4_share_39 : decode cX4_share 39 = .ok (.getfield 76, 3) := by decide +kernel
theorem dX4_share_42 : decode cX4_share 42 = .ok (.if_icmp .ge 16, 3) := by decide +kernel
theorem dX4_share_45 : decode cX4_share 45 = .ok (.aload_n 0, 1) := by decide +kernel
theorem dX4_share_46 : decode cX4_share 46 = .ok (.getfield 66, 3) := by decide +kernel
theorem dX4_share_49 : decode cX4_share 49 = .ok (.iload_n 3, 1) := by decide +kernel
theorem dX4_share_50 : decode cX4_share 50 = .ok (.iconst 0, 1) := by decide +kernel
theorem dX4_share_51 : decode cX4_share 51 = .ok (.iastore, 1) := by decide +kernel
theorem dX4_share_52 : decode cX4_share 52 = .ok (.iinc 3 1, 3) := by decide +kernel
theorem dX4_share_55 : decode cX4_share 55 = .ok (.goto (-18), 3) := by decide +kernel
theorem dX4_share_58 : decode cX4_share 58 = .ok (.iconst 0, 1) := by decide +kernel
theorem dX4_share_59 : decode cX4_share 59 = .ok (.istore_n 3, 1) := by decide +kernel
theorem dX4_share_60 : decode cX4_share 60 = .ok (.iload_n 3, 1) := by decide +kernel
theorem dX4_share_61 : decode cX4_share 61 = .ok (.iload_n 2, 1) := by decide +kernel
theorem dX4_share_62 : decode cX4_share 62 = .ok (.if_icmp .ge 82, 3) := by decide +kernel
theorem dX4_share_65 : decode cX4_share 65 = .ok (.iconst (-1), 1) := by decide +kernel
theorem dX4_share_66 : decode cX4_share 66 = .ok (.istore 4, 2) := by decide +kernel
theorem dX4_share_68 : decode cX4_share 68 = .ok (.iconst 0, 1) := by decide +kernel
theorem dX4_share_69 : decode cX4_share 69 = .ok (.istore 5, 2) := by decide +kernel
theorem dX4_share_71 : decode cX4_share 71 = .ok (.iload 5, 2) := by decide +kernel
theorem dX4_share_73 : decode cX4_share 73 = .ok (.aload_n 0, 1) := by decide +kernel
theorem dX4_share_74 : decode cX4_share 74 = .ok (.getfield 76, 3) := by decide +kernel
theorem dX4_share_77 : decode cX4_share 77 = .ok (.if_icmp .ge 44, 3) := by decide +kernel
theorem dX4_share_80 : decode cX4_share 80 = .ok (.aload_n 0, 1) := by decide +kernel
theorem dX4_share_81 : decode cX4_share 81 = .ok (.iload 5, 2) := by decide +kernel
theorem dX4_share_83 : decode cX4_share 83 = .ok (.invokevirtual 116, 3) := by decide +kernel
theorem dX4_share_86 : decode cX4_share 86 = .ok (.ifCond .eq 25, 3) := by decide +kernel
theorem dX4_share_89 : decode cX4_share 89 = .ok (.iload 4, 2) := by decide +kernel
theorem dX4_share_91 : decode cX4_share 91 = .ok (.iconst (-1), 1) := by decide +kernel
theorem dX4_share_92 : decode cX4_share 92 = .ok (.if_icmp .eq 14, 3) := by decide +kernel
theorem dX4_share_95 : decode cX4_share 95 = .ok (.aload_n 0, 1) := by decide +kernel
theorem dX4_share_96 : decode cX4_share 96 = .ok (.iload 5, 2) := by decide +kernel
theorem dX4_share_98 : decode cX4_share 98 = .ok (.iload 4, 2) := by decide +kernel
theorem dX4_share_100 : decode cX4_share 100 = .ok (.invokevirtual 138, 3) := by decide +kernel
theorem dX4_share_103 : decode cX4_share 103 = .ok (.ifCond .eq 8, 3) := by decide +kernel
theorem dX4_share_106 : decode cX4_share 106 = .ok (.iload 5, 2) := by decide +kernel
theorem dX4_share_108 : decode cX4_share 108 = .ok (.goto 5, 3) := by decide +kernel
theorem dX4_share_111 : decode cX4_share 111 = .ok (.iload 4, 2) := by decide +kernel
theorem dX4_share_113 : decode cX4_share 113 = .ok (.istore 4, 2) := by decide +kernel
theorem dX4_share_115 : decode cX4_share 115 = .ok (.iinc 5 1, 3) := by decide +kernel
theorem dX4_share_118 : decode cX4_share 118 = .ok (.goto (-47), 3) := by decide +kernel
theorem dX4_share_121 : decode cX4_share 121 = .ok (.iload 4, 2) := by decide +kernel
theorem dX4_share_123 : decode cX4_share 123 = .ok (.iconst (-1), 1) := by decide +kernel
theorem dX4_share_124 : decode cX4_share 124 = .ok (.if_icmp .eq 14, 3) := by decide +kernel
theorem dX4_share_127 : decode cX4_share 127 = .ok (.aload_n 0, 1) := by decide +kernel
theorem dX4_share_128 : decode cX4_share 128 = .ok (.getfield 66, 3) := by decide +kernel
theorem dX4_share_131 : decode cX4_share 131 = .ok (.iload 4, 2) := by decide +kernel
theorem dX4_share_133 : decode cX4_share 133 = .ok (.dup2, 1) := by decide +kernel
theorem dX4_share_134 : decode cX4_share 134 = .ok (.iaload, 1) := by decide +kernel
theorem dX4_share_135 : decode cX4_share 135 = .ok (.iconst 1, 1) := by decide +kernel
theorem dX4_share_136 : decode cX4_share 136 = .ok (.iadd, 1) := by decide +kernel
theorem dX4_share_137 : decode cX4_share 137 = .ok (.iastore, 1) := by decide +kernel
theorem dX4_share_138 : decode cX4_share 138 = .ok (.iinc 3 1, 3) := by decide +kernel
theorem dX4_share_141 : decode cX4_share 141 = .ok (.goto (-81), 3) := by decide +kernel
theorem dX4_share_144 : decode cX4_share 144 = .ok (.aload_n 0, 1) := by decide +kernel
theorem dX4_share_145 : decode cX4_share 145 = .ok (.getfield 66, 3) := by decide +kernel
theorem dX4_share_148 : decode cX4_share 148 = .ok (.iload_n 1, 1) := by decide +kernel
theorem dX4_share_149 : decode cX4_share 149 = .ok (.iaload, 1) := by decide +kernel
theorem dX4_share_150 : decode cX4_share 150 = .ok (.ireturn, 1) := by decide +kernel
theorem dJ9_max_7cf53_0 : decode cJ9_max_7cf53 0 = .ok (.iload_n 0, 1) := by decide +kernel
theorem dJ9_max_7cf53_1 : decode cJ9_max_7cf53 1 = .ok (.iload_n 1, 1) := by decide +kernel
theorem dJ9_max_7cf53_2 : decode cJ9_max_7cf53 2 = .ok (.if_icmp .lt 7, 3) := by decide +kernel
theorem dJ9_max_7cf53_5 : decode cJ9_max_7cf53 5 = .ok (.iload_n 0, 1) := by decide +kernel
theorem dJ9_max_7cf53_6 : decode cJ9_max_7cf53 6 = .ok (.goto 4, 3) := by decide +kernel
theorem dJ9_max_7cf53_9 : decode cJ9_max_7cf53 9 = .ok (.iload_n 1, 1) := by decide +kernel
theorem dJ9_max_7cf53_10 : decode cJ9_max_7cf53 10 = .ok (.ireturn, 1) := by decide +kernel
theorem dJ9_min_7cf53_0 : decode cJ9_min_7cf53 0 = .ok (.iload_n 0, 1) := by decide +kernel
theorem dJ9_min_7cf53_1 : decode cJ9_min_7cf53 1 = .ok (.iload_n 1, 1) := by decide +kernel
theorem dJ9_min_7cf53_2 : decode cJ9_min_7cf53 2 = .ok (.if_icmp .gt 7, 3) := by decide +kernel
theorem dJ9_min_7cf53_5 : decode cJ9_min_7cf53 5 = .ok (.iload_n 0, 1) := by decide +kernel
theorem dJ9_min_7cf53_6 : decode cJ9_min_7cf53 6 = .ok (.goto 4, 3) := by decide +kernel
theorem dJ9_min_7cf53_9 : decode cJ9_min_7cf53 9 = .ok (.iload_n 1, 1) := by decide +kernel
theorem dJ9_min_7cf53_10 : decode cJ9_min_7cf53 10 = .ok (.ireturn, 1) := by decide +kernel
set_option maxRecDepth 20000 in
theorem ggL_type_X3_type : GoodIn wsL_type wsX3_type := goodIn_ca (goodIn_ca (goodIn_r _ [7, 8, 9, 10, 11, 12, 13, 14, 15, 16, 17, 18, 19, 20, 21, 22, 23, 24, 25, 26, 27, 28, 29, 30, 31, 32, 33, 34, 35, 36, 37, 38, 39, 40, 41, 42, 43, 44, 45, 46, 47] (by decide +kernel) (by decide +kernel)) (goodIn_sub (fun _ h => List.mem_cons_of_mem _ (List.mem_append_left _ (List.mem_append_right _ h))) (by decide +kernel))) (goodIn_sub (fun _ h => List.mem_cons_of_mem _ (List.mem_append_right _ h)) (by decide +kernel))
set_option maxRecDepth 20000 in
theorem gL_type_X3_type : GoodIn wsL_type (wsV RL 7 RX3 yX3_type wsX3_type) := goodIn_app (goodIn_of _ (by decide +kernel)) ggL_type_X3_type
theorem dL_type_0 : decode cL_type 0 = .ok (.aload_n 2, 1) := by decide +kernel
theorem dL_type_1 : decode cL_type 1 = .ok (.iconst 0, 1) := by decide +kernel
theorem dL_type_2 : decode cL_type 2 = .ok (.aload_n 0, 1) := by decide +kernel
theorem dL_type_3 : decode cL_type 3 = .ok (.iload_n 1, 1) := by decide +kernel
theorem dL_type_4 : decode cL_type 4 = .ok (.invokevirtual 7, 3) := by decide +kernel
theorem dL_type_7 : decode cL_type 7 = .ok (.i2l, 1) := by decide +kernel
theorem dL_type_8 : decode cL_type 8 = .ok (.lastore, 1) := by decide +kernel
theorem dL_type_9 : decode cL_type 9 = .ok (.goto 9, 3) := by decide +kernel
theorem dL_type_12 : decode cL_type 12 = .ok (.astore_n 3, 1) := by decide +kernel
theorem dL_type_13 : decode cL_type 13 = .ok (.iconst 1, 1) := by decide +kernel
theorem dL_type_14 : decode cL_type 14 = .ok (.ireturn, 1) := by decide +kernel
theorem dL_type_15 : decode cL_type 15 = .ok (.astore_n 3, 1) := by decide +kernel
theorem dL_type_16 : decode cL_type 16 = .ok (.iconst 2, 1) := by decide +kernel
theorem dL_type_17 : decode cL_type 17 = .ok (.ireturn, 1) := by decide +kernel
theorem dL_type_18 : decode cL_type 18 = .ok (.iconst 0, 1) := by decide +kernel
theorem dL_type_19 : decode cL_type 19 = .ok (.ireturn, 1) := by decide +kernel
set_option maxRecDepth 20000 in
theorem ggL_setRest_X3_setRest : GoodIn wsL_setRest wsX3_setRest := goodIn_ca (goodIn_ca (goodIn_r _ [7, 8, 9, 10, 11, 12, 13, 6, 14, 15, 16, 17, 18, 19, 20, 21, 22, 23, 24, 25, 26, 27, 28, 29] (by decide +kernel) (by decide +kernel)) (goodIn_sub (fun _ h => List.mem_cons_of_mem _ (List.mem_append_left _ (List.mem_append_right _ h))) (by decide +kernel))) (goodIn_sub (fun _ h => List.mem_cons_of_mem _ (List.mem_append_right _ h)) (by decide +kernel))
set_option maxRecDepth 20000 in
theorem gL_setRest_X3_setRest : GoodIn wsL_setRest (wsV RL 17 RX3 yX3_setRest wsX3_setRest) := goodIn_app (goodIn_of _ (by decide +kernel)) ggL_setRest_X3_setRest
theorem dL_setRest_0 : decode cL_setRest 0 = .ok (.aload_n 3, 1) := by decide +kernel
theorem dL_setRest_1 : decode cL_setRest 1 = .ok (.iconst 0, 1) := by decide +kernel
theorem dL_setRest_2 : decode cL_setRest 2 = .ok (.aload_n 0, 1) := by decide +kernel
theorem dL_setRest_3 : decode cL_setRest 3 = .ok (.iload_n 1, 1) := by decide +kernel
theorem dL_setRest_4 : decode cL_setRest 4 = .ok (.iload_n 2, 1) := by decide +kernel
theorem dL_setRest_5 : decode cL_setRest 5 = .ok (.invokevirtual 17, 3) := by decide +kernel
theorem dL_setRest_8 : decode cL_setRest 8 = .ok (.i2l, 1) := by decide +kernel
theorem dL_setRest_9 : decode cL_setRest 9 = .ok (.lastore, 1) := by decide +kernel
theorem dL_setRest_10 : decode cL_setRest 10 = .ok (.goto 11, 3) := by decide +kernel
theorem dL_setRest_13 : decode cL_setRest 13 = .ok (.astore 4, 2) := by decide +kernel
theorem dL_setRest_15 : decode cL_setRest 15 = .ok (.iconst 1, 1) := by decide +kernel
theorem dL_setRest_16 : decode cL_setRest 16 = .ok (.ireturn, 1) := by decide +kernel
theorem dL_setRest_17 : decode cL_setRest 17 = .ok (.astore 4, 2) := by decide +kernel
theorem dL_setRest_19 : decode cL_setRest 19 = .ok (.iconst 2, 1) := by decide +kernel
theorem dL_setRest_20 : decode cL_setRest 20 = .ok (.ireturn, 1) := by decide +kernel
theorem dL_setRest_21 : decode cL_setRest 21 = .ok (.iconst 0, 1) := by decide +kernel
theorem dL_setRest_22 : decode cL_setRest 22 = .ok (.ireturn, 1) := by decide +kernel
set_option maxRecDepth 20000 in
theorem ggL_setPaces_X3_setPaces : GoodIn wsL_setPaces wsX3_setPaces := goodIn_ca (goodIn_r _ [6, 7, 8, 9, 10, 11, 12, 13, 14, 15, 16, 17, 18, 19] (by decide +kernel) (by decide +kernel)) (goodIn_sub (fun _ h => List.mem_cons_of_mem _ (List.mem_append_right _ h)) (by decide +kernel))
set_option maxRecDepth 20000 in
theorem gL_setPaces_X3_setPaces : GoodIn wsL_setPaces (wsV RL 23 RX3 yX3_setPaces wsX3_setPaces) := goodIn_app (goodIn_of _ (by decide +kernel)) ggL_setPaces_X3_setPaces
theorem dL_setPaces_0 : decode cL_setPaces 0 = .ok (.aload_n 0, 1) := by decide +kernel
theorem dL_setPaces_1 : decode cL_setPaces 1 = .ok (.iload_n 1, 1) := by decide +kernel
theorem dL_setPaces_2 : decode cL_setPaces 2 = .ok (.iload_n 2, 1) := by decide +kernel
theorem dL_setPaces_3 : decode cL_setPaces 3 = .ok (.invokevirtual 23, 3) := by decide +kernel
theorem dL_setPaces_6 : decode cL_setPaces 6 = .ok (.goto 6, 3) := by decide +kernel
theorem dL_setPaces_9 : decode cL_setPaces 9 = .ok (.astore_n 3, 1) := by decide +kernel
theorem dL_setPaces_10 : decode cL_setPaces 10 = .ok (.iconst 1, 1) := by decide +kernel
theorem dL_setPaces_11 : decode cL_setPaces 11 = .ok (.ireturn, 1) := by decide +kernel
theorem dL_setPaces_12 : decode cL_setPaces 12 = .ok (.iconst 0, 1) := by decide +kernel
theorem dL_setPaces_13 : decode cL_setPaces 13 = .ok (.ireturn, 1) := by decide +kernel
set_option maxRecDepth 20000 in
theorem ggL_setBudget_X3_setBudget : GoodIn wsL_setBudget wsX3_setBudget := goodIn_ca (goodIn_r _ [6, 7, 8, 9, 10, 11, 12, 13, 14, 15, 16, 17, 18] (by decide +kernel) (by decide +kernel)) (goodIn_sub (fun _ h => List.mem_cons_of_mem _ (List.mem_append_right _ h)) (by decide +kernel))
set_option maxRecDepth 20000 in
theorem gL_setBudget_X3_setBudget : GoodIn wsL_setBudget (wsV RL 27 RX3 yX3_setBudget wsX3_setBudget) := goodIn_app (goodIn_of _ (by decide +kernel)) ggL_setBudget_X3_setBudget
theorem dL_setBudget_0 : decode cL_setBudget 0 = .ok (.aload_n 2, 1) := by decide +kernel
theorem dL_setBudget_1 : decode cL_setBudget 1 = .ok (.iconst 0, 1) := by decide +kernel
theorem dL_setBudget_2 : decode cL_setBudget 2 = .ok (.aload_n 0, 1) := by decide +kernel
theorem dL_setBudget_3 : decode cL_setBudget 3 = .ok (.iload_n 1, 1) := by decide +kernel
theorem dL_setBudget_4 : decode cL_setBudget 4 = .ok (.invokevirtual 27, 3) := by decide +kernel
theorem dL_setBudget_7 : decode cL_setBudget 7 = .ok (.i2l, 1) := by decide +kernel
theorem dL_setBudget_8 : decode cL_setBudget 8 = .ok (.lastore, 1) := by decide +kernel
theorem dL_setBudget_9 : decode cL_setBudget 9 = .ok (.goto 6, 3) := by decide +kernel
theorem dL_setBudget_12 : decode cL_setBudget 12 = .ok (.astore_n 3, 1) := by decide +kernel
theorem dL_setBudget_13 : decode cL_setBudget 13 = .ok (.iconst 1, 1) := by decide +kernel
theorem dL_setBudget_14 : decode cL_setBudget 14 = .ok (.ireturn, 1) := by decide +kernel
theorem dL_setBudget_15 : decode cL_setBudget 15 = .ok (.iconst 0, 1) := by decide +kernel
theorem dL_setBudget_16 : decode cL_setBudget 16 = .ok (.ireturn, 1) := by decide +kernel
set_option maxRecDepth 20000 in
theorem ggL_failures_X3_failures : GoodIn wsL_failures wsX3_failures := goodIn_ca (goodIn_r _ [6, 7, 8, 9, 10, 5, 11, 12, 13, 14, 15, 16, 17, 18, 19, 20, 21, 22, 23, 24, 25, 26] (by decide +kernel) (by decide +kernel)) (goodIn_sub (fun _ h => List.mem_cons_of_mem _ (List.mem_append_right _ h)) (by decide +kernel))
set_option maxRecDepth 20000 in
theorem gL_failures_X3_failures : GoodIn wsL_failures (wsV RL 31 RX3 yX3_failures wsX3_failures) := goodIn_app (goodIn_of _ (by decide +kernel)) ggL_failures_X3_failures
theorem dL_failures_0 : decode cL_failures 0 = .ok (.aload_n 2, 1) := by decide +kernel
theorem dL_failures_1 : decode cL_failures 1 = .ok (.iconst 0, 1) := by decide +kernel
theorem dL_failures_2 : decode cL_failures 2 = .ok (.aload_n 0, 1) := by decide +kernel
theorem dL_failures_3 : decode cL_failures 3 = .ok (.iload_n 1, 1) := by decide +kernel
theorem dL_failures_4 : decode cL_failures 4 = .ok (.invokevirtual 31, 3) := by decide +kernel
theorem dL_failures_7 : decode cL_failures 7 = .ok (.i2l, 1) := by decide +kernel
theorem dL_failures_8 : decode cL_failures 8 = .ok (.lastore, 1) := by decide +kernel
theorem dL_failures_9 : decode cL_failures 9 = .ok (.goto 6, 3) := by decide +kernel
theorem dL_failures_12 : decode cL_failures 12 = .ok (.astore_n 3, 1) := by decide +kernel
theorem dL_failures_13 : decode cL_failures 13 = .ok (.iconst 1, 1) := by decide +kernel
theorem dL_failures_14 : decode cL_failures 14 = .ok (.ireturn, 1) := by decide +kernel
theorem dL_failures_15 : decode cL_failures 15 = .ok (.iconst 0, 1) := by decide +kernel
theorem dL_failures_16 : decode cL_failures 16 = .ok (.ireturn, 1) := by decide +kernel
set_option maxRecDepth 20000 in
theorem ggL_openFrom_X3_openFrom : GoodIn wsL_openFrom wsX3_openFrom := goodIn_ca (goodIn_r _ [6, 7, 8, 9, 10, 5, 11, 12, 13, 14, 15, 16, 17, 18, 19, 20, 21, 22, 23, 24, 25, 26] (by decide +kernel) (by decide +kernel)) (goodIn_sub (fun _ h => List.mem_cons_of_mem _ (List.mem_append_right _ h)) (by decide +kernel))
set_option maxRecDepth 20000 in
theorem gL_openFrom_X3_openFrom : GoodIn wsL_openFrom (wsV RL 34 RX3 yX3_openFrom wsX3_openFrom) := goodIn_app (goodIn_of _ (by decide +kernel)) ggL_openFrom_X3_openFrom
theorem dL_openFrom_0 : decode cL_openFrom 0 = .ok (.aload_n 2, 1) := by decide +kernel
theorem dL_openFrom_1 : decode cL_openFrom 1 = .ok (.iconst 0, 1) := by decide +kernel
theorem dL_openFrom_2 : decode cL_openFrom 2 = .ok (.aload_n 0, 1) := by decide +kernel
theorem dL_openFrom_3 : decode cL_openFrom 3 = .ok (.iload_n 1, 1) := by decide +kernel
theorem dL_openFrom_4 : decode cL_openFrom 4 = .ok (.invokevirtual 34, 3) := by decide +kernel
theorem dL_openFrom_7 : decode cL_openFrom 7 = .ok (.i2l, 1) := by decide +kernel
theorem dL_openFrom_8 : decode cL_openFrom 8 = .ok (.lastore, 1) := by decide +kernel
theorem dL_openFrom_9 : decode cL_openFrom 9 = .ok (.goto 6, 3) := by decide +kernel
theorem dL_openFrom_12 : decode cL_openFrom 12 = .ok (.astore_n 3, 1) := by decide +kernel
theorem dL_openFrom_13 : decode cL_openFrom 13 = .ok (.iconst 1, 1) := by decide +kernel
theorem dL_openFrom_14 : decode cL_openFrom 14 = .ok (.ireturn, 1) := by decide +kernel
theorem dL_openFrom_15 : decode cL_openFrom 15 = .ok (.iconst 0, 1) := by decide +kernel
theorem dL_openFrom_16 : decode cL_openFrom 16 = .ok (.ireturn, 1) := by decide +kernel
set_option maxRecDepth 20000 in
theorem ggL_find_X3_find : GoodIn wsL_find wsX3_find := goodIn_ca (goodIn_ca (goodIn_ca (goodIn_r _ [8, 9, 10, 11, 12, 13, 14, 15, 16, 17, 18, 19, 20, 21, 22, 23, 24, 7, 25, 26, 27, 28, 29, 30, 31, 32, 33, 34, 35, 36, 37, 38, 39, 40, 41, 42, 43, 44, 45, 46, 47, 48, 49, 50, 51, 52, 53, 54, 55, 56, 57, 58, 59, 60, 61, 62, 63, 64, 65, 66, 67, 68, 69, 70, 71, 72, 73, 74, 75, 76, 77, 78, 79, 80, 81, 82, 83, 84, 85, 86, 87, 88, 89, 90, 91, 92, 93, 94, 95, 96, 97, 98, 99, 100, 101, 102, 103, 104, 105, 106, 107, 108, 109, 110, 111, 112, 113, 114, 115, 116] (by decide +kernel) (by decide +kernel)) (goodIn_sub (fun _ h => List.mem_cons_of_mem _ (List.mem_append_left _ (List.mem_append_left _ (List.mem_append_right _ h)))) (by decide +kernel))) (goodIn_sub (fun _ h => List.mem_cons_of_mem _ (List.mem_append_left _ (List.mem_append_right _ h))) (by decide +kernel))) (goodIn_sub (fun _ h => List.mem_cons_of_mem _ (List.mem_append_right _ h)) (by decide +kernel))
set_option maxRecDepth 20000 in
theorem gL_find_X3_find : GoodIn wsL_find (wsV RL 37 RX3 yX3_find wsX3_find) := goodIn_app (goodIn_of _ (by decide +kernel)) ggL_find_X3_find
theorem dL_find_0 : decode cL_find 0 = .ok (.aload_n 3, 1) := by decide +kernel
theorem dL_find_1 : decode cL_find 1 = .ok (.iconst 0, 1) := by decide +kernel
theorem dL_find_2 : decode cL_find 2 = .ok (.aload_n 0, 1) := by decide +kernel
theorem dL_find_3 : decode cL_find 3 = .ok (.iload_n 1, 1) := by decide +kernel
theorem dL_find_4 : decode cL_find 4 = .ok (.iload_n 2, 1) := by decide +kernel
theorem dL_find_5 : decode cL_find 5 = .ok (.invokevirtual 37, 3) := by decide +kernel
theorem dL_find_8 : decode cL_find 8 = .ok (.i2l, 1) := by decide +kernel
theorem dL_find_9 : decode cL_find 9 = .ok (.lastore, 1) := by decide +kernel
theorem dL_find_10 : decode cL_find 10 = .ok (.goto 15, 3) := by decide +kernel
theorem dL_find_13 : decode cL_find 13 = .ok (.astore 4, 2) := by decide +kernel
theorem dL_find_15 : decode cL_find 15 = .ok (.iconst 1, 1) := by decide +kernel
theorem dL_find_16 : decode cL_find 16 = .ok (.ireturn, 1) := by decide +kernel
theorem dL_find_17 : decode cL_find 17 = .ok (.astore 4, 2) := by decide +kernel
theorem dL_find_19 : decode cL_find 19 = .ok (.iconst 2, 1) := by decide +kernel
theorem dL_find_20 : decode cL_find 20 = .ok (.ireturn, 1) := by decide +kernel
theorem dL_find_21 : decode cL_find 21 = .ok (.astore 4, 2) := by decide +kernel
theorem dL_find_23 : decode cL_find 23 = .ok (.iconst 3, 1) := by decide +kernel
theorem dL_find_24 : decode cL_find 24 = .ok (.ireturn, 1) := by decide +kernel
theorem dL_find_25 : decode cL_find 25 = .ok (.iconst 0, 1) := by decide +kernel
theorem dL_find_26 : decode cL_find 26 = .ok (.ireturn, 1) := by decide +kernel
set_option maxRecDepth 20000 in
theorem ggL_setRank_X3_setRank : GoodIn wsL_setRank wsX3_setRank := goodIn_ca (goodIn_ca (goodIn_r _ [7, 8, 9, 10, 11, 6, 12, 13, 14, 15, 16, 17, 18, 19, 20, 21, 22, 23, 24, 25, 26, 27, 28, 29, 30, 31, 32, 33, 34, 35, 36, 37, 38, 39] (by decide +kernel) (by decide +kernel)) (goodIn_sub (fun _ h => List.mem_cons_of_mem _ (List.mem_append_left _ (List.mem_append_right _ h))) (by decide +kernel))) (goodIn_sub (fun _ h => List.mem_cons_of_mem _ (List.mem_append_right _ h)) (by decide +kernel))
set_option maxRecDepth 20000 in
theorem gL_setRank_X3_setRank : GoodIn wsL_setRank (wsV RL 40 RX3 yX3_setRank wsX3_setRank) := goodIn_app (goodIn_of _ (by decide +kernel)) ggL_setRank_X3_setRank
theorem dL_setRank_0 : decode cL_setRank 0 = .ok (.aload_n 3, 1) := by decide +kernel
theorem dL_setRank_1 : decode cL_setRank 1 = .ok (.iconst 0, 1) := by decide +kernel
theorem dL_setRank_2 : decode cL_setRank 2 = .ok (.aload_n 0, 1) := by decide +kernel
theorem dL_setRank_3 : decode cL_setRank 3 = .ok (.iload_n 1, 1) := by decide +kernel
theorem dL_setRank_4 : decode cL_setRank 4 = .ok (.iload_n 2, 1) := by decide +kernel
theorem dL_setRank_5 : decode cL_setRank 5 = .ok (.invokevirtual 40, 3) := by decide +kernel
theorem dL_setRank_8 : decode cL_setRank 8 = .ok (.i2l, 1) := by decide +kernel
theorem dL_setRank_9 : decode cL_setRank 9 = .ok (.lastore, 1) := by decide +kernel
theorem dL_setRank_10 : decode cL_setRank 10 = .ok (.goto 11, 3) := by decide +kernel
theorem dL_setRank_13 : decode cL_setRank 13 = .ok (.astore 4, 2) := by decide +kernel
theorem dL_setRank_15 : decode cL_setRank 15 = .ok (.iconst 1, 1) := by decide +kernel
theorem dL_setRank_16 : decode cL_setRank 16 = .ok (.ireturn, 1) := by decide +kernel
theorem dL_setRank_17 : decode cL_setRank 17 = .ok (.astore 4, 2) := by decide +kernel
theorem dL_setRank_19 : decode cL_setRank 19 = .ok (.iconst 2, 1) := by decide +kernel
theorem dL_setRank_20 : decode cL_setRank 20 = .ok (.ireturn, 1) := by decide +kernel
theorem dL_setRank_21 : decode cL_setRank 21 = .ok (.iconst 0, 1) := by decide +kernel
theorem dL_setRank_22 : decode cL_setRank 22 = .ok (.ireturn, 1) := by decide +kernel
set_option maxRecDepth 20000 in
theorem ggL_dueAt_X3_dueAt : GoodIn wsL_dueAt wsX3_dueAt := goodIn_ca (goodIn_r _ [6, 7, 8, 9, 10, 5, 11, 12, 13, 14, 15, 16, 17, 18, 19, 20, 21, 22, 23, 24, 25, 26, 27, 28, 29, 30, 31, 32, 33, 34, 35, 36, 37, 38, 39, 40] (by decide +kernel) (by decide +kernel)) (goodIn_sub (fun _ h => List.mem_cons_of_mem _ (List.mem_append_right _ h)) (by decide +kernel))
set_option maxRecDepth 20000 in
theorem gL_dueAt_X3_dueAt : GoodIn wsL_dueAt (wsV RL 43 RX3 yX3_dueAt wsX3_dueAt) := goodIn_app (goodIn_of _ (by decide +kernel)) ggL_dueAt_X3_dueAt
theorem dL_dueAt_0 : decode cL_dueAt 0 = .ok (.aload_n 2, 1) := by decide +kernel
theorem dL_dueAt_1 : decode cL_dueAt 1 = .ok (.iconst 0, 1) := by decide +kernel
theorem dL_dueAt_2 : decode cL_dueAt 2 = .ok (.aload_n 0, 1) := by decide +kernel
theorem dL_dueAt_3 : decode cL_dueAt 3 = .ok (.iload_n 1, 1) := by decide +kernel
theorem dL_dueAt_4 : decode cL_dueAt 4 = .ok (.invokevirtual 43, 3) := by decide +kernel
theorem dL_dueAt_7 : decode cL_dueAt 7 = .ok (.i2l, 1) := by decide +kernel
theorem dL_dueAt_8 : decode cL_dueAt 8 = .ok (.lastore, 1) := by decide +kernel
theorem dL_dueAt_9 : decode cL_dueAt 9 = .ok (.goto 6, 3) := by decide +kernel
theorem dL_dueAt_12 : decode cL_dueAt 12 = .ok (.astore_n 3, 1) := by decide +kernel
theorem dL_dueAt_13 : decode cL_dueAt 13 = .ok (.iconst 1, 1) := by decide +kernel
theorem dL_dueAt_14 : decode cL_dueAt 14 = .ok (.ireturn, 1) := by decide +kernel
theorem dL_dueAt_15 : decode cL_dueAt 15 = .ok (.iconst 0, 1) := by decide +kernel
theorem dL_dueAt_16 : decode cL_dueAt 16 = .ok (.ireturn, 1) := by decide +kernel
set_option maxRecDepth 20000 in
theorem ggL_visits_X3_visits : GoodIn wsL_visits wsX3_visits := goodIn_ca (goodIn_r _ [6, 7, 8, 9, 10, 5, 11, 12, 13, 14, 15, 16, 17, 18, 19, 20, 21, 22, 23, 24, 25, 26, 27, 28, 29, 30, 31, 32, 33] (by decide +kernel) (by decide +kernel)) (goodIn_sub (fun _ h => List.mem_cons_of_mem _ (List.mem_append_right _ h)) (by decide +kernel))
set_option maxRecDepth 20000 in
theorem gL_visits_X3_visits : GoodIn wsL_visits (wsV RL 46 RX3 yX3_visits wsX3_visits) := goodIn_app (goodIn_of _ (by decide +kernel)) ggL_visits_X3_visits
theorem dL_visits_0 : decode cL_visits 0 = .ok (.aload_n 2, 1) := by decide +kernel
theorem dL_visits_1 : decode cL_visits 1 = .ok (.iconst 0, 1) := by decide +kernel
theorem dL_visits_2 : decode cL_visits 2 = .ok (.aload_n 0, 1) := by decide +kernel
theorem dL_visits_3 : decode cL_visits 3 = .ok (.iload_n 1, 1) := by decide +kernel
theorem dL_visits_4 : decode cL_visits 4 = .ok (.invokevirtual 46, 3) := by decide +kernel
theorem dL_visits_7 : decode cL_visits 7 = .ok (.i2l, 1) := by decide +kernel
theorem dL_visits_8 : decode cL_visits 8 = .ok (.lastore, 1) := by decide +kernel
theorem dL_visits_9 : decode cL_visits 9 = .ok (.goto 6, 3) := by decide +kernel
theorem dL_visits_12 : decode cL_visits 12 = .ok (.astore_n 3, 1) := by decide +kernel
theorem dL_visits_13 : decode cL_visits 13 = .ok (.iconst 1, 1) := by decide +kernel
theorem dL_visits_14 : decode cL_visits 14 = .ok (.ireturn, 1) := by decide +kernel
theorem dL_visits_15 : decode cL_visits 15 = .ok (.iconst 0, 1) := by decide +kernel
theorem dL_visits_16 : decode cL_visits 16 = .ok (.ireturn, 1) := by decide +kernel
set_option maxRecDepth 20000 in
theorem ggL_changes_X3_changes : GoodIn wsL_changes wsX3_changes := goodIn_ca (goodIn_r _ [6, 7, 8, 9, 10, 5, 11, 12, 13, 14, 15, 16, 17, 18, 19, 20, 21, 22, 23, 24, 25, 26, 27, 28, 29, 30, 31, 32, 33] (by decide +kernel) (by decide +kernel)) (goodIn_sub (fun _ h => List.mem_cons_of_mem _ (List.mem_append_right _ h)) (by decide +kernel))
set_option maxRecDepth 20000 in
theorem gL_changes_X3_changes : GoodIn wsL_changes (wsV RL 49 RX3 yX3_changes wsX3_changes) := goodIn_app (goodIn_of _ (by decide +kernel)) ggL_changes_X3_changes
theorem dL_changes_0 : decode cL_changes 0 = .ok (.aload_n 2, 1) := by decide +kernel
theorem dL_changes_1 : decode cL_changes 1 = .ok (.iconst 0, 1) := by decide +kernel
theorem dL_changes_2 : decode cL_changes 2 = .ok (.aload_n 0, 1) := by decide +kernel
theorem dL_changes_3 : decode cL_changes 3 = .ok (.iload_n 1, 1) := by decide +kernel
theorem dL_changes_4 : decode cL_changes 4 = .ok (.invokevirtual 49, 3) := by decide +kernel
theorem dL_changes_7 : decode cL_changes 7 = .ok (.i2l, 1) := by decide +kernel
theorem dL_changes_8 : decode cL_changes 8 = .ok (.lastore, 1) := by decide +kernel
theorem dL_changes_9 : decode cL_changes 9 = .ok (.goto 6, 3) := by decide +kernel
theorem dL_changes_12 : decode cL_changes 12 = .ok (.astore_n 3, 1) := by decide +kernel
theorem dL_changes_13 : decode cL_changes 13 = .ok (.iconst 1, 1) := by decide +kernel
theorem dL_changes_14 : decode cL_changes 14 = .ok (.ireturn, 1) := by decide +kernel
theorem dL_changes_15 : decode cL_changes 15 = .ok (.iconst 0, 1) := by decide +kernel
theorem dL_changes_16 : decode cL_changes 16 = .ok (.ireturn, 1) := by decide +kernel
set_option maxRecDepth 20000 in
theorem ggL_mayVisit_X3_mayVisit : GoodIn wsL_mayVisit wsX3_mayVisit := goodIn_ca (goodIn_r _ [6, 7, 8, 9, 5, 10, 11, 12, 13, 14, 15, 16, 17, 18, 19, 20, 21, 22, 23, 24, 25, 26, 27, 28, 29, 30, 31, 32, 33, 34, 35, 36, 37, 38, 39, 40, 41, 42, 43, 44, 45, 46, 47, 48, 49, 50, 51, 52, 53, 54, 55, 56, 57, 58, 59, 60, 61, 62, 63, 64, 65, 66, 67, 68] (by decide +kernel) (by decide +kernel)) (goodIn_sub (fun _ h => List.mem_cons_of_mem _ (List.mem_append_right _ h)) (by decide +kernel))
set_option maxRecDepth 20000 in
theorem gL_mayVisit_X3_mayVisit : GoodIn wsL_mayVisit (wsV RL 52 RX3 yX3_mayVisit wsX3_mayVisit) := goodIn_app (goodIn_of _ (by decide +kernel)) ggL_mayVisit_X3_mayVisit
theorem dL_mayVisit_0 : decode cL_mayVisit 0 = .ok (.aload_n 2, 1) := by decide +kernel
theorem dL_mayVisit_1 : decode cL_mayVisit 1 = .ok (.iconst 0, 1) := by decide +kernel
theorem dL_mayVisit_2 : decode cL_mayVisit 2 = .ok (.aload_n 0, 1) := by decide +kernel
theorem dL_mayVisit_3 : decode cL_mayVisit 3 = .ok (.iload_n 1, 1) := by decide +kernel
theorem dL_mayVisit_4 : decode cL_mayVisit 4 = .ok (.invokevirtual 52, 3) := by decide +kernel
theorem dL_mayVisit_7 : decode cL_mayVisit 7 = .ok (.ifCond .eq 7, 3) := by decide +kernel
theorem dL_mayVisit_10 : decode cL_mayVisit 10 = .ok (.lconst 1, 1) := by decide +kernel
theorem dL_mayVisit_11 : decode cL_mayVisit 11 = .ok (.goto 4, 3) := by decide +kernel
theorem dL_mayVisit_14 : decode cL_mayVisit 14 = .ok (.lconst 0, 1) := by decide +kernel
theorem dL_mayVisit_15 : decode cL_mayVisit 15 = .ok (.lastore, 1) := by decide +kernel
theorem dL_mayVisit_16 : decode cL_mayVisit 16 = .ok (.goto 6, 3) := by decide +kernel
theorem dL_mayVisit_19 : decode cL_mayVisit 19 = .ok (.astore_n 3, 1) := by decide +kernel
theorem dL_mayVisit_20 : decode cL_mayVisit 20 = .ok (.iconst 1, 1) := by decide +kernel
theorem dL_mayVisit_21 : decode cL_mayVisit 21 = .ok (.ireturn, 1) := by decide +kernel
theorem dL_mayVisit_22 : decode cL_mayVisit 22 = .ok (.iconst 0, 1) := by decide +kernel
theorem dL_mayVisit_23 : decode cL_mayVisit 23 = .ok (.ireturn, 1) := by decide +kernel
set_option maxRecDepth 20000 in
theorem ggL_visit_X3_visit : GoodIn wsL_visit wsX3_visit := goodIn_ca (goodIn_ca (goodIn_ca (goodIn_r _ [8, 9, 10, 11, 12, 13, 14, 15, 16, 17, 18, 19, 7, 20, 21, 22, 23, 24, 25, 26, 27, 28, 29, 30, 31, 32, 33, 34, 35, 36, 37, 38, 39, 40, 41, 42, 43, 44, 45, 46, 47, 48, 49, 50, 51, 52, 53, 54, 55, 56, 57, 58, 59, 60, 61, 62, 63, 64, 65, 66, 67, 68, 69, 70, 71, 72, 73, 74, 75, 76, 77, 78, 79, 80, 81, 82, 83, 84, 85, 86, 87, 88, 89, 90, 91, 92, 93, 94, 95, 96, 97, 98, 99, 100, 101, 102, 103] (by decide +kernel) (by decide +kernel)) (goodIn_sub (fun _ h => List.mem_cons_of_mem _ (List.mem_append_left _ (List.mem_append_left _ (List.mem_append_right _ h)))) (by decide +kernel))) (goodIn_sub (fun _ h => List.mem_cons_of_mem _ (List.mem_append_left _ (List.mem_append_right _ h))) (by decide +kernel))) (goodIn_sub (fun _ h => List.mem_cons_of_mem _ (List.mem_append_right _ h)) (by decide +kernel))
set_option maxRecDepth 20000 in
theorem gL_visit_X3_visit : GoodIn wsL_visit (wsV RL 56 RX3 yX3_visit wsX3_visit) := goodIn_app (goodIn_of _ (by decide +kernel)) ggL_visit_X3_visit
theorem dL_visit_0 : decode cL_visit 0 = .ok (.aload_n 3, 1) := by decide +kernel
theorem dL_visit_1 : decode cL_visit 1 = .ok (.iconst 0, 1) := by decide +kernel
theorem dL_visit_2 : decode cL_visit 2 = .ok (.aload_n 0, 1) := by decide +kernel
theorem dL_visit_3 : decode cL_visit 3 = .ok (.iload_n 1, 1) := by decide +kernel
theorem dL_visit_4 : decode cL_visit 4 = .ok (.iload_n 2, 1) := by decide +kernel
theorem dL_visit_5 : decode cL_visit 5 = .ok (.invokevirtual 56, 3) := by decide +kernel
theorem dL_visit_8 : decode cL_visit 8 = .ok (.i2l, 1) := by decide +kernel
theorem dL_visit_9 : decode cL_visit 9 = .ok (.lastore, 1) := by decide +kernel
theorem dL_visit_10 : decode cL_visit 10 = .ok (.goto 15, 3) := by decide +kernel
theorem dL_visit_13 : decode cL_visit 13 = .ok (.astore 4, 2) := by decide +kernel
theorem dL_visit_15 : decode cL_visit 15 = .ok (.iconst 1, 1) := by decide +kernel
theorem dL_visit_16 : decode cL_visit 16 = .ok (.ireturn, 1) := by decide +kernel
theorem dL_visit_17 : decode cL_visit 17 = .ok (.astore 4, 2) := by decide +kernel
theorem dL_visit_19 : decode cL_visit 19 = .ok (.iconst 2, 1) := by decide +kernel
theorem dL_visit_20 : decode cL_visit 20 = .ok (.ireturn, 1) := by decide +kernel
theorem dL_visit_21 : decode cL_visit 21 = .ok (.astore 4, 2) := by decide +kernel
theorem dL_visit_23 : decode cL_visit 23 = .ok (.iconst 3, 1) := by decide +kernel
theorem dL_visit_24 : decode cL_visit 24 = .ok (.ireturn, 1) := by decide +kernel
theorem dL_visit_25 : decode cL_visit 25 = .ok (.iconst 0, 1) := by decide +kernel
theorem dL_visit_26 : decode cL_visit 26 = .ok (.ireturn, 1) := by decide +kernel
set_option maxRecDepth 20000 in
theorem ggL_pass_X3_pass : GoodIn wsL_pass wsX3_pass := goodIn_ca (goodIn_ca (goodIn_r _ [7, 8, 9, 10, 11, 12, 13, 14, 15, 16, 17, 6, 18, 19, 20, 21, 22, 23, 24, 25, 26, 27] (by decide +kernel) (by decide +kernel)) (goodIn_sub (fun _ h => List.mem_cons_of_mem _ (List.mem_append_left _ (List.mem_append_right _ h))) (by decide +kernel))) (goodIn_sub (fun _ h => List.mem_cons_of_mem _ (List.mem_append_right _ h)) (by decide +kernel))
set_option maxRecDepth 20000 in
theorem gL_pass_X3_pass : GoodIn wsL_pass (wsV RL 59 RX3 yX3_pass wsX3_pass) := goodIn_app (goodIn_of _ (by decide +kernel)) ggL_pass_X3_pass
theorem dL_pass_0 : decode cL_pass 0 = .ok (.aload_n 2, 1) := by decide +kernel
theorem dL_pass_1 : decode cL_pass 1 = .ok (.iconst 0, 1) := by decide +kernel
theorem dL_pass_2 : decode cL_pass 2 = .ok (.aload_n 0, 1) := by decide +kernel
theorem dL_pass_3 : decode cL_pass 3 = .ok (.iload_n 1, 1) := by decide +kernel
theorem dL_pass_4 : decode cL_pass 4 = .ok (.invokevirtual 59, 3) := by decide +kernel
theorem dL_pass_7 : decode cL_pass 7 = .ok (.i2l, 1) := by decide +kernel
theorem dL_pass_8 : decode cL_pass 8 = .ok (.lastore, 1) := by decide +kernel
theorem dL_pass_9 : decode cL_pass 9 = .ok (.goto 9, 3) := by decide +kernel
theorem dL_pass_12 : decode cL_pass 12 = .ok (.astore_n 3, 1) := by decide +kernel
theorem dL_pass_13 : decode cL_pass 13 = .ok (.iconst 1, 1) := by decide +kernel
theorem dL_pass_14 : decode cL_pass 14 = .ok (.ireturn, 1) := by decide +kernel
theorem dL_pass_15 : decode cL_pass 15 = .ok (.astore_n 3, 1) := by decide +kernel
theorem dL_pass_16 : decode cL_pass 16 = .ok (.iconst 2, 1) := by decide +kernel
theorem dL_pass_17 : decode cL_pass 17 = .ok (.ireturn, 1) := by decide +kernel
theorem dL_pass_18 : decode cL_pass 18 = .ok (.iconst 0, 1) := by decide +kernel
theorem dL_pass_19 : decode cL_pass 19 = .ok (.ireturn, 1) := by decide +kernel
set_option maxRecDepth 20000 in
theorem ggL_share_X3_share : GoodIn wsL_share wsX3_share := goodIn_ca (goodIn_ca (goodIn_r _ [7, 8, 9, 10, 11, 12, 13, 6, 14, 15, 16, 17, 18, 19, 20, 21, 22, 23, 24, 25, 26, 27, 28, 29, 30, 31, 32, 33, 34, 35, 36, 37, 38, 39, 40, 41, 42, 43, 44, 45, 46, 47, 48, 49, 50, 51, 52, 53, 54, 55, 56, 57, 58, 59, 60, 61, 62, 63, 64, 65, 66, 67] (by decide +kernel) (by decide +kernel)) (goodIn_sub (fun _ h => List.mem_cons_of_mem _ (List.mem_append_left _ (List.mem_append_right _ h))) (by decide +kernel))) (goodIn_sub (fun _ h => List.mem_cons_of_mem _ (List.mem_append_right _ h)) (by decide +kernel))
set_option maxRecDepth 20000 in
theorem gL_share_X3_share : GoodIn wsL_share (wsV RL 62 RX3 yX3_share wsX3_share) := goodIn_app (goodIn_of _ (by decide +kernel)) ggL_share_X3_share
theorem dL_share_0 : decode cL_share 0 = .ok (.aload_n 3, 1) := by decide +kernel
theorem dL_share_1 : decode cL_share 1 = .ok (.iconst 0, 1) := by decide +kernel
theorem dL_share_2 : decode cL_share 2 = .ok (.aload_n 0, 1) := by decide +kernel
theorem dL_share_3 : decode cL_share 3 = .ok (.iload_n 1, 1) := by decide +kernel
theorem dL_share_4 : decode cL_share 4 = .ok (.iload_n 2, 1) := by decide +kernel
theorem dL_share_5 : decode cL_share 5 = .ok (.invokevirtual 62, 3) := by decide +kernel
theorem dL_share_8 : decode cL_share 8 = .ok (.i2l, 1) := by decide +kernel
theorem dL_share_9 : decode cL_share 9 = .ok (.lastore, 1) := by decide +kernel
theorem dL_share_10 : decode cL_share 10 = .ok (.goto 11, 3) := by decide +kernel
theorem dL_share_13 : decode cL_share 13 = .ok (.astore 4, 2) := by decide +kernel
theorem dL_share_15 : decode cL_share 15 = .ok (.iconst 1, 1) := by decide +kernel
theorem dL_share_16 : decode cL_share 16 = .ok (.ireturn, 1) := by decide +kernel
theorem dL_share_17 : decode cL_share 17 = .ok (.astore 4, 2) := by decide +kernel
theorem dL_share_19 : decode cL_share 19 = .ok (.iconst 2, 1) := by decide +kernel
theorem dL_share_20 : decode cL_share 20 = .ok (.ireturn, 1) := by decide +kernel
theorem dL_share_21 : decode cL_share 21 = .ok (.iconst 0, 1) := by decide +kernel
theorem dL_share_22 : decode cL_share 22 = .ok (.ireturn, 1) := by decide +kernel
set_option maxRecDepth 20000 in
theorem ggL_law_X3_init : GoodIn wsL_law wsX3_init := goodIn_r _ [9, 10, 11, 12, 13, 14, 15, 16, 17, 18, 19, 20, 21, 22, 23, 24, 25, 26, 27, 28, 29, 30, 31, 32, 33, 34, 35, 36, 37, 597, 598, 599, 600, 562, 563, 564, 565, 566, 567, 568, 569, 570, 601, 602, 603] (by decide +kernel) (by decide +kernel)
set_option maxRecDepth 20000 in
theorem gL_law_X3_init : GoodIn wsL_law (wsX3_init) := ggL_law_X3_init
set_option maxRecDepth 20000 in
theorem ggL_law_X4_init : GoodIn wsL_law wsX4_init := goodIn_r _ [40, 41, 11, 12, 32, 42, 43, 44, 45, 46, 47, 48, 49, 50, 51, 52, 53, 54, 55, 56, 57, 58, 59, 60, 61, 571, 572, 573, 574, 575, 576, 577, 578, 579, 580, 581, 582, 583, 584, 585, 586, 587, 588, 589, 590, 591, 592, 593, 594, 595, 596] (by decide +kernel) (by decide +kernel)
set_option maxRecDepth 20000 in
theorem gL_law_X4_init : GoodIn wsL_law (wsX4_init) := ggL_law_X4_init
set_option maxRecDepth 20000 in
theorem ggL_law_L_type : GoodIn wsL_law wsL_type := goodIn_ca (goodIn_ca (goodIn_r _ [65, 66, 67, 68, 69, 70, 2, 71, 72, 73, 74, 75, 16, 76, 77, 78, 79, 15, 80, 81, 31, 82, 83, 84, 85, 86, 87, 88, 89, 90, 91, 92, 93, 94, 33, 562, 563, 564, 565, 566, 567, 568, 569, 570, 597, 598, 599, 600] (by decide +kernel) (by decide +kernel)) (goodIn_sub (fun _ h => List.mem_append_left _ (List.mem_append_left _ (List.mem_append_right _ h))) (by decide +kernel))) (goodIn_sub (fun _ h => List.mem_append_left _ (List.mem_append_right _ h)) (by decide +kernel))
set_option maxRecDepth 20000 in
theorem gL_law_L_type : GoodIn wsL_law (va_wsS RL 69 yL_type wsL_type) := goodIn_app (goodIn_of _ (by decide +kernel)) ggL_law_L_type
set_option maxRecDepth 20000 in
theorem ggL_law_X4_type : GoodIn wsL_law wsX4_type := goodIn_r _ [98, 99, 100, 42, 101, 102, 5, 103, 104, 105, 106, 107, 571, 572, 573, 574, 575, 576, 577, 578, 579, 580, 581, 582, 583, 584, 585, 586, 587, 588, 589, 590, 591, 592, 593, 594, 595, 596] (by decide +kernel) (by decide +kernel)
set_option maxRecDepth 20000 in
theorem gL_law_X4_type : GoodIn wsL_law (wsV RL 74 RX4 yX4_type wsX4_type) := goodIn_app (goodIn_of _ (by decide +kernel)) ggL_law_X4_type
set_option maxRecDepth 20000 in
theorem ggL_law_X4_thrown : GoodIn wsL_law wsX4_thrown := goodIn_r _ [111, 99, 571, 572, 573, 574, 575, 576, 577, 578, 579, 580, 581, 582, 583, 584, 585, 586, 587, 588, 589, 590, 591, 592, 593, 594, 595, 596] (by decide +kernel) (by decide +kernel)
set_option maxRecDepth 20000 in
theorem gL_law_X4_thrown : GoodIn wsL_law (wsV RL 75 RX4 yX4_thrown wsX4_thrown) := goodIn_app (goodIn_of _ (by decide +kernel)) ggL_law_X4_thrown
set_option maxRecDepth 20000 in
theorem ggL_law_X3_clearAddress : GoodIn wsL_law wsX3_clearAddress := goodIn_r _ [115, 16, 76, 116, 117, 118, 15, 119, 81, 94, 562, 563, 564, 565, 566, 567, 568, 569, 570, 597, 598, 599, 600] (by decide +kernel) (by decide +kernel)
set_option maxRecDepth 20000 in
theorem gL_law_X3_clearAddress : GoodIn wsL_law (wsV RL 79 RX3 yX3_clearAddress wsX3_clearAddress) := goodIn_app (goodIn_of _ (by decide +kernel)) ggL_law_X3_clearAddress
set_option maxRecDepth 20000 in
theorem ggL_law_X4_clearAddress : GoodIn wsL_law wsX4_clearAddress := goodIn_r _ [123, 99, 100, 571, 572, 573, 574, 575, 576, 577, 578, 579, 580, 581, 582, 583, 584, 585, 586, 587, 588, 589, 590, 591, 592, 593, 594, 595, 596] (by decide +kernel) (by decide +kernel)
set_option maxRecDepth 20000 in
theorem gL_law_X4_clearAddress : GoodIn wsL_law (wsV RL 82 RX4 yX4_clearAddress wsX4_clearAddress) := goodIn_app (goodIn_of _ (by decide +kernel)) ggL_law_X4_clearAddress
set_option maxRecDepth 20000 in
theorem ggL_law_X3_segments : GoodIn wsL_law wsX3_segments := goodIn_r _ [127, 16, 128, 562, 563, 564, 565, 566, 567, 568, 569, 570, 597, 598, 599, 600] (by decide +kernel) (by decide +kernel)
set_option maxRecDepth 20000 in
theorem gL_law_X3_segments : GoodIn wsL_law (wsV RL 83 RX3 yX3_segments wsX3_segments) := goodIn_app (goodIn_of _ (by decide +kernel)) ggL_law_X3_segments
set_option maxRecDepth 20000 in
theorem ggL_law_X4_segments : GoodIn wsL_law wsX4_segments := goodIn_r _ [132, 99, 133, 134, 135, 136, 5, 137, 100, 42, 59, 60, 571, 572, 573, 574, 575, 576, 577, 578, 579, 580, 581, 582, 583, 584, 585, 586, 587, 588, 589, 590, 591, 592, 593, 594, 595, 596] (by decide +kernel) (by decide +kernel)
set_option maxRecDepth 20000 in
theorem gL_law_X4_segments : GoodIn wsL_law (wsV RL 86 RX4 yX4_segments wsX4_segments) := goodIn_app (goodIn_of _ (by decide +kernel)) ggL_law_X4_segments
set_option maxRecDepth 20000 in
theorem ggL_law_X3_isTrap : GoodIn wsL_law wsX3_isTrap := goodIn_r _ [141, 16, 142, 143, 144, 15, 145, 146, 147, 148, 149, 94, 150, 151, 152, 153, 81, 154, 155, 156, 157, 33, 86, 87, 88, 89, 31, 562, 563, 564, 565, 566, 567, 568, 569, 570, 597, 598, 599, 600] (by decide +kernel) (by decide +kernel)
set_option maxRecDepth 20000 in
theorem gL_law_X3_isTrap : GoodIn wsL_law (wsV RL 87 RX3 yX3_isTrap wsX3_isTrap) := goodIn_app (goodIn_of _ (by decide +kernel)) ggL_law_X3_isTrap
set_option maxRecDepth 20000 in
theorem ggL_law_X4_isTrap : GoodIn wsL_law wsX4_isTrap := goodIn_r _ [161, 99, 162, 163, 164, 5, 165, 133, 134, 135, 136, 137, 100, 42, 59, 60, 166, 167, 168, 169, 571, 572, 573, 574, 575, 576, 577, 578, 579, 580, 581, 582, 583, 584, 585, 586, 587, 588, 589, 590, 591, 592, 593, 594, 595, 596] (by decide +kernel) (by decide +kernel)
set_option maxRecDepth 20000 in
theorem gL_law_X4_isTrap : GoodIn wsL_law (wsV RL 91 RX4 yX4_isTrap wsX4_isTrap) := goodIn_app (goodIn_of _ (by decide +kernel)) ggL_law_X4_isTrap
set_option maxRecDepth 20000 in
theorem ggL_law_L_setRest : GoodIn wsL_law wsL_setRest := goodIn_ca (goodIn_ca (goodIn_r _ [172, 173, 66, 174, 175, 176, 2, 177, 72, 73, 178, 179, 180, 181, 182, 183, 184, 18, 601, 602, 603, 562, 563, 564, 565, 566, 567, 568, 569, 570] (by decide +kernel) (by decide +kernel)) (goodIn_sub (fun _ h => List.mem_append_left _ (List.mem_append_left _ (List.mem_append_right _ h))) (by decide +kernel))) (goodIn_sub (fun _ h => List.mem_append_right _ h) (by decide +kernel))
set_option maxRecDepth 20000 in
theorem gL_law_L_setRest : GoodIn wsL_law (va_wsS RL 92 yL_setRest wsL_setRest) := goodIn_app (goodIn_of _ (by decide +kernel)) ggL_law_L_setRest
set_option maxRecDepth 20000 in
theorem ggL_law_X4_setRest : GoodIn wsL_law wsX4_setRest := goodIn_r _ [188, 99, 43, 189, 190, 5, 191, 101, 102, 103, 104, 105, 106, 107, 571, 572, 573, 574, 575, 576, 577, 578, 579, 580, 581, 582, 583, 584, 585, 586, 587, 588, 589, 590, 591, 592, 593, 594, 595, 596] (by decide +kernel) (by decide +kernel)
set_option maxRecDepth 20000 in
theorem gL_law_X4_setRest : GoodIn wsL_law (wsV RL 95 RX4 yX4_setRest wsX4_setRest) := goodIn_app (goodIn_of _ (by decide +kernel)) ggL_law_X4_setRest
set_option maxRecDepth 20000 in
theorem ggL_law_L_setPaces : GoodIn wsL_law wsL_setPaces := goodIn_ca (goodIn_r _ [194, 66, 195, 196, 197, 2, 198, 72, 73, 23, 24, 562, 563, 564, 565, 566, 567, 568, 569, 570] (by decide +kernel) (by decide +kernel)) (goodIn_sub (fun _ h => List.mem_append_left _ (List.mem_append_left _ (List.mem_append_right _ h))) (by decide +kernel))
set_option maxRecDepth 20000 in
theorem gL_law_L_setPaces : GoodIn wsL_law (va_wsS RL 96 yL_setPaces wsL_setPaces) := goodIn_app (goodIn_of _ (by decide +kernel)) ggL_law_L_setPaces
set_option maxRecDepth 20000 in
theorem ggL_law_X4_setPaces : GoodIn wsL_law wsX4_setPaces := goodIn_r _ [202, 99, 46, 47, 101, 102, 5, 103, 571, 572, 573, 574, 575, 576, 577, 578, 579, 580, 581, 582, 583, 584, 585, 586, 587, 588, 589, 590, 591, 592, 593, 594, 595, 596] (by decide +kernel) (by decide +kernel)
set_option maxRecDepth 20000 in
theorem gL_law_X4_setPaces : GoodIn wsL_law (wsV RL 99 RX4 yX4_setPaces wsX4_setPaces) := goodIn_app (goodIn_of _ (by decide +kernel)) ggL_law_X4_setPaces
set_option maxRecDepth 20000 in
theorem ggL_law_L_setBudget : GoodIn wsL_law wsL_setBudget := goodIn_ca (goodIn_r _ [205, 66, 206, 207, 208, 2, 209, 72, 73, 25, 562, 563, 564, 565, 566, 567, 568, 569, 570] (by decide +kernel) (by decide +kernel)) (goodIn_sub (fun _ h => List.mem_append_left _ (List.mem_append_left _ (List.mem_append_right _ h))) (by decide +kernel))
set_option maxRecDepth 20000 in
theorem gL_law_L_setBudget : GoodIn wsL_law (va_wsS RL 100 yL_setBudget wsL_setBudget) := goodIn_app (goodIn_of _ (by decide +kernel)) ggL_law_L_setBudget
set_option maxRecDepth 20000 in
theorem ggL_law_X4_setBudget : GoodIn wsL_law wsX4_setBudget := goodIn_r _ [213, 99, 48, 101, 102, 5, 103, 104, 105, 106, 107, 571, 572, 573, 574, 575, 576, 577, 578, 579, 580, 581, 582, 583, 584, 585, 586, 587, 588, 589, 590, 591, 592, 593, 594, 595, 596] (by decide +kernel) (by decide +kernel)
set_option maxRecDepth 20000 in
theorem gL_law_X4_setBudget : GoodIn wsL_law (wsV RL 103 RX4 yX4_setBudget wsX4_setBudget) := goodIn_app (goodIn_of _ (by decide +kernel)) ggL_law_X4_setBudget
set_option maxRecDepth 20000 in
theorem ggL_law_L_failures : GoodIn wsL_law wsL_failures := goodIn_ca (goodIn_r _ [216, 173, 217, 218, 219, 2, 220, 221, 179, 180, 181, 182, 183, 184, 18, 601, 602, 603, 562, 563, 564, 565, 566, 567, 568, 569, 570] (by decide +kernel) (by decide +kernel)) (goodIn_sub (fun _ h => List.mem_append_right _ h) (by decide +kernel))
set_option maxRecDepth 20000 in
theorem gL_law_L_failures : GoodIn wsL_law (va_wsS RL 104 yL_failures wsL_failures) := goodIn_app (goodIn_of _ (by decide +kernel)) ggL_law_L_failures
set_option maxRecDepth 20000 in
theorem ggL_law_X4_failures : GoodIn wsL_law wsX4_failures := goodIn_r _ [225, 99, 44, 189, 190, 5, 191, 101, 102, 103, 104, 105, 106, 107, 571, 572, 573, 574, 575, 576, 577, 578, 579, 580, 581, 582, 583, 584, 585, 586, 587, 588, 589, 590, 591, 592, 593, 594, 595, 596] (by decide +kernel) (by decide +kernel)
set_option maxRecDepth 20000 in
theorem gL_law_X4_failures : GoodIn wsL_law (wsV RL 106 RX4 yX4_failures wsX4_failures) := goodIn_app (goodIn_of _ (by decide +kernel)) ggL_law_X4_failures
set_option maxRecDepth 20000 in
theorem ggL_law_L_openFrom : GoodIn wsL_law wsL_openFrom := goodIn_ca (goodIn_r _ [228, 173, 229, 230, 231, 2, 232, 233, 179, 180, 181, 182, 183, 184, 18, 601, 602, 603, 562, 563, 564, 565, 566, 567, 568, 569, 570] (by decide +kernel) (by decide +kernel)) (goodIn_sub (fun _ h => List.mem_append_right _ h) (by decide +kernel))
set_option maxRecDepth 20000 in
theorem gL_law_L_openFrom : GoodIn wsL_law (va_wsS RL 107 yL_openFrom wsL_openFrom) := goodIn_app (goodIn_of _ (by decide +kernel)) ggL_law_L_openFrom
set_option maxRecDepth 20000 in
theorem ggL_law_X4_openFrom : GoodIn wsL_law wsX4_openFrom := goodIn_r _ [237, 99, 45, 189, 190, 5, 191, 101, 102, 103, 104, 105, 106, 107, 571, 572, 573, 574, 575, 576, 577, 578, 579, 580, 581, 582, 583, 584, 585, 586, 587, 588, 589, 590, 591, 592, 593, 594, 595, 596] (by decide +kernel) (by decide +kernel)
set_option maxRecDepth 20000 in
theorem gL_law_X4_openFrom : GoodIn wsL_law (wsV RL 109 RX4 yX4_openFrom wsX4_openFrom) := goodIn_app (goodIn_of _ (by decide +kernel)) ggL_law_X4_openFrom
set_option maxRecDepth 20000 in
theorem ggL_law_L_find : GoodIn wsL_law wsL_find := goodIn_ca (goodIn_ca (goodIn_ca (goodIn_r _ [240, 173, 66, 67, 241, 242, 243, 2, 244, 74, 75, 245, 246, 22, 21, 247, 248, 13, 14, 15, 16, 249, 179, 180, 181, 182, 183, 184, 18, 250, 251, 252, 72, 73, 253, 254, 255, 256, 257, 258, 259, 260, 261, 262, 81, 86, 87, 88, 89, 31, 263, 264, 265, 29, 11, 12, 266, 267, 268, 269, 270, 271, 33, 272, 273, 274, 275, 94, 276, 277, 278, 279, 280, 281, 282, 283, 284, 285, 286, 143, 144, 145, 146, 147, 148, 149, 150, 151, 152, 153, 154, 155, 156, 157, 604, 605, 606, 607, 608, 609, 610, 611, 612, 613, 562, 563, 564, 565, 566, 567, 568, 569, 570, 597, 598, 599, 600] (by decide +kernel) (by decide +kernel)) (goodIn_sub (fun _ h => List.mem_append_left _ (List.mem_append_right _ h)) (by decide +kernel))) (goodIn_sub (fun _ h => List.mem_append_right _ h) (by decide +kernel))) (goodIn_sub (fun _ h => List.mem_append_left _ (List.mem_append_left _ (List.mem_append_right _ h))) (by decide +kernel))
set_option maxRecDepth 20000 in
theorem gL_law_L_find : GoodIn wsL_law (va_wsS RL 110 yL_find wsL_find) := goodIn_app (goodIn_of _ (by decide +kernel)) ggL_law_L_find
set_option maxRecDepth 20000 in
theorem ggL_law_X4_find : GoodIn wsL_law wsX4_find := goodIn_r _ [290, 99, 291, 51, 100, 49, 42, 50, 52, 53, 292, 58, 189, 190, 5, 191, 101, 102, 103, 104, 105, 106, 107, 293, 294, 295, 296, 162, 163, 164, 165, 133, 134, 135, 136, 137, 59, 60, 166, 167, 168, 169, 571, 572, 573, 574, 575, 576, 577, 578, 579, 580, 581, 582, 583, 584, 585, 586, 587, 588, 589, 590, 591, 592, 593, 594, 595, 596] (by decide +kernel) (by decide +kernel)
set_option maxRecDepth 20000 in
theorem gL_law_X4_find : GoodIn wsL_law (wsV RL 112 RX4 yX4_find wsX4_find) := goodIn_app (goodIn_of _ (by decide +kernel)) ggL_law_X4_find
set_option maxRecDepth 20000 in
theorem ggL_law_L_setRank : GoodIn wsL_law wsL_setRank := goodIn_ca (goodIn_ca (goodIn_r _ [299, 173, 66, 300, 301, 302, 2, 303, 304, 305, 306, 307, 308, 183, 184, 22, 250, 251, 252, 72, 73, 604, 605, 606, 607, 608, 609, 610, 611, 612, 613, 562, 563, 564, 565, 566, 567, 568, 569, 570] (by decide +kernel) (by decide +kernel)) (goodIn_sub (fun _ h => List.mem_append_right _ h) (by decide +kernel))) (goodIn_sub (fun _ h => List.mem_append_left _ (List.mem_append_left _ (List.mem_append_right _ h))) (by decide +kernel))
set_option maxRecDepth 20000 in
theorem gL_law_L_setRank : GoodIn wsL_law (va_wsS RL 113 yL_setRank wsL_setRank) := goodIn_app (goodIn_of _ (by decide +kernel)) ggL_law_L_setRank
set_option maxRecDepth 20000 in
theorem ggL_law_X4_setRank : GoodIn wsL_law wsX4_setRank := goodIn_r _ [312, 99, 52, 313, 314, 315, 5, 316, 291, 101, 102, 103, 104, 105, 106, 107, 571, 572, 573, 574, 575, 576, 577, 578, 579, 580, 581, 582, 583, 584, 585, 586, 587, 588, 589, 590, 591, 592, 593, 594, 595, 596] (by decide +kernel) (by decide +kernel)
set_option maxRecDepth 20000 in
theorem gL_law_X4_setRank : GoodIn wsL_law (wsV RL 115 RX4 yX4_setRank wsX4_setRank) := goodIn_app (goodIn_of _ (by decide +kernel)) ggL_law_X4_setRank
set_option maxRecDepth 20000 in
theorem ggL_law_X3_pages : GoodIn wsL_law wsX3_pages := goodIn_r _ [320, 246, 562, 563, 564, 565, 566, 567, 568, 569, 570] (by decide +kernel) (by decide +kernel)
set_option maxRecDepth 20000 in
theorem gL_law_X3_pages : GoodIn wsL_law (wsV RL 116 RX3 yX3_pages wsX3_pages) := goodIn_app (goodIn_of _ (by decide +kernel)) ggL_law_X3_pages
set_option maxRecDepth 20000 in
theorem ggL_law_X4_pages : GoodIn wsL_law wsX4_pages := goodIn_r _ [324, 99, 291, 571, 572, 573, 574, 575, 576, 577, 578, 579, 580, 581, 582, 583, 584, 585, 586, 587, 588, 589, 590, 591, 592, 593, 594, 595, 596] (by decide +kernel) (by decide +kernel)
set_option maxRecDepth 20000 in
theorem gL_law_X4_pages : GoodIn wsL_law (wsV RL 119 RX4 yX4_pages wsX4_pages) := goodIn_app (goodIn_of _ (by decide +kernel)) ggL_law_X4_pages
set_option maxRecDepth 20000 in
theorem ggL_law_L_dueAt : GoodIn wsL_law wsL_dueAt := goodIn_ca (goodIn_r _ [327, 173, 328, 329, 330, 2, 331, 332, 305, 306, 307, 308, 183, 184, 22, 333, 334, 335, 248, 336, 337, 283, 604, 605, 606, 607, 608, 609, 610, 611, 612, 613, 562, 563, 564, 565, 566, 567, 568, 569, 570] (by decide +kernel) (by decide +kernel)) (goodIn_sub (fun _ h => List.mem_append_right _ h) (by decide +kernel))
set_option maxRecDepth 20000 in
theorem gL_law_L_dueAt : GoodIn wsL_law (va_wsS RL 120 yL_dueAt wsL_dueAt) := goodIn_app (goodIn_of _ (by decide +kernel)) ggL_law_L_dueAt
set_option maxRecDepth 20000 in
theorem ggL_law_X4_dueAt : GoodIn wsL_law wsX4_dueAt := goodIn_r _ [341, 53, 342, 343, 344, 5, 345, 99, 313, 314, 315, 316, 291, 101, 102, 103, 346, 347, 348, 349, 57, 58, 571, 572, 573, 574, 575, 576, 577, 578, 579, 580, 581, 582, 583, 584, 585, 586, 587, 588, 589, 590, 591, 592, 593, 594, 595, 596] (by decide +kernel) (by decide +kernel)
set_option maxRecDepth 20000 in
theorem gL_law_X4_dueAt : GoodIn wsL_law (wsV RL 122 RX4 yX4_dueAt wsX4_dueAt) := goodIn_app (goodIn_of _ (by decide +kernel)) ggL_law_X4_dueAt
set_option maxRecDepth 20000 in
theorem ggL_law_L_visits : GoodIn wsL_law wsL_visits := goodIn_ca (goodIn_r _ [352, 173, 353, 354, 355, 2, 356, 357, 305, 306, 307, 308, 183, 184, 22, 604, 605, 606, 607, 608, 609, 610, 611, 612, 613, 562, 563, 564, 565, 566, 567, 568, 569, 570] (by decide +kernel) (by decide +kernel)) (goodIn_sub (fun _ h => List.mem_append_right _ h) (by decide +kernel))
set_option maxRecDepth 20000 in
theorem gL_law_L_visits : GoodIn wsL_law (va_wsS RL 123 yL_visits wsL_visits) := goodIn_app (goodIn_of _ (by decide +kernel)) ggL_law_L_visits
set_option maxRecDepth 20000 in
theorem ggL_law_X4_visits : GoodIn wsL_law wsX4_visits := goodIn_r _ [361, 54, 342, 343, 344, 5, 345, 99, 313, 314, 315, 316, 291, 101, 102, 103, 571, 572, 573, 574, 575, 576, 577, 578, 579, 580, 581, 582, 583, 584, 585, 586, 587, 588, 589, 590, 591, 592, 593, 594, 595, 596] (by decide +kernel) (by decide +kernel)
set_option maxRecDepth 20000 in
theorem gL_law_X4_visits : GoodIn wsL_law (wsV RL 125 RX4 yX4_visits wsX4_visits) := goodIn_app (goodIn_of _ (by decide +kernel)) ggL_law_X4_visits
set_option maxRecDepth 20000 in
theorem ggL_law_L_changes : GoodIn wsL_law wsL_changes := goodIn_ca (goodIn_r _ [364, 173, 365, 366, 367, 2, 368, 369, 305, 306, 307, 308, 183, 184, 22, 604, 605, 606, 607, 608, 609, 610, 611, 612, 613, 562, 563, 564, 565, 566, 567, 568, 569, 570] (by decide +kernel) (by decide +kernel)) (goodIn_sub (fun _ h => List.mem_append_right _ h) (by decide +kernel))
set_option maxRecDepth 20000 in
theorem gL_law_L_changes : GoodIn wsL_law (va_wsS RL 126 yL_changes wsL_changes) := goodIn_app (goodIn_of _ (by decide +kernel)) ggL_law_L_changes
set_option maxRecDepth 20000 in
theorem ggL_law_X4_changes : GoodIn wsL_law wsX4_changes := goodIn_r _ [373, 55, 342, 343, 344, 5, 345, 99, 313, 314, 315, 316, 291, 101, 102, 103, 571, 572, 573, 574, 575, 576, 577, 578, 579, 580, 581, 582, 583, 584, 585, 586, 587, 588, 589, 590, 591, 592, 593, 594, 595, 596] (by decide +kernel) (by decide +kernel)
set_option maxRecDepth 20000 in
theorem gL_law_X4_changes : GoodIn wsL_law (wsV RL 128 RX4 yX4_changes wsX4_changes) := goodIn_app (goodIn_of _ (by decide +kernel)) ggL_law_X4_changes
set_option maxRecDepth 20000 in
theorem ggL_law_L_mayVisit : GoodIn wsL_law wsL_mayVisit := goodIn_ca (goodIn_r _ [376, 173, 377, 378, 379, 2, 380, 305, 306, 307, 308, 183, 184, 22, 381, 382, 383, 384, 249, 333, 334, 335, 248, 336, 337, 283, 385, 386, 387, 388, 332, 257, 233, 389, 390, 391, 392, 393, 394, 395, 396, 25, 397, 398, 399, 400, 401, 562, 563, 564, 565, 566, 567, 568, 569, 570, 604, 605, 606, 607, 608, 609, 610, 611, 612, 613, 601, 602, 603] (by decide +kernel) (by decide +kernel)) (goodIn_sub (fun _ h => List.mem_append_right _ h) (by decide +kernel))
set_option maxRecDepth 20000 in
theorem gL_law_L_mayVisit : GoodIn wsL_law (va_wsS RL 129 yL_mayVisit wsL_mayVisit) := goodIn_app (goodIn_of _ (by decide +kernel)) ggL_law_L_mayVisit
set_option maxRecDepth 20000 in
theorem ggL_law_X4_mayVisit : GoodIn wsL_law wsX4_mayVisit := goodIn_r _ [405, 342, 343, 344, 5, 345, 99, 313, 314, 315, 316, 291, 101, 102, 103, 406, 407, 408, 409, 53, 292, 45, 51, 346, 347, 348, 349, 57, 58, 410, 411, 412, 413, 414, 415, 48, 571, 572, 573, 574, 575, 576, 577, 578, 579, 580, 581, 582, 583, 584, 585, 586, 587, 588, 589, 590, 591, 592, 593, 594, 595, 596] (by decide +kernel) (by decide +kernel)
set_option maxRecDepth 20000 in
theorem gL_law_X4_mayVisit : GoodIn wsL_law (wsV RL 131 RX4 yX4_mayVisit wsX4_mayVisit) := goodIn_app (goodIn_of _ (by decide +kernel)) ggL_law_X4_mayVisit
set_option maxRecDepth 20000 in
theorem ggL_law_X3_next : GoodIn wsL_law wsX3_next := goodIn_r _ [419, 18, 420, 421, 422, 2, 423, 22, 257, 381, 382, 383, 384, 249, 333, 334, 335, 248, 336, 337, 283, 385, 386, 387, 388, 332, 233, 389, 390, 391, 392, 393, 394, 395, 396, 25, 397, 398, 399, 400, 401, 424, 425, 426, 427, 428, 429, 430, 431, 304, 245, 432, 433, 434, 435, 284, 285, 436, 437, 438, 562, 563, 564, 565, 566, 567, 568, 569, 570, 604, 605, 606, 607, 608, 609, 610, 611, 612, 613, 601, 602, 603] (by decide +kernel) (by decide +kernel)
set_option maxRecDepth 20000 in
theorem gL_law_X3_next : GoodIn wsL_law (wsV RL 132 RX3 yX3_next wsX3_next) := goodIn_app (goodIn_of _ (by decide +kernel)) ggL_law_X3_next
set_option maxRecDepth 20000 in
theorem ggL_law_X4_next : GoodIn wsL_law wsX4_next := goodIn_r _ [442, 99, 443, 444, 445, 5, 446, 291, 52, 292, 53, 406, 407, 408, 409, 45, 51, 346, 347, 348, 349, 57, 58, 410, 411, 412, 413, 414, 415, 48, 571, 572, 573, 574, 575, 576, 577, 578, 579, 580, 581, 582, 583, 584, 585, 586, 587, 588, 589, 590, 591, 592, 593, 594, 595, 596] (by decide +kernel) (by decide +kernel)
set_option maxRecDepth 20000 in
theorem gL_law_X4_next : GoodIn wsL_law (wsV RL 135 RX4 yX4_next wsX4_next) := goodIn_app (goodIn_of _ (by decide +kernel)) ggL_law_X4_next
set_option maxRecDepth 20000 in
theorem ggL_law_X3_nextByScan : GoodIn wsL_law wsX3_nextByScan := goodIn_r _ [450, 22, 381, 382, 383, 2, 384, 249, 333, 334, 335, 248, 336, 337, 283, 385, 386, 387, 388, 332, 257, 233, 389, 390, 391, 392, 393, 394, 395, 396, 25, 397, 398, 399, 400, 401, 424, 425, 426, 427, 428, 429, 430, 431, 304, 245, 432, 433, 434, 435, 284, 285, 436, 437, 438, 562, 563, 564, 565, 566, 567, 568, 569, 570, 604, 605, 606, 607, 608, 609, 610, 611, 612, 613, 601, 602, 603] (by decide +kernel) (by decide +kernel)
set_option maxRecDepth 20000 in
theorem gL_law_X3_nextByScan : GoodIn wsL_law (wsV RL 136 RX3 yX3_nextByScan wsX3_nextByScan) := goodIn_app (goodIn_of _ (by decide +kernel)) ggL_law_X3_nextByScan
set_option maxRecDepth 20000 in
theorem ggL_law_X4_nextByScan : GoodIn wsL_law wsX4_nextByScan := goodIn_r _ [454, 99, 443, 444, 445, 5, 446, 291, 52, 292, 53, 406, 407, 408, 409, 45, 51, 346, 347, 348, 349, 57, 58, 410, 411, 412, 413, 414, 415, 48, 571, 572, 573, 574, 575, 576, 577, 578, 579, 580, 581, 582, 583, 584, 585, 586, 587, 588, 589, 590, 591, 592, 593, 594, 595, 596] (by decide +kernel) (by decide +kernel)
set_option maxRecDepth 20000 in
theorem gL_law_X4_nextByScan : GoodIn wsL_law (wsV RL 139 RX4 yX4_nextByScan wsX4_nextByScan) := goodIn_app (goodIn_of _ (by decide +kernel)) ggL_law_X4_nextByScan
set_option maxRecDepth 20000 in
theorem ggL_law_L_visit : GoodIn wsL_law wsL_visit := goodIn_ca (goodIn_ca (goodIn_ca (goodIn_r _ [457, 173, 66, 67, 458, 459, 460, 2, 461, 72, 73, 74, 75, 397, 257, 249, 233, 305, 306, 307, 308, 183, 184, 22, 381, 382, 383, 384, 333, 334, 335, 248, 336, 337, 283, 385, 386, 387, 388, 332, 389, 390, 391, 392, 393, 394, 395, 396, 25, 398, 399, 400, 401, 462, 463, 464, 465, 221, 23, 466, 357, 369, 467, 468, 469, 470, 24, 471, 472, 473, 474, 475, 476, 477, 478, 479, 20, 480, 37, 481, 482, 483, 562, 563, 564, 565, 566, 567, 568, 569, 570, 604, 605, 606, 607, 608, 609, 610, 611, 612, 613, 601, 602, 603] (by decide +kernel) (by decide +kernel)) (goodIn_sub (fun _ h => List.mem_append_left _ (List.mem_append_left _ (List.mem_append_right _ h))) (by decide +kernel))) (goodIn_sub (fun _ h => List.mem_append_left _ (List.mem_append_right _ h)) (by decide +kernel))) (goodIn_sub (fun _ h => List.mem_append_right _ h) (by decide +kernel))
set_option maxRecDepth 20000 in
theorem gL_law_L_visit : GoodIn wsL_law (va_wsS RL 140 yL_visit wsL_visit) := goodIn_app (goodIn_of _ (by decide +kernel)) ggL_law_L_visit
set_option maxRecDepth 20000 in
theorem ggL_law_X4_visit : GoodIn wsL_law wsX4_visit := goodIn_r _ [487, 99, 414, 292, 415, 51, 44, 54, 55, 46, 53, 47, 57, 45, 43, 313, 314, 315, 5, 316, 291, 101, 102, 103, 104, 105, 106, 107, 406, 407, 408, 409, 346, 347, 348, 349, 58, 410, 411, 412, 413, 48, 571, 572, 573, 574, 575, 576, 577, 578, 579, 580, 581, 582, 583, 584, 585, 586, 587, 588, 589, 590, 591, 592, 593, 594, 595, 596] (by decide +kernel) (by decide +kernel)
set_option maxRecDepth 20000 in
theorem gL_law_X4_visit : GoodIn wsL_law (wsV RL 142 RX4 yX4_visit wsX4_visit) := goodIn_app (goodIn_of _ (by decide +kernel)) ggL_law_X4_visit
set_option maxRecDepth 20000 in
theorem ggL_law_L_pass : GoodIn wsL_law wsL_pass := goodIn_ca (goodIn_ca (goodIn_r _ [490, 66, 67, 491, 492, 493, 2, 494, 72, 73, 74, 75, 249, 495, 397, 398, 399, 400, 401, 562, 563, 564, 565, 566, 567, 568, 569, 570] (by decide +kernel) (by decide +kernel)) (goodIn_sub (fun _ h => List.mem_append_left _ (List.mem_append_left _ (List.mem_append_right _ h))) (by decide +kernel))) (goodIn_sub (fun _ h => List.mem_append_left _ (List.mem_append_right _ h)) (by decide +kernel))
set_option maxRecDepth 20000 in
theorem gL_law_L_pass : GoodIn wsL_law (va_wsS RL 143 yL_pass wsL_pass) := goodIn_app (goodIn_of _ (by decide +kernel)) ggL_law_L_pass
set_option maxRecDepth 20000 in
theorem ggL_law_X4_pass : GoodIn wsL_law wsX4_pass := goodIn_r _ [499, 99, 292, 500, 101, 102, 5, 103, 104, 105, 106, 107, 571, 572, 573, 574, 575, 576, 577, 578, 579, 580, 581, 582, 583, 584, 585, 586, 587, 588, 589, 590, 591, 592, 593, 594, 595, 596] (by decide +kernel) (by decide +kernel)
set_option maxRecDepth 20000 in
theorem gL_law_X4_pass : GoodIn wsL_law (wsV RL 145 RX4 yX4_pass wsX4_pass) := goodIn_app (goodIn_of _ (by decide +kernel)) ggL_law_X4_pass
set_option maxRecDepth 20000 in
theorem ggL_law_X3_now : GoodIn wsL_law wsX3_now := goodIn_r _ [504, 249, 562, 563, 564, 565, 566, 567, 568, 569, 570] (by decide +kernel) (by decide +kernel)
set_option maxRecDepth 20000 in
theorem gL_law_X3_now : GoodIn wsL_law (wsV RL 146 RX3 yX3_now wsX3_now) := goodIn_app (goodIn_of _ (by decide +kernel)) ggL_law_X3_now
set_option maxRecDepth 20000 in
theorem ggL_law_X4_now : GoodIn wsL_law wsX4_now := goodIn_r _ [508, 99, 292, 571, 572, 573, 574, 575, 576, 577, 578, 579, 580, 581, 582, 583, 584, 585, 586, 587, 588, 589, 590, 591, 592, 593, 594, 595, 596] (by decide +kernel) (by decide +kernel)
set_option maxRecDepth 20000 in
theorem gL_law_X4_now : GoodIn wsL_law (wsV RL 149 RX4 yX4_now wsX4_now) := goodIn_app (goodIn_of _ (by decide +kernel)) ggL_law_X4_now
set_option maxRecDepth 20000 in
theorem ggL_law_X3_budgetLeft : GoodIn wsL_law wsX3_budgetLeft := goodIn_r _ [396, 25, 397, 389, 390, 391, 392, 562, 563, 564, 565, 566, 567, 568, 569, 570] (by decide +kernel) (by decide +kernel)
set_option maxRecDepth 20000 in
theorem gL_law_X3_budgetLeft : GoodIn wsL_law (wsV RL 150 RX3 yX3_budgetLeft wsX3_budgetLeft) := goodIn_app (goodIn_of _ (by decide +kernel)) ggL_law_X3_budgetLeft
set_option maxRecDepth 20000 in
theorem ggL_law_X4_budgetLeft : GoodIn wsL_law wsX4_budgetLeft := goodIn_r _ [513, 99, 410, 411, 412, 5, 413, 414, 292, 415, 48, 571, 572, 573, 574, 575, 576, 577, 578, 579, 580, 581, 582, 583, 584, 585, 586, 587, 588, 589, 590, 591, 592, 593, 594, 595, 596] (by decide +kernel) (by decide +kernel)
set_option maxRecDepth 20000 in
theorem gL_law_X4_budgetLeft : GoodIn wsL_law (wsV RL 153 RX4 yX4_budgetLeft wsX4_budgetLeft) := goodIn_app (goodIn_of _ (by decide +kernel)) ggL_law_X4_budgetLeft
set_option maxRecDepth 20000 in
theorem ggL_law_X3_waiting : GoodIn wsL_law wsX3_waiting := goodIn_r _ [517, 22, 249, 471, 472, 391, 473, 333, 334, 335, 248, 336, 337, 283, 385, 386, 387, 2, 388, 332, 257, 233, 389, 390, 392, 393, 394, 395, 396, 25, 397, 398, 399, 400, 401, 562, 563, 564, 565, 566, 567, 568, 569, 570, 604, 605, 606, 607, 608, 609, 610, 611, 612, 613, 601, 602, 603] (by decide +kernel) (by decide +kernel)
set_option maxRecDepth 20000 in
theorem gL_law_X3_waiting : GoodIn wsL_law (wsV RL 154 RX3 yX3_waiting wsX3_waiting) := goodIn_app (goodIn_of _ (by decide +kernel)) ggL_law_X3_waiting
set_option maxRecDepth 20000 in
theorem ggL_law_X4_waiting : GoodIn wsL_law wsX4_waiting := goodIn_r _ [521, 99, 291, 53, 45, 51, 292, 410, 411, 412, 5, 413, 414, 415, 48, 346, 347, 348, 349, 57, 58, 571, 572, 573, 574, 575, 576, 577, 578, 579, 580, 581, 582, 583, 584, 585, 586, 587, 588, 589, 590, 591, 592, 593, 594, 595, 596] (by decide +kernel) (by decide +kernel)
set_option maxRecDepth 20000 in
theorem gL_law_X4_waiting : GoodIn wsL_law (wsV RL 157 RX4 yX4_waiting wsX4_waiting) := goodIn_app (goodIn_of _ (by decide +kernel)) ggL_law_X4_waiting
set_option maxRecDepth 20000 in
theorem ggL_law_L_share : GoodIn wsL_law wsL_share := goodIn_ca (goodIn_ca (goodIn_r _ [524, 173, 66, 525, 526, 527, 2, 528, 72, 73, 529, 305, 306, 307, 308, 183, 184, 22, 530, 531, 532, 533, 534, 535, 536, 537, 333, 334, 335, 248, 336, 337, 283, 538, 539, 540, 541, 542, 543, 544, 545, 284, 546, 547, 548, 549, 550, 551, 552, 604, 605, 606, 607, 608, 609, 610, 611, 612, 613, 562, 563, 564, 565, 566, 567, 568, 569, 570] (by decide +kernel) (by decide +kernel)) (goodIn_sub (fun _ h => List.mem_append_left _ (List.mem_append_left _ (List.mem_append_right _ h))) (by decide +kernel))) (goodIn_sub (fun _ h => List.mem_append_right _ h) (by decide +kernel))
set_option maxRecDepth 20000 in
theorem gL_law_L_share : GoodIn wsL_law (va_wsS RL 158 yL_share wsL_share) := goodIn_app (goodIn_of _ (by decide +kernel)) ggL_law_L_share
set_option maxRecDepth 20000 in
theorem ggL_law_X4_share : GoodIn wsL_law wsX4_share := goodIn_r _ [556, 99, 291, 61, 313, 314, 315, 5, 316, 101, 102, 103, 104, 105, 106, 107, 346, 347, 348, 349, 57, 58, 557, 558, 559, 560, 52, 55, 561, 571, 572, 573, 574, 575, 576, 577, 578, 579, 580, 581, 582, 583, 584, 585, 586, 587, 588, 589, 590, 591, 592, 593, 594, 595, 596] (by decide +kernel) (by decide +kernel)
set_option maxRecDepth 20000 in
theorem gL_law_X4_share : GoodIn wsL_law (wsV RL 160 RX4 yX4_share wsX4_share) := goodIn_app (goodIn_of _ (by decide +kernel)) ggL_law_X4_share
end
section
theorem dL_law_0 : decode cL_law 0 = .ok (.new 8, 3) := by decide +kernel
theorem dL_law_3 : decode cL_law 3 = .ok (.dup, 1) := by decide +kernel
theorem dL_law_4 : decode cL_law 4 = .ok (.invokespecial 65, 3) := by decide +kernel
theorem dL_law_7 : decode cL_law 7 = .ok (.astore_n 1, 1) := by decide +kernel
theorem dL_law_8 : decode cL_law 8 = .ok (.new 66, 3) := by decide +kernel
theorem dL_law_11 : decode cL_law 11 = .ok (.dup, 1) := by decide +kernel
theorem dL_law_12 : decode cL_law 12 = .ok (.invokespecial 68, 3) := by decide +kernel
theorem dL_law_15 : decode cL_law 15 = .ok (.astore_n 2, 1) := by decide +kernel
theorem dL_law_16 : decode cL_law 16 = .ok (.iconst 1, 1) := by decide +kernel
theorem dL_law_17 : decode cL_law 17 = .ok (.newarray .long, 2) := by decide +kernel
theorem dL_law_19 : decode cL_law 19 = .ok (.astore_n 3, 1) := by decide +kernel
theorem dL_law_20 : decode cL_law 20 = .ok (.iconst 0, 1) := by decide +kernel
theorem dL_law_21 : decode cL_law 21 = .ok (.istore 4, 2) := by decide +kernel
theorem dL_law_23 : decode cL_law 23 = .ok (.iload 4, 2) := by decide +kernel
theorem dL_law_25 : decode cL_law 25 = .ok (.aload_n 0, 1) := by decide +kernel
theorem dL_law_26 : decode cL_law 26 = .ok (.arraylength, 1) := by decide +kernel
theorem dL_law_27 : decode cL_law 27 = .ok (.iconst 3, 1) := by decide +kernel
theorem dL_law_28 : decode cL_law 28 = .ok (.isub, 1) := by decide +kernel
theorem dL_law_29 : decode cL_law 29 = .ok (.if_icmp .gt 1143, 3) := by decide +kernel
theorem dL_law_32 : decode cL_law 32 = .ok (.aload_n 0, 1) := by decide +kernel
theorem dL_law_33 : decode cL_law 33 = .ok (.iload 4, 2) := by decide +kernel
theorem dL_law_35 : decode cL_law 35 = .ok (.iaload, 1) := by decide +kernel
theorem dL_law_36 : decode cL_law 36 = .ok (.bipush 31, 2) := by decide +kernel
theorem dL_law_38 : decode cL_law 38 = .ok (.iand, 1) := by decide +kernel
theorem dL_law_39 : decode cL_law 39 = .ok (.tableswitch 1127 0 23 #[109, 167, 180, 193, 206, 274, 322, 378, 434, 490, 558, 626, 639, 695, 751, 807, 870, 883, 896, 964, 1020, 1033, 1046, 1059], 109) := by decide +kernel
theorem dL_law_148 : decode cL_law 148 = .ok (.aload_n 1, 1) := by decide +kernel
theorem dL_law_149 : decode cL_law 149 = .ok (.aload_n 0, 1) := by decide +kernel
theorem dL_law_150 : decode cL_law 150 = .ok (.iload 4, 2) := by decide +kernel
theorem dL_law_152 : decode cL_law 152 = .ok (.iconst 1, 1) := by decide +kernel
theorem dL_law_153 : decode cL_law 153 = .ok (.iadd, 1) := by decide +kernel
theorem dL_law_154 : decode cL_law 154 = .ok (.iaload, 1) := by decide +kernel
theorem dL_law_155 : decode cL_law 155 = .ok (.i2c, 1) := by decide +kernel
theorem dL_law_156 : decode cL_law 156 = .ok (.aload_n 3, 1) := by decide +kernel
theorem dL_law_157 : decode cL_law 157 = .ok (.invokestatic 69, 3) := by decide +kernel
theorem dL_law_160 : decode cL_law 160 = .ok (.istore 5, 2) := by decide +kernel
theorem dL_law_162 : decode cL_law 162 = .ok (.aload_n 2, 1) := by decide +kernel
theorem dL_law_163 : decode cL_law 163 = .ok (.aload_n 0, 1) := by decide +kernel
theorem dL_law_164 : decode cL_law 164 = .ok (.iload 4, 2) := by decide +kernel
theorem dL_law_166 : decode cL_law 166 = .ok (.iconst 1, 1) := by decide +kernel
theorem dL_law_167 : decode cL_law 167 = .ok (.iadd, 1) := by decide +kernel
theorem dL_law_168 : decode cL_law 168 = .ok (.iaload, 1) := by decide +kernel
theorem dL_law_169 : decode cL_law 169 = .ok (.i2c, 1) := by decide +kernel
theorem dL_law_170 : decode cL_law 170 = .ok (.invokevirtual 74, 3) := by decide +kernel
theorem dL_law_173 : decode cL_law 173 = .ok (.istore 6, 2) := by decide +kernel
theorem dL_law_175 : decode cL_law 175 = .ok (.aload_n 2, 1) := by decide +kernel
theorem dL_law_176 : decode cL_law 176 = .ok (.invokevirtual 75, 3) := by decide +kernel
theorem dL_law_179 : decode cL_law 179 = .ok (.iload 5, 2) := by decide +kernel
theorem dL_law_181 : decode cL_law 181 = .ok (.if_icmp .eq 5, 3) := by decide +kernel
theorem dL_law_184 : decode cL_law 184 = .ok (.iconst 0, 1) := by decide +kernel
theorem dL_law_185 : decode cL_law 185 = .ok (.ireturn, 1) := by decide +kernel
theorem dL_law_186 : decode cL_law 186 = .ok (.iload 5, 2) := by decide +kernel
theorem dL_law_188 : decode cL_law 188 = .ok (.ifCond .ne 15, 3) := by decide +kernel
theorem dL_law_191 : decode cL_law 191 = .ok (.aload_n 3, 1) := by decide +kernel
theorem dL_law_192 : decode cL_law 192 = .ok (.iconst 0, 1) := by decide +kernel
theorem dL_law_193 : decode cL_law 193 = .ok (.laload, 1) := by decide +kernel
theorem dL_law_194 : decode cL_law 194 = .ok (.iload 6, 2) := by decide +kernel
theorem dL_law_196 : decode cL_law 196 = .ok (.i2l, 1) := by decide +kernel
theorem dL_law_197 : decode cL_law 197 = .ok (.lcmp, 1) := by decide +kernel
theorem dL_law_198 : decode cL_law 198 = .ok (.ifCond .eq 5, 3) := by decide +kernel
theorem dL_law_201 : decode cL_law 201 = .ok (.iconst 0, 1) := by decide +kernel
theorem dL_law_202 : decode cL_law 202 = .ok (.ireturn, 1) := by decide +kernel
theorem dL_law_203 : decode cL_law 203 = .ok (.goto 963, 3) := by decide +kernel
theorem dL_law_206 : decode cL_law 206 = .ok (.aload_n 1, 1) := by decide +kernel
theorem dL_law_207 : decode cL_law 207 = .ok (.invokevirtual 79, 3) := by decide +kernel
theorem dL_law_210 : decode cL_law 210 = .ok (.aload_n 2, 1) := by decide +kernel
theorem dL_law_211 : decode cL_law 211 = .ok (.invokevirtual 82, 3) := by decide +kernel
theorem dL_law_214 : decode cL_law 214 = .ok (.if_icmp .eq 952, 3) := by decide +kernel
theorem dL_law_217 : decode cL_law 217 = .ok (.iconst 0, 1) := by decide +kernel
theorem dL_law_218 : decode cL_law 218 = .ok (.ireturn, 1) := by decide +kernel
theorem dL_law_219 : decode cL_law 219 = .ok (.aload_n 1, 1) := by decide +kernel
theorem dL_law_220 : decode cL_law 220 = .ok (.invokevirtual 83, 3) := by decide +kernel
theorem dL_law_223 : decode cL_law 223 = .ok (.aload_n 2, 1) := by decide +kernel
theorem dL_law_224 : decode cL_law 224 = .ok (.invokevirtual 86, 3) := by decide +kernel
theorem dL_law_227 : decode cL_law 227 = .ok (.if_icmp .eq 939, 3) := by decide +kernel
theorem dL_law_230 : decode cL_law 230 = .ok (.iconst 0, 1) := by decide +kernel
theorem dL_law_231 : decode cL_law 231 = .ok (.ireturn, 1) := by decide +kernel
theorem dL_law_232 : decode cL_law 232 = .ok (.aload_n 1, 1) := by decide +kernel
theorem dL_law_233 : decode cL_law 233 = .ok (.invokevirtual 87, 3) := by decide +kernel
theorem dL_law_236 : decode cL_law 236 = .ok (.aload_n 2, 1) := by decide +kernel
theorem dL_law_237 : decode cL_law 237 = .ok (.invokevirtual 91, 3) := by decide +kernel
theorem dL_law_240 : decode cL_law 240 = .ok (.if_icmp .eq 926, 3) := by decide +kernel
theorem dL_law_243 : decode cL_law 243 = .ok (.iconst 0, 1) := by decide +kernel
theorem dL_law_244 : decode cL_law 244 = .ok (.ireturn, 1) := by decide +kernel
theorem dL_law_245 : decode cL_law 245 = .ok (.aload_n 1, 1) := by decide +kernel
theorem dL_law_246 : decode cL_law 246 = .ok (.aload_n 0, 1) := by decide +kernel
theorem dL_law_247 : decode cL_law 247 = .ok (.iload 4, 2) := by decide +kernel
theorem dL_law_249 : decode cL_law 249 = .ok (.iconst 1, 1) := by decide +kernel
theorem dL_law_250 : decode cL_law 250 = .ok (.iadd, 1) := by decide +kernel
theorem dL_law_251 : decode cL_law 251 = .ok (.iaload, 1) := by decide +kernel
theorem dL_law_252 : decode cL_law 252 = .ok (.aload_n 0, 1) := by decide +kernel
theorem dL_law_253 : decode cL_law 253 = .ok (.iload 4, 2) := by decide +kernel
theorem dL_law_255 : decode cL_law 255 = .ok (.iconst 2, 1) := by decide +kernel
theorem dL_law_256 : decode cL_law 256 = .ok (.iadd, 1) := by decide +kernel
theorem dL_law_257 : decode cL_law 257 = .ok (.iaload, 1) := by decide +kernel
theorem dL_law_258 : decode cL_law 258 = .ok (.aload_n 3, 1) := by decide +kernel
theorem dL_law_259 : decode cL_law 259 = .ok (.invokestatic 92, 3) := by decide +kernel
theorem dL_law_262 : decode cL_law 262 = .ok (.istore 5, 2) := by decide +kernel
theorem dL_law_264 : decode cL_law 264 = .ok (.aload_n 2, 1) := by decide +kernel
theorem dL_law_265 : decode cL_law 265 = .ok (.aload_n 0, 1) := by decide +kernel
theorem dL_law_266 : decode cL_law 266 = .ok (.iload 4, 2) := by decide +kernel
theorem dL_law_268 : decode cL_law 268 = .ok (.iconst 1, 1) := by decide +kernel
theorem dL_law_269 : decode cL_law 269 = .ok (.iadd, 1) := by decide +kernel
theorem dL_law_270 : decode cL_law 270 = .ok (.iaload, 1) := by decide +kernel
theorem dL_law_271 : decode cL_law 271 = .ok (.aload_n 0, 1) := by decide +kernel
theorem dL_law_272 : decode cL_law 272 = .ok (.iload 4, 2) := by decide +kernel
theorem dL_law_274 : decode cL_law 274 = .ok (.iconst 2, 1) := by decide +kernel
theorem dL_law_275 : decode cL_law 275 = .ok (.iadd, 1) := by decide +kernel
theorem dL_law_276 : decode cL_law 276 = .ok (.iaload, 1) := by decide +kernel
theorem dL_law_277 : decode cL_law 277 = .ok (.invokevirtual 95, 3) := by decide +kernel
theorem dL_law_280 : decode cL_law 280 = .ok (.istore 6, 2) := by decide +kernel
theorem dL_law_282 : decode cL_law 282 = .ok (.aload_n 2, 1) := by decide +kernel
theorem dL_law_283 : decode cL_law 283 = .ok (.invokevirtual 75, 3) := by decide +kernel
theorem dL_law_286 : decode cL_law 286 = .ok (.iload 5, 2) := by decide +kernel
theorem dL_law_288 : decode cL_law 288 = .ok (.if_icmp .eq 5, 3) := by decide +kernel
theorem dL_law_291 : decode cL_law 291 = .ok (.iconst 0, 1) := by decide +kernel
theorem dL_law_292 : decode cL_law 292 = .ok (.ireturn, 1) := by decide +kernel
theorem dL_law_293 : decode cL_law 293 = .ok (.iload 5, 2) := by decide +kernel
theorem dL_law_295 : decode cL_law 295 = .ok (.ifCond .ne 15, 3) := by decide +kernel
theorem dL_law_298 : decode cL_law 298 = .ok (.aload_n 3, 1) := by decide +kernel
theorem dL_law_299 : decode cL_law 299 = .ok (.iconst 0, 1) := by decide +kernel
theorem dL_law_300 : decode cL_law 300 = .ok (.laload, 1) := by decide +kernel
theorem dL_law_301 : decode cL_law 301 = .ok (.iload 6, 2) := by decide +kernel
theorem dL_law_303 : decode cL_law 303 = .ok (.i2l, 1) := by decide +kernel
theorem dL_law_304 : decode cL_law 304 = .ok (.lcmp, 1) := by decide +kernel
theorem dL_law_305 : decode cL_law 305 = .ok (.ifCond .eq 5, 3) := by decide +kernel
theorem dL_law_308 : decode cL_law 308 = .ok (.iconst 0, 1) := by decide +kernel
theorem dL_law_309 : decode cL_law 309 = .ok (.ireturn, 1) := by decide +kernel
theorem dL_law_310 : decode cL_law 310 = .ok (.goto 856, 3) := by decide +kernel
theorem dL_law_313 : decode cL_law 313 = .ok (.aload_n 1, 1) := by decide +kernel
theorem dL_law_314 : decode cL_law 314 = .ok (.aload_n 0, 1) := by decide +kernel
theorem dL_law_315 : decode cL_law 315 = .ok (.iload 4, 2) := by decide +kernel
theorem dL_law_317 : decode cL_law 317 = .ok (.iconst 1, 1) := by decide +kernel
theorem dL_law_318 : decode cL_law 318 = .ok (.iadd, 1) := by decide +kernel
theorem dL_law_319 : decode cL_law 319 = .ok (.iaload, 1) := by decide +kernel
theorem dL_law_320 : decode cL_law 320 = .ok (.aload_n 0, 1) := by decide +kernel
theorem dL_law_321 : decode cL_law 321 = .ok (.iload 4, 2) := by decide +kernel
theorem dL_law_323 : decode cL_law 323 = .ok (.iconst 2, 1) := by decide +kernel
theorem dL_law_324 : decode cL_law 324 = .ok (.iadd, 1) := by decide +kernel
theorem dL_law_325 : decode cL_law 325 = .ok (.iaload, 1) := by decide +kernel
theorem dL_law_326 : decode cL_law 326 = .ok (.invokestatic 96, 3) := by decide +kernel
theorem dL_law_329 : decode cL_law 329 = .ok (.istore 5, 2) := by decide +kernel
theorem dL_law_331 : decode cL_law 331 = .ok (.aload_n 2, 1) := by decide +kernel
theorem dL_law_332 : decode cL_law 332 = .ok (.aload_n 0, 1) := by decide +kernel
theorem dL_law_333 : decode cL_law 333 = .ok (.iload 4, 2) := by decide +kernel
theorem dL_law_335 : decode cL_law 335 = .ok (.iconst 1, 1) := by decide +kernel
theorem dL_law_336 : decode cL_law 336 = .ok (.iadd, 1) := by decide +kernel
theorem dL_law_337 : decode cL_law 337 = .ok (.iaload, 1) := by decide +kernel
theorem dL_law_338 : decode cL_law 338 = .ok (.aload_n 0, 1) := by decide +kernel
theorem dL_law_339 : decode cL_law 339 = .ok (.iload 4, 2) := by decide +kernel
theorem dL_law_341 : decode cL_law 341 = .ok (.iconst 2, 1) := by decide +kernel
theorem dL_law_342 : decode cL_law 342 = .ok (.iadd, 1) := by decide +kernel
theorem dL_law_343 : decode cL_law 343 = .ok (.iaload, 1) := by decide +kernel
theorem dL_law_344 : decode cL_law 344 = .ok (.invokevirtual 99, 3) := by decide +kernel
theorem dL_law_347 : decode cL_law 347 = .ok (.aload_n 2, 1) := by decide +kernel
theorem dL_law_348 : decode cL_law 348 = .ok (.invokevirtual 75, 3) := by decide +kernel
theorem dL_law_351 : decode cL_law 351 = .ok (.iload 5, 2) := by decide +kernel
theorem dL_law_353 : decode cL_law 353 = .ok (.if_icmp .eq 5, 3) := by decide +kernel
theorem dL_law_356 : decode cL_law 356 = .ok (.iconst 0, 1) := by decide +kernel
theorem dL_law_357 : decode cL_law 357 = .ok (.ireturn, 1) := by decide +kernel
theorem dL_law_358 : decode cL_law 358 = .ok (.goto 808, 3) := by decide +kernel
theorem dL_law_361 : decode cL_law 361 = .ok (.aload_n 1, 1) := by decide +kernel
theorem dL_law_362 : decode cL_law 362 = .ok (.aload_n 0, 1) := by decide +kernel
theorem dL_law_363 : decode cL_law 363 = .ok (.iload 4, 2) := by decide +kernel
theorem dL_law_365 : decode cL_law 365 = .ok (.iconst 1, 1) := by decide +kernel
theorem dL_law_366 : decode cL_law 366 = .ok (.iadd, 1) := by decide +kernel
theorem dL_law_367 : decode cL_law 367 = .ok (.iaload, 1) := by decide +kernel
theorem dL_law_368 : decode cL_law 368 = .ok (.aload_n 3, 1) := by decide +kernel
theorem dL_law_369 : decode cL_law 369 = .ok (.invokestatic 100, 3) := by decide +kernel
theorem dL_law_372 : decode cL_law 372 = .ok (.istore 5, 2) := by decide +kernel
theorem dL_law_374 : decode cL_law 374 = .ok (.aload_n 2, 1) := by decide +kernel
theorem dL_law_375 : decode cL_law 375 = .ok (.aload_n 0, 1) := by decide +kernel
theorem dL_law_376 : decode cL_law 376 = .ok (.iload 4, 2) := by decide +kernel
theorem dL_law_378 : decode cL_law 378 = .ok (.iconst 1, 1) := by decide +kernel
theorem dL_law_379 : decode cL_law 379 = .ok (.iadd, 1) := by decide +kernel
theorem dL_law_380 : decode cL_law 380 = .ok (.iaload, 1) := by decide +kernel
theorem dL_law_381 : decode cL_law 381 = .ok (.invokevirtual 103, 3) := by decide +kernel
theorem dL_law_384 : decode cL_law 384 = .ok (.istore 6, 2) := by decide +kernel
theorem dL_law_386 : decode cL_law 386 = .ok (.aload_n 2, 1) := by decide +kernel
theorem dL_law_387 : decode cL_law 387 = .ok (.invokevirtual 75, 3) := by decide +kernel
theorem dL_law_390 : decode cL_law 390 = .ok (.iload 5, 2) := by decide +kernel
theorem dL_law_392 : decode cL_law 392 = .ok (.if_icmp .eq 5, 3) := by decide +kernel
theorem dL_law_395 : decode cL_law 395 = .ok (.iconst 0, 1) := by decide +kernel
theorem dL_law_396 : decode cL_law 396 = .ok (.ireturn, 1) := by decide +kernel
theorem dL_law_397 : decode cL_law 397 = .ok (.iload 5, 2) := by decide +kernel
theorem dL_law_399 : decode cL_law 399 = .ok (.ifCond .ne 15, 3) := by decide +kernel
theorem dL_law_402 : decode cL_law 402 = .ok (.aload_n 3, 1) := by decide +kernel
theorem dL_law_403 : decode cL_law 403 = .ok (.iconst 0, 1) := by decide +kernel
theorem dL_law_404 : decode cL_law 404 = .ok (.laload, 1) := by decide +kernel
theorem dL_law_405 : decode cL_law 405 = .ok (.iload 6, 2) := by decide +kernel
theorem dL_law_407 : decode cL_law 407 = .ok (.i2l, 1) := by decide +kernel
theorem dL_law_408 : decode cL_law 408 = .ok (.lcmp, 1) := by decide +kernel
theorem dL_law_409 : decode cL_law 409 = .ok (.ifCond .eq 5, 3) := by decide +kernel
theorem dL_law_412 : decode cL_law 412 = .ok (.iconst 0, 1) := by decide +kernel
theorem dL_law_413 : decode cL_law 413 = .ok (.ireturn, 1) := by decide +kernel
theorem dL_law_414 : decode cL_law 414 = .ok (.goto 752, 3) := by decide +kernel
theorem dL_law_417 : decode cL_law 417 = .ok (.aload_n 1, 1) := by decide +kernel
theorem dL_law_418 : decode cL_law 418 = .ok (.aload_n 0, 1) := by decide +kernel
theorem dL_law_419 : decode cL_law 419 = .ok (.iload 4, 2) := by decide +kernel
theorem dL_law_421 : decode cL_law 421 = .ok (.iconst 1, 1) := by decide +kernel
theorem dL_law_422 : decode cL_law 422 = .ok (.iadd, 1) := by decide +kernel
theorem dL_law_423 : decode cL_law 423 = .ok (.iaload, 1) := by decide +kernel
theorem dL_law_424 : decode cL_law 424 = .ok (.aload_n 3, 1) := by decide +kernel
theorem dL_law_425 : decode cL_law 425 = .ok (.invokestatic 104, 3) := by decide +kernel
theorem dL_law_428 : decode cL_law 428 = .ok (.istore 5, 2) := by decide +kernel
theorem dL_law_430 : decode cL_law 430 = .ok (.aload_n 2, 1) := by decide +kernel
theorem dL_law_431 : decode cL_law 431 = .ok (.aload_n 0, 1) := by decide +kernel
theorem dL_law_432 : decode cL_law 432 = .ok (.iload 4, 2) := by decide +kernel
theorem dL_law_434 : decode cL_law 434 = .ok (.iconst 1, 1) := by decide +kernel
theorem dL_law_435 : decode cL_law 435 = .ok (.iadd, 1) := by decide +kernel
theorem dL_law_436 : decode cL_law 436 = .ok (.iaload, 1) := by decide +kernel
theorem dL_law_437 : decode cL_law 437 = .ok (.invokevirtual 106, 3) := by decide +kernel
theorem dL_law_440 : decode cL_law 440 = .ok (.istore 6, 2) := by decide +kernel
theorem dL_law_442 : decode cL_law 442 = .ok (.aload_n 2, 1) := by decide +kernel
theorem dL_law_443 : decode cL_law 443 = .ok (.invokevirtual 75, 3) := by decide +kernel
theorem dL_law_446 : decode cL_law 446 = .ok (.iload 5, 2) := by decide +kernel
theorem dL_law_448 : decode cL_law 448 = .ok (.if_icmp .eq 5, 3) := by decide +kernel
theorem dL_law_451 : decode cL_law 451 = .ok (.iconst 0, 1) := by decide +kernel
theorem dL_law_452 : decode cL_law 452 = .ok (.ireturn, 1) := by decide +kernel
theorem dL_law_453 : decode cL_law 453 = .ok (.iload 5, 2) := by decide +kernel
theorem dL_law_455 : decode cL_law 455 = .ok (.ifCond .ne 15, 3) := by decide +kernel
theorem dL_law_458 : decode cL_law 458 = .ok (.aload_n 3, 1) := by decide +kernel
theorem dL_law_459 : decode cL_law 459 = .ok (.iconst 0, 1) := by decide +kernel
theorem dL_law_460 : decode cL_law 460 = .ok (.laload, 1) := by decide +kernel
theorem dL_law_461 : decode cL_law 461 = .ok (.iload 6, 2) := by decide +kernel
theorem dL_law_463 : decode cL_law 463 = .ok (.i2l, 1) := by decide +kernel
theorem dL_law_464 : decode cL_law 464 = .ok (.lcmp, 1) := by decide +kernel
theorem dL_law_465 : decode cL_law 465 = .ok (.ifCond .eq 5, 3) := by decide +kernel
theorem dL_law_468 : decode cL_law 468 = .ok (.iconst 0, 1) := by decide +kernel
theorem dL_law_469 : decode cL_law 469 = .ok (.ireturn, 1) := by decide +kernel
theorem dL_law_470 : decode cL_law 470 = .ok (.goto 696, 3) := by decide +kernel
theorem dL_law_473 : decode cL_law 473 = .ok (.aload_n 1, 1) := by decide +kernel
theorem dL_law_474 : decode cL_law 474 = .ok (.aload_n 0, 1) := by decide +kernel
theorem dL_law_475 : decode cL_law 475 = .ok (.iload 4, 2) := by decide +kernel
theorem dL_law_477 : decode cL_law 477 = .ok (.iconst 1, 1) := by decide +kernel
theorem dL_law_478 : decode cL_law 478 = .ok (.iadd, 1) := by decide +kernel
theorem dL_law_479 : decode cL_law 479 = .ok (.iaload, 1) := by decide +kernel
theorem dL_law_480 : decode cL_law 480 = .ok (.aload_n 3, 1) := by decide +kernel
theorem dL_law_481 : decode cL_law 481 = .ok (.invokestatic 107, 3) := by decide +kernel
theorem dL_law_484 : decode cL_law 484 = .ok (.istore 5, 2) := by decide +kernel
theorem dL_law_486 : decode cL_law 486 = .ok (.aload_n 2, 1) := by decide +kernel
theorem dL_law_487 : decode cL_law 487 = .ok (.aload_n 0, 1) := by decide +kernel
theorem dL_law_488 : decode cL_law 488 = .ok (.iload 4, 2) := by decide +kernel
theorem dL_law_490 : decode cL_law 490 = .ok (.iconst 1, 1) := by decide +kernel
theorem dL_law_491 : decode cL_law 491 = .ok (.iadd, 1) := by decide +kernel
theorem dL_law_492 : decode cL_law 492 = .ok (.iaload, 1) := by decide +kernel
theorem dL_law_493 : decode cL_law 493 = .ok (.invokevirtual 109, 3) := by decide +kernel
theorem dL_law_496 : decode cL_law 496 = .ok (.istore 6, 2) := by decide +kernel
theorem dL_law_498 : decode cL_law 498 = .ok (.aload_n 2, 1) := by decide +kernel
theorem dL_law_499 : decode cL_law 499 = .ok (.invokevirtual 75, 3) := by decide +kernel
theorem dL_law_502 : decode cL_law 502 = .ok (.iload 5, 2) := by decide +kernel
theorem dL_law_504 : decode cL_law 504 = .ok (.if_icmp .eq 5, 3) := by decide +kernel
theorem dL_law_507 : decode cL_law 507 = .ok (.iconst 0, 1) := by decide +kernel
theorem dL_law_508 : decode cL_law 508 = .ok (.ireturn, 1) := by decide +kernel
theorem dL_law_509 : decode cL_law 509 = .ok (.iload 5, 2) := by decide +kernel
theorem dL_law_511 : decode cL_law 511 = .ok (.ifCond .ne 15, 3) := by decide +kernel
theorem dL_law_514 : decode cL_law 514 = .ok (.aload_n 3, 1) := by decide +kernel
theorem dL_law_515 : decode cL_law 515 = .ok (.iconst 0, 1) := by decide +kernel
theorem dL_law_516 : decode cL_law 516 = .ok (.laload, 1) := by decide +kernel
theorem dL_law_517 : decode cL_law 517 = .ok (.iload 6, 2) := by decide +kernel
theorem dL_law_519 : decode cL_law 519 = .ok (.i2l, 1) := by decide +kernel
theorem dL_law_520 : decode cL_law 520 = .ok (.lcmp, 1) := by decide +kernel
theorem dL_law_521 : decode cL_law 521 = .ok (.ifCond .eq 5, 3) := by decide +kernel
theorem dL_law_524 : decode cL_law 524 = .ok (.iconst 0, 1) := by decide +kernel
theorem dL_law_525 : decode cL_law 525 = .ok (.ireturn, 1) := by decide +kernel
theorem dL_law_526 : decode cL_law 526 = .ok (.goto 640, 3) := by decide +kernel
theorem dL_law_529 : decode cL_law 529 = .ok (.aload_n 1, 1) := by decide +kernel
theorem dL_law_530 : decode cL_law 530 = .ok (.aload_n 0, 1) := by decide +kernel
theorem dL_law_531 : decode cL_law 531 = .ok (.iload 4, 2) := by decide +kernel
theorem dL_law_533 : decode cL_law 533 = .ok (.iconst 1, 1) := by decide +kernel
theorem dL_law_534 : decode cL_law 534 = .ok (.iadd, 1) := by decide +kernel
theorem dL_law_535 : decode cL_law 535 = .ok (.iaload, 1) := by decide +kernel
theorem dL_law_536 : decode cL_law 536 = .ok (.aload_n 0, 1) := by decide +kernel
theorem dL_law_537 : decode cL_law 537 = .ok (.iload 4, 2) := by decide +kernel
theorem dL_law_539 : decode cL_law 539 = .ok (.iconst 2, 1) := by decide +kernel
theorem dL_law_540 : decode cL_law 540 = .ok (.iadd, 1) := by decide +kernel
theorem dL_law_541 : decode cL_law 541 = .ok (.iaload, 1) := by decide +kernel
theorem dL_law_542 : decode cL_law 542 = .ok (.aload_n 3, 1) := by decide +kernel
theorem dL_law_543 : decode cL_law 543 = .ok (.invokestatic 110, 3) := by decide +kernel
theorem dL_law_546 : decode cL_law 546 = .ok (.istore 5, 2) := by decide +kernel
theorem dL_law_548 : decode cL_law 548 = .ok (.aload_n 2, 1) := by decide +kernel
theorem dL_law_549 : decode cL_law 549 = .ok (.aload_n 0, 1) := by decide +kernel
theorem dL_law_550 : decode cL_law 550 = .ok (.iload 4, 2) := by decide +kernel
theorem dL_law_552 : decode cL_law 552 = .ok (.iconst 1, 1) := by decide +kernel
theorem dL_law_553 : decode cL_law 553 = .ok (.iadd, 1) := by decide +kernel
theorem dL_law_554 : decode cL_law 554 = .ok (.iaload, 1) := by decide +kernel
theorem dL_law_555 : decode cL_law 555 = .ok (.aload_n 0, 1) := by decide +kernel
theorem dL_law_556 : decode cL_law 556 = .ok (.iload 4, 2) := by decide +kernel
theorem dL_law_558 : decode cL_law 558 = .ok (.iconst 2, 1) := by decide +kernel
theorem dL_law_559 : decode cL_law 559 = .ok (.iadd, 1) := by decide +kernel
theorem dL_law_560 : decode cL_law 560 = .ok (.iaload, 1) := by decide +kernel
theorem dL_law_561 : decode cL_law 561 = .ok (.invokevirtual 112, 3) := by decide +kernel
theorem dL_law_564 : decode cL_law 564 = .ok (.istore 6, 2) := by decide +kernel
theorem dL_law_566 : decode cL_law 566 = .ok (.aload_n 2, 1) := by decide +kernel
theorem dL_law_567 : decode cL_law 567 = .ok (.invokevirtual 75, 3) := by decide +kernel
theorem dL_law_570 : decode cL_law 570 = .ok (.iload 5, 2) := by decide +kernel
theorem dL_law_572 : decode cL_law 572 = .ok (.if_icmp .eq 5, 3) := by decide +kernel
theorem dL_law_575 : decode cL_law 575 = .ok (.iconst 0, 1) := by decide +kernel
theorem dL_law_576 : decode cL_law 576 = .ok (.ireturn, 1) := by decide +kernel
theorem dL_law_577 : decode cL_law 577 = .ok (.iload 5, 2) := by decide +kernel
theorem dL_law_579 : decode cL_law 579 = .ok (.ifCond .ne 15, 3) := by decide +kernel
theorem dL_law_582 : decode cL_law 582 = .ok (.aload_n 3, 1) := by decide +kernel
theorem dL_law_583 : decode cL_law 583 = .ok (.iconst 0, 1) := by decide +kernel
theorem dL_law_584 : decode cL_law 584 = .ok (.laload, 1) := by decide +kernel
theorem dL_law_585 : decode cL_law 585 = .ok (.iload 6, 2) := by decide +kernel
theorem dL_law_587 : decode cL_law 587 = .ok (.i2l, 1) := by decide +kernel
theorem dL_law_588 : decode cL_law 588 = .ok (.lcmp, 1) := by decide +kernel
theorem dL_law_589 : decode cL_law 589 = .ok (.ifCond .eq 5, 3) := by decide +kernel
theorem dL_law_592 : decode cL_law 592 = .ok (.iconst 0, 1) := by decide +kernel
theorem dL_law_593 : decode cL_law 593 = .ok (.ireturn, 1) := by decide +kernel
theorem dL_law_594 : decode cL_law 594 = .ok (.goto 572, 3) := by decide +kernel
theorem dL_law_597 : decode cL_law 597 = .ok (.aload_n 1, 1) := by decide +kernel
theorem dL_law_598 : decode cL_law 598 = .ok (.aload_n 0, 1) := by decide +kernel
theorem dL_law_599 : decode cL_law 599 = .ok (.iload 4, 2) := by decide +kernel
theorem dL_law_601 : decode cL_law 601 = .ok (.iconst 1, 1) := by decide +kernel
theorem dL_law_602 : decode cL_law 602 = .ok (.iadd, 1) := by decide +kernel
theorem dL_law_603 : decode cL_law 603 = .ok (.iaload, 1) := by decide +kernel
theorem dL_law_604 : decode cL_law 604 = .ok (.aload_n 0, 1) := by decide +kernel
theorem dL_law_605 : decode cL_law 605 = .ok (.iload 4, 2) := by decide +kernel
theorem dL_law_607 : decode cL_law 607 = .ok (.iconst 2, 1) := by decide +kernel
theorem dL_law_608 : decode cL_law 608 = .ok (.iadd, 1) := by decide +kernel
theorem dL_law_609 : decode cL_law 609 = .ok (.iaload, 1) := by decide +kernel
theorem dL_law_610 : decode cL_law 610 = .ok (.aload_n 3, 1) := by decide +kernel
theorem dL_law_611 : decode cL_law 611 = .ok (.invokestatic 113, 3) := by decide +kernel
theorem dL_law_614 : decode cL_law 614 = .ok (.istore 5, 2) := by decide +kernel
theorem dL_law_616 : decode cL_law 616 = .ok (.aload_n 2, 1) := by decide +kernel
theorem dL_law_617 : decode cL_law 617 = .ok (.aload_n 0, 1) := by decide +kernel
theorem dL_law_618 : decode cL_law 618 = .ok (.iload 4, 2) := by decide +kernel
theorem dL_law_620 : decode cL_law 620 = .ok (.iconst 1, 1) := by decide +kernel
theorem dL_law_621 : decode cL_law 621 = .ok (.iadd, 1) := by decide +kernel
theorem dL_law_622 : decode cL_law 622 = .ok (.iaload, 1) := by decide +kernel
theorem dL_law_623 : decode cL_law 623 = .ok (.aload_n 0, 1) := by decide +kernel
theorem dL_law_624 : decode cL_law 624 = .ok (.iload 4, 2) := by decide +kernel
theorem dL_law_626 : decode cL_law 626 = .ok (.iconst 2, 1) := by decide +kernel
theorem dL_law_627 : decode cL_law 627 = .ok (.iadd, 1) := by decide +kernel
theorem dL_law_628 : decode cL_law 628 = .ok (.iaload, 1) := by decide +kernel
theorem dL_law_629 : decode cL_law 629 = .ok (.invokevirtual 115, 3) := by decide +kernel
theorem dL_law_632 : decode cL_law 632 = .ok (.istore 6, 2) := by decide +kernel
theorem dL_law_634 : decode cL_law 634 = .ok (.aload_n 2, 1) := by decide +kernel
theorem dL_law_635 : decode cL_law 635 = .ok (.invokevirtual 75, 3) := by decide +kernel
theorem dL_law_638 : decode cL_law 638 = .ok (.iload 5, 2) := by decide +kernel
theorem dL_law_640 : decode cL_law 640 = .ok (.if_icmp .eq 5, 3) := by decide +kernel
theorem dL_law_643 : decode cL_law 643 = .ok (.iconst 0, 1) := by decide +kernel
theorem dL_law_644 : decode cL_law 644 = .ok (.ireturn, 1) := by decide +kernel
theorem dL_law_645 : decode cL_law 645 = .ok (.iload 5, 2) := by decide +kernel
theorem dL_law_647 : decode cL_law 647 = .ok (.ifCond .ne 15, 3) := by decide +kernel
theorem dL_law_650 : decode cL_law 650 = .ok (.aload_n 3, 1) := by decide +kernel
theorem dL_law_651 : decode cL_law 651 = .ok (.iconst 0, 1) := by decide +kernel
theorem dL_law_652 : decode cL_law 652 = .ok (.laload, 1) := by decide +kernel
theorem dL_law_653 : decode cL_law 653 = .ok (.iload 6, 2) := by decide +kernel
theorem dL_law_655 : decode cL_law 655 = .ok (.i2l, 1) := by decide +kernel
theorem dL_law_656 : decode cL_law 656 = .ok (.lcmp, 1) := by decide +kernel
theorem dL_law_657 : decode cL_law 657 = .ok (.ifCond .eq 5, 3) := by decide +kernel
theorem dL_law_660 : decode cL_law 660 = .ok (.iconst 0, 1) := by decide +kernel
theorem dL_law_661 : decode cL_law 661 = .ok (.ireturn, 1) := by decide +kernel
theorem dL_law_662 : decode cL_law 662 = .ok (.goto 504, 3) := by decide +kernel
theorem dL_law_665 : decode cL_law 665 = .ok (.aload_n 1, 1) := by decide +kernel
theorem dL_law_666 : decode cL_law 666 = .ok (.invokevirtual 116, 3) := by decide +kernel
theorem dL_law_669 : decode cL_law 669 = .ok (.aload_n 2, 1) := by decide +kernel
theorem dL_law_670 : decode cL_law 670 = .ok (.invokevirtual 119, 3) := by decide +kernel
theorem dL_law_673 : decode cL_law 673 = .ok (.if_icmp .eq 493, 3) := by decide +kernel
theorem dL_law_676 : decode cL_law 676 = .ok (.iconst 0, 1) := by decide +kernel
theorem dL_law_677 : decode cL_law 677 = .ok (.ireturn, 1) := by decide +kernel
theorem dL_law_678 : decode cL_law 678 = .ok (.aload_n 1, 1) := by decide +kernel
theorem dL_law_679 : decode cL_law 679 = .ok (.aload_n 0, 1) := by decide +kernel
theorem dL_law_680 : decode cL_law 680 = .ok (.iload 4, 2) := by decide +kernel
theorem dL_law_682 : decode cL_law 682 = .ok (.iconst 1, 1) := by decide +kernel
theorem dL_law_683 : decode cL_law 683 = .ok (.iadd, 1) := by decide +kernel
theorem dL_law_684 : decode cL_law 684 = .ok (.iaload, 1) := by decide +kernel
theorem dL_law_685 : decode cL_law 685 = .ok (.aload_n 3, 1) := by decide +kernel
theorem dL_law_686 : decode cL_law 686 = .ok (.invokestatic 120, 3) := by decide +kernel
theorem dL_law_689 : decode cL_law 689 = .ok (.istore 5, 2) := by decide +kernel
theorem dL_law_691 : decode cL_law 691 = .ok (.aload_n 2, 1) := by decide +kernel
theorem dL_law_692 : decode cL_law 692 = .ok (.aload_n 0, 1) := by decide +kernel
theorem dL_law_693 : decode cL_law 693 = .ok (.iload 4, 2) := by decide +kernel
theorem dL_law_695 : decode cL_law 695 = .ok (.iconst 1, 1) := by decide +kernel
theorem dL_law_696 : decode cL_law 696 = .ok (.iadd, 1) := by decide +kernel
theorem dL_law_697 : decode cL_law 697 = .ok (.iaload, 1) := by decide +kernel
theorem dL_law_698 : decode cL_law 698 = .ok (.invokevirtual 122, 3) := by decide +kernel
theorem dL_law_701 : decode cL_law 701 = .ok (.istore 6, 2) := by decide +kernel
theorem dL_law_703 : decode cL_law 703 = .ok (.aload_n 2, 1) := by decide +kernel
theorem dL_law_704 : decode cL_law 704 = .ok (.invokevirtual 75, 3) := by decide +kernel
theorem dL_law_707 : decode cL_law 707 = .ok (.iload 5, 2) := by decide +kernel
theorem dL_law_709 : decode cL_law 709 = .ok (.if_icmp .eq 5, 3) := by decide +kernel
theorem dL_law_712 : decode cL_law 712 = .ok (.iconst 0, 1) := by decide +kernel
theorem dL_law_713 : decode cL_law 713 = .ok (.ireturn, 1) := by decide +kernel
theorem dL_law_714 : decode cL_law 714 = .ok (.iload 5, 2) := by decide +kernel
theorem dL_law_716 : decode cL_law 716 = .ok (.ifCond .ne 15, 3) := by decide +kernel
theorem dL_law_719 : decode cL_law 719 = .ok (.aload_n 3, 1) := by decide +kernel
theorem dL_law_720 : decode cL_law 720 = .ok (.iconst 0, 1) := by decide +kernel
theorem dL_law_721 : decode cL_law 721 = .ok (.laload, 1) := by decide +kernel
theorem dL_law_722 : decode cL_law 722 = .ok (.iload 6, 2) := by decide +kernel
theorem dL_law_724 : decode cL_law 724 = .ok (.i2l, 1) := by decide +kernel
theorem dL_law_725 : decode cL_law 725 = .ok (.lcmp, 1) := by decide +kernel
theorem dL_law_726 : decode cL_law 726 = .ok (.ifCond .eq 5, 3) := by decide +kernel
theorem dL_law_729 : decode cL_law 729 = .ok (.iconst 0, 1) := by decide +kernel
theorem dL_law_730 : decode cL_law 730 = .ok (.ireturn, 1) := by decide +kernel
theorem dL_law_731 : decode cL_law 731 = .ok (.goto 435, 3) := by decide +kernel
theorem dL_law_734 : decode cL_law 734 = .ok (.aload_n 1, 1) := by decide +kernel
theorem dL_law_735 : decode cL_law 735 = .ok (.aload_n 0, 1) := by decide +kernel
theorem dL_law_736 : decode cL_law 736 = .ok (.iload 4, 2) := by decide +kernel
theorem dL_law_738 : decode cL_law 738 = .ok (.iconst 1, 1) := by decide +kernel
theorem dL_law_739 : decode cL_law 739 = .ok (.iadd, 1) := by decide +kernel
theorem dL_law_740 : decode cL_law 740 = .ok (.iaload, 1) := by decide +kernel
theorem dL_law_741 : decode cL_law 741 = .ok (.aload_n 3, 1) := by decide +kernel
theorem dL_law_742 : decode cL_law 742 = .ok (.invokestatic 123, 3) := by decide +kernel
theorem dL_law_745 : decode cL_law 745 = .ok (.istore 5, 2) := by decide +kernel
theorem dL_law_747 : decode cL_law 747 = .ok (.aload_n 2, 1) := by decide +kernel
theorem dL_law_748 : decode cL_law 748 = .ok (.aload_n 0, 1) := by decide +kernel
theorem dL_law_749 : decode cL_law 749 = .ok (.iload 4, 2) := by decide +kernel
theorem dL_law_751 : decode cL_law 751 = .ok (.iconst 1, 1) := by decide +kernel
theorem dL_law_752 : decode cL_law 752 = .ok (.iadd, 1) := by decide +kernel
theorem dL_law_753 : decode cL_law 753 = .ok (.iaload, 1) := by decide +kernel
theorem dL_law_754 : decode cL_law 754 = .ok (.invokevirtual 125, 3) := by decide +kernel
theorem dL_law_757 : decode cL_law 757 = .ok (.istore 6, 2) := by decide +kernel
theorem dL_law_759 : decode cL_law 759 = .ok (.aload_n 2, 1) := by decide +kernel
theorem dL_law_760 : decode cL_law 760 = .ok (.invokevirtual 75, 3) := by decide +kernel
theorem dL_law_763 : decode cL_law 763 = .ok (.iload 5, 2) := by decide +kernel
theorem dL_law_765 : decode cL_law 765 = .ok (.if_icmp .eq 5, 3) := by decide +kernel
theorem dL_law_768 : decode cL_law 768 = .ok (.iconst 0, 1) := by decide +kernel
theorem dL_law_769 : decode cL_law 769 = .ok (.ireturn, 1) := by decide +kernel
theorem dL_law_770 : decode cL_law 770 = .ok (.iload 5, 2) := by decide +kernel
theorem dL_law_772 : decode cL_law 772 = .ok (.ifCond .ne 15, 3) := by decide +kernel
theorem dL_law_775 : decode cL_law 775 = .ok (.aload_n 3, 1) := by decide +kernel
theorem dL_law_776 : decode cL_law 776 = .ok (.iconst 0, 1) := by decide +kernel
theorem dL_law_777 : decode cL_law 777 = .ok (.laload, 1) := by decide +kernel
theorem dL_law_778 : decode cL_law 778 = .ok (.iload 6, 2) := by decide +kernel
theorem dL_law_780 : decode cL_law 780 = .ok (.i2l, 1) := by decide +kernel
theorem dL_law_781 : decode cL_law 781 = .ok (.lcmp, 1) := by decide +kernel
theorem dL_law_782 : decode cL_law 782 = .ok (.ifCond .eq 5, 3) := by decide +kernel
theorem dL_law_785 : decode cL_law 785 = .ok (.iconst 0, 1) := by decide +kernel
theorem dL_law_786 : decode cL_law 786 = .ok (.ireturn, 1) := by decide +kernel
theorem dL_law_787 : decode cL_law 787 = .ok (.goto 379, 3) := by decide +kernel
theorem dL_law_790 : decode cL_law 790 = .ok (.aload_n 1, 1) := by decide +kernel
theorem dL_law_791 : decode cL_law 791 = .ok (.aload_n 0, 1) := by decide +kernel
theorem dL_law_792 : decode cL_law 792 = .ok (.iload 4, 2) := by decide +kernel
theorem dL_law_794 : decode cL_law 794 = .ok (.iconst 1, 1) := by decide +kernel
theorem dL_law_795 : decode cL_law 795 = .ok (.iadd, 1) := by decide +kernel
theorem dL_law_796 : decode cL_law 796 = .ok (.iaload, 1) := by decide +kernel
theorem dL_law_797 : decode cL_law 797 = .ok (.aload_n 3, 1) := by decide +kernel
theorem dL_law_798 : decode cL_law 798 = .ok (.invokestatic 126, 3) := by decide +kernel
theorem dL_law_801 : decode cL_law 801 = .ok (.istore 5, 2) := by decide +kernel
theorem dL_law_803 : decode cL_law 803 = .ok (.aload_n 2, 1) := by decide +kernel
theorem dL_law_804 : decode cL_law 804 = .ok (.aload_n 0, 1) := by decide +kernel
theorem dL_law_805 : decode cL_law 805 = .ok (.iload 4, 2) := by decide +kernel
theorem dL_law_807 : decode cL_law 807 = .ok (.iconst 1, 1) := by decide +kernel
theorem dL_law_808 : decode cL_law 808 = .ok (.iadd, 1) := by decide +kernel
theorem dL_law_809 : decode cL_law 809 = .ok (.iaload, 1) := by decide +kernel
theorem dL_law_810 : decode cL_law 810 = .ok (.invokevirtual 128, 3) := by decide +kernel
theorem dL_law_813 : decode cL_law 813 = .ok (.istore 6, 2) := by decide +kernel
theorem dL_law_815 : decode cL_law 815 = .ok (.aload_n 2, 1) := by decide +kernel
theorem dL_law_816 : decode cL_law 816 = .ok (.invokevirtual 75, 3) := by decide +kernel
theorem dL_law_819 : decode cL_law 819 = .ok (.iload 5, 2) := by decide +kernel
theorem dL_law_821 : decode cL_law 821 = .ok (.if_icmp .eq 5, 3) := by decide +kernel
theorem dL_law_824 : decode cL_law 824 = .ok (.iconst 0, 1) := by decide +kernel
theorem dL_law_825 : decode cL_law 825 = .ok (.ireturn, 1) := by decide +kernel
theorem dL_law_826 : decode cL_law 826 = .ok (.iload 5, 2) := by decide +kernel
theorem dL_law_828 : decode cL_law 828 = .ok (.ifCond .ne 15, 3) := by decide +kernel
theorem dL_law_831 : decode cL_law 831 = .ok (.aload_n 3, 1) := by decide +kernel
theorem dL_law_832 : decode cL_law 832 = .ok (.iconst 0, 1) := by decide +kernel
theorem dL_law_833 : decode cL_law 833 = .ok (.laload, 1) := by decide +kernel
theorem dL_law_834 : decode cL_law 834 = .ok (.iload 6, 2) := by decide +kernel
theorem dL_law_836 : decode cL_law 836 = .ok (.i2l, 1) := by decide +kernel
theorem dL_law_837 : decode cL_law 837 = .ok (.lcmp, 1) := by decide +kernel
theorem dL_law_838 : decode cL_law 838 = .ok (.ifCond .eq 5, 3) := by decide +kernel
theorem dL_law_841 : decode cL_law 841 = .ok (.iconst 0, 1) := by decide +kernel
theorem dL_law_842 : decode cL_law 842 = .ok (.ireturn, 1) := by decide +kernel
theorem dL_law_843 : decode cL_law 843 = .ok (.goto 323, 3) := by decide +kernel
theorem dL_law_846 : decode cL_law 846 = .ok (.aload_n 1, 1) := by decide +kernel
theorem dL_law_847 : decode cL_law 847 = .ok (.aload_n 0, 1) := by decide +kernel
theorem dL_law_848 : decode cL_law 848 = .ok (.iload 4, 2) := by decide +kernel
theorem dL_law_850 : decode cL_law 850 = .ok (.iconst 1, 1) := by decide +kernel
theorem dL_law_851 : decode cL_law 851 = .ok (.iadd, 1) := by decide +kernel
theorem dL_law_852 : decode cL_law 852 = .ok (.iaload, 1) := by decide +kernel
theorem dL_law_853 : decode cL_law 853 = .ok (.aload_n 3, 1) := by decide +kernel
theorem dL_law_854 : decode cL_law 854 = .ok (.invokestatic 129, 3) := by decide +kernel
theorem dL_law_857 : decode cL_law 857 = .ok (.istore 5, 2) := by decide +kernel
theorem dL_law_859 : decode cL_law 859 = .ok (.aload_n 2, 1) := by decide +kernel
theorem dL_law_860 : decode cL_law 860 = .ok (.aload_n 0, 1) := by decide +kernel
theorem dL_law_861 : decode cL_law 861 = .ok (.iload 4, 2) := by decide +kernel
theorem dL_law_863 : decode cL_law 863 = .ok (.iconst 1, 1) := by decide +kernel
theorem dL_law_864 : decode cL_law 864 = .ok (.iadd, 1) := by decide +kernel
theorem dL_law_865 : decode cL_law 865 = .ok (.iaload, 1) := by decide +kernel
theorem dL_law_866 : decode cL_law 866 = .ok (.invokevirtual 131, 3) := by decide +kernel
theorem dL_law_869 : decode cL_law 869 = .ok (.istore 6, 2) := by decide +kernel
theorem dL_law_871 : decode cL_law 871 = .ok (.aload_n 2, 1) := by decide +kernel
theorem dL_law_872 : decode cL_law 872 = .ok (.invokevirtual 75, 3) := by decide +kernel
theorem dL_law_875 : decode cL_law 875 = .ok (.iload 5, 2) := by decide +kernel
theorem dL_law_877 : decode cL_law 877 = .ok (.if_icmp .eq 5, 3) := by decide +kernel
theorem dL_law_880 : decode cL_law 880 = .ok (.iconst 0, 1) := by decide +kernel
theorem dL_law_881 : decode cL_law 881 = .ok (.ireturn, 1) := by decide +kernel
theorem dL_law_882 : decode cL_law 882 = .ok (.iload 5, 2) := by decide +kernel
theorem dL_law_884 : decode cL_law 884 = .ok (.ifCond .ne 22, 3) := by decide +kernel
theorem dL_law_887 : decode cL_law 887 = .ok (.aload_n 3, 1) := by decide +kernel
theorem dL_law_888 : decode cL_law 888 = .ok (.iconst 0, 1) := by decide +kernel
theorem dL_law_889 : decode cL_law 889 = .ok (.laload, 1) := by decide +kernel
theorem dL_law_890 : decode cL_law 890 = .ok (.iload 6, 2) := by decide +kernel
theorem dL_law_892 : decode cL_law 892 = .ok (.ifCond .eq 7, 3) := by decide +kernel
theorem dL_law_895 : decode cL_law 895 = .ok (.lconst 1, 1) := by decide +kernel
theorem dL_law_896 : decode cL_law 896 = .ok (.goto 4, 3) := by decide +kernel
theorem dL_law_899 : decode cL_law 899 = .ok (.lconst 0, 1) := by decide +kernel
theorem dL_law_900 : decode cL_law 900 = .ok (.lcmp, 1) := by decide +kernel
theorem dL_law_901 : decode cL_law 901 = .ok (.ifCond .eq 5, 3) := by decide +kernel
theorem dL_law_904 : decode cL_law 904 = .ok (.iconst 0, 1) := by decide +kernel
theorem dL_law_905 : decode cL_law 905 = .ok (.ireturn, 1) := by decide +kernel
theorem dL_law_906 : decode cL_law 906 = .ok (.goto 260, 3) := by decide +kernel
theorem dL_law_909 : decode cL_law 909 = .ok (.aload_n 1, 1) := by decide +kernel
theorem dL_law_910 : decode cL_law 910 = .ok (.invokevirtual 132, 3) := by decide +kernel
theorem dL_law_913 : decode cL_law 913 = .ok (.aload_n 2, 1) := by decide +kernel
theorem dL_law_914 : decode cL_law 914 = .ok (.invokevirtual 135, 3) := by decide +kernel
theorem dL_law_917 : decode cL_law 917 = .ok (.if_icmp .eq 249, 3) := by decide +kernel
theorem dL_law_920 : decode cL_law 920 = .ok (.iconst 0, 1) := by decide +kernel
theorem dL_law_921 : decode cL_law 921 = .ok (.ireturn, 1) := by decide +kernel
theorem dL_law_922 : decode cL_law 922 = .ok (.aload_n 1, 1) := by decide +kernel
theorem dL_law_923 : decode cL_law 923 = .ok (.invokevirtual 136, 3) := by decide +kernel
theorem dL_law_926 : decode cL_law 926 = .ok (.aload_n 2, 1) := by decide +kernel
theorem dL_law_927 : decode cL_law 927 = .ok (.invokevirtual 139, 3) := by decide +kernel
theorem dL_law_930 : decode cL_law 930 = .ok (.if_icmp .eq 236, 3) := by decide +kernel
theorem dL_law_933 : decode cL_law 933 = .ok (.iconst 0, 1) := by decide +kernel
theorem dL_law_934 : decode cL_law 934 = .ok (.ireturn, 1) := by decide +kernel
theorem dL_law_935 : decode cL_law 935 = .ok (.aload_n 1, 1) := by decide +kernel
theorem dL_law_936 : decode cL_law 936 = .ok (.aload_n 0, 1) := by decide +kernel
theorem dL_law_937 : decode cL_law 937 = .ok (.iload 4, 2) := by decide +kernel
theorem dL_law_939 : decode cL_law 939 = .ok (.iconst 1, 1) := by decide +kernel
theorem dL_law_940 : decode cL_law 940 = .ok (.iadd, 1) := by decide +kernel
theorem dL_law_941 : decode cL_law 941 = .ok (.iaload, 1) := by decide +kernel
theorem dL_law_942 : decode cL_law 942 = .ok (.aload_n 0, 1) := by decide +kernel
theorem dL_law_943 : decode cL_law 943 = .ok (.iload 4, 2) := by decide +kernel
theorem dL_law_945 : decode cL_law 945 = .ok (.iconst 2, 1) := by decide +kernel
theorem dL_law_946 : decode cL_law 946 = .ok (.iadd, 1) := by decide +kernel
theorem dL_law_947 : decode cL_law 947 = .ok (.iaload, 1) := by decide +kernel
theorem dL_law_948 : decode cL_law 948 = .ok (.aload_n 3, 1) := by decide +kernel
theorem dL_law_949 : decode cL_law 949 = .ok (.invokestatic 140, 3) := by decide +kernel
theorem dL_law_952 : decode cL_law 952 = .ok (.istore 5, 2) := by decide +kernel
theorem dL_law_954 : decode cL_law 954 = .ok (.aload_n 2, 1) := by decide +kernel
theorem dL_law_955 : decode cL_law 955 = .ok (.aload_n 0, 1) := by decide +kernel
theorem dL_law_956 : decode cL_law 956 = .ok (.iload 4, 2) := by decide +kernel
theorem dL_law_958 : decode cL_law 958 = .ok (.iconst 1, 1) := by decide +kernel
theorem dL_law_959 : decode cL_law 959 = .ok (.iadd, 1) := by decide +kernel
theorem dL_law_960 : decode cL_law 960 = .ok (.iaload, 1) := by decide +kernel
theorem dL_law_961 : decode cL_law 961 = .ok (.aload_n 0, 1) := by decide +kernel
theorem dL_law_962 : decode cL_law 962 = .ok (.iload 4, 2) := by decide +kernel
theorem dL_law_964 : decode cL_law 964 = .ok (.iconst 2, 1) := by decide +kernel
theorem dL_law_965 : decode cL_law 965 = .ok (.iadd, 1) := by decide +kernel
theorem dL_law_966 : decode cL_law 966 = .ok (.iaload, 1) := by decide +kernel
theorem dL_law_967 : decode cL_law 967 = .ok (.invokevirtual 142, 3) := by decide +kernel
theorem dL_law_970 : decode cL_law 970 = .ok (.istore 6, 2) := by decide +kernel
theorem dL_law_972 : decode cL_law 972 = .ok (.aload_n 2, 1) := by decide +kernel
theorem dL_law_973 : decode cL_law 973 = .ok (.invokevirtual 75, 3) := by decide +kernel
theorem dL_law_976 : decode cL_law 976 = .ok (.iload 5, 2) := by decide +kernel
theorem dL_law_978 : decode cL_law 978 = .ok (.if_icmp .eq 5, 3) := by decide +kernel
theorem dL_law_981 : decode cL_law 981 = .ok (.iconst 0, 1) := by decide +kernel
theorem dL_law_982 : decode cL_law 982 = .ok (.ireturn, 1) := by decide +kernel
theorem dL_law_983 : decode cL_law 983 = .ok (.iload 5, 2) := by decide +kernel
theorem dL_law_985 : decode cL_law 985 = .ok (.ifCond .ne 15, 3) := by decide +kernel
theorem dL_law_988 : decode cL_law 988 = .ok (.aload_n 3, 1) := by decide +kernel
theorem dL_law_989 : decode cL_law 989 = .ok (.iconst 0, 1) := by decide +kernel
theorem dL_law_990 : decode cL_law 990 = .ok (.laload, 1) := by decide +kernel
theorem dL_law_991 : decode cL_law 991 = .ok (.iload 6, 2) := by decide +kernel
theorem dL_law_993 : decode cL_law 993 = .ok (.i2l, 1) := by decide +kernel
theorem dL_law_994 : decode cL_law 994 = .ok (.lcmp, 1) := by decide +kernel
theorem dL_law_995 : decode cL_law 995 = .ok (.ifCond .eq 5, 3) := by decide +kernel
theorem dL_law_998 : decode cL_law 998 = .ok (.iconst 0, 1) := by decide +kernel
theorem dL_law_999 : decode cL_law 999 = .ok (.ireturn, 1) := by decide +kernel
theorem dL_law_1000 : decode cL_law 1000 = .ok (.goto 166, 3) := by decide +kernel
theorem dL_law_1003 : decode cL_law 1003 = .ok (.aload_n 1, 1) := by decide +kernel
theorem dL_law_1004 : decode cL_law 1004 = .ok (.aload_n 0, 1) := by decide +kernel
theorem dL_law_1005 : decode cL_law 1005 = .ok (.iload 4, 2) := by decide +kernel
theorem dL_law_1007 : decode cL_law 1007 = .ok (.iconst 1, 1) := by decide +kernel
theorem dL_law_1008 : decode cL_law 1008 = .ok (.iadd, 1) := by decide +kernel
theorem dL_law_1009 : decode cL_law 1009 = .ok (.iaload, 1) := by decide +kernel
theorem dL_law_1010 : decode cL_law 1010 = .ok (.aload_n 3, 1) := by decide +kernel
theorem dL_law_1011 : decode cL_law 1011 = .ok (.invokestatic 143, 3) := by decide +kernel
theorem dL_law_1014 : decode cL_law 1014 = .ok (.istore 5, 2) := by decide +kernel
theorem dL_law_1016 : decode cL_law 1016 = .ok (.aload_n 2, 1) := by decide +kernel
theorem dL_law_1017 : decode cL_law 1017 = .ok (.aload_n 0, 1) := by decide +kernel
theorem dL_law_1018 : decode cL_law 1018 = .ok (.iload 4, 2) := by decide +kernel
theorem dL_law_1020 : decode cL_law 1020 = .ok (.iconst 1, 1) := by decide +kernel
theorem dL_law_1021 : decode cL_law 1021 = .ok (.iadd, 1) := by decide +kernel
theorem dL_law_1022 : decode cL_law 1022 = .ok (.iaload, 1) := by decide +kernel
theorem dL_law_1023 : decode cL_law 1023 = .ok (.invokevirtual 145, 3) := by decide +kernel
theorem dL_law_1026 : decode cL_law 1026 = .ok (.istore 6, 2) := by decide +kernel
theorem dL_law_1028 : decode cL_law 1028 = .ok (.aload_n 2, 1) := by decide +kernel
theorem dL_law_1029 : decode cL_law 1029 = .ok (.invokevirtual 75, 3) := by decide +kernel
theorem dL_law_1032 : decode cL_law 1032 = .ok (.iload 5, 2) := by decide +kernel
theorem dL_law_1034 : decode cL_law 1034 = .ok (.if_icmp .eq 5, 3) := by decide +kernel
theorem dL_law_1037 : decode cL_law 1037 = .ok (.iconst 0, 1) := by decide +kernel
theorem dL_law_1038 : decode cL_law 1038 = .ok (.ireturn, 1) := by decide +kernel
theorem dL_law_1039 : decode cL_law 1039 = .ok (.iload 5, 2) := by decide +kernel
theorem dL_law_1041 : decode cL_law 1041 = .ok (.ifCond .ne 15, 3) := by decide +kernel
theorem dL_law_1044 : decode cL_law 1044 = .ok (.aload_n 3, 1) := by decide +kernel
theorem dL_law_1045 : decode cL_law 1045 = .ok (.iconst 0, 1) := by decide +kernel
theorem dL_law_1046 : decode cL_law 1046 = .ok (.laload, 1) := by decide +kernel
theorem dL_law_1047 : decode cL_law 1047 = .ok (.iload 6, 2) := by decide +kernel
theorem dL_law_1049 : decode cL_law 1049 = .ok (.i2l, 1) := by decide +kernel
theorem dL_law_1050 : decode cL_law 1050 = .ok (.lcmp, 1) := by decide +kernel
theorem dL_law_1051 : decode cL_law 1051 = .ok (.ifCond .eq 5, 3) := by decide +kernel
theorem dL_law_1054 : decode cL_law 1054 = .ok (.iconst 0, 1) := by decide +kernel
theorem dL_law_1055 : decode cL_law 1055 = .ok (.ireturn, 1) := by decide +kernel
theorem dL_law_1056 : decode cL_law 1056 = .ok (.goto 110, 3) := by decide +kernel
theorem dL_law_1059 : decode cL_law 1059 = .ok (.aload_n 1, 1) := by decide +kernel
theorem dL_law_1060 : decode cL_law 1060 = .ok (.invokevirtual 146, 3) := by decide +kernel
theorem dL_law_1063 : decode cL_law 1063 = .ok (.aload_n 2, 1) := by decide +kernel
theorem dL_law_1064 : decode cL_law 1064 = .ok (.invokevirtual 149, 3) := by decide +kernel
theorem dL_law_1067 : decode cL_law 1067 = .ok (.if_icmp .eq 99, 3) := by decide +kernel
theorem dL_law_1070 : decode cL_law 1070 = .ok (.iconst 0, 1) := by decide +kernel
theorem dL_law_1071 : decode cL_law 1071 = .ok (.ireturn, 1) := by decide +kernel
theorem dL_law_1072 : decode cL_law 1072 = .ok (.aload_n 1, 1) := by decide +kernel
theorem dL_law_1073 : decode cL_law 1073 = .ok (.invokevirtual 150, 3) := by decide +kernel
theorem dL_law_1076 : decode cL_law 1076 = .ok (.aload_n 2, 1) := by decide +kernel
theorem dL_law_1077 : decode cL_law 1077 = .ok (.invokevirtual 153, 3) := by decide +kernel
theorem dL_law_1080 : decode cL_law 1080 = .ok (.if_icmp .eq 86, 3) := by decide +kernel
theorem dL_law_1083 : decode cL_law 1083 = .ok (.iconst 0, 1) := by decide +kernel
theorem dL_law_1084 : decode cL_law 1084 = .ok (.ireturn, 1) := by decide +kernel
theorem dL_law_1085 : decode cL_law 1085 = .ok (.aload_n 1, 1) := by decide +kernel
theorem dL_law_1086 : decode cL_law 1086 = .ok (.invokevirtual 154, 3) := by decide +kernel
theorem dL_law_1089 : decode cL_law 1089 = .ok (.aload_n 2, 1) := by decide +kernel
theorem dL_law_1090 : decode cL_law 1090 = .ok (.invokevirtual 157, 3) := by decide +kernel
theorem dL_law_1093 : decode cL_law 1093 = .ok (.if_icmp .eq 73, 3) := by decide +kernel
theorem dL_law_1096 : decode cL_law 1096 = .ok (.iconst 0, 1) := by decide +kernel
theorem dL_law_1097 : decode cL_law 1097 = .ok (.ireturn, 1) := by decide +kernel
theorem dL_law_1098 : decode cL_law 1098 = .ok (.aload_n 1, 1) := by decide +kernel
theorem dL_law_1099 : decode cL_law 1099 = .ok (.aload_n 0, 1) := by decide +kernel
theorem dL_law_1100 : decode cL_law 1100 = .ok (.iload 4, 2) := by decide +kernel
theorem dL_law_1102 : decode cL_law 1102 = .ok (.iconst 1, 1) := by decide +kernel
theorem dL_law_1103 : decode cL_law 1103 = .ok (.iadd, 1) := by decide +kernel
theorem dL_law_1104 : decode cL_law 1104 = .ok (.iaload, 1) := by decide +kernel
theorem dL_law_1105 : decode cL_law 1105 = .ok (.aload_n 0, 1) := by decide +kernel
theorem dL_law_1106 : decode cL_law 1106 = .ok (.iload 4, 2) := by decide +kernel
theorem dL_law_1108 : decode cL_law 1108 = .ok (.iconst 2, 1) := by decide +kernel
theorem dL_law_1109 : decode cL_law 1109 = .ok (.iadd, 1) := by decide +kernel
theorem dL_law_1110 : decode cL_law 1110 = .ok (.iaload, 1) := by decide +kernel
theorem dL_law_1111 : decode cL_law 1111 = .ok (.aload_n 3, 1) := by decide +kernel
theorem dL_law_1112 : decode cL_law 1112 = .ok (.invokestatic 158, 3) := by decide +kernel
theorem dL_law_1115 : decode cL_law 1115 = .ok (.istore 5, 2) := by decide +kernel
theorem dL_law_1117 : decode cL_law 1117 = .ok (.aload_n 2, 1) := by decide +kernel
theorem dL_law_1118 : decode cL_law 1118 = .ok (.aload_n 0, 1) := by decide +kernel
theorem dL_law_1119 : decode cL_law 1119 = .ok (.iload 4, 2) := by decide +kernel
theorem dL_law_1121 : decode cL_law 1121 = .ok (.iconst 1, 1) := by decide +kernel
theorem dL_law_1122 : decode cL_law 1122 = .ok (.iadd, 1) := by decide +kernel
theorem dL_law_1123 : decode cL_law 1123 = .ok (.iaload, 1) := by decide +kernel
theorem dL_law_1124 : decode cL_law 1124 = .ok (.aload_n 0, 1) := by decide +kernel
theorem dL_law_1125 : decode cL_law 1125 = .ok (.iload 4, 2) := by decide +kernel
theorem dL_law_1127 : decode cL_law 1127 = .ok (.iconst 2, 1) := by decide +kernel
theorem dL_law_1128 : decode cL_law 1128 = .ok (.iadd, 1) := by decide +kernel
theorem dL_law_1129 : decode cL_law 1129 = .ok (.iaload, 1) := by decide +kernel
theorem dL_law_1130 : decode cL_law 1130 = .ok (.invokevirtual 160, 3) := by decide +kernel
theorem dL_law_1133 : decode cL_law 1133 = .ok (.istore 6, 2) := by decide +kernel
theorem dL_law_1135 : decode cL_law 1135 = .ok (.aload_n 2, 1) := by decide +kernel
theorem dL_law_1136 : decode cL_law 1136 = .ok (.invokevirtual 75, 3) := by decide +kernel
theorem dL_law_1139 : decode cL_law 1139 = .ok (.iload 5, 2) := by decide +kernel
theorem dL_law_1141 : decode cL_law 1141 = .ok (.if_icmp .eq 5, 3) := by decide +kernel
theorem dL_law_1144 : decode cL_law 1144 = .ok (.iconst 0, 1) := by decide +kernel
theorem dL_law_1145 : decode cL_law 1145 = .ok (.ireturn, 1) := by decide +kernel
theorem dL_law_1146 : decode cL_law 1146 = .ok (.iload 5, 2) := by decide +kernel
theorem dL_law_1148 : decode cL_law 1148 = .ok (.ifCond .ne 15, 3) := by decide +kernel
theorem dL_law_1151 : decode cL_law 1151 = .ok (.aload_n 3, 1) := by decide +kernel
theorem dL_law_1152 : decode cL_law 1152 = .ok (.iconst 0, 1) := by decide +kernel
theorem dL_law_1153 : decode cL_law 1153 = .ok (.laload, 1) := by decide +kernel
theorem dL_law_1154 : decode cL_law 1154 = .ok (.iload 6, 2) := by decide +kernel
theorem dL_law_1156 : decode cL_law 1156 = .ok (.i2l, 1) := by decide +kernel
theorem dL_law_1157 : decode cL_law 1157 = .ok (.lcmp, 1) := by decide +kernel
theorem dL_law_1158 : decode cL_law 1158 = .ok (.ifCond .eq 5, 3) := by decide +kernel
theorem dL_law_1161 : decode cL_law 1161 = .ok (.iconst 0, 1) := by decide +kernel
theorem dL_law_1162 : decode cL_law 1162 = .ok (.ireturn, 1) := by decide +kernel
theorem dL_law_1163 : decode cL_law 1163 = .ok (.goto 3, 3) := by decide +kernel
theorem dL_law_1166 : decode cL_law 1166 = .ok (.iinc 4 3, 3) := by decide +kernel
theorem dL_law_1169 : decode cL_law 1169 = .ok (.goto (-1146), 3) := by decide +kernel
theorem dL_law_1172 : decode cL_law 1172 = .ok (.iconst 1, 1) := by decide +kernel
theorem dL_law_1173 : decode cL_law 1173 = .ok (.ireturn, 1) := by decide +kernel
end
section
/-! base: single cells, worlds by kind and number, contracts that read and contracts that write -/
abbrev gT (cy : Nat → ClassId) : List (ClassId × FieldType) := [(cy 0, .char), (cy 1, .int), (cy 2, .boolean), (cy 3, .object "Politecrawl$Host"), (cy 4, .object "Politecrawl$Page"), (cy 5, .long)]
abbrev gK (D : va_G) (cy : Nat → ClassId) (U : State) : Prop := va_K D vwCl (gT cy) U
abbrev oA (D : va_G) (a : Nat) (e : va_E) (H : Heap) : Prop := va_at D vwCl (a, e) H
theorem g1 {D : va_G} {a : Nat} {e : va_E} {H : Heap} (h : oA D a e H) : va_P D vwCl [(a, e)] H := by
  intro k q hk
  match k, hk with
  | 0, hk => cases hk; exact h
  | k + 1, hk => simp at hk
/-- only the cell a has changed -/
def hU (a : Nat) (H H1 : Heap) : Prop := H1.size = H.size ∧ ∀ q : Nat, q ≠ a → H1[q]? = H[q]?
theorem oA.off {D : va_G} {a b : Nat} {e : va_E} {H H1 : Heap} (h : oA D b e H) (hu : hU a H H1) (hne : b ≠ a) : oA D b e H1 := va_at.kept h (hu.2 b hne)
theorem oA.eq {D : va_G} {a : Nat} {e e' : va_E} {H : Heap} (h : oA D a e H) (he : e = e') : oA D a e' H := he ▸ h
/-- two int rows that agree as far as they reach are one -/
theorem oA.rowI {D : va_G} {a : Nat} {c : ClassId} {n : Nat} {f g : Nat → Int32} {H : Heap} (h : oA D a (.inl (c, n, .inl f)) H) (hf : ∀ j, j < n → f j = g j) : oA D a (.inl (c, n, .inl g)) H := by
  refine Eq.trans h (congrArg some ?_)
  show arrV c n (fun j => Value.int (f j)) = arrV c n (fun j => Value.int (g j))
  have : (fun j : Fin n => Value.int (f j.val)) = (fun j : Fin n => Value.int (g j.val)) := funext fun j => by rw [hf j.val j.isLt]
  simp only [arrV]
  rw [this]
theorem oA.rowQ {D : va_G} {a : Nat} {c : ClassId} {n : Nat} {f g : Nat → Option Nat} {H : Heap} (h : oA D a (.inl (c, n, .inr (.inr (.inr (.inr f))))) H) (hf : ∀ j, j < n → f j = g j) : oA D a (.inl (c, n, .inr (.inr (.inr (.inr g))))) H := by
  refine Eq.trans h (congrArg some ?_)
  show arrV c n (fun j => va_rf (f j)) = arrV c n (fun j => va_rf (g j))
  have : (fun j : Fin n => va_rf (f j.val)) = (fun j : Fin n => va_rf (g j.val)) := funext fun j => by rw [hf j.val j.isLt]
  simp only [arrV]
  rw [this]
/-- a world: cells by kind and number -/
def wP (D : va_G) (cn : Nat → Nat) (ad : Nat → Nat → Nat) (E : Nat → Nat → va_E) (H : Heap) : Prop := ∀ k i : Nat, i < cn k → oA D (ad k i) (E k i) H
def wJ (cn : Nat → Nat) (ad : Nat → Nat → Nat) : Prop := ∀ k i k' i' : Nat, i < cn k → i' < cn k' → ad k i = ad k' i' → k = k' ∧ i = i'
theorem wP.set {D : va_G} {cn : Nat → Nat} {ad : Nat → Nat → Nat} {E E' : Nat → Nat → va_E} {H H1 : Heap} (h : wP D cn ad E H) (hJ : wJ cn ad) (k i : Nat) (hi : i < cn k) {e : va_E} (he : oA D (ad k i) e H1) (hu : hU (ad k i) H H1) (h1 : E' k i = e) (h2 : ∀ k' i', i' < cn k' → ¬ (k' = k ∧ i' = i) → E' k' i' = E k' i') : wP D cn ad E' H1 := by
  intro k' i' hi'
  by_cases q : k' = k ∧ i' = i
  · obtain ⟨rfl, rfl⟩ := q
    rw [h1]; exact he
  · rw [h2 k' i' hi' q]
    exact (h k' i' hi').off hu (fun z => q (hJ k' i' k i hi' hi z))
theorem wP.kept {D : va_G} {cn : Nat → Nat} {ad : Nat → Nat → Nat} {E : Nat → Nat → va_E} {H H1 : Heap} (h : wP D cn ad E H) (hk : ∀ k i, i < cn k → H1[ad k i]? = H[ad k i]?) : wP D cn ad E H1 := fun k i hi => va_at.kept (h k i hi) (hk k i hi)
theorem wP.lt {D : va_G} {cn : Nat → Nat} {ad : Nat → Nat → Nat} {E : Nat → Nat → va_E} {H : Heap} (h : wP D cn ad E H) {k i : Nat} (hi : i < cn k) : ad k i < H.size := va_at.lt (q := (ad k i, E k i)) (h k i hi)
/-- what a method over a world may change: its cells, and those that come from sz on -/
def wA (cn : Nat → Nat) (ad : Nat → Nat → Nat) (sz : Nat) : Nat → Prop := fun q => (∃ k i, i < cn k ∧ ad k i = q) ∨ sz ≤ q
theorem wA.in {cn : Nat → Nat} {ad : Nat → Nat → Nat} {sz k i : Nat} (h : i < cn k) : wA cn ad sz (ad k i) := Or.inl ⟨k, i, h, rfl⟩
theorem wA.mono {cn : Nat → Nat} {ad : Nat → Nat → Nat} {sz sz' q : Nat} (h : sz ≤ sz') (k : wA cn ad sz' q) : wA cn ad sz q := k.elim Or.inl (fun z => Or.inr (Nat.le_trans h z))
theorem wA.new {cn : Nat → Nat} {ad : Nat → Nat → Nat} {sz q : Nat} (h : sz ≤ q) : wA cn ad sz q := Or.inr h
/-- .. at a size -/
def atSz (sz : Nat) (P : Heap → Prop) : Heap → Prop := fun H => H.size = sz ∧ P H
/-- an answer, the heap as it was -/
def rQ (v : Option Value) : Array Value → State → Outcome → State → Prop := fun _ st oc t => oc = .returned v ∧ t.heap = st.heap
/-- an answer, a new heap -/
def uQ (v : Option Value) (B : Heap → Prop) (A : Nat → Prop) : Array Value → State → Outcome → State → Prop := fun _ st oc t => oc = .returned v ∧ B t.heap ∧ va_F A st t
theorem g_blind {D : va_G} {cy : Nat → ClassId} {av : List Value} {B : Heap → Prop} : FrameBlind (va_Pc av (fun U => gK D cy U ∧ B U.heap)) := fun a U g mk q => ⟨q.1, va_K.moved (u := U) (U := U.calling g mk a) (Vm.Alike.refl U.vm) q.2.1, q.2.2⟩
theorem g_preV {D : va_G} {cy : Nat → ClassId} {s : State} {H : Heap} {C : String} {T : u_T} {N : Nat} {b ci : Nat} {fs : List Value} {As : List Value} {B : Heap → Prop} (hK : gK D cy s) (hB : B H) (hc : oA D b (.inr (ci, fs)) H) (hcl : vwCl[ci]? = some (C, T, N)) : PreV s H C b (va_Pc (.ref b :: As) (fun U => gK D cy U ∧ B U.heap)) As :=
  ⟨g_blind, va_recv (q := (C, T, N)) hK (g1 hc) hcl (q0 := 0) rfl, fun U hU hW => ⟨rfl, va_K.moved hW.alike hK, by rw [hU]; exact hB⟩⟩
theorem g_preS {D : va_G} {cy : Nat → ClassId} {s : State} {H : Heap} {As : List Value} {B : Heap → Prop} (hK : gK D cy s) (hB : B H) : PreS s H (va_Pc As (fun U => gK D cy U ∧ B U.heap)) As :=
  ⟨g_blind, fun U hU hW => ⟨rfl, va_K.moved hW.alike hK, by rw [hU]; exact hB⟩⟩
section GB
variable {p : Program} {l : Launch} {e : Env} {R : Room} {s : State} {m : MethodId} {args : Array Value} {below : List Frame} {meth : Method} {c : Code} {H : Heap} {locs : List Loc} {cells slots : Nat} {Q : State → Prop}
variable {cc : ByteArray} {pc : Nat} {ls : Array Slot} {rest st0 : List Value} {D : va_G} {cy : Nat → ClassId} {A : Nat → Prop} {a : Nat} {H0 : Heap} {args0 : Array Value}
theorem g_csr {v : Value} (hr : va_Run p l e R s m args below meth c H locs cells slots 0 0 (F0 m pc ls st0) rest (rQ (some v) args0) (fun _ => False))
    (kk : W p l e R s m args below meth c H locs cells slots Q (F0 m (pc + 3) ls (v :: rest))) : W p l e R s m args below meth c H locs cells slots Q (F0 m pc ls st0) := by
  intro T hT X
  obtain ⟨v', st₀, t, T', L, h0, X', hL, e1, -, ⟨hv, hh⟩, st⟩ := hr T hT X
  cases hv
  obtain ⟨t2, a1, b1⟩ := kk T' (by rw [e1, hh, h0]) (Stand.forget X' (fun q h => (hL q h).elim))
  exact ⟨t2, st t2 a1, b1⟩
theorem g_csv (hr : va_Run p l e R s m args below meth c H locs cells slots 0 0 (F0 m pc ls st0) rest (rQ none args0) (fun _ => False))
    (kk : W p l e R s m args below meth c H locs cells slots Q (F0 m (pc + 3) ls rest)) : W p l e R s m args below meth c H locs cells slots Q (F0 m pc ls st0) := by
  intro T hT X
  obtain ⟨v', st₀, t, T', L, h0, X', hL, e1, -, ⟨hv, hh⟩, st⟩ := hr T hT X
  cases hv
  obtain ⟨t2, a1, b1⟩ := kk T' (by rw [e1, hh, h0]) (Stand.forget X' (fun q h => (hL q h).elim))
  exact ⟨t2, st t2 a1, b1⟩
theorem g_cuF {v : Option Value} {B : Heap → Prop} {A0 A1 : Nat → Prop} {mc ms : Nat} {free : Addr → Prop} (hr : va_Run p l e R s m args below meth c H locs cells slots mc ms (F0 m pc ls st0) rest (uQ v B A1 args0) free) (hS : va_S A0 H0 H locs) (hA : ∀ q, q < H.size → A1 q → A0 q) (hf : ∀ q, free q → A0 q)
    (kk : ∀ (H1 : Heap) (locs1 : List Loc), B H1 → H.size ≤ H1.size → (∀ q : Nat, q < H.size → ¬ A1 q → H1[q]? = H[q]?) → va_S A0 H0 H1 locs1 → W p l e R s m args below meth c H1 locs1 (cells + mc) (slots + ms) Q (F0 m (pc + 3) ls (v.toList ++ rest))) : W p l e R s m args below meth c H locs cells slots Q (F0 m pc ls st0) := by
  intro T hT X
  obtain ⟨v', st₀, t, T', L, h0, X', hL, e1, e2, ⟨hv, hB, hz, hk⟩, st⟩ := hr T hT X
  cases hv
  rw [h0] at hz hk
  obtain ⟨t2, a1, b1⟩ := kk T'.heap (locs ++ L) (by rw [e1]; exact hB) (by rw [e1]; exact hz) (fun q h1 h2 => by rw [e1]; exact hk q h1 h2)
    ⟨Nat.le_trans hS.1 (by rw [e1]; exact hz), fun q h1 h2 => by rw [e1, hk q (Nat.lt_of_lt_of_le h1 hS.1) (fun z => h2 (hA q (Nat.lt_of_lt_of_le h1 hS.1) z))]; exact hS.2.1 q h1 h2, fun q hq => by
      rcases List.mem_append.mp hq with h | h
      · exact hS.2.2 q h
      · exact hf _ (hL q h)⟩ T' rfl X'
  exact ⟨t2, st t2 a1, b1⟩
/-- behind a call that writes: an answer is on the stack -/
theorem g_cu1 {v : Value} {B : Heap → Prop} {A0 A1 : Nat → Prop} {mc ms : Nat} {free : Addr → Prop} (hr : va_Run p l e R s m args below meth c H locs cells slots mc ms (F0 m pc ls st0) rest (uQ (some v) B A1 args0) free) (hS : va_S A0 H0 H locs) (hA : ∀ q, q < H.size → A1 q → A0 q) (hf : ∀ q, free q → A0 q)
    (kk : ∀ (H1 : Heap) (locs1 : List Loc), B H1 → H.size ≤ H1.size → (∀ q : Nat, q < H.size → ¬ A1 q → H1[q]? = H[q]?) → va_S A0 H0 H1 locs1 → W p l e R s m args below meth c H1 locs1 (cells + mc) (slots + ms) Q (F0 m (pc + 3) ls (v :: rest))) : W p l e R s m args below meth c H locs cells slots Q (F0 m pc ls st0) := g_cuF hr hS hA hf kk
/-- .. none is -/
theorem g_cu0 {B : Heap → Prop} {A0 A1 : Nat → Prop} {mc ms : Nat} {free : Addr → Prop} (hr : va_Run p l e R s m args below meth c H locs cells slots mc ms (F0 m pc ls st0) rest (uQ none B A1 args0) free) (hS : va_S A0 H0 H locs) (hA : ∀ q, q < H.size → A1 q → A0 q) (hf : ∀ q, free q → A0 q)
    (kk : ∀ (H1 : Heap) (locs1 : List Loc), B H1 → H.size ≤ H1.size → (∀ q : Nat, q < H.size → ¬ A1 q → H1[q]? = H[q]?) → va_S A0 H0 H1 locs1 → W p l e R s m args below meth c H1 locs1 (cells + mc) (slots + ms) Q (F0 m (pc + 3) ls rest)) : W p l e R s m args below meth c H locs cells slots Q (F0 m pc ls st0) := g_cuF hr hS hA hf kk
/-- getfield of a cell -/
theorem g_get (hexec : p.tables.exec = Jvm.exec) (hb : c.code = cc) {own ref C : String} {T : u_T} {N ci index : Nat} {Ts : List Cond} (hts : ∀ w ∈ Ts, w.before args s = true) (hin : ∀ w ∈ u_ws C T N, w ∈ Ts) (hown : s.vm.findClass own = some m.cls) (hK : gK D cy s) {fs : List Value} (hc : oA D a (.inr (ci, fs)) H) (hcl : vwCl[ci]? = some (C, T, N)) (k : Nat) (hk : k < N) (hlink : (Cond.fieldLink own index ref (T k).2.1 (T k).2.2.1).before args s = true) (hsame : (T k).1 = ref) {v : Value} (hv : fs[k]? = some v) (hdg : decode cc pc = .ok (.getfield index, 3))
    (kk : W p l e R s m args below meth c H locs cells slots Q (F0 m (pc + 3) ls (v :: rest))) : W p l e R s m args below meth c H locs cells slots Q (F0 m pc ls (.ref a :: rest)) := by
  subst hsame
  exact va_get hexec hb hts hin hown hK (g1 hc) 0 rfl hcl k hk hlink (fun _ h => h) hv hdg kk
/-- putfield of a cell, not final -/
theorem g_put (hexec : p.tables.exec = Jvm.exec) (hb : c.code = cc) {own ref C : String} {T : u_T} {N ci index : Nat} {Ts : List Cond} (hts : ∀ w ∈ Ts, w.before args s = true) (hin : ∀ w ∈ u_ws C T N, w ∈ Ts) (ty0 : Nat → FieldType) (hty : ∀ k, k < N → parseFieldDescriptor (T k).2.2.1 = some (ty0 k)) (hnm : ∀ a, a < N → ∀ b, b < N → a ≠ b → (T a).2.1 ≠ (T b).2.1) (hown : s.vm.findClass own = some m.cls) (hK : gK D cy s) {fs : List Value} (hc : oA D a (.inr (ci, fs)) H) (hcl : vwCl[ci]? = some (C, T, N)) (hS : va_S A H0 H locs) (hA : A a) (k : Nat) (hk : k < N) (hlink : (Cond.fieldLink own index ref (T k).2.1 (T k).2.2.1).before args s = true) (hsame : (T k).1 = ref) (hfin : (T k).2.2.2 = false) {v : Value} (hn : narrow (ty0 k) v = v) (hfit : fits (ty0 k) v = true) (hl : k < fs.length)
    (hdg : decode cc pc = .ok (.putfield index, 3)) (kk : ∀ (H1 : Heap) (locs1 : List Loc), oA D a (.inr (ci, fs.set k v)) H1 → hU a H H1 → va_S A H0 H1 locs1 → W p l e R s m args below meth c H1 locs1 cells slots Q (F0 m (pc + 3) ls rest)) : W p l e R s m args below meth c H locs cells slots Q (F0 m pc ls (v :: .ref a :: rest)) := by
  subst hsame
  have hap := va_apart (own := own) hts hin ty0 hty hnm hK hcl
  obtain ⟨r, h1, cell, q1, q2, q3, q4⟩ := hc
  have hr : r = (C, T, N) := Option.some.inj (h1.symm.trans hcl)
  subst hr
  obtain ⟨hS', hfc, kC, hkC, hkind⟩ := hK.1 ci _ hcl
  obtain ⟨cf, kf, fi, f, hi, hsl⟩ := hS' k hk
  have hlay := hts _ (hin _ (u_in_lay hk))
  unfold u_lay at hlay
  rw [if_neg (by rw [hfin]; decide)] at hlay
  have hst := (u_facts hfc hkC (u_lays hts hin hk) hi).1
  have h6 := u_store hfc hkC hkind hlay hi (hty k hk) hn hfit
  refine W.putK hexec hb (f := f) ⟨hown, hlink, ⟨_, _, _, hi⟩, hst⟩ (by rw [q2]; exact h6) q1 q3 (by rw [hsl]; exact k2_hasslot (q4 k hk)) rfl rfl hdg fun H' e1 e2 e3 => ?_
  rw [hsl] at e1 ⊢
  exact kk H' _ ⟨_, hcl, t_OB.to (V := updV (vp_V fs) k v) ⟨_, e1, q2, q3, t_set q4 hap hk v⟩ (fun j _ => vp_updV_set hl v j)⟩ ⟨e2, e3⟩ (hS.put e2 e3 hA)
/-- .. final, in the constructor -/
theorem g_putF (hexec : p.tables.exec = Jvm.exec) (hb : c.code = cc) {own ref C : String} {T : u_T} {N ci index : Nat} {Ts : List Cond} (hts : ∀ w ∈ Ts, w.before args s = true) (hin : ∀ w ∈ u_ws C T N, w ∈ Ts) (ty0 : Nat → FieldType) (hty : ∀ k, k < N → parseFieldDescriptor (T k).2.2.1 = some (ty0 k)) (hnm : ∀ a, a < N → ∀ b, b < N → a ≠ b → (T a).2.1 ≠ (T b).2.1) (hown : s.vm.findClass own = some m.cls) (hK : gK D cy s) {fs : List Value} (hc : oA D a (.inr (ci, fs)) H) (hcl : vwCl[ci]? = some (C, T, N)) (hS : va_S A H0 H locs) (hA : A a) (k : Nat) (hk : k < N) (hlink : (Cond.fieldLink own index ref (T k).2.1 (T k).2.2.1).before args s = true) (hsame : (T k).1 = ref) (hfin : (T k).2.2.2 = true) (hin2 : meth.name = "<init>") (hdecl : ref = own) {v : Value} (hn : narrow (ty0 k) v = v) (hfit : fits (ty0 k) v = true) (hl : k < fs.length)
    (hdg : decode cc pc = .ok (.putfield index, 3)) (kk : ∀ (H1 : Heap) (locs1 : List Loc), oA D a (.inr (ci, fs.set k v)) H1 → hU a H H1 → va_S A H0 H1 locs1 → W p l e R s m args below meth c H1 locs1 cells slots Q (F0 m (pc + 3) ls rest)) : W p l e R s m args below meth c H locs cells slots Q (F0 m pc ls (v :: .ref a :: rest)) := by
  subst hsame
  have hap := va_apart (own := own) hts hin ty0 hty hnm hK hcl
  obtain ⟨r, h1, cell, q1, q2, q3, q4⟩ := hc
  have hr : r = (C, T, N) := Option.some.inj (h1.symm.trans hcl)
  subst hr
  obtain ⟨hS', hfc, kC, hkC, hkind⟩ := hK.1 ci _ hcl
  obtain ⟨cf, kf, fi, f, hi, hsl⟩ := hS' k hk
  have hlay := hts _ (hin _ (u_in_lay hk))
  unfold u_lay at hlay
  rw [if_pos hfin] at hlay
  have hst := (u_facts hfc hkC (u_lays hts hin hk) hi).1
  have hcf : m.cls = cf := by
    obtain ⟨_, _, c', _, _, _, -, -, hf', -, -, -, hown2, -⟩ := Cond.laysFinal_spec hlay
    have e1 : c' = cf := by have := hi.symm.trans hf'; simp at this; exact this.1.symm
    rw [hdecl] at hown2
    rw [← e1]; exact Option.some.inj (hown.symm.trans hown2)
  have h6 := u_fits hfc hkC hkind (Or.inr hlay) hi (hty k hk) hn hfit
  refine W.putFinK hexec hb hown hlink hi hst hcf hin2 (by rw [q2]; exact h6) q1 q3 (by rw [hsl]; exact k2_hasslot (q4 k hk)) rfl rfl hdg fun H' e1 e2 e3 => ?_
  rw [hsl] at e1 ⊢
  exact kk H' _ ⟨_, hcl, t_OB.to (V := updV (vp_V fs) k v) ⟨_, e1, q2, q3, t_set q4 hap hk v⟩ (fun j _ => vp_updV_set hl v j)⟩ ⟨e2, e3⟩ (hS.put e2 e3 hA)
/-- rows of ints, of bools, of chars, of longs, of references: read -/
theorem g_iald (hexec : p.tables.exec = Jvm.exec) (hb : c.code = cc) (hK : gK D cy s) {n : Nat} {f : Nat → Int32} (hc : oA D a (.inl (cy 1, n, .inl f)) H) {i x : Int32} (hin : vp_in i n) (hx : f i.toNatClampNeg = x) (hdg : decode cc pc = .ok (.iaload, 1))
    (kk : W p l e R s m args below meth c H locs cells slots Q (F0 m (pc + 1) ls (.int x :: rest))) : W p l e R s m args below meth c H locs cells slots Q (F0 m pc ls (.int i :: .ref a :: rest)) := by
  subst hx
  exact va_iald hexec hb hK (g1 hc) 0 1 rfl rfl hin hdg kk
theorem g_zald (hexec : p.tables.exec = Jvm.exec) (hb : c.code = cc) (hK : gK D cy s) {n : Nat} {f : Nat → Int32} (hc : oA D a (.inl (cy 2, n, .inl f)) H) {i x : Int32} (hin : vp_in i n) (hx : f i.toNatClampNeg = x) (hdg : decode cc pc = .ok (.baload, 1))
    (kk : W p l e R s m args below meth c H locs cells slots Q (F0 m (pc + 1) ls (.int x :: rest))) : W p l e R s m args below meth c H locs cells slots Q (F0 m pc ls (.int i :: .ref a :: rest)) := by
  subst hx
  exact va_zald hexec hb hK (g1 hc) 0 2 rfl rfl hin hdg kk
theorem g_cald (hexec : p.tables.exec = Jvm.exec) (hb : c.code = cc) (hK : gK D cy s) {n : Nat} {f : Nat → Int32} (hc : oA D a (.inl (cy 0, n, .inl f)) H) {i x : Int32} (hin : vp_in i n) (hx : f i.toNatClampNeg = x) (hdg : decode cc pc = .ok (.caload, 1))
    (kk : W p l e R s m args below meth c H locs cells slots Q (F0 m (pc + 1) ls (.int x :: rest))) : W p l e R s m args below meth c H locs cells slots Q (F0 m pc ls (.int i :: .ref a :: rest)) := by
  subst hx
  exact va_cald hexec hb hK (g1 hc) 0 0 rfl rfl hin hdg kk
theorem g_lald (hexec : p.tables.exec = Jvm.exec) (hb : c.code = cc) (hK : gK D cy s) {n : Nat} {f : Nat → Int64} (hc : oA D a (.inl (cy 5, n, .inr (.inl f))) H) {i : Int32} {x : Int64} (hin : vp_in i n) (hx : f i.toNatClampNeg = x) (hdg : decode cc pc = .ok (.laload, 1))
    (kk : W p l e R s m args below meth c H locs cells slots Q (F0 m (pc + 1) ls (.long x :: rest))) : W p l e R s m args below meth c H locs cells slots Q (F0 m pc ls (.int i :: .ref a :: rest)) := by
  subst hx
  exact va_lald hexec hb hK (g1 hc) 0 5 rfl rfl hin hdg kk
theorem g_hald (hexec : p.tables.exec = Jvm.exec) (hb : c.code = cc) (hK : gK D cy s) {n : Nat} {f : Nat → Option Nat} (hc : oA D a (.inl (cy 3, n, .inr (.inr (.inr (.inr f))))) H) {i : Int32} {v : Value} (hin : vp_in i n) (hx : va_rf (f i.toNatClampNeg) = v) (hdg : decode cc pc = .ok (.aaload, 1))
    (kk : W p l e R s m args below meth c H locs cells slots Q (F0 m (pc + 1) ls (v :: rest))) : W p l e R s m args below meth c H locs cells slots Q (F0 m pc ls (.int i :: .ref a :: rest)) := by
  subst hx
  exact va_aldq (C := "Politecrawl$Host") hexec hb hK (g1 hc) 0 3 rfl rfl hin hdg kk
theorem g_pald (hexec : p.tables.exec = Jvm.exec) (hb : c.code = cc) (hK : gK D cy s) {n : Nat} {f : Nat → Option Nat} (hc : oA D a (.inl (cy 4, n, .inr (.inr (.inr (.inr f))))) H) {i : Int32} {v : Value} (hin : vp_in i n) (hx : va_rf (f i.toNatClampNeg) = v) (hdg : decode cc pc = .ok (.aaload, 1))
    (kk : W p l e R s m args below meth c H locs cells slots Q (F0 m (pc + 1) ls (v :: rest))) : W p l e R s m args below meth c H locs cells slots Q (F0 m pc ls (.int i :: .ref a :: rest)) := by
  subst hx
  exact va_aldq (C := "Politecrawl$Page") hexec hb hK (g1 hc) 0 4 rfl rfl hin hdg kk
/-- a row's length -/
theorem g_alen (hexec : p.tables.exec = Jvm.exec) (hb : c.code = cc) (hK : gK D cy s) (t0 : Nat) {x : vp_A} {cA : ClassId} {ty : FieldType} (hc : oA D a (.inl (cA, x)) H) (ht : (gT cy)[t0]? = some (cA, ty)) {v : Int32} (hv : Int32.ofNat x.1 = v) (hdg : decode cc pc = .ok (.arraylength, 1))
    (kk : W p l e R s m args below meth c H locs cells slots Q (F0 m (pc + 1) ls (.int v :: rest))) : W p l e R s m args below meth c H locs cells slots Q (F0 m pc ls (.ref a :: rest)) := va_alen hexec hb hK (g1 hc) 0 t0 rfl ht hv hdg kk
/-- rows, written -/
theorem g_iast (hexec : p.tables.exec = Jvm.exec) (hb : c.code = cc) (hK : gK D cy s) {n : Nat} {f : Nat → Int32} (hc : oA D a (.inl (cy 1, n, .inl f)) H) (hS : va_S A H0 H locs) (hA : A a) {i x : Int32} (hin : vp_in i n) (hdg : decode cc pc = .ok (.iastore, 1))
    (kk : ∀ (H1 : Heap) (locs1 : List Loc), oA D a (.inl (cy 1, n, .inl (upd f i.toNatClampNeg x))) H1 → hU a H H1 → va_S A H0 H1 locs1 → W p l e R s m args below meth c H1 locs1 cells slots Q (F0 m (pc + 1) ls rest)) : W p l e R s m args below meth c H locs cells slots Q (F0 m pc ls (.int x :: .int i :: .ref a :: rest)) := by
  refine W.iast hexec hb hc ((hK.2 1 _ rfl).1 n (fun j => .int (f j))) (fun q => by cases q) (by show ¬ (i < 0 ∨ (arrV _ _ _).slots.size ≤ _); rw [arrV_size]; exact hin) rfl rfl hdg fun H1 e z oq => ?_
  refine kk H1 _ ?_ ⟨z, oq⟩ (hS.put z oq hA)
  show H1[a]? = some (vp_cell _ _)
  rw [e, vp_cell_i, vp_cell_i, arrV_store]
  congr 2
  funext q
  by_cases hq : q = i.toNatClampNeg
  · subst hq; simp [updV, upd]
  · simp [updV, upd, hq]
theorem g_cast (hexec : p.tables.exec = Jvm.exec) (hb : c.code = cc) (hK : gK D cy s) {n : Nat} {f : Nat → Int32} (hc : oA D a (.inl (cy 0, n, .inl f)) H) (hS : va_S A H0 H locs) (hA : A a) {i x : Int32} (hin : vp_in i n) (hx : vp_nar .char x = x) (hdg : decode cc pc = .ok (.castore, 1))
    (kk : ∀ (H1 : Heap) (locs1 : List Loc), oA D a (.inl (cy 0, n, .inl (upd f i.toNatClampNeg x))) H1 → hU a H H1 → va_S A H0 H1 locs1 → W p l e R s m args below meth c H1 locs1 cells slots Q (F0 m (pc + 1) ls rest)) : W p l e R s m args below meth c H locs cells slots Q (F0 m pc ls (.int x :: .int i :: .ref a :: rest)) := by
  have kk2 : ∀ (H1 : Heap) (locs1 : List Loc), oA D a (.inl (cy 0, n, .inl (upd f i.toNatClampNeg (vp_nar .char x)))) H1 → hU a H H1 → va_S A H0 H1 locs1 → W p l e R s m args below meth c H1 locs1 cells slots Q (F0 m (pc + 1) ls rest) := by
    rw [hx]; exact kk
  refine W.cast hexec hb hc ((hK.2 0 _ rfl).1 n (fun j => .int (f j))) (fun q => by cases q) (by show ¬ (i < 0 ∨ (arrV _ _ _).slots.size ≤ _); rw [arrV_size]; exact hin) rfl rfl hdg fun H1 e z oq => ?_
  refine kk2 H1 _ ?_ ⟨z, oq⟩ (hS.put z oq hA)
  show H1[a]? = some (vp_cell _ _)
  rw [e, vp_cell_i, vp_cell_i, arrV_store]
  congr 2
  funext q
  by_cases hq : q = i.toNatClampNeg
  · subst hq
    simp [updV, upd, vp_nar]
    try rfl
  · simp [updV, upd, hq]
theorem g_zast (hexec : p.tables.exec = Jvm.exec) (hb : c.code = cc) (hK : gK D cy s) {n : Nat} {f : Nat → Int32} (hc : oA D a (.inl (cy 2, n, .inl f)) H) (hS : va_S A H0 H locs) (hA : A a) {i x : Int32} (hin : vp_in i n) (hx : vp_nar .boolean x = x) (hdg : decode cc pc = .ok (.bastore, 1))
    (kk : ∀ (H1 : Heap) (locs1 : List Loc), oA D a (.inl (cy 2, n, .inl (upd f i.toNatClampNeg x))) H1 → hU a H H1 → va_S A H0 H1 locs1 → W p l e R s m args below meth c H1 locs1 cells slots Q (F0 m (pc + 1) ls rest)) : W p l e R s m args below meth c H locs cells slots Q (F0 m pc ls (.int x :: .int i :: .ref a :: rest)) := by
  have kk2 : ∀ (H1 : Heap) (locs1 : List Loc), oA D a (.inl (cy 2, n, .inl (upd f i.toNatClampNeg (vp_nar .boolean x)))) H1 → hU a H H1 → va_S A H0 H1 locs1 → W p l e R s m args below meth c H1 locs1 cells slots Q (F0 m (pc + 1) ls rest) := by
    rw [hx]; exact kk
  refine W.zast hexec hb hc ((hK.2 2 _ rfl).1 n (fun j => .int (f j))) (fun q => by cases q) (by show ¬ (i < 0 ∨ (arrV _ _ _).slots.size ≤ _); rw [arrV_size]; exact hin) rfl rfl hdg fun H1 e z oq => ?_
  refine kk2 H1 _ ?_ ⟨z, oq⟩ (hS.put z oq hA)
  show H1[a]? = some (vp_cell _ _)
  rw [e, vp_cell_i, vp_cell_i, arrV_store]
  congr 2
  funext q
  by_cases hq : q = i.toNatClampNeg
  · subst hq
    simp [updV, upd, vp_nar]
    try rfl
  · simp [updV, upd, hq]
theorem g_last (hexec : p.tables.exec = Jvm.exec) (hb : c.code = cc) (hK : gK D cy s) {n : Nat} {f : Nat → Int64} (hc : oA D a (.inl (cy 5, n, .inr (.inl f))) H) (hS : va_S A H0 H locs) (hA : A a) {i : Int32} {x : Int64} (hin : vp_in i n) (hdg : decode cc pc = .ok (.lastore, 1))
    (kk : ∀ (H1 : Heap) (locs1 : List Loc), oA D a (.inl (cy 5, n, .inr (.inl (vp_updL f i.toNatClampNeg x)))) H1 → hU a H H1 → va_S A H0 H1 locs1 → W p l e R s m args below meth c H1 locs1 cells slots Q (F0 m (pc + 1) ls rest)) : W p l e R s m args below meth c H locs cells slots Q (F0 m pc ls (.long x :: .int i :: .ref a :: rest)) := by
  refine W.last hexec hb hc ((hK.2 5 _ rfl).1 n (fun j => .long (f j))) (fun q => by cases q) (by show ¬ (i < 0 ∨ (arrV _ _ _).slots.size ≤ _); rw [arrV_size]; exact hin) rfl rfl hdg fun H1 e z oq => ?_
  refine kk H1 _ ?_ ⟨z, oq⟩ (hS.put z oq hA)
  show H1[a]? = some (vp_cell _ _)
  rw [e, vp_cell_l, vp_cell_l, arrV_store]
  congr 2
  funext q
  by_cases hq : q = i.toNatClampNeg
  · subst hq; simp [updV, vp_updL]
  · simp [updV, vp_updL, hq]
/-- ends -/
theorem g_iret {v V : Int32} (hx : p.tables.exec = Jvm.exec) (hb : c.code = cc) (hr : meth.sig.returnType = some .int) (hlocks : meth.locks = false) (hdg : decode cc pc = .ok (.ireturn, 1)) (hv : v = V) : W p l e R s m args below meth c s.heap [] 0 0 (MQ below (rQ (some (.int V))) args s 0 0 (fun _ => False)) (F0 m pc ls [.int v]) :=
  W.iret hx hb hr (fun t ht hW => ⟨by rw [hv], ht⟩) (fun q h => by cases h) hdg hlocks
theorem g_zret {v V : Int32} {ty : FieldType} (hx : p.tables.exec = Jvm.exec) (hb : c.code = cc) (hr : meth.sig.returnType = some ty) (hlocks : meth.locks = false) (hn : narrow ty (.int v) = .int v) (hdg : decode cc pc = .ok (.ireturn, 1)) (hv : v = V) : W p l e R s m args below meth c s.heap [] 0 0 (MQ below (rQ (some (.int V))) args s 0 0 (fun _ => False)) (F0 m pc ls [.int v]) :=
  W.zret hx hb hr hn (fun t ht hW => ⟨by rw [hv], ht⟩) (fun q h => by cases h) hdg hlocks
theorem g_lret {v V : Int64} (hx : p.tables.exec = Jvm.exec) (hb : c.code = cc) (hr : meth.sig.returnType = some .long) (hlocks : meth.locks = false) (hdg : decode cc pc = .ok (.lreturn, 1)) (hv : v = V) : W p l e R s m args below meth c s.heap [] 0 0 (MQ below (rQ (some (.long V))) args s 0 0 (fun _ => False)) (F0 m pc ls [.long v]) :=
  W.lret hx hb hr (fun t ht hW => ⟨by rw [hv], ht⟩) (fun q h => by cases h) hdg hlocks
theorem g_aret {v V : Value} {C : String} (hx : p.tables.exec = Jvm.exec) (hb : c.code = cc) (hr : meth.sig.returnType = some (.object C)) (hlocks : meth.locks = false) (hvr : v = .null ∨ ∃ a, v = .ref a) (hdg : decode cc pc = .ok (.areturn, 1)) (hv : v = V) : W p l e R s m args below meth c s.heap [] 0 0 (MQ below (rQ (some V)) args s 0 0 (fun _ => False)) (F0 m pc ls [v]) :=
  W.aret hx hb hr (Or.inl ⟨_, rfl⟩) hvr (fun t ht hW => ⟨by rw [hv], ht⟩) (fun q h => by cases h) hdg hlocks
/-- ends of methods that write -/
theorem g_iretU {v V : Int32} {B : Heap → Prop} {mc ms : Nat} (hx : p.tables.exec = Jvm.exec) (hb : c.code = cc) (hr : meth.sig.returnType = some .int) (hlocks : meth.locks = false) (hS : va_S A s.heap H locs) (hB : B H) (hc : cells ≤ mc) (hs : slots ≤ ms) (hdg : decode cc pc = .ok (.ireturn, 1)) (hv : v = V) : W p l e R s m args below meth c H locs cells slots (MQ below (uQ (some (.int V)) B A) args s mc ms A) (F0 m pc ls [.int v]) :=
  W.widen (k := mc) (n := ms) hc hs (W.iret hx hb hr (fun t ht hW => ⟨by rw [hv], by rw [ht]; exact hB, hS.F ht⟩) hS.2.2 hdg hlocks)
theorem g_zretU {v V : Int32} {ty : FieldType} {B : Heap → Prop} {mc ms : Nat} (hx : p.tables.exec = Jvm.exec) (hb : c.code = cc) (hr : meth.sig.returnType = some ty) (hlocks : meth.locks = false) (hn : narrow ty (.int v) = .int v) (hS : va_S A s.heap H locs) (hB : B H) (hc : cells ≤ mc) (hs : slots ≤ ms) (hdg : decode cc pc = .ok (.ireturn, 1)) (hv : v = V) : W p l e R s m args below meth c H locs cells slots (MQ below (uQ (some (.int V)) B A) args s mc ms A) (F0 m pc ls [.int v]) :=
  W.widen (k := mc) (n := ms) hc hs (W.zret hx hb hr hn (fun t ht hW => ⟨by rw [hv], by rw [ht]; exact hB, hS.F ht⟩) hS.2.2 hdg hlocks)
theorem g_vretU {B : Heap → Prop} {mc ms : Nat} (hx : p.tables.exec = Jvm.exec) (hb : c.code = cc) (hr : meth.sig.returnType = none) (hlocks : meth.locks = false) (hS : va_S A s.heap H locs) (hB : B H) (hc : cells ≤ mc) (hs : slots ≤ ms) (hdg : decode cc pc = .ok (.return_, 1)) : W p l e R s m args below meth c H locs cells slots (MQ below (uQ none B A) args s mc ms A) (F0 m pc ls []) :=
  W.widen (k := mc) (n := ms) hc hs (W.vret hx hb hr (fun t ht hW => ⟨rfl, by rw [ht]; exact hB, hS.F ht⟩) hS.2.2 hdg hlocks)
end GB
end
section
/-! numbers: Int32 by Nat -/
def zb (b : Bool) : Int32 := if b then 1 else 0
theorem zb_t : zb true = 1 := rfl
theorem zb_f : zb false = 0 := rfl
theorem zb_p {p : Prop} [Decidable p] (h : p) : zb (decide p) = 1 := by simp [zb, h]
theorem zb_n {p : Prop} [Decidable p] (h : ¬ p) : zb (decide p) = 0 := by simp [zb, h]
theorem zb_eq {a b : Bool} (h : a = b) : zb a = zb b := by rw [h]
theorem zb_0 {b : Bool} : zb b = 0 ↔ b = false := by cases b <;> simp [zb]
theorem zb_n0 {b : Bool} : ¬ zb b = 0 ↔ b = true := by cases b <;> simp [zb]
theorem cl_le {i : Int32} {n : Nat} (hn : n < 2 ^ 31) (h0 : ¬ i < 0) : nI n ≤ i ↔ n ≤ i.toNatClampNeg := by
  rw [Int32.lt_iff_toInt_lt, Int32.toInt_zero] at h0
  rw [Int32.le_iff_toInt_le, nI_toInt hn]
  show _ ↔ n ≤ i.toInt.toNat
  omega
theorem cl_in {i : Int32} {n : Nat} (hn : n < 2 ^ 31) (h0 : ¬ i < 0) (h1 : ¬ nI n ≤ i) : vp_in i n := fun h => h.elim h0 (fun h => h1 ((cl_le hn h0).mpr h))
theorem cl_in30 {i : Int32} (h0 : ¬ i < 0) (h1 : ¬ (30 : Int32) ≤ i) : vp_in i 30 := cl_in (n := 30) (by decide) h0 h1
theorem cl_in6 {i : Int32} (h0 : ¬ i < 0) (h1 : ¬ (6 : Int32) ≤ i) : vp_in i 6 := cl_in (n := 6) (by decide) h0 h1
theorem cl_nI {n : Nat} (h : n < 2 ^ 31) : (nI n).toNatClampNeg = n := nI_clamp h
theorem nI_lt0 {n : Nat} (h : n < 2 ^ 31) : ¬ nI n < 0 := nI_pos h
theorem cl_ge0 {i : Int32} (h : i < 0) : i.toNatClampNeg = 0 := by
  rw [Int32.lt_iff_toInt_lt, Int32.toInt_zero] at h
  show i.toInt.toNat = 0
  omega
/-- an int that isn't below 0 is a number -/
theorem nI_of' {x : Int32} (h : ¬ x < 0) : x = nI x.toNatClampNeg ∧ x.toNatClampNeg < 2 ^ 31 := by
  obtain ⟨j, hj, rfl⟩ := nI_of h
  rw [nI_clamp hj]
  exact ⟨rfl, hj⟩
/-! references that may be null: loads and stores of them -/
section GV
variable {p : Program} {l : Launch} {e : Env} {R : Room} {s : State} {m : MethodId} {args : Array Value} {below : List Frame} {meth : Method} {c : Code} {H : Heap} {locs : List Loc} {cells slots : Nat} {Q : State → Prop}
variable {cc : ByteArray} {pc : Nat} {ls : Array Slot} {rest : List Value}
theorem g_aload_n (hexec : p.tables.exec = Jvm.exec) (hb : c.code = cc) {k : Fin 4} {i : Nat} {v : Value} (hv : v = .null ∨ ∃ a, v = .ref a) (hdg : decode cc pc = .ok (.aload_n k, 1)) (hi : (k : Nat) = i) (hl : ls[i]? = some (.val v))
    (kk : W p l e R s m args below meth c H locs cells slots Q (F0 m (pc + 1) ls (v :: rest))) : W p l e R s m args below meth c H locs cells slots Q (F0 m pc ls (rest)) := by
  rcases hv with rfl | ⟨a, rfl⟩
  · exact lv_aload_nN hexec hb hdg hi hl kk
  · exact lv_aload_n hexec hb hdg hi hl kk
theorem g_aload (hexec : p.tables.exec = Jvm.exec) (hb : c.code = cc) {i : Nat} {v : Value} (hv : v = .null ∨ ∃ a, v = .ref a) (hdg : decode cc pc = .ok (.aload i, 2)) (hl : ls[i]? = some (.val v))
    (kk : W p l e R s m args below meth c H locs cells slots Q (F0 m (pc + 2) ls (v :: rest))) : W p l e R s m args below meth c H locs cells slots Q (F0 m pc ls (rest)) := by
  rcases hv with rfl | ⟨a, rfl⟩
  · exact lv_aloadN hexec hb hdg hl kk
  · exact lv_aload hexec hb hdg hl kk
theorem g_astore_n (hexec : p.tables.exec = Jvm.exec) (hb : c.code = cc) {k : Fin 4} {i nL : Nat} {v : Value} (hv : v = .null ∨ ∃ a, v = .ref a) {lv lv' : List (Nat × Value)} (hdg : decode cc pc = .ok (.astore_n k, 1)) (hi : (k : Nat) = i) (h : lv_has ls nL lv) (hn : i < nL) (hl : (i, v) :: lv.filter (fun q => !(q.1 == i) && !(q.1 + 1 == i && q.2.category == 2)) = lv')
    (kk : ∀ ls' : Array Slot, lv_has ls' nL lv' → W p l e R s m args below meth c H locs cells slots Q (F0 m (pc + 1) ls' rest)) : W p l e R s m args below meth c H locs cells slots Q (F0 m pc ls (v :: rest)) := by
  rcases hv with rfl | ⟨a, rfl⟩
  · exact lv_astore_nN hexec hb hdg hi h hn hl kk
  · exact lv_astore_n hexec hb hdg hi h hn hl kk
theorem g_astore (hexec : p.tables.exec = Jvm.exec) (hb : c.code = cc) {i nL : Nat} {v : Value} (hv : v = .null ∨ ∃ a, v = .ref a) {lv lv' : List (Nat × Value)} (hdg : decode cc pc = .ok (.astore i, 2)) (h : lv_has ls nL lv) (hn : i < nL) (hl : (i, v) :: lv.filter (fun q => !(q.1 == i) && !(q.1 + 1 == i && q.2.category == 2)) = lv')
    (kk : ∀ ls' : Array Slot, lv_has ls' nL lv' → W p l e R s m args below meth c H locs cells slots Q (F0 m (pc + 2) ls' rest)) : W p l e R s m args below meth c H locs cells slots Q (F0 m pc ls (v :: rest)) := by
  rcases hv with rfl | ⟨a, rfl⟩
  · exact lv_astoreN hexec hb hdg h hn hl kk
  · exact lv_astore hexec hb hdg h hn hl kk
/-- the value on top by another name -/
theorem g_top {v v' : Value} (h : v = v') (kk : W p l e R s m args below meth c H locs cells slots Q (F0 m pc ls (v' :: rest))) : W p l e R s m args below meth c H locs cells slots Q (F0 m pc ls (v :: rest)) := h ▸ kk
end GV
theorem lv_cast {ls : Array Slot} {n : Nat} {l l' : List (Nat × Value)} (h : lv_has ls n l) (e : l = l') : lv_has ls n l' := e ▸ h
end
section
/-! Politecrawl$Address: what it reads -/
/-- an address object a, its rows of characters and of starts -/
def pA (D : va_G) (cy : Nat → ClassId) (a c t : Nat) (ch st : Nat → Int32) (len seg : Nat) : Heap → Prop := fun H => oA D a (.inr (0, [.ref c, .ref t, .int (nI len), .int (nI seg)])) H ∧ oA D c (.inl (cy 0, 30, .inl ch)) H ∧ oA D t (.inl (cy 1, 30, .inl st)) H
/-- characters are characters -/
def chOK (ch : Nat → Int32) : Prop := ∀ j, j < 30 → narrow .char (.int (ch j)) = .int (ch j)
def atN (ch : Nat → Int32) (len j : Nat) : Int32 := if j < len then ch j else 47
def atI (ch : Nat → Int32) (len : Nat) (i : Int32) : Int32 := if i < 0 then 47 else atN ch len i.toNatClampNeg
theorem atI_nI {ch : Nat → Int32} {len j : Nat} (h : j < 2 ^ 31) : atI ch len (nI j) = atN ch len j := by rw [atI, if_neg (nI_lt0 h), cl_nI h]
def stI (st : Nat → Int32) (len : Nat) (i : Int32) : Int32 := if i < 0 ∨ (30 : Int32) ≤ i then nI len else st i.toNatClampNeg
theorem stI_nI {st : Nat → Int32} {len j : Nat} (h : j < 30) : stI st len (nI j) = st j := by
  rw [stI, if_neg, cl_nI (by omega)]
  rintro (h1 | h1)
  · exact nI_lt0 (by omega) h1
  · exact nI_ge (a := j) (b := 30) h (by decide) h1
/-- two segments from a and from b: equal up to the first slash -/
def hss (ch : Nat → Int32) (len a b : Nat) : Nat → Nat → Bool
  | 0, _ => true
  | k + 1, i => if atN ch len (a + i) = atN ch len (b + i) then (if atN ch len (a + i) = 47 then true else hss ch len a b k (i + 1)) else false
/-- twice 'size' equal ones in a row -/
def c3 (P : Nat → Bool) (size seg : Nat) : Nat → Nat → Nat → Bool
  | 0, _, _ => false
  | k + 1, i, q => if i + size < seg then (if (if P i then q + 1 else 0) = 2 * size then true else c3 P size seg k (i + 1) (if P i then q + 1 else 0)) else false
def hssP (ch st : Nat → Int32) (len size : Nat) (i : Nat) : Bool := hss ch len (st i).toNatClampNeg (st (i + size)).toNatClampNeg len 0
def c3A (ch st : Nat → Int32) (len seg size : Nat) : Bool := c3 (hssP ch st len size) size seg (seg + 1) 0 0
def repA (ch st : Nat → Int32) (len seg : Nat) : Bool := c3A ch st len seg 1 || c3A ch st len seg 2 || c3A ch st len seg 3
/-- starts lie in the text -/
def stOK (st : Nat → Int32) (seg len : Nat) : Prop := ∀ j, j < seg → ∃ q, st j = nI q ∧ q < len

set_option maxHeartbeats 4000000 in
set_option maxRecDepth 100000 in
/-- isFull() -/
theorem m_X0_isFull (l : Launch) (D : va_G) (cy : Nat → ClassId) (a c9 t : Nat) (ch st : Nat → Int32) (len seg : Nat) : Met l yX0_isFull wsX0_isFull ({ frames := 0, cells := 0, slots := 0, locals := 0 } : Room) (va_Pc [.ref a] (fun U => gK D cy U ∧ (pA D cy a c9 t ch st len seg) U.heap)) (rQ (some (.int (if nI len < 30 then 0 else 1)))) 0 0 (fun _ => False) := by
  refine Met.ofW (cc := cX0_isFull) (maxL := 1) (ret := (some .boolean)) (by decide) rfl ?_
  intro p e s m args below meth c s₁ B9 hml hv
  obtain ⟨rfl, hK, hB⟩ := hv
  have hx := B9.exec
  have hb := B9.bytes
  have hr := B9.returns
  have hts := atoms_spec (ws := wsX0_isFull) B9.pre
  have hown : s.vm.findClass RX0 = some m.cls := findClass_of_methodNamed B9.named
  have hlocks := B9.notSynchronized
  have lk26 := hts (.fieldLink RX0 26 "Politecrawl$Address" "length" "I") (by decide +kernel)
  have inX0 : ∀ w ∈ u_ws RX0 TX0 4, w ∈ wsX0_isFull := by decide +kernel
  have lk9 := hts (.fieldLink RX0 9 "Politecrawl$Address" "characters" "[C") (by decide +kernel)
  have hl := lv_entry ([.ref a]) (n := 1) (Nat.le_of_ble_eq_true rfl)
  rw [lg_entry_eq]
  generalize (lg_sl ([.ref a]) ++ List.replicate (1 - (lg_sl ([.ref a])).length) Slot.unset).toArray = ls at hl ⊢
  have hl : lv_has ls 1 [(0, .ref a)] := hl
  refine lv_aload_n hx hb dX0_isFull_0 rfl (lv_at hl 0 rfl) ?_
  refine g_get (C := RX0) (T := TX0) (N := 4) (ci := 0) (fs := [.ref c9, .ref t, .int (nI len), .int (nI seg)]) hx hb hts inX0 hown hK hB.1 rfl 2 (by decide) lk26 rfl rfl dX0_isFull_1 ?_
  refine lv_aload_n hx hb dX0_isFull_4 rfl (lv_at hl 0 rfl) ?_
  refine g_get (C := RX0) (T := TX0) (N := 4) (ci := 0) (fs := [.ref c9, .ref t, .int (nI len), .int (nI seg)]) hx hb hts inX0 hown hK hB.1 rfl 0 (by decide) lk9 rfl rfl dX0_isFull_5 ?_
  refine g_alen (v := 30) hx hb hK 0 hB.2.1 rfl rfl dX0_isFull_8 ?_
  refine lv_icmp_lt (tgt := 16) hx hb dX0_isFull_9 (by decide) (fun c_9 => ?_) (fun c_9 => ?_)
  · -- 9 t
    refine lv_iconst (v := 0) hx hb dX0_isFull_16 (by decide) ?_
    exact g_zret hx hb hr hlocks rfl dX0_isFull_17 (by simp [c_9])
  · -- 9 f
    refine lv_iconst (v := 1) hx hb dX0_isFull_12 (by decide) ?_
    refine lv_goto (tgt := 17) hx hb dX0_isFull_13 (by decide) ?_
    exact g_zret hx hb hr hlocks rfl dX0_isFull_17 (by simp [c_9])

set_option maxHeartbeats 4000000 in
set_option maxRecDepth 100000 in
/-- at(i) -/
theorem m_X0_at (l : Launch) (D : va_G) (cy : Nat → ClassId) (a c9 t : Nat) (ch st : Nat → Int32) (len seg : Nat) (hlen : len ≤ 30) (hch : chOK ch) (i : Int32) : Met l yX0_at wsX0_at ({ frames := 0, cells := 0, slots := 0, locals := 0 } : Room) (va_Pc [.ref a, .int i] (fun U => gK D cy U ∧ (pA D cy a c9 t ch st len seg) U.heap)) (rQ (some (.int (atI ch len i)))) 0 0 (fun _ => False) := by
  refine Met.ofW (cc := cX0_at) (maxL := 3) (ret := (some .char)) (by decide) rfl ?_
  intro p e s m args below meth c s₁ B9 hml hv
  obtain ⟨rfl, hK, hB⟩ := hv
  have hx := B9.exec
  have hb := B9.bytes
  have hr := B9.returns
  have hts := atoms_spec (ws := wsX0_at) B9.pre
  have hown : s.vm.findClass RX0 = some m.cls := findClass_of_methodNamed B9.named
  have hlocks := B9.notSynchronized
  have lk26 := hts (.fieldLink RX0 26 "Politecrawl$Address" "length" "I") (by decide +kernel)
  have inX0 : ∀ w ∈ u_ws RX0 TX0 4, w ∈ wsX0_at := by decide +kernel
  have lk9 := hts (.fieldLink RX0 9 "Politecrawl$Address" "characters" "[C") (by decide +kernel)
  have hl := lv_entry ([.ref a, .int i]) (n := 3) (Nat.le_of_ble_eq_true rfl)
  rw [lg_entry_eq]
  generalize (lg_sl ([.ref a, .int i]) ++ List.replicate (3 - (lg_sl ([.ref a, .int i])).length) Slot.unset).toArray = ls at hl ⊢
  have hl : lv_has ls 3 [(0, .ref a), (1, .int i)] := hl
  refine lv_iload_n hx hb dX0_at_0 rfl (lv_at hl 1 rfl) ?_
  refine lv_if_lt (tgt := 25) hx hb dX0_at_1 (by decide) (fun c_1 => ?_) (fun c_1 => ?_)
  · -- 1 t
    refine lv_iconst (v := 0) hx hb dX0_at_25 (by decide) ?_
    refine lv_istore_n (lv' := [(2, .int 0), (0, .ref a), (1, .int i)]) hx hb dX0_at_26 rfl hl (by decide) rfl (fun ls hl => ?_)
    refine lv_iload_n hx hb dX0_at_27 rfl (lv_at hl 0 rfl) ?_
    refine lv_if_eq (tgt := 40) hx hb dX0_at_28 (by decide) (fun c_28 => ?_) (fun c_28 => ?_)
    · -- 28 t
      refine lv_bipush (v := 47) hx hb dX0_at_40 (by decide) ?_
      exact g_zret hx hb hr hlocks rfl dX0_at_42 (by rw [atI, if_pos c_1])
    · exact absurd c_28 (by decide)
  · -- 1 f
    refine lv_iload_n hx hb dX0_at_4 rfl (lv_at hl 1 rfl) ?_
    refine lv_aload_n hx hb dX0_at_5 rfl (lv_at hl 0 rfl) ?_
    refine g_get (C := RX0) (T := TX0) (N := 4) (ci := 0) (fs := [.ref c9, .ref t, .int (nI len), .int (nI seg)]) hx hb hts inX0 hown hK hB.1 rfl 2 (by decide) lk26 rfl rfl dX0_at_6 ?_
    refine lv_icmp_ge (tgt := 25) hx hb dX0_at_9 (by decide) (fun c_9 => ?_) (fun c_9 => ?_)
    · -- 9 t
      refine lv_iconst (v := 0) hx hb dX0_at_25 (by decide) ?_
      refine lv_istore_n (lv' := [(2, .int 0), (0, .ref a), (1, .int i)]) hx hb dX0_at_26 rfl hl (by decide) rfl (fun ls hl => ?_)
      refine lv_iload_n hx hb dX0_at_27 rfl (lv_at hl 0 rfl) ?_
      refine lv_if_eq (tgt := 40) hx hb dX0_at_28 (by decide) (fun c_28 => ?_) (fun c_28 => ?_)
      · -- 28 t
        refine lv_bipush (v := 47) hx hb dX0_at_40 (by decide) ?_
        exact g_zret hx hb hr hlocks rfl dX0_at_42 (by rw [atI, if_neg c_1, atN, if_neg (Nat.not_lt.mpr ((cl_le (by omega) c_1).mp c_9))])
      · exact absurd c_28 (by decide)
    · -- 9 f
      refine lv_iload_n hx hb dX0_at_12 rfl (lv_at hl 1 rfl) ?_
      refine lv_aload_n hx hb dX0_at_13 rfl (lv_at hl 0 rfl) ?_
      refine g_get (C := RX0) (T := TX0) (N := 4) (ci := 0) (fs := [.ref c9, .ref t, .int (nI len), .int (nI seg)]) hx hb hts inX0 hown hK hB.1 rfl 0 (by decide) lk9 rfl rfl dX0_at_14 ?_
      refine g_alen (v := 30) hx hb hK 0 hB.2.1 rfl rfl dX0_at_17 ?_
      refine lv_icmp_ge (tgt := 25) hx hb dX0_at_18 (by decide) (fun c_18 => ?_) (fun c_18 => ?_)
      · -- 18 t
        refine lv_iconst (v := 0) hx hb dX0_at_25 (by decide) ?_
        refine lv_istore_n (lv' := [(2, .int 0), (0, .ref a), (1, .int i)]) hx hb dX0_at_26 rfl hl (by decide) rfl (fun ls hl => ?_)
        refine lv_iload_n hx hb dX0_at_27 rfl (lv_at hl 0 rfl) ?_
        refine lv_if_eq (tgt := 40) hx hb dX0_at_28 (by decide) (fun c_28 => ?_) (fun c_28 => ?_)
        · -- 28 t
          refine lv_bipush (v := 47) hx hb dX0_at_40 (by decide) ?_
          exact g_zret hx hb hr hlocks rfl dX0_at_42 (by rw [atI, if_neg c_1, atN, if_neg (fun q => c_9 ((cl_le (by omega) c_1).mpr (by have := (cl_le (n := 30) (by decide) c_1).mp c_18; omega)))])
        · exact absurd c_28 (by decide)
      · -- 18 f
        refine lv_iconst (v := 1) hx hb dX0_at_21 (by decide) ?_
        refine lv_goto (tgt := 26) hx hb dX0_at_22 (by decide) ?_
        refine lv_istore_n (lv' := [(2, .int 1), (0, .ref a), (1, .int i)]) hx hb dX0_at_26 rfl hl (by decide) rfl (fun ls hl => ?_)
        refine lv_iload_n hx hb dX0_at_27 rfl (lv_at hl 0 rfl) ?_
        refine lv_if_eq (tgt := 40) hx hb dX0_at_28 (by decide) (fun c_28 => ?_) (fun c_28 => ?_)
        · exact absurd c_28 (by decide)
        · -- 28 f
          refine lv_aload_n hx hb dX0_at_31 rfl (lv_at hl 1 rfl) ?_
          refine g_get (C := RX0) (T := TX0) (N := 4) (ci := 0) (fs := [.ref c9, .ref t, .int (nI len), .int (nI seg)]) hx hb hts inX0 hown hK hB.1 rfl 0 (by decide) lk9 rfl rfl dX0_at_32 ?_
          refine lv_iload_n hx hb dX0_at_35 rfl (lv_at hl 2 rfl) ?_
          refine g_cald (f := ch) (x := ch i.toNatClampNeg) hx hb hK hB.2.1 (cl_in30 c_1 c_18) rfl dX0_at_36 ?_
          refine lv_goto (tgt := 42) hx hb dX0_at_37 (by decide) ?_
          exact g_zret hx hb hr hlocks (hch _ (Nat.not_le.mp fun q => (cl_in30 c_1 c_18) (Or.inr q))) dX0_at_42 (by rw [atI, if_neg c_1, atN, if_pos (Nat.not_le.mp fun q => c_9 ((cl_le (by omega) c_1).mpr q))])

set_option maxHeartbeats 4000000 in
set_option maxRecDepth 100000 in
/-- startOf(i) -/
theorem m_X0_startOf (l : Launch) (D : va_G) (cy : Nat → ClassId) (a c9 t : Nat) (ch st : Nat → Int32) (len seg : Nat) (i : Int32) : Met l yX0_startOf wsX0_startOf ({ frames := 0, cells := 0, slots := 0, locals := 0 } : Room) (va_Pc [.ref a, .int i] (fun U => gK D cy U ∧ (pA D cy a c9 t ch st len seg) U.heap)) (rQ (some (.int (stI st len i)))) 0 0 (fun _ => False) := by
  refine Met.ofW (cc := cX0_startOf) (maxL := 2) (ret := (some .int)) (by decide) rfl ?_
  intro p e s m args below meth c s₁ B9 hml hv
  obtain ⟨rfl, hK, hB⟩ := hv
  have hx := B9.exec
  have hb := B9.bytes
  have hr := B9.returns
  have hts := atoms_spec (ws := wsX0_startOf) B9.pre
  have hown : s.vm.findClass RX0 = some m.cls := findClass_of_methodNamed B9.named
  have hlocks := B9.notSynchronized
  have lk15 := hts (.fieldLink RX0 15 "Politecrawl$Address" "starts" "[I") (by decide +kernel)
  have inX0 : ∀ w ∈ u_ws RX0 TX0 4, w ∈ wsX0_startOf := by decide +kernel
  have lk26 := hts (.fieldLink RX0 26 "Politecrawl$Address" "length" "I") (by decide +kernel)
  have hl := lv_entry ([.ref a, .int i]) (n := 2) (Nat.le_of_ble_eq_true rfl)
  rw [lg_entry_eq]
  generalize (lg_sl ([.ref a, .int i]) ++ List.replicate (2 - (lg_sl ([.ref a, .int i])).length) Slot.unset).toArray = ls at hl ⊢
  have hl : lv_has ls 2 [(0, .ref a), (1, .int i)] := hl
  refine lv_iload_n hx hb dX0_startOf_0 rfl (lv_at hl 1 rfl) ?_
  refine lv_if_lt (tgt := 22) hx hb dX0_startOf_1 (by decide) (fun c_1 => ?_) (fun c_1 => ?_)
  · -- 1 t
    refine lv_aload_n hx hb dX0_startOf_22 rfl (lv_at hl 0 rfl) ?_
    refine g_get (C := RX0) (T := TX0) (N := 4) (ci := 0) (fs := [.ref c9, .ref t, .int (nI len), .int (nI seg)]) hx hb hts inX0 hown hK hB.1 rfl 2 (by decide) lk26 rfl rfl dX0_startOf_23 ?_
    exact g_iret hx hb hr hlocks dX0_startOf_26 (by rw [stI, if_pos (Or.inl c_1)])
  · -- 1 f
    refine lv_iload_n hx hb dX0_startOf_4 rfl (lv_at hl 1 rfl) ?_
    refine lv_aload_n hx hb dX0_startOf_5 rfl (lv_at hl 0 rfl) ?_
    refine g_get (C := RX0) (T := TX0) (N := 4) (ci := 0) (fs := [.ref c9, .ref t, .int (nI len), .int (nI seg)]) hx hb hts inX0 hown hK hB.1 rfl 1 (by decide) lk15 rfl rfl dX0_startOf_6 ?_
    refine g_alen (v := 30) hx hb hK 1 hB.2.2 rfl rfl dX0_startOf_9 ?_
    refine lv_icmp_ge (tgt := 22) hx hb dX0_startOf_10 (by decide) (fun c_10 => ?_) (fun c_10 => ?_)
    · -- 10 t
      refine lv_aload_n hx hb dX0_startOf_22 rfl (lv_at hl 0 rfl) ?_
      refine g_get (C := RX0) (T := TX0) (N := 4) (ci := 0) (fs := [.ref c9, .ref t, .int (nI len), .int (nI seg)]) hx hb hts inX0 hown hK hB.1 rfl 2 (by decide) lk26 rfl rfl dX0_startOf_23 ?_
      exact g_iret hx hb hr hlocks dX0_startOf_26 (by rw [stI, if_pos (Or.inr c_10)])
    · -- 10 f
      refine lv_aload_n hx hb dX0_startOf_13 rfl (lv_at hl 0 rfl) ?_
      refine g_get (C := RX0) (T := TX0) (N := 4) (ci := 0) (fs := [.ref c9, .ref t, .int (nI len), .int (nI seg)]) hx hb hts inX0 hown hK hB.1 rfl 1 (by decide) lk15 rfl rfl dX0_startOf_14 ?_
      refine lv_iload_n hx hb dX0_startOf_17 rfl (lv_at hl 1 rfl) ?_
      refine g_iald (f := st) (x := st i.toNatClampNeg) hx hb hK hB.2.2 (cl_in30 c_1 c_10) rfl dX0_startOf_18 ?_
      refine lv_goto (tgt := 26) hx hb dX0_startOf_19 (by decide) ?_
      exact g_iret hx hb hr hlocks dX0_startOf_26 (by rw [stI, if_neg (fun h => h.elim c_1 c_10)])


/-- two addresses -/
def pAA (D : va_G) (cy : Nat → ClassId) (a c t : Nat) (ch st : Nat → Int32) (len seg : Nat) (a2 c2 t2 : Nat) (ch2 st2 : Nat → Int32) (len2 seg2 : Nat) : Heap → Prop := fun H => pA D cy a c t ch st len seg H ∧ pA D cy a2 c2 t2 ch2 st2 len2 seg2 H
/-- equal from i on, k places -/
def sameF (f g : Nat → Int32) : Nat → Nat → Bool
  | 0, _ => true
  | k + 1, i => if f i = g i then sameF f g k (i + 1) else false

set_option maxHeartbeats 4000000 in
set_option maxRecDepth 100000 in
/-- hasSameSegments(x, y) -/
theorem m_X0_hasSameSegments (l : Launch) (D : va_G) (cy : Nat → ClassId) (a c9 t : Nat) (ch st : Nat → Int32) (len seg : Nat) (hlen : len ≤ 30) (hch : chOK ch) (hseg : seg ≤ 30) (hst : stOK st seg len) (x y : Nat) (hx0 : x < seg) (hy0 : y < seg) : Met l yX0_hasSameSegments wsX0_hasSameSegments ({ frames := 1, cells := 0, slots := 0, locals := 30 } : Room) (va_Pc [.ref a, .int (nI x), .int (nI y)] (fun U => gK D cy U ∧ (pA D cy a c9 t ch st len seg) U.heap)) (rQ (some (.int (zb (hss ch len (st x).toNatClampNeg (st y).toNatClampNeg len 0))))) 0 0 (fun _ => False) := by
  refine Met.ofW (cc := cX0_hasSameSegments) (maxL := 7) (ret := (some .boolean)) (by decide) rfl ?_
  intro p e s m args below meth c s₁ B9 hml hv
  obtain ⟨rfl, hK, hB⟩ := hv
  have hx := B9.exec
  have hb := B9.bytes
  have hr := B9.returns
  have hts := atoms_spec (ws := wsX0_hasSameSegments) B9.pre
  have hown : s.vm.findClass RX0 = some m.cls := findClass_of_methodNamed B9.named
  have hlocks := B9.notSynchronized
  have lk26 := hts (.fieldLink RX0 26 "Politecrawl$Address" "length" "I") (by decide +kernel)
  have inX0 : ∀ w ∈ u_ws RX0 TX0 4, w ∈ wsX0_hasSameSegments := by decide +kernel
  have hl := lv_entry ([.ref a, .int (nI x), .int (nI y)]) (n := 7) (Nat.le_of_ble_eq_true rfl)
  rw [lg_entry_eq]
  generalize (lg_sl ([.ref a, .int (nI x), .int (nI y)]) ++ List.replicate (7 - (lg_sl ([.ref a, .int (nI x), .int (nI y)])).length) Slot.unset).toArray = ls at hl ⊢
  have hl : lv_has ls 7 [(0, .ref a), (1, .int (nI x)), (2, .int (nI y))] := hl
  obtain ⟨qa, ea, hqa⟩ := hst x hx0
  obtain ⟨qb, eb, hqb⟩ := hst y hy0
  have e1 : (st x).toNatClampNeg = qa := by rw [ea, cl_nI (by omega)]
  have e2 : (st y).toNatClampNeg = qb := by rw [eb, cl_nI (by omega)]
  obtain ⟨V, hV⟩ : ∃ V, V = zb (hss ch len (st x).toNatClampNeg (st y).toNatClampNeg len 0) := ⟨_, rfl⟩
  rw [← hV]
  rw [e1, e2] at hV
  refine lv_aload_n hx hb dX0_hasSameSegments_0 rfl (lv_at hl 0 rfl) ?_
  refine lv_iload_n hx hb dX0_hasSameSegments_1 rfl (lv_at hl 1 rfl) ?_
  refine g_csr (va_runV (As := [.int (nI x)]) (rest := []) ⟨hx, hb, hml, hown, hts⟩ (m_X0_startOf l D cy a c9 t ch st len seg (nI x)) (cwV 1 hts gX0_hasSameSegments_X0_startOf rfl rfl rfl (by decide +kernel) ⟨Nat.le_of_ble_eq_true rfl, Nat.le_of_ble_eq_true rfl⟩) (g_preV (C := RX0) (B := (pA D cy a c9 t ch st len seg)) hK hB hB.1 rfl) rfl rfl hl.1 rfl (lv_room (Nat.le_of_ble_eq_true rfl)) dX0_hasSameSegments_2 ⟨Nat.zero_le _, Nat.zero_le _⟩) ?_
  refine lv_topi (fun y1 ey1 => ?_)
  obtain rfl : y1 = nI qa := ey1.trans ((stI_nI (by omega)).trans ea)
  refine lv_istore_n (lv' := [(3, .int (nI qa)), (0, .ref a), (1, .int (nI x)), (2, .int (nI y))]) hx hb dX0_hasSameSegments_5 rfl hl (by decide) rfl (fun ls hl => ?_)
  refine lv_aload_n hx hb dX0_hasSameSegments_6 rfl (lv_at hl 1 rfl) ?_
  refine lv_iload_n hx hb dX0_hasSameSegments_7 rfl (lv_at hl 3 rfl) ?_
  refine g_csr (va_runV (As := [.int (nI y)]) (rest := []) ⟨hx, hb, hml, hown, hts⟩ (m_X0_startOf l D cy a c9 t ch st len seg (nI y)) (cwV 1 hts gX0_hasSameSegments_X0_startOf rfl rfl rfl (by decide +kernel) ⟨Nat.le_of_ble_eq_true rfl, Nat.le_of_ble_eq_true rfl⟩) (g_preV (C := RX0) (B := (pA D cy a c9 t ch st len seg)) hK hB hB.1 rfl) rfl rfl hl.1 rfl (lv_room (Nat.le_of_ble_eq_true rfl)) dX0_hasSameSegments_8 ⟨Nat.zero_le _, Nat.zero_le _⟩) ?_
  refine lv_topi (fun y2 ey2 => ?_)
  obtain rfl : y2 = nI qb := ey2.trans ((stI_nI (by omega)).trans eb)
  refine lv_istore (lv' := [(4, .int (nI qb)), (3, .int (nI qa)), (0, .ref a), (1, .int (nI x)), (2, .int (nI y))]) hx hb dX0_hasSameSegments_11 hl (by decide) rfl (fun ls hl => ?_)
  refine lv_iconst (v := 0) hx hb dX0_hasSameSegments_13 (by decide) ?_
  refine lv_istore (lv' := [(5, .int 0), (4, .int (nI qb)), (3, .int (nI qa)), (0, .ref a), (1, .int (nI x)), (2, .int (nI y))]) hx hb dX0_hasSameSegments_14 hl (by decide) rfl (fun ls hl => ?_)
  have loop : ∀ (k : Nat) (i : Nat) (ls : Array Slot), i ≤ len → len < i + k → V = zb (hss ch len qa qb (len - i) i) → lv_has ls 7 [(0, .ref a), (1, .int (nI x)), (2, .int (nI y)), (3, .int (nI qa)), (4, .int (nI qb)), (5, .int (nI i))] → W p l e (headSpec wsX0_hasSameSegments ({ frames := 1, cells := 0, slots := 0, locals := 30 } : Room)).room s m ([.ref a, .int (nI x), .int (nI y)] : List Value).toArray below meth c s.heap [] 0 0 (MQ below (rQ (some (.int V))) ([.ref a, .int (nI x), .int (nI y)] : List Value).toArray s 0 0 (fun _ => False)) (F0 m 16 ls []) := by
    intro k
    induction k with
    | zero => intro i ls hi hk hV hl; exfalso; omega
    | succ k loop_ih =>
      intro i ls hi hk hV hl
      refine lv_iload hx hb dX0_hasSameSegments_16 (lv_at hl 5 rfl) ?_
      refine lv_aload_n hx hb dX0_hasSameSegments_18 rfl (lv_at hl 0 rfl) ?_
      refine g_get (C := RX0) (T := TX0) (N := 4) (ci := 0) (fs := [.ref c9, .ref t, .int (nI len), .int (nI seg)]) hx hb hts inX0 hown hK hB.1 rfl 2 (by decide) lk26 rfl rfl dX0_hasSameSegments_19 ?_
      refine lv_icmp_ge (tgt := 66) hx hb dX0_hasSameSegments_22 (by decide) (fun c_22 => ?_) (fun c_22 => ?_)
      · -- 22 t
        have hle : len ≤ i := (nI_leI (by omega) (by omega)).mp c_22
        refine lv_iconst (v := 1) hx hb dX0_hasSameSegments_66 (by decide) ?_
        exact g_zret hx hb hr hlocks rfl dX0_hasSameSegments_67 (by rw [hV, show len - i = 0 by omega]; rfl)
      · -- 22 f
        have hlt : i < len := Nat.not_le.mp fun q => c_22 ((nI_leI (by omega) (by omega)).mpr q)
        obtain ⟨j, hj⟩ : ∃ j, len - i = j + 1 := ⟨len - i - 1, by omega⟩
        have hj2 : len - (i + 1) = j := by omega
        rw [hj, hss] at hV
        refine lv_aload_n hx hb dX0_hasSameSegments_25 rfl (lv_at hl 0 rfl) ?_
        refine lv_iload_n hx hb dX0_hasSameSegments_26 rfl (lv_at hl 3 rfl) ?_
        refine lv_iload hx hb dX0_hasSameSegments_27 (lv_at hl 5 rfl) ?_
        refine lv_iadd hx hb dX0_hasSameSegments_29 ?_
        refine lv_topi (fun y3 ey3 => ?_)
        obtain rfl : y3 = nI (qa + i) := ey3.trans (nI_add _ _)
        refine g_csr (va_runV (As := [.int (nI (qa + i))]) (rest := []) ⟨hx, hb, hml, hown, hts⟩ (m_X0_at l D cy a c9 t ch st len seg (by omega) hch (nI (qa + i))) (cwV 1 hts gX0_hasSameSegments_X0_at rfl rfl rfl (by decide +kernel) ⟨Nat.le_of_ble_eq_true rfl, Nat.le_of_ble_eq_true rfl⟩) (g_preV (C := RX0) (B := (pA D cy a c9 t ch st len seg)) hK hB hB.1 rfl) rfl rfl hl.1 rfl (lv_room (Nat.le_of_ble_eq_true rfl)) dX0_hasSameSegments_30 ⟨Nat.zero_le _, Nat.zero_le _⟩) ?_
        refine lv_topi (fun y4 ey4 => ?_)
        obtain rfl : y4 = atN ch len (qa + i) := ey4.trans (atI_nI (by omega))
        refine lv_istore (lv' := [(6, .int (atN ch len (qa + i))), (0, .ref a), (1, .int (nI x)), (2, .int (nI y)), (3, .int (nI qa)), (4, .int (nI qb)), (5, .int (nI i))]) hx hb dX0_hasSameSegments_33 hl (by decide) rfl (fun ls hl => ?_)
        refine lv_iload hx hb dX0_hasSameSegments_35 (lv_at hl 0 rfl) ?_
        refine lv_aload_n hx hb dX0_hasSameSegments_37 rfl (lv_at hl 1 rfl) ?_
        refine lv_iload hx hb dX0_hasSameSegments_38 (lv_at hl 5 rfl) ?_
        refine lv_iload hx hb dX0_hasSameSegments_40 (lv_at hl 6 rfl) ?_
        refine lv_iadd hx hb dX0_hasSameSegments_42 ?_
        refine lv_topi (fun y5 ey5 => ?_)
        obtain rfl : y5 = nI (qb + i) := ey5.trans (nI_add _ _)
        refine g_csr (va_runV (As := [.int (nI (qb + i))]) (rest := [.int (atN ch len (qa + i))]) ⟨hx, hb, hml, hown, hts⟩ (m_X0_at l D cy a c9 t ch st len seg (by omega) hch (nI (qb + i))) (cwV 1 hts gX0_hasSameSegments_X0_at rfl rfl rfl (by decide +kernel) ⟨Nat.le_of_ble_eq_true rfl, Nat.le_of_ble_eq_true rfl⟩) (g_preV (C := RX0) (B := (pA D cy a c9 t ch st len seg)) hK hB hB.1 rfl) rfl rfl hl.1 rfl (lv_room (Nat.le_of_ble_eq_true rfl)) dX0_hasSameSegments_43 ⟨Nat.zero_le _, Nat.zero_le _⟩) ?_
        refine lv_topi (fun y6 ey6 => ?_)
        obtain rfl : y6 = atN ch len (qb + i) := ey6.trans (atI_nI (by omega))
        refine lv_icmp_eq (tgt := 51) hx hb dX0_hasSameSegments_46 (by decide) (fun c_46 => ?_) (fun c_46 => ?_)
        · -- 46 t
          rw [if_pos c_46] at hV
          refine lv_iload hx hb dX0_hasSameSegments_51 (lv_at hl 0 rfl) ?_
          refine lv_bipush (v := 47) hx hb dX0_hasSameSegments_53 (by decide) ?_
          refine lv_icmp_ne (tgt := 60) hx hb dX0_hasSameSegments_55 (by decide) (fun c_55 => ?_) (fun c_55 => ?_)
          · -- 55 t
            rw [if_neg c_55, ← hj2] at hV
            refine lv_iinc (v := nI (i + 1)) (lv' := [(5, .int (nI (i + 1))), (6, .int (atN ch len (qa + i))), (0, .ref a), (1, .int (nI x)), (2, .int (nI y)), (3, .int (nI qa)), (4, .int (nI qb))]) hx hb dX0_hasSameSegments_60 hl (k := 6) rfl (nI_1 i) (by decide) rfl (fun ls hl => ?_)
            refine lv_goto (tgt := 16) hx hb dX0_hasSameSegments_63 (by decide) ?_
            exact loop_ih (i + 1) ls (by omega) (by omega) hV (lv_sub hl [2, 3, 4, 5, 6, 0] rfl)
          · -- 55 f
            rw [if_pos c_55] at hV
            refine lv_iconst (v := 1) hx hb dX0_hasSameSegments_58 (by decide) ?_
            exact g_zret hx hb hr hlocks rfl dX0_hasSameSegments_59 (by rw [hV]; rfl)
        · -- 46 f
          rw [if_neg c_46] at hV
          refine lv_iconst (v := 0) hx hb dX0_hasSameSegments_49 (by decide) ?_
          exact g_zret hx hb hr hlocks rfl dX0_hasSameSegments_50 (by rw [hV]; rfl)
  exact loop (len + 1) 0 ls (Nat.zero_le _) (by omega) hV (lv_sub hl [3, 4, 5, 2, 1, 0] rfl)

set_option maxHeartbeats 4000000 in
set_option maxRecDepth 100000 in
/-- comesThrice(size) -/
theorem m_X0_comesThrice (l : Launch) (D : va_G) (cy : Nat → ClassId) (a c9 t : Nat) (ch st : Nat → Int32) (len seg : Nat) (hlen : len ≤ 30) (hch : chOK ch) (hseg : seg ≤ 30) (hst : stOK st seg len) (sz : Nat) (hz0 : 1 ≤ sz) (hz1 : sz ≤ 3) : Met l yX0_comesThrice wsX0_comesThrice ({ frames := 2, cells := 0, slots := 0, locals := 60 } : Room) (va_Pc [.ref a, .int (nI sz)] (fun U => gK D cy U ∧ (pA D cy a c9 t ch st len seg) U.heap)) (rQ (some (.int (zb (c3A ch st len seg sz))))) 0 0 (fun _ => False) := by
  refine Met.ofW (cc := cX0_comesThrice) (maxL := 4) (ret := (some .boolean)) (by decide) rfl ?_
  intro p e s m args below meth c s₁ B9 hml hv
  obtain ⟨rfl, hK, hB⟩ := hv
  have hx := B9.exec
  have hb := B9.bytes
  have hr := B9.returns
  have hts := atoms_spec (ws := wsX0_comesThrice) B9.pre
  have hown : s.vm.findClass RX0 = some m.cls := findClass_of_methodNamed B9.named
  have hlocks := B9.notSynchronized
  have lk30 := hts (.fieldLink RX0 30 "Politecrawl$Address" "segmentCount" "I") (by decide +kernel)
  have inX0 : ∀ w ∈ u_ws RX0 TX0 4, w ∈ wsX0_comesThrice := by decide +kernel
  have hl := lv_entry ([.ref a, .int (nI sz)]) (n := 4) (Nat.le_of_ble_eq_true rfl)
  rw [lg_entry_eq]
  generalize (lg_sl ([.ref a, .int (nI sz)]) ++ List.replicate (4 - (lg_sl ([.ref a, .int (nI sz)])).length) Slot.unset).toArray = ls at hl ⊢
  have hl : lv_has ls 4 [(0, .ref a), (1, .int (nI sz))] := hl
  obtain ⟨V, hV⟩ : ∃ V, V = zb (c3 (hssP ch st len sz) sz seg (seg + 1 - 0) 0 0) := ⟨_, rfl⟩
  have hV0 : zb (c3A ch st len seg sz) = V := hV.symm
  rw [hV0]
  refine lv_iconst (v := 0) hx hb dX0_comesThrice_0 (by decide) ?_
  refine lv_topi (fun y1 ey1 => ?_)
  obtain rfl : y1 = nI 0 := ey1.trans (nI_0.symm)
  refine lv_istore_n (lv' := [(2, .int (nI 0)), (0, .ref a), (1, .int (nI sz))]) hx hb dX0_comesThrice_1 rfl hl (by decide) rfl (fun ls hl => ?_)
  refine lv_iconst (v := 0) hx hb dX0_comesThrice_2 (by decide) ?_
  refine lv_topi (fun y2 ey2 => ?_)
  obtain rfl : y2 = nI 0 := ey2.trans (nI_0.symm)
  refine lv_istore_n (lv' := [(3, .int (nI 0)), (2, .int (nI 0)), (0, .ref a), (1, .int (nI sz))]) hx hb dX0_comesThrice_3 rfl hl (by decide) rfl (fun ls hl => ?_)
  have loop : ∀ (k : Nat) (i q : Nat) (ls : Array Slot), i ≤ seg → q ≤ i → seg < i + k → V = zb (c3 (hssP ch st len sz) sz seg (seg + 1 - i) i q) → lv_has ls 4 [(0, .ref a), (1, .int (nI sz)), (2, .int (nI q)), (3, .int (nI i))] → W p l e (headSpec wsX0_comesThrice ({ frames := 2, cells := 0, slots := 0, locals := 60 } : Room)).room s m ([.ref a, .int (nI sz)] : List Value).toArray below meth c s.heap [] 0 0 (MQ below (rQ (some (.int V))) ([.ref a, .int (nI sz)] : List Value).toArray s 0 0 (fun _ => False)) (F0 m 4 ls []) := by
    intro k
    induction k with
    | zero => intro i q ls hi hq hk hV hl; exfalso; omega
    | succ k loop_ih =>
      intro i q ls hi hq hk hV hl
      refine lv_iload_n hx hb dX0_comesThrice_4 rfl (lv_at hl 3 rfl) ?_
      refine lv_iload_n hx hb dX0_comesThrice_5 rfl (lv_at hl 1 rfl) ?_
      refine lv_iadd hx hb dX0_comesThrice_6 ?_
      refine lv_topi (fun y3 ey3 => ?_)
      obtain rfl : y3 = nI (i + sz) := ey3.trans (nI_add _ _)
      refine lv_aload_n hx hb dX0_comesThrice_7 rfl (lv_at hl 0 rfl) ?_
      refine g_get (C := RX0) (T := TX0) (N := 4) (ci := 0) (fs := [.ref c9, .ref t, .int (nI len), .int (nI seg)]) hx hb hts inX0 hown hK hB.1 rfl 3 (by decide) lk30 rfl rfl dX0_comesThrice_8 ?_
      refine lv_icmp_ge (tgt := 48) hx hb dX0_comesThrice_11 (by decide) (fun c_11 => ?_) (fun c_11 => ?_)
      · -- 11 t
        have hge : seg ≤ i + sz := (nI_leI (by omega) (by omega)).mp c_11
        obtain ⟨j, hj⟩ : ∃ j, seg + 1 - i = j + 1 := ⟨seg - i, by omega⟩
        rw [hj, c3, if_neg (by omega)] at hV
        refine lv_iconst (v := 0) hx hb dX0_comesThrice_48 (by decide) ?_
        exact g_zret hx hb hr hlocks rfl dX0_comesThrice_49 (by rw [hV]; rfl)
      · -- 11 f
        have hlt : i + sz < seg := Nat.not_le.mp fun q => c_11 ((nI_leI (by omega) (by omega)).mpr q)
        obtain ⟨j, hj⟩ : ∃ j, seg + 1 - i = j + 1 := ⟨seg - i, by omega⟩
        have hj2 : seg + 1 - (i + 1) = j := by omega
        rw [hj, c3, if_pos hlt] at hV
        refine lv_aload_n hx hb dX0_comesThrice_14 rfl (lv_at hl 0 rfl) ?_
        refine lv_iload_n hx hb dX0_comesThrice_15 rfl (lv_at hl 3 rfl) ?_
        refine lv_iload_n hx hb dX0_comesThrice_16 rfl (lv_at hl 3 rfl) ?_
        refine lv_iload_n hx hb dX0_comesThrice_17 rfl (lv_at hl 1 rfl) ?_
        refine lv_iadd hx hb dX0_comesThrice_18 ?_
        refine lv_topi (fun y4 ey4 => ?_)
        obtain rfl : y4 = nI (i + sz) := ey4.trans (nI_add _ _)
        refine g_csr (va_runV (As := [.int (nI i), .int (nI (i + sz))]) (rest := []) ⟨hx, hb, hml, hown, hts⟩ (m_X0_hasSameSegments l D cy a c9 t ch st len seg hlen hch hseg hst i (i + sz) (by omega) hlt) (cwV 2 hts gX0_comesThrice_X0_hasSameSegments rfl rfl rfl (by decide +kernel) ⟨Nat.le_of_ble_eq_true rfl, Nat.le_of_ble_eq_true rfl⟩) (g_preV (C := RX0) (B := (pA D cy a c9 t ch st len seg)) hK hB hB.1 rfl) rfl rfl hl.1 rfl (lv_room (Nat.le_of_ble_eq_true rfl)) dX0_comesThrice_19 ⟨Nat.zero_le _, Nat.zero_le _⟩) ?_
        refine lv_if_eq (tgt := 31) hx hb dX0_comesThrice_22 (by decide) (fun c_22 => ?_) (fun c_22 => ?_)
        · -- 22 t
          have p22 : hssP ch st len sz i = false := zb_0.mp c_22
          simp only [p22, Bool.false_eq_true, reduceIte] at hV
          refine lv_iconst (v := 0) hx hb dX0_comesThrice_31 (by decide) ?_
          refine lv_topi (fun y5 ey5 => ?_)
          obtain rfl : y5 = nI 0 := ey5.trans (nI_0.symm)
          refine lv_istore_n (lv' := [(2, .int (nI 0)), (0, .ref a), (1, .int (nI sz)), (3, .int (nI i))]) hx hb dX0_comesThrice_32 rfl hl (by decide) rfl (fun ls hl => ?_)
          refine lv_iload_n hx hb dX0_comesThrice_33 rfl (lv_at hl 0 rfl) ?_
          refine lv_iconst (v := 2) hx hb dX0_comesThrice_34 (by decide) ?_
          refine lv_iload_n hx hb dX0_comesThrice_35 rfl (lv_at hl 2 rfl) ?_
          refine lv_imul hx hb dX0_comesThrice_36 ?_
          refine lv_topi (fun y6 ey6 => ?_)
          obtain rfl : y6 = nI (2 * sz) := ey6.trans (pk_mul 2 _)
          refine lv_icmp_ne (tgt := 42) hx hb dX0_comesThrice_37 (by decide) (fun c_37 => ?_) (fun c_37 => ?_)
          · -- 37 t
            rw [if_neg (by omega), ← hj2] at hV
            refine lv_iinc (v := nI (i + 1)) (lv' := [(3, .int (nI (i + 1))), (2, .int (nI 0)), (0, .ref a), (1, .int (nI sz))]) hx hb dX0_comesThrice_42 hl (k := 3) rfl (nI_1 i) (by decide) rfl (fun ls hl => ?_)
            refine lv_goto (tgt := 4) hx hb dX0_comesThrice_45 (by decide) ?_
            exact loop_ih (i + 1) 0 ls (by omega) (by omega) (by omega) hV (lv_sub hl [2, 3, 1, 0] rfl)
          · -- 37 f
            exact absurd ((nI_eq (by omega) (by omega)).mp c_37) (by omega)
        · -- 22 f
          have p22 : hssP ch st len sz i = true := zb_n0.mp c_22
          simp only [p22, reduceIte] at hV
          refine lv_iload_n hx hb dX0_comesThrice_25 rfl (lv_at hl 2 rfl) ?_
          refine lv_iconst (v := 1) hx hb dX0_comesThrice_26 (by decide) ?_
          refine lv_iadd hx hb dX0_comesThrice_27 ?_
          refine lv_goto (tgt := 32) hx hb dX0_comesThrice_28 (by decide) ?_
          refine lv_topi (fun y7 ey7 => ?_)
          obtain rfl : y7 = nI (q + 1) := ey7.trans (nI_1 _)
          refine lv_istore_n (lv' := [(2, .int (nI (q + 1))), (0, .ref a), (1, .int (nI sz)), (3, .int (nI i))]) hx hb dX0_comesThrice_32 rfl hl (by decide) rfl (fun ls hl => ?_)
          refine lv_iload_n hx hb dX0_comesThrice_33 rfl (lv_at hl 0 rfl) ?_
          refine lv_iconst (v := 2) hx hb dX0_comesThrice_34 (by decide) ?_
          refine lv_iload_n hx hb dX0_comesThrice_35 rfl (lv_at hl 2 rfl) ?_
          refine lv_imul hx hb dX0_comesThrice_36 ?_
          refine lv_topi (fun y8 ey8 => ?_)
          obtain rfl : y8 = nI (2 * sz) := ey8.trans (pk_mul 2 _)
          refine lv_icmp_ne (tgt := 42) hx hb dX0_comesThrice_37 (by decide) (fun c_37 => ?_) (fun c_37 => ?_)
          · -- 37 t
            rw [if_neg (fun z => c_37 (by rw [z])), ← hj2] at hV
            refine lv_iinc (v := nI (i + 1)) (lv' := [(3, .int (nI (i + 1))), (2, .int (nI (q + 1))), (0, .ref a), (1, .int (nI sz))]) hx hb dX0_comesThrice_42 hl (k := 3) rfl (nI_1 i) (by decide) rfl (fun ls hl => ?_)
            refine lv_goto (tgt := 4) hx hb dX0_comesThrice_45 (by decide) ?_
            exact loop_ih (i + 1) (q + 1) ls (by omega) (by omega) (by omega) hV (lv_sub hl [2, 3, 1, 0] rfl)
          · -- 37 f
            rw [if_pos ((nI_eq (by omega) (by omega)).mp c_37)] at hV
            refine lv_iconst (v := 1) hx hb dX0_comesThrice_40 (by decide) ?_
            exact g_zret hx hb hr hlocks rfl dX0_comesThrice_41 (by rw [hV]; rfl)
  exact loop (seg + 1) 0 0 ls (Nat.zero_le _) (Nat.zero_le _) (by omega) hV (lv_sub hl [2, 3, 1, 0] rfl)

set_option maxHeartbeats 4000000 in
set_option maxRecDepth 100000 in
/-- repeatsItself() -/
theorem m_X0_repeatsItself (l : Launch) (D : va_G) (cy : Nat → ClassId) (a c9 t : Nat) (ch st : Nat → Int32) (len seg : Nat) (hlen : len ≤ 30) (hch : chOK ch) (hseg : seg ≤ 30) (hst : stOK st seg len) : Met l yX0_repeatsItself wsX0_repeatsItself ({ frames := 3, cells := 0, slots := 0, locals := 90 } : Room) (va_Pc [.ref a] (fun U => gK D cy U ∧ (pA D cy a c9 t ch st len seg) U.heap)) (rQ (some (.int (zb (repA ch st len seg))))) 0 0 (fun _ => False) := by
  refine Met.ofW (cc := cX0_repeatsItself) (maxL := 2) (ret := (some .boolean)) (by decide) rfl ?_
  intro p e s m args below meth c s₁ B9 hml hv
  obtain ⟨rfl, hK, hB⟩ := hv
  have hx := B9.exec
  have hb := B9.bytes
  have hr := B9.returns
  have hts := atoms_spec (ws := wsX0_repeatsItself) B9.pre
  have hown : s.vm.findClass RX0 = some m.cls := findClass_of_methodNamed B9.named
  have hlocks := B9.notSynchronized
  have hl := lv_entry ([.ref a]) (n := 2) (Nat.le_of_ble_eq_true rfl)
  rw [lg_entry_eq]
  generalize (lg_sl ([.ref a]) ++ List.replicate (2 - (lg_sl ([.ref a])).length) Slot.unset).toArray = ls at hl ⊢
  have hl : lv_has ls 2 [(0, .ref a)] := hl
  refine lv_iconst (v := 1) hx hb dX0_repeatsItself_0 (by decide) ?_
  refine lv_istore_n (lv' := [(1, .int 1), (0, .ref a)]) hx hb dX0_repeatsItself_1 rfl hl (by decide) rfl (fun ls hl => ?_)
  refine lv_iload_n hx hb dX0_repeatsItself_2 rfl (lv_at hl 0 rfl) ?_
  refine lv_iconst (v := 3) hx hb dX0_repeatsItself_3 (by decide) ?_
  refine lv_icmp_gt (tgt := 23) hx hb dX0_repeatsItself_4 (by decide) (fun c_4 => ?_) (fun c_4 => ?_)
  · exact absurd c_4 (by decide)
  · -- 4 f
    refine lv_aload_n hx hb dX0_repeatsItself_7 rfl (lv_at hl 1 rfl) ?_
    refine lv_iload_n hx hb dX0_repeatsItself_8 rfl (lv_at hl 0 rfl) ?_
    refine lv_topi (fun y1 ey1 => ?_)
    obtain rfl : y1 = nI 1 := ey1.trans (rfl)
    refine g_csr (va_runV (As := [.int (nI 1)]) (rest := []) ⟨hx, hb, hml, hown, hts⟩ (m_X0_comesThrice l D cy a c9 t ch st len seg hlen hch hseg hst 1 (by decide) (by decide)) (cwV 1 hts gX0_repeatsItself_X0_comesThrice rfl rfl rfl (by decide +kernel) ⟨Nat.le_of_ble_eq_true rfl, Nat.le_of_ble_eq_true rfl⟩) (g_preV (C := RX0) (B := (pA D cy a c9 t ch st len seg)) hK hB hB.1 rfl) rfl rfl hl.1 rfl (lv_room (Nat.le_of_ble_eq_true rfl)) dX0_repeatsItself_9 ⟨Nat.zero_le _, Nat.zero_le _⟩) ?_
    refine lv_if_eq (tgt := 17) hx hb dX0_repeatsItself_12 (by decide) (fun c_12 => ?_) (fun c_12 => ?_)
    · -- 12 t
      refine lv_iinc (v := 2) (lv' := [(1, .int 2), (0, .ref a)]) hx hb dX0_repeatsItself_17 hl (k := 0) rfl (by decide) (by decide) rfl (fun ls hl => ?_)
      refine lv_goto (tgt := 2) hx hb dX0_repeatsItself_20 (by decide) ?_
      refine lv_iload_n hx hb dX0_repeatsItself_2 rfl (lv_at hl 0 rfl) ?_
      refine lv_iconst (v := 3) hx hb dX0_repeatsItself_3 (by decide) ?_
      refine lv_icmp_gt (tgt := 23) hx hb dX0_repeatsItself_4 (by decide) (fun c_4' => ?_) (fun c_4' => ?_)
      · exact absurd c_4' (by decide)
      · -- 4 f
        refine lv_aload_n hx hb dX0_repeatsItself_7 rfl (lv_at hl 1 rfl) ?_
        refine lv_iload_n hx hb dX0_repeatsItself_8 rfl (lv_at hl 0 rfl) ?_
        refine lv_topi (fun y2 ey2 => ?_)
        obtain rfl : y2 = nI 2 := ey2.trans (rfl)
        refine g_csr (va_runV (As := [.int (nI 2)]) (rest := []) ⟨hx, hb, hml, hown, hts⟩ (m_X0_comesThrice l D cy a c9 t ch st len seg hlen hch hseg hst 2 (by decide) (by decide)) (cwV 1 hts gX0_repeatsItself_X0_comesThrice rfl rfl rfl (by decide +kernel) ⟨Nat.le_of_ble_eq_true rfl, Nat.le_of_ble_eq_true rfl⟩) (g_preV (C := RX0) (B := (pA D cy a c9 t ch st len seg)) hK hB hB.1 rfl) rfl rfl hl.1 rfl (lv_room (Nat.le_of_ble_eq_true rfl)) dX0_repeatsItself_9 ⟨Nat.zero_le _, Nat.zero_le _⟩) ?_
        refine lv_if_eq (tgt := 17) hx hb dX0_repeatsItself_12 (by decide) (fun c_12' => ?_) (fun c_12' => ?_)
        · -- 12 t
          refine lv_iinc (v := 3) (lv' := [(1, .int 3), (0, .ref a)]) hx hb dX0_repeatsItself_17 hl (k := 0) rfl (by decide) (by decide) rfl (fun ls hl => ?_)
          refine lv_goto (tgt := 2) hx hb dX0_repeatsItself_20 (by decide) ?_
          refine lv_iload_n hx hb dX0_repeatsItself_2 rfl (lv_at hl 0 rfl) ?_
          refine lv_iconst (v := 3) hx hb dX0_repeatsItself_3 (by decide) ?_
          refine lv_icmp_gt (tgt := 23) hx hb dX0_repeatsItself_4 (by decide) (fun c_4'' => ?_) (fun c_4'' => ?_)
          · exact absurd c_4'' (by decide)
          · -- 4 f
            refine lv_aload_n hx hb dX0_repeatsItself_7 rfl (lv_at hl 1 rfl) ?_
            refine lv_iload_n hx hb dX0_repeatsItself_8 rfl (lv_at hl 0 rfl) ?_
            refine lv_topi (fun y3 ey3 => ?_)
            obtain rfl : y3 = nI 3 := ey3.trans (rfl)
            refine g_csr (va_runV (As := [.int (nI 3)]) (rest := []) ⟨hx, hb, hml, hown, hts⟩ (m_X0_comesThrice l D cy a c9 t ch st len seg hlen hch hseg hst 3 (by decide) (by decide)) (cwV 1 hts gX0_repeatsItself_X0_comesThrice rfl rfl rfl (by decide +kernel) ⟨Nat.le_of_ble_eq_true rfl, Nat.le_of_ble_eq_true rfl⟩) (g_preV (C := RX0) (B := (pA D cy a c9 t ch st len seg)) hK hB hB.1 rfl) rfl rfl hl.1 rfl (lv_room (Nat.le_of_ble_eq_true rfl)) dX0_repeatsItself_9 ⟨Nat.zero_le _, Nat.zero_le _⟩) ?_
            refine lv_if_eq (tgt := 17) hx hb dX0_repeatsItself_12 (by decide) (fun c_12'' => ?_) (fun c_12'' => ?_)
            · -- 12 t
              refine lv_iinc (v := 4) (lv' := [(1, .int 4), (0, .ref a)]) hx hb dX0_repeatsItself_17 hl (k := 0) rfl (by decide) (by decide) rfl (fun ls hl => ?_)
              refine lv_goto (tgt := 2) hx hb dX0_repeatsItself_20 (by decide) ?_
              refine lv_iload_n hx hb dX0_repeatsItself_2 rfl (lv_at hl 0 rfl) ?_
              refine lv_iconst (v := 3) hx hb dX0_repeatsItself_3 (by decide) ?_
              refine lv_icmp_gt (tgt := 23) hx hb dX0_repeatsItself_4 (by decide) (fun c_4''' => ?_) (fun c_4''' => ?_)
              · -- 4 t
                refine lv_iconst (v := 0) hx hb dX0_repeatsItself_23 (by decide) ?_
                exact g_zret hx hb hr hlocks rfl dX0_repeatsItself_24 (by simp only [repA, zb_0.mp c_12, zb_0.mp c_12', zb_0.mp c_12'', Bool.or_false]; rfl)
              · exact absurd c_4''' (by decide)
            · -- 12 f
              refine lv_iconst (v := 1) hx hb dX0_repeatsItself_15 (by decide) ?_
              exact g_zret hx hb hr hlocks rfl dX0_repeatsItself_16 (by simp only [repA, zb_n0.mp c_12'', Bool.or_true, Bool.true_or]; rfl)
        · -- 12 f
          refine lv_iconst (v := 1) hx hb dX0_repeatsItself_15 (by decide) ?_
          exact g_zret hx hb hr hlocks rfl dX0_repeatsItself_16 (by simp only [repA, zb_n0.mp c_12', Bool.or_true, Bool.true_or]; rfl)
    · -- 12 f
      refine lv_iconst (v := 1) hx hb dX0_repeatsItself_15 (by decide) ?_
      exact g_zret hx hb hr hlocks rfl dX0_repeatsItself_16 (by simp only [repA, zb_n0.mp c_12, Bool.or_true, Bool.true_or]; rfl)

set_option maxHeartbeats 4000000 in
set_option maxRecDepth 100000 in
/-- isSameAs(other) -/
theorem m_X0_isSameAs (l : Launch) (D : va_G) (cy : Nat → ClassId) (a c9 t : Nat) (ch st : Nat → Int32) (len seg : Nat) (a2 c2 t2 : Nat) (ch2 st2 : Nat → Int32) (len2 seg2 : Nat) (hlen : len ≤ 30) (hlen2 : len2 ≤ 30) (hch : chOK ch) (hch2 : chOK ch2) : Met l yX0_isSameAs wsX0_isSameAs ({ frames := 1, cells := 0, slots := 0, locals := 30 } : Room) (va_Pc [.ref a, .ref a2] (fun U => gK D cy U ∧ (pAA D cy a c9 t ch st len seg a2 c2 t2 ch2 st2 len2 seg2) U.heap)) (rQ (some (.int (zb (decide (len = len2) && sameF (atN ch len) (atN ch2 len2) len 0))))) 0 0 (fun _ => False) := by
  refine Met.ofW (cc := cX0_isSameAs) (maxL := 3) (ret := (some .boolean)) (by decide) rfl ?_
  intro p e s m args below meth c s₁ B9 hml hv
  obtain ⟨rfl, hK, hB⟩ := hv
  have hx := B9.exec
  have hb := B9.bytes
  have hr := B9.returns
  have hts := atoms_spec (ws := wsX0_isSameAs) B9.pre
  have hown : s.vm.findClass RX0 = some m.cls := findClass_of_methodNamed B9.named
  have hlocks := B9.notSynchronized
  have lk26 := hts (.fieldLink RX0 26 "Politecrawl$Address" "length" "I") (by decide +kernel)
  have inX0 : ∀ w ∈ u_ws RX0 TX0 4, w ∈ wsX0_isSameAs := by decide +kernel
  have hl := lv_entry ([.ref a, .ref a2]) (n := 3) (Nat.le_of_ble_eq_true rfl)
  rw [lg_entry_eq]
  generalize (lg_sl ([.ref a, .ref a2]) ++ List.replicate (3 - (lg_sl ([.ref a, .ref a2])).length) Slot.unset).toArray = ls at hl ⊢
  have hl : lv_has ls 3 [(0, .ref a), (1, .ref a2)] := hl
  obtain ⟨V, hV⟩ : ∃ V, V = zb (decide (len = len2) && sameF (atN ch len) (atN ch2 len2) len 0) := ⟨_, rfl⟩
  rw [← hV]
  refine lv_aload_n hx hb dX0_isSameAs_0 rfl (lv_at hl 0 rfl) ?_
  refine g_get (C := RX0) (T := TX0) (N := 4) (ci := 0) (fs := [.ref c9, .ref t, .int (nI len), .int (nI seg)]) hx hb hts inX0 hown hK hB.1.1 rfl 2 (by decide) lk26 rfl rfl dX0_isSameAs_1 ?_
  refine lv_aload_n hx hb dX0_isSameAs_4 rfl (lv_at hl 1 rfl) ?_
  refine g_get (C := RX0) (T := TX0) (N := 4) (ci := 0) (fs := [.ref c2, .ref t2, .int (nI len2), .int (nI seg2)]) hx hb hts inX0 hown hK hB.2.1 rfl 2 (by decide) lk26 rfl rfl dX0_isSameAs_5 ?_
  refine lv_icmp_eq (tgt := 13) hx hb dX0_isSameAs_8 (by decide) (fun c_8 => ?_) (fun c_8 => ?_)
  · -- 8 t
    refine lv_iconst (v := 0) hx hb dX0_isSameAs_13 (by decide) ?_
    refine lv_topi (fun y1 ey1 => ?_)
    obtain rfl : y1 = nI 0 := ey1.trans (nI_0.symm)
    refine lv_istore_n (lv' := [(2, .int (nI 0)), (0, .ref a), (1, .ref a2)]) hx hb dX0_isSameAs_14 rfl hl (by decide) rfl (fun ls hl => ?_)
    have hle0 : len = len2 := (nI_eq (by omega) (by omega)).mp c_8
    subst hle0
    rw [decide_eq_true rfl, Bool.true_and] at hV
    have loop : ∀ (k : Nat) (i : Nat) (ls : Array Slot), i ≤ len → len < i + k → V = zb (sameF (atN ch len) (atN ch2 len) (len - i) i) → lv_has ls 3 [(0, .ref a), (1, .ref a2), (2, .int (nI i))] → W p l e (headSpec wsX0_isSameAs ({ frames := 1, cells := 0, slots := 0, locals := 30 } : Room)).room s m ([.ref a, .ref a2] : List Value).toArray below meth c s.heap [] 0 0 (MQ below (rQ (some (.int V))) ([.ref a, .ref a2] : List Value).toArray s 0 0 (fun _ => False)) (F0 m 15 ls []) := by
      intro k
      induction k with
      | zero => intro i ls hi hk hV hl; exfalso; omega
      | succ k loop_ih =>
        intro i ls hi hk hV hl
        refine lv_iload_n hx hb dX0_isSameAs_15 rfl (lv_at hl 2 rfl) ?_
        refine lv_aload_n hx hb dX0_isSameAs_16 rfl (lv_at hl 0 rfl) ?_
        refine g_get (C := RX0) (T := TX0) (N := 4) (ci := 0) (fs := [.ref c9, .ref t, .int (nI len), .int (nI seg)]) hx hb hts inX0 hown hK hB.1.1 rfl 2 (by decide) lk26 rfl rfl dX0_isSameAs_17 ?_
        refine lv_icmp_ge (tgt := 44) hx hb dX0_isSameAs_20 (by decide) (fun c_20 => ?_) (fun c_20 => ?_)
        · -- 20 t
          have hle : len ≤ i := (nI_leI (by omega) (by omega)).mp c_20
          refine lv_iconst (v := 1) hx hb dX0_isSameAs_44 (by decide) ?_
          exact g_zret hx hb hr hlocks rfl dX0_isSameAs_45 (by rw [hV, show len - i = 0 by omega]; rfl)
        · -- 20 f
          have hlt : i < len := Nat.not_le.mp fun q => c_20 ((nI_leI (by omega) (by omega)).mpr q)
          obtain ⟨j, hj⟩ : ∃ j, len - i = j + 1 := ⟨len - i - 1, by omega⟩
          have hj2 : len - (i + 1) = j := by omega
          rw [hj, sameF] at hV
          refine lv_aload_n hx hb dX0_isSameAs_23 rfl (lv_at hl 0 rfl) ?_
          refine lv_iload_n hx hb dX0_isSameAs_24 rfl (lv_at hl 2 rfl) ?_
          refine g_csr (va_runV (As := [.int (nI i)]) (rest := []) ⟨hx, hb, hml, hown, hts⟩ (m_X0_at l D cy a c9 t ch st len seg hlen hch (nI i)) (cwV 1 hts gX0_isSameAs_X0_at rfl rfl rfl (by decide +kernel) ⟨Nat.le_of_ble_eq_true rfl, Nat.le_of_ble_eq_true rfl⟩) (g_preV (C := RX0) (B := (pA D cy a c9 t ch st len seg)) hK hB.1 hB.1.1 rfl) rfl rfl hl.1 rfl (lv_room (Nat.le_of_ble_eq_true rfl)) dX0_isSameAs_25 ⟨Nat.zero_le _, Nat.zero_le _⟩) ?_
          refine lv_topi (fun y2 ey2 => ?_)
          obtain rfl : y2 = atN ch len i := ey2.trans (atI_nI (by omega))
          refine lv_aload_n hx hb dX0_isSameAs_28 rfl (lv_at hl 1 rfl) ?_
          refine lv_iload_n hx hb dX0_isSameAs_29 rfl (lv_at hl 2 rfl) ?_
          refine g_csr (va_runV (As := [.int (nI i)]) (rest := [.int (atN ch len i)]) ⟨hx, hb, hml, hown, hts⟩ (m_X0_at l D cy a2 c2 t2 ch2 st2 len seg2 hlen hch2 (nI i)) (cwV 1 hts gX0_isSameAs_X0_at rfl rfl rfl (by decide +kernel) ⟨Nat.le_of_ble_eq_true rfl, Nat.le_of_ble_eq_true rfl⟩) (g_preV (C := RX0) (B := (pA D cy a2 c2 t2 ch2 st2 len seg2)) hK hB.2 hB.2.1 rfl) rfl rfl hl.1 rfl (lv_room (Nat.le_of_ble_eq_true rfl)) dX0_isSameAs_30 ⟨Nat.zero_le _, Nat.zero_le _⟩) ?_
          refine lv_topi (fun y3 ey3 => ?_)
          obtain rfl : y3 = atN ch2 len i := ey3.trans (atI_nI (by omega))
          refine lv_icmp_eq (tgt := 38) hx hb dX0_isSameAs_33 (by decide) (fun c_33 => ?_) (fun c_33 => ?_)
          · -- 33 t
            rw [if_pos c_33, ← hj2] at hV
            refine lv_iinc (v := nI (i + 1)) (lv' := [(2, .int (nI (i + 1))), (0, .ref a), (1, .ref a2)]) hx hb dX0_isSameAs_38 hl (k := 2) rfl (nI_1 i) (by decide) rfl (fun ls hl => ?_)
            refine lv_goto (tgt := 15) hx hb dX0_isSameAs_41 (by decide) ?_
            exact loop_ih (i + 1) ls (by omega) (by omega) hV (lv_sub hl [1, 2, 0] rfl)
          · -- 33 f
            rw [if_neg c_33] at hV
            refine lv_iconst (v := 0) hx hb dX0_isSameAs_36 (by decide) ?_
            exact g_zret hx hb hr hlocks rfl dX0_isSameAs_37 (by rw [hV]; rfl)
    exact loop (len + 1) 0 ls (Nat.zero_le _) (by omega) hV (lv_sub hl [1, 2, 0] rfl)
  · -- 8 f
    refine lv_iconst (v := 0) hx hb dX0_isSameAs_11 (by decide) ?_
    exact g_zret hx hb hr hlocks rfl dX0_isSameAs_12 (by rw [hV, decide_eq_false (fun q => c_8 (by rw [q])), Bool.false_and]; rfl)
end
section
/-! Politecrawl, Page, Host: the state of the class, and what its methods read -/
abbrev IT : Type := Nat → Nat → Int32
abbrev NT : Type := Nat → Nat → Nat
def up2 {α : Type} (f : Nat → Nat → α) (k i : Nat) (v : α) : Nat → Nat → α := fun k' i' => if k' = k ∧ i' = i then v else f k' i'
theorem up2_s {α : Type} {f : Nat → Nat → α} {k i : Nat} {v : α} : up2 f k i v k i = v := by simp [up2]
theorem up2_k {α : Type} {f : Nat → Nat → α} {k i k' i' : Nat} {v : α} (h : k' ≠ k) : up2 f k i v k' i' = f k' i' := by simp [up2, h]
theorem up2_i {α : Type} {f : Nat → Nat → α} {k i k' i' : Nat} {v : α} (h : i' ≠ i) : up2 f k i v k' i' = f k' i' := by simp [up2, h]
/-- the counts of the class's cells by kind, with n pages -/
def cC (n : Nat) : Nat → Nat
  | 0 => 1 | 1 => 1 | 2 => 1 | 3 => 1 | 4 => 1 | 5 => 1 | 6 => 6 | 7 => n | 8 => n | 9 => n | 10 => n | _ => 0
/-- the class's cells: 0 the object, 1 the buffer, 2 hosts, 3 found, 4 and 5 the buffer's rows, 6 a host, 7 a page, 8 its address, 9 and 10 its rows.
    ints: 0 now 1 shortest 2 longest 3 budget 6 characters 7 rest 8 failures 9 openFrom 10 rank 11 due 12 visits 13 changes 14 gone 15 lost 18 text 20 visits in span 22 starts 24 starts of pages 25 spread;
    numbers: 0 pages 1 length 2 segments 3 size of a page's address 4 its segments 5 its host -/
def eC (cy : Nat → ClassId) (ad : NT) (τ : IT) (ν : NT) : Nat → Nat → va_E
  | 0, _ => .inr (3, [.ref (ad 1 0), .ref (ad 2 0), .ref (ad 3 0), .int (nI (ν 0 0)), .int (τ 0 0), .int (τ 1 0), .int (τ 2 0), .int (τ 3 0), .int (τ 20 0)])
  | 1, _ => .inr (0, [.ref (ad 4 0), .ref (ad 5 0), .int (nI (ν 1 0)), .int (nI (ν 2 0))])
  | 2, _ => .inl (cy 3, 6, .inr (.inr (.inr (.inr (fun j => some (ad 6 j))))))
  | 3, _ => .inl (cy 4, 30, .inr (.inr (.inr (.inr (fun j => if j < ν 0 0 then some (ad 7 j) else none)))))
  | 4, _ => .inl (cy 0, 30, .inl (τ 6))
  | 5, _ => .inl (cy 1, 30, .inl (τ 22))
  | 6, h => .inr (1, [.int (τ 7 h), .int (τ 8 h), .int (τ 9 h)])
  | 7, p => .inr (2, [.int (nI p), .ref (ad 6 (ν 5 p)), .ref (ad 8 p), .int (τ 15 p), .int (τ 10 p), .int (τ 11 p), .int (τ 12 p), .int (τ 13 p), .int (τ 14 p), .int (τ 25 p)])
  | 8, p => .inr (0, [.ref (ad 9 p), .ref (ad 10 p), .int (nI (ν 3 p)), .int (nI (ν 4 p))])
  | 9, p => .inl (cy 0, 30, .inl (fun i => τ 18 (30 * p + i)))
  | 10, p => .inl (cy 1, 30, .inl (fun i => τ 24 (30 * p + i)))
  | _, _ => .inl (cy 0, 0, .inl fun _ => 0)
def CW (D : va_G) (cy : Nat → ClassId) (ad : NT) (τ : IT) (ν : NT) : Heap → Prop := fun H => wP D (cC (ν 0 0)) ad (eC cy ad τ ν) H
/-- numbers in their bounds, as far as the machine asks -/
def CI (τ : IT) (ν : NT) : Prop := ν 0 0 ≤ 30 ∧ ν 1 0 ≤ 30 ∧ ν 2 0 ≤ 30 ∧ chOK (τ 6) ∧ stOK (τ 22) (ν 2 0) (ν 1 0) ∧ ∀ p, p < ν 0 0 → ν 5 p < 6 ∧ ν 3 p ≤ 30 ∧ ν 4 p ≤ 30 ∧ chOK (fun i => τ 18 (30 * p + i)) ∧ stOK (fun i => τ 24 (30 * p + i)) (ν 4 p) (ν 3 p)
/-- a page's cell -/
def pPage (D : va_G) (a h b : Nat) (num lost rank due vis chg gone spr : Int32) : Heap → Prop := fun H => oA D a (.inr (2, [.int num, .ref h, .ref b, .int lost, .int rank, .int due, .int vis, .int chg, .int gone, .int spr])) H
def mx (a b : Int32) : Int32 := if a < b then b else a
def mn (a b : Int32) : Int32 := if b < a then b else a
def keptB (gone lost : Int32) : Bool := decide (gone = 0) && decide (lost = 0)
def pressF (rank due now : Int32) : Int32 := 10 * rank + now - due
def gA (rank chg : Int32) : Int64 := (rank.toInt64 + 1) * (chg.toInt64 + 1)
def gB (spr chg : Int32) : Int64 := ((spr + chg).toInt64 + 1) * ((spr + chg).toInt64 + 2)
theorem lg_le {x y : Int64} : lg_cmp x y ≤ 0 ↔ x ≤ y := by
  simp only [lg_cmp]
  have h := Int64.not_lt (a := y) (b := x)
  by_cases h1 : x > y
  · rw [if_pos h1]; constructor
    · intro q; exact absurd q (by decide)
    · intro q; exact absurd h1 (Int64.not_lt.mpr q)
  · rw [if_neg h1]
    by_cases h2 : x = y
    · rw [if_pos h2]; constructor
      · intro _; rw [h2]; exact Int64.le_refl _
      · intro _; decide
    · rw [if_neg h2]; constructor
      · intro _; exact Int64.not_lt.mp h1
      · intro _; decide

set_option maxHeartbeats 4000000 in
set_option maxRecDepth 100000 in
/-- isKept() -/
theorem m_X2_isKept (l : Launch) (D : va_G) (cy : Nat → ClassId) (a h9 b9 : Nat) (num lost rank due vis chg gone spr : Int32) : Met l yX2_isKept wsX2_isKept ({ frames := 0, cells := 0, slots := 0, locals := 0 } : Room) (va_Pc [.ref a] (fun U => gK D cy U ∧ (pPage D a h9 b9 num lost rank due vis chg gone spr) U.heap)) (rQ (some (.int (zb (keptB gone lost))))) 0 0 (fun _ => False) := by
  refine Met.ofW (cc := cX2_isKept) (maxL := 1) (ret := (some .boolean)) (by decide) rfl ?_
  intro p e s m args below meth c s₁ B9 hml hv
  obtain ⟨rfl, hK, hB⟩ := hv
  have hx := B9.exec
  have hb := B9.bytes
  have hr := B9.returns
  have hts := atoms_spec (ws := wsX2_isKept) B9.pre
  have hown : s.vm.findClass RX2 = some m.cls := findClass_of_methodNamed B9.named
  have hlocks := B9.notSynchronized
  have lk39 := hts (.fieldLink RX2 39 "Politecrawl$Page" "gone" "Z") (by decide +kernel)
  have inX2 : ∀ w ∈ u_ws RX2 TX2 10, w ∈ wsX2_isKept := by decide +kernel
  have lk29 := hts (.fieldLink RX2 29 "Politecrawl$Page" "lost" "Z") (by decide +kernel)
  have hl := lv_entry ([.ref a]) (n := 1) (Nat.le_of_ble_eq_true rfl)
  rw [lg_entry_eq]
  generalize (lg_sl ([.ref a]) ++ List.replicate (1 - (lg_sl ([.ref a])).length) Slot.unset).toArray = ls at hl ⊢
  have hl : lv_has ls 1 [(0, .ref a)] := hl
  refine lv_aload_n hx hb dX2_isKept_0 rfl (lv_at hl 0 rfl) ?_
  refine g_get (C := RX2) (T := TX2) (N := 10) (ci := 2) (fs := [.int num, .ref h9, .ref b9, .int lost, .int rank, .int due, .int vis, .int chg, .int gone, .int spr]) hx hb hts inX2 hown hK hB rfl 8 (by decide) lk39 rfl rfl dX2_isKept_1 ?_
  refine lv_if_ne (tgt := 18) hx hb dX2_isKept_4 (by decide) (fun c_4 => ?_) (fun c_4 => ?_)
  · -- 4 t
    refine lv_iconst (v := 0) hx hb dX2_isKept_18 (by decide) ?_
    exact g_zret hx hb hr hlocks rfl dX2_isKept_19 (by simp [keptB, zb, c_4])
  · -- 4 f
    refine lv_aload_n hx hb dX2_isKept_7 rfl (lv_at hl 0 rfl) ?_
    refine g_get (C := RX2) (T := TX2) (N := 10) (ci := 2) (fs := [.int num, .ref h9, .ref b9, .int lost, .int rank, .int due, .int vis, .int chg, .int gone, .int spr]) hx hb hts inX2 hown hK hB rfl 3 (by decide) lk29 rfl rfl dX2_isKept_8 ?_
    refine lv_if_ne (tgt := 18) hx hb dX2_isKept_11 (by decide) (fun c_11 => ?_) (fun c_11 => ?_)
    · -- 11 t
      refine lv_iconst (v := 0) hx hb dX2_isKept_18 (by decide) ?_
      exact g_zret hx hb hr hlocks rfl dX2_isKept_19 (by simp [keptB, zb, c_4, c_11])
    · -- 11 f
      refine lv_iconst (v := 1) hx hb dX2_isKept_14 (by decide) ?_
      refine lv_goto (tgt := 19) hx hb dX2_isKept_15 (by decide) ?_
      exact g_zret hx hb hr hlocks rfl dX2_isKept_19 (by simp [keptB, zb, c_4, c_11])

set_option maxHeartbeats 4000000 in
set_option maxRecDepth 100000 in
/-- pressing(now) -/
theorem m_X2_pressing (l : Launch) (D : va_G) (cy : Nat → ClassId) (a h9 b9 : Nat) (num lost rank due vis chg gone spr : Int32) (now : Int32) : Met l yX2_pressing wsX2_pressing ({ frames := 0, cells := 0, slots := 0, locals := 0 } : Room) (va_Pc [.ref a, .int now] (fun U => gK D cy U ∧ (pPage D a h9 b9 num lost rank due vis chg gone spr) U.heap)) (rQ (some (.int (pressF rank due now)))) 0 0 (fun _ => False) := by
  refine Met.ofW (cc := cX2_pressing) (maxL := 2) (ret := (some .int)) (by decide) rfl ?_
  intro p e s m args below meth c s₁ B9 hml hv
  obtain ⟨rfl, hK, hB⟩ := hv
  have hx := B9.exec
  have hb := B9.bytes
  have hr := B9.returns
  have hts := atoms_spec (ws := wsX2_pressing) B9.pre
  have hown : s.vm.findClass RX2 = some m.cls := findClass_of_methodNamed B9.named
  have hlocks := B9.notSynchronized
  have lk33 := hts (.fieldLink RX2 33 "Politecrawl$Page" "rank" "I") (by decide +kernel)
  have inX2 : ∀ w ∈ u_ws RX2 TX2 10, w ∈ wsX2_pressing := by decide +kernel
  have lk36 := hts (.fieldLink RX2 36 "Politecrawl$Page" "due" "I") (by decide +kernel)
  have hl := lv_entry ([.ref a, .int now]) (n := 2) (Nat.le_of_ble_eq_true rfl)
  rw [lg_entry_eq]
  generalize (lg_sl ([.ref a, .int now]) ++ List.replicate (2 - (lg_sl ([.ref a, .int now])).length) Slot.unset).toArray = ls at hl ⊢
  have hl : lv_has ls 2 [(0, .ref a), (1, .int now)] := hl
  refine lv_bipush (v := 10) hx hb dX2_pressing_0 (by decide) ?_
  refine lv_aload_n hx hb dX2_pressing_2 rfl (lv_at hl 0 rfl) ?_
  refine g_get (C := RX2) (T := TX2) (N := 10) (ci := 2) (fs := [.int num, .ref h9, .ref b9, .int lost, .int rank, .int due, .int vis, .int chg, .int gone, .int spr]) hx hb hts inX2 hown hK hB rfl 4 (by decide) lk33 rfl rfl dX2_pressing_3 ?_
  refine lv_imul hx hb dX2_pressing_6 ?_
  refine lv_iload_n hx hb dX2_pressing_7 rfl (lv_at hl 1 rfl) ?_
  refine lv_iadd hx hb dX2_pressing_8 ?_
  refine lv_aload_n hx hb dX2_pressing_9 rfl (lv_at hl 0 rfl) ?_
  refine g_get (C := RX2) (T := TX2) (N := 10) (ci := 2) (fs := [.int num, .ref h9, .ref b9, .int lost, .int rank, .int due, .int vis, .int chg, .int gone, .int spr]) hx hb hts inX2 hown hK hB rfl 5 (by decide) lk36 rfl rfl dX2_pressing_10 ?_
  refine lv_isub hx hb dX2_pressing_13 ?_
  exact g_iret hx hb hr hlocks dX2_pressing_14 rfl

set_option maxHeartbeats 4000000 in
set_option maxRecDepth 100000 in
/-- gainAbove() -/
theorem m_X2_gainAbove (l : Launch) (D : va_G) (cy : Nat → ClassId) (a h9 b9 : Nat) (num lost rank due vis chg gone spr : Int32) : Met l yX2_gainAbove wsX2_gainAbove ({ frames := 0, cells := 0, slots := 0, locals := 0 } : Room) (va_Pc [.ref a] (fun U => gK D cy U ∧ (pPage D a h9 b9 num lost rank due vis chg gone spr) U.heap)) (rQ (some (.long (gA rank chg)))) 0 0 (fun _ => False) := by
  refine Met.ofW (cc := cX2_gainAbove) (maxL := 1) (ret := (some .long)) (by decide) rfl ?_
  intro p e s m args below meth c s₁ B9 hml hv
  obtain ⟨rfl, hK, hB⟩ := hv
  have hx := B9.exec
  have hb := B9.bytes
  have hr := B9.returns
  have hts := atoms_spec (ws := wsX2_gainAbove) B9.pre
  have hown : s.vm.findClass RX2 = some m.cls := findClass_of_methodNamed B9.named
  have hlocks := B9.notSynchronized
  have lk33 := hts (.fieldLink RX2 33 "Politecrawl$Page" "rank" "I") (by decide +kernel)
  have inX2 : ∀ w ∈ u_ws RX2 TX2 10, w ∈ wsX2_gainAbove := by decide +kernel
  have lk49 := hts (.fieldLink RX2 49 "Politecrawl$Page" "changes" "I") (by decide +kernel)
  have hl := lv_entry ([.ref a]) (n := 1) (Nat.le_of_ble_eq_true rfl)
  rw [lg_entry_eq]
  generalize (lg_sl ([.ref a]) ++ List.replicate (1 - (lg_sl ([.ref a])).length) Slot.unset).toArray = ls at hl ⊢
  have hl : lv_has ls 1 [(0, .ref a)] := hl
  refine lv_aload_n hx hb dX2_gainAbove_0 rfl (lv_at hl 0 rfl) ?_
  refine g_get (C := RX2) (T := TX2) (N := 10) (ci := 2) (fs := [.int num, .ref h9, .ref b9, .int lost, .int rank, .int due, .int vis, .int chg, .int gone, .int spr]) hx hb hts inX2 hown hK hB rfl 4 (by decide) lk33 rfl rfl dX2_gainAbove_1 ?_
  refine lv_i2l hx hb dX2_gainAbove_4 rfl ?_
  refine lv_lconst (v := 1) hx hb dX2_gainAbove_5 rfl ?_
  refine lv_ladd hx hb dX2_gainAbove_6 ?_
  refine lv_aload_n hx hb dX2_gainAbove_7 rfl (lv_at hl 0 rfl) ?_
  refine g_get (C := RX2) (T := TX2) (N := 10) (ci := 2) (fs := [.int num, .ref h9, .ref b9, .int lost, .int rank, .int due, .int vis, .int chg, .int gone, .int spr]) hx hb hts inX2 hown hK hB rfl 7 (by decide) lk49 rfl rfl dX2_gainAbove_8 ?_
  refine lv_i2l hx hb dX2_gainAbove_11 rfl ?_
  refine lv_lconst (v := 1) hx hb dX2_gainAbove_12 rfl ?_
  refine lv_ladd hx hb dX2_gainAbove_13 ?_
  refine lv_lmul hx hb dX2_gainAbove_14 ?_
  exact g_lret hx hb hr hlocks dX2_gainAbove_15 rfl

set_option maxHeartbeats 4000000 in
set_option maxRecDepth 100000 in
/-- gainBelow() -/
theorem m_X2_gainBelow (l : Launch) (D : va_G) (cy : Nat → ClassId) (a h9 b9 : Nat) (num lost rank due vis chg gone spr : Int32) : Met l yX2_gainBelow wsX2_gainBelow ({ frames := 0, cells := 0, slots := 0, locals := 0 } : Room) (va_Pc [.ref a] (fun U => gK D cy U ∧ (pPage D a h9 b9 num lost rank due vis chg gone spr) U.heap)) (rQ (some (.long (gB spr chg)))) 0 0 (fun _ => False) := by
  refine Met.ofW (cc := cX2_gainBelow) (maxL := 1) (ret := (some .long)) (by decide) rfl ?_
  intro p e s m args below meth c s₁ B9 hml hv
  obtain ⟨rfl, hK, hB⟩ := hv
  have hx := B9.exec
  have hb := B9.bytes
  have hr := B9.returns
  have hts := atoms_spec (ws := wsX2_gainBelow) B9.pre
  have hown : s.vm.findClass RX2 = some m.cls := findClass_of_methodNamed B9.named
  have hlocks := B9.notSynchronized
  have lk52 := hts (.fieldLink RX2 52 "Politecrawl$Page" "spread" "I") (by decide +kernel)
  have inX2 : ∀ w ∈ u_ws RX2 TX2 10, w ∈ wsX2_gainBelow := by decide +kernel
  have lk49 := hts (.fieldLink RX2 49 "Politecrawl$Page" "changes" "I") (by decide +kernel)
  have hl := lv_entry ([.ref a]) (n := 1) (Nat.le_of_ble_eq_true rfl)
  rw [lg_entry_eq]
  generalize (lg_sl ([.ref a]) ++ List.replicate (1 - (lg_sl ([.ref a])).length) Slot.unset).toArray = ls at hl ⊢
  have hl : lv_has ls 1 [(0, .ref a)] := hl
  refine lv_aload_n hx hb dX2_gainBelow_0 rfl (lv_at hl 0 rfl) ?_
  refine g_get (C := RX2) (T := TX2) (N := 10) (ci := 2) (fs := [.int num, .ref h9, .ref b9, .int lost, .int rank, .int due, .int vis, .int chg, .int gone, .int spr]) hx hb hts inX2 hown hK hB rfl 9 (by decide) lk52 rfl rfl dX2_gainBelow_1 ?_
  refine lv_aload_n hx hb dX2_gainBelow_4 rfl (lv_at hl 0 rfl) ?_
  refine g_get (C := RX2) (T := TX2) (N := 10) (ci := 2) (fs := [.int num, .ref h9, .ref b9, .int lost, .int rank, .int due, .int vis, .int chg, .int gone, .int spr]) hx hb hts inX2 hown hK hB rfl 7 (by decide) lk49 rfl rfl dX2_gainBelow_5 ?_
  refine lv_iadd hx hb dX2_gainBelow_8 ?_
  refine lv_i2l hx hb dX2_gainBelow_9 rfl ?_
  refine lv_lconst (v := 1) hx hb dX2_gainBelow_10 rfl ?_
  refine lv_ladd hx hb dX2_gainBelow_11 ?_
  refine lv_aload_n hx hb dX2_gainBelow_12 rfl (lv_at hl 0 rfl) ?_
  refine g_get (C := RX2) (T := TX2) (N := 10) (ci := 2) (fs := [.int num, .ref h9, .ref b9, .int lost, .int rank, .int due, .int vis, .int chg, .int gone, .int spr]) hx hb hts inX2 hown hK hB rfl 9 (by decide) lk52 rfl rfl dX2_gainBelow_13 ?_
  refine lv_aload_n hx hb dX2_gainBelow_16 rfl (lv_at hl 0 rfl) ?_
  refine g_get (C := RX2) (T := TX2) (N := 10) (ci := 2) (fs := [.int num, .ref h9, .ref b9, .int lost, .int rank, .int due, .int vis, .int chg, .int gone, .int spr]) hx hb hts inX2 hown hK hB rfl 7 (by decide) lk49 rfl rfl dX2_gainBelow_17 ?_
  refine lv_iadd hx hb dX2_gainBelow_20 ?_
  refine lv_i2l hx hb dX2_gainBelow_21 rfl ?_
  refine lv_ldc2 (v := 2) hx hb hown (hts (.constantLong RX2 55 (2)) (by decide +kernel)) dX2_gainBelow_22 ?_
  refine lv_ladd hx hb dX2_gainBelow_25 ?_
  refine lv_lmul hx hb dX2_gainBelow_26 ?_
  exact g_lret hx hb hr hlocks dX2_gainBelow_27 rfl


def pPP (D : va_G) (a h b : Nat) (num lost rank due vis chg gone spr : Int32) (a' h' b' : Nat) (num' lost' rank' due' vis' chg' gone' spr' : Int32) : Heap → Prop := fun H => pPage D a h b num lost rank due vis chg gone spr H ∧ pPage D a' h' b' num' lost' rank' due' vis' chg' gone' spr' H
/-- whether the first gains more than the other -/
def gainsB (rank chg spr rank' chg' spr' : Int32) : Bool := decide (gA rank' chg' * gB spr chg < gA rank chg * gB spr' chg')

set_option maxHeartbeats 4000000 in
set_option maxRecDepth 100000 in
/-- gainsMoreThan(other) -/
theorem m_X2_gainsMoreThan (l : Launch) (D : va_G) (cy : Nat → ClassId) (a h9 b9 : Nat) (num lost rank due vis chg gone spr : Int32) (a' h' b' : Nat) (num' lost' rank' due' vis' chg' gone' spr' : Int32) : Met l yX2_gainsMoreThan wsX2_gainsMoreThan ({ frames := 1, cells := 0, slots := 0, locals := 30 } : Room) (va_Pc [.ref a, .ref a'] (fun U => gK D cy U ∧ (pPP D a h9 b9 num lost rank due vis chg gone spr a' h' b' num' lost' rank' due' vis' chg' gone' spr') U.heap)) (rQ (some (.int (zb (gainsB rank chg spr rank' chg' spr'))))) 0 0 (fun _ => False) := by
  refine Met.ofW (cc := cX2_gainsMoreThan) (maxL := 2) (ret := (some .boolean)) (by decide) rfl ?_
  intro p e s m args below meth c s₁ B9 hml hv
  obtain ⟨rfl, hK, hB⟩ := hv
  have hx := B9.exec
  have hb := B9.bytes
  have hr := B9.returns
  have hts := atoms_spec (ws := wsX2_gainsMoreThan) B9.pre
  have hown : s.vm.findClass RX2 = some m.cls := findClass_of_methodNamed B9.named
  have hlocks := B9.notSynchronized
  have hl := lv_entry ([.ref a, .ref a']) (n := 2) (Nat.le_of_ble_eq_true rfl)
  rw [lg_entry_eq]
  generalize (lg_sl ([.ref a, .ref a']) ++ List.replicate (2 - (lg_sl ([.ref a, .ref a'])).length) Slot.unset).toArray = ls at hl ⊢
  have hl : lv_has ls 2 [(0, .ref a), (1, .ref a')] := hl
  refine lv_aload_n hx hb dX2_gainsMoreThan_0 rfl (lv_at hl 0 rfl) ?_
  refine g_csr (va_runV (As := []) (rest := []) ⟨hx, hb, hml, hown, hts⟩ (m_X2_gainAbove l D cy a h9 b9 num lost rank due vis chg gone spr) (cwV 0 hts gX2_gainsMoreThan_X2_gainAbove rfl rfl rfl (by decide +kernel) ⟨Nat.le_of_ble_eq_true rfl, Nat.le_of_ble_eq_true rfl⟩) (g_preV (C := RX2) (B := (pPage D a h9 b9 num lost rank due vis chg gone spr)) hK hB.1 hB.1 rfl) rfl rfl hl.1 rfl (lv_room (Nat.le_of_ble_eq_true rfl)) dX2_gainsMoreThan_1 ⟨Nat.zero_le _, Nat.zero_le _⟩) ?_
  refine lv_aload_n hx hb dX2_gainsMoreThan_4 rfl (lv_at hl 1 rfl) ?_
  refine g_csr (va_runV (As := []) (rest := [.long (gA rank chg)]) ⟨hx, hb, hml, hown, hts⟩ (m_X2_gainBelow l D cy a' h' b' num' lost' rank' due' vis' chg' gone' spr') (cwV 0 hts gX2_gainsMoreThan_X2_gainBelow rfl rfl rfl (by decide +kernel) ⟨Nat.le_of_ble_eq_true rfl, Nat.le_of_ble_eq_true rfl⟩) (g_preV (C := RX2) (B := (pPage D a' h' b' num' lost' rank' due' vis' chg' gone' spr')) hK hB.2 hB.2 rfl) rfl rfl hl.1 rfl (lv_room (Nat.le_of_ble_eq_true rfl)) dX2_gainsMoreThan_5 ⟨Nat.zero_le _, Nat.zero_le _⟩) ?_
  refine lv_lmul hx hb dX2_gainsMoreThan_8 ?_
  refine lv_aload_n hx hb dX2_gainsMoreThan_9 rfl (lv_at hl 1 rfl) ?_
  refine g_csr (va_runV (As := []) (rest := [.long ((gA rank chg) * (gB spr' chg'))]) ⟨hx, hb, hml, hown, hts⟩ (m_X2_gainAbove l D cy a' h' b' num' lost' rank' due' vis' chg' gone' spr') (cwV 0 hts gX2_gainsMoreThan_X2_gainAbove rfl rfl rfl (by decide +kernel) ⟨Nat.le_of_ble_eq_true rfl, Nat.le_of_ble_eq_true rfl⟩) (g_preV (C := RX2) (B := (pPage D a' h' b' num' lost' rank' due' vis' chg' gone' spr')) hK hB.2 hB.2 rfl) rfl rfl hl.1 rfl (lv_room (Nat.le_of_ble_eq_true rfl)) dX2_gainsMoreThan_10 ⟨Nat.zero_le _, Nat.zero_le _⟩) ?_
  refine lv_aload_n hx hb dX2_gainsMoreThan_13 rfl (lv_at hl 0 rfl) ?_
  refine g_csr (va_runV (As := []) (rest := [.long (gA rank' chg'), .long ((gA rank chg) * (gB spr' chg'))]) ⟨hx, hb, hml, hown, hts⟩ (m_X2_gainBelow l D cy a h9 b9 num lost rank due vis chg gone spr) (cwV 0 hts gX2_gainsMoreThan_X2_gainBelow rfl rfl rfl (by decide +kernel) ⟨Nat.le_of_ble_eq_true rfl, Nat.le_of_ble_eq_true rfl⟩) (g_preV (C := RX2) (B := (pPage D a h9 b9 num lost rank due vis chg gone spr)) hK hB.1 hB.1 rfl) rfl rfl hl.1 rfl (lv_room (Nat.le_of_ble_eq_true rfl)) dX2_gainsMoreThan_14 ⟨Nat.zero_le _, Nat.zero_le _⟩) ?_
  refine lv_lmul hx hb dX2_gainsMoreThan_17 ?_
  refine W.lcmp hx hb dX2_gainsMoreThan_18 ?_
  refine lv_if_le (tgt := 26) hx hb dX2_gainsMoreThan_19 (by decide) (fun c_19 => ?_) (fun c_19 => ?_)
  · -- 19 t
    refine lv_iconst (v := 0) hx hb dX2_gainsMoreThan_26 (by decide) ?_
    exact g_zret hx hb hr hlocks rfl dX2_gainsMoreThan_27 (by rw [gainsB, decide_eq_false (Int64.not_lt.mpr (lg_le.mp c_19))]; rfl)
  · -- 19 f
    refine lv_iconst (v := 1) hx hb dX2_gainsMoreThan_22 (by decide) ?_
    refine lv_goto (tgt := 27) hx hb dX2_gainsMoreThan_23 (by decide) ?_
    exact g_zret hx hb hr hlocks rfl dX2_gainsMoreThan_27 (by rw [gainsB, decide_eq_true (Int64.not_le.mp (fun q => c_19 (lg_le.mpr q)))]; rfl)


/-! the class's own numbers -/
def leftC (τ : IT) : Int32 := mx 0 (τ 3 0 - τ 20 0)
def spanC (τ : IT) : Int32 := (τ 0 0 / 100 + 1) * 100
def readyC (τ : IT) (ν : NT) (p : Nat) : Int32 := mx (if leftC τ ≤ 0 then spanC τ else τ 0 0) (mx (τ 11 p) (τ 9 (ν 5 p)))
def keptC (τ : IT) (p : Nat) : Bool := keptB (τ 14 p) (τ 15 p)
def isRdy (τ : IT) (ν : NT) (p : Nat) : Bool := keptC τ p && !decide (τ 0 0 < readyC τ ν p)
def pressC (τ : IT) (p : Nat) : Int32 := pressF (τ 10 p) (τ 11 p) (τ 0 0)
def befC (τ : IT) (p q : Nat) : Bool := if pressC τ p = pressC τ q then (if τ 10 p = τ 10 q then decide (nI p < nI q) else decide (τ 10 q < τ 10 p)) else decide (pressC τ q < pressC τ p)
def earl (τ : IT) : Option Nat → Option Nat → Option Nat
  | none, o => o
  | some a, none => some a
  | some a, some b => if befC τ b a then some b else some a
def numO : Option Nat → Int32
  | none => -1
  | some p => nI p
def fohL (τ : IT) (ν : NT) (h : Nat) : Nat → Nat → Option Nat → Option Nat
  | 0, _, f => f
  | k + 1, i, f => fohL τ ν h k (i + 1) (if i < ν 0 0 ∧ ν 5 i = h ∧ isRdy τ ν i = true then earl τ f (some i) else f)
def scanL (τ : IT) (ν : NT) : Nat → Nat → Option Nat → Option Nat
  | 0, _, f => f
  | k + 1, i, f => scanL τ ν k (i + 1) (if i < ν 0 0 ∧ isRdy τ ν i = true then earl τ f (some i) else f)
def nextL (τ : IT) (ν : NT) : Nat → Nat → Option Nat → Option Nat
  | 0, _, f => f
  | k + 1, h, f => nextL τ ν k (h + 1) (earl τ f (fohL τ ν h 30 0 none))
def waitL (τ : IT) (ν : NT) : Nat → Nat → Int32 → Int32
  | 0, _, w => w
  | k + 1, i, w => waitL τ ν k (i + 1) (if i < ν 0 0 ∧ keptC τ i = true then (if w = -1 then readyC τ ν i - τ 0 0 else mn w (readyC τ ν i - τ 0 0)) else w)
def sameC (τ : IT) (ν : NT) (p : Nat) : Bool := decide (ν 3 p = ν 1 0) && sameF (atN (fun i => τ 18 (30 * p + i)) (ν 3 p)) (atN (τ 6) (ν 1 0)) (ν 3 p) 0
def pabL (τ : IT) (ν : NT) (h : Nat) : Nat → Nat → Option Nat
  | 0, _ => none
  | k + 1, i => if i < ν 0 0 ∧ ν 5 i = h ∧ sameC τ ν i = true then some i else pabL τ ν h k (i + 1)
def gainsC (τ : IT) (p q : Nat) : Bool := gainsB (τ 10 p) (τ 13 p) (τ 25 p) (τ 10 q) (τ 13 q) (τ 25 q)
def bestL (τ : IT) (ν : NT) : Nat → Nat → Option Nat → Option Nat
  | 0, _, b => b
  | k + 1, i, b => bestL τ ν k (i + 1) (if i < ν 0 0 ∧ keptC τ i = true ∧ (match b with | none => true | some j => gainsC τ i j) = true then some i else b)
def divUp (a b : Int32) : Int32 := if (1 : Int32) ≤ b then (a + b - 1) / b else a
def paceC (τ : IT) (p : Nat) : Int32 := mn (τ 2 0) (divUp (τ 1 0 * (τ 12 p + 2)) (τ 13 p + 1))
theorem CW.page {D : va_G} {cy : Nat → ClassId} {ad : NT} {τ : IT} {ν : NT} {H : Heap} (h : CW D cy ad τ ν H) {p : Nat} (hp : p < ν 0 0) : pPage D (ad 7 p) (ad 6 (ν 5 p)) (ad 8 p) (nI p) (τ 15 p) (τ 10 p) (τ 11 p) (τ 12 p) (τ 13 p) (τ 14 p) (τ 25 p) H := h 7 p hp
theorem CW.buf {D : va_G} {cy : Nat → ClassId} {ad : NT} {τ : IT} {ν : NT} {H : Heap} (h : CW D cy ad τ ν H) : pA D cy (ad 1 0) (ad 4 0) (ad 5 0) (τ 6) (τ 22) (ν 1 0) (ν 2 0) H := ⟨h 1 0 Nat.zero_lt_one, h 4 0 Nat.zero_lt_one, h 5 0 Nat.zero_lt_one⟩
theorem CW.addr {D : va_G} {cy : Nat → ClassId} {ad : NT} {τ : IT} {ν : NT} {H : Heap} (h : CW D cy ad τ ν H) {p : Nat} (hp : p < ν 0 0) : pA D cy (ad 8 p) (ad 9 p) (ad 10 p) (fun i => τ 18 (30 * p + i)) (fun i => τ 24 (30 * p + i)) (ν 3 p) (ν 4 p) H := ⟨h 8 p hp, h 9 p hp, h 10 p hp⟩

set_option maxHeartbeats 4000000 in
set_option maxRecDepth 100000 in
/-- now -/
theorem m_X3_now (l : Launch) (D : va_G) (cy : Nat → ClassId) (ad : NT) (τ : IT) (ν : NT) : Met l yX3_now wsX3_now ({ frames := 0, cells := 0, slots := 0, locals := 0 } : Room) (va_Pc [.ref (ad 0 0)] (fun U => gK D cy U ∧ (CW D cy ad τ ν) U.heap)) (rQ (some (.int (τ 0 0)))) 0 0 (fun _ => False) := by
  refine Met.ofW (cc := cX3_now) (maxL := 1) (ret := (some .int)) (by decide) rfl ?_
  intro p e s m args below meth c s₁ B9 hml hv
  obtain ⟨rfl, hK, hB⟩ := hv
  have hx := B9.exec
  have hb := B9.bytes
  have hr := B9.returns
  have hts := atoms_spec (ws := wsX3_now) B9.pre
  have hown : s.vm.findClass RX3 = some m.cls := findClass_of_methodNamed B9.named
  have hlocks := B9.notSynchronized
  have lk111 := hts (.fieldLink RX3 111 "Politecrawl" "tick" "I") (by decide +kernel)
  have inX3 : ∀ w ∈ u_ws RX3 TX3 9, w ∈ wsX3_now := by decide +kernel
  have hl := lv_entry ([.ref (ad 0 0)]) (n := 1) (Nat.le_of_ble_eq_true rfl)
  rw [lg_entry_eq]
  generalize (lg_sl ([.ref (ad 0 0)]) ++ List.replicate (1 - (lg_sl ([.ref (ad 0 0)])).length) Slot.unset).toArray = ls at hl ⊢
  have hl : lv_has ls 1 [(0, .ref (ad 0 0))] := hl
  refine lv_aload_n hx hb dX3_now_0 rfl (lv_at hl 0 rfl) ?_
  refine g_get (C := RX3) (T := TX3) (N := 9) (ci := 3) (fs := [.ref (ad 1 0), .ref (ad 2 0), .ref (ad 3 0), .int (nI (ν 0 0)), .int (τ 0 0), .int (τ 1 0), .int (τ 2 0), .int (τ 3 0), .int (τ 20 0)]) hx hb hts inX3 hown hK (hB 0 0 Nat.zero_lt_one) rfl 4 (by decide) lk111 rfl rfl dX3_now_1 ?_
  exact g_iret hx hb hr hlocks dX3_now_4 rfl

set_option maxHeartbeats 4000000 in
set_option maxRecDepth 100000 in
/-- pages -/
theorem m_X3_pages (l : Launch) (D : va_G) (cy : Nat → ClassId) (ad : NT) (τ : IT) (ν : NT) : Met l yX3_pages wsX3_pages ({ frames := 0, cells := 0, slots := 0, locals := 0 } : Room) (va_Pc [.ref (ad 0 0)] (fun U => gK D cy U ∧ (CW D cy ad τ ν) U.heap)) (rQ (some (.int (nI (ν 0 0))))) 0 0 (fun _ => False) := by
  refine Met.ofW (cc := cX3_pages) (maxL := 1) (ret := (some .int)) (by decide) rfl ?_
  intro p e s m args below meth c s₁ B9 hml hv
  obtain ⟨rfl, hK, hB⟩ := hv
  have hx := B9.exec
  have hb := B9.bytes
  have hr := B9.returns
  have hts := atoms_spec (ws := wsX3_pages) B9.pre
  have hown : s.vm.findClass RX3 = some m.cls := findClass_of_methodNamed B9.named
  have hlocks := B9.notSynchronized
  have lk103 := hts (.fieldLink RX3 103 "Politecrawl" "foundCount" "I") (by decide +kernel)
  have inX3 : ∀ w ∈ u_ws RX3 TX3 9, w ∈ wsX3_pages := by decide +kernel
  have hl := lv_entry ([.ref (ad 0 0)]) (n := 1) (Nat.le_of_ble_eq_true rfl)
  rw [lg_entry_eq]
  generalize (lg_sl ([.ref (ad 0 0)]) ++ List.replicate (1 - (lg_sl ([.ref (ad 0 0)])).length) Slot.unset).toArray = ls at hl ⊢
  have hl : lv_has ls 1 [(0, .ref (ad 0 0))] := hl
  refine lv_aload_n hx hb dX3_pages_0 rfl (lv_at hl 0 rfl) ?_
  refine g_get (C := RX3) (T := TX3) (N := 9) (ci := 3) (fs := [.ref (ad 1 0), .ref (ad 2 0), .ref (ad 3 0), .int (nI (ν 0 0)), .int (τ 0 0), .int (τ 1 0), .int (τ 2 0), .int (τ 3 0), .int (τ 20 0)]) hx hb hts inX3 hown hK (hB 0 0 Nat.zero_lt_one) rfl 3 (by decide) lk103 rfl rfl dX3_pages_1 ?_
  exact g_iret hx hb hr hlocks dX3_pages_4 rfl

set_option maxHeartbeats 4000000 in
set_option maxRecDepth 100000 in
/-- segments -/
theorem m_X3_segments (l : Launch) (D : va_G) (cy : Nat → ClassId) (ad : NT) (τ : IT) (ν : NT) : Met l yX3_segments wsX3_segments ({ frames := 0, cells := 0, slots := 0, locals := 0 } : Room) (va_Pc [.ref (ad 0 0)] (fun U => gK D cy U ∧ (CW D cy ad τ ν) U.heap)) (rQ (some (.int (nI (ν 2 0))))) 0 0 (fun _ => False) := by
  refine Met.ofW (cc := cX3_segments) (maxL := 1) (ret := (some .int)) (by decide) rfl ?_
  intro p e s m args below meth c s₁ B9 hml hv
  obtain ⟨rfl, hK, hB⟩ := hv
  have hx := B9.exec
  have hb := B9.bytes
  have hr := B9.returns
  have hts := atoms_spec (ws := wsX3_segments) B9.pre
  have hown : s.vm.findClass RX3 = some m.cls := findClass_of_methodNamed B9.named
  have hlocks := B9.notSynchronized
  have lk10 := hts (.fieldLink RX3 10 "Politecrawl" "buffer" "LPolitecrawl$Address;") (by decide +kernel)
  have inX3 : ∀ w ∈ u_ws RX3 TX3 9, w ∈ wsX3_segments := by decide +kernel
  have lk65 := hts (.fieldLink RX3 65 "Politecrawl$Address" "segmentCount" "I") (by decide +kernel)
  have inX0 : ∀ w ∈ u_ws RX0 TX0 4, w ∈ wsX3_segments := by decide +kernel
  have hl := lv_entry ([.ref (ad 0 0)]) (n := 1) (Nat.le_of_ble_eq_true rfl)
  rw [lg_entry_eq]
  generalize (lg_sl ([.ref (ad 0 0)]) ++ List.replicate (1 - (lg_sl ([.ref (ad 0 0)])).length) Slot.unset).toArray = ls at hl ⊢
  have hl : lv_has ls 1 [(0, .ref (ad 0 0))] := hl
  refine lv_aload_n hx hb dX3_segments_0 rfl (lv_at hl 0 rfl) ?_
  refine g_get (C := RX3) (T := TX3) (N := 9) (ci := 3) (fs := [.ref (ad 1 0), .ref (ad 2 0), .ref (ad 3 0), .int (nI (ν 0 0)), .int (τ 0 0), .int (τ 1 0), .int (τ 2 0), .int (τ 3 0), .int (τ 20 0)]) hx hb hts inX3 hown hK (hB 0 0 Nat.zero_lt_one) rfl 0 (by decide) lk10 rfl rfl dX3_segments_1 ?_
  refine g_get (C := RX0) (T := TX0) (N := 4) (ci := 0) (fs := [.ref (ad 4 0), .ref (ad 5 0), .int (nI (ν 1 0)), .int (nI (ν 2 0))]) hx hb hts inX0 hown hK (hB 1 0 Nat.zero_lt_one) rfl 3 (by decide) lk65 rfl rfl dX3_segments_4 ?_
  exact g_iret hx hb hr hlocks dX3_segments_7 rfl

set_option maxHeartbeats 4000000 in
set_option maxRecDepth 100000 in
/-- isTrap -/
theorem m_X3_isTrap (l : Launch) (D : va_G) (cy : Nat → ClassId) (ad : NT) (τ : IT) (ν : NT) (hI : CI τ ν) : Met l yX3_isTrap wsX3_isTrap ({ frames := 4, cells := 0, slots := 0, locals := 115 } : Room) (va_Pc [.ref (ad 0 0)] (fun U => gK D cy U ∧ (CW D cy ad τ ν) U.heap)) (rQ (some (.int (zb (repA (τ 6) (τ 22) (ν 1 0) (ν 2 0)))))) 0 0 (fun _ => False) := by
  refine Met.ofW (cc := cX3_isTrap) (maxL := 1) (ret := (some .boolean)) (by decide) rfl ?_
  intro p e s m args below meth c s₁ B9 hml hv
  obtain ⟨rfl, hK, hB⟩ := hv
  have hx := B9.exec
  have hb := B9.bytes
  have hr := B9.returns
  have hts := atoms_spec (ws := wsX3_isTrap) B9.pre
  have hown : s.vm.findClass RX3 = some m.cls := findClass_of_methodNamed B9.named
  have hlocks := B9.notSynchronized
  have lk10 := hts (.fieldLink RX3 10 "Politecrawl" "buffer" "LPolitecrawl$Address;") (by decide +kernel)
  have inX3 : ∀ w ∈ u_ws RX3 TX3 9, w ∈ wsX3_isTrap := by decide +kernel
  have hl := lv_entry ([.ref (ad 0 0)]) (n := 1) (Nat.le_of_ble_eq_true rfl)
  rw [lg_entry_eq]
  generalize (lg_sl ([.ref (ad 0 0)]) ++ List.replicate (1 - (lg_sl ([.ref (ad 0 0)])).length) Slot.unset).toArray = ls at hl ⊢
  have hl : lv_has ls 1 [(0, .ref (ad 0 0))] := hl
  refine lv_aload_n hx hb dX3_isTrap_0 rfl (lv_at hl 0 rfl) ?_
  refine g_get (C := RX3) (T := TX3) (N := 9) (ci := 3) (fs := [.ref (ad 1 0), .ref (ad 2 0), .ref (ad 3 0), .int (nI (ν 0 0)), .int (τ 0 0), .int (τ 1 0), .int (τ 2 0), .int (τ 3 0), .int (τ 20 0)]) hx hb hts inX3 hown hK (hB 0 0 Nat.zero_lt_one) rfl 0 (by decide) lk10 rfl rfl dX3_isTrap_1 ?_
  refine g_csr (va_runV (As := []) (rest := []) ⟨hx, hb, hml, hown, hts⟩ (m_X0_repeatsItself l D cy (ad 1 0) (ad 4 0) (ad 5 0) (τ 6) (τ 22) (ν 1 0) (ν 2 0) hI.2.1 hI.2.2.2.1 hI.2.2.1 hI.2.2.2.2.1) (cwV 0 hts gX3_isTrap_X0_repeatsItself rfl rfl rfl (by decide +kernel) ⟨Nat.le_of_ble_eq_true rfl, Nat.le_of_ble_eq_true rfl⟩) (g_preV (C := RX0) (B := (pA D cy (ad 1 0) (ad 4 0) (ad 5 0) (τ 6) (τ 22) (ν 1 0) (ν 2 0))) hK hB.buf (hB 1 0 Nat.zero_lt_one) rfl) rfl rfl hl.1 rfl (lv_room (Nat.le_of_ble_eq_true rfl)) dX3_isTrap_4 ⟨Nat.zero_le _, Nat.zero_le _⟩) ?_
  exact g_zret hx hb hr hlocks (by cases repA (τ 6) (τ 22) (ν 1 0) (ν 2 0) <;> rfl) dX3_isTrap_7 rfl

set_option maxHeartbeats 4000000 in
set_option maxRecDepth 100000 in
/-- budgetLeft -/
theorem m_X3_budgetLeft (l : Launch) (D : va_G) (cy : Nat → ClassId) (ad : NT) (τ : IT) (ν : NT) : Met l yX3_budgetLeft wsX3_budgetLeft ({ frames := 1, cells := 0, slots := 0, locals := 21 } : Room) (va_Pc [.ref (ad 0 0)] (fun U => gK D cy U ∧ (CW D cy ad τ ν) U.heap)) (rQ (some (.int (leftC τ)))) 0 0 (fun _ => False) := by
  refine Met.ofW (cc := cX3_budgetLeft) (maxL := 1) (ret := (some .int)) (by decide) rfl ?_
  intro p e s m args below meth c s₁ B9 hml hv
  obtain ⟨rfl, hK, hB⟩ := hv
  have hx := B9.exec
  have hb := B9.bytes
  have hr := B9.returns
  have hts := atoms_spec (ws := wsX3_budgetLeft) B9.pre
  have hown : s.vm.findClass RX3 = some m.cls := findClass_of_methodNamed B9.named
  have hlocks := B9.notSynchronized
  have lk36 := hts (.fieldLink RX3 36 "Politecrawl" "budget" "I") (by decide +kernel)
  have inX3 : ∀ w ∈ u_ws RX3 TX3 9, w ∈ wsX3_budgetLeft := by decide +kernel
  have lk155 := hts (.fieldLink RX3 155 "Politecrawl" "visitsInSpan" "I") (by decide +kernel)
  have hl := lv_entry ([.ref (ad 0 0)]) (n := 1) (Nat.le_of_ble_eq_true rfl)
  rw [lg_entry_eq]
  generalize (lg_sl ([.ref (ad 0 0)]) ++ List.replicate (1 - (lg_sl ([.ref (ad 0 0)])).length) Slot.unset).toArray = ls at hl ⊢
  have hl : lv_has ls 1 [(0, .ref (ad 0 0))] := hl
  refine lv_iconst (v := 0) hx hb dX3_budgetLeft_0 (by decide) ?_
  refine lv_aload_n hx hb dX3_budgetLeft_1 rfl (lv_at hl 0 rfl) ?_
  refine g_get (C := RX3) (T := TX3) (N := 9) (ci := 3) (fs := [.ref (ad 1 0), .ref (ad 2 0), .ref (ad 3 0), .int (nI (ν 0 0)), .int (τ 0 0), .int (τ 1 0), .int (τ 2 0), .int (τ 3 0), .int (τ 20 0)]) hx hb hts inX3 hown hK (hB 0 0 Nat.zero_lt_one) rfl 7 (by decide) lk36 rfl rfl dX3_budgetLeft_2 ?_
  refine lv_aload_n hx hb dX3_budgetLeft_5 rfl (lv_at hl 0 rfl) ?_
  refine g_get (C := RX3) (T := TX3) (N := 9) (ci := 3) (fs := [.ref (ad 1 0), .ref (ad 2 0), .ref (ad 3 0), .int (nI (ν 0 0)), .int (τ 0 0), .int (τ 1 0), .int (τ 2 0), .int (τ 3 0), .int (τ 20 0)]) hx hb hts inX3 hown hK (hB 0 0 Nat.zero_lt_one) rfl 8 (by decide) lk155 rfl rfl dX3_budgetLeft_6 ?_
  refine lv_isub hx hb dX3_budgetLeft_9 ?_
  refine va_mmax hx hb (by rw [hml]; exact hl.1.symm) hown (hts (.methodLink RX3 178 Lib.Math.max.name) (by decide +kernel)) (hts (.static Lib.Math.max.name) (by decide +kernel)) (hts (.initialized "java/lang/Math") (by decide +kernel)) (hts (.code Lib.Math.max.name Lib.Math.max.code 2 (some .int)) (by decide +kernel)) (Nat.le_of_ble_eq_true rfl) (Nat.le_of_ble_eq_true rfl) (Nat.zero_le _) (Nat.zero_le _) dX3_budgetLeft_10 ?_
  exact g_iret hx hb hr hlocks dX3_budgetLeft_13 rfl

set_option maxHeartbeats 4000000 in
set_option maxRecDepth 100000 in
/-- startOfNextSpan -/
theorem m_X3_startOfNextSpan (l : Launch) (D : va_G) (cy : Nat → ClassId) (ad : NT) (τ : IT) (ν : NT) : Met l yX3_startOfNextSpan wsX3_startOfNextSpan ({ frames := 0, cells := 0, slots := 0, locals := 0 } : Room) (va_Pc [.ref (ad 0 0)] (fun U => gK D cy U ∧ (CW D cy ad τ ν) U.heap)) (rQ (some (.int (spanC τ)))) 0 0 (fun _ => False) := by
  refine Met.ofW (cc := cX3_startOfNextSpan) (maxL := 1) (ret := (some .int)) (by decide) rfl ?_
  intro p e s m args below meth c s₁ B9 hml hv
  obtain ⟨rfl, hK, hB⟩ := hv
  have hx := B9.exec
  have hb := B9.bytes
  have hr := B9.returns
  have hts := atoms_spec (ws := wsX3_startOfNextSpan) B9.pre
  have hown : s.vm.findClass RX3 = some m.cls := findClass_of_methodNamed B9.named
  have hlocks := B9.notSynchronized
  have lk111 := hts (.fieldLink RX3 111 "Politecrawl" "tick" "I") (by decide +kernel)
  have inX3 : ∀ w ∈ u_ws RX3 TX3 9, w ∈ wsX3_startOfNextSpan := by decide +kernel
  have hl := lv_entry ([.ref (ad 0 0)]) (n := 1) (Nat.le_of_ble_eq_true rfl)
  rw [lg_entry_eq]
  generalize (lg_sl ([.ref (ad 0 0)]) ++ List.replicate (1 - (lg_sl ([.ref (ad 0 0)])).length) Slot.unset).toArray = ls at hl ⊢
  have hl : lv_has ls 1 [(0, .ref (ad 0 0))] := hl
  refine lv_aload_n hx hb dX3_startOfNextSpan_0 rfl (lv_at hl 0 rfl) ?_
  refine g_get (C := RX3) (T := TX3) (N := 9) (ci := 3) (fs := [.ref (ad 1 0), .ref (ad 2 0), .ref (ad 3 0), .int (nI (ν 0 0)), .int (τ 0 0), .int (τ 1 0), .int (τ 2 0), .int (τ 3 0), .int (τ 20 0)]) hx hb hts inX3 hown hK (hB 0 0 Nat.zero_lt_one) rfl 4 (by decide) lk111 rfl rfl dX3_startOfNextSpan_1 ?_
  refine lv_bipush (v := 100) hx hb dX3_startOfNextSpan_4 (by decide) ?_
  refine lv_idiv hx hb dX3_startOfNextSpan_6 (by decide) ?_
  refine lv_iconst (v := 1) hx hb dX3_startOfNextSpan_7 (by decide) ?_
  refine lv_iadd hx hb dX3_startOfNextSpan_8 ?_
  refine lv_bipush (v := 100) hx hb dX3_startOfNextSpan_9 (by decide) ?_
  refine lv_imul hx hb dX3_startOfNextSpan_11 ?_
  exact g_iret hx hb hr hlocks dX3_startOfNextSpan_12 rfl

set_option maxHeartbeats 4000000 in
set_option maxRecDepth 100000 in
/-- readyFrom -/
theorem m_X3_readyFrom (l : Launch) (D : va_G) (cy : Nat → ClassId) (ad : NT) (τ : IT) (ν : NT) (hI : CI τ ν) (q : Nat) (hq : q < ν 0 0) : Met l yX3_readyFrom wsX3_readyFrom ({ frames := 2, cells := 0, slots := 0, locals := 45 } : Room) (va_Pc [.ref (ad 0 0), .ref (ad 7 q)] (fun U => gK D cy U ∧ (CW D cy ad τ ν) U.heap)) (rQ (some (.int (readyC τ ν q)))) 0 0 (fun _ => False) := by
  refine Met.ofW (cc := cX3_readyFrom) (maxL := 3) (ret := (some .int)) (by decide) rfl ?_
  intro p e s m args below meth c s₁ B9 hml hv
  obtain ⟨rfl, hK, hB⟩ := hv
  have hx := B9.exec
  have hb := B9.bytes
  have hr := B9.returns
  have hts := atoms_spec (ws := wsX3_readyFrom) B9.pre
  have hown : s.vm.findClass RX3 = some m.cls := findClass_of_methodNamed B9.named
  have hlocks := B9.notSynchronized
  have lk111 := hts (.fieldLink RX3 111 "Politecrawl" "tick" "I") (by decide +kernel)
  have inX3 : ∀ w ∈ u_ws RX3 TX3 9, w ∈ wsX3_readyFrom := by decide +kernel
  have lk127 := hts (.fieldLink RX3 127 "Politecrawl$Page" "due" "I") (by decide +kernel)
  have inX2 : ∀ w ∈ u_ws RX2 TX2 10, w ∈ wsX3_readyFrom := by decide +kernel
  have lk162 := hts (.fieldLink RX3 162 "Politecrawl$Page" "host" "LPolitecrawl$Host;") (by decide +kernel)
  have lk89 := hts (.fieldLink RX3 89 "Politecrawl$Host" "openFrom" "I") (by decide +kernel)
  have inX1 : ∀ w ∈ u_ws RX1 TX1 3, w ∈ wsX3_readyFrom := by decide +kernel
  have hl := lv_entry ([.ref (ad 0 0), .ref (ad 7 q)]) (n := 3) (Nat.le_of_ble_eq_true rfl)
  rw [lg_entry_eq]
  generalize (lg_sl ([.ref (ad 0 0), .ref (ad 7 q)]) ++ List.replicate (3 - (lg_sl ([.ref (ad 0 0), .ref (ad 7 q)])).length) Slot.unset).toArray = ls at hl ⊢
  have hl : lv_has ls 3 [(0, .ref (ad 0 0)), (1, .ref (ad 7 q))] := hl
  refine lv_aload_n hx hb dX3_readyFrom_0 rfl (lv_at hl 0 rfl) ?_
  refine g_csr (va_runV (As := []) (rest := []) ⟨hx, hb, hml, hown, hts⟩ (m_X3_budgetLeft l D cy ad τ ν) (cwV 0 hts gX3_readyFrom_X3_budgetLeft rfl rfl rfl (by decide +kernel) ⟨Nat.le_of_ble_eq_true rfl, Nat.le_of_ble_eq_true rfl⟩) (g_preV (C := RX3) (B := (CW D cy ad τ ν)) hK hB (hB 0 0 Nat.zero_lt_one) rfl) rfl rfl hl.1 rfl (lv_room (Nat.le_of_ble_eq_true rfl)) dX3_readyFrom_1 ⟨Nat.zero_le _, Nat.zero_le _⟩) ?_
  refine lv_if_le (tgt := 14) hx hb dX3_readyFrom_4 (by decide) (fun c_4 => ?_) (fun c_4 => ?_)
  · -- 4 t
    refine lv_aload_n hx hb dX3_readyFrom_14 rfl (lv_at hl 0 rfl) ?_
    refine g_csr (va_runV (As := []) (rest := []) ⟨hx, hb, hml, hown, hts⟩ (m_X3_startOfNextSpan l D cy ad τ ν) (cwV 0 hts gX3_readyFrom_X3_startOfNextSpan rfl rfl rfl (by decide +kernel) ⟨Nat.le_of_ble_eq_true rfl, Nat.le_of_ble_eq_true rfl⟩) (g_preV (C := RX3) (B := (CW D cy ad τ ν)) hK hB (hB 0 0 Nat.zero_lt_one) rfl) rfl rfl hl.1 rfl (lv_room (Nat.le_of_ble_eq_true rfl)) dX3_readyFrom_15 ⟨Nat.zero_le _, Nat.zero_le _⟩) ?_
    refine lv_istore_n (lv' := [(2, .int (spanC τ)), (0, .ref (ad 0 0)), (1, .ref (ad 7 q))]) hx hb dX3_readyFrom_18 rfl hl (by decide) rfl (fun ls hl => ?_)
    refine lv_iload_n hx hb dX3_readyFrom_19 rfl (lv_at hl 0 rfl) ?_
    refine lv_aload_n hx hb dX3_readyFrom_20 rfl (lv_at hl 2 rfl) ?_
    refine g_get (C := RX2) (T := TX2) (N := 10) (ci := 2) (fs := [.int (nI q), .ref (ad 6 (ν 5 q)), .ref (ad 8 q), .int (τ 15 q), .int (τ 10 q), .int (τ 11 q), .int (τ 12 q), .int (τ 13 q), .int (τ 14 q), .int (τ 25 q)]) hx hb hts inX2 hown hK (hB 7 q hq) rfl 5 (by decide) lk127 rfl rfl dX3_readyFrom_21 ?_
    refine lv_aload_n hx hb dX3_readyFrom_24 rfl (lv_at hl 2 rfl) ?_
    refine g_get (C := RX2) (T := TX2) (N := 10) (ci := 2) (fs := [.int (nI q), .ref (ad 6 (ν 5 q)), .ref (ad 8 q), .int (τ 15 q), .int (τ 10 q), .int (τ 11 q), .int (τ 12 q), .int (τ 13 q), .int (τ 14 q), .int (τ 25 q)]) hx hb hts inX2 hown hK (hB 7 q hq) rfl 1 (by decide) lk162 rfl rfl dX3_readyFrom_25 ?_
    refine g_get (C := RX1) (T := TX1) (N := 3) (ci := 1) (fs := [.int (τ 7 (ν 5 q)), .int (τ 8 (ν 5 q)), .int (τ 9 (ν 5 q))]) hx hb hts inX1 hown hK (hB 6 (ν 5 q) (hI.2.2.2.2.2 q hq).1) rfl 2 (by decide) lk89 rfl rfl dX3_readyFrom_28 ?_
    refine va_mmax hx hb (by rw [hml]; exact hl.1.symm) hown (hts (.methodLink RX3 178 Lib.Math.max.name) (by decide +kernel)) (hts (.static Lib.Math.max.name) (by decide +kernel)) (hts (.initialized "java/lang/Math") (by decide +kernel)) (hts (.code Lib.Math.max.name Lib.Math.max.code 2 (some .int)) (by decide +kernel)) (Nat.le_of_ble_eq_true rfl) (Nat.le_of_ble_eq_true rfl) (Nat.zero_le _) (Nat.zero_le _) dX3_readyFrom_31 ?_
    refine va_mmax hx hb (by rw [hml]; exact hl.1.symm) hown (hts (.methodLink RX3 178 Lib.Math.max.name) (by decide +kernel)) (hts (.static Lib.Math.max.name) (by decide +kernel)) (hts (.initialized "java/lang/Math") (by decide +kernel)) (hts (.code Lib.Math.max.name Lib.Math.max.code 2 (some .int)) (by decide +kernel)) (Nat.le_of_ble_eq_true rfl) (Nat.le_of_ble_eq_true rfl) (Nat.zero_le _) (Nat.zero_le _) dX3_readyFrom_34 ?_
    exact g_iret hx hb hr hlocks dX3_readyFrom_37 (by rw [readyC, if_pos c_4]; rfl)
  · -- 4 f
    refine lv_aload_n hx hb dX3_readyFrom_7 rfl (lv_at hl 0 rfl) ?_
    refine g_get (C := RX3) (T := TX3) (N := 9) (ci := 3) (fs := [.ref (ad 1 0), .ref (ad 2 0), .ref (ad 3 0), .int (nI (ν 0 0)), .int (τ 0 0), .int (τ 1 0), .int (τ 2 0), .int (τ 3 0), .int (τ 20 0)]) hx hb hts inX3 hown hK (hB 0 0 Nat.zero_lt_one) rfl 4 (by decide) lk111 rfl rfl dX3_readyFrom_8 ?_
    refine lv_goto (tgt := 18) hx hb dX3_readyFrom_11 (by decide) ?_
    refine lv_istore_n (lv' := [(2, .int (τ 0 0)), (0, .ref (ad 0 0)), (1, .ref (ad 7 q))]) hx hb dX3_readyFrom_18 rfl hl (by decide) rfl (fun ls hl => ?_)
    refine lv_iload_n hx hb dX3_readyFrom_19 rfl (lv_at hl 0 rfl) ?_
    refine lv_aload_n hx hb dX3_readyFrom_20 rfl (lv_at hl 2 rfl) ?_
    refine g_get (C := RX2) (T := TX2) (N := 10) (ci := 2) (fs := [.int (nI q), .ref (ad 6 (ν 5 q)), .ref (ad 8 q), .int (τ 15 q), .int (τ 10 q), .int (τ 11 q), .int (τ 12 q), .int (τ 13 q), .int (τ 14 q), .int (τ 25 q)]) hx hb hts inX2 hown hK (hB 7 q hq) rfl 5 (by decide) lk127 rfl rfl dX3_readyFrom_21 ?_
    refine lv_aload_n hx hb dX3_readyFrom_24 rfl (lv_at hl 2 rfl) ?_
    refine g_get (C := RX2) (T := TX2) (N := 10) (ci := 2) (fs := [.int (nI q), .ref (ad 6 (ν 5 q)), .ref (ad 8 q), .int (τ 15 q), .int (τ 10 q), .int (τ 11 q), .int (τ 12 q), .int (τ 13 q), .int (τ 14 q), .int (τ 25 q)]) hx hb hts inX2 hown hK (hB 7 q hq) rfl 1 (by decide) lk162 rfl rfl dX3_readyFrom_25 ?_
    refine g_get (C := RX1) (T := TX1) (N := 3) (ci := 1) (fs := [.int (τ 7 (ν 5 q)), .int (τ 8 (ν 5 q)), .int (τ 9 (ν 5 q))]) hx hb hts inX1 hown hK (hB 6 (ν 5 q) (hI.2.2.2.2.2 q hq).1) rfl 2 (by decide) lk89 rfl rfl dX3_readyFrom_28 ?_
    refine va_mmax hx hb (by rw [hml]; exact hl.1.symm) hown (hts (.methodLink RX3 178 Lib.Math.max.name) (by decide +kernel)) (hts (.static Lib.Math.max.name) (by decide +kernel)) (hts (.initialized "java/lang/Math") (by decide +kernel)) (hts (.code Lib.Math.max.name Lib.Math.max.code 2 (some .int)) (by decide +kernel)) (Nat.le_of_ble_eq_true rfl) (Nat.le_of_ble_eq_true rfl) (Nat.zero_le _) (Nat.zero_le _) dX3_readyFrom_31 ?_
    refine va_mmax hx hb (by rw [hml]; exact hl.1.symm) hown (hts (.methodLink RX3 178 Lib.Math.max.name) (by decide +kernel)) (hts (.static Lib.Math.max.name) (by decide +kernel)) (hts (.initialized "java/lang/Math") (by decide +kernel)) (hts (.code Lib.Math.max.name Lib.Math.max.code 2 (some .int)) (by decide +kernel)) (Nat.le_of_ble_eq_true rfl) (Nat.le_of_ble_eq_true rfl) (Nat.zero_le _) (Nat.zero_le _) dX3_readyFrom_34 ?_
    exact g_iret hx hb hr hlocks dX3_readyFrom_37 (by rw [readyC, if_neg c_4]; rfl)

set_option maxHeartbeats 4000000 in
set_option maxRecDepth 100000 in
/-- isReady -/
theorem m_X3_isReady (l : Launch) (D : va_G) (cy : Nat → ClassId) (ad : NT) (τ : IT) (ν : NT) (hI : CI τ ν) (q : Nat) (hq : q < ν 0 0) : Met l yX3_isReady wsX3_isReady ({ frames := 3, cells := 0, slots := 0, locals := 70 } : Room) (va_Pc [.ref (ad 0 0), .ref (ad 7 q)] (fun U => gK D cy U ∧ (CW D cy ad τ ν) U.heap)) (rQ (some (.int (zb (isRdy τ ν q))))) 0 0 (fun _ => False) := by
  refine Met.ofW (cc := cX3_isReady) (maxL := 2) (ret := (some .boolean)) (by decide) rfl ?_
  intro p e s m args below meth c s₁ B9 hml hv
  obtain ⟨rfl, hK, hB⟩ := hv
  have hx := B9.exec
  have hb := B9.bytes
  have hr := B9.returns
  have hts := atoms_spec (ws := wsX3_isReady) B9.pre
  have hown : s.vm.findClass RX3 = some m.cls := findClass_of_methodNamed B9.named
  have hlocks := B9.notSynchronized
  have lk111 := hts (.fieldLink RX3 111 "Politecrawl" "tick" "I") (by decide +kernel)
  have inX3 : ∀ w ∈ u_ws RX3 TX3 9, w ∈ wsX3_isReady := by decide +kernel
  have hl := lv_entry ([.ref (ad 0 0), .ref (ad 7 q)]) (n := 2) (Nat.le_of_ble_eq_true rfl)
  rw [lg_entry_eq]
  generalize (lg_sl ([.ref (ad 0 0), .ref (ad 7 q)]) ++ List.replicate (2 - (lg_sl ([.ref (ad 0 0), .ref (ad 7 q)])).length) Slot.unset).toArray = ls at hl ⊢
  have hl : lv_has ls 2 [(0, .ref (ad 0 0)), (1, .ref (ad 7 q))] := hl
  refine lv_aload_n hx hb dX3_isReady_0 rfl (lv_at hl 1 rfl) ?_
  refine g_csr (va_runV (As := []) (rest := []) ⟨hx, hb, hml, hown, hts⟩ (m_X2_isKept l D cy (ad 7 q) (ad 6 (ν 5 q)) (ad 8 q) (nI q) (τ 15 q) (τ 10 q) (τ 11 q) (τ 12 q) (τ 13 q) (τ 14 q) (τ 25 q)) (cwV 0 hts gX3_isReady_X2_isKept rfl rfl rfl (by decide +kernel) ⟨Nat.le_of_ble_eq_true rfl, Nat.le_of_ble_eq_true rfl⟩) (g_preV (C := RX2) (B := (pPage D (ad 7 q) (ad 6 (ν 5 q)) (ad 8 q) (nI q) (τ 15 q) (τ 10 q) (τ 11 q) (τ 12 q) (τ 13 q) (τ 14 q) (τ 25 q))) hK (hB.page hq) (hB 7 q hq) rfl) rfl rfl hl.1 rfl (lv_room (Nat.le_of_ble_eq_true rfl)) dX3_isReady_1 ⟨Nat.zero_le _, Nat.zero_le _⟩) ?_
  refine lv_if_eq (tgt := 23) hx hb dX3_isReady_4 (by decide) (fun c_4 => ?_) (fun c_4 => ?_)
  · -- 4 t
    refine lv_iconst (v := 0) hx hb dX3_isReady_23 (by decide) ?_
    exact g_zret hx hb hr hlocks rfl dX3_isReady_24 (by rw [isRdy, (zb_0.mp c_4 : keptC τ q = false), Bool.false_and]; rfl)
  · -- 4 f
    refine lv_aload_n hx hb dX3_isReady_7 rfl (lv_at hl 0 rfl) ?_
    refine lv_aload_n hx hb dX3_isReady_8 rfl (lv_at hl 1 rfl) ?_
    refine g_csr (va_runV (As := [.ref (ad 7 q)]) (rest := []) ⟨hx, hb, hml, hown, hts⟩ (m_X3_readyFrom l D cy ad τ ν hI q hq) (cwV 1 hts gX3_isReady_X3_readyFrom rfl rfl rfl (by decide +kernel) ⟨Nat.le_of_ble_eq_true rfl, Nat.le_of_ble_eq_true rfl⟩) (g_preV (C := RX3) (B := (CW D cy ad τ ν)) hK hB (hB 0 0 Nat.zero_lt_one) rfl) rfl rfl hl.1 rfl (lv_room (Nat.le_of_ble_eq_true rfl)) dX3_isReady_9 ⟨Nat.zero_le _, Nat.zero_le _⟩) ?_
    refine lv_aload_n hx hb dX3_isReady_12 rfl (lv_at hl 0 rfl) ?_
    refine g_get (C := RX3) (T := TX3) (N := 9) (ci := 3) (fs := [.ref (ad 1 0), .ref (ad 2 0), .ref (ad 3 0), .int (nI (ν 0 0)), .int (τ 0 0), .int (τ 1 0), .int (τ 2 0), .int (τ 3 0), .int (τ 20 0)]) hx hb hts inX3 hown hK (hB 0 0 Nat.zero_lt_one) rfl 4 (by decide) lk111 rfl rfl dX3_isReady_13 ?_
    refine lv_icmp_gt (tgt := 23) hx hb dX3_isReady_16 (by decide) (fun c_16 => ?_) (fun c_16 => ?_)
    · -- 16 t
      refine lv_iconst (v := 0) hx hb dX3_isReady_23 (by decide) ?_
      exact g_zret hx hb hr hlocks rfl dX3_isReady_24 (by rw [isRdy, (zb_n0.mp c_4 : keptC τ q = true), decide_eq_true c_16]; rfl)
    · -- 16 f
      refine lv_iconst (v := 1) hx hb dX3_isReady_19 (by decide) ?_
      refine lv_goto (tgt := 24) hx hb dX3_isReady_20 (by decide) ?_
      exact g_zret hx hb hr hlocks rfl dX3_isReady_24 (by rw [isRdy, (zb_n0.mp c_4 : keptC τ q = true), decide_eq_false c_16]; rfl)

set_option maxHeartbeats 4000000 in
set_option maxRecDepth 100000 in
/-- goesBefore -/
theorem m_X3_goesBefore (l : Launch) (D : va_G) (cy : Nat → ClassId) (ad : NT) (τ : IT) (ν : NT) (x y : Nat) (hx0 : x < ν 0 0) (hy0 : y < ν 0 0) : Met l yX3_goesBefore wsX3_goesBefore ({ frames := 1, cells := 0, slots := 0, locals := 30 } : Room) (va_Pc [.ref (ad 0 0), .ref (ad 7 x), .ref (ad 7 y)] (fun U => gK D cy U ∧ (CW D cy ad τ ν) U.heap)) (rQ (some (.int (zb (befC τ x y))))) 0 0 (fun _ => False) := by
  refine Met.ofW (cc := cX3_goesBefore) (maxL := 5) (ret := (some .boolean)) (by decide) rfl ?_
  intro p e s m args below meth c s₁ B9 hml hv
  obtain ⟨rfl, hK, hB⟩ := hv
  have hx := B9.exec
  have hb := B9.bytes
  have hr := B9.returns
  have hts := atoms_spec (ws := wsX3_goesBefore) B9.pre
  have hown : s.vm.findClass RX3 = some m.cls := findClass_of_methodNamed B9.named
  have hlocks := B9.notSynchronized
  have lk111 := hts (.fieldLink RX3 111 "Politecrawl" "tick" "I") (by decide +kernel)
  have inX3 : ∀ w ∈ u_ws RX3 TX3 9, w ∈ wsX3_goesBefore := by decide +kernel
  have lk121 := hts (.fieldLink RX3 121 "Politecrawl$Page" "rank" "I") (by decide +kernel)
  have inX2 : ∀ w ∈ u_ws RX2 TX2 10, w ∈ wsX3_goesBefore := by decide +kernel
  have lk100 := hts (.fieldLink RX3 100 "Politecrawl$Page" "number" "I") (by decide +kernel)
  have hl := lv_entry ([.ref (ad 0 0), .ref (ad 7 x), .ref (ad 7 y)]) (n := 5) (Nat.le_of_ble_eq_true rfl)
  rw [lg_entry_eq]
  generalize (lg_sl ([.ref (ad 0 0), .ref (ad 7 x), .ref (ad 7 y)]) ++ List.replicate (5 - (lg_sl ([.ref (ad 0 0), .ref (ad 7 x), .ref (ad 7 y)])).length) Slot.unset).toArray = ls at hl ⊢
  have hl : lv_has ls 5 [(0, .ref (ad 0 0)), (1, .ref (ad 7 x)), (2, .ref (ad 7 y))] := hl
  refine lv_aload_n hx hb dX3_goesBefore_0 rfl (lv_at hl 1 rfl) ?_
  refine lv_aload_n hx hb dX3_goesBefore_1 rfl (lv_at hl 0 rfl) ?_
  refine g_get (C := RX3) (T := TX3) (N := 9) (ci := 3) (fs := [.ref (ad 1 0), .ref (ad 2 0), .ref (ad 3 0), .int (nI (ν 0 0)), .int (τ 0 0), .int (τ 1 0), .int (τ 2 0), .int (τ 3 0), .int (τ 20 0)]) hx hb hts inX3 hown hK (hB 0 0 Nat.zero_lt_one) rfl 4 (by decide) lk111 rfl rfl dX3_goesBefore_2 ?_
  refine g_csr (va_runV (As := [.int (τ 0 0)]) (rest := []) ⟨hx, hb, hml, hown, hts⟩ (m_X2_pressing l D cy (ad 7 x) (ad 6 (ν 5 x)) (ad 8 x) (nI x) (τ 15 x) (τ 10 x) (τ 11 x) (τ 12 x) (τ 13 x) (τ 14 x) (τ 25 x) (τ 0 0)) (cwV 1 hts gX3_goesBefore_X2_pressing rfl rfl rfl (by decide +kernel) ⟨Nat.le_of_ble_eq_true rfl, Nat.le_of_ble_eq_true rfl⟩) (g_preV (C := RX2) (B := (pPage D (ad 7 x) (ad 6 (ν 5 x)) (ad 8 x) (nI x) (τ 15 x) (τ 10 x) (τ 11 x) (τ 12 x) (τ 13 x) (τ 14 x) (τ 25 x))) hK (hB.page hx0) (hB 7 x hx0) rfl) rfl rfl hl.1 rfl (lv_room (Nat.le_of_ble_eq_true rfl)) dX3_goesBefore_5 ⟨Nat.zero_le _, Nat.zero_le _⟩) ?_
  refine lv_istore_n (lv' := [(3, .int (pressC τ x)), (0, .ref (ad 0 0)), (1, .ref (ad 7 x)), (2, .ref (ad 7 y))]) hx hb dX3_goesBefore_8 rfl hl (by decide) rfl (fun ls hl => ?_)
  refine lv_aload_n hx hb dX3_goesBefore_9 rfl (lv_at hl 3 rfl) ?_
  refine lv_aload_n hx hb dX3_goesBefore_10 rfl (lv_at hl 1 rfl) ?_
  refine g_get (C := RX3) (T := TX3) (N := 9) (ci := 3) (fs := [.ref (ad 1 0), .ref (ad 2 0), .ref (ad 3 0), .int (nI (ν 0 0)), .int (τ 0 0), .int (τ 1 0), .int (τ 2 0), .int (τ 3 0), .int (τ 20 0)]) hx hb hts inX3 hown hK (hB 0 0 Nat.zero_lt_one) rfl 4 (by decide) lk111 rfl rfl dX3_goesBefore_11 ?_
  refine g_csr (va_runV (As := [.int (τ 0 0)]) (rest := []) ⟨hx, hb, hml, hown, hts⟩ (m_X2_pressing l D cy (ad 7 y) (ad 6 (ν 5 y)) (ad 8 y) (nI y) (τ 15 y) (τ 10 y) (τ 11 y) (τ 12 y) (τ 13 y) (τ 14 y) (τ 25 y) (τ 0 0)) (cwV 1 hts gX3_goesBefore_X2_pressing rfl rfl rfl (by decide +kernel) ⟨Nat.le_of_ble_eq_true rfl, Nat.le_of_ble_eq_true rfl⟩) (g_preV (C := RX2) (B := (pPage D (ad 7 y) (ad 6 (ν 5 y)) (ad 8 y) (nI y) (τ 15 y) (τ 10 y) (τ 11 y) (τ 12 y) (τ 13 y) (τ 14 y) (τ 25 y))) hK (hB.page hy0) (hB 7 y hy0) rfl) rfl rfl hl.1 rfl (lv_room (Nat.le_of_ble_eq_true rfl)) dX3_goesBefore_14 ⟨Nat.zero_le _, Nat.zero_le _⟩) ?_
  refine lv_istore (lv' := [(4, .int (pressC τ y)), (3, .int (pressC τ x)), (0, .ref (ad 0 0)), (1, .ref (ad 7 x)), (2, .ref (ad 7 y))]) hx hb dX3_goesBefore_17 hl (by decide) rfl (fun ls hl => ?_)
  refine lv_iload_n hx hb dX3_goesBefore_19 rfl (lv_at hl 1 rfl) ?_
  refine lv_iload hx hb dX3_goesBefore_20 (lv_at hl 0 rfl) ?_
  refine lv_icmp_eq (tgt := 37) hx hb dX3_goesBefore_22 (by decide) (fun c_22 => ?_) (fun c_22 => ?_)
  · -- 22 t
    refine lv_aload_n hx hb dX3_goesBefore_37 rfl (lv_at hl 3 rfl) ?_
    refine g_get (C := RX2) (T := TX2) (N := 10) (ci := 2) (fs := [.int (nI x), .ref (ad 6 (ν 5 x)), .ref (ad 8 x), .int (τ 15 x), .int (τ 10 x), .int (τ 11 x), .int (τ 12 x), .int (τ 13 x), .int (τ 14 x), .int (τ 25 x)]) hx hb hts inX2 hown hK (hB 7 x hx0) rfl 4 (by decide) lk121 rfl rfl dX3_goesBefore_38 ?_
    refine lv_aload_n hx hb dX3_goesBefore_41 rfl (lv_at hl 4 rfl) ?_
    refine g_get (C := RX2) (T := TX2) (N := 10) (ci := 2) (fs := [.int (nI y), .ref (ad 6 (ν 5 y)), .ref (ad 8 y), .int (τ 15 y), .int (τ 10 y), .int (τ 11 y), .int (τ 12 y), .int (τ 13 y), .int (τ 14 y), .int (τ 25 y)]) hx hb hts inX2 hown hK (hB 7 y hy0) rfl 4 (by decide) lk121 rfl rfl dX3_goesBefore_42 ?_
    refine lv_icmp_eq (tgt := 65) hx hb dX3_goesBefore_45 (by decide) (fun c_45 => ?_) (fun c_45 => ?_)
    · -- 45 t
      refine lv_aload_n hx hb dX3_goesBefore_65 rfl (lv_at hl 3 rfl) ?_
      refine g_get (C := RX2) (T := TX2) (N := 10) (ci := 2) (fs := [.int (nI x), .ref (ad 6 (ν 5 x)), .ref (ad 8 x), .int (τ 15 x), .int (τ 10 x), .int (τ 11 x), .int (τ 12 x), .int (τ 13 x), .int (τ 14 x), .int (τ 25 x)]) hx hb hts inX2 hown hK (hB 7 x hx0) rfl 0 (by decide) lk100 rfl rfl dX3_goesBefore_66 ?_
      refine lv_aload_n hx hb dX3_goesBefore_69 rfl (lv_at hl 4 rfl) ?_
      refine g_get (C := RX2) (T := TX2) (N := 10) (ci := 2) (fs := [.int (nI y), .ref (ad 6 (ν 5 y)), .ref (ad 8 y), .int (τ 15 y), .int (τ 10 y), .int (τ 11 y), .int (τ 12 y), .int (τ 13 y), .int (τ 14 y), .int (τ 25 y)]) hx hb hts inX2 hown hK (hB 7 y hy0) rfl 0 (by decide) lk100 rfl rfl dX3_goesBefore_70 ?_
      refine lv_icmp_ge (tgt := 80) hx hb dX3_goesBefore_73 (by decide) (fun c_73 => ?_) (fun c_73 => ?_)
      · -- 73 t
        refine lv_iconst (v := 0) hx hb dX3_goesBefore_80 (by decide) ?_
        exact g_zret hx hb hr hlocks rfl dX3_goesBefore_81 (by rw [befC, if_pos c_22, if_pos c_45, decide_eq_false (Int32.not_lt.mpr c_73)]; rfl)
      · -- 73 f
        refine lv_iconst (v := 1) hx hb dX3_goesBefore_76 (by decide) ?_
        refine lv_goto (tgt := 81) hx hb dX3_goesBefore_77 (by decide) ?_
        exact g_zret hx hb hr hlocks rfl dX3_goesBefore_81 (by rw [befC, if_pos c_22, if_pos c_45, decide_eq_true (Int32.not_le.mp c_73)]; rfl)
    · -- 45 f
      refine lv_aload_n hx hb dX3_goesBefore_48 rfl (lv_at hl 3 rfl) ?_
      refine g_get (C := RX2) (T := TX2) (N := 10) (ci := 2) (fs := [.int (nI x), .ref (ad 6 (ν 5 x)), .ref (ad 8 x), .int (τ 15 x), .int (τ 10 x), .int (τ 11 x), .int (τ 12 x), .int (τ 13 x), .int (τ 14 x), .int (τ 25 x)]) hx hb hts inX2 hown hK (hB 7 x hx0) rfl 4 (by decide) lk121 rfl rfl dX3_goesBefore_49 ?_
      refine lv_aload_n hx hb dX3_goesBefore_52 rfl (lv_at hl 4 rfl) ?_
      refine g_get (C := RX2) (T := TX2) (N := 10) (ci := 2) (fs := [.int (nI y), .ref (ad 6 (ν 5 y)), .ref (ad 8 y), .int (τ 15 y), .int (τ 10 y), .int (τ 11 y), .int (τ 12 y), .int (τ 13 y), .int (τ 14 y), .int (τ 25 y)]) hx hb hts inX2 hown hK (hB 7 y hy0) rfl 4 (by decide) lk121 rfl rfl dX3_goesBefore_53 ?_
      refine lv_icmp_le (tgt := 63) hx hb dX3_goesBefore_56 (by decide) (fun c_56 => ?_) (fun c_56 => ?_)
      · -- 56 t
        refine lv_iconst (v := 0) hx hb dX3_goesBefore_63 (by decide) ?_
        exact g_zret hx hb hr hlocks rfl dX3_goesBefore_64 (by rw [befC, if_pos c_22, if_neg c_45, decide_eq_false (Int32.not_lt.mpr c_56)]; rfl)
      · -- 56 f
        refine lv_iconst (v := 1) hx hb dX3_goesBefore_59 (by decide) ?_
        refine lv_goto (tgt := 64) hx hb dX3_goesBefore_60 (by decide) ?_
        exact g_zret hx hb hr hlocks rfl dX3_goesBefore_64 (by rw [befC, if_pos c_22, if_neg c_45, decide_eq_true (Int32.not_le.mp c_56)]; rfl)
  · -- 22 f
    refine lv_iload_n hx hb dX3_goesBefore_25 rfl (lv_at hl 1 rfl) ?_
    refine lv_iload hx hb dX3_goesBefore_26 (lv_at hl 0 rfl) ?_
    refine lv_icmp_le (tgt := 35) hx hb dX3_goesBefore_28 (by decide) (fun c_28 => ?_) (fun c_28 => ?_)
    · -- 28 t
      refine lv_iconst (v := 0) hx hb dX3_goesBefore_35 (by decide) ?_
      exact g_zret hx hb hr hlocks rfl dX3_goesBefore_36 (by rw [befC, if_neg c_22, decide_eq_false (Int32.not_lt.mpr c_28)]; rfl)
    · -- 28 f
      refine lv_iconst (v := 1) hx hb dX3_goesBefore_31 (by decide) ?_
      refine lv_goto (tgt := 36) hx hb dX3_goesBefore_32 (by decide) ?_
      exact g_zret hx hb hr hlocks rfl dX3_goesBefore_36 (by rw [befC, if_neg c_22, decide_eq_true (Int32.not_le.mp c_28)]; rfl)
end
section
/-! the class: reads over all pages -/
set_option maxHeartbeats 4000000 in
set_option maxRecDepth 100000 in
/-- earlier(null, null) -/
theorem m_earlier_nn (l : Launch) (D : va_G) (cy : Nat → ClassId) (ad : NT) (τ : IT) (ν : NT)  : Met l yX3_earlier wsX3_earlier ({ frames := 2, cells := 0, slots := 0, locals := 60 } : Room) (va_Pc [.ref (ad 0 0), .null, .null] (fun U => gK D cy U ∧ (CW D cy ad τ ν) U.heap)) (rQ (some .null)) 0 0 (fun _ => False) := by
  refine Met.ofW (cc := cX3_earlier) (maxL := 3) (ret := (some (.object "Politecrawl$Page"))) (by decide) rfl ?_
  intro p e s m args below meth c s₁ B9 hml hv
  obtain ⟨rfl, hK, hB⟩ := hv
  have hx := B9.exec
  have hb := B9.bytes
  have hr := B9.returns
  have hts := atoms_spec (ws := wsX3_earlier) B9.pre
  have hown : s.vm.findClass RX3 = some m.cls := findClass_of_methodNamed B9.named
  have hlocks := B9.notSynchronized
  have hl := lv_entry ([.ref (ad 0 0), .null, .null]) (n := 3) (Nat.le_of_ble_eq_true rfl)
  rw [lg_entry_eq]
  generalize (lg_sl ([.ref (ad 0 0), .null, .null]) ++ List.replicate (3 - (lg_sl ([.ref (ad 0 0), .null, .null])).length) Slot.unset).toArray = ls at hl ⊢
  have hl : lv_has ls 3 [(0, .ref (ad 0 0)), (1, .null), (2, .null)] := hl
  refine lv_aload_nN hx hb dX3_earlier_0 rfl (lv_at hl 1 rfl) ?_
  refine lv_ifnonnullN hx hb dX3_earlier_1 ?_
  refine lv_aload_nN hx hb dX3_earlier_4 rfl (lv_at hl 2 rfl) ?_
  exact g_aret hx hb hr hlocks (Or.inl rfl) dX3_earlier_5 rfl

set_option maxHeartbeats 4000000 in
set_option maxRecDepth 100000 in
/-- earlier(null, x) -/
theorem m_earlier_ns (l : Launch) (D : va_G) (cy : Nat → ClassId) (ad : NT) (τ : IT) (ν : NT) (x : Nat) : Met l yX3_earlier wsX3_earlier ({ frames := 2, cells := 0, slots := 0, locals := 60 } : Room) (va_Pc [.ref (ad 0 0), .null, .ref (ad 7 x)] (fun U => gK D cy U ∧ (CW D cy ad τ ν) U.heap)) (rQ (some (.ref (ad 7 x)))) 0 0 (fun _ => False) := by
  refine Met.ofW (cc := cX3_earlier) (maxL := 3) (ret := (some (.object "Politecrawl$Page"))) (by decide) rfl ?_
  intro p e s m args below meth c s₁ B9 hml hv
  obtain ⟨rfl, hK, hB⟩ := hv
  have hx := B9.exec
  have hb := B9.bytes
  have hr := B9.returns
  have hts := atoms_spec (ws := wsX3_earlier) B9.pre
  have hown : s.vm.findClass RX3 = some m.cls := findClass_of_methodNamed B9.named
  have hlocks := B9.notSynchronized
  have hl := lv_entry ([.ref (ad 0 0), .null, .ref (ad 7 x)]) (n := 3) (Nat.le_of_ble_eq_true rfl)
  rw [lg_entry_eq]
  generalize (lg_sl ([.ref (ad 0 0), .null, .ref (ad 7 x)]) ++ List.replicate (3 - (lg_sl ([.ref (ad 0 0), .null, .ref (ad 7 x)])).length) Slot.unset).toArray = ls at hl ⊢
  have hl : lv_has ls 3 [(0, .ref (ad 0 0)), (1, .null), (2, .ref (ad 7 x))] := hl
  refine lv_aload_nN hx hb dX3_earlier_0 rfl (lv_at hl 1 rfl) ?_
  refine lv_ifnonnullN hx hb dX3_earlier_1 ?_
  refine lv_aload_n hx hb dX3_earlier_4 rfl (lv_at hl 2 rfl) ?_
  exact g_aret hx hb hr hlocks (Or.inr ⟨_, rfl⟩) dX3_earlier_5 rfl

set_option maxHeartbeats 4000000 in
set_option maxRecDepth 100000 in
/-- earlier(x, null) -/
theorem m_earlier_sn (l : Launch) (D : va_G) (cy : Nat → ClassId) (ad : NT) (τ : IT) (ν : NT) (x : Nat) : Met l yX3_earlier wsX3_earlier ({ frames := 2, cells := 0, slots := 0, locals := 60 } : Room) (va_Pc [.ref (ad 0 0), .ref (ad 7 x), .null] (fun U => gK D cy U ∧ (CW D cy ad τ ν) U.heap)) (rQ (some (.ref (ad 7 x)))) 0 0 (fun _ => False) := by
  refine Met.ofW (cc := cX3_earlier) (maxL := 3) (ret := (some (.object "Politecrawl$Page"))) (by decide) rfl ?_
  intro p e s m args below meth c s₁ B9 hml hv
  obtain ⟨rfl, hK, hB⟩ := hv
  have hx := B9.exec
  have hb := B9.bytes
  have hr := B9.returns
  have hts := atoms_spec (ws := wsX3_earlier) B9.pre
  have hown : s.vm.findClass RX3 = some m.cls := findClass_of_methodNamed B9.named
  have hlocks := B9.notSynchronized
  have hl := lv_entry ([.ref (ad 0 0), .ref (ad 7 x), .null]) (n := 3) (Nat.le_of_ble_eq_true rfl)
  rw [lg_entry_eq]
  generalize (lg_sl ([.ref (ad 0 0), .ref (ad 7 x), .null]) ++ List.replicate (3 - (lg_sl ([.ref (ad 0 0), .ref (ad 7 x), .null])).length) Slot.unset).toArray = ls at hl ⊢
  have hl : lv_has ls 3 [(0, .ref (ad 0 0)), (1, .ref (ad 7 x)), (2, .null)] := hl
  refine lv_aload_n hx hb dX3_earlier_0 rfl (lv_at hl 1 rfl) ?_
  refine lv_ifnonnull (tgt := 6) hx hb dX3_earlier_1 (by decide) ?_
  refine lv_aload_nN hx hb dX3_earlier_6 rfl (lv_at hl 2 rfl) ?_
  refine lv_ifnullN (tgt := 23) hx hb dX3_earlier_7 (by decide) ?_
  refine lv_aload_n hx hb dX3_earlier_23 rfl (lv_at hl 1 rfl) ?_
  exact g_aret hx hb hr hlocks (Or.inr ⟨_, rfl⟩) dX3_earlier_24 rfl

set_option maxHeartbeats 4000000 in
set_option maxRecDepth 100000 in
/-- earlier(x, y) -/
theorem m_earlier_ss (l : Launch) (D : va_G) (cy : Nat → ClassId) (ad : NT) (τ : IT) (ν : NT) (x y : Nat) (hx0 : x < ν 0 0) (hy0 : y < ν 0 0) : Met l yX3_earlier wsX3_earlier ({ frames := 2, cells := 0, slots := 0, locals := 60 } : Room) (va_Pc [.ref (ad 0 0), .ref (ad 7 x), .ref (ad 7 y)] (fun U => gK D cy U ∧ (CW D cy ad τ ν) U.heap)) (rQ (some (.ref (if befC τ y x = true then ad 7 y else ad 7 x)))) 0 0 (fun _ => False) := by
  refine Met.ofW (cc := cX3_earlier) (maxL := 3) (ret := (some (.object "Politecrawl$Page"))) (by decide) rfl ?_
  intro p e s m args below meth c s₁ B9 hml hv
  obtain ⟨rfl, hK, hB⟩ := hv
  have hx := B9.exec
  have hb := B9.bytes
  have hr := B9.returns
  have hts := atoms_spec (ws := wsX3_earlier) B9.pre
  have hown : s.vm.findClass RX3 = some m.cls := findClass_of_methodNamed B9.named
  have hlocks := B9.notSynchronized
  have hl := lv_entry ([.ref (ad 0 0), .ref (ad 7 x), .ref (ad 7 y)]) (n := 3) (Nat.le_of_ble_eq_true rfl)
  rw [lg_entry_eq]
  generalize (lg_sl ([.ref (ad 0 0), .ref (ad 7 x), .ref (ad 7 y)]) ++ List.replicate (3 - (lg_sl ([.ref (ad 0 0), .ref (ad 7 x), .ref (ad 7 y)])).length) Slot.unset).toArray = ls at hl ⊢
  have hl : lv_has ls 3 [(0, .ref (ad 0 0)), (1, .ref (ad 7 x)), (2, .ref (ad 7 y))] := hl
  refine lv_aload_n hx hb dX3_earlier_0 rfl (lv_at hl 1 rfl) ?_
  refine lv_ifnonnull (tgt := 6) hx hb dX3_earlier_1 (by decide) ?_
  refine lv_aload_n hx hb dX3_earlier_6 rfl (lv_at hl 2 rfl) ?_
  refine lv_ifnull hx hb dX3_earlier_7 ?_
  refine lv_aload_n hx hb dX3_earlier_10 rfl (lv_at hl 0 rfl) ?_
  refine lv_aload_n hx hb dX3_earlier_11 rfl (lv_at hl 2 rfl) ?_
  refine lv_aload_n hx hb dX3_earlier_12 rfl (lv_at hl 1 rfl) ?_
  refine g_csr (va_runV (As := [.ref (ad 7 y), .ref (ad 7 x)]) (rest := []) ⟨hx, hb, hml, hown, hts⟩ (m_X3_goesBefore l D cy ad τ ν y x hy0 hx0) (cwV 2 hts gX3_earlier_X3_goesBefore rfl rfl rfl (by decide +kernel) ⟨Nat.le_of_ble_eq_true rfl, Nat.le_of_ble_eq_true rfl⟩) (g_preV (C := RX3) (B := (CW D cy ad τ ν)) hK hB (hB 0 0 Nat.zero_lt_one) rfl) rfl rfl hl.1 rfl (lv_room (Nat.le_of_ble_eq_true rfl)) dX3_earlier_13 ⟨Nat.zero_le _, Nat.zero_le _⟩) ?_
  refine lv_if_eq (tgt := 23) hx hb dX3_earlier_16 (by decide) (fun c_16 => ?_) (fun c_16 => ?_)
  · -- 16 t
    refine lv_aload_n hx hb dX3_earlier_23 rfl (lv_at hl 1 rfl) ?_
    exact g_aret hx hb hr hlocks (Or.inr ⟨_, rfl⟩) dX3_earlier_24 (by rw [if_neg (fun z => by rw [zb_0.mp c_16] at z; cases z)])
  · -- 16 f
    refine lv_aload_n hx hb dX3_earlier_19 rfl (lv_at hl 2 rfl) ?_
    refine lv_goto (tgt := 24) hx hb dX3_earlier_20 (by decide) ?_
    exact g_aret hx hb hr hlocks (Or.inr ⟨_, rfl⟩) dX3_earlier_24 (by rw [if_pos (zb_n0.mp c_16)])


/-- earlier: of two pages, or none, the one that is visited first -/
theorem m_X3_earlier (l : Launch) (D : va_G) (cy : Nat → ClassId) (ad : NT) (τ : IT) (ν : NT) (x y : Option Nat) (hx0 : ∀ a, x = some a → a < ν 0 0) (hy0 : ∀ a, y = some a → a < ν 0 0) : Met l yX3_earlier wsX3_earlier ({ frames := 2, cells := 0, slots := 0, locals := 60 } : Room) (va_Pc [.ref (ad 0 0), va_rf (x.map (ad 7)), va_rf (y.map (ad 7))] (fun U => gK D cy U ∧ (CW D cy ad τ ν) U.heap)) (rQ (some (va_rf ((earl τ x y).map (ad 7))))) 0 0 (fun _ => False) := by
  cases x with
  | none =>
    cases y with
    | none => exact m_earlier_nn l D cy ad τ ν
    | some b => exact m_earlier_ns l D cy ad τ ν b
  | some a =>
    cases y with
    | none => exact m_earlier_sn l D cy ad τ ν a
    | some b =>
      have h := m_earlier_ss l D cy ad τ ν a b (hx0 a rfl) (hy0 b rfl)
      have e : (some (Value.ref (if befC τ b a = true then ad 7 b else ad 7 a)) : Option Value) = some (va_rf ((earl τ (some a) (some b)).map (ad 7))) := by
        rw [earl]
        by_cases q : befC τ b a = true
        · rw [if_pos q, if_pos q]; rfl
        · rw [if_neg q, if_neg q]; rfl
      rw [e] at h
      exact h
theorem va_cat (r : Option Nat) : (va_rf r).category = 1 := by cases r <;> rfl
theorem earl_lt {τ : IT} {x y : Option Nat} {n : Nat} (hx : ∀ a, x = some a → a < n) (hy : ∀ a, y = some a → a < n) : ∀ a, earl τ x y = some a → a < n := by
  intro a h
  cases x with
  | none => exact hy a h
  | some b =>
    cases y with
    | none => exact hx a h
    | some c =>
      rw [earl] at h
      by_cases q : befC τ c b = true
      · rw [if_pos q] at h; exact hy a h
      · rw [if_neg q] at h; exact hx a h
theorem some_lt {i n : Nat} (h : i < n) : ∀ a, some i = some a → a < n := fun a e => by cases e; exact h

set_option maxHeartbeats 4000000 in
set_option maxRecDepth 100000 in
/-- numberOf(null) -/
theorem m_numberOf_n (l : Launch) (D : va_G) (cy : Nat → ClassId) (ad : NT) (τ : IT) (ν : NT) : Met l yX3_numberOf wsX3_numberOf ({ frames := 0, cells := 0, slots := 0, locals := 0 } : Room) (va_Pc [.null] (fun U => gK D cy U ∧ (CW D cy ad τ ν) U.heap)) (rQ (some (.int (-1)))) 0 0 (fun _ => False) := by
  refine Met.ofW (cc := cX3_numberOf) (maxL := 1) (ret := (some .int)) (by decide) rfl ?_
  intro p e s m args below meth c s₁ B9 hml hv
  obtain ⟨rfl, hK, hB⟩ := hv
  have hx := B9.exec
  have hb := B9.bytes
  have hr := B9.returns
  have hts := atoms_spec (ws := wsX3_numberOf) B9.pre
  have hown : s.vm.findClass RX3 = some m.cls := findClass_of_methodNamed B9.named
  have hlocks := B9.notSynchronized
  have lk100 := hts (.fieldLink RX3 100 "Politecrawl$Page" "number" "I") (by decide +kernel)
  have inX2 : ∀ w ∈ u_ws RX2 TX2 10, w ∈ wsX3_numberOf := by decide +kernel
  have hl := lv_entry ([.null]) (n := 1) (Nat.le_of_ble_eq_true rfl)
  rw [lg_entry_eq]
  generalize (lg_sl ([.null]) ++ List.replicate (1 - (lg_sl ([.null])).length) Slot.unset).toArray = ls at hl ⊢
  have hl : lv_has ls 1 [(0, .null)] := hl
  refine lv_aload_nN hx hb dX3_numberOf_0 rfl (lv_at hl 0 rfl) ?_
  refine lv_ifnonnullN hx hb dX3_numberOf_1 ?_
  refine lv_iconst (v := (-1)) hx hb dX3_numberOf_4 (by decide) ?_
  refine lv_goto (tgt := 12) hx hb dX3_numberOf_5 (by decide) ?_
  exact g_iret hx hb hr hlocks dX3_numberOf_12 rfl

set_option maxHeartbeats 4000000 in
set_option maxRecDepth 100000 in
/-- numberOf(x) -/
theorem m_numberOf_s (l : Launch) (D : va_G) (cy : Nat → ClassId) (ad : NT) (τ : IT) (ν : NT) (x : Nat) (hx0 : x < ν 0 0) : Met l yX3_numberOf wsX3_numberOf ({ frames := 0, cells := 0, slots := 0, locals := 0 } : Room) (va_Pc [.ref (ad 7 x)] (fun U => gK D cy U ∧ (CW D cy ad τ ν) U.heap)) (rQ (some (.int (nI x)))) 0 0 (fun _ => False) := by
  refine Met.ofW (cc := cX3_numberOf) (maxL := 1) (ret := (some .int)) (by decide) rfl ?_
  intro p e s m args below meth c s₁ B9 hml hv
  obtain ⟨rfl, hK, hB⟩ := hv
  have hx := B9.exec
  have hb := B9.bytes
  have hr := B9.returns
  have hts := atoms_spec (ws := wsX3_numberOf) B9.pre
  have hown : s.vm.findClass RX3 = some m.cls := findClass_of_methodNamed B9.named
  have hlocks := B9.notSynchronized
  have lk100 := hts (.fieldLink RX3 100 "Politecrawl$Page" "number" "I") (by decide +kernel)
  have inX2 : ∀ w ∈ u_ws RX2 TX2 10, w ∈ wsX3_numberOf := by decide +kernel
  have hl := lv_entry ([.ref (ad 7 x)]) (n := 1) (Nat.le_of_ble_eq_true rfl)
  rw [lg_entry_eq]
  generalize (lg_sl ([.ref (ad 7 x)]) ++ List.replicate (1 - (lg_sl ([.ref (ad 7 x)])).length) Slot.unset).toArray = ls at hl ⊢
  have hl : lv_has ls 1 [(0, .ref (ad 7 x))] := hl
  refine lv_aload_n hx hb dX3_numberOf_0 rfl (lv_at hl 0 rfl) ?_
  refine lv_ifnonnull (tgt := 8) hx hb dX3_numberOf_1 (by decide) ?_
  refine lv_aload_n hx hb dX3_numberOf_8 rfl (lv_at hl 0 rfl) ?_
  refine g_get (C := RX2) (T := TX2) (N := 10) (ci := 2) (fs := [.int (nI x), .ref (ad 6 (ν 5 x)), .ref (ad 8 x), .int (τ 15 x), .int (τ 10 x), .int (τ 11 x), .int (τ 12 x), .int (τ 13 x), .int (τ 14 x), .int (τ 25 x)]) hx hb hts inX2 hown hK (hB 7 x hx0) rfl 0 (by decide) lk100 rfl rfl dX3_numberOf_9 ?_
  exact g_iret hx hb hr hlocks dX3_numberOf_12 rfl


theorem m_X3_numberOf (l : Launch) (D : va_G) (cy : Nat → ClassId) (ad : NT) (τ : IT) (ν : NT) (x : Option Nat) (hx0 : ∀ a, x = some a → a < ν 0 0) : Met l yX3_numberOf wsX3_numberOf ({ frames := 0, cells := 0, slots := 0, locals := 0 } : Room) (va_Pc [va_rf (x.map (ad 7))] (fun U => gK D cy U ∧ (CW D cy ad τ ν) U.heap)) (rQ (some (.int (numO x)))) 0 0 (fun _ => False) := by
  cases x with
  | none => exact m_numberOf_n l D cy ad τ ν
  | some a => exact m_numberOf_s l D cy ad τ ν a (hx0 a rfl)

set_option maxHeartbeats 4000000 in
set_option maxRecDepth 100000 in
/-- dividedUp(x, y) -/
theorem m_X3_dividedUp (l : Launch) (D : va_G) (cy : Nat → ClassId) (x y : Int32) : Met l yX3_dividedUp wsX3_dividedUp ({ frames := 0, cells := 0, slots := 0, locals := 0 } : Room) (va_Pc [.int x, .int y] (fun U => gK D cy U ∧ (fun _ => True) U.heap)) (rQ (some (.int (divUp x y)))) 0 0 (fun _ => False) := by
  refine Met.ofW (cc := cX3_dividedUp) (maxL := 2) (ret := (some .int)) (by decide) rfl ?_
  intro p e s m args below meth c s₁ B9 hml hv
  obtain ⟨rfl, hK, hB⟩ := hv
  have hx := B9.exec
  have hb := B9.bytes
  have hr := B9.returns
  have hts := atoms_spec (ws := wsX3_dividedUp) B9.pre
  have hown : s.vm.findClass RX3 = some m.cls := findClass_of_methodNamed B9.named
  have hlocks := B9.notSynchronized
  have hl := lv_entry ([.int x, .int y]) (n := 2) (Nat.le_of_ble_eq_true rfl)
  rw [lg_entry_eq]
  generalize (lg_sl ([.int x, .int y]) ++ List.replicate (2 - (lg_sl ([.int x, .int y])).length) Slot.unset).toArray = ls at hl ⊢
  have hl : lv_has ls 2 [(0, .int x), (1, .int y)] := hl
  refine lv_iload_n hx hb dX3_dividedUp_0 rfl (lv_at hl 1 rfl) ?_
  refine lv_iconst (v := 1) hx hb dX3_dividedUp_1 (by decide) ?_
  refine lv_icmp_ge (tgt := 9) hx hb dX3_dividedUp_2 (by decide) (fun c_2 => ?_) (fun c_2 => ?_)
  · -- 2 t
    refine lv_iload_n hx hb dX3_dividedUp_9 rfl (lv_at hl 0 rfl) ?_
    refine lv_iload_n hx hb dX3_dividedUp_10 rfl (lv_at hl 1 rfl) ?_
    refine lv_iadd hx hb dX3_dividedUp_11 ?_
    refine lv_iconst (v := 1) hx hb dX3_dividedUp_12 (by decide) ?_
    refine lv_isub hx hb dX3_dividedUp_13 ?_
    refine lv_iload_n hx hb dX3_dividedUp_14 rfl (lv_at hl 1 rfl) ?_
    refine lv_idiv hx hb dX3_dividedUp_15 (fun q => absurd c_2 (by rw [q]; decide)) ?_
    exact g_iret hx hb hr hlocks dX3_dividedUp_16 (by rw [divUp, if_pos c_2])
  · -- 2 f
    refine lv_iload_n hx hb dX3_dividedUp_5 rfl (lv_at hl 0 rfl) ?_
    refine lv_goto (tgt := 16) hx hb dX3_dividedUp_6 (by decide) ?_
    exact g_iret hx hb hr hlocks dX3_dividedUp_16 (by rw [divUp, if_neg c_2])

set_option maxHeartbeats 4000000 in
set_option maxRecDepth 100000 in
/-- nextByScan -/
theorem m_X3_nextByScan (l : Launch) (D : va_G) (cy : Nat → ClassId) (ad : NT) (τ : IT) (ν : NT) (hI : CI τ ν) : Met l yX3_nextByScan wsX3_nextByScan ({ frames := 4, cells := 0, slots := 0, locals := 95 } : Room) (va_Pc [.ref (ad 0 0)] (fun U => gK D cy U ∧ (CW D cy ad τ ν) U.heap)) (rQ (some (.int (numO (scanL τ ν 30 0 none))))) 0 0 (fun _ => False) := by
  refine Met.ofW (cc := cX3_nextByScan) (maxL := 6) (ret := (some .int)) (by decide) rfl ?_
  intro p e s m args below meth c s₁ B9 hml hv
  obtain ⟨rfl, hK, hB⟩ := hv
  have hx := B9.exec
  have hb := B9.bytes
  have hr := B9.returns
  have hts := atoms_spec (ws := wsX3_nextByScan) B9.pre
  have hown : s.vm.findClass RX3 = some m.cls := findClass_of_methodNamed B9.named
  have hlocks := B9.notSynchronized
  have lk25 := hts (.fieldLink RX3 25 "Politecrawl" "found" "[LPolitecrawl$Page;") (by decide +kernel)
  have inX3 : ∀ w ∈ u_ws RX3 TX3 9, w ∈ wsX3_nextByScan := by decide +kernel
  have hl := lv_entry ([.ref (ad 0 0)]) (n := 6) (Nat.le_of_ble_eq_true rfl)
  rw [lg_entry_eq]
  generalize (lg_sl ([.ref (ad 0 0)]) ++ List.replicate (6 - (lg_sl ([.ref (ad 0 0)])).length) Slot.unset).toArray = ls at hl ⊢
  have hl : lv_has ls 6 [(0, .ref (ad 0 0))] := hl
  obtain ⟨V, hV⟩ : ∃ V, V = numO (scanL τ ν (30 - 0) 0 none) := ⟨_, rfl⟩
  have hV0 : numO (scanL τ ν 30 0 none) = V := hV.symm
  rw [hV0]
  refine lv_null hx hb dX3_nextByScan_0 ?_
  refine lv_astore_nN (lv' := [(1, .null), (0, .ref (ad 0 0))]) hx hb dX3_nextByScan_1 rfl hl (by decide) rfl (fun ls hl => ?_)
  refine lv_aload_n hx hb dX3_nextByScan_2 rfl (lv_at hl 1 rfl) ?_
  refine g_get (C := RX3) (T := TX3) (N := 9) (ci := 3) (fs := [.ref (ad 1 0), .ref (ad 2 0), .ref (ad 3 0), .int (nI (ν 0 0)), .int (τ 0 0), .int (τ 1 0), .int (τ 2 0), .int (τ 3 0), .int (τ 20 0)]) hx hb hts inX3 hown hK (hB 0 0 Nat.zero_lt_one) rfl 2 (by decide) lk25 rfl rfl dX3_nextByScan_3 ?_
  refine lv_astore_n (lv' := [(2, .ref (ad 3 0)), (1, .null), (0, .ref (ad 0 0))]) hx hb dX3_nextByScan_6 rfl hl (by decide) rfl (fun ls hl => ?_)
  refine lv_aload_n hx hb dX3_nextByScan_7 rfl (lv_at hl 0 rfl) ?_
  refine g_alen (v := 30) hx hb hK 4 (hB 3 0 Nat.zero_lt_one) rfl rfl dX3_nextByScan_8 ?_
  refine lv_istore_n (lv' := [(3, .int 30), (2, .ref (ad 3 0)), (1, .null), (0, .ref (ad 0 0))]) hx hb dX3_nextByScan_9 rfl hl (by decide) rfl (fun ls hl => ?_)
  refine lv_iconst (v := 0) hx hb dX3_nextByScan_10 (by decide) ?_
  refine lv_topi (fun y1 ey1 => ?_)
  obtain rfl : y1 = nI 0 := ey1.trans (nI_0.symm)
  refine lv_istore (lv' := [(4, .int (nI 0)), (3, .int 30), (2, .ref (ad 3 0)), (1, .null), (0, .ref (ad 0 0))]) hx hb dX3_nextByScan_11 hl (by decide) rfl (fun ls hl => ?_)
  have loop : ∀ (k : Nat) (i : Nat) (f : Option Nat) (ls : Array Slot), i ≤ 30 → (∀ a, f = some a → a < ν 0 0) → 30 < i + k → V = numO (scanL τ ν (30 - i) i f) → lv_has ls 6 [(0, .ref (ad 0 0)), (1, va_rf (f.map (ad 7))), (2, .ref (ad 3 0)), (3, .int 30), (4, .int (nI i))] → W p l e (headSpec wsX3_nextByScan ({ frames := 4, cells := 0, slots := 0, locals := 95 } : Room)).room s m ([.ref (ad 0 0)] : List Value).toArray below meth c s.heap [] 0 0 (MQ below (rQ (some (.int V))) ([.ref (ad 0 0)] : List Value).toArray s 0 0 (fun _ => False)) (F0 m 13 ls []) := by
    intro k
    induction k with
    | zero => intro i f ls hi hf hk hV hl; exfalso; omega
    | succ k loop_ih =>
      intro i f ls hi hf hk hV hl
      refine lv_iload hx hb dX3_nextByScan_13 (lv_at hl 4 rfl) ?_
      refine lv_iload_n hx hb dX3_nextByScan_15 rfl (lv_at hl 3 rfl) ?_
      refine lv_icmp_ge (tgt := 53) hx hb dX3_nextByScan_16 (by decide) (fun c_16 => ?_) (fun c_16 => ?_)
      · -- 16 t
        have hle : 30 ≤ i := (nI_leI (a := 30) (by decide) (by omega)).mp c_16
        rw [show 30 - i = 0 by omega, scanL] at hV
        refine g_aload_n hx hb (va_rf_or _) dX3_nextByScan_53 rfl (lv_at hl 1 rfl) ?_
        refine g_csr (va_runS (As := [va_rf (f.map (ad 7))]) (rest := []) ⟨hx, hb, hml, hown, hts⟩ (m_X3_numberOf l D cy ad τ ν f hf) (va_cwS 1 hts gX3_nextByScan_X3_numberOf rfl rfl rfl (by decide +kernel) ⟨Nat.le_of_ble_eq_true rfl, Nat.le_of_ble_eq_true rfl⟩) (g_preS (B := (CW D cy ad τ ν)) hK hB) rfl rfl hl.1 rfl (lv_room (Nat.le_of_ble_eq_true rfl)) dX3_nextByScan_54 ⟨Nat.zero_le _, Nat.zero_le _⟩) ?_
        exact g_iret hx hb hr hlocks dX3_nextByScan_57 hV.symm
      · -- 16 f
        have hlt : i < 30 := Nat.not_le.mp fun q => c_16 ((nI_leI (a := 30) (by decide) (by omega)).mpr q)
        obtain ⟨j, hj⟩ : ∃ j, 30 - i = j + 1 := ⟨30 - i - 1, by omega⟩
        have hj2 : 30 - (i + 1) = j := by omega
        rw [hj, scanL] at hV
        refine lv_aload_n hx hb dX3_nextByScan_19 rfl (lv_at hl 2 rfl) ?_
        refine lv_iload hx hb dX3_nextByScan_20 (lv_at hl 4 rfl) ?_
        refine g_pald (f := fun j => if j < ν 0 0 then some (ad 7 j) else none) (v := va_rf (if i < ν 0 0 then some (ad 7 i) else none)) hx hb hK (hB 3 0 Nat.zero_lt_one) (vp_in_nI hlt (by decide)) (by rw [cl_nI (by omega)]) dX3_nextByScan_22 ?_
        by_cases hp9 : i < ν 0 0
        · -- page t
          refine g_top (v' := .ref (ad 7 i)) (by rw [if_pos hp9]; rfl) ?_
          refine lv_astore (lv' := [(5, .ref (ad 7 i)), (0, .ref (ad 0 0)), (1, va_rf (f.map (ad 7))), (2, .ref (ad 3 0)), (3, .int 30), (4, .int (nI i))]) hx hb dX3_nextByScan_23 hl (by decide) rfl (fun ls hl => ?_)
          refine lv_aload hx hb dX3_nextByScan_25 (lv_at hl 0 rfl) ?_
          refine lv_ifnull hx hb dX3_nextByScan_27 ?_
          refine lv_aload_n hx hb dX3_nextByScan_30 rfl (lv_at hl 1 rfl) ?_
          refine lv_aload hx hb dX3_nextByScan_31 (lv_at hl 0 rfl) ?_
          refine g_csr (va_runV (As := [.ref (ad 7 i)]) (rest := []) ⟨hx, hb, hml, hown, hts⟩ (m_X3_isReady l D cy ad τ ν hI i hp9) (cwV 1 hts gX3_nextByScan_X3_isReady rfl rfl rfl (by decide +kernel) ⟨Nat.le_of_ble_eq_true rfl, Nat.le_of_ble_eq_true rfl⟩) (g_preV (C := RX3) (B := (CW D cy ad τ ν)) hK hB (hB 0 0 Nat.zero_lt_one) rfl) rfl rfl hl.1 rfl (lv_room (Nat.le_of_ble_eq_true rfl)) dX3_nextByScan_33 ⟨Nat.zero_le _, Nat.zero_le _⟩) ?_
          refine lv_if_eq (tgt := 47) hx hb dX3_nextByScan_36 (by decide) (fun c_36 => ?_) (fun c_36 => ?_)
          · -- 36 t
            rw [if_neg (fun q => by rw [zb_0.mp c_36] at q; cases q.2)] at hV
            refine lv_iinc (v := nI (i + 1)) (lv' := [(4, .int (nI (i + 1))), (5, .ref (ad 7 i)), (0, .ref (ad 0 0)), (1, va_rf (f.map (ad 7))), (2, .ref (ad 3 0)), (3, .int 30)]) hx hb dX3_nextByScan_47 hl (k := 5) rfl (nI_1 i) (by decide) rfl (fun ls hl => ?_)
            refine lv_goto (tgt := 13) hx hb dX3_nextByScan_50 (by decide) ?_
            exact loop_ih (i + 1) f ls (by omega) hf (by omega) (by rw [hj2]; exact hV) (lv_sub hl [2, 3, 4, 5, 0] rfl)
          · -- 36 f
            refine lv_aload_n hx hb dX3_nextByScan_39 rfl (lv_at hl 1 rfl) ?_
            refine g_aload_n hx hb (va_rf_or _) dX3_nextByScan_40 rfl (lv_at hl 2 rfl) ?_
            refine lv_aload hx hb dX3_nextByScan_41 (lv_at hl 0 rfl) ?_
            refine g_csr (va_runV (As := [va_rf (f.map (ad 7)), .ref (ad 7 i)]) (rest := []) ⟨hx, hb, hml, hown, hts⟩ (m_X3_earlier l D cy ad τ ν f (some i) hf (some_lt hp9)) (cwV 2 hts gX3_nextByScan_X3_earlier rfl rfl rfl (by decide +kernel) ⟨Nat.le_of_ble_eq_true rfl, Nat.le_of_ble_eq_true rfl⟩) (g_preV (C := RX3) (B := (CW D cy ad τ ν)) hK hB (hB 0 0 Nat.zero_lt_one) rfl) rfl rfl hl.1 rfl (lv_room (Nat.le_of_ble_eq_true rfl)) dX3_nextByScan_43 ⟨Nat.zero_le _, Nat.zero_le _⟩) ?_
            refine g_astore_n (lv' := [(1, va_rf ((earl τ f (some i)).map (ad 7))), (5, .ref (ad 7 i)), (0, .ref (ad 0 0)), (2, .ref (ad 3 0)), (3, .int 30), (4, .int (nI i))]) hx hb (va_rf_or _) dX3_nextByScan_46 rfl hl (by decide) rfl (fun ls hl => ?_)
            rw [if_pos ⟨hp9, zb_n0.mp c_36⟩] at hV
            refine lv_iinc (v := nI (i + 1)) (lv' := [(4, .int (nI (i + 1))), (1, va_rf ((earl τ f (some i)).map (ad 7))), (5, .ref (ad 7 i)), (0, .ref (ad 0 0)), (2, .ref (ad 3 0)), (3, .int 30)]) hx hb dX3_nextByScan_47 hl (k := 5) rfl (nI_1 i) (by decide) rfl (fun ls hl => ?_)
            refine lv_goto (tgt := 13) hx hb dX3_nextByScan_50 (by decide) ?_
            exact loop_ih (i + 1) (earl τ f (some i)) ls (by omega) (earl_lt hf (some_lt hp9)) (by omega) (by rw [hj2]; exact hV) (lv_sub hl [3, 1, 4, 5, 0] rfl)
        · -- page f
          refine g_top (v' := .null) (by rw [if_neg hp9]; rfl) ?_
          refine lv_astoreN (lv' := [(5, .null), (0, .ref (ad 0 0)), (1, va_rf (f.map (ad 7))), (2, .ref (ad 3 0)), (3, .int 30), (4, .int (nI i))]) hx hb dX3_nextByScan_23 hl (by decide) rfl (fun ls hl => ?_)
          refine lv_aloadN hx hb dX3_nextByScan_25 (lv_at hl 0 rfl) ?_
          refine lv_ifnullN (tgt := 47) hx hb dX3_nextByScan_27 (by decide) ?_
          rw [if_neg (fun q => hp9 q.1)] at hV
          refine lv_iinc (v := nI (i + 1)) (lv' := [(4, .int (nI (i + 1))), (5, .null), (0, .ref (ad 0 0)), (1, va_rf (f.map (ad 7))), (2, .ref (ad 3 0)), (3, .int 30)]) hx hb dX3_nextByScan_47 hl (k := 5) rfl (nI_1 i) (by decide) rfl (fun ls hl => ?_)
          refine lv_goto (tgt := 13) hx hb dX3_nextByScan_50 (by decide) ?_
          exact loop_ih (i + 1) f ls (by omega) hf (by omega) (by rw [hj2]; exact hV) (lv_sub hl [2, 3, 4, 5, 0] rfl)
  exact loop (30 + 1) 0 none ls (Nat.zero_le _) (fun _ h => nomatch h) (by omega) hV (lv_sub hl [4, 3, 2, 1, 0] rfl)

set_option maxHeartbeats 4000000 in
set_option maxRecDepth 100000 in
/-- firstOfHost -/
theorem m_X3_firstOfHost (l : Launch) (D : va_G) (cy : Nat → ClassId) (ad : NT) (τ : IT) (ν : NT) (hI : CI τ ν) (hJ : wJ (cC (ν 0 0)) ad) (h : Nat) (hh : h < 6) : Met l yX3_firstOfHost wsX3_firstOfHost ({ frames := 4, cells := 0, slots := 0, locals := 95 } : Room) (va_Pc [.ref (ad 0 0), .ref (ad 6 h)] (fun U => gK D cy U ∧ (CW D cy ad τ ν) U.heap)) (rQ (some (va_rf ((fohL τ ν h 30 0 none).map (ad 7))))) 0 0 (fun _ => False) := by
  refine Met.ofW (cc := cX3_firstOfHost) (maxL := 7) (ret := (some (.object "Politecrawl$Page"))) (by decide) rfl ?_
  intro p e s m args below meth c s₁ B9 hml hv
  obtain ⟨rfl, hK, hB⟩ := hv
  have hx := B9.exec
  have hb := B9.bytes
  have hr := B9.returns
  have hts := atoms_spec (ws := wsX3_firstOfHost) B9.pre
  have hown : s.vm.findClass RX3 = some m.cls := findClass_of_methodNamed B9.named
  have hlocks := B9.notSynchronized
  have lk25 := hts (.fieldLink RX3 25 "Politecrawl" "found" "[LPolitecrawl$Page;") (by decide +kernel)
  have inX3 : ∀ w ∈ u_ws RX3 TX3 9, w ∈ wsX3_firstOfHost := by decide +kernel
  have lk162 := hts (.fieldLink RX3 162 "Politecrawl$Page" "host" "LPolitecrawl$Host;") (by decide +kernel)
  have inX2 : ∀ w ∈ u_ws RX2 TX2 10, w ∈ wsX3_firstOfHost := by decide +kernel
  have hl := lv_entry ([.ref (ad 0 0), .ref (ad 6 h)]) (n := 7) (Nat.le_of_ble_eq_true rfl)
  rw [lg_entry_eq]
  generalize (lg_sl ([.ref (ad 0 0), .ref (ad 6 h)]) ++ List.replicate (7 - (lg_sl ([.ref (ad 0 0), .ref (ad 6 h)])).length) Slot.unset).toArray = ls at hl ⊢
  have hl : lv_has ls 7 [(0, .ref (ad 0 0)), (1, .ref (ad 6 h))] := hl
  obtain ⟨V, hV⟩ : ∃ V, V = va_rf ((fohL τ ν h (30 - 0) 0 none).map (ad 7)) := ⟨_, rfl⟩
  have hV0 : va_rf ((fohL τ ν h 30 0 none).map (ad 7)) = V := hV.symm
  rw [hV0]
  refine lv_null hx hb dX3_firstOfHost_0 ?_
  refine lv_astore_nN (lv' := [(2, .null), (0, .ref (ad 0 0)), (1, .ref (ad 6 h))]) hx hb dX3_firstOfHost_1 rfl hl (by decide) rfl (fun ls hl => ?_)
  refine lv_aload_n hx hb dX3_firstOfHost_2 rfl (lv_at hl 1 rfl) ?_
  refine g_get (C := RX3) (T := TX3) (N := 9) (ci := 3) (fs := [.ref (ad 1 0), .ref (ad 2 0), .ref (ad 3 0), .int (nI (ν 0 0)), .int (τ 0 0), .int (τ 1 0), .int (τ 2 0), .int (τ 3 0), .int (τ 20 0)]) hx hb hts inX3 hown hK (hB 0 0 Nat.zero_lt_one) rfl 2 (by decide) lk25 rfl rfl dX3_firstOfHost_3 ?_
  refine lv_astore_n (lv' := [(3, .ref (ad 3 0)), (2, .null), (0, .ref (ad 0 0)), (1, .ref (ad 6 h))]) hx hb dX3_firstOfHost_6 rfl hl (by decide) rfl (fun ls hl => ?_)
  refine lv_aload_n hx hb dX3_firstOfHost_7 rfl (lv_at hl 0 rfl) ?_
  refine g_alen (v := 30) hx hb hK 4 (hB 3 0 Nat.zero_lt_one) rfl rfl dX3_firstOfHost_8 ?_
  refine lv_istore (lv' := [(4, .int 30), (3, .ref (ad 3 0)), (2, .null), (0, .ref (ad 0 0)), (1, .ref (ad 6 h))]) hx hb dX3_firstOfHost_9 hl (by decide) rfl (fun ls hl => ?_)
  refine lv_iconst (v := 0) hx hb dX3_firstOfHost_11 (by decide) ?_
  refine lv_topi (fun y1 ey1 => ?_)
  obtain rfl : y1 = nI 0 := ey1.trans (nI_0.symm)
  refine lv_istore (lv' := [(5, .int (nI 0)), (4, .int 30), (3, .ref (ad 3 0)), (2, .null), (0, .ref (ad 0 0)), (1, .ref (ad 6 h))]) hx hb dX3_firstOfHost_12 hl (by decide) rfl (fun ls hl => ?_)
  have loop : ∀ (k : Nat) (i : Nat) (f : Option Nat) (ls : Array Slot), i ≤ 30 → (∀ a, f = some a → a < ν 0 0) → 30 < i + k → V = va_rf ((fohL τ ν h (30 - i) i f).map (ad 7)) → lv_has ls 7 [(0, .ref (ad 0 0)), (1, .ref (ad 6 h)), (2, va_rf (f.map (ad 7))), (3, .ref (ad 3 0)), (4, .int 30), (5, .int (nI i))] → W p l e (headSpec wsX3_firstOfHost ({ frames := 4, cells := 0, slots := 0, locals := 95 } : Room)).room s m ([.ref (ad 0 0), .ref (ad 6 h)] : List Value).toArray below meth c s.heap [] 0 0 (MQ below (rQ (some (V))) ([.ref (ad 0 0), .ref (ad 6 h)] : List Value).toArray s 0 0 (fun _ => False)) (F0 m 14 ls []) := by
    intro k
    induction k with
    | zero => intro i f ls hi hf hk hV hl; exfalso; omega
    | succ k loop_ih =>
      intro i f ls hi hf hk hV hl
      refine lv_iload hx hb dX3_firstOfHost_14 (lv_at hl 5 rfl) ?_
      refine lv_iload hx hb dX3_firstOfHost_16 (lv_at hl 4 rfl) ?_
      refine lv_icmp_ge (tgt := 64) hx hb dX3_firstOfHost_18 (by decide) (fun c_18 => ?_) (fun c_18 => ?_)
      · -- 18 t
        have hle : 30 ≤ i := (nI_leI (a := 30) (by decide) (by omega)).mp c_18
        rw [show 30 - i = 0 by omega, fohL] at hV
        refine g_aload_n hx hb (va_rf_or _) dX3_firstOfHost_64 rfl (lv_at hl 2 rfl) ?_
        exact g_aret hx hb hr hlocks (va_rf_or _) dX3_firstOfHost_65 hV.symm
      · -- 18 f
        have hlt : i < 30 := Nat.not_le.mp fun q => c_18 ((nI_leI (a := 30) (by decide) (by omega)).mpr q)
        obtain ⟨j, hj⟩ : ∃ j, 30 - i = j + 1 := ⟨30 - i - 1, by omega⟩
        have hj2 : 30 - (i + 1) = j := by omega
        rw [hj, fohL] at hV
        refine lv_aload_n hx hb dX3_firstOfHost_21 rfl (lv_at hl 3 rfl) ?_
        refine lv_iload hx hb dX3_firstOfHost_22 (lv_at hl 5 rfl) ?_
        refine g_pald (f := fun j => if j < ν 0 0 then some (ad 7 j) else none) (v := va_rf (if i < ν 0 0 then some (ad 7 i) else none)) hx hb hK (hB 3 0 Nat.zero_lt_one) (vp_in_nI hlt (by decide)) (by rw [cl_nI (by omega)]) dX3_firstOfHost_24 ?_
        by_cases hp9 : i < ν 0 0
        · -- page t
          refine g_top (v' := .ref (ad 7 i)) (by rw [if_pos hp9]; rfl) ?_
          refine lv_astore (lv' := [(6, .ref (ad 7 i)), (0, .ref (ad 0 0)), (1, .ref (ad 6 h)), (2, va_rf (f.map (ad 7))), (3, .ref (ad 3 0)), (4, .int 30), (5, .int (nI i))]) hx hb dX3_firstOfHost_25 hl (by decide) rfl (fun ls hl => ?_)
          refine lv_aload hx hb dX3_firstOfHost_27 (lv_at hl 0 rfl) ?_
          refine lv_ifnull hx hb dX3_firstOfHost_29 ?_
          refine lv_aload hx hb dX3_firstOfHost_32 (lv_at hl 0 rfl) ?_
          refine g_get (C := RX2) (T := TX2) (N := 10) (ci := 2) (fs := [.int (nI i), .ref (ad 6 (ν 5 i)), .ref (ad 8 i), .int (τ 15 i), .int (τ 10 i), .int (τ 11 i), .int (τ 12 i), .int (τ 13 i), .int (τ 14 i), .int (τ 25 i)]) hx hb hts inX2 hown hK (hB 7 i hp9) rfl 1 (by decide) lk162 rfl rfl dX3_firstOfHost_34 ?_
          refine lv_aload_n hx hb dX3_firstOfHost_37 rfl (lv_at hl 2 rfl) ?_
          refine lv_acmp_ne (rx := (some (ad 6 (ν 5 i)))) (ry := (some (ad 6 h))) (tgt := 58) hx hb dX3_firstOfHost_38 (by decide) (fun c_38 => ?_) (fun c_38 => ?_)
          · -- 38 t
            rw [if_neg (fun q => c_38 (by rw [q.2.1]))] at hV
            refine lv_iinc (v := nI (i + 1)) (lv' := [(5, .int (nI (i + 1))), (6, .ref (ad 7 i)), (0, .ref (ad 0 0)), (1, .ref (ad 6 h)), (2, va_rf (f.map (ad 7))), (3, .ref (ad 3 0)), (4, .int 30)]) hx hb dX3_firstOfHost_58 hl (k := 6) rfl (nI_1 i) (by decide) rfl (fun ls hl => ?_)
            refine lv_goto (tgt := 14) hx hb dX3_firstOfHost_61 (by decide) ?_
            exact loop_ih (i + 1) f ls (by omega) hf (by omega) (by rw [hj2]; exact hV) (lv_sub hl [2, 3, 4, 5, 6, 0] rfl)
          · -- 38 f
            refine lv_aload_n hx hb dX3_firstOfHost_41 rfl (lv_at hl 1 rfl) ?_
            refine lv_aload hx hb dX3_firstOfHost_42 (lv_at hl 0 rfl) ?_
            refine g_csr (va_runV (As := [.ref (ad 7 i)]) (rest := []) ⟨hx, hb, hml, hown, hts⟩ (m_X3_isReady l D cy ad τ ν hI i hp9) (cwV 1 hts gX3_firstOfHost_X3_isReady rfl rfl rfl (by decide +kernel) ⟨Nat.le_of_ble_eq_true rfl, Nat.le_of_ble_eq_true rfl⟩) (g_preV (C := RX3) (B := (CW D cy ad τ ν)) hK hB (hB 0 0 Nat.zero_lt_one) rfl) rfl rfl hl.1 rfl (lv_room (Nat.le_of_ble_eq_true rfl)) dX3_firstOfHost_44 ⟨Nat.zero_le _, Nat.zero_le _⟩) ?_
            refine lv_if_eq (tgt := 58) hx hb dX3_firstOfHost_47 (by decide) (fun c_47 => ?_) (fun c_47 => ?_)
            · -- 47 t
              have h38 : ν 5 i = h := (hJ 6 _ 6 h (hI.2.2.2.2.2 i hp9).1 hh (Option.some.inj c_38)).2
              rw [if_neg (fun q => by rw [zb_0.mp c_47] at q; cases q.2.2)] at hV
              refine lv_iinc (v := nI (i + 1)) (lv' := [(5, .int (nI (i + 1))), (6, .ref (ad 7 i)), (0, .ref (ad 0 0)), (1, .ref (ad 6 h)), (2, va_rf (f.map (ad 7))), (3, .ref (ad 3 0)), (4, .int 30)]) hx hb dX3_firstOfHost_58 hl (k := 6) rfl (nI_1 i) (by decide) rfl (fun ls hl => ?_)
              refine lv_goto (tgt := 14) hx hb dX3_firstOfHost_61 (by decide) ?_
              exact loop_ih (i + 1) f ls (by omega) hf (by omega) (by rw [hj2]; exact hV) (lv_sub hl [2, 3, 4, 5, 6, 0] rfl)
            · -- 47 f
              refine lv_aload_n hx hb dX3_firstOfHost_50 rfl (lv_at hl 1 rfl) ?_
              refine g_aload_n hx hb (va_rf_or _) dX3_firstOfHost_51 rfl (lv_at hl 3 rfl) ?_
              refine lv_aload hx hb dX3_firstOfHost_52 (lv_at hl 0 rfl) ?_
              refine g_csr (va_runV (As := [va_rf (f.map (ad 7)), .ref (ad 7 i)]) (rest := []) ⟨hx, hb, hml, hown, hts⟩ (m_X3_earlier l D cy ad τ ν f (some i) hf (some_lt hp9)) (cwV 2 hts gX3_firstOfHost_X3_earlier rfl rfl rfl (by decide +kernel) ⟨Nat.le_of_ble_eq_true rfl, Nat.le_of_ble_eq_true rfl⟩) (g_preV (C := RX3) (B := (CW D cy ad τ ν)) hK hB (hB 0 0 Nat.zero_lt_one) rfl) rfl rfl hl.1 rfl (lv_room (Nat.le_of_ble_eq_true rfl)) dX3_firstOfHost_54 ⟨Nat.zero_le _, Nat.zero_le _⟩) ?_
              refine g_astore_n (lv' := [(2, va_rf ((earl τ f (some i)).map (ad 7))), (6, .ref (ad 7 i)), (0, .ref (ad 0 0)), (1, .ref (ad 6 h)), (3, .ref (ad 3 0)), (4, .int 30), (5, .int (nI i))]) hx hb (va_rf_or _) dX3_firstOfHost_57 rfl hl (by decide) rfl (fun ls hl => ?_)
              have h38 : ν 5 i = h := (hJ 6 _ 6 h (hI.2.2.2.2.2 i hp9).1 hh (Option.some.inj c_38)).2
              rw [if_pos ⟨hp9, h38, zb_n0.mp c_47⟩] at hV
              refine lv_iinc (v := nI (i + 1)) (lv' := [(5, .int (nI (i + 1))), (2, va_rf ((earl τ f (some i)).map (ad 7))), (6, .ref (ad 7 i)), (0, .ref (ad 0 0)), (1, .ref (ad 6 h)), (3, .ref (ad 3 0)), (4, .int 30)]) hx hb dX3_firstOfHost_58 hl (k := 6) rfl (nI_1 i) (by decide) rfl (fun ls hl => ?_)
              refine lv_goto (tgt := 14) hx hb dX3_firstOfHost_61 (by decide) ?_
              exact loop_ih (i + 1) (earl τ f (some i)) ls (by omega) (earl_lt hf (some_lt hp9)) (by omega) (by rw [hj2]; exact hV) (lv_sub hl [3, 4, 1, 5, 6, 0] rfl)
        · -- page f
          refine g_top (v' := .null) (by rw [if_neg hp9]; rfl) ?_
          refine lv_astoreN (lv' := [(6, .null), (0, .ref (ad 0 0)), (1, .ref (ad 6 h)), (2, va_rf (f.map (ad 7))), (3, .ref (ad 3 0)), (4, .int 30), (5, .int (nI i))]) hx hb dX3_firstOfHost_25 hl (by decide) rfl (fun ls hl => ?_)
          refine lv_aloadN hx hb dX3_firstOfHost_27 (lv_at hl 0 rfl) ?_
          refine lv_ifnullN (tgt := 58) hx hb dX3_firstOfHost_29 (by decide) ?_
          rw [if_neg (fun q => hp9 q.1)] at hV
          refine lv_iinc (v := nI (i + 1)) (lv' := [(5, .int (nI (i + 1))), (6, .null), (0, .ref (ad 0 0)), (1, .ref (ad 6 h)), (2, va_rf (f.map (ad 7))), (3, .ref (ad 3 0)), (4, .int 30)]) hx hb dX3_firstOfHost_58 hl (k := 6) rfl (nI_1 i) (by decide) rfl (fun ls hl => ?_)
          refine lv_goto (tgt := 14) hx hb dX3_firstOfHost_61 (by decide) ?_
          exact loop_ih (i + 1) f ls (by omega) hf (by omega) (by rw [hj2]; exact hV) (lv_sub hl [2, 3, 4, 5, 6, 0] rfl)
  exact loop (30 + 1) 0 none ls (Nat.zero_le _) (fun _ h => nomatch h) (by omega) hV (lv_sub hl [4, 5, 3, 2, 1, 0] rfl)


theorem fohL_lt {τ : IT} {ν : NT} {h : Nat} : ∀ (k i : Nat) (f : Option Nat), (∀ a, f = some a → a < ν 0 0) → ∀ a, fohL τ ν h k i f = some a → a < ν 0 0 := by
  intro k
  induction k with
  | zero => intro i f hf a e; exact hf a e
  | succ k ih =>
    intro i f hf a e
    rw [fohL] at e
    by_cases q : i < ν 0 0 ∧ ν 5 i = h ∧ isRdy τ ν i = true
    · rw [if_pos q] at e; exact ih _ _ (earl_lt hf (some_lt q.1)) a e
    · rw [if_neg q] at e; exact ih _ _ hf a e

set_option maxHeartbeats 4000000 in
set_option maxRecDepth 100000 in
/-- next -/
theorem m_X3_next (l : Launch) (D : va_G) (cy : Nat → ClassId) (ad : NT) (τ : IT) (ν : NT) (hI : CI τ ν) (hJ : wJ (cC (ν 0 0)) ad) : Met l yX3_next wsX3_next ({ frames := 5, cells := 0, slots := 0, locals := 130 } : Room) (va_Pc [.ref (ad 0 0)] (fun U => gK D cy U ∧ (CW D cy ad τ ν) U.heap)) (rQ (some (.int (numO (nextL τ ν 6 0 none))))) 0 0 (fun _ => False) := by
  refine Met.ofW (cc := cX3_next) (maxL := 6) (ret := (some .int)) (by decide) rfl ?_
  intro p e s m args below meth c s₁ B9 hml hv
  obtain ⟨rfl, hK, hB⟩ := hv
  have hx := B9.exec
  have hb := B9.bytes
  have hr := B9.returns
  have hts := atoms_spec (ws := wsX3_next) B9.pre
  have hown : s.vm.findClass RX3 = some m.cls := findClass_of_methodNamed B9.named
  have hlocks := B9.notSynchronized
  have lk18 := hts (.fieldLink RX3 18 "Politecrawl" "hosts" "[LPolitecrawl$Host;") (by decide +kernel)
  have inX3 : ∀ w ∈ u_ws RX3 TX3 9, w ∈ wsX3_next := by decide +kernel
  have hl := lv_entry ([.ref (ad 0 0)]) (n := 6) (Nat.le_of_ble_eq_true rfl)
  rw [lg_entry_eq]
  generalize (lg_sl ([.ref (ad 0 0)]) ++ List.replicate (6 - (lg_sl ([.ref (ad 0 0)])).length) Slot.unset).toArray = ls at hl ⊢
  have hl : lv_has ls 6 [(0, .ref (ad 0 0))] := hl
  obtain ⟨V, hV⟩ : ∃ V, V = numO (nextL τ ν (6 - 0) 0 none) := ⟨_, rfl⟩
  have hV0 : numO (nextL τ ν 6 0 none) = V := hV.symm
  rw [hV0]
  refine lv_null hx hb dX3_next_0 ?_
  refine lv_astore_nN (lv' := [(1, .null), (0, .ref (ad 0 0))]) hx hb dX3_next_1 rfl hl (by decide) rfl (fun ls hl => ?_)
  refine lv_aload_n hx hb dX3_next_2 rfl (lv_at hl 1 rfl) ?_
  refine g_get (C := RX3) (T := TX3) (N := 9) (ci := 3) (fs := [.ref (ad 1 0), .ref (ad 2 0), .ref (ad 3 0), .int (nI (ν 0 0)), .int (τ 0 0), .int (τ 1 0), .int (τ 2 0), .int (τ 3 0), .int (τ 20 0)]) hx hb hts inX3 hown hK (hB 0 0 Nat.zero_lt_one) rfl 1 (by decide) lk18 rfl rfl dX3_next_3 ?_
  refine lv_astore_n (lv' := [(2, .ref (ad 2 0)), (1, .null), (0, .ref (ad 0 0))]) hx hb dX3_next_6 rfl hl (by decide) rfl (fun ls hl => ?_)
  refine lv_aload_n hx hb dX3_next_7 rfl (lv_at hl 0 rfl) ?_
  refine g_alen (v := 6) hx hb hK 3 (hB 2 0 Nat.zero_lt_one) rfl rfl dX3_next_8 ?_
  refine lv_istore_n (lv' := [(3, .int 6), (2, .ref (ad 2 0)), (1, .null), (0, .ref (ad 0 0))]) hx hb dX3_next_9 rfl hl (by decide) rfl (fun ls hl => ?_)
  refine lv_iconst (v := 0) hx hb dX3_next_10 (by decide) ?_
  refine lv_topi (fun y1 ey1 => ?_)
  obtain rfl : y1 = nI 0 := ey1.trans (nI_0.symm)
  refine lv_istore (lv' := [(4, .int (nI 0)), (3, .int 6), (2, .ref (ad 2 0)), (1, .null), (0, .ref (ad 0 0))]) hx hb dX3_next_11 hl (by decide) rfl (fun ls hl => ?_)
  have loop : ∀ (k : Nat) (i : Nat) (f : Option Nat) (ls : Array Slot), i ≤ 6 → (∀ a, f = some a → a < ν 0 0) → 6 < i + k → V = numO (nextL τ ν (6 - i) i f) → lv_has ls 6 [(0, .ref (ad 0 0)), (1, va_rf (f.map (ad 7))), (2, .ref (ad 2 0)), (3, .int 6), (4, .int (nI i))] → W p l e (headSpec wsX3_next ({ frames := 5, cells := 0, slots := 0, locals := 130 } : Room)).room s m ([.ref (ad 0 0)] : List Value).toArray below meth c s.heap [] 0 0 (MQ below (rQ (some (.int V))) ([.ref (ad 0 0)] : List Value).toArray s 0 0 (fun _ => False)) (F0 m 13 ls []) := by
    intro k
    induction k with
    | zero => intro i f ls hi hf hk hV hl; exfalso; omega
    | succ k loop_ih =>
      intro i f ls hi hf hk hV hl
      refine lv_iload hx hb dX3_next_13 (lv_at hl 4 rfl) ?_
      refine lv_iload_n hx hb dX3_next_15 rfl (lv_at hl 3 rfl) ?_
      refine lv_icmp_ge (tgt := 43) hx hb dX3_next_16 (by decide) (fun c_16 => ?_) (fun c_16 => ?_)
      · -- 16 t
        have hle : 6 ≤ i := (nI_leI (a := 6) (by decide) (by omega)).mp c_16
        rw [show 6 - i = 0 by omega, nextL] at hV
        refine g_aload_n hx hb (va_rf_or _) dX3_next_43 rfl (lv_at hl 1 rfl) ?_
        refine g_csr (va_runS (As := [va_rf (f.map (ad 7))]) (rest := []) ⟨hx, hb, hml, hown, hts⟩ (m_X3_numberOf l D cy ad τ ν f hf) (va_cwS 1 hts gX3_next_X3_numberOf rfl rfl rfl (by decide +kernel) ⟨Nat.le_of_ble_eq_true rfl, Nat.le_of_ble_eq_true rfl⟩) (g_preS (B := (CW D cy ad τ ν)) hK hB) rfl rfl hl.1 rfl (lv_room (Nat.le_of_ble_eq_true rfl)) dX3_next_44 ⟨Nat.zero_le _, Nat.zero_le _⟩) ?_
        exact g_iret hx hb hr hlocks dX3_next_47 hV.symm
      · -- 16 f
        have hlt : i < 6 := Nat.not_le.mp fun q => c_16 ((nI_leI (a := 6) (by decide) (by omega)).mpr q)
        obtain ⟨j, hj⟩ : ∃ j, 6 - i = j + 1 := ⟨6 - i - 1, by omega⟩
        have hj2 : 6 - (i + 1) = j := by omega
        rw [hj, nextL] at hV
        refine lv_aload_n hx hb dX3_next_19 rfl (lv_at hl 2 rfl) ?_
        refine lv_iload hx hb dX3_next_20 (lv_at hl 4 rfl) ?_
        refine g_hald (f := fun j => some (ad 6 j)) (v := .ref (ad 6 i)) hx hb hK (hB 2 0 Nat.zero_lt_one) (vp_in_nI hlt (by decide)) (by rw [cl_nI (by omega)]; rfl) dX3_next_22 ?_
        refine lv_astore (lv' := [(5, .ref (ad 6 i)), (0, .ref (ad 0 0)), (1, va_rf (f.map (ad 7))), (2, .ref (ad 2 0)), (3, .int 6), (4, .int (nI i))]) hx hb dX3_next_23 hl (by decide) rfl (fun ls hl => ?_)
        refine lv_aload_n hx hb dX3_next_25 rfl (lv_at hl 1 rfl) ?_
        refine g_aload_n hx hb (va_rf_or _) dX3_next_26 rfl (lv_at hl 2 rfl) ?_
        refine lv_aload_n hx hb dX3_next_27 rfl (lv_at hl 1 rfl) ?_
        refine lv_aload hx hb dX3_next_28 (lv_at hl 0 rfl) ?_
        refine g_csr (va_runV (As := [.ref (ad 6 i)]) (rest := [va_rf (f.map (ad 7)), .ref (ad 0 0)]) ⟨hx, hb, hml, hown, hts⟩ (m_X3_firstOfHost l D cy ad τ ν hI hJ i hlt) (cwV 1 hts gX3_next_X3_firstOfHost rfl rfl rfl (by decide +kernel) ⟨Nat.le_of_ble_eq_true rfl, Nat.le_of_ble_eq_true rfl⟩) (g_preV (C := RX3) (B := (CW D cy ad τ ν)) hK hB (hB 0 0 Nat.zero_lt_one) rfl) rfl rfl hl.1 rfl (lv_room (by simp only [List.map_cons, va_cat]; exact Nat.le_of_ble_eq_true rfl)) dX3_next_30 ⟨Nat.zero_le _, Nat.zero_le _⟩) ?_
        refine g_csr (va_runV (As := [va_rf (f.map (ad 7)), va_rf ((fohL τ ν i 30 0 none).map (ad 7))]) (rest := []) ⟨hx, hb, hml, hown, hts⟩ (m_X3_earlier l D cy ad τ ν f (fohL τ ν i 30 0 none) hf (fohL_lt 30 0 none (fun _ h => nomatch h))) (cwV 2 hts gX3_next_X3_earlier rfl rfl rfl (by decide +kernel) ⟨Nat.le_of_ble_eq_true rfl, Nat.le_of_ble_eq_true rfl⟩) (g_preV (C := RX3) (B := (CW D cy ad τ ν)) hK hB (hB 0 0 Nat.zero_lt_one) rfl) rfl rfl hl.1 rfl (lv_room (Nat.le_of_ble_eq_true rfl)) dX3_next_33 ⟨Nat.zero_le _, Nat.zero_le _⟩) ?_
        refine g_astore_n (lv' := [(1, va_rf ((earl τ f (fohL τ ν i 30 0 none)).map (ad 7))), (5, .ref (ad 6 i)), (0, .ref (ad 0 0)), (2, .ref (ad 2 0)), (3, .int 6), (4, .int (nI i))]) hx hb (va_rf_or _) dX3_next_36 rfl hl (by decide) rfl (fun ls hl => ?_)
        refine lv_iinc (v := nI (i + 1)) (lv' := [(4, .int (nI (i + 1))), (1, va_rf ((earl τ f (fohL τ ν i 30 0 none)).map (ad 7))), (5, .ref (ad 6 i)), (0, .ref (ad 0 0)), (2, .ref (ad 2 0)), (3, .int 6)]) hx hb dX3_next_37 hl (k := 5) rfl (nI_1 i) (by decide) rfl (fun ls hl => ?_)
        refine lv_goto (tgt := 13) hx hb dX3_next_40 (by decide) ?_
        exact loop_ih (i + 1) (earl τ f (fohL τ ν i 30 0 none)) ls (by omega) (earl_lt hf (fohL_lt 30 0 none (fun _ h => nomatch h))) (by omega) (by rw [hj2]; exact hV) (lv_sub hl [3, 1, 4, 5, 0] rfl)
  exact loop (6 + 1) 0 none ls (Nat.zero_le _) (fun _ h => nomatch h) (by omega) hV (lv_sub hl [4, 3, 2, 1, 0] rfl)

set_option maxHeartbeats 4000000 in
set_option maxRecDepth 100000 in
/-- waiting -/
theorem m_X3_waiting (l : Launch) (D : va_G) (cy : Nat → ClassId) (ad : NT) (τ : IT) (ν : NT) (hI : CI τ ν) : Met l yX3_waiting wsX3_waiting ({ frames := 3, cells := 0, slots := 0, locals := 80 } : Room) (va_Pc [.ref (ad 0 0)] (fun U => gK D cy U ∧ (CW D cy ad τ ν) U.heap)) (rQ (some (.int (waitL τ ν 30 0 (-1))))) 0 0 (fun _ => False) := by
  refine Met.ofW (cc := cX3_waiting) (maxL := 7) (ret := (some .int)) (by decide) rfl ?_
  intro p e s m args below meth c s₁ B9 hml hv
  obtain ⟨rfl, hK, hB⟩ := hv
  have hx := B9.exec
  have hb := B9.bytes
  have hr := B9.returns
  have hts := atoms_spec (ws := wsX3_waiting) B9.pre
  have hown : s.vm.findClass RX3 = some m.cls := findClass_of_methodNamed B9.named
  have hlocks := B9.notSynchronized
  have lk25 := hts (.fieldLink RX3 25 "Politecrawl" "found" "[LPolitecrawl$Page;") (by decide +kernel)
  have inX3 : ∀ w ∈ u_ws RX3 TX3 9, w ∈ wsX3_waiting := by decide +kernel
  have lk111 := hts (.fieldLink RX3 111 "Politecrawl" "tick" "I") (by decide +kernel)
  have hl := lv_entry ([.ref (ad 0 0)]) (n := 7) (Nat.le_of_ble_eq_true rfl)
  rw [lg_entry_eq]
  generalize (lg_sl ([.ref (ad 0 0)]) ++ List.replicate (7 - (lg_sl ([.ref (ad 0 0)])).length) Slot.unset).toArray = ls at hl ⊢
  have hl : lv_has ls 7 [(0, .ref (ad 0 0))] := hl
  obtain ⟨V, hV⟩ : ∃ V, V = waitL τ ν (30 - 0) 0 (-1) := ⟨_, rfl⟩
  have hV0 : waitL τ ν 30 0 (-1) = V := hV.symm
  rw [hV0]
  refine lv_iconst (v := (-1)) hx hb dX3_waiting_0 (by decide) ?_
  refine lv_istore_n (lv' := [(1, .int (-1)), (0, .ref (ad 0 0))]) hx hb dX3_waiting_1 rfl hl (by decide) rfl (fun ls hl => ?_)
  refine lv_aload_n hx hb dX3_waiting_2 rfl (lv_at hl 1 rfl) ?_
  refine g_get (C := RX3) (T := TX3) (N := 9) (ci := 3) (fs := [.ref (ad 1 0), .ref (ad 2 0), .ref (ad 3 0), .int (nI (ν 0 0)), .int (τ 0 0), .int (τ 1 0), .int (τ 2 0), .int (τ 3 0), .int (τ 20 0)]) hx hb hts inX3 hown hK (hB 0 0 Nat.zero_lt_one) rfl 2 (by decide) lk25 rfl rfl dX3_waiting_3 ?_
  refine lv_astore_n (lv' := [(2, .ref (ad 3 0)), (1, .int (-1)), (0, .ref (ad 0 0))]) hx hb dX3_waiting_6 rfl hl (by decide) rfl (fun ls hl => ?_)
  refine lv_aload_n hx hb dX3_waiting_7 rfl (lv_at hl 0 rfl) ?_
  refine g_alen (v := 30) hx hb hK 4 (hB 3 0 Nat.zero_lt_one) rfl rfl dX3_waiting_8 ?_
  refine lv_istore_n (lv' := [(3, .int 30), (2, .ref (ad 3 0)), (1, .int (-1)), (0, .ref (ad 0 0))]) hx hb dX3_waiting_9 rfl hl (by decide) rfl (fun ls hl => ?_)
  refine lv_iconst (v := 0) hx hb dX3_waiting_10 (by decide) ?_
  refine lv_topi (fun y1 ey1 => ?_)
  obtain rfl : y1 = nI 0 := ey1.trans (nI_0.symm)
  refine lv_istore (lv' := [(4, .int (nI 0)), (3, .int 30), (2, .ref (ad 3 0)), (1, .int (-1)), (0, .ref (ad 0 0))]) hx hb dX3_waiting_11 hl (by decide) rfl (fun ls hl => ?_)
  have loop : ∀ (k : Nat) (i : Nat) (g : Int32) (ls : Array Slot), i ≤ 30 → 30 < i + k → V = waitL τ ν (30 - i) i g → lv_has ls 7 [(0, .ref (ad 0 0)), (1, .int g), (2, .ref (ad 3 0)), (3, .int 30), (4, .int (nI i))] → W p l e (headSpec wsX3_waiting ({ frames := 3, cells := 0, slots := 0, locals := 80 } : Room)).room s m ([.ref (ad 0 0)] : List Value).toArray below meth c s.heap [] 0 0 (MQ below (rQ (some (.int V))) ([.ref (ad 0 0)] : List Value).toArray s 0 0 (fun _ => False)) (F0 m 13 ls []) := by
    intro k
    induction k with
    | zero => intro i g ls hi hk hV hl; exfalso; omega
    | succ k loop_ih =>
      intro i g ls hi hk hV hl
      refine lv_iload hx hb dX3_waiting_13 (lv_at hl 4 rfl) ?_
      refine lv_iload_n hx hb dX3_waiting_15 rfl (lv_at hl 3 rfl) ?_
      refine lv_icmp_ge (tgt := 74) hx hb dX3_waiting_16 (by decide) (fun c_16 => ?_) (fun c_16 => ?_)
      · -- 16 t
        have hle : 30 ≤ i := (nI_leI (a := 30) (by decide) (by omega)).mp c_16
        rw [show 30 - i = 0 by omega, waitL] at hV
        refine lv_iload_n hx hb dX3_waiting_74 rfl (lv_at hl 1 rfl) ?_
        exact g_iret hx hb hr hlocks dX3_waiting_75 hV.symm
      · -- 16 f
        have hlt : i < 30 := Nat.not_le.mp fun q => c_16 ((nI_leI (a := 30) (by decide) (by omega)).mpr q)
        obtain ⟨j, hj⟩ : ∃ j, 30 - i = j + 1 := ⟨30 - i - 1, by omega⟩
        have hj2 : 30 - (i + 1) = j := by omega
        rw [hj, waitL] at hV
        refine lv_aload_n hx hb dX3_waiting_19 rfl (lv_at hl 2 rfl) ?_
        refine lv_iload hx hb dX3_waiting_20 (lv_at hl 4 rfl) ?_
        refine g_pald (f := fun j => if j < ν 0 0 then some (ad 7 j) else none) (v := va_rf (if i < ν 0 0 then some (ad 7 i) else none)) hx hb hK (hB 3 0 Nat.zero_lt_one) (vp_in_nI hlt (by decide)) (by rw [cl_nI (by omega)]) dX3_waiting_22 ?_
        by_cases hp9 : i < ν 0 0
        · -- page t
          refine g_top (v' := .ref (ad 7 i)) (by rw [if_pos hp9]; rfl) ?_
          refine lv_astore (lv' := [(5, .ref (ad 7 i)), (0, .ref (ad 0 0)), (1, .int g), (2, .ref (ad 3 0)), (3, .int 30), (4, .int (nI i))]) hx hb dX3_waiting_23 hl (by decide) rfl (fun ls hl => ?_)
          refine lv_aload hx hb dX3_waiting_25 (lv_at hl 0 rfl) ?_
          refine lv_ifnull hx hb dX3_waiting_27 ?_
          refine lv_aload hx hb dX3_waiting_30 (lv_at hl 0 rfl) ?_
          refine g_csr (va_runV (As := []) (rest := []) ⟨hx, hb, hml, hown, hts⟩ (m_X2_isKept l D cy (ad 7 i) (ad 6 (ν 5 i)) (ad 8 i) (nI i) (τ 15 i) (τ 10 i) (τ 11 i) (τ 12 i) (τ 13 i) (τ 14 i) (τ 25 i)) (cwV 0 hts gX3_waiting_X2_isKept rfl rfl rfl (by decide +kernel) ⟨Nat.le_of_ble_eq_true rfl, Nat.le_of_ble_eq_true rfl⟩) (g_preV (C := RX2) (B := (pPage D (ad 7 i) (ad 6 (ν 5 i)) (ad 8 i) (nI i) (τ 15 i) (τ 10 i) (τ 11 i) (τ 12 i) (τ 13 i) (τ 14 i) (τ 25 i))) hK (hB.page hp9) (hB 7 i hp9) rfl) rfl rfl hl.1 rfl (lv_room (Nat.le_of_ble_eq_true rfl)) dX3_waiting_32 ⟨Nat.zero_le _, Nat.zero_le _⟩) ?_
          refine lv_if_eq (tgt := 68) hx hb dX3_waiting_35 (by decide) (fun c_35 => ?_) (fun c_35 => ?_)
          · -- 35 t
            rw [if_neg (fun q => by rw [(zb_0.mp c_35 : keptC τ i = false)] at q; cases q.2)] at hV
            refine lv_iinc (v := nI (i + 1)) (lv' := [(4, .int (nI (i + 1))), (5, .ref (ad 7 i)), (0, .ref (ad 0 0)), (1, .int g), (2, .ref (ad 3 0)), (3, .int 30)]) hx hb dX3_waiting_68 hl (k := 5) rfl (nI_1 i) (by decide) rfl (fun ls hl => ?_)
            refine lv_goto (tgt := 13) hx hb dX3_waiting_71 (by decide) ?_
            exact loop_ih (i + 1) g ls (by omega) (by omega) (by rw [hj2]; exact hV) (lv_sub hl [2, 3, 4, 5, 0] rfl)
          · -- 35 f
            refine lv_aload_n hx hb dX3_waiting_38 rfl (lv_at hl 1 rfl) ?_
            refine lv_aload hx hb dX3_waiting_39 (lv_at hl 0 rfl) ?_
            refine g_csr (va_runV (As := [.ref (ad 7 i)]) (rest := []) ⟨hx, hb, hml, hown, hts⟩ (m_X3_readyFrom l D cy ad τ ν hI i hp9) (cwV 1 hts gX3_waiting_X3_readyFrom rfl rfl rfl (by decide +kernel) ⟨Nat.le_of_ble_eq_true rfl, Nat.le_of_ble_eq_true rfl⟩) (g_preV (C := RX3) (B := (CW D cy ad τ ν)) hK hB (hB 0 0 Nat.zero_lt_one) rfl) rfl rfl hl.1 rfl (lv_room (Nat.le_of_ble_eq_true rfl)) dX3_waiting_41 ⟨Nat.zero_le _, Nat.zero_le _⟩) ?_
            refine lv_aload_n hx hb dX3_waiting_44 rfl (lv_at hl 1 rfl) ?_
            refine g_get (C := RX3) (T := TX3) (N := 9) (ci := 3) (fs := [.ref (ad 1 0), .ref (ad 2 0), .ref (ad 3 0), .int (nI (ν 0 0)), .int (τ 0 0), .int (τ 1 0), .int (τ 2 0), .int (τ 3 0), .int (τ 20 0)]) hx hb hts inX3 hown hK (hB 0 0 Nat.zero_lt_one) rfl 4 (by decide) lk111 rfl rfl dX3_waiting_45 ?_
            refine lv_isub hx hb dX3_waiting_48 ?_
            refine lv_istore (lv' := [(6, .int ((readyC τ ν i) - (τ 0 0))), (5, .ref (ad 7 i)), (0, .ref (ad 0 0)), (1, .int g), (2, .ref (ad 3 0)), (3, .int 30), (4, .int (nI i))]) hx hb dX3_waiting_49 hl (by decide) rfl (fun ls hl => ?_)
            refine lv_iload_n hx hb dX3_waiting_51 rfl (lv_at hl 3 rfl) ?_
            refine lv_iconst (v := (-1)) hx hb dX3_waiting_52 (by decide) ?_
            refine lv_icmp_ne (tgt := 61) hx hb dX3_waiting_53 (by decide) (fun c_53 => ?_) (fun c_53 => ?_)
            · -- 53 t
              refine lv_iload_n hx hb dX3_waiting_61 rfl (lv_at hl 3 rfl) ?_
              refine lv_iload hx hb dX3_waiting_62 (lv_at hl 0 rfl) ?_
              refine va_mmin hx hb (by rw [hml]; exact hl.1.symm) hown (hts (.methodLink RX3 187 Lib.Math.min.name) (by decide +kernel)) (hts (.static Lib.Math.min.name) (by decide +kernel)) (hts (.initialized "java/lang/Math") (by decide +kernel)) (hts (.code Lib.Math.min.name Lib.Math.min.code 2 (some .int)) (by decide +kernel)) (Nat.le_of_ble_eq_true rfl) (Nat.le_of_ble_eq_true rfl) (Nat.zero_le _) (Nat.zero_le _) dX3_waiting_64 ?_
              refine lv_istore_n (lv' := [(1, .int (if ((readyC τ ν i) - (τ 0 0)) < g then ((readyC τ ν i) - (τ 0 0)) else g)), (6, .int ((readyC τ ν i) - (τ 0 0))), (5, .ref (ad 7 i)), (0, .ref (ad 0 0)), (2, .ref (ad 3 0)), (3, .int 30), (4, .int (nI i))]) hx hb dX3_waiting_67 rfl hl (by decide) rfl (fun ls hl => ?_)
              rw [if_pos ⟨hp9, zb_n0.mp c_35⟩] at hV
              rw [if_neg c_53] at hV
              refine lv_iinc (v := nI (i + 1)) (lv' := [(4, .int (nI (i + 1))), (1, .int (if ((readyC τ ν i) - (τ 0 0)) < g then ((readyC τ ν i) - (τ 0 0)) else g)), (6, .int ((readyC τ ν i) - (τ 0 0))), (5, .ref (ad 7 i)), (0, .ref (ad 0 0)), (2, .ref (ad 3 0)), (3, .int 30)]) hx hb dX3_waiting_68 hl (k := 6) rfl (nI_1 i) (by decide) rfl (fun ls hl => ?_)
              refine lv_goto (tgt := 13) hx hb dX3_waiting_71 (by decide) ?_
              exact loop_ih (i + 1) (mn g (readyC τ ν i - τ 0 0)) ls (by omega) (by omega) (by rw [hj2]; exact hV) (lv_sub hl [4, 1, 5, 6, 0] rfl)
            · -- 53 f
              refine lv_iload hx hb dX3_waiting_56 (lv_at hl 0 rfl) ?_
              refine lv_goto (tgt := 67) hx hb dX3_waiting_58 (by decide) ?_
              refine lv_istore_n (lv' := [(1, .int ((readyC τ ν i) - (τ 0 0))), (6, .int ((readyC τ ν i) - (τ 0 0))), (5, .ref (ad 7 i)), (0, .ref (ad 0 0)), (2, .ref (ad 3 0)), (3, .int 30), (4, .int (nI i))]) hx hb dX3_waiting_67 rfl hl (by decide) rfl (fun ls hl => ?_)
              rw [if_pos ⟨hp9, zb_n0.mp c_35⟩] at hV
              rw [if_pos c_53] at hV
              refine lv_iinc (v := nI (i + 1)) (lv' := [(4, .int (nI (i + 1))), (1, .int ((readyC τ ν i) - (τ 0 0))), (6, .int ((readyC τ ν i) - (τ 0 0))), (5, .ref (ad 7 i)), (0, .ref (ad 0 0)), (2, .ref (ad 3 0)), (3, .int 30)]) hx hb dX3_waiting_68 hl (k := 6) rfl (nI_1 i) (by decide) rfl (fun ls hl => ?_)
              refine lv_goto (tgt := 13) hx hb dX3_waiting_71 (by decide) ?_
              exact loop_ih (i + 1) (readyC τ ν i - τ 0 0) ls (by omega) (by omega) (by rw [hj2]; exact hV) (lv_sub hl [4, 1, 5, 6, 0] rfl)
        · -- page f
          refine g_top (v' := .null) (by rw [if_neg hp9]; rfl) ?_
          refine lv_astoreN (lv' := [(5, .null), (0, .ref (ad 0 0)), (1, .int g), (2, .ref (ad 3 0)), (3, .int 30), (4, .int (nI i))]) hx hb dX3_waiting_23 hl (by decide) rfl (fun ls hl => ?_)
          refine lv_aloadN hx hb dX3_waiting_25 (lv_at hl 0 rfl) ?_
          refine lv_ifnullN (tgt := 68) hx hb dX3_waiting_27 (by decide) ?_
          rw [if_neg (fun q => hp9 q.1)] at hV
          refine lv_iinc (v := nI (i + 1)) (lv' := [(4, .int (nI (i + 1))), (5, .null), (0, .ref (ad 0 0)), (1, .int g), (2, .ref (ad 3 0)), (3, .int 30)]) hx hb dX3_waiting_68 hl (k := 5) rfl (nI_1 i) (by decide) rfl (fun ls hl => ?_)
          refine lv_goto (tgt := 13) hx hb dX3_waiting_71 (by decide) ?_
          exact loop_ih (i + 1) g ls (by omega) (by omega) (by rw [hj2]; exact hV) (lv_sub hl [2, 3, 4, 5, 0] rfl)
  exact loop (30 + 1) 0 (-1) ls (Nat.zero_le _) (by omega) hV (lv_sub hl [4, 3, 2, 1, 0] rfl)

set_option maxHeartbeats 4000000 in
set_option maxRecDepth 100000 in
/-- pageAtBuffer -/
theorem m_X3_pageAtBuffer (l : Launch) (D : va_G) (cy : Nat → ClassId) (ad : NT) (τ : IT) (ν : NT) (hI : CI τ ν) (hJ : wJ (cC (ν 0 0)) ad) (h : Nat) (hh : h < 6) : Met l yX3_pageAtBuffer wsX3_pageAtBuffer ({ frames := 2, cells := 0, slots := 0, locals := 60 } : Room) (va_Pc [.ref (ad 0 0), .ref (ad 6 h)] (fun U => gK D cy U ∧ (CW D cy ad τ ν) U.heap)) (rQ (some (va_rf ((pabL τ ν h 30 0).map (ad 7))))) 0 0 (fun _ => False) := by
  refine Met.ofW (cc := cX3_pageAtBuffer) (maxL := 6) (ret := (some (.object "Politecrawl$Page"))) (by decide) rfl ?_
  intro p e s m args below meth c s₁ B9 hml hv
  obtain ⟨rfl, hK, hB⟩ := hv
  have hx := B9.exec
  have hb := B9.bytes
  have hr := B9.returns
  have hts := atoms_spec (ws := wsX3_pageAtBuffer) B9.pre
  have hown : s.vm.findClass RX3 = some m.cls := findClass_of_methodNamed B9.named
  have hlocks := B9.notSynchronized
  have lk25 := hts (.fieldLink RX3 25 "Politecrawl" "found" "[LPolitecrawl$Page;") (by decide +kernel)
  have inX3 : ∀ w ∈ u_ws RX3 TX3 9, w ∈ wsX3_pageAtBuffer := by decide +kernel
  have lk162 := hts (.fieldLink RX3 162 "Politecrawl$Page" "host" "LPolitecrawl$Host;") (by decide +kernel)
  have inX2 : ∀ w ∈ u_ws RX2 TX2 10, w ∈ wsX3_pageAtBuffer := by decide +kernel
  have lk210 := hts (.fieldLink RX3 210 "Politecrawl$Page" "address" "LPolitecrawl$Address;") (by decide +kernel)
  have lk10 := hts (.fieldLink RX3 10 "Politecrawl" "buffer" "LPolitecrawl$Address;") (by decide +kernel)
  have hl := lv_entry ([.ref (ad 0 0), .ref (ad 6 h)]) (n := 6) (Nat.le_of_ble_eq_true rfl)
  rw [lg_entry_eq]
  generalize (lg_sl ([.ref (ad 0 0), .ref (ad 6 h)]) ++ List.replicate (6 - (lg_sl ([.ref (ad 0 0), .ref (ad 6 h)])).length) Slot.unset).toArray = ls at hl ⊢
  have hl : lv_has ls 6 [(0, .ref (ad 0 0)), (1, .ref (ad 6 h))] := hl
  obtain ⟨V, hV⟩ : ∃ V, V = va_rf ((pabL τ ν h (30 - 0) 0).map (ad 7)) := ⟨_, rfl⟩
  have hV0 : va_rf ((pabL τ ν h 30 0).map (ad 7)) = V := hV.symm
  rw [hV0]
  refine lv_aload_n hx hb dX3_pageAtBuffer_0 rfl (lv_at hl 0 rfl) ?_
  refine g_get (C := RX3) (T := TX3) (N := 9) (ci := 3) (fs := [.ref (ad 1 0), .ref (ad 2 0), .ref (ad 3 0), .int (nI (ν 0 0)), .int (τ 0 0), .int (τ 1 0), .int (τ 2 0), .int (τ 3 0), .int (τ 20 0)]) hx hb hts inX3 hown hK (hB 0 0 Nat.zero_lt_one) rfl 2 (by decide) lk25 rfl rfl dX3_pageAtBuffer_1 ?_
  refine lv_astore_n (lv' := [(2, .ref (ad 3 0)), (0, .ref (ad 0 0)), (1, .ref (ad 6 h))]) hx hb dX3_pageAtBuffer_4 rfl hl (by decide) rfl (fun ls hl => ?_)
  refine lv_aload_n hx hb dX3_pageAtBuffer_5 rfl (lv_at hl 0 rfl) ?_
  refine g_alen (v := 30) hx hb hK 4 (hB 3 0 Nat.zero_lt_one) rfl rfl dX3_pageAtBuffer_6 ?_
  refine lv_istore_n (lv' := [(3, .int 30), (2, .ref (ad 3 0)), (0, .ref (ad 0 0)), (1, .ref (ad 6 h))]) hx hb dX3_pageAtBuffer_7 rfl hl (by decide) rfl (fun ls hl => ?_)
  refine lv_iconst (v := 0) hx hb dX3_pageAtBuffer_8 (by decide) ?_
  refine lv_topi (fun y1 ey1 => ?_)
  obtain rfl : y1 = nI 0 := ey1.trans (nI_0.symm)
  refine lv_istore (lv' := [(4, .int (nI 0)), (3, .int 30), (2, .ref (ad 3 0)), (0, .ref (ad 0 0)), (1, .ref (ad 6 h))]) hx hb dX3_pageAtBuffer_9 hl (by decide) rfl (fun ls hl => ?_)
  have loop : ∀ (k : Nat) (i : Nat) (ls : Array Slot), i ≤ 30 → 30 < i + k → V = va_rf ((pabL τ ν h (30 - i) i).map (ad 7)) → lv_has ls 6 [(0, .ref (ad 0 0)), (1, .ref (ad 6 h)), (2, .ref (ad 3 0)), (3, .int 30), (4, .int (nI i))] → W p l e (headSpec wsX3_pageAtBuffer ({ frames := 2, cells := 0, slots := 0, locals := 60 } : Room)).room s m ([.ref (ad 0 0), .ref (ad 6 h)] : List Value).toArray below meth c s.heap [] 0 0 (MQ below (rQ (some (V))) ([.ref (ad 0 0), .ref (ad 6 h)] : List Value).toArray s 0 0 (fun _ => False)) (F0 m 11 ls []) := by
    intro k
    induction k with
    | zero => intro i ls hi hk hV hl; exfalso; omega
    | succ k loop_ih =>
      intro i ls hi hk hV hl
      refine lv_iload hx hb dX3_pageAtBuffer_11 (lv_at hl 4 rfl) ?_
      refine lv_iload_n hx hb dX3_pageAtBuffer_13 rfl (lv_at hl 3 rfl) ?_
      refine lv_icmp_ge (tgt := 61) hx hb dX3_pageAtBuffer_14 (by decide) (fun c_14 => ?_) (fun c_14 => ?_)
      · -- 14 t
        have hle : 30 ≤ i := (nI_leI (a := 30) (by decide) (by omega)).mp c_14
        rw [show 30 - i = 0 by omega, pabL] at hV
        refine lv_null hx hb dX3_pageAtBuffer_61 ?_
        exact g_aret hx hb hr hlocks (Or.inl rfl) dX3_pageAtBuffer_62 hV.symm
      · -- 14 f
        have hlt : i < 30 := Nat.not_le.mp fun q => c_14 ((nI_leI (a := 30) (by decide) (by omega)).mpr q)
        obtain ⟨j, hj⟩ : ∃ j, 30 - i = j + 1 := ⟨30 - i - 1, by omega⟩
        have hj2 : 30 - (i + 1) = j := by omega
        rw [hj, pabL] at hV
        refine lv_aload_n hx hb dX3_pageAtBuffer_17 rfl (lv_at hl 2 rfl) ?_
        refine lv_iload hx hb dX3_pageAtBuffer_18 (lv_at hl 4 rfl) ?_
        refine g_pald (f := fun j => if j < ν 0 0 then some (ad 7 j) else none) (v := va_rf (if i < ν 0 0 then some (ad 7 i) else none)) hx hb hK (hB 3 0 Nat.zero_lt_one) (vp_in_nI hlt (by decide)) (by rw [cl_nI (by omega)]) dX3_pageAtBuffer_20 ?_
        by_cases hp9 : i < ν 0 0
        · -- page t
          refine g_top (v' := .ref (ad 7 i)) (by rw [if_pos hp9]; rfl) ?_
          refine lv_astore (lv' := [(5, .ref (ad 7 i)), (0, .ref (ad 0 0)), (1, .ref (ad 6 h)), (2, .ref (ad 3 0)), (3, .int 30), (4, .int (nI i))]) hx hb dX3_pageAtBuffer_21 hl (by decide) rfl (fun ls hl => ?_)
          refine lv_aload hx hb dX3_pageAtBuffer_23 (lv_at hl 0 rfl) ?_
          refine lv_ifnull hx hb dX3_pageAtBuffer_25 ?_
          refine lv_aload hx hb dX3_pageAtBuffer_28 (lv_at hl 0 rfl) ?_
          refine g_get (C := RX2) (T := TX2) (N := 10) (ci := 2) (fs := [.int (nI i), .ref (ad 6 (ν 5 i)), .ref (ad 8 i), .int (τ 15 i), .int (τ 10 i), .int (τ 11 i), .int (τ 12 i), .int (τ 13 i), .int (τ 14 i), .int (τ 25 i)]) hx hb hts inX2 hown hK (hB 7 i hp9) rfl 1 (by decide) lk162 rfl rfl dX3_pageAtBuffer_30 ?_
          refine lv_aload_n hx hb dX3_pageAtBuffer_33 rfl (lv_at hl 2 rfl) ?_
          refine lv_acmp_ne (rx := (some (ad 6 (ν 5 i)))) (ry := (some (ad 6 h))) (tgt := 55) hx hb dX3_pageAtBuffer_34 (by decide) (fun c_34 => ?_) (fun c_34 => ?_)
          · -- 34 t
            rw [if_neg (fun q => c_34 (by rw [q.2.1]))] at hV
            refine lv_iinc (v := nI (i + 1)) (lv' := [(4, .int (nI (i + 1))), (5, .ref (ad 7 i)), (0, .ref (ad 0 0)), (1, .ref (ad 6 h)), (2, .ref (ad 3 0)), (3, .int 30)]) hx hb dX3_pageAtBuffer_55 hl (k := 5) rfl (nI_1 i) (by decide) rfl (fun ls hl => ?_)
            refine lv_goto (tgt := 11) hx hb dX3_pageAtBuffer_58 (by decide) ?_
            exact loop_ih (i + 1) ls (by omega) (by omega) (by rw [hj2]; exact hV) (lv_sub hl [2, 3, 4, 5, 0] rfl)
          · -- 34 f
            refine lv_aload hx hb dX3_pageAtBuffer_37 (lv_at hl 0 rfl) ?_
            refine g_get (C := RX2) (T := TX2) (N := 10) (ci := 2) (fs := [.int (nI i), .ref (ad 6 (ν 5 i)), .ref (ad 8 i), .int (τ 15 i), .int (τ 10 i), .int (τ 11 i), .int (τ 12 i), .int (τ 13 i), .int (τ 14 i), .int (τ 25 i)]) hx hb hts inX2 hown hK (hB 7 i hp9) rfl 2 (by decide) lk210 rfl rfl dX3_pageAtBuffer_39 ?_
            refine lv_aload_n hx hb dX3_pageAtBuffer_42 rfl (lv_at hl 1 rfl) ?_
            refine g_get (C := RX3) (T := TX3) (N := 9) (ci := 3) (fs := [.ref (ad 1 0), .ref (ad 2 0), .ref (ad 3 0), .int (nI (ν 0 0)), .int (τ 0 0), .int (τ 1 0), .int (τ 2 0), .int (τ 3 0), .int (τ 20 0)]) hx hb hts inX3 hown hK (hB 0 0 Nat.zero_lt_one) rfl 0 (by decide) lk10 rfl rfl dX3_pageAtBuffer_43 ?_
            refine g_csr (va_runV (As := [.ref (ad 1 0)]) (rest := []) ⟨hx, hb, hml, hown, hts⟩ (m_X0_isSameAs l D cy (ad 8 i) (ad 9 i) (ad 10 i) (fun j => τ 18 (30 * i + j)) (fun j => τ 24 (30 * i + j)) (ν 3 i) (ν 4 i) (ad 1 0) (ad 4 0) (ad 5 0) (τ 6) (τ 22) (ν 1 0) (ν 2 0) (hI.2.2.2.2.2 i hp9).2.1 hI.2.1 (hI.2.2.2.2.2 i hp9).2.2.2.1 hI.2.2.2.1) (cwV 1 hts gX3_pageAtBuffer_X0_isSameAs rfl rfl rfl (by decide +kernel) ⟨Nat.le_of_ble_eq_true rfl, Nat.le_of_ble_eq_true rfl⟩) (g_preV (C := RX0) (B := (pAA D cy (ad 8 i) (ad 9 i) (ad 10 i) (fun j => τ 18 (30 * i + j)) (fun j => τ 24 (30 * i + j)) (ν 3 i) (ν 4 i) (ad 1 0) (ad 4 0) (ad 5 0) (τ 6) (τ 22) (ν 1 0) (ν 2 0))) hK ⟨hB.addr hp9, hB.buf⟩ (hB 8 i hp9) rfl) rfl rfl hl.1 rfl (lv_room (Nat.le_of_ble_eq_true rfl)) dX3_pageAtBuffer_46 ⟨Nat.zero_le _, Nat.zero_le _⟩) ?_
            refine lv_if_eq (tgt := 55) hx hb dX3_pageAtBuffer_49 (by decide) (fun c_49 => ?_) (fun c_49 => ?_)
            · -- 49 t
              rw [if_neg (fun q => by rw [(zb_0.mp c_49 : sameC τ ν i = false)] at q; cases q.2.2)] at hV
              refine lv_iinc (v := nI (i + 1)) (lv' := [(4, .int (nI (i + 1))), (5, .ref (ad 7 i)), (0, .ref (ad 0 0)), (1, .ref (ad 6 h)), (2, .ref (ad 3 0)), (3, .int 30)]) hx hb dX3_pageAtBuffer_55 hl (k := 5) rfl (nI_1 i) (by decide) rfl (fun ls hl => ?_)
              refine lv_goto (tgt := 11) hx hb dX3_pageAtBuffer_58 (by decide) ?_
              exact loop_ih (i + 1) ls (by omega) (by omega) (by rw [hj2]; exact hV) (lv_sub hl [2, 3, 4, 5, 0] rfl)
            · -- 49 f
              have h34 : ν 5 i = h := (hJ 6 _ 6 h (hI.2.2.2.2.2 i hp9).1 hh (Option.some.inj c_34)).2
              rw [if_pos ⟨hp9, h34, zb_n0.mp c_49⟩] at hV
              refine lv_aload hx hb dX3_pageAtBuffer_52 (lv_at hl 0 rfl) ?_
              exact g_aret hx hb hr hlocks (Or.inr ⟨_, rfl⟩) dX3_pageAtBuffer_54 hV.symm
        · -- page f
          refine g_top (v' := .null) (by rw [if_neg hp9]; rfl) ?_
          refine lv_astoreN (lv' := [(5, .null), (0, .ref (ad 0 0)), (1, .ref (ad 6 h)), (2, .ref (ad 3 0)), (3, .int 30), (4, .int (nI i))]) hx hb dX3_pageAtBuffer_21 hl (by decide) rfl (fun ls hl => ?_)
          refine lv_aloadN hx hb dX3_pageAtBuffer_23 (lv_at hl 0 rfl) ?_
          refine lv_ifnullN (tgt := 55) hx hb dX3_pageAtBuffer_25 (by decide) ?_
          rw [if_neg (fun q => hp9 q.1)] at hV
          refine lv_iinc (v := nI (i + 1)) (lv' := [(4, .int (nI (i + 1))), (5, .null), (0, .ref (ad 0 0)), (1, .ref (ad 6 h)), (2, .ref (ad 3 0)), (3, .int 30)]) hx hb dX3_pageAtBuffer_55 hl (k := 5) rfl (nI_1 i) (by decide) rfl (fun ls hl => ?_)
          refine lv_goto (tgt := 11) hx hb dX3_pageAtBuffer_58 (by decide) ?_
          exact loop_ih (i + 1) ls (by omega) (by omega) (by rw [hj2]; exact hV) (lv_sub hl [2, 3, 4, 5, 0] rfl)
  exact loop (30 + 1) 0 ls (Nat.zero_le _) (by omega) hV (lv_sub hl [3, 4, 2, 1, 0] rfl)

set_option maxHeartbeats 4000000 in
set_option maxRecDepth 100000 in
/-- paceOf -/
theorem m_X3_paceOf (l : Launch) (D : va_G) (cy : Nat → ClassId) (ad : NT) (τ : IT) (ν : NT) (q : Nat) (hq : q < ν 0 0) : Met l yX3_paceOf wsX3_paceOf ({ frames := 1, cells := 0, slots := 0, locals := 30 } : Room) (va_Pc [.ref (ad 0 0), .ref (ad 7 q)] (fun U => gK D cy U ∧ (CW D cy ad τ ν) U.heap)) (rQ (some (.int (paceC τ q)))) 0 0 (fun _ => False) := by
  refine Met.ofW (cc := cX3_paceOf) (maxL := 2) (ret := (some .int)) (by decide) rfl ?_
  intro p e s m args below meth c s₁ B9 hml hv
  obtain ⟨rfl, hK, hB⟩ := hv
  have hx := B9.exec
  have hb := B9.bytes
  have hr := B9.returns
  have hts := atoms_spec (ws := wsX3_paceOf) B9.pre
  have hown : s.vm.findClass RX3 = some m.cls := findClass_of_methodNamed B9.named
  have hlocks := B9.notSynchronized
  have lk33 := hts (.fieldLink RX3 33 "Politecrawl" "longestPace" "I") (by decide +kernel)
  have inX3 : ∀ w ∈ u_ws RX3 TX3 9, w ∈ wsX3_paceOf := by decide +kernel
  have lk29 := hts (.fieldLink RX3 29 "Politecrawl" "shortestPace" "I") (by decide +kernel)
  have lk130 := hts (.fieldLink RX3 130 "Politecrawl$Page" "visits" "I") (by decide +kernel)
  have inX2 : ∀ w ∈ u_ws RX2 TX2 10, w ∈ wsX3_paceOf := by decide +kernel
  have lk133 := hts (.fieldLink RX3 133 "Politecrawl$Page" "changes" "I") (by decide +kernel)
  have hl := lv_entry ([.ref (ad 0 0), .ref (ad 7 q)]) (n := 2) (Nat.le_of_ble_eq_true rfl)
  rw [lg_entry_eq]
  generalize (lg_sl ([.ref (ad 0 0), .ref (ad 7 q)]) ++ List.replicate (2 - (lg_sl ([.ref (ad 0 0), .ref (ad 7 q)])).length) Slot.unset).toArray = ls at hl ⊢
  have hl : lv_has ls 2 [(0, .ref (ad 0 0)), (1, .ref (ad 7 q))] := hl
  refine lv_aload_n hx hb dX3_paceOf_0 rfl (lv_at hl 0 rfl) ?_
  refine g_get (C := RX3) (T := TX3) (N := 9) (ci := 3) (fs := [.ref (ad 1 0), .ref (ad 2 0), .ref (ad 3 0), .int (nI (ν 0 0)), .int (τ 0 0), .int (τ 1 0), .int (τ 2 0), .int (τ 3 0), .int (τ 20 0)]) hx hb hts inX3 hown hK (hB 0 0 Nat.zero_lt_one) rfl 6 (by decide) lk33 rfl rfl dX3_paceOf_1 ?_
  refine lv_aload_n hx hb dX3_paceOf_4 rfl (lv_at hl 0 rfl) ?_
  refine g_get (C := RX3) (T := TX3) (N := 9) (ci := 3) (fs := [.ref (ad 1 0), .ref (ad 2 0), .ref (ad 3 0), .int (nI (ν 0 0)), .int (τ 0 0), .int (τ 1 0), .int (τ 2 0), .int (τ 3 0), .int (τ 20 0)]) hx hb hts inX3 hown hK (hB 0 0 Nat.zero_lt_one) rfl 5 (by decide) lk29 rfl rfl dX3_paceOf_5 ?_
  refine lv_aload_n hx hb dX3_paceOf_8 rfl (lv_at hl 1 rfl) ?_
  refine g_get (C := RX2) (T := TX2) (N := 10) (ci := 2) (fs := [.int (nI q), .ref (ad 6 (ν 5 q)), .ref (ad 8 q), .int (τ 15 q), .int (τ 10 q), .int (τ 11 q), .int (τ 12 q), .int (τ 13 q), .int (τ 14 q), .int (τ 25 q)]) hx hb hts inX2 hown hK (hB 7 q hq) rfl 6 (by decide) lk130 rfl rfl dX3_paceOf_9 ?_
  refine lv_iconst (v := 2) hx hb dX3_paceOf_12 (by decide) ?_
  refine lv_iadd hx hb dX3_paceOf_13 ?_
  refine lv_imul hx hb dX3_paceOf_14 ?_
  refine lv_aload_n hx hb dX3_paceOf_15 rfl (lv_at hl 1 rfl) ?_
  refine g_get (C := RX2) (T := TX2) (N := 10) (ci := 2) (fs := [.int (nI q), .ref (ad 6 (ν 5 q)), .ref (ad 8 q), .int (τ 15 q), .int (τ 10 q), .int (τ 11 q), .int (τ 12 q), .int (τ 13 q), .int (τ 14 q), .int (τ 25 q)]) hx hb hts inX2 hown hK (hB 7 q hq) rfl 7 (by decide) lk133 rfl rfl dX3_paceOf_16 ?_
  refine lv_iconst (v := 1) hx hb dX3_paceOf_19 (by decide) ?_
  refine lv_iadd hx hb dX3_paceOf_20 ?_
  refine g_csr (va_runS (As := [.int ((τ 1 0) * ((τ 12 q) + 2)), .int ((τ 13 q) + 1)]) (rest := [.int (τ 2 0)]) ⟨hx, hb, hml, hown, hts⟩ (m_X3_dividedUp l D cy ((τ 1 0) * ((τ 12 q) + 2)) ((τ 13 q) + 1)) (va_cwS 2 hts gX3_paceOf_X3_dividedUp rfl rfl rfl (by decide +kernel) ⟨Nat.le_of_ble_eq_true rfl, Nat.le_of_ble_eq_true rfl⟩) (g_preS (B := (fun _ => True)) hK trivial) rfl rfl hl.1 rfl (lv_room (Nat.le_of_ble_eq_true rfl)) dX3_paceOf_21 ⟨Nat.zero_le _, Nat.zero_le _⟩) ?_
  refine va_mmin hx hb (by rw [hml]; exact hl.1.symm) hown (hts (.methodLink RX3 187 Lib.Math.min.name) (by decide +kernel)) (hts (.static Lib.Math.min.name) (by decide +kernel)) (hts (.initialized "java/lang/Math") (by decide +kernel)) (hts (.code Lib.Math.min.name Lib.Math.min.code 2 (some .int)) (by decide +kernel)) (Nat.le_of_ble_eq_true rfl) (Nat.le_of_ble_eq_true rfl) (Nat.zero_le _) (Nat.zero_le _) dX3_paceOf_24 ?_
  exact g_iret hx hb hr hlocks dX3_paceOf_27 rfl
end
section
/-! PolitecrawlModel: its state, and what its helpers read -/
/-- kinds of rows as the class's; 16 hosts, 17 sizes, 34 begin, 35 many, 36 shares; scalars: 30 thrown 31 span 32 used; numbers: 6 segments 7 begin 8 many -/
def cM : Nat → Nat := fun k => if k = 0 ∨ (6 ≤ k ∧ k ≤ 18) ∨ (34 ≤ k ∧ k ≤ 36) then 1 else 0
def mT (k : Nat) : Nat := if k = 14 ∨ k = 15 then 2 else 1
def mS (k : Nat) : Nat := if k = 18 then 900 else if k = 34 ∨ k = 35 then 15 else if k = 7 ∨ k = 8 ∨ k = 9 then 6 else 30
def rowM (σ : IT) (ν : NT) (k : Nat) : Nat → Int32 := if k = 16 then (fun j => nI (ν 5 j)) else if k = 17 then (fun j => nI (ν 3 j)) else if k = 34 then (fun j => nI (ν 7 j)) else if k = 35 then (fun j => nI (ν 8 j)) else σ k
def eM (cy : Nat → ClassId) (ad : NT) (σ : IT) (ν : NT) : Nat → Nat → va_E := fun k _ => if k = 0 then .inr (4, [.int (σ 30 0), .int (σ 0 0), .int (nI (ν 1 0)), .ref (ad 6 0), .ref (ad 7 0), .ref (ad 8 0), .ref (ad 9 0), .int (σ 1 0), .int (σ 2 0), .int (σ 3 0), .int (σ 31 0), .int (σ 32 0), .int (nI (ν 0 0)), .ref (ad 18 0), .ref (ad 17 0), .ref (ad 16 0), .ref (ad 10 0), .ref (ad 11 0), .ref (ad 12 0), .ref (ad 13 0), .ref (ad 14 0), .ref (ad 15 0), .int (nI (ν 6 0)), .ref (ad 34 0), .ref (ad 35 0), .ref (ad 36 0)])
  else .inl (cy (mT k), mS k, .inl (rowM σ ν k))
def MW (D : va_G) (cy : Nat → ClassId) (ad : NT) (σ : IT) (ν : NT) : Heap → Prop := fun H => wP D cM ad (eM cy ad σ ν) H
def MI (σ : IT) (ν : NT) : Prop := ν 0 0 ≤ 30 ∧ ν 1 0 ≤ 30 ∧ ∀ p, p < ν 0 0 → ν 5 p < 6 ∧ ν 3 p ≤ 30
def inB (v a b : Int32) : Bool := !decide (v < a) && !decide (b < v)
def hostB (h : Int32) : Bool := inB h 0 5
def pageB (ν : NT) (p : Int32) : Bool := inB p 0 (nI (ν 0 0) - 1)
def leftM (σ : IT) : Int32 := if (if σ 31 0 = σ 0 0 / 100 then σ 32 0 else 0) < σ 3 0 then σ 3 0 - (if σ 31 0 = σ 0 0 / 100 then σ 32 0 else 0) else 0
def openB (σ : IT) (ν : NT) (p : Nat) : Bool := keptB (σ 14 p) (σ 15 p) && (!decide (σ 0 0 < σ 11 p) && (!decide (σ 0 0 < σ 9 (ν 5 p)) && !decide (leftM σ ≤ 0)))
def addsB (σ : IT) (p q : Nat) : Bool := decide (gA (σ 10 q) (σ 13 q) * gB (σ 36 p) (σ 13 p) < gA (σ 10 p) (σ 13 p) * gB (σ 36 q) (σ 13 q))
theorem idx_page {ν : NT} {p : Int32} (h30 : ν 0 0 ≤ 30) (h : pageB ν p = true) : ∃ q, q < ν 0 0 ∧ p = nI q := by
  simp only [pageB, inB, Bool.and_eq_true, Bool.not_eq_true', decide_eq_false_iff_not] at h
  obtain ⟨h1, h2⟩ := h
  obtain ⟨j, hj, rfl⟩ := nI_of h1
  refine ⟨j, ?_, rfl⟩
  rcases Nat.eq_zero_or_pos (ν 0 0) with hz | hz
  · rw [hz] at h2
    exact absurd (show nI 0 - 1 < nI j by
      rw [Int32.lt_iff_toInt_lt, nI_toInt hj]
      have : (nI 0 - 1).toInt = -1 := by decide
      omega) h2
  · obtain ⟨n, hn⟩ : ∃ n, ν 0 0 = n + 1 := ⟨ν 0 0 - 1, by omega⟩
    rw [hn, nI_pred] at h2
    rw [nI_ltI (by omega) hj] at h2
    omega
theorem idx_page' {ν : NT} {q : Nat} (h30 : ν 0 0 ≤ 30) (hq : q < ν 0 0) : pageB ν (nI q) = true := by
  simp only [pageB, inB, Bool.and_eq_true, Bool.not_eq_true', decide_eq_false_iff_not]
  refine ⟨nI_pos (by omega), ?_⟩
  obtain ⟨n, hn⟩ : ∃ n, ν 0 0 = n + 1 := ⟨ν 0 0 - 1, by omega⟩
  rw [hn, nI_pred, nI_ltI (by omega) (by omega)]
  omega
theorem idx_host {h : Int32} (hh : hostB h = true) : ∃ q, q < 6 ∧ h = nI q := by
  simp only [hostB, inB, Bool.and_eq_true, Bool.not_eq_true', decide_eq_false_iff_not] at hh
  obtain ⟨h1, h2⟩ := hh
  obtain ⟨j, hj, rfl⟩ := nI_of h1
  refine ⟨j, ?_, rfl⟩
  have h3 : ¬ nI 5 < nI j := h2
  rw [nI_ltI (by decide) hj] at h3
  omega
theorem idx_host' {q : Nat} (hq : q < 6) : hostB (nI q) = true := by
  simp only [hostB, inB, Bool.and_eq_true, Bool.not_eq_true', decide_eq_false_iff_not]
  refine ⟨nI_pos (by omega), fun z => ?_⟩
  have h3 : nI 5 < nI q := z
  rw [nI_ltI (by decide) (by omega)] at h3
  omega

set_option maxHeartbeats 4000000 in
set_option maxRecDepth 100000 in
/-- in(v, a, b) -/
theorem m_X4_in (l : Launch) (D : va_G) (cy : Nat → ClassId) (v a b : Int32) : Met l yX4_in wsX4_in ({ frames := 0, cells := 0, slots := 0, locals := 0 } : Room) (va_Pc [.int v, .int a, .int b] (fun U => gK D cy U ∧ (fun _ => True) U.heap)) (rQ (some (.int (zb (inB v a b))))) 0 0 (fun _ => False) := by
  refine Met.ofW (cc := cX4_in) (maxL := 3) (ret := (some .boolean)) (by decide) rfl ?_
  intro p e s m args below meth c s₁ B9 hml hv
  obtain ⟨rfl, hK, hB⟩ := hv
  have hx := B9.exec
  have hb := B9.bytes
  have hr := B9.returns
  have hts := atoms_spec (ws := wsX4_in) B9.pre
  have hown : s.vm.findClass RX4 = some m.cls := findClass_of_methodNamed B9.named
  have hlocks := B9.notSynchronized
  have hl := lv_entry ([.int v, .int a, .int b]) (n := 3) (Nat.le_of_ble_eq_true rfl)
  rw [lg_entry_eq]
  generalize (lg_sl ([.int v, .int a, .int b]) ++ List.replicate (3 - (lg_sl ([.int v, .int a, .int b])).length) Slot.unset).toArray = ls at hl ⊢
  have hl : lv_has ls 3 [(0, .int v), (1, .int a), (2, .int b)] := hl
  refine lv_iload_n hx hb dX4_in_0 rfl (lv_at hl 0 rfl) ?_
  refine lv_iload_n hx hb dX4_in_1 rfl (lv_at hl 1 rfl) ?_
  refine lv_icmp_lt (tgt := 14) hx hb dX4_in_2 (by decide) (fun c_2 => ?_) (fun c_2 => ?_)
  · -- 2 t
    refine lv_iconst (v := 0) hx hb dX4_in_14 (by decide) ?_
    exact g_zret hx hb hr hlocks rfl dX4_in_15 (by simp [inB, zb, c_2])
  · -- 2 f
    refine lv_iload_n hx hb dX4_in_5 rfl (lv_at hl 0 rfl) ?_
    refine lv_iload_n hx hb dX4_in_6 rfl (lv_at hl 2 rfl) ?_
    refine lv_icmp_gt (tgt := 14) hx hb dX4_in_7 (by decide) (fun c_7 => ?_) (fun c_7 => ?_)
    · -- 7 t
      refine lv_iconst (v := 0) hx hb dX4_in_14 (by decide) ?_
      exact g_zret hx hb hr hlocks rfl dX4_in_15 (by simp [inB, zb, c_2, c_7])
    · -- 7 f
      refine lv_iconst (v := 1) hx hb dX4_in_10 (by decide) ?_
      refine lv_goto (tgt := 15) hx hb dX4_in_11 (by decide) ?_
      exact g_zret hx hb hr hlocks rfl dX4_in_15 (by simp [inB, zb, c_2, c_7])

set_option maxHeartbeats 4000000 in
set_option maxRecDepth 100000 in
/-- isHost(h) -/
theorem m_X4_isHost (l : Launch) (D : va_G) (cy : Nat → ClassId) (h : Int32) : Met l yX4_isHost wsX4_isHost ({ frames := 1, cells := 0, slots := 0, locals := 30 } : Room) (va_Pc [.int h] (fun U => gK D cy U ∧ (fun _ => True) U.heap)) (rQ (some (.int (zb (hostB h))))) 0 0 (fun _ => False) := by
  refine Met.ofW (cc := cX4_isHost) (maxL := 1) (ret := (some .boolean)) (by decide) rfl ?_
  intro p e s m args below meth c s₁ B9 hml hv
  obtain ⟨rfl, hK, hB⟩ := hv
  have hx := B9.exec
  have hb := B9.bytes
  have hr := B9.returns
  have hts := atoms_spec (ws := wsX4_isHost) B9.pre
  have hown : s.vm.findClass RX4 = some m.cls := findClass_of_methodNamed B9.named
  have hlocks := B9.notSynchronized
  have hl := lv_entry ([.int h]) (n := 1) (Nat.le_of_ble_eq_true rfl)
  rw [lg_entry_eq]
  generalize (lg_sl ([.int h]) ++ List.replicate (1 - (lg_sl ([.int h])).length) Slot.unset).toArray = ls at hl ⊢
  have hl : lv_has ls 1 [(0, .int h)] := hl
  refine lv_iload_n hx hb dX4_isHost_0 rfl (lv_at hl 0 rfl) ?_
  refine lv_iconst (v := 0) hx hb dX4_isHost_1 (by decide) ?_
  refine lv_iconst (v := 5) hx hb dX4_isHost_2 (by decide) ?_
  refine g_csr (va_runS (As := [.int h, .int 0, .int 5]) (rest := []) ⟨hx, hb, hml, hown, hts⟩ (m_X4_in l D cy (h) (0) (5)) (va_cwS 3 hts gX4_isHost_X4_in rfl rfl rfl (by decide +kernel) ⟨Nat.le_of_ble_eq_true rfl, Nat.le_of_ble_eq_true rfl⟩) (g_preS (B := (fun _ => True)) hK trivial) rfl rfl hl.1 rfl (lv_room (Nat.le_of_ble_eq_true rfl)) dX4_isHost_3 ⟨Nat.zero_le _, Nat.zero_le _⟩) ?_
  exact g_zret hx hb hr hlocks (by cases inB h 0 5 <;> rfl) dX4_isHost_6 rfl

set_option maxHeartbeats 4000000 in
set_option maxRecDepth 100000 in
/-- model: isPage -/
theorem m_X4_isPage (l : Launch) (D : va_G) (cy : Nat → ClassId) (ad : NT) (σ : IT) (ν : NT) (q : Int32) : Met l yX4_isPage wsX4_isPage ({ frames := 1, cells := 0, slots := 0, locals := 30 } : Room) (va_Pc [.ref (ad 0 0), .int q] (fun U => gK D cy U ∧ (MW D cy ad σ ν) U.heap)) (rQ (some (.int (zb (pageB ν q))))) 0 0 (fun _ => False) := by
  refine Met.ofW (cc := cX4_isPage) (maxL := 2) (ret := (some .boolean)) (by decide) rfl ?_
  intro p e s m args below meth c s₁ B9 hml hv
  obtain ⟨rfl, hK, hB⟩ := hv
  have hx := B9.exec
  have hb := B9.bytes
  have hr := B9.returns
  have hts := atoms_spec (ws := wsX4_isPage) B9.pre
  have hown : s.vm.findClass RX4 = some m.cls := findClass_of_methodNamed B9.named
  have hlocks := B9.notSynchronized
  have lk76 := hts (.fieldLink RX4 76 "PolitecrawlModel" "pages" "I") (by decide +kernel)
  have inX4 : ∀ w ∈ u_ws RX4 TX4 26, w ∈ wsX4_isPage := by decide +kernel
  have hl := lv_entry ([.ref (ad 0 0), .int q]) (n := 2) (Nat.le_of_ble_eq_true rfl)
  rw [lg_entry_eq]
  generalize (lg_sl ([.ref (ad 0 0), .int q]) ++ List.replicate (2 - (lg_sl ([.ref (ad 0 0), .int q])).length) Slot.unset).toArray = ls at hl ⊢
  have hl : lv_has ls 2 [(0, .ref (ad 0 0)), (1, .int q)] := hl
  refine lv_iload_n hx hb dX4_isPage_0 rfl (lv_at hl 1 rfl) ?_
  refine lv_iconst (v := 0) hx hb dX4_isPage_1 (by decide) ?_
  refine lv_aload_n hx hb dX4_isPage_2 rfl (lv_at hl 0 rfl) ?_
  refine g_get (C := RX4) (T := TX4) (N := 26) (ci := 4) (fs := [.int (σ 30 0), .int (σ 0 0), .int (nI (ν 1 0)), .ref (ad 6 0), .ref (ad 7 0), .ref (ad 8 0), .ref (ad 9 0), .int (σ 1 0), .int (σ 2 0), .int (σ 3 0), .int (σ 31 0), .int (σ 32 0), .int (nI (ν 0 0)), .ref (ad 18 0), .ref (ad 17 0), .ref (ad 16 0), .ref (ad 10 0), .ref (ad 11 0), .ref (ad 12 0), .ref (ad 13 0), .ref (ad 14 0), .ref (ad 15 0), .int (nI (ν 6 0)), .ref (ad 34 0), .ref (ad 35 0), .ref (ad 36 0)]) hx hb hts inX4 hown hK (hB 0 0 Nat.zero_lt_one) rfl 12 (by decide) lk76 rfl rfl dX4_isPage_3 ?_
  refine lv_iconst (v := 1) hx hb dX4_isPage_6 (by decide) ?_
  refine lv_isub hx hb dX4_isPage_7 ?_
  refine g_csr (va_runS (As := [.int q, .int 0, .int ((nI (ν 0 0)) - 1)]) (rest := []) ⟨hx, hb, hml, hown, hts⟩ (m_X4_in l D cy (q) (0) ((nI (ν 0 0)) - 1)) (va_cwS 3 hts gX4_isPage_X4_in rfl rfl rfl (by decide +kernel) ⟨Nat.le_of_ble_eq_true rfl, Nat.le_of_ble_eq_true rfl⟩) (g_preS (B := (fun _ => True)) hK trivial) rfl rfl hl.1 rfl (lv_room (Nat.le_of_ble_eq_true rfl)) dX4_isPage_8 ⟨Nat.zero_le _, Nat.zero_le _⟩) ?_
  exact g_zret hx hb hr hlocks (by cases inB q 0 (nI (ν 0 0) - 1) <;> rfl) dX4_isPage_11 rfl

set_option maxHeartbeats 4000000 in
set_option maxRecDepth 100000 in
/-- model: thrown -/
theorem m_X4_thrown (l : Launch) (D : va_G) (cy : Nat → ClassId) (ad : NT) (σ : IT) (ν : NT) : Met l yX4_thrown wsX4_thrown ({ frames := 0, cells := 0, slots := 0, locals := 0 } : Room) (va_Pc [.ref (ad 0 0)] (fun U => gK D cy U ∧ (MW D cy ad σ ν) U.heap)) (rQ (some (.int (σ 30 0)))) 0 0 (fun _ => False) := by
  refine Met.ofW (cc := cX4_thrown) (maxL := 1) (ret := (some .int)) (by decide) rfl ?_
  intro p e s m args below meth c s₁ B9 hml hv
  obtain ⟨rfl, hK, hB⟩ := hv
  have hx := B9.exec
  have hb := B9.bytes
  have hr := B9.returns
  have hts := atoms_spec (ws := wsX4_thrown) B9.pre
  have hown : s.vm.findClass RX4 = some m.cls := findClass_of_methodNamed B9.named
  have hlocks := B9.notSynchronized
  have lk69 := hts (.fieldLink RX4 69 "PolitecrawlModel" "thrown" "I") (by decide +kernel)
  have inX4 : ∀ w ∈ u_ws RX4 TX4 26, w ∈ wsX4_thrown := by decide +kernel
  have hl := lv_entry ([.ref (ad 0 0)]) (n := 1) (Nat.le_of_ble_eq_true rfl)
  rw [lg_entry_eq]
  generalize (lg_sl ([.ref (ad 0 0)]) ++ List.replicate (1 - (lg_sl ([.ref (ad 0 0)])).length) Slot.unset).toArray = ls at hl ⊢
  have hl : lv_has ls 1 [(0, .ref (ad 0 0))] := hl
  refine lv_aload_n hx hb dX4_thrown_0 rfl (lv_at hl 0 rfl) ?_
  refine g_get (C := RX4) (T := TX4) (N := 26) (ci := 4) (fs := [.int (σ 30 0), .int (σ 0 0), .int (nI (ν 1 0)), .ref (ad 6 0), .ref (ad 7 0), .ref (ad 8 0), .ref (ad 9 0), .int (σ 1 0), .int (σ 2 0), .int (σ 3 0), .int (σ 31 0), .int (σ 32 0), .int (nI (ν 0 0)), .ref (ad 18 0), .ref (ad 17 0), .ref (ad 16 0), .ref (ad 10 0), .ref (ad 11 0), .ref (ad 12 0), .ref (ad 13 0), .ref (ad 14 0), .ref (ad 15 0), .int (nI (ν 6 0)), .ref (ad 34 0), .ref (ad 35 0), .ref (ad 36 0)]) hx hb hts inX4 hown hK (hB 0 0 Nat.zero_lt_one) rfl 0 (by decide) lk69 rfl rfl dX4_thrown_1 ?_
  exact g_iret hx hb hr hlocks dX4_thrown_4 rfl

set_option maxHeartbeats 4000000 in
set_option maxRecDepth 100000 in
/-- model: counts -/
theorem m_X4_counts (l : Launch) (D : va_G) (cy : Nat → ClassId) (ad : NT) (σ : IT) (ν : NT) (q : Nat) (hq : q < 30) : Met l yX4_counts wsX4_counts ({ frames := 0, cells := 0, slots := 0, locals := 0 } : Room) (va_Pc [.ref (ad 0 0), .int (nI q)] (fun U => gK D cy U ∧ (MW D cy ad σ ν) U.heap)) (rQ (some (.int (zb (keptB (σ 14 q) (σ 15 q)))))) 0 0 (fun _ => False) := by
  refine Met.ofW (cc := cX4_counts) (maxL := 2) (ret := (some .boolean)) (by decide) rfl ?_
  intro p e s m args below meth c s₁ B9 hml hv
  obtain ⟨rfl, hK, hB⟩ := hv
  have hx := B9.exec
  have hb := B9.bytes
  have hr := B9.returns
  have hts := atoms_spec (ws := wsX4_counts) B9.pre
  have hown : s.vm.findClass RX4 = some m.cls := findClass_of_methodNamed B9.named
  have hlocks := B9.notSynchronized
  have lk53 := hts (.fieldLink RX4 53 "PolitecrawlModel" "gone" "[Z") (by decide +kernel)
  have inX4 : ∀ w ∈ u_ws RX4 TX4 26, w ∈ wsX4_counts := by decide +kernel
  have lk57 := hts (.fieldLink RX4 57 "PolitecrawlModel" "lost" "[Z") (by decide +kernel)
  have hl := lv_entry ([.ref (ad 0 0), .int (nI q)]) (n := 2) (Nat.le_of_ble_eq_true rfl)
  rw [lg_entry_eq]
  generalize (lg_sl ([.ref (ad 0 0), .int (nI q)]) ++ List.replicate (2 - (lg_sl ([.ref (ad 0 0), .int (nI q)])).length) Slot.unset).toArray = ls at hl ⊢
  have hl : lv_has ls 2 [(0, .ref (ad 0 0)), (1, .int (nI q))] := hl
  refine lv_aload_n hx hb dX4_counts_0 rfl (lv_at hl 0 rfl) ?_
  refine g_get (C := RX4) (T := TX4) (N := 26) (ci := 4) (fs := [.int (σ 30 0), .int (σ 0 0), .int (nI (ν 1 0)), .ref (ad 6 0), .ref (ad 7 0), .ref (ad 8 0), .ref (ad 9 0), .int (σ 1 0), .int (σ 2 0), .int (σ 3 0), .int (σ 31 0), .int (σ 32 0), .int (nI (ν 0 0)), .ref (ad 18 0), .ref (ad 17 0), .ref (ad 16 0), .ref (ad 10 0), .ref (ad 11 0), .ref (ad 12 0), .ref (ad 13 0), .ref (ad 14 0), .ref (ad 15 0), .int (nI (ν 6 0)), .ref (ad 34 0), .ref (ad 35 0), .ref (ad 36 0)]) hx hb hts inX4 hown hK (hB 0 0 Nat.zero_lt_one) rfl 20 (by decide) lk53 rfl rfl dX4_counts_1 ?_
  refine lv_iload_n hx hb dX4_counts_4 rfl (lv_at hl 1 rfl) ?_
  refine g_zald (f := σ 14) (x := σ 14 q) hx hb hK (hB 14 0 Nat.zero_lt_one) (vp_in_nI (N := 30) (by omega) (by decide)) (by rw [cl_nI (by omega)]) dX4_counts_5 ?_
  refine lv_if_ne (tgt := 22) hx hb dX4_counts_6 (by decide) (fun c_6 => ?_) (fun c_6 => ?_)
  · -- 6 t
    refine lv_iconst (v := 0) hx hb dX4_counts_22 (by decide) ?_
    exact g_zret hx hb hr hlocks rfl dX4_counts_23 (by simp [keptB, zb, c_6])
  · -- 6 f
    refine lv_aload_n hx hb dX4_counts_9 rfl (lv_at hl 0 rfl) ?_
    refine g_get (C := RX4) (T := TX4) (N := 26) (ci := 4) (fs := [.int (σ 30 0), .int (σ 0 0), .int (nI (ν 1 0)), .ref (ad 6 0), .ref (ad 7 0), .ref (ad 8 0), .ref (ad 9 0), .int (σ 1 0), .int (σ 2 0), .int (σ 3 0), .int (σ 31 0), .int (σ 32 0), .int (nI (ν 0 0)), .ref (ad 18 0), .ref (ad 17 0), .ref (ad 16 0), .ref (ad 10 0), .ref (ad 11 0), .ref (ad 12 0), .ref (ad 13 0), .ref (ad 14 0), .ref (ad 15 0), .int (nI (ν 6 0)), .ref (ad 34 0), .ref (ad 35 0), .ref (ad 36 0)]) hx hb hts inX4 hown hK (hB 0 0 Nat.zero_lt_one) rfl 21 (by decide) lk57 rfl rfl dX4_counts_10 ?_
    refine lv_iload_n hx hb dX4_counts_13 rfl (lv_at hl 1 rfl) ?_
    refine g_zald (f := σ 15) (x := σ 15 q) hx hb hK (hB 15 0 Nat.zero_lt_one) (vp_in_nI (N := 30) (by omega) (by decide)) (by rw [cl_nI (by omega)]) dX4_counts_14 ?_
    refine lv_if_ne (tgt := 22) hx hb dX4_counts_15 (by decide) (fun c_15 => ?_) (fun c_15 => ?_)
    · -- 15 t
      refine lv_iconst (v := 0) hx hb dX4_counts_22 (by decide) ?_
      exact g_zret hx hb hr hlocks rfl dX4_counts_23 (by simp [keptB, zb, c_6, c_15])
    · -- 15 f
      refine lv_iconst (v := 1) hx hb dX4_counts_18 (by decide) ?_
      refine lv_goto (tgt := 23) hx hb dX4_counts_19 (by decide) ?_
      exact g_zret hx hb hr hlocks rfl dX4_counts_23 (by simp [keptB, zb, c_6, c_15])

set_option maxHeartbeats 4000000 in
set_option maxRecDepth 100000 in
/-- model: left -/
theorem m_X4_left (l : Launch) (D : va_G) (cy : Nat → ClassId) (ad : NT) (σ : IT) (ν : NT) : Met l yX4_left wsX4_left ({ frames := 0, cells := 0, slots := 0, locals := 0 } : Room) (va_Pc [.ref (ad 0 0)] (fun U => gK D cy U ∧ (MW D cy ad σ ν) U.heap)) (rQ (some (.int (leftM σ)))) 0 0 (fun _ => False) := by
  refine Met.ofW (cc := cX4_left) (maxL := 2) (ret := (some .int)) (by decide) rfl ?_
  intro p e s m args below meth c s₁ B9 hml hv
  obtain ⟨rfl, hK, hB⟩ := hv
  have hx := B9.exec
  have hb := B9.bytes
  have hr := B9.returns
  have hts := atoms_spec (ws := wsX4_left) B9.pre
  have hown : s.vm.findClass RX4 = some m.cls := findClass_of_methodNamed B9.named
  have hlocks := B9.notSynchronized
  have lk119 := hts (.fieldLink RX4 119 "PolitecrawlModel" "span" "I") (by decide +kernel)
  have inX4 : ∀ w ∈ u_ws RX4 TX4 26, w ∈ wsX4_left := by decide +kernel
  have lk110 := hts (.fieldLink RX4 110 "PolitecrawlModel" "now" "I") (by decide +kernel)
  have lk122 := hts (.fieldLink RX4 122 "PolitecrawlModel" "used" "I") (by decide +kernel)
  have lk29 := hts (.fieldLink RX4 29 "PolitecrawlModel" "budget" "I") (by decide +kernel)
  have hl := lv_entry ([.ref (ad 0 0)]) (n := 2) (Nat.le_of_ble_eq_true rfl)
  rw [lg_entry_eq]
  generalize (lg_sl ([.ref (ad 0 0)]) ++ List.replicate (2 - (lg_sl ([.ref (ad 0 0)])).length) Slot.unset).toArray = ls at hl ⊢
  have hl : lv_has ls 2 [(0, .ref (ad 0 0))] := hl
  refine lv_aload_n hx hb dX4_left_0 rfl (lv_at hl 0 rfl) ?_
  refine g_get (C := RX4) (T := TX4) (N := 26) (ci := 4) (fs := [.int (σ 30 0), .int (σ 0 0), .int (nI (ν 1 0)), .ref (ad 6 0), .ref (ad 7 0), .ref (ad 8 0), .ref (ad 9 0), .int (σ 1 0), .int (σ 2 0), .int (σ 3 0), .int (σ 31 0), .int (σ 32 0), .int (nI (ν 0 0)), .ref (ad 18 0), .ref (ad 17 0), .ref (ad 16 0), .ref (ad 10 0), .ref (ad 11 0), .ref (ad 12 0), .ref (ad 13 0), .ref (ad 14 0), .ref (ad 15 0), .int (nI (ν 6 0)), .ref (ad 34 0), .ref (ad 35 0), .ref (ad 36 0)]) hx hb hts inX4 hown hK (hB 0 0 Nat.zero_lt_one) rfl 10 (by decide) lk119 rfl rfl dX4_left_1 ?_
  refine lv_aload_n hx hb dX4_left_4 rfl (lv_at hl 0 rfl) ?_
  refine g_get (C := RX4) (T := TX4) (N := 26) (ci := 4) (fs := [.int (σ 30 0), .int (σ 0 0), .int (nI (ν 1 0)), .ref (ad 6 0), .ref (ad 7 0), .ref (ad 8 0), .ref (ad 9 0), .int (σ 1 0), .int (σ 2 0), .int (σ 3 0), .int (σ 31 0), .int (σ 32 0), .int (nI (ν 0 0)), .ref (ad 18 0), .ref (ad 17 0), .ref (ad 16 0), .ref (ad 10 0), .ref (ad 11 0), .ref (ad 12 0), .ref (ad 13 0), .ref (ad 14 0), .ref (ad 15 0), .int (nI (ν 6 0)), .ref (ad 34 0), .ref (ad 35 0), .ref (ad 36 0)]) hx hb hts inX4 hown hK (hB 0 0 Nat.zero_lt_one) rfl 1 (by decide) lk110 rfl rfl dX4_left_5 ?_
  refine lv_bipush (v := 100) hx hb dX4_left_8 (by decide) ?_
  refine lv_idiv hx hb dX4_left_10 (by decide) ?_
  refine lv_icmp_ne (tgt := 21) hx hb dX4_left_11 (by decide) (fun c_11 => ?_) (fun c_11 => ?_)
  · -- 11 t
    refine lv_iconst (v := 0) hx hb dX4_left_21 (by decide) ?_
    refine lv_istore_n (lv' := [(1, .int 0), (0, .ref (ad 0 0))]) hx hb dX4_left_22 rfl hl (by decide) rfl (fun ls hl => ?_)
    refine lv_iload_n hx hb dX4_left_23 rfl (lv_at hl 0 rfl) ?_
    refine lv_aload_n hx hb dX4_left_24 rfl (lv_at hl 1 rfl) ?_
    refine g_get (C := RX4) (T := TX4) (N := 26) (ci := 4) (fs := [.int (σ 30 0), .int (σ 0 0), .int (nI (ν 1 0)), .ref (ad 6 0), .ref (ad 7 0), .ref (ad 8 0), .ref (ad 9 0), .int (σ 1 0), .int (σ 2 0), .int (σ 3 0), .int (σ 31 0), .int (σ 32 0), .int (nI (ν 0 0)), .ref (ad 18 0), .ref (ad 17 0), .ref (ad 16 0), .ref (ad 10 0), .ref (ad 11 0), .ref (ad 12 0), .ref (ad 13 0), .ref (ad 14 0), .ref (ad 15 0), .int (nI (ν 6 0)), .ref (ad 34 0), .ref (ad 35 0), .ref (ad 36 0)]) hx hb hts inX4 hown hK (hB 0 0 Nat.zero_lt_one) rfl 9 (by decide) lk29 rfl rfl dX4_left_25 ?_
    refine lv_icmp_ge (tgt := 40) hx hb dX4_left_28 (by decide) (fun c_28 => ?_) (fun c_28 => ?_)
    · -- 28 t
      refine lv_iconst (v := 0) hx hb dX4_left_40 (by decide) ?_
      exact g_iret hx hb hr hlocks dX4_left_41 (by simp only [leftM, if_neg c_11, if_neg (Int32.not_lt.mpr c_28)])
    · -- 28 f
      refine lv_aload_n hx hb dX4_left_31 rfl (lv_at hl 1 rfl) ?_
      refine g_get (C := RX4) (T := TX4) (N := 26) (ci := 4) (fs := [.int (σ 30 0), .int (σ 0 0), .int (nI (ν 1 0)), .ref (ad 6 0), .ref (ad 7 0), .ref (ad 8 0), .ref (ad 9 0), .int (σ 1 0), .int (σ 2 0), .int (σ 3 0), .int (σ 31 0), .int (σ 32 0), .int (nI (ν 0 0)), .ref (ad 18 0), .ref (ad 17 0), .ref (ad 16 0), .ref (ad 10 0), .ref (ad 11 0), .ref (ad 12 0), .ref (ad 13 0), .ref (ad 14 0), .ref (ad 15 0), .int (nI (ν 6 0)), .ref (ad 34 0), .ref (ad 35 0), .ref (ad 36 0)]) hx hb hts inX4 hown hK (hB 0 0 Nat.zero_lt_one) rfl 9 (by decide) lk29 rfl rfl dX4_left_32 ?_
      refine lv_iload_n hx hb dX4_left_35 rfl (lv_at hl 0 rfl) ?_
      refine lv_isub hx hb dX4_left_36 ?_
      refine lv_goto (tgt := 41) hx hb dX4_left_37 (by decide) ?_
      exact g_iret hx hb hr hlocks dX4_left_41 (by simp only [leftM, if_neg c_11, if_pos (Int32.not_le.mp c_28)])
  · -- 11 f
    refine lv_aload_n hx hb dX4_left_14 rfl (lv_at hl 0 rfl) ?_
    refine g_get (C := RX4) (T := TX4) (N := 26) (ci := 4) (fs := [.int (σ 30 0), .int (σ 0 0), .int (nI (ν 1 0)), .ref (ad 6 0), .ref (ad 7 0), .ref (ad 8 0), .ref (ad 9 0), .int (σ 1 0), .int (σ 2 0), .int (σ 3 0), .int (σ 31 0), .int (σ 32 0), .int (nI (ν 0 0)), .ref (ad 18 0), .ref (ad 17 0), .ref (ad 16 0), .ref (ad 10 0), .ref (ad 11 0), .ref (ad 12 0), .ref (ad 13 0), .ref (ad 14 0), .ref (ad 15 0), .int (nI (ν 6 0)), .ref (ad 34 0), .ref (ad 35 0), .ref (ad 36 0)]) hx hb hts inX4 hown hK (hB 0 0 Nat.zero_lt_one) rfl 11 (by decide) lk122 rfl rfl dX4_left_15 ?_
    refine lv_goto (tgt := 22) hx hb dX4_left_18 (by decide) ?_
    refine lv_istore_n (lv' := [(1, .int (σ 32 0)), (0, .ref (ad 0 0))]) hx hb dX4_left_22 rfl hl (by decide) rfl (fun ls hl => ?_)
    refine lv_iload_n hx hb dX4_left_23 rfl (lv_at hl 0 rfl) ?_
    refine lv_aload_n hx hb dX4_left_24 rfl (lv_at hl 1 rfl) ?_
    refine g_get (C := RX4) (T := TX4) (N := 26) (ci := 4) (fs := [.int (σ 30 0), .int (σ 0 0), .int (nI (ν 1 0)), .ref (ad 6 0), .ref (ad 7 0), .ref (ad 8 0), .ref (ad 9 0), .int (σ 1 0), .int (σ 2 0), .int (σ 3 0), .int (σ 31 0), .int (σ 32 0), .int (nI (ν 0 0)), .ref (ad 18 0), .ref (ad 17 0), .ref (ad 16 0), .ref (ad 10 0), .ref (ad 11 0), .ref (ad 12 0), .ref (ad 13 0), .ref (ad 14 0), .ref (ad 15 0), .int (nI (ν 6 0)), .ref (ad 34 0), .ref (ad 35 0), .ref (ad 36 0)]) hx hb hts inX4 hown hK (hB 0 0 Nat.zero_lt_one) rfl 9 (by decide) lk29 rfl rfl dX4_left_25 ?_
    refine lv_icmp_ge (tgt := 40) hx hb dX4_left_28 (by decide) (fun c_28 => ?_) (fun c_28 => ?_)
    · -- 28 t
      refine lv_iconst (v := 0) hx hb dX4_left_40 (by decide) ?_
      exact g_iret hx hb hr hlocks dX4_left_41 (by simp only [leftM, if_pos c_11, if_neg (Int32.not_lt.mpr c_28)])
    · -- 28 f
      refine lv_aload_n hx hb dX4_left_31 rfl (lv_at hl 1 rfl) ?_
      refine g_get (C := RX4) (T := TX4) (N := 26) (ci := 4) (fs := [.int (σ 30 0), .int (σ 0 0), .int (nI (ν 1 0)), .ref (ad 6 0), .ref (ad 7 0), .ref (ad 8 0), .ref (ad 9 0), .int (σ 1 0), .int (σ 2 0), .int (σ 3 0), .int (σ 31 0), .int (σ 32 0), .int (nI (ν 0 0)), .ref (ad 18 0), .ref (ad 17 0), .ref (ad 16 0), .ref (ad 10 0), .ref (ad 11 0), .ref (ad 12 0), .ref (ad 13 0), .ref (ad 14 0), .ref (ad 15 0), .int (nI (ν 6 0)), .ref (ad 34 0), .ref (ad 35 0), .ref (ad 36 0)]) hx hb hts inX4 hown hK (hB 0 0 Nat.zero_lt_one) rfl 9 (by decide) lk29 rfl rfl dX4_left_32 ?_
      refine lv_iload_n hx hb dX4_left_35 rfl (lv_at hl 0 rfl) ?_
      refine lv_isub hx hb dX4_left_36 ?_
      refine lv_goto (tgt := 41) hx hb dX4_left_37 (by decide) ?_
      exact g_iret hx hb hr hlocks dX4_left_41 (by simp only [leftM, if_pos c_11, if_pos (Int32.not_le.mp c_28)])

set_option maxHeartbeats 4000000 in
set_option maxRecDepth 100000 in
/-- model: isOpen -/
theorem m_X4_isOpen (l : Launch) (D : va_G) (cy : Nat → ClassId) (ad : NT) (σ : IT) (ν : NT) (hI : MI σ ν) (q : Nat) (hq : q < ν 0 0) : Met l yX4_isOpen wsX4_isOpen ({ frames := 1, cells := 0, slots := 0, locals := 30 } : Room) (va_Pc [.ref (ad 0 0), .int (nI q)] (fun U => gK D cy U ∧ (MW D cy ad σ ν) U.heap)) (rQ (some (.int (zb (openB σ ν q))))) 0 0 (fun _ => False) := by
  refine Met.ofW (cc := cX4_isOpen) (maxL := 2) (ret := (some .boolean)) (by decide) rfl ?_
  intro p e s m args below meth c s₁ B9 hml hv
  obtain ⟨rfl, hK, hB⟩ := hv
  have hx := B9.exec
  have hb := B9.bytes
  have hr := B9.returns
  have hts := atoms_spec (ws := wsX4_isOpen) B9.pre
  have hown : s.vm.findClass RX4 = some m.cls := findClass_of_methodNamed B9.named
  have hlocks := B9.notSynchronized
  have lk44 := hts (.fieldLink RX4 44 "PolitecrawlModel" "due" "[I") (by decide +kernel)
  have inX4 : ∀ w ∈ u_ws RX4 TX4 26, w ∈ wsX4_isOpen := by decide +kernel
  have lk110 := hts (.fieldLink RX4 110 "PolitecrawlModel" "now" "I") (by decide +kernel)
  have lk19 := hts (.fieldLink RX4 19 "PolitecrawlModel" "openFrom" "[I") (by decide +kernel)
  have lk38 := hts (.fieldLink RX4 38 "PolitecrawlModel" "host" "[I") (by decide +kernel)
  have hl := lv_entry ([.ref (ad 0 0), .int (nI q)]) (n := 2) (Nat.le_of_ble_eq_true rfl)
  rw [lg_entry_eq]
  generalize (lg_sl ([.ref (ad 0 0), .int (nI q)]) ++ List.replicate (2 - (lg_sl ([.ref (ad 0 0), .int (nI q)])).length) Slot.unset).toArray = ls at hl ⊢
  have hl : lv_has ls 2 [(0, .ref (ad 0 0)), (1, .int (nI q))] := hl
  have hq30 : q < 30 := Nat.lt_of_lt_of_le hq hI.1
  have hh6 : ν 5 q < 6 := (hI.2.2 q hq).1
  refine lv_aload_n hx hb dX4_isOpen_0 rfl (lv_at hl 0 rfl) ?_
  refine lv_iload_n hx hb dX4_isOpen_1 rfl (lv_at hl 1 rfl) ?_
  refine g_csr (va_runV (As := [.int (nI q)]) (rest := []) ⟨hx, hb, hml, hown, hts⟩ (m_X4_counts l D cy ad σ ν q hq30) (cwV 1 hts gX4_isOpen_X4_counts rfl rfl rfl (by decide +kernel) ⟨Nat.le_of_ble_eq_true rfl, Nat.le_of_ble_eq_true rfl⟩) (g_preV (C := RX4) (B := (MW D cy ad σ ν)) hK hB (hB 0 0 Nat.zero_lt_one) rfl) rfl rfl hl.1 rfl (lv_room (Nat.le_of_ble_eq_true rfl)) dX4_isOpen_2 ⟨Nat.zero_le _, Nat.zero_le _⟩) ?_
  refine lv_if_eq (tgt := 50) hx hb dX4_isOpen_5 (by decide) (fun c_5 => ?_) (fun c_5 => ?_)
  · -- 5 t
    refine lv_iconst (v := 0) hx hb dX4_isOpen_50 (by decide) ?_
    exact g_zret hx hb hr hlocks rfl dX4_isOpen_51 (by simp [openB, zb_0.mp c_5, zb])
  · -- 5 f
    refine lv_aload_n hx hb dX4_isOpen_8 rfl (lv_at hl 0 rfl) ?_
    refine g_get (C := RX4) (T := TX4) (N := 26) (ci := 4) (fs := [.int (σ 30 0), .int (σ 0 0), .int (nI (ν 1 0)), .ref (ad 6 0), .ref (ad 7 0), .ref (ad 8 0), .ref (ad 9 0), .int (σ 1 0), .int (σ 2 0), .int (σ 3 0), .int (σ 31 0), .int (σ 32 0), .int (nI (ν 0 0)), .ref (ad 18 0), .ref (ad 17 0), .ref (ad 16 0), .ref (ad 10 0), .ref (ad 11 0), .ref (ad 12 0), .ref (ad 13 0), .ref (ad 14 0), .ref (ad 15 0), .int (nI (ν 6 0)), .ref (ad 34 0), .ref (ad 35 0), .ref (ad 36 0)]) hx hb hts inX4 hown hK (hB 0 0 Nat.zero_lt_one) rfl 17 (by decide) lk44 rfl rfl dX4_isOpen_9 ?_
    refine lv_iload_n hx hb dX4_isOpen_12 rfl (lv_at hl 1 rfl) ?_
    refine g_iald (f := σ 11) (x := σ 11 q) hx hb hK (hB 11 0 Nat.zero_lt_one) (vp_in_nI (N := 30) (by omega) (by decide)) (by rw [cl_nI (by omega)]) dX4_isOpen_13 ?_
    refine lv_aload_n hx hb dX4_isOpen_14 rfl (lv_at hl 0 rfl) ?_
    refine g_get (C := RX4) (T := TX4) (N := 26) (ci := 4) (fs := [.int (σ 30 0), .int (σ 0 0), .int (nI (ν 1 0)), .ref (ad 6 0), .ref (ad 7 0), .ref (ad 8 0), .ref (ad 9 0), .int (σ 1 0), .int (σ 2 0), .int (σ 3 0), .int (σ 31 0), .int (σ 32 0), .int (nI (ν 0 0)), .ref (ad 18 0), .ref (ad 17 0), .ref (ad 16 0), .ref (ad 10 0), .ref (ad 11 0), .ref (ad 12 0), .ref (ad 13 0), .ref (ad 14 0), .ref (ad 15 0), .int (nI (ν 6 0)), .ref (ad 34 0), .ref (ad 35 0), .ref (ad 36 0)]) hx hb hts inX4 hown hK (hB 0 0 Nat.zero_lt_one) rfl 1 (by decide) lk110 rfl rfl dX4_isOpen_15 ?_
    refine lv_icmp_gt (tgt := 50) hx hb dX4_isOpen_18 (by decide) (fun c_18 => ?_) (fun c_18 => ?_)
    · -- 18 t
      refine lv_iconst (v := 0) hx hb dX4_isOpen_50 (by decide) ?_
      exact g_zret hx hb hr hlocks rfl dX4_isOpen_51 (by simp [openB, zb_n0.mp c_5, zb, c_18])
    · -- 18 f
      refine lv_aload_n hx hb dX4_isOpen_21 rfl (lv_at hl 0 rfl) ?_
      refine g_get (C := RX4) (T := TX4) (N := 26) (ci := 4) (fs := [.int (σ 30 0), .int (σ 0 0), .int (nI (ν 1 0)), .ref (ad 6 0), .ref (ad 7 0), .ref (ad 8 0), .ref (ad 9 0), .int (σ 1 0), .int (σ 2 0), .int (σ 3 0), .int (σ 31 0), .int (σ 32 0), .int (nI (ν 0 0)), .ref (ad 18 0), .ref (ad 17 0), .ref (ad 16 0), .ref (ad 10 0), .ref (ad 11 0), .ref (ad 12 0), .ref (ad 13 0), .ref (ad 14 0), .ref (ad 15 0), .int (nI (ν 6 0)), .ref (ad 34 0), .ref (ad 35 0), .ref (ad 36 0)]) hx hb hts inX4 hown hK (hB 0 0 Nat.zero_lt_one) rfl 6 (by decide) lk19 rfl rfl dX4_isOpen_22 ?_
      refine lv_aload_n hx hb dX4_isOpen_25 rfl (lv_at hl 0 rfl) ?_
      refine g_get (C := RX4) (T := TX4) (N := 26) (ci := 4) (fs := [.int (σ 30 0), .int (σ 0 0), .int (nI (ν 1 0)), .ref (ad 6 0), .ref (ad 7 0), .ref (ad 8 0), .ref (ad 9 0), .int (σ 1 0), .int (σ 2 0), .int (σ 3 0), .int (σ 31 0), .int (σ 32 0), .int (nI (ν 0 0)), .ref (ad 18 0), .ref (ad 17 0), .ref (ad 16 0), .ref (ad 10 0), .ref (ad 11 0), .ref (ad 12 0), .ref (ad 13 0), .ref (ad 14 0), .ref (ad 15 0), .int (nI (ν 6 0)), .ref (ad 34 0), .ref (ad 35 0), .ref (ad 36 0)]) hx hb hts inX4 hown hK (hB 0 0 Nat.zero_lt_one) rfl 15 (by decide) lk38 rfl rfl dX4_isOpen_26 ?_
      refine lv_iload_n hx hb dX4_isOpen_29 rfl (lv_at hl 1 rfl) ?_
      refine g_iald (f := fun j => nI (ν 5 j)) (x := nI (ν 5 q)) hx hb hK (hB 16 0 Nat.zero_lt_one) (vp_in_nI (N := 30) (by omega) (by decide)) (by rw [cl_nI (by omega)]) dX4_isOpen_30 ?_
      refine g_iald (f := σ 9) (x := σ 9 (ν 5 q)) hx hb hK (hB 9 0 Nat.zero_lt_one) (vp_in_nI (N := 6) (by omega) (by decide)) (by rw [cl_nI (by omega)]) dX4_isOpen_31 ?_
      refine lv_aload_n hx hb dX4_isOpen_32 rfl (lv_at hl 0 rfl) ?_
      refine g_get (C := RX4) (T := TX4) (N := 26) (ci := 4) (fs := [.int (σ 30 0), .int (σ 0 0), .int (nI (ν 1 0)), .ref (ad 6 0), .ref (ad 7 0), .ref (ad 8 0), .ref (ad 9 0), .int (σ 1 0), .int (σ 2 0), .int (σ 3 0), .int (σ 31 0), .int (σ 32 0), .int (nI (ν 0 0)), .ref (ad 18 0), .ref (ad 17 0), .ref (ad 16 0), .ref (ad 10 0), .ref (ad 11 0), .ref (ad 12 0), .ref (ad 13 0), .ref (ad 14 0), .ref (ad 15 0), .int (nI (ν 6 0)), .ref (ad 34 0), .ref (ad 35 0), .ref (ad 36 0)]) hx hb hts inX4 hown hK (hB 0 0 Nat.zero_lt_one) rfl 1 (by decide) lk110 rfl rfl dX4_isOpen_33 ?_
      refine lv_icmp_gt (tgt := 50) hx hb dX4_isOpen_36 (by decide) (fun c_36 => ?_) (fun c_36 => ?_)
      · -- 36 t
        refine lv_iconst (v := 0) hx hb dX4_isOpen_50 (by decide) ?_
        exact g_zret hx hb hr hlocks rfl dX4_isOpen_51 (by simp [openB, zb_n0.mp c_5, zb, c_18, c_36])
      · -- 36 f
        refine lv_aload_n hx hb dX4_isOpen_39 rfl (lv_at hl 0 rfl) ?_
        refine g_csr (va_runV (As := []) (rest := []) ⟨hx, hb, hml, hown, hts⟩ (m_X4_left l D cy ad σ ν) (cwV 0 hts gX4_isOpen_X4_left rfl rfl rfl (by decide +kernel) ⟨Nat.le_of_ble_eq_true rfl, Nat.le_of_ble_eq_true rfl⟩) (g_preV (C := RX4) (B := (MW D cy ad σ ν)) hK hB (hB 0 0 Nat.zero_lt_one) rfl) rfl rfl hl.1 rfl (lv_room (Nat.le_of_ble_eq_true rfl)) dX4_isOpen_40 ⟨Nat.zero_le _, Nat.zero_le _⟩) ?_
        refine lv_if_le (tgt := 50) hx hb dX4_isOpen_43 (by decide) (fun c_43 => ?_) (fun c_43 => ?_)
        · -- 43 t
          refine lv_iconst (v := 0) hx hb dX4_isOpen_50 (by decide) ?_
          exact g_zret hx hb hr hlocks rfl dX4_isOpen_51 (by simp [openB, zb_n0.mp c_5, zb, c_18, c_36, c_43])
        · -- 43 f
          refine lv_iconst (v := 1) hx hb dX4_isOpen_46 (by decide) ?_
          refine lv_goto (tgt := 51) hx hb dX4_isOpen_47 (by decide) ?_
          exact g_zret hx hb hr hlocks rfl dX4_isOpen_51 (by simp [openB, zb_n0.mp c_5, zb, c_18, c_36, c_43])

set_option maxHeartbeats 4000000 in
set_option maxRecDepth 100000 in
/-- model: addsMore -/
theorem m_X4_addsMore (l : Launch) (D : va_G) (cy : Nat → ClassId) (ad : NT) (σ : IT) (ν : NT) (p9 q9 : Nat) (hp9 : p9 < 30) (hq9 : q9 < 30) : Met l yX4_addsMore wsX4_addsMore ({ frames := 0, cells := 0, slots := 0, locals := 0 } : Room) (va_Pc [.ref (ad 0 0), .int (nI p9), .int (nI q9)] (fun U => gK D cy U ∧ (MW D cy ad σ ν) U.heap)) (rQ (some (.int (zb (addsB σ p9 q9))))) 0 0 (fun _ => False) := by
  refine Met.ofW (cc := cX4_addsMore) (maxL := 11) (ret := (some .boolean)) (by decide) rfl ?_
  intro p e s m args below meth c s₁ B9 hml hv
  obtain ⟨rfl, hK, hB⟩ := hv
  have hx := B9.exec
  have hb := B9.bytes
  have hr := B9.returns
  have hts := atoms_spec (ws := wsX4_addsMore) B9.pre
  have hown : s.vm.findClass RX4 = some m.cls := findClass_of_methodNamed B9.named
  have hlocks := B9.notSynchronized
  have lk41 := hts (.fieldLink RX4 41 "PolitecrawlModel" "rank" "[I") (by decide +kernel)
  have inX4 : ∀ w ∈ u_ws RX4 TX4 26, w ∈ wsX4_addsMore := by decide +kernel
  have lk50 := hts (.fieldLink RX4 50 "PolitecrawlModel" "changes" "[I") (by decide +kernel)
  have lk66 := hts (.fieldLink RX4 66 "PolitecrawlModel" "shares" "[I") (by decide +kernel)
  have hl := lv_entry ([.ref (ad 0 0), .int (nI p9), .int (nI q9)]) (n := 11) (Nat.le_of_ble_eq_true rfl)
  rw [lg_entry_eq]
  generalize (lg_sl ([.ref (ad 0 0), .int (nI p9), .int (nI q9)]) ++ List.replicate (11 - (lg_sl ([.ref (ad 0 0), .int (nI p9), .int (nI q9)])).length) Slot.unset).toArray = ls at hl ⊢
  have hl : lv_has ls 11 [(0, .ref (ad 0 0)), (1, .int (nI p9)), (2, .int (nI q9))] := hl
  refine lv_aload_n hx hb dX4_addsMore_0 rfl (lv_at hl 0 rfl) ?_
  refine g_get (C := RX4) (T := TX4) (N := 26) (ci := 4) (fs := [.int (σ 30 0), .int (σ 0 0), .int (nI (ν 1 0)), .ref (ad 6 0), .ref (ad 7 0), .ref (ad 8 0), .ref (ad 9 0), .int (σ 1 0), .int (σ 2 0), .int (σ 3 0), .int (σ 31 0), .int (σ 32 0), .int (nI (ν 0 0)), .ref (ad 18 0), .ref (ad 17 0), .ref (ad 16 0), .ref (ad 10 0), .ref (ad 11 0), .ref (ad 12 0), .ref (ad 13 0), .ref (ad 14 0), .ref (ad 15 0), .int (nI (ν 6 0)), .ref (ad 34 0), .ref (ad 35 0), .ref (ad 36 0)]) hx hb hts inX4 hown hK (hB 0 0 Nat.zero_lt_one) rfl 16 (by decide) lk41 rfl rfl dX4_addsMore_1 ?_
  refine lv_iload_n hx hb dX4_addsMore_4 rfl (lv_at hl 1 rfl) ?_
  refine g_iald (f := σ 10) (x := σ 10 p9) hx hb hK (hB 10 0 Nat.zero_lt_one) (vp_in_nI (N := 30) (by omega) (by decide)) (by rw [cl_nI (by omega)]) dX4_addsMore_5 ?_
  refine lv_i2l hx hb dX4_addsMore_6 rfl ?_
  refine lv_lconst (v := 1) hx hb dX4_addsMore_7 rfl ?_
  refine lv_ladd hx hb dX4_addsMore_8 ?_
  refine lv_aload_n hx hb dX4_addsMore_9 rfl (lv_at hl 0 rfl) ?_
  refine g_get (C := RX4) (T := TX4) (N := 26) (ci := 4) (fs := [.int (σ 30 0), .int (σ 0 0), .int (nI (ν 1 0)), .ref (ad 6 0), .ref (ad 7 0), .ref (ad 8 0), .ref (ad 9 0), .int (σ 1 0), .int (σ 2 0), .int (σ 3 0), .int (σ 31 0), .int (σ 32 0), .int (nI (ν 0 0)), .ref (ad 18 0), .ref (ad 17 0), .ref (ad 16 0), .ref (ad 10 0), .ref (ad 11 0), .ref (ad 12 0), .ref (ad 13 0), .ref (ad 14 0), .ref (ad 15 0), .int (nI (ν 6 0)), .ref (ad 34 0), .ref (ad 35 0), .ref (ad 36 0)]) hx hb hts inX4 hown hK (hB 0 0 Nat.zero_lt_one) rfl 19 (by decide) lk50 rfl rfl dX4_addsMore_10 ?_
  refine lv_iload_n hx hb dX4_addsMore_13 rfl (lv_at hl 1 rfl) ?_
  refine g_iald (f := σ 13) (x := σ 13 p9) hx hb hK (hB 13 0 Nat.zero_lt_one) (vp_in_nI (N := 30) (by omega) (by decide)) (by rw [cl_nI (by omega)]) dX4_addsMore_14 ?_
  refine lv_i2l hx hb dX4_addsMore_15 rfl ?_
  refine lv_lconst (v := 1) hx hb dX4_addsMore_16 rfl ?_
  refine lv_ladd hx hb dX4_addsMore_17 ?_
  refine lv_lmul hx hb dX4_addsMore_18 ?_
  refine lv_lstore_n (lv' := [(3, .long ((((σ 10 p9).toInt64) + 1) * (((σ 13 p9).toInt64) + 1))), (0, .ref (ad 0 0)), (1, .int (nI p9)), (2, .int (nI q9))]) hx hb dX4_addsMore_19 rfl hl (by decide) rfl (fun ls hl => ?_)
  refine lv_aload_n hx hb dX4_addsMore_20 rfl (lv_at hl 1 rfl) ?_
  refine g_get (C := RX4) (T := TX4) (N := 26) (ci := 4) (fs := [.int (σ 30 0), .int (σ 0 0), .int (nI (ν 1 0)), .ref (ad 6 0), .ref (ad 7 0), .ref (ad 8 0), .ref (ad 9 0), .int (σ 1 0), .int (σ 2 0), .int (σ 3 0), .int (σ 31 0), .int (σ 32 0), .int (nI (ν 0 0)), .ref (ad 18 0), .ref (ad 17 0), .ref (ad 16 0), .ref (ad 10 0), .ref (ad 11 0), .ref (ad 12 0), .ref (ad 13 0), .ref (ad 14 0), .ref (ad 15 0), .int (nI (ν 6 0)), .ref (ad 34 0), .ref (ad 35 0), .ref (ad 36 0)]) hx hb hts inX4 hown hK (hB 0 0 Nat.zero_lt_one) rfl 16 (by decide) lk41 rfl rfl dX4_addsMore_21 ?_
  refine lv_iload_n hx hb dX4_addsMore_24 rfl (lv_at hl 3 rfl) ?_
  refine g_iald (f := σ 10) (x := σ 10 q9) hx hb hK (hB 10 0 Nat.zero_lt_one) (vp_in_nI (N := 30) (by omega) (by decide)) (by rw [cl_nI (by omega)]) dX4_addsMore_25 ?_
  refine lv_i2l hx hb dX4_addsMore_26 rfl ?_
  refine lv_lconst (v := 1) hx hb dX4_addsMore_27 rfl ?_
  refine lv_ladd hx hb dX4_addsMore_28 ?_
  refine lv_aload_n hx hb dX4_addsMore_29 rfl (lv_at hl 1 rfl) ?_
  refine g_get (C := RX4) (T := TX4) (N := 26) (ci := 4) (fs := [.int (σ 30 0), .int (σ 0 0), .int (nI (ν 1 0)), .ref (ad 6 0), .ref (ad 7 0), .ref (ad 8 0), .ref (ad 9 0), .int (σ 1 0), .int (σ 2 0), .int (σ 3 0), .int (σ 31 0), .int (σ 32 0), .int (nI (ν 0 0)), .ref (ad 18 0), .ref (ad 17 0), .ref (ad 16 0), .ref (ad 10 0), .ref (ad 11 0), .ref (ad 12 0), .ref (ad 13 0), .ref (ad 14 0), .ref (ad 15 0), .int (nI (ν 6 0)), .ref (ad 34 0), .ref (ad 35 0), .ref (ad 36 0)]) hx hb hts inX4 hown hK (hB 0 0 Nat.zero_lt_one) rfl 19 (by decide) lk50 rfl rfl dX4_addsMore_30 ?_
  refine lv_iload_n hx hb dX4_addsMore_33 rfl (lv_at hl 3 rfl) ?_
  refine g_iald (f := σ 13) (x := σ 13 q9) hx hb hK (hB 13 0 Nat.zero_lt_one) (vp_in_nI (N := 30) (by omega) (by decide)) (by rw [cl_nI (by omega)]) dX4_addsMore_34 ?_
  refine lv_i2l hx hb dX4_addsMore_35 rfl ?_
  refine lv_lconst (v := 1) hx hb dX4_addsMore_36 rfl ?_
  refine lv_ladd hx hb dX4_addsMore_37 ?_
  refine lv_lmul hx hb dX4_addsMore_38 ?_
  refine lv_lstore (lv' := [(5, .long ((((σ 10 q9).toInt64) + 1) * (((σ 13 q9).toInt64) + 1))), (3, .long ((((σ 10 p9).toInt64) + 1) * (((σ 13 p9).toInt64) + 1))), (0, .ref (ad 0 0)), (1, .int (nI p9)), (2, .int (nI q9))]) hx hb dX4_addsMore_39 hl (by decide) rfl (fun ls hl => ?_)
  refine lv_aload_n hx hb dX4_addsMore_41 rfl (lv_at hl 2 rfl) ?_
  refine g_get (C := RX4) (T := TX4) (N := 26) (ci := 4) (fs := [.int (σ 30 0), .int (σ 0 0), .int (nI (ν 1 0)), .ref (ad 6 0), .ref (ad 7 0), .ref (ad 8 0), .ref (ad 9 0), .int (σ 1 0), .int (σ 2 0), .int (σ 3 0), .int (σ 31 0), .int (σ 32 0), .int (nI (ν 0 0)), .ref (ad 18 0), .ref (ad 17 0), .ref (ad 16 0), .ref (ad 10 0), .ref (ad 11 0), .ref (ad 12 0), .ref (ad 13 0), .ref (ad 14 0), .ref (ad 15 0), .int (nI (ν 6 0)), .ref (ad 34 0), .ref (ad 35 0), .ref (ad 36 0)]) hx hb hts inX4 hown hK (hB 0 0 Nat.zero_lt_one) rfl 25 (by decide) lk66 rfl rfl dX4_addsMore_42 ?_
  refine lv_iload_n hx hb dX4_addsMore_45 rfl (lv_at hl 3 rfl) ?_
  refine g_iald (f := σ 36) (x := σ 36 p9) hx hb hK (hB 36 0 Nat.zero_lt_one) (vp_in_nI (N := 30) (by omega) (by decide)) (by rw [cl_nI (by omega)]) dX4_addsMore_46 ?_
  refine lv_aload_n hx hb dX4_addsMore_47 rfl (lv_at hl 2 rfl) ?_
  refine g_get (C := RX4) (T := TX4) (N := 26) (ci := 4) (fs := [.int (σ 30 0), .int (σ 0 0), .int (nI (ν 1 0)), .ref (ad 6 0), .ref (ad 7 0), .ref (ad 8 0), .ref (ad 9 0), .int (σ 1 0), .int (σ 2 0), .int (σ 3 0), .int (σ 31 0), .int (σ 32 0), .int (nI (ν 0 0)), .ref (ad 18 0), .ref (ad 17 0), .ref (ad 16 0), .ref (ad 10 0), .ref (ad 11 0), .ref (ad 12 0), .ref (ad 13 0), .ref (ad 14 0), .ref (ad 15 0), .int (nI (ν 6 0)), .ref (ad 34 0), .ref (ad 35 0), .ref (ad 36 0)]) hx hb hts inX4 hown hK (hB 0 0 Nat.zero_lt_one) rfl 19 (by decide) lk50 rfl rfl dX4_addsMore_48 ?_
  refine lv_iload_n hx hb dX4_addsMore_51 rfl (lv_at hl 3 rfl) ?_
  refine g_iald (f := σ 13) (x := σ 13 p9) hx hb hK (hB 13 0 Nat.zero_lt_one) (vp_in_nI (N := 30) (by omega) (by decide)) (by rw [cl_nI (by omega)]) dX4_addsMore_52 ?_
  refine lv_iadd hx hb dX4_addsMore_53 ?_
  refine lv_i2l hx hb dX4_addsMore_54 rfl ?_
  refine lv_lconst (v := 1) hx hb dX4_addsMore_55 rfl ?_
  refine lv_ladd hx hb dX4_addsMore_56 ?_
  refine lv_aload_n hx hb dX4_addsMore_57 rfl (lv_at hl 2 rfl) ?_
  refine g_get (C := RX4) (T := TX4) (N := 26) (ci := 4) (fs := [.int (σ 30 0), .int (σ 0 0), .int (nI (ν 1 0)), .ref (ad 6 0), .ref (ad 7 0), .ref (ad 8 0), .ref (ad 9 0), .int (σ 1 0), .int (σ 2 0), .int (σ 3 0), .int (σ 31 0), .int (σ 32 0), .int (nI (ν 0 0)), .ref (ad 18 0), .ref (ad 17 0), .ref (ad 16 0), .ref (ad 10 0), .ref (ad 11 0), .ref (ad 12 0), .ref (ad 13 0), .ref (ad 14 0), .ref (ad 15 0), .int (nI (ν 6 0)), .ref (ad 34 0), .ref (ad 35 0), .ref (ad 36 0)]) hx hb hts inX4 hown hK (hB 0 0 Nat.zero_lt_one) rfl 25 (by decide) lk66 rfl rfl dX4_addsMore_58 ?_
  refine lv_iload_n hx hb dX4_addsMore_61 rfl (lv_at hl 3 rfl) ?_
  refine g_iald (f := σ 36) (x := σ 36 p9) hx hb hK (hB 36 0 Nat.zero_lt_one) (vp_in_nI (N := 30) (by omega) (by decide)) (by rw [cl_nI (by omega)]) dX4_addsMore_62 ?_
  refine lv_aload_n hx hb dX4_addsMore_63 rfl (lv_at hl 2 rfl) ?_
  refine g_get (C := RX4) (T := TX4) (N := 26) (ci := 4) (fs := [.int (σ 30 0), .int (σ 0 0), .int (nI (ν 1 0)), .ref (ad 6 0), .ref (ad 7 0), .ref (ad 8 0), .ref (ad 9 0), .int (σ 1 0), .int (σ 2 0), .int (σ 3 0), .int (σ 31 0), .int (σ 32 0), .int (nI (ν 0 0)), .ref (ad 18 0), .ref (ad 17 0), .ref (ad 16 0), .ref (ad 10 0), .ref (ad 11 0), .ref (ad 12 0), .ref (ad 13 0), .ref (ad 14 0), .ref (ad 15 0), .int (nI (ν 6 0)), .ref (ad 34 0), .ref (ad 35 0), .ref (ad 36 0)]) hx hb hts inX4 hown hK (hB 0 0 Nat.zero_lt_one) rfl 19 (by decide) lk50 rfl rfl dX4_addsMore_64 ?_
  refine lv_iload_n hx hb dX4_addsMore_67 rfl (lv_at hl 3 rfl) ?_
  refine g_iald (f := σ 13) (x := σ 13 p9) hx hb hK (hB 13 0 Nat.zero_lt_one) (vp_in_nI (N := 30) (by omega) (by decide)) (by rw [cl_nI (by omega)]) dX4_addsMore_68 ?_
  refine lv_iadd hx hb dX4_addsMore_69 ?_
  refine lv_i2l hx hb dX4_addsMore_70 rfl ?_
  refine lv_ldc2 (v := 2) hx hb hown (hts (.constantLong RX4 136 (2)) (by decide +kernel)) dX4_addsMore_71 ?_
  refine lv_ladd hx hb dX4_addsMore_74 ?_
  refine lv_lmul hx hb dX4_addsMore_75 ?_
  refine lv_lstore (lv' := [(7, .long (((((σ 36 p9) + (σ 13 p9)).toInt64) + 1) * ((((σ 36 p9) + (σ 13 p9)).toInt64) + 2))), (5, .long ((((σ 10 q9).toInt64) + 1) * (((σ 13 q9).toInt64) + 1))), (3, .long ((((σ 10 p9).toInt64) + 1) * (((σ 13 p9).toInt64) + 1))), (0, .ref (ad 0 0)), (1, .int (nI p9)), (2, .int (nI q9))]) hx hb dX4_addsMore_76 hl (by decide) rfl (fun ls hl => ?_)
  refine lv_aload_n hx hb dX4_addsMore_78 rfl (lv_at hl 3 rfl) ?_
  refine g_get (C := RX4) (T := TX4) (N := 26) (ci := 4) (fs := [.int (σ 30 0), .int (σ 0 0), .int (nI (ν 1 0)), .ref (ad 6 0), .ref (ad 7 0), .ref (ad 8 0), .ref (ad 9 0), .int (σ 1 0), .int (σ 2 0), .int (σ 3 0), .int (σ 31 0), .int (σ 32 0), .int (nI (ν 0 0)), .ref (ad 18 0), .ref (ad 17 0), .ref (ad 16 0), .ref (ad 10 0), .ref (ad 11 0), .ref (ad 12 0), .ref (ad 13 0), .ref (ad 14 0), .ref (ad 15 0), .int (nI (ν 6 0)), .ref (ad 34 0), .ref (ad 35 0), .ref (ad 36 0)]) hx hb hts inX4 hown hK (hB 0 0 Nat.zero_lt_one) rfl 25 (by decide) lk66 rfl rfl dX4_addsMore_79 ?_
  refine lv_iload_n hx hb dX4_addsMore_82 rfl (lv_at hl 5 rfl) ?_
  refine g_iald (f := σ 36) (x := σ 36 q9) hx hb hK (hB 36 0 Nat.zero_lt_one) (vp_in_nI (N := 30) (by omega) (by decide)) (by rw [cl_nI (by omega)]) dX4_addsMore_83 ?_
  refine lv_aload_n hx hb dX4_addsMore_84 rfl (lv_at hl 3 rfl) ?_
  refine g_get (C := RX4) (T := TX4) (N := 26) (ci := 4) (fs := [.int (σ 30 0), .int (σ 0 0), .int (nI (ν 1 0)), .ref (ad 6 0), .ref (ad 7 0), .ref (ad 8 0), .ref (ad 9 0), .int (σ 1 0), .int (σ 2 0), .int (σ 3 0), .int (σ 31 0), .int (σ 32 0), .int (nI (ν 0 0)), .ref (ad 18 0), .ref (ad 17 0), .ref (ad 16 0), .ref (ad 10 0), .ref (ad 11 0), .ref (ad 12 0), .ref (ad 13 0), .ref (ad 14 0), .ref (ad 15 0), .int (nI (ν 6 0)), .ref (ad 34 0), .ref (ad 35 0), .ref (ad 36 0)]) hx hb hts inX4 hown hK (hB 0 0 Nat.zero_lt_one) rfl 19 (by decide) lk50 rfl rfl dX4_addsMore_85 ?_
  refine lv_iload_n hx hb dX4_addsMore_88 rfl (lv_at hl 5 rfl) ?_
  refine g_iald (f := σ 13) (x := σ 13 q9) hx hb hK (hB 13 0 Nat.zero_lt_one) (vp_in_nI (N := 30) (by omega) (by decide)) (by rw [cl_nI (by omega)]) dX4_addsMore_89 ?_
  refine lv_iadd hx hb dX4_addsMore_90 ?_
  refine lv_i2l hx hb dX4_addsMore_91 rfl ?_
  refine lv_lconst (v := 1) hx hb dX4_addsMore_92 rfl ?_
  refine lv_ladd hx hb dX4_addsMore_93 ?_
  refine lv_aload_n hx hb dX4_addsMore_94 rfl (lv_at hl 3 rfl) ?_
  refine g_get (C := RX4) (T := TX4) (N := 26) (ci := 4) (fs := [.int (σ 30 0), .int (σ 0 0), .int (nI (ν 1 0)), .ref (ad 6 0), .ref (ad 7 0), .ref (ad 8 0), .ref (ad 9 0), .int (σ 1 0), .int (σ 2 0), .int (σ 3 0), .int (σ 31 0), .int (σ 32 0), .int (nI (ν 0 0)), .ref (ad 18 0), .ref (ad 17 0), .ref (ad 16 0), .ref (ad 10 0), .ref (ad 11 0), .ref (ad 12 0), .ref (ad 13 0), .ref (ad 14 0), .ref (ad 15 0), .int (nI (ν 6 0)), .ref (ad 34 0), .ref (ad 35 0), .ref (ad 36 0)]) hx hb hts inX4 hown hK (hB 0 0 Nat.zero_lt_one) rfl 25 (by decide) lk66 rfl rfl dX4_addsMore_95 ?_
  refine lv_iload_n hx hb dX4_addsMore_98 rfl (lv_at hl 5 rfl) ?_
  refine g_iald (f := σ 36) (x := σ 36 q9) hx hb hK (hB 36 0 Nat.zero_lt_one) (vp_in_nI (N := 30) (by omega) (by decide)) (by rw [cl_nI (by omega)]) dX4_addsMore_99 ?_
  refine lv_aload_n hx hb dX4_addsMore_100 rfl (lv_at hl 3 rfl) ?_
  refine g_get (C := RX4) (T := TX4) (N := 26) (ci := 4) (fs := [.int (σ 30 0), .int (σ 0 0), .int (nI (ν 1 0)), .ref (ad 6 0), .ref (ad 7 0), .ref (ad 8 0), .ref (ad 9 0), .int (σ 1 0), .int (σ 2 0), .int (σ 3 0), .int (σ 31 0), .int (σ 32 0), .int (nI (ν 0 0)), .ref (ad 18 0), .ref (ad 17 0), .ref (ad 16 0), .ref (ad 10 0), .ref (ad 11 0), .ref (ad 12 0), .ref (ad 13 0), .ref (ad 14 0), .ref (ad 15 0), .int (nI (ν 6 0)), .ref (ad 34 0), .ref (ad 35 0), .ref (ad 36 0)]) hx hb hts inX4 hown hK (hB 0 0 Nat.zero_lt_one) rfl 19 (by decide) lk50 rfl rfl dX4_addsMore_101 ?_
  refine lv_iload_n hx hb dX4_addsMore_104 rfl (lv_at hl 5 rfl) ?_
  refine g_iald (f := σ 13) (x := σ 13 q9) hx hb hK (hB 13 0 Nat.zero_lt_one) (vp_in_nI (N := 30) (by omega) (by decide)) (by rw [cl_nI (by omega)]) dX4_addsMore_105 ?_
  refine lv_iadd hx hb dX4_addsMore_106 ?_
  refine lv_i2l hx hb dX4_addsMore_107 rfl ?_
  refine lv_ldc2 (v := 2) hx hb hown (hts (.constantLong RX4 136 (2)) (by decide +kernel)) dX4_addsMore_108 ?_
  refine lv_ladd hx hb dX4_addsMore_111 ?_
  refine lv_lmul hx hb dX4_addsMore_112 ?_
  refine lv_lstore (lv' := [(9, .long (((((σ 36 q9) + (σ 13 q9)).toInt64) + 1) * ((((σ 36 q9) + (σ 13 q9)).toInt64) + 2))), (7, .long (((((σ 36 p9) + (σ 13 p9)).toInt64) + 1) * ((((σ 36 p9) + (σ 13 p9)).toInt64) + 2))), (5, .long ((((σ 10 q9).toInt64) + 1) * (((σ 13 q9).toInt64) + 1))), (3, .long ((((σ 10 p9).toInt64) + 1) * (((σ 13 p9).toInt64) + 1))), (0, .ref (ad 0 0)), (1, .int (nI p9)), (2, .int (nI q9))]) hx hb dX4_addsMore_113 hl (by decide) rfl (fun ls hl => ?_)
  refine lv_lload_n hx hb dX4_addsMore_115 rfl (lv_at hl 3 rfl) ?_
  refine lv_lload hx hb dX4_addsMore_116 (lv_at hl 0 rfl) ?_
  refine lv_lmul hx hb dX4_addsMore_118 ?_
  refine lv_lload hx hb dX4_addsMore_119 (lv_at hl 2 rfl) ?_
  refine lv_lload hx hb dX4_addsMore_121 (lv_at hl 1 rfl) ?_
  refine lv_lmul hx hb dX4_addsMore_123 ?_
  refine W.lcmp hx hb dX4_addsMore_124 ?_
  refine lv_if_le (tgt := 132) hx hb dX4_addsMore_125 (by decide) (fun c_125 => ?_) (fun c_125 => ?_)
  · -- 125 t
    refine lv_iconst (v := 0) hx hb dX4_addsMore_132 (by decide) ?_
    exact g_zret hx hb hr hlocks rfl dX4_addsMore_133 (by rw [addsB]; exact (zb_n (Int64.not_lt.mpr (lg_le.mp c_125))).symm)
  · -- 125 f
    refine lv_iconst (v := 1) hx hb dX4_addsMore_128 (by decide) ?_
    refine lv_goto (tgt := 133) hx hb dX4_addsMore_129 (by decide) ?_
    exact g_zret hx hb hr hlocks rfl dX4_addsMore_133 (by rw [addsB]; exact (zb_p (Int64.not_le.mp (fun q => c_125 (lg_le.mpr q)))).symm)


/-- numbers of rows: equal from i on, k places -/
def sameM (σ : IT) (ν : NT) (x y : Nat) : Bool := decide (ν 8 x = ν 8 y) && sameF (fun i => σ 6 (ν 7 x + i)) (fun i => σ 6 (ν 7 y + i)) (ν 8 x) 0
def sameT (σ : IT) (ν : NT) (p : Nat) : Bool := decide (ν 3 p = ν 1 0) && sameF (fun i => σ 18 (30 * p + i)) (σ 6) (ν 1 0) 0
/-- segments lie in the text -/
def sgOK (ν : NT) : Prop := ∀ j, j < ν 6 0 → ν 7 j + ν 8 j ≤ 30

set_option maxHeartbeats 4000000 in
set_option maxRecDepth 100000 in
/-- model: areSame -/
theorem m_X4_areSame (l : Launch) (D : va_G) (cy : Nat → ClassId) (ad : NT) (σ : IT) (ν : NT) (hm : ∀ j, j < ν 6 0 → ν 7 j + ν 8 j ≤ 30) (h15 : ν 6 0 ≤ 15) (x y : Nat) (hx0 : x < ν 6 0) (hy0 : y < ν 6 0) : Met l yX4_areSame wsX4_areSame ({ frames := 0, cells := 0, slots := 0, locals := 0 } : Room) (va_Pc [.ref (ad 0 0), .int (nI x), .int (nI y)] (fun U => gK D cy U ∧ (MW D cy ad σ ν) U.heap)) (rQ (some (.int (zb (sameM σ ν x y))))) 0 0 (fun _ => False) := by
  refine Met.ofW (cc := cX4_areSame) (maxL := 5) (ret := (some .boolean)) (by decide) rfl ?_
  intro p e s m args below meth c s₁ B9 hml hv
  obtain ⟨rfl, hK, hB⟩ := hv
  have hx := B9.exec
  have hb := B9.bytes
  have hr := B9.returns
  have hts := atoms_spec (ws := wsX4_areSame) B9.pre
  have hown : s.vm.findClass RX4 = some m.cls := findClass_of_methodNamed B9.named
  have hlocks := B9.notSynchronized
  have lk63 := hts (.fieldLink RX4 63 "PolitecrawlModel" "many" "[I") (by decide +kernel)
  have inX4 : ∀ w ∈ u_ws RX4 TX4 26, w ∈ wsX4_areSame := by decide +kernel
  have lk7 := hts (.fieldLink RX4 7 "PolitecrawlModel" "buffer" "[I") (by decide +kernel)
  have lk60 := hts (.fieldLink RX4 60 "PolitecrawlModel" "begin" "[I") (by decide +kernel)
  have hl := lv_entry ([.ref (ad 0 0), .int (nI x), .int (nI y)]) (n := 5) (Nat.le_of_ble_eq_true rfl)
  rw [lg_entry_eq]
  generalize (lg_sl ([.ref (ad 0 0), .int (nI x), .int (nI y)]) ++ List.replicate (5 - (lg_sl ([.ref (ad 0 0), .int (nI x), .int (nI y)])).length) Slot.unset).toArray = ls at hl ⊢
  have hl : lv_has ls 5 [(0, .ref (ad 0 0)), (1, .int (nI x)), (2, .int (nI y))] := hl
  have bx := hm x hx0
  have by9 := hm y hy0
  obtain ⟨V, hV⟩ : ∃ V, V = zb (decide (ν 8 x = ν 8 y) && sameF (fun i => σ 6 (ν 7 x + i)) (fun i => σ 6 (ν 7 y + i)) (ν 8 x - 0) 0) := ⟨_, rfl⟩
  have hV0 : zb (sameM σ ν x y) = V := hV.symm
  rw [hV0]
  refine lv_aload_n hx hb dX4_areSame_0 rfl (lv_at hl 0 rfl) ?_
  refine g_get (C := RX4) (T := TX4) (N := 26) (ci := 4) (fs := [.int (σ 30 0), .int (σ 0 0), .int (nI (ν 1 0)), .ref (ad 6 0), .ref (ad 7 0), .ref (ad 8 0), .ref (ad 9 0), .int (σ 1 0), .int (σ 2 0), .int (σ 3 0), .int (σ 31 0), .int (σ 32 0), .int (nI (ν 0 0)), .ref (ad 18 0), .ref (ad 17 0), .ref (ad 16 0), .ref (ad 10 0), .ref (ad 11 0), .ref (ad 12 0), .ref (ad 13 0), .ref (ad 14 0), .ref (ad 15 0), .int (nI (ν 6 0)), .ref (ad 34 0), .ref (ad 35 0), .ref (ad 36 0)]) hx hb hts inX4 hown hK (hB 0 0 Nat.zero_lt_one) rfl 24 (by decide) lk63 rfl rfl dX4_areSame_1 ?_
  refine lv_iload_n hx hb dX4_areSame_4 rfl (lv_at hl 1 rfl) ?_
  refine g_iald (f := fun j => nI (ν 8 j)) (x := nI (ν 8 x)) hx hb hK (hB 35 0 Nat.zero_lt_one) (vp_in_nI (N := 15) (by omega) (by decide)) (by rw [cl_nI (by omega)]) dX4_areSame_5 ?_
  refine lv_aload_n hx hb dX4_areSame_6 rfl (lv_at hl 0 rfl) ?_
  refine g_get (C := RX4) (T := TX4) (N := 26) (ci := 4) (fs := [.int (σ 30 0), .int (σ 0 0), .int (nI (ν 1 0)), .ref (ad 6 0), .ref (ad 7 0), .ref (ad 8 0), .ref (ad 9 0), .int (σ 1 0), .int (σ 2 0), .int (σ 3 0), .int (σ 31 0), .int (σ 32 0), .int (nI (ν 0 0)), .ref (ad 18 0), .ref (ad 17 0), .ref (ad 16 0), .ref (ad 10 0), .ref (ad 11 0), .ref (ad 12 0), .ref (ad 13 0), .ref (ad 14 0), .ref (ad 15 0), .int (nI (ν 6 0)), .ref (ad 34 0), .ref (ad 35 0), .ref (ad 36 0)]) hx hb hts inX4 hown hK (hB 0 0 Nat.zero_lt_one) rfl 24 (by decide) lk63 rfl rfl dX4_areSame_7 ?_
  refine lv_iload_n hx hb dX4_areSame_10 rfl (lv_at hl 2 rfl) ?_
  refine g_iald (f := fun j => nI (ν 8 j)) (x := nI (ν 8 y)) hx hb hK (hB 35 0 Nat.zero_lt_one) (vp_in_nI (N := 15) (by omega) (by decide)) (by rw [cl_nI (by omega)]) dX4_areSame_11 ?_
  refine lv_icmp_ne (tgt := 19) hx hb dX4_areSame_12 (by decide) (fun c_12 => ?_) (fun c_12 => ?_)
  · -- 12 t
    refine lv_iconst (v := 0) hx hb dX4_areSame_19 (by decide) ?_
    refine lv_topi (fun y1 ey1 => ?_)
    obtain rfl : y1 = zb (decide (ν 8 x = ν 8 y)) := ey1.trans ((by rw [decide_eq_false (fun q => c_12 (by rw [q]))]; rfl))
    refine lv_istore_n (lv' := [(3, .int (zb (decide (ν 8 x = ν 8 y)))), (0, .ref (ad 0 0)), (1, .int (nI x)), (2, .int (nI y))]) hx hb dX4_areSame_20 rfl hl (by decide) rfl (fun ls hl => ?_)
    refine lv_iconst (v := 0) hx hb dX4_areSame_21 (by decide) ?_
    refine lv_topi (fun y2 ey2 => ?_)
    obtain rfl : y2 = nI 0 := ey2.trans (nI_0.symm)
    refine lv_istore (lv' := [(4, .int (nI 0)), (3, .int (zb (decide (ν 8 x = ν 8 y)))), (0, .ref (ad 0 0)), (1, .int (nI x)), (2, .int (nI y))]) hx hb dX4_areSame_22 hl (by decide) rfl (fun ls hl => ?_)
    have loop : ∀ (k : Nat) (i : Nat) (b : Bool) (ls : Array Slot), i ≤ ν 8 x → ν 8 x < i + k → (b = true → ν 8 x = ν 8 y) → V = zb (b && sameF (fun i => σ 6 (ν 7 x + i)) (fun i => σ 6 (ν 7 y + i)) (ν 8 x - i) i) → lv_has ls 5 [(0, .ref (ad 0 0)), (1, .int (nI x)), (2, .int (nI y)), (3, .int (zb b)), (4, .int (nI i))] → W p l e (headSpec wsX4_areSame ({ frames := 0, cells := 0, slots := 0, locals := 0 } : Room)).room s m ([.ref (ad 0 0), .int (nI x), .int (nI y)] : List Value).toArray below meth c s.heap [] 0 0 (MQ below (rQ (some (.int V))) ([.ref (ad 0 0), .int (nI x), .int (nI y)] : List Value).toArray s 0 0 (fun _ => False)) (F0 m 24 ls []) := by
      intro k
      induction k with
      | zero => intro i b ls hi hk hb9 hV hl; exfalso; omega
      | succ k loop_ih =>
        intro i b ls hi hk hb9 hV hl
        refine lv_iload hx hb dX4_areSame_24 (lv_at hl 4 rfl) ?_
        refine lv_aload_n hx hb dX4_areSame_26 rfl (lv_at hl 0 rfl) ?_
        refine g_get (C := RX4) (T := TX4) (N := 26) (ci := 4) (fs := [.int (σ 30 0), .int (σ 0 0), .int (nI (ν 1 0)), .ref (ad 6 0), .ref (ad 7 0), .ref (ad 8 0), .ref (ad 9 0), .int (σ 1 0), .int (σ 2 0), .int (σ 3 0), .int (σ 31 0), .int (σ 32 0), .int (nI (ν 0 0)), .ref (ad 18 0), .ref (ad 17 0), .ref (ad 16 0), .ref (ad 10 0), .ref (ad 11 0), .ref (ad 12 0), .ref (ad 13 0), .ref (ad 14 0), .ref (ad 15 0), .int (nI (ν 6 0)), .ref (ad 34 0), .ref (ad 35 0), .ref (ad 36 0)]) hx hb hts inX4 hown hK (hB 0 0 Nat.zero_lt_one) rfl 24 (by decide) lk63 rfl rfl dX4_areSame_27 ?_
        refine lv_iload_n hx hb dX4_areSame_30 rfl (lv_at hl 1 rfl) ?_
        refine g_iald (f := fun j => nI (ν 8 j)) (x := nI (ν 8 x)) hx hb hK (hB 35 0 Nat.zero_lt_one) (vp_in_nI (N := 15) (by omega) (by decide)) (by rw [cl_nI (by omega)]) dX4_areSame_31 ?_
        refine lv_icmp_ge (tgt := 82) hx hb dX4_areSame_32 (by decide) (fun c_32 => ?_) (fun c_32 => ?_)
        · -- 32 t
          refine lv_iload_n hx hb dX4_areSame_82 rfl (lv_at hl 3 rfl) ?_
          exact g_zret hx hb hr hlocks (by cases b <;> rfl) dX4_areSame_83 (by rw [hV, show ν 8 x - i = 0 from by have := (nI_leI (by omega) (by omega)).mp c_32; omega, sameF, Bool.and_true])
        · -- 32 f
          refine lv_iload_n hx hb dX4_areSame_35 rfl (lv_at hl 3 rfl) ?_
          refine lv_if_eq (tgt := 82) hx hb dX4_areSame_36 (by decide) (fun c_36 => ?_) (fun c_36 => ?_)
          · -- 36 t
            refine lv_iload_n hx hb dX4_areSame_82 rfl (lv_at hl 3 rfl) ?_
            exact g_zret hx hb hr hlocks (by cases b <;> rfl) dX4_areSame_83 (by rw [hV, (zb_0.mp c_36 : b = false), Bool.false_and])
          · -- 36 f
            have pb : b = true := zb_n0.mp c_36
            have ey := hb9 pb
            have hlt : i < ν 8 x := Nat.not_le.mp fun q => c_32 ((nI_leI (by omega) (by omega)).mpr q)
            obtain ⟨j, hj⟩ : ∃ j, ν 8 x - i = j + 1 := ⟨ν 8 x - i - 1, by omega⟩
            have hj2 : ν 8 x - (i + 1) = j := by omega
            rw [pb, Bool.true_and, hj, sameF] at hV
            refine lv_aload_n hx hb dX4_areSame_39 rfl (lv_at hl 0 rfl) ?_
            refine g_get (C := RX4) (T := TX4) (N := 26) (ci := 4) (fs := [.int (σ 30 0), .int (σ 0 0), .int (nI (ν 1 0)), .ref (ad 6 0), .ref (ad 7 0), .ref (ad 8 0), .ref (ad 9 0), .int (σ 1 0), .int (σ 2 0), .int (σ 3 0), .int (σ 31 0), .int (σ 32 0), .int (nI (ν 0 0)), .ref (ad 18 0), .ref (ad 17 0), .ref (ad 16 0), .ref (ad 10 0), .ref (ad 11 0), .ref (ad 12 0), .ref (ad 13 0), .ref (ad 14 0), .ref (ad 15 0), .int (nI (ν 6 0)), .ref (ad 34 0), .ref (ad 35 0), .ref (ad 36 0)]) hx hb hts inX4 hown hK (hB 0 0 Nat.zero_lt_one) rfl 3 (by decide) lk7 rfl rfl dX4_areSame_40 ?_
            refine lv_aload_n hx hb dX4_areSame_43 rfl (lv_at hl 0 rfl) ?_
            refine g_get (C := RX4) (T := TX4) (N := 26) (ci := 4) (fs := [.int (σ 30 0), .int (σ 0 0), .int (nI (ν 1 0)), .ref (ad 6 0), .ref (ad 7 0), .ref (ad 8 0), .ref (ad 9 0), .int (σ 1 0), .int (σ 2 0), .int (σ 3 0), .int (σ 31 0), .int (σ 32 0), .int (nI (ν 0 0)), .ref (ad 18 0), .ref (ad 17 0), .ref (ad 16 0), .ref (ad 10 0), .ref (ad 11 0), .ref (ad 12 0), .ref (ad 13 0), .ref (ad 14 0), .ref (ad 15 0), .int (nI (ν 6 0)), .ref (ad 34 0), .ref (ad 35 0), .ref (ad 36 0)]) hx hb hts inX4 hown hK (hB 0 0 Nat.zero_lt_one) rfl 23 (by decide) lk60 rfl rfl dX4_areSame_44 ?_
            refine lv_iload_n hx hb dX4_areSame_47 rfl (lv_at hl 1 rfl) ?_
            refine g_iald (f := fun j => nI (ν 7 j)) (x := nI (ν 7 x)) hx hb hK (hB 34 0 Nat.zero_lt_one) (vp_in_nI (N := 15) (by omega) (by decide)) (by rw [cl_nI (by omega)]) dX4_areSame_48 ?_
            refine lv_iload hx hb dX4_areSame_49 (lv_at hl 4 rfl) ?_
            refine lv_iadd hx hb dX4_areSame_51 ?_
            refine lv_topi (fun y3 ey3 => ?_)
            obtain rfl : y3 = nI (ν 7 x + i) := ey3.trans (nI_add _ _)
            refine g_iald (f := σ 6) (x := σ 6 (ν 7 x + i)) hx hb hK (hB 6 0 Nat.zero_lt_one) (vp_in_nI (N := 30) (by omega) (by decide)) (by rw [cl_nI (by omega)]) dX4_areSame_52 ?_
            refine lv_aload_n hx hb dX4_areSame_53 rfl (lv_at hl 0 rfl) ?_
            refine g_get (C := RX4) (T := TX4) (N := 26) (ci := 4) (fs := [.int (σ 30 0), .int (σ 0 0), .int (nI (ν 1 0)), .ref (ad 6 0), .ref (ad 7 0), .ref (ad 8 0), .ref (ad 9 0), .int (σ 1 0), .int (σ 2 0), .int (σ 3 0), .int (σ 31 0), .int (σ 32 0), .int (nI (ν 0 0)), .ref (ad 18 0), .ref (ad 17 0), .ref (ad 16 0), .ref (ad 10 0), .ref (ad 11 0), .ref (ad 12 0), .ref (ad 13 0), .ref (ad 14 0), .ref (ad 15 0), .int (nI (ν 6 0)), .ref (ad 34 0), .ref (ad 35 0), .ref (ad 36 0)]) hx hb hts inX4 hown hK (hB 0 0 Nat.zero_lt_one) rfl 3 (by decide) lk7 rfl rfl dX4_areSame_54 ?_
            refine lv_aload_n hx hb dX4_areSame_57 rfl (lv_at hl 0 rfl) ?_
            refine g_get (C := RX4) (T := TX4) (N := 26) (ci := 4) (fs := [.int (σ 30 0), .int (σ 0 0), .int (nI (ν 1 0)), .ref (ad 6 0), .ref (ad 7 0), .ref (ad 8 0), .ref (ad 9 0), .int (σ 1 0), .int (σ 2 0), .int (σ 3 0), .int (σ 31 0), .int (σ 32 0), .int (nI (ν 0 0)), .ref (ad 18 0), .ref (ad 17 0), .ref (ad 16 0), .ref (ad 10 0), .ref (ad 11 0), .ref (ad 12 0), .ref (ad 13 0), .ref (ad 14 0), .ref (ad 15 0), .int (nI (ν 6 0)), .ref (ad 34 0), .ref (ad 35 0), .ref (ad 36 0)]) hx hb hts inX4 hown hK (hB 0 0 Nat.zero_lt_one) rfl 23 (by decide) lk60 rfl rfl dX4_areSame_58 ?_
            refine lv_iload_n hx hb dX4_areSame_61 rfl (lv_at hl 2 rfl) ?_
            refine g_iald (f := fun j => nI (ν 7 j)) (x := nI (ν 7 y)) hx hb hK (hB 34 0 Nat.zero_lt_one) (vp_in_nI (N := 15) (by omega) (by decide)) (by rw [cl_nI (by omega)]) dX4_areSame_62 ?_
            refine lv_iload hx hb dX4_areSame_63 (lv_at hl 4 rfl) ?_
            refine lv_iadd hx hb dX4_areSame_65 ?_
            refine lv_topi (fun y4 ey4 => ?_)
            obtain rfl : y4 = nI (ν 7 y + i) := ey4.trans (nI_add _ _)
            refine g_iald (f := σ 6) (x := σ 6 (ν 7 y + i)) hx hb hK (hB 6 0 Nat.zero_lt_one) (vp_in_nI (N := 30) (by omega) (by decide)) (by rw [cl_nI (by omega)]) dX4_areSame_66 ?_
            refine lv_icmp_ne (tgt := 74) hx hb dX4_areSame_67 (by decide) (fun c_67 => ?_) (fun c_67 => ?_)
            · -- 67 t
              refine lv_iconst (v := 0) hx hb dX4_areSame_74 (by decide) ?_
              refine lv_topi (fun y5 ey5 => ?_)
              obtain rfl : y5 = zb false := ey5.trans (rfl)
              rw [if_neg c_67] at hV
              have hV : V = zb (false && sameF (fun i => σ 6 (ν 7 x + i)) (fun i => σ 6 (ν 7 y + i)) j (i + 1)) := hV
              refine lv_istore_n (lv' := [(3, .int (zb false)), (0, .ref (ad 0 0)), (1, .int (nI x)), (2, .int (nI y)), (4, .int (nI i))]) hx hb dX4_areSame_75 rfl hl (by decide) rfl (fun ls hl => ?_)
              refine lv_iinc (v := nI (i + 1)) (lv' := [(4, .int (nI (i + 1))), (3, .int (zb false)), (0, .ref (ad 0 0)), (1, .int (nI x)), (2, .int (nI y))]) hx hb dX4_areSame_76 hl (k := 4) rfl (nI_1 i) (by decide) rfl (fun ls hl => ?_)
              refine lv_goto (tgt := 24) hx hb dX4_areSame_79 (by decide) ?_
              exact loop_ih (i + 1) false ls (by omega) (by omega) (fun h => nomatch h) (by rw [hj2]; exact hV) (lv_sub hl [2, 3, 4, 1, 0] rfl)
            · -- 67 f
              refine lv_iconst (v := 1) hx hb dX4_areSame_70 (by decide) ?_
              refine lv_goto (tgt := 75) hx hb dX4_areSame_71 (by decide) ?_
              refine lv_topi (fun y6 ey6 => ?_)
              obtain rfl : y6 = zb true := ey6.trans (rfl)
              rw [if_pos c_67] at hV
              have hV : V = zb (true && sameF (fun i => σ 6 (ν 7 x + i)) (fun i => σ 6 (ν 7 y + i)) j (i + 1)) := hV
              refine lv_istore_n (lv' := [(3, .int (zb true)), (0, .ref (ad 0 0)), (1, .int (nI x)), (2, .int (nI y)), (4, .int (nI i))]) hx hb dX4_areSame_75 rfl hl (by decide) rfl (fun ls hl => ?_)
              refine lv_iinc (v := nI (i + 1)) (lv' := [(4, .int (nI (i + 1))), (3, .int (zb true)), (0, .ref (ad 0 0)), (1, .int (nI x)), (2, .int (nI y))]) hx hb dX4_areSame_76 hl (k := 4) rfl (nI_1 i) (by decide) rfl (fun ls hl => ?_)
              refine lv_goto (tgt := 24) hx hb dX4_areSame_79 (by decide) ?_
              exact loop_ih (i + 1) true ls (by omega) (by omega) (fun _ => ey) (by rw [hj2]; exact hV) (lv_sub hl [2, 3, 4, 1, 0] rfl)
    exact loop (ν 8 x + 1) 0 (decide (ν 8 x = ν 8 y)) ls (Nat.zero_le _) (by omega) (fun h => of_decide_eq_true h) hV (lv_sub hl [2, 3, 4, 1, 0] rfl)
  · -- 12 f
    refine lv_iconst (v := 1) hx hb dX4_areSame_15 (by decide) ?_
    refine lv_goto (tgt := 20) hx hb dX4_areSame_16 (by decide) ?_
    refine lv_topi (fun y7 ey7 => ?_)
    obtain rfl : y7 = zb (decide (ν 8 x = ν 8 y)) := ey7.trans ((by rw [decide_eq_true ((nI_eq (by omega) (by omega)).mp c_12)]; rfl))
    refine lv_istore_n (lv' := [(3, .int (zb (decide (ν 8 x = ν 8 y)))), (0, .ref (ad 0 0)), (1, .int (nI x)), (2, .int (nI y))]) hx hb dX4_areSame_20 rfl hl (by decide) rfl (fun ls hl => ?_)
    refine lv_iconst (v := 0) hx hb dX4_areSame_21 (by decide) ?_
    refine lv_topi (fun y8 ey8 => ?_)
    obtain rfl : y8 = nI 0 := ey8.trans (nI_0.symm)
    refine lv_istore (lv' := [(4, .int (nI 0)), (3, .int (zb (decide (ν 8 x = ν 8 y)))), (0, .ref (ad 0 0)), (1, .int (nI x)), (2, .int (nI y))]) hx hb dX4_areSame_22 hl (by decide) rfl (fun ls hl => ?_)
    have loop : ∀ (k : Nat) (i : Nat) (b : Bool) (ls : Array Slot), i ≤ ν 8 x → ν 8 x < i + k → (b = true → ν 8 x = ν 8 y) → V = zb (b && sameF (fun i => σ 6 (ν 7 x + i)) (fun i => σ 6 (ν 7 y + i)) (ν 8 x - i) i) → lv_has ls 5 [(0, .ref (ad 0 0)), (1, .int (nI x)), (2, .int (nI y)), (3, .int (zb b)), (4, .int (nI i))] → W p l e (headSpec wsX4_areSame ({ frames := 0, cells := 0, slots := 0, locals := 0 } : Room)).room s m ([.ref (ad 0 0), .int (nI x), .int (nI y)] : List Value).toArray below meth c s.heap [] 0 0 (MQ below (rQ (some (.int V))) ([.ref (ad 0 0), .int (nI x), .int (nI y)] : List Value).toArray s 0 0 (fun _ => False)) (F0 m 24 ls []) := by
      intro k
      induction k with
      | zero => intro i b ls hi hk hb9 hV hl; exfalso; omega
      | succ k loop_ih =>
        intro i b ls hi hk hb9 hV hl
        refine lv_iload hx hb dX4_areSame_24 (lv_at hl 4 rfl) ?_
        refine lv_aload_n hx hb dX4_areSame_26 rfl (lv_at hl 0 rfl) ?_
        refine g_get (C := RX4) (T := TX4) (N := 26) (ci := 4) (fs := [.int (σ 30 0), .int (σ 0 0), .int (nI (ν 1 0)), .ref (ad 6 0), .ref (ad 7 0), .ref (ad 8 0), .ref (ad 9 0), .int (σ 1 0), .int (σ 2 0), .int (σ 3 0), .int (σ 31 0), .int (σ 32 0), .int (nI (ν 0 0)), .ref (ad 18 0), .ref (ad 17 0), .ref (ad 16 0), .ref (ad 10 0), .ref (ad 11 0), .ref (ad 12 0), .ref (ad 13 0), .ref (ad 14 0), .ref (ad 15 0), .int (nI (ν 6 0)), .ref (ad 34 0), .ref (ad 35 0), .ref (ad 36 0)]) hx hb hts inX4 hown hK (hB 0 0 Nat.zero_lt_one) rfl 24 (by decide) lk63 rfl rfl dX4_areSame_27 ?_
        refine lv_iload_n hx hb dX4_areSame_30 rfl (lv_at hl 1 rfl) ?_
        refine g_iald (f := fun j => nI (ν 8 j)) (x := nI (ν 8 x)) hx hb hK (hB 35 0 Nat.zero_lt_one) (vp_in_nI (N := 15) (by omega) (by decide)) (by rw [cl_nI (by omega)]) dX4_areSame_31 ?_
        refine lv_icmp_ge (tgt := 82) hx hb dX4_areSame_32 (by decide) (fun c_32 => ?_) (fun c_32 => ?_)
        · -- 32 t
          refine lv_iload_n hx hb dX4_areSame_82 rfl (lv_at hl 3 rfl) ?_
          exact g_zret hx hb hr hlocks (by cases b <;> rfl) dX4_areSame_83 (by rw [hV, show ν 8 x - i = 0 from by have := (nI_leI (by omega) (by omega)).mp c_32; omega, sameF, Bool.and_true])
        · -- 32 f
          refine lv_iload_n hx hb dX4_areSame_35 rfl (lv_at hl 3 rfl) ?_
          refine lv_if_eq (tgt := 82) hx hb dX4_areSame_36 (by decide) (fun c_36 => ?_) (fun c_36 => ?_)
          · -- 36 t
            refine lv_iload_n hx hb dX4_areSame_82 rfl (lv_at hl 3 rfl) ?_
            exact g_zret hx hb hr hlocks (by cases b <;> rfl) dX4_areSame_83 (by rw [hV, (zb_0.mp c_36 : b = false), Bool.false_and])
          · -- 36 f
            have pb : b = true := zb_n0.mp c_36
            have ey := hb9 pb
            have hlt : i < ν 8 x := Nat.not_le.mp fun q => c_32 ((nI_leI (by omega) (by omega)).mpr q)
            obtain ⟨j, hj⟩ : ∃ j, ν 8 x - i = j + 1 := ⟨ν 8 x - i - 1, by omega⟩
            have hj2 : ν 8 x - (i + 1) = j := by omega
            rw [pb, Bool.true_and, hj, sameF] at hV
            refine lv_aload_n hx hb dX4_areSame_39 rfl (lv_at hl 0 rfl) ?_
            refine g_get (C := RX4) (T := TX4) (N := 26) (ci := 4) (fs := [.int (σ 30 0), .int (σ 0 0), .int (nI (ν 1 0)), .ref (ad 6 0), .ref (ad 7 0), .ref (ad 8 0), .ref (ad 9 0), .int (σ 1 0), .int (σ 2 0), .int (σ 3 0), .int (σ 31 0), .int (σ 32 0), .int (nI (ν 0 0)), .ref (ad 18 0), .ref (ad 17 0), .ref (ad 16 0), .ref (ad 10 0), .ref (ad 11 0), .ref (ad 12 0), .ref (ad 13 0), .ref (ad 14 0), .ref (ad 15 0), .int (nI (ν 6 0)), .ref (ad 34 0), .ref (ad 35 0), .ref (ad 36 0)]) hx hb hts inX4 hown hK (hB 0 0 Nat.zero_lt_one) rfl 3 (by decide) lk7 rfl rfl dX4_areSame_40 ?_
            refine lv_aload_n hx hb dX4_areSame_43 rfl (lv_at hl 0 rfl) ?_
            refine g_get (C := RX4) (T := TX4) (N := 26) (ci := 4) (fs := [.int (σ 30 0), .int (σ 0 0), .int (nI (ν 1 0)), .ref (ad 6 0), .ref (ad 7 0), .ref (ad 8 0), .ref (ad 9 0), .int (σ 1 0), .int (σ 2 0), .int (σ 3 0), .int (σ 31 0), .int (σ 32 0), .int (nI (ν 0 0)), .ref (ad 18 0), .ref (ad 17 0), .ref (ad 16 0), .ref (ad 10 0), .ref (ad 11 0), .ref (ad 12 0), .ref (ad 13 0), .ref (ad 14 0), .ref (ad 15 0), .int (nI (ν 6 0)), .ref (ad 34 0), .ref (ad 35 0), .ref (ad 36 0)]) hx hb hts inX4 hown hK (hB 0 0 Nat.zero_lt_one) rfl 23 (by decide) lk60 rfl rfl dX4_areSame_44 ?_
            refine lv_iload_n hx hb dX4_areSame_47 rfl (lv_at hl 1 rfl) ?_
            refine g_iald (f := fun j => nI (ν 7 j)) (x := nI (ν 7 x)) hx hb hK (hB 34 0 Nat.zero_lt_one) (vp_in_nI (N := 15) (by omega) (by decide)) (by rw [cl_nI (by omega)]) dX4_areSame_48 ?_
            refine lv_iload hx hb dX4_areSame_49 (lv_at hl 4 rfl) ?_
            refine lv_iadd hx hb dX4_areSame_51 ?_
            refine lv_topi (fun y9 ey9 => ?_)
            obtain rfl : y9 = nI (ν 7 x + i) := ey9.trans (nI_add _ _)
            refine g_iald (f := σ 6) (x := σ 6 (ν 7 x + i)) hx hb hK (hB 6 0 Nat.zero_lt_one) (vp_in_nI (N := 30) (by omega) (by decide)) (by rw [cl_nI (by omega)]) dX4_areSame_52 ?_
            refine lv_aload_n hx hb dX4_areSame_53 rfl (lv_at hl 0 rfl) ?_
            refine g_get (C := RX4) (T := TX4) (N := 26) (ci := 4) (fs := [.int (σ 30 0), .int (σ 0 0), .int (nI (ν 1 0)), .ref (ad 6 0), .ref (ad 7 0), .ref (ad 8 0), .ref (ad 9 0), .int (σ 1 0), .int (σ 2 0), .int (σ 3 0), .int (σ 31 0), .int (σ 32 0), .int (nI (ν 0 0)), .ref (ad 18 0), .ref (ad 17 0), .ref (ad 16 0), .ref (ad 10 0), .ref (ad 11 0), .ref (ad 12 0), .ref (ad 13 0), .ref (ad 14 0), .ref (ad 15 0), .int (nI (ν 6 0)), .ref (ad 34 0), .ref (ad 35 0), .ref (ad 36 0)]) hx hb hts inX4 hown hK (hB 0 0 Nat.zero_lt_one) rfl 3 (by decide) lk7 rfl rfl dX4_areSame_54 ?_
            refine lv_aload_n hx hb dX4_areSame_57 rfl (lv_at hl 0 rfl) ?_
            refine g_get (C := RX4) (T := TX4) (N := 26) (ci := 4) (fs := [.int (σ 30 0), .int (σ 0 0), .int (nI (ν 1 0)), .ref (ad 6 0), .ref (ad 7 0), .ref (ad 8 0), .ref (ad 9 0), .int (σ 1 0), .int (σ 2 0), .int (σ 3 0), .int (σ 31 0), .int (σ 32 0), .int (nI (ν 0 0)), .ref (ad 18 0), .ref (ad 17 0), .ref (ad 16 0), .ref (ad 10 0), .ref (ad 11 0), .ref (ad 12 0), .ref (ad 13 0), .ref (ad 14 0), .ref (ad 15 0), .int (nI (ν 6 0)), .ref (ad 34 0), .ref (ad 35 0), .ref (ad 36 0)]) hx hb hts inX4 hown hK (hB 0 0 Nat.zero_lt_one) rfl 23 (by decide) lk60 rfl rfl dX4_areSame_58 ?_
            refine lv_iload_n hx hb dX4_areSame_61 rfl (lv_at hl 2 rfl) ?_
            refine g_iald (f := fun j => nI (ν 7 j)) (x := nI (ν 7 y)) hx hb hK (hB 34 0 Nat.zero_lt_one) (vp_in_nI (N := 15) (by omega) (by decide)) (by rw [cl_nI (by omega)]) dX4_areSame_62 ?_
            refine lv_iload hx hb dX4_areSame_63 (lv_at hl 4 rfl) ?_
            refine lv_iadd hx hb dX4_areSame_65 ?_
            refine lv_topi (fun y10 ey10 => ?_)
            obtain rfl : y10 = nI (ν 7 y + i) := ey10.trans (nI_add _ _)
            refine g_iald (f := σ 6) (x := σ 6 (ν 7 y + i)) hx hb hK (hB 6 0 Nat.zero_lt_one) (vp_in_nI (N := 30) (by omega) (by decide)) (by rw [cl_nI (by omega)]) dX4_areSame_66 ?_
            refine lv_icmp_ne (tgt := 74) hx hb dX4_areSame_67 (by decide) (fun c_67 => ?_) (fun c_67 => ?_)
            · -- 67 t
              refine lv_iconst (v := 0) hx hb dX4_areSame_74 (by decide) ?_
              refine lv_topi (fun y11 ey11 => ?_)
              obtain rfl : y11 = zb false := ey11.trans (rfl)
              rw [if_neg c_67] at hV
              have hV : V = zb (false && sameF (fun i => σ 6 (ν 7 x + i)) (fun i => σ 6 (ν 7 y + i)) j (i + 1)) := hV
              refine lv_istore_n (lv' := [(3, .int (zb false)), (0, .ref (ad 0 0)), (1, .int (nI x)), (2, .int (nI y)), (4, .int (nI i))]) hx hb dX4_areSame_75 rfl hl (by decide) rfl (fun ls hl => ?_)
              refine lv_iinc (v := nI (i + 1)) (lv' := [(4, .int (nI (i + 1))), (3, .int (zb false)), (0, .ref (ad 0 0)), (1, .int (nI x)), (2, .int (nI y))]) hx hb dX4_areSame_76 hl (k := 4) rfl (nI_1 i) (by decide) rfl (fun ls hl => ?_)
              refine lv_goto (tgt := 24) hx hb dX4_areSame_79 (by decide) ?_
              exact loop_ih (i + 1) false ls (by omega) (by omega) (fun h => nomatch h) (by rw [hj2]; exact hV) (lv_sub hl [2, 3, 4, 1, 0] rfl)
            · -- 67 f
              refine lv_iconst (v := 1) hx hb dX4_areSame_70 (by decide) ?_
              refine lv_goto (tgt := 75) hx hb dX4_areSame_71 (by decide) ?_
              refine lv_topi (fun y12 ey12 => ?_)
              obtain rfl : y12 = zb true := ey12.trans (rfl)
              rw [if_pos c_67] at hV
              have hV : V = zb (true && sameF (fun i => σ 6 (ν 7 x + i)) (fun i => σ 6 (ν 7 y + i)) j (i + 1)) := hV
              refine lv_istore_n (lv' := [(3, .int (zb true)), (0, .ref (ad 0 0)), (1, .int (nI x)), (2, .int (nI y)), (4, .int (nI i))]) hx hb dX4_areSame_75 rfl hl (by decide) rfl (fun ls hl => ?_)
              refine lv_iinc (v := nI (i + 1)) (lv' := [(4, .int (nI (i + 1))), (3, .int (zb true)), (0, .ref (ad 0 0)), (1, .int (nI x)), (2, .int (nI y))]) hx hb dX4_areSame_76 hl (k := 4) rfl (nI_1 i) (by decide) rfl (fun ls hl => ?_)
              refine lv_goto (tgt := 24) hx hb dX4_areSame_79 (by decide) ?_
              exact loop_ih (i + 1) true ls (by omega) (by omega) (fun _ => ey) (by rw [hj2]; exact hV) (lv_sub hl [2, 3, 4, 1, 0] rfl)
    exact loop (ν 8 x + 1) 0 (decide (ν 8 x = ν 8 y)) ls (Nat.zero_le _) (by omega) (fun h => of_decide_eq_true h) hV (lv_sub hl [2, 3, 4, 1, 0] rfl)

set_option maxHeartbeats 4000000 in
set_option maxRecDepth 100000 in
/-- model: isAddress -/
theorem m_X4_isAddress (l : Launch) (D : va_G) (cy : Nat → ClassId) (ad : NT) (σ : IT) (ν : NT) (hI : MI σ ν) (x : Nat) (hx0 : x < ν 0 0) : Met l yX4_isAddress wsX4_isAddress ({ frames := 0, cells := 0, slots := 0, locals := 0 } : Room) (va_Pc [.ref (ad 0 0), .int (nI x)] (fun U => gK D cy U ∧ (MW D cy ad σ ν) U.heap)) (rQ (some (.int (zb (sameT σ ν x))))) 0 0 (fun _ => False) := by
  refine Met.ofW (cc := cX4_isAddress) (maxL := 4) (ret := (some .boolean)) (by decide) rfl ?_
  intro p e s m args below meth c s₁ B9 hml hv
  obtain ⟨rfl, hK, hB⟩ := hv
  have hx := B9.exec
  have hb := B9.bytes
  have hr := B9.returns
  have hts := atoms_spec (ws := wsX4_isAddress) B9.pre
  have hown : s.vm.findClass RX4 = some m.cls := findClass_of_methodNamed B9.named
  have hlocks := B9.notSynchronized
  have lk35 := hts (.fieldLink RX4 35 "PolitecrawlModel" "size" "[I") (by decide +kernel)
  have inX4 : ∀ w ∈ u_ws RX4 TX4 26, w ∈ wsX4_isAddress := by decide +kernel
  have lk86 := hts (.fieldLink RX4 86 "PolitecrawlModel" "length" "I") (by decide +kernel)
  have lk32 := hts (.fieldLink RX4 32 "PolitecrawlModel" "text" "[I") (by decide +kernel)
  have lk7 := hts (.fieldLink RX4 7 "PolitecrawlModel" "buffer" "[I") (by decide +kernel)
  have hl := lv_entry ([.ref (ad 0 0), .int (nI x)]) (n := 4) (Nat.le_of_ble_eq_true rfl)
  rw [lg_entry_eq]
  generalize (lg_sl ([.ref (ad 0 0), .int (nI x)]) ++ List.replicate (4 - (lg_sl ([.ref (ad 0 0), .int (nI x)])).length) Slot.unset).toArray = ls at hl ⊢
  have hl : lv_has ls 4 [(0, .ref (ad 0 0)), (1, .int (nI x))] := hl
  have hx30 : x < 30 := Nat.lt_of_lt_of_le hx0 hI.1
  have hl30 := hI.2.1
  have hs30 := (hI.2.2 x hx0).2
  obtain ⟨V, hV⟩ : ∃ V, V = zb (decide (ν 3 x = ν 1 0) && sameF (fun i => σ 18 (30 * x + i)) (σ 6) (ν 1 0 - 0) 0) := ⟨_, rfl⟩
  have hV0 : zb (sameT σ ν x) = V := hV.symm
  rw [hV0]
  refine lv_aload_n hx hb dX4_isAddress_0 rfl (lv_at hl 0 rfl) ?_
  refine g_get (C := RX4) (T := TX4) (N := 26) (ci := 4) (fs := [.int (σ 30 0), .int (σ 0 0), .int (nI (ν 1 0)), .ref (ad 6 0), .ref (ad 7 0), .ref (ad 8 0), .ref (ad 9 0), .int (σ 1 0), .int (σ 2 0), .int (σ 3 0), .int (σ 31 0), .int (σ 32 0), .int (nI (ν 0 0)), .ref (ad 18 0), .ref (ad 17 0), .ref (ad 16 0), .ref (ad 10 0), .ref (ad 11 0), .ref (ad 12 0), .ref (ad 13 0), .ref (ad 14 0), .ref (ad 15 0), .int (nI (ν 6 0)), .ref (ad 34 0), .ref (ad 35 0), .ref (ad 36 0)]) hx hb hts inX4 hown hK (hB 0 0 Nat.zero_lt_one) rfl 14 (by decide) lk35 rfl rfl dX4_isAddress_1 ?_
  refine lv_iload_n hx hb dX4_isAddress_4 rfl (lv_at hl 1 rfl) ?_
  refine g_iald (f := fun j => nI (ν 3 j)) (x := nI (ν 3 x)) hx hb hK (hB 17 0 Nat.zero_lt_one) (vp_in_nI (N := 30) (by omega) (by decide)) (by rw [cl_nI (by omega)]) dX4_isAddress_5 ?_
  refine lv_aload_n hx hb dX4_isAddress_6 rfl (lv_at hl 0 rfl) ?_
  refine g_get (C := RX4) (T := TX4) (N := 26) (ci := 4) (fs := [.int (σ 30 0), .int (σ 0 0), .int (nI (ν 1 0)), .ref (ad 6 0), .ref (ad 7 0), .ref (ad 8 0), .ref (ad 9 0), .int (σ 1 0), .int (σ 2 0), .int (σ 3 0), .int (σ 31 0), .int (σ 32 0), .int (nI (ν 0 0)), .ref (ad 18 0), .ref (ad 17 0), .ref (ad 16 0), .ref (ad 10 0), .ref (ad 11 0), .ref (ad 12 0), .ref (ad 13 0), .ref (ad 14 0), .ref (ad 15 0), .int (nI (ν 6 0)), .ref (ad 34 0), .ref (ad 35 0), .ref (ad 36 0)]) hx hb hts inX4 hown hK (hB 0 0 Nat.zero_lt_one) rfl 2 (by decide) lk86 rfl rfl dX4_isAddress_7 ?_
  refine lv_icmp_ne (tgt := 17) hx hb dX4_isAddress_10 (by decide) (fun c_10 => ?_) (fun c_10 => ?_)
  · -- 10 t
    refine lv_iconst (v := 0) hx hb dX4_isAddress_17 (by decide) ?_
    refine lv_topi (fun y1 ey1 => ?_)
    obtain rfl : y1 = zb (decide (ν 3 x = ν 1 0)) := ey1.trans ((by rw [decide_eq_false (fun q => c_10 (by rw [q]))]; rfl))
    refine lv_istore_n (lv' := [(2, .int (zb (decide (ν 3 x = ν 1 0)))), (0, .ref (ad 0 0)), (1, .int (nI x))]) hx hb dX4_isAddress_18 rfl hl (by decide) rfl (fun ls hl => ?_)
    refine lv_iconst (v := 0) hx hb dX4_isAddress_19 (by decide) ?_
    refine lv_topi (fun y2 ey2 => ?_)
    obtain rfl : y2 = nI 0 := ey2.trans (nI_0.symm)
    refine lv_istore_n (lv' := [(3, .int (nI 0)), (2, .int (zb (decide (ν 3 x = ν 1 0)))), (0, .ref (ad 0 0)), (1, .int (nI x))]) hx hb dX4_isAddress_20 rfl hl (by decide) rfl (fun ls hl => ?_)
    have loop : ∀ (k : Nat) (i : Nat) (b : Bool) (ls : Array Slot), i ≤ ν 1 0 → ν 1 0 < i + k → V = zb (b && sameF (fun i => σ 18 (30 * x + i)) (σ 6) (ν 1 0 - i) i) → lv_has ls 4 [(0, .ref (ad 0 0)), (1, .int (nI x)), (2, .int (zb b)), (3, .int (nI i))] → W p l e (headSpec wsX4_isAddress ({ frames := 0, cells := 0, slots := 0, locals := 0 } : Room)).room s m ([.ref (ad 0 0), .int (nI x)] : List Value).toArray below meth c s.heap [] 0 0 (MQ below (rQ (some (.int V))) ([.ref (ad 0 0), .int (nI x)] : List Value).toArray s 0 0 (fun _ => False)) (F0 m 21 ls []) := by
      intro k
      induction k with
      | zero => intro i b ls hi hk hV hl; exfalso; omega
      | succ k loop_ih =>
        intro i b ls hi hk hV hl
        refine lv_iload_n hx hb dX4_isAddress_21 rfl (lv_at hl 3 rfl) ?_
        refine lv_aload_n hx hb dX4_isAddress_22 rfl (lv_at hl 0 rfl) ?_
        refine g_get (C := RX4) (T := TX4) (N := 26) (ci := 4) (fs := [.int (σ 30 0), .int (σ 0 0), .int (nI (ν 1 0)), .ref (ad 6 0), .ref (ad 7 0), .ref (ad 8 0), .ref (ad 9 0), .int (σ 1 0), .int (σ 2 0), .int (σ 3 0), .int (σ 31 0), .int (σ 32 0), .int (nI (ν 0 0)), .ref (ad 18 0), .ref (ad 17 0), .ref (ad 16 0), .ref (ad 10 0), .ref (ad 11 0), .ref (ad 12 0), .ref (ad 13 0), .ref (ad 14 0), .ref (ad 15 0), .int (nI (ν 6 0)), .ref (ad 34 0), .ref (ad 35 0), .ref (ad 36 0)]) hx hb hts inX4 hown hK (hB 0 0 Nat.zero_lt_one) rfl 2 (by decide) lk86 rfl rfl dX4_isAddress_23 ?_
        refine lv_icmp_ge (tgt := 65) hx hb dX4_isAddress_26 (by decide) (fun c_26 => ?_) (fun c_26 => ?_)
        · -- 26 t
          refine lv_iload_n hx hb dX4_isAddress_65 rfl (lv_at hl 2 rfl) ?_
          exact g_zret hx hb hr hlocks (by cases b <;> rfl) dX4_isAddress_66 (by rw [hV, show ν 1 0 - i = 0 from by have := (nI_leI (by omega) (by omega)).mp c_26; omega, sameF, Bool.and_true])
        · -- 26 f
          refine lv_iload_n hx hb dX4_isAddress_29 rfl (lv_at hl 2 rfl) ?_
          refine lv_if_eq (tgt := 65) hx hb dX4_isAddress_30 (by decide) (fun c_30 => ?_) (fun c_30 => ?_)
          · -- 30 t
            refine lv_iload_n hx hb dX4_isAddress_65 rfl (lv_at hl 2 rfl) ?_
            exact g_zret hx hb hr hlocks (by cases b <;> rfl) dX4_isAddress_66 (by rw [hV, (zb_0.mp c_30 : b = false), Bool.false_and])
          · -- 30 f
            have pb : b = true := zb_n0.mp c_30
            have hlt : i < ν 1 0 := Nat.not_le.mp fun q => c_26 ((nI_leI (by omega) (by omega)).mpr q)
            obtain ⟨j, hj⟩ : ∃ j, ν 1 0 - i = j + 1 := ⟨ν 1 0 - i - 1, by omega⟩
            have hj2 : ν 1 0 - (i + 1) = j := by omega
            rw [pb, Bool.true_and, hj, sameF] at hV
            refine lv_aload_n hx hb dX4_isAddress_33 rfl (lv_at hl 0 rfl) ?_
            refine g_get (C := RX4) (T := TX4) (N := 26) (ci := 4) (fs := [.int (σ 30 0), .int (σ 0 0), .int (nI (ν 1 0)), .ref (ad 6 0), .ref (ad 7 0), .ref (ad 8 0), .ref (ad 9 0), .int (σ 1 0), .int (σ 2 0), .int (σ 3 0), .int (σ 31 0), .int (σ 32 0), .int (nI (ν 0 0)), .ref (ad 18 0), .ref (ad 17 0), .ref (ad 16 0), .ref (ad 10 0), .ref (ad 11 0), .ref (ad 12 0), .ref (ad 13 0), .ref (ad 14 0), .ref (ad 15 0), .int (nI (ν 6 0)), .ref (ad 34 0), .ref (ad 35 0), .ref (ad 36 0)]) hx hb hts inX4 hown hK (hB 0 0 Nat.zero_lt_one) rfl 13 (by decide) lk32 rfl rfl dX4_isAddress_34 ?_
            refine lv_bipush (v := 30) hx hb dX4_isAddress_37 (by decide) ?_
            refine lv_iload_n hx hb dX4_isAddress_39 rfl (lv_at hl 1 rfl) ?_
            refine lv_imul hx hb dX4_isAddress_40 ?_
            refine lv_topi (fun y3 ey3 => ?_)
            obtain rfl : y3 = nI (30 * x) := ey3.trans (pk_mul 30 _)
            refine lv_iload_n hx hb dX4_isAddress_41 rfl (lv_at hl 3 rfl) ?_
            refine lv_iadd hx hb dX4_isAddress_42 ?_
            refine lv_topi (fun y4 ey4 => ?_)
            obtain rfl : y4 = nI (30 * x + i) := ey4.trans (nI_add _ _)
            refine g_iald (f := σ 18) (x := σ 18 (30 * x + i)) hx hb hK (hB 18 0 Nat.zero_lt_one) (vp_in_nI (N := 900) (by omega) (by decide)) (by rw [cl_nI (by omega)]) dX4_isAddress_43 ?_
            refine lv_aload_n hx hb dX4_isAddress_44 rfl (lv_at hl 0 rfl) ?_
            refine g_get (C := RX4) (T := TX4) (N := 26) (ci := 4) (fs := [.int (σ 30 0), .int (σ 0 0), .int (nI (ν 1 0)), .ref (ad 6 0), .ref (ad 7 0), .ref (ad 8 0), .ref (ad 9 0), .int (σ 1 0), .int (σ 2 0), .int (σ 3 0), .int (σ 31 0), .int (σ 32 0), .int (nI (ν 0 0)), .ref (ad 18 0), .ref (ad 17 0), .ref (ad 16 0), .ref (ad 10 0), .ref (ad 11 0), .ref (ad 12 0), .ref (ad 13 0), .ref (ad 14 0), .ref (ad 15 0), .int (nI (ν 6 0)), .ref (ad 34 0), .ref (ad 35 0), .ref (ad 36 0)]) hx hb hts inX4 hown hK (hB 0 0 Nat.zero_lt_one) rfl 3 (by decide) lk7 rfl rfl dX4_isAddress_45 ?_
            refine lv_iload_n hx hb dX4_isAddress_48 rfl (lv_at hl 3 rfl) ?_
            refine g_iald (f := σ 6) (x := σ 6 i) hx hb hK (hB 6 0 Nat.zero_lt_one) (vp_in_nI (N := 30) (by omega) (by decide)) (by rw [cl_nI (by omega)]) dX4_isAddress_49 ?_
            refine lv_icmp_ne (tgt := 57) hx hb dX4_isAddress_50 (by decide) (fun c_50 => ?_) (fun c_50 => ?_)
            · -- 50 t
              refine lv_iconst (v := 0) hx hb dX4_isAddress_57 (by decide) ?_
              refine lv_topi (fun y5 ey5 => ?_)
              obtain rfl : y5 = zb false := ey5.trans (rfl)
              rw [if_neg c_50] at hV
              have hV : V = zb (false && sameF (fun i => σ 18 (30 * x + i)) (σ 6) j (i + 1)) := hV
              refine lv_istore_n (lv' := [(2, .int (zb false)), (0, .ref (ad 0 0)), (1, .int (nI x)), (3, .int (nI i))]) hx hb dX4_isAddress_58 rfl hl (by decide) rfl (fun ls hl => ?_)
              refine lv_iinc (v := nI (i + 1)) (lv' := [(3, .int (nI (i + 1))), (2, .int (zb false)), (0, .ref (ad 0 0)), (1, .int (nI x))]) hx hb dX4_isAddress_59 hl (k := 3) rfl (nI_1 i) (by decide) rfl (fun ls hl => ?_)
              refine lv_goto (tgt := 21) hx hb dX4_isAddress_62 (by decide) ?_
              exact loop_ih (i + 1) false ls (by omega) (by omega) (by rw [hj2]; exact hV) (lv_sub hl [2, 3, 1, 0] rfl)
            · -- 50 f
              refine lv_iconst (v := 1) hx hb dX4_isAddress_53 (by decide) ?_
              refine lv_goto (tgt := 58) hx hb dX4_isAddress_54 (by decide) ?_
              refine lv_topi (fun y6 ey6 => ?_)
              obtain rfl : y6 = zb true := ey6.trans (rfl)
              rw [if_pos c_50] at hV
              have hV : V = zb (true && sameF (fun i => σ 18 (30 * x + i)) (σ 6) j (i + 1)) := hV
              refine lv_istore_n (lv' := [(2, .int (zb true)), (0, .ref (ad 0 0)), (1, .int (nI x)), (3, .int (nI i))]) hx hb dX4_isAddress_58 rfl hl (by decide) rfl (fun ls hl => ?_)
              refine lv_iinc (v := nI (i + 1)) (lv' := [(3, .int (nI (i + 1))), (2, .int (zb true)), (0, .ref (ad 0 0)), (1, .int (nI x))]) hx hb dX4_isAddress_59 hl (k := 3) rfl (nI_1 i) (by decide) rfl (fun ls hl => ?_)
              refine lv_goto (tgt := 21) hx hb dX4_isAddress_62 (by decide) ?_
              exact loop_ih (i + 1) true ls (by omega) (by omega) (by rw [hj2]; exact hV) (lv_sub hl [2, 3, 1, 0] rfl)
    exact loop (ν 1 0 + 1) 0 (decide (ν 3 x = ν 1 0)) ls (Nat.zero_le _) (by omega) hV (lv_sub hl [2, 3, 1, 0] rfl)
  · -- 10 f
    refine lv_iconst (v := 1) hx hb dX4_isAddress_13 (by decide) ?_
    refine lv_goto (tgt := 18) hx hb dX4_isAddress_14 (by decide) ?_
    refine lv_topi (fun y7 ey7 => ?_)
    obtain rfl : y7 = zb (decide (ν 3 x = ν 1 0)) := ey7.trans ((by rw [decide_eq_true ((nI_eq (by omega) (by omega)).mp c_10)]; rfl))
    refine lv_istore_n (lv' := [(2, .int (zb (decide (ν 3 x = ν 1 0)))), (0, .ref (ad 0 0)), (1, .int (nI x))]) hx hb dX4_isAddress_18 rfl hl (by decide) rfl (fun ls hl => ?_)
    refine lv_iconst (v := 0) hx hb dX4_isAddress_19 (by decide) ?_
    refine lv_topi (fun y8 ey8 => ?_)
    obtain rfl : y8 = nI 0 := ey8.trans (nI_0.symm)
    refine lv_istore_n (lv' := [(3, .int (nI 0)), (2, .int (zb (decide (ν 3 x = ν 1 0)))), (0, .ref (ad 0 0)), (1, .int (nI x))]) hx hb dX4_isAddress_20 rfl hl (by decide) rfl (fun ls hl => ?_)
    have loop : ∀ (k : Nat) (i : Nat) (b : Bool) (ls : Array Slot), i ≤ ν 1 0 → ν 1 0 < i + k → V = zb (b && sameF (fun i => σ 18 (30 * x + i)) (σ 6) (ν 1 0 - i) i) → lv_has ls 4 [(0, .ref (ad 0 0)), (1, .int (nI x)), (2, .int (zb b)), (3, .int (nI i))] → W p l e (headSpec wsX4_isAddress ({ frames := 0, cells := 0, slots := 0, locals := 0 } : Room)).room s m ([.ref (ad 0 0), .int (nI x)] : List Value).toArray below meth c s.heap [] 0 0 (MQ below (rQ (some (.int V))) ([.ref (ad 0 0), .int (nI x)] : List Value).toArray s 0 0 (fun _ => False)) (F0 m 21 ls []) := by
      intro k
      induction k with
      | zero => intro i b ls hi hk hV hl; exfalso; omega
      | succ k loop_ih =>
        intro i b ls hi hk hV hl
        refine lv_iload_n hx hb dX4_isAddress_21 rfl (lv_at hl 3 rfl) ?_
        refine lv_aload_n hx hb dX4_isAddress_22 rfl (lv_at hl 0 rfl) ?_
        refine g_get (C := RX4) (T := TX4) (N := 26) (ci := 4) (fs := [.int (σ 30 0), .int (σ 0 0), .int (nI (ν 1 0)), .ref (ad 6 0), .ref (ad 7 0), .ref (ad 8 0), .ref (ad 9 0), .int (σ 1 0), .int (σ 2 0), .int (σ 3 0), .int (σ 31 0), .int (σ 32 0), .int (nI (ν 0 0)), .ref (ad 18 0), .ref (ad 17 0), .ref (ad 16 0), .ref (ad 10 0), .ref (ad 11 0), .ref (ad 12 0), .ref (ad 13 0), .ref (ad 14 0), .ref (ad 15 0), .int (nI (ν 6 0)), .ref (ad 34 0), .ref (ad 35 0), .ref (ad 36 0)]) hx hb hts inX4 hown hK (hB 0 0 Nat.zero_lt_one) rfl 2 (by decide) lk86 rfl rfl dX4_isAddress_23 ?_
        refine lv_icmp_ge (tgt := 65) hx hb dX4_isAddress_26 (by decide) (fun c_26 => ?_) (fun c_26 => ?_)
        · -- 26 t
          refine lv_iload_n hx hb dX4_isAddress_65 rfl (lv_at hl 2 rfl) ?_
          exact g_zret hx hb hr hlocks (by cases b <;> rfl) dX4_isAddress_66 (by rw [hV, show ν 1 0 - i = 0 from by have := (nI_leI (by omega) (by omega)).mp c_26; omega, sameF, Bool.and_true])
        · -- 26 f
          refine lv_iload_n hx hb dX4_isAddress_29 rfl (lv_at hl 2 rfl) ?_
          refine lv_if_eq (tgt := 65) hx hb dX4_isAddress_30 (by decide) (fun c_30 => ?_) (fun c_30 => ?_)
          · -- 30 t
            refine lv_iload_n hx hb dX4_isAddress_65 rfl (lv_at hl 2 rfl) ?_
            exact g_zret hx hb hr hlocks (by cases b <;> rfl) dX4_isAddress_66 (by rw [hV, (zb_0.mp c_30 : b = false), Bool.false_and])
          · -- 30 f
            have pb : b = true := zb_n0.mp c_30
            have hlt : i < ν 1 0 := Nat.not_le.mp fun q => c_26 ((nI_leI (by omega) (by omega)).mpr q)
            obtain ⟨j, hj⟩ : ∃ j, ν 1 0 - i = j + 1 := ⟨ν 1 0 - i - 1, by omega⟩
            have hj2 : ν 1 0 - (i + 1) = j := by omega
            rw [pb, Bool.true_and, hj, sameF] at hV
            refine lv_aload_n hx hb dX4_isAddress_33 rfl (lv_at hl 0 rfl) ?_
            refine g_get (C := RX4) (T := TX4) (N := 26) (ci := 4) (fs := [.int (σ 30 0), .int (σ 0 0), .int (nI (ν 1 0)), .ref (ad 6 0), .ref (ad 7 0), .ref (ad 8 0), .ref (ad 9 0), .int (σ 1 0), .int (σ 2 0), .int (σ 3 0), .int (σ 31 0), .int (σ 32 0), .int (nI (ν 0 0)), .ref (ad 18 0), .ref (ad 17 0), .ref (ad 16 0), .ref (ad 10 0), .ref (ad 11 0), .ref (ad 12 0), .ref (ad 13 0), .ref (ad 14 0), .ref (ad 15 0), .int (nI (ν 6 0)), .ref (ad 34 0), .ref (ad 35 0), .ref (ad 36 0)]) hx hb hts inX4 hown hK (hB 0 0 Nat.zero_lt_one) rfl 13 (by decide) lk32 rfl rfl dX4_isAddress_34 ?_
            refine lv_bipush (v := 30) hx hb dX4_isAddress_37 (by decide) ?_
            refine lv_iload_n hx hb dX4_isAddress_39 rfl (lv_at hl 1 rfl) ?_
            refine lv_imul hx hb dX4_isAddress_40 ?_
            refine lv_topi (fun y9 ey9 => ?_)
            obtain rfl : y9 = nI (30 * x) := ey9.trans (pk_mul 30 _)
            refine lv_iload_n hx hb dX4_isAddress_41 rfl (lv_at hl 3 rfl) ?_
            refine lv_iadd hx hb dX4_isAddress_42 ?_
            refine lv_topi (fun y10 ey10 => ?_)
            obtain rfl : y10 = nI (30 * x + i) := ey10.trans (nI_add _ _)
            refine g_iald (f := σ 18) (x := σ 18 (30 * x + i)) hx hb hK (hB 18 0 Nat.zero_lt_one) (vp_in_nI (N := 900) (by omega) (by decide)) (by rw [cl_nI (by omega)]) dX4_isAddress_43 ?_
            refine lv_aload_n hx hb dX4_isAddress_44 rfl (lv_at hl 0 rfl) ?_
            refine g_get (C := RX4) (T := TX4) (N := 26) (ci := 4) (fs := [.int (σ 30 0), .int (σ 0 0), .int (nI (ν 1 0)), .ref (ad 6 0), .ref (ad 7 0), .ref (ad 8 0), .ref (ad 9 0), .int (σ 1 0), .int (σ 2 0), .int (σ 3 0), .int (σ 31 0), .int (σ 32 0), .int (nI (ν 0 0)), .ref (ad 18 0), .ref (ad 17 0), .ref (ad 16 0), .ref (ad 10 0), .ref (ad 11 0), .ref (ad 12 0), .ref (ad 13 0), .ref (ad 14 0), .ref (ad 15 0), .int (nI (ν 6 0)), .ref (ad 34 0), .ref (ad 35 0), .ref (ad 36 0)]) hx hb hts inX4 hown hK (hB 0 0 Nat.zero_lt_one) rfl 3 (by decide) lk7 rfl rfl dX4_isAddress_45 ?_
            refine lv_iload_n hx hb dX4_isAddress_48 rfl (lv_at hl 3 rfl) ?_
            refine g_iald (f := σ 6) (x := σ 6 i) hx hb hK (hB 6 0 Nat.zero_lt_one) (vp_in_nI (N := 30) (by omega) (by decide)) (by rw [cl_nI (by omega)]) dX4_isAddress_49 ?_
            refine lv_icmp_ne (tgt := 57) hx hb dX4_isAddress_50 (by decide) (fun c_50 => ?_) (fun c_50 => ?_)
            · -- 50 t
              refine lv_iconst (v := 0) hx hb dX4_isAddress_57 (by decide) ?_
              refine lv_topi (fun y11 ey11 => ?_)
              obtain rfl : y11 = zb false := ey11.trans (rfl)
              rw [if_neg c_50] at hV
              have hV : V = zb (false && sameF (fun i => σ 18 (30 * x + i)) (σ 6) j (i + 1)) := hV
              refine lv_istore_n (lv' := [(2, .int (zb false)), (0, .ref (ad 0 0)), (1, .int (nI x)), (3, .int (nI i))]) hx hb dX4_isAddress_58 rfl hl (by decide) rfl (fun ls hl => ?_)
              refine lv_iinc (v := nI (i + 1)) (lv' := [(3, .int (nI (i + 1))), (2, .int (zb false)), (0, .ref (ad 0 0)), (1, .int (nI x))]) hx hb dX4_isAddress_59 hl (k := 3) rfl (nI_1 i) (by decide) rfl (fun ls hl => ?_)
              refine lv_goto (tgt := 21) hx hb dX4_isAddress_62 (by decide) ?_
              exact loop_ih (i + 1) false ls (by omega) (by omega) (by rw [hj2]; exact hV) (lv_sub hl [2, 3, 1, 0] rfl)
            · -- 50 f
              refine lv_iconst (v := 1) hx hb dX4_isAddress_53 (by decide) ?_
              refine lv_goto (tgt := 58) hx hb dX4_isAddress_54 (by decide) ?_
              refine lv_topi (fun y12 ey12 => ?_)
              obtain rfl : y12 = zb true := ey12.trans (rfl)
              rw [if_pos c_50] at hV
              have hV : V = zb (true && sameF (fun i => σ 18 (30 * x + i)) (σ 6) j (i + 1)) := hV
              refine lv_istore_n (lv' := [(2, .int (zb true)), (0, .ref (ad 0 0)), (1, .int (nI x)), (3, .int (nI i))]) hx hb dX4_isAddress_58 rfl hl (by decide) rfl (fun ls hl => ?_)
              refine lv_iinc (v := nI (i + 1)) (lv' := [(3, .int (nI (i + 1))), (2, .int (zb true)), (0, .ref (ad 0 0)), (1, .int (nI x))]) hx hb dX4_isAddress_59 hl (k := 3) rfl (nI_1 i) (by decide) rfl (fun ls hl => ?_)
              refine lv_goto (tgt := 21) hx hb dX4_isAddress_62 (by decide) ?_
              exact loop_ih (i + 1) true ls (by omega) (by omega) (by rw [hj2]; exact hV) (lv_sub hl [2, 3, 1, 0] rfl)
    exact loop (ν 1 0 + 1) 0 (decide (ν 3 x = ν 1 0)) ls (Nat.zero_le _) (by omega) hV (lv_sub hl [2, 3, 1, 0] rfl)
end
section
/-! PolitecrawlModel: what its methods write -/
section MWS
variable {D : va_G} {cy : Nat → ClassId} {ad : NT} {σ : IT} {ν : NT} {H H1 : Heap}
theorem MW.obj {σ' : IT} {ν' : NT} (h : MW D cy ad σ ν H) (hJ : wJ cM ad) (hc : oA D (ad 0 0) (eM cy ad σ' ν' 0 0) H1) (hu : hU (ad 0 0) H H1) (hr : ∀ k, 0 < cM k → k ≠ 0 → rowM σ' ν' k = rowM σ ν k) : MW D cy ad σ' ν' H1 := by
  refine wP.set h hJ 0 0 Nat.zero_lt_one hc hu rfl (fun k' i' hi hne => ?_)
  have hk : 0 < cM k' := Nat.lt_of_le_of_lt (Nat.zero_le _) hi
  have h1 : i' = 0 := by
    have : cM k' ≤ 1 := by unfold cM; split <;> decide
    omega
  have h0 : k' ≠ 0 := fun e => hne ⟨e, h1⟩
  simp only [eM, if_neg h0, hr k' hk h0]
theorem MW.row {σ' : IT} {ν' : NT} (h : MW D cy ad σ ν H) (hJ : wJ cM ad) (K : Nat) (hK : 0 < cM K) (hK0 : K ≠ 0) (hc : oA D (ad K 0) (.inl (cy (mT K), mS K, .inl (rowM σ' ν' K))) H1) (hu : hU (ad K 0) H H1) (ho : eM cy ad σ' ν' 0 0 = eM cy ad σ ν 0 0) (hr : ∀ k, 0 < cM k → k ≠ K → rowM σ' ν' k = rowM σ ν k) : MW D cy ad σ' ν' H1 := by
  refine wP.set h hJ K 0 hK hc hu (by simp only [eM, if_neg hK0]) (fun k' i' hi hne => ?_)
  have hk : 0 < cM k' := Nat.lt_of_le_of_lt (Nat.zero_le _) hi
  have h1 : i' = 0 := by
    have : cM k' ≤ 1 := by unfold cM; split <;> decide
    omega
  by_cases h0 : k' = 0
  · subst h0; exact ho
  · simp only [eM, if_neg h0, hr k' hk (fun e => hne ⟨e, h1⟩)]
theorem up2_row {α : Type} {f : Nat → Nat → α} {k i k' : Nat} {v : α} (h : k' ≠ k) : up2 f k i v k' = f k' := funext fun i' => up2_k h
theorem up2_up {α : Type} {f : Nat → Nat → α} {k i : Nat} {v w : α} : up2 (up2 f k i v) k i w = up2 f k i w := by
  funext k' i'
  by_cases h : k' = k ∧ i' = i <;> simp [up2, h]
theorem rowM_s {K i : Nat} {v : Int32} {k : Nat} (h : k ≠ K) : rowM (up2 σ K i v) ν k = rowM σ ν k := by simp only [rowM, up2_row h]
theorem rowM_n {K i v : Nat} {k : Nat} (h5 : k = 16 → K ≠ 5) (h3 : k = 17 → K ≠ 3) (h7 : k = 34 → K ≠ 7) (h8 : k = 35 → K ≠ 8) : rowM σ (up2 ν K i v) k = rowM σ ν k := by
  simp only [rowM]
  by_cases e5 : k = 16
  · rw [if_pos e5, if_pos e5, up2_row (Ne.symm (h5 e5))]
  by_cases e3 : k = 17
  · rw [if_neg e5, if_neg e5, if_pos e3, if_pos e3, up2_row (Ne.symm (h3 e3))]
  by_cases e7 : k = 34
  · rw [if_neg e5, if_neg e5, if_neg e3, if_neg e3, if_pos e7, if_pos e7, up2_row (Ne.symm (h7 e7))]
  by_cases e8 : k = 35
  · rw [if_neg e5, if_neg e5, if_neg e3, if_neg e3, if_neg e7, if_neg e7, if_pos e8, if_pos e8, up2_row (Ne.symm (h8 e8))]
  · rw [if_neg e5, if_neg e5, if_neg e3, if_neg e3, if_neg e7, if_neg e7, if_neg e8, if_neg e8]
/-- a scalar of the object is written -/
theorem MW.sc {K : Nat} {v : Int32} (h : MW D cy ad σ ν H) (hJ : wJ cM ad) (hK : cM K = 0 ∨ K = 0) (hc : oA D (ad 0 0) (eM cy ad (up2 σ K 0 v) ν 0 0) H1) (hu : hU (ad 0 0) H H1) : MW D cy ad (up2 σ K 0 v) ν H1 :=
  h.obj hJ hc hu (fun k hk h0 => rowM_s (fun e => by subst e; rcases hK with q | q <;> omega))
theorem MW.nc {K v : Nat} (h : MW D cy ad σ ν H) (hJ : wJ cM ad) (hK : K ≠ 5 ∧ K ≠ 3 ∧ K ≠ 7 ∧ K ≠ 8) (hc : oA D (ad 0 0) (eM cy ad σ (up2 ν K 0 v) 0 0) H1) (hu : hU (ad 0 0) H H1) : MW D cy ad σ (up2 ν K 0 v) H1 :=
  h.obj hJ hc hu (fun k hk h0 => rowM_n (fun _ => hK.1) (fun _ => hK.2.1) (fun _ => hK.2.2.1) (fun _ => hK.2.2.2))
/-- a place of a row is written -/
theorem MW.sst (h : MW D cy ad σ ν H) (hJ : wJ cM ad) (K : Nat) {q : Nat} {i v : Int32} (hK : 0 < cM K) (hK0 : K ≠ 0) (hKn : K ≠ 16 ∧ K ≠ 17 ∧ K ≠ 34 ∧ K ≠ 35) (hs : K ≠ 30 ∧ K ≠ 1 ∧ K ≠ 2 ∧ K ≠ 3 ∧ K ≠ 31 ∧ K ≠ 32) (hq : i.toNatClampNeg = q) (hc : oA D (ad K 0) (.inl (cy (mT K), mS K, .inl (upd (σ K) i.toNatClampNeg v))) H1) (hu : hU (ad K 0) H H1) : MW D cy ad (up2 σ K q v) ν H1 := by
  refine h.row hJ K hK hK0 (hc.rowI fun j _ => ?_) hu ?_ (fun k hk hne => rowM_s hne)
  · subst hq
    simp only [rowM, if_neg hKn.1, if_neg hKn.2.1, if_neg hKn.2.2.1, if_neg hKn.2.2.2]
    by_cases e : j = i.toNatClampNeg <;> simp [upd, up2, e]
  · simp only [eM, if_true, up2_k (Ne.symm hs.1), up2_k (Ne.symm hs.2.1), up2_k (Ne.symm hs.2.2.1), up2_k (Ne.symm hs.2.2.2.1), up2_k (Ne.symm hs.2.2.2.2.1), up2_k (Ne.symm hs.2.2.2.2.2), up2_k (Ne.symm hK0)]
theorem MW.nst (h : MW D cy ad σ ν H) (hJ : wJ cM ad) (K N : Nat) {q v : Nat} {i : Int32} (hKN : (K = 16 ∧ N = 5) ∨ (K = 17 ∧ N = 3) ∨ (K = 34 ∧ N = 7) ∨ (K = 35 ∧ N = 8)) (hq : i.toNatClampNeg = q) (hc : oA D (ad K 0) (.inl (cy (mT K), mS K, .inl (upd (fun j => nI (ν N j)) i.toNatClampNeg (nI v)))) H1) (hu : hU (ad K 0) H H1) : MW D cy ad σ (up2 ν N q v) H1 := by
  have hup : ∀ j, upd (fun j => nI (ν N j)) i.toNatClampNeg (nI v) j = nI (up2 ν N q v N j) := fun j => by
    subst hq
    by_cases e : j = i.toNatClampNeg <;> simp [upd, up2, e]
  rcases hKN with ⟨rfl, rfl⟩ | ⟨rfl, rfl⟩ | ⟨rfl, rfl⟩ | ⟨rfl, rfl⟩
  · exact h.row hJ 16 Nat.zero_lt_one (by decide) (hc.rowI fun j _ => hup j) hu rfl (fun k hk hne => rowM_n (fun e => absurd e hne) (fun _ => by decide) (fun _ => by decide) (fun _ => by decide))
  · exact h.row hJ 17 Nat.zero_lt_one (by decide) (hc.rowI fun j _ => hup j) hu rfl (fun k hk hne => rowM_n (fun _ => by decide) (fun e => absurd e hne) (fun _ => by decide) (fun _ => by decide))
  · exact h.row hJ 34 Nat.zero_lt_one (by decide) (hc.rowI fun j _ => hup j) hu rfl (fun k hk hne => rowM_n (fun _ => by decide) (fun _ => by decide) (fun e => absurd e hne) (fun _ => by decide))
  · exact h.row hJ 35 Nat.zero_lt_one (by decide) (hc.rowI fun j _ => hup j) hu rfl (fun k hk hne => rowM_n (fun _ => by decide) (fun _ => by decide) (fun _ => by decide) (fun e => absurd e hne))
end MWS

set_option maxHeartbeats 4000000 in
set_option maxRecDepth 100000 in
/-- model: fails -/
theorem m_X4_fails (l : Launch) (D : va_G) (cy : Nat → ClassId) (sz : Nat) (ad : NT) (σ : IT) (ν : NT) (hJ : wJ cM ad) (k : Int32) : Met l yX4_fails wsX4_fails ({ frames := 0, cells := 0, slots := 0, locals := 0 } : Room) (va_Pc [.ref (ad 0 0), .int k] (fun U => gK D cy U ∧ (atSz sz (MW D cy ad σ ν)) U.heap)) (uQ (some (.int 0)) (MW D cy ad (up2 σ 30 0 k) ν) (wA cM ad sz)) 0 0 (wA cM ad sz) := by
  refine Met.ofW (cc := cX4_fails) (maxL := 2) (ret := (some .int)) (by decide) rfl ?_
  intro p e s m args below meth c s₁ B9 hml hv
  obtain ⟨rfl, hK, hsz, hB⟩ := hv
  have hx := B9.exec
  have hb := B9.bytes
  have hr := B9.returns
  have hts := atoms_spec (ws := wsX4_fails) B9.pre
  have hown : s.vm.findClass RX4 = some m.cls := findClass_of_methodNamed B9.named
  have hlocks := B9.notSynchronized
  subst hsz
  have hS : va_S (wA cM ad s.heap.size) s.heap s.heap [] := va_S.rf
  have lk69 := hts (.fieldLink RX4 69 "PolitecrawlModel" "thrown" "I") (by decide +kernel)
  have inX4 : ∀ w ∈ u_ws RX4 TX4 26, w ∈ wsX4_fails := by decide +kernel
  have hl := lv_entry ([.ref (ad 0 0), .int k]) (n := 2) (Nat.le_of_ble_eq_true rfl)
  rw [lg_entry_eq]
  generalize (lg_sl ([.ref (ad 0 0), .int k]) ++ List.replicate (2 - (lg_sl ([.ref (ad 0 0), .int k])).length) Slot.unset).toArray = ls at hl ⊢
  have hl : lv_has ls 2 [(0, .ref (ad 0 0)), (1, .int k)] := hl
  refine lv_aload_n hx hb dX4_fails_0 rfl (lv_at hl 0 rfl) ?_
  refine lv_iload_n hx hb dX4_fails_1 rfl (lv_at hl 1 rfl) ?_
  refine g_put (C := RX4) (T := TX4) (N := 26) (ci := 4) (fs := [.int (σ 30 0), .int (σ 0 0), .int (nI (ν 1 0)), .ref (ad 6 0), .ref (ad 7 0), .ref (ad 8 0), .ref (ad 9 0), .int (σ 1 0), .int (σ 2 0), .int (σ 3 0), .int (σ 31 0), .int (σ 32 0), .int (nI (ν 0 0)), .ref (ad 18 0), .ref (ad 17 0), .ref (ad 16 0), .ref (ad 10 0), .ref (ad 11 0), .ref (ad 12 0), .ref (ad 13 0), .ref (ad 14 0), .ref (ad 15 0), .int (nI (ν 6 0)), .ref (ad 34 0), .ref (ad 35 0), .ref (ad 36 0)]) (A := (wA cM ad s.heap.size)) hx hb hts inX4 tyX4 tyX4_ok nmX4 hown hK (hB 0 0 Nat.zero_lt_one) rfl hS (wA.in (k := 0) (i := 0) Nat.zero_lt_one) 0 (by decide) lk69 rfl rfl rfl rfl (Nat.le_of_ble_eq_true rfl) dX4_fails_2 (fun H1 locs1 hc1 hu1 hS1 => ?_)
  have hB1 : MW D cy ad (up2 σ 30 0 k) ν H1 := hB.sc hJ (by decide) hc1 hu1
  obtain ⟨σ1, hs1⟩ : ∃ z : IT, z = up2 σ 30 0 k := ⟨_, rfl⟩
  rw [← hs1] at hB1
  refine lv_iconst (v := 0) hx hb dX4_fails_5 (by decide) ?_
  exact g_iretU hx hb hr hlocks hS1 (by rw [hs1] at hB1; exact hB1) (Nat.le_refl _) (Nat.le_refl _) dX4_fails_6 rfl


def ask (p : Bool) : Int32 := if p then 0 else 1
def oIsAsked (σ : IT) (ν : NT) (q : Int32) : IT := up2 σ 30 0 (ask (pageB ν q))
theorem ask_0 {b : Bool} : ask b = 0 ↔ b = true := by cases b <;> simp [ask]
theorem ask_b {b : Bool} (h : ask b = 0) : b = true := ask_0.mp h
theorem ask_n {b : Bool} (h : ¬ ask b = 0) : b = false := by cases b with | false => rfl | true => exact absurd rfl h

set_option maxHeartbeats 4000000 in
set_option maxRecDepth 100000 in
/-- model: isAsked -/
theorem m_X4_isAsked (l : Launch) (D : va_G) (cy : Nat → ClassId) (sz : Nat) (ad : NT) (σ : IT) (ν : NT) (hJ : wJ cM ad) (q : Int32) : Met l yX4_isAsked wsX4_isAsked ({ frames := 2, cells := 0, slots := 0, locals := 60 } : Room) (va_Pc [.ref (ad 0 0), .int q] (fun U => gK D cy U ∧ (atSz sz (MW D cy ad σ ν)) U.heap)) (uQ (some (.int (zb (pageB ν q)))) (MW D cy ad (oIsAsked σ ν q) ν) (wA cM ad sz)) 0 0 (wA cM ad sz) := by
  refine Met.ofW (cc := cX4_isAsked) (maxL := 2) (ret := (some .boolean)) (by decide) rfl ?_
  intro p e s m args below meth c s₁ B9 hml hv
  obtain ⟨rfl, hK, hsz, hB⟩ := hv
  have hx := B9.exec
  have hb := B9.bytes
  have hr := B9.returns
  have hts := atoms_spec (ws := wsX4_isAsked) B9.pre
  have hown : s.vm.findClass RX4 = some m.cls := findClass_of_methodNamed B9.named
  have hlocks := B9.notSynchronized
  subst hsz
  have hS : va_S (wA cM ad s.heap.size) s.heap s.heap [] := va_S.rf
  have lk69 := hts (.fieldLink RX4 69 "PolitecrawlModel" "thrown" "I") (by decide +kernel)
  have inX4 : ∀ w ∈ u_ws RX4 TX4 26, w ∈ wsX4_isAsked := by decide +kernel
  have hl := lv_entry ([.ref (ad 0 0), .int q]) (n := 2) (Nat.le_of_ble_eq_true rfl)
  rw [lg_entry_eq]
  generalize (lg_sl ([.ref (ad 0 0), .int q]) ++ List.replicate (2 - (lg_sl ([.ref (ad 0 0), .int q])).length) Slot.unset).toArray = ls at hl ⊢
  have hl : lv_has ls 2 [(0, .ref (ad 0 0)), (1, .int q)] := hl
  refine lv_aload_n hx hb dX4_isAsked_0 rfl (lv_at hl 0 rfl) ?_
  refine lv_aload_n hx hb dX4_isAsked_1 rfl (lv_at hl 0 rfl) ?_
  refine lv_iload_n hx hb dX4_isAsked_2 rfl (lv_at hl 1 rfl) ?_
  refine g_csr (va_runV (As := [.int q]) (rest := [.ref (ad 0 0)]) ⟨hx, hb, hml, hown, hts⟩ (m_X4_isPage l D cy ad σ ν q) (cwV 1 hts gX4_isAsked_X4_isPage rfl rfl rfl (by decide +kernel) ⟨Nat.le_of_ble_eq_true rfl, Nat.le_of_ble_eq_true rfl⟩) (g_preV (C := RX4) (B := (MW D cy ad σ ν)) hK hB (hB 0 0 Nat.zero_lt_one) rfl) rfl rfl hl.1 rfl (lv_room (Nat.le_of_ble_eq_true rfl)) dX4_isAsked_3 ⟨Nat.zero_le _, Nat.zero_le _⟩) ?_
  have k_14 : ∀ z1 : Int32, z1 = ask (pageB ν q) → W p l e (headSpec wsX4_isAsked ({ frames := 2, cells := 0, slots := 0, locals := 60 } : Room)).room s m ([.ref (ad 0 0), .int q] : List Value).toArray below meth c s.heap [] 0 0 (MQ below (uQ (some (.int (zb (pageB ν q)))) (MW D cy ad (oIsAsked σ ν q) ν) (wA cM ad s.heap.size)) ([.ref (ad 0 0), .int q] : List Value).toArray s 0 0 (wA cM ad s.heap.size)) (F0 m 14 ls [.int z1, .ref (ad 0 0)]) := by
    intro z1 ez1
    refine g_put (C := RX4) (T := TX4) (N := 26) (ci := 4) (fs := [.int (σ 30 0), .int (σ 0 0), .int (nI (ν 1 0)), .ref (ad 6 0), .ref (ad 7 0), .ref (ad 8 0), .ref (ad 9 0), .int (σ 1 0), .int (σ 2 0), .int (σ 3 0), .int (σ 31 0), .int (σ 32 0), .int (nI (ν 0 0)), .ref (ad 18 0), .ref (ad 17 0), .ref (ad 16 0), .ref (ad 10 0), .ref (ad 11 0), .ref (ad 12 0), .ref (ad 13 0), .ref (ad 14 0), .ref (ad 15 0), .int (nI (ν 6 0)), .ref (ad 34 0), .ref (ad 35 0), .ref (ad 36 0)]) (A := (wA cM ad s.heap.size)) hx hb hts inX4 tyX4 tyX4_ok nmX4 hown hK (hB 0 0 Nat.zero_lt_one) rfl hS (wA.in (k := 0) (i := 0) Nat.zero_lt_one) 0 (by decide) lk69 rfl rfl rfl rfl (Nat.le_of_ble_eq_true rfl) dX4_isAsked_14 (fun H1 locs1 hc1 hu1 hS1 => ?_)
    have hB1 : MW D cy ad (up2 σ 30 0 z1) ν H1 := hB.sc hJ (by decide) hc1 hu1
    obtain ⟨σ1, hs1⟩ : ∃ z : IT, z = up2 σ 30 0 z1 := ⟨_, rfl⟩
    rw [← hs1] at hB1
    refine lv_aload_n hx hb dX4_isAsked_17 rfl (lv_at hl 0 rfl) ?_
    refine g_get (C := RX4) (T := TX4) (N := 26) (ci := 4) (fs := [.int (σ1 30 0), .int (σ1 0 0), .int (nI (ν 1 0)), .ref (ad 6 0), .ref (ad 7 0), .ref (ad 8 0), .ref (ad 9 0), .int (σ1 1 0), .int (σ1 2 0), .int (σ1 3 0), .int (σ1 31 0), .int (σ1 32 0), .int (nI (ν 0 0)), .ref (ad 18 0), .ref (ad 17 0), .ref (ad 16 0), .ref (ad 10 0), .ref (ad 11 0), .ref (ad 12 0), .ref (ad 13 0), .ref (ad 14 0), .ref (ad 15 0), .int (nI (ν 6 0)), .ref (ad 34 0), .ref (ad 35 0), .ref (ad 36 0)]) hx hb hts inX4 hown hK (hB1 0 0 Nat.zero_lt_one) rfl 0 (by decide) lk69 rfl rfl dX4_isAsked_18 ?_
    refine lv_if_ne (tgt := 28) hx hb dX4_isAsked_21 (by decide) (fun c_21 => ?_) (fun c_21 => ?_)
    · -- 21 t
      refine lv_iconst (v := 0) hx hb dX4_isAsked_28 (by decide) ?_
      exact g_zretU hx hb hr hlocks rfl hS1 (by rw [hs1, ez1] at hB1; exact hB1) (Nat.le_refl _) (Nat.le_refl _) dX4_isAsked_29 (by rw [hs1, ez1] at c_21; rw [(ask_n (b := pageB ν q) c_21)]; rfl)
    · -- 21 f
      refine lv_iconst (v := 1) hx hb dX4_isAsked_24 (by decide) ?_
      refine lv_goto (tgt := 29) hx hb dX4_isAsked_25 (by decide) ?_
      exact g_zretU hx hb hr hlocks rfl hS1 (by rw [hs1, ez1] at hB1; exact hB1) (Nat.le_refl _) (Nat.le_refl _) dX4_isAsked_29 (by rw [hs1, ez1] at c_21; rw [(ask_b (b := pageB ν q) c_21)]; rfl)
  refine lv_if_eq (tgt := 13) hx hb dX4_isAsked_6 (by decide) (fun c_6 => ?_) (fun c_6 => ?_)
  · -- 6 t
    refine lv_iconst (v := 1) hx hb dX4_isAsked_13 (by decide) ?_
    exact k_14 _ (by rw [zb_0.mp c_6]; rfl)
  · -- 6 f
    refine lv_iconst (v := 0) hx hb dX4_isAsked_9 (by decide) ?_
    refine lv_goto (tgt := 14) hx hb dX4_isAsked_10 (by decide) ?_
    exact k_14 _ (by rw [zb_n0.mp c_6]; rfl)
end
