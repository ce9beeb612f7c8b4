section
-- ===== PART A: goes FIRST, ahead of the names: the tables' words, and 'selects' of the private methods out of them =====
/-- a private method of a class that the tables say can be made, by its rows of tables_1 -/
def lw_okq (q : MethodName × Nat) : Prop := (q.1.cls ≠ "java/lang/invoke/MethodHandle" ∧ q.1.cls ≠ "java/lang/invoke/VarHandle") ∧ Cond.instantiable q.1.cls q.2 ∈ tables_1 ∧ Cond.privateMethod q.1 ∈ tables_1 ∧ Cond.instanceMethod q.1 ∈ tables_1
theorem lw_p0 : lw_okq (⟨"java/lang/Throwable", "fillInStackTrace", "(I)Ljava/lang/Throwable;"⟩, 6) := ⟨⟨by decide +kernel, by decide +kernel⟩, List.mem_of_getElem? (i := 168) (by decide +kernel), List.mem_of_getElem? (i := 166) (by decide +kernel), List.mem_of_getElem? (i := 167) (by decide +kernel)⟩
theorem lw_p1 : lw_okq (⟨"EdgeFinder", "forgetEdges", "()V"⟩, 3) := ⟨⟨by decide +kernel, by decide +kernel⟩, List.mem_of_getElem? (i := 14) (by decide +kernel), List.mem_of_getElem? (i := 218) (by decide +kernel), List.mem_of_getElem? (i := 219) (by decide +kernel)⟩
theorem lw_p2 : lw_okq (⟨"EdgeFinder", "edgesOf", "(I)LEdgeFinder$Edges;"⟩, 3) := ⟨⟨by decide +kernel, by decide +kernel⟩, List.mem_of_getElem? (i := 14) (by decide +kernel), List.mem_of_getElem? (i := 243) (by decide +kernel), List.mem_of_getElem? (i := 244) (by decide +kernel)⟩
theorem lw_p3 : lw_okq (⟨"EdgeFinder$GraphemeRules", "isSyllable", "(I)Z"⟩, 4) := ⟨⟨by decide +kernel, by decide +kernel⟩, List.mem_of_getElem? (i := 52) (by decide +kernel), List.mem_of_getElem? (i := 269) (by decide +kernel), List.mem_of_getElem? (i := 270) (by decide +kernel)⟩
theorem lw_p4 : lw_okq (⟨"EdgeFinder$WordRules", "joinsLetters", "(II)Z"⟩, 4) := ⟨⟨by decide +kernel, by decide +kernel⟩, List.mem_of_getElem? (i := 90) (by decide +kernel), List.mem_of_getElem? (i := 285) (by decide +kernel), List.mem_of_getElem? (i := 286) (by decide +kernel)⟩
theorem lw_p5 : lw_okq (⟨"EdgeFinder$WordRules", "joinsHebrew", "(II)Z"⟩, 4) := ⟨⟨by decide +kernel, by decide +kernel⟩, List.mem_of_getElem? (i := 90) (by decide +kernel), List.mem_of_getElem? (i := 298) (by decide +kernel), List.mem_of_getElem? (i := 299) (by decide +kernel)⟩
theorem lw_p6 : lw_okq (⟨"EdgeFinder$WordRules", "joinsNumbers", "(II)Z"⟩, 4) := ⟨⟨by decide +kernel, by decide +kernel⟩, List.mem_of_getElem? (i := 90) (by decide +kernel), List.mem_of_getElem? (i := 302) (by decide +kernel), List.mem_of_getElem? (i := 303) (by decide +kernel)⟩
theorem lw_p7 : lw_okq (⟨"EdgeFinder$WordRules", "joinsRuns", "(I)Z"⟩, 4) := ⟨⟨by decide +kernel, by decide +kernel⟩, List.mem_of_getElem? (i := 90) (by decide +kernel), List.mem_of_getElem? (i := 309) (by decide +kernel), List.mem_of_getElem? (i := 310) (by decide +kernel)⟩
theorem lw_p8 : lw_okq (⟨"EdgeFinderModel", "fail", "(I)I"⟩, 5) := ⟨⟨by decide +kernel, by decide +kernel⟩, List.mem_of_getElem? (i := 362) (by decide +kernel), List.mem_of_getElem? (i := 392) (by decide +kernel), List.mem_of_getElem? (i := 393) (by decide +kernel)⟩
theorem lw_p9 : lw_okq (⟨"EdgeFinderModel", "bad", "(II)Z"⟩, 5) := ⟨⟨by decide +kernel, by decide +kernel⟩, List.mem_of_getElem? (i := 362) (by decide +kernel), List.mem_of_getElem? (i := 408) (by decide +kernel), List.mem_of_getElem? (i := 409) (by decide +kernel)⟩
theorem lw_p10 : lw_okq (⟨"EdgeFinderModel", "boundary", "(II)Z"⟩, 5) := ⟨⟨by decide +kernel, by decide +kernel⟩, List.mem_of_getElem? (i := 362) (by decide +kernel), List.mem_of_getElem? (i := 412) (by decide +kernel), List.mem_of_getElem? (i := 413) (by decide +kernel)⟩
theorem lw_p11 : lw_okq (⟨"EdgeFinderModel", "cluster", "(I)Z"⟩, 5) := ⟨⟨by decide +kernel, by decide +kernel⟩, List.mem_of_getElem? (i := 362) (by decide +kernel), List.mem_of_getElem? (i := 416) (by decide +kernel), List.mem_of_getElem? (i := 417) (by decide +kernel)⟩
theorem lw_p12 : lw_okq (⟨"EdgeFinderModel", "word", "(I)Z"⟩, 5) := ⟨⟨by decide +kernel, by decide +kernel⟩, List.mem_of_getElem? (i := 362) (by decide +kernel), List.mem_of_getElem? (i := 420) (by decide +kernel), List.mem_of_getElem? (i := 421) (by decide +kernel)⟩
theorem lw_p13 : lw_okq (⟨"EdgeFinderModel", "breaks", "(I)Z"⟩, 5) := ⟨⟨by decide +kernel, by decide +kernel⟩, List.mem_of_getElem? (i := 362) (by decide +kernel), List.mem_of_getElem? (i := 424) (by decide +kernel), List.mem_of_getElem? (i := 425) (by decide +kernel)⟩
theorem lw_p14 : lw_okq (⟨"EdgeFinderModel", "passed", "(I)Z"⟩, 5) := ⟨⟨by decide +kernel, by decide +kernel⟩, List.mem_of_getElem? (i := 362) (by decide +kernel), List.mem_of_getElem? (i := 428) (by decide +kernel), List.mem_of_getElem? (i := 429) (by decide +kernel)⟩
theorem lw_p15 : lw_okq (⟨"EdgeFinderModel", "before", "(I)I"⟩, 5) := ⟨⟨by decide +kernel, by decide +kernel⟩, List.mem_of_getElem? (i := 362) (by decide +kernel), List.mem_of_getElem? (i := 432) (by decide +kernel), List.mem_of_getElem? (i := 433) (by decide +kernel)⟩
def lw_privs_1 : List (MethodName × Nat) := [(⟨"java/lang/Throwable", "fillInStackTrace", "(I)Ljava/lang/Throwable;"⟩, 6), (⟨"EdgeFinder", "forgetEdges", "()V"⟩, 3), (⟨"EdgeFinder", "edgesOf", "(I)LEdgeFinder$Edges;"⟩, 3), (⟨"EdgeFinder$GraphemeRules", "isSyllable", "(I)Z"⟩, 4), (⟨"EdgeFinder$WordRules", "joinsLetters", "(II)Z"⟩, 4), (⟨"EdgeFinder$WordRules", "joinsHebrew", "(II)Z"⟩, 4), (⟨"EdgeFinder$WordRules", "joinsNumbers", "(II)Z"⟩, 4), (⟨"EdgeFinder$WordRules", "joinsRuns", "(I)Z"⟩, 4), (⟨"EdgeFinderModel", "fail", "(I)I"⟩, 5), (⟨"EdgeFinderModel", "bad", "(II)Z"⟩, 5), (⟨"EdgeFinderModel", "boundary", "(II)Z"⟩, 5), (⟨"EdgeFinderModel", "cluster", "(I)Z"⟩, 5), (⟨"EdgeFinderModel", "word", "(I)Z"⟩, 5), (⟨"EdgeFinderModel", "breaks", "(I)Z"⟩, 5), (⟨"EdgeFinderModel", "passed", "(I)Z"⟩, 5), (⟨"EdgeFinderModel", "before", "(I)I"⟩, 5)]
theorem lw_r1 : ∀ q ∈ lw_privs_1, lw_okq q := List.forall_mem_cons.mpr ⟨lw_p0, List.forall_mem_cons.mpr ⟨lw_p1, List.forall_mem_cons.mpr ⟨lw_p2, List.forall_mem_cons.mpr ⟨lw_p3, List.forall_mem_cons.mpr ⟨lw_p4, List.forall_mem_cons.mpr ⟨lw_p5, List.forall_mem_cons.mpr ⟨lw_p6, List.forall_mem_cons.mpr ⟨lw_p7, List.forall_mem_cons.mpr ⟨lw_p8, List.forall_mem_cons.mpr ⟨lw_p9, List.forall_mem_cons.mpr ⟨lw_p10, List.forall_mem_cons.mpr ⟨lw_p11, List.forall_mem_cons.mpr ⟨lw_p12, List.forall_mem_cons.mpr ⟨lw_p13, List.forall_mem_cons.mpr ⟨lw_p14, List.forall_mem_cons.mpr ⟨lw_p15, fun _ h => absurd h List.not_mem_nil⟩⟩⟩⟩⟩⟩⟩⟩⟩⟩⟩⟩⟩⟩⟩⟩
theorem lw_p16 : lw_okq (⟨"EdgeFinderModel", "counts", "(I)I"⟩, 5) := ⟨⟨by decide +kernel, by decide +kernel⟩, List.mem_of_getElem? (i := 362) (by decide +kernel), List.mem_of_getElem? (i := 436) (by decide +kernel), List.mem_of_getElem? (i := 437) (by decide +kernel)⟩
theorem lw_p17 : lw_okq (⟨"EdgeFinderModel", "wordKind", "(I)I"⟩, 5) := ⟨⟨by decide +kernel, by decide +kernel⟩, List.mem_of_getElem? (i := 362) (by decide +kernel), List.mem_of_getElem? (i := 440) (by decide +kernel), List.mem_of_getElem? (i := 441) (by decide +kernel)⟩
theorem lw_p18 : lw_okq (⟨"EdgeFinderModel", "after", "(I)I"⟩, 5) := ⟨⟨by decide +kernel, by decide +kernel⟩, List.mem_of_getElem? (i := 362) (by decide +kernel), List.mem_of_getElem? (i := 444) (by decide +kernel), List.mem_of_getElem? (i := 445) (by decide +kernel)⟩
theorem lw_p19 : lw_okq (⟨"EdgeFinderModel", "letter", "(I)Z"⟩, 5) := ⟨⟨by decide +kernel, by decide +kernel⟩, List.mem_of_getElem? (i := 362) (by decide +kernel), List.mem_of_getElem? (i := 448) (by decide +kernel), List.mem_of_getElem? (i := 449) (by decide +kernel)⟩
theorem lw_p20 : lw_okq (⟨"EdgeFinderModel", "quote", "(I)Z"⟩, 5) := ⟨⟨by decide +kernel, by decide +kernel⟩, List.mem_of_getElem? (i := 362) (by decide +kernel), List.mem_of_getElem? (i := 452) (by decide +kernel), List.mem_of_getElem? (i := 453) (by decide +kernel)⟩
def lw_privs_2 : List (MethodName × Nat) := [(⟨"EdgeFinderModel", "counts", "(I)I"⟩, 5), (⟨"EdgeFinderModel", "wordKind", "(I)I"⟩, 5), (⟨"EdgeFinderModel", "after", "(I)I"⟩, 5), (⟨"EdgeFinderModel", "letter", "(I)Z"⟩, 5), (⟨"EdgeFinderModel", "quote", "(I)Z"⟩, 5)]
theorem lw_r2 : ∀ q ∈ lw_privs_2, lw_okq q := List.forall_mem_cons.mpr ⟨lw_p16, List.forall_mem_cons.mpr ⟨lw_p17, List.forall_mem_cons.mpr ⟨lw_p18, List.forall_mem_cons.mpr ⟨lw_p19, List.forall_mem_cons.mpr ⟨lw_p20, fun _ h => absurd h List.not_mem_nil⟩⟩⟩⟩⟩
def lw_privs : List (MethodName × Nat) := lw_privs_1 ++ (lw_privs_2)
def lw_tbl : List Cond := k2_sels lw_privs ++ tables_1
theorem lw_privs_ok : ∀ q ∈ lw_privs, lw_okq q := by
  show ∀ q ∈ lw_privs_1 ++ (lw_privs_2), lw_okq q
  exact List.forall_mem_append.mpr ⟨lw_r1, lw_r2⟩
end
section
/-! ===== BEGIN words of one list among another's, by their places ===== -/
theorem goodIn_r {big : List Cond} (ws : List Cond) (ps : List Nat) (hp : ws = ps.filterMap (fun i => big[i]?)) (h : ws.all goodWord = true) : GoodIn big ws := by
  intro w hw
  have h1 := List.all_eq_true.mp h w hw
  rw [hp] at hw
  obtain ⟨i, -, hi⟩ := List.mem_filterMap.mp hw
  have hm : w ∈ big := by first | exact List.mem_of_getElem? hi | exact List.getElem?_mem hi
  exact ⟨hm, good_of_word h1⟩
theorem goodIn_app {big a b : List Cond} (ha : GoodIn big a) (hb : GoodIn big b) : GoodIn big (a ++ b) := fun w h => (List.mem_append.mp h).elim (ha w) (hb w)
theorem goodIn_ca {big a b : List Cond} {c : Cond} (ha : GoodIn big (c :: a)) (hb : GoodIn big b) : GoodIn big (c :: (a ++ b)) := fun w h => (List.mem_cons.mp h).elim (fun e => ha w (List.mem_cons.mpr (Or.inl e))) (fun h => (List.mem_append.mp h).elim (fun h => ha w (List.mem_cons.mpr (Or.inr h))) (hb w))
theorem goodIn_sub {big ws : List Cond} (hm : ∀ w ∈ ws, w ∈ big) (h : ws.all goodWord = true) : GoodIn big ws := fun w hw => ⟨hm w hw, good_of_word (List.all_eq_true.mp h w hw)⟩
/-! ===== END ===== -/

/-! ===== BEGIN exceptions that leave a method, and their catching by the caller (launches without stack traces) ===== -/
section VXA
/-! The laws vx_back, vx_callV, vx_callS, vx_callSW, vx_throw0, vx_throwS follow proofs of the library, with one case more: JvmDerived/Free/Laws.lean (Back.of_free), Shelf42/LK1.lean (callV, callS), Shelf/KitTraced.lean (throwNew0V, throwNewS). -/
/-- where a method has thrown q: the class by its name, the cell, what was written, the world -/
def vx_T (XC : String → State → State → Prop) (st : State) (q : Addr) (t : State) (mc ms : Nat) (free : Addr → Prop) : Prop :=
  ∃ (E : String) (ce : Cell) (L : List Loc), XC E st t ∧ t.heap[q]? = some ce ∧ ce.vm = .none ∧ st.vm.findClass E = some ce.cls ∧ st.WarmedH t.vm ∧ st.sameButNew ({ t with vm := st.vm } : State) L mc ms ∧ ∀ z ∈ L, free z.base
def vx_Q (Qc : Array Value → State → Outcome → State → Prop) (XC : String → State → State → Prop) (mc ms : Nat) (free : Addr → Prop) : Array Value → State → Outcome → State → Prop := fun a st o t =>
  (Qc a st o t ∧ ∃ L, FrameEnd st o t L mc ms ∧ ∀ q ∈ L, free q.base) ∨ ∃ q, o = .threw q ∧ vx_T XC st q t mc ms free
/-- a callee that returns or throws -/
def vx_Met (l : Launch) (y : MethodName) (ws : List Cond) (rm : Room) (Pc : Array Value → State → Prop) (Qc : Array Value → State → Outcome → State → Prop) (XC : String → State → State → Prop) (mc ms : Nat) (free : Addr → Prop) : Prop :=
  MetFree l y (headSpec ws rm) Pc (fun _ _ _ _ _ => True) (vx_Q Qc XC mc ms free)
def vx_Post (XC : String → State → State → Prop) (mc ms : Nat) (free : Addr → Prop) : Pt → Array Value → Addr → Pt → Prop := fun A a q B =>
  ∃ (g : JFrame) (mk : MethodId) (t : State) (L : List Loc) (E : String) (ce : Cell), B.U.heap = t.heap ∧ B.U.vm = t.vm ∧ XC E (A.U.calling g mk a) t ∧ t.heap[q]? = some ce ∧ ce.vm = .none ∧ A.U.vm.findClass E = some ce.cls ∧ B.locs = A.locs ++ L ∧ (∀ z ∈ L, free z.base) ∧ B.cells = A.cells + mc ∧ B.slots = A.slots + ms
def vx_Back (l : Launch) (R : Room) (p : Program) (e : Env) (below : List Frame) (s : State) (sargs : Array Value) (y : MethodName) (len W9 : Nat)
    (Pre : Pt → Array Value → Prop) (Post : Pt → Array Value → Option Value → Pt → Prop) (PostX : Pt → Array Value → Addr → Pt → Prop) : Prop :=
  ∀ (m : MethodId) (meth : Method) (c : Code) (A : Pt) (g : JFrame) (ig : Instr) (mk : MethodId) (a : Array Value),
    Stand p l e R s m sargs below meth c A.U A.locs A.cells A.slots → g.method = m → g.locals.size = c.maxLocals → decode c.code g.pc = .ok (ig, len) →
    2 * g.monitorRoom + (g.stack.map fun v => v.category).sum ≤ W9 → A.U.methodNamed? y = some mk → Pre A a →
    (∃ (v : Option Value) (B : Pt), Stand p l e R s m sargs below meth c B.U B.locs B.cells B.slots ∧ Post A a v B ∧
      Steps p.tables e below (doInvoke e (A.U.setTop g) [] mk a).1 (B.U.setTop { g with pc := g.pc + len, stack := v.toList ++ g.stack })) ∨
    (∃ (q : Addr) (B : Pt), Stand p l e R s m sargs below meth c B.U B.locs B.cells B.slots ∧ PostX A a q B ∧
      Steps p.tables e below (doInvoke e (A.U.setTop g) [] mk a).1 ((B.U.setTop g).pushFrame (.throwing q)))
section Payer
variable {l : Launch} {R : Room} {p : Program} {e : Env} {below : List Frame} {s : State} {sargs : Array Value} {y : MethodName} {len W9 : Nat}
theorem vx_back {ws : List Cond} {rm : Room} {Pc : Array Value → State → Prop} {Qc : Array Value → State → Outcome → State → Prop} {XC : String → State → State → Prop} {mc ms : Nat} {free : Addr → Prop} {bytes : ByteArray} {maxL : Nat} {ret : Option FieldType}
    (hM : vx_Met l y ws rm Pc Qc XC mc ms free) (hblind : FrameBlind Pc) (hrc : rm.cells = mc) (hrs : rm.slots = ms)
    (hframes : rm.frames + 1 ≤ R.frames) (hlocals : W9 + (maxL + 11) + rm.locals ≤ R.locals)
    (hws : ∀ w ∈ ws, ∀ a' U, s.WarmedH U.vm → w.before a' U = true) (hcode : Cond.code y bytes maxL ret ∈ ws) (hinit : ∀ a' U, s.WarmedH U.vm → (Cond.initialized y.cls).before a' U = true) :
    vx_Back l R p e below s sargs y len W9 (PreOf R mc ms Pc) (PostOf Qc mc ms free) (vx_Post XC mc ms free) := by
  intro m meth c A g ig mk a X hg hsize hdg hW hn hp
  have h1 : (headSpec ws rm).pre.before a A.U = true := atoms_intro fun w hw => hws w hw _ _ X.warmed
  have h2 : (Cond.code y bytes maxL ret).before a A.U = true := hws _ hcode _ _ X.warmed
  have h3 : (Cond.initialized y.cls).before a A.U = true := hinit _ _ X.warmed
  have h4 : A.cells + (headSpec ws rm).room.cells ≤ R.cells := by rw [show (headSpec ws rm).room.cells = mc from hrc]; exact hp.1
  have h5 : A.slots + (headSpec ws rm).room.slots ≤ R.slots := by rw [show (headSpec ws rm).room.slots = ms from hrs]; exact hp.2.1
  have hPc : Pc a (A.U.calling g mk a) := hblind _ _ _ _ hp.2.2
  obtain ⟨U, Ls, c0, s0⟩ := A
  dsimp only [Pt.U, Pt.locs, Pt.cells, Pt.slots] at h1 h2 h3 h4 h5 X hn hPc ⊢
  obtain ⟨methY, cY, hmY, hcY, -, hlY, -, -, -, -⟩ := Cond.code_spec hn h2
  obtain ⟨kY, hkY, -⟩ := className_of_methodNamed hn
  have hinitY : kY.init = .initialized := Cond.initialized_spec (findClass_of_methodNamed hn) hkY h3
  have h : At U g.method c below := by rw [hg]; exact X.here
  have hlocals9 : W9 + (maxL + 11) + (headSpec ws rm).room.locals ≤ R.locals := hlocals
  have happ : (headSpec ws rm).appliesLoose y e.platform (U.calling g mk a) = true :=
    Spec.appliesLoose_calling (g := g) h hdg hn hkY hinitY
      (X.room_calling (g := g) (R' := (headSpec ws rm).room) hsize hmY hcY hframes (by rw [hlY]; omega) h4 h5) h1
  obtain ⟨mid, hmid⟩ := h.above
  have hfr : (U.setTop g).frames = (.java g :: mid) ++ below := by rw [State.frames_setTop' g h.top, hmid]; rfl
  obtain ⟨o, s₂, hsteps, -, hend, hq⟩ := Steps.callFree hM p X.admits X.cas X.clock (acts := []) hfr happ hPc trivial
  have hq' : vx_Q Qc XC mc ms free a (U.calling g mk a) o s₂ := hq
  rw [State.frames_setTop' g h.top] at hend
  obtain ⟨g₀, hg0⟩ := Option.isSome_iff_exists.mp h.top
  obtain ⟨r, hr⟩ := State.topJava?_eq_some.mp hg0
  have hr' : (({ U with heap := s₂.heap, slotsUsed := s₂.slotsUsed } : State).setVm s₂.vm).frames = .java g₀ :: r := hr
  rcases hq' with ⟨hqc, L, hfe, hL⟩ | ⟨q, rfl, E, ce, L, hx, hce, hcv, hcl, hW₂, hsm, hL⟩
  · obtain ⟨⟨v, rfl⟩, hW₂, e2, q2, q3, q4, q5, q6⟩ := id hfe
    have e3 : s₂ = ({ (U.calling g mk a).setFrames s₂.frames with heap := s₂.heap, slotsUsed := s₂.slotsUsed } : State).setVm s₂.vm := by
      have : s₂ = ({ s₂ with vm := (U.calling g mk a).vm } : State).setVm s₂.vm := rfl
      rw [e2] at this
      exact this
    obtain ⟨c₂, i₂, len₂, hc₂, hd₂, hf₂⟩ := hend
    have hW' : U.WarmedH s₂.vm := hW₂
    have hcc : c₂ = c := by
      have h1 : s₂.code? g.method = U.code? g.method := by
        rw [State.code?_eq, State.code?_eq, hW'.alike.method?]
      exact Option.some.inj (hc₂.symm.trans (h1.trans h.code))
    subst hcc
    have hlen : len₂ = len := by rw [hdg] at hd₂; cases hd₂; rfl
    subst hlen
    have hs₂ : s₂ = (({ U with heap := s₂.heap, slotsUsed := s₂.slotsUsed } : State).setVm s₂.vm).setTop { g with pc := g.pc + len₂, stack := v.toList ++ g.stack } := by
      refine e3.trans ?_
      rw [hf₂, State.calling_eq h.top, State.setFrames_setFrames, State.setTop_of_frames _ hr', hr]
      rfl
    have hsame : U.sameButNew ({ U with heap := s₂.heap, slotsUsed := s₂.slotsUsed } : State) L mc ms := by
      refine ⟨?_, q2, q3, q4, q5, q6⟩
      obtain ⟨t, ht, -⟩ := State.frames_cons hr
      show ({ U with heap := s₂.heap, slotsUsed := s₂.slotsUsed } : State) = { U.setFrames U.frames with heap := s₂.heap, slotsUsed := s₂.slotsUsed }
      rw [State.setFrames_self ht]
    subst hg
    refine Or.inl ⟨v, ⟨(({ U with heap := s₂.heap, slotsUsed := s₂.slotsUsed } : State).setVm s₂.vm), Ls ++ L, c0 + mc, s0 + ms⟩,
      ⟨X.admits, X.cas, X.clock, X.frames, X.room, X.hears, X.method, X.code, (X.here.setHeapUsed s₂.heap s₂.slotsUsed).setVm hW'.alike, X.tail, State.WarmedH.trans X.warmed hW', X.limits, X.bytes, X.same.trans (hsame.setVm s.vm)⟩,
      ⟨g, mk, s₂, L, rfl, rfl, hqc, rfl, hL, rfl, rfl⟩, ?_⟩
    show Steps p.tables e below _ ((({ U with heap := s₂.heap, slotsUsed := s₂.slotsUsed } : State).setVm s₂.vm).setTop { g with pc := g.pc + len₂, stack := v.toList ++ g.stack })
    rw [← hs₂]
    exact hsteps
  · obtain ⟨e2, q2, q3, q4, q5, q6⟩ := id hsm
    have e3 : s₂ = ({ (U.calling g mk a).setFrames s₂.frames with heap := s₂.heap, slotsUsed := s₂.slotsUsed } : State).setVm s₂.vm := by
      have : s₂ = ({ s₂ with vm := (U.calling g mk a).vm } : State).setVm s₂.vm := rfl
      rw [e2] at this
      exact this
    have hf₂ : s₂.frames = .throwing q :: .java g :: U.frames.tail := hend
    have hW' : U.WarmedH s₂.vm := hW₂
    have hs₂ : s₂ = ((({ U with heap := s₂.heap, slotsUsed := s₂.slotsUsed } : State).setVm s₂.vm).setTop g).pushFrame (.throwing q) := by
      refine e3.trans ?_
      rw [hf₂, State.calling_eq h.top, State.setFrames_setFrames, State.pushFrame, State.frames_setTop _ hr', State.setTop_of_frames _ hr', State.setFrames_setFrames, hr]
      rfl
    have hsame : U.sameButNew ({ U with heap := s₂.heap, slotsUsed := s₂.slotsUsed } : State) L mc ms := by
      refine ⟨?_, q2, q3, q4, q5, q6⟩
      obtain ⟨t, ht, -⟩ := State.frames_cons hr
      show ({ U with heap := s₂.heap, slotsUsed := s₂.slotsUsed } : State) = { U.setFrames U.frames with heap := s₂.heap, slotsUsed := s₂.slotsUsed }
      rw [State.setFrames_self ht]
    subst hg
    refine Or.inr ⟨q, ⟨(({ U with heap := s₂.heap, slotsUsed := s₂.slotsUsed } : State).setVm s₂.vm), Ls ++ L, c0 + mc, s0 + ms⟩,
      ⟨X.admits, X.cas, X.clock, X.frames, X.room, X.hears, X.method, X.code, (X.here.setHeapUsed s₂.heap s₂.slotsUsed).setVm hW'.alike, X.tail, State.WarmedH.trans X.warmed hW', X.limits, X.bytes, X.same.trans (hsame.setVm s.vm)⟩,
      ⟨g, mk, s₂, L, E, ce, rfl, rfl, hx, hce, hcv, hcl, rfl, hL, rfl, rfl⟩, ?_⟩
    show Steps p.tables e below _ (((({ U with heap := s₂.heap, slotsUsed := s₂.slotsUsed } : State).setVm s₂.vm).setTop g).pushFrame (.throwing q))
    rw [← hs₂]
    exact hsteps
end Payer
section Calls
variable {p : Program} {l : Launch} {e : Env} {R : Room} {s : State} {m : MethodId} {args : Array Value} {below : List Frame} {meth : Method} {c : Code} {T : State} {locs : List Loc} {cells slots : Nat}
theorem vx_callV (X : Stand p l e R s m args below meth c T locs cells slots) (hexec : p.tables.exec = Jvm.exec) {own C : String} {index : Nat} {y : MethodName} {bytes : ByteArray} {maxL : Nat} {ret : Option FieldType}
    (hown : s.vm.findClass own = some m.cls) (hlink : (Cond.methodLink own index y).before args s = true) (hinst : (Cond.instanceMethod y).before args s = true) (hsel : (Cond.selects C y y).before args s = true)
    (hcode : (Cond.code y bytes maxL ret).before args s = true) (hy : y.cls ≠ "java/lang/invoke/MethodHandle" ∧ y.cls ≠ "java/lang/invoke/VarHandle")
    {W9 : Nat} {Pre : Pt → Array Value → Prop} {Post : Pt → Array Value → Option Value → Pt → Prop} {PostX : Pt → Array Value → Addr → Pt → Prop} (hK : vx_Back l R p e below s args y 3 W9 Pre Post PostX)
    {b : Addr} {cellB : Cell} (hcell : T.heap[b]? = some cellB) (hobj : cellB.vm.isStatics = false) (hcls : s.vm.findClass C = some cellB.cls)
    {g : JFrame} (hg : g.method = m) (hsize : g.locals.size = c.maxLocals) {argsL rest : List Value} (hlen : ∀ sig, parseMethodDescriptor y.desc = some sig → argsL.length = sig.parameters.length)
    (hstack : g.stack = argsL.reverse ++ .ref b :: rest) (hW : 2 * g.monitorRoom + (rest.map fun v => v.category).sum ≤ W9) (hdg : decode c.code g.pc = .ok (.invokevirtual index, 3))
    (hpre : ∀ vm₁, s.WarmedH vm₁ → Pre ⟨T.setVm vm₁, locs, cells, slots⟩ (Value.ref b :: argsL).toArray) :
    (∃ (v : Option Value) (vm₁ : Vm) (B : Pt), s.WarmedH vm₁ ∧ Stand p l e R s m args below meth c B.U B.locs B.cells B.slots ∧ Post ⟨T.setVm vm₁, locs, cells, slots⟩ (Value.ref b :: argsL).toArray v B ∧
      ∀ target, Steps p.tables e below (B.U.setTop { g with pc := g.pc + 3, stack := v.toList ++ rest }) target → Steps p.tables e below (T.setTop g) target) ∨
    (∃ (q : Addr) (vm₁ : Vm) (B : Pt), s.WarmedH vm₁ ∧ Stand p l e R s m args below meth c B.U B.locs B.cells B.slots ∧ PostX ⟨T.setVm vm₁, locs, cells, slots⟩ (Value.ref b :: argsL).toArray q B ∧
      Steps p.tables e below (T.setTop g) ((B.U.setTop { g with stack := rest }).pushFrame (.throwing q))) := by
  obtain ⟨mk, methM, hnamed, hmethM, hstM, habM⟩ := Cond.instanceMethod_spec hinst
  obtain ⟨methM', cM, hmethM', -, -, -, -, -, -, hsigM⟩ := Cond.code_spec hnamed hcode
  cases hmethM.symm.trans hmethM'
  obtain ⟨c2, r2, m2, q1, q2, q3, q4, kP, hkP, hkPi⟩ := Cond.selects_spec hsel
  cases hcls.symm.trans q1
  cases (State.methodFound?_of_named hnamed hy).symm.trans q2
  cases hnamed.symm.trans q3
  have hselP : selectMethod e.platform s.vm cellB.cls mk = .method mk := by rw [Launch.admits_selectMethod X.admits]; exact q4
  obtain ⟨vm₁, X₁, hstep₁⟩ := X.invokevirtual hexec hown hlink hnamed hmethM hstM hkP hkPi hy (a := b) (cell := cellB) hcell
    (fun z h => by rw [h] at hobj; cases hobj) hselP hmethM habM hkP hkPi (g := g) hg (argsL := argsL) (rest := rest) (hlen _ hsigM) hstack hdg
  rcases hK m meth c ⟨T.setVm vm₁, locs, cells, slots⟩ { g with stack := rest } (.invokevirtual index) mk (Value.ref b :: argsL).toArray X₁ hg hsize hdg hW (X₁.named hnamed) (hpre vm₁ X₁.warmed) with ⟨v, B, X', hpost, hsteps⟩ | ⟨q, B, X', hpost, hsteps⟩
  · exact Or.inl ⟨v, vm₁, B, X₁.warmed, X', hpost, fun target h => hstep₁ _ fun acts => by rw [doInvoke_state]; exact hsteps.trans h⟩
  · exact Or.inr ⟨q, vm₁, B, X₁.warmed, X', hpost, hstep₁ _ fun acts => by rw [doInvoke_state]; exact hsteps⟩
theorem vx_callS (X : Stand p l e R s m args below meth c T locs cells slots) (hexec : p.tables.exec = Jvm.exec) {own : String} {index : Nat} {y : MethodName} {bytes : ByteArray} {maxL : Nat} {ret : Option FieldType}
    (hown : s.vm.findClass own = some m.cls) (hlink : (Cond.methodLink own index y).before args s = true) (hstat : (Cond.static y).before args s = true) (hinit : (Cond.initialized y.cls).before args s = true)
    (hcode : (Cond.code y bytes maxL ret).before args s = true) (hy : y.cls ≠ "java/lang/invoke/MethodHandle" ∧ y.cls ≠ "java/lang/invoke/VarHandle")
    {W9 : Nat} {Pre : Pt → Array Value → Prop} {Post : Pt → Array Value → Option Value → Pt → Prop} {PostX : Pt → Array Value → Addr → Pt → Prop} (hK : vx_Back l R p e below s args y 3 W9 Pre Post PostX)
    {g : JFrame} (hg : g.method = m) (hsize : g.locals.size = c.maxLocals) {argsL rest : List Value} (hlen : ∀ sig, parseMethodDescriptor y.desc = some sig → argsL.length = sig.parameters.length)
    (hstack : g.stack = argsL.reverse ++ rest) (hW : 2 * g.monitorRoom + (rest.map fun v => v.category).sum ≤ W9) (hdg : decode c.code g.pc = .ok (.invokestatic index, 3))
    (hpre : ∀ vm₁, s.WarmedH vm₁ → Pre ⟨T.setVm vm₁, locs, cells, slots⟩ argsL.toArray) :
    (∃ (v : Option Value) (vm₁ : Vm) (B : Pt), s.WarmedH vm₁ ∧ Stand p l e R s m args below meth c B.U B.locs B.cells B.slots ∧ Post ⟨T.setVm vm₁, locs, cells, slots⟩ argsL.toArray v B ∧
      ∀ target, Steps p.tables e below (B.U.setTop { g with pc := g.pc + 3, stack := v.toList ++ rest }) target → Steps p.tables e below (T.setTop g) target) ∨
    (∃ (q : Addr) (vm₁ : Vm) (B : Pt), s.WarmedH vm₁ ∧ Stand p l e R s m args below meth c B.U B.locs B.cells B.slots ∧ PostX ⟨T.setVm vm₁, locs, cells, slots⟩ argsL.toArray q B ∧
      Steps p.tables e below (T.setTop g) ((B.U.setTop { g with stack := rest }).pushFrame (.throwing q))) := by
  obtain ⟨mk, hnamed⟩ := Cond.code_named hcode
  obtain ⟨methM, cM, hmethM, -, -, -, -, -, -, hsigM⟩ := Cond.code_spec hnamed hcode
  have hstatic : methM.isStatic = true := Cond.static_spec hnamed hmethM hstat
  obtain ⟨kP, hkP, -⟩ := className_of_methodNamed hnamed
  have hinitP : kP.init = .initialized := Cond.initialized_spec (findClass_of_methodNamed hnamed) hkP hinit
  obtain ⟨vm₁, X₁, hstep₁⟩ := X.invokestatic hexec hown hlink hnamed hmethM hstatic hkP hinitP hy (g := g) hg (argsL := argsL) (rest := rest) (hlen _ hsigM) hstack hdg
  rcases hK m meth c ⟨T.setVm vm₁, locs, cells, slots⟩ { g with stack := rest } (.invokestatic index) mk argsL.toArray X₁ hg hsize hdg hW (X₁.named hnamed) (hpre vm₁ X₁.warmed) with ⟨v, B, X', hpost, hsteps⟩ | ⟨q, B, X', hpost, hsteps⟩
  · exact Or.inl ⟨v, vm₁, B, X₁.warmed, X', hpost, fun target h => hstep₁ _ fun acts => by rw [doInvoke_state]; exact hsteps.trans h⟩
  · exact Or.inr ⟨q, vm₁, B, X₁.warmed, X', hpost, hstep₁ _ fun acts => by rw [doInvoke_state]; exact hsteps⟩
end Calls
theorem vx_cls {s : State} {T : State} {vm₁ : Vm} {E : String} {k : ClassId} (hW : s.WarmedH vm₁) (h : (T.setVm vm₁).vm.findClass E = some k) : s.vm.findClass E = some k := by
  have h1 : vm₁.findClass E = some k := h
  rw [hW.alike.findClass] at h1
  exact h1
/-- the method's frame g, with q thrown over it -/
def vx_W (p : Program) (l : Launch) (e : Env) (R : Room) (s : State) (m : MethodId) (args : Array Value) (below : List Frame) (meth : Method) (c : Code) (H : Heap) (locs : List Loc) (cells slots : Nat) (Q : State → Prop) (g : JFrame) (q : Addr) : Prop :=
  ∀ T : State, T.heap = H → Stand p l e R s m args below meth c T locs cells slots → ∃ t, Steps p.tables e below ((T.setTop g).pushFrame (.throwing q)) t ∧ Q t
def vx_Run (p : Program) (l : Launch) (e : Env) (R : Room) (s : State) (m : MethodId) (args : Array Value) (below : List Frame) (meth : Method) (c : Code) (H : Heap) (locs : List Loc) (cells slots mc ms : Nat) (g : JFrame) (rest : List Value) (Qa : State → Outcome → State → Prop) (XC : String → State → State → Prop) (free : Addr → Prop) : Prop :=
  ∀ T : State, T.heap = H → Stand p l e R s m args below meth c T locs cells slots →
    (∃ (v : Option Value) (st₀ t T' : State) (L : List Loc), st₀.heap = H ∧ Stand p l e R s m args below meth c T' (locs ++ L) (cells + mc) (slots + ms) ∧ (∀ q ∈ L, free q.base) ∧ T'.heap = t.heap ∧ T'.vm = t.vm ∧ Qa st₀ (.returned v) t ∧
      Goes p e below T g T' { g with pc := g.pc + 3, stack := v.toList ++ rest }) ∨
    (∃ (q : Addr) (st₀ t T' : State) (L : List Loc) (E : String) (ce : Cell), st₀.heap = H ∧ Stand p l e R s m args below meth c T' (locs ++ L) (cells + mc) (slots + ms) ∧ (∀ z ∈ L, free z.base) ∧ T'.heap = t.heap ∧ T'.vm = t.vm ∧ XC E st₀ t ∧ t.heap[q]? = some ce ∧ ce.vm = .none ∧ s.vm.findClass E = some ce.cls ∧
      Steps p.tables e below (T.setTop g) ((T'.setTop { g with stack := rest }).pushFrame (.throwing q)))
def vx_X {S : Type} (px : S → Prop) (B : String → S → State → Prop) (A : Nat → Prop) : String → State → State → Prop := fun E st t => ∃ u : S, px u ∧ B E u t ∧ va_F A st t
section Runs
variable {p : Program} {l : Launch} {e : Env} {R : Room} {s : State} {m : MethodId} {args : Array Value} {below : List Frame} {meth : Method} {c : Code} {H : Heap} {locs : List Loc} {cells slots : Nat}
variable {y : MethodName} {bytes cc : ByteArray} {maxL nL mc ms n index : Nat} {ret : Option FieldType} {ws : List Cond} {rm : Room} {Pc : Array Value → State → Prop} {Qc : Array Value → State → Outcome → State → Prop} {XC : String → State → State → Prop} {free : Addr → Prop} {Ts : List Cond} {own C : String} {b : Addr} {As rest : List Value} {g : JFrame}
theorem vx_callBack (cb : CallB R s args own index y bytes maxL ret ws rm mc ms n) (hM : vx_Met l y ws rm Pc Qc XC mc ms free) (hbl : FrameBlind Pc) : vx_Back l R p e below s args y 3 8 (PreOf R mc ms Pc) (PostOf Qc mc ms free) (vx_Post XC mc ms free) := by
  obtain ⟨hrc, hrs, hfr, hlo, hws, hcw, -, hini, -⟩ := cb
  exact vx_back (bytes := bytes) (maxL := maxL) (ret := ret) hM hbl hrc hrs hfr hlo hws hcw (fun a' U hW => word_at hW (Or.inl (by first | rfl | simp [Cond.onTables, Cond.keeps, Cond.steady])) hini)
theorem vx_runV (S : CallFix p m c cc nL s args Ts own) (hM : vx_Met l y ws rm Pc Qc XC mc ms free) (cw : CallW R s args own C index y bytes maxL ret ws rm mc ms n) (hp : PreV s H C b Pc As)
    (hg : g.method = m) (hn : As.length = n) (hsize : g.locals.size = nL) (hstack : g.stack = As.reverse ++ .ref b :: rest) (hW : 2 * g.monitorRoom + (rest.map fun v => v.category).sum ≤ 8) (hdg : decode cc g.pc = .ok (.invokevirtual index, 3)) (hf : cells + mc ≤ R.cells ∧ slots + ms ≤ R.slots) :
    vx_Run p l e R s m args below meth c H locs cells slots mc ms g rest (Qc (Value.ref b :: As).toArray) XC free := by
  have hK : vx_Back l R p e below s args y 3 8 (PreOf R mc ms Pc) (PostOf Qc mc ms free) (vx_Post XC mc ms free) := vx_callBack cw.1 hM hp.1
  obtain ⟨⟨-, -, -, -, -, -, hcode, -, hy, hlen, hl⟩, hin, hse⟩ := cw
  obtain ⟨hx, hb, hml, ho, -⟩ := S
  obtain ⟨-, ⟨cellB, hcB, hoB, hclB⟩, hPc⟩ := hp
  intro T hT X
  rcases vx_callV X hx (C := C) (bytes := bytes) (maxL := maxL) (ret := ret) ho hl hin hse hcode hy hK (by rw [hT]; exact hcB) hoB hclB hg (hsize.trans hml.symm) (argsL := As) (rest := rest) (fun sig h => hn.trans (hlen sig h)) hstack hW (by rw [hb]; exact hdg)
    (fun vm₁ hW₁ => ⟨hf.1, hf.2, hPc (T.setVm vm₁) hT hW₁⟩) with ⟨v, vm₁, ⟨U', l2, c2, s2⟩, hW₁, X', ⟨g', mk, t, L, e1, e2, hq, h1, hL, h2, h3⟩, st⟩ | ⟨q, vm₁, ⟨U', l2, c2, s2⟩, hW₁, X', ⟨g', mk, t, L, E, ce, e1, e2, hq, hce, hcv, hcl, h1, hL, h2, h3⟩, st⟩
  · dsimp only [Pt.U, Pt.locs, Pt.cells, Pt.slots] at X' e1 e2 h1 h2 h3 st
    subst h1; subst h2; subst h3
    exact Or.inl ⟨v, (T.setVm vm₁).calling g' mk (Value.ref b :: As).toArray, t, U', L, hT, X', hL, e1, e2, hq, st⟩
  · dsimp only [Pt.U, Pt.locs, Pt.cells, Pt.slots] at X' e1 e2 h1 h2 h3 st hcl
    subst h1; subst h2; subst h3
    exact Or.inr ⟨q, (T.setVm vm₁).calling g' mk (Value.ref b :: As).toArray, t, U', L, E, ce, hT, X', hL, e1, e2, hq, hce, hcv, vx_cls hW₁ hcl, st⟩
theorem vx_runS (S : CallFix p m c cc nL s args Ts own) (hM : vx_Met l y ws rm Pc Qc XC mc ms free) (cw : CallB R s args own index y bytes maxL ret ws rm mc ms n ∧ (Cond.static y).before args s = true) (hp : PreS s H Pc As)
    (hg : g.method = m) (hn : As.length = n) (hsize : g.locals.size = nL) (hstack : g.stack = As.reverse ++ rest) (hW : 2 * g.monitorRoom + (rest.map fun v => v.category).sum ≤ 8) (hdg : decode cc g.pc = .ok (.invokestatic index, 3)) (hf : cells + mc ≤ R.cells ∧ slots + ms ≤ R.slots) :
    vx_Run p l e R s m args below meth c H locs cells slots mc ms g rest (Qc As.toArray) XC free := by
  have hK : vx_Back l R p e below s args y 3 8 (PreOf R mc ms Pc) (PostOf Qc mc ms free) (vx_Post XC mc ms free) := vx_callBack cw.1 hM hp.1
  obtain ⟨⟨-, -, -, -, -, -, hcode, hini, hy, hlen, hl⟩, hstt⟩ := cw
  obtain ⟨hx, hb, hml, ho, -⟩ := S
  intro T hT X
  rcases vx_callS X hx (bytes := bytes) (maxL := maxL) (ret := ret) ho hl hstt hini hcode hy hK hg (hsize.trans hml.symm) (argsL := As) (rest := rest) (fun sig h => hn.trans (hlen sig h)) hstack hW (by rw [hb]; exact hdg)
    (fun vm₁ hW₁ => ⟨hf.1, hf.2, hp.2 (T.setVm vm₁) hT hW₁⟩) with ⟨v, vm₁, ⟨U', l2, c2, s2⟩, hW₁, X', ⟨g', mk, t, L, e1, e2, hq, h1, hL, h2, h3⟩, st⟩ | ⟨q, vm₁, ⟨U', l2, c2, s2⟩, hW₁, X', ⟨g', mk, t, L, E, ce, e1, e2, hq, hce, hcv, hcl, h1, hL, h2, h3⟩, st⟩
  · dsimp only [Pt.U, Pt.locs, Pt.cells, Pt.slots] at X' e1 e2 h1 h2 h3 st
    subst h1; subst h2; subst h3
    exact Or.inl ⟨v, (T.setVm vm₁).calling g' mk As.toArray, t, U', L, hT, X', hL, e1, e2, hq, st⟩
  · dsimp only [Pt.U, Pt.locs, Pt.cells, Pt.slots] at X' e1 e2 h1 h2 h3 st hcl
    subst h1; subst h2; subst h3
    exact Or.inr ⟨q, (T.setVm vm₁).calling g' mk As.toArray, t, U', L, E, ce, hT, X', hL, e1, e2, hq, hce, hcv, vx_cls hW₁ hcl, st⟩
end Runs
section Rows
variable {p : Program} {l : Launch} {e : Env} {R : Room} {s : State} {m : MethodId} {args : Array Value} {below : List Frame} {meth : Method} {c : Code} {H : Heap} {locs : List Loc} {cells slots : Nat} {Q : State → Prop}
variable {mc ms : Nat} {free : Addr → Prop} {A0 A1 : Nat → Prop} {H0 : Heap} {a : Array Value} {pc : Nat} {ls : Array Slot} {st0 rest : List Value}
theorem vx_keep {st₀ t T' : State} {L : List Loc} (h0 : st₀.heap = H) (e1 : T'.heap = t.heap) (hS : va_S A0 H0 H locs) (hA : ∀ q, q < H.size → A1 q → A0 q) (hf : ∀ q, free q → A0 q) (hL : ∀ q ∈ L, free q.base) (hF : va_F A1 st₀ t) :
    H.size ≤ T'.heap.size ∧ (∀ q : Nat, q < H.size → ¬ A1 q → T'.heap[q]? = H[q]?) ∧ va_S A0 H0 T'.heap (locs ++ L) := by
  obtain ⟨hz, hk⟩ := hF
  rw [h0] at hz hk
  exact ⟨by rw [e1]; exact hz, fun q h1 h2 => by rw [e1]; exact hk q h1 h2,
    ⟨Nat.le_trans hS.1 (by rw [e1]; exact hz), fun q h1 h2 => by rw [e1, hk q (Nat.lt_of_lt_of_le h1 hS.1) (fun z => h2 (hA q (Nat.lt_of_lt_of_le h1 hS.1) z))]; exact hS.2.1 q h1 h2, fun q hq => by
      rcases List.mem_append.mp hq with h | h
      · exact hS.2.2 q h
      · exact hf _ (hL q h)⟩⟩
theorem vx_calli {S SX : Type} {post : Int32 → S → Prop} {px : SX → Prop} {B : S → State → Prop} {BX : String → SX → State → Prop} {AX : Nat → Prop} (hr : vx_Run p l e R s m args below meth c H locs cells slots mc ms (F0 m pc ls st0) rest (va_Qi post B A1 a) (vx_X px BX AX) free) (hS : va_S A0 H0 H locs) (hA : ∀ q, q < H.size → A1 q → A0 q) (hf : ∀ q, free q → A0 q) (hAX : ∀ q, q < H.size → AX q → A0 q)
    (kx : ∀ (E : String) (ce : Cell) (q9 : Addr) (u : SX) (t : State) (H1 : Heap) (locs1 : List Loc), t.heap = H1 → s.vm.Alike t.vm → px u → BX E u t → H.size ≤ H1.size → (∀ q : Nat, q < H.size → ¬ AX q → H1[q]? = H[q]?) → va_S A0 H0 H1 locs1 → H1[q9]? = some ce → ce.vm = .none → s.vm.findClass E = some ce.cls → vx_W p l e R s m args below meth c H1 locs1 (cells + mc) (slots + ms) Q (F0 m pc ls rest) q9)
    (kk : ∀ (r : Int32) (u : S) (t : State) (H1 : Heap) (locs1 : List Loc), t.heap = H1 → s.vm.Alike t.vm → post r u → B u t → H.size ≤ H1.size → (∀ q : Nat, q < H.size → ¬ A1 q → H1[q]? = H[q]?) → va_S A0 H0 H1 locs1 → W p l e R s m args below meth c H1 locs1 (cells + mc) (slots + ms) Q (F0 m (pc + 3) ls (.int r :: rest))) : W p l e R s m args below meth c H locs cells slots Q (F0 m pc ls st0) := by
  intro T hT X
  rcases hr T hT X with ⟨v, st₀, t, T', L, h0, X', hL, e1, e2, ⟨⟨r, u, hv, hp, hb⟩, hF⟩, st⟩ | ⟨q, st₀, t, T', L, E, ce, h0, X', hL, e1, e2, ⟨u, hp, hb, hF⟩, hce, hcv, hcl, st⟩
  · cases hv
    obtain ⟨k1, k2, k3⟩ := vx_keep h0 e1 hS hA hf hL hF
    obtain ⟨t2, a1, b1⟩ := kk r u t T'.heap (locs ++ L) e1.symm (by rw [← e2]; exact X'.warmed.alike) hp hb k1 k2 k3 T' rfl X'
    exact ⟨t2, st t2 a1, b1⟩
  · obtain ⟨k1, k2, k3⟩ := vx_keep h0 e1 hS hAX hf hL hF
    obtain ⟨t2, a1, b1⟩ := kx E ce q u t T'.heap (locs ++ L) e1.symm (by rw [← e2]; exact X'.warmed.alike) hp hb k1 k2 k3 (by rw [e1]; exact hce) hcv hcl T' rfl X'
    exact ⟨t2, st.trans a1, b1⟩
theorem vx_calll {S SX : Type} {post : Int64 → S → Prop} {px : SX → Prop} {B : S → State → Prop} {BX : String → SX → State → Prop} {AX : Nat → Prop} (hr : vx_Run p l e R s m args below meth c H locs cells slots mc ms (F0 m pc ls st0) rest (va_Ql post B A1 a) (vx_X px BX AX) free) (hS : va_S A0 H0 H locs) (hA : ∀ q, q < H.size → A1 q → A0 q) (hf : ∀ q, free q → A0 q) (hAX : ∀ q, q < H.size → AX q → A0 q)
    (kx : ∀ (E : String) (ce : Cell) (q9 : Addr) (u : SX) (t : State) (H1 : Heap) (locs1 : List Loc), t.heap = H1 → s.vm.Alike t.vm → px u → BX E u t → H.size ≤ H1.size → (∀ q : Nat, q < H.size → ¬ AX q → H1[q]? = H[q]?) → va_S A0 H0 H1 locs1 → H1[q9]? = some ce → ce.vm = .none → s.vm.findClass E = some ce.cls → vx_W p l e R s m args below meth c H1 locs1 (cells + mc) (slots + ms) Q (F0 m pc ls rest) q9)
    (kk : ∀ (r : Int64) (u : S) (t : State) (H1 : Heap) (locs1 : List Loc), t.heap = H1 → s.vm.Alike t.vm → post r u → B u t → H.size ≤ H1.size → (∀ q : Nat, q < H.size → ¬ A1 q → H1[q]? = H[q]?) → va_S A0 H0 H1 locs1 → W p l e R s m args below meth c H1 locs1 (cells + mc) (slots + ms) Q (F0 m (pc + 3) ls (.long r :: rest))) : W p l e R s m args below meth c H locs cells slots Q (F0 m pc ls st0) := by
  intro T hT X
  rcases hr T hT X with ⟨v, st₀, t, T', L, h0, X', hL, e1, e2, ⟨⟨r, u, hv, hp, hb⟩, hF⟩, st⟩ | ⟨q, st₀, t, T', L, E, ce, h0, X', hL, e1, e2, ⟨u, hp, hb, hF⟩, hce, hcv, hcl, st⟩
  · cases hv
    obtain ⟨k1, k2, k3⟩ := vx_keep h0 e1 hS hA hf hL hF
    obtain ⟨t2, a1, b1⟩ := kk r u t T'.heap (locs ++ L) e1.symm (by rw [← e2]; exact X'.warmed.alike) hp hb k1 k2 k3 T' rfl X'
    exact ⟨t2, st t2 a1, b1⟩
  · obtain ⟨k1, k2, k3⟩ := vx_keep h0 e1 hS hAX hf hL hF
    obtain ⟨t2, a1, b1⟩ := kx E ce q u t T'.heap (locs ++ L) e1.symm (by rw [← e2]; exact X'.warmed.alike) hp hb k1 k2 k3 (by rw [e1]; exact hce) hcv hcl T' rfl X'
    exact ⟨t2, st.trans a1, b1⟩
theorem vx_callf {S SX : Type} {post : UInt32 → S → Prop} {px : SX → Prop} {B : S → State → Prop} {BX : String → SX → State → Prop} {AX : Nat → Prop} (hr : vx_Run p l e R s m args below meth c H locs cells slots mc ms (F0 m pc ls st0) rest (va_Qf post B A1 a) (vx_X px BX AX) free) (hS : va_S A0 H0 H locs) (hA : ∀ q, q < H.size → A1 q → A0 q) (hf : ∀ q, free q → A0 q) (hAX : ∀ q, q < H.size → AX q → A0 q)
    (kx : ∀ (E : String) (ce : Cell) (q9 : Addr) (u : SX) (t : State) (H1 : Heap) (locs1 : List Loc), t.heap = H1 → s.vm.Alike t.vm → px u → BX E u t → H.size ≤ H1.size → (∀ q : Nat, q < H.size → ¬ AX q → H1[q]? = H[q]?) → va_S A0 H0 H1 locs1 → H1[q9]? = some ce → ce.vm = .none → s.vm.findClass E = some ce.cls → vx_W p l e R s m args below meth c H1 locs1 (cells + mc) (slots + ms) Q (F0 m pc ls rest) q9)
    (kk : ∀ (r : UInt32) (u : S) (t : State) (H1 : Heap) (locs1 : List Loc), t.heap = H1 → s.vm.Alike t.vm → post r u → B u t → H.size ≤ H1.size → (∀ q : Nat, q < H.size → ¬ A1 q → H1[q]? = H[q]?) → va_S A0 H0 H1 locs1 → W p l e R s m args below meth c H1 locs1 (cells + mc) (slots + ms) Q (F0 m (pc + 3) ls (.float r :: rest))) : W p l e R s m args below meth c H locs cells slots Q (F0 m pc ls st0) := by
  intro T hT X
  rcases hr T hT X with ⟨v, st₀, t, T', L, h0, X', hL, e1, e2, ⟨⟨r, u, hv, hp, hb⟩, hF⟩, st⟩ | ⟨q, st₀, t, T', L, E, ce, h0, X', hL, e1, e2, ⟨u, hp, hb, hF⟩, hce, hcv, hcl, st⟩
  · cases hv
    obtain ⟨k1, k2, k3⟩ := vx_keep h0 e1 hS hA hf hL hF
    obtain ⟨t2, a1, b1⟩ := kk r u t T'.heap (locs ++ L) e1.symm (by rw [← e2]; exact X'.warmed.alike) hp hb k1 k2 k3 T' rfl X'
    exact ⟨t2, st t2 a1, b1⟩
  · obtain ⟨k1, k2, k3⟩ := vx_keep h0 e1 hS hAX hf hL hF
    obtain ⟨t2, a1, b1⟩ := kx E ce q u t T'.heap (locs ++ L) e1.symm (by rw [← e2]; exact X'.warmed.alike) hp hb k1 k2 k3 (by rw [e1]; exact hce) hcv hcl T' rfl X'
    exact ⟨t2, st.trans a1, b1⟩
theorem vx_calld {S SX : Type} {post : UInt64 → S → Prop} {px : SX → Prop} {B : S → State → Prop} {BX : String → SX → State → Prop} {AX : Nat → Prop} (hr : vx_Run p l e R s m args below meth c H locs cells slots mc ms (F0 m pc ls st0) rest (va_Qd post B A1 a) (vx_X px BX AX) free) (hS : va_S A0 H0 H locs) (hA : ∀ q, q < H.size → A1 q → A0 q) (hf : ∀ q, free q → A0 q) (hAX : ∀ q, q < H.size → AX q → A0 q)
    (kx : ∀ (E : String) (ce : Cell) (q9 : Addr) (u : SX) (t : State) (H1 : Heap) (locs1 : List Loc), t.heap = H1 → s.vm.Alike t.vm → px u → BX E u t → H.size ≤ H1.size → (∀ q : Nat, q < H.size → ¬ AX q → H1[q]? = H[q]?) → va_S A0 H0 H1 locs1 → H1[q9]? = some ce → ce.vm = .none → s.vm.findClass E = some ce.cls → vx_W p l e R s m args below meth c H1 locs1 (cells + mc) (slots + ms) Q (F0 m pc ls rest) q9)
    (kk : ∀ (r : UInt64) (u : S) (t : State) (H1 : Heap) (locs1 : List Loc), t.heap = H1 → s.vm.Alike t.vm → post r u → B u t → H.size ≤ H1.size → (∀ q : Nat, q < H.size → ¬ A1 q → H1[q]? = H[q]?) → va_S A0 H0 H1 locs1 → W p l e R s m args below meth c H1 locs1 (cells + mc) (slots + ms) Q (F0 m (pc + 3) ls (.double r :: rest))) : W p l e R s m args below meth c H locs cells slots Q (F0 m pc ls st0) := by
  intro T hT X
  rcases hr T hT X with ⟨v, st₀, t, T', L, h0, X', hL, e1, e2, ⟨⟨r, u, hv, hp, hb⟩, hF⟩, st⟩ | ⟨q, st₀, t, T', L, E, ce, h0, X', hL, e1, e2, ⟨u, hp, hb, hF⟩, hce, hcv, hcl, st⟩
  · cases hv
    obtain ⟨k1, k2, k3⟩ := vx_keep h0 e1 hS hA hf hL hF
    obtain ⟨t2, a1, b1⟩ := kk r u t T'.heap (locs ++ L) e1.symm (by rw [← e2]; exact X'.warmed.alike) hp hb k1 k2 k3 T' rfl X'
    exact ⟨t2, st t2 a1, b1⟩
  · obtain ⟨k1, k2, k3⟩ := vx_keep h0 e1 hS hAX hf hL hF
    obtain ⟨t2, a1, b1⟩ := kx E ce q u t T'.heap (locs ++ L) e1.symm (by rw [← e2]; exact X'.warmed.alike) hp hb k1 k2 k3 (by rw [e1]; exact hce) hcv hcl T' rfl X'
    exact ⟨t2, st.trans a1, b1⟩
theorem vx_callv {S SX : Type} {post : S → Prop} {px : SX → Prop} {B : S → State → Prop} {BX : String → SX → State → Prop} {AX : Nat → Prop} (hr : vx_Run p l e R s m args below meth c H locs cells slots mc ms (F0 m pc ls st0) rest (va_Qv post B A1 a) (vx_X px BX AX) free) (hS : va_S A0 H0 H locs) (hA : ∀ q, q < H.size → A1 q → A0 q) (hf : ∀ q, free q → A0 q) (hAX : ∀ q, q < H.size → AX q → A0 q)
    (kx : ∀ (E : String) (ce : Cell) (q9 : Addr) (u : SX) (t : State) (H1 : Heap) (locs1 : List Loc), t.heap = H1 → s.vm.Alike t.vm → px u → BX E u t → H.size ≤ H1.size → (∀ q : Nat, q < H.size → ¬ AX q → H1[q]? = H[q]?) → va_S A0 H0 H1 locs1 → H1[q9]? = some ce → ce.vm = .none → s.vm.findClass E = some ce.cls → vx_W p l e R s m args below meth c H1 locs1 (cells + mc) (slots + ms) Q (F0 m pc ls rest) q9)
    (kk : ∀ (u : S) (t : State) (H1 : Heap) (locs1 : List Loc), t.heap = H1 → s.vm.Alike t.vm → post u → B u t → H.size ≤ H1.size → (∀ q : Nat, q < H.size → ¬ A1 q → H1[q]? = H[q]?) → va_S A0 H0 H1 locs1 → W p l e R s m args below meth c H1 locs1 (cells + mc) (slots + ms) Q (F0 m (pc + 3) ls (rest))) : W p l e R s m args below meth c H locs cells slots Q (F0 m pc ls st0) := by
  intro T hT X
  rcases hr T hT X with ⟨v, st₀, t, T', L, h0, X', hL, e1, e2, ⟨⟨u, hv, hp, hb⟩, hF⟩, st⟩ | ⟨q, st₀, t, T', L, E, ce, h0, X', hL, e1, e2, ⟨u, hp, hb, hF⟩, hce, hcv, hcl, st⟩
  · cases hv
    obtain ⟨k1, k2, k3⟩ := vx_keep h0 e1 hS hA hf hL hF
    obtain ⟨t2, a1, b1⟩ := kk u t T'.heap (locs ++ L) e1.symm (by rw [← e2]; exact X'.warmed.alike) hp hb k1 k2 k3 T' rfl X'
    exact ⟨t2, st t2 a1, b1⟩
  · obtain ⟨k1, k2, k3⟩ := vx_keep h0 e1 hS hAX hf hL hF
    obtain ⟨t2, a1, b1⟩ := kx E ce q u t T'.heap (locs ++ L) e1.symm (by rw [← e2]; exact X'.warmed.alike) hp hb k1 k2 k3 (by rw [e1]; exact hce) hcv hcl T' rfl X'
    exact ⟨t2, st.trans a1, b1⟩
/-- caught by the row x of this method's table; the rows ahead don't take it -/
theorem vx_catch {own name : String} {E : String} {ce : Cell} {q : Addr} (hown : s.vm.findClass own = some m.cls) (pre : List ExceptionTableEntry) (x : ExceptionTableEntry) (suf : List ExceptionTableEntry) (hsplit : c.exceptionTable.toList = pre ++ x :: suf)
    (hpass : ∀ z ∈ pre, covers z pc = false ∨ (z.catchType ≠ 0 ∧ ∃ nm : String, (Cond.classLink own z.catchType nm).before args s = true ∧ va_Nc E nm s)) (hx : covers x pc = true) (h0 : x.catchType ≠ 0)
    (hlink : (Cond.classLink own x.catchType name).before args s = true) (hcast : (Cond.castable E name).before args s = true) (hcell : H[q]? = some ce) (hv : ce.vm = .none) (hcl : s.vm.findClass E = some ce.cls)
    (kk : W p l e R s m args below meth c H locs cells slots Q (F0 m x.handlerPc ls [.ref q])) : vx_W p l e R s m args below meth c H locs cells slots Q (F0 m pc ls rest) q := by
  intro T hT X
  have hpl : e.platform.magicAccessors = ({} : Platform).magicAccessors := by rw [X.admits.platform]
  obtain ⟨c3, c4, hc3, hc4, hasg⟩ := Cond.castable_spec hcast
  cases Option.some.inj (hc3.symm.trans hcl)
  obtain ⟨c5, hc5, hcl5⟩ := Cond.classLink_spec hown hlink e.platform hpl
  cases Option.some.inj (hc4.symm.trans hc5)
  obtain ⟨vm', X', st⟩ := X.thenCaughtThrough q (g := F0 m pc ls rest) rfl (Steps.refl _) (by rw [hT]; exact hcell) (by rw [hv]; rfl) (by obtain ⟨k9, h9, -⟩ := Vm.findClass_spec hcl; exact ⟨k9, h9⟩) pre x suf hsplit
    (fun z hz => by
      rcases hpass z hz with h | ⟨hz0, nm, hl1, hn1⟩
      · exact Or.inl h
      · obtain ⟨c6, hc6, hcl6⟩ := Cond.classLink_spec hown hl1 e.platform hpl
        obtain ⟨a8, b8, h1, h2, h3⟩ := hn1
        cases Option.some.inj (h1.symm.trans hcl)
        cases Option.some.inj (h2.symm.trans hc6)
        exact Or.inr ⟨hz0, _, hcl6, h3⟩) hx (Or.inr ⟨h0, c4, hcl5, hasg⟩)
  obtain ⟨t, a1, b1⟩ := kk (T.setVm vm') hT X'
  exact ⟨t, st.trans a1, b1⟩
end Rows
section Ends
variable {p : Program} {l : Launch} {e : Env} {R : Room} {s : State} {m : MethodId} {args : Array Value} {below : List Frame} {meth : Method} {c : Code} {H : Heap} {locs : List Loc} {cells slots : Nat} {Q : State → Prop}
variable {mc ms : Nat} {free : Addr → Prop} {A0 A1 : Nat → Prop} {H0 : Heap} {a : Array Value} {ls : Array Slot} {st0 rest : List Value}
variable {Qc : Array Value → State → Outcome → State → Prop} {XC : String → State → State → Prop}
/-- what a body that may throw owes at its end -/
def vx_MQ (below : List Frame) (Qc : Array Value → State → Outcome → State → Prop) (XC : String → State → State → Prop) (a : Array Value) (s : State) (mc ms : Nat) (free : Addr → Prop) : State → Prop := fun t =>
  ∃ o, t.status = .running ∧ Ended t below o ∧ vx_Q Qc XC mc ms free a s o t
theorem vx_ret {g : JFrame} {mc ms : Nat} (k : W p l e R s m args below meth c H locs cells slots (MQ below Qc args s mc ms free) g) : W p l e R s m args below meth c H locs cells slots (vx_MQ below Qc XC args s mc ms free) g := by
  intro T hT X
  obtain ⟨t, a1, o, b1, b2, b3, b4⟩ := k T hT X
  exact ⟨t, a1, o, b1, b2, Or.inl ⟨b3, b4⟩⟩
/-- not caught here: it goes on to the caller -/
theorem vx_widen {g : JFrame} {q : Addr} {k n : Nat} (h1 : cells ≤ k) (h2 : slots ≤ n) (kk : vx_W p l e R s m args below meth c H locs k n Q g q) : vx_W p l e R s m args below meth c H locs cells slots Q g q := fun T hT X => kk T hT (stand_widen X h1 h2)
theorem vx_out {pc : Nat} {E : String} {ce : Cell} {q : Addr} {mc ms : Nat} (hout : ∀ x ∈ c.exceptionTable.toList, covers x pc = false) (hlocks : meth.locks = false) (hcell : H[q]? = some ce) (hv : ce.vm = .none) (hcl : s.vm.findClass E = some ce.cls)
    (hx : ∀ t : State, t.heap = H → s.vm.Alike t.vm → XC E s t) (hf : ∀ z ∈ locs, free z.base) (hc : cells ≤ mc) (hs : slots ≤ ms) :
    vx_W p l e R s m args below meth c H locs cells slots (vx_MQ below Qc XC args s mc ms free) (F0 m pc ls rest) q := by
  intro T hT X
  obtain ⟨st1, hrun, hend, hW, hsm⟩ := X.leaveThrown q (g := F0 m pc ls rest) rfl rfl rfl hout hlocks
  have hcell9 : (T.setFrames (.throwing q :: below)).heap[q]? = some ce := by
    show T.heap[q]? = some ce
    rw [hT]; exact hcell
  exact ⟨_, st1, .threw q, hrun, hend, Or.inr ⟨q, rfl, E, ce, locs, hx _ hT hW.alike, hcell9, hv, hcl, hW, hsm.mono hc hs, hf⟩⟩
theorem vx_frame {U : State} {k n : Nat} (h : s.sameButNew ({ U with vm := s.vm } : State) locs k n) : s.heap.size ≤ U.heap.size ∧ ∀ q : Nat, q < s.heap.size → (∀ z ∈ locs, z.base ≠ q) → U.heap[q]? = s.heap[q]? := by
  obtain ⟨-, h2, -, -, -, h6⟩ := h
  refine ⟨h2, fun q hq hz => ?_⟩
  obtain ⟨c9, e1, e2, e3, e4⟩ := h6 q _ (Array.getElem?_eq_getElem hq)
  have hs : c9.slots = (s.heap[q]).slots := Array.ext_getElem? fun i => e4 i fun hm => hz _ hm rfl
  have h9 : c9 = s.heap[q] := by
    rw [hs] at e2
    exact e2
  have e5 : U.heap[q]? = some c9 := e1
  rw [e5, h9, Array.getElem?_eq_getElem hq]
/-- the words of a throw but the four that speak of the heap -/
def vx_no (w : Cond) : Bool := decide (w ≠ .isRef (.static Bundle.tN "UNASSIGNED_STACK" Bundle.steD)) && decide (w ≠ .isRef (.static Bundle.tN "SUPPRESSED_SENTINEL" Bundle.listD)) && decide (w ≠ .laysStatic Bundle.tN "UNASSIGNED_STACK" Bundle.steD) && decide (w ≠ .laysStatic Bundle.tN "SUPPRESSED_SENTINEL" Bundle.listD)
def vx_at0 (own : String) (ic : Nat) (X : String) (names : List String) : List Cond := (Bundle.ownAtoms0 own ic X names).filter vx_no
def vx_atS (own : String) (ic : Nat) (X : String) (names : List String) : List Cond := (Bundle.ownAtoms own ic X names).filter vx_no
/-- a word that the tables alone decide, or a good one -/
def vx_ot (w : Cond) : Bool := w.onTables || goodWord w
theorem vx_ot_at {args a' : Array Value} {s U : State} {w : Cond} (hW : s.WarmedH U.vm) (hvm : s.vm = U.vm) (hg : vx_ot w = true) (h : w.before args s = true) : w.before a' U = true := by
  simp only [vx_ot, Bool.or_eq_true] at hg
  rcases hg with hg | hg
  · exact va_tabs hg hvm h
  · exact word_at hW (good_of_word hg) h
/-- a list's words: the good ones out of the method's own list, the others by premises of their own -/
theorem vx_hat {args : Array Value} {s : State} {L B : List Cond} (h1 : ∀ w ∈ L.filter goodWord, w.before args s = true) (h2 : ∀ w ∈ L.filter (fun w => !goodWord w), w ∈ B) (h3 : ∀ w ∈ B, w.before args s = true) : ∀ w ∈ L, w.before args s = true := by
  intro w hw
  by_cases g : goodWord w = true
  · exact h1 w (List.mem_filter.mpr ⟨hw, g⟩)
  · refine h3 w (h2 w (List.mem_filter.mpr ⟨hw, ?_⟩))
    show (!goodWord w) = true
    cases hgw : goodWord w
    · rfl
    · exact absurd hgw g
theorem vx_c {args : Array Value} {s : State} {w : Cond} {B : List Cond} (h : w.before args s = true) (t : ∀ w ∈ B, w.before args s = true) : ∀ w' ∈ w :: B, w'.before args s = true := fun w' h' => (List.mem_cons.mp h').elim (fun e => by rw [e]; exact h) (t w')
theorem vx_n {args : Array Value} {s : State} : ∀ w ∈ ([] : List Cond), w.before args s = true := fun _ h => nomatch h
theorem vx_own {args : Array Value} {s : State} {L : List Cond} (h1 : ∀ w ∈ L.filter vx_no, w.before args s = true)
    (hU : (Cond.isRef (.static Bundle.tN "UNASSIGNED_STACK" Bundle.steD)).before args s = true) (hN : (Cond.isRef (.static Bundle.tN "SUPPRESSED_SENTINEL" Bundle.listD)).before args s = true)
    (lU : (Cond.laysStatic Bundle.tN "UNASSIGNED_STACK" Bundle.steD).before args s = true) (lN : (Cond.laysStatic Bundle.tN "SUPPRESSED_SENTINEL" Bundle.listD).before args s = true) : ∀ w ∈ L, w.before args s = true := by
  intro w hw
  by_cases e1 : w = .isRef (.static Bundle.tN "UNASSIGNED_STACK" Bundle.steD)
  · rw [e1]; exact hU
  · by_cases e2 : w = .isRef (.static Bundle.tN "SUPPRESSED_SENTINEL" Bundle.listD)
    · rw [e2]; exact hN
    · by_cases e3 : w = .laysStatic Bundle.tN "UNASSIGNED_STACK" Bundle.steD
      · rw [e3]; exact lU
      · by_cases e4 : w = .laysStatic Bundle.tN "SUPPRESSED_SENTINEL" Bundle.listD
        · rw [e4]; exact lN
        · exact h1 w (List.mem_filter.mpr ⟨hw, by unfold vx_no; rw [decide_eq_true e1, decide_eq_true e2, decide_eq_true e3, decide_eq_true e4]; rfl⟩)
/-- where a static field lies, its class's statics cell in H -/
def vx_L (C n d : String) (A : Nat → Prop) (U : State) (H : Heap) : Prop := ∃ (c : ClassId) (k : Class) (i : Nat) (f : Field) (a : Nat) (cell : Cell), U.vm.findClass C = some c ∧ U.fieldFound? C n d = some (c, k, i, f) ∧ f.isStatic = true ∧ k.statics = some a ∧ H[a]? = some cell ∧ cell.vm.isStatics = true ∧ cell.cls = c ∧ f.slot < cell.slots.size ∧ k.staticTypes[f.slot]? = some f.type ∧ ¬ A a
theorem vx_L.moved {C n d : String} {A : Nat → Prop} {u U : State} {H : Heap} (hvm : u.vm.Alike U.vm) (h : vx_L C n d A u H) : vx_L C n d A U H := by
  obtain ⟨c, k, i, f, a, cell, h1, h2, h3, h4, h5, h6, h7, h8, h9, h10⟩ := h
  obtain ⟨k', hi', he⟩ := State.fieldFound?_setVm hvm h2
  exact ⟨c, k', i, f, a, cell, by rw [hvm.findClass]; exact h1, hi', h3, by rw [he]; exact h4, h5, h6, h7, h8, by rw [he]; exact h9, h10⟩
theorem vx_L.kept {C n d : String} {A : Nat → Prop} {U : State} {H H1 : Heap} (h : vx_L C n d A U H) (hq : ∀ a : Nat, a < H.size → ¬ A a → H1[a]? = H[a]?) : vx_L C n d A U H1 := by
  obtain ⟨c, k, i, f, a, cell, h1, h2, h3, h4, h5, h6, h7, h8, h9, h10⟩ := h
  exact ⟨c, k, i, f, a, cell, h1, h2, h3, h4, by rw [hq a (Array.getElem?_eq_some_iff.mp h5).1 h10]; exact h5, h6, h7, h8, h9, h10⟩
theorem vx_L.narrow {C n d : String} {A B : Nat → Prop} {U : State} {H : Heap} (h : vx_L C n d A U H) (hAB : ∀ q, B q → A q) : vx_L C n d B U H := by
  obtain ⟨c, k, i, f, a, cell, h1, h2, h3, h4, h5, h6, h7, h8, h9, h10⟩ := h
  exact ⟨c, k, i, f, a, cell, h1, h2, h3, h4, h5, h6, h7, h8, h9, fun z => h10 (hAB _ z)⟩
theorem vx_L.word {C n d : String} {A : Nat → Prop} {s : State} {args : Array Value} (h : vx_L C n d A s s.heap) : (Cond.laysStatic C n d).before args s = true := by
  obtain ⟨c, k, i, f, a, cell, h1, h2, h3, h4, h5, h6, h7, h8, h9, -⟩ := h
  show (Cond.laysStatic C n d).holds args s none s [] = true
  exact Cond.laysStatic_of h1 h2 h3 h4 h5 h6 h7 h8 h9
/-- .. and what it holds: null or some reference -/
def vx_Zq (C n d : String) (A : Nat → Prop) (U : State) (H : Heap) : Prop := va_Zq C n d A U H ∧ vx_L C n d A U H
theorem vx_Zq.moved {C n d : String} {A : Nat → Prop} {u U : State} {H : Heap} (hvm : u.vm.Alike U.vm) (h : vx_Zq C n d A u H) : vx_Zq C n d A U H := ⟨va_Zq.moved hvm h.1, vx_L.moved hvm h.2⟩
theorem vx_Zq.kept {C n d : String} {A : Nat → Prop} {U : State} {H H1 : Heap} (h : vx_Zq C n d A U H) (hq : ∀ a : Nat, a < H.size → ¬ A a → H1[a]? = H[a]?) : vx_Zq C n d A U H1 := ⟨va_Zq.kept h.1 hq, vx_L.kept h.2 hq⟩
theorem vx_Zq.narrow {C n d : String} {A B : Nat → Prop} {U : State} {H : Heap} (h : vx_Zq C n d A U H) (hAB : ∀ q, B q → A q) : vx_Zq C n d B U H := ⟨va_Zq.narrow h.1 hAB, vx_L.narrow h.2 hAB⟩
theorem vx_Zqof {args : Array Value} {s : State} {C n d : String} {A : Nat → Prop} (hl : (Cond.laysStatic C n d).before args s = true) (hini : (Cond.initialized C).before args s = true) (h : (Cond.isRef (.static C n d)).before args s = true) (hA : ∀ a : Nat, a < s.heap.size → ¬ A a) : vx_Zq C n d A s s.heap := by
  refine ⟨va_Zqof hl hini h hA, ?_⟩
  obtain ⟨c, k, i, f, a, cell, h1, h2, h3, h4, h5, h6, h7, h8, h9⟩ := Cond.laysStatic_spec hl
  exact ⟨c, k, i, f, a, cell, h1, h2, h3, h4, h5, h6, h7, h8, h9, hA a (Array.getElem?_eq_some_iff.mp h5).1⟩
theorem vx_isRef {C n d : String} {v : Value} {A : Nat → Prop} {s : State} {args : Array Value} (h : va_Z C n d v A s s.heap) (hv : v.isRef = true) : (Cond.isRef (.static C n d)).before args s = true := by
  obtain ⟨cf, kf, fi, f, a, cell, h1, h2, h3, h4, h5, h6, h7, -⟩ := h
  have he : (Term.static C n d).eval args s none [] s = some v := by
    simp [Term.eval, State.fieldNamed?, h1, h2, h4, h5, h6, h7]
  simp only [Cond.before, Cond.holds, Cond.value, he]
  cases v <;> simp_all [Value.isRef]
theorem vx_isRefq {C n d : String} {A : Nat → Prop} {s : State} {args : Array Value} (h : va_Zq C n d A s s.heap) : (Cond.isRef (.static C n d)).before args s = true := by
  rcases h with h | ⟨t, h⟩
  · exact vx_isRef h rfl
  · exact vx_isRef h rfl
/-- the same frame, seen from here: as if the method were called anew in this heap -/
theorem vx_rebase {T : State} (X : Stand p l e R s m args below meth c T locs cells slots) {R' : Room} (hf : R'.frames ≤ R.frames) (hl : R'.locals ≤ R.locals) (hc : cells + R'.cells ≤ R.cells) (hs : slots + R'.slots ≤ R.slots) :
    Stand p l e R' ((T.setVm s.vm).setFrames (.invoking m args :: below)) m args below meth c T [] 0 0 := by
  have htop : (T.setVm s.vm).topJava?.isSome := X.here.top
  have hF : ((T.setVm s.vm).setFrames (.invoking m args :: below)).frames = .invoking m args :: below := State.frames_setFrames _ (State.cur_lt_of_top htop)
  obtain ⟨g₀, hg0⟩ := Option.isSome_iff_exists.mp htop
  obtain ⟨r, hr⟩ := State.topJava?_eq_some.mp hg0
  have hl9 : e.platform.stackLimits (T.setVm s.vm).me = e.platform.stackLimits s.me := X.limits
  have hb9 : (T.setVm s.vm).me.stackBytes = s.me.stackBytes := X.bytes
  refine ⟨X.admits, X.cas, X.clock, hF, ?_, X.hears, X.method, X.code, X.here, X.tail, X.warmed, ?_, ?_, ?_⟩
  · have h := X.room
    have hU : ((T.setVm s.vm).setFrames (.invoking m args :: below)).localsInUse = s.localsInUse := by
      rw [State.localsInUse_invoking hF (meth := meth) (c := c) X.method X.code, State.localsInUse_invoking X.frames X.method X.code]
    simp only [State.hasRoom, Bool.and_eq_true, decide_eq_true_eq] at h ⊢
    obtain ⟨⟨⟨⟨h1, h2, h3, h4, h5, h6⟩, h7⟩, h8⟩, h9⟩ := h
    rw [X.frames, List.length_cons] at h2 h3
    have q1 := X.heapSize
    have q2 := X.used
    simp only [hF, hU, List.length_cons, State.stackLimits_setFrames, State.stackBytes_setFrames, hl9, hb9]
    refine ⟨⟨⟨⟨by omega, by omega, by omega, by omega, by omega, h6⟩, ?_⟩, ?_⟩, X.book⟩
    · show T.heap.size + R'.cells ≤ e.platform.maxCells
      omega
    · show T.slotsUsed + R'.slots ≤ e.platform.maxSlots
      omega
  · rw [State.stackLimits_setFrames]; rfl
  · rw [State.stackBytes_setFrames]; rfl
  · refine ⟨?_, Nat.le_refl _, Nat.le_refl _, ?_, ?_, fun a c9 h9 => ⟨c9, h9, rfl, rfl, fun _ _ => rfl⟩⟩
    · obtain ⟨t, ht, -⟩ := State.frames_cons hr
      show T.setVm s.vm = { ((T.setVm s.vm).setFrames (.invoking m args :: below)).setFrames (T.setVm s.vm).frames with heap := T.heap, slotsUsed := T.slotsUsed }
      rw [State.setFrames_setFrames, State.setFrames_self ht]
      rfl
    · show T.slotsUsed = T.slotsUsed + ((T.heap.toList.drop T.heap.size).map (·.slots.size)).sum
      rw [List.drop_eq_nil_of_le (Nat.le_of_eq Array.length_toList)]
      rfl
    · show ((T.heap.toList.drop T.heap.size).map (·.slots.size)).sum ≤ 0
      rw [List.drop_eq_nil_of_le (Nat.le_of_eq Array.length_toList)]
      exact Nat.le_refl _
/-- 'throw new E()': new; dup; invokespecial; athrow -/
theorem vx_throw0 {cc : ByteArray} {pc : Nat} (hexec : p.tables.exec = Jvm.exec) (hb : c.code = cc) (hl : l.stackTraces = false) {own cls : String} {names : List String} {ik ic mc ms : Nat} {A : Nat → Prop}
    (hown : s.vm.findClass own = some m.cls) (hcls : Bundle.fit cls = true) (hnames : ∀ n ∈ names, Bundle.fit n = true)
    (hk : (Cond.classLink own ik cls).before args s = true) (hini : (Cond.initialized cls).before args s = true) (hat : ∀ w ∈ vx_at0 own ic cls names, w.before args s = true)
    (hgood : ∀ w ∈ Cond.classLink own ik cls :: Cond.initialized cls :: vx_at0 own ic cls names, vx_ot w = true)
    (hU : vx_Zq Bundle.tN "UNASSIGNED_STACK" Bundle.steD A s s.heap) (hN : vx_Zq Bundle.tN "SUPPRESSED_SENTINEL" Bundle.listD A s s.heap) (hS : va_S A s.heap H locs) (hsize : ls.size = c.maxLocals)
    (d0 : decode cc pc = .ok (.new ik, 3)) (d3 : decode cc (pc + 3) = .ok (.dup, 1)) (d4 : decode cc (pc + 4) = .ok (.invokespecial ic, 3)) (d7 : decode cc (pc + 7) = .ok (.athrow, 1))
    (hout : ∀ x ∈ c.exceptionTable.toList, covers x (pc + 7) = false)
    (hRframes : names.length + 3 < R.frames) (hRlocals : (rest.map fun v => v.category).sum + (13 * (names.length + 1) + 42) ≤ R.locals) (hRcells : cells + 1 ≤ R.cells) (hRslots : slots + 6 ≤ R.slots) (hlocks : meth.locks = false)
    (hx : ∀ t : State, s.vm.Alike t.vm → H.size ≤ t.heap.size → (∀ q : Nat, q < H.size → t.heap[q]? = H[q]?) → XC cls s t)
    (hf : ∀ z ∈ locs, free z.base) (hc : cells + 1 ≤ mc) (hs : slots + 6 ≤ ms) :
    W p l e R s m args below meth c H locs cells slots (vx_MQ below Qc XC args s mc ms free) (F0 m pc ls rest) := by
  intro T hT X
  have htr : e.platform.stackTraces = false := (show e.platform.stackTraces = l.stackTraces by rw [X.admits.platform]).trans hl
  have Y := vx_rebase X (R' := { frames := R.frames, locals := R.locals, cells := 1, slots := 6 }) (Nat.le_refl _) (Nat.le_refl _) hRcells hRslots
  obtain ⟨s', hA⟩ : ∃ z, z = (T.setVm s.vm).setFrames (.invoking m args :: below) := ⟨_, rfl⟩
  rw [← hA] at Y
  have hvm : s'.vm = s.vm := by rw [hA]; rfl
  have hhp : s'.heap = H := by rw [hA]; exact hT
  have hW0 : s.WarmedH s'.vm := by rw [hvm]; exact State.WarmedH.refl s
  have hat' : ∀ w ∈ vx_at0 own ic cls names, w.before args s' = true := fun w hw => vx_ot_at hW0 hvm.symm (hgood w (List.mem_cons_of_mem _ (List.mem_cons_of_mem _ hw))) (hat w hw)
  have hk' : (Cond.classLink own ik cls).before args s' = true := vx_ot_at hW0 hvm.symm (hgood _ List.mem_cons_self) hk
  have hini' : (Cond.initialized cls).before args s' = true := vx_ot_at hW0 hvm.symm (hgood _ (List.mem_cons_of_mem _ List.mem_cons_self)) hini
  have hU' : vx_Zq Bundle.tN "UNASSIGNED_STACK" Bundle.steD A s' s'.heap := by rw [hhp]; exact vx_Zq.moved hW0.alike (hU.kept hS.2.1)
  have hN' : vx_Zq Bundle.tN "SUPPRESSED_SENTINEL" Bundle.listD A s' s'.heap := by rw [hhp]; exact vx_Zq.moved hW0.alike (hN.kept hS.2.1)
  have h : ∀ w ∈ Bundle.ownAtoms0 own ic cls names, w.before args s' = true := vx_own hat' (vx_isRefq hU'.1) (vx_isRefq hN'.1) hU'.2.word hN'.2.word
  have hown' : s'.vm.findClass own = some m.cls := by rw [hvm]; exact hown
  have hins : (Cond.instantiable cls 6).before args s' = true := h _ (by simp [Bundle.ownAtoms0])
  obtain ⟨vm₁, cX, kX, hfX, hkX, -, -, X₁, st1⟩ := Y.newCold hexec (own := own) (C := cls) (index := ik) (n := 6) hown' hk' hins hini'
    (g := F0 m pc ls rest) rfl (by rw [hb]; exact d0) (Nat.le_refl _) (Nat.le_refl _)
  generalize hT1 : (T.setVm vm₁).pushCell { cls := cX, slots := kX.instanceTypes.map defaultValue, vm := .none } = T1 at X₁ st1
  have hcat : (Value.ref T.heap.size).category = 1 := rfl
  have hcellA : T1.heap[T.heap.size]? = some (freshCell cX kX) := by rw [← hT1]; exact State.heap_pushCell_size _ _
  have d3' : decode c.code (pc + 3) = .ok (.dup, 1) := by rw [hb]; exact d3
  obtain ⟨U, hsteps, hrun, hend, hW, hsame, ce, hce, hO⟩ := X₁.ctorThrow0 hexec htr (own := own) (cls := cls) (names := names) (ic := ic) hown' hcls hnames h (fun x hx => nomatch hx) hfX hkX hcellA (by rw [hhp, hT]; exact Nat.le_refl _)
    (g := { method := m, pc := pc + 4, locals := ls, stack := .ref T.heap.size :: .ref T.heap.size :: rest, locked := none }) rfl hsize rfl rfl (rest := rest) rfl
    (by rw [hb]; exact d4) (by rw [hb]; exact d7) hout hRframes (by simp only [List.map_cons, List.sum_cons, hcat]; omega) hlocks
  obtain ⟨f1, f2⟩ := vx_frame hsame
  rw [hhp] at f1 f2
  have hWs : s.WarmedH U.vm := State.WarmedH.trans hW0 hW
  have hcl : s.vm.findClass cls = some ce.cls := by
    have h9 := hO.cls
    rw [hvm] at h9
    exact h9
  have hall : s.sameButNew ({ U with vm := s.vm } : State) locs mc ms := by
    subst hA
    obtain ⟨e1, e2⟩ := hsame
    rw [State.setFrames_setFrames] at e1
    have h2 : (T.setVm s.vm).sameButNew ({ U with vm := s.vm } : State) [] (0 + 1) (0 + 6) := ⟨e1, e2⟩
    have h3 := X.same.trans h2
    rw [List.append_nil] at h3
    exact h3.mono hc hs
  refine ⟨U, ?_, .threw T.heap.size, hrun, hend, Or.inr ⟨T.heap.size, rfl, cls, ce, locs, hx U hWs.alike f1 (fun q hq => f2 q hq (fun z hz => nomatch hz)), hce, hO.vm, hcl, hWs, hall, hf⟩⟩
  refine st1 _ ?_
  show Steps p.tables e below (T1.setTop { method := m, pc := pc + 3, locals := ls, stack := .ref T.heap.size :: rest, locked := none }) _
  jvm_step X₁.here [X₁.here.top, hexec, d3', Value.category]
  exact hsteps
/-- 'throw new E("text")': new; dup; ldc; invokespecial; athrow -/
theorem vx_throwS {cc : ByteArray} {pc : Nat} (hexec : p.tables.exec = Jvm.exec) (hb : c.code = cc) (hl : l.stackTraces = false) {own cls text : String} {names : List String} {ik is ic mc ms sa : Nat} {A : Nat → Prop}
    (hown : s.vm.findClass own = some m.cls) (hcls : Bundle.fit cls = true) (hnames : ∀ n ∈ names, Bundle.fit n = true)
    (hk : (Cond.classLink own ik cls).before args s = true) (hini : (Cond.initialized cls).before args s = true) (hstr : vk_R own is text sa s) (hat : ∀ w ∈ vx_atS own ic cls names, w.before args s = true)
    (hgood : ∀ w ∈ Cond.classLink own ik cls :: Cond.initialized cls :: vx_atS own ic cls names, vx_ot w = true)
    (hU : vx_Zq Bundle.tN "UNASSIGNED_STACK" Bundle.steD A s s.heap) (hN : vx_Zq Bundle.tN "SUPPRESSED_SENTINEL" Bundle.listD A s s.heap) (hS : va_S A s.heap H locs) (hsize : ls.size = c.maxLocals)
    (d0 : decode cc pc = .ok (.new ik, 3)) (d3 : decode cc (pc + 3) = .ok (.dup, 1)) (d4 : decode cc (pc + 4) = .ok (.ldc is, 2)) (d6 : decode cc (pc + 6) = .ok (.invokespecial ic, 3)) (d9 : decode cc (pc + 9) = .ok (.athrow, 1))
    (hout : ∀ x ∈ c.exceptionTable.toList, covers x (pc + 9) = false)
    (hRframes : names.length + 3 < R.frames) (hRlocals : (rest.map fun v => v.category).sum + (13 * (names.length + 1) + 43) ≤ R.locals) (hRcells : cells + 1 ≤ R.cells) (hRslots : slots + 6 ≤ R.slots) (hlocks : meth.locks = false)
    (hx : ∀ t : State, s.vm.Alike t.vm → H.size ≤ t.heap.size → (∀ q : Nat, q < H.size → t.heap[q]? = H[q]?) → XC cls s t)
    (hf : ∀ z ∈ locs, free z.base) (hc : cells + 1 ≤ mc) (hs : slots + 6 ≤ ms) :
    W p l e R s m args below meth c H locs cells slots (vx_MQ below Qc XC args s mc ms free) (F0 m pc ls rest) := by
  intro T hT X
  have htr : e.platform.stackTraces = false := (show e.platform.stackTraces = l.stackTraces by rw [X.admits.platform]).trans hl
  have Y := vx_rebase X (R' := { frames := R.frames, locals := R.locals, cells := 1, slots := 6 }) (Nat.le_refl _) (Nat.le_refl _) hRcells hRslots
  obtain ⟨s', hA⟩ : ∃ z, z = (T.setVm s.vm).setFrames (.invoking m args :: below) := ⟨_, rfl⟩
  rw [← hA] at Y
  have hvm : s'.vm = s.vm := by rw [hA]; rfl
  have hhp : s'.heap = H := by rw [hA]; exact hT
  have hW0 : s.WarmedH s'.vm := by rw [hvm]; exact State.WarmedH.refl s
  have hat' : ∀ w ∈ vx_atS own ic cls names, w.before args s' = true := fun w hw => vx_ot_at hW0 hvm.symm (hgood w (List.mem_cons_of_mem _ (List.mem_cons_of_mem _ hw))) (hat w hw)
  have hk' : (Cond.classLink own ik cls).before args s' = true := vx_ot_at hW0 hvm.symm (hgood _ List.mem_cons_self) hk
  have hini' : (Cond.initialized cls).before args s' = true := vx_ot_at hW0 hvm.symm (hgood _ (List.mem_cons_of_mem _ List.mem_cons_self)) hini
  have hU' : vx_Zq Bundle.tN "UNASSIGNED_STACK" Bundle.steD A s' s'.heap := by rw [hhp]; exact vx_Zq.moved hW0.alike (hU.kept hS.2.1)
  have hN' : vx_Zq Bundle.tN "SUPPRESSED_SENTINEL" Bundle.listD A s' s'.heap := by rw [hhp]; exact vx_Zq.moved hW0.alike (hN.kept hS.2.1)
  have h : ∀ w ∈ Bundle.ownAtoms own ic cls names, w.before args s' = true := vx_own hat' (vx_isRefq hU'.1) (vx_isRefq hN'.1) hU'.2.word hN'.2.word
  have hown' : s'.vm.findClass own = some m.cls := by rw [hvm]; exact hown
  have hins : (Cond.instantiable cls 6).before args s' = true := h _ (by simp [Bundle.ownAtoms])
  obtain ⟨vm₁, cX, kX, hfX, hkX, -, -, X₁, st1⟩ := Y.newCold hexec (own := own) (C := cls) (index := ik) (n := 6) hown' hk' hins hini'
    (g := F0 m pc ls rest) rfl (by rw [hb]; exact d0) (Nat.le_refl _) (Nat.le_refl _)
  generalize hT1 : (T.setVm vm₁).pushCell { cls := cX, slots := kX.instanceTypes.map defaultValue, vm := .none } = T1 at X₁ st1
  have hcat : (Value.ref T.heap.size).category = 1 := rfl
  have hcellA : T1.heap[T.heap.size]? = some (freshCell cX kX) := by rw [← hT1]; exact State.heap_pushCell_size _ _
  have d3' : decode c.code (pc + 3) = .ok (.dup, 1) := by rw [hb]; exact d3
  have d4' : decode c.code (pc + 4) = .ok (.ldc is, 2) := by rw [hb]; exact d4
  have hstr' : vk_R own is text sa s' := vk_R.warm hW0 hstr
  obtain ⟨U, hsteps, hrun, hend, hW, hsame, ce, hce, hO⟩ := X₁.ctorThrowS hexec htr (own := own) (cls := cls) (names := names) (ic := ic) hown' hcls hnames h (fun x hx => nomatch hx) hfX hkX hcellA (by rw [hhp, hT]; exact Nat.le_refl _) (msg := .ref sa) rfl
    (g := { method := m, pc := pc + 6, locals := ls, stack := .ref sa :: .ref T.heap.size :: .ref T.heap.size :: rest, locked := none }) rfl hsize rfl rfl (rest := rest) rfl
    (by rw [hb]; exact d6) (by rw [hb]; exact d9) hout hRframes (by simp only [List.map_cons, List.sum_cons, hcat]; omega) hlocks
  obtain ⟨f1, f2⟩ := vx_frame hsame
  rw [hhp] at f1 f2
  have hWs : s.WarmedH U.vm := State.WarmedH.trans hW0 hW
  have hcl : s.vm.findClass cls = some ce.cls := by
    have h9 := hO.cls
    rw [hvm] at h9
    exact h9
  have hall : s.sameButNew ({ U with vm := s.vm } : State) locs mc ms := by
    subst hA
    obtain ⟨e1, e2⟩ := hsame
    rw [State.setFrames_setFrames] at e1
    have h2 : (T.setVm s.vm).sameButNew ({ U with vm := s.vm } : State) [] (0 + 1) (0 + 6) := ⟨e1, e2⟩
    have h3 := X.same.trans h2
    rw [List.append_nil] at h3
    exact h3.mono hc hs
  refine ⟨U, ?_, .threw T.heap.size, hrun, hend, Or.inr ⟨T.heap.size, rfl, cls, ce, locs, hx U hWs.alike f1 (fun q hq => f2 q hq (fun z hz => nomatch hz)), hce, hO.vm, hcl, hWs, hall, hf⟩⟩
  refine st1 _ ?_
  show Steps p.tables e below (T1.setTop { method := m, pc := pc + 3, locals := ls, stack := .ref T.heap.size :: rest, locked := none }) _
  jvm_step X₁.here [X₁.here.top, hexec, d3', Value.category]
  exact X₁.ldcString hexec (own := own) (text := text) (index := is) (a := sa) hown' hstr'.1 hstr'.2
    (g := { method := m, pc := pc + 4, locals := ls, stack := .ref T.heap.size :: .ref T.heap.size :: rest, locked := none }) rfl d4' _ hsteps
/-- 'throw new E("text")', the text by a wide index -/
theorem vx_throwSW {cc : ByteArray} {pc : Nat} (hexec : p.tables.exec = Jvm.exec) (hb : c.code = cc) (hl : l.stackTraces = false) {own cls text : String} {names : List String} {ik is ic mc ms sa : Nat} {A : Nat → Prop}
    (hown : s.vm.findClass own = some m.cls) (hcls : Bundle.fit cls = true) (hnames : ∀ n ∈ names, Bundle.fit n = true)
    (hk : (Cond.classLink own ik cls).before args s = true) (hini : (Cond.initialized cls).before args s = true) (hstr : vk_R own is text sa s) (hat : ∀ w ∈ vx_atS own ic cls names, w.before args s = true)
    (hgood : ∀ w ∈ Cond.classLink own ik cls :: Cond.initialized cls :: vx_atS own ic cls names, vx_ot w = true)
    (hU : vx_Zq Bundle.tN "UNASSIGNED_STACK" Bundle.steD A s s.heap) (hN : vx_Zq Bundle.tN "SUPPRESSED_SENTINEL" Bundle.listD A s s.heap) (hS : va_S A s.heap H locs) (hsize : ls.size = c.maxLocals)
    (d0 : decode cc pc = .ok (.new ik, 3)) (d3 : decode cc (pc + 3) = .ok (.dup, 1)) (d4 : decode cc (pc + 4) = .ok (.ldc_w is, 3)) (d7 : decode cc (pc + 7) = .ok (.invokespecial ic, 3)) (d10 : decode cc (pc + 10) = .ok (.athrow, 1))
    (hout : ∀ x ∈ c.exceptionTable.toList, covers x (pc + 10) = false)
    (hRframes : names.length + 3 < R.frames) (hRlocals : (rest.map fun v => v.category).sum + (13 * (names.length + 1) + 43) ≤ R.locals) (hRcells : cells + 1 ≤ R.cells) (hRslots : slots + 6 ≤ R.slots) (hlocks : meth.locks = false)
    (hx : ∀ t : State, s.vm.Alike t.vm → H.size ≤ t.heap.size → (∀ q : Nat, q < H.size → t.heap[q]? = H[q]?) → XC cls s t)
    (hf : ∀ z ∈ locs, free z.base) (hc : cells + 1 ≤ mc) (hs : slots + 6 ≤ ms) :
    W p l e R s m args below meth c H locs cells slots (vx_MQ below Qc XC args s mc ms free) (F0 m pc ls rest) := by
  intro T hT X
  have htr : e.platform.stackTraces = false := (show e.platform.stackTraces = l.stackTraces by rw [X.admits.platform]).trans hl
  have Y := vx_rebase X (R' := { frames := R.frames, locals := R.locals, cells := 1, slots := 6 }) (Nat.le_refl _) (Nat.le_refl _) hRcells hRslots
  obtain ⟨s', hA⟩ : ∃ z, z = (T.setVm s.vm).setFrames (.invoking m args :: below) := ⟨_, rfl⟩
  rw [← hA] at Y
  have hvm : s'.vm = s.vm := by rw [hA]; rfl
  have hhp : s'.heap = H := by rw [hA]; exact hT
  have hW0 : s.WarmedH s'.vm := by rw [hvm]; exact State.WarmedH.refl s
  have hat' : ∀ w ∈ vx_atS own ic cls names, w.before args s' = true := fun w hw => vx_ot_at hW0 hvm.symm (hgood w (List.mem_cons_of_mem _ (List.mem_cons_of_mem _ hw))) (hat w hw)
  have hk' : (Cond.classLink own ik cls).before args s' = true := vx_ot_at hW0 hvm.symm (hgood _ List.mem_cons_self) hk
  have hini' : (Cond.initialized cls).before args s' = true := vx_ot_at hW0 hvm.symm (hgood _ (List.mem_cons_of_mem _ List.mem_cons_self)) hini
  have hU' : vx_Zq Bundle.tN "UNASSIGNED_STACK" Bundle.steD A s' s'.heap := by rw [hhp]; exact vx_Zq.moved hW0.alike (hU.kept hS.2.1)
  have hN' : vx_Zq Bundle.tN "SUPPRESSED_SENTINEL" Bundle.listD A s' s'.heap := by rw [hhp]; exact vx_Zq.moved hW0.alike (hN.kept hS.2.1)
  have h : ∀ w ∈ Bundle.ownAtoms own ic cls names, w.before args s' = true := vx_own hat' (vx_isRefq hU'.1) (vx_isRefq hN'.1) hU'.2.word hN'.2.word
  have hown' : s'.vm.findClass own = some m.cls := by rw [hvm]; exact hown
  have hins : (Cond.instantiable cls 6).before args s' = true := h _ (by simp [Bundle.ownAtoms])
  obtain ⟨vm₁, cX, kX, hfX, hkX, -, -, X₁, st1⟩ := Y.newCold hexec (own := own) (C := cls) (index := ik) (n := 6) hown' hk' hins hini'
    (g := F0 m pc ls rest) rfl (by rw [hb]; exact d0) (Nat.le_refl _) (Nat.le_refl _)
  generalize hT1 : (T.setVm vm₁).pushCell { cls := cX, slots := kX.instanceTypes.map defaultValue, vm := .none } = T1 at X₁ st1
  have hcat : (Value.ref T.heap.size).category = 1 := rfl
  have hcellA : T1.heap[T.heap.size]? = some (freshCell cX kX) := by rw [← hT1]; exact State.heap_pushCell_size _ _
  have d3' : decode c.code (pc + 3) = .ok (.dup, 1) := by rw [hb]; exact d3
  have d4' : decode c.code (pc + 4) = .ok (.ldc_w is, 3) := by rw [hb]; exact d4
  have hstr' : vk_R own is text sa s' := vk_R.warm hW0 hstr
  obtain ⟨U, hsteps, hrun, hend, hW, hsame, ce, hce, hO⟩ := X₁.ctorThrowS hexec htr (own := own) (cls := cls) (names := names) (ic := ic) hown' hcls hnames h (fun x hx => nomatch hx) hfX hkX hcellA (by rw [hhp, hT]; exact Nat.le_refl _) (msg := .ref sa) rfl
    (g := { method := m, pc := pc + 7, locals := ls, stack := .ref sa :: .ref T.heap.size :: .ref T.heap.size :: rest, locked := none }) rfl hsize rfl rfl (rest := rest) rfl
    (by rw [hb]; exact d7) (by rw [hb]; exact d10) hout hRframes (by simp only [List.map_cons, List.sum_cons, hcat]; omega) hlocks
  obtain ⟨f1, f2⟩ := vx_frame hsame
  rw [hhp] at f1 f2
  have hWs : s.WarmedH U.vm := State.WarmedH.trans hW0 hW
  have hcl : s.vm.findClass cls = some ce.cls := by
    have h9 := hO.cls
    rw [hvm] at h9
    exact h9
  have hall : s.sameButNew ({ U with vm := s.vm } : State) locs mc ms := by
    subst hA
    obtain ⟨e1, e2⟩ := hsame
    rw [State.setFrames_setFrames] at e1
    have h2 : (T.setVm s.vm).sameButNew ({ U with vm := s.vm } : State) [] (0 + 1) (0 + 6) := ⟨e1, e2⟩
    have h3 := X.same.trans h2
    rw [List.append_nil] at h3
    exact h3.mono hc hs
  refine ⟨U, ?_, .threw T.heap.size, hrun, hend, Or.inr ⟨T.heap.size, rfl, cls, ce, locs, hx U hWs.alike f1 (fun q hq => f2 q hq (fun z hz => nomatch hz)), hce, hO.vm, hcl, hWs, hall, hf⟩⟩
  refine st1 _ ?_
  show Steps p.tables e below (T1.setTop { method := m, pc := pc + 3, locals := ls, stack := .ref T.heap.size :: rest, locked := none }) _
  jvm_step X₁.here [X₁.here.top, hexec, d3', Value.category]
  exact X₁.ldcStringW hexec (own := own) (text := text) (index := is) (a := sa) hown' hstr'.1 hstr'.2
    (g := { method := m, pc := pc + 4, locals := ls, stack := .ref T.heap.size :: .ref T.heap.size :: rest, locked := none }) rfl d4' _ hsteps
end Ends
section Bodies
variable {l : Launch}
theorem vx_ofW {y : MethodName} {ws ws' : List Cond} {rm : Room} {Pc : Array Value → State → Prop} {Qc : Array Value → State → Outcome → State → Prop} {XC : String → State → State → Prop} {mc ms : Nat} {free : Addr → Prop} {cc : ByteArray} {maxL : Nat} {ret : Option FieldType}
    (hy : plainName y.cls = true) (hw : ws = Cond.code y cc maxL ret :: ws')
    (body : ∀ p e s m args below meth c s₁, BodyLoose p l y (headSpec ws rm) cc maxL ret e s m args below meth c s₁ → c.maxLocals = maxL → (∀ x ∈ c.exceptionTable.toList, False) → Pc args s →
      W p l e (headSpec ws rm).room s m args below meth c s.heap [] 0 0 (vx_MQ below Qc XC args s mc ms free) (entryFrame m args maxL)) : vx_Met l y ws rm Pc Qc XC mc ms free := by
  refine MetFree.of_bodyS (code := cc) (maxLocals := maxL) (ret := ret) hy ?_ ?_
  · intro args s m h hn
    obtain ⟨meth, c, h1, h2, h3, h4, h5, h6, -, -⟩ := Cond.code_spec hn (atoms_spec (ws := ws) h _ (by rw [hw]; exact List.mem_cons_self))
    exact ⟨meth, c, h1, h2, h3, h4, h5, h6⟩
  · intro p e s m args below meth c s₁ B hml hP _
    have hh0 : s₁.heap = s.heap := by rw [B.state]; rfl
    have ht : ∀ x ∈ c.exceptionTable.toList, False := by
      obtain ⟨meth9, c9, h1, h2, -, -, -, -, h7, -⟩ := Cond.code_spec B.named (atoms_spec (ws := ws) B.pre _ (by rw [hw]; exact List.mem_cons_self))
      cases Option.some.inj (h1.symm.trans B.method)
      cases Option.some.inj (h2.symm.trans (Stand.of_body B).code)
      intro x hx
      rw [Array.isEmpty_iff.mp h7] at hx
      cases hx
    obtain ⟨t, a1, o, b1, b2, b3⟩ := body p e s m args below meth c s₁ B hml ht hP s₁ hh0 (Stand.of_body B)
    exact ⟨t, o, a1, b1, b2, b3⟩
/-- the table of a body with handlers -/
theorem vx_table {p : Program} {x y : MethodName} {S : Spec} {cc bytes : ByteArray} {maxL maxL' : Nat} {ret ret' : Option FieldType} {e : Env} {s s₁ : State} {m : MethodId} {args : Array Value} {below : List Frame} {meth : Method} {c : Code} {hh : List (Nat × Nat × Nat × Nat)}
    (B : BodyLoose p l y S cc maxL ret e s m args below meth c s₁) (h : (Cond.codeWith y bytes maxL' ret' hh).before args s = true) : c.exceptionTable.toList = tableOf hh := by
  obtain ⟨m9, meth9, c9, hn9, h1, h2, -, -, h6, -⟩ := Cond.codeWith_spec h
  cases Option.some.inj (hn9.symm.trans B.named)
  cases Option.some.inj (h1.symm.trans B.method)
  cases Option.some.inj (h2.symm.trans (Stand.of_body B).code)
  rw [← h6, table_eq]
end Bodies
end VXA
/-! ===== END ===== -/
/-! ===== BEGIN a static call of a method with an exception table ===== -/
section VXS
variable {p : Program} {l : Launch} {e : Env} {R : Room} {s : State} {m : MethodId} {args : Array Value} {below : List Frame} {meth : Method} {c : Code} {T : State} {H : Heap} {locs : List Loc} {cells slots : Nat}
abbrev vx_CSW (R : Room) (s : State) (args : Array Value) (own : String) (index : Nat) (y : MethodName) (bytes : ByteArray) (maxL : Nat) (ret : Option FieldType) (hh : List (Nat × Nat × Nat × Nat)) (ws : List Cond) (rm : Room) (mc ms n : Nat) : Prop :=
  (rm.cells = mc ∧ rm.slots = ms ∧ rm.frames + 1 ≤ R.frames ∧ 8 + (maxL + 11) + rm.locals ≤ R.locals ∧ (∀ w ∈ ws, ∀ (a' : Array Value) (U : State), s.WarmedH U.vm → w.before a' U = true) ∧ Cond.codeWith y bytes maxL ret hh ∈ ws) ∧
  (Cond.codeWith y bytes maxL ret hh).before args s = true ∧ (Cond.initialized y.cls).before args s = true ∧ (y.cls ≠ "java/lang/invoke/MethodHandle" ∧ y.cls ≠ "java/lang/invoke/VarHandle") ∧
  (∀ sig, parseMethodDescriptor y.desc = some sig → n = sig.parameters.length) ∧ (Cond.methodLink own index y).before args s = true ∧ (Cond.static y).before args s = true
theorem vx_cwSW {own : String} {index maxL mc ms : Nat} {y : MethodName} {bytes : ByteArray} {ret : Option FieldType} {hh : List (Nat × Nat × Nat × Nat)} {Ts ws ws' : List Cond} {rm : Room} (n : Nat) (ht : ∀ w ∈ Ts, w.before args s = true) (hT : GoodIn Ts (va_wsS own index y ws)) (hw : ws = Cond.codeWith y bytes maxL ret hh :: ws') (hrc : rm.cells = mc) (hrs : rm.slots = ms)
    (hd : y.cls ≠ "java/lang/invoke/MethodHandle" ∧ y.cls ≠ "java/lang/invoke/VarHandle" ∧ (parseMethodDescriptor y.desc).map (fun d => d.parameters.length) = some n) (hR : rm.frames + 1 ≤ R.frames ∧ 8 + (maxL + 11) + rm.locals ≤ R.locals) :
    vx_CSW R s args own index y bytes maxL ret hh ws rm mc ms n := by
  have ok : ∀ w ∈ va_wsS own index y ws, w.before args s = true := fun w h => ht w (hT w h).1
  have hG : GoodIn Ts ws := fun w h => hT w (by unfold va_wsS; exact List.mem_append_right _ h)
  have hc : Cond.codeWith y bytes maxL ret hh ∈ ws := by rw [hw]; exact List.mem_cons_self
  refine ⟨⟨hrc, hrs, hR.1, hR.2, pay_in ht hG, hc⟩, ht _ (hG _ hc).1, ok _ (by simp [va_wsS]), ⟨hd.1, hd.2.1⟩, fun sig h => ?_, ok _ (by simp [va_wsS]), ok _ (by simp [va_wsS])⟩
  have h2 := hd.2.2
  rw [h] at h2
  exact (Option.some.inj h2).symm
theorem vx_callSW (X : Stand p l e R s m args below meth c T locs cells slots) (hexec : p.tables.exec = Jvm.exec) {own : String} {index : Nat} {y : MethodName} {bytes : ByteArray} {maxL : Nat} {ret : Option FieldType} {hh : List (Nat × Nat × Nat × Nat)}
    (hown : s.vm.findClass own = some m.cls) (hlink : (Cond.methodLink own index y).before args s = true) (hstat : (Cond.static y).before args s = true) (hinit : (Cond.initialized y.cls).before args s = true)
    (hcode : (Cond.codeWith y bytes maxL ret hh).before args s = true) (hy : y.cls ≠ "java/lang/invoke/MethodHandle" ∧ y.cls ≠ "java/lang/invoke/VarHandle")
    {W9 : Nat} {Pre : Pt → Array Value → Prop} {Post : Pt → Array Value → Option Value → Pt → Prop} (hK : Back l R p e below s args y 3 W9 Pre Post)
    {g : JFrame} (hg : g.method = m) (hsize : g.locals.size = c.maxLocals) {argsL rest : List Value} (hlen : ∀ sig, parseMethodDescriptor y.desc = some sig → argsL.length = sig.parameters.length)
    (hstack : g.stack = argsL.reverse ++ rest) (hW : 2 * g.monitorRoom + (rest.map fun v => v.category).sum ≤ W9) (hdg : decode c.code g.pc = .ok (.invokestatic index, 3))
    (hpre : ∀ vm₁, s.WarmedH vm₁ → Pre ⟨T.setVm vm₁, locs, cells, slots⟩ argsL.toArray) :
    ∃ (v : Option Value) (vm₁ : Vm) (B : Pt), s.WarmedH vm₁ ∧ Stand p l e R s m args below meth c B.U B.locs B.cells B.slots ∧ Post ⟨T.setVm vm₁, locs, cells, slots⟩ argsL.toArray v B ∧
      ∀ target, Steps p.tables e below (B.U.setTop { g with pc := g.pc + 3, stack := v.toList ++ rest }) target → Steps p.tables e below (T.setTop g) target := by
  obtain ⟨mk, methM, cM, hnamed, hmethM, -, -, -, -, -, -, hsigM⟩ := Cond.codeWith_spec hcode
  have hstatic : methM.isStatic = true := Cond.static_spec hnamed hmethM hstat
  obtain ⟨kP, hkP, -⟩ := className_of_methodNamed hnamed
  have hinitP : kP.init = .initialized := Cond.initialized_spec (findClass_of_methodNamed hnamed) hkP hinit
  obtain ⟨vm₁, X₁, hstep₁⟩ := X.invokestatic hexec hown hlink hnamed hmethM hstatic hkP hinitP hy (g := g) hg (argsL := argsL) (rest := rest) (hlen _ hsigM) hstack hdg
  obtain ⟨v, B, X', hpost, hsteps⟩ := hK m meth c ⟨T.setVm vm₁, locs, cells, slots⟩ { g with stack := rest } (.invokestatic index) mk argsL.toArray X₁ hg hsize hdg hW (X₁.named hnamed) (hpre vm₁ X₁.warmed)
  exact ⟨v, vm₁, B, X₁.warmed, X', hpost, fun target h => hstep₁ _ fun acts => by rw [doInvoke_state]; exact hsteps.trans h⟩
theorem vx_runSW {y : MethodName} {bytes cc : ByteArray} {maxL nL mc ms n index : Nat} {ret : Option FieldType} {hh : List (Nat × Nat × Nat × Nat)} {ws : List Cond} {rm : Room} {Pc : Array Value → State → Prop} {Qc : Array Value → State → Outcome → State → Prop} {free : Addr → Prop} {Ts : List Cond} {own : String} {As rest : List Value} {g : JFrame}
    (S : CallFix p m c cc nL s args Ts own) (hM : Met l y ws rm Pc Qc mc ms free) (cw : vx_CSW R s args own index y bytes maxL ret hh ws rm mc ms n) (hp : PreS s H Pc As)
    (hg : g.method = m) (hn : As.length = n) (hsize : g.locals.size = nL) (hstack : g.stack = As.reverse ++ rest) (hW : 2 * g.monitorRoom + (rest.map fun v => v.category).sum ≤ 8) (hdg : decode cc g.pc = .ok (.invokestatic index, 3)) (hf : cells + mc ≤ R.cells ∧ slots + ms ≤ R.slots) :
    va_Run p l e R s m args below meth c H locs cells slots mc ms g rest (Qc As.toArray) (free) := by
  obtain ⟨⟨hrc, hrs, hfr, hlo, hws, hcw⟩, hcode, hini, hy, hlen, hl, hstt⟩ := cw
  have hK : Back l R p e below s args y 3 8 (PreOf R mc ms Pc) (PostOf Qc mc ms free) := va_backW (hh := hh) (bytes := bytes) (maxL := maxL) (ret := ret) hM hp.1 hrc hrs hfr hlo hws hcw (fun a' U hW => word_at hW (Or.inl (by first | rfl | simp [Cond.onTables, Cond.keeps, Cond.steady])) hini)
  obtain ⟨hx, hb, hml, ho, -⟩ := S
  intro T hT X
  obtain ⟨v, vm₁, ⟨U', l2, c2, s2⟩, hW₁, X', ⟨g', mk, t, L, e1, e2, hq, h1, hL, h2, h3⟩, st⟩ := vx_callSW X hx (hh := hh) (bytes := bytes) (maxL := maxL) (ret := ret) ho hl hstt hini hcode hy hK hg (hsize.trans hml.symm) (argsL := As) (rest := rest) (fun sig h => hn.trans (hlen sig h)) hstack hW (by rw [hb]; exact hdg)
    (fun vm₁ hW₁ => ⟨hf.1, hf.2, hp.2 (T.setVm vm₁) hT hW₁⟩)
  dsimp only [Pt.U, Pt.locs, Pt.cells, Pt.slots] at X' e1 e2 h1 h2 h3 st
  subst h1; subst h2; subst h3
  exact ⟨v, (T.setVm vm₁).calling g' mk As.toArray, t, U', L, hT, X', hL, e1, e2, hq, st⟩
/-- not caught here, past rows that name other classes: it goes on to the caller -/
theorem vx_outP {p : Program} {l : Launch} {e : Env} {R : Room} {s : State} {m : MethodId} {args : Array Value} {below : List Frame} {meth : Method} {c : Code} {H : Heap} {locs : List Loc} {cells slots : Nat} {free : Addr → Prop} {ls : Array Slot} {rest : List Value} {Qc : Array Value → State → Outcome → State → Prop} {XC : String → State → State → Prop}
    {pc : Nat} {own E : String} {ce : Cell} {q : Addr} {mc ms : Nat} (hown : s.vm.findClass own = some m.cls) (hlocks : meth.locks = false)
    (hpass : ∀ z ∈ c.exceptionTable.toList, covers z pc = false ∨ (z.catchType ≠ 0 ∧ ∃ nm : String, (Cond.classLink own z.catchType nm).before args s = true ∧ va_Nc E nm s)) (hcell : H[q]? = some ce) (hv : ce.vm = .none) (hcl : s.vm.findClass E = some ce.cls)
    (hx : ∀ t : State, t.heap = H → s.vm.Alike t.vm → XC E s t) (hf : ∀ z ∈ locs, free z.base) (hc : cells ≤ mc) (hs : slots ≤ ms) :
    vx_W p l e R s m args below meth c H locs cells slots (vx_MQ below Qc XC args s mc ms free) (F0 m pc ls rest) q := by
  intro T hT X
  have hpl : e.platform.magicAccessors = ({} : Platform).magicAccessors := by rw [X.admits.platform]
  obtain ⟨vm', hW', X', st⟩ := X.outThrough hlocks q (g := F0 m pc ls rest) rfl rfl rfl (cell := ce) (by rw [hT]; exact hcell) (by rw [hv]; rfl)
    (by obtain ⟨k9, h9, -⟩ := Vm.findClass_spec hcl; exact ⟨k9, h9⟩) (fun z hz => by
      rcases hpass z hz with h | ⟨hz0, nm, hl1, hn1⟩
      · exact Or.inl h
      · obtain ⟨c6, hc6, hcl6⟩ := Cond.classLink_spec hown hl1 e.platform hpl
        obtain ⟨a8, b8, h1, h2, h3⟩ := hn1
        cases Option.some.inj (h1.symm.trans hcl)
        cases Option.some.inj (h2.symm.trans hc6)
        exact Or.inr ⟨hz0, _, hcl6, h3⟩)
  obtain ⟨g₀, hfr⟩ := X'.frames_eq
  have hcell9 : ((T.setVm vm').setFrames (.throwing q :: below)).heap[q]? = some ce := by
    show T.heap[q]? = some ce
    rw [hT]; exact hcell
  have hend : Ended ((T.setVm vm').setFrames (.throwing q :: below)) below (.threw q) := State.frames_setFrames _ (State.cur_lt_of_frames hfr)
  refine ⟨(T.setVm vm').setFrames (.throwing q :: below), ?_, .threw q, X'.here.running, hend, Or.inr ⟨q, rfl, E, ce, locs, hx _ hT (X'.ends _).1.alike, hcell9, hv, hcl, (X'.ends _).1, (X'.ends _).2.mono hc hs, hf⟩⟩
  rw [X.pushThrowing_eq]
  exact st
/-- a thing of a world lies in the heap -/
theorem vx_lt {D : va_G} {cl : List vw_C} {ws : va_W} {H1 : Heap} (h : va_P D cl ws H1) {k : Nat} {q : Nat × va_E} (hk : ws[k]? = some q) : q.1 < H1.size := (h k q hk).lt
end VXS
/-! ===== END ===== -/
/-! ===== BEGIN methods with a table of their own: called by a name, returning or throwing ===== -/
section VXH
/-! vx_backW, vx_callVX, vx_callSX, vx_callVW, vx_runVW, vx_runVX, vx_runSX, vx_ofWH follow the same proofs as their sisters above (Free/Laws.lean, Shelf42/LK1.lean); vx_outP calls Shelf42/NT130.lean (outThrough). -/
section
variable {l : Launch} {R : Room} {p : Program} {e : Env} {below : List Frame} {s : State} {sargs : Array Value} {y : MethodName} {len W9 : Nat}
theorem vx_backW {ws : List Cond} {rm : Room} {Pc : Array Value → State → Prop} {Qc : Array Value → State → Outcome → State → Prop} {XC : String → State → State → Prop} {mc ms : Nat} {free : Addr → Prop} {bytes : ByteArray} {maxL : Nat} {ret : Option FieldType} {hh : List (Nat × Nat × Nat × Nat)}
    (hM : vx_Met l y ws rm Pc Qc XC mc ms free) (hblind : FrameBlind Pc) (hrc : rm.cells = mc) (hrs : rm.slots = ms)
    (hframes : rm.frames + 1 ≤ R.frames) (hlocals : W9 + (maxL + 11) + rm.locals ≤ R.locals)
    (hws : ∀ w ∈ ws, ∀ a' U, s.WarmedH U.vm → w.before a' U = true) (hcode : Cond.codeWith y bytes maxL ret hh ∈ ws) (hinit : ∀ a' U, s.WarmedH U.vm → (Cond.initialized y.cls).before a' U = true) :
    vx_Back l R p e below s sargs y len W9 (PreOf R mc ms Pc) (PostOf Qc mc ms free) (vx_Post XC mc ms free) := by
  intro m meth c A g ig mk a X hg hsize hdg hW hn hp
  have h1 : (headSpec ws rm).pre.before a A.U = true := atoms_intro fun w hw => hws w hw _ _ X.warmed
  have h2 : (Cond.codeWith y bytes maxL ret hh).before a A.U = true := hws _ hcode _ _ X.warmed
  have h3 : (Cond.initialized y.cls).before a A.U = true := hinit _ _ X.warmed
  have h4 : A.cells + (headSpec ws rm).room.cells ≤ R.cells := by rw [show (headSpec ws rm).room.cells = mc from hrc]; exact hp.1
  have h5 : A.slots + (headSpec ws rm).room.slots ≤ R.slots := by rw [show (headSpec ws rm).room.slots = ms from hrs]; exact hp.2.1
  have hPc : Pc a (A.U.calling g mk a) := hblind _ _ _ _ hp.2.2
  obtain ⟨U, Ls, c0, s0⟩ := A
  dsimp only [Pt.U, Pt.locs, Pt.cells, Pt.slots] at h1 h2 h3 h4 h5 X hn hPc ⊢
  obtain ⟨m9, methY, cY, hn9, hmY, hcY, -, hlY, -⟩ := Cond.codeWith_spec h2
  cases Option.some.inj (hn9.symm.trans hn)
  obtain ⟨kY, hkY, -⟩ := className_of_methodNamed hn
  have hinitY : kY.init = .initialized := Cond.initialized_spec (findClass_of_methodNamed hn) hkY h3
  have h : At U g.method c below := by rw [hg]; exact X.here
  have hlocals9 : W9 + (maxL + 11) + (headSpec ws rm).room.locals ≤ R.locals := hlocals
  have happ : (headSpec ws rm).appliesLoose y e.platform (U.calling g mk a) = true :=
    Spec.appliesLoose_calling (g := g) h hdg hn hkY hinitY
      (X.room_calling (g := g) (R' := (headSpec ws rm).room) hsize hmY hcY hframes (by rw [hlY]; omega) h4 h5) h1
  obtain ⟨mid, hmid⟩ := h.above
  have hfr : (U.setTop g).frames = (.java g :: mid) ++ below := by rw [State.frames_setTop' g h.top, hmid]; rfl
  obtain ⟨o, s₂, hsteps, -, hend, hq⟩ := Steps.callFree hM p X.admits X.cas X.clock (acts := []) hfr happ hPc trivial
  have hq' : vx_Q Qc XC mc ms free a (U.calling g mk a) o s₂ := hq
  rw [State.frames_setTop' g h.top] at hend
  obtain ⟨g₀, hg0⟩ := Option.isSome_iff_exists.mp h.top
  obtain ⟨r, hr⟩ := State.topJava?_eq_some.mp hg0
  have hr' : (({ U with heap := s₂.heap, slotsUsed := s₂.slotsUsed } : State).setVm s₂.vm).frames = .java g₀ :: r := hr
  rcases hq' with ⟨hqc, L, hfe, hL⟩ | ⟨q, rfl, E, ce, L, hx, hce, hcv, hcl, hW₂, hsm, hL⟩
  · obtain ⟨⟨v, rfl⟩, hW₂, e2, q2, q3, q4, q5, q6⟩ := id hfe
    have e3 : s₂ = ({ (U.calling g mk a).setFrames s₂.frames with heap := s₂.heap, slotsUsed := s₂.slotsUsed } : State).setVm s₂.vm := by
      have : s₂ = ({ s₂ with vm := (U.calling g mk a).vm } : State).setVm s₂.vm := rfl
      rw [e2] at this
      exact this
    obtain ⟨c₂, i₂, len₂, hc₂, hd₂, hf₂⟩ := hend
    have hW' : U.WarmedH s₂.vm := hW₂
    have hcc : c₂ = c := by
      have h1 : s₂.code? g.method = U.code? g.method := by
        rw [State.code?_eq, State.code?_eq, hW'.alike.method?]
      exact Option.some.inj (hc₂.symm.trans (h1.trans h.code))
    subst hcc
    have hlen : len₂ = len := by rw [hdg] at hd₂; cases hd₂; rfl
    subst hlen
    have hs₂ : s₂ = (({ U with heap := s₂.heap, slotsUsed := s₂.slotsUsed } : State).setVm s₂.vm).setTop { g with pc := g.pc + len₂, stack := v.toList ++ g.stack } := by
      refine e3.trans ?_
      rw [hf₂, State.calling_eq h.top, State.setFrames_setFrames, State.setTop_of_frames _ hr', hr]
      rfl
    have hsame : U.sameButNew ({ U with heap := s₂.heap, slotsUsed := s₂.slotsUsed } : State) L mc ms := by
      refine ⟨?_, q2, q3, q4, q5, q6⟩
      obtain ⟨t, ht, -⟩ := State.frames_cons hr
      show ({ U with heap := s₂.heap, slotsUsed := s₂.slotsUsed } : State) = { U.setFrames U.frames with heap := s₂.heap, slotsUsed := s₂.slotsUsed }
      rw [State.setFrames_self ht]
    subst hg
    refine Or.inl ⟨v, ⟨(({ U with heap := s₂.heap, slotsUsed := s₂.slotsUsed } : State).setVm s₂.vm), Ls ++ L, c0 + mc, s0 + ms⟩,
      ⟨X.admits, X.cas, X.clock, X.frames, X.room, X.hears, X.method, X.code, (X.here.setHeapUsed s₂.heap s₂.slotsUsed).setVm hW'.alike, X.tail, State.WarmedH.trans X.warmed hW', X.limits, X.bytes, X.same.trans (hsame.setVm s.vm)⟩,
      ⟨g, mk, s₂, L, rfl, rfl, hqc, rfl, hL, rfl, rfl⟩, ?_⟩
    show Steps p.tables e below _ ((({ U with heap := s₂.heap, slotsUsed := s₂.slotsUsed } : State).setVm s₂.vm).setTop { g with pc := g.pc + len₂, stack := v.toList ++ g.stack })
    rw [← hs₂]
    exact hsteps
  · obtain ⟨e2, q2, q3, q4, q5, q6⟩ := id hsm
    have e3 : s₂ = ({ (U.calling g mk a).setFrames s₂.frames with heap := s₂.heap, slotsUsed := s₂.slotsUsed } : State).setVm s₂.vm := by
      have : s₂ = ({ s₂ with vm := (U.calling g mk a).vm } : State).setVm s₂.vm := rfl
      rw [e2] at this
      exact this
    have hf₂ : s₂.frames = .throwing q :: .java g :: U.frames.tail := hend
    have hW' : U.WarmedH s₂.vm := hW₂
    have hs₂ : s₂ = ((({ U with heap := s₂.heap, slotsUsed := s₂.slotsUsed } : State).setVm s₂.vm).setTop g).pushFrame (.throwing q) := by
      refine e3.trans ?_
      rw [hf₂, State.calling_eq h.top, State.setFrames_setFrames, State.pushFrame, State.frames_setTop _ hr', State.setTop_of_frames _ hr', State.setFrames_setFrames, hr]
      rfl
    have hsame : U.sameButNew ({ U with heap := s₂.heap, slotsUsed := s₂.slotsUsed } : State) L mc ms := by
      refine ⟨?_, q2, q3, q4, q5, q6⟩
      obtain ⟨t, ht, -⟩ := State.frames_cons hr
      show ({ U with heap := s₂.heap, slotsUsed := s₂.slotsUsed } : State) = { U.setFrames U.frames with heap := s₂.heap, slotsUsed := s₂.slotsUsed }
      rw [State.setFrames_self ht]
    subst hg
    refine Or.inr ⟨q, ⟨(({ U with heap := s₂.heap, slotsUsed := s₂.slotsUsed } : State).setVm s₂.vm), Ls ++ L, c0 + mc, s0 + ms⟩,
      ⟨X.admits, X.cas, X.clock, X.frames, X.room, X.hears, X.method, X.code, (X.here.setHeapUsed s₂.heap s₂.slotsUsed).setVm hW'.alike, X.tail, State.WarmedH.trans X.warmed hW', X.limits, X.bytes, X.same.trans (hsame.setVm s.vm)⟩,
      ⟨g, mk, s₂, L, E, ce, rfl, rfl, hx, hce, hcv, hcl, rfl, hL, rfl, rfl⟩, ?_⟩
    show Steps p.tables e below _ (((({ U with heap := s₂.heap, slotsUsed := s₂.slotsUsed } : State).setVm s₂.vm).setTop g).pushFrame (.throwing q))
    rw [← hs₂]
    exact hsteps
end
variable {p : Program} {l : Launch} {e : Env} {R : Room} {s : State} {m : MethodId} {args : Array Value} {below : List Frame} {meth : Method} {c : Code} {T : State} {H : Heap} {locs : List Loc} {cells slots : Nat}
theorem vx_callVX (X : Stand p l e R s m args below meth c T locs cells slots) (hexec : p.tables.exec = Jvm.exec) {own C : String} {index : Nat} {y : MethodName} {bytes : ByteArray} {maxL : Nat} {ret : Option FieldType} {hh : List (Nat × Nat × Nat × Nat)}
    (hown : s.vm.findClass own = some m.cls) (hlink : (Cond.methodLink own index y).before args s = true) (hinst : (Cond.instanceMethod y).before args s = true) (hsel : (Cond.selects C y y).before args s = true)
    (hcode : (Cond.codeWith y bytes maxL ret hh).before args s = true) (hy : y.cls ≠ "java/lang/invoke/MethodHandle" ∧ y.cls ≠ "java/lang/invoke/VarHandle")
    {W9 : Nat} {Pre : Pt → Array Value → Prop} {Post : Pt → Array Value → Option Value → Pt → Prop} {PostX : Pt → Array Value → Addr → Pt → Prop} (hK : vx_Back l R p e below s args y 3 W9 Pre Post PostX)
    {b : Addr} {cellB : Cell} (hcell : T.heap[b]? = some cellB) (hobj : cellB.vm.isStatics = false) (hcls : s.vm.findClass C = some cellB.cls)
    {g : JFrame} (hg : g.method = m) (hsize : g.locals.size = c.maxLocals) {argsL rest : List Value} (hlen : ∀ sig, parseMethodDescriptor y.desc = some sig → argsL.length = sig.parameters.length)
    (hstack : g.stack = argsL.reverse ++ .ref b :: rest) (hW : 2 * g.monitorRoom + (rest.map fun v => v.category).sum ≤ W9) (hdg : decode c.code g.pc = .ok (.invokevirtual index, 3))
    (hpre : ∀ vm₁, s.WarmedH vm₁ → Pre ⟨T.setVm vm₁, locs, cells, slots⟩ (Value.ref b :: argsL).toArray) :
    (∃ (v : Option Value) (vm₁ : Vm) (B : Pt), s.WarmedH vm₁ ∧ Stand p l e R s m args below meth c B.U B.locs B.cells B.slots ∧ Post ⟨T.setVm vm₁, locs, cells, slots⟩ (Value.ref b :: argsL).toArray v B ∧
      ∀ target, Steps p.tables e below (B.U.setTop { g with pc := g.pc + 3, stack := v.toList ++ rest }) target → Steps p.tables e below (T.setTop g) target) ∨
    (∃ (q : Addr) (vm₁ : Vm) (B : Pt), s.WarmedH vm₁ ∧ Stand p l e R s m args below meth c B.U B.locs B.cells B.slots ∧ PostX ⟨T.setVm vm₁, locs, cells, slots⟩ (Value.ref b :: argsL).toArray q B ∧
      Steps p.tables e below (T.setTop g) ((B.U.setTop { g with stack := rest }).pushFrame (.throwing q))) := by
  obtain ⟨mk, methM, hnamed, hmethM, hstM, habM⟩ := Cond.instanceMethod_spec hinst
  obtain ⟨m8, methM', cM, hn8, hmethM', -, -, -, -, -, -, hsigM⟩ := Cond.codeWith_spec hcode
  cases Option.some.inj (hn8.symm.trans hnamed)
  cases hmethM.symm.trans hmethM'
  obtain ⟨c2, r2, m2, q1, q2, q3, q4, kP, hkP, hkPi⟩ := Cond.selects_spec hsel
  cases hcls.symm.trans q1
  cases (State.methodFound?_of_named hnamed hy).symm.trans q2
  cases hnamed.symm.trans q3
  have hselP : selectMethod e.platform s.vm cellB.cls mk = .method mk := by rw [Launch.admits_selectMethod X.admits]; exact q4
  obtain ⟨vm₁, X₁, hstep₁⟩ := X.invokevirtual hexec hown hlink hnamed hmethM hstM hkP hkPi hy (a := b) (cell := cellB) hcell
    (fun z h => by rw [h] at hobj; cases hobj) hselP hmethM habM hkP hkPi (g := g) hg (argsL := argsL) (rest := rest) (hlen _ hsigM) hstack hdg
  rcases hK m meth c ⟨T.setVm vm₁, locs, cells, slots⟩ { g with stack := rest } (.invokevirtual index) mk (Value.ref b :: argsL).toArray X₁ hg hsize hdg hW (X₁.named hnamed) (hpre vm₁ X₁.warmed) with ⟨v, B, X', hpost, hsteps⟩ | ⟨q, B, X', hpost, hsteps⟩
  · exact Or.inl ⟨v, vm₁, B, X₁.warmed, X', hpost, fun target h => hstep₁ _ fun acts => by rw [doInvoke_state]; exact hsteps.trans h⟩
  · exact Or.inr ⟨q, vm₁, B, X₁.warmed, X', hpost, hstep₁ _ fun acts => by rw [doInvoke_state]; exact hsteps⟩
theorem vx_callSX (X : Stand p l e R s m args below meth c T locs cells slots) (hexec : p.tables.exec = Jvm.exec) {own : String} {index : Nat} {y : MethodName} {bytes : ByteArray} {maxL : Nat} {ret : Option FieldType} {hh : List (Nat × Nat × Nat × Nat)}
    (hown : s.vm.findClass own = some m.cls) (hlink : (Cond.methodLink own index y).before args s = true) (hstat : (Cond.static y).before args s = true) (hinit : (Cond.initialized y.cls).before args s = true)
    (hcode : (Cond.codeWith y bytes maxL ret hh).before args s = true) (hy : y.cls ≠ "java/lang/invoke/MethodHandle" ∧ y.cls ≠ "java/lang/invoke/VarHandle")
    {W9 : Nat} {Pre : Pt → Array Value → Prop} {Post : Pt → Array Value → Option Value → Pt → Prop} {PostX : Pt → Array Value → Addr → Pt → Prop} (hK : vx_Back l R p e below s args y 3 W9 Pre Post PostX)
    {g : JFrame} (hg : g.method = m) (hsize : g.locals.size = c.maxLocals) {argsL rest : List Value} (hlen : ∀ sig, parseMethodDescriptor y.desc = some sig → argsL.length = sig.parameters.length)
    (hstack : g.stack = argsL.reverse ++ rest) (hW : 2 * g.monitorRoom + (rest.map fun v => v.category).sum ≤ W9) (hdg : decode c.code g.pc = .ok (.invokestatic index, 3))
    (hpre : ∀ vm₁, s.WarmedH vm₁ → Pre ⟨T.setVm vm₁, locs, cells, slots⟩ argsL.toArray) :
    (∃ (v : Option Value) (vm₁ : Vm) (B : Pt), s.WarmedH vm₁ ∧ Stand p l e R s m args below meth c B.U B.locs B.cells B.slots ∧ Post ⟨T.setVm vm₁, locs, cells, slots⟩ argsL.toArray v B ∧
      ∀ target, Steps p.tables e below (B.U.setTop { g with pc := g.pc + 3, stack := v.toList ++ rest }) target → Steps p.tables e below (T.setTop g) target) ∨
    (∃ (q : Addr) (vm₁ : Vm) (B : Pt), s.WarmedH vm₁ ∧ Stand p l e R s m args below meth c B.U B.locs B.cells B.slots ∧ PostX ⟨T.setVm vm₁, locs, cells, slots⟩ argsL.toArray q B ∧
      Steps p.tables e below (T.setTop g) ((B.U.setTop { g with stack := rest }).pushFrame (.throwing q))) := by
  obtain ⟨mk, methM, cM, hnamed, hmethM, -, -, -, -, -, -, hsigM⟩ := Cond.codeWith_spec hcode
  have hstatic : methM.isStatic = true := Cond.static_spec hnamed hmethM hstat
  obtain ⟨kP, hkP, -⟩ := className_of_methodNamed hnamed
  have hinitP : kP.init = .initialized := Cond.initialized_spec (findClass_of_methodNamed hnamed) hkP hinit
  obtain ⟨vm₁, X₁, hstep₁⟩ := X.invokestatic hexec hown hlink hnamed hmethM hstatic hkP hinitP hy (g := g) hg (argsL := argsL) (rest := rest) (hlen _ hsigM) hstack hdg
  rcases hK m meth c ⟨T.setVm vm₁, locs, cells, slots⟩ { g with stack := rest } (.invokestatic index) mk argsL.toArray X₁ hg hsize hdg hW (X₁.named hnamed) (hpre vm₁ X₁.warmed) with ⟨v, B, X', hpost, hsteps⟩ | ⟨q, B, X', hpost, hsteps⟩
  · exact Or.inl ⟨v, vm₁, B, X₁.warmed, X', hpost, fun target h => hstep₁ _ fun acts => by rw [doInvoke_state]; exact hsteps.trans h⟩
  · exact Or.inr ⟨q, vm₁, B, X₁.warmed, X', hpost, hstep₁ _ fun acts => by rw [doInvoke_state]; exact hsteps⟩
theorem vx_callVW (X : Stand p l e R s m args below meth c T locs cells slots) (hexec : p.tables.exec = Jvm.exec) {own C : String} {index : Nat} {y : MethodName} {bytes : ByteArray} {maxL : Nat} {ret : Option FieldType} {hh : List (Nat × Nat × Nat × Nat)}
    (hown : s.vm.findClass own = some m.cls) (hlink : (Cond.methodLink own index y).before args s = true) (hinst : (Cond.instanceMethod y).before args s = true) (hsel : (Cond.selects C y y).before args s = true)
    (hcode : (Cond.codeWith y bytes maxL ret hh).before args s = true) (hy : y.cls ≠ "java/lang/invoke/MethodHandle" ∧ y.cls ≠ "java/lang/invoke/VarHandle")
    {W9 : Nat} {Pre : Pt → Array Value → Prop} {Post : Pt → Array Value → Option Value → Pt → Prop} (hK : Back l R p e below s args y 3 W9 Pre Post)
    {b : Addr} {cellB : Cell} (hcell : T.heap[b]? = some cellB) (hobj : cellB.vm.isStatics = false) (hcls : s.vm.findClass C = some cellB.cls)
    {g : JFrame} (hg : g.method = m) (hsize : g.locals.size = c.maxLocals) {argsL rest : List Value} (hlen : ∀ sig, parseMethodDescriptor y.desc = some sig → argsL.length = sig.parameters.length)
    (hstack : g.stack = argsL.reverse ++ .ref b :: rest) (hW : 2 * g.monitorRoom + (rest.map fun v => v.category).sum ≤ W9) (hdg : decode c.code g.pc = .ok (.invokevirtual index, 3))
    (hpre : ∀ vm₁, s.WarmedH vm₁ → Pre ⟨T.setVm vm₁, locs, cells, slots⟩ (Value.ref b :: argsL).toArray) :
    ∃ (v : Option Value) (vm₁ : Vm) (B : Pt), s.WarmedH vm₁ ∧ Stand p l e R s m args below meth c B.U B.locs B.cells B.slots ∧ Post ⟨T.setVm vm₁, locs, cells, slots⟩ (Value.ref b :: argsL).toArray v B ∧
      ∀ target, Steps p.tables e below (B.U.setTop { g with pc := g.pc + 3, stack := v.toList ++ rest }) target → Steps p.tables e below (T.setTop g) target := by
  obtain ⟨mk, methM, hnamed, hmethM, hstM, habM⟩ := Cond.instanceMethod_spec hinst
  obtain ⟨m8, methM', cM, hn8, hmethM', -, -, -, -, -, -, hsigM⟩ := Cond.codeWith_spec hcode
  cases Option.some.inj (hn8.symm.trans hnamed)
  cases hmethM.symm.trans hmethM'
  obtain ⟨c2, r2, m2, q1, q2, q3, q4, kP, hkP, hkPi⟩ := Cond.selects_spec hsel
  cases hcls.symm.trans q1
  cases (State.methodFound?_of_named hnamed hy).symm.trans q2
  cases hnamed.symm.trans q3
  have hselP : selectMethod e.platform s.vm cellB.cls mk = .method mk := by rw [Launch.admits_selectMethod X.admits]; exact q4
  obtain ⟨vm₁, X₁, hstep₁⟩ := X.invokevirtual hexec hown hlink hnamed hmethM hstM hkP hkPi hy (a := b) (cell := cellB) hcell
    (fun z h => by rw [h] at hobj; cases hobj) hselP hmethM habM hkP hkPi (g := g) hg (argsL := argsL) (rest := rest) (hlen _ hsigM) hstack hdg
  obtain ⟨v, B, X', hpost, hsteps⟩ := hK m meth c ⟨T.setVm vm₁, locs, cells, slots⟩ { g with stack := rest } (.invokevirtual index) mk (Value.ref b :: argsL).toArray X₁ hg hsize hdg hW (X₁.named hnamed) (hpre vm₁ X₁.warmed)
  exact ⟨v, vm₁, B, X₁.warmed, X', hpost, fun target h => hstep₁ _ fun acts => by rw [doInvoke_state]; exact hsteps.trans h⟩
abbrev vx_CVW (R : Room) (s : State) (args : Array Value) (own C : String) (index : Nat) (y : MethodName) (bytes : ByteArray) (maxL : Nat) (ret : Option FieldType) (hh : List (Nat × Nat × Nat × Nat)) (ws : List Cond) (rm : Room) (mc ms n : Nat) : Prop :=
  (rm.cells = mc ∧ rm.slots = ms ∧ rm.frames + 1 ≤ R.frames ∧ 8 + (maxL + 11) + rm.locals ≤ R.locals ∧ (∀ w ∈ ws, ∀ (a' : Array Value) (U : State), s.WarmedH U.vm → w.before a' U = true) ∧ Cond.codeWith y bytes maxL ret hh ∈ ws) ∧
  (Cond.codeWith y bytes maxL ret hh).before args s = true ∧ (Cond.initialized y.cls).before args s = true ∧ (y.cls ≠ "java/lang/invoke/MethodHandle" ∧ y.cls ≠ "java/lang/invoke/VarHandle") ∧
  (∀ sig, parseMethodDescriptor y.desc = some sig → n = sig.parameters.length) ∧ (Cond.methodLink own index y).before args s = true ∧ (Cond.instanceMethod y).before args s = true ∧ (Cond.selects C y y).before args s = true
theorem vx_cwVW {own C : String} {index maxL mc ms : Nat} {y : MethodName} {bytes : ByteArray} {ret : Option FieldType} {hh : List (Nat × Nat × Nat × Nat)} {Ts ws ws' : List Cond} {rm : Room} (n : Nat) (ht : ∀ w ∈ Ts, w.before args s = true) (hT : GoodIn Ts (wsV own index C y ws)) (hw : ws = Cond.codeWith y bytes maxL ret hh :: ws') (hrc : rm.cells = mc) (hrs : rm.slots = ms)
    (hd : y.cls = C ∧ y.cls ≠ "java/lang/invoke/MethodHandle" ∧ y.cls ≠ "java/lang/invoke/VarHandle" ∧ (parseMethodDescriptor y.desc).map (fun d => d.parameters.length) = some n) (hR : rm.frames + 1 ≤ R.frames ∧ 8 + (maxL + 11) + rm.locals ≤ R.locals) :
    vx_CVW R s args own C index y bytes maxL ret hh ws rm mc ms n := by
  obtain ⟨hC, hd⟩ := hd
  subst hC
  have ok : ∀ w ∈ wsV own index y.cls y ws, w.before args s = true := fun w h => ht w (hT w h).1
  have hG : GoodIn Ts ws := fun w h => hT w (by unfold wsV; exact List.mem_append_right _ h)
  have hc : Cond.codeWith y bytes maxL ret hh ∈ ws := by rw [hw]; exact List.mem_cons_self
  refine ⟨⟨hrc, hrs, hR.1, hR.2, pay_in ht hG, hc⟩, ht _ (hG _ hc).1, ok _ (by simp [wsV]), ⟨hd.1, hd.2.1⟩, fun sig h => ?_, ok _ (by simp [wsV]), ok _ (by simp [wsV]), ok _ (by simp [wsV])⟩
  have h2 := hd.2.2
  rw [h] at h2
  exact (Option.some.inj h2).symm
theorem vx_runVW {y : MethodName} {bytes cc : ByteArray} {maxL nL mc ms n index : Nat} {ret : Option FieldType} {hh : List (Nat × Nat × Nat × Nat)} {ws : List Cond} {rm : Room} {Pc : Array Value → State → Prop} {Qc : Array Value → State → Outcome → State → Prop} {free : Addr → Prop} {Ts : List Cond} {own C : String} {b : Addr} {As rest : List Value} {g : JFrame}
    (S : CallFix p m c cc nL s args Ts own) (hM : Met l y ws rm Pc Qc mc ms free) (cw : vx_CVW R s args own C index y bytes maxL ret hh ws rm mc ms n) (hp : PreV s H C b Pc As)
    (hg : g.method = m) (hn : As.length = n) (hsize : g.locals.size = nL) (hstack : g.stack = As.reverse ++ .ref b :: rest) (hW : 2 * g.monitorRoom + (rest.map fun v => v.category).sum ≤ 8) (hdg : decode cc g.pc = .ok (.invokevirtual index, 3)) (hf : cells + mc ≤ R.cells ∧ slots + ms ≤ R.slots) :
    va_Run p l e R s m args below meth c H locs cells slots mc ms g rest (Qc (Value.ref b :: As).toArray) free := by
  obtain ⟨⟨hrc, hrs, hfr, hlo, hws, hcw⟩, hcode, hini, hy, hlen, hl, hin, hse⟩ := cw
  have hK : Back l R p e below s args y 3 8 (PreOf R mc ms Pc) (PostOf Qc mc ms free) := va_backW (hh := hh) (bytes := bytes) (maxL := maxL) (ret := ret) hM hp.1 hrc hrs hfr hlo hws hcw (fun a' U hW => word_at hW (Or.inl (by first | rfl | simp [Cond.onTables, Cond.keeps, Cond.steady])) hini)
  obtain ⟨hx, hb, hml, ho, -⟩ := S
  obtain ⟨-, ⟨cellB, hcB, hoB, hclB⟩, hPc⟩ := hp
  intro T hT X
  obtain ⟨v, vm₁, ⟨U', l2, c2, s2⟩, hW₁, X', ⟨g', mk, t, L, e1, e2, hq, h1, hL, h2, h3⟩, st⟩ := vx_callVW X hx (C := C) (hh := hh) (bytes := bytes) (maxL := maxL) (ret := ret) ho hl hin hse hcode hy hK (by rw [hT]; exact hcB) hoB hclB hg (hsize.trans hml.symm) (argsL := As) (rest := rest) (fun sig h => hn.trans (hlen sig h)) hstack hW (by rw [hb]; exact hdg)
    (fun vm₁ hW₁ => ⟨hf.1, hf.2, hPc (T.setVm vm₁) hT hW₁⟩)
  dsimp only [Pt.U, Pt.locs, Pt.cells, Pt.slots] at X' e1 e2 h1 h2 h3 st
  subst h1; subst h2; subst h3
  exact ⟨v, (T.setVm vm₁).calling g' mk (Value.ref b :: As).toArray, t, U', L, hT, X', hL, e1, e2, hq, st⟩
section
variable {y : MethodName} {bytes cc : ByteArray} {maxL nL mc ms n index : Nat} {ret : Option FieldType} {ws : List Cond} {rm : Room} {Pc : Array Value → State → Prop} {Qc : Array Value → State → Outcome → State → Prop} {XC : String → State → State → Prop} {free : Addr → Prop} {Ts : List Cond} {own C : String} {b : Addr} {As rest : List Value} {g : JFrame}
theorem vx_runVX {hh : List (Nat × Nat × Nat × Nat)} (S : CallFix p m c cc nL s args Ts own) (hM : vx_Met l y ws rm Pc Qc XC mc ms free) (cw : vx_CVW R s args own C index y bytes maxL ret hh ws rm mc ms n) (hp : PreV s H C b Pc As)
    (hg : g.method = m) (hn : As.length = n) (hsize : g.locals.size = nL) (hstack : g.stack = As.reverse ++ .ref b :: rest) (hW : 2 * g.monitorRoom + (rest.map fun v => v.category).sum ≤ 8) (hdg : decode cc g.pc = .ok (.invokevirtual index, 3)) (hf : cells + mc ≤ R.cells ∧ slots + ms ≤ R.slots) :
    vx_Run p l e R s m args below meth c H locs cells slots mc ms g rest (Qc (Value.ref b :: As).toArray) XC free := by
  obtain ⟨⟨hrc, hrs, hfr, hlo, hws, hcw⟩, hcode, hini, hy, hlen, hl, hin, hse⟩ := cw
  have hK : vx_Back l R p e below s args y 3 8 (PreOf R mc ms Pc) (PostOf Qc mc ms free) (vx_Post XC mc ms free) := vx_backW (hh := hh) (bytes := bytes) (maxL := maxL) (ret := ret) hM hp.1 hrc hrs hfr hlo hws hcw (fun a' U hW => word_at hW (Or.inl (by first | rfl | simp [Cond.onTables, Cond.keeps, Cond.steady])) hini)
  obtain ⟨hx, hb, hml, ho, -⟩ := S
  obtain ⟨-, ⟨cellB, hcB, hoB, hclB⟩, hPc⟩ := hp
  intro T hT X
  rcases vx_callVX X hx (C := C) (hh := hh) (bytes := bytes) (maxL := maxL) (ret := ret) ho hl hin hse hcode hy hK (by rw [hT]; exact hcB) hoB hclB hg (hsize.trans hml.symm) (argsL := As) (rest := rest) (fun sig h => hn.trans (hlen sig h)) hstack hW (by rw [hb]; exact hdg)
    (fun vm₁ hW₁ => ⟨hf.1, hf.2, hPc (T.setVm vm₁) hT hW₁⟩) with ⟨v, vm₁, ⟨U', l2, c2, s2⟩, hW₁, X', ⟨g', mk, t, L, e1, e2, hq, h1, hL, h2, h3⟩, st⟩ | ⟨q, vm₁, ⟨U', l2, c2, s2⟩, hW₁, X', ⟨g', mk, t, L, E, ce, e1, e2, hq, hce, hcv, hcl, h1, hL, h2, h3⟩, st⟩
  · dsimp only [Pt.U, Pt.locs, Pt.cells, Pt.slots] at X' e1 e2 h1 h2 h3 st
    subst h1; subst h2; subst h3
    exact Or.inl ⟨v, (T.setVm vm₁).calling g' mk (Value.ref b :: As).toArray, t, U', L, hT, X', hL, e1, e2, hq, st⟩
  · dsimp only [Pt.U, Pt.locs, Pt.cells, Pt.slots] at X' e1 e2 h1 h2 h3 st hcl
    subst h1; subst h2; subst h3
    exact Or.inr ⟨q, (T.setVm vm₁).calling g' mk (Value.ref b :: As).toArray, t, U', L, E, ce, hT, X', hL, e1, e2, hq, hce, hcv, vx_cls hW₁ hcl, st⟩
theorem vx_runSX {hh : List (Nat × Nat × Nat × Nat)} (S : CallFix p m c cc nL s args Ts own) (hM : vx_Met l y ws rm Pc Qc XC mc ms free) (cw : vx_CSW R s args own index y bytes maxL ret hh ws rm mc ms n) (hp : PreS s H Pc As)
    (hg : g.method = m) (hn : As.length = n) (hsize : g.locals.size = nL) (hstack : g.stack = As.reverse ++ rest) (hW : 2 * g.monitorRoom + (rest.map fun v => v.category).sum ≤ 8) (hdg : decode cc g.pc = .ok (.invokestatic index, 3)) (hf : cells + mc ≤ R.cells ∧ slots + ms ≤ R.slots) :
    vx_Run p l e R s m args below meth c H locs cells slots mc ms g rest (Qc As.toArray) XC free := by
  obtain ⟨⟨hrc, hrs, hfr, hlo, hws, hcw⟩, hcode, hini, hy, hlen, hl, hstt⟩ := cw
  have hK : vx_Back l R p e below s args y 3 8 (PreOf R mc ms Pc) (PostOf Qc mc ms free) (vx_Post XC mc ms free) := vx_backW (hh := hh) (bytes := bytes) (maxL := maxL) (ret := ret) hM hp.1 hrc hrs hfr hlo hws hcw (fun a' U hW => word_at hW (Or.inl (by first | rfl | simp [Cond.onTables, Cond.keeps, Cond.steady])) hini)
  obtain ⟨hx, hb, hml, ho, -⟩ := S
  intro T hT X
  rcases vx_callSX X hx (hh := hh) (bytes := bytes) (maxL := maxL) (ret := ret) ho hl hstt hini hcode hy hK hg (hsize.trans hml.symm) (argsL := As) (rest := rest) (fun sig h => hn.trans (hlen sig h)) hstack hW (by rw [hb]; exact hdg)
    (fun vm₁ hW₁ => ⟨hf.1, hf.2, hp.2 (T.setVm vm₁) hT hW₁⟩) with ⟨v, vm₁, ⟨U', l2, c2, s2⟩, hW₁, X', ⟨g', mk, t, L, e1, e2, hq, h1, hL, h2, h3⟩, st⟩ | ⟨q, vm₁, ⟨U', l2, c2, s2⟩, hW₁, X', ⟨g', mk, t, L, E, ce, e1, e2, hq, hce, hcv, hcl, h1, hL, h2, h3⟩, st⟩
  · dsimp only [Pt.U, Pt.locs, Pt.cells, Pt.slots] at X' e1 e2 h1 h2 h3 st
    subst h1; subst h2; subst h3
    exact Or.inl ⟨v, (T.setVm vm₁).calling g' mk As.toArray, t, U', L, hT, X', hL, e1, e2, hq, st⟩
  · dsimp only [Pt.U, Pt.locs, Pt.cells, Pt.slots] at X' e1 e2 h1 h2 h3 st hcl
    subst h1; subst h2; subst h3
    exact Or.inr ⟨q, (T.setVm vm₁).calling g' mk As.toArray, t, U', L, E, ce, hT, X', hL, e1, e2, hq, hce, hcv, vx_cls hW₁ hcl, st⟩
end
end VXH
theorem vx_ofWH {l : Launch} {y : MethodName} {ws ws' : List Cond} {rm : Room} {Pc : Array Value → State → Prop} {Qc : Array Value → State → Outcome → State → Prop} {XC : String → State → State → Prop} {mc ms : Nat} {free : Addr → Prop} {cc : ByteArray} {maxL : Nat} {ret : Option FieldType} {hh : List (Nat × Nat × Nat × Nat)}
    (hy : plainName y.cls = true) (hw : ws = Cond.codeWith y cc maxL ret hh :: ws')
    (body : ∀ p e s m args below meth c s₁, BodyLoose p l y (headSpec ws rm) cc maxL ret e s m args below meth c s₁ → c.maxLocals = maxL → Pc args s →
      W p l e (headSpec ws rm).room s m args below meth c s.heap [] 0 0 (vx_MQ below Qc XC args s mc ms free) (entryFrame m args maxL)) : vx_Met l y ws rm Pc Qc XC mc ms free := by
  refine MetFree.of_bodyS (code := cc) (maxLocals := maxL) (ret := ret) hy ?_ ?_
  · intro args s m h hn
    obtain ⟨m9, meth, c, hn9, h1, h2, h3, h4, -, h5, h6, -⟩ := Cond.codeWith_spec (atoms_spec (ws := ws) h _ (by rw [hw]; exact List.mem_cons_self))
    cases hn.symm.trans hn9
    exact ⟨meth, c, h1, h2, h3, h4, h5, h6⟩
  · intro p e s m args below meth c s₁ B hml hP _
    have hh0 : s₁.heap = s.heap := by rw [B.state]; rfl
    obtain ⟨t, a1, o, b1, b2, b3⟩ := body p e s m args below meth c s₁ B hml hP s₁ hh0 (Stand.of_body B)
    exact ⟨t, o, a1, b1, b2, b3⟩
/-! ===== END ===== -/
end
section
def RX0 : String := "EdgeFinder$Edges"
def TX0 : u_T := fun k => match k with
  | 0 => ("EdgeFinder$Edges", "marks", "[Z", true)
  | 1 => ("EdgeFinder$Edges", "stale", "Z", false)
  | _ => ("EdgeFinder$Edges", "rules", "LEdgeFinder$Rules;", true)
def tyX0 : Nat → FieldType := fun k => match k with
  | 0 => .array .boolean
  | 1 => .boolean
  | _ => .object "EdgeFinder$Rules"
theorem nmX0 : ∀ a, a < 3 → ∀ b, b < 3 → a ≠ b → (TX0 a).2.1 ≠ (TX0 b).2.1 := by decide +kernel
theorem tyX0_ok : ∀ k, k < 3 → parseFieldDescriptor (TX0 k).2.2.1 = some (tyX0 k) := by decide +kernel
def RX1 : String := "EdgeFinder$GraphemeRules"
def TX1 : u_T := fun k => match k with
  | 0 => ("EdgeFinder$GraphemeRules", "before", "I", false)
  | 1 => ("EdgeFinder$GraphemeRules", "oddIndicators", "Z", false)
  | 2 => ("EdgeFinder$GraphemeRules", "afterPicture", "Z", false)
  | _ => ("EdgeFinder$GraphemeRules", "afterPictureAndJoiner", "Z", false)
def tyX1 : Nat → FieldType := fun k => match k with
  | 0 => .int
  | 1 => .boolean
  | 2 => .boolean
  | _ => .boolean
theorem nmX1 : ∀ a, a < 4 → ∀ b, b < 4 → a ≠ b → (TX1 a).2.1 ≠ (TX1 b).2.1 := by decide +kernel
theorem tyX1_ok : ∀ k, k < 4 → parseFieldDescriptor (TX1 k).2.2.1 = some (tyX1 k) := by decide +kernel
def RX2 : String := "EdgeFinder$Row"
def TX2 : u_T := fun k => match k with
  | 0 => ("EdgeFinder$Row", "graphemes", "[I", true)
  | 1 => ("EdgeFinder$Row", "words", "[I", true)
  | 2 => ("EdgeFinder$Row", "pictures", "[Z", true)
  | _ => ("EdgeFinder$Row", "size", "I", false)
def tyX2 : Nat → FieldType := fun k => match k with
  | 0 => .array .int
  | 1 => .array .int
  | 2 => .array .boolean
  | _ => .int
theorem nmX2 : ∀ a, a < 4 → ∀ b, b < 4 → a ≠ b → (TX2 a).2.1 ≠ (TX2 b).2.1 := by decide +kernel
theorem tyX2_ok : ∀ k, k < 4 → parseFieldDescriptor (TX2 k).2.2.1 = some (tyX2 k) := by decide +kernel
def RX3 : String := "EdgeFinder$Rules"
def TX3 : u_T := fun k => match k with
  | _ => ("", "", "", false)
def tyX3 : Nat → FieldType := fun k => match k with
  | _ => .int
def RX4 : String := "EdgeFinder$WordRules"
def TX4 : u_T := fun k => match k with
  | 0 => ("EdgeFinder$WordRules", "before", "I", false)
  | 1 => ("EdgeFinder$WordRules", "last", "I", false)
  | 2 => ("EdgeFinder$WordRules", "lastButOne", "I", false)
  | _ => ("EdgeFinder$WordRules", "oddIndicators", "Z", false)
def tyX4 : Nat → FieldType := fun k => match k with
  | 0 => .int
  | 1 => .int
  | 2 => .int
  | _ => .boolean
theorem nmX4 : ∀ a, a < 4 → ∀ b, b < 4 → a ≠ b → (TX4 a).2.1 ≠ (TX4 b).2.1 := by decide +kernel
theorem tyX4_ok : ∀ k, k < 4 → parseFieldDescriptor (TX4 k).2.2.1 = some (tyX4 k) := by decide +kernel
def RX5 : String := "EdgeFinder"
def TX5 : u_T := fun k => match k with
  | 0 => ("EdgeFinder", "row", "LEdgeFinder$Row;", true)
  | 1 => ("EdgeFinder", "graphemeEdges", "LEdgeFinder$Edges;", true)
  | _ => ("EdgeFinder", "wordEdges", "LEdgeFinder$Edges;", true)
def tyX5 : Nat → FieldType := fun k => match k with
  | 0 => .object "EdgeFinder$Row"
  | 1 => .object "EdgeFinder$Edges"
  | _ => .object "EdgeFinder$Edges"
theorem nmX5 : ∀ a, a < 3 → ∀ b, b < 3 → a ≠ b → (TX5 a).2.1 ≠ (TX5 b).2.1 := by decide +kernel
theorem tyX5_ok : ∀ k, k < 3 → parseFieldDescriptor (TX5 k).2.2.1 = some (tyX5 k) := by decide +kernel
def RX6 : String := "EdgeFinderModel"
def TX6 : u_T := fun k => match k with
  | 0 => ("EdgeFinderModel", "failed", "I", false)
  | 1 => ("EdgeFinderModel", "n", "I", false)
  | 2 => ("EdgeFinderModel", "clusters", "[I", true)
  | 3 => ("EdgeFinderModel", "words", "[I", true)
  | _ => ("EdgeFinderModel", "pictures", "[Z", true)
def tyX6 : Nat → FieldType := fun k => match k with
  | 0 => .int
  | 1 => .int
  | 2 => .array .int
  | 3 => .array .int
  | _ => .array .boolean
theorem nmX6 : ∀ a, a < 5 → ∀ b, b < 5 → a ≠ b → (TX6 a).2.1 ≠ (TX6 b).2.1 := by decide +kernel
theorem tyX6_ok : ∀ k, k < 5 → parseFieldDescriptor (TX6 k).2.2.1 = some (tyX6 k) := by decide +kernel
def RL : String := "EdgeFinderLaw"
abbrev cX5_init : ByteArray := prog_1_method_1_code
def yX5_init : MethodName := ⟨RX5, "<init>", "()V"⟩
abbrev cX2_init : ByteArray := prog_4_method_1_code
def yX2_init : MethodName := ⟨RX2, "<init>", "()V"⟩
abbrev cX1_init : ByteArray := prog_3_method_1_code
def yX1_init : MethodName := ⟨RX1, "<init>", "()V"⟩
abbrev cX3_init : ByteArray := prog_5_method_1_code
def yX3_init : MethodName := ⟨RX3, "<init>", "()V"⟩
abbrev cX0_init : ByteArray := prog_2_method_1_code
def yX0_init : MethodName := ⟨RX0, "<init>", "(LEdgeFinder$Rules;)V"⟩
abbrev cX4_init : ByteArray := prog_6_method_1_code
def yX4_init : MethodName := ⟨RX4, "<init>", "()V"⟩
abbrev cL_add : ByteArray := method_3_code
def yL_add : MethodName := ⟨RL, "add", "(LEdgeFinder;IIZ[J)I"⟩
abbrev cX5_add : ByteArray := prog_1_method_2_code
def yX5_add : MethodName := ⟨RX5, "add", "(IIZ)I"⟩
abbrev cX5_requireUpTo : ByteArray := prog_1_method_9_code
def yX5_requireUpTo : MethodName := ⟨RX5, "requireUpTo", "(II)V"⟩
abbrev cX2_write : ByteArray := prog_4_method_2_code
def yX2_write : MethodName := ⟨RX2, "write", "(IIIZ)V"⟩
abbrev cX5_forgetEdges : ByteArray := prog_1_method_10_code
def yX5_forgetEdges : MethodName := ⟨RX5, "forgetEdges", "()V"⟩
abbrev cL_set : ByteArray := method_4_code
def yL_set : MethodName := ⟨RL, "set", "(LEdgeFinder;IIIZ)I"⟩
abbrev cX5_set : ByteArray := prog_1_method_3_code
def yX5_set : MethodName := ⟨RX5, "set", "(IIIZ)V"⟩
abbrev cL_cut : ByteArray := method_5_code
def yL_cut : MethodName := ⟨RL, "cut", "(LEdgeFinder;I[J)I"⟩
abbrev cX5_cut : ByteArray := prog_1_method_4_code
def yX5_cut : MethodName := ⟨RX5, "cut", "(I)I"⟩
abbrev cL_edge : ByteArray := method_6_code
def yL_edge : MethodName := ⟨RL, "edge", "(LEdgeFinder;II[J)I"⟩
abbrev cX5_edge : ByteArray := prog_1_method_5_code
def yX5_edge : MethodName := ⟨RX5, "edge", "(II)Z"⟩
abbrev cX5_edgesOf : ByteArray := prog_1_method_11_code
def yX5_edgesOf : MethodName := ⟨RX5, "edgesOf", "(I)LEdgeFinder$Edges;"⟩
abbrev cX0_find : ByteArray := prog_2_method_2_code
def yX0_find : MethodName := ⟨RX0, "find", "(LEdgeFinder$Row;)V"⟩
abbrev cX1_begin : ByteArray := prog_3_method_2_code
def yX1_begin : MethodName := ⟨RX1, "begin", "()V"⟩
abbrev cX4_begin : ByteArray := prog_6_method_2_code
def yX4_begin : MethodName := ⟨RX4, "begin", "()V"⟩
abbrev cX1_part : ByteArray := prog_3_method_3_code
def yX1_part : MethodName := ⟨RX1, "part", "(LEdgeFinder$Row;I)Z"⟩
abbrev cX1_isControl : ByteArray := prog_3_method_5_code
def yX1_isControl : MethodName := ⟨RX1, "isControl", "(I)Z"⟩
abbrev cX1_isSyllable : ByteArray := prog_3_method_6_code
def yX1_isSyllable : MethodName := ⟨RX1, "isSyllable", "(I)Z"⟩
abbrev cX4_part : ByteArray := prog_6_method_3_code
def yX4_part : MethodName := ⟨RX4, "part", "(LEdgeFinder$Row;I)Z"⟩
abbrev cX4_isLineEnd : ByteArray := prog_6_method_10_code
def yX4_isLineEnd : MethodName := ⟨RX4, "isLineEnd", "(I)Z"⟩
abbrev cX4_isAttached : ByteArray := prog_6_method_11_code
def yX4_isAttached : MethodName := ⟨RX4, "isAttached", "(I)Z"⟩
abbrev cX4_classAhead : ByteArray := prog_6_method_5_code
def yX4_classAhead : MethodName := ⟨RX4, "classAhead", "(LEdgeFinder$Row;I)I"⟩
abbrev cX4_joinsLetters : ByteArray := prog_6_method_6_code
def yX4_joinsLetters : MethodName := ⟨RX4, "joinsLetters", "(II)Z"⟩
abbrev cX4_isLetter : ByteArray := prog_6_method_12_code
def yX4_isLetter : MethodName := ⟨RX4, "isLetter", "(I)Z"⟩
abbrev cX4_isMidLetter : ByteArray := prog_6_method_13_code
def yX4_isMidLetter : MethodName := ⟨RX4, "isMidLetter", "(I)Z"⟩
abbrev cX4_isMidOfBoth : ByteArray := prog_6_method_15_code
def yX4_isMidOfBoth : MethodName := ⟨RX4, "isMidOfBoth", "(I)Z"⟩
abbrev cX4_joinsHebrew : ByteArray := prog_6_method_7_code
def yX4_joinsHebrew : MethodName := ⟨RX4, "joinsHebrew", "(II)Z"⟩
abbrev cX4_joinsNumbers : ByteArray := prog_6_method_8_code
def yX4_joinsNumbers : MethodName := ⟨RX4, "joinsNumbers", "(II)Z"⟩
abbrev cX4_isMidNumber : ByteArray := prog_6_method_14_code
def yX4_isMidNumber : MethodName := ⟨RX4, "isMidNumber", "(I)Z"⟩
abbrev cX4_joinsRuns : ByteArray := prog_6_method_9_code
def yX4_joinsRuns : MethodName := ⟨RX4, "joinsRuns", "(I)Z"⟩
abbrev cX4_isRunPart : ByteArray := prog_6_method_16_code
def yX4_isRunPart : MethodName := ⟨RX4, "isRunPart", "(I)Z"⟩
abbrev cX1_pass : ByteArray := prog_3_method_4_code
def yX1_pass : MethodName := ⟨RX1, "pass", "(LEdgeFinder$Row;I)V"⟩
abbrev cX4_pass : ByteArray := prog_6_method_4_code
def yX4_pass : MethodName := ⟨RX4, "pass", "(LEdgeFinder$Row;I)V"⟩
abbrev cL_next : ByteArray := method_7_code
def yL_next : MethodName := ⟨RL, "next", "(LEdgeFinder;IIZ[J)I"⟩
abbrev cX5_next : ByteArray := prog_1_method_6_code
def yX5_next : MethodName := ⟨RX5, "next", "(IIZ)I"⟩
abbrev cX0_lastBefore : ByteArray := prog_2_method_4_code
def yX0_lastBefore : MethodName := ⟨RX0, "lastBefore", "(I)I"⟩
abbrev cX0_firstBehind : ByteArray := prog_2_method_3_code
def yX0_firstBehind : MethodName := ⟨RX0, "firstBehind", "(II)I"⟩
abbrev cL_rank : ByteArray := method_8_code
def yL_rank : MethodName := ⟨RL, "rank", "(LEdgeFinder;II[J)I"⟩
abbrev cX5_rank : ByteArray := prog_1_method_7_code
def yX5_rank : MethodName := ⟨RX5, "rank", "(II)I"⟩
abbrev cX0_countUpTo : ByteArray := prog_2_method_5_code
def yX0_countUpTo : MethodName := ⟨RX0, "countUpTo", "(I)I"⟩
abbrev cL_hash : ByteArray := method_9_code
def yL_hash : MethodName := ⟨RL, "hash", "(LEdgeFinder;I[J)I"⟩
abbrev cX5_hash : ByteArray := prog_1_method_8_code
def yX5_hash : MethodName := ⟨RX5, "hash", "(I)I"⟩
abbrev cX0_mixUpTo : ByteArray := prog_2_method_6_code
def yX0_mixUpTo : MethodName := ⟨RX0, "mixUpTo", "(I)I"⟩
abbrev cX6_init : ByteArray := prog_8_method_1_code
def yX6_init : MethodName := ⟨RX6, "<init>", "()V"⟩
abbrev cX6_thrown : ByteArray := prog_8_method_2_code
def yX6_thrown : MethodName := ⟨RX6, "thrown", "()I"⟩
abbrev cX6_add : ByteArray := prog_8_method_15_code
def yX6_add : MethodName := ⟨RX6, "add", "(IIZ)I"⟩
abbrev cX6_fail : ByteArray := prog_8_method_3_code
def yX6_fail : MethodName := ⟨RX6, "fail", "(I)I"⟩
abbrev cX6_set : ByteArray := prog_8_method_16_code
def yX6_set : MethodName := ⟨RX6, "set", "(IIIZ)V"⟩
abbrev cX6_cut : ByteArray := prog_8_method_17_code
def yX6_cut : MethodName := ⟨RX6, "cut", "(I)I"⟩
abbrev cX6_edge : ByteArray := prog_8_method_19_code
def yX6_edge : MethodName := ⟨RX6, "edge", "(II)Z"⟩
abbrev cX6_bad : ByteArray := prog_8_method_18_code
def yX6_bad : MethodName := ⟨RX6, "bad", "(II)Z"⟩
abbrev cX6_boundary : ByteArray := prog_8_method_4_code
def yX6_boundary : MethodName := ⟨RX6, "boundary", "(II)Z"⟩
abbrev cX6_cluster : ByteArray := prog_8_method_5_code
def yX6_cluster : MethodName := ⟨RX6, "cluster", "(I)Z"⟩
abbrev cX6_word : ByteArray := prog_8_method_14_code
def yX6_word : MethodName := ⟨RX6, "word", "(I)Z"⟩
abbrev cX6_breaks : ByteArray := prog_8_method_7_code
def yX6_breaks : MethodName := ⟨RX6, "breaks", "(I)Z"⟩
abbrev cX6_passed : ByteArray := prog_8_method_6_code
def yX6_passed : MethodName := ⟨RX6, "passed", "(I)Z"⟩
abbrev cX6_before : ByteArray := prog_8_method_9_code
def yX6_before : MethodName := ⟨RX6, "before", "(I)I"⟩
abbrev cX6_counts : ByteArray := prog_8_method_8_code
def yX6_counts : MethodName := ⟨RX6, "counts", "(I)I"⟩
abbrev cX6_wordKind : ByteArray := prog_8_method_11_code
def yX6_wordKind : MethodName := ⟨RX6, "wordKind", "(I)I"⟩
abbrev cX6_after : ByteArray := prog_8_method_10_code
def yX6_after : MethodName := ⟨RX6, "after", "(I)I"⟩
abbrev cX6_letter : ByteArray := prog_8_method_12_code
def yX6_letter : MethodName := ⟨RX6, "letter", "(I)Z"⟩
abbrev cX6_quote : ByteArray := prog_8_method_13_code
def yX6_quote : MethodName := ⟨RX6, "quote", "(I)Z"⟩
abbrev cX6_next : ByteArray := prog_8_method_20_code
def yX6_next : MethodName := ⟨RX6, "next", "(IIZ)I"⟩
abbrev cX6_rank : ByteArray := prog_8_method_21_code
def yX6_rank : MethodName := ⟨RX6, "rank", "(II)I"⟩
abbrev cX6_hash : ByteArray := prog_8_method_22_code
def yX6_hash : MethodName := ⟨RX6, "hash", "(I)I"⟩
abbrev cL_law : ByteArray := code
def yL_law : MethodName := ⟨RL, "law", "([I)Z"⟩
abbrev vwCl : List vw_C := [(RX0, TX0, 3), (RX1, TX1, 4), (RX2, TX2, 4), (RX4, TX4, 4), (RX5, TX5, 3), (RX6, TX6, 5)]
/-- the good words of the tables -/
def eT : List Cond := lw_tbl.filter goodWord
theorem eT_m {w : Cond} (h : w ∈ lw_tbl) (g : goodWord w = true) : w ∈ eT := List.mem_filter.mpr ⟨h, g⟩
theorem eT_t {w : Cond} (i : Nat) (h : tables_1[i]? = some w) (g : goodWord w = true) : w ∈ eT := eT_m (List.mem_append_right _ (List.mem_of_getElem? h)) g
theorem eT_p {w : Cond} (i : Nat) (h : (k2_sels lw_privs)[i]? = some w) (g : goodWord w = true) : w ∈ eT := eT_m (List.mem_append_left _ (List.mem_of_getElem? h)) g
theorem eT_g {w : Cond} (h : w ∈ eT) : goodWord w = true := (List.mem_filter.mp h).2
end
section
theorem tw0 : Cond.initialized "EdgeFinderLaw" ∈ eT := eT_t 0 (by decide +kernel) rfl
theorem tw1 : Cond.initialized "EdgeFinder" ∈ eT := eT_t 1 (by decide +kernel) rfl
theorem tw2 : Cond.initialized "EdgeFinder$Row" ∈ eT := eT_t 2 (by decide +kernel) rfl
theorem tw3 : Cond.initialized "EdgeFinder$Edges" ∈ eT := eT_t 3 (by decide +kernel) rfl
theorem tw4 : Cond.initialized "EdgeFinder$Rules" ∈ eT := eT_t 4 (by decide +kernel) rfl
theorem tw5 : Cond.initialized "EdgeFinder$GraphemeRules" ∈ eT := eT_t 5 (by decide +kernel) rfl
theorem tw6 : Cond.initialized "EdgeFinder$WordRules" ∈ eT := eT_t 6 (by decide +kernel) rfl
theorem tw7 : Cond.initialized "EdgeFinderModel" ∈ eT := eT_t 7 (by decide +kernel) rfl
theorem tw8 : Cond.initialized "java/lang/Throwable" ∈ eT := eT_t 8 (by decide +kernel) rfl
theorem tw9 : Cond.initialized "java/lang/Exception" ∈ eT := eT_t 9 (by decide +kernel) rfl
theorem tw10 : Cond.initialized "java/lang/RuntimeException" ∈ eT := eT_t 10 (by decide +kernel) rfl
theorem tw11 : Cond.initialized "java/lang/IllegalArgumentException" ∈ eT := eT_t 11 (by decide +kernel) rfl
theorem tw12 : Cond.initialized "java/lang/IndexOutOfBoundsException" ∈ eT := eT_t 12 (by decide +kernel) rfl
theorem tw13 : Cond.classLink "EdgeFinderLaw" 8 "EdgeFinder" ∈ eT := eT_t 13 (by decide +kernel) rfl
theorem tw14 : Cond.instantiable "EdgeFinder" 3 ∈ eT := eT_t 14 (by decide +kernel) rfl
theorem tw15 : Cond.methodLink "EdgeFinderLaw" 39 yX5_init ∈ eT := eT_t 15 (by decide +kernel) rfl
theorem tw16 : Cond.instanceMethod yX5_init ∈ eT := eT_t 16 (by decide +kernel) rfl
theorem tw17 : Cond.code yX5_init cX5_init 1 none ∈ eT := eT_t 17 (by decide +kernel) rfl
theorem tw18 : Cond.methodLink "EdgeFinder" 1 objectInit ∈ eT := eT_t 18 (by decide +kernel) rfl
theorem tw19 : Cond.instanceMethod objectInit ∈ eT := eT_t 19 (by decide +kernel) rfl
theorem tw20 : Cond.code objectInit ⟨#[0xb1]⟩ 1 none ∈ eT := eT_t 20 (by decide +kernel) rfl
theorem tw21 : Cond.classLink "EdgeFinder" 7 "EdgeFinder$Row" ∈ eT := eT_t 21 (by decide +kernel) rfl
theorem tw22 : Cond.instantiable "EdgeFinder$Row" 4 ∈ eT := eT_t 22 (by decide +kernel) rfl
theorem tw24 : Cond.instanceMethod yX2_init ∈ eT := eT_t 24 (by decide +kernel) rfl
theorem tw25 : Cond.code yX2_init cX2_init 1 none ∈ eT := eT_t 25 (by decide +kernel) rfl
theorem tw26 : Cond.methodLink "EdgeFinder$Row" 3 objectInit ∈ eT := eT_t 26 (by decide +kernel) rfl
theorem tw27 : Cond.fieldLink "EdgeFinder$Row" 9 "EdgeFinder$Row" "graphemes" "[I" ∈ eT := eT_t 27 (by decide +kernel) rfl
theorem tw28 : Cond.fieldLink "EdgeFinder$GraphemeRules" 25 "EdgeFinder$Row" "graphemes" "[I" ∈ eT := eT_t 28 (by decide +kernel) rfl
theorem tw29 : Cond.fieldLink "EdgeFinder$Row" 15 "EdgeFinder$Row" "words" "[I" ∈ eT := eT_t 29 (by decide +kernel) rfl
theorem tw30 : Cond.fieldLink "EdgeFinder$WordRules" 25 "EdgeFinder$Row" "words" "[I" ∈ eT := eT_t 30 (by decide +kernel) rfl
theorem tw31 : Cond.fieldLink "EdgeFinder$Row" 18 "EdgeFinder$Row" "pictures" "[Z" ∈ eT := eT_t 31 (by decide +kernel) rfl
theorem tw32 : Cond.fieldLink "EdgeFinder$WordRules" 35 "EdgeFinder$Row" "pictures" "[Z" ∈ eT := eT_t 32 (by decide +kernel) rfl
theorem tw33 : Cond.fieldLink "EdgeFinder$GraphemeRules" 38 "EdgeFinder$Row" "pictures" "[Z" ∈ eT := eT_t 33 (by decide +kernel) rfl
theorem tw34 : Cond.fieldLink "EdgeFinder$Row" 22 "EdgeFinder$Row" "size" "I" ∈ eT := eT_t 34 (by decide +kernel) rfl
theorem tw35 : Cond.fieldLink "EdgeFinder$Edges" 28 "EdgeFinder$Row" "size" "I" ∈ eT := eT_t 35 (by decide +kernel) rfl
theorem tw36 : Cond.fieldLink "EdgeFinder" 38 "EdgeFinder$Row" "size" "I" ∈ eT := eT_t 36 (by decide +kernel) rfl
theorem tw37 : Cond.fieldLink "EdgeFinder$WordRules" 59 "EdgeFinder$Row" "size" "I" ∈ eT := eT_t 37 (by decide +kernel) rfl
theorem tw38 : Cond.laysFinal "EdgeFinder$Row" "EdgeFinder$Row" "graphemes" "[I" ∈ eT := eT_t 38 (by decide +kernel) rfl
theorem tw40 : Cond.laysFinal "EdgeFinder$Row" "EdgeFinder$Row" "words" "[I" ∈ eT := eT_t 40 (by decide +kernel) rfl
theorem tw42 : Cond.laysFinal "EdgeFinder$Row" "EdgeFinder$Row" "pictures" "[Z" ∈ eT := eT_t 42 (by decide +kernel) rfl
theorem tw44 : Cond.lays "EdgeFinder$Row" "EdgeFinder$Row" "size" "I" ∈ eT := eT_t 44 (by decide +kernel) rfl
theorem tw46 : Cond.superclass "EdgeFinder$Row" "java/lang/Object" ∈ eT := eT_t 46 (by decide +kernel) rfl
theorem tw47 : Cond.arrayClass .int ∈ eT := eT_t 47 (by decide +kernel) rfl
theorem tw48 : Cond.arrayClass .boolean ∈ eT := eT_t 48 (by decide +kernel) rfl
theorem tw49 : Cond.classLink "EdgeFinder" 16 "EdgeFinder$Edges" ∈ eT := eT_t 49 (by decide +kernel) rfl
theorem tw50 : Cond.instantiable "EdgeFinder$Edges" 3 ∈ eT := eT_t 50 (by decide +kernel) rfl
theorem tw51 : Cond.classLink "EdgeFinder" 18 "EdgeFinder$GraphemeRules" ∈ eT := eT_t 51 (by decide +kernel) rfl
theorem tw52 : Cond.instantiable "EdgeFinder$GraphemeRules" 4 ∈ eT := eT_t 52 (by decide +kernel) rfl
theorem tw54 : Cond.instanceMethod yX1_init ∈ eT := eT_t 54 (by decide +kernel) rfl
theorem tw55 : Cond.code yX1_init cX1_init 1 none ∈ eT := eT_t 55 (by decide +kernel) rfl
theorem tw57 : Cond.instanceMethod yX3_init ∈ eT := eT_t 57 (by decide +kernel) rfl
theorem tw58 : Cond.code yX3_init cX3_init 1 none ∈ eT := eT_t 58 (by decide +kernel) rfl
theorem tw59 : Cond.methodLink "EdgeFinder$Rules" 1 objectInit ∈ eT := eT_t 59 (by decide +kernel) rfl
theorem tw60 : Cond.fieldLink "EdgeFinder$GraphemeRules" 9 "EdgeFinder$GraphemeRules" "before" "I" ∈ eT := eT_t 60 (by decide +kernel) rfl
theorem tw61 : Cond.fieldLink "EdgeFinder$GraphemeRules" 15 "EdgeFinder$GraphemeRules" "oddIndicators" "Z" ∈ eT := eT_t 61 (by decide +kernel) rfl
theorem tw62 : Cond.fieldLink "EdgeFinder$GraphemeRules" 19 "EdgeFinder$GraphemeRules" "afterPicture" "Z" ∈ eT := eT_t 62 (by decide +kernel) rfl
theorem tw63 : Cond.fieldLink "EdgeFinder$GraphemeRules" 22 "EdgeFinder$GraphemeRules" "afterPictureAndJoiner" "Z" ∈ eT := eT_t 63 (by decide +kernel) rfl
theorem tw64 : Cond.lays "EdgeFinder$GraphemeRules" "EdgeFinder$GraphemeRules" "before" "I" ∈ eT := eT_t 64 (by decide +kernel) rfl
theorem tw66 : Cond.lays "EdgeFinder$GraphemeRules" "EdgeFinder$GraphemeRules" "oddIndicators" "Z" ∈ eT := eT_t 66 (by decide +kernel) rfl
theorem tw68 : Cond.lays "EdgeFinder$GraphemeRules" "EdgeFinder$GraphemeRules" "afterPicture" "Z" ∈ eT := eT_t 68 (by decide +kernel) rfl
theorem tw70 : Cond.lays "EdgeFinder$GraphemeRules" "EdgeFinder$GraphemeRules" "afterPictureAndJoiner" "Z" ∈ eT := eT_t 70 (by decide +kernel) rfl
theorem tw72 : Cond.superclass "EdgeFinder$GraphemeRules" "EdgeFinder$Rules" ∈ eT := eT_t 72 (by decide +kernel) rfl
theorem tw73 : Cond.methodLink "EdgeFinder" 21 yX0_init ∈ eT := eT_t 73 (by decide +kernel) rfl
theorem tw74 : Cond.instanceMethod yX0_init ∈ eT := eT_t 74 (by decide +kernel) rfl
theorem tw75 : Cond.code yX0_init cX0_init 2 none ∈ eT := eT_t 75 (by decide +kernel) rfl
theorem tw76 : Cond.methodLink "EdgeFinder$Edges" 3 objectInit ∈ eT := eT_t 76 (by decide +kernel) rfl
theorem tw77 : Cond.fieldLink "EdgeFinder$Edges" 9 "EdgeFinder$Edges" "marks" "[Z" ∈ eT := eT_t 77 (by decide +kernel) rfl
theorem tw78 : Cond.fieldLink "EdgeFinder" 60 "EdgeFinder$Edges" "marks" "[Z" ∈ eT := eT_t 78 (by decide +kernel) rfl
theorem tw79 : Cond.fieldLink "EdgeFinder$Edges" 15 "EdgeFinder$Edges" "stale" "Z" ∈ eT := eT_t 79 (by decide +kernel) rfl
theorem tw80 : Cond.fieldLink "EdgeFinder" 83 "EdgeFinder$Edges" "stale" "Z" ∈ eT := eT_t 80 (by decide +kernel) rfl
theorem tw81 : Cond.fieldLink "EdgeFinder$Edges" 19 "EdgeFinder$Edges" "rules" "LEdgeFinder$Rules;" ∈ eT := eT_t 81 (by decide +kernel) rfl
theorem tw82 : Cond.laysFinal "EdgeFinder$Edges" "EdgeFinder$Edges" "marks" "[Z" ∈ eT := eT_t 82 (by decide +kernel) rfl
theorem tw84 : Cond.lays "EdgeFinder$Edges" "EdgeFinder$Edges" "stale" "Z" ∈ eT := eT_t 84 (by decide +kernel) rfl
theorem tw86 : Cond.laysFinal "EdgeFinder$Edges" "EdgeFinder$Edges" "rules" "LEdgeFinder$Rules;" ∈ eT := eT_t 86 (by decide +kernel) rfl
theorem tw88 : Cond.superclass "EdgeFinder$Edges" "java/lang/Object" ∈ eT := eT_t 88 (by decide +kernel) rfl
theorem tw89 : Cond.classLink "EdgeFinder" 28 "EdgeFinder$WordRules" ∈ eT := eT_t 89 (by decide +kernel) rfl
theorem tw90 : Cond.instantiable "EdgeFinder$WordRules" 4 ∈ eT := eT_t 90 (by decide +kernel) rfl
theorem tw92 : Cond.instanceMethod yX4_init ∈ eT := eT_t 92 (by decide +kernel) rfl
theorem tw93 : Cond.code yX4_init cX4_init 1 none ∈ eT := eT_t 93 (by decide +kernel) rfl
theorem tw95 : Cond.fieldLink "EdgeFinder$WordRules" 9 "EdgeFinder$WordRules" "before" "I" ∈ eT := eT_t 95 (by decide +kernel) rfl
theorem tw96 : Cond.fieldLink "EdgeFinder$WordRules" 15 "EdgeFinder$WordRules" "last" "I" ∈ eT := eT_t 96 (by decide +kernel) rfl
theorem tw97 : Cond.fieldLink "EdgeFinder$WordRules" 18 "EdgeFinder$WordRules" "lastButOne" "I" ∈ eT := eT_t 97 (by decide +kernel) rfl
theorem tw98 : Cond.fieldLink "EdgeFinder$WordRules" 21 "EdgeFinder$WordRules" "oddIndicators" "Z" ∈ eT := eT_t 98 (by decide +kernel) rfl
theorem tw99 : Cond.lays "EdgeFinder$WordRules" "EdgeFinder$WordRules" "before" "I" ∈ eT := eT_t 99 (by decide +kernel) rfl
theorem tw101 : Cond.lays "EdgeFinder$WordRules" "EdgeFinder$WordRules" "last" "I" ∈ eT := eT_t 101 (by decide +kernel) rfl
theorem tw103 : Cond.lays "EdgeFinder$WordRules" "EdgeFinder$WordRules" "lastButOne" "I" ∈ eT := eT_t 103 (by decide +kernel) rfl
theorem tw105 : Cond.lays "EdgeFinder$WordRules" "EdgeFinder$WordRules" "oddIndicators" "Z" ∈ eT := eT_t 105 (by decide +kernel) rfl
theorem tw107 : Cond.superclass "EdgeFinder$WordRules" "EdgeFinder$Rules" ∈ eT := eT_t 107 (by decide +kernel) rfl
theorem tw108 : Cond.fieldLink "EdgeFinder" 10 "EdgeFinder" "row" "LEdgeFinder$Row;" ∈ eT := eT_t 108 (by decide +kernel) rfl
theorem tw109 : Cond.fieldLink "EdgeFinder" 24 "EdgeFinder" "graphemeEdges" "LEdgeFinder$Edges;" ∈ eT := eT_t 109 (by decide +kernel) rfl
theorem tw110 : Cond.fieldLink "EdgeFinder" 31 "EdgeFinder" "wordEdges" "LEdgeFinder$Edges;" ∈ eT := eT_t 110 (by decide +kernel) rfl
theorem tw111 : Cond.laysFinal "EdgeFinder" "EdgeFinder" "row" "LEdgeFinder$Row;" ∈ eT := eT_t 111 (by decide +kernel) rfl
theorem tw113 : Cond.laysFinal "EdgeFinder" "EdgeFinder" "graphemeEdges" "LEdgeFinder$Edges;" ∈ eT := eT_t 113 (by decide +kernel) rfl
theorem tw115 : Cond.laysFinal "EdgeFinder" "EdgeFinder" "wordEdges" "LEdgeFinder$Edges;" ∈ eT := eT_t 115 (by decide +kernel) rfl
theorem tw117 : Cond.superclass "EdgeFinder" "java/lang/Object" ∈ eT := eT_t 117 (by decide +kernel) rfl
theorem tw118 : Cond.methodLink "EdgeFinderLaw" 43 yL_add ∈ eT := eT_t 118 (by decide +kernel) rfl
theorem tw119 : Cond.static yL_add ∈ eT := eT_t 119 (by decide +kernel) rfl
theorem tw120 : Cond.codeWith yL_add cL_add 6 (some .int) [(0, 12, 15, 13), (0, 12, 19, 15)] ∈ eT := eT_t 120 (by decide +kernel) rfl
theorem tw121 : Cond.classLink "EdgeFinderLaw" 13 "java/lang/IllegalArgumentException" ∈ eT := eT_t 121 (by decide +kernel) rfl
theorem tw122 : Cond.classLink "EdgeFinderLaw" 15 "java/lang/IndexOutOfBoundsException" ∈ eT := eT_t 122 (by decide +kernel) rfl
theorem tw123 : Cond.methodLink "EdgeFinderLaw" 7 yX5_add ∈ eT := eT_t 123 (by decide +kernel) rfl
theorem tw124 : Cond.instanceMethod yX5_add ∈ eT := eT_t 124 (by decide +kernel) rfl
theorem tw125 : Cond.selects "EdgeFinder" yX5_add yX5_add ∈ eT := eT_t 125 (by decide +kernel) rfl
theorem tw126 : Cond.code yX5_add cX5_add 4 (some .int) ∈ eT := eT_t 126 (by decide +kernel) rfl
theorem tw127 : Cond.methodLink "EdgeFinder" 34 yX5_requireUpTo ∈ eT := eT_t 127 (by decide +kernel) rfl
theorem tw128 : Cond.static yX5_requireUpTo ∈ eT := eT_t 128 (by decide +kernel) rfl
theorem tw129 : Cond.code yX5_requireUpTo cX5_requireUpTo 2 none ∈ eT := eT_t 129 (by decide +kernel) rfl
theorem tw130 : Cond.classLink "EdgeFinder" 78 "java/lang/IllegalArgumentException" ∈ eT := eT_t 130 (by decide +kernel) rfl
theorem tw149 : Cond.lays "java/lang/IllegalArgumentException" "java/lang/Throwable" "backtrace" "Ljava/lang/Object;" ∈ eT := eT_t 149 (by decide +kernel) rfl
theorem tw150 : Cond.lays "java/lang/Throwable" "java/lang/Throwable" "backtrace" "Ljava/lang/Object;" ∈ eT := eT_t 150 (by decide +kernel) rfl
theorem tw151 : Cond.fieldLink "java/lang/Throwable" 198 "java/lang/Throwable" "backtrace" "Ljava/lang/Object;" ∈ eT := eT_t 151 (by decide +kernel) rfl
theorem tw152 : Cond.superclass "java/lang/Throwable" "java/lang/Object" ∈ eT := eT_t 152 (by decide +kernel) rfl
theorem tw155 : Cond.methodLink "java/lang/Throwable" 1 objectInit ∈ eT := eT_t 155 (by decide +kernel) rfl
theorem tw171 : Cond.methodLink "EdgeFinder" 82 ⟨"java/lang/IllegalArgumentException", "<init>", "(Ljava/lang/String;)V"⟩ ∈ eT := eT_t 171 (by decide +kernel) rfl
theorem tw196 : Cond.arrayClass .byte ∈ eT := eT_t 196 (by decide +kernel) rfl
theorem tw197 : Cond.classLink "EdgeFinder" 42 "java/lang/IndexOutOfBoundsException" ∈ eT := eT_t 197 (by decide +kernel) rfl
theorem tw205 : Cond.lays "java/lang/IndexOutOfBoundsException" "java/lang/Throwable" "backtrace" "Ljava/lang/Object;" ∈ eT := eT_t 205 (by decide +kernel) rfl
theorem tw207 : Cond.methodLink "EdgeFinder" 46 ⟨"java/lang/IndexOutOfBoundsException", "<init>", "(Ljava/lang/String;)V"⟩ ∈ eT := eT_t 207 (by decide +kernel) rfl
theorem tw213 : Cond.methodLink "EdgeFinder" 49 yX2_write ∈ eT := eT_t 213 (by decide +kernel) rfl
theorem tw214 : Cond.instanceMethod yX2_write ∈ eT := eT_t 214 (by decide +kernel) rfl
theorem tw215 : Cond.selects "EdgeFinder$Row" yX2_write yX2_write ∈ eT := eT_t 215 (by decide +kernel) rfl
theorem tw216 : Cond.code yX2_write cX2_write 5 none ∈ eT := eT_t 216 (by decide +kernel) rfl
theorem tw217 : Cond.methodLink "EdgeFinder" 53 yX5_forgetEdges ∈ eT := eT_t 217 (by decide +kernel) rfl
theorem tw219 : Cond.instanceMethod yX5_forgetEdges ∈ eT := eT_t 219 (by decide +kernel) rfl
theorem tw220 : Cond.code yX5_forgetEdges cX5_forgetEdges 1 none ∈ eT := eT_t 220 (by decide +kernel) rfl
theorem tw221 : Cond.methodLink "EdgeFinderLaw" 53 yL_set ∈ eT := eT_t 221 (by decide +kernel) rfl
theorem tw222 : Cond.static yL_set ∈ eT := eT_t 222 (by decide +kernel) rfl
theorem tw223 : Cond.codeWith yL_set cL_set 6 (some .int) [(0, 9, 12, 13)] ∈ eT := eT_t 223 (by decide +kernel) rfl
theorem tw224 : Cond.methodLink "EdgeFinderLaw" 17 yX5_set ∈ eT := eT_t 224 (by decide +kernel) rfl
theorem tw225 : Cond.instanceMethod yX5_set ∈ eT := eT_t 225 (by decide +kernel) rfl
theorem tw226 : Cond.selects "EdgeFinder" yX5_set yX5_set ∈ eT := eT_t 226 (by decide +kernel) rfl
theorem tw227 : Cond.code yX5_set cX5_set 5 none ∈ eT := eT_t 227 (by decide +kernel) rfl
theorem tw228 : Cond.methodLink "EdgeFinderLaw" 57 yL_cut ∈ eT := eT_t 228 (by decide +kernel) rfl
theorem tw229 : Cond.static yL_cut ∈ eT := eT_t 229 (by decide +kernel) rfl
theorem tw230 : Cond.codeWith yL_cut cL_cut 4 (some .int) [(0, 9, 12, 13)] ∈ eT := eT_t 230 (by decide +kernel) rfl
theorem tw231 : Cond.methodLink "EdgeFinderLaw" 21 yX5_cut ∈ eT := eT_t 231 (by decide +kernel) rfl
theorem tw232 : Cond.instanceMethod yX5_cut ∈ eT := eT_t 232 (by decide +kernel) rfl
theorem tw233 : Cond.selects "EdgeFinder" yX5_cut yX5_cut ∈ eT := eT_t 233 (by decide +kernel) rfl
theorem tw234 : Cond.code yX5_cut cX5_cut 3 (some .int) ∈ eT := eT_t 234 (by decide +kernel) rfl
theorem tw235 : Cond.methodLink "EdgeFinderLaw" 61 yL_edge ∈ eT := eT_t 235 (by decide +kernel) rfl
theorem tw236 : Cond.static yL_edge ∈ eT := eT_t 236 (by decide +kernel) rfl
theorem tw237 : Cond.codeWith yL_edge cL_edge 5 (some .int) [(0, 17, 20, 13)] ∈ eT := eT_t 237 (by decide +kernel) rfl
theorem tw238 : Cond.methodLink "EdgeFinderLaw" 25 yX5_edge ∈ eT := eT_t 238 (by decide +kernel) rfl
theorem tw239 : Cond.instanceMethod yX5_edge ∈ eT := eT_t 239 (by decide +kernel) rfl
theorem tw240 : Cond.selects "EdgeFinder" yX5_edge yX5_edge ∈ eT := eT_t 240 (by decide +kernel) rfl
theorem tw241 : Cond.code yX5_edge cX5_edge 3 (some .boolean) ∈ eT := eT_t 241 (by decide +kernel) rfl
theorem tw242 : Cond.methodLink "EdgeFinder" 56 yX5_edgesOf ∈ eT := eT_t 242 (by decide +kernel) rfl
theorem tw244 : Cond.instanceMethod yX5_edgesOf ∈ eT := eT_t 244 (by decide +kernel) rfl
theorem tw245 : Cond.code yX5_edgesOf cX5_edgesOf 3 (some (.object "EdgeFinder$Edges")) ∈ eT := eT_t 245 (by decide +kernel) rfl
theorem tw246 : Cond.methodLink "EdgeFinder" 87 yX0_find ∈ eT := eT_t 246 (by decide +kernel) rfl
theorem tw247 : Cond.instanceMethod yX0_find ∈ eT := eT_t 247 (by decide +kernel) rfl
theorem tw248 : Cond.selects "EdgeFinder$Edges" yX0_find yX0_find ∈ eT := eT_t 248 (by decide +kernel) rfl
theorem tw249 : Cond.code yX0_find cX0_find 3 none ∈ eT := eT_t 249 (by decide +kernel) rfl
theorem tw250 : Cond.methodLink "EdgeFinder$Edges" 23 ⟨"EdgeFinder$Rules", "begin", "()V"⟩ ∈ eT := eT_t 250 (by decide +kernel) rfl
theorem tw252 : Cond.sameMethod "EdgeFinder$Rules" "EdgeFinder$Rules" "begin" "()V" ∈ eT := eT_t 252 (by decide +kernel) rfl
theorem tw253 : Cond.selects "EdgeFinder$GraphemeRules" ⟨"EdgeFinder$Rules", "begin", "()V"⟩ yX1_begin ∈ eT := eT_t 253 (by decide +kernel) rfl
theorem tw254 : Cond.instanceMethod yX1_begin ∈ eT := eT_t 254 (by decide +kernel) rfl
theorem tw255 : Cond.code yX1_begin cX1_begin 1 none ∈ eT := eT_t 255 (by decide +kernel) rfl
theorem tw256 : Cond.selects "EdgeFinder$WordRules" ⟨"EdgeFinder$Rules", "begin", "()V"⟩ yX4_begin ∈ eT := eT_t 256 (by decide +kernel) rfl
theorem tw257 : Cond.instanceMethod yX4_begin ∈ eT := eT_t 257 (by decide +kernel) rfl
theorem tw258 : Cond.code yX4_begin cX4_begin 1 none ∈ eT := eT_t 258 (by decide +kernel) rfl
theorem tw259 : Cond.methodLink "EdgeFinder$Edges" 34 ⟨"EdgeFinder$Rules", "part", "(LEdgeFinder$Row;I)Z"⟩ ∈ eT := eT_t 259 (by decide +kernel) rfl
theorem tw261 : Cond.sameMethod "EdgeFinder$Rules" "EdgeFinder$Rules" "part" "(LEdgeFinder$Row;I)Z" ∈ eT := eT_t 261 (by decide +kernel) rfl
theorem tw262 : Cond.selects "EdgeFinder$GraphemeRules" ⟨"EdgeFinder$Rules", "part", "(LEdgeFinder$Row;I)Z"⟩ yX1_part ∈ eT := eT_t 262 (by decide +kernel) rfl
theorem tw263 : Cond.instanceMethod yX1_part ∈ eT := eT_t 263 (by decide +kernel) rfl
theorem tw264 : Cond.code yX1_part cX1_part 4 (some .boolean) ∈ eT := eT_t 264 (by decide +kernel) rfl
theorem tw265 : Cond.methodLink "EdgeFinder$GraphemeRules" 31 yX1_isControl ∈ eT := eT_t 265 (by decide +kernel) rfl
theorem tw266 : Cond.static yX1_isControl ∈ eT := eT_t 266 (by decide +kernel) rfl
theorem tw267 : Cond.code yX1_isControl cX1_isControl 1 (some .boolean) ∈ eT := eT_t 267 (by decide +kernel) rfl
theorem tw268 : Cond.methodLink "EdgeFinder$GraphemeRules" 35 yX1_isSyllable ∈ eT := eT_t 268 (by decide +kernel) rfl
theorem tw270 : Cond.instanceMethod yX1_isSyllable ∈ eT := eT_t 270 (by decide +kernel) rfl
theorem tw271 : Cond.code yX1_isSyllable cX1_isSyllable 2 (some .boolean) ∈ eT := eT_t 271 (by decide +kernel) rfl
theorem tw272 : Cond.selects "EdgeFinder$WordRules" ⟨"EdgeFinder$Rules", "part", "(LEdgeFinder$Row;I)Z"⟩ yX4_part ∈ eT := eT_t 272 (by decide +kernel) rfl
theorem tw273 : Cond.instanceMethod yX4_part ∈ eT := eT_t 273 (by decide +kernel) rfl
theorem tw274 : Cond.code yX4_part cX4_part 5 (some .boolean) ∈ eT := eT_t 274 (by decide +kernel) rfl
theorem tw275 : Cond.methodLink "EdgeFinder$WordRules" 31 yX4_isLineEnd ∈ eT := eT_t 275 (by decide +kernel) rfl
theorem tw276 : Cond.static yX4_isLineEnd ∈ eT := eT_t 276 (by decide +kernel) rfl
theorem tw277 : Cond.code yX4_isLineEnd cX4_isLineEnd 1 (some .boolean) ∈ eT := eT_t 277 (by decide +kernel) rfl
theorem tw278 : Cond.methodLink "EdgeFinder$WordRules" 39 yX4_isAttached ∈ eT := eT_t 278 (by decide +kernel) rfl
theorem tw279 : Cond.static yX4_isAttached ∈ eT := eT_t 279 (by decide +kernel) rfl
theorem tw280 : Cond.code yX4_isAttached cX4_isAttached 1 (some .boolean) ∈ eT := eT_t 280 (by decide +kernel) rfl
theorem tw281 : Cond.methodLink "EdgeFinder$WordRules" 42 yX4_classAhead ∈ eT := eT_t 281 (by decide +kernel) rfl
theorem tw282 : Cond.static yX4_classAhead ∈ eT := eT_t 282 (by decide +kernel) rfl
theorem tw283 : Cond.code yX4_classAhead cX4_classAhead 3 (some .int) ∈ eT := eT_t 283 (by decide +kernel) rfl
theorem tw284 : Cond.methodLink "EdgeFinder$WordRules" 46 yX4_joinsLetters ∈ eT := eT_t 284 (by decide +kernel) rfl
theorem tw286 : Cond.instanceMethod yX4_joinsLetters ∈ eT := eT_t 286 (by decide +kernel) rfl
theorem tw287 : Cond.code yX4_joinsLetters cX4_joinsLetters 3 (some .boolean) ∈ eT := eT_t 287 (by decide +kernel) rfl
theorem tw288 : Cond.methodLink "EdgeFinder$WordRules" 62 yX4_isLetter ∈ eT := eT_t 288 (by decide +kernel) rfl
theorem tw289 : Cond.static yX4_isLetter ∈ eT := eT_t 289 (by decide +kernel) rfl
theorem tw290 : Cond.code yX4_isLetter cX4_isLetter 1 (some .boolean) ∈ eT := eT_t 290 (by decide +kernel) rfl
theorem tw291 : Cond.methodLink "EdgeFinder$WordRules" 65 yX4_isMidLetter ∈ eT := eT_t 291 (by decide +kernel) rfl
theorem tw292 : Cond.static yX4_isMidLetter ∈ eT := eT_t 292 (by decide +kernel) rfl
theorem tw293 : Cond.code yX4_isMidLetter cX4_isMidLetter 1 (some .boolean) ∈ eT := eT_t 293 (by decide +kernel) rfl
theorem tw294 : Cond.methodLink "EdgeFinder$WordRules" 74 yX4_isMidOfBoth ∈ eT := eT_t 294 (by decide +kernel) rfl
theorem tw295 : Cond.static yX4_isMidOfBoth ∈ eT := eT_t 295 (by decide +kernel) rfl
theorem tw296 : Cond.code yX4_isMidOfBoth cX4_isMidOfBoth 1 (some .boolean) ∈ eT := eT_t 296 (by decide +kernel) rfl
theorem tw297 : Cond.methodLink "EdgeFinder$WordRules" 50 yX4_joinsHebrew ∈ eT := eT_t 297 (by decide +kernel) rfl
theorem tw299 : Cond.instanceMethod yX4_joinsHebrew ∈ eT := eT_t 299 (by decide +kernel) rfl
theorem tw300 : Cond.code yX4_joinsHebrew cX4_joinsHebrew 3 (some .boolean) ∈ eT := eT_t 300 (by decide +kernel) rfl
theorem tw301 : Cond.methodLink "EdgeFinder$WordRules" 53 yX4_joinsNumbers ∈ eT := eT_t 301 (by decide +kernel) rfl
theorem tw303 : Cond.instanceMethod yX4_joinsNumbers ∈ eT := eT_t 303 (by decide +kernel) rfl
theorem tw304 : Cond.code yX4_joinsNumbers cX4_joinsNumbers 3 (some .boolean) ∈ eT := eT_t 304 (by decide +kernel) rfl
theorem tw305 : Cond.methodLink "EdgeFinder$WordRules" 68 yX4_isMidNumber ∈ eT := eT_t 305 (by decide +kernel) rfl
theorem tw306 : Cond.static yX4_isMidNumber ∈ eT := eT_t 306 (by decide +kernel) rfl
theorem tw307 : Cond.code yX4_isMidNumber cX4_isMidNumber 1 (some .boolean) ∈ eT := eT_t 307 (by decide +kernel) rfl
theorem tw308 : Cond.methodLink "EdgeFinder$WordRules" 56 yX4_joinsRuns ∈ eT := eT_t 308 (by decide +kernel) rfl
theorem tw310 : Cond.instanceMethod yX4_joinsRuns ∈ eT := eT_t 310 (by decide +kernel) rfl
theorem tw311 : Cond.code yX4_joinsRuns cX4_joinsRuns 2 (some .boolean) ∈ eT := eT_t 311 (by decide +kernel) rfl
theorem tw312 : Cond.methodLink "EdgeFinder$WordRules" 71 yX4_isRunPart ∈ eT := eT_t 312 (by decide +kernel) rfl
theorem tw313 : Cond.static yX4_isRunPart ∈ eT := eT_t 313 (by decide +kernel) rfl
theorem tw314 : Cond.code yX4_isRunPart cX4_isRunPart 1 (some .boolean) ∈ eT := eT_t 314 (by decide +kernel) rfl
theorem tw315 : Cond.methodLink "EdgeFinder$Edges" 38 ⟨"EdgeFinder$Rules", "pass", "(LEdgeFinder$Row;I)V"⟩ ∈ eT := eT_t 315 (by decide +kernel) rfl
theorem tw317 : Cond.sameMethod "EdgeFinder$Rules" "EdgeFinder$Rules" "pass" "(LEdgeFinder$Row;I)V" ∈ eT := eT_t 317 (by decide +kernel) rfl
theorem tw318 : Cond.selects "EdgeFinder$GraphemeRules" ⟨"EdgeFinder$Rules", "pass", "(LEdgeFinder$Row;I)V"⟩ yX1_pass ∈ eT := eT_t 318 (by decide +kernel) rfl
theorem tw319 : Cond.instanceMethod yX1_pass ∈ eT := eT_t 319 (by decide +kernel) rfl
theorem tw320 : Cond.code yX1_pass cX1_pass 4 none ∈ eT := eT_t 320 (by decide +kernel) rfl
theorem tw321 : Cond.selects "EdgeFinder$WordRules" ⟨"EdgeFinder$Rules", "pass", "(LEdgeFinder$Row;I)V"⟩ yX4_pass ∈ eT := eT_t 321 (by decide +kernel) rfl
theorem tw322 : Cond.instanceMethod yX4_pass ∈ eT := eT_t 322 (by decide +kernel) rfl
theorem tw323 : Cond.code yX4_pass cX4_pass 5 none ∈ eT := eT_t 323 (by decide +kernel) rfl
theorem tw324 : Cond.methodLink "EdgeFinderLaw" 65 yL_next ∈ eT := eT_t 324 (by decide +kernel) rfl
theorem tw325 : Cond.static yL_next ∈ eT := eT_t 325 (by decide +kernel) rfl
theorem tw326 : Cond.codeWith yL_next cL_next 6 (some .int) [(0, 12, 15, 13)] ∈ eT := eT_t 326 (by decide +kernel) rfl
theorem tw327 : Cond.methodLink "EdgeFinderLaw" 29 yX5_next ∈ eT := eT_t 327 (by decide +kernel) rfl
theorem tw328 : Cond.instanceMethod yX5_next ∈ eT := eT_t 328 (by decide +kernel) rfl
theorem tw329 : Cond.selects "EdgeFinder" yX5_next yX5_next ∈ eT := eT_t 329 (by decide +kernel) rfl
theorem tw330 : Cond.code yX5_next cX5_next 5 (some .int) ∈ eT := eT_t 330 (by decide +kernel) rfl
theorem tw331 : Cond.methodLink "EdgeFinder" 64 yX0_lastBefore ∈ eT := eT_t 331 (by decide +kernel) rfl
theorem tw332 : Cond.instanceMethod yX0_lastBefore ∈ eT := eT_t 332 (by decide +kernel) rfl
theorem tw333 : Cond.selects "EdgeFinder$Edges" yX0_lastBefore yX0_lastBefore ∈ eT := eT_t 333 (by decide +kernel) rfl
theorem tw334 : Cond.code yX0_lastBefore cX0_lastBefore 3 (some .int) ∈ eT := eT_t 334 (by decide +kernel) rfl
theorem tw335 : Cond.methodLink "EdgeFinder" 68 yX0_firstBehind ∈ eT := eT_t 335 (by decide +kernel) rfl
theorem tw336 : Cond.instanceMethod yX0_firstBehind ∈ eT := eT_t 336 (by decide +kernel) rfl
theorem tw337 : Cond.selects "EdgeFinder$Edges" yX0_firstBehind yX0_firstBehind ∈ eT := eT_t 337 (by decide +kernel) rfl
theorem tw338 : Cond.code yX0_firstBehind cX0_firstBehind 4 (some .int) ∈ eT := eT_t 338 (by decide +kernel) rfl
theorem tw339 : Cond.methodLink "EdgeFinderLaw" 68 yL_rank ∈ eT := eT_t 339 (by decide +kernel) rfl
theorem tw340 : Cond.static yL_rank ∈ eT := eT_t 340 (by decide +kernel) rfl
theorem tw341 : Cond.codeWith yL_rank cL_rank 5 (some .int) [(0, 10, 13, 13)] ∈ eT := eT_t 341 (by decide +kernel) rfl
theorem tw342 : Cond.methodLink "EdgeFinderLaw" 32 yX5_rank ∈ eT := eT_t 342 (by decide +kernel) rfl
theorem tw343 : Cond.instanceMethod yX5_rank ∈ eT := eT_t 343 (by decide +kernel) rfl
theorem tw344 : Cond.selects "EdgeFinder" yX5_rank yX5_rank ∈ eT := eT_t 344 (by decide +kernel) rfl
theorem tw345 : Cond.code yX5_rank cX5_rank 3 (some .int) ∈ eT := eT_t 345 (by decide +kernel) rfl
theorem tw346 : Cond.methodLink "EdgeFinder" 72 yX0_countUpTo ∈ eT := eT_t 346 (by decide +kernel) rfl
theorem tw347 : Cond.instanceMethod yX0_countUpTo ∈ eT := eT_t 347 (by decide +kernel) rfl
theorem tw348 : Cond.selects "EdgeFinder$Edges" yX0_countUpTo yX0_countUpTo ∈ eT := eT_t 348 (by decide +kernel) rfl
theorem tw349 : Cond.code yX0_countUpTo cX0_countUpTo 4 (some .int) ∈ eT := eT_t 349 (by decide +kernel) rfl
theorem tw350 : Cond.methodLink "EdgeFinderLaw" 71 yL_hash ∈ eT := eT_t 350 (by decide +kernel) rfl
theorem tw351 : Cond.static yL_hash ∈ eT := eT_t 351 (by decide +kernel) rfl
theorem tw352 : Cond.codeWith yL_hash cL_hash 4 (some .int) [(0, 9, 12, 13)] ∈ eT := eT_t 352 (by decide +kernel) rfl
theorem tw353 : Cond.methodLink "EdgeFinderLaw" 36 yX5_hash ∈ eT := eT_t 353 (by decide +kernel) rfl
theorem tw354 : Cond.instanceMethod yX5_hash ∈ eT := eT_t 354 (by decide +kernel) rfl
theorem tw355 : Cond.selects "EdgeFinder" yX5_hash yX5_hash ∈ eT := eT_t 355 (by decide +kernel) rfl
theorem tw356 : Cond.code yX5_hash cX5_hash 2 (some .int) ∈ eT := eT_t 356 (by decide +kernel) rfl
theorem tw357 : Cond.methodLink "EdgeFinder" 75 yX0_mixUpTo ∈ eT := eT_t 357 (by decide +kernel) rfl
theorem tw358 : Cond.instanceMethod yX0_mixUpTo ∈ eT := eT_t 358 (by decide +kernel) rfl
theorem tw359 : Cond.selects "EdgeFinder$Edges" yX0_mixUpTo yX0_mixUpTo ∈ eT := eT_t 359 (by decide +kernel) rfl
theorem tw360 : Cond.code yX0_mixUpTo cX0_mixUpTo 4 (some .int) ∈ eT := eT_t 360 (by decide +kernel) rfl
theorem tw361 : Cond.classLink "EdgeFinderLaw" 40 "EdgeFinderModel" ∈ eT := eT_t 361 (by decide +kernel) rfl
theorem tw362 : Cond.instantiable "EdgeFinderModel" 5 ∈ eT := eT_t 362 (by decide +kernel) rfl
theorem tw363 : Cond.methodLink "EdgeFinderLaw" 42 yX6_init ∈ eT := eT_t 363 (by decide +kernel) rfl
theorem tw364 : Cond.instanceMethod yX6_init ∈ eT := eT_t 364 (by decide +kernel) rfl
theorem tw365 : Cond.code yX6_init cX6_init 1 none ∈ eT := eT_t 365 (by decide +kernel) rfl
theorem tw366 : Cond.methodLink "EdgeFinderModel" 1 objectInit ∈ eT := eT_t 366 (by decide +kernel) rfl
theorem tw367 : Cond.fieldLink "EdgeFinderModel" 20 "EdgeFinderModel" "failed" "I" ∈ eT := eT_t 367 (by decide +kernel) rfl
theorem tw368 : Cond.fieldLink "EdgeFinderModel" 24 "EdgeFinderModel" "n" "I" ∈ eT := eT_t 368 (by decide +kernel) rfl
theorem tw369 : Cond.fieldLink "EdgeFinderModel" 7 "EdgeFinderModel" "clusters" "[I" ∈ eT := eT_t 369 (by decide +kernel) rfl
theorem tw370 : Cond.fieldLink "EdgeFinderModel" 13 "EdgeFinderModel" "words" "[I" ∈ eT := eT_t 370 (by decide +kernel) rfl
theorem tw371 : Cond.fieldLink "EdgeFinderModel" 16 "EdgeFinderModel" "pictures" "[Z" ∈ eT := eT_t 371 (by decide +kernel) rfl
theorem tw372 : Cond.lays "EdgeFinderModel" "EdgeFinderModel" "failed" "I" ∈ eT := eT_t 372 (by decide +kernel) rfl
theorem tw374 : Cond.lays "EdgeFinderModel" "EdgeFinderModel" "n" "I" ∈ eT := eT_t 374 (by decide +kernel) rfl
theorem tw376 : Cond.laysFinal "EdgeFinderModel" "EdgeFinderModel" "clusters" "[I" ∈ eT := eT_t 376 (by decide +kernel) rfl
theorem tw378 : Cond.laysFinal "EdgeFinderModel" "EdgeFinderModel" "words" "[I" ∈ eT := eT_t 378 (by decide +kernel) rfl
theorem tw380 : Cond.laysFinal "EdgeFinderModel" "EdgeFinderModel" "pictures" "[Z" ∈ eT := eT_t 380 (by decide +kernel) rfl
theorem tw382 : Cond.superclass "EdgeFinderModel" "java/lang/Object" ∈ eT := eT_t 382 (by decide +kernel) rfl
theorem tw383 : Cond.methodLink "EdgeFinderLaw" 49 yX6_thrown ∈ eT := eT_t 383 (by decide +kernel) rfl
theorem tw384 : Cond.instanceMethod yX6_thrown ∈ eT := eT_t 384 (by decide +kernel) rfl
theorem tw385 : Cond.selects "EdgeFinderModel" yX6_thrown yX6_thrown ∈ eT := eT_t 385 (by decide +kernel) rfl
theorem tw386 : Cond.code yX6_thrown cX6_thrown 1 (some .int) ∈ eT := eT_t 386 (by decide +kernel) rfl
theorem tw387 : Cond.methodLink "EdgeFinderLaw" 48 yX6_add ∈ eT := eT_t 387 (by decide +kernel) rfl
theorem tw388 : Cond.instanceMethod yX6_add ∈ eT := eT_t 388 (by decide +kernel) rfl
theorem tw389 : Cond.selects "EdgeFinderModel" yX6_add yX6_add ∈ eT := eT_t 389 (by decide +kernel) rfl
theorem tw390 : Cond.code yX6_add cX6_add 4 (some .int) ∈ eT := eT_t 390 (by decide +kernel) rfl
theorem tw391 : Cond.methodLink "EdgeFinderModel" 59 yX6_fail ∈ eT := eT_t 391 (by decide +kernel) rfl
theorem tw393 : Cond.instanceMethod yX6_fail ∈ eT := eT_t 393 (by decide +kernel) rfl
theorem tw394 : Cond.code yX6_fail cX6_fail 2 (some .int) ∈ eT := eT_t 394 (by decide +kernel) rfl
theorem tw395 : Cond.methodLink "EdgeFinderLaw" 56 yX6_set ∈ eT := eT_t 395 (by decide +kernel) rfl
theorem tw396 : Cond.instanceMethod yX6_set ∈ eT := eT_t 396 (by decide +kernel) rfl
theorem tw397 : Cond.selects "EdgeFinderModel" yX6_set yX6_set ∈ eT := eT_t 397 (by decide +kernel) rfl
theorem tw398 : Cond.code yX6_set cX6_set 5 none ∈ eT := eT_t 398 (by decide +kernel) rfl
theorem tw399 : Cond.methodLink "EdgeFinderLaw" 60 yX6_cut ∈ eT := eT_t 399 (by decide +kernel) rfl
theorem tw400 : Cond.instanceMethod yX6_cut ∈ eT := eT_t 400 (by decide +kernel) rfl
theorem tw401 : Cond.selects "EdgeFinderModel" yX6_cut yX6_cut ∈ eT := eT_t 401 (by decide +kernel) rfl
theorem tw402 : Cond.code yX6_cut cX6_cut 3 (some .int) ∈ eT := eT_t 402 (by decide +kernel) rfl
theorem tw403 : Cond.methodLink "EdgeFinderLaw" 64 yX6_edge ∈ eT := eT_t 403 (by decide +kernel) rfl
theorem tw404 : Cond.instanceMethod yX6_edge ∈ eT := eT_t 404 (by decide +kernel) rfl
theorem tw405 : Cond.selects "EdgeFinderModel" yX6_edge yX6_edge ∈ eT := eT_t 405 (by decide +kernel) rfl
theorem tw406 : Cond.code yX6_edge cX6_edge 3 (some .boolean) ∈ eT := eT_t 406 (by decide +kernel) rfl
theorem tw407 : Cond.methodLink "EdgeFinderModel" 62 yX6_bad ∈ eT := eT_t 407 (by decide +kernel) rfl
theorem tw409 : Cond.instanceMethod yX6_bad ∈ eT := eT_t 409 (by decide +kernel) rfl
theorem tw410 : Cond.code yX6_bad cX6_bad 3 (some .boolean) ∈ eT := eT_t 410 (by decide +kernel) rfl
theorem tw411 : Cond.methodLink "EdgeFinderModel" 66 yX6_boundary ∈ eT := eT_t 411 (by decide +kernel) rfl
theorem tw413 : Cond.instanceMethod yX6_boundary ∈ eT := eT_t 413 (by decide +kernel) rfl
theorem tw414 : Cond.code yX6_boundary cX6_boundary 3 (some .boolean) ∈ eT := eT_t 414 (by decide +kernel) rfl
theorem tw415 : Cond.methodLink "EdgeFinderModel" 27 yX6_cluster ∈ eT := eT_t 415 (by decide +kernel) rfl
theorem tw417 : Cond.instanceMethod yX6_cluster ∈ eT := eT_t 417 (by decide +kernel) rfl
theorem tw418 : Cond.code yX6_cluster cX6_cluster 6 (some .boolean) ∈ eT := eT_t 418 (by decide +kernel) rfl
theorem tw419 : Cond.methodLink "EdgeFinderModel" 31 yX6_word ∈ eT := eT_t 419 (by decide +kernel) rfl
theorem tw421 : Cond.instanceMethod yX6_word ∈ eT := eT_t 421 (by decide +kernel) rfl
theorem tw422 : Cond.code yX6_word cX6_word 13 (some .boolean) ∈ eT := eT_t 422 (by decide +kernel) rfl
theorem tw423 : Cond.methodLink "EdgeFinderModel" 37 yX6_breaks ∈ eT := eT_t 423 (by decide +kernel) rfl
theorem tw425 : Cond.instanceMethod yX6_breaks ∈ eT := eT_t 425 (by decide +kernel) rfl
theorem tw426 : Cond.code yX6_breaks cX6_breaks 2 (some .boolean) ∈ eT := eT_t 426 (by decide +kernel) rfl
theorem tw427 : Cond.methodLink "EdgeFinderModel" 34 yX6_passed ∈ eT := eT_t 427 (by decide +kernel) rfl
theorem tw429 : Cond.instanceMethod yX6_passed ∈ eT := eT_t 429 (by decide +kernel) rfl
theorem tw430 : Cond.code yX6_passed cX6_passed 2 (some .boolean) ∈ eT := eT_t 430 (by decide +kernel) rfl
theorem tw431 : Cond.methodLink "EdgeFinderModel" 44 yX6_before ∈ eT := eT_t 431 (by decide +kernel) rfl
theorem tw433 : Cond.instanceMethod yX6_before ∈ eT := eT_t 433 (by decide +kernel) rfl
theorem tw434 : Cond.code yX6_before cX6_before 2 (some .int) ∈ eT := eT_t 434 (by decide +kernel) rfl
theorem tw435 : Cond.methodLink "EdgeFinderModel" 40 yX6_counts ∈ eT := eT_t 435 (by decide +kernel) rfl
theorem tw437 : Cond.instanceMethod yX6_counts ∈ eT := eT_t 437 (by decide +kernel) rfl
theorem tw438 : Cond.code yX6_counts cX6_counts 3 (some .int) ∈ eT := eT_t 438 (by decide +kernel) rfl
theorem tw439 : Cond.methodLink "EdgeFinderModel" 47 yX6_wordKind ∈ eT := eT_t 439 (by decide +kernel) rfl
theorem tw441 : Cond.instanceMethod yX6_wordKind ∈ eT := eT_t 441 (by decide +kernel) rfl
theorem tw442 : Cond.code yX6_wordKind cX6_wordKind 2 (some .int) ∈ eT := eT_t 442 (by decide +kernel) rfl
theorem tw443 : Cond.methodLink "EdgeFinderModel" 50 yX6_after ∈ eT := eT_t 443 (by decide +kernel) rfl
theorem tw445 : Cond.instanceMethod yX6_after ∈ eT := eT_t 445 (by decide +kernel) rfl
theorem tw446 : Cond.code yX6_after cX6_after 3 (some .int) ∈ eT := eT_t 446 (by decide +kernel) rfl
theorem tw447 : Cond.methodLink "EdgeFinderModel" 53 yX6_letter ∈ eT := eT_t 447 (by decide +kernel) rfl
theorem tw449 : Cond.instanceMethod yX6_letter ∈ eT := eT_t 449 (by decide +kernel) rfl
theorem tw450 : Cond.code yX6_letter cX6_letter 2 (some .boolean) ∈ eT := eT_t 450 (by decide +kernel) rfl
theorem tw451 : Cond.methodLink "EdgeFinderModel" 56 yX6_quote ∈ eT := eT_t 451 (by decide +kernel) rfl
theorem tw453 : Cond.instanceMethod yX6_quote ∈ eT := eT_t 453 (by decide +kernel) rfl
theorem tw454 : Cond.code yX6_quote cX6_quote 2 (some .boolean) ∈ eT := eT_t 454 (by decide +kernel) rfl
theorem tw455 : Cond.methodLink "EdgeFinderLaw" 67 yX6_next ∈ eT := eT_t 455 (by decide +kernel) rfl
theorem tw456 : Cond.instanceMethod yX6_next ∈ eT := eT_t 456 (by decide +kernel) rfl
theorem tw457 : Cond.selects "EdgeFinderModel" yX6_next yX6_next ∈ eT := eT_t 457 (by decide +kernel) rfl
theorem tw458 : Cond.code yX6_next cX6_next 6 (some .int) ∈ eT := eT_t 458 (by decide +kernel) rfl
theorem tw459 : Cond.methodLink "EdgeFinderLaw" 70 yX6_rank ∈ eT := eT_t 459 (by decide +kernel) rfl
theorem tw460 : Cond.instanceMethod yX6_rank ∈ eT := eT_t 460 (by decide +kernel) rfl
theorem tw461 : Cond.selects "EdgeFinderModel" yX6_rank yX6_rank ∈ eT := eT_t 461 (by decide +kernel) rfl
theorem tw462 : Cond.code yX6_rank cX6_rank 5 (some .int) ∈ eT := eT_t 462 (by decide +kernel) rfl
theorem tw463 : Cond.methodLink "EdgeFinderLaw" 73 yX6_hash ∈ eT := eT_t 463 (by decide +kernel) rfl
theorem tw464 : Cond.instanceMethod yX6_hash ∈ eT := eT_t 464 (by decide +kernel) rfl
theorem tw465 : Cond.selects "EdgeFinderModel" yX6_hash yX6_hash ∈ eT := eT_t 465 (by decide +kernel) rfl
theorem tw466 : Cond.code yX6_hash cX6_hash 4 (some .int) ∈ eT := eT_t 466 (by decide +kernel) rfl
theorem tw467 : Cond.arrayClass .long ∈ eT := eT_t 467 (by decide +kernel) rfl
theorem ts_X5_forgetEdges : Cond.selects RX5 yX5_forgetEdges yX5_forgetEdges ∈ eT := eT_p 1 (by decide +kernel) rfl
theorem ts_X5_edgesOf : Cond.selects RX5 yX5_edgesOf yX5_edgesOf ∈ eT := eT_p 2 (by decide +kernel) rfl
theorem ts_X1_isSyllable : Cond.selects RX1 yX1_isSyllable yX1_isSyllable ∈ eT := eT_p 3 (by decide +kernel) rfl
theorem ts_X4_joinsLetters : Cond.selects RX4 yX4_joinsLetters yX4_joinsLetters ∈ eT := eT_p 4 (by decide +kernel) rfl
theorem ts_X4_joinsHebrew : Cond.selects RX4 yX4_joinsHebrew yX4_joinsHebrew ∈ eT := eT_p 5 (by decide +kernel) rfl
theorem ts_X4_joinsNumbers : Cond.selects RX4 yX4_joinsNumbers yX4_joinsNumbers ∈ eT := eT_p 6 (by decide +kernel) rfl
theorem ts_X4_joinsRuns : Cond.selects RX4 yX4_joinsRuns yX4_joinsRuns ∈ eT := eT_p 7 (by decide +kernel) rfl
theorem ts_X6_fail : Cond.selects RX6 yX6_fail yX6_fail ∈ eT := eT_p 8 (by decide +kernel) rfl
theorem ts_X6_bad : Cond.selects RX6 yX6_bad yX6_bad ∈ eT := eT_p 9 (by decide +kernel) rfl
theorem ts_X6_boundary : Cond.selects RX6 yX6_boundary yX6_boundary ∈ eT := eT_p 10 (by decide +kernel) rfl
theorem ts_X6_cluster : Cond.selects RX6 yX6_cluster yX6_cluster ∈ eT := eT_p 11 (by decide +kernel) rfl
theorem ts_X6_word : Cond.selects RX6 yX6_word yX6_word ∈ eT := eT_p 12 (by decide +kernel) rfl
theorem ts_X6_breaks : Cond.selects RX6 yX6_breaks yX6_breaks ∈ eT := eT_p 13 (by decide +kernel) rfl
theorem ts_X6_passed : Cond.selects RX6 yX6_passed yX6_passed ∈ eT := eT_p 14 (by decide +kernel) rfl
theorem ts_X6_before : Cond.selects RX6 yX6_before yX6_before ∈ eT := eT_p 15 (by decide +kernel) rfl
theorem ts_X6_counts : Cond.selects RX6 yX6_counts yX6_counts ∈ eT := eT_p 16 (by decide +kernel) rfl
theorem ts_X6_wordKind : Cond.selects RX6 yX6_wordKind yX6_wordKind ∈ eT := eT_p 17 (by decide +kernel) rfl
theorem ts_X6_after : Cond.selects RX6 yX6_after yX6_after ∈ eT := eT_p 18 (by decide +kernel) rfl
theorem ts_X6_letter : Cond.selects RX6 yX6_letter yX6_letter ∈ eT := eT_p 19 (by decide +kernel) rfl
theorem ts_X6_quote : Cond.selects RX6 yX6_quote yX6_quote ∈ eT := eT_p 20 (by decide +kernel) rfl
theorem inX0 : ∀ w ∈ u_ws RX0 TX0 3, w ∈ eT := by
  intro w h
  obtain ⟨k, hk, rfl⟩ := List.mem_map.mp h
  have hk : k < 3 := List.mem_range.mp hk
  match k, hk with
  | 0, _ => exact tw82
  | 1, _ => exact tw84
  | 2, _ => exact tw86
theorem inX1 : ∀ w ∈ u_ws RX1 TX1 4, w ∈ eT := by
  intro w h
  obtain ⟨k, hk, rfl⟩ := List.mem_map.mp h
  have hk : k < 4 := List.mem_range.mp hk
  match k, hk with
  | 0, _ => exact tw64
  | 1, _ => exact tw66
  | 2, _ => exact tw68
  | 3, _ => exact tw70
theorem inX2 : ∀ w ∈ u_ws RX2 TX2 4, w ∈ eT := by
  intro w h
  obtain ⟨k, hk, rfl⟩ := List.mem_map.mp h
  have hk : k < 4 := List.mem_range.mp hk
  match k, hk with
  | 0, _ => exact tw38
  | 1, _ => exact tw40
  | 2, _ => exact tw42
  | 3, _ => exact tw44
theorem inX4 : ∀ w ∈ u_ws RX4 TX4 4, w ∈ eT := by
  intro w h
  obtain ⟨k, hk, rfl⟩ := List.mem_map.mp h
  have hk : k < 4 := List.mem_range.mp hk
  match k, hk with
  | 0, _ => exact tw99
  | 1, _ => exact tw101
  | 2, _ => exact tw103
  | 3, _ => exact tw105
theorem inX5 : ∀ w ∈ u_ws RX5 TX5 3, w ∈ eT := by
  intro w h
  obtain ⟨k, hk, rfl⟩ := List.mem_map.mp h
  have hk : k < 3 := List.mem_range.mp hk
  match k, hk with
  | 0, _ => exact tw111
  | 1, _ => exact tw113
  | 2, _ => exact tw115
theorem inX6 : ∀ w ∈ u_ws RX6 TX6 5, w ∈ eT := by
  intro w h
  obtain ⟨k, hk, rfl⟩ := List.mem_map.mp h
  have hk : k < 5 := List.mem_range.mp hk
  match k, hk with
  | 0, _ => exact tw372
  | 1, _ => exact tw374
  | 2, _ => exact tw376
  | 3, _ => exact tw378
  | 4, _ => exact tw380
theorem yd_X5_init : yX5_init.cls ≠ "java/lang/invoke/MethodHandle" ∧ yX5_init.cls ≠ "java/lang/invoke/VarHandle" ∧ (parseMethodDescriptor yX5_init.desc).map (fun d => d.parameters.length) = some 0 := by decide +kernel
theorem yd_X2_init : yX2_init.cls ≠ "java/lang/invoke/MethodHandle" ∧ yX2_init.cls ≠ "java/lang/invoke/VarHandle" ∧ (parseMethodDescriptor yX2_init.desc).map (fun d => d.parameters.length) = some 0 := by decide +kernel
theorem yd_X1_init : yX1_init.cls ≠ "java/lang/invoke/MethodHandle" ∧ yX1_init.cls ≠ "java/lang/invoke/VarHandle" ∧ (parseMethodDescriptor yX1_init.desc).map (fun d => d.parameters.length) = some 0 := by decide +kernel
theorem yd_X3_init : yX3_init.cls ≠ "java/lang/invoke/MethodHandle" ∧ yX3_init.cls ≠ "java/lang/invoke/VarHandle" ∧ (parseMethodDescriptor yX3_init.desc).map (fun d => d.parameters.length) = some 0 := by decide +kernel
theorem yd_X0_init : yX0_init.cls ≠ "java/lang/invoke/MethodHandle" ∧ yX0_init.cls ≠ "java/lang/invoke/VarHandle" ∧ (parseMethodDescriptor yX0_init.desc).map (fun d => d.parameters.length) = some 1 := by decide +kernel
theorem yd_X4_init : yX4_init.cls ≠ "java/lang/invoke/MethodHandle" ∧ yX4_init.cls ≠ "java/lang/invoke/VarHandle" ∧ (parseMethodDescriptor yX4_init.desc).map (fun d => d.parameters.length) = some 0 := by decide +kernel
theorem yd_L_add : yL_add.cls ≠ "java/lang/invoke/MethodHandle" ∧ yL_add.cls ≠ "java/lang/invoke/VarHandle" ∧ (parseMethodDescriptor yL_add.desc).map (fun d => d.parameters.length) = some 5 := by decide +kernel
theorem yd_X5_add : yX5_add.cls ≠ "java/lang/invoke/MethodHandle" ∧ yX5_add.cls ≠ "java/lang/invoke/VarHandle" ∧ (parseMethodDescriptor yX5_add.desc).map (fun d => d.parameters.length) = some 3 := by decide +kernel
theorem yd_X5_requireUpTo : yX5_requireUpTo.cls ≠ "java/lang/invoke/MethodHandle" ∧ yX5_requireUpTo.cls ≠ "java/lang/invoke/VarHandle" ∧ (parseMethodDescriptor yX5_requireUpTo.desc).map (fun d => d.parameters.length) = some 2 := by decide +kernel
theorem yd_X2_write : yX2_write.cls ≠ "java/lang/invoke/MethodHandle" ∧ yX2_write.cls ≠ "java/lang/invoke/VarHandle" ∧ (parseMethodDescriptor yX2_write.desc).map (fun d => d.parameters.length) = some 4 := by decide +kernel
theorem yd_X5_forgetEdges : yX5_forgetEdges.cls ≠ "java/lang/invoke/MethodHandle" ∧ yX5_forgetEdges.cls ≠ "java/lang/invoke/VarHandle" ∧ (parseMethodDescriptor yX5_forgetEdges.desc).map (fun d => d.parameters.length) = some 0 := by decide +kernel
theorem yd_L_set : yL_set.cls ≠ "java/lang/invoke/MethodHandle" ∧ yL_set.cls ≠ "java/lang/invoke/VarHandle" ∧ (parseMethodDescriptor yL_set.desc).map (fun d => d.parameters.length) = some 5 := by decide +kernel
theorem yd_X5_set : yX5_set.cls ≠ "java/lang/invoke/MethodHandle" ∧ yX5_set.cls ≠ "java/lang/invoke/VarHandle" ∧ (parseMethodDescriptor yX5_set.desc).map (fun d => d.parameters.length) = some 4 := by decide +kernel
theorem yd_L_cut : yL_cut.cls ≠ "java/lang/invoke/MethodHandle" ∧ yL_cut.cls ≠ "java/lang/invoke/VarHandle" ∧ (parseMethodDescriptor yL_cut.desc).map (fun d => d.parameters.length) = some 3 := by decide +kernel
theorem yd_X5_cut : yX5_cut.cls ≠ "java/lang/invoke/MethodHandle" ∧ yX5_cut.cls ≠ "java/lang/invoke/VarHandle" ∧ (parseMethodDescriptor yX5_cut.desc).map (fun d => d.parameters.length) = some 1 := by decide +kernel
theorem yd_L_edge : yL_edge.cls ≠ "java/lang/invoke/MethodHandle" ∧ yL_edge.cls ≠ "java/lang/invoke/VarHandle" ∧ (parseMethodDescriptor yL_edge.desc).map (fun d => d.parameters.length) = some 4 := by decide +kernel
theorem yd_X5_edge : yX5_edge.cls ≠ "java/lang/invoke/MethodHandle" ∧ yX5_edge.cls ≠ "java/lang/invoke/VarHandle" ∧ (parseMethodDescriptor yX5_edge.desc).map (fun d => d.parameters.length) = some 2 := by decide +kernel
theorem yd_X5_edgesOf : yX5_edgesOf.cls ≠ "java/lang/invoke/MethodHandle" ∧ yX5_edgesOf.cls ≠ "java/lang/invoke/VarHandle" ∧ (parseMethodDescriptor yX5_edgesOf.desc).map (fun d => d.parameters.length) = some 1 := by decide +kernel
theorem yd_X0_find : yX0_find.cls ≠ "java/lang/invoke/MethodHandle" ∧ yX0_find.cls ≠ "java/lang/invoke/VarHandle" ∧ (parseMethodDescriptor yX0_find.desc).map (fun d => d.parameters.length) = some 1 := by decide +kernel
theorem yd_X1_begin : yX1_begin.cls ≠ "java/lang/invoke/MethodHandle" ∧ yX1_begin.cls ≠ "java/lang/invoke/VarHandle" ∧ (parseMethodDescriptor yX1_begin.desc).map (fun d => d.parameters.length) = some 0 := by decide +kernel
theorem yd_X4_begin : yX4_begin.cls ≠ "java/lang/invoke/MethodHandle" ∧ yX4_begin.cls ≠ "java/lang/invoke/VarHandle" ∧ (parseMethodDescriptor yX4_begin.desc).map (fun d => d.parameters.length) = some 0 := by decide +kernel
theorem yd_X1_part : yX1_part.cls ≠ "java/lang/invoke/MethodHandle" ∧ yX1_part.cls ≠ "java/lang/invoke/VarHandle" ∧ (parseMethodDescriptor yX1_part.desc).map (fun d => d.parameters.length) = some 2 := by decide +kernel
theorem yd_X1_isControl : yX1_isControl.cls ≠ "java/lang/invoke/MethodHandle" ∧ yX1_isControl.cls ≠ "java/lang/invoke/VarHandle" ∧ (parseMethodDescriptor yX1_isControl.desc).map (fun d => d.parameters.length) = some 1 := by decide +kernel
theorem yd_X1_isSyllable : yX1_isSyllable.cls ≠ "java/lang/invoke/MethodHandle" ∧ yX1_isSyllable.cls ≠ "java/lang/invoke/VarHandle" ∧ (parseMethodDescriptor yX1_isSyllable.desc).map (fun d => d.parameters.length) = some 1 := by decide +kernel
theorem yd_X4_part : yX4_part.cls ≠ "java/lang/invoke/MethodHandle" ∧ yX4_part.cls ≠ "java/lang/invoke/VarHandle" ∧ (parseMethodDescriptor yX4_part.desc).map (fun d => d.parameters.length) = some 2 := by decide +kernel
theorem yd_X4_isLineEnd : yX4_isLineEnd.cls ≠ "java/lang/invoke/MethodHandle" ∧ yX4_isLineEnd.cls ≠ "java/lang/invoke/VarHandle" ∧ (parseMethodDescriptor yX4_isLineEnd.desc).map (fun d => d.parameters.length) = some 1 := by decide +kernel
theorem yd_X4_isAttached : yX4_isAttached.cls ≠ "java/lang/invoke/MethodHandle" ∧ yX4_isAttached.cls ≠ "java/lang/invoke/VarHandle" ∧ (parseMethodDescriptor yX4_isAttached.desc).map (fun d => d.parameters.length) = some 1 := by decide +kernel
theorem yd_X4_classAhead : yX4_classAhead.cls ≠ "java/lang/invoke/MethodHandle" ∧ yX4_classAhead.cls ≠ "java/lang/invoke/VarHandle" ∧ (parseMethodDescriptor yX4_classAhead.desc).map (fun d => d.parameters.length) = some 2 := by decide +kernel
theorem yd_X4_joinsLetters : yX4_joinsLetters.cls ≠ "java/lang/invoke/MethodHandle" ∧ yX4_joinsLetters.cls ≠ "java/lang/invoke/VarHandle" ∧ (parseMethodDescriptor yX4_joinsLetters.desc).map (fun d => d.parameters.length) = some 2 := by decide +kernel
theorem yd_X4_isLetter : yX4_isLetter.cls ≠ "java/lang/invoke/MethodHandle" ∧ yX4_isLetter.cls ≠ "java/lang/invoke/VarHandle" ∧ (parseMethodDescriptor yX4_isLetter.desc).map (fun d => d.parameters.length) = some 1 := by decide +kernel
theorem yd_X4_isMidLetter : yX4_isMidLetter.cls ≠ "java/lang/invoke/MethodHandle" ∧ yX4_isMidLetter.cls ≠ "java/lang/invoke/VarHandle" ∧ (parseMethodDescriptor yX4_isMidLetter.desc).map (fun d => d.parameters.length) = some 1 := by decide +kernel
theorem yd_X4_isMidOfBoth : yX4_isMidOfBoth.cls ≠ "java/lang/invoke/MethodHandle" ∧ yX4_isMidOfBoth.cls ≠ "java/lang/invoke/VarHandle" ∧ (parseMethodDescriptor yX4_isMidOfBoth.desc).map (fun d => d.parameters.length) = some 1 := by decide +kernel
theorem yd_X4_joinsHebrew : yX4_joinsHebrew.cls ≠ "java/lang/invoke/MethodHandle" ∧ yX4_joinsHebrew.cls ≠ "java/lang/invoke/VarHandle" ∧ (parseMethodDescriptor yX4_joinsHebrew.desc).map (fun d => d.parameters.length) = some 2 := by decide +kernel
theorem yd_X4_joinsNumbers : yX4_joinsNumbers.cls ≠ "java/lang/invoke/MethodHandle" ∧ yX4_joinsNumbers.cls ≠ "java/lang/invoke/VarHandle" ∧ (parseMethodDescriptor yX4_joinsNumbers.desc).map (fun d => d.parameters.length) = some 2 := by decide +kernel
theorem yd_X4_isMidNumber : yX4_isMidNumber.cls ≠ "java/lang/invoke/MethodHandle" ∧ yX4_isMidNumber.cls ≠ "java/lang/invoke/VarHandle" ∧ (parseMethodDescriptor yX4_isMidNumber.desc).map (fun d => d.parameters.length) = some 1 := by decide +kernel
theorem yd_X4_joinsRuns : yX4_joinsRuns.cls ≠ "java/lang/invoke/MethodHandle" ∧ yX4_joinsRuns.cls ≠ "java/lang/invoke/VarHandle" ∧ (parseMethodDescriptor yX4_joinsRuns.desc).map (fun d => d.parameters.length) = some 1 := by decide +kernel
theorem yd_X4_isRunPart : yX4_isRunPart.cls ≠ "java/lang/invoke/MethodHandle" ∧ yX4_isRunPart.cls ≠ "java/lang/invoke/VarHandle" ∧ (parseMethodDescriptor yX4_isRunPart.desc).map (fun d => d.parameters.length) = some 1 := by decide +kernel
theorem yd_X1_pass : yX1_pass.cls ≠ "java/lang/invoke/MethodHandle" ∧ yX1_pass.cls ≠ "java/lang/invoke/VarHandle" ∧ (parseMethodDescriptor yX1_pass.desc).map (fun d => d.parameters.length) = some 2 := by decide +kernel
theorem yd_X4_pass : yX4_pass.cls ≠ "java/lang/invoke/MethodHandle" ∧ yX4_pass.cls ≠ "java/lang/invoke/VarHandle" ∧ (parseMethodDescriptor yX4_pass.desc).map (fun d => d.parameters.length) = some 2 := by decide +kernel
theorem yd_L_next : yL_next.cls ≠ "java/lang/invoke/MethodHandle" ∧ yL_next.cls ≠ "java/lang/invoke/VarHandle" ∧ (parseMethodDescriptor yL_next.desc).map (fun d => d.parameters.length) = some 5 := by decide +kernel
theorem yd_X5_next : yX5_next.cls ≠ "java/lang/invoke/MethodHandle" ∧ yX5_next.cls ≠ "java/lang/invoke/VarHandle" ∧ (parseMethodDescriptor yX5_next.desc).map (fun d => d.parameters.length) = some 3 := by decide +kernel
theorem yd_X0_lastBefore : yX0_lastBefore.cls ≠ "java/lang/invoke/MethodHandle" ∧ yX0_lastBefore.cls ≠ "java/lang/invoke/VarHandle" ∧ (parseMethodDescriptor yX0_lastBefore.desc).map (fun d => d.parameters.length) = some 1 := by decide +kernel
theorem yd_X0_firstBehind : yX0_firstBehind.cls ≠ "java/lang/invoke/MethodHandle" ∧ yX0_firstBehind.cls ≠ "java/lang/invoke/VarHandle" ∧ (parseMethodDescriptor yX0_firstBehind.desc).map (fun d => d.parameters.length) = some 2 := by decide +kernel
theorem yd_L_rank : yL_rank.cls ≠ "java/lang/invoke/MethodHandle" ∧ yL_rank.cls ≠ "java/lang/invoke/VarHandle" ∧ (parseMethodDescriptor yL_rank.desc).map (fun d => d.parameters.length) = some 4 := by decide +kernel
theorem yd_X5_rank : yX5_rank.cls ≠ "java/lang/invoke/MethodHandle" ∧ yX5_rank.cls ≠ "java/lang/invoke/VarHandle" ∧ (parseMethodDescriptor yX5_rank.desc).map (fun d => d.parameters.length) = some 2 := by decide +kernel
theorem yd_X0_countUpTo : yX0_countUpTo.cls ≠ "java/lang/invoke/MethodHandle" ∧ yX0_countUpTo.cls ≠ "java/lang/invoke/VarHandle" ∧ (parseMethodDescriptor yX0_countUpTo.desc).map (fun d => d.parameters.length) = some 1 := by decide +kernel
theorem yd_L_hash : yL_hash.cls ≠ "java/lang/invoke/MethodHandle" ∧ yL_hash.cls ≠ "java/lang/invoke/VarHandle" ∧ (parseMethodDescriptor yL_hash.desc).map (fun d => d.parameters.length) = some 3 := by decide +kernel
theorem yd_X5_hash : yX5_hash.cls ≠ "java/lang/invoke/MethodHandle" ∧ yX5_hash.cls ≠ "java/lang/invoke/VarHandle" ∧ (parseMethodDescriptor yX5_hash.desc).map (fun d => d.parameters.length) = some 1 := by decide +kernel
theorem yd_X0_mixUpTo : yX0_mixUpTo.cls ≠ "java/lang/invoke/MethodHandle" ∧ yX0_mixUpTo.cls ≠ "java/lang/invoke/VarHandle" ∧ (parseMethodDescriptor yX0_mixUpTo.desc).map (fun d => d.parameters.length) = some 1 := by decide +kernel
theorem yd_X6_init : yX6_init.cls ≠ "java/lang/invoke/MethodHandle" ∧ yX6_init.cls ≠ "java/lang/invoke/VarHandle" ∧ (parseMethodDescriptor yX6_init.desc).map (fun d => d.parameters.length) = some 0 := by decide +kernel
theorem yd_X6_thrown : yX6_thrown.cls ≠ "java/lang/invoke/MethodHandle" ∧ yX6_thrown.cls ≠ "java/lang/invoke/VarHandle" ∧ (parseMethodDescriptor yX6_thrown.desc).map (fun d => d.parameters.length) = some 0 := by decide +kernel
theorem yd_X6_add : yX6_add.cls ≠ "java/lang/invoke/MethodHandle" ∧ yX6_add.cls ≠ "java/lang/invoke/VarHandle" ∧ (parseMethodDescriptor yX6_add.desc).map (fun d => d.parameters.length) = some 3 := by decide +kernel
theorem yd_X6_fail : yX6_fail.cls ≠ "java/lang/invoke/MethodHandle" ∧ yX6_fail.cls ≠ "java/lang/invoke/VarHandle" ∧ (parseMethodDescriptor yX6_fail.desc).map (fun d => d.parameters.length) = some 1 := by decide +kernel
theorem yd_X6_set : yX6_set.cls ≠ "java/lang/invoke/MethodHandle" ∧ yX6_set.cls ≠ "java/lang/invoke/VarHandle" ∧ (parseMethodDescriptor yX6_set.desc).map (fun d => d.parameters.length) = some 4 := by decide +kernel
theorem yd_X6_cut : yX6_cut.cls ≠ "java/lang/invoke/MethodHandle" ∧ yX6_cut.cls ≠ "java/lang/invoke/VarHandle" ∧ (parseMethodDescriptor yX6_cut.desc).map (fun d => d.parameters.length) = some 1 := by decide +kernel
theorem yd_X6_edge : yX6_edge.cls ≠ "java/lang/invoke/MethodHandle" ∧ yX6_edge.cls ≠ "java/lang/invoke/VarHandle" ∧ (parseMethodDescriptor yX6_edge.desc).map (fun d => d.parameters.length) = some 2 := by decide +kernel
theorem yd_X6_bad : yX6_bad.cls ≠ "java/lang/invoke/MethodHandle" ∧ yX6_bad.cls ≠ "java/lang/invoke/VarHandle" ∧ (parseMethodDescriptor yX6_bad.desc).map (fun d => d.parameters.length) = some 2 := by decide +kernel
theorem yd_X6_boundary : yX6_boundary.cls ≠ "java/lang/invoke/MethodHandle" ∧ yX6_boundary.cls ≠ "java/lang/invoke/VarHandle" ∧ (parseMethodDescriptor yX6_boundary.desc).map (fun d => d.parameters.length) = some 2 := by decide +kernel
theorem yd_X6_cluster : yX6_cluster.cls ≠ "java/lang/invoke/MethodHandle" ∧ yX6_cluster.cls ≠ "java/lang/invoke/VarHandle" ∧ (parseMethodDescriptor yX6_cluster.desc).map (fun d => d.parameters.length) = some 1 := by decide +kernel
theorem yd_X6_word : yX6_word.cls ≠ "java/lang/invoke/MethodHandle" ∧ yX6_word.cls ≠ "java/lang/invoke/VarHandle" ∧ (parseMethodDescriptor yX6_word.desc).map (fun d => d.parameters.length) = some 1 := by decide +kernel
theorem yd_X6_breaks : yX6_breaks.cls ≠ "java/lang/invoke/MethodHandle" ∧ yX6_breaks.cls ≠ "java/lang/invoke/VarHandle" ∧ (parseMethodDescriptor yX6_breaks.desc).map (fun d => d.parameters.length) = some 1 := by decide +kernel
theorem yd_X6_passed : yX6_passed.cls ≠ "java/lang/invoke/MethodHandle" ∧ yX6_passed.cls ≠ "java/lang/invoke/VarHandle" ∧ (parseMethodDescriptor yX6_passed.desc).map (fun d => d.parameters.length) = some 1 := by decide +kernel
theorem yd_X6_before : yX6_before.cls ≠ "java/lang/invoke/MethodHandle" ∧ yX6_before.cls ≠ "java/lang/invoke/VarHandle" ∧ (parseMethodDescriptor yX6_before.desc).map (fun d => d.parameters.length) = some 1 := by decide +kernel
theorem yd_X6_counts : yX6_counts.cls ≠ "java/lang/invoke/MethodHandle" ∧ yX6_counts.cls ≠ "java/lang/invoke/VarHandle" ∧ (parseMethodDescriptor yX6_counts.desc).map (fun d => d.parameters.length) = some 1 := by decide +kernel
theorem yd_X6_wordKind : yX6_wordKind.cls ≠ "java/lang/invoke/MethodHandle" ∧ yX6_wordKind.cls ≠ "java/lang/invoke/VarHandle" ∧ (parseMethodDescriptor yX6_wordKind.desc).map (fun d => d.parameters.length) = some 1 := by decide +kernel
theorem yd_X6_after : yX6_after.cls ≠ "java/lang/invoke/MethodHandle" ∧ yX6_after.cls ≠ "java/lang/invoke/VarHandle" ∧ (parseMethodDescriptor yX6_after.desc).map (fun d => d.parameters.length) = some 1 := by decide +kernel
theorem yd_X6_letter : yX6_letter.cls ≠ "java/lang/invoke/MethodHandle" ∧ yX6_letter.cls ≠ "java/lang/invoke/VarHandle" ∧ (parseMethodDescriptor yX6_letter.desc).map (fun d => d.parameters.length) = some 1 := by decide +kernel
theorem yd_X6_quote : yX6_quote.cls ≠ "java/lang/invoke/MethodHandle" ∧ yX6_quote.cls ≠ "java/lang/invoke/VarHandle" ∧ (parseMethodDescriptor yX6_quote.desc).map (fun d => d.parameters.length) = some 1 := by decide +kernel
theorem yd_X6_next : yX6_next.cls ≠ "java/lang/invoke/MethodHandle" ∧ yX6_next.cls ≠ "java/lang/invoke/VarHandle" ∧ (parseMethodDescriptor yX6_next.desc).map (fun d => d.parameters.length) = some 3 := by decide +kernel
theorem yd_X6_rank : yX6_rank.cls ≠ "java/lang/invoke/MethodHandle" ∧ yX6_rank.cls ≠ "java/lang/invoke/VarHandle" ∧ (parseMethodDescriptor yX6_rank.desc).map (fun d => d.parameters.length) = some 2 := by decide +kernel
theorem yd_X6_hash : yX6_hash.cls ≠ "java/lang/invoke/MethodHandle" ∧ yX6_hash.cls ≠ "java/lang/invoke/VarHandle" ∧ (parseMethodDescriptor yX6_hash.desc).map (fun d => d.parameters.length) = some 1 := by decide +kernel
theorem yd_L_law : yL_law.cls ≠ "java/lang/invoke/MethodHandle" ∧ yL_law.cls ≠ "java/lang/invoke/VarHandle" ∧ (parseMethodDescriptor yL_law.desc).map (fun d => d.parameters.length) = some 1 := by decide +kernel
end
section
theorem dX5_init_0 : decode cX5_init 0 = .ok (.aload_n 0, 1) := by decide +kernel
theorem dX5_init_1 : decode cX5_init 1 = .ok (.invokespecial 1, 3) := by decide +kernel
theorem dX5_init_4 : decode cX5_init 4 = .ok (.aload_n 0, 1) := by decide +kernel
theorem dX5_init_5 : decode cX5_init 5 = .ok (.new 7, 3) := by decide +kernel
theorem dX5_init_8 : decode cX5_init 8 = .ok (.dup, 1) := by decide +kernel
theorem dX5_init_9 : decode cX5_init 9 = .ok (.invokespecial 9, 3) := by decide +kernel
theorem dX5_init_12 : decode cX5_init 12 = .ok (.putfield 10, 3) := by decide +kernel
theorem dX5_init_15 : decode cX5_init 15 = .ok (.aload_n 0, 1) := by decide +kernel
theorem dX5_init_16 : decode cX5_init 16 = .ok (.new 16, 3) := by decide +kernel
theorem dX5_init_19 : decode cX5_init 19 = .ok (.dup, 1) := by decide +kernel
theorem dX5_init_20 : decode cX5_init 20 = .ok (.new 18, 3) := by decide +kernel
theorem dX5_init_23 : decode cX5_init 23 = .ok (.dup, 1) := by decide +kernel
theorem dX5_init_24 : decode cX5_init 24 = .ok (.invokespecial 20, 3) := by decide +kernel
theorem dX5_init_27 : decode cX5_init 27 = .ok (.invokespecial 21, 3) := by decide +kernel
theorem dX5_init_30 : decode cX5_init 30 = .ok (.putfield 24, 3) := by decide +kernel
theorem dX5_init_33 : decode cX5_init 33 = .ok (.aload_n 0, 1) := by decide +kernel
theorem dX5_init_34 : decode cX5_init 34 = .ok (.new 16, 3) := by decide +kernel
theorem dX5_init_37 : decode cX5_init 37 = .ok (.dup, 1) := by decide +kernel
theorem dX5_init_38 : decode cX5_init 38 = .ok (.new 28, 3) := by decide +kernel
theorem dX5_init_41 : decode cX5_init 41 = .ok (.dup, 1) := by decide +kernel
theorem dX5_init_42 : decode cX5_init 42 = .ok (.invokespecial 30, 3) := by decide +kernel
theorem dX5_init_45 : decode cX5_init 45 = .ok (.invokespecial 21, 3) := by decide +kernel
theorem dX5_init_48 : decode cX5_init 48 = .ok (.putfield 31, 3) := by decide +kernel
theorem dX5_init_51 : decode cX5_init 51 = .ok (.return_, 1) := by decide +kernel
theorem dX2_init_0 : decode cX2_init 0 = .ok (.aload_n 0, 1) := by decide +kernel
theorem dX2_init_1 : decode cX2_init 1 = .ok (.invokespecial 3, 3) := by decide +kernel
theorem dX2_init_4 : decode cX2_init 4 = .ok (.aload_n 0, 1) := by decide +kernel
theorem dX2_init_5 : decode cX2_init 5 = .ok (.sipush 1000, 3) := by decide +kernel
theorem dX2_init_8 : decode cX2_init 8 = .ok (.newarray .int, 2) := by decide +kernel
theorem dX2_init_10 : decode cX2_init 10 = .ok (.putfield 9, 3) := by decide +kernel
theorem dX2_init_13 : decode cX2_init 13 = .ok (.aload_n 0, 1) := by decide +kernel
theorem dX2_init_14 : decode cX2_init 14 = .ok (.sipush 1000, 3) := by decide +kernel
theorem dX2_init_17 : decode cX2_init 17 = .ok (.newarray .int, 2) := by decide +kernel
theorem dX2_init_19 : decode cX2_init 19 = .ok (.putfield 15, 3) := by decide +kernel
theorem dX2_init_22 : decode cX2_init 22 = .ok (.aload_n 0, 1) := by decide +kernel
theorem dX2_init_23 : decode cX2_init 23 = .ok (.sipush 1000, 3) := by decide +kernel
theorem dX2_init_26 : decode cX2_init 26 = .ok (.newarray .boolean, 2) := by decide +kernel
theorem dX2_init_28 : decode cX2_init 28 = .ok (.putfield 18, 3) := by decide +kernel
theorem dX2_init_31 : decode cX2_init 31 = .ok (.aload_n 0, 1) := by decide +kernel
theorem dX2_init_32 : decode cX2_init 32 = .ok (.iconst 0, 1) := by decide +kernel
theorem dX2_init_33 : decode cX2_init 33 = .ok (.putfield 22, 3) := by decide +kernel
theorem dX2_init_36 : decode cX2_init 36 = .ok (.return_, 1) := by decide +kernel
theorem dX1_init_0 : decode cX1_init 0 = .ok (.aload_n 0, 1) := by decide +kernel
theorem dX1_init_1 : decode cX1_init 1 = .ok (.invokespecial 3, 3) := by decide +kernel
theorem dX1_init_4 : decode cX1_init 4 = .ok (.aload_n 0, 1) := by decide +kernel
theorem dX1_init_5 : decode cX1_init 5 = .ok (.iconst (-1), 1) := by decide +kernel
theorem dX1_init_6 : decode cX1_init 6 = .ok (.putfield 9, 3) := by decide +kernel
theorem dX1_init_9 : decode cX1_init 9 = .ok (.aload_n 0, 1) := by decide +kernel
theorem dX1_init_10 : decode cX1_init 10 = .ok (.iconst 0, 1) := by decide +kernel
theorem dX1_init_11 : decode cX1_init 11 = .ok (.putfield 15, 3) := by decide +kernel
theorem dX1_init_14 : decode cX1_init 14 = .ok (.aload_n 0, 1) := by decide +kernel
theorem dX1_init_15 : decode cX1_init 15 = .ok (.iconst 0, 1) := by decide +kernel
theorem dX1_init_16 : decode cX1_init 16 = .ok (.putfield 19, 3) := by decide +kernel
theorem dX1_init_19 : decode cX1_init 19 = .ok (.aload_n 0, 1) := by decide +kernel
theorem dX1_init_20 : decode cX1_init 20 = .ok (.iconst 0, 1) := by decide +kernel
theorem dX1_init_21 : decode cX1_init 21 = .ok (.putfield 22, 3) := by decide +kernel
theorem dX1_init_24 : decode cX1_init 24 = .ok (.return_, 1) := by decide +kernel
theorem dX3_init_0 : decode cX3_init 0 = .ok (.aload_n 0, 1) := by decide +kernel
theorem dX3_init_1 : decode cX3_init 1 = .ok (.invokespecial 1, 3) := by decide +kernel
theorem dX3_init_4 : decode cX3_init 4 = .ok (.return_, 1) := by decide +kernel
theorem dX0_init_0 : decode cX0_init 0 = .ok (.aload_n 0, 1) := by decide +kernel
theorem dX0_init_1 : decode cX0_init 1 = .ok (.invokespecial 3, 3) := by decide +kernel
theorem dX0_init_4 : decode cX0_init 4 = .ok (.aload_n 0, 1) := by decide +kernel
theorem dX0_init_5 : decode cX0_init 5 = .ok (.sipush 1001, 3) := by decide +kernel
theorem dX0_init_8 : decode cX0_init 8 = .ok (.newarray .boolean, 2) := by decide +kernel
theorem dX0_init_10 : decode cX0_init 10 = .ok (.putfield 9, 3) := by decide +kernel
theorem dX0_init_13 : decode cX0_init 13 = .ok (.aload_n 0, 1) := by decide +kernel
theorem dX0_init_14 : decode cX0_init 14 = .ok (.iconst 1, 1) := by decide +kernel
theorem dX0_init_15 : decode cX0_init 15 = .ok (.putfield 15, 3) := by decide +kernel
theorem dX0_init_18 : decode cX0_init 18 = .ok (.aload_n 0, 1) := by decide +kernel
theorem dX0_init_19 : decode cX0_init 19 = .ok (.aload_n 1, 1) := by decide +kernel
theorem dX0_init_20 : decode cX0_init 20 = .ok (.putfield 19, 3) := by decide +kernel
theorem dX0_init_23 : decode cX0_init 23 = .ok (.return_, 1) := by decide +kernel
theorem dX4_init_0 : decode cX4_init 0 = .ok (.aload_n 0, 1) := by decide +kernel
theorem dX4_init_1 : decode cX4_init 1 = .ok (.invokespecial 3, 3) := by decide +kernel
theorem dX4_init_4 : decode cX4_init 4 = .ok (.aload_n 0, 1) := by decide +kernel
theorem dX4_init_5 : decode cX4_init 5 = .ok (.iconst (-1), 1) := by decide +kernel
theorem dX4_init_6 : decode cX4_init 6 = .ok (.putfield 9, 3) := by decide +kernel
theorem dX4_init_9 : decode cX4_init 9 = .ok (.aload_n 0, 1) := by decide +kernel
theorem dX4_init_10 : decode cX4_init 10 = .ok (.iconst (-1), 1) := by decide +kernel
theorem dX4_init_11 : decode cX4_init 11 = .ok (.putfield 15, 3) := by decide +kernel
theorem dX4_init_14 : decode cX4_init 14 = .ok (.aload_n 0, 1) := by decide +kernel
theorem dX4_init_15 : decode cX4_init 15 = .ok (.iconst (-1), 1) := by decide +kernel
theorem dX4_init_16 : decode cX4_init 16 = .ok (.putfield 18, 3) := by decide +kernel
theorem dX4_init_19 : decode cX4_init 19 = .ok (.aload_n 0, 1) := by decide +kernel
theorem dX4_init_20 : decode cX4_init 20 = .ok (.iconst 0, 1) := by decide +kernel
theorem dX4_init_21 : decode cX4_init 21 = .ok (.putfield 21, 3) := by decide +kernel
theorem dX4_init_24 : decode cX4_init 24 = .ok (.return_, 1) := by decide +kernel
theorem dL_add_0 : decode cL_add 0 = .ok (.aload 4, 2) := by decide +kernel
theorem dL_add_2 : decode cL_add 2 = .ok (.iconst 0, 1) := by decide +kernel
theorem dL_add_3 : decode cL_add 3 = .ok (.aload_n 0, 1) := by decide +kernel
theorem dL_add_4 : decode cL_add 4 = .ok (.iload_n 1, 1) := by decide +kernel
theorem dL_add_5 : decode cL_add 5 = .ok (.iload_n 2, 1) := by decide +kernel
theorem dL_add_6 : decode cL_add 6 = .ok (.iload_n 3, 1) := by decide +kernel
theorem dL_add_7 : decode cL_add 7 = .ok (.invokevirtual 7, 3) := by decide +kernel
theorem dL_add_10 : decode cL_add 10 = .ok (.i2l, 1) := by decide +kernel
theorem dL_add_11 : decode cL_add 11 = .ok (.lastore, 1) := by decide +kernel
theorem dL_add_12 : decode cL_add 12 = .ok (.goto 11, 3) := by decide +kernel
theorem dL_add_15 : decode cL_add 15 = .ok (.astore 5, 2) := by decide +kernel
theorem dL_add_17 : decode cL_add 17 = .ok (.iconst 1, 1) := by decide +kernel
theorem dL_add_18 : decode cL_add 18 = .ok (.ireturn, 1) := by decide +kernel
theorem dL_add_19 : decode cL_add 19 = .ok (.astore 5, 2) := by decide +kernel
theorem dL_add_21 : decode cL_add 21 = .ok (.iconst 2, 1) := by decide +kernel
theorem dL_add_22 : decode cL_add 22 = .ok (.ireturn, 1) := by decide +kernel
theorem dL_add_23 : decode cL_add 23 = .ok (.iconst 0, 1) := by decide +kernel
theorem dL_add_24 : decode cL_add 24 = .ok (.ireturn, 1) := by decide +kernel
theorem dX5_add_0 : decode cX5_add 0 = .ok (.iload_n 1, 1) := by decide +kernel
theorem dX5_add_1 : decode cX5_add 1 = .ok (.bipush 13, 2) := by decide +kernel
theorem dX5_add_3 : decode cX5_add 3 = .ok (.invokestatic 34, 3) := by decide +kernel
theorem dX5_add_6 : decode cX5_add 6 = .ok (.iload_n 2, 1) := by decide +kernel
theorem dX5_add_7 : decode cX5_add 7 = .ok (.bipush 18, 2) := by decide +kernel
theorem dX5_add_9 : decode cX5_add 9 = .ok (.invokestatic 34, 3) := by decide +kernel
theorem dX5_add_12 : decode cX5_add 12 = .ok (.aload_n 0, 1) := by decide +kernel
theorem dX5_add_13 : decode cX5_add 13 = .ok (.getfield 10, 3) := by decide +kernel
theorem dX5_add_16 : decode cX5_add 16 = .ok (.getfield 38, 3) := by decide +kernel
theorem dX5_add_19 : decode cX5_add 19 = .ok (.sipush 1000, 3) := by decide +kernel
theorem dX5_add_22 : decode cX5_add 22 = .ok (.if_icmp .lt 13, 3) := by decide +kernel
theorem dX5_add_25 : decode cX5_add 25 = .ok (.new 42, 3) := by decide +kernel
theorem dX5_add_28 : decode cX5_add 28 = .ok (.dup, 1) := by decide +kernel
theorem dX5_add_29 : decode cX5_add 29 = .ok (.ldc 44, 2) := by decide +kernel
theorem dX5_add_31 : decode cX5_add 31 = .ok (.invokespecial 46, 3) := by decide +kernel
theorem dX5_add_34 : decode cX5_add 34 = .ok (.athrow, 1) := by decide +kernel
theorem dX5_add_35 : decode cX5_add 35 = .ok (.aload_n 0, 1) := by decide +kernel
theorem dX5_add_36 : decode cX5_add 36 = .ok (.getfield 10, 3) := by decide +kernel
theorem dX5_add_39 : decode cX5_add 39 = .ok (.dup, 1) := by decide +kernel
theorem dX5_add_40 : decode cX5_add 40 = .ok (.getfield 38, 3) := by decide +kernel
theorem dX5_add_43 : decode cX5_add 43 = .ok (.iconst 1, 1) := by decide +kernel
theorem dX5_add_44 : decode cX5_add 44 = .ok (.iadd, 1) := by decide +kernel
theorem dX5_add_45 : decode cX5_add 45 = .ok (.putfield 38, 3) := by decide +kernel
theorem dX5_add_48 : decode cX5_add 48 = .ok (.aload_n 0, 1) := by decide +kernel
theorem dX5_add_49 : decode cX5_add 49 = .ok (.getfield 10, 3) := by decide +kernel
theorem dX5_add_52 : decode cX5_add 52 = .ok (.aload_n 0, 1) := by decide +kernel
theorem dX5_add_53 : decode cX5_add 53 = .ok (.getfield 10, 3) := by decide +kernel
theorem dX5_add_56 : decode cX5_add 56 = .ok (.getfield 38, 3) := by decide +kernel
theorem dX5_add_59 : decode cX5_add 59 = .ok (.iconst 1, 1) := by decide +kernel
theorem dX5_add_60 : decode cX5_add 60 = .ok (.isub, 1) := by decide +kernel
theorem dX5_add_61 : decode cX5_add 61 = .ok (.iload_n 1, 1) := by decide +kernel
theorem dX5_add_62 : decode cX5_add 62 = .ok (.iload_n 2, 1) := by decide +kernel
theorem dX5_add_63 : decode cX5_add 63 = .ok (.iload_n 3, 1) := by decide +kernel
theorem dX5_add_64 : decode cX5_add 64 = .ok (.invokevirtual 49, 3) := by decide +kernel
theorem dX5_add_67 : decode cX5_add 67 = .ok (.aload_n 0, 1) := by decide +kernel
theorem dX5_add_68 : decode cX5_add 68 = .ok (.invokevirtual 53, 3) := by decide +kernel
theorem dX5_add_71 : decode cX5_add 71 = .ok (.aload_n 0, 1) := by decide +kernel
theorem dX5_add_72 : decode cX5_add 72 = .ok (.getfield 10, 3) := by decide +kernel
theorem dX5_add_75 : decode cX5_add 75 = .ok (.getfield 38, 3) := by decide +kernel
theorem dX5_add_78 : decode cX5_add 78 = .ok (.ireturn, 1) := by decide +kernel
theorem dX5_requireUpTo_0 : decode cX5_requireUpTo 0 = .ok (.iload_n 0, 1) := by decide +kernel
theorem dX5_requireUpTo_1 : decode cX5_requireUpTo 1 = .ok (.ifCond .lt 8, 3) := by decide +kernel
theorem dX5_requireUpTo_4 : decode cX5_requireUpTo 4 = .ok (.iload_n 0, 1) := by decide +kernel
theorem dX5_requireUpTo_5 : decode cX5_requireUpTo 5 = .ok (.iload_n 1, 1) := by decide +kernel
theorem dX5_requireUpTo_6 : decode cX5_requireUpTo 6 = .ok (.if_icmp .le 13, 3) := by decide +kernel
theorem dX5_requireUpTo_9 : decode cX5_requireUpTo 9 = .ok (.new 78, 3) := by decide +kernel
theorem dX5_requireUpTo_12 : decode cX5_requireUpTo 12 = .ok (.dup, 1) := by decide +kernel
theorem dX5_requireUpTo_13 : decode cX5_requireUpTo 13 = .ok (.ldc 80, 2) := by decide +kernel
theorem dX5_requireUpTo_15 : decode cX5_requireUpTo 15 = .ok (.invokespecial 82, 3) := by decide +kernel
theorem dX5_requireUpTo_18 : decode cX5_requireUpTo 18 = .ok (.athrow, 1) := by decide +kernel
theorem dX5_requireUpTo_19 : decode cX5_requireUpTo 19 = .ok (.return_, 1) := by decide +kernel
theorem dX2_write_0 : decode cX2_write 0 = .ok (.aload_n 0, 1) := by decide +kernel
theorem dX2_write_1 : decode cX2_write 1 = .ok (.getfield 9, 3) := by decide +kernel
theorem dX2_write_4 : decode cX2_write 4 = .ok (.iload_n 1, 1) := by decide +kernel
theorem dX2_write_5 : decode cX2_write 5 = .ok (.iload_n 2, 1) := by decide +kernel
theorem dX2_write_6 : decode cX2_write 6 = .ok (.iastore, 1) := by decide +kernel
theorem dX2_write_7 : decode cX2_write 7 = .ok (.aload_n 0, 1) := by decide +kernel
theorem dX2_write_8 : decode cX2_write 8 = .ok (.getfield 15, 3) := by decide +kernel
theorem dX2_write_11 : decode cX2_write 11 = .ok (.iload_n 1, 1) := by decide +kernel
theorem dX2_write_12 : decode cX2_write 12 = .ok (.iload_n 3, 1) := by decide +kernel
theorem dX2_write_13 : decode cX2_write 13 = .ok (.iastore, 1) := by decide +kernel
theorem dX2_write_14 : decode cX2_write 14 = .ok (.aload_n 0, 1) := by decide +kernel
theorem dX2_write_15 : decode cX2_write 15 = .ok (.getfield 18, 3) := by decide +kernel
theorem dX2_write_18 : decode cX2_write 18 = .ok (.iload_n 1, 1) := by decide +kernel
theorem dX2_write_19 : decode cX2_write 19 = .ok (.iload 4, 2) := by decide +kernel
theorem dX2_write_21 : decode cX2_write 21 = .ok (.bastore, 1) := by decide +kernel
theorem dX2_write_22 : decode cX2_write 22 = .ok (.return_, 1) := by decide +kernel
theorem dX5_forgetEdges_0 : decode cX5_forgetEdges 0 = .ok (.aload_n 0, 1) := by decide +kernel
theorem dX5_forgetEdges_1 : decode cX5_forgetEdges 1 = .ok (.getfield 24, 3) := by decide +kernel
theorem dX5_forgetEdges_4 : decode cX5_forgetEdges 4 = .ok (.iconst 1, 1) := by decide +kernel
theorem dX5_forgetEdges_5 : decode cX5_forgetEdges 5 = .ok (.putfield 83, 3) := by decide +kernel
theorem dX5_forgetEdges_8 : decode cX5_forgetEdges 8 = .ok (.aload_n 0, 1) := by decide +kernel
theorem dX5_forgetEdges_9 : decode cX5_forgetEdges 9 = .ok (.getfield 31, 3) := by decide +kernel
theorem dX5_forgetEdges_12 : decode cX5_forgetEdges 12 = .ok (.iconst 1, 1) := by decide +kernel
theorem dX5_forgetEdges_13 : decode cX5_forgetEdges 13 = .ok (.putfield 83, 3) := by decide +kernel
theorem dX5_forgetEdges_16 : decode cX5_forgetEdges 16 = .ok (.return_, 1) := by decide +kernel
theorem dL_set_0 : decode cL_set 0 = .ok (.aload_n 0, 1) := by decide +kernel
theorem dL_set_1 : decode cL_set 1 = .ok (.iload_n 1, 1) := by decide +kernel
theorem dL_set_2 : decode cL_set 2 = .ok (.iload_n 2, 1) := by decide +kernel
theorem dL_set_3 : decode cL_set 3 = .ok (.iload_n 3, 1) := by decide +kernel
theorem dL_set_4 : decode cL_set 4 = .ok (.iload 4, 2) := by decide +kernel
theorem dL_set_6 : decode cL_set 6 = .ok (.invokevirtual 17, 3) := by decide +kernel
theorem dL_set_9 : decode cL_set 9 = .ok (.goto 7, 3) := by decide +kernel
theorem dL_set_12 : decode cL_set 12 = .ok (.astore 5, 2) := by decide +kernel
theorem dL_set_14 : decode cL_set 14 = .ok (.iconst 1, 1) := by decide +kernel
theorem dL_set_15 : decode cL_set 15 = .ok (.ireturn, 1) := by decide +kernel
theorem dL_set_16 : decode cL_set 16 = .ok (.iconst 0, 1) := by decide +kernel
theorem dL_set_17 : decode cL_set 17 = .ok (.ireturn, 1) := by decide +kernel
theorem dX5_set_0 : decode cX5_set 0 = .ok (.iload_n 1, 1) := by decide +kernel
theorem dX5_set_1 : decode cX5_set 1 = .ok (.aload_n 0, 1) := by decide +kernel
theorem dX5_set_2 : decode cX5_set 2 = .ok (.getfield 10, 3) := by decide +kernel
theorem dX5_set_5 : decode cX5_set 5 = .ok (.getfield 38, 3) := by decide +kernel
theorem dX5_set_8 : decode cX5_set 8 = .ok (.iconst 1, 1) := by decide +kernel
theorem dX5_set_9 : decode cX5_set 9 = .ok (.isub, 1) := by decide +kernel
theorem dX5_set_10 : decode cX5_set 10 = .ok (.invokestatic 34, 3) := by decide +kernel
theorem dX5_set_13 : decode cX5_set 13 = .ok (.iload_n 2, 1) := by decide +kernel
theorem dX5_set_14 : decode cX5_set 14 = .ok (.bipush 13, 2) := by decide +kernel
theorem dX5_set_16 : decode cX5_set 16 = .ok (.invokestatic 34, 3) := by decide +kernel
theorem dX5_set_19 : decode cX5_set 19 = .ok (.iload_n 3, 1) := by decide +kernel
theorem dX5_set_20 : decode cX5_set 20 = .ok (.bipush 18, 2) := by decide +kernel
theorem dX5_set_22 : decode cX5_set 22 = .ok (.invokestatic 34, 3) := by decide +kernel
theorem dX5_set_25 : decode cX5_set 25 = .ok (.aload_n 0, 1) := by decide +kernel
theorem dX5_set_26 : decode cX5_set 26 = .ok (.getfield 10, 3) := by decide +kernel
theorem dX5_set_29 : decode cX5_set 29 = .ok (.iload_n 1, 1) := by decide +kernel
theorem dX5_set_30 : decode cX5_set 30 = .ok (.iload_n 2, 1) := by decide +kernel
theorem dX5_set_31 : decode cX5_set 31 = .ok (.iload_n 3, 1) := by decide +kernel
theorem dX5_set_32 : decode cX5_set 32 = .ok (.iload 4, 2) := by decide +kernel
theorem dX5_set_34 : decode cX5_set 34 = .ok (.invokevirtual 49, 3) := by decide +kernel
theorem dX5_set_37 : decode cX5_set 37 = .ok (.aload_n 0, 1) := by decide +kernel
theorem dX5_set_38 : decode cX5_set 38 = .ok (.invokevirtual 53, 3) := by decide +kernel
theorem dX5_set_41 : decode cX5_set 41 = .ok (.return_, 1) := by decide +kernel
theorem dL_cut_0 : decode cL_cut 0 = .ok (.aload_n 2, 1) := by decide +kernel
theorem dL_cut_1 : decode cL_cut 1 = .ok (.iconst 0, 1) := by decide +kernel
theorem dL_cut_2 : decode cL_cut 2 = .ok (.aload_n 0, 1) := by decide +kernel
theorem dL_cut_3 : decode cL_cut 3 = .ok (.iload_n 1, 1) := by decide +kernel
theorem dL_cut_4 : decode cL_cut 4 = .ok (.invokevirtual 21, 3) := by decide +kernel
theorem dL_cut_7 : decode cL_cut 7 = .ok (.i2l, 1) := by decide +kernel
theorem dL_cut_8 : decode cL_cut 8 = .ok (.lastore, 1) := by decide +kernel
theorem dL_cut_9 : decode cL_cut 9 = .ok (.goto 6, 3) := by decide +kernel
theorem dL_cut_12 : decode cL_cut 12 = .ok (.astore_n 3, 1) := by decide +kernel
theorem dL_cut_13 : decode cL_cut 13 = .ok (.iconst 1, 1) := by decide +kernel
theorem dL_cut_14 : decode cL_cut 14 = .ok (.ireturn, 1) := by decide +kernel
theorem dL_cut_15 : decode cL_cut 15 = .ok (.iconst 0, 1) := by decide +kernel
theorem dL_cut_16 : decode cL_cut 16 = .ok (.ireturn, 1) := by decide +kernel
theorem dX5_cut_0 : decode cX5_cut 0 = .ok (.iload_n 1, 1) := by decide +kernel
theorem dX5_cut_1 : decode cX5_cut 1 = .ok (.aload_n 0, 1) := by decide +kernel
theorem dX5_cut_2 : decode cX5_cut 2 = .ok (.getfield 10, 3) := by decide +kernel
theorem dX5_cut_5 : decode cX5_cut 5 = .ok (.getfield 38, 3) := by decide +kernel
theorem dX5_cut_8 : decode cX5_cut 8 = .ok (.invokestatic 34, 3) := by decide +kernel
theorem dX5_cut_11 : decode cX5_cut 11 = .ok (.aload_n 0, 1) := by decide +kernel
theorem dX5_cut_12 : decode cX5_cut 12 = .ok (.getfield 10, 3) := by decide +kernel
theorem dX5_cut_15 : decode cX5_cut 15 = .ok (.getfield 38, 3) := by decide +kernel
theorem dX5_cut_18 : decode cX5_cut 18 = .ok (.istore_n 2, 1) := by decide +kernel
theorem dX5_cut_19 : decode cX5_cut 19 = .ok (.aload_n 0, 1) := by decide +kernel
theorem dX5_cut_20 : decode cX5_cut 20 = .ok (.getfield 10, 3) := by decide +kernel
theorem dX5_cut_23 : decode cX5_cut 23 = .ok (.iload_n 1, 1) := by decide +kernel
theorem dX5_cut_24 : decode cX5_cut 24 = .ok (.putfield 38, 3) := by decide +kernel
theorem dX5_cut_27 : decode cX5_cut 27 = .ok (.aload_n 0, 1) := by decide +kernel
theorem dX5_cut_28 : decode cX5_cut 28 = .ok (.invokevirtual 53, 3) := by decide +kernel
theorem dX5_cut_31 : decode cX5_cut 31 = .ok (.iload_n 2, 1) := by decide +kernel
theorem dX5_cut_32 : decode cX5_cut 32 = .ok (.ireturn, 1) := by decide +kernel
theorem dL_edge_0 : decode cL_edge 0 = .ok (.aload_n 3, 1) := by decide +kernel
theorem dL_edge_1 : decode cL_edge 1 = .ok (.iconst 0, 1) := by decide +kernel
theorem dL_edge_2 : decode cL_edge 2 = .ok (.aload_n 0, 1) := by decide +kernel
theorem dL_edge_3 : decode cL_edge 3 = .ok (.iload_n 1, 1) := by decide +kernel
theorem dL_edge_4 : decode cL_edge 4 = .ok (.iload_n 2, 1) := by decide +kernel
theorem dL_edge_5 : decode cL_edge 5 = .ok (.invokevirtual 25, 3) := by decide +kernel
theorem dL_edge_8 : decode cL_edge 8 = .ok (.ifCond .eq 7, 3) := by decide +kernel
theorem dL_edge_11 : decode cL_edge 11 = .ok (.lconst 1, 1) := by decide +kernel
theorem dL_edge_12 : decode cL_edge 12 = .ok (.goto 4, 3) := by decide +kernel
theorem dL_edge_15 : decode cL_edge 15 = .ok (.lconst 0, 1) := by decide +kernel
theorem dL_edge_16 : decode cL_edge 16 = .ok (.lastore, 1) := by decide +kernel
theorem dL_edge_17 : decode cL_edge 17 = .ok (.goto 7, 3) := by decide +kernel
theorem dL_edge_20 : decode cL_edge 20 = .ok (.astore 4, 2) := by decide +kernel
theorem dL_edge_22 : decode cL_edge 22 = .ok (.iconst 1, 1) := by decide +kernel
theorem dL_edge_23 : decode cL_edge 23 = .ok (.ireturn, 1) := by decide +kernel
theorem dL_edge_24 : decode cL_edge 24 = .ok (.iconst 0, 1) := by decide +kernel
theorem dL_edge_25 : decode cL_edge 25 = .ok (.ireturn, 1) := by decide +kernel
theorem dX5_edge_0 : decode cX5_edge 0 = .ok (.iload_n 1, 1) := by decide +kernel
theorem dX5_edge_1 : decode cX5_edge 1 = .ok (.iconst 1, 1) := by decide +kernel
theorem dX5_edge_2 : decode cX5_edge 2 = .ok (.invokestatic 34, 3) := by decide +kernel
theorem dX5_edge_5 : decode cX5_edge 5 = .ok (.iload_n 2, 1) := by decide +kernel
theorem dX5_edge_6 : decode cX5_edge 6 = .ok (.aload_n 0, 1) := by decide +kernel
theorem dX5_edge_7 : decode cX5_edge 7 = .ok (.getfield 10, 3) := by decide +kernel
theorem dX5_edge_10 : decode cX5_edge 10 = .ok (.getfield 38, 3) := by decide +kernel
theorem dX5_edge_13 : decode cX5_edge 13 = .ok (.invokestatic 34, 3) := by decide +kernel
theorem dX5_edge_16 : decode cX5_edge 16 = .ok (.aload_n 0, 1) := by decide +kernel
theorem dX5_edge_17 : decode cX5_edge 17 = .ok (.iload_n 1, 1) := by decide +kernel
theorem dX5_edge_18 : decode cX5_edge 18 = .ok (.invokevirtual 56, 3) := by decide +kernel
theorem dX5_edge_21 : decode cX5_edge 21 = .ok (.getfield 60, 3) := by decide +kernel
theorem dX5_edge_24 : decode cX5_edge 24 = .ok (.iload_n 2, 1) := by decide +kernel
theorem dX5_edge_25 : decode cX5_edge 25 = .ok (.baload, 1) := by decide +kernel
theorem dX5_edge_26 : decode cX5_edge 26 = .ok (.ireturn, 1) := by decide +kernel
theorem dX5_edgesOf_0 : decode cX5_edgesOf 0 = .ok (.iload_n 1, 1) := by decide +kernel
theorem dX5_edgesOf_1 : decode cX5_edgesOf 1 = .ok (.ifCond .ne 10, 3) := by decide +kernel
theorem dX5_edgesOf_4 : decode cX5_edgesOf 4 = .ok (.aload_n 0, 1) := by decide +kernel
theorem dX5_edgesOf_5 : decode cX5_edgesOf 5 = .ok (.getfield 24, 3) := by decide +kernel
theorem dX5_edgesOf_8 : decode cX5_edgesOf 8 = .ok (.goto 7, 3) := by decide +kernel
theorem dX5_edgesOf_11 : decode cX5_edgesOf 11 = .ok (.aload_n 0, 1) := by decide +kernel
theorem dX5_edgesOf_12 : decode cX5_edgesOf 12 = .ok (.getfield 31, 3) := by decide +kernel
theorem dX5_edgesOf_15 : decode cX5_edgesOf 15 = .ok (.astore_n 2, 1) := by decide +kernel
theorem dX5_edgesOf_16 : decode cX5_edgesOf 16 = .ok (.aload_n 2, 1) := by decide +kernel
theorem dX5_edgesOf_17 : decode cX5_edgesOf 17 = .ok (.getfield 83, 3) := by decide +kernel
theorem dX5_edgesOf_20 : decode cX5_edgesOf 20 = .ok (.ifCond .eq 11, 3) := by decide +kernel
theorem dX5_edgesOf_23 : decode cX5_edgesOf 23 = .ok (.aload_n 2, 1) := by decide +kernel
theorem dX5_edgesOf_24 : decode cX5_edgesOf 24 = .ok (.aload_n 0, 1) := by decide +kernel
theorem dX5_edgesOf_25 : decode cX5_edgesOf 25 = .ok (.getfield 10, 3) := by decide +kernel
theorem dX5_edgesOf_28 : decode cX5_edgesOf 28 = .ok (.invokevirtual 87, 3) := by decide +kernel
theorem dX5_edgesOf_31 : decode cX5_edgesOf 31 = .ok (.aload_n 2, 1) := by decide +kernel
theorem dX5_edgesOf_32 : decode cX5_edgesOf 32 = .ok (.areturn, 1) := by decide +kernel
theorem dX0_find_0 : decode cX0_find 0 = .ok (.aload_n 0, 1) := by decide +kernel
theorem dX0_find_1 : decode cX0_find 1 = .ok (.getfield 19, 3) := by decide +kernel
theorem dX0_find_4 : decode cX0_find 4 = .ok (.invokevirtual 23, 3) := by decide +kernel
theorem dX0_find_7 : decode cX0_find 7 = .ok (.iconst 0, 1) := by decide +kernel
theorem dX0_find_8 : decode cX0_find 8 = .ok (.istore_n 2, 1) := by decide +kernel
theorem dX0_find_9 : decode cX0_find 9 = .ok (.iload_n 2, 1) := by decide +kernel
theorem dX0_find_10 : decode cX0_find 10 = .ok (.aload_n 1, 1) := by decide +kernel
theorem dX0_find_11 : decode cX0_find 11 = .ok (.getfield 28, 3) := by decide +kernel
theorem dX0_find_14 : decode cX0_find 14 = .ok (.if_icmp .ge 45, 3) := by decide +kernel
theorem dX0_find_17 : decode cX0_find 17 = .ok (.aload_n 0, 1) := by decide +kernel
theorem dX0_find_18 : decode cX0_find 18 = .ok (.getfield 9, 3) := by decide +kernel
theorem dX0_find_21 : decode cX0_find 21 = .ok (.iload_n 2, 1) := by decide +kernel
theorem dX0_find_22 : decode cX0_find 22 = .ok (.iload_n 2, 1) := by decide +kernel
theorem dX0_find_23 : decode cX0_find 23 = .ok (.ifCond .eq 15, 3) := by decide +kernel
theorem dX0_find_26 : decode cX0_find 26 = .ok (.aload_n 0, 1) := by decide +kernel
theorem dX0_find_27 : decode cX0_find 27 = .ok (.getfield 19, 3) := by decide +kernel
theorem dX0_find_30 : decode cX0_find 30 = .ok (.aload_n 1, 1) := by decide +kernel
theorem dX0_find_31 : decode cX0_find 31 = .ok (.iload_n 2, 1) := by decide +kernel
theorem dX0_find_32 : decode cX0_find 32 = .ok (.invokevirtual 34, 3) := by decide +kernel
theorem dX0_find_35 : decode cX0_find 35 = .ok (.ifCond .eq 7, 3) := by decide +kernel
theorem dX0_find_38 : decode cX0_find 38 = .ok (.iconst 1, 1) := by decide +kernel
theorem dX0_find_39 : decode cX0_find 39 = .ok (.goto 4, 3) := by decide +kernel
theorem dX0_find_42 : decode cX0_find 42 = .ok (.iconst 0, 1) := by decide +kernel
theorem dX0_find_43 : decode cX0_find 43 = .ok (.bastore, 1) := by decide +kernel
theorem dX0_find_44 : decode cX0_find 44 = .ok (.aload_n 0, 1) := by decide +kernel
theorem dX0_find_45 : decode cX0_find 45 = .ok (.getfield 19, 3) := by decide +kernel
theorem dX0_find_48 : decode cX0_find 48 = .ok (.aload_n 1, 1) := by decide +kernel
theorem dX0_find_49 : decode cX0_find 49 = .ok (.iload_n 2, 1) := by decide +kernel
theorem dX0_find_50 : decode cX0_find 50 = .ok (.invokevirtual 38, 3) := by decide +kernel
theorem dX0_find_53 : decode cX0_find 53 = .ok (.iinc 2 1, 3) := by decide +kernel
theorem dX0_find_56 : decode cX0_find 56 = .ok (.goto (-47), 3) := by decide +kernel
theorem dX0_find_59 : decode cX0_find 59 = .ok (.aload_n 0, 1) := by decide +kernel
theorem dX0_find_60 : decode cX0_find 60 = .ok (.getfield 9, 3) := by decide +kernel
theorem dX0_find_63 : decode cX0_find 63 = .ok (.aload_n 1, 1) := by decide +kernel
theorem dX0_find_64 : decode cX0_find 64 = .ok (.getfield 28, 3) := by decide +kernel
theorem dX0_find_67 : decode cX0_find 67 = .ok (.aload_n 1, 1) := by decide +kernel
theorem dX0_find_68 : decode cX0_find 68 = .ok (.getfield 28, 3) := by decide +kernel
theorem dX0_find_71 : decode cX0_find 71 = .ok (.ifCond .le 7, 3) := by decide +kernel
theorem dX0_find_74 : decode cX0_find 74 = .ok (.iconst 1, 1) := by decide +kernel
theorem dX0_find_75 : decode cX0_find 75 = .ok (.goto 4, 3) := by decide +kernel
theorem dX0_find_78 : decode cX0_find 78 = .ok (.iconst 0, 1) := by decide +kernel
theorem dX0_find_79 : decode cX0_find 79 = .ok (.bastore, 1) := by decide +kernel
theorem dX0_find_80 : decode cX0_find 80 = .ok (.aload_n 0, 1) := by decide +kernel
theorem dX0_find_81 : decode cX0_find 81 = .ok (.iconst 0, 1) := by decide +kernel
theorem dX0_find_82 : decode cX0_find 82 = .ok (.putfield 15, 3) := by decide +kernel
theorem dX0_find_85 : decode cX0_find 85 = .ok (.return_, 1) := by decide +kernel
theorem dX1_begin_0 : decode cX1_begin 0 = .ok (.aload_n 0, 1) := by decide +kernel
theorem dX1_begin_1 : decode cX1_begin 1 = .ok (.iconst (-1), 1) := by decide +kernel
theorem dX1_begin_2 : decode cX1_begin 2 = .ok (.putfield 9, 3) := by decide +kernel
theorem dX1_begin_5 : decode cX1_begin 5 = .ok (.aload_n 0, 1) := by decide +kernel
theorem dX1_begin_6 : decode cX1_begin 6 = .ok (.iconst 0, 1) := by decide +kernel
theorem dX1_begin_7 : decode cX1_begin 7 = .ok (.putfield 15, 3) := by decide +kernel
theorem dX1_begin_10 : decode cX1_begin 10 = .ok (.aload_n 0, 1) := by decide +kernel
theorem dX1_begin_11 : decode cX1_begin 11 = .ok (.iconst 0, 1) := by decide +kernel
theorem dX1_begin_12 : decode cX1_begin 12 = .ok (.putfield 19, 3) := by decide +kernel
theorem dX1_begin_15 : decode cX1_begin 15 = .ok (.aload_n 0, 1) := by decide +kernel
theorem dX1_begin_16 : decode cX1_begin 16 = .ok (.iconst 0, 1) := by decide +kernel
theorem dX1_begin_17 : decode cX1_begin 17 = .ok (.putfield 22, 3) := by decide +kernel
theorem dX1_begin_20 : decode cX1_begin 20 = .ok (.return_, 1) := by decide +kernel
theorem dX4_begin_0 : decode cX4_begin 0 = .ok (.aload_n 0, 1) := by decide +kernel
theorem dX4_begin_1 : decode cX4_begin 1 = .ok (.iconst (-1), 1) := by decide +kernel
theorem dX4_begin_2 : decode cX4_begin 2 = .ok (.putfield 9, 3) := by decide +kernel
theorem dX4_begin_5 : decode cX4_begin 5 = .ok (.aload_n 0, 1) := by decide +kernel
theorem dX4_begin_6 : decode cX4_begin 6 = .ok (.iconst (-1), 1) := by decide +kernel
theorem dX4_begin_7 : decode cX4_begin 7 = .ok (.putfield 15, 3) := by decide +kernel
theorem dX4_begin_10 : decode cX4_begin 10 = .ok (.aload_n 0, 1) := by decide +kernel
theorem dX4_begin_11 : decode cX4_begin 11 = .ok (.iconst (-1), 1) := by decide +kernel
theorem dX4_begin_12 : decode cX4_begin 12 = .ok (.putfield 18, 3) := by decide +kernel
theorem dX4_begin_15 : decode cX4_begin 15 = .ok (.aload_n 0, 1) := by decide +kernel
theorem dX4_begin_16 : decode cX4_begin 16 = .ok (.iconst 0, 1) := by decide +kernel
theorem dX4_begin_17 : decode cX4_begin 17 = .ok (.putfield 21, 3) := by decide +kernel
theorem dX4_begin_20 : decode cX4_begin 20 = .ok (.return_, 1) := by decide +kernel
theorem dX1_part_0 : decode cX1_part 0 = .ok (.aload_n 1, 1) := by decide +kernel
theorem dX1_part_1 : decode cX1_part 1 = .ok (.getfield 25, 3) := by decide +kernel
theorem dX1_part_4 : decode cX1_part 4 = .ok (.iload_n 2, 1) := by decide +kernel
theorem dX1_part_5 : decode cX1_part 5 = .ok (.iaload, 1) := by decide +kernel
theorem dX1_part_6 : decode cX1_part 6 = .ok (.istore_n 3, 1) := by decide +kernel
theorem dX1_part_7 : decode cX1_part 7 = .ok (.aload_n 0, 1) := by decide +kernel
theorem dX1_part_8 : decode cX1_part 8 = .ok (.getfield 9, 3) := by decide +kernel
theorem dX1_part_11 : decode cX1_part 11 = .ok (.iconst 1, 1) := by decide +kernel
theorem dX1_part_12 : decode cX1_part 12 = .ok (.if_icmp .ne 10, 3) := by decide +kernel
theorem dX1_part_15 : decode cX1_part 15 = .ok (.iload_n 3, 1) := by decide +kernel
theorem dX1_part_16 : decode cX1_part 16 = .ok (.iconst 2, 1) := by decide +kernel
theorem dX1_part_17 : decode cX1_part 17 = .ok (.if_icmp .ne 5, 3) := by decide +kernel
theorem dX1_part_20 : decode cX1_part 20 = .ok (.iconst 0, 1) := by decide +kernel
theorem dX1_part_21 : decode cX1_part 21 = .ok (.ireturn, 1) := by decide +kernel
theorem dX1_part_22 : decode cX1_part 22 = .ok (.aload_n 0, 1) := by decide +kernel
theorem dX1_part_23 : decode cX1_part 23 = .ok (.getfield 9, 3) := by decide +kernel
theorem dX1_part_26 : decode cX1_part 26 = .ok (.invokestatic 31, 3) := by decide +kernel
theorem dX1_part_29 : decode cX1_part 29 = .ok (.ifCond .ne 10, 3) := by decide +kernel
theorem dX1_part_32 : decode cX1_part 32 = .ok (.iload_n 3, 1) := by decide +kernel
theorem dX1_part_33 : decode cX1_part 33 = .ok (.invokestatic 31, 3) := by decide +kernel
theorem dX1_part_36 : decode cX1_part 36 = .ok (.ifCond .eq 5, 3) := by decide +kernel
theorem dX1_part_39 : decode cX1_part 39 = .ok (.iconst 1, 1) := by decide +kernel
theorem dX1_part_40 : decode cX1_part 40 = .ok (.ireturn, 1) := by decide +kernel
theorem dX1_part_41 : decode cX1_part 41 = .ok (.aload_n 0, 1) := by decide +kernel
theorem dX1_part_42 : decode cX1_part 42 = .ok (.iload_n 3, 1) := by decide +kernel
theorem dX1_part_43 : decode cX1_part 43 = .ok (.invokevirtual 35, 3) := by decide +kernel
theorem dX1_part_46 : decode cX1_part 46 = .ok (.ifCond .ne 61, 3) := by decide +kernel
theorem dX1_part_49 : decode cX1_part 49 = .ok (.iload_n 3, 1) := by decide +kernel
theorem dX1_part_50 : decode cX1_part 50 = .ok (.iconst 4, 1) := by decide +kernel
theorem dX1_part_51 : decode cX1_part 51 = .ok (.if_icmp .eq 56, 3) := by decide +kernel
theorem dX1_part_54 : decode cX1_part 54 = .ok (.iload_n 3, 1) := by decide +kernel
theorem dX1_part_55 : decode cX1_part 55 = .ok (.iconst 5, 1) := by decide +kernel
theorem dX1_part_56 : decode cX1_part 56 = .ok (.if_icmp .eq 51, 3) := by decide +kernel
theorem dX1_part_59 : decode cX1_part 59 = .ok (.iload_n 3, 1) := by decide +kernel
theorem dX1_part_60 : decode cX1_part 60 = .ok (.bipush 8, 2) := by decide +kernel
theorem dX1_part_62 : decode cX1_part 62 = .ok (.if_icmp .eq 45, 3) := by decide +kernel
theorem dX1_part_65 : decode cX1_part 65 = .ok (.aload_n 0, 1) := by decide +kernel
theorem dX1_part_66 : decode cX1_part 66 = .ok (.getfield 9, 3) := by decide +kernel
theorem dX1_part_69 : decode cX1_part 69 = .ok (.bipush 7, 2) := by decide +kernel
theorem dX1_part_71 : decode cX1_part 71 = .ok (.if_icmp .eq 36, 3) := by decide +kernel
theorem dX1_part_74 : decode cX1_part 74 = .ok (.aload_n 0, 1) := by decide +kernel
theorem dX1_part_75 : decode cX1_part 75 = .ok (.getfield 22, 3) := by decide +kernel
theorem dX1_part_78 : decode cX1_part 78 = .ok (.ifCond .eq 12, 3) := by decide +kernel
theorem dX1_part_81 : decode cX1_part 81 = .ok (.aload_n 1, 1) := by decide +kernel
theorem dX1_part_82 : decode cX1_part 82 = .ok (.getfield 38, 3) := by decide +kernel
theorem dX1_part_85 : decode cX1_part 85 = .ok (.iload_n 2, 1) := by decide +kernel
theorem dX1_part_86 : decode cX1_part 86 = .ok (.baload, 1) := by decide +kernel
theorem dX1_part_87 : decode cX1_part 87 = .ok (.ifCond .ne 20, 3) := by decide +kernel
theorem dX1_part_90 : decode cX1_part 90 = .ok (.aload_n 0, 1) := by decide +kernel
theorem dX1_part_91 : decode cX1_part 91 = .ok (.getfield 15, 3) := by decide +kernel
theorem dX1_part_94 : decode cX1_part 94 = .ok (.ifCond .eq 9, 3) := by decide +kernel
theorem dX1_part_97 : decode cX1_part 97 = .ok (.iload_n 3, 1) := by decide +kernel
theorem dX1_part_98 : decode cX1_part 98 = .ok (.bipush 6, 2) := by decide +kernel
theorem dX1_part_100 : decode cX1_part 100 = .ok (.if_icmp .eq 7, 3) := by decide +kernel
theorem dX1_part_103 : decode cX1_part 103 = .ok (.iconst 1, 1) := by decide +kernel
theorem dX1_part_104 : decode cX1_part 104 = .ok (.goto 4, 3) := by decide +kernel
theorem dX1_part_107 : decode cX1_part 107 = .ok (.iconst 0, 1) := by decide +kernel
theorem dX1_part_108 : decode cX1_part 108 = .ok (.ireturn, 1) := by decide +kernel
theorem dX1_isControl_0 : decode cX1_isControl 0 = .ok (.iload_n 0, 1) := by decide +kernel
theorem dX1_isControl_1 : decode cX1_isControl 1 = .ok (.iconst 1, 1) := by decide +kernel
theorem dX1_isControl_2 : decode cX1_isControl 2 = .ok (.if_icmp .eq 13, 3) := by decide +kernel
theorem dX1_isControl_5 : decode cX1_isControl 5 = .ok (.iload_n 0, 1) := by decide +kernel
theorem dX1_isControl_6 : decode cX1_isControl 6 = .ok (.iconst 2, 1) := by decide +kernel
theorem dX1_isControl_7 : decode cX1_isControl 7 = .ok (.if_icmp .eq 8, 3) := by decide +kernel
theorem dX1_isControl_10 : decode cX1_isControl 10 = .ok (.iload_n 0, 1) := by decide +kernel
theorem dX1_isControl_11 : decode cX1_isControl 11 = .ok (.iconst 3, 1) := by decide +kernel
theorem dX1_isControl_12 : decode cX1_isControl 12 = .ok (.if_icmp .ne 7, 3) := by decide +kernel
theorem dX1_isControl_15 : decode cX1_isControl 15 = .ok (.iconst 1, 1) := by decide +kernel
theorem dX1_isControl_16 : decode cX1_isControl 16 = .ok (.goto 4, 3) := by decide +kernel
theorem dX1_isControl_19 : decode cX1_isControl 19 = .ok (.iconst 0, 1) := by decide +kernel
theorem dX1_isControl_20 : decode cX1_isControl 20 = .ok (.ireturn, 1) := by decide +kernel
theorem dX1_isSyllable_0 : decode cX1_isSyllable 0 = .ok (.aload_n 0, 1) := by decide +kernel
theorem dX1_isSyllable_1 : decode cX1_isSyllable 1 = .ok (.getfield 9, 3) := by decide +kernel
theorem dX1_isSyllable_4 : decode cX1_isSyllable 4 = .ok (.tableswitch 96 9 13 #[36, 66, 84, 66, 84], 36) := by decide +kernel
theorem dX1_isSyllable_40 : decode cX1_isSyllable 40 = .ok (.iload_n 1, 1) := by decide +kernel
theorem dX1_isSyllable_41 : decode cX1_isSyllable 41 = .ok (.bipush 9, 2) := by decide +kernel
theorem dX1_isSyllable_43 : decode cX1_isSyllable 43 = .ok (.if_icmp .eq 21, 3) := by decide +kernel
theorem dX1_isSyllable_46 : decode cX1_isSyllable 46 = .ok (.iload_n 1, 1) := by decide +kernel
theorem dX1_isSyllable_47 : decode cX1_isSyllable 47 = .ok (.bipush 10, 2) := by decide +kernel
theorem dX1_isSyllable_49 : decode cX1_isSyllable 49 = .ok (.if_icmp .eq 15, 3) := by decide +kernel
theorem dX1_isSyllable_52 : decode cX1_isSyllable 52 = .ok (.iload_n 1, 1) := by decide +kernel
theorem dX1_isSyllable_53 : decode cX1_isSyllable 53 = .ok (.bipush 12, 2) := by decide +kernel
theorem dX1_isSyllable_55 : decode cX1_isSyllable 55 = .ok (.if_icmp .eq 9, 3) := by decide +kernel
theorem dX1_isSyllable_58 : decode cX1_isSyllable 58 = .ok (.iload_n 1, 1) := by decide +kernel
theorem dX1_isSyllable_59 : decode cX1_isSyllable 59 = .ok (.bipush 13, 2) := by decide +kernel
theorem dX1_isSyllable_61 : decode cX1_isSyllable 61 = .ok (.if_icmp .ne 7, 3) := by decide +kernel
theorem dX1_isSyllable_64 : decode cX1_isSyllable 64 = .ok (.iconst 1, 1) := by decide +kernel
theorem dX1_isSyllable_65 : decode cX1_isSyllable 65 = .ok (.goto 4, 3) := by decide +kernel
theorem dX1_isSyllable_68 : decode cX1_isSyllable 68 = .ok (.iconst 0, 1) := by decide +kernel
theorem dX1_isSyllable_69 : decode cX1_isSyllable 69 = .ok (.ireturn, 1) := by decide +kernel
theorem dX1_isSyllable_70 : decode cX1_isSyllable 70 = .ok (.iload_n 1, 1) := by decide +kernel
theorem dX1_isSyllable_71 : decode cX1_isSyllable 71 = .ok (.bipush 10, 2) := by decide +kernel
theorem dX1_isSyllable_73 : decode cX1_isSyllable 73 = .ok (.if_icmp .eq 9, 3) := by decide +kernel
theorem dX1_isSyllable_76 : decode cX1_isSyllable 76 = .ok (.iload_n 1, 1) := by decide +kernel
theorem dX1_isSyllable_77 : decode cX1_isSyllable 77 = .ok (.bipush 11, 2) := by decide +kernel
theorem dX1_isSyllable_79 : decode cX1_isSyllable 79 = .ok (.if_icmp .ne 7, 3) := by decide +kernel
theorem dX1_isSyllable_82 : decode cX1_isSyllable 82 = .ok (.iconst 1, 1) := by decide +kernel
theorem dX1_isSyllable_83 : decode cX1_isSyllable 83 = .ok (.goto 4, 3) := by decide +kernel
theorem dX1_isSyllable_86 : decode cX1_isSyllable 86 = .ok (.iconst 0, 1) := by decide +kernel
theorem dX1_isSyllable_87 : decode cX1_isSyllable 87 = .ok (.ireturn, 1) := by decide +kernel
theorem dX1_isSyllable_88 : decode cX1_isSyllable 88 = .ok (.iload_n 1, 1) := by decide +kernel
theorem dX1_isSyllable_89 : decode cX1_isSyllable 89 = .ok (.bipush 11, 2) := by decide +kernel
theorem dX1_isSyllable_91 : decode cX1_isSyllable 91 = .ok (.if_icmp .ne 7, 3) := by decide +kernel
theorem dX1_isSyllable_94 : decode cX1_isSyllable 94 = .ok (.iconst 1, 1) := by decide +kernel
theorem dX1_isSyllable_95 : decode cX1_isSyllable 95 = .ok (.goto 4, 3) := by decide +kernel
theorem dX1_isSyllable_98 : decode cX1_isSyllable 98 = .ok (.iconst 0, 1) := by decide +kernel
theorem dX1_isSyllable_99 : decode cX1_isSyllable 99 = .ok (.ireturn, 1) := by decide +kernel
theorem dX1_isSyllable_100 : decode cX1_isSyllable 100 = .ok (.iconst 0, 1) := by decide +kernel
theorem dX1_isSyllable_101 : decode cX1_isSyllable 101 = .ok (.ireturn, 1) := by decide +kernel
theorem dX4_part_0 : decode cX4_part 0 = .ok (.aload_n 1, 1) := by decide +kernel
theorem dX4_part_1 : decode cX4_part 1 = .ok (.getfield 25, 3) := by decide +kernel
theorem dX4_part_4 : decode cX4_part 4 = .ok (.iload_n 2, 1) := by decide +kernel
theorem dX4_part_5 : decode cX4_part 5 = .ok (.iaload, 1) := by decide +kernel
theorem dX4_part_6 : decode cX4_part 6 = .ok (.istore_n 3, 1) := by decide +kernel
theorem dX4_part_7 : decode cX4_part 7 = .ok (.aload_n 0, 1) := by decide +kernel
theorem dX4_part_8 : decode cX4_part 8 = .ok (.getfield 9, 3) := by decide +kernel
theorem dX4_part_11 : decode cX4_part 11 = .ok (.iconst 1, 1) := by decide +kernel
theorem dX4_part_12 : decode cX4_part 12 = .ok (.if_icmp .ne 10, 3) := by decide +kernel
theorem dX4_part_15 : decode cX4_part 15 = .ok (.iload_n 3, 1) := by decide +kernel
theorem dX4_part_16 : decode cX4_part 16 = .ok (.iconst 2, 1) := by decide +kernel
theorem dX4_part_17 : decode cX4_part 17 = .ok (.if_icmp .ne 5, 3) := by decide +kernel
theorem dX4_part_20 : decode cX4_part 20 = .ok (.iconst 0, 1) := by decide +kernel
theorem dX4_part_21 : decode cX4_part 21 = .ok (.ireturn, 1) := by decide +kernel
theorem dX4_part_22 : decode cX4_part 22 = .ok (.aload_n 0, 1) := by decide +kernel
theorem dX4_part_23 : decode cX4_part 23 = .ok (.getfield 9, 3) := by decide +kernel
theorem dX4_part_26 : decode cX4_part 26 = .ok (.invokestatic 31, 3) := by decide +kernel
theorem dX4_part_29 : decode cX4_part 29 = .ok (.ifCond .ne 10, 3) := by decide +kernel
theorem dX4_part_32 : decode cX4_part 32 = .ok (.iload_n 3, 1) := by decide +kernel
theorem dX4_part_33 : decode cX4_part 33 = .ok (.invokestatic 31, 3) := by decide +kernel
theorem dX4_part_36 : decode cX4_part 36 = .ok (.ifCond .eq 5, 3) := by decide +kernel
theorem dX4_part_39 : decode cX4_part 39 = .ok (.iconst 1, 1) := by decide +kernel
theorem dX4_part_40 : decode cX4_part 40 = .ok (.ireturn, 1) := by decide +kernel
theorem dX4_part_41 : decode cX4_part 41 = .ok (.aload_n 0, 1) := by decide +kernel
theorem dX4_part_42 : decode cX4_part 42 = .ok (.getfield 9, 3) := by decide +kernel
theorem dX4_part_45 : decode cX4_part 45 = .ok (.iconst 5, 1) := by decide +kernel
theorem dX4_part_46 : decode cX4_part 46 = .ok (.if_icmp .ne 12, 3) := by decide +kernel
theorem dX4_part_49 : decode cX4_part 49 = .ok (.aload_n 1, 1) := by decide +kernel
theorem dX4_part_50 : decode cX4_part 50 = .ok (.getfield 35, 3) := by decide +kernel
theorem dX4_part_53 : decode cX4_part 53 = .ok (.iload_n 2, 1) := by decide +kernel
theorem dX4_part_54 : decode cX4_part 54 = .ok (.baload, 1) := by decide +kernel
theorem dX4_part_55 : decode cX4_part 55 = .ok (.ifCond .ne 25, 3) := by decide +kernel
theorem dX4_part_58 : decode cX4_part 58 = .ok (.aload_n 0, 1) := by decide +kernel
theorem dX4_part_59 : decode cX4_part 59 = .ok (.getfield 9, 3) := by decide +kernel
theorem dX4_part_62 : decode cX4_part 62 = .ok (.bipush 18, 2) := by decide +kernel
theorem dX4_part_64 : decode cX4_part 64 = .ok (.if_icmp .ne 9, 3) := by decide +kernel
theorem dX4_part_67 : decode cX4_part 67 = .ok (.iload_n 3, 1) := by decide +kernel
theorem dX4_part_68 : decode cX4_part 68 = .ok (.bipush 18, 2) := by decide +kernel
theorem dX4_part_70 : decode cX4_part 70 = .ok (.if_icmp .eq 10, 3) := by decide +kernel
theorem dX4_part_73 : decode cX4_part 73 = .ok (.iload_n 3, 1) := by decide +kernel
theorem dX4_part_74 : decode cX4_part 74 = .ok (.invokestatic 39, 3) := by decide +kernel
theorem dX4_part_77 : decode cX4_part 77 = .ok (.ifCond .eq 5, 3) := by decide +kernel
theorem dX4_part_80 : decode cX4_part 80 = .ok (.iconst 0, 1) := by decide +kernel
theorem dX4_part_81 : decode cX4_part 81 = .ok (.ireturn, 1) := by decide +kernel
theorem dX4_part_82 : decode cX4_part 82 = .ok (.aload_n 1, 1) := by decide +kernel
theorem dX4_part_83 : decode cX4_part 83 = .ok (.iload_n 2, 1) := by decide +kernel
theorem dX4_part_84 : decode cX4_part 84 = .ok (.invokestatic 42, 3) := by decide +kernel
theorem dX4_part_87 : decode cX4_part 87 = .ok (.istore 4, 2) := by decide +kernel
theorem dX4_part_89 : decode cX4_part 89 = .ok (.aload_n 0, 1) := by decide +kernel
theorem dX4_part_90 : decode cX4_part 90 = .ok (.iload_n 3, 1) := by decide +kernel
theorem dX4_part_91 : decode cX4_part 91 = .ok (.iload 4, 2) := by decide +kernel
theorem dX4_part_93 : decode cX4_part 93 = .ok (.invokevirtual 46, 3) := by decide +kernel
theorem dX4_part_96 : decode cX4_part 96 = .ok (.ifCond .ne 48, 3) := by decide +kernel
theorem dX4_part_99 : decode cX4_part 99 = .ok (.aload_n 0, 1) := by decide +kernel
theorem dX4_part_100 : decode cX4_part 100 = .ok (.iload_n 3, 1) := by decide +kernel
theorem dX4_part_101 : decode cX4_part 101 = .ok (.iload 4, 2) := by decide +kernel
theorem dX4_part_103 : decode cX4_part 103 = .ok (.invokevirtual 50, 3) := by decide +kernel
theorem dX4_part_106 : decode cX4_part 106 = .ok (.ifCond .ne 38, 3) := by decide +kernel
theorem dX4_part_109 : decode cX4_part 109 = .ok (.aload_n 0, 1) := by decide +kernel
theorem dX4_part_110 : decode cX4_part 110 = .ok (.iload_n 3, 1) := by decide +kernel
theorem dX4_part_111 : decode cX4_part 111 = .ok (.iload 4, 2) := by decide +kernel
theorem dX4_part_113 : decode cX4_part 113 = .ok (.invokevirtual 53, 3) := by decide +kernel
theorem dX4_part_116 : decode cX4_part 116 = .ok (.ifCond .ne 28, 3) := by decide +kernel
theorem dX4_part_119 : decode cX4_part 119 = .ok (.aload_n 0, 1) := by decide +kernel
theorem dX4_part_120 : decode cX4_part 120 = .ok (.iload_n 3, 1) := by decide +kernel
theorem dX4_part_121 : decode cX4_part 121 = .ok (.invokevirtual 56, 3) := by decide +kernel
theorem dX4_part_124 : decode cX4_part 124 = .ok (.ifCond .ne 20, 3) := by decide +kernel
theorem dX4_part_127 : decode cX4_part 127 = .ok (.aload_n 0, 1) := by decide +kernel
theorem dX4_part_128 : decode cX4_part 128 = .ok (.getfield 21, 3) := by decide +kernel
theorem dX4_part_131 : decode cX4_part 131 = .ok (.ifCond .eq 9, 3) := by decide +kernel
theorem dX4_part_134 : decode cX4_part 134 = .ok (.iload_n 3, 1) := by decide +kernel
theorem dX4_part_135 : decode cX4_part 135 = .ok (.bipush 6, 2) := by decide +kernel
theorem dX4_part_137 : decode cX4_part 137 = .ok (.if_icmp .eq 7, 3) := by decide +kernel
theorem dX4_part_140 : decode cX4_part 140 = .ok (.iconst 1, 1) := by decide +kernel
theorem dX4_part_141 : decode cX4_part 141 = .ok (.goto 4, 3) := by decide +kernel
theorem dX4_part_144 : decode cX4_part 144 = .ok (.iconst 0, 1) := by decide +kernel
theorem dX4_part_145 : decode cX4_part 145 = .ok (.ireturn, 1) := by decide +kernel
theorem dX4_isLineEnd_0 : decode cX4_isLineEnd 0 = .ok (.iload_n 0, 1) := by decide +kernel
theorem dX4_isLineEnd_1 : decode cX4_isLineEnd 1 = .ok (.iconst 1, 1) := by decide +kernel
theorem dX4_isLineEnd_2 : decode cX4_isLineEnd 2 = .ok (.if_icmp .eq 13, 3) := by decide +kernel
theorem dX4_isLineEnd_5 : decode cX4_isLineEnd 5 = .ok (.iload_n 0, 1) := by decide +kernel
theorem dX4_isLineEnd_6 : decode cX4_isLineEnd 6 = .ok (.iconst 2, 1) := by decide +kernel
theorem dX4_isLineEnd_7 : decode cX4_isLineEnd 7 = .ok (.if_icmp .eq 8, 3) := by decide +kernel
theorem dX4_isLineEnd_10 : decode cX4_isLineEnd 10 = .ok (.iload_n 0, 1) := by decide +kernel
theorem dX4_isLineEnd_11 : decode cX4_isLineEnd 11 = .ok (.iconst 3, 1) := by decide +kernel
theorem dX4_isLineEnd_12 : decode cX4_isLineEnd 12 = .ok (.if_icmp .ne 7, 3) := by decide +kernel
theorem dX4_isLineEnd_15 : decode cX4_isLineEnd 15 = .ok (.iconst 1, 1) := by decide +kernel
theorem dX4_isLineEnd_16 : decode cX4_isLineEnd 16 = .ok (.goto 4, 3) := by decide +kernel
theorem dX4_isLineEnd_19 : decode cX4_isLineEnd 19 = .ok (.iconst 0, 1) := by decide +kernel
theorem dX4_isLineEnd_20 : decode cX4_isLineEnd 20 = .ok (.ireturn, 1) := by decide +kernel
theorem dX4_isAttached_0 : decode cX4_isAttached 0 = .ok (.iload_n 0, 1) := by decide +kernel
theorem dX4_isAttached_1 : decode cX4_isAttached 1 = .ok (.iconst 4, 1) := by decide +kernel
theorem dX4_isAttached_2 : decode cX4_isAttached 2 = .ok (.if_icmp .eq 14, 3) := by decide +kernel
theorem dX4_isAttached_5 : decode cX4_isAttached 5 = .ok (.iload_n 0, 1) := by decide +kernel
theorem dX4_isAttached_6 : decode cX4_isAttached 6 = .ok (.bipush 7, 2) := by decide +kernel
theorem dX4_isAttached_8 : decode cX4_isAttached 8 = .ok (.if_icmp .eq 8, 3) := by decide +kernel
theorem dX4_isAttached_11 : decode cX4_isAttached 11 = .ok (.iload_n 0, 1) := by decide +kernel
theorem dX4_isAttached_12 : decode cX4_isAttached 12 = .ok (.iconst 5, 1) := by decide +kernel
theorem dX4_isAttached_13 : decode cX4_isAttached 13 = .ok (.if_icmp .ne 7, 3) := by decide +kernel
theorem dX4_isAttached_16 : decode cX4_isAttached 16 = .ok (.iconst 1, 1) := by decide +kernel
theorem dX4_isAttached_17 : decode cX4_isAttached 17 = .ok (.goto 4, 3) := by decide +kernel
theorem dX4_isAttached_20 : decode cX4_isAttached 20 = .ok (.iconst 0, 1) := by decide +kernel
theorem dX4_isAttached_21 : decode cX4_isAttached 21 = .ok (.ireturn, 1) := by decide +kernel
theorem dX4_classAhead_0 : decode cX4_classAhead 0 = .ok (.iload_n 1, 1) := by decide +kernel
theorem dX4_classAhead_1 : decode cX4_classAhead 1 = .ok (.iconst 1, 1) := by decide +kernel
theorem dX4_classAhead_2 : decode cX4_classAhead 2 = .ok (.iadd, 1) := by decide +kernel
theorem dX4_classAhead_3 : decode cX4_classAhead 3 = .ok (.istore_n 2, 1) := by decide +kernel
theorem dX4_classAhead_4 : decode cX4_classAhead 4 = .ok (.iload_n 2, 1) := by decide +kernel
theorem dX4_classAhead_5 : decode cX4_classAhead 5 = .ok (.aload_n 0, 1) := by decide +kernel
theorem dX4_classAhead_6 : decode cX4_classAhead 6 = .ok (.getfield 59, 3) := by decide +kernel
theorem dX4_classAhead_9 : decode cX4_classAhead 9 = .ok (.if_icmp .ge 28, 3) := by decide +kernel
theorem dX4_classAhead_12 : decode cX4_classAhead 12 = .ok (.aload_n 0, 1) := by decide +kernel
theorem dX4_classAhead_13 : decode cX4_classAhead 13 = .ok (.getfield 25, 3) := by decide +kernel
theorem dX4_classAhead_16 : decode cX4_classAhead 16 = .ok (.iload_n 2, 1) := by decide +kernel
theorem dX4_classAhead_17 : decode cX4_classAhead 17 = .ok (.iaload, 1) := by decide +kernel
theorem dX4_classAhead_18 : decode cX4_classAhead 18 = .ok (.invokestatic 39, 3) := by decide +kernel
theorem dX4_classAhead_21 : decode cX4_classAhead 21 = .ok (.ifCond .ne 10, 3) := by decide +kernel
theorem dX4_classAhead_24 : decode cX4_classAhead 24 = .ok (.aload_n 0, 1) := by decide +kernel
theorem dX4_classAhead_25 : decode cX4_classAhead 25 = .ok (.getfield 25, 3) := by decide +kernel
theorem dX4_classAhead_28 : decode cX4_classAhead 28 = .ok (.iload_n 2, 1) := by decide +kernel
theorem dX4_classAhead_29 : decode cX4_classAhead 29 = .ok (.iaload, 1) := by decide +kernel
theorem dX4_classAhead_30 : decode cX4_classAhead 30 = .ok (.ireturn, 1) := by decide +kernel
theorem dX4_classAhead_31 : decode cX4_classAhead 31 = .ok (.iinc 2 1, 3) := by decide +kernel
theorem dX4_classAhead_34 : decode cX4_classAhead 34 = .ok (.goto (-30), 3) := by decide +kernel
theorem dX4_classAhead_37 : decode cX4_classAhead 37 = .ok (.iconst (-1), 1) := by decide +kernel
theorem dX4_classAhead_38 : decode cX4_classAhead 38 = .ok (.ireturn, 1) := by decide +kernel
theorem dX4_joinsLetters_0 : decode cX4_joinsLetters 0 = .ok (.aload_n 0, 1) := by decide +kernel
theorem dX4_joinsLetters_1 : decode cX4_joinsLetters 1 = .ok (.getfield 15, 3) := by decide +kernel
theorem dX4_joinsLetters_4 : decode cX4_joinsLetters 4 = .ok (.invokestatic 62, 3) := by decide +kernel
theorem dX4_joinsLetters_7 : decode cX4_joinsLetters 7 = .ok (.ifCond .eq 30, 3) := by decide +kernel
theorem dX4_joinsLetters_10 : decode cX4_joinsLetters 10 = .ok (.iload_n 1, 1) := by decide +kernel
theorem dX4_joinsLetters_11 : decode cX4_joinsLetters 11 = .ok (.invokestatic 62, 3) := by decide +kernel
theorem dX4_joinsLetters_14 : decode cX4_joinsLetters 14 = .ok (.ifCond .ne 17, 3) := by decide +kernel
theorem dX4_joinsLetters_17 : decode cX4_joinsLetters 17 = .ok (.iload_n 1, 1) := by decide +kernel
theorem dX4_joinsLetters_18 : decode cX4_joinsLetters 18 = .ok (.invokestatic 65, 3) := by decide +kernel
theorem dX4_joinsLetters_21 : decode cX4_joinsLetters 21 = .ok (.ifCond .eq 14, 3) := by decide +kernel
theorem dX4_joinsLetters_24 : decode cX4_joinsLetters 24 = .ok (.iload_n 2, 1) := by decide +kernel
theorem dX4_joinsLetters_25 : decode cX4_joinsLetters 25 = .ok (.invokestatic 62, 3) := by decide +kernel
theorem dX4_joinsLetters_28 : decode cX4_joinsLetters 28 = .ok (.ifCond .eq 7, 3) := by decide +kernel
theorem dX4_joinsLetters_31 : decode cX4_joinsLetters 31 = .ok (.iconst 1, 1) := by decide +kernel
theorem dX4_joinsLetters_32 : decode cX4_joinsLetters 32 = .ok (.goto 4, 3) := by decide +kernel
theorem dX4_joinsLetters_35 : decode cX4_joinsLetters 35 = .ok (.iconst 0, 1) := by decide +kernel
theorem dX4_joinsLetters_36 : decode cX4_joinsLetters 36 = .ok (.ireturn, 1) := by decide +kernel
theorem dX4_joinsLetters_37 : decode cX4_joinsLetters 37 = .ok (.aload_n 0, 1) := by decide +kernel
theorem dX4_joinsLetters_38 : decode cX4_joinsLetters 38 = .ok (.getfield 18, 3) := by decide +kernel
theorem dX4_joinsLetters_41 : decode cX4_joinsLetters 41 = .ok (.invokestatic 62, 3) := by decide +kernel
theorem dX4_joinsLetters_44 : decode cX4_joinsLetters 44 = .ok (.ifCond .eq 24, 3) := by decide +kernel
theorem dX4_joinsLetters_47 : decode cX4_joinsLetters 47 = .ok (.aload_n 0, 1) := by decide +kernel
theorem dX4_joinsLetters_48 : decode cX4_joinsLetters 48 = .ok (.getfield 15, 3) := by decide +kernel
theorem dX4_joinsLetters_51 : decode cX4_joinsLetters 51 = .ok (.invokestatic 65, 3) := by decide +kernel
theorem dX4_joinsLetters_54 : decode cX4_joinsLetters 54 = .ok (.ifCond .eq 14, 3) := by decide +kernel
theorem dX4_joinsLetters_57 : decode cX4_joinsLetters 57 = .ok (.iload_n 1, 1) := by decide +kernel
theorem dX4_joinsLetters_58 : decode cX4_joinsLetters 58 = .ok (.invokestatic 62, 3) := by decide +kernel
theorem dX4_joinsLetters_61 : decode cX4_joinsLetters 61 = .ok (.ifCond .eq 7, 3) := by decide +kernel
theorem dX4_joinsLetters_64 : decode cX4_joinsLetters 64 = .ok (.iconst 1, 1) := by decide +kernel
theorem dX4_joinsLetters_65 : decode cX4_joinsLetters 65 = .ok (.goto 4, 3) := by decide +kernel
theorem dX4_joinsLetters_68 : decode cX4_joinsLetters 68 = .ok (.iconst 0, 1) := by decide +kernel
theorem dX4_joinsLetters_69 : decode cX4_joinsLetters 69 = .ok (.ireturn, 1) := by decide +kernel
theorem dX4_isLetter_0 : decode cX4_isLetter 0 = .ok (.iload_n 0, 1) := by decide +kernel
theorem dX4_isLetter_1 : decode cX4_isLetter 1 = .ok (.bipush 10, 2) := by decide +kernel
theorem dX4_isLetter_3 : decode cX4_isLetter 3 = .ok (.if_icmp .eq 9, 3) := by decide +kernel
theorem dX4_isLetter_6 : decode cX4_isLetter 6 = .ok (.iload_n 0, 1) := by decide +kernel
theorem dX4_isLetter_7 : decode cX4_isLetter 7 = .ok (.bipush 9, 2) := by decide +kernel
theorem dX4_isLetter_9 : decode cX4_isLetter 9 = .ok (.if_icmp .ne 7, 3) := by decide +kernel
theorem dX4_isLetter_12 : decode cX4_isLetter 12 = .ok (.iconst 1, 1) := by decide +kernel
theorem dX4_isLetter_13 : decode cX4_isLetter 13 = .ok (.goto 4, 3) := by decide +kernel
theorem dX4_isLetter_16 : decode cX4_isLetter 16 = .ok (.iconst 0, 1) := by decide +kernel
theorem dX4_isLetter_17 : decode cX4_isLetter 17 = .ok (.ireturn, 1) := by decide +kernel
theorem dX4_isMidLetter_0 : decode cX4_isMidLetter 0 = .ok (.iload_n 0, 1) := by decide +kernel
theorem dX4_isMidLetter_1 : decode cX4_isMidLetter 1 = .ok (.bipush 11, 2) := by decide +kernel
theorem dX4_isMidLetter_3 : decode cX4_isMidLetter 3 = .ok (.if_icmp .eq 10, 3) := by decide +kernel
theorem dX4_isMidLetter_6 : decode cX4_isMidLetter 6 = .ok (.iload_n 0, 1) := by decide +kernel
theorem dX4_isMidLetter_7 : decode cX4_isMidLetter 7 = .ok (.invokestatic 74, 3) := by decide +kernel
theorem dX4_isMidLetter_10 : decode cX4_isMidLetter 10 = .ok (.ifCond .eq 7, 3) := by decide +kernel
theorem dX4_isMidLetter_13 : decode cX4_isMidLetter 13 = .ok (.iconst 1, 1) := by decide +kernel
theorem dX4_isMidLetter_14 : decode cX4_isMidLetter 14 = .ok (.goto 4, 3) := by decide +kernel
theorem dX4_isMidLetter_17 : decode cX4_isMidLetter 17 = .ok (.iconst 0, 1) := by decide +kernel
theorem dX4_isMidLetter_18 : decode cX4_isMidLetter 18 = .ok (.ireturn, 1) := by decide +kernel
theorem dX4_isMidOfBoth_0 : decode cX4_isMidOfBoth 0 = .ok (.iload_n 0, 1) := by decide +kernel
theorem dX4_isMidOfBoth_1 : decode cX4_isMidOfBoth 1 = .ok (.bipush 13, 2) := by decide +kernel
theorem dX4_isMidOfBoth_3 : decode cX4_isMidOfBoth 3 = .ok (.if_icmp .eq 9, 3) := by decide +kernel
theorem dX4_isMidOfBoth_6 : decode cX4_isMidOfBoth 6 = .ok (.iload_n 0, 1) := by decide +kernel
theorem dX4_isMidOfBoth_7 : decode cX4_isMidOfBoth 7 = .ok (.bipush 14, 2) := by decide +kernel
theorem dX4_isMidOfBoth_9 : decode cX4_isMidOfBoth 9 = .ok (.if_icmp .ne 7, 3) := by decide +kernel
theorem dX4_isMidOfBoth_12 : decode cX4_isMidOfBoth 12 = .ok (.iconst 1, 1) := by decide +kernel
theorem dX4_isMidOfBoth_13 : decode cX4_isMidOfBoth 13 = .ok (.goto 4, 3) := by decide +kernel
theorem dX4_isMidOfBoth_16 : decode cX4_isMidOfBoth 16 = .ok (.iconst 0, 1) := by decide +kernel
theorem dX4_isMidOfBoth_17 : decode cX4_isMidOfBoth 17 = .ok (.ireturn, 1) := by decide +kernel
theorem dX4_joinsHebrew_0 : decode cX4_joinsHebrew 0 = .ok (.aload_n 0, 1) := by decide +kernel
theorem dX4_joinsHebrew_1 : decode cX4_joinsHebrew 1 = .ok (.getfield 15, 3) := by decide +kernel
theorem dX4_joinsHebrew_4 : decode cX4_joinsHebrew 4 = .ok (.bipush 9, 2) := by decide +kernel
theorem dX4_joinsHebrew_6 : decode cX4_joinsHebrew 6 = .ok (.if_icmp .ne 27, 3) := by decide +kernel
theorem dX4_joinsHebrew_9 : decode cX4_joinsHebrew 9 = .ok (.iload_n 1, 1) := by decide +kernel
theorem dX4_joinsHebrew_10 : decode cX4_joinsHebrew 10 = .ok (.bipush 14, 2) := by decide +kernel
theorem dX4_joinsHebrew_12 : decode cX4_joinsHebrew 12 = .ok (.if_icmp .eq 15, 3) := by decide +kernel
theorem dX4_joinsHebrew_15 : decode cX4_joinsHebrew 15 = .ok (.iload_n 1, 1) := by decide +kernel
theorem dX4_joinsHebrew_16 : decode cX4_joinsHebrew 16 = .ok (.bipush 15, 2) := by decide +kernel
theorem dX4_joinsHebrew_18 : decode cX4_joinsHebrew 18 = .ok (.if_icmp .ne 13, 3) := by decide +kernel
theorem dX4_joinsHebrew_21 : decode cX4_joinsHebrew 21 = .ok (.iload_n 2, 1) := by decide +kernel
theorem dX4_joinsHebrew_22 : decode cX4_joinsHebrew 22 = .ok (.bipush 9, 2) := by decide +kernel
theorem dX4_joinsHebrew_24 : decode cX4_joinsHebrew 24 = .ok (.if_icmp .ne 7, 3) := by decide +kernel
theorem dX4_joinsHebrew_27 : decode cX4_joinsHebrew 27 = .ok (.iconst 1, 1) := by decide +kernel
theorem dX4_joinsHebrew_28 : decode cX4_joinsHebrew 28 = .ok (.goto 4, 3) := by decide +kernel
theorem dX4_joinsHebrew_31 : decode cX4_joinsHebrew 31 = .ok (.iconst 0, 1) := by decide +kernel
theorem dX4_joinsHebrew_32 : decode cX4_joinsHebrew 32 = .ok (.ireturn, 1) := by decide +kernel
theorem dX4_joinsHebrew_33 : decode cX4_joinsHebrew 33 = .ok (.aload_n 0, 1) := by decide +kernel
theorem dX4_joinsHebrew_34 : decode cX4_joinsHebrew 34 = .ok (.getfield 18, 3) := by decide +kernel
theorem dX4_joinsHebrew_37 : decode cX4_joinsHebrew 37 = .ok (.bipush 9, 2) := by decide +kernel
theorem dX4_joinsHebrew_39 : decode cX4_joinsHebrew 39 = .ok (.if_icmp .ne 22, 3) := by decide +kernel
theorem dX4_joinsHebrew_42 : decode cX4_joinsHebrew 42 = .ok (.aload_n 0, 1) := by decide +kernel
theorem dX4_joinsHebrew_43 : decode cX4_joinsHebrew 43 = .ok (.getfield 15, 3) := by decide +kernel
theorem dX4_joinsHebrew_46 : decode cX4_joinsHebrew 46 = .ok (.bipush 15, 2) := by decide +kernel
theorem dX4_joinsHebrew_48 : decode cX4_joinsHebrew 48 = .ok (.if_icmp .ne 13, 3) := by decide +kernel
theorem dX4_joinsHebrew_51 : decode cX4_joinsHebrew 51 = .ok (.iload_n 1, 1) := by decide +kernel
theorem dX4_joinsHebrew_52 : decode cX4_joinsHebrew 52 = .ok (.bipush 9, 2) := by decide +kernel
theorem dX4_joinsHebrew_54 : decode cX4_joinsHebrew 54 = .ok (.if_icmp .ne 7, 3) := by decide +kernel
theorem dX4_joinsHebrew_57 : decode cX4_joinsHebrew 57 = .ok (.iconst 1, 1) := by decide +kernel
theorem dX4_joinsHebrew_58 : decode cX4_joinsHebrew 58 = .ok (.goto 4, 3) := by decide +kernel
theorem dX4_joinsHebrew_61 : decode cX4_joinsHebrew 61 = .ok (.iconst 0, 1) := by decide +kernel
theorem dX4_joinsHebrew_62 : decode cX4_joinsHebrew 62 = .ok (.ireturn, 1) := by decide +kernel
theorem dX4_joinsNumbers_0 : decode cX4_joinsNumbers 0 = .ok (.aload_n 0, 1) := by decide +kernel
theorem dX4_joinsNumbers_1 : decode cX4_joinsNumbers 1 = .ok (.getfield 15, 3) := by decide +kernel
theorem dX4_joinsNumbers_4 : decode cX4_joinsNumbers 4 = .ok (.bipush 16, 2) := by decide +kernel
theorem dX4_joinsNumbers_6 : decode cX4_joinsNumbers 6 = .ok (.if_icmp .ne 35, 3) := by decide +kernel
theorem dX4_joinsNumbers_9 : decode cX4_joinsNumbers 9 = .ok (.iload_n 1, 1) := by decide +kernel
theorem dX4_joinsNumbers_10 : decode cX4_joinsNumbers 10 = .ok (.bipush 16, 2) := by decide +kernel
theorem dX4_joinsNumbers_12 : decode cX4_joinsNumbers 12 = .ok (.if_icmp .eq 23, 3) := by decide +kernel
theorem dX4_joinsNumbers_15 : decode cX4_joinsNumbers 15 = .ok (.iload_n 1, 1) := by decide +kernel
theorem dX4_joinsNumbers_16 : decode cX4_joinsNumbers 16 = .ok (.invokestatic 62, 3) := by decide +kernel
theorem dX4_joinsNumbers_19 : decode cX4_joinsNumbers 19 = .ok (.ifCond .ne 16, 3) := by decide +kernel
theorem dX4_joinsNumbers_22 : decode cX4_joinsNumbers 22 = .ok (.iload_n 1, 1) := by decide +kernel
theorem dX4_joinsNumbers_23 : decode cX4_joinsNumbers 23 = .ok (.invokestatic 68, 3) := by decide +kernel
theorem dX4_joinsNumbers_26 : decode cX4_joinsNumbers 26 = .ok (.ifCond .eq 13, 3) := by decide +kernel
theorem dX4_joinsNumbers_29 : decode cX4_joinsNumbers 29 = .ok (.iload_n 2, 1) := by decide +kernel
theorem dX4_joinsNumbers_30 : decode cX4_joinsNumbers 30 = .ok (.bipush 16, 2) := by decide +kernel
theorem dX4_joinsNumbers_32 : decode cX4_joinsNumbers 32 = .ok (.if_icmp .ne 7, 3) := by decide +kernel
theorem dX4_joinsNumbers_35 : decode cX4_joinsNumbers 35 = .ok (.iconst 1, 1) := by decide +kernel
theorem dX4_joinsNumbers_36 : decode cX4_joinsNumbers 36 = .ok (.goto 4, 3) := by decide +kernel
theorem dX4_joinsNumbers_39 : decode cX4_joinsNumbers 39 = .ok (.iconst 0, 1) := by decide +kernel
theorem dX4_joinsNumbers_40 : decode cX4_joinsNumbers 40 = .ok (.ireturn, 1) := by decide +kernel
theorem dX4_joinsNumbers_41 : decode cX4_joinsNumbers 41 = .ok (.aload_n 0, 1) := by decide +kernel
theorem dX4_joinsNumbers_42 : decode cX4_joinsNumbers 42 = .ok (.getfield 15, 3) := by decide +kernel
theorem dX4_joinsNumbers_45 : decode cX4_joinsNumbers 45 = .ok (.invokestatic 62, 3) := by decide +kernel
theorem dX4_joinsNumbers_48 : decode cX4_joinsNumbers 48 = .ok (.ifCond .eq 15, 3) := by decide +kernel
theorem dX4_joinsNumbers_51 : decode cX4_joinsNumbers 51 = .ok (.iload_n 1, 1) := by decide +kernel
theorem dX4_joinsNumbers_52 : decode cX4_joinsNumbers 52 = .ok (.bipush 16, 2) := by decide +kernel
theorem dX4_joinsNumbers_54 : decode cX4_joinsNumbers 54 = .ok (.if_icmp .ne 7, 3) := by decide +kernel
theorem dX4_joinsNumbers_57 : decode cX4_joinsNumbers 57 = .ok (.iconst 1, 1) := by decide +kernel
theorem dX4_joinsNumbers_58 : decode cX4_joinsNumbers 58 = .ok (.goto 4, 3) := by decide +kernel
theorem dX4_joinsNumbers_61 : decode cX4_joinsNumbers 61 = .ok (.iconst 0, 1) := by decide +kernel
theorem dX4_joinsNumbers_62 : decode cX4_joinsNumbers 62 = .ok (.ireturn, 1) := by decide +kernel
theorem dX4_joinsNumbers_63 : decode cX4_joinsNumbers 63 = .ok (.aload_n 0, 1) := by decide +kernel
theorem dX4_joinsNumbers_64 : decode cX4_joinsNumbers 64 = .ok (.getfield 18, 3) := by decide +kernel
theorem dX4_joinsNumbers_67 : decode cX4_joinsNumbers 67 = .ok (.bipush 16, 2) := by decide +kernel
theorem dX4_joinsNumbers_69 : decode cX4_joinsNumbers 69 = .ok (.if_icmp .ne 23, 3) := by decide +kernel
theorem dX4_joinsNumbers_72 : decode cX4_joinsNumbers 72 = .ok (.aload_n 0, 1) := by decide +kernel
theorem dX4_joinsNumbers_73 : decode cX4_joinsNumbers 73 = .ok (.getfield 15, 3) := by decide +kernel
theorem dX4_joinsNumbers_76 : decode cX4_joinsNumbers 76 = .ok (.invokestatic 68, 3) := by decide +kernel
theorem dX4_joinsNumbers_79 : decode cX4_joinsNumbers 79 = .ok (.ifCond .eq 13, 3) := by decide +kernel
theorem dX4_joinsNumbers_82 : decode cX4_joinsNumbers 82 = .ok (.iload_n 1, 1) := by decide +kernel
theorem dX4_joinsNumbers_83 : decode cX4_joinsNumbers 83 = .ok (.bipush 16, 2) := by decide +kernel
theorem dX4_joinsNumbers_85 : decode cX4_joinsNumbers 85 = .ok (.if_icmp .ne 7, 3) := by decide +kernel
theorem dX4_joinsNumbers_88 : decode cX4_joinsNumbers 88 = .ok (.iconst 1, 1) := by decide +kernel
theorem dX4_joinsNumbers_89 : decode cX4_joinsNumbers 89 = .ok (.goto 4, 3) := by decide +kernel
theorem dX4_joinsNumbers_92 : decode cX4_joinsNumbers 92 = .ok (.iconst 0, 1) := by decide +kernel
theorem dX4_joinsNumbers_93 : decode cX4_joinsNumbers 93 = .ok (.ireturn, 1) := by decide +kernel
theorem dX4_isMidNumber_0 : decode cX4_isMidNumber 0 = .ok (.iload_n 0, 1) := by decide +kernel
theorem dX4_isMidNumber_1 : decode cX4_isMidNumber 1 = .ok (.bipush 12, 2) := by decide +kernel
theorem dX4_isMidNumber_3 : decode cX4_isMidNumber 3 = .ok (.if_icmp .eq 10, 3) := by decide +kernel
theorem dX4_isMidNumber_6 : decode cX4_isMidNumber 6 = .ok (.iload_n 0, 1) := by decide +kernel
theorem dX4_isMidNumber_7 : decode cX4_isMidNumber 7 = .ok (.invokestatic 74, 3) := by decide +kernel
theorem dX4_isMidNumber_10 : decode cX4_isMidNumber 10 = .ok (.ifCond .eq 7, 3) := by decide +kernel
theorem dX4_isMidNumber_13 : decode cX4_isMidNumber 13 = .ok (.iconst 1, 1) := by decide +kernel
theorem dX4_isMidNumber_14 : decode cX4_isMidNumber 14 = .ok (.goto 4, 3) := by decide +kernel
theorem dX4_isMidNumber_17 : decode cX4_isMidNumber 17 = .ok (.iconst 0, 1) := by decide +kernel
theorem dX4_isMidNumber_18 : decode cX4_isMidNumber 18 = .ok (.ireturn, 1) := by decide +kernel
theorem dX4_joinsRuns_0 : decode cX4_joinsRuns 0 = .ok (.iload_n 1, 1) := by decide +kernel
theorem dX4_joinsRuns_1 : decode cX4_joinsRuns 1 = .ok (.bipush 17, 2) := by decide +kernel
theorem dX4_joinsRuns_3 : decode cX4_joinsRuns 3 = .ok (.if_icmp .ne 28, 3) := by decide +kernel
theorem dX4_joinsRuns_6 : decode cX4_joinsRuns 6 = .ok (.aload_n 0, 1) := by decide +kernel
theorem dX4_joinsRuns_7 : decode cX4_joinsRuns 7 = .ok (.getfield 15, 3) := by decide +kernel
theorem dX4_joinsRuns_10 : decode cX4_joinsRuns 10 = .ok (.invokestatic 71, 3) := by decide +kernel
theorem dX4_joinsRuns_13 : decode cX4_joinsRuns 13 = .ok (.ifCond .ne 12, 3) := by decide +kernel
theorem dX4_joinsRuns_16 : decode cX4_joinsRuns 16 = .ok (.aload_n 0, 1) := by decide +kernel
theorem dX4_joinsRuns_17 : decode cX4_joinsRuns 17 = .ok (.getfield 15, 3) := by decide +kernel
theorem dX4_joinsRuns_20 : decode cX4_joinsRuns 20 = .ok (.bipush 17, 2) := by decide +kernel
theorem dX4_joinsRuns_22 : decode cX4_joinsRuns 22 = .ok (.if_icmp .ne 7, 3) := by decide +kernel
theorem dX4_joinsRuns_25 : decode cX4_joinsRuns 25 = .ok (.iconst 1, 1) := by decide +kernel
theorem dX4_joinsRuns_26 : decode cX4_joinsRuns 26 = .ok (.goto 4, 3) := by decide +kernel
theorem dX4_joinsRuns_29 : decode cX4_joinsRuns 29 = .ok (.iconst 0, 1) := by decide +kernel
theorem dX4_joinsRuns_30 : decode cX4_joinsRuns 30 = .ok (.ireturn, 1) := by decide +kernel
theorem dX4_joinsRuns_31 : decode cX4_joinsRuns 31 = .ok (.aload_n 0, 1) := by decide +kernel
theorem dX4_joinsRuns_32 : decode cX4_joinsRuns 32 = .ok (.getfield 15, 3) := by decide +kernel
theorem dX4_joinsRuns_35 : decode cX4_joinsRuns 35 = .ok (.bipush 17, 2) := by decide +kernel
theorem dX4_joinsRuns_37 : decode cX4_joinsRuns 37 = .ok (.if_icmp .ne 8, 3) := by decide +kernel
theorem dX4_joinsRuns_40 : decode cX4_joinsRuns 40 = .ok (.iload_n 1, 1) := by decide +kernel
theorem dX4_joinsRuns_41 : decode cX4_joinsRuns 41 = .ok (.invokestatic 71, 3) := by decide +kernel
theorem dX4_joinsRuns_44 : decode cX4_joinsRuns 44 = .ok (.ireturn, 1) := by decide +kernel
theorem dX4_joinsRuns_45 : decode cX4_joinsRuns 45 = .ok (.aload_n 0, 1) := by decide +kernel
theorem dX4_joinsRuns_46 : decode cX4_joinsRuns 46 = .ok (.getfield 15, 3) := by decide +kernel
theorem dX4_joinsRuns_49 : decode cX4_joinsRuns 49 = .ok (.bipush 8, 2) := by decide +kernel
theorem dX4_joinsRuns_51 : decode cX4_joinsRuns 51 = .ok (.if_icmp .ne 13, 3) := by decide +kernel
theorem dX4_joinsRuns_54 : decode cX4_joinsRuns 54 = .ok (.iload_n 1, 1) := by decide +kernel
theorem dX4_joinsRuns_55 : decode cX4_joinsRuns 55 = .ok (.bipush 8, 2) := by decide +kernel
theorem dX4_joinsRuns_57 : decode cX4_joinsRuns 57 = .ok (.if_icmp .ne 7, 3) := by decide +kernel
theorem dX4_joinsRuns_60 : decode cX4_joinsRuns 60 = .ok (.iconst 1, 1) := by decide +kernel
theorem dX4_joinsRuns_61 : decode cX4_joinsRuns 61 = .ok (.goto 4, 3) := by decide +kernel
theorem dX4_joinsRuns_64 : decode cX4_joinsRuns 64 = .ok (.iconst 0, 1) := by decide +kernel
theorem dX4_joinsRuns_65 : decode cX4_joinsRuns 65 = .ok (.ireturn, 1) := by decide +kernel
theorem dX4_isRunPart_0 : decode cX4_isRunPart 0 = .ok (.iload_n 0, 1) := by decide +kernel
theorem dX4_isRunPart_1 : decode cX4_isRunPart 1 = .ok (.invokestatic 62, 3) := by decide +kernel
theorem dX4_isRunPart_4 : decode cX4_isRunPart 4 = .ok (.ifCond .ne 15, 3) := by decide +kernel
theorem dX4_isRunPart_7 : decode cX4_isRunPart 7 = .ok (.iload_n 0, 1) := by decide +kernel
theorem dX4_isRunPart_8 : decode cX4_isRunPart 8 = .ok (.bipush 16, 2) := by decide +kernel
theorem dX4_isRunPart_10 : decode cX4_isRunPart 10 = .ok (.if_icmp .eq 9, 3) := by decide +kernel
theorem dX4_isRunPart_13 : decode cX4_isRunPart 13 = .ok (.iload_n 0, 1) := by decide +kernel
theorem dX4_isRunPart_14 : decode cX4_isRunPart 14 = .ok (.bipush 8, 2) := by decide +kernel
theorem dX4_isRunPart_16 : decode cX4_isRunPart 16 = .ok (.if_icmp .ne 7, 3) := by decide +kernel
theorem dX4_isRunPart_19 : decode cX4_isRunPart 19 = .ok (.iconst 1, 1) := by decide +kernel
theorem dX4_isRunPart_20 : decode cX4_isRunPart 20 = .ok (.goto 4, 3) := by decide +kernel
theorem dX4_isRunPart_23 : decode cX4_isRunPart 23 = .ok (.iconst 0, 1) := by decide +kernel
theorem dX4_isRunPart_24 : decode cX4_isRunPart 24 = .ok (.ireturn, 1) := by decide +kernel
theorem dX1_pass_0 : decode cX1_pass 0 = .ok (.aload_n 1, 1) := by decide +kernel
theorem dX1_pass_1 : decode cX1_pass 1 = .ok (.getfield 25, 3) := by decide +kernel
theorem dX1_pass_4 : decode cX1_pass 4 = .ok (.iload_n 2, 1) := by decide +kernel
theorem dX1_pass_5 : decode cX1_pass 5 = .ok (.iaload, 1) := by decide +kernel
theorem dX1_pass_6 : decode cX1_pass 6 = .ok (.istore_n 3, 1) := by decide +kernel
theorem dX1_pass_7 : decode cX1_pass 7 = .ok (.aload_n 0, 1) := by decide +kernel
theorem dX1_pass_8 : decode cX1_pass 8 = .ok (.aload_n 0, 1) := by decide +kernel
theorem dX1_pass_9 : decode cX1_pass 9 = .ok (.getfield 19, 3) := by decide +kernel
theorem dX1_pass_12 : decode cX1_pass 12 = .ok (.ifCond .eq 12, 3) := by decide +kernel
theorem dX1_pass_15 : decode cX1_pass 15 = .ok (.iload_n 3, 1) := by decide +kernel
theorem dX1_pass_16 : decode cX1_pass 16 = .ok (.iconst 5, 1) := by decide +kernel
theorem dX1_pass_17 : decode cX1_pass 17 = .ok (.if_icmp .ne 7, 3) := by decide +kernel
theorem dX1_pass_20 : decode cX1_pass 20 = .ok (.iconst 1, 1) := by decide +kernel
theorem dX1_pass_21 : decode cX1_pass 21 = .ok (.goto 4, 3) := by decide +kernel
theorem dX1_pass_24 : decode cX1_pass 24 = .ok (.iconst 0, 1) := by decide +kernel
theorem dX1_pass_25 : decode cX1_pass 25 = .ok (.putfield 22, 3) := by decide +kernel
theorem dX1_pass_28 : decode cX1_pass 28 = .ok (.aload_n 0, 1) := by decide +kernel
theorem dX1_pass_29 : decode cX1_pass 29 = .ok (.aload_n 1, 1) := by decide +kernel
theorem dX1_pass_30 : decode cX1_pass 30 = .ok (.getfield 38, 3) := by decide +kernel
theorem dX1_pass_33 : decode cX1_pass 33 = .ok (.iload_n 2, 1) := by decide +kernel
theorem dX1_pass_34 : decode cX1_pass 34 = .ok (.baload, 1) := by decide +kernel
theorem dX1_pass_35 : decode cX1_pass 35 = .ok (.ifCond .ne 15, 3) := by decide +kernel
theorem dX1_pass_38 : decode cX1_pass 38 = .ok (.aload_n 0, 1) := by decide +kernel
theorem dX1_pass_39 : decode cX1_pass 39 = .ok (.getfield 19, 3) := by decide +kernel
theorem dX1_pass_42 : decode cX1_pass 42 = .ok (.ifCond .eq 12, 3) := by decide +kernel
theorem dX1_pass_45 : decode cX1_pass 45 = .ok (.iload_n 3, 1) := by decide +kernel
theorem dX1_pass_46 : decode cX1_pass 46 = .ok (.iconst 4, 1) := by decide +kernel
theorem dX1_pass_47 : decode cX1_pass 47 = .ok (.if_icmp .ne 7, 3) := by decide +kernel
theorem dX1_pass_50 : decode cX1_pass 50 = .ok (.iconst 1, 1) := by decide +kernel
theorem dX1_pass_51 : decode cX1_pass 51 = .ok (.goto 4, 3) := by decide +kernel
theorem dX1_pass_54 : decode cX1_pass 54 = .ok (.iconst 0, 1) := by decide +kernel
theorem dX1_pass_55 : decode cX1_pass 55 = .ok (.putfield 19, 3) := by decide +kernel
theorem dX1_pass_58 : decode cX1_pass 58 = .ok (.aload_n 0, 1) := by decide +kernel
theorem dX1_pass_59 : decode cX1_pass 59 = .ok (.iload_n 3, 1) := by decide +kernel
theorem dX1_pass_60 : decode cX1_pass 60 = .ok (.bipush 6, 2) := by decide +kernel
theorem dX1_pass_62 : decode cX1_pass 62 = .ok (.if_icmp .ne 14, 3) := by decide +kernel
theorem dX1_pass_65 : decode cX1_pass 65 = .ok (.aload_n 0, 1) := by decide +kernel
theorem dX1_pass_66 : decode cX1_pass 66 = .ok (.getfield 15, 3) := by decide +kernel
theorem dX1_pass_69 : decode cX1_pass 69 = .ok (.ifCond .ne 7, 3) := by decide +kernel
theorem dX1_pass_72 : decode cX1_pass 72 = .ok (.iconst 1, 1) := by decide +kernel
theorem dX1_pass_73 : decode cX1_pass 73 = .ok (.goto 4, 3) := by decide +kernel
theorem dX1_pass_76 : decode cX1_pass 76 = .ok (.iconst 0, 1) := by decide +kernel
theorem dX1_pass_77 : decode cX1_pass 77 = .ok (.putfield 15, 3) := by decide +kernel
theorem dX1_pass_80 : decode cX1_pass 80 = .ok (.aload_n 0, 1) := by decide +kernel
theorem dX1_pass_81 : decode cX1_pass 81 = .ok (.iload_n 3, 1) := by decide +kernel
theorem dX1_pass_82 : decode cX1_pass 82 = .ok (.putfield 9, 3) := by decide +kernel
theorem dX1_pass_85 : decode cX1_pass 85 = .ok (.return_, 1) := by decide +kernel
theorem dX4_pass_0 : decode cX4_pass 0 = .ok (.aload_n 1, 1) := by decide +kernel
theorem dX4_pass_1 : decode cX4_pass 1 = .ok (.getfield 25, 3) := by decide +kernel
theorem dX4_pass_4 : decode cX4_pass 4 = .ok (.iload_n 2, 1) := by decide +kernel
theorem dX4_pass_5 : decode cX4_pass 5 = .ok (.iaload, 1) := by decide +kernel
theorem dX4_pass_6 : decode cX4_pass 6 = .ok (.istore_n 3, 1) := by decide +kernel
theorem dX4_pass_7 : decode cX4_pass 7 = .ok (.iload_n 3, 1) := by decide +kernel
theorem dX4_pass_8 : decode cX4_pass 8 = .ok (.invokestatic 39, 3) := by decide +kernel
theorem dX4_pass_11 : decode cX4_pass 11 = .ok (.ifCond .eq 21, 3) := by decide +kernel
theorem dX4_pass_14 : decode cX4_pass 14 = .ok (.aload_n 0, 1) := by decide +kernel
theorem dX4_pass_15 : decode cX4_pass 15 = .ok (.getfield 9, 3) := by decide +kernel
theorem dX4_pass_18 : decode cX4_pass 18 = .ok (.iconst (-1), 1) := by decide +kernel
theorem dX4_pass_19 : decode cX4_pass 19 = .ok (.if_icmp .eq 13, 3) := by decide +kernel
theorem dX4_pass_22 : decode cX4_pass 22 = .ok (.aload_n 0, 1) := by decide +kernel
theorem dX4_pass_23 : decode cX4_pass 23 = .ok (.getfield 9, 3) := by decide +kernel
theorem dX4_pass_26 : decode cX4_pass 26 = .ok (.invokestatic 31, 3) := by decide +kernel
theorem dX4_pass_29 : decode cX4_pass 29 = .ok (.ifCond .eq 7, 3) := by decide +kernel
theorem dX4_pass_32 : decode cX4_pass 32 = .ok (.iconst 1, 1) := by decide +kernel
theorem dX4_pass_33 : decode cX4_pass 33 = .ok (.goto 4, 3) := by decide +kernel
theorem dX4_pass_36 : decode cX4_pass 36 = .ok (.iconst 0, 1) := by decide +kernel
theorem dX4_pass_37 : decode cX4_pass 37 = .ok (.istore 4, 2) := by decide +kernel
theorem dX4_pass_39 : decode cX4_pass 39 = .ok (.iload 4, 2) := by decide +kernel
theorem dX4_pass_41 : decode cX4_pass 41 = .ok (.ifCond .eq 38, 3) := by decide +kernel
theorem dX4_pass_44 : decode cX4_pass 44 = .ok (.aload_n 0, 1) := by decide +kernel
theorem dX4_pass_45 : decode cX4_pass 45 = .ok (.aload_n 0, 1) := by decide +kernel
theorem dX4_pass_46 : decode cX4_pass 46 = .ok (.getfield 15, 3) := by decide +kernel
theorem dX4_pass_49 : decode cX4_pass 49 = .ok (.putfield 18, 3) := by decide +kernel
theorem dX4_pass_52 : decode cX4_pass 52 = .ok (.aload_n 0, 1) := by decide +kernel
theorem dX4_pass_53 : decode cX4_pass 53 = .ok (.iload_n 3, 1) := by decide +kernel
theorem dX4_pass_54 : decode cX4_pass 54 = .ok (.putfield 15, 3) := by decide +kernel
theorem dX4_pass_57 : decode cX4_pass 57 = .ok (.aload_n 0, 1) := by decide +kernel
theorem dX4_pass_58 : decode cX4_pass 58 = .ok (.iload_n 3, 1) := by decide +kernel
theorem dX4_pass_59 : decode cX4_pass 59 = .ok (.bipush 6, 2) := by decide +kernel
theorem dX4_pass_61 : decode cX4_pass 61 = .ok (.if_icmp .ne 14, 3) := by decide +kernel
theorem dX4_pass_64 : decode cX4_pass 64 = .ok (.aload_n 0, 1) := by decide +kernel
theorem dX4_pass_65 : decode cX4_pass 65 = .ok (.getfield 21, 3) := by decide +kernel
theorem dX4_pass_68 : decode cX4_pass 68 = .ok (.ifCond .ne 7, 3) := by decide +kernel
theorem dX4_pass_71 : decode cX4_pass 71 = .ok (.iconst 1, 1) := by decide +kernel
theorem dX4_pass_72 : decode cX4_pass 72 = .ok (.goto 4, 3) := by decide +kernel
theorem dX4_pass_75 : decode cX4_pass 75 = .ok (.iconst 0, 1) := by decide +kernel
theorem dX4_pass_76 : decode cX4_pass 76 = .ok (.putfield 21, 3) := by decide +kernel
theorem dX4_pass_79 : decode cX4_pass 79 = .ok (.aload_n 0, 1) := by decide +kernel
theorem dX4_pass_80 : decode cX4_pass 80 = .ok (.iload_n 3, 1) := by decide +kernel
theorem dX4_pass_81 : decode cX4_pass 81 = .ok (.putfield 9, 3) := by decide +kernel
theorem dX4_pass_84 : decode cX4_pass 84 = .ok (.return_, 1) := by decide +kernel
theorem dL_next_0 : decode cL_next 0 = .ok (.aload 4, 2) := by decide +kernel
theorem dL_next_2 : decode cL_next 2 = .ok (.iconst 0, 1) := by decide +kernel
theorem dL_next_3 : decode cL_next 3 = .ok (.aload_n 0, 1) := by decide +kernel
theorem dL_next_4 : decode cL_next 4 = .ok (.iload_n 1, 1) := by decide +kernel
theorem dL_next_5 : decode cL_next 5 = .ok (.iload_n 2, 1) := by decide +kernel
theorem dL_next_6 : decode cL_next 6 = .ok (.iload_n 3, 1) := by decide +kernel
theorem dL_next_7 : decode cL_next 7 = .ok (.invokevirtual 29, 3) := by decide +kernel
theorem dL_next_10 : decode cL_next 10 = .ok (.i2l, 1) := by decide +kernel
theorem dL_next_11 : decode cL_next 11 = .ok (.lastore, 1) := by decide +kernel
theorem dL_next_12 : decode cL_next 12 = .ok (.goto 7, 3) := by decide +kernel
theorem dL_next_15 : decode cL_next 15 = .ok (.astore 5, 2) := by decide +kernel
theorem dL_next_17 : decode cL_next 17 = .ok (.iconst 1, 1) := by decide +kernel
theorem dL_next_18 : decode cL_next 18 = .ok (.ireturn, 1) := by decide +kernel
theorem dL_next_19 : decode cL_next 19 = .ok (.iconst 0, 1) := by decide +kernel
theorem dL_next_20 : decode cL_next 20 = .ok (.ireturn, 1) := by decide +kernel
theorem dX5_next_0 : decode cX5_next 0 = .ok (.iload_n 1, 1) := by decide +kernel
theorem dX5_next_1 : decode cX5_next 1 = .ok (.iconst 1, 1) := by decide +kernel
theorem dX5_next_2 : decode cX5_next 2 = .ok (.invokestatic 34, 3) := by decide +kernel
theorem dX5_next_5 : decode cX5_next 5 = .ok (.iload_n 2, 1) := by decide +kernel
theorem dX5_next_6 : decode cX5_next 6 = .ok (.aload_n 0, 1) := by decide +kernel
theorem dX5_next_7 : decode cX5_next 7 = .ok (.getfield 10, 3) := by decide +kernel
theorem dX5_next_10 : decode cX5_next 10 = .ok (.getfield 38, 3) := by decide +kernel
theorem dX5_next_13 : decode cX5_next 13 = .ok (.invokestatic 34, 3) := by decide +kernel
theorem dX5_next_16 : decode cX5_next 16 = .ok (.aload_n 0, 1) := by decide +kernel
theorem dX5_next_17 : decode cX5_next 17 = .ok (.iload_n 1, 1) := by decide +kernel
theorem dX5_next_18 : decode cX5_next 18 = .ok (.invokevirtual 56, 3) := by decide +kernel
theorem dX5_next_21 : decode cX5_next 21 = .ok (.astore 4, 2) := by decide +kernel
theorem dX5_next_23 : decode cX5_next 23 = .ok (.iload_n 3, 1) := by decide +kernel
theorem dX5_next_24 : decode cX5_next 24 = .ok (.ifCond .eq 12, 3) := by decide +kernel
theorem dX5_next_27 : decode cX5_next 27 = .ok (.aload 4, 2) := by decide +kernel
theorem dX5_next_29 : decode cX5_next 29 = .ok (.iload_n 2, 1) := by decide +kernel
theorem dX5_next_30 : decode cX5_next 30 = .ok (.invokevirtual 64, 3) := by decide +kernel
theorem dX5_next_33 : decode cX5_next 33 = .ok (.goto 16, 3) := by decide +kernel
theorem dX5_next_36 : decode cX5_next 36 = .ok (.aload 4, 2) := by decide +kernel
theorem dX5_next_38 : decode cX5_next 38 = .ok (.iload_n 2, 1) := by decide +kernel
theorem dX5_next_39 : decode cX5_next 39 = .ok (.aload_n 0, 1) := by decide +kernel
theorem dX5_next_40 : decode cX5_next 40 = .ok (.getfield 10, 3) := by decide +kernel
theorem dX5_next_43 : decode cX5_next 43 = .ok (.getfield 38, 3) := by decide +kernel
theorem dX5_next_46 : decode cX5_next 46 = .ok (.invokevirtual 68, 3) := by decide +kernel
theorem dX5_next_49 : decode cX5_next 49 = .ok (.ireturn, 1) := by decide +kernel
theorem dX0_lastBefore_0 : decode cX0_lastBefore 0 = .ok (.iload_n 1, 1) := by decide +kernel
theorem dX0_lastBefore_1 : decode cX0_lastBefore 1 = .ok (.iconst 1, 1) := by decide +kernel
theorem dX0_lastBefore_2 : decode cX0_lastBefore 2 = .ok (.isub, 1) := by decide +kernel
theorem dX0_lastBefore_3 : decode cX0_lastBefore 3 = .ok (.istore_n 2, 1) := by decide +kernel
theorem dX0_lastBefore_4 : decode cX0_lastBefore 4 = .ok (.iload_n 2, 1) := by decide +kernel
theorem dX0_lastBefore_5 : decode cX0_lastBefore 5 = .ok (.ifCond .lt 20, 3) := by decide +kernel
theorem dX0_lastBefore_8 : decode cX0_lastBefore 8 = .ok (.aload_n 0, 1) := by decide +kernel
theorem dX0_lastBefore_9 : decode cX0_lastBefore 9 = .ok (.getfield 9, 3) := by decide +kernel
theorem dX0_lastBefore_12 : decode cX0_lastBefore 12 = .ok (.iload_n 2, 1) := by decide +kernel
theorem dX0_lastBefore_13 : decode cX0_lastBefore 13 = .ok (.baload, 1) := by decide +kernel
theorem dX0_lastBefore_14 : decode cX0_lastBefore 14 = .ok (.ifCond .eq 5, 3) := by decide +kernel
theorem dX0_lastBefore_17 : decode cX0_lastBefore 17 = .ok (.iload_n 2, 1) := by decide +kernel
theorem dX0_lastBefore_18 : decode cX0_lastBefore 18 = .ok (.ireturn, 1) := by decide +kernel
theorem dX0_lastBefore_19 : decode cX0_lastBefore 19 = .ok (.iinc 2 (-1), 3) := by decide +kernel
theorem dX0_lastBefore_22 : decode cX0_lastBefore 22 = .ok (.goto (-18), 3) := by decide +kernel
theorem dX0_lastBefore_25 : decode cX0_lastBefore 25 = .ok (.iconst (-1), 1) := by decide +kernel
theorem dX0_lastBefore_26 : decode cX0_lastBefore 26 = .ok (.ireturn, 1) := by decide +kernel
theorem dX0_firstBehind_0 : decode cX0_firstBehind 0 = .ok (.iload_n 1, 1) := by decide +kernel
theorem dX0_firstBehind_1 : decode cX0_firstBehind 1 = .ok (.iconst 1, 1) := by decide +kernel
theorem dX0_firstBehind_2 : decode cX0_firstBehind 2 = .ok (.iadd, 1) := by decide +kernel
theorem dX0_firstBehind_3 : decode cX0_firstBehind 3 = .ok (.istore_n 3, 1) := by decide +kernel
theorem dX0_firstBehind_4 : decode cX0_firstBehind 4 = .ok (.iload_n 3, 1) := by decide +kernel
theorem dX0_firstBehind_5 : decode cX0_firstBehind 5 = .ok (.iload_n 2, 1) := by decide +kernel
theorem dX0_firstBehind_6 : decode cX0_firstBehind 6 = .ok (.if_icmp .gt 20, 3) := by decide +kernel
theorem dX0_firstBehind_9 : decode cX0_firstBehind 9 = .ok (.aload_n 0, 1) := by decide +kernel
theorem dX0_firstBehind_10 : decode cX0_firstBehind 10 = .ok (.getfield 9, 3) := by decide +kernel
theorem dX0_firstBehind_13 : decode cX0_firstBehind 13 = .ok (.iload_n 3, 1) := by decide +kernel
theorem dX0_firstBehind_14 : decode cX0_firstBehind 14 = .ok (.baload, 1) := by decide +kernel
theorem dX0_firstBehind_15 : decode cX0_firstBehind 15 = .ok (.ifCond .eq 5, 3) := by decide +kernel
theorem dX0_firstBehind_18 : decode cX0_firstBehind 18 = .ok (.iload_n 3, 1) := by decide +kernel
theorem dX0_firstBehind_19 : decode cX0_firstBehind 19 = .ok (.ireturn, 1) := by decide +kernel
theorem dX0_firstBehind_20 : decode cX0_firstBehind 20 = .ok (.iinc 3 1, 3) := by decide +kernel
theorem dX0_firstBehind_23 : decode cX0_firstBehind 23 = .ok (.goto (-19), 3) := by decide +kernel
theorem dX0_firstBehind_26 : decode cX0_firstBehind 26 = .ok (.iconst (-1), 1) := by decide +kernel
theorem dX0_firstBehind_27 : decode cX0_firstBehind 27 = .ok (.ireturn, 1) := by decide +kernel
theorem dL_rank_0 : decode cL_rank 0 = .ok (.aload_n 3, 1) := by decide +kernel
theorem dL_rank_1 : decode cL_rank 1 = .ok (.iconst 0, 1) := by decide +kernel
theorem dL_rank_2 : decode cL_rank 2 = .ok (.aload_n 0, 1) := by decide +kernel
theorem dL_rank_3 : decode cL_rank 3 = .ok (.iload_n 1, 1) := by decide +kernel
theorem dL_rank_4 : decode cL_rank 4 = .ok (.iload_n 2, 1) := by decide +kernel
theorem dL_rank_5 : decode cL_rank 5 = .ok (.invokevirtual 32, 3) := by decide +kernel
theorem dL_rank_8 : decode cL_rank 8 = .ok (.i2l, 1) := by decide +kernel
theorem dL_rank_9 : decode cL_rank 9 = .ok (.lastore, 1) := by decide +kernel
theorem dL_rank_10 : decode cL_rank 10 = .ok (.goto 7, 3) := by decide +kernel
theorem dL_rank_13 : decode cL_rank 13 = .ok (.astore 4, 2) := by decide +kernel
theorem dL_rank_15 : decode cL_rank 15 = .ok (.iconst 1, 1) := by decide +kernel
theorem dL_rank_16 : decode cL_rank 16 = .ok (.ireturn, 1) := by decide +kernel
theorem dL_rank_17 : decode cL_rank 17 = .ok (.iconst 0, 1) := by decide +kernel
theorem dL_rank_18 : decode cL_rank 18 = .ok (.ireturn, 1) := by decide +kernel
theorem dX5_rank_0 : decode cX5_rank 0 = .ok (.iload_n 1, 1) := by decide +kernel
theorem dX5_rank_1 : decode cX5_rank 1 = .ok (.iconst 1, 1) := by decide +kernel
theorem dX5_rank_2 : decode cX5_rank 2 = .ok (.invokestatic 34, 3) := by decide +kernel
theorem dX5_rank_5 : decode cX5_rank 5 = .ok (.iload_n 2, 1) := by decide +kernel
theorem dX5_rank_6 : decode cX5_rank 6 = .ok (.aload_n 0, 1) := by decide +kernel
theorem dX5_rank_7 : decode cX5_rank 7 = .ok (.getfield 10, 3) := by decide +kernel
theorem dX5_rank_10 : decode cX5_rank 10 = .ok (.getfield 38, 3) := by decide +kernel
theorem dX5_rank_13 : decode cX5_rank 13 = .ok (.invokestatic 34, 3) := by decide +kernel
theorem dX5_rank_16 : decode cX5_rank 16 = .ok (.aload_n 0, 1) := by decide +kernel
theorem dX5_rank_17 : decode cX5_rank 17 = .ok (.iload_n 1, 1) := by decide +kernel
theorem dX5_rank_18 : decode cX5_rank 18 = .ok (.invokevirtual 56, 3) := by decide +kernel
theorem dX5_rank_21 : decode cX5_rank 21 = .ok (.iload_n 2, 1) := by decide +kernel
theorem dX5_rank_22 : decode cX5_rank 22 = .ok (.invokevirtual 72, 3) := by decide +kernel
theorem dX5_rank_25 : decode cX5_rank 25 = .ok (.ireturn, 1) := by decide +kernel
theorem dX0_countUpTo_0 : decode cX0_countUpTo 0 = .ok (.iconst 0, 1) := by decide +kernel
theorem dX0_countUpTo_1 : decode cX0_countUpTo 1 = .ok (.istore_n 2, 1) := by decide +kernel
theorem dX0_countUpTo_2 : decode cX0_countUpTo 2 = .ok (.iconst 0, 1) := by decide +kernel
theorem dX0_countUpTo_3 : decode cX0_countUpTo 3 = .ok (.istore_n 3, 1) := by decide +kernel
theorem dX0_countUpTo_4 : decode cX0_countUpTo 4 = .ok (.iload_n 3, 1) := by decide +kernel
theorem dX0_countUpTo_5 : decode cX0_countUpTo 5 = .ok (.iload_n 1, 1) := by decide +kernel
theorem dX0_countUpTo_6 : decode cX0_countUpTo 6 = .ok (.if_icmp .gt 21, 3) := by decide +kernel
theorem dX0_countUpTo_9 : decode cX0_countUpTo 9 = .ok (.aload_n 0, 1) := by decide +kernel
theorem dX0_countUpTo_10 : decode cX0_countUpTo 10 = .ok (.getfield 9, 3) := by decide +kernel
theorem dX0_countUpTo_13 : decode cX0_countUpTo 13 = .ok (.iload_n 3, 1) := by decide +kernel
theorem dX0_countUpTo_14 : decode cX0_countUpTo 14 = .ok (.baload, 1) := by decide +kernel
theorem dX0_countUpTo_15 : decode cX0_countUpTo 15 = .ok (.ifCond .eq 6, 3) := by decide +kernel
theorem dX0_countUpTo_18 : decode cX0_countUpTo 18 = .ok (.iinc 2 1, 3) := by decide +kernel
theorem dX0_countUpTo_21 : decode cX0_countUpTo 21 = .ok (.iinc 3 1, 3) := by decide +kernel
theorem dX0_countUpTo_24 : decode cX0_countUpTo 24 = .ok (.goto (-20), 3) := by decide +kernel
theorem dX0_countUpTo_27 : decode cX0_countUpTo 27 = .ok (.iload_n 2, 1) := by decide +kernel
theorem dX0_countUpTo_28 : decode cX0_countUpTo 28 = .ok (.ireturn, 1) := by decide +kernel
theorem dL_hash_0 : decode cL_hash 0 = .ok (.aload_n 2, 1) := by decide +kernel
theorem dL_hash_1 : decode cL_hash 1 = .ok (.iconst 0, 1) := by decide +kernel
theorem dL_hash_2 : decode cL_hash 2 = .ok (.aload_n 0, 1) := by decide +kernel
theorem dL_hash_3 : decode cL_hash 3 = .ok (.iload_n 1, 1) := by decide +kernel
theorem dL_hash_4 : decode cL_hash 4 = .ok (.invokevirtual 36, 3) := by decide +kernel
theorem dL_hash_7 : decode cL_hash 7 = .ok (.i2l, 1) := by decide +kernel
theorem dL_hash_8 : decode cL_hash 8 = .ok (.lastore, 1) := by decide +kernel
theorem dL_hash_9 : decode cL_hash 9 = .ok (.goto 6, 3) := by decide +kernel
theorem dL_hash_12 : decode cL_hash 12 = .ok (.astore_n 3, 1) := by decide +kernel
theorem dL_hash_13 : decode cL_hash 13 = .ok (.iconst 1, 1) := by decide +kernel
theorem dL_hash_14 : decode cL_hash 14 = .ok (.ireturn, 1) := by decide +kernel
theorem dL_hash_15 : decode cL_hash 15 = .ok (.iconst 0, 1) := by decide +kernel
theorem dL_hash_16 : decode cL_hash 16 = .ok (.ireturn, 1) := by decide +kernel
theorem dX5_hash_0 : decode cX5_hash 0 = .ok (.iload_n 1, 1) := by decide +kernel
theorem dX5_hash_1 : decode cX5_hash 1 = .ok (.iconst 1, 1) := by decide +kernel
theorem dX5_hash_2 : decode cX5_hash 2 = .ok (.invokestatic 34, 3) := by decide +kernel
theorem dX5_hash_5 : decode cX5_hash 5 = .ok (.aload_n 0, 1) := by decide +kernel
theorem dX5_hash_6 : decode cX5_hash 6 = .ok (.iload_n 1, 1) := by decide +kernel
theorem dX5_hash_7 : decode cX5_hash 7 = .ok (.invokevirtual 56, 3) := by decide +kernel
theorem dX5_hash_10 : decode cX5_hash 10 = .ok (.aload_n 0, 1) := by decide +kernel
theorem dX5_hash_11 : decode cX5_hash 11 = .ok (.getfield 10, 3) := by decide +kernel
theorem dX5_hash_14 : decode cX5_hash 14 = .ok (.getfield 38, 3) := by decide +kernel
theorem dX5_hash_17 : decode cX5_hash 17 = .ok (.invokevirtual 75, 3) := by decide +kernel
theorem dX5_hash_20 : decode cX5_hash 20 = .ok (.ireturn, 1) := by decide +kernel
theorem dX0_mixUpTo_0 : decode cX0_mixUpTo 0 = .ok (.iconst 1, 1) := by decide +kernel
theorem dX0_mixUpTo_1 : decode cX0_mixUpTo 1 = .ok (.istore_n 2, 1) := by decide +kernel
theorem dX0_mixUpTo_2 : decode cX0_mixUpTo 2 = .ok (.iconst 0, 1) := by decide +kernel
theorem dX0_mixUpTo_3 : decode cX0_mixUpTo 3 = .ok (.istore_n 3, 1) := by decide +kernel
theorem dX0_mixUpTo_4 : decode cX0_mixUpTo 4 = .ok (.iload_n 3, 1) := by decide +kernel
theorem dX0_mixUpTo_5 : decode cX0_mixUpTo 5 = .ok (.iload_n 1, 1) := by decide +kernel
theorem dX0_mixUpTo_6 : decode cX0_mixUpTo 6 = .ok (.if_icmp .gt 25, 3) := by decide +kernel
theorem dX0_mixUpTo_9 : decode cX0_mixUpTo 9 = .ok (.aload_n 0, 1) := by decide +kernel
theorem dX0_mixUpTo_10 : decode cX0_mixUpTo 10 = .ok (.getfield 9, 3) := by decide +kernel
theorem dX0_mixUpTo_13 : decode cX0_mixUpTo 13 = .ok (.iload_n 3, 1) := by decide +kernel
theorem dX0_mixUpTo_14 : decode cX0_mixUpTo 14 = .ok (.baload, 1) := by decide +kernel
theorem dX0_mixUpTo_15 : decode cX0_mixUpTo 15 = .ok (.ifCond .eq 10, 3) := by decide +kernel
theorem dX0_mixUpTo_18 : decode cX0_mixUpTo 18 = .ok (.bipush 31, 2) := by decide +kernel
theorem dX0_mixUpTo_20 : decode cX0_mixUpTo 20 = .ok (.iload_n 2, 1) := by decide +kernel
theorem dX0_mixUpTo_21 : decode cX0_mixUpTo 21 = .ok (.imul, 1) := by decide +kernel
theorem dX0_mixUpTo_22 : decode cX0_mixUpTo 22 = .ok (.iload_n 3, 1) := by decide +kernel
theorem dX0_mixUpTo_23 : decode cX0_mixUpTo 23 = .ok (.iadd, 1) := by decide +kernel
theorem dX0_mixUpTo_24 : decode cX0_mixUpTo 24 = .ok (.istore_n 2, 1) := by decide +kernel
theorem dX0_mixUpTo_25 : decode cX0_mixUpTo 25 = .ok (.iinc 3 1, 3) := by decide +kernel
theorem dX0_mixUpTo_28 : decode cX0_mixUpTo 28 = .ok (.goto (-24), 3) := by decide +kernel
theorem dX0_mixUpTo_31 : decode cX0_mixUpTo 31 = .ok (.iload_n 2, 1) := by decide +kernel
theorem dX0_mixUpTo_32 : decode cX0_mixUpTo 32 = .ok (.ireturn, 1) := by decide +kernel
theorem dX6_init_0 : decode cX6_init 0 = .ok (.aload_n 0, 1) := by decide +kernel
theorem dX6_init_1 : decode cX6_init 1 = .ok (.invokespecial 1, 3) := by decide +kernel
theorem dX6_init_4 : decode cX6_init 4 = .ok (.aload_n 0, 1) := by decide +kernel
theorem dX6_init_5 : decode cX6_init 5 = .ok (.sipush 1000, 3) := by decide +kernel
theorem dX6_init_8 : decode cX6_init 8 = .ok (.newarray .int, 2) := by decide +kernel
theorem dX6_init_10 : decode cX6_init 10 = .ok (.putfield 7, 3) := by decide +kernel
theorem dX6_init_13 : decode cX6_init 13 = .ok (.aload_n 0, 1) := by decide +kernel
theorem dX6_init_14 : decode cX6_init 14 = .ok (.sipush 1000, 3) := by decide +kernel
theorem dX6_init_17 : decode cX6_init 17 = .ok (.newarray .int, 2) := by decide +kernel
theorem dX6_init_19 : decode cX6_init 19 = .ok (.putfield 13, 3) := by decide +kernel
theorem dX6_init_22 : decode cX6_init 22 = .ok (.aload_n 0, 1) := by decide +kernel
theorem dX6_init_23 : decode cX6_init 23 = .ok (.sipush 1000, 3) := by decide +kernel
theorem dX6_init_26 : decode cX6_init 26 = .ok (.newarray .boolean, 2) := by decide +kernel
theorem dX6_init_28 : decode cX6_init 28 = .ok (.putfield 16, 3) := by decide +kernel
theorem dX6_init_31 : decode cX6_init 31 = .ok (.return_, 1) := by decide +kernel
theorem dX6_thrown_0 : decode cX6_thrown 0 = .ok (.aload_n 0, 1) := by decide +kernel
theorem dX6_thrown_1 : decode cX6_thrown 1 = .ok (.getfield 20, 3) := by decide +kernel
theorem dX6_thrown_4 : decode cX6_thrown 4 = .ok (.ireturn, 1) := by decide +kernel
theorem dX6_add_0 : decode cX6_add 0 = .ok (.aload_n 0, 1) := by decide +kernel
theorem dX6_add_1 : decode cX6_add 1 = .ok (.iconst 0, 1) := by decide +kernel
theorem dX6_add_2 : decode cX6_add 2 = .ok (.putfield 20, 3) := by decide +kernel
theorem dX6_add_5 : decode cX6_add 5 = .ok (.iload_n 1, 1) := by decide +kernel
theorem dX6_add_6 : decode cX6_add 6 = .ok (.ifCond .lt 19, 3) := by decide +kernel
theorem dX6_add_9 : decode cX6_add 9 = .ok (.iload_n 1, 1) := by decide +kernel
theorem dX6_add_10 : decode cX6_add 10 = .ok (.bipush 13, 2) := by decide +kernel
theorem dX6_add_12 : decode cX6_add 12 = .ok (.if_icmp .gt 13, 3) := by decide +kernel
theorem dX6_add_15 : decode cX6_add 15 = .ok (.iload_n 2, 1) := by decide +kernel
theorem dX6_add_16 : decode cX6_add 16 = .ok (.ifCond .lt 9, 3) := by decide +kernel
theorem dX6_add_19 : decode cX6_add 19 = .ok (.iload_n 2, 1) := by decide +kernel
theorem dX6_add_20 : decode cX6_add 20 = .ok (.bipush 18, 2) := by decide +kernel
theorem dX6_add_22 : decode cX6_add 22 = .ok (.if_icmp .le 9, 3) := by decide +kernel
theorem dX6_add_25 : decode cX6_add 25 = .ok (.aload_n 0, 1) := by decide +kernel
theorem dX6_add_26 : decode cX6_add 26 = .ok (.iconst 1, 1) := by decide +kernel
theorem dX6_add_27 : decode cX6_add 27 = .ok (.invokevirtual 59, 3) := by decide +kernel
theorem dX6_add_30 : decode cX6_add 30 = .ok (.ireturn, 1) := by decide +kernel
theorem dX6_add_31 : decode cX6_add 31 = .ok (.aload_n 0, 1) := by decide +kernel
theorem dX6_add_32 : decode cX6_add 32 = .ok (.getfield 24, 3) := by decide +kernel
theorem dX6_add_35 : decode cX6_add 35 = .ok (.sipush 1000, 3) := by decide +kernel
theorem dX6_add_38 : decode cX6_add 38 = .ok (.if_icmp .ne 9, 3) := by decide +kernel
theorem dX6_add_41 : decode cX6_add 41 = .ok (.aload_n 0, 1) := by decide +kernel
theorem dX6_add_42 : decode cX6_add 42 = .ok (.iconst 2, 1) := by decide +kernel
theorem dX6_add_43 : decode cX6_add 43 = .ok (.invokevirtual 59, 3) := by decide +kernel
theorem dX6_add_46 : decode cX6_add 46 = .ok (.ireturn, 1) := by decide +kernel
theorem dX6_add_47 : decode cX6_add 47 = .ok (.aload_n 0, 1) := by decide +kernel
theorem dX6_add_48 : decode cX6_add 48 = .ok (.getfield 7, 3) := by decide +kernel
theorem dX6_add_51 : decode cX6_add 51 = .ok (.aload_n 0, 1) := by decide +kernel
theorem dX6_add_52 : decode cX6_add 52 = .ok (.getfield 24, 3) := by decide +kernel
theorem dX6_add_55 : decode cX6_add 55 = .ok (.iload_n 1, 1) := by decide +kernel
theorem dX6_add_56 : decode cX6_add 56 = .ok (.iastore, 1) := by decide +kernel
theorem dX6_add_57 : decode cX6_add 57 = .ok (.aload_n 0, 1) := by decide +kernel
theorem dX6_add_58 : decode cX6_add 58 = .ok (.getfield 13, 3) := by decide +kernel
theorem dX6_add_61 : decode cX6_add 61 = .ok (.aload_n 0, 1) := by decide +kernel
theorem dX6_add_62 : decode cX6_add 62 = .ok (.getfield 24, 3) := by decide +kernel
theorem dX6_add_65 : decode cX6_add 65 = .ok (.iload_n 2, 1) := by decide +kernel
theorem dX6_add_66 : decode cX6_add 66 = .ok (.iastore, 1) := by decide +kernel
theorem dX6_add_67 : decode cX6_add 67 = .ok (.aload_n 0, 1) := by decide +kernel
theorem dX6_add_68 : decode cX6_add 68 = .ok (.getfield 16, 3) := by decide +kernel
theorem dX6_add_71 : decode cX6_add 71 = .ok (.aload_n 0, 1) := by decide +kernel
theorem dX6_add_72 : decode cX6_add 72 = .ok (.getfield 24, 3) := by decide +kernel
theorem dX6_add_75 : decode cX6_add 75 = .ok (.iload_n 3, 1) := by decide +kernel
theorem dX6_add_76 : decode cX6_add 76 = .ok (.bastore, 1) := by decide +kernel
theorem dX6_add_77 : decode cX6_add 77 = .ok (.aload_n 0, 1) := by decide +kernel
theorem dX6_add_78 : decode cX6_add 78 = .ok (.dup, 1) := by decide +kernel
theorem dX6_add_79 : decode cX6_add 79 = .ok (.getfield 24, 3) := by decide +kernel
theorem dX6_add_82 : decode cX6_add 82 = .ok (.iconst 1, 1) := by decide +kernel
theorem dX6_add_83 : decode cX6_add 83 = .ok (.iadd, 1) := by decide +kernel
theorem dX6_add_84 : decode cX6_add 84 = .ok (.putfield 24, 3) := by decide +kernel
theorem dX6_add_87 : decode cX6_add 87 = .ok (.aload_n 0, 1) := by decide +kernel
theorem dX6_add_88 : decode cX6_add 88 = .ok (.getfield 24, 3) := by decide +kernel
theorem dX6_add_91 : decode cX6_add 91 = .ok (.ireturn, 1) := by decide +kernel
theorem dX6_fail_0 : decode cX6_fail 0 = .ok (.aload_n 0, 1) := by decide +kernel
theorem dX6_fail_1 : decode cX6_fail 1 = .ok (.iload_n 1, 1) := by decide +kernel
theorem dX6_fail_2 : decode cX6_fail 2 = .ok (.putfield 20, 3) := by decide +kernel
theorem dX6_fail_5 : decode cX6_fail 5 = .ok (.iconst 0, 1) := by decide +kernel
theorem dX6_fail_6 : decode cX6_fail 6 = .ok (.ireturn, 1) := by decide +kernel
theorem dX6_set_0 : decode cX6_set 0 = .ok (.aload_n 0, 1) := by decide +kernel
theorem dX6_set_1 : decode cX6_set 1 = .ok (.iconst 0, 1) := by decide +kernel
theorem dX6_set_2 : decode cX6_set 2 = .ok (.putfield 20, 3) := by decide +kernel
theorem dX6_set_5 : decode cX6_set 5 = .ok (.iload_n 1, 1) := by decide +kernel
theorem dX6_set_6 : decode cX6_set 6 = .ok (.ifCond .lt 31, 3) := by decide +kernel
theorem dX6_set_9 : decode cX6_set 9 = .ok (.iload_n 1, 1) := by decide +kernel
theorem dX6_set_10 : decode cX6_set 10 = .ok (.aload_n 0, 1) := by decide +kernel
theorem dX6_set_11 : decode cX6_set 11 = .ok (.getfield 24, 3) := by decide +kernel
theorem dX6_set_14 : decode cX6_set 14 = .ok (.if_icmp .ge 23, 3) := by decide +kernel
theorem dX6_set_17 : decode cX6_set 17 = .ok (.iload_n 2, 1) := by decide +kernel
theorem dX6_set_18 : decode cX6_set 18 = .ok (.ifCond .lt 19, 3) := by decide +kernel
theorem dX6_set_21 : decode cX6_set 21 = .ok (.iload_n 2, 1) := by decide +kernel
theorem dX6_set_22 : decode cX6_set 22 = .ok (.bipush 13, 2) := by decide +kernel
theorem dX6_set_24 : decode cX6_set 24 = .ok (.if_icmp .gt 13, 3) := by decide +kernel
theorem dX6_set_27 : decode cX6_set 27 = .ok (.iload_n 3, 1) := by decide +kernel
theorem dX6_set_28 : decode cX6_set 28 = .ok (.ifCond .lt 9, 3) := by decide +kernel
theorem dX6_set_31 : decode cX6_set 31 = .ok (.iload_n 3, 1) := by decide +kernel
theorem dX6_set_32 : decode cX6_set 32 = .ok (.bipush 18, 2) := by decide +kernel
theorem dX6_set_34 : decode cX6_set 34 = .ok (.if_icmp .le 11, 3) := by decide +kernel
theorem dX6_set_37 : decode cX6_set 37 = .ok (.aload_n 0, 1) := by decide +kernel
theorem dX6_set_38 : decode cX6_set 38 = .ok (.iconst 1, 1) := by decide +kernel
theorem dX6_set_39 : decode cX6_set 39 = .ok (.putfield 20, 3) := by decide +kernel
theorem dX6_set_42 : decode cX6_set 42 = .ok (.goto 25, 3) := by decide +kernel
theorem dX6_set_45 : decode cX6_set 45 = .ok (.aload_n 0, 1) := by decide +kernel
theorem dX6_set_46 : decode cX6_set 46 = .ok (.getfield 7, 3) := by decide +kernel
theorem dX6_set_49 : decode cX6_set 49 = .ok (.iload_n 1, 1) := by decide +kernel
theorem dX6_set_50 : decode cX6_set 50 = .ok (.iload_n 2, 1) := by decide +kernel
theorem dX6_set_51 : decode cX6_set 51 = .ok (.iastore, 1) := by decide +kernel
theorem dX6_set_52 : decode cX6_set 52 = .ok (.aload_n 0, 1) := by decide +kernel
theorem dX6_set_53 : decode cX6_set 53 = .ok (.getfield 13, 3) := by decide +kernel
theorem dX6_set_56 : decode cX6_set 56 = .ok (.iload_n 1, 1) := by decide +kernel
theorem dX6_set_57 : decode cX6_set 57 = .ok (.iload_n 3, 1) := by decide +kernel
theorem dX6_set_58 : decode cX6_set 58 = .ok (.iastore, 1) := by decide +kernel
theorem dX6_set_59 : decode cX6_set 59 = .ok (.aload_n 0, 1) := by decide +kernel
theorem dX6_set_60 : decode cX6_set 60 = .ok (.getfield 16, 3) := by decide +kernel
theorem dX6_set_63 : decode cX6_set 63 = .ok (.iload_n 1, 1) := by decide +kernel
theorem dX6_set_64 : decode cX6_set 64 = .ok (.iload 4, 2) := by decide +kernel
theorem dX6_set_66 : decode cX6_set 66 = .ok (.bastore, 1) := by decide +kernel
theorem dX6_set_67 : decode cX6_set 67 = .ok (.return_, 1) := by decide +kernel
theorem dX6_cut_0 : decode cX6_cut 0 = .ok (.aload_n 0, 1) := by decide +kernel
theorem dX6_cut_1 : decode cX6_cut 1 = .ok (.iconst 0, 1) := by decide +kernel
theorem dX6_cut_2 : decode cX6_cut 2 = .ok (.putfield 20, 3) := by decide +kernel
theorem dX6_cut_5 : decode cX6_cut 5 = .ok (.iload_n 1, 1) := by decide +kernel
theorem dX6_cut_6 : decode cX6_cut 6 = .ok (.ifCond .lt 11, 3) := by decide +kernel
theorem dX6_cut_9 : decode cX6_cut 9 = .ok (.iload_n 1, 1) := by decide +kernel
theorem dX6_cut_10 : decode cX6_cut 10 = .ok (.aload_n 0, 1) := by decide +kernel
theorem dX6_cut_11 : decode cX6_cut 11 = .ok (.getfield 24, 3) := by decide +kernel
theorem dX6_cut_14 : decode cX6_cut 14 = .ok (.if_icmp .le 9, 3) := by decide +kernel
theorem dX6_cut_17 : decode cX6_cut 17 = .ok (.aload_n 0, 1) := by decide +kernel
theorem dX6_cut_18 : decode cX6_cut 18 = .ok (.iconst 1, 1) := by decide +kernel
theorem dX6_cut_19 : decode cX6_cut 19 = .ok (.invokevirtual 59, 3) := by decide +kernel
theorem dX6_cut_22 : decode cX6_cut 22 = .ok (.ireturn, 1) := by decide +kernel
theorem dX6_cut_23 : decode cX6_cut 23 = .ok (.aload_n 0, 1) := by decide +kernel
theorem dX6_cut_24 : decode cX6_cut 24 = .ok (.getfield 24, 3) := by decide +kernel
theorem dX6_cut_27 : decode cX6_cut 27 = .ok (.istore_n 2, 1) := by decide +kernel
theorem dX6_cut_28 : decode cX6_cut 28 = .ok (.aload_n 0, 1) := by decide +kernel
theorem dX6_cut_29 : decode cX6_cut 29 = .ok (.iload_n 1, 1) := by decide +kernel
theorem dX6_cut_30 : decode cX6_cut 30 = .ok (.putfield 24, 3) := by decide +kernel
theorem dX6_cut_33 : decode cX6_cut 33 = .ok (.iload_n 2, 1) := by decide +kernel
theorem dX6_cut_34 : decode cX6_cut 34 = .ok (.ireturn, 1) := by decide +kernel
theorem dX6_edge_0 : decode cX6_edge 0 = .ok (.aload_n 0, 1) := by decide +kernel
theorem dX6_edge_1 : decode cX6_edge 1 = .ok (.iconst 0, 1) := by decide +kernel
theorem dX6_edge_2 : decode cX6_edge 2 = .ok (.putfield 20, 3) := by decide +kernel
theorem dX6_edge_5 : decode cX6_edge 5 = .ok (.aload_n 0, 1) := by decide +kernel
theorem dX6_edge_6 : decode cX6_edge 6 = .ok (.iload_n 1, 1) := by decide +kernel
theorem dX6_edge_7 : decode cX6_edge 7 = .ok (.iload_n 2, 1) := by decide +kernel
theorem dX6_edge_8 : decode cX6_edge 8 = .ok (.invokevirtual 62, 3) := by decide +kernel
theorem dX6_edge_11 : decode cX6_edge 11 = .ok (.ifCond .eq 19, 3) := by decide +kernel
theorem dX6_edge_14 : decode cX6_edge 14 = .ok (.aload_n 0, 1) := by decide +kernel
theorem dX6_edge_15 : decode cX6_edge 15 = .ok (.iconst 1, 1) := by decide +kernel
theorem dX6_edge_16 : decode cX6_edge 16 = .ok (.invokevirtual 59, 3) := by decide +kernel
theorem dX6_edge_19 : decode cX6_edge 19 = .ok (.ifCond .le 7, 3) := by decide +kernel
theorem dX6_edge_22 : decode cX6_edge 22 = .ok (.iconst 1, 1) := by decide +kernel
theorem dX6_edge_23 : decode cX6_edge 23 = .ok (.goto 13, 3) := by decide +kernel
theorem dX6_edge_26 : decode cX6_edge 26 = .ok (.iconst 0, 1) := by decide +kernel
theorem dX6_edge_27 : decode cX6_edge 27 = .ok (.goto 9, 3) := by decide +kernel
theorem dX6_edge_30 : decode cX6_edge 30 = .ok (.aload_n 0, 1) := by decide +kernel
theorem dX6_edge_31 : decode cX6_edge 31 = .ok (.iload_n 1, 1) := by decide +kernel
theorem dX6_edge_32 : decode cX6_edge 32 = .ok (.iload_n 2, 1) := by decide +kernel
theorem dX6_edge_33 : decode cX6_edge 33 = .ok (.invokevirtual 66, 3) := by decide +kernel
theorem dX6_edge_36 : decode cX6_edge 36 = .ok (.ireturn, 1) := by decide +kernel
theorem dX6_bad_0 : decode cX6_bad 0 = .ok (.iload_n 1, 1) := by decide +kernel
theorem dX6_bad_1 : decode cX6_bad 1 = .ok (.ifCond .lt 20, 3) := by decide +kernel
theorem dX6_bad_4 : decode cX6_bad 4 = .ok (.iload_n 1, 1) := by decide +kernel
theorem dX6_bad_5 : decode cX6_bad 5 = .ok (.iconst 1, 1) := by decide +kernel
theorem dX6_bad_6 : decode cX6_bad 6 = .ok (.if_icmp .gt 15, 3) := by decide +kernel
theorem dX6_bad_9 : decode cX6_bad 9 = .ok (.iload_n 2, 1) := by decide +kernel
theorem dX6_bad_10 : decode cX6_bad 10 = .ok (.ifCond .lt 11, 3) := by decide +kernel
theorem dX6_bad_13 : decode cX6_bad 13 = .ok (.iload_n 2, 1) := by decide +kernel
theorem dX6_bad_14 : decode cX6_bad 14 = .ok (.aload_n 0, 1) := by decide +kernel
theorem dX6_bad_15 : decode cX6_bad 15 = .ok (.getfield 24, 3) := by decide +kernel
theorem dX6_bad_18 : decode cX6_bad 18 = .ok (.if_icmp .le 7, 3) := by decide +kernel
theorem dX6_bad_21 : decode cX6_bad 21 = .ok (.iconst 1, 1) := by decide +kernel
theorem dX6_bad_22 : decode cX6_bad 22 = .ok (.goto 4, 3) := by decide +kernel
theorem dX6_bad_25 : decode cX6_bad 25 = .ok (.iconst 0, 1) := by decide +kernel
theorem dX6_bad_26 : decode cX6_bad 26 = .ok (.ireturn, 1) := by decide +kernel
theorem dX6_boundary_0 : decode cX6_boundary 0 = .ok (.aload_n 0, 1) := by decide +kernel
theorem dX6_boundary_1 : decode cX6_boundary 1 = .ok (.getfield 24, 3) := by decide +kernel
theorem dX6_boundary_4 : decode cX6_boundary 4 = .ok (.ifCond .ne 5, 3) := by decide +kernel
theorem dX6_boundary_7 : decode cX6_boundary 7 = .ok (.iconst 0, 1) := by decide +kernel
theorem dX6_boundary_8 : decode cX6_boundary 8 = .ok (.ireturn, 1) := by decide +kernel
theorem dX6_boundary_9 : decode cX6_boundary 9 = .ok (.iload_n 2, 1) := by decide +kernel
theorem dX6_boundary_10 : decode cX6_boundary 10 = .ok (.ifCond .eq 11, 3) := by decide +kernel
theorem dX6_boundary_13 : decode cX6_boundary 13 = .ok (.iload_n 2, 1) := by decide +kernel
theorem dX6_boundary_14 : decode cX6_boundary 14 = .ok (.aload_n 0, 1) := by decide +kernel
theorem dX6_boundary_15 : decode cX6_boundary 15 = .ok (.getfield 24, 3) := by decide +kernel
theorem dX6_boundary_18 : decode cX6_boundary 18 = .ok (.if_icmp .ne 5, 3) := by decide +kernel
theorem dX6_boundary_21 : decode cX6_boundary 21 = .ok (.iconst 1, 1) := by decide +kernel
theorem dX6_boundary_22 : decode cX6_boundary 22 = .ok (.ireturn, 1) := by decide +kernel
theorem dX6_boundary_23 : decode cX6_boundary 23 = .ok (.iload_n 1, 1) := by decide +kernel
theorem dX6_boundary_24 : decode cX6_boundary 24 = .ok (.ifCond .ne 11, 3) := by decide +kernel
theorem dX6_boundary_27 : decode cX6_boundary 27 = .ok (.aload_n 0, 1) := by decide +kernel
theorem dX6_boundary_28 : decode cX6_boundary 28 = .ok (.iload_n 2, 1) := by decide +kernel
theorem dX6_boundary_29 : decode cX6_boundary 29 = .ok (.invokevirtual 27, 3) := by decide +kernel
theorem dX6_boundary_32 : decode cX6_boundary 32 = .ok (.goto 8, 3) := by decide +kernel
theorem dX6_boundary_35 : decode cX6_boundary 35 = .ok (.aload_n 0, 1) := by decide +kernel
theorem dX6_boundary_36 : decode cX6_boundary 36 = .ok (.iload_n 2, 1) := by decide +kernel
theorem dX6_boundary_37 : decode cX6_boundary 37 = .ok (.invokevirtual 31, 3) := by decide +kernel
theorem dX6_boundary_40 : decode cX6_boundary 40 = .ok (.ireturn, 1) := by decide +kernel
theorem dX6_breaks_0 : decode cX6_breaks 0 = .ok (.iload_n 1, 1) := by decide +kernel
theorem dX6_breaks_1 : decode cX6_breaks 1 = .ok (.iconst 1, 1) := by decide +kernel
theorem dX6_breaks_2 : decode cX6_breaks 2 = .ok (.if_icmp .lt 12, 3) := by decide +kernel
theorem dX6_breaks_5 : decode cX6_breaks 5 = .ok (.iload_n 1, 1) := by decide +kernel
theorem dX6_breaks_6 : decode cX6_breaks 6 = .ok (.iconst 3, 1) := by decide +kernel
theorem dX6_breaks_7 : decode cX6_breaks 7 = .ok (.if_icmp .gt 7, 3) := by decide +kernel
theorem dX6_breaks_10 : decode cX6_breaks 10 = .ok (.iconst 1, 1) := by decide +kernel
theorem dX6_breaks_11 : decode cX6_breaks 11 = .ok (.goto 4, 3) := by decide +kernel
theorem dX6_breaks_14 : decode cX6_breaks 14 = .ok (.iconst 0, 1) := by decide +kernel
theorem dX6_breaks_15 : decode cX6_breaks 15 = .ok (.ireturn, 1) := by decide +kernel
theorem dX6_passed_0 : decode cX6_passed 0 = .ok (.iload_n 1, 1) := by decide +kernel
theorem dX6_passed_1 : decode cX6_passed 1 = .ok (.iconst 4, 1) := by decide +kernel
theorem dX6_passed_2 : decode cX6_passed 2 = .ok (.if_icmp .eq 14, 3) := by decide +kernel
theorem dX6_passed_5 : decode cX6_passed 5 = .ok (.iload_n 1, 1) := by decide +kernel
theorem dX6_passed_6 : decode cX6_passed 6 = .ok (.iconst 5, 1) := by decide +kernel
theorem dX6_passed_7 : decode cX6_passed 7 = .ok (.if_icmp .eq 9, 3) := by decide +kernel
theorem dX6_passed_10 : decode cX6_passed 10 = .ok (.iload_n 1, 1) := by decide +kernel
theorem dX6_passed_11 : decode cX6_passed 11 = .ok (.bipush 7, 2) := by decide +kernel
theorem dX6_passed_13 : decode cX6_passed 13 = .ok (.if_icmp .ne 7, 3) := by decide +kernel
theorem dX6_passed_16 : decode cX6_passed 16 = .ok (.iconst 1, 1) := by decide +kernel
theorem dX6_passed_17 : decode cX6_passed 17 = .ok (.goto 4, 3) := by decide +kernel
theorem dX6_passed_20 : decode cX6_passed 20 = .ok (.iconst 0, 1) := by decide +kernel
theorem dX6_passed_21 : decode cX6_passed 21 = .ok (.ireturn, 1) := by decide +kernel
theorem dX6_before_0 : decode cX6_before 0 = .ok (.iload_n 1, 1) := by decide +kernel
theorem dX6_before_1 : decode cX6_before 1 = .ok (.ifCond .gt 7, 3) := by decide +kernel
theorem dX6_before_4 : decode cX6_before 4 = .ok (.iconst (-1), 1) := by decide +kernel
theorem dX6_before_5 : decode cX6_before 5 = .ok (.goto 10, 3) := by decide +kernel
theorem dX6_before_8 : decode cX6_before 8 = .ok (.aload_n 0, 1) := by decide +kernel
theorem dX6_before_9 : decode cX6_before 9 = .ok (.iload_n 1, 1) := by decide +kernel
theorem dX6_before_10 : decode cX6_before 10 = .ok (.iconst 1, 1) := by decide +kernel
theorem dX6_before_11 : decode cX6_before 11 = .ok (.isub, 1) := by decide +kernel
theorem dX6_before_12 : decode cX6_before 12 = .ok (.invokevirtual 40, 3) := by decide +kernel
theorem dX6_before_15 : decode cX6_before 15 = .ok (.ireturn, 1) := by decide +kernel
theorem dX6_counts_0 : decode cX6_counts 0 = .ok (.iload_n 1, 1) := by decide +kernel
theorem dX6_counts_1 : decode cX6_counts 1 = .ok (.istore_n 2, 1) := by decide +kernel
theorem dX6_counts_2 : decode cX6_counts 2 = .ok (.iload_n 2, 1) := by decide +kernel
theorem dX6_counts_3 : decode cX6_counts 3 = .ok (.ifCond .le 37, 3) := by decide +kernel
theorem dX6_counts_6 : decode cX6_counts 6 = .ok (.aload_n 0, 1) := by decide +kernel
theorem dX6_counts_7 : decode cX6_counts 7 = .ok (.aload_n 0, 1) := by decide +kernel
theorem dX6_counts_8 : decode cX6_counts 8 = .ok (.getfield 13, 3) := by decide +kernel
theorem dX6_counts_11 : decode cX6_counts 11 = .ok (.iload_n 2, 1) := by decide +kernel
theorem dX6_counts_12 : decode cX6_counts 12 = .ok (.iaload, 1) := by decide +kernel
theorem dX6_counts_13 : decode cX6_counts 13 = .ok (.invokevirtual 34, 3) := by decide +kernel
theorem dX6_counts_16 : decode cX6_counts 16 = .ok (.ifCond .eq 24, 3) := by decide +kernel
theorem dX6_counts_19 : decode cX6_counts 19 = .ok (.aload_n 0, 1) := by decide +kernel
theorem dX6_counts_20 : decode cX6_counts 20 = .ok (.aload_n 0, 1) := by decide +kernel
theorem dX6_counts_21 : decode cX6_counts 21 = .ok (.getfield 13, 3) := by decide +kernel
theorem dX6_counts_24 : decode cX6_counts 24 = .ok (.iload_n 2, 1) := by decide +kernel
theorem dX6_counts_25 : decode cX6_counts 25 = .ok (.iconst 1, 1) := by decide +kernel
theorem dX6_counts_26 : decode cX6_counts 26 = .ok (.isub, 1) := by decide +kernel
theorem dX6_counts_27 : decode cX6_counts 27 = .ok (.iaload, 1) := by decide +kernel
theorem dX6_counts_28 : decode cX6_counts 28 = .ok (.invokevirtual 37, 3) := by decide +kernel
theorem dX6_counts_31 : decode cX6_counts 31 = .ok (.ifCond .ne 9, 3) := by decide +kernel
theorem dX6_counts_34 : decode cX6_counts 34 = .ok (.iinc 2 (-1), 3) := by decide +kernel
theorem dX6_counts_37 : decode cX6_counts 37 = .ok (.goto (-35), 3) := by decide +kernel
theorem dX6_counts_40 : decode cX6_counts 40 = .ok (.iload_n 2, 1) := by decide +kernel
theorem dX6_counts_41 : decode cX6_counts 41 = .ok (.ireturn, 1) := by decide +kernel
theorem dX6_wordKind_0 : decode cX6_wordKind 0 = .ok (.iload_n 1, 1) := by decide +kernel
theorem dX6_wordKind_1 : decode cX6_wordKind 1 = .ok (.ifCond .lt 11, 3) := by decide +kernel
theorem dX6_wordKind_4 : decode cX6_wordKind 4 = .ok (.iload_n 1, 1) := by decide +kernel
theorem dX6_wordKind_5 : decode cX6_wordKind 5 = .ok (.aload_n 0, 1) := by decide +kernel
theorem dX6_wordKind_6 : decode cX6_wordKind 6 = .ok (.getfield 24, 3) := by decide +kernel
theorem dX6_wordKind_9 : decode cX6_wordKind 9 = .ok (.if_icmp .lt 7, 3) := by decide +kernel
theorem dX6_wordKind_12 : decode cX6_wordKind 12 = .ok (.iconst (-1), 1) := by decide +kernel
theorem dX6_wordKind_13 : decode cX6_wordKind 13 = .ok (.goto 9, 3) := by decide +kernel
theorem dX6_wordKind_16 : decode cX6_wordKind 16 = .ok (.aload_n 0, 1) := by decide +kernel
theorem dX6_wordKind_17 : decode cX6_wordKind 17 = .ok (.getfield 13, 3) := by decide +kernel
theorem dX6_wordKind_20 : decode cX6_wordKind 20 = .ok (.iload_n 1, 1) := by decide +kernel
theorem dX6_wordKind_21 : decode cX6_wordKind 21 = .ok (.iaload, 1) := by decide +kernel
theorem dX6_wordKind_22 : decode cX6_wordKind 22 = .ok (.ireturn, 1) := by decide +kernel
theorem dX6_after_0 : decode cX6_after 0 = .ok (.iload_n 1, 1) := by decide +kernel
theorem dX6_after_1 : decode cX6_after 1 = .ok (.iconst 1, 1) := by decide +kernel
theorem dX6_after_2 : decode cX6_after 2 = .ok (.iadd, 1) := by decide +kernel
theorem dX6_after_3 : decode cX6_after 3 = .ok (.istore_n 2, 1) := by decide +kernel
theorem dX6_after_4 : decode cX6_after 4 = .ok (.iload_n 2, 1) := by decide +kernel
theorem dX6_after_5 : decode cX6_after 5 = .ok (.aload_n 0, 1) := by decide +kernel
theorem dX6_after_6 : decode cX6_after 6 = .ok (.getfield 24, 3) := by decide +kernel
theorem dX6_after_9 : decode cX6_after 9 = .ok (.if_icmp .ge 22, 3) := by decide +kernel
theorem dX6_after_12 : decode cX6_after 12 = .ok (.aload_n 0, 1) := by decide +kernel
theorem dX6_after_13 : decode cX6_after 13 = .ok (.aload_n 0, 1) := by decide +kernel
theorem dX6_after_14 : decode cX6_after 14 = .ok (.getfield 13, 3) := by decide +kernel
theorem dX6_after_17 : decode cX6_after 17 = .ok (.iload_n 2, 1) := by decide +kernel
theorem dX6_after_18 : decode cX6_after 18 = .ok (.iaload, 1) := by decide +kernel
theorem dX6_after_19 : decode cX6_after 19 = .ok (.invokevirtual 34, 3) := by decide +kernel
theorem dX6_after_22 : decode cX6_after 22 = .ok (.ifCond .eq 9, 3) := by decide +kernel
theorem dX6_after_25 : decode cX6_after 25 = .ok (.iinc 2 1, 3) := by decide +kernel
theorem dX6_after_28 : decode cX6_after 28 = .ok (.goto (-24), 3) := by decide +kernel
theorem dX6_after_31 : decode cX6_after 31 = .ok (.iload_n 2, 1) := by decide +kernel
theorem dX6_after_32 : decode cX6_after 32 = .ok (.ireturn, 1) := by decide +kernel
theorem dX6_letter_0 : decode cX6_letter 0 = .ok (.iload_n 1, 1) := by decide +kernel
theorem dX6_letter_1 : decode cX6_letter 1 = .ok (.bipush 9, 2) := by decide +kernel
theorem dX6_letter_3 : decode cX6_letter 3 = .ok (.if_icmp .eq 9, 3) := by decide +kernel
theorem dX6_letter_6 : decode cX6_letter 6 = .ok (.iload_n 1, 1) := by decide +kernel
theorem dX6_letter_7 : decode cX6_letter 7 = .ok (.bipush 10, 2) := by decide +kernel
theorem dX6_letter_9 : decode cX6_letter 9 = .ok (.if_icmp .ne 7, 3) := by decide +kernel
theorem dX6_letter_12 : decode cX6_letter 12 = .ok (.iconst 1, 1) := by decide +kernel
theorem dX6_letter_13 : decode cX6_letter 13 = .ok (.goto 4, 3) := by decide +kernel
theorem dX6_letter_16 : decode cX6_letter 16 = .ok (.iconst 0, 1) := by decide +kernel
theorem dX6_letter_17 : decode cX6_letter 17 = .ok (.ireturn, 1) := by decide +kernel
theorem dX6_quote_0 : decode cX6_quote 0 = .ok (.iload_n 1, 1) := by decide +kernel
theorem dX6_quote_1 : decode cX6_quote 1 = .ok (.bipush 13, 2) := by decide +kernel
theorem dX6_quote_3 : decode cX6_quote 3 = .ok (.if_icmp .eq 9, 3) := by decide +kernel
theorem dX6_quote_6 : decode cX6_quote 6 = .ok (.iload_n 1, 1) := by decide +kernel
theorem dX6_quote_7 : decode cX6_quote 7 = .ok (.bipush 14, 2) := by decide +kernel
theorem dX6_quote_9 : decode cX6_quote 9 = .ok (.if_icmp .ne 7, 3) := by decide +kernel
theorem dX6_quote_12 : decode cX6_quote 12 = .ok (.iconst 1, 1) := by decide +kernel
theorem dX6_quote_13 : decode cX6_quote 13 = .ok (.goto 4, 3) := by decide +kernel
theorem dX6_quote_16 : decode cX6_quote 16 = .ok (.iconst 0, 1) := by decide +kernel
theorem dX6_quote_17 : decode cX6_quote 17 = .ok (.ireturn, 1) := by decide +kernel
theorem dX6_next_0 : decode cX6_next 0 = .ok (.aload_n 0, 1) := by decide +kernel
theorem dX6_next_1 : decode cX6_next 1 = .ok (.iconst 0, 1) := by decide +kernel
theorem dX6_next_2 : decode cX6_next 2 = .ok (.putfield 20, 3) := by decide +kernel
theorem dX6_next_5 : decode cX6_next 5 = .ok (.aload_n 0, 1) := by decide +kernel
theorem dX6_next_6 : decode cX6_next 6 = .ok (.iload_n 1, 1) := by decide +kernel
theorem dX6_next_7 : decode cX6_next 7 = .ok (.iload_n 2, 1) := by decide +kernel
theorem dX6_next_8 : decode cX6_next 8 = .ok (.invokevirtual 62, 3) := by decide +kernel
theorem dX6_next_11 : decode cX6_next 11 = .ok (.ifCond .eq 9, 3) := by decide +kernel
theorem dX6_next_14 : decode cX6_next 14 = .ok (.aload_n 0, 1) := by decide +kernel
theorem dX6_next_15 : decode cX6_next 15 = .ok (.iconst 1, 1) := by decide +kernel
theorem dX6_next_16 : decode cX6_next 16 = .ok (.invokevirtual 59, 3) := by decide +kernel
theorem dX6_next_19 : decode cX6_next 19 = .ok (.ireturn, 1) := by decide +kernel
theorem dX6_next_20 : decode cX6_next 20 = .ok (.iload_n 3, 1) := by decide +kernel
theorem dX6_next_21 : decode cX6_next 21 = .ok (.ifCond .eq 7, 3) := by decide +kernel
theorem dX6_next_24 : decode cX6_next 24 = .ok (.iconst (-1), 1) := by decide +kernel
theorem dX6_next_25 : decode cX6_next 25 = .ok (.goto 4, 3) := by decide +kernel
theorem dX6_next_28 : decode cX6_next 28 = .ok (.iconst 1, 1) := by decide +kernel
theorem dX6_next_29 : decode cX6_next 29 = .ok (.istore 4, 2) := by decide +kernel
theorem dX6_next_31 : decode cX6_next 31 = .ok (.iload_n 2, 1) := by decide +kernel
theorem dX6_next_32 : decode cX6_next 32 = .ok (.iload 4, 2) := by decide +kernel
theorem dX6_next_34 : decode cX6_next 34 = .ok (.iadd, 1) := by decide +kernel
theorem dX6_next_35 : decode cX6_next 35 = .ok (.istore 5, 2) := by decide +kernel
theorem dX6_next_37 : decode cX6_next 37 = .ok (.iload 5, 2) := by decide +kernel
theorem dX6_next_39 : decode cX6_next 39 = .ok (.ifCond .lt 35, 3) := by decide +kernel
theorem dX6_next_42 : decode cX6_next 42 = .ok (.iload 5, 2) := by decide +kernel
theorem dX6_next_44 : decode cX6_next 44 = .ok (.aload_n 0, 1) := by decide +kernel
theorem dX6_next_45 : decode cX6_next 45 = .ok (.getfield 24, 3) := by decide +kernel
theorem dX6_next_48 : decode cX6_next 48 = .ok (.if_icmp .gt 26, 3) := by decide +kernel
theorem dX6_next_51 : decode cX6_next 51 = .ok (.aload_n 0, 1) := by decide +kernel
theorem dX6_next_52 : decode cX6_next 52 = .ok (.iload_n 1, 1) := by decide +kernel
theorem dX6_next_53 : decode cX6_next 53 = .ok (.iload 5, 2) := by decide +kernel
theorem dX6_next_55 : decode cX6_next 55 = .ok (.invokevirtual 66, 3) := by decide +kernel
theorem dX6_next_58 : decode cX6_next 58 = .ok (.ifCond .eq 6, 3) := by decide +kernel
theorem dX6_next_61 : decode cX6_next 61 = .ok (.iload 5, 2) := by decide +kernel
theorem dX6_next_63 : decode cX6_next 63 = .ok (.ireturn, 1) := by decide +kernel
theorem dX6_next_64 : decode cX6_next 64 = .ok (.iload 5, 2) := by decide +kernel
theorem dX6_next_66 : decode cX6_next 66 = .ok (.iload 4, 2) := by decide +kernel
theorem dX6_next_68 : decode cX6_next 68 = .ok (.iadd, 1) := by decide +kernel
theorem dX6_next_69 : decode cX6_next 69 = .ok (.istore 5, 2) := by decide +kernel
theorem dX6_next_71 : decode cX6_next 71 = .ok (.goto (-34), 3) := by decide +kernel
theorem dX6_next_74 : decode cX6_next 74 = .ok (.iconst (-1), 1) := by decide +kernel
theorem dX6_next_75 : decode cX6_next 75 = .ok (.ireturn, 1) := by decide +kernel
theorem dX6_rank_0 : decode cX6_rank 0 = .ok (.aload_n 0, 1) := by decide +kernel
theorem dX6_rank_1 : decode cX6_rank 1 = .ok (.iconst 0, 1) := by decide +kernel
theorem dX6_rank_2 : decode cX6_rank 2 = .ok (.putfield 20, 3) := by decide +kernel
theorem dX6_rank_5 : decode cX6_rank 5 = .ok (.aload_n 0, 1) := by decide +kernel
theorem dX6_rank_6 : decode cX6_rank 6 = .ok (.iload_n 1, 1) := by decide +kernel
theorem dX6_rank_7 : decode cX6_rank 7 = .ok (.iload_n 2, 1) := by decide +kernel
theorem dX6_rank_8 : decode cX6_rank 8 = .ok (.invokevirtual 62, 3) := by decide +kernel
theorem dX6_rank_11 : decode cX6_rank 11 = .ok (.ifCond .eq 9, 3) := by decide +kernel
theorem dX6_rank_14 : decode cX6_rank 14 = .ok (.aload_n 0, 1) := by decide +kernel
theorem dX6_rank_15 : decode cX6_rank 15 = .ok (.iconst 1, 1) := by decide +kernel
theorem dX6_rank_16 : decode cX6_rank 16 = .ok (.invokevirtual 59, 3) := by decide +kernel
theorem dX6_rank_19 : decode cX6_rank 19 = .ok (.ireturn, 1) := by decide +kernel
theorem dX6_rank_20 : decode cX6_rank 20 = .ok (.iconst 0, 1) := by decide +kernel
theorem dX6_rank_21 : decode cX6_rank 21 = .ok (.istore_n 3, 1) := by decide +kernel
theorem dX6_rank_22 : decode cX6_rank 22 = .ok (.iconst 0, 1) := by decide +kernel
theorem dX6_rank_23 : decode cX6_rank 23 = .ok (.istore 4, 2) := by decide +kernel
theorem dX6_rank_25 : decode cX6_rank 25 = .ok (.iload 4, 2) := by decide +kernel
theorem dX6_rank_27 : decode cX6_rank 27 = .ok (.iload_n 2, 1) := by decide +kernel
theorem dX6_rank_28 : decode cX6_rank 28 = .ok (.if_icmp .gt 27, 3) := by decide +kernel
theorem dX6_rank_31 : decode cX6_rank 31 = .ok (.iload_n 3, 1) := by decide +kernel
theorem dX6_rank_32 : decode cX6_rank 32 = .ok (.aload_n 0, 1) := by decide +kernel
theorem dX6_rank_33 : decode cX6_rank 33 = .ok (.iload_n 1, 1) := by decide +kernel
theorem dX6_rank_34 : decode cX6_rank 34 = .ok (.iload 4, 2) := by decide +kernel
theorem dX6_rank_36 : decode cX6_rank 36 = .ok (.invokevirtual 66, 3) := by decide +kernel
theorem dX6_rank_39 : decode cX6_rank 39 = .ok (.ifCond .eq 7, 3) := by decide +kernel
theorem dX6_rank_42 : decode cX6_rank 42 = .ok (.iconst 1, 1) := by decide +kernel
theorem dX6_rank_43 : decode cX6_rank 43 = .ok (.goto 4, 3) := by decide +kernel
theorem dX6_rank_46 : decode cX6_rank 46 = .ok (.iconst 0, 1) := by decide +kernel
theorem dX6_rank_47 : decode cX6_rank 47 = .ok (.iadd, 1) := by decide +kernel
theorem dX6_rank_48 : decode cX6_rank 48 = .ok (.istore_n 3, 1) := by decide +kernel
theorem dX6_rank_49 : decode cX6_rank 49 = .ok (.iinc 4 1, 3) := by decide +kernel
theorem dX6_rank_52 : decode cX6_rank 52 = .ok (.goto (-27), 3) := by decide +kernel
theorem dX6_rank_55 : decode cX6_rank 55 = .ok (.iload_n 3, 1) := by decide +kernel
theorem dX6_rank_56 : decode cX6_rank 56 = .ok (.ireturn, 1) := by decide +kernel
theorem dX6_hash_0 : decode cX6_hash 0 = .ok (.aload_n 0, 1) := by decide +kernel
theorem dX6_hash_1 : decode cX6_hash 1 = .ok (.iconst 0, 1) := by decide +kernel
theorem dX6_hash_2 : decode cX6_hash 2 = .ok (.putfield 20, 3) := by decide +kernel
theorem dX6_hash_5 : decode cX6_hash 5 = .ok (.iload_n 1, 1) := by decide +kernel
theorem dX6_hash_6 : decode cX6_hash 6 = .ok (.ifCond .lt 8, 3) := by decide +kernel
theorem dX6_hash_9 : decode cX6_hash 9 = .ok (.iload_n 1, 1) := by decide +kernel
theorem dX6_hash_10 : decode cX6_hash 10 = .ok (.iconst 1, 1) := by decide +kernel
theorem dX6_hash_11 : decode cX6_hash 11 = .ok (.if_icmp .le 9, 3) := by decide +kernel
theorem dX6_hash_14 : decode cX6_hash 14 = .ok (.aload_n 0, 1) := by decide +kernel
theorem dX6_hash_15 : decode cX6_hash 15 = .ok (.iconst 1, 1) := by decide +kernel
theorem dX6_hash_16 : decode cX6_hash 16 = .ok (.invokevirtual 59, 3) := by decide +kernel
theorem dX6_hash_19 : decode cX6_hash 19 = .ok (.ireturn, 1) := by decide +kernel
theorem dX6_hash_20 : decode cX6_hash 20 = .ok (.iconst 1, 1) := by decide +kernel
theorem dX6_hash_21 : decode cX6_hash 21 = .ok (.istore_n 2, 1) := by decide +kernel
theorem dX6_hash_22 : decode cX6_hash 22 = .ok (.iconst 0, 1) := by decide +kernel
theorem dX6_hash_23 : decode cX6_hash 23 = .ok (.istore_n 3, 1) := by decide +kernel
theorem dX6_hash_24 : decode cX6_hash 24 = .ok (.iload_n 3, 1) := by decide +kernel
theorem dX6_hash_25 : decode cX6_hash 25 = .ok (.aload_n 0, 1) := by decide +kernel
theorem dX6_hash_26 : decode cX6_hash 26 = .ok (.getfield 24, 3) := by decide +kernel
theorem dX6_hash_29 : decode cX6_hash 29 = .ok (.if_icmp .gt 25, 3) := by decide +kernel
theorem dX6_hash_32 : decode cX6_hash 32 = .ok (.aload_n 0, 1) := by decide +kernel
theorem dX6_hash_33 : decode cX6_hash 33 = .ok (.iload_n 1, 1) := by decide +kernel
theorem dX6_hash_34 : decode cX6_hash 34 = .ok (.iload_n 3, 1) := by decide +kernel
theorem dX6_hash_35 : decode cX6_hash 35 = .ok (.invokevirtual 66, 3) := by decide +kernel
theorem dX6_hash_38 : decode cX6_hash 38 = .ok (.ifCond .eq 10, 3) := by decide +kernel
theorem dX6_hash_41 : decode cX6_hash 41 = .ok (.bipush 31, 2) := by decide +kernel
theorem dX6_hash_43 : decode cX6_hash 43 = .ok (.iload_n 2, 1) := by decide +kernel
theorem dX6_hash_44 : decode cX6_hash 44 = .ok (.imul, 1) := by decide +kernel
theorem dX6_hash_45 : decode cX6_hash 45 = .ok (.iload_n 3, 1) := by decide +kernel
theorem dX6_hash_46 : decode cX6_hash 46 = .ok (.iadd, 1) := by decide +kernel
theorem dX6_hash_47 : decode cX6_hash 47 = .ok (.istore_n 2, 1) := by decide +kernel
theorem dX6_hash_48 : decode cX6_hash 48 = .ok (.iinc 3 1, 3) := by decide +kernel
theorem dX6_hash_51 : decode cX6_hash 51 = .ok (.goto (-27), 3) := by decide +kernel
theorem dX6_hash_54 : decode cX6_hash 54 = .ok (.iload_n 2, 1) := by decide +kernel
theorem dX6_hash_55 : decode cX6_hash 55 = .ok (.ireturn, 1) := by decide +kernel
end
section
theorem dL_law_0 : decode cL_law 0 = .ok (.new 8, 3) := by decide +kernel
theorem dL_law_3 : decode cL_law 3 = .ok (.dup, 1) := by decide +kernel
theorem dL_law_4 : decode cL_law 4 = .ok (.invokespecial 39, 3) := by decide +kernel
theorem dL_law_7 : decode cL_law 7 = .ok (.astore_n 1, 1) := by decide +kernel
theorem dL_law_8 : decode cL_law 8 = .ok (.new 40, 3) := by decide +kernel
theorem dL_law_11 : decode cL_law 11 = .ok (.dup, 1) := by decide +kernel
theorem dL_law_12 : decode cL_law 12 = .ok (.invokespecial 42, 3) := by decide +kernel
theorem dL_law_15 : decode cL_law 15 = .ok (.astore_n 2, 1) := by decide +kernel
theorem dL_law_16 : decode cL_law 16 = .ok (.iconst 1, 1) := by decide +kernel
theorem dL_law_17 : decode cL_law 17 = .ok (.newarray .long, 2) := by decide +kernel
theorem dL_law_19 : decode cL_law 19 = .ok (.astore_n 3, 1) := by decide +kernel
theorem dL_law_20 : decode cL_law 20 = .ok (.iconst 0, 1) := by decide +kernel
theorem dL_law_21 : decode cL_law 21 = .ok (.istore 4, 2) := by decide +kernel
theorem dL_law_23 : decode cL_law 23 = .ok (.iload 4, 2) := by decide +kernel
theorem dL_law_25 : decode cL_law 25 = .ok (.aload_n 0, 1) := by decide +kernel
theorem dL_law_26 : decode cL_law 26 = .ok (.arraylength, 1) := by decide +kernel
theorem dL_law_27 : decode cL_law 27 = .ok (.iconst 5, 1) := by decide +kernel
theorem dL_law_28 : decode cL_law 28 = .ok (.isub, 1) := by decide +kernel
theorem dL_law_29 : decode cL_law 29 = .ok (.if_icmp .gt 592, 3) := by decide +kernel
theorem dL_law_32 : decode cL_law 32 = .ok (.aload_n 0, 1) := by decide +kernel
theorem dL_law_33 : decode cL_law 33 = .ok (.iload 4, 2) := by decide +kernel
theorem dL_law_35 : decode cL_law 35 = .ok (.iaload, 1) := by decide +kernel
theorem dL_law_36 : decode cL_law 36 = .ok (.bipush 7, 2) := by decide +kernel
theorem dL_law_38 : decode cL_law 38 = .ok (.iand, 1) := by decide +kernel
theorem dL_law_39 : decode cL_law 39 = .ok (.tableswitch 576 0 6 #[41, 137, 225, 281, 356, 452, 520], 41) := by decide +kernel
theorem dL_law_80 : decode cL_law 80 = .ok (.aload_n 1, 1) := by decide +kernel
theorem dL_law_81 : decode cL_law 81 = .ok (.aload_n 0, 1) := by decide +kernel
theorem dL_law_82 : decode cL_law 82 = .ok (.iload 4, 2) := by decide +kernel
theorem dL_law_84 : decode cL_law 84 = .ok (.iconst 1, 1) := by decide +kernel
theorem dL_law_85 : decode cL_law 85 = .ok (.iadd, 1) := by decide +kernel
theorem dL_law_86 : decode cL_law 86 = .ok (.iaload, 1) := by decide +kernel
theorem dL_law_87 : decode cL_law 87 = .ok (.aload_n 0, 1) := by decide +kernel
theorem dL_law_88 : decode cL_law 88 = .ok (.iload 4, 2) := by decide +kernel
theorem dL_law_90 : decode cL_law 90 = .ok (.iconst 2, 1) := by decide +kernel
theorem dL_law_91 : decode cL_law 91 = .ok (.iadd, 1) := by decide +kernel
theorem dL_law_92 : decode cL_law 92 = .ok (.iaload, 1) := by decide +kernel
theorem dL_law_93 : decode cL_law 93 = .ok (.aload_n 0, 1) := by decide +kernel
theorem dL_law_94 : decode cL_law 94 = .ok (.iload 4, 2) := by decide +kernel
theorem dL_law_96 : decode cL_law 96 = .ok (.iconst 3, 1) := by decide +kernel
theorem dL_law_97 : decode cL_law 97 = .ok (.iadd, 1) := by decide +kernel
theorem dL_law_98 : decode cL_law 98 = .ok (.iaload, 1) := by decide +kernel
theorem dL_law_99 : decode cL_law 99 = .ok (.ifCond .eq 7, 3) := by decide +kernel
theorem dL_law_102 : decode cL_law 102 = .ok (.iconst 1, 1) := by decide +kernel
theorem dL_law_103 : decode cL_law 103 = .ok (.goto 4, 3) := by decide +kernel
theorem dL_law_106 : decode cL_law 106 = .ok (.iconst 0, 1) := by decide +kernel
theorem dL_law_107 : decode cL_law 107 = .ok (.aload_n 3, 1) := by decide +kernel
theorem dL_law_108 : decode cL_law 108 = .ok (.invokestatic 43, 3) := by decide +kernel
theorem dL_law_111 : decode cL_law 111 = .ok (.istore 5, 2) := by decide +kernel
theorem dL_law_113 : decode cL_law 113 = .ok (.aload_n 2, 1) := by decide +kernel
theorem dL_law_114 : decode cL_law 114 = .ok (.aload_n 0, 1) := by decide +kernel
theorem dL_law_115 : decode cL_law 115 = .ok (.iload 4, 2) := by decide +kernel
theorem dL_law_117 : decode cL_law 117 = .ok (.iconst 1, 1) := by decide +kernel
theorem dL_law_118 : decode cL_law 118 = .ok (.iadd, 1) := by decide +kernel
theorem dL_law_119 : decode cL_law 119 = .ok (.iaload, 1) := by decide +kernel
theorem dL_law_120 : decode cL_law 120 = .ok (.aload_n 0, 1) := by decide +kernel
theorem dL_law_121 : decode cL_law 121 = .ok (.iload 4, 2) := by decide +kernel
theorem dL_law_123 : decode cL_law 123 = .ok (.iconst 2, 1) := by decide +kernel
theorem dL_law_124 : decode cL_law 124 = .ok (.iadd, 1) := by decide +kernel
theorem dL_law_125 : decode cL_law 125 = .ok (.iaload, 1) := by decide +kernel
theorem dL_law_126 : decode cL_law 126 = .ok (.aload_n 0, 1) := by decide +kernel
theorem dL_law_127 : decode cL_law 127 = .ok (.iload 4, 2) := by decide +kernel
theorem dL_law_129 : decode cL_law 129 = .ok (.iconst 3, 1) := by decide +kernel
theorem dL_law_130 : decode cL_law 130 = .ok (.iadd, 1) := by decide +kernel
theorem dL_law_131 : decode cL_law 131 = .ok (.iaload, 1) := by decide +kernel
theorem dL_law_132 : decode cL_law 132 = .ok (.ifCond .eq 7, 3) := by decide +kernel
theorem dL_law_135 : decode cL_law 135 = .ok (.iconst 1, 1) := by decide +kernel
theorem dL_law_136 : decode cL_law 136 = .ok (.goto 4, 3) := by decide +kernel
theorem dL_law_139 : decode cL_law 139 = .ok (.iconst 0, 1) := by decide +kernel
theorem dL_law_140 : decode cL_law 140 = .ok (.invokevirtual 48, 3) := by decide +kernel
theorem dL_law_143 : decode cL_law 143 = .ok (.istore 6, 2) := by decide +kernel
theorem dL_law_145 : decode cL_law 145 = .ok (.aload_n 2, 1) := by decide +kernel
theorem dL_law_146 : decode cL_law 146 = .ok (.invokevirtual 49, 3) := by decide +kernel
theorem dL_law_149 : decode cL_law 149 = .ok (.iload 5, 2) := by decide +kernel
theorem dL_law_151 : decode cL_law 151 = .ok (.if_icmp .eq 5, 3) := by decide +kernel
theorem dL_law_154 : decode cL_law 154 = .ok (.iconst 0, 1) := by decide +kernel
theorem dL_law_155 : decode cL_law 155 = .ok (.ireturn, 1) := by decide +kernel
theorem dL_law_156 : decode cL_law 156 = .ok (.iload 5, 2) := by decide +kernel
theorem dL_law_158 : decode cL_law 158 = .ok (.ifCond .ne 15, 3) := by decide +kernel
theorem dL_law_161 : decode cL_law 161 = .ok (.aload_n 3, 1) := by decide +kernel
theorem dL_law_162 : decode cL_law 162 = .ok (.iconst 0, 1) := by decide +kernel
theorem dL_law_163 : decode cL_law 163 = .ok (.laload, 1) := by decide +kernel
theorem dL_law_164 : decode cL_law 164 = .ok (.iload 6, 2) := by decide +kernel
theorem dL_law_166 : decode cL_law 166 = .ok (.i2l, 1) := by decide +kernel
theorem dL_law_167 : decode cL_law 167 = .ok (.lcmp, 1) := by decide +kernel
theorem dL_law_168 : decode cL_law 168 = .ok (.ifCond .eq 5, 3) := by decide +kernel
theorem dL_law_171 : decode cL_law 171 = .ok (.iconst 0, 1) := by decide +kernel
theorem dL_law_172 : decode cL_law 172 = .ok (.ireturn, 1) := by decide +kernel
theorem dL_law_173 : decode cL_law 173 = .ok (.goto 442, 3) := by decide +kernel
theorem dL_law_176 : decode cL_law 176 = .ok (.aload_n 1, 1) := by decide +kernel
theorem dL_law_177 : decode cL_law 177 = .ok (.aload_n 0, 1) := by decide +kernel
theorem dL_law_178 : decode cL_law 178 = .ok (.iload 4, 2) := by decide +kernel
theorem dL_law_180 : decode cL_law 180 = .ok (.iconst 1, 1) := by decide +kernel
theorem dL_law_181 : decode cL_law 181 = .ok (.iadd, 1) := by decide +kernel
theorem dL_law_182 : decode cL_law 182 = .ok (.iaload, 1) := by decide +kernel
theorem dL_law_183 : decode cL_law 183 = .ok (.aload_n 0, 1) := by decide +kernel
theorem dL_law_184 : decode cL_law 184 = .ok (.iload 4, 2) := by decide +kernel
theorem dL_law_186 : decode cL_law 186 = .ok (.iconst 2, 1) := by decide +kernel
theorem dL_law_187 : decode cL_law 187 = .ok (.iadd, 1) := by decide +kernel
theorem dL_law_188 : decode cL_law 188 = .ok (.iaload, 1) := by decide +kernel
theorem dL_law_189 : decode cL_law 189 = .ok (.aload_n 0, 1) := by decide +kernel
theorem dL_law_190 : decode cL_law 190 = .ok (.iload 4, 2) := by decide +kernel
theorem dL_law_192 : decode cL_law 192 = .ok (.iconst 3, 1) := by decide +kernel
theorem dL_law_193 : decode cL_law 193 = .ok (.iadd, 1) := by decide +kernel
theorem dL_law_194 : decode cL_law 194 = .ok (.iaload, 1) := by decide +kernel
theorem dL_law_195 : decode cL_law 195 = .ok (.aload_n 0, 1) := by decide +kernel
theorem dL_law_196 : decode cL_law 196 = .ok (.iload 4, 2) := by decide +kernel
theorem dL_law_198 : decode cL_law 198 = .ok (.iconst 4, 1) := by decide +kernel
theorem dL_law_199 : decode cL_law 199 = .ok (.iadd, 1) := by decide +kernel
theorem dL_law_200 : decode cL_law 200 = .ok (.iaload, 1) := by decide +kernel
theorem dL_law_201 : decode cL_law 201 = .ok (.ifCond .eq 7, 3) := by decide +kernel
theorem dL_law_204 : decode cL_law 204 = .ok (.iconst 1, 1) := by decide +kernel
theorem dL_law_205 : decode cL_law 205 = .ok (.goto 4, 3) := by decide +kernel
theorem dL_law_208 : decode cL_law 208 = .ok (.iconst 0, 1) := by decide +kernel
theorem dL_law_209 : decode cL_law 209 = .ok (.invokestatic 53, 3) := by decide +kernel
theorem dL_law_212 : decode cL_law 212 = .ok (.istore 5, 2) := by decide +kernel
theorem dL_law_214 : decode cL_law 214 = .ok (.aload_n 2, 1) := by decide +kernel
theorem dL_law_215 : decode cL_law 215 = .ok (.aload_n 0, 1) := by decide +kernel
theorem dL_law_216 : decode cL_law 216 = .ok (.iload 4, 2) := by decide +kernel
theorem dL_law_218 : decode cL_law 218 = .ok (.iconst 1, 1) := by decide +kernel
theorem dL_law_219 : decode cL_law 219 = .ok (.iadd, 1) := by decide +kernel
theorem dL_law_220 : decode cL_law 220 = .ok (.iaload, 1) := by decide +kernel
theorem dL_law_221 : decode cL_law 221 = .ok (.aload_n 0, 1) := by decide +kernel
theorem dL_law_222 : decode cL_law 222 = .ok (.iload 4, 2) := by decide +kernel
theorem dL_law_224 : decode cL_law 224 = .ok (.iconst 2, 1) := by decide +kernel
theorem dL_law_225 : decode cL_law 225 = .ok (.iadd, 1) := by decide +kernel
theorem dL_law_226 : decode cL_law 226 = .ok (.iaload, 1) := by decide +kernel
theorem dL_law_227 : decode cL_law 227 = .ok (.aload_n 0, 1) := by decide +kernel
theorem dL_law_228 : decode cL_law 228 = .ok (.iload 4, 2) := by decide +kernel
theorem dL_law_230 : decode cL_law 230 = .ok (.iconst 3, 1) := by decide +kernel
theorem dL_law_231 : decode cL_law 231 = .ok (.iadd, 1) := by decide +kernel
theorem dL_law_232 : decode cL_law 232 = .ok (.iaload, 1) := by decide +kernel
theorem dL_law_233 : decode cL_law 233 = .ok (.aload_n 0, 1) := by decide +kernel
theorem dL_law_234 : decode cL_law 234 = .ok (.iload 4, 2) := by decide +kernel
theorem dL_law_236 : decode cL_law 236 = .ok (.iconst 4, 1) := by decide +kernel
theorem dL_law_237 : decode cL_law 237 = .ok (.iadd, 1) := by decide +kernel
theorem dL_law_238 : decode cL_law 238 = .ok (.iaload, 1) := by decide +kernel
theorem dL_law_239 : decode cL_law 239 = .ok (.ifCond .eq 7, 3) := by decide +kernel
theorem dL_law_242 : decode cL_law 242 = .ok (.iconst 1, 1) := by decide +kernel
theorem dL_law_243 : decode cL_law 243 = .ok (.goto 4, 3) := by decide +kernel
theorem dL_law_246 : decode cL_law 246 = .ok (.iconst 0, 1) := by decide +kernel
theorem dL_law_247 : decode cL_law 247 = .ok (.invokevirtual 56, 3) := by decide +kernel
theorem dL_law_250 : decode cL_law 250 = .ok (.aload_n 2, 1) := by decide +kernel
theorem dL_law_251 : decode cL_law 251 = .ok (.invokevirtual 49, 3) := by decide +kernel
theorem dL_law_254 : decode cL_law 254 = .ok (.iload 5, 2) := by decide +kernel
theorem dL_law_256 : decode cL_law 256 = .ok (.if_icmp .eq 5, 3) := by decide +kernel
theorem dL_law_259 : decode cL_law 259 = .ok (.iconst 0, 1) := by decide +kernel
theorem dL_law_260 : decode cL_law 260 = .ok (.ireturn, 1) := by decide +kernel
theorem dL_law_261 : decode cL_law 261 = .ok (.goto 354, 3) := by decide +kernel
theorem dL_law_264 : decode cL_law 264 = .ok (.aload_n 1, 1) := by decide +kernel
theorem dL_law_265 : decode cL_law 265 = .ok (.aload_n 0, 1) := by decide +kernel
theorem dL_law_266 : decode cL_law 266 = .ok (.iload 4, 2) := by decide +kernel
theorem dL_law_268 : decode cL_law 268 = .ok (.iconst 1, 1) := by decide +kernel
theorem dL_law_269 : decode cL_law 269 = .ok (.iadd, 1) := by decide +kernel
theorem dL_law_270 : decode cL_law 270 = .ok (.iaload, 1) := by decide +kernel
theorem dL_law_271 : decode cL_law 271 = .ok (.aload_n 3, 1) := by decide +kernel
theorem dL_law_272 : decode cL_law 272 = .ok (.invokestatic 57, 3) := by decide +kernel
theorem dL_law_275 : decode cL_law 275 = .ok (.istore 5, 2) := by decide +kernel
theorem dL_law_277 : decode cL_law 277 = .ok (.aload_n 2, 1) := by decide +kernel
theorem dL_law_278 : decode cL_law 278 = .ok (.aload_n 0, 1) := by decide +kernel
theorem dL_law_279 : decode cL_law 279 = .ok (.iload 4, 2) := by decide +kernel
theorem dL_law_281 : decode cL_law 281 = .ok (.iconst 1, 1) := by decide +kernel
theorem dL_law_282 : decode cL_law 282 = .ok (.iadd, 1) := by decide +kernel
theorem dL_law_283 : decode cL_law 283 = .ok (.iaload, 1) := by decide +kernel
theorem dL_law_284 : decode cL_law 284 = .ok (.invokevirtual 60, 3) := by decide +kernel
theorem dL_law_287 : decode cL_law 287 = .ok (.istore 6, 2) := by decide +kernel
theorem dL_law_289 : decode cL_law 289 = .ok (.aload_n 2, 1) := by decide +kernel
theorem dL_law_290 : decode cL_law 290 = .ok (.invokevirtual 49, 3) := by decide +kernel
theorem dL_law_293 : decode cL_law 293 = .ok (.iload 5, 2) := by decide +kernel
theorem dL_law_295 : decode cL_law 295 = .ok (.if_icmp .eq 5, 3) := by decide +kernel
theorem dL_law_298 : decode cL_law 298 = .ok (.iconst 0, 1) := by decide +kernel
theorem dL_law_299 : decode cL_law 299 = .ok (.ireturn, 1) := by decide +kernel
theorem dL_law_300 : decode cL_law 300 = .ok (.iload 5, 2) := by decide +kernel
theorem dL_law_302 : decode cL_law 302 = .ok (.ifCond .ne 15, 3) := by decide +kernel
theorem dL_law_305 : decode cL_law 305 = .ok (.aload_n 3, 1) := by decide +kernel
theorem dL_law_306 : decode cL_law 306 = .ok (.iconst 0, 1) := by decide +kernel
theorem dL_law_307 : decode cL_law 307 = .ok (.laload, 1) := by decide +kernel
theorem dL_law_308 : decode cL_law 308 = .ok (.iload 6, 2) := by decide +kernel
theorem dL_law_310 : decode cL_law 310 = .ok (.i2l, 1) := by decide +kernel
theorem dL_law_311 : decode cL_law 311 = .ok (.lcmp, 1) := by decide +kernel
theorem dL_law_312 : decode cL_law 312 = .ok (.ifCond .eq 5, 3) := by decide +kernel
theorem dL_law_315 : decode cL_law 315 = .ok (.iconst 0, 1) := by decide +kernel
theorem dL_law_316 : decode cL_law 316 = .ok (.ireturn, 1) := by decide +kernel
theorem dL_law_317 : decode cL_law 317 = .ok (.goto 298, 3) := by decide +kernel
theorem dL_law_320 : decode cL_law 320 = .ok (.aload_n 1, 1) := by decide +kernel
theorem dL_law_321 : decode cL_law 321 = .ok (.aload_n 0, 1) := by decide +kernel
theorem dL_law_322 : decode cL_law 322 = .ok (.iload 4, 2) := by decide +kernel
theorem dL_law_324 : decode cL_law 324 = .ok (.iconst 1, 1) := by decide +kernel
theorem dL_law_325 : decode cL_law 325 = .ok (.iadd, 1) := by decide +kernel
theorem dL_law_326 : decode cL_law 326 = .ok (.iaload, 1) := by decide +kernel
theorem dL_law_327 : decode cL_law 327 = .ok (.aload_n 0, 1) := by decide +kernel
theorem dL_law_328 : decode cL_law 328 = .ok (.iload 4, 2) := by decide +kernel
theorem dL_law_330 : decode cL_law 330 = .ok (.iconst 2, 1) := by decide +kernel
theorem dL_law_331 : decode cL_law 331 = .ok (.iadd, 1) := by decide +kernel
theorem dL_law_332 : decode cL_law 332 = .ok (.iaload, 1) := by decide +kernel
theorem dL_law_333 : decode cL_law 333 = .ok (.aload_n 3, 1) := by decide +kernel
theorem dL_law_334 : decode cL_law 334 = .ok (.invokestatic 61, 3) := by decide +kernel
theorem dL_law_337 : decode cL_law 337 = .ok (.istore 5, 2) := by decide +kernel
theorem dL_law_339 : decode cL_law 339 = .ok (.aload_n 2, 1) := by decide +kernel
theorem dL_law_340 : decode cL_law 340 = .ok (.aload_n 0, 1) := by decide +kernel
theorem dL_law_341 : decode cL_law 341 = .ok (.iload 4, 2) := by decide +kernel
theorem dL_law_343 : decode cL_law 343 = .ok (.iconst 1, 1) := by decide +kernel
theorem dL_law_344 : decode cL_law 344 = .ok (.iadd, 1) := by decide +kernel
theorem dL_law_345 : decode cL_law 345 = .ok (.iaload, 1) := by decide +kernel
theorem dL_law_346 : decode cL_law 346 = .ok (.aload_n 0, 1) := by decide +kernel
theorem dL_law_347 : decode cL_law 347 = .ok (.iload 4, 2) := by decide +kernel
theorem dL_law_349 : decode cL_law 349 = .ok (.iconst 2, 1) := by decide +kernel
theorem dL_law_350 : decode cL_law 350 = .ok (.iadd, 1) := by decide +kernel
theorem dL_law_351 : decode cL_law 351 = .ok (.iaload, 1) := by decide +kernel
theorem dL_law_352 : decode cL_law 352 = .ok (.invokevirtual 64, 3) := by decide +kernel
theorem dL_law_355 : decode cL_law 355 = .ok (.istore 6, 2) := by decide +kernel
theorem dL_law_357 : decode cL_law 357 = .ok (.aload_n 2, 1) := by decide +kernel
theorem dL_law_358 : decode cL_law 358 = .ok (.invokevirtual 49, 3) := by decide +kernel
theorem dL_law_361 : decode cL_law 361 = .ok (.iload 5, 2) := by decide +kernel
theorem dL_law_363 : decode cL_law 363 = .ok (.if_icmp .eq 5, 3) := by decide +kernel
theorem dL_law_366 : decode cL_law 366 = .ok (.iconst 0, 1) := by decide +kernel
theorem dL_law_367 : decode cL_law 367 = .ok (.ireturn, 1) := by decide +kernel
theorem dL_law_368 : decode cL_law 368 = .ok (.iload 5, 2) := by decide +kernel
theorem dL_law_370 : decode cL_law 370 = .ok (.ifCond .ne 22, 3) := by decide +kernel
theorem dL_law_373 : decode cL_law 373 = .ok (.aload_n 3, 1) := by decide +kernel
theorem dL_law_374 : decode cL_law 374 = .ok (.iconst 0, 1) := by decide +kernel
theorem dL_law_375 : decode cL_law 375 = .ok (.laload, 1) := by decide +kernel
theorem dL_law_376 : decode cL_law 376 = .ok (.iload 6, 2) := by decide +kernel
theorem dL_law_378 : decode cL_law 378 = .ok (.ifCond .eq 7, 3) := by decide +kernel
theorem dL_law_381 : decode cL_law 381 = .ok (.lconst 1, 1) := by decide +kernel
theorem dL_law_382 : decode cL_law 382 = .ok (.goto 4, 3) := by decide +kernel
theorem dL_law_385 : decode cL_law 385 = .ok (.lconst 0, 1) := by decide +kernel
theorem dL_law_386 : decode cL_law 386 = .ok (.lcmp, 1) := by decide +kernel
theorem dL_law_387 : decode cL_law 387 = .ok (.ifCond .eq 5, 3) := by decide +kernel
theorem dL_law_390 : decode cL_law 390 = .ok (.iconst 0, 1) := by decide +kernel
theorem dL_law_391 : decode cL_law 391 = .ok (.ireturn, 1) := by decide +kernel
theorem dL_law_392 : decode cL_law 392 = .ok (.goto 223, 3) := by decide +kernel
theorem dL_law_395 : decode cL_law 395 = .ok (.aload_n 1, 1) := by decide +kernel
theorem dL_law_396 : decode cL_law 396 = .ok (.aload_n 0, 1) := by decide +kernel
theorem dL_law_397 : decode cL_law 397 = .ok (.iload 4, 2) := by decide +kernel
theorem dL_law_399 : decode cL_law 399 = .ok (.iconst 1, 1) := by decide +kernel
theorem dL_law_400 : decode cL_law 400 = .ok (.iadd, 1) := by decide +kernel
theorem dL_law_401 : decode cL_law 401 = .ok (.iaload, 1) := by decide +kernel
theorem dL_law_402 : decode cL_law 402 = .ok (.aload_n 0, 1) := by decide +kernel
theorem dL_law_403 : decode cL_law 403 = .ok (.iload 4, 2) := by decide +kernel
theorem dL_law_405 : decode cL_law 405 = .ok (.iconst 2, 1) := by decide +kernel
theorem dL_law_406 : decode cL_law 406 = .ok (.iadd, 1) := by decide +kernel
theorem dL_law_407 : decode cL_law 407 = .ok (.iaload, 1) := by decide +kernel
theorem dL_law_408 : decode cL_law 408 = .ok (.aload_n 0, 1) := by decide +kernel
theorem dL_law_409 : decode cL_law 409 = .ok (.iload 4, 2) := by decide +kernel
theorem dL_law_411 : decode cL_law 411 = .ok (.iconst 3, 1) := by decide +kernel
theorem dL_law_412 : decode cL_law 412 = .ok (.iadd, 1) := by decide +kernel
theorem dL_law_413 : decode cL_law 413 = .ok (.iaload, 1) := by decide +kernel
theorem dL_law_414 : decode cL_law 414 = .ok (.ifCond .eq 7, 3) := by decide +kernel
theorem dL_law_417 : decode cL_law 417 = .ok (.iconst 1, 1) := by decide +kernel
theorem dL_law_418 : decode cL_law 418 = .ok (.goto 4, 3) := by decide +kernel
theorem dL_law_421 : decode cL_law 421 = .ok (.iconst 0, 1) := by decide +kernel
theorem dL_law_422 : decode cL_law 422 = .ok (.aload_n 3, 1) := by decide +kernel
theorem dL_law_423 : decode cL_law 423 = .ok (.invokestatic 65, 3) := by decide +kernel
theorem dL_law_426 : decode cL_law 426 = .ok (.istore 5, 2) := by decide +kernel
theorem dL_law_428 : decode cL_law 428 = .ok (.aload_n 2, 1) := by decide +kernel
theorem dL_law_429 : decode cL_law 429 = .ok (.aload_n 0, 1) := by decide +kernel
theorem dL_law_430 : decode cL_law 430 = .ok (.iload 4, 2) := by decide +kernel
theorem dL_law_432 : decode cL_law 432 = .ok (.iconst 1, 1) := by decide +kernel
theorem dL_law_433 : decode cL_law 433 = .ok (.iadd, 1) := by decide +kernel
theorem dL_law_434 : decode cL_law 434 = .ok (.iaload, 1) := by decide +kernel
theorem dL_law_435 : decode cL_law 435 = .ok (.aload_n 0, 1) := by decide +kernel
theorem dL_law_436 : decode cL_law 436 = .ok (.iload 4, 2) := by decide +kernel
theorem dL_law_438 : decode cL_law 438 = .ok (.iconst 2, 1) := by decide +kernel
theorem dL_law_439 : decode cL_law 439 = .ok (.iadd, 1) := by decide +kernel
theorem dL_law_440 : decode cL_law 440 = .ok (.iaload, 1) := by decide +kernel
theorem dL_law_441 : decode cL_law 441 = .ok (.aload_n 0, 1) := by decide +kernel
theorem dL_law_442 : decode cL_law 442 = .ok (.iload 4, 2) := by decide +kernel
theorem dL_law_444 : decode cL_law 444 = .ok (.iconst 3, 1) := by decide +kernel
theorem dL_law_445 : decode cL_law 445 = .ok (.iadd, 1) := by decide +kernel
theorem dL_law_446 : decode cL_law 446 = .ok (.iaload, 1) := by decide +kernel
theorem dL_law_447 : decode cL_law 447 = .ok (.ifCond .eq 7, 3) := by decide +kernel
theorem dL_law_450 : decode cL_law 450 = .ok (.iconst 1, 1) := by decide +kernel
theorem dL_law_451 : decode cL_law 451 = .ok (.goto 4, 3) := by decide +kernel
theorem dL_law_454 : decode cL_law 454 = .ok (.iconst 0, 1) := by decide +kernel
theorem dL_law_455 : decode cL_law 455 = .ok (.invokevirtual 67, 3) := by decide +kernel
theorem dL_law_458 : decode cL_law 458 = .ok (.istore 6, 2) := by decide +kernel
theorem dL_law_460 : decode cL_law 460 = .ok (.aload_n 2, 1) := by decide +kernel
theorem dL_law_461 : decode cL_law 461 = .ok (.invokevirtual 49, 3) := by decide +kernel
theorem dL_law_464 : decode cL_law 464 = .ok (.iload 5, 2) := by decide +kernel
theorem dL_law_466 : decode cL_law 466 = .ok (.if_icmp .eq 5, 3) := by decide +kernel
theorem dL_law_469 : decode cL_law 469 = .ok (.iconst 0, 1) := by decide +kernel
theorem dL_law_470 : decode cL_law 470 = .ok (.ireturn, 1) := by decide +kernel
theorem dL_law_471 : decode cL_law 471 = .ok (.iload 5, 2) := by decide +kernel
theorem dL_law_473 : decode cL_law 473 = .ok (.ifCond .ne 15, 3) := by decide +kernel
theorem dL_law_476 : decode cL_law 476 = .ok (.aload_n 3, 1) := by decide +kernel
theorem dL_law_477 : decode cL_law 477 = .ok (.iconst 0, 1) := by decide +kernel
theorem dL_law_478 : decode cL_law 478 = .ok (.laload, 1) := by decide +kernel
theorem dL_law_479 : decode cL_law 479 = .ok (.iload 6, 2) := by decide +kernel
theorem dL_law_481 : decode cL_law 481 = .ok (.i2l, 1) := by decide +kernel
theorem dL_law_482 : decode cL_law 482 = .ok (.lcmp, 1) := by decide +kernel
theorem dL_law_483 : decode cL_law 483 = .ok (.ifCond .eq 5, 3) := by decide +kernel
theorem dL_law_486 : decode cL_law 486 = .ok (.iconst 0, 1) := by decide +kernel
theorem dL_law_487 : decode cL_law 487 = .ok (.ireturn, 1) := by decide +kernel
theorem dL_law_488 : decode cL_law 488 = .ok (.goto 127, 3) := by decide +kernel
theorem dL_law_491 : decode cL_law 491 = .ok (.aload_n 1, 1) := by decide +kernel
theorem dL_law_492 : decode cL_law 492 = .ok (.aload_n 0, 1) := by decide +kernel
theorem dL_law_493 : decode cL_law 493 = .ok (.iload 4, 2) := by decide +kernel
theorem dL_law_495 : decode cL_law 495 = .ok (.iconst 1, 1) := by decide +kernel
theorem dL_law_496 : decode cL_law 496 = .ok (.iadd, 1) := by decide +kernel
theorem dL_law_497 : decode cL_law 497 = .ok (.iaload, 1) := by decide +kernel
theorem dL_law_498 : decode cL_law 498 = .ok (.aload_n 0, 1) := by decide +kernel
theorem dL_law_499 : decode cL_law 499 = .ok (.iload 4, 2) := by decide +kernel
theorem dL_law_501 : decode cL_law 501 = .ok (.iconst 2, 1) := by decide +kernel
theorem dL_law_502 : decode cL_law 502 = .ok (.iadd, 1) := by decide +kernel
theorem dL_law_503 : decode cL_law 503 = .ok (.iaload, 1) := by decide +kernel
theorem dL_law_504 : decode cL_law 504 = .ok (.aload_n 3, 1) := by decide +kernel
theorem dL_law_505 : decode cL_law 505 = .ok (.invokestatic 68, 3) := by decide +kernel
theorem dL_law_508 : decode cL_law 508 = .ok (.istore 5, 2) := by decide +kernel
theorem dL_law_510 : decode cL_law 510 = .ok (.aload_n 2, 1) := by decide +kernel
theorem dL_law_511 : decode cL_law 511 = .ok (.aload_n 0, 1) := by decide +kernel
theorem dL_law_512 : decode cL_law 512 = .ok (.iload 4, 2) := by decide +kernel
theorem dL_law_514 : decode cL_law 514 = .ok (.iconst 1, 1) := by decide +kernel
theorem dL_law_515 : decode cL_law 515 = .ok (.iadd, 1) := by decide +kernel
theorem dL_law_516 : decode cL_law 516 = .ok (.iaload, 1) := by decide +kernel
theorem dL_law_517 : decode cL_law 517 = .ok (.aload_n 0, 1) := by decide +kernel
theorem dL_law_518 : decode cL_law 518 = .ok (.iload 4, 2) := by decide +kernel
theorem dL_law_520 : decode cL_law 520 = .ok (.iconst 2, 1) := by decide +kernel
theorem dL_law_521 : decode cL_law 521 = .ok (.iadd, 1) := by decide +kernel
theorem dL_law_522 : decode cL_law 522 = .ok (.iaload, 1) := by decide +kernel
theorem dL_law_523 : decode cL_law 523 = .ok (.invokevirtual 70, 3) := by decide +kernel
theorem dL_law_526 : decode cL_law 526 = .ok (.istore 6, 2) := by decide +kernel
theorem dL_law_528 : decode cL_law 528 = .ok (.aload_n 2, 1) := by decide +kernel
theorem dL_law_529 : decode cL_law 529 = .ok (.invokevirtual 49, 3) := by decide +kernel
theorem dL_law_532 : decode cL_law 532 = .ok (.iload 5, 2) := by decide +kernel
theorem dL_law_534 : decode cL_law 534 = .ok (.if_icmp .eq 5, 3) := by decide +kernel
theorem dL_law_537 : decode cL_law 537 = .ok (.iconst 0, 1) := by decide +kernel
theorem dL_law_538 : decode cL_law 538 = .ok (.ireturn, 1) := by decide +kernel
theorem dL_law_539 : decode cL_law 539 = .ok (.iload 5, 2) := by decide +kernel
theorem dL_law_541 : decode cL_law 541 = .ok (.ifCond .ne 15, 3) := by decide +kernel
theorem dL_law_544 : decode cL_law 544 = .ok (.aload_n 3, 1) := by decide +kernel
theorem dL_law_545 : decode cL_law 545 = .ok (.iconst 0, 1) := by decide +kernel
theorem dL_law_546 : decode cL_law 546 = .ok (.laload, 1) := by decide +kernel
theorem dL_law_547 : decode cL_law 547 = .ok (.iload 6, 2) := by decide +kernel
theorem dL_law_549 : decode cL_law 549 = .ok (.i2l, 1) := by decide +kernel
theorem dL_law_550 : decode cL_law 550 = .ok (.lcmp, 1) := by decide +kernel
theorem dL_law_551 : decode cL_law 551 = .ok (.ifCond .eq 5, 3) := by decide +kernel
theorem dL_law_554 : decode cL_law 554 = .ok (.iconst 0, 1) := by decide +kernel
theorem dL_law_555 : decode cL_law 555 = .ok (.ireturn, 1) := by decide +kernel
theorem dL_law_556 : decode cL_law 556 = .ok (.goto 59, 3) := by decide +kernel
theorem dL_law_559 : decode cL_law 559 = .ok (.aload_n 1, 1) := by decide +kernel
theorem dL_law_560 : decode cL_law 560 = .ok (.aload_n 0, 1) := by decide +kernel
theorem dL_law_561 : decode cL_law 561 = .ok (.iload 4, 2) := by decide +kernel
theorem dL_law_563 : decode cL_law 563 = .ok (.iconst 1, 1) := by decide +kernel
theorem dL_law_564 : decode cL_law 564 = .ok (.iadd, 1) := by decide +kernel
theorem dL_law_565 : decode cL_law 565 = .ok (.iaload, 1) := by decide +kernel
theorem dL_law_566 : decode cL_law 566 = .ok (.aload_n 3, 1) := by decide +kernel
theorem dL_law_567 : decode cL_law 567 = .ok (.invokestatic 71, 3) := by decide +kernel
theorem dL_law_570 : decode cL_law 570 = .ok (.istore 5, 2) := by decide +kernel
theorem dL_law_572 : decode cL_law 572 = .ok (.aload_n 2, 1) := by decide +kernel
theorem dL_law_573 : decode cL_law 573 = .ok (.aload_n 0, 1) := by decide +kernel
theorem dL_law_574 : decode cL_law 574 = .ok (.iload 4, 2) := by decide +kernel
theorem dL_law_576 : decode cL_law 576 = .ok (.iconst 1, 1) := by decide +kernel
theorem dL_law_577 : decode cL_law 577 = .ok (.iadd, 1) := by decide +kernel
theorem dL_law_578 : decode cL_law 578 = .ok (.iaload, 1) := by decide +kernel
theorem dL_law_579 : decode cL_law 579 = .ok (.invokevirtual 73, 3) := by decide +kernel
theorem dL_law_582 : decode cL_law 582 = .ok (.istore 6, 2) := by decide +kernel
theorem dL_law_584 : decode cL_law 584 = .ok (.aload_n 2, 1) := by decide +kernel
theorem dL_law_585 : decode cL_law 585 = .ok (.invokevirtual 49, 3) := by decide +kernel
theorem dL_law_588 : decode cL_law 588 = .ok (.iload 5, 2) := by decide +kernel
theorem dL_law_590 : decode cL_law 590 = .ok (.if_icmp .eq 5, 3) := by decide +kernel
theorem dL_law_593 : decode cL_law 593 = .ok (.iconst 0, 1) := by decide +kernel
theorem dL_law_594 : decode cL_law 594 = .ok (.ireturn, 1) := by decide +kernel
theorem dL_law_595 : decode cL_law 595 = .ok (.iload 5, 2) := by decide +kernel
theorem dL_law_597 : decode cL_law 597 = .ok (.ifCond .ne 15, 3) := by decide +kernel
theorem dL_law_600 : decode cL_law 600 = .ok (.aload_n 3, 1) := by decide +kernel
theorem dL_law_601 : decode cL_law 601 = .ok (.iconst 0, 1) := by decide +kernel
theorem dL_law_602 : decode cL_law 602 = .ok (.laload, 1) := by decide +kernel
theorem dL_law_603 : decode cL_law 603 = .ok (.iload 6, 2) := by decide +kernel
theorem dL_law_605 : decode cL_law 605 = .ok (.i2l, 1) := by decide +kernel
theorem dL_law_606 : decode cL_law 606 = .ok (.lcmp, 1) := by decide +kernel
theorem dL_law_607 : decode cL_law 607 = .ok (.ifCond .eq 5, 3) := by decide +kernel
theorem dL_law_610 : decode cL_law 610 = .ok (.iconst 0, 1) := by decide +kernel
theorem dL_law_611 : decode cL_law 611 = .ok (.ireturn, 1) := by decide +kernel
theorem dL_law_612 : decode cL_law 612 = .ok (.goto 3, 3) := by decide +kernel
theorem dL_law_615 : decode cL_law 615 = .ok (.iinc 4 5, 3) := by decide +kernel
theorem dL_law_618 : decode cL_law 618 = .ok (.goto (-595), 3) := by decide +kernel
theorem dL_law_621 : decode cL_law 621 = .ok (.iconst 1, 1) := by decide +kernel
theorem dL_law_622 : decode cL_law 622 = .ok (.ireturn, 1) := by decide +kernel
theorem dX6_word_0 : decode cX6_word 0 = .ok (.aload_n 0, 1) := by decide +kernel
theorem dX6_word_1 : decode cX6_word 1 = .ok (.getfield 13, 3) := by decide +kernel
theorem dX6_word_4 : decode cX6_word 4 = .ok (.iload_n 1, 1) := by decide +kernel
theorem dX6_word_5 : decode cX6_word 5 = .ok (.iconst 1, 1) := by decide +kernel
theorem dX6_word_6 : decode cX6_word 6 = .ok (.isub, 1) := by decide +kernel
theorem dX6_word_7 : decode cX6_word 7 = .ok (.iaload, 1) := by decide +kernel
theorem dX6_word_8 : decode cX6_word 8 = .ok (.istore_n 2, 1) := by decide +kernel
theorem dX6_word_9 : decode cX6_word 9 = .ok (.aload_n 0, 1) := by decide +kernel
theorem dX6_word_10 : decode cX6_word 10 = .ok (.getfield 13, 3) := by decide +kernel
theorem dX6_word_13 : decode cX6_word 13 = .ok (.iload_n 1, 1) := by decide +kernel
theorem dX6_word_14 : decode cX6_word 14 = .ok (.iaload, 1) := by decide +kernel
theorem dX6_word_15 : decode cX6_word 15 = .ok (.istore_n 3, 1) := by decide +kernel
theorem dX6_word_16 : decode cX6_word 16 = .ok (.iload_n 2, 1) := by decide +kernel
theorem dX6_word_17 : decode cX6_word 17 = .ok (.iconst 1, 1) := by decide +kernel
theorem dX6_word_18 : decode cX6_word 18 = .ok (.if_icmp .ne 10, 3) := by decide +kernel
theorem dX6_word_21 : decode cX6_word 21 = .ok (.iload_n 3, 1) := by decide +kernel
theorem dX6_word_22 : decode cX6_word 22 = .ok (.iconst 2, 1) := by decide +kernel
theorem dX6_word_23 : decode cX6_word 23 = .ok (.if_icmp .ne 5, 3) := by decide +kernel
theorem dX6_word_26 : decode cX6_word 26 = .ok (.iconst 0, 1) := by decide +kernel
theorem dX6_word_27 : decode cX6_word 27 = .ok (.ireturn, 1) := by decide +kernel
theorem dX6_word_28 : decode cX6_word 28 = .ok (.aload_n 0, 1) := by decide +kernel
theorem dX6_word_29 : decode cX6_word 29 = .ok (.iload_n 2, 1) := by decide +kernel
theorem dX6_word_30 : decode cX6_word 30 = .ok (.invokevirtual 37, 3) := by decide +kernel
theorem dX6_word_33 : decode cX6_word 33 = .ok (.ifCond .ne 11, 3) := by decide +kernel
theorem dX6_word_36 : decode cX6_word 36 = .ok (.aload_n 0, 1) := by decide +kernel
theorem dX6_word_37 : decode cX6_word 37 = .ok (.iload_n 3, 1) := by decide +kernel
theorem dX6_word_38 : decode cX6_word 38 = .ok (.invokevirtual 37, 3) := by decide +kernel
theorem dX6_word_41 : decode cX6_word 41 = .ok (.ifCond .eq 5, 3) := by decide +kernel
theorem dX6_word_44 : decode cX6_word 44 = .ok (.iconst 1, 1) := by decide +kernel
theorem dX6_word_45 : decode cX6_word 45 = .ok (.ireturn, 1) := by decide +kernel
theorem dX6_word_46 : decode cX6_word 46 = .ok (.iload_n 2, 1) := by decide +kernel
theorem dX6_word_47 : decode cX6_word 47 = .ok (.iconst 5, 1) := by decide +kernel
theorem dX6_word_48 : decode cX6_word 48 = .ok (.if_icmp .ne 14, 3) := by decide +kernel
theorem dX6_word_51 : decode cX6_word 51 = .ok (.aload_n 0, 1) := by decide +kernel
theorem dX6_word_52 : decode cX6_word 52 = .ok (.getfield 16, 3) := by decide +kernel
theorem dX6_word_55 : decode cX6_word 55 = .ok (.iload_n 1, 1) := by decide +kernel
theorem dX6_word_56 : decode cX6_word 56 = .ok (.baload, 1) := by decide +kernel
theorem dX6_word_57 : decode cX6_word 57 = .ok (.ifCond .eq 5, 3) := by decide +kernel
theorem dX6_word_60 : decode cX6_word 60 = .ok (.iconst 0, 1) := by decide +kernel
theorem dX6_word_61 : decode cX6_word 61 = .ok (.ireturn, 1) := by decide +kernel
theorem dX6_word_62 : decode cX6_word 62 = .ok (.iload_n 2, 1) := by decide +kernel
theorem dX6_word_63 : decode cX6_word 63 = .ok (.bipush 18, 2) := by decide +kernel
theorem dX6_word_65 : decode cX6_word 65 = .ok (.if_icmp .ne 9, 3) := by decide +kernel
theorem dX6_word_68 : decode cX6_word 68 = .ok (.iload_n 3, 1) := by decide +kernel
theorem dX6_word_69 : decode cX6_word 69 = .ok (.bipush 18, 2) := by decide +kernel
theorem dX6_word_71 : decode cX6_word 71 = .ok (.if_icmp .eq 11, 3) := by decide +kernel
theorem dX6_word_74 : decode cX6_word 74 = .ok (.aload_n 0, 1) := by decide +kernel
theorem dX6_word_75 : decode cX6_word 75 = .ok (.iload_n 3, 1) := by decide +kernel
theorem dX6_word_76 : decode cX6_word 76 = .ok (.invokevirtual 34, 3) := by decide +kernel
theorem dX6_word_79 : decode cX6_word 79 = .ok (.ifCond .eq 5, 3) := by decide +kernel
theorem dX6_word_82 : decode cX6_word 82 = .ok (.iconst 0, 1) := by decide +kernel
theorem dX6_word_83 : decode cX6_word 83 = .ok (.ireturn, 1) := by decide +kernel
theorem dX6_word_84 : decode cX6_word 84 = .ok (.aload_n 0, 1) := by decide +kernel
theorem dX6_word_85 : decode cX6_word 85 = .ok (.iload_n 1, 1) := by decide +kernel
theorem dX6_word_86 : decode cX6_word 86 = .ok (.invokevirtual 44, 3) := by decide +kernel
theorem dX6_word_89 : decode cX6_word 89 = .ok (.istore 4, 2) := by decide +kernel
theorem dX6_word_91 : decode cX6_word 91 = .ok (.aload_n 0, 1) := by decide +kernel
theorem dX6_word_92 : decode cX6_word 92 = .ok (.iload 4, 2) := by decide +kernel
theorem dX6_word_94 : decode cX6_word 94 = .ok (.invokevirtual 47, 3) := by decide +kernel
theorem dX6_word_97 : decode cX6_word 97 = .ok (.istore 5, 2) := by decide +kernel
theorem dX6_word_99 : decode cX6_word 99 = .ok (.aload_n 0, 1) := by decide +kernel
theorem dX6_word_100 : decode cX6_word 100 = .ok (.aload_n 0, 1) := by decide +kernel
theorem dX6_word_101 : decode cX6_word 101 = .ok (.iload 4, 2) := by decide +kernel
theorem dX6_word_103 : decode cX6_word 103 = .ok (.invokevirtual 44, 3) := by decide +kernel
theorem dX6_word_106 : decode cX6_word 106 = .ok (.invokevirtual 47, 3) := by decide +kernel
theorem dX6_word_109 : decode cX6_word 109 = .ok (.istore 6, 2) := by decide +kernel
theorem dX6_word_111 : decode cX6_word 111 = .ok (.aload_n 0, 1) := by decide +kernel
theorem dX6_word_112 : decode cX6_word 112 = .ok (.iload_n 1, 1) := by decide +kernel
theorem dX6_word_113 : decode cX6_word 113 = .ok (.invokevirtual 50, 3) := by decide +kernel
theorem dX6_word_116 : decode cX6_word 116 = .ok (.istore 7, 2) := by decide +kernel
theorem dX6_word_118 : decode cX6_word 118 = .ok (.aload_n 0, 1) := by decide +kernel
theorem dX6_word_119 : decode cX6_word 119 = .ok (.iload 7, 2) := by decide +kernel
theorem dX6_word_121 : decode cX6_word 121 = .ok (.invokevirtual 47, 3) := by decide +kernel
theorem dX6_word_124 : decode cX6_word 124 = .ok (.istore 8, 2) := by decide +kernel
theorem dX6_word_126 : decode cX6_word 126 = .ok (.aload_n 0, 1) := by decide +kernel
theorem dX6_word_127 : decode cX6_word 127 = .ok (.iload 5, 2) := by decide +kernel
theorem dX6_word_129 : decode cX6_word 129 = .ok (.invokevirtual 53, 3) := by decide +kernel
theorem dX6_word_132 : decode cX6_word 132 = .ok (.ifCond .eq 13, 3) := by decide +kernel
theorem dX6_word_135 : decode cX6_word 135 = .ok (.aload_n 0, 1) := by decide +kernel
theorem dX6_word_136 : decode cX6_word 136 = .ok (.iload_n 3, 1) := by decide +kernel
theorem dX6_word_137 : decode cX6_word 137 = .ok (.invokevirtual 53, 3) := by decide +kernel
theorem dX6_word_140 : decode cX6_word 140 = .ok (.ifCond .eq 5, 3) := by decide +kernel
theorem dX6_word_143 : decode cX6_word 143 = .ok (.iconst 0, 1) := by decide +kernel
theorem dX6_word_144 : decode cX6_word 144 = .ok (.ireturn, 1) := by decide +kernel
theorem dX6_word_145 : decode cX6_word 145 = .ok (.aload_n 0, 1) := by decide +kernel
theorem dX6_word_146 : decode cX6_word 146 = .ok (.iload 5, 2) := by decide +kernel
theorem dX6_word_148 : decode cX6_word 148 = .ok (.invokevirtual 53, 3) := by decide +kernel
theorem dX6_word_151 : decode cX6_word 151 = .ok (.ifCond .eq 28, 3) := by decide +kernel
theorem dX6_word_154 : decode cX6_word 154 = .ok (.iload_n 3, 1) := by decide +kernel
theorem dX6_word_155 : decode cX6_word 155 = .ok (.bipush 11, 2) := by decide +kernel
theorem dX6_word_157 : decode cX6_word 157 = .ok (.if_icmp .eq 11, 3) := by decide +kernel
theorem dX6_word_160 : decode cX6_word 160 = .ok (.aload_n 0, 1) := by decide +kernel
theorem dX6_word_161 : decode cX6_word 161 = .ok (.iload_n 3, 1) := by decide +kernel
theorem dX6_word_162 : decode cX6_word 162 = .ok (.invokevirtual 56, 3) := by decide +kernel
theorem dX6_word_165 : decode cX6_word 165 = .ok (.ifCond .eq 14, 3) := by decide +kernel
theorem dX6_word_168 : decode cX6_word 168 = .ok (.aload_n 0, 1) := by decide +kernel
theorem dX6_word_169 : decode cX6_word 169 = .ok (.iload 8, 2) := by decide +kernel
theorem dX6_word_171 : decode cX6_word 171 = .ok (.invokevirtual 53, 3) := by decide +kernel
theorem dX6_word_174 : decode cX6_word 174 = .ok (.ifCond .eq 5, 3) := by decide +kernel
theorem dX6_word_177 : decode cX6_word 177 = .ok (.iconst 0, 1) := by decide +kernel
theorem dX6_word_178 : decode cX6_word 178 = .ok (.ireturn, 1) := by decide +kernel
theorem dX6_word_179 : decode cX6_word 179 = .ok (.aload_n 0, 1) := by decide +kernel
theorem dX6_word_180 : decode cX6_word 180 = .ok (.iload 6, 2) := by decide +kernel
theorem dX6_word_182 : decode cX6_word 182 = .ok (.invokevirtual 53, 3) := by decide +kernel
theorem dX6_word_185 : decode cX6_word 185 = .ok (.ifCond .eq 29, 3) := by decide +kernel
theorem dX6_word_188 : decode cX6_word 188 = .ok (.iload 5, 2) := by decide +kernel
theorem dX6_word_190 : decode cX6_word 190 = .ok (.bipush 11, 2) := by decide +kernel
theorem dX6_word_192 : decode cX6_word 192 = .ok (.if_icmp .eq 12, 3) := by decide +kernel
theorem dX6_word_195 : decode cX6_word 195 = .ok (.aload_n 0, 1) := by decide +kernel
theorem dX6_word_196 : decode cX6_word 196 = .ok (.iload 5, 2) := by decide +kernel
theorem dX6_word_198 : decode cX6_word 198 = .ok (.invokevirtual 56, 3) := by decide +kernel
theorem dX6_word_201 : decode cX6_word 201 = .ok (.ifCond .eq 13, 3) := by decide +kernel
theorem dX6_word_204 : decode cX6_word 204 = .ok (.aload_n 0, 1) := by decide +kernel
theorem dX6_word_205 : decode cX6_word 205 = .ok (.iload_n 3, 1) := by decide +kernel
theorem dX6_word_206 : decode cX6_word 206 = .ok (.invokevirtual 53, 3) := by decide +kernel
theorem dX6_word_209 : decode cX6_word 209 = .ok (.ifCond .eq 5, 3) := by decide +kernel
theorem dX6_word_212 : decode cX6_word 212 = .ok (.iconst 0, 1) := by decide +kernel
theorem dX6_word_213 : decode cX6_word 213 = .ok (.ireturn, 1) := by decide +kernel
theorem dX6_word_214 : decode cX6_word 214 = .ok (.iload 5, 2) := by decide +kernel
theorem dX6_word_216 : decode cX6_word 216 = .ok (.bipush 9, 2) := by decide +kernel
theorem dX6_word_218 : decode cX6_word 218 = .ok (.if_icmp .ne 11, 3) := by decide +kernel
theorem dX6_word_221 : decode cX6_word 221 = .ok (.iload_n 3, 1) := by decide +kernel
theorem dX6_word_222 : decode cX6_word 222 = .ok (.bipush 14, 2) := by decide +kernel
theorem dX6_word_224 : decode cX6_word 224 = .ok (.if_icmp .ne 5, 3) := by decide +kernel
theorem dX6_word_227 : decode cX6_word 227 = .ok (.iconst 0, 1) := by decide +kernel
theorem dX6_word_228 : decode cX6_word 228 = .ok (.ireturn, 1) := by decide +kernel
theorem dX6_word_229 : decode cX6_word 229 = .ok (.iload 5, 2) := by decide +kernel
theorem dX6_word_231 : decode cX6_word 231 = .ok (.bipush 9, 2) := by decide +kernel
theorem dX6_word_233 : decode cX6_word 233 = .ok (.if_icmp .ne 18, 3) := by decide +kernel
theorem dX6_word_236 : decode cX6_word 236 = .ok (.iload_n 3, 1) := by decide +kernel
theorem dX6_word_237 : decode cX6_word 237 = .ok (.bipush 15, 2) := by decide +kernel
theorem dX6_word_239 : decode cX6_word 239 = .ok (.if_icmp .ne 12, 3) := by decide +kernel
theorem dX6_word_242 : decode cX6_word 242 = .ok (.iload 8, 2) := by decide +kernel
theorem dX6_word_244 : decode cX6_word 244 = .ok (.bipush 9, 2) := by decide +kernel
theorem dX6_word_246 : decode cX6_word 246 = .ok (.if_icmp .ne 5, 3) := by decide +kernel
theorem dX6_word_249 : decode cX6_word 249 = .ok (.iconst 0, 1) := by decide +kernel
theorem dX6_word_250 : decode cX6_word 250 = .ok (.ireturn, 1) := by decide +kernel
theorem dX6_word_251 : decode cX6_word 251 = .ok (.iload 6, 2) := by decide +kernel
theorem dX6_word_253 : decode cX6_word 253 = .ok (.bipush 9, 2) := by decide +kernel
theorem dX6_word_255 : decode cX6_word 255 = .ok (.if_icmp .ne 18, 3) := by decide +kernel
theorem dX6_word_258 : decode cX6_word 258 = .ok (.iload 5, 2) := by decide +kernel
theorem dX6_word_260 : decode cX6_word 260 = .ok (.bipush 15, 2) := by decide +kernel
theorem dX6_word_262 : decode cX6_word 262 = .ok (.if_icmp .ne 11, 3) := by decide +kernel
theorem dX6_word_265 : decode cX6_word 265 = .ok (.iload_n 3, 1) := by decide +kernel
theorem dX6_word_266 : decode cX6_word 266 = .ok (.bipush 9, 2) := by decide +kernel
theorem dX6_word_268 : decode cX6_word 268 = .ok (.if_icmp .ne 5, 3) := by decide +kernel
theorem dX6_word_271 : decode cX6_word 271 = .ok (.iconst 0, 1) := by decide +kernel
theorem dX6_word_272 : decode cX6_word 272 = .ok (.ireturn, 1) := by decide +kernel
theorem dX6_word_273 : decode cX6_word 273 = .ok (.iload 5, 2) := by decide +kernel
theorem dX6_word_275 : decode cX6_word 275 = .ok (.bipush 16, 2) := by decide +kernel
theorem dX6_word_277 : decode cX6_word 277 = .ok (.if_icmp .ne 9, 3) := by decide +kernel
theorem dX6_word_280 : decode cX6_word 280 = .ok (.iload_n 3, 1) := by decide +kernel
theorem dX6_word_281 : decode cX6_word 281 = .ok (.bipush 16, 2) := by decide +kernel
theorem dX6_word_283 : decode cX6_word 283 = .ok (.if_icmp .eq 33, 3) := by decide +kernel
theorem dX6_word_286 : decode cX6_word 286 = .ok (.aload_n 0, 1) := by decide +kernel
theorem dX6_word_287 : decode cX6_word 287 = .ok (.iload 5, 2) := by decide +kernel
theorem dX6_word_289 : decode cX6_word 289 = .ok (.invokevirtual 53, 3) := by decide +kernel
theorem dX6_word_292 : decode cX6_word 292 = .ok (.ifCond .eq 9, 3) := by decide +kernel
theorem dX6_word_295 : decode cX6_word 295 = .ok (.iload_n 3, 1) := by decide +kernel
theorem dX6_word_296 : decode cX6_word 296 = .ok (.bipush 16, 2) := by decide +kernel
theorem dX6_word_298 : decode cX6_word 298 = .ok (.if_icmp .eq 18, 3) := by decide +kernel
theorem dX6_word_301 : decode cX6_word 301 = .ok (.iload 5, 2) := by decide +kernel
theorem dX6_word_303 : decode cX6_word 303 = .ok (.bipush 16, 2) := by decide +kernel
theorem dX6_word_305 : decode cX6_word 305 = .ok (.if_icmp .ne 13, 3) := by decide +kernel
theorem dX6_word_308 : decode cX6_word 308 = .ok (.aload_n 0, 1) := by decide +kernel
theorem dX6_word_309 : decode cX6_word 309 = .ok (.iload_n 3, 1) := by decide +kernel
theorem dX6_word_310 : decode cX6_word 310 = .ok (.invokevirtual 53, 3) := by decide +kernel
theorem dX6_word_313 : decode cX6_word 313 = .ok (.ifCond .eq 5, 3) := by decide +kernel
theorem dX6_word_316 : decode cX6_word 316 = .ok (.iconst 0, 1) := by decide +kernel
theorem dX6_word_317 : decode cX6_word 317 = .ok (.ireturn, 1) := by decide +kernel
theorem dX6_word_318 : decode cX6_word 318 = .ok (.iload 6, 2) := by decide +kernel
theorem dX6_word_320 : decode cX6_word 320 = .ok (.bipush 16, 2) := by decide +kernel
theorem dX6_word_322 : decode cX6_word 322 = .ok (.if_icmp .ne 27, 3) := by decide +kernel
theorem dX6_word_325 : decode cX6_word 325 = .ok (.iload 5, 2) := by decide +kernel
theorem dX6_word_327 : decode cX6_word 327 = .ok (.bipush 12, 2) := by decide +kernel
theorem dX6_word_329 : decode cX6_word 329 = .ok (.if_icmp .eq 12, 3) := by decide +kernel
theorem dX6_word_332 : decode cX6_word 332 = .ok (.aload_n 0, 1) := by decide +kernel
theorem dX6_word_333 : decode cX6_word 333 = .ok (.iload 5, 2) := by decide +kernel
theorem dX6_word_335 : decode cX6_word 335 = .ok (.invokevirtual 56, 3) := by decide +kernel
theorem dX6_word_338 : decode cX6_word 338 = .ok (.ifCond .eq 11, 3) := by decide +kernel
theorem dX6_word_341 : decode cX6_word 341 = .ok (.iload_n 3, 1) := by decide +kernel
theorem dX6_word_342 : decode cX6_word 342 = .ok (.bipush 16, 2) := by decide +kernel
theorem dX6_word_344 : decode cX6_word 344 = .ok (.if_icmp .ne 5, 3) := by decide +kernel
theorem dX6_word_347 : decode cX6_word 347 = .ok (.iconst 0, 1) := by decide +kernel
theorem dX6_word_348 : decode cX6_word 348 = .ok (.ireturn, 1) := by decide +kernel
theorem dX6_word_349 : decode cX6_word 349 = .ok (.iload 5, 2) := by decide +kernel
theorem dX6_word_351 : decode cX6_word 351 = .ok (.bipush 16, 2) := by decide +kernel
theorem dX6_word_353 : decode cX6_word 353 = .ok (.if_icmp .ne 26, 3) := by decide +kernel
theorem dX6_word_356 : decode cX6_word 356 = .ok (.iload_n 3, 1) := by decide +kernel
theorem dX6_word_357 : decode cX6_word 357 = .ok (.bipush 12, 2) := by decide +kernel
theorem dX6_word_359 : decode cX6_word 359 = .ok (.if_icmp .eq 11, 3) := by decide +kernel
theorem dX6_word_362 : decode cX6_word 362 = .ok (.aload_n 0, 1) := by decide +kernel
theorem dX6_word_363 : decode cX6_word 363 = .ok (.iload_n 3, 1) := by decide +kernel
theorem dX6_word_364 : decode cX6_word 364 = .ok (.invokevirtual 56, 3) := by decide +kernel
theorem dX6_word_367 : decode cX6_word 367 = .ok (.ifCond .eq 12, 3) := by decide +kernel
theorem dX6_word_370 : decode cX6_word 370 = .ok (.iload 8, 2) := by decide +kernel
theorem dX6_word_372 : decode cX6_word 372 = .ok (.bipush 16, 2) := by decide +kernel
theorem dX6_word_374 : decode cX6_word 374 = .ok (.if_icmp .ne 5, 3) := by decide +kernel
theorem dX6_word_377 : decode cX6_word 377 = .ok (.iconst 0, 1) := by decide +kernel
theorem dX6_word_378 : decode cX6_word 378 = .ok (.ireturn, 1) := by decide +kernel
theorem dX6_word_379 : decode cX6_word 379 = .ok (.iload 5, 2) := by decide +kernel
theorem dX6_word_381 : decode cX6_word 381 = .ok (.bipush 8, 2) := by decide +kernel
theorem dX6_word_383 : decode cX6_word 383 = .ok (.if_icmp .ne 11, 3) := by decide +kernel
theorem dX6_word_386 : decode cX6_word 386 = .ok (.iload_n 3, 1) := by decide +kernel
theorem dX6_word_387 : decode cX6_word 387 = .ok (.bipush 8, 2) := by decide +kernel
theorem dX6_word_389 : decode cX6_word 389 = .ok (.if_icmp .ne 5, 3) := by decide +kernel
theorem dX6_word_392 : decode cX6_word 392 = .ok (.iconst 0, 1) := by decide +kernel
theorem dX6_word_393 : decode cX6_word 393 = .ok (.ireturn, 1) := by decide +kernel
theorem dX6_word_394 : decode cX6_word 394 = .ok (.aload_n 0, 1) := by decide +kernel
theorem dX6_word_395 : decode cX6_word 395 = .ok (.iload 5, 2) := by decide +kernel
theorem dX6_word_397 : decode cX6_word 397 = .ok (.invokevirtual 53, 3) := by decide +kernel
theorem dX6_word_400 : decode cX6_word 400 = .ok (.ifCond .ne 17, 3) := by decide +kernel
theorem dX6_word_403 : decode cX6_word 403 = .ok (.iload 5, 2) := by decide +kernel
theorem dX6_word_405 : decode cX6_word 405 = .ok (.bipush 16, 2) := by decide +kernel
theorem dX6_word_407 : decode cX6_word 407 = .ok (.if_icmp .eq 10, 3) := by decide +kernel
theorem dX6_word_410 : decode cX6_word 410 = .ok (.iload 5, 2) := by decide +kernel
theorem dX6_word_412 : decode cX6_word 412 = .ok (.bipush 8, 2) := by decide +kernel
theorem dX6_word_414 : decode cX6_word 414 = .ok (.if_icmp .ne 7, 3) := by decide +kernel
theorem dX6_word_417 : decode cX6_word 417 = .ok (.iconst 1, 1) := by decide +kernel
theorem dX6_word_418 : decode cX6_word 418 = .ok (.goto 4, 3) := by decide +kernel
theorem dX6_word_421 : decode cX6_word 421 = .ok (.iconst 0, 1) := by decide +kernel
theorem dX6_word_422 : decode cX6_word 422 = .ok (.istore 9, 2) := by decide +kernel
theorem dX6_word_424 : decode cX6_word 424 = .ok (.aload_n 0, 1) := by decide +kernel
theorem dX6_word_425 : decode cX6_word 425 = .ok (.iload_n 3, 1) := by decide +kernel
theorem dX6_word_426 : decode cX6_word 426 = .ok (.invokevirtual 53, 3) := by decide +kernel
theorem dX6_word_429 : decode cX6_word 429 = .ok (.ifCond .ne 15, 3) := by decide +kernel
theorem dX6_word_432 : decode cX6_word 432 = .ok (.iload_n 3, 1) := by decide +kernel
theorem dX6_word_433 : decode cX6_word 433 = .ok (.bipush 16, 2) := by decide +kernel
theorem dX6_word_435 : decode cX6_word 435 = .ok (.if_icmp .eq 9, 3) := by decide +kernel
theorem dX6_word_438 : decode cX6_word 438 = .ok (.iload_n 3, 1) := by decide +kernel
theorem dX6_word_439 : decode cX6_word 439 = .ok (.bipush 8, 2) := by decide +kernel
theorem dX6_word_441 : decode cX6_word 441 = .ok (.if_icmp .ne 7, 3) := by decide +kernel
theorem dX6_word_444 : decode cX6_word 444 = .ok (.iconst 1, 1) := by decide +kernel
theorem dX6_word_445 : decode cX6_word 445 = .ok (.goto 4, 3) := by decide +kernel
theorem dX6_word_448 : decode cX6_word 448 = .ok (.iconst 0, 1) := by decide +kernel
theorem dX6_word_449 : decode cX6_word 449 = .ok (.istore 10, 2) := by decide +kernel
theorem dX6_word_451 : decode cX6_word 451 = .ok (.iload 9, 2) := by decide +kernel
theorem dX6_word_453 : decode cX6_word 453 = .ok (.ifCond .ne 10, 3) := by decide +kernel
theorem dX6_word_456 : decode cX6_word 456 = .ok (.iload 5, 2) := by decide +kernel
theorem dX6_word_458 : decode cX6_word 458 = .ok (.bipush 17, 2) := by decide +kernel
theorem dX6_word_460 : decode cX6_word 460 = .ok (.if_icmp .ne 9, 3) := by decide +kernel
theorem dX6_word_463 : decode cX6_word 463 = .ok (.iload_n 3, 1) := by decide +kernel
theorem dX6_word_464 : decode cX6_word 464 = .ok (.bipush 17, 2) := by decide +kernel
theorem dX6_word_466 : decode cX6_word 466 = .ok (.if_icmp .eq 15, 3) := by decide +kernel
theorem dX6_word_469 : decode cX6_word 469 = .ok (.iload 5, 2) := by decide +kernel
theorem dX6_word_471 : decode cX6_word 471 = .ok (.bipush 17, 2) := by decide +kernel
theorem dX6_word_473 : decode cX6_word 473 = .ok (.if_icmp .ne 10, 3) := by decide +kernel
theorem dX6_word_476 : decode cX6_word 476 = .ok (.iload 10, 2) := by decide +kernel
theorem dX6_word_478 : decode cX6_word 478 = .ok (.ifCond .eq 5, 3) := by decide +kernel
theorem dX6_word_481 : decode cX6_word 481 = .ok (.iconst 0, 1) := by decide +kernel
theorem dX6_word_482 : decode cX6_word 482 = .ok (.ireturn, 1) := by decide +kernel
theorem dX6_word_483 : decode cX6_word 483 = .ok (.iload 5, 2) := by decide +kernel
theorem dX6_word_485 : decode cX6_word 485 = .ok (.bipush 6, 2) := by decide +kernel
theorem dX6_word_487 : decode cX6_word 487 = .ok (.if_icmp .ne 57, 3) := by decide +kernel
theorem dX6_word_490 : decode cX6_word 490 = .ok (.iload_n 3, 1) := by decide +kernel
theorem dX6_word_491 : decode cX6_word 491 = .ok (.bipush 6, 2) := by decide +kernel
theorem dX6_word_493 : decode cX6_word 493 = .ok (.if_icmp .ne 51, 3) := by decide +kernel
theorem dX6_word_496 : decode cX6_word 496 = .ok (.iconst 0, 1) := by decide +kernel
theorem dX6_word_497 : decode cX6_word 497 = .ok (.istore 11, 2) := by decide +kernel
theorem dX6_word_499 : decode cX6_word 499 = .ok (.iload 4, 2) := by decide +kernel
theorem dX6_word_501 : decode cX6_word 501 = .ok (.istore 12, 2) := by decide +kernel
theorem dX6_word_503 : decode cX6_word 503 = .ok (.iload 12, 2) := by decide +kernel
theorem dX6_word_505 : decode cX6_word 505 = .ok (.ifCond .lt 29, 3) := by decide +kernel
theorem dX6_word_508 : decode cX6_word 508 = .ok (.aload_n 0, 1) := by decide +kernel
theorem dX6_word_509 : decode cX6_word 509 = .ok (.getfield 13, 3) := by decide +kernel
theorem dX6_word_512 : decode cX6_word 512 = .ok (.iload 12, 2) := by decide +kernel
theorem dX6_word_514 : decode cX6_word 514 = .ok (.iaload, 1) := by decide +kernel
theorem dX6_word_515 : decode cX6_word 515 = .ok (.bipush 6, 2) := by decide +kernel
theorem dX6_word_517 : decode cX6_word 517 = .ok (.if_icmp .ne 17, 3) := by decide +kernel
theorem dX6_word_520 : decode cX6_word 520 = .ok (.iinc 11 1, 3) := by decide +kernel
theorem dX6_word_523 : decode cX6_word 523 = .ok (.aload_n 0, 1) := by decide +kernel
theorem dX6_word_524 : decode cX6_word 524 = .ok (.iload 12, 2) := by decide +kernel
theorem dX6_word_526 : decode cX6_word 526 = .ok (.invokevirtual 44, 3) := by decide +kernel
theorem dX6_word_529 : decode cX6_word 529 = .ok (.istore 12, 2) := by decide +kernel
theorem dX6_word_531 : decode cX6_word 531 = .ok (.goto (-28), 3) := by decide +kernel
theorem dX6_word_534 : decode cX6_word 534 = .ok (.iload 11, 2) := by decide +kernel
theorem dX6_word_536 : decode cX6_word 536 = .ok (.iconst 2, 1) := by decide +kernel
theorem dX6_word_537 : decode cX6_word 537 = .ok (.irem, 1) := by decide +kernel
theorem dX6_word_538 : decode cX6_word 538 = .ok (.iconst 1, 1) := by decide +kernel
theorem dX6_word_539 : decode cX6_word 539 = .ok (.if_icmp .ne 5, 3) := by decide +kernel
theorem dX6_word_542 : decode cX6_word 542 = .ok (.iconst 0, 1) := by decide +kernel
theorem dX6_word_543 : decode cX6_word 543 = .ok (.ireturn, 1) := by decide +kernel
theorem dX6_word_544 : decode cX6_word 544 = .ok (.iconst 1, 1) := by decide +kernel
theorem dX6_word_545 : decode cX6_word 545 = .ok (.ireturn, 1) := by decide +kernel
theorem dX6_cluster_0 : decode cX6_cluster 0 = .ok (.aload_n 0, 1) := by decide +kernel
theorem dX6_cluster_1 : decode cX6_cluster 1 = .ok (.getfield 7, 3) := by decide +kernel
theorem dX6_cluster_4 : decode cX6_cluster 4 = .ok (.iload_n 1, 1) := by decide +kernel
theorem dX6_cluster_5 : decode cX6_cluster 5 = .ok (.iconst 1, 1) := by decide +kernel
theorem dX6_cluster_6 : decode cX6_cluster 6 = .ok (.isub, 1) := by decide +kernel
theorem dX6_cluster_7 : decode cX6_cluster 7 = .ok (.iaload, 1) := by decide +kernel
theorem dX6_cluster_8 : decode cX6_cluster 8 = .ok (.istore_n 2, 1) := by decide +kernel
theorem dX6_cluster_9 : decode cX6_cluster 9 = .ok (.aload_n 0, 1) := by decide +kernel
theorem dX6_cluster_10 : decode cX6_cluster 10 = .ok (.getfield 7, 3) := by decide +kernel
theorem dX6_cluster_13 : decode cX6_cluster 13 = .ok (.iload_n 1, 1) := by decide +kernel
theorem dX6_cluster_14 : decode cX6_cluster 14 = .ok (.iaload, 1) := by decide +kernel
theorem dX6_cluster_15 : decode cX6_cluster 15 = .ok (.istore_n 3, 1) := by decide +kernel
theorem dX6_cluster_16 : decode cX6_cluster 16 = .ok (.iload_n 2, 1) := by decide +kernel
theorem dX6_cluster_17 : decode cX6_cluster 17 = .ok (.iconst 1, 1) := by decide +kernel
theorem dX6_cluster_18 : decode cX6_cluster 18 = .ok (.if_icmp .ne 10, 3) := by decide +kernel
theorem dX6_cluster_21 : decode cX6_cluster 21 = .ok (.iload_n 3, 1) := by decide +kernel
theorem dX6_cluster_22 : decode cX6_cluster 22 = .ok (.iconst 2, 1) := by decide +kernel
theorem dX6_cluster_23 : decode cX6_cluster 23 = .ok (.if_icmp .ne 5, 3) := by decide +kernel
theorem dX6_cluster_26 : decode cX6_cluster 26 = .ok (.iconst 0, 1) := by decide +kernel
theorem dX6_cluster_27 : decode cX6_cluster 27 = .ok (.ireturn, 1) := by decide +kernel
theorem dX6_cluster_28 : decode cX6_cluster 28 = .ok (.iload_n 2, 1) := by decide +kernel
theorem dX6_cluster_29 : decode cX6_cluster 29 = .ok (.iconst 1, 1) := by decide +kernel
theorem dX6_cluster_30 : decode cX6_cluster 30 = .ok (.if_icmp .lt 8, 3) := by decide +kernel
theorem dX6_cluster_33 : decode cX6_cluster 33 = .ok (.iload_n 2, 1) := by decide +kernel
theorem dX6_cluster_34 : decode cX6_cluster 34 = .ok (.iconst 3, 1) := by decide +kernel
theorem dX6_cluster_35 : decode cX6_cluster 35 = .ok (.if_icmp .le 13, 3) := by decide +kernel
theorem dX6_cluster_38 : decode cX6_cluster 38 = .ok (.iload_n 3, 1) := by decide +kernel
theorem dX6_cluster_39 : decode cX6_cluster 39 = .ok (.iconst 1, 1) := by decide +kernel
theorem dX6_cluster_40 : decode cX6_cluster 40 = .ok (.if_icmp .lt 10, 3) := by decide +kernel
theorem dX6_cluster_43 : decode cX6_cluster 43 = .ok (.iload_n 3, 1) := by decide +kernel
theorem dX6_cluster_44 : decode cX6_cluster 44 = .ok (.iconst 3, 1) := by decide +kernel
theorem dX6_cluster_45 : decode cX6_cluster 45 = .ok (.if_icmp .gt 5, 3) := by decide +kernel
theorem dX6_cluster_48 : decode cX6_cluster 48 = .ok (.iconst 1, 1) := by decide +kernel
theorem dX6_cluster_49 : decode cX6_cluster 49 = .ok (.ireturn, 1) := by decide +kernel
theorem dX6_cluster_50 : decode cX6_cluster 50 = .ok (.iload_n 2, 1) := by decide +kernel
theorem dX6_cluster_51 : decode cX6_cluster 51 = .ok (.bipush 9, 2) := by decide +kernel
theorem dX6_cluster_53 : decode cX6_cluster 53 = .ok (.if_icmp .ne 29, 3) := by decide +kernel
theorem dX6_cluster_56 : decode cX6_cluster 56 = .ok (.iload_n 3, 1) := by decide +kernel
theorem dX6_cluster_57 : decode cX6_cluster 57 = .ok (.bipush 9, 2) := by decide +kernel
theorem dX6_cluster_59 : decode cX6_cluster 59 = .ok (.if_icmp .eq 21, 3) := by decide +kernel
theorem dX6_cluster_62 : decode cX6_cluster 62 = .ok (.iload_n 3, 1) := by decide +kernel
theorem dX6_cluster_63 : decode cX6_cluster 63 = .ok (.bipush 10, 2) := by decide +kernel
theorem dX6_cluster_65 : decode cX6_cluster 65 = .ok (.if_icmp .eq 15, 3) := by decide +kernel
theorem dX6_cluster_68 : decode cX6_cluster 68 = .ok (.iload_n 3, 1) := by decide +kernel
theorem dX6_cluster_69 : decode cX6_cluster 69 = .ok (.bipush 12, 2) := by decide +kernel
theorem dX6_cluster_71 : decode cX6_cluster 71 = .ok (.if_icmp .eq 9, 3) := by decide +kernel
theorem dX6_cluster_74 : decode cX6_cluster 74 = .ok (.iload_n 3, 1) := by decide +kernel
theorem dX6_cluster_75 : decode cX6_cluster 75 = .ok (.bipush 13, 2) := by decide +kernel
theorem dX6_cluster_77 : decode cX6_cluster 77 = .ok (.if_icmp .ne 5, 3) := by decide +kernel
theorem dX6_cluster_80 : decode cX6_cluster 80 = .ok (.iconst 0, 1) := by decide +kernel
theorem dX6_cluster_81 : decode cX6_cluster 81 = .ok (.ireturn, 1) := by decide +kernel
theorem dX6_cluster_82 : decode cX6_cluster 82 = .ok (.iload_n 2, 1) := by decide +kernel
theorem dX6_cluster_83 : decode cX6_cluster 83 = .ok (.bipush 12, 2) := by decide +kernel
theorem dX6_cluster_85 : decode cX6_cluster 85 = .ok (.if_icmp .eq 9, 3) := by decide +kernel
theorem dX6_cluster_88 : decode cX6_cluster 88 = .ok (.iload_n 2, 1) := by decide +kernel
theorem dX6_cluster_89 : decode cX6_cluster 89 = .ok (.bipush 10, 2) := by decide +kernel
theorem dX6_cluster_91 : decode cX6_cluster 91 = .ok (.if_icmp .ne 17, 3) := by decide +kernel
theorem dX6_cluster_94 : decode cX6_cluster 94 = .ok (.iload_n 3, 1) := by decide +kernel
theorem dX6_cluster_95 : decode cX6_cluster 95 = .ok (.bipush 10, 2) := by decide +kernel
theorem dX6_cluster_97 : decode cX6_cluster 97 = .ok (.if_icmp .eq 9, 3) := by decide +kernel
theorem dX6_cluster_100 : decode cX6_cluster 100 = .ok (.iload_n 3, 1) := by decide +kernel
theorem dX6_cluster_101 : decode cX6_cluster 101 = .ok (.bipush 11, 2) := by decide +kernel
theorem dX6_cluster_103 : decode cX6_cluster 103 = .ok (.if_icmp .ne 5, 3) := by decide +kernel
theorem dX6_cluster_106 : decode cX6_cluster 106 = .ok (.iconst 0, 1) := by decide +kernel
theorem dX6_cluster_107 : decode cX6_cluster 107 = .ok (.ireturn, 1) := by decide +kernel
theorem dX6_cluster_108 : decode cX6_cluster 108 = .ok (.iload_n 2, 1) := by decide +kernel
theorem dX6_cluster_109 : decode cX6_cluster 109 = .ok (.bipush 13, 2) := by decide +kernel
theorem dX6_cluster_111 : decode cX6_cluster 111 = .ok (.if_icmp .eq 9, 3) := by decide +kernel
theorem dX6_cluster_114 : decode cX6_cluster 114 = .ok (.iload_n 2, 1) := by decide +kernel
theorem dX6_cluster_115 : decode cX6_cluster 115 = .ok (.bipush 11, 2) := by decide +kernel
theorem dX6_cluster_117 : decode cX6_cluster 117 = .ok (.if_icmp .ne 11, 3) := by decide +kernel
theorem dX6_cluster_120 : decode cX6_cluster 120 = .ok (.iload_n 3, 1) := by decide +kernel
theorem dX6_cluster_121 : decode cX6_cluster 121 = .ok (.bipush 11, 2) := by decide +kernel
theorem dX6_cluster_123 : decode cX6_cluster 123 = .ok (.if_icmp .ne 5, 3) := by decide +kernel
theorem dX6_cluster_126 : decode cX6_cluster 126 = .ok (.iconst 0, 1) := by decide +kernel
theorem dX6_cluster_127 : decode cX6_cluster 127 = .ok (.ireturn, 1) := by decide +kernel
theorem dX6_cluster_128 : decode cX6_cluster 128 = .ok (.iload_n 3, 1) := by decide +kernel
theorem dX6_cluster_129 : decode cX6_cluster 129 = .ok (.iconst 4, 1) := by decide +kernel
theorem dX6_cluster_130 : decode cX6_cluster 130 = .ok (.if_icmp .eq 20, 3) := by decide +kernel
theorem dX6_cluster_133 : decode cX6_cluster 133 = .ok (.iload_n 3, 1) := by decide +kernel
theorem dX6_cluster_134 : decode cX6_cluster 134 = .ok (.iconst 5, 1) := by decide +kernel
theorem dX6_cluster_135 : decode cX6_cluster 135 = .ok (.if_icmp .eq 15, 3) := by decide +kernel
theorem dX6_cluster_138 : decode cX6_cluster 138 = .ok (.iload_n 3, 1) := by decide +kernel
theorem dX6_cluster_139 : decode cX6_cluster 139 = .ok (.bipush 8, 2) := by decide +kernel
theorem dX6_cluster_141 : decode cX6_cluster 141 = .ok (.if_icmp .eq 9, 3) := by decide +kernel
theorem dX6_cluster_144 : decode cX6_cluster 144 = .ok (.iload_n 2, 1) := by decide +kernel
theorem dX6_cluster_145 : decode cX6_cluster 145 = .ok (.bipush 7, 2) := by decide +kernel
theorem dX6_cluster_147 : decode cX6_cluster 147 = .ok (.if_icmp .ne 5, 3) := by decide +kernel
theorem dX6_cluster_150 : decode cX6_cluster 150 = .ok (.iconst 0, 1) := by decide +kernel
theorem dX6_cluster_151 : decode cX6_cluster 151 = .ok (.ireturn, 1) := by decide +kernel
theorem dX6_cluster_152 : decode cX6_cluster 152 = .ok (.iload_n 2, 1) := by decide +kernel
theorem dX6_cluster_153 : decode cX6_cluster 153 = .ok (.iconst 5, 1) := by decide +kernel
theorem dX6_cluster_154 : decode cX6_cluster 154 = .ok (.if_icmp .ne 66, 3) := by decide +kernel
theorem dX6_cluster_157 : decode cX6_cluster 157 = .ok (.aload_n 0, 1) := by decide +kernel
theorem dX6_cluster_158 : decode cX6_cluster 158 = .ok (.getfield 16, 3) := by decide +kernel
theorem dX6_cluster_161 : decode cX6_cluster 161 = .ok (.iload_n 1, 1) := by decide +kernel
theorem dX6_cluster_162 : decode cX6_cluster 162 = .ok (.baload, 1) := by decide +kernel
theorem dX6_cluster_163 : decode cX6_cluster 163 = .ok (.ifCond .eq 57, 3) := by decide +kernel
theorem dX6_cluster_166 : decode cX6_cluster 166 = .ok (.iload_n 1, 1) := by decide +kernel
theorem dX6_cluster_167 : decode cX6_cluster 167 = .ok (.iconst 2, 1) := by decide +kernel
theorem dX6_cluster_168 : decode cX6_cluster 168 = .ok (.isub, 1) := by decide +kernel
theorem dX6_cluster_169 : decode cX6_cluster 169 = .ok (.istore 4, 2) := by decide +kernel
theorem dX6_cluster_171 : decode cX6_cluster 171 = .ok (.iload 4, 2) := by decide +kernel
theorem dX6_cluster_173 : decode cX6_cluster 173 = .ok (.ifCond .lt 30, 3) := by decide +kernel
theorem dX6_cluster_176 : decode cX6_cluster 176 = .ok (.aload_n 0, 1) := by decide +kernel
theorem dX6_cluster_177 : decode cX6_cluster 177 = .ok (.getfield 16, 3) := by decide +kernel
theorem dX6_cluster_180 : decode cX6_cluster 180 = .ok (.iload 4, 2) := by decide +kernel
theorem dX6_cluster_182 : decode cX6_cluster 182 = .ok (.baload, 1) := by decide +kernel
theorem dX6_cluster_183 : decode cX6_cluster 183 = .ok (.ifCond .ne 20, 3) := by decide +kernel
theorem dX6_cluster_186 : decode cX6_cluster 186 = .ok (.aload_n 0, 1) := by decide +kernel
theorem dX6_cluster_187 : decode cX6_cluster 187 = .ok (.getfield 7, 3) := by decide +kernel
theorem dX6_cluster_190 : decode cX6_cluster 190 = .ok (.iload 4, 2) := by decide +kernel
theorem dX6_cluster_192 : decode cX6_cluster 192 = .ok (.iaload, 1) := by decide +kernel
theorem dX6_cluster_193 : decode cX6_cluster 193 = .ok (.iconst 4, 1) := by decide +kernel
theorem dX6_cluster_194 : decode cX6_cluster 194 = .ok (.if_icmp .ne 9, 3) := by decide +kernel
theorem dX6_cluster_197 : decode cX6_cluster 197 = .ok (.iinc 4 (-1), 3) := by decide +kernel
theorem dX6_cluster_200 : decode cX6_cluster 200 = .ok (.goto (-29), 3) := by decide +kernel
theorem dX6_cluster_203 : decode cX6_cluster 203 = .ok (.iload 4, 2) := by decide +kernel
theorem dX6_cluster_205 : decode cX6_cluster 205 = .ok (.ifCond .lt 15, 3) := by decide +kernel
theorem dX6_cluster_208 : decode cX6_cluster 208 = .ok (.aload_n 0, 1) := by decide +kernel
theorem dX6_cluster_209 : decode cX6_cluster 209 = .ok (.getfield 16, 3) := by decide +kernel
theorem dX6_cluster_212 : decode cX6_cluster 212 = .ok (.iload 4, 2) := by decide +kernel
theorem dX6_cluster_214 : decode cX6_cluster 214 = .ok (.baload, 1) := by decide +kernel
theorem dX6_cluster_215 : decode cX6_cluster 215 = .ok (.ifCond .eq 5, 3) := by decide +kernel
theorem dX6_cluster_218 : decode cX6_cluster 218 = .ok (.iconst 0, 1) := by decide +kernel
theorem dX6_cluster_219 : decode cX6_cluster 219 = .ok (.ireturn, 1) := by decide +kernel
theorem dX6_cluster_220 : decode cX6_cluster 220 = .ok (.iload_n 2, 1) := by decide +kernel
theorem dX6_cluster_221 : decode cX6_cluster 221 = .ok (.bipush 6, 2) := by decide +kernel
theorem dX6_cluster_223 : decode cX6_cluster 223 = .ok (.if_icmp .ne 53, 3) := by decide +kernel
theorem dX6_cluster_226 : decode cX6_cluster 226 = .ok (.iload_n 3, 1) := by decide +kernel
theorem dX6_cluster_227 : decode cX6_cluster 227 = .ok (.bipush 6, 2) := by decide +kernel
theorem dX6_cluster_229 : decode cX6_cluster 229 = .ok (.if_icmp .ne 47, 3) := by decide +kernel
theorem dX6_cluster_232 : decode cX6_cluster 232 = .ok (.iconst 0, 1) := by decide +kernel
theorem dX6_cluster_233 : decode cX6_cluster 233 = .ok (.istore 4, 2) := by decide +kernel
theorem dX6_cluster_235 : decode cX6_cluster 235 = .ok (.iload_n 1, 1) := by decide +kernel
theorem dX6_cluster_236 : decode cX6_cluster 236 = .ok (.iconst 1, 1) := by decide +kernel
theorem dX6_cluster_237 : decode cX6_cluster 237 = .ok (.isub, 1) := by decide +kernel
theorem dX6_cluster_238 : decode cX6_cluster 238 = .ok (.istore 5, 2) := by decide +kernel
theorem dX6_cluster_240 : decode cX6_cluster 240 = .ok (.iload 5, 2) := by decide +kernel
theorem dX6_cluster_242 : decode cX6_cluster 242 = .ok (.ifCond .lt 24, 3) := by decide +kernel
theorem dX6_cluster_245 : decode cX6_cluster 245 = .ok (.aload_n 0, 1) := by decide +kernel
theorem dX6_cluster_246 : decode cX6_cluster 246 = .ok (.getfield 7, 3) := by decide +kernel
theorem dX6_cluster_249 : decode cX6_cluster 249 = .ok (.iload 5, 2) := by decide +kernel
theorem dX6_cluster_251 : decode cX6_cluster 251 = .ok (.iaload, 1) := by decide +kernel
theorem dX6_cluster_252 : decode cX6_cluster 252 = .ok (.bipush 6, 2) := by decide +kernel
theorem dX6_cluster_254 : decode cX6_cluster 254 = .ok (.if_icmp .ne 12, 3) := by decide +kernel
theorem dX6_cluster_257 : decode cX6_cluster 257 = .ok (.iinc 4 1, 3) := by decide +kernel
theorem dX6_cluster_260 : decode cX6_cluster 260 = .ok (.iinc 5 (-1), 3) := by decide +kernel
theorem dX6_cluster_263 : decode cX6_cluster 263 = .ok (.goto (-23), 3) := by decide +kernel
theorem dX6_cluster_266 : decode cX6_cluster 266 = .ok (.iload 4, 2) := by decide +kernel
theorem dX6_cluster_268 : decode cX6_cluster 268 = .ok (.iconst 2, 1) := by decide +kernel
theorem dX6_cluster_269 : decode cX6_cluster 269 = .ok (.irem, 1) := by decide +kernel
theorem dX6_cluster_270 : decode cX6_cluster 270 = .ok (.iconst 1, 1) := by decide +kernel
theorem dX6_cluster_271 : decode cX6_cluster 271 = .ok (.if_icmp .ne 5, 3) := by decide +kernel
theorem dX6_cluster_274 : decode cX6_cluster 274 = .ok (.iconst 0, 1) := by decide +kernel
theorem dX6_cluster_275 : decode cX6_cluster 275 = .ok (.ireturn, 1) := by decide +kernel
theorem dX6_cluster_276 : decode cX6_cluster 276 = .ok (.iconst 1, 1) := by decide +kernel
theorem dX6_cluster_277 : decode cX6_cluster 277 = .ok (.ireturn, 1) := by decide +kernel
end
section
/-! The pure part: what a boundary is, as both sides reckon it, over plain functions. -/
def ef_b (b : Bool) : Int32 := if b then 1 else 0
theorem ef_bt : ef_b true = 1 := rfl
theorem ef_bf : ef_b false = 0 := rfl
theorem ef_b0 {b : Bool} : ef_b b = 0 ↔ b = false := by cases b <;> decide
theorem ef_b1 {b : Bool} : ¬ ef_b b = 0 ↔ b = true := by cases b <;> decide
theorem ef_nar (b : Bool) : narrow .boolean (.int (ef_b b)) = .int (ef_b b) := by cases b <;> rfl
theorem ef_fit (b : Bool) : fits .boolean (.int (ef_b b)) = true := by cases b <;> rfl
theorem ef_vnar (b : Bool) : vp_nar .boolean (ef_b b) = ef_b b := by cases b <;> rfl
def ef_up (P : Nat → Bool) (k : Nat) (b : Bool) : Nat → Bool := fun j => if j = k then b else P j
theorem ef_upd (P : Nat → Bool) (k : Nat) (b : Bool) : upd (fun j => ef_b (P j)) k (vp_nar .boolean (ef_b b)) = fun j => ef_b (ef_up P k b j) := by
  funext j
  by_cases h : j = k
  · subst h
    simp [upd, ef_up, ef_vnar]
  · simp [upd, ef_up, h]
theorem ef_up_s {P : Nat → Bool} {k : Nat} {b : Bool} : ef_up P k b k = b := by simp [ef_up]
theorem ef_up_n {P : Nat → Bool} {k j : Nat} {b : Bool} (h : j ≠ k) : ef_up P k b j = P j := by simp [ef_up, h]
-- graphemes
def ew_le (x : Int32) : Bool := x == 1 || x == 2 || x == 3
def eg_syl (b h : Int32) : Bool :=
  if b = 9 then (h == 9 || h == 10 || h == 12 || h == 13)
  else if b = 10 ∨ b = 12 then (h == 10 || h == 11)
  else if b = 11 ∨ b = 13 then h == 11 else false
def eg_part (bf : Int32) (od aj : Bool) (h : Int32) (pi : Bool) : Bool :=
  if bf == 1 && h == 2 then false
  else if ew_le bf || ew_le h then true
  else !(eg_syl bf h || h == 4 || h == 5 || h == 8 || bf == 7 || (aj && pi) || (od && h == 6))
def eg_bf (g : Nat → Int32) : Nat → Int32
  | 0 => -1
  | k + 1 => g k
def eg_od (g : Nat → Int32) : Nat → Bool
  | 0 => false
  | k + 1 => g k == 6 && !eg_od g k
def eg_ap (g : Nat → Int32) (P : Nat → Bool) : Nat → Bool
  | 0 => false
  | k + 1 => P k || (eg_ap g P k && g k == 4)
def eg_aj (g : Nat → Int32) (P : Nat → Bool) : Nat → Bool
  | 0 => false
  | k + 1 => eg_ap g P k && g k == 5
-- words
def ew_at (x : Int32) : Bool := x == 4 || x == 7 || x == 5
def ew_let (x : Int32) : Bool := x == 10 || x == 9
def ew_mb (x : Int32) : Bool := x == 13 || x == 14
def ew_ml (x : Int32) : Bool := x == 11 || ew_mb x
def ew_mn (x : Int32) : Bool := x == 12 || ew_mb x
def ew_rp (x : Int32) : Bool := ew_let x || x == 16 || x == 8
def ew_jl (l k h a : Int32) : Bool := if ew_let l then (ew_let h || (ew_ml h && ew_let a)) else (ew_let k && ew_ml l && ew_let h)
def ew_jh (l k h a : Int32) : Bool := if l = 9 then (h == 14 || (h == 15 && a == 9)) else (k == 9 && l == 15 && h == 9)
def ew_jn (l k h a : Int32) : Bool := if l = 16 then (h == 16 || ew_let h || (ew_mn h && a == 16)) else if ew_let l then h == 16 else (k == 16 && ew_mn l && h == 16)
def ew_jr (l h : Int32) : Bool := if h = 17 then (ew_rp l || l == 17) else if l = 17 then ew_rp h else (l == 8 && h == 8)
def ew_part (bf l k : Int32) (od : Bool) (h a : Int32) (pi : Bool) : Bool :=
  if bf == 1 && h == 2 then false
  else if ew_le bf || ew_le h then true
  else if (bf == 5 && pi) || (bf == 18 && h == 18) || ew_at h then false
  else !(ew_jl l k h a || ew_jh l k h a || ew_jn l k h a || ew_jr l h || (od && h == 6))
/-- place k counts -/
def ew_ct (w : Nat → Int32) (k : Nat) : Bool := !ew_at (w k) || eg_bf w k == -1 || ew_le (eg_bf w k)
def ew_l (w : Nat → Int32) : Nat → Int32
  | 0 => -1
  | k + 1 => if ew_ct w k then w k else ew_l w k
def ew_k (w : Nat → Int32) : Nat → Int32
  | 0 => -1
  | k + 1 => if ew_ct w k then ew_l w k else ew_k w k
def ew_od (w : Nat → Int32) : Nat → Bool
  | 0 => false
  | k + 1 => if ew_ct w k then (w k == 6 && !ew_od w k) else ew_od w k
/-- the class of the first place that counts, of r places from k on -/
def ew_ahF (w : Nat → Int32) : Nat → Nat → Int32
  | 0, _ => -1
  | r + 1, k => if ew_at (w k) then ew_ahF w r (k + 1) else w k
def ew_ah (w : Nat → Int32) (n i : Nat) : Int32 := ew_ahF w (n - (i + 1)) (i + 1)
-- boundaries
def eb_g (g : Nat → Int32) (P : Nat → Bool) (n i : Nat) : Bool :=
  if n = 0 then false else if i = 0 ∨ i = n then true else eg_part (eg_bf g i) (eg_od g i) (eg_aj g P i) (g i) (P i)
def eb_w (w : Nat → Int32) (P : Nat → Bool) (n i : Nat) : Bool :=
  if n = 0 then false else if i = 0 ∨ i = n then true else ew_part (eg_bf w i) (ew_l w i) (ew_k w i) (ew_od w i) (w i) (ew_ah w n i) (P i)
def eb_k (kd : Int32) (g w : Nat → Int32) (P : Nat → Bool) (n : Nat) : Nat → Bool := if kd = 0 then eb_g g P n else eb_w w P n
-- what is asked of a row of marks
def es_fb (M : Nat → Bool) : Nat → Nat → Int32
  | 0, _ => -1
  | r + 1, k => if M k then nI k else es_fb M r (k + 1)
def es_lb (M : Nat → Bool) : Nat → Int32
  | 0 => -1
  | k + 1 => if M k then nI k else es_lb M k
def es_cu (M : Nat → Bool) : Nat → Nat
  | 0 => 0
  | k + 1 => es_cu M k + (if M k then 1 else 0)
def es_mx (M : Nat → Bool) : Nat → Int32
  | 0 => 1
  | k + 1 => if M k then 31 * es_mx M k + nI k else es_mx M k
theorem es_fb_c {M N : Nat → Bool} {n : Nat} (h : ∀ j, j ≤ n → M j = N j) : ∀ r k : Nat, k + r ≤ n + 1 → es_fb M r k = es_fb N r k
  | 0, _, _ => rfl
  | r + 1, k, hk => by
    simp only [es_fb]
    rw [h k (by omega), es_fb_c h r (k + 1) (by omega)]
theorem es_lb_c {M N : Nat → Bool} {n : Nat} (h : ∀ j, j ≤ n → M j = N j) : ∀ k : Nat, k ≤ n + 1 → es_lb M k = es_lb N k
  | 0, _ => rfl
  | k + 1, hk => by
    simp only [es_lb]
    rw [h k (by omega), es_lb_c h k (by omega)]
theorem es_cu_c {M N : Nat → Bool} {n : Nat} (h : ∀ j, j ≤ n → M j = N j) : ∀ k : Nat, k ≤ n + 1 → es_cu M k = es_cu N k
  | 0, _ => rfl
  | k + 1, hk => by
    simp only [es_cu]
    rw [h k (by omega), es_cu_c h k (by omega)]
theorem es_mx_c {M N : Nat → Bool} {n : Nat} (h : ∀ j, j ≤ n → M j = N j) : ∀ k : Nat, k ≤ n + 1 → es_mx M k = es_mx N k
  | 0, _ => rfl
  | k + 1, hk => by
    simp only [es_mx]
    rw [h k (by omega), es_mx_c h k (by omega)]
theorem es_cu_le (M : Nat → Bool) : ∀ k : Nat, es_cu M k ≤ k
  | 0 => Nat.le_refl _
  | k + 1 => by
    have := es_cu_le M k
    simp only [es_cu]
    split <;> omega
-- small numbers
theorem ei_13 {x : Int32} : (1 ≤ x ∧ x ≤ 3) ↔ (x = 1 ∨ x = 2 ∨ x = 3) := by
  constructor
  · rintro ⟨h1, h2⟩
    rw [Int32.le_iff_toInt_le] at h1 h2
    have e1 : (1 : Int32).toInt = 1 := by decide
    have e2 : (2 : Int32).toInt = 2 := by decide
    have e3 : (3 : Int32).toInt = 3 := by decide
    rw [e1] at h1
    rw [e3] at h2
    rcases (show x.toInt = 1 ∨ x.toInt = 2 ∨ x.toInt = 3 by omega) with h | h | h
    · exact Or.inl (Int32.toInt_inj.mp (h.trans e1.symm))
    · exact Or.inr (Or.inl (Int32.toInt_inj.mp (h.trans e2.symm)))
    · exact Or.inr (Or.inr (Int32.toInt_inj.mp (h.trans e3.symm)))
  · rintro (rfl | rfl | rfl) <;> decide
theorem ew_le_t {x : Int32} (h1 : 1 ≤ x) (h2 : x ≤ 3) : ew_le x = true := by
  rcases ei_13.mp ⟨h1, h2⟩ with rfl | rfl | rfl <;> decide
theorem ew_le_f1 {x : Int32} (h1 : ¬ 1 ≤ x) : ew_le x = false := by
  cases h : ew_le x with
  | false => rfl
  | true =>
    simp only [ew_le, Bool.or_eq_true, beq_iff_eq] at h
    exact absurd (ei_13.mpr (by rcases h with (h | h) | h <;> simp [h])).1 h1
theorem ew_le_f2 {x : Int32} (h1 : ¬ x ≤ 3) : ew_le x = false := by
  cases h : ew_le x with
  | false => rfl
  | true =>
    simp only [ew_le, Bool.or_eq_true, beq_iff_eq] at h
    exact absurd (ei_13.mpr (by rcases h with (h | h) | h <;> simp [h])).2 h1
-- the words' machine against the reference's way back
def em_ct (w : Nat → Int32) : Nat → Nat
  | 0 => 0
  | k + 1 => if ew_at (w (k + 1)) && !ew_le (w k) then em_ct w k else k + 1
theorem em_ct_le (w : Nat → Int32) : ∀ k : Nat, em_ct w k ≤ k
  | 0 => Nat.le_refl _
  | k + 1 => by
    have := em_ct_le w k
    simp only [em_ct]
    split <;> omega
theorem ew_ct_0 (w : Nat → Int32) : ew_ct w 0 = true := by simp [ew_ct, eg_bf]
theorem ew_ct_s {w : Nat → Int32} (hw : ∀ j, w j ≠ -1) (k : Nat) : ew_ct w (k + 1) = !(ew_at (w (k + 1)) && !ew_le (w k)) := by
  have h : (w k == -1) = false := by simp [hw k]
  simp only [ew_ct, eg_bf, h, Bool.or_false]
  cases ew_at (w (k + 1)) <;> cases ew_le (w k) <;> rfl
theorem em_ct_s {w : Nat → Int32} (hw : ∀ j, w j ≠ -1) (k : Nat) : em_ct w (k + 1) = if ew_ct w (k + 1) then k + 1 else em_ct w k := by
  simp only [em_ct, ew_ct_s hw k]
  cases (ew_at (w (k + 1)) && !ew_le (w k)) <;> rfl
theorem em_l {w : Nat → Int32} (hw : ∀ j, w j ≠ -1) : ∀ k : Nat, ew_l w (k + 1) = w (em_ct w k)
  | 0 => by simp [ew_l, ew_ct_0, em_ct]
  | k + 1 => by
    have ih := em_l hw k
    rw [em_ct_s hw k]
    rw [show ew_l w (k + 1 + 1) = if ew_ct w (k + 1) then w (k + 1) else ew_l w (k + 1) from rfl, ih]
    cases ew_ct w (k + 1) <;> rfl
/-- the class of the place that counts ahead of place j, if j counts -/
def em_pk (w : Nat → Int32) (j : Nat) : Int32 := if j = 0 then -1 else w (em_ct w (j - 1))
theorem em_k {w : Nat → Int32} (hw : ∀ j, w j ≠ -1) : ∀ k : Nat, ew_k w (k + 1) = em_pk w (em_ct w k)
  | 0 => by simp [ew_k, ew_ct_0, em_ct, em_pk, ew_l]
  | k + 1 => by
    have ih := em_k hw k
    rw [em_ct_s hw k]
    rw [show ew_k w (k + 1 + 1) = if ew_ct w (k + 1) then ew_l w (k + 1) else ew_k w (k + 1) from rfl, ih, em_l hw k]
    cases ew_ct w (k + 1) with
    | false => rfl
    | true => simp [em_pk]
theorem em_od {w : Nat → Int32} (hw : ∀ j, w j ≠ -1) : ∀ k : Nat, ew_od w (k + 1) = ew_od w (em_ct w k + 1)
  | 0 => rfl
  | k + 1 => by
    have ih := em_od hw k
    rw [em_ct_s hw k]
    cases h : ew_ct w (k + 1) with
    | true => rfl
    | false =>
      rw [show ew_od w (k + 1 + 1) = if ew_ct w (k + 1) then (w (k + 1) == 6 && !ew_od w (k + 1)) else ew_od w (k + 1) from rfl, h]
      exact ih
theorem em_cc {w : Nat → Int32} (hw : ∀ j, w j ≠ -1) : ∀ k : Nat, ew_ct w (em_ct w k) = true
  | 0 => by simp [em_ct, ew_ct_0]
  | k + 1 => by
    rw [em_ct_s hw k]
    cases h : ew_ct w (k + 1) with
    | true => simpa using h
    | false => simpa using em_cc hw k
/-- at a place that counts: the run of indicators -/
theorem em_od_c {w : Nat → Int32} {k : Nat} (hc : ew_ct w k = true) : ew_od w (k + 1) = (w k == 6 && !ew_od w k) := by
  rw [show ew_od w (k + 1) = if ew_ct w k then (w k == 6 && !ew_od w k) else ew_od w k from rfl, hc]
  rfl
theorem em_od6 {w : Nat → Int32} (hw : ∀ j, w j ≠ -1) {k : Nat} (h : ew_od w (k + 1) = true) : ew_l w (k + 1) = 6 := by
  rw [em_od hw k, em_od_c (em_cc hw k)] at h
  simp only [Bool.and_eq_true, beq_iff_eq] at h
  rw [em_l hw k]
  exact h.1
theorem eg_od6 {g : Nat → Int32} {k : Nat} (h : eg_od g (k + 1) = true) : g k = 6 := by
  simp only [eg_od, Bool.and_eq_true, beq_iff_eq] at h
  exact h.1
/-- the reference's way ahead -/
def em_af (w : Nat → Int32) : Nat → Nat → Nat
  | 0, k => k
  | r + 1, k => if ew_at (w k) then em_af w r (k + 1) else k
theorem em_af_le (w : Nat → Int32) : ∀ r k : Nat, k ≤ em_af w r k ∧ em_af w r k ≤ k + r
  | 0, k => by simp [em_af]
  | r + 1, k => by
    have := em_af_le w r (k + 1)
    simp only [em_af]
    split <;> omega
theorem em_ah (w : Nat → Int32) : ∀ r k : Nat, ew_ahF w r k = if em_af w r k < k + r then w (em_af w r k) else -1
  | 0, k => by simp [ew_ahF, em_af]
  | r + 1, k => by
    have ih := em_ah w r (k + 1)
    simp only [ew_ahF, em_af]
    by_cases h : ew_at (w k) = true
    · simp only [h, if_true]
      rw [ih]
      simp only [show k + 1 + r = k + (r + 1) by omega]
    · have h2 : k < k + (r + 1) := by omega
      simp [h, h2]
/-- the reference's list of rules for a word's boundary -/
def em_wd (raw b a aa bb : Int32) (pi od : Bool) : Bool :=
  if raw == 1 && b == 2 then false else if ew_le raw || ew_le b then true
  else if raw == 5 && pi then false
  else if (raw == 18 && b == 18) || ew_at b then false
  else if ew_let a && ew_let b then false
  else if ew_let a && (b == 11 || ew_mb b) && ew_let bb then false
  else if ew_let aa && (a == 11 || ew_mb a) && ew_let b then false
  else if a == 9 && b == 14 then false
  else if a == 9 && b == 15 && bb == 9 then false
  else if aa == 9 && a == 15 && b == 9 then false
  else if (a == 16 && b == 16) || (ew_let a && b == 16) || (a == 16 && ew_let b) then false
  else if aa == 16 && (a == 12 || ew_mb a) && b == 16 then false
  else if a == 16 && (b == 12 || ew_mb b) && bb == 16 then false
  else if a == 8 && b == 8 then false
  else if ((ew_rp a || a == 17) && b == 17) || (a == 17 && ew_rp b) then false
  else if a == 6 && b == 6 && od then false
  else true
end
section
/-! The two sides' rules are one. -/
theorem ei_ff (c x : Bool) : (if c = true then false else x) = (!c && x) := by cases c <;> rfl
theorem ei_ft (c x : Bool) : (if c = true then true else x) = (c || x) := by cases c <;> rfl
theorem ei_n {x k : Int32} (h : ¬ x = k) : (x == k) = false := by simp [h]
theorem ei_let {x : Int32} (h : ew_let x = true) : x = 10 ∨ x = 9 := by simpa [ew_let] using h
theorem ei_let_ml {x : Int32} (h : ew_let x = true) : ew_ml x = false := by rcases ei_let h with rfl | rfl <;> decide
theorem ei_let_mn {x : Int32} (h : ew_let x = true) : ew_mn x = false := by rcases ei_let h with rfl | rfl <;> decide
theorem em_jl (a aa b bb : Int32) : ((ew_let a && ew_let b) || ((ew_let a && (b == 11 || ew_mb b) && ew_let bb) || (ew_let aa && (a == 11 || ew_mb a) && ew_let b))) = ew_jl a aa b bb := by
  show ((ew_let a && ew_let b) || ((ew_let a && ew_ml b && ew_let bb) || (ew_let aa && ew_ml a && ew_let b))) = _
  unfold ew_jl
  cases h : ew_let a with
  | false => simp
  | true => simp [ei_let_ml h]
theorem em_jh (a aa b bb : Int32) : ((a == 9 && b == 14) || ((a == 9 && b == 15 && bb == 9) || (aa == 9 && a == 15 && b == 9))) = ew_jh a aa b bb := by
  unfold ew_jh
  by_cases h : a = 9
  · subst h
    simp
  · simp [ei_n h, h]
theorem em_jn (a aa b bb : Int32) : (((a == 16 && b == 16) || (ew_let a && b == 16) || (a == 16 && ew_let b)) || ((aa == 16 && (a == 12 || ew_mb a) && b == 16) || (a == 16 && (b == 12 || ew_mb b) && bb == 16))) = ew_jn a aa b bb := by
  show (((a == 16 && b == 16) || (ew_let a && b == 16) || (a == 16 && ew_let b)) || ((aa == 16 && ew_mn a && b == 16) || (a == 16 && ew_mn b && bb == 16))) = _
  unfold ew_jn
  by_cases h : a = 16
  · subst h
    have h1 : ew_let 16 = false := by decide
    have h2 : ew_mn 16 = false := by decide
    simp [h1, h2]
  · cases h3 : ew_let a with
    | true => simp [h, ei_n h, ei_let_mn h3]
    | false => simp [h, ei_n h]
theorem em_jr (a b : Int32) : ((a == 8 && b == 8) || (((ew_rp a || a == 17) && b == 17) || (a == 17 && ew_rp b))) = ew_jr a b := by
  unfold ew_jr
  by_cases h : b = 17
  · subst h
    have h1 : ew_rp 17 = false := by decide
    simp [h1]
  · by_cases h2 : a = 17
    · subst h2
      simp [h]
    · simp [h, h2]
theorem em_wd_eq {raw b a aa bb : Int32} {pi od : Bool} (h : od = true → a = 6) : em_wd raw b a aa bb pi od = ew_part raw a aa od b bb pi := by
  have h6 : (a == 6 && b == 6 && od) = (od && b == 6) := by
    cases od with
    | false => simp
    | true => simp [h rfl]
  unfold em_wd ew_part
  rw [h6, ← em_jl, ← em_jh, ← em_jn, ← em_jr]
  simp only [ei_ff, ei_ft]
  simp only [Bool.not_or, Bool.and_true, Bool.and_assoc, Bool.or_assoc]
/-- the reference's list of rules for a grapheme's boundary -/
def em_cl (a b : Int32) (pi od ap : Bool) : Bool :=
  if a == 1 && b == 2 then false
  else if ew_le a || ew_le b then true
  else if a == 9 && (b == 9 || b == 10 || b == 12 || b == 13) then false
  else if (a == 12 || a == 10) && (b == 10 || b == 11) then false
  else if (a == 13 || a == 11) && b == 11 then false
  else if b == 4 || b == 5 || b == 8 || a == 7 then false
  else if a == 5 && pi && ap then false
  else if a == 6 && b == 6 && od then false
  else true
theorem em_syl (a b : Int32) : ((a == 9 && (b == 9 || b == 10 || b == 12 || b == 13)) || (((a == 12 || a == 10) && (b == 10 || b == 11)) || ((a == 13 || a == 11) && b == 11))) = eg_syl a b := by
  unfold eg_syl
  by_cases h9 : a = 9
  · subst h9; simp
  · by_cases h10 : a = 10
    · subst h10; simp
    · by_cases h12 : a = 12
      · subst h12; simp
      · by_cases h11 : a = 11
        · subst h11; simp
        · by_cases h13 : a = 13
          · subst h13; simp
          · simp [h9, h10, h11, h12, h13]
theorem em_cl_eq {a b : Int32} {pi od ap : Bool} (h : od = true → a = 6) : em_cl a b pi od ap = eg_part a od (ap && a == 5) b pi := by
  have h6 : (a == 6 && b == 6 && od) = (od && b == 6) := by
    cases od with
    | false => simp
    | true => simp [h rfl]
  have h5 : (a == 5 && pi && ap) = (ap && a == 5 && pi) := by
    cases (a == 5) <;> cases pi <;> cases ap <;> rfl
  unfold em_cl eg_part
  rw [h6, h5, ← em_syl]
  simp only [ei_ff, ei_ft]
  simp only [Bool.not_or, Bool.and_true, Bool.and_assoc, Bool.or_assoc]
/-- the reference's answers, in the machine's words -/
theorem em_cluster (g : Nat → Int32) (P : Nat → Bool) (k : Nat) : eg_part (eg_bf g (k + 1)) (eg_od g (k + 1)) (eg_aj g P (k + 1)) (g (k + 1)) (P (k + 1)) = em_cl (g k) (g (k + 1)) (P (k + 1)) (eg_od g (k + 1)) (eg_ap g P k) :=
  (em_cl_eq (a := g k) (b := g (k + 1)) (pi := P (k + 1)) (od := eg_od g (k + 1)) (ap := eg_ap g P k) eg_od6).symm
theorem em_word {w : Nat → Int32} (hw : ∀ j, w j ≠ -1) (P : Nat → Bool) (n k : Nat) : ew_part (eg_bf w (k + 1)) (ew_l w (k + 1)) (ew_k w (k + 1)) (ew_od w (k + 1)) (w (k + 1)) (ew_ah w n (k + 1)) (P (k + 1)) =
    em_wd (w k) (w (k + 1)) (w (em_ct w k)) (em_pk w (em_ct w k)) (ew_ah w n (k + 1)) (P (k + 1)) (ew_od w (k + 1)) := by
  rw [← em_k hw k, ← em_l hw k]
  exact (em_wd_eq (em_od6 hw)).symm
-- one pass
def ef_fl (gm M : Nat → Bool) (i : Nat) : Nat → Bool := fun j => if j < i then M j else gm j
theorem ef_fl_0 (gm M : Nat → Bool) : ef_fl gm M 0 = gm := by
  funext j
  simp [ef_fl]
theorem ef_fl_s (gm M : Nat → Bool) (i : Nat) : ef_up (ef_fl gm M i) i (M i) = ef_fl gm M (i + 1) := by
  funext j
  by_cases h : j = i
  · subst h
    simp [ef_up, ef_fl]
  · by_cases h2 : j < i
    · have h3 : j < i + 1 := by omega
      simp [ef_up, ef_fl, h, h2, h3]
    · have h3 : ¬ j < i + 1 := by omega
      simp [ef_up, ef_fl, h, h2, h3]
def eg_M (g : Nat → Int32) (P : Nat → Bool) (j : Nat) : Bool := decide (j = 0) || eg_part (eg_bf g j) (eg_od g j) (eg_aj g P j) (g j) (P j)
def ew_M (w : Nat → Int32) (P : Nat → Bool) (n j : Nat) : Bool := decide (j = 0) || ew_part (eg_bf w j) (ew_l w j) (ew_k w j) (ew_od w j) (w j) (ew_ah w n j) (P j)
theorem eg_fin (gm : Nat → Bool) (g : Nat → Int32) (P : Nat → Bool) (n : Nat) : ∀ j, j ≤ n → ef_up (ef_fl gm (eg_M g P) n) n (decide (0 < n)) j = eb_g g P n j := by
  intro j hj
  by_cases h : j = n
  · subst h
    by_cases h0 : j = 0
    · subst h0; simp [ef_up, eb_g]
    · have h1 : 0 < j := by omega
      simp [ef_up, eb_g, h0, h1]
  · have h1 : j < n := by omega
    have h2 : ¬ n = 0 := by omega
    by_cases h0 : j = 0
    · subst h0; simp [ef_up, ef_fl, eg_M, eb_g, h, h1, h2]
    · simp [ef_up, ef_fl, eg_M, eb_g, h, h1, h2, h0]
theorem ew_fin (gm : Nat → Bool) (w : Nat → Int32) (P : Nat → Bool) (n : Nat) : ∀ j, j ≤ n → ef_up (ef_fl gm (ew_M w P n) n) n (decide (0 < n)) j = eb_w w P n j := by
  intro j hj
  by_cases h : j = n
  · subst h
    by_cases h0 : j = 0
    · subst h0; simp [ef_up, eb_w]
    · have h1 : 0 < j := by omega
      simp [ef_up, eb_w, h0, h1]
  · have h1 : j < n := by omega
    have h2 : ¬ n = 0 := by omega
    by_cases h0 : j = 0
    · subst h0; simp [ef_up, ef_fl, ew_M, eb_w, h, h1, h2]
    · simp [ef_up, ef_fl, ew_M, eb_w, h, h1, h2, h0]
end
section
/-! My own rows: a read-only contract (er_), a contract over the one world of all cells (ec_), small steps. -/
/-- the array classes of the worlds -/
abbrev eTy (cI cZ cJ : ClassId) : List (ClassId × FieldType) := [(cI, .int), (cZ, .boolean), (cJ, .long)]
section ERA
variable {p : Program} {l : Launch} {e : Env} {R : Room} {s : State} {m : MethodId} {args : Array Value} {below : List Frame} {meth : Method} {c : Code} {H : Heap} {locs : List Loc} {cells slots : Nat} {Q : State → Prop}
variable {cc : ByteArray} {pc : Nat} {ls : Array Slot} {rest st0 : List Value} {D : va_G} {cl : List vw_C} {tys : List (ClassId × FieldType)}
/-- a read: it answers v, the heap is as it was -/
def er_Q (v : Value) : Array Value → State → Outcome → State → Prop := fun _ st o t => o = .returned (some v) ∧ t.heap = st.heap
def er_P (D : va_G) (cl : List vw_C) (tys : List (ClassId × FieldType)) (av : List Value) (W0 : va_W) : Array Value → State → Prop := va_Pc av (fun U => va_P D cl W0 U.heap ∧ va_K D cl tys U)
def er_M (l : Launch) (y : MethodName) (ws : List Cond) (rm : Room) (D : va_G) (cl : List vw_C) (tys : List (ClassId × FieldType)) (av : List Value) (W0 : va_W) (v : Value) : Prop := Met l y ws rm (er_P D cl tys av W0) (er_Q v) 0 0 (fun _ => False)
theorem er_blind {av : List Value} {W0 : va_W} : FrameBlind (er_P D cl tys av W0) := by
  intro a U g mk q
  obtain ⟨q0, qP, qK⟩ := q
  exact ⟨q0, qP, va_K.moved (u := U) (U := U.calling g mk a) (Vm.Alike.refl U.vm) qK⟩
theorem er_pre {av : List Value} {W0 : va_W} (hP : va_P D cl W0 H) (hK : va_K D cl tys s) : PreS s H (er_P D cl tys av W0) av :=
  ⟨er_blind, fun U hU hW => ⟨rfl, by rw [hU]; exact hP, va_K.moved hW.alike hK⟩⟩
theorem er_nil : va_P D cl [] H := fun k q h => by simp at h
/-- the body of a read -/
theorem er_of {y : MethodName} {ws ws' : List Cond} {rm : Room} {maxL : Nat} {ret : Option FieldType} {av : List Value} {W0 : va_W} {v : Value} (hy : plainName y.cls = true) (hw : ws = Cond.code y cc maxL ret :: ws') (hlen : (lg_sl av).length ≤ maxL)
    (body : ∀ (p : Program) (e : Env) (s : State) (m : MethodId) (args : Array Value) (below : List Frame) (meth : Method) (c : Code) (ls : Array Slot), p.tables.exec = Jvm.exec → c.code = cc → meth.sig.returnType = ret → (∀ w ∈ ws, w.before args s = true) → s.vm.findClass y.cls = some m.cls → meth.locks = false → c.maxLocals = maxL → va_P D cl W0 s.heap → va_K D cl tys s → lv_has ls maxL (lv_args 0 av) →
      W p l e rm s m args below meth c s.heap [] 0 0 (MQ below (er_Q v) args s 0 0 (fun _ => False)) (F0 m 0 ls [])) : er_M l y ws rm D cl tys av W0 v := by
  refine Met.ofW (cc := cc) (maxL := maxL) (ret := ret) hy hw ?_
  intro p e s m args below meth c s₁ B hml hv
  obtain ⟨rfl, hP, hK⟩ := hv
  have hl := lv_entry av (n := maxL) hlen
  rw [lg_entry_eq]
  exact body p e s m _ below meth c _ B.exec B.bytes B.returns (atoms_spec (ws := ws) B.pre) (findClass_of_methodNamed B.named) B.notSynchronized hml hP hK hl
theorem er_iret {v w : Int32} (hexec : p.tables.exec = Jvm.exec) (hb : c.code = cc) (hr : meth.sig.returnType = some .int) (hlocks : meth.locks = false) (ev : v = w) (hdg : decode cc pc = .ok (.ireturn, 1)) :
    W p l e R s m args below meth c s.heap [] 0 0 (MQ below (er_Q (.int w)) args s 0 0 (fun _ => False)) (F0 m pc ls [.int v]) := by
  subst ev
  exact W.iret hexec hb hr (fun t ht _ => ⟨rfl, ht⟩) (fun q h => by cases h) hdg hlocks
theorem er_zret {v : Int32} {b : Bool} (hexec : p.tables.exec = Jvm.exec) (hb : c.code = cc) (hr : meth.sig.returnType = some .boolean) (hlocks : meth.locks = false) (ev : v = ef_b b) (hdg : decode cc pc = .ok (.ireturn, 1)) :
    W p l e R s m args below meth c s.heap [] 0 0 (MQ below (er_Q (.int (ef_b b))) args s 0 0 (fun _ => False)) (F0 m pc ls [.int v]) := by
  subst ev
  exact W.zret hexec hb hr (ef_nar b) (fun t ht _ => ⟨rfl, ht⟩) (fun q h => by cases h) hdg hlocks
/-- behind a read -/
theorem er_call {v : Value} {a : Array Value} (hr : va_Run p l e R s m args below meth c H locs cells slots 0 0 (F0 m pc ls st0) rest (er_Q v a) (fun _ => False))
    (kk : W p l e R s m args below meth c H locs cells slots Q (F0 m (pc + 3) ls (v :: rest))) : W p l e R s m args below meth c H locs cells slots Q (F0 m pc ls st0) := by
  intro T hT X
  obtain ⟨v', st₀, t, T', L, h0, X', hL, e1, -, ⟨hv, hh⟩, st⟩ := hr T hT X
  cases hv
  obtain ⟨t2, a1, b1⟩ := kk T' (by rw [e1, hh, h0]) (Stand.forget X' (fun q h => (hL q h).elim))
  exact ⟨t2, st t2 a1, b1⟩
-- small steps
theorem ef_eqi {x y : Int32} (h : x = y) (k : W p l e R s m args below meth c H locs cells slots Q (F0 m pc ls (.int y :: rest))) : W p l e R s m args below meth c H locs cells slots Q (F0 m pc ls (.int x :: rest)) := by
  subst h
  exact k
theorem ef_eql {x y : Int64} (h : x = y) (k : W p l e R s m args below meth c H locs cells slots Q (F0 m pc ls (.long y :: rest))) : W p l e R s m args below meth c H locs cells slots Q (F0 m pc ls (.long x :: rest)) := by
  subst h
  exact k
theorem ef_if_eq {b : Bool} {off : Int} {tgt : Nat} (hexec : p.tables.exec = Jvm.exec) (hb : c.code = cc) (hdg : decode cc pc = .ok (.ifCond .eq off, 3)) (ht : (pc : Int) + off = (tgt : Int))
    (kt : b = false → W p l e R s m args below meth c H locs cells slots Q (F0 m tgt ls rest)) (kf : b = true → W p l e R s m args below meth c H locs cells slots Q (F0 m (pc + 3) ls rest)) : W p l e R s m args below meth c H locs cells slots Q (F0 m pc ls (.int (ef_b b) :: rest)) :=
  lv_if_eq hexec hb hdg ht (fun h => kt (ef_b0.mp h)) (fun h => kf (ef_b1.mp h))
theorem ef_if_ne {b : Bool} {off : Int} {tgt : Nat} (hexec : p.tables.exec = Jvm.exec) (hb : c.code = cc) (hdg : decode cc pc = .ok (.ifCond .ne off, 3)) (ht : (pc : Int) + off = (tgt : Int))
    (kt : b = true → W p l e R s m args below meth c H locs cells slots Q (F0 m tgt ls rest)) (kf : b = false → W p l e R s m args below meth c H locs cells slots Q (F0 m (pc + 3) ls rest)) : W p l e R s m args below meth c H locs cells slots Q (F0 m pc ls (.int (ef_b b) :: rest)) :=
  lv_if_ne hexec hb hdg ht (fun h => kt (ef_b1.mp h)) (fun h => kf (ef_b0.mp h))
end ERA
-- calls, by the good words of the tables
theorem eT_good {c0 c1 : Cond} (h : c1 ∈ eT) : GoodIn (c0 :: eT) (c1 :: eT) := by
  intro w hw
  rcases List.mem_cons.mp hw with rfl | hw
  · exact ⟨List.mem_cons_of_mem _ h, good_of_word (eT_g h)⟩
  · exact ⟨List.mem_cons_of_mem _ hw, good_of_word (eT_g hw)⟩
theorem eT_h {c0 : Cond} {args : Array Value} {s : State} (hts : ∀ w ∈ c0 :: eT, w.before args s = true) {w : Cond} (h : w ∈ eT) : w.before args s = true := hts w (List.mem_cons_of_mem _ h)
theorem eT_B {c0 : Cond} {R : Room} {s : State} {args : Array Value} {own : String} {index : Nat} {y : MethodName} {bytes : ByteArray} {maxL : Nat} {ret : Option FieldType} {rm : Room} {mc ms n : Nat} (hts : ∀ w ∈ c0 :: eT, w.before args s = true) (hc : Cond.code y bytes maxL ret ∈ eT) (hini : Cond.initialized y.cls ∈ eT) (hl : Cond.methodLink own index y ∈ eT)
    (hd : y.cls ≠ "java/lang/invoke/MethodHandle" ∧ y.cls ≠ "java/lang/invoke/VarHandle" ∧ (parseMethodDescriptor y.desc).map (fun d => d.parameters.length) = some n) (hrc : rm.cells = mc) (hrs : rm.slots = ms) (hR : rm.frames + 1 ≤ R.frames ∧ 8 + (maxL + 11) + rm.locals ≤ R.locals) :
    CallB R s args own index y bytes maxL ret (Cond.code y bytes maxL ret :: eT) rm mc ms n :=
  callB_of n hts (eT_good hc) rfl hrc hrs (eT_h hts hini) (eT_h hts hl) hd hR
section ERB
variable {p : Program} {l : Launch} {e : Env} {R : Room} {s : State} {m : MethodId} {args : Array Value} {below : List Frame} {meth : Method} {c : Code} {H : Heap} {locs : List Loc} {cells slots : Nat} {Q : State → Prop}
variable {cc : ByteArray} {pc : Nat} {ls : Array Slot} {rest : List Value} {D : va_G} {tys : List (ClassId × FieldType)}
variable {c0 : Cond} {own : String} {index nL n maxL : Nat} {y : MethodName} {bytes : ByteArray} {ret : Option FieldType} {rm : Room} {av : List Value} {W0 : va_W} {v : Value}
/-- a read by a static call -/
theorem er_S (hexec : p.tables.exec = Jvm.exec) (hb : c.code = cc) (hml : c.maxLocals = nL) (hown : s.vm.findClass own = some m.cls) (hts : ∀ w ∈ c0 :: eT, w.before args s = true) (hsz : ls.size = nL)
    (hM : er_M l y (Cond.code y bytes maxL ret :: eT) rm D vwCl tys av W0 v) (hc : Cond.code y bytes maxL ret ∈ eT) (hini : Cond.initialized y.cls ∈ eT) (hl : Cond.methodLink own index y ∈ eT) (hst : Cond.static y ∈ eT)
    (hd : y.cls ≠ "java/lang/invoke/MethodHandle" ∧ y.cls ≠ "java/lang/invoke/VarHandle" ∧ (parseMethodDescriptor y.desc).map (fun d => d.parameters.length) = some n) (hrc : rm.cells = 0) (hrs : rm.slots = 0) (hR : rm.frames + 1 ≤ R.frames ∧ 8 + (maxL + 11) + rm.locals ≤ R.locals)
    (hP : va_P D vwCl W0 H) (hK : va_K D vwCl tys s) (hn : av.length = n) {st0 : List Value} (hstk : st0 = av.reverse ++ rest) (hroom : (rest.map fun v => v.category).sum ≤ 8) (hcl : cells ≤ R.cells ∧ slots ≤ R.slots) (hdg : decode cc pc = .ok (.invokestatic index, 3))
    (kk : W p l e R s m args below meth c H locs cells slots Q (F0 m (pc + 3) ls (v :: rest))) : W p l e R s m args below meth c H locs cells slots Q (F0 m pc ls st0) :=
  er_call (va_runS (nL := nL) (As := av) (rest := rest) ⟨hexec, hb, hml, hown, hts⟩ hM ⟨eT_B hts hc hini hl hd hrc hrs hR, eT_h hts hst⟩ (er_pre hP hK) rfl hn hsz hstk (lv_room hroom) hdg hcl) kk
/-- a read by a call on an object -/
theorem er_V {Wr : va_W} {b : Addr} {C : String} {q0 ci : Nat} {T : u_T} {N : Nat} {fs : List Value} (hexec : p.tables.exec = Jvm.exec) (hb : c.code = cc) (hml : c.maxLocals = nL) (hown : s.vm.findClass own = some m.cls) (hts : ∀ w ∈ c0 :: eT, w.before args s = true) (hsz : ls.size = nL)
    (hM : er_M l y (Cond.code y bytes maxL ret :: eT) rm D vwCl tys (.ref b :: av) W0 v) (hc : Cond.code y bytes maxL ret ∈ eT) (hini : Cond.initialized y.cls ∈ eT) (hl : Cond.methodLink own index y ∈ eT) (hst : Cond.instanceMethod y ∈ eT) (hse : Cond.selects C y y ∈ eT)
    (hd : y.cls ≠ "java/lang/invoke/MethodHandle" ∧ y.cls ≠ "java/lang/invoke/VarHandle" ∧ (parseMethodDescriptor y.desc).map (fun d => d.parameters.length) = some n) (hrc : rm.cells = 0) (hrs : rm.slots = 0) (hR : rm.frames + 1 ≤ R.frames ∧ 8 + (maxL + 11) + rm.locals ≤ R.locals)
    (hP : va_P D vwCl W0 H) (hK : va_K D vwCl tys s) (hPr : va_P D vwCl Wr H) (he : Wr[q0]? = some (b, .inr (ci, fs))) (hcl0 : vwCl[ci]? = some (C, T, N)) (hn : av.length = n) {st0 : List Value} (hstk : st0 = av.reverse ++ .ref b :: rest) (hroom : (rest.map fun v => v.category).sum ≤ 8) (hcl : cells ≤ R.cells ∧ slots ≤ R.slots) (hdg : decode cc pc = .ok (.invokevirtual index, 3))
    (kk : W p l e R s m args below meth c H locs cells slots Q (F0 m (pc + 3) ls (v :: rest))) : W p l e R s m args below meth c H locs cells slots Q (F0 m pc ls st0) :=
  er_call (va_runV (nL := nL) (C := C) (b := b) (As := av) (rest := rest) ⟨hexec, hb, hml, hown, hts⟩ hM ⟨eT_B hts hc hini hl hd hrc hrs hR, eT_h hts hst, eT_h hts hse⟩
    ⟨er_blind, va_recv hK hPr hcl0 he, (er_pre (av := .ref b :: av) hP hK).2⟩ rfl hn hsz hstk (lv_room hroom) hdg hcl) kk
end ERB
end
section
set_option maxHeartbeats 4000000 in
set_option maxRecDepth 100000 in
theorem k_X1_isControl (l : Launch) (D : va_G) (cI cZ cJ : ClassId) (x : Int32) : er_M l yX1_isControl (Cond.code yX1_isControl cX1_isControl 1 (some .boolean) :: eT) ({ frames := 0, cells := 0, slots := 0, locals := 0 }) D vwCl (eTy cI cZ cJ) [.int x] [] (.int (ef_b (ew_le x))) := by
  refine er_of (cc := cX1_isControl) (maxL := 1) (ret := (some .boolean)) (by decide) rfl (Nat.le_of_ble_eq_true rfl) ?_
  intro p e s m args below meth c ls hx hb hr hts hown hlk hml hP hK hl
  have hown : s.vm.findClass RX1 = some m.cls := hown
  have hl : lv_has ls 1 [(0, .int x)] := hl
  refine lv_iload_n hx hb dX1_isControl_0 rfl (lv_at hl 0 rfl) ?_
  refine lv_iconst (v := 1) hx hb dX1_isControl_1 (by decide) ?_
  refine lv_icmp_eq (tgt := 15) hx hb dX1_isControl_2 (by decide) (fun h1 => ?_) (fun h1 => ?_)
  · skip
    refine lv_iconst (v := 1) hx hb dX1_isControl_15 (by decide) ?_
    refine lv_goto (tgt := 20) hx hb dX1_isControl_16 (by decide) ?_
    exact er_zret hx hb hr hlk (by simp [ef_b, ew_le, h1]) dX1_isControl_20
  · skip
    refine lv_iload_n hx hb dX1_isControl_5 rfl (lv_at hl 0 rfl) ?_
    refine lv_iconst (v := 2) hx hb dX1_isControl_6 (by decide) ?_
    refine lv_icmp_eq (tgt := 15) hx hb dX1_isControl_7 (by decide) (fun h2 => ?_) (fun h2 => ?_)
    · skip
      refine lv_iconst (v := 1) hx hb dX1_isControl_15 (by decide) ?_
      refine lv_goto (tgt := 20) hx hb dX1_isControl_16 (by decide) ?_
      exact er_zret hx hb hr hlk (by simp [ef_b, ew_le, h1, h2]) dX1_isControl_20
    · skip
      refine lv_iload_n hx hb dX1_isControl_10 rfl (lv_at hl 0 rfl) ?_
      refine lv_iconst (v := 3) hx hb dX1_isControl_11 (by decide) ?_
      refine lv_icmp_ne (tgt := 19) hx hb dX1_isControl_12 (by decide) (fun h3 => ?_) (fun h3 => ?_)
      · skip
        refine lv_iconst (v := 0) hx hb dX1_isControl_19 (by decide) ?_
        exact er_zret hx hb hr hlk (by simp [ef_b, ew_le, h1, h2, h3]) dX1_isControl_20
      · skip
        refine lv_iconst (v := 1) hx hb dX1_isControl_15 (by decide) ?_
        refine lv_goto (tgt := 20) hx hb dX1_isControl_16 (by decide) ?_
        exact er_zret hx hb hr hlk (by simp [ef_b, ew_le, h1, h2, h3]) dX1_isControl_20

set_option maxHeartbeats 4000000 in
set_option maxRecDepth 100000 in
theorem k_X4_isLineEnd (l : Launch) (D : va_G) (cI cZ cJ : ClassId) (x : Int32) : er_M l yX4_isLineEnd (Cond.code yX4_isLineEnd cX4_isLineEnd 1 (some .boolean) :: eT) ({ frames := 0, cells := 0, slots := 0, locals := 0 }) D vwCl (eTy cI cZ cJ) [.int x] [] (.int (ef_b (ew_le x))) := by
  refine er_of (cc := cX4_isLineEnd) (maxL := 1) (ret := (some .boolean)) (by decide) rfl (Nat.le_of_ble_eq_true rfl) ?_
  intro p e s m args below meth c ls hx hb hr hts hown hlk hml hP hK hl
  have hown : s.vm.findClass RX4 = some m.cls := hown
  have hl : lv_has ls 1 [(0, .int x)] := hl
  refine lv_iload_n hx hb dX4_isLineEnd_0 rfl (lv_at hl 0 rfl) ?_
  refine lv_iconst (v := 1) hx hb dX4_isLineEnd_1 (by decide) ?_
  refine lv_icmp_eq (tgt := 15) hx hb dX4_isLineEnd_2 (by decide) (fun h1 => ?_) (fun h1 => ?_)
  · skip
    refine lv_iconst (v := 1) hx hb dX4_isLineEnd_15 (by decide) ?_
    refine lv_goto (tgt := 20) hx hb dX4_isLineEnd_16 (by decide) ?_
    exact er_zret hx hb hr hlk (by simp [ef_b, ew_le, h1]) dX4_isLineEnd_20
  · skip
    refine lv_iload_n hx hb dX4_isLineEnd_5 rfl (lv_at hl 0 rfl) ?_
    refine lv_iconst (v := 2) hx hb dX4_isLineEnd_6 (by decide) ?_
    refine lv_icmp_eq (tgt := 15) hx hb dX4_isLineEnd_7 (by decide) (fun h2 => ?_) (fun h2 => ?_)
    · skip
      refine lv_iconst (v := 1) hx hb dX4_isLineEnd_15 (by decide) ?_
      refine lv_goto (tgt := 20) hx hb dX4_isLineEnd_16 (by decide) ?_
      exact er_zret hx hb hr hlk (by simp [ef_b, ew_le, h1, h2]) dX4_isLineEnd_20
    · skip
      refine lv_iload_n hx hb dX4_isLineEnd_10 rfl (lv_at hl 0 rfl) ?_
      refine lv_iconst (v := 3) hx hb dX4_isLineEnd_11 (by decide) ?_
      refine lv_icmp_ne (tgt := 19) hx hb dX4_isLineEnd_12 (by decide) (fun h3 => ?_) (fun h3 => ?_)
      · skip
        refine lv_iconst (v := 0) hx hb dX4_isLineEnd_19 (by decide) ?_
        exact er_zret hx hb hr hlk (by simp [ef_b, ew_le, h1, h2, h3]) dX4_isLineEnd_20
      · skip
        refine lv_iconst (v := 1) hx hb dX4_isLineEnd_15 (by decide) ?_
        refine lv_goto (tgt := 20) hx hb dX4_isLineEnd_16 (by decide) ?_
        exact er_zret hx hb hr hlk (by simp [ef_b, ew_le, h1, h2, h3]) dX4_isLineEnd_20

set_option maxHeartbeats 4000000 in
set_option maxRecDepth 100000 in
theorem k_X4_isAttached (l : Launch) (D : va_G) (cI cZ cJ : ClassId) (x : Int32) : er_M l yX4_isAttached (Cond.code yX4_isAttached cX4_isAttached 1 (some .boolean) :: eT) ({ frames := 0, cells := 0, slots := 0, locals := 0 }) D vwCl (eTy cI cZ cJ) [.int x] [] (.int (ef_b (ew_at x))) := by
  refine er_of (cc := cX4_isAttached) (maxL := 1) (ret := (some .boolean)) (by decide) rfl (Nat.le_of_ble_eq_true rfl) ?_
  intro p e s m args below meth c ls hx hb hr hts hown hlk hml hP hK hl
  have hown : s.vm.findClass RX4 = some m.cls := hown
  have hl : lv_has ls 1 [(0, .int x)] := hl
  refine lv_iload_n hx hb dX4_isAttached_0 rfl (lv_at hl 0 rfl) ?_
  refine lv_iconst (v := 4) hx hb dX4_isAttached_1 (by decide) ?_
  refine lv_icmp_eq (tgt := 16) hx hb dX4_isAttached_2 (by decide) (fun h1 => ?_) (fun h1 => ?_)
  · skip
    refine lv_iconst (v := 1) hx hb dX4_isAttached_16 (by decide) ?_
    refine lv_goto (tgt := 21) hx hb dX4_isAttached_17 (by decide) ?_
    exact er_zret hx hb hr hlk (by simp [ef_b, ew_at, h1]) dX4_isAttached_21
  · skip
    refine lv_iload_n hx hb dX4_isAttached_5 rfl (lv_at hl 0 rfl) ?_
    refine lv_bipush (v := 7) hx hb dX4_isAttached_6 (by decide) ?_
    refine lv_icmp_eq (tgt := 16) hx hb dX4_isAttached_8 (by decide) (fun h2 => ?_) (fun h2 => ?_)
    · skip
      refine lv_iconst (v := 1) hx hb dX4_isAttached_16 (by decide) ?_
      refine lv_goto (tgt := 21) hx hb dX4_isAttached_17 (by decide) ?_
      exact er_zret hx hb hr hlk (by simp [ef_b, ew_at, h1, h2]) dX4_isAttached_21
    · skip
      refine lv_iload_n hx hb dX4_isAttached_11 rfl (lv_at hl 0 rfl) ?_
      refine lv_iconst (v := 5) hx hb dX4_isAttached_12 (by decide) ?_
      refine lv_icmp_ne (tgt := 20) hx hb dX4_isAttached_13 (by decide) (fun h3 => ?_) (fun h3 => ?_)
      · skip
        refine lv_iconst (v := 0) hx hb dX4_isAttached_20 (by decide) ?_
        exact er_zret hx hb hr hlk (by simp [ef_b, ew_at, h1, h2, h3]) dX4_isAttached_21
      · skip
        refine lv_iconst (v := 1) hx hb dX4_isAttached_16 (by decide) ?_
        refine lv_goto (tgt := 21) hx hb dX4_isAttached_17 (by decide) ?_
        exact er_zret hx hb hr hlk (by simp [ef_b, ew_at, h1, h2, h3]) dX4_isAttached_21

set_option maxHeartbeats 4000000 in
set_option maxRecDepth 100000 in
theorem k_X4_isLetter (l : Launch) (D : va_G) (cI cZ cJ : ClassId) (x : Int32) : er_M l yX4_isLetter (Cond.code yX4_isLetter cX4_isLetter 1 (some .boolean) :: eT) ({ frames := 0, cells := 0, slots := 0, locals := 0 }) D vwCl (eTy cI cZ cJ) [.int x] [] (.int (ef_b (ew_let x))) := by
  refine er_of (cc := cX4_isLetter) (maxL := 1) (ret := (some .boolean)) (by decide) rfl (Nat.le_of_ble_eq_true rfl) ?_
  intro p e s m args below meth c ls hx hb hr hts hown hlk hml hP hK hl
  have hown : s.vm.findClass RX4 = some m.cls := hown
  have hl : lv_has ls 1 [(0, .int x)] := hl
  refine lv_iload_n hx hb dX4_isLetter_0 rfl (lv_at hl 0 rfl) ?_
  refine lv_bipush (v := 10) hx hb dX4_isLetter_1 (by decide) ?_
  refine lv_icmp_eq (tgt := 12) hx hb dX4_isLetter_3 (by decide) (fun h1 => ?_) (fun h1 => ?_)
  · skip
    refine lv_iconst (v := 1) hx hb dX4_isLetter_12 (by decide) ?_
    refine lv_goto (tgt := 17) hx hb dX4_isLetter_13 (by decide) ?_
    exact er_zret hx hb hr hlk (by simp [ef_b, ew_let, h1]) dX4_isLetter_17
  · skip
    refine lv_iload_n hx hb dX4_isLetter_6 rfl (lv_at hl 0 rfl) ?_
    refine lv_bipush (v := 9) hx hb dX4_isLetter_7 (by decide) ?_
    refine lv_icmp_ne (tgt := 16) hx hb dX4_isLetter_9 (by decide) (fun h2 => ?_) (fun h2 => ?_)
    · skip
      refine lv_iconst (v := 0) hx hb dX4_isLetter_16 (by decide) ?_
      exact er_zret hx hb hr hlk (by simp [ef_b, ew_let, h1, h2]) dX4_isLetter_17
    · skip
      refine lv_iconst (v := 1) hx hb dX4_isLetter_12 (by decide) ?_
      refine lv_goto (tgt := 17) hx hb dX4_isLetter_13 (by decide) ?_
      exact er_zret hx hb hr hlk (by simp [ef_b, ew_let, h1, h2]) dX4_isLetter_17

set_option maxHeartbeats 4000000 in
set_option maxRecDepth 100000 in
theorem k_X4_isMidOfBoth (l : Launch) (D : va_G) (cI cZ cJ : ClassId) (x : Int32) : er_M l yX4_isMidOfBoth (Cond.code yX4_isMidOfBoth cX4_isMidOfBoth 1 (some .boolean) :: eT) ({ frames := 0, cells := 0, slots := 0, locals := 0 }) D vwCl (eTy cI cZ cJ) [.int x] [] (.int (ef_b (ew_mb x))) := by
  refine er_of (cc := cX4_isMidOfBoth) (maxL := 1) (ret := (some .boolean)) (by decide) rfl (Nat.le_of_ble_eq_true rfl) ?_
  intro p e s m args below meth c ls hx hb hr hts hown hlk hml hP hK hl
  have hown : s.vm.findClass RX4 = some m.cls := hown
  have hl : lv_has ls 1 [(0, .int x)] := hl
  refine lv_iload_n hx hb dX4_isMidOfBoth_0 rfl (lv_at hl 0 rfl) ?_
  refine lv_bipush (v := 13) hx hb dX4_isMidOfBoth_1 (by decide) ?_
  refine lv_icmp_eq (tgt := 12) hx hb dX4_isMidOfBoth_3 (by decide) (fun h1 => ?_) (fun h1 => ?_)
  · skip
    refine lv_iconst (v := 1) hx hb dX4_isMidOfBoth_12 (by decide) ?_
    refine lv_goto (tgt := 17) hx hb dX4_isMidOfBoth_13 (by decide) ?_
    exact er_zret hx hb hr hlk (by simp [ef_b, ew_mb, h1]) dX4_isMidOfBoth_17
  · skip
    refine lv_iload_n hx hb dX4_isMidOfBoth_6 rfl (lv_at hl 0 rfl) ?_
    refine lv_bipush (v := 14) hx hb dX4_isMidOfBoth_7 (by decide) ?_
    refine lv_icmp_ne (tgt := 16) hx hb dX4_isMidOfBoth_9 (by decide) (fun h2 => ?_) (fun h2 => ?_)
    · skip
      refine lv_iconst (v := 0) hx hb dX4_isMidOfBoth_16 (by decide) ?_
      exact er_zret hx hb hr hlk (by simp [ef_b, ew_mb, h1, h2]) dX4_isMidOfBoth_17
    · skip
      refine lv_iconst (v := 1) hx hb dX4_isMidOfBoth_12 (by decide) ?_
      refine lv_goto (tgt := 17) hx hb dX4_isMidOfBoth_13 (by decide) ?_
      exact er_zret hx hb hr hlk (by simp [ef_b, ew_mb, h1, h2]) dX4_isMidOfBoth_17

set_option maxHeartbeats 4000000 in
set_option maxRecDepth 100000 in
theorem k_X4_isMidLetter (l : Launch) (D : va_G) (cI cZ cJ : ClassId) (x : Int32) : er_M l yX4_isMidLetter (Cond.code yX4_isMidLetter cX4_isMidLetter 1 (some .boolean) :: eT) ({ frames := 1, cells := 0, slots := 0, locals := 20 }) D vwCl (eTy cI cZ cJ) [.int x] [] (.int (ef_b (ew_ml x))) := by
  refine er_of (cc := cX4_isMidLetter) (maxL := 1) (ret := (some .boolean)) (by decide) rfl (Nat.le_of_ble_eq_true rfl) ?_
  intro p e s m args below meth c ls hx hb hr hts hown hlk hml hP hK hl
  have hown : s.vm.findClass RX4 = some m.cls := hown
  have hl : lv_has ls 1 [(0, .int x)] := hl
  refine lv_iload_n hx hb dX4_isMidLetter_0 rfl (lv_at hl 0 rfl) ?_
  refine lv_bipush (v := 11) hx hb dX4_isMidLetter_1 (by decide) ?_
  refine lv_icmp_eq (tgt := 13) hx hb dX4_isMidLetter_3 (by decide) (fun h1 => ?_) (fun h1 => ?_)
  · skip
    refine lv_iconst (v := 1) hx hb dX4_isMidLetter_13 (by decide) ?_
    refine lv_goto (tgt := 18) hx hb dX4_isMidLetter_14 (by decide) ?_
    exact er_zret hx hb hr hlk (by simp [ef_b, ew_ml, h1]) dX4_isMidLetter_18
  · skip
    refine lv_iload_n hx hb dX4_isMidLetter_6 rfl (lv_at hl 0 rfl) ?_
    refine er_S (own := RX4) (rest := []) hx hb hml hown hts hl.1 (k_X4_isMidOfBoth l D cI cZ cJ x) tw296 tw6 tw294 tw295 yd_X4_isMidOfBoth rfl rfl ⟨Nat.le_of_ble_eq_true rfl, Nat.le_of_ble_eq_true rfl⟩ er_nil hK rfl rfl (Nat.le_of_ble_eq_true rfl) ⟨Nat.zero_le _, Nat.zero_le _⟩ dX4_isMidLetter_7 ?_
    refine ef_if_eq (tgt := 17) hx hb dX4_isMidLetter_10 (by decide) (fun h2 => ?_) (fun h2 => ?_)
    · skip
      refine lv_iconst (v := 0) hx hb dX4_isMidLetter_17 (by decide) ?_
      exact er_zret hx hb hr hlk (by simp [ef_b, ew_ml, h1, h2]) dX4_isMidLetter_18
    · skip
      refine lv_iconst (v := 1) hx hb dX4_isMidLetter_13 (by decide) ?_
      refine lv_goto (tgt := 18) hx hb dX4_isMidLetter_14 (by decide) ?_
      exact er_zret hx hb hr hlk (by simp [ef_b, ew_ml, h1, h2]) dX4_isMidLetter_18

set_option maxHeartbeats 4000000 in
set_option maxRecDepth 100000 in
theorem k_X4_isMidNumber (l : Launch) (D : va_G) (cI cZ cJ : ClassId) (x : Int32) : er_M l yX4_isMidNumber (Cond.code yX4_isMidNumber cX4_isMidNumber 1 (some .boolean) :: eT) ({ frames := 1, cells := 0, slots := 0, locals := 20 }) D vwCl (eTy cI cZ cJ) [.int x] [] (.int (ef_b (ew_mn x))) := by
  refine er_of (cc := cX4_isMidNumber) (maxL := 1) (ret := (some .boolean)) (by decide) rfl (Nat.le_of_ble_eq_true rfl) ?_
  intro p e s m args below meth c ls hx hb hr hts hown hlk hml hP hK hl
  have hown : s.vm.findClass RX4 = some m.cls := hown
  have hl : lv_has ls 1 [(0, .int x)] := hl
  refine lv_iload_n hx hb dX4_isMidNumber_0 rfl (lv_at hl 0 rfl) ?_
  refine lv_bipush (v := 12) hx hb dX4_isMidNumber_1 (by decide) ?_
  refine lv_icmp_eq (tgt := 13) hx hb dX4_isMidNumber_3 (by decide) (fun h1 => ?_) (fun h1 => ?_)
  · skip
    refine lv_iconst (v := 1) hx hb dX4_isMidNumber_13 (by decide) ?_
    refine lv_goto (tgt := 18) hx hb dX4_isMidNumber_14 (by decide) ?_
    exact er_zret hx hb hr hlk (by simp [ef_b, ew_mn, h1]) dX4_isMidNumber_18
  · skip
    refine lv_iload_n hx hb dX4_isMidNumber_6 rfl (lv_at hl 0 rfl) ?_
    refine er_S (own := RX4) (rest := []) hx hb hml hown hts hl.1 (k_X4_isMidOfBoth l D cI cZ cJ x) tw296 tw6 tw294 tw295 yd_X4_isMidOfBoth rfl rfl ⟨Nat.le_of_ble_eq_true rfl, Nat.le_of_ble_eq_true rfl⟩ er_nil hK rfl rfl (Nat.le_of_ble_eq_true rfl) ⟨Nat.zero_le _, Nat.zero_le _⟩ dX4_isMidNumber_7 ?_
    refine ef_if_eq (tgt := 17) hx hb dX4_isMidNumber_10 (by decide) (fun h2 => ?_) (fun h2 => ?_)
    · skip
      refine lv_iconst (v := 0) hx hb dX4_isMidNumber_17 (by decide) ?_
      exact er_zret hx hb hr hlk (by simp [ef_b, ew_mn, h1, h2]) dX4_isMidNumber_18
    · skip
      refine lv_iconst (v := 1) hx hb dX4_isMidNumber_13 (by decide) ?_
      refine lv_goto (tgt := 18) hx hb dX4_isMidNumber_14 (by decide) ?_
      exact er_zret hx hb hr hlk (by simp [ef_b, ew_mn, h1, h2]) dX4_isMidNumber_18

set_option maxHeartbeats 4000000 in
set_option maxRecDepth 100000 in
theorem k_X4_isRunPart (l : Launch) (D : va_G) (cI cZ cJ : ClassId) (x : Int32) : er_M l yX4_isRunPart (Cond.code yX4_isRunPart cX4_isRunPart 1 (some .boolean) :: eT) ({ frames := 1, cells := 0, slots := 0, locals := 20 }) D vwCl (eTy cI cZ cJ) [.int x] [] (.int (ef_b (ew_rp x))) := by
  refine er_of (cc := cX4_isRunPart) (maxL := 1) (ret := (some .boolean)) (by decide) rfl (Nat.le_of_ble_eq_true rfl) ?_
  intro p e s m args below meth c ls hx hb hr hts hown hlk hml hP hK hl
  have hown : s.vm.findClass RX4 = some m.cls := hown
  have hl : lv_has ls 1 [(0, .int x)] := hl
  refine lv_iload_n hx hb dX4_isRunPart_0 rfl (lv_at hl 0 rfl) ?_
  refine er_S (own := RX4) (rest := []) hx hb hml hown hts hl.1 (k_X4_isLetter l D cI cZ cJ x) tw290 tw6 tw288 tw289 yd_X4_isLetter rfl rfl ⟨Nat.le_of_ble_eq_true rfl, Nat.le_of_ble_eq_true rfl⟩ er_nil hK rfl rfl (Nat.le_of_ble_eq_true rfl) ⟨Nat.zero_le _, Nat.zero_le _⟩ dX4_isRunPart_1 ?_
  refine ef_if_ne (tgt := 19) hx hb dX4_isRunPart_4 (by decide) (fun h1 => ?_) (fun h1 => ?_)
  · skip
    refine lv_iconst (v := 1) hx hb dX4_isRunPart_19 (by decide) ?_
    refine lv_goto (tgt := 24) hx hb dX4_isRunPart_20 (by decide) ?_
    exact er_zret hx hb hr hlk (by simp [ef_b, ew_rp, h1]) dX4_isRunPart_24
  · skip
    refine lv_iload_n hx hb dX4_isRunPart_7 rfl (lv_at hl 0 rfl) ?_
    refine lv_bipush (v := 16) hx hb dX4_isRunPart_8 (by decide) ?_
    refine lv_icmp_eq (tgt := 19) hx hb dX4_isRunPart_10 (by decide) (fun h2 => ?_) (fun h2 => ?_)
    · skip
      refine lv_iconst (v := 1) hx hb dX4_isRunPart_19 (by decide) ?_
      refine lv_goto (tgt := 24) hx hb dX4_isRunPart_20 (by decide) ?_
      exact er_zret hx hb hr hlk (by simp [ef_b, ew_rp, h1, h2]) dX4_isRunPart_24
    · skip
      refine lv_iload_n hx hb dX4_isRunPart_13 rfl (lv_at hl 0 rfl) ?_
      refine lv_bipush (v := 8) hx hb dX4_isRunPart_14 (by decide) ?_
      refine lv_icmp_ne (tgt := 23) hx hb dX4_isRunPart_16 (by decide) (fun h3 => ?_) (fun h3 => ?_)
      · skip
        refine lv_iconst (v := 0) hx hb dX4_isRunPart_23 (by decide) ?_
        exact er_zret hx hb hr hlk (by simp [ef_b, ew_rp, h1, h2, h3]) dX4_isRunPart_24
      · skip
        refine lv_iconst (v := 1) hx hb dX4_isRunPart_19 (by decide) ?_
        refine lv_goto (tgt := 24) hx hb dX4_isRunPart_20 (by decide) ?_
        exact er_zret hx hb hr hlk (by simp [ef_b, ew_rp, h1, h2, h3]) dX4_isRunPart_24

set_option maxHeartbeats 4000000 in
set_option maxRecDepth 100000 in
theorem k_X6_passed (l : Launch) (D : va_G) (cI cZ cJ : ClassId) (h0 : Nat) (x : Int32) : er_M l yX6_passed (Cond.code yX6_passed cX6_passed 2 (some .boolean) :: eT) ({ frames := 0, cells := 0, slots := 0, locals := 0 }) D vwCl (eTy cI cZ cJ) [.ref h0, .int x] [] (.int (ef_b (ew_at x))) := by
  refine er_of (cc := cX6_passed) (maxL := 2) (ret := (some .boolean)) (by decide) rfl (Nat.le_of_ble_eq_true rfl) ?_
  intro p e s m args below meth c ls hx hb hr hts hown hlk hml hP hK hl
  have hown : s.vm.findClass RX6 = some m.cls := hown
  have hl : lv_has ls 2 [(0, .ref h0), (1, .int x)] := hl
  refine lv_iload_n hx hb dX6_passed_0 rfl (lv_at hl 1 rfl) ?_
  refine lv_iconst (v := 4) hx hb dX6_passed_1 (by decide) ?_
  refine lv_icmp_eq (tgt := 16) hx hb dX6_passed_2 (by decide) (fun h1 => ?_) (fun h1 => ?_)
  · skip
    refine lv_iconst (v := 1) hx hb dX6_passed_16 (by decide) ?_
    refine lv_goto (tgt := 21) hx hb dX6_passed_17 (by decide) ?_
    exact er_zret hx hb hr hlk (by simp [ef_b, ew_at, h1]) dX6_passed_21
  · skip
    refine lv_iload_n hx hb dX6_passed_5 rfl (lv_at hl 1 rfl) ?_
    refine lv_iconst (v := 5) hx hb dX6_passed_6 (by decide) ?_
    refine lv_icmp_eq (tgt := 16) hx hb dX6_passed_7 (by decide) (fun h2 => ?_) (fun h2 => ?_)
    · skip
      refine lv_iconst (v := 1) hx hb dX6_passed_16 (by decide) ?_
      refine lv_goto (tgt := 21) hx hb dX6_passed_17 (by decide) ?_
      exact er_zret hx hb hr hlk (by simp [ef_b, ew_at, h1, h2]) dX6_passed_21
    · skip
      refine lv_iload_n hx hb dX6_passed_10 rfl (lv_at hl 1 rfl) ?_
      refine lv_bipush (v := 7) hx hb dX6_passed_11 (by decide) ?_
      refine lv_icmp_ne (tgt := 20) hx hb dX6_passed_13 (by decide) (fun h3 => ?_) (fun h3 => ?_)
      · skip
        refine lv_iconst (v := 0) hx hb dX6_passed_20 (by decide) ?_
        exact er_zret hx hb hr hlk (by simp [ef_b, ew_at, h1, h2, h3]) dX6_passed_21
      · skip
        refine lv_iconst (v := 1) hx hb dX6_passed_16 (by decide) ?_
        refine lv_goto (tgt := 21) hx hb dX6_passed_17 (by decide) ?_
        exact er_zret hx hb hr hlk (by simp [ef_b, ew_at, h1, h2, h3]) dX6_passed_21

set_option maxHeartbeats 4000000 in
set_option maxRecDepth 100000 in
theorem k_X6_letter (l : Launch) (D : va_G) (cI cZ cJ : ClassId) (h0 : Nat) (x : Int32) : er_M l yX6_letter (Cond.code yX6_letter cX6_letter 2 (some .boolean) :: eT) ({ frames := 0, cells := 0, slots := 0, locals := 0 }) D vwCl (eTy cI cZ cJ) [.ref h0, .int x] [] (.int (ef_b (ew_let x))) := by
  refine er_of (cc := cX6_letter) (maxL := 2) (ret := (some .boolean)) (by decide) rfl (Nat.le_of_ble_eq_true rfl) ?_
  intro p e s m args below meth c ls hx hb hr hts hown hlk hml hP hK hl
  have hown : s.vm.findClass RX6 = some m.cls := hown
  have hl : lv_has ls 2 [(0, .ref h0), (1, .int x)] := hl
  refine lv_iload_n hx hb dX6_letter_0 rfl (lv_at hl 1 rfl) ?_
  refine lv_bipush (v := 9) hx hb dX6_letter_1 (by decide) ?_
  refine lv_icmp_eq (tgt := 12) hx hb dX6_letter_3 (by decide) (fun h1 => ?_) (fun h1 => ?_)
  · skip
    refine lv_iconst (v := 1) hx hb dX6_letter_12 (by decide) ?_
    refine lv_goto (tgt := 17) hx hb dX6_letter_13 (by decide) ?_
    exact er_zret hx hb hr hlk (by simp [ef_b, ew_let, h1]) dX6_letter_17
  · skip
    refine lv_iload_n hx hb dX6_letter_6 rfl (lv_at hl 1 rfl) ?_
    refine lv_bipush (v := 10) hx hb dX6_letter_7 (by decide) ?_
    refine lv_icmp_ne (tgt := 16) hx hb dX6_letter_9 (by decide) (fun h2 => ?_) (fun h2 => ?_)
    · skip
      refine lv_iconst (v := 0) hx hb dX6_letter_16 (by decide) ?_
      exact er_zret hx hb hr hlk (by simp [ef_b, ew_let, h1, h2]) dX6_letter_17
    · skip
      refine lv_iconst (v := 1) hx hb dX6_letter_12 (by decide) ?_
      refine lv_goto (tgt := 17) hx hb dX6_letter_13 (by decide) ?_
      exact er_zret hx hb hr hlk (by simp [ef_b, ew_let, h1, h2]) dX6_letter_17

set_option maxHeartbeats 4000000 in
set_option maxRecDepth 100000 in
theorem k_X6_quote (l : Launch) (D : va_G) (cI cZ cJ : ClassId) (h0 : Nat) (x : Int32) : er_M l yX6_quote (Cond.code yX6_quote cX6_quote 2 (some .boolean) :: eT) ({ frames := 0, cells := 0, slots := 0, locals := 0 }) D vwCl (eTy cI cZ cJ) [.ref h0, .int x] [] (.int (ef_b (ew_mb x))) := by
  refine er_of (cc := cX6_quote) (maxL := 2) (ret := (some .boolean)) (by decide) rfl (Nat.le_of_ble_eq_true rfl) ?_
  intro p e s m args below meth c ls hx hb hr hts hown hlk hml hP hK hl
  have hown : s.vm.findClass RX6 = some m.cls := hown
  have hl : lv_has ls 2 [(0, .ref h0), (1, .int x)] := hl
  refine lv_iload_n hx hb dX6_quote_0 rfl (lv_at hl 1 rfl) ?_
  refine lv_bipush (v := 13) hx hb dX6_quote_1 (by decide) ?_
  refine lv_icmp_eq (tgt := 12) hx hb dX6_quote_3 (by decide) (fun h1 => ?_) (fun h1 => ?_)
  · skip
    refine lv_iconst (v := 1) hx hb dX6_quote_12 (by decide) ?_
    refine lv_goto (tgt := 17) hx hb dX6_quote_13 (by decide) ?_
    exact er_zret hx hb hr hlk (by simp [ef_b, ew_mb, h1]) dX6_quote_17
  · skip
    refine lv_iload_n hx hb dX6_quote_6 rfl (lv_at hl 1 rfl) ?_
    refine lv_bipush (v := 14) hx hb dX6_quote_7 (by decide) ?_
    refine lv_icmp_ne (tgt := 16) hx hb dX6_quote_9 (by decide) (fun h2 => ?_) (fun h2 => ?_)
    · skip
      refine lv_iconst (v := 0) hx hb dX6_quote_16 (by decide) ?_
      exact er_zret hx hb hr hlk (by simp [ef_b, ew_mb, h1, h2]) dX6_quote_17
    · skip
      refine lv_iconst (v := 1) hx hb dX6_quote_12 (by decide) ?_
      refine lv_goto (tgt := 17) hx hb dX6_quote_13 (by decide) ?_
      exact er_zret hx hb hr hlk (by simp [ef_b, ew_mb, h1, h2]) dX6_quote_17
end
section
set_option maxHeartbeats 4000000 in
set_option maxRecDepth 100000 in
theorem k_X0_firstBehind (l : Launch) (D : va_G) (cI cZ cJ : ClassId) (h0 ma ru : Nat) (sb : Bool) (M : Nat → Bool) (i n : Nat) (hn : n ≤ 1000) (hi : i ≤ n) : er_M l yX0_firstBehind (Cond.code yX0_firstBehind cX0_firstBehind 4 (some .int) :: eT) ({ frames := 0, cells := 0, slots := 0, locals := 0 }) D vwCl (eTy cI cZ cJ) [.ref h0, .int (nI i), .int (nI n)] [(h0, .inr (0, [.ref ma, .int (ef_b sb), .ref ru])), (ma, .inl (cZ, 1001, .inl (fun j => ef_b (M j))))] (.int (es_fb M (n - i) (i + 1))) := by
  refine er_of (cc := cX0_firstBehind) (maxL := 4) (ret := (some .int)) (by decide) rfl (Nat.le_of_ble_eq_true rfl) ?_
  intro p e s m args below meth c ls hx hb hr hts hown hlk hml hP hK hl
  have hown : s.vm.findClass RX0 = some m.cls := hown
  have hl : lv_has ls 4 [(0, .ref h0), (1, .int (nI i)), (2, .int (nI n))] := hl
  have L4 : ∀ (r : Nat) (k : Nat) (ls : Array Slot), lv_has ls 4 [(3, .int (nI k)), (0, .ref h0), (1, .int (nI i)), (2, .int (nI n))] → k ≤ n + 1 → es_fb M (n - i) (i + 1) = es_fb M (n + 1 - k) k → n + 1 - k < r → W p l e ({ frames := 0, cells := 0, slots := 0, locals := 0 }) s m args below meth c s.heap [] 0 0 (MQ below (er_Q (.int (es_fb M (n - i) (i + 1)))) args s 0 0 (fun _ => False)) (F0 m 4 ls []) := by
    intro r
    induction r with
    | zero => intro k ls hl hk he hμ; exact absurd hμ (Nat.not_lt_zero _)
    | succ r ih =>
      intro k ls hl hk he hμ
      refine lv_iload_n hx hb dX0_firstBehind_4 rfl (lv_at hl 0 rfl) ?_
      refine lv_iload_n hx hb dX0_firstBehind_5 rfl (lv_at hl 3 rfl) ?_
      refine lv_icmp_gt (tgt := 26) hx hb dX0_firstBehind_6 (by decide) (fun h1 => ?_) (fun h1 => ?_)
      · skip
        have h1 : n < k := (nI_ltI (a := n) (b := k) (by omega) (by omega)).mp h1
        refine lv_iconst (v := (-1)) hx hb dX0_firstBehind_26 (by decide) ?_
        exact er_iret hx hb hr hlk (by rw [he, show n + 1 - k = 0 by omega]; rfl) dX0_firstBehind_27
      · skip
        have h1 : ¬ (n < k) := fun q9 => h1 ((nI_ltI (a := n) (b := k) (by omega) (by omega)).mpr q9)
        refine lv_aload_n hx hb dX0_firstBehind_9 rfl (lv_at hl 1 rfl) ?_
        refine va_get (D := D) (ci := 0) (v := .ref ma) (C := RX0) (T := TX0) (N := 3) hx hb hts (fun w h => List.mem_cons_of_mem _ (inX0 w h)) hown hK hP 0 rfl rfl 0 (by decide) (eT_h hts tw77) (fun _ h9 => h9) rfl dX0_firstBehind_10 ?_
        refine lv_iload_n hx hb dX0_firstBehind_13 rfl (lv_at hl 0 rfl) ?_
        refine va_zald hx hb hK hP 1 1 rfl rfl (vp_in_nI (by omega) (by decide)) dX0_firstBehind_14 ?_
        refine ef_eqi (y := ef_b (M k)) (by rw [nI_clamp (by omega)]) ?_
        refine ef_if_eq (tgt := 20) hx hb dX0_firstBehind_15 (by decide) (fun h2 => ?_) (fun h2 => ?_)
        · skip
          refine lv_iinc (k := 0) (v := nI (k + 1)) (lv' := [(3, .int (nI (k + 1))), (0, .ref h0), (1, .int (nI i)), (2, .int (nI n))]) hx hb dX0_firstBehind_20 hl rfl (by rw [show Int32.ofInt 1 = 1 from by decide]; exact nI_1 _) (Nat.le_of_ble_eq_true rfl) rfl (fun ls hl => ?_)
          refine lv_goto (tgt := 4) hx hb dX0_firstBehind_23 (by decide) ?_
          exact ih (k + 1) ls hl (by omega) (by rw [he, show n + 1 - k = (n + 1 - (k + 1)) + 1 by omega]; simp [es_fb, h2]) (by omega)
        · skip
          refine lv_iload_n hx hb dX0_firstBehind_18 rfl (lv_at hl 0 rfl) ?_
          exact er_iret hx hb hr hlk (by rw [he, show n + 1 - k = (n - k) + 1 by omega]; simp [es_fb, h2]) dX0_firstBehind_19
  refine lv_iload_n hx hb dX0_firstBehind_0 rfl (lv_at hl 1 rfl) ?_
  refine lv_iconst (v := 1) hx hb dX0_firstBehind_1 (by decide) ?_
  refine lv_iadd hx hb dX0_firstBehind_2 ?_
  refine ef_eqi (y := nI (i + 1)) (nI_add i 1) ?_
  refine lv_istore_n (lv' := [(3, .int (nI (i + 1))), (0, .ref h0), (1, .int (nI i)), (2, .int (nI n))]) hx hb dX0_firstBehind_3 rfl hl (Nat.le_of_ble_eq_true rfl) rfl (fun ls hl => ?_)
  exact L4 _ (i + 1) ls hl (by omega) (by rw [show n + 1 - (i + 1) = n - i by omega]) (Nat.lt_succ_self _)

set_option maxHeartbeats 4000000 in
set_option maxRecDepth 100000 in
theorem k_X0_lastBefore (l : Launch) (D : va_G) (cI cZ cJ : ClassId) (h0 ma ru : Nat) (sb : Bool) (M : Nat → Bool) (i : Nat) (hi : i ≤ 1000) : er_M l yX0_lastBefore (Cond.code yX0_lastBefore cX0_lastBefore 3 (some .int) :: eT) ({ frames := 0, cells := 0, slots := 0, locals := 0 }) D vwCl (eTy cI cZ cJ) [.ref h0, .int (nI i)] [(h0, .inr (0, [.ref ma, .int (ef_b sb), .ref ru])), (ma, .inl (cZ, 1001, .inl (fun j => ef_b (M j))))] (.int (es_lb M i)) := by
  refine er_of (cc := cX0_lastBefore) (maxL := 3) (ret := (some .int)) (by decide) rfl (Nat.le_of_ble_eq_true rfl) ?_
  intro p e s m args below meth c ls hx hb hr hts hown hlk hml hP hK hl
  have hown : s.vm.findClass RX0 = some m.cls := hown
  have hl : lv_has ls 3 [(0, .ref h0), (1, .int (nI i))] := hl
  have L4 : ∀ (r : Nat) (k : Nat) (ls : Array Slot), lv_has ls 3 [(2, .int (nI k + (-1))), (0, .ref h0), (1, .int (nI i))] → k ≤ i → es_lb M i = es_lb M k → k < r → W p l e ({ frames := 0, cells := 0, slots := 0, locals := 0 }) s m args below meth c s.heap [] 0 0 (MQ below (er_Q (.int (es_lb M i))) args s 0 0 (fun _ => False)) (F0 m 4 ls []) := by
    intro r
    induction r with
    | zero => intro k ls hl hk he hμ; exact absurd hμ (Nat.not_lt_zero _)
    | succ r ih =>
      intro k ls hl hk he hμ
      rcases k with _ | k
      · skip
        refine lv_iload_n hx hb dX0_lastBefore_4 rfl (lv_at hl 0 rfl) ?_
        refine lv_if_lt (tgt := 25) hx hb dX0_lastBefore_5 (by decide) (fun h1 => ?_) (fun h1 => ?_)
        · skip
          refine lv_iconst (v := (-1)) hx hb dX0_lastBefore_25 (by decide) ?_
          exact er_iret hx hb hr hlk (by rw [he]; rfl) dX0_lastBefore_26
        · skip
          exact absurd (by decide) h1
      · skip
        have hl : lv_has ls 3 [(2, .int (nI k)), (0, .ref h0), (1, .int (nI i))] := by rw [← pk_m1 k]; exact hl
        refine lv_iload_n hx hb dX0_lastBefore_4 rfl (lv_at hl 0 rfl) ?_
        refine lv_if_lt (tgt := 25) hx hb dX0_lastBefore_5 (by decide) (fun h2 => ?_) (fun h2 => ?_)
        · skip
          exact absurd h2 (nI_pos (by omega))
        · skip
          refine lv_aload_n hx hb dX0_lastBefore_8 rfl (lv_at hl 1 rfl) ?_
          refine va_get (D := D) (ci := 0) (v := .ref ma) (C := RX0) (T := TX0) (N := 3) hx hb hts (fun w h => List.mem_cons_of_mem _ (inX0 w h)) hown hK hP 0 rfl rfl 0 (by decide) (eT_h hts tw77) (fun _ h9 => h9) rfl dX0_lastBefore_9 ?_
          refine lv_iload_n hx hb dX0_lastBefore_12 rfl (lv_at hl 0 rfl) ?_
          refine va_zald hx hb hK hP 1 1 rfl rfl (vp_in_nI (by omega) (by decide)) dX0_lastBefore_13 ?_
          refine ef_eqi (y := ef_b (M k)) (by rw [nI_clamp (by omega)]) ?_
          refine ef_if_eq (tgt := 19) hx hb dX0_lastBefore_14 (by decide) (fun h3 => ?_) (fun h3 => ?_)
          · skip
            refine lv_iinc (k := 0) (v := nI k + (-1)) (lv' := [(2, .int (nI k + (-1))), (0, .ref h0), (1, .int (nI i))]) hx hb dX0_lastBefore_19 hl rfl (by rw [show Int32.ofInt (-1) = -1 from by decide]) (Nat.le_of_ble_eq_true rfl) rfl (fun ls hl => ?_)
            refine lv_goto (tgt := 4) hx hb dX0_lastBefore_22 (by decide) ?_
            exact ih k ls hl (by omega) (by rw [he]; simp [es_lb, h3]) (by omega)
          · skip
            refine lv_iload_n hx hb dX0_lastBefore_17 rfl (lv_at hl 0 rfl) ?_
            exact er_iret hx hb hr hlk (by rw [he]; simp [es_lb, h3]) dX0_lastBefore_18
  refine lv_iload_n hx hb dX0_lastBefore_0 rfl (lv_at hl 1 rfl) ?_
  refine lv_iconst (v := 1) hx hb dX0_lastBefore_1 (by decide) ?_
  refine lv_isub hx hb dX0_lastBefore_2 ?_
  refine ef_eqi (y := nI i + (-1)) (Int32.sub_eq_add_neg _ _) ?_
  refine lv_istore_n (lv' := [(2, .int (nI i + (-1))), (0, .ref h0), (1, .int (nI i))]) hx hb dX0_lastBefore_3 rfl hl (Nat.le_of_ble_eq_true rfl) rfl (fun ls hl => ?_)
  exact L4 _ i ls hl (Nat.le_refl _) rfl (Nat.lt_succ_self _)

set_option maxHeartbeats 4000000 in
set_option maxRecDepth 100000 in
theorem k_X0_countUpTo (l : Launch) (D : va_G) (cI cZ cJ : ClassId) (h0 ma ru : Nat) (sb : Bool) (M : Nat → Bool) (i : Nat) (hi : i ≤ 1000) : er_M l yX0_countUpTo (Cond.code yX0_countUpTo cX0_countUpTo 4 (some .int) :: eT) ({ frames := 0, cells := 0, slots := 0, locals := 0 }) D vwCl (eTy cI cZ cJ) [.ref h0, .int (nI i)] [(h0, .inr (0, [.ref ma, .int (ef_b sb), .ref ru])), (ma, .inl (cZ, 1001, .inl (fun j => ef_b (M j))))] (.int (nI (es_cu M (i + 1)))) := by
  refine er_of (cc := cX0_countUpTo) (maxL := 4) (ret := (some .int)) (by decide) rfl (Nat.le_of_ble_eq_true rfl) ?_
  intro p e s m args below meth c ls hx hb hr hts hown hlk hml hP hK hl
  have hown : s.vm.findClass RX0 = some m.cls := hown
  have hl : lv_has ls 4 [(0, .ref h0), (1, .int (nI i))] := hl
  have L4 : ∀ (r : Nat) (k : Nat) (ls : Array Slot), lv_has ls 4 [(3, .int (nI k)), (2, .int (nI (es_cu M k))), (0, .ref h0), (1, .int (nI i))] → k ≤ i + 1 → i + 1 - k < r → W p l e ({ frames := 0, cells := 0, slots := 0, locals := 0 }) s m args below meth c s.heap [] 0 0 (MQ below (er_Q (.int (nI (es_cu M (i + 1))))) args s 0 0 (fun _ => False)) (F0 m 4 ls []) := by
    intro r
    induction r with
    | zero => intro k ls hl hk hμ; exact absurd hμ (Nat.not_lt_zero _)
    | succ r ih =>
      intro k ls hl hk hμ
      refine lv_iload_n hx hb dX0_countUpTo_4 rfl (lv_at hl 0 rfl) ?_
      refine lv_iload_n hx hb dX0_countUpTo_5 rfl (lv_at hl 3 rfl) ?_
      refine lv_icmp_gt (tgt := 27) hx hb dX0_countUpTo_6 (by decide) (fun h1 => ?_) (fun h1 => ?_)
      · skip
        have h1 : i < k := (nI_ltI (a := i) (b := k) (by omega) (by omega)).mp h1
        refine lv_iload_n hx hb dX0_countUpTo_27 rfl (lv_at hl 1 rfl) ?_
        exact er_iret hx hb hr hlk (by rw [show k = i + 1 by omega]) dX0_countUpTo_28
      · skip
        have h1 : ¬ (i < k) := fun q9 => h1 ((nI_ltI (a := i) (b := k) (by omega) (by omega)).mpr q9)
        refine lv_aload_n hx hb dX0_countUpTo_9 rfl (lv_at hl 2 rfl) ?_
        refine va_get (D := D) (ci := 0) (v := .ref ma) (C := RX0) (T := TX0) (N := 3) hx hb hts (fun w h => List.mem_cons_of_mem _ (inX0 w h)) hown hK hP 0 rfl rfl 0 (by decide) (eT_h hts tw77) (fun _ h9 => h9) rfl dX0_countUpTo_10 ?_
        refine lv_iload_n hx hb dX0_countUpTo_13 rfl (lv_at hl 0 rfl) ?_
        refine va_zald hx hb hK hP 1 1 rfl rfl (vp_in_nI (by omega) (by decide)) dX0_countUpTo_14 ?_
        refine ef_eqi (y := ef_b (M k)) (by rw [nI_clamp (by omega)]) ?_
        refine ef_if_eq (tgt := 21) hx hb dX0_countUpTo_15 (by decide) (fun h2 => ?_) (fun h2 => ?_)
        · skip
          refine lv_iinc (k := 0) (v := nI (k + 1)) (lv' := [(3, .int (nI (k + 1))), (2, .int (nI (es_cu M k))), (0, .ref h0), (1, .int (nI i))]) hx hb dX0_countUpTo_21 hl rfl (by rw [show Int32.ofInt 1 = 1 from by decide]; exact nI_1 _) (Nat.le_of_ble_eq_true rfl) rfl (fun ls hl => ?_)
          refine lv_goto (tgt := 4) hx hb dX0_countUpTo_24 (by decide) ?_
          have hl : lv_has ls 4 [(3, .int (nI (k + 1))), (2, .int (nI (es_cu M (k + 1)))), (0, .ref h0), (1, .int (nI i))] := by rw [show nI (es_cu M (k + 1)) = nI (es_cu M k) from (by simp [es_cu, h2])]; exact hl
          exact ih (k + 1) ls hl (by omega) (by omega)
        · skip
          refine lv_iinc (k := 1) (v := nI (es_cu M k + 1)) (lv' := [(2, .int (nI (es_cu M k + 1))), (3, .int (nI k)), (0, .ref h0), (1, .int (nI i))]) hx hb dX0_countUpTo_18 hl rfl (by rw [show Int32.ofInt 1 = 1 from by decide]; exact nI_1 _) (Nat.le_of_ble_eq_true rfl) rfl (fun ls hl => ?_)
          refine lv_iinc (k := 1) (v := nI (k + 1)) (lv' := [(3, .int (nI (k + 1))), (2, .int (nI (es_cu M k + 1))), (0, .ref h0), (1, .int (nI i))]) hx hb dX0_countUpTo_21 hl rfl (by rw [show Int32.ofInt 1 = 1 from by decide]; exact nI_1 _) (Nat.le_of_ble_eq_true rfl) rfl (fun ls hl => ?_)
          refine lv_goto (tgt := 4) hx hb dX0_countUpTo_24 (by decide) ?_
          have hl : lv_has ls 4 [(3, .int (nI (k + 1))), (2, .int (nI (es_cu M (k + 1)))), (0, .ref h0), (1, .int (nI i))] := by rw [show nI (es_cu M (k + 1)) = nI (es_cu M k + 1) from (by simp [es_cu, h2])]; exact hl
          exact ih (k + 1) ls hl (by omega) (by omega)
  refine lv_iconst (v := 0) hx hb dX0_countUpTo_0 (by decide) ?_
  refine lv_istore_n (lv' := [(2, .int 0), (0, .ref h0), (1, .int (nI i))]) hx hb dX0_countUpTo_1 rfl hl (Nat.le_of_ble_eq_true rfl) rfl (fun ls hl => ?_)
  refine lv_iconst (v := 0) hx hb dX0_countUpTo_2 (by decide) ?_
  refine lv_istore_n (lv' := [(3, .int 0), (2, .int 0), (0, .ref h0), (1, .int (nI i))]) hx hb dX0_countUpTo_3 rfl hl (Nat.le_of_ble_eq_true rfl) rfl (fun ls hl => ?_)
  exact L4 _ 0 ls hl (Nat.zero_le _) (Nat.lt_succ_self _)

set_option maxHeartbeats 4000000 in
set_option maxRecDepth 100000 in
theorem k_X0_mixUpTo (l : Launch) (D : va_G) (cI cZ cJ : ClassId) (h0 ma ru : Nat) (sb : Bool) (M : Nat → Bool) (i : Nat) (hi : i ≤ 1000) : er_M l yX0_mixUpTo (Cond.code yX0_mixUpTo cX0_mixUpTo 4 (some .int) :: eT) ({ frames := 0, cells := 0, slots := 0, locals := 0 }) D vwCl (eTy cI cZ cJ) [.ref h0, .int (nI i)] [(h0, .inr (0, [.ref ma, .int (ef_b sb), .ref ru])), (ma, .inl (cZ, 1001, .inl (fun j => ef_b (M j))))] (.int (es_mx M (i + 1))) := by
  refine er_of (cc := cX0_mixUpTo) (maxL := 4) (ret := (some .int)) (by decide) rfl (Nat.le_of_ble_eq_true rfl) ?_
  intro p e s m args below meth c ls hx hb hr hts hown hlk hml hP hK hl
  have hown : s.vm.findClass RX0 = some m.cls := hown
  have hl : lv_has ls 4 [(0, .ref h0), (1, .int (nI i))] := hl
  have L4 : ∀ (r : Nat) (k : Nat) (ls : Array Slot), lv_has ls 4 [(3, .int (nI k)), (2, .int (es_mx M k)), (0, .ref h0), (1, .int (nI i))] → k ≤ i + 1 → i + 1 - k < r → W p l e ({ frames := 0, cells := 0, slots := 0, locals := 0 }) s m args below meth c s.heap [] 0 0 (MQ below (er_Q (.int (es_mx M (i + 1)))) args s 0 0 (fun _ => False)) (F0 m 4 ls []) := by
    intro r
    induction r with
    | zero => intro k ls hl hk hμ; exact absurd hμ (Nat.not_lt_zero _)
    | succ r ih =>
      intro k ls hl hk hμ
      refine lv_iload_n hx hb dX0_mixUpTo_4 rfl (lv_at hl 0 rfl) ?_
      refine lv_iload_n hx hb dX0_mixUpTo_5 rfl (lv_at hl 3 rfl) ?_
      refine lv_icmp_gt (tgt := 31) hx hb dX0_mixUpTo_6 (by decide) (fun h1 => ?_) (fun h1 => ?_)
      · skip
        have h1 : i < k := (nI_ltI (a := i) (b := k) (by omega) (by omega)).mp h1
        refine lv_iload_n hx hb dX0_mixUpTo_31 rfl (lv_at hl 1 rfl) ?_
        exact er_iret hx hb hr hlk (by rw [show k = i + 1 by omega]) dX0_mixUpTo_32
      · skip
        have h1 : ¬ (i < k) := fun q9 => h1 ((nI_ltI (a := i) (b := k) (by omega) (by omega)).mpr q9)
        refine lv_aload_n hx hb dX0_mixUpTo_9 rfl (lv_at hl 2 rfl) ?_
        refine va_get (D := D) (ci := 0) (v := .ref ma) (C := RX0) (T := TX0) (N := 3) hx hb hts (fun w h => List.mem_cons_of_mem _ (inX0 w h)) hown hK hP 0 rfl rfl 0 (by decide) (eT_h hts tw77) (fun _ h9 => h9) rfl dX0_mixUpTo_10 ?_
        refine lv_iload_n hx hb dX0_mixUpTo_13 rfl (lv_at hl 0 rfl) ?_
        refine va_zald hx hb hK hP 1 1 rfl rfl (vp_in_nI (by omega) (by decide)) dX0_mixUpTo_14 ?_
        refine ef_eqi (y := ef_b (M k)) (by rw [nI_clamp (by omega)]) ?_
        refine ef_if_eq (tgt := 25) hx hb dX0_mixUpTo_15 (by decide) (fun h2 => ?_) (fun h2 => ?_)
        · skip
          refine lv_iinc (k := 0) (v := nI (k + 1)) (lv' := [(3, .int (nI (k + 1))), (2, .int (es_mx M k)), (0, .ref h0), (1, .int (nI i))]) hx hb dX0_mixUpTo_25 hl rfl (by rw [show Int32.ofInt 1 = 1 from by decide]; exact nI_1 _) (Nat.le_of_ble_eq_true rfl) rfl (fun ls hl => ?_)
          refine lv_goto (tgt := 4) hx hb dX0_mixUpTo_28 (by decide) ?_
          have hl : lv_has ls 4 [(3, .int (nI (k + 1))), (2, .int (es_mx M (k + 1))), (0, .ref h0), (1, .int (nI i))] := by rw [show es_mx M (k + 1) = es_mx M k from (by simp [es_mx, h2])]; exact hl
          exact ih (k + 1) ls hl (by omega) (by omega)
        · skip
          refine lv_bipush (v := 31) hx hb dX0_mixUpTo_18 (by decide) ?_
          refine lv_iload_n hx hb dX0_mixUpTo_20 rfl (lv_at hl 1 rfl) ?_
          refine lv_imul hx hb dX0_mixUpTo_21 ?_
          refine lv_iload_n hx hb dX0_mixUpTo_22 rfl (lv_at hl 0 rfl) ?_
          refine lv_iadd hx hb dX0_mixUpTo_23 ?_
          refine lv_istore_n (lv' := [(2, .int ((31 * (es_mx M k)) + (nI k))), (3, .int (nI k)), (0, .ref h0), (1, .int (nI i))]) hx hb dX0_mixUpTo_24 rfl hl (Nat.le_of_ble_eq_true rfl) rfl (fun ls hl => ?_)
          refine lv_iinc (k := 1) (v := nI (k + 1)) (lv' := [(3, .int (nI (k + 1))), (2, .int ((31 * (es_mx M k)) + (nI k))), (0, .ref h0), (1, .int (nI i))]) hx hb dX0_mixUpTo_25 hl rfl (by rw [show Int32.ofInt 1 = 1 from by decide]; exact nI_1 _) (Nat.le_of_ble_eq_true rfl) rfl (fun ls hl => ?_)
          refine lv_goto (tgt := 4) hx hb dX0_mixUpTo_28 (by decide) ?_
          have hl : lv_has ls 4 [(3, .int (nI (k + 1))), (2, .int (es_mx M (k + 1))), (0, .ref h0), (1, .int (nI i))] := by rw [show es_mx M (k + 1) = (31 * (es_mx M k)) + (nI k) from (by simp [es_mx, h2])]; exact hl
          exact ih (k + 1) ls hl (by omega) (by omega)
  refine lv_iconst (v := 1) hx hb dX0_mixUpTo_0 (by decide) ?_
  refine lv_istore_n (lv' := [(2, .int 1), (0, .ref h0), (1, .int (nI i))]) hx hb dX0_mixUpTo_1 rfl hl (Nat.le_of_ble_eq_true rfl) rfl (fun ls hl => ?_)
  refine lv_iconst (v := 0) hx hb dX0_mixUpTo_2 (by decide) ?_
  refine lv_istore_n (lv' := [(3, .int 0), (2, .int 1), (0, .ref h0), (1, .int (nI i))]) hx hb dX0_mixUpTo_3 rfl hl (Nat.le_of_ble_eq_true rfl) rfl (fun ls hl => ?_)
  exact L4 _ 0 ls hl (Nat.zero_le _) (Nat.lt_succ_self _)

set_option maxHeartbeats 4000000 in
set_option maxRecDepth 100000 in
theorem k_X4_classAhead (l : Launch) (D : va_G) (cI cZ cJ : ClassId) (r0 gA wA pA : Nat) (n : Nat) (w : Nat → Int32) (i : Nat) (hn : n ≤ 1000) (hi : i < n) : er_M l yX4_classAhead (Cond.code yX4_classAhead cX4_classAhead 3 (some .int) :: eT) ({ frames := 1, cells := 0, slots := 0, locals := 20 }) D vwCl (eTy cI cZ cJ) [.ref r0, .int (nI i)] [(r0, .inr (2, [.ref gA, .ref wA, .ref pA, .int (nI n)])), (wA, .inl (cI, 1000, .inl w))] (.int (ew_ah w n i)) := by
  refine er_of (cc := cX4_classAhead) (maxL := 3) (ret := (some .int)) (by decide) rfl (Nat.le_of_ble_eq_true rfl) ?_
  intro p e s m args below meth c ls hx hb hr hts hown hlk hml hP hK hl
  have hown : s.vm.findClass RX4 = some m.cls := hown
  have hl : lv_has ls 3 [(0, .ref r0), (1, .int (nI i))] := hl
  have L4 : ∀ (r : Nat) (k : Nat) (ls : Array Slot), lv_has ls 3 [(2, .int (nI k)), (0, .ref r0), (1, .int (nI i))] → k ≤ n → ew_ah w n i = ew_ahF w (n - k) k → n - k < r → W p l e ({ frames := 1, cells := 0, slots := 0, locals := 20 }) s m args below meth c s.heap [] 0 0 (MQ below (er_Q (.int (ew_ah w n i))) args s 0 0 (fun _ => False)) (F0 m 4 ls []) := by
    intro r
    induction r with
    | zero => intro k ls hl hk he hμ; exact absurd hμ (Nat.not_lt_zero _)
    | succ r ih =>
      intro k ls hl hk he hμ
      refine lv_iload_n hx hb dX4_classAhead_4 rfl (lv_at hl 0 rfl) ?_
      refine lv_aload_n hx hb dX4_classAhead_5 rfl (lv_at hl 1 rfl) ?_
      refine va_get (D := D) (ci := 2) (v := .int (nI n)) (C := RX2) (T := TX2) (N := 4) hx hb hts (fun w h => List.mem_cons_of_mem _ (inX2 w h)) hown hK hP 0 rfl rfl 3 (by decide) (eT_h hts tw37) (fun _ h9 => h9) rfl dX4_classAhead_6 ?_
      refine lv_icmp_ge (tgt := 37) hx hb dX4_classAhead_9 (by decide) (fun h1 => ?_) (fun h1 => ?_)
      · skip
        have h1 : n ≤ k := (nI_leI (a := n) (b := k) (by omega) (by omega)).mp h1
        refine lv_iconst (v := (-1)) hx hb dX4_classAhead_37 (by decide) ?_
        exact er_iret hx hb hr hlk (by rw [he, show n - k = 0 by omega]; rfl) dX4_classAhead_38
      · skip
        have h1 : ¬ (n ≤ k) := fun q9 => h1 ((nI_leI (a := n) (b := k) (by omega) (by omega)).mpr q9)
        refine lv_aload_n hx hb dX4_classAhead_12 rfl (lv_at hl 1 rfl) ?_
        refine va_get (D := D) (ci := 2) (v := .ref wA) (C := RX2) (T := TX2) (N := 4) hx hb hts (fun w h => List.mem_cons_of_mem _ (inX2 w h)) hown hK hP 0 rfl rfl 1 (by decide) (eT_h hts tw30) (fun _ h9 => h9) rfl dX4_classAhead_13 ?_
        refine lv_iload_n hx hb dX4_classAhead_16 rfl (lv_at hl 0 rfl) ?_
        refine va_iald hx hb hK hP 1 0 rfl rfl (vp_in_nI (by omega) (by decide)) dX4_classAhead_17 ?_
        refine ef_eqi (y := w k) (by rw [nI_clamp (by omega)]) ?_
        refine er_S (own := RX4) (rest := []) hx hb hml hown hts hl.1 (k_X4_isAttached l D cI cZ cJ (w k)) tw280 tw6 tw278 tw279 yd_X4_isAttached rfl rfl ⟨Nat.le_of_ble_eq_true rfl, Nat.le_of_ble_eq_true rfl⟩ er_nil hK rfl rfl (Nat.le_of_ble_eq_true rfl) ⟨Nat.zero_le _, Nat.zero_le _⟩ dX4_classAhead_18 ?_
        refine ef_if_ne (tgt := 31) hx hb dX4_classAhead_21 (by decide) (fun h2 => ?_) (fun h2 => ?_)
        · skip
          refine lv_iinc (k := 0) (v := nI (k + 1)) (lv' := [(2, .int (nI (k + 1))), (0, .ref r0), (1, .int (nI i))]) hx hb dX4_classAhead_31 hl rfl (by rw [show Int32.ofInt 1 = 1 from by decide]; exact nI_1 _) (Nat.le_of_ble_eq_true rfl) rfl (fun ls hl => ?_)
          refine lv_goto (tgt := 4) hx hb dX4_classAhead_34 (by decide) ?_
          exact ih (k + 1) ls hl (by omega) (by rw [he, show n - k = (n - (k + 1)) + 1 by omega]; simp [ew_ahF, h2]) (by omega)
        · skip
          refine lv_aload_n hx hb dX4_classAhead_24 rfl (lv_at hl 1 rfl) ?_
          refine va_get (D := D) (ci := 2) (v := .ref wA) (C := RX2) (T := TX2) (N := 4) hx hb hts (fun w h => List.mem_cons_of_mem _ (inX2 w h)) hown hK hP 0 rfl rfl 1 (by decide) (eT_h hts tw30) (fun _ h9 => h9) rfl dX4_classAhead_25 ?_
          refine lv_iload_n hx hb dX4_classAhead_28 rfl (lv_at hl 0 rfl) ?_
          refine va_iald hx hb hK hP 1 0 rfl rfl (vp_in_nI (by omega) (by decide)) dX4_classAhead_29 ?_
          refine ef_eqi (y := w k) (by rw [nI_clamp (by omega)]) ?_
          exact er_iret hx hb hr hlk (by rw [he, show n - k = (n - (k + 1)) + 1 by omega]; simp [ew_ahF, h2]) dX4_classAhead_30
  refine lv_iload_n hx hb dX4_classAhead_0 rfl (lv_at hl 1 rfl) ?_
  refine lv_iconst (v := 1) hx hb dX4_classAhead_1 (by decide) ?_
  refine lv_iadd hx hb dX4_classAhead_2 ?_
  refine ef_eqi (y := nI (i + 1)) (nI_add i 1) ?_
  refine lv_istore_n (lv' := [(2, .int (nI (i + 1))), (0, .ref r0), (1, .int (nI i))]) hx hb dX4_classAhead_3 rfl hl (Nat.le_of_ble_eq_true rfl) rfl (fun ls hl => ?_)
  exact L4 _ (i + 1) ls hl (by omega) rfl (Nat.lt_succ_self _)
end
section
set_option maxHeartbeats 4000000 in
set_option maxRecDepth 100000 in
theorem k_X1_isSyllable (l : Launch) (D : va_G) (cI cZ cJ : ClassId) (h0 : Nat) (bf : Int32) (od ap aj : Bool) (x : Int32) : er_M l yX1_isSyllable (Cond.code yX1_isSyllable cX1_isSyllable 2 (some .boolean) :: eT) ({ frames := 0, cells := 0, slots := 0, locals := 0 }) D vwCl (eTy cI cZ cJ) [.ref h0, .int x] [(h0, .inr (1, [.int bf, .int (ef_b od), .int (ef_b ap), .int (ef_b aj)]))] (.int (ef_b (eg_syl bf x))) := by
  refine er_of (cc := cX1_isSyllable) (maxL := 2) (ret := (some .boolean)) (by decide) rfl (Nat.le_of_ble_eq_true rfl) ?_
  intro p e s m args below meth c ls hx hb hr hts hown hlk hml hP hK hl
  have hown : s.vm.findClass RX1 = some m.cls := hown
  have hl : lv_has ls 2 [(0, .ref h0), (1, .int x)] := hl
  refine lv_aload_n hx hb dX1_isSyllable_0 rfl (lv_at hl 0 rfl) ?_
  refine va_get (D := D) (ci := 1) (v := .int bf) (C := RX1) (T := TX1) (N := 4) hx hb hts (fun w h => List.mem_cons_of_mem _ (inX1 w h)) hown hK hP 0 rfl rfl 0 (by decide) (eT_h hts tw60) (fun _ h9 => h9) rfl dX1_isSyllable_1 ?_
  by_cases q9 : bf = 9
  · refine lv_tableIn (off := 36) (tgt := 40) hx hb dX1_isSyllable_4 (by rw [q9]; decide) (by rw [q9]; decide) (by rw [q9]; decide) (by decide) ?_
    refine lv_iload_n hx hb dX1_isSyllable_40 rfl (lv_at hl 1 rfl) ?_
    refine lv_bipush (v := 9) hx hb dX1_isSyllable_41 (by decide) ?_
    refine lv_icmp_eq (tgt := 64) hx hb dX1_isSyllable_43 (by decide) (fun h1 => ?_) (fun h1 => ?_)
    · skip
      refine lv_iconst (v := 1) hx hb dX1_isSyllable_64 (by decide) ?_
      refine lv_goto (tgt := 69) hx hb dX1_isSyllable_65 (by decide) ?_
      exact er_zret hx hb hr hlk (by simp [ef_b, eg_syl, q9, h1] <;> decide) dX1_isSyllable_69
    · skip
      refine lv_iload_n hx hb dX1_isSyllable_46 rfl (lv_at hl 1 rfl) ?_
      refine lv_bipush (v := 10) hx hb dX1_isSyllable_47 (by decide) ?_
      refine lv_icmp_eq (tgt := 64) hx hb dX1_isSyllable_49 (by decide) (fun h2 => ?_) (fun h2 => ?_)
      · skip
        refine lv_iconst (v := 1) hx hb dX1_isSyllable_64 (by decide) ?_
        refine lv_goto (tgt := 69) hx hb dX1_isSyllable_65 (by decide) ?_
        exact er_zret hx hb hr hlk (by simp [ef_b, eg_syl, q9, h1, h2] <;> decide) dX1_isSyllable_69
      · skip
        refine lv_iload_n hx hb dX1_isSyllable_52 rfl (lv_at hl 1 rfl) ?_
        refine lv_bipush (v := 12) hx hb dX1_isSyllable_53 (by decide) ?_
        refine lv_icmp_eq (tgt := 64) hx hb dX1_isSyllable_55 (by decide) (fun h3 => ?_) (fun h3 => ?_)
        · skip
          refine lv_iconst (v := 1) hx hb dX1_isSyllable_64 (by decide) ?_
          refine lv_goto (tgt := 69) hx hb dX1_isSyllable_65 (by decide) ?_
          exact er_zret hx hb hr hlk (by simp [ef_b, eg_syl, q9, h1, h2, h3] <;> decide) dX1_isSyllable_69
        · skip
          refine lv_iload_n hx hb dX1_isSyllable_58 rfl (lv_at hl 1 rfl) ?_
          refine lv_bipush (v := 13) hx hb dX1_isSyllable_59 (by decide) ?_
          refine lv_icmp_ne (tgt := 68) hx hb dX1_isSyllable_61 (by decide) (fun h4 => ?_) (fun h4 => ?_)
          · skip
            refine lv_iconst (v := 0) hx hb dX1_isSyllable_68 (by decide) ?_
            exact er_zret hx hb hr hlk (by simp [ef_b, eg_syl, q9, h1, h2, h3, h4] <;> decide) dX1_isSyllable_69
          · skip
            refine lv_iconst (v := 1) hx hb dX1_isSyllable_64 (by decide) ?_
            refine lv_goto (tgt := 69) hx hb dX1_isSyllable_65 (by decide) ?_
            exact er_zret hx hb hr hlk (by simp [ef_b, eg_syl, q9, h1, h2, h3, h4] <;> decide) dX1_isSyllable_69
  by_cases q10 : bf = 10
  · refine lv_tableIn (off := 66) (tgt := 70) hx hb dX1_isSyllable_4 (by rw [q10]; decide) (by rw [q10]; decide) (by rw [q10]; decide) (by decide) ?_
    refine lv_iload_n hx hb dX1_isSyllable_70 rfl (lv_at hl 1 rfl) ?_
    refine lv_bipush (v := 10) hx hb dX1_isSyllable_71 (by decide) ?_
    refine lv_icmp_eq (tgt := 82) hx hb dX1_isSyllable_73 (by decide) (fun h5 => ?_) (fun h5 => ?_)
    · skip
      refine lv_iconst (v := 1) hx hb dX1_isSyllable_82 (by decide) ?_
      refine lv_goto (tgt := 87) hx hb dX1_isSyllable_83 (by decide) ?_
      exact er_zret hx hb hr hlk (by simp [ef_b, eg_syl, q9, q10, h5] <;> decide) dX1_isSyllable_87
    · skip
      refine lv_iload_n hx hb dX1_isSyllable_76 rfl (lv_at hl 1 rfl) ?_
      refine lv_bipush (v := 11) hx hb dX1_isSyllable_77 (by decide) ?_
      refine lv_icmp_ne (tgt := 86) hx hb dX1_isSyllable_79 (by decide) (fun h6 => ?_) (fun h6 => ?_)
      · skip
        refine lv_iconst (v := 0) hx hb dX1_isSyllable_86 (by decide) ?_
        exact er_zret hx hb hr hlk (by simp [ef_b, eg_syl, q9, q10, h5, h6] <;> decide) dX1_isSyllable_87
      · skip
        refine lv_iconst (v := 1) hx hb dX1_isSyllable_82 (by decide) ?_
        refine lv_goto (tgt := 87) hx hb dX1_isSyllable_83 (by decide) ?_
        exact er_zret hx hb hr hlk (by simp [ef_b, eg_syl, q9, q10, h5, h6] <;> decide) dX1_isSyllable_87
  by_cases q11 : bf = 11
  · refine lv_tableIn (off := 84) (tgt := 88) hx hb dX1_isSyllable_4 (by rw [q11]; decide) (by rw [q11]; decide) (by rw [q11]; decide) (by decide) ?_
    refine lv_iload_n hx hb dX1_isSyllable_88 rfl (lv_at hl 1 rfl) ?_
    refine lv_bipush (v := 11) hx hb dX1_isSyllable_89 (by decide) ?_
    refine lv_icmp_ne (tgt := 98) hx hb dX1_isSyllable_91 (by decide) (fun h7 => ?_) (fun h7 => ?_)
    · skip
      refine lv_iconst (v := 0) hx hb dX1_isSyllable_98 (by decide) ?_
      exact er_zret hx hb hr hlk (by simp [ef_b, eg_syl, q9, q10, q11, h7] <;> decide) dX1_isSyllable_99
    · skip
      refine lv_iconst (v := 1) hx hb dX1_isSyllable_94 (by decide) ?_
      refine lv_goto (tgt := 99) hx hb dX1_isSyllable_95 (by decide) ?_
      exact er_zret hx hb hr hlk (by simp [ef_b, eg_syl, q9, q10, q11, h7] <;> decide) dX1_isSyllable_99
  by_cases q12 : bf = 12
  · refine lv_tableIn (off := 66) (tgt := 70) hx hb dX1_isSyllable_4 (by rw [q12]; decide) (by rw [q12]; decide) (by rw [q12]; decide) (by decide) ?_
    refine lv_iload_n hx hb dX1_isSyllable_70 rfl (lv_at hl 1 rfl) ?_
    refine lv_bipush (v := 10) hx hb dX1_isSyllable_71 (by decide) ?_
    refine lv_icmp_eq (tgt := 82) hx hb dX1_isSyllable_73 (by decide) (fun h8 => ?_) (fun h8 => ?_)
    · skip
      refine lv_iconst (v := 1) hx hb dX1_isSyllable_82 (by decide) ?_
      refine lv_goto (tgt := 87) hx hb dX1_isSyllable_83 (by decide) ?_
      exact er_zret hx hb hr hlk (by simp [ef_b, eg_syl, q9, q10, q11, q12, h8] <;> decide) dX1_isSyllable_87
    · skip
      refine lv_iload_n hx hb dX1_isSyllable_76 rfl (lv_at hl 1 rfl) ?_
      refine lv_bipush (v := 11) hx hb dX1_isSyllable_77 (by decide) ?_
      refine lv_icmp_ne (tgt := 86) hx hb dX1_isSyllable_79 (by decide) (fun h9 => ?_) (fun h9 => ?_)
      · skip
        refine lv_iconst (v := 0) hx hb dX1_isSyllable_86 (by decide) ?_
        exact er_zret hx hb hr hlk (by simp [ef_b, eg_syl, q9, q10, q11, q12, h8, h9] <;> decide) dX1_isSyllable_87
      · skip
        refine lv_iconst (v := 1) hx hb dX1_isSyllable_82 (by decide) ?_
        refine lv_goto (tgt := 87) hx hb dX1_isSyllable_83 (by decide) ?_
        exact er_zret hx hb hr hlk (by simp [ef_b, eg_syl, q9, q10, q11, q12, h8, h9] <;> decide) dX1_isSyllable_87
  by_cases q13 : bf = 13
  · refine lv_tableIn (off := 84) (tgt := 88) hx hb dX1_isSyllable_4 (by rw [q13]; decide) (by rw [q13]; decide) (by rw [q13]; decide) (by decide) ?_
    refine lv_iload_n hx hb dX1_isSyllable_88 rfl (lv_at hl 1 rfl) ?_
    refine lv_bipush (v := 11) hx hb dX1_isSyllable_89 (by decide) ?_
    refine lv_icmp_ne (tgt := 98) hx hb dX1_isSyllable_91 (by decide) (fun h10 => ?_) (fun h10 => ?_)
    · skip
      refine lv_iconst (v := 0) hx hb dX1_isSyllable_98 (by decide) ?_
      exact er_zret hx hb hr hlk (by simp [ef_b, eg_syl, q9, q10, q11, q12, q13, h10] <;> decide) dX1_isSyllable_99
    · skip
      refine lv_iconst (v := 1) hx hb dX1_isSyllable_94 (by decide) ?_
      refine lv_goto (tgt := 99) hx hb dX1_isSyllable_95 (by decide) ?_
      exact er_zret hx hb hr hlk (by simp [ef_b, eg_syl, q9, q10, q11, q12, q13, h10] <;> decide) dX1_isSyllable_99
  refine lv_tableOut (tgt := 100) hx hb dX1_isSyllable_4 (by have e9 := lv_neT q9 (show (9 : Int32).toInt = 9 by decide); have e10 := lv_neT q10 (show (10 : Int32).toInt = 10 by decide); have e11 := lv_neT q11 (show (11 : Int32).toInt = 11 by decide); have e12 := lv_neT q12 (show (12 : Int32).toInt = 12 by decide); have e13 := lv_neT q13 (show (13 : Int32).toInt = 13 by decide); omega) (by decide) ?_
  refine lv_iconst (v := 0) hx hb dX1_isSyllable_100 (by decide) ?_
  exact er_zret hx hb hr hlk (by simp [ef_b, eg_syl, q9, q10, q11, q12, q13] <;> decide) dX1_isSyllable_101

set_option maxHeartbeats 4000000 in
set_option maxRecDepth 100000 in
theorem k_X1_part (l : Launch) (D : va_G) (cI cZ cJ : ClassId) (h0 : Nat) (bf : Int32) (od ap aj : Bool) (r0 gA wA pA : Nat) (n : Nat) (g : Nat → Int32) (P : Nat → Bool) (i : Nat) (hi : i < 1000) : er_M l yX1_part (Cond.code yX1_part cX1_part 4 (some .boolean) :: eT) ({ frames := 1, cells := 0, slots := 0, locals := 21 }) D vwCl (eTy cI cZ cJ) [.ref h0, .ref r0, .int (nI i)] [(h0, .inr (1, [.int bf, .int (ef_b od), .int (ef_b ap), .int (ef_b aj)])), (r0, .inr (2, [.ref gA, .ref wA, .ref pA, .int (nI n)])), (gA, .inl (cI, 1000, .inl g)), (pA, .inl (cZ, 1000, .inl (fun j => ef_b (P j))))] (.int (ef_b (eg_part bf od aj (g i) (P i)))) := by
  refine er_of (cc := cX1_part) (maxL := 4) (ret := (some .boolean)) (by decide) rfl (Nat.le_of_ble_eq_true rfl) ?_
  intro p e s m args below meth c ls hx hb hr hts hown hlk hml hP hK hl
  have hown : s.vm.findClass RX1 = some m.cls := hown
  have hl : lv_has ls 4 [(0, .ref h0), (1, .ref r0), (2, .int (nI i))] := hl
  have L22 : ∀ (ls : Array Slot), lv_has ls 4 [(3, .int (g i)), (0, .ref h0), (1, .ref r0), (2, .int (nI i))] → (bf == 1 && g i == 2) = false → W p l e ({ frames := 1, cells := 0, slots := 0, locals := 21 }) s m args below meth c s.heap [] 0 0 (MQ below (er_Q (.int (ef_b (eg_part bf od aj (g i) (P i))))) args s 0 0 (fun _ => False)) (F0 m 22 ls []) := by
    intro ls hl f22
    refine lv_aload_n hx hb dX1_part_22 rfl (lv_at hl 1 rfl) ?_
    refine va_get (D := D) (ci := 1) (v := .int bf) (C := RX1) (T := TX1) (N := 4) hx hb hts (fun w h => List.mem_cons_of_mem _ (inX1 w h)) hown hK hP 0 rfl rfl 0 (by decide) (eT_h hts tw60) (fun _ h9 => h9) rfl dX1_part_23 ?_
    refine er_S (own := RX1) (rest := []) hx hb hml hown hts hl.1 (k_X1_isControl l D cI cZ cJ bf) tw267 tw5 tw265 tw266 yd_X1_isControl rfl rfl ⟨Nat.le_of_ble_eq_true rfl, Nat.le_of_ble_eq_true rfl⟩ er_nil hK rfl rfl (Nat.le_of_ble_eq_true rfl) ⟨Nat.zero_le _, Nat.zero_le _⟩ dX1_part_26 ?_
    refine ef_if_ne (tgt := 39) hx hb dX1_part_29 (by decide) (fun h1 => ?_) (fun h1 => ?_)
    · skip
      refine lv_iconst (v := 1) hx hb dX1_part_39 (by decide) ?_
      exact er_zret hx hb hr hlk (by simp [ef_b, eg_part, f22, h1] <;> decide) dX1_part_40
    · skip
      refine lv_iload_n hx hb dX1_part_32 rfl (lv_at hl 0 rfl) ?_
      refine er_S (own := RX1) (rest := []) hx hb hml hown hts hl.1 (k_X1_isControl l D cI cZ cJ (g i)) tw267 tw5 tw265 tw266 yd_X1_isControl rfl rfl ⟨Nat.le_of_ble_eq_true rfl, Nat.le_of_ble_eq_true rfl⟩ er_nil hK rfl rfl (Nat.le_of_ble_eq_true rfl) ⟨Nat.zero_le _, Nat.zero_le _⟩ dX1_part_33 ?_
      refine ef_if_eq (tgt := 41) hx hb dX1_part_36 (by decide) (fun h2 => ?_) (fun h2 => ?_)
      · skip
        refine lv_aload_n hx hb dX1_part_41 rfl (lv_at hl 1 rfl) ?_
        refine lv_iload_n hx hb dX1_part_42 rfl (lv_at hl 0 rfl) ?_
        refine er_V (own := RX1) (C := RX1) (b := h0) (rest := []) hx hb hml hown hts hl.1 (k_X1_isSyllable l D cI cZ cJ h0 bf od ap aj (g i)) tw271 tw5 tw268 tw270 ts_X1_isSyllable yd_X1_isSyllable rfl rfl ⟨Nat.le_of_ble_eq_true rfl, Nat.le_of_ble_eq_true rfl⟩ (hP.sub [0] rfl) hK hP (q0 := 0) rfl rfl rfl rfl (Nat.le_of_ble_eq_true rfl) ⟨Nat.zero_le _, Nat.zero_le _⟩ dX1_part_43 ?_
        refine ef_if_ne (tgt := 107) hx hb dX1_part_46 (by decide) (fun h3 => ?_) (fun h3 => ?_)
        · skip
          refine lv_iconst (v := 0) hx hb dX1_part_107 (by decide) ?_
          exact er_zret hx hb hr hlk (by simp [ef_b, eg_part, f22, h1, h2, h3] <;> decide) dX1_part_108
        · skip
          refine lv_iload_n hx hb dX1_part_49 rfl (lv_at hl 0 rfl) ?_
          refine lv_iconst (v := 4) hx hb dX1_part_50 (by decide) ?_
          refine lv_icmp_eq (tgt := 107) hx hb dX1_part_51 (by decide) (fun h4 => ?_) (fun h4 => ?_)
          · skip
            refine lv_iconst (v := 0) hx hb dX1_part_107 (by decide) ?_
            exact er_zret hx hb hr hlk (by simp [ef_b, eg_part, f22, h1, h2, h3, h4] <;> decide) dX1_part_108
          · skip
            refine lv_iload_n hx hb dX1_part_54 rfl (lv_at hl 0 rfl) ?_
            refine lv_iconst (v := 5) hx hb dX1_part_55 (by decide) ?_
            refine lv_icmp_eq (tgt := 107) hx hb dX1_part_56 (by decide) (fun h5 => ?_) (fun h5 => ?_)
            · skip
              refine lv_iconst (v := 0) hx hb dX1_part_107 (by decide) ?_
              exact er_zret hx hb hr hlk (by simp [ef_b, eg_part, f22, h1, h2, h3, h4, h5] <;> decide) dX1_part_108
            · skip
              refine lv_iload_n hx hb dX1_part_59 rfl (lv_at hl 0 rfl) ?_
              refine lv_bipush (v := 8) hx hb dX1_part_60 (by decide) ?_
              refine lv_icmp_eq (tgt := 107) hx hb dX1_part_62 (by decide) (fun h6 => ?_) (fun h6 => ?_)
              · skip
                refine lv_iconst (v := 0) hx hb dX1_part_107 (by decide) ?_
                exact er_zret hx hb hr hlk (by simp [ef_b, eg_part, f22, h1, h2, h3, h4, h5, h6] <;> decide) dX1_part_108
              · skip
                refine lv_aload_n hx hb dX1_part_65 rfl (lv_at hl 1 rfl) ?_
                refine va_get (D := D) (ci := 1) (v := .int bf) (C := RX1) (T := TX1) (N := 4) hx hb hts (fun w h => List.mem_cons_of_mem _ (inX1 w h)) hown hK hP 0 rfl rfl 0 (by decide) (eT_h hts tw60) (fun _ h9 => h9) rfl dX1_part_66 ?_
                refine lv_bipush (v := 7) hx hb dX1_part_69 (by decide) ?_
                refine lv_icmp_eq (tgt := 107) hx hb dX1_part_71 (by decide) (fun h7 => ?_) (fun h7 => ?_)
                · skip
                  refine lv_iconst (v := 0) hx hb dX1_part_107 (by decide) ?_
                  exact er_zret hx hb hr hlk (by simp [ef_b, eg_part, f22, h1, h2, h3, h4, h5, h6, h7] <;> decide) dX1_part_108
                · skip
                  refine lv_aload_n hx hb dX1_part_74 rfl (lv_at hl 1 rfl) ?_
                  refine va_get (D := D) (ci := 1) (v := .int (ef_b aj)) (C := RX1) (T := TX1) (N := 4) hx hb hts (fun w h => List.mem_cons_of_mem _ (inX1 w h)) hown hK hP 0 rfl rfl 3 (by decide) (eT_h hts tw63) (fun _ h9 => h9) rfl dX1_part_75 ?_
                  refine ef_if_eq (tgt := 90) hx hb dX1_part_78 (by decide) (fun h8 => ?_) (fun h8 => ?_)
                  · skip
                    refine lv_aload_n hx hb dX1_part_90 rfl (lv_at hl 1 rfl) ?_
                    refine va_get (D := D) (ci := 1) (v := .int (ef_b od)) (C := RX1) (T := TX1) (N := 4) hx hb hts (fun w h => List.mem_cons_of_mem _ (inX1 w h)) hown hK hP 0 rfl rfl 1 (by decide) (eT_h hts tw61) (fun _ h9 => h9) rfl dX1_part_91 ?_
                    refine ef_if_eq (tgt := 103) hx hb dX1_part_94 (by decide) (fun h9 => ?_) (fun h9 => ?_)
                    · skip
                      refine lv_iconst (v := 1) hx hb dX1_part_103 (by decide) ?_
                      refine lv_goto (tgt := 108) hx hb dX1_part_104 (by decide) ?_
                      exact er_zret hx hb hr hlk (by simp [ef_b, eg_part, f22, h1, h2, h3, h4, h5, h6, h7, h8, h9] <;> decide) dX1_part_108
                    · skip
                      refine lv_iload_n hx hb dX1_part_97 rfl (lv_at hl 0 rfl) ?_
                      refine lv_bipush (v := 6) hx hb dX1_part_98 (by decide) ?_
                      refine lv_icmp_eq (tgt := 107) hx hb dX1_part_100 (by decide) (fun h10 => ?_) (fun h10 => ?_)
                      · skip
                        refine lv_iconst (v := 0) hx hb dX1_part_107 (by decide) ?_
                        exact er_zret hx hb hr hlk (by simp [ef_b, eg_part, f22, h1, h2, h3, h4, h5, h6, h7, h8, h9, h10] <;> decide) dX1_part_108
                      · skip
                        refine lv_iconst (v := 1) hx hb dX1_part_103 (by decide) ?_
                        refine lv_goto (tgt := 108) hx hb dX1_part_104 (by decide) ?_
                        exact er_zret hx hb hr hlk (by simp [ef_b, eg_part, f22, h1, h2, h3, h4, h5, h6, h7, h8, h9, h10] <;> decide) dX1_part_108
                  · skip
                    refine lv_aload_n hx hb dX1_part_81 rfl (lv_at hl 2 rfl) ?_
                    refine va_get (D := D) (ci := 2) (v := .ref pA) (C := RX2) (T := TX2) (N := 4) hx hb hts (fun w h => List.mem_cons_of_mem _ (inX2 w h)) hown hK hP 1 rfl rfl 2 (by decide) (eT_h hts tw33) (fun _ h9 => h9) rfl dX1_part_82 ?_
                    refine lv_iload_n hx hb dX1_part_85 rfl (lv_at hl 3 rfl) ?_
                    refine va_zald hx hb hK hP 3 1 rfl rfl (vp_in_nI (by omega) (by decide)) dX1_part_86 ?_
                    refine ef_eqi (y := ef_b (P i)) (by rw [nI_clamp (by omega)]) ?_
                    refine ef_if_ne (tgt := 107) hx hb dX1_part_87 (by decide) (fun h11 => ?_) (fun h11 => ?_)
                    · skip
                      refine lv_iconst (v := 0) hx hb dX1_part_107 (by decide) ?_
                      exact er_zret hx hb hr hlk (by simp [ef_b, eg_part, f22, h1, h2, h3, h4, h5, h6, h7, h8, h11] <;> decide) dX1_part_108
                    · skip
                      refine lv_aload_n hx hb dX1_part_90 rfl (lv_at hl 1 rfl) ?_
                      refine va_get (D := D) (ci := 1) (v := .int (ef_b od)) (C := RX1) (T := TX1) (N := 4) hx hb hts (fun w h => List.mem_cons_of_mem _ (inX1 w h)) hown hK hP 0 rfl rfl 1 (by decide) (eT_h hts tw61) (fun _ h9 => h9) rfl dX1_part_91 ?_
                      refine ef_if_eq (tgt := 103) hx hb dX1_part_94 (by decide) (fun h12 => ?_) (fun h12 => ?_)
                      · skip
                        refine lv_iconst (v := 1) hx hb dX1_part_103 (by decide) ?_
                        refine lv_goto (tgt := 108) hx hb dX1_part_104 (by decide) ?_
                        exact er_zret hx hb hr hlk (by simp [ef_b, eg_part, f22, h1, h2, h3, h4, h5, h6, h7, h8, h11, h12] <;> decide) dX1_part_108
                      · skip
                        refine lv_iload_n hx hb dX1_part_97 rfl (lv_at hl 0 rfl) ?_
                        refine lv_bipush (v := 6) hx hb dX1_part_98 (by decide) ?_
                        refine lv_icmp_eq (tgt := 107) hx hb dX1_part_100 (by decide) (fun h13 => ?_) (fun h13 => ?_)
                        · skip
                          refine lv_iconst (v := 0) hx hb dX1_part_107 (by decide) ?_
                          exact er_zret hx hb hr hlk (by simp [ef_b, eg_part, f22, h1, h2, h3, h4, h5, h6, h7, h8, h11, h12, h13] <;> decide) dX1_part_108
                        · skip
                          refine lv_iconst (v := 1) hx hb dX1_part_103 (by decide) ?_
                          refine lv_goto (tgt := 108) hx hb dX1_part_104 (by decide) ?_
                          exact er_zret hx hb hr hlk (by simp [ef_b, eg_part, f22, h1, h2, h3, h4, h5, h6, h7, h8, h11, h12, h13] <;> decide) dX1_part_108
      · skip
        refine lv_iconst (v := 1) hx hb dX1_part_39 (by decide) ?_
        exact er_zret hx hb hr hlk (by simp [ef_b, eg_part, f22, h1, h2] <;> decide) dX1_part_40
  refine lv_aload_n hx hb dX1_part_0 rfl (lv_at hl 1 rfl) ?_
  refine va_get (D := D) (ci := 2) (v := .ref gA) (C := RX2) (T := TX2) (N := 4) hx hb hts (fun w h => List.mem_cons_of_mem _ (inX2 w h)) hown hK hP 1 rfl rfl 0 (by decide) (eT_h hts tw28) (fun _ h9 => h9) rfl dX1_part_1 ?_
  refine lv_iload_n hx hb dX1_part_4 rfl (lv_at hl 2 rfl) ?_
  refine va_iald hx hb hK hP 2 0 rfl rfl (vp_in_nI (by omega) (by decide)) dX1_part_5 ?_
  refine ef_eqi (y := g i) (by rw [nI_clamp (by omega)]) ?_
  refine lv_istore_n (lv' := [(3, .int (g i)), (0, .ref h0), (1, .ref r0), (2, .int (nI i))]) hx hb dX1_part_6 rfl hl (Nat.le_of_ble_eq_true rfl) rfl (fun ls hl => ?_)
  refine lv_aload_n hx hb dX1_part_7 rfl (lv_at hl 1 rfl) ?_
  refine va_get (D := D) (ci := 1) (v := .int bf) (C := RX1) (T := TX1) (N := 4) hx hb hts (fun w h => List.mem_cons_of_mem _ (inX1 w h)) hown hK hP 0 rfl rfl 0 (by decide) (eT_h hts tw60) (fun _ h9 => h9) rfl dX1_part_8 ?_
  refine lv_iconst (v := 1) hx hb dX1_part_11 (by decide) ?_
  refine lv_icmp_ne (tgt := 22) hx hb dX1_part_12 (by decide) (fun h14 => ?_) (fun h14 => ?_)
  · skip
    exact L22  ls hl (by simp [h14])
  · skip
    refine lv_iload_n hx hb dX1_part_15 rfl (lv_at hl 0 rfl) ?_
    refine lv_iconst (v := 2) hx hb dX1_part_16 (by decide) ?_
    refine lv_icmp_ne (tgt := 22) hx hb dX1_part_17 (by decide) (fun h15 => ?_) (fun h15 => ?_)
    · skip
      exact L22  ls hl (by simp [h14, h15])
    · skip
      refine lv_iconst (v := 0) hx hb dX1_part_20 (by decide) ?_
      exact er_zret hx hb hr hlk (by simp [ef_b, eg_part, h14, h15] <;> decide) dX1_part_21

set_option maxHeartbeats 4000000 in
set_option maxRecDepth 100000 in
theorem k_X4_joinsLetters (l : Launch) (D : va_G) (cI cZ cJ : ClassId) (h0 : Nat) (bf la lb : Int32) (od : Bool) (x y : Int32) : er_M l yX4_joinsLetters (Cond.code yX4_joinsLetters cX4_joinsLetters 3 (some .boolean) :: eT) ({ frames := 2, cells := 0, slots := 0, locals := 40 }) D vwCl (eTy cI cZ cJ) [.ref h0, .int x, .int y] [(h0, .inr (3, [.int bf, .int la, .int lb, .int (ef_b od)]))] (.int (ef_b (ew_jl la lb x y))) := by
  refine er_of (cc := cX4_joinsLetters) (maxL := 3) (ret := (some .boolean)) (by decide) rfl (Nat.le_of_ble_eq_true rfl) ?_
  intro p e s m args below meth c ls hx hb hr hts hown hlk hml hP hK hl
  have hown : s.vm.findClass RX4 = some m.cls := hown
  have hl : lv_has ls 3 [(0, .ref h0), (1, .int x), (2, .int y)] := hl
  refine lv_aload_n hx hb dX4_joinsLetters_0 rfl (lv_at hl 0 rfl) ?_
  refine va_get (D := D) (ci := 3) (v := .int la) (C := RX4) (T := TX4) (N := 4) hx hb hts (fun w h => List.mem_cons_of_mem _ (inX4 w h)) hown hK hP 0 rfl rfl 1 (by decide) (eT_h hts tw96) (fun _ h9 => h9) rfl dX4_joinsLetters_1 ?_
  refine er_S (own := RX4) (rest := []) hx hb hml hown hts hl.1 (k_X4_isLetter l D cI cZ cJ la) tw290 tw6 tw288 tw289 yd_X4_isLetter rfl rfl ⟨Nat.le_of_ble_eq_true rfl, Nat.le_of_ble_eq_true rfl⟩ er_nil hK rfl rfl (Nat.le_of_ble_eq_true rfl) ⟨Nat.zero_le _, Nat.zero_le _⟩ dX4_joinsLetters_4 ?_
  refine ef_if_eq (tgt := 37) hx hb dX4_joinsLetters_7 (by decide) (fun h1 => ?_) (fun h1 => ?_)
  · skip
    refine lv_aload_n hx hb dX4_joinsLetters_37 rfl (lv_at hl 0 rfl) ?_
    refine va_get (D := D) (ci := 3) (v := .int lb) (C := RX4) (T := TX4) (N := 4) hx hb hts (fun w h => List.mem_cons_of_mem _ (inX4 w h)) hown hK hP 0 rfl rfl 2 (by decide) (eT_h hts tw97) (fun _ h9 => h9) rfl dX4_joinsLetters_38 ?_
    refine er_S (own := RX4) (rest := []) hx hb hml hown hts hl.1 (k_X4_isLetter l D cI cZ cJ lb) tw290 tw6 tw288 tw289 yd_X4_isLetter rfl rfl ⟨Nat.le_of_ble_eq_true rfl, Nat.le_of_ble_eq_true rfl⟩ er_nil hK rfl rfl (Nat.le_of_ble_eq_true rfl) ⟨Nat.zero_le _, Nat.zero_le _⟩ dX4_joinsLetters_41 ?_
    refine ef_if_eq (tgt := 68) hx hb dX4_joinsLetters_44 (by decide) (fun h2 => ?_) (fun h2 => ?_)
    · skip
      refine lv_iconst (v := 0) hx hb dX4_joinsLetters_68 (by decide) ?_
      exact er_zret hx hb hr hlk (by simp [ef_b, ew_jl, h1, h2] <;> decide) dX4_joinsLetters_69
    · skip
      refine lv_aload_n hx hb dX4_joinsLetters_47 rfl (lv_at hl 0 rfl) ?_
      refine va_get (D := D) (ci := 3) (v := .int la) (C := RX4) (T := TX4) (N := 4) hx hb hts (fun w h => List.mem_cons_of_mem _ (inX4 w h)) hown hK hP 0 rfl rfl 1 (by decide) (eT_h hts tw96) (fun _ h9 => h9) rfl dX4_joinsLetters_48 ?_
      refine er_S (own := RX4) (rest := []) hx hb hml hown hts hl.1 (k_X4_isMidLetter l D cI cZ cJ la) tw293 tw6 tw291 tw292 yd_X4_isMidLetter rfl rfl ⟨Nat.le_of_ble_eq_true rfl, Nat.le_of_ble_eq_true rfl⟩ er_nil hK rfl rfl (Nat.le_of_ble_eq_true rfl) ⟨Nat.zero_le _, Nat.zero_le _⟩ dX4_joinsLetters_51 ?_
      refine ef_if_eq (tgt := 68) hx hb dX4_joinsLetters_54 (by decide) (fun h3 => ?_) (fun h3 => ?_)
      · skip
        refine lv_iconst (v := 0) hx hb dX4_joinsLetters_68 (by decide) ?_
        exact er_zret hx hb hr hlk (by simp [ef_b, ew_jl, h1, h2, h3] <;> decide) dX4_joinsLetters_69
      · skip
        refine lv_iload_n hx hb dX4_joinsLetters_57 rfl (lv_at hl 1 rfl) ?_
        refine er_S (own := RX4) (rest := []) hx hb hml hown hts hl.1 (k_X4_isLetter l D cI cZ cJ x) tw290 tw6 tw288 tw289 yd_X4_isLetter rfl rfl ⟨Nat.le_of_ble_eq_true rfl, Nat.le_of_ble_eq_true rfl⟩ er_nil hK rfl rfl (Nat.le_of_ble_eq_true rfl) ⟨Nat.zero_le _, Nat.zero_le _⟩ dX4_joinsLetters_58 ?_
        refine ef_if_eq (tgt := 68) hx hb dX4_joinsLetters_61 (by decide) (fun h4 => ?_) (fun h4 => ?_)
        · skip
          refine lv_iconst (v := 0) hx hb dX4_joinsLetters_68 (by decide) ?_
          exact er_zret hx hb hr hlk (by simp [ef_b, ew_jl, h1, h2, h3, h4] <;> decide) dX4_joinsLetters_69
        · skip
          refine lv_iconst (v := 1) hx hb dX4_joinsLetters_64 (by decide) ?_
          refine lv_goto (tgt := 69) hx hb dX4_joinsLetters_65 (by decide) ?_
          exact er_zret hx hb hr hlk (by simp [ef_b, ew_jl, h1, h2, h3, h4] <;> decide) dX4_joinsLetters_69
  · skip
    refine lv_iload_n hx hb dX4_joinsLetters_10 rfl (lv_at hl 1 rfl) ?_
    refine er_S (own := RX4) (rest := []) hx hb hml hown hts hl.1 (k_X4_isLetter l D cI cZ cJ x) tw290 tw6 tw288 tw289 yd_X4_isLetter rfl rfl ⟨Nat.le_of_ble_eq_true rfl, Nat.le_of_ble_eq_true rfl⟩ er_nil hK rfl rfl (Nat.le_of_ble_eq_true rfl) ⟨Nat.zero_le _, Nat.zero_le _⟩ dX4_joinsLetters_11 ?_
    refine ef_if_ne (tgt := 31) hx hb dX4_joinsLetters_14 (by decide) (fun h5 => ?_) (fun h5 => ?_)
    · skip
      refine lv_iconst (v := 1) hx hb dX4_joinsLetters_31 (by decide) ?_
      refine lv_goto (tgt := 36) hx hb dX4_joinsLetters_32 (by decide) ?_
      exact er_zret hx hb hr hlk (by simp [ef_b, ew_jl, h1, h5] <;> decide) dX4_joinsLetters_36
    · skip
      refine lv_iload_n hx hb dX4_joinsLetters_17 rfl (lv_at hl 1 rfl) ?_
      refine er_S (own := RX4) (rest := []) hx hb hml hown hts hl.1 (k_X4_isMidLetter l D cI cZ cJ x) tw293 tw6 tw291 tw292 yd_X4_isMidLetter rfl rfl ⟨Nat.le_of_ble_eq_true rfl, Nat.le_of_ble_eq_true rfl⟩ er_nil hK rfl rfl (Nat.le_of_ble_eq_true rfl) ⟨Nat.zero_le _, Nat.zero_le _⟩ dX4_joinsLetters_18 ?_
      refine ef_if_eq (tgt := 35) hx hb dX4_joinsLetters_21 (by decide) (fun h6 => ?_) (fun h6 => ?_)
      · skip
        refine lv_iconst (v := 0) hx hb dX4_joinsLetters_35 (by decide) ?_
        exact er_zret hx hb hr hlk (by simp [ef_b, ew_jl, h1, h5, h6] <;> decide) dX4_joinsLetters_36
      · skip
        refine lv_iload_n hx hb dX4_joinsLetters_24 rfl (lv_at hl 2 rfl) ?_
        refine er_S (own := RX4) (rest := []) hx hb hml hown hts hl.1 (k_X4_isLetter l D cI cZ cJ y) tw290 tw6 tw288 tw289 yd_X4_isLetter rfl rfl ⟨Nat.le_of_ble_eq_true rfl, Nat.le_of_ble_eq_true rfl⟩ er_nil hK rfl rfl (Nat.le_of_ble_eq_true rfl) ⟨Nat.zero_le _, Nat.zero_le _⟩ dX4_joinsLetters_25 ?_
        refine ef_if_eq (tgt := 35) hx hb dX4_joinsLetters_28 (by decide) (fun h7 => ?_) (fun h7 => ?_)
        · skip
          refine lv_iconst (v := 0) hx hb dX4_joinsLetters_35 (by decide) ?_
          exact er_zret hx hb hr hlk (by simp [ef_b, ew_jl, h1, h5, h6, h7] <;> decide) dX4_joinsLetters_36
        · skip
          refine lv_iconst (v := 1) hx hb dX4_joinsLetters_31 (by decide) ?_
          refine lv_goto (tgt := 36) hx hb dX4_joinsLetters_32 (by decide) ?_
          exact er_zret hx hb hr hlk (by simp [ef_b, ew_jl, h1, h5, h6, h7] <;> decide) dX4_joinsLetters_36

set_option maxHeartbeats 4000000 in
set_option maxRecDepth 100000 in
theorem k_X4_joinsHebrew (l : Launch) (D : va_G) (cI cZ cJ : ClassId) (h0 : Nat) (bf la lb : Int32) (od : Bool) (x y : Int32) : er_M l yX4_joinsHebrew (Cond.code yX4_joinsHebrew cX4_joinsHebrew 3 (some .boolean) :: eT) ({ frames := 0, cells := 0, slots := 0, locals := 0 }) D vwCl (eTy cI cZ cJ) [.ref h0, .int x, .int y] [(h0, .inr (3, [.int bf, .int la, .int lb, .int (ef_b od)]))] (.int (ef_b (ew_jh la lb x y))) := by
  refine er_of (cc := cX4_joinsHebrew) (maxL := 3) (ret := (some .boolean)) (by decide) rfl (Nat.le_of_ble_eq_true rfl) ?_
  intro p e s m args below meth c ls hx hb hr hts hown hlk hml hP hK hl
  have hown : s.vm.findClass RX4 = some m.cls := hown
  have hl : lv_has ls 3 [(0, .ref h0), (1, .int x), (2, .int y)] := hl
  refine lv_aload_n hx hb dX4_joinsHebrew_0 rfl (lv_at hl 0 rfl) ?_
  refine va_get (D := D) (ci := 3) (v := .int la) (C := RX4) (T := TX4) (N := 4) hx hb hts (fun w h => List.mem_cons_of_mem _ (inX4 w h)) hown hK hP 0 rfl rfl 1 (by decide) (eT_h hts tw96) (fun _ h9 => h9) rfl dX4_joinsHebrew_1 ?_
  refine lv_bipush (v := 9) hx hb dX4_joinsHebrew_4 (by decide) ?_
  refine lv_icmp_ne (tgt := 33) hx hb dX4_joinsHebrew_6 (by decide) (fun h1 => ?_) (fun h1 => ?_)
  · skip
    refine lv_aload_n hx hb dX4_joinsHebrew_33 rfl (lv_at hl 0 rfl) ?_
    refine va_get (D := D) (ci := 3) (v := .int lb) (C := RX4) (T := TX4) (N := 4) hx hb hts (fun w h => List.mem_cons_of_mem _ (inX4 w h)) hown hK hP 0 rfl rfl 2 (by decide) (eT_h hts tw97) (fun _ h9 => h9) rfl dX4_joinsHebrew_34 ?_
    refine lv_bipush (v := 9) hx hb dX4_joinsHebrew_37 (by decide) ?_
    refine lv_icmp_ne (tgt := 61) hx hb dX4_joinsHebrew_39 (by decide) (fun h2 => ?_) (fun h2 => ?_)
    · skip
      refine lv_iconst (v := 0) hx hb dX4_joinsHebrew_61 (by decide) ?_
      exact er_zret hx hb hr hlk (by simp [ef_b, ew_jh, h1, h2] <;> decide) dX4_joinsHebrew_62
    · skip
      refine lv_aload_n hx hb dX4_joinsHebrew_42 rfl (lv_at hl 0 rfl) ?_
      refine va_get (D := D) (ci := 3) (v := .int la) (C := RX4) (T := TX4) (N := 4) hx hb hts (fun w h => List.mem_cons_of_mem _ (inX4 w h)) hown hK hP 0 rfl rfl 1 (by decide) (eT_h hts tw96) (fun _ h9 => h9) rfl dX4_joinsHebrew_43 ?_
      refine lv_bipush (v := 15) hx hb dX4_joinsHebrew_46 (by decide) ?_
      refine lv_icmp_ne (tgt := 61) hx hb dX4_joinsHebrew_48 (by decide) (fun h3 => ?_) (fun h3 => ?_)
      · skip
        refine lv_iconst (v := 0) hx hb dX4_joinsHebrew_61 (by decide) ?_
        exact er_zret hx hb hr hlk (by simp [ef_b, ew_jh, h1, h2, h3] <;> decide) dX4_joinsHebrew_62
      · skip
        refine lv_iload_n hx hb dX4_joinsHebrew_51 rfl (lv_at hl 1 rfl) ?_
        refine lv_bipush (v := 9) hx hb dX4_joinsHebrew_52 (by decide) ?_
        refine lv_icmp_ne (tgt := 61) hx hb dX4_joinsHebrew_54 (by decide) (fun h4 => ?_) (fun h4 => ?_)
        · skip
          refine lv_iconst (v := 0) hx hb dX4_joinsHebrew_61 (by decide) ?_
          exact er_zret hx hb hr hlk (by simp [ef_b, ew_jh, h1, h2, h3, h4] <;> decide) dX4_joinsHebrew_62
        · skip
          refine lv_iconst (v := 1) hx hb dX4_joinsHebrew_57 (by decide) ?_
          refine lv_goto (tgt := 62) hx hb dX4_joinsHebrew_58 (by decide) ?_
          exact er_zret hx hb hr hlk (by simp [ef_b, ew_jh, h1, h2, h3, h4] <;> decide) dX4_joinsHebrew_62
  · skip
    refine lv_iload_n hx hb dX4_joinsHebrew_9 rfl (lv_at hl 1 rfl) ?_
    refine lv_bipush (v := 14) hx hb dX4_joinsHebrew_10 (by decide) ?_
    refine lv_icmp_eq (tgt := 27) hx hb dX4_joinsHebrew_12 (by decide) (fun h5 => ?_) (fun h5 => ?_)
    · skip
      refine lv_iconst (v := 1) hx hb dX4_joinsHebrew_27 (by decide) ?_
      refine lv_goto (tgt := 32) hx hb dX4_joinsHebrew_28 (by decide) ?_
      exact er_zret hx hb hr hlk (by simp [ef_b, ew_jh, h1, h5] <;> decide) dX4_joinsHebrew_32
    · skip
      refine lv_iload_n hx hb dX4_joinsHebrew_15 rfl (lv_at hl 1 rfl) ?_
      refine lv_bipush (v := 15) hx hb dX4_joinsHebrew_16 (by decide) ?_
      refine lv_icmp_ne (tgt := 31) hx hb dX4_joinsHebrew_18 (by decide) (fun h6 => ?_) (fun h6 => ?_)
      · skip
        refine lv_iconst (v := 0) hx hb dX4_joinsHebrew_31 (by decide) ?_
        exact er_zret hx hb hr hlk (by simp [ef_b, ew_jh, h1, h5, h6] <;> decide) dX4_joinsHebrew_32
      · skip
        refine lv_iload_n hx hb dX4_joinsHebrew_21 rfl (lv_at hl 2 rfl) ?_
        refine lv_bipush (v := 9) hx hb dX4_joinsHebrew_22 (by decide) ?_
        refine lv_icmp_ne (tgt := 31) hx hb dX4_joinsHebrew_24 (by decide) (fun h7 => ?_) (fun h7 => ?_)
        · skip
          refine lv_iconst (v := 0) hx hb dX4_joinsHebrew_31 (by decide) ?_
          exact er_zret hx hb hr hlk (by simp [ef_b, ew_jh, h1, h5, h6, h7] <;> decide) dX4_joinsHebrew_32
        · skip
          refine lv_iconst (v := 1) hx hb dX4_joinsHebrew_27 (by decide) ?_
          refine lv_goto (tgt := 32) hx hb dX4_joinsHebrew_28 (by decide) ?_
          exact er_zret hx hb hr hlk (by simp [ef_b, ew_jh, h1, h5, h6, h7] <;> decide) dX4_joinsHebrew_32

set_option maxHeartbeats 4000000 in
set_option maxRecDepth 100000 in
theorem k_X4_joinsNumbers (l : Launch) (D : va_G) (cI cZ cJ : ClassId) (h0 : Nat) (bf la lb : Int32) (od : Bool) (x y : Int32) : er_M l yX4_joinsNumbers (Cond.code yX4_joinsNumbers cX4_joinsNumbers 3 (some .boolean) :: eT) ({ frames := 2, cells := 0, slots := 0, locals := 40 }) D vwCl (eTy cI cZ cJ) [.ref h0, .int x, .int y] [(h0, .inr (3, [.int bf, .int la, .int lb, .int (ef_b od)]))] (.int (ef_b (ew_jn la lb x y))) := by
  refine er_of (cc := cX4_joinsNumbers) (maxL := 3) (ret := (some .boolean)) (by decide) rfl (Nat.le_of_ble_eq_true rfl) ?_
  intro p e s m args below meth c ls hx hb hr hts hown hlk hml hP hK hl
  have hown : s.vm.findClass RX4 = some m.cls := hown
  have hl : lv_has ls 3 [(0, .ref h0), (1, .int x), (2, .int y)] := hl
  refine lv_aload_n hx hb dX4_joinsNumbers_0 rfl (lv_at hl 0 rfl) ?_
  refine va_get (D := D) (ci := 3) (v := .int la) (C := RX4) (T := TX4) (N := 4) hx hb hts (fun w h => List.mem_cons_of_mem _ (inX4 w h)) hown hK hP 0 rfl rfl 1 (by decide) (eT_h hts tw96) (fun _ h9 => h9) rfl dX4_joinsNumbers_1 ?_
  refine lv_bipush (v := 16) hx hb dX4_joinsNumbers_4 (by decide) ?_
  refine lv_icmp_ne (tgt := 41) hx hb dX4_joinsNumbers_6 (by decide) (fun h1 => ?_) (fun h1 => ?_)
  · skip
    refine lv_aload_n hx hb dX4_joinsNumbers_41 rfl (lv_at hl 0 rfl) ?_
    refine va_get (D := D) (ci := 3) (v := .int la) (C := RX4) (T := TX4) (N := 4) hx hb hts (fun w h => List.mem_cons_of_mem _ (inX4 w h)) hown hK hP 0 rfl rfl 1 (by decide) (eT_h hts tw96) (fun _ h9 => h9) rfl dX4_joinsNumbers_42 ?_
    refine er_S (own := RX4) (rest := []) hx hb hml hown hts hl.1 (k_X4_isLetter l D cI cZ cJ la) tw290 tw6 tw288 tw289 yd_X4_isLetter rfl rfl ⟨Nat.le_of_ble_eq_true rfl, Nat.le_of_ble_eq_true rfl⟩ er_nil hK rfl rfl (Nat.le_of_ble_eq_true rfl) ⟨Nat.zero_le _, Nat.zero_le _⟩ dX4_joinsNumbers_45 ?_
    refine ef_if_eq (tgt := 63) hx hb dX4_joinsNumbers_48 (by decide) (fun h2 => ?_) (fun h2 => ?_)
    · skip
      refine lv_aload_n hx hb dX4_joinsNumbers_63 rfl (lv_at hl 0 rfl) ?_
      refine va_get (D := D) (ci := 3) (v := .int lb) (C := RX4) (T := TX4) (N := 4) hx hb hts (fun w h => List.mem_cons_of_mem _ (inX4 w h)) hown hK hP 0 rfl rfl 2 (by decide) (eT_h hts tw97) (fun _ h9 => h9) rfl dX4_joinsNumbers_64 ?_
      refine lv_bipush (v := 16) hx hb dX4_joinsNumbers_67 (by decide) ?_
      refine lv_icmp_ne (tgt := 92) hx hb dX4_joinsNumbers_69 (by decide) (fun h3 => ?_) (fun h3 => ?_)
      · skip
        refine lv_iconst (v := 0) hx hb dX4_joinsNumbers_92 (by decide) ?_
        exact er_zret hx hb hr hlk (by simp [ef_b, ew_jn, h1, h2, h3] <;> decide) dX4_joinsNumbers_93
      · skip
        refine lv_aload_n hx hb dX4_joinsNumbers_72 rfl (lv_at hl 0 rfl) ?_
        refine va_get (D := D) (ci := 3) (v := .int la) (C := RX4) (T := TX4) (N := 4) hx hb hts (fun w h => List.mem_cons_of_mem _ (inX4 w h)) hown hK hP 0 rfl rfl 1 (by decide) (eT_h hts tw96) (fun _ h9 => h9) rfl dX4_joinsNumbers_73 ?_
        refine er_S (own := RX4) (rest := []) hx hb hml hown hts hl.1 (k_X4_isMidNumber l D cI cZ cJ la) tw307 tw6 tw305 tw306 yd_X4_isMidNumber rfl rfl ⟨Nat.le_of_ble_eq_true rfl, Nat.le_of_ble_eq_true rfl⟩ er_nil hK rfl rfl (Nat.le_of_ble_eq_true rfl) ⟨Nat.zero_le _, Nat.zero_le _⟩ dX4_joinsNumbers_76 ?_
        refine ef_if_eq (tgt := 92) hx hb dX4_joinsNumbers_79 (by decide) (fun h4 => ?_) (fun h4 => ?_)
        · skip
          refine lv_iconst (v := 0) hx hb dX4_joinsNumbers_92 (by decide) ?_
          exact er_zret hx hb hr hlk (by simp [ef_b, ew_jn, h1, h2, h3, h4] <;> decide) dX4_joinsNumbers_93
        · skip
          refine lv_iload_n hx hb dX4_joinsNumbers_82 rfl (lv_at hl 1 rfl) ?_
          refine lv_bipush (v := 16) hx hb dX4_joinsNumbers_83 (by decide) ?_
          refine lv_icmp_ne (tgt := 92) hx hb dX4_joinsNumbers_85 (by decide) (fun h5 => ?_) (fun h5 => ?_)
          · skip
            refine lv_iconst (v := 0) hx hb dX4_joinsNumbers_92 (by decide) ?_
            exact er_zret hx hb hr hlk (by simp [ef_b, ew_jn, h1, h2, h3, h4, h5] <;> decide) dX4_joinsNumbers_93
          · skip
            refine lv_iconst (v := 1) hx hb dX4_joinsNumbers_88 (by decide) ?_
            refine lv_goto (tgt := 93) hx hb dX4_joinsNumbers_89 (by decide) ?_
            exact er_zret hx hb hr hlk (by simp [ef_b, ew_jn, h1, h2, h3, h4, h5] <;> decide) dX4_joinsNumbers_93
    · skip
      refine lv_iload_n hx hb dX4_joinsNumbers_51 rfl (lv_at hl 1 rfl) ?_
      refine lv_bipush (v := 16) hx hb dX4_joinsNumbers_52 (by decide) ?_
      refine lv_icmp_ne (tgt := 61) hx hb dX4_joinsNumbers_54 (by decide) (fun h6 => ?_) (fun h6 => ?_)
      · skip
        refine lv_iconst (v := 0) hx hb dX4_joinsNumbers_61 (by decide) ?_
        exact er_zret hx hb hr hlk (by simp [ef_b, ew_jn, h1, h2, h6] <;> decide) dX4_joinsNumbers_62
      · skip
        refine lv_iconst (v := 1) hx hb dX4_joinsNumbers_57 (by decide) ?_
        refine lv_goto (tgt := 62) hx hb dX4_joinsNumbers_58 (by decide) ?_
        exact er_zret hx hb hr hlk (by simp [ef_b, ew_jn, h1, h2, h6] <;> decide) dX4_joinsNumbers_62
  · skip
    refine lv_iload_n hx hb dX4_joinsNumbers_9 rfl (lv_at hl 1 rfl) ?_
    refine lv_bipush (v := 16) hx hb dX4_joinsNumbers_10 (by decide) ?_
    refine lv_icmp_eq (tgt := 35) hx hb dX4_joinsNumbers_12 (by decide) (fun h7 => ?_) (fun h7 => ?_)
    · skip
      refine lv_iconst (v := 1) hx hb dX4_joinsNumbers_35 (by decide) ?_
      refine lv_goto (tgt := 40) hx hb dX4_joinsNumbers_36 (by decide) ?_
      exact er_zret hx hb hr hlk (by simp [ef_b, ew_jn, h1, h7] <;> decide) dX4_joinsNumbers_40
    · skip
      refine lv_iload_n hx hb dX4_joinsNumbers_15 rfl (lv_at hl 1 rfl) ?_
      refine er_S (own := RX4) (rest := []) hx hb hml hown hts hl.1 (k_X4_isLetter l D cI cZ cJ x) tw290 tw6 tw288 tw289 yd_X4_isLetter rfl rfl ⟨Nat.le_of_ble_eq_true rfl, Nat.le_of_ble_eq_true rfl⟩ er_nil hK rfl rfl (Nat.le_of_ble_eq_true rfl) ⟨Nat.zero_le _, Nat.zero_le _⟩ dX4_joinsNumbers_16 ?_
      refine ef_if_ne (tgt := 35) hx hb dX4_joinsNumbers_19 (by decide) (fun h8 => ?_) (fun h8 => ?_)
      · skip
        refine lv_iconst (v := 1) hx hb dX4_joinsNumbers_35 (by decide) ?_
        refine lv_goto (tgt := 40) hx hb dX4_joinsNumbers_36 (by decide) ?_
        exact er_zret hx hb hr hlk (by simp [ef_b, ew_jn, h1, h7, h8] <;> decide) dX4_joinsNumbers_40
      · skip
        refine lv_iload_n hx hb dX4_joinsNumbers_22 rfl (lv_at hl 1 rfl) ?_
        refine er_S (own := RX4) (rest := []) hx hb hml hown hts hl.1 (k_X4_isMidNumber l D cI cZ cJ x) tw307 tw6 tw305 tw306 yd_X4_isMidNumber rfl rfl ⟨Nat.le_of_ble_eq_true rfl, Nat.le_of_ble_eq_true rfl⟩ er_nil hK rfl rfl (Nat.le_of_ble_eq_true rfl) ⟨Nat.zero_le _, Nat.zero_le _⟩ dX4_joinsNumbers_23 ?_
        refine ef_if_eq (tgt := 39) hx hb dX4_joinsNumbers_26 (by decide) (fun h9 => ?_) (fun h9 => ?_)
        · skip
          refine lv_iconst (v := 0) hx hb dX4_joinsNumbers_39 (by decide) ?_
          exact er_zret hx hb hr hlk (by simp [ef_b, ew_jn, h1, h7, h8, h9] <;> decide) dX4_joinsNumbers_40
        · skip
          refine lv_iload_n hx hb dX4_joinsNumbers_29 rfl (lv_at hl 2 rfl) ?_
          refine lv_bipush (v := 16) hx hb dX4_joinsNumbers_30 (by decide) ?_
          refine lv_icmp_ne (tgt := 39) hx hb dX4_joinsNumbers_32 (by decide) (fun h10 => ?_) (fun h10 => ?_)
          · skip
            refine lv_iconst (v := 0) hx hb dX4_joinsNumbers_39 (by decide) ?_
            exact er_zret hx hb hr hlk (by simp [ef_b, ew_jn, h1, h7, h8, h9, h10] <;> decide) dX4_joinsNumbers_40
          · skip
            refine lv_iconst (v := 1) hx hb dX4_joinsNumbers_35 (by decide) ?_
            refine lv_goto (tgt := 40) hx hb dX4_joinsNumbers_36 (by decide) ?_
            exact er_zret hx hb hr hlk (by simp [ef_b, ew_jn, h1, h7, h8, h9, h10] <;> decide) dX4_joinsNumbers_40

set_option maxHeartbeats 4000000 in
set_option maxRecDepth 100000 in
theorem k_X4_joinsRuns (l : Launch) (D : va_G) (cI cZ cJ : ClassId) (h0 : Nat) (bf la lb : Int32) (od : Bool) (x : Int32) : er_M l yX4_joinsRuns (Cond.code yX4_joinsRuns cX4_joinsRuns 2 (some .boolean) :: eT) ({ frames := 2, cells := 0, slots := 0, locals := 40 }) D vwCl (eTy cI cZ cJ) [.ref h0, .int x] [(h0, .inr (3, [.int bf, .int la, .int lb, .int (ef_b od)]))] (.int (ef_b (ew_jr la x))) := by
  refine er_of (cc := cX4_joinsRuns) (maxL := 2) (ret := (some .boolean)) (by decide) rfl (Nat.le_of_ble_eq_true rfl) ?_
  intro p e s m args below meth c ls hx hb hr hts hown hlk hml hP hK hl
  have hown : s.vm.findClass RX4 = some m.cls := hown
  have hl : lv_has ls 2 [(0, .ref h0), (1, .int x)] := hl
  refine lv_iload_n hx hb dX4_joinsRuns_0 rfl (lv_at hl 1 rfl) ?_
  refine lv_bipush (v := 17) hx hb dX4_joinsRuns_1 (by decide) ?_
  refine lv_icmp_ne (tgt := 31) hx hb dX4_joinsRuns_3 (by decide) (fun h1 => ?_) (fun h1 => ?_)
  · skip
    refine lv_aload_n hx hb dX4_joinsRuns_31 rfl (lv_at hl 0 rfl) ?_
    refine va_get (D := D) (ci := 3) (v := .int la) (C := RX4) (T := TX4) (N := 4) hx hb hts (fun w h => List.mem_cons_of_mem _ (inX4 w h)) hown hK hP 0 rfl rfl 1 (by decide) (eT_h hts tw96) (fun _ h9 => h9) rfl dX4_joinsRuns_32 ?_
    refine lv_bipush (v := 17) hx hb dX4_joinsRuns_35 (by decide) ?_
    refine lv_icmp_ne (tgt := 45) hx hb dX4_joinsRuns_37 (by decide) (fun h2 => ?_) (fun h2 => ?_)
    · skip
      refine lv_aload_n hx hb dX4_joinsRuns_45 rfl (lv_at hl 0 rfl) ?_
      refine va_get (D := D) (ci := 3) (v := .int la) (C := RX4) (T := TX4) (N := 4) hx hb hts (fun w h => List.mem_cons_of_mem _ (inX4 w h)) hown hK hP 0 rfl rfl 1 (by decide) (eT_h hts tw96) (fun _ h9 => h9) rfl dX4_joinsRuns_46 ?_
      refine lv_bipush (v := 8) hx hb dX4_joinsRuns_49 (by decide) ?_
      refine lv_icmp_ne (tgt := 64) hx hb dX4_joinsRuns_51 (by decide) (fun h3 => ?_) (fun h3 => ?_)
      · skip
        refine lv_iconst (v := 0) hx hb dX4_joinsRuns_64 (by decide) ?_
        exact er_zret hx hb hr hlk (by simp [ef_b, ew_jr, h1, h2, h3] <;> decide) dX4_joinsRuns_65
      · skip
        refine lv_iload_n hx hb dX4_joinsRuns_54 rfl (lv_at hl 1 rfl) ?_
        refine lv_bipush (v := 8) hx hb dX4_joinsRuns_55 (by decide) ?_
        refine lv_icmp_ne (tgt := 64) hx hb dX4_joinsRuns_57 (by decide) (fun h4 => ?_) (fun h4 => ?_)
        · skip
          refine lv_iconst (v := 0) hx hb dX4_joinsRuns_64 (by decide) ?_
          exact er_zret hx hb hr hlk (by simp [ef_b, ew_jr, h1, h2, h3, h4] <;> decide) dX4_joinsRuns_65
        · skip
          refine lv_iconst (v := 1) hx hb dX4_joinsRuns_60 (by decide) ?_
          refine lv_goto (tgt := 65) hx hb dX4_joinsRuns_61 (by decide) ?_
          exact er_zret hx hb hr hlk (by simp [ef_b, ew_jr, h1, h2, h3, h4] <;> decide) dX4_joinsRuns_65
    · skip
      refine lv_iload_n hx hb dX4_joinsRuns_40 rfl (lv_at hl 1 rfl) ?_
      refine er_S (own := RX4) (rest := []) hx hb hml hown hts hl.1 (k_X4_isRunPart l D cI cZ cJ x) tw314 tw6 tw312 tw313 yd_X4_isRunPart rfl rfl ⟨Nat.le_of_ble_eq_true rfl, Nat.le_of_ble_eq_true rfl⟩ er_nil hK rfl rfl (Nat.le_of_ble_eq_true rfl) ⟨Nat.zero_le _, Nat.zero_le _⟩ dX4_joinsRuns_41 ?_
      exact er_zret hx hb hr hlk (by simp [ef_b, ew_jr, h1, h2] <;> decide) dX4_joinsRuns_44
  · skip
    refine lv_aload_n hx hb dX4_joinsRuns_6 rfl (lv_at hl 0 rfl) ?_
    refine va_get (D := D) (ci := 3) (v := .int la) (C := RX4) (T := TX4) (N := 4) hx hb hts (fun w h => List.mem_cons_of_mem _ (inX4 w h)) hown hK hP 0 rfl rfl 1 (by decide) (eT_h hts tw96) (fun _ h9 => h9) rfl dX4_joinsRuns_7 ?_
    refine er_S (own := RX4) (rest := []) hx hb hml hown hts hl.1 (k_X4_isRunPart l D cI cZ cJ la) tw314 tw6 tw312 tw313 yd_X4_isRunPart rfl rfl ⟨Nat.le_of_ble_eq_true rfl, Nat.le_of_ble_eq_true rfl⟩ er_nil hK rfl rfl (Nat.le_of_ble_eq_true rfl) ⟨Nat.zero_le _, Nat.zero_le _⟩ dX4_joinsRuns_10 ?_
    refine ef_if_ne (tgt := 25) hx hb dX4_joinsRuns_13 (by decide) (fun h5 => ?_) (fun h5 => ?_)
    · skip
      refine lv_iconst (v := 1) hx hb dX4_joinsRuns_25 (by decide) ?_
      refine lv_goto (tgt := 30) hx hb dX4_joinsRuns_26 (by decide) ?_
      exact er_zret hx hb hr hlk (by simp [ef_b, ew_jr, h1, h5] <;> decide) dX4_joinsRuns_30
    · skip
      refine lv_aload_n hx hb dX4_joinsRuns_16 rfl (lv_at hl 0 rfl) ?_
      refine va_get (D := D) (ci := 3) (v := .int la) (C := RX4) (T := TX4) (N := 4) hx hb hts (fun w h => List.mem_cons_of_mem _ (inX4 w h)) hown hK hP 0 rfl rfl 1 (by decide) (eT_h hts tw96) (fun _ h9 => h9) rfl dX4_joinsRuns_17 ?_
      refine lv_bipush (v := 17) hx hb dX4_joinsRuns_20 (by decide) ?_
      refine lv_icmp_ne (tgt := 29) hx hb dX4_joinsRuns_22 (by decide) (fun h6 => ?_) (fun h6 => ?_)
      · skip
        refine lv_iconst (v := 0) hx hb dX4_joinsRuns_29 (by decide) ?_
        exact er_zret hx hb hr hlk (by simp [ef_b, ew_jr, h1, h5, h6] <;> decide) dX4_joinsRuns_30
      · skip
        refine lv_iconst (v := 1) hx hb dX4_joinsRuns_25 (by decide) ?_
        refine lv_goto (tgt := 30) hx hb dX4_joinsRuns_26 (by decide) ?_
        exact er_zret hx hb hr hlk (by simp [ef_b, ew_jr, h1, h5, h6] <;> decide) dX4_joinsRuns_30

set_option maxHeartbeats 4000000 in
set_option maxRecDepth 100000 in
theorem k_X4_part (l : Launch) (D : va_G) (cI cZ cJ : ClassId) (h0 : Nat) (bf la lb : Int32) (od : Bool) (r0 gA wA pA : Nat) (n : Nat) (w : Nat → Int32) (P : Nat → Bool) (i : Nat) (hn : n ≤ 1000) (hi : i < n) : er_M l yX4_part (Cond.code yX4_part cX4_part 5 (some .boolean) :: eT) ({ frames := 3, cells := 0, slots := 0, locals := 62 }) D vwCl (eTy cI cZ cJ) [.ref h0, .ref r0, .int (nI i)] [(h0, .inr (3, [.int bf, .int la, .int lb, .int (ef_b od)])), (r0, .inr (2, [.ref gA, .ref wA, .ref pA, .int (nI n)])), (wA, .inl (cI, 1000, .inl w)), (pA, .inl (cZ, 1000, .inl (fun j => ef_b (P j))))] (.int (ef_b (ew_part bf la lb od (w i) (ew_ah w n i) (P i)))) := by
  refine er_of (cc := cX4_part) (maxL := 5) (ret := (some .boolean)) (by decide) rfl (Nat.le_of_ble_eq_true rfl) ?_
  intro p e s m args below meth c ls hx hb hr hts hown hlk hml hP hK hl
  have hown : s.vm.findClass RX4 = some m.cls := hown
  have hl : lv_has ls 5 [(0, .ref h0), (1, .ref r0), (2, .int (nI i))] := hl
  have L73 : ∀ (ls : Array Slot), lv_has ls 5 [(3, .int (w i)), (0, .ref h0), (1, .ref r0), (2, .int (nI i))] → (bf == 1 && w i == 2) = false → ew_le bf = false → ew_le (w i) = false → (bf == 5 && P i) = false → (bf == 18 && w i == 18) = false → W p l e ({ frames := 3, cells := 0, slots := 0, locals := 62 }) s m args below meth c s.heap [] 0 0 (MQ below (er_Q (.int (ef_b (ew_part bf la lb od (w i) (ew_ah w n i) (P i))))) args s 0 0 (fun _ => False)) (F0 m 73 ls []) := by
    intro ls hl f22 f41 f42 f58 f73
    refine lv_iload_n hx hb dX4_part_73 rfl (lv_at hl 0 rfl) ?_
    refine er_S (own := RX4) (rest := []) hx hb hml hown hts hl.1 (k_X4_isAttached l D cI cZ cJ (w i)) tw280 tw6 tw278 tw279 yd_X4_isAttached rfl rfl ⟨Nat.le_of_ble_eq_true rfl, Nat.le_of_ble_eq_true rfl⟩ er_nil hK rfl rfl (Nat.le_of_ble_eq_true rfl) ⟨Nat.zero_le _, Nat.zero_le _⟩ dX4_part_74 ?_
    refine ef_if_eq (tgt := 82) hx hb dX4_part_77 (by decide) (fun h1 => ?_) (fun h1 => ?_)
    · skip
      refine lv_aload_n hx hb dX4_part_82 rfl (lv_at hl 2 rfl) ?_
      refine lv_iload_n hx hb dX4_part_83 rfl (lv_at hl 3 rfl) ?_
      refine er_S (own := RX4) (rest := []) hx hb hml hown hts hl.1 (k_X4_classAhead l D cI cZ cJ r0 gA wA pA n w i (by omega) hi) tw283 tw6 tw281 tw282 yd_X4_classAhead rfl rfl ⟨Nat.le_of_ble_eq_true rfl, Nat.le_of_ble_eq_true rfl⟩ (hP.sub [1, 2] rfl) hK rfl rfl (Nat.le_of_ble_eq_true rfl) ⟨Nat.zero_le _, Nat.zero_le _⟩ dX4_part_84 ?_
      refine lv_istore (lv' := [(4, .int (ew_ah w n i)), (3, .int (w i)), (0, .ref h0), (1, .ref r0), (2, .int (nI i))]) hx hb dX4_part_87 hl (Nat.le_of_ble_eq_true rfl) rfl (fun ls hl => ?_)
      refine lv_aload_n hx hb dX4_part_89 rfl (lv_at hl 2 rfl) ?_
      refine lv_iload_n hx hb dX4_part_90 rfl (lv_at hl 1 rfl) ?_
      refine lv_iload hx hb dX4_part_91 (lv_at hl 0 rfl) ?_
      refine er_V (own := RX4) (C := RX4) (b := h0) (rest := []) hx hb hml hown hts hl.1 (k_X4_joinsLetters l D cI cZ cJ h0 bf la lb od (w i) (ew_ah w n i)) tw287 tw6 tw284 tw286 ts_X4_joinsLetters yd_X4_joinsLetters rfl rfl ⟨Nat.le_of_ble_eq_true rfl, Nat.le_of_ble_eq_true rfl⟩ (hP.sub [0] rfl) hK hP (q0 := 0) rfl rfl rfl rfl (Nat.le_of_ble_eq_true rfl) ⟨Nat.zero_le _, Nat.zero_le _⟩ dX4_part_93 ?_
      refine ef_if_ne (tgt := 144) hx hb dX4_part_96 (by decide) (fun h2 => ?_) (fun h2 => ?_)
      · skip
        refine lv_iconst (v := 0) hx hb dX4_part_144 (by decide) ?_
        exact er_zret hx hb hr hlk (by simp [ef_b, ew_part, f22, f41, f42, f58, f73, h1, h2] <;> decide) dX4_part_145
      · skip
        refine lv_aload_n hx hb dX4_part_99 rfl (lv_at hl 2 rfl) ?_
        refine lv_iload_n hx hb dX4_part_100 rfl (lv_at hl 1 rfl) ?_
        refine lv_iload hx hb dX4_part_101 (lv_at hl 0 rfl) ?_
        refine er_V (own := RX4) (C := RX4) (b := h0) (rest := []) hx hb hml hown hts hl.1 (k_X4_joinsHebrew l D cI cZ cJ h0 bf la lb od (w i) (ew_ah w n i)) tw300 tw6 tw297 tw299 ts_X4_joinsHebrew yd_X4_joinsHebrew rfl rfl ⟨Nat.le_of_ble_eq_true rfl, Nat.le_of_ble_eq_true rfl⟩ (hP.sub [0] rfl) hK hP (q0 := 0) rfl rfl rfl rfl (Nat.le_of_ble_eq_true rfl) ⟨Nat.zero_le _, Nat.zero_le _⟩ dX4_part_103 ?_
        refine ef_if_ne (tgt := 144) hx hb dX4_part_106 (by decide) (fun h3 => ?_) (fun h3 => ?_)
        · skip
          refine lv_iconst (v := 0) hx hb dX4_part_144 (by decide) ?_
          exact er_zret hx hb hr hlk (by simp [ef_b, ew_part, f22, f41, f42, f58, f73, h1, h2, h3] <;> decide) dX4_part_145
        · skip
          refine lv_aload_n hx hb dX4_part_109 rfl (lv_at hl 2 rfl) ?_
          refine lv_iload_n hx hb dX4_part_110 rfl (lv_at hl 1 rfl) ?_
          refine lv_iload hx hb dX4_part_111 (lv_at hl 0 rfl) ?_
          refine er_V (own := RX4) (C := RX4) (b := h0) (rest := []) hx hb hml hown hts hl.1 (k_X4_joinsNumbers l D cI cZ cJ h0 bf la lb od (w i) (ew_ah w n i)) tw304 tw6 tw301 tw303 ts_X4_joinsNumbers yd_X4_joinsNumbers rfl rfl ⟨Nat.le_of_ble_eq_true rfl, Nat.le_of_ble_eq_true rfl⟩ (hP.sub [0] rfl) hK hP (q0 := 0) rfl rfl rfl rfl (Nat.le_of_ble_eq_true rfl) ⟨Nat.zero_le _, Nat.zero_le _⟩ dX4_part_113 ?_
          refine ef_if_ne (tgt := 144) hx hb dX4_part_116 (by decide) (fun h4 => ?_) (fun h4 => ?_)
          · skip
            refine lv_iconst (v := 0) hx hb dX4_part_144 (by decide) ?_
            exact er_zret hx hb hr hlk (by simp [ef_b, ew_part, f22, f41, f42, f58, f73, h1, h2, h3, h4] <;> decide) dX4_part_145
          · skip
            refine lv_aload_n hx hb dX4_part_119 rfl (lv_at hl 2 rfl) ?_
            refine lv_iload_n hx hb dX4_part_120 rfl (lv_at hl 1 rfl) ?_
            refine er_V (own := RX4) (C := RX4) (b := h0) (rest := []) hx hb hml hown hts hl.1 (k_X4_joinsRuns l D cI cZ cJ h0 bf la lb od (w i)) tw311 tw6 tw308 tw310 ts_X4_joinsRuns yd_X4_joinsRuns rfl rfl ⟨Nat.le_of_ble_eq_true rfl, Nat.le_of_ble_eq_true rfl⟩ (hP.sub [0] rfl) hK hP (q0 := 0) rfl rfl rfl rfl (Nat.le_of_ble_eq_true rfl) ⟨Nat.zero_le _, Nat.zero_le _⟩ dX4_part_121 ?_
            refine ef_if_ne (tgt := 144) hx hb dX4_part_124 (by decide) (fun h5 => ?_) (fun h5 => ?_)
            · skip
              refine lv_iconst (v := 0) hx hb dX4_part_144 (by decide) ?_
              exact er_zret hx hb hr hlk (by simp [ef_b, ew_part, f22, f41, f42, f58, f73, h1, h2, h3, h4, h5] <;> decide) dX4_part_145
            · skip
              refine lv_aload_n hx hb dX4_part_127 rfl (lv_at hl 2 rfl) ?_
              refine va_get (D := D) (ci := 3) (v := .int (ef_b od)) (C := RX4) (T := TX4) (N := 4) hx hb hts (fun w h => List.mem_cons_of_mem _ (inX4 w h)) hown hK hP 0 rfl rfl 3 (by decide) (eT_h hts tw98) (fun _ h9 => h9) rfl dX4_part_128 ?_
              refine ef_if_eq (tgt := 140) hx hb dX4_part_131 (by decide) (fun h6 => ?_) (fun h6 => ?_)
              · skip
                refine lv_iconst (v := 1) hx hb dX4_part_140 (by decide) ?_
                refine lv_goto (tgt := 145) hx hb dX4_part_141 (by decide) ?_
                exact er_zret hx hb hr hlk (by simp [ef_b, ew_part, f22, f41, f42, f58, f73, h1, h2, h3, h4, h5, h6] <;> decide) dX4_part_145
              · skip
                refine lv_iload_n hx hb dX4_part_134 rfl (lv_at hl 1 rfl) ?_
                refine lv_bipush (v := 6) hx hb dX4_part_135 (by decide) ?_
                refine lv_icmp_eq (tgt := 144) hx hb dX4_part_137 (by decide) (fun h7 => ?_) (fun h7 => ?_)
                · skip
                  refine lv_iconst (v := 0) hx hb dX4_part_144 (by decide) ?_
                  exact er_zret hx hb hr hlk (by simp [ef_b, ew_part, f22, f41, f42, f58, f73, h1, h2, h3, h4, h5, h6, h7] <;> decide) dX4_part_145
                · skip
                  refine lv_iconst (v := 1) hx hb dX4_part_140 (by decide) ?_
                  refine lv_goto (tgt := 145) hx hb dX4_part_141 (by decide) ?_
                  exact er_zret hx hb hr hlk (by simp [ef_b, ew_part, f22, f41, f42, f58, f73, h1, h2, h3, h4, h5, h6, h7] <;> decide) dX4_part_145
    · skip
      refine lv_iconst (v := 0) hx hb dX4_part_80 (by decide) ?_
      exact er_zret hx hb hr hlk (by simp [ef_b, ew_part, f22, f41, f42, f58, f73, h1] <;> decide) dX4_part_81
  have L58 : ∀ (ls : Array Slot), lv_has ls 5 [(3, .int (w i)), (0, .ref h0), (1, .ref r0), (2, .int (nI i))] → (bf == 1 && w i == 2) = false → ew_le bf = false → ew_le (w i) = false → (bf == 5 && P i) = false → W p l e ({ frames := 3, cells := 0, slots := 0, locals := 62 }) s m args below meth c s.heap [] 0 0 (MQ below (er_Q (.int (ef_b (ew_part bf la lb od (w i) (ew_ah w n i) (P i))))) args s 0 0 (fun _ => False)) (F0 m 58 ls []) := by
    intro ls hl f22 f41 f42 f58
    refine lv_aload_n hx hb dX4_part_58 rfl (lv_at hl 1 rfl) ?_
    refine va_get (D := D) (ci := 3) (v := .int bf) (C := RX4) (T := TX4) (N := 4) hx hb hts (fun w h => List.mem_cons_of_mem _ (inX4 w h)) hown hK hP 0 rfl rfl 0 (by decide) (eT_h hts tw95) (fun _ h9 => h9) rfl dX4_part_59 ?_
    refine lv_bipush (v := 18) hx hb dX4_part_62 (by decide) ?_
    refine lv_icmp_ne (tgt := 73) hx hb dX4_part_64 (by decide) (fun h8 => ?_) (fun h8 => ?_)
    · skip
      exact L73  ls hl f22 f41 f42 f58 (by simp [f22, f41, f42, f58, h8])
    · skip
      refine lv_iload_n hx hb dX4_part_67 rfl (lv_at hl 0 rfl) ?_
      refine lv_bipush (v := 18) hx hb dX4_part_68 (by decide) ?_
      refine lv_icmp_eq (tgt := 80) hx hb dX4_part_70 (by decide) (fun h9 => ?_) (fun h9 => ?_)
      · skip
        refine lv_iconst (v := 0) hx hb dX4_part_80 (by decide) ?_
        exact er_zret hx hb hr hlk (by simp [ef_b, ew_part, f22, f41, f42, f58, h8, h9] <;> decide) dX4_part_81
      · skip
        exact L73  ls hl f22 f41 f42 f58 (by simp [f22, f41, f42, f58, h8, h9])
  have L41 : ∀ (ls : Array Slot), lv_has ls 5 [(3, .int (w i)), (0, .ref h0), (1, .ref r0), (2, .int (nI i))] → (bf == 1 && w i == 2) = false → ew_le bf = false → ew_le (w i) = false → W p l e ({ frames := 3, cells := 0, slots := 0, locals := 62 }) s m args below meth c s.heap [] 0 0 (MQ below (er_Q (.int (ef_b (ew_part bf la lb od (w i) (ew_ah w n i) (P i))))) args s 0 0 (fun _ => False)) (F0 m 41 ls []) := by
    intro ls hl f22 f41 f42
    refine lv_aload_n hx hb dX4_part_41 rfl (lv_at hl 1 rfl) ?_
    refine va_get (D := D) (ci := 3) (v := .int bf) (C := RX4) (T := TX4) (N := 4) hx hb hts (fun w h => List.mem_cons_of_mem _ (inX4 w h)) hown hK hP 0 rfl rfl 0 (by decide) (eT_h hts tw95) (fun _ h9 => h9) rfl dX4_part_42 ?_
    refine lv_iconst (v := 5) hx hb dX4_part_45 (by decide) ?_
    refine lv_icmp_ne (tgt := 58) hx hb dX4_part_46 (by decide) (fun h10 => ?_) (fun h10 => ?_)
    · skip
      exact L58  ls hl f22 f41 f42 (by simp [f22, f41, f42, h10])
    · skip
      refine lv_aload_n hx hb dX4_part_49 rfl (lv_at hl 2 rfl) ?_
      refine va_get (D := D) (ci := 2) (v := .ref pA) (C := RX2) (T := TX2) (N := 4) hx hb hts (fun w h => List.mem_cons_of_mem _ (inX2 w h)) hown hK hP 1 rfl rfl 2 (by decide) (eT_h hts tw32) (fun _ h9 => h9) rfl dX4_part_50 ?_
      refine lv_iload_n hx hb dX4_part_53 rfl (lv_at hl 3 rfl) ?_
      refine va_zald hx hb hK hP 3 1 rfl rfl (vp_in_nI (by omega) (by decide)) dX4_part_54 ?_
      refine ef_eqi (y := ef_b (P i)) (by rw [nI_clamp (by omega)]) ?_
      refine ef_if_ne (tgt := 80) hx hb dX4_part_55 (by decide) (fun h11 => ?_) (fun h11 => ?_)
      · skip
        refine lv_iconst (v := 0) hx hb dX4_part_80 (by decide) ?_
        exact er_zret hx hb hr hlk (by simp [ef_b, ew_part, f22, f41, f42, h10, h11] <;> decide) dX4_part_81
      · skip
        exact L58  ls hl f22 f41 f42 (by simp [f22, f41, f42, h10, h11])
  have L22 : ∀ (ls : Array Slot), lv_has ls 5 [(3, .int (w i)), (0, .ref h0), (1, .ref r0), (2, .int (nI i))] → (bf == 1 && w i == 2) = false → W p l e ({ frames := 3, cells := 0, slots := 0, locals := 62 }) s m args below meth c s.heap [] 0 0 (MQ below (er_Q (.int (ef_b (ew_part bf la lb od (w i) (ew_ah w n i) (P i))))) args s 0 0 (fun _ => False)) (F0 m 22 ls []) := by
    intro ls hl f22
    refine lv_aload_n hx hb dX4_part_22 rfl (lv_at hl 1 rfl) ?_
    refine va_get (D := D) (ci := 3) (v := .int bf) (C := RX4) (T := TX4) (N := 4) hx hb hts (fun w h => List.mem_cons_of_mem _ (inX4 w h)) hown hK hP 0 rfl rfl 0 (by decide) (eT_h hts tw95) (fun _ h9 => h9) rfl dX4_part_23 ?_
    refine er_S (own := RX4) (rest := []) hx hb hml hown hts hl.1 (k_X4_isLineEnd l D cI cZ cJ bf) tw277 tw6 tw275 tw276 yd_X4_isLineEnd rfl rfl ⟨Nat.le_of_ble_eq_true rfl, Nat.le_of_ble_eq_true rfl⟩ er_nil hK rfl rfl (Nat.le_of_ble_eq_true rfl) ⟨Nat.zero_le _, Nat.zero_le _⟩ dX4_part_26 ?_
    refine ef_if_ne (tgt := 39) hx hb dX4_part_29 (by decide) (fun h12 => ?_) (fun h12 => ?_)
    · skip
      refine lv_iconst (v := 1) hx hb dX4_part_39 (by decide) ?_
      exact er_zret hx hb hr hlk (by simp [ef_b, ew_part, f22, h12] <;> decide) dX4_part_40
    · skip
      refine lv_iload_n hx hb dX4_part_32 rfl (lv_at hl 0 rfl) ?_
      refine er_S (own := RX4) (rest := []) hx hb hml hown hts hl.1 (k_X4_isLineEnd l D cI cZ cJ (w i)) tw277 tw6 tw275 tw276 yd_X4_isLineEnd rfl rfl ⟨Nat.le_of_ble_eq_true rfl, Nat.le_of_ble_eq_true rfl⟩ er_nil hK rfl rfl (Nat.le_of_ble_eq_true rfl) ⟨Nat.zero_le _, Nat.zero_le _⟩ dX4_part_33 ?_
      refine ef_if_eq (tgt := 41) hx hb dX4_part_36 (by decide) (fun h13 => ?_) (fun h13 => ?_)
      · skip
        exact L41  ls hl f22 (by simp [f22, h12, h13]) (by simp [f22, h12, h13])
      · skip
        refine lv_iconst (v := 1) hx hb dX4_part_39 (by decide) ?_
        exact er_zret hx hb hr hlk (by simp [ef_b, ew_part, f22, h12, h13] <;> decide) dX4_part_40
  refine lv_aload_n hx hb dX4_part_0 rfl (lv_at hl 1 rfl) ?_
  refine va_get (D := D) (ci := 2) (v := .ref wA) (C := RX2) (T := TX2) (N := 4) hx hb hts (fun w h => List.mem_cons_of_mem _ (inX2 w h)) hown hK hP 1 rfl rfl 1 (by decide) (eT_h hts tw30) (fun _ h9 => h9) rfl dX4_part_1 ?_
  refine lv_iload_n hx hb dX4_part_4 rfl (lv_at hl 2 rfl) ?_
  refine va_iald hx hb hK hP 2 0 rfl rfl (vp_in_nI (by omega) (by decide)) dX4_part_5 ?_
  refine ef_eqi (y := w i) (by rw [nI_clamp (by omega)]) ?_
  refine lv_istore_n (lv' := [(3, .int (w i)), (0, .ref h0), (1, .ref r0), (2, .int (nI i))]) hx hb dX4_part_6 rfl hl (Nat.le_of_ble_eq_true rfl) rfl (fun ls hl => ?_)
  refine lv_aload_n hx hb dX4_part_7 rfl (lv_at hl 1 rfl) ?_
  refine va_get (D := D) (ci := 3) (v := .int bf) (C := RX4) (T := TX4) (N := 4) hx hb hts (fun w h => List.mem_cons_of_mem _ (inX4 w h)) hown hK hP 0 rfl rfl 0 (by decide) (eT_h hts tw95) (fun _ h9 => h9) rfl dX4_part_8 ?_
  refine lv_iconst (v := 1) hx hb dX4_part_11 (by decide) ?_
  refine lv_icmp_ne (tgt := 22) hx hb dX4_part_12 (by decide) (fun h14 => ?_) (fun h14 => ?_)
  · skip
    exact L22  ls hl (by simp [h14])
  · skip
    refine lv_iload_n hx hb dX4_part_15 rfl (lv_at hl 0 rfl) ?_
    refine lv_iconst (v := 2) hx hb dX4_part_16 (by decide) ?_
    refine lv_icmp_ne (tgt := 22) hx hb dX4_part_17 (by decide) (fun h15 => ?_) (fun h15 => ?_)
    · skip
      exact L22  ls hl (by simp [h14, h15])
    · skip
      refine lv_iconst (v := 0) hx hb dX4_part_20 (by decide) ?_
      exact er_zret hx hb hr hlk (by simp [ef_b, ew_part, h14, h15] <;> decide) dX4_part_21
end
section
set_option maxHeartbeats 4000000 in
set_option maxRecDepth 100000 in
theorem k_X6_thrown (l : Launch) (D : va_G) (cI cZ cJ : ClassId) (h0 gA wA pA : Nat) (fa : Int32) (n : Nat) (g w : Nat → Int32) (P : Nat → Bool) : er_M l yX6_thrown (Cond.code yX6_thrown cX6_thrown 1 (some .int) :: eT) ({ frames := 0, cells := 0, slots := 0, locals := 0 }) D vwCl (eTy cI cZ cJ) [.ref h0] [(h0, .inr (5, [.int fa, .int (nI n), .ref gA, .ref wA, .ref pA])), (gA, .inl (cI, 1000, .inl g)), (wA, .inl (cI, 1000, .inl w)), (pA, .inl (cZ, 1000, .inl (fun j => ef_b (P j))))] (.int fa) := by
  refine er_of (cc := cX6_thrown) (maxL := 1) (ret := (some .int)) (by decide) rfl (Nat.le_of_ble_eq_true rfl) ?_
  intro p e s m args below meth c ls hx hb hr hts hown hlk hml hP hK hl
  have hown : s.vm.findClass RX6 = some m.cls := hown
  have hl : lv_has ls 1 [(0, .ref h0)] := hl
  refine lv_aload_n hx hb dX6_thrown_0 rfl (lv_at hl 0 rfl) ?_
  refine va_get (D := D) (ci := 5) (v := .int fa) (C := RX6) (T := TX6) (N := 5) hx hb hts (fun w h => List.mem_cons_of_mem _ (inX6 w h)) hown hK hP 0 rfl rfl 0 (by decide) (eT_h hts tw367) (fun _ h9 => h9) rfl dX6_thrown_1 ?_
  exact er_iret hx hb hr hlk rfl dX6_thrown_4

set_option maxHeartbeats 4000000 in
set_option maxRecDepth 100000 in
theorem k_X6_breaks (l : Launch) (D : va_G) (cI cZ cJ : ClassId) (h0 : Nat) (x : Int32) : er_M l yX6_breaks (Cond.code yX6_breaks cX6_breaks 2 (some .boolean) :: eT) ({ frames := 0, cells := 0, slots := 0, locals := 0 }) D vwCl (eTy cI cZ cJ) [.ref h0, .int x] [] (.int (ef_b (ew_le x))) := by
  refine er_of (cc := cX6_breaks) (maxL := 2) (ret := (some .boolean)) (by decide) rfl (Nat.le_of_ble_eq_true rfl) ?_
  intro p e s m args below meth c ls hx hb hr hts hown hlk hml hP hK hl
  have hown : s.vm.findClass RX6 = some m.cls := hown
  have hl : lv_has ls 2 [(0, .ref h0), (1, .int x)] := hl
  refine lv_iload_n hx hb dX6_breaks_0 rfl (lv_at hl 1 rfl) ?_
  refine lv_iconst (v := 1) hx hb dX6_breaks_1 (by decide) ?_
  refine lv_icmp_lt (tgt := 14) hx hb dX6_breaks_2 (by decide) (fun h1 => ?_) (fun h1 => ?_)
  · skip
    refine lv_iconst (v := 0) hx hb dX6_breaks_14 (by decide) ?_
    exact er_zret hx hb hr hlk (by rw [ew_le_f1 (Int32.not_le.mpr h1)]; rfl) dX6_breaks_15
  · skip
    refine lv_iload_n hx hb dX6_breaks_5 rfl (lv_at hl 1 rfl) ?_
    refine lv_iconst (v := 3) hx hb dX6_breaks_6 (by decide) ?_
    refine lv_icmp_gt (tgt := 14) hx hb dX6_breaks_7 (by decide) (fun h2 => ?_) (fun h2 => ?_)
    · skip
      refine lv_iconst (v := 0) hx hb dX6_breaks_14 (by decide) ?_
      exact er_zret hx hb hr hlk (by rw [ew_le_f2 (Int32.not_le.mpr h2)]; rfl) dX6_breaks_15
    · skip
      refine lv_iconst (v := 1) hx hb dX6_breaks_10 (by decide) ?_
      refine lv_goto (tgt := 15) hx hb dX6_breaks_11 (by decide) ?_
      exact er_zret hx hb hr hlk (by rw [ew_le_t (Int32.not_lt.mp h1) (Int32.not_lt.mp h2)]; rfl) dX6_breaks_15

set_option maxHeartbeats 4000000 in
set_option maxRecDepth 100000 in
theorem k_X6_counts (l : Launch) (D : va_G) (cI cZ cJ : ClassId) (h0 gA wA pA : Nat) (fa : Int32) (n : Nat) (g w : Nat → Int32) (P : Nat → Bool) (i : Nat) (hi : i < 1000) : er_M l yX6_counts (Cond.code yX6_counts cX6_counts 3 (some .int) :: eT) ({ frames := 1, cells := 0, slots := 0, locals := 21 }) D vwCl (eTy cI cZ cJ) [.ref h0, .int (nI i)] [(h0, .inr (5, [.int fa, .int (nI n), .ref gA, .ref wA, .ref pA])), (gA, .inl (cI, 1000, .inl g)), (wA, .inl (cI, 1000, .inl w)), (pA, .inl (cZ, 1000, .inl (fun j => ef_b (P j))))] (.int (nI (em_ct w i))) := by
  refine er_of (cc := cX6_counts) (maxL := 3) (ret := (some .int)) (by decide) rfl (Nat.le_of_ble_eq_true rfl) ?_
  intro p e s m args below meth c ls hx hb hr hts hown hlk hml hP hK hl
  have hown : s.vm.findClass RX6 = some m.cls := hown
  have hl : lv_has ls 3 [(0, .ref h0), (1, .int (nI i))] := hl
  have L2 : ∀ (r : Nat) (k : Nat) (ls : Array Slot), lv_has ls 3 [(2, .int (nI k)), (0, .ref h0), (1, .int (nI i))] → k ≤ i → em_ct w i = em_ct w k → k < r → W p l e ({ frames := 1, cells := 0, slots := 0, locals := 21 }) s m args below meth c s.heap [] 0 0 (MQ below (er_Q (.int (nI (em_ct w i)))) args s 0 0 (fun _ => False)) (F0 m 2 ls []) := by
    intro r
    induction r with
    | zero => intro k ls hl hk he hμ; exact absurd hμ (Nat.not_lt_zero _)
    | succ r ih =>
      intro k ls hl hk he hμ
      rcases k with _ | k
      · skip
        refine lv_iload_n hx hb dX6_counts_2 rfl (lv_at hl 0 rfl) ?_
        refine lv_if_le (tgt := 40) hx hb dX6_counts_3 (by decide) (fun h1 => ?_) (fun h1 => ?_)
        · skip
          refine lv_iload_n hx hb dX6_counts_40 rfl (lv_at hl 0 rfl) ?_
          exact er_iret hx hb hr hlk (by rw [he]; rfl) dX6_counts_41
        · skip
          exact absurd (by decide) h1
      · skip
        refine lv_iload_n hx hb dX6_counts_2 rfl (lv_at hl 0 rfl) ?_
        refine lv_if_le (tgt := 40) hx hb dX6_counts_3 (by decide) (fun h2 => ?_) (fun h2 => ?_)
        · skip
          exact absurd h2 (nI_nle (Nat.succ_pos _) (by omega))
        · skip
          refine lv_aload_n hx hb dX6_counts_6 rfl (lv_at hl 1 rfl) ?_
          refine lv_aload_n hx hb dX6_counts_7 rfl (lv_at hl 1 rfl) ?_
          refine va_get (D := D) (ci := 5) (v := .ref wA) (C := RX6) (T := TX6) (N := 5) hx hb hts (fun w h => List.mem_cons_of_mem _ (inX6 w h)) hown hK hP 0 rfl rfl 3 (by decide) (eT_h hts tw370) (fun _ h9 => h9) rfl dX6_counts_8 ?_
          refine lv_iload_n hx hb dX6_counts_11 rfl (lv_at hl 0 rfl) ?_
          refine va_iald hx hb hK hP 2 0 rfl rfl (vp_in_nI (by omega) (by decide)) dX6_counts_12 ?_
          refine ef_eqi (y := w (k + 1)) (by rw [nI_clamp (by omega)]) ?_
          refine er_V (own := RX6) (C := RX6) (b := h0) (rest := []) hx hb hml hown hts hl.1 (k_X6_passed l D cI cZ cJ h0 (w (k + 1))) tw430 tw7 tw427 tw429 ts_X6_passed yd_X6_passed rfl rfl ⟨Nat.le_of_ble_eq_true rfl, Nat.le_of_ble_eq_true rfl⟩ er_nil hK hP (q0 := 0) rfl rfl rfl rfl (Nat.le_of_ble_eq_true rfl) ⟨Nat.zero_le _, Nat.zero_le _⟩ dX6_counts_13 ?_
          refine ef_if_eq (tgt := 40) hx hb dX6_counts_16 (by decide) (fun h3 => ?_) (fun h3 => ?_)
          · skip
            refine lv_iload_n hx hb dX6_counts_40 rfl (lv_at hl 0 rfl) ?_
            exact er_iret hx hb hr hlk (by rw [he]; simp [em_ct, h3]) dX6_counts_41
          · skip
            refine lv_aload_n hx hb dX6_counts_19 rfl (lv_at hl 1 rfl) ?_
            refine lv_aload_n hx hb dX6_counts_20 rfl (lv_at hl 1 rfl) ?_
            refine va_get (D := D) (ci := 5) (v := .ref wA) (C := RX6) (T := TX6) (N := 5) hx hb hts (fun w h => List.mem_cons_of_mem _ (inX6 w h)) hown hK hP 0 rfl rfl 3 (by decide) (eT_h hts tw370) (fun _ h9 => h9) rfl dX6_counts_21 ?_
            refine lv_iload_n hx hb dX6_counts_24 rfl (lv_at hl 0 rfl) ?_
            refine lv_iconst (v := 1) hx hb dX6_counts_25 (by decide) ?_
            refine lv_isub hx hb dX6_counts_26 ?_
            refine ef_eqi (y := nI k) (nI_pred k) ?_
            refine va_iald hx hb hK hP 2 0 rfl rfl (vp_in_nI (by omega) (by decide)) dX6_counts_27 ?_
            refine ef_eqi (y := w k) (by rw [nI_clamp (by omega)]) ?_
            refine er_V (own := RX6) (C := RX6) (b := h0) (rest := []) hx hb hml hown hts hl.1 (k_X6_breaks l D cI cZ cJ h0 (w k)) tw426 tw7 tw423 tw425 ts_X6_breaks yd_X6_breaks rfl rfl ⟨Nat.le_of_ble_eq_true rfl, Nat.le_of_ble_eq_true rfl⟩ er_nil hK hP (q0 := 0) rfl rfl rfl rfl (Nat.le_of_ble_eq_true rfl) ⟨Nat.zero_le _, Nat.zero_le _⟩ dX6_counts_28 ?_
            refine ef_if_ne (tgt := 40) hx hb dX6_counts_31 (by decide) (fun h4 => ?_) (fun h4 => ?_)
            · skip
              refine lv_iload_n hx hb dX6_counts_40 rfl (lv_at hl 0 rfl) ?_
              exact er_iret hx hb hr hlk (by rw [he]; simp [em_ct, h3, h4]) dX6_counts_41
            · skip
              refine lv_iinc (k := 0) (v := nI k) (lv' := [(2, .int (nI k)), (0, .ref h0), (1, .int (nI i))]) hx hb dX6_counts_34 hl rfl (by rw [show Int32.ofInt (-1) = -1 from by decide]; exact pk_m1 _) (Nat.le_of_ble_eq_true rfl) rfl (fun ls hl => ?_)
              refine lv_goto (tgt := 2) hx hb dX6_counts_37 (by decide) ?_
              exact ih k ls hl (by omega) (by rw [he]; simp [em_ct, h3, h4]) (by omega)
  refine lv_iload_n hx hb dX6_counts_0 rfl (lv_at hl 1 rfl) ?_
  refine lv_istore_n (lv' := [(2, .int (nI i)), (0, .ref h0), (1, .int (nI i))]) hx hb dX6_counts_1 rfl hl (Nat.le_of_ble_eq_true rfl) rfl (fun ls hl => ?_)
  exact L2 _ i ls hl (Nat.le_refl _) rfl (Nat.lt_succ_self _)

def em_bi (w : Nat → Int32) (i : Nat) : Int32 := if i = 0 then -1 else nI (em_ct w (i - 1))

set_option maxHeartbeats 4000000 in
set_option maxRecDepth 100000 in
theorem k_X6_before (l : Launch) (D : va_G) (cI cZ cJ : ClassId) (h0 gA wA pA : Nat) (fa : Int32) (n : Nat) (g w : Nat → Int32) (P : Nat → Bool) (i : Nat) (hi : i ≤ 1000) : er_M l yX6_before (Cond.code yX6_before cX6_before 2 (some .int) :: eT) ({ frames := 2, cells := 0, slots := 0, locals := 43 }) D vwCl (eTy cI cZ cJ) [.ref h0, .int (nI i)] [(h0, .inr (5, [.int fa, .int (nI n), .ref gA, .ref wA, .ref pA])), (gA, .inl (cI, 1000, .inl g)), (wA, .inl (cI, 1000, .inl w)), (pA, .inl (cZ, 1000, .inl (fun j => ef_b (P j))))] (.int (em_bi w i)) := by
  refine er_of (cc := cX6_before) (maxL := 2) (ret := (some .int)) (by decide) rfl (Nat.le_of_ble_eq_true rfl) ?_
  intro p e s m args below meth c ls hx hb hr hts hown hlk hml hP hK hl
  have hown : s.vm.findClass RX6 = some m.cls := hown
  have hl : lv_has ls 2 [(0, .ref h0), (1, .int (nI i))] := hl
  refine lv_iload_n hx hb dX6_before_0 rfl (lv_at hl 1 rfl) ?_
  refine lv_if_gt (tgt := 8) hx hb dX6_before_1 (by decide) (fun h1 => ?_) (fun h1 => ?_)
  · skip
    have h1 : 0 < i := (nI_ltI (a := 0) (b := i) (by omega) (by omega)).mp h1
    refine lv_aload_n hx hb dX6_before_8 rfl (lv_at hl 0 rfl) ?_
    refine lv_iload_n hx hb dX6_before_9 rfl (lv_at hl 1 rfl) ?_
    refine lv_iconst (v := 1) hx hb dX6_before_10 (by decide) ?_
    refine lv_isub hx hb dX6_before_11 ?_
    refine ef_eqi (y := nI (i - 1)) (pk_sub (a := i) (b := 1) (by omega)) ?_
    refine er_V (own := RX6) (C := RX6) (b := h0) (rest := []) hx hb hml hown hts hl.1 (k_X6_counts l D cI cZ cJ h0 gA wA pA fa n g w P (i - 1) (by omega)) tw438 tw7 tw435 tw437 ts_X6_counts yd_X6_counts rfl rfl ⟨Nat.le_of_ble_eq_true rfl, Nat.le_of_ble_eq_true rfl⟩ hP hK hP (q0 := 0) rfl rfl rfl rfl (Nat.le_of_ble_eq_true rfl) ⟨Nat.zero_le _, Nat.zero_le _⟩ dX6_before_12 ?_
    exact er_iret hx hb hr hlk (by simp [em_bi, show ¬ i = 0 by omega]) dX6_before_15
  · skip
    have h1 : ¬ (0 < i) := fun q9 => h1 ((nI_ltI (a := 0) (b := i) (by omega) (by omega)).mpr q9)
    refine lv_iconst (v := (-1)) hx hb dX6_before_4 (by decide) ?_
    refine lv_goto (tgt := 15) hx hb dX6_before_5 (by decide) ?_
    exact er_iret hx hb hr hlk (by simp [em_bi, show i = 0 by omega]) dX6_before_15

set_option maxHeartbeats 4000000 in
set_option maxRecDepth 100000 in
theorem k_X6_after (l : Launch) (D : va_G) (cI cZ cJ : ClassId) (h0 gA wA pA : Nat) (fa : Int32) (n : Nat) (g w : Nat → Int32) (P : Nat → Bool) (i : Nat) (hn : n ≤ 1000) (hi : i < n) : er_M l yX6_after (Cond.code yX6_after cX6_after 3 (some .int) :: eT) ({ frames := 1, cells := 0, slots := 0, locals := 21 }) D vwCl (eTy cI cZ cJ) [.ref h0, .int (nI i)] [(h0, .inr (5, [.int fa, .int (nI n), .ref gA, .ref wA, .ref pA])), (gA, .inl (cI, 1000, .inl g)), (wA, .inl (cI, 1000, .inl w)), (pA, .inl (cZ, 1000, .inl (fun j => ef_b (P j))))] (.int (nI (em_af w (n - (i + 1)) (i + 1)))) := by
  refine er_of (cc := cX6_after) (maxL := 3) (ret := (some .int)) (by decide) rfl (Nat.le_of_ble_eq_true rfl) ?_
  intro p e s m args below meth c ls hx hb hr hts hown hlk hml hP hK hl
  have hown : s.vm.findClass RX6 = some m.cls := hown
  have hl : lv_has ls 3 [(0, .ref h0), (1, .int (nI i))] := hl
  have L4 : ∀ (r : Nat) (k : Nat) (ls : Array Slot), lv_has ls 3 [(2, .int (nI k)), (0, .ref h0), (1, .int (nI i))] → k ≤ n → em_af w (n - (i + 1)) (i + 1) = em_af w (n - k) k → n - k < r → W p l e ({ frames := 1, cells := 0, slots := 0, locals := 21 }) s m args below meth c s.heap [] 0 0 (MQ below (er_Q (.int (nI (em_af w (n - (i + 1)) (i + 1))))) args s 0 0 (fun _ => False)) (F0 m 4 ls []) := by
    intro r
    induction r with
    | zero => intro k ls hl hk he hμ; exact absurd hμ (Nat.not_lt_zero _)
    | succ r ih =>
      intro k ls hl hk he hμ
      refine lv_iload_n hx hb dX6_after_4 rfl (lv_at hl 0 rfl) ?_
      refine lv_aload_n hx hb dX6_after_5 rfl (lv_at hl 1 rfl) ?_
      refine va_get (D := D) (ci := 5) (v := .int (nI n)) (C := RX6) (T := TX6) (N := 5) hx hb hts (fun w h => List.mem_cons_of_mem _ (inX6 w h)) hown hK hP 0 rfl rfl 1 (by decide) (eT_h hts tw368) (fun _ h9 => h9) rfl dX6_after_6 ?_
      refine lv_icmp_ge (tgt := 31) hx hb dX6_after_9 (by decide) (fun h1 => ?_) (fun h1 => ?_)
      · skip
        have h1 : n ≤ k := (nI_leI (a := n) (b := k) (by omega) (by omega)).mp h1
        refine lv_iload_n hx hb dX6_after_31 rfl (lv_at hl 0 rfl) ?_
        exact er_iret hx hb hr hlk (by rw [he, show n - k = 0 by omega]; rfl) dX6_after_32
      · skip
        have h1 : ¬ (n ≤ k) := fun q9 => h1 ((nI_leI (a := n) (b := k) (by omega) (by omega)).mpr q9)
        refine lv_aload_n hx hb dX6_after_12 rfl (lv_at hl 1 rfl) ?_
        refine lv_aload_n hx hb dX6_after_13 rfl (lv_at hl 1 rfl) ?_
        refine va_get (D := D) (ci := 5) (v := .ref wA) (C := RX6) (T := TX6) (N := 5) hx hb hts (fun w h => List.mem_cons_of_mem _ (inX6 w h)) hown hK hP 0 rfl rfl 3 (by decide) (eT_h hts tw370) (fun _ h9 => h9) rfl dX6_after_14 ?_
        refine lv_iload_n hx hb dX6_after_17 rfl (lv_at hl 0 rfl) ?_
        refine va_iald hx hb hK hP 2 0 rfl rfl (vp_in_nI (by omega) (by decide)) dX6_after_18 ?_
        refine ef_eqi (y := w k) (by rw [nI_clamp (by omega)]) ?_
        refine er_V (own := RX6) (C := RX6) (b := h0) (rest := []) hx hb hml hown hts hl.1 (k_X6_passed l D cI cZ cJ h0 (w k)) tw430 tw7 tw427 tw429 ts_X6_passed yd_X6_passed rfl rfl ⟨Nat.le_of_ble_eq_true rfl, Nat.le_of_ble_eq_true rfl⟩ er_nil hK hP (q0 := 0) rfl rfl rfl rfl (Nat.le_of_ble_eq_true rfl) ⟨Nat.zero_le _, Nat.zero_le _⟩ dX6_after_19 ?_
        refine ef_if_eq (tgt := 31) hx hb dX6_after_22 (by decide) (fun h2 => ?_) (fun h2 => ?_)
        · skip
          refine lv_iload_n hx hb dX6_after_31 rfl (lv_at hl 0 rfl) ?_
          exact er_iret hx hb hr hlk (by rw [he, show n - k = (n - (k + 1)) + 1 by omega]; simp [em_af, h2]) dX6_after_32
        · skip
          refine lv_iinc (k := 0) (v := nI (k + 1)) (lv' := [(2, .int (nI (k + 1))), (0, .ref h0), (1, .int (nI i))]) hx hb dX6_after_25 hl rfl (by rw [show Int32.ofInt 1 = 1 from by decide]; exact nI_1 _) (Nat.le_of_ble_eq_true rfl) rfl (fun ls hl => ?_)
          refine lv_goto (tgt := 4) hx hb dX6_after_28 (by decide) ?_
          exact ih (k + 1) ls hl (by omega) (by rw [he, show n - k = (n - (k + 1)) + 1 by omega]; simp [em_af, h2]) (by omega)
  refine lv_iload_n hx hb dX6_after_0 rfl (lv_at hl 1 rfl) ?_
  refine lv_iconst (v := 1) hx hb dX6_after_1 (by decide) ?_
  refine lv_iadd hx hb dX6_after_2 ?_
  refine ef_eqi (y := nI (i + 1)) (nI_add i 1) ?_
  refine lv_istore_n (lv' := [(2, .int (nI (i + 1))), (0, .ref h0), (1, .int (nI i))]) hx hb dX6_after_3 rfl hl (Nat.le_of_ble_eq_true rfl) rfl (fun ls hl => ?_)
  exact L4 _ (i + 1) ls hl (by omega) rfl (Nat.lt_succ_self _)

def em_wk (w : Nat → Int32) (n : Nat) (x : Int32) : Int32 := if x < 0 then -1 else if x < nI n then w x.toNatClampNeg else -1
theorem em_in {x : Int32} {n : Nat} (hn : n ≤ 1000) (h0 : ¬ x < 0) (h : x < nI n) : vp_in x 1000 := by
  obtain ⟨j, hj, rfl⟩ := nI_of h0
  have h2 := (nI_ltI hj (by omega)).mp h
  exact vp_in_nI (by omega) (by decide)
theorem em_wk_n {w : Nat → Int32} {n j : Nat} (hj : j < 2 ^ 31) (hn : n ≤ 1000) : em_wk w n (nI j) = if j < n then w j else -1 := by
  have h0 := nI_pos hj
  by_cases h : j < n
  · simp [em_wk, h0, (nI_ltI hj (by omega)).mpr h, h, nI_clamp hj]
  · have h2 : ¬ nI j < nI n := fun q => h ((nI_ltI hj (by omega)).mp q)
    simp [em_wk, h0, h2, h]
theorem em_wk_m {w : Nat → Int32} {n : Nat} : em_wk w n (-1) = -1 := by
  have h : (-1 : Int32) < 0 := by decide
  simp [em_wk, h]
theorem em_wk_b {w : Nat → Int32} {n j : Nat} (hj : j ≤ n) (hn : n ≤ 1000) : em_wk w n (em_bi w j) = em_pk w j := by
  unfold em_bi em_pk
  by_cases h : j = 0
  · simp [h, em_wk_m]
  · have h1 := em_ct_le w (j - 1)
    simp only [h, if_false]
    rw [em_wk_n (by omega) hn, if_pos (by omega)]

set_option maxHeartbeats 4000000 in
set_option maxRecDepth 100000 in
theorem k_X6_wordKind (l : Launch) (D : va_G) (cI cZ cJ : ClassId) (h0 gA wA pA : Nat) (fa : Int32) (n : Nat) (g w : Nat → Int32) (P : Nat → Bool) (x : Int32) (hn : n ≤ 1000) : er_M l yX6_wordKind (Cond.code yX6_wordKind cX6_wordKind 2 (some .int) :: eT) ({ frames := 0, cells := 0, slots := 0, locals := 0 }) D vwCl (eTy cI cZ cJ) [.ref h0, .int x] [(h0, .inr (5, [.int fa, .int (nI n), .ref gA, .ref wA, .ref pA])), (gA, .inl (cI, 1000, .inl g)), (wA, .inl (cI, 1000, .inl w)), (pA, .inl (cZ, 1000, .inl (fun j => ef_b (P j))))] (.int (em_wk w n x)) := by
  refine er_of (cc := cX6_wordKind) (maxL := 2) (ret := (some .int)) (by decide) rfl (Nat.le_of_ble_eq_true rfl) ?_
  intro p e s m args below meth c ls hx hb hr hts hown hlk hml hP hK hl
  have hown : s.vm.findClass RX6 = some m.cls := hown
  have hl : lv_has ls 2 [(0, .ref h0), (1, .int x)] := hl
  refine lv_iload_n hx hb dX6_wordKind_0 rfl (lv_at hl 1 rfl) ?_
  refine lv_if_lt (tgt := 12) hx hb dX6_wordKind_1 (by decide) (fun h1 => ?_) (fun h1 => ?_)
  · skip
    refine lv_iconst (v := (-1)) hx hb dX6_wordKind_12 (by decide) ?_
    refine lv_goto (tgt := 22) hx hb dX6_wordKind_13 (by decide) ?_
    exact er_iret hx hb hr hlk (by simp [em_wk, h1]) dX6_wordKind_22
  · skip
    refine lv_iload_n hx hb dX6_wordKind_4 rfl (lv_at hl 1 rfl) ?_
    refine lv_aload_n hx hb dX6_wordKind_5 rfl (lv_at hl 0 rfl) ?_
    refine va_get (D := D) (ci := 5) (v := .int (nI n)) (C := RX6) (T := TX6) (N := 5) hx hb hts (fun w h => List.mem_cons_of_mem _ (inX6 w h)) hown hK hP 0 rfl rfl 1 (by decide) (eT_h hts tw368) (fun _ h9 => h9) rfl dX6_wordKind_6 ?_
    refine lv_icmp_lt (tgt := 16) hx hb dX6_wordKind_9 (by decide) (fun h2 => ?_) (fun h2 => ?_)
    · skip
      refine lv_aload_n hx hb dX6_wordKind_16 rfl (lv_at hl 0 rfl) ?_
      refine va_get (D := D) (ci := 5) (v := .ref wA) (C := RX6) (T := TX6) (N := 5) hx hb hts (fun w h => List.mem_cons_of_mem _ (inX6 w h)) hown hK hP 0 rfl rfl 3 (by decide) (eT_h hts tw370) (fun _ h9 => h9) rfl dX6_wordKind_17 ?_
      refine lv_iload_n hx hb dX6_wordKind_20 rfl (lv_at hl 1 rfl) ?_
      refine va_iald hx hb hK hP 2 0 rfl rfl (em_in hn h1 h2) dX6_wordKind_21 ?_
      exact er_iret hx hb hr hlk (by simp [em_wk, h1, h2]) dX6_wordKind_22
    · skip
      refine lv_iconst (v := (-1)) hx hb dX6_wordKind_12 (by decide) ?_
      refine lv_goto (tgt := 22) hx hb dX6_wordKind_13 (by decide) ?_
      exact er_iret hx hb hr hlk (by simp [em_wk, h1, h2]) dX6_wordKind_22

def em_bad (kd x : Int32) (n : Nat) : Bool := decide (kd < 0) || decide (1 < kd) || decide (x < 0) || decide (nI n < x)

set_option maxHeartbeats 4000000 in
set_option maxRecDepth 100000 in
theorem k_X6_bad (l : Launch) (D : va_G) (cI cZ cJ : ClassId) (h0 gA wA pA : Nat) (fa : Int32) (n : Nat) (g w : Nat → Int32) (P : Nat → Bool) (kd x : Int32) : er_M l yX6_bad (Cond.code yX6_bad cX6_bad 3 (some .boolean) :: eT) ({ frames := 0, cells := 0, slots := 0, locals := 0 }) D vwCl (eTy cI cZ cJ) [.ref h0, .int kd, .int x] [(h0, .inr (5, [.int fa, .int (nI n), .ref gA, .ref wA, .ref pA])), (gA, .inl (cI, 1000, .inl g)), (wA, .inl (cI, 1000, .inl w)), (pA, .inl (cZ, 1000, .inl (fun j => ef_b (P j))))] (.int (ef_b (em_bad kd x n))) := by
  refine er_of (cc := cX6_bad) (maxL := 3) (ret := (some .boolean)) (by decide) rfl (Nat.le_of_ble_eq_true rfl) ?_
  intro p e s m args below meth c ls hx hb hr hts hown hlk hml hP hK hl
  have hown : s.vm.findClass RX6 = some m.cls := hown
  have hl : lv_has ls 3 [(0, .ref h0), (1, .int kd), (2, .int x)] := hl
  refine lv_iload_n hx hb dX6_bad_0 rfl (lv_at hl 1 rfl) ?_
  refine lv_if_lt (tgt := 21) hx hb dX6_bad_1 (by decide) (fun h1 => ?_) (fun h1 => ?_)
  · skip
    refine lv_iconst (v := 1) hx hb dX6_bad_21 (by decide) ?_
    refine lv_goto (tgt := 26) hx hb dX6_bad_22 (by decide) ?_
    exact er_zret hx hb hr hlk (by simp [ef_b, em_bad, h1]) dX6_bad_26
  · skip
    refine lv_iload_n hx hb dX6_bad_4 rfl (lv_at hl 1 rfl) ?_
    refine lv_iconst (v := 1) hx hb dX6_bad_5 (by decide) ?_
    refine lv_icmp_gt (tgt := 21) hx hb dX6_bad_6 (by decide) (fun h2 => ?_) (fun h2 => ?_)
    · skip
      refine lv_iconst (v := 1) hx hb dX6_bad_21 (by decide) ?_
      refine lv_goto (tgt := 26) hx hb dX6_bad_22 (by decide) ?_
      exact er_zret hx hb hr hlk (by simp [ef_b, em_bad, h1, h2]) dX6_bad_26
    · skip
      refine lv_iload_n hx hb dX6_bad_9 rfl (lv_at hl 2 rfl) ?_
      refine lv_if_lt (tgt := 21) hx hb dX6_bad_10 (by decide) (fun h3 => ?_) (fun h3 => ?_)
      · skip
        refine lv_iconst (v := 1) hx hb dX6_bad_21 (by decide) ?_
        refine lv_goto (tgt := 26) hx hb dX6_bad_22 (by decide) ?_
        exact er_zret hx hb hr hlk (by simp [ef_b, em_bad, h1, h2, h3]) dX6_bad_26
      · skip
        refine lv_iload_n hx hb dX6_bad_13 rfl (lv_at hl 2 rfl) ?_
        refine lv_aload_n hx hb dX6_bad_14 rfl (lv_at hl 0 rfl) ?_
        refine va_get (D := D) (ci := 5) (v := .int (nI n)) (C := RX6) (T := TX6) (N := 5) hx hb hts (fun w h => List.mem_cons_of_mem _ (inX6 w h)) hown hK hP 0 rfl rfl 1 (by decide) (eT_h hts tw368) (fun _ h9 => h9) rfl dX6_bad_15 ?_
        refine lv_icmp_le (tgt := 25) hx hb dX6_bad_18 (by decide) (fun h4 => ?_) (fun h4 => ?_)
        · skip
          have h4 := Int32.not_lt.mpr h4
          refine lv_iconst (v := 0) hx hb dX6_bad_25 (by decide) ?_
          exact er_zret hx hb hr hlk (by simp [ef_b, em_bad, h1, h2, h3, h4]) dX6_bad_26
        · skip
          have h4 := Int32.not_le.mp h4
          refine lv_iconst (v := 1) hx hb dX6_bad_21 (by decide) ?_
          refine lv_goto (tgt := 26) hx hb dX6_bad_22 (by decide) ?_
          exact er_zret hx hb hr hlk (by simp [ef_b, em_bad, h1, h2, h3, h4]) dX6_bad_26
end
section
theorem ei_m2 (k : Nat) : nI (k + 1) - 2 = nI k + (-1) := by
  rw [nI_succ, Int32.sub_eq_add_neg, Int32.add_assoc]
  rfl
theorem ei_par {c : Nat} {a b : Bool} (h : a = !b) : (decide (c % 2 = 1) ^^ a) = (decide ((c + 1) % 2 = 1) ^^ b) := by
  subst h
  by_cases hc : c % 2 = 1
  · have h2 : ¬ (c + 1) % 2 = 1 := by omega
    simp [hc, h2]
  · have h2 : (c + 1) % 2 = 1 := by omega
    simp [hc, h2]

set_option maxHeartbeats 4000000 in
set_option maxRecDepth 100000 in
theorem k_X6_cluster (l : Launch) (D : va_G) (cI cZ cJ : ClassId) (h0 gA wA pA : Nat) (fa : Int32) (n : Nat) (g w : Nat → Int32) (P : Nat → Bool) (k : Nat) (hk : k + 1 < 1000) : er_M l yX6_cluster (Cond.code yX6_cluster cX6_cluster 6 (some .boolean) :: eT) ({ frames := 0, cells := 0, slots := 0, locals := 0 }) D vwCl (eTy cI cZ cJ) [.ref h0, .int (nI (k + 1))] [(h0, .inr (5, [.int fa, .int (nI n), .ref gA, .ref wA, .ref pA])), (gA, .inl (cI, 1000, .inl g)), (wA, .inl (cI, 1000, .inl w)), (pA, .inl (cZ, 1000, .inl (fun j => ef_b (P j))))] (.int (ef_b (em_cl (g k) (g (k + 1)) (P (k + 1)) (eg_od g (k + 1)) (eg_ap g P k)))) := by
  refine er_of (cc := cX6_cluster) (maxL := 6) (ret := (some .boolean)) (by decide) rfl (Nat.le_of_ble_eq_true rfl) ?_
  intro p e s m args below meth c ls hx hb hr hts hown hlk hml hP hK hl
  have hown : s.vm.findClass RX6 = some m.cls := hown
  have hl : lv_has ls 6 [(0, .ref h0), (1, .int (nI (k + 1)))] := hl
  have L266 : ∀ (c9 : Nat) (ls : Array Slot), lv_has ls 6 [(4, .int (nI c9))] → (g k == 1 && g (k + 1) == 2) = false → ew_le (g k) = false → ew_le (g (k + 1)) = false → (g k == 9 && (g (k + 1) == 9 || g (k + 1) == 10 || g (k + 1) == 12 || g (k + 1) == 13)) = false → ((g k == 12 || g k == 10) && (g (k + 1) == 10 || g (k + 1) == 11)) = false → ((g k == 13 || g k == 11) && g (k + 1) == 11) = false → (g (k + 1) == 4 || g (k + 1) == 5 || g (k + 1) == 8 || g k == 7) = false → (g k == 5 && P (k + 1) && eg_ap g P k) = false → g k = 6 → g (k + 1) = 6 → c9 ≤ 1000 → eg_od g (k + 1) = decide (c9 % 2 = 1) → W p l e ({ frames := 0, cells := 0, slots := 0, locals := 0 }) s m args below meth c s.heap [] 0 0 (MQ below (er_Q (.int (ef_b (em_cl (g k) (g (k + 1)) (P (k + 1)) (eg_od g (k + 1)) (eg_ap g P k))))) args s 0 0 (fun _ => False)) (F0 m 266 ls []) := by
    intro c9 ls hl f28 f50 f51 f82 f108 f128 f152 f220 f6a f6b hc ho
    refine lv_iload hx hb dX6_cluster_266 (lv_at hl 0 rfl) ?_
    refine lv_iconst (v := 2) hx hb dX6_cluster_268 (by decide) ?_
    refine lv_irem hx hb dX6_cluster_269 (by decide) ?_
    refine ef_eqi (y := nI (c9 % 2)) (pk_rem (a := c9) (d := 2) (by omega) (by decide) (by decide)) ?_
    refine lv_iconst (v := 1) hx hb dX6_cluster_270 (by decide) ?_
    refine lv_icmp_ne (tgt := 276) hx hb dX6_cluster_271 (by decide) (fun h1 => ?_) (fun h1 => ?_)
    · skip
      have h1 : ¬ (c9 % 2 = 1) := fun q9 => h1 ((nI_eq (a := c9 % 2) (b := 1) (by omega) (by omega)).mpr q9)
      refine lv_iconst (v := 1) hx hb dX6_cluster_276 (by decide) ?_
      exact er_zret hx hb hr hlk (by simp [ef_b, em_cl, f28, f50, f51, f82, f108, f128, f152, f220, ho, f6a, f6b, h1]) dX6_cluster_277
    · skip
      have h1 : c9 % 2 = 1 := (nI_eq (a := c9 % 2) (b := 1) (by omega) (by omega)).mp h1
      refine lv_iconst (v := 0) hx hb dX6_cluster_274 (by decide) ?_
      exact er_zret hx hb hr hlk (by simp [ef_b, em_cl, f28, f50, f51, f82, f108, f128, f152, f220, ho, f28, f50, f51, f82, f108, f128, f152, f220, f6a, f6b, h1] <;> decide) dX6_cluster_275
  have L240 : ∀ (r : Nat) (c9 j : Nat) (ls : Array Slot), lv_has ls 6 [(5, .int (nI j + (-1))), (4, .int (nI c9)), (0, .ref h0)] → (g k == 1 && g (k + 1) == 2) = false → ew_le (g k) = false → ew_le (g (k + 1)) = false → (g k == 9 && (g (k + 1) == 9 || g (k + 1) == 10 || g (k + 1) == 12 || g (k + 1) == 13)) = false → ((g k == 12 || g k == 10) && (g (k + 1) == 10 || g (k + 1) == 11)) = false → ((g k == 13 || g k == 11) && g (k + 1) == 11) = false → (g (k + 1) == 4 || g (k + 1) == 5 || g (k + 1) == 8 || g k == 7) = false → (g k == 5 && P (k + 1) && eg_ap g P k) = false → g k = 6 → g (k + 1) = 6 → c9 + j = k + 1 → eg_od g (k + 1) = (decide (c9 % 2 = 1) ^^ eg_od g j) → j < r → W p l e ({ frames := 0, cells := 0, slots := 0, locals := 0 }) s m args below meth c s.heap [] 0 0 (MQ below (er_Q (.int (ef_b (em_cl (g k) (g (k + 1)) (P (k + 1)) (eg_od g (k + 1)) (eg_ap g P k))))) args s 0 0 (fun _ => False)) (F0 m 240 ls []) := by
    intro r
    induction r with
    | zero => intro c9 j ls hl f28 f50 f51 f82 f108 f128 f152 f220 f6a f6b hc ho hμ; exact absurd hμ (Nat.not_lt_zero _)
    | succ r ih =>
      intro c9 j ls hl f28 f50 f51 f82 f108 f128 f152 f220 f6a f6b hc ho hμ
      rcases j with _ | j
      · skip
        refine lv_iload hx hb dX6_cluster_240 (lv_at hl 0 rfl) ?_
        refine lv_if_lt (tgt := 266) hx hb dX6_cluster_242 (by decide) (fun h2 => ?_) (fun h2 => ?_)
        · skip
          exact L266 c9 ls (lv_sub hl [1] rfl) f28 f50 f51 f82 f108 f128 f152 f220 f6a f6b (by omega) (by rw [ho]; simp [eg_od])
        · skip
          exact absurd (by decide) h2
      · skip
        have hl : lv_has ls 6 [(5, .int (nI j)), (4, .int (nI c9)), (0, .ref h0)] := by rw [← pk_m1 j]; exact hl
        refine lv_iload hx hb dX6_cluster_240 (lv_at hl 0 rfl) ?_
        refine lv_if_lt (tgt := 266) hx hb dX6_cluster_242 (by decide) (fun h3 => ?_) (fun h3 => ?_)
        · skip
          exact absurd h3 (nI_pos (by omega))
        · skip
          refine lv_aload_n hx hb dX6_cluster_245 rfl (lv_at hl 2 rfl) ?_
          refine va_get (D := D) (ci := 5) (v := .ref gA) (C := RX6) (T := TX6) (N := 5) hx hb hts (fun w h => List.mem_cons_of_mem _ (inX6 w h)) hown hK hP 0 rfl rfl 2 (by decide) (eT_h hts tw369) (fun _ h9 => h9) rfl dX6_cluster_246 ?_
          refine lv_iload hx hb dX6_cluster_249 (lv_at hl 0 rfl) ?_
          refine va_iald hx hb hK hP 1 0 rfl rfl (vp_in_nI (by omega) (by decide)) dX6_cluster_251 ?_
          refine ef_eqi (y := g j) (by rw [nI_clamp (by omega)]) ?_
          refine lv_bipush (v := 6) hx hb dX6_cluster_252 (by decide) ?_
          refine lv_icmp_ne (tgt := 266) hx hb dX6_cluster_254 (by decide) (fun h4 => ?_) (fun h4 => ?_)
          · skip
            exact L266 c9 ls (lv_sub hl [1] rfl) f28 f50 f51 f82 f108 f128 f152 f220 f6a f6b (by omega) (by rw [ho]; simp [eg_od, h4, ei_n h4])
          · skip
            refine lv_iinc (k := 1) (v := nI (c9 + 1)) (lv' := [(4, .int (nI (c9 + 1))), (5, .int (nI j)), (0, .ref h0)]) hx hb dX6_cluster_257 hl rfl (by rw [show Int32.ofInt 1 = 1 from by decide]; exact nI_1 _) (Nat.le_of_ble_eq_true rfl) rfl (fun ls hl => ?_)
            refine lv_iinc (k := 1) (v := nI j + (-1)) (lv' := [(5, .int (nI j + (-1))), (4, .int (nI (c9 + 1))), (0, .ref h0)]) hx hb dX6_cluster_260 hl rfl (by rw [show Int32.ofInt (-1) = -1 from by decide]) (Nat.le_of_ble_eq_true rfl) rfl (fun ls hl => ?_)
            refine lv_goto (tgt := 240) hx hb dX6_cluster_263 (by decide) ?_
            exact ih (c9 + 1) j ls hl f28 f50 f51 f82 f108 f128 f152 f220 f6a f6b (by omega) (by rw [ho]; exact ei_par (by simp [eg_od, h4])) (by omega)
  have L220 : ∀ (ls : Array Slot), lv_has ls 6 [(3, .int (g (k + 1))), (2, .int (g k)), (0, .ref h0), (1, .int (nI (k + 1)))] → (g k == 1 && g (k + 1) == 2) = false → ew_le (g k) = false → ew_le (g (k + 1)) = false → (g k == 9 && (g (k + 1) == 9 || g (k + 1) == 10 || g (k + 1) == 12 || g (k + 1) == 13)) = false → ((g k == 12 || g k == 10) && (g (k + 1) == 10 || g (k + 1) == 11)) = false → ((g k == 13 || g k == 11) && g (k + 1) == 11) = false → (g (k + 1) == 4 || g (k + 1) == 5 || g (k + 1) == 8 || g k == 7) = false → (g k == 5 && P (k + 1) && eg_ap g P k) = false → W p l e ({ frames := 0, cells := 0, slots := 0, locals := 0 }) s m args below meth c s.heap [] 0 0 (MQ below (er_Q (.int (ef_b (em_cl (g k) (g (k + 1)) (P (k + 1)) (eg_od g (k + 1)) (eg_ap g P k))))) args s 0 0 (fun _ => False)) (F0 m 220 ls []) := by
    intro ls hl f28 f50 f51 f82 f108 f128 f152 f220
    refine lv_iload_n hx hb dX6_cluster_220 rfl (lv_at hl 1 rfl) ?_
    refine lv_bipush (v := 6) hx hb dX6_cluster_221 (by decide) ?_
    refine lv_icmp_ne (tgt := 276) hx hb dX6_cluster_223 (by decide) (fun h5 => ?_) (fun h5 => ?_)
    · skip
      refine lv_iconst (v := 1) hx hb dX6_cluster_276 (by decide) ?_
      exact er_zret hx hb hr hlk (by simp [ef_b, em_cl, f28, f50, f51, f82, f108, f128, f152, f220, h5]) dX6_cluster_277
    · skip
      refine lv_iload_n hx hb dX6_cluster_226 rfl (lv_at hl 0 rfl) ?_
      refine lv_bipush (v := 6) hx hb dX6_cluster_227 (by decide) ?_
      refine lv_icmp_ne (tgt := 276) hx hb dX6_cluster_229 (by decide) (fun h6 => ?_) (fun h6 => ?_)
      · skip
        refine lv_iconst (v := 1) hx hb dX6_cluster_276 (by decide) ?_
        exact er_zret hx hb hr hlk (by simp [ef_b, em_cl, f28, f50, f51, f82, f108, f128, f152, f220, h6]) dX6_cluster_277
      · skip
        refine lv_iconst (v := 0) hx hb dX6_cluster_232 (by decide) ?_
        refine lv_istore (lv' := [(4, .int 0), (3, .int (g (k + 1))), (2, .int (g k)), (0, .ref h0), (1, .int (nI (k + 1)))]) hx hb dX6_cluster_233 hl (Nat.le_of_ble_eq_true rfl) rfl (fun ls hl => ?_)
        refine lv_iload_n hx hb dX6_cluster_235 rfl (lv_at hl 4 rfl) ?_
        refine lv_iconst (v := 1) hx hb dX6_cluster_236 (by decide) ?_
        refine lv_isub hx hb dX6_cluster_237 ?_
        refine ef_eqi (y := nI (k + 1) + (-1)) (Int32.sub_eq_add_neg _ _) ?_
        refine lv_istore (lv' := [(5, .int (nI (k + 1) + (-1))), (4, .int 0), (3, .int (g (k + 1))), (2, .int (g k)), (0, .ref h0), (1, .int (nI (k + 1)))]) hx hb dX6_cluster_238 hl (Nat.le_of_ble_eq_true rfl) rfl (fun ls hl => ?_)
        exact L240 _ 0 (k + 1) ls (lv_sub hl [0, 1, 4] rfl) f28 f50 f51 f82 f108 f128 f152 f220 h5 h6 (by omega) (by simp) (Nat.lt_succ_self _)
  have L171 : ∀ (r : Nat) (j : Nat) (ls : Array Slot), lv_has ls 6 [(4, .int (nI j + (-1))), (3, .int (g (k + 1))), (2, .int (g k)), (0, .ref h0), (1, .int (nI (k + 1)))] → (g k == 1 && g (k + 1) == 2) = false → ew_le (g k) = false → ew_le (g (k + 1)) = false → (g k == 9 && (g (k + 1) == 9 || g (k + 1) == 10 || g (k + 1) == 12 || g (k + 1) == 13)) = false → ((g k == 12 || g k == 10) && (g (k + 1) == 10 || g (k + 1) == 11)) = false → ((g k == 13 || g k == 11) && g (k + 1) == 11) = false → (g (k + 1) == 4 || g (k + 1) == 5 || g (k + 1) == 8 || g k == 7) = false → g k = 5 → P (k + 1) = true → j ≤ k → eg_ap g P k = eg_ap g P j → j < r → W p l e ({ frames := 0, cells := 0, slots := 0, locals := 0 }) s m args below meth c s.heap [] 0 0 (MQ below (er_Q (.int (ef_b (em_cl (g k) (g (k + 1)) (P (k + 1)) (eg_od g (k + 1)) (eg_ap g P k))))) args s 0 0 (fun _ => False)) (F0 m 171 ls []) := by
    intro r
    induction r with
    | zero => intro j ls hl f28 f50 f51 f82 f108 f128 f152 f5a f5b hj he hμ; exact absurd hμ (Nat.not_lt_zero _)
    | succ r ih =>
      intro j ls hl f28 f50 f51 f82 f108 f128 f152 f5a f5b hj he hμ
      rcases j with _ | j
      · skip
        refine lv_iload hx hb dX6_cluster_171 (lv_at hl 0 rfl) ?_
        refine lv_if_lt (tgt := 203) hx hb dX6_cluster_173 (by decide) (fun h7 => ?_) (fun h7 => ?_)
        · skip
          refine lv_iload hx hb dX6_cluster_203 (lv_at hl 0 rfl) ?_
          refine lv_if_lt (tgt := 220) hx hb dX6_cluster_205 (by decide) (fun h8 => ?_) (fun h8 => ?_)
          · skip
            exact L220  ls (lv_sub hl [1, 2, 3, 4] rfl) f28 f50 f51 f82 f108 f128 f152 (by simp [he, eg_ap])
          · skip
            exact absurd (by decide) h8
        · skip
          exact absurd (by decide) h7
      · skip
        have hl : lv_has ls 6 [(4, .int (nI j)), (3, .int (g (k + 1))), (2, .int (g k)), (0, .ref h0), (1, .int (nI (k + 1)))] := by rw [← pk_m1 j]; exact hl
        refine lv_iload hx hb dX6_cluster_171 (lv_at hl 0 rfl) ?_
        refine lv_if_lt (tgt := 203) hx hb dX6_cluster_173 (by decide) (fun h9 => ?_) (fun h9 => ?_)
        · skip
          exact absurd h9 (nI_pos (by omega))
        · skip
          refine lv_aload_n hx hb dX6_cluster_176 rfl (lv_at hl 3 rfl) ?_
          refine va_get (D := D) (ci := 5) (v := .ref pA) (C := RX6) (T := TX6) (N := 5) hx hb hts (fun w h => List.mem_cons_of_mem _ (inX6 w h)) hown hK hP 0 rfl rfl 4 (by decide) (eT_h hts tw371) (fun _ h9 => h9) rfl dX6_cluster_177 ?_
          refine lv_iload hx hb dX6_cluster_180 (lv_at hl 0 rfl) ?_
          refine va_zald hx hb hK hP 3 1 rfl rfl (vp_in_nI (by omega) (by decide)) dX6_cluster_182 ?_
          refine ef_eqi (y := ef_b (P j)) (by rw [nI_clamp (by omega)]) ?_
          refine ef_if_ne (tgt := 203) hx hb dX6_cluster_183 (by decide) (fun h10 => ?_) (fun h10 => ?_)
          · skip
            refine lv_iload hx hb dX6_cluster_203 (lv_at hl 0 rfl) ?_
            refine lv_if_lt (tgt := 220) hx hb dX6_cluster_205 (by decide) (fun h11 => ?_) (fun h11 => ?_)
            · skip
              exact absurd h11 (nI_pos (by omega))
            · skip
              refine lv_aload_n hx hb dX6_cluster_208 rfl (lv_at hl 3 rfl) ?_
              refine va_get (D := D) (ci := 5) (v := .ref pA) (C := RX6) (T := TX6) (N := 5) hx hb hts (fun w h => List.mem_cons_of_mem _ (inX6 w h)) hown hK hP 0 rfl rfl 4 (by decide) (eT_h hts tw371) (fun _ h9 => h9) rfl dX6_cluster_209 ?_
              refine lv_iload hx hb dX6_cluster_212 (lv_at hl 0 rfl) ?_
              refine va_zald hx hb hK hP 3 1 rfl rfl (vp_in_nI (by omega) (by decide)) dX6_cluster_214 ?_
              refine ef_eqi (y := ef_b (P j)) (by rw [nI_clamp (by omega)]) ?_
              refine ef_if_eq (tgt := 220) hx hb dX6_cluster_215 (by decide) (fun h12 => ?_) (fun h12 => ?_)
              · skip
                exact Bool.noConfusion (h10.symm.trans h12)
              · skip
                refine lv_iconst (v := 0) hx hb dX6_cluster_218 (by decide) ?_
                exact er_zret hx hb hr hlk (by simp [ef_b, em_cl, f28, f50, f51, f82, f108, f128, f152, f5a, f5b, h10, h12, he, eg_ap] <;> decide) dX6_cluster_219
          · skip
            refine lv_aload_n hx hb dX6_cluster_186 rfl (lv_at hl 3 rfl) ?_
            refine va_get (D := D) (ci := 5) (v := .ref gA) (C := RX6) (T := TX6) (N := 5) hx hb hts (fun w h => List.mem_cons_of_mem _ (inX6 w h)) hown hK hP 0 rfl rfl 2 (by decide) (eT_h hts tw369) (fun _ h9 => h9) rfl dX6_cluster_187 ?_
            refine lv_iload hx hb dX6_cluster_190 (lv_at hl 0 rfl) ?_
            refine va_iald hx hb hK hP 1 0 rfl rfl (vp_in_nI (by omega) (by decide)) dX6_cluster_192 ?_
            refine ef_eqi (y := g j) (by rw [nI_clamp (by omega)]) ?_
            refine lv_iconst (v := 4) hx hb dX6_cluster_193 (by decide) ?_
            refine lv_icmp_ne (tgt := 203) hx hb dX6_cluster_194 (by decide) (fun h13 => ?_) (fun h13 => ?_)
            · skip
              refine lv_iload hx hb dX6_cluster_203 (lv_at hl 0 rfl) ?_
              refine lv_if_lt (tgt := 220) hx hb dX6_cluster_205 (by decide) (fun h14 => ?_) (fun h14 => ?_)
              · skip
                exact absurd h14 (nI_pos (by omega))
              · skip
                refine lv_aload_n hx hb dX6_cluster_208 rfl (lv_at hl 3 rfl) ?_
                refine va_get (D := D) (ci := 5) (v := .ref pA) (C := RX6) (T := TX6) (N := 5) hx hb hts (fun w h => List.mem_cons_of_mem _ (inX6 w h)) hown hK hP 0 rfl rfl 4 (by decide) (eT_h hts tw371) (fun _ h9 => h9) rfl dX6_cluster_209 ?_
                refine lv_iload hx hb dX6_cluster_212 (lv_at hl 0 rfl) ?_
                refine va_zald hx hb hK hP 3 1 rfl rfl (vp_in_nI (by omega) (by decide)) dX6_cluster_214 ?_
                refine ef_eqi (y := ef_b (P j)) (by rw [nI_clamp (by omega)]) ?_
                refine ef_if_eq (tgt := 220) hx hb dX6_cluster_215 (by decide) (fun h15 => ?_) (fun h15 => ?_)
                · skip
                  exact L220  ls (lv_sub hl [1, 2, 3, 4] rfl) f28 f50 f51 f82 f108 f128 f152 (by simp [h10, h13, h15, he, eg_ap])
                · skip
                  exact Bool.noConfusion (h10.symm.trans h15)
            · skip
              refine lv_iinc (k := 0) (v := nI j + (-1)) (lv' := [(4, .int (nI j + (-1))), (3, .int (g (k + 1))), (2, .int (g k)), (0, .ref h0), (1, .int (nI (k + 1)))]) hx hb dX6_cluster_197 hl rfl (by rw [show Int32.ofInt (-1) = -1 from by decide]) (Nat.le_of_ble_eq_true rfl) rfl (fun ls hl => ?_)
              refine lv_goto (tgt := 171) hx hb dX6_cluster_200 (by decide) ?_
              exact ih j ls hl f28 f50 f51 f82 f108 f128 f152 f5a f5b (by omega) (by rw [he]; simp [eg_ap, h10, h13]) (by omega)
  have L152 : ∀ (ls : Array Slot), lv_has ls 6 [(3, .int (g (k + 1))), (2, .int (g k)), (0, .ref h0), (1, .int (nI (k + 1)))] → (g k == 1 && g (k + 1) == 2) = false → ew_le (g k) = false → ew_le (g (k + 1)) = false → (g k == 9 && (g (k + 1) == 9 || g (k + 1) == 10 || g (k + 1) == 12 || g (k + 1) == 13)) = false → ((g k == 12 || g k == 10) && (g (k + 1) == 10 || g (k + 1) == 11)) = false → ((g k == 13 || g k == 11) && g (k + 1) == 11) = false → (g (k + 1) == 4 || g (k + 1) == 5 || g (k + 1) == 8 || g k == 7) = false → W p l e ({ frames := 0, cells := 0, slots := 0, locals := 0 }) s m args below meth c s.heap [] 0 0 (MQ below (er_Q (.int (ef_b (em_cl (g k) (g (k + 1)) (P (k + 1)) (eg_od g (k + 1)) (eg_ap g P k))))) args s 0 0 (fun _ => False)) (F0 m 152 ls []) := by
    intro ls hl f28 f50 f51 f82 f108 f128 f152
    refine lv_iload_n hx hb dX6_cluster_152 rfl (lv_at hl 1 rfl) ?_
    refine lv_iconst (v := 5) hx hb dX6_cluster_153 (by decide) ?_
    refine lv_icmp_ne (tgt := 220) hx hb dX6_cluster_154 (by decide) (fun h16 => ?_) (fun h16 => ?_)
    · skip
      exact L220  ls hl f28 f50 f51 f82 f108 f128 f152 (by simp [h16])
    · skip
      refine lv_aload_n hx hb dX6_cluster_157 rfl (lv_at hl 2 rfl) ?_
      refine va_get (D := D) (ci := 5) (v := .ref pA) (C := RX6) (T := TX6) (N := 5) hx hb hts (fun w h => List.mem_cons_of_mem _ (inX6 w h)) hown hK hP 0 rfl rfl 4 (by decide) (eT_h hts tw371) (fun _ h9 => h9) rfl dX6_cluster_158 ?_
      refine lv_iload_n hx hb dX6_cluster_161 rfl (lv_at hl 3 rfl) ?_
      refine va_zald hx hb hK hP 3 1 rfl rfl (vp_in_nI (by omega) (by decide)) dX6_cluster_162 ?_
      refine ef_eqi (y := ef_b (P (k + 1))) (by rw [nI_clamp (by omega)]) ?_
      refine ef_if_eq (tgt := 220) hx hb dX6_cluster_163 (by decide) (fun h17 => ?_) (fun h17 => ?_)
      · skip
        exact L220  ls hl f28 f50 f51 f82 f108 f128 f152 (by simp [h16, h17])
      · skip
        refine lv_iload_n hx hb dX6_cluster_166 rfl (lv_at hl 3 rfl) ?_
        refine lv_iconst (v := 2) hx hb dX6_cluster_167 (by decide) ?_
        refine lv_isub hx hb dX6_cluster_168 ?_
        refine ef_eqi (y := nI k + (-1)) (ei_m2 k) ?_
        refine lv_istore (lv' := [(4, .int (nI k + (-1))), (3, .int (g (k + 1))), (2, .int (g k)), (0, .ref h0), (1, .int (nI (k + 1)))]) hx hb dX6_cluster_169 hl (Nat.le_of_ble_eq_true rfl) rfl (fun ls hl => ?_)
        exact L171 _ k ls hl f28 f50 f51 f82 f108 f128 f152 h16 h17 (Nat.le_refl _) rfl (Nat.lt_succ_self _)
  have L128 : ∀ (ls : Array Slot), lv_has ls 6 [(3, .int (g (k + 1))), (2, .int (g k)), (0, .ref h0), (1, .int (nI (k + 1)))] → (g k == 1 && g (k + 1) == 2) = false → ew_le (g k) = false → ew_le (g (k + 1)) = false → (g k == 9 && (g (k + 1) == 9 || g (k + 1) == 10 || g (k + 1) == 12 || g (k + 1) == 13)) = false → ((g k == 12 || g k == 10) && (g (k + 1) == 10 || g (k + 1) == 11)) = false → ((g k == 13 || g k == 11) && g (k + 1) == 11) = false → W p l e ({ frames := 0, cells := 0, slots := 0, locals := 0 }) s m args below meth c s.heap [] 0 0 (MQ below (er_Q (.int (ef_b (em_cl (g k) (g (k + 1)) (P (k + 1)) (eg_od g (k + 1)) (eg_ap g P k))))) args s 0 0 (fun _ => False)) (F0 m 128 ls []) := by
    intro ls hl f28 f50 f51 f82 f108 f128
    refine lv_iload_n hx hb dX6_cluster_128 rfl (lv_at hl 0 rfl) ?_
    refine lv_iconst (v := 4) hx hb dX6_cluster_129 (by decide) ?_
    refine lv_icmp_eq (tgt := 150) hx hb dX6_cluster_130 (by decide) (fun h18 => ?_) (fun h18 => ?_)
    · skip
      refine lv_iconst (v := 0) hx hb dX6_cluster_150 (by decide) ?_
      exact er_zret hx hb hr hlk (by simp [ef_b, em_cl, f28, f50, f51, f82, f108, f128, h18] <;> decide) dX6_cluster_151
    · skip
      refine lv_iload_n hx hb dX6_cluster_133 rfl (lv_at hl 0 rfl) ?_
      refine lv_iconst (v := 5) hx hb dX6_cluster_134 (by decide) ?_
      refine lv_icmp_eq (tgt := 150) hx hb dX6_cluster_135 (by decide) (fun h19 => ?_) (fun h19 => ?_)
      · skip
        refine lv_iconst (v := 0) hx hb dX6_cluster_150 (by decide) ?_
        exact er_zret hx hb hr hlk (by simp [ef_b, em_cl, f28, f50, f51, f82, f108, f128, h18, h19] <;> decide) dX6_cluster_151
      · skip
        refine lv_iload_n hx hb dX6_cluster_138 rfl (lv_at hl 0 rfl) ?_
        refine lv_bipush (v := 8) hx hb dX6_cluster_139 (by decide) ?_
        refine lv_icmp_eq (tgt := 150) hx hb dX6_cluster_141 (by decide) (fun h20 => ?_) (fun h20 => ?_)
        · skip
          refine lv_iconst (v := 0) hx hb dX6_cluster_150 (by decide) ?_
          exact er_zret hx hb hr hlk (by simp [ef_b, em_cl, f28, f50, f51, f82, f108, f128, h18, h19, h20] <;> decide) dX6_cluster_151
        · skip
          refine lv_iload_n hx hb dX6_cluster_144 rfl (lv_at hl 1 rfl) ?_
          refine lv_bipush (v := 7) hx hb dX6_cluster_145 (by decide) ?_
          refine lv_icmp_ne (tgt := 152) hx hb dX6_cluster_147 (by decide) (fun h21 => ?_) (fun h21 => ?_)
          · skip
            exact L152  ls hl f28 f50 f51 f82 f108 f128 (by simp [h18, h19, h20, h21])
          · skip
            refine lv_iconst (v := 0) hx hb dX6_cluster_150 (by decide) ?_
            exact er_zret hx hb hr hlk (by simp [ef_b, em_cl, f28, f50, f51, f82, f108, f128, h18, h19, h20, h21] <;> decide) dX6_cluster_151
  have L108 : ∀ (ls : Array Slot), lv_has ls 6 [(3, .int (g (k + 1))), (2, .int (g k)), (0, .ref h0), (1, .int (nI (k + 1)))] → (g k == 1 && g (k + 1) == 2) = false → ew_le (g k) = false → ew_le (g (k + 1)) = false → (g k == 9 && (g (k + 1) == 9 || g (k + 1) == 10 || g (k + 1) == 12 || g (k + 1) == 13)) = false → ((g k == 12 || g k == 10) && (g (k + 1) == 10 || g (k + 1) == 11)) = false → W p l e ({ frames := 0, cells := 0, slots := 0, locals := 0 }) s m args below meth c s.heap [] 0 0 (MQ below (er_Q (.int (ef_b (em_cl (g k) (g (k + 1)) (P (k + 1)) (eg_od g (k + 1)) (eg_ap g P k))))) args s 0 0 (fun _ => False)) (F0 m 108 ls []) := by
    intro ls hl f28 f50 f51 f82 f108
    refine lv_iload_n hx hb dX6_cluster_108 rfl (lv_at hl 1 rfl) ?_
    refine lv_bipush (v := 13) hx hb dX6_cluster_109 (by decide) ?_
    refine lv_icmp_eq (tgt := 120) hx hb dX6_cluster_111 (by decide) (fun h22 => ?_) (fun h22 => ?_)
    · skip
      refine lv_iload_n hx hb dX6_cluster_120 rfl (lv_at hl 0 rfl) ?_
      refine lv_bipush (v := 11) hx hb dX6_cluster_121 (by decide) ?_
      refine lv_icmp_ne (tgt := 128) hx hb dX6_cluster_123 (by decide) (fun h23 => ?_) (fun h23 => ?_)
      · skip
        exact L128  ls hl f28 f50 f51 f82 f108 (by simp [h22, h23])
      · skip
        refine lv_iconst (v := 0) hx hb dX6_cluster_126 (by decide) ?_
        exact er_zret hx hb hr hlk (by simp [ef_b, em_cl, f28, f50, f51, f82, f108, h22, h23] <;> decide) dX6_cluster_127
    · skip
      refine lv_iload_n hx hb dX6_cluster_114 rfl (lv_at hl 1 rfl) ?_
      refine lv_bipush (v := 11) hx hb dX6_cluster_115 (by decide) ?_
      refine lv_icmp_ne (tgt := 128) hx hb dX6_cluster_117 (by decide) (fun h24 => ?_) (fun h24 => ?_)
      · skip
        exact L128  ls hl f28 f50 f51 f82 f108 (by simp [h22, h24])
      · skip
        refine lv_iload_n hx hb dX6_cluster_120 rfl (lv_at hl 0 rfl) ?_
        refine lv_bipush (v := 11) hx hb dX6_cluster_121 (by decide) ?_
        refine lv_icmp_ne (tgt := 128) hx hb dX6_cluster_123 (by decide) (fun h25 => ?_) (fun h25 => ?_)
        · skip
          exact L128  ls hl f28 f50 f51 f82 f108 (by simp [h22, h24, h25])
        · skip
          refine lv_iconst (v := 0) hx hb dX6_cluster_126 (by decide) ?_
          exact er_zret hx hb hr hlk (by simp [ef_b, em_cl, f28, f50, f51, f82, f108, h22, h24, h25] <;> decide) dX6_cluster_127
  have L82 : ∀ (ls : Array Slot), lv_has ls 6 [(3, .int (g (k + 1))), (2, .int (g k)), (0, .ref h0), (1, .int (nI (k + 1)))] → (g k == 1 && g (k + 1) == 2) = false → ew_le (g k) = false → ew_le (g (k + 1)) = false → (g k == 9 && (g (k + 1) == 9 || g (k + 1) == 10 || g (k + 1) == 12 || g (k + 1) == 13)) = false → W p l e ({ frames := 0, cells := 0, slots := 0, locals := 0 }) s m args below meth c s.heap [] 0 0 (MQ below (er_Q (.int (ef_b (em_cl (g k) (g (k + 1)) (P (k + 1)) (eg_od g (k + 1)) (eg_ap g P k))))) args s 0 0 (fun _ => False)) (F0 m 82 ls []) := by
    intro ls hl f28 f50 f51 f82
    refine lv_iload_n hx hb dX6_cluster_82 rfl (lv_at hl 1 rfl) ?_
    refine lv_bipush (v := 12) hx hb dX6_cluster_83 (by decide) ?_
    refine lv_icmp_eq (tgt := 94) hx hb dX6_cluster_85 (by decide) (fun h26 => ?_) (fun h26 => ?_)
    · skip
      refine lv_iload_n hx hb dX6_cluster_94 rfl (lv_at hl 0 rfl) ?_
      refine lv_bipush (v := 10) hx hb dX6_cluster_95 (by decide) ?_
      refine lv_icmp_eq (tgt := 106) hx hb dX6_cluster_97 (by decide) (fun h27 => ?_) (fun h27 => ?_)
      · skip
        refine lv_iconst (v := 0) hx hb dX6_cluster_106 (by decide) ?_
        exact er_zret hx hb hr hlk (by simp [ef_b, em_cl, f28, f50, f51, f82, h26, h27] <;> decide) dX6_cluster_107
      · skip
        refine lv_iload_n hx hb dX6_cluster_100 rfl (lv_at hl 0 rfl) ?_
        refine lv_bipush (v := 11) hx hb dX6_cluster_101 (by decide) ?_
        refine lv_icmp_ne (tgt := 108) hx hb dX6_cluster_103 (by decide) (fun h28 => ?_) (fun h28 => ?_)
        · skip
          exact L108  ls hl f28 f50 f51 f82 (by simp [h26, h27, h28])
        · skip
          refine lv_iconst (v := 0) hx hb dX6_cluster_106 (by decide) ?_
          exact er_zret hx hb hr hlk (by simp [ef_b, em_cl, f28, f50, f51, f82, h26, h27, h28] <;> decide) dX6_cluster_107
    · skip
      refine lv_iload_n hx hb dX6_cluster_88 rfl (lv_at hl 1 rfl) ?_
      refine lv_bipush (v := 10) hx hb dX6_cluster_89 (by decide) ?_
      refine lv_icmp_ne (tgt := 108) hx hb dX6_cluster_91 (by decide) (fun h29 => ?_) (fun h29 => ?_)
      · skip
        exact L108  ls hl f28 f50 f51 f82 (by simp [h26, h29])
      · skip
        refine lv_iload_n hx hb dX6_cluster_94 rfl (lv_at hl 0 rfl) ?_
        refine lv_bipush (v := 10) hx hb dX6_cluster_95 (by decide) ?_
        refine lv_icmp_eq (tgt := 106) hx hb dX6_cluster_97 (by decide) (fun h30 => ?_) (fun h30 => ?_)
        · skip
          refine lv_iconst (v := 0) hx hb dX6_cluster_106 (by decide) ?_
          exact er_zret hx hb hr hlk (by simp [ef_b, em_cl, f28, f50, f51, f82, h26, h29, h30] <;> decide) dX6_cluster_107
        · skip
          refine lv_iload_n hx hb dX6_cluster_100 rfl (lv_at hl 0 rfl) ?_
          refine lv_bipush (v := 11) hx hb dX6_cluster_101 (by decide) ?_
          refine lv_icmp_ne (tgt := 108) hx hb dX6_cluster_103 (by decide) (fun h31 => ?_) (fun h31 => ?_)
          · skip
            exact L108  ls hl f28 f50 f51 f82 (by simp [h26, h29, h30, h31])
          · skip
            refine lv_iconst (v := 0) hx hb dX6_cluster_106 (by decide) ?_
            exact er_zret hx hb hr hlk (by simp [ef_b, em_cl, f28, f50, f51, f82, h26, h29, h30, h31] <;> decide) dX6_cluster_107
  have L50 : ∀ (ls : Array Slot), lv_has ls 6 [(3, .int (g (k + 1))), (2, .int (g k)), (0, .ref h0), (1, .int (nI (k + 1)))] → (g k == 1 && g (k + 1) == 2) = false → ew_le (g k) = false → ew_le (g (k + 1)) = false → W p l e ({ frames := 0, cells := 0, slots := 0, locals := 0 }) s m args below meth c s.heap [] 0 0 (MQ below (er_Q (.int (ef_b (em_cl (g k) (g (k + 1)) (P (k + 1)) (eg_od g (k + 1)) (eg_ap g P k))))) args s 0 0 (fun _ => False)) (F0 m 50 ls []) := by
    intro ls hl f28 f50 f51
    refine lv_iload_n hx hb dX6_cluster_50 rfl (lv_at hl 1 rfl) ?_
    refine lv_bipush (v := 9) hx hb dX6_cluster_51 (by decide) ?_
    refine lv_icmp_ne (tgt := 82) hx hb dX6_cluster_53 (by decide) (fun h32 => ?_) (fun h32 => ?_)
    · skip
      exact L82  ls hl f28 f50 f51 (by simp [h32])
    · skip
      refine lv_iload_n hx hb dX6_cluster_56 rfl (lv_at hl 0 rfl) ?_
      refine lv_bipush (v := 9) hx hb dX6_cluster_57 (by decide) ?_
      refine lv_icmp_eq (tgt := 80) hx hb dX6_cluster_59 (by decide) (fun h33 => ?_) (fun h33 => ?_)
      · skip
        refine lv_iconst (v := 0) hx hb dX6_cluster_80 (by decide) ?_
        exact er_zret hx hb hr hlk (by simp [ef_b, em_cl, f28, f50, f51, h32, h33] <;> decide) dX6_cluster_81
      · skip
        refine lv_iload_n hx hb dX6_cluster_62 rfl (lv_at hl 0 rfl) ?_
        refine lv_bipush (v := 10) hx hb dX6_cluster_63 (by decide) ?_
        refine lv_icmp_eq (tgt := 80) hx hb dX6_cluster_65 (by decide) (fun h34 => ?_) (fun h34 => ?_)
        · skip
          refine lv_iconst (v := 0) hx hb dX6_cluster_80 (by decide) ?_
          exact er_zret hx hb hr hlk (by simp [ef_b, em_cl, f28, f50, f51, h32, h33, h34] <;> decide) dX6_cluster_81
        · skip
          refine lv_iload_n hx hb dX6_cluster_68 rfl (lv_at hl 0 rfl) ?_
          refine lv_bipush (v := 12) hx hb dX6_cluster_69 (by decide) ?_
          refine lv_icmp_eq (tgt := 80) hx hb dX6_cluster_71 (by decide) (fun h35 => ?_) (fun h35 => ?_)
          · skip
            refine lv_iconst (v := 0) hx hb dX6_cluster_80 (by decide) ?_
            exact er_zret hx hb hr hlk (by simp [ef_b, em_cl, f28, f50, f51, h32, h33, h34, h35] <;> decide) dX6_cluster_81
          · skip
            refine lv_iload_n hx hb dX6_cluster_74 rfl (lv_at hl 0 rfl) ?_
            refine lv_bipush (v := 13) hx hb dX6_cluster_75 (by decide) ?_
            refine lv_icmp_ne (tgt := 82) hx hb dX6_cluster_77 (by decide) (fun h36 => ?_) (fun h36 => ?_)
            · skip
              exact L82  ls hl f28 f50 f51 (by simp [h32, h33, h34, h35, h36])
            · skip
              refine lv_iconst (v := 0) hx hb dX6_cluster_80 (by decide) ?_
              exact er_zret hx hb hr hlk (by simp [ef_b, em_cl, f28, f50, f51, h32, h33, h34, h35, h36] <;> decide) dX6_cluster_81
  have L28 : ∀ (ls : Array Slot), lv_has ls 6 [(3, .int (g (k + 1))), (2, .int (g k)), (0, .ref h0), (1, .int (nI (k + 1)))] → (g k == 1 && g (k + 1) == 2) = false → W p l e ({ frames := 0, cells := 0, slots := 0, locals := 0 }) s m args below meth c s.heap [] 0 0 (MQ below (er_Q (.int (ef_b (em_cl (g k) (g (k + 1)) (P (k + 1)) (eg_od g (k + 1)) (eg_ap g P k))))) args s 0 0 (fun _ => False)) (F0 m 28 ls []) := by
    intro ls hl f28
    refine lv_iload_n hx hb dX6_cluster_28 rfl (lv_at hl 1 rfl) ?_
    refine lv_iconst (v := 1) hx hb dX6_cluster_29 (by decide) ?_
    refine lv_icmp_lt (tgt := 38) hx hb dX6_cluster_30 (by decide) (fun h37 => ?_) (fun h37 => ?_)
    · skip
      refine lv_iload_n hx hb dX6_cluster_38 rfl (lv_at hl 0 rfl) ?_
      refine lv_iconst (v := 1) hx hb dX6_cluster_39 (by decide) ?_
      refine lv_icmp_lt (tgt := 50) hx hb dX6_cluster_40 (by decide) (fun h38 => ?_) (fun h38 => ?_)
      · skip
        exact L50  ls hl f28 (ew_le_f1 (Int32.not_le.mpr h37)) (ew_le_f1 (Int32.not_le.mpr h38))
      · skip
        refine lv_iload_n hx hb dX6_cluster_43 rfl (lv_at hl 0 rfl) ?_
        refine lv_iconst (v := 3) hx hb dX6_cluster_44 (by decide) ?_
        refine lv_icmp_gt (tgt := 50) hx hb dX6_cluster_45 (by decide) (fun h39 => ?_) (fun h39 => ?_)
        · skip
          exact L50  ls hl f28 (ew_le_f1 (Int32.not_le.mpr h37)) (ew_le_f2 (Int32.not_le.mpr h39))
        · skip
          refine lv_iconst (v := 1) hx hb dX6_cluster_48 (by decide) ?_
          exact er_zret hx hb hr hlk (by simp [ef_b, em_cl, f28, ew_le_t (Int32.not_lt.mp h38) (Int32.not_lt.mp h39)]) dX6_cluster_49
    · skip
      refine lv_iload_n hx hb dX6_cluster_33 rfl (lv_at hl 1 rfl) ?_
      refine lv_iconst (v := 3) hx hb dX6_cluster_34 (by decide) ?_
      refine lv_icmp_le (tgt := 48) hx hb dX6_cluster_35 (by decide) (fun h40 => ?_) (fun h40 => ?_)
      · skip
        refine lv_iconst (v := 1) hx hb dX6_cluster_48 (by decide) ?_
        exact er_zret hx hb hr hlk (by simp [ef_b, em_cl, f28, ew_le_t (Int32.not_lt.mp h37) h40]) dX6_cluster_49
      · skip
        refine lv_iload_n hx hb dX6_cluster_38 rfl (lv_at hl 0 rfl) ?_
        refine lv_iconst (v := 1) hx hb dX6_cluster_39 (by decide) ?_
        refine lv_icmp_lt (tgt := 50) hx hb dX6_cluster_40 (by decide) (fun h41 => ?_) (fun h41 => ?_)
        · skip
          exact L50  ls hl f28 (ew_le_f2 h40) (ew_le_f1 (Int32.not_le.mpr h41))
        · skip
          refine lv_iload_n hx hb dX6_cluster_43 rfl (lv_at hl 0 rfl) ?_
          refine lv_iconst (v := 3) hx hb dX6_cluster_44 (by decide) ?_
          refine lv_icmp_gt (tgt := 50) hx hb dX6_cluster_45 (by decide) (fun h42 => ?_) (fun h42 => ?_)
          · skip
            exact L50  ls hl f28 (ew_le_f2 h40) (ew_le_f2 (Int32.not_le.mpr h42))
          · skip
            refine lv_iconst (v := 1) hx hb dX6_cluster_48 (by decide) ?_
            exact er_zret hx hb hr hlk (by simp [ef_b, em_cl, f28, ew_le_t (Int32.not_lt.mp h41) (Int32.not_lt.mp h42)]) dX6_cluster_49
  refine lv_aload_n hx hb dX6_cluster_0 rfl (lv_at hl 0 rfl) ?_
  refine va_get (D := D) (ci := 5) (v := .ref gA) (C := RX6) (T := TX6) (N := 5) hx hb hts (fun w h => List.mem_cons_of_mem _ (inX6 w h)) hown hK hP 0 rfl rfl 2 (by decide) (eT_h hts tw369) (fun _ h9 => h9) rfl dX6_cluster_1 ?_
  refine lv_iload_n hx hb dX6_cluster_4 rfl (lv_at hl 1 rfl) ?_
  refine lv_iconst (v := 1) hx hb dX6_cluster_5 (by decide) ?_
  refine lv_isub hx hb dX6_cluster_6 ?_
  refine ef_eqi (y := nI k) (nI_pred k) ?_
  refine va_iald hx hb hK hP 1 0 rfl rfl (vp_in_nI (by omega) (by decide)) dX6_cluster_7 ?_
  refine ef_eqi (y := g k) (by rw [nI_clamp (by omega)]) ?_
  refine lv_istore_n (lv' := [(2, .int (g k)), (0, .ref h0), (1, .int (nI (k + 1)))]) hx hb dX6_cluster_8 rfl hl (Nat.le_of_ble_eq_true rfl) rfl (fun ls hl => ?_)
  refine lv_aload_n hx hb dX6_cluster_9 rfl (lv_at hl 1 rfl) ?_
  refine va_get (D := D) (ci := 5) (v := .ref gA) (C := RX6) (T := TX6) (N := 5) hx hb hts (fun w h => List.mem_cons_of_mem _ (inX6 w h)) hown hK hP 0 rfl rfl 2 (by decide) (eT_h hts tw369) (fun _ h9 => h9) rfl dX6_cluster_10 ?_
  refine lv_iload_n hx hb dX6_cluster_13 rfl (lv_at hl 2 rfl) ?_
  refine va_iald hx hb hK hP 1 0 rfl rfl (vp_in_nI (by omega) (by decide)) dX6_cluster_14 ?_
  refine ef_eqi (y := g (k + 1)) (by rw [nI_clamp (by omega)]) ?_
  refine lv_istore_n (lv' := [(3, .int (g (k + 1))), (2, .int (g k)), (0, .ref h0), (1, .int (nI (k + 1)))]) hx hb dX6_cluster_15 rfl hl (Nat.le_of_ble_eq_true rfl) rfl (fun ls hl => ?_)
  refine lv_iload_n hx hb dX6_cluster_16 rfl (lv_at hl 1 rfl) ?_
  refine lv_iconst (v := 1) hx hb dX6_cluster_17 (by decide) ?_
  refine lv_icmp_ne (tgt := 28) hx hb dX6_cluster_18 (by decide) (fun h43 => ?_) (fun h43 => ?_)
  · skip
    exact L28  ls hl (by simp [h43])
  · skip
    refine lv_iload_n hx hb dX6_cluster_21 rfl (lv_at hl 0 rfl) ?_
    refine lv_iconst (v := 2) hx hb dX6_cluster_22 (by decide) ?_
    refine lv_icmp_ne (tgt := 28) hx hb dX6_cluster_23 (by decide) (fun h44 => ?_) (fun h44 => ?_)
    · skip
      exact L28  ls hl (by simp [h43, h44])
    · skip
      refine lv_iconst (v := 0) hx hb dX6_cluster_26 (by decide) ?_
      exact er_zret hx hb hr hlk (by simp [ef_b, em_cl, h43, h44] <;> decide) dX6_cluster_27
end
section
def em_t12 (b a aa bb : Int32) (od : Bool) : Bool := if a == 6 && b == 6 && od then false else true
def em_t11 (b a aa bb : Int32) (od : Bool) : Bool := if ((ew_rp a || a == 17) && b == 17) || (a == 17 && ew_rp b) then false else em_t12 b a aa bb od
def em_t10 (b a aa bb : Int32) (od : Bool) : Bool := if a == 8 && b == 8 then false else em_t11 b a aa bb od
def em_t9 (b a aa bb : Int32) (od : Bool) : Bool := if a == 16 && (b == 12 || ew_mb b) && bb == 16 then false else em_t10 b a aa bb od
def em_t8 (b a aa bb : Int32) (od : Bool) : Bool := if aa == 16 && (a == 12 || ew_mb a) && b == 16 then false else em_t9 b a aa bb od
def em_t7 (b a aa bb : Int32) (od : Bool) : Bool := if (a == 16 && b == 16) || (ew_let a && b == 16) || (a == 16 && ew_let b) then false else em_t8 b a aa bb od
def em_t6 (b a aa bb : Int32) (od : Bool) : Bool := if aa == 9 && a == 15 && b == 9 then false else em_t7 b a aa bb od
def em_t5 (b a aa bb : Int32) (od : Bool) : Bool := if a == 9 && b == 15 && bb == 9 then false else em_t6 b a aa bb od
def em_t4 (b a aa bb : Int32) (od : Bool) : Bool := if a == 9 && b == 14 then false else em_t5 b a aa bb od
def em_t3 (b a aa bb : Int32) (od : Bool) : Bool := if ew_let aa && (a == 11 || ew_mb a) && ew_let b then false else em_t4 b a aa bb od
def em_t2 (b a aa bb : Int32) (od : Bool) : Bool := if ew_let a && (b == 11 || ew_mb b) && ew_let bb then false else em_t3 b a aa bb od
def em_t1 (b a aa bb : Int32) (od : Bool) : Bool := if ew_let a && ew_let b then false else em_t2 b a aa bb od
theorem em_wd_t {raw b a aa bb : Int32} {pi od : Bool} (h1 : (raw == 1 && b == 2) = false) (h2 : ew_le raw = false) (h3 : ew_le b = false) (h4 : (raw == 5 && pi) = false) (h5 : (raw == 18 && b == 18) = false) (h6 : ew_at b = false) : em_wd raw b a aa bb pi od = em_t1 b a aa bb od := by
  unfold em_wd
  rw [h1, h2, h3, h4, h5, h6]
  rfl
theorem ei_st {r c x : Bool} (h : r = if c = true then false else x) (hc : c = true) : r = false := by
  subst hc
  exact h
theorem ei_sf {r c x : Bool} (h : r = if c = true then false else x) (hc : c = false) : r = x := by
  subst hc
  exact h
theorem em_wk_a {w : Nat → Int32} {n i : Nat} (hi : i < n) (hn : n ≤ 1000) : em_wk w n (nI (em_af w (n - (i + 1)) (i + 1))) = ew_ah w n i := by
  have h := em_af_le w (n - (i + 1)) (i + 1)
  unfold ew_ah
  rw [em_ah, em_wk_n (by omega) hn, show i + 1 + (n - (i + 1)) = n by omega]
def em_nx (w : Nat → Int32) (j : Nat) : Nat := if j = 0 then 0 else em_ct w (j - 1) + 1
theorem em_nx_le (w : Nat → Int32) (j : Nat) : em_nx w j ≤ j := by
  unfold em_nx
  by_cases h : j = 0
  · simp [h]
  · have := em_ct_le w (j - 1)
    simp only [h, if_false]
    omega
theorem em_nx_b (w : Nat → Int32) (j : Nat) : em_bi w j = nI (em_nx w j) + (-1) := by
  unfold em_bi em_nx
  by_cases h : j = 0
  · simp only [h, if_true]
    rfl
  · simp only [h, if_false]
    exact (pk_m1 _).symm
theorem em_nx_od {w : Nat → Int32} (hw : ∀ j, w j ≠ -1) (j : Nat) : ew_od w j = ew_od w (em_nx w j) := by
  unfold em_nx
  by_cases h : j = 0
  · simp [h]
  · simp only [h, if_false]
    obtain ⟨i, rfl⟩ : ∃ i, j = i + 1 := ⟨j - 1, by omega⟩
    exact em_od hw i
theorem em_nx_c {w : Nat → Int32} (hw : ∀ j, w j ≠ -1) (j : Nat) : em_nx w j = 0 ∨ ew_ct w (em_nx w j - 1) = true := by
  unfold em_nx
  by_cases h : j = 0
  · exact Or.inl (by simp [h])
  · simp only [h, if_false]
    exact Or.inr (em_cc hw _)

set_option maxHeartbeats 4000000 in
set_option maxRecDepth 100000 in
theorem k_X6_word (l : Launch) (D : va_G) (cI cZ cJ : ClassId) (h0 gA wA pA : Nat) (fa : Int32) (n : Nat) (g w : Nat → Int32) (P : Nat → Bool) (k : Nat) (hn : n ≤ 1000) (hk : k + 1 < n) (hw : ∀ j, w j ≠ -1) : er_M l yX6_word (Cond.code yX6_word cX6_word 13 (some .boolean) :: eT) ({ frames := 3, cells := 0, slots := 0, locals := 64 }) D vwCl (eTy cI cZ cJ) [.ref h0, .int (nI (k + 1))] [(h0, .inr (5, [.int fa, .int (nI n), .ref gA, .ref wA, .ref pA])), (gA, .inl (cI, 1000, .inl g)), (wA, .inl (cI, 1000, .inl w)), (pA, .inl (cZ, 1000, .inl (fun j => ef_b (P j))))] (.int (ef_b (em_wd (w k) (w (k + 1)) (w (em_ct w k)) (em_pk w (em_ct w k)) (ew_ah w n (k + 1)) (P (k + 1)) (ew_od w (k + 1))))) := by
  refine er_of (cc := cX6_word) (maxL := 13) (ret := (some .boolean)) (by decide) rfl (Nat.le_of_ble_eq_true rfl) ?_
  intro p e s m args below meth c ls hx hb hr hts hown hlk hml hP hK hl
  have hown : s.vm.findClass RX6 = some m.cls := hown
  have hl : lv_has ls 13 [(0, .ref h0), (1, .int (nI (k + 1)))] := hl
  have hct := em_ct_le w k
  have L534 : ∀ (b a aa bb : Int32) (c9 : Nat) (ls : Array Slot), lv_has ls 13 [(11, .int (nI c9))] → em_wd (w k) (w (k + 1)) (w (em_ct w k)) (em_pk w (em_ct w k)) (ew_ah w n (k + 1)) (P (k + 1)) (ew_od w (k + 1)) = em_t12 b a aa bb (ew_od w (k + 1)) → a = 6 → b = 6 → c9 ≤ 1000 → ew_od w (k + 1) = decide (c9 % 2 = 1) → W p l e ({ frames := 3, cells := 0, slots := 0, locals := 64 }) s m args below meth c s.heap [] 0 0 (MQ below (er_Q (.int (ef_b (em_wd (w k) (w (k + 1)) (w (em_ct w k)) (em_pk w (em_ct w k)) (ew_ah w n (k + 1)) (P (k + 1)) (ew_od w (k + 1)))))) args s 0 0 (fun _ => False)) (F0 m 534 ls []) := by
    intro b a aa bb c9 ls hl hR f6a f6b hc ho
    refine lv_iload hx hb dX6_word_534 (lv_at hl 0 rfl) ?_
    refine lv_iconst (v := 2) hx hb dX6_word_536 (by decide) ?_
    refine lv_irem hx hb dX6_word_537 (by decide) ?_
    refine ef_eqi (y := nI (c9 % 2)) (pk_rem (a := c9) (d := 2) (by omega) (by decide) (by decide)) ?_
    refine lv_iconst (v := 1) hx hb dX6_word_538 (by decide) ?_
    refine lv_icmp_ne (tgt := 544) hx hb dX6_word_539 (by decide) (fun h1 => ?_) (fun h1 => ?_)
    · skip
      have h1 : ¬ (c9 % 2 = 1) := fun q9 => h1 ((nI_eq (a := c9 % 2) (b := 1) (by omega) (by omega)).mpr q9)
      refine lv_iconst (v := 1) hx hb dX6_word_544 (by decide) ?_
      exact er_zret hx hb hr hlk (by rw [ei_sf (c := a == 6 && b == 6 && ew_od w (k + 1)) (x := true) hR (by simp [ho, h1])]; rfl) dX6_word_545
    · skip
      have h1 : c9 % 2 = 1 := (nI_eq (a := c9 % 2) (b := 1) (by omega) (by omega)).mp h1
      refine lv_iconst (v := 0) hx hb dX6_word_542 (by decide) ?_
      exact er_zret hx hb hr hlk (by rw [ei_st (c := a == 6 && b == 6 && ew_od w (k + 1)) (x := true) hR (by simp [f6a, f6b, ho, h1])]; rfl) dX6_word_543
  have L503 : ∀ (r : Nat) (b a aa bb : Int32) (c9 j : Nat) (ls : Array Slot), lv_has ls 13 [(12, .int (nI j + (-1))), (11, .int (nI c9)), (0, .ref h0)] → em_wd (w k) (w (k + 1)) (w (em_ct w k)) (em_pk w (em_ct w k)) (ew_ah w n (k + 1)) (P (k + 1)) (ew_od w (k + 1)) = em_t12 b a aa bb (ew_od w (k + 1)) → a = 6 → b = 6 → c9 + j ≤ k + 1 → j = 0 ∨ ew_ct w (j - 1) = true → ew_od w (k + 1) = (decide (c9 % 2 = 1) ^^ ew_od w j) → j < r → W p l e ({ frames := 3, cells := 0, slots := 0, locals := 64 }) s m args below meth c s.heap [] 0 0 (MQ below (er_Q (.int (ef_b (em_wd (w k) (w (k + 1)) (w (em_ct w k)) (em_pk w (em_ct w k)) (ew_ah w n (k + 1)) (P (k + 1)) (ew_od w (k + 1)))))) args s 0 0 (fun _ => False)) (F0 m 503 ls []) := by
    intro r
    induction r with
    | zero => intro b a aa bb c9 j ls hl hR f6a f6b hc hcj ho hμ; exact absurd hμ (Nat.not_lt_zero _)
    | succ r ih =>
      intro b a aa bb c9 j ls hl hR f6a f6b hc hcj ho hμ
      rcases j with _ | j
      · skip
        refine lv_iload hx hb dX6_word_503 (lv_at hl 0 rfl) ?_
        refine lv_if_lt (tgt := 534) hx hb dX6_word_505 (by decide) (fun h2 => ?_) (fun h2 => ?_)
        · skip
          exact L534 b a aa bb c9 ls (lv_sub hl [1] rfl) hR f6a f6b (by omega) (by rw [ho]; simp [ew_od])
        · skip
          exact absurd (by decide) h2
      · skip
        have hl : lv_has ls 13 [(12, .int (nI j)), (11, .int (nI c9)), (0, .ref h0)] := by rw [← pk_m1 j]; exact hl
        have hnx := em_nx_le w j
        refine lv_iload hx hb dX6_word_503 (lv_at hl 0 rfl) ?_
        refine lv_if_lt (tgt := 534) hx hb dX6_word_505 (by decide) (fun h3 => ?_) (fun h3 => ?_)
        · skip
          exact absurd h3 (nI_pos (by omega))
        · skip
          refine lv_aload_n hx hb dX6_word_508 rfl (lv_at hl 2 rfl) ?_
          refine va_get (D := D) (ci := 5) (v := .ref wA) (C := RX6) (T := TX6) (N := 5) hx hb hts (fun w h => List.mem_cons_of_mem _ (inX6 w h)) hown hK hP 0 rfl rfl 3 (by decide) (eT_h hts tw370) (fun _ h9 => h9) rfl dX6_word_509 ?_
          refine lv_iload hx hb dX6_word_512 (lv_at hl 0 rfl) ?_
          refine va_iald hx hb hK hP 2 0 rfl rfl (vp_in_nI (by omega) (by decide)) dX6_word_514 ?_
          refine ef_eqi (y := w j) (by rw [nI_clamp (by omega)]) ?_
          refine lv_bipush (v := 6) hx hb dX6_word_515 (by decide) ?_
          refine lv_icmp_ne (tgt := 534) hx hb dX6_word_517 (by decide) (fun h4 => ?_) (fun h4 => ?_)
          · skip
            exact L534 b a aa bb c9 ls (lv_sub hl [1] rfl) hR f6a f6b (by omega) (by rw [ho, em_od_c (by simpa using hcj), ei_n h4]; simp)
          · skip
            refine lv_iinc (k := 1) (v := nI (c9 + 1)) (lv' := [(11, .int (nI (c9 + 1))), (12, .int (nI j)), (0, .ref h0)]) hx hb dX6_word_520 hl rfl (by rw [show Int32.ofInt 1 = 1 from by decide]; exact nI_1 _) (Nat.le_of_ble_eq_true rfl) rfl (fun ls hl => ?_)
            refine lv_aload_n hx hb dX6_word_523 rfl (lv_at hl 2 rfl) ?_
            refine lv_iload hx hb dX6_word_524 (lv_at hl 1 rfl) ?_
            refine er_V (own := RX6) (C := RX6) (b := h0) (rest := []) hx hb hml hown hts hl.1 (k_X6_before l D cI cZ cJ h0 gA wA pA fa n g w P j (by omega)) tw434 tw7 tw431 tw433 ts_X6_before yd_X6_before rfl rfl ⟨Nat.le_of_ble_eq_true rfl, Nat.le_of_ble_eq_true rfl⟩ hP hK hP (q0 := 0) rfl rfl rfl rfl (Nat.le_of_ble_eq_true rfl) ⟨Nat.zero_le _, Nat.zero_le _⟩ dX6_word_526 ?_
            refine ef_eqi (y := nI (em_nx w j) + (-1)) (em_nx_b w j) ?_
            refine lv_istore (lv' := [(12, .int (nI (em_nx w j) + (-1))), (11, .int (nI (c9 + 1))), (0, .ref h0)]) hx hb dX6_word_529 hl (Nat.le_of_ble_eq_true rfl) rfl (fun ls hl => ?_)
            refine lv_goto (tgt := 503) hx hb dX6_word_531 (by decide) ?_
            exact ih b a aa bb (c9 + 1) (em_nx w j) ls hl hR f6a f6b (by have := em_nx_le w j; omega) (em_nx_c hw j) (by rw [ho, ← em_nx_od hw j]; exact ei_par (by rw [em_od_c (by simpa using hcj), h4]; simp)) (by omega)
  have L483 : ∀ (b a aa bb : Int32) (ls : Array Slot), lv_has ls 13 [(8, .int bb), (6, .int aa), (5, .int a), (4, .int (nI (em_ct w k))), (3, .int b), (0, .ref h0)] → w (em_ct w k) = a → em_wd (w k) (w (k + 1)) (w (em_ct w k)) (em_pk w (em_ct w k)) (ew_ah w n (k + 1)) (P (k + 1)) (ew_od w (k + 1)) = em_t12 b a aa bb (ew_od w (k + 1)) → W p l e ({ frames := 3, cells := 0, slots := 0, locals := 64 }) s m args below meth c s.heap [] 0 0 (MQ below (er_Q (.int (ef_b (em_wd (w k) (w (k + 1)) (w (em_ct w k)) (em_pk w (em_ct w k)) (ew_ah w n (k + 1)) (P (k + 1)) (ew_od w (k + 1)))))) args s 0 0 (fun _ => False)) (F0 m 483 ls []) := by
    intro b a aa bb ls hl ha hR
    refine lv_iload hx hb dX6_word_483 (lv_at hl 2 rfl) ?_
    refine lv_bipush (v := 6) hx hb dX6_word_485 (by decide) ?_
    refine lv_icmp_ne (tgt := 544) hx hb dX6_word_487 (by decide) (fun h5 => ?_) (fun h5 => ?_)
    · skip
      refine lv_iconst (v := 1) hx hb dX6_word_544 (by decide) ?_
      exact er_zret hx hb hr hlk (by rw [ei_sf (c := a == 6 && b == 6 && ew_od w (k + 1)) (x := true) hR (by simp [h5])]; rfl) dX6_word_545
    · skip
      refine lv_iload_n hx hb dX6_word_490 rfl (lv_at hl 4 rfl) ?_
      refine lv_bipush (v := 6) hx hb dX6_word_491 (by decide) ?_
      refine lv_icmp_ne (tgt := 544) hx hb dX6_word_493 (by decide) (fun h6 => ?_) (fun h6 => ?_)
      · skip
        refine lv_iconst (v := 1) hx hb dX6_word_544 (by decide) ?_
        exact er_zret hx hb hr hlk (by rw [ei_sf (c := a == 6 && b == 6 && ew_od w (k + 1)) (x := true) hR (by simp [h6])]; rfl) dX6_word_545
      · skip
        refine lv_iconst (v := 0) hx hb dX6_word_496 (by decide) ?_
        refine lv_istore (lv' := [(11, .int 0), (8, .int bb), (6, .int aa), (5, .int a), (4, .int (nI (em_ct w k))), (3, .int b), (0, .ref h0)]) hx hb dX6_word_497 hl (Nat.le_of_ble_eq_true rfl) rfl (fun ls hl => ?_)
        refine lv_iload hx hb dX6_word_499 (lv_at hl 4 rfl) ?_
        refine ef_eqi (y := nI (em_ct w k + 1) + (-1)) (pk_m1 _).symm ?_
        refine lv_istore (lv' := [(12, .int (nI (em_ct w k + 1) + (-1))), (11, .int 0), (8, .int bb), (6, .int aa), (5, .int a), (4, .int (nI (em_ct w k))), (3, .int b), (0, .ref h0)]) hx hb dX6_word_501 hl (Nat.le_of_ble_eq_true rfl) rfl (fun ls hl => ?_)
        exact L503 _ b a aa bb 0 (em_ct w k + 1) ls (lv_sub hl [0, 1, 7] rfl) hR h5 h6 (by omega) (Or.inr (em_cc hw k)) (by rw [em_od hw k]; simp) (Nat.lt_succ_self _)
  have L451 : ∀ (b a aa bb : Int32) (ls : Array Slot), lv_has ls 13 [(10, .int (ef_b (ew_rp b))), (9, .int (ef_b (ew_rp a))), (8, .int bb), (6, .int aa), (5, .int a), (4, .int (nI (em_ct w k))), (3, .int b), (0, .ref h0)] → w (em_ct w k) = a → em_wd (w k) (w (k + 1)) (w (em_ct w k)) (em_pk w (em_ct w k)) (ew_ah w n (k + 1)) (P (k + 1)) (ew_od w (k + 1)) = em_t11 b a aa bb (ew_od w (k + 1)) → W p l e ({ frames := 3, cells := 0, slots := 0, locals := 64 }) s m args below meth c s.heap [] 0 0 (MQ below (er_Q (.int (ef_b (em_wd (w k) (w (k + 1)) (w (em_ct w k)) (em_pk w (em_ct w k)) (ew_ah w n (k + 1)) (P (k + 1)) (ew_od w (k + 1)))))) args s 0 0 (fun _ => False)) (F0 m 451 ls []) := by
    intro b a aa bb ls hl ha hR
    refine lv_iload hx hb dX6_word_451 (lv_at hl 1 rfl) ?_
    refine ef_if_ne (tgt := 463) hx hb dX6_word_453 (by decide) (fun h7 => ?_) (fun h7 => ?_)
    · skip
      refine lv_iload_n hx hb dX6_word_463 rfl (lv_at hl 6 rfl) ?_
      refine lv_bipush (v := 17) hx hb dX6_word_464 (by decide) ?_
      refine lv_icmp_eq (tgt := 481) hx hb dX6_word_466 (by decide) (fun h8 => ?_) (fun h8 => ?_)
      · skip
        refine lv_iconst (v := 0) hx hb dX6_word_481 (by decide) ?_
        exact er_zret hx hb hr hlk (by rw [(ei_st (c := ((ew_rp a || a == 17) && b == 17) || (a == 17 && ew_rp b)) (x := em_t12 b a aa bb (ew_od w (k + 1))) hR (by simp [h7, h8]))]; rfl) dX6_word_482
      · skip
        refine lv_iload hx hb dX6_word_469 (lv_at hl 4 rfl) ?_
        refine lv_bipush (v := 17) hx hb dX6_word_471 (by decide) ?_
        refine lv_icmp_ne (tgt := 483) hx hb dX6_word_473 (by decide) (fun h9 => ?_) (fun h9 => ?_)
        · skip
          exact L483 b a aa bb ls (lv_sub hl [2, 3, 4, 5, 6, 7] rfl) ha (ei_sf (c := ((ew_rp a || a == 17) && b == 17) || (a == 17 && ew_rp b)) (x := em_t12 b a aa bb (ew_od w (k + 1))) hR (by simp [h7, h8, h9]))
        · skip
          refine lv_iload hx hb dX6_word_476 (lv_at hl 0 rfl) ?_
          refine ef_if_eq (tgt := 483) hx hb dX6_word_478 (by decide) (fun h10 => ?_) (fun h10 => ?_)
          · skip
            exact L483 b a aa bb ls (lv_sub hl [2, 3, 4, 5, 6, 7] rfl) ha (ei_sf (c := ((ew_rp a || a == 17) && b == 17) || (a == 17 && ew_rp b)) (x := em_t12 b a aa bb (ew_od w (k + 1))) hR (by simp [h7, h8, h9, h10]))
          · skip
            refine lv_iconst (v := 0) hx hb dX6_word_481 (by decide) ?_
            exact er_zret hx hb hr hlk (by rw [(ei_st (c := ((ew_rp a || a == 17) && b == 17) || (a == 17 && ew_rp b)) (x := em_t12 b a aa bb (ew_od w (k + 1))) hR (by simp [h7, h8, h9, h10]))]; rfl) dX6_word_482
    · skip
      refine lv_iload hx hb dX6_word_456 (lv_at hl 4 rfl) ?_
      refine lv_bipush (v := 17) hx hb dX6_word_458 (by decide) ?_
      refine lv_icmp_ne (tgt := 469) hx hb dX6_word_460 (by decide) (fun h11 => ?_) (fun h11 => ?_)
      · skip
        refine lv_iload hx hb dX6_word_469 (lv_at hl 4 rfl) ?_
        refine lv_bipush (v := 17) hx hb dX6_word_471 (by decide) ?_
        refine lv_icmp_ne (tgt := 483) hx hb dX6_word_473 (by decide) (fun h12 => ?_) (fun h12 => ?_)
        · skip
          exact L483 b a aa bb ls (lv_sub hl [2, 3, 4, 5, 6, 7] rfl) ha (ei_sf (c := ((ew_rp a || a == 17) && b == 17) || (a == 17 && ew_rp b)) (x := em_t12 b a aa bb (ew_od w (k + 1))) hR (by simp [h7, h11, h12]))
        · skip
          exact absurd h12 h11
      · skip
        refine lv_iload_n hx hb dX6_word_463 rfl (lv_at hl 6 rfl) ?_
        refine lv_bipush (v := 17) hx hb dX6_word_464 (by decide) ?_
        refine lv_icmp_eq (tgt := 481) hx hb dX6_word_466 (by decide) (fun h13 => ?_) (fun h13 => ?_)
        · skip
          refine lv_iconst (v := 0) hx hb dX6_word_481 (by decide) ?_
          exact er_zret hx hb hr hlk (by rw [(ei_st (c := ((ew_rp a || a == 17) && b == 17) || (a == 17 && ew_rp b)) (x := em_t12 b a aa bb (ew_od w (k + 1))) hR (by simp [h7, h11, h13]))]; rfl) dX6_word_482
        · skip
          refine lv_iload hx hb dX6_word_469 (lv_at hl 4 rfl) ?_
          refine lv_bipush (v := 17) hx hb dX6_word_471 (by decide) ?_
          refine lv_icmp_ne (tgt := 483) hx hb dX6_word_473 (by decide) (fun h14 => ?_) (fun h14 => ?_)
          · skip
            exact absurd h11 h14
          · skip
            refine lv_iload hx hb dX6_word_476 (lv_at hl 0 rfl) ?_
            refine ef_if_eq (tgt := 483) hx hb dX6_word_478 (by decide) (fun h15 => ?_) (fun h15 => ?_)
            · skip
              exact L483 b a aa bb ls (lv_sub hl [2, 3, 4, 5, 6, 7] rfl) ha (ei_sf (c := ((ew_rp a || a == 17) && b == 17) || (a == 17 && ew_rp b)) (x := em_t12 b a aa bb (ew_od w (k + 1))) hR (by simp [h7, h11, h13, h14, h15]))
            · skip
              refine lv_iconst (v := 0) hx hb dX6_word_481 (by decide) ?_
              exact er_zret hx hb hr hlk (by rw [(ei_st (c := ((ew_rp a || a == 17) && b == 17) || (a == 17 && ew_rp b)) (x := em_t12 b a aa bb (ew_od w (k + 1))) hR (by simp [h7, h11, h13, h14, h15]))]; rfl) dX6_word_482
  have L424 : ∀ (b a aa bb : Int32) (ls : Array Slot), lv_has ls 13 [(9, .int (ef_b (ew_rp a))), (8, .int bb), (6, .int aa), (5, .int a), (4, .int (nI (em_ct w k))), (3, .int b), (0, .ref h0)] → w (em_ct w k) = a → em_wd (w k) (w (k + 1)) (w (em_ct w k)) (em_pk w (em_ct w k)) (ew_ah w n (k + 1)) (P (k + 1)) (ew_od w (k + 1)) = em_t11 b a aa bb (ew_od w (k + 1)) → W p l e ({ frames := 3, cells := 0, slots := 0, locals := 64 }) s m args below meth c s.heap [] 0 0 (MQ below (er_Q (.int (ef_b (em_wd (w k) (w (k + 1)) (w (em_ct w k)) (em_pk w (em_ct w k)) (ew_ah w n (k + 1)) (P (k + 1)) (ew_od w (k + 1)))))) args s 0 0 (fun _ => False)) (F0 m 424 ls []) := by
    intro b a aa bb ls hl ha hR
    refine lv_aload_n hx hb dX6_word_424 rfl (lv_at hl 6 rfl) ?_
    refine lv_iload_n hx hb dX6_word_425 rfl (lv_at hl 5 rfl) ?_
    refine er_V (own := RX6) (C := RX6) (b := h0) (rest := []) hx hb hml hown hts hl.1 (k_X6_letter l D cI cZ cJ h0 b) tw450 tw7 tw447 tw449 ts_X6_letter yd_X6_letter rfl rfl ⟨Nat.le_of_ble_eq_true rfl, Nat.le_of_ble_eq_true rfl⟩ er_nil hK hP (q0 := 0) rfl rfl rfl rfl (Nat.le_of_ble_eq_true rfl) ⟨Nat.zero_le _, Nat.zero_le _⟩ dX6_word_426 ?_
    refine ef_if_ne (tgt := 444) hx hb dX6_word_429 (by decide) (fun h16 => ?_) (fun h16 => ?_)
    · skip
      refine lv_iconst (v := 1) hx hb dX6_word_444 (by decide) ?_
      refine lv_goto (tgt := 449) hx hb dX6_word_445 (by decide) ?_
      refine ef_eqi (y := ef_b (ew_rp b)) (by simp [ef_b, ew_rp, h16]) ?_
      refine lv_istore (lv' := [(10, .int (ef_b (ew_rp b))), (9, .int (ef_b (ew_rp a))), (8, .int bb), (6, .int aa), (5, .int a), (4, .int (nI (em_ct w k))), (3, .int b), (0, .ref h0)]) hx hb dX6_word_449 hl (Nat.le_of_ble_eq_true rfl) rfl (fun ls hl => ?_)
      exact L451 b a aa bb ls hl ha hR
    · skip
      refine lv_iload_n hx hb dX6_word_432 rfl (lv_at hl 5 rfl) ?_
      refine lv_bipush (v := 16) hx hb dX6_word_433 (by decide) ?_
      refine lv_icmp_eq (tgt := 444) hx hb dX6_word_435 (by decide) (fun h17 => ?_) (fun h17 => ?_)
      · skip
        refine lv_iconst (v := 1) hx hb dX6_word_444 (by decide) ?_
        refine lv_goto (tgt := 449) hx hb dX6_word_445 (by decide) ?_
        refine ef_eqi (y := ef_b (ew_rp b)) (by simp [ef_b, ew_rp, h16, h17]) ?_
        refine lv_istore (lv' := [(10, .int (ef_b (ew_rp b))), (9, .int (ef_b (ew_rp a))), (8, .int bb), (6, .int aa), (5, .int a), (4, .int (nI (em_ct w k))), (3, .int b), (0, .ref h0)]) hx hb dX6_word_449 hl (Nat.le_of_ble_eq_true rfl) rfl (fun ls hl => ?_)
        exact L451 b a aa bb ls hl ha hR
      · skip
        refine lv_iload_n hx hb dX6_word_438 rfl (lv_at hl 5 rfl) ?_
        refine lv_bipush (v := 8) hx hb dX6_word_439 (by decide) ?_
        refine lv_icmp_ne (tgt := 448) hx hb dX6_word_441 (by decide) (fun h18 => ?_) (fun h18 => ?_)
        · skip
          refine lv_iconst (v := 0) hx hb dX6_word_448 (by decide) ?_
          refine ef_eqi (y := ef_b (ew_rp b)) (by simp [ef_b, ew_rp, h16, h17, h18]) ?_
          refine lv_istore (lv' := [(10, .int (ef_b (ew_rp b))), (9, .int (ef_b (ew_rp a))), (8, .int bb), (6, .int aa), (5, .int a), (4, .int (nI (em_ct w k))), (3, .int b), (0, .ref h0)]) hx hb dX6_word_449 hl (Nat.le_of_ble_eq_true rfl) rfl (fun ls hl => ?_)
          exact L451 b a aa bb ls hl ha hR
        · skip
          refine lv_iconst (v := 1) hx hb dX6_word_444 (by decide) ?_
          refine lv_goto (tgt := 449) hx hb dX6_word_445 (by decide) ?_
          refine ef_eqi (y := ef_b (ew_rp b)) (by simp [ef_b, ew_rp, h16, h17, h18]) ?_
          refine lv_istore (lv' := [(10, .int (ef_b (ew_rp b))), (9, .int (ef_b (ew_rp a))), (8, .int bb), (6, .int aa), (5, .int a), (4, .int (nI (em_ct w k))), (3, .int b), (0, .ref h0)]) hx hb dX6_word_449 hl (Nat.le_of_ble_eq_true rfl) rfl (fun ls hl => ?_)
          exact L451 b a aa bb ls hl ha hR
  have L394 : ∀ (b a aa bb : Int32) (ls : Array Slot), lv_has ls 13 [(8, .int bb), (6, .int aa), (5, .int a), (4, .int (nI (em_ct w k))), (3, .int b), (0, .ref h0)] → w (em_ct w k) = a → em_wd (w k) (w (k + 1)) (w (em_ct w k)) (em_pk w (em_ct w k)) (ew_ah w n (k + 1)) (P (k + 1)) (ew_od w (k + 1)) = em_t11 b a aa bb (ew_od w (k + 1)) → W p l e ({ frames := 3, cells := 0, slots := 0, locals := 64 }) s m args below meth c s.heap [] 0 0 (MQ below (er_Q (.int (ef_b (em_wd (w k) (w (k + 1)) (w (em_ct w k)) (em_pk w (em_ct w k)) (ew_ah w n (k + 1)) (P (k + 1)) (ew_od w (k + 1)))))) args s 0 0 (fun _ => False)) (F0 m 394 ls []) := by
    intro b a aa bb ls hl ha hR
    refine lv_aload_n hx hb dX6_word_394 rfl (lv_at hl 5 rfl) ?_
    refine lv_iload hx hb dX6_word_395 (lv_at hl 2 rfl) ?_
    refine er_V (own := RX6) (C := RX6) (b := h0) (rest := []) hx hb hml hown hts hl.1 (k_X6_letter l D cI cZ cJ h0 a) tw450 tw7 tw447 tw449 ts_X6_letter yd_X6_letter rfl rfl ⟨Nat.le_of_ble_eq_true rfl, Nat.le_of_ble_eq_true rfl⟩ er_nil hK hP (q0 := 0) rfl rfl rfl rfl (Nat.le_of_ble_eq_true rfl) ⟨Nat.zero_le _, Nat.zero_le _⟩ dX6_word_397 ?_
    refine ef_if_ne (tgt := 417) hx hb dX6_word_400 (by decide) (fun h19 => ?_) (fun h19 => ?_)
    · skip
      refine lv_iconst (v := 1) hx hb dX6_word_417 (by decide) ?_
      refine lv_goto (tgt := 422) hx hb dX6_word_418 (by decide) ?_
      refine ef_eqi (y := ef_b (ew_rp a)) (by simp [ef_b, ew_rp, h19]) ?_
      refine lv_istore (lv' := [(9, .int (ef_b (ew_rp a))), (8, .int bb), (6, .int aa), (5, .int a), (4, .int (nI (em_ct w k))), (3, .int b), (0, .ref h0)]) hx hb dX6_word_422 hl (Nat.le_of_ble_eq_true rfl) rfl (fun ls hl => ?_)
      exact L424 b a aa bb ls hl ha hR
    · skip
      refine lv_iload hx hb dX6_word_403 (lv_at hl 2 rfl) ?_
      refine lv_bipush (v := 16) hx hb dX6_word_405 (by decide) ?_
      refine lv_icmp_eq (tgt := 417) hx hb dX6_word_407 (by decide) (fun h20 => ?_) (fun h20 => ?_)
      · skip
        refine lv_iconst (v := 1) hx hb dX6_word_417 (by decide) ?_
        refine lv_goto (tgt := 422) hx hb dX6_word_418 (by decide) ?_
        refine ef_eqi (y := ef_b (ew_rp a)) (by simp [ef_b, ew_rp, h19, h20]) ?_
        refine lv_istore (lv' := [(9, .int (ef_b (ew_rp a))), (8, .int bb), (6, .int aa), (5, .int a), (4, .int (nI (em_ct w k))), (3, .int b), (0, .ref h0)]) hx hb dX6_word_422 hl (Nat.le_of_ble_eq_true rfl) rfl (fun ls hl => ?_)
        exact L424 b a aa bb ls hl ha hR
      · skip
        refine lv_iload hx hb dX6_word_410 (lv_at hl 2 rfl) ?_
        refine lv_bipush (v := 8) hx hb dX6_word_412 (by decide) ?_
        refine lv_icmp_ne (tgt := 421) hx hb dX6_word_414 (by decide) (fun h21 => ?_) (fun h21 => ?_)
        · skip
          refine lv_iconst (v := 0) hx hb dX6_word_421 (by decide) ?_
          refine ef_eqi (y := ef_b (ew_rp a)) (by simp [ef_b, ew_rp, h19, h20, h21]) ?_
          refine lv_istore (lv' := [(9, .int (ef_b (ew_rp a))), (8, .int bb), (6, .int aa), (5, .int a), (4, .int (nI (em_ct w k))), (3, .int b), (0, .ref h0)]) hx hb dX6_word_422 hl (Nat.le_of_ble_eq_true rfl) rfl (fun ls hl => ?_)
          exact L424 b a aa bb ls hl ha hR
        · skip
          refine lv_iconst (v := 1) hx hb dX6_word_417 (by decide) ?_
          refine lv_goto (tgt := 422) hx hb dX6_word_418 (by decide) ?_
          refine ef_eqi (y := ef_b (ew_rp a)) (by simp [ef_b, ew_rp, h19, h20, h21]) ?_
          refine lv_istore (lv' := [(9, .int (ef_b (ew_rp a))), (8, .int bb), (6, .int aa), (5, .int a), (4, .int (nI (em_ct w k))), (3, .int b), (0, .ref h0)]) hx hb dX6_word_422 hl (Nat.le_of_ble_eq_true rfl) rfl (fun ls hl => ?_)
          exact L424 b a aa bb ls hl ha hR
  have L379 : ∀ (b a aa bb : Int32) (ls : Array Slot), lv_has ls 13 [(8, .int bb), (6, .int aa), (5, .int a), (4, .int (nI (em_ct w k))), (3, .int b), (0, .ref h0)] → w (em_ct w k) = a → em_wd (w k) (w (k + 1)) (w (em_ct w k)) (em_pk w (em_ct w k)) (ew_ah w n (k + 1)) (P (k + 1)) (ew_od w (k + 1)) = em_t10 b a aa bb (ew_od w (k + 1)) → W p l e ({ frames := 3, cells := 0, slots := 0, locals := 64 }) s m args below meth c s.heap [] 0 0 (MQ below (er_Q (.int (ef_b (em_wd (w k) (w (k + 1)) (w (em_ct w k)) (em_pk w (em_ct w k)) (ew_ah w n (k + 1)) (P (k + 1)) (ew_od w (k + 1)))))) args s 0 0 (fun _ => False)) (F0 m 379 ls []) := by
    intro b a aa bb ls hl ha hR
    refine lv_iload hx hb dX6_word_379 (lv_at hl 2 rfl) ?_
    refine lv_bipush (v := 8) hx hb dX6_word_381 (by decide) ?_
    refine lv_icmp_ne (tgt := 394) hx hb dX6_word_383 (by decide) (fun h22 => ?_) (fun h22 => ?_)
    · skip
      exact L394 b a aa bb ls hl ha (ei_sf (c := a == 8 && b == 8) (x := em_t11 b a aa bb (ew_od w (k + 1))) hR (by simp [h22]))
    · skip
      refine lv_iload_n hx hb dX6_word_386 rfl (lv_at hl 4 rfl) ?_
      refine lv_bipush (v := 8) hx hb dX6_word_387 (by decide) ?_
      refine lv_icmp_ne (tgt := 394) hx hb dX6_word_389 (by decide) (fun h23 => ?_) (fun h23 => ?_)
      · skip
        exact L394 b a aa bb ls hl ha (ei_sf (c := a == 8 && b == 8) (x := em_t11 b a aa bb (ew_od w (k + 1))) hR (by simp [h22, h23]))
      · skip
        refine lv_iconst (v := 0) hx hb dX6_word_392 (by decide) ?_
        exact er_zret hx hb hr hlk (by rw [(ei_st (c := a == 8 && b == 8) (x := em_t11 b a aa bb (ew_od w (k + 1))) hR (by simp [h22, h23]))]; rfl) dX6_word_393
  have L349 : ∀ (b a aa bb : Int32) (ls : Array Slot), lv_has ls 13 [(8, .int bb), (6, .int aa), (5, .int a), (4, .int (nI (em_ct w k))), (3, .int b), (0, .ref h0)] → w (em_ct w k) = a → em_wd (w k) (w (k + 1)) (w (em_ct w k)) (em_pk w (em_ct w k)) (ew_ah w n (k + 1)) (P (k + 1)) (ew_od w (k + 1)) = em_t9 b a aa bb (ew_od w (k + 1)) → W p l e ({ frames := 3, cells := 0, slots := 0, locals := 64 }) s m args below meth c s.heap [] 0 0 (MQ below (er_Q (.int (ef_b (em_wd (w k) (w (k + 1)) (w (em_ct w k)) (em_pk w (em_ct w k)) (ew_ah w n (k + 1)) (P (k + 1)) (ew_od w (k + 1)))))) args s 0 0 (fun _ => False)) (F0 m 349 ls []) := by
    intro b a aa bb ls hl ha hR
    refine lv_iload hx hb dX6_word_349 (lv_at hl 2 rfl) ?_
    refine lv_bipush (v := 16) hx hb dX6_word_351 (by decide) ?_
    refine lv_icmp_ne (tgt := 379) hx hb dX6_word_353 (by decide) (fun h24 => ?_) (fun h24 => ?_)
    · skip
      exact L379 b a aa bb ls hl ha (ei_sf (c := a == 16 && (b == 12 || ew_mb b) && bb == 16) (x := em_t10 b a aa bb (ew_od w (k + 1))) hR (by simp [h24]))
    · skip
      refine lv_iload_n hx hb dX6_word_356 rfl (lv_at hl 4 rfl) ?_
      refine lv_bipush (v := 12) hx hb dX6_word_357 (by decide) ?_
      refine lv_icmp_eq (tgt := 370) hx hb dX6_word_359 (by decide) (fun h25 => ?_) (fun h25 => ?_)
      · skip
        refine lv_iload hx hb dX6_word_370 (lv_at hl 0 rfl) ?_
        refine lv_bipush (v := 16) hx hb dX6_word_372 (by decide) ?_
        refine lv_icmp_ne (tgt := 379) hx hb dX6_word_374 (by decide) (fun h26 => ?_) (fun h26 => ?_)
        · skip
          exact L379 b a aa bb ls hl ha (ei_sf (c := a == 16 && (b == 12 || ew_mb b) && bb == 16) (x := em_t10 b a aa bb (ew_od w (k + 1))) hR (by simp [h24, h25, h26]))
        · skip
          refine lv_iconst (v := 0) hx hb dX6_word_377 (by decide) ?_
          exact er_zret hx hb hr hlk (by rw [(ei_st (c := a == 16 && (b == 12 || ew_mb b) && bb == 16) (x := em_t10 b a aa bb (ew_od w (k + 1))) hR (by simp [h24, h25, h26]))]; rfl) dX6_word_378
      · skip
        refine lv_aload_n hx hb dX6_word_362 rfl (lv_at hl 5 rfl) ?_
        refine lv_iload_n hx hb dX6_word_363 rfl (lv_at hl 4 rfl) ?_
        refine er_V (own := RX6) (C := RX6) (b := h0) (rest := []) hx hb hml hown hts hl.1 (k_X6_quote l D cI cZ cJ h0 b) tw454 tw7 tw451 tw453 ts_X6_quote yd_X6_quote rfl rfl ⟨Nat.le_of_ble_eq_true rfl, Nat.le_of_ble_eq_true rfl⟩ er_nil hK hP (q0 := 0) rfl rfl rfl rfl (Nat.le_of_ble_eq_true rfl) ⟨Nat.zero_le _, Nat.zero_le _⟩ dX6_word_364 ?_
        refine ef_if_eq (tgt := 379) hx hb dX6_word_367 (by decide) (fun h27 => ?_) (fun h27 => ?_)
        · skip
          exact L379 b a aa bb ls hl ha (ei_sf (c := a == 16 && (b == 12 || ew_mb b) && bb == 16) (x := em_t10 b a aa bb (ew_od w (k + 1))) hR (by simp [h24, h25, h27]))
        · skip
          refine lv_iload hx hb dX6_word_370 (lv_at hl 0 rfl) ?_
          refine lv_bipush (v := 16) hx hb dX6_word_372 (by decide) ?_
          refine lv_icmp_ne (tgt := 379) hx hb dX6_word_374 (by decide) (fun h28 => ?_) (fun h28 => ?_)
          · skip
            exact L379 b a aa bb ls hl ha (ei_sf (c := a == 16 && (b == 12 || ew_mb b) && bb == 16) (x := em_t10 b a aa bb (ew_od w (k + 1))) hR (by simp [h24, h25, h27, h28]))
          · skip
            refine lv_iconst (v := 0) hx hb dX6_word_377 (by decide) ?_
            exact er_zret hx hb hr hlk (by rw [(ei_st (c := a == 16 && (b == 12 || ew_mb b) && bb == 16) (x := em_t10 b a aa bb (ew_od w (k + 1))) hR (by simp [h24, h25, h27, h28]))]; rfl) dX6_word_378
  have L318 : ∀ (b a aa bb : Int32) (ls : Array Slot), lv_has ls 13 [(8, .int bb), (6, .int aa), (5, .int a), (4, .int (nI (em_ct w k))), (3, .int b), (0, .ref h0)] → w (em_ct w k) = a → em_wd (w k) (w (k + 1)) (w (em_ct w k)) (em_pk w (em_ct w k)) (ew_ah w n (k + 1)) (P (k + 1)) (ew_od w (k + 1)) = em_t8 b a aa bb (ew_od w (k + 1)) → W p l e ({ frames := 3, cells := 0, slots := 0, locals := 64 }) s m args below meth c s.heap [] 0 0 (MQ below (er_Q (.int (ef_b (em_wd (w k) (w (k + 1)) (w (em_ct w k)) (em_pk w (em_ct w k)) (ew_ah w n (k + 1)) (P (k + 1)) (ew_od w (k + 1)))))) args s 0 0 (fun _ => False)) (F0 m 318 ls []) := by
    intro b a aa bb ls hl ha hR
    refine lv_iload hx hb dX6_word_318 (lv_at hl 1 rfl) ?_
    refine lv_bipush (v := 16) hx hb dX6_word_320 (by decide) ?_
    refine lv_icmp_ne (tgt := 349) hx hb dX6_word_322 (by decide) (fun h29 => ?_) (fun h29 => ?_)
    · skip
      exact L349 b a aa bb ls hl ha (ei_sf (c := aa == 16 && (a == 12 || ew_mb a) && b == 16) (x := em_t9 b a aa bb (ew_od w (k + 1))) hR (by simp [h29]))
    · skip
      refine lv_iload hx hb dX6_word_325 (lv_at hl 2 rfl) ?_
      refine lv_bipush (v := 12) hx hb dX6_word_327 (by decide) ?_
      refine lv_icmp_eq (tgt := 341) hx hb dX6_word_329 (by decide) (fun h30 => ?_) (fun h30 => ?_)
      · skip
        refine lv_iload_n hx hb dX6_word_341 rfl (lv_at hl 4 rfl) ?_
        refine lv_bipush (v := 16) hx hb dX6_word_342 (by decide) ?_
        refine lv_icmp_ne (tgt := 349) hx hb dX6_word_344 (by decide) (fun h31 => ?_) (fun h31 => ?_)
        · skip
          exact L349 b a aa bb ls hl ha (ei_sf (c := aa == 16 && (a == 12 || ew_mb a) && b == 16) (x := em_t9 b a aa bb (ew_od w (k + 1))) hR (by simp [h29, h30, h31]))
        · skip
          refine lv_iconst (v := 0) hx hb dX6_word_347 (by decide) ?_
          exact er_zret hx hb hr hlk (by rw [(ei_st (c := aa == 16 && (a == 12 || ew_mb a) && b == 16) (x := em_t9 b a aa bb (ew_od w (k + 1))) hR (by simp [h29, h30, h31]))]; rfl) dX6_word_348
      · skip
        refine lv_aload_n hx hb dX6_word_332 rfl (lv_at hl 5 rfl) ?_
        refine lv_iload hx hb dX6_word_333 (lv_at hl 2 rfl) ?_
        refine er_V (own := RX6) (C := RX6) (b := h0) (rest := []) hx hb hml hown hts hl.1 (k_X6_quote l D cI cZ cJ h0 a) tw454 tw7 tw451 tw453 ts_X6_quote yd_X6_quote rfl rfl ⟨Nat.le_of_ble_eq_true rfl, Nat.le_of_ble_eq_true rfl⟩ er_nil hK hP (q0 := 0) rfl rfl rfl rfl (Nat.le_of_ble_eq_true rfl) ⟨Nat.zero_le _, Nat.zero_le _⟩ dX6_word_335 ?_
        refine ef_if_eq (tgt := 349) hx hb dX6_word_338 (by decide) (fun h32 => ?_) (fun h32 => ?_)
        · skip
          exact L349 b a aa bb ls hl ha (ei_sf (c := aa == 16 && (a == 12 || ew_mb a) && b == 16) (x := em_t9 b a aa bb (ew_od w (k + 1))) hR (by simp [h29, h30, h32]))
        · skip
          refine lv_iload_n hx hb dX6_word_341 rfl (lv_at hl 4 rfl) ?_
          refine lv_bipush (v := 16) hx hb dX6_word_342 (by decide) ?_
          refine lv_icmp_ne (tgt := 349) hx hb dX6_word_344 (by decide) (fun h33 => ?_) (fun h33 => ?_)
          · skip
            exact L349 b a aa bb ls hl ha (ei_sf (c := aa == 16 && (a == 12 || ew_mb a) && b == 16) (x := em_t9 b a aa bb (ew_od w (k + 1))) hR (by simp [h29, h30, h32, h33]))
          · skip
            refine lv_iconst (v := 0) hx hb dX6_word_347 (by decide) ?_
            exact er_zret hx hb hr hlk (by rw [(ei_st (c := aa == 16 && (a == 12 || ew_mb a) && b == 16) (x := em_t9 b a aa bb (ew_od w (k + 1))) hR (by simp [h29, h30, h32, h33]))]; rfl) dX6_word_348
  have L273 : ∀ (b a aa bb : Int32) (ls : Array Slot), lv_has ls 13 [(8, .int bb), (6, .int aa), (5, .int a), (4, .int (nI (em_ct w k))), (3, .int b), (0, .ref h0)] → w (em_ct w k) = a → em_wd (w k) (w (k + 1)) (w (em_ct w k)) (em_pk w (em_ct w k)) (ew_ah w n (k + 1)) (P (k + 1)) (ew_od w (k + 1)) = em_t7 b a aa bb (ew_od w (k + 1)) → W p l e ({ frames := 3, cells := 0, slots := 0, locals := 64 }) s m args below meth c s.heap [] 0 0 (MQ below (er_Q (.int (ef_b (em_wd (w k) (w (k + 1)) (w (em_ct w k)) (em_pk w (em_ct w k)) (ew_ah w n (k + 1)) (P (k + 1)) (ew_od w (k + 1)))))) args s 0 0 (fun _ => False)) (F0 m 273 ls []) := by
    intro b a aa bb ls hl ha hR
    refine lv_iload hx hb dX6_word_273 (lv_at hl 2 rfl) ?_
    refine lv_bipush (v := 16) hx hb dX6_word_275 (by decide) ?_
    refine lv_icmp_ne (tgt := 286) hx hb dX6_word_277 (by decide) (fun h34 => ?_) (fun h34 => ?_)
    · skip
      refine lv_aload_n hx hb dX6_word_286 rfl (lv_at hl 5 rfl) ?_
      refine lv_iload hx hb dX6_word_287 (lv_at hl 2 rfl) ?_
      refine er_V (own := RX6) (C := RX6) (b := h0) (rest := []) hx hb hml hown hts hl.1 (k_X6_letter l D cI cZ cJ h0 a) tw450 tw7 tw447 tw449 ts_X6_letter yd_X6_letter rfl rfl ⟨Nat.le_of_ble_eq_true rfl, Nat.le_of_ble_eq_true rfl⟩ er_nil hK hP (q0 := 0) rfl rfl rfl rfl (Nat.le_of_ble_eq_true rfl) ⟨Nat.zero_le _, Nat.zero_le _⟩ dX6_word_289 ?_
      refine ef_if_eq (tgt := 301) hx hb dX6_word_292 (by decide) (fun h35 => ?_) (fun h35 => ?_)
      · skip
        refine lv_iload hx hb dX6_word_301 (lv_at hl 2 rfl) ?_
        refine lv_bipush (v := 16) hx hb dX6_word_303 (by decide) ?_
        refine lv_icmp_ne (tgt := 318) hx hb dX6_word_305 (by decide) (fun h36 => ?_) (fun h36 => ?_)
        · skip
          exact L318 b a aa bb ls hl ha (ei_sf (c := (a == 16 && b == 16) || (ew_let a && b == 16) || (a == 16 && ew_let b)) (x := em_t8 b a aa bb (ew_od w (k + 1))) hR (by simp [h34, h35, h36]))
        · skip
          exact absurd h36 h34
      · skip
        refine lv_iload_n hx hb dX6_word_295 rfl (lv_at hl 4 rfl) ?_
        refine lv_bipush (v := 16) hx hb dX6_word_296 (by decide) ?_
        refine lv_icmp_eq (tgt := 316) hx hb dX6_word_298 (by decide) (fun h37 => ?_) (fun h37 => ?_)
        · skip
          refine lv_iconst (v := 0) hx hb dX6_word_316 (by decide) ?_
          exact er_zret hx hb hr hlk (by rw [(ei_st (c := (a == 16 && b == 16) || (ew_let a && b == 16) || (a == 16 && ew_let b)) (x := em_t8 b a aa bb (ew_od w (k + 1))) hR (by simp [h34, h35, h37]))]; rfl) dX6_word_317
        · skip
          refine lv_iload hx hb dX6_word_301 (lv_at hl 2 rfl) ?_
          refine lv_bipush (v := 16) hx hb dX6_word_303 (by decide) ?_
          refine lv_icmp_ne (tgt := 318) hx hb dX6_word_305 (by decide) (fun h38 => ?_) (fun h38 => ?_)
          · skip
            exact L318 b a aa bb ls hl ha (ei_sf (c := (a == 16 && b == 16) || (ew_let a && b == 16) || (a == 16 && ew_let b)) (x := em_t8 b a aa bb (ew_od w (k + 1))) hR (by simp [h34, h35, h37, h38]))
          · skip
            exact absurd h38 h34
    · skip
      refine lv_iload_n hx hb dX6_word_280 rfl (lv_at hl 4 rfl) ?_
      refine lv_bipush (v := 16) hx hb dX6_word_281 (by decide) ?_
      refine lv_icmp_eq (tgt := 316) hx hb dX6_word_283 (by decide) (fun h39 => ?_) (fun h39 => ?_)
      · skip
        refine lv_iconst (v := 0) hx hb dX6_word_316 (by decide) ?_
        exact er_zret hx hb hr hlk (by rw [(ei_st (c := (a == 16 && b == 16) || (ew_let a && b == 16) || (a == 16 && ew_let b)) (x := em_t8 b a aa bb (ew_od w (k + 1))) hR (by simp [h34, h39]))]; rfl) dX6_word_317
      · skip
        refine lv_aload_n hx hb dX6_word_286 rfl (lv_at hl 5 rfl) ?_
        refine lv_iload hx hb dX6_word_287 (lv_at hl 2 rfl) ?_
        refine er_V (own := RX6) (C := RX6) (b := h0) (rest := []) hx hb hml hown hts hl.1 (k_X6_letter l D cI cZ cJ h0 a) tw450 tw7 tw447 tw449 ts_X6_letter yd_X6_letter rfl rfl ⟨Nat.le_of_ble_eq_true rfl, Nat.le_of_ble_eq_true rfl⟩ er_nil hK hP (q0 := 0) rfl rfl rfl rfl (Nat.le_of_ble_eq_true rfl) ⟨Nat.zero_le _, Nat.zero_le _⟩ dX6_word_289 ?_
        refine ef_if_eq (tgt := 301) hx hb dX6_word_292 (by decide) (fun h40 => ?_) (fun h40 => ?_)
        · skip
          refine lv_iload hx hb dX6_word_301 (lv_at hl 2 rfl) ?_
          refine lv_bipush (v := 16) hx hb dX6_word_303 (by decide) ?_
          refine lv_icmp_ne (tgt := 318) hx hb dX6_word_305 (by decide) (fun h41 => ?_) (fun h41 => ?_)
          · skip
            exact absurd h34 h41
          · skip
            refine lv_aload_n hx hb dX6_word_308 rfl (lv_at hl 5 rfl) ?_
            refine lv_iload_n hx hb dX6_word_309 rfl (lv_at hl 4 rfl) ?_
            refine er_V (own := RX6) (C := RX6) (b := h0) (rest := []) hx hb hml hown hts hl.1 (k_X6_letter l D cI cZ cJ h0 b) tw450 tw7 tw447 tw449 ts_X6_letter yd_X6_letter rfl rfl ⟨Nat.le_of_ble_eq_true rfl, Nat.le_of_ble_eq_true rfl⟩ er_nil hK hP (q0 := 0) rfl rfl rfl rfl (Nat.le_of_ble_eq_true rfl) ⟨Nat.zero_le _, Nat.zero_le _⟩ dX6_word_310 ?_
            refine ef_if_eq (tgt := 318) hx hb dX6_word_313 (by decide) (fun h42 => ?_) (fun h42 => ?_)
            · skip
              exact L318 b a aa bb ls hl ha (ei_sf (c := (a == 16 && b == 16) || (ew_let a && b == 16) || (a == 16 && ew_let b)) (x := em_t8 b a aa bb (ew_od w (k + 1))) hR (by simp [h34, h39, h40, h41, h42]))
            · skip
              refine lv_iconst (v := 0) hx hb dX6_word_316 (by decide) ?_
              exact er_zret hx hb hr hlk (by rw [(ei_st (c := (a == 16 && b == 16) || (ew_let a && b == 16) || (a == 16 && ew_let b)) (x := em_t8 b a aa bb (ew_od w (k + 1))) hR (by simp [h34, h39, h40, h41, h42]))]; rfl) dX6_word_317
        · skip
          refine lv_iload_n hx hb dX6_word_295 rfl (lv_at hl 4 rfl) ?_
          refine lv_bipush (v := 16) hx hb dX6_word_296 (by decide) ?_
          refine lv_icmp_eq (tgt := 316) hx hb dX6_word_298 (by decide) (fun h43 => ?_) (fun h43 => ?_)
          · skip
            exact absurd h43 h39
          · skip
            refine lv_iload hx hb dX6_word_301 (lv_at hl 2 rfl) ?_
            refine lv_bipush (v := 16) hx hb dX6_word_303 (by decide) ?_
            refine lv_icmp_ne (tgt := 318) hx hb dX6_word_305 (by decide) (fun h44 => ?_) (fun h44 => ?_)
            · skip
              exact absurd h34 h44
            · skip
              refine lv_aload_n hx hb dX6_word_308 rfl (lv_at hl 5 rfl) ?_
              refine lv_iload_n hx hb dX6_word_309 rfl (lv_at hl 4 rfl) ?_
              refine er_V (own := RX6) (C := RX6) (b := h0) (rest := []) hx hb hml hown hts hl.1 (k_X6_letter l D cI cZ cJ h0 b) tw450 tw7 tw447 tw449 ts_X6_letter yd_X6_letter rfl rfl ⟨Nat.le_of_ble_eq_true rfl, Nat.le_of_ble_eq_true rfl⟩ er_nil hK hP (q0 := 0) rfl rfl rfl rfl (Nat.le_of_ble_eq_true rfl) ⟨Nat.zero_le _, Nat.zero_le _⟩ dX6_word_310 ?_
              refine ef_if_eq (tgt := 318) hx hb dX6_word_313 (by decide) (fun h45 => ?_) (fun h45 => ?_)
              · skip
                exact L318 b a aa bb ls hl ha (ei_sf (c := (a == 16 && b == 16) || (ew_let a && b == 16) || (a == 16 && ew_let b)) (x := em_t8 b a aa bb (ew_od w (k + 1))) hR (by simp [h34, h39, h40, h43, h44, h45]))
              · skip
                refine lv_iconst (v := 0) hx hb dX6_word_316 (by decide) ?_
                exact er_zret hx hb hr hlk (by rw [(ei_st (c := (a == 16 && b == 16) || (ew_let a && b == 16) || (a == 16 && ew_let b)) (x := em_t8 b a aa bb (ew_od w (k + 1))) hR (by simp [h34, h39, h40, h43, h44, h45]))]; rfl) dX6_word_317
  have L251 : ∀ (b a aa bb : Int32) (ls : Array Slot), lv_has ls 13 [(8, .int bb), (6, .int aa), (5, .int a), (4, .int (nI (em_ct w k))), (3, .int b), (0, .ref h0)] → w (em_ct w k) = a → em_wd (w k) (w (k + 1)) (w (em_ct w k)) (em_pk w (em_ct w k)) (ew_ah w n (k + 1)) (P (k + 1)) (ew_od w (k + 1)) = em_t6 b a aa bb (ew_od w (k + 1)) → W p l e ({ frames := 3, cells := 0, slots := 0, locals := 64 }) s m args below meth c s.heap [] 0 0 (MQ below (er_Q (.int (ef_b (em_wd (w k) (w (k + 1)) (w (em_ct w k)) (em_pk w (em_ct w k)) (ew_ah w n (k + 1)) (P (k + 1)) (ew_od w (k + 1)))))) args s 0 0 (fun _ => False)) (F0 m 251 ls []) := by
    intro b a aa bb ls hl ha hR
    refine lv_iload hx hb dX6_word_251 (lv_at hl 1 rfl) ?_
    refine lv_bipush (v := 9) hx hb dX6_word_253 (by decide) ?_
    refine lv_icmp_ne (tgt := 273) hx hb dX6_word_255 (by decide) (fun h46 => ?_) (fun h46 => ?_)
    · skip
      exact L273 b a aa bb ls hl ha (ei_sf (c := aa == 9 && a == 15 && b == 9) (x := em_t7 b a aa bb (ew_od w (k + 1))) hR (by simp [h46]))
    · skip
      refine lv_iload hx hb dX6_word_258 (lv_at hl 2 rfl) ?_
      refine lv_bipush (v := 15) hx hb dX6_word_260 (by decide) ?_
      refine lv_icmp_ne (tgt := 273) hx hb dX6_word_262 (by decide) (fun h47 => ?_) (fun h47 => ?_)
      · skip
        exact L273 b a aa bb ls hl ha (ei_sf (c := aa == 9 && a == 15 && b == 9) (x := em_t7 b a aa bb (ew_od w (k + 1))) hR (by simp [h46, h47]))
      · skip
        refine lv_iload_n hx hb dX6_word_265 rfl (lv_at hl 4 rfl) ?_
        refine lv_bipush (v := 9) hx hb dX6_word_266 (by decide) ?_
        refine lv_icmp_ne (tgt := 273) hx hb dX6_word_268 (by decide) (fun h48 => ?_) (fun h48 => ?_)
        · skip
          exact L273 b a aa bb ls hl ha (ei_sf (c := aa == 9 && a == 15 && b == 9) (x := em_t7 b a aa bb (ew_od w (k + 1))) hR (by simp [h46, h47, h48]))
        · skip
          refine lv_iconst (v := 0) hx hb dX6_word_271 (by decide) ?_
          exact er_zret hx hb hr hlk (by rw [(ei_st (c := aa == 9 && a == 15 && b == 9) (x := em_t7 b a aa bb (ew_od w (k + 1))) hR (by simp [h46, h47, h48]))]; rfl) dX6_word_272
  have L229 : ∀ (b a aa bb : Int32) (ls : Array Slot), lv_has ls 13 [(8, .int bb), (6, .int aa), (5, .int a), (4, .int (nI (em_ct w k))), (3, .int b), (0, .ref h0)] → w (em_ct w k) = a → em_wd (w k) (w (k + 1)) (w (em_ct w k)) (em_pk w (em_ct w k)) (ew_ah w n (k + 1)) (P (k + 1)) (ew_od w (k + 1)) = em_t5 b a aa bb (ew_od w (k + 1)) → W p l e ({ frames := 3, cells := 0, slots := 0, locals := 64 }) s m args below meth c s.heap [] 0 0 (MQ below (er_Q (.int (ef_b (em_wd (w k) (w (k + 1)) (w (em_ct w k)) (em_pk w (em_ct w k)) (ew_ah w n (k + 1)) (P (k + 1)) (ew_od w (k + 1)))))) args s 0 0 (fun _ => False)) (F0 m 229 ls []) := by
    intro b a aa bb ls hl ha hR
    refine lv_iload hx hb dX6_word_229 (lv_at hl 2 rfl) ?_
    refine lv_bipush (v := 9) hx hb dX6_word_231 (by decide) ?_
    refine lv_icmp_ne (tgt := 251) hx hb dX6_word_233 (by decide) (fun h49 => ?_) (fun h49 => ?_)
    · skip
      exact L251 b a aa bb ls hl ha (ei_sf (c := a == 9 && b == 15 && bb == 9) (x := em_t6 b a aa bb (ew_od w (k + 1))) hR (by simp [h49]))
    · skip
      refine lv_iload_n hx hb dX6_word_236 rfl (lv_at hl 4 rfl) ?_
      refine lv_bipush (v := 15) hx hb dX6_word_237 (by decide) ?_
      refine lv_icmp_ne (tgt := 251) hx hb dX6_word_239 (by decide) (fun h50 => ?_) (fun h50 => ?_)
      · skip
        exact L251 b a aa bb ls hl ha (ei_sf (c := a == 9 && b == 15 && bb == 9) (x := em_t6 b a aa bb (ew_od w (k + 1))) hR (by simp [h49, h50]))
      · skip
        refine lv_iload hx hb dX6_word_242 (lv_at hl 0 rfl) ?_
        refine lv_bipush (v := 9) hx hb dX6_word_244 (by decide) ?_
        refine lv_icmp_ne (tgt := 251) hx hb dX6_word_246 (by decide) (fun h51 => ?_) (fun h51 => ?_)
        · skip
          exact L251 b a aa bb ls hl ha (ei_sf (c := a == 9 && b == 15 && bb == 9) (x := em_t6 b a aa bb (ew_od w (k + 1))) hR (by simp [h49, h50, h51]))
        · skip
          refine lv_iconst (v := 0) hx hb dX6_word_249 (by decide) ?_
          exact er_zret hx hb hr hlk (by rw [(ei_st (c := a == 9 && b == 15 && bb == 9) (x := em_t6 b a aa bb (ew_od w (k + 1))) hR (by simp [h49, h50, h51]))]; rfl) dX6_word_250
  have L214 : ∀ (b a aa bb : Int32) (ls : Array Slot), lv_has ls 13 [(8, .int bb), (6, .int aa), (5, .int a), (4, .int (nI (em_ct w k))), (3, .int b), (0, .ref h0)] → w (em_ct w k) = a → em_wd (w k) (w (k + 1)) (w (em_ct w k)) (em_pk w (em_ct w k)) (ew_ah w n (k + 1)) (P (k + 1)) (ew_od w (k + 1)) = em_t4 b a aa bb (ew_od w (k + 1)) → W p l e ({ frames := 3, cells := 0, slots := 0, locals := 64 }) s m args below meth c s.heap [] 0 0 (MQ below (er_Q (.int (ef_b (em_wd (w k) (w (k + 1)) (w (em_ct w k)) (em_pk w (em_ct w k)) (ew_ah w n (k + 1)) (P (k + 1)) (ew_od w (k + 1)))))) args s 0 0 (fun _ => False)) (F0 m 214 ls []) := by
    intro b a aa bb ls hl ha hR
    refine lv_iload hx hb dX6_word_214 (lv_at hl 2 rfl) ?_
    refine lv_bipush (v := 9) hx hb dX6_word_216 (by decide) ?_
    refine lv_icmp_ne (tgt := 229) hx hb dX6_word_218 (by decide) (fun h52 => ?_) (fun h52 => ?_)
    · skip
      exact L229 b a aa bb ls hl ha (ei_sf (c := a == 9 && b == 14) (x := em_t5 b a aa bb (ew_od w (k + 1))) hR (by simp [h52]))
    · skip
      refine lv_iload_n hx hb dX6_word_221 rfl (lv_at hl 4 rfl) ?_
      refine lv_bipush (v := 14) hx hb dX6_word_222 (by decide) ?_
      refine lv_icmp_ne (tgt := 229) hx hb dX6_word_224 (by decide) (fun h53 => ?_) (fun h53 => ?_)
      · skip
        exact L229 b a aa bb ls hl ha (ei_sf (c := a == 9 && b == 14) (x := em_t5 b a aa bb (ew_od w (k + 1))) hR (by simp [h52, h53]))
      · skip
        refine lv_iconst (v := 0) hx hb dX6_word_227 (by decide) ?_
        exact er_zret hx hb hr hlk (by rw [(ei_st (c := a == 9 && b == 14) (x := em_t5 b a aa bb (ew_od w (k + 1))) hR (by simp [h52, h53]))]; rfl) dX6_word_228
  have L179 : ∀ (b a aa bb : Int32) (ls : Array Slot), lv_has ls 13 [(8, .int bb), (6, .int aa), (5, .int a), (4, .int (nI (em_ct w k))), (3, .int b), (0, .ref h0)] → w (em_ct w k) = a → em_wd (w k) (w (k + 1)) (w (em_ct w k)) (em_pk w (em_ct w k)) (ew_ah w n (k + 1)) (P (k + 1)) (ew_od w (k + 1)) = em_t3 b a aa bb (ew_od w (k + 1)) → W p l e ({ frames := 3, cells := 0, slots := 0, locals := 64 }) s m args below meth c s.heap [] 0 0 (MQ below (er_Q (.int (ef_b (em_wd (w k) (w (k + 1)) (w (em_ct w k)) (em_pk w (em_ct w k)) (ew_ah w n (k + 1)) (P (k + 1)) (ew_od w (k + 1)))))) args s 0 0 (fun _ => False)) (F0 m 179 ls []) := by
    intro b a aa bb ls hl ha hR
    refine lv_aload_n hx hb dX6_word_179 rfl (lv_at hl 5 rfl) ?_
    refine lv_iload hx hb dX6_word_180 (lv_at hl 1 rfl) ?_
    refine er_V (own := RX6) (C := RX6) (b := h0) (rest := []) hx hb hml hown hts hl.1 (k_X6_letter l D cI cZ cJ h0 aa) tw450 tw7 tw447 tw449 ts_X6_letter yd_X6_letter rfl rfl ⟨Nat.le_of_ble_eq_true rfl, Nat.le_of_ble_eq_true rfl⟩ er_nil hK hP (q0 := 0) rfl rfl rfl rfl (Nat.le_of_ble_eq_true rfl) ⟨Nat.zero_le _, Nat.zero_le _⟩ dX6_word_182 ?_
    refine ef_if_eq (tgt := 214) hx hb dX6_word_185 (by decide) (fun h54 => ?_) (fun h54 => ?_)
    · skip
      exact L214 b a aa bb ls hl ha (ei_sf (c := ew_let aa && (a == 11 || ew_mb a) && ew_let b) (x := em_t4 b a aa bb (ew_od w (k + 1))) hR (by simp [h54]))
    · skip
      refine lv_iload hx hb dX6_word_188 (lv_at hl 2 rfl) ?_
      refine lv_bipush (v := 11) hx hb dX6_word_190 (by decide) ?_
      refine lv_icmp_eq (tgt := 204) hx hb dX6_word_192 (by decide) (fun h55 => ?_) (fun h55 => ?_)
      · skip
        refine lv_aload_n hx hb dX6_word_204 rfl (lv_at hl 5 rfl) ?_
        refine lv_iload_n hx hb dX6_word_205 rfl (lv_at hl 4 rfl) ?_
        refine er_V (own := RX6) (C := RX6) (b := h0) (rest := []) hx hb hml hown hts hl.1 (k_X6_letter l D cI cZ cJ h0 b) tw450 tw7 tw447 tw449 ts_X6_letter yd_X6_letter rfl rfl ⟨Nat.le_of_ble_eq_true rfl, Nat.le_of_ble_eq_true rfl⟩ er_nil hK hP (q0 := 0) rfl rfl rfl rfl (Nat.le_of_ble_eq_true rfl) ⟨Nat.zero_le _, Nat.zero_le _⟩ dX6_word_206 ?_
        refine ef_if_eq (tgt := 214) hx hb dX6_word_209 (by decide) (fun h56 => ?_) (fun h56 => ?_)
        · skip
          exact L214 b a aa bb ls hl ha (ei_sf (c := ew_let aa && (a == 11 || ew_mb a) && ew_let b) (x := em_t4 b a aa bb (ew_od w (k + 1))) hR (by simp [h54, h55, h56]))
        · skip
          refine lv_iconst (v := 0) hx hb dX6_word_212 (by decide) ?_
          exact er_zret hx hb hr hlk (by rw [(ei_st (c := ew_let aa && (a == 11 || ew_mb a) && ew_let b) (x := em_t4 b a aa bb (ew_od w (k + 1))) hR (by simp [h54, h55, h56]))]; rfl) dX6_word_213
      · skip
        refine lv_aload_n hx hb dX6_word_195 rfl (lv_at hl 5 rfl) ?_
        refine lv_iload hx hb dX6_word_196 (lv_at hl 2 rfl) ?_
        refine er_V (own := RX6) (C := RX6) (b := h0) (rest := []) hx hb hml hown hts hl.1 (k_X6_quote l D cI cZ cJ h0 a) tw454 tw7 tw451 tw453 ts_X6_quote yd_X6_quote rfl rfl ⟨Nat.le_of_ble_eq_true rfl, Nat.le_of_ble_eq_true rfl⟩ er_nil hK hP (q0 := 0) rfl rfl rfl rfl (Nat.le_of_ble_eq_true rfl) ⟨Nat.zero_le _, Nat.zero_le _⟩ dX6_word_198 ?_
        refine ef_if_eq (tgt := 214) hx hb dX6_word_201 (by decide) (fun h57 => ?_) (fun h57 => ?_)
        · skip
          exact L214 b a aa bb ls hl ha (ei_sf (c := ew_let aa && (a == 11 || ew_mb a) && ew_let b) (x := em_t4 b a aa bb (ew_od w (k + 1))) hR (by simp [h54, h55, h57]))
        · skip
          refine lv_aload_n hx hb dX6_word_204 rfl (lv_at hl 5 rfl) ?_
          refine lv_iload_n hx hb dX6_word_205 rfl (lv_at hl 4 rfl) ?_
          refine er_V (own := RX6) (C := RX6) (b := h0) (rest := []) hx hb hml hown hts hl.1 (k_X6_letter l D cI cZ cJ h0 b) tw450 tw7 tw447 tw449 ts_X6_letter yd_X6_letter rfl rfl ⟨Nat.le_of_ble_eq_true rfl, Nat.le_of_ble_eq_true rfl⟩ er_nil hK hP (q0 := 0) rfl rfl rfl rfl (Nat.le_of_ble_eq_true rfl) ⟨Nat.zero_le _, Nat.zero_le _⟩ dX6_word_206 ?_
          refine ef_if_eq (tgt := 214) hx hb dX6_word_209 (by decide) (fun h58 => ?_) (fun h58 => ?_)
          · skip
            exact L214 b a aa bb ls hl ha (ei_sf (c := ew_let aa && (a == 11 || ew_mb a) && ew_let b) (x := em_t4 b a aa bb (ew_od w (k + 1))) hR (by simp [h54, h55, h57, h58]))
          · skip
            refine lv_iconst (v := 0) hx hb dX6_word_212 (by decide) ?_
            exact er_zret hx hb hr hlk (by rw [(ei_st (c := ew_let aa && (a == 11 || ew_mb a) && ew_let b) (x := em_t4 b a aa bb (ew_od w (k + 1))) hR (by simp [h54, h55, h57, h58]))]; rfl) dX6_word_213
  have L145 : ∀ (b a aa bb : Int32) (ls : Array Slot), lv_has ls 13 [(8, .int bb), (6, .int aa), (5, .int a), (4, .int (nI (em_ct w k))), (3, .int b), (0, .ref h0)] → w (em_ct w k) = a → em_wd (w k) (w (k + 1)) (w (em_ct w k)) (em_pk w (em_ct w k)) (ew_ah w n (k + 1)) (P (k + 1)) (ew_od w (k + 1)) = em_t2 b a aa bb (ew_od w (k + 1)) → W p l e ({ frames := 3, cells := 0, slots := 0, locals := 64 }) s m args below meth c s.heap [] 0 0 (MQ below (er_Q (.int (ef_b (em_wd (w k) (w (k + 1)) (w (em_ct w k)) (em_pk w (em_ct w k)) (ew_ah w n (k + 1)) (P (k + 1)) (ew_od w (k + 1)))))) args s 0 0 (fun _ => False)) (F0 m 145 ls []) := by
    intro b a aa bb ls hl ha hR
    refine lv_aload_n hx hb dX6_word_145 rfl (lv_at hl 5 rfl) ?_
    refine lv_iload hx hb dX6_word_146 (lv_at hl 2 rfl) ?_
    refine er_V (own := RX6) (C := RX6) (b := h0) (rest := []) hx hb hml hown hts hl.1 (k_X6_letter l D cI cZ cJ h0 a) tw450 tw7 tw447 tw449 ts_X6_letter yd_X6_letter rfl rfl ⟨Nat.le_of_ble_eq_true rfl, Nat.le_of_ble_eq_true rfl⟩ er_nil hK hP (q0 := 0) rfl rfl rfl rfl (Nat.le_of_ble_eq_true rfl) ⟨Nat.zero_le _, Nat.zero_le _⟩ dX6_word_148 ?_
    refine ef_if_eq (tgt := 179) hx hb dX6_word_151 (by decide) (fun h59 => ?_) (fun h59 => ?_)
    · skip
      exact L179 b a aa bb ls hl ha (ei_sf (c := ew_let a && (b == 11 || ew_mb b) && ew_let bb) (x := em_t3 b a aa bb (ew_od w (k + 1))) hR (by simp [h59]))
    · skip
      refine lv_iload_n hx hb dX6_word_154 rfl (lv_at hl 4 rfl) ?_
      refine lv_bipush (v := 11) hx hb dX6_word_155 (by decide) ?_
      refine lv_icmp_eq (tgt := 168) hx hb dX6_word_157 (by decide) (fun h60 => ?_) (fun h60 => ?_)
      · skip
        refine lv_aload_n hx hb dX6_word_168 rfl (lv_at hl 5 rfl) ?_
        refine lv_iload hx hb dX6_word_169 (lv_at hl 0 rfl) ?_
        refine er_V (own := RX6) (C := RX6) (b := h0) (rest := []) hx hb hml hown hts hl.1 (k_X6_letter l D cI cZ cJ h0 bb) tw450 tw7 tw447 tw449 ts_X6_letter yd_X6_letter rfl rfl ⟨Nat.le_of_ble_eq_true rfl, Nat.le_of_ble_eq_true rfl⟩ er_nil hK hP (q0 := 0) rfl rfl rfl rfl (Nat.le_of_ble_eq_true rfl) ⟨Nat.zero_le _, Nat.zero_le _⟩ dX6_word_171 ?_
        refine ef_if_eq (tgt := 179) hx hb dX6_word_174 (by decide) (fun h61 => ?_) (fun h61 => ?_)
        · skip
          exact L179 b a aa bb ls hl ha (ei_sf (c := ew_let a && (b == 11 || ew_mb b) && ew_let bb) (x := em_t3 b a aa bb (ew_od w (k + 1))) hR (by simp [h59, h60, h61]))
        · skip
          refine lv_iconst (v := 0) hx hb dX6_word_177 (by decide) ?_
          exact er_zret hx hb hr hlk (by rw [(ei_st (c := ew_let a && (b == 11 || ew_mb b) && ew_let bb) (x := em_t3 b a aa bb (ew_od w (k + 1))) hR (by simp [h59, h60, h61]))]; rfl) dX6_word_178
      · skip
        refine lv_aload_n hx hb dX6_word_160 rfl (lv_at hl 5 rfl) ?_
        refine lv_iload_n hx hb dX6_word_161 rfl (lv_at hl 4 rfl) ?_
        refine er_V (own := RX6) (C := RX6) (b := h0) (rest := []) hx hb hml hown hts hl.1 (k_X6_quote l D cI cZ cJ h0 b) tw454 tw7 tw451 tw453 ts_X6_quote yd_X6_quote rfl rfl ⟨Nat.le_of_ble_eq_true rfl, Nat.le_of_ble_eq_true rfl⟩ er_nil hK hP (q0 := 0) rfl rfl rfl rfl (Nat.le_of_ble_eq_true rfl) ⟨Nat.zero_le _, Nat.zero_le _⟩ dX6_word_162 ?_
        refine ef_if_eq (tgt := 179) hx hb dX6_word_165 (by decide) (fun h62 => ?_) (fun h62 => ?_)
        · skip
          exact L179 b a aa bb ls hl ha (ei_sf (c := ew_let a && (b == 11 || ew_mb b) && ew_let bb) (x := em_t3 b a aa bb (ew_od w (k + 1))) hR (by simp [h59, h60, h62]))
        · skip
          refine lv_aload_n hx hb dX6_word_168 rfl (lv_at hl 5 rfl) ?_
          refine lv_iload hx hb dX6_word_169 (lv_at hl 0 rfl) ?_
          refine er_V (own := RX6) (C := RX6) (b := h0) (rest := []) hx hb hml hown hts hl.1 (k_X6_letter l D cI cZ cJ h0 bb) tw450 tw7 tw447 tw449 ts_X6_letter yd_X6_letter rfl rfl ⟨Nat.le_of_ble_eq_true rfl, Nat.le_of_ble_eq_true rfl⟩ er_nil hK hP (q0 := 0) rfl rfl rfl rfl (Nat.le_of_ble_eq_true rfl) ⟨Nat.zero_le _, Nat.zero_le _⟩ dX6_word_171 ?_
          refine ef_if_eq (tgt := 179) hx hb dX6_word_174 (by decide) (fun h63 => ?_) (fun h63 => ?_)
          · skip
            exact L179 b a aa bb ls hl ha (ei_sf (c := ew_let a && (b == 11 || ew_mb b) && ew_let bb) (x := em_t3 b a aa bb (ew_od w (k + 1))) hR (by simp [h59, h60, h62, h63]))
          · skip
            refine lv_iconst (v := 0) hx hb dX6_word_177 (by decide) ?_
            exact er_zret hx hb hr hlk (by rw [(ei_st (c := ew_let a && (b == 11 || ew_mb b) && ew_let bb) (x := em_t3 b a aa bb (ew_od w (k + 1))) hR (by simp [h59, h60, h62, h63]))]; rfl) dX6_word_178
  have L126 : ∀ (b a aa bb : Int32) (ls : Array Slot), lv_has ls 13 [(8, .int bb), (6, .int aa), (5, .int a), (4, .int (nI (em_ct w k))), (3, .int b), (0, .ref h0)] → w (em_ct w k) = a → em_wd (w k) (w (k + 1)) (w (em_ct w k)) (em_pk w (em_ct w k)) (ew_ah w n (k + 1)) (P (k + 1)) (ew_od w (k + 1)) = em_t1 b a aa bb (ew_od w (k + 1)) → W p l e ({ frames := 3, cells := 0, slots := 0, locals := 64 }) s m args below meth c s.heap [] 0 0 (MQ below (er_Q (.int (ef_b (em_wd (w k) (w (k + 1)) (w (em_ct w k)) (em_pk w (em_ct w k)) (ew_ah w n (k + 1)) (P (k + 1)) (ew_od w (k + 1)))))) args s 0 0 (fun _ => False)) (F0 m 126 ls []) := by
    intro b a aa bb ls hl ha hR
    refine lv_aload_n hx hb dX6_word_126 rfl (lv_at hl 5 rfl) ?_
    refine lv_iload hx hb dX6_word_127 (lv_at hl 2 rfl) ?_
    refine er_V (own := RX6) (C := RX6) (b := h0) (rest := []) hx hb hml hown hts hl.1 (k_X6_letter l D cI cZ cJ h0 a) tw450 tw7 tw447 tw449 ts_X6_letter yd_X6_letter rfl rfl ⟨Nat.le_of_ble_eq_true rfl, Nat.le_of_ble_eq_true rfl⟩ er_nil hK hP (q0 := 0) rfl rfl rfl rfl (Nat.le_of_ble_eq_true rfl) ⟨Nat.zero_le _, Nat.zero_le _⟩ dX6_word_129 ?_
    refine ef_if_eq (tgt := 145) hx hb dX6_word_132 (by decide) (fun h64 => ?_) (fun h64 => ?_)
    · skip
      exact L145 b a aa bb ls hl ha (ei_sf (c := ew_let a && ew_let b) (x := em_t2 b a aa bb (ew_od w (k + 1))) hR (by simp [h64]))
    · skip
      refine lv_aload_n hx hb dX6_word_135 rfl (lv_at hl 5 rfl) ?_
      refine lv_iload_n hx hb dX6_word_136 rfl (lv_at hl 4 rfl) ?_
      refine er_V (own := RX6) (C := RX6) (b := h0) (rest := []) hx hb hml hown hts hl.1 (k_X6_letter l D cI cZ cJ h0 b) tw450 tw7 tw447 tw449 ts_X6_letter yd_X6_letter rfl rfl ⟨Nat.le_of_ble_eq_true rfl, Nat.le_of_ble_eq_true rfl⟩ er_nil hK hP (q0 := 0) rfl rfl rfl rfl (Nat.le_of_ble_eq_true rfl) ⟨Nat.zero_le _, Nat.zero_le _⟩ dX6_word_137 ?_
      refine ef_if_eq (tgt := 145) hx hb dX6_word_140 (by decide) (fun h65 => ?_) (fun h65 => ?_)
      · skip
        exact L145 b a aa bb ls hl ha (ei_sf (c := ew_let a && ew_let b) (x := em_t2 b a aa bb (ew_od w (k + 1))) hR (by simp [h64, h65]))
      · skip
        refine lv_iconst (v := 0) hx hb dX6_word_143 (by decide) ?_
        exact er_zret hx hb hr hlk (by rw [(ei_st (c := ew_let a && ew_let b) (x := em_t2 b a aa bb (ew_od w (k + 1))) hR (by simp [h64, h65]))]; rfl) dX6_word_144
  have L84 : ∀ (ls : Array Slot), lv_has ls 13 [(3, .int (w (k + 1))), (2, .int (w k)), (0, .ref h0), (1, .int (nI (k + 1)))] → (w k == 1 && w (k + 1) == 2) = false → ew_le (w k) = false → ew_le (w (k + 1)) = false → (w k == 5 && P (k + 1)) = false → (w k == 18 && w (k + 1) == 18) = false → ew_at (w (k + 1)) = false → W p l e ({ frames := 3, cells := 0, slots := 0, locals := 64 }) s m args below meth c s.heap [] 0 0 (MQ below (er_Q (.int (ef_b (em_wd (w k) (w (k + 1)) (w (em_ct w k)) (em_pk w (em_ct w k)) (ew_ah w n (k + 1)) (P (k + 1)) (ew_od w (k + 1)))))) args s 0 0 (fun _ => False)) (F0 m 84 ls []) := by
    intro ls hl f28 f46 f47 f62 f74 f84
    refine lv_aload_n hx hb dX6_word_84 rfl (lv_at hl 2 rfl) ?_
    refine lv_iload_n hx hb dX6_word_85 rfl (lv_at hl 3 rfl) ?_
    refine er_V (own := RX6) (C := RX6) (b := h0) (rest := []) hx hb hml hown hts hl.1 (k_X6_before l D cI cZ cJ h0 gA wA pA fa n g w P (k + 1) (by omega)) tw434 tw7 tw431 tw433 ts_X6_before yd_X6_before rfl rfl ⟨Nat.le_of_ble_eq_true rfl, Nat.le_of_ble_eq_true rfl⟩ hP hK hP (q0 := 0) rfl rfl rfl rfl (Nat.le_of_ble_eq_true rfl) ⟨Nat.zero_le _, Nat.zero_le _⟩ dX6_word_86 ?_
    refine ef_eqi (y := nI (em_ct w k)) (by simp [em_bi]) ?_
    refine lv_istore (lv' := [(4, .int (nI (em_ct w k))), (3, .int (w (k + 1))), (2, .int (w k)), (0, .ref h0), (1, .int (nI (k + 1)))]) hx hb dX6_word_89 hl (Nat.le_of_ble_eq_true rfl) rfl (fun ls hl => ?_)
    refine lv_aload_n hx hb dX6_word_91 rfl (lv_at hl 3 rfl) ?_
    refine lv_iload hx hb dX6_word_92 (lv_at hl 0 rfl) ?_
    refine er_V (own := RX6) (C := RX6) (b := h0) (rest := []) hx hb hml hown hts hl.1 (k_X6_wordKind l D cI cZ cJ h0 gA wA pA fa n g w P (nI (em_ct w k)) (by omega)) tw442 tw7 tw439 tw441 ts_X6_wordKind yd_X6_wordKind rfl rfl ⟨Nat.le_of_ble_eq_true rfl, Nat.le_of_ble_eq_true rfl⟩ hP hK hP (q0 := 0) rfl rfl rfl rfl (Nat.le_of_ble_eq_true rfl) ⟨Nat.zero_le _, Nat.zero_le _⟩ dX6_word_94 ?_
    refine ef_eqi (y := w (em_ct w k)) (by rw [em_wk_n (by omega) hn, if_pos (by omega)]) ?_
    refine lv_istore (lv' := [(5, .int (w (em_ct w k))), (4, .int (nI (em_ct w k))), (3, .int (w (k + 1))), (2, .int (w k)), (0, .ref h0), (1, .int (nI (k + 1)))]) hx hb dX6_word_97 hl (Nat.le_of_ble_eq_true rfl) rfl (fun ls hl => ?_)
    refine lv_aload_n hx hb dX6_word_99 rfl (lv_at hl 4 rfl) ?_
    refine lv_aload_n hx hb dX6_word_100 rfl (lv_at hl 4 rfl) ?_
    refine lv_iload hx hb dX6_word_101 (lv_at hl 1 rfl) ?_
    refine er_V (own := RX6) (C := RX6) (b := h0) (rest := [.ref h0]) hx hb hml hown hts hl.1 (k_X6_before l D cI cZ cJ h0 gA wA pA fa n g w P (em_ct w k) (by omega)) tw434 tw7 tw431 tw433 ts_X6_before yd_X6_before rfl rfl ⟨Nat.le_of_ble_eq_true rfl, Nat.le_of_ble_eq_true rfl⟩ hP hK hP (q0 := 0) rfl rfl rfl rfl (Nat.le_of_ble_eq_true rfl) ⟨Nat.zero_le _, Nat.zero_le _⟩ dX6_word_103 ?_
    refine er_V (own := RX6) (C := RX6) (b := h0) (rest := []) hx hb hml hown hts hl.1 (k_X6_wordKind l D cI cZ cJ h0 gA wA pA fa n g w P (em_bi w (em_ct w k)) (by omega)) tw442 tw7 tw439 tw441 ts_X6_wordKind yd_X6_wordKind rfl rfl ⟨Nat.le_of_ble_eq_true rfl, Nat.le_of_ble_eq_true rfl⟩ hP hK hP (q0 := 0) rfl rfl rfl rfl (Nat.le_of_ble_eq_true rfl) ⟨Nat.zero_le _, Nat.zero_le _⟩ dX6_word_106 ?_
    refine ef_eqi (y := em_pk w (em_ct w k)) (em_wk_b (by omega) hn) ?_
    refine lv_istore (lv' := [(6, .int (em_pk w (em_ct w k))), (5, .int (w (em_ct w k))), (4, .int (nI (em_ct w k))), (3, .int (w (k + 1))), (2, .int (w k)), (0, .ref h0), (1, .int (nI (k + 1)))]) hx hb dX6_word_109 hl (Nat.le_of_ble_eq_true rfl) rfl (fun ls hl => ?_)
    refine lv_aload_n hx hb dX6_word_111 rfl (lv_at hl 5 rfl) ?_
    refine lv_iload_n hx hb dX6_word_112 rfl (lv_at hl 6 rfl) ?_
    refine er_V (own := RX6) (C := RX6) (b := h0) (rest := []) hx hb hml hown hts hl.1 (k_X6_after l D cI cZ cJ h0 gA wA pA fa n g w P (k + 1) (by omega) (by omega)) tw446 tw7 tw443 tw445 ts_X6_after yd_X6_after rfl rfl ⟨Nat.le_of_ble_eq_true rfl, Nat.le_of_ble_eq_true rfl⟩ hP hK hP (q0 := 0) rfl rfl rfl rfl (Nat.le_of_ble_eq_true rfl) ⟨Nat.zero_le _, Nat.zero_le _⟩ dX6_word_113 ?_
    refine lv_istore (lv' := [(7, .int (nI (em_af w (n - ((k + 1) + 1)) ((k + 1) + 1)))), (6, .int (em_pk w (em_ct w k))), (5, .int (w (em_ct w k))), (4, .int (nI (em_ct w k))), (3, .int (w (k + 1))), (2, .int (w k)), (0, .ref h0), (1, .int (nI (k + 1)))]) hx hb dX6_word_116 hl (Nat.le_of_ble_eq_true rfl) rfl (fun ls hl => ?_)
    refine lv_aload_n hx hb dX6_word_118 rfl (lv_at hl 6 rfl) ?_
    refine lv_iload hx hb dX6_word_119 (lv_at hl 0 rfl) ?_
    refine er_V (own := RX6) (C := RX6) (b := h0) (rest := []) hx hb hml hown hts hl.1 (k_X6_wordKind l D cI cZ cJ h0 gA wA pA fa n g w P (nI (em_af w (n - ((k + 1) + 1)) ((k + 1) + 1))) (by omega)) tw442 tw7 tw439 tw441 ts_X6_wordKind yd_X6_wordKind rfl rfl ⟨Nat.le_of_ble_eq_true rfl, Nat.le_of_ble_eq_true rfl⟩ hP hK hP (q0 := 0) rfl rfl rfl rfl (Nat.le_of_ble_eq_true rfl) ⟨Nat.zero_le _, Nat.zero_le _⟩ dX6_word_121 ?_
    refine ef_eqi (y := ew_ah w n (k + 1)) (em_wk_a hk hn) ?_
    refine lv_istore (lv' := [(8, .int (ew_ah w n (k + 1))), (7, .int (nI (em_af w (n - ((k + 1) + 1)) ((k + 1) + 1)))), (6, .int (em_pk w (em_ct w k))), (5, .int (w (em_ct w k))), (4, .int (nI (em_ct w k))), (3, .int (w (k + 1))), (2, .int (w k)), (0, .ref h0), (1, .int (nI (k + 1)))]) hx hb dX6_word_124 hl (Nat.le_of_ble_eq_true rfl) rfl (fun ls hl => ?_)
    exact L126 (w (k + 1)) (w (em_ct w k)) (em_pk w (em_ct w k)) (ew_ah w n (k + 1)) ls (lv_sub hl [0, 2, 3, 4, 5, 7] rfl) rfl (em_wd_t f28 f46 f47 f62 f74 f84)
  have L74 : ∀ (ls : Array Slot), lv_has ls 13 [(3, .int (w (k + 1))), (2, .int (w k)), (0, .ref h0), (1, .int (nI (k + 1)))] → (w k == 1 && w (k + 1) == 2) = false → ew_le (w k) = false → ew_le (w (k + 1)) = false → (w k == 5 && P (k + 1)) = false → (w k == 18 && w (k + 1) == 18) = false → W p l e ({ frames := 3, cells := 0, slots := 0, locals := 64 }) s m args below meth c s.heap [] 0 0 (MQ below (er_Q (.int (ef_b (em_wd (w k) (w (k + 1)) (w (em_ct w k)) (em_pk w (em_ct w k)) (ew_ah w n (k + 1)) (P (k + 1)) (ew_od w (k + 1)))))) args s 0 0 (fun _ => False)) (F0 m 74 ls []) := by
    intro ls hl f28 f46 f47 f62 f74
    refine lv_aload_n hx hb dX6_word_74 rfl (lv_at hl 2 rfl) ?_
    refine lv_iload_n hx hb dX6_word_75 rfl (lv_at hl 0 rfl) ?_
    refine er_V (own := RX6) (C := RX6) (b := h0) (rest := []) hx hb hml hown hts hl.1 (k_X6_passed l D cI cZ cJ h0 (w (k + 1))) tw430 tw7 tw427 tw429 ts_X6_passed yd_X6_passed rfl rfl ⟨Nat.le_of_ble_eq_true rfl, Nat.le_of_ble_eq_true rfl⟩ er_nil hK hP (q0 := 0) rfl rfl rfl rfl (Nat.le_of_ble_eq_true rfl) ⟨Nat.zero_le _, Nat.zero_le _⟩ dX6_word_76 ?_
    refine ef_if_eq (tgt := 84) hx hb dX6_word_79 (by decide) (fun h66 => ?_) (fun h66 => ?_)
    · skip
      exact L84  ls hl f28 f46 f47 f62 f74 (by simp [h66])
    · skip
      refine lv_iconst (v := 0) hx hb dX6_word_82 (by decide) ?_
      exact er_zret hx hb hr hlk (by simp [ef_b, em_wd, f28, f46, f47, f62, f74, h66] <;> decide) dX6_word_83
  have L62 : ∀ (ls : Array Slot), lv_has ls 13 [(3, .int (w (k + 1))), (2, .int (w k)), (0, .ref h0), (1, .int (nI (k + 1)))] → (w k == 1 && w (k + 1) == 2) = false → ew_le (w k) = false → ew_le (w (k + 1)) = false → (w k == 5 && P (k + 1)) = false → W p l e ({ frames := 3, cells := 0, slots := 0, locals := 64 }) s m args below meth c s.heap [] 0 0 (MQ below (er_Q (.int (ef_b (em_wd (w k) (w (k + 1)) (w (em_ct w k)) (em_pk w (em_ct w k)) (ew_ah w n (k + 1)) (P (k + 1)) (ew_od w (k + 1)))))) args s 0 0 (fun _ => False)) (F0 m 62 ls []) := by
    intro ls hl f28 f46 f47 f62
    refine lv_iload_n hx hb dX6_word_62 rfl (lv_at hl 1 rfl) ?_
    refine lv_bipush (v := 18) hx hb dX6_word_63 (by decide) ?_
    refine lv_icmp_ne (tgt := 74) hx hb dX6_word_65 (by decide) (fun h67 => ?_) (fun h67 => ?_)
    · skip
      exact L74  ls hl f28 f46 f47 f62 (by simp [h67])
    · skip
      refine lv_iload_n hx hb dX6_word_68 rfl (lv_at hl 0 rfl) ?_
      refine lv_bipush (v := 18) hx hb dX6_word_69 (by decide) ?_
      refine lv_icmp_eq (tgt := 82) hx hb dX6_word_71 (by decide) (fun h68 => ?_) (fun h68 => ?_)
      · skip
        refine lv_iconst (v := 0) hx hb dX6_word_82 (by decide) ?_
        exact er_zret hx hb hr hlk (by simp [ef_b, em_wd, f28, f46, f47, f62, h67, h68] <;> decide) dX6_word_83
      · skip
        exact L74  ls hl f28 f46 f47 f62 (by simp [h67, h68])
  have L46 : ∀ (ls : Array Slot), lv_has ls 13 [(3, .int (w (k + 1))), (2, .int (w k)), (0, .ref h0), (1, .int (nI (k + 1)))] → (w k == 1 && w (k + 1) == 2) = false → ew_le (w k) = false → ew_le (w (k + 1)) = false → W p l e ({ frames := 3, cells := 0, slots := 0, locals := 64 }) s m args below meth c s.heap [] 0 0 (MQ below (er_Q (.int (ef_b (em_wd (w k) (w (k + 1)) (w (em_ct w k)) (em_pk w (em_ct w k)) (ew_ah w n (k + 1)) (P (k + 1)) (ew_od w (k + 1)))))) args s 0 0 (fun _ => False)) (F0 m 46 ls []) := by
    intro ls hl f28 f46 f47
    refine lv_iload_n hx hb dX6_word_46 rfl (lv_at hl 1 rfl) ?_
    refine lv_iconst (v := 5) hx hb dX6_word_47 (by decide) ?_
    refine lv_icmp_ne (tgt := 62) hx hb dX6_word_48 (by decide) (fun h69 => ?_) (fun h69 => ?_)
    · skip
      exact L62  ls hl f28 f46 f47 (by simp [h69])
    · skip
      refine lv_aload_n hx hb dX6_word_51 rfl (lv_at hl 2 rfl) ?_
      refine va_get (D := D) (ci := 5) (v := .ref pA) (C := RX6) (T := TX6) (N := 5) hx hb hts (fun w h => List.mem_cons_of_mem _ (inX6 w h)) hown hK hP 0 rfl rfl 4 (by decide) (eT_h hts tw371) (fun _ h9 => h9) rfl dX6_word_52 ?_
      refine lv_iload_n hx hb dX6_word_55 rfl (lv_at hl 3 rfl) ?_
      refine va_zald hx hb hK hP 3 1 rfl rfl (vp_in_nI (by omega) (by decide)) dX6_word_56 ?_
      refine ef_eqi (y := ef_b (P (k + 1))) (by rw [nI_clamp (by omega)]) ?_
      refine ef_if_eq (tgt := 62) hx hb dX6_word_57 (by decide) (fun h70 => ?_) (fun h70 => ?_)
      · skip
        exact L62  ls hl f28 f46 f47 (by simp [h69, h70])
      · skip
        refine lv_iconst (v := 0) hx hb dX6_word_60 (by decide) ?_
        exact er_zret hx hb hr hlk (by simp [ef_b, em_wd, f28, f46, f47, h69, h70] <;> decide) dX6_word_61
  have L28 : ∀ (ls : Array Slot), lv_has ls 13 [(3, .int (w (k + 1))), (2, .int (w k)), (0, .ref h0), (1, .int (nI (k + 1)))] → (w k == 1 && w (k + 1) == 2) = false → W p l e ({ frames := 3, cells := 0, slots := 0, locals := 64 }) s m args below meth c s.heap [] 0 0 (MQ below (er_Q (.int (ef_b (em_wd (w k) (w (k + 1)) (w (em_ct w k)) (em_pk w (em_ct w k)) (ew_ah w n (k + 1)) (P (k + 1)) (ew_od w (k + 1)))))) args s 0 0 (fun _ => False)) (F0 m 28 ls []) := by
    intro ls hl f28
    refine lv_aload_n hx hb dX6_word_28 rfl (lv_at hl 2 rfl) ?_
    refine lv_iload_n hx hb dX6_word_29 rfl (lv_at hl 1 rfl) ?_
    refine er_V (own := RX6) (C := RX6) (b := h0) (rest := []) hx hb hml hown hts hl.1 (k_X6_breaks l D cI cZ cJ h0 (w k)) tw426 tw7 tw423 tw425 ts_X6_breaks yd_X6_breaks rfl rfl ⟨Nat.le_of_ble_eq_true rfl, Nat.le_of_ble_eq_true rfl⟩ er_nil hK hP (q0 := 0) rfl rfl rfl rfl (Nat.le_of_ble_eq_true rfl) ⟨Nat.zero_le _, Nat.zero_le _⟩ dX6_word_30 ?_
    refine ef_if_ne (tgt := 44) hx hb dX6_word_33 (by decide) (fun h71 => ?_) (fun h71 => ?_)
    · skip
      refine lv_iconst (v := 1) hx hb dX6_word_44 (by decide) ?_
      exact er_zret hx hb hr hlk (by simp [ef_b, em_wd, f28, h71] <;> decide) dX6_word_45
    · skip
      refine lv_aload_n hx hb dX6_word_36 rfl (lv_at hl 2 rfl) ?_
      refine lv_iload_n hx hb dX6_word_37 rfl (lv_at hl 0 rfl) ?_
      refine er_V (own := RX6) (C := RX6) (b := h0) (rest := []) hx hb hml hown hts hl.1 (k_X6_breaks l D cI cZ cJ h0 (w (k + 1))) tw426 tw7 tw423 tw425 ts_X6_breaks yd_X6_breaks rfl rfl ⟨Nat.le_of_ble_eq_true rfl, Nat.le_of_ble_eq_true rfl⟩ er_nil hK hP (q0 := 0) rfl rfl rfl rfl (Nat.le_of_ble_eq_true rfl) ⟨Nat.zero_le _, Nat.zero_le _⟩ dX6_word_38 ?_
      refine ef_if_eq (tgt := 46) hx hb dX6_word_41 (by decide) (fun h72 => ?_) (fun h72 => ?_)
      · skip
        exact L46  ls hl f28 (by simp [h71, h72]) (by simp [h71, h72])
      · skip
        refine lv_iconst (v := 1) hx hb dX6_word_44 (by decide) ?_
        exact er_zret hx hb hr hlk (by simp [ef_b, em_wd, f28, h71, h72] <;> decide) dX6_word_45
  refine lv_aload_n hx hb dX6_word_0 rfl (lv_at hl 0 rfl) ?_
  refine va_get (D := D) (ci := 5) (v := .ref wA) (C := RX6) (T := TX6) (N := 5) hx hb hts (fun w h => List.mem_cons_of_mem _ (inX6 w h)) hown hK hP 0 rfl rfl 3 (by decide) (eT_h hts tw370) (fun _ h9 => h9) rfl dX6_word_1 ?_
  refine lv_iload_n hx hb dX6_word_4 rfl (lv_at hl 1 rfl) ?_
  refine lv_iconst (v := 1) hx hb dX6_word_5 (by decide) ?_
  refine lv_isub hx hb dX6_word_6 ?_
  refine ef_eqi (y := nI k) (nI_pred k) ?_
  refine va_iald hx hb hK hP 2 0 rfl rfl (vp_in_nI (by omega) (by decide)) dX6_word_7 ?_
  refine ef_eqi (y := w k) (by rw [nI_clamp (by omega)]) ?_
  refine lv_istore_n (lv' := [(2, .int (w k)), (0, .ref h0), (1, .int (nI (k + 1)))]) hx hb dX6_word_8 rfl hl (Nat.le_of_ble_eq_true rfl) rfl (fun ls hl => ?_)
  refine lv_aload_n hx hb dX6_word_9 rfl (lv_at hl 1 rfl) ?_
  refine va_get (D := D) (ci := 5) (v := .ref wA) (C := RX6) (T := TX6) (N := 5) hx hb hts (fun w h => List.mem_cons_of_mem _ (inX6 w h)) hown hK hP 0 rfl rfl 3 (by decide) (eT_h hts tw370) (fun _ h9 => h9) rfl dX6_word_10 ?_
  refine lv_iload_n hx hb dX6_word_13 rfl (lv_at hl 2 rfl) ?_
  refine va_iald hx hb hK hP 2 0 rfl rfl (vp_in_nI (by omega) (by decide)) dX6_word_14 ?_
  refine ef_eqi (y := w (k + 1)) (by rw [nI_clamp (by omega)]) ?_
  refine lv_istore_n (lv' := [(3, .int (w (k + 1))), (2, .int (w k)), (0, .ref h0), (1, .int (nI (k + 1)))]) hx hb dX6_word_15 rfl hl (Nat.le_of_ble_eq_true rfl) rfl (fun ls hl => ?_)
  refine lv_iload_n hx hb dX6_word_16 rfl (lv_at hl 1 rfl) ?_
  refine lv_iconst (v := 1) hx hb dX6_word_17 (by decide) ?_
  refine lv_icmp_ne (tgt := 28) hx hb dX6_word_18 (by decide) (fun h73 => ?_) (fun h73 => ?_)
  · skip
    exact L28  ls hl (by simp [h73])
  · skip
    refine lv_iload_n hx hb dX6_word_21 rfl (lv_at hl 0 rfl) ?_
    refine lv_iconst (v := 2) hx hb dX6_word_22 (by decide) ?_
    refine lv_icmp_ne (tgt := 28) hx hb dX6_word_23 (by decide) (fun h74 => ?_) (fun h74 => ?_)
    · skip
      exact L28  ls hl (by simp [h73, h74])
    · skip
      refine lv_iconst (v := 0) hx hb dX6_word_26 (by decide) ?_
      exact er_zret hx hb hr hlk (by simp [ef_b, em_wd, h73, h74] <;> decide) dX6_word_27
end
section
theorem eb_k_g {kd : Int32} {g w : Nat → Int32} {P : Nat → Bool} {n k : Nat} (hk : kd = 0) (h0 : ¬ n = 0) (hn : ¬ k + 1 = n) : eb_k kd g w P n (k + 1) = em_cl (g k) (g (k + 1)) (P (k + 1)) (eg_od g (k + 1)) (eg_ap g P k) := by
  rw [← em_cluster]
  simp [eb_k, eb_g, hk, h0, hn]
theorem eb_k_w {kd : Int32} {g w : Nat → Int32} {P : Nat → Bool} {n k : Nat} (hw : ∀ j, w j ≠ -1) (hk : ¬ kd = 0) (h0 : ¬ n = 0) (hn : ¬ k + 1 = n) : eb_k kd g w P n (k + 1) = em_wd (w k) (w (k + 1)) (w (em_ct w k)) (em_pk w (em_ct w k)) (ew_ah w n (k + 1)) (P (k + 1)) (ew_od w (k + 1)) := by
  rw [← em_word hw]
  simp [eb_k, eb_w, hk, h0, hn]
theorem eb_k_0 {kd : Int32} {g w : Nat → Int32} {P : Nat → Bool} {n i : Nat} (h0 : n = 0) : eb_k kd g w P n i = false := by
  unfold eb_k
  split <;> simp [eb_g, eb_w, h0]
theorem eb_k_1 {kd : Int32} {g w : Nat → Int32} {P : Nat → Bool} {n i : Nat} (h0 : ¬ n = 0) (h : i = 0 ∨ i = n) : eb_k kd g w P n i = true := by
  unfold eb_k
  split <;> simp [eb_g, eb_w, h0, h]

set_option maxHeartbeats 4000000 in
set_option maxRecDepth 100000 in
theorem k_X6_boundary (l : Launch) (D : va_G) (cI cZ cJ : ClassId) (h0 gA wA pA : Nat) (fa : Int32) (n : Nat) (g w : Nat → Int32) (P : Nat → Bool) (kd : Int32) (i : Nat) (hn : n ≤ 1000) (hi : i ≤ n) (hw : ∀ j, w j ≠ -1) : er_M l yX6_boundary (Cond.code yX6_boundary cX6_boundary 3 (some .boolean) :: eT) ({ frames := 4, cells := 0, slots := 0, locals := 96 }) D vwCl (eTy cI cZ cJ) [.ref h0, .int kd, .int (nI i)] [(h0, .inr (5, [.int fa, .int (nI n), .ref gA, .ref wA, .ref pA])), (gA, .inl (cI, 1000, .inl g)), (wA, .inl (cI, 1000, .inl w)), (pA, .inl (cZ, 1000, .inl (fun j => ef_b (P j))))] (.int (ef_b (eb_k kd g w P n i))) := by
  refine er_of (cc := cX6_boundary) (maxL := 3) (ret := (some .boolean)) (by decide) rfl (Nat.le_of_ble_eq_true rfl) ?_
  intro p e s m args below meth c ls hx hb hr hts hown hlk hml hP hK hl
  have hown : s.vm.findClass RX6 = some m.cls := hown
  have hl : lv_has ls 3 [(0, .ref h0), (1, .int kd), (2, .int (nI i))] := hl
  refine lv_aload_n hx hb dX6_boundary_0 rfl (lv_at hl 0 rfl) ?_
  refine va_get (D := D) (ci := 5) (v := .int (nI n)) (C := RX6) (T := TX6) (N := 5) hx hb hts (fun w h => List.mem_cons_of_mem _ (inX6 w h)) hown hK hP 0 rfl rfl 1 (by decide) (eT_h hts tw368) (fun _ h9 => h9) rfl dX6_boundary_1 ?_
  refine lv_if_ne (tgt := 9) hx hb dX6_boundary_4 (by decide) (fun h1 => ?_) (fun h1 => ?_)
  · skip
    have h1 : ¬ (n = 0) := fun q9 => h1 ((nI_eq (a := n) (b := 0) (by omega) (by omega)).mpr q9)
    refine lv_iload_n hx hb dX6_boundary_9 rfl (lv_at hl 2 rfl) ?_
    refine lv_if_eq (tgt := 21) hx hb dX6_boundary_10 (by decide) (fun h2 => ?_) (fun h2 => ?_)
    · skip
      have h2 : i = 0 := (nI_eq (a := i) (b := 0) (by omega) (by omega)).mp h2
      refine lv_iconst (v := 1) hx hb dX6_boundary_21 (by decide) ?_
      exact er_zret hx hb hr hlk (by rw [eb_k_1 h1 (by omega)]; rfl) dX6_boundary_22
    · skip
      have h2 : ¬ (i = 0) := fun q9 => h2 ((nI_eq (a := i) (b := 0) (by omega) (by omega)).mpr q9)
      refine lv_iload_n hx hb dX6_boundary_13 rfl (lv_at hl 2 rfl) ?_
      refine lv_aload_n hx hb dX6_boundary_14 rfl (lv_at hl 0 rfl) ?_
      refine va_get (D := D) (ci := 5) (v := .int (nI n)) (C := RX6) (T := TX6) (N := 5) hx hb hts (fun w h => List.mem_cons_of_mem _ (inX6 w h)) hown hK hP 0 rfl rfl 1 (by decide) (eT_h hts tw368) (fun _ h9 => h9) rfl dX6_boundary_15 ?_
      refine lv_icmp_ne (tgt := 23) hx hb dX6_boundary_18 (by decide) (fun h3 => ?_) (fun h3 => ?_)
      · skip
        have h3 : ¬ (i = n) := fun q9 => h3 ((nI_eq (a := i) (b := n) (by omega) (by omega)).mpr q9)
        obtain ⟨k, rfl⟩ : ∃ k, i = k + 1 := ⟨i - 1, by omega⟩
        refine lv_iload_n hx hb dX6_boundary_23 rfl (lv_at hl 1 rfl) ?_
        refine lv_if_ne (tgt := 35) hx hb dX6_boundary_24 (by decide) (fun h4 => ?_) (fun h4 => ?_)
        · skip
          refine lv_aload_n hx hb dX6_boundary_35 rfl (lv_at hl 0 rfl) ?_
          refine lv_iload_n hx hb dX6_boundary_36 rfl (lv_at hl 2 rfl) ?_
          refine er_V (own := RX6) (C := RX6) (b := h0) (rest := []) hx hb hml hown hts hl.1 (k_X6_word l D cI cZ cJ h0 gA wA pA fa n g w P k hn (by omega) hw) tw422 tw7 tw419 tw421 ts_X6_word yd_X6_word rfl rfl ⟨Nat.le_of_ble_eq_true rfl, Nat.le_of_ble_eq_true rfl⟩ hP hK hP (q0 := 0) rfl rfl rfl rfl (Nat.le_of_ble_eq_true rfl) ⟨Nat.zero_le _, Nat.zero_le _⟩ dX6_boundary_37 ?_
          exact er_zret hx hb hr hlk (by rw [eb_k_w hw h4 h1 (by omega)]) dX6_boundary_40
        · skip
          refine lv_aload_n hx hb dX6_boundary_27 rfl (lv_at hl 0 rfl) ?_
          refine lv_iload_n hx hb dX6_boundary_28 rfl (lv_at hl 2 rfl) ?_
          refine er_V (own := RX6) (C := RX6) (b := h0) (rest := []) hx hb hml hown hts hl.1 (k_X6_cluster l D cI cZ cJ h0 gA wA pA fa n g w P k (by omega)) tw418 tw7 tw415 tw417 ts_X6_cluster yd_X6_cluster rfl rfl ⟨Nat.le_of_ble_eq_true rfl, Nat.le_of_ble_eq_true rfl⟩ hP hK hP (q0 := 0) rfl rfl rfl rfl (Nat.le_of_ble_eq_true rfl) ⟨Nat.zero_le _, Nat.zero_le _⟩ dX6_boundary_29 ?_
          refine lv_goto (tgt := 40) hx hb dX6_boundary_32 (by decide) ?_
          exact er_zret hx hb hr hlk (by rw [eb_k_g h4 h1 (by omega)]) dX6_boundary_40
      · skip
        have h3 : i = n := (nI_eq (a := i) (b := n) (by omega) (by omega)).mp h3
        refine lv_iconst (v := 1) hx hb dX6_boundary_21 (by decide) ?_
        exact er_zret hx hb hr hlk (by rw [eb_k_1 h1 (by omega)]; rfl) dX6_boundary_22
  · skip
    have h1 : n = 0 := (nI_eq (a := n) (b := 0) (by omega) (by omega)).mp h1
    refine lv_iconst (v := 0) hx hb dX6_boundary_7 (by decide) ?_
    exact er_zret hx hb hr hlk (by rw [eb_k_0 h1]; rfl) dX6_boundary_8
end
section
/-! The one world: all cells of the class, of the reference, and the law's own array; contracts over it (ec_). -/
abbrev cw (ad : Nat → Nat) (cI cZ cJ : ClassId) (n : Nat) (g w : Nat → Int32) (P gm wm : Nat → Bool) (gs wz : Bool) (gb : Int32) (go gp gj : Bool) (wb wl wk : Int32) (wo : Bool) (fa : Int32) (mn : Nat) (mg mw : Nat → Int32) (mP : Nat → Bool) (o : Nat → Int64) : va_W :=
  [(ad 0, .inr (4, [.ref (ad 1), .ref (ad 2), .ref (ad 3)])), (ad 1, .inr (2, [.ref (ad 4), .ref (ad 5), .ref (ad 6), .int (nI n)])), (ad 2, .inr (0, [.ref (ad 7), .int (ef_b gs), .ref (ad 9)])), (ad 3, .inr (0, [.ref (ad 8), .int (ef_b wz), .ref (ad 10)])),
   (ad 4, .inl (cI, 1000, .inl g)), (ad 5, .inl (cI, 1000, .inl w)), (ad 6, .inl (cZ, 1000, .inl (fun j => ef_b (P j)))), (ad 7, .inl (cZ, 1001, .inl (fun j => ef_b (gm j)))), (ad 8, .inl (cZ, 1001, .inl (fun j => ef_b (wm j)))),
   (ad 9, .inr (1, [.int gb, .int (ef_b go), .int (ef_b gp), .int (ef_b gj)])), (ad 10, .inr (3, [.int wb, .int wl, .int wk, .int (ef_b wo)])),
   (ad 11, .inr (5, [.int fa, .int (nI mn), .ref (ad 12), .ref (ad 13), .ref (ad 14)])), (ad 12, .inl (cI, 1000, .inl mg)), (ad 13, .inl (cI, 1000, .inl mw)), (ad 14, .inl (cZ, 1000, .inl (fun j => ef_b (mP j)))), (ad 15, .inl (cJ, 1, .inr (.inl o)))]
def eA (ad : Nat → Nat) : Nat → Prop := fun q => ∃ k, k < 16 ∧ q = ad k
def eJ (ad : Nat → Nat) : Prop := ∀ i j, i < 16 → j < 16 → ad i = ad j → i = j
theorem eD_of {ad : Nat → Nat} (h : eJ ad) {ws : va_W} (hm : ws.map (·.1) = (List.range 16).map ad) : va_D (eA ad) ws := by
  have key : ∀ (k : Nat) (q : Nat × va_E), ws[k]? = some q → k < 16 ∧ q.1 = ad k := by
    intro k q hk
    have h1 : (ws.map (·.1))[k]? = some q.1 := by rw [List.getElem?_map, hk]; rfl
    rw [hm, List.getElem?_map] at h1
    by_cases hk16 : k < 16
    · rw [List.getElem?_range hk16] at h1
      exact ⟨hk16, (Option.some.inj h1).symm⟩
    · rw [List.getElem?_eq_none (by simp; omega)] at h1
      cases h1
  refine ⟨fun i j x y hi hj hxy => ?_, fun k q hk => ⟨k, (key k q hk).1, (key k q hk).2⟩⟩
  obtain ⟨a1, a2⟩ := key i x hi
  obtain ⟨b1, b2⟩ := key j y hj
  exact h i j a1 b1 (by rw [← a2, ← b2, hxy])
/-- what the tables say of the abstract methods -/
def eN (U : State) : Prop := va_Nw (.declares ⟨"EdgeFinder$Rules", "begin", "()V"⟩) U ∧ va_Nw (.declares ⟨"EdgeFinder$Rules", "part", "(LEdgeFinder$Row;I)Z"⟩) U ∧ va_Nw (.declares ⟨"EdgeFinder$Rules", "pass", "(LEdgeFinder$Row;I)V"⟩) U
theorem eN_warm {s U : State} (hW : s.WarmedH U.vm) (h : eN s) : eN U := ⟨va_Nw.warmD hW h.1, va_Nw.warmD hW h.2.1, va_Nw.warmD hW h.2.2⟩
def ec_Q (D : va_G) (F : Option Value → va_W → Prop) (A : Nat → Prop) : Array Value → State → Outcome → State → Prop := fun _ st oc t => (∃ (v : Option Value) (W1 : va_W), oc = .returned v ∧ F v W1 ∧ va_P D vwCl W1 t.heap) ∧ va_F A st t
def ed (v : Option Value) (W1 : va_W) : Option Value → va_W → Prop := fun v' W' => v' = v ∧ W' = W1
def ec_P (D : va_G) (tys : List (ClassId × FieldType)) (av : List Value) (W0 : va_W) : Array Value → State → Prop := va_Pc av (fun U => va_P D vwCl W0 U.heap ∧ va_K D vwCl tys U ∧ eN U)
def ec_M (l : Launch) (y : MethodName) (ws : List Cond) (rm : Room) (D : va_G) (tys : List (ClassId × FieldType)) (av : List Value) (W0 : va_W) (F : Option Value → va_W → Prop) (A : Nat → Prop) : Prop := Met l y ws rm (ec_P D tys av W0) (ec_Q D F A) 0 0 A
section ECA
variable {p : Program} {l : Launch} {e : Env} {R : Room} {s : State} {m : MethodId} {args : Array Value} {below : List Frame} {meth : Method} {c : Code} {H : Heap} {locs : List Loc} {cells slots : Nat} {Q : State → Prop}
variable {cc : ByteArray} {pc : Nat} {ls : Array Slot} {rest st0 : List Value} {D : va_G} {tys : List (ClassId × FieldType)} {A A0 A1 : Nat → Prop} {H0 : Heap} {F : Option Value → va_W → Prop} {W0 W1 : va_W}
theorem ec_blind {av : List Value} : FrameBlind (ec_P D tys av W0) := by
  intro a U g mk q
  obtain ⟨q0, qP, qK, qN⟩ := q
  exact ⟨q0, qP, va_K.moved (u := U) (U := U.calling g mk a) (Vm.Alike.refl U.vm) qK, eN_warm (s := U) (U := U.calling g mk a) (State.WarmedH.refl U) qN⟩
theorem ec_pre {av : List Value} (hP : va_P D vwCl W0 H) (hK : va_K D vwCl tys s) (hN : eN s) : PreS s H (ec_P D tys av W0) av :=
  ⟨ec_blind, fun U hU hW => ⟨rfl, by rw [hU]; exact hP, va_K.moved hW.alike hK, eN_warm hW hN⟩⟩
theorem ec_of {y : MethodName} {ws ws' : List Cond} {rm : Room} {maxL : Nat} {ret : Option FieldType} {av : List Value} (hy : plainName y.cls = true) (hw : ws = Cond.code y cc maxL ret :: ws') (hlen : (lg_sl av).length ≤ maxL)
    (body : ∀ (p : Program) (e : Env) (s : State) (m : MethodId) (args : Array Value) (below : List Frame) (meth : Method) (c : Code) (ls : Array Slot), p.tables.exec = Jvm.exec → c.code = cc → meth.sig.returnType = ret → (∀ w ∈ ws, w.before args s = true) → s.vm.findClass y.cls = some m.cls → meth.locks = false → c.maxLocals = maxL → va_P D vwCl W0 s.heap → va_K D vwCl tys s → eN s → lv_has ls maxL (lv_args 0 av) →
      W p l e rm s m args below meth c s.heap [] 0 0 (MQ below (ec_Q D F A) args s 0 0 A) (F0 m 0 ls [])) : ec_M l y ws rm D tys av W0 F A := by
  refine Met.ofW (cc := cc) (maxL := maxL) (ret := ret) hy hw ?_
  intro p e s m args below meth c s₁ B hml hv
  obtain ⟨rfl, hP, hK, hN⟩ := hv
  have hl := lv_entry av (n := maxL) hlen
  rw [lg_entry_eq]
  exact body p e s m _ below meth c _ B.exec B.bytes B.returns (atoms_spec (ws := ws) B.pre) (findClass_of_methodNamed B.named) B.notSynchronized hml hP hK hN hl
theorem ec_vret (hexec : p.tables.exec = Jvm.exec) (hb : c.code = cc) (hr : meth.sig.returnType = none) (hlocks : meth.locks = false) (hP : va_P D vwCl W1 H) (hS : va_S A s.heap H locs) (hF : F none W1) (hdg : decode cc pc = .ok (.return_, 1)) :
    W p l e R s m args below meth c H locs 0 0 (MQ below (ec_Q D F A) args s 0 0 A) (F0 m pc ls []) :=
  W.vret hexec hb hr (fun t ht _ => ⟨⟨none, W1, rfl, hF, by rw [ht]; exact hP⟩, hS.F ht⟩) hS.2.2 hdg hlocks
theorem ec_iret {v : Int32} (hexec : p.tables.exec = Jvm.exec) (hb : c.code = cc) (hr : meth.sig.returnType = some .int) (hlocks : meth.locks = false) (hP : va_P D vwCl W1 H) (hS : va_S A s.heap H locs) (hF : F (some (.int v)) W1) (hdg : decode cc pc = .ok (.ireturn, 1)) :
    W p l e R s m args below meth c H locs 0 0 (MQ below (ec_Q D F A) args s 0 0 A) (F0 m pc ls [.int v]) :=
  W.iret hexec hb hr (fun t ht _ => ⟨⟨_, W1, rfl, hF, by rw [ht]; exact hP⟩, hS.F ht⟩) hS.2.2 hdg hlocks
theorem ec_zret {b : Bool} (hexec : p.tables.exec = Jvm.exec) (hb : c.code = cc) (hr : meth.sig.returnType = some .boolean) (hlocks : meth.locks = false) (hP : va_P D vwCl W1 H) (hS : va_S A s.heap H locs) (hF : F (some (.int (ef_b b))) W1) (hdg : decode cc pc = .ok (.ireturn, 1)) :
    W p l e R s m args below meth c H locs 0 0 (MQ below (ec_Q D F A) args s 0 0 A) (F0 m pc ls [.int (ef_b b)]) :=
  W.zret hexec hb hr (ef_nar b) (fun t ht _ => ⟨⟨_, W1, rfl, hF, by rw [ht]; exact hP⟩, hS.F ht⟩) hS.2.2 hdg hlocks
theorem ec_aret {a : Nat} {C : String} (hexec : p.tables.exec = Jvm.exec) (hb : c.code = cc) (hr : meth.sig.returnType = some (.object C)) (hlocks : meth.locks = false) (hP : va_P D vwCl W1 H) (hS : va_S A s.heap H locs) (hF : F (some (.ref a)) W1) (hdg : decode cc pc = .ok (.areturn, 1)) :
    W p l e R s m args below meth c H locs 0 0 (MQ below (ec_Q D F A) args s 0 0 A) (F0 m pc ls [.ref a]) :=
  W.aret hexec hb hr (Or.inl ⟨_, rfl⟩) (Or.inr ⟨_, rfl⟩) (fun t ht _ => ⟨⟨_, W1, rfl, hF, by rw [ht]; exact hP⟩, hS.F ht⟩) hS.2.2 hdg hlocks
theorem ec_call {a : Array Value} (hr : va_Run p l e R s m args below meth c H locs cells slots 0 0 (F0 m pc ls st0) rest (ec_Q D F A1 a) A1) (hS : va_S A0 H0 H locs) (hA : ∀ q, A1 q → A0 q)
    (kk : ∀ (v : Option Value) (W1 : va_W) (H1 : Heap) (locs1 : List Loc), F v W1 → va_P D vwCl W1 H1 → va_S A0 H0 H1 locs1 → H.size ≤ H1.size → (∀ q : Nat, q < H.size → ¬ A1 q → H1[q]? = H[q]?) → W p l e R s m args below meth c H1 locs1 cells slots Q (F0 m (pc + 3) ls (v.toList ++ rest))) : W p l e R s m args below meth c H locs cells slots Q (F0 m pc ls st0) := by
  intro T hT X
  obtain ⟨v, st₀, t, T', L, h0, X', hL, e1, e2, ⟨⟨v', W1, hv, hF, hP⟩, hz, hk⟩, st⟩ := hr T hT X
  cases hv
  rw [h0] at hz hk
  obtain ⟨t2, a1, b1⟩ := kk v W1 T'.heap (locs ++ L) hF (by rw [e1]; exact hP)
    ⟨Nat.le_trans hS.1 (by rw [e1]; exact hz), fun q h1 h2 => by rw [e1, hk q (Nat.lt_of_lt_of_le h1 hS.1) (fun z => h2 (hA q z))]; exact hS.2.1 q h1 h2, fun q hq => by
      rcases List.mem_append.mp hq with h | h
      · exact hS.2.2 q h
      · exact hA _ (hL q h)⟩ (by rw [e1]; exact hz) (fun q h1 h2 => by rw [e1]; exact hk q h1 h2) T' rfl X'
  exact ⟨t2, st t2 a1, b1⟩
end ECA
theorem eT_U {c0 : Cond} {own C : String} {index : Nat} {x y : MethodName} {bytes : ByteArray} {maxL : Nat} {ret : Option FieldType} (h1 : Cond.methodLink own index x ∈ eT) (h2 : Cond.sameMethod x.cls x.cls x.name x.desc ∈ eT) (h3 : Cond.selects C x y ∈ eT) (h4 : Cond.instanceMethod y ∈ eT) (h5 : Cond.initialized y.cls ∈ eT) (hc : Cond.code y bytes maxL ret ∈ eT) :
    GoodIn (c0 :: eT) (va_wsU own index C x.cls x y (Cond.code y bytes maxL ret :: eT)) := by
  have g : ∀ {w : Cond}, w ∈ eT → w ∈ c0 :: eT ∧ ((w.onTables && w.keeps) = true ∨ ∃ ty, w = .arrayClass ty) := fun h => ⟨List.mem_cons_of_mem _ h, good_of_word (eT_g h)⟩
  intro w hw
  rcases List.mem_append.mp hw with h | h
  · simp only [List.mem_cons, List.not_mem_nil, or_false] at h
    rcases h with rfl | rfl | rfl | rfl | rfl
    · exact g h1
    · exact g h2
    · exact g h3
    · exact g h4
    · exact g h5
  · exact eT_good hc w h
section ECB
variable {p : Program} {l : Launch} {e : Env} {R : Room} {s : State} {m : MethodId} {args : Array Value} {below : List Frame} {meth : Method} {c : Code} {H : Heap} {locs : List Loc} {cells slots : Nat} {Q : State → Prop}
variable {cc : ByteArray} {pc : Nat} {ls : Array Slot} {rest : List Value} {D : va_G} {tys : List (ClassId × FieldType)} {A0 A1 : Nat → Prop} {H0 : Heap} {F : Option Value → va_W → Prop}
variable {c0 : Cond} {own : String} {index nL n maxL : Nat} {y : MethodName} {bytes : ByteArray} {ret : Option FieldType} {rm : Room} {av : List Value} {W0 : va_W} {v : Value}
/-- a call on an object, over the one world -/
theorem ec_V {Wr : va_W} {b : Addr} {C : String} {q0 ci : Nat} {T : u_T} {N : Nat} {fs : List Value} (hexec : p.tables.exec = Jvm.exec) (hb : c.code = cc) (hml : c.maxLocals = nL) (hown : s.vm.findClass own = some m.cls) (hts : ∀ w ∈ c0 :: eT, w.before args s = true) (hsz : ls.size = nL)
    (hM : ec_M l y (Cond.code y bytes maxL ret :: eT) rm D tys (.ref b :: av) W0 F A1) (hc : Cond.code y bytes maxL ret ∈ eT) (hini : Cond.initialized y.cls ∈ eT) (hl : Cond.methodLink own index y ∈ eT) (hst : Cond.instanceMethod y ∈ eT) (hse : Cond.selects C y y ∈ eT)
    (hd : y.cls ≠ "java/lang/invoke/MethodHandle" ∧ y.cls ≠ "java/lang/invoke/VarHandle" ∧ (parseMethodDescriptor y.desc).map (fun d => d.parameters.length) = some n) (hrc : rm.cells = 0) (hrs : rm.slots = 0) (hR : rm.frames + 1 ≤ R.frames ∧ 8 + (maxL + 11) + rm.locals ≤ R.locals)
    (hP : va_P D vwCl W0 H) (hK : va_K D vwCl tys s) (hN : eN s) (hPr : va_P D vwCl Wr H) (he : Wr[q0]? = some (b, .inr (ci, fs))) (hcl0 : vwCl[ci]? = some (C, T, N)) (hn : av.length = n) {st0 : List Value} (hstk : st0 = av.reverse ++ .ref b :: rest) (hroom : (rest.map fun v => v.category).sum ≤ 8) (hcl : cells ≤ R.cells ∧ slots ≤ R.slots) (hS : va_S A0 H0 H locs) (hA : ∀ q, A1 q → A0 q) (hdg : decode cc pc = .ok (.invokevirtual index, 3))
    (kk : ∀ (v : Option Value) (W1 : va_W) (H1 : Heap) (locs1 : List Loc), F v W1 → va_P D vwCl W1 H1 → va_S A0 H0 H1 locs1 → H.size ≤ H1.size → (∀ q : Nat, q < H.size → ¬ A1 q → H1[q]? = H[q]?) → W p l e R s m args below meth c H1 locs1 cells slots Q (F0 m (pc + 3) ls (v.toList ++ rest))) : W p l e R s m args below meth c H locs cells slots Q (F0 m pc ls st0) :=
  ec_call (va_runV (nL := nL) (C := C) (b := b) (As := av) (rest := rest) ⟨hexec, hb, hml, hown, hts⟩ hM ⟨eT_B hts hc hini hl hd hrc hrs hR, eT_h hts hst, eT_h hts hse⟩
    ⟨ec_blind, va_recv hK hPr hcl0 he, (ec_pre (av := .ref b :: av) hP hK hN).2⟩ rfl hn hsz hstk (lv_room hroom) hdg hcl) hS hA kk
/-- the same by an abstract method's name -/
theorem ec_U {x : MethodName} {Wr : va_W} {b : Addr} {C : String} {q0 ci : Nat} {T : u_T} {N : Nat} {fs : List Value} (hexec : p.tables.exec = Jvm.exec) (hb : c.code = cc) (hml : c.maxLocals = nL) (hown : s.vm.findClass own = some m.cls) (hts : ∀ w ∈ c0 :: eT, w.before args s = true) (hsz : ls.size = nL)
    (hM : ec_M l y (Cond.code y bytes maxL ret :: eT) rm D tys (.ref b :: av) W0 F A1) (hT : GoodIn (c0 :: eT) (va_wsU own index C x.cls x y (Cond.code y bytes maxL ret :: eT))) (hz : va_Nw (.declares ⟨x.cls, x.name, x.desc⟩) s)
    (hd : x.cls ≠ "java/lang/invoke/MethodHandle" ∧ x.cls ≠ "java/lang/invoke/VarHandle" ∧ (parseMethodDescriptor x.desc).map (fun d => d.parameters.length) = some n) (hrc : rm.cells = 0) (hrs : rm.slots = 0) (hR : rm.frames + 1 ≤ R.frames ∧ 8 + (maxL + 11) + rm.locals ≤ R.locals)
    (hP : va_P D vwCl W0 H) (hK : va_K D vwCl tys s) (hN : eN s) (hPr : va_P D vwCl Wr H) (he : Wr[q0]? = some (b, .inr (ci, fs))) (hcl0 : vwCl[ci]? = some (C, T, N)) (hn : av.length = n) {st0 : List Value} (hstk : st0 = av.reverse ++ .ref b :: rest) (hroom : (rest.map fun v => v.category).sum ≤ 8) (hcl : cells ≤ R.cells ∧ slots ≤ R.slots) (hS : va_S A0 H0 H locs) (hA : ∀ q, A1 q → A0 q) (hdg : decode cc pc = .ok (.invokevirtual index, 3))
    (kk : ∀ (v : Option Value) (W1 : va_W) (H1 : Heap) (locs1 : List Loc), F v W1 → va_P D vwCl W1 H1 → va_S A0 H0 H1 locs1 → H.size ≤ H1.size → (∀ q : Nat, q < H.size → ¬ A1 q → H1[q]? = H[q]?) → W p l e R s m args below meth c H1 locs1 cells slots Q (F0 m (pc + 3) ls (v.toList ++ rest))) : W p l e R s m args below meth c H locs cells slots Q (F0 m pc ls st0) :=
  ec_call (va_runU (nL := nL) (C := C) (owner := x.cls) (b := b) (As := av) (rest := rest) ⟨hexec, hb, hml, hown, hts⟩ hM (va_cwA n hts hT rfl hrc hrs hz hd hR)
    ⟨ec_blind, va_recv hK hPr hcl0 he, (ec_pre (av := .ref b :: av) hP hK hN).2⟩ rfl hn hsz hstk (lv_room hroom) hdg hcl) hS hA kk
/-- a read by an abstract method's name -/
theorem er_U {x : MethodName} {Wr : va_W} {b : Addr} {C : String} {q0 ci : Nat} {T : u_T} {N : Nat} {fs : List Value} (hexec : p.tables.exec = Jvm.exec) (hb : c.code = cc) (hml : c.maxLocals = nL) (hown : s.vm.findClass own = some m.cls) (hts : ∀ w ∈ c0 :: eT, w.before args s = true) (hsz : ls.size = nL)
    (hM : er_M l y (Cond.code y bytes maxL ret :: eT) rm D vwCl tys (.ref b :: av) W0 v) (hT : GoodIn (c0 :: eT) (va_wsU own index C x.cls x y (Cond.code y bytes maxL ret :: eT))) (hz : va_Nw (.declares ⟨x.cls, x.name, x.desc⟩) s)
    (hd : x.cls ≠ "java/lang/invoke/MethodHandle" ∧ x.cls ≠ "java/lang/invoke/VarHandle" ∧ (parseMethodDescriptor x.desc).map (fun d => d.parameters.length) = some n) (hrc : rm.cells = 0) (hrs : rm.slots = 0) (hR : rm.frames + 1 ≤ R.frames ∧ 8 + (maxL + 11) + rm.locals ≤ R.locals)
    (hP : va_P D vwCl W0 H) (hK : va_K D vwCl tys s) (hPr : va_P D vwCl Wr H) (he : Wr[q0]? = some (b, .inr (ci, fs))) (hcl0 : vwCl[ci]? = some (C, T, N)) (hn : av.length = n) {st0 : List Value} (hstk : st0 = av.reverse ++ .ref b :: rest) (hroom : (rest.map fun v => v.category).sum ≤ 8) (hcl : cells ≤ R.cells ∧ slots ≤ R.slots) (hdg : decode cc pc = .ok (.invokevirtual index, 3))
    (kk : W p l e R s m args below meth c H locs cells slots Q (F0 m (pc + 3) ls (v :: rest))) : W p l e R s m args below meth c H locs cells slots Q (F0 m pc ls st0) :=
  er_call (va_runU (nL := nL) (C := C) (owner := x.cls) (b := b) (As := av) (rest := rest) ⟨hexec, hb, hml, hown, hts⟩ hM (va_cwA n hts hT rfl hrc hrs hz hd hR)
    ⟨er_blind, va_recv hK hPr hcl0 he, (er_pre (av := .ref b :: av) hP hK).2⟩ rfl hn hsz hstk (lv_room hroom) hdg hcl) kk
end ECB
end
section
/-! Reads that answer nothing (a check that passes). -/
def er_Qv : Array Value → State → Outcome → State → Prop := fun _ st o t => o = .returned none ∧ t.heap = st.heap
def er_Mv (l : Launch) (y : MethodName) (ws : List Cond) (rm : Room) (D : va_G) (cl : List vw_C) (tys : List (ClassId × FieldType)) (av : List Value) (W0 : va_W) : Prop := Met l y ws rm (er_P D cl tys av W0) er_Qv 0 0 (fun _ => False)
section EVA
variable {p : Program} {l : Launch} {e : Env} {R : Room} {s : State} {m : MethodId} {args : Array Value} {below : List Frame} {meth : Method} {c : Code} {H : Heap} {locs : List Loc} {cells slots : Nat} {Q : State → Prop}
variable {cc : ByteArray} {pc : Nat} {ls : Array Slot} {rest st0 : List Value} {D : va_G} {cl : List vw_C} {tys : List (ClassId × FieldType)}
theorem er_ofv {y : MethodName} {ws ws' : List Cond} {rm : Room} {maxL : Nat} {ret : Option FieldType} {av : List Value} {W0 : va_W} (hy : plainName y.cls = true) (hw : ws = Cond.code y cc maxL ret :: ws') (hlen : (lg_sl av).length ≤ maxL)
    (body : ∀ (p : Program) (e : Env) (s : State) (m : MethodId) (args : Array Value) (below : List Frame) (meth : Method) (c : Code) (ls : Array Slot), p.tables.exec = Jvm.exec → c.code = cc → meth.sig.returnType = ret → (∀ w ∈ ws, w.before args s = true) → s.vm.findClass y.cls = some m.cls → meth.locks = false → c.maxLocals = maxL → va_P D cl W0 s.heap → va_K D cl tys s → lv_has ls maxL (lv_args 0 av) →
      W p l e rm s m args below meth c s.heap [] 0 0 (MQ below er_Qv args s 0 0 (fun _ => False)) (F0 m 0 ls [])) : er_Mv l y ws rm D cl tys av W0 := by
  refine Met.ofW (cc := cc) (maxL := maxL) (ret := ret) hy hw ?_
  intro p e s m args below meth c s₁ B hml hv
  obtain ⟨rfl, hP, hK⟩ := hv
  have hl := lv_entry av (n := maxL) hlen
  rw [lg_entry_eq]
  exact body p e s m _ below meth c _ B.exec B.bytes B.returns (atoms_spec (ws := ws) B.pre) (findClass_of_methodNamed B.named) B.notSynchronized hml hP hK hl
theorem er_vret (hexec : p.tables.exec = Jvm.exec) (hb : c.code = cc) (hr : meth.sig.returnType = none) (hlocks : meth.locks = false) (hdg : decode cc pc = .ok (.return_, 1)) :
    W p l e R s m args below meth c s.heap [] 0 0 (MQ below er_Qv args s 0 0 (fun _ => False)) (F0 m pc ls []) :=
  W.vret hexec hb hr (fun t ht _ => ⟨rfl, ht⟩) (fun q h => by cases h) hdg hlocks
theorem er_callv {a : Array Value} (hr : va_Run p l e R s m args below meth c H locs cells slots 0 0 (F0 m pc ls st0) rest (er_Qv a) (fun _ => False))
    (kk : W p l e R s m args below meth c H locs cells slots Q (F0 m (pc + 3) ls rest)) : W p l e R s m args below meth c H locs cells slots Q (F0 m pc ls st0) := by
  intro T hT X
  obtain ⟨v', st₀, t, T', L, h0, X', hL, e1, -, ⟨hv, hh⟩, st⟩ := hr T hT X
  cases hv
  obtain ⟨t2, a1, b1⟩ := kk T' (by rw [e1, hh, h0]) (Stand.forget X' (fun q h => (hL q h).elim))
  exact ⟨t2, st t2 a1, b1⟩
variable {c0 : Cond} {own : String} {index nL n maxL : Nat} {y : MethodName} {bytes : ByteArray} {ret : Option FieldType} {rm : Room} {av : List Value} {W0 : va_W}
theorem er_Sv (hexec : p.tables.exec = Jvm.exec) (hb : c.code = cc) (hml : c.maxLocals = nL) (hown : s.vm.findClass own = some m.cls) (hts : ∀ w ∈ c0 :: eT, w.before args s = true) (hsz : ls.size = nL)
    (hM : er_Mv l y (Cond.code y bytes maxL ret :: eT) rm D vwCl tys av W0) (hc : Cond.code y bytes maxL ret ∈ eT) (hini : Cond.initialized y.cls ∈ eT) (hl : Cond.methodLink own index y ∈ eT) (hst : Cond.static y ∈ eT)
    (hd : y.cls ≠ "java/lang/invoke/MethodHandle" ∧ y.cls ≠ "java/lang/invoke/VarHandle" ∧ (parseMethodDescriptor y.desc).map (fun d => d.parameters.length) = some n) (hrc : rm.cells = 0) (hrs : rm.slots = 0) (hR : rm.frames + 1 ≤ R.frames ∧ 8 + (maxL + 11) + rm.locals ≤ R.locals)
    (hP : va_P D vwCl W0 H) (hK : va_K D vwCl tys s) (hn : av.length = n) {st0 : List Value} (hstk : st0 = av.reverse ++ rest) (hroom : (rest.map fun v => v.category).sum ≤ 8) (hcl : cells ≤ R.cells ∧ slots ≤ R.slots) (hdg : decode cc pc = .ok (.invokestatic index, 3))
    (kk : W p l e R s m args below meth c H locs cells slots Q (F0 m (pc + 3) ls rest)) : W p l e R s m args below meth c H locs cells slots Q (F0 m pc ls st0) :=
  er_callv (va_runS (nL := nL) (As := av) (rest := rest) ⟨hexec, hb, hml, hown, hts⟩ hM ⟨eT_B hts hc hini hl hd hrc hrs hR, eT_h hts hst⟩ (er_pre hP hK) rfl hn hsz hstk (lv_room hroom) hdg hcl) kk
end EVA
/-- the check passes -/
def ei_ok (x y : Int32) : Prop := ¬ x < 0 ∧ x ≤ y
set_option maxHeartbeats 4000000 in
set_option maxRecDepth 100000 in
theorem k_X5_requireUpTo (l : Launch) (D : va_G) (cI cZ cJ : ClassId) (x y : Int32) (hxy : ei_ok x y) : er_Mv l yX5_requireUpTo (Cond.code yX5_requireUpTo cX5_requireUpTo 2 none :: eT) ({ frames := 0, cells := 0, slots := 0, locals := 0 }) D vwCl (eTy cI cZ cJ) [.int x, .int y] [] := by
  refine er_ofv (cc := cX5_requireUpTo) (maxL := 2) (ret := none) (by decide) rfl (Nat.le_of_ble_eq_true rfl) ?_
  intro p e s m args below meth c ls hx hb hr hts hown hlk hml hP hK hl
  have hl : lv_has ls 2 [(0, .int x), (1, .int y)] := hl
  refine lv_iload_n hx hb dX5_requireUpTo_0 rfl (lv_at hl 0 rfl) ?_
  refine lv_if_lt (tgt := 9) hx hb dX5_requireUpTo_1 (by decide) (fun h => absurd h hxy.1) (fun _ => ?_)
  refine lv_iload_n hx hb dX5_requireUpTo_4 rfl (lv_at hl 0 rfl) ?_
  refine lv_iload_n hx hb dX5_requireUpTo_5 rfl (lv_at hl 1 rfl) ?_
  refine lv_icmp_le (tgt := 19) hx hb dX5_requireUpTo_6 (by decide) (fun _ => ?_) (fun h => absurd hxy.2 h)
  exact er_vret hx hb hr hlk dX5_requireUpTo_19
end
section
set_option maxHeartbeats 4000000 in
set_option maxRecDepth 100000 in
theorem c_X2_write (l : Launch) (D : va_G) (cI cZ cJ : ClassId) (ad : Nat → Nat) (hJ : eJ ad) (n : Nat) (g : Nat → Int32) (w : Nat → Int32) (P : Nat → Bool) (gm : Nat → Bool) (wm : Nat → Bool) (gs : Bool) (wz : Bool) (gb : Int32) (go : Bool) (gp : Bool) (gj : Bool) (wb : Int32) (wl : Int32) (wk : Int32) (wo : Bool) (fa : Int32) (mn : Nat) (mg : Nat → Int32) (mw : Nat → Int32) (mP : Nat → Bool) (o : Nat → Int64) (i : Nat) (x y : Int32) (b : Bool) (hi : i < 1000) : ec_M l yX2_write (Cond.code yX2_write cX2_write 5 none :: eT) ({ frames := 0, cells := 0, slots := 0, locals := 0 }) D (eTy cI cZ cJ) [.ref (ad 1), .int (nI i), .int x, .int y, .int (ef_b b)] (cw ad cI cZ cJ n g w P gm wm gs wz gb go gp gj wb wl wk wo fa mn mg mw mP o) (ed none (cw ad cI cZ cJ n (upd g i x) (upd w i y) (ef_up P i b) gm wm gs wz gb go gp gj wb wl wk wo fa mn mg mw mP o)) (eA ad) := by
  refine ec_of (cc := cX2_write) (maxL := 5) (ret := none) (by decide) rfl (Nat.le_of_ble_eq_true rfl) ?_
  intro p e s m args below meth c ls hx hb hr hts hown hlk hml hP hK hN hl
  have hown : s.vm.findClass RX2 = some m.cls := hown
  have hl : lv_has ls 5 [(0, .ref (ad 1)), (1, .int (nI i)), (2, .int x), (3, .int y), (4, .int (ef_b b))] := hl
  have hS : va_S (eA ad) s.heap s.heap [] := va_S.rf
  have hD : va_D (eA ad) (cw ad cI cZ cJ n g w P gm wm gs wz gb go gp gj wb wl wk wo fa mn mg mw mP o) := eD_of hJ rfl
  refine lv_aload_n hx hb dX2_write_0 rfl (lv_at hl 0 rfl) ?_
  refine va_get (D := D) (ci := 2) (v := .ref (ad 4)) (C := RX2) (T := TX2) (N := 4) hx hb hts (fun w h => List.mem_cons_of_mem _ (inX2 w h)) hown hK hP 1 rfl rfl 0 (by decide) (eT_h hts tw27) (fun _ h9 => h9) rfl dX2_write_1 ?_
  refine lv_iload_n hx hb dX2_write_4 rfl (lv_at hl 1 rfl) ?_
  refine lv_iload_n hx hb dX2_write_5 rfl (lv_at hl 2 rfl) ?_
  refine va_iast hx hb hK hP hD hS 4 0 rfl rfl (vp_in_nI (n := i) (by omega) (by decide)) dX2_write_6 (fun H locs hP hD hS => ?_)
  rw [nI_clamp (n := i) (by omega)] at hP hD
  have hP : va_P D vwCl (cw ad cI cZ cJ n (upd g i x) w P gm wm gs wz gb go gp gj wb wl wk wo fa mn mg mw mP o) H := hP
  have hD : va_D (eA ad) (cw ad cI cZ cJ n (upd g i x) w P gm wm gs wz gb go gp gj wb wl wk wo fa mn mg mw mP o) := hD
  refine lv_aload_n hx hb dX2_write_7 rfl (lv_at hl 0 rfl) ?_
  refine va_get (D := D) (ci := 2) (v := .ref (ad 5)) (C := RX2) (T := TX2) (N := 4) hx hb hts (fun w h => List.mem_cons_of_mem _ (inX2 w h)) hown hK hP 1 rfl rfl 1 (by decide) (eT_h hts tw29) (fun _ h9 => h9) rfl dX2_write_8 ?_
  refine lv_iload_n hx hb dX2_write_11 rfl (lv_at hl 1 rfl) ?_
  refine lv_iload_n hx hb dX2_write_12 rfl (lv_at hl 3 rfl) ?_
  refine va_iast hx hb hK hP hD hS 5 0 rfl rfl (vp_in_nI (n := i) (by omega) (by decide)) dX2_write_13 (fun H locs hP hD hS => ?_)
  rw [nI_clamp (n := i) (by omega)] at hP hD
  have hP : va_P D vwCl (cw ad cI cZ cJ n (upd g i x) (upd w i y) P gm wm gs wz gb go gp gj wb wl wk wo fa mn mg mw mP o) H := hP
  have hD : va_D (eA ad) (cw ad cI cZ cJ n (upd g i x) (upd w i y) P gm wm gs wz gb go gp gj wb wl wk wo fa mn mg mw mP o) := hD
  refine lv_aload_n hx hb dX2_write_14 rfl (lv_at hl 0 rfl) ?_
  refine va_get (D := D) (ci := 2) (v := .ref (ad 6)) (C := RX2) (T := TX2) (N := 4) hx hb hts (fun w h => List.mem_cons_of_mem _ (inX2 w h)) hown hK hP 1 rfl rfl 2 (by decide) (eT_h hts tw31) (fun _ h9 => h9) rfl dX2_write_15 ?_
  refine lv_iload_n hx hb dX2_write_18 rfl (lv_at hl 1 rfl) ?_
  refine lv_iload hx hb dX2_write_19 (lv_at hl 4 rfl) ?_
  refine va_zast hx hb hK hP hD hS 6 1 rfl rfl (vp_in_nI (n := i) (by omega) (by decide)) dX2_write_21 (fun H locs hP hD hS => ?_)
  rw [nI_clamp (n := i) (by omega), ef_upd] at hP hD
  have hP : va_P D vwCl (cw ad cI cZ cJ n (upd g i x) (upd w i y) (ef_up P i b) gm wm gs wz gb go gp gj wb wl wk wo fa mn mg mw mP o) H := hP
  have hD : va_D (eA ad) (cw ad cI cZ cJ n (upd g i x) (upd w i y) (ef_up P i b) gm wm gs wz gb go gp gj wb wl wk wo fa mn mg mw mP o) := hD
  exact ec_vret hx hb hr hlk hP hS ⟨rfl, rfl⟩ dX2_write_22

set_option maxHeartbeats 4000000 in
set_option maxRecDepth 100000 in
theorem c_X5_forgetEdges (l : Launch) (D : va_G) (cI cZ cJ : ClassId) (ad : Nat → Nat) (hJ : eJ ad) (n : Nat) (g : Nat → Int32) (w : Nat → Int32) (P : Nat → Bool) (gm : Nat → Bool) (wm : Nat → Bool) (gs : Bool) (wz : Bool) (gb : Int32) (go : Bool) (gp : Bool) (gj : Bool) (wb : Int32) (wl : Int32) (wk : Int32) (wo : Bool) (fa : Int32) (mn : Nat) (mg : Nat → Int32) (mw : Nat → Int32) (mP : Nat → Bool) (o : Nat → Int64)   : ec_M l yX5_forgetEdges (Cond.code yX5_forgetEdges cX5_forgetEdges 1 none :: eT) ({ frames := 0, cells := 0, slots := 0, locals := 0 }) D (eTy cI cZ cJ) [.ref (ad 0)] (cw ad cI cZ cJ n g w P gm wm gs wz gb go gp gj wb wl wk wo fa mn mg mw mP o) (ed none (cw ad cI cZ cJ n g w P gm wm true true gb go gp gj wb wl wk wo fa mn mg mw mP o)) (eA ad) := by
  refine ec_of (cc := cX5_forgetEdges) (maxL := 1) (ret := none) (by decide) rfl (Nat.le_of_ble_eq_true rfl) ?_
  intro p e s m args below meth c ls hx hb hr hts hown hlk hml hP hK hN hl
  have hown : s.vm.findClass RX5 = some m.cls := hown
  have hl : lv_has ls 1 [(0, .ref (ad 0))] := hl
  have hS : va_S (eA ad) s.heap s.heap [] := va_S.rf
  have hD : va_D (eA ad) (cw ad cI cZ cJ n g w P gm wm gs wz gb go gp gj wb wl wk wo fa mn mg mw mP o) := eD_of hJ rfl
  refine lv_aload_n hx hb dX5_forgetEdges_0 rfl (lv_at hl 0 rfl) ?_
  refine va_get (D := D) (ci := 4) (v := .ref (ad 2)) (C := RX5) (T := TX5) (N := 3) hx hb hts (fun w h => List.mem_cons_of_mem _ (inX5 w h)) hown hK hP 0 rfl rfl 1 (by decide) (eT_h hts tw109) (fun _ h9 => h9) rfl dX5_forgetEdges_1 ?_
  refine lv_iconst (v := 1) hx hb dX5_forgetEdges_4 (by decide) ?_
  refine ef_eqi (y := ef_b true) (by decide) ?_
  refine va_put (D := D) (ci := 0) (v := .int (ef_b true)) (ty := .boolean) (C := RX0) (T := TX0) (N := 3) hx hb hts (fun w h => List.mem_cons_of_mem _ (inX0 w h)) tyX0 tyX0_ok nmX0 hown hK hP hD hS 2 rfl rfl 1 (by decide) (eT_h hts tw80) (fun _ h9 => h9) rfl (by decide +kernel) (ef_nar _) (ef_fit _) (Nat.le_of_ble_eq_true rfl) dX5_forgetEdges_5 (fun H locs hP hD hS => ?_)
  have hP : va_P D vwCl (cw ad cI cZ cJ n g w P gm wm true wz gb go gp gj wb wl wk wo fa mn mg mw mP o) H := hP
  have hD : va_D (eA ad) (cw ad cI cZ cJ n g w P gm wm true wz gb go gp gj wb wl wk wo fa mn mg mw mP o) := hD
  refine lv_aload_n hx hb dX5_forgetEdges_8 rfl (lv_at hl 0 rfl) ?_
  refine va_get (D := D) (ci := 4) (v := .ref (ad 3)) (C := RX5) (T := TX5) (N := 3) hx hb hts (fun w h => List.mem_cons_of_mem _ (inX5 w h)) hown hK hP 0 rfl rfl 2 (by decide) (eT_h hts tw110) (fun _ h9 => h9) rfl dX5_forgetEdges_9 ?_
  refine lv_iconst (v := 1) hx hb dX5_forgetEdges_12 (by decide) ?_
  refine ef_eqi (y := ef_b true) (by decide) ?_
  refine va_put (D := D) (ci := 0) (v := .int (ef_b true)) (ty := .boolean) (C := RX0) (T := TX0) (N := 3) hx hb hts (fun w h => List.mem_cons_of_mem _ (inX0 w h)) tyX0 tyX0_ok nmX0 hown hK hP hD hS 3 rfl rfl 1 (by decide) (eT_h hts tw80) (fun _ h9 => h9) rfl (by decide +kernel) (ef_nar _) (ef_fit _) (Nat.le_of_ble_eq_true rfl) dX5_forgetEdges_13 (fun H locs hP hD hS => ?_)
  have hP : va_P D vwCl (cw ad cI cZ cJ n g w P gm wm true true gb go gp gj wb wl wk wo fa mn mg mw mP o) H := hP
  have hD : va_D (eA ad) (cw ad cI cZ cJ n g w P gm wm true true gb go gp gj wb wl wk wo fa mn mg mw mP o) := hD
  exact ec_vret hx hb hr hlk hP hS ⟨rfl, rfl⟩ dX5_forgetEdges_16

set_option maxHeartbeats 4000000 in
set_option maxRecDepth 100000 in
theorem c_X1_begin (l : Launch) (D : va_G) (cI cZ cJ : ClassId) (ad : Nat → Nat) (hJ : eJ ad) (n : Nat) (g : Nat → Int32) (w : Nat → Int32) (P : Nat → Bool) (gm : Nat → Bool) (wm : Nat → Bool) (gs : Bool) (wz : Bool) (gb : Int32) (go : Bool) (gp : Bool) (gj : Bool) (wb : Int32) (wl : Int32) (wk : Int32) (wo : Bool) (fa : Int32) (mn : Nat) (mg : Nat → Int32) (mw : Nat → Int32) (mP : Nat → Bool) (o : Nat → Int64)   : ec_M l yX1_begin (Cond.code yX1_begin cX1_begin 1 none :: eT) ({ frames := 0, cells := 0, slots := 0, locals := 0 }) D (eTy cI cZ cJ) [.ref (ad 9)] (cw ad cI cZ cJ n g w P gm wm gs wz gb go gp gj wb wl wk wo fa mn mg mw mP o) (ed none (cw ad cI cZ cJ n g w P gm wm gs wz (-1) false false false wb wl wk wo fa mn mg mw mP o)) (eA ad) := by
  refine ec_of (cc := cX1_begin) (maxL := 1) (ret := none) (by decide) rfl (Nat.le_of_ble_eq_true rfl) ?_
  intro p e s m args below meth c ls hx hb hr hts hown hlk hml hP hK hN hl
  have hown : s.vm.findClass RX1 = some m.cls := hown
  have hl : lv_has ls 1 [(0, .ref (ad 9))] := hl
  have hS : va_S (eA ad) s.heap s.heap [] := va_S.rf
  have hD : va_D (eA ad) (cw ad cI cZ cJ n g w P gm wm gs wz gb go gp gj wb wl wk wo fa mn mg mw mP o) := eD_of hJ rfl
  refine lv_aload_n hx hb dX1_begin_0 rfl (lv_at hl 0 rfl) ?_
  refine lv_iconst (v := (-1)) hx hb dX1_begin_1 (by decide) ?_
  refine va_put (D := D) (ci := 1) (v := .int (-1)) (ty := .int) (C := RX1) (T := TX1) (N := 4) hx hb hts (fun w h => List.mem_cons_of_mem _ (inX1 w h)) tyX1 tyX1_ok nmX1 hown hK hP hD hS 9 rfl rfl 0 (by decide) (eT_h hts tw60) (fun _ h9 => h9) rfl (by decide +kernel) rfl rfl (Nat.le_of_ble_eq_true rfl) dX1_begin_2 (fun H locs hP hD hS => ?_)
  have hP : va_P D vwCl (cw ad cI cZ cJ n g w P gm wm gs wz (-1) go gp gj wb wl wk wo fa mn mg mw mP o) H := hP
  have hD : va_D (eA ad) (cw ad cI cZ cJ n g w P gm wm gs wz (-1) go gp gj wb wl wk wo fa mn mg mw mP o) := hD
  refine lv_aload_n hx hb dX1_begin_5 rfl (lv_at hl 0 rfl) ?_
  refine lv_iconst (v := 0) hx hb dX1_begin_6 (by decide) ?_
  refine ef_eqi (y := ef_b false) (by decide) ?_
  refine va_put (D := D) (ci := 1) (v := .int (ef_b false)) (ty := .boolean) (C := RX1) (T := TX1) (N := 4) hx hb hts (fun w h => List.mem_cons_of_mem _ (inX1 w h)) tyX1 tyX1_ok nmX1 hown hK hP hD hS 9 rfl rfl 1 (by decide) (eT_h hts tw61) (fun _ h9 => h9) rfl (by decide +kernel) (ef_nar _) (ef_fit _) (Nat.le_of_ble_eq_true rfl) dX1_begin_7 (fun H locs hP hD hS => ?_)
  have hP : va_P D vwCl (cw ad cI cZ cJ n g w P gm wm gs wz (-1) false gp gj wb wl wk wo fa mn mg mw mP o) H := hP
  have hD : va_D (eA ad) (cw ad cI cZ cJ n g w P gm wm gs wz (-1) false gp gj wb wl wk wo fa mn mg mw mP o) := hD
  refine lv_aload_n hx hb dX1_begin_10 rfl (lv_at hl 0 rfl) ?_
  refine lv_iconst (v := 0) hx hb dX1_begin_11 (by decide) ?_
  refine ef_eqi (y := ef_b false) (by decide) ?_
  refine va_put (D := D) (ci := 1) (v := .int (ef_b false)) (ty := .boolean) (C := RX1) (T := TX1) (N := 4) hx hb hts (fun w h => List.mem_cons_of_mem _ (inX1 w h)) tyX1 tyX1_ok nmX1 hown hK hP hD hS 9 rfl rfl 2 (by decide) (eT_h hts tw62) (fun _ h9 => h9) rfl (by decide +kernel) (ef_nar _) (ef_fit _) (Nat.le_of_ble_eq_true rfl) dX1_begin_12 (fun H locs hP hD hS => ?_)
  have hP : va_P D vwCl (cw ad cI cZ cJ n g w P gm wm gs wz (-1) false false gj wb wl wk wo fa mn mg mw mP o) H := hP
  have hD : va_D (eA ad) (cw ad cI cZ cJ n g w P gm wm gs wz (-1) false false gj wb wl wk wo fa mn mg mw mP o) := hD
  refine lv_aload_n hx hb dX1_begin_15 rfl (lv_at hl 0 rfl) ?_
  refine lv_iconst (v := 0) hx hb dX1_begin_16 (by decide) ?_
  refine ef_eqi (y := ef_b false) (by decide) ?_
  refine va_put (D := D) (ci := 1) (v := .int (ef_b false)) (ty := .boolean) (C := RX1) (T := TX1) (N := 4) hx hb hts (fun w h => List.mem_cons_of_mem _ (inX1 w h)) tyX1 tyX1_ok nmX1 hown hK hP hD hS 9 rfl rfl 3 (by decide) (eT_h hts tw63) (fun _ h9 => h9) rfl (by decide +kernel) (ef_nar _) (ef_fit _) (Nat.le_of_ble_eq_true rfl) dX1_begin_17 (fun H locs hP hD hS => ?_)
  have hP : va_P D vwCl (cw ad cI cZ cJ n g w P gm wm gs wz (-1) false false false wb wl wk wo fa mn mg mw mP o) H := hP
  have hD : va_D (eA ad) (cw ad cI cZ cJ n g w P gm wm gs wz (-1) false false false wb wl wk wo fa mn mg mw mP o) := hD
  exact ec_vret hx hb hr hlk hP hS ⟨rfl, rfl⟩ dX1_begin_20

set_option maxHeartbeats 4000000 in
set_option maxRecDepth 100000 in
theorem c_X4_begin (l : Launch) (D : va_G) (cI cZ cJ : ClassId) (ad : Nat → Nat) (hJ : eJ ad) (n : Nat) (g : Nat → Int32) (w : Nat → Int32) (P : Nat → Bool) (gm : Nat → Bool) (wm : Nat → Bool) (gs : Bool) (wz : Bool) (gb : Int32) (go : Bool) (gp : Bool) (gj : Bool) (wb : Int32) (wl : Int32) (wk : Int32) (wo : Bool) (fa : Int32) (mn : Nat) (mg : Nat → Int32) (mw : Nat → Int32) (mP : Nat → Bool) (o : Nat → Int64)   : ec_M l yX4_begin (Cond.code yX4_begin cX4_begin 1 none :: eT) ({ frames := 0, cells := 0, slots := 0, locals := 0 }) D (eTy cI cZ cJ) [.ref (ad 10)] (cw ad cI cZ cJ n g w P gm wm gs wz gb go gp gj wb wl wk wo fa mn mg mw mP o) (ed none (cw ad cI cZ cJ n g w P gm wm gs wz gb go gp gj (-1) (-1) (-1) false fa mn mg mw mP o)) (eA ad) := by
  refine ec_of (cc := cX4_begin) (maxL := 1) (ret := none) (by decide) rfl (Nat.le_of_ble_eq_true rfl) ?_
  intro p e s m args below meth c ls hx hb hr hts hown hlk hml hP hK hN hl
  have hown : s.vm.findClass RX4 = some m.cls := hown
  have hl : lv_has ls 1 [(0, .ref (ad 10))] := hl
  have hS : va_S (eA ad) s.heap s.heap [] := va_S.rf
  have hD : va_D (eA ad) (cw ad cI cZ cJ n g w P gm wm gs wz gb go gp gj wb wl wk wo fa mn mg mw mP o) := eD_of hJ rfl
  refine lv_aload_n hx hb dX4_begin_0 rfl (lv_at hl 0 rfl) ?_
  refine lv_iconst (v := (-1)) hx hb dX4_begin_1 (by decide) ?_
  refine va_put (D := D) (ci := 3) (v := .int (-1)) (ty := .int) (C := RX4) (T := TX4) (N := 4) hx hb hts (fun w h => List.mem_cons_of_mem _ (inX4 w h)) tyX4 tyX4_ok nmX4 hown hK hP hD hS 10 rfl rfl 0 (by decide) (eT_h hts tw95) (fun _ h9 => h9) rfl (by decide +kernel) rfl rfl (Nat.le_of_ble_eq_true rfl) dX4_begin_2 (fun H locs hP hD hS => ?_)
  have hP : va_P D vwCl (cw ad cI cZ cJ n g w P gm wm gs wz gb go gp gj (-1) wl wk wo fa mn mg mw mP o) H := hP
  have hD : va_D (eA ad) (cw ad cI cZ cJ n g w P gm wm gs wz gb go gp gj (-1) wl wk wo fa mn mg mw mP o) := hD
  refine lv_aload_n hx hb dX4_begin_5 rfl (lv_at hl 0 rfl) ?_
  refine lv_iconst (v := (-1)) hx hb dX4_begin_6 (by decide) ?_
  refine va_put (D := D) (ci := 3) (v := .int (-1)) (ty := .int) (C := RX4) (T := TX4) (N := 4) hx hb hts (fun w h => List.mem_cons_of_mem _ (inX4 w h)) tyX4 tyX4_ok nmX4 hown hK hP hD hS 10 rfl rfl 1 (by decide) (eT_h hts tw96) (fun _ h9 => h9) rfl (by decide +kernel) rfl rfl (Nat.le_of_ble_eq_true rfl) dX4_begin_7 (fun H locs hP hD hS => ?_)
  have hP : va_P D vwCl (cw ad cI cZ cJ n g w P gm wm gs wz gb go gp gj (-1) (-1) wk wo fa mn mg mw mP o) H := hP
  have hD : va_D (eA ad) (cw ad cI cZ cJ n g w P gm wm gs wz gb go gp gj (-1) (-1) wk wo fa mn mg mw mP o) := hD
  refine lv_aload_n hx hb dX4_begin_10 rfl (lv_at hl 0 rfl) ?_
  refine lv_iconst (v := (-1)) hx hb dX4_begin_11 (by decide) ?_
  refine va_put (D := D) (ci := 3) (v := .int (-1)) (ty := .int) (C := RX4) (T := TX4) (N := 4) hx hb hts (fun w h => List.mem_cons_of_mem _ (inX4 w h)) tyX4 tyX4_ok nmX4 hown hK hP hD hS 10 rfl rfl 2 (by decide) (eT_h hts tw97) (fun _ h9 => h9) rfl (by decide +kernel) rfl rfl (Nat.le_of_ble_eq_true rfl) dX4_begin_12 (fun H locs hP hD hS => ?_)
  have hP : va_P D vwCl (cw ad cI cZ cJ n g w P gm wm gs wz gb go gp gj (-1) (-1) (-1) wo fa mn mg mw mP o) H := hP
  have hD : va_D (eA ad) (cw ad cI cZ cJ n g w P gm wm gs wz gb go gp gj (-1) (-1) (-1) wo fa mn mg mw mP o) := hD
  refine lv_aload_n hx hb dX4_begin_15 rfl (lv_at hl 0 rfl) ?_
  refine lv_iconst (v := 0) hx hb dX4_begin_16 (by decide) ?_
  refine ef_eqi (y := ef_b false) (by decide) ?_
  refine va_put (D := D) (ci := 3) (v := .int (ef_b false)) (ty := .boolean) (C := RX4) (T := TX4) (N := 4) hx hb hts (fun w h => List.mem_cons_of_mem _ (inX4 w h)) tyX4 tyX4_ok nmX4 hown hK hP hD hS 10 rfl rfl 3 (by decide) (eT_h hts tw98) (fun _ h9 => h9) rfl (by decide +kernel) (ef_nar _) (ef_fit _) (Nat.le_of_ble_eq_true rfl) dX4_begin_17 (fun H locs hP hD hS => ?_)
  have hP : va_P D vwCl (cw ad cI cZ cJ n g w P gm wm gs wz gb go gp gj (-1) (-1) (-1) false fa mn mg mw mP o) H := hP
  have hD : va_D (eA ad) (cw ad cI cZ cJ n g w P gm wm gs wz gb go gp gj (-1) (-1) (-1) false fa mn mg mw mP o) := hD
  exact ec_vret hx hb hr hlk hP hS ⟨rfl, rfl⟩ dX4_begin_20

set_option maxHeartbeats 4000000 in
set_option maxRecDepth 100000 in
theorem c_X6_fail (l : Launch) (D : va_G) (cI cZ cJ : ClassId) (ad : Nat → Nat) (hJ : eJ ad) (n : Nat) (g : Nat → Int32) (w : Nat → Int32) (P : Nat → Bool) (gm : Nat → Bool) (wm : Nat → Bool) (gs : Bool) (wz : Bool) (gb : Int32) (go : Bool) (gp : Bool) (gj : Bool) (wb : Int32) (wl : Int32) (wk : Int32) (wo : Bool) (fa : Int32) (mn : Nat) (mg : Nat → Int32) (mw : Nat → Int32) (mP : Nat → Bool) (o : Nat → Int64) (x : Int32)  : ec_M l yX6_fail (Cond.code yX6_fail cX6_fail 2 (some .int) :: eT) ({ frames := 0, cells := 0, slots := 0, locals := 0 }) D (eTy cI cZ cJ) [.ref (ad 11), .int x] (cw ad cI cZ cJ n g w P gm wm gs wz gb go gp gj wb wl wk wo fa mn mg mw mP o) (ed (some (.int 0)) (cw ad cI cZ cJ n g w P gm wm gs wz gb go gp gj wb wl wk wo x mn mg mw mP o)) (eA ad) := by
  refine ec_of (cc := cX6_fail) (maxL := 2) (ret := (some .int)) (by decide) rfl (Nat.le_of_ble_eq_true rfl) ?_
  intro p e s m args below meth c ls hx hb hr hts hown hlk hml hP hK hN hl
  have hown : s.vm.findClass RX6 = some m.cls := hown
  have hl : lv_has ls 2 [(0, .ref (ad 11)), (1, .int x)] := hl
  have hS : va_S (eA ad) s.heap s.heap [] := va_S.rf
  have hD : va_D (eA ad) (cw ad cI cZ cJ n g w P gm wm gs wz gb go gp gj wb wl wk wo fa mn mg mw mP o) := eD_of hJ rfl
  refine lv_aload_n hx hb dX6_fail_0 rfl (lv_at hl 0 rfl) ?_
  refine lv_iload_n hx hb dX6_fail_1 rfl (lv_at hl 1 rfl) ?_
  refine va_put (D := D) (ci := 5) (v := .int x) (ty := .int) (C := RX6) (T := TX6) (N := 5) hx hb hts (fun w h => List.mem_cons_of_mem _ (inX6 w h)) tyX6 tyX6_ok nmX6 hown hK hP hD hS 11 rfl rfl 0 (by decide) (eT_h hts tw367) (fun _ h9 => h9) rfl (by decide +kernel) rfl rfl (Nat.le_of_ble_eq_true rfl) dX6_fail_2 (fun H locs hP hD hS => ?_)
  have hP : va_P D vwCl (cw ad cI cZ cJ n g w P gm wm gs wz gb go gp gj wb wl wk wo x mn mg mw mP o) H := hP
  have hD : va_D (eA ad) (cw ad cI cZ cJ n g w P gm wm gs wz gb go gp gj wb wl wk wo x mn mg mw mP o) := hD
  refine lv_iconst (v := 0) hx hb dX6_fail_5 (by decide) ?_
  exact ec_iret hx hb hr hlk hP hS ⟨rfl, rfl⟩ dX6_fail_6

set_option maxHeartbeats 4000000 in
set_option maxRecDepth 100000 in
theorem c_X1_pass (l : Launch) (D : va_G) (cI cZ cJ : ClassId) (ad : Nat → Nat) (hJ : eJ ad) (n : Nat) (g : Nat → Int32) (w : Nat → Int32) (P : Nat → Bool) (gm : Nat → Bool) (wm : Nat → Bool) (gs : Bool) (wz : Bool) (gb : Int32) (go : Bool) (gp : Bool) (gj : Bool) (wb : Int32) (wl : Int32) (wk : Int32) (wo : Bool) (fa : Int32) (mn : Nat) (mg : Nat → Int32) (mw : Nat → Int32) (mP : Nat → Bool) (o : Nat → Int64) (i : Nat) (hi : i < 1000) : ec_M l yX1_pass (Cond.code yX1_pass cX1_pass 4 none :: eT) ({ frames := 0, cells := 0, slots := 0, locals := 0 }) D (eTy cI cZ cJ) [.ref (ad 9), .ref (ad 1), .int (nI i)] (cw ad cI cZ cJ n g w P gm wm gs wz gb go gp gj wb wl wk wo fa mn mg mw mP o) (ed none (cw ad cI cZ cJ n g w P gm wm gs wz (g i) (g i == 6 && !go) (P i || (gp && g i == 4)) (gp && g i == 5) wb wl wk wo fa mn mg mw mP o)) (eA ad) := by
  refine ec_of (cc := cX1_pass) (maxL := 4) (ret := none) (by decide) rfl (Nat.le_of_ble_eq_true rfl) ?_
  intro p e s m args below meth c ls hx hb hr hts hown hlk hml hP hK hN hl
  have hown : s.vm.findClass RX1 = some m.cls := hown
  have hl : lv_has ls 4 [(0, .ref (ad 9)), (1, .ref (ad 1)), (2, .int (nI i))] := hl
  have L80 : ∀ (ls : Array Slot) (H : Heap) (locs : List Loc), lv_has ls 4 [(3, .int (g i)), (0, .ref (ad 9)), (1, .ref (ad 1)), (2, .int (nI i))] → va_P D vwCl (cw ad cI cZ cJ n g w P gm wm gs wz gb (g i == 6 && !go) (P i || (gp && g i == 4)) (gp && g i == 5) wb wl wk wo fa mn mg mw mP o) H → va_S (eA ad) s.heap H locs → W p l e ({ frames := 0, cells := 0, slots := 0, locals := 0 }) s m args below meth c H locs 0 0 (MQ below (ec_Q D (ed none (cw ad cI cZ cJ n g w P gm wm gs wz (g i) (g i == 6 && !go) (P i || (gp && g i == 4)) (gp && g i == 5) wb wl wk wo fa mn mg mw mP o)) (eA ad)) args s 0 0 (eA ad)) (F0 m 80 ls []) := by
    intro ls H locs hl hP hS
    have hD : va_D (eA ad) (cw ad cI cZ cJ n g w P gm wm gs wz gb (g i == 6 && !go) (P i || (gp && g i == 4)) (gp && g i == 5) wb wl wk wo fa mn mg mw mP o) := eD_of hJ rfl
    refine lv_aload_n hx hb dX1_pass_80 rfl (lv_at hl 1 rfl) ?_
    refine lv_iload_n hx hb dX1_pass_81 rfl (lv_at hl 0 rfl) ?_
    refine va_put (D := D) (ci := 1) (v := .int (g i)) (ty := .int) (C := RX1) (T := TX1) (N := 4) hx hb hts (fun w h => List.mem_cons_of_mem _ (inX1 w h)) tyX1 tyX1_ok nmX1 hown hK hP hD hS 9 rfl rfl 0 (by decide) (eT_h hts tw60) (fun _ h9 => h9) rfl (by decide +kernel) rfl rfl (Nat.le_of_ble_eq_true rfl) dX1_pass_82 (fun H locs hP hD hS => ?_)
    have hP : va_P D vwCl (cw ad cI cZ cJ n g w P gm wm gs wz (g i) (g i == 6 && !go) (P i || (gp && g i == 4)) (gp && g i == 5) wb wl wk wo fa mn mg mw mP o) H := hP
    have hD : va_D (eA ad) (cw ad cI cZ cJ n g w P gm wm gs wz (g i) (g i == 6 && !go) (P i || (gp && g i == 4)) (gp && g i == 5) wb wl wk wo fa mn mg mw mP o) := hD
    exact ec_vret hx hb hr hlk hP hS ⟨rfl, rfl⟩ dX1_pass_85
  have L58 : ∀ (ls : Array Slot) (H : Heap) (locs : List Loc), lv_has ls 4 [(3, .int (g i)), (0, .ref (ad 9)), (1, .ref (ad 1)), (2, .int (nI i))] → va_P D vwCl (cw ad cI cZ cJ n g w P gm wm gs wz gb go (P i || (gp && g i == 4)) (gp && g i == 5) wb wl wk wo fa mn mg mw mP o) H → va_S (eA ad) s.heap H locs → W p l e ({ frames := 0, cells := 0, slots := 0, locals := 0 }) s m args below meth c H locs 0 0 (MQ below (ec_Q D (ed none (cw ad cI cZ cJ n g w P gm wm gs wz (g i) (g i == 6 && !go) (P i || (gp && g i == 4)) (gp && g i == 5) wb wl wk wo fa mn mg mw mP o)) (eA ad)) args s 0 0 (eA ad)) (F0 m 58 ls []) := by
    intro ls H locs hl hP hS
    have hD : va_D (eA ad) (cw ad cI cZ cJ n g w P gm wm gs wz gb go (P i || (gp && g i == 4)) (gp && g i == 5) wb wl wk wo fa mn mg mw mP o) := eD_of hJ rfl
    refine lv_aload_n hx hb dX1_pass_58 rfl (lv_at hl 1 rfl) ?_
    refine lv_iload_n hx hb dX1_pass_59 rfl (lv_at hl 0 rfl) ?_
    refine lv_bipush (v := 6) hx hb dX1_pass_60 (by decide) ?_
    refine lv_icmp_ne (tgt := 76) hx hb dX1_pass_62 (by decide) (fun h1 => ?_) (fun h1 => ?_)
    · skip
      refine lv_iconst (v := 0) hx hb dX1_pass_76 (by decide) ?_
      refine ef_eqi (y := ef_b (g i == 6 && !go)) (by simp [ef_b, h1]) ?_
      refine va_put (D := D) (ci := 1) (v := .int (ef_b (g i == 6 && !go))) (ty := .boolean) (C := RX1) (T := TX1) (N := 4) hx hb hts (fun w h => List.mem_cons_of_mem _ (inX1 w h)) tyX1 tyX1_ok nmX1 hown hK hP hD hS 9 rfl rfl 1 (by decide) (eT_h hts tw61) (fun _ h9 => h9) rfl (by decide +kernel) (ef_nar _) (ef_fit _) (Nat.le_of_ble_eq_true rfl) dX1_pass_77 (fun H locs hP hD hS => ?_)
      have hP : va_P D vwCl (cw ad cI cZ cJ n g w P gm wm gs wz gb (g i == 6 && !go) (P i || (gp && g i == 4)) (gp && g i == 5) wb wl wk wo fa mn mg mw mP o) H := hP
      have hD : va_D (eA ad) (cw ad cI cZ cJ n g w P gm wm gs wz gb (g i == 6 && !go) (P i || (gp && g i == 4)) (gp && g i == 5) wb wl wk wo fa mn mg mw mP o) := hD
      exact L80  ls H locs hl  hP hS
    · skip
      refine lv_aload_n hx hb dX1_pass_65 rfl (lv_at hl 1 rfl) ?_
      refine va_get (D := D) (ci := 1) (v := .int (ef_b go)) (C := RX1) (T := TX1) (N := 4) hx hb hts (fun w h => List.mem_cons_of_mem _ (inX1 w h)) hown hK hP 9 rfl rfl 1 (by decide) (eT_h hts tw61) (fun _ h9 => h9) rfl dX1_pass_66 ?_
      refine ef_if_ne (tgt := 76) hx hb dX1_pass_69 (by decide) (fun h2 => ?_) (fun h2 => ?_)
      · skip
        refine lv_iconst (v := 0) hx hb dX1_pass_76 (by decide) ?_
        refine ef_eqi (y := ef_b (g i == 6 && !go)) (by simp [ef_b, h1, h2]) ?_
        refine va_put (D := D) (ci := 1) (v := .int (ef_b (g i == 6 && !go))) (ty := .boolean) (C := RX1) (T := TX1) (N := 4) hx hb hts (fun w h => List.mem_cons_of_mem _ (inX1 w h)) tyX1 tyX1_ok nmX1 hown hK hP hD hS 9 rfl rfl 1 (by decide) (eT_h hts tw61) (fun _ h9 => h9) rfl (by decide +kernel) (ef_nar _) (ef_fit _) (Nat.le_of_ble_eq_true rfl) dX1_pass_77 (fun H locs hP hD hS => ?_)
        have hP : va_P D vwCl (cw ad cI cZ cJ n g w P gm wm gs wz gb (g i == 6 && !go) (P i || (gp && g i == 4)) (gp && g i == 5) wb wl wk wo fa mn mg mw mP o) H := hP
        have hD : va_D (eA ad) (cw ad cI cZ cJ n g w P gm wm gs wz gb (g i == 6 && !go) (P i || (gp && g i == 4)) (gp && g i == 5) wb wl wk wo fa mn mg mw mP o) := hD
        exact L80  ls H locs hl  hP hS
      · skip
        refine lv_iconst (v := 1) hx hb dX1_pass_72 (by decide) ?_
        refine lv_goto (tgt := 77) hx hb dX1_pass_73 (by decide) ?_
        refine ef_eqi (y := ef_b (g i == 6 && !go)) (by simp [ef_b, h1, h2]) ?_
        refine va_put (D := D) (ci := 1) (v := .int (ef_b (g i == 6 && !go))) (ty := .boolean) (C := RX1) (T := TX1) (N := 4) hx hb hts (fun w h => List.mem_cons_of_mem _ (inX1 w h)) tyX1 tyX1_ok nmX1 hown hK hP hD hS 9 rfl rfl 1 (by decide) (eT_h hts tw61) (fun _ h9 => h9) rfl (by decide +kernel) (ef_nar _) (ef_fit _) (Nat.le_of_ble_eq_true rfl) dX1_pass_77 (fun H locs hP hD hS => ?_)
        have hP : va_P D vwCl (cw ad cI cZ cJ n g w P gm wm gs wz gb (g i == 6 && !go) (P i || (gp && g i == 4)) (gp && g i == 5) wb wl wk wo fa mn mg mw mP o) H := hP
        have hD : va_D (eA ad) (cw ad cI cZ cJ n g w P gm wm gs wz gb (g i == 6 && !go) (P i || (gp && g i == 4)) (gp && g i == 5) wb wl wk wo fa mn mg mw mP o) := hD
        exact L80  ls H locs hl  hP hS
  have L28 : ∀ (ls : Array Slot) (H : Heap) (locs : List Loc), lv_has ls 4 [(3, .int (g i)), (0, .ref (ad 9)), (1, .ref (ad 1)), (2, .int (nI i))] → va_P D vwCl (cw ad cI cZ cJ n g w P gm wm gs wz gb go gp (gp && g i == 5) wb wl wk wo fa mn mg mw mP o) H → va_S (eA ad) s.heap H locs → W p l e ({ frames := 0, cells := 0, slots := 0, locals := 0 }) s m args below meth c H locs 0 0 (MQ below (ec_Q D (ed none (cw ad cI cZ cJ n g w P gm wm gs wz (g i) (g i == 6 && !go) (P i || (gp && g i == 4)) (gp && g i == 5) wb wl wk wo fa mn mg mw mP o)) (eA ad)) args s 0 0 (eA ad)) (F0 m 28 ls []) := by
    intro ls H locs hl hP hS
    have hD : va_D (eA ad) (cw ad cI cZ cJ n g w P gm wm gs wz gb go gp (gp && g i == 5) wb wl wk wo fa mn mg mw mP o) := eD_of hJ rfl
    refine lv_aload_n hx hb dX1_pass_28 rfl (lv_at hl 1 rfl) ?_
    refine lv_aload_n hx hb dX1_pass_29 rfl (lv_at hl 2 rfl) ?_
    refine va_get (D := D) (ci := 2) (v := .ref (ad 6)) (C := RX2) (T := TX2) (N := 4) hx hb hts (fun w h => List.mem_cons_of_mem _ (inX2 w h)) hown hK hP 1 rfl rfl 2 (by decide) (eT_h hts tw33) (fun _ h9 => h9) rfl dX1_pass_30 ?_
    refine lv_iload_n hx hb dX1_pass_33 rfl (lv_at hl 3 rfl) ?_
    refine va_zald hx hb hK hP 6 1 rfl rfl (vp_in_nI (n := i) (by omega) (by decide)) dX1_pass_34 ?_
    refine ef_eqi (y := ef_b (P i)) (by rw [nI_clamp (by omega)]) ?_
    refine ef_if_ne (tgt := 50) hx hb dX1_pass_35 (by decide) (fun h3 => ?_) (fun h3 => ?_)
    · skip
      refine lv_iconst (v := 1) hx hb dX1_pass_50 (by decide) ?_
      refine lv_goto (tgt := 55) hx hb dX1_pass_51 (by decide) ?_
      refine ef_eqi (y := ef_b (P i || (gp && g i == 4))) (by simp [ef_b, h3]) ?_
      refine va_put (D := D) (ci := 1) (v := .int (ef_b (P i || (gp && g i == 4)))) (ty := .boolean) (C := RX1) (T := TX1) (N := 4) hx hb hts (fun w h => List.mem_cons_of_mem _ (inX1 w h)) tyX1 tyX1_ok nmX1 hown hK hP hD hS 9 rfl rfl 2 (by decide) (eT_h hts tw62) (fun _ h9 => h9) rfl (by decide +kernel) (ef_nar _) (ef_fit _) (Nat.le_of_ble_eq_true rfl) dX1_pass_55 (fun H locs hP hD hS => ?_)
      have hP : va_P D vwCl (cw ad cI cZ cJ n g w P gm wm gs wz gb go (P i || (gp && g i == 4)) (gp && g i == 5) wb wl wk wo fa mn mg mw mP o) H := hP
      have hD : va_D (eA ad) (cw ad cI cZ cJ n g w P gm wm gs wz gb go (P i || (gp && g i == 4)) (gp && g i == 5) wb wl wk wo fa mn mg mw mP o) := hD
      exact L58  ls H locs hl  hP hS
    · skip
      refine lv_aload_n hx hb dX1_pass_38 rfl (lv_at hl 1 rfl) ?_
      refine va_get (D := D) (ci := 1) (v := .int (ef_b gp)) (C := RX1) (T := TX1) (N := 4) hx hb hts (fun w h => List.mem_cons_of_mem _ (inX1 w h)) hown hK hP 9 rfl rfl 2 (by decide) (eT_h hts tw62) (fun _ h9 => h9) rfl dX1_pass_39 ?_
      refine ef_if_eq (tgt := 54) hx hb dX1_pass_42 (by decide) (fun h4 => ?_) (fun h4 => ?_)
      · skip
        refine lv_iconst (v := 0) hx hb dX1_pass_54 (by decide) ?_
        refine ef_eqi (y := ef_b (P i || (gp && g i == 4))) (by simp [ef_b, h3, h4]) ?_
        refine va_put (D := D) (ci := 1) (v := .int (ef_b (P i || (gp && g i == 4)))) (ty := .boolean) (C := RX1) (T := TX1) (N := 4) hx hb hts (fun w h => List.mem_cons_of_mem _ (inX1 w h)) tyX1 tyX1_ok nmX1 hown hK hP hD hS 9 rfl rfl 2 (by decide) (eT_h hts tw62) (fun _ h9 => h9) rfl (by decide +kernel) (ef_nar _) (ef_fit _) (Nat.le_of_ble_eq_true rfl) dX1_pass_55 (fun H locs hP hD hS => ?_)
        have hP : va_P D vwCl (cw ad cI cZ cJ n g w P gm wm gs wz gb go (P i || (gp && g i == 4)) (gp && g i == 5) wb wl wk wo fa mn mg mw mP o) H := hP
        have hD : va_D (eA ad) (cw ad cI cZ cJ n g w P gm wm gs wz gb go (P i || (gp && g i == 4)) (gp && g i == 5) wb wl wk wo fa mn mg mw mP o) := hD
        exact L58  ls H locs hl  hP hS
      · skip
        refine lv_iload_n hx hb dX1_pass_45 rfl (lv_at hl 0 rfl) ?_
        refine lv_iconst (v := 4) hx hb dX1_pass_46 (by decide) ?_
        refine lv_icmp_ne (tgt := 54) hx hb dX1_pass_47 (by decide) (fun h5 => ?_) (fun h5 => ?_)
        · skip
          refine lv_iconst (v := 0) hx hb dX1_pass_54 (by decide) ?_
          refine ef_eqi (y := ef_b (P i || (gp && g i == 4))) (by simp [ef_b, h3, h4, h5]) ?_
          refine va_put (D := D) (ci := 1) (v := .int (ef_b (P i || (gp && g i == 4)))) (ty := .boolean) (C := RX1) (T := TX1) (N := 4) hx hb hts (fun w h => List.mem_cons_of_mem _ (inX1 w h)) tyX1 tyX1_ok nmX1 hown hK hP hD hS 9 rfl rfl 2 (by decide) (eT_h hts tw62) (fun _ h9 => h9) rfl (by decide +kernel) (ef_nar _) (ef_fit _) (Nat.le_of_ble_eq_true rfl) dX1_pass_55 (fun H locs hP hD hS => ?_)
          have hP : va_P D vwCl (cw ad cI cZ cJ n g w P gm wm gs wz gb go (P i || (gp && g i == 4)) (gp && g i == 5) wb wl wk wo fa mn mg mw mP o) H := hP
          have hD : va_D (eA ad) (cw ad cI cZ cJ n g w P gm wm gs wz gb go (P i || (gp && g i == 4)) (gp && g i == 5) wb wl wk wo fa mn mg mw mP o) := hD
          exact L58  ls H locs hl  hP hS
        · skip
          refine lv_iconst (v := 1) hx hb dX1_pass_50 (by decide) ?_
          refine lv_goto (tgt := 55) hx hb dX1_pass_51 (by decide) ?_
          refine ef_eqi (y := ef_b (P i || (gp && g i == 4))) (by simp [ef_b, h3, h4, h5]) ?_
          refine va_put (D := D) (ci := 1) (v := .int (ef_b (P i || (gp && g i == 4)))) (ty := .boolean) (C := RX1) (T := TX1) (N := 4) hx hb hts (fun w h => List.mem_cons_of_mem _ (inX1 w h)) tyX1 tyX1_ok nmX1 hown hK hP hD hS 9 rfl rfl 2 (by decide) (eT_h hts tw62) (fun _ h9 => h9) rfl (by decide +kernel) (ef_nar _) (ef_fit _) (Nat.le_of_ble_eq_true rfl) dX1_pass_55 (fun H locs hP hD hS => ?_)
          have hP : va_P D vwCl (cw ad cI cZ cJ n g w P gm wm gs wz gb go (P i || (gp && g i == 4)) (gp && g i == 5) wb wl wk wo fa mn mg mw mP o) H := hP
          have hD : va_D (eA ad) (cw ad cI cZ cJ n g w P gm wm gs wz gb go (P i || (gp && g i == 4)) (gp && g i == 5) wb wl wk wo fa mn mg mw mP o) := hD
          exact L58  ls H locs hl  hP hS
  have hS : va_S (eA ad) s.heap s.heap [] := va_S.rf
  have hD : va_D (eA ad) (cw ad cI cZ cJ n g w P gm wm gs wz gb go gp gj wb wl wk wo fa mn mg mw mP o) := eD_of hJ rfl
  refine lv_aload_n hx hb dX1_pass_0 rfl (lv_at hl 1 rfl) ?_
  refine va_get (D := D) (ci := 2) (v := .ref (ad 4)) (C := RX2) (T := TX2) (N := 4) hx hb hts (fun w h => List.mem_cons_of_mem _ (inX2 w h)) hown hK hP 1 rfl rfl 0 (by decide) (eT_h hts tw28) (fun _ h9 => h9) rfl dX1_pass_1 ?_
  refine lv_iload_n hx hb dX1_pass_4 rfl (lv_at hl 2 rfl) ?_
  refine va_iald hx hb hK hP 4 0 rfl rfl (vp_in_nI (n := i) (by omega) (by decide)) dX1_pass_5 ?_
  refine ef_eqi (y := g i) (by rw [nI_clamp (by omega)]) ?_
  refine lv_istore_n (lv' := [(3, .int (g i)), (0, .ref (ad 9)), (1, .ref (ad 1)), (2, .int (nI i))]) hx hb dX1_pass_6 rfl hl (Nat.le_of_ble_eq_true rfl) rfl (fun ls hl => ?_)
  refine lv_aload_n hx hb dX1_pass_7 rfl (lv_at hl 1 rfl) ?_
  refine lv_aload_n hx hb dX1_pass_8 rfl (lv_at hl 1 rfl) ?_
  refine va_get (D := D) (ci := 1) (v := .int (ef_b gp)) (C := RX1) (T := TX1) (N := 4) hx hb hts (fun w h => List.mem_cons_of_mem _ (inX1 w h)) hown hK hP 9 rfl rfl 2 (by decide) (eT_h hts tw62) (fun _ h9 => h9) rfl dX1_pass_9 ?_
  refine ef_if_eq (tgt := 24) hx hb dX1_pass_12 (by decide) (fun h6 => ?_) (fun h6 => ?_)
  · skip
    refine lv_iconst (v := 0) hx hb dX1_pass_24 (by decide) ?_
    refine ef_eqi (y := ef_b (gp && g i == 5)) (by simp [ef_b, h6]) ?_
    refine va_put (D := D) (ci := 1) (v := .int (ef_b (gp && g i == 5))) (ty := .boolean) (C := RX1) (T := TX1) (N := 4) hx hb hts (fun w h => List.mem_cons_of_mem _ (inX1 w h)) tyX1 tyX1_ok nmX1 hown hK hP hD hS 9 rfl rfl 3 (by decide) (eT_h hts tw63) (fun _ h9 => h9) rfl (by decide +kernel) (ef_nar _) (ef_fit _) (Nat.le_of_ble_eq_true rfl) dX1_pass_25 (fun H locs hP hD hS => ?_)
    have hP : va_P D vwCl (cw ad cI cZ cJ n g w P gm wm gs wz gb go gp (gp && g i == 5) wb wl wk wo fa mn mg mw mP o) H := hP
    have hD : va_D (eA ad) (cw ad cI cZ cJ n g w P gm wm gs wz gb go gp (gp && g i == 5) wb wl wk wo fa mn mg mw mP o) := hD
    exact L28  ls H locs hl  hP hS
  · skip
    refine lv_iload_n hx hb dX1_pass_15 rfl (lv_at hl 0 rfl) ?_
    refine lv_iconst (v := 5) hx hb dX1_pass_16 (by decide) ?_
    refine lv_icmp_ne (tgt := 24) hx hb dX1_pass_17 (by decide) (fun h7 => ?_) (fun h7 => ?_)
    · skip
      refine lv_iconst (v := 0) hx hb dX1_pass_24 (by decide) ?_
      refine ef_eqi (y := ef_b (gp && g i == 5)) (by simp [ef_b, h6, h7]) ?_
      refine va_put (D := D) (ci := 1) (v := .int (ef_b (gp && g i == 5))) (ty := .boolean) (C := RX1) (T := TX1) (N := 4) hx hb hts (fun w h => List.mem_cons_of_mem _ (inX1 w h)) tyX1 tyX1_ok nmX1 hown hK hP hD hS 9 rfl rfl 3 (by decide) (eT_h hts tw63) (fun _ h9 => h9) rfl (by decide +kernel) (ef_nar _) (ef_fit _) (Nat.le_of_ble_eq_true rfl) dX1_pass_25 (fun H locs hP hD hS => ?_)
      have hP : va_P D vwCl (cw ad cI cZ cJ n g w P gm wm gs wz gb go gp (gp && g i == 5) wb wl wk wo fa mn mg mw mP o) H := hP
      have hD : va_D (eA ad) (cw ad cI cZ cJ n g w P gm wm gs wz gb go gp (gp && g i == 5) wb wl wk wo fa mn mg mw mP o) := hD
      exact L28  ls H locs hl  hP hS
    · skip
      refine lv_iconst (v := 1) hx hb dX1_pass_20 (by decide) ?_
      refine lv_goto (tgt := 25) hx hb dX1_pass_21 (by decide) ?_
      refine ef_eqi (y := ef_b (gp && g i == 5)) (by simp [ef_b, h6, h7]) ?_
      refine va_put (D := D) (ci := 1) (v := .int (ef_b (gp && g i == 5))) (ty := .boolean) (C := RX1) (T := TX1) (N := 4) hx hb hts (fun w h => List.mem_cons_of_mem _ (inX1 w h)) tyX1 tyX1_ok nmX1 hown hK hP hD hS 9 rfl rfl 3 (by decide) (eT_h hts tw63) (fun _ h9 => h9) rfl (by decide +kernel) (ef_nar _) (ef_fit _) (Nat.le_of_ble_eq_true rfl) dX1_pass_25 (fun H locs hP hD hS => ?_)
      have hP : va_P D vwCl (cw ad cI cZ cJ n g w P gm wm gs wz gb go gp (gp && g i == 5) wb wl wk wo fa mn mg mw mP o) H := hP
      have hD : va_D (eA ad) (cw ad cI cZ cJ n g w P gm wm gs wz gb go gp (gp && g i == 5) wb wl wk wo fa mn mg mw mP o) := hD
      exact L28  ls H locs hl  hP hS
end
section
set_option maxHeartbeats 4000000 in
set_option maxRecDepth 100000 in
theorem c_X4_pass_true (l : Launch) (D : va_G) (cI cZ cJ : ClassId) (ad : Nat → Nat) (hJ : eJ ad) (n : Nat) (g : Nat → Int32) (w : Nat → Int32) (P : Nat → Bool) (gm : Nat → Bool) (wm : Nat → Bool) (gs : Bool) (wz : Bool) (gb : Int32) (go : Bool) (gp : Bool) (gj : Bool) (wb : Int32) (wl : Int32) (wk : Int32) (wo : Bool) (fa : Int32) (mn : Nat) (mg : Nat → Int32) (mw : Nat → Int32) (mP : Nat → Bool) (o : Nat → Int64) (i : Nat) (hi : i < 1000) (hc : (!ew_at (w i) || wb == -1 || ew_le wb) = true) : ec_M l yX4_pass (Cond.code yX4_pass cX4_pass 5 none :: eT) ({ frames := 1, cells := 0, slots := 0, locals := 20 }) D (eTy cI cZ cJ) [.ref (ad 10), .ref (ad 1), .int (nI i)] (cw ad cI cZ cJ n g w P gm wm gs wz gb go gp gj wb wl wk wo fa mn mg mw mP o) (ed none (cw ad cI cZ cJ n g w P gm wm gs wz gb go gp gj (w i) (w i) wl (w i == 6 && !wo) fa mn mg mw mP o)) (eA ad) := by
  refine ec_of (cc := cX4_pass) (maxL := 5) (ret := none) (by decide) rfl (Nat.le_of_ble_eq_true rfl) ?_
  intro p e s m args below meth c ls hx hb hr hts hown hlk hml hP hK hN hl
  have hown : s.vm.findClass RX4 = some m.cls := hown
  have hl : lv_has ls 5 [(0, .ref (ad 10)), (1, .ref (ad 1)), (2, .int (nI i))] := hl
  have L79 : ∀ (ls : Array Slot) (H : Heap) (locs : List Loc), lv_has ls 5 [(3, .int (w i)), (0, .ref (ad 10)), (1, .ref (ad 1)), (2, .int (nI i))] → va_P D vwCl (cw ad cI cZ cJ n g w P gm wm gs wz gb go gp gj wb (w i) wl (w i == 6 && !wo) fa mn mg mw mP o) H → va_S (eA ad) s.heap H locs → W p l e ({ frames := 1, cells := 0, slots := 0, locals := 20 }) s m args below meth c H locs 0 0 (MQ below (ec_Q D (ed none (cw ad cI cZ cJ n g w P gm wm gs wz gb go gp gj (w i) (w i) wl (w i == 6 && !wo) fa mn mg mw mP o)) (eA ad)) args s 0 0 (eA ad)) (F0 m 79 ls []) := by
    intro ls H locs hl hP hS
    have hD : va_D (eA ad) (cw ad cI cZ cJ n g w P gm wm gs wz gb go gp gj wb (w i) wl (w i == 6 && !wo) fa mn mg mw mP o) := eD_of hJ rfl
    refine lv_aload_n hx hb dX4_pass_79 rfl (lv_at hl 1 rfl) ?_
    refine lv_iload_n hx hb dX4_pass_80 rfl (lv_at hl 0 rfl) ?_
    refine va_put (D := D) (ci := 3) (v := .int (w i)) (ty := .int) (C := RX4) (T := TX4) (N := 4) hx hb hts (fun w h => List.mem_cons_of_mem _ (inX4 w h)) tyX4 tyX4_ok nmX4 hown hK hP hD hS 10 rfl rfl 0 (by decide) (eT_h hts tw95) (fun _ h9 => h9) rfl (by decide +kernel) rfl rfl (Nat.le_of_ble_eq_true rfl) dX4_pass_81 (fun H locs hP hD hS => ?_)
    have hP : va_P D vwCl (cw ad cI cZ cJ n g w P gm wm gs wz gb go gp gj (w i) (w i) wl (w i == 6 && !wo) fa mn mg mw mP o) H := hP
    have hD : va_D (eA ad) (cw ad cI cZ cJ n g w P gm wm gs wz gb go gp gj (w i) (w i) wl (w i == 6 && !wo) fa mn mg mw mP o) := hD
    exact ec_vret hx hb hr hlk hP hS ⟨rfl, rfl⟩ dX4_pass_84
  have L39 : ∀ (ls : Array Slot) (H : Heap) (locs : List Loc), lv_has ls 5 [(4, .int (ef_b true)), (3, .int (w i)), (0, .ref (ad 10)), (1, .ref (ad 1)), (2, .int (nI i))] → va_P D vwCl (cw ad cI cZ cJ n g w P gm wm gs wz gb go gp gj wb wl wk wo fa mn mg mw mP o) H → va_S (eA ad) s.heap H locs → W p l e ({ frames := 1, cells := 0, slots := 0, locals := 20 }) s m args below meth c H locs 0 0 (MQ below (ec_Q D (ed none (cw ad cI cZ cJ n g w P gm wm gs wz gb go gp gj (w i) (w i) wl (w i == 6 && !wo) fa mn mg mw mP o)) (eA ad)) args s 0 0 (eA ad)) (F0 m 39 ls []) := by
    intro ls H locs hl hP hS
    have hD : va_D (eA ad) (cw ad cI cZ cJ n g w P gm wm gs wz gb go gp gj wb wl wk wo fa mn mg mw mP o) := eD_of hJ rfl
    refine lv_iload hx hb dX4_pass_39 (lv_at hl 0 rfl) ?_
    refine ef_if_eq (tgt := 79) hx hb dX4_pass_41 (by decide) (fun h1 => ?_) (fun h1 => ?_)
    · skip
      exact Bool.noConfusion h1
    · skip
      refine lv_aload_n hx hb dX4_pass_44 rfl (lv_at hl 2 rfl) ?_
      refine lv_aload_n hx hb dX4_pass_45 rfl (lv_at hl 2 rfl) ?_
      refine va_get (D := D) (ci := 3) (v := .int wl) (C := RX4) (T := TX4) (N := 4) hx hb hts (fun w h => List.mem_cons_of_mem _ (inX4 w h)) hown hK hP 10 rfl rfl 1 (by decide) (eT_h hts tw96) (fun _ h9 => h9) rfl dX4_pass_46 ?_
      refine va_put (D := D) (ci := 3) (v := .int wl) (ty := .int) (C := RX4) (T := TX4) (N := 4) hx hb hts (fun w h => List.mem_cons_of_mem _ (inX4 w h)) tyX4 tyX4_ok nmX4 hown hK hP hD hS 10 rfl rfl 2 (by decide) (eT_h hts tw97) (fun _ h9 => h9) rfl (by decide +kernel) rfl rfl (Nat.le_of_ble_eq_true rfl) dX4_pass_49 (fun H locs hP hD hS => ?_)
      have hP : va_P D vwCl (cw ad cI cZ cJ n g w P gm wm gs wz gb go gp gj wb wl wl wo fa mn mg mw mP o) H := hP
      have hD : va_D (eA ad) (cw ad cI cZ cJ n g w P gm wm gs wz gb go gp gj wb wl wl wo fa mn mg mw mP o) := hD
      refine lv_aload_n hx hb dX4_pass_52 rfl (lv_at hl 2 rfl) ?_
      refine lv_iload_n hx hb dX4_pass_53 rfl (lv_at hl 1 rfl) ?_
      refine va_put (D := D) (ci := 3) (v := .int (w i)) (ty := .int) (C := RX4) (T := TX4) (N := 4) hx hb hts (fun w h => List.mem_cons_of_mem _ (inX4 w h)) tyX4 tyX4_ok nmX4 hown hK hP hD hS 10 rfl rfl 1 (by decide) (eT_h hts tw96) (fun _ h9 => h9) rfl (by decide +kernel) rfl rfl (Nat.le_of_ble_eq_true rfl) dX4_pass_54 (fun H locs hP hD hS => ?_)
      have hP : va_P D vwCl (cw ad cI cZ cJ n g w P gm wm gs wz gb go gp gj wb (w i) wl wo fa mn mg mw mP o) H := hP
      have hD : va_D (eA ad) (cw ad cI cZ cJ n g w P gm wm gs wz gb go gp gj wb (w i) wl wo fa mn mg mw mP o) := hD
      refine lv_aload_n hx hb dX4_pass_57 rfl (lv_at hl 2 rfl) ?_
      refine lv_iload_n hx hb dX4_pass_58 rfl (lv_at hl 1 rfl) ?_
      refine lv_bipush (v := 6) hx hb dX4_pass_59 (by decide) ?_
      refine lv_icmp_ne (tgt := 75) hx hb dX4_pass_61 (by decide) (fun h2 => ?_) (fun h2 => ?_)
      · skip
        refine lv_iconst (v := 0) hx hb dX4_pass_75 (by decide) ?_
        refine ef_eqi (y := ef_b (w i == 6 && !wo)) (by simp [ef_b, h1, h2]) ?_
        refine va_put (D := D) (ci := 3) (v := .int (ef_b (w i == 6 && !wo))) (ty := .boolean) (C := RX4) (T := TX4) (N := 4) hx hb hts (fun w h => List.mem_cons_of_mem _ (inX4 w h)) tyX4 tyX4_ok nmX4 hown hK hP hD hS 10 rfl rfl 3 (by decide) (eT_h hts tw98) (fun _ h9 => h9) rfl (by decide +kernel) (ef_nar _) (ef_fit _) (Nat.le_of_ble_eq_true rfl) dX4_pass_76 (fun H locs hP hD hS => ?_)
        have hP : va_P D vwCl (cw ad cI cZ cJ n g w P gm wm gs wz gb go gp gj wb (w i) wl (w i == 6 && !wo) fa mn mg mw mP o) H := hP
        have hD : va_D (eA ad) (cw ad cI cZ cJ n g w P gm wm gs wz gb go gp gj wb (w i) wl (w i == 6 && !wo) fa mn mg mw mP o) := hD
        exact L79  ls H locs (lv_sub hl [1, 2, 3, 4] rfl)  hP hS
      · skip
        refine lv_aload_n hx hb dX4_pass_64 rfl (lv_at hl 2 rfl) ?_
        refine va_get (D := D) (ci := 3) (v := .int (ef_b wo)) (C := RX4) (T := TX4) (N := 4) hx hb hts (fun w h => List.mem_cons_of_mem _ (inX4 w h)) hown hK hP 10 rfl rfl 3 (by decide) (eT_h hts tw98) (fun _ h9 => h9) rfl dX4_pass_65 ?_
        refine ef_if_ne (tgt := 75) hx hb dX4_pass_68 (by decide) (fun h3 => ?_) (fun h3 => ?_)
        · skip
          refine lv_iconst (v := 0) hx hb dX4_pass_75 (by decide) ?_
          refine ef_eqi (y := ef_b (w i == 6 && !wo)) (by simp [ef_b, h1, h2, h3]) ?_
          refine va_put (D := D) (ci := 3) (v := .int (ef_b (w i == 6 && !wo))) (ty := .boolean) (C := RX4) (T := TX4) (N := 4) hx hb hts (fun w h => List.mem_cons_of_mem _ (inX4 w h)) tyX4 tyX4_ok nmX4 hown hK hP hD hS 10 rfl rfl 3 (by decide) (eT_h hts tw98) (fun _ h9 => h9) rfl (by decide +kernel) (ef_nar _) (ef_fit _) (Nat.le_of_ble_eq_true rfl) dX4_pass_76 (fun H locs hP hD hS => ?_)
          have hP : va_P D vwCl (cw ad cI cZ cJ n g w P gm wm gs wz gb go gp gj wb (w i) wl (w i == 6 && !wo) fa mn mg mw mP o) H := hP
          have hD : va_D (eA ad) (cw ad cI cZ cJ n g w P gm wm gs wz gb go gp gj wb (w i) wl (w i == 6 && !wo) fa mn mg mw mP o) := hD
          exact L79  ls H locs (lv_sub hl [1, 2, 3, 4] rfl)  hP hS
        · skip
          refine lv_iconst (v := 1) hx hb dX4_pass_71 (by decide) ?_
          refine lv_goto (tgt := 76) hx hb dX4_pass_72 (by decide) ?_
          refine ef_eqi (y := ef_b (w i == 6 && !wo)) (by simp [ef_b, h1, h2, h3]) ?_
          refine va_put (D := D) (ci := 3) (v := .int (ef_b (w i == 6 && !wo))) (ty := .boolean) (C := RX4) (T := TX4) (N := 4) hx hb hts (fun w h => List.mem_cons_of_mem _ (inX4 w h)) tyX4 tyX4_ok nmX4 hown hK hP hD hS 10 rfl rfl 3 (by decide) (eT_h hts tw98) (fun _ h9 => h9) rfl (by decide +kernel) (ef_nar _) (ef_fit _) (Nat.le_of_ble_eq_true rfl) dX4_pass_76 (fun H locs hP hD hS => ?_)
          have hP : va_P D vwCl (cw ad cI cZ cJ n g w P gm wm gs wz gb go gp gj wb (w i) wl (w i == 6 && !wo) fa mn mg mw mP o) H := hP
          have hD : va_D (eA ad) (cw ad cI cZ cJ n g w P gm wm gs wz gb go gp gj wb (w i) wl (w i == 6 && !wo) fa mn mg mw mP o) := hD
          exact L79  ls H locs (lv_sub hl [1, 2, 3, 4] rfl)  hP hS
  have hS : va_S (eA ad) s.heap s.heap [] := va_S.rf
  have hD : va_D (eA ad) (cw ad cI cZ cJ n g w P gm wm gs wz gb go gp gj wb wl wk wo fa mn mg mw mP o) := eD_of hJ rfl
  refine lv_aload_n hx hb dX4_pass_0 rfl (lv_at hl 1 rfl) ?_
  refine va_get (D := D) (ci := 2) (v := .ref (ad 5)) (C := RX2) (T := TX2) (N := 4) hx hb hts (fun w h => List.mem_cons_of_mem _ (inX2 w h)) hown hK hP 1 rfl rfl 1 (by decide) (eT_h hts tw30) (fun _ h9 => h9) rfl dX4_pass_1 ?_
  refine lv_iload_n hx hb dX4_pass_4 rfl (lv_at hl 2 rfl) ?_
  refine va_iald hx hb hK hP 5 0 rfl rfl (vp_in_nI (n := i) (by omega) (by decide)) dX4_pass_5 ?_
  refine ef_eqi (y := w i) (by rw [nI_clamp (by omega)]) ?_
  refine lv_istore_n (lv' := [(3, .int (w i)), (0, .ref (ad 10)), (1, .ref (ad 1)), (2, .int (nI i))]) hx hb dX4_pass_6 rfl hl (Nat.le_of_ble_eq_true rfl) rfl (fun ls hl => ?_)
  refine lv_iload_n hx hb dX4_pass_7 rfl (lv_at hl 0 rfl) ?_
  refine er_S (own := RX4) (rest := []) hx hb hml hown hts hl.1 (k_X4_isAttached l D cI cZ cJ (w i)) tw280 tw6 tw278 tw279 yd_X4_isAttached rfl rfl ⟨Nat.le_of_ble_eq_true rfl, Nat.le_of_ble_eq_true rfl⟩ er_nil hK rfl rfl (Nat.le_of_ble_eq_true rfl) ⟨Nat.zero_le _, Nat.zero_le _⟩ dX4_pass_8 ?_
  refine ef_if_eq (tgt := 32) hx hb dX4_pass_11 (by decide) (fun h4 => ?_) (fun h4 => ?_)
  · skip
    refine lv_iconst (v := 1) hx hb dX4_pass_32 (by decide) ?_
    refine lv_goto (tgt := 37) hx hb dX4_pass_33 (by decide) ?_
    refine ef_eqi (y := ef_b true) (by decide) ?_
    refine lv_istore (lv' := [(4, .int (ef_b true)), (3, .int (w i)), (0, .ref (ad 10)), (1, .ref (ad 1)), (2, .int (nI i))]) hx hb dX4_pass_37 hl (Nat.le_of_ble_eq_true rfl) rfl (fun ls hl => ?_)
    exact L39  ls s.heap [] hl  hP hS
  · skip
    refine lv_aload_n hx hb dX4_pass_14 rfl (lv_at hl 1 rfl) ?_
    refine va_get (D := D) (ci := 3) (v := .int wb) (C := RX4) (T := TX4) (N := 4) hx hb hts (fun w h => List.mem_cons_of_mem _ (inX4 w h)) hown hK hP 10 rfl rfl 0 (by decide) (eT_h hts tw95) (fun _ h9 => h9) rfl dX4_pass_15 ?_
    refine lv_iconst (v := (-1)) hx hb dX4_pass_18 (by decide) ?_
    refine lv_icmp_eq (tgt := 32) hx hb dX4_pass_19 (by decide) (fun h5 => ?_) (fun h5 => ?_)
    · skip
      refine lv_iconst (v := 1) hx hb dX4_pass_32 (by decide) ?_
      refine lv_goto (tgt := 37) hx hb dX4_pass_33 (by decide) ?_
      refine ef_eqi (y := ef_b true) (by decide) ?_
      refine lv_istore (lv' := [(4, .int (ef_b true)), (3, .int (w i)), (0, .ref (ad 10)), (1, .ref (ad 1)), (2, .int (nI i))]) hx hb dX4_pass_37 hl (Nat.le_of_ble_eq_true rfl) rfl (fun ls hl => ?_)
      exact L39  ls s.heap [] hl  hP hS
    · skip
      refine lv_aload_n hx hb dX4_pass_22 rfl (lv_at hl 1 rfl) ?_
      refine va_get (D := D) (ci := 3) (v := .int wb) (C := RX4) (T := TX4) (N := 4) hx hb hts (fun w h => List.mem_cons_of_mem _ (inX4 w h)) hown hK hP 10 rfl rfl 0 (by decide) (eT_h hts tw95) (fun _ h9 => h9) rfl dX4_pass_23 ?_
      refine er_S (own := RX4) (rest := []) hx hb hml hown hts hl.1 (k_X4_isLineEnd l D cI cZ cJ wb) tw277 tw6 tw275 tw276 yd_X4_isLineEnd rfl rfl ⟨Nat.le_of_ble_eq_true rfl, Nat.le_of_ble_eq_true rfl⟩ er_nil hK rfl rfl (Nat.le_of_ble_eq_true rfl) ⟨Nat.zero_le _, Nat.zero_le _⟩ dX4_pass_26 ?_
      refine ef_if_eq (tgt := 36) hx hb dX4_pass_29 (by decide) (fun h6 => ?_) (fun h6 => ?_)
      · skip
        refine lv_iconst (v := 0) hx hb dX4_pass_36 (by decide) ?_
        exact absurd hc (by simp [h4, h5, h6])
      · skip
        refine lv_iconst (v := 1) hx hb dX4_pass_32 (by decide) ?_
        refine lv_goto (tgt := 37) hx hb dX4_pass_33 (by decide) ?_
        refine ef_eqi (y := ef_b true) (by decide) ?_
        refine lv_istore (lv' := [(4, .int (ef_b true)), (3, .int (w i)), (0, .ref (ad 10)), (1, .ref (ad 1)), (2, .int (nI i))]) hx hb dX4_pass_37 hl (Nat.le_of_ble_eq_true rfl) rfl (fun ls hl => ?_)
        exact L39  ls s.heap [] hl  hP hS

set_option maxHeartbeats 4000000 in
set_option maxRecDepth 100000 in
theorem c_X4_pass_false (l : Launch) (D : va_G) (cI cZ cJ : ClassId) (ad : Nat → Nat) (hJ : eJ ad) (n : Nat) (g : Nat → Int32) (w : Nat → Int32) (P : Nat → Bool) (gm : Nat → Bool) (wm : Nat → Bool) (gs : Bool) (wz : Bool) (gb : Int32) (go : Bool) (gp : Bool) (gj : Bool) (wb : Int32) (wl : Int32) (wk : Int32) (wo : Bool) (fa : Int32) (mn : Nat) (mg : Nat → Int32) (mw : Nat → Int32) (mP : Nat → Bool) (o : Nat → Int64) (i : Nat) (hi : i < 1000) (hc : (!ew_at (w i) || wb == -1 || ew_le wb) = false) : ec_M l yX4_pass (Cond.code yX4_pass cX4_pass 5 none :: eT) ({ frames := 1, cells := 0, slots := 0, locals := 20 }) D (eTy cI cZ cJ) [.ref (ad 10), .ref (ad 1), .int (nI i)] (cw ad cI cZ cJ n g w P gm wm gs wz gb go gp gj wb wl wk wo fa mn mg mw mP o) (ed none (cw ad cI cZ cJ n g w P gm wm gs wz gb go gp gj (w i) wl wk wo fa mn mg mw mP o)) (eA ad) := by
  refine ec_of (cc := cX4_pass) (maxL := 5) (ret := none) (by decide) rfl (Nat.le_of_ble_eq_true rfl) ?_
  intro p e s m args below meth c ls hx hb hr hts hown hlk hml hP hK hN hl
  have hown : s.vm.findClass RX4 = some m.cls := hown
  have hl : lv_has ls 5 [(0, .ref (ad 10)), (1, .ref (ad 1)), (2, .int (nI i))] := hl
  have L79 : ∀ (ls : Array Slot) (H : Heap) (locs : List Loc), lv_has ls 5 [(3, .int (w i)), (0, .ref (ad 10)), (1, .ref (ad 1)), (2, .int (nI i))] → va_P D vwCl (cw ad cI cZ cJ n g w P gm wm gs wz gb go gp gj wb wl wk wo fa mn mg mw mP o) H → va_S (eA ad) s.heap H locs → W p l e ({ frames := 1, cells := 0, slots := 0, locals := 20 }) s m args below meth c H locs 0 0 (MQ below (ec_Q D (ed none (cw ad cI cZ cJ n g w P gm wm gs wz gb go gp gj (w i) wl wk wo fa mn mg mw mP o)) (eA ad)) args s 0 0 (eA ad)) (F0 m 79 ls []) := by
    intro ls H locs hl hP hS
    have hD : va_D (eA ad) (cw ad cI cZ cJ n g w P gm wm gs wz gb go gp gj wb wl wk wo fa mn mg mw mP o) := eD_of hJ rfl
    refine lv_aload_n hx hb dX4_pass_79 rfl (lv_at hl 1 rfl) ?_
    refine lv_iload_n hx hb dX4_pass_80 rfl (lv_at hl 0 rfl) ?_
    refine va_put (D := D) (ci := 3) (v := .int (w i)) (ty := .int) (C := RX4) (T := TX4) (N := 4) hx hb hts (fun w h => List.mem_cons_of_mem _ (inX4 w h)) tyX4 tyX4_ok nmX4 hown hK hP hD hS 10 rfl rfl 0 (by decide) (eT_h hts tw95) (fun _ h9 => h9) rfl (by decide +kernel) rfl rfl (Nat.le_of_ble_eq_true rfl) dX4_pass_81 (fun H locs hP hD hS => ?_)
    have hP : va_P D vwCl (cw ad cI cZ cJ n g w P gm wm gs wz gb go gp gj (w i) wl wk wo fa mn mg mw mP o) H := hP
    have hD : va_D (eA ad) (cw ad cI cZ cJ n g w P gm wm gs wz gb go gp gj (w i) wl wk wo fa mn mg mw mP o) := hD
    exact ec_vret hx hb hr hlk hP hS ⟨rfl, rfl⟩ dX4_pass_84
  have L39 : ∀ (ls : Array Slot) (H : Heap) (locs : List Loc), lv_has ls 5 [(4, .int (ef_b false)), (3, .int (w i)), (0, .ref (ad 10)), (1, .ref (ad 1)), (2, .int (nI i))] → va_P D vwCl (cw ad cI cZ cJ n g w P gm wm gs wz gb go gp gj wb wl wk wo fa mn mg mw mP o) H → va_S (eA ad) s.heap H locs → W p l e ({ frames := 1, cells := 0, slots := 0, locals := 20 }) s m args below meth c H locs 0 0 (MQ below (ec_Q D (ed none (cw ad cI cZ cJ n g w P gm wm gs wz gb go gp gj (w i) wl wk wo fa mn mg mw mP o)) (eA ad)) args s 0 0 (eA ad)) (F0 m 39 ls []) := by
    intro ls H locs hl hP hS
    have hD : va_D (eA ad) (cw ad cI cZ cJ n g w P gm wm gs wz gb go gp gj wb wl wk wo fa mn mg mw mP o) := eD_of hJ rfl
    refine lv_iload hx hb dX4_pass_39 (lv_at hl 0 rfl) ?_
    refine ef_if_eq (tgt := 79) hx hb dX4_pass_41 (by decide) (fun h1 => ?_) (fun h1 => ?_)
    · skip
      exact L79  ls H locs (lv_sub hl [1, 2, 3, 4] rfl)  hP hS
    · skip
      exact Bool.noConfusion h1
  have hS : va_S (eA ad) s.heap s.heap [] := va_S.rf
  have hD : va_D (eA ad) (cw ad cI cZ cJ n g w P gm wm gs wz gb go gp gj wb wl wk wo fa mn mg mw mP o) := eD_of hJ rfl
  refine lv_aload_n hx hb dX4_pass_0 rfl (lv_at hl 1 rfl) ?_
  refine va_get (D := D) (ci := 2) (v := .ref (ad 5)) (C := RX2) (T := TX2) (N := 4) hx hb hts (fun w h => List.mem_cons_of_mem _ (inX2 w h)) hown hK hP 1 rfl rfl 1 (by decide) (eT_h hts tw30) (fun _ h9 => h9) rfl dX4_pass_1 ?_
  refine lv_iload_n hx hb dX4_pass_4 rfl (lv_at hl 2 rfl) ?_
  refine va_iald hx hb hK hP 5 0 rfl rfl (vp_in_nI (n := i) (by omega) (by decide)) dX4_pass_5 ?_
  refine ef_eqi (y := w i) (by rw [nI_clamp (by omega)]) ?_
  refine lv_istore_n (lv' := [(3, .int (w i)), (0, .ref (ad 10)), (1, .ref (ad 1)), (2, .int (nI i))]) hx hb dX4_pass_6 rfl hl (Nat.le_of_ble_eq_true rfl) rfl (fun ls hl => ?_)
  refine lv_iload_n hx hb dX4_pass_7 rfl (lv_at hl 0 rfl) ?_
  refine er_S (own := RX4) (rest := []) hx hb hml hown hts hl.1 (k_X4_isAttached l D cI cZ cJ (w i)) tw280 tw6 tw278 tw279 yd_X4_isAttached rfl rfl ⟨Nat.le_of_ble_eq_true rfl, Nat.le_of_ble_eq_true rfl⟩ er_nil hK rfl rfl (Nat.le_of_ble_eq_true rfl) ⟨Nat.zero_le _, Nat.zero_le _⟩ dX4_pass_8 ?_
  refine ef_if_eq (tgt := 32) hx hb dX4_pass_11 (by decide) (fun h2 => ?_) (fun h2 => ?_)
  · skip
    refine lv_iconst (v := 1) hx hb dX4_pass_32 (by decide) ?_
    refine lv_goto (tgt := 37) hx hb dX4_pass_33 (by decide) ?_
    exact absurd hc (by simp [h2])
  · skip
    refine lv_aload_n hx hb dX4_pass_14 rfl (lv_at hl 1 rfl) ?_
    refine va_get (D := D) (ci := 3) (v := .int wb) (C := RX4) (T := TX4) (N := 4) hx hb hts (fun w h => List.mem_cons_of_mem _ (inX4 w h)) hown hK hP 10 rfl rfl 0 (by decide) (eT_h hts tw95) (fun _ h9 => h9) rfl dX4_pass_15 ?_
    refine lv_iconst (v := (-1)) hx hb dX4_pass_18 (by decide) ?_
    refine lv_icmp_eq (tgt := 32) hx hb dX4_pass_19 (by decide) (fun h3 => ?_) (fun h3 => ?_)
    · skip
      refine lv_iconst (v := 1) hx hb dX4_pass_32 (by decide) ?_
      refine lv_goto (tgt := 37) hx hb dX4_pass_33 (by decide) ?_
      exact absurd hc (by simp [h2, h3])
    · skip
      refine lv_aload_n hx hb dX4_pass_22 rfl (lv_at hl 1 rfl) ?_
      refine va_get (D := D) (ci := 3) (v := .int wb) (C := RX4) (T := TX4) (N := 4) hx hb hts (fun w h => List.mem_cons_of_mem _ (inX4 w h)) hown hK hP 10 rfl rfl 0 (by decide) (eT_h hts tw95) (fun _ h9 => h9) rfl dX4_pass_23 ?_
      refine er_S (own := RX4) (rest := []) hx hb hml hown hts hl.1 (k_X4_isLineEnd l D cI cZ cJ wb) tw277 tw6 tw275 tw276 yd_X4_isLineEnd rfl rfl ⟨Nat.le_of_ble_eq_true rfl, Nat.le_of_ble_eq_true rfl⟩ er_nil hK rfl rfl (Nat.le_of_ble_eq_true rfl) ⟨Nat.zero_le _, Nat.zero_le _⟩ dX4_pass_26 ?_
      refine ef_if_eq (tgt := 36) hx hb dX4_pass_29 (by decide) (fun h4 => ?_) (fun h4 => ?_)
      · skip
        refine lv_iconst (v := 0) hx hb dX4_pass_36 (by decide) ?_
        refine ef_eqi (y := ef_b false) (by decide) ?_
        refine lv_istore (lv' := [(4, .int (ef_b false)), (3, .int (w i)), (0, .ref (ad 10)), (1, .ref (ad 1)), (2, .int (nI i))]) hx hb dX4_pass_37 hl (Nat.le_of_ble_eq_true rfl) rfl (fun ls hl => ?_)
        exact L39  ls s.heap [] hl  hP hS
      · skip
        refine lv_iconst (v := 1) hx hb dX4_pass_32 (by decide) ?_
        refine lv_goto (tgt := 37) hx hb dX4_pass_33 (by decide) ?_
        exact absurd hc (by simp [h2, h3, h4])

set_option maxHeartbeats 4000000 in
set_option maxRecDepth 100000 in
theorem c_X0_find_g (l : Launch) (D : va_G) (cI cZ cJ : ClassId) (ad : Nat → Nat) (hJ : eJ ad) (n : Nat) (g : Nat → Int32) (w : Nat → Int32) (P : Nat → Bool) (gm : Nat → Bool) (wm : Nat → Bool) (gs : Bool) (wz : Bool) (gb : Int32) (go : Bool) (gp : Bool) (gj : Bool) (wb : Int32) (wl : Int32) (wk : Int32) (wo : Bool) (fa : Int32) (mn : Nat) (mg : Nat → Int32) (mw : Nat → Int32) (mP : Nat → Bool) (o : Nat → Int64)  (hn : n ≤ 1000) : ec_M l yX0_find (Cond.code yX0_find cX0_find 3 none :: eT) ({ frames := 2, cells := 0, slots := 0, locals := 44 }) D (eTy cI cZ cJ) [.ref (ad 2), .ref (ad 1)] (cw ad cI cZ cJ n g w P gm wm gs wz gb go gp gj wb wl wk wo fa mn mg mw mP o) (ed none (cw ad cI cZ cJ n g w P (ef_up (ef_fl gm (eg_M g P) n) n (decide (0 < n))) wm false wz (eg_bf g n) (eg_od g n) (eg_ap g P n) (eg_aj g P n) wb wl wk wo fa mn mg mw mP o)) (eA ad) := by
  refine ec_of (cc := cX0_find) (maxL := 3) (ret := none) (by decide) rfl (Nat.le_of_ble_eq_true rfl) ?_
  intro p e s m args below meth c ls hx hb hr hts hown hlk hml hP hK hN hl
  have hown : s.vm.findClass RX0 = some m.cls := hown
  have hl : lv_has ls 3 [(0, .ref (ad 2)), (1, .ref (ad 1))] := hl
  have L9 : ∀ (r : Nat) (i : Nat) (ls : Array Slot) (H : Heap) (locs : List Loc), lv_has ls 3 [(2, .int (nI i)), (0, .ref (ad 2)), (1, .ref (ad 1))] → i ≤ n → va_P D vwCl (cw ad cI cZ cJ n g w P (ef_fl gm (eg_M g P) i) wm gs wz (eg_bf g i) (eg_od g i) (eg_ap g P i) (eg_aj g P i) wb wl wk wo fa mn mg mw mP o) H → va_S (eA ad) s.heap H locs → n - i < r → W p l e ({ frames := 2, cells := 0, slots := 0, locals := 44 }) s m args below meth c H locs 0 0 (MQ below (ec_Q D (ed none (cw ad cI cZ cJ n g w P (ef_up (ef_fl gm (eg_M g P) n) n (decide (0 < n))) wm false wz (eg_bf g n) (eg_od g n) (eg_ap g P n) (eg_aj g P n) wb wl wk wo fa mn mg mw mP o)) (eA ad)) args s 0 0 (eA ad)) (F0 m 9 ls []) := by
    intro r
    induction r with
    | zero => intro i ls H locs hl hi hP hS hμ; exact absurd hμ (Nat.not_lt_zero _)
    | succ r ih =>
      intro i ls H locs hl hi hP hS hμ
      have hD : va_D (eA ad) (cw ad cI cZ cJ n g w P (ef_fl gm (eg_M g P) i) wm gs wz (eg_bf g i) (eg_od g i) (eg_ap g P i) (eg_aj g P i) wb wl wk wo fa mn mg mw mP o) := eD_of hJ rfl
      refine lv_iload_n hx hb dX0_find_9 rfl (lv_at hl 0 rfl) ?_
      refine lv_aload_n hx hb dX0_find_10 rfl (lv_at hl 2 rfl) ?_
      refine va_get (D := D) (ci := 2) (v := .int (nI n)) (C := RX2) (T := TX2) (N := 4) hx hb hts (fun w h => List.mem_cons_of_mem _ (inX2 w h)) hown hK hP 1 rfl rfl 3 (by decide) (eT_h hts tw35) (fun _ h9 => h9) rfl dX0_find_11 ?_
      refine lv_icmp_ge (tgt := 59) hx hb dX0_find_14 (by decide) (fun h1 => ?_) (fun h1 => ?_)
      · skip
        have h1 : n ≤ i := (nI_leI (a := n) (b := i) (by omega) (by omega)).mp h1
        obtain rfl : n = i := by omega
        refine lv_aload_n hx hb dX0_find_59 rfl (lv_at hl 1 rfl) ?_
        refine va_get (D := D) (ci := 0) (v := .ref (ad 7)) (C := RX0) (T := TX0) (N := 3) hx hb hts (fun w h => List.mem_cons_of_mem _ (inX0 w h)) hown hK hP 2 rfl rfl 0 (by decide) (eT_h hts tw77) (fun _ h9 => h9) rfl dX0_find_60 ?_
        refine lv_aload_n hx hb dX0_find_63 rfl (lv_at hl 2 rfl) ?_
        refine va_get (D := D) (ci := 2) (v := .int (nI n)) (C := RX2) (T := TX2) (N := 4) hx hb hts (fun w h => List.mem_cons_of_mem _ (inX2 w h)) hown hK hP 1 rfl rfl 3 (by decide) (eT_h hts tw35) (fun _ h9 => h9) rfl dX0_find_64 ?_
        refine lv_aload_n hx hb dX0_find_67 rfl (lv_at hl 2 rfl) ?_
        refine va_get (D := D) (ci := 2) (v := .int (nI n)) (C := RX2) (T := TX2) (N := 4) hx hb hts (fun w h => List.mem_cons_of_mem _ (inX2 w h)) hown hK hP 1 rfl rfl 3 (by decide) (eT_h hts tw35) (fun _ h9 => h9) rfl dX0_find_68 ?_
        refine lv_if_le (tgt := 78) hx hb dX0_find_71 (by decide) (fun h2 => ?_) (fun h2 => ?_)
        · skip
          have h2 : n ≤ 0 := (nI_leI (a := n) (b := 0) (by omega) (by omega)).mp h2
          refine lv_iconst (v := 0) hx hb dX0_find_78 (by decide) ?_
          refine ef_eqi (y := ef_b (decide (0 < n))) (by simp [ef_b, show ¬ 0 < n by omega]) ?_
          refine va_zast hx hb hK hP hD hS 7 1 rfl rfl (vp_in_nI (n := n) (by omega) (by decide)) dX0_find_79 (fun H locs hP hD hS => ?_)
          rw [nI_clamp (n := n) (by omega), ef_upd] at hP hD
          have hP : va_P D vwCl (cw ad cI cZ cJ n g w P (ef_up (ef_fl gm (eg_M g P) n) n (decide (0 < n))) wm gs wz (eg_bf g n) (eg_od g n) (eg_ap g P n) (eg_aj g P n) wb wl wk wo fa mn mg mw mP o) H := hP
          have hD : va_D (eA ad) (cw ad cI cZ cJ n g w P (ef_up (ef_fl gm (eg_M g P) n) n (decide (0 < n))) wm gs wz (eg_bf g n) (eg_od g n) (eg_ap g P n) (eg_aj g P n) wb wl wk wo fa mn mg mw mP o) := hD
          refine lv_aload_n hx hb dX0_find_80 rfl (lv_at hl 1 rfl) ?_
          refine lv_iconst (v := 0) hx hb dX0_find_81 (by decide) ?_
          refine ef_eqi (y := ef_b false) (by decide) ?_
          refine va_put (D := D) (ci := 0) (v := .int (ef_b false)) (ty := .boolean) (C := RX0) (T := TX0) (N := 3) hx hb hts (fun w h => List.mem_cons_of_mem _ (inX0 w h)) tyX0 tyX0_ok nmX0 hown hK hP hD hS 2 rfl rfl 1 (by decide) (eT_h hts tw79) (fun _ h9 => h9) rfl (by decide +kernel) (ef_nar _) (ef_fit _) (Nat.le_of_ble_eq_true rfl) dX0_find_82 (fun H locs hP hD hS => ?_)
          have hP : va_P D vwCl (cw ad cI cZ cJ n g w P (ef_up (ef_fl gm (eg_M g P) n) n (decide (0 < n))) wm false wz (eg_bf g n) (eg_od g n) (eg_ap g P n) (eg_aj g P n) wb wl wk wo fa mn mg mw mP o) H := hP
          have hD : va_D (eA ad) (cw ad cI cZ cJ n g w P (ef_up (ef_fl gm (eg_M g P) n) n (decide (0 < n))) wm false wz (eg_bf g n) (eg_od g n) (eg_ap g P n) (eg_aj g P n) wb wl wk wo fa mn mg mw mP o) := hD
          exact ec_vret hx hb hr hlk hP hS ⟨rfl, rfl⟩ dX0_find_85
        · skip
          have h2 : ¬ (n ≤ 0) := fun q9 => h2 ((nI_leI (a := n) (b := 0) (by omega) (by omega)).mpr q9)
          refine lv_iconst (v := 1) hx hb dX0_find_74 (by decide) ?_
          refine lv_goto (tgt := 79) hx hb dX0_find_75 (by decide) ?_
          refine ef_eqi (y := ef_b (decide (0 < n))) (by simp [ef_b, show 0 < n by omega]) ?_
          refine va_zast hx hb hK hP hD hS 7 1 rfl rfl (vp_in_nI (n := n) (by omega) (by decide)) dX0_find_79 (fun H locs hP hD hS => ?_)
          rw [nI_clamp (n := n) (by omega), ef_upd] at hP hD
          have hP : va_P D vwCl (cw ad cI cZ cJ n g w P (ef_up (ef_fl gm (eg_M g P) n) n (decide (0 < n))) wm gs wz (eg_bf g n) (eg_od g n) (eg_ap g P n) (eg_aj g P n) wb wl wk wo fa mn mg mw mP o) H := hP
          have hD : va_D (eA ad) (cw ad cI cZ cJ n g w P (ef_up (ef_fl gm (eg_M g P) n) n (decide (0 < n))) wm gs wz (eg_bf g n) (eg_od g n) (eg_ap g P n) (eg_aj g P n) wb wl wk wo fa mn mg mw mP o) := hD
          refine lv_aload_n hx hb dX0_find_80 rfl (lv_at hl 1 rfl) ?_
          refine lv_iconst (v := 0) hx hb dX0_find_81 (by decide) ?_
          refine ef_eqi (y := ef_b false) (by decide) ?_
          refine va_put (D := D) (ci := 0) (v := .int (ef_b false)) (ty := .boolean) (C := RX0) (T := TX0) (N := 3) hx hb hts (fun w h => List.mem_cons_of_mem _ (inX0 w h)) tyX0 tyX0_ok nmX0 hown hK hP hD hS 2 rfl rfl 1 (by decide) (eT_h hts tw79) (fun _ h9 => h9) rfl (by decide +kernel) (ef_nar _) (ef_fit _) (Nat.le_of_ble_eq_true rfl) dX0_find_82 (fun H locs hP hD hS => ?_)
          have hP : va_P D vwCl (cw ad cI cZ cJ n g w P (ef_up (ef_fl gm (eg_M g P) n) n (decide (0 < n))) wm false wz (eg_bf g n) (eg_od g n) (eg_ap g P n) (eg_aj g P n) wb wl wk wo fa mn mg mw mP o) H := hP
          have hD : va_D (eA ad) (cw ad cI cZ cJ n g w P (ef_up (ef_fl gm (eg_M g P) n) n (decide (0 < n))) wm false wz (eg_bf g n) (eg_od g n) (eg_ap g P n) (eg_aj g P n) wb wl wk wo fa mn mg mw mP o) := hD
          exact ec_vret hx hb hr hlk hP hS ⟨rfl, rfl⟩ dX0_find_85
      · skip
        have h1 : ¬ (n ≤ i) := fun q9 => h1 ((nI_leI (a := n) (b := i) (by omega) (by omega)).mpr q9)
        refine lv_aload_n hx hb dX0_find_17 rfl (lv_at hl 1 rfl) ?_
        refine va_get (D := D) (ci := 0) (v := .ref (ad 7)) (C := RX0) (T := TX0) (N := 3) hx hb hts (fun w h => List.mem_cons_of_mem _ (inX0 w h)) hown hK hP 2 rfl rfl 0 (by decide) (eT_h hts tw77) (fun _ h9 => h9) rfl dX0_find_18 ?_
        refine lv_iload_n hx hb dX0_find_21 rfl (lv_at hl 0 rfl) ?_
        refine lv_iload_n hx hb dX0_find_22 rfl (lv_at hl 0 rfl) ?_
        refine lv_if_eq (tgt := 38) hx hb dX0_find_23 (by decide) (fun h3 => ?_) (fun h3 => ?_)
        · skip
          have h3 : i = 0 := (nI_eq (a := i) (b := 0) (by omega) (by omega)).mp h3
          refine lv_iconst (v := 1) hx hb dX0_find_38 (by decide) ?_
          refine lv_goto (tgt := 43) hx hb dX0_find_39 (by decide) ?_
          refine ef_eqi (y := ef_b (eg_M g P i)) (by simp [ef_b, eg_M, h3]) ?_
          refine va_zast hx hb hK hP hD hS 7 1 rfl rfl (vp_in_nI (n := i) (by omega) (by decide)) dX0_find_43 (fun H locs hP hD hS => ?_)
          rw [nI_clamp (n := i) (by omega), ef_upd] at hP hD
          have hP : va_P D vwCl (cw ad cI cZ cJ n g w P (ef_up (ef_fl gm (eg_M g P) i) i (eg_M g P i)) wm gs wz (eg_bf g i) (eg_od g i) (eg_ap g P i) (eg_aj g P i) wb wl wk wo fa mn mg mw mP o) H := hP
          have hD : va_D (eA ad) (cw ad cI cZ cJ n g w P (ef_up (ef_fl gm (eg_M g P) i) i (eg_M g P i)) wm gs wz (eg_bf g i) (eg_od g i) (eg_ap g P i) (eg_aj g P i) wb wl wk wo fa mn mg mw mP o) := hD
          refine lv_aload_n hx hb dX0_find_44 rfl (lv_at hl 1 rfl) ?_
          refine va_get (D := D) (ci := 0) (v := .ref (ad 9)) (C := RX0) (T := TX0) (N := 3) hx hb hts (fun w h => List.mem_cons_of_mem _ (inX0 w h)) hown hK hP 2 rfl rfl 2 (by decide) (eT_h hts tw81) (fun _ h9 => h9) rfl dX0_find_45 ?_
          refine lv_aload_n hx hb dX0_find_48 rfl (lv_at hl 2 rfl) ?_
          refine lv_iload_n hx hb dX0_find_49 rfl (lv_at hl 0 rfl) ?_
          refine ec_U (n := 2) (x := ⟨"EdgeFinder$Rules", "pass", "(LEdgeFinder$Row;I)V"⟩) (own := RX0) (C := RX1) (b := (ad 9)) (rest := []) hx hb hml hown hts hl.1 (c_X1_pass l D cI cZ cJ ad hJ n g w P (ef_up (ef_fl gm (eg_M g P) i) i (eg_M g P i)) wm gs wz (eg_bf g i) (eg_od g i) (eg_ap g P i) (eg_aj g P i) wb wl wk wo fa mn mg mw mP o i (by omega)) (eT_U (x := ⟨"EdgeFinder$Rules", "pass", "(LEdgeFinder$Row;I)V"⟩) tw315 tw317 tw318 tw319 tw5 tw320) hN.2.2 (by decide +kernel) rfl rfl ⟨Nat.le_of_ble_eq_true rfl, Nat.le_of_ble_eq_true rfl⟩ hP hK hN hP (q0 := 9) rfl rfl rfl rfl (Nat.le_of_ble_eq_true rfl) ⟨Nat.zero_le _, Nat.zero_le _⟩ hS (fun _ h9 => h9) dX0_find_50 (fun v9 W9 H locs hF hP hS hz9 hk9 => ?_)
          obtain ⟨rfl, rfl⟩ := hF
          have hD : va_D (eA ad) (cw ad cI cZ cJ n g w P (ef_up (ef_fl gm (eg_M g P) i) i (eg_M g P i)) wm gs wz (g i) (g i == 6 && !(eg_od g i)) (P i || (eg_ap g P i && g i == 4)) (eg_ap g P i && g i == 5) wb wl wk wo fa mn mg mw mP o) := eD_of hJ rfl
          refine W.eq (g2 := F0 m 53 ls []) rfl ?_
          refine lv_iinc (k := 0) (v := nI (i + 1)) (lv' := [(2, .int (nI (i + 1))), (0, .ref (ad 2)), (1, .ref (ad 1))]) hx hb dX0_find_53 hl rfl (by rw [show Int32.ofInt 1 = 1 from by decide]; exact nI_1 _) (Nat.le_of_ble_eq_true rfl) rfl (fun ls hl => ?_)
          refine lv_goto (tgt := 9) hx hb dX0_find_56 (by decide) ?_
          have hP : va_P D vwCl (cw ad cI cZ cJ n g w P (ef_fl gm (eg_M g P) (i + 1)) wm gs wz (eg_bf g (i + 1)) (eg_od g (i + 1)) (eg_ap g P (i + 1)) (eg_aj g P (i + 1)) wb wl wk wo fa mn mg mw mP o) H := by rw [← ef_fl_s]; exact hP
          exact ih (i + 1) ls H locs hl (by omega) hP hS (by omega)
        · skip
          have h3 : ¬ (i = 0) := fun q9 => h3 ((nI_eq (a := i) (b := 0) (by omega) (by omega)).mpr q9)
          refine lv_aload_n hx hb dX0_find_26 rfl (lv_at hl 1 rfl) ?_
          refine va_get (D := D) (ci := 0) (v := .ref (ad 9)) (C := RX0) (T := TX0) (N := 3) hx hb hts (fun w h => List.mem_cons_of_mem _ (inX0 w h)) hown hK hP 2 rfl rfl 2 (by decide) (eT_h hts tw81) (fun _ h9 => h9) rfl dX0_find_27 ?_
          refine lv_aload_n hx hb dX0_find_30 rfl (lv_at hl 2 rfl) ?_
          refine lv_iload_n hx hb dX0_find_31 rfl (lv_at hl 0 rfl) ?_
          refine er_U (n := 2) (x := ⟨"EdgeFinder$Rules", "part", "(LEdgeFinder$Row;I)Z"⟩) (own := RX0) (C := RX1) (b := (ad 9)) (rest := [.int (nI i), .ref (ad 7)]) hx hb hml hown hts hl.1 (k_X1_part l D cI cZ cJ (ad 9) (eg_bf g i) (eg_od g i) (eg_ap g P i) (eg_aj g P i) (ad 1) (ad 4) (ad 5) (ad 6) n g P i (by omega)) (eT_U (x := ⟨"EdgeFinder$Rules", "part", "(LEdgeFinder$Row;I)Z"⟩) tw259 tw261 tw262 tw263 tw5 tw264) hN.2.1 (by decide +kernel) rfl rfl ⟨Nat.le_of_ble_eq_true rfl, Nat.le_of_ble_eq_true rfl⟩ (hP.sub [9, 1, 4, 6] rfl) hK hP (q0 := 9) rfl rfl rfl rfl (Nat.le_of_ble_eq_true rfl) ⟨Nat.zero_le _, Nat.zero_le _⟩ dX0_find_32 ?_
          refine ef_if_eq (tgt := 42) hx hb dX0_find_35 (by decide) (fun h4 => ?_) (fun h4 => ?_)
          · skip
            refine lv_iconst (v := 0) hx hb dX0_find_42 (by decide) ?_
            refine ef_eqi (y := ef_b (eg_M g P i)) (by simp [ef_b, eg_M, h3, h4]) ?_
            refine va_zast hx hb hK hP hD hS 7 1 rfl rfl (vp_in_nI (n := i) (by omega) (by decide)) dX0_find_43 (fun H locs hP hD hS => ?_)
            rw [nI_clamp (n := i) (by omega), ef_upd] at hP hD
            have hP : va_P D vwCl (cw ad cI cZ cJ n g w P (ef_up (ef_fl gm (eg_M g P) i) i (eg_M g P i)) wm gs wz (eg_bf g i) (eg_od g i) (eg_ap g P i) (eg_aj g P i) wb wl wk wo fa mn mg mw mP o) H := hP
            have hD : va_D (eA ad) (cw ad cI cZ cJ n g w P (ef_up (ef_fl gm (eg_M g P) i) i (eg_M g P i)) wm gs wz (eg_bf g i) (eg_od g i) (eg_ap g P i) (eg_aj g P i) wb wl wk wo fa mn mg mw mP o) := hD
            refine lv_aload_n hx hb dX0_find_44 rfl (lv_at hl 1 rfl) ?_
            refine va_get (D := D) (ci := 0) (v := .ref (ad 9)) (C := RX0) (T := TX0) (N := 3) hx hb hts (fun w h => List.mem_cons_of_mem _ (inX0 w h)) hown hK hP 2 rfl rfl 2 (by decide) (eT_h hts tw81) (fun _ h9 => h9) rfl dX0_find_45 ?_
            refine lv_aload_n hx hb dX0_find_48 rfl (lv_at hl 2 rfl) ?_
            refine lv_iload_n hx hb dX0_find_49 rfl (lv_at hl 0 rfl) ?_
            refine ec_U (n := 2) (x := ⟨"EdgeFinder$Rules", "pass", "(LEdgeFinder$Row;I)V"⟩) (own := RX0) (C := RX1) (b := (ad 9)) (rest := []) hx hb hml hown hts hl.1 (c_X1_pass l D cI cZ cJ ad hJ n g w P (ef_up (ef_fl gm (eg_M g P) i) i (eg_M g P i)) wm gs wz (eg_bf g i) (eg_od g i) (eg_ap g P i) (eg_aj g P i) wb wl wk wo fa mn mg mw mP o i (by omega)) (eT_U (x := ⟨"EdgeFinder$Rules", "pass", "(LEdgeFinder$Row;I)V"⟩) tw315 tw317 tw318 tw319 tw5 tw320) hN.2.2 (by decide +kernel) rfl rfl ⟨Nat.le_of_ble_eq_true rfl, Nat.le_of_ble_eq_true rfl⟩ hP hK hN hP (q0 := 9) rfl rfl rfl rfl (Nat.le_of_ble_eq_true rfl) ⟨Nat.zero_le _, Nat.zero_le _⟩ hS (fun _ h9 => h9) dX0_find_50 (fun v9 W9 H locs hF hP hS hz9 hk9 => ?_)
            obtain ⟨rfl, rfl⟩ := hF
            have hD : va_D (eA ad) (cw ad cI cZ cJ n g w P (ef_up (ef_fl gm (eg_M g P) i) i (eg_M g P i)) wm gs wz (g i) (g i == 6 && !(eg_od g i)) (P i || (eg_ap g P i && g i == 4)) (eg_ap g P i && g i == 5) wb wl wk wo fa mn mg mw mP o) := eD_of hJ rfl
            refine W.eq (g2 := F0 m 53 ls []) rfl ?_
            refine lv_iinc (k := 0) (v := nI (i + 1)) (lv' := [(2, .int (nI (i + 1))), (0, .ref (ad 2)), (1, .ref (ad 1))]) hx hb dX0_find_53 hl rfl (by rw [show Int32.ofInt 1 = 1 from by decide]; exact nI_1 _) (Nat.le_of_ble_eq_true rfl) rfl (fun ls hl => ?_)
            refine lv_goto (tgt := 9) hx hb dX0_find_56 (by decide) ?_
            have hP : va_P D vwCl (cw ad cI cZ cJ n g w P (ef_fl gm (eg_M g P) (i + 1)) wm gs wz (eg_bf g (i + 1)) (eg_od g (i + 1)) (eg_ap g P (i + 1)) (eg_aj g P (i + 1)) wb wl wk wo fa mn mg mw mP o) H := by rw [← ef_fl_s]; exact hP
            exact ih (i + 1) ls H locs hl (by omega) hP hS (by omega)
          · skip
            refine lv_iconst (v := 1) hx hb dX0_find_38 (by decide) ?_
            refine lv_goto (tgt := 43) hx hb dX0_find_39 (by decide) ?_
            refine ef_eqi (y := ef_b (eg_M g P i)) (by simp [ef_b, eg_M, h3, h4]) ?_
            refine va_zast hx hb hK hP hD hS 7 1 rfl rfl (vp_in_nI (n := i) (by omega) (by decide)) dX0_find_43 (fun H locs hP hD hS => ?_)
            rw [nI_clamp (n := i) (by omega), ef_upd] at hP hD
            have hP : va_P D vwCl (cw ad cI cZ cJ n g w P (ef_up (ef_fl gm (eg_M g P) i) i (eg_M g P i)) wm gs wz (eg_bf g i) (eg_od g i) (eg_ap g P i) (eg_aj g P i) wb wl wk wo fa mn mg mw mP o) H := hP
            have hD : va_D (eA ad) (cw ad cI cZ cJ n g w P (ef_up (ef_fl gm (eg_M g P) i) i (eg_M g P i)) wm gs wz (eg_bf g i) (eg_od g i) (eg_ap g P i) (eg_aj g P i) wb wl wk wo fa mn mg mw mP o) := hD
            refine lv_aload_n hx hb dX0_find_44 rfl (lv_at hl 1 rfl) ?_
            refine va_get (D := D) (ci := 0) (v := .ref (ad 9)) (C := RX0) (T := TX0) (N := 3) hx hb hts (fun w h => List.mem_cons_of_mem _ (inX0 w h)) hown hK hP 2 rfl rfl 2 (by decide) (eT_h hts tw81) (fun _ h9 => h9) rfl dX0_find_45 ?_
            refine lv_aload_n hx hb dX0_find_48 rfl (lv_at hl 2 rfl) ?_
            refine lv_iload_n hx hb dX0_find_49 rfl (lv_at hl 0 rfl) ?_
            refine ec_U (n := 2) (x := ⟨"EdgeFinder$Rules", "pass", "(LEdgeFinder$Row;I)V"⟩) (own := RX0) (C := RX1) (b := (ad 9)) (rest := []) hx hb hml hown hts hl.1 (c_X1_pass l D cI cZ cJ ad hJ n g w P (ef_up (ef_fl gm (eg_M g P) i) i (eg_M g P i)) wm gs wz (eg_bf g i) (eg_od g i) (eg_ap g P i) (eg_aj g P i) wb wl wk wo fa mn mg mw mP o i (by omega)) (eT_U (x := ⟨"EdgeFinder$Rules", "pass", "(LEdgeFinder$Row;I)V"⟩) tw315 tw317 tw318 tw319 tw5 tw320) hN.2.2 (by decide +kernel) rfl rfl ⟨Nat.le_of_ble_eq_true rfl, Nat.le_of_ble_eq_true rfl⟩ hP hK hN hP (q0 := 9) rfl rfl rfl rfl (Nat.le_of_ble_eq_true rfl) ⟨Nat.zero_le _, Nat.zero_le _⟩ hS (fun _ h9 => h9) dX0_find_50 (fun v9 W9 H locs hF hP hS hz9 hk9 => ?_)
            obtain ⟨rfl, rfl⟩ := hF
            have hD : va_D (eA ad) (cw ad cI cZ cJ n g w P (ef_up (ef_fl gm (eg_M g P) i) i (eg_M g P i)) wm gs wz (g i) (g i == 6 && !(eg_od g i)) (P i || (eg_ap g P i && g i == 4)) (eg_ap g P i && g i == 5) wb wl wk wo fa mn mg mw mP o) := eD_of hJ rfl
            refine W.eq (g2 := F0 m 53 ls []) rfl ?_
            refine lv_iinc (k := 0) (v := nI (i + 1)) (lv' := [(2, .int (nI (i + 1))), (0, .ref (ad 2)), (1, .ref (ad 1))]) hx hb dX0_find_53 hl rfl (by rw [show Int32.ofInt 1 = 1 from by decide]; exact nI_1 _) (Nat.le_of_ble_eq_true rfl) rfl (fun ls hl => ?_)
            refine lv_goto (tgt := 9) hx hb dX0_find_56 (by decide) ?_
            have hP : va_P D vwCl (cw ad cI cZ cJ n g w P (ef_fl gm (eg_M g P) (i + 1)) wm gs wz (eg_bf g (i + 1)) (eg_od g (i + 1)) (eg_ap g P (i + 1)) (eg_aj g P (i + 1)) wb wl wk wo fa mn mg mw mP o) H := by rw [← ef_fl_s]; exact hP
            exact ih (i + 1) ls H locs hl (by omega) hP hS (by omega)
  have hS : va_S (eA ad) s.heap s.heap [] := va_S.rf
  have hD : va_D (eA ad) (cw ad cI cZ cJ n g w P gm wm gs wz gb go gp gj wb wl wk wo fa mn mg mw mP o) := eD_of hJ rfl
  refine lv_aload_n hx hb dX0_find_0 rfl (lv_at hl 0 rfl) ?_
  refine va_get (D := D) (ci := 0) (v := .ref (ad 9)) (C := RX0) (T := TX0) (N := 3) hx hb hts (fun w h => List.mem_cons_of_mem _ (inX0 w h)) hown hK hP 2 rfl rfl 2 (by decide) (eT_h hts tw81) (fun _ h9 => h9) rfl dX0_find_1 ?_
  refine ec_U (n := 0) (x := ⟨"EdgeFinder$Rules", "begin", "()V"⟩) (own := RX0) (C := RX1) (b := (ad 9)) (rest := []) hx hb hml hown hts hl.1 (c_X1_begin l D cI cZ cJ ad hJ n g w P gm wm gs wz gb go gp gj wb wl wk wo fa mn mg mw mP o) (eT_U (x := ⟨"EdgeFinder$Rules", "begin", "()V"⟩) tw250 tw252 tw253 tw254 tw5 tw255) hN.1 (by decide +kernel) rfl rfl ⟨Nat.le_of_ble_eq_true rfl, Nat.le_of_ble_eq_true rfl⟩ hP hK hN hP (q0 := 9) rfl rfl rfl rfl (Nat.le_of_ble_eq_true rfl) ⟨Nat.zero_le _, Nat.zero_le _⟩ hS (fun _ h9 => h9) dX0_find_4 (fun v9 W9 H locs hF hP hS hz9 hk9 => ?_)
  obtain ⟨rfl, rfl⟩ := hF
  have hD : va_D (eA ad) (cw ad cI cZ cJ n g w P gm wm gs wz (-1) false false false wb wl wk wo fa mn mg mw mP o) := eD_of hJ rfl
  refine W.eq (g2 := F0 m 7 ls []) rfl ?_
  refine lv_iconst (v := 0) hx hb dX0_find_7 (by decide) ?_
  refine lv_istore_n (lv' := [(2, .int 0), (0, .ref (ad 2)), (1, .ref (ad 1))]) hx hb dX0_find_8 rfl hl (Nat.le_of_ble_eq_true rfl) rfl (fun ls hl => ?_)
  have hP : va_P D vwCl (cw ad cI cZ cJ n g w P (ef_fl gm (eg_M g P) 0) wm gs wz (eg_bf g 0) (eg_od g 0) (eg_ap g P 0) (eg_aj g P 0) wb wl wk wo fa mn mg mw mP o) H := by rw [ef_fl_0]; exact hP
  exact L9 _ 0 ls H locs hl (Nat.zero_le _) hP hS (Nat.lt_succ_self _)

set_option maxHeartbeats 4000000 in
set_option maxRecDepth 100000 in
theorem c_X0_find_w (l : Launch) (D : va_G) (cI cZ cJ : ClassId) (ad : Nat → Nat) (hJ : eJ ad) (n : Nat) (g : Nat → Int32) (w : Nat → Int32) (P : Nat → Bool) (gm : Nat → Bool) (wm : Nat → Bool) (gs : Bool) (wz : Bool) (gb : Int32) (go : Bool) (gp : Bool) (gj : Bool) (wb : Int32) (wl : Int32) (wk : Int32) (wo : Bool) (fa : Int32) (mn : Nat) (mg : Nat → Int32) (mw : Nat → Int32) (mP : Nat → Bool) (o : Nat → Int64)  (hn : n ≤ 1000) : ec_M l yX0_find (Cond.code yX0_find cX0_find 3 none :: eT) ({ frames := 4, cells := 0, slots := 0, locals := 86 }) D (eTy cI cZ cJ) [.ref (ad 3), .ref (ad 1)] (cw ad cI cZ cJ n g w P gm wm gs wz gb go gp gj wb wl wk wo fa mn mg mw mP o) (ed none (cw ad cI cZ cJ n g w P gm (ef_up (ef_fl wm (ew_M w P n) n) n (decide (0 < n))) gs false gb go gp gj (eg_bf w n) (ew_l w n) (ew_k w n) (ew_od w n) fa mn mg mw mP o)) (eA ad) := by
  refine ec_of (cc := cX0_find) (maxL := 3) (ret := none) (by decide) rfl (Nat.le_of_ble_eq_true rfl) ?_
  intro p e s m args below meth c ls hx hb hr hts hown hlk hml hP hK hN hl
  have hown : s.vm.findClass RX0 = some m.cls := hown
  have hl : lv_has ls 3 [(0, .ref (ad 3)), (1, .ref (ad 1))] := hl
  have L9 : ∀ (r : Nat) (i : Nat) (ls : Array Slot) (H : Heap) (locs : List Loc), lv_has ls 3 [(2, .int (nI i)), (0, .ref (ad 3)), (1, .ref (ad 1))] → i ≤ n → va_P D vwCl (cw ad cI cZ cJ n g w P gm (ef_fl wm (ew_M w P n) i) gs wz gb go gp gj (eg_bf w i) (ew_l w i) (ew_k w i) (ew_od w i) fa mn mg mw mP o) H → va_S (eA ad) s.heap H locs → n - i < r → W p l e ({ frames := 4, cells := 0, slots := 0, locals := 86 }) s m args below meth c H locs 0 0 (MQ below (ec_Q D (ed none (cw ad cI cZ cJ n g w P gm (ef_up (ef_fl wm (ew_M w P n) n) n (decide (0 < n))) gs false gb go gp gj (eg_bf w n) (ew_l w n) (ew_k w n) (ew_od w n) fa mn mg mw mP o)) (eA ad)) args s 0 0 (eA ad)) (F0 m 9 ls []) := by
    intro r
    induction r with
    | zero => intro i ls H locs hl hi hP hS hμ; exact absurd hμ (Nat.not_lt_zero _)
    | succ r ih =>
      intro i ls H locs hl hi hP hS hμ
      have hD : va_D (eA ad) (cw ad cI cZ cJ n g w P gm (ef_fl wm (ew_M w P n) i) gs wz gb go gp gj (eg_bf w i) (ew_l w i) (ew_k w i) (ew_od w i) fa mn mg mw mP o) := eD_of hJ rfl
      refine lv_iload_n hx hb dX0_find_9 rfl (lv_at hl 0 rfl) ?_
      refine lv_aload_n hx hb dX0_find_10 rfl (lv_at hl 2 rfl) ?_
      refine va_get (D := D) (ci := 2) (v := .int (nI n)) (C := RX2) (T := TX2) (N := 4) hx hb hts (fun w h => List.mem_cons_of_mem _ (inX2 w h)) hown hK hP 1 rfl rfl 3 (by decide) (eT_h hts tw35) (fun _ h9 => h9) rfl dX0_find_11 ?_
      refine lv_icmp_ge (tgt := 59) hx hb dX0_find_14 (by decide) (fun h1 => ?_) (fun h1 => ?_)
      · skip
        have h1 : n ≤ i := (nI_leI (a := n) (b := i) (by omega) (by omega)).mp h1
        obtain rfl : n = i := by omega
        refine lv_aload_n hx hb dX0_find_59 rfl (lv_at hl 1 rfl) ?_
        refine va_get (D := D) (ci := 0) (v := .ref (ad 8)) (C := RX0) (T := TX0) (N := 3) hx hb hts (fun w h => List.mem_cons_of_mem _ (inX0 w h)) hown hK hP 3 rfl rfl 0 (by decide) (eT_h hts tw77) (fun _ h9 => h9) rfl dX0_find_60 ?_
        refine lv_aload_n hx hb dX0_find_63 rfl (lv_at hl 2 rfl) ?_
        refine va_get (D := D) (ci := 2) (v := .int (nI n)) (C := RX2) (T := TX2) (N := 4) hx hb hts (fun w h => List.mem_cons_of_mem _ (inX2 w h)) hown hK hP 1 rfl rfl 3 (by decide) (eT_h hts tw35) (fun _ h9 => h9) rfl dX0_find_64 ?_
        refine lv_aload_n hx hb dX0_find_67 rfl (lv_at hl 2 rfl) ?_
        refine va_get (D := D) (ci := 2) (v := .int (nI n)) (C := RX2) (T := TX2) (N := 4) hx hb hts (fun w h => List.mem_cons_of_mem _ (inX2 w h)) hown hK hP 1 rfl rfl 3 (by decide) (eT_h hts tw35) (fun _ h9 => h9) rfl dX0_find_68 ?_
        refine lv_if_le (tgt := 78) hx hb dX0_find_71 (by decide) (fun h2 => ?_) (fun h2 => ?_)
        · skip
          have h2 : n ≤ 0 := (nI_leI (a := n) (b := 0) (by omega) (by omega)).mp h2
          refine lv_iconst (v := 0) hx hb dX0_find_78 (by decide) ?_
          refine ef_eqi (y := ef_b (decide (0 < n))) (by simp [ef_b, show ¬ 0 < n by omega]) ?_
          refine va_zast hx hb hK hP hD hS 8 1 rfl rfl (vp_in_nI (n := n) (by omega) (by decide)) dX0_find_79 (fun H locs hP hD hS => ?_)
          rw [nI_clamp (n := n) (by omega), ef_upd] at hP hD
          have hP : va_P D vwCl (cw ad cI cZ cJ n g w P gm (ef_up (ef_fl wm (ew_M w P n) n) n (decide (0 < n))) gs wz gb go gp gj (eg_bf w n) (ew_l w n) (ew_k w n) (ew_od w n) fa mn mg mw mP o) H := hP
          have hD : va_D (eA ad) (cw ad cI cZ cJ n g w P gm (ef_up (ef_fl wm (ew_M w P n) n) n (decide (0 < n))) gs wz gb go gp gj (eg_bf w n) (ew_l w n) (ew_k w n) (ew_od w n) fa mn mg mw mP o) := hD
          refine lv_aload_n hx hb dX0_find_80 rfl (lv_at hl 1 rfl) ?_
          refine lv_iconst (v := 0) hx hb dX0_find_81 (by decide) ?_
          refine ef_eqi (y := ef_b false) (by decide) ?_
          refine va_put (D := D) (ci := 0) (v := .int (ef_b false)) (ty := .boolean) (C := RX0) (T := TX0) (N := 3) hx hb hts (fun w h => List.mem_cons_of_mem _ (inX0 w h)) tyX0 tyX0_ok nmX0 hown hK hP hD hS 3 rfl rfl 1 (by decide) (eT_h hts tw79) (fun _ h9 => h9) rfl (by decide +kernel) (ef_nar _) (ef_fit _) (Nat.le_of_ble_eq_true rfl) dX0_find_82 (fun H locs hP hD hS => ?_)
          have hP : va_P D vwCl (cw ad cI cZ cJ n g w P gm (ef_up (ef_fl wm (ew_M w P n) n) n (decide (0 < n))) gs false gb go gp gj (eg_bf w n) (ew_l w n) (ew_k w n) (ew_od w n) fa mn mg mw mP o) H := hP
          have hD : va_D (eA ad) (cw ad cI cZ cJ n g w P gm (ef_up (ef_fl wm (ew_M w P n) n) n (decide (0 < n))) gs false gb go gp gj (eg_bf w n) (ew_l w n) (ew_k w n) (ew_od w n) fa mn mg mw mP o) := hD
          exact ec_vret hx hb hr hlk hP hS ⟨rfl, rfl⟩ dX0_find_85
        · skip
          have h2 : ¬ (n ≤ 0) := fun q9 => h2 ((nI_leI (a := n) (b := 0) (by omega) (by omega)).mpr q9)
          refine lv_iconst (v := 1) hx hb dX0_find_74 (by decide) ?_
          refine lv_goto (tgt := 79) hx hb dX0_find_75 (by decide) ?_
          refine ef_eqi (y := ef_b (decide (0 < n))) (by simp [ef_b, show 0 < n by omega]) ?_
          refine va_zast hx hb hK hP hD hS 8 1 rfl rfl (vp_in_nI (n := n) (by omega) (by decide)) dX0_find_79 (fun H locs hP hD hS => ?_)
          rw [nI_clamp (n := n) (by omega), ef_upd] at hP hD
          have hP : va_P D vwCl (cw ad cI cZ cJ n g w P gm (ef_up (ef_fl wm (ew_M w P n) n) n (decide (0 < n))) gs wz gb go gp gj (eg_bf w n) (ew_l w n) (ew_k w n) (ew_od w n) fa mn mg mw mP o) H := hP
          have hD : va_D (eA ad) (cw ad cI cZ cJ n g w P gm (ef_up (ef_fl wm (ew_M w P n) n) n (decide (0 < n))) gs wz gb go gp gj (eg_bf w n) (ew_l w n) (ew_k w n) (ew_od w n) fa mn mg mw mP o) := hD
          refine lv_aload_n hx hb dX0_find_80 rfl (lv_at hl 1 rfl) ?_
          refine lv_iconst (v := 0) hx hb dX0_find_81 (by decide) ?_
          refine ef_eqi (y := ef_b false) (by decide) ?_
          refine va_put (D := D) (ci := 0) (v := .int (ef_b false)) (ty := .boolean) (C := RX0) (T := TX0) (N := 3) hx hb hts (fun w h => List.mem_cons_of_mem _ (inX0 w h)) tyX0 tyX0_ok nmX0 hown hK hP hD hS 3 rfl rfl 1 (by decide) (eT_h hts tw79) (fun _ h9 => h9) rfl (by decide +kernel) (ef_nar _) (ef_fit _) (Nat.le_of_ble_eq_true rfl) dX0_find_82 (fun H locs hP hD hS => ?_)
          have hP : va_P D vwCl (cw ad cI cZ cJ n g w P gm (ef_up (ef_fl wm (ew_M w P n) n) n (decide (0 < n))) gs false gb go gp gj (eg_bf w n) (ew_l w n) (ew_k w n) (ew_od w n) fa mn mg mw mP o) H := hP
          have hD : va_D (eA ad) (cw ad cI cZ cJ n g w P gm (ef_up (ef_fl wm (ew_M w P n) n) n (decide (0 < n))) gs false gb go gp gj (eg_bf w n) (ew_l w n) (ew_k w n) (ew_od w n) fa mn mg mw mP o) := hD
          exact ec_vret hx hb hr hlk hP hS ⟨rfl, rfl⟩ dX0_find_85
      · skip
        have h1 : ¬ (n ≤ i) := fun q9 => h1 ((nI_leI (a := n) (b := i) (by omega) (by omega)).mpr q9)
        refine lv_aload_n hx hb dX0_find_17 rfl (lv_at hl 1 rfl) ?_
        refine va_get (D := D) (ci := 0) (v := .ref (ad 8)) (C := RX0) (T := TX0) (N := 3) hx hb hts (fun w h => List.mem_cons_of_mem _ (inX0 w h)) hown hK hP 3 rfl rfl 0 (by decide) (eT_h hts tw77) (fun _ h9 => h9) rfl dX0_find_18 ?_
        refine lv_iload_n hx hb dX0_find_21 rfl (lv_at hl 0 rfl) ?_
        refine lv_iload_n hx hb dX0_find_22 rfl (lv_at hl 0 rfl) ?_
        refine lv_if_eq (tgt := 38) hx hb dX0_find_23 (by decide) (fun h3 => ?_) (fun h3 => ?_)
        · skip
          have h3 : i = 0 := (nI_eq (a := i) (b := 0) (by omega) (by omega)).mp h3
          refine lv_iconst (v := 1) hx hb dX0_find_38 (by decide) ?_
          refine lv_goto (tgt := 43) hx hb dX0_find_39 (by decide) ?_
          refine ef_eqi (y := ef_b (ew_M w P n i)) (by simp [ef_b, ew_M, h3]) ?_
          refine va_zast hx hb hK hP hD hS 8 1 rfl rfl (vp_in_nI (n := i) (by omega) (by decide)) dX0_find_43 (fun H locs hP hD hS => ?_)
          rw [nI_clamp (n := i) (by omega), ef_upd] at hP hD
          have hP : va_P D vwCl (cw ad cI cZ cJ n g w P gm (ef_up (ef_fl wm (ew_M w P n) i) i (ew_M w P n i)) gs wz gb go gp gj (eg_bf w i) (ew_l w i) (ew_k w i) (ew_od w i) fa mn mg mw mP o) H := hP
          have hD : va_D (eA ad) (cw ad cI cZ cJ n g w P gm (ef_up (ef_fl wm (ew_M w P n) i) i (ew_M w P n i)) gs wz gb go gp gj (eg_bf w i) (ew_l w i) (ew_k w i) (ew_od w i) fa mn mg mw mP o) := hD
          rcases Bool.eq_false_or_eq_true (ew_ct w i) with hct | hct
          · skip
            refine lv_aload_n hx hb dX0_find_44 rfl (lv_at hl 1 rfl) ?_
            refine va_get (D := D) (ci := 0) (v := .ref (ad 10)) (C := RX0) (T := TX0) (N := 3) hx hb hts (fun w h => List.mem_cons_of_mem _ (inX0 w h)) hown hK hP 3 rfl rfl 2 (by decide) (eT_h hts tw81) (fun _ h9 => h9) rfl dX0_find_45 ?_
            refine lv_aload_n hx hb dX0_find_48 rfl (lv_at hl 2 rfl) ?_
            refine lv_iload_n hx hb dX0_find_49 rfl (lv_at hl 0 rfl) ?_
            refine ec_U (n := 2) (x := ⟨"EdgeFinder$Rules", "pass", "(LEdgeFinder$Row;I)V"⟩) (own := RX0) (C := RX4) (b := (ad 10)) (rest := []) hx hb hml hown hts hl.1 (c_X4_pass_true l D cI cZ cJ ad hJ n g w P gm (ef_up (ef_fl wm (ew_M w P n) i) i (ew_M w P n i)) gs wz gb go gp gj (eg_bf w i) (ew_l w i) (ew_k w i) (ew_od w i) fa mn mg mw mP o i (by omega) hct) (eT_U (x := ⟨"EdgeFinder$Rules", "pass", "(LEdgeFinder$Row;I)V"⟩) tw315 tw317 tw321 tw322 tw6 tw323) hN.2.2 (by decide +kernel) rfl rfl ⟨Nat.le_of_ble_eq_true rfl, Nat.le_of_ble_eq_true rfl⟩ hP hK hN hP (q0 := 10) rfl rfl rfl rfl (Nat.le_of_ble_eq_true rfl) ⟨Nat.zero_le _, Nat.zero_le _⟩ hS (fun _ h9 => h9) dX0_find_50 (fun v9 W9 H locs hF hP hS hz9 hk9 => ?_)
            obtain ⟨rfl, rfl⟩ := hF
            have hD : va_D (eA ad) (cw ad cI cZ cJ n g w P gm (ef_up (ef_fl wm (ew_M w P n) i) i (ew_M w P n i)) gs wz gb go gp gj (w i) (w i) (ew_l w i) (w i == 6 && !(ew_od w i)) fa mn mg mw mP o) := eD_of hJ rfl
            refine W.eq (g2 := F0 m 53 ls []) rfl ?_
            refine lv_iinc (k := 0) (v := nI (i + 1)) (lv' := [(2, .int (nI (i + 1))), (0, .ref (ad 3)), (1, .ref (ad 1))]) hx hb dX0_find_53 hl rfl (by rw [show Int32.ofInt 1 = 1 from by decide]; exact nI_1 _) (Nat.le_of_ble_eq_true rfl) rfl (fun ls hl => ?_)
            refine lv_goto (tgt := 9) hx hb dX0_find_56 (by decide) ?_
            have hP : va_P D vwCl (cw ad cI cZ cJ n g w P gm (ef_fl wm (ew_M w P n) (i + 1)) gs wz gb go gp gj (eg_bf w (i + 1)) (ew_l w (i + 1)) (ew_k w (i + 1)) (ew_od w (i + 1)) fa mn mg mw mP o) H := by rw [← ef_fl_s, show ew_l w (i + 1) = w i by simp [ew_l, hct], show ew_k w (i + 1) = ew_l w i by simp [ew_k, hct], show ew_od w (i + 1) = (w i == 6 && !ew_od w i) by simp [ew_od, hct]]; exact hP
            exact ih (i + 1) ls H locs hl (by omega) hP hS (by omega)
          · skip
            refine lv_aload_n hx hb dX0_find_44 rfl (lv_at hl 1 rfl) ?_
            refine va_get (D := D) (ci := 0) (v := .ref (ad 10)) (C := RX0) (T := TX0) (N := 3) hx hb hts (fun w h => List.mem_cons_of_mem _ (inX0 w h)) hown hK hP 3 rfl rfl 2 (by decide) (eT_h hts tw81) (fun _ h9 => h9) rfl dX0_find_45 ?_
            refine lv_aload_n hx hb dX0_find_48 rfl (lv_at hl 2 rfl) ?_
            refine lv_iload_n hx hb dX0_find_49 rfl (lv_at hl 0 rfl) ?_
            refine ec_U (n := 2) (x := ⟨"EdgeFinder$Rules", "pass", "(LEdgeFinder$Row;I)V"⟩) (own := RX0) (C := RX4) (b := (ad 10)) (rest := []) hx hb hml hown hts hl.1 (c_X4_pass_false l D cI cZ cJ ad hJ n g w P gm (ef_up (ef_fl wm (ew_M w P n) i) i (ew_M w P n i)) gs wz gb go gp gj (eg_bf w i) (ew_l w i) (ew_k w i) (ew_od w i) fa mn mg mw mP o i (by omega) hct) (eT_U (x := ⟨"EdgeFinder$Rules", "pass", "(LEdgeFinder$Row;I)V"⟩) tw315 tw317 tw321 tw322 tw6 tw323) hN.2.2 (by decide +kernel) rfl rfl ⟨Nat.le_of_ble_eq_true rfl, Nat.le_of_ble_eq_true rfl⟩ hP hK hN hP (q0 := 10) rfl rfl rfl rfl (Nat.le_of_ble_eq_true rfl) ⟨Nat.zero_le _, Nat.zero_le _⟩ hS (fun _ h9 => h9) dX0_find_50 (fun v9 W9 H locs hF hP hS hz9 hk9 => ?_)
            obtain ⟨rfl, rfl⟩ := hF
            have hD : va_D (eA ad) (cw ad cI cZ cJ n g w P gm (ef_up (ef_fl wm (ew_M w P n) i) i (ew_M w P n i)) gs wz gb go gp gj (w i) (ew_l w i) (ew_k w i) (ew_od w i) fa mn mg mw mP o) := eD_of hJ rfl
            refine W.eq (g2 := F0 m 53 ls []) rfl ?_
            refine lv_iinc (k := 0) (v := nI (i + 1)) (lv' := [(2, .int (nI (i + 1))), (0, .ref (ad 3)), (1, .ref (ad 1))]) hx hb dX0_find_53 hl rfl (by rw [show Int32.ofInt 1 = 1 from by decide]; exact nI_1 _) (Nat.le_of_ble_eq_true rfl) rfl (fun ls hl => ?_)
            refine lv_goto (tgt := 9) hx hb dX0_find_56 (by decide) ?_
            have hP : va_P D vwCl (cw ad cI cZ cJ n g w P gm (ef_fl wm (ew_M w P n) (i + 1)) gs wz gb go gp gj (eg_bf w (i + 1)) (ew_l w (i + 1)) (ew_k w (i + 1)) (ew_od w (i + 1)) fa mn mg mw mP o) H := by rw [← ef_fl_s, show ew_l w (i + 1) = ew_l w i by simp [ew_l, hct], show ew_k w (i + 1) = ew_k w i by simp [ew_k, hct], show ew_od w (i + 1) = ew_od w i by simp [ew_od, hct]]; exact hP
            exact ih (i + 1) ls H locs hl (by omega) hP hS (by omega)
        · skip
          have h3 : ¬ (i = 0) := fun q9 => h3 ((nI_eq (a := i) (b := 0) (by omega) (by omega)).mpr q9)
          refine lv_aload_n hx hb dX0_find_26 rfl (lv_at hl 1 rfl) ?_
          refine va_get (D := D) (ci := 0) (v := .ref (ad 10)) (C := RX0) (T := TX0) (N := 3) hx hb hts (fun w h => List.mem_cons_of_mem _ (inX0 w h)) hown hK hP 3 rfl rfl 2 (by decide) (eT_h hts tw81) (fun _ h9 => h9) rfl dX0_find_27 ?_
          refine lv_aload_n hx hb dX0_find_30 rfl (lv_at hl 2 rfl) ?_
          refine lv_iload_n hx hb dX0_find_31 rfl (lv_at hl 0 rfl) ?_
          refine er_U (n := 2) (x := ⟨"EdgeFinder$Rules", "part", "(LEdgeFinder$Row;I)Z"⟩) (own := RX0) (C := RX4) (b := (ad 10)) (rest := [.int (nI i), .ref (ad 8)]) hx hb hml hown hts hl.1 (k_X4_part l D cI cZ cJ (ad 10) (eg_bf w i) (ew_l w i) (ew_k w i) (ew_od w i) (ad 1) (ad 4) (ad 5) (ad 6) n w P i hn (by omega)) (eT_U (x := ⟨"EdgeFinder$Rules", "part", "(LEdgeFinder$Row;I)Z"⟩) tw259 tw261 tw272 tw273 tw6 tw274) hN.2.1 (by decide +kernel) rfl rfl ⟨Nat.le_of_ble_eq_true rfl, Nat.le_of_ble_eq_true rfl⟩ (hP.sub [10, 1, 5, 6] rfl) hK hP (q0 := 10) rfl rfl rfl rfl (Nat.le_of_ble_eq_true rfl) ⟨Nat.zero_le _, Nat.zero_le _⟩ dX0_find_32 ?_
          refine ef_if_eq (tgt := 42) hx hb dX0_find_35 (by decide) (fun h4 => ?_) (fun h4 => ?_)
          · skip
            refine lv_iconst (v := 0) hx hb dX0_find_42 (by decide) ?_
            refine ef_eqi (y := ef_b (ew_M w P n i)) (by simp [ef_b, ew_M, h3, h4]) ?_
            refine va_zast hx hb hK hP hD hS 8 1 rfl rfl (vp_in_nI (n := i) (by omega) (by decide)) dX0_find_43 (fun H locs hP hD hS => ?_)
            rw [nI_clamp (n := i) (by omega), ef_upd] at hP hD
            have hP : va_P D vwCl (cw ad cI cZ cJ n g w P gm (ef_up (ef_fl wm (ew_M w P n) i) i (ew_M w P n i)) gs wz gb go gp gj (eg_bf w i) (ew_l w i) (ew_k w i) (ew_od w i) fa mn mg mw mP o) H := hP
            have hD : va_D (eA ad) (cw ad cI cZ cJ n g w P gm (ef_up (ef_fl wm (ew_M w P n) i) i (ew_M w P n i)) gs wz gb go gp gj (eg_bf w i) (ew_l w i) (ew_k w i) (ew_od w i) fa mn mg mw mP o) := hD
            rcases Bool.eq_false_or_eq_true (ew_ct w i) with hct | hct
            · skip
              refine lv_aload_n hx hb dX0_find_44 rfl (lv_at hl 1 rfl) ?_
              refine va_get (D := D) (ci := 0) (v := .ref (ad 10)) (C := RX0) (T := TX0) (N := 3) hx hb hts (fun w h => List.mem_cons_of_mem _ (inX0 w h)) hown hK hP 3 rfl rfl 2 (by decide) (eT_h hts tw81) (fun _ h9 => h9) rfl dX0_find_45 ?_
              refine lv_aload_n hx hb dX0_find_48 rfl (lv_at hl 2 rfl) ?_
              refine lv_iload_n hx hb dX0_find_49 rfl (lv_at hl 0 rfl) ?_
              refine ec_U (n := 2) (x := ⟨"EdgeFinder$Rules", "pass", "(LEdgeFinder$Row;I)V"⟩) (own := RX0) (C := RX4) (b := (ad 10)) (rest := []) hx hb hml hown hts hl.1 (c_X4_pass_true l D cI cZ cJ ad hJ n g w P gm (ef_up (ef_fl wm (ew_M w P n) i) i (ew_M w P n i)) gs wz gb go gp gj (eg_bf w i) (ew_l w i) (ew_k w i) (ew_od w i) fa mn mg mw mP o i (by omega) hct) (eT_U (x := ⟨"EdgeFinder$Rules", "pass", "(LEdgeFinder$Row;I)V"⟩) tw315 tw317 tw321 tw322 tw6 tw323) hN.2.2 (by decide +kernel) rfl rfl ⟨Nat.le_of_ble_eq_true rfl, Nat.le_of_ble_eq_true rfl⟩ hP hK hN hP (q0 := 10) rfl rfl rfl rfl (Nat.le_of_ble_eq_true rfl) ⟨Nat.zero_le _, Nat.zero_le _⟩ hS (fun _ h9 => h9) dX0_find_50 (fun v9 W9 H locs hF hP hS hz9 hk9 => ?_)
              obtain ⟨rfl, rfl⟩ := hF
              have hD : va_D (eA ad) (cw ad cI cZ cJ n g w P gm (ef_up (ef_fl wm (ew_M w P n) i) i (ew_M w P n i)) gs wz gb go gp gj (w i) (w i) (ew_l w i) (w i == 6 && !(ew_od w i)) fa mn mg mw mP o) := eD_of hJ rfl
              refine W.eq (g2 := F0 m 53 ls []) rfl ?_
              refine lv_iinc (k := 0) (v := nI (i + 1)) (lv' := [(2, .int (nI (i + 1))), (0, .ref (ad 3)), (1, .ref (ad 1))]) hx hb dX0_find_53 hl rfl (by rw [show Int32.ofInt 1 = 1 from by decide]; exact nI_1 _) (Nat.le_of_ble_eq_true rfl) rfl (fun ls hl => ?_)
              refine lv_goto (tgt := 9) hx hb dX0_find_56 (by decide) ?_
              have hP : va_P D vwCl (cw ad cI cZ cJ n g w P gm (ef_fl wm (ew_M w P n) (i + 1)) gs wz gb go gp gj (eg_bf w (i + 1)) (ew_l w (i + 1)) (ew_k w (i + 1)) (ew_od w (i + 1)) fa mn mg mw mP o) H := by rw [← ef_fl_s, show ew_l w (i + 1) = w i by simp [ew_l, hct], show ew_k w (i + 1) = ew_l w i by simp [ew_k, hct], show ew_od w (i + 1) = (w i == 6 && !ew_od w i) by simp [ew_od, hct]]; exact hP
              exact ih (i + 1) ls H locs hl (by omega) hP hS (by omega)
            · skip
              refine lv_aload_n hx hb dX0_find_44 rfl (lv_at hl 1 rfl) ?_
              refine va_get (D := D) (ci := 0) (v := .ref (ad 10)) (C := RX0) (T := TX0) (N := 3) hx hb hts (fun w h => List.mem_cons_of_mem _ (inX0 w h)) hown hK hP 3 rfl rfl 2 (by decide) (eT_h hts tw81) (fun _ h9 => h9) rfl dX0_find_45 ?_
              refine lv_aload_n hx hb dX0_find_48 rfl (lv_at hl 2 rfl) ?_
              refine lv_iload_n hx hb dX0_find_49 rfl (lv_at hl 0 rfl) ?_
              refine ec_U (n := 2) (x := ⟨"EdgeFinder$Rules", "pass", "(LEdgeFinder$Row;I)V"⟩) (own := RX0) (C := RX4) (b := (ad 10)) (rest := []) hx hb hml hown hts hl.1 (c_X4_pass_false l D cI cZ cJ ad hJ n g w P gm (ef_up (ef_fl wm (ew_M w P n) i) i (ew_M w P n i)) gs wz gb go gp gj (eg_bf w i) (ew_l w i) (ew_k w i) (ew_od w i) fa mn mg mw mP o i (by omega) hct) (eT_U (x := ⟨"EdgeFinder$Rules", "pass", "(LEdgeFinder$Row;I)V"⟩) tw315 tw317 tw321 tw322 tw6 tw323) hN.2.2 (by decide +kernel) rfl rfl ⟨Nat.le_of_ble_eq_true rfl, Nat.le_of_ble_eq_true rfl⟩ hP hK hN hP (q0 := 10) rfl rfl rfl rfl (Nat.le_of_ble_eq_true rfl) ⟨Nat.zero_le _, Nat.zero_le _⟩ hS (fun _ h9 => h9) dX0_find_50 (fun v9 W9 H locs hF hP hS hz9 hk9 => ?_)
              obtain ⟨rfl, rfl⟩ := hF
              have hD : va_D (eA ad) (cw ad cI cZ cJ n g w P gm (ef_up (ef_fl wm (ew_M w P n) i) i (ew_M w P n i)) gs wz gb go gp gj (w i) (ew_l w i) (ew_k w i) (ew_od w i) fa mn mg mw mP o) := eD_of hJ rfl
              refine W.eq (g2 := F0 m 53 ls []) rfl ?_
              refine lv_iinc (k := 0) (v := nI (i + 1)) (lv' := [(2, .int (nI (i + 1))), (0, .ref (ad 3)), (1, .ref (ad 1))]) hx hb dX0_find_53 hl rfl (by rw [show Int32.ofInt 1 = 1 from by decide]; exact nI_1 _) (Nat.le_of_ble_eq_true rfl) rfl (fun ls hl => ?_)
              refine lv_goto (tgt := 9) hx hb dX0_find_56 (by decide) ?_
              have hP : va_P D vwCl (cw ad cI cZ cJ n g w P gm (ef_fl wm (ew_M w P n) (i + 1)) gs wz gb go gp gj (eg_bf w (i + 1)) (ew_l w (i + 1)) (ew_k w (i + 1)) (ew_od w (i + 1)) fa mn mg mw mP o) H := by rw [← ef_fl_s, show ew_l w (i + 1) = ew_l w i by simp [ew_l, hct], show ew_k w (i + 1) = ew_k w i by simp [ew_k, hct], show ew_od w (i + 1) = ew_od w i by simp [ew_od, hct]]; exact hP
              exact ih (i + 1) ls H locs hl (by omega) hP hS (by omega)
          · skip
            refine lv_iconst (v := 1) hx hb dX0_find_38 (by decide) ?_
            refine lv_goto (tgt := 43) hx hb dX0_find_39 (by decide) ?_
            refine ef_eqi (y := ef_b (ew_M w P n i)) (by simp [ef_b, ew_M, h3, h4]) ?_
            refine va_zast hx hb hK hP hD hS 8 1 rfl rfl (vp_in_nI (n := i) (by omega) (by decide)) dX0_find_43 (fun H locs hP hD hS => ?_)
            rw [nI_clamp (n := i) (by omega), ef_upd] at hP hD
            have hP : va_P D vwCl (cw ad cI cZ cJ n g w P gm (ef_up (ef_fl wm (ew_M w P n) i) i (ew_M w P n i)) gs wz gb go gp gj (eg_bf w i) (ew_l w i) (ew_k w i) (ew_od w i) fa mn mg mw mP o) H := hP
            have hD : va_D (eA ad) (cw ad cI cZ cJ n g w P gm (ef_up (ef_fl wm (ew_M w P n) i) i (ew_M w P n i)) gs wz gb go gp gj (eg_bf w i) (ew_l w i) (ew_k w i) (ew_od w i) fa mn mg mw mP o) := hD
            rcases Bool.eq_false_or_eq_true (ew_ct w i) with hct | hct
            · skip
              refine lv_aload_n hx hb dX0_find_44 rfl (lv_at hl 1 rfl) ?_
              refine va_get (D := D) (ci := 0) (v := .ref (ad 10)) (C := RX0) (T := TX0) (N := 3) hx hb hts (fun w h => List.mem_cons_of_mem _ (inX0 w h)) hown hK hP 3 rfl rfl 2 (by decide) (eT_h hts tw81) (fun _ h9 => h9) rfl dX0_find_45 ?_
              refine lv_aload_n hx hb dX0_find_48 rfl (lv_at hl 2 rfl) ?_
              refine lv_iload_n hx hb dX0_find_49 rfl (lv_at hl 0 rfl) ?_
              refine ec_U (n := 2) (x := ⟨"EdgeFinder$Rules", "pass", "(LEdgeFinder$Row;I)V"⟩) (own := RX0) (C := RX4) (b := (ad 10)) (rest := []) hx hb hml hown hts hl.1 (c_X4_pass_true l D cI cZ cJ ad hJ n g w P gm (ef_up (ef_fl wm (ew_M w P n) i) i (ew_M w P n i)) gs wz gb go gp gj (eg_bf w i) (ew_l w i) (ew_k w i) (ew_od w i) fa mn mg mw mP o i (by omega) hct) (eT_U (x := ⟨"EdgeFinder$Rules", "pass", "(LEdgeFinder$Row;I)V"⟩) tw315 tw317 tw321 tw322 tw6 tw323) hN.2.2 (by decide +kernel) rfl rfl ⟨Nat.le_of_ble_eq_true rfl, Nat.le_of_ble_eq_true rfl⟩ hP hK hN hP (q0 := 10) rfl rfl rfl rfl (Nat.le_of_ble_eq_true rfl) ⟨Nat.zero_le _, Nat.zero_le _⟩ hS (fun _ h9 => h9) dX0_find_50 (fun v9 W9 H locs hF hP hS hz9 hk9 => ?_)
              obtain ⟨rfl, rfl⟩ := hF
              have hD : va_D (eA ad) (cw ad cI cZ cJ n g w P gm (ef_up (ef_fl wm (ew_M w P n) i) i (ew_M w P n i)) gs wz gb go gp gj (w i) (w i) (ew_l w i) (w i == 6 && !(ew_od w i)) fa mn mg mw mP o) := eD_of hJ rfl
              refine W.eq (g2 := F0 m 53 ls []) rfl ?_
              refine lv_iinc (k := 0) (v := nI (i + 1)) (lv' := [(2, .int (nI (i + 1))), (0, .ref (ad 3)), (1, .ref (ad 1))]) hx hb dX0_find_53 hl rfl (by rw [show Int32.ofInt 1 = 1 from by decide]; exact nI_1 _) (Nat.le_of_ble_eq_true rfl) rfl (fun ls hl => ?_)
              refine lv_goto (tgt := 9) hx hb dX0_find_56 (by decide) ?_
              have hP : va_P D vwCl (cw ad cI cZ cJ n g w P gm (ef_fl wm (ew_M w P n) (i + 1)) gs wz gb go gp gj (eg_bf w (i + 1)) (ew_l w (i + 1)) (ew_k w (i + 1)) (ew_od w (i + 1)) fa mn mg mw mP o) H := by rw [← ef_fl_s, show ew_l w (i + 1) = w i by simp [ew_l, hct], show ew_k w (i + 1) = ew_l w i by simp [ew_k, hct], show ew_od w (i + 1) = (w i == 6 && !ew_od w i) by simp [ew_od, hct]]; exact hP
              exact ih (i + 1) ls H locs hl (by omega) hP hS (by omega)
            · skip
              refine lv_aload_n hx hb dX0_find_44 rfl (lv_at hl 1 rfl) ?_
              refine va_get (D := D) (ci := 0) (v := .ref (ad 10)) (C := RX0) (T := TX0) (N := 3) hx hb hts (fun w h => List.mem_cons_of_mem _ (inX0 w h)) hown hK hP 3 rfl rfl 2 (by decide) (eT_h hts tw81) (fun _ h9 => h9) rfl dX0_find_45 ?_
              refine lv_aload_n hx hb dX0_find_48 rfl (lv_at hl 2 rfl) ?_
              refine lv_iload_n hx hb dX0_find_49 rfl (lv_at hl 0 rfl) ?_
              refine ec_U (n := 2) (x := ⟨"EdgeFinder$Rules", "pass", "(LEdgeFinder$Row;I)V"⟩) (own := RX0) (C := RX4) (b := (ad 10)) (rest := []) hx hb hml hown hts hl.1 (c_X4_pass_false l D cI cZ cJ ad hJ n g w P gm (ef_up (ef_fl wm (ew_M w P n) i) i (ew_M w P n i)) gs wz gb go gp gj (eg_bf w i) (ew_l w i) (ew_k w i) (ew_od w i) fa mn mg mw mP o i (by omega) hct) (eT_U (x := ⟨"EdgeFinder$Rules", "pass", "(LEdgeFinder$Row;I)V"⟩) tw315 tw317 tw321 tw322 tw6 tw323) hN.2.2 (by decide +kernel) rfl rfl ⟨Nat.le_of_ble_eq_true rfl, Nat.le_of_ble_eq_true rfl⟩ hP hK hN hP (q0 := 10) rfl rfl rfl rfl (Nat.le_of_ble_eq_true rfl) ⟨Nat.zero_le _, Nat.zero_le _⟩ hS (fun _ h9 => h9) dX0_find_50 (fun v9 W9 H locs hF hP hS hz9 hk9 => ?_)
              obtain ⟨rfl, rfl⟩ := hF
              have hD : va_D (eA ad) (cw ad cI cZ cJ n g w P gm (ef_up (ef_fl wm (ew_M w P n) i) i (ew_M w P n i)) gs wz gb go gp gj (w i) (ew_l w i) (ew_k w i) (ew_od w i) fa mn mg mw mP o) := eD_of hJ rfl
              refine W.eq (g2 := F0 m 53 ls []) rfl ?_
              refine lv_iinc (k := 0) (v := nI (i + 1)) (lv' := [(2, .int (nI (i + 1))), (0, .ref (ad 3)), (1, .ref (ad 1))]) hx hb dX0_find_53 hl rfl (by rw [show Int32.ofInt 1 = 1 from by decide]; exact nI_1 _) (Nat.le_of_ble_eq_true rfl) rfl (fun ls hl => ?_)
              refine lv_goto (tgt := 9) hx hb dX0_find_56 (by decide) ?_
              have hP : va_P D vwCl (cw ad cI cZ cJ n g w P gm (ef_fl wm (ew_M w P n) (i + 1)) gs wz gb go gp gj (eg_bf w (i + 1)) (ew_l w (i + 1)) (ew_k w (i + 1)) (ew_od w (i + 1)) fa mn mg mw mP o) H := by rw [← ef_fl_s, show ew_l w (i + 1) = ew_l w i by simp [ew_l, hct], show ew_k w (i + 1) = ew_k w i by simp [ew_k, hct], show ew_od w (i + 1) = ew_od w i by simp [ew_od, hct]]; exact hP
              exact ih (i + 1) ls H locs hl (by omega) hP hS (by omega)
  have hS : va_S (eA ad) s.heap s.heap [] := va_S.rf
  have hD : va_D (eA ad) (cw ad cI cZ cJ n g w P gm wm gs wz gb go gp gj wb wl wk wo fa mn mg mw mP o) := eD_of hJ rfl
  refine lv_aload_n hx hb dX0_find_0 rfl (lv_at hl 0 rfl) ?_
  refine va_get (D := D) (ci := 0) (v := .ref (ad 10)) (C := RX0) (T := TX0) (N := 3) hx hb hts (fun w h => List.mem_cons_of_mem _ (inX0 w h)) hown hK hP 3 rfl rfl 2 (by decide) (eT_h hts tw81) (fun _ h9 => h9) rfl dX0_find_1 ?_
  refine ec_U (n := 0) (x := ⟨"EdgeFinder$Rules", "begin", "()V"⟩) (own := RX0) (C := RX4) (b := (ad 10)) (rest := []) hx hb hml hown hts hl.1 (c_X4_begin l D cI cZ cJ ad hJ n g w P gm wm gs wz gb go gp gj wb wl wk wo fa mn mg mw mP o) (eT_U (x := ⟨"EdgeFinder$Rules", "begin", "()V"⟩) tw250 tw252 tw256 tw257 tw6 tw258) hN.1 (by decide +kernel) rfl rfl ⟨Nat.le_of_ble_eq_true rfl, Nat.le_of_ble_eq_true rfl⟩ hP hK hN hP (q0 := 10) rfl rfl rfl rfl (Nat.le_of_ble_eq_true rfl) ⟨Nat.zero_le _, Nat.zero_le _⟩ hS (fun _ h9 => h9) dX0_find_4 (fun v9 W9 H locs hF hP hS hz9 hk9 => ?_)
  obtain ⟨rfl, rfl⟩ := hF
  have hD : va_D (eA ad) (cw ad cI cZ cJ n g w P gm wm gs wz gb go gp gj (-1) (-1) (-1) false fa mn mg mw mP o) := eD_of hJ rfl
  refine W.eq (g2 := F0 m 7 ls []) rfl ?_
  refine lv_iconst (v := 0) hx hb dX0_find_7 (by decide) ?_
  refine lv_istore_n (lv' := [(2, .int 0), (0, .ref (ad 3)), (1, .ref (ad 1))]) hx hb dX0_find_8 rfl hl (Nat.le_of_ble_eq_true rfl) rfl (fun ls hl => ?_)
  have hP : va_P D vwCl (cw ad cI cZ cJ n g w P gm (ef_fl wm (ew_M w P n) 0) gs wz gb go gp gj (eg_bf w 0) (ew_l w 0) (ew_k w 0) (ew_od w 0) fa mn mg mw mP o) H := by rw [ef_fl_0]; exact hP
  exact L9 _ 0 ls H locs hl (Nat.zero_le _) hP hS (Nat.lt_succ_self _)
end
section
theorem ei_ok_n {i n : Nat} (h : i ≤ n) (hn : n ≤ 1000) : ei_ok (nI i) (nI n) := ⟨nI_pos (by omega), nI_le h (by omega)⟩
theorem ei_ok_p {i n : Nat} (h : i < n) (hn : n ≤ 1000) : ei_ok (nI i) (nI n - 1) := by
  have e : nI n - 1 = nI (n - 1) := pk_sub (a := n) (b := 1) (by omega)
  rw [e]
  exact ei_ok_n (by omega) (by omega)

set_option maxHeartbeats 4000000 in
set_option maxRecDepth 100000 in
theorem c_X5_edgesOf_gt (l : Launch) (D : va_G) (cI cZ cJ : ClassId) (ad : Nat → Nat) (hJ : eJ ad) (n : Nat) (g : Nat → Int32) (w : Nat → Int32) (P : Nat → Bool) (gm : Nat → Bool) (wm : Nat → Bool) (wz : Bool) (gb : Int32) (go : Bool) (gp : Bool) (gj : Bool) (wb : Int32) (wl : Int32) (wk : Int32) (wo : Bool) (fa : Int32) (mn : Nat) (mg : Nat → Int32) (mw : Nat → Int32) (mP : Nat → Bool) (o : Nat → Int64) (kd : Int32) (hk : kd = 0) (hn : n ≤ 1000) : ec_M l yX5_edgesOf (Cond.code yX5_edgesOf cX5_edgesOf 3 (some (.object "EdgeFinder$Edges")) :: eT) ({ frames := 3, cells := 0, slots := 0, locals := 66 }) D (eTy cI cZ cJ) [.ref (ad 0), .int kd] (cw ad cI cZ cJ n g w P gm wm true wz gb go gp gj wb wl wk wo fa mn mg mw mP o) (ed (some (.ref (ad 2))) (cw ad cI cZ cJ n g w P (ef_up (ef_fl gm (eg_M g P) n) n (decide (0 < n))) wm false wz (eg_bf g n) (eg_od g n) (eg_ap g P n) (eg_aj g P n) wb wl wk wo fa mn mg mw mP o)) (eA ad) := by
  refine ec_of (cc := cX5_edgesOf) (maxL := 3) (ret := (some (.object "EdgeFinder$Edges"))) (by decide) rfl (Nat.le_of_ble_eq_true rfl) ?_
  intro p e s m args below meth c ls hx hb hr hts hown hlk hml hP hK hN hl
  have hown : s.vm.findClass RX5 = some m.cls := hown
  have hl : lv_has ls 3 [(0, .ref (ad 0)), (1, .int kd)] := hl
  have hS : va_S (eA ad) s.heap s.heap [] := va_S.rf
  have hD : va_D (eA ad) (cw ad cI cZ cJ n g w P gm wm true wz gb go gp gj wb wl wk wo fa mn mg mw mP o) := eD_of hJ rfl
  refine lv_iload_n hx hb dX5_edgesOf_0 rfl (lv_at hl 1 rfl) ?_
  refine lv_if_ne (tgt := 11) hx hb dX5_edgesOf_1 (by decide) (fun h1 => ?_) (fun h1 => ?_)
  · skip
    exact absurd hk h1
  · skip
    refine lv_aload_n hx hb dX5_edgesOf_4 rfl (lv_at hl 0 rfl) ?_
    refine va_get (D := D) (ci := 4) (v := .ref (ad 2)) (C := RX5) (T := TX5) (N := 3) hx hb hts (fun w h => List.mem_cons_of_mem _ (inX5 w h)) hown hK hP 0 rfl rfl 1 (by decide) (eT_h hts tw109) (fun _ h9 => h9) rfl dX5_edgesOf_5 ?_
    refine lv_goto (tgt := 15) hx hb dX5_edgesOf_8 (by decide) ?_
    refine lv_astore_n (lv' := [(2, .ref (ad 2)), (0, .ref (ad 0)), (1, .int kd)]) hx hb dX5_edgesOf_15 rfl hl (Nat.le_of_ble_eq_true rfl) rfl (fun ls hl => ?_)
    refine lv_aload_n hx hb dX5_edgesOf_16 rfl (lv_at hl 0 rfl) ?_
    refine va_get (D := D) (ci := 0) (v := .int (ef_b true)) (C := RX0) (T := TX0) (N := 3) hx hb hts (fun w h => List.mem_cons_of_mem _ (inX0 w h)) hown hK hP 2 rfl rfl 1 (by decide) (eT_h hts tw80) (fun _ h9 => h9) rfl dX5_edgesOf_17 ?_
    refine ef_if_eq (tgt := 31) hx hb dX5_edgesOf_20 (by decide) (fun h2 => ?_) (fun h2 => ?_)
    · skip
      exact Bool.noConfusion h2
    · skip
      refine lv_aload_n hx hb dX5_edgesOf_23 rfl (lv_at hl 0 rfl) ?_
      refine lv_aload_n hx hb dX5_edgesOf_24 rfl (lv_at hl 1 rfl) ?_
      refine va_get (D := D) (ci := 4) (v := .ref (ad 1)) (C := RX5) (T := TX5) (N := 3) hx hb hts (fun w h => List.mem_cons_of_mem _ (inX5 w h)) hown hK hP 0 rfl rfl 0 (by decide) (eT_h hts tw108) (fun _ h9 => h9) rfl dX5_edgesOf_25 ?_
      refine ec_V (own := RX5) (C := RX0) (b := (ad 2)) (rest := []) hx hb hml hown hts hl.1 (c_X0_find_g l D cI cZ cJ ad hJ n g w P gm wm true wz gb go gp gj wb wl wk wo fa mn mg mw mP o hn) tw249 tw3 tw246 tw247 tw248 yd_X0_find rfl rfl ⟨Nat.le_of_ble_eq_true rfl, Nat.le_of_ble_eq_true rfl⟩ hP hK hN hP (q0 := 2) rfl rfl rfl rfl (Nat.le_of_ble_eq_true rfl) ⟨Nat.zero_le _, Nat.zero_le _⟩ hS (fun _ h9 => h9) dX5_edgesOf_28 (fun v9 W9 H locs hF hP hS hz9 hk9 => ?_)
      obtain ⟨rfl, rfl⟩ := hF
      have hD : va_D (eA ad) (cw ad cI cZ cJ n g w P (ef_up (ef_fl gm (eg_M g P) n) n (decide (0 < n))) wm false wz (eg_bf g n) (eg_od g n) (eg_ap g P n) (eg_aj g P n) wb wl wk wo fa mn mg mw mP o) := eD_of hJ rfl
      refine W.eq (g2 := F0 m 31 ls []) rfl ?_
      refine lv_aload_n hx hb dX5_edgesOf_31 rfl (lv_at hl 0 rfl) ?_
      exact ec_aret hx hb hr hlk hP hS ⟨rfl, rfl⟩ dX5_edgesOf_32

set_option maxHeartbeats 4000000 in
set_option maxRecDepth 100000 in
theorem c_X5_edgesOf_gf (l : Launch) (D : va_G) (cI cZ cJ : ClassId) (ad : Nat → Nat) (hJ : eJ ad) (n : Nat) (g : Nat → Int32) (w : Nat → Int32) (P : Nat → Bool) (gm : Nat → Bool) (wm : Nat → Bool) (wz : Bool) (gb : Int32) (go : Bool) (gp : Bool) (gj : Bool) (wb : Int32) (wl : Int32) (wk : Int32) (wo : Bool) (fa : Int32) (mn : Nat) (mg : Nat → Int32) (mw : Nat → Int32) (mP : Nat → Bool) (o : Nat → Int64) (kd : Int32) (hk : kd = 0) (hn : n ≤ 1000) : ec_M l yX5_edgesOf (Cond.code yX5_edgesOf cX5_edgesOf 3 (some (.object "EdgeFinder$Edges")) :: eT) ({ frames := 0, cells := 0, slots := 0, locals := 0 }) D (eTy cI cZ cJ) [.ref (ad 0), .int kd] (cw ad cI cZ cJ n g w P gm wm false wz gb go gp gj wb wl wk wo fa mn mg mw mP o) (ed (some (.ref (ad 2))) (cw ad cI cZ cJ n g w P gm wm false wz gb go gp gj wb wl wk wo fa mn mg mw mP o)) (eA ad) := by
  refine ec_of (cc := cX5_edgesOf) (maxL := 3) (ret := (some (.object "EdgeFinder$Edges"))) (by decide) rfl (Nat.le_of_ble_eq_true rfl) ?_
  intro p e s m args below meth c ls hx hb hr hts hown hlk hml hP hK hN hl
  have hown : s.vm.findClass RX5 = some m.cls := hown
  have hl : lv_has ls 3 [(0, .ref (ad 0)), (1, .int kd)] := hl
  have hS : va_S (eA ad) s.heap s.heap [] := va_S.rf
  have hD : va_D (eA ad) (cw ad cI cZ cJ n g w P gm wm false wz gb go gp gj wb wl wk wo fa mn mg mw mP o) := eD_of hJ rfl
  refine lv_iload_n hx hb dX5_edgesOf_0 rfl (lv_at hl 1 rfl) ?_
  refine lv_if_ne (tgt := 11) hx hb dX5_edgesOf_1 (by decide) (fun h1 => ?_) (fun h1 => ?_)
  · skip
    exact absurd hk h1
  · skip
    refine lv_aload_n hx hb dX5_edgesOf_4 rfl (lv_at hl 0 rfl) ?_
    refine va_get (D := D) (ci := 4) (v := .ref (ad 2)) (C := RX5) (T := TX5) (N := 3) hx hb hts (fun w h => List.mem_cons_of_mem _ (inX5 w h)) hown hK hP 0 rfl rfl 1 (by decide) (eT_h hts tw109) (fun _ h9 => h9) rfl dX5_edgesOf_5 ?_
    refine lv_goto (tgt := 15) hx hb dX5_edgesOf_8 (by decide) ?_
    refine lv_astore_n (lv' := [(2, .ref (ad 2)), (0, .ref (ad 0)), (1, .int kd)]) hx hb dX5_edgesOf_15 rfl hl (Nat.le_of_ble_eq_true rfl) rfl (fun ls hl => ?_)
    refine lv_aload_n hx hb dX5_edgesOf_16 rfl (lv_at hl 0 rfl) ?_
    refine va_get (D := D) (ci := 0) (v := .int (ef_b false)) (C := RX0) (T := TX0) (N := 3) hx hb hts (fun w h => List.mem_cons_of_mem _ (inX0 w h)) hown hK hP 2 rfl rfl 1 (by decide) (eT_h hts tw80) (fun _ h9 => h9) rfl dX5_edgesOf_17 ?_
    refine ef_if_eq (tgt := 31) hx hb dX5_edgesOf_20 (by decide) (fun h2 => ?_) (fun h2 => ?_)
    · skip
      refine lv_aload_n hx hb dX5_edgesOf_31 rfl (lv_at hl 0 rfl) ?_
      exact ec_aret hx hb hr hlk hP hS ⟨rfl, rfl⟩ dX5_edgesOf_32
    · skip
      exact Bool.noConfusion h2

set_option maxHeartbeats 4000000 in
set_option maxRecDepth 100000 in
theorem c_X5_edgesOf_wt (l : Launch) (D : va_G) (cI cZ cJ : ClassId) (ad : Nat → Nat) (hJ : eJ ad) (n : Nat) (g : Nat → Int32) (w : Nat → Int32) (P : Nat → Bool) (gm : Nat → Bool) (wm : Nat → Bool) (gs : Bool) (gb : Int32) (go : Bool) (gp : Bool) (gj : Bool) (wb : Int32) (wl : Int32) (wk : Int32) (wo : Bool) (fa : Int32) (mn : Nat) (mg : Nat → Int32) (mw : Nat → Int32) (mP : Nat → Bool) (o : Nat → Int64) (kd : Int32) (hk : ¬ kd = 0) (hn : n ≤ 1000) : ec_M l yX5_edgesOf (Cond.code yX5_edgesOf cX5_edgesOf 3 (some (.object "EdgeFinder$Edges")) :: eT) ({ frames := 5, cells := 0, slots := 0, locals := 108 }) D (eTy cI cZ cJ) [.ref (ad 0), .int kd] (cw ad cI cZ cJ n g w P gm wm gs true gb go gp gj wb wl wk wo fa mn mg mw mP o) (ed (some (.ref (ad 3))) (cw ad cI cZ cJ n g w P gm (ef_up (ef_fl wm (ew_M w P n) n) n (decide (0 < n))) gs false gb go gp gj (eg_bf w n) (ew_l w n) (ew_k w n) (ew_od w n) fa mn mg mw mP o)) (eA ad) := by
  refine ec_of (cc := cX5_edgesOf) (maxL := 3) (ret := (some (.object "EdgeFinder$Edges"))) (by decide) rfl (Nat.le_of_ble_eq_true rfl) ?_
  intro p e s m args below meth c ls hx hb hr hts hown hlk hml hP hK hN hl
  have hown : s.vm.findClass RX5 = some m.cls := hown
  have hl : lv_has ls 3 [(0, .ref (ad 0)), (1, .int kd)] := hl
  have hS : va_S (eA ad) s.heap s.heap [] := va_S.rf
  have hD : va_D (eA ad) (cw ad cI cZ cJ n g w P gm wm gs true gb go gp gj wb wl wk wo fa mn mg mw mP o) := eD_of hJ rfl
  refine lv_iload_n hx hb dX5_edgesOf_0 rfl (lv_at hl 1 rfl) ?_
  refine lv_if_ne (tgt := 11) hx hb dX5_edgesOf_1 (by decide) (fun h1 => ?_) (fun h1 => ?_)
  · skip
    refine lv_aload_n hx hb dX5_edgesOf_11 rfl (lv_at hl 0 rfl) ?_
    refine va_get (D := D) (ci := 4) (v := .ref (ad 3)) (C := RX5) (T := TX5) (N := 3) hx hb hts (fun w h => List.mem_cons_of_mem _ (inX5 w h)) hown hK hP 0 rfl rfl 2 (by decide) (eT_h hts tw110) (fun _ h9 => h9) rfl dX5_edgesOf_12 ?_
    refine lv_astore_n (lv' := [(2, .ref (ad 3)), (0, .ref (ad 0)), (1, .int kd)]) hx hb dX5_edgesOf_15 rfl hl (Nat.le_of_ble_eq_true rfl) rfl (fun ls hl => ?_)
    refine lv_aload_n hx hb dX5_edgesOf_16 rfl (lv_at hl 0 rfl) ?_
    refine va_get (D := D) (ci := 0) (v := .int (ef_b true)) (C := RX0) (T := TX0) (N := 3) hx hb hts (fun w h => List.mem_cons_of_mem _ (inX0 w h)) hown hK hP 3 rfl rfl 1 (by decide) (eT_h hts tw80) (fun _ h9 => h9) rfl dX5_edgesOf_17 ?_
    refine ef_if_eq (tgt := 31) hx hb dX5_edgesOf_20 (by decide) (fun h2 => ?_) (fun h2 => ?_)
    · skip
      exact Bool.noConfusion h2
    · skip
      refine lv_aload_n hx hb dX5_edgesOf_23 rfl (lv_at hl 0 rfl) ?_
      refine lv_aload_n hx hb dX5_edgesOf_24 rfl (lv_at hl 1 rfl) ?_
      refine va_get (D := D) (ci := 4) (v := .ref (ad 1)) (C := RX5) (T := TX5) (N := 3) hx hb hts (fun w h => List.mem_cons_of_mem _ (inX5 w h)) hown hK hP 0 rfl rfl 0 (by decide) (eT_h hts tw108) (fun _ h9 => h9) rfl dX5_edgesOf_25 ?_
      refine ec_V (own := RX5) (C := RX0) (b := (ad 3)) (rest := []) hx hb hml hown hts hl.1 (c_X0_find_w l D cI cZ cJ ad hJ n g w P gm wm gs true gb go gp gj wb wl wk wo fa mn mg mw mP o hn) tw249 tw3 tw246 tw247 tw248 yd_X0_find rfl rfl ⟨Nat.le_of_ble_eq_true rfl, Nat.le_of_ble_eq_true rfl⟩ hP hK hN hP (q0 := 3) rfl rfl rfl rfl (Nat.le_of_ble_eq_true rfl) ⟨Nat.zero_le _, Nat.zero_le _⟩ hS (fun _ h9 => h9) dX5_edgesOf_28 (fun v9 W9 H locs hF hP hS hz9 hk9 => ?_)
      obtain ⟨rfl, rfl⟩ := hF
      have hD : va_D (eA ad) (cw ad cI cZ cJ n g w P gm (ef_up (ef_fl wm (ew_M w P n) n) n (decide (0 < n))) gs false gb go gp gj (eg_bf w n) (ew_l w n) (ew_k w n) (ew_od w n) fa mn mg mw mP o) := eD_of hJ rfl
      refine W.eq (g2 := F0 m 31 ls []) rfl ?_
      refine lv_aload_n hx hb dX5_edgesOf_31 rfl (lv_at hl 0 rfl) ?_
      exact ec_aret hx hb hr hlk hP hS ⟨rfl, rfl⟩ dX5_edgesOf_32
  · skip
    exact absurd h1 hk

set_option maxHeartbeats 4000000 in
set_option maxRecDepth 100000 in
theorem c_X5_edgesOf_wf (l : Launch) (D : va_G) (cI cZ cJ : ClassId) (ad : Nat → Nat) (hJ : eJ ad) (n : Nat) (g : Nat → Int32) (w : Nat → Int32) (P : Nat → Bool) (gm : Nat → Bool) (wm : Nat → Bool) (gs : Bool) (gb : Int32) (go : Bool) (gp : Bool) (gj : Bool) (wb : Int32) (wl : Int32) (wk : Int32) (wo : Bool) (fa : Int32) (mn : Nat) (mg : Nat → Int32) (mw : Nat → Int32) (mP : Nat → Bool) (o : Nat → Int64) (kd : Int32) (hk : ¬ kd = 0) (hn : n ≤ 1000) : ec_M l yX5_edgesOf (Cond.code yX5_edgesOf cX5_edgesOf 3 (some (.object "EdgeFinder$Edges")) :: eT) ({ frames := 0, cells := 0, slots := 0, locals := 0 }) D (eTy cI cZ cJ) [.ref (ad 0), .int kd] (cw ad cI cZ cJ n g w P gm wm gs false gb go gp gj wb wl wk wo fa mn mg mw mP o) (ed (some (.ref (ad 3))) (cw ad cI cZ cJ n g w P gm wm gs false gb go gp gj wb wl wk wo fa mn mg mw mP o)) (eA ad) := by
  refine ec_of (cc := cX5_edgesOf) (maxL := 3) (ret := (some (.object "EdgeFinder$Edges"))) (by decide) rfl (Nat.le_of_ble_eq_true rfl) ?_
  intro p e s m args below meth c ls hx hb hr hts hown hlk hml hP hK hN hl
  have hown : s.vm.findClass RX5 = some m.cls := hown
  have hl : lv_has ls 3 [(0, .ref (ad 0)), (1, .int kd)] := hl
  have hS : va_S (eA ad) s.heap s.heap [] := va_S.rf
  have hD : va_D (eA ad) (cw ad cI cZ cJ n g w P gm wm gs false gb go gp gj wb wl wk wo fa mn mg mw mP o) := eD_of hJ rfl
  refine lv_iload_n hx hb dX5_edgesOf_0 rfl (lv_at hl 1 rfl) ?_
  refine lv_if_ne (tgt := 11) hx hb dX5_edgesOf_1 (by decide) (fun h1 => ?_) (fun h1 => ?_)
  · skip
    refine lv_aload_n hx hb dX5_edgesOf_11 rfl (lv_at hl 0 rfl) ?_
    refine va_get (D := D) (ci := 4) (v := .ref (ad 3)) (C := RX5) (T := TX5) (N := 3) hx hb hts (fun w h => List.mem_cons_of_mem _ (inX5 w h)) hown hK hP 0 rfl rfl 2 (by decide) (eT_h hts tw110) (fun _ h9 => h9) rfl dX5_edgesOf_12 ?_
    refine lv_astore_n (lv' := [(2, .ref (ad 3)), (0, .ref (ad 0)), (1, .int kd)]) hx hb dX5_edgesOf_15 rfl hl (Nat.le_of_ble_eq_true rfl) rfl (fun ls hl => ?_)
    refine lv_aload_n hx hb dX5_edgesOf_16 rfl (lv_at hl 0 rfl) ?_
    refine va_get (D := D) (ci := 0) (v := .int (ef_b false)) (C := RX0) (T := TX0) (N := 3) hx hb hts (fun w h => List.mem_cons_of_mem _ (inX0 w h)) hown hK hP 3 rfl rfl 1 (by decide) (eT_h hts tw80) (fun _ h9 => h9) rfl dX5_edgesOf_17 ?_
    refine ef_if_eq (tgt := 31) hx hb dX5_edgesOf_20 (by decide) (fun h2 => ?_) (fun h2 => ?_)
    · skip
      refine lv_aload_n hx hb dX5_edgesOf_31 rfl (lv_at hl 0 rfl) ?_
      exact ec_aret hx hb hr hlk hP hS ⟨rfl, rfl⟩ dX5_edgesOf_32
    · skip
      exact Bool.noConfusion h2
  · skip
    exact absurd h1 hk

set_option maxHeartbeats 4000000 in
set_option maxRecDepth 100000 in
theorem c_X5_add (l : Launch) (D : va_G) (cI cZ cJ : ClassId) (ad : Nat → Nat) (hJ : eJ ad) (n : Nat) (g : Nat → Int32) (w : Nat → Int32) (P : Nat → Bool) (gm : Nat → Bool) (wm : Nat → Bool) (gs : Bool) (wz : Bool) (gb : Int32) (go : Bool) (gp : Bool) (gj : Bool) (wb : Int32) (wl : Int32) (wk : Int32) (wo : Bool) (fa : Int32) (mn : Nat) (mg : Nat → Int32) (mw : Nat → Int32) (mP : Nat → Bool) (o : Nat → Int64) (x y : Int32) (b : Bool) (hg : ei_ok x 13) (hw0 : ei_ok y 18) (hn : n < 1000) : ec_M l yX5_add (Cond.code yX5_add cX5_add 4 (some .int) :: eT) ({ frames := 1, cells := 0, slots := 0, locals := 24 }) D (eTy cI cZ cJ) [.ref (ad 0), .int x, .int y, .int (ef_b b)] (cw ad cI cZ cJ n g w P gm wm gs wz gb go gp gj wb wl wk wo fa mn mg mw mP o) (ed (some (.int (nI (n + 1)))) (cw ad cI cZ cJ (n + 1) (upd g n x) (upd w n y) (ef_up P n b) gm wm true true gb go gp gj wb wl wk wo fa mn mg mw mP o)) (eA ad) := by
  refine ec_of (cc := cX5_add) (maxL := 4) (ret := (some .int)) (by decide) rfl (Nat.le_of_ble_eq_true rfl) ?_
  intro p e s m args below meth c ls hx hb hr hts hown hlk hml hP hK hN hl
  have hown : s.vm.findClass RX5 = some m.cls := hown
  have hl : lv_has ls 4 [(0, .ref (ad 0)), (1, .int x), (2, .int y), (3, .int (ef_b b))] := hl
  have hS : va_S (eA ad) s.heap s.heap [] := va_S.rf
  have hD : va_D (eA ad) (cw ad cI cZ cJ n g w P gm wm gs wz gb go gp gj wb wl wk wo fa mn mg mw mP o) := eD_of hJ rfl
  refine lv_iload_n hx hb dX5_add_0 rfl (lv_at hl 1 rfl) ?_
  refine lv_bipush (v := 13) hx hb dX5_add_1 (by decide) ?_
  refine er_Sv (own := RX5) (rest := []) hx hb hml hown hts hl.1 (k_X5_requireUpTo l D cI cZ cJ x 13 hg) tw129 tw1 tw127 tw128 yd_X5_requireUpTo rfl rfl ⟨Nat.le_of_ble_eq_true rfl, Nat.le_of_ble_eq_true rfl⟩ er_nil hK rfl rfl (Nat.le_of_ble_eq_true rfl) ⟨Nat.zero_le _, Nat.zero_le _⟩ dX5_add_3 ?_
  refine lv_iload_n hx hb dX5_add_6 rfl (lv_at hl 2 rfl) ?_
  refine lv_bipush (v := 18) hx hb dX5_add_7 (by decide) ?_
  refine er_Sv (own := RX5) (rest := []) hx hb hml hown hts hl.1 (k_X5_requireUpTo l D cI cZ cJ y 18 hw0) tw129 tw1 tw127 tw128 yd_X5_requireUpTo rfl rfl ⟨Nat.le_of_ble_eq_true rfl, Nat.le_of_ble_eq_true rfl⟩ er_nil hK rfl rfl (Nat.le_of_ble_eq_true rfl) ⟨Nat.zero_le _, Nat.zero_le _⟩ dX5_add_9 ?_
  refine lv_aload_n hx hb dX5_add_12 rfl (lv_at hl 0 rfl) ?_
  refine va_get (D := D) (ci := 4) (v := .ref (ad 1)) (C := RX5) (T := TX5) (N := 3) hx hb hts (fun w h => List.mem_cons_of_mem _ (inX5 w h)) hown hK hP 0 rfl rfl 0 (by decide) (eT_h hts tw108) (fun _ h9 => h9) rfl dX5_add_13 ?_
  refine va_get (D := D) (ci := 2) (v := .int (nI n)) (C := RX2) (T := TX2) (N := 4) hx hb hts (fun w h => List.mem_cons_of_mem _ (inX2 w h)) hown hK hP 1 rfl rfl 3 (by decide) (eT_h hts tw36) (fun _ h9 => h9) rfl dX5_add_16 ?_
  refine lv_sipush (v := 1000) hx hb dX5_add_19 (by decide) ?_
  refine lv_icmp_lt (tgt := 35) hx hb dX5_add_22 (by decide) (fun h1 => ?_) (fun h1 => ?_)
  · skip
    have h1 : n < 1000 := (nI_ltI (a := n) (b := 1000) (by omega) (by omega)).mp h1
    refine lv_aload_n hx hb dX5_add_35 rfl (lv_at hl 0 rfl) ?_
    refine va_get (D := D) (ci := 4) (v := .ref (ad 1)) (C := RX5) (T := TX5) (N := 3) hx hb hts (fun w h => List.mem_cons_of_mem _ (inX5 w h)) hown hK hP 0 rfl rfl 0 (by decide) (eT_h hts tw108) (fun _ h9 => h9) rfl dX5_add_36 ?_
    refine lv_dup hx hb dX5_add_39 rfl ?_
    refine va_get (D := D) (ci := 2) (v := .int (nI n)) (C := RX2) (T := TX2) (N := 4) hx hb hts (fun w h => List.mem_cons_of_mem _ (inX2 w h)) hown hK hP 1 rfl rfl 3 (by decide) (eT_h hts tw36) (fun _ h9 => h9) rfl dX5_add_40 ?_
    refine lv_iconst (v := 1) hx hb dX5_add_43 (by decide) ?_
    refine lv_iadd hx hb dX5_add_44 ?_
    refine ef_eqi (y := nI (n + 1)) (nI_add n 1) ?_
    refine va_put (D := D) (ci := 2) (v := .int (nI (n + 1))) (ty := .int) (C := RX2) (T := TX2) (N := 4) hx hb hts (fun w h => List.mem_cons_of_mem _ (inX2 w h)) tyX2 tyX2_ok nmX2 hown hK hP hD hS 1 rfl rfl 3 (by decide) (eT_h hts tw36) (fun _ h9 => h9) rfl (by decide +kernel) rfl rfl (Nat.le_of_ble_eq_true rfl) dX5_add_45 (fun H locs hP hD hS => ?_)
    have hP : va_P D vwCl (cw ad cI cZ cJ (n + 1) g w P gm wm gs wz gb go gp gj wb wl wk wo fa mn mg mw mP o) H := hP
    have hD : va_D (eA ad) (cw ad cI cZ cJ (n + 1) g w P gm wm gs wz gb go gp gj wb wl wk wo fa mn mg mw mP o) := hD
    refine lv_aload_n hx hb dX5_add_48 rfl (lv_at hl 0 rfl) ?_
    refine va_get (D := D) (ci := 4) (v := .ref (ad 1)) (C := RX5) (T := TX5) (N := 3) hx hb hts (fun w h => List.mem_cons_of_mem _ (inX5 w h)) hown hK hP 0 rfl rfl 0 (by decide) (eT_h hts tw108) (fun _ h9 => h9) rfl dX5_add_49 ?_
    refine lv_aload_n hx hb dX5_add_52 rfl (lv_at hl 0 rfl) ?_
    refine va_get (D := D) (ci := 4) (v := .ref (ad 1)) (C := RX5) (T := TX5) (N := 3) hx hb hts (fun w h => List.mem_cons_of_mem _ (inX5 w h)) hown hK hP 0 rfl rfl 0 (by decide) (eT_h hts tw108) (fun _ h9 => h9) rfl dX5_add_53 ?_
    refine va_get (D := D) (ci := 2) (v := .int (nI (n + 1))) (C := RX2) (T := TX2) (N := 4) hx hb hts (fun w h => List.mem_cons_of_mem _ (inX2 w h)) hown hK hP 1 rfl rfl 3 (by decide) (eT_h hts tw36) (fun _ h9 => h9) rfl dX5_add_56 ?_
    refine lv_iconst (v := 1) hx hb dX5_add_59 (by decide) ?_
    refine lv_isub hx hb dX5_add_60 ?_
    refine ef_eqi (y := nI n) (nI_pred n) ?_
    refine lv_iload_n hx hb dX5_add_61 rfl (lv_at hl 1 rfl) ?_
    refine lv_iload_n hx hb dX5_add_62 rfl (lv_at hl 2 rfl) ?_
    refine lv_iload_n hx hb dX5_add_63 rfl (lv_at hl 3 rfl) ?_
    refine ec_V (own := RX5) (C := RX2) (b := (ad 1)) (rest := []) hx hb hml hown hts hl.1 (c_X2_write l D cI cZ cJ ad hJ (n + 1) g w P gm wm gs wz gb go gp gj wb wl wk wo fa mn mg mw mP o n x y b (by omega)) tw216 tw2 tw213 tw214 tw215 yd_X2_write rfl rfl ⟨Nat.le_of_ble_eq_true rfl, Nat.le_of_ble_eq_true rfl⟩ hP hK hN hP (q0 := 1) rfl rfl rfl rfl (Nat.le_of_ble_eq_true rfl) ⟨Nat.zero_le _, Nat.zero_le _⟩ hS (fun _ h9 => h9) dX5_add_64 (fun v9 W9 H locs hF hP hS hz9 hk9 => ?_)
    obtain ⟨rfl, rfl⟩ := hF
    have hD : va_D (eA ad) (cw ad cI cZ cJ (n + 1) (upd g n x) (upd w n y) (ef_up P n b) gm wm gs wz gb go gp gj wb wl wk wo fa mn mg mw mP o) := eD_of hJ rfl
    refine W.eq (g2 := F0 m 67 ls []) rfl ?_
    refine lv_aload_n hx hb dX5_add_67 rfl (lv_at hl 0 rfl) ?_
    refine ec_V (own := RX5) (C := RX5) (b := (ad 0)) (rest := []) hx hb hml hown hts hl.1 (c_X5_forgetEdges l D cI cZ cJ ad hJ (n + 1) (upd g n x) (upd w n y) (ef_up P n b) gm wm gs wz gb go gp gj wb wl wk wo fa mn mg mw mP o) tw220 tw1 tw217 tw219 ts_X5_forgetEdges yd_X5_forgetEdges rfl rfl ⟨Nat.le_of_ble_eq_true rfl, Nat.le_of_ble_eq_true rfl⟩ hP hK hN hP (q0 := 0) rfl rfl rfl rfl (Nat.le_of_ble_eq_true rfl) ⟨Nat.zero_le _, Nat.zero_le _⟩ hS (fun _ h9 => h9) dX5_add_68 (fun v9 W9 H locs hF hP hS hz9 hk9 => ?_)
    obtain ⟨rfl, rfl⟩ := hF
    have hD : va_D (eA ad) (cw ad cI cZ cJ (n + 1) (upd g n x) (upd w n y) (ef_up P n b) gm wm true true gb go gp gj wb wl wk wo fa mn mg mw mP o) := eD_of hJ rfl
    refine W.eq (g2 := F0 m 71 ls []) rfl ?_
    refine lv_aload_n hx hb dX5_add_71 rfl (lv_at hl 0 rfl) ?_
    refine va_get (D := D) (ci := 4) (v := .ref (ad 1)) (C := RX5) (T := TX5) (N := 3) hx hb hts (fun w h => List.mem_cons_of_mem _ (inX5 w h)) hown hK hP 0 rfl rfl 0 (by decide) (eT_h hts tw108) (fun _ h9 => h9) rfl dX5_add_72 ?_
    refine va_get (D := D) (ci := 2) (v := .int (nI (n + 1))) (C := RX2) (T := TX2) (N := 4) hx hb hts (fun w h => List.mem_cons_of_mem _ (inX2 w h)) hown hK hP 1 rfl rfl 3 (by decide) (eT_h hts tw36) (fun _ h9 => h9) rfl dX5_add_75 ?_
    exact ec_iret hx hb hr hlk hP hS ⟨rfl, rfl⟩ dX5_add_78
  · skip
    exact absurd (nI_lt (a := n) (b := 1000) hn (by decide)) h1

set_option maxHeartbeats 4000000 in
set_option maxRecDepth 100000 in
theorem c_X5_set (l : Launch) (D : va_G) (cI cZ cJ : ClassId) (ad : Nat → Nat) (hJ : eJ ad) (n : Nat) (g : Nat → Int32) (w : Nat → Int32) (P : Nat → Bool) (gm : Nat → Bool) (wm : Nat → Bool) (gs : Bool) (wz : Bool) (gb : Int32) (go : Bool) (gp : Bool) (gj : Bool) (wb : Int32) (wl : Int32) (wk : Int32) (wo : Bool) (fa : Int32) (mn : Nat) (mg : Nat → Int32) (mw : Nat → Int32) (mP : Nat → Bool) (o : Nat → Int64) (i : Nat) (x y : Int32) (b : Bool) (hn : n ≤ 1000) (hi : i < n) (hg : ei_ok x 13) (hw0 : ei_ok y 18) : ec_M l yX5_set (Cond.code yX5_set cX5_set 5 none :: eT) ({ frames := 1, cells := 0, slots := 0, locals := 24 }) D (eTy cI cZ cJ) [.ref (ad 0), .int (nI i), .int x, .int y, .int (ef_b b)] (cw ad cI cZ cJ n g w P gm wm gs wz gb go gp gj wb wl wk wo fa mn mg mw mP o) (ed none (cw ad cI cZ cJ n (upd g i x) (upd w i y) (ef_up P i b) gm wm true true gb go gp gj wb wl wk wo fa mn mg mw mP o)) (eA ad) := by
  refine ec_of (cc := cX5_set) (maxL := 5) (ret := none) (by decide) rfl (Nat.le_of_ble_eq_true rfl) ?_
  intro p e s m args below meth c ls hx hb hr hts hown hlk hml hP hK hN hl
  have hown : s.vm.findClass RX5 = some m.cls := hown
  have hl : lv_has ls 5 [(0, .ref (ad 0)), (1, .int (nI i)), (2, .int x), (3, .int y), (4, .int (ef_b b))] := hl
  have hS : va_S (eA ad) s.heap s.heap [] := va_S.rf
  have hD : va_D (eA ad) (cw ad cI cZ cJ n g w P gm wm gs wz gb go gp gj wb wl wk wo fa mn mg mw mP o) := eD_of hJ rfl
  refine lv_iload_n hx hb dX5_set_0 rfl (lv_at hl 1 rfl) ?_
  refine lv_aload_n hx hb dX5_set_1 rfl (lv_at hl 0 rfl) ?_
  refine va_get (D := D) (ci := 4) (v := .ref (ad 1)) (C := RX5) (T := TX5) (N := 3) hx hb hts (fun w h => List.mem_cons_of_mem _ (inX5 w h)) hown hK hP 0 rfl rfl 0 (by decide) (eT_h hts tw108) (fun _ h9 => h9) rfl dX5_set_2 ?_
  refine va_get (D := D) (ci := 2) (v := .int (nI n)) (C := RX2) (T := TX2) (N := 4) hx hb hts (fun w h => List.mem_cons_of_mem _ (inX2 w h)) hown hK hP 1 rfl rfl 3 (by decide) (eT_h hts tw36) (fun _ h9 => h9) rfl dX5_set_5 ?_
  refine lv_iconst (v := 1) hx hb dX5_set_8 (by decide) ?_
  refine lv_isub hx hb dX5_set_9 ?_
  refine er_Sv (own := RX5) (rest := []) hx hb hml hown hts hl.1 (k_X5_requireUpTo l D cI cZ cJ (nI i) ((nI n) - 1) (ei_ok_p hi hn)) tw129 tw1 tw127 tw128 yd_X5_requireUpTo rfl rfl ⟨Nat.le_of_ble_eq_true rfl, Nat.le_of_ble_eq_true rfl⟩ er_nil hK rfl rfl (Nat.le_of_ble_eq_true rfl) ⟨Nat.zero_le _, Nat.zero_le _⟩ dX5_set_10 ?_
  refine lv_iload_n hx hb dX5_set_13 rfl (lv_at hl 2 rfl) ?_
  refine lv_bipush (v := 13) hx hb dX5_set_14 (by decide) ?_
  refine er_Sv (own := RX5) (rest := []) hx hb hml hown hts hl.1 (k_X5_requireUpTo l D cI cZ cJ x 13 hg) tw129 tw1 tw127 tw128 yd_X5_requireUpTo rfl rfl ⟨Nat.le_of_ble_eq_true rfl, Nat.le_of_ble_eq_true rfl⟩ er_nil hK rfl rfl (Nat.le_of_ble_eq_true rfl) ⟨Nat.zero_le _, Nat.zero_le _⟩ dX5_set_16 ?_
  refine lv_iload_n hx hb dX5_set_19 rfl (lv_at hl 3 rfl) ?_
  refine lv_bipush (v := 18) hx hb dX5_set_20 (by decide) ?_
  refine er_Sv (own := RX5) (rest := []) hx hb hml hown hts hl.1 (k_X5_requireUpTo l D cI cZ cJ y 18 hw0) tw129 tw1 tw127 tw128 yd_X5_requireUpTo rfl rfl ⟨Nat.le_of_ble_eq_true rfl, Nat.le_of_ble_eq_true rfl⟩ er_nil hK rfl rfl (Nat.le_of_ble_eq_true rfl) ⟨Nat.zero_le _, Nat.zero_le _⟩ dX5_set_22 ?_
  refine lv_aload_n hx hb dX5_set_25 rfl (lv_at hl 0 rfl) ?_
  refine va_get (D := D) (ci := 4) (v := .ref (ad 1)) (C := RX5) (T := TX5) (N := 3) hx hb hts (fun w h => List.mem_cons_of_mem _ (inX5 w h)) hown hK hP 0 rfl rfl 0 (by decide) (eT_h hts tw108) (fun _ h9 => h9) rfl dX5_set_26 ?_
  refine lv_iload_n hx hb dX5_set_29 rfl (lv_at hl 1 rfl) ?_
  refine lv_iload_n hx hb dX5_set_30 rfl (lv_at hl 2 rfl) ?_
  refine lv_iload_n hx hb dX5_set_31 rfl (lv_at hl 3 rfl) ?_
  refine lv_iload hx hb dX5_set_32 (lv_at hl 4 rfl) ?_
  refine ec_V (own := RX5) (C := RX2) (b := (ad 1)) (rest := []) hx hb hml hown hts hl.1 (c_X2_write l D cI cZ cJ ad hJ n g w P gm wm gs wz gb go gp gj wb wl wk wo fa mn mg mw mP o i x y b (by omega)) tw216 tw2 tw213 tw214 tw215 yd_X2_write rfl rfl ⟨Nat.le_of_ble_eq_true rfl, Nat.le_of_ble_eq_true rfl⟩ hP hK hN hP (q0 := 1) rfl rfl rfl rfl (Nat.le_of_ble_eq_true rfl) ⟨Nat.zero_le _, Nat.zero_le _⟩ hS (fun _ h9 => h9) dX5_set_34 (fun v9 W9 H locs hF hP hS hz9 hk9 => ?_)
  obtain ⟨rfl, rfl⟩ := hF
  have hD : va_D (eA ad) (cw ad cI cZ cJ n (upd g i x) (upd w i y) (ef_up P i b) gm wm gs wz gb go gp gj wb wl wk wo fa mn mg mw mP o) := eD_of hJ rfl
  refine W.eq (g2 := F0 m 37 ls []) rfl ?_
  refine lv_aload_n hx hb dX5_set_37 rfl (lv_at hl 0 rfl) ?_
  refine ec_V (own := RX5) (C := RX5) (b := (ad 0)) (rest := []) hx hb hml hown hts hl.1 (c_X5_forgetEdges l D cI cZ cJ ad hJ n (upd g i x) (upd w i y) (ef_up P i b) gm wm gs wz gb go gp gj wb wl wk wo fa mn mg mw mP o) tw220 tw1 tw217 tw219 ts_X5_forgetEdges yd_X5_forgetEdges rfl rfl ⟨Nat.le_of_ble_eq_true rfl, Nat.le_of_ble_eq_true rfl⟩ hP hK hN hP (q0 := 0) rfl rfl rfl rfl (Nat.le_of_ble_eq_true rfl) ⟨Nat.zero_le _, Nat.zero_le _⟩ hS (fun _ h9 => h9) dX5_set_38 (fun v9 W9 H locs hF hP hS hz9 hk9 => ?_)
  obtain ⟨rfl, rfl⟩ := hF
  have hD : va_D (eA ad) (cw ad cI cZ cJ n (upd g i x) (upd w i y) (ef_up P i b) gm wm true true gb go gp gj wb wl wk wo fa mn mg mw mP o) := eD_of hJ rfl
  refine W.eq (g2 := F0 m 41 ls []) rfl ?_
  exact ec_vret hx hb hr hlk hP hS ⟨rfl, rfl⟩ dX5_set_41

set_option maxHeartbeats 4000000 in
set_option maxRecDepth 100000 in
theorem c_X5_cut (l : Launch) (D : va_G) (cI cZ cJ : ClassId) (ad : Nat → Nat) (hJ : eJ ad) (n : Nat) (g : Nat → Int32) (w : Nat → Int32) (P : Nat → Bool) (gm : Nat → Bool) (wm : Nat → Bool) (gs : Bool) (wz : Bool) (gb : Int32) (go : Bool) (gp : Bool) (gj : Bool) (wb : Int32) (wl : Int32) (wk : Int32) (wo : Bool) (fa : Int32) (mn : Nat) (mg : Nat → Int32) (mw : Nat → Int32) (mP : Nat → Bool) (o : Nat → Int64) (k : Nat) (hn : n ≤ 1000) (hi : k ≤ n) : ec_M l yX5_cut (Cond.code yX5_cut cX5_cut 3 (some .int) :: eT) ({ frames := 1, cells := 0, slots := 0, locals := 21 }) D (eTy cI cZ cJ) [.ref (ad 0), .int (nI k)] (cw ad cI cZ cJ n g w P gm wm gs wz gb go gp gj wb wl wk wo fa mn mg mw mP o) (ed (some (.int (nI n))) (cw ad cI cZ cJ k g w P gm wm true true gb go gp gj wb wl wk wo fa mn mg mw mP o)) (eA ad) := by
  refine ec_of (cc := cX5_cut) (maxL := 3) (ret := (some .int)) (by decide) rfl (Nat.le_of_ble_eq_true rfl) ?_
  intro p e s m args below meth c ls hx hb hr hts hown hlk hml hP hK hN hl
  have hown : s.vm.findClass RX5 = some m.cls := hown
  have hl : lv_has ls 3 [(0, .ref (ad 0)), (1, .int (nI k))] := hl
  have hS : va_S (eA ad) s.heap s.heap [] := va_S.rf
  have hD : va_D (eA ad) (cw ad cI cZ cJ n g w P gm wm gs wz gb go gp gj wb wl wk wo fa mn mg mw mP o) := eD_of hJ rfl
  refine lv_iload_n hx hb dX5_cut_0 rfl (lv_at hl 1 rfl) ?_
  refine lv_aload_n hx hb dX5_cut_1 rfl (lv_at hl 0 rfl) ?_
  refine va_get (D := D) (ci := 4) (v := .ref (ad 1)) (C := RX5) (T := TX5) (N := 3) hx hb hts (fun w h => List.mem_cons_of_mem _ (inX5 w h)) hown hK hP 0 rfl rfl 0 (by decide) (eT_h hts tw108) (fun _ h9 => h9) rfl dX5_cut_2 ?_
  refine va_get (D := D) (ci := 2) (v := .int (nI n)) (C := RX2) (T := TX2) (N := 4) hx hb hts (fun w h => List.mem_cons_of_mem _ (inX2 w h)) hown hK hP 1 rfl rfl 3 (by decide) (eT_h hts tw36) (fun _ h9 => h9) rfl dX5_cut_5 ?_
  refine er_Sv (own := RX5) (rest := []) hx hb hml hown hts hl.1 (k_X5_requireUpTo l D cI cZ cJ (nI k) (nI n) (ei_ok_n hi hn)) tw129 tw1 tw127 tw128 yd_X5_requireUpTo rfl rfl ⟨Nat.le_of_ble_eq_true rfl, Nat.le_of_ble_eq_true rfl⟩ er_nil hK rfl rfl (Nat.le_of_ble_eq_true rfl) ⟨Nat.zero_le _, Nat.zero_le _⟩ dX5_cut_8 ?_
  refine lv_aload_n hx hb dX5_cut_11 rfl (lv_at hl 0 rfl) ?_
  refine va_get (D := D) (ci := 4) (v := .ref (ad 1)) (C := RX5) (T := TX5) (N := 3) hx hb hts (fun w h => List.mem_cons_of_mem _ (inX5 w h)) hown hK hP 0 rfl rfl 0 (by decide) (eT_h hts tw108) (fun _ h9 => h9) rfl dX5_cut_12 ?_
  refine va_get (D := D) (ci := 2) (v := .int (nI n)) (C := RX2) (T := TX2) (N := 4) hx hb hts (fun w h => List.mem_cons_of_mem _ (inX2 w h)) hown hK hP 1 rfl rfl 3 (by decide) (eT_h hts tw36) (fun _ h9 => h9) rfl dX5_cut_15 ?_
  refine lv_istore_n (lv' := [(2, .int (nI n)), (0, .ref (ad 0)), (1, .int (nI k))]) hx hb dX5_cut_18 rfl hl (Nat.le_of_ble_eq_true rfl) rfl (fun ls hl => ?_)
  refine lv_aload_n hx hb dX5_cut_19 rfl (lv_at hl 1 rfl) ?_
  refine va_get (D := D) (ci := 4) (v := .ref (ad 1)) (C := RX5) (T := TX5) (N := 3) hx hb hts (fun w h => List.mem_cons_of_mem _ (inX5 w h)) hown hK hP 0 rfl rfl 0 (by decide) (eT_h hts tw108) (fun _ h9 => h9) rfl dX5_cut_20 ?_
  refine lv_iload_n hx hb dX5_cut_23 rfl (lv_at hl 2 rfl) ?_
  refine va_put (D := D) (ci := 2) (v := .int (nI k)) (ty := .int) (C := RX2) (T := TX2) (N := 4) hx hb hts (fun w h => List.mem_cons_of_mem _ (inX2 w h)) tyX2 tyX2_ok nmX2 hown hK hP hD hS 1 rfl rfl 3 (by decide) (eT_h hts tw36) (fun _ h9 => h9) rfl (by decide +kernel) rfl rfl (Nat.le_of_ble_eq_true rfl) dX5_cut_24 (fun H locs hP hD hS => ?_)
  have hP : va_P D vwCl (cw ad cI cZ cJ k g w P gm wm gs wz gb go gp gj wb wl wk wo fa mn mg mw mP o) H := hP
  have hD : va_D (eA ad) (cw ad cI cZ cJ k g w P gm wm gs wz gb go gp gj wb wl wk wo fa mn mg mw mP o) := hD
  refine lv_aload_n hx hb dX5_cut_27 rfl (lv_at hl 1 rfl) ?_
  refine ec_V (own := RX5) (C := RX5) (b := (ad 0)) (rest := []) hx hb hml hown hts hl.1 (c_X5_forgetEdges l D cI cZ cJ ad hJ k g w P gm wm gs wz gb go gp gj wb wl wk wo fa mn mg mw mP o) tw220 tw1 tw217 tw219 ts_X5_forgetEdges yd_X5_forgetEdges rfl rfl ⟨Nat.le_of_ble_eq_true rfl, Nat.le_of_ble_eq_true rfl⟩ hP hK hN hP (q0 := 0) rfl rfl rfl rfl (Nat.le_of_ble_eq_true rfl) ⟨Nat.zero_le _, Nat.zero_le _⟩ hS (fun _ h9 => h9) dX5_cut_28 (fun v9 W9 H locs hF hP hS hz9 hk9 => ?_)
  obtain ⟨rfl, rfl⟩ := hF
  have hD : va_D (eA ad) (cw ad cI cZ cJ k g w P gm wm true true gb go gp gj wb wl wk wo fa mn mg mw mP o) := eD_of hJ rfl
  refine W.eq (g2 := F0 m 31 ls []) rfl ?_
  refine lv_iload_n hx hb dX5_cut_31 rfl (lv_at hl 0 rfl) ?_
  exact ec_iret hx hb hr hlk hP hS ⟨rfl, rfl⟩ dX5_cut_32

set_option maxHeartbeats 4000000 in
set_option maxRecDepth 100000 in
theorem c_X5_edge_gt (l : Launch) (D : va_G) (cI cZ cJ : ClassId) (ad : Nat → Nat) (hJ : eJ ad) (n : Nat) (g : Nat → Int32) (w : Nat → Int32) (P : Nat → Bool) (gm : Nat → Bool) (wm : Nat → Bool) (wz : Bool) (gb : Int32) (go : Bool) (gp : Bool) (gj : Bool) (wb : Int32) (wl : Int32) (wk : Int32) (wo : Bool) (fa : Int32) (mn : Nat) (mg : Nat → Int32) (mw : Nat → Int32) (mP : Nat → Bool) (o : Nat → Int64) (kd : Int32) (i : Nat) (hk1 : ei_ok kd 1) (hk : kd = 0) (hn : n ≤ 1000) (hi : i ≤ n) : ec_M l yX5_edge (Cond.code yX5_edge cX5_edge 3 (some .boolean) :: eT) ({ frames := 4, cells := 0, slots := 0, locals := 88 }) D (eTy cI cZ cJ) [.ref (ad 0), .int kd, .int (nI i)] (cw ad cI cZ cJ n g w P gm wm true wz gb go gp gj wb wl wk wo fa mn mg mw mP o) (ed (some (.int (ef_b (eb_g g P n i)))) (cw ad cI cZ cJ n g w P (ef_up (ef_fl gm (eg_M g P) n) n (decide (0 < n))) wm false wz (eg_bf g n) (eg_od g n) (eg_ap g P n) (eg_aj g P n) wb wl wk wo fa mn mg mw mP o)) (eA ad) := by
  refine ec_of (cc := cX5_edge) (maxL := 3) (ret := (some .boolean)) (by decide) rfl (Nat.le_of_ble_eq_true rfl) ?_
  intro p e s m args below meth c ls hx hb hr hts hown hlk hml hP hK hN hl
  have hown : s.vm.findClass RX5 = some m.cls := hown
  have hl : lv_has ls 3 [(0, .ref (ad 0)), (1, .int kd), (2, .int (nI i))] := hl
  have hS : va_S (eA ad) s.heap s.heap [] := va_S.rf
  have hD : va_D (eA ad) (cw ad cI cZ cJ n g w P gm wm true wz gb go gp gj wb wl wk wo fa mn mg mw mP o) := eD_of hJ rfl
  refine lv_iload_n hx hb dX5_edge_0 rfl (lv_at hl 1 rfl) ?_
  refine lv_iconst (v := 1) hx hb dX5_edge_1 (by decide) ?_
  refine er_Sv (own := RX5) (rest := []) hx hb hml hown hts hl.1 (k_X5_requireUpTo l D cI cZ cJ kd 1 hk1) tw129 tw1 tw127 tw128 yd_X5_requireUpTo rfl rfl ⟨Nat.le_of_ble_eq_true rfl, Nat.le_of_ble_eq_true rfl⟩ er_nil hK rfl rfl (Nat.le_of_ble_eq_true rfl) ⟨Nat.zero_le _, Nat.zero_le _⟩ dX5_edge_2 ?_
  refine lv_iload_n hx hb dX5_edge_5 rfl (lv_at hl 2 rfl) ?_
  refine lv_aload_n hx hb dX5_edge_6 rfl (lv_at hl 0 rfl) ?_
  refine va_get (D := D) (ci := 4) (v := .ref (ad 1)) (C := RX5) (T := TX5) (N := 3) hx hb hts (fun w h => List.mem_cons_of_mem _ (inX5 w h)) hown hK hP 0 rfl rfl 0 (by decide) (eT_h hts tw108) (fun _ h9 => h9) rfl dX5_edge_7 ?_
  refine va_get (D := D) (ci := 2) (v := .int (nI n)) (C := RX2) (T := TX2) (N := 4) hx hb hts (fun w h => List.mem_cons_of_mem _ (inX2 w h)) hown hK hP 1 rfl rfl 3 (by decide) (eT_h hts tw36) (fun _ h9 => h9) rfl dX5_edge_10 ?_
  refine er_Sv (own := RX5) (rest := []) hx hb hml hown hts hl.1 (k_X5_requireUpTo l D cI cZ cJ (nI i) (nI n) (ei_ok_n hi hn)) tw129 tw1 tw127 tw128 yd_X5_requireUpTo rfl rfl ⟨Nat.le_of_ble_eq_true rfl, Nat.le_of_ble_eq_true rfl⟩ er_nil hK rfl rfl (Nat.le_of_ble_eq_true rfl) ⟨Nat.zero_le _, Nat.zero_le _⟩ dX5_edge_13 ?_
  refine lv_aload_n hx hb dX5_edge_16 rfl (lv_at hl 0 rfl) ?_
  refine lv_iload_n hx hb dX5_edge_17 rfl (lv_at hl 1 rfl) ?_
  refine ec_V (own := RX5) (C := RX5) (b := (ad 0)) (rest := []) hx hb hml hown hts hl.1 (c_X5_edgesOf_gt l D cI cZ cJ ad hJ n g w P gm wm wz gb go gp gj wb wl wk wo fa mn mg mw mP o kd hk hn) tw245 tw1 tw242 tw244 ts_X5_edgesOf yd_X5_edgesOf rfl rfl ⟨Nat.le_of_ble_eq_true rfl, Nat.le_of_ble_eq_true rfl⟩ hP hK hN hP (q0 := 0) rfl rfl rfl rfl (Nat.le_of_ble_eq_true rfl) ⟨Nat.zero_le _, Nat.zero_le _⟩ hS (fun _ h9 => h9) dX5_edge_18 (fun v9 W9 H locs hF hP hS hz9 hk9 => ?_)
  obtain ⟨rfl, rfl⟩ := hF
  have hD : va_D (eA ad) (cw ad cI cZ cJ n g w P (ef_up (ef_fl gm (eg_M g P) n) n (decide (0 < n))) wm false wz (eg_bf g n) (eg_od g n) (eg_ap g P n) (eg_aj g P n) wb wl wk wo fa mn mg mw mP o) := eD_of hJ rfl
  refine W.eq (g2 := F0 m 21 ls [.ref (ad 2)]) rfl ?_
  refine va_get (D := D) (ci := 0) (v := .ref (ad 7)) (C := RX0) (T := TX0) (N := 3) hx hb hts (fun w h => List.mem_cons_of_mem _ (inX0 w h)) hown hK hP 2 rfl rfl 0 (by decide) (eT_h hts tw78) (fun _ h9 => h9) rfl dX5_edge_21 ?_
  refine lv_iload_n hx hb dX5_edge_24 rfl (lv_at hl 2 rfl) ?_
  refine va_zald hx hb hK hP 7 1 rfl rfl (vp_in_nI (n := i) (by omega) (by decide)) dX5_edge_25 ?_
  refine ef_eqi (y := ef_b ((ef_up (ef_fl gm (eg_M g P) n) n (decide (0 < n))) i)) (by rw [nI_clamp (by omega)]) ?_
  refine ef_eqi (y := ef_b (eb_g g P n i)) (by rw [(eg_fin gm g P n) i hi]) ?_
  exact ec_zret hx hb hr hlk hP hS ⟨rfl, rfl⟩ dX5_edge_26

set_option maxHeartbeats 4000000 in
set_option maxRecDepth 100000 in
theorem c_X5_rank_gt (l : Launch) (D : va_G) (cI cZ cJ : ClassId) (ad : Nat → Nat) (hJ : eJ ad) (n : Nat) (g : Nat → Int32) (w : Nat → Int32) (P : Nat → Bool) (gm : Nat → Bool) (wm : Nat → Bool) (wz : Bool) (gb : Int32) (go : Bool) (gp : Bool) (gj : Bool) (wb : Int32) (wl : Int32) (wk : Int32) (wo : Bool) (fa : Int32) (mn : Nat) (mg : Nat → Int32) (mw : Nat → Int32) (mP : Nat → Bool) (o : Nat → Int64) (kd : Int32) (i : Nat) (hk1 : ei_ok kd 1) (hk : kd = 0) (hn : n ≤ 1000) (hi : i ≤ n) : ec_M l yX5_rank (Cond.code yX5_rank cX5_rank 3 (some .int) :: eT) ({ frames := 4, cells := 0, slots := 0, locals := 88 }) D (eTy cI cZ cJ) [.ref (ad 0), .int kd, .int (nI i)] (cw ad cI cZ cJ n g w P gm wm true wz gb go gp gj wb wl wk wo fa mn mg mw mP o) (ed (some (.int (nI (es_cu (eb_g g P n) (i + 1))))) (cw ad cI cZ cJ n g w P (ef_up (ef_fl gm (eg_M g P) n) n (decide (0 < n))) wm false wz (eg_bf g n) (eg_od g n) (eg_ap g P n) (eg_aj g P n) wb wl wk wo fa mn mg mw mP o)) (eA ad) := by
  refine ec_of (cc := cX5_rank) (maxL := 3) (ret := (some .int)) (by decide) rfl (Nat.le_of_ble_eq_true rfl) ?_
  intro p e s m args below meth c ls hx hb hr hts hown hlk hml hP hK hN hl
  have hown : s.vm.findClass RX5 = some m.cls := hown
  have hl : lv_has ls 3 [(0, .ref (ad 0)), (1, .int kd), (2, .int (nI i))] := hl
  have hS : va_S (eA ad) s.heap s.heap [] := va_S.rf
  have hD : va_D (eA ad) (cw ad cI cZ cJ n g w P gm wm true wz gb go gp gj wb wl wk wo fa mn mg mw mP o) := eD_of hJ rfl
  refine lv_iload_n hx hb dX5_rank_0 rfl (lv_at hl 1 rfl) ?_
  refine lv_iconst (v := 1) hx hb dX5_rank_1 (by decide) ?_
  refine er_Sv (own := RX5) (rest := []) hx hb hml hown hts hl.1 (k_X5_requireUpTo l D cI cZ cJ kd 1 hk1) tw129 tw1 tw127 tw128 yd_X5_requireUpTo rfl rfl ⟨Nat.le_of_ble_eq_true rfl, Nat.le_of_ble_eq_true rfl⟩ er_nil hK rfl rfl (Nat.le_of_ble_eq_true rfl) ⟨Nat.zero_le _, Nat.zero_le _⟩ dX5_rank_2 ?_
  refine lv_iload_n hx hb dX5_rank_5 rfl (lv_at hl 2 rfl) ?_
  refine lv_aload_n hx hb dX5_rank_6 rfl (lv_at hl 0 rfl) ?_
  refine va_get (D := D) (ci := 4) (v := .ref (ad 1)) (C := RX5) (T := TX5) (N := 3) hx hb hts (fun w h => List.mem_cons_of_mem _ (inX5 w h)) hown hK hP 0 rfl rfl 0 (by decide) (eT_h hts tw108) (fun _ h9 => h9) rfl dX5_rank_7 ?_
  refine va_get (D := D) (ci := 2) (v := .int (nI n)) (C := RX2) (T := TX2) (N := 4) hx hb hts (fun w h => List.mem_cons_of_mem _ (inX2 w h)) hown hK hP 1 rfl rfl 3 (by decide) (eT_h hts tw36) (fun _ h9 => h9) rfl dX5_rank_10 ?_
  refine er_Sv (own := RX5) (rest := []) hx hb hml hown hts hl.1 (k_X5_requireUpTo l D cI cZ cJ (nI i) (nI n) (ei_ok_n hi hn)) tw129 tw1 tw127 tw128 yd_X5_requireUpTo rfl rfl ⟨Nat.le_of_ble_eq_true rfl, Nat.le_of_ble_eq_true rfl⟩ er_nil hK rfl rfl (Nat.le_of_ble_eq_true rfl) ⟨Nat.zero_le _, Nat.zero_le _⟩ dX5_rank_13 ?_
  refine lv_aload_n hx hb dX5_rank_16 rfl (lv_at hl 0 rfl) ?_
  refine lv_iload_n hx hb dX5_rank_17 rfl (lv_at hl 1 rfl) ?_
  refine ec_V (own := RX5) (C := RX5) (b := (ad 0)) (rest := []) hx hb hml hown hts hl.1 (c_X5_edgesOf_gt l D cI cZ cJ ad hJ n g w P gm wm wz gb go gp gj wb wl wk wo fa mn mg mw mP o kd hk hn) tw245 tw1 tw242 tw244 ts_X5_edgesOf yd_X5_edgesOf rfl rfl ⟨Nat.le_of_ble_eq_true rfl, Nat.le_of_ble_eq_true rfl⟩ hP hK hN hP (q0 := 0) rfl rfl rfl rfl (Nat.le_of_ble_eq_true rfl) ⟨Nat.zero_le _, Nat.zero_le _⟩ hS (fun _ h9 => h9) dX5_rank_18 (fun v9 W9 H locs hF hP hS hz9 hk9 => ?_)
  obtain ⟨rfl, rfl⟩ := hF
  have hD : va_D (eA ad) (cw ad cI cZ cJ n g w P (ef_up (ef_fl gm (eg_M g P) n) n (decide (0 < n))) wm false wz (eg_bf g n) (eg_od g n) (eg_ap g P n) (eg_aj g P n) wb wl wk wo fa mn mg mw mP o) := eD_of hJ rfl
  refine W.eq (g2 := F0 m 21 ls [.ref (ad 2)]) rfl ?_
  refine lv_iload_n hx hb dX5_rank_21 rfl (lv_at hl 2 rfl) ?_
  refine er_V (own := RX5) (C := RX0) (b := (ad 2)) (rest := []) hx hb hml hown hts hl.1 (k_X0_countUpTo l D cI cZ cJ (ad 2) (ad 7) (ad 9) false (ef_up (ef_fl gm (eg_M g P) n) n (decide (0 < n))) i (by omega)) tw349 tw3 tw346 tw347 tw348 yd_X0_countUpTo rfl rfl ⟨Nat.le_of_ble_eq_true rfl, Nat.le_of_ble_eq_true rfl⟩ (hP.sub [2, 7] rfl) hK hP (q0 := 2) rfl rfl rfl rfl (Nat.le_of_ble_eq_true rfl) ⟨Nat.zero_le _, Nat.zero_le _⟩ dX5_rank_22 ?_
  refine ef_eqi (y := nI (es_cu (eb_g g P n) (i + 1))) (by rw [es_cu_c (eg_fin gm g P n) _ (by omega)]) ?_
  exact ec_iret hx hb hr hlk hP hS ⟨rfl, rfl⟩ dX5_rank_25

set_option maxHeartbeats 4000000 in
set_option maxRecDepth 100000 in
theorem c_X5_hash_gt (l : Launch) (D : va_G) (cI cZ cJ : ClassId) (ad : Nat → Nat) (hJ : eJ ad) (n : Nat) (g : Nat → Int32) (w : Nat → Int32) (P : Nat → Bool) (gm : Nat → Bool) (wm : Nat → Bool) (wz : Bool) (gb : Int32) (go : Bool) (gp : Bool) (gj : Bool) (wb : Int32) (wl : Int32) (wk : Int32) (wo : Bool) (fa : Int32) (mn : Nat) (mg : Nat → Int32) (mw : Nat → Int32) (mP : Nat → Bool) (o : Nat → Int64) (kd : Int32) (hk1 : ei_ok kd 1) (hk : kd = 0) (hn : n ≤ 1000) : ec_M l yX5_hash (Cond.code yX5_hash cX5_hash 2 (some .int) :: eT) ({ frames := 4, cells := 0, slots := 0, locals := 88 }) D (eTy cI cZ cJ) [.ref (ad 0), .int kd] (cw ad cI cZ cJ n g w P gm wm true wz gb go gp gj wb wl wk wo fa mn mg mw mP o) (ed (some (.int (es_mx (eb_g g P n) (n + 1)))) (cw ad cI cZ cJ n g w P (ef_up (ef_fl gm (eg_M g P) n) n (decide (0 < n))) wm false wz (eg_bf g n) (eg_od g n) (eg_ap g P n) (eg_aj g P n) wb wl wk wo fa mn mg mw mP o)) (eA ad) := by
  refine ec_of (cc := cX5_hash) (maxL := 2) (ret := (some .int)) (by decide) rfl (Nat.le_of_ble_eq_true rfl) ?_
  intro p e s m args below meth c ls hx hb hr hts hown hlk hml hP hK hN hl
  have hown : s.vm.findClass RX5 = some m.cls := hown
  have hl : lv_has ls 2 [(0, .ref (ad 0)), (1, .int kd)] := hl
  have hS : va_S (eA ad) s.heap s.heap [] := va_S.rf
  have hD : va_D (eA ad) (cw ad cI cZ cJ n g w P gm wm true wz gb go gp gj wb wl wk wo fa mn mg mw mP o) := eD_of hJ rfl
  refine lv_iload_n hx hb dX5_hash_0 rfl (lv_at hl 1 rfl) ?_
  refine lv_iconst (v := 1) hx hb dX5_hash_1 (by decide) ?_
  refine er_Sv (own := RX5) (rest := []) hx hb hml hown hts hl.1 (k_X5_requireUpTo l D cI cZ cJ kd 1 hk1) tw129 tw1 tw127 tw128 yd_X5_requireUpTo rfl rfl ⟨Nat.le_of_ble_eq_true rfl, Nat.le_of_ble_eq_true rfl⟩ er_nil hK rfl rfl (Nat.le_of_ble_eq_true rfl) ⟨Nat.zero_le _, Nat.zero_le _⟩ dX5_hash_2 ?_
  refine lv_aload_n hx hb dX5_hash_5 rfl (lv_at hl 0 rfl) ?_
  refine lv_iload_n hx hb dX5_hash_6 rfl (lv_at hl 1 rfl) ?_
  refine ec_V (own := RX5) (C := RX5) (b := (ad 0)) (rest := []) hx hb hml hown hts hl.1 (c_X5_edgesOf_gt l D cI cZ cJ ad hJ n g w P gm wm wz gb go gp gj wb wl wk wo fa mn mg mw mP o kd hk hn) tw245 tw1 tw242 tw244 ts_X5_edgesOf yd_X5_edgesOf rfl rfl ⟨Nat.le_of_ble_eq_true rfl, Nat.le_of_ble_eq_true rfl⟩ hP hK hN hP (q0 := 0) rfl rfl rfl rfl (Nat.le_of_ble_eq_true rfl) ⟨Nat.zero_le _, Nat.zero_le _⟩ hS (fun _ h9 => h9) dX5_hash_7 (fun v9 W9 H locs hF hP hS hz9 hk9 => ?_)
  obtain ⟨rfl, rfl⟩ := hF
  have hD : va_D (eA ad) (cw ad cI cZ cJ n g w P (ef_up (ef_fl gm (eg_M g P) n) n (decide (0 < n))) wm false wz (eg_bf g n) (eg_od g n) (eg_ap g P n) (eg_aj g P n) wb wl wk wo fa mn mg mw mP o) := eD_of hJ rfl
  refine W.eq (g2 := F0 m 10 ls [.ref (ad 2)]) rfl ?_
  refine lv_aload_n hx hb dX5_hash_10 rfl (lv_at hl 0 rfl) ?_
  refine va_get (D := D) (ci := 4) (v := .ref (ad 1)) (C := RX5) (T := TX5) (N := 3) hx hb hts (fun w h => List.mem_cons_of_mem _ (inX5 w h)) hown hK hP 0 rfl rfl 0 (by decide) (eT_h hts tw108) (fun _ h9 => h9) rfl dX5_hash_11 ?_
  refine va_get (D := D) (ci := 2) (v := .int (nI n)) (C := RX2) (T := TX2) (N := 4) hx hb hts (fun w h => List.mem_cons_of_mem _ (inX2 w h)) hown hK hP 1 rfl rfl 3 (by decide) (eT_h hts tw36) (fun _ h9 => h9) rfl dX5_hash_14 ?_
  refine er_V (own := RX5) (C := RX0) (b := (ad 2)) (rest := []) hx hb hml hown hts hl.1 (k_X0_mixUpTo l D cI cZ cJ (ad 2) (ad 7) (ad 9) false (ef_up (ef_fl gm (eg_M g P) n) n (decide (0 < n))) n hn) tw360 tw3 tw357 tw358 tw359 yd_X0_mixUpTo rfl rfl ⟨Nat.le_of_ble_eq_true rfl, Nat.le_of_ble_eq_true rfl⟩ (hP.sub [2, 7] rfl) hK hP (q0 := 2) rfl rfl rfl rfl (Nat.le_of_ble_eq_true rfl) ⟨Nat.zero_le _, Nat.zero_le _⟩ dX5_hash_17 ?_
  refine ef_eqi (y := es_mx (eb_g g P n) (n + 1)) (by rw [es_mx_c (eg_fin gm g P n) _ (by omega)]) ?_
  exact ec_iret hx hb hr hlk hP hS ⟨rfl, rfl⟩ dX5_hash_20

set_option maxHeartbeats 4000000 in
set_option maxRecDepth 100000 in
theorem c_X5_next_gtt (l : Launch) (D : va_G) (cI cZ cJ : ClassId) (ad : Nat → Nat) (hJ : eJ ad) (n : Nat) (g : Nat → Int32) (w : Nat → Int32) (P : Nat → Bool) (gm : Nat → Bool) (wm : Nat → Bool) (wz : Bool) (gb : Int32) (go : Bool) (gp : Bool) (gj : Bool) (wb : Int32) (wl : Int32) (wk : Int32) (wo : Bool) (fa : Int32) (mn : Nat) (mg : Nat → Int32) (mw : Nat → Int32) (mP : Nat → Bool) (o : Nat → Int64) (kd : Int32) (i : Nat) (hk1 : ei_ok kd 1) (hk : kd = 0) (hn : n ≤ 1000) (hi : i ≤ n) : ec_M l yX5_next (Cond.code yX5_next cX5_next 5 (some .int) :: eT) ({ frames := 4, cells := 0, slots := 0, locals := 88 }) D (eTy cI cZ cJ) [.ref (ad 0), .int kd, .int (nI i), .int (ef_b true)] (cw ad cI cZ cJ n g w P gm wm true wz gb go gp gj wb wl wk wo fa mn mg mw mP o) (ed (some (.int (es_lb (eb_g g P n) i))) (cw ad cI cZ cJ n g w P (ef_up (ef_fl gm (eg_M g P) n) n (decide (0 < n))) wm false wz (eg_bf g n) (eg_od g n) (eg_ap g P n) (eg_aj g P n) wb wl wk wo fa mn mg mw mP o)) (eA ad) := by
  refine ec_of (cc := cX5_next) (maxL := 5) (ret := (some .int)) (by decide) rfl (Nat.le_of_ble_eq_true rfl) ?_
  intro p e s m args below meth c ls hx hb hr hts hown hlk hml hP hK hN hl
  have hown : s.vm.findClass RX5 = some m.cls := hown
  have hl : lv_has ls 5 [(0, .ref (ad 0)), (1, .int kd), (2, .int (nI i)), (3, .int (ef_b true))] := hl
  have hS : va_S (eA ad) s.heap s.heap [] := va_S.rf
  have hD : va_D (eA ad) (cw ad cI cZ cJ n g w P gm wm true wz gb go gp gj wb wl wk wo fa mn mg mw mP o) := eD_of hJ rfl
  refine lv_iload_n hx hb dX5_next_0 rfl (lv_at hl 1 rfl) ?_
  refine lv_iconst (v := 1) hx hb dX5_next_1 (by decide) ?_
  refine er_Sv (own := RX5) (rest := []) hx hb hml hown hts hl.1 (k_X5_requireUpTo l D cI cZ cJ kd 1 hk1) tw129 tw1 tw127 tw128 yd_X5_requireUpTo rfl rfl ⟨Nat.le_of_ble_eq_true rfl, Nat.le_of_ble_eq_true rfl⟩ er_nil hK rfl rfl (Nat.le_of_ble_eq_true rfl) ⟨Nat.zero_le _, Nat.zero_le _⟩ dX5_next_2 ?_
  refine lv_iload_n hx hb dX5_next_5 rfl (lv_at hl 2 rfl) ?_
  refine lv_aload_n hx hb dX5_next_6 rfl (lv_at hl 0 rfl) ?_
  refine va_get (D := D) (ci := 4) (v := .ref (ad 1)) (C := RX5) (T := TX5) (N := 3) hx hb hts (fun w h => List.mem_cons_of_mem _ (inX5 w h)) hown hK hP 0 rfl rfl 0 (by decide) (eT_h hts tw108) (fun _ h9 => h9) rfl dX5_next_7 ?_
  refine va_get (D := D) (ci := 2) (v := .int (nI n)) (C := RX2) (T := TX2) (N := 4) hx hb hts (fun w h => List.mem_cons_of_mem _ (inX2 w h)) hown hK hP 1 rfl rfl 3 (by decide) (eT_h hts tw36) (fun _ h9 => h9) rfl dX5_next_10 ?_
  refine er_Sv (own := RX5) (rest := []) hx hb hml hown hts hl.1 (k_X5_requireUpTo l D cI cZ cJ (nI i) (nI n) (ei_ok_n hi hn)) tw129 tw1 tw127 tw128 yd_X5_requireUpTo rfl rfl ⟨Nat.le_of_ble_eq_true rfl, Nat.le_of_ble_eq_true rfl⟩ er_nil hK rfl rfl (Nat.le_of_ble_eq_true rfl) ⟨Nat.zero_le _, Nat.zero_le _⟩ dX5_next_13 ?_
  refine lv_aload_n hx hb dX5_next_16 rfl (lv_at hl 0 rfl) ?_
  refine lv_iload_n hx hb dX5_next_17 rfl (lv_at hl 1 rfl) ?_
  refine ec_V (own := RX5) (C := RX5) (b := (ad 0)) (rest := []) hx hb hml hown hts hl.1 (c_X5_edgesOf_gt l D cI cZ cJ ad hJ n g w P gm wm wz gb go gp gj wb wl wk wo fa mn mg mw mP o kd hk hn) tw245 tw1 tw242 tw244 ts_X5_edgesOf yd_X5_edgesOf rfl rfl ⟨Nat.le_of_ble_eq_true rfl, Nat.le_of_ble_eq_true rfl⟩ hP hK hN hP (q0 := 0) rfl rfl rfl rfl (Nat.le_of_ble_eq_true rfl) ⟨Nat.zero_le _, Nat.zero_le _⟩ hS (fun _ h9 => h9) dX5_next_18 (fun v9 W9 H locs hF hP hS hz9 hk9 => ?_)
  obtain ⟨rfl, rfl⟩ := hF
  have hD : va_D (eA ad) (cw ad cI cZ cJ n g w P (ef_up (ef_fl gm (eg_M g P) n) n (decide (0 < n))) wm false wz (eg_bf g n) (eg_od g n) (eg_ap g P n) (eg_aj g P n) wb wl wk wo fa mn mg mw mP o) := eD_of hJ rfl
  refine W.eq (g2 := F0 m 21 ls [.ref (ad 2)]) rfl ?_
  refine lv_astore (lv' := [(4, .ref (ad 2)), (0, .ref (ad 0)), (1, .int kd), (2, .int (nI i)), (3, .int (ef_b true))]) hx hb dX5_next_21 hl (Nat.le_of_ble_eq_true rfl) rfl (fun ls hl => ?_)
  refine lv_iload_n hx hb dX5_next_23 rfl (lv_at hl 4 rfl) ?_
  refine ef_if_eq (tgt := 36) hx hb dX5_next_24 (by decide) (fun h1 => ?_) (fun h1 => ?_)
  · skip
    exact Bool.noConfusion h1
  · skip
    refine lv_aload hx hb dX5_next_27 (lv_at hl 0 rfl) ?_
    refine lv_iload_n hx hb dX5_next_29 rfl (lv_at hl 3 rfl) ?_
    refine er_V (own := RX5) (C := RX0) (b := (ad 2)) (rest := []) hx hb hml hown hts hl.1 (k_X0_lastBefore l D cI cZ cJ (ad 2) (ad 7) (ad 9) false (ef_up (ef_fl gm (eg_M g P) n) n (decide (0 < n))) i (by omega)) tw334 tw3 tw331 tw332 tw333 yd_X0_lastBefore rfl rfl ⟨Nat.le_of_ble_eq_true rfl, Nat.le_of_ble_eq_true rfl⟩ (hP.sub [2, 7] rfl) hK hP (q0 := 2) rfl rfl rfl rfl (Nat.le_of_ble_eq_true rfl) ⟨Nat.zero_le _, Nat.zero_le _⟩ dX5_next_30 ?_
    refine lv_goto (tgt := 49) hx hb dX5_next_33 (by decide) ?_
    refine ef_eqi (y := es_lb (eb_g g P n) i) (by rw [es_lb_c (eg_fin gm g P n) _ (by omega)]) ?_
    exact ec_iret hx hb hr hlk hP hS ⟨rfl, rfl⟩ dX5_next_49

set_option maxHeartbeats 4000000 in
set_option maxRecDepth 100000 in
theorem c_X5_next_gtf (l : Launch) (D : va_G) (cI cZ cJ : ClassId) (ad : Nat → Nat) (hJ : eJ ad) (n : Nat) (g : Nat → Int32) (w : Nat → Int32) (P : Nat → Bool) (gm : Nat → Bool) (wm : Nat → Bool) (wz : Bool) (gb : Int32) (go : Bool) (gp : Bool) (gj : Bool) (wb : Int32) (wl : Int32) (wk : Int32) (wo : Bool) (fa : Int32) (mn : Nat) (mg : Nat → Int32) (mw : Nat → Int32) (mP : Nat → Bool) (o : Nat → Int64) (kd : Int32) (i : Nat) (hk1 : ei_ok kd 1) (hk : kd = 0) (hn : n ≤ 1000) (hi : i ≤ n) : ec_M l yX5_next (Cond.code yX5_next cX5_next 5 (some .int) :: eT) ({ frames := 4, cells := 0, slots := 0, locals := 88 }) D (eTy cI cZ cJ) [.ref (ad 0), .int kd, .int (nI i), .int (ef_b false)] (cw ad cI cZ cJ n g w P gm wm true wz gb go gp gj wb wl wk wo fa mn mg mw mP o) (ed (some (.int (es_fb (eb_g g P n) (n - i) (i + 1)))) (cw ad cI cZ cJ n g w P (ef_up (ef_fl gm (eg_M g P) n) n (decide (0 < n))) wm false wz (eg_bf g n) (eg_od g n) (eg_ap g P n) (eg_aj g P n) wb wl wk wo fa mn mg mw mP o)) (eA ad) := by
  refine ec_of (cc := cX5_next) (maxL := 5) (ret := (some .int)) (by decide) rfl (Nat.le_of_ble_eq_true rfl) ?_
  intro p e s m args below meth c ls hx hb hr hts hown hlk hml hP hK hN hl
  have hown : s.vm.findClass RX5 = some m.cls := hown
  have hl : lv_has ls 5 [(0, .ref (ad 0)), (1, .int kd), (2, .int (nI i)), (3, .int (ef_b false))] := hl
  have hS : va_S (eA ad) s.heap s.heap [] := va_S.rf
  have hD : va_D (eA ad) (cw ad cI cZ cJ n g w P gm wm true wz gb go gp gj wb wl wk wo fa mn mg mw mP o) := eD_of hJ rfl
  refine lv_iload_n hx hb dX5_next_0 rfl (lv_at hl 1 rfl) ?_
  refine lv_iconst (v := 1) hx hb dX5_next_1 (by decide) ?_
  refine er_Sv (own := RX5) (rest := []) hx hb hml hown hts hl.1 (k_X5_requireUpTo l D cI cZ cJ kd 1 hk1) tw129 tw1 tw127 tw128 yd_X5_requireUpTo rfl rfl ⟨Nat.le_of_ble_eq_true rfl, Nat.le_of_ble_eq_true rfl⟩ er_nil hK rfl rfl (Nat.le_of_ble_eq_true rfl) ⟨Nat.zero_le _, Nat.zero_le _⟩ dX5_next_2 ?_
  refine lv_iload_n hx hb dX5_next_5 rfl (lv_at hl 2 rfl) ?_
  refine lv_aload_n hx hb dX5_next_6 rfl (lv_at hl 0 rfl) ?_
  refine va_get (D := D) (ci := 4) (v := .ref (ad 1)) (C := RX5) (T := TX5) (N := 3) hx hb hts (fun w h => List.mem_cons_of_mem _ (inX5 w h)) hown hK hP 0 rfl rfl 0 (by decide) (eT_h hts tw108) (fun _ h9 => h9) rfl dX5_next_7 ?_
  refine va_get (D := D) (ci := 2) (v := .int (nI n)) (C := RX2) (T := TX2) (N := 4) hx hb hts (fun w h => List.mem_cons_of_mem _ (inX2 w h)) hown hK hP 1 rfl rfl 3 (by decide) (eT_h hts tw36) (fun _ h9 => h9) rfl dX5_next_10 ?_
  refine er_Sv (own := RX5) (rest := []) hx hb hml hown hts hl.1 (k_X5_requireUpTo l D cI cZ cJ (nI i) (nI n) (ei_ok_n hi hn)) tw129 tw1 tw127 tw128 yd_X5_requireUpTo rfl rfl ⟨Nat.le_of_ble_eq_true rfl, Nat.le_of_ble_eq_true rfl⟩ er_nil hK rfl rfl (Nat.le_of_ble_eq_true rfl) ⟨Nat.zero_le _, Nat.zero_le _⟩ dX5_next_13 ?_
  refine lv_aload_n hx hb dX5_next_16 rfl (lv_at hl 0 rfl) ?_
  refine lv_iload_n hx hb dX5_next_17 rfl (lv_at hl 1 rfl) ?_
  refine ec_V (own := RX5) (C := RX5) (b := (ad 0)) (rest := []) hx hb hml hown hts hl.1 (c_X5_edgesOf_gt l D cI cZ cJ ad hJ n g w P gm wm wz gb go gp gj wb wl wk wo fa mn mg mw mP o kd hk hn) tw245 tw1 tw242 tw244 ts_X5_edgesOf yd_X5_edgesOf rfl rfl ⟨Nat.le_of_ble_eq_true rfl, Nat.le_of_ble_eq_true rfl⟩ hP hK hN hP (q0 := 0) rfl rfl rfl rfl (Nat.le_of_ble_eq_true rfl) ⟨Nat.zero_le _, Nat.zero_le _⟩ hS (fun _ h9 => h9) dX5_next_18 (fun v9 W9 H locs hF hP hS hz9 hk9 => ?_)
  obtain ⟨rfl, rfl⟩ := hF
  have hD : va_D (eA ad) (cw ad cI cZ cJ n g w P (ef_up (ef_fl gm (eg_M g P) n) n (decide (0 < n))) wm false wz (eg_bf g n) (eg_od g n) (eg_ap g P n) (eg_aj g P n) wb wl wk wo fa mn mg mw mP o) := eD_of hJ rfl
  refine W.eq (g2 := F0 m 21 ls [.ref (ad 2)]) rfl ?_
  refine lv_astore (lv' := [(4, .ref (ad 2)), (0, .ref (ad 0)), (1, .int kd), (2, .int (nI i)), (3, .int (ef_b false))]) hx hb dX5_next_21 hl (Nat.le_of_ble_eq_true rfl) rfl (fun ls hl => ?_)
  refine lv_iload_n hx hb dX5_next_23 rfl (lv_at hl 4 rfl) ?_
  refine ef_if_eq (tgt := 36) hx hb dX5_next_24 (by decide) (fun h1 => ?_) (fun h1 => ?_)
  · skip
    refine lv_aload hx hb dX5_next_36 (lv_at hl 0 rfl) ?_
    refine lv_iload_n hx hb dX5_next_38 rfl (lv_at hl 3 rfl) ?_
    refine lv_aload_n hx hb dX5_next_39 rfl (lv_at hl 1 rfl) ?_
    refine va_get (D := D) (ci := 4) (v := .ref (ad 1)) (C := RX5) (T := TX5) (N := 3) hx hb hts (fun w h => List.mem_cons_of_mem _ (inX5 w h)) hown hK hP 0 rfl rfl 0 (by decide) (eT_h hts tw108) (fun _ h9 => h9) rfl dX5_next_40 ?_
    refine va_get (D := D) (ci := 2) (v := .int (nI n)) (C := RX2) (T := TX2) (N := 4) hx hb hts (fun w h => List.mem_cons_of_mem _ (inX2 w h)) hown hK hP 1 rfl rfl 3 (by decide) (eT_h hts tw36) (fun _ h9 => h9) rfl dX5_next_43 ?_
    refine er_V (own := RX5) (C := RX0) (b := (ad 2)) (rest := []) hx hb hml hown hts hl.1 (k_X0_firstBehind l D cI cZ cJ (ad 2) (ad 7) (ad 9) false (ef_up (ef_fl gm (eg_M g P) n) n (decide (0 < n))) i n hn hi) tw338 tw3 tw335 tw336 tw337 yd_X0_firstBehind rfl rfl ⟨Nat.le_of_ble_eq_true rfl, Nat.le_of_ble_eq_true rfl⟩ (hP.sub [2, 7] rfl) hK hP (q0 := 2) rfl rfl rfl rfl (Nat.le_of_ble_eq_true rfl) ⟨Nat.zero_le _, Nat.zero_le _⟩ dX5_next_46 ?_
    refine ef_eqi (y := es_fb (eb_g g P n) (n - i) (i + 1)) (by rw [es_fb_c (eg_fin gm g P n) _ _ (by omega)]) ?_
    exact ec_iret hx hb hr hlk hP hS ⟨rfl, rfl⟩ dX5_next_49
  · skip
    exact Bool.noConfusion h1

set_option maxHeartbeats 4000000 in
set_option maxRecDepth 100000 in
theorem c_X5_edge_gf (l : Launch) (D : va_G) (cI cZ cJ : ClassId) (ad : Nat → Nat) (hJ : eJ ad) (n : Nat) (g : Nat → Int32) (w : Nat → Int32) (P : Nat → Bool) (gm : Nat → Bool) (wm : Nat → Bool) (wz : Bool) (gb : Int32) (go : Bool) (gp : Bool) (gj : Bool) (wb : Int32) (wl : Int32) (wk : Int32) (wo : Bool) (fa : Int32) (mn : Nat) (mg : Nat → Int32) (mw : Nat → Int32) (mP : Nat → Bool) (o : Nat → Int64) (kd : Int32) (i : Nat) (hk1 : ei_ok kd 1) (hk : kd = 0) (hn : n ≤ 1000) (hm : ∀ j, j ≤ n → gm j = eb_g g P n j) (hi : i ≤ n) : ec_M l yX5_edge (Cond.code yX5_edge cX5_edge 3 (some .boolean) :: eT) ({ frames := 1, cells := 0, slots := 0, locals := 22 }) D (eTy cI cZ cJ) [.ref (ad 0), .int kd, .int (nI i)] (cw ad cI cZ cJ n g w P gm wm false wz gb go gp gj wb wl wk wo fa mn mg mw mP o) (ed (some (.int (ef_b (eb_g g P n i)))) (cw ad cI cZ cJ n g w P gm wm false wz gb go gp gj wb wl wk wo fa mn mg mw mP o)) (eA ad) := by
  refine ec_of (cc := cX5_edge) (maxL := 3) (ret := (some .boolean)) (by decide) rfl (Nat.le_of_ble_eq_true rfl) ?_
  intro p e s m args below meth c ls hx hb hr hts hown hlk hml hP hK hN hl
  have hown : s.vm.findClass RX5 = some m.cls := hown
  have hl : lv_has ls 3 [(0, .ref (ad 0)), (1, .int kd), (2, .int (nI i))] := hl
  have hS : va_S (eA ad) s.heap s.heap [] := va_S.rf
  have hD : va_D (eA ad) (cw ad cI cZ cJ n g w P gm wm false wz gb go gp gj wb wl wk wo fa mn mg mw mP o) := eD_of hJ rfl
  refine lv_iload_n hx hb dX5_edge_0 rfl (lv_at hl 1 rfl) ?_
  refine lv_iconst (v := 1) hx hb dX5_edge_1 (by decide) ?_
  refine er_Sv (own := RX5) (rest := []) hx hb hml hown hts hl.1 (k_X5_requireUpTo l D cI cZ cJ kd 1 hk1) tw129 tw1 tw127 tw128 yd_X5_requireUpTo rfl rfl ⟨Nat.le_of_ble_eq_true rfl, Nat.le_of_ble_eq_true rfl⟩ er_nil hK rfl rfl (Nat.le_of_ble_eq_true rfl) ⟨Nat.zero_le _, Nat.zero_le _⟩ dX5_edge_2 ?_
  refine lv_iload_n hx hb dX5_edge_5 rfl (lv_at hl 2 rfl) ?_
  refine lv_aload_n hx hb dX5_edge_6 rfl (lv_at hl 0 rfl) ?_
  refine va_get (D := D) (ci := 4) (v := .ref (ad 1)) (C := RX5) (T := TX5) (N := 3) hx hb hts (fun w h => List.mem_cons_of_mem _ (inX5 w h)) hown hK hP 0 rfl rfl 0 (by decide) (eT_h hts tw108) (fun _ h9 => h9) rfl dX5_edge_7 ?_
  refine va_get (D := D) (ci := 2) (v := .int (nI n)) (C := RX2) (T := TX2) (N := 4) hx hb hts (fun w h => List.mem_cons_of_mem _ (inX2 w h)) hown hK hP 1 rfl rfl 3 (by decide) (eT_h hts tw36) (fun _ h9 => h9) rfl dX5_edge_10 ?_
  refine er_Sv (own := RX5) (rest := []) hx hb hml hown hts hl.1 (k_X5_requireUpTo l D cI cZ cJ (nI i) (nI n) (ei_ok_n hi hn)) tw129 tw1 tw127 tw128 yd_X5_requireUpTo rfl rfl ⟨Nat.le_of_ble_eq_true rfl, Nat.le_of_ble_eq_true rfl⟩ er_nil hK rfl rfl (Nat.le_of_ble_eq_true rfl) ⟨Nat.zero_le _, Nat.zero_le _⟩ dX5_edge_13 ?_
  refine lv_aload_n hx hb dX5_edge_16 rfl (lv_at hl 0 rfl) ?_
  refine lv_iload_n hx hb dX5_edge_17 rfl (lv_at hl 1 rfl) ?_
  refine ec_V (own := RX5) (C := RX5) (b := (ad 0)) (rest := []) hx hb hml hown hts hl.1 (c_X5_edgesOf_gf l D cI cZ cJ ad hJ n g w P gm wm wz gb go gp gj wb wl wk wo fa mn mg mw mP o kd hk hn) tw245 tw1 tw242 tw244 ts_X5_edgesOf yd_X5_edgesOf rfl rfl ⟨Nat.le_of_ble_eq_true rfl, Nat.le_of_ble_eq_true rfl⟩ hP hK hN hP (q0 := 0) rfl rfl rfl rfl (Nat.le_of_ble_eq_true rfl) ⟨Nat.zero_le _, Nat.zero_le _⟩ hS (fun _ h9 => h9) dX5_edge_18 (fun v9 W9 H locs hF hP hS hz9 hk9 => ?_)
  obtain ⟨rfl, rfl⟩ := hF
  have hD : va_D (eA ad) (cw ad cI cZ cJ n g w P gm wm false wz gb go gp gj wb wl wk wo fa mn mg mw mP o) := eD_of hJ rfl
  refine W.eq (g2 := F0 m 21 ls [.ref (ad 2)]) rfl ?_
  refine va_get (D := D) (ci := 0) (v := .ref (ad 7)) (C := RX0) (T := TX0) (N := 3) hx hb hts (fun w h => List.mem_cons_of_mem _ (inX0 w h)) hown hK hP 2 rfl rfl 0 (by decide) (eT_h hts tw78) (fun _ h9 => h9) rfl dX5_edge_21 ?_
  refine lv_iload_n hx hb dX5_edge_24 rfl (lv_at hl 2 rfl) ?_
  refine va_zald hx hb hK hP 7 1 rfl rfl (vp_in_nI (n := i) (by omega) (by decide)) dX5_edge_25 ?_
  refine ef_eqi (y := ef_b (gm i)) (by rw [nI_clamp (by omega)]) ?_
  refine ef_eqi (y := ef_b (eb_g g P n i)) (by rw [(hm) i hi]) ?_
  exact ec_zret hx hb hr hlk hP hS ⟨rfl, rfl⟩ dX5_edge_26

set_option maxHeartbeats 4000000 in
set_option maxRecDepth 100000 in
theorem c_X5_rank_gf (l : Launch) (D : va_G) (cI cZ cJ : ClassId) (ad : Nat → Nat) (hJ : eJ ad) (n : Nat) (g : Nat → Int32) (w : Nat → Int32) (P : Nat → Bool) (gm : Nat → Bool) (wm : Nat → Bool) (wz : Bool) (gb : Int32) (go : Bool) (gp : Bool) (gj : Bool) (wb : Int32) (wl : Int32) (wk : Int32) (wo : Bool) (fa : Int32) (mn : Nat) (mg : Nat → Int32) (mw : Nat → Int32) (mP : Nat → Bool) (o : Nat → Int64) (kd : Int32) (i : Nat) (hk1 : ei_ok kd 1) (hk : kd = 0) (hn : n ≤ 1000) (hm : ∀ j, j ≤ n → gm j = eb_g g P n j) (hi : i ≤ n) : ec_M l yX5_rank (Cond.code yX5_rank cX5_rank 3 (some .int) :: eT) ({ frames := 1, cells := 0, slots := 0, locals := 23 }) D (eTy cI cZ cJ) [.ref (ad 0), .int kd, .int (nI i)] (cw ad cI cZ cJ n g w P gm wm false wz gb go gp gj wb wl wk wo fa mn mg mw mP o) (ed (some (.int (nI (es_cu (eb_g g P n) (i + 1))))) (cw ad cI cZ cJ n g w P gm wm false wz gb go gp gj wb wl wk wo fa mn mg mw mP o)) (eA ad) := by
  refine ec_of (cc := cX5_rank) (maxL := 3) (ret := (some .int)) (by decide) rfl (Nat.le_of_ble_eq_true rfl) ?_
  intro p e s m args below meth c ls hx hb hr hts hown hlk hml hP hK hN hl
  have hown : s.vm.findClass RX5 = some m.cls := hown
  have hl : lv_has ls 3 [(0, .ref (ad 0)), (1, .int kd), (2, .int (nI i))] := hl
  have hS : va_S (eA ad) s.heap s.heap [] := va_S.rf
  have hD : va_D (eA ad) (cw ad cI cZ cJ n g w P gm wm false wz gb go gp gj wb wl wk wo fa mn mg mw mP o) := eD_of hJ rfl
  refine lv_iload_n hx hb dX5_rank_0 rfl (lv_at hl 1 rfl) ?_
  refine lv_iconst (v := 1) hx hb dX5_rank_1 (by decide) ?_
  refine er_Sv (own := RX5) (rest := []) hx hb hml hown hts hl.1 (k_X5_requireUpTo l D cI cZ cJ kd 1 hk1) tw129 tw1 tw127 tw128 yd_X5_requireUpTo rfl rfl ⟨Nat.le_of_ble_eq_true rfl, Nat.le_of_ble_eq_true rfl⟩ er_nil hK rfl rfl (Nat.le_of_ble_eq_true rfl) ⟨Nat.zero_le _, Nat.zero_le _⟩ dX5_rank_2 ?_
  refine lv_iload_n hx hb dX5_rank_5 rfl (lv_at hl 2 rfl) ?_
  refine lv_aload_n hx hb dX5_rank_6 rfl (lv_at hl 0 rfl) ?_
  refine va_get (D := D) (ci := 4) (v := .ref (ad 1)) (C := RX5) (T := TX5) (N := 3) hx hb hts (fun w h => List.mem_cons_of_mem _ (inX5 w h)) hown hK hP 0 rfl rfl 0 (by decide) (eT_h hts tw108) (fun _ h9 => h9) rfl dX5_rank_7 ?_
  refine va_get (D := D) (ci := 2) (v := .int (nI n)) (C := RX2) (T := TX2) (N := 4) hx hb hts (fun w h => List.mem_cons_of_mem _ (inX2 w h)) hown hK hP 1 rfl rfl 3 (by decide) (eT_h hts tw36) (fun _ h9 => h9) rfl dX5_rank_10 ?_
  refine er_Sv (own := RX5) (rest := []) hx hb hml hown hts hl.1 (k_X5_requireUpTo l D cI cZ cJ (nI i) (nI n) (ei_ok_n hi hn)) tw129 tw1 tw127 tw128 yd_X5_requireUpTo rfl rfl ⟨Nat.le_of_ble_eq_true rfl, Nat.le_of_ble_eq_true rfl⟩ er_nil hK rfl rfl (Nat.le_of_ble_eq_true rfl) ⟨Nat.zero_le _, Nat.zero_le _⟩ dX5_rank_13 ?_
  refine lv_aload_n hx hb dX5_rank_16 rfl (lv_at hl 0 rfl) ?_
  refine lv_iload_n hx hb dX5_rank_17 rfl (lv_at hl 1 rfl) ?_
  refine ec_V (own := RX5) (C := RX5) (b := (ad 0)) (rest := []) hx hb hml hown hts hl.1 (c_X5_edgesOf_gf l D cI cZ cJ ad hJ n g w P gm wm wz gb go gp gj wb wl wk wo fa mn mg mw mP o kd hk hn) tw245 tw1 tw242 tw244 ts_X5_edgesOf yd_X5_edgesOf rfl rfl ⟨Nat.le_of_ble_eq_true rfl, Nat.le_of_ble_eq_true rfl⟩ hP hK hN hP (q0 := 0) rfl rfl rfl rfl (Nat.le_of_ble_eq_true rfl) ⟨Nat.zero_le _, Nat.zero_le _⟩ hS (fun _ h9 => h9) dX5_rank_18 (fun v9 W9 H locs hF hP hS hz9 hk9 => ?_)
  obtain ⟨rfl, rfl⟩ := hF
  have hD : va_D (eA ad) (cw ad cI cZ cJ n g w P gm wm false wz gb go gp gj wb wl wk wo fa mn mg mw mP o) := eD_of hJ rfl
  refine W.eq (g2 := F0 m 21 ls [.ref (ad 2)]) rfl ?_
  refine lv_iload_n hx hb dX5_rank_21 rfl (lv_at hl 2 rfl) ?_
  refine er_V (own := RX5) (C := RX0) (b := (ad 2)) (rest := []) hx hb hml hown hts hl.1 (k_X0_countUpTo l D cI cZ cJ (ad 2) (ad 7) (ad 9) false gm i (by omega)) tw349 tw3 tw346 tw347 tw348 yd_X0_countUpTo rfl rfl ⟨Nat.le_of_ble_eq_true rfl, Nat.le_of_ble_eq_true rfl⟩ (hP.sub [2, 7] rfl) hK hP (q0 := 2) rfl rfl rfl rfl (Nat.le_of_ble_eq_true rfl) ⟨Nat.zero_le _, Nat.zero_le _⟩ dX5_rank_22 ?_
  refine ef_eqi (y := nI (es_cu (eb_g g P n) (i + 1))) (by rw [es_cu_c (hm) _ (by omega)]) ?_
  exact ec_iret hx hb hr hlk hP hS ⟨rfl, rfl⟩ dX5_rank_25

set_option maxHeartbeats 4000000 in
set_option maxRecDepth 100000 in
theorem c_X5_hash_gf (l : Launch) (D : va_G) (cI cZ cJ : ClassId) (ad : Nat → Nat) (hJ : eJ ad) (n : Nat) (g : Nat → Int32) (w : Nat → Int32) (P : Nat → Bool) (gm : Nat → Bool) (wm : Nat → Bool) (wz : Bool) (gb : Int32) (go : Bool) (gp : Bool) (gj : Bool) (wb : Int32) (wl : Int32) (wk : Int32) (wo : Bool) (fa : Int32) (mn : Nat) (mg : Nat → Int32) (mw : Nat → Int32) (mP : Nat → Bool) (o : Nat → Int64) (kd : Int32) (hk1 : ei_ok kd 1) (hk : kd = 0) (hn : n ≤ 1000) (hm : ∀ j, j ≤ n → gm j = eb_g g P n j) : ec_M l yX5_hash (Cond.code yX5_hash cX5_hash 2 (some .int) :: eT) ({ frames := 1, cells := 0, slots := 0, locals := 23 }) D (eTy cI cZ cJ) [.ref (ad 0), .int kd] (cw ad cI cZ cJ n g w P gm wm false wz gb go gp gj wb wl wk wo fa mn mg mw mP o) (ed (some (.int (es_mx (eb_g g P n) (n + 1)))) (cw ad cI cZ cJ n g w P gm wm false wz gb go gp gj wb wl wk wo fa mn mg mw mP o)) (eA ad) := by
  refine ec_of (cc := cX5_hash) (maxL := 2) (ret := (some .int)) (by decide) rfl (Nat.le_of_ble_eq_true rfl) ?_
  intro p e s m args below meth c ls hx hb hr hts hown hlk hml hP hK hN hl
  have hown : s.vm.findClass RX5 = some m.cls := hown
  have hl : lv_has ls 2 [(0, .ref (ad 0)), (1, .int kd)] := hl
  have hS : va_S (eA ad) s.heap s.heap [] := va_S.rf
  have hD : va_D (eA ad) (cw ad cI cZ cJ n g w P gm wm false wz gb go gp gj wb wl wk wo fa mn mg mw mP o) := eD_of hJ rfl
  refine lv_iload_n hx hb dX5_hash_0 rfl (lv_at hl 1 rfl) ?_
  refine lv_iconst (v := 1) hx hb dX5_hash_1 (by decide) ?_
  refine er_Sv (own := RX5) (rest := []) hx hb hml hown hts hl.1 (k_X5_requireUpTo l D cI cZ cJ kd 1 hk1) tw129 tw1 tw127 tw128 yd_X5_requireUpTo rfl rfl ⟨Nat.le_of_ble_eq_true rfl, Nat.le_of_ble_eq_true rfl⟩ er_nil hK rfl rfl (Nat.le_of_ble_eq_true rfl) ⟨Nat.zero_le _, Nat.zero_le _⟩ dX5_hash_2 ?_
  refine lv_aload_n hx hb dX5_hash_5 rfl (lv_at hl 0 rfl) ?_
  refine lv_iload_n hx hb dX5_hash_6 rfl (lv_at hl 1 rfl) ?_
  refine ec_V (own := RX5) (C := RX5) (b := (ad 0)) (rest := []) hx hb hml hown hts hl.1 (c_X5_edgesOf_gf l D cI cZ cJ ad hJ n g w P gm wm wz gb go gp gj wb wl wk wo fa mn mg mw mP o kd hk hn) tw245 tw1 tw242 tw244 ts_X5_edgesOf yd_X5_edgesOf rfl rfl ⟨Nat.le_of_ble_eq_true rfl, Nat.le_of_ble_eq_true rfl⟩ hP hK hN hP (q0 := 0) rfl rfl rfl rfl (Nat.le_of_ble_eq_true rfl) ⟨Nat.zero_le _, Nat.zero_le _⟩ hS (fun _ h9 => h9) dX5_hash_7 (fun v9 W9 H locs hF hP hS hz9 hk9 => ?_)
  obtain ⟨rfl, rfl⟩ := hF
  have hD : va_D (eA ad) (cw ad cI cZ cJ n g w P gm wm false wz gb go gp gj wb wl wk wo fa mn mg mw mP o) := eD_of hJ rfl
  refine W.eq (g2 := F0 m 10 ls [.ref (ad 2)]) rfl ?_
  refine lv_aload_n hx hb dX5_hash_10 rfl (lv_at hl 0 rfl) ?_
  refine va_get (D := D) (ci := 4) (v := .ref (ad 1)) (C := RX5) (T := TX5) (N := 3) hx hb hts (fun w h => List.mem_cons_of_mem _ (inX5 w h)) hown hK hP 0 rfl rfl 0 (by decide) (eT_h hts tw108) (fun _ h9 => h9) rfl dX5_hash_11 ?_
  refine va_get (D := D) (ci := 2) (v := .int (nI n)) (C := RX2) (T := TX2) (N := 4) hx hb hts (fun w h => List.mem_cons_of_mem _ (inX2 w h)) hown hK hP 1 rfl rfl 3 (by decide) (eT_h hts tw36) (fun _ h9 => h9) rfl dX5_hash_14 ?_
  refine er_V (own := RX5) (C := RX0) (b := (ad 2)) (rest := []) hx hb hml hown hts hl.1 (k_X0_mixUpTo l D cI cZ cJ (ad 2) (ad 7) (ad 9) false gm n hn) tw360 tw3 tw357 tw358 tw359 yd_X0_mixUpTo rfl rfl ⟨Nat.le_of_ble_eq_true rfl, Nat.le_of_ble_eq_true rfl⟩ (hP.sub [2, 7] rfl) hK hP (q0 := 2) rfl rfl rfl rfl (Nat.le_of_ble_eq_true rfl) ⟨Nat.zero_le _, Nat.zero_le _⟩ dX5_hash_17 ?_
  refine ef_eqi (y := es_mx (eb_g g P n) (n + 1)) (by rw [es_mx_c (hm) _ (by omega)]) ?_
  exact ec_iret hx hb hr hlk hP hS ⟨rfl, rfl⟩ dX5_hash_20

set_option maxHeartbeats 4000000 in
set_option maxRecDepth 100000 in
theorem c_X5_next_gft (l : Launch) (D : va_G) (cI cZ cJ : ClassId) (ad : Nat → Nat) (hJ : eJ ad) (n : Nat) (g : Nat → Int32) (w : Nat → Int32) (P : Nat → Bool) (gm : Nat → Bool) (wm : Nat → Bool) (wz : Bool) (gb : Int32) (go : Bool) (gp : Bool) (gj : Bool) (wb : Int32) (wl : Int32) (wk : Int32) (wo : Bool) (fa : Int32) (mn : Nat) (mg : Nat → Int32) (mw : Nat → Int32) (mP : Nat → Bool) (o : Nat → Int64) (kd : Int32) (i : Nat) (hk1 : ei_ok kd 1) (hk : kd = 0) (hn : n ≤ 1000) (hm : ∀ j, j ≤ n → gm j = eb_g g P n j) (hi : i ≤ n) : ec_M l yX5_next (Cond.code yX5_next cX5_next 5 (some .int) :: eT) ({ frames := 1, cells := 0, slots := 0, locals := 22 }) D (eTy cI cZ cJ) [.ref (ad 0), .int kd, .int (nI i), .int (ef_b true)] (cw ad cI cZ cJ n g w P gm wm false wz gb go gp gj wb wl wk wo fa mn mg mw mP o) (ed (some (.int (es_lb (eb_g g P n) i))) (cw ad cI cZ cJ n g w P gm wm false wz gb go gp gj wb wl wk wo fa mn mg mw mP o)) (eA ad) := by
  refine ec_of (cc := cX5_next) (maxL := 5) (ret := (some .int)) (by decide) rfl (Nat.le_of_ble_eq_true rfl) ?_
  intro p e s m args below meth c ls hx hb hr hts hown hlk hml hP hK hN hl
  have hown : s.vm.findClass RX5 = some m.cls := hown
  have hl : lv_has ls 5 [(0, .ref (ad 0)), (1, .int kd), (2, .int (nI i)), (3, .int (ef_b true))] := hl
  have hS : va_S (eA ad) s.heap s.heap [] := va_S.rf
  have hD : va_D (eA ad) (cw ad cI cZ cJ n g w P gm wm false wz gb go gp gj wb wl wk wo fa mn mg mw mP o) := eD_of hJ rfl
  refine lv_iload_n hx hb dX5_next_0 rfl (lv_at hl 1 rfl) ?_
  refine lv_iconst (v := 1) hx hb dX5_next_1 (by decide) ?_
  refine er_Sv (own := RX5) (rest := []) hx hb hml hown hts hl.1 (k_X5_requireUpTo l D cI cZ cJ kd 1 hk1) tw129 tw1 tw127 tw128 yd_X5_requireUpTo rfl rfl ⟨Nat.le_of_ble_eq_true rfl, Nat.le_of_ble_eq_true rfl⟩ er_nil hK rfl rfl (Nat.le_of_ble_eq_true rfl) ⟨Nat.zero_le _, Nat.zero_le _⟩ dX5_next_2 ?_
  refine lv_iload_n hx hb dX5_next_5 rfl (lv_at hl 2 rfl) ?_
  refine lv_aload_n hx hb dX5_next_6 rfl (lv_at hl 0 rfl) ?_
  refine va_get (D := D) (ci := 4) (v := .ref (ad 1)) (C := RX5) (T := TX5) (N := 3) hx hb hts (fun w h => List.mem_cons_of_mem _ (inX5 w h)) hown hK hP 0 rfl rfl 0 (by decide) (eT_h hts tw108) (fun _ h9 => h9) rfl dX5_next_7 ?_
  refine va_get (D := D) (ci := 2) (v := .int (nI n)) (C := RX2) (T := TX2) (N := 4) hx hb hts (fun w h => List.mem_cons_of_mem _ (inX2 w h)) hown hK hP 1 rfl rfl 3 (by decide) (eT_h hts tw36) (fun _ h9 => h9) rfl dX5_next_10 ?_
  refine er_Sv (own := RX5) (rest := []) hx hb hml hown hts hl.1 (k_X5_requireUpTo l D cI cZ cJ (nI i) (nI n) (ei_ok_n hi hn)) tw129 tw1 tw127 tw128 yd_X5_requireUpTo rfl rfl ⟨Nat.le_of_ble_eq_true rfl, Nat.le_of_ble_eq_true rfl⟩ er_nil hK rfl rfl (Nat.le_of_ble_eq_true rfl) ⟨Nat.zero_le _, Nat.zero_le _⟩ dX5_next_13 ?_
  refine lv_aload_n hx hb dX5_next_16 rfl (lv_at hl 0 rfl) ?_
  refine lv_iload_n hx hb dX5_next_17 rfl (lv_at hl 1 rfl) ?_
  refine ec_V (own := RX5) (C := RX5) (b := (ad 0)) (rest := []) hx hb hml hown hts hl.1 (c_X5_edgesOf_gf l D cI cZ cJ ad hJ n g w P gm wm wz gb go gp gj wb wl wk wo fa mn mg mw mP o kd hk hn) tw245 tw1 tw242 tw244 ts_X5_edgesOf yd_X5_edgesOf rfl rfl ⟨Nat.le_of_ble_eq_true rfl, Nat.le_of_ble_eq_true rfl⟩ hP hK hN hP (q0 := 0) rfl rfl rfl rfl (Nat.le_of_ble_eq_true rfl) ⟨Nat.zero_le _, Nat.zero_le _⟩ hS (fun _ h9 => h9) dX5_next_18 (fun v9 W9 H locs hF hP hS hz9 hk9 => ?_)
  obtain ⟨rfl, rfl⟩ := hF
  have hD : va_D (eA ad) (cw ad cI cZ cJ n g w P gm wm false wz gb go gp gj wb wl wk wo fa mn mg mw mP o) := eD_of hJ rfl
  refine W.eq (g2 := F0 m 21 ls [.ref (ad 2)]) rfl ?_
  refine lv_astore (lv' := [(4, .ref (ad 2)), (0, .ref (ad 0)), (1, .int kd), (2, .int (nI i)), (3, .int (ef_b true))]) hx hb dX5_next_21 hl (Nat.le_of_ble_eq_true rfl) rfl (fun ls hl => ?_)
  refine lv_iload_n hx hb dX5_next_23 rfl (lv_at hl 4 rfl) ?_
  refine ef_if_eq (tgt := 36) hx hb dX5_next_24 (by decide) (fun h1 => ?_) (fun h1 => ?_)
  · skip
    exact Bool.noConfusion h1
  · skip
    refine lv_aload hx hb dX5_next_27 (lv_at hl 0 rfl) ?_
    refine lv_iload_n hx hb dX5_next_29 rfl (lv_at hl 3 rfl) ?_
    refine er_V (own := RX5) (C := RX0) (b := (ad 2)) (rest := []) hx hb hml hown hts hl.1 (k_X0_lastBefore l D cI cZ cJ (ad 2) (ad 7) (ad 9) false gm i (by omega)) tw334 tw3 tw331 tw332 tw333 yd_X0_lastBefore rfl rfl ⟨Nat.le_of_ble_eq_true rfl, Nat.le_of_ble_eq_true rfl⟩ (hP.sub [2, 7] rfl) hK hP (q0 := 2) rfl rfl rfl rfl (Nat.le_of_ble_eq_true rfl) ⟨Nat.zero_le _, Nat.zero_le _⟩ dX5_next_30 ?_
    refine lv_goto (tgt := 49) hx hb dX5_next_33 (by decide) ?_
    refine ef_eqi (y := es_lb (eb_g g P n) i) (by rw [es_lb_c (hm) _ (by omega)]) ?_
    exact ec_iret hx hb hr hlk hP hS ⟨rfl, rfl⟩ dX5_next_49

set_option maxHeartbeats 4000000 in
set_option maxRecDepth 100000 in
theorem c_X5_next_gff (l : Launch) (D : va_G) (cI cZ cJ : ClassId) (ad : Nat → Nat) (hJ : eJ ad) (n : Nat) (g : Nat → Int32) (w : Nat → Int32) (P : Nat → Bool) (gm : Nat → Bool) (wm : Nat → Bool) (wz : Bool) (gb : Int32) (go : Bool) (gp : Bool) (gj : Bool) (wb : Int32) (wl : Int32) (wk : Int32) (wo : Bool) (fa : Int32) (mn : Nat) (mg : Nat → Int32) (mw : Nat → Int32) (mP : Nat → Bool) (o : Nat → Int64) (kd : Int32) (i : Nat) (hk1 : ei_ok kd 1) (hk : kd = 0) (hn : n ≤ 1000) (hm : ∀ j, j ≤ n → gm j = eb_g g P n j) (hi : i ≤ n) : ec_M l yX5_next (Cond.code yX5_next cX5_next 5 (some .int) :: eT) ({ frames := 1, cells := 0, slots := 0, locals := 23 }) D (eTy cI cZ cJ) [.ref (ad 0), .int kd, .int (nI i), .int (ef_b false)] (cw ad cI cZ cJ n g w P gm wm false wz gb go gp gj wb wl wk wo fa mn mg mw mP o) (ed (some (.int (es_fb (eb_g g P n) (n - i) (i + 1)))) (cw ad cI cZ cJ n g w P gm wm false wz gb go gp gj wb wl wk wo fa mn mg mw mP o)) (eA ad) := by
  refine ec_of (cc := cX5_next) (maxL := 5) (ret := (some .int)) (by decide) rfl (Nat.le_of_ble_eq_true rfl) ?_
  intro p e s m args below meth c ls hx hb hr hts hown hlk hml hP hK hN hl
  have hown : s.vm.findClass RX5 = some m.cls := hown
  have hl : lv_has ls 5 [(0, .ref (ad 0)), (1, .int kd), (2, .int (nI i)), (3, .int (ef_b false))] := hl
  have hS : va_S (eA ad) s.heap s.heap [] := va_S.rf
  have hD : va_D (eA ad) (cw ad cI cZ cJ n g w P gm wm false wz gb go gp gj wb wl wk wo fa mn mg mw mP o) := eD_of hJ rfl
  refine lv_iload_n hx hb dX5_next_0 rfl (lv_at hl 1 rfl) ?_
  refine lv_iconst (v := 1) hx hb dX5_next_1 (by decide) ?_
  refine er_Sv (own := RX5) (rest := []) hx hb hml hown hts hl.1 (k_X5_requireUpTo l D cI cZ cJ kd 1 hk1) tw129 tw1 tw127 tw128 yd_X5_requireUpTo rfl rfl ⟨Nat.le_of_ble_eq_true rfl, Nat.le_of_ble_eq_true rfl⟩ er_nil hK rfl rfl (Nat.le_of_ble_eq_true rfl) ⟨Nat.zero_le _, Nat.zero_le _⟩ dX5_next_2 ?_
  refine lv_iload_n hx hb dX5_next_5 rfl (lv_at hl 2 rfl) ?_
  refine lv_aload_n hx hb dX5_next_6 rfl (lv_at hl 0 rfl) ?_
  refine va_get (D := D) (ci := 4) (v := .ref (ad 1)) (C := RX5) (T := TX5) (N := 3) hx hb hts (fun w h => List.mem_cons_of_mem _ (inX5 w h)) hown hK hP 0 rfl rfl 0 (by decide) (eT_h hts tw108) (fun _ h9 => h9) rfl dX5_next_7 ?_
  refine va_get (D := D) (ci := 2) (v := .int (nI n)) (C := RX2) (T := TX2) (N := 4) hx hb hts (fun w h => List.mem_cons_of_mem _ (inX2 w h)) hown hK hP 1 rfl rfl 3 (by decide) (eT_h hts tw36) (fun _ h9 => h9) rfl dX5_next_10 ?_
  refine er_Sv (own := RX5) (rest := []) hx hb hml hown hts hl.1 (k_X5_requireUpTo l D cI cZ cJ (nI i) (nI n) (ei_ok_n hi hn)) tw129 tw1 tw127 tw128 yd_X5_requireUpTo rfl rfl ⟨Nat.le_of_ble_eq_true rfl, Nat.le_of_ble_eq_true rfl⟩ er_nil hK rfl rfl (Nat.le_of_ble_eq_true rfl) ⟨Nat.zero_le _, Nat.zero_le _⟩ dX5_next_13 ?_
  refine lv_aload_n hx hb dX5_next_16 rfl (lv_at hl 0 rfl) ?_
  refine lv_iload_n hx hb dX5_next_17 rfl (lv_at hl 1 rfl) ?_
  refine ec_V (own := RX5) (C := RX5) (b := (ad 0)) (rest := []) hx hb hml hown hts hl.1 (c_X5_edgesOf_gf l D cI cZ cJ ad hJ n g w P gm wm wz gb go gp gj wb wl wk wo fa mn mg mw mP o kd hk hn) tw245 tw1 tw242 tw244 ts_X5_edgesOf yd_X5_edgesOf rfl rfl ⟨Nat.le_of_ble_eq_true rfl, Nat.le_of_ble_eq_true rfl⟩ hP hK hN hP (q0 := 0) rfl rfl rfl rfl (Nat.le_of_ble_eq_true rfl) ⟨Nat.zero_le _, Nat.zero_le _⟩ hS (fun _ h9 => h9) dX5_next_18 (fun v9 W9 H locs hF hP hS hz9 hk9 => ?_)
  obtain ⟨rfl, rfl⟩ := hF
  have hD : va_D (eA ad) (cw ad cI cZ cJ n g w P gm wm false wz gb go gp gj wb wl wk wo fa mn mg mw mP o) := eD_of hJ rfl
  refine W.eq (g2 := F0 m 21 ls [.ref (ad 2)]) rfl ?_
  refine lv_astore (lv' := [(4, .ref (ad 2)), (0, .ref (ad 0)), (1, .int kd), (2, .int (nI i)), (3, .int (ef_b false))]) hx hb dX5_next_21 hl (Nat.le_of_ble_eq_true rfl) rfl (fun ls hl => ?_)
  refine lv_iload_n hx hb dX5_next_23 rfl (lv_at hl 4 rfl) ?_
  refine ef_if_eq (tgt := 36) hx hb dX5_next_24 (by decide) (fun h1 => ?_) (fun h1 => ?_)
  · skip
    refine lv_aload hx hb dX5_next_36 (lv_at hl 0 rfl) ?_
    refine lv_iload_n hx hb dX5_next_38 rfl (lv_at hl 3 rfl) ?_
    refine lv_aload_n hx hb dX5_next_39 rfl (lv_at hl 1 rfl) ?_
    refine va_get (D := D) (ci := 4) (v := .ref (ad 1)) (C := RX5) (T := TX5) (N := 3) hx hb hts (fun w h => List.mem_cons_of_mem _ (inX5 w h)) hown hK hP 0 rfl rfl 0 (by decide) (eT_h hts tw108) (fun _ h9 => h9) rfl dX5_next_40 ?_
    refine va_get (D := D) (ci := 2) (v := .int (nI n)) (C := RX2) (T := TX2) (N := 4) hx hb hts (fun w h => List.mem_cons_of_mem _ (inX2 w h)) hown hK hP 1 rfl rfl 3 (by decide) (eT_h hts tw36) (fun _ h9 => h9) rfl dX5_next_43 ?_
    refine er_V (own := RX5) (C := RX0) (b := (ad 2)) (rest := []) hx hb hml hown hts hl.1 (k_X0_firstBehind l D cI cZ cJ (ad 2) (ad 7) (ad 9) false gm i n hn hi) tw338 tw3 tw335 tw336 tw337 yd_X0_firstBehind rfl rfl ⟨Nat.le_of_ble_eq_true rfl, Nat.le_of_ble_eq_true rfl⟩ (hP.sub [2, 7] rfl) hK hP (q0 := 2) rfl rfl rfl rfl (Nat.le_of_ble_eq_true rfl) ⟨Nat.zero_le _, Nat.zero_le _⟩ dX5_next_46 ?_
    refine ef_eqi (y := es_fb (eb_g g P n) (n - i) (i + 1)) (by rw [es_fb_c (hm) _ _ (by omega)]) ?_
    exact ec_iret hx hb hr hlk hP hS ⟨rfl, rfl⟩ dX5_next_49
  · skip
    exact Bool.noConfusion h1

set_option maxHeartbeats 4000000 in
set_option maxRecDepth 100000 in
theorem c_X5_edge_wt (l : Launch) (D : va_G) (cI cZ cJ : ClassId) (ad : Nat → Nat) (hJ : eJ ad) (n : Nat) (g : Nat → Int32) (w : Nat → Int32) (P : Nat → Bool) (gm : Nat → Bool) (wm : Nat → Bool) (gs : Bool) (gb : Int32) (go : Bool) (gp : Bool) (gj : Bool) (wb : Int32) (wl : Int32) (wk : Int32) (wo : Bool) (fa : Int32) (mn : Nat) (mg : Nat → Int32) (mw : Nat → Int32) (mP : Nat → Bool) (o : Nat → Int64) (kd : Int32) (i : Nat) (hk1 : ei_ok kd 1) (hk : ¬ kd = 0) (hn : n ≤ 1000) (hi : i ≤ n) : ec_M l yX5_edge (Cond.code yX5_edge cX5_edge 3 (some .boolean) :: eT) ({ frames := 6, cells := 0, slots := 0, locals := 130 }) D (eTy cI cZ cJ) [.ref (ad 0), .int kd, .int (nI i)] (cw ad cI cZ cJ n g w P gm wm gs true gb go gp gj wb wl wk wo fa mn mg mw mP o) (ed (some (.int (ef_b (eb_w w P n i)))) (cw ad cI cZ cJ n g w P gm (ef_up (ef_fl wm (ew_M w P n) n) n (decide (0 < n))) gs false gb go gp gj (eg_bf w n) (ew_l w n) (ew_k w n) (ew_od w n) fa mn mg mw mP o)) (eA ad) := by
  refine ec_of (cc := cX5_edge) (maxL := 3) (ret := (some .boolean)) (by decide) rfl (Nat.le_of_ble_eq_true rfl) ?_
  intro p e s m args below meth c ls hx hb hr hts hown hlk hml hP hK hN hl
  have hown : s.vm.findClass RX5 = some m.cls := hown
  have hl : lv_has ls 3 [(0, .ref (ad 0)), (1, .int kd), (2, .int (nI i))] := hl
  have hS : va_S (eA ad) s.heap s.heap [] := va_S.rf
  have hD : va_D (eA ad) (cw ad cI cZ cJ n g w P gm wm gs true gb go gp gj wb wl wk wo fa mn mg mw mP o) := eD_of hJ rfl
  refine lv_iload_n hx hb dX5_edge_0 rfl (lv_at hl 1 rfl) ?_
  refine lv_iconst (v := 1) hx hb dX5_edge_1 (by decide) ?_
  refine er_Sv (own := RX5) (rest := []) hx hb hml hown hts hl.1 (k_X5_requireUpTo l D cI cZ cJ kd 1 hk1) tw129 tw1 tw127 tw128 yd_X5_requireUpTo rfl rfl ⟨Nat.le_of_ble_eq_true rfl, Nat.le_of_ble_eq_true rfl⟩ er_nil hK rfl rfl (Nat.le_of_ble_eq_true rfl) ⟨Nat.zero_le _, Nat.zero_le _⟩ dX5_edge_2 ?_
  refine lv_iload_n hx hb dX5_edge_5 rfl (lv_at hl 2 rfl) ?_
  refine lv_aload_n hx hb dX5_edge_6 rfl (lv_at hl 0 rfl) ?_
  refine va_get (D := D) (ci := 4) (v := .ref (ad 1)) (C := RX5) (T := TX5) (N := 3) hx hb hts (fun w h => List.mem_cons_of_mem _ (inX5 w h)) hown hK hP 0 rfl rfl 0 (by decide) (eT_h hts tw108) (fun _ h9 => h9) rfl dX5_edge_7 ?_
  refine va_get (D := D) (ci := 2) (v := .int (nI n)) (C := RX2) (T := TX2) (N := 4) hx hb hts (fun w h => List.mem_cons_of_mem _ (inX2 w h)) hown hK hP 1 rfl rfl 3 (by decide) (eT_h hts tw36) (fun _ h9 => h9) rfl dX5_edge_10 ?_
  refine er_Sv (own := RX5) (rest := []) hx hb hml hown hts hl.1 (k_X5_requireUpTo l D cI cZ cJ (nI i) (nI n) (ei_ok_n hi hn)) tw129 tw1 tw127 tw128 yd_X5_requireUpTo rfl rfl ⟨Nat.le_of_ble_eq_true rfl, Nat.le_of_ble_eq_true rfl⟩ er_nil hK rfl rfl (Nat.le_of_ble_eq_true rfl) ⟨Nat.zero_le _, Nat.zero_le _⟩ dX5_edge_13 ?_
  refine lv_aload_n hx hb dX5_edge_16 rfl (lv_at hl 0 rfl) ?_
  refine lv_iload_n hx hb dX5_edge_17 rfl (lv_at hl 1 rfl) ?_
  refine ec_V (own := RX5) (C := RX5) (b := (ad 0)) (rest := []) hx hb hml hown hts hl.1 (c_X5_edgesOf_wt l D cI cZ cJ ad hJ n g w P gm wm gs gb go gp gj wb wl wk wo fa mn mg mw mP o kd hk hn) tw245 tw1 tw242 tw244 ts_X5_edgesOf yd_X5_edgesOf rfl rfl ⟨Nat.le_of_ble_eq_true rfl, Nat.le_of_ble_eq_true rfl⟩ hP hK hN hP (q0 := 0) rfl rfl rfl rfl (Nat.le_of_ble_eq_true rfl) ⟨Nat.zero_le _, Nat.zero_le _⟩ hS (fun _ h9 => h9) dX5_edge_18 (fun v9 W9 H locs hF hP hS hz9 hk9 => ?_)
  obtain ⟨rfl, rfl⟩ := hF
  have hD : va_D (eA ad) (cw ad cI cZ cJ n g w P gm (ef_up (ef_fl wm (ew_M w P n) n) n (decide (0 < n))) gs false gb go gp gj (eg_bf w n) (ew_l w n) (ew_k w n) (ew_od w n) fa mn mg mw mP o) := eD_of hJ rfl
  refine W.eq (g2 := F0 m 21 ls [.ref (ad 3)]) rfl ?_
  refine va_get (D := D) (ci := 0) (v := .ref (ad 8)) (C := RX0) (T := TX0) (N := 3) hx hb hts (fun w h => List.mem_cons_of_mem _ (inX0 w h)) hown hK hP 3 rfl rfl 0 (by decide) (eT_h hts tw78) (fun _ h9 => h9) rfl dX5_edge_21 ?_
  refine lv_iload_n hx hb dX5_edge_24 rfl (lv_at hl 2 rfl) ?_
  refine va_zald hx hb hK hP 8 1 rfl rfl (vp_in_nI (n := i) (by omega) (by decide)) dX5_edge_25 ?_
  refine ef_eqi (y := ef_b ((ef_up (ef_fl wm (ew_M w P n) n) n (decide (0 < n))) i)) (by rw [nI_clamp (by omega)]) ?_
  refine ef_eqi (y := ef_b (eb_w w P n i)) (by rw [(ew_fin wm w P n) i hi]) ?_
  exact ec_zret hx hb hr hlk hP hS ⟨rfl, rfl⟩ dX5_edge_26

set_option maxHeartbeats 4000000 in
set_option maxRecDepth 100000 in
theorem c_X5_rank_wt (l : Launch) (D : va_G) (cI cZ cJ : ClassId) (ad : Nat → Nat) (hJ : eJ ad) (n : Nat) (g : Nat → Int32) (w : Nat → Int32) (P : Nat → Bool) (gm : Nat → Bool) (wm : Nat → Bool) (gs : Bool) (gb : Int32) (go : Bool) (gp : Bool) (gj : Bool) (wb : Int32) (wl : Int32) (wk : Int32) (wo : Bool) (fa : Int32) (mn : Nat) (mg : Nat → Int32) (mw : Nat → Int32) (mP : Nat → Bool) (o : Nat → Int64) (kd : Int32) (i : Nat) (hk1 : ei_ok kd 1) (hk : ¬ kd = 0) (hn : n ≤ 1000) (hi : i ≤ n) : ec_M l yX5_rank (Cond.code yX5_rank cX5_rank 3 (some .int) :: eT) ({ frames := 6, cells := 0, slots := 0, locals := 130 }) D (eTy cI cZ cJ) [.ref (ad 0), .int kd, .int (nI i)] (cw ad cI cZ cJ n g w P gm wm gs true gb go gp gj wb wl wk wo fa mn mg mw mP o) (ed (some (.int (nI (es_cu (eb_w w P n) (i + 1))))) (cw ad cI cZ cJ n g w P gm (ef_up (ef_fl wm (ew_M w P n) n) n (decide (0 < n))) gs false gb go gp gj (eg_bf w n) (ew_l w n) (ew_k w n) (ew_od w n) fa mn mg mw mP o)) (eA ad) := by
  refine ec_of (cc := cX5_rank) (maxL := 3) (ret := (some .int)) (by decide) rfl (Nat.le_of_ble_eq_true rfl) ?_
  intro p e s m args below meth c ls hx hb hr hts hown hlk hml hP hK hN hl
  have hown : s.vm.findClass RX5 = some m.cls := hown
  have hl : lv_has ls 3 [(0, .ref (ad 0)), (1, .int kd), (2, .int (nI i))] := hl
  have hS : va_S (eA ad) s.heap s.heap [] := va_S.rf
  have hD : va_D (eA ad) (cw ad cI cZ cJ n g w P gm wm gs true gb go gp gj wb wl wk wo fa mn mg mw mP o) := eD_of hJ rfl
  refine lv_iload_n hx hb dX5_rank_0 rfl (lv_at hl 1 rfl) ?_
  refine lv_iconst (v := 1) hx hb dX5_rank_1 (by decide) ?_
  refine er_Sv (own := RX5) (rest := []) hx hb hml hown hts hl.1 (k_X5_requireUpTo l D cI cZ cJ kd 1 hk1) tw129 tw1 tw127 tw128 yd_X5_requireUpTo rfl rfl ⟨Nat.le_of_ble_eq_true rfl, Nat.le_of_ble_eq_true rfl⟩ er_nil hK rfl rfl (Nat.le_of_ble_eq_true rfl) ⟨Nat.zero_le _, Nat.zero_le _⟩ dX5_rank_2 ?_
  refine lv_iload_n hx hb dX5_rank_5 rfl (lv_at hl 2 rfl) ?_
  refine lv_aload_n hx hb dX5_rank_6 rfl (lv_at hl 0 rfl) ?_
  refine va_get (D := D) (ci := 4) (v := .ref (ad 1)) (C := RX5) (T := TX5) (N := 3) hx hb hts (fun w h => List.mem_cons_of_mem _ (inX5 w h)) hown hK hP 0 rfl rfl 0 (by decide) (eT_h hts tw108) (fun _ h9 => h9) rfl dX5_rank_7 ?_
  refine va_get (D := D) (ci := 2) (v := .int (nI n)) (C := RX2) (T := TX2) (N := 4) hx hb hts (fun w h => List.mem_cons_of_mem _ (inX2 w h)) hown hK hP 1 rfl rfl 3 (by decide) (eT_h hts tw36) (fun _ h9 => h9) rfl dX5_rank_10 ?_
  refine er_Sv (own := RX5) (rest := []) hx hb hml hown hts hl.1 (k_X5_requireUpTo l D cI cZ cJ (nI i) (nI n) (ei_ok_n hi hn)) tw129 tw1 tw127 tw128 yd_X5_requireUpTo rfl rfl ⟨Nat.le_of_ble_eq_true rfl, Nat.le_of_ble_eq_true rfl⟩ er_nil hK rfl rfl (Nat.le_of_ble_eq_true rfl) ⟨Nat.zero_le _, Nat.zero_le _⟩ dX5_rank_13 ?_
  refine lv_aload_n hx hb dX5_rank_16 rfl (lv_at hl 0 rfl) ?_
  refine lv_iload_n hx hb dX5_rank_17 rfl (lv_at hl 1 rfl) ?_
  refine ec_V (own := RX5) (C := RX5) (b := (ad 0)) (rest := []) hx hb hml hown hts hl.1 (c_X5_edgesOf_wt l D cI cZ cJ ad hJ n g w P gm wm gs gb go gp gj wb wl wk wo fa mn mg mw mP o kd hk hn) tw245 tw1 tw242 tw244 ts_X5_edgesOf yd_X5_edgesOf rfl rfl ⟨Nat.le_of_ble_eq_true rfl, Nat.le_of_ble_eq_true rfl⟩ hP hK hN hP (q0 := 0) rfl rfl rfl rfl (Nat.le_of_ble_eq_true rfl) ⟨Nat.zero_le _, Nat.zero_le _⟩ hS (fun _ h9 => h9) dX5_rank_18 (fun v9 W9 H locs hF hP hS hz9 hk9 => ?_)
  obtain ⟨rfl, rfl⟩ := hF
  have hD : va_D (eA ad) (cw ad cI cZ cJ n g w P gm (ef_up (ef_fl wm (ew_M w P n) n) n (decide (0 < n))) gs false gb go gp gj (eg_bf w n) (ew_l w n) (ew_k w n) (ew_od w n) fa mn mg mw mP o) := eD_of hJ rfl
  refine W.eq (g2 := F0 m 21 ls [.ref (ad 3)]) rfl ?_
  refine lv_iload_n hx hb dX5_rank_21 rfl (lv_at hl 2 rfl) ?_
  refine er_V (own := RX5) (C := RX0) (b := (ad 3)) (rest := []) hx hb hml hown hts hl.1 (k_X0_countUpTo l D cI cZ cJ (ad 3) (ad 8) (ad 10) false (ef_up (ef_fl wm (ew_M w P n) n) n (decide (0 < n))) i (by omega)) tw349 tw3 tw346 tw347 tw348 yd_X0_countUpTo rfl rfl ⟨Nat.le_of_ble_eq_true rfl, Nat.le_of_ble_eq_true rfl⟩ (hP.sub [3, 8] rfl) hK hP (q0 := 3) rfl rfl rfl rfl (Nat.le_of_ble_eq_true rfl) ⟨Nat.zero_le _, Nat.zero_le _⟩ dX5_rank_22 ?_
  refine ef_eqi (y := nI (es_cu (eb_w w P n) (i + 1))) (by rw [es_cu_c (ew_fin wm w P n) _ (by omega)]) ?_
  exact ec_iret hx hb hr hlk hP hS ⟨rfl, rfl⟩ dX5_rank_25

set_option maxHeartbeats 4000000 in
set_option maxRecDepth 100000 in
theorem c_X5_hash_wt (l : Launch) (D : va_G) (cI cZ cJ : ClassId) (ad : Nat → Nat) (hJ : eJ ad) (n : Nat) (g : Nat → Int32) (w : Nat → Int32) (P : Nat → Bool) (gm : Nat → Bool) (wm : Nat → Bool) (gs : Bool) (gb : Int32) (go : Bool) (gp : Bool) (gj : Bool) (wb : Int32) (wl : Int32) (wk : Int32) (wo : Bool) (fa : Int32) (mn : Nat) (mg : Nat → Int32) (mw : Nat → Int32) (mP : Nat → Bool) (o : Nat → Int64) (kd : Int32) (hk1 : ei_ok kd 1) (hk : ¬ kd = 0) (hn : n ≤ 1000) : ec_M l yX5_hash (Cond.code yX5_hash cX5_hash 2 (some .int) :: eT) ({ frames := 6, cells := 0, slots := 0, locals := 130 }) D (eTy cI cZ cJ) [.ref (ad 0), .int kd] (cw ad cI cZ cJ n g w P gm wm gs true gb go gp gj wb wl wk wo fa mn mg mw mP o) (ed (some (.int (es_mx (eb_w w P n) (n + 1)))) (cw ad cI cZ cJ n g w P gm (ef_up (ef_fl wm (ew_M w P n) n) n (decide (0 < n))) gs false gb go gp gj (eg_bf w n) (ew_l w n) (ew_k w n) (ew_od w n) fa mn mg mw mP o)) (eA ad) := by
  refine ec_of (cc := cX5_hash) (maxL := 2) (ret := (some .int)) (by decide) rfl (Nat.le_of_ble_eq_true rfl) ?_
  intro p e s m args below meth c ls hx hb hr hts hown hlk hml hP hK hN hl
  have hown : s.vm.findClass RX5 = some m.cls := hown
  have hl : lv_has ls 2 [(0, .ref (ad 0)), (1, .int kd)] := hl
  have hS : va_S (eA ad) s.heap s.heap [] := va_S.rf
  have hD : va_D (eA ad) (cw ad cI cZ cJ n g w P gm wm gs true gb go gp gj wb wl wk wo fa mn mg mw mP o) := eD_of hJ rfl
  refine lv_iload_n hx hb dX5_hash_0 rfl (lv_at hl 1 rfl) ?_
  refine lv_iconst (v := 1) hx hb dX5_hash_1 (by decide) ?_
  refine er_Sv (own := RX5) (rest := []) hx hb hml hown hts hl.1 (k_X5_requireUpTo l D cI cZ cJ kd 1 hk1) tw129 tw1 tw127 tw128 yd_X5_requireUpTo rfl rfl ⟨Nat.le_of_ble_eq_true rfl, Nat.le_of_ble_eq_true rfl⟩ er_nil hK rfl rfl (Nat.le_of_ble_eq_true rfl) ⟨Nat.zero_le _, Nat.zero_le _⟩ dX5_hash_2 ?_
  refine lv_aload_n hx hb dX5_hash_5 rfl (lv_at hl 0 rfl) ?_
  refine lv_iload_n hx hb dX5_hash_6 rfl (lv_at hl 1 rfl) ?_
  refine ec_V (own := RX5) (C := RX5) (b := (ad 0)) (rest := []) hx hb hml hown hts hl.1 (c_X5_edgesOf_wt l D cI cZ cJ ad hJ n g w P gm wm gs gb go gp gj wb wl wk wo fa mn mg mw mP o kd hk hn) tw245 tw1 tw242 tw244 ts_X5_edgesOf yd_X5_edgesOf rfl rfl ⟨Nat.le_of_ble_eq_true rfl, Nat.le_of_ble_eq_true rfl⟩ hP hK hN hP (q0 := 0) rfl rfl rfl rfl (Nat.le_of_ble_eq_true rfl) ⟨Nat.zero_le _, Nat.zero_le _⟩ hS (fun _ h9 => h9) dX5_hash_7 (fun v9 W9 H locs hF hP hS hz9 hk9 => ?_)
  obtain ⟨rfl, rfl⟩ := hF
  have hD : va_D (eA ad) (cw ad cI cZ cJ n g w P gm (ef_up (ef_fl wm (ew_M w P n) n) n (decide (0 < n))) gs false gb go gp gj (eg_bf w n) (ew_l w n) (ew_k w n) (ew_od w n) fa mn mg mw mP o) := eD_of hJ rfl
  refine W.eq (g2 := F0 m 10 ls [.ref (ad 3)]) rfl ?_
  refine lv_aload_n hx hb dX5_hash_10 rfl (lv_at hl 0 rfl) ?_
  refine va_get (D := D) (ci := 4) (v := .ref (ad 1)) (C := RX5) (T := TX5) (N := 3) hx hb hts (fun w h => List.mem_cons_of_mem _ (inX5 w h)) hown hK hP 0 rfl rfl 0 (by decide) (eT_h hts tw108) (fun _ h9 => h9) rfl dX5_hash_11 ?_
  refine va_get (D := D) (ci := 2) (v := .int (nI n)) (C := RX2) (T := TX2) (N := 4) hx hb hts (fun w h => List.mem_cons_of_mem _ (inX2 w h)) hown hK hP 1 rfl rfl 3 (by decide) (eT_h hts tw36) (fun _ h9 => h9) rfl dX5_hash_14 ?_
  refine er_V (own := RX5) (C := RX0) (b := (ad 3)) (rest := []) hx hb hml hown hts hl.1 (k_X0_mixUpTo l D cI cZ cJ (ad 3) (ad 8) (ad 10) false (ef_up (ef_fl wm (ew_M w P n) n) n (decide (0 < n))) n hn) tw360 tw3 tw357 tw358 tw359 yd_X0_mixUpTo rfl rfl ⟨Nat.le_of_ble_eq_true rfl, Nat.le_of_ble_eq_true rfl⟩ (hP.sub [3, 8] rfl) hK hP (q0 := 3) rfl rfl rfl rfl (Nat.le_of_ble_eq_true rfl) ⟨Nat.zero_le _, Nat.zero_le _⟩ dX5_hash_17 ?_
  refine ef_eqi (y := es_mx (eb_w w P n) (n + 1)) (by rw [es_mx_c (ew_fin wm w P n) _ (by omega)]) ?_
  exact ec_iret hx hb hr hlk hP hS ⟨rfl, rfl⟩ dX5_hash_20

set_option maxHeartbeats 4000000 in
set_option maxRecDepth 100000 in
theorem c_X5_next_wtt (l : Launch) (D : va_G) (cI cZ cJ : ClassId) (ad : Nat → Nat) (hJ : eJ ad) (n : Nat) (g : Nat → Int32) (w : Nat → Int32) (P : Nat → Bool) (gm : Nat → Bool) (wm : Nat → Bool) (gs : Bool) (gb : Int32) (go : Bool) (gp : Bool) (gj : Bool) (wb : Int32) (wl : Int32) (wk : Int32) (wo : Bool) (fa : Int32) (mn : Nat) (mg : Nat → Int32) (mw : Nat → Int32) (mP : Nat → Bool) (o : Nat → Int64) (kd : Int32) (i : Nat) (hk1 : ei_ok kd 1) (hk : ¬ kd = 0) (hn : n ≤ 1000) (hi : i ≤ n) : ec_M l yX5_next (Cond.code yX5_next cX5_next 5 (some .int) :: eT) ({ frames := 6, cells := 0, slots := 0, locals := 130 }) D (eTy cI cZ cJ) [.ref (ad 0), .int kd, .int (nI i), .int (ef_b true)] (cw ad cI cZ cJ n g w P gm wm gs true gb go gp gj wb wl wk wo fa mn mg mw mP o) (ed (some (.int (es_lb (eb_w w P n) i))) (cw ad cI cZ cJ n g w P gm (ef_up (ef_fl wm (ew_M w P n) n) n (decide (0 < n))) gs false gb go gp gj (eg_bf w n) (ew_l w n) (ew_k w n) (ew_od w n) fa mn mg mw mP o)) (eA ad) := by
  refine ec_of (cc := cX5_next) (maxL := 5) (ret := (some .int)) (by decide) rfl (Nat.le_of_ble_eq_true rfl) ?_
  intro p e s m args below meth c ls hx hb hr hts hown hlk hml hP hK hN hl
  have hown : s.vm.findClass RX5 = some m.cls := hown
  have hl : lv_has ls 5 [(0, .ref (ad 0)), (1, .int kd), (2, .int (nI i)), (3, .int (ef_b true))] := hl
  have hS : va_S (eA ad) s.heap s.heap [] := va_S.rf
  have hD : va_D (eA ad) (cw ad cI cZ cJ n g w P gm wm gs true gb go gp gj wb wl wk wo fa mn mg mw mP o) := eD_of hJ rfl
  refine lv_iload_n hx hb dX5_next_0 rfl (lv_at hl 1 rfl) ?_
  refine lv_iconst (v := 1) hx hb dX5_next_1 (by decide) ?_
  refine er_Sv (own := RX5) (rest := []) hx hb hml hown hts hl.1 (k_X5_requireUpTo l D cI cZ cJ kd 1 hk1) tw129 tw1 tw127 tw128 yd_X5_requireUpTo rfl rfl ⟨Nat.le_of_ble_eq_true rfl, Nat.le_of_ble_eq_true rfl⟩ er_nil hK rfl rfl (Nat.le_of_ble_eq_true rfl) ⟨Nat.zero_le _, Nat.zero_le _⟩ dX5_next_2 ?_
  refine lv_iload_n hx hb dX5_next_5 rfl (lv_at hl 2 rfl) ?_
  refine lv_aload_n hx hb dX5_next_6 rfl (lv_at hl 0 rfl) ?_
  refine va_get (D := D) (ci := 4) (v := .ref (ad 1)) (C := RX5) (T := TX5) (N := 3) hx hb hts (fun w h => List.mem_cons_of_mem _ (inX5 w h)) hown hK hP 0 rfl rfl 0 (by decide) (eT_h hts tw108) (fun _ h9 => h9) rfl dX5_next_7 ?_
  refine va_get (D := D) (ci := 2) (v := .int (nI n)) (C := RX2) (T := TX2) (N := 4) hx hb hts (fun w h => List.mem_cons_of_mem _ (inX2 w h)) hown hK hP 1 rfl rfl 3 (by decide) (eT_h hts tw36) (fun _ h9 => h9) rfl dX5_next_10 ?_
  refine er_Sv (own := RX5) (rest := []) hx hb hml hown hts hl.1 (k_X5_requireUpTo l D cI cZ cJ (nI i) (nI n) (ei_ok_n hi hn)) tw129 tw1 tw127 tw128 yd_X5_requireUpTo rfl rfl ⟨Nat.le_of_ble_eq_true rfl, Nat.le_of_ble_eq_true rfl⟩ er_nil hK rfl rfl (Nat.le_of_ble_eq_true rfl) ⟨Nat.zero_le _, Nat.zero_le _⟩ dX5_next_13 ?_
  refine lv_aload_n hx hb dX5_next_16 rfl (lv_at hl 0 rfl) ?_
  refine lv_iload_n hx hb dX5_next_17 rfl (lv_at hl 1 rfl) ?_
  refine ec_V (own := RX5) (C := RX5) (b := (ad 0)) (rest := []) hx hb hml hown hts hl.1 (c_X5_edgesOf_wt l D cI cZ cJ ad hJ n g w P gm wm gs gb go gp gj wb wl wk wo fa mn mg mw mP o kd hk hn) tw245 tw1 tw242 tw244 ts_X5_edgesOf yd_X5_edgesOf rfl rfl ⟨Nat.le_of_ble_eq_true rfl, Nat.le_of_ble_eq_true rfl⟩ hP hK hN hP (q0 := 0) rfl rfl rfl rfl (Nat.le_of_ble_eq_true rfl) ⟨Nat.zero_le _, Nat.zero_le _⟩ hS (fun _ h9 => h9) dX5_next_18 (fun v9 W9 H locs hF hP hS hz9 hk9 => ?_)
  obtain ⟨rfl, rfl⟩ := hF
  have hD : va_D (eA ad) (cw ad cI cZ cJ n g w P gm (ef_up (ef_fl wm (ew_M w P n) n) n (decide (0 < n))) gs false gb go gp gj (eg_bf w n) (ew_l w n) (ew_k w n) (ew_od w n) fa mn mg mw mP o) := eD_of hJ rfl
  refine W.eq (g2 := F0 m 21 ls [.ref (ad 3)]) rfl ?_
  refine lv_astore (lv' := [(4, .ref (ad 3)), (0, .ref (ad 0)), (1, .int kd), (2, .int (nI i)), (3, .int (ef_b true))]) hx hb dX5_next_21 hl (Nat.le_of_ble_eq_true rfl) rfl (fun ls hl => ?_)
  refine lv_iload_n hx hb dX5_next_23 rfl (lv_at hl 4 rfl) ?_
  refine ef_if_eq (tgt := 36) hx hb dX5_next_24 (by decide) (fun h1 => ?_) (fun h1 => ?_)
  · skip
    exact Bool.noConfusion h1
  · skip
    refine lv_aload hx hb dX5_next_27 (lv_at hl 0 rfl) ?_
    refine lv_iload_n hx hb dX5_next_29 rfl (lv_at hl 3 rfl) ?_
    refine er_V (own := RX5) (C := RX0) (b := (ad 3)) (rest := []) hx hb hml hown hts hl.1 (k_X0_lastBefore l D cI cZ cJ (ad 3) (ad 8) (ad 10) false (ef_up (ef_fl wm (ew_M w P n) n) n (decide (0 < n))) i (by omega)) tw334 tw3 tw331 tw332 tw333 yd_X0_lastBefore rfl rfl ⟨Nat.le_of_ble_eq_true rfl, Nat.le_of_ble_eq_true rfl⟩ (hP.sub [3, 8] rfl) hK hP (q0 := 3) rfl rfl rfl rfl (Nat.le_of_ble_eq_true rfl) ⟨Nat.zero_le _, Nat.zero_le _⟩ dX5_next_30 ?_
    refine lv_goto (tgt := 49) hx hb dX5_next_33 (by decide) ?_
    refine ef_eqi (y := es_lb (eb_w w P n) i) (by rw [es_lb_c (ew_fin wm w P n) _ (by omega)]) ?_
    exact ec_iret hx hb hr hlk hP hS ⟨rfl, rfl⟩ dX5_next_49

set_option maxHeartbeats 4000000 in
set_option maxRecDepth 100000 in
theorem c_X5_next_wtf (l : Launch) (D : va_G) (cI cZ cJ : ClassId) (ad : Nat → Nat) (hJ : eJ ad) (n : Nat) (g : Nat → Int32) (w : Nat → Int32) (P : Nat → Bool) (gm : Nat → Bool) (wm : Nat → Bool) (gs : Bool) (gb : Int32) (go : Bool) (gp : Bool) (gj : Bool) (wb : Int32) (wl : Int32) (wk : Int32) (wo : Bool) (fa : Int32) (mn : Nat) (mg : Nat → Int32) (mw : Nat → Int32) (mP : Nat → Bool) (o : Nat → Int64) (kd : Int32) (i : Nat) (hk1 : ei_ok kd 1) (hk : ¬ kd = 0) (hn : n ≤ 1000) (hi : i ≤ n) : ec_M l yX5_next (Cond.code yX5_next cX5_next 5 (some .int) :: eT) ({ frames := 6, cells := 0, slots := 0, locals := 130 }) D (eTy cI cZ cJ) [.ref (ad 0), .int kd, .int (nI i), .int (ef_b false)] (cw ad cI cZ cJ n g w P gm wm gs true gb go gp gj wb wl wk wo fa mn mg mw mP o) (ed (some (.int (es_fb (eb_w w P n) (n - i) (i + 1)))) (cw ad cI cZ cJ n g w P gm (ef_up (ef_fl wm (ew_M w P n) n) n (decide (0 < n))) gs false gb go gp gj (eg_bf w n) (ew_l w n) (ew_k w n) (ew_od w n) fa mn mg mw mP o)) (eA ad) := by
  refine ec_of (cc := cX5_next) (maxL := 5) (ret := (some .int)) (by decide) rfl (Nat.le_of_ble_eq_true rfl) ?_
  intro p e s m args below meth c ls hx hb hr hts hown hlk hml hP hK hN hl
  have hown : s.vm.findClass RX5 = some m.cls := hown
  have hl : lv_has ls 5 [(0, .ref (ad 0)), (1, .int kd), (2, .int (nI i)), (3, .int (ef_b false))] := hl
  have hS : va_S (eA ad) s.heap s.heap [] := va_S.rf
  have hD : va_D (eA ad) (cw ad cI cZ cJ n g w P gm wm gs true gb go gp gj wb wl wk wo fa mn mg mw mP o) := eD_of hJ rfl
  refine lv_iload_n hx hb dX5_next_0 rfl (lv_at hl 1 rfl) ?_
  refine lv_iconst (v := 1) hx hb dX5_next_1 (by decide) ?_
  refine er_Sv (own := RX5) (rest := []) hx hb hml hown hts hl.1 (k_X5_requireUpTo l D cI cZ cJ kd 1 hk1) tw129 tw1 tw127 tw128 yd_X5_requireUpTo rfl rfl ⟨Nat.le_of_ble_eq_true rfl, Nat.le_of_ble_eq_true rfl⟩ er_nil hK rfl rfl (Nat.le_of_ble_eq_true rfl) ⟨Nat.zero_le _, Nat.zero_le _⟩ dX5_next_2 ?_
  refine lv_iload_n hx hb dX5_next_5 rfl (lv_at hl 2 rfl) ?_
  refine lv_aload_n hx hb dX5_next_6 rfl (lv_at hl 0 rfl) ?_
  refine va_get (D := D) (ci := 4) (v := .ref (ad 1)) (C := RX5) (T := TX5) (N := 3) hx hb hts (fun w h => List.mem_cons_of_mem _ (inX5 w h)) hown hK hP 0 rfl rfl 0 (by decide) (eT_h hts tw108) (fun _ h9 => h9) rfl dX5_next_7 ?_
  refine va_get (D := D) (ci := 2) (v := .int (nI n)) (C := RX2) (T := TX2) (N := 4) hx hb hts (fun w h => List.mem_cons_of_mem _ (inX2 w h)) hown hK hP 1 rfl rfl 3 (by decide) (eT_h hts tw36) (fun _ h9 => h9) rfl dX5_next_10 ?_
  refine er_Sv (own := RX5) (rest := []) hx hb hml hown hts hl.1 (k_X5_requireUpTo l D cI cZ cJ (nI i) (nI n) (ei_ok_n hi hn)) tw129 tw1 tw127 tw128 yd_X5_requireUpTo rfl rfl ⟨Nat.le_of_ble_eq_true rfl, Nat.le_of_ble_eq_true rfl⟩ er_nil hK rfl rfl (Nat.le_of_ble_eq_true rfl) ⟨Nat.zero_le _, Nat.zero_le _⟩ dX5_next_13 ?_
  refine lv_aload_n hx hb dX5_next_16 rfl (lv_at hl 0 rfl) ?_
  refine lv_iload_n hx hb dX5_next_17 rfl (lv_at hl 1 rfl) ?_
  refine ec_V (own := RX5) (C := RX5) (b := (ad 0)) (rest := []) hx hb hml hown hts hl.1 (c_X5_edgesOf_wt l D cI cZ cJ ad hJ n g w P gm wm gs gb go gp gj wb wl wk wo fa mn mg mw mP o kd hk hn) tw245 tw1 tw242 tw244 ts_X5_edgesOf yd_X5_edgesOf rfl rfl ⟨Nat.le_of_ble_eq_true rfl, Nat.le_of_ble_eq_true rfl⟩ hP hK hN hP (q0 := 0) rfl rfl rfl rfl (Nat.le_of_ble_eq_true rfl) ⟨Nat.zero_le _, Nat.zero_le _⟩ hS (fun _ h9 => h9) dX5_next_18 (fun v9 W9 H locs hF hP hS hz9 hk9 => ?_)
  obtain ⟨rfl, rfl⟩ := hF
  have hD : va_D (eA ad) (cw ad cI cZ cJ n g w P gm (ef_up (ef_fl wm (ew_M w P n) n) n (decide (0 < n))) gs false gb go gp gj (eg_bf w n) (ew_l w n) (ew_k w n) (ew_od w n) fa mn mg mw mP o) := eD_of hJ rfl
  refine W.eq (g2 := F0 m 21 ls [.ref (ad 3)]) rfl ?_
  refine lv_astore (lv' := [(4, .ref (ad 3)), (0, .ref (ad 0)), (1, .int kd), (2, .int (nI i)), (3, .int (ef_b false))]) hx hb dX5_next_21 hl (Nat.le_of_ble_eq_true rfl) rfl (fun ls hl => ?_)
  refine lv_iload_n hx hb dX5_next_23 rfl (lv_at hl 4 rfl) ?_
  refine ef_if_eq (tgt := 36) hx hb dX5_next_24 (by decide) (fun h1 => ?_) (fun h1 => ?_)
  · skip
    refine lv_aload hx hb dX5_next_36 (lv_at hl 0 rfl) ?_
    refine lv_iload_n hx hb dX5_next_38 rfl (lv_at hl 3 rfl) ?_
    refine lv_aload_n hx hb dX5_next_39 rfl (lv_at hl 1 rfl) ?_
    refine va_get (D := D) (ci := 4) (v := .ref (ad 1)) (C := RX5) (T := TX5) (N := 3) hx hb hts (fun w h => List.mem_cons_of_mem _ (inX5 w h)) hown hK hP 0 rfl rfl 0 (by decide) (eT_h hts tw108) (fun _ h9 => h9) rfl dX5_next_40 ?_
    refine va_get (D := D) (ci := 2) (v := .int (nI n)) (C := RX2) (T := TX2) (N := 4) hx hb hts (fun w h => List.mem_cons_of_mem _ (inX2 w h)) hown hK hP 1 rfl rfl 3 (by decide) (eT_h hts tw36) (fun _ h9 => h9) rfl dX5_next_43 ?_
    refine er_V (own := RX5) (C := RX0) (b := (ad 3)) (rest := []) hx hb hml hown hts hl.1 (k_X0_firstBehind l D cI cZ cJ (ad 3) (ad 8) (ad 10) false (ef_up (ef_fl wm (ew_M w P n) n) n (decide (0 < n))) i n hn hi) tw338 tw3 tw335 tw336 tw337 yd_X0_firstBehind rfl rfl ⟨Nat.le_of_ble_eq_true rfl, Nat.le_of_ble_eq_true rfl⟩ (hP.sub [3, 8] rfl) hK hP (q0 := 3) rfl rfl rfl rfl (Nat.le_of_ble_eq_true rfl) ⟨Nat.zero_le _, Nat.zero_le _⟩ dX5_next_46 ?_
    refine ef_eqi (y := es_fb (eb_w w P n) (n - i) (i + 1)) (by rw [es_fb_c (ew_fin wm w P n) _ _ (by omega)]) ?_
    exact ec_iret hx hb hr hlk hP hS ⟨rfl, rfl⟩ dX5_next_49
  · skip
    exact Bool.noConfusion h1

set_option maxHeartbeats 4000000 in
set_option maxRecDepth 100000 in
theorem c_X5_edge_wf (l : Launch) (D : va_G) (cI cZ cJ : ClassId) (ad : Nat → Nat) (hJ : eJ ad) (n : Nat) (g : Nat → Int32) (w : Nat → Int32) (P : Nat → Bool) (gm : Nat → Bool) (wm : Nat → Bool) (gs : Bool) (gb : Int32) (go : Bool) (gp : Bool) (gj : Bool) (wb : Int32) (wl : Int32) (wk : Int32) (wo : Bool) (fa : Int32) (mn : Nat) (mg : Nat → Int32) (mw : Nat → Int32) (mP : Nat → Bool) (o : Nat → Int64) (kd : Int32) (i : Nat) (hk1 : ei_ok kd 1) (hk : ¬ kd = 0) (hn : n ≤ 1000) (hm : ∀ j, j ≤ n → wm j = eb_w w P n j) (hi : i ≤ n) : ec_M l yX5_edge (Cond.code yX5_edge cX5_edge 3 (some .boolean) :: eT) ({ frames := 1, cells := 0, slots := 0, locals := 22 }) D (eTy cI cZ cJ) [.ref (ad 0), .int kd, .int (nI i)] (cw ad cI cZ cJ n g w P gm wm gs false gb go gp gj wb wl wk wo fa mn mg mw mP o) (ed (some (.int (ef_b (eb_w w P n i)))) (cw ad cI cZ cJ n g w P gm wm gs false gb go gp gj wb wl wk wo fa mn mg mw mP o)) (eA ad) := by
  refine ec_of (cc := cX5_edge) (maxL := 3) (ret := (some .boolean)) (by decide) rfl (Nat.le_of_ble_eq_true rfl) ?_
  intro p e s m args below meth c ls hx hb hr hts hown hlk hml hP hK hN hl
  have hown : s.vm.findClass RX5 = some m.cls := hown
  have hl : lv_has ls 3 [(0, .ref (ad 0)), (1, .int kd), (2, .int (nI i))] := hl
  have hS : va_S (eA ad) s.heap s.heap [] := va_S.rf
  have hD : va_D (eA ad) (cw ad cI cZ cJ n g w P gm wm gs false gb go gp gj wb wl wk wo fa mn mg mw mP o) := eD_of hJ rfl
  refine lv_iload_n hx hb dX5_edge_0 rfl (lv_at hl 1 rfl) ?_
  refine lv_iconst (v := 1) hx hb dX5_edge_1 (by decide) ?_
  refine er_Sv (own := RX5) (rest := []) hx hb hml hown hts hl.1 (k_X5_requireUpTo l D cI cZ cJ kd 1 hk1) tw129 tw1 tw127 tw128 yd_X5_requireUpTo rfl rfl ⟨Nat.le_of_ble_eq_true rfl, Nat.le_of_ble_eq_true rfl⟩ er_nil hK rfl rfl (Nat.le_of_ble_eq_true rfl) ⟨Nat.zero_le _, Nat.zero_le _⟩ dX5_edge_2 ?_
  refine lv_iload_n hx hb dX5_edge_5 rfl (lv_at hl 2 rfl) ?_
  refine lv_aload_n hx hb dX5_edge_6 rfl (lv_at hl 0 rfl) ?_
  refine va_get (D := D) (ci := 4) (v := .ref (ad 1)) (C := RX5) (T := TX5) (N := 3) hx hb hts (fun w h => List.mem_cons_of_mem _ (inX5 w h)) hown hK hP 0 rfl rfl 0 (by decide) (eT_h hts tw108) (fun _ h9 => h9) rfl dX5_edge_7 ?_
  refine va_get (D := D) (ci := 2) (v := .int (nI n)) (C := RX2) (T := TX2) (N := 4) hx hb hts (fun w h => List.mem_cons_of_mem _ (inX2 w h)) hown hK hP 1 rfl rfl 3 (by decide) (eT_h hts tw36) (fun _ h9 => h9) rfl dX5_edge_10 ?_
  refine er_Sv (own := RX5) (rest := []) hx hb hml hown hts hl.1 (k_X5_requireUpTo l D cI cZ cJ (nI i) (nI n) (ei_ok_n hi hn)) tw129 tw1 tw127 tw128 yd_X5_requireUpTo rfl rfl ⟨Nat.le_of_ble_eq_true rfl, Nat.le_of_ble_eq_true rfl⟩ er_nil hK rfl rfl (Nat.le_of_ble_eq_true rfl) ⟨Nat.zero_le _, Nat.zero_le _⟩ dX5_edge_13 ?_
  refine lv_aload_n hx hb dX5_edge_16 rfl (lv_at hl 0 rfl) ?_
  refine lv_iload_n hx hb dX5_edge_17 rfl (lv_at hl 1 rfl) ?_
  refine ec_V (own := RX5) (C := RX5) (b := (ad 0)) (rest := []) hx hb hml hown hts hl.1 (c_X5_edgesOf_wf l D cI cZ cJ ad hJ n g w P gm wm gs gb go gp gj wb wl wk wo fa mn mg mw mP o kd hk hn) tw245 tw1 tw242 tw244 ts_X5_edgesOf yd_X5_edgesOf rfl rfl ⟨Nat.le_of_ble_eq_true rfl, Nat.le_of_ble_eq_true rfl⟩ hP hK hN hP (q0 := 0) rfl rfl rfl rfl (Nat.le_of_ble_eq_true rfl) ⟨Nat.zero_le _, Nat.zero_le _⟩ hS (fun _ h9 => h9) dX5_edge_18 (fun v9 W9 H locs hF hP hS hz9 hk9 => ?_)
  obtain ⟨rfl, rfl⟩ := hF
  have hD : va_D (eA ad) (cw ad cI cZ cJ n g w P gm wm gs false gb go gp gj wb wl wk wo fa mn mg mw mP o) := eD_of hJ rfl
  refine W.eq (g2 := F0 m 21 ls [.ref (ad 3)]) rfl ?_
  refine va_get (D := D) (ci := 0) (v := .ref (ad 8)) (C := RX0) (T := TX0) (N := 3) hx hb hts (fun w h => List.mem_cons_of_mem _ (inX0 w h)) hown hK hP 3 rfl rfl 0 (by decide) (eT_h hts tw78) (fun _ h9 => h9) rfl dX5_edge_21 ?_
  refine lv_iload_n hx hb dX5_edge_24 rfl (lv_at hl 2 rfl) ?_
  refine va_zald hx hb hK hP 8 1 rfl rfl (vp_in_nI (n := i) (by omega) (by decide)) dX5_edge_25 ?_
  refine ef_eqi (y := ef_b (wm i)) (by rw [nI_clamp (by omega)]) ?_
  refine ef_eqi (y := ef_b (eb_w w P n i)) (by rw [(hm) i hi]) ?_
  exact ec_zret hx hb hr hlk hP hS ⟨rfl, rfl⟩ dX5_edge_26

set_option maxHeartbeats 4000000 in
set_option maxRecDepth 100000 in
theorem c_X5_rank_wf (l : Launch) (D : va_G) (cI cZ cJ : ClassId) (ad : Nat → Nat) (hJ : eJ ad) (n : Nat) (g : Nat → Int32) (w : Nat → Int32) (P : Nat → Bool) (gm : Nat → Bool) (wm : Nat → Bool) (gs : Bool) (gb : Int32) (go : Bool) (gp : Bool) (gj : Bool) (wb : Int32) (wl : Int32) (wk : Int32) (wo : Bool) (fa : Int32) (mn : Nat) (mg : Nat → Int32) (mw : Nat → Int32) (mP : Nat → Bool) (o : Nat → Int64) (kd : Int32) (i : Nat) (hk1 : ei_ok kd 1) (hk : ¬ kd = 0) (hn : n ≤ 1000) (hm : ∀ j, j ≤ n → wm j = eb_w w P n j) (hi : i ≤ n) : ec_M l yX5_rank (Cond.code yX5_rank cX5_rank 3 (some .int) :: eT) ({ frames := 1, cells := 0, slots := 0, locals := 23 }) D (eTy cI cZ cJ) [.ref (ad 0), .int kd, .int (nI i)] (cw ad cI cZ cJ n g w P gm wm gs false gb go gp gj wb wl wk wo fa mn mg mw mP o) (ed (some (.int (nI (es_cu (eb_w w P n) (i + 1))))) (cw ad cI cZ cJ n g w P gm wm gs false gb go gp gj wb wl wk wo fa mn mg mw mP o)) (eA ad) := by
  refine ec_of (cc := cX5_rank) (maxL := 3) (ret := (some .int)) (by decide) rfl (Nat.le_of_ble_eq_true rfl) ?_
  intro p e s m args below meth c ls hx hb hr hts hown hlk hml hP hK hN hl
  have hown : s.vm.findClass RX5 = some m.cls := hown
  have hl : lv_has ls 3 [(0, .ref (ad 0)), (1, .int kd), (2, .int (nI i))] := hl
  have hS : va_S (eA ad) s.heap s.heap [] := va_S.rf
  have hD : va_D (eA ad) (cw ad cI cZ cJ n g w P gm wm gs false gb go gp gj wb wl wk wo fa mn mg mw mP o) := eD_of hJ rfl
  refine lv_iload_n hx hb dX5_rank_0 rfl (lv_at hl 1 rfl) ?_
  refine lv_iconst (v := 1) hx hb dX5_rank_1 (by decide) ?_
  refine er_Sv (own := RX5) (rest := []) hx hb hml hown hts hl.1 (k_X5_requireUpTo l D cI cZ cJ kd 1 hk1) tw129 tw1 tw127 tw128 yd_X5_requireUpTo rfl rfl ⟨Nat.le_of_ble_eq_true rfl, Nat.le_of_ble_eq_true rfl⟩ er_nil hK rfl rfl (Nat.le_of_ble_eq_true rfl) ⟨Nat.zero_le _, Nat.zero_le _⟩ dX5_rank_2 ?_
  refine lv_iload_n hx hb dX5_rank_5 rfl (lv_at hl 2 rfl) ?_
  refine lv_aload_n hx hb dX5_rank_6 rfl (lv_at hl 0 rfl) ?_
  refine va_get (D := D) (ci := 4) (v := .ref (ad 1)) (C := RX5) (T := TX5) (N := 3) hx hb hts (fun w h => List.mem_cons_of_mem _ (inX5 w h)) hown hK hP 0 rfl rfl 0 (by decide) (eT_h hts tw108) (fun _ h9 => h9) rfl dX5_rank_7 ?_
  refine va_get (D := D) (ci := 2) (v := .int (nI n)) (C := RX2) (T := TX2) (N := 4) hx hb hts (fun w h => List.mem_cons_of_mem _ (inX2 w h)) hown hK hP 1 rfl rfl 3 (by decide) (eT_h hts tw36) (fun _ h9 => h9) rfl dX5_rank_10 ?_
  refine er_Sv (own := RX5) (rest := []) hx hb hml hown hts hl.1 (k_X5_requireUpTo l D cI cZ cJ (nI i) (nI n) (ei_ok_n hi hn)) tw129 tw1 tw127 tw128 yd_X5_requireUpTo rfl rfl ⟨Nat.le_of_ble_eq_true rfl, Nat.le_of_ble_eq_true rfl⟩ er_nil hK rfl rfl (Nat.le_of_ble_eq_true rfl) ⟨Nat.zero_le _, Nat.zero_le _⟩ dX5_rank_13 ?_
  refine lv_aload_n hx hb dX5_rank_16 rfl (lv_at hl 0 rfl) ?_
  refine lv_iload_n hx hb dX5_rank_17 rfl (lv_at hl 1 rfl) ?_
  refine ec_V (own := RX5) (C := RX5) (b := (ad 0)) (rest := []) hx hb hml hown hts hl.1 (c_X5_edgesOf_wf l D cI cZ cJ ad hJ n g w P gm wm gs gb go gp gj wb wl wk wo fa mn mg mw mP o kd hk hn) tw245 tw1 tw242 tw244 ts_X5_edgesOf yd_X5_edgesOf rfl rfl ⟨Nat.le_of_ble_eq_true rfl, Nat.le_of_ble_eq_true rfl⟩ hP hK hN hP (q0 := 0) rfl rfl rfl rfl (Nat.le_of_ble_eq_true rfl) ⟨Nat.zero_le _, Nat.zero_le _⟩ hS (fun _ h9 => h9) dX5_rank_18 (fun v9 W9 H locs hF hP hS hz9 hk9 => ?_)
  obtain ⟨rfl, rfl⟩ := hF
  have hD : va_D (eA ad) (cw ad cI cZ cJ n g w P gm wm gs false gb go gp gj wb wl wk wo fa mn mg mw mP o) := eD_of hJ rfl
  refine W.eq (g2 := F0 m 21 ls [.ref (ad 3)]) rfl ?_
  refine lv_iload_n hx hb dX5_rank_21 rfl (lv_at hl 2 rfl) ?_
  refine er_V (own := RX5) (C := RX0) (b := (ad 3)) (rest := []) hx hb hml hown hts hl.1 (k_X0_countUpTo l D cI cZ cJ (ad 3) (ad 8) (ad 10) false wm i (by omega)) tw349 tw3 tw346 tw347 tw348 yd_X0_countUpTo rfl rfl ⟨Nat.le_of_ble_eq_true rfl, Nat.le_of_ble_eq_true rfl⟩ (hP.sub [3, 8] rfl) hK hP (q0 := 3) rfl rfl rfl rfl (Nat.le_of_ble_eq_true rfl) ⟨Nat.zero_le _, Nat.zero_le _⟩ dX5_rank_22 ?_
  refine ef_eqi (y := nI (es_cu (eb_w w P n) (i + 1))) (by rw [es_cu_c (hm) _ (by omega)]) ?_
  exact ec_iret hx hb hr hlk hP hS ⟨rfl, rfl⟩ dX5_rank_25

set_option maxHeartbeats 4000000 in
set_option maxRecDepth 100000 in
theorem c_X5_hash_wf (l : Launch) (D : va_G) (cI cZ cJ : ClassId) (ad : Nat → Nat) (hJ : eJ ad) (n : Nat) (g : Nat → Int32) (w : Nat → Int32) (P : Nat → Bool) (gm : Nat → Bool) (wm : Nat → Bool) (gs : Bool) (gb : Int32) (go : Bool) (gp : Bool) (gj : Bool) (wb : Int32) (wl : Int32) (wk : Int32) (wo : Bool) (fa : Int32) (mn : Nat) (mg : Nat → Int32) (mw : Nat → Int32) (mP : Nat → Bool) (o : Nat → Int64) (kd : Int32) (hk1 : ei_ok kd 1) (hk : ¬ kd = 0) (hn : n ≤ 1000) (hm : ∀ j, j ≤ n → wm j = eb_w w P n j) : ec_M l yX5_hash (Cond.code yX5_hash cX5_hash 2 (some .int) :: eT) ({ frames := 1, cells := 0, slots := 0, locals := 23 }) D (eTy cI cZ cJ) [.ref (ad 0), .int kd] (cw ad cI cZ cJ n g w P gm wm gs false gb go gp gj wb wl wk wo fa mn mg mw mP o) (ed (some (.int (es_mx (eb_w w P n) (n + 1)))) (cw ad cI cZ cJ n g w P gm wm gs false gb go gp gj wb wl wk wo fa mn mg mw mP o)) (eA ad) := by
  refine ec_of (cc := cX5_hash) (maxL := 2) (ret := (some .int)) (by decide) rfl (Nat.le_of_ble_eq_true rfl) ?_
  intro p e s m args below meth c ls hx hb hr hts hown hlk hml hP hK hN hl
  have hown : s.vm.findClass RX5 = some m.cls := hown
  have hl : lv_has ls 2 [(0, .ref (ad 0)), (1, .int kd)] := hl
  have hS : va_S (eA ad) s.heap s.heap [] := va_S.rf
  have hD : va_D (eA ad) (cw ad cI cZ cJ n g w P gm wm gs false gb go gp gj wb wl wk wo fa mn mg mw mP o) := eD_of hJ rfl
  refine lv_iload_n hx hb dX5_hash_0 rfl (lv_at hl 1 rfl) ?_
  refine lv_iconst (v := 1) hx hb dX5_hash_1 (by decide) ?_
  refine er_Sv (own := RX5) (rest := []) hx hb hml hown hts hl.1 (k_X5_requireUpTo l D cI cZ cJ kd 1 hk1) tw129 tw1 tw127 tw128 yd_X5_requireUpTo rfl rfl ⟨Nat.le_of_ble_eq_true rfl, Nat.le_of_ble_eq_true rfl⟩ er_nil hK rfl rfl (Nat.le_of_ble_eq_true rfl) ⟨Nat.zero_le _, Nat.zero_le _⟩ dX5_hash_2 ?_
  refine lv_aload_n hx hb dX5_hash_5 rfl (lv_at hl 0 rfl) ?_
  refine lv_iload_n hx hb dX5_hash_6 rfl (lv_at hl 1 rfl) ?_
  refine ec_V (own := RX5) (C := RX5) (b := (ad 0)) (rest := []) hx hb hml hown hts hl.1 (c_X5_edgesOf_wf l D cI cZ cJ ad hJ n g w P gm wm gs gb go gp gj wb wl wk wo fa mn mg mw mP o kd hk hn) tw245 tw1 tw242 tw244 ts_X5_edgesOf yd_X5_edgesOf rfl rfl ⟨Nat.le_of_ble_eq_true rfl, Nat.le_of_ble_eq_true rfl⟩ hP hK hN hP (q0 := 0) rfl rfl rfl rfl (Nat.le_of_ble_eq_true rfl) ⟨Nat.zero_le _, Nat.zero_le _⟩ hS (fun _ h9 => h9) dX5_hash_7 (fun v9 W9 H locs hF hP hS hz9 hk9 => ?_)
  obtain ⟨rfl, rfl⟩ := hF
  have hD : va_D (eA ad) (cw ad cI cZ cJ n g w P gm wm gs false gb go gp gj wb wl wk wo fa mn mg mw mP o) := eD_of hJ rfl
  refine W.eq (g2 := F0 m 10 ls [.ref (ad 3)]) rfl ?_
  refine lv_aload_n hx hb dX5_hash_10 rfl (lv_at hl 0 rfl) ?_
  refine va_get (D := D) (ci := 4) (v := .ref (ad 1)) (C := RX5) (T := TX5) (N := 3) hx hb hts (fun w h => List.mem_cons_of_mem _ (inX5 w h)) hown hK hP 0 rfl rfl 0 (by decide) (eT_h hts tw108) (fun _ h9 => h9) rfl dX5_hash_11 ?_
  refine va_get (D := D) (ci := 2) (v := .int (nI n)) (C := RX2) (T := TX2) (N := 4) hx hb hts (fun w h => List.mem_cons_of_mem _ (inX2 w h)) hown hK hP 1 rfl rfl 3 (by decide) (eT_h hts tw36) (fun _ h9 => h9) rfl dX5_hash_14 ?_
  refine er_V (own := RX5) (C := RX0) (b := (ad 3)) (rest := []) hx hb hml hown hts hl.1 (k_X0_mixUpTo l D cI cZ cJ (ad 3) (ad 8) (ad 10) false wm n hn) tw360 tw3 tw357 tw358 tw359 yd_X0_mixUpTo rfl rfl ⟨Nat.le_of_ble_eq_true rfl, Nat.le_of_ble_eq_true rfl⟩ (hP.sub [3, 8] rfl) hK hP (q0 := 3) rfl rfl rfl rfl (Nat.le_of_ble_eq_true rfl) ⟨Nat.zero_le _, Nat.zero_le _⟩ dX5_hash_17 ?_
  refine ef_eqi (y := es_mx (eb_w w P n) (n + 1)) (by rw [es_mx_c (hm) _ (by omega)]) ?_
  exact ec_iret hx hb hr hlk hP hS ⟨rfl, rfl⟩ dX5_hash_20

set_option maxHeartbeats 4000000 in
set_option maxRecDepth 100000 in
theorem c_X5_next_wft (l : Launch) (D : va_G) (cI cZ cJ : ClassId) (ad : Nat → Nat) (hJ : eJ ad) (n : Nat) (g : Nat → Int32) (w : Nat → Int32) (P : Nat → Bool) (gm : Nat → Bool) (wm : Nat → Bool) (gs : Bool) (gb : Int32) (go : Bool) (gp : Bool) (gj : Bool) (wb : Int32) (wl : Int32) (wk : Int32) (wo : Bool) (fa : Int32) (mn : Nat) (mg : Nat → Int32) (mw : Nat → Int32) (mP : Nat → Bool) (o : Nat → Int64) (kd : Int32) (i : Nat) (hk1 : ei_ok kd 1) (hk : ¬ kd = 0) (hn : n ≤ 1000) (hm : ∀ j, j ≤ n → wm j = eb_w w P n j) (hi : i ≤ n) : ec_M l yX5_next (Cond.code yX5_next cX5_next 5 (some .int) :: eT) ({ frames := 1, cells := 0, slots := 0, locals := 22 }) D (eTy cI cZ cJ) [.ref (ad 0), .int kd, .int (nI i), .int (ef_b true)] (cw ad cI cZ cJ n g w P gm wm gs false gb go gp gj wb wl wk wo fa mn mg mw mP o) (ed (some (.int (es_lb (eb_w w P n) i))) (cw ad cI cZ cJ n g w P gm wm gs false gb go gp gj wb wl wk wo fa mn mg mw mP o)) (eA ad) := by
  refine ec_of (cc := cX5_next) (maxL := 5) (ret := (some .int)) (by decide) rfl (Nat.le_of_ble_eq_true rfl) ?_
  intro p e s m args below meth c ls hx hb hr hts hown hlk hml hP hK hN hl
  have hown : s.vm.findClass RX5 = some m.cls := hown
  have hl : lv_has ls 5 [(0, .ref (ad 0)), (1, .int kd), (2, .int (nI i)), (3, .int (ef_b true))] := hl
  have hS : va_S (eA ad) s.heap s.heap [] := va_S.rf
  have hD : va_D (eA ad) (cw ad cI cZ cJ n g w P gm wm gs false gb go gp gj wb wl wk wo fa mn mg mw mP o) := eD_of hJ rfl
  refine lv_iload_n hx hb dX5_next_0 rfl (lv_at hl 1 rfl) ?_
  refine lv_iconst (v := 1) hx hb dX5_next_1 (by decide) ?_
  refine er_Sv (own := RX5) (rest := []) hx hb hml hown hts hl.1 (k_X5_requireUpTo l D cI cZ cJ kd 1 hk1) tw129 tw1 tw127 tw128 yd_X5_requireUpTo rfl rfl ⟨Nat.le_of_ble_eq_true rfl, Nat.le_of_ble_eq_true rfl⟩ er_nil hK rfl rfl (Nat.le_of_ble_eq_true rfl) ⟨Nat.zero_le _, Nat.zero_le _⟩ dX5_next_2 ?_
  refine lv_iload_n hx hb dX5_next_5 rfl (lv_at hl 2 rfl) ?_
  refine lv_aload_n hx hb dX5_next_6 rfl (lv_at hl 0 rfl) ?_
  refine va_get (D := D) (ci := 4) (v := .ref (ad 1)) (C := RX5) (T := TX5) (N := 3) hx hb hts (fun w h => List.mem_cons_of_mem _ (inX5 w h)) hown hK hP 0 rfl rfl 0 (by decide) (eT_h hts tw108) (fun _ h9 => h9) rfl dX5_next_7 ?_
  refine va_get (D := D) (ci := 2) (v := .int (nI n)) (C := RX2) (T := TX2) (N := 4) hx hb hts (fun w h => List.mem_cons_of_mem _ (inX2 w h)) hown hK hP 1 rfl rfl 3 (by decide) (eT_h hts tw36) (fun _ h9 => h9) rfl dX5_next_10 ?_
  refine er_Sv (own := RX5) (rest := []) hx hb hml hown hts hl.1 (k_X5_requireUpTo l D cI cZ cJ (nI i) (nI n) (ei_ok_n hi hn)) tw129 tw1 tw127 tw128 yd_X5_requireUpTo rfl rfl ⟨Nat.le_of_ble_eq_true rfl, Nat.le_of_ble_eq_true rfl⟩ er_nil hK rfl rfl (Nat.le_of_ble_eq_true rfl) ⟨Nat.zero_le _, Nat.zero_le _⟩ dX5_next_13 ?_
  refine lv_aload_n hx hb dX5_next_16 rfl (lv_at hl 0 rfl) ?_
  refine lv_iload_n hx hb dX5_next_17 rfl (lv_at hl 1 rfl) ?_
  refine ec_V (own := RX5) (C := RX5) (b := (ad 0)) (rest := []) hx hb hml hown hts hl.1 (c_X5_edgesOf_wf l D cI cZ cJ ad hJ n g w P gm wm gs gb go gp gj wb wl wk wo fa mn mg mw mP o kd hk hn) tw245 tw1 tw242 tw244 ts_X5_edgesOf yd_X5_edgesOf rfl rfl ⟨Nat.le_of_ble_eq_true rfl, Nat.le_of_ble_eq_true rfl⟩ hP hK hN hP (q0 := 0) rfl rfl rfl rfl (Nat.le_of_ble_eq_true rfl) ⟨Nat.zero_le _, Nat.zero_le _⟩ hS (fun _ h9 => h9) dX5_next_18 (fun v9 W9 H locs hF hP hS hz9 hk9 => ?_)
  obtain ⟨rfl, rfl⟩ := hF
  have hD : va_D (eA ad) (cw ad cI cZ cJ n g w P gm wm gs false gb go gp gj wb wl wk wo fa mn mg mw mP o) := eD_of hJ rfl
  refine W.eq (g2 := F0 m 21 ls [.ref (ad 3)]) rfl ?_
  refine lv_astore (lv' := [(4, .ref (ad 3)), (0, .ref (ad 0)), (1, .int kd), (2, .int (nI i)), (3, .int (ef_b true))]) hx hb dX5_next_21 hl (Nat.le_of_ble_eq_true rfl) rfl (fun ls hl => ?_)
  refine lv_iload_n hx hb dX5_next_23 rfl (lv_at hl 4 rfl) ?_
  refine ef_if_eq (tgt := 36) hx hb dX5_next_24 (by decide) (fun h1 => ?_) (fun h1 => ?_)
  · skip
    exact Bool.noConfusion h1
  · skip
    refine lv_aload hx hb dX5_next_27 (lv_at hl 0 rfl) ?_
    refine lv_iload_n hx hb dX5_next_29 rfl (lv_at hl 3 rfl) ?_
    refine er_V (own := RX5) (C := RX0) (b := (ad 3)) (rest := []) hx hb hml hown hts hl.1 (k_X0_lastBefore l D cI cZ cJ (ad 3) (ad 8) (ad 10) false wm i (by omega)) tw334 tw3 tw331 tw332 tw333 yd_X0_lastBefore rfl rfl ⟨Nat.le_of_ble_eq_true rfl, Nat.le_of_ble_eq_true rfl⟩ (hP.sub [3, 8] rfl) hK hP (q0 := 3) rfl rfl rfl rfl (Nat.le_of_ble_eq_true rfl) ⟨Nat.zero_le _, Nat.zero_le _⟩ dX5_next_30 ?_
    refine lv_goto (tgt := 49) hx hb dX5_next_33 (by decide) ?_
    refine ef_eqi (y := es_lb (eb_w w P n) i) (by rw [es_lb_c (hm) _ (by omega)]) ?_
    exact ec_iret hx hb hr hlk hP hS ⟨rfl, rfl⟩ dX5_next_49

set_option maxHeartbeats 4000000 in
set_option maxRecDepth 100000 in
theorem c_X5_next_wff (l : Launch) (D : va_G) (cI cZ cJ : ClassId) (ad : Nat → Nat) (hJ : eJ ad) (n : Nat) (g : Nat → Int32) (w : Nat → Int32) (P : Nat → Bool) (gm : Nat → Bool) (wm : Nat → Bool) (gs : Bool) (gb : Int32) (go : Bool) (gp : Bool) (gj : Bool) (wb : Int32) (wl : Int32) (wk : Int32) (wo : Bool) (fa : Int32) (mn : Nat) (mg : Nat → Int32) (mw : Nat → Int32) (mP : Nat → Bool) (o : Nat → Int64) (kd : Int32) (i : Nat) (hk1 : ei_ok kd 1) (hk : ¬ kd = 0) (hn : n ≤ 1000) (hm : ∀ j, j ≤ n → wm j = eb_w w P n j) (hi : i ≤ n) : ec_M l yX5_next (Cond.code yX5_next cX5_next 5 (some .int) :: eT) ({ frames := 1, cells := 0, slots := 0, locals := 23 }) D (eTy cI cZ cJ) [.ref (ad 0), .int kd, .int (nI i), .int (ef_b false)] (cw ad cI cZ cJ n g w P gm wm gs false gb go gp gj wb wl wk wo fa mn mg mw mP o) (ed (some (.int (es_fb (eb_w w P n) (n - i) (i + 1)))) (cw ad cI cZ cJ n g w P gm wm gs false gb go gp gj wb wl wk wo fa mn mg mw mP o)) (eA ad) := by
  refine ec_of (cc := cX5_next) (maxL := 5) (ret := (some .int)) (by decide) rfl (Nat.le_of_ble_eq_true rfl) ?_
  intro p e s m args below meth c ls hx hb hr hts hown hlk hml hP hK hN hl
  have hown : s.vm.findClass RX5 = some m.cls := hown
  have hl : lv_has ls 5 [(0, .ref (ad 0)), (1, .int kd), (2, .int (nI i)), (3, .int (ef_b false))] := hl
  have hS : va_S (eA ad) s.heap s.heap [] := va_S.rf
  have hD : va_D (eA ad) (cw ad cI cZ cJ n g w P gm wm gs false gb go gp gj wb wl wk wo fa mn mg mw mP o) := eD_of hJ rfl
  refine lv_iload_n hx hb dX5_next_0 rfl (lv_at hl 1 rfl) ?_
  refine lv_iconst (v := 1) hx hb dX5_next_1 (by decide) ?_
  refine er_Sv (own := RX5) (rest := []) hx hb hml hown hts hl.1 (k_X5_requireUpTo l D cI cZ cJ kd 1 hk1) tw129 tw1 tw127 tw128 yd_X5_requireUpTo rfl rfl ⟨Nat.le_of_ble_eq_true rfl, Nat.le_of_ble_eq_true rfl⟩ er_nil hK rfl rfl (Nat.le_of_ble_eq_true rfl) ⟨Nat.zero_le _, Nat.zero_le _⟩ dX5_next_2 ?_
  refine lv_iload_n hx hb dX5_next_5 rfl (lv_at hl 2 rfl) ?_
  refine lv_aload_n hx hb dX5_next_6 rfl (lv_at hl 0 rfl) ?_
  refine va_get (D := D) (ci := 4) (v := .ref (ad 1)) (C := RX5) (T := TX5) (N := 3) hx hb hts (fun w h => List.mem_cons_of_mem _ (inX5 w h)) hown hK hP 0 rfl rfl 0 (by decide) (eT_h hts tw108) (fun _ h9 => h9) rfl dX5_next_7 ?_
  refine va_get (D := D) (ci := 2) (v := .int (nI n)) (C := RX2) (T := TX2) (N := 4) hx hb hts (fun w h => List.mem_cons_of_mem _ (inX2 w h)) hown hK hP 1 rfl rfl 3 (by decide) (eT_h hts tw36) (fun _ h9 => h9) rfl dX5_next_10 ?_
  refine er_Sv (own := RX5) (rest := []) hx hb hml hown hts hl.1 (k_X5_requireUpTo l D cI cZ cJ (nI i) (nI n) (ei_ok_n hi hn)) tw129 tw1 tw127 tw128 yd_X5_requireUpTo rfl rfl ⟨Nat.le_of_ble_eq_true rfl, Nat.le_of_ble_eq_true rfl⟩ er_nil hK rfl rfl (Nat.le_of_ble_eq_true rfl) ⟨Nat.zero_le _, Nat.zero_le _⟩ dX5_next_13 ?_
  refine lv_aload_n hx hb dX5_next_16 rfl (lv_at hl 0 rfl) ?_
  refine lv_iload_n hx hb dX5_next_17 rfl (lv_at hl 1 rfl) ?_
  refine ec_V (own := RX5) (C := RX5) (b := (ad 0)) (rest := []) hx hb hml hown hts hl.1 (c_X5_edgesOf_wf l D cI cZ cJ ad hJ n g w P gm wm gs gb go gp gj wb wl wk wo fa mn mg mw mP o kd hk hn) tw245 tw1 tw242 tw244 ts_X5_edgesOf yd_X5_edgesOf rfl rfl ⟨Nat.le_of_ble_eq_true rfl, Nat.le_of_ble_eq_true rfl⟩ hP hK hN hP (q0 := 0) rfl rfl rfl rfl (Nat.le_of_ble_eq_true rfl) ⟨Nat.zero_le _, Nat.zero_le _⟩ hS (fun _ h9 => h9) dX5_next_18 (fun v9 W9 H locs hF hP hS hz9 hk9 => ?_)
  obtain ⟨rfl, rfl⟩ := hF
  have hD : va_D (eA ad) (cw ad cI cZ cJ n g w P gm wm gs false gb go gp gj wb wl wk wo fa mn mg mw mP o) := eD_of hJ rfl
  refine W.eq (g2 := F0 m 21 ls [.ref (ad 3)]) rfl ?_
  refine lv_astore (lv' := [(4, .ref (ad 3)), (0, .ref (ad 0)), (1, .int kd), (2, .int (nI i)), (3, .int (ef_b false))]) hx hb dX5_next_21 hl (Nat.le_of_ble_eq_true rfl) rfl (fun ls hl => ?_)
  refine lv_iload_n hx hb dX5_next_23 rfl (lv_at hl 4 rfl) ?_
  refine ef_if_eq (tgt := 36) hx hb dX5_next_24 (by decide) (fun h1 => ?_) (fun h1 => ?_)
  · skip
    refine lv_aload hx hb dX5_next_36 (lv_at hl 0 rfl) ?_
    refine lv_iload_n hx hb dX5_next_38 rfl (lv_at hl 3 rfl) ?_
    refine lv_aload_n hx hb dX5_next_39 rfl (lv_at hl 1 rfl) ?_
    refine va_get (D := D) (ci := 4) (v := .ref (ad 1)) (C := RX5) (T := TX5) (N := 3) hx hb hts (fun w h => List.mem_cons_of_mem _ (inX5 w h)) hown hK hP 0 rfl rfl 0 (by decide) (eT_h hts tw108) (fun _ h9 => h9) rfl dX5_next_40 ?_
    refine va_get (D := D) (ci := 2) (v := .int (nI n)) (C := RX2) (T := TX2) (N := 4) hx hb hts (fun w h => List.mem_cons_of_mem _ (inX2 w h)) hown hK hP 1 rfl rfl 3 (by decide) (eT_h hts tw36) (fun _ h9 => h9) rfl dX5_next_43 ?_
    refine er_V (own := RX5) (C := RX0) (b := (ad 3)) (rest := []) hx hb hml hown hts hl.1 (k_X0_firstBehind l D cI cZ cJ (ad 3) (ad 8) (ad 10) false wm i n hn hi) tw338 tw3 tw335 tw336 tw337 yd_X0_firstBehind rfl rfl ⟨Nat.le_of_ble_eq_true rfl, Nat.le_of_ble_eq_true rfl⟩ (hP.sub [3, 8] rfl) hK hP (q0 := 3) rfl rfl rfl rfl (Nat.le_of_ble_eq_true rfl) ⟨Nat.zero_le _, Nat.zero_le _⟩ dX5_next_46 ?_
    refine ef_eqi (y := es_fb (eb_w w P n) (n - i) (i + 1)) (by rw [es_fb_c (hm) _ _ (by omega)]) ?_
    exact ec_iret hx hb hr hlk hP hS ⟨rfl, rfl⟩ dX5_next_49
  · skip
    exact Bool.noConfusion h1
end
section
theorem ei_ok_z {z : Int32} {n : Nat} (hn : n ≤ 1000) (h0 : ¬ z < 0) (h : ¬ nI n ≤ z) : ei_ok z (nI n - 1) := by
  obtain ⟨j, hj, rfl⟩ := nI_of h0
  have h2 : j < n := Nat.not_le.mp (fun q => h (nI_le q (by omega)))
  exact ei_ok_p h2 hn
theorem em_bad_f {kd x : Int32} {n : Nat} (h : em_bad kd x n = false) : ei_ok kd 1 ∧ ei_ok x (nI n) := by
  simp only [em_bad, Bool.or_eq_false_iff, decide_eq_false_iff_not] at h
  exact ⟨⟨h.1.1.1, Int32.not_lt.mp h.1.1.2⟩, ⟨h.1.2, Int32.not_lt.mp h.2⟩⟩
theorem em_bad_t {kd x : Int32} {n : Nat} (h : em_bad kd x n = true) : ¬ (ei_ok kd 1 ∧ ei_ok x (nI n)) := by
  rintro ⟨⟨h1, h2⟩, ⟨h3, h4⟩⟩
  simp only [em_bad, Bool.or_eq_true, decide_eq_true_eq] at h
  rcases h with ((h | h) | h) | h
  · exact h1 h
  · exact Int32.not_lt.mpr h2 h
  · exact h3 h
  · exact Int32.not_lt.mpr h4 h

set_option maxHeartbeats 4000000 in
set_option maxRecDepth 100000 in
theorem c_X6_add (l : Launch) (D : va_G) (cI cZ cJ : ClassId) (ad : Nat → Nat) (hJ : eJ ad) (n : Nat) (g : Nat → Int32) (w : Nat → Int32) (P : Nat → Bool) (gm : Nat → Bool) (wm : Nat → Bool) (gs : Bool) (wz : Bool) (gb : Int32) (go : Bool) (gp : Bool) (gj : Bool) (wb : Int32) (wl : Int32) (wk : Int32) (wo : Bool) (fa : Int32) (mn : Nat) (mg : Nat → Int32) (mw : Nat → Int32) (mP : Nat → Bool) (o : Nat → Int64) (x y : Int32) (b : Bool) (hg : ei_ok x 13) (hw0 : ei_ok y 18) (hn : mn < 1000) : ec_M l yX6_add (Cond.code yX6_add cX6_add 4 (some .int) :: eT) ({ frames := 0, cells := 0, slots := 0, locals := 0 }) D (eTy cI cZ cJ) [.ref (ad 11), .int x, .int y, .int (ef_b b)] (cw ad cI cZ cJ n g w P gm wm gs wz gb go gp gj wb wl wk wo fa mn mg mw mP o) (ed (some (.int (nI (mn + 1)))) (cw ad cI cZ cJ n g w P gm wm gs wz gb go gp gj wb wl wk wo 0 (mn + 1) (upd mg mn x) (upd mw mn y) (ef_up mP mn b) o)) (eA ad) := by
  refine ec_of (cc := cX6_add) (maxL := 4) (ret := (some .int)) (by decide) rfl (Nat.le_of_ble_eq_true rfl) ?_
  intro p e s m args below meth c ls hx hb hr hts hown hlk hml hP hK hN hl
  have hown : s.vm.findClass RX6 = some m.cls := hown
  have hl : lv_has ls 4 [(0, .ref (ad 11)), (1, .int x), (2, .int y), (3, .int (ef_b b))] := hl
  have hS : va_S (eA ad) s.heap s.heap [] := va_S.rf
  have hD : va_D (eA ad) (cw ad cI cZ cJ n g w P gm wm gs wz gb go gp gj wb wl wk wo fa mn mg mw mP o) := eD_of hJ rfl
  refine lv_aload_n hx hb dX6_add_0 rfl (lv_at hl 0 rfl) ?_
  refine lv_iconst (v := 0) hx hb dX6_add_1 (by decide) ?_
  refine va_put (D := D) (ci := 5) (v := .int 0) (ty := .int) (C := RX6) (T := TX6) (N := 5) hx hb hts (fun w h => List.mem_cons_of_mem _ (inX6 w h)) tyX6 tyX6_ok nmX6 hown hK hP hD hS 11 rfl rfl 0 (by decide) (eT_h hts tw367) (fun _ h9 => h9) rfl (by decide +kernel) rfl rfl (Nat.le_of_ble_eq_true rfl) dX6_add_2 (fun H locs hP hD hS => ?_)
  have hP : va_P D vwCl (cw ad cI cZ cJ n g w P gm wm gs wz gb go gp gj wb wl wk wo 0 mn mg mw mP o) H := hP
  have hD : va_D (eA ad) (cw ad cI cZ cJ n g w P gm wm gs wz gb go gp gj wb wl wk wo 0 mn mg mw mP o) := hD
  refine lv_iload_n hx hb dX6_add_5 rfl (lv_at hl 1 rfl) ?_
  refine lv_if_lt (tgt := 25) hx hb dX6_add_6 (by decide) (fun h1 => ?_) (fun h1 => ?_)
  · skip
    exact absurd h1 hg.1
  · skip
    refine lv_iload_n hx hb dX6_add_9 rfl (lv_at hl 1 rfl) ?_
    refine lv_bipush (v := 13) hx hb dX6_add_10 (by decide) ?_
    refine lv_icmp_gt (tgt := 25) hx hb dX6_add_12 (by decide) (fun h2 => ?_) (fun h2 => ?_)
    · skip
      exact absurd hg.2 (Int32.not_le.mpr h2)
    · skip
      refine lv_iload_n hx hb dX6_add_15 rfl (lv_at hl 2 rfl) ?_
      refine lv_if_lt (tgt := 25) hx hb dX6_add_16 (by decide) (fun h3 => ?_) (fun h3 => ?_)
      · skip
        exact absurd h3 hw0.1
      · skip
        refine lv_iload_n hx hb dX6_add_19 rfl (lv_at hl 2 rfl) ?_
        refine lv_bipush (v := 18) hx hb dX6_add_20 (by decide) ?_
        refine lv_icmp_le (tgt := 31) hx hb dX6_add_22 (by decide) (fun h4 => ?_) (fun h4 => ?_)
        · skip
          refine lv_aload_n hx hb dX6_add_31 rfl (lv_at hl 0 rfl) ?_
          refine va_get (D := D) (ci := 5) (v := .int (nI mn)) (C := RX6) (T := TX6) (N := 5) hx hb hts (fun w h => List.mem_cons_of_mem _ (inX6 w h)) hown hK hP 11 rfl rfl 1 (by decide) (eT_h hts tw368) (fun _ h9 => h9) rfl dX6_add_32 ?_
          refine lv_sipush (v := 1000) hx hb dX6_add_35 (by decide) ?_
          refine lv_icmp_ne (tgt := 47) hx hb dX6_add_38 (by decide) (fun h5 => ?_) (fun h5 => ?_)
          · skip
            refine lv_aload_n hx hb dX6_add_47 rfl (lv_at hl 0 rfl) ?_
            refine va_get (D := D) (ci := 5) (v := .ref (ad 12)) (C := RX6) (T := TX6) (N := 5) hx hb hts (fun w h => List.mem_cons_of_mem _ (inX6 w h)) hown hK hP 11 rfl rfl 2 (by decide) (eT_h hts tw369) (fun _ h9 => h9) rfl dX6_add_48 ?_
            refine lv_aload_n hx hb dX6_add_51 rfl (lv_at hl 0 rfl) ?_
            refine va_get (D := D) (ci := 5) (v := .int (nI mn)) (C := RX6) (T := TX6) (N := 5) hx hb hts (fun w h => List.mem_cons_of_mem _ (inX6 w h)) hown hK hP 11 rfl rfl 1 (by decide) (eT_h hts tw368) (fun _ h9 => h9) rfl dX6_add_52 ?_
            refine lv_iload_n hx hb dX6_add_55 rfl (lv_at hl 1 rfl) ?_
            refine va_iast hx hb hK hP hD hS 12 0 rfl rfl (vp_in_nI (n := mn) (by omega) (by decide)) dX6_add_56 (fun H locs hP hD hS => ?_)
            rw [nI_clamp (n := mn) (by omega)] at hP hD
            have hP : va_P D vwCl (cw ad cI cZ cJ n g w P gm wm gs wz gb go gp gj wb wl wk wo 0 mn (upd mg mn x) mw mP o) H := hP
            have hD : va_D (eA ad) (cw ad cI cZ cJ n g w P gm wm gs wz gb go gp gj wb wl wk wo 0 mn (upd mg mn x) mw mP o) := hD
            refine lv_aload_n hx hb dX6_add_57 rfl (lv_at hl 0 rfl) ?_
            refine va_get (D := D) (ci := 5) (v := .ref (ad 13)) (C := RX6) (T := TX6) (N := 5) hx hb hts (fun w h => List.mem_cons_of_mem _ (inX6 w h)) hown hK hP 11 rfl rfl 3 (by decide) (eT_h hts tw370) (fun _ h9 => h9) rfl dX6_add_58 ?_
            refine lv_aload_n hx hb dX6_add_61 rfl (lv_at hl 0 rfl) ?_
            refine va_get (D := D) (ci := 5) (v := .int (nI mn)) (C := RX6) (T := TX6) (N := 5) hx hb hts (fun w h => List.mem_cons_of_mem _ (inX6 w h)) hown hK hP 11 rfl rfl 1 (by decide) (eT_h hts tw368) (fun _ h9 => h9) rfl dX6_add_62 ?_
            refine lv_iload_n hx hb dX6_add_65 rfl (lv_at hl 2 rfl) ?_
            refine va_iast hx hb hK hP hD hS 13 0 rfl rfl (vp_in_nI (n := mn) (by omega) (by decide)) dX6_add_66 (fun H locs hP hD hS => ?_)
            rw [nI_clamp (n := mn) (by omega)] at hP hD
            have hP : va_P D vwCl (cw ad cI cZ cJ n g w P gm wm gs wz gb go gp gj wb wl wk wo 0 mn (upd mg mn x) (upd mw mn y) mP o) H := hP
            have hD : va_D (eA ad) (cw ad cI cZ cJ n g w P gm wm gs wz gb go gp gj wb wl wk wo 0 mn (upd mg mn x) (upd mw mn y) mP o) := hD
            refine lv_aload_n hx hb dX6_add_67 rfl (lv_at hl 0 rfl) ?_
            refine va_get (D := D) (ci := 5) (v := .ref (ad 14)) (C := RX6) (T := TX6) (N := 5) hx hb hts (fun w h => List.mem_cons_of_mem _ (inX6 w h)) hown hK hP 11 rfl rfl 4 (by decide) (eT_h hts tw371) (fun _ h9 => h9) rfl dX6_add_68 ?_
            refine lv_aload_n hx hb dX6_add_71 rfl (lv_at hl 0 rfl) ?_
            refine va_get (D := D) (ci := 5) (v := .int (nI mn)) (C := RX6) (T := TX6) (N := 5) hx hb hts (fun w h => List.mem_cons_of_mem _ (inX6 w h)) hown hK hP 11 rfl rfl 1 (by decide) (eT_h hts tw368) (fun _ h9 => h9) rfl dX6_add_72 ?_
            refine lv_iload_n hx hb dX6_add_75 rfl (lv_at hl 3 rfl) ?_
            refine va_zast hx hb hK hP hD hS 14 1 rfl rfl (vp_in_nI (n := mn) (by omega) (by decide)) dX6_add_76 (fun H locs hP hD hS => ?_)
            rw [nI_clamp (n := mn) (by omega), ef_upd] at hP hD
            have hP : va_P D vwCl (cw ad cI cZ cJ n g w P gm wm gs wz gb go gp gj wb wl wk wo 0 mn (upd mg mn x) (upd mw mn y) (ef_up mP mn b) o) H := hP
            have hD : va_D (eA ad) (cw ad cI cZ cJ n g w P gm wm gs wz gb go gp gj wb wl wk wo 0 mn (upd mg mn x) (upd mw mn y) (ef_up mP mn b) o) := hD
            refine lv_aload_n hx hb dX6_add_77 rfl (lv_at hl 0 rfl) ?_
            refine lv_dup hx hb dX6_add_78 rfl ?_
            refine va_get (D := D) (ci := 5) (v := .int (nI mn)) (C := RX6) (T := TX6) (N := 5) hx hb hts (fun w h => List.mem_cons_of_mem _ (inX6 w h)) hown hK hP 11 rfl rfl 1 (by decide) (eT_h hts tw368) (fun _ h9 => h9) rfl dX6_add_79 ?_
            refine lv_iconst (v := 1) hx hb dX6_add_82 (by decide) ?_
            refine lv_iadd hx hb dX6_add_83 ?_
            refine ef_eqi (y := nI (mn + 1)) (nI_add mn 1) ?_
            refine va_put (D := D) (ci := 5) (v := .int (nI (mn + 1))) (ty := .int) (C := RX6) (T := TX6) (N := 5) hx hb hts (fun w h => List.mem_cons_of_mem _ (inX6 w h)) tyX6 tyX6_ok nmX6 hown hK hP hD hS 11 rfl rfl 1 (by decide) (eT_h hts tw368) (fun _ h9 => h9) rfl (by decide +kernel) rfl rfl (Nat.le_of_ble_eq_true rfl) dX6_add_84 (fun H locs hP hD hS => ?_)
            have hP : va_P D vwCl (cw ad cI cZ cJ n g w P gm wm gs wz gb go gp gj wb wl wk wo 0 (mn + 1) (upd mg mn x) (upd mw mn y) (ef_up mP mn b) o) H := hP
            have hD : va_D (eA ad) (cw ad cI cZ cJ n g w P gm wm gs wz gb go gp gj wb wl wk wo 0 (mn + 1) (upd mg mn x) (upd mw mn y) (ef_up mP mn b) o) := hD
            refine lv_aload_n hx hb dX6_add_87 rfl (lv_at hl 0 rfl) ?_
            refine va_get (D := D) (ci := 5) (v := .int (nI (mn + 1))) (C := RX6) (T := TX6) (N := 5) hx hb hts (fun w h => List.mem_cons_of_mem _ (inX6 w h)) hown hK hP 11 rfl rfl 1 (by decide) (eT_h hts tw368) (fun _ h9 => h9) rfl dX6_add_88 ?_
            exact ec_iret hx hb hr hlk hP hS ⟨rfl, rfl⟩ dX6_add_91
          · skip
            exact absurd ((nI_eq (a := mn) (b := 1000) (by omega) (by decide)).mp h5) (by omega)
        · skip
          exact absurd hw0.2 h4

set_option maxHeartbeats 4000000 in
set_option maxRecDepth 100000 in
theorem c_X6_add_bad (l : Launch) (D : va_G) (cI cZ cJ : ClassId) (ad : Nat → Nat) (hJ : eJ ad) (n : Nat) (g : Nat → Int32) (w : Nat → Int32) (P : Nat → Bool) (gm : Nat → Bool) (wm : Nat → Bool) (gs : Bool) (wz : Bool) (gb : Int32) (go : Bool) (gp : Bool) (gj : Bool) (wb : Int32) (wl : Int32) (wk : Int32) (wo : Bool) (fa : Int32) (mn : Nat) (mg : Nat → Int32) (mw : Nat → Int32) (mP : Nat → Bool) (o : Nat → Int64) (x y : Int32) (b : Bool) (hbad : ¬ (ei_ok x 13 ∧ ei_ok y 18)) : ec_M l yX6_add (Cond.code yX6_add cX6_add 4 (some .int) :: eT) ({ frames := 1, cells := 0, slots := 0, locals := 21 }) D (eTy cI cZ cJ) [.ref (ad 11), .int x, .int y, .int (ef_b b)] (cw ad cI cZ cJ n g w P gm wm gs wz gb go gp gj wb wl wk wo fa mn mg mw mP o) (ed (some (.int 0)) (cw ad cI cZ cJ n g w P gm wm gs wz gb go gp gj wb wl wk wo 1 mn mg mw mP o)) (eA ad) := by
  refine ec_of (cc := cX6_add) (maxL := 4) (ret := (some .int)) (by decide) rfl (Nat.le_of_ble_eq_true rfl) ?_
  intro p e s m args below meth c ls hx hb hr hts hown hlk hml hP hK hN hl
  have hown : s.vm.findClass RX6 = some m.cls := hown
  have hl : lv_has ls 4 [(0, .ref (ad 11)), (1, .int x), (2, .int y), (3, .int (ef_b b))] := hl
  have hS : va_S (eA ad) s.heap s.heap [] := va_S.rf
  have hD : va_D (eA ad) (cw ad cI cZ cJ n g w P gm wm gs wz gb go gp gj wb wl wk wo fa mn mg mw mP o) := eD_of hJ rfl
  refine lv_aload_n hx hb dX6_add_0 rfl (lv_at hl 0 rfl) ?_
  refine lv_iconst (v := 0) hx hb dX6_add_1 (by decide) ?_
  refine va_put (D := D) (ci := 5) (v := .int 0) (ty := .int) (C := RX6) (T := TX6) (N := 5) hx hb hts (fun w h => List.mem_cons_of_mem _ (inX6 w h)) tyX6 tyX6_ok nmX6 hown hK hP hD hS 11 rfl rfl 0 (by decide) (eT_h hts tw367) (fun _ h9 => h9) rfl (by decide +kernel) rfl rfl (Nat.le_of_ble_eq_true rfl) dX6_add_2 (fun H locs hP hD hS => ?_)
  have hP : va_P D vwCl (cw ad cI cZ cJ n g w P gm wm gs wz gb go gp gj wb wl wk wo 0 mn mg mw mP o) H := hP
  have hD : va_D (eA ad) (cw ad cI cZ cJ n g w P gm wm gs wz gb go gp gj wb wl wk wo 0 mn mg mw mP o) := hD
  refine lv_iload_n hx hb dX6_add_5 rfl (lv_at hl 1 rfl) ?_
  refine lv_if_lt (tgt := 25) hx hb dX6_add_6 (by decide) (fun h1 => ?_) (fun h1 => ?_)
  · skip
    refine lv_aload_n hx hb dX6_add_25 rfl (lv_at hl 0 rfl) ?_
    refine lv_iconst (v := 1) hx hb dX6_add_26 (by decide) ?_
    refine ec_V (own := RX6) (C := RX6) (b := (ad 11)) (rest := []) hx hb hml hown hts hl.1 (c_X6_fail l D cI cZ cJ ad hJ n g w P gm wm gs wz gb go gp gj wb wl wk wo 0 mn mg mw mP o 1) tw394 tw7 tw391 tw393 ts_X6_fail yd_X6_fail rfl rfl ⟨Nat.le_of_ble_eq_true rfl, Nat.le_of_ble_eq_true rfl⟩ hP hK hN hP (q0 := 11) rfl rfl rfl rfl (Nat.le_of_ble_eq_true rfl) ⟨Nat.zero_le _, Nat.zero_le _⟩ hS (fun _ h9 => h9) dX6_add_27 (fun v9 W9 H locs hF hP hS hz9 hk9 => ?_)
    obtain ⟨rfl, rfl⟩ := hF
    have hD : va_D (eA ad) (cw ad cI cZ cJ n g w P gm wm gs wz gb go gp gj wb wl wk wo 1 mn mg mw mP o) := eD_of hJ rfl
    refine W.eq (g2 := F0 m 30 ls [.int 0]) rfl ?_
    exact ec_iret hx hb hr hlk hP hS ⟨rfl, rfl⟩ dX6_add_30
  · skip
    refine lv_iload_n hx hb dX6_add_9 rfl (lv_at hl 1 rfl) ?_
    refine lv_bipush (v := 13) hx hb dX6_add_10 (by decide) ?_
    refine lv_icmp_gt (tgt := 25) hx hb dX6_add_12 (by decide) (fun h2 => ?_) (fun h2 => ?_)
    · skip
      refine lv_aload_n hx hb dX6_add_25 rfl (lv_at hl 0 rfl) ?_
      refine lv_iconst (v := 1) hx hb dX6_add_26 (by decide) ?_
      refine ec_V (own := RX6) (C := RX6) (b := (ad 11)) (rest := []) hx hb hml hown hts hl.1 (c_X6_fail l D cI cZ cJ ad hJ n g w P gm wm gs wz gb go gp gj wb wl wk wo 0 mn mg mw mP o 1) tw394 tw7 tw391 tw393 ts_X6_fail yd_X6_fail rfl rfl ⟨Nat.le_of_ble_eq_true rfl, Nat.le_of_ble_eq_true rfl⟩ hP hK hN hP (q0 := 11) rfl rfl rfl rfl (Nat.le_of_ble_eq_true rfl) ⟨Nat.zero_le _, Nat.zero_le _⟩ hS (fun _ h9 => h9) dX6_add_27 (fun v9 W9 H locs hF hP hS hz9 hk9 => ?_)
      obtain ⟨rfl, rfl⟩ := hF
      have hD : va_D (eA ad) (cw ad cI cZ cJ n g w P gm wm gs wz gb go gp gj wb wl wk wo 1 mn mg mw mP o) := eD_of hJ rfl
      refine W.eq (g2 := F0 m 30 ls [.int 0]) rfl ?_
      exact ec_iret hx hb hr hlk hP hS ⟨rfl, rfl⟩ dX6_add_30
    · skip
      refine lv_iload_n hx hb dX6_add_15 rfl (lv_at hl 2 rfl) ?_
      refine lv_if_lt (tgt := 25) hx hb dX6_add_16 (by decide) (fun h3 => ?_) (fun h3 => ?_)
      · skip
        refine lv_aload_n hx hb dX6_add_25 rfl (lv_at hl 0 rfl) ?_
        refine lv_iconst (v := 1) hx hb dX6_add_26 (by decide) ?_
        refine ec_V (own := RX6) (C := RX6) (b := (ad 11)) (rest := []) hx hb hml hown hts hl.1 (c_X6_fail l D cI cZ cJ ad hJ n g w P gm wm gs wz gb go gp gj wb wl wk wo 0 mn mg mw mP o 1) tw394 tw7 tw391 tw393 ts_X6_fail yd_X6_fail rfl rfl ⟨Nat.le_of_ble_eq_true rfl, Nat.le_of_ble_eq_true rfl⟩ hP hK hN hP (q0 := 11) rfl rfl rfl rfl (Nat.le_of_ble_eq_true rfl) ⟨Nat.zero_le _, Nat.zero_le _⟩ hS (fun _ h9 => h9) dX6_add_27 (fun v9 W9 H locs hF hP hS hz9 hk9 => ?_)
        obtain ⟨rfl, rfl⟩ := hF
        have hD : va_D (eA ad) (cw ad cI cZ cJ n g w P gm wm gs wz gb go gp gj wb wl wk wo 1 mn mg mw mP o) := eD_of hJ rfl
        refine W.eq (g2 := F0 m 30 ls [.int 0]) rfl ?_
        exact ec_iret hx hb hr hlk hP hS ⟨rfl, rfl⟩ dX6_add_30
      · skip
        refine lv_iload_n hx hb dX6_add_19 rfl (lv_at hl 2 rfl) ?_
        refine lv_bipush (v := 18) hx hb dX6_add_20 (by decide) ?_
        refine lv_icmp_le (tgt := 31) hx hb dX6_add_22 (by decide) (fun h4 => ?_) (fun h4 => ?_)
        · skip
          exact absurd ⟨⟨h1, Int32.not_lt.mp h2⟩, ⟨h3, h4⟩⟩ hbad
        · skip
          refine lv_aload_n hx hb dX6_add_25 rfl (lv_at hl 0 rfl) ?_
          refine lv_iconst (v := 1) hx hb dX6_add_26 (by decide) ?_
          refine ec_V (own := RX6) (C := RX6) (b := (ad 11)) (rest := []) hx hb hml hown hts hl.1 (c_X6_fail l D cI cZ cJ ad hJ n g w P gm wm gs wz gb go gp gj wb wl wk wo 0 mn mg mw mP o 1) tw394 tw7 tw391 tw393 ts_X6_fail yd_X6_fail rfl rfl ⟨Nat.le_of_ble_eq_true rfl, Nat.le_of_ble_eq_true rfl⟩ hP hK hN hP (q0 := 11) rfl rfl rfl rfl (Nat.le_of_ble_eq_true rfl) ⟨Nat.zero_le _, Nat.zero_le _⟩ hS (fun _ h9 => h9) dX6_add_27 (fun v9 W9 H locs hF hP hS hz9 hk9 => ?_)
          obtain ⟨rfl, rfl⟩ := hF
          have hD : va_D (eA ad) (cw ad cI cZ cJ n g w P gm wm gs wz gb go gp gj wb wl wk wo 1 mn mg mw mP o) := eD_of hJ rfl
          refine W.eq (g2 := F0 m 30 ls [.int 0]) rfl ?_
          exact ec_iret hx hb hr hlk hP hS ⟨rfl, rfl⟩ dX6_add_30

set_option maxHeartbeats 4000000 in
set_option maxRecDepth 100000 in
theorem c_X6_set (l : Launch) (D : va_G) (cI cZ cJ : ClassId) (ad : Nat → Nat) (hJ : eJ ad) (n : Nat) (g : Nat → Int32) (w : Nat → Int32) (P : Nat → Bool) (gm : Nat → Bool) (wm : Nat → Bool) (gs : Bool) (wz : Bool) (gb : Int32) (go : Bool) (gp : Bool) (gj : Bool) (wb : Int32) (wl : Int32) (wk : Int32) (wo : Bool) (fa : Int32) (mn : Nat) (mg : Nat → Int32) (mw : Nat → Int32) (mP : Nat → Bool) (o : Nat → Int64) (i : Nat) (x y : Int32) (b : Bool) (hn : mn ≤ 1000) (hi : i < mn) (hg : ei_ok x 13) (hw0 : ei_ok y 18) : ec_M l yX6_set (Cond.code yX6_set cX6_set 5 none :: eT) ({ frames := 0, cells := 0, slots := 0, locals := 0 }) D (eTy cI cZ cJ) [.ref (ad 11), .int (nI i), .int x, .int y, .int (ef_b b)] (cw ad cI cZ cJ n g w P gm wm gs wz gb go gp gj wb wl wk wo fa mn mg mw mP o) (ed none (cw ad cI cZ cJ n g w P gm wm gs wz gb go gp gj wb wl wk wo 0 mn (upd mg i x) (upd mw i y) (ef_up mP i b) o)) (eA ad) := by
  refine ec_of (cc := cX6_set) (maxL := 5) (ret := none) (by decide) rfl (Nat.le_of_ble_eq_true rfl) ?_
  intro p e s m args below meth c ls hx hb hr hts hown hlk hml hP hK hN hl
  have hown : s.vm.findClass RX6 = some m.cls := hown
  have hl : lv_has ls 5 [(0, .ref (ad 11)), (1, .int (nI i)), (2, .int x), (3, .int y), (4, .int (ef_b b))] := hl
  have hS : va_S (eA ad) s.heap s.heap [] := va_S.rf
  have hD : va_D (eA ad) (cw ad cI cZ cJ n g w P gm wm gs wz gb go gp gj wb wl wk wo fa mn mg mw mP o) := eD_of hJ rfl
  refine lv_aload_n hx hb dX6_set_0 rfl (lv_at hl 0 rfl) ?_
  refine lv_iconst (v := 0) hx hb dX6_set_1 (by decide) ?_
  refine va_put (D := D) (ci := 5) (v := .int 0) (ty := .int) (C := RX6) (T := TX6) (N := 5) hx hb hts (fun w h => List.mem_cons_of_mem _ (inX6 w h)) tyX6 tyX6_ok nmX6 hown hK hP hD hS 11 rfl rfl 0 (by decide) (eT_h hts tw367) (fun _ h9 => h9) rfl (by decide +kernel) rfl rfl (Nat.le_of_ble_eq_true rfl) dX6_set_2 (fun H locs hP hD hS => ?_)
  have hP : va_P D vwCl (cw ad cI cZ cJ n g w P gm wm gs wz gb go gp gj wb wl wk wo 0 mn mg mw mP o) H := hP
  have hD : va_D (eA ad) (cw ad cI cZ cJ n g w P gm wm gs wz gb go gp gj wb wl wk wo 0 mn mg mw mP o) := hD
  refine lv_iload_n hx hb dX6_set_5 rfl (lv_at hl 1 rfl) ?_
  refine lv_if_lt (tgt := 37) hx hb dX6_set_6 (by decide) (fun h1 => ?_) (fun h1 => ?_)
  · skip
    exact absurd h1 (nI_pos (by omega))
  · skip
    refine lv_iload_n hx hb dX6_set_9 rfl (lv_at hl 1 rfl) ?_
    refine lv_aload_n hx hb dX6_set_10 rfl (lv_at hl 0 rfl) ?_
    refine va_get (D := D) (ci := 5) (v := .int (nI mn)) (C := RX6) (T := TX6) (N := 5) hx hb hts (fun w h => List.mem_cons_of_mem _ (inX6 w h)) hown hK hP 11 rfl rfl 1 (by decide) (eT_h hts tw368) (fun _ h9 => h9) rfl dX6_set_11 ?_
    refine lv_icmp_ge (tgt := 37) hx hb dX6_set_14 (by decide) (fun h2 => ?_) (fun h2 => ?_)
    · skip
      exact absurd ((nI_leI (a := mn) (b := i) (by omega) (by omega)).mp h2) (by omega)
    · skip
      refine lv_iload_n hx hb dX6_set_17 rfl (lv_at hl 2 rfl) ?_
      refine lv_if_lt (tgt := 37) hx hb dX6_set_18 (by decide) (fun h3 => ?_) (fun h3 => ?_)
      · skip
        exact absurd h3 hg.1
      · skip
        refine lv_iload_n hx hb dX6_set_21 rfl (lv_at hl 2 rfl) ?_
        refine lv_bipush (v := 13) hx hb dX6_set_22 (by decide) ?_
        refine lv_icmp_gt (tgt := 37) hx hb dX6_set_24 (by decide) (fun h4 => ?_) (fun h4 => ?_)
        · skip
          exact absurd hg.2 (Int32.not_le.mpr h4)
        · skip
          refine lv_iload_n hx hb dX6_set_27 rfl (lv_at hl 3 rfl) ?_
          refine lv_if_lt (tgt := 37) hx hb dX6_set_28 (by decide) (fun h5 => ?_) (fun h5 => ?_)
          · skip
            exact absurd h5 hw0.1
          · skip
            refine lv_iload_n hx hb dX6_set_31 rfl (lv_at hl 3 rfl) ?_
            refine lv_bipush (v := 18) hx hb dX6_set_32 (by decide) ?_
            refine lv_icmp_le (tgt := 45) hx hb dX6_set_34 (by decide) (fun h6 => ?_) (fun h6 => ?_)
            · skip
              refine lv_aload_n hx hb dX6_set_45 rfl (lv_at hl 0 rfl) ?_
              refine va_get (D := D) (ci := 5) (v := .ref (ad 12)) (C := RX6) (T := TX6) (N := 5) hx hb hts (fun w h => List.mem_cons_of_mem _ (inX6 w h)) hown hK hP 11 rfl rfl 2 (by decide) (eT_h hts tw369) (fun _ h9 => h9) rfl dX6_set_46 ?_
              refine lv_iload_n hx hb dX6_set_49 rfl (lv_at hl 1 rfl) ?_
              refine lv_iload_n hx hb dX6_set_50 rfl (lv_at hl 2 rfl) ?_
              refine va_iast hx hb hK hP hD hS 12 0 rfl rfl (vp_in_nI (n := i) (by omega) (by decide)) dX6_set_51 (fun H locs hP hD hS => ?_)
              rw [nI_clamp (n := i) (by omega)] at hP hD
              have hP : va_P D vwCl (cw ad cI cZ cJ n g w P gm wm gs wz gb go gp gj wb wl wk wo 0 mn (upd mg i x) mw mP o) H := hP
              have hD : va_D (eA ad) (cw ad cI cZ cJ n g w P gm wm gs wz gb go gp gj wb wl wk wo 0 mn (upd mg i x) mw mP o) := hD
              refine lv_aload_n hx hb dX6_set_52 rfl (lv_at hl 0 rfl) ?_
              refine va_get (D := D) (ci := 5) (v := .ref (ad 13)) (C := RX6) (T := TX6) (N := 5) hx hb hts (fun w h => List.mem_cons_of_mem _ (inX6 w h)) hown hK hP 11 rfl rfl 3 (by decide) (eT_h hts tw370) (fun _ h9 => h9) rfl dX6_set_53 ?_
              refine lv_iload_n hx hb dX6_set_56 rfl (lv_at hl 1 rfl) ?_
              refine lv_iload_n hx hb dX6_set_57 rfl (lv_at hl 3 rfl) ?_
              refine va_iast hx hb hK hP hD hS 13 0 rfl rfl (vp_in_nI (n := i) (by omega) (by decide)) dX6_set_58 (fun H locs hP hD hS => ?_)
              rw [nI_clamp (n := i) (by omega)] at hP hD
              have hP : va_P D vwCl (cw ad cI cZ cJ n g w P gm wm gs wz gb go gp gj wb wl wk wo 0 mn (upd mg i x) (upd mw i y) mP o) H := hP
              have hD : va_D (eA ad) (cw ad cI cZ cJ n g w P gm wm gs wz gb go gp gj wb wl wk wo 0 mn (upd mg i x) (upd mw i y) mP o) := hD
              refine lv_aload_n hx hb dX6_set_59 rfl (lv_at hl 0 rfl) ?_
              refine va_get (D := D) (ci := 5) (v := .ref (ad 14)) (C := RX6) (T := TX6) (N := 5) hx hb hts (fun w h => List.mem_cons_of_mem _ (inX6 w h)) hown hK hP 11 rfl rfl 4 (by decide) (eT_h hts tw371) (fun _ h9 => h9) rfl dX6_set_60 ?_
              refine lv_iload_n hx hb dX6_set_63 rfl (lv_at hl 1 rfl) ?_
              refine lv_iload hx hb dX6_set_64 (lv_at hl 4 rfl) ?_
              refine va_zast hx hb hK hP hD hS 14 1 rfl rfl (vp_in_nI (n := i) (by omega) (by decide)) dX6_set_66 (fun H locs hP hD hS => ?_)
              rw [nI_clamp (n := i) (by omega), ef_upd] at hP hD
              have hP : va_P D vwCl (cw ad cI cZ cJ n g w P gm wm gs wz gb go gp gj wb wl wk wo 0 mn (upd mg i x) (upd mw i y) (ef_up mP i b) o) H := hP
              have hD : va_D (eA ad) (cw ad cI cZ cJ n g w P gm wm gs wz gb go gp gj wb wl wk wo 0 mn (upd mg i x) (upd mw i y) (ef_up mP i b) o) := hD
              exact ec_vret hx hb hr hlk hP hS ⟨rfl, rfl⟩ dX6_set_67
            · skip
              exact absurd hw0.2 h6

set_option maxHeartbeats 4000000 in
set_option maxRecDepth 100000 in
theorem c_X6_set_bad (l : Launch) (D : va_G) (cI cZ cJ : ClassId) (ad : Nat → Nat) (hJ : eJ ad) (n : Nat) (g : Nat → Int32) (w : Nat → Int32) (P : Nat → Bool) (gm : Nat → Bool) (wm : Nat → Bool) (gs : Bool) (wz : Bool) (gb : Int32) (go : Bool) (gp : Bool) (gj : Bool) (wb : Int32) (wl : Int32) (wk : Int32) (wo : Bool) (fa : Int32) (mn : Nat) (mg : Nat → Int32) (mw : Nat → Int32) (mP : Nat → Bool) (o : Nat → Int64) (z x y : Int32) (b : Bool) (hn : mn ≤ 1000) (hbad : ¬ (ei_ok z (nI mn - 1) ∧ ei_ok x 13 ∧ ei_ok y 18)) : ec_M l yX6_set (Cond.code yX6_set cX6_set 5 none :: eT) ({ frames := 0, cells := 0, slots := 0, locals := 0 }) D (eTy cI cZ cJ) [.ref (ad 11), .int z, .int x, .int y, .int (ef_b b)] (cw ad cI cZ cJ n g w P gm wm gs wz gb go gp gj wb wl wk wo fa mn mg mw mP o) (ed none (cw ad cI cZ cJ n g w P gm wm gs wz gb go gp gj wb wl wk wo 1 mn mg mw mP o)) (eA ad) := by
  refine ec_of (cc := cX6_set) (maxL := 5) (ret := none) (by decide) rfl (Nat.le_of_ble_eq_true rfl) ?_
  intro p e s m args below meth c ls hx hb hr hts hown hlk hml hP hK hN hl
  have hown : s.vm.findClass RX6 = some m.cls := hown
  have hl : lv_has ls 5 [(0, .ref (ad 11)), (1, .int z), (2, .int x), (3, .int y), (4, .int (ef_b b))] := hl
  have hS : va_S (eA ad) s.heap s.heap [] := va_S.rf
  have hD : va_D (eA ad) (cw ad cI cZ cJ n g w P gm wm gs wz gb go gp gj wb wl wk wo fa mn mg mw mP o) := eD_of hJ rfl
  refine lv_aload_n hx hb dX6_set_0 rfl (lv_at hl 0 rfl) ?_
  refine lv_iconst (v := 0) hx hb dX6_set_1 (by decide) ?_
  refine va_put (D := D) (ci := 5) (v := .int 0) (ty := .int) (C := RX6) (T := TX6) (N := 5) hx hb hts (fun w h => List.mem_cons_of_mem _ (inX6 w h)) tyX6 tyX6_ok nmX6 hown hK hP hD hS 11 rfl rfl 0 (by decide) (eT_h hts tw367) (fun _ h9 => h9) rfl (by decide +kernel) rfl rfl (Nat.le_of_ble_eq_true rfl) dX6_set_2 (fun H locs hP hD hS => ?_)
  have hP : va_P D vwCl (cw ad cI cZ cJ n g w P gm wm gs wz gb go gp gj wb wl wk wo 0 mn mg mw mP o) H := hP
  have hD : va_D (eA ad) (cw ad cI cZ cJ n g w P gm wm gs wz gb go gp gj wb wl wk wo 0 mn mg mw mP o) := hD
  refine lv_iload_n hx hb dX6_set_5 rfl (lv_at hl 1 rfl) ?_
  refine lv_if_lt (tgt := 37) hx hb dX6_set_6 (by decide) (fun h1 => ?_) (fun h1 => ?_)
  · skip
    refine lv_aload_n hx hb dX6_set_37 rfl (lv_at hl 0 rfl) ?_
    refine lv_iconst (v := 1) hx hb dX6_set_38 (by decide) ?_
    refine va_put (D := D) (ci := 5) (v := .int 1) (ty := .int) (C := RX6) (T := TX6) (N := 5) hx hb hts (fun w h => List.mem_cons_of_mem _ (inX6 w h)) tyX6 tyX6_ok nmX6 hown hK hP hD hS 11 rfl rfl 0 (by decide) (eT_h hts tw367) (fun _ h9 => h9) rfl (by decide +kernel) rfl rfl (Nat.le_of_ble_eq_true rfl) dX6_set_39 (fun H locs hP hD hS => ?_)
    have hP : va_P D vwCl (cw ad cI cZ cJ n g w P gm wm gs wz gb go gp gj wb wl wk wo 1 mn mg mw mP o) H := hP
    have hD : va_D (eA ad) (cw ad cI cZ cJ n g w P gm wm gs wz gb go gp gj wb wl wk wo 1 mn mg mw mP o) := hD
    refine lv_goto (tgt := 67) hx hb dX6_set_42 (by decide) ?_
    exact ec_vret hx hb hr hlk hP hS ⟨rfl, rfl⟩ dX6_set_67
  · skip
    refine lv_iload_n hx hb dX6_set_9 rfl (lv_at hl 1 rfl) ?_
    refine lv_aload_n hx hb dX6_set_10 rfl (lv_at hl 0 rfl) ?_
    refine va_get (D := D) (ci := 5) (v := .int (nI mn)) (C := RX6) (T := TX6) (N := 5) hx hb hts (fun w h => List.mem_cons_of_mem _ (inX6 w h)) hown hK hP 11 rfl rfl 1 (by decide) (eT_h hts tw368) (fun _ h9 => h9) rfl dX6_set_11 ?_
    refine lv_icmp_ge (tgt := 37) hx hb dX6_set_14 (by decide) (fun h2 => ?_) (fun h2 => ?_)
    · skip
      refine lv_aload_n hx hb dX6_set_37 rfl (lv_at hl 0 rfl) ?_
      refine lv_iconst (v := 1) hx hb dX6_set_38 (by decide) ?_
      refine va_put (D := D) (ci := 5) (v := .int 1) (ty := .int) (C := RX6) (T := TX6) (N := 5) hx hb hts (fun w h => List.mem_cons_of_mem _ (inX6 w h)) tyX6 tyX6_ok nmX6 hown hK hP hD hS 11 rfl rfl 0 (by decide) (eT_h hts tw367) (fun _ h9 => h9) rfl (by decide +kernel) rfl rfl (Nat.le_of_ble_eq_true rfl) dX6_set_39 (fun H locs hP hD hS => ?_)
      have hP : va_P D vwCl (cw ad cI cZ cJ n g w P gm wm gs wz gb go gp gj wb wl wk wo 1 mn mg mw mP o) H := hP
      have hD : va_D (eA ad) (cw ad cI cZ cJ n g w P gm wm gs wz gb go gp gj wb wl wk wo 1 mn mg mw mP o) := hD
      refine lv_goto (tgt := 67) hx hb dX6_set_42 (by decide) ?_
      exact ec_vret hx hb hr hlk hP hS ⟨rfl, rfl⟩ dX6_set_67
    · skip
      refine lv_iload_n hx hb dX6_set_17 rfl (lv_at hl 2 rfl) ?_
      refine lv_if_lt (tgt := 37) hx hb dX6_set_18 (by decide) (fun h3 => ?_) (fun h3 => ?_)
      · skip
        refine lv_aload_n hx hb dX6_set_37 rfl (lv_at hl 0 rfl) ?_
        refine lv_iconst (v := 1) hx hb dX6_set_38 (by decide) ?_
        refine va_put (D := D) (ci := 5) (v := .int 1) (ty := .int) (C := RX6) (T := TX6) (N := 5) hx hb hts (fun w h => List.mem_cons_of_mem _ (inX6 w h)) tyX6 tyX6_ok nmX6 hown hK hP hD hS 11 rfl rfl 0 (by decide) (eT_h hts tw367) (fun _ h9 => h9) rfl (by decide +kernel) rfl rfl (Nat.le_of_ble_eq_true rfl) dX6_set_39 (fun H locs hP hD hS => ?_)
        have hP : va_P D vwCl (cw ad cI cZ cJ n g w P gm wm gs wz gb go gp gj wb wl wk wo 1 mn mg mw mP o) H := hP
        have hD : va_D (eA ad) (cw ad cI cZ cJ n g w P gm wm gs wz gb go gp gj wb wl wk wo 1 mn mg mw mP o) := hD
        refine lv_goto (tgt := 67) hx hb dX6_set_42 (by decide) ?_
        exact ec_vret hx hb hr hlk hP hS ⟨rfl, rfl⟩ dX6_set_67
      · skip
        refine lv_iload_n hx hb dX6_set_21 rfl (lv_at hl 2 rfl) ?_
        refine lv_bipush (v := 13) hx hb dX6_set_22 (by decide) ?_
        refine lv_icmp_gt (tgt := 37) hx hb dX6_set_24 (by decide) (fun h4 => ?_) (fun h4 => ?_)
        · skip
          refine lv_aload_n hx hb dX6_set_37 rfl (lv_at hl 0 rfl) ?_
          refine lv_iconst (v := 1) hx hb dX6_set_38 (by decide) ?_
          refine va_put (D := D) (ci := 5) (v := .int 1) (ty := .int) (C := RX6) (T := TX6) (N := 5) hx hb hts (fun w h => List.mem_cons_of_mem _ (inX6 w h)) tyX6 tyX6_ok nmX6 hown hK hP hD hS 11 rfl rfl 0 (by decide) (eT_h hts tw367) (fun _ h9 => h9) rfl (by decide +kernel) rfl rfl (Nat.le_of_ble_eq_true rfl) dX6_set_39 (fun H locs hP hD hS => ?_)
          have hP : va_P D vwCl (cw ad cI cZ cJ n g w P gm wm gs wz gb go gp gj wb wl wk wo 1 mn mg mw mP o) H := hP
          have hD : va_D (eA ad) (cw ad cI cZ cJ n g w P gm wm gs wz gb go gp gj wb wl wk wo 1 mn mg mw mP o) := hD
          refine lv_goto (tgt := 67) hx hb dX6_set_42 (by decide) ?_
          exact ec_vret hx hb hr hlk hP hS ⟨rfl, rfl⟩ dX6_set_67
        · skip
          refine lv_iload_n hx hb dX6_set_27 rfl (lv_at hl 3 rfl) ?_
          refine lv_if_lt (tgt := 37) hx hb dX6_set_28 (by decide) (fun h5 => ?_) (fun h5 => ?_)
          · skip
            refine lv_aload_n hx hb dX6_set_37 rfl (lv_at hl 0 rfl) ?_
            refine lv_iconst (v := 1) hx hb dX6_set_38 (by decide) ?_
            refine va_put (D := D) (ci := 5) (v := .int 1) (ty := .int) (C := RX6) (T := TX6) (N := 5) hx hb hts (fun w h => List.mem_cons_of_mem _ (inX6 w h)) tyX6 tyX6_ok nmX6 hown hK hP hD hS 11 rfl rfl 0 (by decide) (eT_h hts tw367) (fun _ h9 => h9) rfl (by decide +kernel) rfl rfl (Nat.le_of_ble_eq_true rfl) dX6_set_39 (fun H locs hP hD hS => ?_)
            have hP : va_P D vwCl (cw ad cI cZ cJ n g w P gm wm gs wz gb go gp gj wb wl wk wo 1 mn mg mw mP o) H := hP
            have hD : va_D (eA ad) (cw ad cI cZ cJ n g w P gm wm gs wz gb go gp gj wb wl wk wo 1 mn mg mw mP o) := hD
            refine lv_goto (tgt := 67) hx hb dX6_set_42 (by decide) ?_
            exact ec_vret hx hb hr hlk hP hS ⟨rfl, rfl⟩ dX6_set_67
          · skip
            refine lv_iload_n hx hb dX6_set_31 rfl (lv_at hl 3 rfl) ?_
            refine lv_bipush (v := 18) hx hb dX6_set_32 (by decide) ?_
            refine lv_icmp_le (tgt := 45) hx hb dX6_set_34 (by decide) (fun h6 => ?_) (fun h6 => ?_)
            · skip
              exact absurd ⟨ei_ok_z hn h1 h2, ⟨h3, Int32.not_lt.mp h4⟩, ⟨h5, h6⟩⟩ hbad
            · skip
              refine lv_aload_n hx hb dX6_set_37 rfl (lv_at hl 0 rfl) ?_
              refine lv_iconst (v := 1) hx hb dX6_set_38 (by decide) ?_
              refine va_put (D := D) (ci := 5) (v := .int 1) (ty := .int) (C := RX6) (T := TX6) (N := 5) hx hb hts (fun w h => List.mem_cons_of_mem _ (inX6 w h)) tyX6 tyX6_ok nmX6 hown hK hP hD hS 11 rfl rfl 0 (by decide) (eT_h hts tw367) (fun _ h9 => h9) rfl (by decide +kernel) rfl rfl (Nat.le_of_ble_eq_true rfl) dX6_set_39 (fun H locs hP hD hS => ?_)
              have hP : va_P D vwCl (cw ad cI cZ cJ n g w P gm wm gs wz gb go gp gj wb wl wk wo 1 mn mg mw mP o) H := hP
              have hD : va_D (eA ad) (cw ad cI cZ cJ n g w P gm wm gs wz gb go gp gj wb wl wk wo 1 mn mg mw mP o) := hD
              refine lv_goto (tgt := 67) hx hb dX6_set_42 (by decide) ?_
              exact ec_vret hx hb hr hlk hP hS ⟨rfl, rfl⟩ dX6_set_67

set_option maxHeartbeats 4000000 in
set_option maxRecDepth 100000 in
theorem c_X6_cut (l : Launch) (D : va_G) (cI cZ cJ : ClassId) (ad : Nat → Nat) (hJ : eJ ad) (n : Nat) (g : Nat → Int32) (w : Nat → Int32) (P : Nat → Bool) (gm : Nat → Bool) (wm : Nat → Bool) (gs : Bool) (wz : Bool) (gb : Int32) (go : Bool) (gp : Bool) (gj : Bool) (wb : Int32) (wl : Int32) (wk : Int32) (wo : Bool) (fa : Int32) (mn : Nat) (mg : Nat → Int32) (mw : Nat → Int32) (mP : Nat → Bool) (o : Nat → Int64) (k : Nat) (hn : mn ≤ 1000) (hi : k ≤ mn) : ec_M l yX6_cut (Cond.code yX6_cut cX6_cut 3 (some .int) :: eT) ({ frames := 0, cells := 0, slots := 0, locals := 0 }) D (eTy cI cZ cJ) [.ref (ad 11), .int (nI k)] (cw ad cI cZ cJ n g w P gm wm gs wz gb go gp gj wb wl wk wo fa mn mg mw mP o) (ed (some (.int (nI mn))) (cw ad cI cZ cJ n g w P gm wm gs wz gb go gp gj wb wl wk wo 0 k mg mw mP o)) (eA ad) := by
  refine ec_of (cc := cX6_cut) (maxL := 3) (ret := (some .int)) (by decide) rfl (Nat.le_of_ble_eq_true rfl) ?_
  intro p e s m args below meth c ls hx hb hr hts hown hlk hml hP hK hN hl
  have hown : s.vm.findClass RX6 = some m.cls := hown
  have hl : lv_has ls 3 [(0, .ref (ad 11)), (1, .int (nI k))] := hl
  have hS : va_S (eA ad) s.heap s.heap [] := va_S.rf
  have hD : va_D (eA ad) (cw ad cI cZ cJ n g w P gm wm gs wz gb go gp gj wb wl wk wo fa mn mg mw mP o) := eD_of hJ rfl
  refine lv_aload_n hx hb dX6_cut_0 rfl (lv_at hl 0 rfl) ?_
  refine lv_iconst (v := 0) hx hb dX6_cut_1 (by decide) ?_
  refine va_put (D := D) (ci := 5) (v := .int 0) (ty := .int) (C := RX6) (T := TX6) (N := 5) hx hb hts (fun w h => List.mem_cons_of_mem _ (inX6 w h)) tyX6 tyX6_ok nmX6 hown hK hP hD hS 11 rfl rfl 0 (by decide) (eT_h hts tw367) (fun _ h9 => h9) rfl (by decide +kernel) rfl rfl (Nat.le_of_ble_eq_true rfl) dX6_cut_2 (fun H locs hP hD hS => ?_)
  have hP : va_P D vwCl (cw ad cI cZ cJ n g w P gm wm gs wz gb go gp gj wb wl wk wo 0 mn mg mw mP o) H := hP
  have hD : va_D (eA ad) (cw ad cI cZ cJ n g w P gm wm gs wz gb go gp gj wb wl wk wo 0 mn mg mw mP o) := hD
  refine lv_iload_n hx hb dX6_cut_5 rfl (lv_at hl 1 rfl) ?_
  refine lv_if_lt (tgt := 17) hx hb dX6_cut_6 (by decide) (fun h1 => ?_) (fun h1 => ?_)
  · skip
    exact absurd h1 (nI_pos (by omega))
  · skip
    refine lv_iload_n hx hb dX6_cut_9 rfl (lv_at hl 1 rfl) ?_
    refine lv_aload_n hx hb dX6_cut_10 rfl (lv_at hl 0 rfl) ?_
    refine va_get (D := D) (ci := 5) (v := .int (nI mn)) (C := RX6) (T := TX6) (N := 5) hx hb hts (fun w h => List.mem_cons_of_mem _ (inX6 w h)) hown hK hP 11 rfl rfl 1 (by decide) (eT_h hts tw368) (fun _ h9 => h9) rfl dX6_cut_11 ?_
    refine lv_icmp_le (tgt := 23) hx hb dX6_cut_14 (by decide) (fun h2 => ?_) (fun h2 => ?_)
    · skip
      refine lv_aload_n hx hb dX6_cut_23 rfl (lv_at hl 0 rfl) ?_
      refine va_get (D := D) (ci := 5) (v := .int (nI mn)) (C := RX6) (T := TX6) (N := 5) hx hb hts (fun w h => List.mem_cons_of_mem _ (inX6 w h)) hown hK hP 11 rfl rfl 1 (by decide) (eT_h hts tw368) (fun _ h9 => h9) rfl dX6_cut_24 ?_
      refine lv_istore_n (lv' := [(2, .int (nI mn)), (0, .ref (ad 11)), (1, .int (nI k))]) hx hb dX6_cut_27 rfl hl (Nat.le_of_ble_eq_true rfl) rfl (fun ls hl => ?_)
      refine lv_aload_n hx hb dX6_cut_28 rfl (lv_at hl 1 rfl) ?_
      refine lv_iload_n hx hb dX6_cut_29 rfl (lv_at hl 2 rfl) ?_
      refine va_put (D := D) (ci := 5) (v := .int (nI k)) (ty := .int) (C := RX6) (T := TX6) (N := 5) hx hb hts (fun w h => List.mem_cons_of_mem _ (inX6 w h)) tyX6 tyX6_ok nmX6 hown hK hP hD hS 11 rfl rfl 1 (by decide) (eT_h hts tw368) (fun _ h9 => h9) rfl (by decide +kernel) rfl rfl (Nat.le_of_ble_eq_true rfl) dX6_cut_30 (fun H locs hP hD hS => ?_)
      have hP : va_P D vwCl (cw ad cI cZ cJ n g w P gm wm gs wz gb go gp gj wb wl wk wo 0 k mg mw mP o) H := hP
      have hD : va_D (eA ad) (cw ad cI cZ cJ n g w P gm wm gs wz gb go gp gj wb wl wk wo 0 k mg mw mP o) := hD
      refine lv_iload_n hx hb dX6_cut_33 rfl (lv_at hl 0 rfl) ?_
      exact ec_iret hx hb hr hlk hP hS ⟨rfl, rfl⟩ dX6_cut_34
    · skip
      exact absurd (nI_le (a := k) (b := mn) hi (by omega)) h2

set_option maxHeartbeats 4000000 in
set_option maxRecDepth 100000 in
theorem c_X6_cut_bad (l : Launch) (D : va_G) (cI cZ cJ : ClassId) (ad : Nat → Nat) (hJ : eJ ad) (n : Nat) (g : Nat → Int32) (w : Nat → Int32) (P : Nat → Bool) (gm : Nat → Bool) (wm : Nat → Bool) (gs : Bool) (wz : Bool) (gb : Int32) (go : Bool) (gp : Bool) (gj : Bool) (wb : Int32) (wl : Int32) (wk : Int32) (wo : Bool) (fa : Int32) (mn : Nat) (mg : Nat → Int32) (mw : Nat → Int32) (mP : Nat → Bool) (o : Nat → Int64) (z : Int32) (hbad : ¬ ei_ok z (nI mn)) : ec_M l yX6_cut (Cond.code yX6_cut cX6_cut 3 (some .int) :: eT) ({ frames := 1, cells := 0, slots := 0, locals := 21 }) D (eTy cI cZ cJ) [.ref (ad 11), .int z] (cw ad cI cZ cJ n g w P gm wm gs wz gb go gp gj wb wl wk wo fa mn mg mw mP o) (ed (some (.int 0)) (cw ad cI cZ cJ n g w P gm wm gs wz gb go gp gj wb wl wk wo 1 mn mg mw mP o)) (eA ad) := by
  refine ec_of (cc := cX6_cut) (maxL := 3) (ret := (some .int)) (by decide) rfl (Nat.le_of_ble_eq_true rfl) ?_
  intro p e s m args below meth c ls hx hb hr hts hown hlk hml hP hK hN hl
  have hown : s.vm.findClass RX6 = some m.cls := hown
  have hl : lv_has ls 3 [(0, .ref (ad 11)), (1, .int z)] := hl
  have hS : va_S (eA ad) s.heap s.heap [] := va_S.rf
  have hD : va_D (eA ad) (cw ad cI cZ cJ n g w P gm wm gs wz gb go gp gj wb wl wk wo fa mn mg mw mP o) := eD_of hJ rfl
  refine lv_aload_n hx hb dX6_cut_0 rfl (lv_at hl 0 rfl) ?_
  refine lv_iconst (v := 0) hx hb dX6_cut_1 (by decide) ?_
  refine va_put (D := D) (ci := 5) (v := .int 0) (ty := .int) (C := RX6) (T := TX6) (N := 5) hx hb hts (fun w h => List.mem_cons_of_mem _ (inX6 w h)) tyX6 tyX6_ok nmX6 hown hK hP hD hS 11 rfl rfl 0 (by decide) (eT_h hts tw367) (fun _ h9 => h9) rfl (by decide +kernel) rfl rfl (Nat.le_of_ble_eq_true rfl) dX6_cut_2 (fun H locs hP hD hS => ?_)
  have hP : va_P D vwCl (cw ad cI cZ cJ n g w P gm wm gs wz gb go gp gj wb wl wk wo 0 mn mg mw mP o) H := hP
  have hD : va_D (eA ad) (cw ad cI cZ cJ n g w P gm wm gs wz gb go gp gj wb wl wk wo 0 mn mg mw mP o) := hD
  refine lv_iload_n hx hb dX6_cut_5 rfl (lv_at hl 1 rfl) ?_
  refine lv_if_lt (tgt := 17) hx hb dX6_cut_6 (by decide) (fun h1 => ?_) (fun h1 => ?_)
  · skip
    refine lv_aload_n hx hb dX6_cut_17 rfl (lv_at hl 0 rfl) ?_
    refine lv_iconst (v := 1) hx hb dX6_cut_18 (by decide) ?_
    refine ec_V (own := RX6) (C := RX6) (b := (ad 11)) (rest := []) hx hb hml hown hts hl.1 (c_X6_fail l D cI cZ cJ ad hJ n g w P gm wm gs wz gb go gp gj wb wl wk wo 0 mn mg mw mP o 1) tw394 tw7 tw391 tw393 ts_X6_fail yd_X6_fail rfl rfl ⟨Nat.le_of_ble_eq_true rfl, Nat.le_of_ble_eq_true rfl⟩ hP hK hN hP (q0 := 11) rfl rfl rfl rfl (Nat.le_of_ble_eq_true rfl) ⟨Nat.zero_le _, Nat.zero_le _⟩ hS (fun _ h9 => h9) dX6_cut_19 (fun v9 W9 H locs hF hP hS hz9 hk9 => ?_)
    obtain ⟨rfl, rfl⟩ := hF
    have hD : va_D (eA ad) (cw ad cI cZ cJ n g w P gm wm gs wz gb go gp gj wb wl wk wo 1 mn mg mw mP o) := eD_of hJ rfl
    refine W.eq (g2 := F0 m 22 ls [.int 0]) rfl ?_
    exact ec_iret hx hb hr hlk hP hS ⟨rfl, rfl⟩ dX6_cut_22
  · skip
    refine lv_iload_n hx hb dX6_cut_9 rfl (lv_at hl 1 rfl) ?_
    refine lv_aload_n hx hb dX6_cut_10 rfl (lv_at hl 0 rfl) ?_
    refine va_get (D := D) (ci := 5) (v := .int (nI mn)) (C := RX6) (T := TX6) (N := 5) hx hb hts (fun w h => List.mem_cons_of_mem _ (inX6 w h)) hown hK hP 11 rfl rfl 1 (by decide) (eT_h hts tw368) (fun _ h9 => h9) rfl dX6_cut_11 ?_
    refine lv_icmp_le (tgt := 23) hx hb dX6_cut_14 (by decide) (fun h2 => ?_) (fun h2 => ?_)
    · skip
      exact absurd ⟨h1, h2⟩ hbad
    · skip
      refine lv_aload_n hx hb dX6_cut_17 rfl (lv_at hl 0 rfl) ?_
      refine lv_iconst (v := 1) hx hb dX6_cut_18 (by decide) ?_
      refine ec_V (own := RX6) (C := RX6) (b := (ad 11)) (rest := []) hx hb hml hown hts hl.1 (c_X6_fail l D cI cZ cJ ad hJ n g w P gm wm gs wz gb go gp gj wb wl wk wo 0 mn mg mw mP o 1) tw394 tw7 tw391 tw393 ts_X6_fail yd_X6_fail rfl rfl ⟨Nat.le_of_ble_eq_true rfl, Nat.le_of_ble_eq_true rfl⟩ hP hK hN hP (q0 := 11) rfl rfl rfl rfl (Nat.le_of_ble_eq_true rfl) ⟨Nat.zero_le _, Nat.zero_le _⟩ hS (fun _ h9 => h9) dX6_cut_19 (fun v9 W9 H locs hF hP hS hz9 hk9 => ?_)
      obtain ⟨rfl, rfl⟩ := hF
      have hD : va_D (eA ad) (cw ad cI cZ cJ n g w P gm wm gs wz gb go gp gj wb wl wk wo 1 mn mg mw mP o) := eD_of hJ rfl
      refine W.eq (g2 := F0 m 22 ls [.int 0]) rfl ?_
      exact ec_iret hx hb hr hlk hP hS ⟨rfl, rfl⟩ dX6_cut_22

set_option maxHeartbeats 4000000 in
set_option maxRecDepth 100000 in
theorem c_X6_edge (l : Launch) (D : va_G) (cI cZ cJ : ClassId) (ad : Nat → Nat) (hJ : eJ ad) (n : Nat) (g : Nat → Int32) (w : Nat → Int32) (P : Nat → Bool) (gm : Nat → Bool) (wm : Nat → Bool) (gs : Bool) (wz : Bool) (gb : Int32) (go : Bool) (gp : Bool) (gj : Bool) (wb : Int32) (wl : Int32) (wk : Int32) (wo : Bool) (fa : Int32) (mn : Nat) (mg : Nat → Int32) (mw : Nat → Int32) (mP : Nat → Bool) (o : Nat → Int64) (kd : Int32) (i : Nat) (hk1 : ei_ok kd 1) (hn : mn ≤ 1000) (hi : i ≤ mn) (hw : ∀ j, mw j ≠ -1) : ec_M l yX6_edge (Cond.code yX6_edge cX6_edge 3 (some .boolean) :: eT) ({ frames := 5, cells := 0, slots := 0, locals := 118 }) D (eTy cI cZ cJ) [.ref (ad 11), .int kd, .int (nI i)] (cw ad cI cZ cJ n g w P gm wm gs wz gb go gp gj wb wl wk wo fa mn mg mw mP o) (ed (some (.int (ef_b (eb_k kd mg mw mP mn i)))) (cw ad cI cZ cJ n g w P gm wm gs wz gb go gp gj wb wl wk wo 0 mn mg mw mP o)) (eA ad) := by
  refine ec_of (cc := cX6_edge) (maxL := 3) (ret := (some .boolean)) (by decide) rfl (Nat.le_of_ble_eq_true rfl) ?_
  intro p e s m args below meth c ls hx hb hr hts hown hlk hml hP hK hN hl
  have hown : s.vm.findClass RX6 = some m.cls := hown
  have hl : lv_has ls 3 [(0, .ref (ad 11)), (1, .int kd), (2, .int (nI i))] := hl
  have hS : va_S (eA ad) s.heap s.heap [] := va_S.rf
  have hD : va_D (eA ad) (cw ad cI cZ cJ n g w P gm wm gs wz gb go gp gj wb wl wk wo fa mn mg mw mP o) := eD_of hJ rfl
  refine lv_aload_n hx hb dX6_edge_0 rfl (lv_at hl 0 rfl) ?_
  refine lv_iconst (v := 0) hx hb dX6_edge_1 (by decide) ?_
  refine va_put (D := D) (ci := 5) (v := .int 0) (ty := .int) (C := RX6) (T := TX6) (N := 5) hx hb hts (fun w h => List.mem_cons_of_mem _ (inX6 w h)) tyX6 tyX6_ok nmX6 hown hK hP hD hS 11 rfl rfl 0 (by decide) (eT_h hts tw367) (fun _ h9 => h9) rfl (by decide +kernel) rfl rfl (Nat.le_of_ble_eq_true rfl) dX6_edge_2 (fun H locs hP hD hS => ?_)
  have hP : va_P D vwCl (cw ad cI cZ cJ n g w P gm wm gs wz gb go gp gj wb wl wk wo 0 mn mg mw mP o) H := hP
  have hD : va_D (eA ad) (cw ad cI cZ cJ n g w P gm wm gs wz gb go gp gj wb wl wk wo 0 mn mg mw mP o) := hD
  refine lv_aload_n hx hb dX6_edge_5 rfl (lv_at hl 0 rfl) ?_
  refine lv_iload_n hx hb dX6_edge_6 rfl (lv_at hl 1 rfl) ?_
  refine lv_iload_n hx hb dX6_edge_7 rfl (lv_at hl 2 rfl) ?_
  refine er_V (own := RX6) (C := RX6) (b := (ad 11)) (rest := []) hx hb hml hown hts hl.1 (k_X6_bad l D cI cZ cJ (ad 11) (ad 12) (ad 13) (ad 14) 0 mn mg mw mP kd (nI i)) tw410 tw7 tw407 tw409 ts_X6_bad yd_X6_bad rfl rfl ⟨Nat.le_of_ble_eq_true rfl, Nat.le_of_ble_eq_true rfl⟩ (hP.sub [11, 12, 13, 14] rfl) hK hP (q0 := 11) rfl rfl rfl rfl (Nat.le_of_ble_eq_true rfl) ⟨Nat.zero_le _, Nat.zero_le _⟩ dX6_edge_8 ?_
  refine ef_if_eq (tgt := 30) hx hb dX6_edge_11 (by decide) (fun h1 => ?_) (fun h1 => ?_)
  · skip
    refine lv_aload_n hx hb dX6_edge_30 rfl (lv_at hl 0 rfl) ?_
    refine lv_iload_n hx hb dX6_edge_31 rfl (lv_at hl 1 rfl) ?_
    refine lv_iload_n hx hb dX6_edge_32 rfl (lv_at hl 2 rfl) ?_
    refine er_V (own := RX6) (C := RX6) (b := (ad 11)) (rest := []) hx hb hml hown hts hl.1 (k_X6_boundary l D cI cZ cJ (ad 11) (ad 12) (ad 13) (ad 14) 0 mn mg mw mP kd i hn (by omega) hw) tw414 tw7 tw411 tw413 ts_X6_boundary yd_X6_boundary rfl rfl ⟨Nat.le_of_ble_eq_true rfl, Nat.le_of_ble_eq_true rfl⟩ (hP.sub [11, 12, 13, 14] rfl) hK hP (q0 := 11) rfl rfl rfl rfl (Nat.le_of_ble_eq_true rfl) ⟨Nat.zero_le _, Nat.zero_le _⟩ dX6_edge_33 ?_
    exact ec_zret hx hb hr hlk hP hS ⟨rfl, rfl⟩ dX6_edge_36
  · skip
    exact absurd ⟨hk1, ei_ok_n hi hn⟩ (em_bad_t h1)

set_option maxHeartbeats 4000000 in
set_option maxRecDepth 100000 in
theorem c_X6_edge_bad (l : Launch) (D : va_G) (cI cZ cJ : ClassId) (ad : Nat → Nat) (hJ : eJ ad) (n : Nat) (g : Nat → Int32) (w : Nat → Int32) (P : Nat → Bool) (gm : Nat → Bool) (wm : Nat → Bool) (gs : Bool) (wz : Bool) (gb : Int32) (go : Bool) (gp : Bool) (gj : Bool) (wb : Int32) (wl : Int32) (wk : Int32) (wo : Bool) (fa : Int32) (mn : Nat) (mg : Nat → Int32) (mw : Nat → Int32) (mP : Nat → Bool) (o : Nat → Int64) (kd z : Int32) (hbad : ¬ (ei_ok kd 1 ∧ ei_ok z (nI mn))) : ec_M l yX6_edge (Cond.code yX6_edge cX6_edge 3 (some .boolean) :: eT) ({ frames := 1, cells := 0, slots := 0, locals := 22 }) D (eTy cI cZ cJ) [.ref (ad 11), .int kd, .int z] (cw ad cI cZ cJ n g w P gm wm gs wz gb go gp gj wb wl wk wo fa mn mg mw mP o) (ed (some (.int (ef_b false))) (cw ad cI cZ cJ n g w P gm wm gs wz gb go gp gj wb wl wk wo 1 mn mg mw mP o)) (eA ad) := by
  refine ec_of (cc := cX6_edge) (maxL := 3) (ret := (some .boolean)) (by decide) rfl (Nat.le_of_ble_eq_true rfl) ?_
  intro p e s m args below meth c ls hx hb hr hts hown hlk hml hP hK hN hl
  have hown : s.vm.findClass RX6 = some m.cls := hown
  have hl : lv_has ls 3 [(0, .ref (ad 11)), (1, .int kd), (2, .int z)] := hl
  have hS : va_S (eA ad) s.heap s.heap [] := va_S.rf
  have hD : va_D (eA ad) (cw ad cI cZ cJ n g w P gm wm gs wz gb go gp gj wb wl wk wo fa mn mg mw mP o) := eD_of hJ rfl
  refine lv_aload_n hx hb dX6_edge_0 rfl (lv_at hl 0 rfl) ?_
  refine lv_iconst (v := 0) hx hb dX6_edge_1 (by decide) ?_
  refine va_put (D := D) (ci := 5) (v := .int 0) (ty := .int) (C := RX6) (T := TX6) (N := 5) hx hb hts (fun w h => List.mem_cons_of_mem _ (inX6 w h)) tyX6 tyX6_ok nmX6 hown hK hP hD hS 11 rfl rfl 0 (by decide) (eT_h hts tw367) (fun _ h9 => h9) rfl (by decide +kernel) rfl rfl (Nat.le_of_ble_eq_true rfl) dX6_edge_2 (fun H locs hP hD hS => ?_)
  have hP : va_P D vwCl (cw ad cI cZ cJ n g w P gm wm gs wz gb go gp gj wb wl wk wo 0 mn mg mw mP o) H := hP
  have hD : va_D (eA ad) (cw ad cI cZ cJ n g w P gm wm gs wz gb go gp gj wb wl wk wo 0 mn mg mw mP o) := hD
  refine lv_aload_n hx hb dX6_edge_5 rfl (lv_at hl 0 rfl) ?_
  refine lv_iload_n hx hb dX6_edge_6 rfl (lv_at hl 1 rfl) ?_
  refine lv_iload_n hx hb dX6_edge_7 rfl (lv_at hl 2 rfl) ?_
  refine er_V (own := RX6) (C := RX6) (b := (ad 11)) (rest := []) hx hb hml hown hts hl.1 (k_X6_bad l D cI cZ cJ (ad 11) (ad 12) (ad 13) (ad 14) 0 mn mg mw mP kd z) tw410 tw7 tw407 tw409 ts_X6_bad yd_X6_bad rfl rfl ⟨Nat.le_of_ble_eq_true rfl, Nat.le_of_ble_eq_true rfl⟩ (hP.sub [11, 12, 13, 14] rfl) hK hP (q0 := 11) rfl rfl rfl rfl (Nat.le_of_ble_eq_true rfl) ⟨Nat.zero_le _, Nat.zero_le _⟩ dX6_edge_8 ?_
  refine ef_if_eq (tgt := 30) hx hb dX6_edge_11 (by decide) (fun h1 => ?_) (fun h1 => ?_)
  · skip
    exact absurd (em_bad_f h1) hbad
  · skip
    refine lv_aload_n hx hb dX6_edge_14 rfl (lv_at hl 0 rfl) ?_
    refine lv_iconst (v := 1) hx hb dX6_edge_15 (by decide) ?_
    refine ec_V (own := RX6) (C := RX6) (b := (ad 11)) (rest := []) hx hb hml hown hts hl.1 (c_X6_fail l D cI cZ cJ ad hJ n g w P gm wm gs wz gb go gp gj wb wl wk wo 0 mn mg mw mP o 1) tw394 tw7 tw391 tw393 ts_X6_fail yd_X6_fail rfl rfl ⟨Nat.le_of_ble_eq_true rfl, Nat.le_of_ble_eq_true rfl⟩ hP hK hN hP (q0 := 11) rfl rfl rfl rfl (Nat.le_of_ble_eq_true rfl) ⟨Nat.zero_le _, Nat.zero_le _⟩ hS (fun _ h9 => h9) dX6_edge_16 (fun v9 W9 H locs hF hP hS hz9 hk9 => ?_)
    obtain ⟨rfl, rfl⟩ := hF
    have hD : va_D (eA ad) (cw ad cI cZ cJ n g w P gm wm gs wz gb go gp gj wb wl wk wo 1 mn mg mw mP o) := eD_of hJ rfl
    refine W.eq (g2 := F0 m 19 ls [.int 0]) rfl ?_
    refine lv_if_le (tgt := 26) hx hb dX6_edge_19 (by decide) (fun h2 => ?_) (fun h2 => ?_)
    · skip
      refine lv_iconst (v := 0) hx hb dX6_edge_26 (by decide) ?_
      refine lv_goto (tgt := 36) hx hb dX6_edge_27 (by decide) ?_
      refine ef_eqi (y := ef_b false) (by decide) ?_
      exact ec_zret hx hb hr hlk hP hS ⟨rfl, rfl⟩ dX6_edge_36
    · skip
      exact absurd (by decide) h2

set_option maxHeartbeats 4000000 in
set_option maxRecDepth 100000 in
theorem c_X6_next_f (l : Launch) (D : va_G) (cI cZ cJ : ClassId) (ad : Nat → Nat) (hJ : eJ ad) (n : Nat) (g : Nat → Int32) (w : Nat → Int32) (P : Nat → Bool) (gm : Nat → Bool) (wm : Nat → Bool) (gs : Bool) (wz : Bool) (gb : Int32) (go : Bool) (gp : Bool) (gj : Bool) (wb : Int32) (wl : Int32) (wk : Int32) (wo : Bool) (fa : Int32) (mn : Nat) (mg : Nat → Int32) (mw : Nat → Int32) (mP : Nat → Bool) (o : Nat → Int64) (kd : Int32) (i : Nat) (hk1 : ei_ok kd 1) (hn : mn ≤ 1000) (hi : i ≤ mn) (hw : ∀ j, mw j ≠ -1) : ec_M l yX6_next (Cond.code yX6_next cX6_next 6 (some .int) :: eT) ({ frames := 5, cells := 0, slots := 0, locals := 118 }) D (eTy cI cZ cJ) [.ref (ad 11), .int kd, .int (nI i), .int (ef_b false)] (cw ad cI cZ cJ n g w P gm wm gs wz gb go gp gj wb wl wk wo fa mn mg mw mP o) (ed (some (.int (es_fb (eb_k kd mg mw mP mn) (mn - i) (i + 1)))) (cw ad cI cZ cJ n g w P gm wm gs wz gb go gp gj wb wl wk wo 0 mn mg mw mP o)) (eA ad) := by
  refine ec_of (cc := cX6_next) (maxL := 6) (ret := (some .int)) (by decide) rfl (Nat.le_of_ble_eq_true rfl) ?_
  intro p e s m args below meth c ls hx hb hr hts hown hlk hml hP hK hN hl
  have hown : s.vm.findClass RX6 = some m.cls := hown
  have hl : lv_has ls 6 [(0, .ref (ad 11)), (1, .int kd), (2, .int (nI i)), (3, .int (ef_b false))] := hl
  have L37 : ∀ (r : Nat) (k : Nat) (ls : Array Slot) (H : Heap) (locs : List Loc), lv_has ls 6 [(5, .int (nI k)), (4, .int 1), (0, .ref (ad 11)), (1, .int kd)] → k ≤ mn + 1 → es_fb (eb_k kd mg mw mP mn) (mn - i) (i + 1) = es_fb (eb_k kd mg mw mP mn) (mn + 1 - k) k → va_P D vwCl (cw ad cI cZ cJ n g w P gm wm gs wz gb go gp gj wb wl wk wo 0 mn mg mw mP o) H → va_S (eA ad) s.heap H locs → mn + 1 - k < r → W p l e ({ frames := 5, cells := 0, slots := 0, locals := 118 }) s m args below meth c H locs 0 0 (MQ below (ec_Q D (ed (some (.int (es_fb (eb_k kd mg mw mP mn) (mn - i) (i + 1)))) (cw ad cI cZ cJ n g w P gm wm gs wz gb go gp gj wb wl wk wo 0 mn mg mw mP o)) (eA ad)) args s 0 0 (eA ad)) (F0 m 37 ls []) := by
    intro r
    induction r with
    | zero => intro k ls H locs hl hk he hP hS hμ; exact absurd hμ (Nat.not_lt_zero _)
    | succ r ih =>
      intro k ls H locs hl hk he hP hS hμ
      have hD : va_D (eA ad) (cw ad cI cZ cJ n g w P gm wm gs wz gb go gp gj wb wl wk wo 0 mn mg mw mP o) := eD_of hJ rfl
      refine lv_iload hx hb dX6_next_37 (lv_at hl 0 rfl) ?_
      refine lv_if_lt (tgt := 74) hx hb dX6_next_39 (by decide) (fun h1 => ?_) (fun h1 => ?_)
      · skip
        exact absurd h1 (nI_pos (by omega))
      · skip
        refine lv_iload hx hb dX6_next_42 (lv_at hl 0 rfl) ?_
        refine lv_aload_n hx hb dX6_next_44 rfl (lv_at hl 2 rfl) ?_
        refine va_get (D := D) (ci := 5) (v := .int (nI mn)) (C := RX6) (T := TX6) (N := 5) hx hb hts (fun w h => List.mem_cons_of_mem _ (inX6 w h)) hown hK hP 11 rfl rfl 1 (by decide) (eT_h hts tw368) (fun _ h9 => h9) rfl dX6_next_45 ?_
        refine lv_icmp_gt (tgt := 74) hx hb dX6_next_48 (by decide) (fun h2 => ?_) (fun h2 => ?_)
        · skip
          have h2 : mn < k := (nI_ltI (a := mn) (b := k) (by omega) (by omega)).mp h2
          refine lv_iconst (v := (-1)) hx hb dX6_next_74 (by decide) ?_
          refine ef_eqi (y := es_fb (eb_k kd mg mw mP mn) (mn - i) (i + 1)) (by rw [he, show mn + 1 - k = 0 by omega]; rfl) ?_
          exact ec_iret hx hb hr hlk hP hS ⟨rfl, rfl⟩ dX6_next_75
        · skip
          have h2 : ¬ (mn < k) := fun q9 => h2 ((nI_ltI (a := mn) (b := k) (by omega) (by omega)).mpr q9)
          refine lv_aload_n hx hb dX6_next_51 rfl (lv_at hl 2 rfl) ?_
          refine lv_iload_n hx hb dX6_next_52 rfl (lv_at hl 3 rfl) ?_
          refine lv_iload hx hb dX6_next_53 (lv_at hl 0 rfl) ?_
          refine er_V (own := RX6) (C := RX6) (b := (ad 11)) (rest := []) hx hb hml hown hts hl.1 (k_X6_boundary l D cI cZ cJ (ad 11) (ad 12) (ad 13) (ad 14) 0 mn mg mw mP kd k hn (by omega) hw) tw414 tw7 tw411 tw413 ts_X6_boundary yd_X6_boundary rfl rfl ⟨Nat.le_of_ble_eq_true rfl, Nat.le_of_ble_eq_true rfl⟩ (hP.sub [11, 12, 13, 14] rfl) hK hP (q0 := 11) rfl rfl rfl rfl (Nat.le_of_ble_eq_true rfl) ⟨Nat.zero_le _, Nat.zero_le _⟩ dX6_next_55 ?_
          refine ef_if_eq (tgt := 64) hx hb dX6_next_58 (by decide) (fun h3 => ?_) (fun h3 => ?_)
          · skip
            refine lv_iload hx hb dX6_next_64 (lv_at hl 0 rfl) ?_
            refine lv_iload hx hb dX6_next_66 (lv_at hl 1 rfl) ?_
            refine lv_iadd hx hb dX6_next_68 ?_
            refine ef_eqi (y := nI (k + 1)) (nI_add k 1) ?_
            refine lv_istore (lv' := [(5, .int (nI (k + 1))), (4, .int 1), (0, .ref (ad 11)), (1, .int kd)]) hx hb dX6_next_69 hl (Nat.le_of_ble_eq_true rfl) rfl (fun ls hl => ?_)
            refine lv_goto (tgt := 37) hx hb dX6_next_71 (by decide) ?_
            exact ih (k + 1) ls H locs hl (by omega) (by rw [he, show mn + 1 - k = (mn + 1 - (k + 1)) + 1 by omega]; simp [es_fb, h3]) hP hS (by omega)
          · skip
            refine lv_iload hx hb dX6_next_61 (lv_at hl 0 rfl) ?_
            refine ef_eqi (y := es_fb (eb_k kd mg mw mP mn) (mn - i) (i + 1)) (by rw [he, show mn + 1 - k = (mn - k) + 1 by omega]; simp [es_fb, h3]) ?_
            exact ec_iret hx hb hr hlk hP hS ⟨rfl, rfl⟩ dX6_next_63
  have hS : va_S (eA ad) s.heap s.heap [] := va_S.rf
  have hD : va_D (eA ad) (cw ad cI cZ cJ n g w P gm wm gs wz gb go gp gj wb wl wk wo fa mn mg mw mP o) := eD_of hJ rfl
  refine lv_aload_n hx hb dX6_next_0 rfl (lv_at hl 0 rfl) ?_
  refine lv_iconst (v := 0) hx hb dX6_next_1 (by decide) ?_
  refine va_put (D := D) (ci := 5) (v := .int 0) (ty := .int) (C := RX6) (T := TX6) (N := 5) hx hb hts (fun w h => List.mem_cons_of_mem _ (inX6 w h)) tyX6 tyX6_ok nmX6 hown hK hP hD hS 11 rfl rfl 0 (by decide) (eT_h hts tw367) (fun _ h9 => h9) rfl (by decide +kernel) rfl rfl (Nat.le_of_ble_eq_true rfl) dX6_next_2 (fun H locs hP hD hS => ?_)
  have hP : va_P D vwCl (cw ad cI cZ cJ n g w P gm wm gs wz gb go gp gj wb wl wk wo 0 mn mg mw mP o) H := hP
  have hD : va_D (eA ad) (cw ad cI cZ cJ n g w P gm wm gs wz gb go gp gj wb wl wk wo 0 mn mg mw mP o) := hD
  refine lv_aload_n hx hb dX6_next_5 rfl (lv_at hl 0 rfl) ?_
  refine lv_iload_n hx hb dX6_next_6 rfl (lv_at hl 1 rfl) ?_
  refine lv_iload_n hx hb dX6_next_7 rfl (lv_at hl 2 rfl) ?_
  refine er_V (own := RX6) (C := RX6) (b := (ad 11)) (rest := []) hx hb hml hown hts hl.1 (k_X6_bad l D cI cZ cJ (ad 11) (ad 12) (ad 13) (ad 14) 0 mn mg mw mP kd (nI i)) tw410 tw7 tw407 tw409 ts_X6_bad yd_X6_bad rfl rfl ⟨Nat.le_of_ble_eq_true rfl, Nat.le_of_ble_eq_true rfl⟩ (hP.sub [11, 12, 13, 14] rfl) hK hP (q0 := 11) rfl rfl rfl rfl (Nat.le_of_ble_eq_true rfl) ⟨Nat.zero_le _, Nat.zero_le _⟩ dX6_next_8 ?_
  refine ef_if_eq (tgt := 20) hx hb dX6_next_11 (by decide) (fun h4 => ?_) (fun h4 => ?_)
  · skip
    refine lv_iload_n hx hb dX6_next_20 rfl (lv_at hl 3 rfl) ?_
    refine ef_if_eq (tgt := 28) hx hb dX6_next_21 (by decide) (fun h5 => ?_) (fun h5 => ?_)
    · skip
      refine lv_iconst (v := 1) hx hb dX6_next_28 (by decide) ?_
      refine lv_istore (lv' := [(4, .int 1), (0, .ref (ad 11)), (1, .int kd), (2, .int (nI i)), (3, .int (ef_b false))]) hx hb dX6_next_29 hl (Nat.le_of_ble_eq_true rfl) rfl (fun ls hl => ?_)
      refine lv_iload_n hx hb dX6_next_31 rfl (lv_at hl 3 rfl) ?_
      refine lv_iload hx hb dX6_next_32 (lv_at hl 0 rfl) ?_
      refine lv_iadd hx hb dX6_next_34 ?_
      refine ef_eqi (y := nI (i + 1)) (nI_add i 1) ?_
      refine lv_istore (lv' := [(5, .int (nI (i + 1))), (4, .int 1), (0, .ref (ad 11)), (1, .int kd), (2, .int (nI i)), (3, .int (ef_b false))]) hx hb dX6_next_35 hl (Nat.le_of_ble_eq_true rfl) rfl (fun ls hl => ?_)
      exact L37 _ (i + 1) ls H locs (lv_sub hl [0, 1, 2, 3] rfl) (by omega) (by rw [show mn + 1 - (i + 1) = mn - i by omega]) hP hS (Nat.lt_succ_self _)
    · skip
      exact Bool.noConfusion h5
  · skip
    exact absurd ⟨hk1, ei_ok_n hi hn⟩ (em_bad_t h4)

set_option maxHeartbeats 4000000 in
set_option maxRecDepth 100000 in
theorem c_X6_next_t (l : Launch) (D : va_G) (cI cZ cJ : ClassId) (ad : Nat → Nat) (hJ : eJ ad) (n : Nat) (g : Nat → Int32) (w : Nat → Int32) (P : Nat → Bool) (gm : Nat → Bool) (wm : Nat → Bool) (gs : Bool) (wz : Bool) (gb : Int32) (go : Bool) (gp : Bool) (gj : Bool) (wb : Int32) (wl : Int32) (wk : Int32) (wo : Bool) (fa : Int32) (mn : Nat) (mg : Nat → Int32) (mw : Nat → Int32) (mP : Nat → Bool) (o : Nat → Int64) (kd : Int32) (i : Nat) (hk1 : ei_ok kd 1) (hn : mn ≤ 1000) (hi : i ≤ mn) (hw : ∀ j, mw j ≠ -1) : ec_M l yX6_next (Cond.code yX6_next cX6_next 6 (some .int) :: eT) ({ frames := 5, cells := 0, slots := 0, locals := 118 }) D (eTy cI cZ cJ) [.ref (ad 11), .int kd, .int (nI i), .int (ef_b true)] (cw ad cI cZ cJ n g w P gm wm gs wz gb go gp gj wb wl wk wo fa mn mg mw mP o) (ed (some (.int (es_lb (eb_k kd mg mw mP mn) i))) (cw ad cI cZ cJ n g w P gm wm gs wz gb go gp gj wb wl wk wo 0 mn mg mw mP o)) (eA ad) := by
  refine ec_of (cc := cX6_next) (maxL := 6) (ret := (some .int)) (by decide) rfl (Nat.le_of_ble_eq_true rfl) ?_
  intro p e s m args below meth c ls hx hb hr hts hown hlk hml hP hK hN hl
  have hown : s.vm.findClass RX6 = some m.cls := hown
  have hl : lv_has ls 6 [(0, .ref (ad 11)), (1, .int kd), (2, .int (nI i)), (3, .int (ef_b true))] := hl
  have L37 : ∀ (r : Nat) (k : Nat) (ls : Array Slot) (H : Heap) (locs : List Loc), lv_has ls 6 [(5, .int (nI k + (-1))), (4, .int (-1)), (0, .ref (ad 11)), (1, .int kd)] → k ≤ i → es_lb (eb_k kd mg mw mP mn) i = es_lb (eb_k kd mg mw mP mn) k → va_P D vwCl (cw ad cI cZ cJ n g w P gm wm gs wz gb go gp gj wb wl wk wo 0 mn mg mw mP o) H → va_S (eA ad) s.heap H locs → k < r → W p l e ({ frames := 5, cells := 0, slots := 0, locals := 118 }) s m args below meth c H locs 0 0 (MQ below (ec_Q D (ed (some (.int (es_lb (eb_k kd mg mw mP mn) i))) (cw ad cI cZ cJ n g w P gm wm gs wz gb go gp gj wb wl wk wo 0 mn mg mw mP o)) (eA ad)) args s 0 0 (eA ad)) (F0 m 37 ls []) := by
    intro r
    induction r with
    | zero => intro k ls H locs hl hk he hP hS hμ; exact absurd hμ (Nat.not_lt_zero _)
    | succ r ih =>
      intro k ls H locs hl hk he hP hS hμ
      have hD : va_D (eA ad) (cw ad cI cZ cJ n g w P gm wm gs wz gb go gp gj wb wl wk wo 0 mn mg mw mP o) := eD_of hJ rfl
      rcases k with _ | k
      · skip
        refine lv_iload hx hb dX6_next_37 (lv_at hl 0 rfl) ?_
        refine lv_if_lt (tgt := 74) hx hb dX6_next_39 (by decide) (fun h1 => ?_) (fun h1 => ?_)
        · skip
          refine lv_iconst (v := (-1)) hx hb dX6_next_74 (by decide) ?_
          refine ef_eqi (y := es_lb (eb_k kd mg mw mP mn) i) (by rw [he]; rfl) ?_
          exact ec_iret hx hb hr hlk hP hS ⟨rfl, rfl⟩ dX6_next_75
        · skip
          exact absurd (by decide) h1
      · skip
        have hl : lv_has ls 6 [(5, .int (nI k)), (4, .int (-1)), (0, .ref (ad 11)), (1, .int kd)] := by rw [← pk_m1 k]; exact hl
        refine lv_iload hx hb dX6_next_37 (lv_at hl 0 rfl) ?_
        refine lv_if_lt (tgt := 74) hx hb dX6_next_39 (by decide) (fun h2 => ?_) (fun h2 => ?_)
        · skip
          exact absurd h2 (nI_pos (by omega))
        · skip
          refine lv_iload hx hb dX6_next_42 (lv_at hl 0 rfl) ?_
          refine lv_aload_n hx hb dX6_next_44 rfl (lv_at hl 2 rfl) ?_
          refine va_get (D := D) (ci := 5) (v := .int (nI mn)) (C := RX6) (T := TX6) (N := 5) hx hb hts (fun w h => List.mem_cons_of_mem _ (inX6 w h)) hown hK hP 11 rfl rfl 1 (by decide) (eT_h hts tw368) (fun _ h9 => h9) rfl dX6_next_45 ?_
          refine lv_icmp_gt (tgt := 74) hx hb dX6_next_48 (by decide) (fun h3 => ?_) (fun h3 => ?_)
          · skip
            exact absurd ((nI_ltI (a := mn) (b := k) (by omega) (by omega)).mp h3) (by omega)
          · skip
            refine lv_aload_n hx hb dX6_next_51 rfl (lv_at hl 2 rfl) ?_
            refine lv_iload_n hx hb dX6_next_52 rfl (lv_at hl 3 rfl) ?_
            refine lv_iload hx hb dX6_next_53 (lv_at hl 0 rfl) ?_
            refine er_V (own := RX6) (C := RX6) (b := (ad 11)) (rest := []) hx hb hml hown hts hl.1 (k_X6_boundary l D cI cZ cJ (ad 11) (ad 12) (ad 13) (ad 14) 0 mn mg mw mP kd k hn (by omega) hw) tw414 tw7 tw411 tw413 ts_X6_boundary yd_X6_boundary rfl rfl ⟨Nat.le_of_ble_eq_true rfl, Nat.le_of_ble_eq_true rfl⟩ (hP.sub [11, 12, 13, 14] rfl) hK hP (q0 := 11) rfl rfl rfl rfl (Nat.le_of_ble_eq_true rfl) ⟨Nat.zero_le _, Nat.zero_le _⟩ dX6_next_55 ?_
            refine ef_if_eq (tgt := 64) hx hb dX6_next_58 (by decide) (fun h4 => ?_) (fun h4 => ?_)
            · skip
              refine lv_iload hx hb dX6_next_64 (lv_at hl 0 rfl) ?_
              refine lv_iload hx hb dX6_next_66 (lv_at hl 1 rfl) ?_
              refine lv_iadd hx hb dX6_next_68 ?_
              refine lv_istore (lv' := [(5, .int ((nI k) + (-1))), (4, .int (-1)), (0, .ref (ad 11)), (1, .int kd)]) hx hb dX6_next_69 hl (Nat.le_of_ble_eq_true rfl) rfl (fun ls hl => ?_)
              refine lv_goto (tgt := 37) hx hb dX6_next_71 (by decide) ?_
              exact ih k ls H locs hl (by omega) (by rw [he]; simp [es_lb, h4]) hP hS (by omega)
            · skip
              refine lv_iload hx hb dX6_next_61 (lv_at hl 0 rfl) ?_
              refine ef_eqi (y := es_lb (eb_k kd mg mw mP mn) i) (by rw [he]; simp [es_lb, h4]) ?_
              exact ec_iret hx hb hr hlk hP hS ⟨rfl, rfl⟩ dX6_next_63
  have hS : va_S (eA ad) s.heap s.heap [] := va_S.rf
  have hD : va_D (eA ad) (cw ad cI cZ cJ n g w P gm wm gs wz gb go gp gj wb wl wk wo fa mn mg mw mP o) := eD_of hJ rfl
  refine lv_aload_n hx hb dX6_next_0 rfl (lv_at hl 0 rfl) ?_
  refine lv_iconst (v := 0) hx hb dX6_next_1 (by decide) ?_
  refine va_put (D := D) (ci := 5) (v := .int 0) (ty := .int) (C := RX6) (T := TX6) (N := 5) hx hb hts (fun w h => List.mem_cons_of_mem _ (inX6 w h)) tyX6 tyX6_ok nmX6 hown hK hP hD hS 11 rfl rfl 0 (by decide) (eT_h hts tw367) (fun _ h9 => h9) rfl (by decide +kernel) rfl rfl (Nat.le_of_ble_eq_true rfl) dX6_next_2 (fun H locs hP hD hS => ?_)
  have hP : va_P D vwCl (cw ad cI cZ cJ n g w P gm wm gs wz gb go gp gj wb wl wk wo 0 mn mg mw mP o) H := hP
  have hD : va_D (eA ad) (cw ad cI cZ cJ n g w P gm wm gs wz gb go gp gj wb wl wk wo 0 mn mg mw mP o) := hD
  refine lv_aload_n hx hb dX6_next_5 rfl (lv_at hl 0 rfl) ?_
  refine lv_iload_n hx hb dX6_next_6 rfl (lv_at hl 1 rfl) ?_
  refine lv_iload_n hx hb dX6_next_7 rfl (lv_at hl 2 rfl) ?_
  refine er_V (own := RX6) (C := RX6) (b := (ad 11)) (rest := []) hx hb hml hown hts hl.1 (k_X6_bad l D cI cZ cJ (ad 11) (ad 12) (ad 13) (ad 14) 0 mn mg mw mP kd (nI i)) tw410 tw7 tw407 tw409 ts_X6_bad yd_X6_bad rfl rfl ⟨Nat.le_of_ble_eq_true rfl, Nat.le_of_ble_eq_true rfl⟩ (hP.sub [11, 12, 13, 14] rfl) hK hP (q0 := 11) rfl rfl rfl rfl (Nat.le_of_ble_eq_true rfl) ⟨Nat.zero_le _, Nat.zero_le _⟩ dX6_next_8 ?_
  refine ef_if_eq (tgt := 20) hx hb dX6_next_11 (by decide) (fun h5 => ?_) (fun h5 => ?_)
  · skip
    refine lv_iload_n hx hb dX6_next_20 rfl (lv_at hl 3 rfl) ?_
    refine ef_if_eq (tgt := 28) hx hb dX6_next_21 (by decide) (fun h6 => ?_) (fun h6 => ?_)
    · skip
      exact Bool.noConfusion h6
    · skip
      refine lv_iconst (v := (-1)) hx hb dX6_next_24 (by decide) ?_
      refine lv_goto (tgt := 29) hx hb dX6_next_25 (by decide) ?_
      refine lv_istore (lv' := [(4, .int (-1)), (0, .ref (ad 11)), (1, .int kd), (2, .int (nI i)), (3, .int (ef_b true))]) hx hb dX6_next_29 hl (Nat.le_of_ble_eq_true rfl) rfl (fun ls hl => ?_)
      refine lv_iload_n hx hb dX6_next_31 rfl (lv_at hl 3 rfl) ?_
      refine lv_iload hx hb dX6_next_32 (lv_at hl 0 rfl) ?_
      refine lv_iadd hx hb dX6_next_34 ?_
      refine lv_istore (lv' := [(5, .int ((nI i) + (-1))), (4, .int (-1)), (0, .ref (ad 11)), (1, .int kd), (2, .int (nI i)), (3, .int (ef_b true))]) hx hb dX6_next_35 hl (Nat.le_of_ble_eq_true rfl) rfl (fun ls hl => ?_)
      exact L37 _ i ls H locs (lv_sub hl [0, 1, 2, 3] rfl) (Nat.le_refl _) rfl hP hS (Nat.lt_succ_self _)
  · skip
    exact absurd ⟨hk1, ei_ok_n hi hn⟩ (em_bad_t h5)

set_option maxHeartbeats 4000000 in
set_option maxRecDepth 100000 in
theorem c_X6_next_bad (l : Launch) (D : va_G) (cI cZ cJ : ClassId) (ad : Nat → Nat) (hJ : eJ ad) (n : Nat) (g : Nat → Int32) (w : Nat → Int32) (P : Nat → Bool) (gm : Nat → Bool) (wm : Nat → Bool) (gs : Bool) (wz : Bool) (gb : Int32) (go : Bool) (gp : Bool) (gj : Bool) (wb : Int32) (wl : Int32) (wk : Int32) (wo : Bool) (fa : Int32) (mn : Nat) (mg : Nat → Int32) (mw : Nat → Int32) (mP : Nat → Bool) (o : Nat → Int64) (kd z : Int32) (b : Bool) (hbad : ¬ (ei_ok kd 1 ∧ ei_ok z (nI mn))) : ec_M l yX6_next (Cond.code yX6_next cX6_next 6 (some .int) :: eT) ({ frames := 1, cells := 0, slots := 0, locals := 22 }) D (eTy cI cZ cJ) [.ref (ad 11), .int kd, .int z, .int (ef_b b)] (cw ad cI cZ cJ n g w P gm wm gs wz gb go gp gj wb wl wk wo fa mn mg mw mP o) (ed (some (.int 0)) (cw ad cI cZ cJ n g w P gm wm gs wz gb go gp gj wb wl wk wo 1 mn mg mw mP o)) (eA ad) := by
  refine ec_of (cc := cX6_next) (maxL := 6) (ret := (some .int)) (by decide) rfl (Nat.le_of_ble_eq_true rfl) ?_
  intro p e s m args below meth c ls hx hb hr hts hown hlk hml hP hK hN hl
  have hown : s.vm.findClass RX6 = some m.cls := hown
  have hl : lv_has ls 6 [(0, .ref (ad 11)), (1, .int kd), (2, .int z), (3, .int (ef_b b))] := hl
  have hS : va_S (eA ad) s.heap s.heap [] := va_S.rf
  have hD : va_D (eA ad) (cw ad cI cZ cJ n g w P gm wm gs wz gb go gp gj wb wl wk wo fa mn mg mw mP o) := eD_of hJ rfl
  refine lv_aload_n hx hb dX6_next_0 rfl (lv_at hl 0 rfl) ?_
  refine lv_iconst (v := 0) hx hb dX6_next_1 (by decide) ?_
  refine va_put (D := D) (ci := 5) (v := .int 0) (ty := .int) (C := RX6) (T := TX6) (N := 5) hx hb hts (fun w h => List.mem_cons_of_mem _ (inX6 w h)) tyX6 tyX6_ok nmX6 hown hK hP hD hS 11 rfl rfl 0 (by decide) (eT_h hts tw367) (fun _ h9 => h9) rfl (by decide +kernel) rfl rfl (Nat.le_of_ble_eq_true rfl) dX6_next_2 (fun H locs hP hD hS => ?_)
  have hP : va_P D vwCl (cw ad cI cZ cJ n g w P gm wm gs wz gb go gp gj wb wl wk wo 0 mn mg mw mP o) H := hP
  have hD : va_D (eA ad) (cw ad cI cZ cJ n g w P gm wm gs wz gb go gp gj wb wl wk wo 0 mn mg mw mP o) := hD
  refine lv_aload_n hx hb dX6_next_5 rfl (lv_at hl 0 rfl) ?_
  refine lv_iload_n hx hb dX6_next_6 rfl (lv_at hl 1 rfl) ?_
  refine lv_iload_n hx hb dX6_next_7 rfl (lv_at hl 2 rfl) ?_
  refine er_V (own := RX6) (C := RX6) (b := (ad 11)) (rest := []) hx hb hml hown hts hl.1 (k_X6_bad l D cI cZ cJ (ad 11) (ad 12) (ad 13) (ad 14) 0 mn mg mw mP kd z) tw410 tw7 tw407 tw409 ts_X6_bad yd_X6_bad rfl rfl ⟨Nat.le_of_ble_eq_true rfl, Nat.le_of_ble_eq_true rfl⟩ (hP.sub [11, 12, 13, 14] rfl) hK hP (q0 := 11) rfl rfl rfl rfl (Nat.le_of_ble_eq_true rfl) ⟨Nat.zero_le _, Nat.zero_le _⟩ dX6_next_8 ?_
  refine ef_if_eq (tgt := 20) hx hb dX6_next_11 (by decide) (fun h1 => ?_) (fun h1 => ?_)
  · skip
    exact absurd (em_bad_f h1) hbad
  · skip
    refine lv_aload_n hx hb dX6_next_14 rfl (lv_at hl 0 rfl) ?_
    refine lv_iconst (v := 1) hx hb dX6_next_15 (by decide) ?_
    refine ec_V (own := RX6) (C := RX6) (b := (ad 11)) (rest := []) hx hb hml hown hts hl.1 (c_X6_fail l D cI cZ cJ ad hJ n g w P gm wm gs wz gb go gp gj wb wl wk wo 0 mn mg mw mP o 1) tw394 tw7 tw391 tw393 ts_X6_fail yd_X6_fail rfl rfl ⟨Nat.le_of_ble_eq_true rfl, Nat.le_of_ble_eq_true rfl⟩ hP hK hN hP (q0 := 11) rfl rfl rfl rfl (Nat.le_of_ble_eq_true rfl) ⟨Nat.zero_le _, Nat.zero_le _⟩ hS (fun _ h9 => h9) dX6_next_16 (fun v9 W9 H locs hF hP hS hz9 hk9 => ?_)
    obtain ⟨rfl, rfl⟩ := hF
    have hD : va_D (eA ad) (cw ad cI cZ cJ n g w P gm wm gs wz gb go gp gj wb wl wk wo 1 mn mg mw mP o) := eD_of hJ rfl
    refine W.eq (g2 := F0 m 19 ls [.int 0]) rfl ?_
    exact ec_iret hx hb hr hlk hP hS ⟨rfl, rfl⟩ dX6_next_19

set_option maxHeartbeats 4000000 in
set_option maxRecDepth 100000 in
theorem c_X6_rank (l : Launch) (D : va_G) (cI cZ cJ : ClassId) (ad : Nat → Nat) (hJ : eJ ad) (n : Nat) (g : Nat → Int32) (w : Nat → Int32) (P : Nat → Bool) (gm : Nat → Bool) (wm : Nat → Bool) (gs : Bool) (wz : Bool) (gb : Int32) (go : Bool) (gp : Bool) (gj : Bool) (wb : Int32) (wl : Int32) (wk : Int32) (wo : Bool) (fa : Int32) (mn : Nat) (mg : Nat → Int32) (mw : Nat → Int32) (mP : Nat → Bool) (o : Nat → Int64) (kd : Int32) (i : Nat) (hk1 : ei_ok kd 1) (hn : mn ≤ 1000) (hi : i ≤ mn) (hw : ∀ j, mw j ≠ -1) : ec_M l yX6_rank (Cond.code yX6_rank cX6_rank 5 (some .int) :: eT) ({ frames := 5, cells := 0, slots := 0, locals := 118 }) D (eTy cI cZ cJ) [.ref (ad 11), .int kd, .int (nI i)] (cw ad cI cZ cJ n g w P gm wm gs wz gb go gp gj wb wl wk wo fa mn mg mw mP o) (ed (some (.int (nI (es_cu (eb_k kd mg mw mP mn) (i + 1))))) (cw ad cI cZ cJ n g w P gm wm gs wz gb go gp gj wb wl wk wo 0 mn mg mw mP o)) (eA ad) := by
  refine ec_of (cc := cX6_rank) (maxL := 5) (ret := (some .int)) (by decide) rfl (Nat.le_of_ble_eq_true rfl) ?_
  intro p e s m args below meth c ls hx hb hr hts hown hlk hml hP hK hN hl
  have hown : s.vm.findClass RX6 = some m.cls := hown
  have hl : lv_has ls 5 [(0, .ref (ad 11)), (1, .int kd), (2, .int (nI i))] := hl
  have L25 : ∀ (r : Nat) (k : Nat) (ls : Array Slot) (H : Heap) (locs : List Loc), lv_has ls 5 [(4, .int (nI k)), (3, .int (nI (es_cu (eb_k kd mg mw mP mn) k))), (0, .ref (ad 11)), (1, .int kd), (2, .int (nI i))] → k ≤ i + 1 → va_P D vwCl (cw ad cI cZ cJ n g w P gm wm gs wz gb go gp gj wb wl wk wo 0 mn mg mw mP o) H → va_S (eA ad) s.heap H locs → i + 1 - k < r → W p l e ({ frames := 5, cells := 0, slots := 0, locals := 118 }) s m args below meth c H locs 0 0 (MQ below (ec_Q D (ed (some (.int (nI (es_cu (eb_k kd mg mw mP mn) (i + 1))))) (cw ad cI cZ cJ n g w P gm wm gs wz gb go gp gj wb wl wk wo 0 mn mg mw mP o)) (eA ad)) args s 0 0 (eA ad)) (F0 m 25 ls []) := by
    intro r
    induction r with
    | zero => intro k ls H locs hl hk hP hS hμ; exact absurd hμ (Nat.not_lt_zero _)
    | succ r ih =>
      intro k ls H locs hl hk hP hS hμ
      have hD : va_D (eA ad) (cw ad cI cZ cJ n g w P gm wm gs wz gb go gp gj wb wl wk wo 0 mn mg mw mP o) := eD_of hJ rfl
      refine lv_iload hx hb dX6_rank_25 (lv_at hl 0 rfl) ?_
      refine lv_iload_n hx hb dX6_rank_27 rfl (lv_at hl 4 rfl) ?_
      refine lv_icmp_gt (tgt := 55) hx hb dX6_rank_28 (by decide) (fun h1 => ?_) (fun h1 => ?_)
      · skip
        have h1 : i < k := (nI_ltI (a := i) (b := k) (by omega) (by omega)).mp h1
        refine lv_iload_n hx hb dX6_rank_55 rfl (lv_at hl 1 rfl) ?_
        refine ef_eqi (y := nI (es_cu (eb_k kd mg mw mP mn) (i + 1))) (by rw [show k = i + 1 by omega]) ?_
        exact ec_iret hx hb hr hlk hP hS ⟨rfl, rfl⟩ dX6_rank_56
      · skip
        have h1 : ¬ (i < k) := fun q9 => h1 ((nI_ltI (a := i) (b := k) (by omega) (by omega)).mpr q9)
        refine lv_iload_n hx hb dX6_rank_31 rfl (lv_at hl 1 rfl) ?_
        refine lv_aload_n hx hb dX6_rank_32 rfl (lv_at hl 2 rfl) ?_
        refine lv_iload_n hx hb dX6_rank_33 rfl (lv_at hl 3 rfl) ?_
        refine lv_iload hx hb dX6_rank_34 (lv_at hl 0 rfl) ?_
        refine er_V (own := RX6) (C := RX6) (b := (ad 11)) (rest := [.int (nI (es_cu (eb_k kd mg mw mP mn) k))]) hx hb hml hown hts hl.1 (k_X6_boundary l D cI cZ cJ (ad 11) (ad 12) (ad 13) (ad 14) 0 mn mg mw mP kd k hn (by omega) hw) tw414 tw7 tw411 tw413 ts_X6_boundary yd_X6_boundary rfl rfl ⟨Nat.le_of_ble_eq_true rfl, Nat.le_of_ble_eq_true rfl⟩ (hP.sub [11, 12, 13, 14] rfl) hK hP (q0 := 11) rfl rfl rfl rfl (Nat.le_of_ble_eq_true rfl) ⟨Nat.zero_le _, Nat.zero_le _⟩ dX6_rank_36 ?_
        refine ef_if_eq (tgt := 46) hx hb dX6_rank_39 (by decide) (fun h2 => ?_) (fun h2 => ?_)
        · skip
          refine lv_iconst (v := 0) hx hb dX6_rank_46 (by decide) ?_
          refine lv_iadd hx hb dX6_rank_47 ?_
          refine ef_eqi (y := nI (es_cu (eb_k kd mg mw mP mn) k + 0)) (nI_add (es_cu (eb_k kd mg mw mP mn) k) 0) ?_
          refine lv_istore_n (lv' := [(3, .int (nI (es_cu (eb_k kd mg mw mP mn) k + 0))), (4, .int (nI k)), (0, .ref (ad 11)), (1, .int kd), (2, .int (nI i))]) hx hb dX6_rank_48 rfl hl (Nat.le_of_ble_eq_true rfl) rfl (fun ls hl => ?_)
          refine lv_iinc (k := 1) (v := nI (k + 1)) (lv' := [(4, .int (nI (k + 1))), (3, .int (nI (es_cu (eb_k kd mg mw mP mn) k + 0))), (0, .ref (ad 11)), (1, .int kd), (2, .int (nI i))]) hx hb dX6_rank_49 hl rfl (by rw [show Int32.ofInt 1 = 1 from by decide]; exact nI_1 _) (Nat.le_of_ble_eq_true rfl) rfl (fun ls hl => ?_)
          refine lv_goto (tgt := 25) hx hb dX6_rank_52 (by decide) ?_
          have hl : lv_has ls 5 [(4, .int (nI (k + 1))), (3, .int (nI (es_cu (eb_k kd mg mw mP mn) (k + 1)))), (0, .ref (ad 11)), (1, .int kd), (2, .int (nI i))] := by rw [show nI (es_cu (eb_k kd mg mw mP mn) (k + 1)) = nI (es_cu (eb_k kd mg mw mP mn) k + 0) from (by simp [es_cu, h2])]; exact hl
          exact ih (k + 1) ls H locs hl (by omega) hP hS (by omega)
        · skip
          refine lv_iconst (v := 1) hx hb dX6_rank_42 (by decide) ?_
          refine lv_goto (tgt := 47) hx hb dX6_rank_43 (by decide) ?_
          refine lv_iadd hx hb dX6_rank_47 ?_
          refine ef_eqi (y := nI (es_cu (eb_k kd mg mw mP mn) k + 1)) (nI_add (es_cu (eb_k kd mg mw mP mn) k) 1) ?_
          refine lv_istore_n (lv' := [(3, .int (nI (es_cu (eb_k kd mg mw mP mn) k + 1))), (4, .int (nI k)), (0, .ref (ad 11)), (1, .int kd), (2, .int (nI i))]) hx hb dX6_rank_48 rfl hl (Nat.le_of_ble_eq_true rfl) rfl (fun ls hl => ?_)
          refine lv_iinc (k := 1) (v := nI (k + 1)) (lv' := [(4, .int (nI (k + 1))), (3, .int (nI (es_cu (eb_k kd mg mw mP mn) k + 1))), (0, .ref (ad 11)), (1, .int kd), (2, .int (nI i))]) hx hb dX6_rank_49 hl rfl (by rw [show Int32.ofInt 1 = 1 from by decide]; exact nI_1 _) (Nat.le_of_ble_eq_true rfl) rfl (fun ls hl => ?_)
          refine lv_goto (tgt := 25) hx hb dX6_rank_52 (by decide) ?_
          have hl : lv_has ls 5 [(4, .int (nI (k + 1))), (3, .int (nI (es_cu (eb_k kd mg mw mP mn) (k + 1)))), (0, .ref (ad 11)), (1, .int kd), (2, .int (nI i))] := by rw [show nI (es_cu (eb_k kd mg mw mP mn) (k + 1)) = nI (es_cu (eb_k kd mg mw mP mn) k + 1) from (by simp [es_cu, h2])]; exact hl
          exact ih (k + 1) ls H locs hl (by omega) hP hS (by omega)
  have hS : va_S (eA ad) s.heap s.heap [] := va_S.rf
  have hD : va_D (eA ad) (cw ad cI cZ cJ n g w P gm wm gs wz gb go gp gj wb wl wk wo fa mn mg mw mP o) := eD_of hJ rfl
  refine lv_aload_n hx hb dX6_rank_0 rfl (lv_at hl 0 rfl) ?_
  refine lv_iconst (v := 0) hx hb dX6_rank_1 (by decide) ?_
  refine va_put (D := D) (ci := 5) (v := .int 0) (ty := .int) (C := RX6) (T := TX6) (N := 5) hx hb hts (fun w h => List.mem_cons_of_mem _ (inX6 w h)) tyX6 tyX6_ok nmX6 hown hK hP hD hS 11 rfl rfl 0 (by decide) (eT_h hts tw367) (fun _ h9 => h9) rfl (by decide +kernel) rfl rfl (Nat.le_of_ble_eq_true rfl) dX6_rank_2 (fun H locs hP hD hS => ?_)
  have hP : va_P D vwCl (cw ad cI cZ cJ n g w P gm wm gs wz gb go gp gj wb wl wk wo 0 mn mg mw mP o) H := hP
  have hD : va_D (eA ad) (cw ad cI cZ cJ n g w P gm wm gs wz gb go gp gj wb wl wk wo 0 mn mg mw mP o) := hD
  refine lv_aload_n hx hb dX6_rank_5 rfl (lv_at hl 0 rfl) ?_
  refine lv_iload_n hx hb dX6_rank_6 rfl (lv_at hl 1 rfl) ?_
  refine lv_iload_n hx hb dX6_rank_7 rfl (lv_at hl 2 rfl) ?_
  refine er_V (own := RX6) (C := RX6) (b := (ad 11)) (rest := []) hx hb hml hown hts hl.1 (k_X6_bad l D cI cZ cJ (ad 11) (ad 12) (ad 13) (ad 14) 0 mn mg mw mP kd (nI i)) tw410 tw7 tw407 tw409 ts_X6_bad yd_X6_bad rfl rfl ⟨Nat.le_of_ble_eq_true rfl, Nat.le_of_ble_eq_true rfl⟩ (hP.sub [11, 12, 13, 14] rfl) hK hP (q0 := 11) rfl rfl rfl rfl (Nat.le_of_ble_eq_true rfl) ⟨Nat.zero_le _, Nat.zero_le _⟩ dX6_rank_8 ?_
  refine ef_if_eq (tgt := 20) hx hb dX6_rank_11 (by decide) (fun h3 => ?_) (fun h3 => ?_)
  · skip
    refine lv_iconst (v := 0) hx hb dX6_rank_20 (by decide) ?_
    refine lv_istore_n (lv' := [(3, .int 0), (0, .ref (ad 11)), (1, .int kd), (2, .int (nI i))]) hx hb dX6_rank_21 rfl hl (Nat.le_of_ble_eq_true rfl) rfl (fun ls hl => ?_)
    refine lv_iconst (v := 0) hx hb dX6_rank_22 (by decide) ?_
    refine lv_istore (lv' := [(4, .int 0), (3, .int 0), (0, .ref (ad 11)), (1, .int kd), (2, .int (nI i))]) hx hb dX6_rank_23 hl (Nat.le_of_ble_eq_true rfl) rfl (fun ls hl => ?_)
    exact L25 _ 0 ls H locs hl (Nat.zero_le _) hP hS (Nat.lt_succ_self _)
  · skip
    exact absurd ⟨hk1, ei_ok_n hi hn⟩ (em_bad_t h3)

set_option maxHeartbeats 4000000 in
set_option maxRecDepth 100000 in
theorem c_X6_rank_bad (l : Launch) (D : va_G) (cI cZ cJ : ClassId) (ad : Nat → Nat) (hJ : eJ ad) (n : Nat) (g : Nat → Int32) (w : Nat → Int32) (P : Nat → Bool) (gm : Nat → Bool) (wm : Nat → Bool) (gs : Bool) (wz : Bool) (gb : Int32) (go : Bool) (gp : Bool) (gj : Bool) (wb : Int32) (wl : Int32) (wk : Int32) (wo : Bool) (fa : Int32) (mn : Nat) (mg : Nat → Int32) (mw : Nat → Int32) (mP : Nat → Bool) (o : Nat → Int64) (kd z : Int32) (hbad : ¬ (ei_ok kd 1 ∧ ei_ok z (nI mn))) : ec_M l yX6_rank (Cond.code yX6_rank cX6_rank 5 (some .int) :: eT) ({ frames := 1, cells := 0, slots := 0, locals := 22 }) D (eTy cI cZ cJ) [.ref (ad 11), .int kd, .int z] (cw ad cI cZ cJ n g w P gm wm gs wz gb go gp gj wb wl wk wo fa mn mg mw mP o) (ed (some (.int 0)) (cw ad cI cZ cJ n g w P gm wm gs wz gb go gp gj wb wl wk wo 1 mn mg mw mP o)) (eA ad) := by
  refine ec_of (cc := cX6_rank) (maxL := 5) (ret := (some .int)) (by decide) rfl (Nat.le_of_ble_eq_true rfl) ?_
  intro p e s m args below meth c ls hx hb hr hts hown hlk hml hP hK hN hl
  have hown : s.vm.findClass RX6 = some m.cls := hown
  have hl : lv_has ls 5 [(0, .ref (ad 11)), (1, .int kd), (2, .int z)] := hl
  have hS : va_S (eA ad) s.heap s.heap [] := va_S.rf
  have hD : va_D (eA ad) (cw ad cI cZ cJ n g w P gm wm gs wz gb go gp gj wb wl wk wo fa mn mg mw mP o) := eD_of hJ rfl
  refine lv_aload_n hx hb dX6_rank_0 rfl (lv_at hl 0 rfl) ?_
  refine lv_iconst (v := 0) hx hb dX6_rank_1 (by decide) ?_
  refine va_put (D := D) (ci := 5) (v := .int 0) (ty := .int) (C := RX6) (T := TX6) (N := 5) hx hb hts (fun w h => List.mem_cons_of_mem _ (inX6 w h)) tyX6 tyX6_ok nmX6 hown hK hP hD hS 11 rfl rfl 0 (by decide) (eT_h hts tw367) (fun _ h9 => h9) rfl (by decide +kernel) rfl rfl (Nat.le_of_ble_eq_true rfl) dX6_rank_2 (fun H locs hP hD hS => ?_)
  have hP : va_P D vwCl (cw ad cI cZ cJ n g w P gm wm gs wz gb go gp gj wb wl wk wo 0 mn mg mw mP o) H := hP
  have hD : va_D (eA ad) (cw ad cI cZ cJ n g w P gm wm gs wz gb go gp gj wb wl wk wo 0 mn mg mw mP o) := hD
  refine lv_aload_n hx hb dX6_rank_5 rfl (lv_at hl 0 rfl) ?_
  refine lv_iload_n hx hb dX6_rank_6 rfl (lv_at hl 1 rfl) ?_
  refine lv_iload_n hx hb dX6_rank_7 rfl (lv_at hl 2 rfl) ?_
  refine er_V (own := RX6) (C := RX6) (b := (ad 11)) (rest := []) hx hb hml hown hts hl.1 (k_X6_bad l D cI cZ cJ (ad 11) (ad 12) (ad 13) (ad 14) 0 mn mg mw mP kd z) tw410 tw7 tw407 tw409 ts_X6_bad yd_X6_bad rfl rfl ⟨Nat.le_of_ble_eq_true rfl, Nat.le_of_ble_eq_true rfl⟩ (hP.sub [11, 12, 13, 14] rfl) hK hP (q0 := 11) rfl rfl rfl rfl (Nat.le_of_ble_eq_true rfl) ⟨Nat.zero_le _, Nat.zero_le _⟩ dX6_rank_8 ?_
  refine ef_if_eq (tgt := 20) hx hb dX6_rank_11 (by decide) (fun h1 => ?_) (fun h1 => ?_)
  · skip
    exact absurd (em_bad_f h1) hbad
  · skip
    refine lv_aload_n hx hb dX6_rank_14 rfl (lv_at hl 0 rfl) ?_
    refine lv_iconst (v := 1) hx hb dX6_rank_15 (by decide) ?_
    refine ec_V (own := RX6) (C := RX6) (b := (ad 11)) (rest := []) hx hb hml hown hts hl.1 (c_X6_fail l D cI cZ cJ ad hJ n g w P gm wm gs wz gb go gp gj wb wl wk wo 0 mn mg mw mP o 1) tw394 tw7 tw391 tw393 ts_X6_fail yd_X6_fail rfl rfl ⟨Nat.le_of_ble_eq_true rfl, Nat.le_of_ble_eq_true rfl⟩ hP hK hN hP (q0 := 11) rfl rfl rfl rfl (Nat.le_of_ble_eq_true rfl) ⟨Nat.zero_le _, Nat.zero_le _⟩ hS (fun _ h9 => h9) dX6_rank_16 (fun v9 W9 H locs hF hP hS hz9 hk9 => ?_)
    obtain ⟨rfl, rfl⟩ := hF
    have hD : va_D (eA ad) (cw ad cI cZ cJ n g w P gm wm gs wz gb go gp gj wb wl wk wo 1 mn mg mw mP o) := eD_of hJ rfl
    refine W.eq (g2 := F0 m 19 ls [.int 0]) rfl ?_
    exact ec_iret hx hb hr hlk hP hS ⟨rfl, rfl⟩ dX6_rank_19

set_option maxHeartbeats 4000000 in
set_option maxRecDepth 100000 in
theorem c_X6_hash (l : Launch) (D : va_G) (cI cZ cJ : ClassId) (ad : Nat → Nat) (hJ : eJ ad) (n : Nat) (g : Nat → Int32) (w : Nat → Int32) (P : Nat → Bool) (gm : Nat → Bool) (wm : Nat → Bool) (gs : Bool) (wz : Bool) (gb : Int32) (go : Bool) (gp : Bool) (gj : Bool) (wb : Int32) (wl : Int32) (wk : Int32) (wo : Bool) (fa : Int32) (mn : Nat) (mg : Nat → Int32) (mw : Nat → Int32) (mP : Nat → Bool) (o : Nat → Int64) (kd : Int32) (hk1 : ei_ok kd 1) (hn : mn ≤ 1000) (hw : ∀ j, mw j ≠ -1) : ec_M l yX6_hash (Cond.code yX6_hash cX6_hash 4 (some .int) :: eT) ({ frames := 5, cells := 0, slots := 0, locals := 118 }) D (eTy cI cZ cJ) [.ref (ad 11), .int kd] (cw ad cI cZ cJ n g w P gm wm gs wz gb go gp gj wb wl wk wo fa mn mg mw mP o) (ed (some (.int (es_mx (eb_k kd mg mw mP mn) (mn + 1)))) (cw ad cI cZ cJ n g w P gm wm gs wz gb go gp gj wb wl wk wo 0 mn mg mw mP o)) (eA ad) := by
  refine ec_of (cc := cX6_hash) (maxL := 4) (ret := (some .int)) (by decide) rfl (Nat.le_of_ble_eq_true rfl) ?_
  intro p e s m args below meth c ls hx hb hr hts hown hlk hml hP hK hN hl
  have hown : s.vm.findClass RX6 = some m.cls := hown
  have hl : lv_has ls 4 [(0, .ref (ad 11)), (1, .int kd)] := hl
  have L24 : ∀ (r : Nat) (k : Nat) (ls : Array Slot) (H : Heap) (locs : List Loc), lv_has ls 4 [(3, .int (nI k)), (2, .int (es_mx (eb_k kd mg mw mP mn) k)), (0, .ref (ad 11)), (1, .int kd)] → k ≤ mn + 1 → va_P D vwCl (cw ad cI cZ cJ n g w P gm wm gs wz gb go gp gj wb wl wk wo 0 mn mg mw mP o) H → va_S (eA ad) s.heap H locs → mn + 1 - k < r → W p l e ({ frames := 5, cells := 0, slots := 0, locals := 118 }) s m args below meth c H locs 0 0 (MQ below (ec_Q D (ed (some (.int (es_mx (eb_k kd mg mw mP mn) (mn + 1)))) (cw ad cI cZ cJ n g w P gm wm gs wz gb go gp gj wb wl wk wo 0 mn mg mw mP o)) (eA ad)) args s 0 0 (eA ad)) (F0 m 24 ls []) := by
    intro r
    induction r with
    | zero => intro k ls H locs hl hk hP hS hμ; exact absurd hμ (Nat.not_lt_zero _)
    | succ r ih =>
      intro k ls H locs hl hk hP hS hμ
      have hD : va_D (eA ad) (cw ad cI cZ cJ n g w P gm wm gs wz gb go gp gj wb wl wk wo 0 mn mg mw mP o) := eD_of hJ rfl
      refine lv_iload_n hx hb dX6_hash_24 rfl (lv_at hl 0 rfl) ?_
      refine lv_aload_n hx hb dX6_hash_25 rfl (lv_at hl 2 rfl) ?_
      refine va_get (D := D) (ci := 5) (v := .int (nI mn)) (C := RX6) (T := TX6) (N := 5) hx hb hts (fun w h => List.mem_cons_of_mem _ (inX6 w h)) hown hK hP 11 rfl rfl 1 (by decide) (eT_h hts tw368) (fun _ h9 => h9) rfl dX6_hash_26 ?_
      refine lv_icmp_gt (tgt := 54) hx hb dX6_hash_29 (by decide) (fun h1 => ?_) (fun h1 => ?_)
      · skip
        have h1 : mn < k := (nI_ltI (a := mn) (b := k) (by omega) (by omega)).mp h1
        refine lv_iload_n hx hb dX6_hash_54 rfl (lv_at hl 1 rfl) ?_
        refine ef_eqi (y := es_mx (eb_k kd mg mw mP mn) (mn + 1)) (by rw [show k = mn + 1 by omega]) ?_
        exact ec_iret hx hb hr hlk hP hS ⟨rfl, rfl⟩ dX6_hash_55
      · skip
        have h1 : ¬ (mn < k) := fun q9 => h1 ((nI_ltI (a := mn) (b := k) (by omega) (by omega)).mpr q9)
        refine lv_aload_n hx hb dX6_hash_32 rfl (lv_at hl 2 rfl) ?_
        refine lv_iload_n hx hb dX6_hash_33 rfl (lv_at hl 3 rfl) ?_
        refine lv_iload_n hx hb dX6_hash_34 rfl (lv_at hl 0 rfl) ?_
        refine er_V (own := RX6) (C := RX6) (b := (ad 11)) (rest := []) hx hb hml hown hts hl.1 (k_X6_boundary l D cI cZ cJ (ad 11) (ad 12) (ad 13) (ad 14) 0 mn mg mw mP kd k hn (by omega) hw) tw414 tw7 tw411 tw413 ts_X6_boundary yd_X6_boundary rfl rfl ⟨Nat.le_of_ble_eq_true rfl, Nat.le_of_ble_eq_true rfl⟩ (hP.sub [11, 12, 13, 14] rfl) hK hP (q0 := 11) rfl rfl rfl rfl (Nat.le_of_ble_eq_true rfl) ⟨Nat.zero_le _, Nat.zero_le _⟩ dX6_hash_35 ?_
        refine ef_if_eq (tgt := 48) hx hb dX6_hash_38 (by decide) (fun h2 => ?_) (fun h2 => ?_)
        · skip
          refine lv_iinc (k := 0) (v := nI (k + 1)) (lv' := [(3, .int (nI (k + 1))), (2, .int (es_mx (eb_k kd mg mw mP mn) k)), (0, .ref (ad 11)), (1, .int kd)]) hx hb dX6_hash_48 hl rfl (by rw [show Int32.ofInt 1 = 1 from by decide]; exact nI_1 _) (Nat.le_of_ble_eq_true rfl) rfl (fun ls hl => ?_)
          refine lv_goto (tgt := 24) hx hb dX6_hash_51 (by decide) ?_
          have hl : lv_has ls 4 [(3, .int (nI (k + 1))), (2, .int (es_mx (eb_k kd mg mw mP mn) (k + 1))), (0, .ref (ad 11)), (1, .int kd)] := by rw [show es_mx (eb_k kd mg mw mP mn) (k + 1) = es_mx (eb_k kd mg mw mP mn) k from (by simp [es_mx, h2])]; exact hl
          exact ih (k + 1) ls H locs hl (by omega) hP hS (by omega)
        · skip
          refine lv_bipush (v := 31) hx hb dX6_hash_41 (by decide) ?_
          refine lv_iload_n hx hb dX6_hash_43 rfl (lv_at hl 1 rfl) ?_
          refine lv_imul hx hb dX6_hash_44 ?_
          refine lv_iload_n hx hb dX6_hash_45 rfl (lv_at hl 0 rfl) ?_
          refine lv_iadd hx hb dX6_hash_46 ?_
          refine lv_istore_n (lv' := [(2, .int ((31 * (es_mx (eb_k kd mg mw mP mn) k)) + (nI k))), (3, .int (nI k)), (0, .ref (ad 11)), (1, .int kd)]) hx hb dX6_hash_47 rfl hl (Nat.le_of_ble_eq_true rfl) rfl (fun ls hl => ?_)
          refine lv_iinc (k := 1) (v := nI (k + 1)) (lv' := [(3, .int (nI (k + 1))), (2, .int ((31 * (es_mx (eb_k kd mg mw mP mn) k)) + (nI k))), (0, .ref (ad 11)), (1, .int kd)]) hx hb dX6_hash_48 hl rfl (by rw [show Int32.ofInt 1 = 1 from by decide]; exact nI_1 _) (Nat.le_of_ble_eq_true rfl) rfl (fun ls hl => ?_)
          refine lv_goto (tgt := 24) hx hb dX6_hash_51 (by decide) ?_
          have hl : lv_has ls 4 [(3, .int (nI (k + 1))), (2, .int (es_mx (eb_k kd mg mw mP mn) (k + 1))), (0, .ref (ad 11)), (1, .int kd)] := by rw [show es_mx (eb_k kd mg mw mP mn) (k + 1) = (31 * (es_mx (eb_k kd mg mw mP mn) k)) + (nI k) from (by simp [es_mx, h2])]; exact hl
          exact ih (k + 1) ls H locs hl (by omega) hP hS (by omega)
  have hS : va_S (eA ad) s.heap s.heap [] := va_S.rf
  have hD : va_D (eA ad) (cw ad cI cZ cJ n g w P gm wm gs wz gb go gp gj wb wl wk wo fa mn mg mw mP o) := eD_of hJ rfl
  refine lv_aload_n hx hb dX6_hash_0 rfl (lv_at hl 0 rfl) ?_
  refine lv_iconst (v := 0) hx hb dX6_hash_1 (by decide) ?_
  refine va_put (D := D) (ci := 5) (v := .int 0) (ty := .int) (C := RX6) (T := TX6) (N := 5) hx hb hts (fun w h => List.mem_cons_of_mem _ (inX6 w h)) tyX6 tyX6_ok nmX6 hown hK hP hD hS 11 rfl rfl 0 (by decide) (eT_h hts tw367) (fun _ h9 => h9) rfl (by decide +kernel) rfl rfl (Nat.le_of_ble_eq_true rfl) dX6_hash_2 (fun H locs hP hD hS => ?_)
  have hP : va_P D vwCl (cw ad cI cZ cJ n g w P gm wm gs wz gb go gp gj wb wl wk wo 0 mn mg mw mP o) H := hP
  have hD : va_D (eA ad) (cw ad cI cZ cJ n g w P gm wm gs wz gb go gp gj wb wl wk wo 0 mn mg mw mP o) := hD
  refine lv_iload_n hx hb dX6_hash_5 rfl (lv_at hl 1 rfl) ?_
  refine lv_if_lt (tgt := 14) hx hb dX6_hash_6 (by decide) (fun h3 => ?_) (fun h3 => ?_)
  · skip
    exact absurd h3 hk1.1
  · skip
    refine lv_iload_n hx hb dX6_hash_9 rfl (lv_at hl 1 rfl) ?_
    refine lv_iconst (v := 1) hx hb dX6_hash_10 (by decide) ?_
    refine lv_icmp_le (tgt := 20) hx hb dX6_hash_11 (by decide) (fun h4 => ?_) (fun h4 => ?_)
    · skip
      refine lv_iconst (v := 1) hx hb dX6_hash_20 (by decide) ?_
      refine lv_istore_n (lv' := [(2, .int 1), (0, .ref (ad 11)), (1, .int kd)]) hx hb dX6_hash_21 rfl hl (Nat.le_of_ble_eq_true rfl) rfl (fun ls hl => ?_)
      refine lv_iconst (v := 0) hx hb dX6_hash_22 (by decide) ?_
      refine lv_istore_n (lv' := [(3, .int 0), (2, .int 1), (0, .ref (ad 11)), (1, .int kd)]) hx hb dX6_hash_23 rfl hl (Nat.le_of_ble_eq_true rfl) rfl (fun ls hl => ?_)
      exact L24 _ 0 ls H locs hl (Nat.zero_le _) hP hS (Nat.lt_succ_self _)
    · skip
      exact absurd hk1.2 h4

set_option maxHeartbeats 4000000 in
set_option maxRecDepth 100000 in
theorem c_X6_hash_bad (l : Launch) (D : va_G) (cI cZ cJ : ClassId) (ad : Nat → Nat) (hJ : eJ ad) (n : Nat) (g : Nat → Int32) (w : Nat → Int32) (P : Nat → Bool) (gm : Nat → Bool) (wm : Nat → Bool) (gs : Bool) (wz : Bool) (gb : Int32) (go : Bool) (gp : Bool) (gj : Bool) (wb : Int32) (wl : Int32) (wk : Int32) (wo : Bool) (fa : Int32) (mn : Nat) (mg : Nat → Int32) (mw : Nat → Int32) (mP : Nat → Bool) (o : Nat → Int64) (kd : Int32) (hbad : ¬ ei_ok kd 1) : ec_M l yX6_hash (Cond.code yX6_hash cX6_hash 4 (some .int) :: eT) ({ frames := 1, cells := 0, slots := 0, locals := 21 }) D (eTy cI cZ cJ) [.ref (ad 11), .int kd] (cw ad cI cZ cJ n g w P gm wm gs wz gb go gp gj wb wl wk wo fa mn mg mw mP o) (ed (some (.int 0)) (cw ad cI cZ cJ n g w P gm wm gs wz gb go gp gj wb wl wk wo 1 mn mg mw mP o)) (eA ad) := by
  refine ec_of (cc := cX6_hash) (maxL := 4) (ret := (some .int)) (by decide) rfl (Nat.le_of_ble_eq_true rfl) ?_
  intro p e s m args below meth c ls hx hb hr hts hown hlk hml hP hK hN hl
  have hown : s.vm.findClass RX6 = some m.cls := hown
  have hl : lv_has ls 4 [(0, .ref (ad 11)), (1, .int kd)] := hl
  have hS : va_S (eA ad) s.heap s.heap [] := va_S.rf
  have hD : va_D (eA ad) (cw ad cI cZ cJ n g w P gm wm gs wz gb go gp gj wb wl wk wo fa mn mg mw mP o) := eD_of hJ rfl
  refine lv_aload_n hx hb dX6_hash_0 rfl (lv_at hl 0 rfl) ?_
  refine lv_iconst (v := 0) hx hb dX6_hash_1 (by decide) ?_
  refine va_put (D := D) (ci := 5) (v := .int 0) (ty := .int) (C := RX6) (T := TX6) (N := 5) hx hb hts (fun w h => List.mem_cons_of_mem _ (inX6 w h)) tyX6 tyX6_ok nmX6 hown hK hP hD hS 11 rfl rfl 0 (by decide) (eT_h hts tw367) (fun _ h9 => h9) rfl (by decide +kernel) rfl rfl (Nat.le_of_ble_eq_true rfl) dX6_hash_2 (fun H locs hP hD hS => ?_)
  have hP : va_P D vwCl (cw ad cI cZ cJ n g w P gm wm gs wz gb go gp gj wb wl wk wo 0 mn mg mw mP o) H := hP
  have hD : va_D (eA ad) (cw ad cI cZ cJ n g w P gm wm gs wz gb go gp gj wb wl wk wo 0 mn mg mw mP o) := hD
  refine lv_iload_n hx hb dX6_hash_5 rfl (lv_at hl 1 rfl) ?_
  refine lv_if_lt (tgt := 14) hx hb dX6_hash_6 (by decide) (fun h1 => ?_) (fun h1 => ?_)
  · skip
    refine lv_aload_n hx hb dX6_hash_14 rfl (lv_at hl 0 rfl) ?_
    refine lv_iconst (v := 1) hx hb dX6_hash_15 (by decide) ?_
    refine ec_V (own := RX6) (C := RX6) (b := (ad 11)) (rest := []) hx hb hml hown hts hl.1 (c_X6_fail l D cI cZ cJ ad hJ n g w P gm wm gs wz gb go gp gj wb wl wk wo 0 mn mg mw mP o 1) tw394 tw7 tw391 tw393 ts_X6_fail yd_X6_fail rfl rfl ⟨Nat.le_of_ble_eq_true rfl, Nat.le_of_ble_eq_true rfl⟩ hP hK hN hP (q0 := 11) rfl rfl rfl rfl (Nat.le_of_ble_eq_true rfl) ⟨Nat.zero_le _, Nat.zero_le _⟩ hS (fun _ h9 => h9) dX6_hash_16 (fun v9 W9 H locs hF hP hS hz9 hk9 => ?_)
    obtain ⟨rfl, rfl⟩ := hF
    have hD : va_D (eA ad) (cw ad cI cZ cJ n g w P gm wm gs wz gb go gp gj wb wl wk wo 1 mn mg mw mP o) := eD_of hJ rfl
    refine W.eq (g2 := F0 m 19 ls [.int 0]) rfl ?_
    exact ec_iret hx hb hr hlk hP hS ⟨rfl, rfl⟩ dX6_hash_19
  · skip
    refine lv_iload_n hx hb dX6_hash_9 rfl (lv_at hl 1 rfl) ?_
    refine lv_iconst (v := 1) hx hb dX6_hash_10 (by decide) ?_
    refine lv_icmp_le (tgt := 20) hx hb dX6_hash_11 (by decide) (fun h2 => ?_) (fun h2 => ?_)
    · skip
      exact absurd ⟨h1, h2⟩ hbad
    · skip
      refine lv_aload_n hx hb dX6_hash_14 rfl (lv_at hl 0 rfl) ?_
      refine lv_iconst (v := 1) hx hb dX6_hash_15 (by decide) ?_
      refine ec_V (own := RX6) (C := RX6) (b := (ad 11)) (rest := []) hx hb hml hown hts hl.1 (c_X6_fail l D cI cZ cJ ad hJ n g w P gm wm gs wz gb go gp gj wb wl wk wo 0 mn mg mw mP o 1) tw394 tw7 tw391 tw393 ts_X6_fail yd_X6_fail rfl rfl ⟨Nat.le_of_ble_eq_true rfl, Nat.le_of_ble_eq_true rfl⟩ hP hK hN hP (q0 := 11) rfl rfl rfl rfl (Nat.le_of_ble_eq_true rfl) ⟨Nat.zero_le _, Nat.zero_le _⟩ hS (fun _ h9 => h9) dX6_hash_16 (fun v9 W9 H locs hF hP hS hz9 hk9 => ?_)
      obtain ⟨rfl, rfl⟩ := hF
      have hD : va_D (eA ad) (cw ad cI cZ cJ n g w P gm wm gs wz gb go gp gj wb wl wk wo 1 mn mg mw mP o) := eD_of hJ rfl
      refine W.eq (g2 := F0 m 19 ls [.int 0]) rfl ?_
      exact ec_iret hx hb hr hlk hP hS ⟨rfl, rfl⟩ dX6_hash_19
end
