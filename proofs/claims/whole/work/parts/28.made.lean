/-! Constructors: what they make, over a world of their own. -/
def eC (U : State) : Prop := va_Nw (.methodLinkNest RX5 9 yX2_init RX5) U ∧ va_Nw (.methodLinkNest RX5 20 yX1_init RX5) U ∧ va_Nw (.methodLinkNest RX1 3 yX3_init RX5) U ∧ va_Nw (.methodLinkNest RX5 30 yX4_init RX5) U ∧ va_Nw (.methodLinkNest RX4 3 yX3_init RX5) U
theorem eC_warm {s U : State} (hW : s.WarmedH U.vm) (h : eC s) : eC U := ⟨va_Nw.warmM hW h.1, va_Nw.warmM hW h.2.1, va_Nw.warmM hW h.2.2.1, va_Nw.warmM hW h.2.2.2.1, va_Nw.warmM hW h.2.2.2.2⟩
def en_Q (B : Heap → Prop) (A : Nat → Prop) : Array Value → State → Outcome → State → Prop := fun _ st oc t => (oc = .returned none ∧ B t.heap) ∧ va_F A st t
def en_P (D : va_G) (tys : List (ClassId × FieldType)) (av : List Value) (W0 : va_W) (sz : Nat) : Array Value → State → Prop := va_Pc av (fun U => U.heap.size = sz ∧ va_P D vwCl W0 U.heap ∧ va_K D vwCl tys U ∧ eC U)
def en_B (D : va_G) (A : Nat → Prop) (G : va_W → Prop) : Heap → Prop := fun H => ∃ W1 : va_W, G W1 ∧ va_P D vwCl W1 H ∧ va_D A W1
def en_M (l : Launch) (y : MethodName) (ws : List Cond) (rm : Room) (D : va_G) (tys : List (ClassId × FieldType)) (av : List Value) (W0 : va_W) (sz : Nat) (G : va_W → Prop) (mc ms : Nat) : Prop := Met l y ws rm (en_P D tys av W0 sz) (en_Q (en_B D (va_A W0 sz) G) (va_A W0 sz)) mc ms (va_A W0 sz)
theorem en_one {a sz : Nat} {e : va_E} : va_D (va_A [(a, e)] sz) [(a, e)] := by
  refine ⟨fun i j p q hi hj _ => ?_, fun k q hk => va_A.in hk⟩
  have h1 : i < 1 := (List.getElem?_eq_some_iff.mp hi).1
  have h2 : j < 1 := (List.getElem?_eq_some_iff.mp hj).1
  omega
section ENA
variable {p : Program} {l : Launch} {e : Env} {R : Room} {s : State} {m : MethodId} {args : Array Value} {below : List Frame} {meth : Method} {c : Code} {H : Heap} {locs : List Loc} {cells slots : Nat} {Q : State → Prop}
variable {cc : ByteArray} {pc : Nat} {ls : Array Slot} {rest st0 : List Value} {D : va_G} {tys : List (ClassId × FieldType)} {W0 W1 : va_W} {sz mc ms : Nat} {av : List Value} {A A0 A1 : Nat → Prop} {H0 : Heap} {G : va_W → Prop} {B : Heap → Prop}
theorem en_blind : FrameBlind (en_P D tys av W0 sz) := by
  intro a U g mk q
  obtain ⟨q0, q1, qP, qK, qC⟩ := q
  exact ⟨q0, q1, qP, va_K.moved (u := U) (U := U.calling g mk a) (Vm.Alike.refl U.vm) qK, eC_warm (s := U) (U := U.calling g mk a) (State.WarmedH.refl U) qC⟩
theorem en_pre (hP : va_P D vwCl W0 H) (hK : va_K D vwCl tys s) (hC : eC s) : PreS s H (en_P D tys av W0 H.size) av :=
  ⟨en_blind, fun U hU hW => ⟨rfl, by rw [hU], by rw [hU]; exact hP, va_K.moved hW.alike hK, eC_warm hW hC⟩⟩
theorem en_of {y : MethodName} {ws ws' : List Cond} {rm : Room} {maxL : Nat} {a0 : Nat} {e0 : va_E} (hy : plainName y.cls = true) (hyn : y.name = "<init>") (hw : ws = Cond.code y cc maxL none :: ws') (hlen : (lg_sl av).length ≤ maxL)
    (body : ∀ (p : Program) (e : Env) (s : State) (m : MethodId) (args : Array Value) (below : List Frame) (meth : Method) (c : Code) (ls : Array Slot) (A : Nat → Prop), p.tables.exec = Jvm.exec → c.code = cc → meth.sig.returnType = none → (∀ w ∈ ws, w.before args s = true) → s.vm.findClass y.cls = some m.cls → meth.locks = false → c.maxLocals = maxL → meth.name = "<init>" → va_P D vwCl [(a0, e0)] s.heap → va_K D vwCl tys s → eC s → va_D A [(a0, e0)] → (∀ q : Nat, s.heap.size ≤ q → A q) → lv_has ls maxL (lv_args 0 av) →
      W p l e rm s m args below meth c s.heap [] 0 0 (MQ below (en_Q (en_B D A G) A) args s mc ms A) (F0 m 0 ls [])) : en_M l y ws rm D tys av [(a0, e0)] sz G mc ms := by
  refine Met.ofW (cc := cc) (maxL := maxL) (ret := none) hy hw ?_
  intro p e s m args below meth c s₁ B hml hv
  obtain ⟨rfl, hsz, hP, hK, hC⟩ := hv
  subst hsz
  have hl := lv_entry av (n := maxL) hlen
  rw [lg_entry_eq]
  exact body p e s m _ below meth c _ _ B.exec B.bytes B.returns (atoms_spec (ws := ws) B.pre) (findClass_of_methodNamed B.named) B.notSynchronized hml ((name_of_methodNamed B.named B.method).1.trans hyn) hP hK hC en_one (fun q h => Or.inr h) hl
theorem en_vret (hexec : p.tables.exec = Jvm.exec) (hb : c.code = cc) (hr : meth.sig.returnType = none) (hlocks : meth.locks = false) (hP : va_P D vwCl W1 H) (hD : va_D A W1) (hS : va_S A s.heap H locs) (hG : G W1) (hdg : decode cc pc = .ok (.return_, 1)) :
    W p l e R s m args below meth c H locs cells slots (MQ below (en_Q (en_B D A G) A) args s cells slots A) (F0 m pc ls []) :=
  W.vret hexec hb hr (fun t ht _ => ⟨⟨rfl, W1, hG, by rw [ht]; exact hP, hD⟩, hS.F ht⟩) hS.2.2 hdg hlocks
theorem en_call {a : Array Value} (hr : va_Run p l e R s m args below meth c H locs cells slots mc ms (F0 m pc ls st0) rest (en_Q B A1 a) A1) (hS : va_S A0 H0 H locs) (hA : ∀ q, A1 q → A0 q)
    (kk : ∀ (H1 : Heap) (locs1 : List Loc), B H1 → va_S A0 H0 H1 locs1 → H.size ≤ H1.size → (∀ q : Nat, q < H.size → ¬ A1 q → H1[q]? = H[q]?) → W p l e R s m args below meth c H1 locs1 (cells + mc) (slots + ms) Q (F0 m (pc + 3) ls rest)) : W p l e R s m args below meth c H locs cells slots Q (F0 m pc ls st0) := by
  intro T hT X
  obtain ⟨v, st₀, t, T', L, h0, X', hL, e1, e2, ⟨⟨hv, hB⟩, hz, hk⟩, st⟩ := hr T hT X
  cases hv
  rw [h0] at hz hk
  obtain ⟨t2, a1, b1⟩ := kk T'.heap (locs ++ L) (by rw [e1]; exact hB)
    ⟨Nat.le_trans hS.1 (by rw [e1]; exact hz), fun q h1 h2 => by rw [e1, hk q (Nat.lt_of_lt_of_le h1 hS.1) (fun z => h2 (hA q z))]; exact hS.2.1 q h1 h2, fun q hq => by
      rcases List.mem_append.mp hq with h | h
      · exact hS.2.2 q h
      · exact hA _ (hL q h)⟩ (by rw [e1]; exact hz) (fun q h1 h2 => by rw [e1]; exact hk q h1 h2) T' rfl X'
  exact ⟨t2, st t2 a1, b1⟩
variable {Ts : List Cond} {own host : String} {index nL n maxL : Nat} {y : MethodName} {bytes : ByteArray} {rm : Room} {b : Addr}
theorem eT_Gs (hT : ∀ w ∈ eT, w ∈ Ts) {c1 : Cond} (h : c1 ∈ eT) : GoodIn Ts (c1 :: eT) := by
  intro w hw
  rcases List.mem_cons.mp hw with rfl | hw
  · exact ⟨hT _ h, good_of_word (eT_g h)⟩
  · exact ⟨hT _ hw, good_of_word (eT_g hw)⟩
/-- a constructor of the same package, called by its plain name -/
theorem en_I (hexec : p.tables.exec = Jvm.exec) (hb : c.code = cc) (hml : c.maxLocals = nL) (hown : s.vm.findClass own = some m.cls) (hts : ∀ w ∈ Ts, w.before args s = true) (hT : ∀ w ∈ eT, w ∈ Ts) (hsz : ls.size = nL)
    (hM : en_M l y (Cond.code y bytes maxL none :: eT) rm D tys (.ref b :: av) W0 H.size G mc ms) (hc : Cond.code y bytes maxL none ∈ eT) (hini : Cond.initialized y.cls ∈ eT) (hl : Cond.methodLink own index y ∈ eT) (hst : Cond.instanceMethod y ∈ eT) (hyn : y.name = "<init>")
    (hd : y.cls ≠ "java/lang/invoke/MethodHandle" ∧ y.cls ≠ "java/lang/invoke/VarHandle" ∧ (parseMethodDescriptor y.desc).map (fun d => d.parameters.length) = some n) (hrc : rm.cells = mc) (hrs : rm.slots = ms) (hR : rm.frames + 1 ≤ R.frames ∧ 8 + (maxL + 11) + rm.locals ≤ R.locals)
    (hP : va_P D vwCl W0 H) (hK : va_K D vwCl tys s) (hC : eC s) (hn : av.length = n) {st0 : List Value} (hstk : st0 = av.reverse ++ .ref b :: rest) (hroom : (rest.map fun v => v.category).sum ≤ 8) (hcl : cells + mc ≤ R.cells ∧ slots + ms ≤ R.slots) (hS : va_S A0 H0 H locs) (hA : ∀ q, va_A W0 H.size q → A0 q) (hdg : decode cc pc = .ok (.invokespecial index, 3))
    (kk : ∀ (H1 : Heap) (locs1 : List Loc), en_B D (va_A W0 H.size) G H1 → va_S A0 H0 H1 locs1 → H.size ≤ H1.size → (∀ q : Nat, q < H.size → ¬ va_A W0 H.size q → H1[q]? = H[q]?) → W p l e R s m args below meth c H1 locs1 (cells + mc) (slots + ms) Q (F0 m (pc + 3) ls rest)) : W p l e R s m args below meth c H locs cells slots Q (F0 m pc ls st0) :=
  en_call (va_runI (nL := nL) (b := b) (As := av) (rest := rest) ⟨hexec, hb, hml, hown, hts⟩ hM ⟨callB_of n hts (eT_Gs hT hc) rfl hrc hrs (hts _ (hT _ hini)) (hts _ (hT _ hl)) hd hR, hyn, hts _ (hT _ hst)⟩ (en_pre hP hK hC) rfl hn hsz hstk (lv_room hroom) hdg hcl) hS hA kk
/-- a private constructor of a nest mate -/
theorem en_IN (hexec : p.tables.exec = Jvm.exec) (hb : c.code = cc) (hml : c.maxLocals = nL) (hown : s.vm.findClass own = some m.cls) (hts : ∀ w ∈ Ts, w.before args s = true) (hT : ∀ w ∈ eT, w ∈ Ts) (hsz : ls.size = nL)
    (hM : en_M l y (Cond.code y bytes maxL none :: eT) rm D tys (.ref b :: av) W0 H.size G mc ms) (hc : Cond.code y bytes maxL none ∈ eT) (hini : Cond.initialized y.cls ∈ eT) (hl : va_Nw (.methodLinkNest own index y host) s) (hst : Cond.instanceMethod y ∈ eT) (hyn : y.name = "<init>")
    (hd : y.cls ≠ "java/lang/invoke/MethodHandle" ∧ y.cls ≠ "java/lang/invoke/VarHandle" ∧ (parseMethodDescriptor y.desc).map (fun d => d.parameters.length) = some n) (hrc : rm.cells = mc) (hrs : rm.slots = ms) (hR : rm.frames + 1 ≤ R.frames ∧ 8 + (maxL + 11) + rm.locals ≤ R.locals)
    (hP : va_P D vwCl W0 H) (hK : va_K D vwCl tys s) (hC : eC s) (hn : av.length = n) {st0 : List Value} (hstk : st0 = av.reverse ++ .ref b :: rest) (hroom : (rest.map fun v => v.category).sum ≤ 8) (hcl : cells + mc ≤ R.cells ∧ slots + ms ≤ R.slots) (hS : va_S A0 H0 H locs) (hA : ∀ q, va_A W0 H.size q → A0 q) (hdg : decode cc pc = .ok (.invokespecial index, 3))
    (kk : ∀ (H1 : Heap) (locs1 : List Loc), en_B D (va_A W0 H.size) G H1 → va_S A0 H0 H1 locs1 → H.size ≤ H1.size → (∀ q : Nat, q < H.size → ¬ va_A W0 H.size q → H1[q]? = H[q]?) → W p l e R s m args below meth c H1 locs1 (cells + mc) (slots + ms) Q (F0 m (pc + 3) ls rest)) : W p l e R s m args below meth c H locs cells slots Q (F0 m pc ls st0) :=
  en_call (va_runIN (nL := nL) (b := b) (As := av) (rest := rest) ⟨hexec, hb, hml, hown, hts⟩ hM ⟨va_cnB n hts (eT_Gs hT hc) rfl hrc hrs hl (hts _ (hT _ hini)) hd hR, hyn, hts _ (hT _ hst)⟩ (en_pre hP hK hC) rfl hn hsz hstk (lv_room hroom) hdg hcl) hS hA kk
/-- the root's constructor: nothing changes -/
theorem en_IV (hexec : p.tables.exec = Jvm.exec) (hb : c.code = cc) (hml : c.maxLocals = nL) (hown : s.vm.findClass own = some m.cls) (hts : ∀ w ∈ Ts, w.before args s = true) (hT : ∀ w ∈ eT, w ∈ Ts) (hsz : ls.size = nL)
    (hM : er_Mv l y (Cond.code y bytes maxL none :: eT) rm D vwCl tys (.ref b :: av) W0) (hc : Cond.code y bytes maxL none ∈ eT) (hini : Cond.initialized y.cls ∈ eT) (hl : va_Nw (.methodLinkNest own index y host) s) (hst : Cond.instanceMethod y ∈ eT) (hyn : y.name = "<init>")
    (hd : y.cls ≠ "java/lang/invoke/MethodHandle" ∧ y.cls ≠ "java/lang/invoke/VarHandle" ∧ (parseMethodDescriptor y.desc).map (fun d => d.parameters.length) = some n) (hrc : rm.cells = 0) (hrs : rm.slots = 0) (hR : rm.frames + 1 ≤ R.frames ∧ 8 + (maxL + 11) + rm.locals ≤ R.locals)
    (hP : va_P D vwCl W0 H) (hK : va_K D vwCl tys s) (hn : av.length = n) {st0 : List Value} (hstk : st0 = av.reverse ++ .ref b :: rest) (hroom : (rest.map fun v => v.category).sum ≤ 8) (hcl : cells ≤ R.cells ∧ slots ≤ R.slots) (hdg : decode cc pc = .ok (.invokespecial index, 3))
    (kk : W p l e R s m args below meth c H locs cells slots Q (F0 m (pc + 3) ls rest)) : W p l e R s m args below meth c H locs cells slots Q (F0 m pc ls st0) :=
  er_callv (va_runIN (nL := nL) (b := b) (As := av) (rest := rest) ⟨hexec, hb, hml, hown, hts⟩ hM ⟨va_cnB n hts (eT_Gs hT hc) rfl hrc hrs hl (hts _ (hT _ hini)) hd hR, hyn, hts _ (hT _ hst)⟩ (er_pre hP hK) rfl hn hsz hstk (lv_room hroom) hdg hcl) kk
end ENA
set_option maxHeartbeats 4000000 in
set_option maxRecDepth 100000 in
theorem k_X3_init (l : Launch) (D : va_G) (cI cZ cJ : ClassId) (h0 : Nat) : er_Mv l yX3_init (Cond.code yX3_init cX3_init 1 none :: eT) ({ frames := 1, cells := 0, slots := 0, locals := 12 }) D vwCl (eTy cI cZ cJ) [.ref h0] [] := by
  refine er_ofv (cc := cX3_init) (maxL := 1) (ret := none) (by decide) rfl (Nat.le_of_ble_eq_true rfl) ?_
  intro p e s m args below meth c ls hx hb hr hts hown hlk hml hP hK hl
  have hown : s.vm.findClass RX3 = some m.cls := hown
  have hl : lv_has ls 1 [(0, .ref h0)] := hl
  refine lv_aload_n hx hb dX3_init_0 rfl (lv_at hl 0 rfl) ?_
  refine W.objInit hx hb hown (eT_h hts tw59) (eT_h hts tw19) (eT_h hts tw20) rfl (by rw [hml]; exact hl.1) rfl dX3_init_1 (Nat.le_of_ble_eq_true rfl) (Nat.le_of_ble_eq_true rfl) ?_
  exact er_vret hx hb hr hlk dX3_init_4
