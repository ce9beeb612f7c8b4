/-! My own rows: a read-only contract (er_), a contract over the one world of all cells (ec_), small steps. -/
/-- the array classes of the worlds -/
abbrev eTy (cI cZ cJ : ClassId) : List (ClassId × FieldType) := [(cI, .int), (cZ, .boolean), (cJ, .long)]
section ERA
variable {p : Program} {l : Launch} {e : Env} {R : Room} {s : State} {m : MethodId} {args : Array Value} {below : List Frame} {meth : Method} {c : Code} {H : Heap} {locs : List Loc} {cells slots : Nat} {Q : State → Prop}
variable {cc : ByteArray} {pc : Nat} {ls : Array Slot} {rest st0 : List Value} {D : va_G} {cl : List vw_C} {tys : List (ClassId × FieldType)}
/-- a read: it answers v, the heap is as it was -/
def er_Q (v : Value) : Array Value → State → Outcome → State → Prop := fun _ st o t => o = .returned (some v) ∧ t.heap = st.heap
def er_P (D : va_G) (cl : List vw_C) (tys : List (ClassId × FieldType)) (av : List Value) (W0 : va_W) : Array Value → State → Prop := va_Pc av (fun U => va_P D cl W0 U.heap ∧ va_K D cl tys U)
def er_M (l : Launch) (y : MethodName) (ws : List Cond) (rm : Room) (D : va_G) (cl : List vw_C) (tys : List (ClassId × FieldType)) (av : List Value) (W0 : va_W) (v : Value) : Prop := Met l y ws rm (er_P D cl tys av W0) (er_Q v) 0 0 (fun _ => False)
theorem er_blind {av : List Value} {W0 : va_W} : FrameBlind (er_P D cl tys av W0) := by
  intro a U g mk q
  obtain ⟨q0, qP, qK⟩ := q
  exact ⟨q0, qP, va_K.moved (u := U) (U := U.calling g mk a) (Vm.Alike.refl U.vm) qK⟩
theorem er_pre {av : List Value} {W0 : va_W} (hP : va_P D cl W0 H) (hK : va_K D cl tys s) : PreS s H (er_P D cl tys av W0) av :=
  ⟨er_blind, fun U hU hW => ⟨rfl, by rw [hU]; exact hP, va_K.moved hW.alike hK⟩⟩
theorem er_nil : va_P D cl [] H := fun k q h => by simp at h
/-- the body of a read -/
theorem er_of {y : MethodName} {ws ws' : List Cond} {rm : Room} {maxL : Nat} {ret : Option FieldType} {av : List Value} {W0 : va_W} {v : Value} (hy : plainName y.cls = true) (hw : ws = Cond.code y cc maxL ret :: ws') (hlen : (lg_sl av).length ≤ maxL)
    (body : ∀ (p : Program) (e : Env) (s : State) (m : MethodId) (args : Array Value) (below : List Frame) (meth : Method) (c : Code) (ls : Array Slot), p.tables.exec = Jvm.exec → c.code = cc → meth.sig.returnType = ret → (∀ w ∈ ws, w.before args s = true) → s.vm.findClass y.cls = some m.cls → meth.locks = false → c.maxLocals = maxL → va_P D cl W0 s.heap → va_K D cl tys s → lv_has ls maxL (lv_args 0 av) →
      W p l e rm s m args below meth c s.heap [] 0 0 (MQ below (er_Q v) args s 0 0 (fun _ => False)) (F0 m 0 ls [])) : er_M l y ws rm D cl tys av W0 v := by
  refine Met.ofW (cc := cc) (maxL := maxL) (ret := ret) hy hw ?_
  intro p e s m args below meth c s₁ B hml hv
  obtain ⟨rfl, hP, hK⟩ := hv
  have hl := lv_entry av (n := maxL) hlen
  rw [lg_entry_eq]
  exact body p e s m _ below meth c _ B.exec B.bytes B.returns (atoms_spec (ws := ws) B.pre) (findClass_of_methodNamed B.named) B.notSynchronized hml hP hK hl
theorem er_iret {v w : Int32} (hexec : p.tables.exec = Jvm.exec) (hb : c.code = cc) (hr : meth.sig.returnType = some .int) (hlocks : meth.locks = false) (ev : v = w) (hdg : decode cc pc = .ok (.ireturn, 1)) :
    W p l e R s m args below meth c s.heap [] 0 0 (MQ below (er_Q (.int w)) args s 0 0 (fun _ => False)) (F0 m pc ls [.int v]) := by
  subst ev
  exact W.iret hexec hb hr (fun t ht _ => ⟨rfl, ht⟩) (fun q h => by cases h) hdg hlocks
theorem er_zret {v : Int32} {b : Bool} (hexec : p.tables.exec = Jvm.exec) (hb : c.code = cc) (hr : meth.sig.returnType = some .boolean) (hlocks : meth.locks = false) (ev : v = ef_b b) (hdg : decode cc pc = .ok (.ireturn, 1)) :
    W p l e R s m args below meth c s.heap [] 0 0 (MQ below (er_Q (.int (ef_b b))) args s 0 0 (fun _ => False)) (F0 m pc ls [.int v]) := by
  subst ev
  exact W.zret hexec hb hr (ef_nar b) (fun t ht _ => ⟨rfl, ht⟩) (fun q h => by cases h) hdg hlocks
/-- behind a read -/
theorem er_call {v : Value} {a : Array Value} (hr : va_Run p l e R s m args below meth c H locs cells slots 0 0 (F0 m pc ls st0) rest (er_Q v a) (fun _ => False))
    (kk : W p l e R s m args below meth c H locs cells slots Q (F0 m (pc + 3) ls (v :: rest))) : W p l e R s m args below meth c H locs cells slots Q (F0 m pc ls st0) := by
  intro T hT X
  obtain ⟨v', st₀, t, T', L, h0, X', hL, e1, -, ⟨hv, hh⟩, st⟩ := hr T hT X
  cases hv
  obtain ⟨t2, a1, b1⟩ := kk T' (by rw [e1, hh, h0]) (Stand.forget X' (fun q h => (hL q h).elim))
  exact ⟨t2, st t2 a1, b1⟩
-- small steps
theorem ef_eqi {x y : Int32} (h : x = y) (k : W p l e R s m args below meth c H locs cells slots Q (F0 m pc ls (.int y :: rest))) : W p l e R s m args below meth c H locs cells slots Q (F0 m pc ls (.int x :: rest)) := by
  subst h
  exact k
theorem ef_eql {x y : Int64} (h : x = y) (k : W p l e R s m args below meth c H locs cells slots Q (F0 m pc ls (.long y :: rest))) : W p l e R s m args below meth c H locs cells slots Q (F0 m pc ls (.long x :: rest)) := by
  subst h
  exact k
theorem ef_if_eq {b : Bool} {off : Int} {tgt : Nat} (hexec : p.tables.exec = Jvm.exec) (hb : c.code = cc) (hdg : decode cc pc = .ok (.ifCond .eq off, 3)) (ht : (pc : Int) + off = (tgt : Int))
    (kt : b = false → W p l e R s m args below meth c H locs cells slots Q (F0 m tgt ls rest)) (kf : b = true → W p l e R s m args below meth c H locs cells slots Q (F0 m (pc + 3) ls rest)) : W p l e R s m args below meth c H locs cells slots Q (F0 m pc ls (.int (ef_b b) :: rest)) :=
  lv_if_eq hexec hb hdg ht (fun h => kt (ef_b0.mp h)) (fun h => kf (ef_b1.mp h))
theorem ef_if_ne {b : Bool} {off : Int} {tgt : Nat} (hexec : p.tables.exec = Jvm.exec) (hb : c.code = cc) (hdg : decode cc pc = .ok (.ifCond .ne off, 3)) (ht : (pc : Int) + off = (tgt : Int))
    (kt : b = true → W p l e R s m args below meth c H locs cells slots Q (F0 m tgt ls rest)) (kf : b = false → W p l e R s m args below meth c H locs cells slots Q (F0 m (pc + 3) ls rest)) : W p l e R s m args below meth c H locs cells slots Q (F0 m pc ls (.int (ef_b b) :: rest)) :=
  lv_if_ne hexec hb hdg ht (fun h => kt (ef_b1.mp h)) (fun h => kf (ef_b0.mp h))
end ERA
-- calls, by the good words of the tables
theorem eT_good {c0 c1 : Cond} (h : c1 ∈ eT) : GoodIn (c0 :: eT) (c1 :: eT) := by
  intro w hw
  rcases List.mem_cons.mp hw with rfl | hw
  · exact ⟨List.mem_cons_of_mem _ h, good_of_word (eT_g h)⟩
  · exact ⟨List.mem_cons_of_mem _ hw, good_of_word (eT_g hw)⟩
theorem eT_h {c0 : Cond} {args : Array Value} {s : State} (hts : ∀ w ∈ c0 :: eT, w.before args s = true) {w : Cond} (h : w ∈ eT) : w.before args s = true := hts w (List.mem_cons_of_mem _ h)
theorem eT_B {c0 : Cond} {R : Room} {s : State} {args : Array Value} {own : String} {index : Nat} {y : MethodName} {bytes : ByteArray} {maxL : Nat} {ret : Option FieldType} {rm : Room} {mc ms n : Nat} (hts : ∀ w ∈ c0 :: eT, w.before args s = true) (hc : Cond.code y bytes maxL ret ∈ eT) (hini : Cond.initialized y.cls ∈ eT) (hl : Cond.methodLink own index y ∈ eT)
    (hd : y.cls ≠ "java/lang/invoke/MethodHandle" ∧ y.cls ≠ "java/lang/invoke/VarHandle" ∧ (parseMethodDescriptor y.desc).map (fun d => d.parameters.length) = some n) (hrc : rm.cells = mc) (hrs : rm.slots = ms) (hR : rm.frames + 1 ≤ R.frames ∧ 8 + (maxL + 11) + rm.locals ≤ R.locals) :
    CallB R s args own index y bytes maxL ret (Cond.code y bytes maxL ret :: eT) rm mc ms n :=
  callB_of n hts (eT_good hc) rfl hrc hrs (eT_h hts hini) (eT_h hts hl) hd hR
section ERB
variable {p : Program} {l : Launch} {e : Env} {R : Room} {s : State} {m : MethodId} {args : Array Value} {below : List Frame} {meth : Method} {c : Code} {H : Heap} {locs : List Loc} {cells slots : Nat} {Q : State → Prop}
variable {cc : ByteArray} {pc : Nat} {ls : Array Slot} {rest : List Value} {D : va_G} {tys : List (ClassId × FieldType)}
variable {c0 : Cond} {own : String} {index nL n maxL : Nat} {y : MethodName} {bytes : ByteArray} {ret : Option FieldType} {rm : Room} {av : List Value} {W0 : va_W} {v : Value}
/-- a read by a static call -/
theorem er_S (hexec : p.tables.exec = Jvm.exec) (hb : c.code = cc) (hml : c.maxLocals = nL) (hown : s.vm.findClass own = some m.cls) (hts : ∀ w ∈ c0 :: eT, w.before args s = true) (hsz : ls.size = nL)
    (hM : er_M l y (Cond.code y bytes maxL ret :: eT) rm D vwCl tys av W0 v) (hc : Cond.code y bytes maxL ret ∈ eT) (hini : Cond.initialized y.cls ∈ eT) (hl : Cond.methodLink own index y ∈ eT) (hst : Cond.static y ∈ eT)
    (hd : y.cls ≠ "java/lang/invoke/MethodHandle" ∧ y.cls ≠ "java/lang/invoke/VarHandle" ∧ (parseMethodDescriptor y.desc).map (fun d => d.parameters.length) = some n) (hrc : rm.cells = 0) (hrs : rm.slots = 0) (hR : rm.frames + 1 ≤ R.frames ∧ 8 + (maxL + 11) + rm.locals ≤ R.locals)
    (hP : va_P D vwCl W0 H) (hK : va_K D vwCl tys s) (hn : av.length = n) {st0 : List Value} (hstk : st0 = av.reverse ++ rest) (hroom : (rest.map fun v => v.category).sum ≤ 8) (hcl : cells ≤ R.cells ∧ slots ≤ R.slots) (hdg : decode cc pc = .ok (.invokestatic index, 3))
    (kk : W p l e R s m args below meth c H locs cells slots Q (F0 m (pc + 3) ls (v :: rest))) : W p l e R s m args below meth c H locs cells slots Q (F0 m pc ls st0) :=
  er_call (va_runS (nL := nL) (As := av) (rest := rest) ⟨hexec, hb, hml, hown, hts⟩ hM ⟨eT_B hts hc hini hl hd hrc hrs hR, eT_h hts hst⟩ (er_pre hP hK) rfl hn hsz hstk (lv_room hroom) hdg hcl) kk
/-- a read by a call on an object -/
theorem er_V {Wr : va_W} {b : Addr} {C : String} {q0 ci : Nat} {T : u_T} {N : Nat} {fs : List Value} (hexec : p.tables.exec = Jvm.exec) (hb : c.code = cc) (hml : c.maxLocals = nL) (hown : s.vm.findClass own = some m.cls) (hts : ∀ w ∈ c0 :: eT, w.before args s = true) (hsz : ls.size = nL)
    (hM : er_M l y (Cond.code y bytes maxL ret :: eT) rm D vwCl tys (.ref b :: av) W0 v) (hc : Cond.code y bytes maxL ret ∈ eT) (hini : Cond.initialized y.cls ∈ eT) (hl : Cond.methodLink own index y ∈ eT) (hst : Cond.instanceMethod y ∈ eT) (hse : Cond.selects C y y ∈ eT)
    (hd : y.cls ≠ "java/lang/invoke/MethodHandle" ∧ y.cls ≠ "java/lang/invoke/VarHandle" ∧ (parseMethodDescriptor y.desc).map (fun d => d.parameters.length) = some n) (hrc : rm.cells = 0) (hrs : rm.slots = 0) (hR : rm.frames + 1 ≤ R.frames ∧ 8 + (maxL + 11) + rm.locals ≤ R.locals)
    (hP : va_P D vwCl W0 H) (hK : va_K D vwCl tys s) (hPr : va_P D vwCl Wr H) (he : Wr[q0]? = some (b, .inr (ci, fs))) (hcl0 : vwCl[ci]? = some (C, T, N)) (hn : av.length = n) {st0 : List Value} (hstk : st0 = av.reverse ++ .ref b :: rest) (hroom : (rest.map fun v => v.category).sum ≤ 8) (hcl : cells ≤ R.cells ∧ slots ≤ R.slots) (hdg : decode cc pc = .ok (.invokevirtual index, 3))
    (kk : W p l e R s m args below meth c H locs cells slots Q (F0 m (pc + 3) ls (v :: rest))) : W p l e R s m args below meth c H locs cells slots Q (F0 m pc ls st0) :=
  er_call (va_runV (nL := nL) (C := C) (b := b) (As := av) (rest := rest) ⟨hexec, hb, hml, hown, hts⟩ hM ⟨eT_B hts hc hini hl hd hrc hrs hR, eT_h hts hst, eT_h hts hse⟩
    ⟨er_blind, va_recv hK hPr hcl0 he, (er_pre (av := .ref b :: av) hP hK).2⟩ rfl hn hsz hstk (lv_room hroom) hdg hcl) kk
end ERB
