/-! The one world: all cells of the class, of the reference, and the law's own array; contracts over it (ec_). -/
abbrev cw (ad : Nat → Nat) (cI cZ cJ : ClassId) (n : Nat) (g w : Nat → Int32) (P gm wm : Nat → Bool) (gs wz : Bool) (gb : Int32) (go gp gj : Bool) (wb wl wk : Int32) (wo : Bool) (fa : Int32) (mn : Nat) (mg mw : Nat → Int32) (mP : Nat → Bool) (o : Nat → Int64) : va_W :=
  [(ad 0, .inr (4, [.ref (ad 1), .ref (ad 2), .ref (ad 3)])), (ad 1, .inr (2, [.ref (ad 4), .ref (ad 5), .ref (ad 6), .int (nI n)])), (ad 2, .inr (0, [.ref (ad 7), .int (ef_b gs), .ref (ad 9)])), (ad 3, .inr (0, [.ref (ad 8), .int (ef_b wz), .ref (ad 10)])),
   (ad 4, .inl (cI, 1000, .inl g)), (ad 5, .inl (cI, 1000, .inl w)), (ad 6, .inl (cZ, 1000, .inl (fun j => ef_b (P j)))), (ad 7, .inl (cZ, 1001, .inl (fun j => ef_b (gm j)))), (ad 8, .inl (cZ, 1001, .inl (fun j => ef_b (wm j)))),
   (ad 9, .inr (1, [.int gb, .int (ef_b go), .int (ef_b gp), .int (ef_b gj)])), (ad 10, .inr (3, [.int wb, .int wl, .int wk, .int (ef_b wo)])),
   (ad 11, .inr (5, [.int fa, .int (nI mn), .ref (ad 12), .ref (ad 13), .ref (ad 14)])), (ad 12, .inl (cI, 1000, .inl mg)), (ad 13, .inl (cI, 1000, .inl mw)), (ad 14, .inl (cZ, 1000, .inl (fun j => ef_b (mP j)))), (ad 15, .inl (cJ, 1, .inr (.inl o)))]
def eA (ad : Nat → Nat) : Nat → Prop := fun q => ∃ k, k < 16 ∧ q = ad k
def eJ (ad : Nat → Nat) : Prop := ∀ i j, i < 16 → j < 16 → ad i = ad j → i = j
theorem eD_of {ad : Nat → Nat} (h : eJ ad) {ws : va_W} (hm : ws.map (·.1) = (List.range 16).map ad) : va_D (eA ad) ws := by
  have key : ∀ (k : Nat) (q : Nat × va_E), ws[k]? = some q → k < 16 ∧ q.1 = ad k := by
    intro k q hk
    have h1 : (ws.map (·.1))[k]? = some q.1 := by rw [List.getElem?_map, hk]; rfl
    rw [hm, List.getElem?_map] at h1
    by_cases hk16 : k < 16
    · rw [List.getElem?_range hk16] at h1
      exact ⟨hk16, (Option.some.inj h1).symm⟩
    · rw [List.getElem?_eq_none (by simp; omega)] at h1
      cases h1
  refine ⟨fun i j x y hi hj hxy => ?_, fun k q hk => ⟨k, (key k q hk).1, (key k q hk).2⟩⟩
  obtain ⟨a1, a2⟩ := key i x hi
  obtain ⟨b1, b2⟩ := key j y hj
  exact h i j a1 b1 (by rw [← a2, ← b2, hxy])
/-- what the tables say of the abstract methods -/
def eN (U : State) : Prop := va_Nw (.declares ⟨"EdgeFinder$Rules", "begin", "()V"⟩) U ∧ va_Nw (.declares ⟨"EdgeFinder$Rules", "part", "(LEdgeFinder$Row;I)Z"⟩) U ∧ va_Nw (.declares ⟨"EdgeFinder$Rules", "pass", "(LEdgeFinder$Row;I)V"⟩) U
theorem eN_warm {s U : State} (hW : s.WarmedH U.vm) (h : eN s) : eN U := ⟨va_Nw.warmD hW h.1, va_Nw.warmD hW h.2.1, va_Nw.warmD hW h.2.2⟩
def ec_Q (D : va_G) (F : Option Value → va_W → Prop) (A : Nat → Prop) : Array Value → State → Outcome → State → Prop := fun _ st oc t => (∃ (v : Option Value) (W1 : va_W), oc = .returned v ∧ F v W1 ∧ va_P D vwCl W1 t.heap) ∧ va_F A st t
def ed (v : Option Value) (W1 : va_W) : Option Value → va_W → Prop := fun v' W' => v' = v ∧ W' = W1
def ec_P (D : va_G) (tys : List (ClassId × FieldType)) (av : List Value) (W0 : va_W) : Array Value → State → Prop := va_Pc av (fun U => va_P D vwCl W0 U.heap ∧ va_K D vwCl tys U ∧ eN U)
def ec_M (l : Launch) (y : MethodName) (ws : List Cond) (rm : Room) (D : va_G) (tys : List (ClassId × FieldType)) (av : List Value) (W0 : va_W) (F : Option Value → va_W → Prop) (A : Nat → Prop) : Prop := Met l y ws rm (ec_P D tys av W0) (ec_Q D F A) 0 0 A
section ECA
variable {p : Program} {l : Launch} {e : Env} {R : Room} {s : State} {m : MethodId} {args : Array Value} {below : List Frame} {meth : Method} {c : Code} {H : Heap} {locs : List Loc} {cells slots : Nat} {Q : State → Prop}
variable {cc : ByteArray} {pc : Nat} {ls : Array Slot} {rest st0 : List Value} {D : va_G} {tys : List (ClassId × FieldType)} {A A0 A1 : Nat → Prop} {H0 : Heap} {F : Option Value → va_W → Prop} {W0 W1 : va_W}
theorem ec_blind {av : List Value} : FrameBlind (ec_P D tys av W0) := by
  intro a U g mk q
  obtain ⟨q0, qP, qK, qN⟩ := q
  exact ⟨q0, qP, va_K.moved (u := U) (U := U.calling g mk a) (Vm.Alike.refl U.vm) qK, eN_warm (s := U) (U := U.calling g mk a) (State.WarmedH.refl U) qN⟩
theorem ec_pre {av : List Value} (hP : va_P D vwCl W0 H) (hK : va_K D vwCl tys s) (hN : eN s) : PreS s H (ec_P D tys av W0) av :=
  ⟨ec_blind, fun U hU hW => ⟨rfl, by rw [hU]; exact hP, va_K.moved hW.alike hK, eN_warm hW hN⟩⟩
theorem ec_of {y : MethodName} {ws ws' : List Cond} {rm : Room} {maxL : Nat} {ret : Option FieldType} {av : List Value} (hy : plainName y.cls = true) (hw : ws = Cond.code y cc maxL ret :: ws') (hlen : (lg_sl av).length ≤ maxL)
    (body : ∀ (p : Program) (e : Env) (s : State) (m : MethodId) (args : Array Value) (below : List Frame) (meth : Method) (c : Code) (ls : Array Slot), p.tables.exec = Jvm.exec → c.code = cc → meth.sig.returnType = ret → (∀ w ∈ ws, w.before args s = true) → s.vm.findClass y.cls = some m.cls → meth.locks = false → c.maxLocals = maxL → va_P D vwCl W0 s.heap → va_K D vwCl tys s → eN s → lv_has ls maxL (lv_args 0 av) →
      W p l e rm s m args below meth c s.heap [] 0 0 (MQ below (ec_Q D F A) args s 0 0 A) (F0 m 0 ls [])) : ec_M l y ws rm D tys av W0 F A := by
  refine Met.ofW (cc := cc) (maxL := maxL) (ret := ret) hy hw ?_
  intro p e s m args below meth c s₁ B hml hv
  obtain ⟨rfl, hP, hK, hN⟩ := hv
  have hl := lv_entry av (n := maxL) hlen
  rw [lg_entry_eq]
  exact body p e s m _ below meth c _ B.exec B.bytes B.returns (atoms_spec (ws := ws) B.pre) (findClass_of_methodNamed B.named) B.notSynchronized hml hP hK hN hl
theorem ec_vret (hexec : p.tables.exec = Jvm.exec) (hb : c.code = cc) (hr : meth.sig.returnType = none) (hlocks : meth.locks = false) (hP : va_P D vwCl W1 H) (hS : va_S A s.heap H locs) (hF : F none W1) (hdg : decode cc pc = .ok (.return_, 1)) :
    W p l e R s m args below meth c H locs 0 0 (MQ below (ec_Q D F A) args s 0 0 A) (F0 m pc ls []) :=
  W.vret hexec hb hr (fun t ht _ => ⟨⟨none, W1, rfl, hF, by rw [ht]; exact hP⟩, hS.F ht⟩) hS.2.2 hdg hlocks
theorem ec_iret {v : Int32} (hexec : p.tables.exec = Jvm.exec) (hb : c.code = cc) (hr : meth.sig.returnType = some .int) (hlocks : meth.locks = false) (hP : va_P D vwCl W1 H) (hS : va_S A s.heap H locs) (hF : F (some (.int v)) W1) (hdg : decode cc pc = .ok (.ireturn, 1)) :
    W p l e R s m args below meth c H locs 0 0 (MQ below (ec_Q D F A) args s 0 0 A) (F0 m pc ls [.int v]) :=
  W.iret hexec hb hr (fun t ht _ => ⟨⟨_, W1, rfl, hF, by rw [ht]; exact hP⟩, hS.F ht⟩) hS.2.2 hdg hlocks
theorem ec_zret {b : Bool} (hexec : p.tables.exec = Jvm.exec) (hb : c.code = cc) (hr : meth.sig.returnType = some .boolean) (hlocks : meth.locks = false) (hP : va_P D vwCl W1 H) (hS : va_S A s.heap H locs) (hF : F (some (.int (ef_b b))) W1) (hdg : decode cc pc = .ok (.ireturn, 1)) :
    W p l e R s m args below meth c H locs 0 0 (MQ below (ec_Q D F A) args s 0 0 A) (F0 m pc ls [.int (ef_b b)]) :=
  W.zret hexec hb hr (ef_nar b) (fun t ht _ => ⟨⟨_, W1, rfl, hF, by rw [ht]; exact hP⟩, hS.F ht⟩) hS.2.2 hdg hlocks
theorem ec_aret {a : Nat} {C : String} (hexec : p.tables.exec = Jvm.exec) (hb : c.code = cc) (hr : meth.sig.returnType = some (.object C)) (hlocks : meth.locks = false) (hP : va_P D vwCl W1 H) (hS : va_S A s.heap H locs) (hF : F (some (.ref a)) W1) (hdg : decode cc pc = .ok (.areturn, 1)) :
    W p l e R s m args below meth c H locs 0 0 (MQ below (ec_Q D F A) args s 0 0 A) (F0 m pc ls [.ref a]) :=
  W.aret hexec hb hr (Or.inl ⟨_, rfl⟩) (Or.inr ⟨_, rfl⟩) (fun t ht _ => ⟨⟨_, W1, rfl, hF, by rw [ht]; exact hP⟩, hS.F ht⟩) hS.2.2 hdg hlocks
theorem ec_call {a : Array Value} (hr : va_Run p l e R s m args below meth c H locs cells slots 0 0 (F0 m pc ls st0) rest (ec_Q D F A1 a) A1) (hS : va_S A0 H0 H locs) (hA : ∀ q, A1 q → A0 q)
    (kk : ∀ (v : Option Value) (W1 : va_W) (H1 : Heap) (locs1 : List Loc), F v W1 → va_P D vwCl W1 H1 → va_S A0 H0 H1 locs1 → H.size ≤ H1.size → (∀ q : Nat, q < H.size → ¬ A1 q → H1[q]? = H[q]?) → W p l e R s m args below meth c H1 locs1 cells slots Q (F0 m (pc + 3) ls (v.toList ++ rest))) : W p l e R s m args below meth c H locs cells slots Q (F0 m pc ls st0) := by
  intro T hT X
  obtain ⟨v, st₀, t, T', L, h0, X', hL, e1, e2, ⟨⟨v', W1, hv, hF, hP⟩, hz, hk⟩, st⟩ := hr T hT X
  cases hv
  rw [h0] at hz hk
  obtain ⟨t2, a1, b1⟩ := kk v W1 T'.heap (locs ++ L) hF (by rw [e1]; exact hP)
    ⟨Nat.le_trans hS.1 (by rw [e1]; exact hz), fun q h1 h2 => by rw [e1, hk q (Nat.lt_of_lt_of_le h1 hS.1) (fun z => h2 (hA q z))]; exact hS.2.1 q h1 h2, fun q hq => by
      rcases List.mem_append.mp hq with h | h
      · exact hS.2.2 q h
      · exact hA _ (hL q h)⟩ (by rw [e1]; exact hz) (fun q h1 h2 => by rw [e1]; exact hk q h1 h2) T' rfl X'
  exact ⟨t2, st t2 a1, b1⟩
end ECA
theorem eT_U {c0 : Cond} {own C : String} {index : Nat} {x y : MethodName} {bytes : ByteArray} {maxL : Nat} {ret : Option FieldType} (h1 : Cond.methodLink own index x ∈ eT) (h2 : Cond.sameMethod x.cls x.cls x.name x.desc ∈ eT) (h3 : Cond.selects C x y ∈ eT) (h4 : Cond.instanceMethod y ∈ eT) (h5 : Cond.initialized y.cls ∈ eT) (hc : Cond.code y bytes maxL ret ∈ eT) :
    GoodIn (c0 :: eT) (va_wsU own index C x.cls x y (Cond.code y bytes maxL ret :: eT)) := by
  have g : ∀ {w : Cond}, w ∈ eT → w ∈ c0 :: eT ∧ ((w.onTables && w.keeps) = true ∨ ∃ ty, w = .arrayClass ty) := fun h => ⟨List.mem_cons_of_mem _ h, good_of_word (eT_g h)⟩
  intro w hw
  rcases List.mem_append.mp hw with h | h
  · simp only [List.mem_cons, List.not_mem_nil, or_false] at h
    rcases h with rfl | rfl | rfl | rfl | rfl
    · exact g h1
    · exact g h2
    · exact g h3
    · exact g h4
    · exact g h5
  · exact eT_good hc w h
section ECB
variable {p : Program} {l : Launch} {e : Env} {R : Room} {s : State} {m : MethodId} {args : Array Value} {below : List Frame} {meth : Method} {c : Code} {H : Heap} {locs : List Loc} {cells slots : Nat} {Q : State → Prop}
variable {cc : ByteArray} {pc : Nat} {ls : Array Slot} {rest : List Value} {D : va_G} {tys : List (ClassId × FieldType)} {A0 A1 : Nat → Prop} {H0 : Heap} {F : Option Value → va_W → Prop}
variable {c0 : Cond} {own : String} {index nL n maxL : Nat} {y : MethodName} {bytes : ByteArray} {ret : Option FieldType} {rm : Room} {av : List Value} {W0 : va_W} {v : Value}
/-- a call on an object, over the one world -/
theorem ec_V {Wr : va_W} {b : Addr} {C : String} {q0 ci : Nat} {T : u_T} {N : Nat} {fs : List Value} (hexec : p.tables.exec = Jvm.exec) (hb : c.code = cc) (hml : c.maxLocals = nL) (hown : s.vm.findClass own = some m.cls) (hts : ∀ w ∈ c0 :: eT, w.before args s = true) (hsz : ls.size = nL)
    (hM : ec_M l y (Cond.code y bytes maxL ret :: eT) rm D tys (.ref b :: av) W0 F A1) (hc : Cond.code y bytes maxL ret ∈ eT) (hini : Cond.initialized y.cls ∈ eT) (hl : Cond.methodLink own index y ∈ eT) (hst : Cond.instanceMethod y ∈ eT) (hse : Cond.selects C y y ∈ eT)
    (hd : y.cls ≠ "java/lang/invoke/MethodHandle" ∧ y.cls ≠ "java/lang/invoke/VarHandle" ∧ (parseMethodDescriptor y.desc).map (fun d => d.parameters.length) = some n) (hrc : rm.cells = 0) (hrs : rm.slots = 0) (hR : rm.frames + 1 ≤ R.frames ∧ 8 + (maxL + 11) + rm.locals ≤ R.locals)
    (hP : va_P D vwCl W0 H) (hK : va_K D vwCl tys s) (hN : eN s) (hPr : va_P D vwCl Wr H) (he : Wr[q0]? = some (b, .inr (ci, fs))) (hcl0 : vwCl[ci]? = some (C, T, N)) (hn : av.length = n) {st0 : List Value} (hstk : st0 = av.reverse ++ .ref b :: rest) (hroom : (rest.map fun v => v.category).sum ≤ 8) (hcl : cells ≤ R.cells ∧ slots ≤ R.slots) (hS : va_S A0 H0 H locs) (hA : ∀ q, A1 q → A0 q) (hdg : decode cc pc = .ok (.invokevirtual index, 3))
    (kk : ∀ (v : Option Value) (W1 : va_W) (H1 : Heap) (locs1 : List Loc), F v W1 → va_P D vwCl W1 H1 → va_S A0 H0 H1 locs1 → H.size ≤ H1.size → (∀ q : Nat, q < H.size → ¬ A1 q → H1[q]? = H[q]?) → W p l e R s m args below meth c H1 locs1 cells slots Q (F0 m (pc + 3) ls (v.toList ++ rest))) : W p l e R s m args below meth c H locs cells slots Q (F0 m pc ls st0) :=
  ec_call (va_runV (nL := nL) (C := C) (b := b) (As := av) (rest := rest) ⟨hexec, hb, hml, hown, hts⟩ hM ⟨eT_B hts hc hini hl hd hrc hrs hR, eT_h hts hst, eT_h hts hse⟩
    ⟨ec_blind, va_recv hK hPr hcl0 he, (ec_pre (av := .ref b :: av) hP hK hN).2⟩ rfl hn hsz hstk (lv_room hroom) hdg hcl) hS hA kk
/-- the same by an abstract method's name -/
theorem ec_U {x : MethodName} {Wr : va_W} {b : Addr} {C : String} {q0 ci : Nat} {T : u_T} {N : Nat} {fs : List Value} (hexec : p.tables.exec = Jvm.exec) (hb : c.code = cc) (hml : c.maxLocals = nL) (hown : s.vm.findClass own = some m.cls) (hts : ∀ w ∈ c0 :: eT, w.before args s = true) (hsz : ls.size = nL)
    (hM : ec_M l y (Cond.code y bytes maxL ret :: eT) rm D tys (.ref b :: av) W0 F A1) (hT : GoodIn (c0 :: eT) (va_wsU own index C x.cls x y (Cond.code y bytes maxL ret :: eT))) (hz : va_Nw (.declares ⟨x.cls, x.name, x.desc⟩) s)
    (hd : x.cls ≠ "java/lang/invoke/MethodHandle" ∧ x.cls ≠ "java/lang/invoke/VarHandle" ∧ (parseMethodDescriptor x.desc).map (fun d => d.parameters.length) = some n) (hrc : rm.cells = 0) (hrs : rm.slots = 0) (hR : rm.frames + 1 ≤ R.frames ∧ 8 + (maxL + 11) + rm.locals ≤ R.locals)
    (hP : va_P D vwCl W0 H) (hK : va_K D vwCl tys s) (hN : eN s) (hPr : va_P D vwCl Wr H) (he : Wr[q0]? = some (b, .inr (ci, fs))) (hcl0 : vwCl[ci]? = some (C, T, N)) (hn : av.length = n) {st0 : List Value} (hstk : st0 = av.reverse ++ .ref b :: rest) (hroom : (rest.map fun v => v.category).sum ≤ 8) (hcl : cells ≤ R.cells ∧ slots ≤ R.slots) (hS : va_S A0 H0 H locs) (hA : ∀ q, A1 q → A0 q) (hdg : decode cc pc = .ok (.invokevirtual index, 3))
    (kk : ∀ (v : Option Value) (W1 : va_W) (H1 : Heap) (locs1 : List Loc), F v W1 → va_P D vwCl W1 H1 → va_S A0 H0 H1 locs1 → H.size ≤ H1.size → (∀ q : Nat, q < H.size → ¬ A1 q → H1[q]? = H[q]?) → W p l e R s m args below meth c H1 locs1 cells slots Q (F0 m (pc + 3) ls (v.toList ++ rest))) : W p l e R s m args below meth c H locs cells slots Q (F0 m pc ls st0) :=
  ec_call (va_runU (nL := nL) (C := C) (owner := x.cls) (b := b) (As := av) (rest := rest) ⟨hexec, hb, hml, hown, hts⟩ hM (va_cwA n hts hT rfl hrc hrs hz hd hR)
    ⟨ec_blind, va_recv hK hPr hcl0 he, (ec_pre (av := .ref b :: av) hP hK hN).2⟩ rfl hn hsz hstk (lv_room hroom) hdg hcl) hS hA kk
/-- a read by an abstract method's name -/
theorem er_U {x : MethodName} {Wr : va_W} {b : Addr} {C : String} {q0 ci : Nat} {T : u_T} {N : Nat} {fs : List Value} (hexec : p.tables.exec = Jvm.exec) (hb : c.code = cc) (hml : c.maxLocals = nL) (hown : s.vm.findClass own = some m.cls) (hts : ∀ w ∈ c0 :: eT, w.before args s = true) (hsz : ls.size = nL)
    (hM : er_M l y (Cond.code y bytes maxL ret :: eT) rm D vwCl tys (.ref b :: av) W0 v) (hT : GoodIn (c0 :: eT) (va_wsU own index C x.cls x y (Cond.code y bytes maxL ret :: eT))) (hz : va_Nw (.declares ⟨x.cls, x.name, x.desc⟩) s)
    (hd : x.cls ≠ "java/lang/invoke/MethodHandle" ∧ x.cls ≠ "java/lang/invoke/VarHandle" ∧ (parseMethodDescriptor x.desc).map (fun d => d.parameters.length) = some n) (hrc : rm.cells = 0) (hrs : rm.slots = 0) (hR : rm.frames + 1 ≤ R.frames ∧ 8 + (maxL + 11) + rm.locals ≤ R.locals)
    (hP : va_P D vwCl W0 H) (hK : va_K D vwCl tys s) (hPr : va_P D vwCl Wr H) (he : Wr[q0]? = some (b, .inr (ci, fs))) (hcl0 : vwCl[ci]? = some (C, T, N)) (hn : av.length = n) {st0 : List Value} (hstk : st0 = av.reverse ++ .ref b :: rest) (hroom : (rest.map fun v => v.category).sum ≤ 8) (hcl : cells ≤ R.cells ∧ slots ≤ R.slots) (hdg : decode cc pc = .ok (.invokevirtual index, 3))
    (kk : W p l e R s m args below meth c H locs cells slots Q (F0 m (pc + 3) ls (v :: rest))) : W p l e R s m args below meth c H locs cells slots Q (F0 m pc ls st0) :=
  er_call (va_runU (nL := nL) (C := C) (owner := x.cls) (b := b) (As := av) (rest := rest) ⟨hexec, hb, hml, hown, hts⟩ hM (va_cwA n hts hT rfl hrc hrs hz hd hR)
    ⟨er_blind, va_recv hK hPr hcl0 he, (er_pre (av := .ref b :: av) hP hK).2⟩ rfl hn hsz hstk (lv_room hroom) hdg hcl) kk
end ECB
