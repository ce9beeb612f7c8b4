/-! The law's helpers: methods with a table of handlers, over the one world. -/
def eh_P (D : va_G) (tys : List (ClassId × FieldType)) (av : List Value) (W0 : va_W) (b0 : Nat) : Array Value → State → Prop := va_Pc av (fun U => va_P D vwCl W0 U.heap ∧ va_K D vwCl tys U ∧ eN U ∧ eZ b0 U U.heap)
def eh_M (l : Launch) (y : MethodName) (ws : List Cond) (rm : Room) (D : va_G) (tys : List (ClassId × FieldType)) (av : List Value) (W0 : va_W) (b0 : Nat) (F : Option Value → va_W → Prop) (A : Nat → Prop) : Prop := Met l y ws rm (eh_P D tys av W0 b0) (ec_Q D F A) 1 6 A
section EHA
variable {p : Program} {l : Launch} {e : Env} {R : Room} {s : State} {m : MethodId} {args : Array Value} {below : List Frame} {meth : Method} {c : Code} {H : Heap} {locs : List Loc} {cells slots : Nat} {Q : State → Prop}
variable {cc : ByteArray} {pc : Nat} {ls : Array Slot} {rest : List Value} {D : va_G} {tys : List (ClassId × FieldType)} {W0 W1 : va_W} {b0 : Nat} {av : List Value} {A A0 A1 : Nat → Prop} {H0 : Heap} {F F' : Option Value → va_W → Prop}
theorem eh_mono {y : MethodName} {ws : List Cond} {rm : Room} (h : eh_M l y ws rm D tys av W0 b0 F A) (hF : ∀ v W1, F v W1 → F' v W1) : eh_M l y ws rm D tys av W0 b0 F' A := by
  have h' : MetFree l y (headSpec ws rm) (eh_P D tys av W0 b0) (fun _ _ _ _ _ => True) (fun a st o t => ec_Q D F A a st o t ∧ ∃ L, FrameEnd st o t L 1 6 ∧ ∀ q ∈ L, A q.base) := h
  show MetFree l y (headSpec ws rm) (eh_P D tys av W0 b0) (fun _ _ _ _ _ => True) (fun a st o t => ec_Q D F' A a st o t ∧ ∃ L, FrameEnd st o t L 1 6 ∧ ∀ q ∈ L, A q.base)
  refine MetFree.mono h' (fun _ _ h => h) (fun _ _ _ _ _ h => h) (fun a s o s' _ hq => ?_)
  obtain ⟨⟨⟨v, W1, h1, h2, h3⟩, h4⟩, h5⟩ := hq
  exact ⟨⟨⟨v, W1, h1, hF v W1 h2, h3⟩, h4⟩, h5⟩
theorem eh_blind : FrameBlind (eh_P D tys av W0 b0) := by
  intro a U g mk q
  obtain ⟨q0, qP, qK, qN, qZ⟩ := q
  exact ⟨q0, qP, va_K.moved (u := U) (U := U.calling g mk a) (Vm.Alike.refl U.vm) qK, eN_warm (s := U) (U := U.calling g mk a) (State.WarmedH.refl U) qN, eZ_warm (s := U) (U := U.calling g mk a) (State.WarmedH.refl U) qZ⟩
theorem eh_pre (hP : va_P D vwCl W0 H) (hK : va_K D vwCl tys s) (hN : eN s) (hZ : eZ b0 s H) : PreS s H (eh_P D tys av W0 b0) av :=
  ⟨eh_blind, fun U hU hW => ⟨rfl, by rw [hU]; exact hP, va_K.moved hW.alike hK, eN_warm hW hN, by rw [hU]; exact eZ_warm hW hZ⟩⟩
theorem eh_of {y : MethodName} {ws ws' : List Cond} {rm : Room} {maxL : Nat} {ret : Option FieldType} {hh : List (Nat × Nat × Nat × Nat)} (hy : plainName y.cls = true) (hw : ws = Cond.codeWith y cc maxL ret hh :: ws') (hlen : (lg_sl av).length ≤ maxL)
    (body : ∀ (p : Program) (e : Env) (s : State) (m : MethodId) (args : Array Value) (below : List Frame) (meth : Method) (c : Code) (ls : Array Slot), p.tables.exec = Jvm.exec → c.code = cc → meth.sig.returnType = ret → (∀ w ∈ ws, w.before args s = true) → s.vm.findClass y.cls = some m.cls → meth.locks = false → c.maxLocals = maxL → c.exceptionTable.toList = tableOf hh → va_P D vwCl W0 s.heap → va_K D vwCl tys s → eN s → eZ b0 s s.heap → lv_has ls maxL (lv_args 0 av) →
      W p l e rm s m args below meth c s.heap [] 0 0 (MQ below (ec_Q D F A) args s 1 6 A) (F0 m 0 ls [])) : eh_M l y ws rm D tys av W0 b0 F A := by
  refine va_MetW (cc := cc) (maxL := maxL) (ret := ret) (hh := hh) hy hw ?_
  intro p e s m args below meth c s₁ B hml hv
  obtain ⟨rfl, hP, hK, hN, hZ⟩ := hv
  have hl := lv_entry av (n := maxL) hlen
  have hts := atoms_spec (ws := ws) B.pre
  rw [lg_entry_eq]
  exact body p e s m _ below meth c _ B.exec B.bytes B.returns hts (findClass_of_methodNamed B.named) B.notSynchronized hml (vx_table (x := y) B (hts _ (by rw [hw]; exact List.mem_cons_self))) hP hK hN hZ hl
theorem eh_iret {v : Int32} (hexec : p.tables.exec = Jvm.exec) (hb : c.code = cc) (hr : meth.sig.returnType = some .int) (hlocks : meth.locks = false) (hP : va_P D vwCl W1 H) (hS : va_S A s.heap H locs) (hF : F (some (.int v)) W1) (hdg : decode cc pc = .ok (.ireturn, 1)) :
    W p l e R s m args below meth c H locs 1 6 (MQ below (ec_Q D F A) args s 1 6 A) (F0 m pc ls [.int v]) :=
  W.iret hexec hb hr (fun t ht _ => ⟨⟨_, W1, rfl, hF, by rw [ht]; exact hP⟩, hS.F ht⟩) hS.2.2 hdg hlocks
theorem eh_kept {H1 : Heap} (hP : va_P D vwCl W0 H) (h : ∀ z : Nat, z < H.size → H1[z]? = H[z]?) : va_P D vwCl W0 H1 :=
  hP.kept (fun k q hk => h q.1 (hP k q hk).lt)
variable {c0 : Cond} {own : String} {index nL n maxL : Nat} {y : MethodName} {bytes : ByteArray} {ret : Option FieldType} {rm : Room} {hh : List (Nat × Nat × Nat × Nat)}
/-- the law's call of a helper -/
theorem eh_S (hexec : p.tables.exec = Jvm.exec) (hb : c.code = cc) (hml : c.maxLocals = nL) (hown : s.vm.findClass own = some m.cls) (hts : ∀ w ∈ eT, w.before args s = true) (hsz : ls.size = nL)
    (hM : eh_M l y (Cond.codeWith y bytes maxL ret hh :: eT) rm D tys av W0 b0 F A1) (hc : Cond.codeWith y bytes maxL ret hh ∈ eT) (hini : Cond.initialized y.cls ∈ eT) (hl : Cond.methodLink own index y ∈ eT) (hst : Cond.static y ∈ eT)
    (hd : y.cls ≠ "java/lang/invoke/MethodHandle" ∧ y.cls ≠ "java/lang/invoke/VarHandle" ∧ (parseMethodDescriptor y.desc).map (fun d => d.parameters.length) = some n) (hrc : rm.cells = 1) (hrs : rm.slots = 6) (hR : rm.frames + 1 ≤ R.frames ∧ 8 + (maxL + 11) + rm.locals ≤ R.locals)
    (hP : va_P D vwCl W0 H) (hK : va_K D vwCl tys s) (hN : eN s) (hZ : eZ b0 s H) (hn : av.length = n) {st0 : List Value} (hstk : st0 = av.reverse ++ rest) (hroom : (rest.map fun v => v.category).sum ≤ 8) (hcl : cells + 1 ≤ R.cells ∧ slots + 6 ≤ R.slots) (hS : va_S A0 H0 H locs) (hA : ∀ q, A1 q → A0 q) (hdg : decode cc pc = .ok (.invokestatic index, 3))
    (kk : ∀ (v : Option Value) (W1 : va_W) (H1 : Heap) (locs1 : List Loc), F v W1 → va_P D vwCl W1 H1 → va_S A0 H0 H1 locs1 → H.size ≤ H1.size → (∀ q : Nat, q < H.size → ¬ A1 q → H1[q]? = H[q]?) → W p l e R s m args below meth c H1 locs1 (cells + 1) (slots + 6) Q (F0 m (pc + 3) ls (v.toList ++ rest))) : W p l e R s m args below meth c H locs cells slots Q (F0 m pc ls st0) := by
  have hG : GoodIn eT (Cond.codeWith y bytes maxL ret hh :: eT) := by
    intro w hw
    rcases List.mem_cons.mp hw with rfl | hw
    · exact ⟨hc, good_of_word (eT_g hc)⟩
    · exact ⟨hw, good_of_word (eT_g hw)⟩
  have cw : vx_CSW R s args own index y bytes maxL ret hh (Cond.codeWith y bytes maxL ret hh :: eT) rm 1 6 n :=
    ⟨⟨hrc, hrs, hR.1, hR.2, pay_in hts hG, List.mem_cons_self⟩, hts _ hc, hts _ hini, ⟨hd.1, hd.2.1⟩, fun sig h => by
      have h2 := hd.2.2
      rw [h] at h2
      exact (Option.some.inj h2).symm, hts _ hl, hts _ hst⟩
  have hr := vx_runSW (g := F0 m pc ls st0) (locs := locs) (cells := cells) (slots := slots) (p := p) (e := e) (below := below) (meth := meth) (nL := nL) (As := av) (rest := rest) (Ts := eT) ⟨hexec, hb, hml, hown, hts⟩ hM cw (eh_pre hP hK hN hZ) rfl hn hsz hstk (lv_room hroom) hdg hcl
  intro T hT X
  obtain ⟨v, st₀, t, T', L, h0, X', hL, e1, e2, ⟨⟨v', W1, hv, hF, hP1⟩, hz, hk⟩, st⟩ := hr T hT X
  cases hv
  rw [h0] at hz hk
  obtain ⟨t2, a1, b1⟩ := kk v W1 T'.heap (locs ++ L) hF (by rw [e1]; exact hP1)
    ⟨Nat.le_trans hS.1 (by rw [e1]; exact hz), fun q h1 h2 => by rw [e1, hk q (Nat.lt_of_lt_of_le h1 hS.1) (fun z => h2 (hA q z))]; exact hS.2.1 q h1 h2, fun q hq => by
      rcases List.mem_append.mp hq with h | h
      · exact hS.2.2 q h
      · exact hA _ (hL q h)⟩ (by rw [e1]; exact hz) (fun q h1 h2 => by rw [e1]; exact hk q h1 h2) T' rfl X'
  exact ⟨t2, st t2 a1, b1⟩
end EHA
