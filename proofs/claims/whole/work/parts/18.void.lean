/-! Reads that answer nothing (a check that passes). -/
def er_Qv : Array Value → State → Outcome → State → Prop := fun _ st o t => o = .returned none ∧ t.heap = st.heap
def er_Mv (l : Launch) (y : MethodName) (ws : List Cond) (rm : Room) (D : va_G) (cl : List vw_C) (tys : List (ClassId × FieldType)) (av : List Value) (W0 : va_W) : Prop := Met l y ws rm (er_P D cl tys av W0) er_Qv 0 0 (fun _ => False)
section EVA
variable {p : Program} {l : Launch} {e : Env} {R : Room} {s : State} {m : MethodId} {args : Array Value} {below : List Frame} {meth : Method} {c : Code} {H : Heap} {locs : List Loc} {cells slots : Nat} {Q : State → Prop}
variable {cc : ByteArray} {pc : Nat} {ls : Array Slot} {rest st0 : List Value} {D : va_G} {cl : List vw_C} {tys : List (ClassId × FieldType)}
theorem er_ofv {y : MethodName} {ws ws' : List Cond} {rm : Room} {maxL : Nat} {ret : Option FieldType} {av : List Value} {W0 : va_W} (hy : plainName y.cls = true) (hw : ws = Cond.code y cc maxL ret :: ws') (hlen : (lg_sl av).length ≤ maxL)
    (body : ∀ (p : Program) (e : Env) (s : State) (m : MethodId) (args : Array Value) (below : List Frame) (meth : Method) (c : Code) (ls : Array Slot), p.tables.exec = Jvm.exec → c.code = cc → meth.sig.returnType = ret → (∀ w ∈ ws, w.before args s = true) → s.vm.findClass y.cls = some m.cls → meth.locks = false → c.maxLocals = maxL → va_P D cl W0 s.heap → va_K D cl tys s → lv_has ls maxL (lv_args 0 av) →
      W p l e rm s m args below meth c s.heap [] 0 0 (MQ below er_Qv args s 0 0 (fun _ => False)) (F0 m 0 ls [])) : er_Mv l y ws rm D cl tys av W0 := by
  refine Met.ofW (cc := cc) (maxL := maxL) (ret := ret) hy hw ?_
  intro p e s m args below meth c s₁ B hml hv
  obtain ⟨rfl, hP, hK⟩ := hv
  have hl := lv_entry av (n := maxL) hlen
  rw [lg_entry_eq]
  exact body p e s m _ below meth c _ B.exec B.bytes B.returns (atoms_spec (ws := ws) B.pre) (findClass_of_methodNamed B.named) B.notSynchronized hml hP hK hl
theorem er_vret (hexec : p.tables.exec = Jvm.exec) (hb : c.code = cc) (hr : meth.sig.returnType = none) (hlocks : meth.locks = false) (hdg : decode cc pc = .ok (.return_, 1)) :
    W p l e R s m args below meth c s.heap [] 0 0 (MQ below er_Qv args s 0 0 (fun _ => False)) (F0 m pc ls []) :=
  W.vret hexec hb hr (fun t ht _ => ⟨rfl, ht⟩) (fun q h => by cases h) hdg hlocks
theorem er_callv {a : Array Value} (hr : va_Run p l e R s m args below meth c H locs cells slots 0 0 (F0 m pc ls st0) rest (er_Qv a) (fun _ => False))
    (kk : W p l e R s m args below meth c H locs cells slots Q (F0 m (pc + 3) ls rest)) : W p l e R s m args below meth c H locs cells slots Q (F0 m pc ls st0) := by
  intro T hT X
  obtain ⟨v', st₀, t, T', L, h0, X', hL, e1, -, ⟨hv, hh⟩, st⟩ := hr T hT X
  cases hv
  obtain ⟨t2, a1, b1⟩ := kk T' (by rw [e1, hh, h0]) (Stand.forget X' (fun q h => (hL q h).elim))
  exact ⟨t2, st t2 a1, b1⟩
variable {c0 : Cond} {own : String} {index nL n maxL : Nat} {y : MethodName} {bytes : ByteArray} {ret : Option FieldType} {rm : Room} {av : List Value} {W0 : va_W}
theorem er_Sv (hexec : p.tables.exec = Jvm.exec) (hb : c.code = cc) (hml : c.maxLocals = nL) (hown : s.vm.findClass own = some m.cls) (hts : ∀ w ∈ c0 :: eT, w.before args s = true) (hsz : ls.size = nL)
    (hM : er_Mv l y (Cond.code y bytes maxL ret :: eT) rm D vwCl tys av W0) (hc : Cond.code y bytes maxL ret ∈ eT) (hini : Cond.initialized y.cls ∈ eT) (hl : Cond.methodLink own index y ∈ eT) (hst : Cond.static y ∈ eT)
    (hd : y.cls ≠ "java/lang/invoke/MethodHandle" ∧ y.cls ≠ "java/lang/invoke/VarHandle" ∧ (parseMethodDescriptor y.desc).map (fun d => d.parameters.length) = some n) (hrc : rm.cells = 0) (hrs : rm.slots = 0) (hR : rm.frames + 1 ≤ R.frames ∧ 8 + (maxL + 11) + rm.locals ≤ R.locals)
    (hP : va_P D vwCl W0 H) (hK : va_K D vwCl tys s) (hn : av.length = n) {st0 : List Value} (hstk : st0 = av.reverse ++ rest) (hroom : (rest.map fun v => v.category).sum ≤ 8) (hcl : cells ≤ R.cells ∧ slots ≤ R.slots) (hdg : decode cc pc = .ok (.invokestatic index, 3))
    (kk : W p l e R s m args below meth c H locs cells slots Q (F0 m (pc + 3) ls rest)) : W p l e R s m args below meth c H locs cells slots Q (F0 m pc ls st0) :=
  er_callv (va_runS (nL := nL) (As := av) (rest := rest) ⟨hexec, hb, hml, hown, hts⟩ hM ⟨eT_B hts hc hini hl hd hrc hrs hR, eT_h hts hst⟩ (er_pre hP hK) rfl hn hsz hstk (lv_room hroom) hdg hcl) kk
end EVA
/-- the check passes -/
def ei_ok (x y : Int32) : Prop := ¬ x < 0 ∧ x ≤ y
set_option maxHeartbeats 4000000 in
set_option maxRecDepth 100000 in
theorem k_X5_requireUpTo (l : Launch) (D : va_G) (cI cZ cJ : ClassId) (x y : Int32) (hxy : ei_ok x y) : er_Mv l yX5_requireUpTo (Cond.code yX5_requireUpTo cX5_requireUpTo 2 none :: eT) ({ frames := 0, cells := 0, slots := 0, locals := 0 }) D vwCl (eTy cI cZ cJ) [.int x, .int y] [] := by
  refine er_ofv (cc := cX5_requireUpTo) (maxL := 2) (ret := none) (by decide) rfl (Nat.le_of_ble_eq_true rfl) ?_
  intro p e s m args below meth c ls hx hb hr hts hown hlk hml hP hK hl
  have hl : lv_has ls 2 [(0, .int x), (1, .int y)] := hl
  refine lv_iload_n hx hb dX5_requireUpTo_0 rfl (lv_at hl 0 rfl) ?_
  refine lv_if_lt (tgt := 9) hx hb dX5_requireUpTo_1 (by decide) (fun h => absurd h hxy.1) (fun _ => ?_)
  refine lv_iload_n hx hb dX5_requireUpTo_4 rfl (lv_at hl 0 rfl) ?_
  refine lv_iload_n hx hb dX5_requireUpTo_5 rfl (lv_at hl 1 rfl) ?_
  refine lv_icmp_le (tgt := 19) hx hb dX5_requireUpTo_6 (by decide) (fun _ => ?_) (fun h => absurd hxy.2 h)
  exact er_vret hx hb hr hlk dX5_requireUpTo_19
