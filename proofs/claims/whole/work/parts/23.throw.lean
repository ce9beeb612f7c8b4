/-! A refused call: the exception, its way up, and its catching. -/
abbrev eIA : String := "java/lang/IllegalArgumentException"
abbrev eXs : List String := ["java/lang/RuntimeException", "java/lang/Exception"]
def eXat : List Cond := vx_atS RX5 82 eIA eXs
abbrev eXb : List Cond := [.declares ⟨"java/lang/RuntimeException", "<init>", "(Ljava/lang/String;)V"⟩, .declares ⟨"java/lang/Exception", "<init>", "(Ljava/lang/String;)V"⟩, .declares ⟨"java/lang/Throwable", "<init>", "(Ljava/lang/String;)V"⟩, .castable eIA eIA]
set_option maxRecDepth 100000 in
theorem eXat_t : (eXat.filter goodWord).all (fun w => decide (w ∈ lw_tbl)) = true := by decide +kernel
theorem eXat_g : ∀ w ∈ eXat.filter goodWord, w ∈ eT := fun w h => eT_m (by simpa using List.all_eq_true.mp eXat_t w h) (List.mem_filter.mp h).2
set_option maxRecDepth 100000 in
theorem eXat_b : ∀ w ∈ eXat.filter (fun w => !goodWord w), w ∈ eXb := by decide +kernel
set_option maxRecDepth 100000 in
theorem eXat_o : ∀ w ∈ Cond.classLink RX5 78 eIA :: Cond.initialized eIA :: vx_atS RX5 82 eIA eXs, vx_ot w = true := by decide +kernel
def eZ (b0 : Nat) (U : State) (H : Heap) : Prop :=
  (va_Nw (.declares ⟨"java/lang/RuntimeException", "<init>", "(Ljava/lang/String;)V"⟩) U ∧ va_Nw (.declares ⟨"java/lang/Exception", "<init>", "(Ljava/lang/String;)V"⟩) U ∧ va_Nw (.declares ⟨"java/lang/Throwable", "<init>", "(Ljava/lang/String;)V"⟩) U ∧ va_Nw (.castable eIA eIA) U) ∧
  (∃ sa : Nat, vk_R RX5 80 "a number is out of range" sa U) ∧ vx_Zq Bundle.tN "UNASSIGNED_STACK" Bundle.steD (fun q => b0 ≤ q) U H ∧ vx_Zq Bundle.tN "SUPPRESSED_SENTINEL" Bundle.listD (fun q => b0 ≤ q) U H
theorem eZ_warm {b0 : Nat} {s U : State} {H : Heap} (hW : s.WarmedH U.vm) (h : eZ b0 s H) : eZ b0 U H := by
  obtain ⟨⟨h1, h2, h3, h4⟩, ⟨sa, h5⟩, h6, h7⟩ := h
  exact ⟨⟨va_Nw.warmD hW h1, va_Nw.warmD hW h2, va_Nw.warmD hW h3, va_Nw.warmC hW h4⟩, ⟨sa, vk_R.warm hW h5⟩, vx_Zq.moved hW.alike h6, vx_Zq.moved hW.alike h7⟩
theorem eZ_kept {b0 : Nat} {s : State} {H H1 : Heap} (h : eZ b0 s H) (hk : ∀ a : Nat, a < H.size → ¬ b0 ≤ a → H1[a]? = H[a]?) : eZ b0 s H1 :=
  ⟨h.1, h.2.1, vx_Zq.kept h.2.2.1 hk, vx_Zq.kept h.2.2.2 hk⟩
def et_X : String → State → State → Prop := fun E st t => E = eIA ∧ st.heap.size ≤ t.heap.size ∧ ∀ q : Nat, q < st.heap.size → t.heap[q]? = st.heap[q]?
def et_P (D : va_G) (tys : List (ClassId × FieldType)) (av : List Value) (W0 : va_W) (b0 : Nat) : Array Value → State → Prop := va_Pc av (fun U => va_P D vwCl W0 U.heap ∧ va_K D vwCl tys U ∧ eZ b0 U U.heap)
def et_N : Array Value → State → Outcome → State → Prop := fun _ _ _ _ => False
def et_M (l : Launch) (y : MethodName) (ws : List Cond) (rm : Room) (D : va_G) (tys : List (ClassId × FieldType)) (av : List Value) (W0 : va_W) (b0 : Nat) : Prop := vx_Met l y ws rm (et_P D tys av W0 b0) et_N et_X 1 6 (fun _ => False)
section ETA
variable {p : Program} {l : Launch} {e : Env} {R : Room} {s : State} {m : MethodId} {args : Array Value} {below : List Frame} {meth : Method} {c : Code} {H : Heap} {Q : State → Prop}
variable {cc : ByteArray} {pc : Nat} {ls : Array Slot} {rest : List Value} {D : va_G} {tys : List (ClassId × FieldType)} {W0 : va_W} {b0 : Nat} {av : List Value}
theorem et_blind : FrameBlind (et_P D tys av W0 b0) := by
  intro a U g mk q
  obtain ⟨q0, qP, qK, qZ⟩ := q
  exact ⟨q0, qP, va_K.moved (u := U) (U := U.calling g mk a) (Vm.Alike.refl U.vm) qK, eZ_warm (s := U) (U := U.calling g mk a) (State.WarmedH.refl U) qZ⟩
theorem et_pre (hP : va_P D vwCl W0 H) (hK : va_K D vwCl tys s) (hZ : eZ b0 s H) : PreS s H (et_P D tys av W0 b0) av :=
  ⟨et_blind, fun U hU hW => ⟨rfl, by rw [hU]; exact hP, va_K.moved hW.alike hK, by rw [hU]; exact eZ_warm hW hZ⟩⟩
theorem et_of {y : MethodName} {ws ws' : List Cond} {rm : Room} {maxL : Nat} {ret : Option FieldType} (hy : plainName y.cls = true) (hw : ws = Cond.code y cc maxL ret :: ws') (hlen : (lg_sl av).length ≤ maxL)
    (body : ∀ (p : Program) (e : Env) (s : State) (m : MethodId) (args : Array Value) (below : List Frame) (meth : Method) (c : Code) (ls : Array Slot), p.tables.exec = Jvm.exec → c.code = cc → (∀ w ∈ ws, w.before args s = true) → s.vm.findClass y.cls = some m.cls → meth.locks = false → c.maxLocals = maxL → (∀ x ∈ c.exceptionTable.toList, False) → va_P D vwCl W0 s.heap → va_K D vwCl tys s → eZ b0 s s.heap → lv_has ls maxL (lv_args 0 av) →
      W p l e rm s m args below meth c s.heap [] 0 0 (vx_MQ below et_N et_X args s 1 6 (fun _ => False)) (F0 m 0 ls [])) : et_M l y ws rm D tys av W0 b0 := by
  refine vx_ofW (cc := cc) (maxL := maxL) (ret := ret) hy hw ?_
  intro p e s m args below meth c s₁ B hml hno hv
  obtain ⟨rfl, hP, hK, hZ⟩ := hv
  have hl := lv_entry av (n := maxL) hlen
  rw [lg_entry_eq]
  exact body p e s m _ below meth c _ B.exec B.bytes (atoms_spec (ws := ws) B.pre) (findClass_of_methodNamed B.named) B.notSynchronized hml hno hP hK hZ hl
variable {c0 : Cond} {own : String} {index nL n maxL : Nat} {y : MethodName} {bytes : ByteArray} {ret : Option FieldType} {rm : Room}
/-- a static call that throws; nothing is caught here -/
theorem et_S (hexec : p.tables.exec = Jvm.exec) (hb : c.code = cc) (hml : c.maxLocals = nL) (hown : s.vm.findClass own = some m.cls) (hts : ∀ w ∈ c0 :: eT, w.before args s = true) (hsz : ls.size = nL)
    (hM : et_M l y (Cond.code y bytes maxL ret :: eT) rm D tys av W0 b0) (hc : Cond.code y bytes maxL ret ∈ eT) (hini : Cond.initialized y.cls ∈ eT) (hl : Cond.methodLink own index y ∈ eT) (hst : Cond.static y ∈ eT)
    (hd : y.cls ≠ "java/lang/invoke/MethodHandle" ∧ y.cls ≠ "java/lang/invoke/VarHandle" ∧ (parseMethodDescriptor y.desc).map (fun d => d.parameters.length) = some n) (hrc : rm.cells = 1) (hrs : rm.slots = 6) (hR : rm.frames + 1 ≤ R.frames ∧ 8 + (maxL + 11) + rm.locals ≤ R.locals)
    (hP : va_P D vwCl W0 s.heap) (hK : va_K D vwCl tys s) (hZ : eZ b0 s s.heap) (hn : av.length = n) {st0 : List Value} (hstk : st0 = av.reverse ++ rest) (hroom : (rest.map fun v => v.category).sum ≤ 8) (hcl : 1 ≤ R.cells ∧ 6 ≤ R.slots) (hdg : decode cc pc = .ok (.invokestatic index, 3)) (hno : ∀ x ∈ c.exceptionTable.toList, False) (hlk : meth.locks = false) :
    W p l e R s m args below meth c s.heap [] 0 0 (vx_MQ below et_N et_X args s 1 6 (fun _ => False)) (F0 m pc ls st0) := by
  have hr := vx_runS (g := F0 m pc ls st0) (locs := []) (cells := 0) (slots := 0) (p := p) (e := e) (below := below) (meth := meth) (nL := nL) (As := av) (rest := rest) ⟨hexec, hb, hml, hown, hts⟩ hM ⟨eT_B hts hc hini hl hd hrc hrs hR, eT_h hts hst⟩ (et_pre hP hK hZ) rfl hn hsz hstk (lv_room hroom) hdg ⟨by omega, by omega⟩
  intro T hT X
  rcases hr T hT X with ⟨v, st₀, t, T', L, h0, X', hL, e1, e2, hq, st⟩ | ⟨q, st₀, t, T', L, E, ce, h0, X', hL, e1, e2, hq, hce, hcv, hcl9, st⟩
  · exact hq.elim
  · have hL0 : L = [] := by
      cases L with
      | nil => rfl
      | cons a L => exact (hL a List.mem_cons_self).elim
    subst hL0
    obtain ⟨rfl, hz, hk⟩ := hq
    rw [h0] at hz hk
    have K : vx_W p l e R s m args below meth c T'.heap [] 1 6 (vx_MQ below et_N et_X args s 1 6 (fun _ => False)) (F0 m pc ls rest) q :=
      vx_out (fun x hx => (hno x hx).elim) hlk (by rw [e1]; exact hce) hcv hcl9 (fun u hu hvm => ⟨rfl, by rw [hu, e1]; exact hz, fun q h => by rw [hu, e1]; exact hk q h⟩) (fun z hz => by cases hz) (Nat.le_refl _) (Nat.le_refl _)
    obtain ⟨t2, a1, b1⟩ := K T' rfl X'
    exact ⟨t2, st.trans a1, b1⟩
/-- a call on an object that throws; caught by the first row of this method's table -/
theorem et_V {b : Addr} {C : String} {q0 ci : Nat} {T : u_T} {N : Nat} {fs : List Value} {xe : ExceptionTableEntry} {suf : List ExceptionTableEntry} (hexec : p.tables.exec = Jvm.exec) (hb : c.code = cc) (hml : c.maxLocals = nL) (hown : s.vm.findClass own = some m.cls) (hts : ∀ w ∈ c0 :: eT, w.before args s = true) (hsz : ls.size = nL)
    (hM : et_M l y (Cond.code y bytes maxL ret :: eT) rm D tys (.ref b :: av) W0 b0) (hc : Cond.code y bytes maxL ret ∈ eT) (hini : Cond.initialized y.cls ∈ eT) (hl : Cond.methodLink own index y ∈ eT) (hst : Cond.instanceMethod y ∈ eT) (hse : Cond.selects C y y ∈ eT)
    (hd : y.cls ≠ "java/lang/invoke/MethodHandle" ∧ y.cls ≠ "java/lang/invoke/VarHandle" ∧ (parseMethodDescriptor y.desc).map (fun d => d.parameters.length) = some n) (hrc : rm.cells = 1) (hrs : rm.slots = 6) (hR : rm.frames + 1 ≤ R.frames ∧ 8 + (maxL + 11) + rm.locals ≤ R.locals)
    (hP : va_P D vwCl W0 s.heap) (hK : va_K D vwCl tys s) (hZ : eZ b0 s s.heap) (he : W0[q0]? = some (b, .inr (ci, fs))) (hcl0 : vwCl[ci]? = some (C, T, N)) (hn : av.length = n) {st0 : List Value} (hstk : st0 = av.reverse ++ .ref b :: rest) (hroom : (rest.map fun v => v.category).sum ≤ 8) (hcl : 1 ≤ R.cells ∧ 6 ≤ R.slots) (hdg : decode cc pc = .ok (.invokevirtual index, 3))
    (htab : c.exceptionTable.toList = xe :: suf) (hcov : covers xe pc = true) (hct : xe.catchType ≠ 0) (hlink : Cond.classLink own xe.catchType eIA ∈ eT)
    (kk : ∀ (q : Nat) (H1 : Heap), s.heap.size ≤ H1.size → (∀ z : Nat, z < s.heap.size → H1[z]? = s.heap[z]?) → W p l e R s m args below meth c H1 [] 1 6 Q (F0 m xe.handlerPc ls [.ref q])) :
    W p l e R s m args below meth c s.heap [] 0 0 Q (F0 m pc ls st0) := by
  have hr := vx_runV (g := F0 m pc ls st0) (locs := []) (cells := 0) (slots := 0) (p := p) (e := e) (below := below) (meth := meth) (nL := nL) (C := C) (b := b) (As := av) (rest := rest) ⟨hexec, hb, hml, hown, hts⟩ hM ⟨eT_B hts hc hini hl hd hrc hrs hR, eT_h hts hst, eT_h hts hse⟩ ⟨et_blind, va_recv hK hP hcl0 he, (et_pre (av := .ref b :: av) hP hK hZ).2⟩ rfl hn hsz hstk (lv_room hroom) hdg ⟨by omega, by omega⟩
  intro T hT X
  rcases hr T hT X with ⟨v, st₀, t, T', L, h0, X', hL, e1, e2, hq, st⟩ | ⟨q, st₀, t, T', L, E, ce, h0, X', hL, e1, e2, hq, hce, hcv, hcl9, st⟩
  · exact hq.elim
  · have hL0 : L = [] := by
      cases L with
      | nil => rfl
      | cons a L => exact (hL a List.mem_cons_self).elim
    subst hL0
    obtain ⟨rfl, hz, hk⟩ := hq
    rw [h0] at hz hk
    have K : vx_W p l e R s m args below meth c T'.heap [] 1 6 Q (F0 m pc ls rest) q :=
      vx_catch (own := own) (name := eIA) (E := eIA) (ce := ce) hown [] xe suf htab (fun z hz => by cases hz) hcov hct (eT_h hts hlink) (va_Nw.use rfl hZ.1.2.2.2) (by rw [e1]; exact hce) hcv hcl9 (kk q T'.heap (by rw [e1]; exact hz) (fun z h => by rw [e1]; exact hk z h))
    obtain ⟨t2, a1, b1⟩ := K T' rfl X'
    exact ⟨t2, st.trans a1, b1⟩
end ETA
set_option maxHeartbeats 4000000 in
set_option maxRecDepth 100000 in
/-- the check that refuses -/
theorem t_X5_requireUpTo (l : Launch) (hl0 : l.stackTraces = false) (D : va_G) (cI cZ cJ : ClassId) (W0 : va_W) (b0 : Nat) (x y : Int32) (hbad : ¬ ei_ok x y) : et_M l yX5_requireUpTo (Cond.code yX5_requireUpTo cX5_requireUpTo 2 none :: eT) ({ frames := 6, cells := 1, slots := 6, locals := 82 }) D (eTy cI cZ cJ) [.int x, .int y] W0 b0 := by
  refine et_of (cc := cX5_requireUpTo) (maxL := 2) (ret := none) (by decide) rfl (Nat.le_of_ble_eq_true rfl) ?_
  intro p e s m args below meth c ls hx hb hts hown hlk hml hno hP hK hZ hl
  have hown : s.vm.findClass RX5 = some m.cls := hown
  have hl : lv_has ls 2 [(0, .int x), (1, .int y)] := hl
  have T9 : W p l e { frames := 6, cells := 1, slots := 6, locals := 82 } s m args below meth c s.heap [] 0 0 (vx_MQ below et_N et_X args s 1 6 (fun _ => False)) (F0 m 9 ls []) := by
    obtain ⟨⟨h1, h2, h3, h4⟩, ⟨sa, h5⟩, h6, h7⟩ := hZ
    exact vx_throwS (own := RX5) (cls := eIA) (text := "a number is out of range") (names := eXs) (A := fun q => b0 ≤ q) (rest := []) hx hb hl0 hown (by decide) (by decide) (eT_h hts tw130) (eT_h hts tw11) h5
      (vx_hat (L := eXat) (B := eXb) (fun w hw => eT_h hts (eXat_g w hw)) eXat_b (vx_c (va_Nw.use rfl h1) (vx_c (va_Nw.use rfl h2) (vx_c (va_Nw.use rfl h3) (vx_c (va_Nw.use rfl h4) vx_n))))) eXat_o h6 h7 va_S.rf (hl.1.trans hml.symm)
      dX5_requireUpTo_9 dX5_requireUpTo_12 dX5_requireUpTo_13 dX5_requireUpTo_15 dX5_requireUpTo_18 (fun x hx => (hno x hx).elim) (Nat.le_of_ble_eq_true rfl) (Nat.le_of_ble_eq_true rfl) (Nat.le_of_ble_eq_true rfl) (Nat.le_of_ble_eq_true rfl) hlk
      (fun t h1 h2 h3 => ⟨rfl, h2, h3⟩) (fun z hz => by cases hz) (Nat.le_refl _) (Nat.le_refl _)
  refine lv_iload_n hx hb dX5_requireUpTo_0 rfl (lv_at hl 0 rfl) ?_
  refine lv_if_lt (tgt := 9) hx hb dX5_requireUpTo_1 (by decide) (fun _ => T9) (fun h1 => ?_)
  refine lv_iload_n hx hb dX5_requireUpTo_4 rfl (lv_at hl 0 rfl) ?_
  refine lv_iload_n hx hb dX5_requireUpTo_5 rfl (lv_at hl 1 rfl) ?_
  exact lv_icmp_le (tgt := 19) hx hb dX5_requireUpTo_6 (by decide) (fun h2 => absurd ⟨h1, h2⟩ hbad) (fun _ => T9)
