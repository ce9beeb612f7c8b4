/-! The law: its loop, its start. -/
def R_law : String := "EdgeFinderLaw"
def lw_P (b : Addr) (xs : List Int32) (args : Array Value) (s : State) : Prop := args = #[.ref b] ∧ s.IntsAt b xs ∧ xs.length ≤ 2560 ∧ (Jvm.Cond.and given_1 narrow_1).before args s = true
def lw_Q (_ : Array Value) (s : State) (o : Outcome) (t : State) : Prop := o = .returned (some (.int 1)) ∧ Framed s o t [] 1042 16233
def lw_Z (below : List Frame) (a : Array Value) (s : State) : State → Prop := fun t => ∃ o, t.status = .running ∧ Ended t below o ∧ lw_Q a s o t
/-- the law's own end, with 1 on the stack, nothing written that was there before, its room as the claim has it -/
theorem lw_ret {p : Program} {l : Launch} {e : Env} {s : State} {m : MethodId} {below : List Frame} {meth : Method} {c : Code} {b : Nat} (hx : p.tables.exec = Jvm.exec) (hb : c.code = code) (hr : meth.sig.returnType = ret) (hlocks : meth.locks = false) {pc : Nat} {H : Heap} {ls : Array Slot} (hdg : decode code pc = .ok (.ireturn, 1)) : W p l e room_1 s m #[Value.ref b] below meth c H [] 1042 16233 (lw_Z below #[Value.ref b] s) (F0 m pc ls [.int 1]) := by
  intro T hT X
  obtain ⟨fs, hret, hrun, hended, hW, hframe⟩ := X.leave (v := some (.int 1)) (hlocks := hlocks) (fun h => by rw [hr] at h; cases h)
  have hmeth' : T.vm.method? m = some meth := X.method'
  refine ⟨T.setFrames fs, ?_, .returned (some (.int 1)), hrun, hended, rfl, ⟨_, rfl⟩, hW, hframe⟩
  jvm_step X.here [X.here.top, hx, hb, hdg, hmeth', hr, ret, narrow_b1]
  (try refine ⟨rfl, ?_⟩); (try refine ⟨rfl, ?_⟩)
  first | (intro acts; rw [hret _ acts rfl rfl rfl]) | rw [hret _ _ rfl rfl rfl]
  exact Steps.refl _
/-- what holds at the law's entry: the machine, the code, the tables' words (any of lw_tbl by 'hts w (by decide +kernel)'), the script of L ints xs at the cell b, what the Statement gives of the start (any of its parts by flat_of_before) -/
def lw_At (p : Program) (s : State) (m : MethodId) (meth : Method) (c : Code) (b L : Nat) (xs : Nat → Int32) : Prop :=
  p.tables.exec = Jvm.exec ∧ c.code = code ∧ meth.sig.returnType = ret ∧ c.maxLocals = 7 ∧ s.vm.findClass R_law = some m.cls ∧ (∀ w ∈ lw_tbl, w.before #[Value.ref b] s = true) ∧ va_X b L xs s s.heap ∧ b < s.heap.size ∧ meth.locks = false ∧ (Jvm.Cond.and given_1 narrow_1).before #[Value.ref b] s = true
theorem eo_lt {L k : Nat} (hL : L ≤ 2560) (hk : 5 * k ≤ L) : (Int32.ofNat L - 5 < nI (5 * k)) ↔ L < 5 * k + 5 := by
  have e1 : (Int32.ofNat L).toInt = (L : Int) := nI_toInt (n := L) (by omega)
  rw [Int32.lt_iff_toInt_lt, Int32.toInt_sub, e1, nI_toInt (by omega), show (5 : Int32).toInt = 5 by decide]
  have e2 : ((L : Int) - 5).bmod (2 ^ 32) = (L : Int) - 5 := by
    rw [Int.bmod_def]
    split <;> omega
  rw [e2]
  omega
theorem eo_inc (k : Nat) : nI (5 * k) + Int32.ofInt 5 = nI (5 * (k + 1)) := nI_add (5 * k) 5
theorem eo_and (x : Int32) : x &&& 7 = 0 ∨ x &&& 7 = 1 ∨ x &&& 7 = 2 ∨ x &&& 7 = 3 ∨ x &&& 7 = 4 ∨ x &&& 7 = 5 ∨ x &&& 7 = 6 ∨ x &&& 7 = 7 := by
  have h : (x &&& 7).toBitVec.toNat < 8 := by
    show (x.toBitVec &&& (7 : Int32).toBitVec).toNat < 8
    rw [BitVec.toNat_and]
    exact Nat.lt_of_le_of_lt Nat.and_le_right (by decide)
  have e : ∀ j : Nat, j < 8 → (x &&& 7).toBitVec.toNat = j → x &&& 7 = Int32.ofBitVec (BitVec.ofNat 32 j) := by
    intro j hj hx
    refine Int32.toBitVec_inj.mp (BitVec.eq_of_toNat_eq ?_)
    rw [hx]
    show j = (BitVec.ofNat 32 j).toNat
    rw [BitVec.toNat_ofNat]
    omega
  have e' : ∀ j : Nat, j < 8 → ∀ v : Int32, Int32.ofBitVec (BitVec.ofNat 32 j) = v → (x &&& 7).toBitVec.toNat = j → x &&& 7 = v := fun j hj v hv hx => (e j hj hx).trans hv
  rcases (show (x &&& 7).toBitVec.toNat = 0 ∨ (x &&& 7).toBitVec.toNat = 1 ∨ (x &&& 7).toBitVec.toNat = 2 ∨ (x &&& 7).toBitVec.toNat = 3 ∨ (x &&& 7).toBitVec.toNat = 4 ∨ (x &&& 7).toBitVec.toNat = 5 ∨ (x &&& 7).toBitVec.toNat = 6 ∨ (x &&& 7).toBitVec.toNat = 7 by omega) with h0 | h0 | h0 | h0 | h0 | h0 | h0 | h0
  · exact Or.inl (e' 0 (by decide) 0 (by decide) h0)
  · exact Or.inr (Or.inl (e' 1 (by decide) 1 (by decide) h0))
  · exact Or.inr (Or.inr (Or.inl (e' 2 (by decide) 2 (by decide) h0)))
  · exact Or.inr (Or.inr (Or.inr (Or.inl (e' 3 (by decide) 3 (by decide) h0))))
  · exact Or.inr (Or.inr (Or.inr (Or.inr (Or.inl (e' 4 (by decide) 4 (by decide) h0)))))
  · exact Or.inr (Or.inr (Or.inr (Or.inr (Or.inr (Or.inl (e' 5 (by decide) 5 (by decide) h0))))))
  · exact Or.inr (Or.inr (Or.inr (Or.inr (Or.inr (Or.inr (Or.inl (e' 6 (by decide) 6 (by decide) h0)))))))
  · exact Or.inr (Or.inr (Or.inr (Or.inr (Or.inr (Or.inr (Or.inr (e' 7 (by decide) 7 (by decide) h0)))))))
set_option maxHeartbeats 4000000 in
set_option maxRecDepth 100000 in
theorem o_loop {p : Program} {l : Launch} {e : Env} {s : State} {m : MethodId} {below : List Frame} {meth : Method} {c : Code} {b L : Nat} {xs : Nat → Int32} {D : va_G} {cI cZ cJ : ClassId} {ad : Nat → Nat} (C : eX p l s m c b L xs D cI cZ cJ ad) (hret : meth.sig.returnType = ret) (hlk : meth.locks = false) :
    ∀ (r k : Nat) (ls : Array Slot) (H : Heap) (locs : List Loc), L - 5 * k < r → 5 * k ≤ L → lv_has ls 7 [(0, .ref b), (1, .ref (ad 0)), (2, .ref (ad 11)), (3, .ref (ad 15)), (4, .int (nI (5 * k)))] → eL D cI cZ cJ ad k H → va_S (fun q => s.heap.size ≤ q) s.heap H locs → W p l e room_1 s m #[Value.ref b] below meth c H locs (16 + k) (8029 + 6 * k) (lw_Z below #[Value.ref b] s) (F0 m 23 ls []) := by
  intro r
  induction r with
  | zero => intro k ls H locs h; exact absurd h (Nat.not_lt_zero _)
  | succ r ih =>
    intro k ls H locs hμ hkL hl hV hS
    have C' := C
    obtain ⟨hx, hb, hml, hown, hte, hX, hbl, hK, hN, hZ0, hJ, hA, hL, hl0⟩ := C'
    refine lv_iload hx hb dL_law_23 (lv_at hl 4 rfl) ?_
    refine lv_aload_n hx hb dL_law_25 rfl (lv_at hl 0 rfl) ?_
    refine va_slen hx hb hX hbl (Nat.not_le.mpr hbl) hS dL_law_26 ?_
    refine lv_iconst (v := 5) hx hb dL_law_27 (by decide) ?_
    refine lv_isub hx hb dL_law_28 ?_
    refine lv_icmp_gt (tgt := 621) hx hb dL_law_29 (by decide) (fun h => ?_) (fun h => ?_)
    · refine lv_iconst (v := 1) hx hb dL_law_621 (by decide) ?_
      refine va_forget hS.2.2 ?_
      refine W.widen (k := 1042) (n := 16233) (by omega) (by omega) ?_
      exact lw_ret hx hb hret hlk dL_law_622
    · have h5 : 5 * k + 5 ≤ L := by
        have h6 : ¬ L < 5 * k + 5 := fun z => h ((eo_lt hL hkL).mpr z)
        omega
      have NX : ∀ (ls : Array Slot) (H : Heap) (locs : List Loc), lv_has ls 7 [(0, .ref b), (1, .ref (ad 0)), (2, .ref (ad 11)), (3, .ref (ad 15)), (4, .int (nI (5 * k)))] → eL D cI cZ cJ ad (k + 1) H → va_S (fun q => s.heap.size ≤ q) s.heap H locs → W p l e room_1 s m #[Value.ref b] below meth c H locs (16 + k + 1) (8029 + 6 * k + 6) (lw_Z below #[Value.ref b] s) (F0 m 615 ls []) := by
        intro ls H locs hl hV hS
        refine lv_iinc (k := 4) (v := nI (5 * (k + 1))) (lv' := [(4, .int (nI (5 * (k + 1)))), (0, .ref b), (1, .ref (ad 0)), (2, .ref (ad 11)), (3, .ref (ad 15))]) hx hb dL_law_615 hl rfl (eo_inc k) (Nat.le_of_ble_eq_true rfl) rfl (fun ls hl => ?_)
        refine lv_goto (tgt := 23) hx hb dL_law_618 (by decide) ?_
        refine W.widen (k := 16 + (k + 1)) (n := 8029 + 6 * (k + 1)) (by omega) (by omega) ?_
        exact ih (k + 1) ls H locs (by omega) (by omega) (lv_sub hl [1, 2, 3, 4, 0] rfl) hV hS
      refine lv_aload_n hx hb dL_law_32 rfl (lv_at hl 0 rfl) ?_
      refine lv_iload hx hb dL_law_33 (lv_at hl 4 rfl) ?_
      refine va_sld hx hb hX hbl (Nat.not_le.mpr hbl) hS (vp_in_nI (n := 5 * k) (by omega) (by omega)) dL_law_35 ?_
      refine ef_eqi (y := xs (5 * k)) (by rw [nI_clamp (by omega)]) ?_
      refine lv_bipush (v := 7) hx hb dL_law_36 (by decide) ?_
      refine lv_iand hx hb dL_law_38 ?_
      rcases eo_and (xs (5 * k)) with h0 | h0 | h0 | h0 | h0 | h0 | h0 | h0
      · refine ef_eqi (y := 0) h0 ?_
        refine lv_tableIn (off := 41) (tgt := 80) hx hb dL_law_39 (by decide) (by decide) (by decide) (by decide) ?_
        exact o_add C h5 (by omega) (by omega) hl hV hS NX
      · refine ef_eqi (y := 1) h0 ?_
        refine lv_tableIn (off := 137) (tgt := 176) hx hb dL_law_39 (by decide) (by decide) (by decide) (by decide) ?_
        exact o_set C h5 (by omega) (by omega) hl hV hS NX
      · refine ef_eqi (y := 2) h0 ?_
        refine lv_tableIn (off := 225) (tgt := 264) hx hb dL_law_39 (by decide) (by decide) (by decide) (by decide) ?_
        exact o_cut C h5 (by omega) (by omega) hl hV hS NX
      · refine ef_eqi (y := 3) h0 ?_
        refine lv_tableIn (off := 281) (tgt := 320) hx hb dL_law_39 (by decide) (by decide) (by decide) (by decide) ?_
        exact o_edge C h5 (by omega) (by omega) hl hV hS NX
      · refine ef_eqi (y := 4) h0 ?_
        refine lv_tableIn (off := 356) (tgt := 395) hx hb dL_law_39 (by decide) (by decide) (by decide) (by decide) ?_
        exact o_next C h5 (by omega) (by omega) hl hV hS NX
      · refine ef_eqi (y := 5) h0 ?_
        refine lv_tableIn (off := 452) (tgt := 491) hx hb dL_law_39 (by decide) (by decide) (by decide) (by decide) ?_
        exact o_rank C h5 (by omega) (by omega) hl hV hS NX
      · refine ef_eqi (y := 6) h0 ?_
        refine lv_tableIn (off := 520) (tgt := 559) hx hb dL_law_39 (by decide) (by decide) (by decide) (by decide) ?_
        exact o_hash C h5 (by omega) (by omega) hl hV hS NX
      · refine ef_eqi (y := 7) h0 ?_
        refine lv_tableOut (tgt := 615) hx hb dL_law_39 (by decide) (by decide) ?_
        refine W.widen (k := 16 + k + 1) (n := 8029 + 6 * k + 6) (by omega) (by omega) ?_
        exact NX ls H locs hl (eL_up hV) hS
