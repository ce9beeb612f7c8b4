/-! One step of the law: the class is asked, then the reference, and they are compared. -/
def eX (p : Program) (l : Launch) (s : State) (m : MethodId) (c : Code) (b L : Nat) (xs : Nat → Int32) (D : va_G) (cI cZ cJ : ClassId) (ad : Nat → Nat) : Prop :=
  p.tables.exec = Jvm.exec ∧ c.code = cL_law ∧ c.maxLocals = 7 ∧ s.vm.findClass RL = some m.cls ∧ (∀ w ∈ eT, w.before #[Value.ref b] s = true) ∧ va_X b L xs s s.heap ∧ b < s.heap.size ∧ va_K D vwCl (eTy cI cZ cJ) s ∧ eN s ∧ eZ s.heap.size s s.heap ∧ eJ ad ∧ (∀ q, eA ad q → s.heap.size ≤ q) ∧ L ≤ 2560 ∧ l.stackTraces = false
/-- class and reference hold the same row; at most k places -/
def eL (D : va_G) (cI cZ cJ : ClassId) (ad : Nat → Nat) (k : Nat) (H : Heap) : Prop :=
  ∃ (n : Nat) (g w : Nat → Int32) (P gm wm : Nat → Bool) (gs wz : Bool) (gb : Int32) (go gp gj : Bool) (wb wl wk : Int32) (wo : Bool) (fa : Int32) (o : Nat → Int64), n ≤ k ∧ (∀ j, w j ≠ -1) ∧ eI n g w P gm wm gs wz ∧ va_P D vwCl (cw ad cI cZ cJ n g w P gm wm gs wz gb go gp gj wb wl wk wo fa n g w P o) H
theorem eL_up {D : va_G} {cI cZ cJ : ClassId} {ad : Nat → Nat} {k : Nat} {H : Heap} (h : eL D cI cZ cJ ad k H) : eL D cI cZ cJ ad (k + 1) H := by
  obtain ⟨n, g, w, P, gm, wm, gs, wz, gb, go, gp, gj, wb, wl, wk, wo, fa, o, hn, h⟩ := h
  exact ⟨n, g, w, P, gm, wm, gs, wz, gb, go, gp, gj, wb, wl, wk, wo, fa, o, by omega, h⟩
theorem eo_ne {w : Nat → Int32} {y : Int32} (h : ∀ j, w j ≠ -1) (hy : ei_ok y 18) (n : Nat) : ∀ j, upd w n y j ≠ -1 := by
  intro j
  unfold upd
  split
  · intro h9
    subst h9
    exact hy.1 (by decide)
  · exact h j
theorem eo_st (n : Nat) (g w : Nat → Int32) (P gm wm : Nat → Bool) : eI n g w P gm wm true true := ⟨fun h => Bool.noConfusion h, fun h => Bool.noConfusion h⟩
theorem eo_i {z : Int32} {n : Nat} (hn : n ≤ 1000) (h : ei_ok z (nI n)) : ∃ i : Nat, i ≤ n ∧ z = nI i := nI_of2 (nI_toInt (by omega)) h.1 h.2
theorem eo_i1 {z : Int32} {n : Nat} (hn : n ≤ 1000) (h : ei_ok z (nI n - 1)) : ∃ i : Nat, i < n ∧ z = nI i := by
  cases n with
  | zero =>
    exfalso
    have h2 := h.2
    rw [nI_0, show (0 : Int32) - 1 = -1 by decide, Int32.le_iff_toInt_le] at h2
    have h1 := h.1
    rw [Int32.lt_iff_toInt_lt] at h1
    simp at h1 h2
    omega
  | succ n =>
    have h2 := h.2
    rw [nI_pred] at h2
    obtain ⟨i, h3, h4⟩ := nI_of2 (n := n) (nI_toInt (by omega)) h.1 h2
    exact ⟨i, by omega, h4⟩
theorem eo_cmp (x : Int64) : lg_cmp x x = 0 := by simp [lg_cmp]
theorem eo_u (o : Nat → Int64) (v : Int64) : vp_updL o 0 v 0 = v := by simp [vp_updL]
theorem eo_bd (x : Int32) (b : Bool) (h : b = decide (x ≠ 0)) : ef_b (decide (x ≠ 0)) = ef_b b := by rw [h]
section EWA
variable {p : Program} {l : Launch} {e : Env} {R : Room} {s : State} {m : MethodId} {args : Array Value} {below : List Frame} {meth : Method} {c : Code} {H : Heap} {locs : List Loc} {cells slots : Nat} {Q : State → Prop}
variable {cc : ByteArray} {pc : Nat} {ls : Array Slot} {rest : List Value}
theorem eo_b {x : Int32} {t1 t2 : Nat} (hx : p.tables.exec = Jvm.exec) (hb : c.code = cc) (h1 : decode cc pc = .ok (.ifCond .eq 7, 3)) (h2 : decode cc (pc + 3) = .ok (.iconst 1, 1)) (h3 : decode cc (pc + 3 + 1) = .ok (.goto 4, 3)) (h4 : decode cc t1 = .ok (.iconst 0, 1)) (e1 : t1 = pc + 7) (e2 : t2 = pc + 8)
    (kk : W p l e R s m args below meth c H locs cells slots Q (F0 m t2 ls (.int (ef_b (decide (x ≠ 0))) :: rest))) : W p l e R s m args below meth c H locs cells slots Q (F0 m pc ls (.int x :: rest)) := by
  subst e1
  subst e2
  refine lv_if_eq (tgt := pc + 7) hx hb h1 (by omega) (fun h => ?_) (fun h => ?_)
  · refine lv_iconst (v := 0) hx hb h4 (by decide) ?_
    have e0 : ef_b (decide (x ≠ 0)) = 0 := by simp [ef_b, h]
    rw [e0] at kk
    exact kk
  · refine lv_iconst (v := 1) hx hb h2 (by decide) ?_
    refine lv_goto (tgt := pc + 8) hx hb h3 (by omega) ?_
    have e0 : ef_b (decide (x ≠ 0)) = 1 := by simp [ef_b, h]
    rw [e0] at kk
    exact kk
theorem eo_l {v : Bool} {t1 t2 : Nat} (hx : p.tables.exec = Jvm.exec) (hb : c.code = cc) (h1 : decode cc pc = .ok (.ifCond .eq 7, 3)) (h2 : decode cc (pc + 3) = .ok (.lconst 1, 1)) (h3 : decode cc (pc + 3 + 1) = .ok (.goto 4, 3)) (h4 : decode cc t1 = .ok (.lconst 0, 1)) (e1 : t1 = pc + 7) (e2 : t2 = pc + 8)
    (kk : W p l e R s m args below meth c H locs cells slots Q (F0 m t2 ls (.long (ef_l v) :: rest))) : W p l e R s m args below meth c H locs cells slots Q (F0 m pc ls (.int (ef_b v) :: rest)) := by
  subst e1
  subst e2
  refine ef_if_eq (tgt := pc + 7) hx hb h1 (by omega) (fun h => ?_) (fun h => ?_)
  · refine lv_lconst (v := 0) hx hb h4 (by decide) ?_
    subst h
    exact kk
  · refine lv_lconst (v := 1) hx hb h2 (by decide) ?_
    refine lv_goto (tgt := pc + 8) hx hb h3 (by omega) ?_
    subst h
    exact kk
end EWA

set_option maxHeartbeats 4000000 in
set_option maxRecDepth 100000 in
theorem o_add {p : Program} {l : Launch} {e : Env} {s : State} {m : MethodId} {below : List Frame} {meth : Method} {c : Code} {b L : Nat} {xs : Nat → Int32} {D : va_G} {cI cZ cJ : ClassId} {ad : Nat → Nat} {Q : State → Prop} (C : eX p l s m c b L xs D cI cZ cJ ad) {k cells slots : Nat} (hkL : 5 * k + 5 ≤ L) (hce : cells + 1 ≤ 1042) (hsl : slots + 6 ≤ 16233) {ls : Array Slot} {H : Heap} {locs : List Loc} (hl : lv_has ls 7 [(0, .ref b), (1, .ref (ad 0)), (2, .ref (ad 11)), (3, .ref (ad 15)), (4, .int (nI (5 * k)))]) (hV : eL D cI cZ cJ ad k H) (hS : va_S (fun q => s.heap.size ≤ q) s.heap H locs)
    (kk : ∀ (ls : Array Slot) (H : Heap) (locs : List Loc), lv_has ls 7 [(0, .ref b), (1, .ref (ad 0)), (2, .ref (ad 11)), (3, .ref (ad 15)), (4, .int (nI (5 * k)))] → eL D cI cZ cJ ad (k + 1) H → va_S (fun q => s.heap.size ≤ q) s.heap H locs → W p l e room_1 s m #[Value.ref b] below meth c H locs (cells + 1) (slots + 6) Q (F0 m 615 ls [])) :
    W p l e room_1 s m #[Value.ref b] below meth c H locs cells slots Q (F0 m 80 ls []) := by
  obtain ⟨hx, hb, hml, hown, hte, hX, hbl, hK, hN, hZ0, hJ, hA, hL, hl0⟩ := C
  have hts : ∀ w ∈ Cond.initialized RX5 :: eT, w.before #[Value.ref b] s = true := List.forall_mem_cons.mpr ⟨hte _ tw1, hte⟩
  obtain ⟨n, g, w, P, gm, wm, gs, wz, gb, go, gp, gj, wb, wl, wk, wo, fa, o, hn, hw, hI, hP⟩ := hV
  obtain ⟨bb, hbb⟩ : ∃ bb, bb = decide (xs (5 * k + 3) ≠ 0) := ⟨_, rfl⟩
  refine lv_aload_n hx hb dL_law_80 rfl (lv_at hl 1 rfl) ?_
  refine lv_aload_n hx hb dL_law_81 rfl (lv_at hl 0 rfl) ?_
  refine lv_iload hx hb dL_law_82 (lv_at hl 4 rfl) ?_
  refine lv_iconst (v := 1) hx hb dL_law_84 (by decide) ?_
  refine lv_iadd hx hb dL_law_85 ?_
  refine ef_eqi (y := nI (5 * k + 1)) (nI_add (5 * k) 1) ?_
  refine va_sld hx hb hX hbl (Nat.not_le.mpr hbl) hS (vp_in_nI (n := 5 * k + 1) (by omega) (by omega)) dL_law_86 ?_
  refine ef_eqi (y := xs (5 * k + 1)) (by rw [nI_clamp (by omega)]) ?_
  refine lv_aload_n hx hb dL_law_87 rfl (lv_at hl 0 rfl) ?_
  refine lv_iload hx hb dL_law_88 (lv_at hl 4 rfl) ?_
  refine lv_iconst (v := 2) hx hb dL_law_90 (by decide) ?_
  refine lv_iadd hx hb dL_law_91 ?_
  refine ef_eqi (y := nI (5 * k + 2)) (nI_add (5 * k) 2) ?_
  refine va_sld hx hb hX hbl (Nat.not_le.mpr hbl) hS (vp_in_nI (n := 5 * k + 2) (by omega) (by omega)) dL_law_92 ?_
  refine ef_eqi (y := xs (5 * k + 2)) (by rw [nI_clamp (by omega)]) ?_
  refine lv_aload_n hx hb dL_law_93 rfl (lv_at hl 0 rfl) ?_
  refine lv_iload hx hb dL_law_94 (lv_at hl 4 rfl) ?_
  refine lv_iconst (v := 3) hx hb dL_law_96 (by decide) ?_
  refine lv_iadd hx hb dL_law_97 ?_
  refine ef_eqi (y := nI (5 * k + 3)) (nI_add (5 * k) 3) ?_
  refine va_sld hx hb hX hbl (Nat.not_le.mpr hbl) hS (vp_in_nI (n := 5 * k + 3) (by omega) (by omega)) dL_law_98 ?_
  refine ef_eqi (y := xs (5 * k + 3)) (by rw [nI_clamp (by omega)]) ?_
  refine eo_b (t1 := 106) (t2 := 107) hx hb dL_law_99 dL_law_102 dL_law_103 dL_law_106 rfl rfl ?_
  refine ef_eqi (y := ef_b bb) (congrArg ef_b hbb.symm) ?_
  refine lv_aload_n hx hb dL_law_107 rfl (lv_at hl 3 rfl) ?_
  by_cases hq : ei_ok (xs (5 * k + 1)) 13 ∧ ei_ok (xs (5 * k + 2)) 18
  · skip
    have hZ : eZ s.heap.size s H := eZ_kept hZ0 (fun a h1 h2 => hS.2.1 a h1 h2)
    refine eh_S (own := RL) (n := 5) (av := [.ref (ad 0), .int (xs (5 * k + 1)), .int (xs (5 * k + 2)), .int (ef_b bb), .ref (ad 15)]) (rest := []) hx hb hml hown hte hl.1 (h_add l D cI cZ cJ ad hJ s.heap.size n g w P gm wm gs wz gb go gp gj wb wl wk wo fa n g w P o (xs (5 * k + 1)) (xs (5 * k + 2)) bb hq.1 hq.2 (by omega)) tw120 tw0 tw118 tw119 yd_L_add rfl rfl ⟨Nat.le_of_ble_eq_true rfl, Nat.le_of_ble_eq_true rfl⟩ hP hK hN hZ rfl rfl (Nat.le_of_ble_eq_true rfl) ⟨hce, hsl⟩ hS hA dL_law_108 (fun v9 W9 H locs hF hP hS hz9 hk9 => ?_)
    obtain ⟨rfl, rfl⟩ := hF
    refine W.eq (g2 := F0 m 111 ls [.int 0]) rfl ?_
    refine lv_istore (lv' := [(5, .int 0), (0, .ref b), (1, .ref (ad 0)), (2, .ref (ad 11)), (3, .ref (ad 15)), (4, .int (nI (5 * k)))]) hx hb dL_law_111 hl (Nat.le_of_ble_eq_true rfl) rfl (fun ls hl => ?_)
    refine lv_aload_n hx hb dL_law_113 rfl (lv_at hl 3 rfl) ?_
    refine lv_aload_n hx hb dL_law_114 rfl (lv_at hl 1 rfl) ?_
    refine lv_iload hx hb dL_law_115 (lv_at hl 5 rfl) ?_
    refine lv_iconst (v := 1) hx hb dL_law_117 (by decide) ?_
    refine lv_iadd hx hb dL_law_118 ?_
    refine ef_eqi (y := nI (5 * k + 1)) (nI_add (5 * k) 1) ?_
    refine va_sld hx hb hX hbl (Nat.not_le.mpr hbl) hS (vp_in_nI (n := 5 * k + 1) (by omega) (by omega)) dL_law_119 ?_
    refine ef_eqi (y := xs (5 * k + 1)) (by rw [nI_clamp (by omega)]) ?_
    refine lv_aload_n hx hb dL_law_120 rfl (lv_at hl 1 rfl) ?_
    refine lv_iload hx hb dL_law_121 (lv_at hl 5 rfl) ?_
    refine lv_iconst (v := 2) hx hb dL_law_123 (by decide) ?_
    refine lv_iadd hx hb dL_law_124 ?_
    refine ef_eqi (y := nI (5 * k + 2)) (nI_add (5 * k) 2) ?_
    refine va_sld hx hb hX hbl (Nat.not_le.mpr hbl) hS (vp_in_nI (n := 5 * k + 2) (by omega) (by omega)) dL_law_125 ?_
    refine ef_eqi (y := xs (5 * k + 2)) (by rw [nI_clamp (by omega)]) ?_
    refine lv_aload_n hx hb dL_law_126 rfl (lv_at hl 1 rfl) ?_
    refine lv_iload hx hb dL_law_127 (lv_at hl 5 rfl) ?_
    refine lv_iconst (v := 3) hx hb dL_law_129 (by decide) ?_
    refine lv_iadd hx hb dL_law_130 ?_
    refine ef_eqi (y := nI (5 * k + 3)) (nI_add (5 * k) 3) ?_
    refine va_sld hx hb hX hbl (Nat.not_le.mpr hbl) hS (vp_in_nI (n := 5 * k + 3) (by omega) (by omega)) dL_law_131 ?_
    refine ef_eqi (y := xs (5 * k + 3)) (by rw [nI_clamp (by omega)]) ?_
    refine eo_b (t1 := 139) (t2 := 140) hx hb dL_law_132 dL_law_135 dL_law_136 dL_law_139 rfl rfl ?_
    refine ef_eqi (y := ef_b bb) (congrArg ef_b hbb.symm) ?_
    refine ec_V (own := RL) (C := RX6) (b := ad 11) (rest := []) hx hb hml hown hts hl.1 (c_X6_add l D cI cZ cJ ad hJ (n + 1) (upd g n (xs (5 * k + 1))) (upd w n (xs (5 * k + 2))) (ef_up P n bb) gm wm true true gb go gp gj wb wl wk wo fa n g w P (vp_updL o 0 ((nI (n + 1)).toInt64)) (xs (5 * k + 1)) (xs (5 * k + 2)) bb hq.1 hq.2 (by omega)) tw390 tw7 tw387 tw388 tw389 yd_X6_add rfl rfl ⟨Nat.le_of_ble_eq_true rfl, Nat.le_of_ble_eq_true rfl⟩ hP hK hN hP (q0 := 11) rfl rfl rfl rfl (Nat.le_of_ble_eq_true rfl) ⟨hce, hsl⟩ hS hA dL_law_140 (fun v9 W9 H locs hF hP hS hz9 hk9 => ?_)
    obtain ⟨rfl, rfl⟩ := hF
    refine W.eq (g2 := F0 m 143 ls [.int (nI (n + 1))]) rfl ?_
    refine lv_istore (lv' := [(6, .int (nI (n + 1))), (5, .int 0), (0, .ref b), (1, .ref (ad 0)), (2, .ref (ad 11)), (3, .ref (ad 15)), (4, .int (nI (5 * k)))]) hx hb dL_law_143 hl (Nat.le_of_ble_eq_true rfl) rfl (fun ls hl => ?_)
    refine lv_aload_n hx hb dL_law_145 rfl (lv_at hl 4 rfl) ?_
    have hPt := hP.sub (ws' := [(ad 11, .inr (5, [.int 0, .int (nI (n + 1)), .ref (ad 12), .ref (ad 13), .ref (ad 14)])), (ad 12, .inl (cI, 1000, .inl (upd g n (xs (5 * k + 1))))), (ad 13, .inl (cI, 1000, .inl (upd w n (xs (5 * k + 2))))), (ad 14, .inl (cZ, 1000, .inl (fun j => ef_b ((ef_up P n bb) j))))]) [11, 12, 13, 14] rfl
    refine er_V (own := RL) (C := RX6) (b := ad 11) (rest := []) hx hb hml hown hts hl.1 (k_X6_thrown l D cI cZ cJ (ad 11) (ad 12) (ad 13) (ad 14) 0 (n + 1) (upd g n (xs (5 * k + 1))) (upd w n (xs (5 * k + 2))) (ef_up P n bb)) tw386 tw7 tw383 tw384 tw385 yd_X6_thrown rfl rfl ⟨Nat.le_of_ble_eq_true rfl, Nat.le_of_ble_eq_true rfl⟩ hPt hK hP (q0 := 11) rfl rfl rfl rfl (Nat.le_of_ble_eq_true rfl) ⟨hce, hsl⟩ dL_law_146 ?_
    refine lv_iload hx hb dL_law_149 (lv_at hl 1 rfl) ?_
    refine lv_icmp_eq (tgt := 156) hx hb dL_law_151 (by decide) (fun h1 => ?_) (fun h1 => ?_)
    · skip
      refine lv_iload hx hb dL_law_156 (lv_at hl 1 rfl) ?_
      refine lv_if_ne (tgt := 173) hx hb dL_law_158 (by decide) (fun h2 => ?_) (fun h2 => ?_)
      · skip
        exact absurd rfl h2
      · skip
        refine lv_aload_n hx hb dL_law_161 rfl (lv_at hl 5 rfl) ?_
        refine lv_iconst (v := 0) hx hb dL_law_162 (by decide) ?_
        refine va_lald hx hb hK hP 15 2 rfl rfl (vp_in_nI (n := 0) (by omega) (by decide)) dL_law_163 ?_
        refine ef_eql (y := (vp_updL o 0 ((nI (n + 1)).toInt64)) 0) rfl ?_
        refine ef_eql (y := (nI (n + 1)).toInt64) (eo_u _ _) ?_
        refine lv_iload hx hb dL_law_164 (lv_at hl 0 rfl) ?_
        refine lv_i2l (v := (nI (n + 1)).toInt64) hx hb dL_law_166 rfl ?_
        refine W.lcmp hx hb dL_law_167 ?_
        refine lv_if_eq (tgt := 173) hx hb dL_law_168 (by decide) (fun h3 => ?_) (fun h3 => ?_)
        · skip
          refine lv_goto (tgt := 615) hx hb dL_law_173 (by decide) ?_
          exact kk ls H locs (lv_sub hl [2, 3, 4, 5, 6] rfl) ⟨n + 1, upd g n (xs (5 * k + 1)), upd w n (xs (5 * k + 2)), ef_up P n bb, gm, wm, true, true, gb, go, gp, gj, wb, wl, wk, wo, 0, vp_updL o 0 ((nI (n + 1)).toInt64), by omega, eo_ne hw hq.2 n, eo_st _ _ _ _ _ _, hP⟩ hS
        · skip
          exact absurd (eo_cmp _) h3
    · skip
      exact absurd rfl h1
  · skip
    have hZ : eZ s.heap.size s H := eZ_kept hZ0 (fun a h1 h2 => hS.2.1 a h1 h2)
    refine eh_S (own := RL) (n := 5) (av := [.ref (ad 0), .int (xs (5 * k + 1)), .int (xs (5 * k + 2)), .int (ef_b bb), .ref (ad 15)]) (rest := []) hx hb hml hown hte hl.1 (h_add_bad l hl0 D cI cZ cJ ad hJ s.heap.size n g w P gm wm gs wz gb go gp gj wb wl wk wo fa n g w P o (xs (5 * k + 1)) (xs (5 * k + 2)) bb hq) tw120 tw0 tw118 tw119 yd_L_add rfl rfl ⟨Nat.le_of_ble_eq_true rfl, Nat.le_of_ble_eq_true rfl⟩ hP hK hN hZ rfl rfl (Nat.le_of_ble_eq_true rfl) ⟨hce, hsl⟩ hS hA dL_law_108 (fun v9 W9 H locs hF hP hS hz9 hk9 => ?_)
    obtain ⟨rfl, rfl⟩ := hF
    refine W.eq (g2 := F0 m 111 ls [.int 1]) rfl ?_
    refine lv_istore (lv' := [(5, .int 1), (0, .ref b), (1, .ref (ad 0)), (2, .ref (ad 11)), (3, .ref (ad 15)), (4, .int (nI (5 * k)))]) hx hb dL_law_111 hl (Nat.le_of_ble_eq_true rfl) rfl (fun ls hl => ?_)
    refine lv_aload_n hx hb dL_law_113 rfl (lv_at hl 3 rfl) ?_
    refine lv_aload_n hx hb dL_law_114 rfl (lv_at hl 1 rfl) ?_
    refine lv_iload hx hb dL_law_115 (lv_at hl 5 rfl) ?_
    refine lv_iconst (v := 1) hx hb dL_law_117 (by decide) ?_
    refine lv_iadd hx hb dL_law_118 ?_
    refine ef_eqi (y := nI (5 * k + 1)) (nI_add (5 * k) 1) ?_
    refine va_sld hx hb hX hbl (Nat.not_le.mpr hbl) hS (vp_in_nI (n := 5 * k + 1) (by omega) (by omega)) dL_law_119 ?_
    refine ef_eqi (y := xs (5 * k + 1)) (by rw [nI_clamp (by omega)]) ?_
    refine lv_aload_n hx hb dL_law_120 rfl (lv_at hl 1 rfl) ?_
    refine lv_iload hx hb dL_law_121 (lv_at hl 5 rfl) ?_
    refine lv_iconst (v := 2) hx hb dL_law_123 (by decide) ?_
    refine lv_iadd hx hb dL_law_124 ?_
    refine ef_eqi (y := nI (5 * k + 2)) (nI_add (5 * k) 2) ?_
    refine va_sld hx hb hX hbl (Nat.not_le.mpr hbl) hS (vp_in_nI (n := 5 * k + 2) (by omega) (by omega)) dL_law_125 ?_
    refine ef_eqi (y := xs (5 * k + 2)) (by rw [nI_clamp (by omega)]) ?_
    refine lv_aload_n hx hb dL_law_126 rfl (lv_at hl 1 rfl) ?_
    refine lv_iload hx hb dL_law_127 (lv_at hl 5 rfl) ?_
    refine lv_iconst (v := 3) hx hb dL_law_129 (by decide) ?_
    refine lv_iadd hx hb dL_law_130 ?_
    refine ef_eqi (y := nI (5 * k + 3)) (nI_add (5 * k) 3) ?_
    refine va_sld hx hb hX hbl (Nat.not_le.mpr hbl) hS (vp_in_nI (n := 5 * k + 3) (by omega) (by omega)) dL_law_131 ?_
    refine ef_eqi (y := xs (5 * k + 3)) (by rw [nI_clamp (by omega)]) ?_
    refine eo_b (t1 := 139) (t2 := 140) hx hb dL_law_132 dL_law_135 dL_law_136 dL_law_139 rfl rfl ?_
    refine ef_eqi (y := ef_b bb) (congrArg ef_b hbb.symm) ?_
    refine ec_V (own := RL) (C := RX6) (b := ad 11) (rest := []) hx hb hml hown hts hl.1 (c_X6_add_bad l D cI cZ cJ ad hJ n g w P gm wm gs wz gb go gp gj wb wl wk wo fa n g w P o (xs (5 * k + 1)) (xs (5 * k + 2)) bb hq) tw390 tw7 tw387 tw388 tw389 yd_X6_add rfl rfl ⟨Nat.le_of_ble_eq_true rfl, Nat.le_of_ble_eq_true rfl⟩ hP hK hN hP (q0 := 11) rfl rfl rfl rfl (Nat.le_of_ble_eq_true rfl) ⟨hce, hsl⟩ hS hA dL_law_140 (fun v9 W9 H locs hF hP hS hz9 hk9 => ?_)
    obtain ⟨rfl, rfl⟩ := hF
    refine W.eq (g2 := F0 m 143 ls [.int 0]) rfl ?_
    refine lv_istore (lv' := [(6, .int 0), (5, .int 1), (0, .ref b), (1, .ref (ad 0)), (2, .ref (ad 11)), (3, .ref (ad 15)), (4, .int (nI (5 * k)))]) hx hb dL_law_143 hl (Nat.le_of_ble_eq_true rfl) rfl (fun ls hl => ?_)
    refine lv_aload_n hx hb dL_law_145 rfl (lv_at hl 4 rfl) ?_
    have hPt := hP.sub (ws' := [(ad 11, .inr (5, [.int 1, .int (nI n), .ref (ad 12), .ref (ad 13), .ref (ad 14)])), (ad 12, .inl (cI, 1000, .inl g)), (ad 13, .inl (cI, 1000, .inl w)), (ad 14, .inl (cZ, 1000, .inl (fun j => ef_b (P j))))]) [11, 12, 13, 14] rfl
    refine er_V (own := RL) (C := RX6) (b := ad 11) (rest := []) hx hb hml hown hts hl.1 (k_X6_thrown l D cI cZ cJ (ad 11) (ad 12) (ad 13) (ad 14) 1 n g w P) tw386 tw7 tw383 tw384 tw385 yd_X6_thrown rfl rfl ⟨Nat.le_of_ble_eq_true rfl, Nat.le_of_ble_eq_true rfl⟩ hPt hK hP (q0 := 11) rfl rfl rfl rfl (Nat.le_of_ble_eq_true rfl) ⟨hce, hsl⟩ dL_law_146 ?_
    refine lv_iload hx hb dL_law_149 (lv_at hl 1 rfl) ?_
    refine lv_icmp_eq (tgt := 156) hx hb dL_law_151 (by decide) (fun h4 => ?_) (fun h4 => ?_)
    · skip
      refine lv_iload hx hb dL_law_156 (lv_at hl 1 rfl) ?_
      refine lv_if_ne (tgt := 173) hx hb dL_law_158 (by decide) (fun h5 => ?_) (fun h5 => ?_)
      · skip
        refine lv_goto (tgt := 615) hx hb dL_law_173 (by decide) ?_
        exact kk ls H locs (lv_sub hl [2, 3, 4, 5, 6] rfl) ⟨n, g, w, P, gm, wm, gs, wz, gb, go, gp, gj, wb, wl, wk, wo, 1, o, by omega, hw, hI, hP⟩ hS
      · skip
        exact absurd h5 (by decide)
    · skip
      exact absurd rfl h4

set_option maxHeartbeats 4000000 in
set_option maxRecDepth 100000 in
theorem o_set {p : Program} {l : Launch} {e : Env} {s : State} {m : MethodId} {below : List Frame} {meth : Method} {c : Code} {b L : Nat} {xs : Nat → Int32} {D : va_G} {cI cZ cJ : ClassId} {ad : Nat → Nat} {Q : State → Prop} (C : eX p l s m c b L xs D cI cZ cJ ad) {k cells slots : Nat} (hkL : 5 * k + 5 ≤ L) (hce : cells + 1 ≤ 1042) (hsl : slots + 6 ≤ 16233) {ls : Array Slot} {H : Heap} {locs : List Loc} (hl : lv_has ls 7 [(0, .ref b), (1, .ref (ad 0)), (2, .ref (ad 11)), (3, .ref (ad 15)), (4, .int (nI (5 * k)))]) (hV : eL D cI cZ cJ ad k H) (hS : va_S (fun q => s.heap.size ≤ q) s.heap H locs)
    (kk : ∀ (ls : Array Slot) (H : Heap) (locs : List Loc), lv_has ls 7 [(0, .ref b), (1, .ref (ad 0)), (2, .ref (ad 11)), (3, .ref (ad 15)), (4, .int (nI (5 * k)))] → eL D cI cZ cJ ad (k + 1) H → va_S (fun q => s.heap.size ≤ q) s.heap H locs → W p l e room_1 s m #[Value.ref b] below meth c H locs (cells + 1) (slots + 6) Q (F0 m 615 ls [])) :
    W p l e room_1 s m #[Value.ref b] below meth c H locs cells slots Q (F0 m 176 ls []) := by
  obtain ⟨hx, hb, hml, hown, hte, hX, hbl, hK, hN, hZ0, hJ, hA, hL, hl0⟩ := C
  have hts : ∀ w ∈ Cond.initialized RX5 :: eT, w.before #[Value.ref b] s = true := List.forall_mem_cons.mpr ⟨hte _ tw1, hte⟩
  obtain ⟨n, g, w, P, gm, wm, gs, wz, gb, go, gp, gj, wb, wl, wk, wo, fa, o, hn, hw, hI, hP⟩ := hV
  obtain ⟨bb, hbb⟩ : ∃ bb, bb = decide (xs (5 * k + 4) ≠ 0) := ⟨_, rfl⟩
  refine lv_aload_n hx hb dL_law_176 rfl (lv_at hl 1 rfl) ?_
  refine lv_aload_n hx hb dL_law_177 rfl (lv_at hl 0 rfl) ?_
  refine lv_iload hx hb dL_law_178 (lv_at hl 4 rfl) ?_
  refine lv_iconst (v := 1) hx hb dL_law_180 (by decide) ?_
  refine lv_iadd hx hb dL_law_181 ?_
  refine ef_eqi (y := nI (5 * k + 1)) (nI_add (5 * k) 1) ?_
  refine va_sld hx hb hX hbl (Nat.not_le.mpr hbl) hS (vp_in_nI (n := 5 * k + 1) (by omega) (by omega)) dL_law_182 ?_
  refine ef_eqi (y := xs (5 * k + 1)) (by rw [nI_clamp (by omega)]) ?_
  refine lv_aload_n hx hb dL_law_183 rfl (lv_at hl 0 rfl) ?_
  refine lv_iload hx hb dL_law_184 (lv_at hl 4 rfl) ?_
  refine lv_iconst (v := 2) hx hb dL_law_186 (by decide) ?_
  refine lv_iadd hx hb dL_law_187 ?_
  refine ef_eqi (y := nI (5 * k + 2)) (nI_add (5 * k) 2) ?_
  refine va_sld hx hb hX hbl (Nat.not_le.mpr hbl) hS (vp_in_nI (n := 5 * k + 2) (by omega) (by omega)) dL_law_188 ?_
  refine ef_eqi (y := xs (5 * k + 2)) (by rw [nI_clamp (by omega)]) ?_
  refine lv_aload_n hx hb dL_law_189 rfl (lv_at hl 0 rfl) ?_
  refine lv_iload hx hb dL_law_190 (lv_at hl 4 rfl) ?_
  refine lv_iconst (v := 3) hx hb dL_law_192 (by decide) ?_
  refine lv_iadd hx hb dL_law_193 ?_
  refine ef_eqi (y := nI (5 * k + 3)) (nI_add (5 * k) 3) ?_
  refine va_sld hx hb hX hbl (Nat.not_le.mpr hbl) hS (vp_in_nI (n := 5 * k + 3) (by omega) (by omega)) dL_law_194 ?_
  refine ef_eqi (y := xs (5 * k + 3)) (by rw [nI_clamp (by omega)]) ?_
  refine lv_aload_n hx hb dL_law_195 rfl (lv_at hl 0 rfl) ?_
  refine lv_iload hx hb dL_law_196 (lv_at hl 4 rfl) ?_
  refine lv_iconst (v := 4) hx hb dL_law_198 (by decide) ?_
  refine lv_iadd hx hb dL_law_199 ?_
  refine ef_eqi (y := nI (5 * k + 4)) (nI_add (5 * k) 4) ?_
  refine va_sld hx hb hX hbl (Nat.not_le.mpr hbl) hS (vp_in_nI (n := 5 * k + 4) (by omega) (by omega)) dL_law_200 ?_
  refine ef_eqi (y := xs (5 * k + 4)) (by rw [nI_clamp (by omega)]) ?_
  refine eo_b (t1 := 208) (t2 := 209) hx hb dL_law_201 dL_law_204 dL_law_205 dL_law_208 rfl rfl ?_
  refine ef_eqi (y := ef_b bb) (congrArg ef_b hbb.symm) ?_
  by_cases hq : ei_ok (xs (5 * k + 1)) (nI n - 1) ∧ ei_ok (xs (5 * k + 2)) 13 ∧ ei_ok (xs (5 * k + 3)) 18
  · skip
    obtain ⟨i, hi, hz⟩ := eo_i1 (by omega) hq.1
    rw [hz]
    have hZ : eZ s.heap.size s H := eZ_kept hZ0 (fun a h1 h2 => hS.2.1 a h1 h2)
    refine eh_S (own := RL) (n := 5) (av := [.ref (ad 0), .int (nI i), .int (xs (5 * k + 2)), .int (xs (5 * k + 3)), .int (ef_b bb)]) (rest := []) hx hb hml hown hte hl.1 (h_set l D cI cZ cJ ad hJ s.heap.size n g w P gm wm gs wz gb go gp gj wb wl wk wo fa n g w P o i (xs (5 * k + 2)) (xs (5 * k + 3)) bb (by omega) hi hq.2.1 hq.2.2) tw223 tw0 tw221 tw222 yd_L_set rfl rfl ⟨Nat.le_of_ble_eq_true rfl, Nat.le_of_ble_eq_true rfl⟩ hP hK hN hZ rfl rfl (Nat.le_of_ble_eq_true rfl) ⟨hce, hsl⟩ hS hA dL_law_209 (fun v9 W9 H locs hF hP hS hz9 hk9 => ?_)
    obtain ⟨rfl, rfl⟩ := hF
    refine W.eq (g2 := F0 m 212 ls [.int 0]) rfl ?_
    refine lv_istore (lv' := [(5, .int 0), (0, .ref b), (1, .ref (ad 0)), (2, .ref (ad 11)), (3, .ref (ad 15)), (4, .int (nI (5 * k)))]) hx hb dL_law_212 hl (Nat.le_of_ble_eq_true rfl) rfl (fun ls hl => ?_)
    refine lv_aload_n hx hb dL_law_214 rfl (lv_at hl 3 rfl) ?_
    refine lv_aload_n hx hb dL_law_215 rfl (lv_at hl 1 rfl) ?_
    refine lv_iload hx hb dL_law_216 (lv_at hl 5 rfl) ?_
    refine lv_iconst (v := 1) hx hb dL_law_218 (by decide) ?_
    refine lv_iadd hx hb dL_law_219 ?_
    refine ef_eqi (y := nI (5 * k + 1)) (nI_add (5 * k) 1) ?_
    refine va_sld hx hb hX hbl (Nat.not_le.mpr hbl) hS (vp_in_nI (n := 5 * k + 1) (by omega) (by omega)) dL_law_220 ?_
    refine ef_eqi (y := xs (5 * k + 1)) (by rw [nI_clamp (by omega)]) ?_
    refine lv_aload_n hx hb dL_law_221 rfl (lv_at hl 1 rfl) ?_
    refine lv_iload hx hb dL_law_222 (lv_at hl 5 rfl) ?_
    refine lv_iconst (v := 2) hx hb dL_law_224 (by decide) ?_
    refine lv_iadd hx hb dL_law_225 ?_
    refine ef_eqi (y := nI (5 * k + 2)) (nI_add (5 * k) 2) ?_
    refine va_sld hx hb hX hbl (Nat.not_le.mpr hbl) hS (vp_in_nI (n := 5 * k + 2) (by omega) (by omega)) dL_law_226 ?_
    refine ef_eqi (y := xs (5 * k + 2)) (by rw [nI_clamp (by omega)]) ?_
    refine lv_aload_n hx hb dL_law_227 rfl (lv_at hl 1 rfl) ?_
    refine lv_iload hx hb dL_law_228 (lv_at hl 5 rfl) ?_
    refine lv_iconst (v := 3) hx hb dL_law_230 (by decide) ?_
    refine lv_iadd hx hb dL_law_231 ?_
    refine ef_eqi (y := nI (5 * k + 3)) (nI_add (5 * k) 3) ?_
    refine va_sld hx hb hX hbl (Nat.not_le.mpr hbl) hS (vp_in_nI (n := 5 * k + 3) (by omega) (by omega)) dL_law_232 ?_
    refine ef_eqi (y := xs (5 * k + 3)) (by rw [nI_clamp (by omega)]) ?_
    refine lv_aload_n hx hb dL_law_233 rfl (lv_at hl 1 rfl) ?_
    refine lv_iload hx hb dL_law_234 (lv_at hl 5 rfl) ?_
    refine lv_iconst (v := 4) hx hb dL_law_236 (by decide) ?_
    refine lv_iadd hx hb dL_law_237 ?_
    refine ef_eqi (y := nI (5 * k + 4)) (nI_add (5 * k) 4) ?_
    refine va_sld hx hb hX hbl (Nat.not_le.mpr hbl) hS (vp_in_nI (n := 5 * k + 4) (by omega) (by omega)) dL_law_238 ?_
    refine ef_eqi (y := xs (5 * k + 4)) (by rw [nI_clamp (by omega)]) ?_
    refine eo_b (t1 := 246) (t2 := 247) hx hb dL_law_239 dL_law_242 dL_law_243 dL_law_246 rfl rfl ?_
    refine ef_eqi (y := ef_b bb) (congrArg ef_b hbb.symm) ?_
    rw [hz]
    refine ec_V (own := RL) (C := RX6) (b := ad 11) (rest := []) hx hb hml hown hts hl.1 (c_X6_set l D cI cZ cJ ad hJ n (upd g i (xs (5 * k + 2))) (upd w i (xs (5 * k + 3))) (ef_up P i bb) gm wm true true gb go gp gj wb wl wk wo fa n g w P o i (xs (5 * k + 2)) (xs (5 * k + 3)) bb (by omega) hi hq.2.1 hq.2.2) tw398 tw7 tw395 tw396 tw397 yd_X6_set rfl rfl ⟨Nat.le_of_ble_eq_true rfl, Nat.le_of_ble_eq_true rfl⟩ hP hK hN hP (q0 := 11) rfl rfl rfl rfl (Nat.le_of_ble_eq_true rfl) ⟨hce, hsl⟩ hS hA dL_law_247 (fun v9 W9 H locs hF hP hS hz9 hk9 => ?_)
    obtain ⟨rfl, rfl⟩ := hF
    refine W.eq (g2 := F0 m 250 ls []) rfl ?_
    refine lv_aload_n hx hb dL_law_250 rfl (lv_at hl 3 rfl) ?_
    have hPt := hP.sub (ws' := [(ad 11, .inr (5, [.int 0, .int (nI n), .ref (ad 12), .ref (ad 13), .ref (ad 14)])), (ad 12, .inl (cI, 1000, .inl (upd g i (xs (5 * k + 2))))), (ad 13, .inl (cI, 1000, .inl (upd w i (xs (5 * k + 3))))), (ad 14, .inl (cZ, 1000, .inl (fun j => ef_b ((ef_up P i bb) j))))]) [11, 12, 13, 14] rfl
    refine er_V (own := RL) (C := RX6) (b := ad 11) (rest := []) hx hb hml hown hts hl.1 (k_X6_thrown l D cI cZ cJ (ad 11) (ad 12) (ad 13) (ad 14) 0 n (upd g i (xs (5 * k + 2))) (upd w i (xs (5 * k + 3))) (ef_up P i bb)) tw386 tw7 tw383 tw384 tw385 yd_X6_thrown rfl rfl ⟨Nat.le_of_ble_eq_true rfl, Nat.le_of_ble_eq_true rfl⟩ hPt hK hP (q0 := 11) rfl rfl rfl rfl (Nat.le_of_ble_eq_true rfl) ⟨hce, hsl⟩ dL_law_251 ?_
    refine lv_iload hx hb dL_law_254 (lv_at hl 0 rfl) ?_
    refine lv_icmp_eq (tgt := 261) hx hb dL_law_256 (by decide) (fun h1 => ?_) (fun h1 => ?_)
    · skip
      refine lv_goto (tgt := 615) hx hb dL_law_261 (by decide) ?_
      exact kk ls H locs (lv_sub hl [1, 2, 3, 4, 5] rfl) ⟨n, upd g i (xs (5 * k + 2)), upd w i (xs (5 * k + 3)), ef_up P i bb, gm, wm, true, true, gb, go, gp, gj, wb, wl, wk, wo, 0, o, by omega, eo_ne hw hq.2.2 i, eo_st _ _ _ _ _ _, hP⟩ hS
    · skip
      exact absurd rfl h1
  · skip
    have hZ : eZ s.heap.size s H := eZ_kept hZ0 (fun a h1 h2 => hS.2.1 a h1 h2)
    refine eh_S (own := RL) (n := 5) (av := [.ref (ad 0), .int (xs (5 * k + 1)), .int (xs (5 * k + 2)), .int (xs (5 * k + 3)), .int (ef_b bb)]) (rest := []) hx hb hml hown hte hl.1 (h_set_bad l hl0 D cI cZ cJ ad hJ s.heap.size n g w P gm wm gs wz gb go gp gj wb wl wk wo fa n g w P o (xs (5 * k + 1)) (xs (5 * k + 2)) (xs (5 * k + 3)) bb hq) tw223 tw0 tw221 tw222 yd_L_set rfl rfl ⟨Nat.le_of_ble_eq_true rfl, Nat.le_of_ble_eq_true rfl⟩ hP hK hN hZ rfl rfl (Nat.le_of_ble_eq_true rfl) ⟨hce, hsl⟩ hS hA dL_law_209 (fun v9 W9 H locs hF hP hS hz9 hk9 => ?_)
    obtain ⟨rfl, rfl⟩ := hF
    refine W.eq (g2 := F0 m 212 ls [.int 1]) rfl ?_
    refine lv_istore (lv' := [(5, .int 1), (0, .ref b), (1, .ref (ad 0)), (2, .ref (ad 11)), (3, .ref (ad 15)), (4, .int (nI (5 * k)))]) hx hb dL_law_212 hl (Nat.le_of_ble_eq_true rfl) rfl (fun ls hl => ?_)
    refine lv_aload_n hx hb dL_law_214 rfl (lv_at hl 3 rfl) ?_
    refine lv_aload_n hx hb dL_law_215 rfl (lv_at hl 1 rfl) ?_
    refine lv_iload hx hb dL_law_216 (lv_at hl 5 rfl) ?_
    refine lv_iconst (v := 1) hx hb dL_law_218 (by decide) ?_
    refine lv_iadd hx hb dL_law_219 ?_
    refine ef_eqi (y := nI (5 * k + 1)) (nI_add (5 * k) 1) ?_
    refine va_sld hx hb hX hbl (Nat.not_le.mpr hbl) hS (vp_in_nI (n := 5 * k + 1) (by omega) (by omega)) dL_law_220 ?_
    refine ef_eqi (y := xs (5 * k + 1)) (by rw [nI_clamp (by omega)]) ?_
    refine lv_aload_n hx hb dL_law_221 rfl (lv_at hl 1 rfl) ?_
    refine lv_iload hx hb dL_law_222 (lv_at hl 5 rfl) ?_
    refine lv_iconst (v := 2) hx hb dL_law_224 (by decide) ?_
    refine lv_iadd hx hb dL_law_225 ?_
    refine ef_eqi (y := nI (5 * k + 2)) (nI_add (5 * k) 2) ?_
    refine va_sld hx hb hX hbl (Nat.not_le.mpr hbl) hS (vp_in_nI (n := 5 * k + 2) (by omega) (by omega)) dL_law_226 ?_
    refine ef_eqi (y := xs (5 * k + 2)) (by rw [nI_clamp (by omega)]) ?_
    refine lv_aload_n hx hb dL_law_227 rfl (lv_at hl 1 rfl) ?_
    refine lv_iload hx hb dL_law_228 (lv_at hl 5 rfl) ?_
    refine lv_iconst (v := 3) hx hb dL_law_230 (by decide) ?_
    refine lv_iadd hx hb dL_law_231 ?_
    refine ef_eqi (y := nI (5 * k + 3)) (nI_add (5 * k) 3) ?_
    refine va_sld hx hb hX hbl (Nat.not_le.mpr hbl) hS (vp_in_nI (n := 5 * k + 3) (by omega) (by omega)) dL_law_232 ?_
    refine ef_eqi (y := xs (5 * k + 3)) (by rw [nI_clamp (by omega)]) ?_
    refine lv_aload_n hx hb dL_law_233 rfl (lv_at hl 1 rfl) ?_
    refine lv_iload hx hb dL_law_234 (lv_at hl 5 rfl) ?_
    refine lv_iconst (v := 4) hx hb dL_law_236 (by decide) ?_
    refine lv_iadd hx hb dL_law_237 ?_
    refine ef_eqi (y := nI (5 * k + 4)) (nI_add (5 * k) 4) ?_
    refine va_sld hx hb hX hbl (Nat.not_le.mpr hbl) hS (vp_in_nI (n := 5 * k + 4) (by omega) (by omega)) dL_law_238 ?_
    refine ef_eqi (y := xs (5 * k + 4)) (by rw [nI_clamp (by omega)]) ?_
    refine eo_b (t1 := 246) (t2 := 247) hx hb dL_law_239 dL_law_242 dL_law_243 dL_law_246 rfl rfl ?_
    refine ef_eqi (y := ef_b bb) (congrArg ef_b hbb.symm) ?_
    refine ec_V (own := RL) (C := RX6) (b := ad 11) (rest := []) hx hb hml hown hts hl.1 (c_X6_set_bad l D cI cZ cJ ad hJ n g w P gm wm gs wz gb go gp gj wb wl wk wo fa n g w P o (xs (5 * k + 1)) (xs (5 * k + 2)) (xs (5 * k + 3)) bb (by omega) hq) tw398 tw7 tw395 tw396 tw397 yd_X6_set rfl rfl ⟨Nat.le_of_ble_eq_true rfl, Nat.le_of_ble_eq_true rfl⟩ hP hK hN hP (q0 := 11) rfl rfl rfl rfl (Nat.le_of_ble_eq_true rfl) ⟨hce, hsl⟩ hS hA dL_law_247 (fun v9 W9 H locs hF hP hS hz9 hk9 => ?_)
    obtain ⟨rfl, rfl⟩ := hF
    refine W.eq (g2 := F0 m 250 ls []) rfl ?_
    refine lv_aload_n hx hb dL_law_250 rfl (lv_at hl 3 rfl) ?_
    have hPt := hP.sub (ws' := [(ad 11, .inr (5, [.int 1, .int (nI n), .ref (ad 12), .ref (ad 13), .ref (ad 14)])), (ad 12, .inl (cI, 1000, .inl g)), (ad 13, .inl (cI, 1000, .inl w)), (ad 14, .inl (cZ, 1000, .inl (fun j => ef_b (P j))))]) [11, 12, 13, 14] rfl
    refine er_V (own := RL) (C := RX6) (b := ad 11) (rest := []) hx hb hml hown hts hl.1 (k_X6_thrown l D cI cZ cJ (ad 11) (ad 12) (ad 13) (ad 14) 1 n g w P) tw386 tw7 tw383 tw384 tw385 yd_X6_thrown rfl rfl ⟨Nat.le_of_ble_eq_true rfl, Nat.le_of_ble_eq_true rfl⟩ hPt hK hP (q0 := 11) rfl rfl rfl rfl (Nat.le_of_ble_eq_true rfl) ⟨hce, hsl⟩ dL_law_251 ?_
    refine lv_iload hx hb dL_law_254 (lv_at hl 0 rfl) ?_
    refine lv_icmp_eq (tgt := 261) hx hb dL_law_256 (by decide) (fun h2 => ?_) (fun h2 => ?_)
    · skip
      refine lv_goto (tgt := 615) hx hb dL_law_261 (by decide) ?_
      exact kk ls H locs (lv_sub hl [1, 2, 3, 4, 5] rfl) ⟨n, g, w, P, gm, wm, gs, wz, gb, go, gp, gj, wb, wl, wk, wo, 1, o, by omega, hw, hI, hP⟩ hS
    · skip
      exact absurd rfl h2

set_option maxHeartbeats 4000000 in
set_option maxRecDepth 100000 in
theorem o_cut {p : Program} {l : Launch} {e : Env} {s : State} {m : MethodId} {below : List Frame} {meth : Method} {c : Code} {b L : Nat} {xs : Nat → Int32} {D : va_G} {cI cZ cJ : ClassId} {ad : Nat → Nat} {Q : State → Prop} (C : eX p l s m c b L xs D cI cZ cJ ad) {k cells slots : Nat} (hkL : 5 * k + 5 ≤ L) (hce : cells + 1 ≤ 1042) (hsl : slots + 6 ≤ 16233) {ls : Array Slot} {H : Heap} {locs : List Loc} (hl : lv_has ls 7 [(0, .ref b), (1, .ref (ad 0)), (2, .ref (ad 11)), (3, .ref (ad 15)), (4, .int (nI (5 * k)))]) (hV : eL D cI cZ cJ ad k H) (hS : va_S (fun q => s.heap.size ≤ q) s.heap H locs)
    (kk : ∀ (ls : Array Slot) (H : Heap) (locs : List Loc), lv_has ls 7 [(0, .ref b), (1, .ref (ad 0)), (2, .ref (ad 11)), (3, .ref (ad 15)), (4, .int (nI (5 * k)))] → eL D cI cZ cJ ad (k + 1) H → va_S (fun q => s.heap.size ≤ q) s.heap H locs → W p l e room_1 s m #[Value.ref b] below meth c H locs (cells + 1) (slots + 6) Q (F0 m 615 ls [])) :
    W p l e room_1 s m #[Value.ref b] below meth c H locs cells slots Q (F0 m 264 ls []) := by
  obtain ⟨hx, hb, hml, hown, hte, hX, hbl, hK, hN, hZ0, hJ, hA, hL, hl0⟩ := C
  have hts : ∀ w ∈ Cond.initialized RX5 :: eT, w.before #[Value.ref b] s = true := List.forall_mem_cons.mpr ⟨hte _ tw1, hte⟩
  obtain ⟨n, g, w, P, gm, wm, gs, wz, gb, go, gp, gj, wb, wl, wk, wo, fa, o, hn, hw, hI, hP⟩ := hV
  refine lv_aload_n hx hb dL_law_264 rfl (lv_at hl 1 rfl) ?_
  refine lv_aload_n hx hb dL_law_265 rfl (lv_at hl 0 rfl) ?_
  refine lv_iload hx hb dL_law_266 (lv_at hl 4 rfl) ?_
  refine lv_iconst (v := 1) hx hb dL_law_268 (by decide) ?_
  refine lv_iadd hx hb dL_law_269 ?_
  refine ef_eqi (y := nI (5 * k + 1)) (nI_add (5 * k) 1) ?_
  refine va_sld hx hb hX hbl (Nat.not_le.mpr hbl) hS (vp_in_nI (n := 5 * k + 1) (by omega) (by omega)) dL_law_270 ?_
  refine ef_eqi (y := xs (5 * k + 1)) (by rw [nI_clamp (by omega)]) ?_
  refine lv_aload_n hx hb dL_law_271 rfl (lv_at hl 3 rfl) ?_
  by_cases hq : ei_ok (xs (5 * k + 1)) (nI n)
  · skip
    obtain ⟨i, hi, hz⟩ := eo_i (by omega) hq
    rw [hz]
    have hZ : eZ s.heap.size s H := eZ_kept hZ0 (fun a h1 h2 => hS.2.1 a h1 h2)
    refine eh_S (own := RL) (n := 3) (av := [.ref (ad 0), .int (nI i), .ref (ad 15)]) (rest := []) hx hb hml hown hte hl.1 (h_cut l D cI cZ cJ ad hJ s.heap.size n g w P gm wm gs wz gb go gp gj wb wl wk wo fa n g w P o i (by omega) hi) tw230 tw0 tw228 tw229 yd_L_cut rfl rfl ⟨Nat.le_of_ble_eq_true rfl, Nat.le_of_ble_eq_true rfl⟩ hP hK hN hZ rfl rfl (Nat.le_of_ble_eq_true rfl) ⟨hce, hsl⟩ hS hA dL_law_272 (fun v9 W9 H locs hF hP hS hz9 hk9 => ?_)
    obtain ⟨rfl, rfl⟩ := hF
    refine W.eq (g2 := F0 m 275 ls [.int 0]) rfl ?_
    refine lv_istore (lv' := [(5, .int 0), (0, .ref b), (1, .ref (ad 0)), (2, .ref (ad 11)), (3, .ref (ad 15)), (4, .int (nI (5 * k)))]) hx hb dL_law_275 hl (Nat.le_of_ble_eq_true rfl) rfl (fun ls hl => ?_)
    refine lv_aload_n hx hb dL_law_277 rfl (lv_at hl 3 rfl) ?_
    refine lv_aload_n hx hb dL_law_278 rfl (lv_at hl 1 rfl) ?_
    refine lv_iload hx hb dL_law_279 (lv_at hl 5 rfl) ?_
    refine lv_iconst (v := 1) hx hb dL_law_281 (by decide) ?_
    refine lv_iadd hx hb dL_law_282 ?_
    refine ef_eqi (y := nI (5 * k + 1)) (nI_add (5 * k) 1) ?_
    refine va_sld hx hb hX hbl (Nat.not_le.mpr hbl) hS (vp_in_nI (n := 5 * k + 1) (by omega) (by omega)) dL_law_283 ?_
    refine ef_eqi (y := xs (5 * k + 1)) (by rw [nI_clamp (by omega)]) ?_
    rw [hz]
    refine ec_V (own := RL) (C := RX6) (b := ad 11) (rest := []) hx hb hml hown hts hl.1 (c_X6_cut l D cI cZ cJ ad hJ i g w P gm wm true true gb go gp gj wb wl wk wo fa n g w P (vp_updL o 0 ((nI n).toInt64)) i (by omega) hi) tw402 tw7 tw399 tw400 tw401 yd_X6_cut rfl rfl ⟨Nat.le_of_ble_eq_true rfl, Nat.le_of_ble_eq_true rfl⟩ hP hK hN hP (q0 := 11) rfl rfl rfl rfl (Nat.le_of_ble_eq_true rfl) ⟨hce, hsl⟩ hS hA dL_law_284 (fun v9 W9 H locs hF hP hS hz9 hk9 => ?_)
    obtain ⟨rfl, rfl⟩ := hF
    refine W.eq (g2 := F0 m 287 ls [.int (nI n)]) rfl ?_
    refine lv_istore (lv' := [(6, .int (nI n)), (5, .int 0), (0, .ref b), (1, .ref (ad 0)), (2, .ref (ad 11)), (3, .ref (ad 15)), (4, .int (nI (5 * k)))]) hx hb dL_law_287 hl (Nat.le_of_ble_eq_true rfl) rfl (fun ls hl => ?_)
    refine lv_aload_n hx hb dL_law_289 rfl (lv_at hl 4 rfl) ?_
    have hPt := hP.sub (ws' := [(ad 11, .inr (5, [.int 0, .int (nI i), .ref (ad 12), .ref (ad 13), .ref (ad 14)])), (ad 12, .inl (cI, 1000, .inl g)), (ad 13, .inl (cI, 1000, .inl w)), (ad 14, .inl (cZ, 1000, .inl (fun j => ef_b (P j))))]) [11, 12, 13, 14] rfl
    refine er_V (own := RL) (C := RX6) (b := ad 11) (rest := []) hx hb hml hown hts hl.1 (k_X6_thrown l D cI cZ cJ (ad 11) (ad 12) (ad 13) (ad 14) 0 i g w P) tw386 tw7 tw383 tw384 tw385 yd_X6_thrown rfl rfl ⟨Nat.le_of_ble_eq_true rfl, Nat.le_of_ble_eq_true rfl⟩ hPt hK hP (q0 := 11) rfl rfl rfl rfl (Nat.le_of_ble_eq_true rfl) ⟨hce, hsl⟩ dL_law_290 ?_
    refine lv_iload hx hb dL_law_293 (lv_at hl 1 rfl) ?_
    refine lv_icmp_eq (tgt := 300) hx hb dL_law_295 (by decide) (fun h1 => ?_) (fun h1 => ?_)
    · skip
      refine lv_iload hx hb dL_law_300 (lv_at hl 1 rfl) ?_
      refine lv_if_ne (tgt := 317) hx hb dL_law_302 (by decide) (fun h2 => ?_) (fun h2 => ?_)
      · skip
        exact absurd rfl h2
      · skip
        refine lv_aload_n hx hb dL_law_305 rfl (lv_at hl 5 rfl) ?_
        refine lv_iconst (v := 0) hx hb dL_law_306 (by decide) ?_
        refine va_lald hx hb hK hP 15 2 rfl rfl (vp_in_nI (n := 0) (by omega) (by decide)) dL_law_307 ?_
        refine ef_eql (y := (vp_updL o 0 ((nI n).toInt64)) 0) rfl ?_
        refine ef_eql (y := (nI n).toInt64) (eo_u _ _) ?_
        refine lv_iload hx hb dL_law_308 (lv_at hl 0 rfl) ?_
        refine lv_i2l (v := (nI n).toInt64) hx hb dL_law_310 rfl ?_
        refine W.lcmp hx hb dL_law_311 ?_
        refine lv_if_eq (tgt := 317) hx hb dL_law_312 (by decide) (fun h3 => ?_) (fun h3 => ?_)
        · skip
          refine lv_goto (tgt := 615) hx hb dL_law_317 (by decide) ?_
          exact kk ls H locs (lv_sub hl [2, 3, 4, 5, 6] rfl) ⟨i, g, w, P, gm, wm, true, true, gb, go, gp, gj, wb, wl, wk, wo, 0, vp_updL o 0 ((nI n).toInt64), by omega, hw, eo_st _ _ _ _ _ _, hP⟩ hS
        · skip
          exact absurd (eo_cmp _) h3
    · skip
      exact absurd rfl h1
  · skip
    have hZ : eZ s.heap.size s H := eZ_kept hZ0 (fun a h1 h2 => hS.2.1 a h1 h2)
    refine eh_S (own := RL) (n := 3) (av := [.ref (ad 0), .int (xs (5 * k + 1)), .ref (ad 15)]) (rest := []) hx hb hml hown hte hl.1 (h_cut_bad l hl0 D cI cZ cJ ad hJ s.heap.size n g w P gm wm gs wz gb go gp gj wb wl wk wo fa n g w P o (xs (5 * k + 1)) hq) tw230 tw0 tw228 tw229 yd_L_cut rfl rfl ⟨Nat.le_of_ble_eq_true rfl, Nat.le_of_ble_eq_true rfl⟩ hP hK hN hZ rfl rfl (Nat.le_of_ble_eq_true rfl) ⟨hce, hsl⟩ hS hA dL_law_272 (fun v9 W9 H locs hF hP hS hz9 hk9 => ?_)
    obtain ⟨rfl, rfl⟩ := hF
    refine W.eq (g2 := F0 m 275 ls [.int 1]) rfl ?_
    refine lv_istore (lv' := [(5, .int 1), (0, .ref b), (1, .ref (ad 0)), (2, .ref (ad 11)), (3, .ref (ad 15)), (4, .int (nI (5 * k)))]) hx hb dL_law_275 hl (Nat.le_of_ble_eq_true rfl) rfl (fun ls hl => ?_)
    refine lv_aload_n hx hb dL_law_277 rfl (lv_at hl 3 rfl) ?_
    refine lv_aload_n hx hb dL_law_278 rfl (lv_at hl 1 rfl) ?_
    refine lv_iload hx hb dL_law_279 (lv_at hl 5 rfl) ?_
    refine lv_iconst (v := 1) hx hb dL_law_281 (by decide) ?_
    refine lv_iadd hx hb dL_law_282 ?_
    refine ef_eqi (y := nI (5 * k + 1)) (nI_add (5 * k) 1) ?_
    refine va_sld hx hb hX hbl (Nat.not_le.mpr hbl) hS (vp_in_nI (n := 5 * k + 1) (by omega) (by omega)) dL_law_283 ?_
    refine ef_eqi (y := xs (5 * k + 1)) (by rw [nI_clamp (by omega)]) ?_
    refine ec_V (own := RL) (C := RX6) (b := ad 11) (rest := []) hx hb hml hown hts hl.1 (c_X6_cut_bad l D cI cZ cJ ad hJ n g w P gm wm gs wz gb go gp gj wb wl wk wo fa n g w P o (xs (5 * k + 1)) hq) tw402 tw7 tw399 tw400 tw401 yd_X6_cut rfl rfl ⟨Nat.le_of_ble_eq_true rfl, Nat.le_of_ble_eq_true rfl⟩ hP hK hN hP (q0 := 11) rfl rfl rfl rfl (Nat.le_of_ble_eq_true rfl) ⟨hce, hsl⟩ hS hA dL_law_284 (fun v9 W9 H locs hF hP hS hz9 hk9 => ?_)
    obtain ⟨rfl, rfl⟩ := hF
    refine W.eq (g2 := F0 m 287 ls [.int 0]) rfl ?_
    refine lv_istore (lv' := [(6, .int 0), (5, .int 1), (0, .ref b), (1, .ref (ad 0)), (2, .ref (ad 11)), (3, .ref (ad 15)), (4, .int (nI (5 * k)))]) hx hb dL_law_287 hl (Nat.le_of_ble_eq_true rfl) rfl (fun ls hl => ?_)
    refine lv_aload_n hx hb dL_law_289 rfl (lv_at hl 4 rfl) ?_
    have hPt := hP.sub (ws' := [(ad 11, .inr (5, [.int 1, .int (nI n), .ref (ad 12), .ref (ad 13), .ref (ad 14)])), (ad 12, .inl (cI, 1000, .inl g)), (ad 13, .inl (cI, 1000, .inl w)), (ad 14, .inl (cZ, 1000, .inl (fun j => ef_b (P j))))]) [11, 12, 13, 14] rfl
    refine er_V (own := RL) (C := RX6) (b := ad 11) (rest := []) hx hb hml hown hts hl.1 (k_X6_thrown l D cI cZ cJ (ad 11) (ad 12) (ad 13) (ad 14) 1 n g w P) tw386 tw7 tw383 tw384 tw385 yd_X6_thrown rfl rfl ⟨Nat.le_of_ble_eq_true rfl, Nat.le_of_ble_eq_true rfl⟩ hPt hK hP (q0 := 11) rfl rfl rfl rfl (Nat.le_of_ble_eq_true rfl) ⟨hce, hsl⟩ dL_law_290 ?_
    refine lv_iload hx hb dL_law_293 (lv_at hl 1 rfl) ?_
    refine lv_icmp_eq (tgt := 300) hx hb dL_law_295 (by decide) (fun h4 => ?_) (fun h4 => ?_)
    · skip
      refine lv_iload hx hb dL_law_300 (lv_at hl 1 rfl) ?_
      refine lv_if_ne (tgt := 317) hx hb dL_law_302 (by decide) (fun h5 => ?_) (fun h5 => ?_)
      · skip
        refine lv_goto (tgt := 615) hx hb dL_law_317 (by decide) ?_
        exact kk ls H locs (lv_sub hl [2, 3, 4, 5, 6] rfl) ⟨n, g, w, P, gm, wm, gs, wz, gb, go, gp, gj, wb, wl, wk, wo, 1, o, by omega, hw, hI, hP⟩ hS
      · skip
        exact absurd h5 (by decide)
    · skip
      exact absurd rfl h4

set_option maxHeartbeats 4000000 in
set_option maxRecDepth 100000 in
theorem o_edge {p : Program} {l : Launch} {e : Env} {s : State} {m : MethodId} {below : List Frame} {meth : Method} {c : Code} {b L : Nat} {xs : Nat → Int32} {D : va_G} {cI cZ cJ : ClassId} {ad : Nat → Nat} {Q : State → Prop} (C : eX p l s m c b L xs D cI cZ cJ ad) {k cells slots : Nat} (hkL : 5 * k + 5 ≤ L) (hce : cells + 1 ≤ 1042) (hsl : slots + 6 ≤ 16233) {ls : Array Slot} {H : Heap} {locs : List Loc} (hl : lv_has ls 7 [(0, .ref b), (1, .ref (ad 0)), (2, .ref (ad 11)), (3, .ref (ad 15)), (4, .int (nI (5 * k)))]) (hV : eL D cI cZ cJ ad k H) (hS : va_S (fun q => s.heap.size ≤ q) s.heap H locs)
    (kk : ∀ (ls : Array Slot) (H : Heap) (locs : List Loc), lv_has ls 7 [(0, .ref b), (1, .ref (ad 0)), (2, .ref (ad 11)), (3, .ref (ad 15)), (4, .int (nI (5 * k)))] → eL D cI cZ cJ ad (k + 1) H → va_S (fun q => s.heap.size ≤ q) s.heap H locs → W p l e room_1 s m #[Value.ref b] below meth c H locs (cells + 1) (slots + 6) Q (F0 m 615 ls [])) :
    W p l e room_1 s m #[Value.ref b] below meth c H locs cells slots Q (F0 m 320 ls []) := by
  obtain ⟨hx, hb, hml, hown, hte, hX, hbl, hK, hN, hZ0, hJ, hA, hL, hl0⟩ := C
  have hts : ∀ w ∈ Cond.initialized RX5 :: eT, w.before #[Value.ref b] s = true := List.forall_mem_cons.mpr ⟨hte _ tw1, hte⟩
  obtain ⟨n, g, w, P, gm, wm, gs, wz, gb, go, gp, gj, wb, wl, wk, wo, fa, o, hn, hw, hI, hP⟩ := hV
  refine lv_aload_n hx hb dL_law_320 rfl (lv_at hl 1 rfl) ?_
  refine lv_aload_n hx hb dL_law_321 rfl (lv_at hl 0 rfl) ?_
  refine lv_iload hx hb dL_law_322 (lv_at hl 4 rfl) ?_
  refine lv_iconst (v := 1) hx hb dL_law_324 (by decide) ?_
  refine lv_iadd hx hb dL_law_325 ?_
  refine ef_eqi (y := nI (5 * k + 1)) (nI_add (5 * k) 1) ?_
  refine va_sld hx hb hX hbl (Nat.not_le.mpr hbl) hS (vp_in_nI (n := 5 * k + 1) (by omega) (by omega)) dL_law_326 ?_
  refine ef_eqi (y := xs (5 * k + 1)) (by rw [nI_clamp (by omega)]) ?_
  refine lv_aload_n hx hb dL_law_327 rfl (lv_at hl 0 rfl) ?_
  refine lv_iload hx hb dL_law_328 (lv_at hl 4 rfl) ?_
  refine lv_iconst (v := 2) hx hb dL_law_330 (by decide) ?_
  refine lv_iadd hx hb dL_law_331 ?_
  refine ef_eqi (y := nI (5 * k + 2)) (nI_add (5 * k) 2) ?_
  refine va_sld hx hb hX hbl (Nat.not_le.mpr hbl) hS (vp_in_nI (n := 5 * k + 2) (by omega) (by omega)) dL_law_332 ?_
  refine ef_eqi (y := xs (5 * k + 2)) (by rw [nI_clamp (by omega)]) ?_
  refine lv_aload_n hx hb dL_law_333 rfl (lv_at hl 3 rfl) ?_
  by_cases hq : ei_ok (xs (5 * k + 1)) 1 ∧ ei_ok (xs (5 * k + 2)) (nI n)
  · skip
    obtain ⟨i, hi, hz⟩ := eo_i (by omega) hq.2
    rw [hz]
    have hZ : eZ s.heap.size s H := eZ_kept hZ0 (fun a h1 h2 => hS.2.1 a h1 h2)
    refine eh_S (own := RL) (n := 4) (av := [.ref (ad 0), .int (xs (5 * k + 1)), .int (nI i), .ref (ad 15)]) (rest := []) hx hb hml hown hte hl.1 (h_edge l D cI cZ cJ ad hJ s.heap.size n g w P gm wm gs wz gb go gp gj wb wl wk wo fa n g w P o (xs (5 * k + 1)) i hI hq.1 (by omega) hi) tw237 tw0 tw235 tw236 yd_L_edge rfl rfl ⟨Nat.le_of_ble_eq_true rfl, Nat.le_of_ble_eq_true rfl⟩ hP hK hN hZ rfl rfl (Nat.le_of_ble_eq_true rfl) ⟨hce, hsl⟩ hS hA dL_law_334 (fun v9 W9 H locs hF hP hS hz9 hk9 => ?_)
    obtain ⟨rfl, gm, wm, gs, wz, gb, go, gp, gj, wb, wl, wk, wo, hI, rfl⟩ := hF
    refine W.eq (g2 := F0 m 337 ls [.int 0]) rfl ?_
    refine lv_istore (lv' := [(5, .int 0), (0, .ref b), (1, .ref (ad 0)), (2, .ref (ad 11)), (3, .ref (ad 15)), (4, .int (nI (5 * k)))]) hx hb dL_law_337 hl (Nat.le_of_ble_eq_true rfl) rfl (fun ls hl => ?_)
    refine lv_aload_n hx hb dL_law_339 rfl (lv_at hl 3 rfl) ?_
    refine lv_aload_n hx hb dL_law_340 rfl (lv_at hl 1 rfl) ?_
    refine lv_iload hx hb dL_law_341 (lv_at hl 5 rfl) ?_
    refine lv_iconst (v := 1) hx hb dL_law_343 (by decide) ?_
    refine lv_iadd hx hb dL_law_344 ?_
    refine ef_eqi (y := nI (5 * k + 1)) (nI_add (5 * k) 1) ?_
    refine va_sld hx hb hX hbl (Nat.not_le.mpr hbl) hS (vp_in_nI (n := 5 * k + 1) (by omega) (by omega)) dL_law_345 ?_
    refine ef_eqi (y := xs (5 * k + 1)) (by rw [nI_clamp (by omega)]) ?_
    refine lv_aload_n hx hb dL_law_346 rfl (lv_at hl 1 rfl) ?_
    refine lv_iload hx hb dL_law_347 (lv_at hl 5 rfl) ?_
    refine lv_iconst (v := 2) hx hb dL_law_349 (by decide) ?_
    refine lv_iadd hx hb dL_law_350 ?_
    refine ef_eqi (y := nI (5 * k + 2)) (nI_add (5 * k) 2) ?_
    refine va_sld hx hb hX hbl (Nat.not_le.mpr hbl) hS (vp_in_nI (n := 5 * k + 2) (by omega) (by omega)) dL_law_351 ?_
    refine ef_eqi (y := xs (5 * k + 2)) (by rw [nI_clamp (by omega)]) ?_
    rw [hz]
    refine ec_V (own := RL) (C := RX6) (b := ad 11) (rest := []) hx hb hml hown hts hl.1 (c_X6_edge l D cI cZ cJ ad hJ n g w P gm wm gs wz gb go gp gj wb wl wk wo fa n g w P (vp_updL o 0 (ef_l (eb_k (xs (5 * k + 1)) g w P n i))) (xs (5 * k + 1)) i hq.1 (by omega) hi hw) tw406 tw7 tw403 tw404 tw405 yd_X6_edge rfl rfl ⟨Nat.le_of_ble_eq_true rfl, Nat.le_of_ble_eq_true rfl⟩ hP hK hN hP (q0 := 11) rfl rfl rfl rfl (Nat.le_of_ble_eq_true rfl) ⟨hce, hsl⟩ hS hA dL_law_352 (fun v9 W9 H locs hF hP hS hz9 hk9 => ?_)
    obtain ⟨rfl, rfl⟩ := hF
    refine W.eq (g2 := F0 m 355 ls [.int (ef_b (eb_k (xs (5 * k + 1)) g w P n i))]) rfl ?_
    refine lv_istore (lv' := [(6, .int (ef_b (eb_k (xs (5 * k + 1)) g w P n i))), (5, .int 0), (0, .ref b), (1, .ref (ad 0)), (2, .ref (ad 11)), (3, .ref (ad 15)), (4, .int (nI (5 * k)))]) hx hb dL_law_355 hl (Nat.le_of_ble_eq_true rfl) rfl (fun ls hl => ?_)
    refine lv_aload_n hx hb dL_law_357 rfl (lv_at hl 4 rfl) ?_
    have hPt := hP.sub (ws' := [(ad 11, .inr (5, [.int 0, .int (nI n), .ref (ad 12), .ref (ad 13), .ref (ad 14)])), (ad 12, .inl (cI, 1000, .inl g)), (ad 13, .inl (cI, 1000, .inl w)), (ad 14, .inl (cZ, 1000, .inl (fun j => ef_b (P j))))]) [11, 12, 13, 14] rfl
    refine er_V (own := RL) (C := RX6) (b := ad 11) (rest := []) hx hb hml hown hts hl.1 (k_X6_thrown l D cI cZ cJ (ad 11) (ad 12) (ad 13) (ad 14) 0 n g w P) tw386 tw7 tw383 tw384 tw385 yd_X6_thrown rfl rfl ⟨Nat.le_of_ble_eq_true rfl, Nat.le_of_ble_eq_true rfl⟩ hPt hK hP (q0 := 11) rfl rfl rfl rfl (Nat.le_of_ble_eq_true rfl) ⟨hce, hsl⟩ dL_law_358 ?_
    refine lv_iload hx hb dL_law_361 (lv_at hl 1 rfl) ?_
    refine lv_icmp_eq (tgt := 368) hx hb dL_law_363 (by decide) (fun h1 => ?_) (fun h1 => ?_)
    · skip
      refine lv_iload hx hb dL_law_368 (lv_at hl 1 rfl) ?_
      refine lv_if_ne (tgt := 392) hx hb dL_law_370 (by decide) (fun h2 => ?_) (fun h2 => ?_)
      · skip
        exact absurd rfl h2
      · skip
        refine lv_aload_n hx hb dL_law_373 rfl (lv_at hl 5 rfl) ?_
        refine lv_iconst (v := 0) hx hb dL_law_374 (by decide) ?_
        refine va_lald hx hb hK hP 15 2 rfl rfl (vp_in_nI (n := 0) (by omega) (by decide)) dL_law_375 ?_
        refine ef_eql (y := (vp_updL o 0 (ef_l (eb_k (xs (5 * k + 1)) g w P n i))) 0) rfl ?_
        refine ef_eql (y := ef_l (eb_k (xs (5 * k + 1)) g w P n i)) (eo_u _ _) ?_
        refine lv_iload hx hb dL_law_376 (lv_at hl 0 rfl) ?_
        refine eo_l (t1 := 385) (t2 := 386) hx hb dL_law_378 dL_law_381 dL_law_382 dL_law_385 rfl rfl ?_
        refine W.lcmp hx hb dL_law_386 ?_
        refine lv_if_eq (tgt := 392) hx hb dL_law_387 (by decide) (fun h3 => ?_) (fun h3 => ?_)
        · skip
          refine lv_goto (tgt := 615) hx hb dL_law_392 (by decide) ?_
          exact kk ls H locs (lv_sub hl [2, 3, 4, 5, 6] rfl) ⟨n, g, w, P, gm, wm, gs, wz, gb, go, gp, gj, wb, wl, wk, wo, 0, vp_updL o 0 (ef_l (eb_k (xs (5 * k + 1)) g w P n i)), by omega, hw, hI, hP⟩ hS
        · skip
          exact absurd (eo_cmp _) h3
    · skip
      exact absurd rfl h1
  · skip
    have hZ : eZ s.heap.size s H := eZ_kept hZ0 (fun a h1 h2 => hS.2.1 a h1 h2)
    refine eh_S (own := RL) (n := 4) (av := [.ref (ad 0), .int (xs (5 * k + 1)), .int (xs (5 * k + 2)), .ref (ad 15)]) (rest := []) hx hb hml hown hte hl.1 (h_edge_bad l hl0 D cI cZ cJ ad hJ s.heap.size n g w P gm wm gs wz gb go gp gj wb wl wk wo fa n g w P o (xs (5 * k + 1)) (xs (5 * k + 2)) hq) tw237 tw0 tw235 tw236 yd_L_edge rfl rfl ⟨Nat.le_of_ble_eq_true rfl, Nat.le_of_ble_eq_true rfl⟩ hP hK hN hZ rfl rfl (Nat.le_of_ble_eq_true rfl) ⟨hce, hsl⟩ hS hA dL_law_334 (fun v9 W9 H locs hF hP hS hz9 hk9 => ?_)
    obtain ⟨rfl, rfl⟩ := hF
    refine W.eq (g2 := F0 m 337 ls [.int 1]) rfl ?_
    refine lv_istore (lv' := [(5, .int 1), (0, .ref b), (1, .ref (ad 0)), (2, .ref (ad 11)), (3, .ref (ad 15)), (4, .int (nI (5 * k)))]) hx hb dL_law_337 hl (Nat.le_of_ble_eq_true rfl) rfl (fun ls hl => ?_)
    refine lv_aload_n hx hb dL_law_339 rfl (lv_at hl 3 rfl) ?_
    refine lv_aload_n hx hb dL_law_340 rfl (lv_at hl 1 rfl) ?_
    refine lv_iload hx hb dL_law_341 (lv_at hl 5 rfl) ?_
    refine lv_iconst (v := 1) hx hb dL_law_343 (by decide) ?_
    refine lv_iadd hx hb dL_law_344 ?_
    refine ef_eqi (y := nI (5 * k + 1)) (nI_add (5 * k) 1) ?_
    refine va_sld hx hb hX hbl (Nat.not_le.mpr hbl) hS (vp_in_nI (n := 5 * k + 1) (by omega) (by omega)) dL_law_345 ?_
    refine ef_eqi (y := xs (5 * k + 1)) (by rw [nI_clamp (by omega)]) ?_
    refine lv_aload_n hx hb dL_law_346 rfl (lv_at hl 1 rfl) ?_
    refine lv_iload hx hb dL_law_347 (lv_at hl 5 rfl) ?_
    refine lv_iconst (v := 2) hx hb dL_law_349 (by decide) ?_
    refine lv_iadd hx hb dL_law_350 ?_
    refine ef_eqi (y := nI (5 * k + 2)) (nI_add (5 * k) 2) ?_
    refine va_sld hx hb hX hbl (Nat.not_le.mpr hbl) hS (vp_in_nI (n := 5 * k + 2) (by omega) (by omega)) dL_law_351 ?_
    refine ef_eqi (y := xs (5 * k + 2)) (by rw [nI_clamp (by omega)]) ?_
    refine ec_V (own := RL) (C := RX6) (b := ad 11) (rest := []) hx hb hml hown hts hl.1 (c_X6_edge_bad l D cI cZ cJ ad hJ n g w P gm wm gs wz gb go gp gj wb wl wk wo fa n g w P o (xs (5 * k + 1)) (xs (5 * k + 2)) hq) tw406 tw7 tw403 tw404 tw405 yd_X6_edge rfl rfl ⟨Nat.le_of_ble_eq_true rfl, Nat.le_of_ble_eq_true rfl⟩ hP hK hN hP (q0 := 11) rfl rfl rfl rfl (Nat.le_of_ble_eq_true rfl) ⟨hce, hsl⟩ hS hA dL_law_352 (fun v9 W9 H locs hF hP hS hz9 hk9 => ?_)
    obtain ⟨rfl, rfl⟩ := hF
    refine W.eq (g2 := F0 m 355 ls [.int (ef_b false)]) rfl ?_
    refine lv_istore (lv' := [(6, .int (ef_b false)), (5, .int 1), (0, .ref b), (1, .ref (ad 0)), (2, .ref (ad 11)), (3, .ref (ad 15)), (4, .int (nI (5 * k)))]) hx hb dL_law_355 hl (Nat.le_of_ble_eq_true rfl) rfl (fun ls hl => ?_)
    refine lv_aload_n hx hb dL_law_357 rfl (lv_at hl 4 rfl) ?_
    have hPt := hP.sub (ws' := [(ad 11, .inr (5, [.int 1, .int (nI n), .ref (ad 12), .ref (ad 13), .ref (ad 14)])), (ad 12, .inl (cI, 1000, .inl g)), (ad 13, .inl (cI, 1000, .inl w)), (ad 14, .inl (cZ, 1000, .inl (fun j => ef_b (P j))))]) [11, 12, 13, 14] rfl
    refine er_V (own := RL) (C := RX6) (b := ad 11) (rest := []) hx hb hml hown hts hl.1 (k_X6_thrown l D cI cZ cJ (ad 11) (ad 12) (ad 13) (ad 14) 1 n g w P) tw386 tw7 tw383 tw384 tw385 yd_X6_thrown rfl rfl ⟨Nat.le_of_ble_eq_true rfl, Nat.le_of_ble_eq_true rfl⟩ hPt hK hP (q0 := 11) rfl rfl rfl rfl (Nat.le_of_ble_eq_true rfl) ⟨hce, hsl⟩ dL_law_358 ?_
    refine lv_iload hx hb dL_law_361 (lv_at hl 1 rfl) ?_
    refine lv_icmp_eq (tgt := 368) hx hb dL_law_363 (by decide) (fun h4 => ?_) (fun h4 => ?_)
    · skip
      refine lv_iload hx hb dL_law_368 (lv_at hl 1 rfl) ?_
      refine lv_if_ne (tgt := 392) hx hb dL_law_370 (by decide) (fun h5 => ?_) (fun h5 => ?_)
      · skip
        refine lv_goto (tgt := 615) hx hb dL_law_392 (by decide) ?_
        exact kk ls H locs (lv_sub hl [2, 3, 4, 5, 6] rfl) ⟨n, g, w, P, gm, wm, gs, wz, gb, go, gp, gj, wb, wl, wk, wo, 1, o, by omega, hw, hI, hP⟩ hS
      · skip
        exact absurd h5 (by decide)
    · skip
      exact absurd rfl h4

set_option maxHeartbeats 4000000 in
set_option maxRecDepth 100000 in
theorem o_next {p : Program} {l : Launch} {e : Env} {s : State} {m : MethodId} {below : List Frame} {meth : Method} {c : Code} {b L : Nat} {xs : Nat → Int32} {D : va_G} {cI cZ cJ : ClassId} {ad : Nat → Nat} {Q : State → Prop} (C : eX p l s m c b L xs D cI cZ cJ ad) {k cells slots : Nat} (hkL : 5 * k + 5 ≤ L) (hce : cells + 1 ≤ 1042) (hsl : slots + 6 ≤ 16233) {ls : Array Slot} {H : Heap} {locs : List Loc} (hl : lv_has ls 7 [(0, .ref b), (1, .ref (ad 0)), (2, .ref (ad 11)), (3, .ref (ad 15)), (4, .int (nI (5 * k)))]) (hV : eL D cI cZ cJ ad k H) (hS : va_S (fun q => s.heap.size ≤ q) s.heap H locs)
    (kk : ∀ (ls : Array Slot) (H : Heap) (locs : List Loc), lv_has ls 7 [(0, .ref b), (1, .ref (ad 0)), (2, .ref (ad 11)), (3, .ref (ad 15)), (4, .int (nI (5 * k)))] → eL D cI cZ cJ ad (k + 1) H → va_S (fun q => s.heap.size ≤ q) s.heap H locs → W p l e room_1 s m #[Value.ref b] below meth c H locs (cells + 1) (slots + 6) Q (F0 m 615 ls [])) :
    W p l e room_1 s m #[Value.ref b] below meth c H locs cells slots Q (F0 m 395 ls []) := by
  obtain ⟨hx, hb, hml, hown, hte, hX, hbl, hK, hN, hZ0, hJ, hA, hL, hl0⟩ := C
  have hts : ∀ w ∈ Cond.initialized RX5 :: eT, w.before #[Value.ref b] s = true := List.forall_mem_cons.mpr ⟨hte _ tw1, hte⟩
  obtain ⟨n, g, w, P, gm, wm, gs, wz, gb, go, gp, gj, wb, wl, wk, wo, fa, o, hn, hw, hI, hP⟩ := hV
  obtain ⟨bb, hbb⟩ : ∃ bb, bb = decide (xs (5 * k + 3) ≠ 0) := ⟨_, rfl⟩
  refine lv_aload_n hx hb dL_law_395 rfl (lv_at hl 1 rfl) ?_
  refine lv_aload_n hx hb dL_law_396 rfl (lv_at hl 0 rfl) ?_
  refine lv_iload hx hb dL_law_397 (lv_at hl 4 rfl) ?_
  refine lv_iconst (v := 1) hx hb dL_law_399 (by decide) ?_
  refine lv_iadd hx hb dL_law_400 ?_
  refine ef_eqi (y := nI (5 * k + 1)) (nI_add (5 * k) 1) ?_
  refine va_sld hx hb hX hbl (Nat.not_le.mpr hbl) hS (vp_in_nI (n := 5 * k + 1) (by omega) (by omega)) dL_law_401 ?_
  refine ef_eqi (y := xs (5 * k + 1)) (by rw [nI_clamp (by omega)]) ?_
  refine lv_aload_n hx hb dL_law_402 rfl (lv_at hl 0 rfl) ?_
  refine lv_iload hx hb dL_law_403 (lv_at hl 4 rfl) ?_
  refine lv_iconst (v := 2) hx hb dL_law_405 (by decide) ?_
  refine lv_iadd hx hb dL_law_406 ?_
  refine ef_eqi (y := nI (5 * k + 2)) (nI_add (5 * k) 2) ?_
  refine va_sld hx hb hX hbl (Nat.not_le.mpr hbl) hS (vp_in_nI (n := 5 * k + 2) (by omega) (by omega)) dL_law_407 ?_
  refine ef_eqi (y := xs (5 * k + 2)) (by rw [nI_clamp (by omega)]) ?_
  refine lv_aload_n hx hb dL_law_408 rfl (lv_at hl 0 rfl) ?_
  refine lv_iload hx hb dL_law_409 (lv_at hl 4 rfl) ?_
  refine lv_iconst (v := 3) hx hb dL_law_411 (by decide) ?_
  refine lv_iadd hx hb dL_law_412 ?_
  refine ef_eqi (y := nI (5 * k + 3)) (nI_add (5 * k) 3) ?_
  refine va_sld hx hb hX hbl (Nat.not_le.mpr hbl) hS (vp_in_nI (n := 5 * k + 3) (by omega) (by omega)) dL_law_413 ?_
  refine ef_eqi (y := xs (5 * k + 3)) (by rw [nI_clamp (by omega)]) ?_
  refine eo_b (t1 := 421) (t2 := 422) hx hb dL_law_414 dL_law_417 dL_law_418 dL_law_421 rfl rfl ?_
  refine ef_eqi (y := ef_b bb) (congrArg ef_b hbb.symm) ?_
  refine lv_aload_n hx hb dL_law_422 rfl (lv_at hl 3 rfl) ?_
  by_cases hq : ei_ok (xs (5 * k + 1)) 1 ∧ ei_ok (xs (5 * k + 2)) (nI n)
  · obtain ⟨i, hi, hz⟩ := eo_i (by omega) hq.2
    cases bb
    · skip
      rw [hz]
      have hZ : eZ s.heap.size s H := eZ_kept hZ0 (fun a h1 h2 => hS.2.1 a h1 h2)
      refine eh_S (own := RL) (n := 5) (av := [.ref (ad 0), .int (xs (5 * k + 1)), .int (nI i), .int (ef_b false), .ref (ad 15)]) (rest := []) hx hb hml hown hte hl.1 (h_next_f l D cI cZ cJ ad hJ s.heap.size n g w P gm wm gs wz gb go gp gj wb wl wk wo fa n g w P o (xs (5 * k + 1)) i hI hq.1 (by omega) hi) tw326 tw0 tw324 tw325 yd_L_next rfl rfl ⟨Nat.le_of_ble_eq_true rfl, Nat.le_of_ble_eq_true rfl⟩ hP hK hN hZ rfl rfl (Nat.le_of_ble_eq_true rfl) ⟨hce, hsl⟩ hS hA dL_law_423 (fun v9 W9 H locs hF hP hS hz9 hk9 => ?_)
      obtain ⟨rfl, gm, wm, gs, wz, gb, go, gp, gj, wb, wl, wk, wo, hI, rfl⟩ := hF
      refine W.eq (g2 := F0 m 426 ls [.int 0]) rfl ?_
      refine lv_istore (lv' := [(5, .int 0), (0, .ref b), (1, .ref (ad 0)), (2, .ref (ad 11)), (3, .ref (ad 15)), (4, .int (nI (5 * k)))]) hx hb dL_law_426 hl (Nat.le_of_ble_eq_true rfl) rfl (fun ls hl => ?_)
      refine lv_aload_n hx hb dL_law_428 rfl (lv_at hl 3 rfl) ?_
      refine lv_aload_n hx hb dL_law_429 rfl (lv_at hl 1 rfl) ?_
      refine lv_iload hx hb dL_law_430 (lv_at hl 5 rfl) ?_
      refine lv_iconst (v := 1) hx hb dL_law_432 (by decide) ?_
      refine lv_iadd hx hb dL_law_433 ?_
      refine ef_eqi (y := nI (5 * k + 1)) (nI_add (5 * k) 1) ?_
      refine va_sld hx hb hX hbl (Nat.not_le.mpr hbl) hS (vp_in_nI (n := 5 * k + 1) (by omega) (by omega)) dL_law_434 ?_
      refine ef_eqi (y := xs (5 * k + 1)) (by rw [nI_clamp (by omega)]) ?_
      refine lv_aload_n hx hb dL_law_435 rfl (lv_at hl 1 rfl) ?_
      refine lv_iload hx hb dL_law_436 (lv_at hl 5 rfl) ?_
      refine lv_iconst (v := 2) hx hb dL_law_438 (by decide) ?_
      refine lv_iadd hx hb dL_law_439 ?_
      refine ef_eqi (y := nI (5 * k + 2)) (nI_add (5 * k) 2) ?_
      refine va_sld hx hb hX hbl (Nat.not_le.mpr hbl) hS (vp_in_nI (n := 5 * k + 2) (by omega) (by omega)) dL_law_440 ?_
      refine ef_eqi (y := xs (5 * k + 2)) (by rw [nI_clamp (by omega)]) ?_
      refine lv_aload_n hx hb dL_law_441 rfl (lv_at hl 1 rfl) ?_
      refine lv_iload hx hb dL_law_442 (lv_at hl 5 rfl) ?_
      refine lv_iconst (v := 3) hx hb dL_law_444 (by decide) ?_
      refine lv_iadd hx hb dL_law_445 ?_
      refine ef_eqi (y := nI (5 * k + 3)) (nI_add (5 * k) 3) ?_
      refine va_sld hx hb hX hbl (Nat.not_le.mpr hbl) hS (vp_in_nI (n := 5 * k + 3) (by omega) (by omega)) dL_law_446 ?_
      refine ef_eqi (y := xs (5 * k + 3)) (by rw [nI_clamp (by omega)]) ?_
      refine eo_b (t1 := 454) (t2 := 455) hx hb dL_law_447 dL_law_450 dL_law_451 dL_law_454 rfl rfl ?_
      refine ef_eqi (y := ef_b false) (congrArg ef_b hbb.symm) ?_
      rw [hz]
      refine ec_V (own := RL) (C := RX6) (b := ad 11) (rest := []) hx hb hml hown hts hl.1 (c_X6_next_f l D cI cZ cJ ad hJ n g w P gm wm gs wz gb go gp gj wb wl wk wo fa n g w P (vp_updL o 0 ((es_fb (eb_k (xs (5 * k + 1)) g w P n) (n - i) (i + 1)).toInt64)) (xs (5 * k + 1)) i hq.1 (by omega) hi hw) tw458 tw7 tw455 tw456 tw457 yd_X6_next rfl rfl ⟨Nat.le_of_ble_eq_true rfl, Nat.le_of_ble_eq_true rfl⟩ hP hK hN hP (q0 := 11) rfl rfl rfl rfl (Nat.le_of_ble_eq_true rfl) ⟨hce, hsl⟩ hS hA dL_law_455 (fun v9 W9 H locs hF hP hS hz9 hk9 => ?_)
      obtain ⟨rfl, rfl⟩ := hF
      refine W.eq (g2 := F0 m 458 ls [.int (es_fb (eb_k (xs (5 * k + 1)) g w P n) (n - i) (i + 1))]) rfl ?_
      refine lv_istore (lv' := [(6, .int (es_fb (eb_k (xs (5 * k + 1)) g w P n) (n - i) (i + 1))), (5, .int 0), (0, .ref b), (1, .ref (ad 0)), (2, .ref (ad 11)), (3, .ref (ad 15)), (4, .int (nI (5 * k)))]) hx hb dL_law_458 hl (Nat.le_of_ble_eq_true rfl) rfl (fun ls hl => ?_)
      refine lv_aload_n hx hb dL_law_460 rfl (lv_at hl 4 rfl) ?_
      have hPt := hP.sub (ws' := [(ad 11, .inr (5, [.int 0, .int (nI n), .ref (ad 12), .ref (ad 13), .ref (ad 14)])), (ad 12, .inl (cI, 1000, .inl g)), (ad 13, .inl (cI, 1000, .inl w)), (ad 14, .inl (cZ, 1000, .inl (fun j => ef_b (P j))))]) [11, 12, 13, 14] rfl
      refine er_V (own := RL) (C := RX6) (b := ad 11) (rest := []) hx hb hml hown hts hl.1 (k_X6_thrown l D cI cZ cJ (ad 11) (ad 12) (ad 13) (ad 14) 0 n g w P) tw386 tw7 tw383 tw384 tw385 yd_X6_thrown rfl rfl ⟨Nat.le_of_ble_eq_true rfl, Nat.le_of_ble_eq_true rfl⟩ hPt hK hP (q0 := 11) rfl rfl rfl rfl (Nat.le_of_ble_eq_true rfl) ⟨hce, hsl⟩ dL_law_461 ?_
      refine lv_iload hx hb dL_law_464 (lv_at hl 1 rfl) ?_
      refine lv_icmp_eq (tgt := 471) hx hb dL_law_466 (by decide) (fun h1 => ?_) (fun h1 => ?_)
      · skip
        refine lv_iload hx hb dL_law_471 (lv_at hl 1 rfl) ?_
        refine lv_if_ne (tgt := 488) hx hb dL_law_473 (by decide) (fun h2 => ?_) (fun h2 => ?_)
        · skip
          exact absurd rfl h2
        · skip
          refine lv_aload_n hx hb dL_law_476 rfl (lv_at hl 5 rfl) ?_
          refine lv_iconst (v := 0) hx hb dL_law_477 (by decide) ?_
          refine va_lald hx hb hK hP 15 2 rfl rfl (vp_in_nI (n := 0) (by omega) (by decide)) dL_law_478 ?_
          refine ef_eql (y := (vp_updL o 0 ((es_fb (eb_k (xs (5 * k + 1)) g w P n) (n - i) (i + 1)).toInt64)) 0) rfl ?_
          refine ef_eql (y := (es_fb (eb_k (xs (5 * k + 1)) g w P n) (n - i) (i + 1)).toInt64) (eo_u _ _) ?_
          refine lv_iload hx hb dL_law_479 (lv_at hl 0 rfl) ?_
          refine lv_i2l (v := (es_fb (eb_k (xs (5 * k + 1)) g w P n) (n - i) (i + 1)).toInt64) hx hb dL_law_481 rfl ?_
          refine W.lcmp hx hb dL_law_482 ?_
          refine lv_if_eq (tgt := 488) hx hb dL_law_483 (by decide) (fun h3 => ?_) (fun h3 => ?_)
          · skip
            refine lv_goto (tgt := 615) hx hb dL_law_488 (by decide) ?_
            exact kk ls H locs (lv_sub hl [2, 3, 4, 5, 6] rfl) ⟨n, g, w, P, gm, wm, gs, wz, gb, go, gp, gj, wb, wl, wk, wo, 0, vp_updL o 0 ((es_fb (eb_k (xs (5 * k + 1)) g w P n) (n - i) (i + 1)).toInt64), by omega, hw, hI, hP⟩ hS
          · skip
            exact absurd (eo_cmp _) h3
      · skip
        exact absurd rfl h1
    · skip
      rw [hz]
      have hZ : eZ s.heap.size s H := eZ_kept hZ0 (fun a h1 h2 => hS.2.1 a h1 h2)
      refine eh_S (own := RL) (n := 5) (av := [.ref (ad 0), .int (xs (5 * k + 1)), .int (nI i), .int (ef_b true), .ref (ad 15)]) (rest := []) hx hb hml hown hte hl.1 (h_next_t l D cI cZ cJ ad hJ s.heap.size n g w P gm wm gs wz gb go gp gj wb wl wk wo fa n g w P o (xs (5 * k + 1)) i hI hq.1 (by omega) hi) tw326 tw0 tw324 tw325 yd_L_next rfl rfl ⟨Nat.le_of_ble_eq_true rfl, Nat.le_of_ble_eq_true rfl⟩ hP hK hN hZ rfl rfl (Nat.le_of_ble_eq_true rfl) ⟨hce, hsl⟩ hS hA dL_law_423 (fun v9 W9 H locs hF hP hS hz9 hk9 => ?_)
      obtain ⟨rfl, gm, wm, gs, wz, gb, go, gp, gj, wb, wl, wk, wo, hI, rfl⟩ := hF
      refine W.eq (g2 := F0 m 426 ls [.int 0]) rfl ?_
      refine lv_istore (lv' := [(5, .int 0), (0, .ref b), (1, .ref (ad 0)), (2, .ref (ad 11)), (3, .ref (ad 15)), (4, .int (nI (5 * k)))]) hx hb dL_law_426 hl (Nat.le_of_ble_eq_true rfl) rfl (fun ls hl => ?_)
      refine lv_aload_n hx hb dL_law_428 rfl (lv_at hl 3 rfl) ?_
      refine lv_aload_n hx hb dL_law_429 rfl (lv_at hl 1 rfl) ?_
      refine lv_iload hx hb dL_law_430 (lv_at hl 5 rfl) ?_
      refine lv_iconst (v := 1) hx hb dL_law_432 (by decide) ?_
      refine lv_iadd hx hb dL_law_433 ?_
      refine ef_eqi (y := nI (5 * k + 1)) (nI_add (5 * k) 1) ?_
      refine va_sld hx hb hX hbl (Nat.not_le.mpr hbl) hS (vp_in_nI (n := 5 * k + 1) (by omega) (by omega)) dL_law_434 ?_
      refine ef_eqi (y := xs (5 * k + 1)) (by rw [nI_clamp (by omega)]) ?_
      refine lv_aload_n hx hb dL_law_435 rfl (lv_at hl 1 rfl) ?_
      refine lv_iload hx hb dL_law_436 (lv_at hl 5 rfl) ?_
      refine lv_iconst (v := 2) hx hb dL_law_438 (by decide) ?_
      refine lv_iadd hx hb dL_law_439 ?_
      refine ef_eqi (y := nI (5 * k + 2)) (nI_add (5 * k) 2) ?_
      refine va_sld hx hb hX hbl (Nat.not_le.mpr hbl) hS (vp_in_nI (n := 5 * k + 2) (by omega) (by omega)) dL_law_440 ?_
      refine ef_eqi (y := xs (5 * k + 2)) (by rw [nI_clamp (by omega)]) ?_
      refine lv_aload_n hx hb dL_law_441 rfl (lv_at hl 1 rfl) ?_
      refine lv_iload hx hb dL_law_442 (lv_at hl 5 rfl) ?_
      refine lv_iconst (v := 3) hx hb dL_law_444 (by decide) ?_
      refine lv_iadd hx hb dL_law_445 ?_
      refine ef_eqi (y := nI (5 * k + 3)) (nI_add (5 * k) 3) ?_
      refine va_sld hx hb hX hbl (Nat.not_le.mpr hbl) hS (vp_in_nI (n := 5 * k + 3) (by omega) (by omega)) dL_law_446 ?_
      refine ef_eqi (y := xs (5 * k + 3)) (by rw [nI_clamp (by omega)]) ?_
      refine eo_b (t1 := 454) (t2 := 455) hx hb dL_law_447 dL_law_450 dL_law_451 dL_law_454 rfl rfl ?_
      refine ef_eqi (y := ef_b true) (congrArg ef_b hbb.symm) ?_
      rw [hz]
      refine ec_V (own := RL) (C := RX6) (b := ad 11) (rest := []) hx hb hml hown hts hl.1 (c_X6_next_t l D cI cZ cJ ad hJ n g w P gm wm gs wz gb go gp gj wb wl wk wo fa n g w P (vp_updL o 0 ((es_lb (eb_k (xs (5 * k + 1)) g w P n) i).toInt64)) (xs (5 * k + 1)) i hq.1 (by omega) hi hw) tw458 tw7 tw455 tw456 tw457 yd_X6_next rfl rfl ⟨Nat.le_of_ble_eq_true rfl, Nat.le_of_ble_eq_true rfl⟩ hP hK hN hP (q0 := 11) rfl rfl rfl rfl (Nat.le_of_ble_eq_true rfl) ⟨hce, hsl⟩ hS hA dL_law_455 (fun v9 W9 H locs hF hP hS hz9 hk9 => ?_)
      obtain ⟨rfl, rfl⟩ := hF
      refine W.eq (g2 := F0 m 458 ls [.int (es_lb (eb_k (xs (5 * k + 1)) g w P n) i)]) rfl ?_
      refine lv_istore (lv' := [(6, .int (es_lb (eb_k (xs (5 * k + 1)) g w P n) i)), (5, .int 0), (0, .ref b), (1, .ref (ad 0)), (2, .ref (ad 11)), (3, .ref (ad 15)), (4, .int (nI (5 * k)))]) hx hb dL_law_458 hl (Nat.le_of_ble_eq_true rfl) rfl (fun ls hl => ?_)
      refine lv_aload_n hx hb dL_law_460 rfl (lv_at hl 4 rfl) ?_
      have hPt := hP.sub (ws' := [(ad 11, .inr (5, [.int 0, .int (nI n), .ref (ad 12), .ref (ad 13), .ref (ad 14)])), (ad 12, .inl (cI, 1000, .inl g)), (ad 13, .inl (cI, 1000, .inl w)), (ad 14, .inl (cZ, 1000, .inl (fun j => ef_b (P j))))]) [11, 12, 13, 14] rfl
      refine er_V (own := RL) (C := RX6) (b := ad 11) (rest := []) hx hb hml hown hts hl.1 (k_X6_thrown l D cI cZ cJ (ad 11) (ad 12) (ad 13) (ad 14) 0 n g w P) tw386 tw7 tw383 tw384 tw385 yd_X6_thrown rfl rfl ⟨Nat.le_of_ble_eq_true rfl, Nat.le_of_ble_eq_true rfl⟩ hPt hK hP (q0 := 11) rfl rfl rfl rfl (Nat.le_of_ble_eq_true rfl) ⟨hce, hsl⟩ dL_law_461 ?_
      refine lv_iload hx hb dL_law_464 (lv_at hl 1 rfl) ?_
      refine lv_icmp_eq (tgt := 471) hx hb dL_law_466 (by decide) (fun h4 => ?_) (fun h4 => ?_)
      · skip
        refine lv_iload hx hb dL_law_471 (lv_at hl 1 rfl) ?_
        refine lv_if_ne (tgt := 488) hx hb dL_law_473 (by decide) (fun h5 => ?_) (fun h5 => ?_)
        · skip
          exact absurd rfl h5
        · skip
          refine lv_aload_n hx hb dL_law_476 rfl (lv_at hl 5 rfl) ?_
          refine lv_iconst (v := 0) hx hb dL_law_477 (by decide) ?_
          refine va_lald hx hb hK hP 15 2 rfl rfl (vp_in_nI (n := 0) (by omega) (by decide)) dL_law_478 ?_
          refine ef_eql (y := (vp_updL o 0 ((es_lb (eb_k (xs (5 * k + 1)) g w P n) i).toInt64)) 0) rfl ?_
          refine ef_eql (y := (es_lb (eb_k (xs (5 * k + 1)) g w P n) i).toInt64) (eo_u _ _) ?_
          refine lv_iload hx hb dL_law_479 (lv_at hl 0 rfl) ?_
          refine lv_i2l (v := (es_lb (eb_k (xs (5 * k + 1)) g w P n) i).toInt64) hx hb dL_law_481 rfl ?_
          refine W.lcmp hx hb dL_law_482 ?_
          refine lv_if_eq (tgt := 488) hx hb dL_law_483 (by decide) (fun h6 => ?_) (fun h6 => ?_)
          · skip
            refine lv_goto (tgt := 615) hx hb dL_law_488 (by decide) ?_
            exact kk ls H locs (lv_sub hl [2, 3, 4, 5, 6] rfl) ⟨n, g, w, P, gm, wm, gs, wz, gb, go, gp, gj, wb, wl, wk, wo, 0, vp_updL o 0 ((es_lb (eb_k (xs (5 * k + 1)) g w P n) i).toInt64), by omega, hw, hI, hP⟩ hS
          · skip
            exact absurd (eo_cmp _) h6
      · skip
        exact absurd rfl h4
  · skip
    have hZ : eZ s.heap.size s H := eZ_kept hZ0 (fun a h1 h2 => hS.2.1 a h1 h2)
    refine eh_S (own := RL) (n := 5) (av := [.ref (ad 0), .int (xs (5 * k + 1)), .int (xs (5 * k + 2)), .int (ef_b bb), .ref (ad 15)]) (rest := []) hx hb hml hown hte hl.1 (h_next_bad l hl0 D cI cZ cJ ad hJ s.heap.size n g w P gm wm gs wz gb go gp gj wb wl wk wo fa n g w P o (xs (5 * k + 1)) (xs (5 * k + 2)) bb hq) tw326 tw0 tw324 tw325 yd_L_next rfl rfl ⟨Nat.le_of_ble_eq_true rfl, Nat.le_of_ble_eq_true rfl⟩ hP hK hN hZ rfl rfl (Nat.le_of_ble_eq_true rfl) ⟨hce, hsl⟩ hS hA dL_law_423 (fun v9 W9 H locs hF hP hS hz9 hk9 => ?_)
    obtain ⟨rfl, rfl⟩ := hF
    refine W.eq (g2 := F0 m 426 ls [.int 1]) rfl ?_
    refine lv_istore (lv' := [(5, .int 1), (0, .ref b), (1, .ref (ad 0)), (2, .ref (ad 11)), (3, .ref (ad 15)), (4, .int (nI (5 * k)))]) hx hb dL_law_426 hl (Nat.le_of_ble_eq_true rfl) rfl (fun ls hl => ?_)
    refine lv_aload_n hx hb dL_law_428 rfl (lv_at hl 3 rfl) ?_
    refine lv_aload_n hx hb dL_law_429 rfl (lv_at hl 1 rfl) ?_
    refine lv_iload hx hb dL_law_430 (lv_at hl 5 rfl) ?_
    refine lv_iconst (v := 1) hx hb dL_law_432 (by decide) ?_
    refine lv_iadd hx hb dL_law_433 ?_
    refine ef_eqi (y := nI (5 * k + 1)) (nI_add (5 * k) 1) ?_
    refine va_sld hx hb hX hbl (Nat.not_le.mpr hbl) hS (vp_in_nI (n := 5 * k + 1) (by omega) (by omega)) dL_law_434 ?_
    refine ef_eqi (y := xs (5 * k + 1)) (by rw [nI_clamp (by omega)]) ?_
    refine lv_aload_n hx hb dL_law_435 rfl (lv_at hl 1 rfl) ?_
    refine lv_iload hx hb dL_law_436 (lv_at hl 5 rfl) ?_
    refine lv_iconst (v := 2) hx hb dL_law_438 (by decide) ?_
    refine lv_iadd hx hb dL_law_439 ?_
    refine ef_eqi (y := nI (5 * k + 2)) (nI_add (5 * k) 2) ?_
    refine va_sld hx hb hX hbl (Nat.not_le.mpr hbl) hS (vp_in_nI (n := 5 * k + 2) (by omega) (by omega)) dL_law_440 ?_
    refine ef_eqi (y := xs (5 * k + 2)) (by rw [nI_clamp (by omega)]) ?_
    refine lv_aload_n hx hb dL_law_441 rfl (lv_at hl 1 rfl) ?_
    refine lv_iload hx hb dL_law_442 (lv_at hl 5 rfl) ?_
    refine lv_iconst (v := 3) hx hb dL_law_444 (by decide) ?_
    refine lv_iadd hx hb dL_law_445 ?_
    refine ef_eqi (y := nI (5 * k + 3)) (nI_add (5 * k) 3) ?_
    refine va_sld hx hb hX hbl (Nat.not_le.mpr hbl) hS (vp_in_nI (n := 5 * k + 3) (by omega) (by omega)) dL_law_446 ?_
    refine ef_eqi (y := xs (5 * k + 3)) (by rw [nI_clamp (by omega)]) ?_
    refine eo_b (t1 := 454) (t2 := 455) hx hb dL_law_447 dL_law_450 dL_law_451 dL_law_454 rfl rfl ?_
    refine ef_eqi (y := ef_b bb) (congrArg ef_b hbb.symm) ?_
    refine ec_V (own := RL) (C := RX6) (b := ad 11) (rest := []) hx hb hml hown hts hl.1 (c_X6_next_bad l D cI cZ cJ ad hJ n g w P gm wm gs wz gb go gp gj wb wl wk wo fa n g w P o (xs (5 * k + 1)) (xs (5 * k + 2)) bb hq) tw458 tw7 tw455 tw456 tw457 yd_X6_next rfl rfl ⟨Nat.le_of_ble_eq_true rfl, Nat.le_of_ble_eq_true rfl⟩ hP hK hN hP (q0 := 11) rfl rfl rfl rfl (Nat.le_of_ble_eq_true rfl) ⟨hce, hsl⟩ hS hA dL_law_455 (fun v9 W9 H locs hF hP hS hz9 hk9 => ?_)
    obtain ⟨rfl, rfl⟩ := hF
    refine W.eq (g2 := F0 m 458 ls [.int 0]) rfl ?_
    refine lv_istore (lv' := [(6, .int 0), (5, .int 1), (0, .ref b), (1, .ref (ad 0)), (2, .ref (ad 11)), (3, .ref (ad 15)), (4, .int (nI (5 * k)))]) hx hb dL_law_458 hl (Nat.le_of_ble_eq_true rfl) rfl (fun ls hl => ?_)
    refine lv_aload_n hx hb dL_law_460 rfl (lv_at hl 4 rfl) ?_
    have hPt := hP.sub (ws' := [(ad 11, .inr (5, [.int 1, .int (nI n), .ref (ad 12), .ref (ad 13), .ref (ad 14)])), (ad 12, .inl (cI, 1000, .inl g)), (ad 13, .inl (cI, 1000, .inl w)), (ad 14, .inl (cZ, 1000, .inl (fun j => ef_b (P j))))]) [11, 12, 13, 14] rfl
    refine er_V (own := RL) (C := RX6) (b := ad 11) (rest := []) hx hb hml hown hts hl.1 (k_X6_thrown l D cI cZ cJ (ad 11) (ad 12) (ad 13) (ad 14) 1 n g w P) tw386 tw7 tw383 tw384 tw385 yd_X6_thrown rfl rfl ⟨Nat.le_of_ble_eq_true rfl, Nat.le_of_ble_eq_true rfl⟩ hPt hK hP (q0 := 11) rfl rfl rfl rfl (Nat.le_of_ble_eq_true rfl) ⟨hce, hsl⟩ dL_law_461 ?_
    refine lv_iload hx hb dL_law_464 (lv_at hl 1 rfl) ?_
    refine lv_icmp_eq (tgt := 471) hx hb dL_law_466 (by decide) (fun h7 => ?_) (fun h7 => ?_)
    · skip
      refine lv_iload hx hb dL_law_471 (lv_at hl 1 rfl) ?_
      refine lv_if_ne (tgt := 488) hx hb dL_law_473 (by decide) (fun h8 => ?_) (fun h8 => ?_)
      · skip
        refine lv_goto (tgt := 615) hx hb dL_law_488 (by decide) ?_
        exact kk ls H locs (lv_sub hl [2, 3, 4, 5, 6] rfl) ⟨n, g, w, P, gm, wm, gs, wz, gb, go, gp, gj, wb, wl, wk, wo, 1, o, by omega, hw, hI, hP⟩ hS
      · skip
        exact absurd h8 (by decide)
    · skip
      exact absurd rfl h7

set_option maxHeartbeats 4000000 in
set_option maxRecDepth 100000 in
theorem o_rank {p : Program} {l : Launch} {e : Env} {s : State} {m : MethodId} {below : List Frame} {meth : Method} {c : Code} {b L : Nat} {xs : Nat → Int32} {D : va_G} {cI cZ cJ : ClassId} {ad : Nat → Nat} {Q : State → Prop} (C : eX p l s m c b L xs D cI cZ cJ ad) {k cells slots : Nat} (hkL : 5 * k + 5 ≤ L) (hce : cells + 1 ≤ 1042) (hsl : slots + 6 ≤ 16233) {ls : Array Slot} {H : Heap} {locs : List Loc} (hl : lv_has ls 7 [(0, .ref b), (1, .ref (ad 0)), (2, .ref (ad 11)), (3, .ref (ad 15)), (4, .int (nI (5 * k)))]) (hV : eL D cI cZ cJ ad k H) (hS : va_S (fun q => s.heap.size ≤ q) s.heap H locs)
    (kk : ∀ (ls : Array Slot) (H : Heap) (locs : List Loc), lv_has ls 7 [(0, .ref b), (1, .ref (ad 0)), (2, .ref (ad 11)), (3, .ref (ad 15)), (4, .int (nI (5 * k)))] → eL D cI cZ cJ ad (k + 1) H → va_S (fun q => s.heap.size ≤ q) s.heap H locs → W p l e room_1 s m #[Value.ref b] below meth c H locs (cells + 1) (slots + 6) Q (F0 m 615 ls [])) :
    W p l e room_1 s m #[Value.ref b] below meth c H locs cells slots Q (F0 m 491 ls []) := by
  obtain ⟨hx, hb, hml, hown, hte, hX, hbl, hK, hN, hZ0, hJ, hA, hL, hl0⟩ := C
  have hts : ∀ w ∈ Cond.initialized RX5 :: eT, w.before #[Value.ref b] s = true := List.forall_mem_cons.mpr ⟨hte _ tw1, hte⟩
  obtain ⟨n, g, w, P, gm, wm, gs, wz, gb, go, gp, gj, wb, wl, wk, wo, fa, o, hn, hw, hI, hP⟩ := hV
  refine lv_aload_n hx hb dL_law_491 rfl (lv_at hl 1 rfl) ?_
  refine lv_aload_n hx hb dL_law_492 rfl (lv_at hl 0 rfl) ?_
  refine lv_iload hx hb dL_law_493 (lv_at hl 4 rfl) ?_
  refine lv_iconst (v := 1) hx hb dL_law_495 (by decide) ?_
  refine lv_iadd hx hb dL_law_496 ?_
  refine ef_eqi (y := nI (5 * k + 1)) (nI_add (5 * k) 1) ?_
  refine va_sld hx hb hX hbl (Nat.not_le.mpr hbl) hS (vp_in_nI (n := 5 * k + 1) (by omega) (by omega)) dL_law_497 ?_
  refine ef_eqi (y := xs (5 * k + 1)) (by rw [nI_clamp (by omega)]) ?_
  refine lv_aload_n hx hb dL_law_498 rfl (lv_at hl 0 rfl) ?_
  refine lv_iload hx hb dL_law_499 (lv_at hl 4 rfl) ?_
  refine lv_iconst (v := 2) hx hb dL_law_501 (by decide) ?_
  refine lv_iadd hx hb dL_law_502 ?_
  refine ef_eqi (y := nI (5 * k + 2)) (nI_add (5 * k) 2) ?_
  refine va_sld hx hb hX hbl (Nat.not_le.mpr hbl) hS (vp_in_nI (n := 5 * k + 2) (by omega) (by omega)) dL_law_503 ?_
  refine ef_eqi (y := xs (5 * k + 2)) (by rw [nI_clamp (by omega)]) ?_
  refine lv_aload_n hx hb dL_law_504 rfl (lv_at hl 3 rfl) ?_
  by_cases hq : ei_ok (xs (5 * k + 1)) 1 ∧ ei_ok (xs (5 * k + 2)) (nI n)
  · skip
    obtain ⟨i, hi, hz⟩ := eo_i (by omega) hq.2
    rw [hz]
    have hZ : eZ s.heap.size s H := eZ_kept hZ0 (fun a h1 h2 => hS.2.1 a h1 h2)
    refine eh_S (own := RL) (n := 4) (av := [.ref (ad 0), .int (xs (5 * k + 1)), .int (nI i), .ref (ad 15)]) (rest := []) hx hb hml hown hte hl.1 (h_rank l D cI cZ cJ ad hJ s.heap.size n g w P gm wm gs wz gb go gp gj wb wl wk wo fa n g w P o (xs (5 * k + 1)) i hI hq.1 (by omega) hi) tw341 tw0 tw339 tw340 yd_L_rank rfl rfl ⟨Nat.le_of_ble_eq_true rfl, Nat.le_of_ble_eq_true rfl⟩ hP hK hN hZ rfl rfl (Nat.le_of_ble_eq_true rfl) ⟨hce, hsl⟩ hS hA dL_law_505 (fun v9 W9 H locs hF hP hS hz9 hk9 => ?_)
    obtain ⟨rfl, gm, wm, gs, wz, gb, go, gp, gj, wb, wl, wk, wo, hI, rfl⟩ := hF
    refine W.eq (g2 := F0 m 508 ls [.int 0]) rfl ?_
    refine lv_istore (lv' := [(5, .int 0), (0, .ref b), (1, .ref (ad 0)), (2, .ref (ad 11)), (3, .ref (ad 15)), (4, .int (nI (5 * k)))]) hx hb dL_law_508 hl (Nat.le_of_ble_eq_true rfl) rfl (fun ls hl => ?_)
    refine lv_aload_n hx hb dL_law_510 rfl (lv_at hl 3 rfl) ?_
    refine lv_aload_n hx hb dL_law_511 rfl (lv_at hl 1 rfl) ?_
    refine lv_iload hx hb dL_law_512 (lv_at hl 5 rfl) ?_
    refine lv_iconst (v := 1) hx hb dL_law_514 (by decide) ?_
    refine lv_iadd hx hb dL_law_515 ?_
    refine ef_eqi (y := nI (5 * k + 1)) (nI_add (5 * k) 1) ?_
    refine va_sld hx hb hX hbl (Nat.not_le.mpr hbl) hS (vp_in_nI (n := 5 * k + 1) (by omega) (by omega)) dL_law_516 ?_
    refine ef_eqi (y := xs (5 * k + 1)) (by rw [nI_clamp (by omega)]) ?_
    refine lv_aload_n hx hb dL_law_517 rfl (lv_at hl 1 rfl) ?_
    refine lv_iload hx hb dL_law_518 (lv_at hl 5 rfl) ?_
    refine lv_iconst (v := 2) hx hb dL_law_520 (by decide) ?_
    refine lv_iadd hx hb dL_law_521 ?_
    refine ef_eqi (y := nI (5 * k + 2)) (nI_add (5 * k) 2) ?_
    refine va_sld hx hb hX hbl (Nat.not_le.mpr hbl) hS (vp_in_nI (n := 5 * k + 2) (by omega) (by omega)) dL_law_522 ?_
    refine ef_eqi (y := xs (5 * k + 2)) (by rw [nI_clamp (by omega)]) ?_
    rw [hz]
    refine ec_V (own := RL) (C := RX6) (b := ad 11) (rest := []) hx hb hml hown hts hl.1 (c_X6_rank l D cI cZ cJ ad hJ n g w P gm wm gs wz gb go gp gj wb wl wk wo fa n g w P (vp_updL o 0 ((nI (es_cu (eb_k (xs (5 * k + 1)) g w P n) (i + 1))).toInt64)) (xs (5 * k + 1)) i hq.1 (by omega) hi hw) tw462 tw7 tw459 tw460 tw461 yd_X6_rank rfl rfl ⟨Nat.le_of_ble_eq_true rfl, Nat.le_of_ble_eq_true rfl⟩ hP hK hN hP (q0 := 11) rfl rfl rfl rfl (Nat.le_of_ble_eq_true rfl) ⟨hce, hsl⟩ hS hA dL_law_523 (fun v9 W9 H locs hF hP hS hz9 hk9 => ?_)
    obtain ⟨rfl, rfl⟩ := hF
    refine W.eq (g2 := F0 m 526 ls [.int (nI (es_cu (eb_k (xs (5 * k + 1)) g w P n) (i + 1)))]) rfl ?_
    refine lv_istore (lv' := [(6, .int (nI (es_cu (eb_k (xs (5 * k + 1)) g w P n) (i + 1)))), (5, .int 0), (0, .ref b), (1, .ref (ad 0)), (2, .ref (ad 11)), (3, .ref (ad 15)), (4, .int (nI (5 * k)))]) hx hb dL_law_526 hl (Nat.le_of_ble_eq_true rfl) rfl (fun ls hl => ?_)
    refine lv_aload_n hx hb dL_law_528 rfl (lv_at hl 4 rfl) ?_
    have hPt := hP.sub (ws' := [(ad 11, .inr (5, [.int 0, .int (nI n), .ref (ad 12), .ref (ad 13), .ref (ad 14)])), (ad 12, .inl (cI, 1000, .inl g)), (ad 13, .inl (cI, 1000, .inl w)), (ad 14, .inl (cZ, 1000, .inl (fun j => ef_b (P j))))]) [11, 12, 13, 14] rfl
    refine er_V (own := RL) (C := RX6) (b := ad 11) (rest := []) hx hb hml hown hts hl.1 (k_X6_thrown l D cI cZ cJ (ad 11) (ad 12) (ad 13) (ad 14) 0 n g w P) tw386 tw7 tw383 tw384 tw385 yd_X6_thrown rfl rfl ⟨Nat.le_of_ble_eq_true rfl, Nat.le_of_ble_eq_true rfl⟩ hPt hK hP (q0 := 11) rfl rfl rfl rfl (Nat.le_of_ble_eq_true rfl) ⟨hce, hsl⟩ dL_law_529 ?_
    refine lv_iload hx hb dL_law_532 (lv_at hl 1 rfl) ?_
    refine lv_icmp_eq (tgt := 539) hx hb dL_law_534 (by decide) (fun h1 => ?_) (fun h1 => ?_)
    · skip
      refine lv_iload hx hb dL_law_539 (lv_at hl 1 rfl) ?_
      refine lv_if_ne (tgt := 556) hx hb dL_law_541 (by decide) (fun h2 => ?_) (fun h2 => ?_)
      · skip
        exact absurd rfl h2
      · skip
        refine lv_aload_n hx hb dL_law_544 rfl (lv_at hl 5 rfl) ?_
        refine lv_iconst (v := 0) hx hb dL_law_545 (by decide) ?_
        refine va_lald hx hb hK hP 15 2 rfl rfl (vp_in_nI (n := 0) (by omega) (by decide)) dL_law_546 ?_
        refine ef_eql (y := (vp_updL o 0 ((nI (es_cu (eb_k (xs (5 * k + 1)) g w P n) (i + 1))).toInt64)) 0) rfl ?_
        refine ef_eql (y := (nI (es_cu (eb_k (xs (5 * k + 1)) g w P n) (i + 1))).toInt64) (eo_u _ _) ?_
        refine lv_iload hx hb dL_law_547 (lv_at hl 0 rfl) ?_
        refine lv_i2l (v := (nI (es_cu (eb_k (xs (5 * k + 1)) g w P n) (i + 1))).toInt64) hx hb dL_law_549 rfl ?_
        refine W.lcmp hx hb dL_law_550 ?_
        refine lv_if_eq (tgt := 556) hx hb dL_law_551 (by decide) (fun h3 => ?_) (fun h3 => ?_)
        · skip
          refine lv_goto (tgt := 615) hx hb dL_law_556 (by decide) ?_
          exact kk ls H locs (lv_sub hl [2, 3, 4, 5, 6] rfl) ⟨n, g, w, P, gm, wm, gs, wz, gb, go, gp, gj, wb, wl, wk, wo, 0, vp_updL o 0 ((nI (es_cu (eb_k (xs (5 * k + 1)) g w P n) (i + 1))).toInt64), by omega, hw, hI, hP⟩ hS
        · skip
          exact absurd (eo_cmp _) h3
    · skip
      exact absurd rfl h1
  · skip
    have hZ : eZ s.heap.size s H := eZ_kept hZ0 (fun a h1 h2 => hS.2.1 a h1 h2)
    refine eh_S (own := RL) (n := 4) (av := [.ref (ad 0), .int (xs (5 * k + 1)), .int (xs (5 * k + 2)), .ref (ad 15)]) (rest := []) hx hb hml hown hte hl.1 (h_rank_bad l hl0 D cI cZ cJ ad hJ s.heap.size n g w P gm wm gs wz gb go gp gj wb wl wk wo fa n g w P o (xs (5 * k + 1)) (xs (5 * k + 2)) hq) tw341 tw0 tw339 tw340 yd_L_rank rfl rfl ⟨Nat.le_of_ble_eq_true rfl, Nat.le_of_ble_eq_true rfl⟩ hP hK hN hZ rfl rfl (Nat.le_of_ble_eq_true rfl) ⟨hce, hsl⟩ hS hA dL_law_505 (fun v9 W9 H locs hF hP hS hz9 hk9 => ?_)
    obtain ⟨rfl, rfl⟩ := hF
    refine W.eq (g2 := F0 m 508 ls [.int 1]) rfl ?_
    refine lv_istore (lv' := [(5, .int 1), (0, .ref b), (1, .ref (ad 0)), (2, .ref (ad 11)), (3, .ref (ad 15)), (4, .int (nI (5 * k)))]) hx hb dL_law_508 hl (Nat.le_of_ble_eq_true rfl) rfl (fun ls hl => ?_)
    refine lv_aload_n hx hb dL_law_510 rfl (lv_at hl 3 rfl) ?_
    refine lv_aload_n hx hb dL_law_511 rfl (lv_at hl 1 rfl) ?_
    refine lv_iload hx hb dL_law_512 (lv_at hl 5 rfl) ?_
    refine lv_iconst (v := 1) hx hb dL_law_514 (by decide) ?_
    refine lv_iadd hx hb dL_law_515 ?_
    refine ef_eqi (y := nI (5 * k + 1)) (nI_add (5 * k) 1) ?_
    refine va_sld hx hb hX hbl (Nat.not_le.mpr hbl) hS (vp_in_nI (n := 5 * k + 1) (by omega) (by omega)) dL_law_516 ?_
    refine ef_eqi (y := xs (5 * k + 1)) (by rw [nI_clamp (by omega)]) ?_
    refine lv_aload_n hx hb dL_law_517 rfl (lv_at hl 1 rfl) ?_
    refine lv_iload hx hb dL_law_518 (lv_at hl 5 rfl) ?_
    refine lv_iconst (v := 2) hx hb dL_law_520 (by decide) ?_
    refine lv_iadd hx hb dL_law_521 ?_
    refine ef_eqi (y := nI (5 * k + 2)) (nI_add (5 * k) 2) ?_
    refine va_sld hx hb hX hbl (Nat.not_le.mpr hbl) hS (vp_in_nI (n := 5 * k + 2) (by omega) (by omega)) dL_law_522 ?_
    refine ef_eqi (y := xs (5 * k + 2)) (by rw [nI_clamp (by omega)]) ?_
    refine ec_V (own := RL) (C := RX6) (b := ad 11) (rest := []) hx hb hml hown hts hl.1 (c_X6_rank_bad l D cI cZ cJ ad hJ n g w P gm wm gs wz gb go gp gj wb wl wk wo fa n g w P o (xs (5 * k + 1)) (xs (5 * k + 2)) hq) tw462 tw7 tw459 tw460 tw461 yd_X6_rank rfl rfl ⟨Nat.le_of_ble_eq_true rfl, Nat.le_of_ble_eq_true rfl⟩ hP hK hN hP (q0 := 11) rfl rfl rfl rfl (Nat.le_of_ble_eq_true rfl) ⟨hce, hsl⟩ hS hA dL_law_523 (fun v9 W9 H locs hF hP hS hz9 hk9 => ?_)
    obtain ⟨rfl, rfl⟩ := hF
    refine W.eq (g2 := F0 m 526 ls [.int 0]) rfl ?_
    refine lv_istore (lv' := [(6, .int 0), (5, .int 1), (0, .ref b), (1, .ref (ad 0)), (2, .ref (ad 11)), (3, .ref (ad 15)), (4, .int (nI (5 * k)))]) hx hb dL_law_526 hl (Nat.le_of_ble_eq_true rfl) rfl (fun ls hl => ?_)
    refine lv_aload_n hx hb dL_law_528 rfl (lv_at hl 4 rfl) ?_
    have hPt := hP.sub (ws' := [(ad 11, .inr (5, [.int 1, .int (nI n), .ref (ad 12), .ref (ad 13), .ref (ad 14)])), (ad 12, .inl (cI, 1000, .inl g)), (ad 13, .inl (cI, 1000, .inl w)), (ad 14, .inl (cZ, 1000, .inl (fun j => ef_b (P j))))]) [11, 12, 13, 14] rfl
    refine er_V (own := RL) (C := RX6) (b := ad 11) (rest := []) hx hb hml hown hts hl.1 (k_X6_thrown l D cI cZ cJ (ad 11) (ad 12) (ad 13) (ad 14) 1 n g w P) tw386 tw7 tw383 tw384 tw385 yd_X6_thrown rfl rfl ⟨Nat.le_of_ble_eq_true rfl, Nat.le_of_ble_eq_true rfl⟩ hPt hK hP (q0 := 11) rfl rfl rfl rfl (Nat.le_of_ble_eq_true rfl) ⟨hce, hsl⟩ dL_law_529 ?_
    refine lv_iload hx hb dL_law_532 (lv_at hl 1 rfl) ?_
    refine lv_icmp_eq (tgt := 539) hx hb dL_law_534 (by decide) (fun h4 => ?_) (fun h4 => ?_)
    · skip
      refine lv_iload hx hb dL_law_539 (lv_at hl 1 rfl) ?_
      refine lv_if_ne (tgt := 556) hx hb dL_law_541 (by decide) (fun h5 => ?_) (fun h5 => ?_)
      · skip
        refine lv_goto (tgt := 615) hx hb dL_law_556 (by decide) ?_
        exact kk ls H locs (lv_sub hl [2, 3, 4, 5, 6] rfl) ⟨n, g, w, P, gm, wm, gs, wz, gb, go, gp, gj, wb, wl, wk, wo, 1, o, by omega, hw, hI, hP⟩ hS
      · skip
        exact absurd h5 (by decide)
    · skip
      exact absurd rfl h4

set_option maxHeartbeats 4000000 in
set_option maxRecDepth 100000 in
theorem o_hash {p : Program} {l : Launch} {e : Env} {s : State} {m : MethodId} {below : List Frame} {meth : Method} {c : Code} {b L : Nat} {xs : Nat → Int32} {D : va_G} {cI cZ cJ : ClassId} {ad : Nat → Nat} {Q : State → Prop} (C : eX p l s m c b L xs D cI cZ cJ ad) {k cells slots : Nat} (hkL : 5 * k + 5 ≤ L) (hce : cells + 1 ≤ 1042) (hsl : slots + 6 ≤ 16233) {ls : Array Slot} {H : Heap} {locs : List Loc} (hl : lv_has ls 7 [(0, .ref b), (1, .ref (ad 0)), (2, .ref (ad 11)), (3, .ref (ad 15)), (4, .int (nI (5 * k)))]) (hV : eL D cI cZ cJ ad k H) (hS : va_S (fun q => s.heap.size ≤ q) s.heap H locs)
    (kk : ∀ (ls : Array Slot) (H : Heap) (locs : List Loc), lv_has ls 7 [(0, .ref b), (1, .ref (ad 0)), (2, .ref (ad 11)), (3, .ref (ad 15)), (4, .int (nI (5 * k)))] → eL D cI cZ cJ ad (k + 1) H → va_S (fun q => s.heap.size ≤ q) s.heap H locs → W p l e room_1 s m #[Value.ref b] below meth c H locs (cells + 1) (slots + 6) Q (F0 m 615 ls [])) :
    W p l e room_1 s m #[Value.ref b] below meth c H locs cells slots Q (F0 m 559 ls []) := by
  obtain ⟨hx, hb, hml, hown, hte, hX, hbl, hK, hN, hZ0, hJ, hA, hL, hl0⟩ := C
  have hts : ∀ w ∈ Cond.initialized RX5 :: eT, w.before #[Value.ref b] s = true := List.forall_mem_cons.mpr ⟨hte _ tw1, hte⟩
  obtain ⟨n, g, w, P, gm, wm, gs, wz, gb, go, gp, gj, wb, wl, wk, wo, fa, o, hn, hw, hI, hP⟩ := hV
  refine lv_aload_n hx hb dL_law_559 rfl (lv_at hl 1 rfl) ?_
  refine lv_aload_n hx hb dL_law_560 rfl (lv_at hl 0 rfl) ?_
  refine lv_iload hx hb dL_law_561 (lv_at hl 4 rfl) ?_
  refine lv_iconst (v := 1) hx hb dL_law_563 (by decide) ?_
  refine lv_iadd hx hb dL_law_564 ?_
  refine ef_eqi (y := nI (5 * k + 1)) (nI_add (5 * k) 1) ?_
  refine va_sld hx hb hX hbl (Nat.not_le.mpr hbl) hS (vp_in_nI (n := 5 * k + 1) (by omega) (by omega)) dL_law_565 ?_
  refine ef_eqi (y := xs (5 * k + 1)) (by rw [nI_clamp (by omega)]) ?_
  refine lv_aload_n hx hb dL_law_566 rfl (lv_at hl 3 rfl) ?_
  by_cases hq : ei_ok (xs (5 * k + 1)) 1
  · skip
    have hZ : eZ s.heap.size s H := eZ_kept hZ0 (fun a h1 h2 => hS.2.1 a h1 h2)
    refine eh_S (own := RL) (n := 3) (av := [.ref (ad 0), .int (xs (5 * k + 1)), .ref (ad 15)]) (rest := []) hx hb hml hown hte hl.1 (h_hash l D cI cZ cJ ad hJ s.heap.size n g w P gm wm gs wz gb go gp gj wb wl wk wo fa n g w P o (xs (5 * k + 1)) hI hq (by omega)) tw352 tw0 tw350 tw351 yd_L_hash rfl rfl ⟨Nat.le_of_ble_eq_true rfl, Nat.le_of_ble_eq_true rfl⟩ hP hK hN hZ rfl rfl (Nat.le_of_ble_eq_true rfl) ⟨hce, hsl⟩ hS hA dL_law_567 (fun v9 W9 H locs hF hP hS hz9 hk9 => ?_)
    obtain ⟨rfl, gm, wm, gs, wz, gb, go, gp, gj, wb, wl, wk, wo, hI, rfl⟩ := hF
    refine W.eq (g2 := F0 m 570 ls [.int 0]) rfl ?_
    refine lv_istore (lv' := [(5, .int 0), (0, .ref b), (1, .ref (ad 0)), (2, .ref (ad 11)), (3, .ref (ad 15)), (4, .int (nI (5 * k)))]) hx hb dL_law_570 hl (Nat.le_of_ble_eq_true rfl) rfl (fun ls hl => ?_)
    refine lv_aload_n hx hb dL_law_572 rfl (lv_at hl 3 rfl) ?_
    refine lv_aload_n hx hb dL_law_573 rfl (lv_at hl 1 rfl) ?_
    refine lv_iload hx hb dL_law_574 (lv_at hl 5 rfl) ?_
    refine lv_iconst (v := 1) hx hb dL_law_576 (by decide) ?_
    refine lv_iadd hx hb dL_law_577 ?_
    refine ef_eqi (y := nI (5 * k + 1)) (nI_add (5 * k) 1) ?_
    refine va_sld hx hb hX hbl (Nat.not_le.mpr hbl) hS (vp_in_nI (n := 5 * k + 1) (by omega) (by omega)) dL_law_578 ?_
    refine ef_eqi (y := xs (5 * k + 1)) (by rw [nI_clamp (by omega)]) ?_
    refine ec_V (own := RL) (C := RX6) (b := ad 11) (rest := []) hx hb hml hown hts hl.1 (c_X6_hash l D cI cZ cJ ad hJ n g w P gm wm gs wz gb go gp gj wb wl wk wo fa n g w P (vp_updL o 0 ((es_mx (eb_k (xs (5 * k + 1)) g w P n) (n + 1)).toInt64)) (xs (5 * k + 1)) hq (by omega) hw) tw466 tw7 tw463 tw464 tw465 yd_X6_hash rfl rfl ⟨Nat.le_of_ble_eq_true rfl, Nat.le_of_ble_eq_true rfl⟩ hP hK hN hP (q0 := 11) rfl rfl rfl rfl (Nat.le_of_ble_eq_true rfl) ⟨hce, hsl⟩ hS hA dL_law_579 (fun v9 W9 H locs hF hP hS hz9 hk9 => ?_)
    obtain ⟨rfl, rfl⟩ := hF
    refine W.eq (g2 := F0 m 582 ls [.int (es_mx (eb_k (xs (5 * k + 1)) g w P n) (n + 1))]) rfl ?_
    refine lv_istore (lv' := [(6, .int (es_mx (eb_k (xs (5 * k + 1)) g w P n) (n + 1))), (5, .int 0), (0, .ref b), (1, .ref (ad 0)), (2, .ref (ad 11)), (3, .ref (ad 15)), (4, .int (nI (5 * k)))]) hx hb dL_law_582 hl (Nat.le_of_ble_eq_true rfl) rfl (fun ls hl => ?_)
    refine lv_aload_n hx hb dL_law_584 rfl (lv_at hl 4 rfl) ?_
    have hPt := hP.sub (ws' := [(ad 11, .inr (5, [.int 0, .int (nI n), .ref (ad 12), .ref (ad 13), .ref (ad 14)])), (ad 12, .inl (cI, 1000, .inl g)), (ad 13, .inl (cI, 1000, .inl w)), (ad 14, .inl (cZ, 1000, .inl (fun j => ef_b (P j))))]) [11, 12, 13, 14] rfl
    refine er_V (own := RL) (C := RX6) (b := ad 11) (rest := []) hx hb hml hown hts hl.1 (k_X6_thrown l D cI cZ cJ (ad 11) (ad 12) (ad 13) (ad 14) 0 n g w P) tw386 tw7 tw383 tw384 tw385 yd_X6_thrown rfl rfl ⟨Nat.le_of_ble_eq_true rfl, Nat.le_of_ble_eq_true rfl⟩ hPt hK hP (q0 := 11) rfl rfl rfl rfl (Nat.le_of_ble_eq_true rfl) ⟨hce, hsl⟩ dL_law_585 ?_
    refine lv_iload hx hb dL_law_588 (lv_at hl 1 rfl) ?_
    refine lv_icmp_eq (tgt := 595) hx hb dL_law_590 (by decide) (fun h1 => ?_) (fun h1 => ?_)
    · skip
      refine lv_iload hx hb dL_law_595 (lv_at hl 1 rfl) ?_
      refine lv_if_ne (tgt := 612) hx hb dL_law_597 (by decide) (fun h2 => ?_) (fun h2 => ?_)
      · skip
        exact absurd rfl h2
      · skip
        refine lv_aload_n hx hb dL_law_600 rfl (lv_at hl 5 rfl) ?_
        refine lv_iconst (v := 0) hx hb dL_law_601 (by decide) ?_
        refine va_lald hx hb hK hP 15 2 rfl rfl (vp_in_nI (n := 0) (by omega) (by decide)) dL_law_602 ?_
        refine ef_eql (y := (vp_updL o 0 ((es_mx (eb_k (xs (5 * k + 1)) g w P n) (n + 1)).toInt64)) 0) rfl ?_
        refine ef_eql (y := (es_mx (eb_k (xs (5 * k + 1)) g w P n) (n + 1)).toInt64) (eo_u _ _) ?_
        refine lv_iload hx hb dL_law_603 (lv_at hl 0 rfl) ?_
        refine lv_i2l (v := (es_mx (eb_k (xs (5 * k + 1)) g w P n) (n + 1)).toInt64) hx hb dL_law_605 rfl ?_
        refine W.lcmp hx hb dL_law_606 ?_
        refine lv_if_eq (tgt := 612) hx hb dL_law_607 (by decide) (fun h3 => ?_) (fun h3 => ?_)
        · skip
          refine lv_goto (tgt := 615) hx hb dL_law_612 (by decide) ?_
          exact kk ls H locs (lv_sub hl [2, 3, 4, 5, 6] rfl) ⟨n, g, w, P, gm, wm, gs, wz, gb, go, gp, gj, wb, wl, wk, wo, 0, vp_updL o 0 ((es_mx (eb_k (xs (5 * k + 1)) g w P n) (n + 1)).toInt64), by omega, hw, hI, hP⟩ hS
        · skip
          exact absurd (eo_cmp _) h3
    · skip
      exact absurd rfl h1
  · skip
    have hZ : eZ s.heap.size s H := eZ_kept hZ0 (fun a h1 h2 => hS.2.1 a h1 h2)
    refine eh_S (own := RL) (n := 3) (av := [.ref (ad 0), .int (xs (5 * k + 1)), .ref (ad 15)]) (rest := []) hx hb hml hown hte hl.1 (h_hash_bad l hl0 D cI cZ cJ ad hJ s.heap.size n g w P gm wm gs wz gb go gp gj wb wl wk wo fa n g w P o (xs (5 * k + 1)) hq) tw352 tw0 tw350 tw351 yd_L_hash rfl rfl ⟨Nat.le_of_ble_eq_true rfl, Nat.le_of_ble_eq_true rfl⟩ hP hK hN hZ rfl rfl (Nat.le_of_ble_eq_true rfl) ⟨hce, hsl⟩ hS hA dL_law_567 (fun v9 W9 H locs hF hP hS hz9 hk9 => ?_)
    obtain ⟨rfl, rfl⟩ := hF
    refine W.eq (g2 := F0 m 570 ls [.int 1]) rfl ?_
    refine lv_istore (lv' := [(5, .int 1), (0, .ref b), (1, .ref (ad 0)), (2, .ref (ad 11)), (3, .ref (ad 15)), (4, .int (nI (5 * k)))]) hx hb dL_law_570 hl (Nat.le_of_ble_eq_true rfl) rfl (fun ls hl => ?_)
    refine lv_aload_n hx hb dL_law_572 rfl (lv_at hl 3 rfl) ?_
    refine lv_aload_n hx hb dL_law_573 rfl (lv_at hl 1 rfl) ?_
    refine lv_iload hx hb dL_law_574 (lv_at hl 5 rfl) ?_
    refine lv_iconst (v := 1) hx hb dL_law_576 (by decide) ?_
    refine lv_iadd hx hb dL_law_577 ?_
    refine ef_eqi (y := nI (5 * k + 1)) (nI_add (5 * k) 1) ?_
    refine va_sld hx hb hX hbl (Nat.not_le.mpr hbl) hS (vp_in_nI (n := 5 * k + 1) (by omega) (by omega)) dL_law_578 ?_
    refine ef_eqi (y := xs (5 * k + 1)) (by rw [nI_clamp (by omega)]) ?_
    refine ec_V (own := RL) (C := RX6) (b := ad 11) (rest := []) hx hb hml hown hts hl.1 (c_X6_hash_bad l D cI cZ cJ ad hJ n g w P gm wm gs wz gb go gp gj wb wl wk wo fa n g w P o (xs (5 * k + 1)) hq) tw466 tw7 tw463 tw464 tw465 yd_X6_hash rfl rfl ⟨Nat.le_of_ble_eq_true rfl, Nat.le_of_ble_eq_true rfl⟩ hP hK hN hP (q0 := 11) rfl rfl rfl rfl (Nat.le_of_ble_eq_true rfl) ⟨hce, hsl⟩ hS hA dL_law_579 (fun v9 W9 H locs hF hP hS hz9 hk9 => ?_)
    obtain ⟨rfl, rfl⟩ := hF
    refine W.eq (g2 := F0 m 582 ls [.int 0]) rfl ?_
    refine lv_istore (lv' := [(6, .int 0), (5, .int 1), (0, .ref b), (1, .ref (ad 0)), (2, .ref (ad 11)), (3, .ref (ad 15)), (4, .int (nI (5 * k)))]) hx hb dL_law_582 hl (Nat.le_of_ble_eq_true rfl) rfl (fun ls hl => ?_)
    refine lv_aload_n hx hb dL_law_584 rfl (lv_at hl 4 rfl) ?_
    have hPt := hP.sub (ws' := [(ad 11, .inr (5, [.int 1, .int (nI n), .ref (ad 12), .ref (ad 13), .ref (ad 14)])), (ad 12, .inl (cI, 1000, .inl g)), (ad 13, .inl (cI, 1000, .inl w)), (ad 14, .inl (cZ, 1000, .inl (fun j => ef_b (P j))))]) [11, 12, 13, 14] rfl
    refine er_V (own := RL) (C := RX6) (b := ad 11) (rest := []) hx hb hml hown hts hl.1 (k_X6_thrown l D cI cZ cJ (ad 11) (ad 12) (ad 13) (ad 14) 1 n g w P) tw386 tw7 tw383 tw384 tw385 yd_X6_thrown rfl rfl ⟨Nat.le_of_ble_eq_true rfl, Nat.le_of_ble_eq_true rfl⟩ hPt hK hP (q0 := 11) rfl rfl rfl rfl (Nat.le_of_ble_eq_true rfl) ⟨hce, hsl⟩ dL_law_585 ?_
    refine lv_iload hx hb dL_law_588 (lv_at hl 1 rfl) ?_
    refine lv_icmp_eq (tgt := 595) hx hb dL_law_590 (by decide) (fun h4 => ?_) (fun h4 => ?_)
    · skip
      refine lv_iload hx hb dL_law_595 (lv_at hl 1 rfl) ?_
      refine lv_if_ne (tgt := 612) hx hb dL_law_597 (by decide) (fun h5 => ?_) (fun h5 => ?_)
      · skip
        refine lv_goto (tgt := 615) hx hb dL_law_612 (by decide) ?_
        exact kk ls H locs (lv_sub hl [2, 3, 4, 5, 6] rfl) ⟨n, g, w, P, gm, wm, gs, wz, gb, go, gp, gj, wb, wl, wk, wo, 1, o, by omega, hw, hI, hP⟩ hS
      · skip
        exact absurd h5 (by decide)
    · skip
      exact absurd rfl h4
