set_option maxHeartbeats 4000000 in
set_option maxRecDepth 100000 in
theorem k_X0_firstBehind (l : Launch) (D : va_G) (cI cZ cJ : ClassId) (h0 ma ru : Nat) (sb : Bool) (M : Nat → Bool) (i n : Nat) (hn : n ≤ 1000) (hi : i ≤ n) : er_M l yX0_firstBehind (Cond.code yX0_firstBehind cX0_firstBehind 4 (some .int) :: eT) ({ frames := 0, cells := 0, slots := 0, locals := 0 }) D vwCl (eTy cI cZ cJ) [.ref h0, .int (nI i), .int (nI n)] [(h0, .inr (0, [.ref ma, .int (ef_b sb), .ref ru])), (ma, .inl (cZ, 1001, .inl (fun j => ef_b (M j))))] (.int (es_fb M (n - i) (i + 1))) := by
  refine er_of (cc := cX0_firstBehind) (maxL := 4) (ret := (some .int)) (by decide) rfl (Nat.le_of_ble_eq_true rfl) ?_
  intro p e s m args below meth c ls hx hb hr hts hown hlk hml hP hK hl
  have hown : s.vm.findClass RX0 = some m.cls := hown
  have hl : lv_has ls 4 [(0, .ref h0), (1, .int (nI i)), (2, .int (nI n))] := hl
  have L4 : ∀ (r : Nat) (k : Nat) (ls : Array Slot), lv_has ls 4 [(3, .int (nI k)), (0, .ref h0), (1, .int (nI i)), (2, .int (nI n))] → k ≤ n + 1 → es_fb M (n - i) (i + 1) = es_fb M (n + 1 - k) k → n + 1 - k < r → W p l e ({ frames := 0, cells := 0, slots := 0, locals := 0 }) s m args below meth c s.heap [] 0 0 (MQ below (er_Q (.int (es_fb M (n - i) (i + 1)))) args s 0 0 (fun _ => False)) (F0 m 4 ls []) := by
    intro r
    induction r with
    | zero => intro k ls hl hk he hμ; exact absurd hμ (Nat.not_lt_zero _)
    | succ r ih =>
      intro k ls hl hk he hμ
      refine lv_iload_n hx hb dX0_firstBehind_4 rfl (lv_at hl 0 rfl) ?_
      refine lv_iload_n hx hb dX0_firstBehind_5 rfl (lv_at hl 3 rfl) ?_
      refine lv_icmp_gt (tgt := 26) hx hb dX0_firstBehind_6 (by decide) (fun h1 => ?_) (fun h1 => ?_)
      · skip
        have h1 : n < k := (nI_ltI (a := n) (b := k) (by omega) (by omega)).mp h1
        refine lv_iconst (v := (-1)) hx hb dX0_firstBehind_26 (by decide) ?_
        exact er_iret hx hb hr hlk (by rw [he, show n + 1 - k = 0 by omega]; rfl) dX0_firstBehind_27
      · skip
        have h1 : ¬ (n < k) := fun q9 => h1 ((nI_ltI (a := n) (b := k) (by omega) (by omega)).mpr q9)
        refine lv_aload_n hx hb dX0_firstBehind_9 rfl (lv_at hl 1 rfl) ?_
        refine va_get (D := D) (ci := 0) (v := .ref ma) (C := RX0) (T := TX0) (N := 3) hx hb hts (fun w h => List.mem_cons_of_mem _ (inX0 w h)) hown hK hP 0 rfl rfl 0 (by decide) (eT_h hts tw77) (fun _ h9 => h9) rfl dX0_firstBehind_10 ?_
        refine lv_iload_n hx hb dX0_firstBehind_13 rfl (lv_at hl 0 rfl) ?_
        refine va_zald hx hb hK hP 1 1 rfl rfl (vp_in_nI (by omega) (by decide)) dX0_firstBehind_14 ?_
        refine ef_eqi (y := ef_b (M k)) (by rw [nI_clamp (by omega)]) ?_
        refine ef_if_eq (tgt := 20) hx hb dX0_firstBehind_15 (by decide) (fun h2 => ?_) (fun h2 => ?_)
        · skip
          refine lv_iinc (k := 0) (v := nI (k + 1)) (lv' := [(3, .int (nI (k + 1))), (0, .ref h0), (1, .int (nI i)), (2, .int (nI n))]) hx hb dX0_firstBehind_20 hl rfl (by rw [show Int32.ofInt 1 = 1 from by decide]; exact nI_1 _) (Nat.le_of_ble_eq_true rfl) rfl (fun ls hl => ?_)
          refine lv_goto (tgt := 4) hx hb dX0_firstBehind_23 (by decide) ?_
          exact ih (k + 1) ls hl (by omega) (by rw [he, show n + 1 - k = (n + 1 - (k + 1)) + 1 by omega]; simp [es_fb, h2]) (by omega)
        · skip
          refine lv_iload_n hx hb dX0_firstBehind_18 rfl (lv_at hl 0 rfl) ?_
          exact er_iret hx hb hr hlk (by rw [he, show n + 1 - k = (n - k) + 1 by omega]; simp [es_fb, h2]) dX0_firstBehind_19
  refine lv_iload_n hx hb dX0_firstBehind_0 rfl (lv_at hl 1 rfl) ?_
  refine lv_iconst (v := 1) hx hb dX0_firstBehind_1 (by decide) ?_
  refine lv_iadd hx hb dX0_firstBehind_2 ?_
  refine ef_eqi (y := nI (i + 1)) (nI_add i 1) ?_
  refine lv_istore_n (lv' := [(3, .int (nI (i + 1))), (0, .ref h0), (1, .int (nI i)), (2, .int (nI n))]) hx hb dX0_firstBehind_3 rfl hl (Nat.le_of_ble_eq_true rfl) rfl (fun ls hl => ?_)
  exact L4 _ (i + 1) ls hl (by omega) (by rw [show n + 1 - (i + 1) = n - i by omega]) (Nat.lt_succ_self _)

set_option maxHeartbeats 4000000 in
set_option maxRecDepth 100000 in
theorem k_X0_lastBefore (l : Launch) (D : va_G) (cI cZ cJ : ClassId) (h0 ma ru : Nat) (sb : Bool) (M : Nat → Bool) (i : Nat) (hi : i ≤ 1000) : er_M l yX0_lastBefore (Cond.code yX0_lastBefore cX0_lastBefore 3 (some .int) :: eT) ({ frames := 0, cells := 0, slots := 0, locals := 0 }) D vwCl (eTy cI cZ cJ) [.ref h0, .int (nI i)] [(h0, .inr (0, [.ref ma, .int (ef_b sb), .ref ru])), (ma, .inl (cZ, 1001, .inl (fun j => ef_b (M j))))] (.int (es_lb M i)) := by
  refine er_of (cc := cX0_lastBefore) (maxL := 3) (ret := (some .int)) (by decide) rfl (Nat.le_of_ble_eq_true rfl) ?_
  intro p e s m args below meth c ls hx hb hr hts hown hlk hml hP hK hl
  have hown : s.vm.findClass RX0 = some m.cls := hown
  have hl : lv_has ls 3 [(0, .ref h0), (1, .int (nI i))] := hl
  have L4 : ∀ (r : Nat) (k : Nat) (ls : Array Slot), lv_has ls 3 [(2, .int (nI k + (-1))), (0, .ref h0), (1, .int (nI i))] → k ≤ i → es_lb M i = es_lb M k → k < r → W p l e ({ frames := 0, cells := 0, slots := 0, locals := 0 }) s m args below meth c s.heap [] 0 0 (MQ below (er_Q (.int (es_lb M i))) args s 0 0 (fun _ => False)) (F0 m 4 ls []) := by
    intro r
    induction r with
    | zero => intro k ls hl hk he hμ; exact absurd hμ (Nat.not_lt_zero _)
    | succ r ih =>
      intro k ls hl hk he hμ
      rcases k with _ | k
      · skip
        refine lv_iload_n hx hb dX0_lastBefore_4 rfl (lv_at hl 0 rfl) ?_
        refine lv_if_lt (tgt := 25) hx hb dX0_lastBefore_5 (by decide) (fun h1 => ?_) (fun h1 => ?_)
        · skip
          refine lv_iconst (v := (-1)) hx hb dX0_lastBefore_25 (by decide) ?_
          exact er_iret hx hb hr hlk (by rw [he]; rfl) dX0_lastBefore_26
        · skip
          exact absurd (by decide) h1
      · skip
        have hl : lv_has ls 3 [(2, .int (nI k)), (0, .ref h0), (1, .int (nI i))] := by rw [← pk_m1 k]; exact hl
        refine lv_iload_n hx hb dX0_lastBefore_4 rfl (lv_at hl 0 rfl) ?_
        refine lv_if_lt (tgt := 25) hx hb dX0_lastBefore_5 (by decide) (fun h2 => ?_) (fun h2 => ?_)
        · skip
          exact absurd h2 (nI_pos (by omega))
        · skip
          refine lv_aload_n hx hb dX0_lastBefore_8 rfl (lv_at hl 1 rfl) ?_
          refine va_get (D := D) (ci := 0) (v := .ref ma) (C := RX0) (T := TX0) (N := 3) hx hb hts (fun w h => List.mem_cons_of_mem _ (inX0 w h)) hown hK hP 0 rfl rfl 0 (by decide) (eT_h hts tw77) (fun _ h9 => h9) rfl dX0_lastBefore_9 ?_
          refine lv_iload_n hx hb dX0_lastBefore_12 rfl (lv_at hl 0 rfl) ?_
          refine va_zald hx hb hK hP 1 1 rfl rfl (vp_in_nI (by omega) (by decide)) dX0_lastBefore_13 ?_
          refine ef_eqi (y := ef_b (M k)) (by rw [nI_clamp (by omega)]) ?_
          refine ef_if_eq (tgt := 19) hx hb dX0_lastBefore_14 (by decide) (fun h3 => ?_) (fun h3 => ?_)
          · skip
            refine lv_iinc (k := 0) (v := nI k + (-1)) (lv' := [(2, .int (nI k + (-1))), (0, .ref h0), (1, .int (nI i))]) hx hb dX0_lastBefore_19 hl rfl (by rw [show Int32.ofInt (-1) = -1 from by decide]) (Nat.le_of_ble_eq_true rfl) rfl (fun ls hl => ?_)
            refine lv_goto (tgt := 4) hx hb dX0_lastBefore_22 (by decide) ?_
            exact ih k ls hl (by omega) (by rw [he]; simp [es_lb, h3]) (by omega)
          · skip
            refine lv_iload_n hx hb dX0_lastBefore_17 rfl (lv_at hl 0 rfl) ?_
            exact er_iret hx hb hr hlk (by rw [he]; simp [es_lb, h3]) dX0_lastBefore_18
  refine lv_iload_n hx hb dX0_lastBefore_0 rfl (lv_at hl 1 rfl) ?_
  refine lv_iconst (v := 1) hx hb dX0_lastBefore_1 (by decide) ?_
  refine lv_isub hx hb dX0_lastBefore_2 ?_
  refine ef_eqi (y := nI i + (-1)) (Int32.sub_eq_add_neg _ _) ?_
  refine lv_istore_n (lv' := [(2, .int (nI i + (-1))), (0, .ref h0), (1, .int (nI i))]) hx hb dX0_lastBefore_3 rfl hl (Nat.le_of_ble_eq_true rfl) rfl (fun ls hl => ?_)
  exact L4 _ i ls hl (Nat.le_refl _) rfl (Nat.lt_succ_self _)

set_option maxHeartbeats 4000000 in
set_option maxRecDepth 100000 in
theorem k_X0_countUpTo (l : Launch) (D : va_G) (cI cZ cJ : ClassId) (h0 ma ru : Nat) (sb : Bool) (M : Nat → Bool) (i : Nat) (hi : i ≤ 1000) : er_M l yX0_countUpTo (Cond.code yX0_countUpTo cX0_countUpTo 4 (some .int) :: eT) ({ frames := 0, cells := 0, slots := 0, locals := 0 }) D vwCl (eTy cI cZ cJ) [.ref h0, .int (nI i)] [(h0, .inr (0, [.ref ma, .int (ef_b sb), .ref ru])), (ma, .inl (cZ, 1001, .inl (fun j => ef_b (M j))))] (.int (nI (es_cu M (i + 1)))) := by
  refine er_of (cc := cX0_countUpTo) (maxL := 4) (ret := (some .int)) (by decide) rfl (Nat.le_of_ble_eq_true rfl) ?_
  intro p e s m args below meth c ls hx hb hr hts hown hlk hml hP hK hl
  have hown : s.vm.findClass RX0 = some m.cls := hown
  have hl : lv_has ls 4 [(0, .ref h0), (1, .int (nI i))] := hl
  have L4 : ∀ (r : Nat) (k : Nat) (ls : Array Slot), lv_has ls 4 [(3, .int (nI k)), (2, .int (nI (es_cu M k))), (0, .ref h0), (1, .int (nI i))] → k ≤ i + 1 → i + 1 - k < r → W p l e ({ frames := 0, cells := 0, slots := 0, locals := 0 }) s m args below meth c s.heap [] 0 0 (MQ below (er_Q (.int (nI (es_cu M (i + 1))))) args s 0 0 (fun _ => False)) (F0 m 4 ls []) := by
    intro r
    induction r with
    | zero => intro k ls hl hk hμ; exact absurd hμ (Nat.not_lt_zero _)
    | succ r ih =>
      intro k ls hl hk hμ
      refine lv_iload_n hx hb dX0_countUpTo_4 rfl (lv_at hl 0 rfl) ?_
      refine lv_iload_n hx hb dX0_countUpTo_5 rfl (lv_at hl 3 rfl) ?_
      refine lv_icmp_gt (tgt := 27) hx hb dX0_countUpTo_6 (by decide) (fun h1 => ?_) (fun h1 => ?_)
      · skip
        have h1 : i < k := (nI_ltI (a := i) (b := k) (by omega) (by omega)).mp h1
        refine lv_iload_n hx hb dX0_countUpTo_27 rfl (lv_at hl 1 rfl) ?_
        exact er_iret hx hb hr hlk (by rw [show k = i + 1 by omega]) dX0_countUpTo_28
      · skip
        have h1 : ¬ (i < k) := fun q9 => h1 ((nI_ltI (a := i) (b := k) (by omega) (by omega)).mpr q9)
        refine lv_aload_n hx hb dX0_countUpTo_9 rfl (lv_at hl 2 rfl) ?_
        refine va_get (D := D) (ci := 0) (v := .ref ma) (C := RX0) (T := TX0) (N := 3) hx hb hts (fun w h => List.mem_cons_of_mem _ (inX0 w h)) hown hK hP 0 rfl rfl 0 (by decide) (eT_h hts tw77) (fun _ h9 => h9) rfl dX0_countUpTo_10 ?_
        refine lv_iload_n hx hb dX0_countUpTo_13 rfl (lv_at hl 0 rfl) ?_
        refine va_zald hx hb hK hP 1 1 rfl rfl (vp_in_nI (by omega) (by decide)) dX0_countUpTo_14 ?_
        refine ef_eqi (y := ef_b (M k)) (by rw [nI_clamp (by omega)]) ?_
        refine ef_if_eq (tgt := 21) hx hb dX0_countUpTo_15 (by decide) (fun h2 => ?_) (fun h2 => ?_)
        · skip
          refine lv_iinc (k := 0) (v := nI (k + 1)) (lv' := [(3, .int (nI (k + 1))), (2, .int (nI (es_cu M k))), (0, .ref h0), (1, .int (nI i))]) hx hb dX0_countUpTo_21 hl rfl (by rw [show Int32.ofInt 1 = 1 from by decide]; exact nI_1 _) (Nat.le_of_ble_eq_true rfl) rfl (fun ls hl => ?_)
          refine lv_goto (tgt := 4) hx hb dX0_countUpTo_24 (by decide) ?_
          have hl : lv_has ls 4 [(3, .int (nI (k + 1))), (2, .int (nI (es_cu M (k + 1)))), (0, .ref h0), (1, .int (nI i))] := by rw [show nI (es_cu M (k + 1)) = nI (es_cu M k) from (by simp [es_cu, h2])]; exact hl
          exact ih (k + 1) ls hl (by omega) (by omega)
        · skip
          refine lv_iinc (k := 1) (v := nI (es_cu M k + 1)) (lv' := [(2, .int (nI (es_cu M k + 1))), (3, .int (nI k)), (0, .ref h0), (1, .int (nI i))]) hx hb dX0_countUpTo_18 hl rfl (by rw [show Int32.ofInt 1 = 1 from by decide]; exact nI_1 _) (Nat.le_of_ble_eq_true rfl) rfl (fun ls hl => ?_)
          refine lv_iinc (k := 1) (v := nI (k + 1)) (lv' := [(3, .int (nI (k + 1))), (2, .int (nI (es_cu M k + 1))), (0, .ref h0), (1, .int (nI i))]) hx hb dX0_countUpTo_21 hl rfl (by rw [show Int32.ofInt 1 = 1 from by decide]; exact nI_1 _) (Nat.le_of_ble_eq_true rfl) rfl (fun ls hl => ?_)
          refine lv_goto (tgt := 4) hx hb dX0_countUpTo_24 (by decide) ?_
          have hl : lv_has ls 4 [(3, .int (nI (k + 1))), (2, .int (nI (es_cu M (k + 1)))), (0, .ref h0), (1, .int (nI i))] := by rw [show nI (es_cu M (k + 1)) = nI (es_cu M k + 1) from (by simp [es_cu, h2])]; exact hl
          exact ih (k + 1) ls hl (by omega) (by omega)
  refine lv_iconst (v := 0) hx hb dX0_countUpTo_0 (by decide) ?_
  refine lv_istore_n (lv' := [(2, .int 0), (0, .ref h0), (1, .int (nI i))]) hx hb dX0_countUpTo_1 rfl hl (Nat.le_of_ble_eq_true rfl) rfl (fun ls hl => ?_)
  refine lv_iconst (v := 0) hx hb dX0_countUpTo_2 (by decide) ?_
  refine lv_istore_n (lv' := [(3, .int 0), (2, .int 0), (0, .ref h0), (1, .int (nI i))]) hx hb dX0_countUpTo_3 rfl hl (Nat.le_of_ble_eq_true rfl) rfl (fun ls hl => ?_)
  exact L4 _ 0 ls hl (Nat.zero_le _) (Nat.lt_succ_self _)

set_option maxHeartbeats 4000000 in
set_option maxRecDepth 100000 in
theorem k_X0_mixUpTo (l : Launch) (D : va_G) (cI cZ cJ : ClassId) (h0 ma ru : Nat) (sb : Bool) (M : Nat → Bool) (i : Nat) (hi : i ≤ 1000) : er_M l yX0_mixUpTo (Cond.code yX0_mixUpTo cX0_mixUpTo 4 (some .int) :: eT) ({ frames := 0, cells := 0, slots := 0, locals := 0 }) D vwCl (eTy cI cZ cJ) [.ref h0, .int (nI i)] [(h0, .inr (0, [.ref ma, .int (ef_b sb), .ref ru])), (ma, .inl (cZ, 1001, .inl (fun j => ef_b (M j))))] (.int (es_mx M (i + 1))) := by
  refine er_of (cc := cX0_mixUpTo) (maxL := 4) (ret := (some .int)) (by decide) rfl (Nat.le_of_ble_eq_true rfl) ?_
  intro p e s m args below meth c ls hx hb hr hts hown hlk hml hP hK hl
  have hown : s.vm.findClass RX0 = some m.cls := hown
  have hl : lv_has ls 4 [(0, .ref h0), (1, .int (nI i))] := hl
  have L4 : ∀ (r : Nat) (k : Nat) (ls : Array Slot), lv_has ls 4 [(3, .int (nI k)), (2, .int (es_mx M k)), (0, .ref h0), (1, .int (nI i))] → k ≤ i + 1 → i + 1 - k < r → W p l e ({ frames := 0, cells := 0, slots := 0, locals := 0 }) s m args below meth c s.heap [] 0 0 (MQ below (er_Q (.int (es_mx M (i + 1)))) args s 0 0 (fun _ => False)) (F0 m 4 ls []) := by
    intro r
    induction r with
    | zero => intro k ls hl hk hμ; exact absurd hμ (Nat.not_lt_zero _)
    | succ r ih =>
      intro k ls hl hk hμ
      refine lv_iload_n hx hb dX0_mixUpTo_4 rfl (lv_at hl 0 rfl) ?_
      refine lv_iload_n hx hb dX0_mixUpTo_5 rfl (lv_at hl 3 rfl) ?_
      refine lv_icmp_gt (tgt := 31) hx hb dX0_mixUpTo_6 (by decide) (fun h1 => ?_) (fun h1 => ?_)
      · skip
        have h1 : i < k := (nI_ltI (a := i) (b := k) (by omega) (by omega)).mp h1
        refine lv_iload_n hx hb dX0_mixUpTo_31 rfl (lv_at hl 1 rfl) ?_
        exact er_iret hx hb hr hlk (by rw [show k = i + 1 by omega]) dX0_mixUpTo_32
      · skip
        have h1 : ¬ (i < k) := fun q9 => h1 ((nI_ltI (a := i) (b := k) (by omega) (by omega)).mpr q9)
        refine lv_aload_n hx hb dX0_mixUpTo_9 rfl (lv_at hl 2 rfl) ?_
        refine va_get (D := D) (ci := 0) (v := .ref ma) (C := RX0) (T := TX0) (N := 3) hx hb hts (fun w h => List.mem_cons_of_mem _ (inX0 w h)) hown hK hP 0 rfl rfl 0 (by decide) (eT_h hts tw77) (fun _ h9 => h9) rfl dX0_mixUpTo_10 ?_
        refine lv_iload_n hx hb dX0_mixUpTo_13 rfl (lv_at hl 0 rfl) ?_
        refine va_zald hx hb hK hP 1 1 rfl rfl (vp_in_nI (by omega) (by decide)) dX0_mixUpTo_14 ?_
        refine ef_eqi (y := ef_b (M k)) (by rw [nI_clamp (by omega)]) ?_
        refine ef_if_eq (tgt := 25) hx hb dX0_mixUpTo_15 (by decide) (fun h2 => ?_) (fun h2 => ?_)
        · skip
          refine lv_iinc (k := 0) (v := nI (k + 1)) (lv' := [(3, .int (nI (k + 1))), (2, .int (es_mx M k)), (0, .ref h0), (1, .int (nI i))]) hx hb dX0_mixUpTo_25 hl rfl (by rw [show Int32.ofInt 1 = 1 from by decide]; exact nI_1 _) (Nat.le_of_ble_eq_true rfl) rfl (fun ls hl => ?_)
          refine lv_goto (tgt := 4) hx hb dX0_mixUpTo_28 (by decide) ?_
          have hl : lv_has ls 4 [(3, .int (nI (k + 1))), (2, .int (es_mx M (k + 1))), (0, .ref h0), (1, .int (nI i))] := by rw [show es_mx M (k + 1) = es_mx M k from (by simp [es_mx, h2])]; exact hl
          exact ih (k + 1) ls hl (by omega) (by omega)
        · skip
          refine lv_bipush (v := 31) hx hb dX0_mixUpTo_18 (by decide) ?_
          refine lv_iload_n hx hb dX0_mixUpTo_20 rfl (lv_at hl 1 rfl) ?_
          refine lv_imul hx hb dX0_mixUpTo_21 ?_
          refine lv_iload_n hx hb dX0_mixUpTo_22 rfl (lv_at hl 0 rfl) ?_
          refine lv_iadd hx hb dX0_mixUpTo_23 ?_
          refine lv_istore_n (lv' := [(2, .int ((31 * (es_mx M k)) + (nI k))), (3, .int (nI k)), (0, .ref h0), (1, .int (nI i))]) hx hb dX0_mixUpTo_24 rfl hl (Nat.le_of_ble_eq_true rfl) rfl (fun ls hl => ?_)
          refine lv_iinc (k := 1) (v := nI (k + 1)) (lv' := [(3, .int (nI (k + 1))), (2, .int ((31 * (es_mx M k)) + (nI k))), (0, .ref h0), (1, .int (nI i))]) hx hb dX0_mixUpTo_25 hl rfl (by rw [show Int32.ofInt 1 = 1 from by decide]; exact nI_1 _) (Nat.le_of_ble_eq_true rfl) rfl (fun ls hl => ?_)
          refine lv_goto (tgt := 4) hx hb dX0_mixUpTo_28 (by decide) ?_
          have hl : lv_has ls 4 [(3, .int (nI (k + 1))), (2, .int (es_mx M (k + 1))), (0, .ref h0), (1, .int (nI i))] := by rw [show es_mx M (k + 1) = (31 * (es_mx M k)) + (nI k) from (by simp [es_mx, h2])]; exact hl
          exact ih (k + 1) ls hl (by omega) (by omega)
  refine lv_iconst (v := 1) hx hb dX0_mixUpTo_0 (by decide) ?_
  refine lv_istore_n (lv' := [(2, .int 1), (0, .ref h0), (1, .int (nI i))]) hx hb dX0_mixUpTo_1 rfl hl (Nat.le_of_ble_eq_true rfl) rfl (fun ls hl => ?_)
  refine lv_iconst (v := 0) hx hb dX0_mixUpTo_2 (by decide) ?_
  refine lv_istore_n (lv' := [(3, .int 0), (2, .int 1), (0, .ref h0), (1, .int (nI i))]) hx hb dX0_mixUpTo_3 rfl hl (Nat.le_of_ble_eq_true rfl) rfl (fun ls hl => ?_)
  exact L4 _ 0 ls hl (Nat.zero_le _) (Nat.lt_succ_self _)

set_option maxHeartbeats 4000000 in
set_option maxRecDepth 100000 in
theorem k_X4_classAhead (l : Launch) (D : va_G) (cI cZ cJ : ClassId) (r0 gA wA pA : Nat) (n : Nat) (w : Nat → Int32) (i : Nat) (hn : n ≤ 1000) (hi : i < n) : er_M l yX4_classAhead (Cond.code yX4_classAhead cX4_classAhead 3 (some .int) :: eT) ({ frames := 1, cells := 0, slots := 0, locals := 20 }) D vwCl (eTy cI cZ cJ) [.ref r0, .int (nI i)] [(r0, .inr (2, [.ref gA, .ref wA, .ref pA, .int (nI n)])), (wA, .inl (cI, 1000, .inl w))] (.int (ew_ah w n i)) := by
  refine er_of (cc := cX4_classAhead) (maxL := 3) (ret := (some .int)) (by decide) rfl (Nat.le_of_ble_eq_true rfl) ?_
  intro p e s m args below meth c ls hx hb hr hts hown hlk hml hP hK hl
  have hown : s.vm.findClass RX4 = some m.cls := hown
  have hl : lv_has ls 3 [(0, .ref r0), (1, .int (nI i))] := hl
  have L4 : ∀ (r : Nat) (k : Nat) (ls : Array Slot), lv_has ls 3 [(2, .int (nI k)), (0, .ref r0), (1, .int (nI i))] → k ≤ n → ew_ah w n i = ew_ahF w (n - k) k → n - k < r → W p l e ({ frames := 1, cells := 0, slots := 0, locals := 20 }) s m args below meth c s.heap [] 0 0 (MQ below (er_Q (.int (ew_ah w n i))) args s 0 0 (fun _ => False)) (F0 m 4 ls []) := by
    intro r
    induction r with
    | zero => intro k ls hl hk he hμ; exact absurd hμ (Nat.not_lt_zero _)
    | succ r ih =>
      intro k ls hl hk he hμ
      refine lv_iload_n hx hb dX4_classAhead_4 rfl (lv_at hl 0 rfl) ?_
      refine lv_aload_n hx hb dX4_classAhead_5 rfl (lv_at hl 1 rfl) ?_
      refine va_get (D := D) (ci := 2) (v := .int (nI n)) (C := RX2) (T := TX2) (N := 4) hx hb hts (fun w h => List.mem_cons_of_mem _ (inX2 w h)) hown hK hP 0 rfl rfl 3 (by decide) (eT_h hts tw37) (fun _ h9 => h9) rfl dX4_classAhead_6 ?_
      refine lv_icmp_ge (tgt := 37) hx hb dX4_classAhead_9 (by decide) (fun h1 => ?_) (fun h1 => ?_)
      · skip
        have h1 : n ≤ k := (nI_leI (a := n) (b := k) (by omega) (by omega)).mp h1
        refine lv_iconst (v := (-1)) hx hb dX4_classAhead_37 (by decide) ?_
        exact er_iret hx hb hr hlk (by rw [he, show n - k = 0 by omega]; rfl) dX4_classAhead_38
      · skip
        have h1 : ¬ (n ≤ k) := fun q9 => h1 ((nI_leI (a := n) (b := k) (by omega) (by omega)).mpr q9)
        refine lv_aload_n hx hb dX4_classAhead_12 rfl (lv_at hl 1 rfl) ?_
        refine va_get (D := D) (ci := 2) (v := .ref wA) (C := RX2) (T := TX2) (N := 4) hx hb hts (fun w h => List.mem_cons_of_mem _ (inX2 w h)) hown hK hP 0 rfl rfl 1 (by decide) (eT_h hts tw30) (fun _ h9 => h9) rfl dX4_classAhead_13 ?_
        refine lv_iload_n hx hb dX4_classAhead_16 rfl (lv_at hl 0 rfl) ?_
        refine va_iald hx hb hK hP 1 0 rfl rfl (vp_in_nI (by omega) (by decide)) dX4_classAhead_17 ?_
        refine ef_eqi (y := w k) (by rw [nI_clamp (by omega)]) ?_
        refine er_S (own := RX4) (rest := []) hx hb hml hown hts hl.1 (k_X4_isAttached l D cI cZ cJ (w k)) tw280 tw6 tw278 tw279 yd_X4_isAttached rfl rfl ⟨Nat.le_of_ble_eq_true rfl, Nat.le_of_ble_eq_true rfl⟩ er_nil hK rfl rfl (Nat.le_of_ble_eq_true rfl) ⟨Nat.zero_le _, Nat.zero_le _⟩ dX4_classAhead_18 ?_
        refine ef_if_ne (tgt := 31) hx hb dX4_classAhead_21 (by decide) (fun h2 => ?_) (fun h2 => ?_)
        · skip
          refine lv_iinc (k := 0) (v := nI (k + 1)) (lv' := [(2, .int (nI (k + 1))), (0, .ref r0), (1, .int (nI i))]) hx hb dX4_classAhead_31 hl rfl (by rw [show Int32.ofInt 1 = 1 from by decide]; exact nI_1 _) (Nat.le_of_ble_eq_true rfl) rfl (fun ls hl => ?_)
          refine lv_goto (tgt := 4) hx hb dX4_classAhead_34 (by decide) ?_
          exact ih (k + 1) ls hl (by omega) (by rw [he, show n - k = (n - (k + 1)) + 1 by omega]; simp [ew_ahF, h2]) (by omega)
        · skip
          refine lv_aload_n hx hb dX4_classAhead_24 rfl (lv_at hl 1 rfl) ?_
          refine va_get (D := D) (ci := 2) (v := .ref wA) (C := RX2) (T := TX2) (N := 4) hx hb hts (fun w h => List.mem_cons_of_mem _ (inX2 w h)) hown hK hP 0 rfl rfl 1 (by decide) (eT_h hts tw30) (fun _ h9 => h9) rfl dX4_classAhead_25 ?_
          refine lv_iload_n hx hb dX4_classAhead_28 rfl (lv_at hl 0 rfl) ?_
          refine va_iald hx hb hK hP 1 0 rfl rfl (vp_in_nI (by omega) (by decide)) dX4_classAhead_29 ?_
          refine ef_eqi (y := w k) (by rw [nI_clamp (by omega)]) ?_
          exact er_iret hx hb hr hlk (by rw [he, show n - k = (n - (k + 1)) + 1 by omega]; simp [ew_ahF, h2]) dX4_classAhead_30
  refine lv_iload_n hx hb dX4_classAhead_0 rfl (lv_at hl 1 rfl) ?_
  refine lv_iconst (v := 1) hx hb dX4_classAhead_1 (by decide) ?_
  refine lv_iadd hx hb dX4_classAhead_2 ?_
  refine ef_eqi (y := nI (i + 1)) (nI_add i 1) ?_
  refine lv_istore_n (lv' := [(2, .int (nI (i + 1))), (0, .ref r0), (1, .int (nI i))]) hx hb dX4_classAhead_3 rfl hl (Nat.le_of_ble_eq_true rfl) rfl (fun ls hl => ?_)
  exact L4 _ (i + 1) ls hl (by omega) rfl (Nat.lt_succ_self _)
