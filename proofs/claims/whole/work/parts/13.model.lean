set_option maxHeartbeats 4000000 in
set_option maxRecDepth 100000 in
theorem k_X6_thrown (l : Launch) (D : va_G) (cI cZ cJ : ClassId) (h0 gA wA pA : Nat) (fa : Int32) (n : Nat) (g w : Nat → Int32) (P : Nat → Bool) : er_M l yX6_thrown (Cond.code yX6_thrown cX6_thrown 1 (some .int) :: eT) ({ frames := 0, cells := 0, slots := 0, locals := 0 }) D vwCl (eTy cI cZ cJ) [.ref h0] [(h0, .inr (5, [.int fa, .int (nI n), .ref gA, .ref wA, .ref pA])), (gA, .inl (cI, 1000, .inl g)), (wA, .inl (cI, 1000, .inl w)), (pA, .inl (cZ, 1000, .inl (fun j => ef_b (P j))))] (.int fa) := by
  refine er_of (cc := cX6_thrown) (maxL := 1) (ret := (some .int)) (by decide) rfl (Nat.le_of_ble_eq_true rfl) ?_
  intro p e s m args below meth c ls hx hb hr hts hown hlk hml hP hK hl
  have hown : s.vm.findClass RX6 = some m.cls := hown
  have hl : lv_has ls 1 [(0, .ref h0)] := hl
  refine lv_aload_n hx hb dX6_thrown_0 rfl (lv_at hl 0 rfl) ?_
  refine va_get (D := D) (ci := 5) (v := .int fa) (C := RX6) (T := TX6) (N := 5) hx hb hts (fun w h => List.mem_cons_of_mem _ (inX6 w h)) hown hK hP 0 rfl rfl 0 (by decide) (eT_h hts tw367) (fun _ h9 => h9) rfl dX6_thrown_1 ?_
  exact er_iret hx hb hr hlk rfl dX6_thrown_4

set_option maxHeartbeats 4000000 in
set_option maxRecDepth 100000 in
theorem k_X6_breaks (l : Launch) (D : va_G) (cI cZ cJ : ClassId) (h0 : Nat) (x : Int32) : er_M l yX6_breaks (Cond.code yX6_breaks cX6_breaks 2 (some .boolean) :: eT) ({ frames := 0, cells := 0, slots := 0, locals := 0 }) D vwCl (eTy cI cZ cJ) [.ref h0, .int x] [] (.int (ef_b (ew_le x))) := by
  refine er_of (cc := cX6_breaks) (maxL := 2) (ret := (some .boolean)) (by decide) rfl (Nat.le_of_ble_eq_true rfl) ?_
  intro p e s m args below meth c ls hx hb hr hts hown hlk hml hP hK hl
  have hown : s.vm.findClass RX6 = some m.cls := hown
  have hl : lv_has ls 2 [(0, .ref h0), (1, .int x)] := hl
  refine lv_iload_n hx hb dX6_breaks_0 rfl (lv_at hl 1 rfl) ?_
  refine lv_iconst (v := 1) hx hb dX6_breaks_1 (by decide) ?_
  refine lv_icmp_lt (tgt := 14) hx hb dX6_breaks_2 (by decide) (fun h1 => ?_) (fun h1 => ?_)
  · skip
    refine lv_iconst (v := 0) hx hb dX6_breaks_14 (by decide) ?_
    exact er_zret hx hb hr hlk (by rw [ew_le_f1 (Int32.not_le.mpr h1)]; rfl) dX6_breaks_15
  · skip
    refine lv_iload_n hx hb dX6_breaks_5 rfl (lv_at hl 1 rfl) ?_
    refine lv_iconst (v := 3) hx hb dX6_breaks_6 (by decide) ?_
    refine lv_icmp_gt (tgt := 14) hx hb dX6_breaks_7 (by decide) (fun h2 => ?_) (fun h2 => ?_)
    · skip
      refine lv_iconst (v := 0) hx hb dX6_breaks_14 (by decide) ?_
      exact er_zret hx hb hr hlk (by rw [ew_le_f2 (Int32.not_le.mpr h2)]; rfl) dX6_breaks_15
    · skip
      refine lv_iconst (v := 1) hx hb dX6_breaks_10 (by decide) ?_
      refine lv_goto (tgt := 15) hx hb dX6_breaks_11 (by decide) ?_
      exact er_zret hx hb hr hlk (by rw [ew_le_t (Int32.not_lt.mp h1) (Int32.not_lt.mp h2)]; rfl) dX6_breaks_15

set_option maxHeartbeats 4000000 in
set_option maxRecDepth 100000 in
theorem k_X6_counts (l : Launch) (D : va_G) (cI cZ cJ : ClassId) (h0 gA wA pA : Nat) (fa : Int32) (n : Nat) (g w : Nat → Int32) (P : Nat → Bool) (i : Nat) (hi : i < 1000) : er_M l yX6_counts (Cond.code yX6_counts cX6_counts 3 (some .int) :: eT) ({ frames := 1, cells := 0, slots := 0, locals := 21 }) D vwCl (eTy cI cZ cJ) [.ref h0, .int (nI i)] [(h0, .inr (5, [.int fa, .int (nI n), .ref gA, .ref wA, .ref pA])), (gA, .inl (cI, 1000, .inl g)), (wA, .inl (cI, 1000, .inl w)), (pA, .inl (cZ, 1000, .inl (fun j => ef_b (P j))))] (.int (nI (em_ct w i))) := by
  refine er_of (cc := cX6_counts) (maxL := 3) (ret := (some .int)) (by decide) rfl (Nat.le_of_ble_eq_true rfl) ?_
  intro p e s m args below meth c ls hx hb hr hts hown hlk hml hP hK hl
  have hown : s.vm.findClass RX6 = some m.cls := hown
  have hl : lv_has ls 3 [(0, .ref h0), (1, .int (nI i))] := hl
  have L2 : ∀ (r : Nat) (k : Nat) (ls : Array Slot), lv_has ls 3 [(2, .int (nI k)), (0, .ref h0), (1, .int (nI i))] → k ≤ i → em_ct w i = em_ct w k → k < r → W p l e ({ frames := 1, cells := 0, slots := 0, locals := 21 }) s m args below meth c s.heap [] 0 0 (MQ below (er_Q (.int (nI (em_ct w i)))) args s 0 0 (fun _ => False)) (F0 m 2 ls []) := by
    intro r
    induction r with
    | zero => intro k ls hl hk he hμ; exact absurd hμ (Nat.not_lt_zero _)
    | succ r ih =>
      intro k ls hl hk he hμ
      rcases k with _ | k
      · skip
        refine lv_iload_n hx hb dX6_counts_2 rfl (lv_at hl 0 rfl) ?_
        refine lv_if_le (tgt := 40) hx hb dX6_counts_3 (by decide) (fun h1 => ?_) (fun h1 => ?_)
        · skip
          refine lv_iload_n hx hb dX6_counts_40 rfl (lv_at hl 0 rfl) ?_
          exact er_iret hx hb hr hlk (by rw [he]; rfl) dX6_counts_41
        · skip
          exact absurd (by decide) h1
      · skip
        refine lv_iload_n hx hb dX6_counts_2 rfl (lv_at hl 0 rfl) ?_
        refine lv_if_le (tgt := 40) hx hb dX6_counts_3 (by decide) (fun h2 => ?_) (fun h2 => ?_)
        · skip
          exact absurd h2 (nI_nle (Nat.succ_pos _) (by omega))
        · skip
          refine lv_aload_n hx hb dX6_counts_6 rfl (lv_at hl 1 rfl) ?_
          refine lv_aload_n hx hb dX6_counts_7 rfl (lv_at hl 1 rfl) ?_
          refine va_get (D := D) (ci := 5) (v := .ref wA) (C := RX6) (T := TX6) (N := 5) hx hb hts (fun w h => List.mem_cons_of_mem _ (inX6 w h)) hown hK hP 0 rfl rfl 3 (by decide) (eT_h hts tw370) (fun _ h9 => h9) rfl dX6_counts_8 ?_
          refine lv_iload_n hx hb dX6_counts_11 rfl (lv_at hl 0 rfl) ?_
          refine va_iald hx hb hK hP 2 0 rfl rfl (vp_in_nI (by omega) (by decide)) dX6_counts_12 ?_
          refine ef_eqi (y := w (k + 1)) (by rw [nI_clamp (by omega)]) ?_
          refine er_V (own := RX6) (C := RX6) (b := h0) (rest := []) hx hb hml hown hts hl.1 (k_X6_passed l D cI cZ cJ h0 (w (k + 1))) tw430 tw7 tw427 tw429 ts_X6_passed yd_X6_passed rfl rfl ⟨Nat.le_of_ble_eq_true rfl, Nat.le_of_ble_eq_true rfl⟩ er_nil hK hP (q0 := 0) rfl rfl rfl rfl (Nat.le_of_ble_eq_true rfl) ⟨Nat.zero_le _, Nat.zero_le _⟩ dX6_counts_13 ?_
          refine ef_if_eq (tgt := 40) hx hb dX6_counts_16 (by decide) (fun h3 => ?_) (fun h3 => ?_)
          · skip
            refine lv_iload_n hx hb dX6_counts_40 rfl (lv_at hl 0 rfl) ?_
            exact er_iret hx hb hr hlk (by rw [he]; simp [em_ct, h3]) dX6_counts_41
          · skip
            refine lv_aload_n hx hb dX6_counts_19 rfl (lv_at hl 1 rfl) ?_
            refine lv_aload_n hx hb dX6_counts_20 rfl (lv_at hl 1 rfl) ?_
            refine va_get (D := D) (ci := 5) (v := .ref wA) (C := RX6) (T := TX6) (N := 5) hx hb hts (fun w h => List.mem_cons_of_mem _ (inX6 w h)) hown hK hP 0 rfl rfl 3 (by decide) (eT_h hts tw370) (fun _ h9 => h9) rfl dX6_counts_21 ?_
            refine lv_iload_n hx hb dX6_counts_24 rfl (lv_at hl 0 rfl) ?_
            refine lv_iconst (v := 1) hx hb dX6_counts_25 (by decide) ?_
            refine lv_isub hx hb dX6_counts_26 ?_
            refine ef_eqi (y := nI k) (nI_pred k) ?_
            refine va_iald hx hb hK hP 2 0 rfl rfl (vp_in_nI (by omega) (by decide)) dX6_counts_27 ?_
            refine ef_eqi (y := w k) (by rw [nI_clamp (by omega)]) ?_
            refine er_V (own := RX6) (C := RX6) (b := h0) (rest := []) hx hb hml hown hts hl.1 (k_X6_breaks l D cI cZ cJ h0 (w k)) tw426 tw7 tw423 tw425 ts_X6_breaks yd_X6_breaks rfl rfl ⟨Nat.le_of_ble_eq_true rfl, Nat.le_of_ble_eq_true rfl⟩ er_nil hK hP (q0 := 0) rfl rfl rfl rfl (Nat.le_of_ble_eq_true rfl) ⟨Nat.zero_le _, Nat.zero_le _⟩ dX6_counts_28 ?_
            refine ef_if_ne (tgt := 40) hx hb dX6_counts_31 (by decide) (fun h4 => ?_) (fun h4 => ?_)
            · skip
              refine lv_iload_n hx hb dX6_counts_40 rfl (lv_at hl 0 rfl) ?_
              exact er_iret hx hb hr hlk (by rw [he]; simp [em_ct, h3, h4]) dX6_counts_41
            · skip
              refine lv_iinc (k := 0) (v := nI k) (lv' := [(2, .int (nI k)), (0, .ref h0), (1, .int (nI i))]) hx hb dX6_counts_34 hl rfl (by rw [show Int32.ofInt (-1) = -1 from by decide]; exact pk_m1 _) (Nat.le_of_ble_eq_true rfl) rfl (fun ls hl => ?_)
              refine lv_goto (tgt := 2) hx hb dX6_counts_37 (by decide) ?_
              exact ih k ls hl (by omega) (by rw [he]; simp [em_ct, h3, h4]) (by omega)
  refine lv_iload_n hx hb dX6_counts_0 rfl (lv_at hl 1 rfl) ?_
  refine lv_istore_n (lv' := [(2, .int (nI i)), (0, .ref h0), (1, .int (nI i))]) hx hb dX6_counts_1 rfl hl (Nat.le_of_ble_eq_true rfl) rfl (fun ls hl => ?_)
  exact L2 _ i ls hl (Nat.le_refl _) rfl (Nat.lt_succ_self _)

def em_bi (w : Nat → Int32) (i : Nat) : Int32 := if i = 0 then -1 else nI (em_ct w (i - 1))

set_option maxHeartbeats 4000000 in
set_option maxRecDepth 100000 in
theorem k_X6_before (l : Launch) (D : va_G) (cI cZ cJ : ClassId) (h0 gA wA pA : Nat) (fa : Int32) (n : Nat) (g w : Nat → Int32) (P : Nat → Bool) (i : Nat) (hi : i ≤ 1000) : er_M l yX6_before (Cond.code yX6_before cX6_before 2 (some .int) :: eT) ({ frames := 2, cells := 0, slots := 0, locals := 43 }) D vwCl (eTy cI cZ cJ) [.ref h0, .int (nI i)] [(h0, .inr (5, [.int fa, .int (nI n), .ref gA, .ref wA, .ref pA])), (gA, .inl (cI, 1000, .inl g)), (wA, .inl (cI, 1000, .inl w)), (pA, .inl (cZ, 1000, .inl (fun j => ef_b (P j))))] (.int (em_bi w i)) := by
  refine er_of (cc := cX6_before) (maxL := 2) (ret := (some .int)) (by decide) rfl (Nat.le_of_ble_eq_true rfl) ?_
  intro p e s m args below meth c ls hx hb hr hts hown hlk hml hP hK hl
  have hown : s.vm.findClass RX6 = some m.cls := hown
  have hl : lv_has ls 2 [(0, .ref h0), (1, .int (nI i))] := hl
  refine lv_iload_n hx hb dX6_before_0 rfl (lv_at hl 1 rfl) ?_
  refine lv_if_gt (tgt := 8) hx hb dX6_before_1 (by decide) (fun h1 => ?_) (fun h1 => ?_)
  · skip
    have h1 : 0 < i := (nI_ltI (a := 0) (b := i) (by omega) (by omega)).mp h1
    refine lv_aload_n hx hb dX6_before_8 rfl (lv_at hl 0 rfl) ?_
    refine lv_iload_n hx hb dX6_before_9 rfl (lv_at hl 1 rfl) ?_
    refine lv_iconst (v := 1) hx hb dX6_before_10 (by decide) ?_
    refine lv_isub hx hb dX6_before_11 ?_
    refine ef_eqi (y := nI (i - 1)) (pk_sub (a := i) (b := 1) (by omega)) ?_
    refine er_V (own := RX6) (C := RX6) (b := h0) (rest := []) hx hb hml hown hts hl.1 (k_X6_counts l D cI cZ cJ h0 gA wA pA fa n g w P (i - 1) (by omega)) tw438 tw7 tw435 tw437 ts_X6_counts yd_X6_counts rfl rfl ⟨Nat.le_of_ble_eq_true rfl, Nat.le_of_ble_eq_true rfl⟩ hP hK hP (q0 := 0) rfl rfl rfl rfl (Nat.le_of_ble_eq_true rfl) ⟨Nat.zero_le _, Nat.zero_le _⟩ dX6_before_12 ?_
    exact er_iret hx hb hr hlk (by simp [em_bi, show ¬ i = 0 by omega]) dX6_before_15
  · skip
    have h1 : ¬ (0 < i) := fun q9 => h1 ((nI_ltI (a := 0) (b := i) (by omega) (by omega)).mpr q9)
    refine lv_iconst (v := (-1)) hx hb dX6_before_4 (by decide) ?_
    refine lv_goto (tgt := 15) hx hb dX6_before_5 (by decide) ?_
    exact er_iret hx hb hr hlk (by simp [em_bi, show i = 0 by omega]) dX6_before_15

set_option maxHeartbeats 4000000 in
set_option maxRecDepth 100000 in
theorem k_X6_after (l : Launch) (D : va_G) (cI cZ cJ : ClassId) (h0 gA wA pA : Nat) (fa : Int32) (n : Nat) (g w : Nat → Int32) (P : Nat → Bool) (i : Nat) (hn : n ≤ 1000) (hi : i < n) : er_M l yX6_after (Cond.code yX6_after cX6_after 3 (some .int) :: eT) ({ frames := 1, cells := 0, slots := 0, locals := 21 }) D vwCl (eTy cI cZ cJ) [.ref h0, .int (nI i)] [(h0, .inr (5, [.int fa, .int (nI n), .ref gA, .ref wA, .ref pA])), (gA, .inl (cI, 1000, .inl g)), (wA, .inl (cI, 1000, .inl w)), (pA, .inl (cZ, 1000, .inl (fun j => ef_b (P j))))] (.int (nI (em_af w (n - (i + 1)) (i + 1)))) := by
  refine er_of (cc := cX6_after) (maxL := 3) (ret := (some .int)) (by decide) rfl (Nat.le_of_ble_eq_true rfl) ?_
  intro p e s m args below meth c ls hx hb hr hts hown hlk hml hP hK hl
  have hown : s.vm.findClass RX6 = some m.cls := hown
  have hl : lv_has ls 3 [(0, .ref h0), (1, .int (nI i))] := hl
  have L4 : ∀ (r : Nat) (k : Nat) (ls : Array Slot), lv_has ls 3 [(2, .int (nI k)), (0, .ref h0), (1, .int (nI i))] → k ≤ n → em_af w (n - (i + 1)) (i + 1) = em_af w (n - k) k → n - k < r → W p l e ({ frames := 1, cells := 0, slots := 0, locals := 21 }) s m args below meth c s.heap [] 0 0 (MQ below (er_Q (.int (nI (em_af w (n - (i + 1)) (i + 1))))) args s 0 0 (fun _ => False)) (F0 m 4 ls []) := by
    intro r
    induction r with
    | zero => intro k ls hl hk he hμ; exact absurd hμ (Nat.not_lt_zero _)
    | succ r ih =>
      intro k ls hl hk he hμ
      refine lv_iload_n hx hb dX6_after_4 rfl (lv_at hl 0 rfl) ?_
      refine lv_aload_n hx hb dX6_after_5 rfl (lv_at hl 1 rfl) ?_
      refine va_get (D := D) (ci := 5) (v := .int (nI n)) (C := RX6) (T := TX6) (N := 5) hx hb hts (fun w h => List.mem_cons_of_mem _ (inX6 w h)) hown hK hP 0 rfl rfl 1 (by decide) (eT_h hts tw368) (fun _ h9 => h9) rfl dX6_after_6 ?_
      refine lv_icmp_ge (tgt := 31) hx hb dX6_after_9 (by decide) (fun h1 => ?_) (fun h1 => ?_)
      · skip
        have h1 : n ≤ k := (nI_leI (a := n) (b := k) (by omega) (by omega)).mp h1
        refine lv_iload_n hx hb dX6_after_31 rfl (lv_at hl 0 rfl) ?_
        exact er_iret hx hb hr hlk (by rw [he, show n - k = 0 by omega]; rfl) dX6_after_32
      · skip
        have h1 : ¬ (n ≤ k) := fun q9 => h1 ((nI_leI (a := n) (b := k) (by omega) (by omega)).mpr q9)
        refine lv_aload_n hx hb dX6_after_12 rfl (lv_at hl 1 rfl) ?_
        refine lv_aload_n hx hb dX6_after_13 rfl (lv_at hl 1 rfl) ?_
        refine va_get (D := D) (ci := 5) (v := .ref wA) (C := RX6) (T := TX6) (N := 5) hx hb hts (fun w h => List.mem_cons_of_mem _ (inX6 w h)) hown hK hP 0 rfl rfl 3 (by decide) (eT_h hts tw370) (fun _ h9 => h9) rfl dX6_after_14 ?_
        refine lv_iload_n hx hb dX6_after_17 rfl (lv_at hl 0 rfl) ?_
        refine va_iald hx hb hK hP 2 0 rfl rfl (vp_in_nI (by omega) (by decide)) dX6_after_18 ?_
        refine ef_eqi (y := w k) (by rw [nI_clamp (by omega)]) ?_
        refine er_V (own := RX6) (C := RX6) (b := h0) (rest := []) hx hb hml hown hts hl.1 (k_X6_passed l D cI cZ cJ h0 (w k)) tw430 tw7 tw427 tw429 ts_X6_passed yd_X6_passed rfl rfl ⟨Nat.le_of_ble_eq_true rfl, Nat.le_of_ble_eq_true rfl⟩ er_nil hK hP (q0 := 0) rfl rfl rfl rfl (Nat.le_of_ble_eq_true rfl) ⟨Nat.zero_le _, Nat.zero_le _⟩ dX6_after_19 ?_
        refine ef_if_eq (tgt := 31) hx hb dX6_after_22 (by decide) (fun h2 => ?_) (fun h2 => ?_)
        · skip
          refine lv_iload_n hx hb dX6_after_31 rfl (lv_at hl 0 rfl) ?_
          exact er_iret hx hb hr hlk (by rw [he, show n - k = (n - (k + 1)) + 1 by omega]; simp [em_af, h2]) dX6_after_32
        · skip
          refine lv_iinc (k := 0) (v := nI (k + 1)) (lv' := [(2, .int (nI (k + 1))), (0, .ref h0), (1, .int (nI i))]) hx hb dX6_after_25 hl rfl (by rw [show Int32.ofInt 1 = 1 from by decide]; exact nI_1 _) (Nat.le_of_ble_eq_true rfl) rfl (fun ls hl => ?_)
          refine lv_goto (tgt := 4) hx hb dX6_after_28 (by decide) ?_
          exact ih (k + 1) ls hl (by omega) (by rw [he, show n - k = (n - (k + 1)) + 1 by omega]; simp [em_af, h2]) (by omega)
  refine lv_iload_n hx hb dX6_after_0 rfl (lv_at hl 1 rfl) ?_
  refine lv_iconst (v := 1) hx hb dX6_after_1 (by decide) ?_
  refine lv_iadd hx hb dX6_after_2 ?_
  refine ef_eqi (y := nI (i + 1)) (nI_add i 1) ?_
  refine lv_istore_n (lv' := [(2, .int (nI (i + 1))), (0, .ref h0), (1, .int (nI i))]) hx hb dX6_after_3 rfl hl (Nat.le_of_ble_eq_true rfl) rfl (fun ls hl => ?_)
  exact L4 _ (i + 1) ls hl (by omega) rfl (Nat.lt_succ_self _)

def em_wk (w : Nat → Int32) (n : Nat) (x : Int32) : Int32 := if x < 0 then -1 else if x < nI n then w x.toNatClampNeg else -1
theorem em_in {x : Int32} {n : Nat} (hn : n ≤ 1000) (h0 : ¬ x < 0) (h : x < nI n) : vp_in x 1000 := by
  obtain ⟨j, hj, rfl⟩ := nI_of h0
  have h2 := (nI_ltI hj (by omega)).mp h
  exact vp_in_nI (by omega) (by decide)
theorem em_wk_n {w : Nat → Int32} {n j : Nat} (hj : j < 2 ^ 31) (hn : n ≤ 1000) : em_wk w n (nI j) = if j < n then w j else -1 := by
  have h0 := nI_pos hj
  by_cases h : j < n
  · simp [em_wk, h0, (nI_ltI hj (by omega)).mpr h, h, nI_clamp hj]
  · have h2 : ¬ nI j < nI n := fun q => h ((nI_ltI hj (by omega)).mp q)
    simp [em_wk, h0, h2, h]
theorem em_wk_m {w : Nat → Int32} {n : Nat} : em_wk w n (-1) = -1 := by
  have h : (-1 : Int32) < 0 := by decide
  simp [em_wk, h]
theorem em_wk_b {w : Nat → Int32} {n j : Nat} (hj : j ≤ n) (hn : n ≤ 1000) : em_wk w n (em_bi w j) = em_pk w j := by
  unfold em_bi em_pk
  by_cases h : j = 0
  · simp [h, em_wk_m]
  · have h1 := em_ct_le w (j - 1)
    simp only [h, if_false]
    rw [em_wk_n (by omega) hn, if_pos (by omega)]

set_option maxHeartbeats 4000000 in
set_option maxRecDepth 100000 in
theorem k_X6_wordKind (l : Launch) (D : va_G) (cI cZ cJ : ClassId) (h0 gA wA pA : Nat) (fa : Int32) (n : Nat) (g w : Nat → Int32) (P : Nat → Bool) (x : Int32) (hn : n ≤ 1000) : er_M l yX6_wordKind (Cond.code yX6_wordKind cX6_wordKind 2 (some .int) :: eT) ({ frames := 0, cells := 0, slots := 0, locals := 0 }) D vwCl (eTy cI cZ cJ) [.ref h0, .int x] [(h0, .inr (5, [.int fa, .int (nI n), .ref gA, .ref wA, .ref pA])), (gA, .inl (cI, 1000, .inl g)), (wA, .inl (cI, 1000, .inl w)), (pA, .inl (cZ, 1000, .inl (fun j => ef_b (P j))))] (.int (em_wk w n x)) := by
  refine er_of (cc := cX6_wordKind) (maxL := 2) (ret := (some .int)) (by decide) rfl (Nat.le_of_ble_eq_true rfl) ?_
  intro p e s m args below meth c ls hx hb hr hts hown hlk hml hP hK hl
  have hown : s.vm.findClass RX6 = some m.cls := hown
  have hl : lv_has ls 2 [(0, .ref h0), (1, .int x)] := hl
  refine lv_iload_n hx hb dX6_wordKind_0 rfl (lv_at hl 1 rfl) ?_
  refine lv_if_lt (tgt := 12) hx hb dX6_wordKind_1 (by decide) (fun h1 => ?_) (fun h1 => ?_)
  · skip
    refine lv_iconst (v := (-1)) hx hb dX6_wordKind_12 (by decide) ?_
    refine lv_goto (tgt := 22) hx hb dX6_wordKind_13 (by decide) ?_
    exact er_iret hx hb hr hlk (by simp [em_wk, h1]) dX6_wordKind_22
  · skip
    refine lv_iload_n hx hb dX6_wordKind_4 rfl (lv_at hl 1 rfl) ?_
    refine lv_aload_n hx hb dX6_wordKind_5 rfl (lv_at hl 0 rfl) ?_
    refine va_get (D := D) (ci := 5) (v := .int (nI n)) (C := RX6) (T := TX6) (N := 5) hx hb hts (fun w h => List.mem_cons_of_mem _ (inX6 w h)) hown hK hP 0 rfl rfl 1 (by decide) (eT_h hts tw368) (fun _ h9 => h9) rfl dX6_wordKind_6 ?_
    refine lv_icmp_lt (tgt := 16) hx hb dX6_wordKind_9 (by decide) (fun h2 => ?_) (fun h2 => ?_)
    · skip
      refine lv_aload_n hx hb dX6_wordKind_16 rfl (lv_at hl 0 rfl) ?_
      refine va_get (D := D) (ci := 5) (v := .ref wA) (C := RX6) (T := TX6) (N := 5) hx hb hts (fun w h => List.mem_cons_of_mem _ (inX6 w h)) hown hK hP 0 rfl rfl 3 (by decide) (eT_h hts tw370) (fun _ h9 => h9) rfl dX6_wordKind_17 ?_
      refine lv_iload_n hx hb dX6_wordKind_20 rfl (lv_at hl 1 rfl) ?_
      refine va_iald hx hb hK hP 2 0 rfl rfl (em_in hn h1 h2) dX6_wordKind_21 ?_
      exact er_iret hx hb hr hlk (by simp [em_wk, h1, h2]) dX6_wordKind_22
    · skip
      refine lv_iconst (v := (-1)) hx hb dX6_wordKind_12 (by decide) ?_
      refine lv_goto (tgt := 22) hx hb dX6_wordKind_13 (by decide) ?_
      exact er_iret hx hb hr hlk (by simp [em_wk, h1, h2]) dX6_wordKind_22

def em_bad (kd x : Int32) (n : Nat) : Bool := decide (kd < 0) || decide (1 < kd) || decide (x < 0) || decide (nI n < x)

set_option maxHeartbeats 4000000 in
set_option maxRecDepth 100000 in
theorem k_X6_bad (l : Launch) (D : va_G) (cI cZ cJ : ClassId) (h0 gA wA pA : Nat) (fa : Int32) (n : Nat) (g w : Nat → Int32) (P : Nat → Bool) (kd x : Int32) : er_M l yX6_bad (Cond.code yX6_bad cX6_bad 3 (some .boolean) :: eT) ({ frames := 0, cells := 0, slots := 0, locals := 0 }) D vwCl (eTy cI cZ cJ) [.ref h0, .int kd, .int x] [(h0, .inr (5, [.int fa, .int (nI n), .ref gA, .ref wA, .ref pA])), (gA, .inl (cI, 1000, .inl g)), (wA, .inl (cI, 1000, .inl w)), (pA, .inl (cZ, 1000, .inl (fun j => ef_b (P j))))] (.int (ef_b (em_bad kd x n))) := by
  refine er_of (cc := cX6_bad) (maxL := 3) (ret := (some .boolean)) (by decide) rfl (Nat.le_of_ble_eq_true rfl) ?_
  intro p e s m args below meth c ls hx hb hr hts hown hlk hml hP hK hl
  have hown : s.vm.findClass RX6 = some m.cls := hown
  have hl : lv_has ls 3 [(0, .ref h0), (1, .int kd), (2, .int x)] := hl
  refine lv_iload_n hx hb dX6_bad_0 rfl (lv_at hl 1 rfl) ?_
  refine lv_if_lt (tgt := 21) hx hb dX6_bad_1 (by decide) (fun h1 => ?_) (fun h1 => ?_)
  · skip
    refine lv_iconst (v := 1) hx hb dX6_bad_21 (by decide) ?_
    refine lv_goto (tgt := 26) hx hb dX6_bad_22 (by decide) ?_
    exact er_zret hx hb hr hlk (by simp [ef_b, em_bad, h1]) dX6_bad_26
  · skip
    refine lv_iload_n hx hb dX6_bad_4 rfl (lv_at hl 1 rfl) ?_
    refine lv_iconst (v := 1) hx hb dX6_bad_5 (by decide) ?_
    refine lv_icmp_gt (tgt := 21) hx hb dX6_bad_6 (by decide) (fun h2 => ?_) (fun h2 => ?_)
    · skip
      refine lv_iconst (v := 1) hx hb dX6_bad_21 (by decide) ?_
      refine lv_goto (tgt := 26) hx hb dX6_bad_22 (by decide) ?_
      exact er_zret hx hb hr hlk (by simp [ef_b, em_bad, h1, h2]) dX6_bad_26
    · skip
      refine lv_iload_n hx hb dX6_bad_9 rfl (lv_at hl 2 rfl) ?_
      refine lv_if_lt (tgt := 21) hx hb dX6_bad_10 (by decide) (fun h3 => ?_) (fun h3 => ?_)
      · skip
        refine lv_iconst (v := 1) hx hb dX6_bad_21 (by decide) ?_
        refine lv_goto (tgt := 26) hx hb dX6_bad_22 (by decide) ?_
        exact er_zret hx hb hr hlk (by simp [ef_b, em_bad, h1, h2, h3]) dX6_bad_26
      · skip
        refine lv_iload_n hx hb dX6_bad_13 rfl (lv_at hl 2 rfl) ?_
        refine lv_aload_n hx hb dX6_bad_14 rfl (lv_at hl 0 rfl) ?_
        refine va_get (D := D) (ci := 5) (v := .int (nI n)) (C := RX6) (T := TX6) (N := 5) hx hb hts (fun w h => List.mem_cons_of_mem _ (inX6 w h)) hown hK hP 0 rfl rfl 1 (by decide) (eT_h hts tw368) (fun _ h9 => h9) rfl dX6_bad_15 ?_
        refine lv_icmp_le (tgt := 25) hx hb dX6_bad_18 (by decide) (fun h4 => ?_) (fun h4 => ?_)
        · skip
          have h4 := Int32.not_lt.mpr h4
          refine lv_iconst (v := 0) hx hb dX6_bad_25 (by decide) ?_
          exact er_zret hx hb hr hlk (by simp [ef_b, em_bad, h1, h2, h3, h4]) dX6_bad_26
        · skip
          have h4 := Int32.not_le.mp h4
          refine lv_iconst (v := 1) hx hb dX6_bad_21 (by decide) ?_
          refine lv_goto (tgt := 26) hx hb dX6_bad_22 (by decide) ?_
          exact er_zret hx hb hr hlk (by simp [ef_b, em_bad, h1, h2, h3, h4]) dX6_bad_26
