set_option maxHeartbeats 4000000 in
set_option maxRecDepth 100000 in
theorem c_X4_pass_true (l : Launch) (D : va_G) (cI cZ cJ : ClassId) (ad : Nat → Nat) (hJ : eJ ad) (n : Nat) (g : Nat → Int32) (w : Nat → Int32) (P : Nat → Bool) (gm : Nat → Bool) (wm : Nat → Bool) (gs : Bool) (wz : Bool) (gb : Int32) (go : Bool) (gp : Bool) (gj : Bool) (wb : Int32) (wl : Int32) (wk : Int32) (wo : Bool) (fa : Int32) (mn : Nat) (mg : Nat → Int32) (mw : Nat → Int32) (mP : Nat → Bool) (o : Nat → Int64) (i : Nat) (hi : i < 1000) (hc : (!ew_at (w i) || wb == -1 || ew_le wb) = true) : ec_M l yX4_pass (Cond.code yX4_pass cX4_pass 5 none :: eT) ({ frames := 1, cells := 0, slots := 0, locals := 20 }) D (eTy cI cZ cJ) [.ref (ad 10), .ref (ad 1), .int (nI i)] (cw ad cI cZ cJ n g w P gm wm gs wz gb go gp gj wb wl wk wo fa mn mg mw mP o) (ed none (cw ad cI cZ cJ n g w P gm wm gs wz gb go gp gj (w i) (w i) wl (w i == 6 && !wo) fa mn mg mw mP o)) (eA ad) := by
  refine ec_of (cc := cX4_pass) (maxL := 5) (ret := none) (by decide) rfl (Nat.le_of_ble_eq_true rfl) ?_
  intro p e s m args below meth c ls hx hb hr hts hown hlk hml hP hK hN hl
  have hown : s.vm.findClass RX4 = some m.cls := hown
  have hl : lv_has ls 5 [(0, .ref (ad 10)), (1, .ref (ad 1)), (2, .int (nI i))] := hl
  have L79 : ∀ (ls : Array Slot) (H : Heap) (locs : List Loc), lv_has ls 5 [(3, .int (w i)), (0, .ref (ad 10)), (1, .ref (ad 1)), (2, .int (nI i))] → va_P D vwCl (cw ad cI cZ cJ n g w P gm wm gs wz gb go gp gj wb (w i) wl (w i == 6 && !wo) fa mn mg mw mP o) H → va_S (eA ad) s.heap H locs → W p l e ({ frames := 1, cells := 0, slots := 0, locals := 20 }) s m args below meth c H locs 0 0 (MQ below (ec_Q D (ed none (cw ad cI cZ cJ n g w P gm wm gs wz gb go gp gj (w i) (w i) wl (w i == 6 && !wo) fa mn mg mw mP o)) (eA ad)) args s 0 0 (eA ad)) (F0 m 79 ls []) := by
    intro ls H locs hl hP hS
    have hD : va_D (eA ad) (cw ad cI cZ cJ n g w P gm wm gs wz gb go gp gj wb (w i) wl (w i == 6 && !wo) fa mn mg mw mP o) := eD_of hJ rfl
    refine lv_aload_n hx hb dX4_pass_79 rfl (lv_at hl 1 rfl) ?_
    refine lv_iload_n hx hb dX4_pass_80 rfl (lv_at hl 0 rfl) ?_
    refine va_put (D := D) (ci := 3) (v := .int (w i)) (ty := .int) (C := RX4) (T := TX4) (N := 4) hx hb hts (fun w h => List.mem_cons_of_mem _ (inX4 w h)) tyX4 tyX4_ok nmX4 hown hK hP hD hS 10 rfl rfl 0 (by decide) (eT_h hts tw95) (fun _ h9 => h9) rfl (by decide +kernel) rfl rfl (Nat.le_of_ble_eq_true rfl) dX4_pass_81 (fun H locs hP hD hS => ?_)
    have hP : va_P D vwCl (cw ad cI cZ cJ n g w P gm wm gs wz gb go gp gj (w i) (w i) wl (w i == 6 && !wo) fa mn mg mw mP o) H := hP
    have hD : va_D (eA ad) (cw ad cI cZ cJ n g w P gm wm gs wz gb go gp gj (w i) (w i) wl (w i == 6 && !wo) fa mn mg mw mP o) := hD
    exact ec_vret hx hb hr hlk hP hS ⟨rfl, rfl⟩ dX4_pass_84
  have L39 : ∀ (ls : Array Slot) (H : Heap) (locs : List Loc), lv_has ls 5 [(4, .int (ef_b true)), (3, .int (w i)), (0, .ref (ad 10)), (1, .ref (ad 1)), (2, .int (nI i))] → va_P D vwCl (cw ad cI cZ cJ n g w P gm wm gs wz gb go gp gj wb wl wk wo fa mn mg mw mP o) H → va_S (eA ad) s.heap H locs → W p l e ({ frames := 1, cells := 0, slots := 0, locals := 20 }) s m args below meth c H locs 0 0 (MQ below (ec_Q D (ed none (cw ad cI cZ cJ n g w P gm wm gs wz gb go gp gj (w i) (w i) wl (w i == 6 && !wo) fa mn mg mw mP o)) (eA ad)) args s 0 0 (eA ad)) (F0 m 39 ls []) := by
    intro ls H locs hl hP hS
    have hD : va_D (eA ad) (cw ad cI cZ cJ n g w P gm wm gs wz gb go gp gj wb wl wk wo fa mn mg mw mP o) := eD_of hJ rfl
    refine lv_iload hx hb dX4_pass_39 (lv_at hl 0 rfl) ?_
    refine ef_if_eq (tgt := 79) hx hb dX4_pass_41 (by decide) (fun h1 => ?_) (fun h1 => ?_)
    · skip
      exact Bool.noConfusion h1
    · skip
      refine lv_aload_n hx hb dX4_pass_44 rfl (lv_at hl 2 rfl) ?_
      refine lv_aload_n hx hb dX4_pass_45 rfl (lv_at hl 2 rfl) ?_
      refine va_get (D := D) (ci := 3) (v := .int wl) (C := RX4) (T := TX4) (N := 4) hx hb hts (fun w h => List.mem_cons_of_mem _ (inX4 w h)) hown hK hP 10 rfl rfl 1 (by decide) (eT_h hts tw96) (fun _ h9 => h9) rfl dX4_pass_46 ?_
      refine va_put (D := D) (ci := 3) (v := .int wl) (ty := .int) (C := RX4) (T := TX4) (N := 4) hx hb hts (fun w h => List.mem_cons_of_mem _ (inX4 w h)) tyX4 tyX4_ok nmX4 hown hK hP hD hS 10 rfl rfl 2 (by decide) (eT_h hts tw97) (fun _ h9 => h9) rfl (by decide +kernel) rfl rfl (Nat.le_of_ble_eq_true rfl) dX4_pass_49 (fun H locs hP hD hS => ?_)
      have hP : va_P D vwCl (cw ad cI cZ cJ n g w P gm wm gs wz gb go gp gj wb wl wl wo fa mn mg mw mP o) H := hP
      have hD : va_D (eA ad) (cw ad cI cZ cJ n g w P gm wm gs wz gb go gp gj wb wl wl wo fa mn mg mw mP o) := hD
      refine lv_aload_n hx hb dX4_pass_52 rfl (lv_at hl 2 rfl) ?_
      refine lv_iload_n hx hb dX4_pass_53 rfl (lv_at hl 1 rfl) ?_
      refine va_put (D := D) (ci := 3) (v := .int (w i)) (ty := .int) (C := RX4) (T := TX4) (N := 4) hx hb hts (fun w h => List.mem_cons_of_mem _ (inX4 w h)) tyX4 tyX4_ok nmX4 hown hK hP hD hS 10 rfl rfl 1 (by decide) (eT_h hts tw96) (fun _ h9 => h9) rfl (by decide +kernel) rfl rfl (Nat.le_of_ble_eq_true rfl) dX4_pass_54 (fun H locs hP hD hS => ?_)
      have hP : va_P D vwCl (cw ad cI cZ cJ n g w P gm wm gs wz gb go gp gj wb (w i) wl wo fa mn mg mw mP o) H := hP
      have hD : va_D (eA ad) (cw ad cI cZ cJ n g w P gm wm gs wz gb go gp gj wb (w i) wl wo fa mn mg mw mP o) := hD
      refine lv_aload_n hx hb dX4_pass_57 rfl (lv_at hl 2 rfl) ?_
      refine lv_iload_n hx hb dX4_pass_58 rfl (lv_at hl 1 rfl) ?_
      refine lv_bipush (v := 6) hx hb dX4_pass_59 (by decide) ?_
      refine lv_icmp_ne (tgt := 75) hx hb dX4_pass_61 (by decide) (fun h2 => ?_) (fun h2 => ?_)
      · skip
        refine lv_iconst (v := 0) hx hb dX4_pass_75 (by decide) ?_
        refine ef_eqi (y := ef_b (w i == 6 && !wo)) (by simp [ef_b, h1, h2]) ?_
        refine va_put (D := D) (ci := 3) (v := .int (ef_b (w i == 6 && !wo))) (ty := .boolean) (C := RX4) (T := TX4) (N := 4) hx hb hts (fun w h => List.mem_cons_of_mem _ (inX4 w h)) tyX4 tyX4_ok nmX4 hown hK hP hD hS 10 rfl rfl 3 (by decide) (eT_h hts tw98) (fun _ h9 => h9) rfl (by decide +kernel) (ef_nar _) (ef_fit _) (Nat.le_of_ble_eq_true rfl) dX4_pass_76 (fun H locs hP hD hS => ?_)
        have hP : va_P D vwCl (cw ad cI cZ cJ n g w P gm wm gs wz gb go gp gj wb (w i) wl (w i == 6 && !wo) fa mn mg mw mP o) H := hP
        have hD : va_D (eA ad) (cw ad cI cZ cJ n g w P gm wm gs wz gb go gp gj wb (w i) wl (w i == 6 && !wo) fa mn mg mw mP o) := hD
        exact L79  ls H locs (lv_sub hl [1, 2, 3, 4] rfl)  hP hS
      · skip
        refine lv_aload_n hx hb dX4_pass_64 rfl (lv_at hl 2 rfl) ?_
        refine va_get (D := D) (ci := 3) (v := .int (ef_b wo)) (C := RX4) (T := TX4) (N := 4) hx hb hts (fun w h => List.mem_cons_of_mem _ (inX4 w h)) hown hK hP 10 rfl rfl 3 (by decide) (eT_h hts tw98) (fun _ h9 => h9) rfl dX4_pass_65 ?_
        refine ef_if_ne (tgt := 75) hx hb dX4_pass_68 (by decide) (fun h3 => ?_) (fun h3 => ?_)
        · skip
          refine lv_iconst (v := 0) hx hb dX4_pass_75 (by decide) ?_
          refine ef_eqi (y := ef_b (w i == 6 && !wo)) (by simp [ef_b, h1, h2, h3]) ?_
          refine va_put (D := D) (ci := 3) (v := .int (ef_b (w i == 6 && !wo))) (ty := .boolean) (C := RX4) (T := TX4) (N := 4) hx hb hts (fun w h => List.mem_cons_of_mem _ (inX4 w h)) tyX4 tyX4_ok nmX4 hown hK hP hD hS 10 rfl rfl 3 (by decide) (eT_h hts tw98) (fun _ h9 => h9) rfl (by decide +kernel) (ef_nar _) (ef_fit _) (Nat.le_of_ble_eq_true rfl) dX4_pass_76 (fun H locs hP hD hS => ?_)
          have hP : va_P D vwCl (cw ad cI cZ cJ n g w P gm wm gs wz gb go gp gj wb (w i) wl (w i == 6 && !wo) fa mn mg mw mP o) H := hP
          have hD : va_D (eA ad) (cw ad cI cZ cJ n g w P gm wm gs wz gb go gp gj wb (w i) wl (w i == 6 && !wo) fa mn mg mw mP o) := hD
          exact L79  ls H locs (lv_sub hl [1, 2, 3, 4] rfl)  hP hS
        · skip
          refine lv_iconst (v := 1) hx hb dX4_pass_71 (by decide) ?_
          refine lv_goto (tgt := 76) hx hb dX4_pass_72 (by decide) ?_
          refine ef_eqi (y := ef_b (w i == 6 && !wo)) (by simp [ef_b, h1, h2, h3]) ?_
          refine va_put (D := D) (ci := 3) (v := .int (ef_b (w i == 6 && !wo))) (ty := .boolean) (C := RX4) (T := TX4) (N := 4) hx hb hts (fun w h => List.mem_cons_of_mem _ (inX4 w h)) tyX4 tyX4_ok nmX4 hown hK hP hD hS 10 rfl rfl 3 (by decide) (eT_h hts tw98) (fun _ h9 => h9) rfl (by decide +kernel) (ef_nar _) (ef_fit _) (Nat.le_of_ble_eq_true rfl) dX4_pass_76 (fun H locs hP hD hS => ?_)
          have hP : va_P D vwCl (cw ad cI cZ cJ n g w P gm wm gs wz gb go gp gj wb (w i) wl (w i == 6 && !wo) fa mn mg mw mP o) H := hP
          have hD : va_D (eA ad) (cw ad cI cZ cJ n g w P gm wm gs wz gb go gp gj wb (w i) wl (w i == 6 && !wo) fa mn mg mw mP o) := hD
          exact L79  ls H locs (lv_sub hl [1, 2, 3, 4] rfl)  hP hS
  have hS : va_S (eA ad) s.heap s.heap [] := va_S.rf
  have hD : va_D (eA ad) (cw ad cI cZ cJ n g w P gm wm gs wz gb go gp gj wb wl wk wo fa mn mg mw mP o) := eD_of hJ rfl
  refine lv_aload_n hx hb dX4_pass_0 rfl (lv_at hl 1 rfl) ?_
  refine va_get (D := D) (ci := 2) (v := .ref (ad 5)) (C := RX2) (T := TX2) (N := 4) hx hb hts (fun w h => List.mem_cons_of_mem _ (inX2 w h)) hown hK hP 1 rfl rfl 1 (by decide) (eT_h hts tw30) (fun _ h9 => h9) rfl dX4_pass_1 ?_
  refine lv_iload_n hx hb dX4_pass_4 rfl (lv_at hl 2 rfl) ?_
  refine va_iald hx hb hK hP 5 0 rfl rfl (vp_in_nI (n := i) (by omega) (by decide)) dX4_pass_5 ?_
  refine ef_eqi (y := w i) (by rw [nI_clamp (by omega)]) ?_
  refine lv_istore_n (lv' := [(3, .int (w i)), (0, .ref (ad 10)), (1, .ref (ad 1)), (2, .int (nI i))]) hx hb dX4_pass_6 rfl hl (Nat.le_of_ble_eq_true rfl) rfl (fun ls hl => ?_)
  refine lv_iload_n hx hb dX4_pass_7 rfl (lv_at hl 0 rfl) ?_
  refine er_S (own := RX4) (rest := []) hx hb hml hown hts hl.1 (k_X4_isAttached l D cI cZ cJ (w i)) tw280 tw6 tw278 tw279 yd_X4_isAttached rfl rfl ⟨Nat.le_of_ble_eq_true rfl, Nat.le_of_ble_eq_true rfl⟩ er_nil hK rfl rfl (Nat.le_of_ble_eq_true rfl) ⟨Nat.zero_le _, Nat.zero_le _⟩ dX4_pass_8 ?_
  refine ef_if_eq (tgt := 32) hx hb dX4_pass_11 (by decide) (fun h4 => ?_) (fun h4 => ?_)
  · skip
    refine lv_iconst (v := 1) hx hb dX4_pass_32 (by decide) ?_
    refine lv_goto (tgt := 37) hx hb dX4_pass_33 (by decide) ?_
    refine ef_eqi (y := ef_b true) (by decide) ?_
    refine lv_istore (lv' := [(4, .int (ef_b true)), (3, .int (w i)), (0, .ref (ad 10)), (1, .ref (ad 1)), (2, .int (nI i))]) hx hb dX4_pass_37 hl (Nat.le_of_ble_eq_true rfl) rfl (fun ls hl => ?_)
    exact L39  ls s.heap [] hl  hP hS
  · skip
    refine lv_aload_n hx hb dX4_pass_14 rfl (lv_at hl 1 rfl) ?_
    refine va_get (D := D) (ci := 3) (v := .int wb) (C := RX4) (T := TX4) (N := 4) hx hb hts (fun w h => List.mem_cons_of_mem _ (inX4 w h)) hown hK hP 10 rfl rfl 0 (by decide) (eT_h hts tw95) (fun _ h9 => h9) rfl dX4_pass_15 ?_
    refine lv_iconst (v := (-1)) hx hb dX4_pass_18 (by decide) ?_
    refine lv_icmp_eq (tgt := 32) hx hb dX4_pass_19 (by decide) (fun h5 => ?_) (fun h5 => ?_)
    · skip
      refine lv_iconst (v := 1) hx hb dX4_pass_32 (by decide) ?_
      refine lv_goto (tgt := 37) hx hb dX4_pass_33 (by decide) ?_
      refine ef_eqi (y := ef_b true) (by decide) ?_
      refine lv_istore (lv' := [(4, .int (ef_b true)), (3, .int (w i)), (0, .ref (ad 10)), (1, .ref (ad 1)), (2, .int (nI i))]) hx hb dX4_pass_37 hl (Nat.le_of_ble_eq_true rfl) rfl (fun ls hl => ?_)
      exact L39  ls s.heap [] hl  hP hS
    · skip
      refine lv_aload_n hx hb dX4_pass_22 rfl (lv_at hl 1 rfl) ?_
      refine va_get (D := D) (ci := 3) (v := .int wb) (C := RX4) (T := TX4) (N := 4) hx hb hts (fun w h => List.mem_cons_of_mem _ (inX4 w h)) hown hK hP 10 rfl rfl 0 (by decide) (eT_h hts tw95) (fun _ h9 => h9) rfl dX4_pass_23 ?_
      refine er_S (own := RX4) (rest := []) hx hb hml hown hts hl.1 (k_X4_isLineEnd l D cI cZ cJ wb) tw277 tw6 tw275 tw276 yd_X4_isLineEnd rfl rfl ⟨Nat.le_of_ble_eq_true rfl, Nat.le_of_ble_eq_true rfl⟩ er_nil hK rfl rfl (Nat.le_of_ble_eq_true rfl) ⟨Nat.zero_le _, Nat.zero_le _⟩ dX4_pass_26 ?_
      refine ef_if_eq (tgt := 36) hx hb dX4_pass_29 (by decide) (fun h6 => ?_) (fun h6 => ?_)
      · skip
        refine lv_iconst (v := 0) hx hb dX4_pass_36 (by decide) ?_
        exact absurd hc (by simp [h4, h5, h6])
      · skip
        refine lv_iconst (v := 1) hx hb dX4_pass_32 (by decide) ?_
        refine lv_goto (tgt := 37) hx hb dX4_pass_33 (by decide) ?_
        refine ef_eqi (y := ef_b true) (by decide) ?_
        refine lv_istore (lv' := [(4, .int (ef_b true)), (3, .int (w i)), (0, .ref (ad 10)), (1, .ref (ad 1)), (2, .int (nI i))]) hx hb dX4_pass_37 hl (Nat.le_of_ble_eq_true rfl) rfl (fun ls hl => ?_)
        exact L39  ls s.heap [] hl  hP hS

set_option maxHeartbeats 4000000 in
set_option maxRecDepth 100000 in
theorem c_X4_pass_false (l : Launch) (D : va_G) (cI cZ cJ : ClassId) (ad : Nat → Nat) (hJ : eJ ad) (n : Nat) (g : Nat → Int32) (w : Nat → Int32) (P : Nat → Bool) (gm : Nat → Bool) (wm : Nat → Bool) (gs : Bool) (wz : Bool) (gb : Int32) (go : Bool) (gp : Bool) (gj : Bool) (wb : Int32) (wl : Int32) (wk : Int32) (wo : Bool) (fa : Int32) (mn : Nat) (mg : Nat → Int32) (mw : Nat → Int32) (mP : Nat → Bool) (o : Nat → Int64) (i : Nat) (hi : i < 1000) (hc : (!ew_at (w i) || wb == -1 || ew_le wb) = false) : ec_M l yX4_pass (Cond.code yX4_pass cX4_pass 5 none :: eT) ({ frames := 1, cells := 0, slots := 0, locals := 20 }) D (eTy cI cZ cJ) [.ref (ad 10), .ref (ad 1), .int (nI i)] (cw ad cI cZ cJ n g w P gm wm gs wz gb go gp gj wb wl wk wo fa mn mg mw mP o) (ed none (cw ad cI cZ cJ n g w P gm wm gs wz gb go gp gj (w i) wl wk wo fa mn mg mw mP o)) (eA ad) := by
  refine ec_of (cc := cX4_pass) (maxL := 5) (ret := none) (by decide) rfl (Nat.le_of_ble_eq_true rfl) ?_
  intro p e s m args below meth c ls hx hb hr hts hown hlk hml hP hK hN hl
  have hown : s.vm.findClass RX4 = some m.cls := hown
  have hl : lv_has ls 5 [(0, .ref (ad 10)), (1, .ref (ad 1)), (2, .int (nI i))] := hl
  have L79 : ∀ (ls : Array Slot) (H : Heap) (locs : List Loc), lv_has ls 5 [(3, .int (w i)), (0, .ref (ad 10)), (1, .ref (ad 1)), (2, .int (nI i))] → va_P D vwCl (cw ad cI cZ cJ n g w P gm wm gs wz gb go gp gj wb wl wk wo fa mn mg mw mP o) H → va_S (eA ad) s.heap H locs → W p l e ({ frames := 1, cells := 0, slots := 0, locals := 20 }) s m args below meth c H locs 0 0 (MQ below (ec_Q D (ed none (cw ad cI cZ cJ n g w P gm wm gs wz gb go gp gj (w i) wl wk wo fa mn mg mw mP o)) (eA ad)) args s 0 0 (eA ad)) (F0 m 79 ls []) := by
    intro ls H locs hl hP hS
    have hD : va_D (eA ad) (cw ad cI cZ cJ n g w P gm wm gs wz gb go gp gj wb wl wk wo fa mn mg mw mP o) := eD_of hJ rfl
    refine lv_aload_n hx hb dX4_pass_79 rfl (lv_at hl 1 rfl) ?_
    refine lv_iload_n hx hb dX4_pass_80 rfl (lv_at hl 0 rfl) ?_
    refine va_put (D := D) (ci := 3) (v := .int (w i)) (ty := .int) (C := RX4) (T := TX4) (N := 4) hx hb hts (fun w h => List.mem_cons_of_mem _ (inX4 w h)) tyX4 tyX4_ok nmX4 hown hK hP hD hS 10 rfl rfl 0 (by decide) (eT_h hts tw95) (fun _ h9 => h9) rfl (by decide +kernel) rfl rfl (Nat.le_of_ble_eq_true rfl) dX4_pass_81 (fun H locs hP hD hS => ?_)
    have hP : va_P D vwCl (cw ad cI cZ cJ n g w P gm wm gs wz gb go gp gj (w i) wl wk wo fa mn mg mw mP o) H := hP
    have hD : va_D (eA ad) (cw ad cI cZ cJ n g w P gm wm gs wz gb go gp gj (w i) wl wk wo fa mn mg mw mP o) := hD
    exact ec_vret hx hb hr hlk hP hS ⟨rfl, rfl⟩ dX4_pass_84
  have L39 : ∀ (ls : Array Slot) (H : Heap) (locs : List Loc), lv_has ls 5 [(4, .int (ef_b false)), (3, .int (w i)), (0, .ref (ad 10)), (1, .ref (ad 1)), (2, .int (nI i))] → va_P D vwCl (cw ad cI cZ cJ n g w P gm wm gs wz gb go gp gj wb wl wk wo fa mn mg mw mP o) H → va_S (eA ad) s.heap H locs → W p l e ({ frames := 1, cells := 0, slots := 0, locals := 20 }) s m args below meth c H locs 0 0 (MQ below (ec_Q D (ed none (cw ad cI cZ cJ n g w P gm wm gs wz gb go gp gj (w i) wl wk wo fa mn mg mw mP o)) (eA ad)) args s 0 0 (eA ad)) (F0 m 39 ls []) := by
    intro ls H locs hl hP hS
    have hD : va_D (eA ad) (cw ad cI cZ cJ n g w P gm wm gs wz gb go gp gj wb wl wk wo fa mn mg mw mP o) := eD_of hJ rfl
    refine lv_iload hx hb dX4_pass_39 (lv_at hl 0 rfl) ?_
    refine ef_if_eq (tgt := 79) hx hb dX4_pass_41 (by decide) (fun h1 => ?_) (fun h1 => ?_)
    · skip
      exact L79  ls H locs (lv_sub hl [1, 2, 3, 4] rfl)  hP hS
    · skip
      exact Bool.noConfusion h1
  have hS : va_S (eA ad) s.heap s.heap [] := va_S.rf
  have hD : va_D (eA ad) (cw ad cI cZ cJ n g w P gm wm gs wz gb go gp gj wb wl wk wo fa mn mg mw mP o) := eD_of hJ rfl
  refine lv_aload_n hx hb dX4_pass_0 rfl (lv_at hl 1 rfl) ?_
  refine va_get (D := D) (ci := 2) (v := .ref (ad 5)) (C := RX2) (T := TX2) (N := 4) hx hb hts (fun w h => List.mem_cons_of_mem _ (inX2 w h)) hown hK hP 1 rfl rfl 1 (by decide) (eT_h hts tw30) (fun _ h9 => h9) rfl dX4_pass_1 ?_
  refine lv_iload_n hx hb dX4_pass_4 rfl (lv_at hl 2 rfl) ?_
  refine va_iald hx hb hK hP 5 0 rfl rfl (vp_in_nI (n := i) (by omega) (by decide)) dX4_pass_5 ?_
  refine ef_eqi (y := w i) (by rw [nI_clamp (by omega)]) ?_
  refine lv_istore_n (lv' := [(3, .int (w i)), (0, .ref (ad 10)), (1, .ref (ad 1)), (2, .int (nI i))]) hx hb dX4_pass_6 rfl hl (Nat.le_of_ble_eq_true rfl) rfl (fun ls hl => ?_)
  refine lv_iload_n hx hb dX4_pass_7 rfl (lv_at hl 0 rfl) ?_
  refine er_S (own := RX4) (rest := []) hx hb hml hown hts hl.1 (k_X4_isAttached l D cI cZ cJ (w i)) tw280 tw6 tw278 tw279 yd_X4_isAttached rfl rfl ⟨Nat.le_of_ble_eq_true rfl, Nat.le_of_ble_eq_true rfl⟩ er_nil hK rfl rfl (Nat.le_of_ble_eq_true rfl) ⟨Nat.zero_le _, Nat.zero_le _⟩ dX4_pass_8 ?_
  refine ef_if_eq (tgt := 32) hx hb dX4_pass_11 (by decide) (fun h2 => ?_) (fun h2 => ?_)
  · skip
    refine lv_iconst (v := 1) hx hb dX4_pass_32 (by decide) ?_
    refine lv_goto (tgt := 37) hx hb dX4_pass_33 (by decide) ?_
    exact absurd hc (by simp [h2])
  · skip
    refine lv_aload_n hx hb dX4_pass_14 rfl (lv_at hl 1 rfl) ?_
    refine va_get (D := D) (ci := 3) (v := .int wb) (C := RX4) (T := TX4) (N := 4) hx hb hts (fun w h => List.mem_cons_of_mem _ (inX4 w h)) hown hK hP 10 rfl rfl 0 (by decide) (eT_h hts tw95) (fun _ h9 => h9) rfl dX4_pass_15 ?_
    refine lv_iconst (v := (-1)) hx hb dX4_pass_18 (by decide) ?_
    refine lv_icmp_eq (tgt := 32) hx hb dX4_pass_19 (by decide) (fun h3 => ?_) (fun h3 => ?_)
    · skip
      refine lv_iconst (v := 1) hx hb dX4_pass_32 (by decide) ?_
      refine lv_goto (tgt := 37) hx hb dX4_pass_33 (by decide) ?_
      exact absurd hc (by simp [h2, h3])
    · skip
      refine lv_aload_n hx hb dX4_pass_22 rfl (lv_at hl 1 rfl) ?_
      refine va_get (D := D) (ci := 3) (v := .int wb) (C := RX4) (T := TX4) (N := 4) hx hb hts (fun w h => List.mem_cons_of_mem _ (inX4 w h)) hown hK hP 10 rfl rfl 0 (by decide) (eT_h hts tw95) (fun _ h9 => h9) rfl dX4_pass_23 ?_
      refine er_S (own := RX4) (rest := []) hx hb hml hown hts hl.1 (k_X4_isLineEnd l D cI cZ cJ wb) tw277 tw6 tw275 tw276 yd_X4_isLineEnd rfl rfl ⟨Nat.le_of_ble_eq_true rfl, Nat.le_of_ble_eq_true rfl⟩ er_nil hK rfl rfl (Nat.le_of_ble_eq_true rfl) ⟨Nat.zero_le _, Nat.zero_le _⟩ dX4_pass_26 ?_
      refine ef_if_eq (tgt := 36) hx hb dX4_pass_29 (by decide) (fun h4 => ?_) (fun h4 => ?_)
      · skip
        refine lv_iconst (v := 0) hx hb dX4_pass_36 (by decide) ?_
        refine ef_eqi (y := ef_b false) (by decide) ?_
        refine lv_istore (lv' := [(4, .int (ef_b false)), (3, .int (w i)), (0, .ref (ad 10)), (1, .ref (ad 1)), (2, .int (nI i))]) hx hb dX4_pass_37 hl (Nat.le_of_ble_eq_true rfl) rfl (fun ls hl => ?_)
        exact L39  ls s.heap [] hl  hP hS
      · skip
        refine lv_iconst (v := 1) hx hb dX4_pass_32 (by decide) ?_
        refine lv_goto (tgt := 37) hx hb dX4_pass_33 (by decide) ?_
        exact absurd hc (by simp [h2, h3, h4])

set_option maxHeartbeats 4000000 in
set_option maxRecDepth 100000 in
theorem c_X0_find_g (l : Launch) (D : va_G) (cI cZ cJ : ClassId) (ad : Nat → Nat) (hJ : eJ ad) (n : Nat) (g : Nat → Int32) (w : Nat → Int32) (P : Nat → Bool) (gm : Nat → Bool) (wm : Nat → Bool) (gs : Bool) (wz : Bool) (gb : Int32) (go : Bool) (gp : Bool) (gj : Bool) (wb : Int32) (wl : Int32) (wk : Int32) (wo : Bool) (fa : Int32) (mn : Nat) (mg : Nat → Int32) (mw : Nat → Int32) (mP : Nat → Bool) (o : Nat → Int64)  (hn : n ≤ 1000) : ec_M l yX0_find (Cond.code yX0_find cX0_find 3 none :: eT) ({ frames := 2, cells := 0, slots := 0, locals := 44 }) D (eTy cI cZ cJ) [.ref (ad 2), .ref (ad 1)] (cw ad cI cZ cJ n g w P gm wm gs wz gb go gp gj wb wl wk wo fa mn mg mw mP o) (ed none (cw ad cI cZ cJ n g w P (ef_up (ef_fl gm (eg_M g P) n) n (decide (0 < n))) wm false wz (eg_bf g n) (eg_od g n) (eg_ap g P n) (eg_aj g P n) wb wl wk wo fa mn mg mw mP o)) (eA ad) := by
  refine ec_of (cc := cX0_find) (maxL := 3) (ret := none) (by decide) rfl (Nat.le_of_ble_eq_true rfl) ?_
  intro p e s m args below meth c ls hx hb hr hts hown hlk hml hP hK hN hl
  have hown : s.vm.findClass RX0 = some m.cls := hown
  have hl : lv_has ls 3 [(0, .ref (ad 2)), (1, .ref (ad 1))] := hl
  have L9 : ∀ (r : Nat) (i : Nat) (ls : Array Slot) (H : Heap) (locs : List Loc), lv_has ls 3 [(2, .int (nI i)), (0, .ref (ad 2)), (1, .ref (ad 1))] → i ≤ n → va_P D vwCl (cw ad cI cZ cJ n g w P (ef_fl gm (eg_M g P) i) wm gs wz (eg_bf g i) (eg_od g i) (eg_ap g P i) (eg_aj g P i) wb wl wk wo fa mn mg mw mP o) H → va_S (eA ad) s.heap H locs → n - i < r → W p l e ({ frames := 2, cells := 0, slots := 0, locals := 44 }) s m args below meth c H locs 0 0 (MQ below (ec_Q D (ed none (cw ad cI cZ cJ n g w P (ef_up (ef_fl gm (eg_M g P) n) n (decide (0 < n))) wm false wz (eg_bf g n) (eg_od g n) (eg_ap g P n) (eg_aj g P n) wb wl wk wo fa mn mg mw mP o)) (eA ad)) args s 0 0 (eA ad)) (F0 m 9 ls []) := by
    intro r
    induction r with
    | zero => intro i ls H locs hl hi hP hS hμ; exact absurd hμ (Nat.not_lt_zero _)
    | succ r ih =>
      intro i ls H locs hl hi hP hS hμ
      have hD : va_D (eA ad) (cw ad cI cZ cJ n g w P (ef_fl gm (eg_M g P) i) wm gs wz (eg_bf g i) (eg_od g i) (eg_ap g P i) (eg_aj g P i) wb wl wk wo fa mn mg mw mP o) := eD_of hJ rfl
      refine lv_iload_n hx hb dX0_find_9 rfl (lv_at hl 0 rfl) ?_
      refine lv_aload_n hx hb dX0_find_10 rfl (lv_at hl 2 rfl) ?_
      refine va_get (D := D) (ci := 2) (v := .int (nI n)) (C := RX2) (T := TX2) (N := 4) hx hb hts (fun w h => List.mem_cons_of_mem _ (inX2 w h)) hown hK hP 1 rfl rfl 3 (by decide) (eT_h hts tw35) (fun _ h9 => h9) rfl dX0_find_11 ?_
      refine lv_icmp_ge (tgt := 59) hx hb dX0_find_14 (by decide) (fun h1 => ?_) (fun h1 => ?_)
      · skip
        have h1 : n ≤ i := (nI_leI (a := n) (b := i) (by omega) (by omega)).mp h1
        obtain rfl : n = i := by omega
        refine lv_aload_n hx hb dX0_find_59 rfl (lv_at hl 1 rfl) ?_
        refine va_get (D := D) (ci := 0) (v := .ref (ad 7)) (C := RX0) (T := TX0) (N := 3) hx hb hts (fun w h => List.mem_cons_of_mem _ (inX0 w h)) hown hK hP 2 rfl rfl 0 (by decide) (eT_h hts tw77) (fun _ h9 => h9) rfl dX0_find_60 ?_
        refine lv_aload_n hx hb dX0_find_63 rfl (lv_at hl 2 rfl) ?_
        refine va_get (D := D) (ci := 2) (v := .int (nI n)) (C := RX2) (T := TX2) (N := 4) hx hb hts (fun w h => List.mem_cons_of_mem _ (inX2 w h)) hown hK hP 1 rfl rfl 3 (by decide) (eT_h hts tw35) (fun _ h9 => h9) rfl dX0_find_64 ?_
        refine lv_aload_n hx hb dX0_find_67 rfl (lv_at hl 2 rfl) ?_
        refine va_get (D := D) (ci := 2) (v := .int (nI n)) (C := RX2) (T := TX2) (N := 4) hx hb hts (fun w h => List.mem_cons_of_mem _ (inX2 w h)) hown hK hP 1 rfl rfl 3 (by decide) (eT_h hts tw35) (fun _ h9 => h9) rfl dX0_find_68 ?_
        refine lv_if_le (tgt := 78) hx hb dX0_find_71 (by decide) (fun h2 => ?_) (fun h2 => ?_)
        · skip
          have h2 : n ≤ 0 := (nI_leI (a := n) (b := 0) (by omega) (by omega)).mp h2
          refine lv_iconst (v := 0) hx hb dX0_find_78 (by decide) ?_
          refine ef_eqi (y := ef_b (decide (0 < n))) (by simp [ef_b, show ¬ 0 < n by omega]) ?_
          refine va_zast hx hb hK hP hD hS 7 1 rfl rfl (vp_in_nI (n := n) (by omega) (by decide)) dX0_find_79 (fun H locs hP hD hS => ?_)
          rw [nI_clamp (n := n) (by omega), ef_upd] at hP hD
          have hP : va_P D vwCl (cw ad cI cZ cJ n g w P (ef_up (ef_fl gm (eg_M g P) n) n (decide (0 < n))) wm gs wz (eg_bf g n) (eg_od g n) (eg_ap g P n) (eg_aj g P n) wb wl wk wo fa mn mg mw mP o) H := hP
          have hD : va_D (eA ad) (cw ad cI cZ cJ n g w P (ef_up (ef_fl gm (eg_M g P) n) n (decide (0 < n))) wm gs wz (eg_bf g n) (eg_od g n) (eg_ap g P n) (eg_aj g P n) wb wl wk wo fa mn mg mw mP o) := hD
          refine lv_aload_n hx hb dX0_find_80 rfl (lv_at hl 1 rfl) ?_
          refine lv_iconst (v := 0) hx hb dX0_find_81 (by decide) ?_
          refine ef_eqi (y := ef_b false) (by decide) ?_
          refine va_put (D := D) (ci := 0) (v := .int (ef_b false)) (ty := .boolean) (C := RX0) (T := TX0) (N := 3) hx hb hts (fun w h => List.mem_cons_of_mem _ (inX0 w h)) tyX0 tyX0_ok nmX0 hown hK hP hD hS 2 rfl rfl 1 (by decide) (eT_h hts tw79) (fun _ h9 => h9) rfl (by decide +kernel) (ef_nar _) (ef_fit _) (Nat.le_of_ble_eq_true rfl) dX0_find_82 (fun H locs hP hD hS => ?_)
          have hP : va_P D vwCl (cw ad cI cZ cJ n g w P (ef_up (ef_fl gm (eg_M g P) n) n (decide (0 < n))) wm false wz (eg_bf g n) (eg_od g n) (eg_ap g P n) (eg_aj g P n) wb wl wk wo fa mn mg mw mP o) H := hP
          have hD : va_D (eA ad) (cw ad cI cZ cJ n g w P (ef_up (ef_fl gm (eg_M g P) n) n (decide (0 < n))) wm false wz (eg_bf g n) (eg_od g n) (eg_ap g P n) (eg_aj g P n) wb wl wk wo fa mn mg mw mP o) := hD
          exact ec_vret hx hb hr hlk hP hS ⟨rfl, rfl⟩ dX0_find_85
        · skip
          have h2 : ¬ (n ≤ 0) := fun q9 => h2 ((nI_leI (a := n) (b := 0) (by omega) (by omega)).mpr q9)
          refine lv_iconst (v := 1) hx hb dX0_find_74 (by decide) ?_
          refine lv_goto (tgt := 79) hx hb dX0_find_75 (by decide) ?_
          refine ef_eqi (y := ef_b (decide (0 < n))) (by simp [ef_b, show 0 < n by omega]) ?_
          refine va_zast hx hb hK hP hD hS 7 1 rfl rfl (vp_in_nI (n := n) (by omega) (by decide)) dX0_find_79 (fun H locs hP hD hS => ?_)
          rw [nI_clamp (n := n) (by omega), ef_upd] at hP hD
          have hP : va_P D vwCl (cw ad cI cZ cJ n g w P (ef_up (ef_fl gm (eg_M g P) n) n (decide (0 < n))) wm gs wz (eg_bf g n) (eg_od g n) (eg_ap g P n) (eg_aj g P n) wb wl wk wo fa mn mg mw mP o) H := hP
          have hD : va_D (eA ad) (cw ad cI cZ cJ n g w P (ef_up (ef_fl gm (eg_M g P) n) n (decide (0 < n))) wm gs wz (eg_bf g n) (eg_od g n) (eg_ap g P n) (eg_aj g P n) wb wl wk wo fa mn mg mw mP o) := hD
          refine lv_aload_n hx hb dX0_find_80 rfl (lv_at hl 1 rfl) ?_
          refine lv_iconst (v := 0) hx hb dX0_find_81 (by decide) ?_
          refine ef_eqi (y := ef_b false) (by decide) ?_
          refine va_put (D := D) (ci := 0) (v := .int (ef_b false)) (ty := .boolean) (C := RX0) (T := TX0) (N := 3) hx hb hts (fun w h => List.mem_cons_of_mem _ (inX0 w h)) tyX0 tyX0_ok nmX0 hown hK hP hD hS 2 rfl rfl 1 (by decide) (eT_h hts tw79) (fun _ h9 => h9) rfl (by decide +kernel) (ef_nar _) (ef_fit _) (Nat.le_of_ble_eq_true rfl) dX0_find_82 (fun H locs hP hD hS => ?_)
          have hP : va_P D vwCl (cw ad cI cZ cJ n g w P (ef_up (ef_fl gm (eg_M g P) n) n (decide (0 < n))) wm false wz (eg_bf g n) (eg_od g n) (eg_ap g P n) (eg_aj g P n) wb wl wk wo fa mn mg mw mP o) H := hP
          have hD : va_D (eA ad) (cw ad cI cZ cJ n g w P (ef_up (ef_fl gm (eg_M g P) n) n (decide (0 < n))) wm false wz (eg_bf g n) (eg_od g n) (eg_ap g P n) (eg_aj g P n) wb wl wk wo fa mn mg mw mP o) := hD
          exact ec_vret hx hb hr hlk hP hS ⟨rfl, rfl⟩ dX0_find_85
      · skip
        have h1 : ¬ (n ≤ i) := fun q9 => h1 ((nI_leI (a := n) (b := i) (by omega) (by omega)).mpr q9)
        refine lv_aload_n hx hb dX0_find_17 rfl (lv_at hl 1 rfl) ?_
        refine va_get (D := D) (ci := 0) (v := .ref (ad 7)) (C := RX0) (T := TX0) (N := 3) hx hb hts (fun w h => List.mem_cons_of_mem _ (inX0 w h)) hown hK hP 2 rfl rfl 0 (by decide) (eT_h hts tw77) (fun _ h9 => h9) rfl dX0_find_18 ?_
        refine lv_iload_n hx hb dX0_find_21 rfl (lv_at hl 0 rfl) ?_
        refine lv_iload_n hx hb dX0_find_22 rfl (lv_at hl 0 rfl) ?_
        refine lv_if_eq (tgt := 38) hx hb dX0_find_23 (by decide) (fun h3 => ?_) (fun h3 => ?_)
        · skip
          have h3 : i = 0 := (nI_eq (a := i) (b := 0) (by omega) (by omega)).mp h3
          refine lv_iconst (v := 1) hx hb dX0_find_38 (by decide) ?_
          refine lv_goto (tgt := 43) hx hb dX0_find_39 (by decide) ?_
          refine ef_eqi (y := ef_b (eg_M g P i)) (by simp [ef_b, eg_M, h3]) ?_
          refine va_zast hx hb hK hP hD hS 7 1 rfl rfl (vp_in_nI (n := i) (by omega) (by decide)) dX0_find_43 (fun H locs hP hD hS => ?_)
          rw [nI_clamp (n := i) (by omega), ef_upd] at hP hD
          have hP : va_P D vwCl (cw ad cI cZ cJ n g w P (ef_up (ef_fl gm (eg_M g P) i) i (eg_M g P i)) wm gs wz (eg_bf g i) (eg_od g i) (eg_ap g P i) (eg_aj g P i) wb wl wk wo fa mn mg mw mP o) H := hP
          have hD : va_D (eA ad) (cw ad cI cZ cJ n g w P (ef_up (ef_fl gm (eg_M g P) i) i (eg_M g P i)) wm gs wz (eg_bf g i) (eg_od g i) (eg_ap g P i) (eg_aj g P i) wb wl wk wo fa mn mg mw mP o) := hD
          refine lv_aload_n hx hb dX0_find_44 rfl (lv_at hl 1 rfl) ?_
          refine va_get (D := D) (ci := 0) (v := .ref (ad 9)) (C := RX0) (T := TX0) (N := 3) hx hb hts (fun w h => List.mem_cons_of_mem _ (inX0 w h)) hown hK hP 2 rfl rfl 2 (by decide) (eT_h hts tw81) (fun _ h9 => h9) rfl dX0_find_45 ?_
          refine lv_aload_n hx hb dX0_find_48 rfl (lv_at hl 2 rfl) ?_
          refine lv_iload_n hx hb dX0_find_49 rfl (lv_at hl 0 rfl) ?_
          refine ec_U (n := 2) (x := ⟨"EdgeFinder$Rules", "pass", "(LEdgeFinder$Row;I)V"⟩) (own := RX0) (C := RX1) (b := (ad 9)) (rest := []) hx hb hml hown hts hl.1 (c_X1_pass l D cI cZ cJ ad hJ n g w P (ef_up (ef_fl gm (eg_M g P) i) i (eg_M g P i)) wm gs wz (eg_bf g i) (eg_od g i) (eg_ap g P i) (eg_aj g P i) wb wl wk wo fa mn mg mw mP o i (by omega)) (eT_U (x := ⟨"EdgeFinder$Rules", "pass", "(LEdgeFinder$Row;I)V"⟩) tw315 tw317 tw318 tw319 tw5 tw320) hN.2.2 (by decide +kernel) rfl rfl ⟨Nat.le_of_ble_eq_true rfl, Nat.le_of_ble_eq_true rfl⟩ hP hK hN hP (q0 := 9) rfl rfl rfl rfl (Nat.le_of_ble_eq_true rfl) ⟨Nat.zero_le _, Nat.zero_le _⟩ hS (fun _ h9 => h9) dX0_find_50 (fun v9 W9 H locs hF hP hS hz9 hk9 => ?_)
          obtain ⟨rfl, rfl⟩ := hF
          have hD : va_D (eA ad) (cw ad cI cZ cJ n g w P (ef_up (ef_fl gm (eg_M g P) i) i (eg_M g P i)) wm gs wz (g i) (g i == 6 && !(eg_od g i)) (P i || (eg_ap g P i && g i == 4)) (eg_ap g P i && g i == 5) wb wl wk wo fa mn mg mw mP o) := eD_of hJ rfl
          refine W.eq (g2 := F0 m 53 ls []) rfl ?_
          refine lv_iinc (k := 0) (v := nI (i + 1)) (lv' := [(2, .int (nI (i + 1))), (0, .ref (ad 2)), (1, .ref (ad 1))]) hx hb dX0_find_53 hl rfl (by rw [show Int32.ofInt 1 = 1 from by decide]; exact nI_1 _) (Nat.le_of_ble_eq_true rfl) rfl (fun ls hl => ?_)
          refine lv_goto (tgt := 9) hx hb dX0_find_56 (by decide) ?_
          have hP : va_P D vwCl (cw ad cI cZ cJ n g w P (ef_fl gm (eg_M g P) (i + 1)) wm gs wz (eg_bf g (i + 1)) (eg_od g (i + 1)) (eg_ap g P (i + 1)) (eg_aj g P (i + 1)) wb wl wk wo fa mn mg mw mP o) H := by rw [← ef_fl_s]; exact hP
          exact ih (i + 1) ls H locs hl (by omega) hP hS (by omega)
        · skip
          have h3 : ¬ (i = 0) := fun q9 => h3 ((nI_eq (a := i) (b := 0) (by omega) (by omega)).mpr q9)
          refine lv_aload_n hx hb dX0_find_26 rfl (lv_at hl 1 rfl) ?_
          refine va_get (D := D) (ci := 0) (v := .ref (ad 9)) (C := RX0) (T := TX0) (N := 3) hx hb hts (fun w h => List.mem_cons_of_mem _ (inX0 w h)) hown hK hP 2 rfl rfl 2 (by decide) (eT_h hts tw81) (fun _ h9 => h9) rfl dX0_find_27 ?_
          refine lv_aload_n hx hb dX0_find_30 rfl (lv_at hl 2 rfl) ?_
          refine lv_iload_n hx hb dX0_find_31 rfl (lv_at hl 0 rfl) ?_
          refine er_U (n := 2) (x := ⟨"EdgeFinder$Rules", "part", "(LEdgeFinder$Row;I)Z"⟩) (own := RX0) (C := RX1) (b := (ad 9)) (rest := [.int (nI i), .ref (ad 7)]) hx hb hml hown hts hl.1 (k_X1_part l D cI cZ cJ (ad 9) (eg_bf g i) (eg_od g i) (eg_ap g P i) (eg_aj g P i) (ad 1) (ad 4) (ad 5) (ad 6) n g P i (by omega)) (eT_U (x := ⟨"EdgeFinder$Rules", "part", "(LEdgeFinder$Row;I)Z"⟩) tw259 tw261 tw262 tw263 tw5 tw264) hN.2.1 (by decide +kernel) rfl rfl ⟨Nat.le_of_ble_eq_true rfl, Nat.le_of_ble_eq_true rfl⟩ (hP.sub [9, 1, 4, 6] rfl) hK hP (q0 := 9) rfl rfl rfl rfl (Nat.le_of_ble_eq_true rfl) ⟨Nat.zero_le _, Nat.zero_le _⟩ dX0_find_32 ?_
          refine ef_if_eq (tgt := 42) hx hb dX0_find_35 (by decide) (fun h4 => ?_) (fun h4 => ?_)
          · skip
            refine lv_iconst (v := 0) hx hb dX0_find_42 (by decide) ?_
            refine ef_eqi (y := ef_b (eg_M g P i)) (by simp [ef_b, eg_M, h3, h4]) ?_
            refine va_zast hx hb hK hP hD hS 7 1 rfl rfl (vp_in_nI (n := i) (by omega) (by decide)) dX0_find_43 (fun H locs hP hD hS => ?_)
            rw [nI_clamp (n := i) (by omega), ef_upd] at hP hD
            have hP : va_P D vwCl (cw ad cI cZ cJ n g w P (ef_up (ef_fl gm (eg_M g P) i) i (eg_M g P i)) wm gs wz (eg_bf g i) (eg_od g i) (eg_ap g P i) (eg_aj g P i) wb wl wk wo fa mn mg mw mP o) H := hP
            have hD : va_D (eA ad) (cw ad cI cZ cJ n g w P (ef_up (ef_fl gm (eg_M g P) i) i (eg_M g P i)) wm gs wz (eg_bf g i) (eg_od g i) (eg_ap g P i) (eg_aj g P i) wb wl wk wo fa mn mg mw mP o) := hD
            refine lv_aload_n hx hb dX0_find_44 rfl (lv_at hl 1 rfl) ?_
            refine va_get (D := D) (ci := 0) (v := .ref (ad 9)) (C := RX0) (T := TX0) (N := 3) hx hb hts (fun w h => List.mem_cons_of_mem _ (inX0 w h)) hown hK hP 2 rfl rfl 2 (by decide) (eT_h hts tw81) (fun _ h9 => h9) rfl dX0_find_45 ?_
            refine lv_aload_n hx hb dX0_find_48 rfl (lv_at hl 2 rfl) ?_
            refine lv_iload_n hx hb dX0_find_49 rfl (lv_at hl 0 rfl) ?_
            refine ec_U (n := 2) (x := ⟨"EdgeFinder$Rules", "pass", "(LEdgeFinder$Row;I)V"⟩) (own := RX0) (C := RX1) (b := (ad 9)) (rest := []) hx hb hml hown hts hl.1 (c_X1_pass l D cI cZ cJ ad hJ n g w P (ef_up (ef_fl gm (eg_M g P) i) i (eg_M g P i)) wm gs wz (eg_bf g i) (eg_od g i) (eg_ap g P i) (eg_aj g P i) wb wl wk wo fa mn mg mw mP o i (by omega)) (eT_U (x := ⟨"EdgeFinder$Rules", "pass", "(LEdgeFinder$Row;I)V"⟩) tw315 tw317 tw318 tw319 tw5 tw320) hN.2.2 (by decide +kernel) rfl rfl ⟨Nat.le_of_ble_eq_true rfl, Nat.le_of_ble_eq_true rfl⟩ hP hK hN hP (q0 := 9) rfl rfl rfl rfl (Nat.le_of_ble_eq_true rfl) ⟨Nat.zero_le _, Nat.zero_le _⟩ hS (fun _ h9 => h9) dX0_find_50 (fun v9 W9 H locs hF hP hS hz9 hk9 => ?_)
            obtain ⟨rfl, rfl⟩ := hF
            have hD : va_D (eA ad) (cw ad cI cZ cJ n g w P (ef_up (ef_fl gm (eg_M g P) i) i (eg_M g P i)) wm gs wz (g i) (g i == 6 && !(eg_od g i)) (P i || (eg_ap g P i && g i == 4)) (eg_ap g P i && g i == 5) wb wl wk wo fa mn mg mw mP o) := eD_of hJ rfl
            refine W.eq (g2 := F0 m 53 ls []) rfl ?_
            refine lv_iinc (k := 0) (v := nI (i + 1)) (lv' := [(2, .int (nI (i + 1))), (0, .ref (ad 2)), (1, .ref (ad 1))]) hx hb dX0_find_53 hl rfl (by rw [show Int32.ofInt 1 = 1 from by decide]; exact nI_1 _) (Nat.le_of_ble_eq_true rfl) rfl (fun ls hl => ?_)
            refine lv_goto (tgt := 9) hx hb dX0_find_56 (by decide) ?_
            have hP : va_P D vwCl (cw ad cI cZ cJ n g w P (ef_fl gm (eg_M g P) (i + 1)) wm gs wz (eg_bf g (i + 1)) (eg_od g (i + 1)) (eg_ap g P (i + 1)) (eg_aj g P (i + 1)) wb wl wk wo fa mn mg mw mP o) H := by rw [← ef_fl_s]; exact hP
            exact ih (i + 1) ls H locs hl (by omega) hP hS (by omega)
          · skip
            refine lv_iconst (v := 1) hx hb dX0_find_38 (by decide) ?_
            refine lv_goto (tgt := 43) hx hb dX0_find_39 (by decide) ?_
            refine ef_eqi (y := ef_b (eg_M g P i)) (by simp [ef_b, eg_M, h3, h4]) ?_
            refine va_zast hx hb hK hP hD hS 7 1 rfl rfl (vp_in_nI (n := i) (by omega) (by decide)) dX0_find_43 (fun H locs hP hD hS => ?_)
            rw [nI_clamp (n := i) (by omega), ef_upd] at hP hD
            have hP : va_P D vwCl (cw ad cI cZ cJ n g w P (ef_up (ef_fl gm (eg_M g P) i) i (eg_M g P i)) wm gs wz (eg_bf g i) (eg_od g i) (eg_ap g P i) (eg_aj g P i) wb wl wk wo fa mn mg mw mP o) H := hP
            have hD : va_D (eA ad) (cw ad cI cZ cJ n g w P (ef_up (ef_fl gm (eg_M g P) i) i (eg_M g P i)) wm gs wz (eg_bf g i) (eg_od g i) (eg_ap g P i) (eg_aj g P i) wb wl wk wo fa mn mg mw mP o) := hD
            refine lv_aload_n hx hb dX0_find_44 rfl (lv_at hl 1 rfl) ?_
            refine va_get (D := D) (ci := 0) (v := .ref (ad 9)) (C := RX0) (T := TX0) (N := 3) hx hb hts (fun w h => List.mem_cons_of_mem _ (inX0 w h)) hown hK hP 2 rfl rfl 2 (by decide) (eT_h hts tw81) (fun _ h9 => h9) rfl dX0_find_45 ?_
            refine lv_aload_n hx hb dX0_find_48 rfl (lv_at hl 2 rfl) ?_
            refine lv_iload_n hx hb dX0_find_49 rfl (lv_at hl 0 rfl) ?_
            refine ec_U (n := 2) (x := ⟨"EdgeFinder$Rules", "pass", "(LEdgeFinder$Row;I)V"⟩) (own := RX0) (C := RX1) (b := (ad 9)) (rest := []) hx hb hml hown hts hl.1 (c_X1_pass l D cI cZ cJ ad hJ n g w P (ef_up (ef_fl gm (eg_M g P) i) i (eg_M g P i)) wm gs wz (eg_bf g i) (eg_od g i) (eg_ap g P i) (eg_aj g P i) wb wl wk wo fa mn mg mw mP o i (by omega)) (eT_U (x := ⟨"EdgeFinder$Rules", "pass", "(LEdgeFinder$Row;I)V"⟩) tw315 tw317 tw318 tw319 tw5 tw320) hN.2.2 (by decide +kernel) rfl rfl ⟨Nat.le_of_ble_eq_true rfl, Nat.le_of_ble_eq_true rfl⟩ hP hK hN hP (q0 := 9) rfl rfl rfl rfl (Nat.le_of_ble_eq_true rfl) ⟨Nat.zero_le _, Nat.zero_le _⟩ hS (fun _ h9 => h9) dX0_find_50 (fun v9 W9 H locs hF hP hS hz9 hk9 => ?_)
            obtain ⟨rfl, rfl⟩ := hF
            have hD : va_D (eA ad) (cw ad cI cZ cJ n g w P (ef_up (ef_fl gm (eg_M g P) i) i (eg_M g P i)) wm gs wz (g i) (g i == 6 && !(eg_od g i)) (P i || (eg_ap g P i && g i == 4)) (eg_ap g P i && g i == 5) wb wl wk wo fa mn mg mw mP o) := eD_of hJ rfl
            refine W.eq (g2 := F0 m 53 ls []) rfl ?_
            refine lv_iinc (k := 0) (v := nI (i + 1)) (lv' := [(2, .int (nI (i + 1))), (0, .ref (ad 2)), (1, .ref (ad 1))]) hx hb dX0_find_53 hl rfl (by rw [show Int32.ofInt 1 = 1 from by decide]; exact nI_1 _) (Nat.le_of_ble_eq_true rfl) rfl (fun ls hl => ?_)
            refine lv_goto (tgt := 9) hx hb dX0_find_56 (by decide) ?_
            have hP : va_P D vwCl (cw ad cI cZ cJ n g w P (ef_fl gm (eg_M g P) (i + 1)) wm gs wz (eg_bf g (i + 1)) (eg_od g (i + 1)) (eg_ap g P (i + 1)) (eg_aj g P (i + 1)) wb wl wk wo fa mn mg mw mP o) H := by rw [← ef_fl_s]; exact hP
            exact ih (i + 1) ls H locs hl (by omega) hP hS (by omega)
  have hS : va_S (eA ad) s.heap s.heap [] := va_S.rf
  have hD : va_D (eA ad) (cw ad cI cZ cJ n g w P gm wm gs wz gb go gp gj wb wl wk wo fa mn mg mw mP o) := eD_of hJ rfl
  refine lv_aload_n hx hb dX0_find_0 rfl (lv_at hl 0 rfl) ?_
  refine va_get (D := D) (ci := 0) (v := .ref (ad 9)) (C := RX0) (T := TX0) (N := 3) hx hb hts (fun w h => List.mem_cons_of_mem _ (inX0 w h)) hown hK hP 2 rfl rfl 2 (by decide) (eT_h hts tw81) (fun _ h9 => h9) rfl dX0_find_1 ?_
  refine ec_U (n := 0) (x := ⟨"EdgeFinder$Rules", "begin", "()V"⟩) (own := RX0) (C := RX1) (b := (ad 9)) (rest := []) hx hb hml hown hts hl.1 (c_X1_begin l D cI cZ cJ ad hJ n g w P gm wm gs wz gb go gp gj wb wl wk wo fa mn mg mw mP o) (eT_U (x := ⟨"EdgeFinder$Rules", "begin", "()V"⟩) tw250 tw252 tw253 tw254 tw5 tw255) hN.1 (by decide +kernel) rfl rfl ⟨Nat.le_of_ble_eq_true rfl, Nat.le_of_ble_eq_true rfl⟩ hP hK hN hP (q0 := 9) rfl rfl rfl rfl (Nat.le_of_ble_eq_true rfl) ⟨Nat.zero_le _, Nat.zero_le _⟩ hS (fun _ h9 => h9) dX0_find_4 (fun v9 W9 H locs hF hP hS hz9 hk9 => ?_)
  obtain ⟨rfl, rfl⟩ := hF
  have hD : va_D (eA ad) (cw ad cI cZ cJ n g w P gm wm gs wz (-1) false false false wb wl wk wo fa mn mg mw mP o) := eD_of hJ rfl
  refine W.eq (g2 := F0 m 7 ls []) rfl ?_
  refine lv_iconst (v := 0) hx hb dX0_find_7 (by decide) ?_
  refine lv_istore_n (lv' := [(2, .int 0), (0, .ref (ad 2)), (1, .ref (ad 1))]) hx hb dX0_find_8 rfl hl (Nat.le_of_ble_eq_true rfl) rfl (fun ls hl => ?_)
  have hP : va_P D vwCl (cw ad cI cZ cJ n g w P (ef_fl gm (eg_M g P) 0) wm gs wz (eg_bf g 0) (eg_od g 0) (eg_ap g P 0) (eg_aj g P 0) wb wl wk wo fa mn mg mw mP o) H := by rw [ef_fl_0]; exact hP
  exact L9 _ 0 ls H locs hl (Nat.zero_le _) hP hS (Nat.lt_succ_self _)

set_option maxHeartbeats 4000000 in
set_option maxRecDepth 100000 in
theorem c_X0_find_w (l : Launch) (D : va_G) (cI cZ cJ : ClassId) (ad : Nat → Nat) (hJ : eJ ad) (n : Nat) (g : Nat → Int32) (w : Nat → Int32) (P : Nat → Bool) (gm : Nat → Bool) (wm : Nat → Bool) (gs : Bool) (wz : Bool) (gb : Int32) (go : Bool) (gp : Bool) (gj : Bool) (wb : Int32) (wl : Int32) (wk : Int32) (wo : Bool) (fa : Int32) (mn : Nat) (mg : Nat → Int32) (mw : Nat → Int32) (mP : Nat → Bool) (o : Nat → Int64)  (hn : n ≤ 1000) : ec_M l yX0_find (Cond.code yX0_find cX0_find 3 none :: eT) ({ frames := 4, cells := 0, slots := 0, locals := 86 }) D (eTy cI cZ cJ) [.ref (ad 3), .ref (ad 1)] (cw ad cI cZ cJ n g w P gm wm gs wz gb go gp gj wb wl wk wo fa mn mg mw mP o) (ed none (cw ad cI cZ cJ n g w P gm (ef_up (ef_fl wm (ew_M w P n) n) n (decide (0 < n))) gs false gb go gp gj (eg_bf w n) (ew_l w n) (ew_k w n) (ew_od w n) fa mn mg mw mP o)) (eA ad) := by
  refine ec_of (cc := cX0_find) (maxL := 3) (ret := none) (by decide) rfl (Nat.le_of_ble_eq_true rfl) ?_
  intro p e s m args below meth c ls hx hb hr hts hown hlk hml hP hK hN hl
  have hown : s.vm.findClass RX0 = some m.cls := hown
  have hl : lv_has ls 3 [(0, .ref (ad 3)), (1, .ref (ad 1))] := hl
  have L9 : ∀ (r : Nat) (i : Nat) (ls : Array Slot) (H : Heap) (locs : List Loc), lv_has ls 3 [(2, .int (nI i)), (0, .ref (ad 3)), (1, .ref (ad 1))] → i ≤ n → va_P D vwCl (cw ad cI cZ cJ n g w P gm (ef_fl wm (ew_M w P n) i) gs wz gb go gp gj (eg_bf w i) (ew_l w i) (ew_k w i) (ew_od w i) fa mn mg mw mP o) H → va_S (eA ad) s.heap H locs → n - i < r → W p l e ({ frames := 4, cells := 0, slots := 0, locals := 86 }) s m args below meth c H locs 0 0 (MQ below (ec_Q D (ed none (cw ad cI cZ cJ n g w P gm (ef_up (ef_fl wm (ew_M w P n) n) n (decide (0 < n))) gs false gb go gp gj (eg_bf w n) (ew_l w n) (ew_k w n) (ew_od w n) fa mn mg mw mP o)) (eA ad)) args s 0 0 (eA ad)) (F0 m 9 ls []) := by
    intro r
    induction r with
    | zero => intro i ls H locs hl hi hP hS hμ; exact absurd hμ (Nat.not_lt_zero _)
    | succ r ih =>
      intro i ls H locs hl hi hP hS hμ
      have hD : va_D (eA ad) (cw ad cI cZ cJ n g w P gm (ef_fl wm (ew_M w P n) i) gs wz gb go gp gj (eg_bf w i) (ew_l w i) (ew_k w i) (ew_od w i) fa mn mg mw mP o) := eD_of hJ rfl
      refine lv_iload_n hx hb dX0_find_9 rfl (lv_at hl 0 rfl) ?_
      refine lv_aload_n hx hb dX0_find_10 rfl (lv_at hl 2 rfl) ?_
      refine va_get (D := D) (ci := 2) (v := .int (nI n)) (C := RX2) (T := TX2) (N := 4) hx hb hts (fun w h => List.mem_cons_of_mem _ (inX2 w h)) hown hK hP 1 rfl rfl 3 (by decide) (eT_h hts tw35) (fun _ h9 => h9) rfl dX0_find_11 ?_
      refine lv_icmp_ge (tgt := 59) hx hb dX0_find_14 (by decide) (fun h1 => ?_) (fun h1 => ?_)
      · skip
        have h1 : n ≤ i := (nI_leI (a := n) (b := i) (by omega) (by omega)).mp h1
        obtain rfl : n = i := by omega
        refine lv_aload_n hx hb dX0_find_59 rfl (lv_at hl 1 rfl) ?_
        refine va_get (D := D) (ci := 0) (v := .ref (ad 8)) (C := RX0) (T := TX0) (N := 3) hx hb hts (fun w h => List.mem_cons_of_mem _ (inX0 w h)) hown hK hP 3 rfl rfl 0 (by decide) (eT_h hts tw77) (fun _ h9 => h9) rfl dX0_find_60 ?_
        refine lv_aload_n hx hb dX0_find_63 rfl (lv_at hl 2 rfl) ?_
        refine va_get (D := D) (ci := 2) (v := .int (nI n)) (C := RX2) (T := TX2) (N := 4) hx hb hts (fun w h => List.mem_cons_of_mem _ (inX2 w h)) hown hK hP 1 rfl rfl 3 (by decide) (eT_h hts tw35) (fun _ h9 => h9) rfl dX0_find_64 ?_
        refine lv_aload_n hx hb dX0_find_67 rfl (lv_at hl 2 rfl) ?_
        refine va_get (D := D) (ci := 2) (v := .int (nI n)) (C := RX2) (T := TX2) (N := 4) hx hb hts (fun w h => List.mem_cons_of_mem _ (inX2 w h)) hown hK hP 1 rfl rfl 3 (by decide) (eT_h hts tw35) (fun _ h9 => h9) rfl dX0_find_68 ?_
        refine lv_if_le (tgt := 78) hx hb dX0_find_71 (by decide) (fun h2 => ?_) (fun h2 => ?_)
        · skip
          have h2 : n ≤ 0 := (nI_leI (a := n) (b := 0) (by omega) (by omega)).mp h2
          refine lv_iconst (v := 0) hx hb dX0_find_78 (by decide) ?_
          refine ef_eqi (y := ef_b (decide (0 < n))) (by simp [ef_b, show ¬ 0 < n by omega]) ?_
          refine va_zast hx hb hK hP hD hS 8 1 rfl rfl (vp_in_nI (n := n) (by omega) (by decide)) dX0_find_79 (fun H locs hP hD hS => ?_)
          rw [nI_clamp (n := n) (by omega), ef_upd] at hP hD
          have hP : va_P D vwCl (cw ad cI cZ cJ n g w P gm (ef_up (ef_fl wm (ew_M w P n) n) n (decide (0 < n))) gs wz gb go gp gj (eg_bf w n) (ew_l w n) (ew_k w n) (ew_od w n) fa mn mg mw mP o) H := hP
          have hD : va_D (eA ad) (cw ad cI cZ cJ n g w P gm (ef_up (ef_fl wm (ew_M w P n) n) n (decide (0 < n))) gs wz gb go gp gj (eg_bf w n) (ew_l w n) (ew_k w n) (ew_od w n) fa mn mg mw mP o) := hD
          refine lv_aload_n hx hb dX0_find_80 rfl (lv_at hl 1 rfl) ?_
          refine lv_iconst (v := 0) hx hb dX0_find_81 (by decide) ?_
          refine ef_eqi (y := ef_b false) (by decide) ?_
          refine va_put (D := D) (ci := 0) (v := .int (ef_b false)) (ty := .boolean) (C := RX0) (T := TX0) (N := 3) hx hb hts (fun w h => List.mem_cons_of_mem _ (inX0 w h)) tyX0 tyX0_ok nmX0 hown hK hP hD hS 3 rfl rfl 1 (by decide) (eT_h hts tw79) (fun _ h9 => h9) rfl (by decide +kernel) (ef_nar _) (ef_fit _) (Nat.le_of_ble_eq_true rfl) dX0_find_82 (fun H locs hP hD hS => ?_)
          have hP : va_P D vwCl (cw ad cI cZ cJ n g w P gm (ef_up (ef_fl wm (ew_M w P n) n) n (decide (0 < n))) gs false gb go gp gj (eg_bf w n) (ew_l w n) (ew_k w n) (ew_od w n) fa mn mg mw mP o) H := hP
          have hD : va_D (eA ad) (cw ad cI cZ cJ n g w P gm (ef_up (ef_fl wm (ew_M w P n) n) n (decide (0 < n))) gs false gb go gp gj (eg_bf w n) (ew_l w n) (ew_k w n) (ew_od w n) fa mn mg mw mP o) := hD
          exact ec_vret hx hb hr hlk hP hS ⟨rfl, rfl⟩ dX0_find_85
        · skip
          have h2 : ¬ (n ≤ 0) := fun q9 => h2 ((nI_leI (a := n) (b := 0) (by omega) (by omega)).mpr q9)
          refine lv_iconst (v := 1) hx hb dX0_find_74 (by decide) ?_
          refine lv_goto (tgt := 79) hx hb dX0_find_75 (by decide) ?_
          refine ef_eqi (y := ef_b (decide (0 < n))) (by simp [ef_b, show 0 < n by omega]) ?_
          refine va_zast hx hb hK hP hD hS 8 1 rfl rfl (vp_in_nI (n := n) (by omega) (by decide)) dX0_find_79 (fun H locs hP hD hS => ?_)
          rw [nI_clamp (n := n) (by omega), ef_upd] at hP hD
          have hP : va_P D vwCl (cw ad cI cZ cJ n g w P gm (ef_up (ef_fl wm (ew_M w P n) n) n (decide (0 < n))) gs wz gb go gp gj (eg_bf w n) (ew_l w n) (ew_k w n) (ew_od w n) fa mn mg mw mP o) H := hP
          have hD : va_D (eA ad) (cw ad cI cZ cJ n g w P gm (ef_up (ef_fl wm (ew_M w P n) n) n (decide (0 < n))) gs wz gb go gp gj (eg_bf w n) (ew_l w n) (ew_k w n) (ew_od w n) fa mn mg mw mP o) := hD
          refine lv_aload_n hx hb dX0_find_80 rfl (lv_at hl 1 rfl) ?_
          refine lv_iconst (v := 0) hx hb dX0_find_81 (by decide) ?_
          refine ef_eqi (y := ef_b false) (by decide) ?_
          refine va_put (D := D) (ci := 0) (v := .int (ef_b false)) (ty := .boolean) (C := RX0) (T := TX0) (N := 3) hx hb hts (fun w h => List.mem_cons_of_mem _ (inX0 w h)) tyX0 tyX0_ok nmX0 hown hK hP hD hS 3 rfl rfl 1 (by decide) (eT_h hts tw79) (fun _ h9 => h9) rfl (by decide +kernel) (ef_nar _) (ef_fit _) (Nat.le_of_ble_eq_true rfl) dX0_find_82 (fun H locs hP hD hS => ?_)
          have hP : va_P D vwCl (cw ad cI cZ cJ n g w P gm (ef_up (ef_fl wm (ew_M w P n) n) n (decide (0 < n))) gs false gb go gp gj (eg_bf w n) (ew_l w n) (ew_k w n) (ew_od w n) fa mn mg mw mP o) H := hP
          have hD : va_D (eA ad) (cw ad cI cZ cJ n g w P gm (ef_up (ef_fl wm (ew_M w P n) n) n (decide (0 < n))) gs false gb go gp gj (eg_bf w n) (ew_l w n) (ew_k w n) (ew_od w n) fa mn mg mw mP o) := hD
          exact ec_vret hx hb hr hlk hP hS ⟨rfl, rfl⟩ dX0_find_85
      · skip
        have h1 : ¬ (n ≤ i) := fun q9 => h1 ((nI_leI (a := n) (b := i) (by omega) (by omega)).mpr q9)
        refine lv_aload_n hx hb dX0_find_17 rfl (lv_at hl 1 rfl) ?_
        refine va_get (D := D) (ci := 0) (v := .ref (ad 8)) (C := RX0) (T := TX0) (N := 3) hx hb hts (fun w h => List.mem_cons_of_mem _ (inX0 w h)) hown hK hP 3 rfl rfl 0 (by decide) (eT_h hts tw77) (fun _ h9 => h9) rfl dX0_find_18 ?_
        refine lv_iload_n hx hb dX0_find_21 rfl (lv_at hl 0 rfl) ?_
        refine lv_iload_n hx hb dX0_find_22 rfl (lv_at hl 0 rfl) ?_
        refine lv_if_eq (tgt := 38) hx hb dX0_find_23 (by decide) (fun h3 => ?_) (fun h3 => ?_)
        · skip
          have h3 : i = 0 := (nI_eq (a := i) (b := 0) (by omega) (by omega)).mp h3
          refine lv_iconst (v := 1) hx hb dX0_find_38 (by decide) ?_
          refine lv_goto (tgt := 43) hx hb dX0_find_39 (by decide) ?_
          refine ef_eqi (y := ef_b (ew_M w P n i)) (by simp [ef_b, ew_M, h3]) ?_
          refine va_zast hx hb hK hP hD hS 8 1 rfl rfl (vp_in_nI (n := i) (by omega) (by decide)) dX0_find_43 (fun H locs hP hD hS => ?_)
          rw [nI_clamp (n := i) (by omega), ef_upd] at hP hD
          have hP : va_P D vwCl (cw ad cI cZ cJ n g w P gm (ef_up (ef_fl wm (ew_M w P n) i) i (ew_M w P n i)) gs wz gb go gp gj (eg_bf w i) (ew_l w i) (ew_k w i) (ew_od w i) fa mn mg mw mP o) H := hP
          have hD : va_D (eA ad) (cw ad cI cZ cJ n g w P gm (ef_up (ef_fl wm (ew_M w P n) i) i (ew_M w P n i)) gs wz gb go gp gj (eg_bf w i) (ew_l w i) (ew_k w i) (ew_od w i) fa mn mg mw mP o) := hD
          rcases Bool.eq_false_or_eq_true (ew_ct w i) with hct | hct
          · skip
            refine lv_aload_n hx hb dX0_find_44 rfl (lv_at hl 1 rfl) ?_
            refine va_get (D := D) (ci := 0) (v := .ref (ad 10)) (C := RX0) (T := TX0) (N := 3) hx hb hts (fun w h => List.mem_cons_of_mem _ (inX0 w h)) hown hK hP 3 rfl rfl 2 (by decide) (eT_h hts tw81) (fun _ h9 => h9) rfl dX0_find_45 ?_
            refine lv_aload_n hx hb dX0_find_48 rfl (lv_at hl 2 rfl) ?_
            refine lv_iload_n hx hb dX0_find_49 rfl (lv_at hl 0 rfl) ?_
            refine ec_U (n := 2) (x := ⟨"EdgeFinder$Rules", "pass", "(LEdgeFinder$Row;I)V"⟩) (own := RX0) (C := RX4) (b := (ad 10)) (rest := []) hx hb hml hown hts hl.1 (c_X4_pass_true l D cI cZ cJ ad hJ n g w P gm (ef_up (ef_fl wm (ew_M w P n) i) i (ew_M w P n i)) gs wz gb go gp gj (eg_bf w i) (ew_l w i) (ew_k w i) (ew_od w i) fa mn mg mw mP o i (by omega) hct) (eT_U (x := ⟨"EdgeFinder$Rules", "pass", "(LEdgeFinder$Row;I)V"⟩) tw315 tw317 tw321 tw322 tw6 tw323) hN.2.2 (by decide +kernel) rfl rfl ⟨Nat.le_of_ble_eq_true rfl, Nat.le_of_ble_eq_true rfl⟩ hP hK hN hP (q0 := 10) rfl rfl rfl rfl (Nat.le_of_ble_eq_true rfl) ⟨Nat.zero_le _, Nat.zero_le _⟩ hS (fun _ h9 => h9) dX0_find_50 (fun v9 W9 H locs hF hP hS hz9 hk9 => ?_)
            obtain ⟨rfl, rfl⟩ := hF
            have hD : va_D (eA ad) (cw ad cI cZ cJ n g w P gm (ef_up (ef_fl wm (ew_M w P n) i) i (ew_M w P n i)) gs wz gb go gp gj (w i) (w i) (ew_l w i) (w i == 6 && !(ew_od w i)) fa mn mg mw mP o) := eD_of hJ rfl
            refine W.eq (g2 := F0 m 53 ls []) rfl ?_
            refine lv_iinc (k := 0) (v := nI (i + 1)) (lv' := [(2, .int (nI (i + 1))), (0, .ref (ad 3)), (1, .ref (ad 1))]) hx hb dX0_find_53 hl rfl (by rw [show Int32.ofInt 1 = 1 from by decide]; exact nI_1 _) (Nat.le_of_ble_eq_true rfl) rfl (fun ls hl => ?_)
            refine lv_goto (tgt := 9) hx hb dX0_find_56 (by decide) ?_
            have hP : va_P D vwCl (cw ad cI cZ cJ n g w P gm (ef_fl wm (ew_M w P n) (i + 1)) gs wz gb go gp gj (eg_bf w (i + 1)) (ew_l w (i + 1)) (ew_k w (i + 1)) (ew_od w (i + 1)) fa mn mg mw mP o) H := by rw [← ef_fl_s, show ew_l w (i + 1) = w i by simp [ew_l, hct], show ew_k w (i + 1) = ew_l w i by simp [ew_k, hct], show ew_od w (i + 1) = (w i == 6 && !ew_od w i) by simp [ew_od, hct]]; exact hP
            exact ih (i + 1) ls H locs hl (by omega) hP hS (by omega)
          · skip
            refine lv_aload_n hx hb dX0_find_44 rfl (lv_at hl 1 rfl) ?_
            refine va_get (D := D) (ci := 0) (v := .ref (ad 10)) (C := RX0) (T := TX0) (N := 3) hx hb hts (fun w h => List.mem_cons_of_mem _ (inX0 w h)) hown hK hP 3 rfl rfl 2 (by decide) (eT_h hts tw81) (fun _ h9 => h9) rfl dX0_find_45 ?_
            refine lv_aload_n hx hb dX0_find_48 rfl (lv_at hl 2 rfl) ?_
            refine lv_iload_n hx hb dX0_find_49 rfl (lv_at hl 0 rfl) ?_
            refine ec_U (n := 2) (x := ⟨"EdgeFinder$Rules", "pass", "(LEdgeFinder$Row;I)V"⟩) (own := RX0) (C := RX4) (b := (ad 10)) (rest := []) hx hb hml hown hts hl.1 (c_X4_pass_false l D cI cZ cJ ad hJ n g w P gm (ef_up (ef_fl wm (ew_M w P n) i) i (ew_M w P n i)) gs wz gb go gp gj (eg_bf w i) (ew_l w i) (ew_k w i) (ew_od w i) fa mn mg mw mP o i (by omega) hct) (eT_U (x := ⟨"EdgeFinder$Rules", "pass", "(LEdgeFinder$Row;I)V"⟩) tw315 tw317 tw321 tw322 tw6 tw323) hN.2.2 (by decide +kernel) rfl rfl ⟨Nat.le_of_ble_eq_true rfl, Nat.le_of_ble_eq_true rfl⟩ hP hK hN hP (q0 := 10) rfl rfl rfl rfl (Nat.le_of_ble_eq_true rfl) ⟨Nat.zero_le _, Nat.zero_le _⟩ hS (fun _ h9 => h9) dX0_find_50 (fun v9 W9 H locs hF hP hS hz9 hk9 => ?_)
            obtain ⟨rfl, rfl⟩ := hF
            have hD : va_D (eA ad) (cw ad cI cZ cJ n g w P gm (ef_up (ef_fl wm (ew_M w P n) i) i (ew_M w P n i)) gs wz gb go gp gj (w i) (ew_l w i) (ew_k w i) (ew_od w i) fa mn mg mw mP o) := eD_of hJ rfl
            refine W.eq (g2 := F0 m 53 ls []) rfl ?_
            refine lv_iinc (k := 0) (v := nI (i + 1)) (lv' := [(2, .int (nI (i + 1))), (0, .ref (ad 3)), (1, .ref (ad 1))]) hx hb dX0_find_53 hl rfl (by rw [show Int32.ofInt 1 = 1 from by decide]; exact nI_1 _) (Nat.le_of_ble_eq_true rfl) rfl (fun ls hl => ?_)
            refine lv_goto (tgt := 9) hx hb dX0_find_56 (by decide) ?_
            have hP : va_P D vwCl (cw ad cI cZ cJ n g w P gm (ef_fl wm (ew_M w P n) (i + 1)) gs wz gb go gp gj (eg_bf w (i + 1)) (ew_l w (i + 1)) (ew_k w (i + 1)) (ew_od w (i + 1)) fa mn mg mw mP o) H := by rw [← ef_fl_s, show ew_l w (i + 1) = ew_l w i by simp [ew_l, hct], show ew_k w (i + 1) = ew_k w i by simp [ew_k, hct], show ew_od w (i + 1) = ew_od w i by simp [ew_od, hct]]; exact hP
            exact ih (i + 1) ls H locs hl (by omega) hP hS (by omega)
        · skip
          have h3 : ¬ (i = 0) := fun q9 => h3 ((nI_eq (a := i) (b := 0) (by omega) (by omega)).mpr q9)
          refine lv_aload_n hx hb dX0_find_26 rfl (lv_at hl 1 rfl) ?_
          refine va_get (D := D) (ci := 0) (v := .ref (ad 10)) (C := RX0) (T := TX0) (N := 3) hx hb hts (fun w h => List.mem_cons_of_mem _ (inX0 w h)) hown hK hP 3 rfl rfl 2 (by decide) (eT_h hts tw81) (fun _ h9 => h9) rfl dX0_find_27 ?_
          refine lv_aload_n hx hb dX0_find_30 rfl (lv_at hl 2 rfl) ?_
          refine lv_iload_n hx hb dX0_find_31 rfl (lv_at hl 0 rfl) ?_
          refine er_U (n := 2) (x := ⟨"EdgeFinder$Rules", "part", "(LEdgeFinder$Row;I)Z"⟩) (own := RX0) (C := RX4) (b := (ad 10)) (rest := [.int (nI i), .ref (ad 8)]) hx hb hml hown hts hl.1 (k_X4_part l D cI cZ cJ (ad 10) (eg_bf w i) (ew_l w i) (ew_k w i) (ew_od w i) (ad 1) (ad 4) (ad 5) (ad 6) n w P i hn (by omega)) (eT_U (x := ⟨"EdgeFinder$Rules", "part", "(LEdgeFinder$Row;I)Z"⟩) tw259 tw261 tw272 tw273 tw6 tw274) hN.2.1 (by decide +kernel) rfl rfl ⟨Nat.le_of_ble_eq_true rfl, Nat.le_of_ble_eq_true rfl⟩ (hP.sub [10, 1, 5, 6] rfl) hK hP (q0 := 10) rfl rfl rfl rfl (Nat.le_of_ble_eq_true rfl) ⟨Nat.zero_le _, Nat.zero_le _⟩ dX0_find_32 ?_
          refine ef_if_eq (tgt := 42) hx hb dX0_find_35 (by decide) (fun h4 => ?_) (fun h4 => ?_)
          · skip
            refine lv_iconst (v := 0) hx hb dX0_find_42 (by decide) ?_
            refine ef_eqi (y := ef_b (ew_M w P n i)) (by simp [ef_b, ew_M, h3, h4]) ?_
            refine va_zast hx hb hK hP hD hS 8 1 rfl rfl (vp_in_nI (n := i) (by omega) (by decide)) dX0_find_43 (fun H locs hP hD hS => ?_)
            rw [nI_clamp (n := i) (by omega), ef_upd] at hP hD
            have hP : va_P D vwCl (cw ad cI cZ cJ n g w P gm (ef_up (ef_fl wm (ew_M w P n) i) i (ew_M w P n i)) gs wz gb go gp gj (eg_bf w i) (ew_l w i) (ew_k w i) (ew_od w i) fa mn mg mw mP o) H := hP
            have hD : va_D (eA ad) (cw ad cI cZ cJ n g w P gm (ef_up (ef_fl wm (ew_M w P n) i) i (ew_M w P n i)) gs wz gb go gp gj (eg_bf w i) (ew_l w i) (ew_k w i) (ew_od w i) fa mn mg mw mP o) := hD
            rcases Bool.eq_false_or_eq_true (ew_ct w i) with hct | hct
            · skip
              refine lv_aload_n hx hb dX0_find_44 rfl (lv_at hl 1 rfl) ?_
              refine va_get (D := D) (ci := 0) (v := .ref (ad 10)) (C := RX0) (T := TX0) (N := 3) hx hb hts (fun w h => List.mem_cons_of_mem _ (inX0 w h)) hown hK hP 3 rfl rfl 2 (by decide) (eT_h hts tw81) (fun _ h9 => h9) rfl dX0_find_45 ?_
              refine lv_aload_n hx hb dX0_find_48 rfl (lv_at hl 2 rfl) ?_
              refine lv_iload_n hx hb dX0_find_49 rfl (lv_at hl 0 rfl) ?_
              refine ec_U (n := 2) (x := ⟨"EdgeFinder$Rules", "pass", "(LEdgeFinder$Row;I)V"⟩) (own := RX0) (C := RX4) (b := (ad 10)) (rest := []) hx hb hml hown hts hl.1 (c_X4_pass_true l D cI cZ cJ ad hJ n g w P gm (ef_up (ef_fl wm (ew_M w P n) i) i (ew_M w P n i)) gs wz gb go gp gj (eg_bf w i) (ew_l w i) (ew_k w i) (ew_od w i) fa mn mg mw mP o i (by omega) hct) (eT_U (x := ⟨"EdgeFinder$Rules", "pass", "(LEdgeFinder$Row;I)V"⟩) tw315 tw317 tw321 tw322 tw6 tw323) hN.2.2 (by decide +kernel) rfl rfl ⟨Nat.le_of_ble_eq_true rfl, Nat.le_of_ble_eq_true rfl⟩ hP hK hN hP (q0 := 10) rfl rfl rfl rfl (Nat.le_of_ble_eq_true rfl) ⟨Nat.zero_le _, Nat.zero_le _⟩ hS (fun _ h9 => h9) dX0_find_50 (fun v9 W9 H locs hF hP hS hz9 hk9 => ?_)
              obtain ⟨rfl, rfl⟩ := hF
              have hD : va_D (eA ad) (cw ad cI cZ cJ n g w P gm (ef_up (ef_fl wm (ew_M w P n) i) i (ew_M w P n i)) gs wz gb go gp gj (w i) (w i) (ew_l w i) (w i == 6 && !(ew_od w i)) fa mn mg mw mP o) := eD_of hJ rfl
              refine W.eq (g2 := F0 m 53 ls []) rfl ?_
              refine lv_iinc (k := 0) (v := nI (i + 1)) (lv' := [(2, .int (nI (i + 1))), (0, .ref (ad 3)), (1, .ref (ad 1))]) hx hb dX0_find_53 hl rfl (by rw [show Int32.ofInt 1 = 1 from by decide]; exact nI_1 _) (Nat.le_of_ble_eq_true rfl) rfl (fun ls hl => ?_)
              refine lv_goto (tgt := 9) hx hb dX0_find_56 (by decide) ?_
              have hP : va_P D vwCl (cw ad cI cZ cJ n g w P gm (ef_fl wm (ew_M w P n) (i + 1)) gs wz gb go gp gj (eg_bf w (i + 1)) (ew_l w (i + 1)) (ew_k w (i + 1)) (ew_od w (i + 1)) fa mn mg mw mP o) H := by rw [← ef_fl_s, show ew_l w (i + 1) = w i by simp [ew_l, hct], show ew_k w (i + 1) = ew_l w i by simp [ew_k, hct], show ew_od w (i + 1) = (w i == 6 && !ew_od w i) by simp [ew_od, hct]]; exact hP
              exact ih (i + 1) ls H locs hl (by omega) hP hS (by omega)
            · skip
              refine lv_aload_n hx hb dX0_find_44 rfl (lv_at hl 1 rfl) ?_
              refine va_get (D := D) (ci := 0) (v := .ref (ad 10)) (C := RX0) (T := TX0) (N := 3) hx hb hts (fun w h => List.mem_cons_of_mem _ (inX0 w h)) hown hK hP 3 rfl rfl 2 (by decide) (eT_h hts tw81) (fun _ h9 => h9) rfl dX0_find_45 ?_
              refine lv_aload_n hx hb dX0_find_48 rfl (lv_at hl 2 rfl) ?_
              refine lv_iload_n hx hb dX0_find_49 rfl (lv_at hl 0 rfl) ?_
              refine ec_U (n := 2) (x := ⟨"EdgeFinder$Rules", "pass", "(LEdgeFinder$Row;I)V"⟩) (own := RX0) (C := RX4) (b := (ad 10)) (rest := []) hx hb hml hown hts hl.1 (c_X4_pass_false l D cI cZ cJ ad hJ n g w P gm (ef_up (ef_fl wm (ew_M w P n) i) i (ew_M w P n i)) gs wz gb go gp gj (eg_bf w i) (ew_l w i) (ew_k w i) (ew_od w i) fa mn mg mw mP o i (by omega) hct) (eT_U (x := ⟨"EdgeFinder$Rules", "pass", "(LEdgeFinder$Row;I)V"⟩) tw315 tw317 tw321 tw322 tw6 tw323) hN.2.2 (by decide +kernel) rfl rfl ⟨Nat.le_of_ble_eq_true rfl, Nat.le_of_ble_eq_true rfl⟩ hP hK hN hP (q0 := 10) rfl rfl rfl rfl (Nat.le_of_ble_eq_true rfl) ⟨Nat.zero_le _, Nat.zero_le _⟩ hS (fun _ h9 => h9) dX0_find_50 (fun v9 W9 H locs hF hP hS hz9 hk9 => ?_)
              obtain ⟨rfl, rfl⟩ := hF
              have hD : va_D (eA ad) (cw ad cI cZ cJ n g w P gm (ef_up (ef_fl wm (ew_M w P n) i) i (ew_M w P n i)) gs wz gb go gp gj (w i) (ew_l w i) (ew_k w i) (ew_od w i) fa mn mg mw mP o) := eD_of hJ rfl
              refine W.eq (g2 := F0 m 53 ls []) rfl ?_
              refine lv_iinc (k := 0) (v := nI (i + 1)) (lv' := [(2, .int (nI (i + 1))), (0, .ref (ad 3)), (1, .ref (ad 1))]) hx hb dX0_find_53 hl rfl (by rw [show Int32.ofInt 1 = 1 from by decide]; exact nI_1 _) (Nat.le_of_ble_eq_true rfl) rfl (fun ls hl => ?_)
              refine lv_goto (tgt := 9) hx hb dX0_find_56 (by decide) ?_
              have hP : va_P D vwCl (cw ad cI cZ cJ n g w P gm (ef_fl wm (ew_M w P n) (i + 1)) gs wz gb go gp gj (eg_bf w (i + 1)) (ew_l w (i + 1)) (ew_k w (i + 1)) (ew_od w (i + 1)) fa mn mg mw mP o) H := by rw [← ef_fl_s, show ew_l w (i + 1) = ew_l w i by simp [ew_l, hct], show ew_k w (i + 1) = ew_k w i by simp [ew_k, hct], show ew_od w (i + 1) = ew_od w i by simp [ew_od, hct]]; exact hP
              exact ih (i + 1) ls H locs hl (by omega) hP hS (by omega)
          · skip
            refine lv_iconst (v := 1) hx hb dX0_find_38 (by decide) ?_
            refine lv_goto (tgt := 43) hx hb dX0_find_39 (by decide) ?_
            refine ef_eqi (y := ef_b (ew_M w P n i)) (by simp [ef_b, ew_M, h3, h4]) ?_
            refine va_zast hx hb hK hP hD hS 8 1 rfl rfl (vp_in_nI (n := i) (by omega) (by decide)) dX0_find_43 (fun H locs hP hD hS => ?_)
            rw [nI_clamp (n := i) (by omega), ef_upd] at hP hD
            have hP : va_P D vwCl (cw ad cI cZ cJ n g w P gm (ef_up (ef_fl wm (ew_M w P n) i) i (ew_M w P n i)) gs wz gb go gp gj (eg_bf w i) (ew_l w i) (ew_k w i) (ew_od w i) fa mn mg mw mP o) H := hP
            have hD : va_D (eA ad) (cw ad cI cZ cJ n g w P gm (ef_up (ef_fl wm (ew_M w P n) i) i (ew_M w P n i)) gs wz gb go gp gj (eg_bf w i) (ew_l w i) (ew_k w i) (ew_od w i) fa mn mg mw mP o) := hD
            rcases Bool.eq_false_or_eq_true (ew_ct w i) with hct | hct
            · skip
              refine lv_aload_n hx hb dX0_find_44 rfl (lv_at hl 1 rfl) ?_
              refine va_get (D := D) (ci := 0) (v := .ref (ad 10)) (C := RX0) (T := TX0) (N := 3) hx hb hts (fun w h => List.mem_cons_of_mem _ (inX0 w h)) hown hK hP 3 rfl rfl 2 (by decide) (eT_h hts tw81) (fun _ h9 => h9) rfl dX0_find_45 ?_
              refine lv_aload_n hx hb dX0_find_48 rfl (lv_at hl 2 rfl) ?_
              refine lv_iload_n hx hb dX0_find_49 rfl (lv_at hl 0 rfl) ?_
              refine ec_U (n := 2) (x := ⟨"EdgeFinder$Rules", "pass", "(LEdgeFinder$Row;I)V"⟩) (own := RX0) (C := RX4) (b := (ad 10)) (rest := []) hx hb hml hown hts hl.1 (c_X4_pass_true l D cI cZ cJ ad hJ n g w P gm (ef_up (ef_fl wm (ew_M w P n) i) i (ew_M w P n i)) gs wz gb go gp gj (eg_bf w i) (ew_l w i) (ew_k w i) (ew_od w i) fa mn mg mw mP o i (by omega) hct) (eT_U (x := ⟨"EdgeFinder$Rules", "pass", "(LEdgeFinder$Row;I)V"⟩) tw315 tw317 tw321 tw322 tw6 tw323) hN.2.2 (by decide +kernel) rfl rfl ⟨Nat.le_of_ble_eq_true rfl, Nat.le_of_ble_eq_true rfl⟩ hP hK hN hP (q0 := 10) rfl rfl rfl rfl (Nat.le_of_ble_eq_true rfl) ⟨Nat.zero_le _, Nat.zero_le _⟩ hS (fun _ h9 => h9) dX0_find_50 (fun v9 W9 H locs hF hP hS hz9 hk9 => ?_)
              obtain ⟨rfl, rfl⟩ := hF
              have hD : va_D (eA ad) (cw ad cI cZ cJ n g w P gm (ef_up (ef_fl wm (ew_M w P n) i) i (ew_M w P n i)) gs wz gb go gp gj (w i) (w i) (ew_l w i) (w i == 6 && !(ew_od w i)) fa mn mg mw mP o) := eD_of hJ rfl
              refine W.eq (g2 := F0 m 53 ls []) rfl ?_
              refine lv_iinc (k := 0) (v := nI (i + 1)) (lv' := [(2, .int (nI (i + 1))), (0, .ref (ad 3)), (1, .ref (ad 1))]) hx hb dX0_find_53 hl rfl (by rw [show Int32.ofInt 1 = 1 from by decide]; exact nI_1 _) (Nat.le_of_ble_eq_true rfl) rfl (fun ls hl => ?_)
              refine lv_goto (tgt := 9) hx hb dX0_find_56 (by decide) ?_
              have hP : va_P D vwCl (cw ad cI cZ cJ n g w P gm (ef_fl wm (ew_M w P n) (i + 1)) gs wz gb go gp gj (eg_bf w (i + 1)) (ew_l w (i + 1)) (ew_k w (i + 1)) (ew_od w (i + 1)) fa mn mg mw mP o) H := by rw [← ef_fl_s, show ew_l w (i + 1) = w i by simp [ew_l, hct], show ew_k w (i + 1) = ew_l w i by simp [ew_k, hct], show ew_od w (i + 1) = (w i == 6 && !ew_od w i) by simp [ew_od, hct]]; exact hP
              exact ih (i + 1) ls H locs hl (by omega) hP hS (by omega)
            · skip
              refine lv_aload_n hx hb dX0_find_44 rfl (lv_at hl 1 rfl) ?_
              refine va_get (D := D) (ci := 0) (v := .ref (ad 10)) (C := RX0) (T := TX0) (N := 3) hx hb hts (fun w h => List.mem_cons_of_mem _ (inX0 w h)) hown hK hP 3 rfl rfl 2 (by decide) (eT_h hts tw81) (fun _ h9 => h9) rfl dX0_find_45 ?_
              refine lv_aload_n hx hb dX0_find_48 rfl (lv_at hl 2 rfl) ?_
              refine lv_iload_n hx hb dX0_find_49 rfl (lv_at hl 0 rfl) ?_
              refine ec_U (n := 2) (x := ⟨"EdgeFinder$Rules", "pass", "(LEdgeFinder$Row;I)V"⟩) (own := RX0) (C := RX4) (b := (ad 10)) (rest := []) hx hb hml hown hts hl.1 (c_X4_pass_false l D cI cZ cJ ad hJ n g w P gm (ef_up (ef_fl wm (ew_M w P n) i) i (ew_M w P n i)) gs wz gb go gp gj (eg_bf w i) (ew_l w i) (ew_k w i) (ew_od w i) fa mn mg mw mP o i (by omega) hct) (eT_U (x := ⟨"EdgeFinder$Rules", "pass", "(LEdgeFinder$Row;I)V"⟩) tw315 tw317 tw321 tw322 tw6 tw323) hN.2.2 (by decide +kernel) rfl rfl ⟨Nat.le_of_ble_eq_true rfl, Nat.le_of_ble_eq_true rfl⟩ hP hK hN hP (q0 := 10) rfl rfl rfl rfl (Nat.le_of_ble_eq_true rfl) ⟨Nat.zero_le _, Nat.zero_le _⟩ hS (fun _ h9 => h9) dX0_find_50 (fun v9 W9 H locs hF hP hS hz9 hk9 => ?_)
              obtain ⟨rfl, rfl⟩ := hF
              have hD : va_D (eA ad) (cw ad cI cZ cJ n g w P gm (ef_up (ef_fl wm (ew_M w P n) i) i (ew_M w P n i)) gs wz gb go gp gj (w i) (ew_l w i) (ew_k w i) (ew_od w i) fa mn mg mw mP o) := eD_of hJ rfl
              refine W.eq (g2 := F0 m 53 ls []) rfl ?_
              refine lv_iinc (k := 0) (v := nI (i + 1)) (lv' := [(2, .int (nI (i + 1))), (0, .ref (ad 3)), (1, .ref (ad 1))]) hx hb dX0_find_53 hl rfl (by rw [show Int32.ofInt 1 = 1 from by decide]; exact nI_1 _) (Nat.le_of_ble_eq_true rfl) rfl (fun ls hl => ?_)
              refine lv_goto (tgt := 9) hx hb dX0_find_56 (by decide) ?_
              have hP : va_P D vwCl (cw ad cI cZ cJ n g w P gm (ef_fl wm (ew_M w P n) (i + 1)) gs wz gb go gp gj (eg_bf w (i + 1)) (ew_l w (i + 1)) (ew_k w (i + 1)) (ew_od w (i + 1)) fa mn mg mw mP o) H := by rw [← ef_fl_s, show ew_l w (i + 1) = ew_l w i by simp [ew_l, hct], show ew_k w (i + 1) = ew_k w i by simp [ew_k, hct], show ew_od w (i + 1) = ew_od w i by simp [ew_od, hct]]; exact hP
              exact ih (i + 1) ls H locs hl (by omega) hP hS (by omega)
  have hS : va_S (eA ad) s.heap s.heap [] := va_S.rf
  have hD : va_D (eA ad) (cw ad cI cZ cJ n g w P gm wm gs wz gb go gp gj wb wl wk wo fa mn mg mw mP o) := eD_of hJ rfl
  refine lv_aload_n hx hb dX0_find_0 rfl (lv_at hl 0 rfl) ?_
  refine va_get (D := D) (ci := 0) (v := .ref (ad 10)) (C := RX0) (T := TX0) (N := 3) hx hb hts (fun w h => List.mem_cons_of_mem _ (inX0 w h)) hown hK hP 3 rfl rfl 2 (by decide) (eT_h hts tw81) (fun _ h9 => h9) rfl dX0_find_1 ?_
  refine ec_U (n := 0) (x := ⟨"EdgeFinder$Rules", "begin", "()V"⟩) (own := RX0) (C := RX4) (b := (ad 10)) (rest := []) hx hb hml hown hts hl.1 (c_X4_begin l D cI cZ cJ ad hJ n g w P gm wm gs wz gb go gp gj wb wl wk wo fa mn mg mw mP o) (eT_U (x := ⟨"EdgeFinder$Rules", "begin", "()V"⟩) tw250 tw252 tw256 tw257 tw6 tw258) hN.1 (by decide +kernel) rfl rfl ⟨Nat.le_of_ble_eq_true rfl, Nat.le_of_ble_eq_true rfl⟩ hP hK hN hP (q0 := 10) rfl rfl rfl rfl (Nat.le_of_ble_eq_true rfl) ⟨Nat.zero_le _, Nat.zero_le _⟩ hS (fun _ h9 => h9) dX0_find_4 (fun v9 W9 H locs hF hP hS hz9 hk9 => ?_)
  obtain ⟨rfl, rfl⟩ := hF
  have hD : va_D (eA ad) (cw ad cI cZ cJ n g w P gm wm gs wz gb go gp gj (-1) (-1) (-1) false fa mn mg mw mP o) := eD_of hJ rfl
  refine W.eq (g2 := F0 m 7 ls []) rfl ?_
  refine lv_iconst (v := 0) hx hb dX0_find_7 (by decide) ?_
  refine lv_istore_n (lv' := [(2, .int 0), (0, .ref (ad 3)), (1, .ref (ad 1))]) hx hb dX0_find_8 rfl hl (Nat.le_of_ble_eq_true rfl) rfl (fun ls hl => ?_)
  have hP : va_P D vwCl (cw ad cI cZ cJ n g w P gm (ef_fl wm (ew_M w P n) 0) gs wz gb go gp gj (eg_bf w 0) (ew_l w 0) (ew_k w 0) (ew_od w 0) fa mn mg mw mP o) H := by rw [ef_fl_0]; exact hP
  exact L9 _ 0 ls H locs hl (Nat.zero_le _) hP hS (Nat.lt_succ_self _)
