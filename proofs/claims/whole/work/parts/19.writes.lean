set_option maxHeartbeats 4000000 in
set_option maxRecDepth 100000 in
theorem c_X2_write (l : Launch) (D : va_G) (cI cZ cJ : ClassId) (ad : Nat → Nat) (hJ : eJ ad) (n : Nat) (g : Nat → Int32) (w : Nat → Int32) (P : Nat → Bool) (gm : Nat → Bool) (wm : Nat → Bool) (gs : Bool) (wz : Bool) (gb : Int32) (go : Bool) (gp : Bool) (gj : Bool) (wb : Int32) (wl : Int32) (wk : Int32) (wo : Bool) (fa : Int32) (mn : Nat) (mg : Nat → Int32) (mw : Nat → Int32) (mP : Nat → Bool) (o : Nat → Int64) (i : Nat) (x y : Int32) (b : Bool) (hi : i < 1000) : ec_M l yX2_write (Cond.code yX2_write cX2_write 5 none :: eT) ({ frames := 0, cells := 0, slots := 0, locals := 0 }) D (eTy cI cZ cJ) [.ref (ad 1), .int (nI i), .int x, .int y, .int (ef_b b)] (cw ad cI cZ cJ n g w P gm wm gs wz gb go gp gj wb wl wk wo fa mn mg mw mP o) (ed none (cw ad cI cZ cJ n (upd g i x) (upd w i y) (ef_up P i b) gm wm gs wz gb go gp gj wb wl wk wo fa mn mg mw mP o)) (eA ad) := by
  refine ec_of (cc := cX2_write) (maxL := 5) (ret := none) (by decide) rfl (Nat.le_of_ble_eq_true rfl) ?_
  intro p e s m args below meth c ls hx hb hr hts hown hlk hml hP hK hN hl
  have hown : s.vm.findClass RX2 = some m.cls := hown
  have hl : lv_has ls 5 [(0, .ref (ad 1)), (1, .int (nI i)), (2, .int x), (3, .int y), (4, .int (ef_b b))] := hl
  have hS : va_S (eA ad) s.heap s.heap [] := va_S.rf
  have hD : va_D (eA ad) (cw ad cI cZ cJ n g w P gm wm gs wz gb go gp gj wb wl wk wo fa mn mg mw mP o) := eD_of hJ rfl
  refine lv_aload_n hx hb dX2_write_0 rfl (lv_at hl 0 rfl) ?_
  refine va_get (D := D) (ci := 2) (v := .ref (ad 4)) (C := RX2) (T := TX2) (N := 4) hx hb hts (fun w h => List.mem_cons_of_mem _ (inX2 w h)) hown hK hP 1 rfl rfl 0 (by decide) (eT_h hts tw27) (fun _ h9 => h9) rfl dX2_write_1 ?_
  refine lv_iload_n hx hb dX2_write_4 rfl (lv_at hl 1 rfl) ?_
  refine lv_iload_n hx hb dX2_write_5 rfl (lv_at hl 2 rfl) ?_
  refine va_iast hx hb hK hP hD hS 4 0 rfl rfl (vp_in_nI (n := i) (by omega) (by decide)) dX2_write_6 (fun H locs hP hD hS => ?_)
  rw [nI_clamp (n := i) (by omega)] at hP hD
  have hP : va_P D vwCl (cw ad cI cZ cJ n (upd g i x) w P gm wm gs wz gb go gp gj wb wl wk wo fa mn mg mw mP o) H := hP
  have hD : va_D (eA ad) (cw ad cI cZ cJ n (upd g i x) w P gm wm gs wz gb go gp gj wb wl wk wo fa mn mg mw mP o) := hD
  refine lv_aload_n hx hb dX2_write_7 rfl (lv_at hl 0 rfl) ?_
  refine va_get (D := D) (ci := 2) (v := .ref (ad 5)) (C := RX2) (T := TX2) (N := 4) hx hb hts (fun w h => List.mem_cons_of_mem _ (inX2 w h)) hown hK hP 1 rfl rfl 1 (by decide) (eT_h hts tw29) (fun _ h9 => h9) rfl dX2_write_8 ?_
  refine lv_iload_n hx hb dX2_write_11 rfl (lv_at hl 1 rfl) ?_
  refine lv_iload_n hx hb dX2_write_12 rfl (lv_at hl 3 rfl) ?_
  refine va_iast hx hb hK hP hD hS 5 0 rfl rfl (vp_in_nI (n := i) (by omega) (by decide)) dX2_write_13 (fun H locs hP hD hS => ?_)
  rw [nI_clamp (n := i) (by omega)] at hP hD
  have hP : va_P D vwCl (cw ad cI cZ cJ n (upd g i x) (upd w i y) P gm wm gs wz gb go gp gj wb wl wk wo fa mn mg mw mP o) H := hP
  have hD : va_D (eA ad) (cw ad cI cZ cJ n (upd g i x) (upd w i y) P gm wm gs wz gb go gp gj wb wl wk wo fa mn mg mw mP o) := hD
  refine lv_aload_n hx hb dX2_write_14 rfl (lv_at hl 0 rfl) ?_
  refine va_get (D := D) (ci := 2) (v := .ref (ad 6)) (C := RX2) (T := TX2) (N := 4) hx hb hts (fun w h => List.mem_cons_of_mem _ (inX2 w h)) hown hK hP 1 rfl rfl 2 (by decide) (eT_h hts tw31) (fun _ h9 => h9) rfl dX2_write_15 ?_
  refine lv_iload_n hx hb dX2_write_18 rfl (lv_at hl 1 rfl) ?_
  refine lv_iload hx hb dX2_write_19 (lv_at hl 4 rfl) ?_
  refine va_zast hx hb hK hP hD hS 6 1 rfl rfl (vp_in_nI (n := i) (by omega) (by decide)) dX2_write_21 (fun H locs hP hD hS => ?_)
  rw [nI_clamp (n := i) (by omega), ef_upd] at hP hD
  have hP : va_P D vwCl (cw ad cI cZ cJ n (upd g i x) (upd w i y) (ef_up P i b) gm wm gs wz gb go gp gj wb wl wk wo fa mn mg mw mP o) H := hP
  have hD : va_D (eA ad) (cw ad cI cZ cJ n (upd g i x) (upd w i y) (ef_up P i b) gm wm gs wz gb go gp gj wb wl wk wo fa mn mg mw mP o) := hD
  exact ec_vret hx hb hr hlk hP hS ⟨rfl, rfl⟩ dX2_write_22

set_option maxHeartbeats 4000000 in
set_option maxRecDepth 100000 in
theorem c_X5_forgetEdges (l : Launch) (D : va_G) (cI cZ cJ : ClassId) (ad : Nat → Nat) (hJ : eJ ad) (n : Nat) (g : Nat → Int32) (w : Nat → Int32) (P : Nat → Bool) (gm : Nat → Bool) (wm : Nat → Bool) (gs : Bool) (wz : Bool) (gb : Int32) (go : Bool) (gp : Bool) (gj : Bool) (wb : Int32) (wl : Int32) (wk : Int32) (wo : Bool) (fa : Int32) (mn : Nat) (mg : Nat → Int32) (mw : Nat → Int32) (mP : Nat → Bool) (o : Nat → Int64)   : ec_M l yX5_forgetEdges (Cond.code yX5_forgetEdges cX5_forgetEdges 1 none :: eT) ({ frames := 0, cells := 0, slots := 0, locals := 0 }) D (eTy cI cZ cJ) [.ref (ad 0)] (cw ad cI cZ cJ n g w P gm wm gs wz gb go gp gj wb wl wk wo fa mn mg mw mP o) (ed none (cw ad cI cZ cJ n g w P gm wm true true gb go gp gj wb wl wk wo fa mn mg mw mP o)) (eA ad) := by
  refine ec_of (cc := cX5_forgetEdges) (maxL := 1) (ret := none) (by decide) rfl (Nat.le_of_ble_eq_true rfl) ?_
  intro p e s m args below meth c ls hx hb hr hts hown hlk hml hP hK hN hl
  have hown : s.vm.findClass RX5 = some m.cls := hown
  have hl : lv_has ls 1 [(0, .ref (ad 0))] := hl
  have hS : va_S (eA ad) s.heap s.heap [] := va_S.rf
  have hD : va_D (eA ad) (cw ad cI cZ cJ n g w P gm wm gs wz gb go gp gj wb wl wk wo fa mn mg mw mP o) := eD_of hJ rfl
  refine lv_aload_n hx hb dX5_forgetEdges_0 rfl (lv_at hl 0 rfl) ?_
  refine va_get (D := D) (ci := 4) (v := .ref (ad 2)) (C := RX5) (T := TX5) (N := 3) hx hb hts (fun w h => List.mem_cons_of_mem _ (inX5 w h)) hown hK hP 0 rfl rfl 1 (by decide) (eT_h hts tw109) (fun _ h9 => h9) rfl dX5_forgetEdges_1 ?_
  refine lv_iconst (v := 1) hx hb dX5_forgetEdges_4 (by decide) ?_
  refine ef_eqi (y := ef_b true) (by decide) ?_
  refine va_put (D := D) (ci := 0) (v := .int (ef_b true)) (ty := .boolean) (C := RX0) (T := TX0) (N := 3) hx hb hts (fun w h => List.mem_cons_of_mem _ (inX0 w h)) tyX0 tyX0_ok nmX0 hown hK hP hD hS 2 rfl rfl 1 (by decide) (eT_h hts tw80) (fun _ h9 => h9) rfl (by decide +kernel) (ef_nar _) (ef_fit _) (Nat.le_of_ble_eq_true rfl) dX5_forgetEdges_5 (fun H locs hP hD hS => ?_)
  have hP : va_P D vwCl (cw ad cI cZ cJ n g w P gm wm true wz gb go gp gj wb wl wk wo fa mn mg mw mP o) H := hP
  have hD : va_D (eA ad) (cw ad cI cZ cJ n g w P gm wm true wz gb go gp gj wb wl wk wo fa mn mg mw mP o) := hD
  refine lv_aload_n hx hb dX5_forgetEdges_8 rfl (lv_at hl 0 rfl) ?_
  refine va_get (D := D) (ci := 4) (v := .ref (ad 3)) (C := RX5) (T := TX5) (N := 3) hx hb hts (fun w h => List.mem_cons_of_mem _ (inX5 w h)) hown hK hP 0 rfl rfl 2 (by decide) (eT_h hts tw110) (fun _ h9 => h9) rfl dX5_forgetEdges_9 ?_
  refine lv_iconst (v := 1) hx hb dX5_forgetEdges_12 (by decide) ?_
  refine ef_eqi (y := ef_b true) (by decide) ?_
  refine va_put (D := D) (ci := 0) (v := .int (ef_b true)) (ty := .boolean) (C := RX0) (T := TX0) (N := 3) hx hb hts (fun w h => List.mem_cons_of_mem _ (inX0 w h)) tyX0 tyX0_ok nmX0 hown hK hP hD hS 3 rfl rfl 1 (by decide) (eT_h hts tw80) (fun _ h9 => h9) rfl (by decide +kernel) (ef_nar _) (ef_fit _) (Nat.le_of_ble_eq_true rfl) dX5_forgetEdges_13 (fun H locs hP hD hS => ?_)
  have hP : va_P D vwCl (cw ad cI cZ cJ n g w P gm wm true true gb go gp gj wb wl wk wo fa mn mg mw mP o) H := hP
  have hD : va_D (eA ad) (cw ad cI cZ cJ n g w P gm wm true true gb go gp gj wb wl wk wo fa mn mg mw mP o) := hD
  exact ec_vret hx hb hr hlk hP hS ⟨rfl, rfl⟩ dX5_forgetEdges_16

set_option maxHeartbeats 4000000 in
set_option maxRecDepth 100000 in
theorem c_X1_begin (l : Launch) (D : va_G) (cI cZ cJ : ClassId) (ad : Nat → Nat) (hJ : eJ ad) (n : Nat) (g : Nat → Int32) (w : Nat → Int32) (P : Nat → Bool) (gm : Nat → Bool) (wm : Nat → Bool) (gs : Bool) (wz : Bool) (gb : Int32) (go : Bool) (gp : Bool) (gj : Bool) (wb : Int32) (wl : Int32) (wk : Int32) (wo : Bool) (fa : Int32) (mn : Nat) (mg : Nat → Int32) (mw : Nat → Int32) (mP : Nat → Bool) (o : Nat → Int64)   : ec_M l yX1_begin (Cond.code yX1_begin cX1_begin 1 none :: eT) ({ frames := 0, cells := 0, slots := 0, locals := 0 }) D (eTy cI cZ cJ) [.ref (ad 9)] (cw ad cI cZ cJ n g w P gm wm gs wz gb go gp gj wb wl wk wo fa mn mg mw mP o) (ed none (cw ad cI cZ cJ n g w P gm wm gs wz (-1) false false false wb wl wk wo fa mn mg mw mP o)) (eA ad) := by
  refine ec_of (cc := cX1_begin) (maxL := 1) (ret := none) (by decide) rfl (Nat.le_of_ble_eq_true rfl) ?_
  intro p e s m args below meth c ls hx hb hr hts hown hlk hml hP hK hN hl
  have hown : s.vm.findClass RX1 = some m.cls := hown
  have hl : lv_has ls 1 [(0, .ref (ad 9))] := hl
  have hS : va_S (eA ad) s.heap s.heap [] := va_S.rf
  have hD : va_D (eA ad) (cw ad cI cZ cJ n g w P gm wm gs wz gb go gp gj wb wl wk wo fa mn mg mw mP o) := eD_of hJ rfl
  refine lv_aload_n hx hb dX1_begin_0 rfl (lv_at hl 0 rfl) ?_
  refine lv_iconst (v := (-1)) hx hb dX1_begin_1 (by decide) ?_
  refine va_put (D := D) (ci := 1) (v := .int (-1)) (ty := .int) (C := RX1) (T := TX1) (N := 4) hx hb hts (fun w h => List.mem_cons_of_mem _ (inX1 w h)) tyX1 tyX1_ok nmX1 hown hK hP hD hS 9 rfl rfl 0 (by decide) (eT_h hts tw60) (fun _ h9 => h9) rfl (by decide +kernel) rfl rfl (Nat.le_of_ble_eq_true rfl) dX1_begin_2 (fun H locs hP hD hS => ?_)
  have hP : va_P D vwCl (cw ad cI cZ cJ n g w P gm wm gs wz (-1) go gp gj wb wl wk wo fa mn mg mw mP o) H := hP
  have hD : va_D (eA ad) (cw ad cI cZ cJ n g w P gm wm gs wz (-1) go gp gj wb wl wk wo fa mn mg mw mP o) := hD
  refine lv_aload_n hx hb dX1_begin_5 rfl (lv_at hl 0 rfl) ?_
  refine lv_iconst (v := 0) hx hb dX1_begin_6 (by decide) ?_
  refine ef_eqi (y := ef_b false) (by decide) ?_
  refine va_put (D := D) (ci := 1) (v := .int (ef_b false)) (ty := .boolean) (C := RX1) (T := TX1) (N := 4) hx hb hts (fun w h => List.mem_cons_of_mem _ (inX1 w h)) tyX1 tyX1_ok nmX1 hown hK hP hD hS 9 rfl rfl 1 (by decide) (eT_h hts tw61) (fun _ h9 => h9) rfl (by decide +kernel) (ef_nar _) (ef_fit _) (Nat.le_of_ble_eq_true rfl) dX1_begin_7 (fun H locs hP hD hS => ?_)
  have hP : va_P D vwCl (cw ad cI cZ cJ n g w P gm wm gs wz (-1) false gp gj wb wl wk wo fa mn mg mw mP o) H := hP
  have hD : va_D (eA ad) (cw ad cI cZ cJ n g w P gm wm gs wz (-1) false gp gj wb wl wk wo fa mn mg mw mP o) := hD
  refine lv_aload_n hx hb dX1_begin_10 rfl (lv_at hl 0 rfl) ?_
  refine lv_iconst (v := 0) hx hb dX1_begin_11 (by decide) ?_
  refine ef_eqi (y := ef_b false) (by decide) ?_
  refine va_put (D := D) (ci := 1) (v := .int (ef_b false)) (ty := .boolean) (C := RX1) (T := TX1) (N := 4) hx hb hts (fun w h => List.mem_cons_of_mem _ (inX1 w h)) tyX1 tyX1_ok nmX1 hown hK hP hD hS 9 rfl rfl 2 (by decide) (eT_h hts tw62) (fun _ h9 => h9) rfl (by decide +kernel) (ef_nar _) (ef_fit _) (Nat.le_of_ble_eq_true rfl) dX1_begin_12 (fun H locs hP hD hS => ?_)
  have hP : va_P D vwCl (cw ad cI cZ cJ n g w P gm wm gs wz (-1) false false gj wb wl wk wo fa mn mg mw mP o) H := hP
  have hD : va_D (eA ad) (cw ad cI cZ cJ n g w P gm wm gs wz (-1) false false gj wb wl wk wo fa mn mg mw mP o) := hD
  refine lv_aload_n hx hb dX1_begin_15 rfl (lv_at hl 0 rfl) ?_
  refine lv_iconst (v := 0) hx hb dX1_begin_16 (by decide) ?_
  refine ef_eqi (y := ef_b false) (by decide) ?_
  refine va_put (D := D) (ci := 1) (v := .int (ef_b false)) (ty := .boolean) (C := RX1) (T := TX1) (N := 4) hx hb hts (fun w h => List.mem_cons_of_mem _ (inX1 w h)) tyX1 tyX1_ok nmX1 hown hK hP hD hS 9 rfl rfl 3 (by decide) (eT_h hts tw63) (fun _ h9 => h9) rfl (by decide +kernel) (ef_nar _) (ef_fit _) (Nat.le_of_ble_eq_true rfl) dX1_begin_17 (fun H locs hP hD hS => ?_)
  have hP : va_P D vwCl (cw ad cI cZ cJ n g w P gm wm gs wz (-1) false false false wb wl wk wo fa mn mg mw mP o) H := hP
  have hD : va_D (eA ad) (cw ad cI cZ cJ n g w P gm wm gs wz (-1) false false false wb wl wk wo fa mn mg mw mP o) := hD
  exact ec_vret hx hb hr hlk hP hS ⟨rfl, rfl⟩ dX1_begin_20

set_option maxHeartbeats 4000000 in
set_option maxRecDepth 100000 in
theorem c_X4_begin (l : Launch) (D : va_G) (cI cZ cJ : ClassId) (ad : Nat → Nat) (hJ : eJ ad) (n : Nat) (g : Nat → Int32) (w : Nat → Int32) (P : Nat → Bool) (gm : Nat → Bool) (wm : Nat → Bool) (gs : Bool) (wz : Bool) (gb : Int32) (go : Bool) (gp : Bool) (gj : Bool) (wb : Int32) (wl : Int32) (wk : Int32) (wo : Bool) (fa : Int32) (mn : Nat) (mg : Nat → Int32) (mw : Nat → Int32) (mP : Nat → Bool) (o : Nat → Int64)   : ec_M l yX4_begin (Cond.code yX4_begin cX4_begin 1 none :: eT) ({ frames := 0, cells := 0, slots := 0, locals := 0 }) D (eTy cI cZ cJ) [.ref (ad 10)] (cw ad cI cZ cJ n g w P gm wm gs wz gb go gp gj wb wl wk wo fa mn mg mw mP o) (ed none (cw ad cI cZ cJ n g w P gm wm gs wz gb go gp gj (-1) (-1) (-1) false fa mn mg mw mP o)) (eA ad) := by
  refine ec_of (cc := cX4_begin) (maxL := 1) (ret := none) (by decide) rfl (Nat.le_of_ble_eq_true rfl) ?_
  intro p e s m args below meth c ls hx hb hr hts hown hlk hml hP hK hN hl
  have hown : s.vm.findClass RX4 = some m.cls := hown
  have hl : lv_has ls 1 [(0, .ref (ad 10))] := hl
  have hS : va_S (eA ad) s.heap s.heap [] := va_S.rf
  have hD : va_D (eA ad) (cw ad cI cZ cJ n g w P gm wm gs wz gb go gp gj wb wl wk wo fa mn mg mw mP o) := eD_of hJ rfl
  refine lv_aload_n hx hb dX4_begin_0 rfl (lv_at hl 0 rfl) ?_
  refine lv_iconst (v := (-1)) hx hb dX4_begin_1 (by decide) ?_
  refine va_put (D := D) (ci := 3) (v := .int (-1)) (ty := .int) (C := RX4) (T := TX4) (N := 4) hx hb hts (fun w h => List.mem_cons_of_mem _ (inX4 w h)) tyX4 tyX4_ok nmX4 hown hK hP hD hS 10 rfl rfl 0 (by decide) (eT_h hts tw95) (fun _ h9 => h9) rfl (by decide +kernel) rfl rfl (Nat.le_of_ble_eq_true rfl) dX4_begin_2 (fun H locs hP hD hS => ?_)
  have hP : va_P D vwCl (cw ad cI cZ cJ n g w P gm wm gs wz gb go gp gj (-1) wl wk wo fa mn mg mw mP o) H := hP
  have hD : va_D (eA ad) (cw ad cI cZ cJ n g w P gm wm gs wz gb go gp gj (-1) wl wk wo fa mn mg mw mP o) := hD
  refine lv_aload_n hx hb dX4_begin_5 rfl (lv_at hl 0 rfl) ?_
  refine lv_iconst (v := (-1)) hx hb dX4_begin_6 (by decide) ?_
  refine va_put (D := D) (ci := 3) (v := .int (-1)) (ty := .int) (C := RX4) (T := TX4) (N := 4) hx hb hts (fun w h => List.mem_cons_of_mem _ (inX4 w h)) tyX4 tyX4_ok nmX4 hown hK hP hD hS 10 rfl rfl 1 (by decide) (eT_h hts tw96) (fun _ h9 => h9) rfl (by decide +kernel) rfl rfl (Nat.le_of_ble_eq_true rfl) dX4_begin_7 (fun H locs hP hD hS => ?_)
  have hP : va_P D vwCl (cw ad cI cZ cJ n g w P gm wm gs wz gb go gp gj (-1) (-1) wk wo fa mn mg mw mP o) H := hP
  have hD : va_D (eA ad) (cw ad cI cZ cJ n g w P gm wm gs wz gb go gp gj (-1) (-1) wk wo fa mn mg mw mP o) := hD
  refine lv_aload_n hx hb dX4_begin_10 rfl (lv_at hl 0 rfl) ?_
  refine lv_iconst (v := (-1)) hx hb dX4_begin_11 (by decide) ?_
  refine va_put (D := D) (ci := 3) (v := .int (-1)) (ty := .int) (C := RX4) (T := TX4) (N := 4) hx hb hts (fun w h => List.mem_cons_of_mem _ (inX4 w h)) tyX4 tyX4_ok nmX4 hown hK hP hD hS 10 rfl rfl 2 (by decide) (eT_h hts tw97) (fun _ h9 => h9) rfl (by decide +kernel) rfl rfl (Nat.le_of_ble_eq_true rfl) dX4_begin_12 (fun H locs hP hD hS => ?_)
  have hP : va_P D vwCl (cw ad cI cZ cJ n g w P gm wm gs wz gb go gp gj (-1) (-1) (-1) wo fa mn mg mw mP o) H := hP
  have hD : va_D (eA ad) (cw ad cI cZ cJ n g w P gm wm gs wz gb go gp gj (-1) (-1) (-1) wo fa mn mg mw mP o) := hD
  refine lv_aload_n hx hb dX4_begin_15 rfl (lv_at hl 0 rfl) ?_
  refine lv_iconst (v := 0) hx hb dX4_begin_16 (by decide) ?_
  refine ef_eqi (y := ef_b false) (by decide) ?_
  refine va_put (D := D) (ci := 3) (v := .int (ef_b false)) (ty := .boolean) (C := RX4) (T := TX4) (N := 4) hx hb hts (fun w h => List.mem_cons_of_mem _ (inX4 w h)) tyX4 tyX4_ok nmX4 hown hK hP hD hS 10 rfl rfl 3 (by decide) (eT_h hts tw98) (fun _ h9 => h9) rfl (by decide +kernel) (ef_nar _) (ef_fit _) (Nat.le_of_ble_eq_true rfl) dX4_begin_17 (fun H locs hP hD hS => ?_)
  have hP : va_P D vwCl (cw ad cI cZ cJ n g w P gm wm gs wz gb go gp gj (-1) (-1) (-1) false fa mn mg mw mP o) H := hP
  have hD : va_D (eA ad) (cw ad cI cZ cJ n g w P gm wm gs wz gb go gp gj (-1) (-1) (-1) false fa mn mg mw mP o) := hD
  exact ec_vret hx hb hr hlk hP hS ⟨rfl, rfl⟩ dX4_begin_20

set_option maxHeartbeats 4000000 in
set_option maxRecDepth 100000 in
theorem c_X6_fail (l : Launch) (D : va_G) (cI cZ cJ : ClassId) (ad : Nat → Nat) (hJ : eJ ad) (n : Nat) (g : Nat → Int32) (w : Nat → Int32) (P : Nat → Bool) (gm : Nat → Bool) (wm : Nat → Bool) (gs : Bool) (wz : Bool) (gb : Int32) (go : Bool) (gp : Bool) (gj : Bool) (wb : Int32) (wl : Int32) (wk : Int32) (wo : Bool) (fa : Int32) (mn : Nat) (mg : Nat → Int32) (mw : Nat → Int32) (mP : Nat → Bool) (o : Nat → Int64) (x : Int32)  : ec_M l yX6_fail (Cond.code yX6_fail cX6_fail 2 (some .int) :: eT) ({ frames := 0, cells := 0, slots := 0, locals := 0 }) D (eTy cI cZ cJ) [.ref (ad 11), .int x] (cw ad cI cZ cJ n g w P gm wm gs wz gb go gp gj wb wl wk wo fa mn mg mw mP o) (ed (some (.int 0)) (cw ad cI cZ cJ n g w P gm wm gs wz gb go gp gj wb wl wk wo x mn mg mw mP o)) (eA ad) := by
  refine ec_of (cc := cX6_fail) (maxL := 2) (ret := (some .int)) (by decide) rfl (Nat.le_of_ble_eq_true rfl) ?_
  intro p e s m args below meth c ls hx hb hr hts hown hlk hml hP hK hN hl
  have hown : s.vm.findClass RX6 = some m.cls := hown
  have hl : lv_has ls 2 [(0, .ref (ad 11)), (1, .int x)] := hl
  have hS : va_S (eA ad) s.heap s.heap [] := va_S.rf
  have hD : va_D (eA ad) (cw ad cI cZ cJ n g w P gm wm gs wz gb go gp gj wb wl wk wo fa mn mg mw mP o) := eD_of hJ rfl
  refine lv_aload_n hx hb dX6_fail_0 rfl (lv_at hl 0 rfl) ?_
  refine lv_iload_n hx hb dX6_fail_1 rfl (lv_at hl 1 rfl) ?_
  refine va_put (D := D) (ci := 5) (v := .int x) (ty := .int) (C := RX6) (T := TX6) (N := 5) hx hb hts (fun w h => List.mem_cons_of_mem _ (inX6 w h)) tyX6 tyX6_ok nmX6 hown hK hP hD hS 11 rfl rfl 0 (by decide) (eT_h hts tw367) (fun _ h9 => h9) rfl (by decide +kernel) rfl rfl (Nat.le_of_ble_eq_true rfl) dX6_fail_2 (fun H locs hP hD hS => ?_)
  have hP : va_P D vwCl (cw ad cI cZ cJ n g w P gm wm gs wz gb go gp gj wb wl wk wo x mn mg mw mP o) H := hP
  have hD : va_D (eA ad) (cw ad cI cZ cJ n g w P gm wm gs wz gb go gp gj wb wl wk wo x mn mg mw mP o) := hD
  refine lv_iconst (v := 0) hx hb dX6_fail_5 (by decide) ?_
  exact ec_iret hx hb hr hlk hP hS ⟨rfl, rfl⟩ dX6_fail_6

set_option maxHeartbeats 4000000 in
set_option maxRecDepth 100000 in
theorem c_X1_pass (l : Launch) (D : va_G) (cI cZ cJ : ClassId) (ad : Nat → Nat) (hJ : eJ ad) (n : Nat) (g : Nat → Int32) (w : Nat → Int32) (P : Nat → Bool) (gm : Nat → Bool) (wm : Nat → Bool) (gs : Bool) (wz : Bool) (gb : Int32) (go : Bool) (gp : Bool) (gj : Bool) (wb : Int32) (wl : Int32) (wk : Int32) (wo : Bool) (fa : Int32) (mn : Nat) (mg : Nat → Int32) (mw : Nat → Int32) (mP : Nat → Bool) (o : Nat → Int64) (i : Nat) (hi : i < 1000) : ec_M l yX1_pass (Cond.code yX1_pass cX1_pass 4 none :: eT) ({ frames := 0, cells := 0, slots := 0, locals := 0 }) D (eTy cI cZ cJ) [.ref (ad 9), .ref (ad 1), .int (nI i)] (cw ad cI cZ cJ n g w P gm wm gs wz gb go gp gj wb wl wk wo fa mn mg mw mP o) (ed none (cw ad cI cZ cJ n g w P gm wm gs wz (g i) (g i == 6 && !go) (P i || (gp && g i == 4)) (gp && g i == 5) wb wl wk wo fa mn mg mw mP o)) (eA ad) := by
  refine ec_of (cc := cX1_pass) (maxL := 4) (ret := none) (by decide) rfl (Nat.le_of_ble_eq_true rfl) ?_
  intro p e s m args below meth c ls hx hb hr hts hown hlk hml hP hK hN hl
  have hown : s.vm.findClass RX1 = some m.cls := hown
  have hl : lv_has ls 4 [(0, .ref (ad 9)), (1, .ref (ad 1)), (2, .int (nI i))] := hl
  have L80 : ∀ (ls : Array Slot) (H : Heap) (locs : List Loc), lv_has ls 4 [(3, .int (g i)), (0, .ref (ad 9)), (1, .ref (ad 1)), (2, .int (nI i))] → va_P D vwCl (cw ad cI cZ cJ n g w P gm wm gs wz gb (g i == 6 && !go) (P i || (gp && g i == 4)) (gp && g i == 5) wb wl wk wo fa mn mg mw mP o) H → va_S (eA ad) s.heap H locs → W p l e ({ frames := 0, cells := 0, slots := 0, locals := 0 }) s m args below meth c H locs 0 0 (MQ below (ec_Q D (ed none (cw ad cI cZ cJ n g w P gm wm gs wz (g i) (g i == 6 && !go) (P i || (gp && g i == 4)) (gp && g i == 5) wb wl wk wo fa mn mg mw mP o)) (eA ad)) args s 0 0 (eA ad)) (F0 m 80 ls []) := by
    intro ls H locs hl hP hS
    have hD : va_D (eA ad) (cw ad cI cZ cJ n g w P gm wm gs wz gb (g i == 6 && !go) (P i || (gp && g i == 4)) (gp && g i == 5) wb wl wk wo fa mn mg mw mP o) := eD_of hJ rfl
    refine lv_aload_n hx hb dX1_pass_80 rfl (lv_at hl 1 rfl) ?_
    refine lv_iload_n hx hb dX1_pass_81 rfl (lv_at hl 0 rfl) ?_
    refine va_put (D := D) (ci := 1) (v := .int (g i)) (ty := .int) (C := RX1) (T := TX1) (N := 4) hx hb hts (fun w h => List.mem_cons_of_mem _ (inX1 w h)) tyX1 tyX1_ok nmX1 hown hK hP hD hS 9 rfl rfl 0 (by decide) (eT_h hts tw60) (fun _ h9 => h9) rfl (by decide +kernel) rfl rfl (Nat.le_of_ble_eq_true rfl) dX1_pass_82 (fun H locs hP hD hS => ?_)
    have hP : va_P D vwCl (cw ad cI cZ cJ n g w P gm wm gs wz (g i) (g i == 6 && !go) (P i || (gp && g i == 4)) (gp && g i == 5) wb wl wk wo fa mn mg mw mP o) H := hP
    have hD : va_D (eA ad) (cw ad cI cZ cJ n g w P gm wm gs wz (g i) (g i == 6 && !go) (P i || (gp && g i == 4)) (gp && g i == 5) wb wl wk wo fa mn mg mw mP o) := hD
    exact ec_vret hx hb hr hlk hP hS ⟨rfl, rfl⟩ dX1_pass_85
  have L58 : ∀ (ls : Array Slot) (H : Heap) (locs : List Loc), lv_has ls 4 [(3, .int (g i)), (0, .ref (ad 9)), (1, .ref (ad 1)), (2, .int (nI i))] → va_P D vwCl (cw ad cI cZ cJ n g w P gm wm gs wz gb go (P i || (gp && g i == 4)) (gp && g i == 5) wb wl wk wo fa mn mg mw mP o) H → va_S (eA ad) s.heap H locs → W p l e ({ frames := 0, cells := 0, slots := 0, locals := 0 }) s m args below meth c H locs 0 0 (MQ below (ec_Q D (ed none (cw ad cI cZ cJ n g w P gm wm gs wz (g i) (g i == 6 && !go) (P i || (gp && g i == 4)) (gp && g i == 5) wb wl wk wo fa mn mg mw mP o)) (eA ad)) args s 0 0 (eA ad)) (F0 m 58 ls []) := by
    intro ls H locs hl hP hS
    have hD : va_D (eA ad) (cw ad cI cZ cJ n g w P gm wm gs wz gb go (P i || (gp && g i == 4)) (gp && g i == 5) wb wl wk wo fa mn mg mw mP o) := eD_of hJ rfl
    refine lv_aload_n hx hb dX1_pass_58 rfl (lv_at hl 1 rfl) ?_
    refine lv_iload_n hx hb dX1_pass_59 rfl (lv_at hl 0 rfl) ?_
    refine lv_bipush (v := 6) hx hb dX1_pass_60 (by decide) ?_
    refine lv_icmp_ne (tgt := 76) hx hb dX1_pass_62 (by decide) (fun h1 => ?_) (fun h1 => ?_)
    · skip
      refine lv_iconst (v := 0) hx hb dX1_pass_76 (by decide) ?_
      refine ef_eqi (y := ef_b (g i == 6 && !go)) (by simp [ef_b, h1]) ?_
      refine va_put (D := D) (ci := 1) (v := .int (ef_b (g i == 6 && !go))) (ty := .boolean) (C := RX1) (T := TX1) (N := 4) hx hb hts (fun w h => List.mem_cons_of_mem _ (inX1 w h)) tyX1 tyX1_ok nmX1 hown hK hP hD hS 9 rfl rfl 1 (by decide) (eT_h hts tw61) (fun _ h9 => h9) rfl (by decide +kernel) (ef_nar _) (ef_fit _) (Nat.le_of_ble_eq_true rfl) dX1_pass_77 (fun H locs hP hD hS => ?_)
      have hP : va_P D vwCl (cw ad cI cZ cJ n g w P gm wm gs wz gb (g i == 6 && !go) (P i || (gp && g i == 4)) (gp && g i == 5) wb wl wk wo fa mn mg mw mP o) H := hP
      have hD : va_D (eA ad) (cw ad cI cZ cJ n g w P gm wm gs wz gb (g i == 6 && !go) (P i || (gp && g i == 4)) (gp && g i == 5) wb wl wk wo fa mn mg mw mP o) := hD
      exact L80  ls H locs hl  hP hS
    · skip
      refine lv_aload_n hx hb dX1_pass_65 rfl (lv_at hl 1 rfl) ?_
      refine va_get (D := D) (ci := 1) (v := .int (ef_b go)) (C := RX1) (T := TX1) (N := 4) hx hb hts (fun w h => List.mem_cons_of_mem _ (inX1 w h)) hown hK hP 9 rfl rfl 1 (by decide) (eT_h hts tw61) (fun _ h9 => h9) rfl dX1_pass_66 ?_
      refine ef_if_ne (tgt := 76) hx hb dX1_pass_69 (by decide) (fun h2 => ?_) (fun h2 => ?_)
      · skip
        refine lv_iconst (v := 0) hx hb dX1_pass_76 (by decide) ?_
        refine ef_eqi (y := ef_b (g i == 6 && !go)) (by simp [ef_b, h1, h2]) ?_
        refine va_put (D := D) (ci := 1) (v := .int (ef_b (g i == 6 && !go))) (ty := .boolean) (C := RX1) (T := TX1) (N := 4) hx hb hts (fun w h => List.mem_cons_of_mem _ (inX1 w h)) tyX1 tyX1_ok nmX1 hown hK hP hD hS 9 rfl rfl 1 (by decide) (eT_h hts tw61) (fun _ h9 => h9) rfl (by decide +kernel) (ef_nar _) (ef_fit _) (Nat.le_of_ble_eq_true rfl) dX1_pass_77 (fun H locs hP hD hS => ?_)
        have hP : va_P D vwCl (cw ad cI cZ cJ n g w P gm wm gs wz gb (g i == 6 && !go) (P i || (gp && g i == 4)) (gp && g i == 5) wb wl wk wo fa mn mg mw mP o) H := hP
        have hD : va_D (eA ad) (cw ad cI cZ cJ n g w P gm wm gs wz gb (g i == 6 && !go) (P i || (gp && g i == 4)) (gp && g i == 5) wb wl wk wo fa mn mg mw mP o) := hD
        exact L80  ls H locs hl  hP hS
      · skip
        refine lv_iconst (v := 1) hx hb dX1_pass_72 (by decide) ?_
        refine lv_goto (tgt := 77) hx hb dX1_pass_73 (by decide) ?_
        refine ef_eqi (y := ef_b (g i == 6 && !go)) (by simp [ef_b, h1, h2]) ?_
        refine va_put (D := D) (ci := 1) (v := .int (ef_b (g i == 6 && !go))) (ty := .boolean) (C := RX1) (T := TX1) (N := 4) hx hb hts (fun w h => List.mem_cons_of_mem _ (inX1 w h)) tyX1 tyX1_ok nmX1 hown hK hP hD hS 9 rfl rfl 1 (by decide) (eT_h hts tw61) (fun _ h9 => h9) rfl (by decide +kernel) (ef_nar _) (ef_fit _) (Nat.le_of_ble_eq_true rfl) dX1_pass_77 (fun H locs hP hD hS => ?_)
        have hP : va_P D vwCl (cw ad cI cZ cJ n g w P gm wm gs wz gb (g i == 6 && !go) (P i || (gp && g i == 4)) (gp && g i == 5) wb wl wk wo fa mn mg mw mP o) H := hP
        have hD : va_D (eA ad) (cw ad cI cZ cJ n g w P gm wm gs wz gb (g i == 6 && !go) (P i || (gp && g i == 4)) (gp && g i == 5) wb wl wk wo fa mn mg mw mP o) := hD
        exact L80  ls H locs hl  hP hS
  have L28 : ∀ (ls : Array Slot) (H : Heap) (locs : List Loc), lv_has ls 4 [(3, .int (g i)), (0, .ref (ad 9)), (1, .ref (ad 1)), (2, .int (nI i))] → va_P D vwCl (cw ad cI cZ cJ n g w P gm wm gs wz gb go gp (gp && g i == 5) wb wl wk wo fa mn mg mw mP o) H → va_S (eA ad) s.heap H locs → W p l e ({ frames := 0, cells := 0, slots := 0, locals := 0 }) s m args below meth c H locs 0 0 (MQ below (ec_Q D (ed none (cw ad cI cZ cJ n g w P gm wm gs wz (g i) (g i == 6 && !go) (P i || (gp && g i == 4)) (gp && g i == 5) wb wl wk wo fa mn mg mw mP o)) (eA ad)) args s 0 0 (eA ad)) (F0 m 28 ls []) := by
    intro ls H locs hl hP hS
    have hD : va_D (eA ad) (cw ad cI cZ cJ n g w P gm wm gs wz gb go gp (gp && g i == 5) wb wl wk wo fa mn mg mw mP o) := eD_of hJ rfl
    refine lv_aload_n hx hb dX1_pass_28 rfl (lv_at hl 1 rfl) ?_
    refine lv_aload_n hx hb dX1_pass_29 rfl (lv_at hl 2 rfl) ?_
    refine va_get (D := D) (ci := 2) (v := .ref (ad 6)) (C := RX2) (T := TX2) (N := 4) hx hb hts (fun w h => List.mem_cons_of_mem _ (inX2 w h)) hown hK hP 1 rfl rfl 2 (by decide) (eT_h hts tw33) (fun _ h9 => h9) rfl dX1_pass_30 ?_
    refine lv_iload_n hx hb dX1_pass_33 rfl (lv_at hl 3 rfl) ?_
    refine va_zald hx hb hK hP 6 1 rfl rfl (vp_in_nI (n := i) (by omega) (by decide)) dX1_pass_34 ?_
    refine ef_eqi (y := ef_b (P i)) (by rw [nI_clamp (by omega)]) ?_
    refine ef_if_ne (tgt := 50) hx hb dX1_pass_35 (by decide) (fun h3 => ?_) (fun h3 => ?_)
    · skip
      refine lv_iconst (v := 1) hx hb dX1_pass_50 (by decide) ?_
      refine lv_goto (tgt := 55) hx hb dX1_pass_51 (by decide) ?_
      refine ef_eqi (y := ef_b (P i || (gp && g i == 4))) (by simp [ef_b, h3]) ?_
      refine va_put (D := D) (ci := 1) (v := .int (ef_b (P i || (gp && g i == 4)))) (ty := .boolean) (C := RX1) (T := TX1) (N := 4) hx hb hts (fun w h => List.mem_cons_of_mem _ (inX1 w h)) tyX1 tyX1_ok nmX1 hown hK hP hD hS 9 rfl rfl 2 (by decide) (eT_h hts tw62) (fun _ h9 => h9) rfl (by decide +kernel) (ef_nar _) (ef_fit _) (Nat.le_of_ble_eq_true rfl) dX1_pass_55 (fun H locs hP hD hS => ?_)
      have hP : va_P D vwCl (cw ad cI cZ cJ n g w P gm wm gs wz gb go (P i || (gp && g i == 4)) (gp && g i == 5) wb wl wk wo fa mn mg mw mP o) H := hP
      have hD : va_D (eA ad) (cw ad cI cZ cJ n g w P gm wm gs wz gb go (P i || (gp && g i == 4)) (gp && g i == 5) wb wl wk wo fa mn mg mw mP o) := hD
      exact L58  ls H locs hl  hP hS
    · skip
      refine lv_aload_n hx hb dX1_pass_38 rfl (lv_at hl 1 rfl) ?_
      refine va_get (D := D) (ci := 1) (v := .int (ef_b gp)) (C := RX1) (T := TX1) (N := 4) hx hb hts (fun w h => List.mem_cons_of_mem _ (inX1 w h)) hown hK hP 9 rfl rfl 2 (by decide) (eT_h hts tw62) (fun _ h9 => h9) rfl dX1_pass_39 ?_
      refine ef_if_eq (tgt := 54) hx hb dX1_pass_42 (by decide) (fun h4 => ?_) (fun h4 => ?_)
      · skip
        refine lv_iconst (v := 0) hx hb dX1_pass_54 (by decide) ?_
        refine ef_eqi (y := ef_b (P i || (gp && g i == 4))) (by simp [ef_b, h3, h4]) ?_
        refine va_put (D := D) (ci := 1) (v := .int (ef_b (P i || (gp && g i == 4)))) (ty := .boolean) (C := RX1) (T := TX1) (N := 4) hx hb hts (fun w h => List.mem_cons_of_mem _ (inX1 w h)) tyX1 tyX1_ok nmX1 hown hK hP hD hS 9 rfl rfl 2 (by decide) (eT_h hts tw62) (fun _ h9 => h9) rfl (by decide +kernel) (ef_nar _) (ef_fit _) (Nat.le_of_ble_eq_true rfl) dX1_pass_55 (fun H locs hP hD hS => ?_)
        have hP : va_P D vwCl (cw ad cI cZ cJ n g w P gm wm gs wz gb go (P i || (gp && g i == 4)) (gp && g i == 5) wb wl wk wo fa mn mg mw mP o) H := hP
        have hD : va_D (eA ad) (cw ad cI cZ cJ n g w P gm wm gs wz gb go (P i || (gp && g i == 4)) (gp && g i == 5) wb wl wk wo fa mn mg mw mP o) := hD
        exact L58  ls H locs hl  hP hS
      · skip
        refine lv_iload_n hx hb dX1_pass_45 rfl (lv_at hl 0 rfl) ?_
        refine lv_iconst (v := 4) hx hb dX1_pass_46 (by decide) ?_
        refine lv_icmp_ne (tgt := 54) hx hb dX1_pass_47 (by decide) (fun h5 => ?_) (fun h5 => ?_)
        · skip
          refine lv_iconst (v := 0) hx hb dX1_pass_54 (by decide) ?_
          refine ef_eqi (y := ef_b (P i || (gp && g i == 4))) (by simp [ef_b, h3, h4, h5]) ?_
          refine va_put (D := D) (ci := 1) (v := .int (ef_b (P i || (gp && g i == 4)))) (ty := .boolean) (C := RX1) (T := TX1) (N := 4) hx hb hts (fun w h => List.mem_cons_of_mem _ (inX1 w h)) tyX1 tyX1_ok nmX1 hown hK hP hD hS 9 rfl rfl 2 (by decide) (eT_h hts tw62) (fun _ h9 => h9) rfl (by decide +kernel) (ef_nar _) (ef_fit _) (Nat.le_of_ble_eq_true rfl) dX1_pass_55 (fun H locs hP hD hS => ?_)
          have hP : va_P D vwCl (cw ad cI cZ cJ n g w P gm wm gs wz gb go (P i || (gp && g i == 4)) (gp && g i == 5) wb wl wk wo fa mn mg mw mP o) H := hP
          have hD : va_D (eA ad) (cw ad cI cZ cJ n g w P gm wm gs wz gb go (P i || (gp && g i == 4)) (gp && g i == 5) wb wl wk wo fa mn mg mw mP o) := hD
          exact L58  ls H locs hl  hP hS
        · skip
          refine lv_iconst (v := 1) hx hb dX1_pass_50 (by decide) ?_
          refine lv_goto (tgt := 55) hx hb dX1_pass_51 (by decide) ?_
          refine ef_eqi (y := ef_b (P i || (gp && g i == 4))) (by simp [ef_b, h3, h4, h5]) ?_
          refine va_put (D := D) (ci := 1) (v := .int (ef_b (P i || (gp && g i == 4)))) (ty := .boolean) (C := RX1) (T := TX1) (N := 4) hx hb hts (fun w h => List.mem_cons_of_mem _ (inX1 w h)) tyX1 tyX1_ok nmX1 hown hK hP hD hS 9 rfl rfl 2 (by decide) (eT_h hts tw62) (fun _ h9 => h9) rfl (by decide +kernel) (ef_nar _) (ef_fit _) (Nat.le_of_ble_eq_true rfl) dX1_pass_55 (fun H locs hP hD hS => ?_)
          have hP : va_P D vwCl (cw ad cI cZ cJ n g w P gm wm gs wz gb go (P i || (gp && g i == 4)) (gp && g i == 5) wb wl wk wo fa mn mg mw mP o) H := hP
          have hD : va_D (eA ad) (cw ad cI cZ cJ n g w P gm wm gs wz gb go (P i || (gp && g i == 4)) (gp && g i == 5) wb wl wk wo fa mn mg mw mP o) := hD
          exact L58  ls H locs hl  hP hS
  have hS : va_S (eA ad) s.heap s.heap [] := va_S.rf
  have hD : va_D (eA ad) (cw ad cI cZ cJ n g w P gm wm gs wz gb go gp gj wb wl wk wo fa mn mg mw mP o) := eD_of hJ rfl
  refine lv_aload_n hx hb dX1_pass_0 rfl (lv_at hl 1 rfl) ?_
  refine va_get (D := D) (ci := 2) (v := .ref (ad 4)) (C := RX2) (T := TX2) (N := 4) hx hb hts (fun w h => List.mem_cons_of_mem _ (inX2 w h)) hown hK hP 1 rfl rfl 0 (by decide) (eT_h hts tw28) (fun _ h9 => h9) rfl dX1_pass_1 ?_
  refine lv_iload_n hx hb dX1_pass_4 rfl (lv_at hl 2 rfl) ?_
  refine va_iald hx hb hK hP 4 0 rfl rfl (vp_in_nI (n := i) (by omega) (by decide)) dX1_pass_5 ?_
  refine ef_eqi (y := g i) (by rw [nI_clamp (by omega)]) ?_
  refine lv_istore_n (lv' := [(3, .int (g i)), (0, .ref (ad 9)), (1, .ref (ad 1)), (2, .int (nI i))]) hx hb dX1_pass_6 rfl hl (Nat.le_of_ble_eq_true rfl) rfl (fun ls hl => ?_)
  refine lv_aload_n hx hb dX1_pass_7 rfl (lv_at hl 1 rfl) ?_
  refine lv_aload_n hx hb dX1_pass_8 rfl (lv_at hl 1 rfl) ?_
  refine va_get (D := D) (ci := 1) (v := .int (ef_b gp)) (C := RX1) (T := TX1) (N := 4) hx hb hts (fun w h => List.mem_cons_of_mem _ (inX1 w h)) hown hK hP 9 rfl rfl 2 (by decide) (eT_h hts tw62) (fun _ h9 => h9) rfl dX1_pass_9 ?_
  refine ef_if_eq (tgt := 24) hx hb dX1_pass_12 (by decide) (fun h6 => ?_) (fun h6 => ?_)
  · skip
    refine lv_iconst (v := 0) hx hb dX1_pass_24 (by decide) ?_
    refine ef_eqi (y := ef_b (gp && g i == 5)) (by simp [ef_b, h6]) ?_
    refine va_put (D := D) (ci := 1) (v := .int (ef_b (gp && g i == 5))) (ty := .boolean) (C := RX1) (T := TX1) (N := 4) hx hb hts (fun w h => List.mem_cons_of_mem _ (inX1 w h)) tyX1 tyX1_ok nmX1 hown hK hP hD hS 9 rfl rfl 3 (by decide) (eT_h hts tw63) (fun _ h9 => h9) rfl (by decide +kernel) (ef_nar _) (ef_fit _) (Nat.le_of_ble_eq_true rfl) dX1_pass_25 (fun H locs hP hD hS => ?_)
    have hP : va_P D vwCl (cw ad cI cZ cJ n g w P gm wm gs wz gb go gp (gp && g i == 5) wb wl wk wo fa mn mg mw mP o) H := hP
    have hD : va_D (eA ad) (cw ad cI cZ cJ n g w P gm wm gs wz gb go gp (gp && g i == 5) wb wl wk wo fa mn mg mw mP o) := hD
    exact L28  ls H locs hl  hP hS
  · skip
    refine lv_iload_n hx hb dX1_pass_15 rfl (lv_at hl 0 rfl) ?_
    refine lv_iconst (v := 5) hx hb dX1_pass_16 (by decide) ?_
    refine lv_icmp_ne (tgt := 24) hx hb dX1_pass_17 (by decide) (fun h7 => ?_) (fun h7 => ?_)
    · skip
      refine lv_iconst (v := 0) hx hb dX1_pass_24 (by decide) ?_
      refine ef_eqi (y := ef_b (gp && g i == 5)) (by simp [ef_b, h6, h7]) ?_
      refine va_put (D := D) (ci := 1) (v := .int (ef_b (gp && g i == 5))) (ty := .boolean) (C := RX1) (T := TX1) (N := 4) hx hb hts (fun w h => List.mem_cons_of_mem _ (inX1 w h)) tyX1 tyX1_ok nmX1 hown hK hP hD hS 9 rfl rfl 3 (by decide) (eT_h hts tw63) (fun _ h9 => h9) rfl (by decide +kernel) (ef_nar _) (ef_fit _) (Nat.le_of_ble_eq_true rfl) dX1_pass_25 (fun H locs hP hD hS => ?_)
      have hP : va_P D vwCl (cw ad cI cZ cJ n g w P gm wm gs wz gb go gp (gp && g i == 5) wb wl wk wo fa mn mg mw mP o) H := hP
      have hD : va_D (eA ad) (cw ad cI cZ cJ n g w P gm wm gs wz gb go gp (gp && g i == 5) wb wl wk wo fa mn mg mw mP o) := hD
      exact L28  ls H locs hl  hP hS
    · skip
      refine lv_iconst (v := 1) hx hb dX1_pass_20 (by decide) ?_
      refine lv_goto (tgt := 25) hx hb dX1_pass_21 (by decide) ?_
      refine ef_eqi (y := ef_b (gp && g i == 5)) (by simp [ef_b, h6, h7]) ?_
      refine va_put (D := D) (ci := 1) (v := .int (ef_b (gp && g i == 5))) (ty := .boolean) (C := RX1) (T := TX1) (N := 4) hx hb hts (fun w h => List.mem_cons_of_mem _ (inX1 w h)) tyX1 tyX1_ok nmX1 hown hK hP hD hS 9 rfl rfl 3 (by decide) (eT_h hts tw63) (fun _ h9 => h9) rfl (by decide +kernel) (ef_nar _) (ef_fit _) (Nat.le_of_ble_eq_true rfl) dX1_pass_25 (fun H locs hP hD hS => ?_)
      have hP : va_P D vwCl (cw ad cI cZ cJ n g w P gm wm gs wz gb go gp (gp && g i == 5) wb wl wk wo fa mn mg mw mP o) H := hP
      have hD : va_D (eA ad) (cw ad cI cZ cJ n g w P gm wm gs wz gb go gp (gp && g i == 5) wb wl wk wo fa mn mg mw mP o) := hD
      exact L28  ls H locs hl  hP hS
