theorem ei_ok_n {i n : Nat} (h : i ≤ n) (hn : n ≤ 1000) : ei_ok (nI i) (nI n) := ⟨nI_pos (by omega), nI_le h (by omega)⟩
theorem ei_ok_p {i n : Nat} (h : i < n) (hn : n ≤ 1000) : ei_ok (nI i) (nI n - 1) := by
  have e : nI n - 1 = nI (n - 1) := pk_sub (a := n) (b := 1) (by omega)
  rw [e]
  exact ei_ok_n (by omega) (by omega)

set_option maxHeartbeats 4000000 in
set_option maxRecDepth 100000 in
theorem c_X5_edgesOf_gt (l : Launch) (D : va_G) (cI cZ cJ : ClassId) (ad : Nat → Nat) (hJ : eJ ad) (n : Nat) (g : Nat → Int32) (w : Nat → Int32) (P : Nat → Bool) (gm : Nat → Bool) (wm : Nat → Bool) (wz : Bool) (gb : Int32) (go : Bool) (gp : Bool) (gj : Bool) (wb : Int32) (wl : Int32) (wk : Int32) (wo : Bool) (fa : Int32) (mn : Nat) (mg : Nat → Int32) (mw : Nat → Int32) (mP : Nat → Bool) (o : Nat → Int64) (kd : Int32) (hk : kd = 0) (hn : n ≤ 1000) : ec_M l yX5_edgesOf (Cond.code yX5_edgesOf cX5_edgesOf 3 (some (.object "EdgeFinder$Edges")) :: eT) ({ frames := 3, cells := 0, slots := 0, locals := 66 }) D (eTy cI cZ cJ) [.ref (ad 0), .int kd] (cw ad cI cZ cJ n g w P gm wm true wz gb go gp gj wb wl wk wo fa mn mg mw mP o) (ed (some (.ref (ad 2))) (cw ad cI cZ cJ n g w P (ef_up (ef_fl gm (eg_M g P) n) n (decide (0 < n))) wm false wz (eg_bf g n) (eg_od g n) (eg_ap g P n) (eg_aj g P n) wb wl wk wo fa mn mg mw mP o)) (eA ad) := by
  refine ec_of (cc := cX5_edgesOf) (maxL := 3) (ret := (some (.object "EdgeFinder$Edges"))) (by decide) rfl (Nat.le_of_ble_eq_true rfl) ?_
  intro p e s m args below meth c ls hx hb hr hts hown hlk hml hP hK hN hl
  have hown : s.vm.findClass RX5 = some m.cls := hown
  have hl : lv_has ls 3 [(0, .ref (ad 0)), (1, .int kd)] := hl
  have hS : va_S (eA ad) s.heap s.heap [] := va_S.rf
  have hD : va_D (eA ad) (cw ad cI cZ cJ n g w P gm wm true wz gb go gp gj wb wl wk wo fa mn mg mw mP o) := eD_of hJ rfl
  refine lv_iload_n hx hb dX5_edgesOf_0 rfl (lv_at hl 1 rfl) ?_
  refine lv_if_ne (tgt := 11) hx hb dX5_edgesOf_1 (by decide) (fun h1 => ?_) (fun h1 => ?_)
  · skip
    exact absurd hk h1
  · skip
    refine lv_aload_n hx hb dX5_edgesOf_4 rfl (lv_at hl 0 rfl) ?_
    refine va_get (D := D) (ci := 4) (v := .ref (ad 2)) (C := RX5) (T := TX5) (N := 3) hx hb hts (fun w h => List.mem_cons_of_mem _ (inX5 w h)) hown hK hP 0 rfl rfl 1 (by decide) (eT_h hts tw109) (fun _ h9 => h9) rfl dX5_edgesOf_5 ?_
    refine lv_goto (tgt := 15) hx hb dX5_edgesOf_8 (by decide) ?_
    refine lv_astore_n (lv' := [(2, .ref (ad 2)), (0, .ref (ad 0)), (1, .int kd)]) hx hb dX5_edgesOf_15 rfl hl (Nat.le_of_ble_eq_true rfl) rfl (fun ls hl => ?_)
    refine lv_aload_n hx hb dX5_edgesOf_16 rfl (lv_at hl 0 rfl) ?_
    refine va_get (D := D) (ci := 0) (v := .int (ef_b true)) (C := RX0) (T := TX0) (N := 3) hx hb hts (fun w h => List.mem_cons_of_mem _ (inX0 w h)) hown hK hP 2 rfl rfl 1 (by decide) (eT_h hts tw80) (fun _ h9 => h9) rfl dX5_edgesOf_17 ?_
    refine ef_if_eq (tgt := 31) hx hb dX5_edgesOf_20 (by decide) (fun h2 => ?_) (fun h2 => ?_)
    · skip
      exact Bool.noConfusion h2
    · skip
      refine lv_aload_n hx hb dX5_edgesOf_23 rfl (lv_at hl 0 rfl) ?_
      refine lv_aload_n hx hb dX5_edgesOf_24 rfl (lv_at hl 1 rfl) ?_
      refine va_get (D := D) (ci := 4) (v := .ref (ad 1)) (C := RX5) (T := TX5) (N := 3) hx hb hts (fun w h => List.mem_cons_of_mem _ (inX5 w h)) hown hK hP 0 rfl rfl 0 (by decide) (eT_h hts tw108) (fun _ h9 => h9) rfl dX5_edgesOf_25 ?_
      refine ec_V (own := RX5) (C := RX0) (b := (ad 2)) (rest := []) hx hb hml hown hts hl.1 (c_X0_find_g l D cI cZ cJ ad hJ n g w P gm wm true wz gb go gp gj wb wl wk wo fa mn mg mw mP o hn) tw249 tw3 tw246 tw247 tw248 yd_X0_find rfl rfl ⟨Nat.le_of_ble_eq_true rfl, Nat.le_of_ble_eq_true rfl⟩ hP hK hN hP (q0 := 2) rfl rfl rfl rfl (Nat.le_of_ble_eq_true rfl) ⟨Nat.zero_le _, Nat.zero_le _⟩ hS (fun _ h9 => h9) dX5_edgesOf_28 (fun v9 W9 H locs hF hP hS hz9 hk9 => ?_)
      obtain ⟨rfl, rfl⟩ := hF
      have hD : va_D (eA ad) (cw ad cI cZ cJ n g w P (ef_up (ef_fl gm (eg_M g P) n) n (decide (0 < n))) wm false wz (eg_bf g n) (eg_od g n) (eg_ap g P n) (eg_aj g P n) wb wl wk wo fa mn mg mw mP o) := eD_of hJ rfl
      refine W.eq (g2 := F0 m 31 ls []) rfl ?_
      refine lv_aload_n hx hb dX5_edgesOf_31 rfl (lv_at hl 0 rfl) ?_
      exact ec_aret hx hb hr hlk hP hS ⟨rfl, rfl⟩ dX5_edgesOf_32

set_option maxHeartbeats 4000000 in
set_option maxRecDepth 100000 in
theorem c_X5_edgesOf_gf (l : Launch) (D : va_G) (cI cZ cJ : ClassId) (ad : Nat → Nat) (hJ : eJ ad) (n : Nat) (g : Nat → Int32) (w : Nat → Int32) (P : Nat → Bool) (gm : Nat → Bool) (wm : Nat → Bool) (wz : Bool) (gb : Int32) (go : Bool) (gp : Bool) (gj : Bool) (wb : Int32) (wl : Int32) (wk : Int32) (wo : Bool) (fa : Int32) (mn : Nat) (mg : Nat → Int32) (mw : Nat → Int32) (mP : Nat → Bool) (o : Nat → Int64) (kd : Int32) (hk : kd = 0) (hn : n ≤ 1000) : ec_M l yX5_edgesOf (Cond.code yX5_edgesOf cX5_edgesOf 3 (some (.object "EdgeFinder$Edges")) :: eT) ({ frames := 0, cells := 0, slots := 0, locals := 0 }) D (eTy cI cZ cJ) [.ref (ad 0), .int kd] (cw ad cI cZ cJ n g w P gm wm false wz gb go gp gj wb wl wk wo fa mn mg mw mP o) (ed (some (.ref (ad 2))) (cw ad cI cZ cJ n g w P gm wm false wz gb go gp gj wb wl wk wo fa mn mg mw mP o)) (eA ad) := by
  refine ec_of (cc := cX5_edgesOf) (maxL := 3) (ret := (some (.object "EdgeFinder$Edges"))) (by decide) rfl (Nat.le_of_ble_eq_true rfl) ?_
  intro p e s m args below meth c ls hx hb hr hts hown hlk hml hP hK hN hl
  have hown : s.vm.findClass RX5 = some m.cls := hown
  have hl : lv_has ls 3 [(0, .ref (ad 0)), (1, .int kd)] := hl
  have hS : va_S (eA ad) s.heap s.heap [] := va_S.rf
  have hD : va_D (eA ad) (cw ad cI cZ cJ n g w P gm wm false wz gb go gp gj wb wl wk wo fa mn mg mw mP o) := eD_of hJ rfl
  refine lv_iload_n hx hb dX5_edgesOf_0 rfl (lv_at hl 1 rfl) ?_
  refine lv_if_ne (tgt := 11) hx hb dX5_edgesOf_1 (by decide) (fun h1 => ?_) (fun h1 => ?_)
  · skip
    exact absurd hk h1
  · skip
    refine lv_aload_n hx hb dX5_edgesOf_4 rfl (lv_at hl 0 rfl) ?_
    refine va_get (D := D) (ci := 4) (v := .ref (ad 2)) (C := RX5) (T := TX5) (N := 3) hx hb hts (fun w h => List.mem_cons_of_mem _ (inX5 w h)) hown hK hP 0 rfl rfl 1 (by decide) (eT_h hts tw109) (fun _ h9 => h9) rfl dX5_edgesOf_5 ?_
    refine lv_goto (tgt := 15) hx hb dX5_edgesOf_8 (by decide) ?_
    refine lv_astore_n (lv' := [(2, .ref (ad 2)), (0, .ref (ad 0)), (1, .int kd)]) hx hb dX5_edgesOf_15 rfl hl (Nat.le_of_ble_eq_true rfl) rfl (fun ls hl => ?_)
    refine lv_aload_n hx hb dX5_edgesOf_16 rfl (lv_at hl 0 rfl) ?_
    refine va_get (D := D) (ci := 0) (v := .int (ef_b false)) (C := RX0) (T := TX0) (N := 3) hx hb hts (fun w h => List.mem_cons_of_mem _ (inX0 w h)) hown hK hP 2 rfl rfl 1 (by decide) (eT_h hts tw80) (fun _ h9 => h9) rfl dX5_edgesOf_17 ?_
    refine ef_if_eq (tgt := 31) hx hb dX5_edgesOf_20 (by decide) (fun h2 => ?_) (fun h2 => ?_)
    · skip
      refine lv_aload_n hx hb dX5_edgesOf_31 rfl (lv_at hl 0 rfl) ?_
      exact ec_aret hx hb hr hlk hP hS ⟨rfl, rfl⟩ dX5_edgesOf_32
    · skip
      exact Bool.noConfusion h2

set_option maxHeartbeats 4000000 in
set_option maxRecDepth 100000 in
theorem c_X5_edgesOf_wt (l : Launch) (D : va_G) (cI cZ cJ : ClassId) (ad : Nat → Nat) (hJ : eJ ad) (n : Nat) (g : Nat → Int32) (w : Nat → Int32) (P : Nat → Bool) (gm : Nat → Bool) (wm : Nat → Bool) (gs : Bool) (gb : Int32) (go : Bool) (gp : Bool) (gj : Bool) (wb : Int32) (wl : Int32) (wk : Int32) (wo : Bool) (fa : Int32) (mn : Nat) (mg : Nat → Int32) (mw : Nat → Int32) (mP : Nat → Bool) (o : Nat → Int64) (kd : Int32) (hk : ¬ kd = 0) (hn : n ≤ 1000) : ec_M l yX5_edgesOf (Cond.code yX5_edgesOf cX5_edgesOf 3 (some (.object "EdgeFinder$Edges")) :: eT) ({ frames := 5, cells := 0, slots := 0, locals := 108 }) D (eTy cI cZ cJ) [.ref (ad 0), .int kd] (cw ad cI cZ cJ n g w P gm wm gs true gb go gp gj wb wl wk wo fa mn mg mw mP o) (ed (some (.ref (ad 3))) (cw ad cI cZ cJ n g w P gm (ef_up (ef_fl wm (ew_M w P n) n) n (decide (0 < n))) gs false gb go gp gj (eg_bf w n) (ew_l w n) (ew_k w n) (ew_od w n) fa mn mg mw mP o)) (eA ad) := by
  refine ec_of (cc := cX5_edgesOf) (maxL := 3) (ret := (some (.object "EdgeFinder$Edges"))) (by decide) rfl (Nat.le_of_ble_eq_true rfl) ?_
  intro p e s m args below meth c ls hx hb hr hts hown hlk hml hP hK hN hl
  have hown : s.vm.findClass RX5 = some m.cls := hown
  have hl : lv_has ls 3 [(0, .ref (ad 0)), (1, .int kd)] := hl
  have hS : va_S (eA ad) s.heap s.heap [] := va_S.rf
  have hD : va_D (eA ad) (cw ad cI cZ cJ n g w P gm wm gs true gb go gp gj wb wl wk wo fa mn mg mw mP o) := eD_of hJ rfl
  refine lv_iload_n hx hb dX5_edgesOf_0 rfl (lv_at hl 1 rfl) ?_
  refine lv_if_ne (tgt := 11) hx hb dX5_edgesOf_1 (by decide) (fun h1 => ?_) (fun h1 => ?_)
  · skip
    refine lv_aload_n hx hb dX5_edgesOf_11 rfl (lv_at hl 0 rfl) ?_
    refine va_get (D := D) (ci := 4) (v := .ref (ad 3)) (C := RX5) (T := TX5) (N := 3) hx hb hts (fun w h => List.mem_cons_of_mem _ (inX5 w h)) hown hK hP 0 rfl rfl 2 (by decide) (eT_h hts tw110) (fun _ h9 => h9) rfl dX5_edgesOf_12 ?_
    refine lv_astore_n (lv' := [(2, .ref (ad 3)), (0, .ref (ad 0)), (1, .int kd)]) hx hb dX5_edgesOf_15 rfl hl (Nat.le_of_ble_eq_true rfl) rfl (fun ls hl => ?_)
    refine lv_aload_n hx hb dX5_edgesOf_16 rfl (lv_at hl 0 rfl) ?_
    refine va_get (D := D) (ci := 0) (v := .int (ef_b true)) (C := RX0) (T := TX0) (N := 3) hx hb hts (fun w h => List.mem_cons_of_mem _ (inX0 w h)) hown hK hP 3 rfl rfl 1 (by decide) (eT_h hts tw80) (fun _ h9 => h9) rfl dX5_edgesOf_17 ?_
    refine ef_if_eq (tgt := 31) hx hb dX5_edgesOf_20 (by decide) (fun h2 => ?_) (fun h2 => ?_)
    · skip
      exact Bool.noConfusion h2
    · skip
      refine lv_aload_n hx hb dX5_edgesOf_23 rfl (lv_at hl 0 rfl) ?_
      refine lv_aload_n hx hb dX5_edgesOf_24 rfl (lv_at hl 1 rfl) ?_
      refine va_get (D := D) (ci := 4) (v := .ref (ad 1)) (C := RX5) (T := TX5) (N := 3) hx hb hts (fun w h => List.mem_cons_of_mem _ (inX5 w h)) hown hK hP 0 rfl rfl 0 (by decide) (eT_h hts tw108) (fun _ h9 => h9) rfl dX5_edgesOf_25 ?_
      refine ec_V (own := RX5) (C := RX0) (b := (ad 3)) (rest := []) hx hb hml hown hts hl.1 (c_X0_find_w l D cI cZ cJ ad hJ n g w P gm wm gs true gb go gp gj wb wl wk wo fa mn mg mw mP o hn) tw249 tw3 tw246 tw247 tw248 yd_X0_find rfl rfl ⟨Nat.le_of_ble_eq_true rfl, Nat.le_of_ble_eq_true rfl⟩ hP hK hN hP (q0 := 3) rfl rfl rfl rfl (Nat.le_of_ble_eq_true rfl) ⟨Nat.zero_le _, Nat.zero_le _⟩ hS (fun _ h9 => h9) dX5_edgesOf_28 (fun v9 W9 H locs hF hP hS hz9 hk9 => ?_)
      obtain ⟨rfl, rfl⟩ := hF
      have hD : va_D (eA ad) (cw ad cI cZ cJ n g w P gm (ef_up (ef_fl wm (ew_M w P n) n) n (decide (0 < n))) gs false gb go gp gj (eg_bf w n) (ew_l w n) (ew_k w n) (ew_od w n) fa mn mg mw mP o) := eD_of hJ rfl
      refine W.eq (g2 := F0 m 31 ls []) rfl ?_
      refine lv_aload_n hx hb dX5_edgesOf_31 rfl (lv_at hl 0 rfl) ?_
      exact ec_aret hx hb hr hlk hP hS ⟨rfl, rfl⟩ dX5_edgesOf_32
  · skip
    exact absurd h1 hk

set_option maxHeartbeats 4000000 in
set_option maxRecDepth 100000 in
theorem c_X5_edgesOf_wf (l : Launch) (D : va_G) (cI cZ cJ : ClassId) (ad : Nat → Nat) (hJ : eJ ad) (n : Nat) (g : Nat → Int32) (w : Nat → Int32) (P : Nat → Bool) (gm : Nat → Bool) (wm : Nat → Bool) (gs : Bool) (gb : Int32) (go : Bool) (gp : Bool) (gj : Bool) (wb : Int32) (wl : Int32) (wk : Int32) (wo : Bool) (fa : Int32) (mn : Nat) (mg : Nat → Int32) (mw : Nat → Int32) (mP : Nat → Bool) (o : Nat → Int64) (kd : Int32) (hk : ¬ kd = 0) (hn : n ≤ 1000) : ec_M l yX5_edgesOf (Cond.code yX5_edgesOf cX5_edgesOf 3 (some (.object "EdgeFinder$Edges")) :: eT) ({ frames := 0, cells := 0, slots := 0, locals := 0 }) D (eTy cI cZ cJ) [.ref (ad 0), .int kd] (cw ad cI cZ cJ n g w P gm wm gs false gb go gp gj wb wl wk wo fa mn mg mw mP o) (ed (some (.ref (ad 3))) (cw ad cI cZ cJ n g w P gm wm gs false gb go gp gj wb wl wk wo fa mn mg mw mP o)) (eA ad) := by
  refine ec_of (cc := cX5_edgesOf) (maxL := 3) (ret := (some (.object "EdgeFinder$Edges"))) (by decide) rfl (Nat.le_of_ble_eq_true rfl) ?_
  intro p e s m args below meth c ls hx hb hr hts hown hlk hml hP hK hN hl
  have hown : s.vm.findClass RX5 = some m.cls := hown
  have hl : lv_has ls 3 [(0, .ref (ad 0)), (1, .int kd)] := hl
  have hS : va_S (eA ad) s.heap s.heap [] := va_S.rf
  have hD : va_D (eA ad) (cw ad cI cZ cJ n g w P gm wm gs false gb go gp gj wb wl wk wo fa mn mg mw mP o) := eD_of hJ rfl
  refine lv_iload_n hx hb dX5_edgesOf_0 rfl (lv_at hl 1 rfl) ?_
  refine lv_if_ne (tgt := 11) hx hb dX5_edgesOf_1 (by decide) (fun h1 => ?_) (fun h1 => ?_)
  · skip
    refine lv_aload_n hx hb dX5_edgesOf_11 rfl (lv_at hl 0 rfl) ?_
    refine va_get (D := D) (ci := 4) (v := .ref (ad 3)) (C := RX5) (T := TX5) (N := 3) hx hb hts (fun w h => List.mem_cons_of_mem _ (inX5 w h)) hown hK hP 0 rfl rfl 2 (by decide) (eT_h hts tw110) (fun _ h9 => h9) rfl dX5_edgesOf_12 ?_
    refine lv_astore_n (lv' := [(2, .ref (ad 3)), (0, .ref (ad 0)), (1, .int kd)]) hx hb dX5_edgesOf_15 rfl hl (Nat.le_of_ble_eq_true rfl) rfl (fun ls hl => ?_)
    refine lv_aload_n hx hb dX5_edgesOf_16 rfl (lv_at hl 0 rfl) ?_
    refine va_get (D := D) (ci := 0) (v := .int (ef_b false)) (C := RX0) (T := TX0) (N := 3) hx hb hts (fun w h => List.mem_cons_of_mem _ (inX0 w h)) hown hK hP 3 rfl rfl 1 (by decide) (eT_h hts tw80) (fun _ h9 => h9) rfl dX5_edgesOf_17 ?_
    refine ef_if_eq (tgt := 31) hx hb dX5_edgesOf_20 (by decide) (fun h2 => ?_) (fun h2 => ?_)
    · skip
      refine lv_aload_n hx hb dX5_edgesOf_31 rfl (lv_at hl 0 rfl) ?_
      exact ec_aret hx hb hr hlk hP hS ⟨rfl, rfl⟩ dX5_edgesOf_32
    · skip
      exact Bool.noConfusion h2
  · skip
    exact absurd h1 hk

set_option maxHeartbeats 4000000 in
set_option maxRecDepth 100000 in
theorem c_X5_add (l : Launch) (D : va_G) (cI cZ cJ : ClassId) (ad : Nat → Nat) (hJ : eJ ad) (n : Nat) (g : Nat → Int32) (w : Nat → Int32) (P : Nat → Bool) (gm : Nat → Bool) (wm : Nat → Bool) (gs : Bool) (wz : Bool) (gb : Int32) (go : Bool) (gp : Bool) (gj : Bool) (wb : Int32) (wl : Int32) (wk : Int32) (wo : Bool) (fa : Int32) (mn : Nat) (mg : Nat → Int32) (mw : Nat → Int32) (mP : Nat → Bool) (o : Nat → Int64) (x y : Int32) (b : Bool) (hg : ei_ok x 13) (hw0 : ei_ok y 18) (hn : n < 1000) : ec_M l yX5_add (Cond.code yX5_add cX5_add 4 (some .int) :: eT) ({ frames := 1, cells := 0, slots := 0, locals := 24 }) D (eTy cI cZ cJ) [.ref (ad 0), .int x, .int y, .int (ef_b b)] (cw ad cI cZ cJ n g w P gm wm gs wz gb go gp gj wb wl wk wo fa mn mg mw mP o) (ed (some (.int (nI (n + 1)))) (cw ad cI cZ cJ (n + 1) (upd g n x) (upd w n y) (ef_up P n b) gm wm true true gb go gp gj wb wl wk wo fa mn mg mw mP o)) (eA ad) := by
  refine ec_of (cc := cX5_add) (maxL := 4) (ret := (some .int)) (by decide) rfl (Nat.le_of_ble_eq_true rfl) ?_
  intro p e s m args below meth c ls hx hb hr hts hown hlk hml hP hK hN hl
  have hown : s.vm.findClass RX5 = some m.cls := hown
  have hl : lv_has ls 4 [(0, .ref (ad 0)), (1, .int x), (2, .int y), (3, .int (ef_b b))] := hl
  have hS : va_S (eA ad) s.heap s.heap [] := va_S.rf
  have hD : va_D (eA ad) (cw ad cI cZ cJ n g w P gm wm gs wz gb go gp gj wb wl wk wo fa mn mg mw mP o) := eD_of hJ rfl
  refine lv_iload_n hx hb dX5_add_0 rfl (lv_at hl 1 rfl) ?_
  refine lv_bipush (v := 13) hx hb dX5_add_1 (by decide) ?_
  refine er_Sv (own := RX5) (rest := []) hx hb hml hown hts hl.1 (k_X5_requireUpTo l D cI cZ cJ x 13 hg) tw129 tw1 tw127 tw128 yd_X5_requireUpTo rfl rfl ⟨Nat.le_of_ble_eq_true rfl, Nat.le_of_ble_eq_true rfl⟩ er_nil hK rfl rfl (Nat.le_of_ble_eq_true rfl) ⟨Nat.zero_le _, Nat.zero_le _⟩ dX5_add_3 ?_
  refine lv_iload_n hx hb dX5_add_6 rfl (lv_at hl 2 rfl) ?_
  refine lv_bipush (v := 18) hx hb dX5_add_7 (by decide) ?_
  refine er_Sv (own := RX5) (rest := []) hx hb hml hown hts hl.1 (k_X5_requireUpTo l D cI cZ cJ y 18 hw0) tw129 tw1 tw127 tw128 yd_X5_requireUpTo rfl rfl ⟨Nat.le_of_ble_eq_true rfl, Nat.le_of_ble_eq_true rfl⟩ er_nil hK rfl rfl (Nat.le_of_ble_eq_true rfl) ⟨Nat.zero_le _, Nat.zero_le _⟩ dX5_add_9 ?_
  refine lv_aload_n hx hb dX5_add_12 rfl (lv_at hl 0 rfl) ?_
  refine va_get (D := D) (ci := 4) (v := .ref (ad 1)) (C := RX5) (T := TX5) (N := 3) hx hb hts (fun w h => List.mem_cons_of_mem _ (inX5 w h)) hown hK hP 0 rfl rfl 0 (by decide) (eT_h hts tw108) (fun _ h9 => h9) rfl dX5_add_13 ?_
  refine va_get (D := D) (ci := 2) (v := .int (nI n)) (C := RX2) (T := TX2) (N := 4) hx hb hts (fun w h => List.mem_cons_of_mem _ (inX2 w h)) hown hK hP 1 rfl rfl 3 (by decide) (eT_h hts tw36) (fun _ h9 => h9) rfl dX5_add_16 ?_
  refine lv_sipush (v := 1000) hx hb dX5_add_19 (by decide) ?_
  refine lv_icmp_lt (tgt := 35) hx hb dX5_add_22 (by decide) (fun h1 => ?_) (fun h1 => ?_)
  · skip
    have h1 : n < 1000 := (nI_ltI (a := n) (b := 1000) (by omega) (by omega)).mp h1
    refine lv_aload_n hx hb dX5_add_35 rfl (lv_at hl 0 rfl) ?_
    refine va_get (D := D) (ci := 4) (v := .ref (ad 1)) (C := RX5) (T := TX5) (N := 3) hx hb hts (fun w h => List.mem_cons_of_mem _ (inX5 w h)) hown hK hP 0 rfl rfl 0 (by decide) (eT_h hts tw108) (fun _ h9 => h9) rfl dX5_add_36 ?_
    refine lv_dup hx hb dX5_add_39 rfl ?_
    refine va_get (D := D) (ci := 2) (v := .int (nI n)) (C := RX2) (T := TX2) (N := 4) hx hb hts (fun w h => List.mem_cons_of_mem _ (inX2 w h)) hown hK hP 1 rfl rfl 3 (by decide) (eT_h hts tw36) (fun _ h9 => h9) rfl dX5_add_40 ?_
    refine lv_iconst (v := 1) hx hb dX5_add_43 (by decide) ?_
    refine lv_iadd hx hb dX5_add_44 ?_
    refine ef_eqi (y := nI (n + 1)) (nI_add n 1) ?_
    refine va_put (D := D) (ci := 2) (v := .int (nI (n + 1))) (ty := .int) (C := RX2) (T := TX2) (N := 4) hx hb hts (fun w h => List.mem_cons_of_mem _ (inX2 w h)) tyX2 tyX2_ok nmX2 hown hK hP hD hS 1 rfl rfl 3 (by decide) (eT_h hts tw36) (fun _ h9 => h9) rfl (by decide +kernel) rfl rfl (Nat.le_of_ble_eq_true rfl) dX5_add_45 (fun H locs hP hD hS => ?_)
    have hP : va_P D vwCl (cw ad cI cZ cJ (n + 1) g w P gm wm gs wz gb go gp gj wb wl wk wo fa mn mg mw mP o) H := hP
    have hD : va_D (eA ad) (cw ad cI cZ cJ (n + 1) g w P gm wm gs wz gb go gp gj wb wl wk wo fa mn mg mw mP o) := hD
    refine lv_aload_n hx hb dX5_add_48 rfl (lv_at hl 0 rfl) ?_
    refine va_get (D := D) (ci := 4) (v := .ref (ad 1)) (C := RX5) (T := TX5) (N := 3) hx hb hts (fun w h => List.mem_cons_of_mem _ (inX5 w h)) hown hK hP 0 rfl rfl 0 (by decide) (eT_h hts tw108) (fun _ h9 => h9) rfl dX5_add_49 ?_
    refine lv_aload_n hx hb dX5_add_52 rfl (lv_at hl 0 rfl) ?_
    refine va_get (D := D) (ci := 4) (v := .ref (ad 1)) (C := RX5) (T := TX5) (N := 3) hx hb hts (fun w h => List.mem_cons_of_mem _ (inX5 w h)) hown hK hP 0 rfl rfl 0 (by decide) (eT_h hts tw108) (fun _ h9 => h9) rfl dX5_add_53 ?_
    refine va_get (D := D) (ci := 2) (v := .int (nI (n + 1))) (C := RX2) (T := TX2) (N := 4) hx hb hts (fun w h => List.mem_cons_of_mem _ (inX2 w h)) hown hK hP 1 rfl rfl 3 (by decide) (eT_h hts tw36) (fun _ h9 => h9) rfl dX5_add_56 ?_
    refine lv_iconst (v := 1) hx hb dX5_add_59 (by decide) ?_
    refine lv_isub hx hb dX5_add_60 ?_
    refine ef_eqi (y := nI n) (nI_pred n) ?_
    refine lv_iload_n hx hb dX5_add_61 rfl (lv_at hl 1 rfl) ?_
    refine lv_iload_n hx hb dX5_add_62 rfl (lv_at hl 2 rfl) ?_
    refine lv_iload_n hx hb dX5_add_63 rfl (lv_at hl 3 rfl) ?_
    refine ec_V (own := RX5) (C := RX2) (b := (ad 1)) (rest := []) hx hb hml hown hts hl.1 (c_X2_write l D cI cZ cJ ad hJ (n + 1) g w P gm wm gs wz gb go gp gj wb wl wk wo fa mn mg mw mP o n x y b (by omega)) tw216 tw2 tw213 tw214 tw215 yd_X2_write rfl rfl ⟨Nat.le_of_ble_eq_true rfl, Nat.le_of_ble_eq_true rfl⟩ hP hK hN hP (q0 := 1) rfl rfl rfl rfl (Nat.le_of_ble_eq_true rfl) ⟨Nat.zero_le _, Nat.zero_le _⟩ hS (fun _ h9 => h9) dX5_add_64 (fun v9 W9 H locs hF hP hS hz9 hk9 => ?_)
    obtain ⟨rfl, rfl⟩ := hF
    have hD : va_D (eA ad) (cw ad cI cZ cJ (n + 1) (upd g n x) (upd w n y) (ef_up P n b) gm wm gs wz gb go gp gj wb wl wk wo fa mn mg mw mP o) := eD_of hJ rfl
    refine W.eq (g2 := F0 m 67 ls []) rfl ?_
    refine lv_aload_n hx hb dX5_add_67 rfl (lv_at hl 0 rfl) ?_
    refine ec_V (own := RX5) (C := RX5) (b := (ad 0)) (rest := []) hx hb hml hown hts hl.1 (c_X5_forgetEdges l D cI cZ cJ ad hJ (n + 1) (upd g n x) (upd w n y) (ef_up P n b) gm wm gs wz gb go gp gj wb wl wk wo fa mn mg mw mP o) tw220 tw1 tw217 tw219 ts_X5_forgetEdges yd_X5_forgetEdges rfl rfl ⟨Nat.le_of_ble_eq_true rfl, Nat.le_of_ble_eq_true rfl⟩ hP hK hN hP (q0 := 0) rfl rfl rfl rfl (Nat.le_of_ble_eq_true rfl) ⟨Nat.zero_le _, Nat.zero_le _⟩ hS (fun _ h9 => h9) dX5_add_68 (fun v9 W9 H locs hF hP hS hz9 hk9 => ?_)
    obtain ⟨rfl, rfl⟩ := hF
    have hD : va_D (eA ad) (cw ad cI cZ cJ (n + 1) (upd g n x) (upd w n y) (ef_up P n b) gm wm true true gb go gp gj wb wl wk wo fa mn mg mw mP o) := eD_of hJ rfl
    refine W.eq (g2 := F0 m 71 ls []) rfl ?_
    refine lv_aload_n hx hb dX5_add_71 rfl (lv_at hl 0 rfl) ?_
    refine va_get (D := D) (ci := 4) (v := .ref (ad 1)) (C := RX5) (T := TX5) (N := 3) hx hb hts (fun w h => List.mem_cons_of_mem _ (inX5 w h)) hown hK hP 0 rfl rfl 0 (by decide) (eT_h hts tw108) (fun _ h9 => h9) rfl dX5_add_72 ?_
    refine va_get (D := D) (ci := 2) (v := .int (nI (n + 1))) (C := RX2) (T := TX2) (N := 4) hx hb hts (fun w h => List.mem_cons_of_mem _ (inX2 w h)) hown hK hP 1 rfl rfl 3 (by decide) (eT_h hts tw36) (fun _ h9 => h9) rfl dX5_add_75 ?_
    exact ec_iret hx hb hr hlk hP hS ⟨rfl, rfl⟩ dX5_add_78
  · skip
    exact absurd (nI_lt (a := n) (b := 1000) hn (by decide)) h1

set_option maxHeartbeats 4000000 in
set_option maxRecDepth 100000 in
theorem c_X5_set (l : Launch) (D : va_G) (cI cZ cJ : ClassId) (ad : Nat → Nat) (hJ : eJ ad) (n : Nat) (g : Nat → Int32) (w : Nat → Int32) (P : Nat → Bool) (gm : Nat → Bool) (wm : Nat → Bool) (gs : Bool) (wz : Bool) (gb : Int32) (go : Bool) (gp : Bool) (gj : Bool) (wb : Int32) (wl : Int32) (wk : Int32) (wo : Bool) (fa : Int32) (mn : Nat) (mg : Nat → Int32) (mw : Nat → Int32) (mP : Nat → Bool) (o : Nat → Int64) (i : Nat) (x y : Int32) (b : Bool) (hn : n ≤ 1000) (hi : i < n) (hg : ei_ok x 13) (hw0 : ei_ok y 18) : ec_M l yX5_set (Cond.code yX5_set cX5_set 5 none :: eT) ({ frames := 1, cells := 0, slots := 0, locals := 24 }) D (eTy cI cZ cJ) [.ref (ad 0), .int (nI i), .int x, .int y, .int (ef_b b)] (cw ad cI cZ cJ n g w P gm wm gs wz gb go gp gj wb wl wk wo fa mn mg mw mP o) (ed none (cw ad cI cZ cJ n (upd g i x) (upd w i y) (ef_up P i b) gm wm true true gb go gp gj wb wl wk wo fa mn mg mw mP o)) (eA ad) := by
  refine ec_of (cc := cX5_set) (maxL := 5) (ret := none) (by decide) rfl (Nat.le_of_ble_eq_true rfl) ?_
  intro p e s m args below meth c ls hx hb hr hts hown hlk hml hP hK hN hl
  have hown : s.vm.findClass RX5 = some m.cls := hown
  have hl : lv_has ls 5 [(0, .ref (ad 0)), (1, .int (nI i)), (2, .int x), (3, .int y), (4, .int (ef_b b))] := hl
  have hS : va_S (eA ad) s.heap s.heap [] := va_S.rf
  have hD : va_D (eA ad) (cw ad cI cZ cJ n g w P gm wm gs wz gb go gp gj wb wl wk wo fa mn mg mw mP o) := eD_of hJ rfl
  refine lv_iload_n hx hb dX5_set_0 rfl (lv_at hl 1 rfl) ?_
  refine lv_aload_n hx hb dX5_set_1 rfl (lv_at hl 0 rfl) ?_
  refine va_get (D := D) (ci := 4) (v := .ref (ad 1)) (C := RX5) (T := TX5) (N := 3) hx hb hts (fun w h => List.mem_cons_of_mem _ (inX5 w h)) hown hK hP 0 rfl rfl 0 (by decide) (eT_h hts tw108) (fun _ h9 => h9) rfl dX5_set_2 ?_
  refine va_get (D := D) (ci := 2) (v := .int (nI n)) (C := RX2) (T := TX2) (N := 4) hx hb hts (fun w h => List.mem_cons_of_mem _ (inX2 w h)) hown hK hP 1 rfl rfl 3 (by decide) (eT_h hts tw36) (fun _ h9 => h9) rfl dX5_set_5 ?_
  refine lv_iconst (v := 1) hx hb dX5_set_8 (by decide) ?_
  refine lv_isub hx hb dX5_set_9 ?_
  refine er_Sv (own := RX5) (rest := []) hx hb hml hown hts hl.1 (k_X5_requireUpTo l D cI cZ cJ (nI i) ((nI n) - 1) (ei_ok_p hi hn)) tw129 tw1 tw127 tw128 yd_X5_requireUpTo rfl rfl ⟨Nat.le_of_ble_eq_true rfl, Nat.le_of_ble_eq_true rfl⟩ er_nil hK rfl rfl (Nat.le_of_ble_eq_true rfl) ⟨Nat.zero_le _, Nat.zero_le _⟩ dX5_set_10 ?_
  refine lv_iload_n hx hb dX5_set_13 rfl (lv_at hl 2 rfl) ?_
  refine lv_bipush (v := 13) hx hb dX5_set_14 (by decide) ?_
  refine er_Sv (own := RX5) (rest := []) hx hb hml hown hts hl.1 (k_X5_requireUpTo l D cI cZ cJ x 13 hg) tw129 tw1 tw127 tw128 yd_X5_requireUpTo rfl rfl ⟨Nat.le_of_ble_eq_true rfl, Nat.le_of_ble_eq_true rfl⟩ er_nil hK rfl rfl (Nat.le_of_ble_eq_true rfl) ⟨Nat.zero_le _, Nat.zero_le _⟩ dX5_set_16 ?_
  refine lv_iload_n hx hb dX5_set_19 rfl (lv_at hl 3 rfl) ?_
  refine lv_bipush (v := 18) hx hb dX5_set_20 (by decide) ?_
  refine er_Sv (own := RX5) (rest := []) hx hb hml hown hts hl.1 (k_X5_requireUpTo l D cI cZ cJ y 18 hw0) tw129 tw1 tw127 tw128 yd_X5_requireUpTo rfl rfl ⟨Nat.le_of_ble_eq_true rfl, Nat.le_of_ble_eq_true rfl⟩ er_nil hK rfl rfl (Nat.le_of_ble_eq_true rfl) ⟨Nat.zero_le _, Nat.zero_le _⟩ dX5_set_22 ?_
  refine lv_aload_n hx hb dX5_set_25 rfl (lv_at hl 0 rfl) ?_
  refine va_get (D := D) (ci := 4) (v := .ref (ad 1)) (C := RX5) (T := TX5) (N := 3) hx hb hts (fun w h => List.mem_cons_of_mem _ (inX5 w h)) hown hK hP 0 rfl rfl 0 (by decide) (eT_h hts tw108) (fun _ h9 => h9) rfl dX5_set_26 ?_
  refine lv_iload_n hx hb dX5_set_29 rfl (lv_at hl 1 rfl) ?_
  refine lv_iload_n hx hb dX5_set_30 rfl (lv_at hl 2 rfl) ?_
  refine lv_iload_n hx hb dX5_set_31 rfl (lv_at hl 3 rfl) ?_
  refine lv_iload hx hb dX5_set_32 (lv_at hl 4 rfl) ?_
  refine ec_V (own := RX5) (C := RX2) (b := (ad 1)) (rest := []) hx hb hml hown hts hl.1 (c_X2_write l D cI cZ cJ ad hJ n g w P gm wm gs wz gb go gp gj wb wl wk wo fa mn mg mw mP o i x y b (by omega)) tw216 tw2 tw213 tw214 tw215 yd_X2_write rfl rfl ⟨Nat.le_of_ble_eq_true rfl, Nat.le_of_ble_eq_true rfl⟩ hP hK hN hP (q0 := 1) rfl rfl rfl rfl (Nat.le_of_ble_eq_true rfl) ⟨Nat.zero_le _, Nat.zero_le _⟩ hS (fun _ h9 => h9) dX5_set_34 (fun v9 W9 H locs hF hP hS hz9 hk9 => ?_)
  obtain ⟨rfl, rfl⟩ := hF
  have hD : va_D (eA ad) (cw ad cI cZ cJ n (upd g i x) (upd w i y) (ef_up P i b) gm wm gs wz gb go gp gj wb wl wk wo fa mn mg mw mP o) := eD_of hJ rfl
  refine W.eq (g2 := F0 m 37 ls []) rfl ?_
  refine lv_aload_n hx hb dX5_set_37 rfl (lv_at hl 0 rfl) ?_
  refine ec_V (own := RX5) (C := RX5) (b := (ad 0)) (rest := []) hx hb hml hown hts hl.1 (c_X5_forgetEdges l D cI cZ cJ ad hJ n (upd g i x) (upd w i y) (ef_up P i b) gm wm gs wz gb go gp gj wb wl wk wo fa mn mg mw mP o) tw220 tw1 tw217 tw219 ts_X5_forgetEdges yd_X5_forgetEdges rfl rfl ⟨Nat.le_of_ble_eq_true rfl, Nat.le_of_ble_eq_true rfl⟩ hP hK hN hP (q0 := 0) rfl rfl rfl rfl (Nat.le_of_ble_eq_true rfl) ⟨Nat.zero_le _, Nat.zero_le _⟩ hS (fun _ h9 => h9) dX5_set_38 (fun v9 W9 H locs hF hP hS hz9 hk9 => ?_)
  obtain ⟨rfl, rfl⟩ := hF
  have hD : va_D (eA ad) (cw ad cI cZ cJ n (upd g i x) (upd w i y) (ef_up P i b) gm wm true true gb go gp gj wb wl wk wo fa mn mg mw mP o) := eD_of hJ rfl
  refine W.eq (g2 := F0 m 41 ls []) rfl ?_
  exact ec_vret hx hb hr hlk hP hS ⟨rfl, rfl⟩ dX5_set_41

set_option maxHeartbeats 4000000 in
set_option maxRecDepth 100000 in
theorem c_X5_cut (l : Launch) (D : va_G) (cI cZ cJ : ClassId) (ad : Nat → Nat) (hJ : eJ ad) (n : Nat) (g : Nat → Int32) (w : Nat → Int32) (P : Nat → Bool) (gm : Nat → Bool) (wm : Nat → Bool) (gs : Bool) (wz : Bool) (gb : Int32) (go : Bool) (gp : Bool) (gj : Bool) (wb : Int32) (wl : Int32) (wk : Int32) (wo : Bool) (fa : Int32) (mn : Nat) (mg : Nat → Int32) (mw : Nat → Int32) (mP : Nat → Bool) (o : Nat → Int64) (k : Nat) (hn : n ≤ 1000) (hi : k ≤ n) : ec_M l yX5_cut (Cond.code yX5_cut cX5_cut 3 (some .int) :: eT) ({ frames := 1, cells := 0, slots := 0, locals := 21 }) D (eTy cI cZ cJ) [.ref (ad 0), .int (nI k)] (cw ad cI cZ cJ n g w P gm wm gs wz gb go gp gj wb wl wk wo fa mn mg mw mP o) (ed (some (.int (nI n))) (cw ad cI cZ cJ k g w P gm wm true true gb go gp gj wb wl wk wo fa mn mg mw mP o)) (eA ad) := by
  refine ec_of (cc := cX5_cut) (maxL := 3) (ret := (some .int)) (by decide) rfl (Nat.le_of_ble_eq_true rfl) ?_
  intro p e s m args below meth c ls hx hb hr hts hown hlk hml hP hK hN hl
  have hown : s.vm.findClass RX5 = some m.cls := hown
  have hl : lv_has ls 3 [(0, .ref (ad 0)), (1, .int (nI k))] := hl
  have hS : va_S (eA ad) s.heap s.heap [] := va_S.rf
  have hD : va_D (eA ad) (cw ad cI cZ cJ n g w P gm wm gs wz gb go gp gj wb wl wk wo fa mn mg mw mP o) := eD_of hJ rfl
  refine lv_iload_n hx hb dX5_cut_0 rfl (lv_at hl 1 rfl) ?_
  refine lv_aload_n hx hb dX5_cut_1 rfl (lv_at hl 0 rfl) ?_
  refine va_get (D := D) (ci := 4) (v := .ref (ad 1)) (C := RX5) (T := TX5) (N := 3) hx hb hts (fun w h => List.mem_cons_of_mem _ (inX5 w h)) hown hK hP 0 rfl rfl 0 (by decide) (eT_h hts tw108) (fun _ h9 => h9) rfl dX5_cut_2 ?_
  refine va_get (D := D) (ci := 2) (v := .int (nI n)) (C := RX2) (T := TX2) (N := 4) hx hb hts (fun w h => List.mem_cons_of_mem _ (inX2 w h)) hown hK hP 1 rfl rfl 3 (by decide) (eT_h hts tw36) (fun _ h9 => h9) rfl dX5_cut_5 ?_
  refine er_Sv (own := RX5) (rest := []) hx hb hml hown hts hl.1 (k_X5_requireUpTo l D cI cZ cJ (nI k) (nI n) (ei_ok_n hi hn)) tw129 tw1 tw127 tw128 yd_X5_requireUpTo rfl rfl ⟨Nat.le_of_ble_eq_true rfl, Nat.le_of_ble_eq_true rfl⟩ er_nil hK rfl rfl (Nat.le_of_ble_eq_true rfl) ⟨Nat.zero_le _, Nat.zero_le _⟩ dX5_cut_8 ?_
  refine lv_aload_n hx hb dX5_cut_11 rfl (lv_at hl 0 rfl) ?_
  refine va_get (D := D) (ci := 4) (v := .ref (ad 1)) (C := RX5) (T := TX5) (N := 3) hx hb hts (fun w h => List.mem_cons_of_mem _ (inX5 w h)) hown hK hP 0 rfl rfl 0 (by decide) (eT_h hts tw108) (fun _ h9 => h9) rfl dX5_cut_12 ?_
  refine va_get (D := D) (ci := 2) (v := .int (nI n)) (C := RX2) (T := TX2) (N := 4) hx hb hts (fun w h => List.mem_cons_of_mem _ (inX2 w h)) hown hK hP 1 rfl rfl 3 (by decide) (eT_h hts tw36) (fun _ h9 => h9) rfl dX5_cut_15 ?_
  refine lv_istore_n (lv' := [(2, .int (nI n)), (0, .ref (ad 0)), (1, .int (nI k))]) hx hb dX5_cut_18 rfl hl (Nat.le_of_ble_eq_true rfl) rfl (fun ls hl => ?_)
  refine lv_aload_n hx hb dX5_cut_19 rfl (lv_at hl 1 rfl) ?_
  refine va_get (D := D) (ci := 4) (v := .ref (ad 1)) (C := RX5) (T := TX5) (N := 3) hx hb hts (fun w h => List.mem_cons_of_mem _ (inX5 w h)) hown hK hP 0 rfl rfl 0 (by decide) (eT_h hts tw108) (fun _ h9 => h9) rfl dX5_cut_20 ?_
  refine lv_iload_n hx hb dX5_cut_23 rfl (lv_at hl 2 rfl) ?_
  refine va_put (D := D) (ci := 2) (v := .int (nI k)) (ty := .int) (C := RX2) (T := TX2) (N := 4) hx hb hts (fun w h => List.mem_cons_of_mem _ (inX2 w h)) tyX2 tyX2_ok nmX2 hown hK hP hD hS 1 rfl rfl 3 (by decide) (eT_h hts tw36) (fun _ h9 => h9) rfl (by decide +kernel) rfl rfl (Nat.le_of_ble_eq_true rfl) dX5_cut_24 (fun H locs hP hD hS => ?_)
  have hP : va_P D vwCl (cw ad cI cZ cJ k g w P gm wm gs wz gb go gp gj wb wl wk wo fa mn mg mw mP o) H := hP
  have hD : va_D (eA ad) (cw ad cI cZ cJ k g w P gm wm gs wz gb go gp gj wb wl wk wo fa mn mg mw mP o) := hD
  refine lv_aload_n hx hb dX5_cut_27 rfl (lv_at hl 1 rfl) ?_
  refine ec_V (own := RX5) (C := RX5) (b := (ad 0)) (rest := []) hx hb hml hown hts hl.1 (c_X5_forgetEdges l D cI cZ cJ ad hJ k g w P gm wm gs wz gb go gp gj wb wl wk wo fa mn mg mw mP o) tw220 tw1 tw217 tw219 ts_X5_forgetEdges yd_X5_forgetEdges rfl rfl ⟨Nat.le_of_ble_eq_true rfl, Nat.le_of_ble_eq_true rfl⟩ hP hK hN hP (q0 := 0) rfl rfl rfl rfl (Nat.le_of_ble_eq_true rfl) ⟨Nat.zero_le _, Nat.zero_le _⟩ hS (fun _ h9 => h9) dX5_cut_28 (fun v9 W9 H locs hF hP hS hz9 hk9 => ?_)
  obtain ⟨rfl, rfl⟩ := hF
  have hD : va_D (eA ad) (cw ad cI cZ cJ k g w P gm wm true true gb go gp gj wb wl wk wo fa mn mg mw mP o) := eD_of hJ rfl
  refine W.eq (g2 := F0 m 31 ls []) rfl ?_
  refine lv_iload_n hx hb dX5_cut_31 rfl (lv_at hl 0 rfl) ?_
  exact ec_iret hx hb hr hlk hP hS ⟨rfl, rfl⟩ dX5_cut_32

set_option maxHeartbeats 4000000 in
set_option maxRecDepth 100000 in
theorem c_X5_edge_gt (l : Launch) (D : va_G) (cI cZ cJ : ClassId) (ad : Nat → Nat) (hJ : eJ ad) (n : Nat) (g : Nat → Int32) (w : Nat → Int32) (P : Nat → Bool) (gm : Nat → Bool) (wm : Nat → Bool) (wz : Bool) (gb : Int32) (go : Bool) (gp : Bool) (gj : Bool) (wb : Int32) (wl : Int32) (wk : Int32) (wo : Bool) (fa : Int32) (mn : Nat) (mg : Nat → Int32) (mw : Nat → Int32) (mP : Nat → Bool) (o : Nat → Int64) (kd : Int32) (i : Nat) (hk1 : ei_ok kd 1) (hk : kd = 0) (hn : n ≤ 1000) (hi : i ≤ n) : ec_M l yX5_edge (Cond.code yX5_edge cX5_edge 3 (some .boolean) :: eT) ({ frames := 4, cells := 0, slots := 0, locals := 88 }) D (eTy cI cZ cJ) [.ref (ad 0), .int kd, .int (nI i)] (cw ad cI cZ cJ n g w P gm wm true wz gb go gp gj wb wl wk wo fa mn mg mw mP o) (ed (some (.int (ef_b (eb_g g P n i)))) (cw ad cI cZ cJ n g w P (ef_up (ef_fl gm (eg_M g P) n) n (decide (0 < n))) wm false wz (eg_bf g n) (eg_od g n) (eg_ap g P n) (eg_aj g P n) wb wl wk wo fa mn mg mw mP o)) (eA ad) := by
  refine ec_of (cc := cX5_edge) (maxL := 3) (ret := (some .boolean)) (by decide) rfl (Nat.le_of_ble_eq_true rfl) ?_
  intro p e s m args below meth c ls hx hb hr hts hown hlk hml hP hK hN hl
  have hown : s.vm.findClass RX5 = some m.cls := hown
  have hl : lv_has ls 3 [(0, .ref (ad 0)), (1, .int kd), (2, .int (nI i))] := hl
  have hS : va_S (eA ad) s.heap s.heap [] := va_S.rf
  have hD : va_D (eA ad) (cw ad cI cZ cJ n g w P gm wm true wz gb go gp gj wb wl wk wo fa mn mg mw mP o) := eD_of hJ rfl
  refine lv_iload_n hx hb dX5_edge_0 rfl (lv_at hl 1 rfl) ?_
  refine lv_iconst (v := 1) hx hb dX5_edge_1 (by decide) ?_
  refine er_Sv (own := RX5) (rest := []) hx hb hml hown hts hl.1 (k_X5_requireUpTo l D cI cZ cJ kd 1 hk1) tw129 tw1 tw127 tw128 yd_X5_requireUpTo rfl rfl ⟨Nat.le_of_ble_eq_true rfl, Nat.le_of_ble_eq_true rfl⟩ er_nil hK rfl rfl (Nat.le_of_ble_eq_true rfl) ⟨Nat.zero_le _, Nat.zero_le _⟩ dX5_edge_2 ?_
  refine lv_iload_n hx hb dX5_edge_5 rfl (lv_at hl 2 rfl) ?_
  refine lv_aload_n hx hb dX5_edge_6 rfl (lv_at hl 0 rfl) ?_
  refine va_get (D := D) (ci := 4) (v := .ref (ad 1)) (C := RX5) (T := TX5) (N := 3) hx hb hts (fun w h => List.mem_cons_of_mem _ (inX5 w h)) hown hK hP 0 rfl rfl 0 (by decide) (eT_h hts tw108) (fun _ h9 => h9) rfl dX5_edge_7 ?_
  refine va_get (D := D) (ci := 2) (v := .int (nI n)) (C := RX2) (T := TX2) (N := 4) hx hb hts (fun w h => List.mem_cons_of_mem _ (inX2 w h)) hown hK hP 1 rfl rfl 3 (by decide) (eT_h hts tw36) (fun _ h9 => h9) rfl dX5_edge_10 ?_
  refine er_Sv (own := RX5) (rest := []) hx hb hml hown hts hl.1 (k_X5_requireUpTo l D cI cZ cJ (nI i) (nI n) (ei_ok_n hi hn)) tw129 tw1 tw127 tw128 yd_X5_requireUpTo rfl rfl ⟨Nat.le_of_ble_eq_true rfl, Nat.le_of_ble_eq_true rfl⟩ er_nil hK rfl rfl (Nat.le_of_ble_eq_true rfl) ⟨Nat.zero_le _, Nat.zero_le _⟩ dX5_edge_13 ?_
  refine lv_aload_n hx hb dX5_edge_16 rfl (lv_at hl 0 rfl) ?_
  refine lv_iload_n hx hb dX5_edge_17 rfl (lv_at hl 1 rfl) ?_
  refine ec_V (own := RX5) (C := RX5) (b := (ad 0)) (rest := []) hx hb hml hown hts hl.1 (c_X5_edgesOf_gt l D cI cZ cJ ad hJ n g w P gm wm wz gb go gp gj wb wl wk wo fa mn mg mw mP o kd hk hn) tw245 tw1 tw242 tw244 ts_X5_edgesOf yd_X5_edgesOf rfl rfl ⟨Nat.le_of_ble_eq_true rfl, Nat.le_of_ble_eq_true rfl⟩ hP hK hN hP (q0 := 0) rfl rfl rfl rfl (Nat.le_of_ble_eq_true rfl) ⟨Nat.zero_le _, Nat.zero_le _⟩ hS (fun _ h9 => h9) dX5_edge_18 (fun v9 W9 H locs hF hP hS hz9 hk9 => ?_)
  obtain ⟨rfl, rfl⟩ := hF
  have hD : va_D (eA ad) (cw ad cI cZ cJ n g w P (ef_up (ef_fl gm (eg_M g P) n) n (decide (0 < n))) wm false wz (eg_bf g n) (eg_od g n) (eg_ap g P n) (eg_aj g P n) wb wl wk wo fa mn mg mw mP o) := eD_of hJ rfl
  refine W.eq (g2 := F0 m 21 ls [.ref (ad 2)]) rfl ?_
  refine va_get (D := D) (ci := 0) (v := .ref (ad 7)) (C := RX0) (T := TX0) (N := 3) hx hb hts (fun w h => List.mem_cons_of_mem _ (inX0 w h)) hown hK hP 2 rfl rfl 0 (by decide) (eT_h hts tw78) (fun _ h9 => h9) rfl dX5_edge_21 ?_
  refine lv_iload_n hx hb dX5_edge_24 rfl (lv_at hl 2 rfl) ?_
  refine va_zald hx hb hK hP 7 1 rfl rfl (vp_in_nI (n := i) (by omega) (by decide)) dX5_edge_25 ?_
  refine ef_eqi (y := ef_b ((ef_up (ef_fl gm (eg_M g P) n) n (decide (0 < n))) i)) (by rw [nI_clamp (by omega)]) ?_
  refine ef_eqi (y := ef_b (eb_g g P n i)) (by rw [(eg_fin gm g P n) i hi]) ?_
  exact ec_zret hx hb hr hlk hP hS ⟨rfl, rfl⟩ dX5_edge_26

set_option maxHeartbeats 4000000 in
set_option maxRecDepth 100000 in
theorem c_X5_rank_gt (l : Launch) (D : va_G) (cI cZ cJ : ClassId) (ad : Nat → Nat) (hJ : eJ ad) (n : Nat) (g : Nat → Int32) (w : Nat → Int32) (P : Nat → Bool) (gm : Nat → Bool) (wm : Nat → Bool) (wz : Bool) (gb : Int32) (go : Bool) (gp : Bool) (gj : Bool) (wb : Int32) (wl : Int32) (wk : Int32) (wo : Bool) (fa : Int32) (mn : Nat) (mg : Nat → Int32) (mw : Nat → Int32) (mP : Nat → Bool) (o : Nat → Int64) (kd : Int32) (i : Nat) (hk1 : ei_ok kd 1) (hk : kd = 0) (hn : n ≤ 1000) (hi : i ≤ n) : ec_M l yX5_rank (Cond.code yX5_rank cX5_rank 3 (some .int) :: eT) ({ frames := 4, cells := 0, slots := 0, locals := 88 }) D (eTy cI cZ cJ) [.ref (ad 0), .int kd, .int (nI i)] (cw ad cI cZ cJ n g w P gm wm true wz gb go gp gj wb wl wk wo fa mn mg mw mP o) (ed (some (.int (nI (es_cu (eb_g g P n) (i + 1))))) (cw ad cI cZ cJ n g w P (ef_up (ef_fl gm (eg_M g P) n) n (decide (0 < n))) wm false wz (eg_bf g n) (eg_od g n) (eg_ap g P n) (eg_aj g P n) wb wl wk wo fa mn mg mw mP o)) (eA ad) := by
  refine ec_of (cc := cX5_rank) (maxL := 3) (ret := (some .int)) (by decide) rfl (Nat.le_of_ble_eq_true rfl) ?_
  intro p e s m args below meth c ls hx hb hr hts hown hlk hml hP hK hN hl
  have hown : s.vm.findClass RX5 = some m.cls := hown
  have hl : lv_has ls 3 [(0, .ref (ad 0)), (1, .int kd), (2, .int (nI i))] := hl
  have hS : va_S (eA ad) s.heap s.heap [] := va_S.rf
  have hD : va_D (eA ad) (cw ad cI cZ cJ n g w P gm wm true wz gb go gp gj wb wl wk wo fa mn mg mw mP o) := eD_of hJ rfl
  refine lv_iload_n hx hb dX5_rank_0 rfl (lv_at hl 1 rfl) ?_
  refine lv_iconst (v := 1) hx hb dX5_rank_1 (by decide) ?_
  refine er_Sv (own := RX5) (rest := []) hx hb hml hown hts hl.1 (k_X5_requireUpTo l D cI cZ cJ kd 1 hk1) tw129 tw1 tw127 tw128 yd_X5_requireUpTo rfl rfl ⟨Nat.le_of_ble_eq_true rfl, Nat.le_of_ble_eq_true rfl⟩ er_nil hK rfl rfl (Nat.le_of_ble_eq_true rfl) ⟨Nat.zero_le _, Nat.zero_le _⟩ dX5_rank_2 ?_
  refine lv_iload_n hx hb dX5_rank_5 rfl (lv_at hl 2 rfl) ?_
  refine lv_aload_n hx hb dX5_rank_6 rfl (lv_at hl 0 rfl) ?_
  refine va_get (D := D) (ci := 4) (v := .ref (ad 1)) (C := RX5) (T := TX5) (N := 3) hx hb hts (fun w h => List.mem_cons_of_mem _ (inX5 w h)) hown hK hP 0 rfl rfl 0 (by decide) (eT_h hts tw108) (fun _ h9 => h9) rfl dX5_rank_7 ?_
  refine va_get (D := D) (ci := 2) (v := .int (nI n)) (C := RX2) (T := TX2) (N := 4) hx hb hts (fun w h => List.mem_cons_of_mem _ (inX2 w h)) hown hK hP 1 rfl rfl 3 (by decide) (eT_h hts tw36) (fun _ h9 => h9) rfl dX5_rank_10 ?_
  refine er_Sv (own := RX5) (rest := []) hx hb hml hown hts hl.1 (k_X5_requireUpTo l D cI cZ cJ (nI i) (nI n) (ei_ok_n hi hn)) tw129 tw1 tw127 tw128 yd_X5_requireUpTo rfl rfl ⟨Nat.le_of_ble_eq_true rfl, Nat.le_of_ble_eq_true rfl⟩ er_nil hK rfl rfl (Nat.le_of_ble_eq_true rfl) ⟨Nat.zero_le _, Nat.zero_le _⟩ dX5_rank_13 ?_
  refine lv_aload_n hx hb dX5_rank_16 rfl (lv_at hl 0 rfl) ?_
  refine lv_iload_n hx hb dX5_rank_17 rfl (lv_at hl 1 rfl) ?_
  refine ec_V (own := RX5) (C := RX5) (b := (ad 0)) (rest := []) hx hb hml hown hts hl.1 (c_X5_edgesOf_gt l D cI cZ cJ ad hJ n g w P gm wm wz gb go gp gj wb wl wk wo fa mn mg mw mP o kd hk hn) tw245 tw1 tw242 tw244 ts_X5_edgesOf yd_X5_edgesOf rfl rfl ⟨Nat.le_of_ble_eq_true rfl, Nat.le_of_ble_eq_true rfl⟩ hP hK hN hP (q0 := 0) rfl rfl rfl rfl (Nat.le_of_ble_eq_true rfl) ⟨Nat.zero_le _, Nat.zero_le _⟩ hS (fun _ h9 => h9) dX5_rank_18 (fun v9 W9 H locs hF hP hS hz9 hk9 => ?_)
  obtain ⟨rfl, rfl⟩ := hF
  have hD : va_D (eA ad) (cw ad cI cZ cJ n g w P (ef_up (ef_fl gm (eg_M g P) n) n (decide (0 < n))) wm false wz (eg_bf g n) (eg_od g n) (eg_ap g P n) (eg_aj g P n) wb wl wk wo fa mn mg mw mP o) := eD_of hJ rfl
  refine W.eq (g2 := F0 m 21 ls [.ref (ad 2)]) rfl ?_
  refine lv_iload_n hx hb dX5_rank_21 rfl (lv_at hl 2 rfl) ?_
  refine er_V (own := RX5) (C := RX0) (b := (ad 2)) (rest := []) hx hb hml hown hts hl.1 (k_X0_countUpTo l D cI cZ cJ (ad 2) (ad 7) (ad 9) false (ef_up (ef_fl gm (eg_M g P) n) n (decide (0 < n))) i (by omega)) tw349 tw3 tw346 tw347 tw348 yd_X0_countUpTo rfl rfl ⟨Nat.le_of_ble_eq_true rfl, Nat.le_of_ble_eq_true rfl⟩ (hP.sub [2, 7] rfl) hK hP (q0 := 2) rfl rfl rfl rfl (Nat.le_of_ble_eq_true rfl) ⟨Nat.zero_le _, Nat.zero_le _⟩ dX5_rank_22 ?_
  refine ef_eqi (y := nI (es_cu (eb_g g P n) (i + 1))) (by rw [es_cu_c (eg_fin gm g P n) _ (by omega)]) ?_
  exact ec_iret hx hb hr hlk hP hS ⟨rfl, rfl⟩ dX5_rank_25

set_option maxHeartbeats 4000000 in
set_option maxRecDepth 100000 in
theorem c_X5_hash_gt (l : Launch) (D : va_G) (cI cZ cJ : ClassId) (ad : Nat → Nat) (hJ : eJ ad) (n : Nat) (g : Nat → Int32) (w : Nat → Int32) (P : Nat → Bool) (gm : Nat → Bool) (wm : Nat → Bool) (wz : Bool) (gb : Int32) (go : Bool) (gp : Bool) (gj : Bool) (wb : Int32) (wl : Int32) (wk : Int32) (wo : Bool) (fa : Int32) (mn : Nat) (mg : Nat → Int32) (mw : Nat → Int32) (mP : Nat → Bool) (o : Nat → Int64) (kd : Int32) (hk1 : ei_ok kd 1) (hk : kd = 0) (hn : n ≤ 1000) : ec_M l yX5_hash (Cond.code yX5_hash cX5_hash 2 (some .int) :: eT) ({ frames := 4, cells := 0, slots := 0, locals := 88 }) D (eTy cI cZ cJ) [.ref (ad 0), .int kd] (cw ad cI cZ cJ n g w P gm wm true wz gb go gp gj wb wl wk wo fa mn mg mw mP o) (ed (some (.int (es_mx (eb_g g P n) (n + 1)))) (cw ad cI cZ cJ n g w P (ef_up (ef_fl gm (eg_M g P) n) n (decide (0 < n))) wm false wz (eg_bf g n) (eg_od g n) (eg_ap g P n) (eg_aj g P n) wb wl wk wo fa mn mg mw mP o)) (eA ad) := by
  refine ec_of (cc := cX5_hash) (maxL := 2) (ret := (some .int)) (by decide) rfl (Nat.le_of_ble_eq_true rfl) ?_
  intro p e s m args below meth c ls hx hb hr hts hown hlk hml hP hK hN hl
  have hown : s.vm.findClass RX5 = some m.cls := hown
  have hl : lv_has ls 2 [(0, .ref (ad 0)), (1, .int kd)] := hl
  have hS : va_S (eA ad) s.heap s.heap [] := va_S.rf
  have hD : va_D (eA ad) (cw ad cI cZ cJ n g w P gm wm true wz gb go gp gj wb wl wk wo fa mn mg mw mP o) := eD_of hJ rfl
  refine lv_iload_n hx hb dX5_hash_0 rfl (lv_at hl 1 rfl) ?_
  refine lv_iconst (v := 1) hx hb dX5_hash_1 (by decide) ?_
  refine er_Sv (own := RX5) (rest := []) hx hb hml hown hts hl.1 (k_X5_requireUpTo l D cI cZ cJ kd 1 hk1) tw129 tw1 tw127 tw128 yd_X5_requireUpTo rfl rfl ⟨Nat.le_of_ble_eq_true rfl, Nat.le_of_ble_eq_true rfl⟩ er_nil hK rfl rfl (Nat.le_of_ble_eq_true rfl) ⟨Nat.zero_le _, Nat.zero_le _⟩ dX5_hash_2 ?_
  refine lv_aload_n hx hb dX5_hash_5 rfl (lv_at hl 0 rfl) ?_
  refine lv_iload_n hx hb dX5_hash_6 rfl (lv_at hl 1 rfl) ?_
  refine ec_V (own := RX5) (C := RX5) (b := (ad 0)) (rest := []) hx hb hml hown hts hl.1 (c_X5_edgesOf_gt l D cI cZ cJ ad hJ n g w P gm wm wz gb go gp gj wb wl wk wo fa mn mg mw mP o kd hk hn) tw245 tw1 tw242 tw244 ts_X5_edgesOf yd_X5_edgesOf rfl rfl ⟨Nat.le_of_ble_eq_true rfl, Nat.le_of_ble_eq_true rfl⟩ hP hK hN hP (q0 := 0) rfl rfl rfl rfl (Nat.le_of_ble_eq_true rfl) ⟨Nat.zero_le _, Nat.zero_le _⟩ hS (fun _ h9 => h9) dX5_hash_7 (fun v9 W9 H locs hF hP hS hz9 hk9 => ?_)
  obtain ⟨rfl, rfl⟩ := hF
  have hD : va_D (eA ad) (cw ad cI cZ cJ n g w P (ef_up (ef_fl gm (eg_M g P) n) n (decide (0 < n))) wm false wz (eg_bf g n) (eg_od g n) (eg_ap g P n) (eg_aj g P n) wb wl wk wo fa mn mg mw mP o) := eD_of hJ rfl
  refine W.eq (g2 := F0 m 10 ls [.ref (ad 2)]) rfl ?_
  refine lv_aload_n hx hb dX5_hash_10 rfl (lv_at hl 0 rfl) ?_
  refine va_get (D := D) (ci := 4) (v := .ref (ad 1)) (C := RX5) (T := TX5) (N := 3) hx hb hts (fun w h => List.mem_cons_of_mem _ (inX5 w h)) hown hK hP 0 rfl rfl 0 (by decide) (eT_h hts tw108) (fun _ h9 => h9) rfl dX5_hash_11 ?_
  refine va_get (D := D) (ci := 2) (v := .int (nI n)) (C := RX2) (T := TX2) (N := 4) hx hb hts (fun w h => List.mem_cons_of_mem _ (inX2 w h)) hown hK hP 1 rfl rfl 3 (by decide) (eT_h hts tw36) (fun _ h9 => h9) rfl dX5_hash_14 ?_
  refine er_V (own := RX5) (C := RX0) (b := (ad 2)) (rest := []) hx hb hml hown hts hl.1 (k_X0_mixUpTo l D cI cZ cJ (ad 2) (ad 7) (ad 9) false (ef_up (ef_fl gm (eg_M g P) n) n (decide (0 < n))) n hn) tw360 tw3 tw357 tw358 tw359 yd_X0_mixUpTo rfl rfl ⟨Nat.le_of_ble_eq_true rfl, Nat.le_of_ble_eq_true rfl⟩ (hP.sub [2, 7] rfl) hK hP (q0 := 2) rfl rfl rfl rfl (Nat.le_of_ble_eq_true rfl) ⟨Nat.zero_le _, Nat.zero_le _⟩ dX5_hash_17 ?_
  refine ef_eqi (y := es_mx (eb_g g P n) (n + 1)) (by rw [es_mx_c (eg_fin gm g P n) _ (by omega)]) ?_
  exact ec_iret hx hb hr hlk hP hS ⟨rfl, rfl⟩ dX5_hash_20

set_option maxHeartbeats 4000000 in
set_option maxRecDepth 100000 in
theorem c_X5_next_gtt (l : Launch) (D : va_G) (cI cZ cJ : ClassId) (ad : Nat → Nat) (hJ : eJ ad) (n : Nat) (g : Nat → Int32) (w : Nat → Int32) (P : Nat → Bool) (gm : Nat → Bool) (wm : Nat → Bool) (wz : Bool) (gb : Int32) (go : Bool) (gp : Bool) (gj : Bool) (wb : Int32) (wl : Int32) (wk : Int32) (wo : Bool) (fa : Int32) (mn : Nat) (mg : Nat → Int32) (mw : Nat → Int32) (mP : Nat → Bool) (o : Nat → Int64) (kd : Int32) (i : Nat) (hk1 : ei_ok kd 1) (hk : kd = 0) (hn : n ≤ 1000) (hi : i ≤ n) : ec_M l yX5_next (Cond.code yX5_next cX5_next 5 (some .int) :: eT) ({ frames := 4, cells := 0, slots := 0, locals := 88 }) D (eTy cI cZ cJ) [.ref (ad 0), .int kd, .int (nI i), .int (ef_b true)] (cw ad cI cZ cJ n g w P gm wm true wz gb go gp gj wb wl wk wo fa mn mg mw mP o) (ed (some (.int (es_lb (eb_g g P n) i))) (cw ad cI cZ cJ n g w P (ef_up (ef_fl gm (eg_M g P) n) n (decide (0 < n))) wm false wz (eg_bf g n) (eg_od g n) (eg_ap g P n) (eg_aj g P n) wb wl wk wo fa mn mg mw mP o)) (eA ad) := by
  refine ec_of (cc := cX5_next) (maxL := 5) (ret := (some .int)) (by decide) rfl (Nat.le_of_ble_eq_true rfl) ?_
  intro p e s m args below meth c ls hx hb hr hts hown hlk hml hP hK hN hl
  have hown : s.vm.findClass RX5 = some m.cls := hown
  have hl : lv_has ls 5 [(0, .ref (ad 0)), (1, .int kd), (2, .int (nI i)), (3, .int (ef_b true))] := hl
  have hS : va_S (eA ad) s.heap s.heap [] := va_S.rf
  have hD : va_D (eA ad) (cw ad cI cZ cJ n g w P gm wm true wz gb go gp gj wb wl wk wo fa mn mg mw mP o) := eD_of hJ rfl
  refine lv_iload_n hx hb dX5_next_0 rfl (lv_at hl 1 rfl) ?_
  refine lv_iconst (v := 1) hx hb dX5_next_1 (by decide) ?_
  refine er_Sv (own := RX5) (rest := []) hx hb hml hown hts hl.1 (k_X5_requireUpTo l D cI cZ cJ kd 1 hk1) tw129 tw1 tw127 tw128 yd_X5_requireUpTo rfl rfl ⟨Nat.le_of_ble_eq_true rfl, Nat.le_of_ble_eq_true rfl⟩ er_nil hK rfl rfl (Nat.le_of_ble_eq_true rfl) ⟨Nat.zero_le _, Nat.zero_le _⟩ dX5_next_2 ?_
  refine lv_iload_n hx hb dX5_next_5 rfl (lv_at hl 2 rfl) ?_
  refine lv_aload_n hx hb dX5_next_6 rfl (lv_at hl 0 rfl) ?_
  refine va_get (D := D) (ci := 4) (v := .ref (ad 1)) (C := RX5) (T := TX5) (N := 3) hx hb hts (fun w h => List.mem_cons_of_mem _ (inX5 w h)) hown hK hP 0 rfl rfl 0 (by decide) (eT_h hts tw108) (fun _ h9 => h9) rfl dX5_next_7 ?_
  refine va_get (D := D) (ci := 2) (v := .int (nI n)) (C := RX2) (T := TX2) (N := 4) hx hb hts (fun w h => List.mem_cons_of_mem _ (inX2 w h)) hown hK hP 1 rfl rfl 3 (by decide) (eT_h hts tw36) (fun _ h9 => h9) rfl dX5_next_10 ?_
  refine er_Sv (own := RX5) (rest := []) hx hb hml hown hts hl.1 (k_X5_requireUpTo l D cI cZ cJ (nI i) (nI n) (ei_ok_n hi hn)) tw129 tw1 tw127 tw128 yd_X5_requireUpTo rfl rfl ⟨Nat.le_of_ble_eq_true rfl, Nat.le_of_ble_eq_true rfl⟩ er_nil hK rfl rfl (Nat.le_of_ble_eq_true rfl) ⟨Nat.zero_le _, Nat.zero_le _⟩ dX5_next_13 ?_
  refine lv_aload_n hx hb dX5_next_16 rfl (lv_at hl 0 rfl) ?_
  refine lv_iload_n hx hb dX5_next_17 rfl (lv_at hl 1 rfl) ?_
  refine ec_V (own := RX5) (C := RX5) (b := (ad 0)) (rest := []) hx hb hml hown hts hl.1 (c_X5_edgesOf_gt l D cI cZ cJ ad hJ n g w P gm wm wz gb go gp gj wb wl wk wo fa mn mg mw mP o kd hk hn) tw245 tw1 tw242 tw244 ts_X5_edgesOf yd_X5_edgesOf rfl rfl ⟨Nat.le_of_ble_eq_true rfl, Nat.le_of_ble_eq_true rfl⟩ hP hK hN hP (q0 := 0) rfl rfl rfl rfl (Nat.le_of_ble_eq_true rfl) ⟨Nat.zero_le _, Nat.zero_le _⟩ hS (fun _ h9 => h9) dX5_next_18 (fun v9 W9 H locs hF hP hS hz9 hk9 => ?_)
  obtain ⟨rfl, rfl⟩ := hF
  have hD : va_D (eA ad) (cw ad cI cZ cJ n g w P (ef_up (ef_fl gm (eg_M g P) n) n (decide (0 < n))) wm false wz (eg_bf g n) (eg_od g n) (eg_ap g P n) (eg_aj g P n) wb wl wk wo fa mn mg mw mP o) := eD_of hJ rfl
  refine W.eq (g2 := F0 m 21 ls [.ref (ad 2)]) rfl ?_
  refine lv_astore (lv' := [(4, .ref (ad 2)), (0, .ref (ad 0)), (1, .int kd), (2, .int (nI i)), (3, .int (ef_b true))]) hx hb dX5_next_21 hl (Nat.le_of_ble_eq_true rfl) rfl (fun ls hl => ?_)
  refine lv_iload_n hx hb dX5_next_23 rfl (lv_at hl 4 rfl) ?_
  refine ef_if_eq (tgt := 36) hx hb dX5_next_24 (by decide) (fun h1 => ?_) (fun h1 => ?_)
  · skip
    exact Bool.noConfusion h1
  · skip
    refine lv_aload hx hb dX5_next_27 (lv_at hl 0 rfl) ?_
    refine lv_iload_n hx hb dX5_next_29 rfl (lv_at hl 3 rfl) ?_
    refine er_V (own := RX5) (C := RX0) (b := (ad 2)) (rest := []) hx hb hml hown hts hl.1 (k_X0_lastBefore l D cI cZ cJ (ad 2) (ad 7) (ad 9) false (ef_up (ef_fl gm (eg_M g P) n) n (decide (0 < n))) i (by omega)) tw334 tw3 tw331 tw332 tw333 yd_X0_lastBefore rfl rfl ⟨Nat.le_of_ble_eq_true rfl, Nat.le_of_ble_eq_true rfl⟩ (hP.sub [2, 7] rfl) hK hP (q0 := 2) rfl rfl rfl rfl (Nat.le_of_ble_eq_true rfl) ⟨Nat.zero_le _, Nat.zero_le _⟩ dX5_next_30 ?_
    refine lv_goto (tgt := 49) hx hb dX5_next_33 (by decide) ?_
    refine ef_eqi (y := es_lb (eb_g g P n) i) (by rw [es_lb_c (eg_fin gm g P n) _ (by omega)]) ?_
    exact ec_iret hx hb hr hlk hP hS ⟨rfl, rfl⟩ dX5_next_49

set_option maxHeartbeats 4000000 in
set_option maxRecDepth 100000 in
theorem c_X5_next_gtf (l : Launch) (D : va_G) (cI cZ cJ : ClassId) (ad : Nat → Nat) (hJ : eJ ad) (n : Nat) (g : Nat → Int32) (w : Nat → Int32) (P : Nat → Bool) (gm : Nat → Bool) (wm : Nat → Bool) (wz : Bool) (gb : Int32) (go : Bool) (gp : Bool) (gj : Bool) (wb : Int32) (wl : Int32) (wk : Int32) (wo : Bool) (fa : Int32) (mn : Nat) (mg : Nat → Int32) (mw : Nat → Int32) (mP : Nat → Bool) (o : Nat → Int64) (kd : Int32) (i : Nat) (hk1 : ei_ok kd 1) (hk : kd = 0) (hn : n ≤ 1000) (hi : i ≤ n) : ec_M l yX5_next (Cond.code yX5_next cX5_next 5 (some .int) :: eT) ({ frames := 4, cells := 0, slots := 0, locals := 88 }) D (eTy cI cZ cJ) [.ref (ad 0), .int kd, .int (nI i), .int (ef_b false)] (cw ad cI cZ cJ n g w P gm wm true wz gb go gp gj wb wl wk wo fa mn mg mw mP o) (ed (some (.int (es_fb (eb_g g P n) (n - i) (i + 1)))) (cw ad cI cZ cJ n g w P (ef_up (ef_fl gm (eg_M g P) n) n (decide (0 < n))) wm false wz (eg_bf g n) (eg_od g n) (eg_ap g P n) (eg_aj g P n) wb wl wk wo fa mn mg mw mP o)) (eA ad) := by
  refine ec_of (cc := cX5_next) (maxL := 5) (ret := (some .int)) (by decide) rfl (Nat.le_of_ble_eq_true rfl) ?_
  intro p e s m args below meth c ls hx hb hr hts hown hlk hml hP hK hN hl
  have hown : s.vm.findClass RX5 = some m.cls := hown
  have hl : lv_has ls 5 [(0, .ref (ad 0)), (1, .int kd), (2, .int (nI i)), (3, .int (ef_b false))] := hl
  have hS : va_S (eA ad) s.heap s.heap [] := va_S.rf
  have hD : va_D (eA ad) (cw ad cI cZ cJ n g w P gm wm true wz gb go gp gj wb wl wk wo fa mn mg mw mP o) := eD_of hJ rfl
  refine lv_iload_n hx hb dX5_next_0 rfl (lv_at hl 1 rfl) ?_
  refine lv_iconst (v := 1) hx hb dX5_next_1 (by decide) ?_
  refine er_Sv (own := RX5) (rest := []) hx hb hml hown hts hl.1 (k_X5_requireUpTo l D cI cZ cJ kd 1 hk1) tw129 tw1 tw127 tw128 yd_X5_requireUpTo rfl rfl ⟨Nat.le_of_ble_eq_true rfl, Nat.le_of_ble_eq_true rfl⟩ er_nil hK rfl rfl (Nat.le_of_ble_eq_true rfl) ⟨Nat.zero_le _, Nat.zero_le _⟩ dX5_next_2 ?_
  refine lv_iload_n hx hb dX5_next_5 rfl (lv_at hl 2 rfl) ?_
  refine lv_aload_n hx hb dX5_next_6 rfl (lv_at hl 0 rfl) ?_
  refine va_get (D := D) (ci := 4) (v := .ref (ad 1)) (C := RX5) (T := TX5) (N := 3) hx hb hts (fun w h => List.mem_cons_of_mem _ (inX5 w h)) hown hK hP 0 rfl rfl 0 (by decide) (eT_h hts tw108) (fun _ h9 => h9) rfl dX5_next_7 ?_
  refine va_get (D := D) (ci := 2) (v := .int (nI n)) (C := RX2) (T := TX2) (N := 4) hx hb hts (fun w h => List.mem_cons_of_mem _ (inX2 w h)) hown hK hP 1 rfl rfl 3 (by decide) (eT_h hts tw36) (fun _ h9 => h9) rfl dX5_next_10 ?_
  refine er_Sv (own := RX5) (rest := []) hx hb hml hown hts hl.1 (k_X5_requireUpTo l D cI cZ cJ (nI i) (nI n) (ei_ok_n hi hn)) tw129 tw1 tw127 tw128 yd_X5_requireUpTo rfl rfl ⟨Nat.le_of_ble_eq_true rfl, Nat.le_of_ble_eq_true rfl⟩ er_nil hK rfl rfl (Nat.le_of_ble_eq_true rfl) ⟨Nat.zero_le _, Nat.zero_le _⟩ dX5_next_13 ?_
  refine lv_aload_n hx hb dX5_next_16 rfl (lv_at hl 0 rfl) ?_
  refine lv_iload_n hx hb dX5_next_17 rfl (lv_at hl 1 rfl) ?_
  refine ec_V (own := RX5) (C := RX5) (b := (ad 0)) (rest := []) hx hb hml hown hts hl.1 (c_X5_edgesOf_gt l D cI cZ cJ ad hJ n g w P gm wm wz gb go gp gj wb wl wk wo fa mn mg mw mP o kd hk hn) tw245 tw1 tw242 tw244 ts_X5_edgesOf yd_X5_edgesOf rfl rfl ⟨Nat.le_of_ble_eq_true rfl, Nat.le_of_ble_eq_true rfl⟩ hP hK hN hP (q0 := 0) rfl rfl rfl rfl (Nat.le_of_ble_eq_true rfl) ⟨Nat.zero_le _, Nat.zero_le _⟩ hS (fun _ h9 => h9) dX5_next_18 (fun v9 W9 H locs hF hP hS hz9 hk9 => ?_)
  obtain ⟨rfl, rfl⟩ := hF
  have hD : va_D (eA ad) (cw ad cI cZ cJ n g w P (ef_up (ef_fl gm (eg_M g P) n) n (decide (0 < n))) wm false wz (eg_bf g n) (eg_od g n) (eg_ap g P n) (eg_aj g P n) wb wl wk wo fa mn mg mw mP o) := eD_of hJ rfl
  refine W.eq (g2 := F0 m 21 ls [.ref (ad 2)]) rfl ?_
  refine lv_astore (lv' := [(4, .ref (ad 2)), (0, .ref (ad 0)), (1, .int kd), (2, .int (nI i)), (3, .int (ef_b false))]) hx hb dX5_next_21 hl (Nat.le_of_ble_eq_true rfl) rfl (fun ls hl => ?_)
  refine lv_iload_n hx hb dX5_next_23 rfl (lv_at hl 4 rfl) ?_
  refine ef_if_eq (tgt := 36) hx hb dX5_next_24 (by decide) (fun h1 => ?_) (fun h1 => ?_)
  · skip
    refine lv_aload hx hb dX5_next_36 (lv_at hl 0 rfl) ?_
    refine lv_iload_n hx hb dX5_next_38 rfl (lv_at hl 3 rfl) ?_
    refine lv_aload_n hx hb dX5_next_39 rfl (lv_at hl 1 rfl) ?_
    refine va_get (D := D) (ci := 4) (v := .ref (ad 1)) (C := RX5) (T := TX5) (N := 3) hx hb hts (fun w h => List.mem_cons_of_mem _ (inX5 w h)) hown hK hP 0 rfl rfl 0 (by decide) (eT_h hts tw108) (fun _ h9 => h9) rfl dX5_next_40 ?_
    refine va_get (D := D) (ci := 2) (v := .int (nI n)) (C := RX2) (T := TX2) (N := 4) hx hb hts (fun w h => List.mem_cons_of_mem _ (inX2 w h)) hown hK hP 1 rfl rfl 3 (by decide) (eT_h hts tw36) (fun _ h9 => h9) rfl dX5_next_43 ?_
    refine er_V (own := RX5) (C := RX0) (b := (ad 2)) (rest := []) hx hb hml hown hts hl.1 (k_X0_firstBehind l D cI cZ cJ (ad 2) (ad 7) (ad 9) false (ef_up (ef_fl gm (eg_M g P) n) n (decide (0 < n))) i n hn hi) tw338 tw3 tw335 tw336 tw337 yd_X0_firstBehind rfl rfl ⟨Nat.le_of_ble_eq_true rfl, Nat.le_of_ble_eq_true rfl⟩ (hP.sub [2, 7] rfl) hK hP (q0 := 2) rfl rfl rfl rfl (Nat.le_of_ble_eq_true rfl) ⟨Nat.zero_le _, Nat.zero_le _⟩ dX5_next_46 ?_
    refine ef_eqi (y := es_fb (eb_g g P n) (n - i) (i + 1)) (by rw [es_fb_c (eg_fin gm g P n) _ _ (by omega)]) ?_
    exact ec_iret hx hb hr hlk hP hS ⟨rfl, rfl⟩ dX5_next_49
  · skip
    exact Bool.noConfusion h1

set_option maxHeartbeats 4000000 in
set_option maxRecDepth 100000 in
theorem c_X5_edge_gf (l : Launch) (D : va_G) (cI cZ cJ : ClassId) (ad : Nat → Nat) (hJ : eJ ad) (n : Nat) (g : Nat → Int32) (w : Nat → Int32) (P : Nat → Bool) (gm : Nat → Bool) (wm : Nat → Bool) (wz : Bool) (gb : Int32) (go : Bool) (gp : Bool) (gj : Bool) (wb : Int32) (wl : Int32) (wk : Int32) (wo : Bool) (fa : Int32) (mn : Nat) (mg : Nat → Int32) (mw : Nat → Int32) (mP : Nat → Bool) (o : Nat → Int64) (kd : Int32) (i : Nat) (hk1 : ei_ok kd 1) (hk : kd = 0) (hn : n ≤ 1000) (hm : ∀ j, j ≤ n → gm j = eb_g g P n j) (hi : i ≤ n) : ec_M l yX5_edge (Cond.code yX5_edge cX5_edge 3 (some .boolean) :: eT) ({ frames := 1, cells := 0, slots := 0, locals := 22 }) D (eTy cI cZ cJ) [.ref (ad 0), .int kd, .int (nI i)] (cw ad cI cZ cJ n g w P gm wm false wz gb go gp gj wb wl wk wo fa mn mg mw mP o) (ed (some (.int (ef_b (eb_g g P n i)))) (cw ad cI cZ cJ n g w P gm wm false wz gb go gp gj wb wl wk wo fa mn mg mw mP o)) (eA ad) := by
  refine ec_of (cc := cX5_edge) (maxL := 3) (ret := (some .boolean)) (by decide) rfl (Nat.le_of_ble_eq_true rfl) ?_
  intro p e s m args below meth c ls hx hb hr hts hown hlk hml hP hK hN hl
  have hown : s.vm.findClass RX5 = some m.cls := hown
  have hl : lv_has ls 3 [(0, .ref (ad 0)), (1, .int kd), (2, .int (nI i))] := hl
  have hS : va_S (eA ad) s.heap s.heap [] := va_S.rf
  have hD : va_D (eA ad) (cw ad cI cZ cJ n g w P gm wm false wz gb go gp gj wb wl wk wo fa mn mg mw mP o) := eD_of hJ rfl
  refine lv_iload_n hx hb dX5_edge_0 rfl (lv_at hl 1 rfl) ?_
  refine lv_iconst (v := 1) hx hb dX5_edge_1 (by decide) ?_
  refine er_Sv (own := RX5) (rest := []) hx hb hml hown hts hl.1 (k_X5_requireUpTo l D cI cZ cJ kd 1 hk1) tw129 tw1 tw127 tw128 yd_X5_requireUpTo rfl rfl ⟨Nat.le_of_ble_eq_true rfl, Nat.le_of_ble_eq_true rfl⟩ er_nil hK rfl rfl (Nat.le_of_ble_eq_true rfl) ⟨Nat.zero_le _, Nat.zero_le _⟩ dX5_edge_2 ?_
  refine lv_iload_n hx hb dX5_edge_5 rfl (lv_at hl 2 rfl) ?_
  refine lv_aload_n hx hb dX5_edge_6 rfl (lv_at hl 0 rfl) ?_
  refine va_get (D := D) (ci := 4) (v := .ref (ad 1)) (C := RX5) (T := TX5) (N := 3) hx hb hts (fun w h => List.mem_cons_of_mem _ (inX5 w h)) hown hK hP 0 rfl rfl 0 (by decide) (eT_h hts tw108) (fun _ h9 => h9) rfl dX5_edge_7 ?_
  refine va_get (D := D) (ci := 2) (v := .int (nI n)) (C := RX2) (T := TX2) (N := 4) hx hb hts (fun w h => List.mem_cons_of_mem _ (inX2 w h)) hown hK hP 1 rfl rfl 3 (by decide) (eT_h hts tw36) (fun _ h9 => h9) rfl dX5_edge_10 ?_
  refine er_Sv (own := RX5) (rest := []) hx hb hml hown hts hl.1 (k_X5_requireUpTo l D cI cZ cJ (nI i) (nI n) (ei_ok_n hi hn)) tw129 tw1 tw127 tw128 yd_X5_requireUpTo rfl rfl ⟨Nat.le_of_ble_eq_true rfl, Nat.le_of_ble_eq_true rfl⟩ er_nil hK rfl rfl (Nat.le_of_ble_eq_true rfl) ⟨Nat.zero_le _, Nat.zero_le _⟩ dX5_edge_13 ?_
  refine lv_aload_n hx hb dX5_edge_16 rfl (lv_at hl 0 rfl) ?_
  refine lv_iload_n hx hb dX5_edge_17 rfl (lv_at hl 1 rfl) ?_
  refine ec_V (own := RX5) (C := RX5) (b := (ad 0)) (rest := []) hx hb hml hown hts hl.1 (c_X5_edgesOf_gf l D cI cZ cJ ad hJ n g w P gm wm wz gb go gp gj wb wl wk wo fa mn mg mw mP o kd hk hn) tw245 tw1 tw242 tw244 ts_X5_edgesOf yd_X5_edgesOf rfl rfl ⟨Nat.le_of_ble_eq_true rfl, Nat.le_of_ble_eq_true rfl⟩ hP hK hN hP (q0 := 0) rfl rfl rfl rfl (Nat.le_of_ble_eq_true rfl) ⟨Nat.zero_le _, Nat.zero_le _⟩ hS (fun _ h9 => h9) dX5_edge_18 (fun v9 W9 H locs hF hP hS hz9 hk9 => ?_)
  obtain ⟨rfl, rfl⟩ := hF
  have hD : va_D (eA ad) (cw ad cI cZ cJ n g w P gm wm false wz gb go gp gj wb wl wk wo fa mn mg mw mP o) := eD_of hJ rfl
  refine W.eq (g2 := F0 m 21 ls [.ref (ad 2)]) rfl ?_
  refine va_get (D := D) (ci := 0) (v := .ref (ad 7)) (C := RX0) (T := TX0) (N := 3) hx hb hts (fun w h => List.mem_cons_of_mem _ (inX0 w h)) hown hK hP 2 rfl rfl 0 (by decide) (eT_h hts tw78) (fun _ h9 => h9) rfl dX5_edge_21 ?_
  refine lv_iload_n hx hb dX5_edge_24 rfl (lv_at hl 2 rfl) ?_
  refine va_zald hx hb hK hP 7 1 rfl rfl (vp_in_nI (n := i) (by omega) (by decide)) dX5_edge_25 ?_
  refine ef_eqi (y := ef_b (gm i)) (by rw [nI_clamp (by omega)]) ?_
  refine ef_eqi (y := ef_b (eb_g g P n i)) (by rw [(hm) i hi]) ?_
  exact ec_zret hx hb hr hlk hP hS ⟨rfl, rfl⟩ dX5_edge_26

set_option maxHeartbeats 4000000 in
set_option maxRecDepth 100000 in
theorem c_X5_rank_gf (l : Launch) (D : va_G) (cI cZ cJ : ClassId) (ad : Nat → Nat) (hJ : eJ ad) (n : Nat) (g : Nat → Int32) (w : Nat → Int32) (P : Nat → Bool) (gm : Nat → Bool) (wm : Nat → Bool) (wz : Bool) (gb : Int32) (go : Bool) (gp : Bool) (gj : Bool) (wb : Int32) (wl : Int32) (wk : Int32) (wo : Bool) (fa : Int32) (mn : Nat) (mg : Nat → Int32) (mw : Nat → Int32) (mP : Nat → Bool) (o : Nat → Int64) (kd : Int32) (i : Nat) (hk1 : ei_ok kd 1) (hk : kd = 0) (hn : n ≤ 1000) (hm : ∀ j, j ≤ n → gm j = eb_g g P n j) (hi : i ≤ n) : ec_M l yX5_rank (Cond.code yX5_rank cX5_rank 3 (some .int) :: eT) ({ frames := 1, cells := 0, slots := 0, locals := 23 }) D (eTy cI cZ cJ) [.ref (ad 0), .int kd, .int (nI i)] (cw ad cI cZ cJ n g w P gm wm false wz gb go gp gj wb wl wk wo fa mn mg mw mP o) (ed (some (.int (nI (es_cu (eb_g g P n) (i + 1))))) (cw ad cI cZ cJ n g w P gm wm false wz gb go gp gj wb wl wk wo fa mn mg mw mP o)) (eA ad) := by
  refine ec_of (cc := cX5_rank) (maxL := 3) (ret := (some .int)) (by decide) rfl (Nat.le_of_ble_eq_true rfl) ?_
  intro p e s m args below meth c ls hx hb hr hts hown hlk hml hP hK hN hl
  have hown : s.vm.findClass RX5 = some m.cls := hown
  have hl : lv_has ls 3 [(0, .ref (ad 0)), (1, .int kd), (2, .int (nI i))] := hl
  have hS : va_S (eA ad) s.heap s.heap [] := va_S.rf
  have hD : va_D (eA ad) (cw ad cI cZ cJ n g w P gm wm false wz gb go gp gj wb wl wk wo fa mn mg mw mP o) := eD_of hJ rfl
  refine lv_iload_n hx hb dX5_rank_0 rfl (lv_at hl 1 rfl) ?_
  refine lv_iconst (v := 1) hx hb dX5_rank_1 (by decide) ?_
  refine er_Sv (own := RX5) (rest := []) hx hb hml hown hts hl.1 (k_X5_requireUpTo l D cI cZ cJ kd 1 hk1) tw129 tw1 tw127 tw128 yd_X5_requireUpTo rfl rfl ⟨Nat.le_of_ble_eq_true rfl, Nat.le_of_ble_eq_true rfl⟩ er_nil hK rfl rfl (Nat.le_of_ble_eq_true rfl) ⟨Nat.zero_le _, Nat.zero_le _⟩ dX5_rank_2 ?_
  refine lv_iload_n hx hb dX5_rank_5 rfl (lv_at hl 2 rfl) ?_
  refine lv_aload_n hx hb dX5_rank_6 rfl (lv_at hl 0 rfl) ?_
  refine va_get (D := D) (ci := 4) (v := .ref (ad 1)) (C := RX5) (T := TX5) (N := 3) hx hb hts (fun w h => List.mem_cons_of_mem _ (inX5 w h)) hown hK hP 0 rfl rfl 0 (by decide) (eT_h hts tw108) (fun _ h9 => h9) rfl dX5_rank_7 ?_
  refine va_get (D := D) (ci := 2) (v := .int (nI n)) (C := RX2) (T := TX2) (N := 4) hx hb hts (fun w h => List.mem_cons_of_mem _ (inX2 w h)) hown hK hP 1 rfl rfl 3 (by decide) (eT_h hts tw36) (fun _ h9 => h9) rfl dX5_rank_10 ?_
  refine er_Sv (own := RX5) (rest := []) hx hb hml hown hts hl.1 (k_X5_requireUpTo l D cI cZ cJ (nI i) (nI n) (ei_ok_n hi hn)) tw129 tw1 tw127 tw128 yd_X5_requireUpTo rfl rfl ⟨Nat.le_of_ble_eq_true rfl, Nat.le_of_ble_eq_true rfl⟩ er_nil hK rfl rfl (Nat.le_of_ble_eq_true rfl) ⟨Nat.zero_le _, Nat.zero_le _⟩ dX5_rank_13 ?_
  refine lv_aload_n hx hb dX5_rank_16 rfl (lv_at hl 0 rfl) ?_
  refine lv_iload_n hx hb dX5_rank_17 rfl (lv_at hl 1 rfl) ?_
  refine ec_V (own := RX5) (C := RX5) (b := (ad 0)) (rest := []) hx hb hml hown hts hl.1 (c_X5_edgesOf_gf l D cI cZ cJ ad hJ n g w P gm wm wz gb go gp gj wb wl wk wo fa mn mg mw mP o kd hk hn) tw245 tw1 tw242 tw244 ts_X5_edgesOf yd_X5_edgesOf rfl rfl ⟨Nat.le_of_ble_eq_true rfl, Nat.le_of_ble_eq_true rfl⟩ hP hK hN hP (q0 := 0) rfl rfl rfl rfl (Nat.le_of_ble_eq_true rfl) ⟨Nat.zero_le _, Nat.zero_le _⟩ hS (fun _ h9 => h9) dX5_rank_18 (fun v9 W9 H locs hF hP hS hz9 hk9 => ?_)
  obtain ⟨rfl, rfl⟩ := hF
  have hD : va_D (eA ad) (cw ad cI cZ cJ n g w P gm wm false wz gb go gp gj wb wl wk wo fa mn mg mw mP o) := eD_of hJ rfl
  refine W.eq (g2 := F0 m 21 ls [.ref (ad 2)]) rfl ?_
  refine lv_iload_n hx hb dX5_rank_21 rfl (lv_at hl 2 rfl) ?_
  refine er_V (own := RX5) (C := RX0) (b := (ad 2)) (rest := []) hx hb hml hown hts hl.1 (k_X0_countUpTo l D cI cZ cJ (ad 2) (ad 7) (ad 9) false gm i (by omega)) tw349 tw3 tw346 tw347 tw348 yd_X0_countUpTo rfl rfl ⟨Nat.le_of_ble_eq_true rfl, Nat.le_of_ble_eq_true rfl⟩ (hP.sub [2, 7] rfl) hK hP (q0 := 2) rfl rfl rfl rfl (Nat.le_of_ble_eq_true rfl) ⟨Nat.zero_le _, Nat.zero_le _⟩ dX5_rank_22 ?_
  refine ef_eqi (y := nI (es_cu (eb_g g P n) (i + 1))) (by rw [es_cu_c (hm) _ (by omega)]) ?_
  exact ec_iret hx hb hr hlk hP hS ⟨rfl, rfl⟩ dX5_rank_25

set_option maxHeartbeats 4000000 in
set_option maxRecDepth 100000 in
theorem c_X5_hash_gf (l : Launch) (D : va_G) (cI cZ cJ : ClassId) (ad : Nat → Nat) (hJ : eJ ad) (n : Nat) (g : Nat → Int32) (w : Nat → Int32) (P : Nat → Bool) (gm : Nat → Bool) (wm : Nat → Bool) (wz : Bool) (gb : Int32) (go : Bool) (gp : Bool) (gj : Bool) (wb : Int32) (wl : Int32) (wk : Int32) (wo : Bool) (fa : Int32) (mn : Nat) (mg : Nat → Int32) (mw : Nat → Int32) (mP : Nat → Bool) (o : Nat → Int64) (kd : Int32) (hk1 : ei_ok kd 1) (hk : kd = 0) (hn : n ≤ 1000) (hm : ∀ j, j ≤ n → gm j = eb_g g P n j) : ec_M l yX5_hash (Cond.code yX5_hash cX5_hash 2 (some .int) :: eT) ({ frames := 1, cells := 0, slots := 0, locals := 23 }) D (eTy cI cZ cJ) [.ref (ad 0), .int kd] (cw ad cI cZ cJ n g w P gm wm false wz gb go gp gj wb wl wk wo fa mn mg mw mP o) (ed (some (.int (es_mx (eb_g g P n) (n + 1)))) (cw ad cI cZ cJ n g w P gm wm false wz gb go gp gj wb wl wk wo fa mn mg mw mP o)) (eA ad) := by
  refine ec_of (cc := cX5_hash) (maxL := 2) (ret := (some .int)) (by decide) rfl (Nat.le_of_ble_eq_true rfl) ?_
  intro p e s m args below meth c ls hx hb hr hts hown hlk hml hP hK hN hl
  have hown : s.vm.findClass RX5 = some m.cls := hown
  have hl : lv_has ls 2 [(0, .ref (ad 0)), (1, .int kd)] := hl
  have hS : va_S (eA ad) s.heap s.heap [] := va_S.rf
  have hD : va_D (eA ad) (cw ad cI cZ cJ n g w P gm wm false wz gb go gp gj wb wl wk wo fa mn mg mw mP o) := eD_of hJ rfl
  refine lv_iload_n hx hb dX5_hash_0 rfl (lv_at hl 1 rfl) ?_
  refine lv_iconst (v := 1) hx hb dX5_hash_1 (by decide) ?_
  refine er_Sv (own := RX5) (rest := []) hx hb hml hown hts hl.1 (k_X5_requireUpTo l D cI cZ cJ kd 1 hk1) tw129 tw1 tw127 tw128 yd_X5_requireUpTo rfl rfl ⟨Nat.le_of_ble_eq_true rfl, Nat.le_of_ble_eq_true rfl⟩ er_nil hK rfl rfl (Nat.le_of_ble_eq_true rfl) ⟨Nat.zero_le _, Nat.zero_le _⟩ dX5_hash_2 ?_
  refine lv_aload_n hx hb dX5_hash_5 rfl (lv_at hl 0 rfl) ?_
  refine lv_iload_n hx hb dX5_hash_6 rfl (lv_at hl 1 rfl) ?_
  refine ec_V (own := RX5) (C := RX5) (b := (ad 0)) (rest := []) hx hb hml hown hts hl.1 (c_X5_edgesOf_gf l D cI cZ cJ ad hJ n g w P gm wm wz gb go gp gj wb wl wk wo fa mn mg mw mP o kd hk hn) tw245 tw1 tw242 tw244 ts_X5_edgesOf yd_X5_edgesOf rfl rfl ⟨Nat.le_of_ble_eq_true rfl, Nat.le_of_ble_eq_true rfl⟩ hP hK hN hP (q0 := 0) rfl rfl rfl rfl (Nat.le_of_ble_eq_true rfl) ⟨Nat.zero_le _, Nat.zero_le _⟩ hS (fun _ h9 => h9) dX5_hash_7 (fun v9 W9 H locs hF hP hS hz9 hk9 => ?_)
  obtain ⟨rfl, rfl⟩ := hF
  have hD : va_D (eA ad) (cw ad cI cZ cJ n g w P gm wm false wz gb go gp gj wb wl wk wo fa mn mg mw mP o) := eD_of hJ rfl
  refine W.eq (g2 := F0 m 10 ls [.ref (ad 2)]) rfl ?_
  refine lv_aload_n hx hb dX5_hash_10 rfl (lv_at hl 0 rfl) ?_
  refine va_get (D := D) (ci := 4) (v := .ref (ad 1)) (C := RX5) (T := TX5) (N := 3) hx hb hts (fun w h => List.mem_cons_of_mem _ (inX5 w h)) hown hK hP 0 rfl rfl 0 (by decide) (eT_h hts tw108) (fun _ h9 => h9) rfl dX5_hash_11 ?_
  refine va_get (D := D) (ci := 2) (v := .int (nI n)) (C := RX2) (T := TX2) (N := 4) hx hb hts (fun w h => List.mem_cons_of_mem _ (inX2 w h)) hown hK hP 1 rfl rfl 3 (by decide) (eT_h hts tw36) (fun _ h9 => h9) rfl dX5_hash_14 ?_
  refine er_V (own := RX5) (C := RX0) (b := (ad 2)) (rest := []) hx hb hml hown hts hl.1 (k_X0_mixUpTo l D cI cZ cJ (ad 2) (ad 7) (ad 9) false gm n hn) tw360 tw3 tw357 tw358 tw359 yd_X0_mixUpTo rfl rfl ⟨Nat.le_of_ble_eq_true rfl, Nat.le_of_ble_eq_true rfl⟩ (hP.sub [2, 7] rfl) hK hP (q0 := 2) rfl rfl rfl rfl (Nat.le_of_ble_eq_true rfl) ⟨Nat.zero_le _, Nat.zero_le _⟩ dX5_hash_17 ?_
  refine ef_eqi (y := es_mx (eb_g g P n) (n + 1)) (by rw [es_mx_c (hm) _ (by omega)]) ?_
  exact ec_iret hx hb hr hlk hP hS ⟨rfl, rfl⟩ dX5_hash_20

set_option maxHeartbeats 4000000 in
set_option maxRecDepth 100000 in
theorem c_X5_next_gft (l : Launch) (D : va_G) (cI cZ cJ : ClassId) (ad : Nat → Nat) (hJ : eJ ad) (n : Nat) (g : Nat → Int32) (w : Nat → Int32) (P : Nat → Bool) (gm : Nat → Bool) (wm : Nat → Bool) (wz : Bool) (gb : Int32) (go : Bool) (gp : Bool) (gj : Bool) (wb : Int32) (wl : Int32) (wk : Int32) (wo : Bool) (fa : Int32) (mn : Nat) (mg : Nat → Int32) (mw : Nat → Int32) (mP : Nat → Bool) (o : Nat → Int64) (kd : Int32) (i : Nat) (hk1 : ei_ok kd 1) (hk : kd = 0) (hn : n ≤ 1000) (hm : ∀ j, j ≤ n → gm j = eb_g g P n j) (hi : i ≤ n) : ec_M l yX5_next (Cond.code yX5_next cX5_next 5 (some .int) :: eT) ({ frames := 1, cells := 0, slots := 0, locals := 22 }) D (eTy cI cZ cJ) [.ref (ad 0), .int kd, .int (nI i), .int (ef_b true)] (cw ad cI cZ cJ n g w P gm wm false wz gb go gp gj wb wl wk wo fa mn mg mw mP o) (ed (some (.int (es_lb (eb_g g P n) i))) (cw ad cI cZ cJ n g w P gm wm false wz gb go gp gj wb wl wk wo fa mn mg mw mP o)) (eA ad) := by
  refine ec_of (cc := cX5_next) (maxL := 5) (ret := (some .int)) (by decide) rfl (Nat.le_of_ble_eq_true rfl) ?_
  intro p e s m args below meth c ls hx hb hr hts hown hlk hml hP hK hN hl
  have hown : s.vm.findClass RX5 = some m.cls := hown
  have hl : lv_has ls 5 [(0, .ref (ad 0)), (1, .int kd), (2, .int (nI i)), (3, .int (ef_b true))] := hl
  have hS : va_S (eA ad) s.heap s.heap [] := va_S.rf
  have hD : va_D (eA ad) (cw ad cI cZ cJ n g w P gm wm false wz gb go gp gj wb wl wk wo fa mn mg mw mP o) := eD_of hJ rfl
  refine lv_iload_n hx hb dX5_next_0 rfl (lv_at hl 1 rfl) ?_
  refine lv_iconst (v := 1) hx hb dX5_next_1 (by decide) ?_
  refine er_Sv (own := RX5) (rest := []) hx hb hml hown hts hl.1 (k_X5_requireUpTo l D cI cZ cJ kd 1 hk1) tw129 tw1 tw127 tw128 yd_X5_requireUpTo rfl rfl ⟨Nat.le_of_ble_eq_true rfl, Nat.le_of_ble_eq_true rfl⟩ er_nil hK rfl rfl (Nat.le_of_ble_eq_true rfl) ⟨Nat.zero_le _, Nat.zero_le _⟩ dX5_next_2 ?_
  refine lv_iload_n hx hb dX5_next_5 rfl (lv_at hl 2 rfl) ?_
  refine lv_aload_n hx hb dX5_next_6 rfl (lv_at hl 0 rfl) ?_
  refine va_get (D := D) (ci := 4) (v := .ref (ad 1)) (C := RX5) (T := TX5) (N := 3) hx hb hts (fun w h => List.mem_cons_of_mem _ (inX5 w h)) hown hK hP 0 rfl rfl 0 (by decide) (eT_h hts tw108) (fun _ h9 => h9) rfl dX5_next_7 ?_
  refine va_get (D := D) (ci := 2) (v := .int (nI n)) (C := RX2) (T := TX2) (N := 4) hx hb hts (fun w h => List.mem_cons_of_mem _ (inX2 w h)) hown hK hP 1 rfl rfl 3 (by decide) (eT_h hts tw36) (fun _ h9 => h9) rfl dX5_next_10 ?_
  refine er_Sv (own := RX5) (rest := []) hx hb hml hown hts hl.1 (k_X5_requireUpTo l D cI cZ cJ (nI i) (nI n) (ei_ok_n hi hn)) tw129 tw1 tw127 tw128 yd_X5_requireUpTo rfl rfl ⟨Nat.le_of_ble_eq_true rfl, Nat.le_of_ble_eq_true rfl⟩ er_nil hK rfl rfl (Nat.le_of_ble_eq_true rfl) ⟨Nat.zero_le _, Nat.zero_le _⟩ dX5_next_13 ?_
  refine lv_aload_n hx hb dX5_next_16 rfl (lv_at hl 0 rfl) ?_
  refine lv_iload_n hx hb dX5_next_17 rfl (lv_at hl 1 rfl) ?_
  refine ec_V (own := RX5) (C := RX5) (b := (ad 0)) (rest := []) hx hb hml hown hts hl.1 (c_X5_edgesOf_gf l D cI cZ cJ ad hJ n g w P gm wm wz gb go gp gj wb wl wk wo fa mn mg mw mP o kd hk hn) tw245 tw1 tw242 tw244 ts_X5_edgesOf yd_X5_edgesOf rfl rfl ⟨Nat.le_of_ble_eq_true rfl, Nat.le_of_ble_eq_true rfl⟩ hP hK hN hP (q0 := 0) rfl rfl rfl rfl (Nat.le_of_ble_eq_true rfl) ⟨Nat.zero_le _, Nat.zero_le _⟩ hS (fun _ h9 => h9) dX5_next_18 (fun v9 W9 H locs hF hP hS hz9 hk9 => ?_)
  obtain ⟨rfl, rfl⟩ := hF
  have hD : va_D (eA ad) (cw ad cI cZ cJ n g w P gm wm false wz gb go gp gj wb wl wk wo fa mn mg mw mP o) := eD_of hJ rfl
  refine W.eq (g2 := F0 m 21 ls [.ref (ad 2)]) rfl ?_
  refine lv_astore (lv' := [(4, .ref (ad 2)), (0, .ref (ad 0)), (1, .int kd), (2, .int (nI i)), (3, .int (ef_b true))]) hx hb dX5_next_21 hl (Nat.le_of_ble_eq_true rfl) rfl (fun ls hl => ?_)
  refine lv_iload_n hx hb dX5_next_23 rfl (lv_at hl 4 rfl) ?_
  refine ef_if_eq (tgt := 36) hx hb dX5_next_24 (by decide) (fun h1 => ?_) (fun h1 => ?_)
  · skip
    exact Bool.noConfusion h1
  · skip
    refine lv_aload hx hb dX5_next_27 (lv_at hl 0 rfl) ?_
    refine lv_iload_n hx hb dX5_next_29 rfl (lv_at hl 3 rfl) ?_
    refine er_V (own := RX5) (C := RX0) (b := (ad 2)) (rest := []) hx hb hml hown hts hl.1 (k_X0_lastBefore l D cI cZ cJ (ad 2) (ad 7) (ad 9) false gm i (by omega)) tw334 tw3 tw331 tw332 tw333 yd_X0_lastBefore rfl rfl ⟨Nat.le_of_ble_eq_true rfl, Nat.le_of_ble_eq_true rfl⟩ (hP.sub [2, 7] rfl) hK hP (q0 := 2) rfl rfl rfl rfl (Nat.le_of_ble_eq_true rfl) ⟨Nat.zero_le _, Nat.zero_le _⟩ dX5_next_30 ?_
    refine lv_goto (tgt := 49) hx hb dX5_next_33 (by decide) ?_
    refine ef_eqi (y := es_lb (eb_g g P n) i) (by rw [es_lb_c (hm) _ (by omega)]) ?_
    exact ec_iret hx hb hr hlk hP hS ⟨rfl, rfl⟩ dX5_next_49

set_option maxHeartbeats 4000000 in
set_option maxRecDepth 100000 in
theorem c_X5_next_gff (l : Launch) (D : va_G) (cI cZ cJ : ClassId) (ad : Nat → Nat) (hJ : eJ ad) (n : Nat) (g : Nat → Int32) (w : Nat → Int32) (P : Nat → Bool) (gm : Nat → Bool) (wm : Nat → Bool) (wz : Bool) (gb : Int32) (go : Bool) (gp : Bool) (gj : Bool) (wb : Int32) (wl : Int32) (wk : Int32) (wo : Bool) (fa : Int32) (mn : Nat) (mg : Nat → Int32) (mw : Nat → Int32) (mP : Nat → Bool) (o : Nat → Int64) (kd : Int32) (i : Nat) (hk1 : ei_ok kd 1) (hk : kd = 0) (hn : n ≤ 1000) (hm : ∀ j, j ≤ n → gm j = eb_g g P n j) (hi : i ≤ n) : ec_M l yX5_next (Cond.code yX5_next cX5_next 5 (some .int) :: eT) ({ frames := 1, cells := 0, slots := 0, locals := 23 }) D (eTy cI cZ cJ) [.ref (ad 0), .int kd, .int (nI i), .int (ef_b false)] (cw ad cI cZ cJ n g w P gm wm false wz gb go gp gj wb wl wk wo fa mn mg mw mP o) (ed (some (.int (es_fb (eb_g g P n) (n - i) (i + 1)))) (cw ad cI cZ cJ n g w P gm wm false wz gb go gp gj wb wl wk wo fa mn mg mw mP o)) (eA ad) := by
  refine ec_of (cc := cX5_next) (maxL := 5) (ret := (some .int)) (by decide) rfl (Nat.le_of_ble_eq_true rfl) ?_
  intro p e s m args below meth c ls hx hb hr hts hown hlk hml hP hK hN hl
  have hown : s.vm.findClass RX5 = some m.cls := hown
  have hl : lv_has ls 5 [(0, .ref (ad 0)), (1, .int kd), (2, .int (nI i)), (3, .int (ef_b false))] := hl
  have hS : va_S (eA ad) s.heap s.heap [] := va_S.rf
  have hD : va_D (eA ad) (cw ad cI cZ cJ n g w P gm wm false wz gb go gp gj wb wl wk wo fa mn mg mw mP o) := eD_of hJ rfl
  refine lv_iload_n hx hb dX5_next_0 rfl (lv_at hl 1 rfl) ?_
  refine lv_iconst (v := 1) hx hb dX5_next_1 (by decide) ?_
  refine er_Sv (own := RX5) (rest := []) hx hb hml hown hts hl.1 (k_X5_requireUpTo l D cI cZ cJ kd 1 hk1) tw129 tw1 tw127 tw128 yd_X5_requireUpTo rfl rfl ⟨Nat.le_of_ble_eq_true rfl, Nat.le_of_ble_eq_true rfl⟩ er_nil hK rfl rfl (Nat.le_of_ble_eq_true rfl) ⟨Nat.zero_le _, Nat.zero_le _⟩ dX5_next_2 ?_
  refine lv_iload_n hx hb dX5_next_5 rfl (lv_at hl 2 rfl) ?_
  refine lv_aload_n hx hb dX5_next_6 rfl (lv_at hl 0 rfl) ?_
  refine va_get (D := D) (ci := 4) (v := .ref (ad 1)) (C := RX5) (T := TX5) (N := 3) hx hb hts (fun w h => List.mem_cons_of_mem _ (inX5 w h)) hown hK hP 0 rfl rfl 0 (by decide) (eT_h hts tw108) (fun _ h9 => h9) rfl dX5_next_7 ?_
  refine va_get (D := D) (ci := 2) (v := .int (nI n)) (C := RX2) (T := TX2) (N := 4) hx hb hts (fun w h => List.mem_cons_of_mem _ (inX2 w h)) hown hK hP 1 rfl rfl 3 (by decide) (eT_h hts tw36) (fun _ h9 => h9) rfl dX5_next_10 ?_
  refine er_Sv (own := RX5) (rest := []) hx hb hml hown hts hl.1 (k_X5_requireUpTo l D cI cZ cJ (nI i) (nI n) (ei_ok_n hi hn)) tw129 tw1 tw127 tw128 yd_X5_requireUpTo rfl rfl ⟨Nat.le_of_ble_eq_true rfl, Nat.le_of_ble_eq_true rfl⟩ er_nil hK rfl rfl (Nat.le_of_ble_eq_true rfl) ⟨Nat.zero_le _, Nat.zero_le _⟩ dX5_next_13 ?_
  refine lv_aload_n hx hb dX5_next_16 rfl (lv_at hl 0 rfl) ?_
  refine lv_iload_n hx hb dX5_next_17 rfl (lv_at hl 1 rfl) ?_
  refine ec_V (own := RX5) (C := RX5) (b := (ad 0)) (rest := []) hx hb hml hown hts hl.1 (c_X5_edgesOf_gf l D cI cZ cJ ad hJ n g w P gm wm wz gb go gp gj wb wl wk wo fa mn mg mw mP o kd hk hn) tw245 tw1 tw242 tw244 ts_X5_edgesOf yd_X5_edgesOf rfl rfl ⟨Nat.le_of_ble_eq_true rfl, Nat.le_of_ble_eq_true rfl⟩ hP hK hN hP (q0 := 0) rfl rfl rfl rfl (Nat.le_of_ble_eq_true rfl) ⟨Nat.zero_le _, Nat.zero_le _⟩ hS (fun _ h9 => h9) dX5_next_18 (fun v9 W9 H locs hF hP hS hz9 hk9 => ?_)
  obtain ⟨rfl, rfl⟩ := hF
  have hD : va_D (eA ad) (cw ad cI cZ cJ n g w P gm wm false wz gb go gp gj wb wl wk wo fa mn mg mw mP o) := eD_of hJ rfl
  refine W.eq (g2 := F0 m 21 ls [.ref (ad 2)]) rfl ?_
  refine lv_astore (lv' := [(4, .ref (ad 2)), (0, .ref (ad 0)), (1, .int kd), (2, .int (nI i)), (3, .int (ef_b false))]) hx hb dX5_next_21 hl (Nat.le_of_ble_eq_true rfl) rfl (fun ls hl => ?_)
  refine lv_iload_n hx hb dX5_next_23 rfl (lv_at hl 4 rfl) ?_
  refine ef_if_eq (tgt := 36) hx hb dX5_next_24 (by decide) (fun h1 => ?_) (fun h1 => ?_)
  · skip
    refine lv_aload hx hb dX5_next_36 (lv_at hl 0 rfl) ?_
    refine lv_iload_n hx hb dX5_next_38 rfl (lv_at hl 3 rfl) ?_
    refine lv_aload_n hx hb dX5_next_39 rfl (lv_at hl 1 rfl) ?_
    refine va_get (D := D) (ci := 4) (v := .ref (ad 1)) (C := RX5) (T := TX5) (N := 3) hx hb hts (fun w h => List.mem_cons_of_mem _ (inX5 w h)) hown hK hP 0 rfl rfl 0 (by decide) (eT_h hts tw108) (fun _ h9 => h9) rfl dX5_next_40 ?_
    refine va_get (D := D) (ci := 2) (v := .int (nI n)) (C := RX2) (T := TX2) (N := 4) hx hb hts (fun w h => List.mem_cons_of_mem _ (inX2 w h)) hown hK hP 1 rfl rfl 3 (by decide) (eT_h hts tw36) (fun _ h9 => h9) rfl dX5_next_43 ?_
    refine er_V (own := RX5) (C := RX0) (b := (ad 2)) (rest := []) hx hb hml hown hts hl.1 (k_X0_firstBehind l D cI cZ cJ (ad 2) (ad 7) (ad 9) false gm i n hn hi) tw338 tw3 tw335 tw336 tw337 yd_X0_firstBehind rfl rfl ⟨Nat.le_of_ble_eq_true rfl, Nat.le_of_ble_eq_true rfl⟩ (hP.sub [2, 7] rfl) hK hP (q0 := 2) rfl rfl rfl rfl (Nat.le_of_ble_eq_true rfl) ⟨Nat.zero_le _, Nat.zero_le _⟩ dX5_next_46 ?_
    refine ef_eqi (y := es_fb (eb_g g P n) (n - i) (i + 1)) (by rw [es_fb_c (hm) _ _ (by omega)]) ?_
    exact ec_iret hx hb hr hlk hP hS ⟨rfl, rfl⟩ dX5_next_49
  · skip
    exact Bool.noConfusion h1

set_option maxHeartbeats 4000000 in
set_option maxRecDepth 100000 in
theorem c_X5_edge_wt (l : Launch) (D : va_G) (cI cZ cJ : ClassId) (ad : Nat → Nat) (hJ : eJ ad) (n : Nat) (g : Nat → Int32) (w : Nat → Int32) (P : Nat → Bool) (gm : Nat → Bool) (wm : Nat → Bool) (gs : Bool) (gb : Int32) (go : Bool) (gp : Bool) (gj : Bool) (wb : Int32) (wl : Int32) (wk : Int32) (wo : Bool) (fa : Int32) (mn : Nat) (mg : Nat → Int32) (mw : Nat → Int32) (mP : Nat → Bool) (o : Nat → Int64) (kd : Int32) (i : Nat) (hk1 : ei_ok kd 1) (hk : ¬ kd = 0) (hn : n ≤ 1000) (hi : i ≤ n) : ec_M l yX5_edge (Cond.code yX5_edge cX5_edge 3 (some .boolean) :: eT) ({ frames := 6, cells := 0, slots := 0, locals := 130 }) D (eTy cI cZ cJ) [.ref (ad 0), .int kd, .int (nI i)] (cw ad cI cZ cJ n g w P gm wm gs true gb go gp gj wb wl wk wo fa mn mg mw mP o) (ed (some (.int (ef_b (eb_w w P n i)))) (cw ad cI cZ cJ n g w P gm (ef_up (ef_fl wm (ew_M w P n) n) n (decide (0 < n))) gs false gb go gp gj (eg_bf w n) (ew_l w n) (ew_k w n) (ew_od w n) fa mn mg mw mP o)) (eA ad) := by
  refine ec_of (cc := cX5_edge) (maxL := 3) (ret := (some .boolean)) (by decide) rfl (Nat.le_of_ble_eq_true rfl) ?_
  intro p e s m args below meth c ls hx hb hr hts hown hlk hml hP hK hN hl
  have hown : s.vm.findClass RX5 = some m.cls := hown
  have hl : lv_has ls 3 [(0, .ref (ad 0)), (1, .int kd), (2, .int (nI i))] := hl
  have hS : va_S (eA ad) s.heap s.heap [] := va_S.rf
  have hD : va_D (eA ad) (cw ad cI cZ cJ n g w P gm wm gs true gb go gp gj wb wl wk wo fa mn mg mw mP o) := eD_of hJ rfl
  refine lv_iload_n hx hb dX5_edge_0 rfl (lv_at hl 1 rfl) ?_
  refine lv_iconst (v := 1) hx hb dX5_edge_1 (by decide) ?_
  refine er_Sv (own := RX5) (rest := []) hx hb hml hown hts hl.1 (k_X5_requireUpTo l D cI cZ cJ kd 1 hk1) tw129 tw1 tw127 tw128 yd_X5_requireUpTo rfl rfl ⟨Nat.le_of_ble_eq_true rfl, Nat.le_of_ble_eq_true rfl⟩ er_nil hK rfl rfl (Nat.le_of_ble_eq_true rfl) ⟨Nat.zero_le _, Nat.zero_le _⟩ dX5_edge_2 ?_
  refine lv_iload_n hx hb dX5_edge_5 rfl (lv_at hl 2 rfl) ?_
  refine lv_aload_n hx hb dX5_edge_6 rfl (lv_at hl 0 rfl) ?_
  refine va_get (D := D) (ci := 4) (v := .ref (ad 1)) (C := RX5) (T := TX5) (N := 3) hx hb hts (fun w h => List.mem_cons_of_mem _ (inX5 w h)) hown hK hP 0 rfl rfl 0 (by decide) (eT_h hts tw108) (fun _ h9 => h9) rfl dX5_edge_7 ?_
  refine va_get (D := D) (ci := 2) (v := .int (nI n)) (C := RX2) (T := TX2) (N := 4) hx hb hts (fun w h => List.mem_cons_of_mem _ (inX2 w h)) hown hK hP 1 rfl rfl 3 (by decide) (eT_h hts tw36) (fun _ h9 => h9) rfl dX5_edge_10 ?_
  refine er_Sv (own := RX5) (rest := []) hx hb hml hown hts hl.1 (k_X5_requireUpTo l D cI cZ cJ (nI i) (nI n) (ei_ok_n hi hn)) tw129 tw1 tw127 tw128 yd_X5_requireUpTo rfl rfl ⟨Nat.le_of_ble_eq_true rfl, Nat.le_of_ble_eq_true rfl⟩ er_nil hK rfl rfl (Nat.le_of_ble_eq_true rfl) ⟨Nat.zero_le _, Nat.zero_le _⟩ dX5_edge_13 ?_
  refine lv_aload_n hx hb dX5_edge_16 rfl (lv_at hl 0 rfl) ?_
  refine lv_iload_n hx hb dX5_edge_17 rfl (lv_at hl 1 rfl) ?_
  refine ec_V (own := RX5) (C := RX5) (b := (ad 0)) (rest := []) hx hb hml hown hts hl.1 (c_X5_edgesOf_wt l D cI cZ cJ ad hJ n g w P gm wm gs gb go gp gj wb wl wk wo fa mn mg mw mP o kd hk hn) tw245 tw1 tw242 tw244 ts_X5_edgesOf yd_X5_edgesOf rfl rfl ⟨Nat.le_of_ble_eq_true rfl, Nat.le_of_ble_eq_true rfl⟩ hP hK hN hP (q0 := 0) rfl rfl rfl rfl (Nat.le_of_ble_eq_true rfl) ⟨Nat.zero_le _, Nat.zero_le _⟩ hS (fun _ h9 => h9) dX5_edge_18 (fun v9 W9 H locs hF hP hS hz9 hk9 => ?_)
  obtain ⟨rfl, rfl⟩ := hF
  have hD : va_D (eA ad) (cw ad cI cZ cJ n g w P gm (ef_up (ef_fl wm (ew_M w P n) n) n (decide (0 < n))) gs false gb go gp gj (eg_bf w n) (ew_l w n) (ew_k w n) (ew_od w n) fa mn mg mw mP o) := eD_of hJ rfl
  refine W.eq (g2 := F0 m 21 ls [.ref (ad 3)]) rfl ?_
  refine va_get (D := D) (ci := 0) (v := .ref (ad 8)) (C := RX0) (T := TX0) (N := 3) hx hb hts (fun w h => List.mem_cons_of_mem _ (inX0 w h)) hown hK hP 3 rfl rfl 0 (by decide) (eT_h hts tw78) (fun _ h9 => h9) rfl dX5_edge_21 ?_
  refine lv_iload_n hx hb dX5_edge_24 rfl (lv_at hl 2 rfl) ?_
  refine va_zald hx hb hK hP 8 1 rfl rfl (vp_in_nI (n := i) (by omega) (by decide)) dX5_edge_25 ?_
  refine ef_eqi (y := ef_b ((ef_up (ef_fl wm (ew_M w P n) n) n (decide (0 < n))) i)) (by rw [nI_clamp (by omega)]) ?_
  refine ef_eqi (y := ef_b (eb_w w P n i)) (by rw [(ew_fin wm w P n) i hi]) ?_
  exact ec_zret hx hb hr hlk hP hS ⟨rfl, rfl⟩ dX5_edge_26

set_option maxHeartbeats 4000000 in
set_option maxRecDepth 100000 in
theorem c_X5_rank_wt (l : Launch) (D : va_G) (cI cZ cJ : ClassId) (ad : Nat → Nat) (hJ : eJ ad) (n : Nat) (g : Nat → Int32) (w : Nat → Int32) (P : Nat → Bool) (gm : Nat → Bool) (wm : Nat → Bool) (gs : Bool) (gb : Int32) (go : Bool) (gp : Bool) (gj : Bool) (wb : Int32) (wl : Int32) (wk : Int32) (wo : Bool) (fa : Int32) (mn : Nat) (mg : Nat → Int32) (mw : Nat → Int32) (mP : Nat → Bool) (o : Nat → Int64) (kd : Int32) (i : Nat) (hk1 : ei_ok kd 1) (hk : ¬ kd = 0) (hn : n ≤ 1000) (hi : i ≤ n) : ec_M l yX5_rank (Cond.code yX5_rank cX5_rank 3 (some .int) :: eT) ({ frames := 6, cells := 0, slots := 0, locals := 130 }) D (eTy cI cZ cJ) [.ref (ad 0), .int kd, .int (nI i)] (cw ad cI cZ cJ n g w P gm wm gs true gb go gp gj wb wl wk wo fa mn mg mw mP o) (ed (some (.int (nI (es_cu (eb_w w P n) (i + 1))))) (cw ad cI cZ cJ n g w P gm (ef_up (ef_fl wm (ew_M w P n) n) n (decide (0 < n))) gs false gb go gp gj (eg_bf w n) (ew_l w n) (ew_k w n) (ew_od w n) fa mn mg mw mP o)) (eA ad) := by
  refine ec_of (cc := cX5_rank) (maxL := 3) (ret := (some .int)) (by decide) rfl (Nat.le_of_ble_eq_true rfl) ?_
  intro p e s m args below meth c ls hx hb hr hts hown hlk hml hP hK hN hl
  have hown : s.vm.findClass RX5 = some m.cls := hown
  have hl : lv_has ls 3 [(0, .ref (ad 0)), (1, .int kd), (2, .int (nI i))] := hl
  have hS : va_S (eA ad) s.heap s.heap [] := va_S.rf
  have hD : va_D (eA ad) (cw ad cI cZ cJ n g w P gm wm gs true gb go gp gj wb wl wk wo fa mn mg mw mP o) := eD_of hJ rfl
  refine lv_iload_n hx hb dX5_rank_0 rfl (lv_at hl 1 rfl) ?_
  refine lv_iconst (v := 1) hx hb dX5_rank_1 (by decide) ?_
  refine er_Sv (own := RX5) (rest := []) hx hb hml hown hts hl.1 (k_X5_requireUpTo l D cI cZ cJ kd 1 hk1) tw129 tw1 tw127 tw128 yd_X5_requireUpTo rfl rfl ⟨Nat.le_of_ble_eq_true rfl, Nat.le_of_ble_eq_true rfl⟩ er_nil hK rfl rfl (Nat.le_of_ble_eq_true rfl) ⟨Nat.zero_le _, Nat.zero_le _⟩ dX5_rank_2 ?_
  refine lv_iload_n hx hb dX5_rank_5 rfl (lv_at hl 2 rfl) ?_
  refine lv_aload_n hx hb dX5_rank_6 rfl (lv_at hl 0 rfl) ?_
  refine va_get (D := D) (ci := 4) (v := .ref (ad 1)) (C := RX5) (T := TX5) (N := 3) hx hb hts (fun w h => List.mem_cons_of_mem _ (inX5 w h)) hown hK hP 0 rfl rfl 0 (by decide) (eT_h hts tw108) (fun _ h9 => h9) rfl dX5_rank_7 ?_
  refine va_get (D := D) (ci := 2) (v := .int (nI n)) (C := RX2) (T := TX2) (N := 4) hx hb hts (fun w h => List.mem_cons_of_mem _ (inX2 w h)) hown hK hP 1 rfl rfl 3 (by decide) (eT_h hts tw36) (fun _ h9 => h9) rfl dX5_rank_10 ?_
  refine er_Sv (own := RX5) (rest := []) hx hb hml hown hts hl.1 (k_X5_requireUpTo l D cI cZ cJ (nI i) (nI n) (ei_ok_n hi hn)) tw129 tw1 tw127 tw128 yd_X5_requireUpTo rfl rfl ⟨Nat.le_of_ble_eq_true rfl, Nat.le_of_ble_eq_true rfl⟩ er_nil hK rfl rfl (Nat.le_of_ble_eq_true rfl) ⟨Nat.zero_le _, Nat.zero_le _⟩ dX5_rank_13 ?_
  refine lv_aload_n hx hb dX5_rank_16 rfl (lv_at hl 0 rfl) ?_
  refine lv_iload_n hx hb dX5_rank_17 rfl (lv_at hl 1 rfl) ?_
  refine ec_V (own := RX5) (C := RX5) (b := (ad 0)) (rest := []) hx hb hml hown hts hl.1 (c_X5_edgesOf_wt l D cI cZ cJ ad hJ n g w P gm wm gs gb go gp gj wb wl wk wo fa mn mg mw mP o kd hk hn) tw245 tw1 tw242 tw244 ts_X5_edgesOf yd_X5_edgesOf rfl rfl ⟨Nat.le_of_ble_eq_true rfl, Nat.le_of_ble_eq_true rfl⟩ hP hK hN hP (q0 := 0) rfl rfl rfl rfl (Nat.le_of_ble_eq_true rfl) ⟨Nat.zero_le _, Nat.zero_le _⟩ hS (fun _ h9 => h9) dX5_rank_18 (fun v9 W9 H locs hF hP hS hz9 hk9 => ?_)
  obtain ⟨rfl, rfl⟩ := hF
  have hD : va_D (eA ad) (cw ad cI cZ cJ n g w P gm (ef_up (ef_fl wm (ew_M w P n) n) n (decide (0 < n))) gs false gb go gp gj (eg_bf w n) (ew_l w n) (ew_k w n) (ew_od w n) fa mn mg mw mP o) := eD_of hJ rfl
  refine W.eq (g2 := F0 m 21 ls [.ref (ad 3)]) rfl ?_
  refine lv_iload_n hx hb dX5_rank_21 rfl (lv_at hl 2 rfl) ?_
  refine er_V (own := RX5) (C := RX0) (b := (ad 3)) (rest := []) hx hb hml hown hts hl.1 (k_X0_countUpTo l D cI cZ cJ (ad 3) (ad 8) (ad 10) false (ef_up (ef_fl wm (ew_M w P n) n) n (decide (0 < n))) i (by omega)) tw349 tw3 tw346 tw347 tw348 yd_X0_countUpTo rfl rfl ⟨Nat.le_of_ble_eq_true rfl, Nat.le_of_ble_eq_true rfl⟩ (hP.sub [3, 8] rfl) hK hP (q0 := 3) rfl rfl rfl rfl (Nat.le_of_ble_eq_true rfl) ⟨Nat.zero_le _, Nat.zero_le _⟩ dX5_rank_22 ?_
  refine ef_eqi (y := nI (es_cu (eb_w w P n) (i + 1))) (by rw [es_cu_c (ew_fin wm w P n) _ (by omega)]) ?_
  exact ec_iret hx hb hr hlk hP hS ⟨rfl, rfl⟩ dX5_rank_25

set_option maxHeartbeats 4000000 in
set_option maxRecDepth 100000 in
theorem c_X5_hash_wt (l : Launch) (D : va_G) (cI cZ cJ : ClassId) (ad : Nat → Nat) (hJ : eJ ad) (n : Nat) (g : Nat → Int32) (w : Nat → Int32) (P : Nat → Bool) (gm : Nat → Bool) (wm : Nat → Bool) (gs : Bool) (gb : Int32) (go : Bool) (gp : Bool) (gj : Bool) (wb : Int32) (wl : Int32) (wk : Int32) (wo : Bool) (fa : Int32) (mn : Nat) (mg : Nat → Int32) (mw : Nat → Int32) (mP : Nat → Bool) (o : Nat → Int64) (kd : Int32) (hk1 : ei_ok kd 1) (hk : ¬ kd = 0) (hn : n ≤ 1000) : ec_M l yX5_hash (Cond.code yX5_hash cX5_hash 2 (some .int) :: eT) ({ frames := 6, cells := 0, slots := 0, locals := 130 }) D (eTy cI cZ cJ) [.ref (ad 0), .int kd] (cw ad cI cZ cJ n g w P gm wm gs true gb go gp gj wb wl wk wo fa mn mg mw mP o) (ed (some (.int (es_mx (eb_w w P n) (n + 1)))) (cw ad cI cZ cJ n g w P gm (ef_up (ef_fl wm (ew_M w P n) n) n (decide (0 < n))) gs false gb go gp gj (eg_bf w n) (ew_l w n) (ew_k w n) (ew_od w n) fa mn mg mw mP o)) (eA ad) := by
  refine ec_of (cc := cX5_hash) (maxL := 2) (ret := (some .int)) (by decide) rfl (Nat.le_of_ble_eq_true rfl) ?_
  intro p e s m args below meth c ls hx hb hr hts hown hlk hml hP hK hN hl
  have hown : s.vm.findClass RX5 = some m.cls := hown
  have hl : lv_has ls 2 [(0, .ref (ad 0)), (1, .int kd)] := hl
  have hS : va_S (eA ad) s.heap s.heap [] := va_S.rf
  have hD : va_D (eA ad) (cw ad cI cZ cJ n g w P gm wm gs true gb go gp gj wb wl wk wo fa mn mg mw mP o) := eD_of hJ rfl
  refine lv_iload_n hx hb dX5_hash_0 rfl (lv_at hl 1 rfl) ?_
  refine lv_iconst (v := 1) hx hb dX5_hash_1 (by decide) ?_
  refine er_Sv (own := RX5) (rest := []) hx hb hml hown hts hl.1 (k_X5_requireUpTo l D cI cZ cJ kd 1 hk1) tw129 tw1 tw127 tw128 yd_X5_requireUpTo rfl rfl ⟨Nat.le_of_ble_eq_true rfl, Nat.le_of_ble_eq_true rfl⟩ er_nil hK rfl rfl (Nat.le_of_ble_eq_true rfl) ⟨Nat.zero_le _, Nat.zero_le _⟩ dX5_hash_2 ?_
  refine lv_aload_n hx hb dX5_hash_5 rfl (lv_at hl 0 rfl) ?_
  refine lv_iload_n hx hb dX5_hash_6 rfl (lv_at hl 1 rfl) ?_
  refine ec_V (own := RX5) (C := RX5) (b := (ad 0)) (rest := []) hx hb hml hown hts hl.1 (c_X5_edgesOf_wt l D cI cZ cJ ad hJ n g w P gm wm gs gb go gp gj wb wl wk wo fa mn mg mw mP o kd hk hn) tw245 tw1 tw242 tw244 ts_X5_edgesOf yd_X5_edgesOf rfl rfl ⟨Nat.le_of_ble_eq_true rfl, Nat.le_of_ble_eq_true rfl⟩ hP hK hN hP (q0 := 0) rfl rfl rfl rfl (Nat.le_of_ble_eq_true rfl) ⟨Nat.zero_le _, Nat.zero_le _⟩ hS (fun _ h9 => h9) dX5_hash_7 (fun v9 W9 H locs hF hP hS hz9 hk9 => ?_)
  obtain ⟨rfl, rfl⟩ := hF
  have hD : va_D (eA ad) (cw ad cI cZ cJ n g w P gm (ef_up (ef_fl wm (ew_M w P n) n) n (decide (0 < n))) gs false gb go gp gj (eg_bf w n) (ew_l w n) (ew_k w n) (ew_od w n) fa mn mg mw mP o) := eD_of hJ rfl
  refine W.eq (g2 := F0 m 10 ls [.ref (ad 3)]) rfl ?_
  refine lv_aload_n hx hb dX5_hash_10 rfl (lv_at hl 0 rfl) ?_
  refine va_get (D := D) (ci := 4) (v := .ref (ad 1)) (C := RX5) (T := TX5) (N := 3) hx hb hts (fun w h => List.mem_cons_of_mem _ (inX5 w h)) hown hK hP 0 rfl rfl 0 (by decide) (eT_h hts tw108) (fun _ h9 => h9) rfl dX5_hash_11 ?_
  refine va_get (D := D) (ci := 2) (v := .int (nI n)) (C := RX2) (T := TX2) (N := 4) hx hb hts (fun w h => List.mem_cons_of_mem _ (inX2 w h)) hown hK hP 1 rfl rfl 3 (by decide) (eT_h hts tw36) (fun _ h9 => h9) rfl dX5_hash_14 ?_
  refine er_V (own := RX5) (C := RX0) (b := (ad 3)) (rest := []) hx hb hml hown hts hl.1 (k_X0_mixUpTo l D cI cZ cJ (ad 3) (ad 8) (ad 10) false (ef_up (ef_fl wm (ew_M w P n) n) n (decide (0 < n))) n hn) tw360 tw3 tw357 tw358 tw359 yd_X0_mixUpTo rfl rfl ⟨Nat.le_of_ble_eq_true rfl, Nat.le_of_ble_eq_true rfl⟩ (hP.sub [3, 8] rfl) hK hP (q0 := 3) rfl rfl rfl rfl (Nat.le_of_ble_eq_true rfl) ⟨Nat.zero_le _, Nat.zero_le _⟩ dX5_hash_17 ?_
  refine ef_eqi (y := es_mx (eb_w w P n) (n + 1)) (by rw [es_mx_c (ew_fin wm w P n) _ (by omega)]) ?_
  exact ec_iret hx hb hr hlk hP hS ⟨rfl, rfl⟩ dX5_hash_20

set_option maxHeartbeats 4000000 in
set_option maxRecDepth 100000 in
theorem c_X5_next_wtt (l : Launch) (D : va_G) (cI cZ cJ : ClassId) (ad : Nat → Nat) (hJ : eJ ad) (n : Nat) (g : Nat → Int32) (w : Nat → Int32) (P : Nat → Bool) (gm : Nat → Bool) (wm : Nat → Bool) (gs : Bool) (gb : Int32) (go : Bool) (gp : Bool) (gj : Bool) (wb : Int32) (wl : Int32) (wk : Int32) (wo : Bool) (fa : Int32) (mn : Nat) (mg : Nat → Int32) (mw : Nat → Int32) (mP : Nat → Bool) (o : Nat → Int64) (kd : Int32) (i : Nat) (hk1 : ei_ok kd 1) (hk : ¬ kd = 0) (hn : n ≤ 1000) (hi : i ≤ n) : ec_M l yX5_next (Cond.code yX5_next cX5_next 5 (some .int) :: eT) ({ frames := 6, cells := 0, slots := 0, locals := 130 }) D (eTy cI cZ cJ) [.ref (ad 0), .int kd, .int (nI i), .int (ef_b true)] (cw ad cI cZ cJ n g w P gm wm gs true gb go gp gj wb wl wk wo fa mn mg mw mP o) (ed (some (.int (es_lb (eb_w w P n) i))) (cw ad cI cZ cJ n g w P gm (ef_up (ef_fl wm (ew_M w P n) n) n (decide (0 < n))) gs false gb go gp gj (eg_bf w n) (ew_l w n) (ew_k w n) (ew_od w n) fa mn mg mw mP o)) (eA ad) := by
  refine ec_of (cc := cX5_next) (maxL := 5) (ret := (some .int)) (by decide) rfl (Nat.le_of_ble_eq_true rfl) ?_
  intro p e s m args below meth c ls hx hb hr hts hown hlk hml hP hK hN hl
  have hown : s.vm.findClass RX5 = some m.cls := hown
  have hl : lv_has ls 5 [(0, .ref (ad 0)), (1, .int kd), (2, .int (nI i)), (3, .int (ef_b true))] := hl
  have hS : va_S (eA ad) s.heap s.heap [] := va_S.rf
  have hD : va_D (eA ad) (cw ad cI cZ cJ n g w P gm wm gs true gb go gp gj wb wl wk wo fa mn mg mw mP o) := eD_of hJ rfl
  refine lv_iload_n hx hb dX5_next_0 rfl (lv_at hl 1 rfl) ?_
  refine lv_iconst (v := 1) hx hb dX5_next_1 (by decide) ?_
  refine er_Sv (own := RX5) (rest := []) hx hb hml hown hts hl.1 (k_X5_requireUpTo l D cI cZ cJ kd 1 hk1) tw129 tw1 tw127 tw128 yd_X5_requireUpTo rfl rfl ⟨Nat.le_of_ble_eq_true rfl, Nat.le_of_ble_eq_true rfl⟩ er_nil hK rfl rfl (Nat.le_of_ble_eq_true rfl) ⟨Nat.zero_le _, Nat.zero_le _⟩ dX5_next_2 ?_
  refine lv_iload_n hx hb dX5_next_5 rfl (lv_at hl 2 rfl) ?_
  refine lv_aload_n hx hb dX5_next_6 rfl (lv_at hl 0 rfl) ?_
  refine va_get (D := D) (ci := 4) (v := .ref (ad 1)) (C := RX5) (T := TX5) (N := 3) hx hb hts (fun w h => List.mem_cons_of_mem _ (inX5 w h)) hown hK hP 0 rfl rfl 0 (by decide) (eT_h hts tw108) (fun _ h9 => h9) rfl dX5_next_7 ?_
  refine va_get (D := D) (ci := 2) (v := .int (nI n)) (C := RX2) (T := TX2) (N := 4) hx hb hts (fun w h => List.mem_cons_of_mem _ (inX2 w h)) hown hK hP 1 rfl rfl 3 (by decide) (eT_h hts tw36) (fun _ h9 => h9) rfl dX5_next_10 ?_
  refine er_Sv (own := RX5) (rest := []) hx hb hml hown hts hl.1 (k_X5_requireUpTo l D cI cZ cJ (nI i) (nI n) (ei_ok_n hi hn)) tw129 tw1 tw127 tw128 yd_X5_requireUpTo rfl rfl ⟨Nat.le_of_ble_eq_true rfl, Nat.le_of_ble_eq_true rfl⟩ er_nil hK rfl rfl (Nat.le_of_ble_eq_true rfl) ⟨Nat.zero_le _, Nat.zero_le _⟩ dX5_next_13 ?_
  refine lv_aload_n hx hb dX5_next_16 rfl (lv_at hl 0 rfl) ?_
  refine lv_iload_n hx hb dX5_next_17 rfl (lv_at hl 1 rfl) ?_
  refine ec_V (own := RX5) (C := RX5) (b := (ad 0)) (rest := []) hx hb hml hown hts hl.1 (c_X5_edgesOf_wt l D cI cZ cJ ad hJ n g w P gm wm gs gb go gp gj wb wl wk wo fa mn mg mw mP o kd hk hn) tw245 tw1 tw242 tw244 ts_X5_edgesOf yd_X5_edgesOf rfl rfl ⟨Nat.le_of_ble_eq_true rfl, Nat.le_of_ble_eq_true rfl⟩ hP hK hN hP (q0 := 0) rfl rfl rfl rfl (Nat.le_of_ble_eq_true rfl) ⟨Nat.zero_le _, Nat.zero_le _⟩ hS (fun _ h9 => h9) dX5_next_18 (fun v9 W9 H locs hF hP hS hz9 hk9 => ?_)
  obtain ⟨rfl, rfl⟩ := hF
  have hD : va_D (eA ad) (cw ad cI cZ cJ n g w P gm (ef_up (ef_fl wm (ew_M w P n) n) n (decide (0 < n))) gs false gb go gp gj (eg_bf w n) (ew_l w n) (ew_k w n) (ew_od w n) fa mn mg mw mP o) := eD_of hJ rfl
  refine W.eq (g2 := F0 m 21 ls [.ref (ad 3)]) rfl ?_
  refine lv_astore (lv' := [(4, .ref (ad 3)), (0, .ref (ad 0)), (1, .int kd), (2, .int (nI i)), (3, .int (ef_b true))]) hx hb dX5_next_21 hl (Nat.le_of_ble_eq_true rfl) rfl (fun ls hl => ?_)
  refine lv_iload_n hx hb dX5_next_23 rfl (lv_at hl 4 rfl) ?_
  refine ef_if_eq (tgt := 36) hx hb dX5_next_24 (by decide) (fun h1 => ?_) (fun h1 => ?_)
  · skip
    exact Bool.noConfusion h1
  · skip
    refine lv_aload hx hb dX5_next_27 (lv_at hl 0 rfl) ?_
    refine lv_iload_n hx hb dX5_next_29 rfl (lv_at hl 3 rfl) ?_
    refine er_V (own := RX5) (C := RX0) (b := (ad 3)) (rest := []) hx hb hml hown hts hl.1 (k_X0_lastBefore l D cI cZ cJ (ad 3) (ad 8) (ad 10) false (ef_up (ef_fl wm (ew_M w P n) n) n (decide (0 < n))) i (by omega)) tw334 tw3 tw331 tw332 tw333 yd_X0_lastBefore rfl rfl ⟨Nat.le_of_ble_eq_true rfl, Nat.le_of_ble_eq_true rfl⟩ (hP.sub [3, 8] rfl) hK hP (q0 := 3) rfl rfl rfl rfl (Nat.le_of_ble_eq_true rfl) ⟨Nat.zero_le _, Nat.zero_le _⟩ dX5_next_30 ?_
    refine lv_goto (tgt := 49) hx hb dX5_next_33 (by decide) ?_
    refine ef_eqi (y := es_lb (eb_w w P n) i) (by rw [es_lb_c (ew_fin wm w P n) _ (by omega)]) ?_
    exact ec_iret hx hb hr hlk hP hS ⟨rfl, rfl⟩ dX5_next_49

set_option maxHeartbeats 4000000 in
set_option maxRecDepth 100000 in
theorem c_X5_next_wtf (l : Launch) (D : va_G) (cI cZ cJ : ClassId) (ad : Nat → Nat) (hJ : eJ ad) (n : Nat) (g : Nat → Int32) (w : Nat → Int32) (P : Nat → Bool) (gm : Nat → Bool) (wm : Nat → Bool) (gs : Bool) (gb : Int32) (go : Bool) (gp : Bool) (gj : Bool) (wb : Int32) (wl : Int32) (wk : Int32) (wo : Bool) (fa : Int32) (mn : Nat) (mg : Nat → Int32) (mw : Nat → Int32) (mP : Nat → Bool) (o : Nat → Int64) (kd : Int32) (i : Nat) (hk1 : ei_ok kd 1) (hk : ¬ kd = 0) (hn : n ≤ 1000) (hi : i ≤ n) : ec_M l yX5_next (Cond.code yX5_next cX5_next 5 (some .int) :: eT) ({ frames := 6, cells := 0, slots := 0, locals := 130 }) D (eTy cI cZ cJ) [.ref (ad 0), .int kd, .int (nI i), .int (ef_b false)] (cw ad cI cZ cJ n g w P gm wm gs true gb go gp gj wb wl wk wo fa mn mg mw mP o) (ed (some (.int (es_fb (eb_w w P n) (n - i) (i + 1)))) (cw ad cI cZ cJ n g w P gm (ef_up (ef_fl wm (ew_M w P n) n) n (decide (0 < n))) gs false gb go gp gj (eg_bf w n) (ew_l w n) (ew_k w n) (ew_od w n) fa mn mg mw mP o)) (eA ad) := by
  refine ec_of (cc := cX5_next) (maxL := 5) (ret := (some .int)) (by decide) rfl (Nat.le_of_ble_eq_true rfl) ?_
  intro p e s m args below meth c ls hx hb hr hts hown hlk hml hP hK hN hl
  have hown : s.vm.findClass RX5 = some m.cls := hown
  have hl : lv_has ls 5 [(0, .ref (ad 0)), (1, .int kd), (2, .int (nI i)), (3, .int (ef_b false))] := hl
  have hS : va_S (eA ad) s.heap s.heap [] := va_S.rf
  have hD : va_D (eA ad) (cw ad cI cZ cJ n g w P gm wm gs true gb go gp gj wb wl wk wo fa mn mg mw mP o) := eD_of hJ rfl
  refine lv_iload_n hx hb dX5_next_0 rfl (lv_at hl 1 rfl) ?_
  refine lv_iconst (v := 1) hx hb dX5_next_1 (by decide) ?_
  refine er_Sv (own := RX5) (rest := []) hx hb hml hown hts hl.1 (k_X5_requireUpTo l D cI cZ cJ kd 1 hk1) tw129 tw1 tw127 tw128 yd_X5_requireUpTo rfl rfl ⟨Nat.le_of_ble_eq_true rfl, Nat.le_of_ble_eq_true rfl⟩ er_nil hK rfl rfl (Nat.le_of_ble_eq_true rfl) ⟨Nat.zero_le _, Nat.zero_le _⟩ dX5_next_2 ?_
  refine lv_iload_n hx hb dX5_next_5 rfl (lv_at hl 2 rfl) ?_
  refine lv_aload_n hx hb dX5_next_6 rfl (lv_at hl 0 rfl) ?_
  refine va_get (D := D) (ci := 4) (v := .ref (ad 1)) (C := RX5) (T := TX5) (N := 3) hx hb hts (fun w h => List.mem_cons_of_mem _ (inX5 w h)) hown hK hP 0 rfl rfl 0 (by decide) (eT_h hts tw108) (fun _ h9 => h9) rfl dX5_next_7 ?_
  refine va_get (D := D) (ci := 2) (v := .int (nI n)) (C := RX2) (T := TX2) (N := 4) hx hb hts (fun w h => List.mem_cons_of_mem _ (inX2 w h)) hown hK hP 1 rfl rfl 3 (by decide) (eT_h hts tw36) (fun _ h9 => h9) rfl dX5_next_10 ?_
  refine er_Sv (own := RX5) (rest := []) hx hb hml hown hts hl.1 (k_X5_requireUpTo l D cI cZ cJ (nI i) (nI n) (ei_ok_n hi hn)) tw129 tw1 tw127 tw128 yd_X5_requireUpTo rfl rfl ⟨Nat.le_of_ble_eq_true rfl, Nat.le_of_ble_eq_true rfl⟩ er_nil hK rfl rfl (Nat.le_of_ble_eq_true rfl) ⟨Nat.zero_le _, Nat.zero_le _⟩ dX5_next_13 ?_
  refine lv_aload_n hx hb dX5_next_16 rfl (lv_at hl 0 rfl) ?_
  refine lv_iload_n hx hb dX5_next_17 rfl (lv_at hl 1 rfl) ?_
  refine ec_V (own := RX5) (C := RX5) (b := (ad 0)) (rest := []) hx hb hml hown hts hl.1 (c_X5_edgesOf_wt l D cI cZ cJ ad hJ n g w P gm wm gs gb go gp gj wb wl wk wo fa mn mg mw mP o kd hk hn) tw245 tw1 tw242 tw244 ts_X5_edgesOf yd_X5_edgesOf rfl rfl ⟨Nat.le_of_ble_eq_true rfl, Nat.le_of_ble_eq_true rfl⟩ hP hK hN hP (q0 := 0) rfl rfl rfl rfl (Nat.le_of_ble_eq_true rfl) ⟨Nat.zero_le _, Nat.zero_le _⟩ hS (fun _ h9 => h9) dX5_next_18 (fun v9 W9 H locs hF hP hS hz9 hk9 => ?_)
  obtain ⟨rfl, rfl⟩ := hF
  have hD : va_D (eA ad) (cw ad cI cZ cJ n g w P gm (ef_up (ef_fl wm (ew_M w P n) n) n (decide (0 < n))) gs false gb go gp gj (eg_bf w n) (ew_l w n) (ew_k w n) (ew_od w n) fa mn mg mw mP o) := eD_of hJ rfl
  refine W.eq (g2 := F0 m 21 ls [.ref (ad 3)]) rfl ?_
  refine lv_astore (lv' := [(4, .ref (ad 3)), (0, .ref (ad 0)), (1, .int kd), (2, .int (nI i)), (3, .int (ef_b false))]) hx hb dX5_next_21 hl (Nat.le_of_ble_eq_true rfl) rfl (fun ls hl => ?_)
  refine lv_iload_n hx hb dX5_next_23 rfl (lv_at hl 4 rfl) ?_
  refine ef_if_eq (tgt := 36) hx hb dX5_next_24 (by decide) (fun h1 => ?_) (fun h1 => ?_)
  · skip
    refine lv_aload hx hb dX5_next_36 (lv_at hl 0 rfl) ?_
    refine lv_iload_n hx hb dX5_next_38 rfl (lv_at hl 3 rfl) ?_
    refine lv_aload_n hx hb dX5_next_39 rfl (lv_at hl 1 rfl) ?_
    refine va_get (D := D) (ci := 4) (v := .ref (ad 1)) (C := RX5) (T := TX5) (N := 3) hx hb hts (fun w h => List.mem_cons_of_mem _ (inX5 w h)) hown hK hP 0 rfl rfl 0 (by decide) (eT_h hts tw108) (fun _ h9 => h9) rfl dX5_next_40 ?_
    refine va_get (D := D) (ci := 2) (v := .int (nI n)) (C := RX2) (T := TX2) (N := 4) hx hb hts (fun w h => List.mem_cons_of_mem _ (inX2 w h)) hown hK hP 1 rfl rfl 3 (by decide) (eT_h hts tw36) (fun _ h9 => h9) rfl dX5_next_43 ?_
    refine er_V (own := RX5) (C := RX0) (b := (ad 3)) (rest := []) hx hb hml hown hts hl.1 (k_X0_firstBehind l D cI cZ cJ (ad 3) (ad 8) (ad 10) false (ef_up (ef_fl wm (ew_M w P n) n) n (decide (0 < n))) i n hn hi) tw338 tw3 tw335 tw336 tw337 yd_X0_firstBehind rfl rfl ⟨Nat.le_of_ble_eq_true rfl, Nat.le_of_ble_eq_true rfl⟩ (hP.sub [3, 8] rfl) hK hP (q0 := 3) rfl rfl rfl rfl (Nat.le_of_ble_eq_true rfl) ⟨Nat.zero_le _, Nat.zero_le _⟩ dX5_next_46 ?_
    refine ef_eqi (y := es_fb (eb_w w P n) (n - i) (i + 1)) (by rw [es_fb_c (ew_fin wm w P n) _ _ (by omega)]) ?_
    exact ec_iret hx hb hr hlk hP hS ⟨rfl, rfl⟩ dX5_next_49
  · skip
    exact Bool.noConfusion h1

set_option maxHeartbeats 4000000 in
set_option maxRecDepth 100000 in
theorem c_X5_edge_wf (l : Launch) (D : va_G) (cI cZ cJ : ClassId) (ad : Nat → Nat) (hJ : eJ ad) (n : Nat) (g : Nat → Int32) (w : Nat → Int32) (P : Nat → Bool) (gm : Nat → Bool) (wm : Nat → Bool) (gs : Bool) (gb : Int32) (go : Bool) (gp : Bool) (gj : Bool) (wb : Int32) (wl : Int32) (wk : Int32) (wo : Bool) (fa : Int32) (mn : Nat) (mg : Nat → Int32) (mw : Nat → Int32) (mP : Nat → Bool) (o : Nat → Int64) (kd : Int32) (i : Nat) (hk1 : ei_ok kd 1) (hk : ¬ kd = 0) (hn : n ≤ 1000) (hm : ∀ j, j ≤ n → wm j = eb_w w P n j) (hi : i ≤ n) : ec_M l yX5_edge (Cond.code yX5_edge cX5_edge 3 (some .boolean) :: eT) ({ frames := 1, cells := 0, slots := 0, locals := 22 }) D (eTy cI cZ cJ) [.ref (ad 0), .int kd, .int (nI i)] (cw ad cI cZ cJ n g w P gm wm gs false gb go gp gj wb wl wk wo fa mn mg mw mP o) (ed (some (.int (ef_b (eb_w w P n i)))) (cw ad cI cZ cJ n g w P gm wm gs false gb go gp gj wb wl wk wo fa mn mg mw mP o)) (eA ad) := by
  refine ec_of (cc := cX5_edge) (maxL := 3) (ret := (some .boolean)) (by decide) rfl (Nat.le_of_ble_eq_true rfl) ?_
  intro p e s m args below meth c ls hx hb hr hts hown hlk hml hP hK hN hl
  have hown : s.vm.findClass RX5 = some m.cls := hown
  have hl : lv_has ls 3 [(0, .ref (ad 0)), (1, .int kd), (2, .int (nI i))] := hl
  have hS : va_S (eA ad) s.heap s.heap [] := va_S.rf
  have hD : va_D (eA ad) (cw ad cI cZ cJ n g w P gm wm gs false gb go gp gj wb wl wk wo fa mn mg mw mP o) := eD_of hJ rfl
  refine lv_iload_n hx hb dX5_edge_0 rfl (lv_at hl 1 rfl) ?_
  refine lv_iconst (v := 1) hx hb dX5_edge_1 (by decide) ?_
  refine er_Sv (own := RX5) (rest := []) hx hb hml hown hts hl.1 (k_X5_requireUpTo l D cI cZ cJ kd 1 hk1) tw129 tw1 tw127 tw128 yd_X5_requireUpTo rfl rfl ⟨Nat.le_of_ble_eq_true rfl, Nat.le_of_ble_eq_true rfl⟩ er_nil hK rfl rfl (Nat.le_of_ble_eq_true rfl) ⟨Nat.zero_le _, Nat.zero_le _⟩ dX5_edge_2 ?_
  refine lv_iload_n hx hb dX5_edge_5 rfl (lv_at hl 2 rfl) ?_
  refine lv_aload_n hx hb dX5_edge_6 rfl (lv_at hl 0 rfl) ?_
  refine va_get (D := D) (ci := 4) (v := .ref (ad 1)) (C := RX5) (T := TX5) (N := 3) hx hb hts (fun w h => List.mem_cons_of_mem _ (inX5 w h)) hown hK hP 0 rfl rfl 0 (by decide) (eT_h hts tw108) (fun _ h9 => h9) rfl dX5_edge_7 ?_
  refine va_get (D := D) (ci := 2) (v := .int (nI n)) (C := RX2) (T := TX2) (N := 4) hx hb hts (fun w h => List.mem_cons_of_mem _ (inX2 w h)) hown hK hP 1 rfl rfl 3 (by decide) (eT_h hts tw36) (fun _ h9 => h9) rfl dX5_edge_10 ?_
  refine er_Sv (own := RX5) (rest := []) hx hb hml hown hts hl.1 (k_X5_requireUpTo l D cI cZ cJ (nI i) (nI n) (ei_ok_n hi hn)) tw129 tw1 tw127 tw128 yd_X5_requireUpTo rfl rfl ⟨Nat.le_of_ble_eq_true rfl, Nat.le_of_ble_eq_true rfl⟩ er_nil hK rfl rfl (Nat.le_of_ble_eq_true rfl) ⟨Nat.zero_le _, Nat.zero_le _⟩ dX5_edge_13 ?_
  refine lv_aload_n hx hb dX5_edge_16 rfl (lv_at hl 0 rfl) ?_
  refine lv_iload_n hx hb dX5_edge_17 rfl (lv_at hl 1 rfl) ?_
  refine ec_V (own := RX5) (C := RX5) (b := (ad 0)) (rest := []) hx hb hml hown hts hl.1 (c_X5_edgesOf_wf l D cI cZ cJ ad hJ n g w P gm wm gs gb go gp gj wb wl wk wo fa mn mg mw mP o kd hk hn) tw245 tw1 tw242 tw244 ts_X5_edgesOf yd_X5_edgesOf rfl rfl ⟨Nat.le_of_ble_eq_true rfl, Nat.le_of_ble_eq_true rfl⟩ hP hK hN hP (q0 := 0) rfl rfl rfl rfl (Nat.le_of_ble_eq_true rfl) ⟨Nat.zero_le _, Nat.zero_le _⟩ hS (fun _ h9 => h9) dX5_edge_18 (fun v9 W9 H locs hF hP hS hz9 hk9 => ?_)
  obtain ⟨rfl, rfl⟩ := hF
  have hD : va_D (eA ad) (cw ad cI cZ cJ n g w P gm wm gs false gb go gp gj wb wl wk wo fa mn mg mw mP o) := eD_of hJ rfl
  refine W.eq (g2 := F0 m 21 ls [.ref (ad 3)]) rfl ?_
  refine va_get (D := D) (ci := 0) (v := .ref (ad 8)) (C := RX0) (T := TX0) (N := 3) hx hb hts (fun w h => List.mem_cons_of_mem _ (inX0 w h)) hown hK hP 3 rfl rfl 0 (by decide) (eT_h hts tw78) (fun _ h9 => h9) rfl dX5_edge_21 ?_
  refine lv_iload_n hx hb dX5_edge_24 rfl (lv_at hl 2 rfl) ?_
  refine va_zald hx hb hK hP 8 1 rfl rfl (vp_in_nI (n := i) (by omega) (by decide)) dX5_edge_25 ?_
  refine ef_eqi (y := ef_b (wm i)) (by rw [nI_clamp (by omega)]) ?_
  refine ef_eqi (y := ef_b (eb_w w P n i)) (by rw [(hm) i hi]) ?_
  exact ec_zret hx hb hr hlk hP hS ⟨rfl, rfl⟩ dX5_edge_26

set_option maxHeartbeats 4000000 in
set_option maxRecDepth 100000 in
theorem c_X5_rank_wf (l : Launch) (D : va_G) (cI cZ cJ : ClassId) (ad : Nat → Nat) (hJ : eJ ad) (n : Nat) (g : Nat → Int32) (w : Nat → Int32) (P : Nat → Bool) (gm : Nat → Bool) (wm : Nat → Bool) (gs : Bool) (gb : Int32) (go : Bool) (gp : Bool) (gj : Bool) (wb : Int32) (wl : Int32) (wk : Int32) (wo : Bool) (fa : Int32) (mn : Nat) (mg : Nat → Int32) (mw : Nat → Int32) (mP : Nat → Bool) (o : Nat → Int64) (kd : Int32) (i : Nat) (hk1 : ei_ok kd 1) (hk : ¬ kd = 0) (hn : n ≤ 1000) (hm : ∀ j, j ≤ n → wm j = eb_w w P n j) (hi : i ≤ n) : ec_M l yX5_rank (Cond.code yX5_rank cX5_rank 3 (some .int) :: eT) ({ frames := 1, cells := 0, slots := 0, locals := 23 }) D (eTy cI cZ cJ) [.ref (ad 0), .int kd, .int (nI i)] (cw ad cI cZ cJ n g w P gm wm gs false gb go gp gj wb wl wk wo fa mn mg mw mP o) (ed (some (.int (nI (es_cu (eb_w w P n) (i + 1))))) (cw ad cI cZ cJ n g w P gm wm gs false gb go gp gj wb wl wk wo fa mn mg mw mP o)) (eA ad) := by
  refine ec_of (cc := cX5_rank) (maxL := 3) (ret := (some .int)) (by decide) rfl (Nat.le_of_ble_eq_true rfl) ?_
  intro p e s m args below meth c ls hx hb hr hts hown hlk hml hP hK hN hl
  have hown : s.vm.findClass RX5 = some m.cls := hown
  have hl : lv_has ls 3 [(0, .ref (ad 0)), (1, .int kd), (2, .int (nI i))] := hl
  have hS : va_S (eA ad) s.heap s.heap [] := va_S.rf
  have hD : va_D (eA ad) (cw ad cI cZ cJ n g w P gm wm gs false gb go gp gj wb wl wk wo fa mn mg mw mP o) := eD_of hJ rfl
  refine lv_iload_n hx hb dX5_rank_0 rfl (lv_at hl 1 rfl) ?_
  refine lv_iconst (v := 1) hx hb dX5_rank_1 (by decide) ?_
  refine er_Sv (own := RX5) (rest := []) hx hb hml hown hts hl.1 (k_X5_requireUpTo l D cI cZ cJ kd 1 hk1) tw129 tw1 tw127 tw128 yd_X5_requireUpTo rfl rfl ⟨Nat.le_of_ble_eq_true rfl, Nat.le_of_ble_eq_true rfl⟩ er_nil hK rfl rfl (Nat.le_of_ble_eq_true rfl) ⟨Nat.zero_le _, Nat.zero_le _⟩ dX5_rank_2 ?_
  refine lv_iload_n hx hb dX5_rank_5 rfl (lv_at hl 2 rfl) ?_
  refine lv_aload_n hx hb dX5_rank_6 rfl (lv_at hl 0 rfl) ?_
  refine va_get (D := D) (ci := 4) (v := .ref (ad 1)) (C := RX5) (T := TX5) (N := 3) hx hb hts (fun w h => List.mem_cons_of_mem _ (inX5 w h)) hown hK hP 0 rfl rfl 0 (by decide) (eT_h hts tw108) (fun _ h9 => h9) rfl dX5_rank_7 ?_
  refine va_get (D := D) (ci := 2) (v := .int (nI n)) (C := RX2) (T := TX2) (N := 4) hx hb hts (fun w h => List.mem_cons_of_mem _ (inX2 w h)) hown hK hP 1 rfl rfl 3 (by decide) (eT_h hts tw36) (fun _ h9 => h9) rfl dX5_rank_10 ?_
  refine er_Sv (own := RX5) (rest := []) hx hb hml hown hts hl.1 (k_X5_requireUpTo l D cI cZ cJ (nI i) (nI n) (ei_ok_n hi hn)) tw129 tw1 tw127 tw128 yd_X5_requireUpTo rfl rfl ⟨Nat.le_of_ble_eq_true rfl, Nat.le_of_ble_eq_true rfl⟩ er_nil hK rfl rfl (Nat.le_of_ble_eq_true rfl) ⟨Nat.zero_le _, Nat.zero_le _⟩ dX5_rank_13 ?_
  refine lv_aload_n hx hb dX5_rank_16 rfl (lv_at hl 0 rfl) ?_
  refine lv_iload_n hx hb dX5_rank_17 rfl (lv_at hl 1 rfl) ?_
  refine ec_V (own := RX5) (C := RX5) (b := (ad 0)) (rest := []) hx hb hml hown hts hl.1 (c_X5_edgesOf_wf l D cI cZ cJ ad hJ n g w P gm wm gs gb go gp gj wb wl wk wo fa mn mg mw mP o kd hk hn) tw245 tw1 tw242 tw244 ts_X5_edgesOf yd_X5_edgesOf rfl rfl ⟨Nat.le_of_ble_eq_true rfl, Nat.le_of_ble_eq_true rfl⟩ hP hK hN hP (q0 := 0) rfl rfl rfl rfl (Nat.le_of_ble_eq_true rfl) ⟨Nat.zero_le _, Nat.zero_le _⟩ hS (fun _ h9 => h9) dX5_rank_18 (fun v9 W9 H locs hF hP hS hz9 hk9 => ?_)
  obtain ⟨rfl, rfl⟩ := hF
  have hD : va_D (eA ad) (cw ad cI cZ cJ n g w P gm wm gs false gb go gp gj wb wl wk wo fa mn mg mw mP o) := eD_of hJ rfl
  refine W.eq (g2 := F0 m 21 ls [.ref (ad 3)]) rfl ?_
  refine lv_iload_n hx hb dX5_rank_21 rfl (lv_at hl 2 rfl) ?_
  refine er_V (own := RX5) (C := RX0) (b := (ad 3)) (rest := []) hx hb hml hown hts hl.1 (k_X0_countUpTo l D cI cZ cJ (ad 3) (ad 8) (ad 10) false wm i (by omega)) tw349 tw3 tw346 tw347 tw348 yd_X0_countUpTo rfl rfl ⟨Nat.le_of_ble_eq_true rfl, Nat.le_of_ble_eq_true rfl⟩ (hP.sub [3, 8] rfl) hK hP (q0 := 3) rfl rfl rfl rfl (Nat.le_of_ble_eq_true rfl) ⟨Nat.zero_le _, Nat.zero_le _⟩ dX5_rank_22 ?_
  refine ef_eqi (y := nI (es_cu (eb_w w P n) (i + 1))) (by rw [es_cu_c (hm) _ (by omega)]) ?_
  exact ec_iret hx hb hr hlk hP hS ⟨rfl, rfl⟩ dX5_rank_25

set_option maxHeartbeats 4000000 in
set_option maxRecDepth 100000 in
theorem c_X5_hash_wf (l : Launch) (D : va_G) (cI cZ cJ : ClassId) (ad : Nat → Nat) (hJ : eJ ad) (n : Nat) (g : Nat → Int32) (w : Nat → Int32) (P : Nat → Bool) (gm : Nat → Bool) (wm : Nat → Bool) (gs : Bool) (gb : Int32) (go : Bool) (gp : Bool) (gj : Bool) (wb : Int32) (wl : Int32) (wk : Int32) (wo : Bool) (fa : Int32) (mn : Nat) (mg : Nat → Int32) (mw : Nat → Int32) (mP : Nat → Bool) (o : Nat → Int64) (kd : Int32) (hk1 : ei_ok kd 1) (hk : ¬ kd = 0) (hn : n ≤ 1000) (hm : ∀ j, j ≤ n → wm j = eb_w w P n j) : ec_M l yX5_hash (Cond.code yX5_hash cX5_hash 2 (some .int) :: eT) ({ frames := 1, cells := 0, slots := 0, locals := 23 }) D (eTy cI cZ cJ) [.ref (ad 0), .int kd] (cw ad cI cZ cJ n g w P gm wm gs false gb go gp gj wb wl wk wo fa mn mg mw mP o) (ed (some (.int (es_mx (eb_w w P n) (n + 1)))) (cw ad cI cZ cJ n g w P gm wm gs false gb go gp gj wb wl wk wo fa mn mg mw mP o)) (eA ad) := by
  refine ec_of (cc := cX5_hash) (maxL := 2) (ret := (some .int)) (by decide) rfl (Nat.le_of_ble_eq_true rfl) ?_
  intro p e s m args below meth c ls hx hb hr hts hown hlk hml hP hK hN hl
  have hown : s.vm.findClass RX5 = some m.cls := hown
  have hl : lv_has ls 2 [(0, .ref (ad 0)), (1, .int kd)] := hl
  have hS : va_S (eA ad) s.heap s.heap [] := va_S.rf
  have hD : va_D (eA ad) (cw ad cI cZ cJ n g w P gm wm gs false gb go gp gj wb wl wk wo fa mn mg mw mP o) := eD_of hJ rfl
  refine lv_iload_n hx hb dX5_hash_0 rfl (lv_at hl 1 rfl) ?_
  refine lv_iconst (v := 1) hx hb dX5_hash_1 (by decide) ?_
  refine er_Sv (own := RX5) (rest := []) hx hb hml hown hts hl.1 (k_X5_requireUpTo l D cI cZ cJ kd 1 hk1) tw129 tw1 tw127 tw128 yd_X5_requireUpTo rfl rfl ⟨Nat.le_of_ble_eq_true rfl, Nat.le_of_ble_eq_true rfl⟩ er_nil hK rfl rfl (Nat.le_of_ble_eq_true rfl) ⟨Nat.zero_le _, Nat.zero_le _⟩ dX5_hash_2 ?_
  refine lv_aload_n hx hb dX5_hash_5 rfl (lv_at hl 0 rfl) ?_
  refine lv_iload_n hx hb dX5_hash_6 rfl (lv_at hl 1 rfl) ?_
  refine ec_V (own := RX5) (C := RX5) (b := (ad 0)) (rest := []) hx hb hml hown hts hl.1 (c_X5_edgesOf_wf l D cI cZ cJ ad hJ n g w P gm wm gs gb go gp gj wb wl wk wo fa mn mg mw mP o kd hk hn) tw245 tw1 tw242 tw244 ts_X5_edgesOf yd_X5_edgesOf rfl rfl ⟨Nat.le_of_ble_eq_true rfl, Nat.le_of_ble_eq_true rfl⟩ hP hK hN hP (q0 := 0) rfl rfl rfl rfl (Nat.le_of_ble_eq_true rfl) ⟨Nat.zero_le _, Nat.zero_le _⟩ hS (fun _ h9 => h9) dX5_hash_7 (fun v9 W9 H locs hF hP hS hz9 hk9 => ?_)
  obtain ⟨rfl, rfl⟩ := hF
  have hD : va_D (eA ad) (cw ad cI cZ cJ n g w P gm wm gs false gb go gp gj wb wl wk wo fa mn mg mw mP o) := eD_of hJ rfl
  refine W.eq (g2 := F0 m 10 ls [.ref (ad 3)]) rfl ?_
  refine lv_aload_n hx hb dX5_hash_10 rfl (lv_at hl 0 rfl) ?_
  refine va_get (D := D) (ci := 4) (v := .ref (ad 1)) (C := RX5) (T := TX5) (N := 3) hx hb hts (fun w h => List.mem_cons_of_mem _ (inX5 w h)) hown hK hP 0 rfl rfl 0 (by decide) (eT_h hts tw108) (fun _ h9 => h9) rfl dX5_hash_11 ?_
  refine va_get (D := D) (ci := 2) (v := .int (nI n)) (C := RX2) (T := TX2) (N := 4) hx hb hts (fun w h => List.mem_cons_of_mem _ (inX2 w h)) hown hK hP 1 rfl rfl 3 (by decide) (eT_h hts tw36) (fun _ h9 => h9) rfl dX5_hash_14 ?_
  refine er_V (own := RX5) (C := RX0) (b := (ad 3)) (rest := []) hx hb hml hown hts hl.1 (k_X0_mixUpTo l D cI cZ cJ (ad 3) (ad 8) (ad 10) false wm n hn) tw360 tw3 tw357 tw358 tw359 yd_X0_mixUpTo rfl rfl ⟨Nat.le_of_ble_eq_true rfl, Nat.le_of_ble_eq_true rfl⟩ (hP.sub [3, 8] rfl) hK hP (q0 := 3) rfl rfl rfl rfl (Nat.le_of_ble_eq_true rfl) ⟨Nat.zero_le _, Nat.zero_le _⟩ dX5_hash_17 ?_
  refine ef_eqi (y := es_mx (eb_w w P n) (n + 1)) (by rw [es_mx_c (hm) _ (by omega)]) ?_
  exact ec_iret hx hb hr hlk hP hS ⟨rfl, rfl⟩ dX5_hash_20

set_option maxHeartbeats 4000000 in
set_option maxRecDepth 100000 in
theorem c_X5_next_wft (l : Launch) (D : va_G) (cI cZ cJ : ClassId) (ad : Nat → Nat) (hJ : eJ ad) (n : Nat) (g : Nat → Int32) (w : Nat → Int32) (P : Nat → Bool) (gm : Nat → Bool) (wm : Nat → Bool) (gs : Bool) (gb : Int32) (go : Bool) (gp : Bool) (gj : Bool) (wb : Int32) (wl : Int32) (wk : Int32) (wo : Bool) (fa : Int32) (mn : Nat) (mg : Nat → Int32) (mw : Nat → Int32) (mP : Nat → Bool) (o : Nat → Int64) (kd : Int32) (i : Nat) (hk1 : ei_ok kd 1) (hk : ¬ kd = 0) (hn : n ≤ 1000) (hm : ∀ j, j ≤ n → wm j = eb_w w P n j) (hi : i ≤ n) : ec_M l yX5_next (Cond.code yX5_next cX5_next 5 (some .int) :: eT) ({ frames := 1, cells := 0, slots := 0, locals := 22 }) D (eTy cI cZ cJ) [.ref (ad 0), .int kd, .int (nI i), .int (ef_b true)] (cw ad cI cZ cJ n g w P gm wm gs false gb go gp gj wb wl wk wo fa mn mg mw mP o) (ed (some (.int (es_lb (eb_w w P n) i))) (cw ad cI cZ cJ n g w P gm wm gs false gb go gp gj wb wl wk wo fa mn mg mw mP o)) (eA ad) := by
  refine ec_of (cc := cX5_next) (maxL := 5) (ret := (some .int)) (by decide) rfl (Nat.le_of_ble_eq_true rfl) ?_
  intro p e s m args below meth c ls hx hb hr hts hown hlk hml hP hK hN hl
  have hown : s.vm.findClass RX5 = some m.cls := hown
  have hl : lv_has ls 5 [(0, .ref (ad 0)), (1, .int kd), (2, .int (nI i)), (3, .int (ef_b true))] := hl
  have hS : va_S (eA ad) s.heap s.heap [] := va_S.rf
  have hD : va_D (eA ad) (cw ad cI cZ cJ n g w P gm wm gs false gb go gp gj wb wl wk wo fa mn mg mw mP o) := eD_of hJ rfl
  refine lv_iload_n hx hb dX5_next_0 rfl (lv_at hl 1 rfl) ?_
  refine lv_iconst (v := 1) hx hb dX5_next_1 (by decide) ?_
  refine er_Sv (own := RX5) (rest := []) hx hb hml hown hts hl.1 (k_X5_requireUpTo l D cI cZ cJ kd 1 hk1) tw129 tw1 tw127 tw128 yd_X5_requireUpTo rfl rfl ⟨Nat.le_of_ble_eq_true rfl, Nat.le_of_ble_eq_true rfl⟩ er_nil hK rfl rfl (Nat.le_of_ble_eq_true rfl) ⟨Nat.zero_le _, Nat.zero_le _⟩ dX5_next_2 ?_
  refine lv_iload_n hx hb dX5_next_5 rfl (lv_at hl 2 rfl) ?_
  refine lv_aload_n hx hb dX5_next_6 rfl (lv_at hl 0 rfl) ?_
  refine va_get (D := D) (ci := 4) (v := .ref (ad 1)) (C := RX5) (T := TX5) (N := 3) hx hb hts (fun w h => List.mem_cons_of_mem _ (inX5 w h)) hown hK hP 0 rfl rfl 0 (by decide) (eT_h hts tw108) (fun _ h9 => h9) rfl dX5_next_7 ?_
  refine va_get (D := D) (ci := 2) (v := .int (nI n)) (C := RX2) (T := TX2) (N := 4) hx hb hts (fun w h => List.mem_cons_of_mem _ (inX2 w h)) hown hK hP 1 rfl rfl 3 (by decide) (eT_h hts tw36) (fun _ h9 => h9) rfl dX5_next_10 ?_
  refine er_Sv (own := RX5) (rest := []) hx hb hml hown hts hl.1 (k_X5_requireUpTo l D cI cZ cJ (nI i) (nI n) (ei_ok_n hi hn)) tw129 tw1 tw127 tw128 yd_X5_requireUpTo rfl rfl ⟨Nat.le_of_ble_eq_true rfl, Nat.le_of_ble_eq_true rfl⟩ er_nil hK rfl rfl (Nat.le_of_ble_eq_true rfl) ⟨Nat.zero_le _, Nat.zero_le _⟩ dX5_next_13 ?_
  refine lv_aload_n hx hb dX5_next_16 rfl (lv_at hl 0 rfl) ?_
  refine lv_iload_n hx hb dX5_next_17 rfl (lv_at hl 1 rfl) ?_
  refine ec_V (own := RX5) (C := RX5) (b := (ad 0)) (rest := []) hx hb hml hown hts hl.1 (c_X5_edgesOf_wf l D cI cZ cJ ad hJ n g w P gm wm gs gb go gp gj wb wl wk wo fa mn mg mw mP o kd hk hn) tw245 tw1 tw242 tw244 ts_X5_edgesOf yd_X5_edgesOf rfl rfl ⟨Nat.le_of_ble_eq_true rfl, Nat.le_of_ble_eq_true rfl⟩ hP hK hN hP (q0 := 0) rfl rfl rfl rfl (Nat.le_of_ble_eq_true rfl) ⟨Nat.zero_le _, Nat.zero_le _⟩ hS (fun _ h9 => h9) dX5_next_18 (fun v9 W9 H locs hF hP hS hz9 hk9 => ?_)
  obtain ⟨rfl, rfl⟩ := hF
  have hD : va_D (eA ad) (cw ad cI cZ cJ n g w P gm wm gs false gb go gp gj wb wl wk wo fa mn mg mw mP o) := eD_of hJ rfl
  refine W.eq (g2 := F0 m 21 ls [.ref (ad 3)]) rfl ?_
  refine lv_astore (lv' := [(4, .ref (ad 3)), (0, .ref (ad 0)), (1, .int kd), (2, .int (nI i)), (3, .int (ef_b true))]) hx hb dX5_next_21 hl (Nat.le_of_ble_eq_true rfl) rfl (fun ls hl => ?_)
  refine lv_iload_n hx hb dX5_next_23 rfl (lv_at hl 4 rfl) ?_
  refine ef_if_eq (tgt := 36) hx hb dX5_next_24 (by decide) (fun h1 => ?_) (fun h1 => ?_)
  · skip
    exact Bool.noConfusion h1
  · skip
    refine lv_aload hx hb dX5_next_27 (lv_at hl 0 rfl) ?_
    refine lv_iload_n hx hb dX5_next_29 rfl (lv_at hl 3 rfl) ?_
    refine er_V (own := RX5) (C := RX0) (b := (ad 3)) (rest := []) hx hb hml hown hts hl.1 (k_X0_lastBefore l D cI cZ cJ (ad 3) (ad 8) (ad 10) false wm i (by omega)) tw334 tw3 tw331 tw332 tw333 yd_X0_lastBefore rfl rfl ⟨Nat.le_of_ble_eq_true rfl, Nat.le_of_ble_eq_true rfl⟩ (hP.sub [3, 8] rfl) hK hP (q0 := 3) rfl rfl rfl rfl (Nat.le_of_ble_eq_true rfl) ⟨Nat.zero_le _, Nat.zero_le _⟩ dX5_next_30 ?_
    refine lv_goto (tgt := 49) hx hb dX5_next_33 (by decide) ?_
    refine ef_eqi (y := es_lb (eb_w w P n) i) (by rw [es_lb_c (hm) _ (by omega)]) ?_
    exact ec_iret hx hb hr hlk hP hS ⟨rfl, rfl⟩ dX5_next_49

set_option maxHeartbeats 4000000 in
set_option maxRecDepth 100000 in
theorem c_X5_next_wff (l : Launch) (D : va_G) (cI cZ cJ : ClassId) (ad : Nat → Nat) (hJ : eJ ad) (n : Nat) (g : Nat → Int32) (w : Nat → Int32) (P : Nat → Bool) (gm : Nat → Bool) (wm : Nat → Bool) (gs : Bool) (gb : Int32) (go : Bool) (gp : Bool) (gj : Bool) (wb : Int32) (wl : Int32) (wk : Int32) (wo : Bool) (fa : Int32) (mn : Nat) (mg : Nat → Int32) (mw : Nat → Int32) (mP : Nat → Bool) (o : Nat → Int64) (kd : Int32) (i : Nat) (hk1 : ei_ok kd 1) (hk : ¬ kd = 0) (hn : n ≤ 1000) (hm : ∀ j, j ≤ n → wm j = eb_w w P n j) (hi : i ≤ n) : ec_M l yX5_next (Cond.code yX5_next cX5_next 5 (some .int) :: eT) ({ frames := 1, cells := 0, slots := 0, locals := 23 }) D (eTy cI cZ cJ) [.ref (ad 0), .int kd, .int (nI i), .int (ef_b false)] (cw ad cI cZ cJ n g w P gm wm gs false gb go gp gj wb wl wk wo fa mn mg mw mP o) (ed (some (.int (es_fb (eb_w w P n) (n - i) (i + 1)))) (cw ad cI cZ cJ n g w P gm wm gs false gb go gp gj wb wl wk wo fa mn mg mw mP o)) (eA ad) := by
  refine ec_of (cc := cX5_next) (maxL := 5) (ret := (some .int)) (by decide) rfl (Nat.le_of_ble_eq_true rfl) ?_
  intro p e s m args below meth c ls hx hb hr hts hown hlk hml hP hK hN hl
  have hown : s.vm.findClass RX5 = some m.cls := hown
  have hl : lv_has ls 5 [(0, .ref (ad 0)), (1, .int kd), (2, .int (nI i)), (3, .int (ef_b false))] := hl
  have hS : va_S (eA ad) s.heap s.heap [] := va_S.rf
  have hD : va_D (eA ad) (cw ad cI cZ cJ n g w P gm wm gs false gb go gp gj wb wl wk wo fa mn mg mw mP o) := eD_of hJ rfl
  refine lv_iload_n hx hb dX5_next_0 rfl (lv_at hl 1 rfl) ?_
  refine lv_iconst (v := 1) hx hb dX5_next_1 (by decide) ?_
  refine er_Sv (own := RX5) (rest := []) hx hb hml hown hts hl.1 (k_X5_requireUpTo l D cI cZ cJ kd 1 hk1) tw129 tw1 tw127 tw128 yd_X5_requireUpTo rfl rfl ⟨Nat.le_of_ble_eq_true rfl, Nat.le_of_ble_eq_true rfl⟩ er_nil hK rfl rfl (Nat.le_of_ble_eq_true rfl) ⟨Nat.zero_le _, Nat.zero_le _⟩ dX5_next_2 ?_
  refine lv_iload_n hx hb dX5_next_5 rfl (lv_at hl 2 rfl) ?_
  refine lv_aload_n hx hb dX5_next_6 rfl (lv_at hl 0 rfl) ?_
  refine va_get (D := D) (ci := 4) (v := .ref (ad 1)) (C := RX5) (T := TX5) (N := 3) hx hb hts (fun w h => List.mem_cons_of_mem _ (inX5 w h)) hown hK hP 0 rfl rfl 0 (by decide) (eT_h hts tw108) (fun _ h9 => h9) rfl dX5_next_7 ?_
  refine va_get (D := D) (ci := 2) (v := .int (nI n)) (C := RX2) (T := TX2) (N := 4) hx hb hts (fun w h => List.mem_cons_of_mem _ (inX2 w h)) hown hK hP 1 rfl rfl 3 (by decide) (eT_h hts tw36) (fun _ h9 => h9) rfl dX5_next_10 ?_
  refine er_Sv (own := RX5) (rest := []) hx hb hml hown hts hl.1 (k_X5_requireUpTo l D cI cZ cJ (nI i) (nI n) (ei_ok_n hi hn)) tw129 tw1 tw127 tw128 yd_X5_requireUpTo rfl rfl ⟨Nat.le_of_ble_eq_true rfl, Nat.le_of_ble_eq_true rfl⟩ er_nil hK rfl rfl (Nat.le_of_ble_eq_true rfl) ⟨Nat.zero_le _, Nat.zero_le _⟩ dX5_next_13 ?_
  refine lv_aload_n hx hb dX5_next_16 rfl (lv_at hl 0 rfl) ?_
  refine lv_iload_n hx hb dX5_next_17 rfl (lv_at hl 1 rfl) ?_
  refine ec_V (own := RX5) (C := RX5) (b := (ad 0)) (rest := []) hx hb hml hown hts hl.1 (c_X5_edgesOf_wf l D cI cZ cJ ad hJ n g w P gm wm gs gb go gp gj wb wl wk wo fa mn mg mw mP o kd hk hn) tw245 tw1 tw242 tw244 ts_X5_edgesOf yd_X5_edgesOf rfl rfl ⟨Nat.le_of_ble_eq_true rfl, Nat.le_of_ble_eq_true rfl⟩ hP hK hN hP (q0 := 0) rfl rfl rfl rfl (Nat.le_of_ble_eq_true rfl) ⟨Nat.zero_le _, Nat.zero_le _⟩ hS (fun _ h9 => h9) dX5_next_18 (fun v9 W9 H locs hF hP hS hz9 hk9 => ?_)
  obtain ⟨rfl, rfl⟩ := hF
  have hD : va_D (eA ad) (cw ad cI cZ cJ n g w P gm wm gs false gb go gp gj wb wl wk wo fa mn mg mw mP o) := eD_of hJ rfl
  refine W.eq (g2 := F0 m 21 ls [.ref (ad 3)]) rfl ?_
  refine lv_astore (lv' := [(4, .ref (ad 3)), (0, .ref (ad 0)), (1, .int kd), (2, .int (nI i)), (3, .int (ef_b false))]) hx hb dX5_next_21 hl (Nat.le_of_ble_eq_true rfl) rfl (fun ls hl => ?_)
  refine lv_iload_n hx hb dX5_next_23 rfl (lv_at hl 4 rfl) ?_
  refine ef_if_eq (tgt := 36) hx hb dX5_next_24 (by decide) (fun h1 => ?_) (fun h1 => ?_)
  · skip
    refine lv_aload hx hb dX5_next_36 (lv_at hl 0 rfl) ?_
    refine lv_iload_n hx hb dX5_next_38 rfl (lv_at hl 3 rfl) ?_
    refine lv_aload_n hx hb dX5_next_39 rfl (lv_at hl 1 rfl) ?_
    refine va_get (D := D) (ci := 4) (v := .ref (ad 1)) (C := RX5) (T := TX5) (N := 3) hx hb hts (fun w h => List.mem_cons_of_mem _ (inX5 w h)) hown hK hP 0 rfl rfl 0 (by decide) (eT_h hts tw108) (fun _ h9 => h9) rfl dX5_next_40 ?_
    refine va_get (D := D) (ci := 2) (v := .int (nI n)) (C := RX2) (T := TX2) (N := 4) hx hb hts (fun w h => List.mem_cons_of_mem _ (inX2 w h)) hown hK hP 1 rfl rfl 3 (by decide) (eT_h hts tw36) (fun _ h9 => h9) rfl dX5_next_43 ?_
    refine er_V (own := RX5) (C := RX0) (b := (ad 3)) (rest := []) hx hb hml hown hts hl.1 (k_X0_firstBehind l D cI cZ cJ (ad 3) (ad 8) (ad 10) false wm i n hn hi) tw338 tw3 tw335 tw336 tw337 yd_X0_firstBehind rfl rfl ⟨Nat.le_of_ble_eq_true rfl, Nat.le_of_ble_eq_true rfl⟩ (hP.sub [3, 8] rfl) hK hP (q0 := 3) rfl rfl rfl rfl (Nat.le_of_ble_eq_true rfl) ⟨Nat.zero_le _, Nat.zero_le _⟩ dX5_next_46 ?_
    refine ef_eqi (y := es_fb (eb_w w P n) (n - i) (i + 1)) (by rw [es_fb_c (hm) _ _ (by omega)]) ?_
    exact ec_iret hx hb hr hlk hP hS ⟨rfl, rfl⟩ dX5_next_49
  · skip
    exact Bool.noConfusion h1
