def ef_l (b : Bool) : Int64 := if b then 1 else 0

set_option maxHeartbeats 4000000 in
set_option maxRecDepth 100000 in
theorem h_add (l : Launch) (D : va_G) (cI cZ cJ : ClassId) (ad : Nat → Nat) (hJ : eJ ad) (b0 : Nat) (n : Nat) (g : Nat → Int32) (w : Nat → Int32) (P : Nat → Bool) (gm : Nat → Bool) (wm : Nat → Bool) (gs : Bool) (wz : Bool) (gb : Int32) (go : Bool) (gp : Bool) (gj : Bool) (wb : Int32) (wl : Int32) (wk : Int32) (wo : Bool) (fa : Int32) (mn : Nat) (mg : Nat → Int32) (mw : Nat → Int32) (mP : Nat → Bool) (o : Nat → Int64) (x y : Int32) (b : Bool) (hg : ei_ok x 13) (hw0 : ei_ok y 18) (hn : n < 1000) : eh_M l yL_add (Cond.codeWith yL_add cL_add 6 (some .int) [(0, 12, 15, 13), (0, 12, 19, 15)] :: eT) ({ frames := 8, cells := 1, slots := 6, locals := 154 }) D (eTy cI cZ cJ) [.ref (ad 0), .int x, .int y, .int (ef_b b), .ref (ad 15)] (cw ad cI cZ cJ n g w P gm wm gs wz gb go gp gj wb wl wk wo fa mn mg mw mP o) b0 (ed (some (.int 0)) (cw ad cI cZ cJ (n + 1) (upd g n x) (upd w n y) (ef_up P n b) gm wm true true gb go gp gj wb wl wk wo fa mn mg mw mP (vp_updL o 0 ((nI (n + 1)).toInt64)))) (eA ad) := by
  refine eh_of (cc := cL_add) (maxL := 6) (ret := (some .int)) (hh := [(0, 12, 15, 13), (0, 12, 19, 15)]) (by decide) rfl (Nat.le_of_ble_eq_true rfl) ?_
  intro p e s m args below meth c ls hx hb hr hts hown hlk hml htab hP hK hN hZ hl
  have hown : s.vm.findClass RL = some m.cls := hown
  have hl : lv_has ls 6 [(0, .ref (ad 0)), (1, .int x), (2, .int y), (3, .int (ef_b b)), (4, .ref (ad 15))] := hl
  have hS : va_S (eA ad) s.heap s.heap [] := va_S.rf
  have hD : va_D (eA ad) (cw ad cI cZ cJ n g w P gm wm gs wz gb go gp gj wb wl wk wo fa mn mg mw mP o) := eD_of hJ rfl
  refine lv_aload hx hb dL_add_0 (lv_at hl 4 rfl) ?_
  refine lv_iconst (v := 0) hx hb dL_add_2 (by decide) ?_
  refine lv_aload_n hx hb dL_add_3 rfl (lv_at hl 0 rfl) ?_
  refine lv_iload_n hx hb dL_add_4 rfl (lv_at hl 1 rfl) ?_
  refine lv_iload_n hx hb dL_add_5 rfl (lv_at hl 2 rfl) ?_
  refine lv_iload_n hx hb dL_add_6 rfl (lv_at hl 3 rfl) ?_
  refine ec_V (own := RL) (C := RX5) (b := ad 0) (rest := [.int 0, .ref (ad 15)]) hx hb hml hown hts hl.1 (c_X5_add l D cI cZ cJ ad hJ n g w P gm wm gs wz gb go gp gj wb wl wk wo fa mn mg mw mP o x y b hg hw0 hn) tw126 tw1 tw123 tw124 tw125 yd_X5_add rfl rfl ⟨Nat.le_of_ble_eq_true rfl, Nat.le_of_ble_eq_true rfl⟩ hP hK hN hP (q0 := 0) rfl rfl rfl rfl (Nat.le_of_ble_eq_true rfl) ⟨Nat.zero_le _, Nat.zero_le _⟩ hS (fun _ h9 => h9) dL_add_7 (fun v9 W9 H locs hF hP hS hz9 hk9 => ?_)
  obtain ⟨rfl, rfl⟩ := hF
  have hD : va_D (eA ad) (cw ad cI cZ cJ (n + 1) (upd g n x) (upd w n y) (ef_up P n b) gm wm true true gb go gp gj wb wl wk wo fa mn mg mw mP o) := eD_of hJ rfl
  refine W.eq (g2 := F0 m 10 ls [.int (nI (n + 1)), .int 0, .ref (ad 15)]) rfl ?_
  refine lv_i2l (v := (nI (n + 1)).toInt64) hx hb dL_add_10 rfl ?_
  refine va_last hx hb hK hP hD hS 15 2 rfl rfl (vp_in_nI (n := 0) (by omega) (by decide)) dL_add_11 (fun H locs hP hD hS => ?_)
  have hP : va_P D vwCl (cw ad cI cZ cJ (n + 1) (upd g n x) (upd w n y) (ef_up P n b) gm wm true true gb go gp gj wb wl wk wo fa mn mg mw mP (vp_updL o 0 ((nI (n + 1)).toInt64))) H := hP
  have hD : va_D (eA ad) (cw ad cI cZ cJ (n + 1) (upd g n x) (upd w n y) (ef_up P n b) gm wm true true gb go gp gj wb wl wk wo fa mn mg mw mP (vp_updL o 0 ((nI (n + 1)).toInt64))) := hD
  refine lv_goto (tgt := 23) hx hb dL_add_12 (by decide) ?_
  refine lv_iconst (v := 0) hx hb dL_add_23 (by decide) ?_
  refine W.widen (k := 1) (n := 6) (by omega) (by omega) ?_
  exact eh_iret hx hb hr hlk hP hS ⟨rfl, rfl⟩ dL_add_24

set_option maxHeartbeats 4000000 in
set_option maxRecDepth 100000 in
theorem h_add_bad (l : Launch) (hl0 : l.stackTraces = false) (D : va_G) (cI cZ cJ : ClassId) (ad : Nat → Nat) (hJ : eJ ad) (b0 : Nat) (n : Nat) (g : Nat → Int32) (w : Nat → Int32) (P : Nat → Bool) (gm : Nat → Bool) (wm : Nat → Bool) (gs : Bool) (wz : Bool) (gb : Int32) (go : Bool) (gp : Bool) (gj : Bool) (wb : Int32) (wl : Int32) (wk : Int32) (wo : Bool) (fa : Int32) (mn : Nat) (mg : Nat → Int32) (mw : Nat → Int32) (mP : Nat → Bool) (o : Nat → Int64) (x y : Int32) (b : Bool) (hbad : ¬ (ei_ok x 13 ∧ ei_ok y 18)) : eh_M l yL_add (Cond.codeWith yL_add cL_add 6 (some .int) [(0, 12, 15, 13), (0, 12, 19, 15)] :: eT) ({ frames := 8, cells := 1, slots := 6, locals := 154 }) D (eTy cI cZ cJ) [.ref (ad 0), .int x, .int y, .int (ef_b b), .ref (ad 15)] (cw ad cI cZ cJ n g w P gm wm gs wz gb go gp gj wb wl wk wo fa mn mg mw mP o) b0 (ed (some (.int 1)) (cw ad cI cZ cJ n g w P gm wm gs wz gb go gp gj wb wl wk wo fa mn mg mw mP o)) (eA ad) := by
  refine eh_of (cc := cL_add) (maxL := 6) (ret := (some .int)) (hh := [(0, 12, 15, 13), (0, 12, 19, 15)]) (by decide) rfl (Nat.le_of_ble_eq_true rfl) ?_
  intro p e s m args below meth c ls hx hb hr hts hown hlk hml htab hP hK hN hZ hl
  have hown : s.vm.findClass RL = some m.cls := hown
  have hl : lv_has ls 6 [(0, .ref (ad 0)), (1, .int x), (2, .int y), (3, .int (ef_b b)), (4, .ref (ad 15))] := hl
  have hS : va_S (eA ad) s.heap s.heap [] := va_S.rf
  have hD : va_D (eA ad) (cw ad cI cZ cJ n g w P gm wm gs wz gb go gp gj wb wl wk wo fa mn mg mw mP o) := eD_of hJ rfl
  refine lv_aload hx hb dL_add_0 (lv_at hl 4 rfl) ?_
  refine lv_iconst (v := 0) hx hb dL_add_2 (by decide) ?_
  refine lv_aload_n hx hb dL_add_3 rfl (lv_at hl 0 rfl) ?_
  refine lv_iload_n hx hb dL_add_4 rfl (lv_at hl 1 rfl) ?_
  refine lv_iload_n hx hb dL_add_5 rfl (lv_at hl 2 rfl) ?_
  refine lv_iload_n hx hb dL_add_6 rfl (lv_at hl 3 rfl) ?_
  refine et_V (own := RL) (C := RX5) (b := ad 0) (rest := [.int 0, .ref (ad 15)]) (q0 := 0) hx hb hml hown hts hl.1 (t_X5_add l hl0 D cI cZ cJ ad b0 n g w P gm wm gs wz gb go gp gj wb wl wk wo fa mn mg mw mP o x y b hbad) tw126 tw1 tw123 tw124 tw125 yd_X5_add rfl rfl ⟨Nat.le_of_ble_eq_true rfl, Nat.le_of_ble_eq_true rfl⟩ hP hK hZ rfl rfl rfl rfl (Nat.le_of_ble_eq_true rfl) ⟨Nat.le_refl _, Nat.le_refl _⟩ dL_add_7 htab (by decide) (by decide) tw121 (fun q9 H hz9 hk9 => ?_)
  have hP : va_P D vwCl (cw ad cI cZ cJ n g w P gm wm gs wz gb go gp gj wb wl wk wo fa mn mg mw mP o) H := eh_kept hP hk9
  have hS : va_S (eA ad) s.heap H [] := ⟨hz9, fun q h1 _ => hk9 q h1, fun _ h => by cases h⟩
  refine W.eq (g2 := F0 m 15 ls [.ref q9]) rfl ?_
  refine lv_astore (lv' := [(5, .ref q9), (0, .ref (ad 0)), (1, .int x), (2, .int y), (3, .int (ef_b b)), (4, .ref (ad 15))]) hx hb dL_add_15 hl (Nat.le_of_ble_eq_true rfl) rfl (fun ls hl => ?_)
  refine lv_iconst (v := 1) hx hb dL_add_17 (by decide) ?_
  exact eh_iret hx hb hr hlk hP hS ⟨rfl, rfl⟩ dL_add_18

set_option maxHeartbeats 4000000 in
set_option maxRecDepth 100000 in
theorem h_set (l : Launch) (D : va_G) (cI cZ cJ : ClassId) (ad : Nat → Nat) (hJ : eJ ad) (b0 : Nat) (n : Nat) (g : Nat → Int32) (w : Nat → Int32) (P : Nat → Bool) (gm : Nat → Bool) (wm : Nat → Bool) (gs : Bool) (wz : Bool) (gb : Int32) (go : Bool) (gp : Bool) (gj : Bool) (wb : Int32) (wl : Int32) (wk : Int32) (wo : Bool) (fa : Int32) (mn : Nat) (mg : Nat → Int32) (mw : Nat → Int32) (mP : Nat → Bool) (o : Nat → Int64) (i : Nat) (x y : Int32) (b : Bool) (hn : n ≤ 1000) (hi : i < n) (hg : ei_ok x 13) (hw0 : ei_ok y 18) : eh_M l yL_set (Cond.codeWith yL_set cL_set 6 (some .int) [(0, 9, 12, 13)] :: eT) ({ frames := 8, cells := 1, slots := 6, locals := 154 }) D (eTy cI cZ cJ) [.ref (ad 0), .int (nI i), .int x, .int y, .int (ef_b b)] (cw ad cI cZ cJ n g w P gm wm gs wz gb go gp gj wb wl wk wo fa mn mg mw mP o) b0 (ed (some (.int 0)) (cw ad cI cZ cJ n (upd g i x) (upd w i y) (ef_up P i b) gm wm true true gb go gp gj wb wl wk wo fa mn mg mw mP o)) (eA ad) := by
  refine eh_of (cc := cL_set) (maxL := 6) (ret := (some .int)) (hh := [(0, 9, 12, 13)]) (by decide) rfl (Nat.le_of_ble_eq_true rfl) ?_
  intro p e s m args below meth c ls hx hb hr hts hown hlk hml htab hP hK hN hZ hl
  have hown : s.vm.findClass RL = some m.cls := hown
  have hl : lv_has ls 6 [(0, .ref (ad 0)), (1, .int (nI i)), (2, .int x), (3, .int y), (4, .int (ef_b b))] := hl
  have hS : va_S (eA ad) s.heap s.heap [] := va_S.rf
  have hD : va_D (eA ad) (cw ad cI cZ cJ n g w P gm wm gs wz gb go gp gj wb wl wk wo fa mn mg mw mP o) := eD_of hJ rfl
  refine lv_aload_n hx hb dL_set_0 rfl (lv_at hl 0 rfl) ?_
  refine lv_iload_n hx hb dL_set_1 rfl (lv_at hl 1 rfl) ?_
  refine lv_iload_n hx hb dL_set_2 rfl (lv_at hl 2 rfl) ?_
  refine lv_iload_n hx hb dL_set_3 rfl (lv_at hl 3 rfl) ?_
  refine lv_iload hx hb dL_set_4 (lv_at hl 4 rfl) ?_
  refine ec_V (own := RL) (C := RX5) (b := ad 0) (rest := []) hx hb hml hown hts hl.1 (c_X5_set l D cI cZ cJ ad hJ n g w P gm wm gs wz gb go gp gj wb wl wk wo fa mn mg mw mP o i x y b hn hi hg hw0) tw227 tw1 tw224 tw225 tw226 yd_X5_set rfl rfl ⟨Nat.le_of_ble_eq_true rfl, Nat.le_of_ble_eq_true rfl⟩ hP hK hN hP (q0 := 0) rfl rfl rfl rfl (Nat.le_of_ble_eq_true rfl) ⟨Nat.zero_le _, Nat.zero_le _⟩ hS (fun _ h9 => h9) dL_set_6 (fun v9 W9 H locs hF hP hS hz9 hk9 => ?_)
  obtain ⟨rfl, rfl⟩ := hF
  have hD : va_D (eA ad) (cw ad cI cZ cJ n (upd g i x) (upd w i y) (ef_up P i b) gm wm true true gb go gp gj wb wl wk wo fa mn mg mw mP o) := eD_of hJ rfl
  refine W.eq (g2 := F0 m 9 ls []) rfl ?_
  refine lv_goto (tgt := 16) hx hb dL_set_9 (by decide) ?_
  refine lv_iconst (v := 0) hx hb dL_set_16 (by decide) ?_
  refine W.widen (k := 1) (n := 6) (by omega) (by omega) ?_
  exact eh_iret hx hb hr hlk hP hS ⟨rfl, rfl⟩ dL_set_17

set_option maxHeartbeats 4000000 in
set_option maxRecDepth 100000 in
theorem h_set_bad (l : Launch) (hl0 : l.stackTraces = false) (D : va_G) (cI cZ cJ : ClassId) (ad : Nat → Nat) (hJ : eJ ad) (b0 : Nat) (n : Nat) (g : Nat → Int32) (w : Nat → Int32) (P : Nat → Bool) (gm : Nat → Bool) (wm : Nat → Bool) (gs : Bool) (wz : Bool) (gb : Int32) (go : Bool) (gp : Bool) (gj : Bool) (wb : Int32) (wl : Int32) (wk : Int32) (wo : Bool) (fa : Int32) (mn : Nat) (mg : Nat → Int32) (mw : Nat → Int32) (mP : Nat → Bool) (o : Nat → Int64) (z x y : Int32) (b : Bool) (hbad : ¬ (ei_ok z (nI n - 1) ∧ ei_ok x 13 ∧ ei_ok y 18)) : eh_M l yL_set (Cond.codeWith yL_set cL_set 6 (some .int) [(0, 9, 12, 13)] :: eT) ({ frames := 8, cells := 1, slots := 6, locals := 154 }) D (eTy cI cZ cJ) [.ref (ad 0), .int z, .int x, .int y, .int (ef_b b)] (cw ad cI cZ cJ n g w P gm wm gs wz gb go gp gj wb wl wk wo fa mn mg mw mP o) b0 (ed (some (.int 1)) (cw ad cI cZ cJ n g w P gm wm gs wz gb go gp gj wb wl wk wo fa mn mg mw mP o)) (eA ad) := by
  refine eh_of (cc := cL_set) (maxL := 6) (ret := (some .int)) (hh := [(0, 9, 12, 13)]) (by decide) rfl (Nat.le_of_ble_eq_true rfl) ?_
  intro p e s m args below meth c ls hx hb hr hts hown hlk hml htab hP hK hN hZ hl
  have hown : s.vm.findClass RL = some m.cls := hown
  have hl : lv_has ls 6 [(0, .ref (ad 0)), (1, .int z), (2, .int x), (3, .int y), (4, .int (ef_b b))] := hl
  have hS : va_S (eA ad) s.heap s.heap [] := va_S.rf
  have hD : va_D (eA ad) (cw ad cI cZ cJ n g w P gm wm gs wz gb go gp gj wb wl wk wo fa mn mg mw mP o) := eD_of hJ rfl
  refine lv_aload_n hx hb dL_set_0 rfl (lv_at hl 0 rfl) ?_
  refine lv_iload_n hx hb dL_set_1 rfl (lv_at hl 1 rfl) ?_
  refine lv_iload_n hx hb dL_set_2 rfl (lv_at hl 2 rfl) ?_
  refine lv_iload_n hx hb dL_set_3 rfl (lv_at hl 3 rfl) ?_
  refine lv_iload hx hb dL_set_4 (lv_at hl 4 rfl) ?_
  refine et_V (own := RL) (C := RX5) (b := ad 0) (rest := []) (q0 := 0) hx hb hml hown hts hl.1 (t_X5_set l hl0 D cI cZ cJ ad b0 n g w P gm wm gs wz gb go gp gj wb wl wk wo fa mn mg mw mP o z x y b hbad) tw227 tw1 tw224 tw225 tw226 yd_X5_set rfl rfl ⟨Nat.le_of_ble_eq_true rfl, Nat.le_of_ble_eq_true rfl⟩ hP hK hZ rfl rfl rfl rfl (Nat.le_of_ble_eq_true rfl) ⟨Nat.le_refl _, Nat.le_refl _⟩ dL_set_6 htab (by decide) (by decide) tw121 (fun q9 H hz9 hk9 => ?_)
  have hP : va_P D vwCl (cw ad cI cZ cJ n g w P gm wm gs wz gb go gp gj wb wl wk wo fa mn mg mw mP o) H := eh_kept hP hk9
  have hS : va_S (eA ad) s.heap H [] := ⟨hz9, fun q h1 _ => hk9 q h1, fun _ h => by cases h⟩
  refine W.eq (g2 := F0 m 12 ls [.ref q9]) rfl ?_
  refine lv_astore (lv' := [(5, .ref q9), (0, .ref (ad 0)), (1, .int z), (2, .int x), (3, .int y), (4, .int (ef_b b))]) hx hb dL_set_12 hl (Nat.le_of_ble_eq_true rfl) rfl (fun ls hl => ?_)
  refine lv_iconst (v := 1) hx hb dL_set_14 (by decide) ?_
  exact eh_iret hx hb hr hlk hP hS ⟨rfl, rfl⟩ dL_set_15

set_option maxHeartbeats 4000000 in
set_option maxRecDepth 100000 in
theorem h_cut (l : Launch) (D : va_G) (cI cZ cJ : ClassId) (ad : Nat → Nat) (hJ : eJ ad) (b0 : Nat) (n : Nat) (g : Nat → Int32) (w : Nat → Int32) (P : Nat → Bool) (gm : Nat → Bool) (wm : Nat → Bool) (gs : Bool) (wz : Bool) (gb : Int32) (go : Bool) (gp : Bool) (gj : Bool) (wb : Int32) (wl : Int32) (wk : Int32) (wo : Bool) (fa : Int32) (mn : Nat) (mg : Nat → Int32) (mw : Nat → Int32) (mP : Nat → Bool) (o : Nat → Int64) (k : Nat) (hn : n ≤ 1000) (hi : k ≤ n) : eh_M l yL_cut (Cond.codeWith yL_cut cL_cut 4 (some .int) [(0, 9, 12, 13)] :: eT) ({ frames := 8, cells := 1, slots := 6, locals := 154 }) D (eTy cI cZ cJ) [.ref (ad 0), .int (nI k), .ref (ad 15)] (cw ad cI cZ cJ n g w P gm wm gs wz gb go gp gj wb wl wk wo fa mn mg mw mP o) b0 (ed (some (.int 0)) (cw ad cI cZ cJ k g w P gm wm true true gb go gp gj wb wl wk wo fa mn mg mw mP (vp_updL o 0 ((nI n).toInt64)))) (eA ad) := by
  refine eh_of (cc := cL_cut) (maxL := 4) (ret := (some .int)) (hh := [(0, 9, 12, 13)]) (by decide) rfl (Nat.le_of_ble_eq_true rfl) ?_
  intro p e s m args below meth c ls hx hb hr hts hown hlk hml htab hP hK hN hZ hl
  have hown : s.vm.findClass RL = some m.cls := hown
  have hl : lv_has ls 4 [(0, .ref (ad 0)), (1, .int (nI k)), (2, .ref (ad 15))] := hl
  have hS : va_S (eA ad) s.heap s.heap [] := va_S.rf
  have hD : va_D (eA ad) (cw ad cI cZ cJ n g w P gm wm gs wz gb go gp gj wb wl wk wo fa mn mg mw mP o) := eD_of hJ rfl
  refine lv_aload_n hx hb dL_cut_0 rfl (lv_at hl 2 rfl) ?_
  refine lv_iconst (v := 0) hx hb dL_cut_1 (by decide) ?_
  refine lv_aload_n hx hb dL_cut_2 rfl (lv_at hl 0 rfl) ?_
  refine lv_iload_n hx hb dL_cut_3 rfl (lv_at hl 1 rfl) ?_
  refine ec_V (own := RL) (C := RX5) (b := ad 0) (rest := [.int 0, .ref (ad 15)]) hx hb hml hown hts hl.1 (c_X5_cut l D cI cZ cJ ad hJ n g w P gm wm gs wz gb go gp gj wb wl wk wo fa mn mg mw mP o k hn hi) tw234 tw1 tw231 tw232 tw233 yd_X5_cut rfl rfl ⟨Nat.le_of_ble_eq_true rfl, Nat.le_of_ble_eq_true rfl⟩ hP hK hN hP (q0 := 0) rfl rfl rfl rfl (Nat.le_of_ble_eq_true rfl) ⟨Nat.zero_le _, Nat.zero_le _⟩ hS (fun _ h9 => h9) dL_cut_4 (fun v9 W9 H locs hF hP hS hz9 hk9 => ?_)
  obtain ⟨rfl, rfl⟩ := hF
  have hD : va_D (eA ad) (cw ad cI cZ cJ k g w P gm wm true true gb go gp gj wb wl wk wo fa mn mg mw mP o) := eD_of hJ rfl
  refine W.eq (g2 := F0 m 7 ls [.int (nI n), .int 0, .ref (ad 15)]) rfl ?_
  refine lv_i2l (v := (nI n).toInt64) hx hb dL_cut_7 rfl ?_
  refine va_last hx hb hK hP hD hS 15 2 rfl rfl (vp_in_nI (n := 0) (by omega) (by decide)) dL_cut_8 (fun H locs hP hD hS => ?_)
  have hP : va_P D vwCl (cw ad cI cZ cJ k g w P gm wm true true gb go gp gj wb wl wk wo fa mn mg mw mP (vp_updL o 0 ((nI n).toInt64))) H := hP
  have hD : va_D (eA ad) (cw ad cI cZ cJ k g w P gm wm true true gb go gp gj wb wl wk wo fa mn mg mw mP (vp_updL o 0 ((nI n).toInt64))) := hD
  refine lv_goto (tgt := 15) hx hb dL_cut_9 (by decide) ?_
  refine lv_iconst (v := 0) hx hb dL_cut_15 (by decide) ?_
  refine W.widen (k := 1) (n := 6) (by omega) (by omega) ?_
  exact eh_iret hx hb hr hlk hP hS ⟨rfl, rfl⟩ dL_cut_16

set_option maxHeartbeats 4000000 in
set_option maxRecDepth 100000 in
theorem h_cut_bad (l : Launch) (hl0 : l.stackTraces = false) (D : va_G) (cI cZ cJ : ClassId) (ad : Nat → Nat) (hJ : eJ ad) (b0 : Nat) (n : Nat) (g : Nat → Int32) (w : Nat → Int32) (P : Nat → Bool) (gm : Nat → Bool) (wm : Nat → Bool) (gs : Bool) (wz : Bool) (gb : Int32) (go : Bool) (gp : Bool) (gj : Bool) (wb : Int32) (wl : Int32) (wk : Int32) (wo : Bool) (fa : Int32) (mn : Nat) (mg : Nat → Int32) (mw : Nat → Int32) (mP : Nat → Bool) (o : Nat → Int64) (z : Int32) (hbad : ¬ ei_ok z (nI n)) : eh_M l yL_cut (Cond.codeWith yL_cut cL_cut 4 (some .int) [(0, 9, 12, 13)] :: eT) ({ frames := 8, cells := 1, slots := 6, locals := 154 }) D (eTy cI cZ cJ) [.ref (ad 0), .int z, .ref (ad 15)] (cw ad cI cZ cJ n g w P gm wm gs wz gb go gp gj wb wl wk wo fa mn mg mw mP o) b0 (ed (some (.int 1)) (cw ad cI cZ cJ n g w P gm wm gs wz gb go gp gj wb wl wk wo fa mn mg mw mP o)) (eA ad) := by
  refine eh_of (cc := cL_cut) (maxL := 4) (ret := (some .int)) (hh := [(0, 9, 12, 13)]) (by decide) rfl (Nat.le_of_ble_eq_true rfl) ?_
  intro p e s m args below meth c ls hx hb hr hts hown hlk hml htab hP hK hN hZ hl
  have hown : s.vm.findClass RL = some m.cls := hown
  have hl : lv_has ls 4 [(0, .ref (ad 0)), (1, .int z), (2, .ref (ad 15))] := hl
  have hS : va_S (eA ad) s.heap s.heap [] := va_S.rf
  have hD : va_D (eA ad) (cw ad cI cZ cJ n g w P gm wm gs wz gb go gp gj wb wl wk wo fa mn mg mw mP o) := eD_of hJ rfl
  refine lv_aload_n hx hb dL_cut_0 rfl (lv_at hl 2 rfl) ?_
  refine lv_iconst (v := 0) hx hb dL_cut_1 (by decide) ?_
  refine lv_aload_n hx hb dL_cut_2 rfl (lv_at hl 0 rfl) ?_
  refine lv_iload_n hx hb dL_cut_3 rfl (lv_at hl 1 rfl) ?_
  refine et_V (own := RL) (C := RX5) (b := ad 0) (rest := [.int 0, .ref (ad 15)]) (q0 := 0) hx hb hml hown hts hl.1 (t_X5_cut l hl0 D cI cZ cJ ad b0 n g w P gm wm gs wz gb go gp gj wb wl wk wo fa mn mg mw mP o z hbad) tw234 tw1 tw231 tw232 tw233 yd_X5_cut rfl rfl ⟨Nat.le_of_ble_eq_true rfl, Nat.le_of_ble_eq_true rfl⟩ hP hK hZ rfl rfl rfl rfl (Nat.le_of_ble_eq_true rfl) ⟨Nat.le_refl _, Nat.le_refl _⟩ dL_cut_4 htab (by decide) (by decide) tw121 (fun q9 H hz9 hk9 => ?_)
  have hP : va_P D vwCl (cw ad cI cZ cJ n g w P gm wm gs wz gb go gp gj wb wl wk wo fa mn mg mw mP o) H := eh_kept hP hk9
  have hS : va_S (eA ad) s.heap H [] := ⟨hz9, fun q h1 _ => hk9 q h1, fun _ h => by cases h⟩
  refine W.eq (g2 := F0 m 12 ls [.ref q9]) rfl ?_
  refine lv_astore_n (lv' := [(3, .ref q9), (0, .ref (ad 0)), (1, .int z), (2, .ref (ad 15))]) hx hb dL_cut_12 rfl hl (Nat.le_of_ble_eq_true rfl) rfl (fun ls hl => ?_)
  refine lv_iconst (v := 1) hx hb dL_cut_13 (by decide) ?_
  exact eh_iret hx hb hr hlk hP hS ⟨rfl, rfl⟩ dL_cut_14

set_option maxHeartbeats 4000000 in
set_option maxRecDepth 100000 in
theorem h_edge_bad (l : Launch) (hl0 : l.stackTraces = false) (D : va_G) (cI cZ cJ : ClassId) (ad : Nat → Nat) (hJ : eJ ad) (b0 : Nat) (n : Nat) (g : Nat → Int32) (w : Nat → Int32) (P : Nat → Bool) (gm : Nat → Bool) (wm : Nat → Bool) (gs : Bool) (wz : Bool) (gb : Int32) (go : Bool) (gp : Bool) (gj : Bool) (wb : Int32) (wl : Int32) (wk : Int32) (wo : Bool) (fa : Int32) (mn : Nat) (mg : Nat → Int32) (mw : Nat → Int32) (mP : Nat → Bool) (o : Nat → Int64) (kd z : Int32) (hbad : ¬ (ei_ok kd 1 ∧ ei_ok z (nI n))) : eh_M l yL_edge (Cond.codeWith yL_edge cL_edge 5 (some .int) [(0, 17, 20, 13)] :: eT) ({ frames := 8, cells := 1, slots := 6, locals := 154 }) D (eTy cI cZ cJ) [.ref (ad 0), .int kd, .int z, .ref (ad 15)] (cw ad cI cZ cJ n g w P gm wm gs wz gb go gp gj wb wl wk wo fa mn mg mw mP o) b0 (ed (some (.int 1)) (cw ad cI cZ cJ n g w P gm wm gs wz gb go gp gj wb wl wk wo fa mn mg mw mP o)) (eA ad) := by
  refine eh_of (cc := cL_edge) (maxL := 5) (ret := (some .int)) (hh := [(0, 17, 20, 13)]) (by decide) rfl (Nat.le_of_ble_eq_true rfl) ?_
  intro p e s m args below meth c ls hx hb hr hts hown hlk hml htab hP hK hN hZ hl
  have hown : s.vm.findClass RL = some m.cls := hown
  have hl : lv_has ls 5 [(0, .ref (ad 0)), (1, .int kd), (2, .int z), (3, .ref (ad 15))] := hl
  have hS : va_S (eA ad) s.heap s.heap [] := va_S.rf
  have hD : va_D (eA ad) (cw ad cI cZ cJ n g w P gm wm gs wz gb go gp gj wb wl wk wo fa mn mg mw mP o) := eD_of hJ rfl
  refine lv_aload_n hx hb dL_edge_0 rfl (lv_at hl 3 rfl) ?_
  refine lv_iconst (v := 0) hx hb dL_edge_1 (by decide) ?_
  refine lv_aload_n hx hb dL_edge_2 rfl (lv_at hl 0 rfl) ?_
  refine lv_iload_n hx hb dL_edge_3 rfl (lv_at hl 1 rfl) ?_
  refine lv_iload_n hx hb dL_edge_4 rfl (lv_at hl 2 rfl) ?_
  refine et_V (own := RL) (C := RX5) (b := ad 0) (rest := [.int 0, .ref (ad 15)]) (q0 := 0) hx hb hml hown hts hl.1 (t_X5_edge l hl0 D cI cZ cJ ad b0 n g w P gm wm gs wz gb go gp gj wb wl wk wo fa mn mg mw mP o kd z hbad) tw241 tw1 tw238 tw239 tw240 yd_X5_edge rfl rfl ⟨Nat.le_of_ble_eq_true rfl, Nat.le_of_ble_eq_true rfl⟩ hP hK hZ rfl rfl rfl rfl (Nat.le_of_ble_eq_true rfl) ⟨Nat.le_refl _, Nat.le_refl _⟩ dL_edge_5 htab (by decide) (by decide) tw121 (fun q9 H hz9 hk9 => ?_)
  have hP : va_P D vwCl (cw ad cI cZ cJ n g w P gm wm gs wz gb go gp gj wb wl wk wo fa mn mg mw mP o) H := eh_kept hP hk9
  have hS : va_S (eA ad) s.heap H [] := ⟨hz9, fun q h1 _ => hk9 q h1, fun _ h => by cases h⟩
  refine W.eq (g2 := F0 m 20 ls [.ref q9]) rfl ?_
  refine lv_astore (lv' := [(4, .ref q9), (0, .ref (ad 0)), (1, .int kd), (2, .int z), (3, .ref (ad 15))]) hx hb dL_edge_20 hl (Nat.le_of_ble_eq_true rfl) rfl (fun ls hl => ?_)
  refine lv_iconst (v := 1) hx hb dL_edge_22 (by decide) ?_
  exact eh_iret hx hb hr hlk hP hS ⟨rfl, rfl⟩ dL_edge_23

set_option maxHeartbeats 4000000 in
set_option maxRecDepth 100000 in
theorem h_next_bad (l : Launch) (hl0 : l.stackTraces = false) (D : va_G) (cI cZ cJ : ClassId) (ad : Nat → Nat) (hJ : eJ ad) (b0 : Nat) (n : Nat) (g : Nat → Int32) (w : Nat → Int32) (P : Nat → Bool) (gm : Nat → Bool) (wm : Nat → Bool) (gs : Bool) (wz : Bool) (gb : Int32) (go : Bool) (gp : Bool) (gj : Bool) (wb : Int32) (wl : Int32) (wk : Int32) (wo : Bool) (fa : Int32) (mn : Nat) (mg : Nat → Int32) (mw : Nat → Int32) (mP : Nat → Bool) (o : Nat → Int64) (kd z : Int32) (b : Bool) (hbad : ¬ (ei_ok kd 1 ∧ ei_ok z (nI n))) : eh_M l yL_next (Cond.codeWith yL_next cL_next 6 (some .int) [(0, 12, 15, 13)] :: eT) ({ frames := 8, cells := 1, slots := 6, locals := 154 }) D (eTy cI cZ cJ) [.ref (ad 0), .int kd, .int z, .int (ef_b b), .ref (ad 15)] (cw ad cI cZ cJ n g w P gm wm gs wz gb go gp gj wb wl wk wo fa mn mg mw mP o) b0 (ed (some (.int 1)) (cw ad cI cZ cJ n g w P gm wm gs wz gb go gp gj wb wl wk wo fa mn mg mw mP o)) (eA ad) := by
  refine eh_of (cc := cL_next) (maxL := 6) (ret := (some .int)) (hh := [(0, 12, 15, 13)]) (by decide) rfl (Nat.le_of_ble_eq_true rfl) ?_
  intro p e s m args below meth c ls hx hb hr hts hown hlk hml htab hP hK hN hZ hl
  have hown : s.vm.findClass RL = some m.cls := hown
  have hl : lv_has ls 6 [(0, .ref (ad 0)), (1, .int kd), (2, .int z), (3, .int (ef_b b)), (4, .ref (ad 15))] := hl
  have hS : va_S (eA ad) s.heap s.heap [] := va_S.rf
  have hD : va_D (eA ad) (cw ad cI cZ cJ n g w P gm wm gs wz gb go gp gj wb wl wk wo fa mn mg mw mP o) := eD_of hJ rfl
  refine lv_aload hx hb dL_next_0 (lv_at hl 4 rfl) ?_
  refine lv_iconst (v := 0) hx hb dL_next_2 (by decide) ?_
  refine lv_aload_n hx hb dL_next_3 rfl (lv_at hl 0 rfl) ?_
  refine lv_iload_n hx hb dL_next_4 rfl (lv_at hl 1 rfl) ?_
  refine lv_iload_n hx hb dL_next_5 rfl (lv_at hl 2 rfl) ?_
  refine lv_iload_n hx hb dL_next_6 rfl (lv_at hl 3 rfl) ?_
  refine et_V (own := RL) (C := RX5) (b := ad 0) (rest := [.int 0, .ref (ad 15)]) (q0 := 0) hx hb hml hown hts hl.1 (t_X5_next l hl0 D cI cZ cJ ad b0 n g w P gm wm gs wz gb go gp gj wb wl wk wo fa mn mg mw mP o kd z b hbad) tw330 tw1 tw327 tw328 tw329 yd_X5_next rfl rfl ⟨Nat.le_of_ble_eq_true rfl, Nat.le_of_ble_eq_true rfl⟩ hP hK hZ rfl rfl rfl rfl (Nat.le_of_ble_eq_true rfl) ⟨Nat.le_refl _, Nat.le_refl _⟩ dL_next_7 htab (by decide) (by decide) tw121 (fun q9 H hz9 hk9 => ?_)
  have hP : va_P D vwCl (cw ad cI cZ cJ n g w P gm wm gs wz gb go gp gj wb wl wk wo fa mn mg mw mP o) H := eh_kept hP hk9
  have hS : va_S (eA ad) s.heap H [] := ⟨hz9, fun q h1 _ => hk9 q h1, fun _ h => by cases h⟩
  refine W.eq (g2 := F0 m 15 ls [.ref q9]) rfl ?_
  refine lv_astore (lv' := [(5, .ref q9), (0, .ref (ad 0)), (1, .int kd), (2, .int z), (3, .int (ef_b b)), (4, .ref (ad 15))]) hx hb dL_next_15 hl (Nat.le_of_ble_eq_true rfl) rfl (fun ls hl => ?_)
  refine lv_iconst (v := 1) hx hb dL_next_17 (by decide) ?_
  exact eh_iret hx hb hr hlk hP hS ⟨rfl, rfl⟩ dL_next_18

set_option maxHeartbeats 4000000 in
set_option maxRecDepth 100000 in
theorem h_rank_bad (l : Launch) (hl0 : l.stackTraces = false) (D : va_G) (cI cZ cJ : ClassId) (ad : Nat → Nat) (hJ : eJ ad) (b0 : Nat) (n : Nat) (g : Nat → Int32) (w : Nat → Int32) (P : Nat → Bool) (gm : Nat → Bool) (wm : Nat → Bool) (gs : Bool) (wz : Bool) (gb : Int32) (go : Bool) (gp : Bool) (gj : Bool) (wb : Int32) (wl : Int32) (wk : Int32) (wo : Bool) (fa : Int32) (mn : Nat) (mg : Nat → Int32) (mw : Nat → Int32) (mP : Nat → Bool) (o : Nat → Int64) (kd z : Int32) (hbad : ¬ (ei_ok kd 1 ∧ ei_ok z (nI n))) : eh_M l yL_rank (Cond.codeWith yL_rank cL_rank 5 (some .int) [(0, 10, 13, 13)] :: eT) ({ frames := 8, cells := 1, slots := 6, locals := 154 }) D (eTy cI cZ cJ) [.ref (ad 0), .int kd, .int z, .ref (ad 15)] (cw ad cI cZ cJ n g w P gm wm gs wz gb go gp gj wb wl wk wo fa mn mg mw mP o) b0 (ed (some (.int 1)) (cw ad cI cZ cJ n g w P gm wm gs wz gb go gp gj wb wl wk wo fa mn mg mw mP o)) (eA ad) := by
  refine eh_of (cc := cL_rank) (maxL := 5) (ret := (some .int)) (hh := [(0, 10, 13, 13)]) (by decide) rfl (Nat.le_of_ble_eq_true rfl) ?_
  intro p e s m args below meth c ls hx hb hr hts hown hlk hml htab hP hK hN hZ hl
  have hown : s.vm.findClass RL = some m.cls := hown
  have hl : lv_has ls 5 [(0, .ref (ad 0)), (1, .int kd), (2, .int z), (3, .ref (ad 15))] := hl
  have hS : va_S (eA ad) s.heap s.heap [] := va_S.rf
  have hD : va_D (eA ad) (cw ad cI cZ cJ n g w P gm wm gs wz gb go gp gj wb wl wk wo fa mn mg mw mP o) := eD_of hJ rfl
  refine lv_aload_n hx hb dL_rank_0 rfl (lv_at hl 3 rfl) ?_
  refine lv_iconst (v := 0) hx hb dL_rank_1 (by decide) ?_
  refine lv_aload_n hx hb dL_rank_2 rfl (lv_at hl 0 rfl) ?_
  refine lv_iload_n hx hb dL_rank_3 rfl (lv_at hl 1 rfl) ?_
  refine lv_iload_n hx hb dL_rank_4 rfl (lv_at hl 2 rfl) ?_
  refine et_V (own := RL) (C := RX5) (b := ad 0) (rest := [.int 0, .ref (ad 15)]) (q0 := 0) hx hb hml hown hts hl.1 (t_X5_rank l hl0 D cI cZ cJ ad b0 n g w P gm wm gs wz gb go gp gj wb wl wk wo fa mn mg mw mP o kd z hbad) tw345 tw1 tw342 tw343 tw344 yd_X5_rank rfl rfl ⟨Nat.le_of_ble_eq_true rfl, Nat.le_of_ble_eq_true rfl⟩ hP hK hZ rfl rfl rfl rfl (Nat.le_of_ble_eq_true rfl) ⟨Nat.le_refl _, Nat.le_refl _⟩ dL_rank_5 htab (by decide) (by decide) tw121 (fun q9 H hz9 hk9 => ?_)
  have hP : va_P D vwCl (cw ad cI cZ cJ n g w P gm wm gs wz gb go gp gj wb wl wk wo fa mn mg mw mP o) H := eh_kept hP hk9
  have hS : va_S (eA ad) s.heap H [] := ⟨hz9, fun q h1 _ => hk9 q h1, fun _ h => by cases h⟩
  refine W.eq (g2 := F0 m 13 ls [.ref q9]) rfl ?_
  refine lv_astore (lv' := [(4, .ref q9), (0, .ref (ad 0)), (1, .int kd), (2, .int z), (3, .ref (ad 15))]) hx hb dL_rank_13 hl (Nat.le_of_ble_eq_true rfl) rfl (fun ls hl => ?_)
  refine lv_iconst (v := 1) hx hb dL_rank_15 (by decide) ?_
  exact eh_iret hx hb hr hlk hP hS ⟨rfl, rfl⟩ dL_rank_16

set_option maxHeartbeats 4000000 in
set_option maxRecDepth 100000 in
theorem h_hash_bad (l : Launch) (hl0 : l.stackTraces = false) (D : va_G) (cI cZ cJ : ClassId) (ad : Nat → Nat) (hJ : eJ ad) (b0 : Nat) (n : Nat) (g : Nat → Int32) (w : Nat → Int32) (P : Nat → Bool) (gm : Nat → Bool) (wm : Nat → Bool) (gs : Bool) (wz : Bool) (gb : Int32) (go : Bool) (gp : Bool) (gj : Bool) (wb : Int32) (wl : Int32) (wk : Int32) (wo : Bool) (fa : Int32) (mn : Nat) (mg : Nat → Int32) (mw : Nat → Int32) (mP : Nat → Bool) (o : Nat → Int64) (kd : Int32) (hbad : ¬ ei_ok kd 1) : eh_M l yL_hash (Cond.codeWith yL_hash cL_hash 4 (some .int) [(0, 9, 12, 13)] :: eT) ({ frames := 8, cells := 1, slots := 6, locals := 154 }) D (eTy cI cZ cJ) [.ref (ad 0), .int kd, .ref (ad 15)] (cw ad cI cZ cJ n g w P gm wm gs wz gb go gp gj wb wl wk wo fa mn mg mw mP o) b0 (ed (some (.int 1)) (cw ad cI cZ cJ n g w P gm wm gs wz gb go gp gj wb wl wk wo fa mn mg mw mP o)) (eA ad) := by
  refine eh_of (cc := cL_hash) (maxL := 4) (ret := (some .int)) (hh := [(0, 9, 12, 13)]) (by decide) rfl (Nat.le_of_ble_eq_true rfl) ?_
  intro p e s m args below meth c ls hx hb hr hts hown hlk hml htab hP hK hN hZ hl
  have hown : s.vm.findClass RL = some m.cls := hown
  have hl : lv_has ls 4 [(0, .ref (ad 0)), (1, .int kd), (2, .ref (ad 15))] := hl
  have hS : va_S (eA ad) s.heap s.heap [] := va_S.rf
  have hD : va_D (eA ad) (cw ad cI cZ cJ n g w P gm wm gs wz gb go gp gj wb wl wk wo fa mn mg mw mP o) := eD_of hJ rfl
  refine lv_aload_n hx hb dL_hash_0 rfl (lv_at hl 2 rfl) ?_
  refine lv_iconst (v := 0) hx hb dL_hash_1 (by decide) ?_
  refine lv_aload_n hx hb dL_hash_2 rfl (lv_at hl 0 rfl) ?_
  refine lv_iload_n hx hb dL_hash_3 rfl (lv_at hl 1 rfl) ?_
  refine et_V (own := RL) (C := RX5) (b := ad 0) (rest := [.int 0, .ref (ad 15)]) (q0 := 0) hx hb hml hown hts hl.1 (t_X5_hash l hl0 D cI cZ cJ ad b0 n g w P gm wm gs wz gb go gp gj wb wl wk wo fa mn mg mw mP o kd hbad) tw356 tw1 tw353 tw354 tw355 yd_X5_hash rfl rfl ⟨Nat.le_of_ble_eq_true rfl, Nat.le_of_ble_eq_true rfl⟩ hP hK hZ rfl rfl rfl rfl (Nat.le_of_ble_eq_true rfl) ⟨Nat.le_refl _, Nat.le_refl _⟩ dL_hash_4 htab (by decide) (by decide) tw121 (fun q9 H hz9 hk9 => ?_)
  have hP : va_P D vwCl (cw ad cI cZ cJ n g w P gm wm gs wz gb go gp gj wb wl wk wo fa mn mg mw mP o) H := eh_kept hP hk9
  have hS : va_S (eA ad) s.heap H [] := ⟨hz9, fun q h1 _ => hk9 q h1, fun _ h => by cases h⟩
  refine W.eq (g2 := F0 m 12 ls [.ref q9]) rfl ?_
  refine lv_astore_n (lv' := [(3, .ref q9), (0, .ref (ad 0)), (1, .int kd), (2, .ref (ad 15))]) hx hb dL_hash_12 rfl hl (Nat.le_of_ble_eq_true rfl) rfl (fun ls hl => ?_)
  refine lv_iconst (v := 1) hx hb dL_hash_13 (by decide) ?_
  exact eh_iret hx hb hr hlk hP hS ⟨rfl, rfl⟩ dL_hash_14

set_option maxHeartbeats 4000000 in
set_option maxRecDepth 100000 in
theorem h_edge_gt (l : Launch) (D : va_G) (cI cZ cJ : ClassId) (ad : Nat → Nat) (hJ : eJ ad) (b0 : Nat) (n : Nat) (g : Nat → Int32) (w : Nat → Int32) (P : Nat → Bool) (gm : Nat → Bool) (wm : Nat → Bool) (wz : Bool) (gb : Int32) (go : Bool) (gp : Bool) (gj : Bool) (wb : Int32) (wl : Int32) (wk : Int32) (wo : Bool) (fa : Int32) (mn : Nat) (mg : Nat → Int32) (mw : Nat → Int32) (mP : Nat → Bool) (o : Nat → Int64) (kd : Int32) (i : Nat) (hk1 : ei_ok kd 1) (hk : kd = 0) (hn : n ≤ 1000) (hi : i ≤ n) : eh_M l yL_edge (Cond.codeWith yL_edge cL_edge 5 (some .int) [(0, 17, 20, 13)] :: eT) ({ frames := 8, cells := 1, slots := 6, locals := 154 }) D (eTy cI cZ cJ) [.ref (ad 0), .int kd, .int (nI i), .ref (ad 15)] (cw ad cI cZ cJ n g w P gm wm true wz gb go gp gj wb wl wk wo fa mn mg mw mP o) b0 (ed (some (.int 0)) (cw ad cI cZ cJ n g w P (ef_up (ef_fl gm (eg_M g P) n) n (decide (0 < n))) wm false wz (eg_bf g n) (eg_od g n) (eg_ap g P n) (eg_aj g P n) wb wl wk wo fa mn mg mw mP (vp_updL o 0 (ef_l (eb_g g P n i))))) (eA ad) := by
  refine eh_of (cc := cL_edge) (maxL := 5) (ret := (some .int)) (hh := [(0, 17, 20, 13)]) (by decide) rfl (Nat.le_of_ble_eq_true rfl) ?_
  intro p e s m args below meth c ls hx hb hr hts hown hlk hml htab hP hK hN hZ hl
  have hown : s.vm.findClass RL = some m.cls := hown
  have hl : lv_has ls 5 [(0, .ref (ad 0)), (1, .int kd), (2, .int (nI i)), (3, .ref (ad 15))] := hl
  have hS : va_S (eA ad) s.heap s.heap [] := va_S.rf
  have hD : va_D (eA ad) (cw ad cI cZ cJ n g w P gm wm true wz gb go gp gj wb wl wk wo fa mn mg mw mP o) := eD_of hJ rfl
  refine lv_aload_n hx hb dL_edge_0 rfl (lv_at hl 3 rfl) ?_
  refine lv_iconst (v := 0) hx hb dL_edge_1 (by decide) ?_
  refine lv_aload_n hx hb dL_edge_2 rfl (lv_at hl 0 rfl) ?_
  refine lv_iload_n hx hb dL_edge_3 rfl (lv_at hl 1 rfl) ?_
  refine lv_iload_n hx hb dL_edge_4 rfl (lv_at hl 2 rfl) ?_
  refine ec_V (own := RL) (C := RX5) (b := ad 0) (rest := [.int 0, .ref (ad 15)]) hx hb hml hown hts hl.1 (c_X5_edge_gt l D cI cZ cJ ad hJ n g w P gm wm wz gb go gp gj wb wl wk wo fa mn mg mw mP o kd i hk1 hk hn hi) tw241 tw1 tw238 tw239 tw240 yd_X5_edge rfl rfl ⟨Nat.le_of_ble_eq_true rfl, Nat.le_of_ble_eq_true rfl⟩ hP hK hN hP (q0 := 0) rfl rfl rfl rfl (Nat.le_of_ble_eq_true rfl) ⟨Nat.zero_le _, Nat.zero_le _⟩ hS (fun _ h9 => h9) dL_edge_5 (fun v9 W9 H locs hF hP hS hz9 hk9 => ?_)
  obtain ⟨rfl, rfl⟩ := hF
  have hD : va_D (eA ad) (cw ad cI cZ cJ n g w P (ef_up (ef_fl gm (eg_M g P) n) n (decide (0 < n))) wm false wz (eg_bf g n) (eg_od g n) (eg_ap g P n) (eg_aj g P n) wb wl wk wo fa mn mg mw mP o) := eD_of hJ rfl
  refine W.eq (g2 := F0 m 8 ls [.int (ef_b (eb_g g P n i)), .int 0, .ref (ad 15)]) rfl ?_
  refine ef_if_eq (tgt := 15) hx hb dL_edge_8 (by decide) (fun h1 => ?_) (fun h1 => ?_)
  · skip
    refine lv_lconst (v := 0) hx hb dL_edge_15 (by decide) ?_
    refine ef_eql (y := ef_l (eb_g g P n i)) (by simp [ef_l, h1]) ?_
    refine va_last hx hb hK hP hD hS 15 2 rfl rfl (vp_in_nI (n := 0) (by omega) (by decide)) dL_edge_16 (fun H locs hP hD hS => ?_)
    have hP : va_P D vwCl (cw ad cI cZ cJ n g w P (ef_up (ef_fl gm (eg_M g P) n) n (decide (0 < n))) wm false wz (eg_bf g n) (eg_od g n) (eg_ap g P n) (eg_aj g P n) wb wl wk wo fa mn mg mw mP (vp_updL o 0 (ef_l (eb_g g P n i)))) H := hP
    have hD : va_D (eA ad) (cw ad cI cZ cJ n g w P (ef_up (ef_fl gm (eg_M g P) n) n (decide (0 < n))) wm false wz (eg_bf g n) (eg_od g n) (eg_ap g P n) (eg_aj g P n) wb wl wk wo fa mn mg mw mP (vp_updL o 0 (ef_l (eb_g g P n i)))) := hD
    refine lv_goto (tgt := 24) hx hb dL_edge_17 (by decide) ?_
    refine lv_iconst (v := 0) hx hb dL_edge_24 (by decide) ?_
    refine W.widen (k := 1) (n := 6) (by omega) (by omega) ?_
    exact eh_iret hx hb hr hlk hP hS ⟨rfl, rfl⟩ dL_edge_25
  · skip
    refine lv_lconst (v := 1) hx hb dL_edge_11 (by decide) ?_
    refine lv_goto (tgt := 16) hx hb dL_edge_12 (by decide) ?_
    refine ef_eql (y := ef_l (eb_g g P n i)) (by simp [ef_l, h1]) ?_
    refine va_last hx hb hK hP hD hS 15 2 rfl rfl (vp_in_nI (n := 0) (by omega) (by decide)) dL_edge_16 (fun H locs hP hD hS => ?_)
    have hP : va_P D vwCl (cw ad cI cZ cJ n g w P (ef_up (ef_fl gm (eg_M g P) n) n (decide (0 < n))) wm false wz (eg_bf g n) (eg_od g n) (eg_ap g P n) (eg_aj g P n) wb wl wk wo fa mn mg mw mP (vp_updL o 0 (ef_l (eb_g g P n i)))) H := hP
    have hD : va_D (eA ad) (cw ad cI cZ cJ n g w P (ef_up (ef_fl gm (eg_M g P) n) n (decide (0 < n))) wm false wz (eg_bf g n) (eg_od g n) (eg_ap g P n) (eg_aj g P n) wb wl wk wo fa mn mg mw mP (vp_updL o 0 (ef_l (eb_g g P n i)))) := hD
    refine lv_goto (tgt := 24) hx hb dL_edge_17 (by decide) ?_
    refine lv_iconst (v := 0) hx hb dL_edge_24 (by decide) ?_
    refine W.widen (k := 1) (n := 6) (by omega) (by omega) ?_
    exact eh_iret hx hb hr hlk hP hS ⟨rfl, rfl⟩ dL_edge_25

set_option maxHeartbeats 4000000 in
set_option maxRecDepth 100000 in
theorem h_rank_gt (l : Launch) (D : va_G) (cI cZ cJ : ClassId) (ad : Nat → Nat) (hJ : eJ ad) (b0 : Nat) (n : Nat) (g : Nat → Int32) (w : Nat → Int32) (P : Nat → Bool) (gm : Nat → Bool) (wm : Nat → Bool) (wz : Bool) (gb : Int32) (go : Bool) (gp : Bool) (gj : Bool) (wb : Int32) (wl : Int32) (wk : Int32) (wo : Bool) (fa : Int32) (mn : Nat) (mg : Nat → Int32) (mw : Nat → Int32) (mP : Nat → Bool) (o : Nat → Int64) (kd : Int32) (i : Nat) (hk1 : ei_ok kd 1) (hk : kd = 0) (hn : n ≤ 1000) (hi : i ≤ n) : eh_M l yL_rank (Cond.codeWith yL_rank cL_rank 5 (some .int) [(0, 10, 13, 13)] :: eT) ({ frames := 8, cells := 1, slots := 6, locals := 154 }) D (eTy cI cZ cJ) [.ref (ad 0), .int kd, .int (nI i), .ref (ad 15)] (cw ad cI cZ cJ n g w P gm wm true wz gb go gp gj wb wl wk wo fa mn mg mw mP o) b0 (ed (some (.int 0)) (cw ad cI cZ cJ n g w P (ef_up (ef_fl gm (eg_M g P) n) n (decide (0 < n))) wm false wz (eg_bf g n) (eg_od g n) (eg_ap g P n) (eg_aj g P n) wb wl wk wo fa mn mg mw mP (vp_updL o 0 ((nI (es_cu (eb_g g P n) (i + 1))).toInt64)))) (eA ad) := by
  refine eh_of (cc := cL_rank) (maxL := 5) (ret := (some .int)) (hh := [(0, 10, 13, 13)]) (by decide) rfl (Nat.le_of_ble_eq_true rfl) ?_
  intro p e s m args below meth c ls hx hb hr hts hown hlk hml htab hP hK hN hZ hl
  have hown : s.vm.findClass RL = some m.cls := hown
  have hl : lv_has ls 5 [(0, .ref (ad 0)), (1, .int kd), (2, .int (nI i)), (3, .ref (ad 15))] := hl
  have hS : va_S (eA ad) s.heap s.heap [] := va_S.rf
  have hD : va_D (eA ad) (cw ad cI cZ cJ n g w P gm wm true wz gb go gp gj wb wl wk wo fa mn mg mw mP o) := eD_of hJ rfl
  refine lv_aload_n hx hb dL_rank_0 rfl (lv_at hl 3 rfl) ?_
  refine lv_iconst (v := 0) hx hb dL_rank_1 (by decide) ?_
  refine lv_aload_n hx hb dL_rank_2 rfl (lv_at hl 0 rfl) ?_
  refine lv_iload_n hx hb dL_rank_3 rfl (lv_at hl 1 rfl) ?_
  refine lv_iload_n hx hb dL_rank_4 rfl (lv_at hl 2 rfl) ?_
  refine ec_V (own := RL) (C := RX5) (b := ad 0) (rest := [.int 0, .ref (ad 15)]) hx hb hml hown hts hl.1 (c_X5_rank_gt l D cI cZ cJ ad hJ n g w P gm wm wz gb go gp gj wb wl wk wo fa mn mg mw mP o kd i hk1 hk hn hi) tw345 tw1 tw342 tw343 tw344 yd_X5_rank rfl rfl ⟨Nat.le_of_ble_eq_true rfl, Nat.le_of_ble_eq_true rfl⟩ hP hK hN hP (q0 := 0) rfl rfl rfl rfl (Nat.le_of_ble_eq_true rfl) ⟨Nat.zero_le _, Nat.zero_le _⟩ hS (fun _ h9 => h9) dL_rank_5 (fun v9 W9 H locs hF hP hS hz9 hk9 => ?_)
  obtain ⟨rfl, rfl⟩ := hF
  have hD : va_D (eA ad) (cw ad cI cZ cJ n g w P (ef_up (ef_fl gm (eg_M g P) n) n (decide (0 < n))) wm false wz (eg_bf g n) (eg_od g n) (eg_ap g P n) (eg_aj g P n) wb wl wk wo fa mn mg mw mP o) := eD_of hJ rfl
  refine W.eq (g2 := F0 m 8 ls [.int (nI (es_cu (eb_g g P n) (i + 1))), .int 0, .ref (ad 15)]) rfl ?_
  refine lv_i2l (v := (nI (es_cu (eb_g g P n) (i + 1))).toInt64) hx hb dL_rank_8 rfl ?_
  refine va_last hx hb hK hP hD hS 15 2 rfl rfl (vp_in_nI (n := 0) (by omega) (by decide)) dL_rank_9 (fun H locs hP hD hS => ?_)
  have hP : va_P D vwCl (cw ad cI cZ cJ n g w P (ef_up (ef_fl gm (eg_M g P) n) n (decide (0 < n))) wm false wz (eg_bf g n) (eg_od g n) (eg_ap g P n) (eg_aj g P n) wb wl wk wo fa mn mg mw mP (vp_updL o 0 ((nI (es_cu (eb_g g P n) (i + 1))).toInt64))) H := hP
  have hD : va_D (eA ad) (cw ad cI cZ cJ n g w P (ef_up (ef_fl gm (eg_M g P) n) n (decide (0 < n))) wm false wz (eg_bf g n) (eg_od g n) (eg_ap g P n) (eg_aj g P n) wb wl wk wo fa mn mg mw mP (vp_updL o 0 ((nI (es_cu (eb_g g P n) (i + 1))).toInt64))) := hD
  refine lv_goto (tgt := 17) hx hb dL_rank_10 (by decide) ?_
  refine lv_iconst (v := 0) hx hb dL_rank_17 (by decide) ?_
  refine W.widen (k := 1) (n := 6) (by omega) (by omega) ?_
  exact eh_iret hx hb hr hlk hP hS ⟨rfl, rfl⟩ dL_rank_18

set_option maxHeartbeats 4000000 in
set_option maxRecDepth 100000 in
theorem h_hash_gt (l : Launch) (D : va_G) (cI cZ cJ : ClassId) (ad : Nat → Nat) (hJ : eJ ad) (b0 : Nat) (n : Nat) (g : Nat → Int32) (w : Nat → Int32) (P : Nat → Bool) (gm : Nat → Bool) (wm : Nat → Bool) (wz : Bool) (gb : Int32) (go : Bool) (gp : Bool) (gj : Bool) (wb : Int32) (wl : Int32) (wk : Int32) (wo : Bool) (fa : Int32) (mn : Nat) (mg : Nat → Int32) (mw : Nat → Int32) (mP : Nat → Bool) (o : Nat → Int64) (kd : Int32) (hk1 : ei_ok kd 1) (hk : kd = 0) (hn : n ≤ 1000) : eh_M l yL_hash (Cond.codeWith yL_hash cL_hash 4 (some .int) [(0, 9, 12, 13)] :: eT) ({ frames := 8, cells := 1, slots := 6, locals := 154 }) D (eTy cI cZ cJ) [.ref (ad 0), .int kd, .ref (ad 15)] (cw ad cI cZ cJ n g w P gm wm true wz gb go gp gj wb wl wk wo fa mn mg mw mP o) b0 (ed (some (.int 0)) (cw ad cI cZ cJ n g w P (ef_up (ef_fl gm (eg_M g P) n) n (decide (0 < n))) wm false wz (eg_bf g n) (eg_od g n) (eg_ap g P n) (eg_aj g P n) wb wl wk wo fa mn mg mw mP (vp_updL o 0 ((es_mx (eb_g g P n) (n + 1)).toInt64)))) (eA ad) := by
  refine eh_of (cc := cL_hash) (maxL := 4) (ret := (some .int)) (hh := [(0, 9, 12, 13)]) (by decide) rfl (Nat.le_of_ble_eq_true rfl) ?_
  intro p e s m args below meth c ls hx hb hr hts hown hlk hml htab hP hK hN hZ hl
  have hown : s.vm.findClass RL = some m.cls := hown
  have hl : lv_has ls 4 [(0, .ref (ad 0)), (1, .int kd), (2, .ref (ad 15))] := hl
  have hS : va_S (eA ad) s.heap s.heap [] := va_S.rf
  have hD : va_D (eA ad) (cw ad cI cZ cJ n g w P gm wm true wz gb go gp gj wb wl wk wo fa mn mg mw mP o) := eD_of hJ rfl
  refine lv_aload_n hx hb dL_hash_0 rfl (lv_at hl 2 rfl) ?_
  refine lv_iconst (v := 0) hx hb dL_hash_1 (by decide) ?_
  refine lv_aload_n hx hb dL_hash_2 rfl (lv_at hl 0 rfl) ?_
  refine lv_iload_n hx hb dL_hash_3 rfl (lv_at hl 1 rfl) ?_
  refine ec_V (own := RL) (C := RX5) (b := ad 0) (rest := [.int 0, .ref (ad 15)]) hx hb hml hown hts hl.1 (c_X5_hash_gt l D cI cZ cJ ad hJ n g w P gm wm wz gb go gp gj wb wl wk wo fa mn mg mw mP o kd hk1 hk hn) tw356 tw1 tw353 tw354 tw355 yd_X5_hash rfl rfl ⟨Nat.le_of_ble_eq_true rfl, Nat.le_of_ble_eq_true rfl⟩ hP hK hN hP (q0 := 0) rfl rfl rfl rfl (Nat.le_of_ble_eq_true rfl) ⟨Nat.zero_le _, Nat.zero_le _⟩ hS (fun _ h9 => h9) dL_hash_4 (fun v9 W9 H locs hF hP hS hz9 hk9 => ?_)
  obtain ⟨rfl, rfl⟩ := hF
  have hD : va_D (eA ad) (cw ad cI cZ cJ n g w P (ef_up (ef_fl gm (eg_M g P) n) n (decide (0 < n))) wm false wz (eg_bf g n) (eg_od g n) (eg_ap g P n) (eg_aj g P n) wb wl wk wo fa mn mg mw mP o) := eD_of hJ rfl
  refine W.eq (g2 := F0 m 7 ls [.int (es_mx (eb_g g P n) (n + 1)), .int 0, .ref (ad 15)]) rfl ?_
  refine lv_i2l (v := (es_mx (eb_g g P n) (n + 1)).toInt64) hx hb dL_hash_7 rfl ?_
  refine va_last hx hb hK hP hD hS 15 2 rfl rfl (vp_in_nI (n := 0) (by omega) (by decide)) dL_hash_8 (fun H locs hP hD hS => ?_)
  have hP : va_P D vwCl (cw ad cI cZ cJ n g w P (ef_up (ef_fl gm (eg_M g P) n) n (decide (0 < n))) wm false wz (eg_bf g n) (eg_od g n) (eg_ap g P n) (eg_aj g P n) wb wl wk wo fa mn mg mw mP (vp_updL o 0 ((es_mx (eb_g g P n) (n + 1)).toInt64))) H := hP
  have hD : va_D (eA ad) (cw ad cI cZ cJ n g w P (ef_up (ef_fl gm (eg_M g P) n) n (decide (0 < n))) wm false wz (eg_bf g n) (eg_od g n) (eg_ap g P n) (eg_aj g P n) wb wl wk wo fa mn mg mw mP (vp_updL o 0 ((es_mx (eb_g g P n) (n + 1)).toInt64))) := hD
  refine lv_goto (tgt := 15) hx hb dL_hash_9 (by decide) ?_
  refine lv_iconst (v := 0) hx hb dL_hash_15 (by decide) ?_
  refine W.widen (k := 1) (n := 6) (by omega) (by omega) ?_
  exact eh_iret hx hb hr hlk hP hS ⟨rfl, rfl⟩ dL_hash_16

set_option maxHeartbeats 4000000 in
set_option maxRecDepth 100000 in
theorem h_next_gtt (l : Launch) (D : va_G) (cI cZ cJ : ClassId) (ad : Nat → Nat) (hJ : eJ ad) (b0 : Nat) (n : Nat) (g : Nat → Int32) (w : Nat → Int32) (P : Nat → Bool) (gm : Nat → Bool) (wm : Nat → Bool) (wz : Bool) (gb : Int32) (go : Bool) (gp : Bool) (gj : Bool) (wb : Int32) (wl : Int32) (wk : Int32) (wo : Bool) (fa : Int32) (mn : Nat) (mg : Nat → Int32) (mw : Nat → Int32) (mP : Nat → Bool) (o : Nat → Int64) (kd : Int32) (i : Nat) (hk1 : ei_ok kd 1) (hk : kd = 0) (hn : n ≤ 1000) (hi : i ≤ n) : eh_M l yL_next (Cond.codeWith yL_next cL_next 6 (some .int) [(0, 12, 15, 13)] :: eT) ({ frames := 8, cells := 1, slots := 6, locals := 154 }) D (eTy cI cZ cJ) [.ref (ad 0), .int kd, .int (nI i), .int (ef_b true), .ref (ad 15)] (cw ad cI cZ cJ n g w P gm wm true wz gb go gp gj wb wl wk wo fa mn mg mw mP o) b0 (ed (some (.int 0)) (cw ad cI cZ cJ n g w P (ef_up (ef_fl gm (eg_M g P) n) n (decide (0 < n))) wm false wz (eg_bf g n) (eg_od g n) (eg_ap g P n) (eg_aj g P n) wb wl wk wo fa mn mg mw mP (vp_updL o 0 ((es_lb (eb_g g P n) i).toInt64)))) (eA ad) := by
  refine eh_of (cc := cL_next) (maxL := 6) (ret := (some .int)) (hh := [(0, 12, 15, 13)]) (by decide) rfl (Nat.le_of_ble_eq_true rfl) ?_
  intro p e s m args below meth c ls hx hb hr hts hown hlk hml htab hP hK hN hZ hl
  have hown : s.vm.findClass RL = some m.cls := hown
  have hl : lv_has ls 6 [(0, .ref (ad 0)), (1, .int kd), (2, .int (nI i)), (3, .int (ef_b true)), (4, .ref (ad 15))] := hl
  have hS : va_S (eA ad) s.heap s.heap [] := va_S.rf
  have hD : va_D (eA ad) (cw ad cI cZ cJ n g w P gm wm true wz gb go gp gj wb wl wk wo fa mn mg mw mP o) := eD_of hJ rfl
  refine lv_aload hx hb dL_next_0 (lv_at hl 4 rfl) ?_
  refine lv_iconst (v := 0) hx hb dL_next_2 (by decide) ?_
  refine lv_aload_n hx hb dL_next_3 rfl (lv_at hl 0 rfl) ?_
  refine lv_iload_n hx hb dL_next_4 rfl (lv_at hl 1 rfl) ?_
  refine lv_iload_n hx hb dL_next_5 rfl (lv_at hl 2 rfl) ?_
  refine lv_iload_n hx hb dL_next_6 rfl (lv_at hl 3 rfl) ?_
  refine ec_V (own := RL) (C := RX5) (b := ad 0) (rest := [.int 0, .ref (ad 15)]) hx hb hml hown hts hl.1 (c_X5_next_gtt l D cI cZ cJ ad hJ n g w P gm wm wz gb go gp gj wb wl wk wo fa mn mg mw mP o kd i hk1 hk hn hi) tw330 tw1 tw327 tw328 tw329 yd_X5_next rfl rfl ⟨Nat.le_of_ble_eq_true rfl, Nat.le_of_ble_eq_true rfl⟩ hP hK hN hP (q0 := 0) rfl rfl rfl rfl (Nat.le_of_ble_eq_true rfl) ⟨Nat.zero_le _, Nat.zero_le _⟩ hS (fun _ h9 => h9) dL_next_7 (fun v9 W9 H locs hF hP hS hz9 hk9 => ?_)
  obtain ⟨rfl, rfl⟩ := hF
  have hD : va_D (eA ad) (cw ad cI cZ cJ n g w P (ef_up (ef_fl gm (eg_M g P) n) n (decide (0 < n))) wm false wz (eg_bf g n) (eg_od g n) (eg_ap g P n) (eg_aj g P n) wb wl wk wo fa mn mg mw mP o) := eD_of hJ rfl
  refine W.eq (g2 := F0 m 10 ls [.int (es_lb (eb_g g P n) i), .int 0, .ref (ad 15)]) rfl ?_
  refine lv_i2l (v := (es_lb (eb_g g P n) i).toInt64) hx hb dL_next_10 rfl ?_
  refine va_last hx hb hK hP hD hS 15 2 rfl rfl (vp_in_nI (n := 0) (by omega) (by decide)) dL_next_11 (fun H locs hP hD hS => ?_)
  have hP : va_P D vwCl (cw ad cI cZ cJ n g w P (ef_up (ef_fl gm (eg_M g P) n) n (decide (0 < n))) wm false wz (eg_bf g n) (eg_od g n) (eg_ap g P n) (eg_aj g P n) wb wl wk wo fa mn mg mw mP (vp_updL o 0 ((es_lb (eb_g g P n) i).toInt64))) H := hP
  have hD : va_D (eA ad) (cw ad cI cZ cJ n g w P (ef_up (ef_fl gm (eg_M g P) n) n (decide (0 < n))) wm false wz (eg_bf g n) (eg_od g n) (eg_ap g P n) (eg_aj g P n) wb wl wk wo fa mn mg mw mP (vp_updL o 0 ((es_lb (eb_g g P n) i).toInt64))) := hD
  refine lv_goto (tgt := 19) hx hb dL_next_12 (by decide) ?_
  refine lv_iconst (v := 0) hx hb dL_next_19 (by decide) ?_
  refine W.widen (k := 1) (n := 6) (by omega) (by omega) ?_
  exact eh_iret hx hb hr hlk hP hS ⟨rfl, rfl⟩ dL_next_20

set_option maxHeartbeats 4000000 in
set_option maxRecDepth 100000 in
theorem h_next_gtf (l : Launch) (D : va_G) (cI cZ cJ : ClassId) (ad : Nat → Nat) (hJ : eJ ad) (b0 : Nat) (n : Nat) (g : Nat → Int32) (w : Nat → Int32) (P : Nat → Bool) (gm : Nat → Bool) (wm : Nat → Bool) (wz : Bool) (gb : Int32) (go : Bool) (gp : Bool) (gj : Bool) (wb : Int32) (wl : Int32) (wk : Int32) (wo : Bool) (fa : Int32) (mn : Nat) (mg : Nat → Int32) (mw : Nat → Int32) (mP : Nat → Bool) (o : Nat → Int64) (kd : Int32) (i : Nat) (hk1 : ei_ok kd 1) (hk : kd = 0) (hn : n ≤ 1000) (hi : i ≤ n) : eh_M l yL_next (Cond.codeWith yL_next cL_next 6 (some .int) [(0, 12, 15, 13)] :: eT) ({ frames := 8, cells := 1, slots := 6, locals := 154 }) D (eTy cI cZ cJ) [.ref (ad 0), .int kd, .int (nI i), .int (ef_b false), .ref (ad 15)] (cw ad cI cZ cJ n g w P gm wm true wz gb go gp gj wb wl wk wo fa mn mg mw mP o) b0 (ed (some (.int 0)) (cw ad cI cZ cJ n g w P (ef_up (ef_fl gm (eg_M g P) n) n (decide (0 < n))) wm false wz (eg_bf g n) (eg_od g n) (eg_ap g P n) (eg_aj g P n) wb wl wk wo fa mn mg mw mP (vp_updL o 0 ((es_fb (eb_g g P n) (n - i) (i + 1)).toInt64)))) (eA ad) := by
  refine eh_of (cc := cL_next) (maxL := 6) (ret := (some .int)) (hh := [(0, 12, 15, 13)]) (by decide) rfl (Nat.le_of_ble_eq_true rfl) ?_
  intro p e s m args below meth c ls hx hb hr hts hown hlk hml htab hP hK hN hZ hl
  have hown : s.vm.findClass RL = some m.cls := hown
  have hl : lv_has ls 6 [(0, .ref (ad 0)), (1, .int kd), (2, .int (nI i)), (3, .int (ef_b false)), (4, .ref (ad 15))] := hl
  have hS : va_S (eA ad) s.heap s.heap [] := va_S.rf
  have hD : va_D (eA ad) (cw ad cI cZ cJ n g w P gm wm true wz gb go gp gj wb wl wk wo fa mn mg mw mP o) := eD_of hJ rfl
  refine lv_aload hx hb dL_next_0 (lv_at hl 4 rfl) ?_
  refine lv_iconst (v := 0) hx hb dL_next_2 (by decide) ?_
  refine lv_aload_n hx hb dL_next_3 rfl (lv_at hl 0 rfl) ?_
  refine lv_iload_n hx hb dL_next_4 rfl (lv_at hl 1 rfl) ?_
  refine lv_iload_n hx hb dL_next_5 rfl (lv_at hl 2 rfl) ?_
  refine lv_iload_n hx hb dL_next_6 rfl (lv_at hl 3 rfl) ?_
  refine ec_V (own := RL) (C := RX5) (b := ad 0) (rest := [.int 0, .ref (ad 15)]) hx hb hml hown hts hl.1 (c_X5_next_gtf l D cI cZ cJ ad hJ n g w P gm wm wz gb go gp gj wb wl wk wo fa mn mg mw mP o kd i hk1 hk hn hi) tw330 tw1 tw327 tw328 tw329 yd_X5_next rfl rfl ⟨Nat.le_of_ble_eq_true rfl, Nat.le_of_ble_eq_true rfl⟩ hP hK hN hP (q0 := 0) rfl rfl rfl rfl (Nat.le_of_ble_eq_true rfl) ⟨Nat.zero_le _, Nat.zero_le _⟩ hS (fun _ h9 => h9) dL_next_7 (fun v9 W9 H locs hF hP hS hz9 hk9 => ?_)
  obtain ⟨rfl, rfl⟩ := hF
  have hD : va_D (eA ad) (cw ad cI cZ cJ n g w P (ef_up (ef_fl gm (eg_M g P) n) n (decide (0 < n))) wm false wz (eg_bf g n) (eg_od g n) (eg_ap g P n) (eg_aj g P n) wb wl wk wo fa mn mg mw mP o) := eD_of hJ rfl
  refine W.eq (g2 := F0 m 10 ls [.int (es_fb (eb_g g P n) (n - i) (i + 1)), .int 0, .ref (ad 15)]) rfl ?_
  refine lv_i2l (v := (es_fb (eb_g g P n) (n - i) (i + 1)).toInt64) hx hb dL_next_10 rfl ?_
  refine va_last hx hb hK hP hD hS 15 2 rfl rfl (vp_in_nI (n := 0) (by omega) (by decide)) dL_next_11 (fun H locs hP hD hS => ?_)
  have hP : va_P D vwCl (cw ad cI cZ cJ n g w P (ef_up (ef_fl gm (eg_M g P) n) n (decide (0 < n))) wm false wz (eg_bf g n) (eg_od g n) (eg_ap g P n) (eg_aj g P n) wb wl wk wo fa mn mg mw mP (vp_updL o 0 ((es_fb (eb_g g P n) (n - i) (i + 1)).toInt64))) H := hP
  have hD : va_D (eA ad) (cw ad cI cZ cJ n g w P (ef_up (ef_fl gm (eg_M g P) n) n (decide (0 < n))) wm false wz (eg_bf g n) (eg_od g n) (eg_ap g P n) (eg_aj g P n) wb wl wk wo fa mn mg mw mP (vp_updL o 0 ((es_fb (eb_g g P n) (n - i) (i + 1)).toInt64))) := hD
  refine lv_goto (tgt := 19) hx hb dL_next_12 (by decide) ?_
  refine lv_iconst (v := 0) hx hb dL_next_19 (by decide) ?_
  refine W.widen (k := 1) (n := 6) (by omega) (by omega) ?_
  exact eh_iret hx hb hr hlk hP hS ⟨rfl, rfl⟩ dL_next_20

set_option maxHeartbeats 4000000 in
set_option maxRecDepth 100000 in
theorem h_edge_gf (l : Launch) (D : va_G) (cI cZ cJ : ClassId) (ad : Nat → Nat) (hJ : eJ ad) (b0 : Nat) (n : Nat) (g : Nat → Int32) (w : Nat → Int32) (P : Nat → Bool) (gm : Nat → Bool) (wm : Nat → Bool) (wz : Bool) (gb : Int32) (go : Bool) (gp : Bool) (gj : Bool) (wb : Int32) (wl : Int32) (wk : Int32) (wo : Bool) (fa : Int32) (mn : Nat) (mg : Nat → Int32) (mw : Nat → Int32) (mP : Nat → Bool) (o : Nat → Int64) (kd : Int32) (i : Nat) (hk1 : ei_ok kd 1) (hk : kd = 0) (hn : n ≤ 1000) (hm : ∀ j, j ≤ n → gm j = eb_g g P n j) (hi : i ≤ n) : eh_M l yL_edge (Cond.codeWith yL_edge cL_edge 5 (some .int) [(0, 17, 20, 13)] :: eT) ({ frames := 8, cells := 1, slots := 6, locals := 154 }) D (eTy cI cZ cJ) [.ref (ad 0), .int kd, .int (nI i), .ref (ad 15)] (cw ad cI cZ cJ n g w P gm wm false wz gb go gp gj wb wl wk wo fa mn mg mw mP o) b0 (ed (some (.int 0)) (cw ad cI cZ cJ n g w P gm wm false wz gb go gp gj wb wl wk wo fa mn mg mw mP (vp_updL o 0 (ef_l (eb_g g P n i))))) (eA ad) := by
  refine eh_of (cc := cL_edge) (maxL := 5) (ret := (some .int)) (hh := [(0, 17, 20, 13)]) (by decide) rfl (Nat.le_of_ble_eq_true rfl) ?_
  intro p e s m args below meth c ls hx hb hr hts hown hlk hml htab hP hK hN hZ hl
  have hown : s.vm.findClass RL = some m.cls := hown
  have hl : lv_has ls 5 [(0, .ref (ad 0)), (1, .int kd), (2, .int (nI i)), (3, .ref (ad 15))] := hl
  have hS : va_S (eA ad) s.heap s.heap [] := va_S.rf
  have hD : va_D (eA ad) (cw ad cI cZ cJ n g w P gm wm false wz gb go gp gj wb wl wk wo fa mn mg mw mP o) := eD_of hJ rfl
  refine lv_aload_n hx hb dL_edge_0 rfl (lv_at hl 3 rfl) ?_
  refine lv_iconst (v := 0) hx hb dL_edge_1 (by decide) ?_
  refine lv_aload_n hx hb dL_edge_2 rfl (lv_at hl 0 rfl) ?_
  refine lv_iload_n hx hb dL_edge_3 rfl (lv_at hl 1 rfl) ?_
  refine lv_iload_n hx hb dL_edge_4 rfl (lv_at hl 2 rfl) ?_
  refine ec_V (own := RL) (C := RX5) (b := ad 0) (rest := [.int 0, .ref (ad 15)]) hx hb hml hown hts hl.1 (c_X5_edge_gf l D cI cZ cJ ad hJ n g w P gm wm wz gb go gp gj wb wl wk wo fa mn mg mw mP o kd i hk1 hk hn hm hi) tw241 tw1 tw238 tw239 tw240 yd_X5_edge rfl rfl ⟨Nat.le_of_ble_eq_true rfl, Nat.le_of_ble_eq_true rfl⟩ hP hK hN hP (q0 := 0) rfl rfl rfl rfl (Nat.le_of_ble_eq_true rfl) ⟨Nat.zero_le _, Nat.zero_le _⟩ hS (fun _ h9 => h9) dL_edge_5 (fun v9 W9 H locs hF hP hS hz9 hk9 => ?_)
  obtain ⟨rfl, rfl⟩ := hF
  have hD : va_D (eA ad) (cw ad cI cZ cJ n g w P gm wm false wz gb go gp gj wb wl wk wo fa mn mg mw mP o) := eD_of hJ rfl
  refine W.eq (g2 := F0 m 8 ls [.int (ef_b (eb_g g P n i)), .int 0, .ref (ad 15)]) rfl ?_
  refine ef_if_eq (tgt := 15) hx hb dL_edge_8 (by decide) (fun h1 => ?_) (fun h1 => ?_)
  · skip
    refine lv_lconst (v := 0) hx hb dL_edge_15 (by decide) ?_
    refine ef_eql (y := ef_l (eb_g g P n i)) (by simp [ef_l, h1]) ?_
    refine va_last hx hb hK hP hD hS 15 2 rfl rfl (vp_in_nI (n := 0) (by omega) (by decide)) dL_edge_16 (fun H locs hP hD hS => ?_)
    have hP : va_P D vwCl (cw ad cI cZ cJ n g w P gm wm false wz gb go gp gj wb wl wk wo fa mn mg mw mP (vp_updL o 0 (ef_l (eb_g g P n i)))) H := hP
    have hD : va_D (eA ad) (cw ad cI cZ cJ n g w P gm wm false wz gb go gp gj wb wl wk wo fa mn mg mw mP (vp_updL o 0 (ef_l (eb_g g P n i)))) := hD
    refine lv_goto (tgt := 24) hx hb dL_edge_17 (by decide) ?_
    refine lv_iconst (v := 0) hx hb dL_edge_24 (by decide) ?_
    refine W.widen (k := 1) (n := 6) (by omega) (by omega) ?_
    exact eh_iret hx hb hr hlk hP hS ⟨rfl, rfl⟩ dL_edge_25
  · skip
    refine lv_lconst (v := 1) hx hb dL_edge_11 (by decide) ?_
    refine lv_goto (tgt := 16) hx hb dL_edge_12 (by decide) ?_
    refine ef_eql (y := ef_l (eb_g g P n i)) (by simp [ef_l, h1]) ?_
    refine va_last hx hb hK hP hD hS 15 2 rfl rfl (vp_in_nI (n := 0) (by omega) (by decide)) dL_edge_16 (fun H locs hP hD hS => ?_)
    have hP : va_P D vwCl (cw ad cI cZ cJ n g w P gm wm false wz gb go gp gj wb wl wk wo fa mn mg mw mP (vp_updL o 0 (ef_l (eb_g g P n i)))) H := hP
    have hD : va_D (eA ad) (cw ad cI cZ cJ n g w P gm wm false wz gb go gp gj wb wl wk wo fa mn mg mw mP (vp_updL o 0 (ef_l (eb_g g P n i)))) := hD
    refine lv_goto (tgt := 24) hx hb dL_edge_17 (by decide) ?_
    refine lv_iconst (v := 0) hx hb dL_edge_24 (by decide) ?_
    refine W.widen (k := 1) (n := 6) (by omega) (by omega) ?_
    exact eh_iret hx hb hr hlk hP hS ⟨rfl, rfl⟩ dL_edge_25

set_option maxHeartbeats 4000000 in
set_option maxRecDepth 100000 in
theorem h_rank_gf (l : Launch) (D : va_G) (cI cZ cJ : ClassId) (ad : Nat → Nat) (hJ : eJ ad) (b0 : Nat) (n : Nat) (g : Nat → Int32) (w : Nat → Int32) (P : Nat → Bool) (gm : Nat → Bool) (wm : Nat → Bool) (wz : Bool) (gb : Int32) (go : Bool) (gp : Bool) (gj : Bool) (wb : Int32) (wl : Int32) (wk : Int32) (wo : Bool) (fa : Int32) (mn : Nat) (mg : Nat → Int32) (mw : Nat → Int32) (mP : Nat → Bool) (o : Nat → Int64) (kd : Int32) (i : Nat) (hk1 : ei_ok kd 1) (hk : kd = 0) (hn : n ≤ 1000) (hm : ∀ j, j ≤ n → gm j = eb_g g P n j) (hi : i ≤ n) : eh_M l yL_rank (Cond.codeWith yL_rank cL_rank 5 (some .int) [(0, 10, 13, 13)] :: eT) ({ frames := 8, cells := 1, slots := 6, locals := 154 }) D (eTy cI cZ cJ) [.ref (ad 0), .int kd, .int (nI i), .ref (ad 15)] (cw ad cI cZ cJ n g w P gm wm false wz gb go gp gj wb wl wk wo fa mn mg mw mP o) b0 (ed (some (.int 0)) (cw ad cI cZ cJ n g w P gm wm false wz gb go gp gj wb wl wk wo fa mn mg mw mP (vp_updL o 0 ((nI (es_cu (eb_g g P n) (i + 1))).toInt64)))) (eA ad) := by
  refine eh_of (cc := cL_rank) (maxL := 5) (ret := (some .int)) (hh := [(0, 10, 13, 13)]) (by decide) rfl (Nat.le_of_ble_eq_true rfl) ?_
  intro p e s m args below meth c ls hx hb hr hts hown hlk hml htab hP hK hN hZ hl
  have hown : s.vm.findClass RL = some m.cls := hown
  have hl : lv_has ls 5 [(0, .ref (ad 0)), (1, .int kd), (2, .int (nI i)), (3, .ref (ad 15))] := hl
  have hS : va_S (eA ad) s.heap s.heap [] := va_S.rf
  have hD : va_D (eA ad) (cw ad cI cZ cJ n g w P gm wm false wz gb go gp gj wb wl wk wo fa mn mg mw mP o) := eD_of hJ rfl
  refine lv_aload_n hx hb dL_rank_0 rfl (lv_at hl 3 rfl) ?_
  refine lv_iconst (v := 0) hx hb dL_rank_1 (by decide) ?_
  refine lv_aload_n hx hb dL_rank_2 rfl (lv_at hl 0 rfl) ?_
  refine lv_iload_n hx hb dL_rank_3 rfl (lv_at hl 1 rfl) ?_
  refine lv_iload_n hx hb dL_rank_4 rfl (lv_at hl 2 rfl) ?_
  refine ec_V (own := RL) (C := RX5) (b := ad 0) (rest := [.int 0, .ref (ad 15)]) hx hb hml hown hts hl.1 (c_X5_rank_gf l D cI cZ cJ ad hJ n g w P gm wm wz gb go gp gj wb wl wk wo fa mn mg mw mP o kd i hk1 hk hn hm hi) tw345 tw1 tw342 tw343 tw344 yd_X5_rank rfl rfl ⟨Nat.le_of_ble_eq_true rfl, Nat.le_of_ble_eq_true rfl⟩ hP hK hN hP (q0 := 0) rfl rfl rfl rfl (Nat.le_of_ble_eq_true rfl) ⟨Nat.zero_le _, Nat.zero_le _⟩ hS (fun _ h9 => h9) dL_rank_5 (fun v9 W9 H locs hF hP hS hz9 hk9 => ?_)
  obtain ⟨rfl, rfl⟩ := hF
  have hD : va_D (eA ad) (cw ad cI cZ cJ n g w P gm wm false wz gb go gp gj wb wl wk wo fa mn mg mw mP o) := eD_of hJ rfl
  refine W.eq (g2 := F0 m 8 ls [.int (nI (es_cu (eb_g g P n) (i + 1))), .int 0, .ref (ad 15)]) rfl ?_
  refine lv_i2l (v := (nI (es_cu (eb_g g P n) (i + 1))).toInt64) hx hb dL_rank_8 rfl ?_
  refine va_last hx hb hK hP hD hS 15 2 rfl rfl (vp_in_nI (n := 0) (by omega) (by decide)) dL_rank_9 (fun H locs hP hD hS => ?_)
  have hP : va_P D vwCl (cw ad cI cZ cJ n g w P gm wm false wz gb go gp gj wb wl wk wo fa mn mg mw mP (vp_updL o 0 ((nI (es_cu (eb_g g P n) (i + 1))).toInt64))) H := hP
  have hD : va_D (eA ad) (cw ad cI cZ cJ n g w P gm wm false wz gb go gp gj wb wl wk wo fa mn mg mw mP (vp_updL o 0 ((nI (es_cu (eb_g g P n) (i + 1))).toInt64))) := hD
  refine lv_goto (tgt := 17) hx hb dL_rank_10 (by decide) ?_
  refine lv_iconst (v := 0) hx hb dL_rank_17 (by decide) ?_
  refine W.widen (k := 1) (n := 6) (by omega) (by omega) ?_
  exact eh_iret hx hb hr hlk hP hS ⟨rfl, rfl⟩ dL_rank_18

set_option maxHeartbeats 4000000 in
set_option maxRecDepth 100000 in
theorem h_hash_gf (l : Launch) (D : va_G) (cI cZ cJ : ClassId) (ad : Nat → Nat) (hJ : eJ ad) (b0 : Nat) (n : Nat) (g : Nat → Int32) (w : Nat → Int32) (P : Nat → Bool) (gm : Nat → Bool) (wm : Nat → Bool) (wz : Bool) (gb : Int32) (go : Bool) (gp : Bool) (gj : Bool) (wb : Int32) (wl : Int32) (wk : Int32) (wo : Bool) (fa : Int32) (mn : Nat) (mg : Nat → Int32) (mw : Nat → Int32) (mP : Nat → Bool) (o : Nat → Int64) (kd : Int32) (hk1 : ei_ok kd 1) (hk : kd = 0) (hn : n ≤ 1000) (hm : ∀ j, j ≤ n → gm j = eb_g g P n j) : eh_M l yL_hash (Cond.codeWith yL_hash cL_hash 4 (some .int) [(0, 9, 12, 13)] :: eT) ({ frames := 8, cells := 1, slots := 6, locals := 154 }) D (eTy cI cZ cJ) [.ref (ad 0), .int kd, .ref (ad 15)] (cw ad cI cZ cJ n g w P gm wm false wz gb go gp gj wb wl wk wo fa mn mg mw mP o) b0 (ed (some (.int 0)) (cw ad cI cZ cJ n g w P gm wm false wz gb go gp gj wb wl wk wo fa mn mg mw mP (vp_updL o 0 ((es_mx (eb_g g P n) (n + 1)).toInt64)))) (eA ad) := by
  refine eh_of (cc := cL_hash) (maxL := 4) (ret := (some .int)) (hh := [(0, 9, 12, 13)]) (by decide) rfl (Nat.le_of_ble_eq_true rfl) ?_
  intro p e s m args below meth c ls hx hb hr hts hown hlk hml htab hP hK hN hZ hl
  have hown : s.vm.findClass RL = some m.cls := hown
  have hl : lv_has ls 4 [(0, .ref (ad 0)), (1, .int kd), (2, .ref (ad 15))] := hl
  have hS : va_S (eA ad) s.heap s.heap [] := va_S.rf
  have hD : va_D (eA ad) (cw ad cI cZ cJ n g w P gm wm false wz gb go gp gj wb wl wk wo fa mn mg mw mP o) := eD_of hJ rfl
  refine lv_aload_n hx hb dL_hash_0 rfl (lv_at hl 2 rfl) ?_
  refine lv_iconst (v := 0) hx hb dL_hash_1 (by decide) ?_
  refine lv_aload_n hx hb dL_hash_2 rfl (lv_at hl 0 rfl) ?_
  refine lv_iload_n hx hb dL_hash_3 rfl (lv_at hl 1 rfl) ?_
  refine ec_V (own := RL) (C := RX5) (b := ad 0) (rest := [.int 0, .ref (ad 15)]) hx hb hml hown hts hl.1 (c_X5_hash_gf l D cI cZ cJ ad hJ n g w P gm wm wz gb go gp gj wb wl wk wo fa mn mg mw mP o kd hk1 hk hn hm) tw356 tw1 tw353 tw354 tw355 yd_X5_hash rfl rfl ⟨Nat.le_of_ble_eq_true rfl, Nat.le_of_ble_eq_true rfl⟩ hP hK hN hP (q0 := 0) rfl rfl rfl rfl (Nat.le_of_ble_eq_true rfl) ⟨Nat.zero_le _, Nat.zero_le _⟩ hS (fun _ h9 => h9) dL_hash_4 (fun v9 W9 H locs hF hP hS hz9 hk9 => ?_)
  obtain ⟨rfl, rfl⟩ := hF
  have hD : va_D (eA ad) (cw ad cI cZ cJ n g w P gm wm false wz gb go gp gj wb wl wk wo fa mn mg mw mP o) := eD_of hJ rfl
  refine W.eq (g2 := F0 m 7 ls [.int (es_mx (eb_g g P n) (n + 1)), .int 0, .ref (ad 15)]) rfl ?_
  refine lv_i2l (v := (es_mx (eb_g g P n) (n + 1)).toInt64) hx hb dL_hash_7 rfl ?_
  refine va_last hx hb hK hP hD hS 15 2 rfl rfl (vp_in_nI (n := 0) (by omega) (by decide)) dL_hash_8 (fun H locs hP hD hS => ?_)
  have hP : va_P D vwCl (cw ad cI cZ cJ n g w P gm wm false wz gb go gp gj wb wl wk wo fa mn mg mw mP (vp_updL o 0 ((es_mx (eb_g g P n) (n + 1)).toInt64))) H := hP
  have hD : va_D (eA ad) (cw ad cI cZ cJ n g w P gm wm false wz gb go gp gj wb wl wk wo fa mn mg mw mP (vp_updL o 0 ((es_mx (eb_g g P n) (n + 1)).toInt64))) := hD
  refine lv_goto (tgt := 15) hx hb dL_hash_9 (by decide) ?_
  refine lv_iconst (v := 0) hx hb dL_hash_15 (by decide) ?_
  refine W.widen (k := 1) (n := 6) (by omega) (by omega) ?_
  exact eh_iret hx hb hr hlk hP hS ⟨rfl, rfl⟩ dL_hash_16

set_option maxHeartbeats 4000000 in
set_option maxRecDepth 100000 in
theorem h_next_gft (l : Launch) (D : va_G) (cI cZ cJ : ClassId) (ad : Nat → Nat) (hJ : eJ ad) (b0 : Nat) (n : Nat) (g : Nat → Int32) (w : Nat → Int32) (P : Nat → Bool) (gm : Nat → Bool) (wm : Nat → Bool) (wz : Bool) (gb : Int32) (go : Bool) (gp : Bool) (gj : Bool) (wb : Int32) (wl : Int32) (wk : Int32) (wo : Bool) (fa : Int32) (mn : Nat) (mg : Nat → Int32) (mw : Nat → Int32) (mP : Nat → Bool) (o : Nat → Int64) (kd : Int32) (i : Nat) (hk1 : ei_ok kd 1) (hk : kd = 0) (hn : n ≤ 1000) (hm : ∀ j, j ≤ n → gm j = eb_g g P n j) (hi : i ≤ n) : eh_M l yL_next (Cond.codeWith yL_next cL_next 6 (some .int) [(0, 12, 15, 13)] :: eT) ({ frames := 8, cells := 1, slots := 6, locals := 154 }) D (eTy cI cZ cJ) [.ref (ad 0), .int kd, .int (nI i), .int (ef_b true), .ref (ad 15)] (cw ad cI cZ cJ n g w P gm wm false wz gb go gp gj wb wl wk wo fa mn mg mw mP o) b0 (ed (some (.int 0)) (cw ad cI cZ cJ n g w P gm wm false wz gb go gp gj wb wl wk wo fa mn mg mw mP (vp_updL o 0 ((es_lb (eb_g g P n) i).toInt64)))) (eA ad) := by
  refine eh_of (cc := cL_next) (maxL := 6) (ret := (some .int)) (hh := [(0, 12, 15, 13)]) (by decide) rfl (Nat.le_of_ble_eq_true rfl) ?_
  intro p e s m args below meth c ls hx hb hr hts hown hlk hml htab hP hK hN hZ hl
  have hown : s.vm.findClass RL = some m.cls := hown
  have hl : lv_has ls 6 [(0, .ref (ad 0)), (1, .int kd), (2, .int (nI i)), (3, .int (ef_b true)), (4, .ref (ad 15))] := hl
  have hS : va_S (eA ad) s.heap s.heap [] := va_S.rf
  have hD : va_D (eA ad) (cw ad cI cZ cJ n g w P gm wm false wz gb go gp gj wb wl wk wo fa mn mg mw mP o) := eD_of hJ rfl
  refine lv_aload hx hb dL_next_0 (lv_at hl 4 rfl) ?_
  refine lv_iconst (v := 0) hx hb dL_next_2 (by decide) ?_
  refine lv_aload_n hx hb dL_next_3 rfl (lv_at hl 0 rfl) ?_
  refine lv_iload_n hx hb dL_next_4 rfl (lv_at hl 1 rfl) ?_
  refine lv_iload_n hx hb dL_next_5 rfl (lv_at hl 2 rfl) ?_
  refine lv_iload_n hx hb dL_next_6 rfl (lv_at hl 3 rfl) ?_
  refine ec_V (own := RL) (C := RX5) (b := ad 0) (rest := [.int 0, .ref (ad 15)]) hx hb hml hown hts hl.1 (c_X5_next_gft l D cI cZ cJ ad hJ n g w P gm wm wz gb go gp gj wb wl wk wo fa mn mg mw mP o kd i hk1 hk hn hm hi) tw330 tw1 tw327 tw328 tw329 yd_X5_next rfl rfl ⟨Nat.le_of_ble_eq_true rfl, Nat.le_of_ble_eq_true rfl⟩ hP hK hN hP (q0 := 0) rfl rfl rfl rfl (Nat.le_of_ble_eq_true rfl) ⟨Nat.zero_le _, Nat.zero_le _⟩ hS (fun _ h9 => h9) dL_next_7 (fun v9 W9 H locs hF hP hS hz9 hk9 => ?_)
  obtain ⟨rfl, rfl⟩ := hF
  have hD : va_D (eA ad) (cw ad cI cZ cJ n g w P gm wm false wz gb go gp gj wb wl wk wo fa mn mg mw mP o) := eD_of hJ rfl
  refine W.eq (g2 := F0 m 10 ls [.int (es_lb (eb_g g P n) i), .int 0, .ref (ad 15)]) rfl ?_
  refine lv_i2l (v := (es_lb (eb_g g P n) i).toInt64) hx hb dL_next_10 rfl ?_
  refine va_last hx hb hK hP hD hS 15 2 rfl rfl (vp_in_nI (n := 0) (by omega) (by decide)) dL_next_11 (fun H locs hP hD hS => ?_)
  have hP : va_P D vwCl (cw ad cI cZ cJ n g w P gm wm false wz gb go gp gj wb wl wk wo fa mn mg mw mP (vp_updL o 0 ((es_lb (eb_g g P n) i).toInt64))) H := hP
  have hD : va_D (eA ad) (cw ad cI cZ cJ n g w P gm wm false wz gb go gp gj wb wl wk wo fa mn mg mw mP (vp_updL o 0 ((es_lb (eb_g g P n) i).toInt64))) := hD
  refine lv_goto (tgt := 19) hx hb dL_next_12 (by decide) ?_
  refine lv_iconst (v := 0) hx hb dL_next_19 (by decide) ?_
  refine W.widen (k := 1) (n := 6) (by omega) (by omega) ?_
  exact eh_iret hx hb hr hlk hP hS ⟨rfl, rfl⟩ dL_next_20

set_option maxHeartbeats 4000000 in
set_option maxRecDepth 100000 in
theorem h_next_gff (l : Launch) (D : va_G) (cI cZ cJ : ClassId) (ad : Nat → Nat) (hJ : eJ ad) (b0 : Nat) (n : Nat) (g : Nat → Int32) (w : Nat → Int32) (P : Nat → Bool) (gm : Nat → Bool) (wm : Nat → Bool) (wz : Bool) (gb : Int32) (go : Bool) (gp : Bool) (gj : Bool) (wb : Int32) (wl : Int32) (wk : Int32) (wo : Bool) (fa : Int32) (mn : Nat) (mg : Nat → Int32) (mw : Nat → Int32) (mP : Nat → Bool) (o : Nat → Int64) (kd : Int32) (i : Nat) (hk1 : ei_ok kd 1) (hk : kd = 0) (hn : n ≤ 1000) (hm : ∀ j, j ≤ n → gm j = eb_g g P n j) (hi : i ≤ n) : eh_M l yL_next (Cond.codeWith yL_next cL_next 6 (some .int) [(0, 12, 15, 13)] :: eT) ({ frames := 8, cells := 1, slots := 6, locals := 154 }) D (eTy cI cZ cJ) [.ref (ad 0), .int kd, .int (nI i), .int (ef_b false), .ref (ad 15)] (cw ad cI cZ cJ n g w P gm wm false wz gb go gp gj wb wl wk wo fa mn mg mw mP o) b0 (ed (some (.int 0)) (cw ad cI cZ cJ n g w P gm wm false wz gb go gp gj wb wl wk wo fa mn mg mw mP (vp_updL o 0 ((es_fb (eb_g g P n) (n - i) (i + 1)).toInt64)))) (eA ad) := by
  refine eh_of (cc := cL_next) (maxL := 6) (ret := (some .int)) (hh := [(0, 12, 15, 13)]) (by decide) rfl (Nat.le_of_ble_eq_true rfl) ?_
  intro p e s m args below meth c ls hx hb hr hts hown hlk hml htab hP hK hN hZ hl
  have hown : s.vm.findClass RL = some m.cls := hown
  have hl : lv_has ls 6 [(0, .ref (ad 0)), (1, .int kd), (2, .int (nI i)), (3, .int (ef_b false)), (4, .ref (ad 15))] := hl
  have hS : va_S (eA ad) s.heap s.heap [] := va_S.rf
  have hD : va_D (eA ad) (cw ad cI cZ cJ n g w P gm wm false wz gb go gp gj wb wl wk wo fa mn mg mw mP o) := eD_of hJ rfl
  refine lv_aload hx hb dL_next_0 (lv_at hl 4 rfl) ?_
  refine lv_iconst (v := 0) hx hb dL_next_2 (by decide) ?_
  refine lv_aload_n hx hb dL_next_3 rfl (lv_at hl 0 rfl) ?_
  refine lv_iload_n hx hb dL_next_4 rfl (lv_at hl 1 rfl) ?_
  refine lv_iload_n hx hb dL_next_5 rfl (lv_at hl 2 rfl) ?_
  refine lv_iload_n hx hb dL_next_6 rfl (lv_at hl 3 rfl) ?_
  refine ec_V (own := RL) (C := RX5) (b := ad 0) (rest := [.int 0, .ref (ad 15)]) hx hb hml hown hts hl.1 (c_X5_next_gff l D cI cZ cJ ad hJ n g w P gm wm wz gb go gp gj wb wl wk wo fa mn mg mw mP o kd i hk1 hk hn hm hi) tw330 tw1 tw327 tw328 tw329 yd_X5_next rfl rfl ⟨Nat.le_of_ble_eq_true rfl, Nat.le_of_ble_eq_true rfl⟩ hP hK hN hP (q0 := 0) rfl rfl rfl rfl (Nat.le_of_ble_eq_true rfl) ⟨Nat.zero_le _, Nat.zero_le _⟩ hS (fun _ h9 => h9) dL_next_7 (fun v9 W9 H locs hF hP hS hz9 hk9 => ?_)
  obtain ⟨rfl, rfl⟩ := hF
  have hD : va_D (eA ad) (cw ad cI cZ cJ n g w P gm wm false wz gb go gp gj wb wl wk wo fa mn mg mw mP o) := eD_of hJ rfl
  refine W.eq (g2 := F0 m 10 ls [.int (es_fb (eb_g g P n) (n - i) (i + 1)), .int 0, .ref (ad 15)]) rfl ?_
  refine lv_i2l (v := (es_fb (eb_g g P n) (n - i) (i + 1)).toInt64) hx hb dL_next_10 rfl ?_
  refine va_last hx hb hK hP hD hS 15 2 rfl rfl (vp_in_nI (n := 0) (by omega) (by decide)) dL_next_11 (fun H locs hP hD hS => ?_)
  have hP : va_P D vwCl (cw ad cI cZ cJ n g w P gm wm false wz gb go gp gj wb wl wk wo fa mn mg mw mP (vp_updL o 0 ((es_fb (eb_g g P n) (n - i) (i + 1)).toInt64))) H := hP
  have hD : va_D (eA ad) (cw ad cI cZ cJ n g w P gm wm false wz gb go gp gj wb wl wk wo fa mn mg mw mP (vp_updL o 0 ((es_fb (eb_g g P n) (n - i) (i + 1)).toInt64))) := hD
  refine lv_goto (tgt := 19) hx hb dL_next_12 (by decide) ?_
  refine lv_iconst (v := 0) hx hb dL_next_19 (by decide) ?_
  refine W.widen (k := 1) (n := 6) (by omega) (by omega) ?_
  exact eh_iret hx hb hr hlk hP hS ⟨rfl, rfl⟩ dL_next_20

set_option maxHeartbeats 4000000 in
set_option maxRecDepth 100000 in
theorem h_edge_wt (l : Launch) (D : va_G) (cI cZ cJ : ClassId) (ad : Nat → Nat) (hJ : eJ ad) (b0 : Nat) (n : Nat) (g : Nat → Int32) (w : Nat → Int32) (P : Nat → Bool) (gm : Nat → Bool) (wm : Nat → Bool) (gs : Bool) (gb : Int32) (go : Bool) (gp : Bool) (gj : Bool) (wb : Int32) (wl : Int32) (wk : Int32) (wo : Bool) (fa : Int32) (mn : Nat) (mg : Nat → Int32) (mw : Nat → Int32) (mP : Nat → Bool) (o : Nat → Int64) (kd : Int32) (i : Nat) (hk1 : ei_ok kd 1) (hk : ¬ kd = 0) (hn : n ≤ 1000) (hi : i ≤ n) : eh_M l yL_edge (Cond.codeWith yL_edge cL_edge 5 (some .int) [(0, 17, 20, 13)] :: eT) ({ frames := 8, cells := 1, slots := 6, locals := 154 }) D (eTy cI cZ cJ) [.ref (ad 0), .int kd, .int (nI i), .ref (ad 15)] (cw ad cI cZ cJ n g w P gm wm gs true gb go gp gj wb wl wk wo fa mn mg mw mP o) b0 (ed (some (.int 0)) (cw ad cI cZ cJ n g w P gm (ef_up (ef_fl wm (ew_M w P n) n) n (decide (0 < n))) gs false gb go gp gj (eg_bf w n) (ew_l w n) (ew_k w n) (ew_od w n) fa mn mg mw mP (vp_updL o 0 (ef_l (eb_w w P n i))))) (eA ad) := by
  refine eh_of (cc := cL_edge) (maxL := 5) (ret := (some .int)) (hh := [(0, 17, 20, 13)]) (by decide) rfl (Nat.le_of_ble_eq_true rfl) ?_
  intro p e s m args below meth c ls hx hb hr hts hown hlk hml htab hP hK hN hZ hl
  have hown : s.vm.findClass RL = some m.cls := hown
  have hl : lv_has ls 5 [(0, .ref (ad 0)), (1, .int kd), (2, .int (nI i)), (3, .ref (ad 15))] := hl
  have hS : va_S (eA ad) s.heap s.heap [] := va_S.rf
  have hD : va_D (eA ad) (cw ad cI cZ cJ n g w P gm wm gs true gb go gp gj wb wl wk wo fa mn mg mw mP o) := eD_of hJ rfl
  refine lv_aload_n hx hb dL_edge_0 rfl (lv_at hl 3 rfl) ?_
  refine lv_iconst (v := 0) hx hb dL_edge_1 (by decide) ?_
  refine lv_aload_n hx hb dL_edge_2 rfl (lv_at hl 0 rfl) ?_
  refine lv_iload_n hx hb dL_edge_3 rfl (lv_at hl 1 rfl) ?_
  refine lv_iload_n hx hb dL_edge_4 rfl (lv_at hl 2 rfl) ?_
  refine ec_V (own := RL) (C := RX5) (b := ad 0) (rest := [.int 0, .ref (ad 15)]) hx hb hml hown hts hl.1 (c_X5_edge_wt l D cI cZ cJ ad hJ n g w P gm wm gs gb go gp gj wb wl wk wo fa mn mg mw mP o kd i hk1 hk hn hi) tw241 tw1 tw238 tw239 tw240 yd_X5_edge rfl rfl ⟨Nat.le_of_ble_eq_true rfl, Nat.le_of_ble_eq_true rfl⟩ hP hK hN hP (q0 := 0) rfl rfl rfl rfl (Nat.le_of_ble_eq_true rfl) ⟨Nat.zero_le _, Nat.zero_le _⟩ hS (fun _ h9 => h9) dL_edge_5 (fun v9 W9 H locs hF hP hS hz9 hk9 => ?_)
  obtain ⟨rfl, rfl⟩ := hF
  have hD : va_D (eA ad) (cw ad cI cZ cJ n g w P gm (ef_up (ef_fl wm (ew_M w P n) n) n (decide (0 < n))) gs false gb go gp gj (eg_bf w n) (ew_l w n) (ew_k w n) (ew_od w n) fa mn mg mw mP o) := eD_of hJ rfl
  refine W.eq (g2 := F0 m 8 ls [.int (ef_b (eb_w w P n i)), .int 0, .ref (ad 15)]) rfl ?_
  refine ef_if_eq (tgt := 15) hx hb dL_edge_8 (by decide) (fun h1 => ?_) (fun h1 => ?_)
  · skip
    refine lv_lconst (v := 0) hx hb dL_edge_15 (by decide) ?_
    refine ef_eql (y := ef_l (eb_w w P n i)) (by simp [ef_l, h1]) ?_
    refine va_last hx hb hK hP hD hS 15 2 rfl rfl (vp_in_nI (n := 0) (by omega) (by decide)) dL_edge_16 (fun H locs hP hD hS => ?_)
    have hP : va_P D vwCl (cw ad cI cZ cJ n g w P gm (ef_up (ef_fl wm (ew_M w P n) n) n (decide (0 < n))) gs false gb go gp gj (eg_bf w n) (ew_l w n) (ew_k w n) (ew_od w n) fa mn mg mw mP (vp_updL o 0 (ef_l (eb_w w P n i)))) H := hP
    have hD : va_D (eA ad) (cw ad cI cZ cJ n g w P gm (ef_up (ef_fl wm (ew_M w P n) n) n (decide (0 < n))) gs false gb go gp gj (eg_bf w n) (ew_l w n) (ew_k w n) (ew_od w n) fa mn mg mw mP (vp_updL o 0 (ef_l (eb_w w P n i)))) := hD
    refine lv_goto (tgt := 24) hx hb dL_edge_17 (by decide) ?_
    refine lv_iconst (v := 0) hx hb dL_edge_24 (by decide) ?_
    refine W.widen (k := 1) (n := 6) (by omega) (by omega) ?_
    exact eh_iret hx hb hr hlk hP hS ⟨rfl, rfl⟩ dL_edge_25
  · skip
    refine lv_lconst (v := 1) hx hb dL_edge_11 (by decide) ?_
    refine lv_goto (tgt := 16) hx hb dL_edge_12 (by decide) ?_
    refine ef_eql (y := ef_l (eb_w w P n i)) (by simp [ef_l, h1]) ?_
    refine va_last hx hb hK hP hD hS 15 2 rfl rfl (vp_in_nI (n := 0) (by omega) (by decide)) dL_edge_16 (fun H locs hP hD hS => ?_)
    have hP : va_P D vwCl (cw ad cI cZ cJ n g w P gm (ef_up (ef_fl wm (ew_M w P n) n) n (decide (0 < n))) gs false gb go gp gj (eg_bf w n) (ew_l w n) (ew_k w n) (ew_od w n) fa mn mg mw mP (vp_updL o 0 (ef_l (eb_w w P n i)))) H := hP
    have hD : va_D (eA ad) (cw ad cI cZ cJ n g w P gm (ef_up (ef_fl wm (ew_M w P n) n) n (decide (0 < n))) gs false gb go gp gj (eg_bf w n) (ew_l w n) (ew_k w n) (ew_od w n) fa mn mg mw mP (vp_updL o 0 (ef_l (eb_w w P n i)))) := hD
    refine lv_goto (tgt := 24) hx hb dL_edge_17 (by decide) ?_
    refine lv_iconst (v := 0) hx hb dL_edge_24 (by decide) ?_
    refine W.widen (k := 1) (n := 6) (by omega) (by omega) ?_
    exact eh_iret hx hb hr hlk hP hS ⟨rfl, rfl⟩ dL_edge_25

set_option maxHeartbeats 4000000 in
set_option maxRecDepth 100000 in
theorem h_rank_wt (l : Launch) (D : va_G) (cI cZ cJ : ClassId) (ad : Nat → Nat) (hJ : eJ ad) (b0 : Nat) (n : Nat) (g : Nat → Int32) (w : Nat → Int32) (P : Nat → Bool) (gm : Nat → Bool) (wm : Nat → Bool) (gs : Bool) (gb : Int32) (go : Bool) (gp : Bool) (gj : Bool) (wb : Int32) (wl : Int32) (wk : Int32) (wo : Bool) (fa : Int32) (mn : Nat) (mg : Nat → Int32) (mw : Nat → Int32) (mP : Nat → Bool) (o : Nat → Int64) (kd : Int32) (i : Nat) (hk1 : ei_ok kd 1) (hk : ¬ kd = 0) (hn : n ≤ 1000) (hi : i ≤ n) : eh_M l yL_rank (Cond.codeWith yL_rank cL_rank 5 (some .int) [(0, 10, 13, 13)] :: eT) ({ frames := 8, cells := 1, slots := 6, locals := 154 }) D (eTy cI cZ cJ) [.ref (ad 0), .int kd, .int (nI i), .ref (ad 15)] (cw ad cI cZ cJ n g w P gm wm gs true gb go gp gj wb wl wk wo fa mn mg mw mP o) b0 (ed (some (.int 0)) (cw ad cI cZ cJ n g w P gm (ef_up (ef_fl wm (ew_M w P n) n) n (decide (0 < n))) gs false gb go gp gj (eg_bf w n) (ew_l w n) (ew_k w n) (ew_od w n) fa mn mg mw mP (vp_updL o 0 ((nI (es_cu (eb_w w P n) (i + 1))).toInt64)))) (eA ad) := by
  refine eh_of (cc := cL_rank) (maxL := 5) (ret := (some .int)) (hh := [(0, 10, 13, 13)]) (by decide) rfl (Nat.le_of_ble_eq_true rfl) ?_
  intro p e s m args below meth c ls hx hb hr hts hown hlk hml htab hP hK hN hZ hl
  have hown : s.vm.findClass RL = some m.cls := hown
  have hl : lv_has ls 5 [(0, .ref (ad 0)), (1, .int kd), (2, .int (nI i)), (3, .ref (ad 15))] := hl
  have hS : va_S (eA ad) s.heap s.heap [] := va_S.rf
  have hD : va_D (eA ad) (cw ad cI cZ cJ n g w P gm wm gs true gb go gp gj wb wl wk wo fa mn mg mw mP o) := eD_of hJ rfl
  refine lv_aload_n hx hb dL_rank_0 rfl (lv_at hl 3 rfl) ?_
  refine lv_iconst (v := 0) hx hb dL_rank_1 (by decide) ?_
  refine lv_aload_n hx hb dL_rank_2 rfl (lv_at hl 0 rfl) ?_
  refine lv_iload_n hx hb dL_rank_3 rfl (lv_at hl 1 rfl) ?_
  refine lv_iload_n hx hb dL_rank_4 rfl (lv_at hl 2 rfl) ?_
  refine ec_V (own := RL) (C := RX5) (b := ad 0) (rest := [.int 0, .ref (ad 15)]) hx hb hml hown hts hl.1 (c_X5_rank_wt l D cI cZ cJ ad hJ n g w P gm wm gs gb go gp gj wb wl wk wo fa mn mg mw mP o kd i hk1 hk hn hi) tw345 tw1 tw342 tw343 tw344 yd_X5_rank rfl rfl ⟨Nat.le_of_ble_eq_true rfl, Nat.le_of_ble_eq_true rfl⟩ hP hK hN hP (q0 := 0) rfl rfl rfl rfl (Nat.le_of_ble_eq_true rfl) ⟨Nat.zero_le _, Nat.zero_le _⟩ hS (fun _ h9 => h9) dL_rank_5 (fun v9 W9 H locs hF hP hS hz9 hk9 => ?_)
  obtain ⟨rfl, rfl⟩ := hF
  have hD : va_D (eA ad) (cw ad cI cZ cJ n g w P gm (ef_up (ef_fl wm (ew_M w P n) n) n (decide (0 < n))) gs false gb go gp gj (eg_bf w n) (ew_l w n) (ew_k w n) (ew_od w n) fa mn mg mw mP o) := eD_of hJ rfl
  refine W.eq (g2 := F0 m 8 ls [.int (nI (es_cu (eb_w w P n) (i + 1))), .int 0, .ref (ad 15)]) rfl ?_
  refine lv_i2l (v := (nI (es_cu (eb_w w P n) (i + 1))).toInt64) hx hb dL_rank_8 rfl ?_
  refine va_last hx hb hK hP hD hS 15 2 rfl rfl (vp_in_nI (n := 0) (by omega) (by decide)) dL_rank_9 (fun H locs hP hD hS => ?_)
  have hP : va_P D vwCl (cw ad cI cZ cJ n g w P gm (ef_up (ef_fl wm (ew_M w P n) n) n (decide (0 < n))) gs false gb go gp gj (eg_bf w n) (ew_l w n) (ew_k w n) (ew_od w n) fa mn mg mw mP (vp_updL o 0 ((nI (es_cu (eb_w w P n) (i + 1))).toInt64))) H := hP
  have hD : va_D (eA ad) (cw ad cI cZ cJ n g w P gm (ef_up (ef_fl wm (ew_M w P n) n) n (decide (0 < n))) gs false gb go gp gj (eg_bf w n) (ew_l w n) (ew_k w n) (ew_od w n) fa mn mg mw mP (vp_updL o 0 ((nI (es_cu (eb_w w P n) (i + 1))).toInt64))) := hD
  refine lv_goto (tgt := 17) hx hb dL_rank_10 (by decide) ?_
  refine lv_iconst (v := 0) hx hb dL_rank_17 (by decide) ?_
  refine W.widen (k := 1) (n := 6) (by omega) (by omega) ?_
  exact eh_iret hx hb hr hlk hP hS ⟨rfl, rfl⟩ dL_rank_18

set_option maxHeartbeats 4000000 in
set_option maxRecDepth 100000 in
theorem h_hash_wt (l : Launch) (D : va_G) (cI cZ cJ : ClassId) (ad : Nat → Nat) (hJ : eJ ad) (b0 : Nat) (n : Nat) (g : Nat → Int32) (w : Nat → Int32) (P : Nat → Bool) (gm : Nat → Bool) (wm : Nat → Bool) (gs : Bool) (gb : Int32) (go : Bool) (gp : Bool) (gj : Bool) (wb : Int32) (wl : Int32) (wk : Int32) (wo : Bool) (fa : Int32) (mn : Nat) (mg : Nat → Int32) (mw : Nat → Int32) (mP : Nat → Bool) (o : Nat → Int64) (kd : Int32) (hk1 : ei_ok kd 1) (hk : ¬ kd = 0) (hn : n ≤ 1000) : eh_M l yL_hash (Cond.codeWith yL_hash cL_hash 4 (some .int) [(0, 9, 12, 13)] :: eT) ({ frames := 8, cells := 1, slots := 6, locals := 154 }) D (eTy cI cZ cJ) [.ref (ad 0), .int kd, .ref (ad 15)] (cw ad cI cZ cJ n g w P gm wm gs true gb go gp gj wb wl wk wo fa mn mg mw mP o) b0 (ed (some (.int 0)) (cw ad cI cZ cJ n g w P gm (ef_up (ef_fl wm (ew_M w P n) n) n (decide (0 < n))) gs false gb go gp gj (eg_bf w n) (ew_l w n) (ew_k w n) (ew_od w n) fa mn mg mw mP (vp_updL o 0 ((es_mx (eb_w w P n) (n + 1)).toInt64)))) (eA ad) := by
  refine eh_of (cc := cL_hash) (maxL := 4) (ret := (some .int)) (hh := [(0, 9, 12, 13)]) (by decide) rfl (Nat.le_of_ble_eq_true rfl) ?_
  intro p e s m args below meth c ls hx hb hr hts hown hlk hml htab hP hK hN hZ hl
  have hown : s.vm.findClass RL = some m.cls := hown
  have hl : lv_has ls 4 [(0, .ref (ad 0)), (1, .int kd), (2, .ref (ad 15))] := hl
  have hS : va_S (eA ad) s.heap s.heap [] := va_S.rf
  have hD : va_D (eA ad) (cw ad cI cZ cJ n g w P gm wm gs true gb go gp gj wb wl wk wo fa mn mg mw mP o) := eD_of hJ rfl
  refine lv_aload_n hx hb dL_hash_0 rfl (lv_at hl 2 rfl) ?_
  refine lv_iconst (v := 0) hx hb dL_hash_1 (by decide) ?_
  refine lv_aload_n hx hb dL_hash_2 rfl (lv_at hl 0 rfl) ?_
  refine lv_iload_n hx hb dL_hash_3 rfl (lv_at hl 1 rfl) ?_
  refine ec_V (own := RL) (C := RX5) (b := ad 0) (rest := [.int 0, .ref (ad 15)]) hx hb hml hown hts hl.1 (c_X5_hash_wt l D cI cZ cJ ad hJ n g w P gm wm gs gb go gp gj wb wl wk wo fa mn mg mw mP o kd hk1 hk hn) tw356 tw1 tw353 tw354 tw355 yd_X5_hash rfl rfl ⟨Nat.le_of_ble_eq_true rfl, Nat.le_of_ble_eq_true rfl⟩ hP hK hN hP (q0 := 0) rfl rfl rfl rfl (Nat.le_of_ble_eq_true rfl) ⟨Nat.zero_le _, Nat.zero_le _⟩ hS (fun _ h9 => h9) dL_hash_4 (fun v9 W9 H locs hF hP hS hz9 hk9 => ?_)
  obtain ⟨rfl, rfl⟩ := hF
  have hD : va_D (eA ad) (cw ad cI cZ cJ n g w P gm (ef_up (ef_fl wm (ew_M w P n) n) n (decide (0 < n))) gs false gb go gp gj (eg_bf w n) (ew_l w n) (ew_k w n) (ew_od w n) fa mn mg mw mP o) := eD_of hJ rfl
  refine W.eq (g2 := F0 m 7 ls [.int (es_mx (eb_w w P n) (n + 1)), .int 0, .ref (ad 15)]) rfl ?_
  refine lv_i2l (v := (es_mx (eb_w w P n) (n + 1)).toInt64) hx hb dL_hash_7 rfl ?_
  refine va_last hx hb hK hP hD hS 15 2 rfl rfl (vp_in_nI (n := 0) (by omega) (by decide)) dL_hash_8 (fun H locs hP hD hS => ?_)
  have hP : va_P D vwCl (cw ad cI cZ cJ n g w P gm (ef_up (ef_fl wm (ew_M w P n) n) n (decide (0 < n))) gs false gb go gp gj (eg_bf w n) (ew_l w n) (ew_k w n) (ew_od w n) fa mn mg mw mP (vp_updL o 0 ((es_mx (eb_w w P n) (n + 1)).toInt64))) H := hP
  have hD : va_D (eA ad) (cw ad cI cZ cJ n g w P gm (ef_up (ef_fl wm (ew_M w P n) n) n (decide (0 < n))) gs false gb go gp gj (eg_bf w n) (ew_l w n) (ew_k w n) (ew_od w n) fa mn mg mw mP (vp_updL o 0 ((es_mx (eb_w w P n) (n + 1)).toInt64))) := hD
  refine lv_goto (tgt := 15) hx hb dL_hash_9 (by decide) ?_
  refine lv_iconst (v := 0) hx hb dL_hash_15 (by decide) ?_
  refine W.widen (k := 1) (n := 6) (by omega) (by omega) ?_
  exact eh_iret hx hb hr hlk hP hS ⟨rfl, rfl⟩ dL_hash_16

set_option maxHeartbeats 4000000 in
set_option maxRecDepth 100000 in
theorem h_next_wtt (l : Launch) (D : va_G) (cI cZ cJ : ClassId) (ad : Nat → Nat) (hJ : eJ ad) (b0 : Nat) (n : Nat) (g : Nat → Int32) (w : Nat → Int32) (P : Nat → Bool) (gm : Nat → Bool) (wm : Nat → Bool) (gs : Bool) (gb : Int32) (go : Bool) (gp : Bool) (gj : Bool) (wb : Int32) (wl : Int32) (wk : Int32) (wo : Bool) (fa : Int32) (mn : Nat) (mg : Nat → Int32) (mw : Nat → Int32) (mP : Nat → Bool) (o : Nat → Int64) (kd : Int32) (i : Nat) (hk1 : ei_ok kd 1) (hk : ¬ kd = 0) (hn : n ≤ 1000) (hi : i ≤ n) : eh_M l yL_next (Cond.codeWith yL_next cL_next 6 (some .int) [(0, 12, 15, 13)] :: eT) ({ frames := 8, cells := 1, slots := 6, locals := 154 }) D (eTy cI cZ cJ) [.ref (ad 0), .int kd, .int (nI i), .int (ef_b true), .ref (ad 15)] (cw ad cI cZ cJ n g w P gm wm gs true gb go gp gj wb wl wk wo fa mn mg mw mP o) b0 (ed (some (.int 0)) (cw ad cI cZ cJ n g w P gm (ef_up (ef_fl wm (ew_M w P n) n) n (decide (0 < n))) gs false gb go gp gj (eg_bf w n) (ew_l w n) (ew_k w n) (ew_od w n) fa mn mg mw mP (vp_updL o 0 ((es_lb (eb_w w P n) i).toInt64)))) (eA ad) := by
  refine eh_of (cc := cL_next) (maxL := 6) (ret := (some .int)) (hh := [(0, 12, 15, 13)]) (by decide) rfl (Nat.le_of_ble_eq_true rfl) ?_
  intro p e s m args below meth c ls hx hb hr hts hown hlk hml htab hP hK hN hZ hl
  have hown : s.vm.findClass RL = some m.cls := hown
  have hl : lv_has ls 6 [(0, .ref (ad 0)), (1, .int kd), (2, .int (nI i)), (3, .int (ef_b true)), (4, .ref (ad 15))] := hl
  have hS : va_S (eA ad) s.heap s.heap [] := va_S.rf
  have hD : va_D (eA ad) (cw ad cI cZ cJ n g w P gm wm gs true gb go gp gj wb wl wk wo fa mn mg mw mP o) := eD_of hJ rfl
  refine lv_aload hx hb dL_next_0 (lv_at hl 4 rfl) ?_
  refine lv_iconst (v := 0) hx hb dL_next_2 (by decide) ?_
  refine lv_aload_n hx hb dL_next_3 rfl (lv_at hl 0 rfl) ?_
  refine lv_iload_n hx hb dL_next_4 rfl (lv_at hl 1 rfl) ?_
  refine lv_iload_n hx hb dL_next_5 rfl (lv_at hl 2 rfl) ?_
  refine lv_iload_n hx hb dL_next_6 rfl (lv_at hl 3 rfl) ?_
  refine ec_V (own := RL) (C := RX5) (b := ad 0) (rest := [.int 0, .ref (ad 15)]) hx hb hml hown hts hl.1 (c_X5_next_wtt l D cI cZ cJ ad hJ n g w P gm wm gs gb go gp gj wb wl wk wo fa mn mg mw mP o kd i hk1 hk hn hi) tw330 tw1 tw327 tw328 tw329 yd_X5_next rfl rfl ⟨Nat.le_of_ble_eq_true rfl, Nat.le_of_ble_eq_true rfl⟩ hP hK hN hP (q0 := 0) rfl rfl rfl rfl (Nat.le_of_ble_eq_true rfl) ⟨Nat.zero_le _, Nat.zero_le _⟩ hS (fun _ h9 => h9) dL_next_7 (fun v9 W9 H locs hF hP hS hz9 hk9 => ?_)
  obtain ⟨rfl, rfl⟩ := hF
  have hD : va_D (eA ad) (cw ad cI cZ cJ n g w P gm (ef_up (ef_fl wm (ew_M w P n) n) n (decide (0 < n))) gs false gb go gp gj (eg_bf w n) (ew_l w n) (ew_k w n) (ew_od w n) fa mn mg mw mP o) := eD_of hJ rfl
  refine W.eq (g2 := F0 m 10 ls [.int (es_lb (eb_w w P n) i), .int 0, .ref (ad 15)]) rfl ?_
  refine lv_i2l (v := (es_lb (eb_w w P n) i).toInt64) hx hb dL_next_10 rfl ?_
  refine va_last hx hb hK hP hD hS 15 2 rfl rfl (vp_in_nI (n := 0) (by omega) (by decide)) dL_next_11 (fun H locs hP hD hS => ?_)
  have hP : va_P D vwCl (cw ad cI cZ cJ n g w P gm (ef_up (ef_fl wm (ew_M w P n) n) n (decide (0 < n))) gs false gb go gp gj (eg_bf w n) (ew_l w n) (ew_k w n) (ew_od w n) fa mn mg mw mP (vp_updL o 0 ((es_lb (eb_w w P n) i).toInt64))) H := hP
  have hD : va_D (eA ad) (cw ad cI cZ cJ n g w P gm (ef_up (ef_fl wm (ew_M w P n) n) n (decide (0 < n))) gs false gb go gp gj (eg_bf w n) (ew_l w n) (ew_k w n) (ew_od w n) fa mn mg mw mP (vp_updL o 0 ((es_lb (eb_w w P n) i).toInt64))) := hD
  refine lv_goto (tgt := 19) hx hb dL_next_12 (by decide) ?_
  refine lv_iconst (v := 0) hx hb dL_next_19 (by decide) ?_
  refine W.widen (k := 1) (n := 6) (by omega) (by omega) ?_
  exact eh_iret hx hb hr hlk hP hS ⟨rfl, rfl⟩ dL_next_20

set_option maxHeartbeats 4000000 in
set_option maxRecDepth 100000 in
theorem h_next_wtf (l : Launch) (D : va_G) (cI cZ cJ : ClassId) (ad : Nat → Nat) (hJ : eJ ad) (b0 : Nat) (n : Nat) (g : Nat → Int32) (w : Nat → Int32) (P : Nat → Bool) (gm : Nat → Bool) (wm : Nat → Bool) (gs : Bool) (gb : Int32) (go : Bool) (gp : Bool) (gj : Bool) (wb : Int32) (wl : Int32) (wk : Int32) (wo : Bool) (fa : Int32) (mn : Nat) (mg : Nat → Int32) (mw : Nat → Int32) (mP : Nat → Bool) (o : Nat → Int64) (kd : Int32) (i : Nat) (hk1 : ei_ok kd 1) (hk : ¬ kd = 0) (hn : n ≤ 1000) (hi : i ≤ n) : eh_M l yL_next (Cond.codeWith yL_next cL_next 6 (some .int) [(0, 12, 15, 13)] :: eT) ({ frames := 8, cells := 1, slots := 6, locals := 154 }) D (eTy cI cZ cJ) [.ref (ad 0), .int kd, .int (nI i), .int (ef_b false), .ref (ad 15)] (cw ad cI cZ cJ n g w P gm wm gs true gb go gp gj wb wl wk wo fa mn mg mw mP o) b0 (ed (some (.int 0)) (cw ad cI cZ cJ n g w P gm (ef_up (ef_fl wm (ew_M w P n) n) n (decide (0 < n))) gs false gb go gp gj (eg_bf w n) (ew_l w n) (ew_k w n) (ew_od w n) fa mn mg mw mP (vp_updL o 0 ((es_fb (eb_w w P n) (n - i) (i + 1)).toInt64)))) (eA ad) := by
  refine eh_of (cc := cL_next) (maxL := 6) (ret := (some .int)) (hh := [(0, 12, 15, 13)]) (by decide) rfl (Nat.le_of_ble_eq_true rfl) ?_
  intro p e s m args below meth c ls hx hb hr hts hown hlk hml htab hP hK hN hZ hl
  have hown : s.vm.findClass RL = some m.cls := hown
  have hl : lv_has ls 6 [(0, .ref (ad 0)), (1, .int kd), (2, .int (nI i)), (3, .int (ef_b false)), (4, .ref (ad 15))] := hl
  have hS : va_S (eA ad) s.heap s.heap [] := va_S.rf
  have hD : va_D (eA ad) (cw ad cI cZ cJ n g w P gm wm gs true gb go gp gj wb wl wk wo fa mn mg mw mP o) := eD_of hJ rfl
  refine lv_aload hx hb dL_next_0 (lv_at hl 4 rfl) ?_
  refine lv_iconst (v := 0) hx hb dL_next_2 (by decide) ?_
  refine lv_aload_n hx hb dL_next_3 rfl (lv_at hl 0 rfl) ?_
  refine lv_iload_n hx hb dL_next_4 rfl (lv_at hl 1 rfl) ?_
  refine lv_iload_n hx hb dL_next_5 rfl (lv_at hl 2 rfl) ?_
  refine lv_iload_n hx hb dL_next_6 rfl (lv_at hl 3 rfl) ?_
  refine ec_V (own := RL) (C := RX5) (b := ad 0) (rest := [.int 0, .ref (ad 15)]) hx hb hml hown hts hl.1 (c_X5_next_wtf l D cI cZ cJ ad hJ n g w P gm wm gs gb go gp gj wb wl wk wo fa mn mg mw mP o kd i hk1 hk hn hi) tw330 tw1 tw327 tw328 tw329 yd_X5_next rfl rfl ⟨Nat.le_of_ble_eq_true rfl, Nat.le_of_ble_eq_true rfl⟩ hP hK hN hP (q0 := 0) rfl rfl rfl rfl (Nat.le_of_ble_eq_true rfl) ⟨Nat.zero_le _, Nat.zero_le _⟩ hS (fun _ h9 => h9) dL_next_7 (fun v9 W9 H locs hF hP hS hz9 hk9 => ?_)
  obtain ⟨rfl, rfl⟩ := hF
  have hD : va_D (eA ad) (cw ad cI cZ cJ n g w P gm (ef_up (ef_fl wm (ew_M w P n) n) n (decide (0 < n))) gs false gb go gp gj (eg_bf w n) (ew_l w n) (ew_k w n) (ew_od w n) fa mn mg mw mP o) := eD_of hJ rfl
  refine W.eq (g2 := F0 m 10 ls [.int (es_fb (eb_w w P n) (n - i) (i + 1)), .int 0, .ref (ad 15)]) rfl ?_
  refine lv_i2l (v := (es_fb (eb_w w P n) (n - i) (i + 1)).toInt64) hx hb dL_next_10 rfl ?_
  refine va_last hx hb hK hP hD hS 15 2 rfl rfl (vp_in_nI (n := 0) (by omega) (by decide)) dL_next_11 (fun H locs hP hD hS => ?_)
  have hP : va_P D vwCl (cw ad cI cZ cJ n g w P gm (ef_up (ef_fl wm (ew_M w P n) n) n (decide (0 < n))) gs false gb go gp gj (eg_bf w n) (ew_l w n) (ew_k w n) (ew_od w n) fa mn mg mw mP (vp_updL o 0 ((es_fb (eb_w w P n) (n - i) (i + 1)).toInt64))) H := hP
  have hD : va_D (eA ad) (cw ad cI cZ cJ n g w P gm (ef_up (ef_fl wm (ew_M w P n) n) n (decide (0 < n))) gs false gb go gp gj (eg_bf w n) (ew_l w n) (ew_k w n) (ew_od w n) fa mn mg mw mP (vp_updL o 0 ((es_fb (eb_w w P n) (n - i) (i + 1)).toInt64))) := hD
  refine lv_goto (tgt := 19) hx hb dL_next_12 (by decide) ?_
  refine lv_iconst (v := 0) hx hb dL_next_19 (by decide) ?_
  refine W.widen (k := 1) (n := 6) (by omega) (by omega) ?_
  exact eh_iret hx hb hr hlk hP hS ⟨rfl, rfl⟩ dL_next_20

set_option maxHeartbeats 4000000 in
set_option maxRecDepth 100000 in
theorem h_edge_wf (l : Launch) (D : va_G) (cI cZ cJ : ClassId) (ad : Nat → Nat) (hJ : eJ ad) (b0 : Nat) (n : Nat) (g : Nat → Int32) (w : Nat → Int32) (P : Nat → Bool) (gm : Nat → Bool) (wm : Nat → Bool) (gs : Bool) (gb : Int32) (go : Bool) (gp : Bool) (gj : Bool) (wb : Int32) (wl : Int32) (wk : Int32) (wo : Bool) (fa : Int32) (mn : Nat) (mg : Nat → Int32) (mw : Nat → Int32) (mP : Nat → Bool) (o : Nat → Int64) (kd : Int32) (i : Nat) (hk1 : ei_ok kd 1) (hk : ¬ kd = 0) (hn : n ≤ 1000) (hm : ∀ j, j ≤ n → wm j = eb_w w P n j) (hi : i ≤ n) : eh_M l yL_edge (Cond.codeWith yL_edge cL_edge 5 (some .int) [(0, 17, 20, 13)] :: eT) ({ frames := 8, cells := 1, slots := 6, locals := 154 }) D (eTy cI cZ cJ) [.ref (ad 0), .int kd, .int (nI i), .ref (ad 15)] (cw ad cI cZ cJ n g w P gm wm gs false gb go gp gj wb wl wk wo fa mn mg mw mP o) b0 (ed (some (.int 0)) (cw ad cI cZ cJ n g w P gm wm gs false gb go gp gj wb wl wk wo fa mn mg mw mP (vp_updL o 0 (ef_l (eb_w w P n i))))) (eA ad) := by
  refine eh_of (cc := cL_edge) (maxL := 5) (ret := (some .int)) (hh := [(0, 17, 20, 13)]) (by decide) rfl (Nat.le_of_ble_eq_true rfl) ?_
  intro p e s m args below meth c ls hx hb hr hts hown hlk hml htab hP hK hN hZ hl
  have hown : s.vm.findClass RL = some m.cls := hown
  have hl : lv_has ls 5 [(0, .ref (ad 0)), (1, .int kd), (2, .int (nI i)), (3, .ref (ad 15))] := hl
  have hS : va_S (eA ad) s.heap s.heap [] := va_S.rf
  have hD : va_D (eA ad) (cw ad cI cZ cJ n g w P gm wm gs false gb go gp gj wb wl wk wo fa mn mg mw mP o) := eD_of hJ rfl
  refine lv_aload_n hx hb dL_edge_0 rfl (lv_at hl 3 rfl) ?_
  refine lv_iconst (v := 0) hx hb dL_edge_1 (by decide) ?_
  refine lv_aload_n hx hb dL_edge_2 rfl (lv_at hl 0 rfl) ?_
  refine lv_iload_n hx hb dL_edge_3 rfl (lv_at hl 1 rfl) ?_
  refine lv_iload_n hx hb dL_edge_4 rfl (lv_at hl 2 rfl) ?_
  refine ec_V (own := RL) (C := RX5) (b := ad 0) (rest := [.int 0, .ref (ad 15)]) hx hb hml hown hts hl.1 (c_X5_edge_wf l D cI cZ cJ ad hJ n g w P gm wm gs gb go gp gj wb wl wk wo fa mn mg mw mP o kd i hk1 hk hn hm hi) tw241 tw1 tw238 tw239 tw240 yd_X5_edge rfl rfl ⟨Nat.le_of_ble_eq_true rfl, Nat.le_of_ble_eq_true rfl⟩ hP hK hN hP (q0 := 0) rfl rfl rfl rfl (Nat.le_of_ble_eq_true rfl) ⟨Nat.zero_le _, Nat.zero_le _⟩ hS (fun _ h9 => h9) dL_edge_5 (fun v9 W9 H locs hF hP hS hz9 hk9 => ?_)
  obtain ⟨rfl, rfl⟩ := hF
  have hD : va_D (eA ad) (cw ad cI cZ cJ n g w P gm wm gs false gb go gp gj wb wl wk wo fa mn mg mw mP o) := eD_of hJ rfl
  refine W.eq (g2 := F0 m 8 ls [.int (ef_b (eb_w w P n i)), .int 0, .ref (ad 15)]) rfl ?_
  refine ef_if_eq (tgt := 15) hx hb dL_edge_8 (by decide) (fun h1 => ?_) (fun h1 => ?_)
  · skip
    refine lv_lconst (v := 0) hx hb dL_edge_15 (by decide) ?_
    refine ef_eql (y := ef_l (eb_w w P n i)) (by simp [ef_l, h1]) ?_
    refine va_last hx hb hK hP hD hS 15 2 rfl rfl (vp_in_nI (n := 0) (by omega) (by decide)) dL_edge_16 (fun H locs hP hD hS => ?_)
    have hP : va_P D vwCl (cw ad cI cZ cJ n g w P gm wm gs false gb go gp gj wb wl wk wo fa mn mg mw mP (vp_updL o 0 (ef_l (eb_w w P n i)))) H := hP
    have hD : va_D (eA ad) (cw ad cI cZ cJ n g w P gm wm gs false gb go gp gj wb wl wk wo fa mn mg mw mP (vp_updL o 0 (ef_l (eb_w w P n i)))) := hD
    refine lv_goto (tgt := 24) hx hb dL_edge_17 (by decide) ?_
    refine lv_iconst (v := 0) hx hb dL_edge_24 (by decide) ?_
    refine W.widen (k := 1) (n := 6) (by omega) (by omega) ?_
    exact eh_iret hx hb hr hlk hP hS ⟨rfl, rfl⟩ dL_edge_25
  · skip
    refine lv_lconst (v := 1) hx hb dL_edge_11 (by decide) ?_
    refine lv_goto (tgt := 16) hx hb dL_edge_12 (by decide) ?_
    refine ef_eql (y := ef_l (eb_w w P n i)) (by simp [ef_l, h1]) ?_
    refine va_last hx hb hK hP hD hS 15 2 rfl rfl (vp_in_nI (n := 0) (by omega) (by decide)) dL_edge_16 (fun H locs hP hD hS => ?_)
    have hP : va_P D vwCl (cw ad cI cZ cJ n g w P gm wm gs false gb go gp gj wb wl wk wo fa mn mg mw mP (vp_updL o 0 (ef_l (eb_w w P n i)))) H := hP
    have hD : va_D (eA ad) (cw ad cI cZ cJ n g w P gm wm gs false gb go gp gj wb wl wk wo fa mn mg mw mP (vp_updL o 0 (ef_l (eb_w w P n i)))) := hD
    refine lv_goto (tgt := 24) hx hb dL_edge_17 (by decide) ?_
    refine lv_iconst (v := 0) hx hb dL_edge_24 (by decide) ?_
    refine W.widen (k := 1) (n := 6) (by omega) (by omega) ?_
    exact eh_iret hx hb hr hlk hP hS ⟨rfl, rfl⟩ dL_edge_25

set_option maxHeartbeats 4000000 in
set_option maxRecDepth 100000 in
theorem h_rank_wf (l : Launch) (D : va_G) (cI cZ cJ : ClassId) (ad : Nat → Nat) (hJ : eJ ad) (b0 : Nat) (n : Nat) (g : Nat → Int32) (w : Nat → Int32) (P : Nat → Bool) (gm : Nat → Bool) (wm : Nat → Bool) (gs : Bool) (gb : Int32) (go : Bool) (gp : Bool) (gj : Bool) (wb : Int32) (wl : Int32) (wk : Int32) (wo : Bool) (fa : Int32) (mn : Nat) (mg : Nat → Int32) (mw : Nat → Int32) (mP : Nat → Bool) (o : Nat → Int64) (kd : Int32) (i : Nat) (hk1 : ei_ok kd 1) (hk : ¬ kd = 0) (hn : n ≤ 1000) (hm : ∀ j, j ≤ n → wm j = eb_w w P n j) (hi : i ≤ n) : eh_M l yL_rank (Cond.codeWith yL_rank cL_rank 5 (some .int) [(0, 10, 13, 13)] :: eT) ({ frames := 8, cells := 1, slots := 6, locals := 154 }) D (eTy cI cZ cJ) [.ref (ad 0), .int kd, .int (nI i), .ref (ad 15)] (cw ad cI cZ cJ n g w P gm wm gs false gb go gp gj wb wl wk wo fa mn mg mw mP o) b0 (ed (some (.int 0)) (cw ad cI cZ cJ n g w P gm wm gs false gb go gp gj wb wl wk wo fa mn mg mw mP (vp_updL o 0 ((nI (es_cu (eb_w w P n) (i + 1))).toInt64)))) (eA ad) := by
  refine eh_of (cc := cL_rank) (maxL := 5) (ret := (some .int)) (hh := [(0, 10, 13, 13)]) (by decide) rfl (Nat.le_of_ble_eq_true rfl) ?_
  intro p e s m args below meth c ls hx hb hr hts hown hlk hml htab hP hK hN hZ hl
  have hown : s.vm.findClass RL = some m.cls := hown
  have hl : lv_has ls 5 [(0, .ref (ad 0)), (1, .int kd), (2, .int (nI i)), (3, .ref (ad 15))] := hl
  have hS : va_S (eA ad) s.heap s.heap [] := va_S.rf
  have hD : va_D (eA ad) (cw ad cI cZ cJ n g w P gm wm gs false gb go gp gj wb wl wk wo fa mn mg mw mP o) := eD_of hJ rfl
  refine lv_aload_n hx hb dL_rank_0 rfl (lv_at hl 3 rfl) ?_
  refine lv_iconst (v := 0) hx hb dL_rank_1 (by decide) ?_
  refine lv_aload_n hx hb dL_rank_2 rfl (lv_at hl 0 rfl) ?_
  refine lv_iload_n hx hb dL_rank_3 rfl (lv_at hl 1 rfl) ?_
  refine lv_iload_n hx hb dL_rank_4 rfl (lv_at hl 2 rfl) ?_
  refine ec_V (own := RL) (C := RX5) (b := ad 0) (rest := [.int 0, .ref (ad 15)]) hx hb hml hown hts hl.1 (c_X5_rank_wf l D cI cZ cJ ad hJ n g w P gm wm gs gb go gp gj wb wl wk wo fa mn mg mw mP o kd i hk1 hk hn hm hi) tw345 tw1 tw342 tw343 tw344 yd_X5_rank rfl rfl ⟨Nat.le_of_ble_eq_true rfl, Nat.le_of_ble_eq_true rfl⟩ hP hK hN hP (q0 := 0) rfl rfl rfl rfl (Nat.le_of_ble_eq_true rfl) ⟨Nat.zero_le _, Nat.zero_le _⟩ hS (fun _ h9 => h9) dL_rank_5 (fun v9 W9 H locs hF hP hS hz9 hk9 => ?_)
  obtain ⟨rfl, rfl⟩ := hF
  have hD : va_D (eA ad) (cw ad cI cZ cJ n g w P gm wm gs false gb go gp gj wb wl wk wo fa mn mg mw mP o) := eD_of hJ rfl
  refine W.eq (g2 := F0 m 8 ls [.int (nI (es_cu (eb_w w P n) (i + 1))), .int 0, .ref (ad 15)]) rfl ?_
  refine lv_i2l (v := (nI (es_cu (eb_w w P n) (i + 1))).toInt64) hx hb dL_rank_8 rfl ?_
  refine va_last hx hb hK hP hD hS 15 2 rfl rfl (vp_in_nI (n := 0) (by omega) (by decide)) dL_rank_9 (fun H locs hP hD hS => ?_)
  have hP : va_P D vwCl (cw ad cI cZ cJ n g w P gm wm gs false gb go gp gj wb wl wk wo fa mn mg mw mP (vp_updL o 0 ((nI (es_cu (eb_w w P n) (i + 1))).toInt64))) H := hP
  have hD : va_D (eA ad) (cw ad cI cZ cJ n g w P gm wm gs false gb go gp gj wb wl wk wo fa mn mg mw mP (vp_updL o 0 ((nI (es_cu (eb_w w P n) (i + 1))).toInt64))) := hD
  refine lv_goto (tgt := 17) hx hb dL_rank_10 (by decide) ?_
  refine lv_iconst (v := 0) hx hb dL_rank_17 (by decide) ?_
  refine W.widen (k := 1) (n := 6) (by omega) (by omega) ?_
  exact eh_iret hx hb hr hlk hP hS ⟨rfl, rfl⟩ dL_rank_18

set_option maxHeartbeats 4000000 in
set_option maxRecDepth 100000 in
theorem h_hash_wf (l : Launch) (D : va_G) (cI cZ cJ : ClassId) (ad : Nat → Nat) (hJ : eJ ad) (b0 : Nat) (n : Nat) (g : Nat → Int32) (w : Nat → Int32) (P : Nat → Bool) (gm : Nat → Bool) (wm : Nat → Bool) (gs : Bool) (gb : Int32) (go : Bool) (gp : Bool) (gj : Bool) (wb : Int32) (wl : Int32) (wk : Int32) (wo : Bool) (fa : Int32) (mn : Nat) (mg : Nat → Int32) (mw : Nat → Int32) (mP : Nat → Bool) (o : Nat → Int64) (kd : Int32) (hk1 : ei_ok kd 1) (hk : ¬ kd = 0) (hn : n ≤ 1000) (hm : ∀ j, j ≤ n → wm j = eb_w w P n j) : eh_M l yL_hash (Cond.codeWith yL_hash cL_hash 4 (some .int) [(0, 9, 12, 13)] :: eT) ({ frames := 8, cells := 1, slots := 6, locals := 154 }) D (eTy cI cZ cJ) [.ref (ad 0), .int kd, .ref (ad 15)] (cw ad cI cZ cJ n g w P gm wm gs false gb go gp gj wb wl wk wo fa mn mg mw mP o) b0 (ed (some (.int 0)) (cw ad cI cZ cJ n g w P gm wm gs false gb go gp gj wb wl wk wo fa mn mg mw mP (vp_updL o 0 ((es_mx (eb_w w P n) (n + 1)).toInt64)))) (eA ad) := by
  refine eh_of (cc := cL_hash) (maxL := 4) (ret := (some .int)) (hh := [(0, 9, 12, 13)]) (by decide) rfl (Nat.le_of_ble_eq_true rfl) ?_
  intro p e s m args below meth c ls hx hb hr hts hown hlk hml htab hP hK hN hZ hl
  have hown : s.vm.findClass RL = some m.cls := hown
  have hl : lv_has ls 4 [(0, .ref (ad 0)), (1, .int kd), (2, .ref (ad 15))] := hl
  have hS : va_S (eA ad) s.heap s.heap [] := va_S.rf
  have hD : va_D (eA ad) (cw ad cI cZ cJ n g w P gm wm gs false gb go gp gj wb wl wk wo fa mn mg mw mP o) := eD_of hJ rfl
  refine lv_aload_n hx hb dL_hash_0 rfl (lv_at hl 2 rfl) ?_
  refine lv_iconst (v := 0) hx hb dL_hash_1 (by decide) ?_
  refine lv_aload_n hx hb dL_hash_2 rfl (lv_at hl 0 rfl) ?_
  refine lv_iload_n hx hb dL_hash_3 rfl (lv_at hl 1 rfl) ?_
  refine ec_V (own := RL) (C := RX5) (b := ad 0) (rest := [.int 0, .ref (ad 15)]) hx hb hml hown hts hl.1 (c_X5_hash_wf l D cI cZ cJ ad hJ n g w P gm wm gs gb go gp gj wb wl wk wo fa mn mg mw mP o kd hk1 hk hn hm) tw356 tw1 tw353 tw354 tw355 yd_X5_hash rfl rfl ⟨Nat.le_of_ble_eq_true rfl, Nat.le_of_ble_eq_true rfl⟩ hP hK hN hP (q0 := 0) rfl rfl rfl rfl (Nat.le_of_ble_eq_true rfl) ⟨Nat.zero_le _, Nat.zero_le _⟩ hS (fun _ h9 => h9) dL_hash_4 (fun v9 W9 H locs hF hP hS hz9 hk9 => ?_)
  obtain ⟨rfl, rfl⟩ := hF
  have hD : va_D (eA ad) (cw ad cI cZ cJ n g w P gm wm gs false gb go gp gj wb wl wk wo fa mn mg mw mP o) := eD_of hJ rfl
  refine W.eq (g2 := F0 m 7 ls [.int (es_mx (eb_w w P n) (n + 1)), .int 0, .ref (ad 15)]) rfl ?_
  refine lv_i2l (v := (es_mx (eb_w w P n) (n + 1)).toInt64) hx hb dL_hash_7 rfl ?_
  refine va_last hx hb hK hP hD hS 15 2 rfl rfl (vp_in_nI (n := 0) (by omega) (by decide)) dL_hash_8 (fun H locs hP hD hS => ?_)
  have hP : va_P D vwCl (cw ad cI cZ cJ n g w P gm wm gs false gb go gp gj wb wl wk wo fa mn mg mw mP (vp_updL o 0 ((es_mx (eb_w w P n) (n + 1)).toInt64))) H := hP
  have hD : va_D (eA ad) (cw ad cI cZ cJ n g w P gm wm gs false gb go gp gj wb wl wk wo fa mn mg mw mP (vp_updL o 0 ((es_mx (eb_w w P n) (n + 1)).toInt64))) := hD
  refine lv_goto (tgt := 15) hx hb dL_hash_9 (by decide) ?_
  refine lv_iconst (v := 0) hx hb dL_hash_15 (by decide) ?_
  refine W.widen (k := 1) (n := 6) (by omega) (by omega) ?_
  exact eh_iret hx hb hr hlk hP hS ⟨rfl, rfl⟩ dL_hash_16

set_option maxHeartbeats 4000000 in
set_option maxRecDepth 100000 in
theorem h_next_wft (l : Launch) (D : va_G) (cI cZ cJ : ClassId) (ad : Nat → Nat) (hJ : eJ ad) (b0 : Nat) (n : Nat) (g : Nat → Int32) (w : Nat → Int32) (P : Nat → Bool) (gm : Nat → Bool) (wm : Nat → Bool) (gs : Bool) (gb : Int32) (go : Bool) (gp : Bool) (gj : Bool) (wb : Int32) (wl : Int32) (wk : Int32) (wo : Bool) (fa : Int32) (mn : Nat) (mg : Nat → Int32) (mw : Nat → Int32) (mP : Nat → Bool) (o : Nat → Int64) (kd : Int32) (i : Nat) (hk1 : ei_ok kd 1) (hk : ¬ kd = 0) (hn : n ≤ 1000) (hm : ∀ j, j ≤ n → wm j = eb_w w P n j) (hi : i ≤ n) : eh_M l yL_next (Cond.codeWith yL_next cL_next 6 (some .int) [(0, 12, 15, 13)] :: eT) ({ frames := 8, cells := 1, slots := 6, locals := 154 }) D (eTy cI cZ cJ) [.ref (ad 0), .int kd, .int (nI i), .int (ef_b true), .ref (ad 15)] (cw ad cI cZ cJ n g w P gm wm gs false gb go gp gj wb wl wk wo fa mn mg mw mP o) b0 (ed (some (.int 0)) (cw ad cI cZ cJ n g w P gm wm gs false gb go gp gj wb wl wk wo fa mn mg mw mP (vp_updL o 0 ((es_lb (eb_w w P n) i).toInt64)))) (eA ad) := by
  refine eh_of (cc := cL_next) (maxL := 6) (ret := (some .int)) (hh := [(0, 12, 15, 13)]) (by decide) rfl (Nat.le_of_ble_eq_true rfl) ?_
  intro p e s m args below meth c ls hx hb hr hts hown hlk hml htab hP hK hN hZ hl
  have hown : s.vm.findClass RL = some m.cls := hown
  have hl : lv_has ls 6 [(0, .ref (ad 0)), (1, .int kd), (2, .int (nI i)), (3, .int (ef_b true)), (4, .ref (ad 15))] := hl
  have hS : va_S (eA ad) s.heap s.heap [] := va_S.rf
  have hD : va_D (eA ad) (cw ad cI cZ cJ n g w P gm wm gs false gb go gp gj wb wl wk wo fa mn mg mw mP o) := eD_of hJ rfl
  refine lv_aload hx hb dL_next_0 (lv_at hl 4 rfl) ?_
  refine lv_iconst (v := 0) hx hb dL_next_2 (by decide) ?_
  refine lv_aload_n hx hb dL_next_3 rfl (lv_at hl 0 rfl) ?_
  refine lv_iload_n hx hb dL_next_4 rfl (lv_at hl 1 rfl) ?_
  refine lv_iload_n hx hb dL_next_5 rfl (lv_at hl 2 rfl) ?_
  refine lv_iload_n hx hb dL_next_6 rfl (lv_at hl 3 rfl) ?_
  refine ec_V (own := RL) (C := RX5) (b := ad 0) (rest := [.int 0, .ref (ad 15)]) hx hb hml hown hts hl.1 (c_X5_next_wft l D cI cZ cJ ad hJ n g w P gm wm gs gb go gp gj wb wl wk wo fa mn mg mw mP o kd i hk1 hk hn hm hi) tw330 tw1 tw327 tw328 tw329 yd_X5_next rfl rfl ⟨Nat.le_of_ble_eq_true rfl, Nat.le_of_ble_eq_true rfl⟩ hP hK hN hP (q0 := 0) rfl rfl rfl rfl (Nat.le_of_ble_eq_true rfl) ⟨Nat.zero_le _, Nat.zero_le _⟩ hS (fun _ h9 => h9) dL_next_7 (fun v9 W9 H locs hF hP hS hz9 hk9 => ?_)
  obtain ⟨rfl, rfl⟩ := hF
  have hD : va_D (eA ad) (cw ad cI cZ cJ n g w P gm wm gs false gb go gp gj wb wl wk wo fa mn mg mw mP o) := eD_of hJ rfl
  refine W.eq (g2 := F0 m 10 ls [.int (es_lb (eb_w w P n) i), .int 0, .ref (ad 15)]) rfl ?_
  refine lv_i2l (v := (es_lb (eb_w w P n) i).toInt64) hx hb dL_next_10 rfl ?_
  refine va_last hx hb hK hP hD hS 15 2 rfl rfl (vp_in_nI (n := 0) (by omega) (by decide)) dL_next_11 (fun H locs hP hD hS => ?_)
  have hP : va_P D vwCl (cw ad cI cZ cJ n g w P gm wm gs false gb go gp gj wb wl wk wo fa mn mg mw mP (vp_updL o 0 ((es_lb (eb_w w P n) i).toInt64))) H := hP
  have hD : va_D (eA ad) (cw ad cI cZ cJ n g w P gm wm gs false gb go gp gj wb wl wk wo fa mn mg mw mP (vp_updL o 0 ((es_lb (eb_w w P n) i).toInt64))) := hD
  refine lv_goto (tgt := 19) hx hb dL_next_12 (by decide) ?_
  refine lv_iconst (v := 0) hx hb dL_next_19 (by decide) ?_
  refine W.widen (k := 1) (n := 6) (by omega) (by omega) ?_
  exact eh_iret hx hb hr hlk hP hS ⟨rfl, rfl⟩ dL_next_20

set_option maxHeartbeats 4000000 in
set_option maxRecDepth 100000 in
theorem h_next_wff (l : Launch) (D : va_G) (cI cZ cJ : ClassId) (ad : Nat → Nat) (hJ : eJ ad) (b0 : Nat) (n : Nat) (g : Nat → Int32) (w : Nat → Int32) (P : Nat → Bool) (gm : Nat → Bool) (wm : Nat → Bool) (gs : Bool) (gb : Int32) (go : Bool) (gp : Bool) (gj : Bool) (wb : Int32) (wl : Int32) (wk : Int32) (wo : Bool) (fa : Int32) (mn : Nat) (mg : Nat → Int32) (mw : Nat → Int32) (mP : Nat → Bool) (o : Nat → Int64) (kd : Int32) (i : Nat) (hk1 : ei_ok kd 1) (hk : ¬ kd = 0) (hn : n ≤ 1000) (hm : ∀ j, j ≤ n → wm j = eb_w w P n j) (hi : i ≤ n) : eh_M l yL_next (Cond.codeWith yL_next cL_next 6 (some .int) [(0, 12, 15, 13)] :: eT) ({ frames := 8, cells := 1, slots := 6, locals := 154 }) D (eTy cI cZ cJ) [.ref (ad 0), .int kd, .int (nI i), .int (ef_b false), .ref (ad 15)] (cw ad cI cZ cJ n g w P gm wm gs false gb go gp gj wb wl wk wo fa mn mg mw mP o) b0 (ed (some (.int 0)) (cw ad cI cZ cJ n g w P gm wm gs false gb go gp gj wb wl wk wo fa mn mg mw mP (vp_updL o 0 ((es_fb (eb_w w P n) (n - i) (i + 1)).toInt64)))) (eA ad) := by
  refine eh_of (cc := cL_next) (maxL := 6) (ret := (some .int)) (hh := [(0, 12, 15, 13)]) (by decide) rfl (Nat.le_of_ble_eq_true rfl) ?_
  intro p e s m args below meth c ls hx hb hr hts hown hlk hml htab hP hK hN hZ hl
  have hown : s.vm.findClass RL = some m.cls := hown
  have hl : lv_has ls 6 [(0, .ref (ad 0)), (1, .int kd), (2, .int (nI i)), (3, .int (ef_b false)), (4, .ref (ad 15))] := hl
  have hS : va_S (eA ad) s.heap s.heap [] := va_S.rf
  have hD : va_D (eA ad) (cw ad cI cZ cJ n g w P gm wm gs false gb go gp gj wb wl wk wo fa mn mg mw mP o) := eD_of hJ rfl
  refine lv_aload hx hb dL_next_0 (lv_at hl 4 rfl) ?_
  refine lv_iconst (v := 0) hx hb dL_next_2 (by decide) ?_
  refine lv_aload_n hx hb dL_next_3 rfl (lv_at hl 0 rfl) ?_
  refine lv_iload_n hx hb dL_next_4 rfl (lv_at hl 1 rfl) ?_
  refine lv_iload_n hx hb dL_next_5 rfl (lv_at hl 2 rfl) ?_
  refine lv_iload_n hx hb dL_next_6 rfl (lv_at hl 3 rfl) ?_
  refine ec_V (own := RL) (C := RX5) (b := ad 0) (rest := [.int 0, .ref (ad 15)]) hx hb hml hown hts hl.1 (c_X5_next_wff l D cI cZ cJ ad hJ n g w P gm wm gs gb go gp gj wb wl wk wo fa mn mg mw mP o kd i hk1 hk hn hm hi) tw330 tw1 tw327 tw328 tw329 yd_X5_next rfl rfl ⟨Nat.le_of_ble_eq_true rfl, Nat.le_of_ble_eq_true rfl⟩ hP hK hN hP (q0 := 0) rfl rfl rfl rfl (Nat.le_of_ble_eq_true rfl) ⟨Nat.zero_le _, Nat.zero_le _⟩ hS (fun _ h9 => h9) dL_next_7 (fun v9 W9 H locs hF hP hS hz9 hk9 => ?_)
  obtain ⟨rfl, rfl⟩ := hF
  have hD : va_D (eA ad) (cw ad cI cZ cJ n g w P gm wm gs false gb go gp gj wb wl wk wo fa mn mg mw mP o) := eD_of hJ rfl
  refine W.eq (g2 := F0 m 10 ls [.int (es_fb (eb_w w P n) (n - i) (i + 1)), .int 0, .ref (ad 15)]) rfl ?_
  refine lv_i2l (v := (es_fb (eb_w w P n) (n - i) (i + 1)).toInt64) hx hb dL_next_10 rfl ?_
  refine va_last hx hb hK hP hD hS 15 2 rfl rfl (vp_in_nI (n := 0) (by omega) (by decide)) dL_next_11 (fun H locs hP hD hS => ?_)
  have hP : va_P D vwCl (cw ad cI cZ cJ n g w P gm wm gs false gb go gp gj wb wl wk wo fa mn mg mw mP (vp_updL o 0 ((es_fb (eb_w w P n) (n - i) (i + 1)).toInt64))) H := hP
  have hD : va_D (eA ad) (cw ad cI cZ cJ n g w P gm wm gs false gb go gp gj wb wl wk wo fa mn mg mw mP (vp_updL o 0 ((es_fb (eb_w w P n) (n - i) (i + 1)).toInt64))) := hD
  refine lv_goto (tgt := 19) hx hb dL_next_12 (by decide) ?_
  refine lv_iconst (v := 0) hx hb dL_next_19 (by decide) ?_
  refine W.widen (k := 1) (n := 6) (by omega) (by omega) ?_
  exact eh_iret hx hb hr hlk hP hS ⟨rfl, rfl⟩ dL_next_20
