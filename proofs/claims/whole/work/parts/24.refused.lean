set_option maxHeartbeats 4000000 in
set_option maxRecDepth 100000 in
theorem t_X5_add (l : Launch) (hl0 : l.stackTraces = false) (D : va_G) (cI cZ cJ : ClassId) (ad : Nat → Nat) (b0 : Nat) (n : Nat) (g : Nat → Int32) (w : Nat → Int32) (P : Nat → Bool) (gm : Nat → Bool) (wm : Nat → Bool) (gs : Bool) (wz : Bool) (gb : Int32) (go : Bool) (gp : Bool) (gj : Bool) (wb : Int32) (wl : Int32) (wk : Int32) (wo : Bool) (fa : Int32) (mn : Nat) (mg : Nat → Int32) (mw : Nat → Int32) (mP : Nat → Bool) (o : Nat → Int64) (x y : Int32) (b : Bool) (hbad : ¬ (ei_ok x 13 ∧ ei_ok y 18)) : et_M l yX5_add (Cond.code yX5_add cX5_add 4 (some .int) :: eT) ({ frames := 7, cells := 1, slots := 6, locals := 103 }) D (eTy cI cZ cJ) [.ref (ad 0), .int x, .int y, .int (ef_b b)] (cw ad cI cZ cJ n g w P gm wm gs wz gb go gp gj wb wl wk wo fa mn mg mw mP o) b0 := by
  refine et_of (cc := cX5_add) (maxL := 4) (ret := (some .int)) (by decide) rfl (Nat.le_of_ble_eq_true rfl) ?_
  intro p e s m args below meth c ls hx hb hts hown hlk hml hno hP hK hZ hl
  have hown : s.vm.findClass RX5 = some m.cls := hown
  have hl : lv_has ls 4 [(0, .ref (ad 0)), (1, .int x), (2, .int y), (3, .int (ef_b b))] := hl
  refine lv_iload_n hx hb dX5_add_0 rfl (lv_at hl 1 rfl) ?_
  refine lv_bipush (v := 13) hx hb dX5_add_1 (by decide) ?_
  by_cases k1 : ei_ok x 13
  rotate_left
  · exact et_S (own := RX5) (rest := []) hx hb hml hown hts hl.1 (t_X5_requireUpTo l hl0 D cI cZ cJ (cw ad cI cZ cJ n g w P gm wm gs wz gb go gp gj wb wl wk wo fa mn mg mw mP o) b0 x 13 k1) tw129 tw1 tw127 tw128 yd_X5_requireUpTo rfl rfl ⟨Nat.le_of_ble_eq_true rfl, Nat.le_of_ble_eq_true rfl⟩ hP hK hZ rfl rfl (Nat.le_of_ble_eq_true rfl) ⟨Nat.le_refl _, Nat.le_refl _⟩ dX5_add_3 hno hlk
  refine er_Sv (own := RX5) (rest := []) hx hb hml hown hts hl.1 (k_X5_requireUpTo l D cI cZ cJ x 13 k1) tw129 tw1 tw127 tw128 yd_X5_requireUpTo rfl rfl ⟨Nat.le_of_ble_eq_true rfl, Nat.le_of_ble_eq_true rfl⟩ er_nil hK rfl rfl (Nat.le_of_ble_eq_true rfl) ⟨Nat.zero_le _, Nat.zero_le _⟩ dX5_add_3 ?_
  refine lv_iload_n hx hb dX5_add_6 rfl (lv_at hl 2 rfl) ?_
  refine lv_bipush (v := 18) hx hb dX5_add_7 (by decide) ?_
  by_cases k2 : ei_ok y 18
  rotate_left
  · exact et_S (own := RX5) (rest := []) hx hb hml hown hts hl.1 (t_X5_requireUpTo l hl0 D cI cZ cJ (cw ad cI cZ cJ n g w P gm wm gs wz gb go gp gj wb wl wk wo fa mn mg mw mP o) b0 y 18 k2) tw129 tw1 tw127 tw128 yd_X5_requireUpTo rfl rfl ⟨Nat.le_of_ble_eq_true rfl, Nat.le_of_ble_eq_true rfl⟩ hP hK hZ rfl rfl (Nat.le_of_ble_eq_true rfl) ⟨Nat.le_refl _, Nat.le_refl _⟩ dX5_add_9 hno hlk
  refine er_Sv (own := RX5) (rest := []) hx hb hml hown hts hl.1 (k_X5_requireUpTo l D cI cZ cJ y 18 k2) tw129 tw1 tw127 tw128 yd_X5_requireUpTo rfl rfl ⟨Nat.le_of_ble_eq_true rfl, Nat.le_of_ble_eq_true rfl⟩ er_nil hK rfl rfl (Nat.le_of_ble_eq_true rfl) ⟨Nat.zero_le _, Nat.zero_le _⟩ dX5_add_9 ?_
  exact absurd ⟨k1, k2⟩ hbad

set_option maxHeartbeats 4000000 in
set_option maxRecDepth 100000 in
theorem t_X5_set (l : Launch) (hl0 : l.stackTraces = false) (D : va_G) (cI cZ cJ : ClassId) (ad : Nat → Nat) (b0 : Nat) (n : Nat) (g : Nat → Int32) (w : Nat → Int32) (P : Nat → Bool) (gm : Nat → Bool) (wm : Nat → Bool) (gs : Bool) (wz : Bool) (gb : Int32) (go : Bool) (gp : Bool) (gj : Bool) (wb : Int32) (wl : Int32) (wk : Int32) (wo : Bool) (fa : Int32) (mn : Nat) (mg : Nat → Int32) (mw : Nat → Int32) (mP : Nat → Bool) (o : Nat → Int64) (z x y : Int32) (b : Bool) (hbad : ¬ (ei_ok z (nI n - 1) ∧ ei_ok x 13 ∧ ei_ok y 18)) : et_M l yX5_set (Cond.code yX5_set cX5_set 5 none :: eT) ({ frames := 7, cells := 1, slots := 6, locals := 103 }) D (eTy cI cZ cJ) [.ref (ad 0), .int z, .int x, .int y, .int (ef_b b)] (cw ad cI cZ cJ n g w P gm wm gs wz gb go gp gj wb wl wk wo fa mn mg mw mP o) b0 := by
  refine et_of (cc := cX5_set) (maxL := 5) (ret := none) (by decide) rfl (Nat.le_of_ble_eq_true rfl) ?_
  intro p e s m args below meth c ls hx hb hts hown hlk hml hno hP hK hZ hl
  have hown : s.vm.findClass RX5 = some m.cls := hown
  have hl : lv_has ls 5 [(0, .ref (ad 0)), (1, .int z), (2, .int x), (3, .int y), (4, .int (ef_b b))] := hl
  refine lv_iload_n hx hb dX5_set_0 rfl (lv_at hl 1 rfl) ?_
  refine lv_aload_n hx hb dX5_set_1 rfl (lv_at hl 0 rfl) ?_
  refine va_get (D := D) (ci := 4) (v := .ref (ad 1)) (C := RX5) (T := TX5) (N := 3) hx hb hts (fun w h => List.mem_cons_of_mem _ (inX5 w h)) hown hK hP 0 rfl rfl 0 (by decide) (eT_h hts tw108) (fun _ h9 => h9) rfl dX5_set_2 ?_
  refine va_get (D := D) (ci := 2) (v := .int (nI n)) (C := RX2) (T := TX2) (N := 4) hx hb hts (fun w h => List.mem_cons_of_mem _ (inX2 w h)) hown hK hP 1 rfl rfl 3 (by decide) (eT_h hts tw36) (fun _ h9 => h9) rfl dX5_set_5 ?_
  refine lv_iconst (v := 1) hx hb dX5_set_8 (by decide) ?_
  refine lv_isub hx hb dX5_set_9 ?_
  by_cases k1 : ei_ok z ((nI n) - 1)
  rotate_left
  · exact et_S (own := RX5) (rest := []) hx hb hml hown hts hl.1 (t_X5_requireUpTo l hl0 D cI cZ cJ (cw ad cI cZ cJ n g w P gm wm gs wz gb go gp gj wb wl wk wo fa mn mg mw mP o) b0 z ((nI n) - 1) k1) tw129 tw1 tw127 tw128 yd_X5_requireUpTo rfl rfl ⟨Nat.le_of_ble_eq_true rfl, Nat.le_of_ble_eq_true rfl⟩ hP hK hZ rfl rfl (Nat.le_of_ble_eq_true rfl) ⟨Nat.le_refl _, Nat.le_refl _⟩ dX5_set_10 hno hlk
  refine er_Sv (own := RX5) (rest := []) hx hb hml hown hts hl.1 (k_X5_requireUpTo l D cI cZ cJ z ((nI n) - 1) k1) tw129 tw1 tw127 tw128 yd_X5_requireUpTo rfl rfl ⟨Nat.le_of_ble_eq_true rfl, Nat.le_of_ble_eq_true rfl⟩ er_nil hK rfl rfl (Nat.le_of_ble_eq_true rfl) ⟨Nat.zero_le _, Nat.zero_le _⟩ dX5_set_10 ?_
  refine lv_iload_n hx hb dX5_set_13 rfl (lv_at hl 2 rfl) ?_
  refine lv_bipush (v := 13) hx hb dX5_set_14 (by decide) ?_
  by_cases k2 : ei_ok x 13
  rotate_left
  · exact et_S (own := RX5) (rest := []) hx hb hml hown hts hl.1 (t_X5_requireUpTo l hl0 D cI cZ cJ (cw ad cI cZ cJ n g w P gm wm gs wz gb go gp gj wb wl wk wo fa mn mg mw mP o) b0 x 13 k2) tw129 tw1 tw127 tw128 yd_X5_requireUpTo rfl rfl ⟨Nat.le_of_ble_eq_true rfl, Nat.le_of_ble_eq_true rfl⟩ hP hK hZ rfl rfl (Nat.le_of_ble_eq_true rfl) ⟨Nat.le_refl _, Nat.le_refl _⟩ dX5_set_16 hno hlk
  refine er_Sv (own := RX5) (rest := []) hx hb hml hown hts hl.1 (k_X5_requireUpTo l D cI cZ cJ x 13 k2) tw129 tw1 tw127 tw128 yd_X5_requireUpTo rfl rfl ⟨Nat.le_of_ble_eq_true rfl, Nat.le_of_ble_eq_true rfl⟩ er_nil hK rfl rfl (Nat.le_of_ble_eq_true rfl) ⟨Nat.zero_le _, Nat.zero_le _⟩ dX5_set_16 ?_
  refine lv_iload_n hx hb dX5_set_19 rfl (lv_at hl 3 rfl) ?_
  refine lv_bipush (v := 18) hx hb dX5_set_20 (by decide) ?_
  by_cases k3 : ei_ok y 18
  rotate_left
  · exact et_S (own := RX5) (rest := []) hx hb hml hown hts hl.1 (t_X5_requireUpTo l hl0 D cI cZ cJ (cw ad cI cZ cJ n g w P gm wm gs wz gb go gp gj wb wl wk wo fa mn mg mw mP o) b0 y 18 k3) tw129 tw1 tw127 tw128 yd_X5_requireUpTo rfl rfl ⟨Nat.le_of_ble_eq_true rfl, Nat.le_of_ble_eq_true rfl⟩ hP hK hZ rfl rfl (Nat.le_of_ble_eq_true rfl) ⟨Nat.le_refl _, Nat.le_refl _⟩ dX5_set_22 hno hlk
  refine er_Sv (own := RX5) (rest := []) hx hb hml hown hts hl.1 (k_X5_requireUpTo l D cI cZ cJ y 18 k3) tw129 tw1 tw127 tw128 yd_X5_requireUpTo rfl rfl ⟨Nat.le_of_ble_eq_true rfl, Nat.le_of_ble_eq_true rfl⟩ er_nil hK rfl rfl (Nat.le_of_ble_eq_true rfl) ⟨Nat.zero_le _, Nat.zero_le _⟩ dX5_set_22 ?_
  exact absurd ⟨k1, k2, k3⟩ hbad

set_option maxHeartbeats 4000000 in
set_option maxRecDepth 100000 in
theorem t_X5_cut (l : Launch) (hl0 : l.stackTraces = false) (D : va_G) (cI cZ cJ : ClassId) (ad : Nat → Nat) (b0 : Nat) (n : Nat) (g : Nat → Int32) (w : Nat → Int32) (P : Nat → Bool) (gm : Nat → Bool) (wm : Nat → Bool) (gs : Bool) (wz : Bool) (gb : Int32) (go : Bool) (gp : Bool) (gj : Bool) (wb : Int32) (wl : Int32) (wk : Int32) (wo : Bool) (fa : Int32) (mn : Nat) (mg : Nat → Int32) (mw : Nat → Int32) (mP : Nat → Bool) (o : Nat → Int64) (z : Int32) (hbad : ¬ ei_ok z (nI n)) : et_M l yX5_cut (Cond.code yX5_cut cX5_cut 3 (some .int) :: eT) ({ frames := 7, cells := 1, slots := 6, locals := 103 }) D (eTy cI cZ cJ) [.ref (ad 0), .int z] (cw ad cI cZ cJ n g w P gm wm gs wz gb go gp gj wb wl wk wo fa mn mg mw mP o) b0 := by
  refine et_of (cc := cX5_cut) (maxL := 3) (ret := (some .int)) (by decide) rfl (Nat.le_of_ble_eq_true rfl) ?_
  intro p e s m args below meth c ls hx hb hts hown hlk hml hno hP hK hZ hl
  have hown : s.vm.findClass RX5 = some m.cls := hown
  have hl : lv_has ls 3 [(0, .ref (ad 0)), (1, .int z)] := hl
  refine lv_iload_n hx hb dX5_cut_0 rfl (lv_at hl 1 rfl) ?_
  refine lv_aload_n hx hb dX5_cut_1 rfl (lv_at hl 0 rfl) ?_
  refine va_get (D := D) (ci := 4) (v := .ref (ad 1)) (C := RX5) (T := TX5) (N := 3) hx hb hts (fun w h => List.mem_cons_of_mem _ (inX5 w h)) hown hK hP 0 rfl rfl 0 (by decide) (eT_h hts tw108) (fun _ h9 => h9) rfl dX5_cut_2 ?_
  refine va_get (D := D) (ci := 2) (v := .int (nI n)) (C := RX2) (T := TX2) (N := 4) hx hb hts (fun w h => List.mem_cons_of_mem _ (inX2 w h)) hown hK hP 1 rfl rfl 3 (by decide) (eT_h hts tw36) (fun _ h9 => h9) rfl dX5_cut_5 ?_
  by_cases k1 : ei_ok z (nI n)
  rotate_left
  · exact et_S (own := RX5) (rest := []) hx hb hml hown hts hl.1 (t_X5_requireUpTo l hl0 D cI cZ cJ (cw ad cI cZ cJ n g w P gm wm gs wz gb go gp gj wb wl wk wo fa mn mg mw mP o) b0 z (nI n) k1) tw129 tw1 tw127 tw128 yd_X5_requireUpTo rfl rfl ⟨Nat.le_of_ble_eq_true rfl, Nat.le_of_ble_eq_true rfl⟩ hP hK hZ rfl rfl (Nat.le_of_ble_eq_true rfl) ⟨Nat.le_refl _, Nat.le_refl _⟩ dX5_cut_8 hno hlk
  refine er_Sv (own := RX5) (rest := []) hx hb hml hown hts hl.1 (k_X5_requireUpTo l D cI cZ cJ z (nI n) k1) tw129 tw1 tw127 tw128 yd_X5_requireUpTo rfl rfl ⟨Nat.le_of_ble_eq_true rfl, Nat.le_of_ble_eq_true rfl⟩ er_nil hK rfl rfl (Nat.le_of_ble_eq_true rfl) ⟨Nat.zero_le _, Nat.zero_le _⟩ dX5_cut_8 ?_
  exact absurd k1 hbad

set_option maxHeartbeats 4000000 in
set_option maxRecDepth 100000 in
theorem t_X5_edge (l : Launch) (hl0 : l.stackTraces = false) (D : va_G) (cI cZ cJ : ClassId) (ad : Nat → Nat) (b0 : Nat) (n : Nat) (g : Nat → Int32) (w : Nat → Int32) (P : Nat → Bool) (gm : Nat → Bool) (wm : Nat → Bool) (gs : Bool) (wz : Bool) (gb : Int32) (go : Bool) (gp : Bool) (gj : Bool) (wb : Int32) (wl : Int32) (wk : Int32) (wo : Bool) (fa : Int32) (mn : Nat) (mg : Nat → Int32) (mw : Nat → Int32) (mP : Nat → Bool) (o : Nat → Int64) (kd z : Int32) (hbad : ¬ (ei_ok kd 1 ∧ ei_ok z (nI n))) : et_M l yX5_edge (Cond.code yX5_edge cX5_edge 3 (some .boolean) :: eT) ({ frames := 7, cells := 1, slots := 6, locals := 103 }) D (eTy cI cZ cJ) [.ref (ad 0), .int kd, .int z] (cw ad cI cZ cJ n g w P gm wm gs wz gb go gp gj wb wl wk wo fa mn mg mw mP o) b0 := by
  refine et_of (cc := cX5_edge) (maxL := 3) (ret := (some .boolean)) (by decide) rfl (Nat.le_of_ble_eq_true rfl) ?_
  intro p e s m args below meth c ls hx hb hts hown hlk hml hno hP hK hZ hl
  have hown : s.vm.findClass RX5 = some m.cls := hown
  have hl : lv_has ls 3 [(0, .ref (ad 0)), (1, .int kd), (2, .int z)] := hl
  refine lv_iload_n hx hb dX5_edge_0 rfl (lv_at hl 1 rfl) ?_
  refine lv_iconst (v := 1) hx hb dX5_edge_1 (by decide) ?_
  by_cases k1 : ei_ok kd 1
  rotate_left
  · exact et_S (own := RX5) (rest := []) hx hb hml hown hts hl.1 (t_X5_requireUpTo l hl0 D cI cZ cJ (cw ad cI cZ cJ n g w P gm wm gs wz gb go gp gj wb wl wk wo fa mn mg mw mP o) b0 kd 1 k1) tw129 tw1 tw127 tw128 yd_X5_requireUpTo rfl rfl ⟨Nat.le_of_ble_eq_true rfl, Nat.le_of_ble_eq_true rfl⟩ hP hK hZ rfl rfl (Nat.le_of_ble_eq_true rfl) ⟨Nat.le_refl _, Nat.le_refl _⟩ dX5_edge_2 hno hlk
  refine er_Sv (own := RX5) (rest := []) hx hb hml hown hts hl.1 (k_X5_requireUpTo l D cI cZ cJ kd 1 k1) tw129 tw1 tw127 tw128 yd_X5_requireUpTo rfl rfl ⟨Nat.le_of_ble_eq_true rfl, Nat.le_of_ble_eq_true rfl⟩ er_nil hK rfl rfl (Nat.le_of_ble_eq_true rfl) ⟨Nat.zero_le _, Nat.zero_le _⟩ dX5_edge_2 ?_
  refine lv_iload_n hx hb dX5_edge_5 rfl (lv_at hl 2 rfl) ?_
  refine lv_aload_n hx hb dX5_edge_6 rfl (lv_at hl 0 rfl) ?_
  refine va_get (D := D) (ci := 4) (v := .ref (ad 1)) (C := RX5) (T := TX5) (N := 3) hx hb hts (fun w h => List.mem_cons_of_mem _ (inX5 w h)) hown hK hP 0 rfl rfl 0 (by decide) (eT_h hts tw108) (fun _ h9 => h9) rfl dX5_edge_7 ?_
  refine va_get (D := D) (ci := 2) (v := .int (nI n)) (C := RX2) (T := TX2) (N := 4) hx hb hts (fun w h => List.mem_cons_of_mem _ (inX2 w h)) hown hK hP 1 rfl rfl 3 (by decide) (eT_h hts tw36) (fun _ h9 => h9) rfl dX5_edge_10 ?_
  by_cases k2 : ei_ok z (nI n)
  rotate_left
  · exact et_S (own := RX5) (rest := []) hx hb hml hown hts hl.1 (t_X5_requireUpTo l hl0 D cI cZ cJ (cw ad cI cZ cJ n g w P gm wm gs wz gb go gp gj wb wl wk wo fa mn mg mw mP o) b0 z (nI n) k2) tw129 tw1 tw127 tw128 yd_X5_requireUpTo rfl rfl ⟨Nat.le_of_ble_eq_true rfl, Nat.le_of_ble_eq_true rfl⟩ hP hK hZ rfl rfl (Nat.le_of_ble_eq_true rfl) ⟨Nat.le_refl _, Nat.le_refl _⟩ dX5_edge_13 hno hlk
  refine er_Sv (own := RX5) (rest := []) hx hb hml hown hts hl.1 (k_X5_requireUpTo l D cI cZ cJ z (nI n) k2) tw129 tw1 tw127 tw128 yd_X5_requireUpTo rfl rfl ⟨Nat.le_of_ble_eq_true rfl, Nat.le_of_ble_eq_true rfl⟩ er_nil hK rfl rfl (Nat.le_of_ble_eq_true rfl) ⟨Nat.zero_le _, Nat.zero_le _⟩ dX5_edge_13 ?_
  exact absurd ⟨k1, k2⟩ hbad

set_option maxHeartbeats 4000000 in
set_option maxRecDepth 100000 in
theorem t_X5_rank (l : Launch) (hl0 : l.stackTraces = false) (D : va_G) (cI cZ cJ : ClassId) (ad : Nat → Nat) (b0 : Nat) (n : Nat) (g : Nat → Int32) (w : Nat → Int32) (P : Nat → Bool) (gm : Nat → Bool) (wm : Nat → Bool) (gs : Bool) (wz : Bool) (gb : Int32) (go : Bool) (gp : Bool) (gj : Bool) (wb : Int32) (wl : Int32) (wk : Int32) (wo : Bool) (fa : Int32) (mn : Nat) (mg : Nat → Int32) (mw : Nat → Int32) (mP : Nat → Bool) (o : Nat → Int64) (kd z : Int32) (hbad : ¬ (ei_ok kd 1 ∧ ei_ok z (nI n))) : et_M l yX5_rank (Cond.code yX5_rank cX5_rank 3 (some .int) :: eT) ({ frames := 7, cells := 1, slots := 6, locals := 103 }) D (eTy cI cZ cJ) [.ref (ad 0), .int kd, .int z] (cw ad cI cZ cJ n g w P gm wm gs wz gb go gp gj wb wl wk wo fa mn mg mw mP o) b0 := by
  refine et_of (cc := cX5_rank) (maxL := 3) (ret := (some .int)) (by decide) rfl (Nat.le_of_ble_eq_true rfl) ?_
  intro p e s m args below meth c ls hx hb hts hown hlk hml hno hP hK hZ hl
  have hown : s.vm.findClass RX5 = some m.cls := hown
  have hl : lv_has ls 3 [(0, .ref (ad 0)), (1, .int kd), (2, .int z)] := hl
  refine lv_iload_n hx hb dX5_rank_0 rfl (lv_at hl 1 rfl) ?_
  refine lv_iconst (v := 1) hx hb dX5_rank_1 (by decide) ?_
  by_cases k1 : ei_ok kd 1
  rotate_left
  · exact et_S (own := RX5) (rest := []) hx hb hml hown hts hl.1 (t_X5_requireUpTo l hl0 D cI cZ cJ (cw ad cI cZ cJ n g w P gm wm gs wz gb go gp gj wb wl wk wo fa mn mg mw mP o) b0 kd 1 k1) tw129 tw1 tw127 tw128 yd_X5_requireUpTo rfl rfl ⟨Nat.le_of_ble_eq_true rfl, Nat.le_of_ble_eq_true rfl⟩ hP hK hZ rfl rfl (Nat.le_of_ble_eq_true rfl) ⟨Nat.le_refl _, Nat.le_refl _⟩ dX5_rank_2 hno hlk
  refine er_Sv (own := RX5) (rest := []) hx hb hml hown hts hl.1 (k_X5_requireUpTo l D cI cZ cJ kd 1 k1) tw129 tw1 tw127 tw128 yd_X5_requireUpTo rfl rfl ⟨Nat.le_of_ble_eq_true rfl, Nat.le_of_ble_eq_true rfl⟩ er_nil hK rfl rfl (Nat.le_of_ble_eq_true rfl) ⟨Nat.zero_le _, Nat.zero_le _⟩ dX5_rank_2 ?_
  refine lv_iload_n hx hb dX5_rank_5 rfl (lv_at hl 2 rfl) ?_
  refine lv_aload_n hx hb dX5_rank_6 rfl (lv_at hl 0 rfl) ?_
  refine va_get (D := D) (ci := 4) (v := .ref (ad 1)) (C := RX5) (T := TX5) (N := 3) hx hb hts (fun w h => List.mem_cons_of_mem _ (inX5 w h)) hown hK hP 0 rfl rfl 0 (by decide) (eT_h hts tw108) (fun _ h9 => h9) rfl dX5_rank_7 ?_
  refine va_get (D := D) (ci := 2) (v := .int (nI n)) (C := RX2) (T := TX2) (N := 4) hx hb hts (fun w h => List.mem_cons_of_mem _ (inX2 w h)) hown hK hP 1 rfl rfl 3 (by decide) (eT_h hts tw36) (fun _ h9 => h9) rfl dX5_rank_10 ?_
  by_cases k2 : ei_ok z (nI n)
  rotate_left
  · exact et_S (own := RX5) (rest := []) hx hb hml hown hts hl.1 (t_X5_requireUpTo l hl0 D cI cZ cJ (cw ad cI cZ cJ n g w P gm wm gs wz gb go gp gj wb wl wk wo fa mn mg mw mP o) b0 z (nI n) k2) tw129 tw1 tw127 tw128 yd_X5_requireUpTo rfl rfl ⟨Nat.le_of_ble_eq_true rfl, Nat.le_of_ble_eq_true rfl⟩ hP hK hZ rfl rfl (Nat.le_of_ble_eq_true rfl) ⟨Nat.le_refl _, Nat.le_refl _⟩ dX5_rank_13 hno hlk
  refine er_Sv (own := RX5) (rest := []) hx hb hml hown hts hl.1 (k_X5_requireUpTo l D cI cZ cJ z (nI n) k2) tw129 tw1 tw127 tw128 yd_X5_requireUpTo rfl rfl ⟨Nat.le_of_ble_eq_true rfl, Nat.le_of_ble_eq_true rfl⟩ er_nil hK rfl rfl (Nat.le_of_ble_eq_true rfl) ⟨Nat.zero_le _, Nat.zero_le _⟩ dX5_rank_13 ?_
  exact absurd ⟨k1, k2⟩ hbad

set_option maxHeartbeats 4000000 in
set_option maxRecDepth 100000 in
theorem t_X5_next (l : Launch) (hl0 : l.stackTraces = false) (D : va_G) (cI cZ cJ : ClassId) (ad : Nat → Nat) (b0 : Nat) (n : Nat) (g : Nat → Int32) (w : Nat → Int32) (P : Nat → Bool) (gm : Nat → Bool) (wm : Nat → Bool) (gs : Bool) (wz : Bool) (gb : Int32) (go : Bool) (gp : Bool) (gj : Bool) (wb : Int32) (wl : Int32) (wk : Int32) (wo : Bool) (fa : Int32) (mn : Nat) (mg : Nat → Int32) (mw : Nat → Int32) (mP : Nat → Bool) (o : Nat → Int64) (kd z : Int32) (b : Bool) (hbad : ¬ (ei_ok kd 1 ∧ ei_ok z (nI n))) : et_M l yX5_next (Cond.code yX5_next cX5_next 5 (some .int) :: eT) ({ frames := 7, cells := 1, slots := 6, locals := 103 }) D (eTy cI cZ cJ) [.ref (ad 0), .int kd, .int z, .int (ef_b b)] (cw ad cI cZ cJ n g w P gm wm gs wz gb go gp gj wb wl wk wo fa mn mg mw mP o) b0 := by
  refine et_of (cc := cX5_next) (maxL := 5) (ret := (some .int)) (by decide) rfl (Nat.le_of_ble_eq_true rfl) ?_
  intro p e s m args below meth c ls hx hb hts hown hlk hml hno hP hK hZ hl
  have hown : s.vm.findClass RX5 = some m.cls := hown
  have hl : lv_has ls 5 [(0, .ref (ad 0)), (1, .int kd), (2, .int z), (3, .int (ef_b b))] := hl
  refine lv_iload_n hx hb dX5_next_0 rfl (lv_at hl 1 rfl) ?_
  refine lv_iconst (v := 1) hx hb dX5_next_1 (by decide) ?_
  by_cases k1 : ei_ok kd 1
  rotate_left
  · exact et_S (own := RX5) (rest := []) hx hb hml hown hts hl.1 (t_X5_requireUpTo l hl0 D cI cZ cJ (cw ad cI cZ cJ n g w P gm wm gs wz gb go gp gj wb wl wk wo fa mn mg mw mP o) b0 kd 1 k1) tw129 tw1 tw127 tw128 yd_X5_requireUpTo rfl rfl ⟨Nat.le_of_ble_eq_true rfl, Nat.le_of_ble_eq_true rfl⟩ hP hK hZ rfl rfl (Nat.le_of_ble_eq_true rfl) ⟨Nat.le_refl _, Nat.le_refl _⟩ dX5_next_2 hno hlk
  refine er_Sv (own := RX5) (rest := []) hx hb hml hown hts hl.1 (k_X5_requireUpTo l D cI cZ cJ kd 1 k1) tw129 tw1 tw127 tw128 yd_X5_requireUpTo rfl rfl ⟨Nat.le_of_ble_eq_true rfl, Nat.le_of_ble_eq_true rfl⟩ er_nil hK rfl rfl (Nat.le_of_ble_eq_true rfl) ⟨Nat.zero_le _, Nat.zero_le _⟩ dX5_next_2 ?_
  refine lv_iload_n hx hb dX5_next_5 rfl (lv_at hl 2 rfl) ?_
  refine lv_aload_n hx hb dX5_next_6 rfl (lv_at hl 0 rfl) ?_
  refine va_get (D := D) (ci := 4) (v := .ref (ad 1)) (C := RX5) (T := TX5) (N := 3) hx hb hts (fun w h => List.mem_cons_of_mem _ (inX5 w h)) hown hK hP 0 rfl rfl 0 (by decide) (eT_h hts tw108) (fun _ h9 => h9) rfl dX5_next_7 ?_
  refine va_get (D := D) (ci := 2) (v := .int (nI n)) (C := RX2) (T := TX2) (N := 4) hx hb hts (fun w h => List.mem_cons_of_mem _ (inX2 w h)) hown hK hP 1 rfl rfl 3 (by decide) (eT_h hts tw36) (fun _ h9 => h9) rfl dX5_next_10 ?_
  by_cases k2 : ei_ok z (nI n)
  rotate_left
  · exact et_S (own := RX5) (rest := []) hx hb hml hown hts hl.1 (t_X5_requireUpTo l hl0 D cI cZ cJ (cw ad cI cZ cJ n g w P gm wm gs wz gb go gp gj wb wl wk wo fa mn mg mw mP o) b0 z (nI n) k2) tw129 tw1 tw127 tw128 yd_X5_requireUpTo rfl rfl ⟨Nat.le_of_ble_eq_true rfl, Nat.le_of_ble_eq_true rfl⟩ hP hK hZ rfl rfl (Nat.le_of_ble_eq_true rfl) ⟨Nat.le_refl _, Nat.le_refl _⟩ dX5_next_13 hno hlk
  refine er_Sv (own := RX5) (rest := []) hx hb hml hown hts hl.1 (k_X5_requireUpTo l D cI cZ cJ z (nI n) k2) tw129 tw1 tw127 tw128 yd_X5_requireUpTo rfl rfl ⟨Nat.le_of_ble_eq_true rfl, Nat.le_of_ble_eq_true rfl⟩ er_nil hK rfl rfl (Nat.le_of_ble_eq_true rfl) ⟨Nat.zero_le _, Nat.zero_le _⟩ dX5_next_13 ?_
  exact absurd ⟨k1, k2⟩ hbad

set_option maxHeartbeats 4000000 in
set_option maxRecDepth 100000 in
theorem t_X5_hash (l : Launch) (hl0 : l.stackTraces = false) (D : va_G) (cI cZ cJ : ClassId) (ad : Nat → Nat) (b0 : Nat) (n : Nat) (g : Nat → Int32) (w : Nat → Int32) (P : Nat → Bool) (gm : Nat → Bool) (wm : Nat → Bool) (gs : Bool) (wz : Bool) (gb : Int32) (go : Bool) (gp : Bool) (gj : Bool) (wb : Int32) (wl : Int32) (wk : Int32) (wo : Bool) (fa : Int32) (mn : Nat) (mg : Nat → Int32) (mw : Nat → Int32) (mP : Nat → Bool) (o : Nat → Int64) (kd : Int32) (hbad : ¬ ei_ok kd 1) : et_M l yX5_hash (Cond.code yX5_hash cX5_hash 2 (some .int) :: eT) ({ frames := 7, cells := 1, slots := 6, locals := 103 }) D (eTy cI cZ cJ) [.ref (ad 0), .int kd] (cw ad cI cZ cJ n g w P gm wm gs wz gb go gp gj wb wl wk wo fa mn mg mw mP o) b0 := by
  refine et_of (cc := cX5_hash) (maxL := 2) (ret := (some .int)) (by decide) rfl (Nat.le_of_ble_eq_true rfl) ?_
  intro p e s m args below meth c ls hx hb hts hown hlk hml hno hP hK hZ hl
  have hown : s.vm.findClass RX5 = some m.cls := hown
  have hl : lv_has ls 2 [(0, .ref (ad 0)), (1, .int kd)] := hl
  refine lv_iload_n hx hb dX5_hash_0 rfl (lv_at hl 1 rfl) ?_
  refine lv_iconst (v := 1) hx hb dX5_hash_1 (by decide) ?_
  by_cases k1 : ei_ok kd 1
  rotate_left
  · exact et_S (own := RX5) (rest := []) hx hb hml hown hts hl.1 (t_X5_requireUpTo l hl0 D cI cZ cJ (cw ad cI cZ cJ n g w P gm wm gs wz gb go gp gj wb wl wk wo fa mn mg mw mP o) b0 kd 1 k1) tw129 tw1 tw127 tw128 yd_X5_requireUpTo rfl rfl ⟨Nat.le_of_ble_eq_true rfl, Nat.le_of_ble_eq_true rfl⟩ hP hK hZ rfl rfl (Nat.le_of_ble_eq_true rfl) ⟨Nat.le_refl _, Nat.le_refl _⟩ dX5_hash_2 hno hlk
  refine er_Sv (own := RX5) (rest := []) hx hb hml hown hts hl.1 (k_X5_requireUpTo l D cI cZ cJ kd 1 k1) tw129 tw1 tw127 tw128 yd_X5_requireUpTo rfl rfl ⟨Nat.le_of_ble_eq_true rfl, Nat.le_of_ble_eq_true rfl⟩ er_nil hK rfl rfl (Nat.le_of_ble_eq_true rfl) ⟨Nat.zero_le _, Nat.zero_le _⟩ dX5_hash_2 ?_
  exact absurd k1 hbad
