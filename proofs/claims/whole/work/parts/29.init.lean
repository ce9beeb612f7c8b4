/-! The constructors. -/
set_option maxHeartbeats 4000000 in
set_option maxRecDepth 100000 in
theorem n_X1_init (l : Launch) (D : va_G) (cI cZ cJ : ClassId) (h0 sz : Nat) : en_M l yX1_init (Cond.code yX1_init cX1_init 1 none :: eT) ({ frames := 2, cells := 0, slots := 0, locals := 32 }) D (eTy cI cZ cJ) [.ref h0] [(h0, .inr (1, [.int 0, .int 0, .int 0, .int 0]))] sz (fun W9 => W9 = [(h0, .inr (1, [.int (-1), .int 0, .int 0, .int 0]))]) 0 0 := by
  refine en_of (cc := cX1_init) (maxL := 1) (by decide) rfl rfl (Nat.le_of_ble_eq_true rfl) ?_
  intro p e s m args below meth c ls A hx hb hr hts hown hlk hml hnm hP hK hC hD hA hl
  have hown : s.vm.findClass RX1 = some m.cls := hown
  have hl : lv_has ls 1 [(0, .ref h0)] := hl
  have hS : va_S A s.heap s.heap [] := va_S.rf
  refine lv_aload_n hx hb dX1_init_0 rfl (lv_at hl 0 rfl) ?_
  refine en_IV (own := RX1) (host := RX5) (b := h0) (W0 := []) (av := []) (rest := []) hx hb hml hown hts (fun w h => List.mem_cons_of_mem _ h) hl.1 (k_X3_init l D cI cZ cJ h0) tw58 tw4 hC.2.2.1 tw57 rfl yd_X3_init rfl rfl ⟨Nat.le_of_ble_eq_true rfl, Nat.le_of_ble_eq_true rfl⟩ (fun k q h => absurd h (by simp)) hK rfl rfl (Nat.le_of_ble_eq_true rfl) ⟨Nat.le_of_ble_eq_true rfl, Nat.le_of_ble_eq_true rfl⟩ dX1_init_1 ?_
  refine W.eq (g2 := F0 m 4 ls []) rfl ?_
  refine lv_aload_n hx hb dX1_init_4 rfl (lv_at hl 0 rfl) ?_
  refine lv_iconst (v := -1) hx hb dX1_init_5 (by decide) ?_
  refine va_put (D := D) (ci := 1) (v := .int (-1)) (ty := .int) (C := RX1) (T := TX1) (N := 4) hx hb hts (fun w h => List.mem_cons_of_mem _ (inX1 w h)) tyX1 tyX1_ok nmX1 hown hK hP hD hS 0 rfl rfl 0 (by decide) (eT_h hts tw60) (fun _ h9 => h9) rfl (by decide +kernel) rfl rfl (Nat.le_of_ble_eq_true rfl) dX1_init_6 (fun H locs hP hD hS => ?_)
  have hP : va_P D vwCl [(h0, .inr (1, [.int (-1), .int 0, .int 0, .int 0]))] H := hP
  have hD : va_D A [(h0, .inr (1, [.int (-1), .int 0, .int 0, .int 0]))] := hD
  refine lv_aload_n hx hb dX1_init_9 rfl (lv_at hl 0 rfl) ?_
  refine lv_iconst (v := 0) hx hb dX1_init_10 (by decide) ?_
  refine va_put (D := D) (ci := 1) (v := .int 0) (ty := .boolean) (C := RX1) (T := TX1) (N := 4) hx hb hts (fun w h => List.mem_cons_of_mem _ (inX1 w h)) tyX1 tyX1_ok nmX1 hown hK hP hD hS 0 rfl rfl 1 (by decide) (eT_h hts tw61) (fun _ h9 => h9) rfl (by decide +kernel) rfl rfl (Nat.le_of_ble_eq_true rfl) dX1_init_11 (fun H locs hP hD hS => ?_)
  have hP : va_P D vwCl [(h0, .inr (1, [.int (-1), .int 0, .int 0, .int 0]))] H := hP
  have hD : va_D A [(h0, .inr (1, [.int (-1), .int 0, .int 0, .int 0]))] := hD
  refine lv_aload_n hx hb dX1_init_14 rfl (lv_at hl 0 rfl) ?_
  refine lv_iconst (v := 0) hx hb dX1_init_15 (by decide) ?_
  refine va_put (D := D) (ci := 1) (v := .int 0) (ty := .boolean) (C := RX1) (T := TX1) (N := 4) hx hb hts (fun w h => List.mem_cons_of_mem _ (inX1 w h)) tyX1 tyX1_ok nmX1 hown hK hP hD hS 0 rfl rfl 2 (by decide) (eT_h hts tw62) (fun _ h9 => h9) rfl (by decide +kernel) rfl rfl (Nat.le_of_ble_eq_true rfl) dX1_init_16 (fun H locs hP hD hS => ?_)
  have hP : va_P D vwCl [(h0, .inr (1, [.int (-1), .int 0, .int 0, .int 0]))] H := hP
  have hD : va_D A [(h0, .inr (1, [.int (-1), .int 0, .int 0, .int 0]))] := hD
  refine lv_aload_n hx hb dX1_init_19 rfl (lv_at hl 0 rfl) ?_
  refine lv_iconst (v := 0) hx hb dX1_init_20 (by decide) ?_
  refine va_put (D := D) (ci := 1) (v := .int 0) (ty := .boolean) (C := RX1) (T := TX1) (N := 4) hx hb hts (fun w h => List.mem_cons_of_mem _ (inX1 w h)) tyX1 tyX1_ok nmX1 hown hK hP hD hS 0 rfl rfl 3 (by decide) (eT_h hts tw63) (fun _ h9 => h9) rfl (by decide +kernel) rfl rfl (Nat.le_of_ble_eq_true rfl) dX1_init_21 (fun H locs hP hD hS => ?_)
  have hP : va_P D vwCl [(h0, .inr (1, [.int (-1), .int 0, .int 0, .int 0]))] H := hP
  have hD : va_D A [(h0, .inr (1, [.int (-1), .int 0, .int 0, .int 0]))] := hD
  exact en_vret hx hb hr hlk hP hD hS rfl dX1_init_24
set_option maxHeartbeats 4000000 in
set_option maxRecDepth 100000 in
theorem n_X4_init (l : Launch) (D : va_G) (cI cZ cJ : ClassId) (h0 sz : Nat) : en_M l yX4_init (Cond.code yX4_init cX4_init 1 none :: eT) ({ frames := 2, cells := 0, slots := 0, locals := 32 }) D (eTy cI cZ cJ) [.ref h0] [(h0, .inr (3, [.int 0, .int 0, .int 0, .int 0]))] sz (fun W9 => W9 = [(h0, .inr (3, [.int (-1), .int (-1), .int (-1), .int 0]))]) 0 0 := by
  refine en_of (cc := cX4_init) (maxL := 1) (by decide) rfl rfl (Nat.le_of_ble_eq_true rfl) ?_
  intro p e s m args below meth c ls A hx hb hr hts hown hlk hml hnm hP hK hC hD hA hl
  have hown : s.vm.findClass RX4 = some m.cls := hown
  have hl : lv_has ls 1 [(0, .ref h0)] := hl
  have hS : va_S A s.heap s.heap [] := va_S.rf
  refine lv_aload_n hx hb dX4_init_0 rfl (lv_at hl 0 rfl) ?_
  refine en_IV (own := RX4) (host := RX5) (b := h0) (W0 := []) (av := []) (rest := []) hx hb hml hown hts (fun w h => List.mem_cons_of_mem _ h) hl.1 (k_X3_init l D cI cZ cJ h0) tw58 tw4 hC.2.2.2.2 tw57 rfl yd_X3_init rfl rfl ⟨Nat.le_of_ble_eq_true rfl, Nat.le_of_ble_eq_true rfl⟩ (fun k q h => absurd h (by simp)) hK rfl rfl (Nat.le_of_ble_eq_true rfl) ⟨Nat.le_of_ble_eq_true rfl, Nat.le_of_ble_eq_true rfl⟩ dX4_init_1 ?_
  refine W.eq (g2 := F0 m 4 ls []) rfl ?_
  refine lv_aload_n hx hb dX4_init_4 rfl (lv_at hl 0 rfl) ?_
  refine lv_iconst (v := -1) hx hb dX4_init_5 (by decide) ?_
  refine va_put (D := D) (ci := 3) (v := .int (-1)) (ty := .int) (C := RX4) (T := TX4) (N := 4) hx hb hts (fun w h => List.mem_cons_of_mem _ (inX4 w h)) tyX4 tyX4_ok nmX4 hown hK hP hD hS 0 rfl rfl 0 (by decide) (eT_h hts tw95) (fun _ h9 => h9) rfl (by decide +kernel) rfl rfl (Nat.le_of_ble_eq_true rfl) dX4_init_6 (fun H locs hP hD hS => ?_)
  have hP : va_P D vwCl [(h0, .inr (3, [.int (-1), .int 0, .int 0, .int 0]))] H := hP
  have hD : va_D A [(h0, .inr (3, [.int (-1), .int 0, .int 0, .int 0]))] := hD
  refine lv_aload_n hx hb dX4_init_9 rfl (lv_at hl 0 rfl) ?_
  refine lv_iconst (v := -1) hx hb dX4_init_10 (by decide) ?_
  refine va_put (D := D) (ci := 3) (v := .int (-1)) (ty := .int) (C := RX4) (T := TX4) (N := 4) hx hb hts (fun w h => List.mem_cons_of_mem _ (inX4 w h)) tyX4 tyX4_ok nmX4 hown hK hP hD hS 0 rfl rfl 1 (by decide) (eT_h hts tw96) (fun _ h9 => h9) rfl (by decide +kernel) rfl rfl (Nat.le_of_ble_eq_true rfl) dX4_init_11 (fun H locs hP hD hS => ?_)
  have hP : va_P D vwCl [(h0, .inr (3, [.int (-1), .int (-1), .int 0, .int 0]))] H := hP
  have hD : va_D A [(h0, .inr (3, [.int (-1), .int (-1), .int 0, .int 0]))] := hD
  refine lv_aload_n hx hb dX4_init_14 rfl (lv_at hl 0 rfl) ?_
  refine lv_iconst (v := -1) hx hb dX4_init_15 (by decide) ?_
  refine va_put (D := D) (ci := 3) (v := .int (-1)) (ty := .int) (C := RX4) (T := TX4) (N := 4) hx hb hts (fun w h => List.mem_cons_of_mem _ (inX4 w h)) tyX4 tyX4_ok nmX4 hown hK hP hD hS 0 rfl rfl 2 (by decide) (eT_h hts tw97) (fun _ h9 => h9) rfl (by decide +kernel) rfl rfl (Nat.le_of_ble_eq_true rfl) dX4_init_16 (fun H locs hP hD hS => ?_)
  have hP : va_P D vwCl [(h0, .inr (3, [.int (-1), .int (-1), .int (-1), .int 0]))] H := hP
  have hD : va_D A [(h0, .inr (3, [.int (-1), .int (-1), .int (-1), .int 0]))] := hD
  refine lv_aload_n hx hb dX4_init_19 rfl (lv_at hl 0 rfl) ?_
  refine lv_iconst (v := 0) hx hb dX4_init_20 (by decide) ?_
  refine va_put (D := D) (ci := 3) (v := .int 0) (ty := .boolean) (C := RX4) (T := TX4) (N := 4) hx hb hts (fun w h => List.mem_cons_of_mem _ (inX4 w h)) tyX4 tyX4_ok nmX4 hown hK hP hD hS 0 rfl rfl 3 (by decide) (eT_h hts tw98) (fun _ h9 => h9) rfl (by decide +kernel) rfl rfl (Nat.le_of_ble_eq_true rfl) dX4_init_21 (fun H locs hP hD hS => ?_)
  have hP : va_P D vwCl [(h0, .inr (3, [.int (-1), .int (-1), .int (-1), .int 0]))] H := hP
  have hD : va_D A [(h0, .inr (3, [.int (-1), .int (-1), .int (-1), .int 0]))] := hD
  exact en_vret hx hb hr hlk hP hD hS rfl dX4_init_24
set_option maxHeartbeats 4000000 in
set_option maxRecDepth 100000 in
theorem n_X2_init (l : Launch) (D : va_G) (cI cZ cJ : ClassId) (h0 sz : Nat) : en_M l yX2_init (Cond.code yX2_init cX2_init 1 none :: eT) ({ frames := 1, cells := 3, slots := 3000, locals := 12 }) D (eTy cI cZ cJ) [.ref h0] [(h0, .inr (2, [.null, .null, .null, .int 0]))] sz (fun W9 => ∃ q8 q17 q26 : Nat, W9 = [(h0, .inr (2, [.ref q8, .ref q17, .ref q26, .int 0])), (q8, .inl (cI, 1000, .inl (fun _ => 0))), (q17, .inl (cI, 1000, .inl (fun _ => 0))), (q26, .inl (cZ, 1000, .inl (fun _ => 0)))]) 3 3000 := by
  refine en_of (cc := cX2_init) (maxL := 1) (by decide) rfl rfl (Nat.le_of_ble_eq_true rfl) ?_
  intro p e s m args below meth c ls A hx hb hr hts hown hlk hml hnm hP hK hC hD hA hl
  have hown : s.vm.findClass RX2 = some m.cls := hown
  have hl : lv_has ls 1 [(0, .ref h0)] := hl
  have hS : va_S A s.heap s.heap [] := va_S.rf
  refine lv_aload_n hx hb dX2_init_0 rfl (lv_at hl 0 rfl) ?_
  refine W.objInit hx hb hown (eT_h hts tw26) (eT_h hts tw19) (eT_h hts tw20) rfl (by rw [hml]; exact hl.1) rfl dX2_init_1 (Nat.le_of_ble_eq_true rfl) (Nat.le_of_ble_eq_true rfl) ?_
  refine W.eq (g2 := F0 m 4 ls []) rfl ?_
  refine lv_aload_n hx hb dX2_init_4 rfl (lv_at hl 0 rfl) ?_
  refine lv_sipush (v := 1000) hx hb dX2_init_5 (by decide) ?_
  refine va_newa (atype := .int) (a0 := (1000, .inl (fun _ => 0))) (ty := .int) (N' := 1000) hx hb (eT_h hts tw47) rfl hK hP hD hS hA (fun _ => rfl) (by decide) (by decide) (by decide) (Nat.le_of_ble_eq_true rfl) (Nat.le_of_ble_eq_true rfl) dX2_init_8 (fun q8 c9 H hK9 hP hD hS => ?_)
  obtain rfl : cI = c9 := Option.some.inj ((va_nm_int (hK.2 0 _ rfl).2).symm.trans (va_nm_int (hK9.2 3 _ rfl).2))
  have hP : va_P D vwCl [(h0, .inr (2, [.null, .null, .null, .int 0])), (q8, .inl (cI, 1000, .inl (fun _ => 0)))] H := hP
  have hD : va_D A [(h0, .inr (2, [.null, .null, .null, .int 0])), (q8, .inl (cI, 1000, .inl (fun _ => 0)))] := hD
  refine W.widen (k := 1) (n := 1000) (Nat.le_of_ble_eq_true rfl) (Nat.le_of_ble_eq_true rfl) ?_
  refine va_putF (D := D) (ci := 2) (v := .ref q8) (ty := .array .int) (C := RX2) (T := TX2) (N := 4) hx hb hts (fun w h => List.mem_cons_of_mem _ (inX2 w h)) tyX2 tyX2_ok nmX2 hown hK hP hD hS 0 rfl rfl 0 (by decide) (eT_h hts tw27) (fun _ h9 => h9) rfl hnm rfl (by decide +kernel) rfl rfl (Nat.le_of_ble_eq_true rfl) dX2_init_10 (fun H locs hP hD hS => ?_)
  have hP : va_P D vwCl [(h0, .inr (2, [.ref q8, .null, .null, .int 0])), (q8, .inl (cI, 1000, .inl (fun _ => 0)))] H := hP
  have hD : va_D A [(h0, .inr (2, [.ref q8, .null, .null, .int 0])), (q8, .inl (cI, 1000, .inl (fun _ => 0)))] := hD
  refine lv_aload_n hx hb dX2_init_13 rfl (lv_at hl 0 rfl) ?_
  refine lv_sipush (v := 1000) hx hb dX2_init_14 (by decide) ?_
  refine va_newa (atype := .int) (a0 := (1000, .inl (fun _ => 0))) (ty := .int) (N' := 1000) hx hb (eT_h hts tw47) rfl hK hP hD hS hA (fun _ => rfl) (by decide) (by decide) (by decide) (Nat.le_of_ble_eq_true rfl) (Nat.le_of_ble_eq_true rfl) dX2_init_17 (fun q17 c9 H hK9 hP hD hS => ?_)
  obtain rfl : cI = c9 := Option.some.inj ((va_nm_int (hK.2 0 _ rfl).2).symm.trans (va_nm_int (hK9.2 3 _ rfl).2))
  have hP : va_P D vwCl [(h0, .inr (2, [.ref q8, .null, .null, .int 0])), (q8, .inl (cI, 1000, .inl (fun _ => 0))), (q17, .inl (cI, 1000, .inl (fun _ => 0)))] H := hP
  have hD : va_D A [(h0, .inr (2, [.ref q8, .null, .null, .int 0])), (q8, .inl (cI, 1000, .inl (fun _ => 0))), (q17, .inl (cI, 1000, .inl (fun _ => 0)))] := hD
  refine W.widen (k := 2) (n := 2000) (Nat.le_of_ble_eq_true rfl) (Nat.le_of_ble_eq_true rfl) ?_
  refine va_putF (D := D) (ci := 2) (v := .ref q17) (ty := .array .int) (C := RX2) (T := TX2) (N := 4) hx hb hts (fun w h => List.mem_cons_of_mem _ (inX2 w h)) tyX2 tyX2_ok nmX2 hown hK hP hD hS 0 rfl rfl 1 (by decide) (eT_h hts tw29) (fun _ h9 => h9) rfl hnm rfl (by decide +kernel) rfl rfl (Nat.le_of_ble_eq_true rfl) dX2_init_19 (fun H locs hP hD hS => ?_)
  have hP : va_P D vwCl [(h0, .inr (2, [.ref q8, .ref q17, .null, .int 0])), (q8, .inl (cI, 1000, .inl (fun _ => 0))), (q17, .inl (cI, 1000, .inl (fun _ => 0)))] H := hP
  have hD : va_D A [(h0, .inr (2, [.ref q8, .ref q17, .null, .int 0])), (q8, .inl (cI, 1000, .inl (fun _ => 0))), (q17, .inl (cI, 1000, .inl (fun _ => 0)))] := hD
  refine lv_aload_n hx hb dX2_init_22 rfl (lv_at hl 0 rfl) ?_
  refine lv_sipush (v := 1000) hx hb dX2_init_23 (by decide) ?_
  refine va_newa (atype := .boolean) (a0 := (1000, .inl (fun _ => 0))) (ty := .boolean) (N' := 1000) hx hb (eT_h hts tw48) rfl hK hP hD hS hA (fun _ => rfl) (by decide) (by decide) (by decide) (Nat.le_of_ble_eq_true rfl) (Nat.le_of_ble_eq_true rfl) dX2_init_26 (fun q26 c9 H hK9 hP hD hS => ?_)
  obtain rfl : cZ = c9 := Option.some.inj ((va_nm_boolean (hK.2 1 _ rfl).2).symm.trans (va_nm_boolean (hK9.2 3 _ rfl).2))
  have hP : va_P D vwCl [(h0, .inr (2, [.ref q8, .ref q17, .null, .int 0])), (q8, .inl (cI, 1000, .inl (fun _ => 0))), (q17, .inl (cI, 1000, .inl (fun _ => 0))), (q26, .inl (cZ, 1000, .inl (fun _ => 0)))] H := hP
  have hD : va_D A [(h0, .inr (2, [.ref q8, .ref q17, .null, .int 0])), (q8, .inl (cI, 1000, .inl (fun _ => 0))), (q17, .inl (cI, 1000, .inl (fun _ => 0))), (q26, .inl (cZ, 1000, .inl (fun _ => 0)))] := hD
  refine W.widen (k := 3) (n := 3000) (Nat.le_of_ble_eq_true rfl) (Nat.le_of_ble_eq_true rfl) ?_
  refine va_putF (D := D) (ci := 2) (v := .ref q26) (ty := .array .boolean) (C := RX2) (T := TX2) (N := 4) hx hb hts (fun w h => List.mem_cons_of_mem _ (inX2 w h)) tyX2 tyX2_ok nmX2 hown hK hP hD hS 0 rfl rfl 2 (by decide) (eT_h hts tw31) (fun _ h9 => h9) rfl hnm rfl (by decide +kernel) rfl rfl (Nat.le_of_ble_eq_true rfl) dX2_init_28 (fun H locs hP hD hS => ?_)
  have hP : va_P D vwCl [(h0, .inr (2, [.ref q8, .ref q17, .ref q26, .int 0])), (q8, .inl (cI, 1000, .inl (fun _ => 0))), (q17, .inl (cI, 1000, .inl (fun _ => 0))), (q26, .inl (cZ, 1000, .inl (fun _ => 0)))] H := hP
  have hD : va_D A [(h0, .inr (2, [.ref q8, .ref q17, .ref q26, .int 0])), (q8, .inl (cI, 1000, .inl (fun _ => 0))), (q17, .inl (cI, 1000, .inl (fun _ => 0))), (q26, .inl (cZ, 1000, .inl (fun _ => 0)))] := hD
  refine lv_aload_n hx hb dX2_init_31 rfl (lv_at hl 0 rfl) ?_
  refine lv_iconst (v := 0) hx hb dX2_init_32 (by decide) ?_
  refine va_put (D := D) (ci := 2) (v := .int 0) (ty := .int) (C := RX2) (T := TX2) (N := 4) hx hb hts (fun w h => List.mem_cons_of_mem _ (inX2 w h)) tyX2 tyX2_ok nmX2 hown hK hP hD hS 0 rfl rfl 3 (by decide) (eT_h hts tw34) (fun _ h9 => h9) rfl (by decide +kernel) rfl rfl (Nat.le_of_ble_eq_true rfl) dX2_init_33 (fun H locs hP hD hS => ?_)
  have hP : va_P D vwCl [(h0, .inr (2, [.ref q8, .ref q17, .ref q26, .int 0])), (q8, .inl (cI, 1000, .inl (fun _ => 0))), (q17, .inl (cI, 1000, .inl (fun _ => 0))), (q26, .inl (cZ, 1000, .inl (fun _ => 0)))] H := hP
  have hD : va_D A [(h0, .inr (2, [.ref q8, .ref q17, .ref q26, .int 0])), (q8, .inl (cI, 1000, .inl (fun _ => 0))), (q17, .inl (cI, 1000, .inl (fun _ => 0))), (q26, .inl (cZ, 1000, .inl (fun _ => 0)))] := hD
  exact en_vret hx hb hr hlk hP hD hS ⟨q8, q17, q26, rfl⟩ dX2_init_36
set_option maxHeartbeats 4000000 in
set_option maxRecDepth 100000 in
theorem n_X6_init (l : Launch) (D : va_G) (cI cZ cJ : ClassId) (h0 sz : Nat) : en_M l yX6_init (Cond.code yX6_init cX6_init 1 none :: eT) ({ frames := 1, cells := 3, slots := 3000, locals := 12 }) D (eTy cI cZ cJ) [.ref h0] [(h0, .inr (5, [.int 0, .int 0, .null, .null, .null]))] sz (fun W9 => ∃ q8 q17 q26 : Nat, W9 = [(h0, .inr (5, [.int 0, .int 0, .ref q8, .ref q17, .ref q26])), (q8, .inl (cI, 1000, .inl (fun _ => 0))), (q17, .inl (cI, 1000, .inl (fun _ => 0))), (q26, .inl (cZ, 1000, .inl (fun _ => 0)))]) 3 3000 := by
  refine en_of (cc := cX6_init) (maxL := 1) (by decide) rfl rfl (Nat.le_of_ble_eq_true rfl) ?_
  intro p e s m args below meth c ls A hx hb hr hts hown hlk hml hnm hP hK hC hD hA hl
  have hown : s.vm.findClass RX6 = some m.cls := hown
  have hl : lv_has ls 1 [(0, .ref h0)] := hl
  have hS : va_S A s.heap s.heap [] := va_S.rf
  refine lv_aload_n hx hb dX6_init_0 rfl (lv_at hl 0 rfl) ?_
  refine W.objInit hx hb hown (eT_h hts tw366) (eT_h hts tw19) (eT_h hts tw20) rfl (by rw [hml]; exact hl.1) rfl dX6_init_1 (Nat.le_of_ble_eq_true rfl) (Nat.le_of_ble_eq_true rfl) ?_
  refine W.eq (g2 := F0 m 4 ls []) rfl ?_
  refine lv_aload_n hx hb dX6_init_4 rfl (lv_at hl 0 rfl) ?_
  refine lv_sipush (v := 1000) hx hb dX6_init_5 (by decide) ?_
  refine va_newa (atype := .int) (a0 := (1000, .inl (fun _ => 0))) (ty := .int) (N' := 1000) hx hb (eT_h hts tw47) rfl hK hP hD hS hA (fun _ => rfl) (by decide) (by decide) (by decide) (Nat.le_of_ble_eq_true rfl) (Nat.le_of_ble_eq_true rfl) dX6_init_8 (fun q8 c9 H hK9 hP hD hS => ?_)
  obtain rfl : cI = c9 := Option.some.inj ((va_nm_int (hK.2 0 _ rfl).2).symm.trans (va_nm_int (hK9.2 3 _ rfl).2))
  have hP : va_P D vwCl [(h0, .inr (5, [.int 0, .int 0, .null, .null, .null])), (q8, .inl (cI, 1000, .inl (fun _ => 0)))] H := hP
  have hD : va_D A [(h0, .inr (5, [.int 0, .int 0, .null, .null, .null])), (q8, .inl (cI, 1000, .inl (fun _ => 0)))] := hD
  refine W.widen (k := 1) (n := 1000) (Nat.le_of_ble_eq_true rfl) (Nat.le_of_ble_eq_true rfl) ?_
  refine va_putF (D := D) (ci := 5) (v := .ref q8) (ty := .array .int) (C := RX6) (T := TX6) (N := 5) hx hb hts (fun w h => List.mem_cons_of_mem _ (inX6 w h)) tyX6 tyX6_ok nmX6 hown hK hP hD hS 0 rfl rfl 2 (by decide) (eT_h hts tw369) (fun _ h9 => h9) rfl hnm rfl (by decide +kernel) rfl rfl (Nat.le_of_ble_eq_true rfl) dX6_init_10 (fun H locs hP hD hS => ?_)
  have hP : va_P D vwCl [(h0, .inr (5, [.int 0, .int 0, .ref q8, .null, .null])), (q8, .inl (cI, 1000, .inl (fun _ => 0)))] H := hP
  have hD : va_D A [(h0, .inr (5, [.int 0, .int 0, .ref q8, .null, .null])), (q8, .inl (cI, 1000, .inl (fun _ => 0)))] := hD
  refine lv_aload_n hx hb dX6_init_13 rfl (lv_at hl 0 rfl) ?_
  refine lv_sipush (v := 1000) hx hb dX6_init_14 (by decide) ?_
  refine va_newa (atype := .int) (a0 := (1000, .inl (fun _ => 0))) (ty := .int) (N' := 1000) hx hb (eT_h hts tw47) rfl hK hP hD hS hA (fun _ => rfl) (by decide) (by decide) (by decide) (Nat.le_of_ble_eq_true rfl) (Nat.le_of_ble_eq_true rfl) dX6_init_17 (fun q17 c9 H hK9 hP hD hS => ?_)
  obtain rfl : cI = c9 := Option.some.inj ((va_nm_int (hK.2 0 _ rfl).2).symm.trans (va_nm_int (hK9.2 3 _ rfl).2))
  have hP : va_P D vwCl [(h0, .inr (5, [.int 0, .int 0, .ref q8, .null, .null])), (q8, .inl (cI, 1000, .inl (fun _ => 0))), (q17, .inl (cI, 1000, .inl (fun _ => 0)))] H := hP
  have hD : va_D A [(h0, .inr (5, [.int 0, .int 0, .ref q8, .null, .null])), (q8, .inl (cI, 1000, .inl (fun _ => 0))), (q17, .inl (cI, 1000, .inl (fun _ => 0)))] := hD
  refine W.widen (k := 2) (n := 2000) (Nat.le_of_ble_eq_true rfl) (Nat.le_of_ble_eq_true rfl) ?_
  refine va_putF (D := D) (ci := 5) (v := .ref q17) (ty := .array .int) (C := RX6) (T := TX6) (N := 5) hx hb hts (fun w h => List.mem_cons_of_mem _ (inX6 w h)) tyX6 tyX6_ok nmX6 hown hK hP hD hS 0 rfl rfl 3 (by decide) (eT_h hts tw370) (fun _ h9 => h9) rfl hnm rfl (by decide +kernel) rfl rfl (Nat.le_of_ble_eq_true rfl) dX6_init_19 (fun H locs hP hD hS => ?_)
  have hP : va_P D vwCl [(h0, .inr (5, [.int 0, .int 0, .ref q8, .ref q17, .null])), (q8, .inl (cI, 1000, .inl (fun _ => 0))), (q17, .inl (cI, 1000, .inl (fun _ => 0)))] H := hP
  have hD : va_D A [(h0, .inr (5, [.int 0, .int 0, .ref q8, .ref q17, .null])), (q8, .inl (cI, 1000, .inl (fun _ => 0))), (q17, .inl (cI, 1000, .inl (fun _ => 0)))] := hD
  refine lv_aload_n hx hb dX6_init_22 rfl (lv_at hl 0 rfl) ?_
  refine lv_sipush (v := 1000) hx hb dX6_init_23 (by decide) ?_
  refine va_newa (atype := .boolean) (a0 := (1000, .inl (fun _ => 0))) (ty := .boolean) (N' := 1000) hx hb (eT_h hts tw48) rfl hK hP hD hS hA (fun _ => rfl) (by decide) (by decide) (by decide) (Nat.le_of_ble_eq_true rfl) (Nat.le_of_ble_eq_true rfl) dX6_init_26 (fun q26 c9 H hK9 hP hD hS => ?_)
  obtain rfl : cZ = c9 := Option.some.inj ((va_nm_boolean (hK.2 1 _ rfl).2).symm.trans (va_nm_boolean (hK9.2 3 _ rfl).2))
  have hP : va_P D vwCl [(h0, .inr (5, [.int 0, .int 0, .ref q8, .ref q17, .null])), (q8, .inl (cI, 1000, .inl (fun _ => 0))), (q17, .inl (cI, 1000, .inl (fun _ => 0))), (q26, .inl (cZ, 1000, .inl (fun _ => 0)))] H := hP
  have hD : va_D A [(h0, .inr (5, [.int 0, .int 0, .ref q8, .ref q17, .null])), (q8, .inl (cI, 1000, .inl (fun _ => 0))), (q17, .inl (cI, 1000, .inl (fun _ => 0))), (q26, .inl (cZ, 1000, .inl (fun _ => 0)))] := hD
  refine W.widen (k := 3) (n := 3000) (Nat.le_of_ble_eq_true rfl) (Nat.le_of_ble_eq_true rfl) ?_
  refine va_putF (D := D) (ci := 5) (v := .ref q26) (ty := .array .boolean) (C := RX6) (T := TX6) (N := 5) hx hb hts (fun w h => List.mem_cons_of_mem _ (inX6 w h)) tyX6 tyX6_ok nmX6 hown hK hP hD hS 0 rfl rfl 4 (by decide) (eT_h hts tw371) (fun _ h9 => h9) rfl hnm rfl (by decide +kernel) rfl rfl (Nat.le_of_ble_eq_true rfl) dX6_init_28 (fun H locs hP hD hS => ?_)
  have hP : va_P D vwCl [(h0, .inr (5, [.int 0, .int 0, .ref q8, .ref q17, .ref q26])), (q8, .inl (cI, 1000, .inl (fun _ => 0))), (q17, .inl (cI, 1000, .inl (fun _ => 0))), (q26, .inl (cZ, 1000, .inl (fun _ => 0)))] H := hP
  have hD : va_D A [(h0, .inr (5, [.int 0, .int 0, .ref q8, .ref q17, .ref q26])), (q8, .inl (cI, 1000, .inl (fun _ => 0))), (q17, .inl (cI, 1000, .inl (fun _ => 0))), (q26, .inl (cZ, 1000, .inl (fun _ => 0)))] := hD
  exact en_vret hx hb hr hlk hP hD hS ⟨q8, q17, q26, rfl⟩ dX6_init_31
set_option maxHeartbeats 4000000 in
set_option maxRecDepth 100000 in
theorem n_X0_init (l : Launch) (D : va_G) (cI cZ cJ : ClassId) (h0 sz : Nat) (ru : Nat) : en_M l yX0_init (Cond.code yX0_init cX0_init 2 none :: eT) ({ frames := 1, cells := 1, slots := 1001, locals := 12 }) D (eTy cI cZ cJ) [.ref h0, .ref ru] [(h0, .inr (0, [.null, .int 0, .null]))] sz (fun W9 => ∃ q8 : Nat, W9 = [(h0, .inr (0, [.ref q8, .int 1, .ref ru])), (q8, .inl (cZ, 1001, .inl (fun _ => 0)))]) 1 1001 := by
  refine en_of (cc := cX0_init) (maxL := 2) (by decide) rfl rfl (Nat.le_of_ble_eq_true rfl) ?_
  intro p e s m args below meth c ls A hx hb hr hts hown hlk hml hnm hP hK hC hD hA hl
  have hown : s.vm.findClass RX0 = some m.cls := hown
  have hl : lv_has ls 2 [(0, .ref h0), (1, .ref ru)] := hl
  have hS : va_S A s.heap s.heap [] := va_S.rf
  refine lv_aload_n hx hb dX0_init_0 rfl (lv_at hl 0 rfl) ?_
  refine W.objInit hx hb hown (eT_h hts tw76) (eT_h hts tw19) (eT_h hts tw20) rfl (by rw [hml]; exact hl.1) rfl dX0_init_1 (Nat.le_of_ble_eq_true rfl) (Nat.le_of_ble_eq_true rfl) ?_
  refine W.eq (g2 := F0 m 4 ls []) rfl ?_
  refine lv_aload_n hx hb dX0_init_4 rfl (lv_at hl 0 rfl) ?_
  refine lv_sipush (v := 1001) hx hb dX0_init_5 (by decide) ?_
  refine va_newa (atype := .boolean) (a0 := (1001, .inl (fun _ => 0))) (ty := .boolean) (N' := 1001) hx hb (eT_h hts tw48) rfl hK hP hD hS hA (fun _ => rfl) (by decide) (by decide) (by decide) (Nat.le_of_ble_eq_true rfl) (Nat.le_of_ble_eq_true rfl) dX0_init_8 (fun q8 c9 H hK9 hP hD hS => ?_)
  obtain rfl : cZ = c9 := Option.some.inj ((va_nm_boolean (hK.2 1 _ rfl).2).symm.trans (va_nm_boolean (hK9.2 3 _ rfl).2))
  have hP : va_P D vwCl [(h0, .inr (0, [.null, .int 0, .null])), (q8, .inl (cZ, 1001, .inl (fun _ => 0)))] H := hP
  have hD : va_D A [(h0, .inr (0, [.null, .int 0, .null])), (q8, .inl (cZ, 1001, .inl (fun _ => 0)))] := hD
  refine W.widen (k := 1) (n := 1001) (Nat.le_of_ble_eq_true rfl) (Nat.le_of_ble_eq_true rfl) ?_
  refine va_putF (D := D) (ci := 0) (v := .ref q8) (ty := .array .boolean) (C := RX0) (T := TX0) (N := 3) hx hb hts (fun w h => List.mem_cons_of_mem _ (inX0 w h)) tyX0 tyX0_ok nmX0 hown hK hP hD hS 0 rfl rfl 0 (by decide) (eT_h hts tw77) (fun _ h9 => h9) rfl hnm rfl (by decide +kernel) rfl rfl (Nat.le_of_ble_eq_true rfl) dX0_init_10 (fun H locs hP hD hS => ?_)
  have hP : va_P D vwCl [(h0, .inr (0, [.ref q8, .int 0, .null])), (q8, .inl (cZ, 1001, .inl (fun _ => 0)))] H := hP
  have hD : va_D A [(h0, .inr (0, [.ref q8, .int 0, .null])), (q8, .inl (cZ, 1001, .inl (fun _ => 0)))] := hD
  refine lv_aload_n hx hb dX0_init_13 rfl (lv_at hl 0 rfl) ?_
  refine lv_iconst (v := 1) hx hb dX0_init_14 (by decide) ?_
  refine va_put (D := D) (ci := 0) (v := .int 1) (ty := .boolean) (C := RX0) (T := TX0) (N := 3) hx hb hts (fun w h => List.mem_cons_of_mem _ (inX0 w h)) tyX0 tyX0_ok nmX0 hown hK hP hD hS 0 rfl rfl 1 (by decide) (eT_h hts tw79) (fun _ h9 => h9) rfl (by decide +kernel) rfl rfl (Nat.le_of_ble_eq_true rfl) dX0_init_15 (fun H locs hP hD hS => ?_)
  have hP : va_P D vwCl [(h0, .inr (0, [.ref q8, .int 1, .null])), (q8, .inl (cZ, 1001, .inl (fun _ => 0)))] H := hP
  have hD : va_D A [(h0, .inr (0, [.ref q8, .int 1, .null])), (q8, .inl (cZ, 1001, .inl (fun _ => 0)))] := hD
  refine lv_aload_n hx hb dX0_init_18 rfl (lv_at hl 0 rfl) ?_
  refine lv_aload_n hx hb dX0_init_19 rfl (lv_at hl 1 rfl) ?_
  refine va_putF (D := D) (ci := 0) (v := .ref ru) (ty := .object "EdgeFinder$Rules") (C := RX0) (T := TX0) (N := 3) hx hb hts (fun w h => List.mem_cons_of_mem _ (inX0 w h)) tyX0 tyX0_ok nmX0 hown hK hP hD hS 0 rfl rfl 2 (by decide) (eT_h hts tw81) (fun _ h9 => h9) rfl hnm rfl (by decide +kernel) rfl rfl (Nat.le_of_ble_eq_true rfl) dX0_init_20 (fun H locs hP hD hS => ?_)
  have hP : va_P D vwCl [(h0, .inr (0, [.ref q8, .int 1, .ref ru])), (q8, .inl (cZ, 1001, .inl (fun _ => 0)))] H := hP
  have hD : va_D A [(h0, .inr (0, [.ref q8, .int 1, .ref ru])), (q8, .inl (cZ, 1001, .inl (fun _ => 0)))] := hD
  exact en_vret hx hb hr hlk hP hD hS ⟨q8, rfl⟩ dX0_init_23
set_option maxHeartbeats 4000000 in
set_option maxRecDepth 100000 in
theorem n_X5_init (l : Launch) (D : va_G) (cI cZ cJ : ClassId) (h0 sz : Nat) : en_M l yX5_init (Cond.code yX5_init cX5_init 1 none :: eT) ({ frames := 3, cells := 10, slots := 5020, locals := 52 }) D (eTy cI cZ cJ) [.ref h0] [(h0, .inr (4, [.null, .null, .null]))] sz (fun W9 => ∃ q5 q9_0 q9_1 q9_2 q16 q20 q27_0 q34 q38 q45_0 : Nat, W9 = [(h0, .inr (4, [.ref q5, .ref q16, .ref q34])), (q5, .inr (2, [.ref q9_0, .ref q9_1, .ref q9_2, .int 0])), (q9_0, .inl (cI, 1000, .inl (fun _ => 0))), (q9_1, .inl (cI, 1000, .inl (fun _ => 0))), (q9_2, .inl (cZ, 1000, .inl (fun _ => 0))), (q20, .inr (1, [.int (-1), .int 0, .int 0, .int 0])), (q16, .inr (0, [.ref q27_0, .int 1, .ref q20])), (q27_0, .inl (cZ, 1001, .inl (fun _ => 0))), (q38, .inr (3, [.int (-1), .int (-1), .int (-1), .int 0])), (q34, .inr (0, [.ref q45_0, .int 1, .ref q38])), (q45_0, .inl (cZ, 1001, .inl (fun _ => 0)))]) 10 5020 := by
  refine en_of (cc := cX5_init) (maxL := 1) (by decide) rfl rfl (Nat.le_of_ble_eq_true rfl) ?_
  intro p e s m args below meth c ls A hx hb hr hts hown hlk hml hnm hP hK hC hD hA hl
  have hown : s.vm.findClass RX5 = some m.cls := hown
  have hl : lv_has ls 1 [(0, .ref h0)] := hl
  have hS : va_S A s.heap s.heap [] := va_S.rf
  refine lv_aload_n hx hb dX5_init_0 rfl (lv_at hl 0 rfl) ?_
  refine W.objInit hx hb hown (eT_h hts tw18) (eT_h hts tw19) (eT_h hts tw20) rfl (by rw [hml]; exact hl.1) rfl dX5_init_1 (Nat.le_of_ble_eq_true rfl) (Nat.le_of_ble_eq_true rfl) ?_
  refine W.eq (g2 := F0 m 4 ls []) rfl ?_
  refine lv_aload_n hx hb dX5_init_4 rfl (lv_at hl 0 rfl) ?_
  refine va_new (ci := 2) (fs := [.null, .null, .null, .int 0]) (C := RX2) (T := TX2) (N := 4) hx hb hts (fun w h => List.mem_cons_of_mem _ (inX2 w h)) tyX2 tyX2_ok hown (eT_h hts tw21) (eT_h hts tw22) (eT_h hts tw2) hK hP hD hS hA rfl (by intro j hj; match j, hj with | 0, _ => rfl | 1, _ => rfl | 2, _ => rfl | 3, _ => rfl) (Nat.le_of_ble_eq_true rfl) (Nat.le_of_ble_eq_true rfl) dX5_init_5 (fun q5 H hP hD hS => ?_)
  have hP : va_P D vwCl [(h0, .inr (4, [.null, .null, .null])), (q5, .inr (2, [.null, .null, .null, .int 0]))] H := hP
  have hD : va_D A [(h0, .inr (4, [.null, .null, .null])), (q5, .inr (2, [.null, .null, .null, .int 0]))] := hD
  refine W.widen (k := 1) (n := 4) (Nat.le_of_ble_eq_true rfl) (Nat.le_of_ble_eq_true rfl) ?_
  refine lv_dup hx hb dX5_init_8 rfl ?_
  have hPc := hP.sub (ws' := [(q5, .inr (2, [.null, .null, .null, .int 0]))]) [1] rfl
  have hFc := va_free (wc := [(q5, .inr (2, [.null, .null, .null, .int 0]))]) hD hS hA [1] rfl
  refine en_IN (host := RX5) (own := RX5) (b := q5) (av := []) (rest := [.ref q5, .ref h0]) hx hb hml hown hts (fun w h => List.mem_cons_of_mem _ h) hl.1 (n_X2_init l D cI cZ cJ q5 H.size) tw25 tw2 hC.1 tw24 rfl yd_X2_init rfl rfl ⟨Nat.le_of_ble_eq_true rfl, Nat.le_of_ble_eq_true rfl⟩ hPc hK hC rfl rfl (Nat.le_of_ble_eq_true rfl) ⟨Nat.le_of_ble_eq_true rfl, Nat.le_of_ble_eq_true rfl⟩ hS hFc dX5_init_9 (fun H1 locs hB hS hz1 hk1 => ?_)
  obtain ⟨W9, hG, hP1, hD1⟩ := hB
  obtain ⟨q9_0, q9_1, q9_2, rfl⟩ := hG
  obtain ⟨hP, hD⟩ := va_join (wr := [(h0, .inr (4, [.null, .null, .null]))]) (w1 := [(q5, .inr (2, [.ref q9_0, .ref q9_1, .ref q9_2, .int 0])), (q9_0, .inl (cI, 1000, .inl (fun _ => 0))), (q9_1, .inl (cI, 1000, .inl (fun _ => 0))), (q9_2, .inl (cZ, 1000, .inl (fun _ => 0)))]) hP hD [1] [0] rfl rfl (by decide) (by decide) hk1 hFc hP1 hD1
  clear hPc hFc hP1 hD1 hk1 hz1
  generalize H1 = H at hP hS ⊢
  have hP : va_P D vwCl [(h0, .inr (4, [.null, .null, .null])), (q5, .inr (2, [.ref q9_0, .ref q9_1, .ref q9_2, .int 0])), (q9_0, .inl (cI, 1000, .inl (fun _ => 0))), (q9_1, .inl (cI, 1000, .inl (fun _ => 0))), (q9_2, .inl (cZ, 1000, .inl (fun _ => 0)))] H := hP
  have hD : va_D A [(h0, .inr (4, [.null, .null, .null])), (q5, .inr (2, [.ref q9_0, .ref q9_1, .ref q9_2, .int 0])), (q9_0, .inl (cI, 1000, .inl (fun _ => 0))), (q9_1, .inl (cI, 1000, .inl (fun _ => 0))), (q9_2, .inl (cZ, 1000, .inl (fun _ => 0)))] := hD
  refine W.widen (k := 4) (n := 3004) (Nat.le_of_ble_eq_true rfl) (Nat.le_of_ble_eq_true rfl) ?_
  refine va_putF (D := D) (ci := 4) (v := .ref q5) (ty := .object "EdgeFinder$Row") (C := RX5) (T := TX5) (N := 3) hx hb hts (fun w h => List.mem_cons_of_mem _ (inX5 w h)) tyX5 tyX5_ok nmX5 hown hK hP hD hS 0 rfl rfl 0 (by decide) (eT_h hts tw108) (fun _ h9 => h9) rfl hnm rfl (by decide +kernel) rfl rfl (Nat.le_of_ble_eq_true rfl) dX5_init_12 (fun H locs hP hD hS => ?_)
  have hP : va_P D vwCl [(h0, .inr (4, [.ref q5, .null, .null])), (q5, .inr (2, [.ref q9_0, .ref q9_1, .ref q9_2, .int 0])), (q9_0, .inl (cI, 1000, .inl (fun _ => 0))), (q9_1, .inl (cI, 1000, .inl (fun _ => 0))), (q9_2, .inl (cZ, 1000, .inl (fun _ => 0)))] H := hP
  have hD : va_D A [(h0, .inr (4, [.ref q5, .null, .null])), (q5, .inr (2, [.ref q9_0, .ref q9_1, .ref q9_2, .int 0])), (q9_0, .inl (cI, 1000, .inl (fun _ => 0))), (q9_1, .inl (cI, 1000, .inl (fun _ => 0))), (q9_2, .inl (cZ, 1000, .inl (fun _ => 0)))] := hD
  refine lv_aload_n hx hb dX5_init_15 rfl (lv_at hl 0 rfl) ?_
  refine va_new (ci := 0) (fs := [.null, .int 0, .null]) (C := RX0) (T := TX0) (N := 3) hx hb hts (fun w h => List.mem_cons_of_mem _ (inX0 w h)) tyX0 tyX0_ok hown (eT_h hts tw49) (eT_h hts tw50) (eT_h hts tw3) hK hP hD hS hA rfl (by intro j hj; match j, hj with | 0, _ => rfl | 1, _ => rfl | 2, _ => rfl) (Nat.le_of_ble_eq_true rfl) (Nat.le_of_ble_eq_true rfl) dX5_init_16 (fun q16 H hP hD hS => ?_)
  have hP : va_P D vwCl [(h0, .inr (4, [.ref q5, .null, .null])), (q5, .inr (2, [.ref q9_0, .ref q9_1, .ref q9_2, .int 0])), (q9_0, .inl (cI, 1000, .inl (fun _ => 0))), (q9_1, .inl (cI, 1000, .inl (fun _ => 0))), (q9_2, .inl (cZ, 1000, .inl (fun _ => 0))), (q16, .inr (0, [.null, .int 0, .null]))] H := hP
  have hD : va_D A [(h0, .inr (4, [.ref q5, .null, .null])), (q5, .inr (2, [.ref q9_0, .ref q9_1, .ref q9_2, .int 0])), (q9_0, .inl (cI, 1000, .inl (fun _ => 0))), (q9_1, .inl (cI, 1000, .inl (fun _ => 0))), (q9_2, .inl (cZ, 1000, .inl (fun _ => 0))), (q16, .inr (0, [.null, .int 0, .null]))] := hD
  refine W.widen (k := 5) (n := 3007) (Nat.le_of_ble_eq_true rfl) (Nat.le_of_ble_eq_true rfl) ?_
  refine lv_dup hx hb dX5_init_19 rfl ?_
  refine va_new (ci := 1) (fs := [.int 0, .int 0, .int 0, .int 0]) (C := RX1) (T := TX1) (N := 4) hx hb hts (fun w h => List.mem_cons_of_mem _ (inX1 w h)) tyX1 tyX1_ok hown (eT_h hts tw51) (eT_h hts tw52) (eT_h hts tw5) hK hP hD hS hA rfl (by intro j hj; match j, hj with | 0, _ => rfl | 1, _ => rfl | 2, _ => rfl | 3, _ => rfl) (Nat.le_of_ble_eq_true rfl) (Nat.le_of_ble_eq_true rfl) dX5_init_20 (fun q20 H hP hD hS => ?_)
  have hP : va_P D vwCl [(h0, .inr (4, [.ref q5, .null, .null])), (q5, .inr (2, [.ref q9_0, .ref q9_1, .ref q9_2, .int 0])), (q9_0, .inl (cI, 1000, .inl (fun _ => 0))), (q9_1, .inl (cI, 1000, .inl (fun _ => 0))), (q9_2, .inl (cZ, 1000, .inl (fun _ => 0))), (q16, .inr (0, [.null, .int 0, .null])), (q20, .inr (1, [.int 0, .int 0, .int 0, .int 0]))] H := hP
  have hD : va_D A [(h0, .inr (4, [.ref q5, .null, .null])), (q5, .inr (2, [.ref q9_0, .ref q9_1, .ref q9_2, .int 0])), (q9_0, .inl (cI, 1000, .inl (fun _ => 0))), (q9_1, .inl (cI, 1000, .inl (fun _ => 0))), (q9_2, .inl (cZ, 1000, .inl (fun _ => 0))), (q16, .inr (0, [.null, .int 0, .null])), (q20, .inr (1, [.int 0, .int 0, .int 0, .int 0]))] := hD
  refine W.widen (k := 6) (n := 3011) (Nat.le_of_ble_eq_true rfl) (Nat.le_of_ble_eq_true rfl) ?_
  refine lv_dup hx hb dX5_init_23 rfl ?_
  have hPc := hP.sub (ws' := [(q20, .inr (1, [.int 0, .int 0, .int 0, .int 0]))]) [6] rfl
  have hFc := va_free (wc := [(q20, .inr (1, [.int 0, .int 0, .int 0, .int 0]))]) hD hS hA [6] rfl
  refine en_IN (host := RX5) (own := RX5) (b := q20) (av := []) (rest := [.ref q20, .ref q16, .ref q16, .ref h0]) hx hb hml hown hts (fun w h => List.mem_cons_of_mem _ h) hl.1 (n_X1_init l D cI cZ cJ q20 H.size) tw55 tw5 hC.2.1 tw54 rfl yd_X1_init rfl rfl ⟨Nat.le_of_ble_eq_true rfl, Nat.le_of_ble_eq_true rfl⟩ hPc hK hC rfl rfl (Nat.le_of_ble_eq_true rfl) ⟨Nat.le_of_ble_eq_true rfl, Nat.le_of_ble_eq_true rfl⟩ hS hFc dX5_init_24 (fun H1 locs hB hS hz1 hk1 => ?_)
  obtain ⟨W9, hG, hP1, hD1⟩ := hB
  obtain rfl := hG
  obtain ⟨hP, hD⟩ := va_join (wr := [(h0, .inr (4, [.ref q5, .null, .null])), (q5, .inr (2, [.ref q9_0, .ref q9_1, .ref q9_2, .int 0])), (q9_0, .inl (cI, 1000, .inl (fun _ => 0))), (q9_1, .inl (cI, 1000, .inl (fun _ => 0))), (q9_2, .inl (cZ, 1000, .inl (fun _ => 0))), (q16, .inr (0, [.null, .int 0, .null]))]) (w1 := [(q20, .inr (1, [.int (-1), .int 0, .int 0, .int 0]))]) hP hD [6] [0, 1, 2, 3, 4, 5] rfl rfl (by decide) (by decide) hk1 hFc hP1 hD1
  clear hPc hFc hP1 hD1 hk1 hz1
  generalize H1 = H at hP hS ⊢
  have hP : va_P D vwCl [(h0, .inr (4, [.ref q5, .null, .null])), (q5, .inr (2, [.ref q9_0, .ref q9_1, .ref q9_2, .int 0])), (q9_0, .inl (cI, 1000, .inl (fun _ => 0))), (q9_1, .inl (cI, 1000, .inl (fun _ => 0))), (q9_2, .inl (cZ, 1000, .inl (fun _ => 0))), (q16, .inr (0, [.null, .int 0, .null])), (q20, .inr (1, [.int (-1), .int 0, .int 0, .int 0]))] H := hP
  have hD : va_D A [(h0, .inr (4, [.ref q5, .null, .null])), (q5, .inr (2, [.ref q9_0, .ref q9_1, .ref q9_2, .int 0])), (q9_0, .inl (cI, 1000, .inl (fun _ => 0))), (q9_1, .inl (cI, 1000, .inl (fun _ => 0))), (q9_2, .inl (cZ, 1000, .inl (fun _ => 0))), (q16, .inr (0, [.null, .int 0, .null])), (q20, .inr (1, [.int (-1), .int 0, .int 0, .int 0]))] := hD
  refine W.widen (k := 6) (n := 3011) (Nat.le_of_ble_eq_true rfl) (Nat.le_of_ble_eq_true rfl) ?_
  have hPc := hP.sub (ws' := [(q16, .inr (0, [.null, .int 0, .null]))]) [5] rfl
  have hFc := va_free (wc := [(q16, .inr (0, [.null, .int 0, .null]))]) hD hS hA [5] rfl
  refine en_I (own := RX5) (b := q16) (av := [.ref q20]) (rest := [.ref q16, .ref h0]) hx hb hml hown hts (fun w h => List.mem_cons_of_mem _ h) hl.1 (n_X0_init l D cI cZ cJ q16 H.size q20) tw75 tw3 tw73 tw74 rfl yd_X0_init rfl rfl ⟨Nat.le_of_ble_eq_true rfl, Nat.le_of_ble_eq_true rfl⟩ hPc hK hC rfl rfl (Nat.le_of_ble_eq_true rfl) ⟨Nat.le_of_ble_eq_true rfl, Nat.le_of_ble_eq_true rfl⟩ hS hFc dX5_init_27 (fun H1 locs hB hS hz1 hk1 => ?_)
  obtain ⟨W9, hG, hP1, hD1⟩ := hB
  obtain ⟨q27_0, rfl⟩ := hG
  obtain ⟨hP, hD⟩ := va_join (wr := [(h0, .inr (4, [.ref q5, .null, .null])), (q5, .inr (2, [.ref q9_0, .ref q9_1, .ref q9_2, .int 0])), (q9_0, .inl (cI, 1000, .inl (fun _ => 0))), (q9_1, .inl (cI, 1000, .inl (fun _ => 0))), (q9_2, .inl (cZ, 1000, .inl (fun _ => 0))), (q20, .inr (1, [.int (-1), .int 0, .int 0, .int 0]))]) (w1 := [(q16, .inr (0, [.ref q27_0, .int 1, .ref q20])), (q27_0, .inl (cZ, 1001, .inl (fun _ => 0)))]) hP hD [5] [0, 1, 2, 3, 4, 6] rfl rfl (by decide) (by decide) hk1 hFc hP1 hD1
  clear hPc hFc hP1 hD1 hk1 hz1
  generalize H1 = H at hP hS ⊢
  have hP : va_P D vwCl [(h0, .inr (4, [.ref q5, .null, .null])), (q5, .inr (2, [.ref q9_0, .ref q9_1, .ref q9_2, .int 0])), (q9_0, .inl (cI, 1000, .inl (fun _ => 0))), (q9_1, .inl (cI, 1000, .inl (fun _ => 0))), (q9_2, .inl (cZ, 1000, .inl (fun _ => 0))), (q20, .inr (1, [.int (-1), .int 0, .int 0, .int 0])), (q16, .inr (0, [.ref q27_0, .int 1, .ref q20])), (q27_0, .inl (cZ, 1001, .inl (fun _ => 0)))] H := hP
  have hD : va_D A [(h0, .inr (4, [.ref q5, .null, .null])), (q5, .inr (2, [.ref q9_0, .ref q9_1, .ref q9_2, .int 0])), (q9_0, .inl (cI, 1000, .inl (fun _ => 0))), (q9_1, .inl (cI, 1000, .inl (fun _ => 0))), (q9_2, .inl (cZ, 1000, .inl (fun _ => 0))), (q20, .inr (1, [.int (-1), .int 0, .int 0, .int 0])), (q16, .inr (0, [.ref q27_0, .int 1, .ref q20])), (q27_0, .inl (cZ, 1001, .inl (fun _ => 0)))] := hD
  refine W.widen (k := 7) (n := 4012) (Nat.le_of_ble_eq_true rfl) (Nat.le_of_ble_eq_true rfl) ?_
  refine va_putF (D := D) (ci := 4) (v := .ref q16) (ty := .object "EdgeFinder$Edges") (C := RX5) (T := TX5) (N := 3) hx hb hts (fun w h => List.mem_cons_of_mem _ (inX5 w h)) tyX5 tyX5_ok nmX5 hown hK hP hD hS 0 rfl rfl 1 (by decide) (eT_h hts tw109) (fun _ h9 => h9) rfl hnm rfl (by decide +kernel) rfl rfl (Nat.le_of_ble_eq_true rfl) dX5_init_30 (fun H locs hP hD hS => ?_)
  have hP : va_P D vwCl [(h0, .inr (4, [.ref q5, .ref q16, .null])), (q5, .inr (2, [.ref q9_0, .ref q9_1, .ref q9_2, .int 0])), (q9_0, .inl (cI, 1000, .inl (fun _ => 0))), (q9_1, .inl (cI, 1000, .inl (fun _ => 0))), (q9_2, .inl (cZ, 1000, .inl (fun _ => 0))), (q20, .inr (1, [.int (-1), .int 0, .int 0, .int 0])), (q16, .inr (0, [.ref q27_0, .int 1, .ref q20])), (q27_0, .inl (cZ, 1001, .inl (fun _ => 0)))] H := hP
  have hD : va_D A [(h0, .inr (4, [.ref q5, .ref q16, .null])), (q5, .inr (2, [.ref q9_0, .ref q9_1, .ref q9_2, .int 0])), (q9_0, .inl (cI, 1000, .inl (fun _ => 0))), (q9_1, .inl (cI, 1000, .inl (fun _ => 0))), (q9_2, .inl (cZ, 1000, .inl (fun _ => 0))), (q20, .inr (1, [.int (-1), .int 0, .int 0, .int 0])), (q16, .inr (0, [.ref q27_0, .int 1, .ref q20])), (q27_0, .inl (cZ, 1001, .inl (fun _ => 0)))] := hD
  refine lv_aload_n hx hb dX5_init_33 rfl (lv_at hl 0 rfl) ?_
  refine va_new (ci := 0) (fs := [.null, .int 0, .null]) (C := RX0) (T := TX0) (N := 3) hx hb hts (fun w h => List.mem_cons_of_mem _ (inX0 w h)) tyX0 tyX0_ok hown (eT_h hts tw49) (eT_h hts tw50) (eT_h hts tw3) hK hP hD hS hA rfl (by intro j hj; match j, hj with | 0, _ => rfl | 1, _ => rfl | 2, _ => rfl) (Nat.le_of_ble_eq_true rfl) (Nat.le_of_ble_eq_true rfl) dX5_init_34 (fun q34 H hP hD hS => ?_)
  have hP : va_P D vwCl [(h0, .inr (4, [.ref q5, .ref q16, .null])), (q5, .inr (2, [.ref q9_0, .ref q9_1, .ref q9_2, .int 0])), (q9_0, .inl (cI, 1000, .inl (fun _ => 0))), (q9_1, .inl (cI, 1000, .inl (fun _ => 0))), (q9_2, .inl (cZ, 1000, .inl (fun _ => 0))), (q20, .inr (1, [.int (-1), .int 0, .int 0, .int 0])), (q16, .inr (0, [.ref q27_0, .int 1, .ref q20])), (q27_0, .inl (cZ, 1001, .inl (fun _ => 0))), (q34, .inr (0, [.null, .int 0, .null]))] H := hP
  have hD : va_D A [(h0, .inr (4, [.ref q5, .ref q16, .null])), (q5, .inr (2, [.ref q9_0, .ref q9_1, .ref q9_2, .int 0])), (q9_0, .inl (cI, 1000, .inl (fun _ => 0))), (q9_1, .inl (cI, 1000, .inl (fun _ => 0))), (q9_2, .inl (cZ, 1000, .inl (fun _ => 0))), (q20, .inr (1, [.int (-1), .int 0, .int 0, .int 0])), (q16, .inr (0, [.ref q27_0, .int 1, .ref q20])), (q27_0, .inl (cZ, 1001, .inl (fun _ => 0))), (q34, .inr (0, [.null, .int 0, .null]))] := hD
  refine W.widen (k := 8) (n := 4015) (Nat.le_of_ble_eq_true rfl) (Nat.le_of_ble_eq_true rfl) ?_
  refine lv_dup hx hb dX5_init_37 rfl ?_
  refine va_new (ci := 3) (fs := [.int 0, .int 0, .int 0, .int 0]) (C := RX4) (T := TX4) (N := 4) hx hb hts (fun w h => List.mem_cons_of_mem _ (inX4 w h)) tyX4 tyX4_ok hown (eT_h hts tw89) (eT_h hts tw90) (eT_h hts tw6) hK hP hD hS hA rfl (by intro j hj; match j, hj with | 0, _ => rfl | 1, _ => rfl | 2, _ => rfl | 3, _ => rfl) (Nat.le_of_ble_eq_true rfl) (Nat.le_of_ble_eq_true rfl) dX5_init_38 (fun q38 H hP hD hS => ?_)
  have hP : va_P D vwCl [(h0, .inr (4, [.ref q5, .ref q16, .null])), (q5, .inr (2, [.ref q9_0, .ref q9_1, .ref q9_2, .int 0])), (q9_0, .inl (cI, 1000, .inl (fun _ => 0))), (q9_1, .inl (cI, 1000, .inl (fun _ => 0))), (q9_2, .inl (cZ, 1000, .inl (fun _ => 0))), (q20, .inr (1, [.int (-1), .int 0, .int 0, .int 0])), (q16, .inr (0, [.ref q27_0, .int 1, .ref q20])), (q27_0, .inl (cZ, 1001, .inl (fun _ => 0))), (q34, .inr (0, [.null, .int 0, .null])), (q38, .inr (3, [.int 0, .int 0, .int 0, .int 0]))] H := hP
  have hD : va_D A [(h0, .inr (4, [.ref q5, .ref q16, .null])), (q5, .inr (2, [.ref q9_0, .ref q9_1, .ref q9_2, .int 0])), (q9_0, .inl (cI, 1000, .inl (fun _ => 0))), (q9_1, .inl (cI, 1000, .inl (fun _ => 0))), (q9_2, .inl (cZ, 1000, .inl (fun _ => 0))), (q20, .inr (1, [.int (-1), .int 0, .int 0, .int 0])), (q16, .inr (0, [.ref q27_0, .int 1, .ref q20])), (q27_0, .inl (cZ, 1001, .inl (fun _ => 0))), (q34, .inr (0, [.null, .int 0, .null])), (q38, .inr (3, [.int 0, .int 0, .int 0, .int 0]))] := hD
  refine W.widen (k := 9) (n := 4019) (Nat.le_of_ble_eq_true rfl) (Nat.le_of_ble_eq_true rfl) ?_
  refine lv_dup hx hb dX5_init_41 rfl ?_
  have hPc := hP.sub (ws' := [(q38, .inr (3, [.int 0, .int 0, .int 0, .int 0]))]) [9] rfl
  have hFc := va_free (wc := [(q38, .inr (3, [.int 0, .int 0, .int 0, .int 0]))]) hD hS hA [9] rfl
  refine en_IN (host := RX5) (own := RX5) (b := q38) (av := []) (rest := [.ref q38, .ref q34, .ref q34, .ref h0]) hx hb hml hown hts (fun w h => List.mem_cons_of_mem _ h) hl.1 (n_X4_init l D cI cZ cJ q38 H.size) tw93 tw6 hC.2.2.2.1 tw92 rfl yd_X4_init rfl rfl ⟨Nat.le_of_ble_eq_true rfl, Nat.le_of_ble_eq_true rfl⟩ hPc hK hC rfl rfl (Nat.le_of_ble_eq_true rfl) ⟨Nat.le_of_ble_eq_true rfl, Nat.le_of_ble_eq_true rfl⟩ hS hFc dX5_init_42 (fun H1 locs hB hS hz1 hk1 => ?_)
  obtain ⟨W9, hG, hP1, hD1⟩ := hB
  obtain rfl := hG
  obtain ⟨hP, hD⟩ := va_join (wr := [(h0, .inr (4, [.ref q5, .ref q16, .null])), (q5, .inr (2, [.ref q9_0, .ref q9_1, .ref q9_2, .int 0])), (q9_0, .inl (cI, 1000, .inl (fun _ => 0))), (q9_1, .inl (cI, 1000, .inl (fun _ => 0))), (q9_2, .inl (cZ, 1000, .inl (fun _ => 0))), (q20, .inr (1, [.int (-1), .int 0, .int 0, .int 0])), (q16, .inr (0, [.ref q27_0, .int 1, .ref q20])), (q27_0, .inl (cZ, 1001, .inl (fun _ => 0))), (q34, .inr (0, [.null, .int 0, .null]))]) (w1 := [(q38, .inr (3, [.int (-1), .int (-1), .int (-1), .int 0]))]) hP hD [9] [0, 1, 2, 3, 4, 5, 6, 7, 8] rfl rfl (by decide) (by decide) hk1 hFc hP1 hD1
  clear hPc hFc hP1 hD1 hk1 hz1
  generalize H1 = H at hP hS ⊢
  have hP : va_P D vwCl [(h0, .inr (4, [.ref q5, .ref q16, .null])), (q5, .inr (2, [.ref q9_0, .ref q9_1, .ref q9_2, .int 0])), (q9_0, .inl (cI, 1000, .inl (fun _ => 0))), (q9_1, .inl (cI, 1000, .inl (fun _ => 0))), (q9_2, .inl (cZ, 1000, .inl (fun _ => 0))), (q20, .inr (1, [.int (-1), .int 0, .int 0, .int 0])), (q16, .inr (0, [.ref q27_0, .int 1, .ref q20])), (q27_0, .inl (cZ, 1001, .inl (fun _ => 0))), (q34, .inr (0, [.null, .int 0, .null])), (q38, .inr (3, [.int (-1), .int (-1), .int (-1), .int 0]))] H := hP
  have hD : va_D A [(h0, .inr (4, [.ref q5, .ref q16, .null])), (q5, .inr (2, [.ref q9_0, .ref q9_1, .ref q9_2, .int 0])), (q9_0, .inl (cI, 1000, .inl (fun _ => 0))), (q9_1, .inl (cI, 1000, .inl (fun _ => 0))), (q9_2, .inl (cZ, 1000, .inl (fun _ => 0))), (q20, .inr (1, [.int (-1), .int 0, .int 0, .int 0])), (q16, .inr (0, [.ref q27_0, .int 1, .ref q20])), (q27_0, .inl (cZ, 1001, .inl (fun _ => 0))), (q34, .inr (0, [.null, .int 0, .null])), (q38, .inr (3, [.int (-1), .int (-1), .int (-1), .int 0]))] := hD
  refine W.widen (k := 9) (n := 4019) (Nat.le_of_ble_eq_true rfl) (Nat.le_of_ble_eq_true rfl) ?_
  have hPc := hP.sub (ws' := [(q34, .inr (0, [.null, .int 0, .null]))]) [8] rfl
  have hFc := va_free (wc := [(q34, .inr (0, [.null, .int 0, .null]))]) hD hS hA [8] rfl
  refine en_I (own := RX5) (b := q34) (av := [.ref q38]) (rest := [.ref q34, .ref h0]) hx hb hml hown hts (fun w h => List.mem_cons_of_mem _ h) hl.1 (n_X0_init l D cI cZ cJ q34 H.size q38) tw75 tw3 tw73 tw74 rfl yd_X0_init rfl rfl ⟨Nat.le_of_ble_eq_true rfl, Nat.le_of_ble_eq_true rfl⟩ hPc hK hC rfl rfl (Nat.le_of_ble_eq_true rfl) ⟨Nat.le_of_ble_eq_true rfl, Nat.le_of_ble_eq_true rfl⟩ hS hFc dX5_init_45 (fun H1 locs hB hS hz1 hk1 => ?_)
  obtain ⟨W9, hG, hP1, hD1⟩ := hB
  obtain ⟨q45_0, rfl⟩ := hG
  obtain ⟨hP, hD⟩ := va_join (wr := [(h0, .inr (4, [.ref q5, .ref q16, .null])), (q5, .inr (2, [.ref q9_0, .ref q9_1, .ref q9_2, .int 0])), (q9_0, .inl (cI, 1000, .inl (fun _ => 0))), (q9_1, .inl (cI, 1000, .inl (fun _ => 0))), (q9_2, .inl (cZ, 1000, .inl (fun _ => 0))), (q20, .inr (1, [.int (-1), .int 0, .int 0, .int 0])), (q16, .inr (0, [.ref q27_0, .int 1, .ref q20])), (q27_0, .inl (cZ, 1001, .inl (fun _ => 0))), (q38, .inr (3, [.int (-1), .int (-1), .int (-1), .int 0]))]) (w1 := [(q34, .inr (0, [.ref q45_0, .int 1, .ref q38])), (q45_0, .inl (cZ, 1001, .inl (fun _ => 0)))]) hP hD [8] [0, 1, 2, 3, 4, 5, 6, 7, 9] rfl rfl (by decide) (by decide) hk1 hFc hP1 hD1
  clear hPc hFc hP1 hD1 hk1 hz1
  generalize H1 = H at hP hS ⊢
  have hP : va_P D vwCl [(h0, .inr (4, [.ref q5, .ref q16, .null])), (q5, .inr (2, [.ref q9_0, .ref q9_1, .ref q9_2, .int 0])), (q9_0, .inl (cI, 1000, .inl (fun _ => 0))), (q9_1, .inl (cI, 1000, .inl (fun _ => 0))), (q9_2, .inl (cZ, 1000, .inl (fun _ => 0))), (q20, .inr (1, [.int (-1), .int 0, .int 0, .int 0])), (q16, .inr (0, [.ref q27_0, .int 1, .ref q20])), (q27_0, .inl (cZ, 1001, .inl (fun _ => 0))), (q38, .inr (3, [.int (-1), .int (-1), .int (-1), .int 0])), (q34, .inr (0, [.ref q45_0, .int 1, .ref q38])), (q45_0, .inl (cZ, 1001, .inl (fun _ => 0)))] H := hP
  have hD : va_D A [(h0, .inr (4, [.ref q5, .ref q16, .null])), (q5, .inr (2, [.ref q9_0, .ref q9_1, .ref q9_2, .int 0])), (q9_0, .inl (cI, 1000, .inl (fun _ => 0))), (q9_1, .inl (cI, 1000, .inl (fun _ => 0))), (q9_2, .inl (cZ, 1000, .inl (fun _ => 0))), (q20, .inr (1, [.int (-1), .int 0, .int 0, .int 0])), (q16, .inr (0, [.ref q27_0, .int 1, .ref q20])), (q27_0, .inl (cZ, 1001, .inl (fun _ => 0))), (q38, .inr (3, [.int (-1), .int (-1), .int (-1), .int 0])), (q34, .inr (0, [.ref q45_0, .int 1, .ref q38])), (q45_0, .inl (cZ, 1001, .inl (fun _ => 0)))] := hD
  refine W.widen (k := 10) (n := 5020) (Nat.le_of_ble_eq_true rfl) (Nat.le_of_ble_eq_true rfl) ?_
  refine va_putF (D := D) (ci := 4) (v := .ref q34) (ty := .object "EdgeFinder$Edges") (C := RX5) (T := TX5) (N := 3) hx hb hts (fun w h => List.mem_cons_of_mem _ (inX5 w h)) tyX5 tyX5_ok nmX5 hown hK hP hD hS 0 rfl rfl 2 (by decide) (eT_h hts tw110) (fun _ h9 => h9) rfl hnm rfl (by decide +kernel) rfl rfl (Nat.le_of_ble_eq_true rfl) dX5_init_48 (fun H locs hP hD hS => ?_)
  have hP : va_P D vwCl [(h0, .inr (4, [.ref q5, .ref q16, .ref q34])), (q5, .inr (2, [.ref q9_0, .ref q9_1, .ref q9_2, .int 0])), (q9_0, .inl (cI, 1000, .inl (fun _ => 0))), (q9_1, .inl (cI, 1000, .inl (fun _ => 0))), (q9_2, .inl (cZ, 1000, .inl (fun _ => 0))), (q20, .inr (1, [.int (-1), .int 0, .int 0, .int 0])), (q16, .inr (0, [.ref q27_0, .int 1, .ref q20])), (q27_0, .inl (cZ, 1001, .inl (fun _ => 0))), (q38, .inr (3, [.int (-1), .int (-1), .int (-1), .int 0])), (q34, .inr (0, [.ref q45_0, .int 1, .ref q38])), (q45_0, .inl (cZ, 1001, .inl (fun _ => 0)))] H := hP
  have hD : va_D A [(h0, .inr (4, [.ref q5, .ref q16, .ref q34])), (q5, .inr (2, [.ref q9_0, .ref q9_1, .ref q9_2, .int 0])), (q9_0, .inl (cI, 1000, .inl (fun _ => 0))), (q9_1, .inl (cI, 1000, .inl (fun _ => 0))), (q9_2, .inl (cZ, 1000, .inl (fun _ => 0))), (q20, .inr (1, [.int (-1), .int 0, .int 0, .int 0])), (q16, .inr (0, [.ref q27_0, .int 1, .ref q20])), (q27_0, .inl (cZ, 1001, .inl (fun _ => 0))), (q38, .inr (3, [.int (-1), .int (-1), .int (-1), .int 0])), (q34, .inr (0, [.ref q45_0, .int 1, .ref q38])), (q45_0, .inl (cZ, 1001, .inl (fun _ => 0)))] := hD
  exact en_vret hx hb hr hlk hP hD hS ⟨q5, q9_0, q9_1, q9_2, q16, q20, q27_0, q34, q38, q45_0, rfl⟩ dX5_init_51
