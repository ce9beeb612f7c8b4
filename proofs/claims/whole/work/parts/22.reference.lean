theorem ei_ok_z {z : Int32} {n : Nat} (hn : n ≤ 1000) (h0 : ¬ z < 0) (h : ¬ nI n ≤ z) : ei_ok z (nI n - 1) := by
  obtain ⟨j, hj, rfl⟩ := nI_of h0
  have h2 : j < n := Nat.not_le.mp (fun q => h (nI_le q (by omega)))
  exact ei_ok_p h2 hn
theorem em_bad_f {kd x : Int32} {n : Nat} (h : em_bad kd x n = false) : ei_ok kd 1 ∧ ei_ok x (nI n) := by
  simp only [em_bad, Bool.or_eq_false_iff, decide_eq_false_iff_not] at h
  exact ⟨⟨h.1.1.1, Int32.not_lt.mp h.1.1.2⟩, ⟨h.1.2, Int32.not_lt.mp h.2⟩⟩
theorem em_bad_t {kd x : Int32} {n : Nat} (h : em_bad kd x n = true) : ¬ (ei_ok kd 1 ∧ ei_ok x (nI n)) := by
  rintro ⟨⟨h1, h2⟩, ⟨h3, h4⟩⟩
  simp only [em_bad, Bool.or_eq_true, decide_eq_true_eq] at h
  rcases h with ((h | h) | h) | h
  · exact h1 h
  · exact Int32.not_lt.mpr h2 h
  · exact h3 h
  · exact Int32.not_lt.mpr h4 h

set_option maxHeartbeats 4000000 in
set_option maxRecDepth 100000 in
theorem c_X6_add (l : Launch) (D : va_G) (cI cZ cJ : ClassId) (ad : Nat → Nat) (hJ : eJ ad) (n : Nat) (g : Nat → Int32) (w : Nat → Int32) (P : Nat → Bool) (gm : Nat → Bool) (wm : Nat → Bool) (gs : Bool) (wz : Bool) (gb : Int32) (go : Bool) (gp : Bool) (gj : Bool) (wb : Int32) (wl : Int32) (wk : Int32) (wo : Bool) (fa : Int32) (mn : Nat) (mg : Nat → Int32) (mw : Nat → Int32) (mP : Nat → Bool) (o : Nat → Int64) (x y : Int32) (b : Bool) (hg : ei_ok x 13) (hw0 : ei_ok y 18) (hn : mn < 1000) : ec_M l yX6_add (Cond.code yX6_add cX6_add 4 (some .int) :: eT) ({ frames := 0, cells := 0, slots := 0, locals := 0 }) D (eTy cI cZ cJ) [.ref (ad 11), .int x, .int y, .int (ef_b b)] (cw ad cI cZ cJ n g w P gm wm gs wz gb go gp gj wb wl wk wo fa mn mg mw mP o) (ed (some (.int (nI (mn + 1)))) (cw ad cI cZ cJ n g w P gm wm gs wz gb go gp gj wb wl wk wo 0 (mn + 1) (upd mg mn x) (upd mw mn y) (ef_up mP mn b) o)) (eA ad) := by
  refine ec_of (cc := cX6_add) (maxL := 4) (ret := (some .int)) (by decide) rfl (Nat.le_of_ble_eq_true rfl) ?_
  intro p e s m args below meth c ls hx hb hr hts hown hlk hml hP hK hN hl
  have hown : s.vm.findClass RX6 = some m.cls := hown
  have hl : lv_has ls 4 [(0, .ref (ad 11)), (1, .int x), (2, .int y), (3, .int (ef_b b))] := hl
  have hS : va_S (eA ad) s.heap s.heap [] := va_S.rf
  have hD : va_D (eA ad) (cw ad cI cZ cJ n g w P gm wm gs wz gb go gp gj wb wl wk wo fa mn mg mw mP o) := eD_of hJ rfl
  refine lv_aload_n hx hb dX6_add_0 rfl (lv_at hl 0 rfl) ?_
  refine lv_iconst (v := 0) hx hb dX6_add_1 (by decide) ?_
  refine va_put (D := D) (ci := 5) (v := .int 0) (ty := .int) (C := RX6) (T := TX6) (N := 5) hx hb hts (fun w h => List.mem_cons_of_mem _ (inX6 w h)) tyX6 tyX6_ok nmX6 hown hK hP hD hS 11 rfl rfl 0 (by decide) (eT_h hts tw367) (fun _ h9 => h9) rfl (by decide +kernel) rfl rfl (Nat.le_of_ble_eq_true rfl) dX6_add_2 (fun H locs hP hD hS => ?_)
  have hP : va_P D vwCl (cw ad cI cZ cJ n g w P gm wm gs wz gb go gp gj wb wl wk wo 0 mn mg mw mP o) H := hP
  have hD : va_D (eA ad) (cw ad cI cZ cJ n g w P gm wm gs wz gb go gp gj wb wl wk wo 0 mn mg mw mP o) := hD
  refine lv_iload_n hx hb dX6_add_5 rfl (lv_at hl 1 rfl) ?_
  refine lv_if_lt (tgt := 25) hx hb dX6_add_6 (by decide) (fun h1 => ?_) (fun h1 => ?_)
  · skip
    exact absurd h1 hg.1
  · skip
    refine lv_iload_n hx hb dX6_add_9 rfl (lv_at hl 1 rfl) ?_
    refine lv_bipush (v := 13) hx hb dX6_add_10 (by decide) ?_
    refine lv_icmp_gt (tgt := 25) hx hb dX6_add_12 (by decide) (fun h2 => ?_) (fun h2 => ?_)
    · skip
      exact absurd hg.2 (Int32.not_le.mpr h2)
    · skip
      refine lv_iload_n hx hb dX6_add_15 rfl (lv_at hl 2 rfl) ?_
      refine lv_if_lt (tgt := 25) hx hb dX6_add_16 (by decide) (fun h3 => ?_) (fun h3 => ?_)
      · skip
        exact absurd h3 hw0.1
      · skip
        refine lv_iload_n hx hb dX6_add_19 rfl (lv_at hl 2 rfl) ?_
        refine lv_bipush (v := 18) hx hb dX6_add_20 (by decide) ?_
        refine lv_icmp_le (tgt := 31) hx hb dX6_add_22 (by decide) (fun h4 => ?_) (fun h4 => ?_)
        · skip
          refine lv_aload_n hx hb dX6_add_31 rfl (lv_at hl 0 rfl) ?_
          refine va_get (D := D) (ci := 5) (v := .int (nI mn)) (C := RX6) (T := TX6) (N := 5) hx hb hts (fun w h => List.mem_cons_of_mem _ (inX6 w h)) hown hK hP 11 rfl rfl 1 (by decide) (eT_h hts tw368) (fun _ h9 => h9) rfl dX6_add_32 ?_
          refine lv_sipush (v := 1000) hx hb dX6_add_35 (by decide) ?_
          refine lv_icmp_ne (tgt := 47) hx hb dX6_add_38 (by decide) (fun h5 => ?_) (fun h5 => ?_)
          · skip
            refine lv_aload_n hx hb dX6_add_47 rfl (lv_at hl 0 rfl) ?_
            refine va_get (D := D) (ci := 5) (v := .ref (ad 12)) (C := RX6) (T := TX6) (N := 5) hx hb hts (fun w h => List.mem_cons_of_mem _ (inX6 w h)) hown hK hP 11 rfl rfl 2 (by decide) (eT_h hts tw369) (fun _ h9 => h9) rfl dX6_add_48 ?_
            refine lv_aload_n hx hb dX6_add_51 rfl (lv_at hl 0 rfl) ?_
            refine va_get (D := D) (ci := 5) (v := .int (nI mn)) (C := RX6) (T := TX6) (N := 5) hx hb hts (fun w h => List.mem_cons_of_mem _ (inX6 w h)) hown hK hP 11 rfl rfl 1 (by decide) (eT_h hts tw368) (fun _ h9 => h9) rfl dX6_add_52 ?_
            refine lv_iload_n hx hb dX6_add_55 rfl (lv_at hl 1 rfl) ?_
            refine va_iast hx hb hK hP hD hS 12 0 rfl rfl (vp_in_nI (n := mn) (by omega) (by decide)) dX6_add_56 (fun H locs hP hD hS => ?_)
            rw [nI_clamp (n := mn) (by omega)] at hP hD
            have hP : va_P D vwCl (cw ad cI cZ cJ n g w P gm wm gs wz gb go gp gj wb wl wk wo 0 mn (upd mg mn x) mw mP o) H := hP
            have hD : va_D (eA ad) (cw ad cI cZ cJ n g w P gm wm gs wz gb go gp gj wb wl wk wo 0 mn (upd mg mn x) mw mP o) := hD
            refine lv_aload_n hx hb dX6_add_57 rfl (lv_at hl 0 rfl) ?_
            refine va_get (D := D) (ci := 5) (v := .ref (ad 13)) (C := RX6) (T := TX6) (N := 5) hx hb hts (fun w h => List.mem_cons_of_mem _ (inX6 w h)) hown hK hP 11 rfl rfl 3 (by decide) (eT_h hts tw370) (fun _ h9 => h9) rfl dX6_add_58 ?_
            refine lv_aload_n hx hb dX6_add_61 rfl (lv_at hl 0 rfl) ?_
            refine va_get (D := D) (ci := 5) (v := .int (nI mn)) (C := RX6) (T := TX6) (N := 5) hx hb hts (fun w h => List.mem_cons_of_mem _ (inX6 w h)) hown hK hP 11 rfl rfl 1 (by decide) (eT_h hts tw368) (fun _ h9 => h9) rfl dX6_add_62 ?_
            refine lv_iload_n hx hb dX6_add_65 rfl (lv_at hl 2 rfl) ?_
            refine va_iast hx hb hK hP hD hS 13 0 rfl rfl (vp_in_nI (n := mn) (by omega) (by decide)) dX6_add_66 (fun H locs hP hD hS => ?_)
            rw [nI_clamp (n := mn) (by omega)] at hP hD
            have hP : va_P D vwCl (cw ad cI cZ cJ n g w P gm wm gs wz gb go gp gj wb wl wk wo 0 mn (upd mg mn x) (upd mw mn y) mP o) H := hP
            have hD : va_D (eA ad) (cw ad cI cZ cJ n g w P gm wm gs wz gb go gp gj wb wl wk wo 0 mn (upd mg mn x) (upd mw mn y) mP o) := hD
            refine lv_aload_n hx hb dX6_add_67 rfl (lv_at hl 0 rfl) ?_
            refine va_get (D := D) (ci := 5) (v := .ref (ad 14)) (C := RX6) (T := TX6) (N := 5) hx hb hts (fun w h => List.mem_cons_of_mem _ (inX6 w h)) hown hK hP 11 rfl rfl 4 (by decide) (eT_h hts tw371) (fun _ h9 => h9) rfl dX6_add_68 ?_
            refine lv_aload_n hx hb dX6_add_71 rfl (lv_at hl 0 rfl) ?_
            refine va_get (D := D) (ci := 5) (v := .int (nI mn)) (C := RX6) (T := TX6) (N := 5) hx hb hts (fun w h => List.mem_cons_of_mem _ (inX6 w h)) hown hK hP 11 rfl rfl 1 (by decide) (eT_h hts tw368) (fun _ h9 => h9) rfl dX6_add_72 ?_
            refine lv_iload_n hx hb dX6_add_75 rfl (lv_at hl 3 rfl) ?_
            refine va_zast hx hb hK hP hD hS 14 1 rfl rfl (vp_in_nI (n := mn) (by omega) (by decide)) dX6_add_76 (fun H locs hP hD hS => ?_)
            rw [nI_clamp (n := mn) (by omega), ef_upd] at hP hD
            have hP : va_P D vwCl (cw ad cI cZ cJ n g w P gm wm gs wz gb go gp gj wb wl wk wo 0 mn (upd mg mn x) (upd mw mn y) (ef_up mP mn b) o) H := hP
            have hD : va_D (eA ad) (cw ad cI cZ cJ n g w P gm wm gs wz gb go gp gj wb wl wk wo 0 mn (upd mg mn x) (upd mw mn y) (ef_up mP mn b) o) := hD
            refine lv_aload_n hx hb dX6_add_77 rfl (lv_at hl 0 rfl) ?_
            refine lv_dup hx hb dX6_add_78 rfl ?_
            refine va_get (D := D) (ci := 5) (v := .int (nI mn)) (C := RX6) (T := TX6) (N := 5) hx hb hts (fun w h => List.mem_cons_of_mem _ (inX6 w h)) hown hK hP 11 rfl rfl 1 (by decide) (eT_h hts tw368) (fun _ h9 => h9) rfl dX6_add_79 ?_
            refine lv_iconst (v := 1) hx hb dX6_add_82 (by decide) ?_
            refine lv_iadd hx hb dX6_add_83 ?_
            refine ef_eqi (y := nI (mn + 1)) (nI_add mn 1) ?_
            refine va_put (D := D) (ci := 5) (v := .int (nI (mn + 1))) (ty := .int) (C := RX6) (T := TX6) (N := 5) hx hb hts (fun w h => List.mem_cons_of_mem _ (inX6 w h)) tyX6 tyX6_ok nmX6 hown hK hP hD hS 11 rfl rfl 1 (by decide) (eT_h hts tw368) (fun _ h9 => h9) rfl (by decide +kernel) rfl rfl (Nat.le_of_ble_eq_true rfl) dX6_add_84 (fun H locs hP hD hS => ?_)
            have hP : va_P D vwCl (cw ad cI cZ cJ n g w P gm wm gs wz gb go gp gj wb wl wk wo 0 (mn + 1) (upd mg mn x) (upd mw mn y) (ef_up mP mn b) o) H := hP
            have hD : va_D (eA ad) (cw ad cI cZ cJ n g w P gm wm gs wz gb go gp gj wb wl wk wo 0 (mn + 1) (upd mg mn x) (upd mw mn y) (ef_up mP mn b) o) := hD
            refine lv_aload_n hx hb dX6_add_87 rfl (lv_at hl 0 rfl) ?_
            refine va_get (D := D) (ci := 5) (v := .int (nI (mn + 1))) (C := RX6) (T := TX6) (N := 5) hx hb hts (fun w h => List.mem_cons_of_mem _ (inX6 w h)) hown hK hP 11 rfl rfl 1 (by decide) (eT_h hts tw368) (fun _ h9 => h9) rfl dX6_add_88 ?_
            exact ec_iret hx hb hr hlk hP hS ⟨rfl, rfl⟩ dX6_add_91
          · skip
            exact absurd ((nI_eq (a := mn) (b := 1000) (by omega) (by decide)).mp h5) (by omega)
        · skip
          exact absurd hw0.2 h4

set_option maxHeartbeats 4000000 in
set_option maxRecDepth 100000 in
theorem c_X6_add_bad (l : Launch) (D : va_G) (cI cZ cJ : ClassId) (ad : Nat → Nat) (hJ : eJ ad) (n : Nat) (g : Nat → Int32) (w : Nat → Int32) (P : Nat → Bool) (gm : Nat → Bool) (wm : Nat → Bool) (gs : Bool) (wz : Bool) (gb : Int32) (go : Bool) (gp : Bool) (gj : Bool) (wb : Int32) (wl : Int32) (wk : Int32) (wo : Bool) (fa : Int32) (mn : Nat) (mg : Nat → Int32) (mw : Nat → Int32) (mP : Nat → Bool) (o : Nat → Int64) (x y : Int32) (b : Bool) (hbad : ¬ (ei_ok x 13 ∧ ei_ok y 18)) : ec_M l yX6_add (Cond.code yX6_add cX6_add 4 (some .int) :: eT) ({ frames := 1, cells := 0, slots := 0, locals := 21 }) D (eTy cI cZ cJ) [.ref (ad 11), .int x, .int y, .int (ef_b b)] (cw ad cI cZ cJ n g w P gm wm gs wz gb go gp gj wb wl wk wo fa mn mg mw mP o) (ed (some (.int 0)) (cw ad cI cZ cJ n g w P gm wm gs wz gb go gp gj wb wl wk wo 1 mn mg mw mP o)) (eA ad) := by
  refine ec_of (cc := cX6_add) (maxL := 4) (ret := (some .int)) (by decide) rfl (Nat.le_of_ble_eq_true rfl) ?_
  intro p e s m args below meth c ls hx hb hr hts hown hlk hml hP hK hN hl
  have hown : s.vm.findClass RX6 = some m.cls := hown
  have hl : lv_has ls 4 [(0, .ref (ad 11)), (1, .int x), (2, .int y), (3, .int (ef_b b))] := hl
  have hS : va_S (eA ad) s.heap s.heap [] := va_S.rf
  have hD : va_D (eA ad) (cw ad cI cZ cJ n g w P gm wm gs wz gb go gp gj wb wl wk wo fa mn mg mw mP o) := eD_of hJ rfl
  refine lv_aload_n hx hb dX6_add_0 rfl (lv_at hl 0 rfl) ?_
  refine lv_iconst (v := 0) hx hb dX6_add_1 (by decide) ?_
  refine va_put (D := D) (ci := 5) (v := .int 0) (ty := .int) (C := RX6) (T := TX6) (N := 5) hx hb hts (fun w h => List.mem_cons_of_mem _ (inX6 w h)) tyX6 tyX6_ok nmX6 hown hK hP hD hS 11 rfl rfl 0 (by decide) (eT_h hts tw367) (fun _ h9 => h9) rfl (by decide +kernel) rfl rfl (Nat.le_of_ble_eq_true rfl) dX6_add_2 (fun H locs hP hD hS => ?_)
  have hP : va_P D vwCl (cw ad cI cZ cJ n g w P gm wm gs wz gb go gp gj wb wl wk wo 0 mn mg mw mP o) H := hP
  have hD : va_D (eA ad) (cw ad cI cZ cJ n g w P gm wm gs wz gb go gp gj wb wl wk wo 0 mn mg mw mP o) := hD
  refine lv_iload_n hx hb dX6_add_5 rfl (lv_at hl 1 rfl) ?_
  refine lv_if_lt (tgt := 25) hx hb dX6_add_6 (by decide) (fun h1 => ?_) (fun h1 => ?_)
  · skip
    refine lv_aload_n hx hb dX6_add_25 rfl (lv_at hl 0 rfl) ?_
    refine lv_iconst (v := 1) hx hb dX6_add_26 (by decide) ?_
    refine ec_V (own := RX6) (C := RX6) (b := (ad 11)) (rest := []) hx hb hml hown hts hl.1 (c_X6_fail l D cI cZ cJ ad hJ n g w P gm wm gs wz gb go gp gj wb wl wk wo 0 mn mg mw mP o 1) tw394 tw7 tw391 tw393 ts_X6_fail yd_X6_fail rfl rfl ⟨Nat.le_of_ble_eq_true rfl, Nat.le_of_ble_eq_true rfl⟩ hP hK hN hP (q0 := 11) rfl rfl rfl rfl (Nat.le_of_ble_eq_true rfl) ⟨Nat.zero_le _, Nat.zero_le _⟩ hS (fun _ h9 => h9) dX6_add_27 (fun v9 W9 H locs hF hP hS hz9 hk9 => ?_)
    obtain ⟨rfl, rfl⟩ := hF
    have hD : va_D (eA ad) (cw ad cI cZ cJ n g w P gm wm gs wz gb go gp gj wb wl wk wo 1 mn mg mw mP o) := eD_of hJ rfl
    refine W.eq (g2 := F0 m 30 ls [.int 0]) rfl ?_
    exact ec_iret hx hb hr hlk hP hS ⟨rfl, rfl⟩ dX6_add_30
  · skip
    refine lv_iload_n hx hb dX6_add_9 rfl (lv_at hl 1 rfl) ?_
    refine lv_bipush (v := 13) hx hb dX6_add_10 (by decide) ?_
    refine lv_icmp_gt (tgt := 25) hx hb dX6_add_12 (by decide) (fun h2 => ?_) (fun h2 => ?_)
    · skip
      refine lv_aload_n hx hb dX6_add_25 rfl (lv_at hl 0 rfl) ?_
      refine lv_iconst (v := 1) hx hb dX6_add_26 (by decide) ?_
      refine ec_V (own := RX6) (C := RX6) (b := (ad 11)) (rest := []) hx hb hml hown hts hl.1 (c_X6_fail l D cI cZ cJ ad hJ n g w P gm wm gs wz gb go gp gj wb wl wk wo 0 mn mg mw mP o 1) tw394 tw7 tw391 tw393 ts_X6_fail yd_X6_fail rfl rfl ⟨Nat.le_of_ble_eq_true rfl, Nat.le_of_ble_eq_true rfl⟩ hP hK hN hP (q0 := 11) rfl rfl rfl rfl (Nat.le_of_ble_eq_true rfl) ⟨Nat.zero_le _, Nat.zero_le _⟩ hS (fun _ h9 => h9) dX6_add_27 (fun v9 W9 H locs hF hP hS hz9 hk9 => ?_)
      obtain ⟨rfl, rfl⟩ := hF
      have hD : va_D (eA ad) (cw ad cI cZ cJ n g w P gm wm gs wz gb go gp gj wb wl wk wo 1 mn mg mw mP o) := eD_of hJ rfl
      refine W.eq (g2 := F0 m 30 ls [.int 0]) rfl ?_
      exact ec_iret hx hb hr hlk hP hS ⟨rfl, rfl⟩ dX6_add_30
    · skip
      refine lv_iload_n hx hb dX6_add_15 rfl (lv_at hl 2 rfl) ?_
      refine lv_if_lt (tgt := 25) hx hb dX6_add_16 (by decide) (fun h3 => ?_) (fun h3 => ?_)
      · skip
        refine lv_aload_n hx hb dX6_add_25 rfl (lv_at hl 0 rfl) ?_
        refine lv_iconst (v := 1) hx hb dX6_add_26 (by decide) ?_
        refine ec_V (own := RX6) (C := RX6) (b := (ad 11)) (rest := []) hx hb hml hown hts hl.1 (c_X6_fail l D cI cZ cJ ad hJ n g w P gm wm gs wz gb go gp gj wb wl wk wo 0 mn mg mw mP o 1) tw394 tw7 tw391 tw393 ts_X6_fail yd_X6_fail rfl rfl ⟨Nat.le_of_ble_eq_true rfl, Nat.le_of_ble_eq_true rfl⟩ hP hK hN hP (q0 := 11) rfl rfl rfl rfl (Nat.le_of_ble_eq_true rfl) ⟨Nat.zero_le _, Nat.zero_le _⟩ hS (fun _ h9 => h9) dX6_add_27 (fun v9 W9 H locs hF hP hS hz9 hk9 => ?_)
        obtain ⟨rfl, rfl⟩ := hF
        have hD : va_D (eA ad) (cw ad cI cZ cJ n g w P gm wm gs wz gb go gp gj wb wl wk wo 1 mn mg mw mP o) := eD_of hJ rfl
        refine W.eq (g2 := F0 m 30 ls [.int 0]) rfl ?_
        exact ec_iret hx hb hr hlk hP hS ⟨rfl, rfl⟩ dX6_add_30
      · skip
        refine lv_iload_n hx hb dX6_add_19 rfl (lv_at hl 2 rfl) ?_
        refine lv_bipush (v := 18) hx hb dX6_add_20 (by decide) ?_
        refine lv_icmp_le (tgt := 31) hx hb dX6_add_22 (by decide) (fun h4 => ?_) (fun h4 => ?_)
        · skip
          exact absurd ⟨⟨h1, Int32.not_lt.mp h2⟩, ⟨h3, h4⟩⟩ hbad
        · skip
          refine lv_aload_n hx hb dX6_add_25 rfl (lv_at hl 0 rfl) ?_
          refine lv_iconst (v := 1) hx hb dX6_add_26 (by decide) ?_
          refine ec_V (own := RX6) (C := RX6) (b := (ad 11)) (rest := []) hx hb hml hown hts hl.1 (c_X6_fail l D cI cZ cJ ad hJ n g w P gm wm gs wz gb go gp gj wb wl wk wo 0 mn mg mw mP o 1) tw394 tw7 tw391 tw393 ts_X6_fail yd_X6_fail rfl rfl ⟨Nat.le_of_ble_eq_true rfl, Nat.le_of_ble_eq_true rfl⟩ hP hK hN hP (q0 := 11) rfl rfl rfl rfl (Nat.le_of_ble_eq_true rfl) ⟨Nat.zero_le _, Nat.zero_le _⟩ hS (fun _ h9 => h9) dX6_add_27 (fun v9 W9 H locs hF hP hS hz9 hk9 => ?_)
          obtain ⟨rfl, rfl⟩ := hF
          have hD : va_D (eA ad) (cw ad cI cZ cJ n g w P gm wm gs wz gb go gp gj wb wl wk wo 1 mn mg mw mP o) := eD_of hJ rfl
          refine W.eq (g2 := F0 m 30 ls [.int 0]) rfl ?_
          exact ec_iret hx hb hr hlk hP hS ⟨rfl, rfl⟩ dX6_add_30

set_option maxHeartbeats 4000000 in
set_option maxRecDepth 100000 in
theorem c_X6_set (l : Launch) (D : va_G) (cI cZ cJ : ClassId) (ad : Nat → Nat) (hJ : eJ ad) (n : Nat) (g : Nat → Int32) (w : Nat → Int32) (P : Nat → Bool) (gm : Nat → Bool) (wm : Nat → Bool) (gs : Bool) (wz : Bool) (gb : Int32) (go : Bool) (gp : Bool) (gj : Bool) (wb : Int32) (wl : Int32) (wk : Int32) (wo : Bool) (fa : Int32) (mn : Nat) (mg : Nat → Int32) (mw : Nat → Int32) (mP : Nat → Bool) (o : Nat → Int64) (i : Nat) (x y : Int32) (b : Bool) (hn : mn ≤ 1000) (hi : i < mn) (hg : ei_ok x 13) (hw0 : ei_ok y 18) : ec_M l yX6_set (Cond.code yX6_set cX6_set 5 none :: eT) ({ frames := 0, cells := 0, slots := 0, locals := 0 }) D (eTy cI cZ cJ) [.ref (ad 11), .int (nI i), .int x, .int y, .int (ef_b b)] (cw ad cI cZ cJ n g w P gm wm gs wz gb go gp gj wb wl wk wo fa mn mg mw mP o) (ed none (cw ad cI cZ cJ n g w P gm wm gs wz gb go gp gj wb wl wk wo 0 mn (upd mg i x) (upd mw i y) (ef_up mP i b) o)) (eA ad) := by
  refine ec_of (cc := cX6_set) (maxL := 5) (ret := none) (by decide) rfl (Nat.le_of_ble_eq_true rfl) ?_
  intro p e s m args below meth c ls hx hb hr hts hown hlk hml hP hK hN hl
  have hown : s.vm.findClass RX6 = some m.cls := hown
  have hl : lv_has ls 5 [(0, .ref (ad 11)), (1, .int (nI i)), (2, .int x), (3, .int y), (4, .int (ef_b b))] := hl
  have hS : va_S (eA ad) s.heap s.heap [] := va_S.rf
  have hD : va_D (eA ad) (cw ad cI cZ cJ n g w P gm wm gs wz gb go gp gj wb wl wk wo fa mn mg mw mP o) := eD_of hJ rfl
  refine lv_aload_n hx hb dX6_set_0 rfl (lv_at hl 0 rfl) ?_
  refine lv_iconst (v := 0) hx hb dX6_set_1 (by decide) ?_
  refine va_put (D := D) (ci := 5) (v := .int 0) (ty := .int) (C := RX6) (T := TX6) (N := 5) hx hb hts (fun w h => List.mem_cons_of_mem _ (inX6 w h)) tyX6 tyX6_ok nmX6 hown hK hP hD hS 11 rfl rfl 0 (by decide) (eT_h hts tw367) (fun _ h9 => h9) rfl (by decide +kernel) rfl rfl (Nat.le_of_ble_eq_true rfl) dX6_set_2 (fun H locs hP hD hS => ?_)
  have hP : va_P D vwCl (cw ad cI cZ cJ n g w P gm wm gs wz gb go gp gj wb wl wk wo 0 mn mg mw mP o) H := hP
  have hD : va_D (eA ad) (cw ad cI cZ cJ n g w P gm wm gs wz gb go gp gj wb wl wk wo 0 mn mg mw mP o) := hD
  refine lv_iload_n hx hb dX6_set_5 rfl (lv_at hl 1 rfl) ?_
  refine lv_if_lt (tgt := 37) hx hb dX6_set_6 (by decide) (fun h1 => ?_) (fun h1 => ?_)
  · skip
    exact absurd h1 (nI_pos (by omega))
  · skip
    refine lv_iload_n hx hb dX6_set_9 rfl (lv_at hl 1 rfl) ?_
    refine lv_aload_n hx hb dX6_set_10 rfl (lv_at hl 0 rfl) ?_
    refine va_get (D := D) (ci := 5) (v := .int (nI mn)) (C := RX6) (T := TX6) (N := 5) hx hb hts (fun w h => List.mem_cons_of_mem _ (inX6 w h)) hown hK hP 11 rfl rfl 1 (by decide) (eT_h hts tw368) (fun _ h9 => h9) rfl dX6_set_11 ?_
    refine lv_icmp_ge (tgt := 37) hx hb dX6_set_14 (by decide) (fun h2 => ?_) (fun h2 => ?_)
    · skip
      exact absurd ((nI_leI (a := mn) (b := i) (by omega) (by omega)).mp h2) (by omega)
    · skip
      refine lv_iload_n hx hb dX6_set_17 rfl (lv_at hl 2 rfl) ?_
      refine lv_if_lt (tgt := 37) hx hb dX6_set_18 (by decide) (fun h3 => ?_) (fun h3 => ?_)
      · skip
        exact absurd h3 hg.1
      · skip
        refine lv_iload_n hx hb dX6_set_21 rfl (lv_at hl 2 rfl) ?_
        refine lv_bipush (v := 13) hx hb dX6_set_22 (by decide) ?_
        refine lv_icmp_gt (tgt := 37) hx hb dX6_set_24 (by decide) (fun h4 => ?_) (fun h4 => ?_)
        · skip
          exact absurd hg.2 (Int32.not_le.mpr h4)
        · skip
          refine lv_iload_n hx hb dX6_set_27 rfl (lv_at hl 3 rfl) ?_
          refine lv_if_lt (tgt := 37) hx hb dX6_set_28 (by decide) (fun h5 => ?_) (fun h5 => ?_)
          · skip
            exact absurd h5 hw0.1
          · skip
            refine lv_iload_n hx hb dX6_set_31 rfl (lv_at hl 3 rfl) ?_
            refine lv_bipush (v := 18) hx hb dX6_set_32 (by decide) ?_
            refine lv_icmp_le (tgt := 45) hx hb dX6_set_34 (by decide) (fun h6 => ?_) (fun h6 => ?_)
            · skip
              refine lv_aload_n hx hb dX6_set_45 rfl (lv_at hl 0 rfl) ?_
              refine va_get (D := D) (ci := 5) (v := .ref (ad 12)) (C := RX6) (T := TX6) (N := 5) hx hb hts (fun w h => List.mem_cons_of_mem _ (inX6 w h)) hown hK hP 11 rfl rfl 2 (by decide) (eT_h hts tw369) (fun _ h9 => h9) rfl dX6_set_46 ?_
              refine lv_iload_n hx hb dX6_set_49 rfl (lv_at hl 1 rfl) ?_
              refine lv_iload_n hx hb dX6_set_50 rfl (lv_at hl 2 rfl) ?_
              refine va_iast hx hb hK hP hD hS 12 0 rfl rfl (vp_in_nI (n := i) (by omega) (by decide)) dX6_set_51 (fun H locs hP hD hS => ?_)
              rw [nI_clamp (n := i) (by omega)] at hP hD
              have hP : va_P D vwCl (cw ad cI cZ cJ n g w P gm wm gs wz gb go gp gj wb wl wk wo 0 mn (upd mg i x) mw mP o) H := hP
              have hD : va_D (eA ad) (cw ad cI cZ cJ n g w P gm wm gs wz gb go gp gj wb wl wk wo 0 mn (upd mg i x) mw mP o) := hD
              refine lv_aload_n hx hb dX6_set_52 rfl (lv_at hl 0 rfl) ?_
              refine va_get (D := D) (ci := 5) (v := .ref (ad 13)) (C := RX6) (T := TX6) (N := 5) hx hb hts (fun w h => List.mem_cons_of_mem _ (inX6 w h)) hown hK hP 11 rfl rfl 3 (by decide) (eT_h hts tw370) (fun _ h9 => h9) rfl dX6_set_53 ?_
              refine lv_iload_n hx hb dX6_set_56 rfl (lv_at hl 1 rfl) ?_
              refine lv_iload_n hx hb dX6_set_57 rfl (lv_at hl 3 rfl) ?_
              refine va_iast hx hb hK hP hD hS 13 0 rfl rfl (vp_in_nI (n := i) (by omega) (by decide)) dX6_set_58 (fun H locs hP hD hS => ?_)
              rw [nI_clamp (n := i) (by omega)] at hP hD
              have hP : va_P D vwCl (cw ad cI cZ cJ n g w P gm wm gs wz gb go gp gj wb wl wk wo 0 mn (upd mg i x) (upd mw i y) mP o) H := hP
              have hD : va_D (eA ad) (cw ad cI cZ cJ n g w P gm wm gs wz gb go gp gj wb wl wk wo 0 mn (upd mg i x) (upd mw i y) mP o) := hD
              refine lv_aload_n hx hb dX6_set_59 rfl (lv_at hl 0 rfl) ?_
              refine va_get (D := D) (ci := 5) (v := .ref (ad 14)) (C := RX6) (T := TX6) (N := 5) hx hb hts (fun w h => List.mem_cons_of_mem _ (inX6 w h)) hown hK hP 11 rfl rfl 4 (by decide) (eT_h hts tw371) (fun _ h9 => h9) rfl dX6_set_60 ?_
              refine lv_iload_n hx hb dX6_set_63 rfl (lv_at hl 1 rfl) ?_
              refine lv_iload hx hb dX6_set_64 (lv_at hl 4 rfl) ?_
              refine va_zast hx hb hK hP hD hS 14 1 rfl rfl (vp_in_nI (n := i) (by omega) (by decide)) dX6_set_66 (fun H locs hP hD hS => ?_)
              rw [nI_clamp (n := i) (by omega), ef_upd] at hP hD
              have hP : va_P D vwCl (cw ad cI cZ cJ n g w P gm wm gs wz gb go gp gj wb wl wk wo 0 mn (upd mg i x) (upd mw i y) (ef_up mP i b) o) H := hP
              have hD : va_D (eA ad) (cw ad cI cZ cJ n g w P gm wm gs wz gb go gp gj wb wl wk wo 0 mn (upd mg i x) (upd mw i y) (ef_up mP i b) o) := hD
              exact ec_vret hx hb hr hlk hP hS ⟨rfl, rfl⟩ dX6_set_67
            · skip
              exact absurd hw0.2 h6

set_option maxHeartbeats 4000000 in
set_option maxRecDepth 100000 in
theorem c_X6_set_bad (l : Launch) (D : va_G) (cI cZ cJ : ClassId) (ad : Nat → Nat) (hJ : eJ ad) (n : Nat) (g : Nat → Int32) (w : Nat → Int32) (P : Nat → Bool) (gm : Nat → Bool) (wm : Nat → Bool) (gs : Bool) (wz : Bool) (gb : Int32) (go : Bool) (gp : Bool) (gj : Bool) (wb : Int32) (wl : Int32) (wk : Int32) (wo : Bool) (fa : Int32) (mn : Nat) (mg : Nat → Int32) (mw : Nat → Int32) (mP : Nat → Bool) (o : Nat → Int64) (z x y : Int32) (b : Bool) (hn : mn ≤ 1000) (hbad : ¬ (ei_ok z (nI mn - 1) ∧ ei_ok x 13 ∧ ei_ok y 18)) : ec_M l yX6_set (Cond.code yX6_set cX6_set 5 none :: eT) ({ frames := 0, cells := 0, slots := 0, locals := 0 }) D (eTy cI cZ cJ) [.ref (ad 11), .int z, .int x, .int y, .int (ef_b b)] (cw ad cI cZ cJ n g w P gm wm gs wz gb go gp gj wb wl wk wo fa mn mg mw mP o) (ed none (cw ad cI cZ cJ n g w P gm wm gs wz gb go gp gj wb wl wk wo 1 mn mg mw mP o)) (eA ad) := by
  refine ec_of (cc := cX6_set) (maxL := 5) (ret := none) (by decide) rfl (Nat.le_of_ble_eq_true rfl) ?_
  intro p e s m args below meth c ls hx hb hr hts hown hlk hml hP hK hN hl
  have hown : s.vm.findClass RX6 = some m.cls := hown
  have hl : lv_has ls 5 [(0, .ref (ad 11)), (1, .int z), (2, .int x), (3, .int y), (4, .int (ef_b b))] := hl
  have hS : va_S (eA ad) s.heap s.heap [] := va_S.rf
  have hD : va_D (eA ad) (cw ad cI cZ cJ n g w P gm wm gs wz gb go gp gj wb wl wk wo fa mn mg mw mP o) := eD_of hJ rfl
  refine lv_aload_n hx hb dX6_set_0 rfl (lv_at hl 0 rfl) ?_
  refine lv_iconst (v := 0) hx hb dX6_set_1 (by decide) ?_
  refine va_put (D := D) (ci := 5) (v := .int 0) (ty := .int) (C := RX6) (T := TX6) (N := 5) hx hb hts (fun w h => List.mem_cons_of_mem _ (inX6 w h)) tyX6 tyX6_ok nmX6 hown hK hP hD hS 11 rfl rfl 0 (by decide) (eT_h hts tw367) (fun _ h9 => h9) rfl (by decide +kernel) rfl rfl (Nat.le_of_ble_eq_true rfl) dX6_set_2 (fun H locs hP hD hS => ?_)
  have hP : va_P D vwCl (cw ad cI cZ cJ n g w P gm wm gs wz gb go gp gj wb wl wk wo 0 mn mg mw mP o) H := hP
  have hD : va_D (eA ad) (cw ad cI cZ cJ n g w P gm wm gs wz gb go gp gj wb wl wk wo 0 mn mg mw mP o) := hD
  refine lv_iload_n hx hb dX6_set_5 rfl (lv_at hl 1 rfl) ?_
  refine lv_if_lt (tgt := 37) hx hb dX6_set_6 (by decide) (fun h1 => ?_) (fun h1 => ?_)
  · skip
    refine lv_aload_n hx hb dX6_set_37 rfl (lv_at hl 0 rfl) ?_
    refine lv_iconst (v := 1) hx hb dX6_set_38 (by decide) ?_
    refine va_put (D := D) (ci := 5) (v := .int 1) (ty := .int) (C := RX6) (T := TX6) (N := 5) hx hb hts (fun w h => List.mem_cons_of_mem _ (inX6 w h)) tyX6 tyX6_ok nmX6 hown hK hP hD hS 11 rfl rfl 0 (by decide) (eT_h hts tw367) (fun _ h9 => h9) rfl (by decide +kernel) rfl rfl (Nat.le_of_ble_eq_true rfl) dX6_set_39 (fun H locs hP hD hS => ?_)
    have hP : va_P D vwCl (cw ad cI cZ cJ n g w P gm wm gs wz gb go gp gj wb wl wk wo 1 mn mg mw mP o) H := hP
    have hD : va_D (eA ad) (cw ad cI cZ cJ n g w P gm wm gs wz gb go gp gj wb wl wk wo 1 mn mg mw mP o) := hD
    refine lv_goto (tgt := 67) hx hb dX6_set_42 (by decide) ?_
    exact ec_vret hx hb hr hlk hP hS ⟨rfl, rfl⟩ dX6_set_67
  · skip
    refine lv_iload_n hx hb dX6_set_9 rfl (lv_at hl 1 rfl) ?_
    refine lv_aload_n hx hb dX6_set_10 rfl (lv_at hl 0 rfl) ?_
    refine va_get (D := D) (ci := 5) (v := .int (nI mn)) (C := RX6) (T := TX6) (N := 5) hx hb hts (fun w h => List.mem_cons_of_mem _ (inX6 w h)) hown hK hP 11 rfl rfl 1 (by decide) (eT_h hts tw368) (fun _ h9 => h9) rfl dX6_set_11 ?_
    refine lv_icmp_ge (tgt := 37) hx hb dX6_set_14 (by decide) (fun h2 => ?_) (fun h2 => ?_)
    · skip
      refine lv_aload_n hx hb dX6_set_37 rfl (lv_at hl 0 rfl) ?_
      refine lv_iconst (v := 1) hx hb dX6_set_38 (by decide) ?_
      refine va_put (D := D) (ci := 5) (v := .int 1) (ty := .int) (C := RX6) (T := TX6) (N := 5) hx hb hts (fun w h => List.mem_cons_of_mem _ (inX6 w h)) tyX6 tyX6_ok nmX6 hown hK hP hD hS 11 rfl rfl 0 (by decide) (eT_h hts tw367) (fun _ h9 => h9) rfl (by decide +kernel) rfl rfl (Nat.le_of_ble_eq_true rfl) dX6_set_39 (fun H locs hP hD hS => ?_)
      have hP : va_P D vwCl (cw ad cI cZ cJ n g w P gm wm gs wz gb go gp gj wb wl wk wo 1 mn mg mw mP o) H := hP
      have hD : va_D (eA ad) (cw ad cI cZ cJ n g w P gm wm gs wz gb go gp gj wb wl wk wo 1 mn mg mw mP o) := hD
      refine lv_goto (tgt := 67) hx hb dX6_set_42 (by decide) ?_
      exact ec_vret hx hb hr hlk hP hS ⟨rfl, rfl⟩ dX6_set_67
    · skip
      refine lv_iload_n hx hb dX6_set_17 rfl (lv_at hl 2 rfl) ?_
      refine lv_if_lt (tgt := 37) hx hb dX6_set_18 (by decide) (fun h3 => ?_) (fun h3 => ?_)
      · skip
        refine lv_aload_n hx hb dX6_set_37 rfl (lv_at hl 0 rfl) ?_
        refine lv_iconst (v := 1) hx hb dX6_set_38 (by decide) ?_
        refine va_put (D := D) (ci := 5) (v := .int 1) (ty := .int) (C := RX6) (T := TX6) (N := 5) hx hb hts (fun w h => List.mem_cons_of_mem _ (inX6 w h)) tyX6 tyX6_ok nmX6 hown hK hP hD hS 11 rfl rfl 0 (by decide) (eT_h hts tw367) (fun _ h9 => h9) rfl (by decide +kernel) rfl rfl (Nat.le_of_ble_eq_true rfl) dX6_set_39 (fun H locs hP hD hS => ?_)
        have hP : va_P D vwCl (cw ad cI cZ cJ n g w P gm wm gs wz gb go gp gj wb wl wk wo 1 mn mg mw mP o) H := hP
        have hD : va_D (eA ad) (cw ad cI cZ cJ n g w P gm wm gs wz gb go gp gj wb wl wk wo 1 mn mg mw mP o) := hD
        refine lv_goto (tgt := 67) hx hb dX6_set_42 (by decide) ?_
        exact ec_vret hx hb hr hlk hP hS ⟨rfl, rfl⟩ dX6_set_67
      · skip
        refine lv_iload_n hx hb dX6_set_21 rfl (lv_at hl 2 rfl) ?_
        refine lv_bipush (v := 13) hx hb dX6_set_22 (by decide) ?_
        refine lv_icmp_gt (tgt := 37) hx hb dX6_set_24 (by decide) (fun h4 => ?_) (fun h4 => ?_)
        · skip
          refine lv_aload_n hx hb dX6_set_37 rfl (lv_at hl 0 rfl) ?_
          refine lv_iconst (v := 1) hx hb dX6_set_38 (by decide) ?_
          refine va_put (D := D) (ci := 5) (v := .int 1) (ty := .int) (C := RX6) (T := TX6) (N := 5) hx hb hts (fun w h => List.mem_cons_of_mem _ (inX6 w h)) tyX6 tyX6_ok nmX6 hown hK hP hD hS 11 rfl rfl 0 (by decide) (eT_h hts tw367) (fun _ h9 => h9) rfl (by decide +kernel) rfl rfl (Nat.le_of_ble_eq_true rfl) dX6_set_39 (fun H locs hP hD hS => ?_)
          have hP : va_P D vwCl (cw ad cI cZ cJ n g w P gm wm gs wz gb go gp gj wb wl wk wo 1 mn mg mw mP o) H := hP
          have hD : va_D (eA ad) (cw ad cI cZ cJ n g w P gm wm gs wz gb go gp gj wb wl wk wo 1 mn mg mw mP o) := hD
          refine lv_goto (tgt := 67) hx hb dX6_set_42 (by decide) ?_
          exact ec_vret hx hb hr hlk hP hS ⟨rfl, rfl⟩ dX6_set_67
        · skip
          refine lv_iload_n hx hb dX6_set_27 rfl (lv_at hl 3 rfl) ?_
          refine lv_if_lt (tgt := 37) hx hb dX6_set_28 (by decide) (fun h5 => ?_) (fun h5 => ?_)
          · skip
            refine lv_aload_n hx hb dX6_set_37 rfl (lv_at hl 0 rfl) ?_
            refine lv_iconst (v := 1) hx hb dX6_set_38 (by decide) ?_
            refine va_put (D := D) (ci := 5) (v := .int 1) (ty := .int) (C := RX6) (T := TX6) (N := 5) hx hb hts (fun w h => List.mem_cons_of_mem _ (inX6 w h)) tyX6 tyX6_ok nmX6 hown hK hP hD hS 11 rfl rfl 0 (by decide) (eT_h hts tw367) (fun _ h9 => h9) rfl (by decide +kernel) rfl rfl (Nat.le_of_ble_eq_true rfl) dX6_set_39 (fun H locs hP hD hS => ?_)
            have hP : va_P D vwCl (cw ad cI cZ cJ n g w P gm wm gs wz gb go gp gj wb wl wk wo 1 mn mg mw mP o) H := hP
            have hD : va_D (eA ad) (cw ad cI cZ cJ n g w P gm wm gs wz gb go gp gj wb wl wk wo 1 mn mg mw mP o) := hD
            refine lv_goto (tgt := 67) hx hb dX6_set_42 (by decide) ?_
            exact ec_vret hx hb hr hlk hP hS ⟨rfl, rfl⟩ dX6_set_67
          · skip
            refine lv_iload_n hx hb dX6_set_31 rfl (lv_at hl 3 rfl) ?_
            refine lv_bipush (v := 18) hx hb dX6_set_32 (by decide) ?_
            refine lv_icmp_le (tgt := 45) hx hb dX6_set_34 (by decide) (fun h6 => ?_) (fun h6 => ?_)
            · skip
              exact absurd ⟨ei_ok_z hn h1 h2, ⟨h3, Int32.not_lt.mp h4⟩, ⟨h5, h6⟩⟩ hbad
            · skip
              refine lv_aload_n hx hb dX6_set_37 rfl (lv_at hl 0 rfl) ?_
              refine lv_iconst (v := 1) hx hb dX6_set_38 (by decide) ?_
              refine va_put (D := D) (ci := 5) (v := .int 1) (ty := .int) (C := RX6) (T := TX6) (N := 5) hx hb hts (fun w h => List.mem_cons_of_mem _ (inX6 w h)) tyX6 tyX6_ok nmX6 hown hK hP hD hS 11 rfl rfl 0 (by decide) (eT_h hts tw367) (fun _ h9 => h9) rfl (by decide +kernel) rfl rfl (Nat.le_of_ble_eq_true rfl) dX6_set_39 (fun H locs hP hD hS => ?_)
              have hP : va_P D vwCl (cw ad cI cZ cJ n g w P gm wm gs wz gb go gp gj wb wl wk wo 1 mn mg mw mP o) H := hP
              have hD : va_D (eA ad) (cw ad cI cZ cJ n g w P gm wm gs wz gb go gp gj wb wl wk wo 1 mn mg mw mP o) := hD
              refine lv_goto (tgt := 67) hx hb dX6_set_42 (by decide) ?_
              exact ec_vret hx hb hr hlk hP hS ⟨rfl, rfl⟩ dX6_set_67

set_option maxHeartbeats 4000000 in
set_option maxRecDepth 100000 in
theorem c_X6_cut (l : Launch) (D : va_G) (cI cZ cJ : ClassId) (ad : Nat → Nat) (hJ : eJ ad) (n : Nat) (g : Nat → Int32) (w : Nat → Int32) (P : Nat → Bool) (gm : Nat → Bool) (wm : Nat → Bool) (gs : Bool) (wz : Bool) (gb : Int32) (go : Bool) (gp : Bool) (gj : Bool) (wb : Int32) (wl : Int32) (wk : Int32) (wo : Bool) (fa : Int32) (mn : Nat) (mg : Nat → Int32) (mw : Nat → Int32) (mP : Nat → Bool) (o : Nat → Int64) (k : Nat) (hn : mn ≤ 1000) (hi : k ≤ mn) : ec_M l yX6_cut (Cond.code yX6_cut cX6_cut 3 (some .int) :: eT) ({ frames := 0, cells := 0, slots := 0, locals := 0 }) D (eTy cI cZ cJ) [.ref (ad 11), .int (nI k)] (cw ad cI cZ cJ n g w P gm wm gs wz gb go gp gj wb wl wk wo fa mn mg mw mP o) (ed (some (.int (nI mn))) (cw ad cI cZ cJ n g w P gm wm gs wz gb go gp gj wb wl wk wo 0 k mg mw mP o)) (eA ad) := by
  refine ec_of (cc := cX6_cut) (maxL := 3) (ret := (some .int)) (by decide) rfl (Nat.le_of_ble_eq_true rfl) ?_
  intro p e s m args below meth c ls hx hb hr hts hown hlk hml hP hK hN hl
  have hown : s.vm.findClass RX6 = some m.cls := hown
  have hl : lv_has ls 3 [(0, .ref (ad 11)), (1, .int (nI k))] := hl
  have hS : va_S (eA ad) s.heap s.heap [] := va_S.rf
  have hD : va_D (eA ad) (cw ad cI cZ cJ n g w P gm wm gs wz gb go gp gj wb wl wk wo fa mn mg mw mP o) := eD_of hJ rfl
  refine lv_aload_n hx hb dX6_cut_0 rfl (lv_at hl 0 rfl) ?_
  refine lv_iconst (v := 0) hx hb dX6_cut_1 (by decide) ?_
  refine va_put (D := D) (ci := 5) (v := .int 0) (ty := .int) (C := RX6) (T := TX6) (N := 5) hx hb hts (fun w h => List.mem_cons_of_mem _ (inX6 w h)) tyX6 tyX6_ok nmX6 hown hK hP hD hS 11 rfl rfl 0 (by decide) (eT_h hts tw367) (fun _ h9 => h9) rfl (by decide +kernel) rfl rfl (Nat.le_of_ble_eq_true rfl) dX6_cut_2 (fun H locs hP hD hS => ?_)
  have hP : va_P D vwCl (cw ad cI cZ cJ n g w P gm wm gs wz gb go gp gj wb wl wk wo 0 mn mg mw mP o) H := hP
  have hD : va_D (eA ad) (cw ad cI cZ cJ n g w P gm wm gs wz gb go gp gj wb wl wk wo 0 mn mg mw mP o) := hD
  refine lv_iload_n hx hb dX6_cut_5 rfl (lv_at hl 1 rfl) ?_
  refine lv_if_lt (tgt := 17) hx hb dX6_cut_6 (by decide) (fun h1 => ?_) (fun h1 => ?_)
  · skip
    exact absurd h1 (nI_pos (by omega))
  · skip
    refine lv_iload_n hx hb dX6_cut_9 rfl (lv_at hl 1 rfl) ?_
    refine lv_aload_n hx hb dX6_cut_10 rfl (lv_at hl 0 rfl) ?_
    refine va_get (D := D) (ci := 5) (v := .int (nI mn)) (C := RX6) (T := TX6) (N := 5) hx hb hts (fun w h => List.mem_cons_of_mem _ (inX6 w h)) hown hK hP 11 rfl rfl 1 (by decide) (eT_h hts tw368) (fun _ h9 => h9) rfl dX6_cut_11 ?_
    refine lv_icmp_le (tgt := 23) hx hb dX6_cut_14 (by decide) (fun h2 => ?_) (fun h2 => ?_)
    · skip
      refine lv_aload_n hx hb dX6_cut_23 rfl (lv_at hl 0 rfl) ?_
      refine va_get (D := D) (ci := 5) (v := .int (nI mn)) (C := RX6) (T := TX6) (N := 5) hx hb hts (fun w h => List.mem_cons_of_mem _ (inX6 w h)) hown hK hP 11 rfl rfl 1 (by decide) (eT_h hts tw368) (fun _ h9 => h9) rfl dX6_cut_24 ?_
      refine lv_istore_n (lv' := [(2, .int (nI mn)), (0, .ref (ad 11)), (1, .int (nI k))]) hx hb dX6_cut_27 rfl hl (Nat.le_of_ble_eq_true rfl) rfl (fun ls hl => ?_)
      refine lv_aload_n hx hb dX6_cut_28 rfl (lv_at hl 1 rfl) ?_
      refine lv_iload_n hx hb dX6_cut_29 rfl (lv_at hl 2 rfl) ?_
      refine va_put (D := D) (ci := 5) (v := .int (nI k)) (ty := .int) (C := RX6) (T := TX6) (N := 5) hx hb hts (fun w h => List.mem_cons_of_mem _ (inX6 w h)) tyX6 tyX6_ok nmX6 hown hK hP hD hS 11 rfl rfl 1 (by decide) (eT_h hts tw368) (fun _ h9 => h9) rfl (by decide +kernel) rfl rfl (Nat.le_of_ble_eq_true rfl) dX6_cut_30 (fun H locs hP hD hS => ?_)
      have hP : va_P D vwCl (cw ad cI cZ cJ n g w P gm wm gs wz gb go gp gj wb wl wk wo 0 k mg mw mP o) H := hP
      have hD : va_D (eA ad) (cw ad cI cZ cJ n g w P gm wm gs wz gb go gp gj wb wl wk wo 0 k mg mw mP o) := hD
      refine lv_iload_n hx hb dX6_cut_33 rfl (lv_at hl 0 rfl) ?_
      exact ec_iret hx hb hr hlk hP hS ⟨rfl, rfl⟩ dX6_cut_34
    · skip
      exact absurd (nI_le (a := k) (b := mn) hi (by omega)) h2

set_option maxHeartbeats 4000000 in
set_option maxRecDepth 100000 in
theorem c_X6_cut_bad (l : Launch) (D : va_G) (cI cZ cJ : ClassId) (ad : Nat → Nat) (hJ : eJ ad) (n : Nat) (g : Nat → Int32) (w : Nat → Int32) (P : Nat → Bool) (gm : Nat → Bool) (wm : Nat → Bool) (gs : Bool) (wz : Bool) (gb : Int32) (go : Bool) (gp : Bool) (gj : Bool) (wb : Int32) (wl : Int32) (wk : Int32) (wo : Bool) (fa : Int32) (mn : Nat) (mg : Nat → Int32) (mw : Nat → Int32) (mP : Nat → Bool) (o : Nat → Int64) (z : Int32) (hbad : ¬ ei_ok z (nI mn)) : ec_M l yX6_cut (Cond.code yX6_cut cX6_cut 3 (some .int) :: eT) ({ frames := 1, cells := 0, slots := 0, locals := 21 }) D (eTy cI cZ cJ) [.ref (ad 11), .int z] (cw ad cI cZ cJ n g w P gm wm gs wz gb go gp gj wb wl wk wo fa mn mg mw mP o) (ed (some (.int 0)) (cw ad cI cZ cJ n g w P gm wm gs wz gb go gp gj wb wl wk wo 1 mn mg mw mP o)) (eA ad) := by
  refine ec_of (cc := cX6_cut) (maxL := 3) (ret := (some .int)) (by decide) rfl (Nat.le_of_ble_eq_true rfl) ?_
  intro p e s m args below meth c ls hx hb hr hts hown hlk hml hP hK hN hl
  have hown : s.vm.findClass RX6 = some m.cls := hown
  have hl : lv_has ls 3 [(0, .ref (ad 11)), (1, .int z)] := hl
  have hS : va_S (eA ad) s.heap s.heap [] := va_S.rf
  have hD : va_D (eA ad) (cw ad cI cZ cJ n g w P gm wm gs wz gb go gp gj wb wl wk wo fa mn mg mw mP o) := eD_of hJ rfl
  refine lv_aload_n hx hb dX6_cut_0 rfl (lv_at hl 0 rfl) ?_
  refine lv_iconst (v := 0) hx hb dX6_cut_1 (by decide) ?_
  refine va_put (D := D) (ci := 5) (v := .int 0) (ty := .int) (C := RX6) (T := TX6) (N := 5) hx hb hts (fun w h => List.mem_cons_of_mem _ (inX6 w h)) tyX6 tyX6_ok nmX6 hown hK hP hD hS 11 rfl rfl 0 (by decide) (eT_h hts tw367) (fun _ h9 => h9) rfl (by decide +kernel) rfl rfl (Nat.le_of_ble_eq_true rfl) dX6_cut_2 (fun H locs hP hD hS => ?_)
  have hP : va_P D vwCl (cw ad cI cZ cJ n g w P gm wm gs wz gb go gp gj wb wl wk wo 0 mn mg mw mP o) H := hP
  have hD : va_D (eA ad) (cw ad cI cZ cJ n g w P gm wm gs wz gb go gp gj wb wl wk wo 0 mn mg mw mP o) := hD
  refine lv_iload_n hx hb dX6_cut_5 rfl (lv_at hl 1 rfl) ?_
  refine lv_if_lt (tgt := 17) hx hb dX6_cut_6 (by decide) (fun h1 => ?_) (fun h1 => ?_)
  · skip
    refine lv_aload_n hx hb dX6_cut_17 rfl (lv_at hl 0 rfl) ?_
    refine lv_iconst (v := 1) hx hb dX6_cut_18 (by decide) ?_
    refine ec_V (own := RX6) (C := RX6) (b := (ad 11)) (rest := []) hx hb hml hown hts hl.1 (c_X6_fail l D cI cZ cJ ad hJ n g w P gm wm gs wz gb go gp gj wb wl wk wo 0 mn mg mw mP o 1) tw394 tw7 tw391 tw393 ts_X6_fail yd_X6_fail rfl rfl ⟨Nat.le_of_ble_eq_true rfl, Nat.le_of_ble_eq_true rfl⟩ hP hK hN hP (q0 := 11) rfl rfl rfl rfl (Nat.le_of_ble_eq_true rfl) ⟨Nat.zero_le _, Nat.zero_le _⟩ hS (fun _ h9 => h9) dX6_cut_19 (fun v9 W9 H locs hF hP hS hz9 hk9 => ?_)
    obtain ⟨rfl, rfl⟩ := hF
    have hD : va_D (eA ad) (cw ad cI cZ cJ n g w P gm wm gs wz gb go gp gj wb wl wk wo 1 mn mg mw mP o) := eD_of hJ rfl
    refine W.eq (g2 := F0 m 22 ls [.int 0]) rfl ?_
    exact ec_iret hx hb hr hlk hP hS ⟨rfl, rfl⟩ dX6_cut_22
  · skip
    refine lv_iload_n hx hb dX6_cut_9 rfl (lv_at hl 1 rfl) ?_
    refine lv_aload_n hx hb dX6_cut_10 rfl (lv_at hl 0 rfl) ?_
    refine va_get (D := D) (ci := 5) (v := .int (nI mn)) (C := RX6) (T := TX6) (N := 5) hx hb hts (fun w h => List.mem_cons_of_mem _ (inX6 w h)) hown hK hP 11 rfl rfl 1 (by decide) (eT_h hts tw368) (fun _ h9 => h9) rfl dX6_cut_11 ?_
    refine lv_icmp_le (tgt := 23) hx hb dX6_cut_14 (by decide) (fun h2 => ?_) (fun h2 => ?_)
    · skip
      exact absurd ⟨h1, h2⟩ hbad
    · skip
      refine lv_aload_n hx hb dX6_cut_17 rfl (lv_at hl 0 rfl) ?_
      refine lv_iconst (v := 1) hx hb dX6_cut_18 (by decide) ?_
      refine ec_V (own := RX6) (C := RX6) (b := (ad 11)) (rest := []) hx hb hml hown hts hl.1 (c_X6_fail l D cI cZ cJ ad hJ n g w P gm wm gs wz gb go gp gj wb wl wk wo 0 mn mg mw mP o 1) tw394 tw7 tw391 tw393 ts_X6_fail yd_X6_fail rfl rfl ⟨Nat.le_of_ble_eq_true rfl, Nat.le_of_ble_eq_true rfl⟩ hP hK hN hP (q0 := 11) rfl rfl rfl rfl (Nat.le_of_ble_eq_true rfl) ⟨Nat.zero_le _, Nat.zero_le _⟩ hS (fun _ h9 => h9) dX6_cut_19 (fun v9 W9 H locs hF hP hS hz9 hk9 => ?_)
      obtain ⟨rfl, rfl⟩ := hF
      have hD : va_D (eA ad) (cw ad cI cZ cJ n g w P gm wm gs wz gb go gp gj wb wl wk wo 1 mn mg mw mP o) := eD_of hJ rfl
      refine W.eq (g2 := F0 m 22 ls [.int 0]) rfl ?_
      exact ec_iret hx hb hr hlk hP hS ⟨rfl, rfl⟩ dX6_cut_22

set_option maxHeartbeats 4000000 in
set_option maxRecDepth 100000 in
theorem c_X6_edge (l : Launch) (D : va_G) (cI cZ cJ : ClassId) (ad : Nat → Nat) (hJ : eJ ad) (n : Nat) (g : Nat → Int32) (w : Nat → Int32) (P : Nat → Bool) (gm : Nat → Bool) (wm : Nat → Bool) (gs : Bool) (wz : Bool) (gb : Int32) (go : Bool) (gp : Bool) (gj : Bool) (wb : Int32) (wl : Int32) (wk : Int32) (wo : Bool) (fa : Int32) (mn : Nat) (mg : Nat → Int32) (mw : Nat → Int32) (mP : Nat → Bool) (o : Nat → Int64) (kd : Int32) (i : Nat) (hk1 : ei_ok kd 1) (hn : mn ≤ 1000) (hi : i ≤ mn) (hw : ∀ j, mw j ≠ -1) : ec_M l yX6_edge (Cond.code yX6_edge cX6_edge 3 (some .boolean) :: eT) ({ frames := 5, cells := 0, slots := 0, locals := 118 }) D (eTy cI cZ cJ) [.ref (ad 11), .int kd, .int (nI i)] (cw ad cI cZ cJ n g w P gm wm gs wz gb go gp gj wb wl wk wo fa mn mg mw mP o) (ed (some (.int (ef_b (eb_k kd mg mw mP mn i)))) (cw ad cI cZ cJ n g w P gm wm gs wz gb go gp gj wb wl wk wo 0 mn mg mw mP o)) (eA ad) := by
  refine ec_of (cc := cX6_edge) (maxL := 3) (ret := (some .boolean)) (by decide) rfl (Nat.le_of_ble_eq_true rfl) ?_
  intro p e s m args below meth c ls hx hb hr hts hown hlk hml hP hK hN hl
  have hown : s.vm.findClass RX6 = some m.cls := hown
  have hl : lv_has ls 3 [(0, .ref (ad 11)), (1, .int kd), (2, .int (nI i))] := hl
  have hS : va_S (eA ad) s.heap s.heap [] := va_S.rf
  have hD : va_D (eA ad) (cw ad cI cZ cJ n g w P gm wm gs wz gb go gp gj wb wl wk wo fa mn mg mw mP o) := eD_of hJ rfl
  refine lv_aload_n hx hb dX6_edge_0 rfl (lv_at hl 0 rfl) ?_
  refine lv_iconst (v := 0) hx hb dX6_edge_1 (by decide) ?_
  refine va_put (D := D) (ci := 5) (v := .int 0) (ty := .int) (C := RX6) (T := TX6) (N := 5) hx hb hts (fun w h => List.mem_cons_of_mem _ (inX6 w h)) tyX6 tyX6_ok nmX6 hown hK hP hD hS 11 rfl rfl 0 (by decide) (eT_h hts tw367) (fun _ h9 => h9) rfl (by decide +kernel) rfl rfl (Nat.le_of_ble_eq_true rfl) dX6_edge_2 (fun H locs hP hD hS => ?_)
  have hP : va_P D vwCl (cw ad cI cZ cJ n g w P gm wm gs wz gb go gp gj wb wl wk wo 0 mn mg mw mP o) H := hP
  have hD : va_D (eA ad) (cw ad cI cZ cJ n g w P gm wm gs wz gb go gp gj wb wl wk wo 0 mn mg mw mP o) := hD
  refine lv_aload_n hx hb dX6_edge_5 rfl (lv_at hl 0 rfl) ?_
  refine lv_iload_n hx hb dX6_edge_6 rfl (lv_at hl 1 rfl) ?_
  refine lv_iload_n hx hb dX6_edge_7 rfl (lv_at hl 2 rfl) ?_
  refine er_V (own := RX6) (C := RX6) (b := (ad 11)) (rest := []) hx hb hml hown hts hl.1 (k_X6_bad l D cI cZ cJ (ad 11) (ad 12) (ad 13) (ad 14) 0 mn mg mw mP kd (nI i)) tw410 tw7 tw407 tw409 ts_X6_bad yd_X6_bad rfl rfl ⟨Nat.le_of_ble_eq_true rfl, Nat.le_of_ble_eq_true rfl⟩ (hP.sub [11, 12, 13, 14] rfl) hK hP (q0 := 11) rfl rfl rfl rfl (Nat.le_of_ble_eq_true rfl) ⟨Nat.zero_le _, Nat.zero_le _⟩ dX6_edge_8 ?_
  refine ef_if_eq (tgt := 30) hx hb dX6_edge_11 (by decide) (fun h1 => ?_) (fun h1 => ?_)
  · skip
    refine lv_aload_n hx hb dX6_edge_30 rfl (lv_at hl 0 rfl) ?_
    refine lv_iload_n hx hb dX6_edge_31 rfl (lv_at hl 1 rfl) ?_
    refine lv_iload_n hx hb dX6_edge_32 rfl (lv_at hl 2 rfl) ?_
    refine er_V (own := RX6) (C := RX6) (b := (ad 11)) (rest := []) hx hb hml hown hts hl.1 (k_X6_boundary l D cI cZ cJ (ad 11) (ad 12) (ad 13) (ad 14) 0 mn mg mw mP kd i hn (by omega) hw) tw414 tw7 tw411 tw413 ts_X6_boundary yd_X6_boundary rfl rfl ⟨Nat.le_of_ble_eq_true rfl, Nat.le_of_ble_eq_true rfl⟩ (hP.sub [11, 12, 13, 14] rfl) hK hP (q0 := 11) rfl rfl rfl rfl (Nat.le_of_ble_eq_true rfl) ⟨Nat.zero_le _, Nat.zero_le _⟩ dX6_edge_33 ?_
    exact ec_zret hx hb hr hlk hP hS ⟨rfl, rfl⟩ dX6_edge_36
  · skip
    exact absurd ⟨hk1, ei_ok_n hi hn⟩ (em_bad_t h1)

set_option maxHeartbeats 4000000 in
set_option maxRecDepth 100000 in
theorem c_X6_edge_bad (l : Launch) (D : va_G) (cI cZ cJ : ClassId) (ad : Nat → Nat) (hJ : eJ ad) (n : Nat) (g : Nat → Int32) (w : Nat → Int32) (P : Nat → Bool) (gm : Nat → Bool) (wm : Nat → Bool) (gs : Bool) (wz : Bool) (gb : Int32) (go : Bool) (gp : Bool) (gj : Bool) (wb : Int32) (wl : Int32) (wk : Int32) (wo : Bool) (fa : Int32) (mn : Nat) (mg : Nat → Int32) (mw : Nat → Int32) (mP : Nat → Bool) (o : Nat → Int64) (kd z : Int32) (hbad : ¬ (ei_ok kd 1 ∧ ei_ok z (nI mn))) : ec_M l yX6_edge (Cond.code yX6_edge cX6_edge 3 (some .boolean) :: eT) ({ frames := 1, cells := 0, slots := 0, locals := 22 }) D (eTy cI cZ cJ) [.ref (ad 11), .int kd, .int z] (cw ad cI cZ cJ n g w P gm wm gs wz gb go gp gj wb wl wk wo fa mn mg mw mP o) (ed (some (.int (ef_b false))) (cw ad cI cZ cJ n g w P gm wm gs wz gb go gp gj wb wl wk wo 1 mn mg mw mP o)) (eA ad) := by
  refine ec_of (cc := cX6_edge) (maxL := 3) (ret := (some .boolean)) (by decide) rfl (Nat.le_of_ble_eq_true rfl) ?_
  intro p e s m args below meth c ls hx hb hr hts hown hlk hml hP hK hN hl
  have hown : s.vm.findClass RX6 = some m.cls := hown
  have hl : lv_has ls 3 [(0, .ref (ad 11)), (1, .int kd), (2, .int z)] := hl
  have hS : va_S (eA ad) s.heap s.heap [] := va_S.rf
  have hD : va_D (eA ad) (cw ad cI cZ cJ n g w P gm wm gs wz gb go gp gj wb wl wk wo fa mn mg mw mP o) := eD_of hJ rfl
  refine lv_aload_n hx hb dX6_edge_0 rfl (lv_at hl 0 rfl) ?_
  refine lv_iconst (v := 0) hx hb dX6_edge_1 (by decide) ?_
  refine va_put (D := D) (ci := 5) (v := .int 0) (ty := .int) (C := RX6) (T := TX6) (N := 5) hx hb hts (fun w h => List.mem_cons_of_mem _ (inX6 w h)) tyX6 tyX6_ok nmX6 hown hK hP hD hS 11 rfl rfl 0 (by decide) (eT_h hts tw367) (fun _ h9 => h9) rfl (by decide +kernel) rfl rfl (Nat.le_of_ble_eq_true rfl) dX6_edge_2 (fun H locs hP hD hS => ?_)
  have hP : va_P D vwCl (cw ad cI cZ cJ n g w P gm wm gs wz gb go gp gj wb wl wk wo 0 mn mg mw mP o) H := hP
  have hD : va_D (eA ad) (cw ad cI cZ cJ n g w P gm wm gs wz gb go gp gj wb wl wk wo 0 mn mg mw mP o) := hD
  refine lv_aload_n hx hb dX6_edge_5 rfl (lv_at hl 0 rfl) ?_
  refine lv_iload_n hx hb dX6_edge_6 rfl (lv_at hl 1 rfl) ?_
  refine lv_iload_n hx hb dX6_edge_7 rfl (lv_at hl 2 rfl) ?_
  refine er_V (own := RX6) (C := RX6) (b := (ad 11)) (rest := []) hx hb hml hown hts hl.1 (k_X6_bad l D cI cZ cJ (ad 11) (ad 12) (ad 13) (ad 14) 0 mn mg mw mP kd z) tw410 tw7 tw407 tw409 ts_X6_bad yd_X6_bad rfl rfl ⟨Nat.le_of_ble_eq_true rfl, Nat.le_of_ble_eq_true rfl⟩ (hP.sub [11, 12, 13, 14] rfl) hK hP (q0 := 11) rfl rfl rfl rfl (Nat.le_of_ble_eq_true rfl) ⟨Nat.zero_le _, Nat.zero_le _⟩ dX6_edge_8 ?_
  refine ef_if_eq (tgt := 30) hx hb dX6_edge_11 (by decide) (fun h1 => ?_) (fun h1 => ?_)
  · skip
    exact absurd (em_bad_f h1) hbad
  · skip
    refine lv_aload_n hx hb dX6_edge_14 rfl (lv_at hl 0 rfl) ?_
    refine lv_iconst (v := 1) hx hb dX6_edge_15 (by decide) ?_
    refine ec_V (own := RX6) (C := RX6) (b := (ad 11)) (rest := []) hx hb hml hown hts hl.1 (c_X6_fail l D cI cZ cJ ad hJ n g w P gm wm gs wz gb go gp gj wb wl wk wo 0 mn mg mw mP o 1) tw394 tw7 tw391 tw393 ts_X6_fail yd_X6_fail rfl rfl ⟨Nat.le_of_ble_eq_true rfl, Nat.le_of_ble_eq_true rfl⟩ hP hK hN hP (q0 := 11) rfl rfl rfl rfl (Nat.le_of_ble_eq_true rfl) ⟨Nat.zero_le _, Nat.zero_le _⟩ hS (fun _ h9 => h9) dX6_edge_16 (fun v9 W9 H locs hF hP hS hz9 hk9 => ?_)
    obtain ⟨rfl, rfl⟩ := hF
    have hD : va_D (eA ad) (cw ad cI cZ cJ n g w P gm wm gs wz gb go gp gj wb wl wk wo 1 mn mg mw mP o) := eD_of hJ rfl
    refine W.eq (g2 := F0 m 19 ls [.int 0]) rfl ?_
    refine lv_if_le (tgt := 26) hx hb dX6_edge_19 (by decide) (fun h2 => ?_) (fun h2 => ?_)
    · skip
      refine lv_iconst (v := 0) hx hb dX6_edge_26 (by decide) ?_
      refine lv_goto (tgt := 36) hx hb dX6_edge_27 (by decide) ?_
      refine ef_eqi (y := ef_b false) (by decide) ?_
      exact ec_zret hx hb hr hlk hP hS ⟨rfl, rfl⟩ dX6_edge_36
    · skip
      exact absurd (by decide) h2

set_option maxHeartbeats 4000000 in
set_option maxRecDepth 100000 in
theorem c_X6_next_f (l : Launch) (D : va_G) (cI cZ cJ : ClassId) (ad : Nat → Nat) (hJ : eJ ad) (n : Nat) (g : Nat → Int32) (w : Nat → Int32) (P : Nat → Bool) (gm : Nat → Bool) (wm : Nat → Bool) (gs : Bool) (wz : Bool) (gb : Int32) (go : Bool) (gp : Bool) (gj : Bool) (wb : Int32) (wl : Int32) (wk : Int32) (wo : Bool) (fa : Int32) (mn : Nat) (mg : Nat → Int32) (mw : Nat → Int32) (mP : Nat → Bool) (o : Nat → Int64) (kd : Int32) (i : Nat) (hk1 : ei_ok kd 1) (hn : mn ≤ 1000) (hi : i ≤ mn) (hw : ∀ j, mw j ≠ -1) : ec_M l yX6_next (Cond.code yX6_next cX6_next 6 (some .int) :: eT) ({ frames := 5, cells := 0, slots := 0, locals := 118 }) D (eTy cI cZ cJ) [.ref (ad 11), .int kd, .int (nI i), .int (ef_b false)] (cw ad cI cZ cJ n g w P gm wm gs wz gb go gp gj wb wl wk wo fa mn mg mw mP o) (ed (some (.int (es_fb (eb_k kd mg mw mP mn) (mn - i) (i + 1)))) (cw ad cI cZ cJ n g w P gm wm gs wz gb go gp gj wb wl wk wo 0 mn mg mw mP o)) (eA ad) := by
  refine ec_of (cc := cX6_next) (maxL := 6) (ret := (some .int)) (by decide) rfl (Nat.le_of_ble_eq_true rfl) ?_
  intro p e s m args below meth c ls hx hb hr hts hown hlk hml hP hK hN hl
  have hown : s.vm.findClass RX6 = some m.cls := hown
  have hl : lv_has ls 6 [(0, .ref (ad 11)), (1, .int kd), (2, .int (nI i)), (3, .int (ef_b false))] := hl
  have L37 : ∀ (r : Nat) (k : Nat) (ls : Array Slot) (H : Heap) (locs : List Loc), lv_has ls 6 [(5, .int (nI k)), (4, .int 1), (0, .ref (ad 11)), (1, .int kd)] → k ≤ mn + 1 → es_fb (eb_k kd mg mw mP mn) (mn - i) (i + 1) = es_fb (eb_k kd mg mw mP mn) (mn + 1 - k) k → va_P D vwCl (cw ad cI cZ cJ n g w P gm wm gs wz gb go gp gj wb wl wk wo 0 mn mg mw mP o) H → va_S (eA ad) s.heap H locs → mn + 1 - k < r → W p l e ({ frames := 5, cells := 0, slots := 0, locals := 118 }) s m args below meth c H locs 0 0 (MQ below (ec_Q D (ed (some (.int (es_fb (eb_k kd mg mw mP mn) (mn - i) (i + 1)))) (cw ad cI cZ cJ n g w P gm wm gs wz gb go gp gj wb wl wk wo 0 mn mg mw mP o)) (eA ad)) args s 0 0 (eA ad)) (F0 m 37 ls []) := by
    intro r
    induction r with
    | zero => intro k ls H locs hl hk he hP hS hμ; exact absurd hμ (Nat.not_lt_zero _)
    | succ r ih =>
      intro k ls H locs hl hk he hP hS hμ
      have hD : va_D (eA ad) (cw ad cI cZ cJ n g w P gm wm gs wz gb go gp gj wb wl wk wo 0 mn mg mw mP o) := eD_of hJ rfl
      refine lv_iload hx hb dX6_next_37 (lv_at hl 0 rfl) ?_
      refine lv_if_lt (tgt := 74) hx hb dX6_next_39 (by decide) (fun h1 => ?_) (fun h1 => ?_)
      · skip
        exact absurd h1 (nI_pos (by omega))
      · skip
        refine lv_iload hx hb dX6_next_42 (lv_at hl 0 rfl) ?_
        refine lv_aload_n hx hb dX6_next_44 rfl (lv_at hl 2 rfl) ?_
        refine va_get (D := D) (ci := 5) (v := .int (nI mn)) (C := RX6) (T := TX6) (N := 5) hx hb hts (fun w h => List.mem_cons_of_mem _ (inX6 w h)) hown hK hP 11 rfl rfl 1 (by decide) (eT_h hts tw368) (fun _ h9 => h9) rfl dX6_next_45 ?_
        refine lv_icmp_gt (tgt := 74) hx hb dX6_next_48 (by decide) (fun h2 => ?_) (fun h2 => ?_)
        · skip
          have h2 : mn < k := (nI_ltI (a := mn) (b := k) (by omega) (by omega)).mp h2
          refine lv_iconst (v := (-1)) hx hb dX6_next_74 (by decide) ?_
          refine ef_eqi (y := es_fb (eb_k kd mg mw mP mn) (mn - i) (i + 1)) (by rw [he, show mn + 1 - k = 0 by omega]; rfl) ?_
          exact ec_iret hx hb hr hlk hP hS ⟨rfl, rfl⟩ dX6_next_75
        · skip
          have h2 : ¬ (mn < k) := fun q9 => h2 ((nI_ltI (a := mn) (b := k) (by omega) (by omega)).mpr q9)
          refine lv_aload_n hx hb dX6_next_51 rfl (lv_at hl 2 rfl) ?_
          refine lv_iload_n hx hb dX6_next_52 rfl (lv_at hl 3 rfl) ?_
          refine lv_iload hx hb dX6_next_53 (lv_at hl 0 rfl) ?_
          refine er_V (own := RX6) (C := RX6) (b := (ad 11)) (rest := []) hx hb hml hown hts hl.1 (k_X6_boundary l D cI cZ cJ (ad 11) (ad 12) (ad 13) (ad 14) 0 mn mg mw mP kd k hn (by omega) hw) tw414 tw7 tw411 tw413 ts_X6_boundary yd_X6_boundary rfl rfl ⟨Nat.le_of_ble_eq_true rfl, Nat.le_of_ble_eq_true rfl⟩ (hP.sub [11, 12, 13, 14] rfl) hK hP (q0 := 11) rfl rfl rfl rfl (Nat.le_of_ble_eq_true rfl) ⟨Nat.zero_le _, Nat.zero_le _⟩ dX6_next_55 ?_
          refine ef_if_eq (tgt := 64) hx hb dX6_next_58 (by decide) (fun h3 => ?_) (fun h3 => ?_)
          · skip
            refine lv_iload hx hb dX6_next_64 (lv_at hl 0 rfl) ?_
            refine lv_iload hx hb dX6_next_66 (lv_at hl 1 rfl) ?_
            refine lv_iadd hx hb dX6_next_68 ?_
            refine ef_eqi (y := nI (k + 1)) (nI_add k 1) ?_
            refine lv_istore (lv' := [(5, .int (nI (k + 1))), (4, .int 1), (0, .ref (ad 11)), (1, .int kd)]) hx hb dX6_next_69 hl (Nat.le_of_ble_eq_true rfl) rfl (fun ls hl => ?_)
            refine lv_goto (tgt := 37) hx hb dX6_next_71 (by decide) ?_
            exact ih (k + 1) ls H locs hl (by omega) (by rw [he, show mn + 1 - k = (mn + 1 - (k + 1)) + 1 by omega]; simp [es_fb, h3]) hP hS (by omega)
          · skip
            refine lv_iload hx hb dX6_next_61 (lv_at hl 0 rfl) ?_
            refine ef_eqi (y := es_fb (eb_k kd mg mw mP mn) (mn - i) (i + 1)) (by rw [he, show mn + 1 - k = (mn - k) + 1 by omega]; simp [es_fb, h3]) ?_
            exact ec_iret hx hb hr hlk hP hS ⟨rfl, rfl⟩ dX6_next_63
  have hS : va_S (eA ad) s.heap s.heap [] := va_S.rf
  have hD : va_D (eA ad) (cw ad cI cZ cJ n g w P gm wm gs wz gb go gp gj wb wl wk wo fa mn mg mw mP o) := eD_of hJ rfl
  refine lv_aload_n hx hb dX6_next_0 rfl (lv_at hl 0 rfl) ?_
  refine lv_iconst (v := 0) hx hb dX6_next_1 (by decide) ?_
  refine va_put (D := D) (ci := 5) (v := .int 0) (ty := .int) (C := RX6) (T := TX6) (N := 5) hx hb hts (fun w h => List.mem_cons_of_mem _ (inX6 w h)) tyX6 tyX6_ok nmX6 hown hK hP hD hS 11 rfl rfl 0 (by decide) (eT_h hts tw367) (fun _ h9 => h9) rfl (by decide +kernel) rfl rfl (Nat.le_of_ble_eq_true rfl) dX6_next_2 (fun H locs hP hD hS => ?_)
  have hP : va_P D vwCl (cw ad cI cZ cJ n g w P gm wm gs wz gb go gp gj wb wl wk wo 0 mn mg mw mP o) H := hP
  have hD : va_D (eA ad) (cw ad cI cZ cJ n g w P gm wm gs wz gb go gp gj wb wl wk wo 0 mn mg mw mP o) := hD
  refine lv_aload_n hx hb dX6_next_5 rfl (lv_at hl 0 rfl) ?_
  refine lv_iload_n hx hb dX6_next_6 rfl (lv_at hl 1 rfl) ?_
  refine lv_iload_n hx hb dX6_next_7 rfl (lv_at hl 2 rfl) ?_
  refine er_V (own := RX6) (C := RX6) (b := (ad 11)) (rest := []) hx hb hml hown hts hl.1 (k_X6_bad l D cI cZ cJ (ad 11) (ad 12) (ad 13) (ad 14) 0 mn mg mw mP kd (nI i)) tw410 tw7 tw407 tw409 ts_X6_bad yd_X6_bad rfl rfl ⟨Nat.le_of_ble_eq_true rfl, Nat.le_of_ble_eq_true rfl⟩ (hP.sub [11, 12, 13, 14] rfl) hK hP (q0 := 11) rfl rfl rfl rfl (Nat.le_of_ble_eq_true rfl) ⟨Nat.zero_le _, Nat.zero_le _⟩ dX6_next_8 ?_
  refine ef_if_eq (tgt := 20) hx hb dX6_next_11 (by decide) (fun h4 => ?_) (fun h4 => ?_)
  · skip
    refine lv_iload_n hx hb dX6_next_20 rfl (lv_at hl 3 rfl) ?_
    refine ef_if_eq (tgt := 28) hx hb dX6_next_21 (by decide) (fun h5 => ?_) (fun h5 => ?_)
    · skip
      refine lv_iconst (v := 1) hx hb dX6_next_28 (by decide) ?_
      refine lv_istore (lv' := [(4, .int 1), (0, .ref (ad 11)), (1, .int kd), (2, .int (nI i)), (3, .int (ef_b false))]) hx hb dX6_next_29 hl (Nat.le_of_ble_eq_true rfl) rfl (fun ls hl => ?_)
      refine lv_iload_n hx hb dX6_next_31 rfl (lv_at hl 3 rfl) ?_
      refine lv_iload hx hb dX6_next_32 (lv_at hl 0 rfl) ?_
      refine lv_iadd hx hb dX6_next_34 ?_
      refine ef_eqi (y := nI (i + 1)) (nI_add i 1) ?_
      refine lv_istore (lv' := [(5, .int (nI (i + 1))), (4, .int 1), (0, .ref (ad 11)), (1, .int kd), (2, .int (nI i)), (3, .int (ef_b false))]) hx hb dX6_next_35 hl (Nat.le_of_ble_eq_true rfl) rfl (fun ls hl => ?_)
      exact L37 _ (i + 1) ls H locs (lv_sub hl [0, 1, 2, 3] rfl) (by omega) (by rw [show mn + 1 - (i + 1) = mn - i by omega]) hP hS (Nat.lt_succ_self _)
    · skip
      exact Bool.noConfusion h5
  · skip
    exact absurd ⟨hk1, ei_ok_n hi hn⟩ (em_bad_t h4)

set_option maxHeartbeats 4000000 in
set_option maxRecDepth 100000 in
theorem c_X6_next_t (l : Launch) (D : va_G) (cI cZ cJ : ClassId) (ad : Nat → Nat) (hJ : eJ ad) (n : Nat) (g : Nat → Int32) (w : Nat → Int32) (P : Nat → Bool) (gm : Nat → Bool) (wm : Nat → Bool) (gs : Bool) (wz : Bool) (gb : Int32) (go : Bool) (gp : Bool) (gj : Bool) (wb : Int32) (wl : Int32) (wk : Int32) (wo : Bool) (fa : Int32) (mn : Nat) (mg : Nat → Int32) (mw : Nat → Int32) (mP : Nat → Bool) (o : Nat → Int64) (kd : Int32) (i : Nat) (hk1 : ei_ok kd 1) (hn : mn ≤ 1000) (hi : i ≤ mn) (hw : ∀ j, mw j ≠ -1) : ec_M l yX6_next (Cond.code yX6_next cX6_next 6 (some .int) :: eT) ({ frames := 5, cells := 0, slots := 0, locals := 118 }) D (eTy cI cZ cJ) [.ref (ad 11), .int kd, .int (nI i), .int (ef_b true)] (cw ad cI cZ cJ n g w P gm wm gs wz gb go gp gj wb wl wk wo fa mn mg mw mP o) (ed (some (.int (es_lb (eb_k kd mg mw mP mn) i))) (cw ad cI cZ cJ n g w P gm wm gs wz gb go gp gj wb wl wk wo 0 mn mg mw mP o)) (eA ad) := by
  refine ec_of (cc := cX6_next) (maxL := 6) (ret := (some .int)) (by decide) rfl (Nat.le_of_ble_eq_true rfl) ?_
  intro p e s m args below meth c ls hx hb hr hts hown hlk hml hP hK hN hl
  have hown : s.vm.findClass RX6 = some m.cls := hown
  have hl : lv_has ls 6 [(0, .ref (ad 11)), (1, .int kd), (2, .int (nI i)), (3, .int (ef_b true))] := hl
  have L37 : ∀ (r : Nat) (k : Nat) (ls : Array Slot) (H : Heap) (locs : List Loc), lv_has ls 6 [(5, .int (nI k + (-1))), (4, .int (-1)), (0, .ref (ad 11)), (1, .int kd)] → k ≤ i → es_lb (eb_k kd mg mw mP mn) i = es_lb (eb_k kd mg mw mP mn) k → va_P D vwCl (cw ad cI cZ cJ n g w P gm wm gs wz gb go gp gj wb wl wk wo 0 mn mg mw mP o) H → va_S (eA ad) s.heap H locs → k < r → W p l e ({ frames := 5, cells := 0, slots := 0, locals := 118 }) s m args below meth c H locs 0 0 (MQ below (ec_Q D (ed (some (.int (es_lb (eb_k kd mg mw mP mn) i))) (cw ad cI cZ cJ n g w P gm wm gs wz gb go gp gj wb wl wk wo 0 mn mg mw mP o)) (eA ad)) args s 0 0 (eA ad)) (F0 m 37 ls []) := by
    intro r
    induction r with
    | zero => intro k ls H locs hl hk he hP hS hμ; exact absurd hμ (Nat.not_lt_zero _)
    | succ r ih =>
      intro k ls H locs hl hk he hP hS hμ
      have hD : va_D (eA ad) (cw ad cI cZ cJ n g w P gm wm gs wz gb go gp gj wb wl wk wo 0 mn mg mw mP o) := eD_of hJ rfl
      rcases k with _ | k
      · skip
        refine lv_iload hx hb dX6_next_37 (lv_at hl 0 rfl) ?_
        refine lv_if_lt (tgt := 74) hx hb dX6_next_39 (by decide) (fun h1 => ?_) (fun h1 => ?_)
        · skip
          refine lv_iconst (v := (-1)) hx hb dX6_next_74 (by decide) ?_
          refine ef_eqi (y := es_lb (eb_k kd mg mw mP mn) i) (by rw [he]; rfl) ?_
          exact ec_iret hx hb hr hlk hP hS ⟨rfl, rfl⟩ dX6_next_75
        · skip
          exact absurd (by decide) h1
      · skip
        have hl : lv_has ls 6 [(5, .int (nI k)), (4, .int (-1)), (0, .ref (ad 11)), (1, .int kd)] := by rw [← pk_m1 k]; exact hl
        refine lv_iload hx hb dX6_next_37 (lv_at hl 0 rfl) ?_
        refine lv_if_lt (tgt := 74) hx hb dX6_next_39 (by decide) (fun h2 => ?_) (fun h2 => ?_)
        · skip
          exact absurd h2 (nI_pos (by omega))
        · skip
          refine lv_iload hx hb dX6_next_42 (lv_at hl 0 rfl) ?_
          refine lv_aload_n hx hb dX6_next_44 rfl (lv_at hl 2 rfl) ?_
          refine va_get (D := D) (ci := 5) (v := .int (nI mn)) (C := RX6) (T := TX6) (N := 5) hx hb hts (fun w h => List.mem_cons_of_mem _ (inX6 w h)) hown hK hP 11 rfl rfl 1 (by decide) (eT_h hts tw368) (fun _ h9 => h9) rfl dX6_next_45 ?_
          refine lv_icmp_gt (tgt := 74) hx hb dX6_next_48 (by decide) (fun h3 => ?_) (fun h3 => ?_)
          · skip
            exact absurd ((nI_ltI (a := mn) (b := k) (by omega) (by omega)).mp h3) (by omega)
          · skip
            refine lv_aload_n hx hb dX6_next_51 rfl (lv_at hl 2 rfl) ?_
            refine lv_iload_n hx hb dX6_next_52 rfl (lv_at hl 3 rfl) ?_
            refine lv_iload hx hb dX6_next_53 (lv_at hl 0 rfl) ?_
            refine er_V (own := RX6) (C := RX6) (b := (ad 11)) (rest := []) hx hb hml hown hts hl.1 (k_X6_boundary l D cI cZ cJ (ad 11) (ad 12) (ad 13) (ad 14) 0 mn mg mw mP kd k hn (by omega) hw) tw414 tw7 tw411 tw413 ts_X6_boundary yd_X6_boundary rfl rfl ⟨Nat.le_of_ble_eq_true rfl, Nat.le_of_ble_eq_true rfl⟩ (hP.sub [11, 12, 13, 14] rfl) hK hP (q0 := 11) rfl rfl rfl rfl (Nat.le_of_ble_eq_true rfl) ⟨Nat.zero_le _, Nat.zero_le _⟩ dX6_next_55 ?_
            refine ef_if_eq (tgt := 64) hx hb dX6_next_58 (by decide) (fun h4 => ?_) (fun h4 => ?_)
            · skip
              refine lv_iload hx hb dX6_next_64 (lv_at hl 0 rfl) ?_
              refine lv_iload hx hb dX6_next_66 (lv_at hl 1 rfl) ?_
              refine lv_iadd hx hb dX6_next_68 ?_
              refine lv_istore (lv' := [(5, .int ((nI k) + (-1))), (4, .int (-1)), (0, .ref (ad 11)), (1, .int kd)]) hx hb dX6_next_69 hl (Nat.le_of_ble_eq_true rfl) rfl (fun ls hl => ?_)
              refine lv_goto (tgt := 37) hx hb dX6_next_71 (by decide) ?_
              exact ih k ls H locs hl (by omega) (by rw [he]; simp [es_lb, h4]) hP hS (by omega)
            · skip
              refine lv_iload hx hb dX6_next_61 (lv_at hl 0 rfl) ?_
              refine ef_eqi (y := es_lb (eb_k kd mg mw mP mn) i) (by rw [he]; simp [es_lb, h4]) ?_
              exact ec_iret hx hb hr hlk hP hS ⟨rfl, rfl⟩ dX6_next_63
  have hS : va_S (eA ad) s.heap s.heap [] := va_S.rf
  have hD : va_D (eA ad) (cw ad cI cZ cJ n g w P gm wm gs wz gb go gp gj wb wl wk wo fa mn mg mw mP o) := eD_of hJ rfl
  refine lv_aload_n hx hb dX6_next_0 rfl (lv_at hl 0 rfl) ?_
  refine lv_iconst (v := 0) hx hb dX6_next_1 (by decide) ?_
  refine va_put (D := D) (ci := 5) (v := .int 0) (ty := .int) (C := RX6) (T := TX6) (N := 5) hx hb hts (fun w h => List.mem_cons_of_mem _ (inX6 w h)) tyX6 tyX6_ok nmX6 hown hK hP hD hS 11 rfl rfl 0 (by decide) (eT_h hts tw367) (fun _ h9 => h9) rfl (by decide +kernel) rfl rfl (Nat.le_of_ble_eq_true rfl) dX6_next_2 (fun H locs hP hD hS => ?_)
  have hP : va_P D vwCl (cw ad cI cZ cJ n g w P gm wm gs wz gb go gp gj wb wl wk wo 0 mn mg mw mP o) H := hP
  have hD : va_D (eA ad) (cw ad cI cZ cJ n g w P gm wm gs wz gb go gp gj wb wl wk wo 0 mn mg mw mP o) := hD
  refine lv_aload_n hx hb dX6_next_5 rfl (lv_at hl 0 rfl) ?_
  refine lv_iload_n hx hb dX6_next_6 rfl (lv_at hl 1 rfl) ?_
  refine lv_iload_n hx hb dX6_next_7 rfl (lv_at hl 2 rfl) ?_
  refine er_V (own := RX6) (C := RX6) (b := (ad 11)) (rest := []) hx hb hml hown hts hl.1 (k_X6_bad l D cI cZ cJ (ad 11) (ad 12) (ad 13) (ad 14) 0 mn mg mw mP kd (nI i)) tw410 tw7 tw407 tw409 ts_X6_bad yd_X6_bad rfl rfl ⟨Nat.le_of_ble_eq_true rfl, Nat.le_of_ble_eq_true rfl⟩ (hP.sub [11, 12, 13, 14] rfl) hK hP (q0 := 11) rfl rfl rfl rfl (Nat.le_of_ble_eq_true rfl) ⟨Nat.zero_le _, Nat.zero_le _⟩ dX6_next_8 ?_
  refine ef_if_eq (tgt := 20) hx hb dX6_next_11 (by decide) (fun h5 => ?_) (fun h5 => ?_)
  · skip
    refine lv_iload_n hx hb dX6_next_20 rfl (lv_at hl 3 rfl) ?_
    refine ef_if_eq (tgt := 28) hx hb dX6_next_21 (by decide) (fun h6 => ?_) (fun h6 => ?_)
    · skip
      exact Bool.noConfusion h6
    · skip
      refine lv_iconst (v := (-1)) hx hb dX6_next_24 (by decide) ?_
      refine lv_goto (tgt := 29) hx hb dX6_next_25 (by decide) ?_
      refine lv_istore (lv' := [(4, .int (-1)), (0, .ref (ad 11)), (1, .int kd), (2, .int (nI i)), (3, .int (ef_b true))]) hx hb dX6_next_29 hl (Nat.le_of_ble_eq_true rfl) rfl (fun ls hl => ?_)
      refine lv_iload_n hx hb dX6_next_31 rfl (lv_at hl 3 rfl) ?_
      refine lv_iload hx hb dX6_next_32 (lv_at hl 0 rfl) ?_
      refine lv_iadd hx hb dX6_next_34 ?_
      refine lv_istore (lv' := [(5, .int ((nI i) + (-1))), (4, .int (-1)), (0, .ref (ad 11)), (1, .int kd), (2, .int (nI i)), (3, .int (ef_b true))]) hx hb dX6_next_35 hl (Nat.le_of_ble_eq_true rfl) rfl (fun ls hl => ?_)
      exact L37 _ i ls H locs (lv_sub hl [0, 1, 2, 3] rfl) (Nat.le_refl _) rfl hP hS (Nat.lt_succ_self _)
  · skip
    exact absurd ⟨hk1, ei_ok_n hi hn⟩ (em_bad_t h5)

set_option maxHeartbeats 4000000 in
set_option maxRecDepth 100000 in
theorem c_X6_next_bad (l : Launch) (D : va_G) (cI cZ cJ : ClassId) (ad : Nat → Nat) (hJ : eJ ad) (n : Nat) (g : Nat → Int32) (w : Nat → Int32) (P : Nat → Bool) (gm : Nat → Bool) (wm : Nat → Bool) (gs : Bool) (wz : Bool) (gb : Int32) (go : Bool) (gp : Bool) (gj : Bool) (wb : Int32) (wl : Int32) (wk : Int32) (wo : Bool) (fa : Int32) (mn : Nat) (mg : Nat → Int32) (mw : Nat → Int32) (mP : Nat → Bool) (o : Nat → Int64) (kd z : Int32) (b : Bool) (hbad : ¬ (ei_ok kd 1 ∧ ei_ok z (nI mn))) : ec_M l yX6_next (Cond.code yX6_next cX6_next 6 (some .int) :: eT) ({ frames := 1, cells := 0, slots := 0, locals := 22 }) D (eTy cI cZ cJ) [.ref (ad 11), .int kd, .int z, .int (ef_b b)] (cw ad cI cZ cJ n g w P gm wm gs wz gb go gp gj wb wl wk wo fa mn mg mw mP o) (ed (some (.int 0)) (cw ad cI cZ cJ n g w P gm wm gs wz gb go gp gj wb wl wk wo 1 mn mg mw mP o)) (eA ad) := by
  refine ec_of (cc := cX6_next) (maxL := 6) (ret := (some .int)) (by decide) rfl (Nat.le_of_ble_eq_true rfl) ?_
  intro p e s m args below meth c ls hx hb hr hts hown hlk hml hP hK hN hl
  have hown : s.vm.findClass RX6 = some m.cls := hown
  have hl : lv_has ls 6 [(0, .ref (ad 11)), (1, .int kd), (2, .int z), (3, .int (ef_b b))] := hl
  have hS : va_S (eA ad) s.heap s.heap [] := va_S.rf
  have hD : va_D (eA ad) (cw ad cI cZ cJ n g w P gm wm gs wz gb go gp gj wb wl wk wo fa mn mg mw mP o) := eD_of hJ rfl
  refine lv_aload_n hx hb dX6_next_0 rfl (lv_at hl 0 rfl) ?_
  refine lv_iconst (v := 0) hx hb dX6_next_1 (by decide) ?_
  refine va_put (D := D) (ci := 5) (v := .int 0) (ty := .int) (C := RX6) (T := TX6) (N := 5) hx hb hts (fun w h => List.mem_cons_of_mem _ (inX6 w h)) tyX6 tyX6_ok nmX6 hown hK hP hD hS 11 rfl rfl 0 (by decide) (eT_h hts tw367) (fun _ h9 => h9) rfl (by decide +kernel) rfl rfl (Nat.le_of_ble_eq_true rfl) dX6_next_2 (fun H locs hP hD hS => ?_)
  have hP : va_P D vwCl (cw ad cI cZ cJ n g w P gm wm gs wz gb go gp gj wb wl wk wo 0 mn mg mw mP o) H := hP
  have hD : va_D (eA ad) (cw ad cI cZ cJ n g w P gm wm gs wz gb go gp gj wb wl wk wo 0 mn mg mw mP o) := hD
  refine lv_aload_n hx hb dX6_next_5 rfl (lv_at hl 0 rfl) ?_
  refine lv_iload_n hx hb dX6_next_6 rfl (lv_at hl 1 rfl) ?_
  refine lv_iload_n hx hb dX6_next_7 rfl (lv_at hl 2 rfl) ?_
  refine er_V (own := RX6) (C := RX6) (b := (ad 11)) (rest := []) hx hb hml hown hts hl.1 (k_X6_bad l D cI cZ cJ (ad 11) (ad 12) (ad 13) (ad 14) 0 mn mg mw mP kd z) tw410 tw7 tw407 tw409 ts_X6_bad yd_X6_bad rfl rfl ⟨Nat.le_of_ble_eq_true rfl, Nat.le_of_ble_eq_true rfl⟩ (hP.sub [11, 12, 13, 14] rfl) hK hP (q0 := 11) rfl rfl rfl rfl (Nat.le_of_ble_eq_true rfl) ⟨Nat.zero_le _, Nat.zero_le _⟩ dX6_next_8 ?_
  refine ef_if_eq (tgt := 20) hx hb dX6_next_11 (by decide) (fun h1 => ?_) (fun h1 => ?_)
  · skip
    exact absurd (em_bad_f h1) hbad
  · skip
    refine lv_aload_n hx hb dX6_next_14 rfl (lv_at hl 0 rfl) ?_
    refine lv_iconst (v := 1) hx hb dX6_next_15 (by decide) ?_
    refine ec_V (own := RX6) (C := RX6) (b := (ad 11)) (rest := []) hx hb hml hown hts hl.1 (c_X6_fail l D cI cZ cJ ad hJ n g w P gm wm gs wz gb go gp gj wb wl wk wo 0 mn mg mw mP o 1) tw394 tw7 tw391 tw393 ts_X6_fail yd_X6_fail rfl rfl ⟨Nat.le_of_ble_eq_true rfl, Nat.le_of_ble_eq_true rfl⟩ hP hK hN hP (q0 := 11) rfl rfl rfl rfl (Nat.le_of_ble_eq_true rfl) ⟨Nat.zero_le _, Nat.zero_le _⟩ hS (fun _ h9 => h9) dX6_next_16 (fun v9 W9 H locs hF hP hS hz9 hk9 => ?_)
    obtain ⟨rfl, rfl⟩ := hF
    have hD : va_D (eA ad) (cw ad cI cZ cJ n g w P gm wm gs wz gb go gp gj wb wl wk wo 1 mn mg mw mP o) := eD_of hJ rfl
    refine W.eq (g2 := F0 m 19 ls [.int 0]) rfl ?_
    exact ec_iret hx hb hr hlk hP hS ⟨rfl, rfl⟩ dX6_next_19

set_option maxHeartbeats 4000000 in
set_option maxRecDepth 100000 in
theorem c_X6_rank (l : Launch) (D : va_G) (cI cZ cJ : ClassId) (ad : Nat → Nat) (hJ : eJ ad) (n : Nat) (g : Nat → Int32) (w : Nat → Int32) (P : Nat → Bool) (gm : Nat → Bool) (wm : Nat → Bool) (gs : Bool) (wz : Bool) (gb : Int32) (go : Bool) (gp : Bool) (gj : Bool) (wb : Int32) (wl : Int32) (wk : Int32) (wo : Bool) (fa : Int32) (mn : Nat) (mg : Nat → Int32) (mw : Nat → Int32) (mP : Nat → Bool) (o : Nat → Int64) (kd : Int32) (i : Nat) (hk1 : ei_ok kd 1) (hn : mn ≤ 1000) (hi : i ≤ mn) (hw : ∀ j, mw j ≠ -1) : ec_M l yX6_rank (Cond.code yX6_rank cX6_rank 5 (some .int) :: eT) ({ frames := 5, cells := 0, slots := 0, locals := 118 }) D (eTy cI cZ cJ) [.ref (ad 11), .int kd, .int (nI i)] (cw ad cI cZ cJ n g w P gm wm gs wz gb go gp gj wb wl wk wo fa mn mg mw mP o) (ed (some (.int (nI (es_cu (eb_k kd mg mw mP mn) (i + 1))))) (cw ad cI cZ cJ n g w P gm wm gs wz gb go gp gj wb wl wk wo 0 mn mg mw mP o)) (eA ad) := by
  refine ec_of (cc := cX6_rank) (maxL := 5) (ret := (some .int)) (by decide) rfl (Nat.le_of_ble_eq_true rfl) ?_
  intro p e s m args below meth c ls hx hb hr hts hown hlk hml hP hK hN hl
  have hown : s.vm.findClass RX6 = some m.cls := hown
  have hl : lv_has ls 5 [(0, .ref (ad 11)), (1, .int kd), (2, .int (nI i))] := hl
  have L25 : ∀ (r : Nat) (k : Nat) (ls : Array Slot) (H : Heap) (locs : List Loc), lv_has ls 5 [(4, .int (nI k)), (3, .int (nI (es_cu (eb_k kd mg mw mP mn) k))), (0, .ref (ad 11)), (1, .int kd), (2, .int (nI i))] → k ≤ i + 1 → va_P D vwCl (cw ad cI cZ cJ n g w P gm wm gs wz gb go gp gj wb wl wk wo 0 mn mg mw mP o) H → va_S (eA ad) s.heap H locs → i + 1 - k < r → W p l e ({ frames := 5, cells := 0, slots := 0, locals := 118 }) s m args below meth c H locs 0 0 (MQ below (ec_Q D (ed (some (.int (nI (es_cu (eb_k kd mg mw mP mn) (i + 1))))) (cw ad cI cZ cJ n g w P gm wm gs wz gb go gp gj wb wl wk wo 0 mn mg mw mP o)) (eA ad)) args s 0 0 (eA ad)) (F0 m 25 ls []) := by
    intro r
    induction r with
    | zero => intro k ls H locs hl hk hP hS hμ; exact absurd hμ (Nat.not_lt_zero _)
    | succ r ih =>
      intro k ls H locs hl hk hP hS hμ
      have hD : va_D (eA ad) (cw ad cI cZ cJ n g w P gm wm gs wz gb go gp gj wb wl wk wo 0 mn mg mw mP o) := eD_of hJ rfl
      refine lv_iload hx hb dX6_rank_25 (lv_at hl 0 rfl) ?_
      refine lv_iload_n hx hb dX6_rank_27 rfl (lv_at hl 4 rfl) ?_
      refine lv_icmp_gt (tgt := 55) hx hb dX6_rank_28 (by decide) (fun h1 => ?_) (fun h1 => ?_)
      · skip
        have h1 : i < k := (nI_ltI (a := i) (b := k) (by omega) (by omega)).mp h1
        refine lv_iload_n hx hb dX6_rank_55 rfl (lv_at hl 1 rfl) ?_
        refine ef_eqi (y := nI (es_cu (eb_k kd mg mw mP mn) (i + 1))) (by rw [show k = i + 1 by omega]) ?_
        exact ec_iret hx hb hr hlk hP hS ⟨rfl, rfl⟩ dX6_rank_56
      · skip
        have h1 : ¬ (i < k) := fun q9 => h1 ((nI_ltI (a := i) (b := k) (by omega) (by omega)).mpr q9)
        refine lv_iload_n hx hb dX6_rank_31 rfl (lv_at hl 1 rfl) ?_
        refine lv_aload_n hx hb dX6_rank_32 rfl (lv_at hl 2 rfl) ?_
        refine lv_iload_n hx hb dX6_rank_33 rfl (lv_at hl 3 rfl) ?_
        refine lv_iload hx hb dX6_rank_34 (lv_at hl 0 rfl) ?_
        refine er_V (own := RX6) (C := RX6) (b := (ad 11)) (rest := [.int (nI (es_cu (eb_k kd mg mw mP mn) k))]) hx hb hml hown hts hl.1 (k_X6_boundary l D cI cZ cJ (ad 11) (ad 12) (ad 13) (ad 14) 0 mn mg mw mP kd k hn (by omega) hw) tw414 tw7 tw411 tw413 ts_X6_boundary yd_X6_boundary rfl rfl ⟨Nat.le_of_ble_eq_true rfl, Nat.le_of_ble_eq_true rfl⟩ (hP.sub [11, 12, 13, 14] rfl) hK hP (q0 := 11) rfl rfl rfl rfl (Nat.le_of_ble_eq_true rfl) ⟨Nat.zero_le _, Nat.zero_le _⟩ dX6_rank_36 ?_
        refine ef_if_eq (tgt := 46) hx hb dX6_rank_39 (by decide) (fun h2 => ?_) (fun h2 => ?_)
        · skip
          refine lv_iconst (v := 0) hx hb dX6_rank_46 (by decide) ?_
          refine lv_iadd hx hb dX6_rank_47 ?_
          refine ef_eqi (y := nI (es_cu (eb_k kd mg mw mP mn) k + 0)) (nI_add (es_cu (eb_k kd mg mw mP mn) k) 0) ?_
          refine lv_istore_n (lv' := [(3, .int (nI (es_cu (eb_k kd mg mw mP mn) k + 0))), (4, .int (nI k)), (0, .ref (ad 11)), (1, .int kd), (2, .int (nI i))]) hx hb dX6_rank_48 rfl hl (Nat.le_of_ble_eq_true rfl) rfl (fun ls hl => ?_)
          refine lv_iinc (k := 1) (v := nI (k + 1)) (lv' := [(4, .int (nI (k + 1))), (3, .int (nI (es_cu (eb_k kd mg mw mP mn) k + 0))), (0, .ref (ad 11)), (1, .int kd), (2, .int (nI i))]) hx hb dX6_rank_49 hl rfl (by rw [show Int32.ofInt 1 = 1 from by decide]; exact nI_1 _) (Nat.le_of_ble_eq_true rfl) rfl (fun ls hl => ?_)
          refine lv_goto (tgt := 25) hx hb dX6_rank_52 (by decide) ?_
          have hl : lv_has ls 5 [(4, .int (nI (k + 1))), (3, .int (nI (es_cu (eb_k kd mg mw mP mn) (k + 1)))), (0, .ref (ad 11)), (1, .int kd), (2, .int (nI i))] := by rw [show nI (es_cu (eb_k kd mg mw mP mn) (k + 1)) = nI (es_cu (eb_k kd mg mw mP mn) k + 0) from (by simp [es_cu, h2])]; exact hl
          exact ih (k + 1) ls H locs hl (by omega) hP hS (by omega)
        · skip
          refine lv_iconst (v := 1) hx hb dX6_rank_42 (by decide) ?_
          refine lv_goto (tgt := 47) hx hb dX6_rank_43 (by decide) ?_
          refine lv_iadd hx hb dX6_rank_47 ?_
          refine ef_eqi (y := nI (es_cu (eb_k kd mg mw mP mn) k + 1)) (nI_add (es_cu (eb_k kd mg mw mP mn) k) 1) ?_
          refine lv_istore_n (lv' := [(3, .int (nI (es_cu (eb_k kd mg mw mP mn) k + 1))), (4, .int (nI k)), (0, .ref (ad 11)), (1, .int kd), (2, .int (nI i))]) hx hb dX6_rank_48 rfl hl (Nat.le_of_ble_eq_true rfl) rfl (fun ls hl => ?_)
          refine lv_iinc (k := 1) (v := nI (k + 1)) (lv' := [(4, .int (nI (k + 1))), (3, .int (nI (es_cu (eb_k kd mg mw mP mn) k + 1))), (0, .ref (ad 11)), (1, .int kd), (2, .int (nI i))]) hx hb dX6_rank_49 hl rfl (by rw [show Int32.ofInt 1 = 1 from by decide]; exact nI_1 _) (Nat.le_of_ble_eq_true rfl) rfl (fun ls hl => ?_)
          refine lv_goto (tgt := 25) hx hb dX6_rank_52 (by decide) ?_
          have hl : lv_has ls 5 [(4, .int (nI (k + 1))), (3, .int (nI (es_cu (eb_k kd mg mw mP mn) (k + 1)))), (0, .ref (ad 11)), (1, .int kd), (2, .int (nI i))] := by rw [show nI (es_cu (eb_k kd mg mw mP mn) (k + 1)) = nI (es_cu (eb_k kd mg mw mP mn) k + 1) from (by simp [es_cu, h2])]; exact hl
          exact ih (k + 1) ls H locs hl (by omega) hP hS (by omega)
  have hS : va_S (eA ad) s.heap s.heap [] := va_S.rf
  have hD : va_D (eA ad) (cw ad cI cZ cJ n g w P gm wm gs wz gb go gp gj wb wl wk wo fa mn mg mw mP o) := eD_of hJ rfl
  refine lv_aload_n hx hb dX6_rank_0 rfl (lv_at hl 0 rfl) ?_
  refine lv_iconst (v := 0) hx hb dX6_rank_1 (by decide) ?_
  refine va_put (D := D) (ci := 5) (v := .int 0) (ty := .int) (C := RX6) (T := TX6) (N := 5) hx hb hts (fun w h => List.mem_cons_of_mem _ (inX6 w h)) tyX6 tyX6_ok nmX6 hown hK hP hD hS 11 rfl rfl 0 (by decide) (eT_h hts tw367) (fun _ h9 => h9) rfl (by decide +kernel) rfl rfl (Nat.le_of_ble_eq_true rfl) dX6_rank_2 (fun H locs hP hD hS => ?_)
  have hP : va_P D vwCl (cw ad cI cZ cJ n g w P gm wm gs wz gb go gp gj wb wl wk wo 0 mn mg mw mP o) H := hP
  have hD : va_D (eA ad) (cw ad cI cZ cJ n g w P gm wm gs wz gb go gp gj wb wl wk wo 0 mn mg mw mP o) := hD
  refine lv_aload_n hx hb dX6_rank_5 rfl (lv_at hl 0 rfl) ?_
  refine lv_iload_n hx hb dX6_rank_6 rfl (lv_at hl 1 rfl) ?_
  refine lv_iload_n hx hb dX6_rank_7 rfl (lv_at hl 2 rfl) ?_
  refine er_V (own := RX6) (C := RX6) (b := (ad 11)) (rest := []) hx hb hml hown hts hl.1 (k_X6_bad l D cI cZ cJ (ad 11) (ad 12) (ad 13) (ad 14) 0 mn mg mw mP kd (nI i)) tw410 tw7 tw407 tw409 ts_X6_bad yd_X6_bad rfl rfl ⟨Nat.le_of_ble_eq_true rfl, Nat.le_of_ble_eq_true rfl⟩ (hP.sub [11, 12, 13, 14] rfl) hK hP (q0 := 11) rfl rfl rfl rfl (Nat.le_of_ble_eq_true rfl) ⟨Nat.zero_le _, Nat.zero_le _⟩ dX6_rank_8 ?_
  refine ef_if_eq (tgt := 20) hx hb dX6_rank_11 (by decide) (fun h3 => ?_) (fun h3 => ?_)
  · skip
    refine lv_iconst (v := 0) hx hb dX6_rank_20 (by decide) ?_
    refine lv_istore_n (lv' := [(3, .int 0), (0, .ref (ad 11)), (1, .int kd), (2, .int (nI i))]) hx hb dX6_rank_21 rfl hl (Nat.le_of_ble_eq_true rfl) rfl (fun ls hl => ?_)
    refine lv_iconst (v := 0) hx hb dX6_rank_22 (by decide) ?_
    refine lv_istore (lv' := [(4, .int 0), (3, .int 0), (0, .ref (ad 11)), (1, .int kd), (2, .int (nI i))]) hx hb dX6_rank_23 hl (Nat.le_of_ble_eq_true rfl) rfl (fun ls hl => ?_)
    exact L25 _ 0 ls H locs hl (Nat.zero_le _) hP hS (Nat.lt_succ_self _)
  · skip
    exact absurd ⟨hk1, ei_ok_n hi hn⟩ (em_bad_t h3)

set_option maxHeartbeats 4000000 in
set_option maxRecDepth 100000 in
theorem c_X6_rank_bad (l : Launch) (D : va_G) (cI cZ cJ : ClassId) (ad : Nat → Nat) (hJ : eJ ad) (n : Nat) (g : Nat → Int32) (w : Nat → Int32) (P : Nat → Bool) (gm : Nat → Bool) (wm : Nat → Bool) (gs : Bool) (wz : Bool) (gb : Int32) (go : Bool) (gp : Bool) (gj : Bool) (wb : Int32) (wl : Int32) (wk : Int32) (wo : Bool) (fa : Int32) (mn : Nat) (mg : Nat → Int32) (mw : Nat → Int32) (mP : Nat → Bool) (o : Nat → Int64) (kd z : Int32) (hbad : ¬ (ei_ok kd 1 ∧ ei_ok z (nI mn))) : ec_M l yX6_rank (Cond.code yX6_rank cX6_rank 5 (some .int) :: eT) ({ frames := 1, cells := 0, slots := 0, locals := 22 }) D (eTy cI cZ cJ) [.ref (ad 11), .int kd, .int z] (cw ad cI cZ cJ n g w P gm wm gs wz gb go gp gj wb wl wk wo fa mn mg mw mP o) (ed (some (.int 0)) (cw ad cI cZ cJ n g w P gm wm gs wz gb go gp gj wb wl wk wo 1 mn mg mw mP o)) (eA ad) := by
  refine ec_of (cc := cX6_rank) (maxL := 5) (ret := (some .int)) (by decide) rfl (Nat.le_of_ble_eq_true rfl) ?_
  intro p e s m args below meth c ls hx hb hr hts hown hlk hml hP hK hN hl
  have hown : s.vm.findClass RX6 = some m.cls := hown
  have hl : lv_has ls 5 [(0, .ref (ad 11)), (1, .int kd), (2, .int z)] := hl
  have hS : va_S (eA ad) s.heap s.heap [] := va_S.rf
  have hD : va_D (eA ad) (cw ad cI cZ cJ n g w P gm wm gs wz gb go gp gj wb wl wk wo fa mn mg mw mP o) := eD_of hJ rfl
  refine lv_aload_n hx hb dX6_rank_0 rfl (lv_at hl 0 rfl) ?_
  refine lv_iconst (v := 0) hx hb dX6_rank_1 (by decide) ?_
  refine va_put (D := D) (ci := 5) (v := .int 0) (ty := .int) (C := RX6) (T := TX6) (N := 5) hx hb hts (fun w h => List.mem_cons_of_mem _ (inX6 w h)) tyX6 tyX6_ok nmX6 hown hK hP hD hS 11 rfl rfl 0 (by decide) (eT_h hts tw367) (fun _ h9 => h9) rfl (by decide +kernel) rfl rfl (Nat.le_of_ble_eq_true rfl) dX6_rank_2 (fun H locs hP hD hS => ?_)
  have hP : va_P D vwCl (cw ad cI cZ cJ n g w P gm wm gs wz gb go gp gj wb wl wk wo 0 mn mg mw mP o) H := hP
  have hD : va_D (eA ad) (cw ad cI cZ cJ n g w P gm wm gs wz gb go gp gj wb wl wk wo 0 mn mg mw mP o) := hD
  refine lv_aload_n hx hb dX6_rank_5 rfl (lv_at hl 0 rfl) ?_
  refine lv_iload_n hx hb dX6_rank_6 rfl (lv_at hl 1 rfl) ?_
  refine lv_iload_n hx hb dX6_rank_7 rfl (lv_at hl 2 rfl) ?_
  refine er_V (own := RX6) (C := RX6) (b := (ad 11)) (rest := []) hx hb hml hown hts hl.1 (k_X6_bad l D cI cZ cJ (ad 11) (ad 12) (ad 13) (ad 14) 0 mn mg mw mP kd z) tw410 tw7 tw407 tw409 ts_X6_bad yd_X6_bad rfl rfl ⟨Nat.le_of_ble_eq_true rfl, Nat.le_of_ble_eq_true rfl⟩ (hP.sub [11, 12, 13, 14] rfl) hK hP (q0 := 11) rfl rfl rfl rfl (Nat.le_of_ble_eq_true rfl) ⟨Nat.zero_le _, Nat.zero_le _⟩ dX6_rank_8 ?_
  refine ef_if_eq (tgt := 20) hx hb dX6_rank_11 (by decide) (fun h1 => ?_) (fun h1 => ?_)
  · skip
    exact absurd (em_bad_f h1) hbad
  · skip
    refine lv_aload_n hx hb dX6_rank_14 rfl (lv_at hl 0 rfl) ?_
    refine lv_iconst (v := 1) hx hb dX6_rank_15 (by decide) ?_
    refine ec_V (own := RX6) (C := RX6) (b := (ad 11)) (rest := []) hx hb hml hown hts hl.1 (c_X6_fail l D cI cZ cJ ad hJ n g w P gm wm gs wz gb go gp gj wb wl wk wo 0 mn mg mw mP o 1) tw394 tw7 tw391 tw393 ts_X6_fail yd_X6_fail rfl rfl ⟨Nat.le_of_ble_eq_true rfl, Nat.le_of_ble_eq_true rfl⟩ hP hK hN hP (q0 := 11) rfl rfl rfl rfl (Nat.le_of_ble_eq_true rfl) ⟨Nat.zero_le _, Nat.zero_le _⟩ hS (fun _ h9 => h9) dX6_rank_16 (fun v9 W9 H locs hF hP hS hz9 hk9 => ?_)
    obtain ⟨rfl, rfl⟩ := hF
    have hD : va_D (eA ad) (cw ad cI cZ cJ n g w P gm wm gs wz gb go gp gj wb wl wk wo 1 mn mg mw mP o) := eD_of hJ rfl
    refine W.eq (g2 := F0 m 19 ls [.int 0]) rfl ?_
    exact ec_iret hx hb hr hlk hP hS ⟨rfl, rfl⟩ dX6_rank_19

set_option maxHeartbeats 4000000 in
set_option maxRecDepth 100000 in
theorem c_X6_hash (l : Launch) (D : va_G) (cI cZ cJ : ClassId) (ad : Nat → Nat) (hJ : eJ ad) (n : Nat) (g : Nat → Int32) (w : Nat → Int32) (P : Nat → Bool) (gm : Nat → Bool) (wm : Nat → Bool) (gs : Bool) (wz : Bool) (gb : Int32) (go : Bool) (gp : Bool) (gj : Bool) (wb : Int32) (wl : Int32) (wk : Int32) (wo : Bool) (fa : Int32) (mn : Nat) (mg : Nat → Int32) (mw : Nat → Int32) (mP : Nat → Bool) (o : Nat → Int64) (kd : Int32) (hk1 : ei_ok kd 1) (hn : mn ≤ 1000) (hw : ∀ j, mw j ≠ -1) : ec_M l yX6_hash (Cond.code yX6_hash cX6_hash 4 (some .int) :: eT) ({ frames := 5, cells := 0, slots := 0, locals := 118 }) D (eTy cI cZ cJ) [.ref (ad 11), .int kd] (cw ad cI cZ cJ n g w P gm wm gs wz gb go gp gj wb wl wk wo fa mn mg mw mP o) (ed (some (.int (es_mx (eb_k kd mg mw mP mn) (mn + 1)))) (cw ad cI cZ cJ n g w P gm wm gs wz gb go gp gj wb wl wk wo 0 mn mg mw mP o)) (eA ad) := by
  refine ec_of (cc := cX6_hash) (maxL := 4) (ret := (some .int)) (by decide) rfl (Nat.le_of_ble_eq_true rfl) ?_
  intro p e s m args below meth c ls hx hb hr hts hown hlk hml hP hK hN hl
  have hown : s.vm.findClass RX6 = some m.cls := hown
  have hl : lv_has ls 4 [(0, .ref (ad 11)), (1, .int kd)] := hl
  have L24 : ∀ (r : Nat) (k : Nat) (ls : Array Slot) (H : Heap) (locs : List Loc), lv_has ls 4 [(3, .int (nI k)), (2, .int (es_mx (eb_k kd mg mw mP mn) k)), (0, .ref (ad 11)), (1, .int kd)] → k ≤ mn + 1 → va_P D vwCl (cw ad cI cZ cJ n g w P gm wm gs wz gb go gp gj wb wl wk wo 0 mn mg mw mP o) H → va_S (eA ad) s.heap H locs → mn + 1 - k < r → W p l e ({ frames := 5, cells := 0, slots := 0, locals := 118 }) s m args below meth c H locs 0 0 (MQ below (ec_Q D (ed (some (.int (es_mx (eb_k kd mg mw mP mn) (mn + 1)))) (cw ad cI cZ cJ n g w P gm wm gs wz gb go gp gj wb wl wk wo 0 mn mg mw mP o)) (eA ad)) args s 0 0 (eA ad)) (F0 m 24 ls []) := by
    intro r
    induction r with
    | zero => intro k ls H locs hl hk hP hS hμ; exact absurd hμ (Nat.not_lt_zero _)
    | succ r ih =>
      intro k ls H locs hl hk hP hS hμ
      have hD : va_D (eA ad) (cw ad cI cZ cJ n g w P gm wm gs wz gb go gp gj wb wl wk wo 0 mn mg mw mP o) := eD_of hJ rfl
      refine lv_iload_n hx hb dX6_hash_24 rfl (lv_at hl 0 rfl) ?_
      refine lv_aload_n hx hb dX6_hash_25 rfl (lv_at hl 2 rfl) ?_
      refine va_get (D := D) (ci := 5) (v := .int (nI mn)) (C := RX6) (T := TX6) (N := 5) hx hb hts (fun w h => List.mem_cons_of_mem _ (inX6 w h)) hown hK hP 11 rfl rfl 1 (by decide) (eT_h hts tw368) (fun _ h9 => h9) rfl dX6_hash_26 ?_
      refine lv_icmp_gt (tgt := 54) hx hb dX6_hash_29 (by decide) (fun h1 => ?_) (fun h1 => ?_)
      · skip
        have h1 : mn < k := (nI_ltI (a := mn) (b := k) (by omega) (by omega)).mp h1
        refine lv_iload_n hx hb dX6_hash_54 rfl (lv_at hl 1 rfl) ?_
        refine ef_eqi (y := es_mx (eb_k kd mg mw mP mn) (mn + 1)) (by rw [show k = mn + 1 by omega]) ?_
        exact ec_iret hx hb hr hlk hP hS ⟨rfl, rfl⟩ dX6_hash_55
      · skip
        have h1 : ¬ (mn < k) := fun q9 => h1 ((nI_ltI (a := mn) (b := k) (by omega) (by omega)).mpr q9)
        refine lv_aload_n hx hb dX6_hash_32 rfl (lv_at hl 2 rfl) ?_
        refine lv_iload_n hx hb dX6_hash_33 rfl (lv_at hl 3 rfl) ?_
        refine lv_iload_n hx hb dX6_hash_34 rfl (lv_at hl 0 rfl) ?_
        refine er_V (own := RX6) (C := RX6) (b := (ad 11)) (rest := []) hx hb hml hown hts hl.1 (k_X6_boundary l D cI cZ cJ (ad 11) (ad 12) (ad 13) (ad 14) 0 mn mg mw mP kd k hn (by omega) hw) tw414 tw7 tw411 tw413 ts_X6_boundary yd_X6_boundary rfl rfl ⟨Nat.le_of_ble_eq_true rfl, Nat.le_of_ble_eq_true rfl⟩ (hP.sub [11, 12, 13, 14] rfl) hK hP (q0 := 11) rfl rfl rfl rfl (Nat.le_of_ble_eq_true rfl) ⟨Nat.zero_le _, Nat.zero_le _⟩ dX6_hash_35 ?_
        refine ef_if_eq (tgt := 48) hx hb dX6_hash_38 (by decide) (fun h2 => ?_) (fun h2 => ?_)
        · skip
          refine lv_iinc (k := 0) (v := nI (k + 1)) (lv' := [(3, .int (nI (k + 1))), (2, .int (es_mx (eb_k kd mg mw mP mn) k)), (0, .ref (ad 11)), (1, .int kd)]) hx hb dX6_hash_48 hl rfl (by rw [show Int32.ofInt 1 = 1 from by decide]; exact nI_1 _) (Nat.le_of_ble_eq_true rfl) rfl (fun ls hl => ?_)
          refine lv_goto (tgt := 24) hx hb dX6_hash_51 (by decide) ?_
          have hl : lv_has ls 4 [(3, .int (nI (k + 1))), (2, .int (es_mx (eb_k kd mg mw mP mn) (k + 1))), (0, .ref (ad 11)), (1, .int kd)] := by rw [show es_mx (eb_k kd mg mw mP mn) (k + 1) = es_mx (eb_k kd mg mw mP mn) k from (by simp [es_mx, h2])]; exact hl
          exact ih (k + 1) ls H locs hl (by omega) hP hS (by omega)
        · skip
          refine lv_bipush (v := 31) hx hb dX6_hash_41 (by decide) ?_
          refine lv_iload_n hx hb dX6_hash_43 rfl (lv_at hl 1 rfl) ?_
          refine lv_imul hx hb dX6_hash_44 ?_
          refine lv_iload_n hx hb dX6_hash_45 rfl (lv_at hl 0 rfl) ?_
          refine lv_iadd hx hb dX6_hash_46 ?_
          refine lv_istore_n (lv' := [(2, .int ((31 * (es_mx (eb_k kd mg mw mP mn) k)) + (nI k))), (3, .int (nI k)), (0, .ref (ad 11)), (1, .int kd)]) hx hb dX6_hash_47 rfl hl (Nat.le_of_ble_eq_true rfl) rfl (fun ls hl => ?_)
          refine lv_iinc (k := 1) (v := nI (k + 1)) (lv' := [(3, .int (nI (k + 1))), (2, .int ((31 * (es_mx (eb_k kd mg mw mP mn) k)) + (nI k))), (0, .ref (ad 11)), (1, .int kd)]) hx hb dX6_hash_48 hl rfl (by rw [show Int32.ofInt 1 = 1 from by decide]; exact nI_1 _) (Nat.le_of_ble_eq_true rfl) rfl (fun ls hl => ?_)
          refine lv_goto (tgt := 24) hx hb dX6_hash_51 (by decide) ?_
          have hl : lv_has ls 4 [(3, .int (nI (k + 1))), (2, .int (es_mx (eb_k kd mg mw mP mn) (k + 1))), (0, .ref (ad 11)), (1, .int kd)] := by rw [show es_mx (eb_k kd mg mw mP mn) (k + 1) = (31 * (es_mx (eb_k kd mg mw mP mn) k)) + (nI k) from (by simp [es_mx, h2])]; exact hl
          exact ih (k + 1) ls H locs hl (by omega) hP hS (by omega)
  have hS : va_S (eA ad) s.heap s.heap [] := va_S.rf
  have hD : va_D (eA ad) (cw ad cI cZ cJ n g w P gm wm gs wz gb go gp gj wb wl wk wo fa mn mg mw mP o) := eD_of hJ rfl
  refine lv_aload_n hx hb dX6_hash_0 rfl (lv_at hl 0 rfl) ?_
  refine lv_iconst (v := 0) hx hb dX6_hash_1 (by decide) ?_
  refine va_put (D := D) (ci := 5) (v := .int 0) (ty := .int) (C := RX6) (T := TX6) (N := 5) hx hb hts (fun w h => List.mem_cons_of_mem _ (inX6 w h)) tyX6 tyX6_ok nmX6 hown hK hP hD hS 11 rfl rfl 0 (by decide) (eT_h hts tw367) (fun _ h9 => h9) rfl (by decide +kernel) rfl rfl (Nat.le_of_ble_eq_true rfl) dX6_hash_2 (fun H locs hP hD hS => ?_)
  have hP : va_P D vwCl (cw ad cI cZ cJ n g w P gm wm gs wz gb go gp gj wb wl wk wo 0 mn mg mw mP o) H := hP
  have hD : va_D (eA ad) (cw ad cI cZ cJ n g w P gm wm gs wz gb go gp gj wb wl wk wo 0 mn mg mw mP o) := hD
  refine lv_iload_n hx hb dX6_hash_5 rfl (lv_at hl 1 rfl) ?_
  refine lv_if_lt (tgt := 14) hx hb dX6_hash_6 (by decide) (fun h3 => ?_) (fun h3 => ?_)
  · skip
    exact absurd h3 hk1.1
  · skip
    refine lv_iload_n hx hb dX6_hash_9 rfl (lv_at hl 1 rfl) ?_
    refine lv_iconst (v := 1) hx hb dX6_hash_10 (by decide) ?_
    refine lv_icmp_le (tgt := 20) hx hb dX6_hash_11 (by decide) (fun h4 => ?_) (fun h4 => ?_)
    · skip
      refine lv_iconst (v := 1) hx hb dX6_hash_20 (by decide) ?_
      refine lv_istore_n (lv' := [(2, .int 1), (0, .ref (ad 11)), (1, .int kd)]) hx hb dX6_hash_21 rfl hl (Nat.le_of_ble_eq_true rfl) rfl (fun ls hl => ?_)
      refine lv_iconst (v := 0) hx hb dX6_hash_22 (by decide) ?_
      refine lv_istore_n (lv' := [(3, .int 0), (2, .int 1), (0, .ref (ad 11)), (1, .int kd)]) hx hb dX6_hash_23 rfl hl (Nat.le_of_ble_eq_true rfl) rfl (fun ls hl => ?_)
      exact L24 _ 0 ls H locs hl (Nat.zero_le _) hP hS (Nat.lt_succ_self _)
    · skip
      exact absurd hk1.2 h4

set_option maxHeartbeats 4000000 in
set_option maxRecDepth 100000 in
theorem c_X6_hash_bad (l : Launch) (D : va_G) (cI cZ cJ : ClassId) (ad : Nat → Nat) (hJ : eJ ad) (n : Nat) (g : Nat → Int32) (w : Nat → Int32) (P : Nat → Bool) (gm : Nat → Bool) (wm : Nat → Bool) (gs : Bool) (wz : Bool) (gb : Int32) (go : Bool) (gp : Bool) (gj : Bool) (wb : Int32) (wl : Int32) (wk : Int32) (wo : Bool) (fa : Int32) (mn : Nat) (mg : Nat → Int32) (mw : Nat → Int32) (mP : Nat → Bool) (o : Nat → Int64) (kd : Int32) (hbad : ¬ ei_ok kd 1) : ec_M l yX6_hash (Cond.code yX6_hash cX6_hash 4 (some .int) :: eT) ({ frames := 1, cells := 0, slots := 0, locals := 21 }) D (eTy cI cZ cJ) [.ref (ad 11), .int kd] (cw ad cI cZ cJ n g w P gm wm gs wz gb go gp gj wb wl wk wo fa mn mg mw mP o) (ed (some (.int 0)) (cw ad cI cZ cJ n g w P gm wm gs wz gb go gp gj wb wl wk wo 1 mn mg mw mP o)) (eA ad) := by
  refine ec_of (cc := cX6_hash) (maxL := 4) (ret := (some .int)) (by decide) rfl (Nat.le_of_ble_eq_true rfl) ?_
  intro p e s m args below meth c ls hx hb hr hts hown hlk hml hP hK hN hl
  have hown : s.vm.findClass RX6 = some m.cls := hown
  have hl : lv_has ls 4 [(0, .ref (ad 11)), (1, .int kd)] := hl
  have hS : va_S (eA ad) s.heap s.heap [] := va_S.rf
  have hD : va_D (eA ad) (cw ad cI cZ cJ n g w P gm wm gs wz gb go gp gj wb wl wk wo fa mn mg mw mP o) := eD_of hJ rfl
  refine lv_aload_n hx hb dX6_hash_0 rfl (lv_at hl 0 rfl) ?_
  refine lv_iconst (v := 0) hx hb dX6_hash_1 (by decide) ?_
  refine va_put (D := D) (ci := 5) (v := .int 0) (ty := .int) (C := RX6) (T := TX6) (N := 5) hx hb hts (fun w h => List.mem_cons_of_mem _ (inX6 w h)) tyX6 tyX6_ok nmX6 hown hK hP hD hS 11 rfl rfl 0 (by decide) (eT_h hts tw367) (fun _ h9 => h9) rfl (by decide +kernel) rfl rfl (Nat.le_of_ble_eq_true rfl) dX6_hash_2 (fun H locs hP hD hS => ?_)
  have hP : va_P D vwCl (cw ad cI cZ cJ n g w P gm wm gs wz gb go gp gj wb wl wk wo 0 mn mg mw mP o) H := hP
  have hD : va_D (eA ad) (cw ad cI cZ cJ n g w P gm wm gs wz gb go gp gj wb wl wk wo 0 mn mg mw mP o) := hD
  refine lv_iload_n hx hb dX6_hash_5 rfl (lv_at hl 1 rfl) ?_
  refine lv_if_lt (tgt := 14) hx hb dX6_hash_6 (by decide) (fun h1 => ?_) (fun h1 => ?_)
  · skip
    refine lv_aload_n hx hb dX6_hash_14 rfl (lv_at hl 0 rfl) ?_
    refine lv_iconst (v := 1) hx hb dX6_hash_15 (by decide) ?_
    refine ec_V (own := RX6) (C := RX6) (b := (ad 11)) (rest := []) hx hb hml hown hts hl.1 (c_X6_fail l D cI cZ cJ ad hJ n g w P gm wm gs wz gb go gp gj wb wl wk wo 0 mn mg mw mP o 1) tw394 tw7 tw391 tw393 ts_X6_fail yd_X6_fail rfl rfl ⟨Nat.le_of_ble_eq_true rfl, Nat.le_of_ble_eq_true rfl⟩ hP hK hN hP (q0 := 11) rfl rfl rfl rfl (Nat.le_of_ble_eq_true rfl) ⟨Nat.zero_le _, Nat.zero_le _⟩ hS (fun _ h9 => h9) dX6_hash_16 (fun v9 W9 H locs hF hP hS hz9 hk9 => ?_)
    obtain ⟨rfl, rfl⟩ := hF
    have hD : va_D (eA ad) (cw ad cI cZ cJ n g w P gm wm gs wz gb go gp gj wb wl wk wo 1 mn mg mw mP o) := eD_of hJ rfl
    refine W.eq (g2 := F0 m 19 ls [.int 0]) rfl ?_
    exact ec_iret hx hb hr hlk hP hS ⟨rfl, rfl⟩ dX6_hash_19
  · skip
    refine lv_iload_n hx hb dX6_hash_9 rfl (lv_at hl 1 rfl) ?_
    refine lv_iconst (v := 1) hx hb dX6_hash_10 (by decide) ?_
    refine lv_icmp_le (tgt := 20) hx hb dX6_hash_11 (by decide) (fun h2 => ?_) (fun h2 => ?_)
    · skip
      exact absurd ⟨h1, h2⟩ hbad
    · skip
      refine lv_aload_n hx hb dX6_hash_14 rfl (lv_at hl 0 rfl) ?_
      refine lv_iconst (v := 1) hx hb dX6_hash_15 (by decide) ?_
      refine ec_V (own := RX6) (C := RX6) (b := (ad 11)) (rest := []) hx hb hml hown hts hl.1 (c_X6_fail l D cI cZ cJ ad hJ n g w P gm wm gs wz gb go gp gj wb wl wk wo 0 mn mg mw mP o 1) tw394 tw7 tw391 tw393 ts_X6_fail yd_X6_fail rfl rfl ⟨Nat.le_of_ble_eq_true rfl, Nat.le_of_ble_eq_true rfl⟩ hP hK hN hP (q0 := 11) rfl rfl rfl rfl (Nat.le_of_ble_eq_true rfl) ⟨Nat.zero_le _, Nat.zero_le _⟩ hS (fun _ h9 => h9) dX6_hash_16 (fun v9 W9 H locs hF hP hS hz9 hk9 => ?_)
      obtain ⟨rfl, rfl⟩ := hF
      have hD : va_D (eA ad) (cw ad cI cZ cJ n g w P gm wm gs wz gb go gp gj wb wl wk wo 1 mn mg mw mP o) := eD_of hJ rfl
      refine W.eq (g2 := F0 m 19 ls [.int 0]) rfl ?_
      exact ec_iret hx hb hr hlk hP hS ⟨rfl, rfl⟩ dX6_hash_19
