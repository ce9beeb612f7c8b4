set_option maxHeartbeats 4000000 in
set_option maxRecDepth 100000 in
theorem k_X1_isSyllable (l : Launch) (D : va_G) (cI cZ cJ : ClassId) (h0 : Nat) (bf : Int32) (od ap aj : Bool) (x : Int32) : er_M l yX1_isSyllable (Cond.code yX1_isSyllable cX1_isSyllable 2 (some .boolean) :: eT) ({ frames := 0, cells := 0, slots := 0, locals := 0 }) D vwCl (eTy cI cZ cJ) [.ref h0, .int x] [(h0, .inr (1, [.int bf, .int (ef_b od), .int (ef_b ap), .int (ef_b aj)]))] (.int (ef_b (eg_syl bf x))) := by
  refine er_of (cc := cX1_isSyllable) (maxL := 2) (ret := (some .boolean)) (by decide) rfl (Nat.le_of_ble_eq_true rfl) ?_
  intro p e s m args below meth c ls hx hb hr hts hown hlk hml hP hK hl
  have hown : s.vm.findClass RX1 = some m.cls := hown
  have hl : lv_has ls 2 [(0, .ref h0), (1, .int x)] := hl
  refine lv_aload_n hx hb dX1_isSyllable_0 rfl (lv_at hl 0 rfl) ?_
  refine va_get (D := D) (ci := 1) (v := .int bf) (C := RX1) (T := TX1) (N := 4) hx hb hts (fun w h => List.mem_cons_of_mem _ (inX1 w h)) hown hK hP 0 rfl rfl 0 (by decide) (eT_h hts tw60) (fun _ h9 => h9) rfl dX1_isSyllable_1 ?_
  by_cases q9 : bf = 9
  · refine lv_tableIn (off := 36) (tgt := 40) hx hb dX1_isSyllable_4 (by rw [q9]; decide) (by rw [q9]; decide) (by rw [q9]; decide) (by decide) ?_
    refine lv_iload_n hx hb dX1_isSyllable_40 rfl (lv_at hl 1 rfl) ?_
    refine lv_bipush (v := 9) hx hb dX1_isSyllable_41 (by decide) ?_
    refine lv_icmp_eq (tgt := 64) hx hb dX1_isSyllable_43 (by decide) (fun h1 => ?_) (fun h1 => ?_)
    · skip
      refine lv_iconst (v := 1) hx hb dX1_isSyllable_64 (by decide) ?_
      refine lv_goto (tgt := 69) hx hb dX1_isSyllable_65 (by decide) ?_
      exact er_zret hx hb hr hlk (by simp [ef_b, eg_syl, q9, h1] <;> decide) dX1_isSyllable_69
    · skip
      refine lv_iload_n hx hb dX1_isSyllable_46 rfl (lv_at hl 1 rfl) ?_
      refine lv_bipush (v := 10) hx hb dX1_isSyllable_47 (by decide) ?_
      refine lv_icmp_eq (tgt := 64) hx hb dX1_isSyllable_49 (by decide) (fun h2 => ?_) (fun h2 => ?_)
      · skip
        refine lv_iconst (v := 1) hx hb dX1_isSyllable_64 (by decide) ?_
        refine lv_goto (tgt := 69) hx hb dX1_isSyllable_65 (by decide) ?_
        exact er_zret hx hb hr hlk (by simp [ef_b, eg_syl, q9, h1, h2] <;> decide) dX1_isSyllable_69
      · skip
        refine lv_iload_n hx hb dX1_isSyllable_52 rfl (lv_at hl 1 rfl) ?_
        refine lv_bipush (v := 12) hx hb dX1_isSyllable_53 (by decide) ?_
        refine lv_icmp_eq (tgt := 64) hx hb dX1_isSyllable_55 (by decide) (fun h3 => ?_) (fun h3 => ?_)
        · skip
          refine lv_iconst (v := 1) hx hb dX1_isSyllable_64 (by decide) ?_
          refine lv_goto (tgt := 69) hx hb dX1_isSyllable_65 (by decide) ?_
          exact er_zret hx hb hr hlk (by simp [ef_b, eg_syl, q9, h1, h2, h3] <;> decide) dX1_isSyllable_69
        · skip
          refine lv_iload_n hx hb dX1_isSyllable_58 rfl (lv_at hl 1 rfl) ?_
          refine lv_bipush (v := 13) hx hb dX1_isSyllable_59 (by decide) ?_
          refine lv_icmp_ne (tgt := 68) hx hb dX1_isSyllable_61 (by decide) (fun h4 => ?_) (fun h4 => ?_)
          · skip
            refine lv_iconst (v := 0) hx hb dX1_isSyllable_68 (by decide) ?_
            exact er_zret hx hb hr hlk (by simp [ef_b, eg_syl, q9, h1, h2, h3, h4] <;> decide) dX1_isSyllable_69
          · skip
            refine lv_iconst (v := 1) hx hb dX1_isSyllable_64 (by decide) ?_
            refine lv_goto (tgt := 69) hx hb dX1_isSyllable_65 (by decide) ?_
            exact er_zret hx hb hr hlk (by simp [ef_b, eg_syl, q9, h1, h2, h3, h4] <;> decide) dX1_isSyllable_69
  by_cases q10 : bf = 10
  · refine lv_tableIn (off := 66) (tgt := 70) hx hb dX1_isSyllable_4 (by rw [q10]; decide) (by rw [q10]; decide) (by rw [q10]; decide) (by decide) ?_
    refine lv_iload_n hx hb dX1_isSyllable_70 rfl (lv_at hl 1 rfl) ?_
    refine lv_bipush (v := 10) hx hb dX1_isSyllable_71 (by decide) ?_
    refine lv_icmp_eq (tgt := 82) hx hb dX1_isSyllable_73 (by decide) (fun h5 => ?_) (fun h5 => ?_)
    · skip
      refine lv_iconst (v := 1) hx hb dX1_isSyllable_82 (by decide) ?_
      refine lv_goto (tgt := 87) hx hb dX1_isSyllable_83 (by decide) ?_
      exact er_zret hx hb hr hlk (by simp [ef_b, eg_syl, q9, q10, h5] <;> decide) dX1_isSyllable_87
    · skip
      refine lv_iload_n hx hb dX1_isSyllable_76 rfl (lv_at hl 1 rfl) ?_
      refine lv_bipush (v := 11) hx hb dX1_isSyllable_77 (by decide) ?_
      refine lv_icmp_ne (tgt := 86) hx hb dX1_isSyllable_79 (by decide) (fun h6 => ?_) (fun h6 => ?_)
      · skip
        refine lv_iconst (v := 0) hx hb dX1_isSyllable_86 (by decide) ?_
        exact er_zret hx hb hr hlk (by simp [ef_b, eg_syl, q9, q10, h5, h6] <;> decide) dX1_isSyllable_87
      · skip
        refine lv_iconst (v := 1) hx hb dX1_isSyllable_82 (by decide) ?_
        refine lv_goto (tgt := 87) hx hb dX1_isSyllable_83 (by decide) ?_
        exact er_zret hx hb hr hlk (by simp [ef_b, eg_syl, q9, q10, h5, h6] <;> decide) dX1_isSyllable_87
  by_cases q11 : bf = 11
  · refine lv_tableIn (off := 84) (tgt := 88) hx hb dX1_isSyllable_4 (by rw [q11]; decide) (by rw [q11]; decide) (by rw [q11]; decide) (by decide) ?_
    refine lv_iload_n hx hb dX1_isSyllable_88 rfl (lv_at hl 1 rfl) ?_
    refine lv_bipush (v := 11) hx hb dX1_isSyllable_89 (by decide) ?_
    refine lv_icmp_ne (tgt := 98) hx hb dX1_isSyllable_91 (by decide) (fun h7 => ?_) (fun h7 => ?_)
    · skip
      refine lv_iconst (v := 0) hx hb dX1_isSyllable_98 (by decide) ?_
      exact er_zret hx hb hr hlk (by simp [ef_b, eg_syl, q9, q10, q11, h7] <;> decide) dX1_isSyllable_99
    · skip
      refine lv_iconst (v := 1) hx hb dX1_isSyllable_94 (by decide) ?_
      refine lv_goto (tgt := 99) hx hb dX1_isSyllable_95 (by decide) ?_
      exact er_zret hx hb hr hlk (by simp [ef_b, eg_syl, q9, q10, q11, h7] <;> decide) dX1_isSyllable_99
  by_cases q12 : bf = 12
  · refine lv_tableIn (off := 66) (tgt := 70) hx hb dX1_isSyllable_4 (by rw [q12]; decide) (by rw [q12]; decide) (by rw [q12]; decide) (by decide) ?_
    refine lv_iload_n hx hb dX1_isSyllable_70 rfl (lv_at hl 1 rfl) ?_
    refine lv_bipush (v := 10) hx hb dX1_isSyllable_71 (by decide) ?_
    refine lv_icmp_eq (tgt := 82) hx hb dX1_isSyllable_73 (by decide) (fun h8 => ?_) (fun h8 => ?_)
    · skip
      refine lv_iconst (v := 1) hx hb dX1_isSyllable_82 (by decide) ?_
      refine lv_goto (tgt := 87) hx hb dX1_isSyllable_83 (by decide) ?_
      exact er_zret hx hb hr hlk (by simp [ef_b, eg_syl, q9, q10, q11, q12, h8] <;> decide) dX1_isSyllable_87
    · skip
      refine lv_iload_n hx hb dX1_isSyllable_76 rfl (lv_at hl 1 rfl) ?_
      refine lv_bipush (v := 11) hx hb dX1_isSyllable_77 (by decide) ?_
      refine lv_icmp_ne (tgt := 86) hx hb dX1_isSyllable_79 (by decide) (fun h9 => ?_) (fun h9 => ?_)
      · skip
        refine lv_iconst (v := 0) hx hb dX1_isSyllable_86 (by decide) ?_
        exact er_zret hx hb hr hlk (by simp [ef_b, eg_syl, q9, q10, q11, q12, h8, h9] <;> decide) dX1_isSyllable_87
      · skip
        refine lv_iconst (v := 1) hx hb dX1_isSyllable_82 (by decide) ?_
        refine lv_goto (tgt := 87) hx hb dX1_isSyllable_83 (by decide) ?_
        exact er_zret hx hb hr hlk (by simp [ef_b, eg_syl, q9, q10, q11, q12, h8, h9] <;> decide) dX1_isSyllable_87
  by_cases q13 : bf = 13
  · refine lv_tableIn (off := 84) (tgt := 88) hx hb dX1_isSyllable_4 (by rw [q13]; decide) (by rw [q13]; decide) (by rw [q13]; decide) (by decide) ?_
    refine lv_iload_n hx hb dX1_isSyllable_88 rfl (lv_at hl 1 rfl) ?_
    refine lv_bipush (v := 11) hx hb dX1_isSyllable_89 (by decide) ?_
    refine lv_icmp_ne (tgt := 98) hx hb dX1_isSyllable_91 (by decide) (fun h10 => ?_) (fun h10 => ?_)
    · skip
      refine lv_iconst (v := 0) hx hb dX1_isSyllable_98 (by decide) ?_
      exact er_zret hx hb hr hlk (by simp [ef_b, eg_syl, q9, q10, q11, q12, q13, h10] <;> decide) dX1_isSyllable_99
    · skip
      refine lv_iconst (v := 1) hx hb dX1_isSyllable_94 (by decide) ?_
      refine lv_goto (tgt := 99) hx hb dX1_isSyllable_95 (by decide) ?_
      exact er_zret hx hb hr hlk (by simp [ef_b, eg_syl, q9, q10, q11, q12, q13, h10] <;> decide) dX1_isSyllable_99
  refine lv_tableOut (tgt := 100) hx hb dX1_isSyllable_4 (by have e9 := lv_neT q9 (show (9 : Int32).toInt = 9 by decide); have e10 := lv_neT q10 (show (10 : Int32).toInt = 10 by decide); have e11 := lv_neT q11 (show (11 : Int32).toInt = 11 by decide); have e12 := lv_neT q12 (show (12 : Int32).toInt = 12 by decide); have e13 := lv_neT q13 (show (13 : Int32).toInt = 13 by decide); omega) (by decide) ?_
  refine lv_iconst (v := 0) hx hb dX1_isSyllable_100 (by decide) ?_
  exact er_zret hx hb hr hlk (by simp [ef_b, eg_syl, q9, q10, q11, q12, q13] <;> decide) dX1_isSyllable_101

set_option maxHeartbeats 4000000 in
set_option maxRecDepth 100000 in
theorem k_X1_part (l : Launch) (D : va_G) (cI cZ cJ : ClassId) (h0 : Nat) (bf : Int32) (od ap aj : Bool) (r0 gA wA pA : Nat) (n : Nat) (g : Nat → Int32) (P : Nat → Bool) (i : Nat) (hi : i < 1000) : er_M l yX1_part (Cond.code yX1_part cX1_part 4 (some .boolean) :: eT) ({ frames := 1, cells := 0, slots := 0, locals := 21 }) D vwCl (eTy cI cZ cJ) [.ref h0, .ref r0, .int (nI i)] [(h0, .inr (1, [.int bf, .int (ef_b od), .int (ef_b ap), .int (ef_b aj)])), (r0, .inr (2, [.ref gA, .ref wA, .ref pA, .int (nI n)])), (gA, .inl (cI, 1000, .inl g)), (pA, .inl (cZ, 1000, .inl (fun j => ef_b (P j))))] (.int (ef_b (eg_part bf od aj (g i) (P i)))) := by
  refine er_of (cc := cX1_part) (maxL := 4) (ret := (some .boolean)) (by decide) rfl (Nat.le_of_ble_eq_true rfl) ?_
  intro p e s m args below meth c ls hx hb hr hts hown hlk hml hP hK hl
  have hown : s.vm.findClass RX1 = some m.cls := hown
  have hl : lv_has ls 4 [(0, .ref h0), (1, .ref r0), (2, .int (nI i))] := hl
  have L22 : ∀ (ls : Array Slot), lv_has ls 4 [(3, .int (g i)), (0, .ref h0), (1, .ref r0), (2, .int (nI i))] → (bf == 1 && g i == 2) = false → W p l e ({ frames := 1, cells := 0, slots := 0, locals := 21 }) s m args below meth c s.heap [] 0 0 (MQ below (er_Q (.int (ef_b (eg_part bf od aj (g i) (P i))))) args s 0 0 (fun _ => False)) (F0 m 22 ls []) := by
    intro ls hl f22
    refine lv_aload_n hx hb dX1_part_22 rfl (lv_at hl 1 rfl) ?_
    refine va_get (D := D) (ci := 1) (v := .int bf) (C := RX1) (T := TX1) (N := 4) hx hb hts (fun w h => List.mem_cons_of_mem _ (inX1 w h)) hown hK hP 0 rfl rfl 0 (by decide) (eT_h hts tw60) (fun _ h9 => h9) rfl dX1_part_23 ?_
    refine er_S (own := RX1) (rest := []) hx hb hml hown hts hl.1 (k_X1_isControl l D cI cZ cJ bf) tw267 tw5 tw265 tw266 yd_X1_isControl rfl rfl ⟨Nat.le_of_ble_eq_true rfl, Nat.le_of_ble_eq_true rfl⟩ er_nil hK rfl rfl (Nat.le_of_ble_eq_true rfl) ⟨Nat.zero_le _, Nat.zero_le _⟩ dX1_part_26 ?_
    refine ef_if_ne (tgt := 39) hx hb dX1_part_29 (by decide) (fun h1 => ?_) (fun h1 => ?_)
    · skip
      refine lv_iconst (v := 1) hx hb dX1_part_39 (by decide) ?_
      exact er_zret hx hb hr hlk (by simp [ef_b, eg_part, f22, h1] <;> decide) dX1_part_40
    · skip
      refine lv_iload_n hx hb dX1_part_32 rfl (lv_at hl 0 rfl) ?_
      refine er_S (own := RX1) (rest := []) hx hb hml hown hts hl.1 (k_X1_isControl l D cI cZ cJ (g i)) tw267 tw5 tw265 tw266 yd_X1_isControl rfl rfl ⟨Nat.le_of_ble_eq_true rfl, Nat.le_of_ble_eq_true rfl⟩ er_nil hK rfl rfl (Nat.le_of_ble_eq_true rfl) ⟨Nat.zero_le _, Nat.zero_le _⟩ dX1_part_33 ?_
      refine ef_if_eq (tgt := 41) hx hb dX1_part_36 (by decide) (fun h2 => ?_) (fun h2 => ?_)
      · skip
        refine lv_aload_n hx hb dX1_part_41 rfl (lv_at hl 1 rfl) ?_
        refine lv_iload_n hx hb dX1_part_42 rfl (lv_at hl 0 rfl) ?_
        refine er_V (own := RX1) (C := RX1) (b := h0) (rest := []) hx hb hml hown hts hl.1 (k_X1_isSyllable l D cI cZ cJ h0 bf od ap aj (g i)) tw271 tw5 tw268 tw270 ts_X1_isSyllable yd_X1_isSyllable rfl rfl ⟨Nat.le_of_ble_eq_true rfl, Nat.le_of_ble_eq_true rfl⟩ (hP.sub [0] rfl) hK hP (q0 := 0) rfl rfl rfl rfl (Nat.le_of_ble_eq_true rfl) ⟨Nat.zero_le _, Nat.zero_le _⟩ dX1_part_43 ?_
        refine ef_if_ne (tgt := 107) hx hb dX1_part_46 (by decide) (fun h3 => ?_) (fun h3 => ?_)
        · skip
          refine lv_iconst (v := 0) hx hb dX1_part_107 (by decide) ?_
          exact er_zret hx hb hr hlk (by simp [ef_b, eg_part, f22, h1, h2, h3] <;> decide) dX1_part_108
        · skip
          refine lv_iload_n hx hb dX1_part_49 rfl (lv_at hl 0 rfl) ?_
          refine lv_iconst (v := 4) hx hb dX1_part_50 (by decide) ?_
          refine lv_icmp_eq (tgt := 107) hx hb dX1_part_51 (by decide) (fun h4 => ?_) (fun h4 => ?_)
          · skip
            refine lv_iconst (v := 0) hx hb dX1_part_107 (by decide) ?_
            exact er_zret hx hb hr hlk (by simp [ef_b, eg_part, f22, h1, h2, h3, h4] <;> decide) dX1_part_108
          · skip
            refine lv_iload_n hx hb dX1_part_54 rfl (lv_at hl 0 rfl) ?_
            refine lv_iconst (v := 5) hx hb dX1_part_55 (by decide) ?_
            refine lv_icmp_eq (tgt := 107) hx hb dX1_part_56 (by decide) (fun h5 => ?_) (fun h5 => ?_)
            · skip
              refine lv_iconst (v := 0) hx hb dX1_part_107 (by decide) ?_
              exact er_zret hx hb hr hlk (by simp [ef_b, eg_part, f22, h1, h2, h3, h4, h5] <;> decide) dX1_part_108
            · skip
              refine lv_iload_n hx hb dX1_part_59 rfl (lv_at hl 0 rfl) ?_
              refine lv_bipush (v := 8) hx hb dX1_part_60 (by decide) ?_
              refine lv_icmp_eq (tgt := 107) hx hb dX1_part_62 (by decide) (fun h6 => ?_) (fun h6 => ?_)
              · skip
                refine lv_iconst (v := 0) hx hb dX1_part_107 (by decide) ?_
                exact er_zret hx hb hr hlk (by simp [ef_b, eg_part, f22, h1, h2, h3, h4, h5, h6] <;> decide) dX1_part_108
              · skip
                refine lv_aload_n hx hb dX1_part_65 rfl (lv_at hl 1 rfl) ?_
                refine va_get (D := D) (ci := 1) (v := .int bf) (C := RX1) (T := TX1) (N := 4) hx hb hts (fun w h => List.mem_cons_of_mem _ (inX1 w h)) hown hK hP 0 rfl rfl 0 (by decide) (eT_h hts tw60) (fun _ h9 => h9) rfl dX1_part_66 ?_
                refine lv_bipush (v := 7) hx hb dX1_part_69 (by decide) ?_
                refine lv_icmp_eq (tgt := 107) hx hb dX1_part_71 (by decide) (fun h7 => ?_) (fun h7 => ?_)
                · skip
                  refine lv_iconst (v := 0) hx hb dX1_part_107 (by decide) ?_
                  exact er_zret hx hb hr hlk (by simp [ef_b, eg_part, f22, h1, h2, h3, h4, h5, h6, h7] <;> decide) dX1_part_108
                · skip
                  refine lv_aload_n hx hb dX1_part_74 rfl (lv_at hl 1 rfl) ?_
                  refine va_get (D := D) (ci := 1) (v := .int (ef_b aj)) (C := RX1) (T := TX1) (N := 4) hx hb hts (fun w h => List.mem_cons_of_mem _ (inX1 w h)) hown hK hP 0 rfl rfl 3 (by decide) (eT_h hts tw63) (fun _ h9 => h9) rfl dX1_part_75 ?_
                  refine ef_if_eq (tgt := 90) hx hb dX1_part_78 (by decide) (fun h8 => ?_) (fun h8 => ?_)
                  · skip
                    refine lv_aload_n hx hb dX1_part_90 rfl (lv_at hl 1 rfl) ?_
                    refine va_get (D := D) (ci := 1) (v := .int (ef_b od)) (C := RX1) (T := TX1) (N := 4) hx hb hts (fun w h => List.mem_cons_of_mem _ (inX1 w h)) hown hK hP 0 rfl rfl 1 (by decide) (eT_h hts tw61) (fun _ h9 => h9) rfl dX1_part_91 ?_
                    refine ef_if_eq (tgt := 103) hx hb dX1_part_94 (by decide) (fun h9 => ?_) (fun h9 => ?_)
                    · skip
                      refine lv_iconst (v := 1) hx hb dX1_part_103 (by decide) ?_
                      refine lv_goto (tgt := 108) hx hb dX1_part_104 (by decide) ?_
                      exact er_zret hx hb hr hlk (by simp [ef_b, eg_part, f22, h1, h2, h3, h4, h5, h6, h7, h8, h9] <;> decide) dX1_part_108
                    · skip
                      refine lv_iload_n hx hb dX1_part_97 rfl (lv_at hl 0 rfl) ?_
                      refine lv_bipush (v := 6) hx hb dX1_part_98 (by decide) ?_
                      refine lv_icmp_eq (tgt := 107) hx hb dX1_part_100 (by decide) (fun h10 => ?_) (fun h10 => ?_)
                      · skip
                        refine lv_iconst (v := 0) hx hb dX1_part_107 (by decide) ?_
                        exact er_zret hx hb hr hlk (by simp [ef_b, eg_part, f22, h1, h2, h3, h4, h5, h6, h7, h8, h9, h10] <;> decide) dX1_part_108
                      · skip
                        refine lv_iconst (v := 1) hx hb dX1_part_103 (by decide) ?_
                        refine lv_goto (tgt := 108) hx hb dX1_part_104 (by decide) ?_
                        exact er_zret hx hb hr hlk (by simp [ef_b, eg_part, f22, h1, h2, h3, h4, h5, h6, h7, h8, h9, h10] <;> decide) dX1_part_108
                  · skip
                    refine lv_aload_n hx hb dX1_part_81 rfl (lv_at hl 2 rfl) ?_
                    refine va_get (D := D) (ci := 2) (v := .ref pA) (C := RX2) (T := TX2) (N := 4) hx hb hts (fun w h => List.mem_cons_of_mem _ (inX2 w h)) hown hK hP 1 rfl rfl 2 (by decide) (eT_h hts tw33) (fun _ h9 => h9) rfl dX1_part_82 ?_
                    refine lv_iload_n hx hb dX1_part_85 rfl (lv_at hl 3 rfl) ?_
                    refine va_zald hx hb hK hP 3 1 rfl rfl (vp_in_nI (by omega) (by decide)) dX1_part_86 ?_
                    refine ef_eqi (y := ef_b (P i)) (by rw [nI_clamp (by omega)]) ?_
                    refine ef_if_ne (tgt := 107) hx hb dX1_part_87 (by decide) (fun h11 => ?_) (fun h11 => ?_)
                    · skip
                      refine lv_iconst (v := 0) hx hb dX1_part_107 (by decide) ?_
                      exact er_zret hx hb hr hlk (by simp [ef_b, eg_part, f22, h1, h2, h3, h4, h5, h6, h7, h8, h11] <;> decide) dX1_part_108
                    · skip
                      refine lv_aload_n hx hb dX1_part_90 rfl (lv_at hl 1 rfl) ?_
                      refine va_get (D := D) (ci := 1) (v := .int (ef_b od)) (C := RX1) (T := TX1) (N := 4) hx hb hts (fun w h => List.mem_cons_of_mem _ (inX1 w h)) hown hK hP 0 rfl rfl 1 (by decide) (eT_h hts tw61) (fun _ h9 => h9) rfl dX1_part_91 ?_
                      refine ef_if_eq (tgt := 103) hx hb dX1_part_94 (by decide) (fun h12 => ?_) (fun h12 => ?_)
                      · skip
                        refine lv_iconst (v := 1) hx hb dX1_part_103 (by decide) ?_
                        refine lv_goto (tgt := 108) hx hb dX1_part_104 (by decide) ?_
                        exact er_zret hx hb hr hlk (by simp [ef_b, eg_part, f22, h1, h2, h3, h4, h5, h6, h7, h8, h11, h12] <;> decide) dX1_part_108
                      · skip
                        refine lv_iload_n hx hb dX1_part_97 rfl (lv_at hl 0 rfl) ?_
                        refine lv_bipush (v := 6) hx hb dX1_part_98 (by decide) ?_
                        refine lv_icmp_eq (tgt := 107) hx hb dX1_part_100 (by decide) (fun h13 => ?_) (fun h13 => ?_)
                        · skip
                          refine lv_iconst (v := 0) hx hb dX1_part_107 (by decide) ?_
                          exact er_zret hx hb hr hlk (by simp [ef_b, eg_part, f22, h1, h2, h3, h4, h5, h6, h7, h8, h11, h12, h13] <;> decide) dX1_part_108
                        · skip
                          refine lv_iconst (v := 1) hx hb dX1_part_103 (by decide) ?_
                          refine lv_goto (tgt := 108) hx hb dX1_part_104 (by decide) ?_
                          exact er_zret hx hb hr hlk (by simp [ef_b, eg_part, f22, h1, h2, h3, h4, h5, h6, h7, h8, h11, h12, h13] <;> decide) dX1_part_108
      · skip
        refine lv_iconst (v := 1) hx hb dX1_part_39 (by decide) ?_
        exact er_zret hx hb hr hlk (by simp [ef_b, eg_part, f22, h1, h2] <;> decide) dX1_part_40
  refine lv_aload_n hx hb dX1_part_0 rfl (lv_at hl 1 rfl) ?_
  refine va_get (D := D) (ci := 2) (v := .ref gA) (C := RX2) (T := TX2) (N := 4) hx hb hts (fun w h => List.mem_cons_of_mem _ (inX2 w h)) hown hK hP 1 rfl rfl 0 (by decide) (eT_h hts tw28) (fun _ h9 => h9) rfl dX1_part_1 ?_
  refine lv_iload_n hx hb dX1_part_4 rfl (lv_at hl 2 rfl) ?_
  refine va_iald hx hb hK hP 2 0 rfl rfl (vp_in_nI (by omega) (by decide)) dX1_part_5 ?_
  refine ef_eqi (y := g i) (by rw [nI_clamp (by omega)]) ?_
  refine lv_istore_n (lv' := [(3, .int (g i)), (0, .ref h0), (1, .ref r0), (2, .int (nI i))]) hx hb dX1_part_6 rfl hl (Nat.le_of_ble_eq_true rfl) rfl (fun ls hl => ?_)
  refine lv_aload_n hx hb dX1_part_7 rfl (lv_at hl 1 rfl) ?_
  refine va_get (D := D) (ci := 1) (v := .int bf) (C := RX1) (T := TX1) (N := 4) hx hb hts (fun w h => List.mem_cons_of_mem _ (inX1 w h)) hown hK hP 0 rfl rfl 0 (by decide) (eT_h hts tw60) (fun _ h9 => h9) rfl dX1_part_8 ?_
  refine lv_iconst (v := 1) hx hb dX1_part_11 (by decide) ?_
  refine lv_icmp_ne (tgt := 22) hx hb dX1_part_12 (by decide) (fun h14 => ?_) (fun h14 => ?_)
  · skip
    exact L22  ls hl (by simp [h14])
  · skip
    refine lv_iload_n hx hb dX1_part_15 rfl (lv_at hl 0 rfl) ?_
    refine lv_iconst (v := 2) hx hb dX1_part_16 (by decide) ?_
    refine lv_icmp_ne (tgt := 22) hx hb dX1_part_17 (by decide) (fun h15 => ?_) (fun h15 => ?_)
    · skip
      exact L22  ls hl (by simp [h14, h15])
    · skip
      refine lv_iconst (v := 0) hx hb dX1_part_20 (by decide) ?_
      exact er_zret hx hb hr hlk (by simp [ef_b, eg_part, h14, h15] <;> decide) dX1_part_21

set_option maxHeartbeats 4000000 in
set_option maxRecDepth 100000 in
theorem k_X4_joinsLetters (l : Launch) (D : va_G) (cI cZ cJ : ClassId) (h0 : Nat) (bf la lb : Int32) (od : Bool) (x y : Int32) : er_M l yX4_joinsLetters (Cond.code yX4_joinsLetters cX4_joinsLetters 3 (some .boolean) :: eT) ({ frames := 2, cells := 0, slots := 0, locals := 40 }) D vwCl (eTy cI cZ cJ) [.ref h0, .int x, .int y] [(h0, .inr (3, [.int bf, .int la, .int lb, .int (ef_b od)]))] (.int (ef_b (ew_jl la lb x y))) := by
  refine er_of (cc := cX4_joinsLetters) (maxL := 3) (ret := (some .boolean)) (by decide) rfl (Nat.le_of_ble_eq_true rfl) ?_
  intro p e s m args below meth c ls hx hb hr hts hown hlk hml hP hK hl
  have hown : s.vm.findClass RX4 = some m.cls := hown
  have hl : lv_has ls 3 [(0, .ref h0), (1, .int x), (2, .int y)] := hl
  refine lv_aload_n hx hb dX4_joinsLetters_0 rfl (lv_at hl 0 rfl) ?_
  refine va_get (D := D) (ci := 3) (v := .int la) (C := RX4) (T := TX4) (N := 4) hx hb hts (fun w h => List.mem_cons_of_mem _ (inX4 w h)) hown hK hP 0 rfl rfl 1 (by decide) (eT_h hts tw96) (fun _ h9 => h9) rfl dX4_joinsLetters_1 ?_
  refine er_S (own := RX4) (rest := []) hx hb hml hown hts hl.1 (k_X4_isLetter l D cI cZ cJ la) tw290 tw6 tw288 tw289 yd_X4_isLetter rfl rfl ⟨Nat.le_of_ble_eq_true rfl, Nat.le_of_ble_eq_true rfl⟩ er_nil hK rfl rfl (Nat.le_of_ble_eq_true rfl) ⟨Nat.zero_le _, Nat.zero_le _⟩ dX4_joinsLetters_4 ?_
  refine ef_if_eq (tgt := 37) hx hb dX4_joinsLetters_7 (by decide) (fun h1 => ?_) (fun h1 => ?_)
  · skip
    refine lv_aload_n hx hb dX4_joinsLetters_37 rfl (lv_at hl 0 rfl) ?_
    refine va_get (D := D) (ci := 3) (v := .int lb) (C := RX4) (T := TX4) (N := 4) hx hb hts (fun w h => List.mem_cons_of_mem _ (inX4 w h)) hown hK hP 0 rfl rfl 2 (by decide) (eT_h hts tw97) (fun _ h9 => h9) rfl dX4_joinsLetters_38 ?_
    refine er_S (own := RX4) (rest := []) hx hb hml hown hts hl.1 (k_X4_isLetter l D cI cZ cJ lb) tw290 tw6 tw288 tw289 yd_X4_isLetter rfl rfl ⟨Nat.le_of_ble_eq_true rfl, Nat.le_of_ble_eq_true rfl⟩ er_nil hK rfl rfl (Nat.le_of_ble_eq_true rfl) ⟨Nat.zero_le _, Nat.zero_le _⟩ dX4_joinsLetters_41 ?_
    refine ef_if_eq (tgt := 68) hx hb dX4_joinsLetters_44 (by decide) (fun h2 => ?_) (fun h2 => ?_)
    · skip
      refine lv_iconst (v := 0) hx hb dX4_joinsLetters_68 (by decide) ?_
      exact er_zret hx hb hr hlk (by simp [ef_b, ew_jl, h1, h2] <;> decide) dX4_joinsLetters_69
    · skip
      refine lv_aload_n hx hb dX4_joinsLetters_47 rfl (lv_at hl 0 rfl) ?_
      refine va_get (D := D) (ci := 3) (v := .int la) (C := RX4) (T := TX4) (N := 4) hx hb hts (fun w h => List.mem_cons_of_mem _ (inX4 w h)) hown hK hP 0 rfl rfl 1 (by decide) (eT_h hts tw96) (fun _ h9 => h9) rfl dX4_joinsLetters_48 ?_
      refine er_S (own := RX4) (rest := []) hx hb hml hown hts hl.1 (k_X4_isMidLetter l D cI cZ cJ la) tw293 tw6 tw291 tw292 yd_X4_isMidLetter rfl rfl ⟨Nat.le_of_ble_eq_true rfl, Nat.le_of_ble_eq_true rfl⟩ er_nil hK rfl rfl (Nat.le_of_ble_eq_true rfl) ⟨Nat.zero_le _, Nat.zero_le _⟩ dX4_joinsLetters_51 ?_
      refine ef_if_eq (tgt := 68) hx hb dX4_joinsLetters_54 (by decide) (fun h3 => ?_) (fun h3 => ?_)
      · skip
        refine lv_iconst (v := 0) hx hb dX4_joinsLetters_68 (by decide) ?_
        exact er_zret hx hb hr hlk (by simp [ef_b, ew_jl, h1, h2, h3] <;> decide) dX4_joinsLetters_69
      · skip
        refine lv_iload_n hx hb dX4_joinsLetters_57 rfl (lv_at hl 1 rfl) ?_
        refine er_S (own := RX4) (rest := []) hx hb hml hown hts hl.1 (k_X4_isLetter l D cI cZ cJ x) tw290 tw6 tw288 tw289 yd_X4_isLetter rfl rfl ⟨Nat.le_of_ble_eq_true rfl, Nat.le_of_ble_eq_true rfl⟩ er_nil hK rfl rfl (Nat.le_of_ble_eq_true rfl) ⟨Nat.zero_le _, Nat.zero_le _⟩ dX4_joinsLetters_58 ?_
        refine ef_if_eq (tgt := 68) hx hb dX4_joinsLetters_61 (by decide) (fun h4 => ?_) (fun h4 => ?_)
        · skip
          refine lv_iconst (v := 0) hx hb dX4_joinsLetters_68 (by decide) ?_
          exact er_zret hx hb hr hlk (by simp [ef_b, ew_jl, h1, h2, h3, h4] <;> decide) dX4_joinsLetters_69
        · skip
          refine lv_iconst (v := 1) hx hb dX4_joinsLetters_64 (by decide) ?_
          refine lv_goto (tgt := 69) hx hb dX4_joinsLetters_65 (by decide) ?_
          exact er_zret hx hb hr hlk (by simp [ef_b, ew_jl, h1, h2, h3, h4] <;> decide) dX4_joinsLetters_69
  · skip
    refine lv_iload_n hx hb dX4_joinsLetters_10 rfl (lv_at hl 1 rfl) ?_
    refine er_S (own := RX4) (rest := []) hx hb hml hown hts hl.1 (k_X4_isLetter l D cI cZ cJ x) tw290 tw6 tw288 tw289 yd_X4_isLetter rfl rfl ⟨Nat.le_of_ble_eq_true rfl, Nat.le_of_ble_eq_true rfl⟩ er_nil hK rfl rfl (Nat.le_of_ble_eq_true rfl) ⟨Nat.zero_le _, Nat.zero_le _⟩ dX4_joinsLetters_11 ?_
    refine ef_if_ne (tgt := 31) hx hb dX4_joinsLetters_14 (by decide) (fun h5 => ?_) (fun h5 => ?_)
    · skip
      refine lv_iconst (v := 1) hx hb dX4_joinsLetters_31 (by decide) ?_
      refine lv_goto (tgt := 36) hx hb dX4_joinsLetters_32 (by decide) ?_
      exact er_zret hx hb hr hlk (by simp [ef_b, ew_jl, h1, h5] <;> decide) dX4_joinsLetters_36
    · skip
      refine lv_iload_n hx hb dX4_joinsLetters_17 rfl (lv_at hl 1 rfl) ?_
      refine er_S (own := RX4) (rest := []) hx hb hml hown hts hl.1 (k_X4_isMidLetter l D cI cZ cJ x) tw293 tw6 tw291 tw292 yd_X4_isMidLetter rfl rfl ⟨Nat.le_of_ble_eq_true rfl, Nat.le_of_ble_eq_true rfl⟩ er_nil hK rfl rfl (Nat.le_of_ble_eq_true rfl) ⟨Nat.zero_le _, Nat.zero_le _⟩ dX4_joinsLetters_18 ?_
      refine ef_if_eq (tgt := 35) hx hb dX4_joinsLetters_21 (by decide) (fun h6 => ?_) (fun h6 => ?_)
      · skip
        refine lv_iconst (v := 0) hx hb dX4_joinsLetters_35 (by decide) ?_
        exact er_zret hx hb hr hlk (by simp [ef_b, ew_jl, h1, h5, h6] <;> decide) dX4_joinsLetters_36
      · skip
        refine lv_iload_n hx hb dX4_joinsLetters_24 rfl (lv_at hl 2 rfl) ?_
        refine er_S (own := RX4) (rest := []) hx hb hml hown hts hl.1 (k_X4_isLetter l D cI cZ cJ y) tw290 tw6 tw288 tw289 yd_X4_isLetter rfl rfl ⟨Nat.le_of_ble_eq_true rfl, Nat.le_of_ble_eq_true rfl⟩ er_nil hK rfl rfl (Nat.le_of_ble_eq_true rfl) ⟨Nat.zero_le _, Nat.zero_le _⟩ dX4_joinsLetters_25 ?_
        refine ef_if_eq (tgt := 35) hx hb dX4_joinsLetters_28 (by decide) (fun h7 => ?_) (fun h7 => ?_)
        · skip
          refine lv_iconst (v := 0) hx hb dX4_joinsLetters_35 (by decide) ?_
          exact er_zret hx hb hr hlk (by simp [ef_b, ew_jl, h1, h5, h6, h7] <;> decide) dX4_joinsLetters_36
        · skip
          refine lv_iconst (v := 1) hx hb dX4_joinsLetters_31 (by decide) ?_
          refine lv_goto (tgt := 36) hx hb dX4_joinsLetters_32 (by decide) ?_
          exact er_zret hx hb hr hlk (by simp [ef_b, ew_jl, h1, h5, h6, h7] <;> decide) dX4_joinsLetters_36

set_option maxHeartbeats 4000000 in
set_option maxRecDepth 100000 in
theorem k_X4_joinsHebrew (l : Launch) (D : va_G) (cI cZ cJ : ClassId) (h0 : Nat) (bf la lb : Int32) (od : Bool) (x y : Int32) : er_M l yX4_joinsHebrew (Cond.code yX4_joinsHebrew cX4_joinsHebrew 3 (some .boolean) :: eT) ({ frames := 0, cells := 0, slots := 0, locals := 0 }) D vwCl (eTy cI cZ cJ) [.ref h0, .int x, .int y] [(h0, .inr (3, [.int bf, .int la, .int lb, .int (ef_b od)]))] (.int (ef_b (ew_jh la lb x y))) := by
  refine er_of (cc := cX4_joinsHebrew) (maxL := 3) (ret := (some .boolean)) (by decide) rfl (Nat.le_of_ble_eq_true rfl) ?_
  intro p e s m args below meth c ls hx hb hr hts hown hlk hml hP hK hl
  have hown : s.vm.findClass RX4 = some m.cls := hown
  have hl : lv_has ls 3 [(0, .ref h0), (1, .int x), (2, .int y)] := hl
  refine lv_aload_n hx hb dX4_joinsHebrew_0 rfl (lv_at hl 0 rfl) ?_
  refine va_get (D := D) (ci := 3) (v := .int la) (C := RX4) (T := TX4) (N := 4) hx hb hts (fun w h => List.mem_cons_of_mem _ (inX4 w h)) hown hK hP 0 rfl rfl 1 (by decide) (eT_h hts tw96) (fun _ h9 => h9) rfl dX4_joinsHebrew_1 ?_
  refine lv_bipush (v := 9) hx hb dX4_joinsHebrew_4 (by decide) ?_
  refine lv_icmp_ne (tgt := 33) hx hb dX4_joinsHebrew_6 (by decide) (fun h1 => ?_) (fun h1 => ?_)
  · skip
    refine lv_aload_n hx hb dX4_joinsHebrew_33 rfl (lv_at hl 0 rfl) ?_
    refine va_get (D := D) (ci := 3) (v := .int lb) (C := RX4) (T := TX4) (N := 4) hx hb hts (fun w h => List.mem_cons_of_mem _ (inX4 w h)) hown hK hP 0 rfl rfl 2 (by decide) (eT_h hts tw97) (fun _ h9 => h9) rfl dX4_joinsHebrew_34 ?_
    refine lv_bipush (v := 9) hx hb dX4_joinsHebrew_37 (by decide) ?_
    refine lv_icmp_ne (tgt := 61) hx hb dX4_joinsHebrew_39 (by decide) (fun h2 => ?_) (fun h2 => ?_)
    · skip
      refine lv_iconst (v := 0) hx hb dX4_joinsHebrew_61 (by decide) ?_
      exact er_zret hx hb hr hlk (by simp [ef_b, ew_jh, h1, h2] <;> decide) dX4_joinsHebrew_62
    · skip
      refine lv_aload_n hx hb dX4_joinsHebrew_42 rfl (lv_at hl 0 rfl) ?_
      refine va_get (D := D) (ci := 3) (v := .int la) (C := RX4) (T := TX4) (N := 4) hx hb hts (fun w h => List.mem_cons_of_mem _ (inX4 w h)) hown hK hP 0 rfl rfl 1 (by decide) (eT_h hts tw96) (fun _ h9 => h9) rfl dX4_joinsHebrew_43 ?_
      refine lv_bipush (v := 15) hx hb dX4_joinsHebrew_46 (by decide) ?_
      refine lv_icmp_ne (tgt := 61) hx hb dX4_joinsHebrew_48 (by decide) (fun h3 => ?_) (fun h3 => ?_)
      · skip
        refine lv_iconst (v := 0) hx hb dX4_joinsHebrew_61 (by decide) ?_
        exact er_zret hx hb hr hlk (by simp [ef_b, ew_jh, h1, h2, h3] <;> decide) dX4_joinsHebrew_62
      · skip
        refine lv_iload_n hx hb dX4_joinsHebrew_51 rfl (lv_at hl 1 rfl) ?_
        refine lv_bipush (v := 9) hx hb dX4_joinsHebrew_52 (by decide) ?_
        refine lv_icmp_ne (tgt := 61) hx hb dX4_joinsHebrew_54 (by decide) (fun h4 => ?_) (fun h4 => ?_)
        · skip
          refine lv_iconst (v := 0) hx hb dX4_joinsHebrew_61 (by decide) ?_
          exact er_zret hx hb hr hlk (by simp [ef_b, ew_jh, h1, h2, h3, h4] <;> decide) dX4_joinsHebrew_62
        · skip
          refine lv_iconst (v := 1) hx hb dX4_joinsHebrew_57 (by decide) ?_
          refine lv_goto (tgt := 62) hx hb dX4_joinsHebrew_58 (by decide) ?_
          exact er_zret hx hb hr hlk (by simp [ef_b, ew_jh, h1, h2, h3, h4] <;> decide) dX4_joinsHebrew_62
  · skip
    refine lv_iload_n hx hb dX4_joinsHebrew_9 rfl (lv_at hl 1 rfl) ?_
    refine lv_bipush (v := 14) hx hb dX4_joinsHebrew_10 (by decide) ?_
    refine lv_icmp_eq (tgt := 27) hx hb dX4_joinsHebrew_12 (by decide) (fun h5 => ?_) (fun h5 => ?_)
    · skip
      refine lv_iconst (v := 1) hx hb dX4_joinsHebrew_27 (by decide) ?_
      refine lv_goto (tgt := 32) hx hb dX4_joinsHebrew_28 (by decide) ?_
      exact er_zret hx hb hr hlk (by simp [ef_b, ew_jh, h1, h5] <;> decide) dX4_joinsHebrew_32
    · skip
      refine lv_iload_n hx hb dX4_joinsHebrew_15 rfl (lv_at hl 1 rfl) ?_
      refine lv_bipush (v := 15) hx hb dX4_joinsHebrew_16 (by decide) ?_
      refine lv_icmp_ne (tgt := 31) hx hb dX4_joinsHebrew_18 (by decide) (fun h6 => ?_) (fun h6 => ?_)
      · skip
        refine lv_iconst (v := 0) hx hb dX4_joinsHebrew_31 (by decide) ?_
        exact er_zret hx hb hr hlk (by simp [ef_b, ew_jh, h1, h5, h6] <;> decide) dX4_joinsHebrew_32
      · skip
        refine lv_iload_n hx hb dX4_joinsHebrew_21 rfl (lv_at hl 2 rfl) ?_
        refine lv_bipush (v := 9) hx hb dX4_joinsHebrew_22 (by decide) ?_
        refine lv_icmp_ne (tgt := 31) hx hb dX4_joinsHebrew_24 (by decide) (fun h7 => ?_) (fun h7 => ?_)
        · skip
          refine lv_iconst (v := 0) hx hb dX4_joinsHebrew_31 (by decide) ?_
          exact er_zret hx hb hr hlk (by simp [ef_b, ew_jh, h1, h5, h6, h7] <;> decide) dX4_joinsHebrew_32
        · skip
          refine lv_iconst (v := 1) hx hb dX4_joinsHebrew_27 (by decide) ?_
          refine lv_goto (tgt := 32) hx hb dX4_joinsHebrew_28 (by decide) ?_
          exact er_zret hx hb hr hlk (by simp [ef_b, ew_jh, h1, h5, h6, h7] <;> decide) dX4_joinsHebrew_32

set_option maxHeartbeats 4000000 in
set_option maxRecDepth 100000 in
theorem k_X4_joinsNumbers (l : Launch) (D : va_G) (cI cZ cJ : ClassId) (h0 : Nat) (bf la lb : Int32) (od : Bool) (x y : Int32) : er_M l yX4_joinsNumbers (Cond.code yX4_joinsNumbers cX4_joinsNumbers 3 (some .boolean) :: eT) ({ frames := 2, cells := 0, slots := 0, locals := 40 }) D vwCl (eTy cI cZ cJ) [.ref h0, .int x, .int y] [(h0, .inr (3, [.int bf, .int la, .int lb, .int (ef_b od)]))] (.int (ef_b (ew_jn la lb x y))) := by
  refine er_of (cc := cX4_joinsNumbers) (maxL := 3) (ret := (some .boolean)) (by decide) rfl (Nat.le_of_ble_eq_true rfl) ?_
  intro p e s m args below meth c ls hx hb hr hts hown hlk hml hP hK hl
  have hown : s.vm.findClass RX4 = some m.cls := hown
  have hl : lv_has ls 3 [(0, .ref h0), (1, .int x), (2, .int y)] := hl
  refine lv_aload_n hx hb dX4_joinsNumbers_0 rfl (lv_at hl 0 rfl) ?_
  refine va_get (D := D) (ci := 3) (v := .int la) (C := RX4) (T := TX4) (N := 4) hx hb hts (fun w h => List.mem_cons_of_mem _ (inX4 w h)) hown hK hP 0 rfl rfl 1 (by decide) (eT_h hts tw96) (fun _ h9 => h9) rfl dX4_joinsNumbers_1 ?_
  refine lv_bipush (v := 16) hx hb dX4_joinsNumbers_4 (by decide) ?_
  refine lv_icmp_ne (tgt := 41) hx hb dX4_joinsNumbers_6 (by decide) (fun h1 => ?_) (fun h1 => ?_)
  · skip
    refine lv_aload_n hx hb dX4_joinsNumbers_41 rfl (lv_at hl 0 rfl) ?_
    refine va_get (D := D) (ci := 3) (v := .int la) (C := RX4) (T := TX4) (N := 4) hx hb hts (fun w h => List.mem_cons_of_mem _ (inX4 w h)) hown hK hP 0 rfl rfl 1 (by decide) (eT_h hts tw96) (fun _ h9 => h9) rfl dX4_joinsNumbers_42 ?_
    refine er_S (own := RX4) (rest := []) hx hb hml hown hts hl.1 (k_X4_isLetter l D cI cZ cJ la) tw290 tw6 tw288 tw289 yd_X4_isLetter rfl rfl ⟨Nat.le_of_ble_eq_true rfl, Nat.le_of_ble_eq_true rfl⟩ er_nil hK rfl rfl (Nat.le_of_ble_eq_true rfl) ⟨Nat.zero_le _, Nat.zero_le _⟩ dX4_joinsNumbers_45 ?_
    refine ef_if_eq (tgt := 63) hx hb dX4_joinsNumbers_48 (by decide) (fun h2 => ?_) (fun h2 => ?_)
    · skip
      refine lv_aload_n hx hb dX4_joinsNumbers_63 rfl (lv_at hl 0 rfl) ?_
      refine va_get (D := D) (ci := 3) (v := .int lb) (C := RX4) (T := TX4) (N := 4) hx hb hts (fun w h => List.mem_cons_of_mem _ (inX4 w h)) hown hK hP 0 rfl rfl 2 (by decide) (eT_h hts tw97) (fun _ h9 => h9) rfl dX4_joinsNumbers_64 ?_
      refine lv_bipush (v := 16) hx hb dX4_joinsNumbers_67 (by decide) ?_
      refine lv_icmp_ne (tgt := 92) hx hb dX4_joinsNumbers_69 (by decide) (fun h3 => ?_) (fun h3 => ?_)
      · skip
        refine lv_iconst (v := 0) hx hb dX4_joinsNumbers_92 (by decide) ?_
        exact er_zret hx hb hr hlk (by simp [ef_b, ew_jn, h1, h2, h3] <;> decide) dX4_joinsNumbers_93
      · skip
        refine lv_aload_n hx hb dX4_joinsNumbers_72 rfl (lv_at hl 0 rfl) ?_
        refine va_get (D := D) (ci := 3) (v := .int la) (C := RX4) (T := TX4) (N := 4) hx hb hts (fun w h => List.mem_cons_of_mem _ (inX4 w h)) hown hK hP 0 rfl rfl 1 (by decide) (eT_h hts tw96) (fun _ h9 => h9) rfl dX4_joinsNumbers_73 ?_
        refine er_S (own := RX4) (rest := []) hx hb hml hown hts hl.1 (k_X4_isMidNumber l D cI cZ cJ la) tw307 tw6 tw305 tw306 yd_X4_isMidNumber rfl rfl ⟨Nat.le_of_ble_eq_true rfl, Nat.le_of_ble_eq_true rfl⟩ er_nil hK rfl rfl (Nat.le_of_ble_eq_true rfl) ⟨Nat.zero_le _, Nat.zero_le _⟩ dX4_joinsNumbers_76 ?_
        refine ef_if_eq (tgt := 92) hx hb dX4_joinsNumbers_79 (by decide) (fun h4 => ?_) (fun h4 => ?_)
        · skip
          refine lv_iconst (v := 0) hx hb dX4_joinsNumbers_92 (by decide) ?_
          exact er_zret hx hb hr hlk (by simp [ef_b, ew_jn, h1, h2, h3, h4] <;> decide) dX4_joinsNumbers_93
        · skip
          refine lv_iload_n hx hb dX4_joinsNumbers_82 rfl (lv_at hl 1 rfl) ?_
          refine lv_bipush (v := 16) hx hb dX4_joinsNumbers_83 (by decide) ?_
          refine lv_icmp_ne (tgt := 92) hx hb dX4_joinsNumbers_85 (by decide) (fun h5 => ?_) (fun h5 => ?_)
          · skip
            refine lv_iconst (v := 0) hx hb dX4_joinsNumbers_92 (by decide) ?_
            exact er_zret hx hb hr hlk (by simp [ef_b, ew_jn, h1, h2, h3, h4, h5] <;> decide) dX4_joinsNumbers_93
          · skip
            refine lv_iconst (v := 1) hx hb dX4_joinsNumbers_88 (by decide) ?_
            refine lv_goto (tgt := 93) hx hb dX4_joinsNumbers_89 (by decide) ?_
            exact er_zret hx hb hr hlk (by simp [ef_b, ew_jn, h1, h2, h3, h4, h5] <;> decide) dX4_joinsNumbers_93
    · skip
      refine lv_iload_n hx hb dX4_joinsNumbers_51 rfl (lv_at hl 1 rfl) ?_
      refine lv_bipush (v := 16) hx hb dX4_joinsNumbers_52 (by decide) ?_
      refine lv_icmp_ne (tgt := 61) hx hb dX4_joinsNumbers_54 (by decide) (fun h6 => ?_) (fun h6 => ?_)
      · skip
        refine lv_iconst (v := 0) hx hb dX4_joinsNumbers_61 (by decide) ?_
        exact er_zret hx hb hr hlk (by simp [ef_b, ew_jn, h1, h2, h6] <;> decide) dX4_joinsNumbers_62
      · skip
        refine lv_iconst (v := 1) hx hb dX4_joinsNumbers_57 (by decide) ?_
        refine lv_goto (tgt := 62) hx hb dX4_joinsNumbers_58 (by decide) ?_
        exact er_zret hx hb hr hlk (by simp [ef_b, ew_jn, h1, h2, h6] <;> decide) dX4_joinsNumbers_62
  · skip
    refine lv_iload_n hx hb dX4_joinsNumbers_9 rfl (lv_at hl 1 rfl) ?_
    refine lv_bipush (v := 16) hx hb dX4_joinsNumbers_10 (by decide) ?_
    refine lv_icmp_eq (tgt := 35) hx hb dX4_joinsNumbers_12 (by decide) (fun h7 => ?_) (fun h7 => ?_)
    · skip
      refine lv_iconst (v := 1) hx hb dX4_joinsNumbers_35 (by decide) ?_
      refine lv_goto (tgt := 40) hx hb dX4_joinsNumbers_36 (by decide) ?_
      exact er_zret hx hb hr hlk (by simp [ef_b, ew_jn, h1, h7] <;> decide) dX4_joinsNumbers_40
    · skip
      refine lv_iload_n hx hb dX4_joinsNumbers_15 rfl (lv_at hl 1 rfl) ?_
      refine er_S (own := RX4) (rest := []) hx hb hml hown hts hl.1 (k_X4_isLetter l D cI cZ cJ x) tw290 tw6 tw288 tw289 yd_X4_isLetter rfl rfl ⟨Nat.le_of_ble_eq_true rfl, Nat.le_of_ble_eq_true rfl⟩ er_nil hK rfl rfl (Nat.le_of_ble_eq_true rfl) ⟨Nat.zero_le _, Nat.zero_le _⟩ dX4_joinsNumbers_16 ?_
      refine ef_if_ne (tgt := 35) hx hb dX4_joinsNumbers_19 (by decide) (fun h8 => ?_) (fun h8 => ?_)
      · skip
        refine lv_iconst (v := 1) hx hb dX4_joinsNumbers_35 (by decide) ?_
        refine lv_goto (tgt := 40) hx hb dX4_joinsNumbers_36 (by decide) ?_
        exact er_zret hx hb hr hlk (by simp [ef_b, ew_jn, h1, h7, h8] <;> decide) dX4_joinsNumbers_40
      · skip
        refine lv_iload_n hx hb dX4_joinsNumbers_22 rfl (lv_at hl 1 rfl) ?_
        refine er_S (own := RX4) (rest := []) hx hb hml hown hts hl.1 (k_X4_isMidNumber l D cI cZ cJ x) tw307 tw6 tw305 tw306 yd_X4_isMidNumber rfl rfl ⟨Nat.le_of_ble_eq_true rfl, Nat.le_of_ble_eq_true rfl⟩ er_nil hK rfl rfl (Nat.le_of_ble_eq_true rfl) ⟨Nat.zero_le _, Nat.zero_le _⟩ dX4_joinsNumbers_23 ?_
        refine ef_if_eq (tgt := 39) hx hb dX4_joinsNumbers_26 (by decide) (fun h9 => ?_) (fun h9 => ?_)
        · skip
          refine lv_iconst (v := 0) hx hb dX4_joinsNumbers_39 (by decide) ?_
          exact er_zret hx hb hr hlk (by simp [ef_b, ew_jn, h1, h7, h8, h9] <;> decide) dX4_joinsNumbers_40
        · skip
          refine lv_iload_n hx hb dX4_joinsNumbers_29 rfl (lv_at hl 2 rfl) ?_
          refine lv_bipush (v := 16) hx hb dX4_joinsNumbers_30 (by decide) ?_
          refine lv_icmp_ne (tgt := 39) hx hb dX4_joinsNumbers_32 (by decide) (fun h10 => ?_) (fun h10 => ?_)
          · skip
            refine lv_iconst (v := 0) hx hb dX4_joinsNumbers_39 (by decide) ?_
            exact er_zret hx hb hr hlk (by simp [ef_b, ew_jn, h1, h7, h8, h9, h10] <;> decide) dX4_joinsNumbers_40
          · skip
            refine lv_iconst (v := 1) hx hb dX4_joinsNumbers_35 (by decide) ?_
            refine lv_goto (tgt := 40) hx hb dX4_joinsNumbers_36 (by decide) ?_
            exact er_zret hx hb hr hlk (by simp [ef_b, ew_jn, h1, h7, h8, h9, h10] <;> decide) dX4_joinsNumbers_40

set_option maxHeartbeats 4000000 in
set_option maxRecDepth 100000 in
theorem k_X4_joinsRuns (l : Launch) (D : va_G) (cI cZ cJ : ClassId) (h0 : Nat) (bf la lb : Int32) (od : Bool) (x : Int32) : er_M l yX4_joinsRuns (Cond.code yX4_joinsRuns cX4_joinsRuns 2 (some .boolean) :: eT) ({ frames := 2, cells := 0, slots := 0, locals := 40 }) D vwCl (eTy cI cZ cJ) [.ref h0, .int x] [(h0, .inr (3, [.int bf, .int la, .int lb, .int (ef_b od)]))] (.int (ef_b (ew_jr la x))) := by
  refine er_of (cc := cX4_joinsRuns) (maxL := 2) (ret := (some .boolean)) (by decide) rfl (Nat.le_of_ble_eq_true rfl) ?_
  intro p e s m args below meth c ls hx hb hr hts hown hlk hml hP hK hl
  have hown : s.vm.findClass RX4 = some m.cls := hown
  have hl : lv_has ls 2 [(0, .ref h0), (1, .int x)] := hl
  refine lv_iload_n hx hb dX4_joinsRuns_0 rfl (lv_at hl 1 rfl) ?_
  refine lv_bipush (v := 17) hx hb dX4_joinsRuns_1 (by decide) ?_
  refine lv_icmp_ne (tgt := 31) hx hb dX4_joinsRuns_3 (by decide) (fun h1 => ?_) (fun h1 => ?_)
  · skip
    refine lv_aload_n hx hb dX4_joinsRuns_31 rfl (lv_at hl 0 rfl) ?_
    refine va_get (D := D) (ci := 3) (v := .int la) (C := RX4) (T := TX4) (N := 4) hx hb hts (fun w h => List.mem_cons_of_mem _ (inX4 w h)) hown hK hP 0 rfl rfl 1 (by decide) (eT_h hts tw96) (fun _ h9 => h9) rfl dX4_joinsRuns_32 ?_
    refine lv_bipush (v := 17) hx hb dX4_joinsRuns_35 (by decide) ?_
    refine lv_icmp_ne (tgt := 45) hx hb dX4_joinsRuns_37 (by decide) (fun h2 => ?_) (fun h2 => ?_)
    · skip
      refine lv_aload_n hx hb dX4_joinsRuns_45 rfl (lv_at hl 0 rfl) ?_
      refine va_get (D := D) (ci := 3) (v := .int la) (C := RX4) (T := TX4) (N := 4) hx hb hts (fun w h => List.mem_cons_of_mem _ (inX4 w h)) hown hK hP 0 rfl rfl 1 (by decide) (eT_h hts tw96) (fun _ h9 => h9) rfl dX4_joinsRuns_46 ?_
      refine lv_bipush (v := 8) hx hb dX4_joinsRuns_49 (by decide) ?_
      refine lv_icmp_ne (tgt := 64) hx hb dX4_joinsRuns_51 (by decide) (fun h3 => ?_) (fun h3 => ?_)
      · skip
        refine lv_iconst (v := 0) hx hb dX4_joinsRuns_64 (by decide) ?_
        exact er_zret hx hb hr hlk (by simp [ef_b, ew_jr, h1, h2, h3] <;> decide) dX4_joinsRuns_65
      · skip
        refine lv_iload_n hx hb dX4_joinsRuns_54 rfl (lv_at hl 1 rfl) ?_
        refine lv_bipush (v := 8) hx hb dX4_joinsRuns_55 (by decide) ?_
        refine lv_icmp_ne (tgt := 64) hx hb dX4_joinsRuns_57 (by decide) (fun h4 => ?_) (fun h4 => ?_)
        · skip
          refine lv_iconst (v := 0) hx hb dX4_joinsRuns_64 (by decide) ?_
          exact er_zret hx hb hr hlk (by simp [ef_b, ew_jr, h1, h2, h3, h4] <;> decide) dX4_joinsRuns_65
        · skip
          refine lv_iconst (v := 1) hx hb dX4_joinsRuns_60 (by decide) ?_
          refine lv_goto (tgt := 65) hx hb dX4_joinsRuns_61 (by decide) ?_
          exact er_zret hx hb hr hlk (by simp [ef_b, ew_jr, h1, h2, h3, h4] <;> decide) dX4_joinsRuns_65
    · skip
      refine lv_iload_n hx hb dX4_joinsRuns_40 rfl (lv_at hl 1 rfl) ?_
      refine er_S (own := RX4) (rest := []) hx hb hml hown hts hl.1 (k_X4_isRunPart l D cI cZ cJ x) tw314 tw6 tw312 tw313 yd_X4_isRunPart rfl rfl ⟨Nat.le_of_ble_eq_true rfl, Nat.le_of_ble_eq_true rfl⟩ er_nil hK rfl rfl (Nat.le_of_ble_eq_true rfl) ⟨Nat.zero_le _, Nat.zero_le _⟩ dX4_joinsRuns_41 ?_
      exact er_zret hx hb hr hlk (by simp [ef_b, ew_jr, h1, h2] <;> decide) dX4_joinsRuns_44
  · skip
    refine lv_aload_n hx hb dX4_joinsRuns_6 rfl (lv_at hl 0 rfl) ?_
    refine va_get (D := D) (ci := 3) (v := .int la) (C := RX4) (T := TX4) (N := 4) hx hb hts (fun w h => List.mem_cons_of_mem _ (inX4 w h)) hown hK hP 0 rfl rfl 1 (by decide) (eT_h hts tw96) (fun _ h9 => h9) rfl dX4_joinsRuns_7 ?_
    refine er_S (own := RX4) (rest := []) hx hb hml hown hts hl.1 (k_X4_isRunPart l D cI cZ cJ la) tw314 tw6 tw312 tw313 yd_X4_isRunPart rfl rfl ⟨Nat.le_of_ble_eq_true rfl, Nat.le_of_ble_eq_true rfl⟩ er_nil hK rfl rfl (Nat.le_of_ble_eq_true rfl) ⟨Nat.zero_le _, Nat.zero_le _⟩ dX4_joinsRuns_10 ?_
    refine ef_if_ne (tgt := 25) hx hb dX4_joinsRuns_13 (by decide) (fun h5 => ?_) (fun h5 => ?_)
    · skip
      refine lv_iconst (v := 1) hx hb dX4_joinsRuns_25 (by decide) ?_
      refine lv_goto (tgt := 30) hx hb dX4_joinsRuns_26 (by decide) ?_
      exact er_zret hx hb hr hlk (by simp [ef_b, ew_jr, h1, h5] <;> decide) dX4_joinsRuns_30
    · skip
      refine lv_aload_n hx hb dX4_joinsRuns_16 rfl (lv_at hl 0 rfl) ?_
      refine va_get (D := D) (ci := 3) (v := .int la) (C := RX4) (T := TX4) (N := 4) hx hb hts (fun w h => List.mem_cons_of_mem _ (inX4 w h)) hown hK hP 0 rfl rfl 1 (by decide) (eT_h hts tw96) (fun _ h9 => h9) rfl dX4_joinsRuns_17 ?_
      refine lv_bipush (v := 17) hx hb dX4_joinsRuns_20 (by decide) ?_
      refine lv_icmp_ne (tgt := 29) hx hb dX4_joinsRuns_22 (by decide) (fun h6 => ?_) (fun h6 => ?_)
      · skip
        refine lv_iconst (v := 0) hx hb dX4_joinsRuns_29 (by decide) ?_
        exact er_zret hx hb hr hlk (by simp [ef_b, ew_jr, h1, h5, h6] <;> decide) dX4_joinsRuns_30
      · skip
        refine lv_iconst (v := 1) hx hb dX4_joinsRuns_25 (by decide) ?_
        refine lv_goto (tgt := 30) hx hb dX4_joinsRuns_26 (by decide) ?_
        exact er_zret hx hb hr hlk (by simp [ef_b, ew_jr, h1, h5, h6] <;> decide) dX4_joinsRuns_30

set_option maxHeartbeats 4000000 in
set_option maxRecDepth 100000 in
theorem k_X4_part (l : Launch) (D : va_G) (cI cZ cJ : ClassId) (h0 : Nat) (bf la lb : Int32) (od : Bool) (r0 gA wA pA : Nat) (n : Nat) (w : Nat → Int32) (P : Nat → Bool) (i : Nat) (hn : n ≤ 1000) (hi : i < n) : er_M l yX4_part (Cond.code yX4_part cX4_part 5 (some .boolean) :: eT) ({ frames := 3, cells := 0, slots := 0, locals := 62 }) D vwCl (eTy cI cZ cJ) [.ref h0, .ref r0, .int (nI i)] [(h0, .inr (3, [.int bf, .int la, .int lb, .int (ef_b od)])), (r0, .inr (2, [.ref gA, .ref wA, .ref pA, .int (nI n)])), (wA, .inl (cI, 1000, .inl w)), (pA, .inl (cZ, 1000, .inl (fun j => ef_b (P j))))] (.int (ef_b (ew_part bf la lb od (w i) (ew_ah w n i) (P i)))) := by
  refine er_of (cc := cX4_part) (maxL := 5) (ret := (some .boolean)) (by decide) rfl (Nat.le_of_ble_eq_true rfl) ?_
  intro p e s m args below meth c ls hx hb hr hts hown hlk hml hP hK hl
  have hown : s.vm.findClass RX4 = some m.cls := hown
  have hl : lv_has ls 5 [(0, .ref h0), (1, .ref r0), (2, .int (nI i))] := hl
  have L73 : ∀ (ls : Array Slot), lv_has ls 5 [(3, .int (w i)), (0, .ref h0), (1, .ref r0), (2, .int (nI i))] → (bf == 1 && w i == 2) = false → ew_le bf = false → ew_le (w i) = false → (bf == 5 && P i) = false → (bf == 18 && w i == 18) = false → W p l e ({ frames := 3, cells := 0, slots := 0, locals := 62 }) s m args below meth c s.heap [] 0 0 (MQ below (er_Q (.int (ef_b (ew_part bf la lb od (w i) (ew_ah w n i) (P i))))) args s 0 0 (fun _ => False)) (F0 m 73 ls []) := by
    intro ls hl f22 f41 f42 f58 f73
    refine lv_iload_n hx hb dX4_part_73 rfl (lv_at hl 0 rfl) ?_
    refine er_S (own := RX4) (rest := []) hx hb hml hown hts hl.1 (k_X4_isAttached l D cI cZ cJ (w i)) tw280 tw6 tw278 tw279 yd_X4_isAttached rfl rfl ⟨Nat.le_of_ble_eq_true rfl, Nat.le_of_ble_eq_true rfl⟩ er_nil hK rfl rfl (Nat.le_of_ble_eq_true rfl) ⟨Nat.zero_le _, Nat.zero_le _⟩ dX4_part_74 ?_
    refine ef_if_eq (tgt := 82) hx hb dX4_part_77 (by decide) (fun h1 => ?_) (fun h1 => ?_)
    · skip
      refine lv_aload_n hx hb dX4_part_82 rfl (lv_at hl 2 rfl) ?_
      refine lv_iload_n hx hb dX4_part_83 rfl (lv_at hl 3 rfl) ?_
      refine er_S (own := RX4) (rest := []) hx hb hml hown hts hl.1 (k_X4_classAhead l D cI cZ cJ r0 gA wA pA n w i (by omega) hi) tw283 tw6 tw281 tw282 yd_X4_classAhead rfl rfl ⟨Nat.le_of_ble_eq_true rfl, Nat.le_of_ble_eq_true rfl⟩ (hP.sub [1, 2] rfl) hK rfl rfl (Nat.le_of_ble_eq_true rfl) ⟨Nat.zero_le _, Nat.zero_le _⟩ dX4_part_84 ?_
      refine lv_istore (lv' := [(4, .int (ew_ah w n i)), (3, .int (w i)), (0, .ref h0), (1, .ref r0), (2, .int (nI i))]) hx hb dX4_part_87 hl (Nat.le_of_ble_eq_true rfl) rfl (fun ls hl => ?_)
      refine lv_aload_n hx hb dX4_part_89 rfl (lv_at hl 2 rfl) ?_
      refine lv_iload_n hx hb dX4_part_90 rfl (lv_at hl 1 rfl) ?_
      refine lv_iload hx hb dX4_part_91 (lv_at hl 0 rfl) ?_
      refine er_V (own := RX4) (C := RX4) (b := h0) (rest := []) hx hb hml hown hts hl.1 (k_X4_joinsLetters l D cI cZ cJ h0 bf la lb od (w i) (ew_ah w n i)) tw287 tw6 tw284 tw286 ts_X4_joinsLetters yd_X4_joinsLetters rfl rfl ⟨Nat.le_of_ble_eq_true rfl, Nat.le_of_ble_eq_true rfl⟩ (hP.sub [0] rfl) hK hP (q0 := 0) rfl rfl rfl rfl (Nat.le_of_ble_eq_true rfl) ⟨Nat.zero_le _, Nat.zero_le _⟩ dX4_part_93 ?_
      refine ef_if_ne (tgt := 144) hx hb dX4_part_96 (by decide) (fun h2 => ?_) (fun h2 => ?_)
      · skip
        refine lv_iconst (v := 0) hx hb dX4_part_144 (by decide) ?_
        exact er_zret hx hb hr hlk (by simp [ef_b, ew_part, f22, f41, f42, f58, f73, h1, h2] <;> decide) dX4_part_145
      · skip
        refine lv_aload_n hx hb dX4_part_99 rfl (lv_at hl 2 rfl) ?_
        refine lv_iload_n hx hb dX4_part_100 rfl (lv_at hl 1 rfl) ?_
        refine lv_iload hx hb dX4_part_101 (lv_at hl 0 rfl) ?_
        refine er_V (own := RX4) (C := RX4) (b := h0) (rest := []) hx hb hml hown hts hl.1 (k_X4_joinsHebrew l D cI cZ cJ h0 bf la lb od (w i) (ew_ah w n i)) tw300 tw6 tw297 tw299 ts_X4_joinsHebrew yd_X4_joinsHebrew rfl rfl ⟨Nat.le_of_ble_eq_true rfl, Nat.le_of_ble_eq_true rfl⟩ (hP.sub [0] rfl) hK hP (q0 := 0) rfl rfl rfl rfl (Nat.le_of_ble_eq_true rfl) ⟨Nat.zero_le _, Nat.zero_le _⟩ dX4_part_103 ?_
        refine ef_if_ne (tgt := 144) hx hb dX4_part_106 (by decide) (fun h3 => ?_) (fun h3 => ?_)
        · skip
          refine lv_iconst (v := 0) hx hb dX4_part_144 (by decide) ?_
          exact er_zret hx hb hr hlk (by simp [ef_b, ew_part, f22, f41, f42, f58, f73, h1, h2, h3] <;> decide) dX4_part_145
        · skip
          refine lv_aload_n hx hb dX4_part_109 rfl (lv_at hl 2 rfl) ?_
          refine lv_iload_n hx hb dX4_part_110 rfl (lv_at hl 1 rfl) ?_
          refine lv_iload hx hb dX4_part_111 (lv_at hl 0 rfl) ?_
          refine er_V (own := RX4) (C := RX4) (b := h0) (rest := []) hx hb hml hown hts hl.1 (k_X4_joinsNumbers l D cI cZ cJ h0 bf la lb od (w i) (ew_ah w n i)) tw304 tw6 tw301 tw303 ts_X4_joinsNumbers yd_X4_joinsNumbers rfl rfl ⟨Nat.le_of_ble_eq_true rfl, Nat.le_of_ble_eq_true rfl⟩ (hP.sub [0] rfl) hK hP (q0 := 0) rfl rfl rfl rfl (Nat.le_of_ble_eq_true rfl) ⟨Nat.zero_le _, Nat.zero_le _⟩ dX4_part_113 ?_
          refine ef_if_ne (tgt := 144) hx hb dX4_part_116 (by decide) (fun h4 => ?_) (fun h4 => ?_)
          · skip
            refine lv_iconst (v := 0) hx hb dX4_part_144 (by decide) ?_
            exact er_zret hx hb hr hlk (by simp [ef_b, ew_part, f22, f41, f42, f58, f73, h1, h2, h3, h4] <;> decide) dX4_part_145
          · skip
            refine lv_aload_n hx hb dX4_part_119 rfl (lv_at hl 2 rfl) ?_
            refine lv_iload_n hx hb dX4_part_120 rfl (lv_at hl 1 rfl) ?_
            refine er_V (own := RX4) (C := RX4) (b := h0) (rest := []) hx hb hml hown hts hl.1 (k_X4_joinsRuns l D cI cZ cJ h0 bf la lb od (w i)) tw311 tw6 tw308 tw310 ts_X4_joinsRuns yd_X4_joinsRuns rfl rfl ⟨Nat.le_of_ble_eq_true rfl, Nat.le_of_ble_eq_true rfl⟩ (hP.sub [0] rfl) hK hP (q0 := 0) rfl rfl rfl rfl (Nat.le_of_ble_eq_true rfl) ⟨Nat.zero_le _, Nat.zero_le _⟩ dX4_part_121 ?_
            refine ef_if_ne (tgt := 144) hx hb dX4_part_124 (by decide) (fun h5 => ?_) (fun h5 => ?_)
            · skip
              refine lv_iconst (v := 0) hx hb dX4_part_144 (by decide) ?_
              exact er_zret hx hb hr hlk (by simp [ef_b, ew_part, f22, f41, f42, f58, f73, h1, h2, h3, h4, h5] <;> decide) dX4_part_145
            · skip
              refine lv_aload_n hx hb dX4_part_127 rfl (lv_at hl 2 rfl) ?_
              refine va_get (D := D) (ci := 3) (v := .int (ef_b od)) (C := RX4) (T := TX4) (N := 4) hx hb hts (fun w h => List.mem_cons_of_mem _ (inX4 w h)) hown hK hP 0 rfl rfl 3 (by decide) (eT_h hts tw98) (fun _ h9 => h9) rfl dX4_part_128 ?_
              refine ef_if_eq (tgt := 140) hx hb dX4_part_131 (by decide) (fun h6 => ?_) (fun h6 => ?_)
              · skip
                refine lv_iconst (v := 1) hx hb dX4_part_140 (by decide) ?_
                refine lv_goto (tgt := 145) hx hb dX4_part_141 (by decide) ?_
                exact er_zret hx hb hr hlk (by simp [ef_b, ew_part, f22, f41, f42, f58, f73, h1, h2, h3, h4, h5, h6] <;> decide) dX4_part_145
              · skip
                refine lv_iload_n hx hb dX4_part_134 rfl (lv_at hl 1 rfl) ?_
                refine lv_bipush (v := 6) hx hb dX4_part_135 (by decide) ?_
                refine lv_icmp_eq (tgt := 144) hx hb dX4_part_137 (by decide) (fun h7 => ?_) (fun h7 => ?_)
                · skip
                  refine lv_iconst (v := 0) hx hb dX4_part_144 (by decide) ?_
                  exact er_zret hx hb hr hlk (by simp [ef_b, ew_part, f22, f41, f42, f58, f73, h1, h2, h3, h4, h5, h6, h7] <;> decide) dX4_part_145
                · skip
                  refine lv_iconst (v := 1) hx hb dX4_part_140 (by decide) ?_
                  refine lv_goto (tgt := 145) hx hb dX4_part_141 (by decide) ?_
                  exact er_zret hx hb hr hlk (by simp [ef_b, ew_part, f22, f41, f42, f58, f73, h1, h2, h3, h4, h5, h6, h7] <;> decide) dX4_part_145
    · skip
      refine lv_iconst (v := 0) hx hb dX4_part_80 (by decide) ?_
      exact er_zret hx hb hr hlk (by simp [ef_b, ew_part, f22, f41, f42, f58, f73, h1] <;> decide) dX4_part_81
  have L58 : ∀ (ls : Array Slot), lv_has ls 5 [(3, .int (w i)), (0, .ref h0), (1, .ref r0), (2, .int (nI i))] → (bf == 1 && w i == 2) = false → ew_le bf = false → ew_le (w i) = false → (bf == 5 && P i) = false → W p l e ({ frames := 3, cells := 0, slots := 0, locals := 62 }) s m args below meth c s.heap [] 0 0 (MQ below (er_Q (.int (ef_b (ew_part bf la lb od (w i) (ew_ah w n i) (P i))))) args s 0 0 (fun _ => False)) (F0 m 58 ls []) := by
    intro ls hl f22 f41 f42 f58
    refine lv_aload_n hx hb dX4_part_58 rfl (lv_at hl 1 rfl) ?_
    refine va_get (D := D) (ci := 3) (v := .int bf) (C := RX4) (T := TX4) (N := 4) hx hb hts (fun w h => List.mem_cons_of_mem _ (inX4 w h)) hown hK hP 0 rfl rfl 0 (by decide) (eT_h hts tw95) (fun _ h9 => h9) rfl dX4_part_59 ?_
    refine lv_bipush (v := 18) hx hb dX4_part_62 (by decide) ?_
    refine lv_icmp_ne (tgt := 73) hx hb dX4_part_64 (by decide) (fun h8 => ?_) (fun h8 => ?_)
    · skip
      exact L73  ls hl f22 f41 f42 f58 (by simp [f22, f41, f42, f58, h8])
    · skip
      refine lv_iload_n hx hb dX4_part_67 rfl (lv_at hl 0 rfl) ?_
      refine lv_bipush (v := 18) hx hb dX4_part_68 (by decide) ?_
      refine lv_icmp_eq (tgt := 80) hx hb dX4_part_70 (by decide) (fun h9 => ?_) (fun h9 => ?_)
      · skip
        refine lv_iconst (v := 0) hx hb dX4_part_80 (by decide) ?_
        exact er_zret hx hb hr hlk (by simp [ef_b, ew_part, f22, f41, f42, f58, h8, h9] <;> decide) dX4_part_81
      · skip
        exact L73  ls hl f22 f41 f42 f58 (by simp [f22, f41, f42, f58, h8, h9])
  have L41 : ∀ (ls : Array Slot), lv_has ls 5 [(3, .int (w i)), (0, .ref h0), (1, .ref r0), (2, .int (nI i))] → (bf == 1 && w i == 2) = false → ew_le bf = false → ew_le (w i) = false → W p l e ({ frames := 3, cells := 0, slots := 0, locals := 62 }) s m args below meth c s.heap [] 0 0 (MQ below (er_Q (.int (ef_b (ew_part bf la lb od (w i) (ew_ah w n i) (P i))))) args s 0 0 (fun _ => False)) (F0 m 41 ls []) := by
    intro ls hl f22 f41 f42
    refine lv_aload_n hx hb dX4_part_41 rfl (lv_at hl 1 rfl) ?_
    refine va_get (D := D) (ci := 3) (v := .int bf) (C := RX4) (T := TX4) (N := 4) hx hb hts (fun w h => List.mem_cons_of_mem _ (inX4 w h)) hown hK hP 0 rfl rfl 0 (by decide) (eT_h hts tw95) (fun _ h9 => h9) rfl dX4_part_42 ?_
    refine lv_iconst (v := 5) hx hb dX4_part_45 (by decide) ?_
    refine lv_icmp_ne (tgt := 58) hx hb dX4_part_46 (by decide) (fun h10 => ?_) (fun h10 => ?_)
    · skip
      exact L58  ls hl f22 f41 f42 (by simp [f22, f41, f42, h10])
    · skip
      refine lv_aload_n hx hb dX4_part_49 rfl (lv_at hl 2 rfl) ?_
      refine va_get (D := D) (ci := 2) (v := .ref pA) (C := RX2) (T := TX2) (N := 4) hx hb hts (fun w h => List.mem_cons_of_mem _ (inX2 w h)) hown hK hP 1 rfl rfl 2 (by decide) (eT_h hts tw32) (fun _ h9 => h9) rfl dX4_part_50 ?_
      refine lv_iload_n hx hb dX4_part_53 rfl (lv_at hl 3 rfl) ?_
      refine va_zald hx hb hK hP 3 1 rfl rfl (vp_in_nI (by omega) (by decide)) dX4_part_54 ?_
      refine ef_eqi (y := ef_b (P i)) (by rw [nI_clamp (by omega)]) ?_
      refine ef_if_ne (tgt := 80) hx hb dX4_part_55 (by decide) (fun h11 => ?_) (fun h11 => ?_)
      · skip
        refine lv_iconst (v := 0) hx hb dX4_part_80 (by decide) ?_
        exact er_zret hx hb hr hlk (by simp [ef_b, ew_part, f22, f41, f42, h10, h11] <;> decide) dX4_part_81
      · skip
        exact L58  ls hl f22 f41 f42 (by simp [f22, f41, f42, h10, h11])
  have L22 : ∀ (ls : Array Slot), lv_has ls 5 [(3, .int (w i)), (0, .ref h0), (1, .ref r0), (2, .int (nI i))] → (bf == 1 && w i == 2) = false → W p l e ({ frames := 3, cells := 0, slots := 0, locals := 62 }) s m args below meth c s.heap [] 0 0 (MQ below (er_Q (.int (ef_b (ew_part bf la lb od (w i) (ew_ah w n i) (P i))))) args s 0 0 (fun _ => False)) (F0 m 22 ls []) := by
    intro ls hl f22
    refine lv_aload_n hx hb dX4_part_22 rfl (lv_at hl 1 rfl) ?_
    refine va_get (D := D) (ci := 3) (v := .int bf) (C := RX4) (T := TX4) (N := 4) hx hb hts (fun w h => List.mem_cons_of_mem _ (inX4 w h)) hown hK hP 0 rfl rfl 0 (by decide) (eT_h hts tw95) (fun _ h9 => h9) rfl dX4_part_23 ?_
    refine er_S (own := RX4) (rest := []) hx hb hml hown hts hl.1 (k_X4_isLineEnd l D cI cZ cJ bf) tw277 tw6 tw275 tw276 yd_X4_isLineEnd rfl rfl ⟨Nat.le_of_ble_eq_true rfl, Nat.le_of_ble_eq_true rfl⟩ er_nil hK rfl rfl (Nat.le_of_ble_eq_true rfl) ⟨Nat.zero_le _, Nat.zero_le _⟩ dX4_part_26 ?_
    refine ef_if_ne (tgt := 39) hx hb dX4_part_29 (by decide) (fun h12 => ?_) (fun h12 => ?_)
    · skip
      refine lv_iconst (v := 1) hx hb dX4_part_39 (by decide) ?_
      exact er_zret hx hb hr hlk (by simp [ef_b, ew_part, f22, h12] <;> decide) dX4_part_40
    · skip
      refine lv_iload_n hx hb dX4_part_32 rfl (lv_at hl 0 rfl) ?_
      refine er_S (own := RX4) (rest := []) hx hb hml hown hts hl.1 (k_X4_isLineEnd l D cI cZ cJ (w i)) tw277 tw6 tw275 tw276 yd_X4_isLineEnd rfl rfl ⟨Nat.le_of_ble_eq_true rfl, Nat.le_of_ble_eq_true rfl⟩ er_nil hK rfl rfl (Nat.le_of_ble_eq_true rfl) ⟨Nat.zero_le _, Nat.zero_le _⟩ dX4_part_33 ?_
      refine ef_if_eq (tgt := 41) hx hb dX4_part_36 (by decide) (fun h13 => ?_) (fun h13 => ?_)
      · skip
        exact L41  ls hl f22 (by simp [f22, h12, h13]) (by simp [f22, h12, h13])
      · skip
        refine lv_iconst (v := 1) hx hb dX4_part_39 (by decide) ?_
        exact er_zret hx hb hr hlk (by simp [ef_b, ew_part, f22, h12, h13] <;> decide) dX4_part_40
  refine lv_aload_n hx hb dX4_part_0 rfl (lv_at hl 1 rfl) ?_
  refine va_get (D := D) (ci := 2) (v := .ref wA) (C := RX2) (T := TX2) (N := 4) hx hb hts (fun w h => List.mem_cons_of_mem _ (inX2 w h)) hown hK hP 1 rfl rfl 1 (by decide) (eT_h hts tw30) (fun _ h9 => h9) rfl dX4_part_1 ?_
  refine lv_iload_n hx hb dX4_part_4 rfl (lv_at hl 2 rfl) ?_
  refine va_iald hx hb hK hP 2 0 rfl rfl (vp_in_nI (by omega) (by decide)) dX4_part_5 ?_
  refine ef_eqi (y := w i) (by rw [nI_clamp (by omega)]) ?_
  refine lv_istore_n (lv' := [(3, .int (w i)), (0, .ref h0), (1, .ref r0), (2, .int (nI i))]) hx hb dX4_part_6 rfl hl (Nat.le_of_ble_eq_true rfl) rfl (fun ls hl => ?_)
  refine lv_aload_n hx hb dX4_part_7 rfl (lv_at hl 1 rfl) ?_
  refine va_get (D := D) (ci := 3) (v := .int bf) (C := RX4) (T := TX4) (N := 4) hx hb hts (fun w h => List.mem_cons_of_mem _ (inX4 w h)) hown hK hP 0 rfl rfl 0 (by decide) (eT_h hts tw95) (fun _ h9 => h9) rfl dX4_part_8 ?_
  refine lv_iconst (v := 1) hx hb dX4_part_11 (by decide) ?_
  refine lv_icmp_ne (tgt := 22) hx hb dX4_part_12 (by decide) (fun h14 => ?_) (fun h14 => ?_)
  · skip
    exact L22  ls hl (by simp [h14])
  · skip
    refine lv_iload_n hx hb dX4_part_15 rfl (lv_at hl 0 rfl) ?_
    refine lv_iconst (v := 2) hx hb dX4_part_16 (by decide) ?_
    refine lv_icmp_ne (tgt := 22) hx hb dX4_part_17 (by decide) (fun h15 => ?_) (fun h15 => ?_)
    · skip
      exact L22  ls hl (by simp [h14, h15])
    · skip
      refine lv_iconst (v := 0) hx hb dX4_part_20 (by decide) ?_
      exact er_zret hx hb hr hlk (by simp [ef_b, ew_part, h14, h15] <;> decide) dX4_part_21
