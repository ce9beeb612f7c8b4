theorem ei_m2 (k : Nat) : nI (k + 1) - 2 = nI k + (-1) := by
  rw [nI_succ, Int32.sub_eq_add_neg, Int32.add_assoc]
  rfl
theorem ei_par {c : Nat} {a b : Bool} (h : a = !b) : (decide (c % 2 = 1) ^^ a) = (decide ((c + 1) % 2 = 1) ^^ b) := by
  subst h
  by_cases hc : c % 2 = 1
  · have h2 : ¬ (c + 1) % 2 = 1 := by omega
    simp [hc, h2]
  · have h2 : (c + 1) % 2 = 1 := by omega
    simp [hc, h2]

set_option maxHeartbeats 4000000 in
set_option maxRecDepth 100000 in
theorem k_X6_cluster (l : Launch) (D : va_G) (cI cZ cJ : ClassId) (h0 gA wA pA : Nat) (fa : Int32) (n : Nat) (g w : Nat → Int32) (P : Nat → Bool) (k : Nat) (hk : k + 1 < 1000) : er_M l yX6_cluster (Cond.code yX6_cluster cX6_cluster 6 (some .boolean) :: eT) ({ frames := 0, cells := 0, slots := 0, locals := 0 }) D vwCl (eTy cI cZ cJ) [.ref h0, .int (nI (k + 1))] [(h0, .inr (5, [.int fa, .int (nI n), .ref gA, .ref wA, .ref pA])), (gA, .inl (cI, 1000, .inl g)), (wA, .inl (cI, 1000, .inl w)), (pA, .inl (cZ, 1000, .inl (fun j => ef_b (P j))))] (.int (ef_b (em_cl (g k) (g (k + 1)) (P (k + 1)) (eg_od g (k + 1)) (eg_ap g P k)))) := by
  refine er_of (cc := cX6_cluster) (maxL := 6) (ret := (some .boolean)) (by decide) rfl (Nat.le_of_ble_eq_true rfl) ?_
  intro p e s m args below meth c ls hx hb hr hts hown hlk hml hP hK hl
  have hown : s.vm.findClass RX6 = some m.cls := hown
  have hl : lv_has ls 6 [(0, .ref h0), (1, .int (nI (k + 1)))] := hl
  have L266 : ∀ (c9 : Nat) (ls : Array Slot), lv_has ls 6 [(4, .int (nI c9))] → (g k == 1 && g (k + 1) == 2) = false → ew_le (g k) = false → ew_le (g (k + 1)) = false → (g k == 9 && (g (k + 1) == 9 || g (k + 1) == 10 || g (k + 1) == 12 || g (k + 1) == 13)) = false → ((g k == 12 || g k == 10) && (g (k + 1) == 10 || g (k + 1) == 11)) = false → ((g k == 13 || g k == 11) && g (k + 1) == 11) = false → (g (k + 1) == 4 || g (k + 1) == 5 || g (k + 1) == 8 || g k == 7) = false → (g k == 5 && P (k + 1) && eg_ap g P k) = false → g k = 6 → g (k + 1) = 6 → c9 ≤ 1000 → eg_od g (k + 1) = decide (c9 % 2 = 1) → W p l e ({ frames := 0, cells := 0, slots := 0, locals := 0 }) s m args below meth c s.heap [] 0 0 (MQ below (er_Q (.int (ef_b (em_cl (g k) (g (k + 1)) (P (k + 1)) (eg_od g (k + 1)) (eg_ap g P k))))) args s 0 0 (fun _ => False)) (F0 m 266 ls []) := by
    intro c9 ls hl f28 f50 f51 f82 f108 f128 f152 f220 f6a f6b hc ho
    refine lv_iload hx hb dX6_cluster_266 (lv_at hl 0 rfl) ?_
    refine lv_iconst (v := 2) hx hb dX6_cluster_268 (by decide) ?_
    refine lv_irem hx hb dX6_cluster_269 (by decide) ?_
    refine ef_eqi (y := nI (c9 % 2)) (pk_rem (a := c9) (d := 2) (by omega) (by decide) (by decide)) ?_
    refine lv_iconst (v := 1) hx hb dX6_cluster_270 (by decide) ?_
    refine lv_icmp_ne (tgt := 276) hx hb dX6_cluster_271 (by decide) (fun h1 => ?_) (fun h1 => ?_)
    · skip
      have h1 : ¬ (c9 % 2 = 1) := fun q9 => h1 ((nI_eq (a := c9 % 2) (b := 1) (by omega) (by omega)).mpr q9)
      refine lv_iconst (v := 1) hx hb dX6_cluster_276 (by decide) ?_
      exact er_zret hx hb hr hlk (by simp [ef_b, em_cl, f28, f50, f51, f82, f108, f128, f152, f220, ho, f6a, f6b, h1]) dX6_cluster_277
    · skip
      have h1 : c9 % 2 = 1 := (nI_eq (a := c9 % 2) (b := 1) (by omega) (by omega)).mp h1
      refine lv_iconst (v := 0) hx hb dX6_cluster_274 (by decide) ?_
      exact er_zret hx hb hr hlk (by simp [ef_b, em_cl, f28, f50, f51, f82, f108, f128, f152, f220, ho, f28, f50, f51, f82, f108, f128, f152, f220, f6a, f6b, h1] <;> decide) dX6_cluster_275
  have L240 : ∀ (r : Nat) (c9 j : Nat) (ls : Array Slot), lv_has ls 6 [(5, .int (nI j + (-1))), (4, .int (nI c9)), (0, .ref h0)] → (g k == 1 && g (k + 1) == 2) = false → ew_le (g k) = false → ew_le (g (k + 1)) = false → (g k == 9 && (g (k + 1) == 9 || g (k + 1) == 10 || g (k + 1) == 12 || g (k + 1) == 13)) = false → ((g k == 12 || g k == 10) && (g (k + 1) == 10 || g (k + 1) == 11)) = false → ((g k == 13 || g k == 11) && g (k + 1) == 11) = false → (g (k + 1) == 4 || g (k + 1) == 5 || g (k + 1) == 8 || g k == 7) = false → (g k == 5 && P (k + 1) && eg_ap g P k) = false → g k = 6 → g (k + 1) = 6 → c9 + j = k + 1 → eg_od g (k + 1) = (decide (c9 % 2 = 1) ^^ eg_od g j) → j < r → W p l e ({ frames := 0, cells := 0, slots := 0, locals := 0 }) s m args below meth c s.heap [] 0 0 (MQ below (er_Q (.int (ef_b (em_cl (g k) (g (k + 1)) (P (k + 1)) (eg_od g (k + 1)) (eg_ap g P k))))) args s 0 0 (fun _ => False)) (F0 m 240 ls []) := by
    intro r
    induction r with
    | zero => intro c9 j ls hl f28 f50 f51 f82 f108 f128 f152 f220 f6a f6b hc ho hμ; exact absurd hμ (Nat.not_lt_zero _)
    | succ r ih =>
      intro c9 j ls hl f28 f50 f51 f82 f108 f128 f152 f220 f6a f6b hc ho hμ
      rcases j with _ | j
      · skip
        refine lv_iload hx hb dX6_cluster_240 (lv_at hl 0 rfl) ?_
        refine lv_if_lt (tgt := 266) hx hb dX6_cluster_242 (by decide) (fun h2 => ?_) (fun h2 => ?_)
        · skip
          exact L266 c9 ls (lv_sub hl [1] rfl) f28 f50 f51 f82 f108 f128 f152 f220 f6a f6b (by omega) (by rw [ho]; simp [eg_od])
        · skip
          exact absurd (by decide) h2
      · skip
        have hl : lv_has ls 6 [(5, .int (nI j)), (4, .int (nI c9)), (0, .ref h0)] := by rw [← pk_m1 j]; exact hl
        refine lv_iload hx hb dX6_cluster_240 (lv_at hl 0 rfl) ?_
        refine lv_if_lt (tgt := 266) hx hb dX6_cluster_242 (by decide) (fun h3 => ?_) (fun h3 => ?_)
        · skip
          exact absurd h3 (nI_pos (by omega))
        · skip
          refine lv_aload_n hx hb dX6_cluster_245 rfl (lv_at hl 2 rfl) ?_
          refine va_get (D := D) (ci := 5) (v := .ref gA) (C := RX6) (T := TX6) (N := 5) hx hb hts (fun w h => List.mem_cons_of_mem _ (inX6 w h)) hown hK hP 0 rfl rfl 2 (by decide) (eT_h hts tw369) (fun _ h9 => h9) rfl dX6_cluster_246 ?_
          refine lv_iload hx hb dX6_cluster_249 (lv_at hl 0 rfl) ?_
          refine va_iald hx hb hK hP 1 0 rfl rfl (vp_in_nI (by omega) (by decide)) dX6_cluster_251 ?_
          refine ef_eqi (y := g j) (by rw [nI_clamp (by omega)]) ?_
          refine lv_bipush (v := 6) hx hb dX6_cluster_252 (by decide) ?_
          refine lv_icmp_ne (tgt := 266) hx hb dX6_cluster_254 (by decide) (fun h4 => ?_) (fun h4 => ?_)
          · skip
            exact L266 c9 ls (lv_sub hl [1] rfl) f28 f50 f51 f82 f108 f128 f152 f220 f6a f6b (by omega) (by rw [ho]; simp [eg_od, h4, ei_n h4])
          · skip
            refine lv_iinc (k := 1) (v := nI (c9 + 1)) (lv' := [(4, .int (nI (c9 + 1))), (5, .int (nI j)), (0, .ref h0)]) hx hb dX6_cluster_257 hl rfl (by rw [show Int32.ofInt 1 = 1 from by decide]; exact nI_1 _) (Nat.le_of_ble_eq_true rfl) rfl (fun ls hl => ?_)
            refine lv_iinc (k := 1) (v := nI j + (-1)) (lv' := [(5, .int (nI j + (-1))), (4, .int (nI (c9 + 1))), (0, .ref h0)]) hx hb dX6_cluster_260 hl rfl (by rw [show Int32.ofInt (-1) = -1 from by decide]) (Nat.le_of_ble_eq_true rfl) rfl (fun ls hl => ?_)
            refine lv_goto (tgt := 240) hx hb dX6_cluster_263 (by decide) ?_
            exact ih (c9 + 1) j ls hl f28 f50 f51 f82 f108 f128 f152 f220 f6a f6b (by omega) (by rw [ho]; exact ei_par (by simp [eg_od, h4])) (by omega)
  have L220 : ∀ (ls : Array Slot), lv_has ls 6 [(3, .int (g (k + 1))), (2, .int (g k)), (0, .ref h0), (1, .int (nI (k + 1)))] → (g k == 1 && g (k + 1) == 2) = false → ew_le (g k) = false → ew_le (g (k + 1)) = false → (g k == 9 && (g (k + 1) == 9 || g (k + 1) == 10 || g (k + 1) == 12 || g (k + 1) == 13)) = false → ((g k == 12 || g k == 10) && (g (k + 1) == 10 || g (k + 1) == 11)) = false → ((g k == 13 || g k == 11) && g (k + 1) == 11) = false → (g (k + 1) == 4 || g (k + 1) == 5 || g (k + 1) == 8 || g k == 7) = false → (g k == 5 && P (k + 1) && eg_ap g P k) = false → W p l e ({ frames := 0, cells := 0, slots := 0, locals := 0 }) s m args below meth c s.heap [] 0 0 (MQ below (er_Q (.int (ef_b (em_cl (g k) (g (k + 1)) (P (k + 1)) (eg_od g (k + 1)) (eg_ap g P k))))) args s 0 0 (fun _ => False)) (F0 m 220 ls []) := by
    intro ls hl f28 f50 f51 f82 f108 f128 f152 f220
    refine lv_iload_n hx hb dX6_cluster_220 rfl (lv_at hl 1 rfl) ?_
    refine lv_bipush (v := 6) hx hb dX6_cluster_221 (by decide) ?_
    refine lv_icmp_ne (tgt := 276) hx hb dX6_cluster_223 (by decide) (fun h5 => ?_) (fun h5 => ?_)
    · skip
      refine lv_iconst (v := 1) hx hb dX6_cluster_276 (by decide) ?_
      exact er_zret hx hb hr hlk (by simp [ef_b, em_cl, f28, f50, f51, f82, f108, f128, f152, f220, h5]) dX6_cluster_277
    · skip
      refine lv_iload_n hx hb dX6_cluster_226 rfl (lv_at hl 0 rfl) ?_
      refine lv_bipush (v := 6) hx hb dX6_cluster_227 (by decide) ?_
      refine lv_icmp_ne (tgt := 276) hx hb dX6_cluster_229 (by decide) (fun h6 => ?_) (fun h6 => ?_)
      · skip
        refine lv_iconst (v := 1) hx hb dX6_cluster_276 (by decide) ?_
        exact er_zret hx hb hr hlk (by simp [ef_b, em_cl, f28, f50, f51, f82, f108, f128, f152, f220, h6]) dX6_cluster_277
      · skip
        refine lv_iconst (v := 0) hx hb dX6_cluster_232 (by decide) ?_
        refine lv_istore (lv' := [(4, .int 0), (3, .int (g (k + 1))), (2, .int (g k)), (0, .ref h0), (1, .int (nI (k + 1)))]) hx hb dX6_cluster_233 hl (Nat.le_of_ble_eq_true rfl) rfl (fun ls hl => ?_)
        refine lv_iload_n hx hb dX6_cluster_235 rfl (lv_at hl 4 rfl) ?_
        refine lv_iconst (v := 1) hx hb dX6_cluster_236 (by decide) ?_
        refine lv_isub hx hb dX6_cluster_237 ?_
        refine ef_eqi (y := nI (k + 1) + (-1)) (Int32.sub_eq_add_neg _ _) ?_
        refine lv_istore (lv' := [(5, .int (nI (k + 1) + (-1))), (4, .int 0), (3, .int (g (k + 1))), (2, .int (g k)), (0, .ref h0), (1, .int (nI (k + 1)))]) hx hb dX6_cluster_238 hl (Nat.le_of_ble_eq_true rfl) rfl (fun ls hl => ?_)
        exact L240 _ 0 (k + 1) ls (lv_sub hl [0, 1, 4] rfl) f28 f50 f51 f82 f108 f128 f152 f220 h5 h6 (by omega) (by simp) (Nat.lt_succ_self _)
  have L171 : ∀ (r : Nat) (j : Nat) (ls : Array Slot), lv_has ls 6 [(4, .int (nI j + (-1))), (3, .int (g (k + 1))), (2, .int (g k)), (0, .ref h0), (1, .int (nI (k + 1)))] → (g k == 1 && g (k + 1) == 2) = false → ew_le (g k) = false → ew_le (g (k + 1)) = false → (g k == 9 && (g (k + 1) == 9 || g (k + 1) == 10 || g (k + 1) == 12 || g (k + 1) == 13)) = false → ((g k == 12 || g k == 10) && (g (k + 1) == 10 || g (k + 1) == 11)) = false → ((g k == 13 || g k == 11) && g (k + 1) == 11) = false → (g (k + 1) == 4 || g (k + 1) == 5 || g (k + 1) == 8 || g k == 7) = false → g k = 5 → P (k + 1) = true → j ≤ k → eg_ap g P k = eg_ap g P j → j < r → W p l e ({ frames := 0, cells := 0, slots := 0, locals := 0 }) s m args below meth c s.heap [] 0 0 (MQ below (er_Q (.int (ef_b (em_cl (g k) (g (k + 1)) (P (k + 1)) (eg_od g (k + 1)) (eg_ap g P k))))) args s 0 0 (fun _ => False)) (F0 m 171 ls []) := by
    intro r
    induction r with
    | zero => intro j ls hl f28 f50 f51 f82 f108 f128 f152 f5a f5b hj he hμ; exact absurd hμ (Nat.not_lt_zero _)
    | succ r ih =>
      intro j ls hl f28 f50 f51 f82 f108 f128 f152 f5a f5b hj he hμ
      rcases j with _ | j
      · skip
        refine lv_iload hx hb dX6_cluster_171 (lv_at hl 0 rfl) ?_
        refine lv_if_lt (tgt := 203) hx hb dX6_cluster_173 (by decide) (fun h7 => ?_) (fun h7 => ?_)
        · skip
          refine lv_iload hx hb dX6_cluster_203 (lv_at hl 0 rfl) ?_
          refine lv_if_lt (tgt := 220) hx hb dX6_cluster_205 (by decide) (fun h8 => ?_) (fun h8 => ?_)
          · skip
            exact L220  ls (lv_sub hl [1, 2, 3, 4] rfl) f28 f50 f51 f82 f108 f128 f152 (by simp [he, eg_ap])
          · skip
            exact absurd (by decide) h8
        · skip
          exact absurd (by decide) h7
      · skip
        have hl : lv_has ls 6 [(4, .int (nI j)), (3, .int (g (k + 1))), (2, .int (g k)), (0, .ref h0), (1, .int (nI (k + 1)))] := by rw [← pk_m1 j]; exact hl
        refine lv_iload hx hb dX6_cluster_171 (lv_at hl 0 rfl) ?_
        refine lv_if_lt (tgt := 203) hx hb dX6_cluster_173 (by decide) (fun h9 => ?_) (fun h9 => ?_)
        · skip
          exact absurd h9 (nI_pos (by omega))
        · skip
          refine lv_aload_n hx hb dX6_cluster_176 rfl (lv_at hl 3 rfl) ?_
          refine va_get (D := D) (ci := 5) (v := .ref pA) (C := RX6) (T := TX6) (N := 5) hx hb hts (fun w h => List.mem_cons_of_mem _ (inX6 w h)) hown hK hP 0 rfl rfl 4 (by decide) (eT_h hts tw371) (fun _ h9 => h9) rfl dX6_cluster_177 ?_
          refine lv_iload hx hb dX6_cluster_180 (lv_at hl 0 rfl) ?_
          refine va_zald hx hb hK hP 3 1 rfl rfl (vp_in_nI (by omega) (by decide)) dX6_cluster_182 ?_
          refine ef_eqi (y := ef_b (P j)) (by rw [nI_clamp (by omega)]) ?_
          refine ef_if_ne (tgt := 203) hx hb dX6_cluster_183 (by decide) (fun h10 => ?_) (fun h10 => ?_)
          · skip
            refine lv_iload hx hb dX6_cluster_203 (lv_at hl 0 rfl) ?_
            refine lv_if_lt (tgt := 220) hx hb dX6_cluster_205 (by decide) (fun h11 => ?_) (fun h11 => ?_)
            · skip
              exact absurd h11 (nI_pos (by omega))
            · skip
              refine lv_aload_n hx hb dX6_cluster_208 rfl (lv_at hl 3 rfl) ?_
              refine va_get (D := D) (ci := 5) (v := .ref pA) (C := RX6) (T := TX6) (N := 5) hx hb hts (fun w h => List.mem_cons_of_mem _ (inX6 w h)) hown hK hP 0 rfl rfl 4 (by decide) (eT_h hts tw371) (fun _ h9 => h9) rfl dX6_cluster_209 ?_
              refine lv_iload hx hb dX6_cluster_212 (lv_at hl 0 rfl) ?_
              refine va_zald hx hb hK hP 3 1 rfl rfl (vp_in_nI (by omega) (by decide)) dX6_cluster_214 ?_
              refine ef_eqi (y := ef_b (P j)) (by rw [nI_clamp (by omega)]) ?_
              refine ef_if_eq (tgt := 220) hx hb dX6_cluster_215 (by decide) (fun h12 => ?_) (fun h12 => ?_)
              · skip
                exact Bool.noConfusion (h10.symm.trans h12)
              · skip
                refine lv_iconst (v := 0) hx hb dX6_cluster_218 (by decide) ?_
                exact er_zret hx hb hr hlk (by simp [ef_b, em_cl, f28, f50, f51, f82, f108, f128, f152, f5a, f5b, h10, h12, he, eg_ap] <;> decide) dX6_cluster_219
          · skip
            refine lv_aload_n hx hb dX6_cluster_186 rfl (lv_at hl 3 rfl) ?_
            refine va_get (D := D) (ci := 5) (v := .ref gA) (C := RX6) (T := TX6) (N := 5) hx hb hts (fun w h => List.mem_cons_of_mem _ (inX6 w h)) hown hK hP 0 rfl rfl 2 (by decide) (eT_h hts tw369) (fun _ h9 => h9) rfl dX6_cluster_187 ?_
            refine lv_iload hx hb dX6_cluster_190 (lv_at hl 0 rfl) ?_
            refine va_iald hx hb hK hP 1 0 rfl rfl (vp_in_nI (by omega) (by decide)) dX6_cluster_192 ?_
            refine ef_eqi (y := g j) (by rw [nI_clamp (by omega)]) ?_
            refine lv_iconst (v := 4) hx hb dX6_cluster_193 (by decide) ?_
            refine lv_icmp_ne (tgt := 203) hx hb dX6_cluster_194 (by decide) (fun h13 => ?_) (fun h13 => ?_)
            · skip
              refine lv_iload hx hb dX6_cluster_203 (lv_at hl 0 rfl) ?_
              refine lv_if_lt (tgt := 220) hx hb dX6_cluster_205 (by decide) (fun h14 => ?_) (fun h14 => ?_)
              · skip
                exact absurd h14 (nI_pos (by omega))
              · skip
                refine lv_aload_n hx hb dX6_cluster_208 rfl (lv_at hl 3 rfl) ?_
                refine va_get (D := D) (ci := 5) (v := .ref pA) (C := RX6) (T := TX6) (N := 5) hx hb hts (fun w h => List.mem_cons_of_mem _ (inX6 w h)) hown hK hP 0 rfl rfl 4 (by decide) (eT_h hts tw371) (fun _ h9 => h9) rfl dX6_cluster_209 ?_
                refine lv_iload hx hb dX6_cluster_212 (lv_at hl 0 rfl) ?_
                refine va_zald hx hb hK hP 3 1 rfl rfl (vp_in_nI (by omega) (by decide)) dX6_cluster_214 ?_
                refine ef_eqi (y := ef_b (P j)) (by rw [nI_clamp (by omega)]) ?_
                refine ef_if_eq (tgt := 220) hx hb dX6_cluster_215 (by decide) (fun h15 => ?_) (fun h15 => ?_)
                · skip
                  exact L220  ls (lv_sub hl [1, 2, 3, 4] rfl) f28 f50 f51 f82 f108 f128 f152 (by simp [h10, h13, h15, he, eg_ap])
                · skip
                  exact Bool.noConfusion (h10.symm.trans h15)
            · skip
              refine lv_iinc (k := 0) (v := nI j + (-1)) (lv' := [(4, .int (nI j + (-1))), (3, .int (g (k + 1))), (2, .int (g k)), (0, .ref h0), (1, .int (nI (k + 1)))]) hx hb dX6_cluster_197 hl rfl (by rw [show Int32.ofInt (-1) = -1 from by decide]) (Nat.le_of_ble_eq_true rfl) rfl (fun ls hl => ?_)
              refine lv_goto (tgt := 171) hx hb dX6_cluster_200 (by decide) ?_
              exact ih j ls hl f28 f50 f51 f82 f108 f128 f152 f5a f5b (by omega) (by rw [he]; simp [eg_ap, h10, h13]) (by omega)
  have L152 : ∀ (ls : Array Slot), lv_has ls 6 [(3, .int (g (k + 1))), (2, .int (g k)), (0, .ref h0), (1, .int (nI (k + 1)))] → (g k == 1 && g (k + 1) == 2) = false → ew_le (g k) = false → ew_le (g (k + 1)) = false → (g k == 9 && (g (k + 1) == 9 || g (k + 1) == 10 || g (k + 1) == 12 || g (k + 1) == 13)) = false → ((g k == 12 || g k == 10) && (g (k + 1) == 10 || g (k + 1) == 11)) = false → ((g k == 13 || g k == 11) && g (k + 1) == 11) = false → (g (k + 1) == 4 || g (k + 1) == 5 || g (k + 1) == 8 || g k == 7) = false → W p l e ({ frames := 0, cells := 0, slots := 0, locals := 0 }) s m args below meth c s.heap [] 0 0 (MQ below (er_Q (.int (ef_b (em_cl (g k) (g (k + 1)) (P (k + 1)) (eg_od g (k + 1)) (eg_ap g P k))))) args s 0 0 (fun _ => False)) (F0 m 152 ls []) := by
    intro ls hl f28 f50 f51 f82 f108 f128 f152
    refine lv_iload_n hx hb dX6_cluster_152 rfl (lv_at hl 1 rfl) ?_
    refine lv_iconst (v := 5) hx hb dX6_cluster_153 (by decide) ?_
    refine lv_icmp_ne (tgt := 220) hx hb dX6_cluster_154 (by decide) (fun h16 => ?_) (fun h16 => ?_)
    · skip
      exact L220  ls hl f28 f50 f51 f82 f108 f128 f152 (by simp [h16])
    · skip
      refine lv_aload_n hx hb dX6_cluster_157 rfl (lv_at hl 2 rfl) ?_
      refine va_get (D := D) (ci := 5) (v := .ref pA) (C := RX6) (T := TX6) (N := 5) hx hb hts (fun w h => List.mem_cons_of_mem _ (inX6 w h)) hown hK hP 0 rfl rfl 4 (by decide) (eT_h hts tw371) (fun _ h9 => h9) rfl dX6_cluster_158 ?_
      refine lv_iload_n hx hb dX6_cluster_161 rfl (lv_at hl 3 rfl) ?_
      refine va_zald hx hb hK hP 3 1 rfl rfl (vp_in_nI (by omega) (by decide)) dX6_cluster_162 ?_
      refine ef_eqi (y := ef_b (P (k + 1))) (by rw [nI_clamp (by omega)]) ?_
      refine ef_if_eq (tgt := 220) hx hb dX6_cluster_163 (by decide) (fun h17 => ?_) (fun h17 => ?_)
      · skip
        exact L220  ls hl f28 f50 f51 f82 f108 f128 f152 (by simp [h16, h17])
      · skip
        refine lv_iload_n hx hb dX6_cluster_166 rfl (lv_at hl 3 rfl) ?_
        refine lv_iconst (v := 2) hx hb dX6_cluster_167 (by decide) ?_
        refine lv_isub hx hb dX6_cluster_168 ?_
        refine ef_eqi (y := nI k + (-1)) (ei_m2 k) ?_
        refine lv_istore (lv' := [(4, .int (nI k + (-1))), (3, .int (g (k + 1))), (2, .int (g k)), (0, .ref h0), (1, .int (nI (k + 1)))]) hx hb dX6_cluster_169 hl (Nat.le_of_ble_eq_true rfl) rfl (fun ls hl => ?_)
        exact L171 _ k ls hl f28 f50 f51 f82 f108 f128 f152 h16 h17 (Nat.le_refl _) rfl (Nat.lt_succ_self _)
  have L128 : ∀ (ls : Array Slot), lv_has ls 6 [(3, .int (g (k + 1))), (2, .int (g k)), (0, .ref h0), (1, .int (nI (k + 1)))] → (g k == 1 && g (k + 1) == 2) = false → ew_le (g k) = false → ew_le (g (k + 1)) = false → (g k == 9 && (g (k + 1) == 9 || g (k + 1) == 10 || g (k + 1) == 12 || g (k + 1) == 13)) = false → ((g k == 12 || g k == 10) && (g (k + 1) == 10 || g (k + 1) == 11)) = false → ((g k == 13 || g k == 11) && g (k + 1) == 11) = false → W p l e ({ frames := 0, cells := 0, slots := 0, locals := 0 }) s m args below meth c s.heap [] 0 0 (MQ below (er_Q (.int (ef_b (em_cl (g k) (g (k + 1)) (P (k + 1)) (eg_od g (k + 1)) (eg_ap g P k))))) args s 0 0 (fun _ => False)) (F0 m 128 ls []) := by
    intro ls hl f28 f50 f51 f82 f108 f128
    refine lv_iload_n hx hb dX6_cluster_128 rfl (lv_at hl 0 rfl) ?_
    refine lv_iconst (v := 4) hx hb dX6_cluster_129 (by decide) ?_
    refine lv_icmp_eq (tgt := 150) hx hb dX6_cluster_130 (by decide) (fun h18 => ?_) (fun h18 => ?_)
    · skip
      refine lv_iconst (v := 0) hx hb dX6_cluster_150 (by decide) ?_
      exact er_zret hx hb hr hlk (by simp [ef_b, em_cl, f28, f50, f51, f82, f108, f128, h18] <;> decide) dX6_cluster_151
    · skip
      refine lv_iload_n hx hb dX6_cluster_133 rfl (lv_at hl 0 rfl) ?_
      refine lv_iconst (v := 5) hx hb dX6_cluster_134 (by decide) ?_
      refine lv_icmp_eq (tgt := 150) hx hb dX6_cluster_135 (by decide) (fun h19 => ?_) (fun h19 => ?_)
      · skip
        refine lv_iconst (v := 0) hx hb dX6_cluster_150 (by decide) ?_
        exact er_zret hx hb hr hlk (by simp [ef_b, em_cl, f28, f50, f51, f82, f108, f128, h18, h19] <;> decide) dX6_cluster_151
      · skip
        refine lv_iload_n hx hb dX6_cluster_138 rfl (lv_at hl 0 rfl) ?_
        refine lv_bipush (v := 8) hx hb dX6_cluster_139 (by decide) ?_
        refine lv_icmp_eq (tgt := 150) hx hb dX6_cluster_141 (by decide) (fun h20 => ?_) (fun h20 => ?_)
        · skip
          refine lv_iconst (v := 0) hx hb dX6_cluster_150 (by decide) ?_
          exact er_zret hx hb hr hlk (by simp [ef_b, em_cl, f28, f50, f51, f82, f108, f128, h18, h19, h20] <;> decide) dX6_cluster_151
        · skip
          refine lv_iload_n hx hb dX6_cluster_144 rfl (lv_at hl 1 rfl) ?_
          refine lv_bipush (v := 7) hx hb dX6_cluster_145 (by decide) ?_
          refine lv_icmp_ne (tgt := 152) hx hb dX6_cluster_147 (by decide) (fun h21 => ?_) (fun h21 => ?_)
          · skip
            exact L152  ls hl f28 f50 f51 f82 f108 f128 (by simp [h18, h19, h20, h21])
          · skip
            refine lv_iconst (v := 0) hx hb dX6_cluster_150 (by decide) ?_
            exact er_zret hx hb hr hlk (by simp [ef_b, em_cl, f28, f50, f51, f82, f108, f128, h18, h19, h20, h21] <;> decide) dX6_cluster_151
  have L108 : ∀ (ls : Array Slot), lv_has ls 6 [(3, .int (g (k + 1))), (2, .int (g k)), (0, .ref h0), (1, .int (nI (k + 1)))] → (g k == 1 && g (k + 1) == 2) = false → ew_le (g k) = false → ew_le (g (k + 1)) = false → (g k == 9 && (g (k + 1) == 9 || g (k + 1) == 10 || g (k + 1) == 12 || g (k + 1) == 13)) = false → ((g k == 12 || g k == 10) && (g (k + 1) == 10 || g (k + 1) == 11)) = false → W p l e ({ frames := 0, cells := 0, slots := 0, locals := 0 }) s m args below meth c s.heap [] 0 0 (MQ below (er_Q (.int (ef_b (em_cl (g k) (g (k + 1)) (P (k + 1)) (eg_od g (k + 1)) (eg_ap g P k))))) args s 0 0 (fun _ => False)) (F0 m 108 ls []) := by
    intro ls hl f28 f50 f51 f82 f108
    refine lv_iload_n hx hb dX6_cluster_108 rfl (lv_at hl 1 rfl) ?_
    refine lv_bipush (v := 13) hx hb dX6_cluster_109 (by decide) ?_
    refine lv_icmp_eq (tgt := 120) hx hb dX6_cluster_111 (by decide) (fun h22 => ?_) (fun h22 => ?_)
    · skip
      refine lv_iload_n hx hb dX6_cluster_120 rfl (lv_at hl 0 rfl) ?_
      refine lv_bipush (v := 11) hx hb dX6_cluster_121 (by decide) ?_
      refine lv_icmp_ne (tgt := 128) hx hb dX6_cluster_123 (by decide) (fun h23 => ?_) (fun h23 => ?_)
      · skip
        exact L128  ls hl f28 f50 f51 f82 f108 (by simp [h22, h23])
      · skip
        refine lv_iconst (v := 0) hx hb dX6_cluster_126 (by decide) ?_
        exact er_zret hx hb hr hlk (by simp [ef_b, em_cl, f28, f50, f51, f82, f108, h22, h23] <;> decide) dX6_cluster_127
    · skip
      refine lv_iload_n hx hb dX6_cluster_114 rfl (lv_at hl 1 rfl) ?_
      refine lv_bipush (v := 11) hx hb dX6_cluster_115 (by decide) ?_
      refine lv_icmp_ne (tgt := 128) hx hb dX6_cluster_117 (by decide) (fun h24 => ?_) (fun h24 => ?_)
      · skip
        exact L128  ls hl f28 f50 f51 f82 f108 (by simp [h22, h24])
      · skip
        refine lv_iload_n hx hb dX6_cluster_120 rfl (lv_at hl 0 rfl) ?_
        refine lv_bipush (v := 11) hx hb dX6_cluster_121 (by decide) ?_
        refine lv_icmp_ne (tgt := 128) hx hb dX6_cluster_123 (by decide) (fun h25 => ?_) (fun h25 => ?_)
        · skip
          exact L128  ls hl f28 f50 f51 f82 f108 (by simp [h22, h24, h25])
        · skip
          refine lv_iconst (v := 0) hx hb dX6_cluster_126 (by decide) ?_
          exact er_zret hx hb hr hlk (by simp [ef_b, em_cl, f28, f50, f51, f82, f108, h22, h24, h25] <;> decide) dX6_cluster_127
  have L82 : ∀ (ls : Array Slot), lv_has ls 6 [(3, .int (g (k + 1))), (2, .int (g k)), (0, .ref h0), (1, .int (nI (k + 1)))] → (g k == 1 && g (k + 1) == 2) = false → ew_le (g k) = false → ew_le (g (k + 1)) = false → (g k == 9 && (g (k + 1) == 9 || g (k + 1) == 10 || g (k + 1) == 12 || g (k + 1) == 13)) = false → W p l e ({ frames := 0, cells := 0, slots := 0, locals := 0 }) s m args below meth c s.heap [] 0 0 (MQ below (er_Q (.int (ef_b (em_cl (g k) (g (k + 1)) (P (k + 1)) (eg_od g (k + 1)) (eg_ap g P k))))) args s 0 0 (fun _ => False)) (F0 m 82 ls []) := by
    intro ls hl f28 f50 f51 f82
    refine lv_iload_n hx hb dX6_cluster_82 rfl (lv_at hl 1 rfl) ?_
    refine lv_bipush (v := 12) hx hb dX6_cluster_83 (by decide) ?_
    refine lv_icmp_eq (tgt := 94) hx hb dX6_cluster_85 (by decide) (fun h26 => ?_) (fun h26 => ?_)
    · skip
      refine lv_iload_n hx hb dX6_cluster_94 rfl (lv_at hl 0 rfl) ?_
      refine lv_bipush (v := 10) hx hb dX6_cluster_95 (by decide) ?_
      refine lv_icmp_eq (tgt := 106) hx hb dX6_cluster_97 (by decide) (fun h27 => ?_) (fun h27 => ?_)
      · skip
        refine lv_iconst (v := 0) hx hb dX6_cluster_106 (by decide) ?_
        exact er_zret hx hb hr hlk (by simp [ef_b, em_cl, f28, f50, f51, f82, h26, h27] <;> decide) dX6_cluster_107
      · skip
        refine lv_iload_n hx hb dX6_cluster_100 rfl (lv_at hl 0 rfl) ?_
        refine lv_bipush (v := 11) hx hb dX6_cluster_101 (by decide) ?_
        refine lv_icmp_ne (tgt := 108) hx hb dX6_cluster_103 (by decide) (fun h28 => ?_) (fun h28 => ?_)
        · skip
          exact L108  ls hl f28 f50 f51 f82 (by simp [h26, h27, h28])
        · skip
          refine lv_iconst (v := 0) hx hb dX6_cluster_106 (by decide) ?_
          exact er_zret hx hb hr hlk (by simp [ef_b, em_cl, f28, f50, f51, f82, h26, h27, h28] <;> decide) dX6_cluster_107
    · skip
      refine lv_iload_n hx hb dX6_cluster_88 rfl (lv_at hl 1 rfl) ?_
      refine lv_bipush (v := 10) hx hb dX6_cluster_89 (by decide) ?_
      refine lv_icmp_ne (tgt := 108) hx hb dX6_cluster_91 (by decide) (fun h29 => ?_) (fun h29 => ?_)
      · skip
        exact L108  ls hl f28 f50 f51 f82 (by simp [h26, h29])
      · skip
        refine lv_iload_n hx hb dX6_cluster_94 rfl (lv_at hl 0 rfl) ?_
        refine lv_bipush (v := 10) hx hb dX6_cluster_95 (by decide) ?_
        refine lv_icmp_eq (tgt := 106) hx hb dX6_cluster_97 (by decide) (fun h30 => ?_) (fun h30 => ?_)
        · skip
          refine lv_iconst (v := 0) hx hb dX6_cluster_106 (by decide) ?_
          exact er_zret hx hb hr hlk (by simp [ef_b, em_cl, f28, f50, f51, f82, h26, h29, h30] <;> decide) dX6_cluster_107
        · skip
          refine lv_iload_n hx hb dX6_cluster_100 rfl (lv_at hl 0 rfl) ?_
          refine lv_bipush (v := 11) hx hb dX6_cluster_101 (by decide) ?_
          refine lv_icmp_ne (tgt := 108) hx hb dX6_cluster_103 (by decide) (fun h31 => ?_) (fun h31 => ?_)
          · skip
            exact L108  ls hl f28 f50 f51 f82 (by simp [h26, h29, h30, h31])
          · skip
            refine lv_iconst (v := 0) hx hb dX6_cluster_106 (by decide) ?_
            exact er_zret hx hb hr hlk (by simp [ef_b, em_cl, f28, f50, f51, f82, h26, h29, h30, h31] <;> decide) dX6_cluster_107
  have L50 : ∀ (ls : Array Slot), lv_has ls 6 [(3, .int (g (k + 1))), (2, .int (g k)), (0, .ref h0), (1, .int (nI (k + 1)))] → (g k == 1 && g (k + 1) == 2) = false → ew_le (g k) = false → ew_le (g (k + 1)) = false → W p l e ({ frames := 0, cells := 0, slots := 0, locals := 0 }) s m args below meth c s.heap [] 0 0 (MQ below (er_Q (.int (ef_b (em_cl (g k) (g (k + 1)) (P (k + 1)) (eg_od g (k + 1)) (eg_ap g P k))))) args s 0 0 (fun _ => False)) (F0 m 50 ls []) := by
    intro ls hl f28 f50 f51
    refine lv_iload_n hx hb dX6_cluster_50 rfl (lv_at hl 1 rfl) ?_
    refine lv_bipush (v := 9) hx hb dX6_cluster_51 (by decide) ?_
    refine lv_icmp_ne (tgt := 82) hx hb dX6_cluster_53 (by decide) (fun h32 => ?_) (fun h32 => ?_)
    · skip
      exact L82  ls hl f28 f50 f51 (by simp [h32])
    · skip
      refine lv_iload_n hx hb dX6_cluster_56 rfl (lv_at hl 0 rfl) ?_
      refine lv_bipush (v := 9) hx hb dX6_cluster_57 (by decide) ?_
      refine lv_icmp_eq (tgt := 80) hx hb dX6_cluster_59 (by decide) (fun h33 => ?_) (fun h33 => ?_)
      · skip
        refine lv_iconst (v := 0) hx hb dX6_cluster_80 (by decide) ?_
        exact er_zret hx hb hr hlk (by simp [ef_b, em_cl, f28, f50, f51, h32, h33] <;> decide) dX6_cluster_81
      · skip
        refine lv_iload_n hx hb dX6_cluster_62 rfl (lv_at hl 0 rfl) ?_
        refine lv_bipush (v := 10) hx hb dX6_cluster_63 (by decide) ?_
        refine lv_icmp_eq (tgt := 80) hx hb dX6_cluster_65 (by decide) (fun h34 => ?_) (fun h34 => ?_)
        · skip
          refine lv_iconst (v := 0) hx hb dX6_cluster_80 (by decide) ?_
          exact er_zret hx hb hr hlk (by simp [ef_b, em_cl, f28, f50, f51, h32, h33, h34] <;> decide) dX6_cluster_81
        · skip
          refine lv_iload_n hx hb dX6_cluster_68 rfl (lv_at hl 0 rfl) ?_
          refine lv_bipush (v := 12) hx hb dX6_cluster_69 (by decide) ?_
          refine lv_icmp_eq (tgt := 80) hx hb dX6_cluster_71 (by decide) (fun h35 => ?_) (fun h35 => ?_)
          · skip
            refine lv_iconst (v := 0) hx hb dX6_cluster_80 (by decide) ?_
            exact er_zret hx hb hr hlk (by simp [ef_b, em_cl, f28, f50, f51, h32, h33, h34, h35] <;> decide) dX6_cluster_81
          · skip
            refine lv_iload_n hx hb dX6_cluster_74 rfl (lv_at hl 0 rfl) ?_
            refine lv_bipush (v := 13) hx hb dX6_cluster_75 (by decide) ?_
            refine lv_icmp_ne (tgt := 82) hx hb dX6_cluster_77 (by decide) (fun h36 => ?_) (fun h36 => ?_)
            · skip
              exact L82  ls hl f28 f50 f51 (by simp [h32, h33, h34, h35, h36])
            · skip
              refine lv_iconst (v := 0) hx hb dX6_cluster_80 (by decide) ?_
              exact er_zret hx hb hr hlk (by simp [ef_b, em_cl, f28, f50, f51, h32, h33, h34, h35, h36] <;> decide) dX6_cluster_81
  have L28 : ∀ (ls : Array Slot), lv_has ls 6 [(3, .int (g (k + 1))), (2, .int (g k)), (0, .ref h0), (1, .int (nI (k + 1)))] → (g k == 1 && g (k + 1) == 2) = false → W p l e ({ frames := 0, cells := 0, slots := 0, locals := 0 }) s m args below meth c s.heap [] 0 0 (MQ below (er_Q (.int (ef_b (em_cl (g k) (g (k + 1)) (P (k + 1)) (eg_od g (k + 1)) (eg_ap g P k))))) args s 0 0 (fun _ => False)) (F0 m 28 ls []) := by
    intro ls hl f28
    refine lv_iload_n hx hb dX6_cluster_28 rfl (lv_at hl 1 rfl) ?_
    refine lv_iconst (v := 1) hx hb dX6_cluster_29 (by decide) ?_
    refine lv_icmp_lt (tgt := 38) hx hb dX6_cluster_30 (by decide) (fun h37 => ?_) (fun h37 => ?_)
    · skip
      refine lv_iload_n hx hb dX6_cluster_38 rfl (lv_at hl 0 rfl) ?_
      refine lv_iconst (v := 1) hx hb dX6_cluster_39 (by decide) ?_
      refine lv_icmp_lt (tgt := 50) hx hb dX6_cluster_40 (by decide) (fun h38 => ?_) (fun h38 => ?_)
      · skip
        exact L50  ls hl f28 (ew_le_f1 (Int32.not_le.mpr h37)) (ew_le_f1 (Int32.not_le.mpr h38))
      · skip
        refine lv_iload_n hx hb dX6_cluster_43 rfl (lv_at hl 0 rfl) ?_
        refine lv_iconst (v := 3) hx hb dX6_cluster_44 (by decide) ?_
        refine lv_icmp_gt (tgt := 50) hx hb dX6_cluster_45 (by decide) (fun h39 => ?_) (fun h39 => ?_)
        · skip
          exact L50  ls hl f28 (ew_le_f1 (Int32.not_le.mpr h37)) (ew_le_f2 (Int32.not_le.mpr h39))
        · skip
          refine lv_iconst (v := 1) hx hb dX6_cluster_48 (by decide) ?_
          exact er_zret hx hb hr hlk (by simp [ef_b, em_cl, f28, ew_le_t (Int32.not_lt.mp h38) (Int32.not_lt.mp h39)]) dX6_cluster_49
    · skip
      refine lv_iload_n hx hb dX6_cluster_33 rfl (lv_at hl 1 rfl) ?_
      refine lv_iconst (v := 3) hx hb dX6_cluster_34 (by decide) ?_
      refine lv_icmp_le (tgt := 48) hx hb dX6_cluster_35 (by decide) (fun h40 => ?_) (fun h40 => ?_)
      · skip
        refine lv_iconst (v := 1) hx hb dX6_cluster_48 (by decide) ?_
        exact er_zret hx hb hr hlk (by simp [ef_b, em_cl, f28, ew_le_t (Int32.not_lt.mp h37) h40]) dX6_cluster_49
      · skip
        refine lv_iload_n hx hb dX6_cluster_38 rfl (lv_at hl 0 rfl) ?_
        refine lv_iconst (v := 1) hx hb dX6_cluster_39 (by decide) ?_
        refine lv_icmp_lt (tgt := 50) hx hb dX6_cluster_40 (by decide) (fun h41 => ?_) (fun h41 => ?_)
        · skip
          exact L50  ls hl f28 (ew_le_f2 h40) (ew_le_f1 (Int32.not_le.mpr h41))
        · skip
          refine lv_iload_n hx hb dX6_cluster_43 rfl (lv_at hl 0 rfl) ?_
          refine lv_iconst (v := 3) hx hb dX6_cluster_44 (by decide) ?_
          refine lv_icmp_gt (tgt := 50) hx hb dX6_cluster_45 (by decide) (fun h42 => ?_) (fun h42 => ?_)
          · skip
            exact L50  ls hl f28 (ew_le_f2 h40) (ew_le_f2 (Int32.not_le.mpr h42))
          · skip
            refine lv_iconst (v := 1) hx hb dX6_cluster_48 (by decide) ?_
            exact er_zret hx hb hr hlk (by simp [ef_b, em_cl, f28, ew_le_t (Int32.not_lt.mp h41) (Int32.not_lt.mp h42)]) dX6_cluster_49
  refine lv_aload_n hx hb dX6_cluster_0 rfl (lv_at hl 0 rfl) ?_
  refine va_get (D := D) (ci := 5) (v := .ref gA) (C := RX6) (T := TX6) (N := 5) hx hb hts (fun w h => List.mem_cons_of_mem _ (inX6 w h)) hown hK hP 0 rfl rfl 2 (by decide) (eT_h hts tw369) (fun _ h9 => h9) rfl dX6_cluster_1 ?_
  refine lv_iload_n hx hb dX6_cluster_4 rfl (lv_at hl 1 rfl) ?_
  refine lv_iconst (v := 1) hx hb dX6_cluster_5 (by decide) ?_
  refine lv_isub hx hb dX6_cluster_6 ?_
  refine ef_eqi (y := nI k) (nI_pred k) ?_
  refine va_iald hx hb hK hP 1 0 rfl rfl (vp_in_nI (by omega) (by decide)) dX6_cluster_7 ?_
  refine ef_eqi (y := g k) (by rw [nI_clamp (by omega)]) ?_
  refine lv_istore_n (lv' := [(2, .int (g k)), (0, .ref h0), (1, .int (nI (k + 1)))]) hx hb dX6_cluster_8 rfl hl (Nat.le_of_ble_eq_true rfl) rfl (fun ls hl => ?_)
  refine lv_aload_n hx hb dX6_cluster_9 rfl (lv_at hl 1 rfl) ?_
  refine va_get (D := D) (ci := 5) (v := .ref gA) (C := RX6) (T := TX6) (N := 5) hx hb hts (fun w h => List.mem_cons_of_mem _ (inX6 w h)) hown hK hP 0 rfl rfl 2 (by decide) (eT_h hts tw369) (fun _ h9 => h9) rfl dX6_cluster_10 ?_
  refine lv_iload_n hx hb dX6_cluster_13 rfl (lv_at hl 2 rfl) ?_
  refine va_iald hx hb hK hP 1 0 rfl rfl (vp_in_nI (by omega) (by decide)) dX6_cluster_14 ?_
  refine ef_eqi (y := g (k + 1)) (by rw [nI_clamp (by omega)]) ?_
  refine lv_istore_n (lv' := [(3, .int (g (k + 1))), (2, .int (g k)), (0, .ref h0), (1, .int (nI (k + 1)))]) hx hb dX6_cluster_15 rfl hl (Nat.le_of_ble_eq_true rfl) rfl (fun ls hl => ?_)
  refine lv_iload_n hx hb dX6_cluster_16 rfl (lv_at hl 1 rfl) ?_
  refine lv_iconst (v := 1) hx hb dX6_cluster_17 (by decide) ?_
  refine lv_icmp_ne (tgt := 28) hx hb dX6_cluster_18 (by decide) (fun h43 => ?_) (fun h43 => ?_)
  · skip
    exact L28  ls hl (by simp [h43])
  · skip
    refine lv_iload_n hx hb dX6_cluster_21 rfl (lv_at hl 0 rfl) ?_
    refine lv_iconst (v := 2) hx hb dX6_cluster_22 (by decide) ?_
    refine lv_icmp_ne (tgt := 28) hx hb dX6_cluster_23 (by decide) (fun h44 => ?_) (fun h44 => ?_)
    · skip
      exact L28  ls hl (by simp [h43, h44])
    · skip
      refine lv_iconst (v := 0) hx hb dX6_cluster_26 (by decide) ?_
      exact er_zret hx hb hr hlk (by simp [ef_b, em_cl, h43, h44] <;> decide) dX6_cluster_27
