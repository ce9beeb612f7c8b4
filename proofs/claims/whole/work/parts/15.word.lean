def em_t12 (b a aa bb : Int32) (od : Bool) : Bool := if a == 6 && b == 6 && od then false else true
def em_t11 (b a aa bb : Int32) (od : Bool) : Bool := if ((ew_rp a || a == 17) && b == 17) || (a == 17 && ew_rp b) then false else em_t12 b a aa bb od
def em_t10 (b a aa bb : Int32) (od : Bool) : Bool := if a == 8 && b == 8 then false else em_t11 b a aa bb od
def em_t9 (b a aa bb : Int32) (od : Bool) : Bool := if a == 16 && (b == 12 || ew_mb b) && bb == 16 then false else em_t10 b a aa bb od
def em_t8 (b a aa bb : Int32) (od : Bool) : Bool := if aa == 16 && (a == 12 || ew_mb a) && b == 16 then false else em_t9 b a aa bb od
def em_t7 (b a aa bb : Int32) (od : Bool) : Bool := if (a == 16 && b == 16) || (ew_let a && b == 16) || (a == 16 && ew_let b) then false else em_t8 b a aa bb od
def em_t6 (b a aa bb : Int32) (od : Bool) : Bool := if aa == 9 && a == 15 && b == 9 then false else em_t7 b a aa bb od
def em_t5 (b a aa bb : Int32) (od : Bool) : Bool := if a == 9 && b == 15 && bb == 9 then false else em_t6 b a aa bb od
def em_t4 (b a aa bb : Int32) (od : Bool) : Bool := if a == 9 && b == 14 then false else em_t5 b a aa bb od
def em_t3 (b a aa bb : Int32) (od : Bool) : Bool := if ew_let aa && (a == 11 || ew_mb a) && ew_let b then false else em_t4 b a aa bb od
def em_t2 (b a aa bb : Int32) (od : Bool) : Bool := if ew_let a && (b == 11 || ew_mb b) && ew_let bb then false else em_t3 b a aa bb od
def em_t1 (b a aa bb : Int32) (od : Bool) : Bool := if ew_let a && ew_let b then false else em_t2 b a aa bb od
theorem em_wd_t {raw b a aa bb : Int32} {pi od : Bool} (h1 : (raw == 1 && b == 2) = false) (h2 : ew_le raw = false) (h3 : ew_le b = false) (h4 : (raw == 5 && pi) = false) (h5 : (raw == 18 && b == 18) = false) (h6 : ew_at b = false) : em_wd raw b a aa bb pi od = em_t1 b a aa bb od := by
  unfold em_wd
  rw [h1, h2, h3, h4, h5, h6]
  rfl
theorem ei_st {r c x : Bool} (h : r = if c = true then false else x) (hc : c = true) : r = false := by
  subst hc
  exact h
theorem ei_sf {r c x : Bool} (h : r = if c = true then false else x) (hc : c = false) : r = x := by
  subst hc
  exact h
theorem em_wk_a {w : Nat → Int32} {n i : Nat} (hi : i < n) (hn : n ≤ 1000) : em_wk w n (nI (em_af w (n - (i + 1)) (i + 1))) = ew_ah w n i := by
  have h := em_af_le w (n - (i + 1)) (i + 1)
  unfold ew_ah
  rw [em_ah, em_wk_n (by omega) hn, show i + 1 + (n - (i + 1)) = n by omega]
def em_nx (w : Nat → Int32) (j : Nat) : Nat := if j = 0 then 0 else em_ct w (j - 1) + 1
theorem em_nx_le (w : Nat → Int32) (j : Nat) : em_nx w j ≤ j := by
  unfold em_nx
  by_cases h : j = 0
  · simp [h]
  · have := em_ct_le w (j - 1)
    simp only [h, if_false]
    omega
theorem em_nx_b (w : Nat → Int32) (j : Nat) : em_bi w j = nI (em_nx w j) + (-1) := by
  unfold em_bi em_nx
  by_cases h : j = 0
  · simp only [h, if_true]
    rfl
  · simp only [h, if_false]
    exact (pk_m1 _).symm
theorem em_nx_od {w : Nat → Int32} (hw : ∀ j, w j ≠ -1) (j : Nat) : ew_od w j = ew_od w (em_nx w j) := by
  unfold em_nx
  by_cases h : j = 0
  · simp [h]
  · simp only [h, if_false]
    obtain ⟨i, rfl⟩ : ∃ i, j = i + 1 := ⟨j - 1, by omega⟩
    exact em_od hw i
theorem em_nx_c {w : Nat → Int32} (hw : ∀ j, w j ≠ -1) (j : Nat) : em_nx w j = 0 ∨ ew_ct w (em_nx w j - 1) = true := by
  unfold em_nx
  by_cases h : j = 0
  · exact Or.inl (by simp [h])
  · simp only [h, if_false]
    exact Or.inr (em_cc hw _)

set_option maxHeartbeats 4000000 in
set_option maxRecDepth 100000 in
theorem k_X6_word (l : Launch) (D : va_G) (cI cZ cJ : ClassId) (h0 gA wA pA : Nat) (fa : Int32) (n : Nat) (g w : Nat → Int32) (P : Nat → Bool) (k : Nat) (hn : n ≤ 1000) (hk : k + 1 < n) (hw : ∀ j, w j ≠ -1) : er_M l yX6_word (Cond.code yX6_word cX6_word 13 (some .boolean) :: eT) ({ frames := 3, cells := 0, slots := 0, locals := 64 }) D vwCl (eTy cI cZ cJ) [.ref h0, .int (nI (k + 1))] [(h0, .inr (5, [.int fa, .int (nI n), .ref gA, .ref wA, .ref pA])), (gA, .inl (cI, 1000, .inl g)), (wA, .inl (cI, 1000, .inl w)), (pA, .inl (cZ, 1000, .inl (fun j => ef_b (P j))))] (.int (ef_b (em_wd (w k) (w (k + 1)) (w (em_ct w k)) (em_pk w (em_ct w k)) (ew_ah w n (k + 1)) (P (k + 1)) (ew_od w (k + 1))))) := by
  refine er_of (cc := cX6_word) (maxL := 13) (ret := (some .boolean)) (by decide) rfl (Nat.le_of_ble_eq_true rfl) ?_
  intro p e s m args below meth c ls hx hb hr hts hown hlk hml hP hK hl
  have hown : s.vm.findClass RX6 = some m.cls := hown
  have hl : lv_has ls 13 [(0, .ref h0), (1, .int (nI (k + 1)))] := hl
  have hct := em_ct_le w k
  have L534 : ∀ (b a aa bb : Int32) (c9 : Nat) (ls : Array Slot), lv_has ls 13 [(11, .int (nI c9))] → em_wd (w k) (w (k + 1)) (w (em_ct w k)) (em_pk w (em_ct w k)) (ew_ah w n (k + 1)) (P (k + 1)) (ew_od w (k + 1)) = em_t12 b a aa bb (ew_od w (k + 1)) → a = 6 → b = 6 → c9 ≤ 1000 → ew_od w (k + 1) = decide (c9 % 2 = 1) → W p l e ({ frames := 3, cells := 0, slots := 0, locals := 64 }) s m args below meth c s.heap [] 0 0 (MQ below (er_Q (.int (ef_b (em_wd (w k) (w (k + 1)) (w (em_ct w k)) (em_pk w (em_ct w k)) (ew_ah w n (k + 1)) (P (k + 1)) (ew_od w (k + 1)))))) args s 0 0 (fun _ => False)) (F0 m 534 ls []) := by
    intro b a aa bb c9 ls hl hR f6a f6b hc ho
    refine lv_iload hx hb dX6_word_534 (lv_at hl 0 rfl) ?_
    refine lv_iconst (v := 2) hx hb dX6_word_536 (by decide) ?_
    refine lv_irem hx hb dX6_word_537 (by decide) ?_
    refine ef_eqi (y := nI (c9 % 2)) (pk_rem (a := c9) (d := 2) (by omega) (by decide) (by decide)) ?_
    refine lv_iconst (v := 1) hx hb dX6_word_538 (by decide) ?_
    refine lv_icmp_ne (tgt := 544) hx hb dX6_word_539 (by decide) (fun h1 => ?_) (fun h1 => ?_)
    · skip
      have h1 : ¬ (c9 % 2 = 1) := fun q9 => h1 ((nI_eq (a := c9 % 2) (b := 1) (by omega) (by omega)).mpr q9)
      refine lv_iconst (v := 1) hx hb dX6_word_544 (by decide) ?_
      exact er_zret hx hb hr hlk (by rw [ei_sf (c := a == 6 && b == 6 && ew_od w (k + 1)) (x := true) hR (by simp [ho, h1])]; rfl) dX6_word_545
    · skip
      have h1 : c9 % 2 = 1 := (nI_eq (a := c9 % 2) (b := 1) (by omega) (by omega)).mp h1
      refine lv_iconst (v := 0) hx hb dX6_word_542 (by decide) ?_
      exact er_zret hx hb hr hlk (by rw [ei_st (c := a == 6 && b == 6 && ew_od w (k + 1)) (x := true) hR (by simp [f6a, f6b, ho, h1])]; rfl) dX6_word_543
  have L503 : ∀ (r : Nat) (b a aa bb : Int32) (c9 j : Nat) (ls : Array Slot), lv_has ls 13 [(12, .int (nI j + (-1))), (11, .int (nI c9)), (0, .ref h0)] → em_wd (w k) (w (k + 1)) (w (em_ct w k)) (em_pk w (em_ct w k)) (ew_ah w n (k + 1)) (P (k + 1)) (ew_od w (k + 1)) = em_t12 b a aa bb (ew_od w (k + 1)) → a = 6 → b = 6 → c9 + j ≤ k + 1 → j = 0 ∨ ew_ct w (j - 1) = true → ew_od w (k + 1) = (decide (c9 % 2 = 1) ^^ ew_od w j) → j < r → W p l e ({ frames := 3, cells := 0, slots := 0, locals := 64 }) s m args below meth c s.heap [] 0 0 (MQ below (er_Q (.int (ef_b (em_wd (w k) (w (k + 1)) (w (em_ct w k)) (em_pk w (em_ct w k)) (ew_ah w n (k + 1)) (P (k + 1)) (ew_od w (k + 1)))))) args s 0 0 (fun _ => False)) (F0 m 503 ls []) := by
    intro r
    induction r with
    | zero => intro b a aa bb c9 j ls hl hR f6a f6b hc hcj ho hμ; exact absurd hμ (Nat.not_lt_zero _)
    | succ r ih =>
      intro b a aa bb c9 j ls hl hR f6a f6b hc hcj ho hμ
      rcases j with _ | j
      · skip
        refine lv_iload hx hb dX6_word_503 (lv_at hl 0 rfl) ?_
        refine lv_if_lt (tgt := 534) hx hb dX6_word_505 (by decide) (fun h2 => ?_) (fun h2 => ?_)
        · skip
          exact L534 b a aa bb c9 ls (lv_sub hl [1] rfl) hR f6a f6b (by omega) (by rw [ho]; simp [ew_od])
        · skip
          exact absurd (by decide) h2
      · skip
        have hl : lv_has ls 13 [(12, .int (nI j)), (11, .int (nI c9)), (0, .ref h0)] := by rw [← pk_m1 j]; exact hl
        have hnx := em_nx_le w j
        refine lv_iload hx hb dX6_word_503 (lv_at hl 0 rfl) ?_
        refine lv_if_lt (tgt := 534) hx hb dX6_word_505 (by decide) (fun h3 => ?_) (fun h3 => ?_)
        · skip
          exact absurd h3 (nI_pos (by omega))
        · skip
          refine lv_aload_n hx hb dX6_word_508 rfl (lv_at hl 2 rfl) ?_
          refine va_get (D := D) (ci := 5) (v := .ref wA) (C := RX6) (T := TX6) (N := 5) hx hb hts (fun w h => List.mem_cons_of_mem _ (inX6 w h)) hown hK hP 0 rfl rfl 3 (by decide) (eT_h hts tw370) (fun _ h9 => h9) rfl dX6_word_509 ?_
          refine lv_iload hx hb dX6_word_512 (lv_at hl 0 rfl) ?_
          refine va_iald hx hb hK hP 2 0 rfl rfl (vp_in_nI (by omega) (by decide)) dX6_word_514 ?_
          refine ef_eqi (y := w j) (by rw [nI_clamp (by omega)]) ?_
          refine lv_bipush (v := 6) hx hb dX6_word_515 (by decide) ?_
          refine lv_icmp_ne (tgt := 534) hx hb dX6_word_517 (by decide) (fun h4 => ?_) (fun h4 => ?_)
          · skip
            exact L534 b a aa bb c9 ls (lv_sub hl [1] rfl) hR f6a f6b (by omega) (by rw [ho, em_od_c (by simpa using hcj), ei_n h4]; simp)
          · skip
            refine lv_iinc (k := 1) (v := nI (c9 + 1)) (lv' := [(11, .int (nI (c9 + 1))), (12, .int (nI j)), (0, .ref h0)]) hx hb dX6_word_520 hl rfl (by rw [show Int32.ofInt 1 = 1 from by decide]; exact nI_1 _) (Nat.le_of_ble_eq_true rfl) rfl (fun ls hl => ?_)
            refine lv_aload_n hx hb dX6_word_523 rfl (lv_at hl 2 rfl) ?_
            refine lv_iload hx hb dX6_word_524 (lv_at hl 1 rfl) ?_
            refine er_V (own := RX6) (C := RX6) (b := h0) (rest := []) hx hb hml hown hts hl.1 (k_X6_before l D cI cZ cJ h0 gA wA pA fa n g w P j (by omega)) tw434 tw7 tw431 tw433 ts_X6_before yd_X6_before rfl rfl ⟨Nat.le_of_ble_eq_true rfl, Nat.le_of_ble_eq_true rfl⟩ hP hK hP (q0 := 0) rfl rfl rfl rfl (Nat.le_of_ble_eq_true rfl) ⟨Nat.zero_le _, Nat.zero_le _⟩ dX6_word_526 ?_
            refine ef_eqi (y := nI (em_nx w j) + (-1)) (em_nx_b w j) ?_
            refine lv_istore (lv' := [(12, .int (nI (em_nx w j) + (-1))), (11, .int (nI (c9 + 1))), (0, .ref h0)]) hx hb dX6_word_529 hl (Nat.le_of_ble_eq_true rfl) rfl (fun ls hl => ?_)
            refine lv_goto (tgt := 503) hx hb dX6_word_531 (by decide) ?_
            exact ih b a aa bb (c9 + 1) (em_nx w j) ls hl hR f6a f6b (by have := em_nx_le w j; omega) (em_nx_c hw j) (by rw [ho, ← em_nx_od hw j]; exact ei_par (by rw [em_od_c (by simpa using hcj), h4]; simp)) (by omega)
  have L483 : ∀ (b a aa bb : Int32) (ls : Array Slot), lv_has ls 13 [(8, .int bb), (6, .int aa), (5, .int a), (4, .int (nI (em_ct w k))), (3, .int b), (0, .ref h0)] → w (em_ct w k) = a → em_wd (w k) (w (k + 1)) (w (em_ct w k)) (em_pk w (em_ct w k)) (ew_ah w n (k + 1)) (P (k + 1)) (ew_od w (k + 1)) = em_t12 b a aa bb (ew_od w (k + 1)) → W p l e ({ frames := 3, cells := 0, slots := 0, locals := 64 }) s m args below meth c s.heap [] 0 0 (MQ below (er_Q (.int (ef_b (em_wd (w k) (w (k + 1)) (w (em_ct w k)) (em_pk w (em_ct w k)) (ew_ah w n (k + 1)) (P (k + 1)) (ew_od w (k + 1)))))) args s 0 0 (fun _ => False)) (F0 m 483 ls []) := by
    intro b a aa bb ls hl ha hR
    refine lv_iload hx hb dX6_word_483 (lv_at hl 2 rfl) ?_
    refine lv_bipush (v := 6) hx hb dX6_word_485 (by decide) ?_
    refine lv_icmp_ne (tgt := 544) hx hb dX6_word_487 (by decide) (fun h5 => ?_) (fun h5 => ?_)
    · skip
      refine lv_iconst (v := 1) hx hb dX6_word_544 (by decide) ?_
      exact er_zret hx hb hr hlk (by rw [ei_sf (c := a == 6 && b == 6 && ew_od w (k + 1)) (x := true) hR (by simp [h5])]; rfl) dX6_word_545
    · skip
      refine lv_iload_n hx hb dX6_word_490 rfl (lv_at hl 4 rfl) ?_
      refine lv_bipush (v := 6) hx hb dX6_word_491 (by decide) ?_
      refine lv_icmp_ne (tgt := 544) hx hb dX6_word_493 (by decide) (fun h6 => ?_) (fun h6 => ?_)
      · skip
        refine lv_iconst (v := 1) hx hb dX6_word_544 (by decide) ?_
        exact er_zret hx hb hr hlk (by rw [ei_sf (c := a == 6 && b == 6 && ew_od w (k + 1)) (x := true) hR (by simp [h6])]; rfl) dX6_word_545
      · skip
        refine lv_iconst (v := 0) hx hb dX6_word_496 (by decide) ?_
        refine lv_istore (lv' := [(11, .int 0), (8, .int bb), (6, .int aa), (5, .int a), (4, .int (nI (em_ct w k))), (3, .int b), (0, .ref h0)]) hx hb dX6_word_497 hl (Nat.le_of_ble_eq_true rfl) rfl (fun ls hl => ?_)
        refine lv_iload hx hb dX6_word_499 (lv_at hl 4 rfl) ?_
        refine ef_eqi (y := nI (em_ct w k + 1) + (-1)) (pk_m1 _).symm ?_
        refine lv_istore (lv' := [(12, .int (nI (em_ct w k + 1) + (-1))), (11, .int 0), (8, .int bb), (6, .int aa), (5, .int a), (4, .int (nI (em_ct w k))), (3, .int b), (0, .ref h0)]) hx hb dX6_word_501 hl (Nat.le_of_ble_eq_true rfl) rfl (fun ls hl => ?_)
        exact L503 _ b a aa bb 0 (em_ct w k + 1) ls (lv_sub hl [0, 1, 7] rfl) hR h5 h6 (by omega) (Or.inr (em_cc hw k)) (by rw [em_od hw k]; simp) (Nat.lt_succ_self _)
  have L451 : ∀ (b a aa bb : Int32) (ls : Array Slot), lv_has ls 13 [(10, .int (ef_b (ew_rp b))), (9, .int (ef_b (ew_rp a))), (8, .int bb), (6, .int aa), (5, .int a), (4, .int (nI (em_ct w k))), (3, .int b), (0, .ref h0)] → w (em_ct w k) = a → em_wd (w k) (w (k + 1)) (w (em_ct w k)) (em_pk w (em_ct w k)) (ew_ah w n (k + 1)) (P (k + 1)) (ew_od w (k + 1)) = em_t11 b a aa bb (ew_od w (k + 1)) → W p l e ({ frames := 3, cells := 0, slots := 0, locals := 64 }) s m args below meth c s.heap [] 0 0 (MQ below (er_Q (.int (ef_b (em_wd (w k) (w (k + 1)) (w (em_ct w k)) (em_pk w (em_ct w k)) (ew_ah w n (k + 1)) (P (k + 1)) (ew_od w (k + 1)))))) args s 0 0 (fun _ => False)) (F0 m 451 ls []) := by
    intro b a aa bb ls hl ha hR
    refine lv_iload hx hb dX6_word_451 (lv_at hl 1 rfl) ?_
    refine ef_if_ne (tgt := 463) hx hb dX6_word_453 (by decide) (fun h7 => ?_) (fun h7 => ?_)
    · skip
      refine lv_iload_n hx hb dX6_word_463 rfl (lv_at hl 6 rfl) ?_
      refine lv_bipush (v := 17) hx hb dX6_word_464 (by decide) ?_
      refine lv_icmp_eq (tgt := 481) hx hb dX6_word_466 (by decide) (fun h8 => ?_) (fun h8 => ?_)
      · skip
        refine lv_iconst (v := 0) hx hb dX6_word_481 (by decide) ?_
        exact er_zret hx hb hr hlk (by rw [(ei_st (c := ((ew_rp a || a == 17) && b == 17) || (a == 17 && ew_rp b)) (x := em_t12 b a aa bb (ew_od w (k + 1))) hR (by simp [h7, h8]))]; rfl) dX6_word_482
      · skip
        refine lv_iload hx hb dX6_word_469 (lv_at hl 4 rfl) ?_
        refine lv_bipush (v := 17) hx hb dX6_word_471 (by decide) ?_
        refine lv_icmp_ne (tgt := 483) hx hb dX6_word_473 (by decide) (fun h9 => ?_) (fun h9 => ?_)
        · skip
          exact L483 b a aa bb ls (lv_sub hl [2, 3, 4, 5, 6, 7] rfl) ha (ei_sf (c := ((ew_rp a || a == 17) && b == 17) || (a == 17 && ew_rp b)) (x := em_t12 b a aa bb (ew_od w (k + 1))) hR (by simp [h7, h8, h9]))
        · skip
          refine lv_iload hx hb dX6_word_476 (lv_at hl 0 rfl) ?_
          refine ef_if_eq (tgt := 483) hx hb dX6_word_478 (by decide) (fun h10 => ?_) (fun h10 => ?_)
          · skip
            exact L483 b a aa bb ls (lv_sub hl [2, 3, 4, 5, 6, 7] rfl) ha (ei_sf (c := ((ew_rp a || a == 17) && b == 17) || (a == 17 && ew_rp b)) (x := em_t12 b a aa bb (ew_od w (k + 1))) hR (by simp [h7, h8, h9, h10]))
          · skip
            refine lv_iconst (v := 0) hx hb dX6_word_481 (by decide) ?_
            exact er_zret hx hb hr hlk (by rw [(ei_st (c := ((ew_rp a || a == 17) && b == 17) || (a == 17 && ew_rp b)) (x := em_t12 b a aa bb (ew_od w (k + 1))) hR (by simp [h7, h8, h9, h10]))]; rfl) dX6_word_482
    · skip
      refine lv_iload hx hb dX6_word_456 (lv_at hl 4 rfl) ?_
      refine lv_bipush (v := 17) hx hb dX6_word_458 (by decide) ?_
      refine lv_icmp_ne (tgt := 469) hx hb dX6_word_460 (by decide) (fun h11 => ?_) (fun h11 => ?_)
      · skip
        refine lv_iload hx hb dX6_word_469 (lv_at hl 4 rfl) ?_
        refine lv_bipush (v := 17) hx hb dX6_word_471 (by decide) ?_
        refine lv_icmp_ne (tgt := 483) hx hb dX6_word_473 (by decide) (fun h12 => ?_) (fun h12 => ?_)
        · skip
          exact L483 b a aa bb ls (lv_sub hl [2, 3, 4, 5, 6, 7] rfl) ha (ei_sf (c := ((ew_rp a || a == 17) && b == 17) || (a == 17 && ew_rp b)) (x := em_t12 b a aa bb (ew_od w (k + 1))) hR (by simp [h7, h11, h12]))
        · skip
          exact absurd h12 h11
      · skip
        refine lv_iload_n hx hb dX6_word_463 rfl (lv_at hl 6 rfl) ?_
        refine lv_bipush (v := 17) hx hb dX6_word_464 (by decide) ?_
        refine lv_icmp_eq (tgt := 481) hx hb dX6_word_466 (by decide) (fun h13 => ?_) (fun h13 => ?_)
        · skip
          refine lv_iconst (v := 0) hx hb dX6_word_481 (by decide) ?_
          exact er_zret hx hb hr hlk (by rw [(ei_st (c := ((ew_rp a || a == 17) && b == 17) || (a == 17 && ew_rp b)) (x := em_t12 b a aa bb (ew_od w (k + 1))) hR (by simp [h7, h11, h13]))]; rfl) dX6_word_482
        · skip
          refine lv_iload hx hb dX6_word_469 (lv_at hl 4 rfl) ?_
          refine lv_bipush (v := 17) hx hb dX6_word_471 (by decide) ?_
          refine lv_icmp_ne (tgt := 483) hx hb dX6_word_473 (by decide) (fun h14 => ?_) (fun h14 => ?_)
          · skip
            exact absurd h11 h14
          · skip
            refine lv_iload hx hb dX6_word_476 (lv_at hl 0 rfl) ?_
            refine ef_if_eq (tgt := 483) hx hb dX6_word_478 (by decide) (fun h15 => ?_) (fun h15 => ?_)
            · skip
              exact L483 b a aa bb ls (lv_sub hl [2, 3, 4, 5, 6, 7] rfl) ha (ei_sf (c := ((ew_rp a || a == 17) && b == 17) || (a == 17 && ew_rp b)) (x := em_t12 b a aa bb (ew_od w (k + 1))) hR (by simp [h7, h11, h13, h14, h15]))
            · skip
              refine lv_iconst (v := 0) hx hb dX6_word_481 (by decide) ?_
              exact er_zret hx hb hr hlk (by rw [(ei_st (c := ((ew_rp a || a == 17) && b == 17) || (a == 17 && ew_rp b)) (x := em_t12 b a aa bb (ew_od w (k + 1))) hR (by simp [h7, h11, h13, h14, h15]))]; rfl) dX6_word_482
  have L424 : ∀ (b a aa bb : Int32) (ls : Array Slot), lv_has ls 13 [(9, .int (ef_b (ew_rp a))), (8, .int bb), (6, .int aa), (5, .int a), (4, .int (nI (em_ct w k))), (3, .int b), (0, .ref h0)] → w (em_ct w k) = a → em_wd (w k) (w (k + 1)) (w (em_ct w k)) (em_pk w (em_ct w k)) (ew_ah w n (k + 1)) (P (k + 1)) (ew_od w (k + 1)) = em_t11 b a aa bb (ew_od w (k + 1)) → W p l e ({ frames := 3, cells := 0, slots := 0, locals := 64 }) s m args below meth c s.heap [] 0 0 (MQ below (er_Q (.int (ef_b (em_wd (w k) (w (k + 1)) (w (em_ct w k)) (em_pk w (em_ct w k)) (ew_ah w n (k + 1)) (P (k + 1)) (ew_od w (k + 1)))))) args s 0 0 (fun _ => False)) (F0 m 424 ls []) := by
    intro b a aa bb ls hl ha hR
    refine lv_aload_n hx hb dX6_word_424 rfl (lv_at hl 6 rfl) ?_
    refine lv_iload_n hx hb dX6_word_425 rfl (lv_at hl 5 rfl) ?_
    refine er_V (own := RX6) (C := RX6) (b := h0) (rest := []) hx hb hml hown hts hl.1 (k_X6_letter l D cI cZ cJ h0 b) tw450 tw7 tw447 tw449 ts_X6_letter yd_X6_letter rfl rfl ⟨Nat.le_of_ble_eq_true rfl, Nat.le_of_ble_eq_true rfl⟩ er_nil hK hP (q0 := 0) rfl rfl rfl rfl (Nat.le_of_ble_eq_true rfl) ⟨Nat.zero_le _, Nat.zero_le _⟩ dX6_word_426 ?_
    refine ef_if_ne (tgt := 444) hx hb dX6_word_429 (by decide) (fun h16 => ?_) (fun h16 => ?_)
    · skip
      refine lv_iconst (v := 1) hx hb dX6_word_444 (by decide) ?_
      refine lv_goto (tgt := 449) hx hb dX6_word_445 (by decide) ?_
      refine ef_eqi (y := ef_b (ew_rp b)) (by simp [ef_b, ew_rp, h16]) ?_
      refine lv_istore (lv' := [(10, .int (ef_b (ew_rp b))), (9, .int (ef_b (ew_rp a))), (8, .int bb), (6, .int aa), (5, .int a), (4, .int (nI (em_ct w k))), (3, .int b), (0, .ref h0)]) hx hb dX6_word_449 hl (Nat.le_of_ble_eq_true rfl) rfl (fun ls hl => ?_)
      exact L451 b a aa bb ls hl ha hR
    · skip
      refine lv_iload_n hx hb dX6_word_432 rfl (lv_at hl 5 rfl) ?_
      refine lv_bipush (v := 16) hx hb dX6_word_433 (by decide) ?_
      refine lv_icmp_eq (tgt := 444) hx hb dX6_word_435 (by decide) (fun h17 => ?_) (fun h17 => ?_)
      · skip
        refine lv_iconst (v := 1) hx hb dX6_word_444 (by decide) ?_
        refine lv_goto (tgt := 449) hx hb dX6_word_445 (by decide) ?_
        refine ef_eqi (y := ef_b (ew_rp b)) (by simp [ef_b, ew_rp, h16, h17]) ?_
        refine lv_istore (lv' := [(10, .int (ef_b (ew_rp b))), (9, .int (ef_b (ew_rp a))), (8, .int bb), (6, .int aa), (5, .int a), (4, .int (nI (em_ct w k))), (3, .int b), (0, .ref h0)]) hx hb dX6_word_449 hl (Nat.le_of_ble_eq_true rfl) rfl (fun ls hl => ?_)
        exact L451 b a aa bb ls hl ha hR
      · skip
        refine lv_iload_n hx hb dX6_word_438 rfl (lv_at hl 5 rfl) ?_
        refine lv_bipush (v := 8) hx hb dX6_word_439 (by decide) ?_
        refine lv_icmp_ne (tgt := 448) hx hb dX6_word_441 (by decide) (fun h18 => ?_) (fun h18 => ?_)
        · skip
          refine lv_iconst (v := 0) hx hb dX6_word_448 (by decide) ?_
          refine ef_eqi (y := ef_b (ew_rp b)) (by simp [ef_b, ew_rp, h16, h17, h18]) ?_
          refine lv_istore (lv' := [(10, .int (ef_b (ew_rp b))), (9, .int (ef_b (ew_rp a))), (8, .int bb), (6, .int aa), (5, .int a), (4, .int (nI (em_ct w k))), (3, .int b), (0, .ref h0)]) hx hb dX6_word_449 hl (Nat.le_of_ble_eq_true rfl) rfl (fun ls hl => ?_)
          exact L451 b a aa bb ls hl ha hR
        · skip
          refine lv_iconst (v := 1) hx hb dX6_word_444 (by decide) ?_
          refine lv_goto (tgt := 449) hx hb dX6_word_445 (by decide) ?_
          refine ef_eqi (y := ef_b (ew_rp b)) (by simp [ef_b, ew_rp, h16, h17, h18]) ?_
          refine lv_istore (lv' := [(10, .int (ef_b (ew_rp b))), (9, .int (ef_b (ew_rp a))), (8, .int bb), (6, .int aa), (5, .int a), (4, .int (nI (em_ct w k))), (3, .int b), (0, .ref h0)]) hx hb dX6_word_449 hl (Nat.le_of_ble_eq_true rfl) rfl (fun ls hl => ?_)
          exact L451 b a aa bb ls hl ha hR
  have L394 : ∀ (b a aa bb : Int32) (ls : Array Slot), lv_has ls 13 [(8, .int bb), (6, .int aa), (5, .int a), (4, .int (nI (em_ct w k))), (3, .int b), (0, .ref h0)] → w (em_ct w k) = a → em_wd (w k) (w (k + 1)) (w (em_ct w k)) (em_pk w (em_ct w k)) (ew_ah w n (k + 1)) (P (k + 1)) (ew_od w (k + 1)) = em_t11 b a aa bb (ew_od w (k + 1)) → W p l e ({ frames := 3, cells := 0, slots := 0, locals := 64 }) s m args below meth c s.heap [] 0 0 (MQ below (er_Q (.int (ef_b (em_wd (w k) (w (k + 1)) (w (em_ct w k)) (em_pk w (em_ct w k)) (ew_ah w n (k + 1)) (P (k + 1)) (ew_od w (k + 1)))))) args s 0 0 (fun _ => False)) (F0 m 394 ls []) := by
    intro b a aa bb ls hl ha hR
    refine lv_aload_n hx hb dX6_word_394 rfl (lv_at hl 5 rfl) ?_
    refine lv_iload hx hb dX6_word_395 (lv_at hl 2 rfl) ?_
    refine er_V (own := RX6) (C := RX6) (b := h0) (rest := []) hx hb hml hown hts hl.1 (k_X6_letter l D cI cZ cJ h0 a) tw450 tw7 tw447 tw449 ts_X6_letter yd_X6_letter rfl rfl ⟨Nat.le_of_ble_eq_true rfl, Nat.le_of_ble_eq_true rfl⟩ er_nil hK hP (q0 := 0) rfl rfl rfl rfl (Nat.le_of_ble_eq_true rfl) ⟨Nat.zero_le _, Nat.zero_le _⟩ dX6_word_397 ?_
    refine ef_if_ne (tgt := 417) hx hb dX6_word_400 (by decide) (fun h19 => ?_) (fun h19 => ?_)
    · skip
      refine lv_iconst (v := 1) hx hb dX6_word_417 (by decide) ?_
      refine lv_goto (tgt := 422) hx hb dX6_word_418 (by decide) ?_
      refine ef_eqi (y := ef_b (ew_rp a)) (by simp [ef_b, ew_rp, h19]) ?_
      refine lv_istore (lv' := [(9, .int (ef_b (ew_rp a))), (8, .int bb), (6, .int aa), (5, .int a), (4, .int (nI (em_ct w k))), (3, .int b), (0, .ref h0)]) hx hb dX6_word_422 hl (Nat.le_of_ble_eq_true rfl) rfl (fun ls hl => ?_)
      exact L424 b a aa bb ls hl ha hR
    · skip
      refine lv_iload hx hb dX6_word_403 (lv_at hl 2 rfl) ?_
      refine lv_bipush (v := 16) hx hb dX6_word_405 (by decide) ?_
      refine lv_icmp_eq (tgt := 417) hx hb dX6_word_407 (by decide) (fun h20 => ?_) (fun h20 => ?_)
      · skip
        refine lv_iconst (v := 1) hx hb dX6_word_417 (by decide) ?_
        refine lv_goto (tgt := 422) hx hb dX6_word_418 (by decide) ?_
        refine ef_eqi (y := ef_b (ew_rp a)) (by simp [ef_b, ew_rp, h19, h20]) ?_
        refine lv_istore (lv' := [(9, .int (ef_b (ew_rp a))), (8, .int bb), (6, .int aa), (5, .int a), (4, .int (nI (em_ct w k))), (3, .int b), (0, .ref h0)]) hx hb dX6_word_422 hl (Nat.le_of_ble_eq_true rfl) rfl (fun ls hl => ?_)
        exact L424 b a aa bb ls hl ha hR
      · skip
        refine lv_iload hx hb dX6_word_410 (lv_at hl 2 rfl) ?_
        refine lv_bipush (v := 8) hx hb dX6_word_412 (by decide) ?_
        refine lv_icmp_ne (tgt := 421) hx hb dX6_word_414 (by decide) (fun h21 => ?_) (fun h21 => ?_)
        · skip
          refine lv_iconst (v := 0) hx hb dX6_word_421 (by decide) ?_
          refine ef_eqi (y := ef_b (ew_rp a)) (by simp [ef_b, ew_rp, h19, h20, h21]) ?_
          refine lv_istore (lv' := [(9, .int (ef_b (ew_rp a))), (8, .int bb), (6, .int aa), (5, .int a), (4, .int (nI (em_ct w k))), (3, .int b), (0, .ref h0)]) hx hb dX6_word_422 hl (Nat.le_of_ble_eq_true rfl) rfl (fun ls hl => ?_)
          exact L424 b a aa bb ls hl ha hR
        · skip
          refine lv_iconst (v := 1) hx hb dX6_word_417 (by decide) ?_
          refine lv_goto (tgt := 422) hx hb dX6_word_418 (by decide) ?_
          refine ef_eqi (y := ef_b (ew_rp a)) (by simp [ef_b, ew_rp, h19, h20, h21]) ?_
          refine lv_istore (lv' := [(9, .int (ef_b (ew_rp a))), (8, .int bb), (6, .int aa), (5, .int a), (4, .int (nI (em_ct w k))), (3, .int b), (0, .ref h0)]) hx hb dX6_word_422 hl (Nat.le_of_ble_eq_true rfl) rfl (fun ls hl => ?_)
          exact L424 b a aa bb ls hl ha hR
  have L379 : ∀ (b a aa bb : Int32) (ls : Array Slot), lv_has ls 13 [(8, .int bb), (6, .int aa), (5, .int a), (4, .int (nI (em_ct w k))), (3, .int b), (0, .ref h0)] → w (em_ct w k) = a → em_wd (w k) (w (k + 1)) (w (em_ct w k)) (em_pk w (em_ct w k)) (ew_ah w n (k + 1)) (P (k + 1)) (ew_od w (k + 1)) = em_t10 b a aa bb (ew_od w (k + 1)) → W p l e ({ frames := 3, cells := 0, slots := 0, locals := 64 }) s m args below meth c s.heap [] 0 0 (MQ below (er_Q (.int (ef_b (em_wd (w k) (w (k + 1)) (w (em_ct w k)) (em_pk w (em_ct w k)) (ew_ah w n (k + 1)) (P (k + 1)) (ew_od w (k + 1)))))) args s 0 0 (fun _ => False)) (F0 m 379 ls []) := by
    intro b a aa bb ls hl ha hR
    refine lv_iload hx hb dX6_word_379 (lv_at hl 2 rfl) ?_
    refine lv_bipush (v := 8) hx hb dX6_word_381 (by decide) ?_
    refine lv_icmp_ne (tgt := 394) hx hb dX6_word_383 (by decide) (fun h22 => ?_) (fun h22 => ?_)
    · skip
      exact L394 b a aa bb ls hl ha (ei_sf (c := a == 8 && b == 8) (x := em_t11 b a aa bb (ew_od w (k + 1))) hR (by simp [h22]))
    · skip
      refine lv_iload_n hx hb dX6_word_386 rfl (lv_at hl 4 rfl) ?_
      refine lv_bipush (v := 8) hx hb dX6_word_387 (by decide) ?_
      refine lv_icmp_ne (tgt := 394) hx hb dX6_word_389 (by decide) (fun h23 => ?_) (fun h23 => ?_)
      · skip
        exact L394 b a aa bb ls hl ha (ei_sf (c := a == 8 && b == 8) (x := em_t11 b a aa bb (ew_od w (k + 1))) hR (by simp [h22, h23]))
      · skip
        refine lv_iconst (v := 0) hx hb dX6_word_392 (by decide) ?_
        exact er_zret hx hb hr hlk (by rw [(ei_st (c := a == 8 && b == 8) (x := em_t11 b a aa bb (ew_od w (k + 1))) hR (by simp [h22, h23]))]; rfl) dX6_word_393
  have L349 : ∀ (b a aa bb : Int32) (ls : Array Slot), lv_has ls 13 [(8, .int bb), (6, .int aa), (5, .int a), (4, .int (nI (em_ct w k))), (3, .int b), (0, .ref h0)] → w (em_ct w k) = a → em_wd (w k) (w (k + 1)) (w (em_ct w k)) (em_pk w (em_ct w k)) (ew_ah w n (k + 1)) (P (k + 1)) (ew_od w (k + 1)) = em_t9 b a aa bb (ew_od w (k + 1)) → W p l e ({ frames := 3, cells := 0, slots := 0, locals := 64 }) s m args below meth c s.heap [] 0 0 (MQ below (er_Q (.int (ef_b (em_wd (w k) (w (k + 1)) (w (em_ct w k)) (em_pk w (em_ct w k)) (ew_ah w n (k + 1)) (P (k + 1)) (ew_od w (k + 1)))))) args s 0 0 (fun _ => False)) (F0 m 349 ls []) := by
    intro b a aa bb ls hl ha hR
    refine lv_iload hx hb dX6_word_349 (lv_at hl 2 rfl) ?_
    refine lv_bipush (v := 16) hx hb dX6_word_351 (by decide) ?_
    refine lv_icmp_ne (tgt := 379) hx hb dX6_word_353 (by decide) (fun h24 => ?_) (fun h24 => ?_)
    · skip
      exact L379 b a aa bb ls hl ha (ei_sf (c := a == 16 && (b == 12 || ew_mb b) && bb == 16) (x := em_t10 b a aa bb (ew_od w (k + 1))) hR (by simp [h24]))
    · skip
      refine lv_iload_n hx hb dX6_word_356 rfl (lv_at hl 4 rfl) ?_
      refine lv_bipush (v := 12) hx hb dX6_word_357 (by decide) ?_
      refine lv_icmp_eq (tgt := 370) hx hb dX6_word_359 (by decide) (fun h25 => ?_) (fun h25 => ?_)
      · skip
        refine lv_iload hx hb dX6_word_370 (lv_at hl 0 rfl) ?_
        refine lv_bipush (v := 16) hx hb dX6_word_372 (by decide) ?_
        refine lv_icmp_ne (tgt := 379) hx hb dX6_word_374 (by decide) (fun h26 => ?_) (fun h26 => ?_)
        · skip
          exact L379 b a aa bb ls hl ha (ei_sf (c := a == 16 && (b == 12 || ew_mb b) && bb == 16) (x := em_t10 b a aa bb (ew_od w (k + 1))) hR (by simp [h24, h25, h26]))
        · skip
          refine lv_iconst (v := 0) hx hb dX6_word_377 (by decide) ?_
          exact er_zret hx hb hr hlk (by rw [(ei_st (c := a == 16 && (b == 12 || ew_mb b) && bb == 16) (x := em_t10 b a aa bb (ew_od w (k + 1))) hR (by simp [h24, h25, h26]))]; rfl) dX6_word_378
      · skip
        refine lv_aload_n hx hb dX6_word_362 rfl (lv_at hl 5 rfl) ?_
        refine lv_iload_n hx hb dX6_word_363 rfl (lv_at hl 4 rfl) ?_
        refine er_V (own := RX6) (C := RX6) (b := h0) (rest := []) hx hb hml hown hts hl.1 (k_X6_quote l D cI cZ cJ h0 b) tw454 tw7 tw451 tw453 ts_X6_quote yd_X6_quote rfl rfl ⟨Nat.le_of_ble_eq_true rfl, Nat.le_of_ble_eq_true rfl⟩ er_nil hK hP (q0 := 0) rfl rfl rfl rfl (Nat.le_of_ble_eq_true rfl) ⟨Nat.zero_le _, Nat.zero_le _⟩ dX6_word_364 ?_
        refine ef_if_eq (tgt := 379) hx hb dX6_word_367 (by decide) (fun h27 => ?_) (fun h27 => ?_)
        · skip
          exact L379 b a aa bb ls hl ha (ei_sf (c := a == 16 && (b == 12 || ew_mb b) && bb == 16) (x := em_t10 b a aa bb (ew_od w (k + 1))) hR (by simp [h24, h25, h27]))
        · skip
          refine lv_iload hx hb dX6_word_370 (lv_at hl 0 rfl) ?_
          refine lv_bipush (v := 16) hx hb dX6_word_372 (by decide) ?_
          refine lv_icmp_ne (tgt := 379) hx hb dX6_word_374 (by decide) (fun h28 => ?_) (fun h28 => ?_)
          · skip
            exact L379 b a aa bb ls hl ha (ei_sf (c := a == 16 && (b == 12 || ew_mb b) && bb == 16) (x := em_t10 b a aa bb (ew_od w (k + 1))) hR (by simp [h24, h25, h27, h28]))
          · skip
            refine lv_iconst (v := 0) hx hb dX6_word_377 (by decide) ?_
            exact er_zret hx hb hr hlk (by rw [(ei_st (c := a == 16 && (b == 12 || ew_mb b) && bb == 16) (x := em_t10 b a aa bb (ew_od w (k + 1))) hR (by simp [h24, h25, h27, h28]))]; rfl) dX6_word_378
  have L318 : ∀ (b a aa bb : Int32) (ls : Array Slot), lv_has ls 13 [(8, .int bb), (6, .int aa), (5, .int a), (4, .int (nI (em_ct w k))), (3, .int b), (0, .ref h0)] → w (em_ct w k) = a → em_wd (w k) (w (k + 1)) (w (em_ct w k)) (em_pk w (em_ct w k)) (ew_ah w n (k + 1)) (P (k + 1)) (ew_od w (k + 1)) = em_t8 b a aa bb (ew_od w (k + 1)) → W p l e ({ frames := 3, cells := 0, slots := 0, locals := 64 }) s m args below meth c s.heap [] 0 0 (MQ below (er_Q (.int (ef_b (em_wd (w k) (w (k + 1)) (w (em_ct w k)) (em_pk w (em_ct w k)) (ew_ah w n (k + 1)) (P (k + 1)) (ew_od w (k + 1)))))) args s 0 0 (fun _ => False)) (F0 m 318 ls []) := by
    intro b a aa bb ls hl ha hR
    refine lv_iload hx hb dX6_word_318 (lv_at hl 1 rfl) ?_
    refine lv_bipush (v := 16) hx hb dX6_word_320 (by decide) ?_
    refine lv_icmp_ne (tgt := 349) hx hb dX6_word_322 (by decide) (fun h29 => ?_) (fun h29 => ?_)
    · skip
      exact L349 b a aa bb ls hl ha (ei_sf (c := aa == 16 && (a == 12 || ew_mb a) && b == 16) (x := em_t9 b a aa bb (ew_od w (k + 1))) hR (by simp [h29]))
    · skip
      refine lv_iload hx hb dX6_word_325 (lv_at hl 2 rfl) ?_
      refine lv_bipush (v := 12) hx hb dX6_word_327 (by decide) ?_
      refine lv_icmp_eq (tgt := 341) hx hb dX6_word_329 (by decide) (fun h30 => ?_) (fun h30 => ?_)
      · skip
        refine lv_iload_n hx hb dX6_word_341 rfl (lv_at hl 4 rfl) ?_
        refine lv_bipush (v := 16) hx hb dX6_word_342 (by decide) ?_
        refine lv_icmp_ne (tgt := 349) hx hb dX6_word_344 (by decide) (fun h31 => ?_) (fun h31 => ?_)
        · skip
          exact L349 b a aa bb ls hl ha (ei_sf (c := aa == 16 && (a == 12 || ew_mb a) && b == 16) (x := em_t9 b a aa bb (ew_od w (k + 1))) hR (by simp [h29, h30, h31]))
        · skip
          refine lv_iconst (v := 0) hx hb dX6_word_347 (by decide) ?_
          exact er_zret hx hb hr hlk (by rw [(ei_st (c := aa == 16 && (a == 12 || ew_mb a) && b == 16) (x := em_t9 b a aa bb (ew_od w (k + 1))) hR (by simp [h29, h30, h31]))]; rfl) dX6_word_348
      · skip
        refine lv_aload_n hx hb dX6_word_332 rfl (lv_at hl 5 rfl) ?_
        refine lv_iload hx hb dX6_word_333 (lv_at hl 2 rfl) ?_
        refine er_V (own := RX6) (C := RX6) (b := h0) (rest := []) hx hb hml hown hts hl.1 (k_X6_quote l D cI cZ cJ h0 a) tw454 tw7 tw451 tw453 ts_X6_quote yd_X6_quote rfl rfl ⟨Nat.le_of_ble_eq_true rfl, Nat.le_of_ble_eq_true rfl⟩ er_nil hK hP (q0 := 0) rfl rfl rfl rfl (Nat.le_of_ble_eq_true rfl) ⟨Nat.zero_le _, Nat.zero_le _⟩ dX6_word_335 ?_
        refine ef_if_eq (tgt := 349) hx hb dX6_word_338 (by decide) (fun h32 => ?_) (fun h32 => ?_)
        · skip
          exact L349 b a aa bb ls hl ha (ei_sf (c := aa == 16 && (a == 12 || ew_mb a) && b == 16) (x := em_t9 b a aa bb (ew_od w (k + 1))) hR (by simp [h29, h30, h32]))
        · skip
          refine lv_iload_n hx hb dX6_word_341 rfl (lv_at hl 4 rfl) ?_
          refine lv_bipush (v := 16) hx hb dX6_word_342 (by decide) ?_
          refine lv_icmp_ne (tgt := 349) hx hb dX6_word_344 (by decide) (fun h33 => ?_) (fun h33 => ?_)
          · skip
            exact L349 b a aa bb ls hl ha (ei_sf (c := aa == 16 && (a == 12 || ew_mb a) && b == 16) (x := em_t9 b a aa bb (ew_od w (k + 1))) hR (by simp [h29, h30, h32, h33]))
          · skip
            refine lv_iconst (v := 0) hx hb dX6_word_347 (by decide) ?_
            exact er_zret hx hb hr hlk (by rw [(ei_st (c := aa == 16 && (a == 12 || ew_mb a) && b == 16) (x := em_t9 b a aa bb (ew_od w (k + 1))) hR (by simp [h29, h30, h32, h33]))]; rfl) dX6_word_348
  have L273 : ∀ (b a aa bb : Int32) (ls : Array Slot), lv_has ls 13 [(8, .int bb), (6, .int aa), (5, .int a), (4, .int (nI (em_ct w k))), (3, .int b), (0, .ref h0)] → w (em_ct w k) = a → em_wd (w k) (w (k + 1)) (w (em_ct w k)) (em_pk w (em_ct w k)) (ew_ah w n (k + 1)) (P (k + 1)) (ew_od w (k + 1)) = em_t7 b a aa bb (ew_od w (k + 1)) → W p l e ({ frames := 3, cells := 0, slots := 0, locals := 64 }) s m args below meth c s.heap [] 0 0 (MQ below (er_Q (.int (ef_b (em_wd (w k) (w (k + 1)) (w (em_ct w k)) (em_pk w (em_ct w k)) (ew_ah w n (k + 1)) (P (k + 1)) (ew_od w (k + 1)))))) args s 0 0 (fun _ => False)) (F0 m 273 ls []) := by
    intro b a aa bb ls hl ha hR
    refine lv_iload hx hb dX6_word_273 (lv_at hl 2 rfl) ?_
    refine lv_bipush (v := 16) hx hb dX6_word_275 (by decide) ?_
    refine lv_icmp_ne (tgt := 286) hx hb dX6_word_277 (by decide) (fun h34 => ?_) (fun h34 => ?_)
    · skip
      refine lv_aload_n hx hb dX6_word_286 rfl (lv_at hl 5 rfl) ?_
      refine lv_iload hx hb dX6_word_287 (lv_at hl 2 rfl) ?_
      refine er_V (own := RX6) (C := RX6) (b := h0) (rest := []) hx hb hml hown hts hl.1 (k_X6_letter l D cI cZ cJ h0 a) tw450 tw7 tw447 tw449 ts_X6_letter yd_X6_letter rfl rfl ⟨Nat.le_of_ble_eq_true rfl, Nat.le_of_ble_eq_true rfl⟩ er_nil hK hP (q0 := 0) rfl rfl rfl rfl (Nat.le_of_ble_eq_true rfl) ⟨Nat.zero_le _, Nat.zero_le _⟩ dX6_word_289 ?_
      refine ef_if_eq (tgt := 301) hx hb dX6_word_292 (by decide) (fun h35 => ?_) (fun h35 => ?_)
      · skip
        refine lv_iload hx hb dX6_word_301 (lv_at hl 2 rfl) ?_
        refine lv_bipush (v := 16) hx hb dX6_word_303 (by decide) ?_
        refine lv_icmp_ne (tgt := 318) hx hb dX6_word_305 (by decide) (fun h36 => ?_) (fun h36 => ?_)
        · skip
          exact L318 b a aa bb ls hl ha (ei_sf (c := (a == 16 && b == 16) || (ew_let a && b == 16) || (a == 16 && ew_let b)) (x := em_t8 b a aa bb (ew_od w (k + 1))) hR (by simp [h34, h35, h36]))
        · skip
          exact absurd h36 h34
      · skip
        refine lv_iload_n hx hb dX6_word_295 rfl (lv_at hl 4 rfl) ?_
        refine lv_bipush (v := 16) hx hb dX6_word_296 (by decide) ?_
        refine lv_icmp_eq (tgt := 316) hx hb dX6_word_298 (by decide) (fun h37 => ?_) (fun h37 => ?_)
        · skip
          refine lv_iconst (v := 0) hx hb dX6_word_316 (by decide) ?_
          exact er_zret hx hb hr hlk (by rw [(ei_st (c := (a == 16 && b == 16) || (ew_let a && b == 16) || (a == 16 && ew_let b)) (x := em_t8 b a aa bb (ew_od w (k + 1))) hR (by simp [h34, h35, h37]))]; rfl) dX6_word_317
        · skip
          refine lv_iload hx hb dX6_word_301 (lv_at hl 2 rfl) ?_
          refine lv_bipush (v := 16) hx hb dX6_word_303 (by decide) ?_
          refine lv_icmp_ne (tgt := 318) hx hb dX6_word_305 (by decide) (fun h38 => ?_) (fun h38 => ?_)
          · skip
            exact L318 b a aa bb ls hl ha (ei_sf (c := (a == 16 && b == 16) || (ew_let a && b == 16) || (a == 16 && ew_let b)) (x := em_t8 b a aa bb (ew_od w (k + 1))) hR (by simp [h34, h35, h37, h38]))
          · skip
            exact absurd h38 h34
    · skip
      refine lv_iload_n hx hb dX6_word_280 rfl (lv_at hl 4 rfl) ?_
      refine lv_bipush (v := 16) hx hb dX6_word_281 (by decide) ?_
      refine lv_icmp_eq (tgt := 316) hx hb dX6_word_283 (by decide) (fun h39 => ?_) (fun h39 => ?_)
      · skip
        refine lv_iconst (v := 0) hx hb dX6_word_316 (by decide) ?_
        exact er_zret hx hb hr hlk (by rw [(ei_st (c := (a == 16 && b == 16) || (ew_let a && b == 16) || (a == 16 && ew_let b)) (x := em_t8 b a aa bb (ew_od w (k + 1))) hR (by simp [h34, h39]))]; rfl) dX6_word_317
      · skip
        refine lv_aload_n hx hb dX6_word_286 rfl (lv_at hl 5 rfl) ?_
        refine lv_iload hx hb dX6_word_287 (lv_at hl 2 rfl) ?_
        refine er_V (own := RX6) (C := RX6) (b := h0) (rest := []) hx hb hml hown hts hl.1 (k_X6_letter l D cI cZ cJ h0 a) tw450 tw7 tw447 tw449 ts_X6_letter yd_X6_letter rfl rfl ⟨Nat.le_of_ble_eq_true rfl, Nat.le_of_ble_eq_true rfl⟩ er_nil hK hP (q0 := 0) rfl rfl rfl rfl (Nat.le_of_ble_eq_true rfl) ⟨Nat.zero_le _, Nat.zero_le _⟩ dX6_word_289 ?_
        refine ef_if_eq (tgt := 301) hx hb dX6_word_292 (by decide) (fun h40 => ?_) (fun h40 => ?_)
        · skip
          refine lv_iload hx hb dX6_word_301 (lv_at hl 2 rfl) ?_
          refine lv_bipush (v := 16) hx hb dX6_word_303 (by decide) ?_
          refine lv_icmp_ne (tgt := 318) hx hb dX6_word_305 (by decide) (fun h41 => ?_) (fun h41 => ?_)
          · skip
            exact absurd h34 h41
          · skip
            refine lv_aload_n hx hb dX6_word_308 rfl (lv_at hl 5 rfl) ?_
            refine lv_iload_n hx hb dX6_word_309 rfl (lv_at hl 4 rfl) ?_
            refine er_V (own := RX6) (C := RX6) (b := h0) (rest := []) hx hb hml hown hts hl.1 (k_X6_letter l D cI cZ cJ h0 b) tw450 tw7 tw447 tw449 ts_X6_letter yd_X6_letter rfl rfl ⟨Nat.le_of_ble_eq_true rfl, Nat.le_of_ble_eq_true rfl⟩ er_nil hK hP (q0 := 0) rfl rfl rfl rfl (Nat.le_of_ble_eq_true rfl) ⟨Nat.zero_le _, Nat.zero_le _⟩ dX6_word_310 ?_
            refine ef_if_eq (tgt := 318) hx hb dX6_word_313 (by decide) (fun h42 => ?_) (fun h42 => ?_)
            · skip
              exact L318 b a aa bb ls hl ha (ei_sf (c := (a == 16 && b == 16) || (ew_let a && b == 16) || (a == 16 && ew_let b)) (x := em_t8 b a aa bb (ew_od w (k + 1))) hR (by simp [h34, h39, h40, h41, h42]))
            · skip
              refine lv_iconst (v := 0) hx hb dX6_word_316 (by decide) ?_
              exact er_zret hx hb hr hlk (by rw [(ei_st (c := (a == 16 && b == 16) || (ew_let a && b == 16) || (a == 16 && ew_let b)) (x := em_t8 b a aa bb (ew_od w (k + 1))) hR (by simp [h34, h39, h40, h41, h42]))]; rfl) dX6_word_317
        · skip
          refine lv_iload_n hx hb dX6_word_295 rfl (lv_at hl 4 rfl) ?_
          refine lv_bipush (v := 16) hx hb dX6_word_296 (by decide) ?_
          refine lv_icmp_eq (tgt := 316) hx hb dX6_word_298 (by decide) (fun h43 => ?_) (fun h43 => ?_)
          · skip
            exact absurd h43 h39
          · skip
            refine lv_iload hx hb dX6_word_301 (lv_at hl 2 rfl) ?_
            refine lv_bipush (v := 16) hx hb dX6_word_303 (by decide) ?_
            refine lv_icmp_ne (tgt := 318) hx hb dX6_word_305 (by decide) (fun h44 => ?_) (fun h44 => ?_)
            · skip
              exact absurd h34 h44
            · skip
              refine lv_aload_n hx hb dX6_word_308 rfl (lv_at hl 5 rfl) ?_
              refine lv_iload_n hx hb dX6_word_309 rfl (lv_at hl 4 rfl) ?_
              refine er_V (own := RX6) (C := RX6) (b := h0) (rest := []) hx hb hml hown hts hl.1 (k_X6_letter l D cI cZ cJ h0 b) tw450 tw7 tw447 tw449 ts_X6_letter yd_X6_letter rfl rfl ⟨Nat.le_of_ble_eq_true rfl, Nat.le_of_ble_eq_true rfl⟩ er_nil hK hP (q0 := 0) rfl rfl rfl rfl (Nat.le_of_ble_eq_true rfl) ⟨Nat.zero_le _, Nat.zero_le _⟩ dX6_word_310 ?_
              refine ef_if_eq (tgt := 318) hx hb dX6_word_313 (by decide) (fun h45 => ?_) (fun h45 => ?_)
              · skip
                exact L318 b a aa bb ls hl ha (ei_sf (c := (a == 16 && b == 16) || (ew_let a && b == 16) || (a == 16 && ew_let b)) (x := em_t8 b a aa bb (ew_od w (k + 1))) hR (by simp [h34, h39, h40, h43, h44, h45]))
              · skip
                refine lv_iconst (v := 0) hx hb dX6_word_316 (by decide) ?_
                exact er_zret hx hb hr hlk (by rw [(ei_st (c := (a == 16 && b == 16) || (ew_let a && b == 16) || (a == 16 && ew_let b)) (x := em_t8 b a aa bb (ew_od w (k + 1))) hR (by simp [h34, h39, h40, h43, h44, h45]))]; rfl) dX6_word_317
  have L251 : ∀ (b a aa bb : Int32) (ls : Array Slot), lv_has ls 13 [(8, .int bb), (6, .int aa), (5, .int a), (4, .int (nI (em_ct w k))), (3, .int b), (0, .ref h0)] → w (em_ct w k) = a → em_wd (w k) (w (k + 1)) (w (em_ct w k)) (em_pk w (em_ct w k)) (ew_ah w n (k + 1)) (P (k + 1)) (ew_od w (k + 1)) = em_t6 b a aa bb (ew_od w (k + 1)) → W p l e ({ frames := 3, cells := 0, slots := 0, locals := 64 }) s m args below meth c s.heap [] 0 0 (MQ below (er_Q (.int (ef_b (em_wd (w k) (w (k + 1)) (w (em_ct w k)) (em_pk w (em_ct w k)) (ew_ah w n (k + 1)) (P (k + 1)) (ew_od w (k + 1)))))) args s 0 0 (fun _ => False)) (F0 m 251 ls []) := by
    intro b a aa bb ls hl ha hR
    refine lv_iload hx hb dX6_word_251 (lv_at hl 1 rfl) ?_
    refine lv_bipush (v := 9) hx hb dX6_word_253 (by decide) ?_
    refine lv_icmp_ne (tgt := 273) hx hb dX6_word_255 (by decide) (fun h46 => ?_) (fun h46 => ?_)
    · skip
      exact L273 b a aa bb ls hl ha (ei_sf (c := aa == 9 && a == 15 && b == 9) (x := em_t7 b a aa bb (ew_od w (k + 1))) hR (by simp [h46]))
    · skip
      refine lv_iload hx hb dX6_word_258 (lv_at hl 2 rfl) ?_
      refine lv_bipush (v := 15) hx hb dX6_word_260 (by decide) ?_
      refine lv_icmp_ne (tgt := 273) hx hb dX6_word_262 (by decide) (fun h47 => ?_) (fun h47 => ?_)
      · skip
        exact L273 b a aa bb ls hl ha (ei_sf (c := aa == 9 && a == 15 && b == 9) (x := em_t7 b a aa bb (ew_od w (k + 1))) hR (by simp [h46, h47]))
      · skip
        refine lv_iload_n hx hb dX6_word_265 rfl (lv_at hl 4 rfl) ?_
        refine lv_bipush (v := 9) hx hb dX6_word_266 (by decide) ?_
        refine lv_icmp_ne (tgt := 273) hx hb dX6_word_268 (by decide) (fun h48 => ?_) (fun h48 => ?_)
        · skip
          exact L273 b a aa bb ls hl ha (ei_sf (c := aa == 9 && a == 15 && b == 9) (x := em_t7 b a aa bb (ew_od w (k + 1))) hR (by simp [h46, h47, h48]))
        · skip
          refine lv_iconst (v := 0) hx hb dX6_word_271 (by decide) ?_
          exact er_zret hx hb hr hlk (by rw [(ei_st (c := aa == 9 && a == 15 && b == 9) (x := em_t7 b a aa bb (ew_od w (k + 1))) hR (by simp [h46, h47, h48]))]; rfl) dX6_word_272
  have L229 : ∀ (b a aa bb : Int32) (ls : Array Slot), lv_has ls 13 [(8, .int bb), (6, .int aa), (5, .int a), (4, .int (nI (em_ct w k))), (3, .int b), (0, .ref h0)] → w (em_ct w k) = a → em_wd (w k) (w (k + 1)) (w (em_ct w k)) (em_pk w (em_ct w k)) (ew_ah w n (k + 1)) (P (k + 1)) (ew_od w (k + 1)) = em_t5 b a aa bb (ew_od w (k + 1)) → W p l e ({ frames := 3, cells := 0, slots := 0, locals := 64 }) s m args below meth c s.heap [] 0 0 (MQ below (er_Q (.int (ef_b (em_wd (w k) (w (k + 1)) (w (em_ct w k)) (em_pk w (em_ct w k)) (ew_ah w n (k + 1)) (P (k + 1)) (ew_od w (k + 1)))))) args s 0 0 (fun _ => False)) (F0 m 229 ls []) := by
    intro b a aa bb ls hl ha hR
    refine lv_iload hx hb dX6_word_229 (lv_at hl 2 rfl) ?_
    refine lv_bipush (v := 9) hx hb dX6_word_231 (by decide) ?_
    refine lv_icmp_ne (tgt := 251) hx hb dX6_word_233 (by decide) (fun h49 => ?_) (fun h49 => ?_)
    · skip
      exact L251 b a aa bb ls hl ha (ei_sf (c := a == 9 && b == 15 && bb == 9) (x := em_t6 b a aa bb (ew_od w (k + 1))) hR (by simp [h49]))
    · skip
      refine lv_iload_n hx hb dX6_word_236 rfl (lv_at hl 4 rfl) ?_
      refine lv_bipush (v := 15) hx hb dX6_word_237 (by decide) ?_
      refine lv_icmp_ne (tgt := 251) hx hb dX6_word_239 (by decide) (fun h50 => ?_) (fun h50 => ?_)
      · skip
        exact L251 b a aa bb ls hl ha (ei_sf (c := a == 9 && b == 15 && bb == 9) (x := em_t6 b a aa bb (ew_od w (k + 1))) hR (by simp [h49, h50]))
      · skip
        refine lv_iload hx hb dX6_word_242 (lv_at hl 0 rfl) ?_
        refine lv_bipush (v := 9) hx hb dX6_word_244 (by decide) ?_
        refine lv_icmp_ne (tgt := 251) hx hb dX6_word_246 (by decide) (fun h51 => ?_) (fun h51 => ?_)
        · skip
          exact L251 b a aa bb ls hl ha (ei_sf (c := a == 9 && b == 15 && bb == 9) (x := em_t6 b a aa bb (ew_od w (k + 1))) hR (by simp [h49, h50, h51]))
        · skip
          refine lv_iconst (v := 0) hx hb dX6_word_249 (by decide) ?_
          exact er_zret hx hb hr hlk (by rw [(ei_st (c := a == 9 && b == 15 && bb == 9) (x := em_t6 b a aa bb (ew_od w (k + 1))) hR (by simp [h49, h50, h51]))]; rfl) dX6_word_250
  have L214 : ∀ (b a aa bb : Int32) (ls : Array Slot), lv_has ls 13 [(8, .int bb), (6, .int aa), (5, .int a), (4, .int (nI (em_ct w k))), (3, .int b), (0, .ref h0)] → w (em_ct w k) = a → em_wd (w k) (w (k + 1)) (w (em_ct w k)) (em_pk w (em_ct w k)) (ew_ah w n (k + 1)) (P (k + 1)) (ew_od w (k + 1)) = em_t4 b a aa bb (ew_od w (k + 1)) → W p l e ({ frames := 3, cells := 0, slots := 0, locals := 64 }) s m args below meth c s.heap [] 0 0 (MQ below (er_Q (.int (ef_b (em_wd (w k) (w (k + 1)) (w (em_ct w k)) (em_pk w (em_ct w k)) (ew_ah w n (k + 1)) (P (k + 1)) (ew_od w (k + 1)))))) args s 0 0 (fun _ => False)) (F0 m 214 ls []) := by
    intro b a aa bb ls hl ha hR
    refine lv_iload hx hb dX6_word_214 (lv_at hl 2 rfl) ?_
    refine lv_bipush (v := 9) hx hb dX6_word_216 (by decide) ?_
    refine lv_icmp_ne (tgt := 229) hx hb dX6_word_218 (by decide) (fun h52 => ?_) (fun h52 => ?_)
    · skip
      exact L229 b a aa bb ls hl ha (ei_sf (c := a == 9 && b == 14) (x := em_t5 b a aa bb (ew_od w (k + 1))) hR (by simp [h52]))
    · skip
      refine lv_iload_n hx hb dX6_word_221 rfl (lv_at hl 4 rfl) ?_
      refine lv_bipush (v := 14) hx hb dX6_word_222 (by decide) ?_
      refine lv_icmp_ne (tgt := 229) hx hb dX6_word_224 (by decide) (fun h53 => ?_) (fun h53 => ?_)
      · skip
        exact L229 b a aa bb ls hl ha (ei_sf (c := a == 9 && b == 14) (x := em_t5 b a aa bb (ew_od w (k + 1))) hR (by simp [h52, h53]))
      · skip
        refine lv_iconst (v := 0) hx hb dX6_word_227 (by decide) ?_
        exact er_zret hx hb hr hlk (by rw [(ei_st (c := a == 9 && b == 14) (x := em_t5 b a aa bb (ew_od w (k + 1))) hR (by simp [h52, h53]))]; rfl) dX6_word_228
  have L179 : ∀ (b a aa bb : Int32) (ls : Array Slot), lv_has ls 13 [(8, .int bb), (6, .int aa), (5, .int a), (4, .int (nI (em_ct w k))), (3, .int b), (0, .ref h0)] → w (em_ct w k) = a → em_wd (w k) (w (k + 1)) (w (em_ct w k)) (em_pk w (em_ct w k)) (ew_ah w n (k + 1)) (P (k + 1)) (ew_od w (k + 1)) = em_t3 b a aa bb (ew_od w (k + 1)) → W p l e ({ frames := 3, cells := 0, slots := 0, locals := 64 }) s m args below meth c s.heap [] 0 0 (MQ below (er_Q (.int (ef_b (em_wd (w k) (w (k + 1)) (w (em_ct w k)) (em_pk w (em_ct w k)) (ew_ah w n (k + 1)) (P (k + 1)) (ew_od w (k + 1)))))) args s 0 0 (fun _ => False)) (F0 m 179 ls []) := by
    intro b a aa bb ls hl ha hR
    refine lv_aload_n hx hb dX6_word_179 rfl (lv_at hl 5 rfl) ?_
    refine lv_iload hx hb dX6_word_180 (lv_at hl 1 rfl) ?_
    refine er_V (own := RX6) (C := RX6) (b := h0) (rest := []) hx hb hml hown hts hl.1 (k_X6_letter l D cI cZ cJ h0 aa) tw450 tw7 tw447 tw449 ts_X6_letter yd_X6_letter rfl rfl ⟨Nat.le_of_ble_eq_true rfl, Nat.le_of_ble_eq_true rfl⟩ er_nil hK hP (q0 := 0) rfl rfl rfl rfl (Nat.le_of_ble_eq_true rfl) ⟨Nat.zero_le _, Nat.zero_le _⟩ dX6_word_182 ?_
    refine ef_if_eq (tgt := 214) hx hb dX6_word_185 (by decide) (fun h54 => ?_) (fun h54 => ?_)
    · skip
      exact L214 b a aa bb ls hl ha (ei_sf (c := ew_let aa && (a == 11 || ew_mb a) && ew_let b) (x := em_t4 b a aa bb (ew_od w (k + 1))) hR (by simp [h54]))
    · skip
      refine lv_iload hx hb dX6_word_188 (lv_at hl 2 rfl) ?_
      refine lv_bipush (v := 11) hx hb dX6_word_190 (by decide) ?_
      refine lv_icmp_eq (tgt := 204) hx hb dX6_word_192 (by decide) (fun h55 => ?_) (fun h55 => ?_)
      · skip
        refine lv_aload_n hx hb dX6_word_204 rfl (lv_at hl 5 rfl) ?_
        refine lv_iload_n hx hb dX6_word_205 rfl (lv_at hl 4 rfl) ?_
        refine er_V (own := RX6) (C := RX6) (b := h0) (rest := []) hx hb hml hown hts hl.1 (k_X6_letter l D cI cZ cJ h0 b) tw450 tw7 tw447 tw449 ts_X6_letter yd_X6_letter rfl rfl ⟨Nat.le_of_ble_eq_true rfl, Nat.le_of_ble_eq_true rfl⟩ er_nil hK hP (q0 := 0) rfl rfl rfl rfl (Nat.le_of_ble_eq_true rfl) ⟨Nat.zero_le _, Nat.zero_le _⟩ dX6_word_206 ?_
        refine ef_if_eq (tgt := 214) hx hb dX6_word_209 (by decide) (fun h56 => ?_) (fun h56 => ?_)
        · skip
          exact L214 b a aa bb ls hl ha (ei_sf (c := ew_let aa && (a == 11 || ew_mb a) && ew_let b) (x := em_t4 b a aa bb (ew_od w (k + 1))) hR (by simp [h54, h55, h56]))
        · skip
          refine lv_iconst (v := 0) hx hb dX6_word_212 (by decide) ?_
          exact er_zret hx hb hr hlk (by rw [(ei_st (c := ew_let aa && (a == 11 || ew_mb a) && ew_let b) (x := em_t4 b a aa bb (ew_od w (k + 1))) hR (by simp [h54, h55, h56]))]; rfl) dX6_word_213
      · skip
        refine lv_aload_n hx hb dX6_word_195 rfl (lv_at hl 5 rfl) ?_
        refine lv_iload hx hb dX6_word_196 (lv_at hl 2 rfl) ?_
        refine er_V (own := RX6) (C := RX6) (b := h0) (rest := []) hx hb hml hown hts hl.1 (k_X6_quote l D cI cZ cJ h0 a) tw454 tw7 tw451 tw453 ts_X6_quote yd_X6_quote rfl rfl ⟨Nat.le_of_ble_eq_true rfl, Nat.le_of_ble_eq_true rfl⟩ er_nil hK hP (q0 := 0) rfl rfl rfl rfl (Nat.le_of_ble_eq_true rfl) ⟨Nat.zero_le _, Nat.zero_le _⟩ dX6_word_198 ?_
        refine ef_if_eq (tgt := 214) hx hb dX6_word_201 (by decide) (fun h57 => ?_) (fun h57 => ?_)
        · skip
          exact L214 b a aa bb ls hl ha (ei_sf (c := ew_let aa && (a == 11 || ew_mb a) && ew_let b) (x := em_t4 b a aa bb (ew_od w (k + 1))) hR (by simp [h54, h55, h57]))
        · skip
          refine lv_aload_n hx hb dX6_word_204 rfl (lv_at hl 5 rfl) ?_
          refine lv_iload_n hx hb dX6_word_205 rfl (lv_at hl 4 rfl) ?_
          refine er_V (own := RX6) (C := RX6) (b := h0) (rest := []) hx hb hml hown hts hl.1 (k_X6_letter l D cI cZ cJ h0 b) tw450 tw7 tw447 tw449 ts_X6_letter yd_X6_letter rfl rfl ⟨Nat.le_of_ble_eq_true rfl, Nat.le_of_ble_eq_true rfl⟩ er_nil hK hP (q0 := 0) rfl rfl rfl rfl (Nat.le_of_ble_eq_true rfl) ⟨Nat.zero_le _, Nat.zero_le _⟩ dX6_word_206 ?_
          refine ef_if_eq (tgt := 214) hx hb dX6_word_209 (by decide) (fun h58 => ?_) (fun h58 => ?_)
          · skip
            exact L214 b a aa bb ls hl ha (ei_sf (c := ew_let aa && (a == 11 || ew_mb a) && ew_let b) (x := em_t4 b a aa bb (ew_od w (k + 1))) hR (by simp [h54, h55, h57, h58]))
          · skip
            refine lv_iconst (v := 0) hx hb dX6_word_212 (by decide) ?_
            exact er_zret hx hb hr hlk (by rw [(ei_st (c := ew_let aa && (a == 11 || ew_mb a) && ew_let b) (x := em_t4 b a aa bb (ew_od w (k + 1))) hR (by simp [h54, h55, h57, h58]))]; rfl) dX6_word_213
  have L145 : ∀ (b a aa bb : Int32) (ls : Array Slot), lv_has ls 13 [(8, .int bb), (6, .int aa), (5, .int a), (4, .int (nI (em_ct w k))), (3, .int b), (0, .ref h0)] → w (em_ct w k) = a → em_wd (w k) (w (k + 1)) (w (em_ct w k)) (em_pk w (em_ct w k)) (ew_ah w n (k + 1)) (P (k + 1)) (ew_od w (k + 1)) = em_t2 b a aa bb (ew_od w (k + 1)) → W p l e ({ frames := 3, cells := 0, slots := 0, locals := 64 }) s m args below meth c s.heap [] 0 0 (MQ below (er_Q (.int (ef_b (em_wd (w k) (w (k + 1)) (w (em_ct w k)) (em_pk w (em_ct w k)) (ew_ah w n (k + 1)) (P (k + 1)) (ew_od w (k + 1)))))) args s 0 0 (fun _ => False)) (F0 m 145 ls []) := by
    intro b a aa bb ls hl ha hR
    refine lv_aload_n hx hb dX6_word_145 rfl (lv_at hl 5 rfl) ?_
    refine lv_iload hx hb dX6_word_146 (lv_at hl 2 rfl) ?_
    refine er_V (own := RX6) (C := RX6) (b := h0) (rest := []) hx hb hml hown hts hl.1 (k_X6_letter l D cI cZ cJ h0 a) tw450 tw7 tw447 tw449 ts_X6_letter yd_X6_letter rfl rfl ⟨Nat.le_of_ble_eq_true rfl, Nat.le_of_ble_eq_true rfl⟩ er_nil hK hP (q0 := 0) rfl rfl rfl rfl (Nat.le_of_ble_eq_true rfl) ⟨Nat.zero_le _, Nat.zero_le _⟩ dX6_word_148 ?_
    refine ef_if_eq (tgt := 179) hx hb dX6_word_151 (by decide) (fun h59 => ?_) (fun h59 => ?_)
    · skip
      exact L179 b a aa bb ls hl ha (ei_sf (c := ew_let a && (b == 11 || ew_mb b) && ew_let bb) (x := em_t3 b a aa bb (ew_od w (k + 1))) hR (by simp [h59]))
    · skip
      refine lv_iload_n hx hb dX6_word_154 rfl (lv_at hl 4 rfl) ?_
      refine lv_bipush (v := 11) hx hb dX6_word_155 (by decide) ?_
      refine lv_icmp_eq (tgt := 168) hx hb dX6_word_157 (by decide) (fun h60 => ?_) (fun h60 => ?_)
      · skip
        refine lv_aload_n hx hb dX6_word_168 rfl (lv_at hl 5 rfl) ?_
        refine lv_iload hx hb dX6_word_169 (lv_at hl 0 rfl) ?_
        refine er_V (own := RX6) (C := RX6) (b := h0) (rest := []) hx hb hml hown hts hl.1 (k_X6_letter l D cI cZ cJ h0 bb) tw450 tw7 tw447 tw449 ts_X6_letter yd_X6_letter rfl rfl ⟨Nat.le_of_ble_eq_true rfl, Nat.le_of_ble_eq_true rfl⟩ er_nil hK hP (q0 := 0) rfl rfl rfl rfl (Nat.le_of_ble_eq_true rfl) ⟨Nat.zero_le _, Nat.zero_le _⟩ dX6_word_171 ?_
        refine ef_if_eq (tgt := 179) hx hb dX6_word_174 (by decide) (fun h61 => ?_) (fun h61 => ?_)
        · skip
          exact L179 b a aa bb ls hl ha (ei_sf (c := ew_let a && (b == 11 || ew_mb b) && ew_let bb) (x := em_t3 b a aa bb (ew_od w (k + 1))) hR (by simp [h59, h60, h61]))
        · skip
          refine lv_iconst (v := 0) hx hb dX6_word_177 (by decide) ?_
          exact er_zret hx hb hr hlk (by rw [(ei_st (c := ew_let a && (b == 11 || ew_mb b) && ew_let bb) (x := em_t3 b a aa bb (ew_od w (k + 1))) hR (by simp [h59, h60, h61]))]; rfl) dX6_word_178
      · skip
        refine lv_aload_n hx hb dX6_word_160 rfl (lv_at hl 5 rfl) ?_
        refine lv_iload_n hx hb dX6_word_161 rfl (lv_at hl 4 rfl) ?_
        refine er_V (own := RX6) (C := RX6) (b := h0) (rest := []) hx hb hml hown hts hl.1 (k_X6_quote l D cI cZ cJ h0 b) tw454 tw7 tw451 tw453 ts_X6_quote yd_X6_quote rfl rfl ⟨Nat.le_of_ble_eq_true rfl, Nat.le_of_ble_eq_true rfl⟩ er_nil hK hP (q0 := 0) rfl rfl rfl rfl (Nat.le_of_ble_eq_true rfl) ⟨Nat.zero_le _, Nat.zero_le _⟩ dX6_word_162 ?_
        refine ef_if_eq (tgt := 179) hx hb dX6_word_165 (by decide) (fun h62 => ?_) (fun h62 => ?_)
        · skip
          exact L179 b a aa bb ls hl ha (ei_sf (c := ew_let a && (b == 11 || ew_mb b) && ew_let bb) (x := em_t3 b a aa bb (ew_od w (k + 1))) hR (by simp [h59, h60, h62]))
        · skip
          refine lv_aload_n hx hb dX6_word_168 rfl (lv_at hl 5 rfl) ?_
          refine lv_iload hx hb dX6_word_169 (lv_at hl 0 rfl) ?_
          refine er_V (own := RX6) (C := RX6) (b := h0) (rest := []) hx hb hml hown hts hl.1 (k_X6_letter l D cI cZ cJ h0 bb) tw450 tw7 tw447 tw449 ts_X6_letter yd_X6_letter rfl rfl ⟨Nat.le_of_ble_eq_true rfl, Nat.le_of_ble_eq_true rfl⟩ er_nil hK hP (q0 := 0) rfl rfl rfl rfl (Nat.le_of_ble_eq_true rfl) ⟨Nat.zero_le _, Nat.zero_le _⟩ dX6_word_171 ?_
          refine ef_if_eq (tgt := 179) hx hb dX6_word_174 (by decide) (fun h63 => ?_) (fun h63 => ?_)
          · skip
            exact L179 b a aa bb ls hl ha (ei_sf (c := ew_let a && (b == 11 || ew_mb b) && ew_let bb) (x := em_t3 b a aa bb (ew_od w (k + 1))) hR (by simp [h59, h60, h62, h63]))
          · skip
            refine lv_iconst (v := 0) hx hb dX6_word_177 (by decide) ?_
            exact er_zret hx hb hr hlk (by rw [(ei_st (c := ew_let a && (b == 11 || ew_mb b) && ew_let bb) (x := em_t3 b a aa bb (ew_od w (k + 1))) hR (by simp [h59, h60, h62, h63]))]; rfl) dX6_word_178
  have L126 : ∀ (b a aa bb : Int32) (ls : Array Slot), lv_has ls 13 [(8, .int bb), (6, .int aa), (5, .int a), (4, .int (nI (em_ct w k))), (3, .int b), (0, .ref h0)] → w (em_ct w k) = a → em_wd (w k) (w (k + 1)) (w (em_ct w k)) (em_pk w (em_ct w k)) (ew_ah w n (k + 1)) (P (k + 1)) (ew_od w (k + 1)) = em_t1 b a aa bb (ew_od w (k + 1)) → W p l e ({ frames := 3, cells := 0, slots := 0, locals := 64 }) s m args below meth c s.heap [] 0 0 (MQ below (er_Q (.int (ef_b (em_wd (w k) (w (k + 1)) (w (em_ct w k)) (em_pk w (em_ct w k)) (ew_ah w n (k + 1)) (P (k + 1)) (ew_od w (k + 1)))))) args s 0 0 (fun _ => False)) (F0 m 126 ls []) := by
    intro b a aa bb ls hl ha hR
    refine lv_aload_n hx hb dX6_word_126 rfl (lv_at hl 5 rfl) ?_
    refine lv_iload hx hb dX6_word_127 (lv_at hl 2 rfl) ?_
    refine er_V (own := RX6) (C := RX6) (b := h0) (rest := []) hx hb hml hown hts hl.1 (k_X6_letter l D cI cZ cJ h0 a) tw450 tw7 tw447 tw449 ts_X6_letter yd_X6_letter rfl rfl ⟨Nat.le_of_ble_eq_true rfl, Nat.le_of_ble_eq_true rfl⟩ er_nil hK hP (q0 := 0) rfl rfl rfl rfl (Nat.le_of_ble_eq_true rfl) ⟨Nat.zero_le _, Nat.zero_le _⟩ dX6_word_129 ?_
    refine ef_if_eq (tgt := 145) hx hb dX6_word_132 (by decide) (fun h64 => ?_) (fun h64 => ?_)
    · skip
      exact L145 b a aa bb ls hl ha (ei_sf (c := ew_let a && ew_let b) (x := em_t2 b a aa bb (ew_od w (k + 1))) hR (by simp [h64]))
    · skip
      refine lv_aload_n hx hb dX6_word_135 rfl (lv_at hl 5 rfl) ?_
      refine lv_iload_n hx hb dX6_word_136 rfl (lv_at hl 4 rfl) ?_
      refine er_V (own := RX6) (C := RX6) (b := h0) (rest := []) hx hb hml hown hts hl.1 (k_X6_letter l D cI cZ cJ h0 b) tw450 tw7 tw447 tw449 ts_X6_letter yd_X6_letter rfl rfl ⟨Nat.le_of_ble_eq_true rfl, Nat.le_of_ble_eq_true rfl⟩ er_nil hK hP (q0 := 0) rfl rfl rfl rfl (Nat.le_of_ble_eq_true rfl) ⟨Nat.zero_le _, Nat.zero_le _⟩ dX6_word_137 ?_
      refine ef_if_eq (tgt := 145) hx hb dX6_word_140 (by decide) (fun h65 => ?_) (fun h65 => ?_)
      · skip
        exact L145 b a aa bb ls hl ha (ei_sf (c := ew_let a && ew_let b) (x := em_t2 b a aa bb (ew_od w (k + 1))) hR (by simp [h64, h65]))
      · skip
        refine lv_iconst (v := 0) hx hb dX6_word_143 (by decide) ?_
        exact er_zret hx hb hr hlk (by rw [(ei_st (c := ew_let a && ew_let b) (x := em_t2 b a aa bb (ew_od w (k + 1))) hR (by simp [h64, h65]))]; rfl) dX6_word_144
  have L84 : ∀ (ls : Array Slot), lv_has ls 13 [(3, .int (w (k + 1))), (2, .int (w k)), (0, .ref h0), (1, .int (nI (k + 1)))] → (w k == 1 && w (k + 1) == 2) = false → ew_le (w k) = false → ew_le (w (k + 1)) = false → (w k == 5 && P (k + 1)) = false → (w k == 18 && w (k + 1) == 18) = false → ew_at (w (k + 1)) = false → W p l e ({ frames := 3, cells := 0, slots := 0, locals := 64 }) s m args below meth c s.heap [] 0 0 (MQ below (er_Q (.int (ef_b (em_wd (w k) (w (k + 1)) (w (em_ct w k)) (em_pk w (em_ct w k)) (ew_ah w n (k + 1)) (P (k + 1)) (ew_od w (k + 1)))))) args s 0 0 (fun _ => False)) (F0 m 84 ls []) := by
    intro ls hl f28 f46 f47 f62 f74 f84
    refine lv_aload_n hx hb dX6_word_84 rfl (lv_at hl 2 rfl) ?_
    refine lv_iload_n hx hb dX6_word_85 rfl (lv_at hl 3 rfl) ?_
    refine er_V (own := RX6) (C := RX6) (b := h0) (rest := []) hx hb hml hown hts hl.1 (k_X6_before l D cI cZ cJ h0 gA wA pA fa n g w P (k + 1) (by omega)) tw434 tw7 tw431 tw433 ts_X6_before yd_X6_before rfl rfl ⟨Nat.le_of_ble_eq_true rfl, Nat.le_of_ble_eq_true rfl⟩ hP hK hP (q0 := 0) rfl rfl rfl rfl (Nat.le_of_ble_eq_true rfl) ⟨Nat.zero_le _, Nat.zero_le _⟩ dX6_word_86 ?_
    refine ef_eqi (y := nI (em_ct w k)) (by simp [em_bi]) ?_
    refine lv_istore (lv' := [(4, .int (nI (em_ct w k))), (3, .int (w (k + 1))), (2, .int (w k)), (0, .ref h0), (1, .int (nI (k + 1)))]) hx hb dX6_word_89 hl (Nat.le_of_ble_eq_true rfl) rfl (fun ls hl => ?_)
    refine lv_aload_n hx hb dX6_word_91 rfl (lv_at hl 3 rfl) ?_
    refine lv_iload hx hb dX6_word_92 (lv_at hl 0 rfl) ?_
    refine er_V (own := RX6) (C := RX6) (b := h0) (rest := []) hx hb hml hown hts hl.1 (k_X6_wordKind l D cI cZ cJ h0 gA wA pA fa n g w P (nI (em_ct w k)) (by omega)) tw442 tw7 tw439 tw441 ts_X6_wordKind yd_X6_wordKind rfl rfl ⟨Nat.le_of_ble_eq_true rfl, Nat.le_of_ble_eq_true rfl⟩ hP hK hP (q0 := 0) rfl rfl rfl rfl (Nat.le_of_ble_eq_true rfl) ⟨Nat.zero_le _, Nat.zero_le _⟩ dX6_word_94 ?_
    refine ef_eqi (y := w (em_ct w k)) (by rw [em_wk_n (by omega) hn, if_pos (by omega)]) ?_
    refine lv_istore (lv' := [(5, .int (w (em_ct w k))), (4, .int (nI (em_ct w k))), (3, .int (w (k + 1))), (2, .int (w k)), (0, .ref h0), (1, .int (nI (k + 1)))]) hx hb dX6_word_97 hl (Nat.le_of_ble_eq_true rfl) rfl (fun ls hl => ?_)
    refine lv_aload_n hx hb dX6_word_99 rfl (lv_at hl 4 rfl) ?_
    refine lv_aload_n hx hb dX6_word_100 rfl (lv_at hl 4 rfl) ?_
    refine lv_iload hx hb dX6_word_101 (lv_at hl 1 rfl) ?_
    refine er_V (own := RX6) (C := RX6) (b := h0) (rest := [.ref h0]) hx hb hml hown hts hl.1 (k_X6_before l D cI cZ cJ h0 gA wA pA fa n g w P (em_ct w k) (by omega)) tw434 tw7 tw431 tw433 ts_X6_before yd_X6_before rfl rfl ⟨Nat.le_of_ble_eq_true rfl, Nat.le_of_ble_eq_true rfl⟩ hP hK hP (q0 := 0) rfl rfl rfl rfl (Nat.le_of_ble_eq_true rfl) ⟨Nat.zero_le _, Nat.zero_le _⟩ dX6_word_103 ?_
    refine er_V (own := RX6) (C := RX6) (b := h0) (rest := []) hx hb hml hown hts hl.1 (k_X6_wordKind l D cI cZ cJ h0 gA wA pA fa n g w P (em_bi w (em_ct w k)) (by omega)) tw442 tw7 tw439 tw441 ts_X6_wordKind yd_X6_wordKind rfl rfl ⟨Nat.le_of_ble_eq_true rfl, Nat.le_of_ble_eq_true rfl⟩ hP hK hP (q0 := 0) rfl rfl rfl rfl (Nat.le_of_ble_eq_true rfl) ⟨Nat.zero_le _, Nat.zero_le _⟩ dX6_word_106 ?_
    refine ef_eqi (y := em_pk w (em_ct w k)) (em_wk_b (by omega) hn) ?_
    refine lv_istore (lv' := [(6, .int (em_pk w (em_ct w k))), (5, .int (w (em_ct w k))), (4, .int (nI (em_ct w k))), (3, .int (w (k + 1))), (2, .int (w k)), (0, .ref h0), (1, .int (nI (k + 1)))]) hx hb dX6_word_109 hl (Nat.le_of_ble_eq_true rfl) rfl (fun ls hl => ?_)
    refine lv_aload_n hx hb dX6_word_111 rfl (lv_at hl 5 rfl) ?_
    refine lv_iload_n hx hb dX6_word_112 rfl (lv_at hl 6 rfl) ?_
    refine er_V (own := RX6) (C := RX6) (b := h0) (rest := []) hx hb hml hown hts hl.1 (k_X6_after l D cI cZ cJ h0 gA wA pA fa n g w P (k + 1) (by omega) (by omega)) tw446 tw7 tw443 tw445 ts_X6_after yd_X6_after rfl rfl ⟨Nat.le_of_ble_eq_true rfl, Nat.le_of_ble_eq_true rfl⟩ hP hK hP (q0 := 0) rfl rfl rfl rfl (Nat.le_of_ble_eq_true rfl) ⟨Nat.zero_le _, Nat.zero_le _⟩ dX6_word_113 ?_
    refine lv_istore (lv' := [(7, .int (nI (em_af w (n - ((k + 1) + 1)) ((k + 1) + 1)))), (6, .int (em_pk w (em_ct w k))), (5, .int (w (em_ct w k))), (4, .int (nI (em_ct w k))), (3, .int (w (k + 1))), (2, .int (w k)), (0, .ref h0), (1, .int (nI (k + 1)))]) hx hb dX6_word_116 hl (Nat.le_of_ble_eq_true rfl) rfl (fun ls hl => ?_)
    refine lv_aload_n hx hb dX6_word_118 rfl (lv_at hl 6 rfl) ?_
    refine lv_iload hx hb dX6_word_119 (lv_at hl 0 rfl) ?_
    refine er_V (own := RX6) (C := RX6) (b := h0) (rest := []) hx hb hml hown hts hl.1 (k_X6_wordKind l D cI cZ cJ h0 gA wA pA fa n g w P (nI (em_af w (n - ((k + 1) + 1)) ((k + 1) + 1))) (by omega)) tw442 tw7 tw439 tw441 ts_X6_wordKind yd_X6_wordKind rfl rfl ⟨Nat.le_of_ble_eq_true rfl, Nat.le_of_ble_eq_true rfl⟩ hP hK hP (q0 := 0) rfl rfl rfl rfl (Nat.le_of_ble_eq_true rfl) ⟨Nat.zero_le _, Nat.zero_le _⟩ dX6_word_121 ?_
    refine ef_eqi (y := ew_ah w n (k + 1)) (em_wk_a hk hn) ?_
    refine lv_istore (lv' := [(8, .int (ew_ah w n (k + 1))), (7, .int (nI (em_af w (n - ((k + 1) + 1)) ((k + 1) + 1)))), (6, .int (em_pk w (em_ct w k))), (5, .int (w (em_ct w k))), (4, .int (nI (em_ct w k))), (3, .int (w (k + 1))), (2, .int (w k)), (0, .ref h0), (1, .int (nI (k + 1)))]) hx hb dX6_word_124 hl (Nat.le_of_ble_eq_true rfl) rfl (fun ls hl => ?_)
    exact L126 (w (k + 1)) (w (em_ct w k)) (em_pk w (em_ct w k)) (ew_ah w n (k + 1)) ls (lv_sub hl [0, 2, 3, 4, 5, 7] rfl) rfl (em_wd_t f28 f46 f47 f62 f74 f84)
  have L74 : ∀ (ls : Array Slot), lv_has ls 13 [(3, .int (w (k + 1))), (2, .int (w k)), (0, .ref h0), (1, .int (nI (k + 1)))] → (w k == 1 && w (k + 1) == 2) = false → ew_le (w k) = false → ew_le (w (k + 1)) = false → (w k == 5 && P (k + 1)) = false → (w k == 18 && w (k + 1) == 18) = false → W p l e ({ frames := 3, cells := 0, slots := 0, locals := 64 }) s m args below meth c s.heap [] 0 0 (MQ below (er_Q (.int (ef_b (em_wd (w k) (w (k + 1)) (w (em_ct w k)) (em_pk w (em_ct w k)) (ew_ah w n (k + 1)) (P (k + 1)) (ew_od w (k + 1)))))) args s 0 0 (fun _ => False)) (F0 m 74 ls []) := by
    intro ls hl f28 f46 f47 f62 f74
    refine lv_aload_n hx hb dX6_word_74 rfl (lv_at hl 2 rfl) ?_
    refine lv_iload_n hx hb dX6_word_75 rfl (lv_at hl 0 rfl) ?_
    refine er_V (own := RX6) (C := RX6) (b := h0) (rest := []) hx hb hml hown hts hl.1 (k_X6_passed l D cI cZ cJ h0 (w (k + 1))) tw430 tw7 tw427 tw429 ts_X6_passed yd_X6_passed rfl rfl ⟨Nat.le_of_ble_eq_true rfl, Nat.le_of_ble_eq_true rfl⟩ er_nil hK hP (q0 := 0) rfl rfl rfl rfl (Nat.le_of_ble_eq_true rfl) ⟨Nat.zero_le _, Nat.zero_le _⟩ dX6_word_76 ?_
    refine ef_if_eq (tgt := 84) hx hb dX6_word_79 (by decide) (fun h66 => ?_) (fun h66 => ?_)
    · skip
      exact L84  ls hl f28 f46 f47 f62 f74 (by simp [h66])
    · skip
      refine lv_iconst (v := 0) hx hb dX6_word_82 (by decide) ?_
      exact er_zret hx hb hr hlk (by simp [ef_b, em_wd, f28, f46, f47, f62, f74, h66] <;> decide) dX6_word_83
  have L62 : ∀ (ls : Array Slot), lv_has ls 13 [(3, .int (w (k + 1))), (2, .int (w k)), (0, .ref h0), (1, .int (nI (k + 1)))] → (w k == 1 && w (k + 1) == 2) = false → ew_le (w k) = false → ew_le (w (k + 1)) = false → (w k == 5 && P (k + 1)) = false → W p l e ({ frames := 3, cells := 0, slots := 0, locals := 64 }) s m args below meth c s.heap [] 0 0 (MQ below (er_Q (.int (ef_b (em_wd (w k) (w (k + 1)) (w (em_ct w k)) (em_pk w (em_ct w k)) (ew_ah w n (k + 1)) (P (k + 1)) (ew_od w (k + 1)))))) args s 0 0 (fun _ => False)) (F0 m 62 ls []) := by
    intro ls hl f28 f46 f47 f62
    refine lv_iload_n hx hb dX6_word_62 rfl (lv_at hl 1 rfl) ?_
    refine lv_bipush (v := 18) hx hb dX6_word_63 (by decide) ?_
    refine lv_icmp_ne (tgt := 74) hx hb dX6_word_65 (by decide) (fun h67 => ?_) (fun h67 => ?_)
    · skip
      exact L74  ls hl f28 f46 f47 f62 (by simp [h67])
    · skip
      refine lv_iload_n hx hb dX6_word_68 rfl (lv_at hl 0 rfl) ?_
      refine lv_bipush (v := 18) hx hb dX6_word_69 (by decide) ?_
      refine lv_icmp_eq (tgt := 82) hx hb dX6_word_71 (by decide) (fun h68 => ?_) (fun h68 => ?_)
      · skip
        refine lv_iconst (v := 0) hx hb dX6_word_82 (by decide) ?_
        exact er_zret hx hb hr hlk (by simp [ef_b, em_wd, f28, f46, f47, f62, h67, h68] <;> decide) dX6_word_83
      · skip
        exact L74  ls hl f28 f46 f47 f62 (by simp [h67, h68])
  have L46 : ∀ (ls : Array Slot), lv_has ls 13 [(3, .int (w (k + 1))), (2, .int (w k)), (0, .ref h0), (1, .int (nI (k + 1)))] → (w k == 1 && w (k + 1) == 2) = false → ew_le (w k) = false → ew_le (w (k + 1)) = false → W p l e ({ frames := 3, cells := 0, slots := 0, locals := 64 }) s m args below meth c s.heap [] 0 0 (MQ below (er_Q (.int (ef_b (em_wd (w k) (w (k + 1)) (w (em_ct w k)) (em_pk w (em_ct w k)) (ew_ah w n (k + 1)) (P (k + 1)) (ew_od w (k + 1)))))) args s 0 0 (fun _ => False)) (F0 m 46 ls []) := by
    intro ls hl f28 f46 f47
    refine lv_iload_n hx hb dX6_word_46 rfl (lv_at hl 1 rfl) ?_
    refine lv_iconst (v := 5) hx hb dX6_word_47 (by decide) ?_
    refine lv_icmp_ne (tgt := 62) hx hb dX6_word_48 (by decide) (fun h69 => ?_) (fun h69 => ?_)
    · skip
      exact L62  ls hl f28 f46 f47 (by simp [h69])
    · skip
      refine lv_aload_n hx hb dX6_word_51 rfl (lv_at hl 2 rfl) ?_
      refine va_get (D := D) (ci := 5) (v := .ref pA) (C := RX6) (T := TX6) (N := 5) hx hb hts (fun w h => List.mem_cons_of_mem _ (inX6 w h)) hown hK hP 0 rfl rfl 4 (by decide) (eT_h hts tw371) (fun _ h9 => h9) rfl dX6_word_52 ?_
      refine lv_iload_n hx hb dX6_word_55 rfl (lv_at hl 3 rfl) ?_
      refine va_zald hx hb hK hP 3 1 rfl rfl (vp_in_nI (by omega) (by decide)) dX6_word_56 ?_
      refine ef_eqi (y := ef_b (P (k + 1))) (by rw [nI_clamp (by omega)]) ?_
      refine ef_if_eq (tgt := 62) hx hb dX6_word_57 (by decide) (fun h70 => ?_) (fun h70 => ?_)
      · skip
        exact L62  ls hl f28 f46 f47 (by simp [h69, h70])
      · skip
        refine lv_iconst (v := 0) hx hb dX6_word_60 (by decide) ?_
        exact er_zret hx hb hr hlk (by simp [ef_b, em_wd, f28, f46, f47, h69, h70] <;> decide) dX6_word_61
  have L28 : ∀ (ls : Array Slot), lv_has ls 13 [(3, .int (w (k + 1))), (2, .int (w k)), (0, .ref h0), (1, .int (nI (k + 1)))] → (w k == 1 && w (k + 1) == 2) = false → W p l e ({ frames := 3, cells := 0, slots := 0, locals := 64 }) s m args below meth c s.heap [] 0 0 (MQ below (er_Q (.int (ef_b (em_wd (w k) (w (k + 1)) (w (em_ct w k)) (em_pk w (em_ct w k)) (ew_ah w n (k + 1)) (P (k + 1)) (ew_od w (k + 1)))))) args s 0 0 (fun _ => False)) (F0 m 28 ls []) := by
    intro ls hl f28
    refine lv_aload_n hx hb dX6_word_28 rfl (lv_at hl 2 rfl) ?_
    refine lv_iload_n hx hb dX6_word_29 rfl (lv_at hl 1 rfl) ?_
    refine er_V (own := RX6) (C := RX6) (b := h0) (rest := []) hx hb hml hown hts hl.1 (k_X6_breaks l D cI cZ cJ h0 (w k)) tw426 tw7 tw423 tw425 ts_X6_breaks yd_X6_breaks rfl rfl ⟨Nat.le_of_ble_eq_true rfl, Nat.le_of_ble_eq_true rfl⟩ er_nil hK hP (q0 := 0) rfl rfl rfl rfl (Nat.le_of_ble_eq_true rfl) ⟨Nat.zero_le _, Nat.zero_le _⟩ dX6_word_30 ?_
    refine ef_if_ne (tgt := 44) hx hb dX6_word_33 (by decide) (fun h71 => ?_) (fun h71 => ?_)
    · skip
      refine lv_iconst (v := 1) hx hb dX6_word_44 (by decide) ?_
      exact er_zret hx hb hr hlk (by simp [ef_b, em_wd, f28, h71] <;> decide) dX6_word_45
    · skip
      refine lv_aload_n hx hb dX6_word_36 rfl (lv_at hl 2 rfl) ?_
      refine lv_iload_n hx hb dX6_word_37 rfl (lv_at hl 0 rfl) ?_
      refine er_V (own := RX6) (C := RX6) (b := h0) (rest := []) hx hb hml hown hts hl.1 (k_X6_breaks l D cI cZ cJ h0 (w (k + 1))) tw426 tw7 tw423 tw425 ts_X6_breaks yd_X6_breaks rfl rfl ⟨Nat.le_of_ble_eq_true rfl, Nat.le_of_ble_eq_true rfl⟩ er_nil hK hP (q0 := 0) rfl rfl rfl rfl (Nat.le_of_ble_eq_true rfl) ⟨Nat.zero_le _, Nat.zero_le _⟩ dX6_word_38 ?_
      refine ef_if_eq (tgt := 46) hx hb dX6_word_41 (by decide) (fun h72 => ?_) (fun h72 => ?_)
      · skip
        exact L46  ls hl f28 (by simp [h71, h72]) (by simp [h71, h72])
      · skip
        refine lv_iconst (v := 1) hx hb dX6_word_44 (by decide) ?_
        exact er_zret hx hb hr hlk (by simp [ef_b, em_wd, f28, h71, h72] <;> decide) dX6_word_45
  refine lv_aload_n hx hb dX6_word_0 rfl (lv_at hl 0 rfl) ?_
  refine va_get (D := D) (ci := 5) (v := .ref wA) (C := RX6) (T := TX6) (N := 5) hx hb hts (fun w h => List.mem_cons_of_mem _ (inX6 w h)) hown hK hP 0 rfl rfl 3 (by decide) (eT_h hts tw370) (fun _ h9 => h9) rfl dX6_word_1 ?_
  refine lv_iload_n hx hb dX6_word_4 rfl (lv_at hl 1 rfl) ?_
  refine lv_iconst (v := 1) hx hb dX6_word_5 (by decide) ?_
  refine lv_isub hx hb dX6_word_6 ?_
  refine ef_eqi (y := nI k) (nI_pred k) ?_
  refine va_iald hx hb hK hP 2 0 rfl rfl (vp_in_nI (by omega) (by decide)) dX6_word_7 ?_
  refine ef_eqi (y := w k) (by rw [nI_clamp (by omega)]) ?_
  refine lv_istore_n (lv' := [(2, .int (w k)), (0, .ref h0), (1, .int (nI (k + 1)))]) hx hb dX6_word_8 rfl hl (Nat.le_of_ble_eq_true rfl) rfl (fun ls hl => ?_)
  refine lv_aload_n hx hb dX6_word_9 rfl (lv_at hl 1 rfl) ?_
  refine va_get (D := D) (ci := 5) (v := .ref wA) (C := RX6) (T := TX6) (N := 5) hx hb hts (fun w h => List.mem_cons_of_mem _ (inX6 w h)) hown hK hP 0 rfl rfl 3 (by decide) (eT_h hts tw370) (fun _ h9 => h9) rfl dX6_word_10 ?_
  refine lv_iload_n hx hb dX6_word_13 rfl (lv_at hl 2 rfl) ?_
  refine va_iald hx hb hK hP 2 0 rfl rfl (vp_in_nI (by omega) (by decide)) dX6_word_14 ?_
  refine ef_eqi (y := w (k + 1)) (by rw [nI_clamp (by omega)]) ?_
  refine lv_istore_n (lv' := [(3, .int (w (k + 1))), (2, .int (w k)), (0, .ref h0), (1, .int (nI (k + 1)))]) hx hb dX6_word_15 rfl hl (Nat.le_of_ble_eq_true rfl) rfl (fun ls hl => ?_)
  refine lv_iload_n hx hb dX6_word_16 rfl (lv_at hl 1 rfl) ?_
  refine lv_iconst (v := 1) hx hb dX6_word_17 (by decide) ?_
  refine lv_icmp_ne (tgt := 28) hx hb dX6_word_18 (by decide) (fun h73 => ?_) (fun h73 => ?_)
  · skip
    exact L28  ls hl (by simp [h73])
  · skip
    refine lv_iload_n hx hb dX6_word_21 rfl (lv_at hl 0 rfl) ?_
    refine lv_iconst (v := 2) hx hb dX6_word_22 (by decide) ?_
    refine lv_icmp_ne (tgt := 28) hx hb dX6_word_23 (by decide) (fun h74 => ?_) (fun h74 => ?_)
    · skip
      exact L28  ls hl (by simp [h73, h74])
    · skip
      refine lv_iconst (v := 0) hx hb dX6_word_26 (by decide) ?_
      exact er_zret hx hb hr hlk (by simp [ef_b, em_wd, h73, h74] <;> decide) dX6_word_27
