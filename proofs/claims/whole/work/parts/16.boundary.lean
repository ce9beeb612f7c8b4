theorem eb_k_g {kd : Int32} {g w : Nat → Int32} {P : Nat → Bool} {n k : Nat} (hk : kd = 0) (h0 : ¬ n = 0) (hn : ¬ k + 1 = n) : eb_k kd g w P n (k + 1) = em_cl (g k) (g (k + 1)) (P (k + 1)) (eg_od g (k + 1)) (eg_ap g P k) := by
  rw [← em_cluster]
  simp [eb_k, eb_g, hk, h0, hn]
theorem eb_k_w {kd : Int32} {g w : Nat → Int32} {P : Nat → Bool} {n k : Nat} (hw : ∀ j, w j ≠ -1) (hk : ¬ kd = 0) (h0 : ¬ n = 0) (hn : ¬ k + 1 = n) : eb_k kd g w P n (k + 1) = em_wd (w k) (w (k + 1)) (w (em_ct w k)) (em_pk w (em_ct w k)) (ew_ah w n (k + 1)) (P (k + 1)) (ew_od w (k + 1)) := by
  rw [← em_word hw]
  simp [eb_k, eb_w, hk, h0, hn]
theorem eb_k_0 {kd : Int32} {g w : Nat → Int32} {P : Nat → Bool} {n i : Nat} (h0 : n = 0) : eb_k kd g w P n i = false := by
  unfold eb_k
  split <;> simp [eb_g, eb_w, h0]
theorem eb_k_1 {kd : Int32} {g w : Nat → Int32} {P : Nat → Bool} {n i : Nat} (h0 : ¬ n = 0) (h : i = 0 ∨ i = n) : eb_k kd g w P n i = true := by
  unfold eb_k
  split <;> simp [eb_g, eb_w, h0, h]

set_option maxHeartbeats 4000000 in
set_option maxRecDepth 100000 in
theorem k_X6_boundary (l : Launch) (D : va_G) (cI cZ cJ : ClassId) (h0 gA wA pA : Nat) (fa : Int32) (n : Nat) (g w : Nat → Int32) (P : Nat → Bool) (kd : Int32) (i : Nat) (hn : n ≤ 1000) (hi : i ≤ n) (hw : ∀ j, w j ≠ -1) : er_M l yX6_boundary (Cond.code yX6_boundary cX6_boundary 3 (some .boolean) :: eT) ({ frames := 4, cells := 0, slots := 0, locals := 96 }) D vwCl (eTy cI cZ cJ) [.ref h0, .int kd, .int (nI i)] [(h0, .inr (5, [.int fa, .int (nI n), .ref gA, .ref wA, .ref pA])), (gA, .inl (cI, 1000, .inl g)), (wA, .inl (cI, 1000, .inl w)), (pA, .inl (cZ, 1000, .inl (fun j => ef_b (P j))))] (.int (ef_b (eb_k kd g w P n i))) := by
  refine er_of (cc := cX6_boundary) (maxL := 3) (ret := (some .boolean)) (by decide) rfl (Nat.le_of_ble_eq_true rfl) ?_
  intro p e s m args below meth c ls hx hb hr hts hown hlk hml hP hK hl
  have hown : s.vm.findClass RX6 = some m.cls := hown
  have hl : lv_has ls 3 [(0, .ref h0), (1, .int kd), (2, .int (nI i))] := hl
  refine lv_aload_n hx hb dX6_boundary_0 rfl (lv_at hl 0 rfl) ?_
  refine va_get (D := D) (ci := 5) (v := .int (nI n)) (C := RX6) (T := TX6) (N := 5) hx hb hts (fun w h => List.mem_cons_of_mem _ (inX6 w h)) hown hK hP 0 rfl rfl 1 (by decide) (eT_h hts tw368) (fun _ h9 => h9) rfl dX6_boundary_1 ?_
  refine lv_if_ne (tgt := 9) hx hb dX6_boundary_4 (by decide) (fun h1 => ?_) (fun h1 => ?_)
  · skip
    have h1 : ¬ (n = 0) := fun q9 => h1 ((nI_eq (a := n) (b := 0) (by omega) (by omega)).mpr q9)
    refine lv_iload_n hx hb dX6_boundary_9 rfl (lv_at hl 2 rfl) ?_
    refine lv_if_eq (tgt := 21) hx hb dX6_boundary_10 (by decide) (fun h2 => ?_) (fun h2 => ?_)
    · skip
      have h2 : i = 0 := (nI_eq (a := i) (b := 0) (by omega) (by omega)).mp h2
      refine lv_iconst (v := 1) hx hb dX6_boundary_21 (by decide) ?_
      exact er_zret hx hb hr hlk (by rw [eb_k_1 h1 (by omega)]; rfl) dX6_boundary_22
    · skip
      have h2 : ¬ (i = 0) := fun q9 => h2 ((nI_eq (a := i) (b := 0) (by omega) (by omega)).mpr q9)
      refine lv_iload_n hx hb dX6_boundary_13 rfl (lv_at hl 2 rfl) ?_
      refine lv_aload_n hx hb dX6_boundary_14 rfl (lv_at hl 0 rfl) ?_
      refine va_get (D := D) (ci := 5) (v := .int (nI n)) (C := RX6) (T := TX6) (N := 5) hx hb hts (fun w h => List.mem_cons_of_mem _ (inX6 w h)) hown hK hP 0 rfl rfl 1 (by decide) (eT_h hts tw368) (fun _ h9 => h9) rfl dX6_boundary_15 ?_
      refine lv_icmp_ne (tgt := 23) hx hb dX6_boundary_18 (by decide) (fun h3 => ?_) (fun h3 => ?_)
      · skip
        have h3 : ¬ (i = n) := fun q9 => h3 ((nI_eq (a := i) (b := n) (by omega) (by omega)).mpr q9)
        obtain ⟨k, rfl⟩ : ∃ k, i = k + 1 := ⟨i - 1, by omega⟩
        refine lv_iload_n hx hb dX6_boundary_23 rfl (lv_at hl 1 rfl) ?_
        refine lv_if_ne (tgt := 35) hx hb dX6_boundary_24 (by decide) (fun h4 => ?_) (fun h4 => ?_)
        · skip
          refine lv_aload_n hx hb dX6_boundary_35 rfl (lv_at hl 0 rfl) ?_
          refine lv_iload_n hx hb dX6_boundary_36 rfl (lv_at hl 2 rfl) ?_
          refine er_V (own := RX6) (C := RX6) (b := h0) (rest := []) hx hb hml hown hts hl.1 (k_X6_word l D cI cZ cJ h0 gA wA pA fa n g w P k hn (by omega) hw) tw422 tw7 tw419 tw421 ts_X6_word yd_X6_word rfl rfl ⟨Nat.le_of_ble_eq_true rfl, Nat.le_of_ble_eq_true rfl⟩ hP hK hP (q0 := 0) rfl rfl rfl rfl (Nat.le_of_ble_eq_true rfl) ⟨Nat.zero_le _, Nat.zero_le _⟩ dX6_boundary_37 ?_
          exact er_zret hx hb hr hlk (by rw [eb_k_w hw h4 h1 (by omega)]) dX6_boundary_40
        · skip
          refine lv_aload_n hx hb dX6_boundary_27 rfl (lv_at hl 0 rfl) ?_
          refine lv_iload_n hx hb dX6_boundary_28 rfl (lv_at hl 2 rfl) ?_
          refine er_V (own := RX6) (C := RX6) (b := h0) (rest := []) hx hb hml hown hts hl.1 (k_X6_cluster l D cI cZ cJ h0 gA wA pA fa n g w P k (by omega)) tw418 tw7 tw415 tw417 ts_X6_cluster yd_X6_cluster rfl rfl ⟨Nat.le_of_ble_eq_true rfl, Nat.le_of_ble_eq_true rfl⟩ hP hK hP (q0 := 0) rfl rfl rfl rfl (Nat.le_of_ble_eq_true rfl) ⟨Nat.zero_le _, Nat.zero_le _⟩ dX6_boundary_29 ?_
          refine lv_goto (tgt := 40) hx hb dX6_boundary_32 (by decide) ?_
          exact er_zret hx hb hr hlk (by rw [eb_k_g h4 h1 (by omega)]) dX6_boundary_40
      · skip
        have h3 : i = n := (nI_eq (a := i) (b := n) (by omega) (by omega)).mp h3
        refine lv_iconst (v := 1) hx hb dX6_boundary_21 (by decide) ?_
        exact er_zret hx hb hr hlk (by rw [eb_k_1 h1 (by omega)]; rfl) dX6_boundary_22
  · skip
    have h1 : n = 0 := (nI_eq (a := n) (b := 0) (by omega) (by omega)).mp h1
    refine lv_iconst (v := 0) hx hb dX6_boundary_7 (by decide) ?_
    exact er_zret hx hb hr hlk (by rw [eb_k_0 h1]; rfl) dX6_boundary_8
