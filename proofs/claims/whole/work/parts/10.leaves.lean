set_option maxHeartbeats 4000000 in
set_option maxRecDepth 100000 in
theorem k_X1_isControl (l : Launch) (D : va_G) (cI cZ cJ : ClassId) (x : Int32) : er_M l yX1_isControl (Cond.code yX1_isControl cX1_isControl 1 (some .boolean) :: eT) ({ frames := 0, cells := 0, slots := 0, locals := 0 }) D vwCl (eTy cI cZ cJ) [.int x] [] (.int (ef_b (ew_le x))) := by
  refine er_of (cc := cX1_isControl) (maxL := 1) (ret := (some .boolean)) (by decide) rfl (Nat.le_of_ble_eq_true rfl) ?_
  intro p e s m args below meth c ls hx hb hr hts hown hlk hml hP hK hl
  have hown : s.vm.findClass RX1 = some m.cls := hown
  have hl : lv_has ls 1 [(0, .int x)] := hl
  refine lv_iload_n hx hb dX1_isControl_0 rfl (lv_at hl 0 rfl) ?_
  refine lv_iconst (v := 1) hx hb dX1_isControl_1 (by decide) ?_
  refine lv_icmp_eq (tgt := 15) hx hb dX1_isControl_2 (by decide) (fun h1 => ?_) (fun h1 => ?_)
  · skip
    refine lv_iconst (v := 1) hx hb dX1_isControl_15 (by decide) ?_
    refine lv_goto (tgt := 20) hx hb dX1_isControl_16 (by decide) ?_
    exact er_zret hx hb hr hlk (by simp [ef_b, ew_le, h1]) dX1_isControl_20
  · skip
    refine lv_iload_n hx hb dX1_isControl_5 rfl (lv_at hl 0 rfl) ?_
    refine lv_iconst (v := 2) hx hb dX1_isControl_6 (by decide) ?_
    refine lv_icmp_eq (tgt := 15) hx hb dX1_isControl_7 (by decide) (fun h2 => ?_) (fun h2 => ?_)
    · skip
      refine lv_iconst (v := 1) hx hb dX1_isControl_15 (by decide) ?_
      refine lv_goto (tgt := 20) hx hb dX1_isControl_16 (by decide) ?_
      exact er_zret hx hb hr hlk (by simp [ef_b, ew_le, h1, h2]) dX1_isControl_20
    · skip
      refine lv_iload_n hx hb dX1_isControl_10 rfl (lv_at hl 0 rfl) ?_
      refine lv_iconst (v := 3) hx hb dX1_isControl_11 (by decide) ?_
      refine lv_icmp_ne (tgt := 19) hx hb dX1_isControl_12 (by decide) (fun h3 => ?_) (fun h3 => ?_)
      · skip
        refine lv_iconst (v := 0) hx hb dX1_isControl_19 (by decide) ?_
        exact er_zret hx hb hr hlk (by simp [ef_b, ew_le, h1, h2, h3]) dX1_isControl_20
      · skip
        refine lv_iconst (v := 1) hx hb dX1_isControl_15 (by decide) ?_
        refine lv_goto (tgt := 20) hx hb dX1_isControl_16 (by decide) ?_
        exact er_zret hx hb hr hlk (by simp [ef_b, ew_le, h1, h2, h3]) dX1_isControl_20

set_option maxHeartbeats 4000000 in
set_option maxRecDepth 100000 in
theorem k_X4_isLineEnd (l : Launch) (D : va_G) (cI cZ cJ : ClassId) (x : Int32) : er_M l yX4_isLineEnd (Cond.code yX4_isLineEnd cX4_isLineEnd 1 (some .boolean) :: eT) ({ frames := 0, cells := 0, slots := 0, locals := 0 }) D vwCl (eTy cI cZ cJ) [.int x] [] (.int (ef_b (ew_le x))) := by
  refine er_of (cc := cX4_isLineEnd) (maxL := 1) (ret := (some .boolean)) (by decide) rfl (Nat.le_of_ble_eq_true rfl) ?_
  intro p e s m args below meth c ls hx hb hr hts hown hlk hml hP hK hl
  have hown : s.vm.findClass RX4 = some m.cls := hown
  have hl : lv_has ls 1 [(0, .int x)] := hl
  refine lv_iload_n hx hb dX4_isLineEnd_0 rfl (lv_at hl 0 rfl) ?_
  refine lv_iconst (v := 1) hx hb dX4_isLineEnd_1 (by decide) ?_
  refine lv_icmp_eq (tgt := 15) hx hb dX4_isLineEnd_2 (by decide) (fun h1 => ?_) (fun h1 => ?_)
  · skip
    refine lv_iconst (v := 1) hx hb dX4_isLineEnd_15 (by decide) ?_
    refine lv_goto (tgt := 20) hx hb dX4_isLineEnd_16 (by decide) ?_
    exact er_zret hx hb hr hlk (by simp [ef_b, ew_le, h1]) dX4_isLineEnd_20
  · skip
    refine lv_iload_n hx hb dX4_isLineEnd_5 rfl (lv_at hl 0 rfl) ?_
    refine lv_iconst (v := 2) hx hb dX4_isLineEnd_6 (by decide) ?_
    refine lv_icmp_eq (tgt := 15) hx hb dX4_isLineEnd_7 (by decide) (fun h2 => ?_) (fun h2 => ?_)
    · skip
      refine lv_iconst (v := 1) hx hb dX4_isLineEnd_15 (by decide) ?_
      refine lv_goto (tgt := 20) hx hb dX4_isLineEnd_16 (by decide) ?_
      exact er_zret hx hb hr hlk (by simp [ef_b, ew_le, h1, h2]) dX4_isLineEnd_20
    · skip
      refine lv_iload_n hx hb dX4_isLineEnd_10 rfl (lv_at hl 0 rfl) ?_
      refine lv_iconst (v := 3) hx hb dX4_isLineEnd_11 (by decide) ?_
      refine lv_icmp_ne (tgt := 19) hx hb dX4_isLineEnd_12 (by decide) (fun h3 => ?_) (fun h3 => ?_)
      · skip
        refine lv_iconst (v := 0) hx hb dX4_isLineEnd_19 (by decide) ?_
        exact er_zret hx hb hr hlk (by simp [ef_b, ew_le, h1, h2, h3]) dX4_isLineEnd_20
      · skip
        refine lv_iconst (v := 1) hx hb dX4_isLineEnd_15 (by decide) ?_
        refine lv_goto (tgt := 20) hx hb dX4_isLineEnd_16 (by decide) ?_
        exact er_zret hx hb hr hlk (by simp [ef_b, ew_le, h1, h2, h3]) dX4_isLineEnd_20

set_option maxHeartbeats 4000000 in
set_option maxRecDepth 100000 in
theorem k_X4_isAttached (l : Launch) (D : va_G) (cI cZ cJ : ClassId) (x : Int32) : er_M l yX4_isAttached (Cond.code yX4_isAttached cX4_isAttached 1 (some .boolean) :: eT) ({ frames := 0, cells := 0, slots := 0, locals := 0 }) D vwCl (eTy cI cZ cJ) [.int x] [] (.int (ef_b (ew_at x))) := by
  refine er_of (cc := cX4_isAttached) (maxL := 1) (ret := (some .boolean)) (by decide) rfl (Nat.le_of_ble_eq_true rfl) ?_
  intro p e s m args below meth c ls hx hb hr hts hown hlk hml hP hK hl
  have hown : s.vm.findClass RX4 = some m.cls := hown
  have hl : lv_has ls 1 [(0, .int x)] := hl
  refine lv_iload_n hx hb dX4_isAttached_0 rfl (lv_at hl 0 rfl) ?_
  refine lv_iconst (v := 4) hx hb dX4_isAttached_1 (by decide) ?_
  refine lv_icmp_eq (tgt := 16) hx hb dX4_isAttached_2 (by decide) (fun h1 => ?_) (fun h1 => ?_)
  · skip
    refine lv_iconst (v := 1) hx hb dX4_isAttached_16 (by decide) ?_
    refine lv_goto (tgt := 21) hx hb dX4_isAttached_17 (by decide) ?_
    exact er_zret hx hb hr hlk (by simp [ef_b, ew_at, h1]) dX4_isAttached_21
  · skip
    refine lv_iload_n hx hb dX4_isAttached_5 rfl (lv_at hl 0 rfl) ?_
    refine lv_bipush (v := 7) hx hb dX4_isAttached_6 (by decide) ?_
    refine lv_icmp_eq (tgt := 16) hx hb dX4_isAttached_8 (by decide) (fun h2 => ?_) (fun h2 => ?_)
    · skip
      refine lv_iconst (v := 1) hx hb dX4_isAttached_16 (by decide) ?_
      refine lv_goto (tgt := 21) hx hb dX4_isAttached_17 (by decide) ?_
      exact er_zret hx hb hr hlk (by simp [ef_b, ew_at, h1, h2]) dX4_isAttached_21
    · skip
      refine lv_iload_n hx hb dX4_isAttached_11 rfl (lv_at hl 0 rfl) ?_
      refine lv_iconst (v := 5) hx hb dX4_isAttached_12 (by decide) ?_
      refine lv_icmp_ne (tgt := 20) hx hb dX4_isAttached_13 (by decide) (fun h3 => ?_) (fun h3 => ?_)
      · skip
        refine lv_iconst (v := 0) hx hb dX4_isAttached_20 (by decide) ?_
        exact er_zret hx hb hr hlk (by simp [ef_b, ew_at, h1, h2, h3]) dX4_isAttached_21
      · skip
        refine lv_iconst (v := 1) hx hb dX4_isAttached_16 (by decide) ?_
        refine lv_goto (tgt := 21) hx hb dX4_isAttached_17 (by decide) ?_
        exact er_zret hx hb hr hlk (by simp [ef_b, ew_at, h1, h2, h3]) dX4_isAttached_21

set_option maxHeartbeats 4000000 in
set_option maxRecDepth 100000 in
theorem k_X4_isLetter (l : Launch) (D : va_G) (cI cZ cJ : ClassId) (x : Int32) : er_M l yX4_isLetter (Cond.code yX4_isLetter cX4_isLetter 1 (some .boolean) :: eT) ({ frames := 0, cells := 0, slots := 0, locals := 0 }) D vwCl (eTy cI cZ cJ) [.int x] [] (.int (ef_b (ew_let x))) := by
  refine er_of (cc := cX4_isLetter) (maxL := 1) (ret := (some .boolean)) (by decide) rfl (Nat.le_of_ble_eq_true rfl) ?_
  intro p e s m args below meth c ls hx hb hr hts hown hlk hml hP hK hl
  have hown : s.vm.findClass RX4 = some m.cls := hown
  have hl : lv_has ls 1 [(0, .int x)] := hl
  refine lv_iload_n hx hb dX4_isLetter_0 rfl (lv_at hl 0 rfl) ?_
  refine lv_bipush (v := 10) hx hb dX4_isLetter_1 (by decide) ?_
  refine lv_icmp_eq (tgt := 12) hx hb dX4_isLetter_3 (by decide) (fun h1 => ?_) (fun h1 => ?_)
  · skip
    refine lv_iconst (v := 1) hx hb dX4_isLetter_12 (by decide) ?_
    refine lv_goto (tgt := 17) hx hb dX4_isLetter_13 (by decide) ?_
    exact er_zret hx hb hr hlk (by simp [ef_b, ew_let, h1]) dX4_isLetter_17
  · skip
    refine lv_iload_n hx hb dX4_isLetter_6 rfl (lv_at hl 0 rfl) ?_
    refine lv_bipush (v := 9) hx hb dX4_isLetter_7 (by decide) ?_
    refine lv_icmp_ne (tgt := 16) hx hb dX4_isLetter_9 (by decide) (fun h2 => ?_) (fun h2 => ?_)
    · skip
      refine lv_iconst (v := 0) hx hb dX4_isLetter_16 (by decide) ?_
      exact er_zret hx hb hr hlk (by simp [ef_b, ew_let, h1, h2]) dX4_isLetter_17
    · skip
      refine lv_iconst (v := 1) hx hb dX4_isLetter_12 (by decide) ?_
      refine lv_goto (tgt := 17) hx hb dX4_isLetter_13 (by decide) ?_
      exact er_zret hx hb hr hlk (by simp [ef_b, ew_let, h1, h2]) dX4_isLetter_17

set_option maxHeartbeats 4000000 in
set_option maxRecDepth 100000 in
theorem k_X4_isMidOfBoth (l : Launch) (D : va_G) (cI cZ cJ : ClassId) (x : Int32) : er_M l yX4_isMidOfBoth (Cond.code yX4_isMidOfBoth cX4_isMidOfBoth 1 (some .boolean) :: eT) ({ frames := 0, cells := 0, slots := 0, locals := 0 }) D vwCl (eTy cI cZ cJ) [.int x] [] (.int (ef_b (ew_mb x))) := by
  refine er_of (cc := cX4_isMidOfBoth) (maxL := 1) (ret := (some .boolean)) (by decide) rfl (Nat.le_of_ble_eq_true rfl) ?_
  intro p e s m args below meth c ls hx hb hr hts hown hlk hml hP hK hl
  have hown : s.vm.findClass RX4 = some m.cls := hown
  have hl : lv_has ls 1 [(0, .int x)] := hl
  refine lv_iload_n hx hb dX4_isMidOfBoth_0 rfl (lv_at hl 0 rfl) ?_
  refine lv_bipush (v := 13) hx hb dX4_isMidOfBoth_1 (by decide) ?_
  refine lv_icmp_eq (tgt := 12) hx hb dX4_isMidOfBoth_3 (by decide) (fun h1 => ?_) (fun h1 => ?_)
  · skip
    refine lv_iconst (v := 1) hx hb dX4_isMidOfBoth_12 (by decide) ?_
    refine lv_goto (tgt := 17) hx hb dX4_isMidOfBoth_13 (by decide) ?_
    exact er_zret hx hb hr hlk (by simp [ef_b, ew_mb, h1]) dX4_isMidOfBoth_17
  · skip
    refine lv_iload_n hx hb dX4_isMidOfBoth_6 rfl (lv_at hl 0 rfl) ?_
    refine lv_bipush (v := 14) hx hb dX4_isMidOfBoth_7 (by decide) ?_
    refine lv_icmp_ne (tgt := 16) hx hb dX4_isMidOfBoth_9 (by decide) (fun h2 => ?_) (fun h2 => ?_)
    · skip
      refine lv_iconst (v := 0) hx hb dX4_isMidOfBoth_16 (by decide) ?_
      exact er_zret hx hb hr hlk (by simp [ef_b, ew_mb, h1, h2]) dX4_isMidOfBoth_17
    · skip
      refine lv_iconst (v := 1) hx hb dX4_isMidOfBoth_12 (by decide) ?_
      refine lv_goto (tgt := 17) hx hb dX4_isMidOfBoth_13 (by decide) ?_
      exact er_zret hx hb hr hlk (by simp [ef_b, ew_mb, h1, h2]) dX4_isMidOfBoth_17

set_option maxHeartbeats 4000000 in
set_option maxRecDepth 100000 in
theorem k_X4_isMidLetter (l : Launch) (D : va_G) (cI cZ cJ : ClassId) (x : Int32) : er_M l yX4_isMidLetter (Cond.code yX4_isMidLetter cX4_isMidLetter 1 (some .boolean) :: eT) ({ frames := 1, cells := 0, slots := 0, locals := 20 }) D vwCl (eTy cI cZ cJ) [.int x] [] (.int (ef_b (ew_ml x))) := by
  refine er_of (cc := cX4_isMidLetter) (maxL := 1) (ret := (some .boolean)) (by decide) rfl (Nat.le_of_ble_eq_true rfl) ?_
  intro p e s m args below meth c ls hx hb hr hts hown hlk hml hP hK hl
  have hown : s.vm.findClass RX4 = some m.cls := hown
  have hl : lv_has ls 1 [(0, .int x)] := hl
  refine lv_iload_n hx hb dX4_isMidLetter_0 rfl (lv_at hl 0 rfl) ?_
  refine lv_bipush (v := 11) hx hb dX4_isMidLetter_1 (by decide) ?_
  refine lv_icmp_eq (tgt := 13) hx hb dX4_isMidLetter_3 (by decide) (fun h1 => ?_) (fun h1 => ?_)
  · skip
    refine lv_iconst (v := 1) hx hb dX4_isMidLetter_13 (by decide) ?_
    refine lv_goto (tgt := 18) hx hb dX4_isMidLetter_14 (by decide) ?_
    exact er_zret hx hb hr hlk (by simp [ef_b, ew_ml, h1]) dX4_isMidLetter_18
  · skip
    refine lv_iload_n hx hb dX4_isMidLetter_6 rfl (lv_at hl 0 rfl) ?_
    refine er_S (own := RX4) (rest := []) hx hb hml hown hts hl.1 (k_X4_isMidOfBoth l D cI cZ cJ x) tw296 tw6 tw294 tw295 yd_X4_isMidOfBoth rfl rfl ⟨Nat.le_of_ble_eq_true rfl, Nat.le_of_ble_eq_true rfl⟩ er_nil hK rfl rfl (Nat.le_of_ble_eq_true rfl) ⟨Nat.zero_le _, Nat.zero_le _⟩ dX4_isMidLetter_7 ?_
    refine ef_if_eq (tgt := 17) hx hb dX4_isMidLetter_10 (by decide) (fun h2 => ?_) (fun h2 => ?_)
    · skip
      refine lv_iconst (v := 0) hx hb dX4_isMidLetter_17 (by decide) ?_
      exact er_zret hx hb hr hlk (by simp [ef_b, ew_ml, h1, h2]) dX4_isMidLetter_18
    · skip
      refine lv_iconst (v := 1) hx hb dX4_isMidLetter_13 (by decide) ?_
      refine lv_goto (tgt := 18) hx hb dX4_isMidLetter_14 (by decide) ?_
      exact er_zret hx hb hr hlk (by simp [ef_b, ew_ml, h1, h2]) dX4_isMidLetter_18

set_option maxHeartbeats 4000000 in
set_option maxRecDepth 100000 in
theorem k_X4_isMidNumber (l : Launch) (D : va_G) (cI cZ cJ : ClassId) (x : Int32) : er_M l yX4_isMidNumber (Cond.code yX4_isMidNumber cX4_isMidNumber 1 (some .boolean) :: eT) ({ frames := 1, cells := 0, slots := 0, locals := 20 }) D vwCl (eTy cI cZ cJ) [.int x] [] (.int (ef_b (ew_mn x))) := by
  refine er_of (cc := cX4_isMidNumber) (maxL := 1) (ret := (some .boolean)) (by decide) rfl (Nat.le_of_ble_eq_true rfl) ?_
  intro p e s m args below meth c ls hx hb hr hts hown hlk hml hP hK hl
  have hown : s.vm.findClass RX4 = some m.cls := hown
  have hl : lv_has ls 1 [(0, .int x)] := hl
  refine lv_iload_n hx hb dX4_isMidNumber_0 rfl (lv_at hl 0 rfl) ?_
  refine lv_bipush (v := 12) hx hb dX4_isMidNumber_1 (by decide) ?_
  refine lv_icmp_eq (tgt := 13) hx hb dX4_isMidNumber_3 (by decide) (fun h1 => ?_) (fun h1 => ?_)
  · skip
    refine lv_iconst (v := 1) hx hb dX4_isMidNumber_13 (by decide) ?_
    refine lv_goto (tgt := 18) hx hb dX4_isMidNumber_14 (by decide) ?_
    exact er_zret hx hb hr hlk (by simp [ef_b, ew_mn, h1]) dX4_isMidNumber_18
  · skip
    refine lv_iload_n hx hb dX4_isMidNumber_6 rfl (lv_at hl 0 rfl) ?_
    refine er_S (own := RX4) (rest := []) hx hb hml hown hts hl.1 (k_X4_isMidOfBoth l D cI cZ cJ x) tw296 tw6 tw294 tw295 yd_X4_isMidOfBoth rfl rfl ⟨Nat.le_of_ble_eq_true rfl, Nat.le_of_ble_eq_true rfl⟩ er_nil hK rfl rfl (Nat.le_of_ble_eq_true rfl) ⟨Nat.zero_le _, Nat.zero_le _⟩ dX4_isMidNumber_7 ?_
    refine ef_if_eq (tgt := 17) hx hb dX4_isMidNumber_10 (by decide) (fun h2 => ?_) (fun h2 => ?_)
    · skip
      refine lv_iconst (v := 0) hx hb dX4_isMidNumber_17 (by decide) ?_
      exact er_zret hx hb hr hlk (by simp [ef_b, ew_mn, h1, h2]) dX4_isMidNumber_18
    · skip
      refine lv_iconst (v := 1) hx hb dX4_isMidNumber_13 (by decide) ?_
      refine lv_goto (tgt := 18) hx hb dX4_isMidNumber_14 (by decide) ?_
      exact er_zret hx hb hr hlk (by simp [ef_b, ew_mn, h1, h2]) dX4_isMidNumber_18

set_option maxHeartbeats 4000000 in
set_option maxRecDepth 100000 in
theorem k_X4_isRunPart (l : Launch) (D : va_G) (cI cZ cJ : ClassId) (x : Int32) : er_M l yX4_isRunPart (Cond.code yX4_isRunPart cX4_isRunPart 1 (some .boolean) :: eT) ({ frames := 1, cells := 0, slots := 0, locals := 20 }) D vwCl (eTy cI cZ cJ) [.int x] [] (.int (ef_b (ew_rp x))) := by
  refine er_of (cc := cX4_isRunPart) (maxL := 1) (ret := (some .boolean)) (by decide) rfl (Nat.le_of_ble_eq_true rfl) ?_
  intro p e s m args below meth c ls hx hb hr hts hown hlk hml hP hK hl
  have hown : s.vm.findClass RX4 = some m.cls := hown
  have hl : lv_has ls 1 [(0, .int x)] := hl
  refine lv_iload_n hx hb dX4_isRunPart_0 rfl (lv_at hl 0 rfl) ?_
  refine er_S (own := RX4) (rest := []) hx hb hml hown hts hl.1 (k_X4_isLetter l D cI cZ cJ x) tw290 tw6 tw288 tw289 yd_X4_isLetter rfl rfl ⟨Nat.le_of_ble_eq_true rfl, Nat.le_of_ble_eq_true rfl⟩ er_nil hK rfl rfl (Nat.le_of_ble_eq_true rfl) ⟨Nat.zero_le _, Nat.zero_le _⟩ dX4_isRunPart_1 ?_
  refine ef_if_ne (tgt := 19) hx hb dX4_isRunPart_4 (by decide) (fun h1 => ?_) (fun h1 => ?_)
  · skip
    refine lv_iconst (v := 1) hx hb dX4_isRunPart_19 (by decide) ?_
    refine lv_goto (tgt := 24) hx hb dX4_isRunPart_20 (by decide) ?_
    exact er_zret hx hb hr hlk (by simp [ef_b, ew_rp, h1]) dX4_isRunPart_24
  · skip
    refine lv_iload_n hx hb dX4_isRunPart_7 rfl (lv_at hl 0 rfl) ?_
    refine lv_bipush (v := 16) hx hb dX4_isRunPart_8 (by decide) ?_
    refine lv_icmp_eq (tgt := 19) hx hb dX4_isRunPart_10 (by decide) (fun h2 => ?_) (fun h2 => ?_)
    · skip
      refine lv_iconst (v := 1) hx hb dX4_isRunPart_19 (by decide) ?_
      refine lv_goto (tgt := 24) hx hb dX4_isRunPart_20 (by decide) ?_
      exact er_zret hx hb hr hlk (by simp [ef_b, ew_rp, h1, h2]) dX4_isRunPart_24
    · skip
      refine lv_iload_n hx hb dX4_isRunPart_13 rfl (lv_at hl 0 rfl) ?_
      refine lv_bipush (v := 8) hx hb dX4_isRunPart_14 (by decide) ?_
      refine lv_icmp_ne (tgt := 23) hx hb dX4_isRunPart_16 (by decide) (fun h3 => ?_) (fun h3 => ?_)
      · skip
        refine lv_iconst (v := 0) hx hb dX4_isRunPart_23 (by decide) ?_
        exact er_zret hx hb hr hlk (by simp [ef_b, ew_rp, h1, h2, h3]) dX4_isRunPart_24
      · skip
        refine lv_iconst (v := 1) hx hb dX4_isRunPart_19 (by decide) ?_
        refine lv_goto (tgt := 24) hx hb dX4_isRunPart_20 (by decide) ?_
        exact er_zret hx hb hr hlk (by simp [ef_b, ew_rp, h1, h2, h3]) dX4_isRunPart_24

set_option maxHeartbeats 4000000 in
set_option maxRecDepth 100000 in
theorem k_X6_passed (l : Launch) (D : va_G) (cI cZ cJ : ClassId) (h0 : Nat) (x : Int32) : er_M l yX6_passed (Cond.code yX6_passed cX6_passed 2 (some .boolean) :: eT) ({ frames := 0, cells := 0, slots := 0, locals := 0 }) D vwCl (eTy cI cZ cJ) [.ref h0, .int x] [] (.int (ef_b (ew_at x))) := by
  refine er_of (cc := cX6_passed) (maxL := 2) (ret := (some .boolean)) (by decide) rfl (Nat.le_of_ble_eq_true rfl) ?_
  intro p e s m args below meth c ls hx hb hr hts hown hlk hml hP hK hl
  have hown : s.vm.findClass RX6 = some m.cls := hown
  have hl : lv_has ls 2 [(0, .ref h0), (1, .int x)] := hl
  refine lv_iload_n hx hb dX6_passed_0 rfl (lv_at hl 1 rfl) ?_
  refine lv_iconst (v := 4) hx hb dX6_passed_1 (by decide) ?_
  refine lv_icmp_eq (tgt := 16) hx hb dX6_passed_2 (by decide) (fun h1 => ?_) (fun h1 => ?_)
  · skip
    refine lv_iconst (v := 1) hx hb dX6_passed_16 (by decide) ?_
    refine lv_goto (tgt := 21) hx hb dX6_passed_17 (by decide) ?_
    exact er_zret hx hb hr hlk (by simp [ef_b, ew_at, h1]) dX6_passed_21
  · skip
    refine lv_iload_n hx hb dX6_passed_5 rfl (lv_at hl 1 rfl) ?_
    refine lv_iconst (v := 5) hx hb dX6_passed_6 (by decide) ?_
    refine lv_icmp_eq (tgt := 16) hx hb dX6_passed_7 (by decide) (fun h2 => ?_) (fun h2 => ?_)
    · skip
      refine lv_iconst (v := 1) hx hb dX6_passed_16 (by decide) ?_
      refine lv_goto (tgt := 21) hx hb dX6_passed_17 (by decide) ?_
      exact er_zret hx hb hr hlk (by simp [ef_b, ew_at, h1, h2]) dX6_passed_21
    · skip
      refine lv_iload_n hx hb dX6_passed_10 rfl (lv_at hl 1 rfl) ?_
      refine lv_bipush (v := 7) hx hb dX6_passed_11 (by decide) ?_
      refine lv_icmp_ne (tgt := 20) hx hb dX6_passed_13 (by decide) (fun h3 => ?_) (fun h3 => ?_)
      · skip
        refine lv_iconst (v := 0) hx hb dX6_passed_20 (by decide) ?_
        exact er_zret hx hb hr hlk (by simp [ef_b, ew_at, h1, h2, h3]) dX6_passed_21
      · skip
        refine lv_iconst (v := 1) hx hb dX6_passed_16 (by decide) ?_
        refine lv_goto (tgt := 21) hx hb dX6_passed_17 (by decide) ?_
        exact er_zret hx hb hr hlk (by simp [ef_b, ew_at, h1, h2, h3]) dX6_passed_21

set_option maxHeartbeats 4000000 in
set_option maxRecDepth 100000 in
theorem k_X6_letter (l : Launch) (D : va_G) (cI cZ cJ : ClassId) (h0 : Nat) (x : Int32) : er_M l yX6_letter (Cond.code yX6_letter cX6_letter 2 (some .boolean) :: eT) ({ frames := 0, cells := 0, slots := 0, locals := 0 }) D vwCl (eTy cI cZ cJ) [.ref h0, .int x] [] (.int (ef_b (ew_let x))) := by
  refine er_of (cc := cX6_letter) (maxL := 2) (ret := (some .boolean)) (by decide) rfl (Nat.le_of_ble_eq_true rfl) ?_
  intro p e s m args below meth c ls hx hb hr hts hown hlk hml hP hK hl
  have hown : s.vm.findClass RX6 = some m.cls := hown
  have hl : lv_has ls 2 [(0, .ref h0), (1, .int x)] := hl
  refine lv_iload_n hx hb dX6_letter_0 rfl (lv_at hl 1 rfl) ?_
  refine lv_bipush (v := 9) hx hb dX6_letter_1 (by decide) ?_
  refine lv_icmp_eq (tgt := 12) hx hb dX6_letter_3 (by decide) (fun h1 => ?_) (fun h1 => ?_)
  · skip
    refine lv_iconst (v := 1) hx hb dX6_letter_12 (by decide) ?_
    refine lv_goto (tgt := 17) hx hb dX6_letter_13 (by decide) ?_
    exact er_zret hx hb hr hlk (by simp [ef_b, ew_let, h1]) dX6_letter_17
  · skip
    refine lv_iload_n hx hb dX6_letter_6 rfl (lv_at hl 1 rfl) ?_
    refine lv_bipush (v := 10) hx hb dX6_letter_7 (by decide) ?_
    refine lv_icmp_ne (tgt := 16) hx hb dX6_letter_9 (by decide) (fun h2 => ?_) (fun h2 => ?_)
    · skip
      refine lv_iconst (v := 0) hx hb dX6_letter_16 (by decide) ?_
      exact er_zret hx hb hr hlk (by simp [ef_b, ew_let, h1, h2]) dX6_letter_17
    · skip
      refine lv_iconst (v := 1) hx hb dX6_letter_12 (by decide) ?_
      refine lv_goto (tgt := 17) hx hb dX6_letter_13 (by decide) ?_
      exact er_zret hx hb hr hlk (by simp [ef_b, ew_let, h1, h2]) dX6_letter_17

set_option maxHeartbeats 4000000 in
set_option maxRecDepth 100000 in
theorem k_X6_quote (l : Launch) (D : va_G) (cI cZ cJ : ClassId) (h0 : Nat) (x : Int32) : er_M l yX6_quote (Cond.code yX6_quote cX6_quote 2 (some .boolean) :: eT) ({ frames := 0, cells := 0, slots := 0, locals := 0 }) D vwCl (eTy cI cZ cJ) [.ref h0, .int x] [] (.int (ef_b (ew_mb x))) := by
  refine er_of (cc := cX6_quote) (maxL := 2) (ret := (some .boolean)) (by decide) rfl (Nat.le_of_ble_eq_true rfl) ?_
  intro p e s m args below meth c ls hx hb hr hts hown hlk hml hP hK hl
  have hown : s.vm.findClass RX6 = some m.cls := hown
  have hl : lv_has ls 2 [(0, .ref h0), (1, .int x)] := hl
  refine lv_iload_n hx hb dX6_quote_0 rfl (lv_at hl 1 rfl) ?_
  refine lv_bipush (v := 13) hx hb dX6_quote_1 (by decide) ?_
  refine lv_icmp_eq (tgt := 12) hx hb dX6_quote_3 (by decide) (fun h1 => ?_) (fun h1 => ?_)
  · skip
    refine lv_iconst (v := 1) hx hb dX6_quote_12 (by decide) ?_
    refine lv_goto (tgt := 17) hx hb dX6_quote_13 (by decide) ?_
    exact er_zret hx hb hr hlk (by simp [ef_b, ew_mb, h1]) dX6_quote_17
  · skip
    refine lv_iload_n hx hb dX6_quote_6 rfl (lv_at hl 1 rfl) ?_
    refine lv_bipush (v := 14) hx hb dX6_quote_7 (by decide) ?_
    refine lv_icmp_ne (tgt := 16) hx hb dX6_quote_9 (by decide) (fun h2 => ?_) (fun h2 => ?_)
    · skip
      refine lv_iconst (v := 0) hx hb dX6_quote_16 (by decide) ?_
      exact er_zret hx hb hr hlk (by simp [ef_b, ew_mb, h1, h2]) dX6_quote_17
    · skip
      refine lv_iconst (v := 1) hx hb dX6_quote_12 (by decide) ?_
      refine lv_goto (tgt := 17) hx hb dX6_quote_13 (by decide) ?_
      exact er_zret hx hb hr hlk (by simp [ef_b, ew_mb, h1, h2]) dX6_quote_17
