/-! The questions of both kinds, fresh or stale, in one. -/
def eI (n : Nat) (g w : Nat → Int32) (P gm wm : Nat → Bool) (gs wz : Bool) : Prop := (gs = false → ∀ j, j ≤ n → gm j = eb_g g P n j) ∧ (wz = false → ∀ j, j ≤ n → wm j = eb_w w P n j)
def eF (ad : Nat → Nat) (cI cZ cJ : ClassId) (n : Nat) (g w : Nat → Int32) (P : Nat → Bool) (fa : Int32) (mn : Nat) (mg mw : Nat → Int32) (mP : Nat → Bool) (o : Nat → Int64) : Option Value → va_W → Prop := fun v W1 =>
  v = some (.int 0) ∧ ∃ (gm wm : Nat → Bool) (gs wz : Bool) (gb : Int32) (go gp gj : Bool) (wb wl wk : Int32) (wo : Bool), eI n g w P gm wm gs wz ∧ W1 = cw ad cI cZ cJ n g w P gm wm gs wz gb go gp gj wb wl wk wo fa mn mg mw mP o
theorem eb_kg {kd : Int32} (h : kd = 0) (g w : Nat → Int32) (P : Nat → Bool) (n : Nat) : eb_k kd g w P n = eb_g g P n := by simp [eb_k, h]
theorem eb_kw {kd : Int32} (h : ¬ kd = 0) (g w : Nat → Int32) (P : Nat → Bool) (n : Nat) : eb_k kd g w P n = eb_w w P n := by simp [eb_k, h]
def es_nx (M : Nat → Bool) (n i : Nat) (b : Bool) : Int32 := if b = true then es_lb M i else es_fb M (n - i) (i + 1)
set_option maxHeartbeats 4000000 in
theorem h_edge (l : Launch) (D : va_G) (cI cZ cJ : ClassId) (ad : Nat → Nat) (hJ : eJ ad) (b0 : Nat) (n : Nat) (g : Nat → Int32) (w : Nat → Int32) (P : Nat → Bool) (gm : Nat → Bool) (wm : Nat → Bool) (gs : Bool) (wz : Bool) (gb : Int32) (go : Bool) (gp : Bool) (gj : Bool) (wb : Int32) (wl : Int32) (wk : Int32) (wo : Bool) (fa : Int32) (mn : Nat) (mg : Nat → Int32) (mw : Nat → Int32) (mP : Nat → Bool) (o : Nat → Int64) (kd : Int32) (i : Nat) (hI : eI n g w P gm wm gs wz) (hk1 : ei_ok kd 1) (hn : n ≤ 1000) (hi : i ≤ n) : eh_M l yL_edge (Cond.codeWith yL_edge cL_edge 5 (some .int) [(0, 17, 20, 13)] :: eT) ({ frames := 8, cells := 1, slots := 6, locals := 154 }) D (eTy cI cZ cJ) [.ref (ad 0), .int kd, .int (nI i), .ref (ad 15)] (cw ad cI cZ cJ n g w P gm wm gs wz gb go gp gj wb wl wk wo fa mn mg mw mP o) b0 (eF ad cI cZ cJ n g w P fa mn mg mw mP (vp_updL o 0 (ef_l (eb_k kd g w P n i)))) (eA ad) := by
  by_cases hk : kd = 0
  · rw [eb_kg hk]
    cases gs with
    | true => exact eh_mono (h_edge_gt l D cI cZ cJ ad hJ b0 n g w P gm wm wz gb go gp gj wb wl wk wo fa mn mg mw mP o kd i hk1 hk hn hi) (fun v W1 h => by obtain ⟨rfl, rfl⟩ := h; exact ⟨rfl, _, _, _, _, _, _, _, _, _, _, _, _, ⟨fun _ => eg_fin gm g P n, hI.2⟩, rfl⟩)
    | false => exact eh_mono (h_edge_gf l D cI cZ cJ ad hJ b0 n g w P gm wm wz gb go gp gj wb wl wk wo fa mn mg mw mP o kd i hk1 hk hn (hI.1 rfl) hi) (fun v W1 h => by obtain ⟨rfl, rfl⟩ := h; exact ⟨rfl, _, _, _, _, _, _, _, _, _, _, _, _, hI, rfl⟩)
  · rw [eb_kw hk]
    cases wz with
    | true => exact eh_mono (h_edge_wt l D cI cZ cJ ad hJ b0 n g w P gm wm gs gb go gp gj wb wl wk wo fa mn mg mw mP o kd i hk1 hk hn hi) (fun v W1 h => by obtain ⟨rfl, rfl⟩ := h; exact ⟨rfl, _, _, _, _, _, _, _, _, _, _, _, _, ⟨hI.1, fun _ => ew_fin wm w P n⟩, rfl⟩)
    | false => exact eh_mono (h_edge_wf l D cI cZ cJ ad hJ b0 n g w P gm wm gs gb go gp gj wb wl wk wo fa mn mg mw mP o kd i hk1 hk hn (hI.2 rfl) hi) (fun v W1 h => by obtain ⟨rfl, rfl⟩ := h; exact ⟨rfl, _, _, _, _, _, _, _, _, _, _, _, _, hI, rfl⟩)

set_option maxHeartbeats 4000000 in
theorem h_rank (l : Launch) (D : va_G) (cI cZ cJ : ClassId) (ad : Nat → Nat) (hJ : eJ ad) (b0 : Nat) (n : Nat) (g : Nat → Int32) (w : Nat → Int32) (P : Nat → Bool) (gm : Nat → Bool) (wm : Nat → Bool) (gs : Bool) (wz : Bool) (gb : Int32) (go : Bool) (gp : Bool) (gj : Bool) (wb : Int32) (wl : Int32) (wk : Int32) (wo : Bool) (fa : Int32) (mn : Nat) (mg : Nat → Int32) (mw : Nat → Int32) (mP : Nat → Bool) (o : Nat → Int64) (kd : Int32) (i : Nat) (hI : eI n g w P gm wm gs wz) (hk1 : ei_ok kd 1) (hn : n ≤ 1000) (hi : i ≤ n) : eh_M l yL_rank (Cond.codeWith yL_rank cL_rank 5 (some .int) [(0, 10, 13, 13)] :: eT) ({ frames := 8, cells := 1, slots := 6, locals := 154 }) D (eTy cI cZ cJ) [.ref (ad 0), .int kd, .int (nI i), .ref (ad 15)] (cw ad cI cZ cJ n g w P gm wm gs wz gb go gp gj wb wl wk wo fa mn mg mw mP o) b0 (eF ad cI cZ cJ n g w P fa mn mg mw mP (vp_updL o 0 ((nI (es_cu (eb_k kd g w P n) (i + 1))).toInt64))) (eA ad) := by
  by_cases hk : kd = 0
  · rw [eb_kg hk]
    cases gs with
    | true => exact eh_mono (h_rank_gt l D cI cZ cJ ad hJ b0 n g w P gm wm wz gb go gp gj wb wl wk wo fa mn mg mw mP o kd i hk1 hk hn hi) (fun v W1 h => by obtain ⟨rfl, rfl⟩ := h; exact ⟨rfl, _, _, _, _, _, _, _, _, _, _, _, _, ⟨fun _ => eg_fin gm g P n, hI.2⟩, rfl⟩)
    | false => exact eh_mono (h_rank_gf l D cI cZ cJ ad hJ b0 n g w P gm wm wz gb go gp gj wb wl wk wo fa mn mg mw mP o kd i hk1 hk hn (hI.1 rfl) hi) (fun v W1 h => by obtain ⟨rfl, rfl⟩ := h; exact ⟨rfl, _, _, _, _, _, _, _, _, _, _, _, _, hI, rfl⟩)
  · rw [eb_kw hk]
    cases wz with
    | true => exact eh_mono (h_rank_wt l D cI cZ cJ ad hJ b0 n g w P gm wm gs gb go gp gj wb wl wk wo fa mn mg mw mP o kd i hk1 hk hn hi) (fun v W1 h => by obtain ⟨rfl, rfl⟩ := h; exact ⟨rfl, _, _, _, _, _, _, _, _, _, _, _, _, ⟨hI.1, fun _ => ew_fin wm w P n⟩, rfl⟩)
    | false => exact eh_mono (h_rank_wf l D cI cZ cJ ad hJ b0 n g w P gm wm gs gb go gp gj wb wl wk wo fa mn mg mw mP o kd i hk1 hk hn (hI.2 rfl) hi) (fun v W1 h => by obtain ⟨rfl, rfl⟩ := h; exact ⟨rfl, _, _, _, _, _, _, _, _, _, _, _, _, hI, rfl⟩)

set_option maxHeartbeats 4000000 in
theorem h_hash (l : Launch) (D : va_G) (cI cZ cJ : ClassId) (ad : Nat → Nat) (hJ : eJ ad) (b0 : Nat) (n : Nat) (g : Nat → Int32) (w : Nat → Int32) (P : Nat → Bool) (gm : Nat → Bool) (wm : Nat → Bool) (gs : Bool) (wz : Bool) (gb : Int32) (go : Bool) (gp : Bool) (gj : Bool) (wb : Int32) (wl : Int32) (wk : Int32) (wo : Bool) (fa : Int32) (mn : Nat) (mg : Nat → Int32) (mw : Nat → Int32) (mP : Nat → Bool) (o : Nat → Int64) (kd : Int32) (hI : eI n g w P gm wm gs wz) (hk1 : ei_ok kd 1) (hn : n ≤ 1000) : eh_M l yL_hash (Cond.codeWith yL_hash cL_hash 4 (some .int) [(0, 9, 12, 13)] :: eT) ({ frames := 8, cells := 1, slots := 6, locals := 154 }) D (eTy cI cZ cJ) [.ref (ad 0), .int kd, .ref (ad 15)] (cw ad cI cZ cJ n g w P gm wm gs wz gb go gp gj wb wl wk wo fa mn mg mw mP o) b0 (eF ad cI cZ cJ n g w P fa mn mg mw mP (vp_updL o 0 ((es_mx (eb_k kd g w P n) (n + 1)).toInt64))) (eA ad) := by
  by_cases hk : kd = 0
  · rw [eb_kg hk]
    cases gs with
    | true => exact eh_mono (h_hash_gt l D cI cZ cJ ad hJ b0 n g w P gm wm wz gb go gp gj wb wl wk wo fa mn mg mw mP o kd hk1 hk hn) (fun v W1 h => by obtain ⟨rfl, rfl⟩ := h; exact ⟨rfl, _, _, _, _, _, _, _, _, _, _, _, _, ⟨fun _ => eg_fin gm g P n, hI.2⟩, rfl⟩)
    | false => exact eh_mono (h_hash_gf l D cI cZ cJ ad hJ b0 n g w P gm wm wz gb go gp gj wb wl wk wo fa mn mg mw mP o kd hk1 hk hn (hI.1 rfl)) (fun v W1 h => by obtain ⟨rfl, rfl⟩ := h; exact ⟨rfl, _, _, _, _, _, _, _, _, _, _, _, _, hI, rfl⟩)
  · rw [eb_kw hk]
    cases wz with
    | true => exact eh_mono (h_hash_wt l D cI cZ cJ ad hJ b0 n g w P gm wm gs gb go gp gj wb wl wk wo fa mn mg mw mP o kd hk1 hk hn) (fun v W1 h => by obtain ⟨rfl, rfl⟩ := h; exact ⟨rfl, _, _, _, _, _, _, _, _, _, _, _, _, ⟨hI.1, fun _ => ew_fin wm w P n⟩, rfl⟩)
    | false => exact eh_mono (h_hash_wf l D cI cZ cJ ad hJ b0 n g w P gm wm gs gb go gp gj wb wl wk wo fa mn mg mw mP o kd hk1 hk hn (hI.2 rfl)) (fun v W1 h => by obtain ⟨rfl, rfl⟩ := h; exact ⟨rfl, _, _, _, _, _, _, _, _, _, _, _, _, hI, rfl⟩)

set_option maxHeartbeats 4000000 in
theorem h_next_t (l : Launch) (D : va_G) (cI cZ cJ : ClassId) (ad : Nat → Nat) (hJ : eJ ad) (b0 : Nat) (n : Nat) (g : Nat → Int32) (w : Nat → Int32) (P : Nat → Bool) (gm : Nat → Bool) (wm : Nat → Bool) (gs : Bool) (wz : Bool) (gb : Int32) (go : Bool) (gp : Bool) (gj : Bool) (wb : Int32) (wl : Int32) (wk : Int32) (wo : Bool) (fa : Int32) (mn : Nat) (mg : Nat → Int32) (mw : Nat → Int32) (mP : Nat → Bool) (o : Nat → Int64) (kd : Int32) (i : Nat) (hI : eI n g w P gm wm gs wz) (hk1 : ei_ok kd 1) (hn : n ≤ 1000) (hi : i ≤ n) : eh_M l yL_next (Cond.codeWith yL_next cL_next 6 (some .int) [(0, 12, 15, 13)] :: eT) ({ frames := 8, cells := 1, slots := 6, locals := 154 }) D (eTy cI cZ cJ) [.ref (ad 0), .int kd, .int (nI i), .int (ef_b true), .ref (ad 15)] (cw ad cI cZ cJ n g w P gm wm gs wz gb go gp gj wb wl wk wo fa mn mg mw mP o) b0 (eF ad cI cZ cJ n g w P fa mn mg mw mP (vp_updL o 0 ((es_lb (eb_k kd g w P n) i).toInt64))) (eA ad) := by
  by_cases hk : kd = 0
  · rw [eb_kg hk]
    cases gs with
    | true => exact eh_mono (h_next_gtt l D cI cZ cJ ad hJ b0 n g w P gm wm wz gb go gp gj wb wl wk wo fa mn mg mw mP o kd i hk1 hk hn hi) (fun v W1 h => by obtain ⟨rfl, rfl⟩ := h; exact ⟨rfl, _, _, _, _, _, _, _, _, _, _, _, _, ⟨fun _ => eg_fin gm g P n, hI.2⟩, rfl⟩)
    | false => exact eh_mono (h_next_gft l D cI cZ cJ ad hJ b0 n g w P gm wm wz gb go gp gj wb wl wk wo fa mn mg mw mP o kd i hk1 hk hn (hI.1 rfl) hi) (fun v W1 h => by obtain ⟨rfl, rfl⟩ := h; exact ⟨rfl, _, _, _, _, _, _, _, _, _, _, _, _, hI, rfl⟩)
  · rw [eb_kw hk]
    cases wz with
    | true => exact eh_mono (h_next_wtt l D cI cZ cJ ad hJ b0 n g w P gm wm gs gb go gp gj wb wl wk wo fa mn mg mw mP o kd i hk1 hk hn hi) (fun v W1 h => by obtain ⟨rfl, rfl⟩ := h; exact ⟨rfl, _, _, _, _, _, _, _, _, _, _, _, _, ⟨hI.1, fun _ => ew_fin wm w P n⟩, rfl⟩)
    | false => exact eh_mono (h_next_wft l D cI cZ cJ ad hJ b0 n g w P gm wm gs gb go gp gj wb wl wk wo fa mn mg mw mP o kd i hk1 hk hn (hI.2 rfl) hi) (fun v W1 h => by obtain ⟨rfl, rfl⟩ := h; exact ⟨rfl, _, _, _, _, _, _, _, _, _, _, _, _, hI, rfl⟩)

set_option maxHeartbeats 4000000 in
theorem h_next_f (l : Launch) (D : va_G) (cI cZ cJ : ClassId) (ad : Nat → Nat) (hJ : eJ ad) (b0 : Nat) (n : Nat) (g : Nat → Int32) (w : Nat → Int32) (P : Nat → Bool) (gm : Nat → Bool) (wm : Nat → Bool) (gs : Bool) (wz : Bool) (gb : Int32) (go : Bool) (gp : Bool) (gj : Bool) (wb : Int32) (wl : Int32) (wk : Int32) (wo : Bool) (fa : Int32) (mn : Nat) (mg : Nat → Int32) (mw : Nat → Int32) (mP : Nat → Bool) (o : Nat → Int64) (kd : Int32) (i : Nat) (hI : eI n g w P gm wm gs wz) (hk1 : ei_ok kd 1) (hn : n ≤ 1000) (hi : i ≤ n) : eh_M l yL_next (Cond.codeWith yL_next cL_next 6 (some .int) [(0, 12, 15, 13)] :: eT) ({ frames := 8, cells := 1, slots := 6, locals := 154 }) D (eTy cI cZ cJ) [.ref (ad 0), .int kd, .int (nI i), .int (ef_b false), .ref (ad 15)] (cw ad cI cZ cJ n g w P gm wm gs wz gb go gp gj wb wl wk wo fa mn mg mw mP o) b0 (eF ad cI cZ cJ n g w P fa mn mg mw mP (vp_updL o 0 ((es_fb (eb_k kd g w P n) (n - i) (i + 1)).toInt64))) (eA ad) := by
  by_cases hk : kd = 0
  · rw [eb_kg hk]
    cases gs with
    | true => exact eh_mono (h_next_gtf l D cI cZ cJ ad hJ b0 n g w P gm wm wz gb go gp gj wb wl wk wo fa mn mg mw mP o kd i hk1 hk hn hi) (fun v W1 h => by obtain ⟨rfl, rfl⟩ := h; exact ⟨rfl, _, _, _, _, _, _, _, _, _, _, _, _, ⟨fun _ => eg_fin gm g P n, hI.2⟩, rfl⟩)
    | false => exact eh_mono (h_next_gff l D cI cZ cJ ad hJ b0 n g w P gm wm wz gb go gp gj wb wl wk wo fa mn mg mw mP o kd i hk1 hk hn (hI.1 rfl) hi) (fun v W1 h => by obtain ⟨rfl, rfl⟩ := h; exact ⟨rfl, _, _, _, _, _, _, _, _, _, _, _, _, hI, rfl⟩)
  · rw [eb_kw hk]
    cases wz with
    | true => exact eh_mono (h_next_wtf l D cI cZ cJ ad hJ b0 n g w P gm wm gs gb go gp gj wb wl wk wo fa mn mg mw mP o kd i hk1 hk hn hi) (fun v W1 h => by obtain ⟨rfl, rfl⟩ := h; exact ⟨rfl, _, _, _, _, _, _, _, _, _, _, _, _, ⟨hI.1, fun _ => ew_fin wm w P n⟩, rfl⟩)
    | false => exact eh_mono (h_next_wff l D cI cZ cJ ad hJ b0 n g w P gm wm gs gb go gp gj wb wl wk wo fa mn mg mw mP o kd i hk1 hk hn (hI.2 rfl) hi) (fun v W1 h => by obtain ⟨rfl, rfl⟩ := h; exact ⟨rfl, _, _, _, _, _, _, _, _, _, _, _, _, hI, rfl⟩)
