/-! The two sides' rules are one. -/
theorem ei_ff (c x : Bool) : (if c = true then false else x) = (!c && x) := by cases c <;> rfl
theorem ei_ft (c x : Bool) : (if c = true then true else x) = (c || x) := by cases c <;> rfl
theorem ei_n {x k : Int32} (h : ¬ x = k) : (x == k) = false := by simp [h]
theorem ei_let {x : Int32} (h : ew_let x = true) : x = 10 ∨ x = 9 := by simpa [ew_let] using h
theorem ei_let_ml {x : Int32} (h : ew_let x = true) : ew_ml x = false := by rcases ei_let h with rfl | rfl <;> decide
theorem ei_let_mn {x : Int32} (h : ew_let x = true) : ew_mn x = false := by rcases ei_let h with rfl | rfl <;> decide
theorem em_jl (a aa b bb : Int32) : ((ew_let a && ew_let b) || ((ew_let a && (b == 11 || ew_mb b) && ew_let bb) || (ew_let aa && (a == 11 || ew_mb a) && ew_let b))) = ew_jl a aa b bb := by
  show ((ew_let a && ew_let b) || ((ew_let a && ew_ml b && ew_let bb) || (ew_let aa && ew_ml a && ew_let b))) = _
  unfold ew_jl
  cases h : ew_let a with
  | false => simp
  | true => simp [ei_let_ml h]
theorem em_jh (a aa b bb : Int32) : ((a == 9 && b == 14) || ((a == 9 && b == 15 && bb == 9) || (aa == 9 && a == 15 && b == 9))) = ew_jh a aa b bb := by
  unfold ew_jh
  by_cases h : a = 9
  · subst h
    simp
  · simp [ei_n h, h]
theorem em_jn (a aa b bb : Int32) : (((a == 16 && b == 16) || (ew_let a && b == 16) || (a == 16 && ew_let b)) || ((aa == 16 && (a == 12 || ew_mb a) && b == 16) || (a == 16 && (b == 12 || ew_mb b) && bb == 16))) = ew_jn a aa b bb := by
  show (((a == 16 && b == 16) || (ew_let a && b == 16) || (a == 16 && ew_let b)) || ((aa == 16 && ew_mn a && b == 16) || (a == 16 && ew_mn b && bb == 16))) = _
  unfold ew_jn
  by_cases h : a = 16
  · subst h
    have h1 : ew_let 16 = false := by decide
    have h2 : ew_mn 16 = false := by decide
    simp [h1, h2]
  · cases h3 : ew_let a with
    | true => simp [h, ei_n h, ei_let_mn h3]
    | false => simp [h, ei_n h]
theorem em_jr (a b : Int32) : ((a == 8 && b == 8) || (((ew_rp a || a == 17) && b == 17) || (a == 17 && ew_rp b))) = ew_jr a b := by
  unfold ew_jr
  by_cases h : b = 17
  · subst h
    have h1 : ew_rp 17 = false := by decide
    simp [h1]
  · by_cases h2 : a = 17
    · subst h2
      simp [h]
    · simp [h, h2]
theorem em_wd_eq {raw b a aa bb : Int32} {pi od : Bool} (h : od = true → a = 6) : em_wd raw b a aa bb pi od = ew_part raw a aa od b bb pi := by
  have h6 : (a == 6 && b == 6 && od) = (od && b == 6) := by
    cases od with
    | false => simp
    | true => simp [h rfl]
  unfold em_wd ew_part
  rw [h6, ← em_jl, ← em_jh, ← em_jn, ← em_jr]
  simp only [ei_ff, ei_ft]
  simp only [Bool.not_or, Bool.and_true, Bool.and_assoc, Bool.or_assoc]
/-- the reference's list of rules for a grapheme's boundary -/
def em_cl (a b : Int32) (pi od ap : Bool) : Bool :=
  if a == 1 && b == 2 then false
  else if ew_le a || ew_le b then true
  else if a == 9 && (b == 9 || b == 10 || b == 12 || b == 13) then false
  else if (a == 12 || a == 10) && (b == 10 || b == 11) then false
  else if (a == 13 || a == 11) && b == 11 then false
  else if b == 4 || b == 5 || b == 8 || a == 7 then false
  else if a == 5 && pi && ap then false
  else if a == 6 && b == 6 && od then false
  else true
theorem em_syl (a b : Int32) : ((a == 9 && (b == 9 || b == 10 || b == 12 || b == 13)) || (((a == 12 || a == 10) && (b == 10 || b == 11)) || ((a == 13 || a == 11) && b == 11))) = eg_syl a b := by
  unfold eg_syl
  by_cases h9 : a = 9
  · subst h9; simp
  · by_cases h10 : a = 10
    · subst h10; simp
    · by_cases h12 : a = 12
      · subst h12; simp
      · by_cases h11 : a = 11
        · subst h11; simp
        · by_cases h13 : a = 13
          · subst h13; simp
          · simp [h9, h10, h11, h12, h13]
theorem em_cl_eq {a b : Int32} {pi od ap : Bool} (h : od = true → a = 6) : em_cl a b pi od ap = eg_part a od (ap && a == 5) b pi := by
  have h6 : (a == 6 && b == 6 && od) = (od && b == 6) := by
    cases od with
    | false => simp
    | true => simp [h rfl]
  have h5 : (a == 5 && pi && ap) = (ap && a == 5 && pi) := by
    cases (a == 5) <;> cases pi <;> cases ap <;> rfl
  unfold em_cl eg_part
  rw [h6, h5, ← em_syl]
  simp only [ei_ff, ei_ft]
  simp only [Bool.not_or, Bool.and_true, Bool.and_assoc, Bool.or_assoc]
/-- the reference's answers, in the machine's words -/
theorem em_cluster (g : Nat → Int32) (P : Nat → Bool) (k : Nat) : eg_part (eg_bf g (k + 1)) (eg_od g (k + 1)) (eg_aj g P (k + 1)) (g (k + 1)) (P (k + 1)) = em_cl (g k) (g (k + 1)) (P (k + 1)) (eg_od g (k + 1)) (eg_ap g P k) :=
  (em_cl_eq (a := g k) (b := g (k + 1)) (pi := P (k + 1)) (od := eg_od g (k + 1)) (ap := eg_ap g P k) eg_od6).symm
theorem em_word {w : Nat → Int32} (hw : ∀ j, w j ≠ -1) (P : Nat → Bool) (n k : Nat) : ew_part (eg_bf w (k + 1)) (ew_l w (k + 1)) (ew_k w (k + 1)) (ew_od w (k + 1)) (w (k + 1)) (ew_ah w n (k + 1)) (P (k + 1)) =
    em_wd (w k) (w (k + 1)) (w (em_ct w k)) (em_pk w (em_ct w k)) (ew_ah w n (k + 1)) (P (k + 1)) (ew_od w (k + 1)) := by
  rw [← em_k hw k, ← em_l hw k]
  exact (em_wd_eq (em_od6 hw)).symm
-- one pass
def ef_fl (gm M : Nat → Bool) (i : Nat) : Nat → Bool := fun j => if j < i then M j else gm j
theorem ef_fl_0 (gm M : Nat → Bool) : ef_fl gm M 0 = gm := by
  funext j
  simp [ef_fl]
theorem ef_fl_s (gm M : Nat → Bool) (i : Nat) : ef_up (ef_fl gm M i) i (M i) = ef_fl gm M (i + 1) := by
  funext j
  by_cases h : j = i
  · subst h
    simp [ef_up, ef_fl]
  · by_cases h2 : j < i
    · have h3 : j < i + 1 := by omega
      simp [ef_up, ef_fl, h, h2, h3]
    · have h3 : ¬ j < i + 1 := by omega
      simp [ef_up, ef_fl, h, h2, h3]
def eg_M (g : Nat → Int32) (P : Nat → Bool) (j : Nat) : Bool := decide (j = 0) || eg_part (eg_bf g j) (eg_od g j) (eg_aj g P j) (g j) (P j)
def ew_M (w : Nat → Int32) (P : Nat → Bool) (n j : Nat) : Bool := decide (j = 0) || ew_part (eg_bf w j) (ew_l w j) (ew_k w j) (ew_od w j) (w j) (ew_ah w n j) (P j)
theorem eg_fin (gm : Nat → Bool) (g : Nat → Int32) (P : Nat → Bool) (n : Nat) : ∀ j, j ≤ n → ef_up (ef_fl gm (eg_M g P) n) n (decide (0 < n)) j = eb_g g P n j := by
  intro j hj
  by_cases h : j = n
  · subst h
    by_cases h0 : j = 0
    · subst h0; simp [ef_up, eb_g]
    · have h1 : 0 < j := by omega
      simp [ef_up, eb_g, h0, h1]
  · have h1 : j < n := by omega
    have h2 : ¬ n = 0 := by omega
    by_cases h0 : j = 0
    · subst h0; simp [ef_up, ef_fl, eg_M, eb_g, h, h1, h2]
    · simp [ef_up, ef_fl, eg_M, eb_g, h, h1, h2, h0]
theorem ew_fin (gm : Nat → Bool) (w : Nat → Int32) (P : Nat → Bool) (n : Nat) : ∀ j, j ≤ n → ef_up (ef_fl gm (ew_M w P n) n) n (decide (0 < n)) j = eb_w w P n j := by
  intro j hj
  by_cases h : j = n
  · subst h
    by_cases h0 : j = 0
    · subst h0; simp [ef_up, eb_w]
    · have h1 : 0 < j := by omega
      simp [ef_up, eb_w, h0, h1]
  · have h1 : j < n := by omega
    have h2 : ¬ n = 0 := by omega
    by_cases h0 : j = 0
    · subst h0; simp [ef_up, ef_fl, ew_M, eb_w, h, h1, h2]
    · simp [ef_up, ef_fl, ew_M, eb_w, h, h1, h2, h0]
