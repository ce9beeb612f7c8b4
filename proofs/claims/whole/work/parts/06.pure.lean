/-! The pure part: what a boundary is, as both sides reckon it, over plain functions. -/
def ef_b (b : Bool) : Int32 := if b then 1 else 0
theorem ef_bt : ef_b true = 1 := rfl
theorem ef_bf : ef_b false = 0 := rfl
theorem ef_b0 {b : Bool} : ef_b b = 0 ↔ b = false := by cases b <;> decide
theorem ef_b1 {b : Bool} : ¬ ef_b b = 0 ↔ b = true := by cases b <;> decide
theorem ef_nar (b : Bool) : narrow .boolean (.int (ef_b b)) = .int (ef_b b) := by cases b <;> rfl
theorem ef_fit (b : Bool) : fits .boolean (.int (ef_b b)) = true := by cases b <;> rfl
theorem ef_vnar (b : Bool) : vp_nar .boolean (ef_b b) = ef_b b := by cases b <;> rfl
def ef_up (P : Nat → Bool) (k : Nat) (b : Bool) : Nat → Bool := fun j => if j = k then b else P j
theorem ef_upd (P : Nat → Bool) (k : Nat) (b : Bool) : upd (fun j => ef_b (P j)) k (vp_nar .boolean (ef_b b)) = fun j => ef_b (ef_up P k b j) := by
  funext j
  by_cases h : j = k
  · subst h
    simp [upd, ef_up, ef_vnar]
  · simp [upd, ef_up, h]
theorem ef_up_s {P : Nat → Bool} {k : Nat} {b : Bool} : ef_up P k b k = b := by simp [ef_up]
theorem ef_up_n {P : Nat → Bool} {k j : Nat} {b : Bool} (h : j ≠ k) : ef_up P k b j = P j := by simp [ef_up, h]
-- graphemes
def ew_le (x : Int32) : Bool := x == 1 || x == 2 || x == 3
def eg_syl (b h : Int32) : Bool :=
  if b = 9 then (h == 9 || h == 10 || h == 12 || h == 13)
  else if b = 10 ∨ b = 12 then (h == 10 || h == 11)
  else if b = 11 ∨ b = 13 then h == 11 else false
def eg_part (bf : Int32) (od aj : Bool) (h : Int32) (pi : Bool) : Bool :=
  if bf == 1 && h == 2 then false
  else if ew_le bf || ew_le h then true
  else !(eg_syl bf h || h == 4 || h == 5 || h == 8 || bf == 7 || (aj && pi) || (od && h == 6))
def eg_bf (g : Nat → Int32) : Nat → Int32
  | 0 => -1
  | k + 1 => g k
def eg_od (g : Nat → Int32) : Nat → Bool
  | 0 => false
  | k + 1 => g k == 6 && !eg_od g k
def eg_ap (g : Nat → Int32) (P : Nat → Bool) : Nat → Bool
  | 0 => false
  | k + 1 => P k || (eg_ap g P k && g k == 4)
def eg_aj (g : Nat → Int32) (P : Nat → Bool) : Nat → Bool
  | 0 => false
  | k + 1 => eg_ap g P k && g k == 5
-- words
def ew_at (x : Int32) : Bool := x == 4 || x == 7 || x == 5
def ew_let (x : Int32) : Bool := x == 10 || x == 9
def ew_mb (x : Int32) : Bool := x == 13 || x == 14
def ew_ml (x : Int32) : Bool := x == 11 || ew_mb x
def ew_mn (x : Int32) : Bool := x == 12 || ew_mb x
def ew_rp (x : Int32) : Bool := ew_let x || x == 16 || x == 8
def ew_jl (l k h a : Int32) : Bool := if ew_let l then (ew_let h || (ew_ml h && ew_let a)) else (ew_let k && ew_ml l && ew_let h)
def ew_jh (l k h a : Int32) : Bool := if l = 9 then (h == 14 || (h == 15 && a == 9)) else (k == 9 && l == 15 && h == 9)
def ew_jn (l k h a : Int32) : Bool := if l = 16 then (h == 16 || ew_let h || (ew_mn h && a == 16)) else if ew_let l then h == 16 else (k == 16 && ew_mn l && h == 16)
def ew_jr (l h : Int32) : Bool := if h = 17 then (ew_rp l || l == 17) else if l = 17 then ew_rp h else (l == 8 && h == 8)
def ew_part (bf l k : Int32) (od : Bool) (h a : Int32) (pi : Bool) : Bool :=
  if bf == 1 && h == 2 then false
  else if ew_le bf || ew_le h then true
  else if (bf == 5 && pi) || (bf == 18 && h == 18) || ew_at h then false
  else !(ew_jl l k h a || ew_jh l k h a || ew_jn l k h a || ew_jr l h || (od && h == 6))
/-- place k counts -/
def ew_ct (w : Nat → Int32) (k : Nat) : Bool := !ew_at (w k) || eg_bf w k == -1 || ew_le (eg_bf w k)
def ew_l (w : Nat → Int32) : Nat → Int32
  | 0 => -1
  | k + 1 => if ew_ct w k then w k else ew_l w k
def ew_k (w : Nat → Int32) : Nat → Int32
  | 0 => -1
  | k + 1 => if ew_ct w k then ew_l w k else ew_k w k
def ew_od (w : Nat → Int32) : Nat → Bool
  | 0 => false
  | k + 1 => if ew_ct w k then (w k == 6 && !ew_od w k) else ew_od w k
/-- the class of the first place that counts, of r places from k on -/
def ew_ahF (w : Nat → Int32) : Nat → Nat → Int32
  | 0, _ => -1
  | r + 1, k => if ew_at (w k) then ew_ahF w r (k + 1) else w k
def ew_ah (w : Nat → Int32) (n i : Nat) : Int32 := ew_ahF w (n - (i + 1)) (i + 1)
-- boundaries
def eb_g (g : Nat → Int32) (P : Nat → Bool) (n i : Nat) : Bool :=
  if n = 0 then false else if i = 0 ∨ i = n then true else eg_part (eg_bf g i) (eg_od g i) (eg_aj g P i) (g i) (P i)
def eb_w (w : Nat → Int32) (P : Nat → Bool) (n i : Nat) : Bool :=
  if n = 0 then false else if i = 0 ∨ i = n then true else ew_part (eg_bf w i) (ew_l w i) (ew_k w i) (ew_od w i) (w i) (ew_ah w n i) (P i)
def eb_k (kd : Int32) (g w : Nat → Int32) (P : Nat → Bool) (n : Nat) : Nat → Bool := if kd = 0 then eb_g g P n else eb_w w P n
-- what is asked of a row of marks
def es_fb (M : Nat → Bool) : Nat → Nat → Int32
  | 0, _ => -1
  | r + 1, k => if M k then nI k else es_fb M r (k + 1)
def es_lb (M : Nat → Bool) : Nat → Int32
  | 0 => -1
  | k + 1 => if M k then nI k else es_lb M k
def es_cu (M : Nat → Bool) : Nat → Nat
  | 0 => 0
  | k + 1 => es_cu M k + (if M k then 1 else 0)
def es_mx (M : Nat → Bool) : Nat → Int32
  | 0 => 1
  | k + 1 => if M k then 31 * es_mx M k + nI k else es_mx M k
theorem es_fb_c {M N : Nat → Bool} {n : Nat} (h : ∀ j, j ≤ n → M j = N j) : ∀ r k : Nat, k + r ≤ n + 1 → es_fb M r k = es_fb N r k
  | 0, _, _ => rfl
  | r + 1, k, hk => by
    simp only [es_fb]
    rw [h k (by omega), es_fb_c h r (k + 1) (by omega)]
theorem es_lb_c {M N : Nat → Bool} {n : Nat} (h : ∀ j, j ≤ n → M j = N j) : ∀ k : Nat, k ≤ n + 1 → es_lb M k = es_lb N k
  | 0, _ => rfl
  | k + 1, hk => by
    simp only [es_lb]
    rw [h k (by omega), es_lb_c h k (by omega)]
theorem es_cu_c {M N : Nat → Bool} {n : Nat} (h : ∀ j, j ≤ n → M j = N j) : ∀ k : Nat, k ≤ n + 1 → es_cu M k = es_cu N k
  | 0, _ => rfl
  | k + 1, hk => by
    simp only [es_cu]
    rw [h k (by omega), es_cu_c h k (by omega)]
theorem es_mx_c {M N : Nat → Bool} {n : Nat} (h : ∀ j, j ≤ n → M j = N j) : ∀ k : Nat, k ≤ n + 1 → es_mx M k = es_mx N k
  | 0, _ => rfl
  | k + 1, hk => by
    simp only [es_mx]
    rw [h k (by omega), es_mx_c h k (by omega)]
theorem es_cu_le (M : Nat → Bool) : ∀ k : Nat, es_cu M k ≤ k
  | 0 => Nat.le_refl _
  | k + 1 => by
    have := es_cu_le M k
    simp only [es_cu]
    split <;> omega
-- small numbers
theorem ei_13 {x : Int32} : (1 ≤ x ∧ x ≤ 3) ↔ (x = 1 ∨ x = 2 ∨ x = 3) := by
  constructor
  · rintro ⟨h1, h2⟩
    rw [Int32.le_iff_toInt_le] at h1 h2
    have e1 : (1 : Int32).toInt = 1 := by decide
    have e2 : (2 : Int32).toInt = 2 := by decide
    have e3 : (3 : Int32).toInt = 3 := by decide
    rw [e1] at h1
    rw [e3] at h2
    rcases (show x.toInt = 1 ∨ x.toInt = 2 ∨ x.toInt = 3 by omega) with h | h | h
    · exact Or.inl (Int32.toInt_inj.mp (h.trans e1.symm))
    · exact Or.inr (Or.inl (Int32.toInt_inj.mp (h.trans e2.symm)))
    · exact Or.inr (Or.inr (Int32.toInt_inj.mp (h.trans e3.symm)))
  · rintro (rfl | rfl | rfl) <;> decide
theorem ew_le_t {x : Int32} (h1 : 1 ≤ x) (h2 : x ≤ 3) : ew_le x = true := by
  rcases ei_13.mp ⟨h1, h2⟩ with rfl | rfl | rfl <;> decide
theorem ew_le_f1 {x : Int32} (h1 : ¬ 1 ≤ x) : ew_le x = false := by
  cases h : ew_le x with
  | false => rfl
  | true =>
    simp only [ew_le, Bool.or_eq_true, beq_iff_eq] at h
    exact absurd (ei_13.mpr (by rcases h with (h | h) | h <;> simp [h])).1 h1
theorem ew_le_f2 {x : Int32} (h1 : ¬ x ≤ 3) : ew_le x = false := by
  cases h : ew_le x with
  | false => rfl
  | true =>
    simp only [ew_le, Bool.or_eq_true, beq_iff_eq] at h
    exact absurd (ei_13.mpr (by rcases h with (h | h) | h <;> simp [h])).2 h1
-- the words' machine against the reference's way back
def em_ct (w : Nat → Int32) : Nat → Nat
  | 0 => 0
  | k + 1 => if ew_at (w (k + 1)) && !ew_le (w k) then em_ct w k else k + 1
theorem em_ct_le (w : Nat → Int32) : ∀ k : Nat, em_ct w k ≤ k
  | 0 => Nat.le_refl _
  | k + 1 => by
    have := em_ct_le w k
    simp only [em_ct]
    split <;> omega
theorem ew_ct_0 (w : Nat → Int32) : ew_ct w 0 = true := by simp [ew_ct, eg_bf]
theorem ew_ct_s {w : Nat → Int32} (hw : ∀ j, w j ≠ -1) (k : Nat) : ew_ct w (k + 1) = !(ew_at (w (k + 1)) && !ew_le (w k)) := by
  have h : (w k == -1) = false := by simp [hw k]
  simp only [ew_ct, eg_bf, h, Bool.or_false]
  cases ew_at (w (k + 1)) <;> cases ew_le (w k) <;> rfl
theorem em_ct_s {w : Nat → Int32} (hw : ∀ j, w j ≠ -1) (k : Nat) : em_ct w (k + 1) = if ew_ct w (k + 1) then k + 1 else em_ct w k := by
  simp only [em_ct, ew_ct_s hw k]
  cases (ew_at (w (k + 1)) && !ew_le (w k)) <;> rfl
theorem em_l {w : Nat → Int32} (hw : ∀ j, w j ≠ -1) : ∀ k : Nat, ew_l w (k + 1) = w (em_ct w k)
  | 0 => by simp [ew_l, ew_ct_0, em_ct]
  | k + 1 => by
    have ih := em_l hw k
    rw [em_ct_s hw k]
    rw [show ew_l w (k + 1 + 1) = if ew_ct w (k + 1) then w (k + 1) else ew_l w (k + 1) from rfl, ih]
    cases ew_ct w (k + 1) <;> rfl
/-- the class of the place that counts ahead of place j, if j counts -/
def em_pk (w : Nat → Int32) (j : Nat) : Int32 := if j = 0 then -1 else w (em_ct w (j - 1))
theorem em_k {w : Nat → Int32} (hw : ∀ j, w j ≠ -1) : ∀ k : Nat, ew_k w (k + 1) = em_pk w (em_ct w k)
  | 0 => by simp [ew_k, ew_ct_0, em_ct, em_pk, ew_l]
  | k + 1 => by
    have ih := em_k hw k
    rw [em_ct_s hw k]
    rw [show ew_k w (k + 1 + 1) = if ew_ct w (k + 1) then ew_l w (k + 1) else ew_k w (k + 1) from rfl, ih, em_l hw k]
    cases ew_ct w (k + 1) with
    | false => rfl
    | true => simp [em_pk]
theorem em_od {w : Nat → Int32} (hw : ∀ j, w j ≠ -1) : ∀ k : Nat, ew_od w (k + 1) = ew_od w (em_ct w k + 1)
  | 0 => rfl
  | k + 1 => by
    have ih := em_od hw k
    rw [em_ct_s hw k]
    cases h : ew_ct w (k + 1) with
    | true => rfl
    | false =>
      rw [show ew_od w (k + 1 + 1) = if ew_ct w (k + 1) then (w (k + 1) == 6 && !ew_od w (k + 1)) else ew_od w (k + 1) from rfl, h]
      exact ih
theorem em_cc {w : Nat → Int32} (hw : ∀ j, w j ≠ -1) : ∀ k : Nat, ew_ct w (em_ct w k) = true
  | 0 => by simp [em_ct, ew_ct_0]
  | k + 1 => by
    rw [em_ct_s hw k]
    cases h : ew_ct w (k + 1) with
    | true => simpa using h
    | false => simpa using em_cc hw k
/-- at a place that counts: the run of indicators -/
theorem em_od_c {w : Nat → Int32} {k : Nat} (hc : ew_ct w k = true) : ew_od w (k + 1) = (w k == 6 && !ew_od w k) := by
  rw [show ew_od w (k + 1) = if ew_ct w k then (w k == 6 && !ew_od w k) else ew_od w k from rfl, hc]
  rfl
theorem em_od6 {w : Nat → Int32} (hw : ∀ j, w j ≠ -1) {k : Nat} (h : ew_od w (k + 1) = true) : ew_l w (k + 1) = 6 := by
  rw [em_od hw k, em_od_c (em_cc hw k)] at h
  simp only [Bool.and_eq_true, beq_iff_eq] at h
  rw [em_l hw k]
  exact h.1
theorem eg_od6 {g : Nat → Int32} {k : Nat} (h : eg_od g (k + 1) = true) : g k = 6 := by
  simp only [eg_od, Bool.and_eq_true, beq_iff_eq] at h
  exact h.1
/-- the reference's way ahead -/
def em_af (w : Nat → Int32) : Nat → Nat → Nat
  | 0, k => k
  | r + 1, k => if ew_at (w k) then em_af w r (k + 1) else k
theorem em_af_le (w : Nat → Int32) : ∀ r k : Nat, k ≤ em_af w r k ∧ em_af w r k ≤ k + r
  | 0, k => by simp [em_af]
  | r + 1, k => by
    have := em_af_le w r (k + 1)
    simp only [em_af]
    split <;> omega
theorem em_ah (w : Nat → Int32) : ∀ r k : Nat, ew_ahF w r k = if em_af w r k < k + r then w (em_af w r k) else -1
  | 0, k => by simp [ew_ahF, em_af]
  | r + 1, k => by
    have ih := em_ah w r (k + 1)
    simp only [ew_ahF, em_af]
    by_cases h : ew_at (w k) = true
    · simp only [h, if_true]
      rw [ih]
      simp only [show k + 1 + r = k + (r + 1) by omega]
    · have h2 : k < k + (r + 1) := by omega
      simp [h, h2]
/-- the reference's list of rules for a word's boundary -/
def em_wd (raw b a aa bb : Int32) (pi od : Bool) : Bool :=
  if raw == 1 && b == 2 then false else if ew_le raw || ew_le b then true
  else if raw == 5 && pi then false
  else if (raw == 18 && b == 18) || ew_at b then false
  else if ew_let a && ew_let b then false
  else if ew_let a && (b == 11 || ew_mb b) && ew_let bb then false
  else if ew_let aa && (a == 11 || ew_mb a) && ew_let b then false
  else if a == 9 && b == 14 then false
  else if a == 9 && b == 15 && bb == 9 then false
  else if aa == 9 && a == 15 && b == 9 then false
  else if (a == 16 && b == 16) || (ew_let a && b == 16) || (a == 16 && ew_let b) then false
  else if aa == 16 && (a == 12 || ew_mb a) && b == 16 then false
  else if a == 16 && (b == 12 || ew_mb b) && bb == 16 then false
  else if a == 8 && b == 8 then false
  else if ((ew_rp a || a == 17) && b == 17) || (a == 17 && ew_rp b) then false
  else if a == 6 && b == 6 && od then false
  else true
