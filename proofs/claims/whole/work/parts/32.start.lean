/-! From the entry to the loop. -/
theorem eo_J {A : Nat → Prop} {ad : Nat → Nat} {ws : va_W} (hD : va_D A ws) (hm : ws.map (·.1) = (List.range 16).map ad) : eJ ad ∧ ∀ q, eA ad q → A q := by
  have key : ∀ k, k < 16 → ∃ e : va_E, ws[k]? = some (ad k, e) := by
    intro k hk
    have h1 : (ws.map (·.1))[k]? = some (ad k) := by
      rw [hm, List.getElem?_map, List.getElem?_range hk]
      rfl
    rw [List.getElem?_map] at h1
    cases h : ws[k]? with
    | none => rw [h] at h1; cases h1
    | some q =>
      rw [h] at h1
      obtain ⟨a, e⟩ := q
      have h2 : a = ad k := Option.some.inj h1
      subst h2
      exact ⟨e, rfl⟩
  refine ⟨fun i j hi hj h => ?_, fun q hq => ?_⟩
  · obtain ⟨e1, h1⟩ := key i hi
    obtain ⟨e2, h2⟩ := key j hj
    exact hD.1 i j _ _ h1 h2 h
  · obtain ⟨k, hk, h⟩ := hq
    obtain ⟨e1, h1⟩ := key k hk
    rw [h]
    exact hD.2 k _ h1
theorem eo_K {s : State} {c0 c1 c2 c3 c4 c5 : ClassId} {i0 i1 i2 i3 i4 i5 : Nat → Nat} {tys : List (ClassId × FieldType)} (k0 : u_Kn s RX0 TX0 3 c0 i0) (k1 : u_Kn s RX1 TX1 4 c1 i1) (k2 : u_Kn s RX2 TX2 4 c2 i2) (k3 : u_Kn s RX4 TX4 4 c3 i3) (k4 : u_Kn s RX5 TX5 3 c4 i4) (k5 : u_Kn s RX6 TX6 5 c5 i5) (ht : ∀ (k : Nat) (q : ClassId × FieldType), tys[k]? = some q → ArrOfT s q.1 q.2 ∧ va_RA s q.1 q.2) : ∃ D : va_G, va_K D vwCl tys s := by
  refine ⟨((fun c => match c with | 0 => c0 | 1 => c1 | 2 => c2 | 3 => c3 | 4 => c4 | _ => c5), (fun c => match c with | 0 => i0 | 1 => i1 | 2 => i2 | 3 => i3 | 4 => i4 | _ => i5)), fun c q hq => ?_, ht⟩
  have hlt : c < 6 := (List.getElem?_eq_some_iff.mp hq).1
  rcases c with _ | _ | _ | _ | _ | _ | c
  · cases hq; exact k0
  · cases hq; exact k1
  · cases hq; exact k2
  · cases hq; exact k3
  · cases hq; exact k4
  · cases hq; exact k5
  · omega
theorem eo_A {s : State} {args : Array Value} {ty : FieldType} (h : (Cond.arrayClass ty).before args s = true) : ∃ cA : ClassId, ArrOfT s cA ty ∧ s.vm.findClass ("[" ++ ty.toString) = some cA := by
  obtain ⟨cA, kA, comp, h1, h2, h3⟩ := Cond.arrayClass_spec h
  exact ⟨cA, fun n z => ⟨fun k h => (by cases h), kA, h2, comp, h3⟩, h1⟩
set_option maxHeartbeats 4000000 in
set_option maxRecDepth 100000 in
theorem whole_start {p : Program} {e : Env} {s : State} {m : MethodId} {below : List Frame} {meth : Method} {c : Code} (l : Launch) (hl0 : l.stackTraces = false) {b L : Nat} {xs : Nat → Int32} (hL : L ≤ 2560) (C0 : lw_At p s m meth c b L xs) : W p l e room_1 s m #[Value.ref b] below meth c s.heap [] 0 0 (lw_Z below #[Value.ref b] s) (entryFrame m ([Value.ref b] : List Value).toArray 7) := by
  obtain ⟨hx, hb, hret, hml, hown, hts, hX, hbl, hlk, hgv⟩ := C0
  have hb : c.code = cL_law := hb
  have hown : s.vm.findClass RL = some m.cls := hown
  have hte : ∀ w ∈ eT, w.before #[Value.ref b] s = true := fun w h => hts w (List.mem_filter.mp h).1
  have hfl := flat_of_before _ hgv
  obtain ⟨c0, i0, k0⟩ := u_known hte inX0 (hte _ tw50)
  obtain ⟨c1, i1, k1⟩ := u_known hte inX1 (hte _ tw52)
  obtain ⟨c2, i2, k2⟩ := u_known hte inX2 (hte _ tw22)
  obtain ⟨c3, i3, k3⟩ := u_known hte inX4 (hte _ tw90)
  obtain ⟨c4, i4, k4⟩ := u_known hte inX5 (hte _ tw14)
  obtain ⟨c5, i5, k5⟩ := u_known hte inX6 (hte _ tw362)
  obtain ⟨cI, aI, fI⟩ := eo_A (hte _ tw47)
  obtain ⟨cZ, aZ, fZ⟩ := eo_A (hte _ tw48)
  obtain ⟨cJ, aJ, fJ⟩ := eo_A (hte _ tw467)
  obtain ⟨D, hK⟩ := eo_K (tys := eTy cI cZ cJ) k0 k1 k2 k3 k4 k5 (fun k q hq => by
    have hlt : k < 3 := (List.getElem?_eq_some_iff.mp hq).1
    rcases k with _ | _ | _ | k
    · cases hq; exact ⟨aI, fI⟩
    · cases hq; exact ⟨aZ, fZ⟩
    · cases hq; exact ⟨aJ, fJ⟩
    · omega)
  have hN : eN s := ⟨va_Nw.of rfl (hts _ (List.mem_append_right _ (List.mem_of_getElem? (i := 251) (by decide +kernel)))), va_Nw.of rfl (hts _ (List.mem_append_right _ (List.mem_of_getElem? (i := 260) (by decide +kernel)))), va_Nw.of rfl (hts _ (List.mem_append_right _ (List.mem_of_getElem? (i := 316) (by decide +kernel))))⟩
  have hC : eC s := ⟨va_Nw.of rfl (hts _ (List.mem_append_right _ (List.mem_of_getElem? (i := 23) (by decide +kernel)))), va_Nw.of rfl (hts _ (List.mem_append_right _ (List.mem_of_getElem? (i := 53) (by decide +kernel)))), va_Nw.of rfl (hts _ (List.mem_append_right _ (List.mem_of_getElem? (i := 56) (by decide +kernel)))), va_Nw.of rfl (hts _ (List.mem_append_right _ (List.mem_of_getElem? (i := 91) (by decide +kernel)))), va_Nw.of rfl (hts _ (List.mem_append_right _ (List.mem_of_getElem? (i := 94) (by decide +kernel))))⟩
  have hZ0 : eZ s.heap.size s s.heap := by
    obtain ⟨_, _, _, a, _, _, _, _, _, h9⟩ := Cond.stringRef_spec (first := s) (o := none) (idx := []) k4.2.1 (hts (Cond.stringRef RX5 80 "a number is out of range") (List.mem_append_right _ (List.mem_of_getElem? (i := 170) (by decide +kernel))))
    exact ⟨⟨va_Nw.of rfl (hts _ (List.mem_append_right _ (List.mem_of_getElem? (i := 134) (by decide +kernel)))), va_Nw.of rfl (hts _ (List.mem_append_right _ (List.mem_of_getElem? (i := 136) (by decide +kernel)))), va_Nw.of rfl (hts _ (List.mem_append_right _ (List.mem_of_getElem? (i := 138) (by decide +kernel)))), va_Nw.of rfl (hts _ (List.mem_append_right _ (List.mem_of_getElem? (i := 132) (by decide +kernel))))⟩, ⟨a, vk_R.of (hts _ (List.mem_append_right _ (List.mem_of_getElem? (i := 170) (by decide +kernel)))) h9⟩, vx_Zqof (hts _ (List.mem_append_right _ (List.mem_of_getElem? (i := 157) (by decide +kernel)))) (hts _ (List.mem_append_right _ (List.mem_of_getElem? (i := 8) (by decide +kernel)))) (hfl _ (by decide +kernel)) (fun a h => Nat.not_le.mpr h), vx_Zqof (hts _ (List.mem_append_right _ (List.mem_of_getElem? (i := 159) (by decide +kernel)))) (hts _ (List.mem_append_right _ (List.mem_of_getElem? (i := 8) (by decide +kernel)))) (hfl _ (by decide +kernel)) (fun a h => Nat.not_le.mpr h)⟩
  have hA0 : ∀ q : Nat, s.heap.size ≤ q → (fun q => s.heap.size ≤ q) q := fun q h => h
  generalize hAe : (fun q : Nat => s.heap.size ≤ q) = A at hA0
  have hP : va_P D vwCl [] s.heap := fun k q h => absurd h (by simp)
  have hD : va_D A [] := ⟨fun i j p q h => absurd h (by simp), fun k q h => absurd h (by simp)⟩
  have hS : va_S A s.heap s.heap [] := va_S.rf
  have hl := lv_entry ([.ref b]) (n := 7) (Nat.le_of_ble_eq_true rfl)
  rw [lg_entry_eq]
  generalize (lg_sl ([.ref b]) ++ List.replicate (7 - (lg_sl ([.ref b])).length) Slot.unset).toArray = ls at hl ⊢
  have hl : lv_has ls 7 [(0, .ref b)] := hl
  refine va_new (ci := 4) (fs := [.null, .null, .null]) (C := RX5) (T := TX5) (N := 3) hx hb hte inX5 tyX5 tyX5_ok hown (hte _ tw13) (hte _ tw14) (hte _ tw1) hK hP hD hS hA0 rfl (by intro j hj; match j, hj with | 0, _ => rfl | 1, _ => rfl | 2, _ => rfl) (Nat.le_of_ble_eq_true rfl) (Nat.le_of_ble_eq_true rfl) dL_law_0 (fun q0 H hP hD hS => ?_)
  have hP : va_P D vwCl [(q0, .inr (4, [.null, .null, .null]))] H := hP
  have hD : va_D A [(q0, .inr (4, [.null, .null, .null]))] := hD
  refine lv_dup hx hb dL_law_3 rfl ?_
  have hPc := hP.sub (ws' := [(q0, .inr (4, [.null, .null, .null]))]) [0] rfl
  have hFc := va_free (wc := [(q0, .inr (4, [.null, .null, .null]))]) hD hS hA0 [0] rfl
  refine en_I (own := RL) (b := q0) (av := []) (rest := [.ref q0]) hx hb hml hown hte (fun w h => h) hl.1 (n_X5_init l D cI cZ cJ q0 H.size) tw17 tw1 tw15 tw16 rfl yd_X5_init rfl rfl ⟨Nat.le_of_ble_eq_true rfl, Nat.le_of_ble_eq_true rfl⟩ hPc hK hC rfl rfl (Nat.le_of_ble_eq_true rfl) ⟨Nat.le_of_ble_eq_true rfl, Nat.le_of_ble_eq_true rfl⟩ hS hFc dL_law_4 (fun H1 locs hB hS hz1 hk1 => ?_)
  obtain ⟨W9, ⟨a0, a1, a2, a3, a4, a5, a6, a7, a8, a9, rfl⟩, hP1, hD1⟩ := hB
  obtain ⟨hP, hD⟩ := va_join (wr := []) (w1 := [(q0, .inr (4, [.ref a0, .ref a4, .ref a7])), (a0, .inr (2, [.ref a1, .ref a2, .ref a3, .int 0])), (a1, .inl (cI, 1000, .inl (fun _ => 0))), (a2, .inl (cI, 1000, .inl (fun _ => 0))), (a3, .inl (cZ, 1000, .inl (fun _ => 0))), (a5, .inr (1, [.int (-1), .int 0, .int 0, .int 0])), (a4, .inr (0, [.ref a6, .int 1, .ref a5])), (a6, .inl (cZ, 1001, .inl (fun _ => 0))), (a8, .inr (3, [.int (-1), .int (-1), .int (-1), .int 0])), (a7, .inr (0, [.ref a9, .int 1, .ref a8])), (a9, .inl (cZ, 1001, .inl (fun _ => 0)))]) hP hD [0] [] rfl rfl (by decide) (by decide) hk1 hFc hP1 hD1
  clear hPc hFc hP1 hD1 hk1 hz1
  generalize H1 = H at hP hS ⊢
  refine W.widen (k := 11) (n := 5023) (Nat.le_of_ble_eq_true rfl) (Nat.le_of_ble_eq_true rfl) ?_
  have hP : va_P D vwCl [(q0, .inr (4, [.ref a0, .ref a4, .ref a7])), (a0, .inr (2, [.ref a1, .ref a2, .ref a3, .int 0])), (a1, .inl (cI, 1000, .inl (fun _ => 0))), (a2, .inl (cI, 1000, .inl (fun _ => 0))), (a3, .inl (cZ, 1000, .inl (fun _ => 0))), (a5, .inr (1, [.int (-1), .int 0, .int 0, .int 0])), (a4, .inr (0, [.ref a6, .int 1, .ref a5])), (a6, .inl (cZ, 1001, .inl (fun _ => 0))), (a8, .inr (3, [.int (-1), .int (-1), .int (-1), .int 0])), (a7, .inr (0, [.ref a9, .int 1, .ref a8])), (a9, .inl (cZ, 1001, .inl (fun _ => 0)))] H := hP
  have hD : va_D A [(q0, .inr (4, [.ref a0, .ref a4, .ref a7])), (a0, .inr (2, [.ref a1, .ref a2, .ref a3, .int 0])), (a1, .inl (cI, 1000, .inl (fun _ => 0))), (a2, .inl (cI, 1000, .inl (fun _ => 0))), (a3, .inl (cZ, 1000, .inl (fun _ => 0))), (a5, .inr (1, [.int (-1), .int 0, .int 0, .int 0])), (a4, .inr (0, [.ref a6, .int 1, .ref a5])), (a6, .inl (cZ, 1001, .inl (fun _ => 0))), (a8, .inr (3, [.int (-1), .int (-1), .int (-1), .int 0])), (a7, .inr (0, [.ref a9, .int 1, .ref a8])), (a9, .inl (cZ, 1001, .inl (fun _ => 0)))] := hD
  refine lv_astore_n (lv' := [(1, .ref q0), (0, .ref b)]) hx hb dL_law_7 rfl hl (Nat.le_of_ble_eq_true rfl) rfl (fun ls hl => ?_)
  refine va_new (ci := 5) (fs := [.int 0, .int 0, .null, .null, .null]) (C := RX6) (T := TX6) (N := 5) hx hb hte inX6 tyX6 tyX6_ok hown (hte _ tw361) (hte _ tw362) (hte _ tw7) hK hP hD hS hA0 rfl (by intro j hj; match j, hj with | 0, _ => rfl | 1, _ => rfl | 2, _ => rfl | 3, _ => rfl | 4, _ => rfl) (Nat.le_of_ble_eq_true rfl) (Nat.le_of_ble_eq_true rfl) dL_law_8 (fun q8 H hP hD hS => ?_)
  have hP : va_P D vwCl [(q0, .inr (4, [.ref a0, .ref a4, .ref a7])), (a0, .inr (2, [.ref a1, .ref a2, .ref a3, .int 0])), (a1, .inl (cI, 1000, .inl (fun _ => 0))), (a2, .inl (cI, 1000, .inl (fun _ => 0))), (a3, .inl (cZ, 1000, .inl (fun _ => 0))), (a5, .inr (1, [.int (-1), .int 0, .int 0, .int 0])), (a4, .inr (0, [.ref a6, .int 1, .ref a5])), (a6, .inl (cZ, 1001, .inl (fun _ => 0))), (a8, .inr (3, [.int (-1), .int (-1), .int (-1), .int 0])), (a7, .inr (0, [.ref a9, .int 1, .ref a8])), (a9, .inl (cZ, 1001, .inl (fun _ => 0))), (q8, .inr (5, [.int 0, .int 0, .null, .null, .null]))] H := hP
  have hD : va_D A [(q0, .inr (4, [.ref a0, .ref a4, .ref a7])), (a0, .inr (2, [.ref a1, .ref a2, .ref a3, .int 0])), (a1, .inl (cI, 1000, .inl (fun _ => 0))), (a2, .inl (cI, 1000, .inl (fun _ => 0))), (a3, .inl (cZ, 1000, .inl (fun _ => 0))), (a5, .inr (1, [.int (-1), .int 0, .int 0, .int 0])), (a4, .inr (0, [.ref a6, .int 1, .ref a5])), (a6, .inl (cZ, 1001, .inl (fun _ => 0))), (a8, .inr (3, [.int (-1), .int (-1), .int (-1), .int 0])), (a7, .inr (0, [.ref a9, .int 1, .ref a8])), (a9, .inl (cZ, 1001, .inl (fun _ => 0))), (q8, .inr (5, [.int 0, .int 0, .null, .null, .null]))] := hD
  refine lv_dup hx hb dL_law_11 rfl ?_
  have hPc := hP.sub (ws' := [(q8, .inr (5, [.int 0, .int 0, .null, .null, .null]))]) [11] rfl
  have hFc := va_free (wc := [(q8, .inr (5, [.int 0, .int 0, .null, .null, .null]))]) hD hS hA0 [11] rfl
  refine en_I (own := RL) (b := q8) (av := []) (rest := [.ref q8]) hx hb hml hown hte (fun w h => h) hl.1 (n_X6_init l D cI cZ cJ q8 H.size) tw365 tw7 tw363 tw364 rfl yd_X6_init rfl rfl ⟨Nat.le_of_ble_eq_true rfl, Nat.le_of_ble_eq_true rfl⟩ hPc hK hC rfl rfl (Nat.le_of_ble_eq_true rfl) ⟨Nat.le_of_ble_eq_true rfl, Nat.le_of_ble_eq_true rfl⟩ hS hFc dL_law_12 (fun H1 locs hB hS hz1 hk1 => ?_)
  obtain ⟨W9, ⟨r0, r1, r2, rfl⟩, hP1, hD1⟩ := hB
  obtain ⟨hP, hD⟩ := va_join (wr := [(q0, .inr (4, [.ref a0, .ref a4, .ref a7])), (a0, .inr (2, [.ref a1, .ref a2, .ref a3, .int 0])), (a1, .inl (cI, 1000, .inl (fun _ => 0))), (a2, .inl (cI, 1000, .inl (fun _ => 0))), (a3, .inl (cZ, 1000, .inl (fun _ => 0))), (a5, .inr (1, [.int (-1), .int 0, .int 0, .int 0])), (a4, .inr (0, [.ref a6, .int 1, .ref a5])), (a6, .inl (cZ, 1001, .inl (fun _ => 0))), (a8, .inr (3, [.int (-1), .int (-1), .int (-1), .int 0])), (a7, .inr (0, [.ref a9, .int 1, .ref a8])), (a9, .inl (cZ, 1001, .inl (fun _ => 0)))]) (w1 := [(q8, .inr (5, [.int 0, .int 0, .ref r0, .ref r1, .ref r2])), (r0, .inl (cI, 1000, .inl (fun _ => 0))), (r1, .inl (cI, 1000, .inl (fun _ => 0))), (r2, .inl (cZ, 1000, .inl (fun _ => 0)))]) hP hD [11] [0, 1, 2, 3, 4, 5, 6, 7, 8, 9, 10] rfl rfl (by decide) (by decide) hk1 hFc hP1 hD1
  clear hPc hFc hP1 hD1 hk1 hz1
  generalize H1 = H at hP hS ⊢
  refine W.widen (k := 15) (n := 8028) (Nat.le_of_ble_eq_true rfl) (Nat.le_of_ble_eq_true rfl) ?_
  have hP : va_P D vwCl [(q0, .inr (4, [.ref a0, .ref a4, .ref a7])), (a0, .inr (2, [.ref a1, .ref a2, .ref a3, .int 0])), (a1, .inl (cI, 1000, .inl (fun _ => 0))), (a2, .inl (cI, 1000, .inl (fun _ => 0))), (a3, .inl (cZ, 1000, .inl (fun _ => 0))), (a5, .inr (1, [.int (-1), .int 0, .int 0, .int 0])), (a4, .inr (0, [.ref a6, .int 1, .ref a5])), (a6, .inl (cZ, 1001, .inl (fun _ => 0))), (a8, .inr (3, [.int (-1), .int (-1), .int (-1), .int 0])), (a7, .inr (0, [.ref a9, .int 1, .ref a8])), (a9, .inl (cZ, 1001, .inl (fun _ => 0))), (q8, .inr (5, [.int 0, .int 0, .ref r0, .ref r1, .ref r2])), (r0, .inl (cI, 1000, .inl (fun _ => 0))), (r1, .inl (cI, 1000, .inl (fun _ => 0))), (r2, .inl (cZ, 1000, .inl (fun _ => 0)))] H := hP
  have hD : va_D A [(q0, .inr (4, [.ref a0, .ref a4, .ref a7])), (a0, .inr (2, [.ref a1, .ref a2, .ref a3, .int 0])), (a1, .inl (cI, 1000, .inl (fun _ => 0))), (a2, .inl (cI, 1000, .inl (fun _ => 0))), (a3, .inl (cZ, 1000, .inl (fun _ => 0))), (a5, .inr (1, [.int (-1), .int 0, .int 0, .int 0])), (a4, .inr (0, [.ref a6, .int 1, .ref a5])), (a6, .inl (cZ, 1001, .inl (fun _ => 0))), (a8, .inr (3, [.int (-1), .int (-1), .int (-1), .int 0])), (a7, .inr (0, [.ref a9, .int 1, .ref a8])), (a9, .inl (cZ, 1001, .inl (fun _ => 0))), (q8, .inr (5, [.int 0, .int 0, .ref r0, .ref r1, .ref r2])), (r0, .inl (cI, 1000, .inl (fun _ => 0))), (r1, .inl (cI, 1000, .inl (fun _ => 0))), (r2, .inl (cZ, 1000, .inl (fun _ => 0)))] := hD
  refine lv_astore_n (lv' := [(2, .ref q8), (1, .ref q0), (0, .ref b)]) hx hb dL_law_15 rfl hl (Nat.le_of_ble_eq_true rfl) rfl (fun ls hl => ?_)
  refine lv_iconst (v := 1) hx hb dL_law_16 (by decide) ?_
  refine va_newa (atype := .long) (a0 := (1, .inr (.inl (fun _ => 0)))) (ty := .long) (N' := 1) hx hb (hte _ tw467) rfl hK hP hD hS hA0 (fun _ => rfl) (by decide) (by decide) (by decide) (Nat.le_of_ble_eq_true rfl) (Nat.le_of_ble_eq_true rfl) dL_law_17 (fun q17 c9 H hK9 hP hD hS => ?_)
  obtain rfl : cJ = c9 := Option.some.inj ((va_nm_long (hK.2 2 _ rfl).2).symm.trans (va_nm_long (hK9.2 3 _ rfl).2))
  have hP : va_P D vwCl [(q0, .inr (4, [.ref a0, .ref a4, .ref a7])), (a0, .inr (2, [.ref a1, .ref a2, .ref a3, .int 0])), (a1, .inl (cI, 1000, .inl (fun _ => 0))), (a2, .inl (cI, 1000, .inl (fun _ => 0))), (a3, .inl (cZ, 1000, .inl (fun _ => 0))), (a5, .inr (1, [.int (-1), .int 0, .int 0, .int 0])), (a4, .inr (0, [.ref a6, .int 1, .ref a5])), (a6, .inl (cZ, 1001, .inl (fun _ => 0))), (a8, .inr (3, [.int (-1), .int (-1), .int (-1), .int 0])), (a7, .inr (0, [.ref a9, .int 1, .ref a8])), (a9, .inl (cZ, 1001, .inl (fun _ => 0))), (q8, .inr (5, [.int 0, .int 0, .ref r0, .ref r1, .ref r2])), (r0, .inl (cI, 1000, .inl (fun _ => 0))), (r1, .inl (cI, 1000, .inl (fun _ => 0))), (r2, .inl (cZ, 1000, .inl (fun _ => 0))), (q17, .inl (cJ, 1, .inr (.inl (fun _ => 0))))] H := hP
  have hD : va_D A [(q0, .inr (4, [.ref a0, .ref a4, .ref a7])), (a0, .inr (2, [.ref a1, .ref a2, .ref a3, .int 0])), (a1, .inl (cI, 1000, .inl (fun _ => 0))), (a2, .inl (cI, 1000, .inl (fun _ => 0))), (a3, .inl (cZ, 1000, .inl (fun _ => 0))), (a5, .inr (1, [.int (-1), .int 0, .int 0, .int 0])), (a4, .inr (0, [.ref a6, .int 1, .ref a5])), (a6, .inl (cZ, 1001, .inl (fun _ => 0))), (a8, .inr (3, [.int (-1), .int (-1), .int (-1), .int 0])), (a7, .inr (0, [.ref a9, .int 1, .ref a8])), (a9, .inl (cZ, 1001, .inl (fun _ => 0))), (q8, .inr (5, [.int 0, .int 0, .ref r0, .ref r1, .ref r2])), (r0, .inl (cI, 1000, .inl (fun _ => 0))), (r1, .inl (cI, 1000, .inl (fun _ => 0))), (r2, .inl (cZ, 1000, .inl (fun _ => 0))), (q17, .inl (cJ, 1, .inr (.inl (fun _ => 0))))] := hD
  refine lv_astore_n (lv' := [(3, .ref q17), (2, .ref q8), (1, .ref q0), (0, .ref b)]) hx hb dL_law_19 rfl hl (Nat.le_of_ble_eq_true rfl) rfl (fun ls hl => ?_)
  refine lv_iconst (v := 0) hx hb dL_law_20 (by decide) ?_
  refine lv_istore (lv' := [(4, .int 0), (3, .ref q17), (2, .ref q8), (1, .ref q0), (0, .ref b)]) hx hb dL_law_21 hl (Nat.le_of_ble_eq_true rfl) rfl (fun ls hl => ?_)
  obtain ⟨ad, had⟩ : ∃ ad : Nat → Nat, ad = (fun k : Nat => ([q0, a0, a4, a7, a1, a2, a3, a6, a9, a5, a8, q8, r0, r1, r2, q17] : List Nat).getD k 0) := ⟨_, rfl⟩
  have hP9 : va_P D vwCl (cw ad cI cZ cJ 0 (fun _ => 0) (fun _ => 0) (fun _ => false) (fun _ => false) (fun _ => false) true true (-1) false false false (-1) (-1) (-1) false 0 0 (fun _ => 0) (fun _ => 0) (fun _ => false) (fun _ => 0)) H := by rw [had]; exact hP.sub [0, 1, 6, 9, 2, 3, 4, 7, 10, 5, 8, 11, 12, 13, 14, 15] rfl
  have hD9 : va_D A (cw ad cI cZ cJ 0 (fun _ => 0) (fun _ => 0) (fun _ => false) (fun _ => false) (fun _ => false) true true (-1) false false false (-1) (-1) (-1) false 0 0 (fun _ => 0) (fun _ => 0) (fun _ => false) (fun _ => 0)) := by rw [had]; exact hD.sub [0, 1, 6, 9, 2, 3, 4, 7, 10, 5, 8, 11, 12, 13, 14, 15] (by decide) rfl
  have hJ := eo_J (ad := ad) hD9 rfl
  have hl9 : lv_has ls 7 [(0, .ref b), (1, .ref (ad 0)), (2, .ref (ad 11)), (3, .ref (ad 15)), (4, .int (nI (5 * 0)))] := by rw [had]; exact lv_sub hl [4, 3, 2, 1, 0] rfl
  subst hAe
  refine W.widen (k := 16 + 0) (n := 8029 + 6 * 0) (Nat.le_of_ble_eq_true rfl) (Nat.le_of_ble_eq_true rfl) ?_
  exact o_loop (ad := ad) ⟨hx, hb, hml, hown, hte, hX, hbl, hK, hN, hZ0, hJ.1, hJ.2, hL, hl0⟩ hret hlk (L + 1) 0 ls H _ (by omega) (by omega) hl9 ⟨0, fun _ => 0, fun _ => 0, fun _ => false, fun _ => false, fun _ => false, true, true, -1, false, false, false, -1, -1, -1, false, 0, fun _ => 0, Nat.le_refl _, fun _ => show (0 : Int32) ≠ -1 by decide, eo_st _ _ _ _ _ _, hP9⟩ hS
