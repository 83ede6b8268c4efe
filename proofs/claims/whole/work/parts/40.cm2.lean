variable {E : EV} {l : Launch} {a : Nat → Nat} {xs xi xk xc xl xr xb yl yr : Nat → Int32} {A : Es}
set_option maxHeartbeats 4000000 in
theorem c_X1_add (hR : RS (xs, xi, xk, xc, xl, xr, xb, yl, yr) A) (hI : IA A) (n8 : pe A < 8) {k b : Int} : MI (S := Sa) E l yX1_add cX1_add 4 (some FieldType.int) (rmk 0 0) (wS E a ((iv (hr A))) ((iv (pe A))) (xs, xi, xk, xc, xl, xr, xb, yl, yr)) [.ref (a 0), .int (iv (k)), .int (iv (b))] (fun r u => r = iv (pe A) ∧ RS u (nw A k b)) (fun u => wS E a (iv (hr A)) (iv (pe A + 1)) u) := by
  refine goI (S := Sa) (post := fun r u => r = iv (pe A) ∧ RS u (nw A k b)) (ws' := fun u => wS E a (iv (hr A)) (iv (pe A + 1)) u) (by decide) (Nat.le_of_ble_eq_true rfl) ?_
  intro pp e s m below meth c ls args Q ret X h hl
  have hl : lv_has ls 4 [(0, .ref (a 0)), (1, .int (iv (k))), (2, .int (iv (b)))] := hl
  have n0 := hI.n0
  refine lv_aload_n X.1 X.2.1 dX1_add_0 rfl (lv_at hl 0 rfl) ?_
  refine z_get X h 1 0 1 rfl inX1 rfl (by decide) fl_X1_15 rfl dX1_add_1 ?_
  refine lv_istore_n (lv' := [(3, .int (iv (pe A))), (0, .ref (a 0)), (1, .int (iv (k))), (2, .int (iv (b)))]) X.1 X.2.1 dX1_add_4 rfl hl (by decide) rfl (fun ls hl => ?_)
  refine lv_aload_n X.1 X.2.1 dX1_add_5 rfl (lv_at hl 1 rfl) ?_
  refine z_get X h 1 0 4 rfl inX1 rfl (by decide) fl_X1_25 rfl dX1_add_6 ?_
  refine lv_iload_n X.1 X.2.1 dX1_add_9 rfl (lv_at hl 0 rfl) ?_
  refine lv_iload_n X.1 X.2.1 dX1_add_10 rfl (lv_at hl 2 rfl) ?_
  refine z_iast X h 3 rfl (by omega) (by omega) (by decide) dX1_add_11 (fun H locs h => ?_)
  have h := stS_kinds h
  have h : St E _ s H locs (wS E a ((iv (hr A))) ((iv (pe A))) (xs, xi, (upd xk (pe A : Int).toNat (iv (k))), xc, xl, xr, xb, yl, yr)) := h
  refine lv_aload_n X.1 X.2.1 dX1_add_12 rfl (lv_at hl 1 rfl) ?_
  refine z_get X h 1 0 5 rfl inX1 rfl (by decide) fl_X1_28 rfl dX1_add_13 ?_
  refine lv_iload_n X.1 X.2.1 dX1_add_16 rfl (lv_at hl 0 rfl) ?_
  refine z_iconst X dX1_add_17 ?_
  refine z_iast X h 4 rfl (by omega) (by omega) (by decide) dX1_add_18 (fun H locs h => ?_)
  have h := stS_chairs h
  have h : St E _ s H locs (wS E a ((iv (hr A))) ((iv (pe A))) (xs, xi, (upd xk (pe A : Int).toNat (iv (k))), (upd xc (pe A : Int).toNat (iv ((-1)))), xl, xr, xb, yl, yr)) := h
  refine lv_aload_n X.1 X.2.1 dX1_add_19 rfl (lv_at hl 1 rfl) ?_
  refine z_get X h 1 0 6 rfl inX1 rfl (by decide) fl_X1_31 rfl dX1_add_20 ?_
  refine lv_iload_n X.1 X.2.1 dX1_add_23 rfl (lv_at hl 0 rfl) ?_
  refine lv_iload_n X.1 X.2.1 dX1_add_24 rfl (lv_at hl 3 rfl) ?_
  refine z_iast X h 5 rfl (by omega) (by omega) (by decide) dX1_add_25 (fun H locs h => ?_)
  have h := stS_lefts h
  have h : St E _ s H locs (wS E a ((iv (hr A))) ((iv (pe A))) (xs, xi, (upd xk (pe A : Int).toNat (iv (k))), (upd xc (pe A : Int).toNat (iv ((-1)))), (upd xl (pe A : Int).toNat (iv (b))), xr, xb, yl, yr)) := h
  refine lv_aload_n X.1 X.2.1 dX1_add_26 rfl (lv_at hl 1 rfl) ?_
  refine z_get X h 1 0 7 rfl inX1 rfl (by decide) fl_X1_34 rfl dX1_add_27 ?_
  refine lv_iload_n X.1 X.2.1 dX1_add_30 rfl (lv_at hl 0 rfl) ?_
  refine lv_iload_n X.1 X.2.1 dX1_add_31 rfl (lv_at hl 3 rfl) ?_
  refine z_iast X h 6 rfl (by omega) (by omega) (by decide) dX1_add_32 (fun H locs h => ?_)
  have h := stS_rights h
  have h : St E _ s H locs (wS E a ((iv (hr A))) ((iv (pe A))) (xs, xi, (upd xk (pe A : Int).toNat (iv (k))), (upd xc (pe A : Int).toNat (iv ((-1)))), (upd xl (pe A : Int).toNat (iv (b))), (upd xr (pe A : Int).toNat (iv (b))), xb, yl, yr)) := h
  refine lv_aload_n X.1 X.2.1 dX1_add_33 rfl (lv_at hl 1 rfl) ?_
  refine z_get X h 1 0 8 rfl inX1 rfl (by decide) fl_X1_37 rfl dX1_add_34 ?_
  refine lv_iload_n X.1 X.2.1 dX1_add_37 rfl (lv_at hl 0 rfl) ?_
  refine z_iconst X dX1_add_38 ?_
  refine z_iast X h 7 rfl (by omega) (by omega) (by decide) dX1_add_39 (fun H locs h => ?_)
  have h := stS_burnts h
  have h : St E _ s H locs (wS E a ((iv (hr A))) ((iv (pe A))) (xs, xi, (upd xk (pe A : Int).toNat (iv (k))), (upd xc (pe A : Int).toNat (iv ((-1)))), (upd xl (pe A : Int).toNat (iv (b))), (upd xr (pe A : Int).toNat (iv (b))), (upd xb (pe A : Int).toNat (iv (0))), yl, yr)) := h
  refine lv_aload_n X.1 X.2.1 dX1_add_40 rfl (lv_at hl 1 rfl) ?_
  refine lv_iload_n X.1 X.2.1 dX1_add_41 rfl (lv_at hl 0 rfl) ?_
  refine z_iconst X dX1_add_42 ?_
  refine z_iadd X dX1_add_43 ?_
  refine z_put X h 1 0 1 rfl inX1 tyX1 tyX1_ok nmX1 rfl (by decide) fl_X1_15 rfl rfl rfl (Nat.le_of_ble_eq_true rfl) dX1_add_44 (fun H locs h => ?_)
  have h := stS_people h
  have h : St E _ s H locs (wS E a ((iv (hr A))) ((iv (pe A + 1))) (xs, xi, (upd xk (pe A : Int).toNat (iv (k))), (upd xc (pe A : Int).toNat (iv ((-1)))), (upd xl (pe A : Int).toNat (iv (b))), (upd xr (pe A : Int).toNat (iv (b))), (upd xb (pe A : Int).toNat (iv (0))), yl, yr)) := h
  refine lv_iload_n X.1 X.2.1 dX1_add_47 rfl (lv_at hl 0 rfl) ?_
  exact ret _ _ _ _ _ ((xs, xi, (upd xk (pe A : Int).toNat (iv (k))), (upd xc (pe A : Int).toNat (iv ((-1)))), (upd xl (pe A : Int).toNat (iv (b))), (upd xr (pe A : Int).toNat (iv (b))), (upd xb (pe A : Int).toNat (iv (0))), yl, yr)) h (⟨rfl, RS_add hR n0⟩) dX1_add_48

set_option maxHeartbeats 4000000 in
theorem c_X1_seat (hR : RS (xs, xi, xk, xc, xl, xr, xb, yl, yr) A) (hI : IA A) {p : Int} (p0 : 0 ≤ p) (p1 : p < pe A) {d : Int} (d1 : -1 ≤ d) (d9 : d ≤ 9) (hf : d < 0 ∨ onC A d < 0 ∨ onC A d = p) : MV (S := Sa) E l yX1_seat cX1_seat 3 (rmk 0 0) (wS E a ((iv (hr A))) ((iv (pe A))) (xs, xi, xk, xc, xl, xr, xb, yl, yr)) [.ref (a 0), .int (iv (p)), .int (iv (d))] (fun u => RS u (pu A 1 p d)) (fun u => wS E a (iv (hr A)) (iv (pe A)) u) := by
  refine goV (S := Sa) (post := fun u => RS u (pu A 1 p d)) (ws' := fun u => wS E a (iv (hr A)) (iv (pe A)) u) (by decide) (Nat.le_of_ble_eq_true rfl) ?_
  intro pp e s m below meth c ls args Q ret X h hl
  have hl : lv_has ls 3 [(0, .ref (a 0)), (1, .int (iv (p))), (2, .int (iv (d)))] := hl
  have q := hI.gP p0 p1
  have n8 := hI.n8
  refine lv_aload_n X.1 X.2.1 dX1_seat_0 rfl (lv_at hl 0 rfl) ?_
  refine z_get X h 1 0 5 rfl inX1 rfl (by decide) fl_X1_28 rfl dX1_seat_1 ?_
  refine lv_iload_n X.1 X.2.1 dX1_seat_4 rfl (lv_at hl 1 rfl) ?_
  refine z_iald (v := pr A 1 p) X h 4 rfl (by omega) (by omega) (by decide) (hR.2.2.2.1 p (by omega) (by omega)) dX1_seat_5 ?_
  refine z_if_lt (tgt := 21) X ⟨by omega, by omega⟩ dX1_seat_6 (by decide) (fun c_6 => ?_) (fun c_6 => ?_)
  · refine lv_aload_n X.1 X.2.1 dX1_seat_21 rfl (lv_at hl 0 rfl) ?_
    refine z_get X h 1 0 5 rfl inX1 rfl (by decide) fl_X1_28 rfl dX1_seat_22 ?_
    refine lv_iload_n X.1 X.2.1 dX1_seat_25 rfl (lv_at hl 1 rfl) ?_
    refine lv_iload_n X.1 X.2.1 dX1_seat_26 rfl (lv_at hl 2 rfl) ?_
    refine z_iast X h 4 rfl (by omega) (by omega) (by decide) dX1_seat_27 (fun H locs h => ?_)
    have h := stS_chairs h
    have h : St E _ s H locs (wS E a ((iv (hr A))) ((iv (pe A))) (xs, xi, xk, (upd xc (p : Int).toNat (iv (d))), xl, xr, xb, yl, yr)) := h
    refine lv_iload_n X.1 X.2.1 dX1_seat_28 rfl (lv_at hl 2 rfl) ?_
    refine z_if_lt (tgt := 39) X ⟨by omega, by omega⟩ dX1_seat_29 (by decide) (fun c_29 => ?_) (fun c_29 => ?_)
    · exact ret _ _ _ _ (xs, xi, xk, (upd xc (p : Int).toNat (iv (d))), xl, xr, xb, yl, yr) h (RS_seat hR hI p0 p1 d1 d9 hf (sea_4 (by omega) (by omega) hR.2.1)) dX1_seat_39
    · refine lv_aload_n X.1 X.2.1 dX1_seat_32 rfl (lv_at hl 0 rfl) ?_
      refine z_get X h 1 0 3 rfl inX1 rfl (by decide) fl_X1_22 rfl dX1_seat_33 ?_
      refine lv_iload_n X.1 X.2.1 dX1_seat_36 rfl (lv_at hl 2 rfl) ?_
      refine lv_iload_n X.1 X.2.1 dX1_seat_37 rfl (lv_at hl 1 rfl) ?_
      refine z_iast X h 2 rfl (by omega) (by omega) (by decide) dX1_seat_38 (fun H locs h => ?_)
      have h := stS_sitters h
      have h : St E _ s H locs (wS E a ((iv (hr A))) ((iv (pe A))) (xs, (upd xi (d : Int).toNat (iv (p))), xk, (upd xc (p : Int).toNat (iv (d))), xl, xr, xb, yl, yr)) := h
      exact ret _ _ _ _ (xs, (upd xi (d : Int).toNat (iv (p))), xk, (upd xc (p : Int).toNat (iv (d))), xl, xr, xb, yl, yr) h (RS_seat hR hI p0 p1 d1 d9 hf (sea_2 (by omega) (by omega) hR.2.1)) dX1_seat_39
  · refine lv_aload_n X.1 X.2.1 dX1_seat_9 rfl (lv_at hl 0 rfl) ?_
    refine z_get X h 1 0 3 rfl inX1 rfl (by decide) fl_X1_22 rfl dX1_seat_10 ?_
    refine lv_aload_n X.1 X.2.1 dX1_seat_13 rfl (lv_at hl 0 rfl) ?_
    refine z_get X h 1 0 5 rfl inX1 rfl (by decide) fl_X1_28 rfl dX1_seat_14 ?_
    refine lv_iload_n X.1 X.2.1 dX1_seat_17 rfl (lv_at hl 1 rfl) ?_
    refine z_iald (v := pr A 1 p) X h 4 rfl (by omega) (by omega) (by decide) (hR.2.2.2.1 p (by omega) (by omega)) dX1_seat_18 ?_
    refine z_iconst X dX1_seat_19 ?_
    refine z_iast X h 2 rfl (by omega) (by omega) (by decide) dX1_seat_20 (fun H locs h => ?_)
    have h := stS_sitters h
    have h : St E _ s H locs (wS E a ((iv (hr A))) ((iv (pe A))) (xs, (upd xi (pr A 1 p : Int).toNat (iv ((-1)))), xk, xc, xl, xr, xb, yl, yr)) := h
    refine lv_aload_n X.1 X.2.1 dX1_seat_21 rfl (lv_at hl 0 rfl) ?_
    refine z_get X h 1 0 5 rfl inX1 rfl (by decide) fl_X1_28 rfl dX1_seat_22 ?_
    refine lv_iload_n X.1 X.2.1 dX1_seat_25 rfl (lv_at hl 1 rfl) ?_
    refine lv_iload_n X.1 X.2.1 dX1_seat_26 rfl (lv_at hl 2 rfl) ?_
    refine z_iast X h 4 rfl (by omega) (by omega) (by decide) dX1_seat_27 (fun H locs h => ?_)
    have h := stS_chairs h
    have h : St E _ s H locs (wS E a ((iv (hr A))) ((iv (pe A))) (xs, (upd xi (pr A 1 p : Int).toNat (iv ((-1)))), xk, (upd xc (p : Int).toNat (iv (d))), xl, xr, xb, yl, yr)) := h
    refine lv_iload_n X.1 X.2.1 dX1_seat_28 rfl (lv_at hl 2 rfl) ?_
    refine z_if_lt (tgt := 39) X ⟨by omega, by omega⟩ dX1_seat_29 (by decide) (fun c_29 => ?_) (fun c_29 => ?_)
    · exact ret _ _ _ _ (xs, (upd xi (pr A 1 p : Int).toNat (iv ((-1)))), xk, (upd xc (p : Int).toNat (iv (d))), xl, xr, xb, yl, yr) h (RS_seat hR hI p0 p1 d1 d9 hf (sea_3 (by omega) (by omega) hR.2.1)) dX1_seat_39
    · refine lv_aload_n X.1 X.2.1 dX1_seat_32 rfl (lv_at hl 0 rfl) ?_
      refine z_get X h 1 0 3 rfl inX1 rfl (by decide) fl_X1_22 rfl dX1_seat_33 ?_
      refine lv_iload_n X.1 X.2.1 dX1_seat_36 rfl (lv_at hl 2 rfl) ?_
      refine lv_iload_n X.1 X.2.1 dX1_seat_37 rfl (lv_at hl 1 rfl) ?_
      refine z_iast X h 2 rfl (by omega) (by omega) (by decide) dX1_seat_38 (fun H locs h => ?_)
      have h := stS_sitters h
      have h : St E _ s H locs (wS E a ((iv (hr A))) ((iv (pe A))) (xs, (upd (upd xi (pr A 1 p : Int).toNat (iv ((-1)))) (d : Int).toNat (iv (p))), xk, (upd xc (p : Int).toNat (iv (d))), xl, xr, xb, yl, yr)) := h
      exact ret _ _ _ _ (xs, (upd (upd xi (pr A 1 p : Int).toNat (iv ((-1)))) (d : Int).toNat (iv (p))), xk, (upd xc (p : Int).toNat (iv (d))), xl, xr, xb, yl, yr) h (RS_seat hR hI p0 p1 d1 d9 hf (sea_1 (by omega) (by omega) hR.2.1)) dX1_seat_39

set_option maxHeartbeats 4000000 in
theorem c_X1_swap (hR : RS (xs, xi, xk, xc, xl, xr, xb, yl, yr) A) (hI : IA A) {p : Int} (p0 : 0 ≤ p) (p1 : p < pe A) {q : Int} (q0 : 0 ≤ q) (q1 : q < pe A) (hpq : p ≠ q) (sp : 0 ≤ pr A 1 p) (sq : 0 ≤ pr A 1 q) : MV (S := Sa) E l yX1_swap cX1_swap 5 (rmk 1 22) (wS E a ((iv (hr A))) ((iv (pe A))) (xs, xi, xk, xc, xl, xr, xb, yl, yr)) [.ref (a 0), .int (iv (p)), .int (iv (q))] (fun u => RS u (sw A p q)) (fun u => wS E a (iv (hr A)) (iv (pe A)) u) := by
  refine goV (S := Sa) (post := fun u => RS u (sw A p q)) (ws' := fun u => wS E a (iv (hr A)) (iv (pe A)) u) (by decide) (Nat.le_of_ble_eq_true rfl) ?_
  intro pp e s m below meth c ls args Q ret X h hl
  have hl : lv_has ls 5 [(0, .ref (a 0)), (1, .int (iv (p))), (2, .int (iv (q)))] := hl
  have q9 := hI.gP p0 p1
  have q8 := hI.gP q0 q1
  have n8 := hI.n8
  refine lv_aload_n X.1 X.2.1 dX1_swap_0 rfl (lv_at hl 0 rfl) ?_
  refine z_get X h 1 0 5 rfl inX1 rfl (by decide) fl_X1_28 rfl dX1_swap_1 ?_
  refine lv_iload_n X.1 X.2.1 dX1_swap_4 rfl (lv_at hl 1 rfl) ?_
  refine z_iald (v := pr A 1 p) X h 4 rfl (by omega) (by omega) (by decide) (hR.2.2.2.1 p (by omega) (by omega)) dX1_swap_5 ?_
  refine lv_istore_n (lv' := [(3, .int (iv (pr A 1 p))), (0, .ref (a 0)), (1, .int (iv (p))), (2, .int (iv (q)))]) X.1 X.2.1 dX1_swap_6 rfl hl (by decide) rfl (fun ls hl => ?_)
  refine lv_aload_n X.1 X.2.1 dX1_swap_7 rfl (lv_at hl 1 rfl) ?_
  refine z_get X h 1 0 5 rfl inX1 rfl (by decide) fl_X1_28 rfl dX1_swap_8 ?_
  refine lv_iload_n X.1 X.2.1 dX1_swap_11 rfl (lv_at hl 3 rfl) ?_
  refine z_iald (v := pr A 1 q) X h 4 rfl (by omega) (by omega) (by decide) (hR.2.2.2.1 q (by omega) (by omega)) dX1_swap_12 ?_
  refine lv_istore (lv' := [(4, .int (iv (pr A 1 q))), (3, .int (iv (pr A 1 p))), (0, .ref (a 0)), (1, .int (iv (p))), (2, .int (iv (q)))]) X.1 X.2.1 dX1_swap_13 hl (by decide) rfl (fun ls hl => ?_)
  refine lv_aload_n X.1 X.2.1 dX1_swap_15 rfl (lv_at hl 2 rfl) ?_
  refine lv_iload_n X.1 X.2.1 dX1_swap_16 rfl (lv_at hl 3 rfl) ?_
  refine z_iconst X dX1_swap_17 ?_
  refine z_av h (run_V (rest := []) X h (c_X1_seat (p := p) (d := ((-1))) hR hI (by omega) (by first | omega | (show p < pe A; omega)) (by omega) (by omega) (Or.inl (by omega))) mi_X1_seat ml_X1_62 ⟨Nat.le_of_ble_eq_true rfl, Nat.le_of_ble_eq_true rfl⟩ ⟨rfl, rfl⟩ (Seg.rfl' _) 1 0 rfl rfl rfl rfl hl.1 rfl (Nat.le_of_ble_eq_true rfl) ⟨Nat.zero_le _, Nat.zero_le _⟩ dX1_swap_18) (fun _ => wS_map _ _ _ _ _ _ _ _) (fun u H locs hp h => ?_)
  obtain ⟨z0_1, z1_1, z2_1, z3_1, z4_1, z5_1, z6_1, z7_1, z8_1⟩ := u
  have h : St E _ s H locs (wS E a ((iv (hr A))) ((iv (pe A))) (z0_1, z1_1, z2_1, z3_1, z4_1, z5_1, z6_1, z7_1, z8_1)) := h
  have hR1 : RS (z0_1, z1_1, z2_1, z3_1, z4_1, z5_1, z6_1, z7_1, z8_1) (pu A 1 p ((-1))) := hp
  have hI1 : IA (pu A 1 p ((-1))) := IA_sit hI (by omega) (by first | omega | (show p < pe A; omega)) (by omega) (by omega) (Or.inl (by omega))
  have pe1 : pe (pu A 1 p (-1)) = pe A := rfl
  have hf2 : onC (pu A 1 p (-1)) (pr A 1 p) < 0 := by rw [onC_pu hI p0 p1 (by omega) (by omega) (Or.inl (by omega)) _ sp, if_neg (by omega), if_pos rfl]; decide
  refine lv_aload_n X.1 X.2.1 dX1_swap_21 rfl (lv_at hl 2 rfl) ?_
  refine lv_iload_n X.1 X.2.1 dX1_swap_22 rfl (lv_at hl 4 rfl) ?_
  refine lv_iload_n X.1 X.2.1 dX1_swap_23 rfl (lv_at hl 1 rfl) ?_
  refine z_av h (run_V (rest := []) X h (c_X1_seat (p := q) (d := (pr A 1 p)) hR1 hI1 (by omega) (by first | omega | (show q < pe A; omega)) (by omega) (by omega) (Or.inr (Or.inl hf2))) mi_X1_seat ml_X1_62 ⟨Nat.le_of_ble_eq_true rfl, Nat.le_of_ble_eq_true rfl⟩ ⟨rfl, rfl⟩ (Seg.rfl' _) 1 0 rfl rfl rfl rfl hl.1 rfl (Nat.le_of_ble_eq_true rfl) ⟨Nat.zero_le _, Nat.zero_le _⟩ dX1_swap_24) (fun _ => wS_map _ _ _ _ _ _ _ _) (fun u H locs hp h => ?_)
  obtain ⟨z0_2, z1_2, z2_2, z3_2, z4_2, z5_2, z6_2, z7_2, z8_2⟩ := u
  have h : St E _ s H locs (wS E a ((iv (hr A))) ((iv (pe A))) (z0_2, z1_2, z2_2, z3_2, z4_2, z5_2, z6_2, z7_2, z8_2)) := h
  have hR2 : RS (z0_2, z1_2, z2_2, z3_2, z4_2, z5_2, z6_2, z7_2, z8_2) (pu (pu A 1 p ((-1))) 1 q (pr A 1 p)) := hp
  have hI2 : IA (pu (pu A 1 p ((-1))) 1 q (pr A 1 p)) := IA_sit hI1 (by omega) (by first | omega | (show q < pe A; omega)) (by omega) (by omega) (Or.inr (Or.inl hf2))
  have hf3 : onC (pu (pu A 1 p (-1)) 1 q (pr A 1 p)) (pr A 1 q) < 0 := by rw [onC_pu hI1 q0 q1 (by omega) (by omega) (Or.inr (Or.inl hf2)) _ sq, if_neg (fun e => hI.2.2.2.2.2 p q p0 p1 q0 q1 hpq sp e.symm), if_pos (by rw [pu_at, if_neg (fun z => hpq z.2.symm)])]; decide
  refine lv_aload_n X.1 X.2.1 dX1_swap_27 rfl (lv_at hl 2 rfl) ?_
  refine lv_iload_n X.1 X.2.1 dX1_swap_28 rfl (lv_at hl 3 rfl) ?_
  refine lv_iload X.1 X.2.1 dX1_swap_29 (lv_at hl 0 rfl) ?_
  refine z_av h (run_V (rest := []) X h (c_X1_seat (p := p) (d := (pr A 1 q)) hR2 hI2 (by omega) (by first | omega | (show p < pe A; omega)) (by omega) (by omega) (Or.inr (Or.inl hf3))) mi_X1_seat ml_X1_62 ⟨Nat.le_of_ble_eq_true rfl, Nat.le_of_ble_eq_true rfl⟩ ⟨rfl, rfl⟩ (Seg.rfl' _) 1 0 rfl rfl rfl rfl hl.1 rfl (Nat.le_of_ble_eq_true rfl) ⟨Nat.zero_le _, Nat.zero_le _⟩ dX1_swap_31) (fun _ => wS_map _ _ _ _ _ _ _ _) (fun u H locs hp h => ?_)
  obtain ⟨z0_3, z1_3, z2_3, z3_3, z4_3, z5_3, z6_3, z7_3, z8_3⟩ := u
  have h : St E _ s H locs (wS E a ((iv (hr A))) ((iv (pe A))) (z0_3, z1_3, z2_3, z3_3, z4_3, z5_3, z6_3, z7_3, z8_3)) := h
  have hR3 : RS (z0_3, z1_3, z2_3, z3_3, z4_3, z5_3, z6_3, z7_3, z8_3) (pu (pu (pu A 1 p ((-1))) 1 q (pr A 1 p)) 1 p (pr A 1 q)) := hp
  have hI3 : IA (pu (pu (pu A 1 p ((-1))) 1 q (pr A 1 p)) 1 p (pr A 1 q)) := IA_sit hI2 (by omega) (by first | omega | (show p < pe A; omega)) (by omega) (by omega) (Or.inr (Or.inl hf3))
  exact ret _ _ _ _ ((z0_3, z1_3, z2_3, z3_3, z4_3, z5_3, z6_3, z7_3, z8_3)) h (RS_swap hI.n0 hpq hR3) dX1_swap_34

set_option maxHeartbeats 4000000 in
theorem c_X1_burn (hR : RS (xs, xi, xk, xc, xl, xr, xb, yl, yr) A) (hI : IA A) {p : Int} (p0 : 0 ≤ p) (p1 : p < pe A) {gi : Int} (g0 : 0 ≤ gi) (g1 : gi ≤ 13) : MV (S := Nat → Int32) E l yX1_burn cX1_burn 3 (rmk 1 20) (wS E a ((iv (hr A))) ((iv (pe A))) (xs, xi, xk, xc, xl, xr, xb, yl, yr)) [.ref (a 0), .int (iv (p)), .int (iv (gi))] (fun u => RS (xs, xi, xk, xc, xl, xr, u, yl, yr) (pu A 4 p (bn1 (pr A 0 p) gi (pr A 4 p)))) (fun u => wS E a (iv (hr A)) (iv (pe A)) (xs, xi, xk, xc, xl, xr, u, yl, yr)) := by
  refine goV (S := Nat → Int32) (post := fun u => RS (xs, xi, xk, xc, xl, xr, u, yl, yr) (pu A 4 p (bn1 (pr A 0 p) gi (pr A 4 p)))) (ws' := fun u => wS E a (iv (hr A)) (iv (pe A)) (xs, xi, xk, xc, xl, xr, u, yl, yr)) (by decide) (Nat.le_of_ble_eq_true rfl) ?_
  intro pp e s m below meth c ls args Q ret X h hl
  have hl : lv_has ls 3 [(0, .ref (a 0)), (1, .int (iv (p))), (2, .int (iv (gi)))] := hl
  have q := hI.gP p0 p1
  have n8 := hI.n8
  have bf := burnF_rng (pr A 0 p)
  refine lv_iload_n X.1 X.2.1 dX1_burn_0 rfl (lv_at hl 2 rfl) ?_
  refine lv_aload_n X.1 X.2.1 dX1_burn_1 rfl (lv_at hl 0 rfl) ?_
  refine z_get X h 1 0 4 rfl inX1 rfl (by decide) fl_X1_25 rfl dX1_burn_2 ?_
  refine lv_iload_n X.1 X.2.1 dX1_burn_5 rfl (lv_at hl 1 rfl) ?_
  refine z_iald (v := pr A 0 p) X h 3 rfl (by omega) (by omega) (by decide) (hR.2.2.1 p (by omega) (by omega)) dX1_burn_6 ?_
  refine z_pi (run_S (rest := [.int (iv (gi))]) X h (c_X3_burnsFrom (k := pr A 0 p) (by omega) (by omega)) mi_X3_burnsFrom ml_X1_130 ⟨Nat.le_of_ble_eq_true rfl, Nat.le_of_ble_eq_true rfl⟩ ⟨rfl, rfl⟩ (Seg.nil _) rfl hl.1 rfl (Nat.le_of_ble_eq_true rfl) ⟨Nat.zero_le _, Nat.zero_le _⟩ dX1_burn_7) ?_
  refine z_ic_lt (tgt := 35) X ⟨by omega, by omega⟩ ⟨by omega, by omega⟩ dX1_burn_10 (by decide) (fun c_10 => ?_) (fun c_10 => ?_)
  · exact ret _ _ _ _ xb h (RS_b0 hR hI.n0 (by unfold bn1 held; (repeat' split) <;> omega)) dX1_burn_35
  · refine lv_aload_n X.1 X.2.1 dX1_burn_13 rfl (lv_at hl 0 rfl) ?_
    refine z_get X h 1 0 8 rfl inX1 rfl (by decide) fl_X1_37 rfl dX1_burn_14 ?_
    refine lv_iload_n X.1 X.2.1 dX1_burn_17 rfl (lv_at hl 1 rfl) ?_
    refine z_iald (v := pr A 4 p) X h 7 rfl (by omega) (by omega) (by decide) (hR.2.2.2.2.2.2 p (by omega) (by omega)) dX1_burn_18 ?_
    refine z_sipush X (by decide) dX1_burn_19 ?_
    refine z_ic_ge (tgt := 35) X ⟨by omega, by omega⟩ ⟨by decide, by decide⟩ dX1_burn_22 (by decide) (fun c_22 => ?_) (fun c_22 => ?_)
    · exact ret _ _ _ _ xb h (RS_b0 hR hI.n0 (by unfold bn1 held; (repeat' split) <;> omega)) dX1_burn_35
    · refine lv_aload_n X.1 X.2.1 dX1_burn_25 rfl (lv_at hl 0 rfl) ?_
      refine z_get X h 1 0 8 rfl inX1 rfl (by decide) fl_X1_37 rfl dX1_burn_26 ?_
      refine lv_iload_n X.1 X.2.1 dX1_burn_29 rfl (lv_at hl 1 rfl) ?_
      refine lv_dup2_11 X.1 X.2.1 dX1_burn_30 rfl rfl ?_
      refine z_iald (v := pr A 4 p) X h 7 rfl (by omega) (by omega) (by decide) (hR.2.2.2.2.2.2 p (by omega) (by omega)) dX1_burn_31 ?_
      refine z_iconst X dX1_burn_32 ?_
      refine z_iadd X dX1_burn_33 ?_
      refine z_iast X h 7 rfl (by omega) (by omega) (by decide) dX1_burn_34 (fun H locs h => ?_)
      have h := stS_burnts h
      have h : St E _ s H locs (wS E a ((iv (hr A))) ((iv (pe A))) (xs, xi, xk, xc, xl, xr, (upd xb (p : Int).toNat (iv (pr A 4 p + 1))), yl, yr)) := h
      exact ret _ _ _ _ (upd xb (p : Int).toNat (iv (pr A 4 p + 1))) h (by rw [show bn1 (pr A 0 p) gi (pr A 4 p) = pr A 4 p + 1 by unfold bn1 held; (repeat' split) <;> omega]; exact RS_bu hR hI.n0 p0) dX1_burn_35
