variable {E : EV} {l : Launch} {y h0 : Nat} {cc : Nat → Int32} {x9 : Int32}
set_option maxHeartbeats 4000000 in
theorem c_fillI10  : MV (S := Nat → Int32) E l yJ7_fill_53178 cJ7_fill_53178 4 (rmk 0 0) ([(y, .inl (eI E, 10, .inl cc))]) [.ref (y), .int (x9)] (fun u => ∀ j : Nat, j < 10 → u j = x9) (fun u => [(y, .inl (eI E, 10, .inl u))]) := by
  refine goV (S := Nat → Int32) (post := fun u => ∀ j : Nat, j < 10 → u j = x9) (ws' := fun u => [(y, .inl (eI E, 10, .inl u))]) (by decide) (Nat.le_of_ble_eq_true rfl) ?_
  intro pp e s m below meth c ls args Q ret X h hl
  have hl : lv_has ls 4 [(0, .ref (y)), (1, .int (x9))] := hl
  refine z_iconst X dJ7_fill_53178_0 ?_
  refine lv_istore_n (lv' := [(2, .int (iv (0))), (0, .ref (y)), (1, .int (x9))]) X.1 X.2.1 dJ7_fill_53178_1 rfl hl (by decide) rfl (fun ls hl => ?_)
  refine lv_aload_n X.1 X.2.1 dJ7_fill_53178_2 rfl (lv_at hl 1 rfl) ?_
  refine z_alenI X h 0 rfl dJ7_fill_53178_3 ?_
  refine lv_istore_n (lv' := [(3, .int (iv (10))), (2, .int (iv (0))), (0, .ref (y)), (1, .int (x9))]) X.1 X.2.1 dJ7_fill_53178_4 rfl hl (by decide) rfl (fun ls hl => ?_)
  have L5 : ∀ (fuel_ : Nat) (i : Int) (cv : Nat → Int32), (0 ≤ i) → (i ≤ 10) → (∀ j : Nat, (j : Int) < i → cv j = x9) → 10 - i < (fuel_ : Int) → ∀ (H : Heap) (locs : List Loc), St E ([(y, .inl (eI E, 10, .inl cc))]) s H locs ([(y, .inl (eI E, 10, .inl cv))]) → ∀ ls : Array Slot, lv_has ls 4 [(0, .ref (y)), (1, .int (x9)), (2, .int (iv (i))), (3, .int (iv (10)))] → W pp l e (rmk 0 0) s m args below meth c H locs 0 0 Q (F0 m 5 ls []) := by
    intro fuel_
    induction fuel_ with
    | zero =>
      intro i cv i0 i1 hc hn
      exfalso; omega
    | succ fuel_ ih_5 =>
      intro i cv i0 i1 hc hn H locs h ls hl
      refine lv_iload_n X.1 X.2.1 dJ7_fill_53178_5 rfl (lv_at hl 2 rfl) ?_
      refine lv_iload_n X.1 X.2.1 dJ7_fill_53178_6 rfl (lv_at hl 3 rfl) ?_
      refine z_ic_ge (tgt := 20) X ⟨by omega, by omega⟩ ⟨by decide, by decide⟩ dJ7_fill_53178_7 (by decide) (fun c_7 => ?_) (fun c_7 => ?_)
      · exact ret _ _ _ _ cv h (fun j hj => hc j (by omega)) dJ7_fill_53178_20
      · refine lv_aload_n X.1 X.2.1 dJ7_fill_53178_10 rfl (lv_at hl 0 rfl) ?_
        refine lv_iload_n X.1 X.2.1 dJ7_fill_53178_11 rfl (lv_at hl 2 rfl) ?_
        refine lv_iload_n X.1 X.2.1 dJ7_fill_53178_12 rfl (lv_at hl 1 rfl) ?_
        refine z_iast X h 0 rfl (by omega) (by omega) (by decide) dJ7_fill_53178_13 (fun H locs h => ?_)
        have h : St E _ s H locs ([(y, .inl (eI E, 10, .inl (upd cv (i : Int).toNat (x9))))]) := h
        refine z_iinc (k := 2) (lv' := [(2, .int (iv (i + 1))), (0, .ref (y)), (1, .int (x9)), (3, .int (iv (10)))]) X dJ7_fill_53178_14 hl rfl (by decide) rfl (fun ls hl => ?_)
        refine lv_goto (tgt := 5) X.1 X.2.1 dJ7_fill_53178_17 (by decide) ?_
        exact ih_5 (i + 1) ((upd cv (i : Int).toNat (x9))) (by omega) (by omega) (fl_stepI i0 hc) (by omega) _ _ h ls (lv_sub hl [1, 2, 0, 3] rfl)
  exact L5 ((10 - (0) : Int).toNat + 1) (0) (cc) (by omega) (by omega) (fun j hj => absurd hj (by omega)) (by omega) _ _ h ls (lv_sub hl [2, 3, 1, 0] rfl)

set_option maxHeartbeats 4000000 in
theorem c_fillI8  : MV (S := Nat → Int32) E l yJ7_fill_53178 cJ7_fill_53178 4 (rmk 0 0) ([(y, .inl (eI E, 8, .inl cc))]) [.ref (y), .int (x9)] (fun u => ∀ j : Nat, j < 8 → u j = x9) (fun u => [(y, .inl (eI E, 8, .inl u))]) := by
  refine goV (S := Nat → Int32) (post := fun u => ∀ j : Nat, j < 8 → u j = x9) (ws' := fun u => [(y, .inl (eI E, 8, .inl u))]) (by decide) (Nat.le_of_ble_eq_true rfl) ?_
  intro pp e s m below meth c ls args Q ret X h hl
  have hl : lv_has ls 4 [(0, .ref (y)), (1, .int (x9))] := hl
  refine z_iconst X dJ7_fill_53178_0 ?_
  refine lv_istore_n (lv' := [(2, .int (iv (0))), (0, .ref (y)), (1, .int (x9))]) X.1 X.2.1 dJ7_fill_53178_1 rfl hl (by decide) rfl (fun ls hl => ?_)
  refine lv_aload_n X.1 X.2.1 dJ7_fill_53178_2 rfl (lv_at hl 1 rfl) ?_
  refine z_alenI X h 0 rfl dJ7_fill_53178_3 ?_
  refine lv_istore_n (lv' := [(3, .int (iv (8))), (2, .int (iv (0))), (0, .ref (y)), (1, .int (x9))]) X.1 X.2.1 dJ7_fill_53178_4 rfl hl (by decide) rfl (fun ls hl => ?_)
  have L5 : ∀ (fuel_ : Nat) (i : Int) (cv : Nat → Int32), (0 ≤ i) → (i ≤ 8) → (∀ j : Nat, (j : Int) < i → cv j = x9) → 8 - i < (fuel_ : Int) → ∀ (H : Heap) (locs : List Loc), St E ([(y, .inl (eI E, 8, .inl cc))]) s H locs ([(y, .inl (eI E, 8, .inl cv))]) → ∀ ls : Array Slot, lv_has ls 4 [(0, .ref (y)), (1, .int (x9)), (2, .int (iv (i))), (3, .int (iv (8)))] → W pp l e (rmk 0 0) s m args below meth c H locs 0 0 Q (F0 m 5 ls []) := by
    intro fuel_
    induction fuel_ with
    | zero =>
      intro i cv i0 i1 hc hn
      exfalso; omega
    | succ fuel_ ih_5 =>
      intro i cv i0 i1 hc hn H locs h ls hl
      refine lv_iload_n X.1 X.2.1 dJ7_fill_53178_5 rfl (lv_at hl 2 rfl) ?_
      refine lv_iload_n X.1 X.2.1 dJ7_fill_53178_6 rfl (lv_at hl 3 rfl) ?_
      refine z_ic_ge (tgt := 20) X ⟨by omega, by omega⟩ ⟨by decide, by decide⟩ dJ7_fill_53178_7 (by decide) (fun c_7 => ?_) (fun c_7 => ?_)
      · exact ret _ _ _ _ cv h (fun j hj => hc j (by omega)) dJ7_fill_53178_20
      · refine lv_aload_n X.1 X.2.1 dJ7_fill_53178_10 rfl (lv_at hl 0 rfl) ?_
        refine lv_iload_n X.1 X.2.1 dJ7_fill_53178_11 rfl (lv_at hl 2 rfl) ?_
        refine lv_iload_n X.1 X.2.1 dJ7_fill_53178_12 rfl (lv_at hl 1 rfl) ?_
        refine z_iast X h 0 rfl (by omega) (by omega) (by decide) dJ7_fill_53178_13 (fun H locs h => ?_)
        have h : St E _ s H locs ([(y, .inl (eI E, 8, .inl (upd cv (i : Int).toNat (x9))))]) := h
        refine z_iinc (k := 2) (lv' := [(2, .int (iv (i + 1))), (0, .ref (y)), (1, .int (x9)), (3, .int (iv (8)))]) X dJ7_fill_53178_14 hl rfl (by decide) rfl (fun ls hl => ?_)
        refine lv_goto (tgt := 5) X.1 X.2.1 dJ7_fill_53178_17 (by decide) ?_
        exact ih_5 (i + 1) ((upd cv (i : Int).toNat (x9))) (by omega) (by omega) (fl_stepI i0 hc) (by omega) _ _ h ls (lv_sub hl [1, 2, 0, 3] rfl)
  exact L5 ((8 - (0) : Int).toNat + 1) (0) (cc) (by omega) (by omega) (fun j hj => absurd hj (by omega)) (by omega) _ _ h ls (lv_sub hl [2, 3, 1, 0] rfl)

set_option maxHeartbeats 4000000 in
theorem c_X2_init : MN (S := Nat → Nat) E l (fun _ => True) yX2_init cX2_init 1 (rmc 1 20 1 120) 1 120 ([(h0, .inr (2, [.int (iv (0)), .null, .int (iv (0)), .int (iv (0)), .int (iv (0)), .int (iv (0))]))]) [.ref (h0)] (fun u => u 0 = h0) (fun u => wX E u (iv (0)) (iv (0)) (iv (0)) (iv (0)) (iv (0)) (fun _ => 0)) := by
  refine goN (S := Nat → Nat) (post := fun u => u 0 = h0) (ws' := fun u => wX E u (iv (0)) (iv (0)) (iv (0)) (iv (0)) (iv (0)) (fun _ => 0)) (by decide) rfl (Nat.le_of_ble_eq_true rfl) ?_
  intro A pp e s m below meth c ls args Q ret X hin hG h hl
  have hl : lv_has ls 1 [(0, .ref (h0))] := hl
  refine lv_aload_n X.1 X.2.1 dX2_init_0 rfl (lv_at hl 0 rfl) ?_
  refine n_obj X hl.1 ml_X2_3 (Nat.le_of_ble_eq_true rfl) (Nat.le_of_ble_eq_true rfl) dX2_init_1 ?_
  refine lv_aload_n X.1 X.2.1 dX2_init_4 rfl (lv_at hl 0 rfl) ?_
  refine z_iconst X dX2_init_5 ?_
  refine n_put X h 2 0 0 rfl inX2 tyX2 tyX2_ok nmX2 rfl (by decide) fl_X2_9 rfl rfl rfl (Nat.le_of_ble_eq_true rfl) dX2_init_6 (fun H locs h => ?_)
  have h : SN E A s _ _ ([(h0, .inr (2, [.int (iv (0)), .null, .int (iv (0)), .int (iv (0)), .int (iv (0)), .int (iv (0))]))]) := h
  refine lv_aload_n X.1 X.2.1 dX2_init_9 rfl (lv_at hl 0 rfl) ?_
  refine z_bipush X (by decide) dX2_init_10 ?_
  refine n_newi (N := 120) X h rfl (by decide) (Nat.le_of_ble_eq_true rfl) (Nat.le_of_ble_eq_true rfl) (Nat.le_of_ble_eq_true rfl) dX2_init_12 (fun q12 H h => ?_)
  have h : SN E A s _ _ ([(h0, .inr (2, [.int (iv (0)), .null, .int (iv (0)), .int (iv (0)), .int (iv (0)), .int (iv (0))])), (q12, .inl (eI E, 120, .inl (fun _ => 0)))]) := h
  refine n_putF X hin h 2 0 1 rfl inX2 tyX2 tyX2_ok nmX2 rfl (by decide) fl_X2_15 rfl rfl rfl rfl (Nat.le_of_ble_eq_true rfl) dX2_init_14 (fun H locs h => ?_)
  have h : SN E A s _ _ ([(h0, .inr (2, [.int (iv (0)), .ref (q12), .int (iv (0)), .int (iv (0)), .int (iv (0)), .int (iv (0))])), (q12, .inl (eI E, 120, .inl (fun _ => 0)))]) := h
  refine lv_aload_n X.1 X.2.1 dX2_init_17 rfl (lv_at hl 0 rfl) ?_
  refine z_iconst X dX2_init_18 ?_
  refine n_put X h 2 0 2 rfl inX2 tyX2 tyX2_ok nmX2 rfl (by decide) fl_X2_19 rfl rfl rfl (Nat.le_of_ble_eq_true rfl) dX2_init_19 (fun H locs h => ?_)
  have h : SN E A s _ _ ([(h0, .inr (2, [.int (iv (0)), .ref (q12), .int (iv (0)), .int (iv (0)), .int (iv (0)), .int (iv (0))])), (q12, .inl (eI E, 120, .inl (fun _ => 0)))]) := h
  refine lv_aload_n X.1 X.2.1 dX2_init_22 rfl (lv_at hl 0 rfl) ?_
  refine z_iconst X dX2_init_23 ?_
  refine n_put X h 2 0 3 rfl inX2 tyX2 tyX2_ok nmX2 rfl (by decide) fl_X2_22 rfl rfl rfl (Nat.le_of_ble_eq_true rfl) dX2_init_24 (fun H locs h => ?_)
  have h : SN E A s _ _ ([(h0, .inr (2, [.int (iv (0)), .ref (q12), .int (iv (0)), .int (iv (0)), .int (iv (0)), .int (iv (0))])), (q12, .inl (eI E, 120, .inl (fun _ => 0)))]) := h
  refine lv_aload_n X.1 X.2.1 dX2_init_27 rfl (lv_at hl 0 rfl) ?_
  refine z_iconst X dX2_init_28 ?_
  refine n_put X h 2 0 4 rfl inX2 tyX2 tyX2_ok nmX2 rfl (by decide) fl_X2_25 rfl rfl rfl (Nat.le_of_ble_eq_true rfl) dX2_init_29 (fun H locs h => ?_)
  have h : SN E A s _ _ ([(h0, .inr (2, [.int (iv (0)), .ref (q12), .int (iv (0)), .int (iv (0)), .int (iv (0)), .int (iv (0))])), (q12, .inl (eI E, 120, .inl (fun _ => 0)))]) := h
  refine lv_aload_n X.1 X.2.1 dX2_init_32 rfl (lv_at hl 0 rfl) ?_
  refine z_iconst X dX2_init_33 ?_
  refine n_put X h 2 0 5 rfl inX2 tyX2 tyX2_ok nmX2 rfl (by decide) fl_X2_28 rfl rfl rfl (Nat.le_of_ble_eq_true rfl) dX2_init_34 (fun H locs h => ?_)
  have h : SN E A s _ _ ([(h0, .inr (2, [.int (iv (0)), .ref (q12), .int (iv (0)), .int (iv (0)), .int (iv (0)), .int (iv (0))])), (q12, .inl (eI E, 120, .inl (fun _ => 0)))]) := h
  exact ret _ _ _ _ (fun j => [h0, q12].getD j 0) h rfl dX2_init_37

set_option maxHeartbeats 4000000 in
theorem c_X0_init : MN (S := Nat → Nat) E l (fun _ => True) yX0_init cX0_init 1 (rmc 1 20 1 40) 1 40 ([(h0, .inr (0, [.int (iv (0)), .int (iv (0)), .null]))]) [.ref (h0)] (fun u => u 0 = h0) (fun u => wH E u (iv (0)) (iv (0)) (fun _ => 0)) := by
  refine goN (S := Nat → Nat) (post := fun u => u 0 = h0) (ws' := fun u => wH E u (iv (0)) (iv (0)) (fun _ => 0)) (by decide) rfl (Nat.le_of_ble_eq_true rfl) ?_
  intro A pp e s m below meth c ls args Q ret X hin hG h hl
  have hl : lv_has ls 1 [(0, .ref (h0))] := hl
  refine lv_aload_n X.1 X.2.1 dX0_init_0 rfl (lv_at hl 0 rfl) ?_
  refine n_obj X hl.1 ml_X0_3 (Nat.le_of_ble_eq_true rfl) (Nat.le_of_ble_eq_true rfl) dX0_init_1 ?_
  refine lv_aload_n X.1 X.2.1 dX0_init_4 rfl (lv_at hl 0 rfl) ?_
  refine z_iconst X dX0_init_5 ?_
  refine n_put X h 0 0 0 rfl inX0 tyX0 tyX0_ok nmX0 rfl (by decide) fl_X0_9 rfl rfl rfl (Nat.le_of_ble_eq_true rfl) dX0_init_6 (fun H locs h => ?_)
  have h : SN E A s _ _ ([(h0, .inr (0, [.int (iv (0)), .int (iv (0)), .null]))]) := h
  refine lv_aload_n X.1 X.2.1 dX0_init_9 rfl (lv_at hl 0 rfl) ?_
  refine z_iconst X dX0_init_10 ?_
  refine n_put X h 0 0 1 rfl inX0 tyX0 tyX0_ok nmX0 rfl (by decide) fl_X0_15 rfl rfl rfl (Nat.le_of_ble_eq_true rfl) dX0_init_11 (fun H locs h => ?_)
  have h : SN E A s _ _ ([(h0, .inr (0, [.int (iv (0)), .int (iv (0)), .null]))]) := h
  refine lv_aload_n X.1 X.2.1 dX0_init_14 rfl (lv_at hl 0 rfl) ?_
  refine z_bipush X (by decide) dX0_init_15 ?_
  refine n_newl (N := 40) X h rfl (by decide) (Nat.le_of_ble_eq_true rfl) (Nat.le_of_ble_eq_true rfl) (Nat.le_of_ble_eq_true rfl) dX0_init_17 (fun q17 H h => ?_)
  have h : SN E A s _ _ ([(h0, .inr (0, [.int (iv (0)), .int (iv (0)), .null])), (q17, .inl (eJ E, 40, .inr (.inl (fun _ => 0))))]) := h
  refine n_putF X hin h 0 0 2 rfl inX0 tyX0 tyX0_ok nmX0 rfl (by decide) fl_X0_18 rfl rfl rfl rfl (Nat.le_of_ble_eq_true rfl) dX0_init_19 (fun H locs h => ?_)
  have h : SN E A s _ _ ([(h0, .inr (0, [.int (iv (0)), .int (iv (0)), .ref (q17)])), (q17, .inl (eJ E, 40, .inr (.inl (fun _ => 0))))]) := h
  exact ret _ _ _ _ (fun j => [h0, q17].getD j 0) h rfl dX0_init_22

set_option maxHeartbeats 4000000 in
theorem c_X1_init : MN (S := (Nat → Nat) × Sa) E l (fun _ => True) yX1_init cX1_init 2 (rmc 1 23 9 76) 9 76 ([(h0, .inr (1, [.int (iv (0)), .int (iv (0)), .null, .null, .null, .null, .null, .null, .null, .null, .null]))]) [.ref (h0)] (fun u => u.1 0 = h0 ∧ RS u.2 Es0) (fun u => wS E u.1 (iv (0)) (iv (0)) u.2) := by
  refine goN (S := (Nat → Nat) × Sa) (post := fun u => u.1 0 = h0 ∧ RS u.2 Es0) (ws' := fun u => wS E u.1 (iv (0)) (iv (0)) u.2) (by decide) rfl (Nat.le_of_ble_eq_true rfl) ?_
  intro A pp e s m below meth c ls args Q ret X hin hG h hl
  have hl : lv_has ls 2 [(0, .ref (h0))] := hl
  refine lv_aload_n X.1 X.2.1 dX1_init_0 rfl (lv_at hl 0 rfl) ?_
  refine n_obj X hl.1 ml_X1_3 (Nat.le_of_ble_eq_true rfl) (Nat.le_of_ble_eq_true rfl) dX1_init_1 ?_
  refine lv_aload_n X.1 X.2.1 dX1_init_4 rfl (lv_at hl 0 rfl) ?_
  refine z_iconst X dX1_init_5 ?_
  refine n_put X h 1 0 0 rfl inX1 tyX1 tyX1_ok nmX1 rfl (by decide) fl_X1_9 rfl rfl rfl (Nat.le_of_ble_eq_true rfl) dX1_init_6 (fun H locs h => ?_)
  have h : SN E A s _ _ ([(h0, .inr (1, [.int (iv (0)), .int (iv (0)), .null, .null, .null, .null, .null, .null, .null, .null, .null]))]) := h
  refine lv_aload_n X.1 X.2.1 dX1_init_9 rfl (lv_at hl 0 rfl) ?_
  refine z_iconst X dX1_init_10 ?_
  refine n_put X h 1 0 1 rfl inX1 tyX1 tyX1_ok nmX1 rfl (by decide) fl_X1_15 rfl rfl rfl (Nat.le_of_ble_eq_true rfl) dX1_init_11 (fun H locs h => ?_)
  have h : SN E A s _ _ ([(h0, .inr (1, [.int (iv (0)), .int (iv (0)), .null, .null, .null, .null, .null, .null, .null, .null, .null]))]) := h
  refine lv_aload_n X.1 X.2.1 dX1_init_14 rfl (lv_at hl 0 rfl) ?_
  refine z_bipush X (by decide) dX1_init_15 ?_
  refine n_newi (N := 10) X h rfl (by decide) (Nat.le_of_ble_eq_true rfl) (Nat.le_of_ble_eq_true rfl) (Nat.le_of_ble_eq_true rfl) dX1_init_17 (fun q17 H h => ?_)
  have h : SN E A s _ _ ([(h0, .inr (1, [.int (iv (0)), .int (iv (0)), .null, .null, .null, .null, .null, .null, .null, .null, .null])), (q17, .inl (eI E, 10, .inl (fun _ => 0)))]) := h
  refine n_putF X hin h 1 0 2 rfl inX1 tyX1 tyX1_ok nmX1 rfl (by decide) fl_X1_18 rfl rfl rfl rfl (Nat.le_of_ble_eq_true rfl) dX1_init_19 (fun H locs h => ?_)
  have h : SN E A s _ _ ([(h0, .inr (1, [.int (iv (0)), .int (iv (0)), .ref (q17), .null, .null, .null, .null, .null, .null, .null, .null])), (q17, .inl (eI E, 10, .inl (fun _ => 0)))]) := h
  refine lv_aload_n X.1 X.2.1 dX1_init_22 rfl (lv_at hl 0 rfl) ?_
  refine z_bipush X (by decide) dX1_init_23 ?_
  refine n_newi (N := 10) X h rfl (by decide) (Nat.le_of_ble_eq_true rfl) (Nat.le_of_ble_eq_true rfl) (Nat.le_of_ble_eq_true rfl) dX1_init_25 (fun q25 H h => ?_)
  have h : SN E A s _ _ ([(h0, .inr (1, [.int (iv (0)), .int (iv (0)), .ref (q17), .null, .null, .null, .null, .null, .null, .null, .null])), (q17, .inl (eI E, 10, .inl (fun _ => 0))), (q25, .inl (eI E, 10, .inl (fun _ => 0)))]) := h
  refine n_putF X hin h 1 0 3 rfl inX1 tyX1 tyX1_ok nmX1 rfl (by decide) fl_X1_22 rfl rfl rfl rfl (Nat.le_of_ble_eq_true rfl) dX1_init_27 (fun H locs h => ?_)
  have h : SN E A s _ _ ([(h0, .inr (1, [.int (iv (0)), .int (iv (0)), .ref (q17), .ref (q25), .null, .null, .null, .null, .null, .null, .null])), (q17, .inl (eI E, 10, .inl (fun _ => 0))), (q25, .inl (eI E, 10, .inl (fun _ => 0)))]) := h
  refine lv_aload_n X.1 X.2.1 dX1_init_30 rfl (lv_at hl 0 rfl) ?_
  refine z_bipush X (by decide) dX1_init_31 ?_
  refine n_newi (N := 8) X h rfl (by decide) (Nat.le_of_ble_eq_true rfl) (Nat.le_of_ble_eq_true rfl) (Nat.le_of_ble_eq_true rfl) dX1_init_33 (fun q33 H h => ?_)
  have h : SN E A s _ _ ([(h0, .inr (1, [.int (iv (0)), .int (iv (0)), .ref (q17), .ref (q25), .null, .null, .null, .null, .null, .null, .null])), (q17, .inl (eI E, 10, .inl (fun _ => 0))), (q25, .inl (eI E, 10, .inl (fun _ => 0))), (q33, .inl (eI E, 8, .inl (fun _ => 0)))]) := h
  refine n_putF X hin h 1 0 4 rfl inX1 tyX1 tyX1_ok nmX1 rfl (by decide) fl_X1_25 rfl rfl rfl rfl (Nat.le_of_ble_eq_true rfl) dX1_init_35 (fun H locs h => ?_)
  have h : SN E A s _ _ ([(h0, .inr (1, [.int (iv (0)), .int (iv (0)), .ref (q17), .ref (q25), .ref (q33), .null, .null, .null, .null, .null, .null])), (q17, .inl (eI E, 10, .inl (fun _ => 0))), (q25, .inl (eI E, 10, .inl (fun _ => 0))), (q33, .inl (eI E, 8, .inl (fun _ => 0)))]) := h
  refine lv_aload_n X.1 X.2.1 dX1_init_38 rfl (lv_at hl 0 rfl) ?_
  refine z_bipush X (by decide) dX1_init_39 ?_
  refine n_newi (N := 8) X h rfl (by decide) (Nat.le_of_ble_eq_true rfl) (Nat.le_of_ble_eq_true rfl) (Nat.le_of_ble_eq_true rfl) dX1_init_41 (fun q41 H h => ?_)
  have h : SN E A s _ _ ([(h0, .inr (1, [.int (iv (0)), .int (iv (0)), .ref (q17), .ref (q25), .ref (q33), .null, .null, .null, .null, .null, .null])), (q17, .inl (eI E, 10, .inl (fun _ => 0))), (q25, .inl (eI E, 10, .inl (fun _ => 0))), (q33, .inl (eI E, 8, .inl (fun _ => 0))), (q41, .inl (eI E, 8, .inl (fun _ => 0)))]) := h
  refine n_putF X hin h 1 0 5 rfl inX1 tyX1 tyX1_ok nmX1 rfl (by decide) fl_X1_28 rfl rfl rfl rfl (Nat.le_of_ble_eq_true rfl) dX1_init_43 (fun H locs h => ?_)
  have h : SN E A s _ _ ([(h0, .inr (1, [.int (iv (0)), .int (iv (0)), .ref (q17), .ref (q25), .ref (q33), .ref (q41), .null, .null, .null, .null, .null])), (q17, .inl (eI E, 10, .inl (fun _ => 0))), (q25, .inl (eI E, 10, .inl (fun _ => 0))), (q33, .inl (eI E, 8, .inl (fun _ => 0))), (q41, .inl (eI E, 8, .inl (fun _ => 0)))]) := h
  refine lv_aload_n X.1 X.2.1 dX1_init_46 rfl (lv_at hl 0 rfl) ?_
  refine z_bipush X (by decide) dX1_init_47 ?_
  refine n_newi (N := 8) X h rfl (by decide) (Nat.le_of_ble_eq_true rfl) (Nat.le_of_ble_eq_true rfl) (Nat.le_of_ble_eq_true rfl) dX1_init_49 (fun q49 H h => ?_)
  have h : SN E A s _ _ ([(h0, .inr (1, [.int (iv (0)), .int (iv (0)), .ref (q17), .ref (q25), .ref (q33), .ref (q41), .null, .null, .null, .null, .null])), (q17, .inl (eI E, 10, .inl (fun _ => 0))), (q25, .inl (eI E, 10, .inl (fun _ => 0))), (q33, .inl (eI E, 8, .inl (fun _ => 0))), (q41, .inl (eI E, 8, .inl (fun _ => 0))), (q49, .inl (eI E, 8, .inl (fun _ => 0)))]) := h
  refine n_putF X hin h 1 0 6 rfl inX1 tyX1 tyX1_ok nmX1 rfl (by decide) fl_X1_31 rfl rfl rfl rfl (Nat.le_of_ble_eq_true rfl) dX1_init_51 (fun H locs h => ?_)
  have h : SN E A s _ _ ([(h0, .inr (1, [.int (iv (0)), .int (iv (0)), .ref (q17), .ref (q25), .ref (q33), .ref (q41), .ref (q49), .null, .null, .null, .null])), (q17, .inl (eI E, 10, .inl (fun _ => 0))), (q25, .inl (eI E, 10, .inl (fun _ => 0))), (q33, .inl (eI E, 8, .inl (fun _ => 0))), (q41, .inl (eI E, 8, .inl (fun _ => 0))), (q49, .inl (eI E, 8, .inl (fun _ => 0)))]) := h
  refine lv_aload_n X.1 X.2.1 dX1_init_54 rfl (lv_at hl 0 rfl) ?_
  refine z_bipush X (by decide) dX1_init_55 ?_
  refine n_newi (N := 8) X h rfl (by decide) (Nat.le_of_ble_eq_true rfl) (Nat.le_of_ble_eq_true rfl) (Nat.le_of_ble_eq_true rfl) dX1_init_57 (fun q57 H h => ?_)
  have h : SN E A s _ _ ([(h0, .inr (1, [.int (iv (0)), .int (iv (0)), .ref (q17), .ref (q25), .ref (q33), .ref (q41), .ref (q49), .null, .null, .null, .null])), (q17, .inl (eI E, 10, .inl (fun _ => 0))), (q25, .inl (eI E, 10, .inl (fun _ => 0))), (q33, .inl (eI E, 8, .inl (fun _ => 0))), (q41, .inl (eI E, 8, .inl (fun _ => 0))), (q49, .inl (eI E, 8, .inl (fun _ => 0))), (q57, .inl (eI E, 8, .inl (fun _ => 0)))]) := h
  refine n_putF X hin h 1 0 7 rfl inX1 tyX1 tyX1_ok nmX1 rfl (by decide) fl_X1_34 rfl rfl rfl rfl (Nat.le_of_ble_eq_true rfl) dX1_init_59 (fun H locs h => ?_)
  have h : SN E A s _ _ ([(h0, .inr (1, [.int (iv (0)), .int (iv (0)), .ref (q17), .ref (q25), .ref (q33), .ref (q41), .ref (q49), .ref (q57), .null, .null, .null])), (q17, .inl (eI E, 10, .inl (fun _ => 0))), (q25, .inl (eI E, 10, .inl (fun _ => 0))), (q33, .inl (eI E, 8, .inl (fun _ => 0))), (q41, .inl (eI E, 8, .inl (fun _ => 0))), (q49, .inl (eI E, 8, .inl (fun _ => 0))), (q57, .inl (eI E, 8, .inl (fun _ => 0)))]) := h
  refine lv_aload_n X.1 X.2.1 dX1_init_62 rfl (lv_at hl 0 rfl) ?_
  refine z_bipush X (by decide) dX1_init_63 ?_
  refine n_newi (N := 8) X h rfl (by decide) (Nat.le_of_ble_eq_true rfl) (Nat.le_of_ble_eq_true rfl) (Nat.le_of_ble_eq_true rfl) dX1_init_65 (fun q65 H h => ?_)
  have h : SN E A s _ _ ([(h0, .inr (1, [.int (iv (0)), .int (iv (0)), .ref (q17), .ref (q25), .ref (q33), .ref (q41), .ref (q49), .ref (q57), .null, .null, .null])), (q17, .inl (eI E, 10, .inl (fun _ => 0))), (q25, .inl (eI E, 10, .inl (fun _ => 0))), (q33, .inl (eI E, 8, .inl (fun _ => 0))), (q41, .inl (eI E, 8, .inl (fun _ => 0))), (q49, .inl (eI E, 8, .inl (fun _ => 0))), (q57, .inl (eI E, 8, .inl (fun _ => 0))), (q65, .inl (eI E, 8, .inl (fun _ => 0)))]) := h
  refine n_putF X hin h 1 0 8 rfl inX1 tyX1 tyX1_ok nmX1 rfl (by decide) fl_X1_37 rfl rfl rfl rfl (Nat.le_of_ble_eq_true rfl) dX1_init_67 (fun H locs h => ?_)
  have h : SN E A s _ _ ([(h0, .inr (1, [.int (iv (0)), .int (iv (0)), .ref (q17), .ref (q25), .ref (q33), .ref (q41), .ref (q49), .ref (q57), .ref (q65), .null, .null])), (q17, .inl (eI E, 10, .inl (fun _ => 0))), (q25, .inl (eI E, 10, .inl (fun _ => 0))), (q33, .inl (eI E, 8, .inl (fun _ => 0))), (q41, .inl (eI E, 8, .inl (fun _ => 0))), (q49, .inl (eI E, 8, .inl (fun _ => 0))), (q57, .inl (eI E, 8, .inl (fun _ => 0))), (q65, .inl (eI E, 8, .inl (fun _ => 0)))]) := h
  refine lv_aload_n X.1 X.2.1 dX1_init_70 rfl (lv_at hl 0 rfl) ?_
  refine z_bipush X (by decide) dX1_init_71 ?_
  refine n_newi (N := 8) X h rfl (by decide) (Nat.le_of_ble_eq_true rfl) (Nat.le_of_ble_eq_true rfl) (Nat.le_of_ble_eq_true rfl) dX1_init_73 (fun q73 H h => ?_)
  have h : SN E A s _ _ ([(h0, .inr (1, [.int (iv (0)), .int (iv (0)), .ref (q17), .ref (q25), .ref (q33), .ref (q41), .ref (q49), .ref (q57), .ref (q65), .null, .null])), (q17, .inl (eI E, 10, .inl (fun _ => 0))), (q25, .inl (eI E, 10, .inl (fun _ => 0))), (q33, .inl (eI E, 8, .inl (fun _ => 0))), (q41, .inl (eI E, 8, .inl (fun _ => 0))), (q49, .inl (eI E, 8, .inl (fun _ => 0))), (q57, .inl (eI E, 8, .inl (fun _ => 0))), (q65, .inl (eI E, 8, .inl (fun _ => 0))), (q73, .inl (eI E, 8, .inl (fun _ => 0)))]) := h
  refine n_putF X hin h 1 0 9 rfl inX1 tyX1 tyX1_ok nmX1 rfl (by decide) fl_X1_40 rfl rfl rfl rfl (Nat.le_of_ble_eq_true rfl) dX1_init_75 (fun H locs h => ?_)
  have h : SN E A s _ _ ([(h0, .inr (1, [.int (iv (0)), .int (iv (0)), .ref (q17), .ref (q25), .ref (q33), .ref (q41), .ref (q49), .ref (q57), .ref (q65), .ref (q73), .null])), (q17, .inl (eI E, 10, .inl (fun _ => 0))), (q25, .inl (eI E, 10, .inl (fun _ => 0))), (q33, .inl (eI E, 8, .inl (fun _ => 0))), (q41, .inl (eI E, 8, .inl (fun _ => 0))), (q49, .inl (eI E, 8, .inl (fun _ => 0))), (q57, .inl (eI E, 8, .inl (fun _ => 0))), (q65, .inl (eI E, 8, .inl (fun _ => 0))), (q73, .inl (eI E, 8, .inl (fun _ => 0)))]) := h
  refine lv_aload_n X.1 X.2.1 dX1_init_78 rfl (lv_at hl 0 rfl) ?_
  refine z_bipush X (by decide) dX1_init_79 ?_
  refine n_newi (N := 8) X h rfl (by decide) (Nat.le_of_ble_eq_true rfl) (Nat.le_of_ble_eq_true rfl) (Nat.le_of_ble_eq_true rfl) dX1_init_81 (fun q81 H h => ?_)
  have h : SN E A s _ _ ([(h0, .inr (1, [.int (iv (0)), .int (iv (0)), .ref (q17), .ref (q25), .ref (q33), .ref (q41), .ref (q49), .ref (q57), .ref (q65), .ref (q73), .null])), (q17, .inl (eI E, 10, .inl (fun _ => 0))), (q25, .inl (eI E, 10, .inl (fun _ => 0))), (q33, .inl (eI E, 8, .inl (fun _ => 0))), (q41, .inl (eI E, 8, .inl (fun _ => 0))), (q49, .inl (eI E, 8, .inl (fun _ => 0))), (q57, .inl (eI E, 8, .inl (fun _ => 0))), (q65, .inl (eI E, 8, .inl (fun _ => 0))), (q73, .inl (eI E, 8, .inl (fun _ => 0))), (q81, .inl (eI E, 8, .inl (fun _ => 0)))]) := h
  refine n_putF X hin h 1 0 10 rfl inX1 tyX1 tyX1_ok nmX1 rfl (by decide) fl_X1_43 rfl rfl rfl rfl (Nat.le_of_ble_eq_true rfl) dX1_init_83 (fun H locs h => ?_)
  have h : SN E A s _ _ ([(h0, .inr (1, [.int (iv (0)), .int (iv (0)), .ref (q17), .ref (q25), .ref (q33), .ref (q41), .ref (q49), .ref (q57), .ref (q65), .ref (q73), .ref (q81)])), (q17, .inl (eI E, 10, .inl (fun _ => 0))), (q25, .inl (eI E, 10, .inl (fun _ => 0))), (q33, .inl (eI E, 8, .inl (fun _ => 0))), (q41, .inl (eI E, 8, .inl (fun _ => 0))), (q49, .inl (eI E, 8, .inl (fun _ => 0))), (q57, .inl (eI E, 8, .inl (fun _ => 0))), (q65, .inl (eI E, 8, .inl (fun _ => 0))), (q73, .inl (eI E, 8, .inl (fun _ => 0))), (q81, .inl (eI E, 8, .inl (fun _ => 0)))]) := h
  refine z_iconst X dX1_init_86 ?_
  refine lv_istore_n (lv' := [(1, .int (iv (0))), (0, .ref (h0))]) X.1 X.2.1 dX1_init_87 rfl hl (by decide) rfl (fun ls hl => ?_)
  have L88 : ∀ (fuel_ : Nat) (i : Int) (f : Nat → Int32), (0 ≤ i) → (i ≤ 10) → (∀ j : Int, 0 ≤ j → j < i → f j.toNat = iv ((3 * j) % 10)) → 10 - i < (fuel_ : Int) → ∀ (H : Heap) (locs : List Loc), SN E A s H locs ([(h0, .inr (1, [.int (iv (0)), .int (iv (0)), .ref (q17), .ref (q25), .ref (q33), .ref (q41), .ref (q49), .ref (q57), .ref (q65), .ref (q73), .ref (q81)])), (q17, .inl (eI E, 10, .inl f)), (q25, .inl (eI E, 10, .inl (fun _ => 0))), (q33, .inl (eI E, 8, .inl (fun _ => 0))), (q41, .inl (eI E, 8, .inl (fun _ => 0))), (q49, .inl (eI E, 8, .inl (fun _ => 0))), (q57, .inl (eI E, 8, .inl (fun _ => 0))), (q65, .inl (eI E, 8, .inl (fun _ => 0))), (q73, .inl (eI E, 8, .inl (fun _ => 0))), (q81, .inl (eI E, 8, .inl (fun _ => 0)))]) → ∀ ls : Array Slot, lv_has ls 2 [(0, .ref (h0)), (1, .int (iv (i)))] → W pp l e (rmc 1 23 9 76) s m args below meth c H locs 9 76 Q (F0 m 88 ls []) := by
    intro fuel_
    induction fuel_ with
    | zero =>
      intro i f i0 i1 hc hn
      exfalso; omega
    | succ fuel_ ih_88 =>
      intro i f i0 i1 hc hn H locs h ls hl
      refine lv_iload_n X.1 X.2.1 dX1_init_88 rfl (lv_at hl 1 rfl) ?_
      refine z_bipush X (by decide) dX1_init_89 ?_
      refine z_ic_ge (tgt := 112) X ⟨by omega, by omega⟩ ⟨by decide, by decide⟩ dX1_init_91 (by decide) (fun c_91 => ?_) (fun c_91 => ?_)
      · refine lv_aload_n X.1 X.2.1 dX1_init_112 rfl (lv_at hl 0 rfl) ?_
        refine n_get X h 1 0 3 rfl inX1 rfl (by decide) fl_X1_22 rfl dX1_init_113 ?_
        refine z_iconst X dX1_init_116 ?_
        have h : SN E A s H locs ([(h0, .inr (1, [.int (iv (0)), .int (iv (0)), .ref (q17), .ref (q25), .ref (q33), .ref (q41), .ref (q49), .ref (q57), .ref (q65), .ref (q73), .ref (q81)])), (q17, .inl (eI E, 10, .inl f))] ++ ([(q25, .inl (eI E, 10, .inl (fun _ => 0)))] ++ [(q33, .inl (eI E, 8, .inl (fun _ => 0))), (q41, .inl (eI E, 8, .inl (fun _ => 0))), (q49, .inl (eI E, 8, .inl (fun _ => 0))), (q57, .inl (eI E, 8, .inl (fun _ => 0))), (q65, .inl (eI E, 8, .inl (fun _ => 0))), (q73, .inl (eI E, 8, .inl (fun _ => 0))), (q81, .inl (eI E, 8, .inl (fun _ => 0)))])) := h
        refine n_wv h (run_Sn (rest := []) X h (c_fillI10 (x9 := iv ((-1)))) mi_J7_fill_53178 ml_X1_46 ⟨(Nat.le_of_ble_eq_true rfl), (Nat.le_of_ble_eq_true rfl)⟩ ⟨rfl, rfl⟩ (Seg.mk' _ _) rfl hl.1 rfl (Nat.le_of_ble_eq_true rfl) ⟨(Nat.le_of_ble_eq_true rfl), (Nat.le_of_ble_eq_true rfl)⟩ dX1_init_117) (fun _ => rfl) (fun f117 H locs hf117 h => ?_)
        have h : SN E A s _ _ ([(h0, .inr (1, [.int (iv (0)), .int (iv (0)), .ref (q17), .ref (q25), .ref (q33), .ref (q41), .ref (q49), .ref (q57), .ref (q65), .ref (q73), .ref (q81)])), (q17, .inl (eI E, 10, .inl f)), (q25, .inl (eI E, 10, .inl f117)), (q33, .inl (eI E, 8, .inl (fun _ => 0))), (q41, .inl (eI E, 8, .inl (fun _ => 0))), (q49, .inl (eI E, 8, .inl (fun _ => 0))), (q57, .inl (eI E, 8, .inl (fun _ => 0))), (q65, .inl (eI E, 8, .inl (fun _ => 0))), (q73, .inl (eI E, 8, .inl (fun _ => 0))), (q81, .inl (eI E, 8, .inl (fun _ => 0)))]) := h
        refine lv_aload_n X.1 X.2.1 dX1_init_120 rfl (lv_at hl 0 rfl) ?_
        refine n_get X h 1 0 5 rfl inX1 rfl (by decide) fl_X1_28 rfl dX1_init_121 ?_
        refine z_iconst X dX1_init_124 ?_
        have h : SN E A s H locs ([(h0, .inr (1, [.int (iv (0)), .int (iv (0)), .ref (q17), .ref (q25), .ref (q33), .ref (q41), .ref (q49), .ref (q57), .ref (q65), .ref (q73), .ref (q81)])), (q17, .inl (eI E, 10, .inl f)), (q25, .inl (eI E, 10, .inl f117)), (q33, .inl (eI E, 8, .inl (fun _ => 0)))] ++ ([(q41, .inl (eI E, 8, .inl (fun _ => 0)))] ++ [(q49, .inl (eI E, 8, .inl (fun _ => 0))), (q57, .inl (eI E, 8, .inl (fun _ => 0))), (q65, .inl (eI E, 8, .inl (fun _ => 0))), (q73, .inl (eI E, 8, .inl (fun _ => 0))), (q81, .inl (eI E, 8, .inl (fun _ => 0)))])) := h
        refine n_wv h (run_Sn (rest := []) X h (c_fillI8 (x9 := iv ((-1)))) mi_J7_fill_53178 ml_X1_46 ⟨(Nat.le_of_ble_eq_true rfl), (Nat.le_of_ble_eq_true rfl)⟩ ⟨rfl, rfl⟩ (Seg.mk' _ _) rfl hl.1 rfl (Nat.le_of_ble_eq_true rfl) ⟨(Nat.le_of_ble_eq_true rfl), (Nat.le_of_ble_eq_true rfl)⟩ dX1_init_125) (fun _ => rfl) (fun f125 H locs hf125 h => ?_)
        have h : SN E A s _ _ ([(h0, .inr (1, [.int (iv (0)), .int (iv (0)), .ref (q17), .ref (q25), .ref (q33), .ref (q41), .ref (q49), .ref (q57), .ref (q65), .ref (q73), .ref (q81)])), (q17, .inl (eI E, 10, .inl f)), (q25, .inl (eI E, 10, .inl f117)), (q33, .inl (eI E, 8, .inl (fun _ => 0))), (q41, .inl (eI E, 8, .inl f125)), (q49, .inl (eI E, 8, .inl (fun _ => 0))), (q57, .inl (eI E, 8, .inl (fun _ => 0))), (q65, .inl (eI E, 8, .inl (fun _ => 0))), (q73, .inl (eI E, 8, .inl (fun _ => 0))), (q81, .inl (eI E, 8, .inl (fun _ => 0)))]) := h
        exact ret _ _ _ _ ((fun j => [h0, q17, q25, q33, q41, q49, q57, q65, q73, q81].getD j 0), (f, f117, (fun _ => 0), f125, (fun _ => 0), (fun _ => 0), (fun _ => 0), (fun _ => 0), (fun _ => 0))) h ⟨rfl, RS_0 (fun j j0 j1 => hc j j0 (by omega)) hf117⟩ dX1_init_128
      · refine lv_aload_n X.1 X.2.1 dX1_init_94 rfl (lv_at hl 0 rfl) ?_
        refine n_get X h 1 0 2 rfl inX1 rfl (by decide) fl_X1_18 rfl dX1_init_95 ?_
        refine lv_iload_n X.1 X.2.1 dX1_init_98 rfl (lv_at hl 1 rfl) ?_
        refine z_iconst X dX1_init_99 ?_
        refine lv_iload_n X.1 X.2.1 dX1_init_100 rfl (lv_at hl 1 rfl) ?_
        refine z_imul X dX1_init_101 ?_
        refine z_bipush X (by decide) dX1_init_102 ?_
        refine z_irem X (by omega) (by omega) (by omega) (by omega) dX1_init_104 ?_
        refine n_iast X h 1 rfl (by omega) (by omega) (by decide) dX1_init_105 (fun H locs h => ?_)
        have h : SN E A s _ _ ([(h0, .inr (1, [.int (iv (0)), .int (iv (0)), .ref (q17), .ref (q25), .ref (q33), .ref (q41), .ref (q49), .ref (q57), .ref (q65), .ref (q73), .ref (q81)])), (q17, .inl (eI E, 10, .inl (upd f (i : Int).toNat (iv ((3 * i) % (10)))))), (q25, .inl (eI E, 10, .inl (fun _ => 0))), (q33, .inl (eI E, 8, .inl (fun _ => 0))), (q41, .inl (eI E, 8, .inl (fun _ => 0))), (q49, .inl (eI E, 8, .inl (fun _ => 0))), (q57, .inl (eI E, 8, .inl (fun _ => 0))), (q65, .inl (eI E, 8, .inl (fun _ => 0))), (q73, .inl (eI E, 8, .inl (fun _ => 0))), (q81, .inl (eI E, 8, .inl (fun _ => 0)))]) := h
        refine z_iinc (k := 1) (lv' := [(1, .int (iv (i + 1))), (0, .ref (h0))]) X dX1_init_106 hl rfl (by decide) rfl (fun ls hl => ?_)
        refine lv_goto (tgt := 88) X.1 X.2.1 dX1_init_109 (by decide) ?_
        exact ih_88 (i + 1) ((upd f (i : Int).toNat (iv ((3 * i) % (10))))) (by omega) (by omega) (sun_step i0 hc) (by omega) _ _ h ls (lv_sub hl [1, 0] rfl)
  exact L88 ((10 - (0) : Int).toNat + 1) (0) (fun _ => 0) (by omega) (by omega) (fun j j0 j1 => absurd j1 (by omega)) (by omega) _ _ h ls (lv_sub hl [1, 0] rfl)

set_option maxHeartbeats 4000000 in
theorem c_X5_init : MN (S := (Nat → Nat) × Mc) E l (fun _ => True) yX5_init cX5_init 2 (rmc 1 20 9 467) 9 467 ([(h0, .inr (4, [.null, .null, .null, .int (iv (0)), .null, .null, .null, .int (iv (0)), .int (iv (0)), .int (iv (0)), .int (iv (0)), .int (iv (0)), .int (iv (0)), .null, .null, .null]))]) [.ref (h0)] (fun u => u.1 0 = h0 ∧ RepM u.2 Sg0) (fun u => wM E u.1 u.2) := by
  refine goN (S := (Nat → Nat) × Mc) (post := fun u => u.1 0 = h0 ∧ RepM u.2 Sg0) (ws' := fun u => wM E u.1 u.2) (by decide) rfl (Nat.le_of_ble_eq_true rfl) ?_
  intro A pp e s m below meth c ls args Q ret X hin hG h hl
  have hl : lv_has ls 2 [(0, .ref (h0))] := hl
  refine lv_aload_n X.1 X.2.1 dX5_init_0 rfl (lv_at hl 0 rfl) ?_
  refine n_obj X hl.1 ml_X5_3 (Nat.le_of_ble_eq_true rfl) (Nat.le_of_ble_eq_true rfl) dX5_init_1 ?_
  refine lv_aload_n X.1 X.2.1 dX5_init_4 rfl (lv_at hl 0 rfl) ?_
  refine z_bipush X (by decide) dX5_init_5 ?_
  refine n_newi (N := 52) X h rfl (by decide) (Nat.le_of_ble_eq_true rfl) (Nat.le_of_ble_eq_true rfl) (Nat.le_of_ble_eq_true rfl) dX5_init_7 (fun q7 H h => ?_)
  have h : SN E A s _ _ ([(h0, .inr (4, [.null, .null, .null, .int (iv (0)), .null, .null, .null, .int (iv (0)), .int (iv (0)), .int (iv (0)), .int (iv (0)), .int (iv (0)), .int (iv (0)), .null, .null, .null])), (q7, .inl (eI E, 52, .inl (fun _ => 0)))]) := h
  refine n_putF X hin h 4 0 0 rfl inX5 tyX5 tyX5_ok nmX5 rfl (by decide) fl_X5_9 rfl rfl rfl rfl (Nat.le_of_ble_eq_true rfl) dX5_init_9 (fun H locs h => ?_)
  have h : SN E A s _ _ ([(h0, .inr (4, [.ref (q7), .null, .null, .int (iv (0)), .null, .null, .null, .int (iv (0)), .int (iv (0)), .int (iv (0)), .int (iv (0)), .int (iv (0)), .int (iv (0)), .null, .null, .null])), (q7, .inl (eI E, 52, .inl (fun _ => 0)))]) := h
  refine lv_aload_n X.1 X.2.1 dX5_init_12 rfl (lv_at hl 0 rfl) ?_
  refine z_bipush X (by decide) dX5_init_13 ?_
  refine n_newi (N := 52) X h rfl (by decide) (Nat.le_of_ble_eq_true rfl) (Nat.le_of_ble_eq_true rfl) (Nat.le_of_ble_eq_true rfl) dX5_init_15 (fun q15 H h => ?_)
  have h : SN E A s _ _ ([(h0, .inr (4, [.ref (q7), .null, .null, .int (iv (0)), .null, .null, .null, .int (iv (0)), .int (iv (0)), .int (iv (0)), .int (iv (0)), .int (iv (0)), .int (iv (0)), .null, .null, .null])), (q7, .inl (eI E, 52, .inl (fun _ => 0))), (q15, .inl (eI E, 52, .inl (fun _ => 0)))]) := h
  refine n_putF X hin h 4 0 1 rfl inX5 tyX5 tyX5_ok nmX5 rfl (by decide) fl_X5_13 rfl rfl rfl rfl (Nat.le_of_ble_eq_true rfl) dX5_init_17 (fun H locs h => ?_)
  have h : SN E A s _ _ ([(h0, .inr (4, [.ref (q7), .ref (q15), .null, .int (iv (0)), .null, .null, .null, .int (iv (0)), .int (iv (0)), .int (iv (0)), .int (iv (0)), .int (iv (0)), .int (iv (0)), .null, .null, .null])), (q7, .inl (eI E, 52, .inl (fun _ => 0))), (q15, .inl (eI E, 52, .inl (fun _ => 0)))]) := h
  refine lv_aload_n X.1 X.2.1 dX5_init_20 rfl (lv_at hl 0 rfl) ?_
  refine z_bipush X (by decide) dX5_init_21 ?_
  refine n_newi (N := 52) X h rfl (by decide) (Nat.le_of_ble_eq_true rfl) (Nat.le_of_ble_eq_true rfl) (Nat.le_of_ble_eq_true rfl) dX5_init_23 (fun q23 H h => ?_)
  have h : SN E A s _ _ ([(h0, .inr (4, [.ref (q7), .ref (q15), .null, .int (iv (0)), .null, .null, .null, .int (iv (0)), .int (iv (0)), .int (iv (0)), .int (iv (0)), .int (iv (0)), .int (iv (0)), .null, .null, .null])), (q7, .inl (eI E, 52, .inl (fun _ => 0))), (q15, .inl (eI E, 52, .inl (fun _ => 0))), (q23, .inl (eI E, 52, .inl (fun _ => 0)))]) := h
  refine n_putF X hin h 4 0 2 rfl inX5 tyX5 tyX5_ok nmX5 rfl (by decide) fl_X5_16 rfl rfl rfl rfl (Nat.le_of_ble_eq_true rfl) dX5_init_25 (fun H locs h => ?_)
  have h : SN E A s _ _ ([(h0, .inr (4, [.ref (q7), .ref (q15), .ref (q23), .int (iv (0)), .null, .null, .null, .int (iv (0)), .int (iv (0)), .int (iv (0)), .int (iv (0)), .int (iv (0)), .int (iv (0)), .null, .null, .null])), (q7, .inl (eI E, 52, .inl (fun _ => 0))), (q15, .inl (eI E, 52, .inl (fun _ => 0))), (q23, .inl (eI E, 52, .inl (fun _ => 0)))]) := h
  refine lv_aload_n X.1 X.2.1 dX5_init_28 rfl (lv_at hl 0 rfl) ?_
  refine z_bipush X (by decide) dX5_init_29 ?_
  refine n_newi (N := 7) X h rfl (by decide) (Nat.le_of_ble_eq_true rfl) (Nat.le_of_ble_eq_true rfl) (Nat.le_of_ble_eq_true rfl) dX5_init_31 (fun q31 H h => ?_)
  have h : SN E A s _ _ ([(h0, .inr (4, [.ref (q7), .ref (q15), .ref (q23), .int (iv (0)), .null, .null, .null, .int (iv (0)), .int (iv (0)), .int (iv (0)), .int (iv (0)), .int (iv (0)), .int (iv (0)), .null, .null, .null])), (q7, .inl (eI E, 52, .inl (fun _ => 0))), (q15, .inl (eI E, 52, .inl (fun _ => 0))), (q23, .inl (eI E, 52, .inl (fun _ => 0))), (q31, .inl (eI E, 7, .inl (fun _ => 0)))]) := h
  refine n_putF X hin h 4 0 4 rfl inX5 tyX5 tyX5_ok nmX5 rfl (by decide) fl_X5_19 rfl rfl rfl rfl (Nat.le_of_ble_eq_true rfl) dX5_init_33 (fun H locs h => ?_)
  have h : SN E A s _ _ ([(h0, .inr (4, [.ref (q7), .ref (q15), .ref (q23), .int (iv (0)), .ref (q31), .null, .null, .int (iv (0)), .int (iv (0)), .int (iv (0)), .int (iv (0)), .int (iv (0)), .int (iv (0)), .null, .null, .null])), (q7, .inl (eI E, 52, .inl (fun _ => 0))), (q15, .inl (eI E, 52, .inl (fun _ => 0))), (q23, .inl (eI E, 52, .inl (fun _ => 0))), (q31, .inl (eI E, 7, .inl (fun _ => 0)))]) := h
  refine lv_aload_n X.1 X.2.1 dX5_init_36 rfl (lv_at hl 0 rfl) ?_
  refine z_bipush X (by decide) dX5_init_37 ?_
  refine n_newi (N := 16) X h rfl (by decide) (Nat.le_of_ble_eq_true rfl) (Nat.le_of_ble_eq_true rfl) (Nat.le_of_ble_eq_true rfl) dX5_init_39 (fun q39 H h => ?_)
  have h : SN E A s _ _ ([(h0, .inr (4, [.ref (q7), .ref (q15), .ref (q23), .int (iv (0)), .ref (q31), .null, .null, .int (iv (0)), .int (iv (0)), .int (iv (0)), .int (iv (0)), .int (iv (0)), .int (iv (0)), .null, .null, .null])), (q7, .inl (eI E, 52, .inl (fun _ => 0))), (q15, .inl (eI E, 52, .inl (fun _ => 0))), (q23, .inl (eI E, 52, .inl (fun _ => 0))), (q31, .inl (eI E, 7, .inl (fun _ => 0))), (q39, .inl (eI E, 16, .inl (fun _ => 0)))]) := h
  refine n_putF X hin h 4 0 5 rfl inX5 tyX5 tyX5_ok nmX5 rfl (by decide) fl_X5_22 rfl rfl rfl rfl (Nat.le_of_ble_eq_true rfl) dX5_init_41 (fun H locs h => ?_)
  have h : SN E A s _ _ ([(h0, .inr (4, [.ref (q7), .ref (q15), .ref (q23), .int (iv (0)), .ref (q31), .ref (q39), .null, .int (iv (0)), .int (iv (0)), .int (iv (0)), .int (iv (0)), .int (iv (0)), .int (iv (0)), .null, .null, .null])), (q7, .inl (eI E, 52, .inl (fun _ => 0))), (q15, .inl (eI E, 52, .inl (fun _ => 0))), (q23, .inl (eI E, 52, .inl (fun _ => 0))), (q31, .inl (eI E, 7, .inl (fun _ => 0))), (q39, .inl (eI E, 16, .inl (fun _ => 0)))]) := h
  refine lv_aload_n X.1 X.2.1 dX5_init_44 rfl (lv_at hl 0 rfl) ?_
  refine z_bipush X (by decide) dX5_init_45 ?_
  refine n_newi (N := 120) X h rfl (by decide) (Nat.le_of_ble_eq_true rfl) (Nat.le_of_ble_eq_true rfl) (Nat.le_of_ble_eq_true rfl) dX5_init_47 (fun q47 H h => ?_)
  have h : SN E A s _ _ ([(h0, .inr (4, [.ref (q7), .ref (q15), .ref (q23), .int (iv (0)), .ref (q31), .ref (q39), .null, .int (iv (0)), .int (iv (0)), .int (iv (0)), .int (iv (0)), .int (iv (0)), .int (iv (0)), .null, .null, .null])), (q7, .inl (eI E, 52, .inl (fun _ => 0))), (q15, .inl (eI E, 52, .inl (fun _ => 0))), (q23, .inl (eI E, 52, .inl (fun _ => 0))), (q31, .inl (eI E, 7, .inl (fun _ => 0))), (q39, .inl (eI E, 16, .inl (fun _ => 0))), (q47, .inl (eI E, 120, .inl (fun _ => 0)))]) := h
  refine n_putF X hin h 4 0 6 rfl inX5 tyX5 tyX5_ok nmX5 rfl (by decide) fl_X5_25 rfl rfl rfl rfl (Nat.le_of_ble_eq_true rfl) dX5_init_49 (fun H locs h => ?_)
  have h : SN E A s _ _ ([(h0, .inr (4, [.ref (q7), .ref (q15), .ref (q23), .int (iv (0)), .ref (q31), .ref (q39), .ref (q47), .int (iv (0)), .int (iv (0)), .int (iv (0)), .int (iv (0)), .int (iv (0)), .int (iv (0)), .null, .null, .null])), (q7, .inl (eI E, 52, .inl (fun _ => 0))), (q15, .inl (eI E, 52, .inl (fun _ => 0))), (q23, .inl (eI E, 52, .inl (fun _ => 0))), (q31, .inl (eI E, 7, .inl (fun _ => 0))), (q39, .inl (eI E, 16, .inl (fun _ => 0))), (q47, .inl (eI E, 120, .inl (fun _ => 0)))]) := h
  refine lv_aload_n X.1 X.2.1 dX5_init_52 rfl (lv_at hl 0 rfl) ?_
  refine z_iconst X dX5_init_53 ?_
  refine n_newi (N := 4) X h rfl (by decide) (Nat.le_of_ble_eq_true rfl) (Nat.le_of_ble_eq_true rfl) (Nat.le_of_ble_eq_true rfl) dX5_init_54 (fun q54 H h => ?_)
  have h : SN E A s _ _ ([(h0, .inr (4, [.ref (q7), .ref (q15), .ref (q23), .int (iv (0)), .ref (q31), .ref (q39), .ref (q47), .int (iv (0)), .int (iv (0)), .int (iv (0)), .int (iv (0)), .int (iv (0)), .int (iv (0)), .null, .null, .null])), (q7, .inl (eI E, 52, .inl (fun _ => 0))), (q15, .inl (eI E, 52, .inl (fun _ => 0))), (q23, .inl (eI E, 52, .inl (fun _ => 0))), (q31, .inl (eI E, 7, .inl (fun _ => 0))), (q39, .inl (eI E, 16, .inl (fun _ => 0))), (q47, .inl (eI E, 120, .inl (fun _ => 0))), (q54, .inl (eI E, 4, .inl (fun _ => 0)))]) := h
  refine n_putF X hin h 4 0 13 rfl inX5 tyX5 tyX5_ok nmX5 rfl (by decide) fl_X5_28 rfl rfl rfl rfl (Nat.le_of_ble_eq_true rfl) dX5_init_56 (fun H locs h => ?_)
  have h : SN E A s _ _ ([(h0, .inr (4, [.ref (q7), .ref (q15), .ref (q23), .int (iv (0)), .ref (q31), .ref (q39), .ref (q47), .int (iv (0)), .int (iv (0)), .int (iv (0)), .int (iv (0)), .int (iv (0)), .int (iv (0)), .ref (q54), .null, .null])), (q7, .inl (eI E, 52, .inl (fun _ => 0))), (q15, .inl (eI E, 52, .inl (fun _ => 0))), (q23, .inl (eI E, 52, .inl (fun _ => 0))), (q31, .inl (eI E, 7, .inl (fun _ => 0))), (q39, .inl (eI E, 16, .inl (fun _ => 0))), (q47, .inl (eI E, 120, .inl (fun _ => 0))), (q54, .inl (eI E, 4, .inl (fun _ => 0)))]) := h
  refine lv_aload_n X.1 X.2.1 dX5_init_59 rfl (lv_at hl 0 rfl) ?_
  refine z_iconst X dX5_init_60 ?_
  refine n_newi (N := 4) X h rfl (by decide) (Nat.le_of_ble_eq_true rfl) (Nat.le_of_ble_eq_true rfl) (Nat.le_of_ble_eq_true rfl) dX5_init_61 (fun q61 H h => ?_)
  have h : SN E A s _ _ ([(h0, .inr (4, [.ref (q7), .ref (q15), .ref (q23), .int (iv (0)), .ref (q31), .ref (q39), .ref (q47), .int (iv (0)), .int (iv (0)), .int (iv (0)), .int (iv (0)), .int (iv (0)), .int (iv (0)), .ref (q54), .null, .null])), (q7, .inl (eI E, 52, .inl (fun _ => 0))), (q15, .inl (eI E, 52, .inl (fun _ => 0))), (q23, .inl (eI E, 52, .inl (fun _ => 0))), (q31, .inl (eI E, 7, .inl (fun _ => 0))), (q39, .inl (eI E, 16, .inl (fun _ => 0))), (q47, .inl (eI E, 120, .inl (fun _ => 0))), (q54, .inl (eI E, 4, .inl (fun _ => 0))), (q61, .inl (eI E, 4, .inl (fun _ => 0)))]) := h
  refine n_putF X hin h 4 0 14 rfl inX5 tyX5 tyX5_ok nmX5 rfl (by decide) fl_X5_31 rfl rfl rfl rfl (Nat.le_of_ble_eq_true rfl) dX5_init_63 (fun H locs h => ?_)
  have h : SN E A s _ _ ([(h0, .inr (4, [.ref (q7), .ref (q15), .ref (q23), .int (iv (0)), .ref (q31), .ref (q39), .ref (q47), .int (iv (0)), .int (iv (0)), .int (iv (0)), .int (iv (0)), .int (iv (0)), .int (iv (0)), .ref (q54), .ref (q61), .null])), (q7, .inl (eI E, 52, .inl (fun _ => 0))), (q15, .inl (eI E, 52, .inl (fun _ => 0))), (q23, .inl (eI E, 52, .inl (fun _ => 0))), (q31, .inl (eI E, 7, .inl (fun _ => 0))), (q39, .inl (eI E, 16, .inl (fun _ => 0))), (q47, .inl (eI E, 120, .inl (fun _ => 0))), (q54, .inl (eI E, 4, .inl (fun _ => 0))), (q61, .inl (eI E, 4, .inl (fun _ => 0)))]) := h
  refine lv_aload_n X.1 X.2.1 dX5_init_66 rfl (lv_at hl 0 rfl) ?_
  refine z_sipush X (by decide) dX5_init_67 ?_
  refine n_newl (N := 160) X h rfl (by decide) (Nat.le_of_ble_eq_true rfl) (Nat.le_of_ble_eq_true rfl) (Nat.le_of_ble_eq_true rfl) dX5_init_70 (fun q70 H h => ?_)
  have h : SN E A s _ _ ([(h0, .inr (4, [.ref (q7), .ref (q15), .ref (q23), .int (iv (0)), .ref (q31), .ref (q39), .ref (q47), .int (iv (0)), .int (iv (0)), .int (iv (0)), .int (iv (0)), .int (iv (0)), .int (iv (0)), .ref (q54), .ref (q61), .null])), (q7, .inl (eI E, 52, .inl (fun _ => 0))), (q15, .inl (eI E, 52, .inl (fun _ => 0))), (q23, .inl (eI E, 52, .inl (fun _ => 0))), (q31, .inl (eI E, 7, .inl (fun _ => 0))), (q39, .inl (eI E, 16, .inl (fun _ => 0))), (q47, .inl (eI E, 120, .inl (fun _ => 0))), (q54, .inl (eI E, 4, .inl (fun _ => 0))), (q61, .inl (eI E, 4, .inl (fun _ => 0))), (q70, .inl (eJ E, 160, .inr (.inl (fun _ => 0))))]) := h
  refine n_putF X hin h 4 0 15 rfl inX5 tyX5 tyX5_ok nmX5 rfl (by decide) fl_X5_34 rfl rfl rfl rfl (Nat.le_of_ble_eq_true rfl) dX5_init_72 (fun H locs h => ?_)
  have h : SN E A s _ _ ([(h0, .inr (4, [.ref (q7), .ref (q15), .ref (q23), .int (iv (0)), .ref (q31), .ref (q39), .ref (q47), .int (iv (0)), .int (iv (0)), .int (iv (0)), .int (iv (0)), .int (iv (0)), .int (iv (0)), .ref (q54), .ref (q61), .ref (q70)])), (q7, .inl (eI E, 52, .inl (fun _ => 0))), (q15, .inl (eI E, 52, .inl (fun _ => 0))), (q23, .inl (eI E, 52, .inl (fun _ => 0))), (q31, .inl (eI E, 7, .inl (fun _ => 0))), (q39, .inl (eI E, 16, .inl (fun _ => 0))), (q47, .inl (eI E, 120, .inl (fun _ => 0))), (q54, .inl (eI E, 4, .inl (fun _ => 0))), (q61, .inl (eI E, 4, .inl (fun _ => 0))), (q70, .inl (eJ E, 160, .inr (.inl (fun _ => 0))))]) := h
  refine z_iconst X dX5_init_75 ?_
  refine lv_istore_n (lv' := [(1, .int (iv (0))), (0, .ref (h0))]) X.1 X.2.1 dX5_init_76 rfl hl (by decide) rfl (fun ls hl => ?_)
  have L77 : ∀ (fuel_ : Nat) (i : Int) (f : Nat → Int32), (0 ≤ i) → (i ≤ 10) → (f 0 = iv 0 ∧ f 1 = iv 0 ∧ ∀ j : Int, 0 ≤ j → j < i → f (2 + j).toNat = iv ((3 * j) % 10)) → 10 - i < (fuel_ : Int) → ∀ (H : Heap) (locs : List Loc), SN E A s H locs ([(h0, .inr (4, [.ref (q7), .ref (q15), .ref (q23), .int (iv (0)), .ref (q31), .ref (q39), .ref (q47), .int (iv (0)), .int (iv (0)), .int (iv (0)), .int (iv (0)), .int (iv (0)), .int (iv (0)), .ref (q54), .ref (q61), .ref (q70)])), (q7, .inl (eI E, 52, .inl f)), (q15, .inl (eI E, 52, .inl (fun _ => 0))), (q23, .inl (eI E, 52, .inl (fun _ => 0))), (q31, .inl (eI E, 7, .inl (fun _ => 0))), (q39, .inl (eI E, 16, .inl (fun _ => 0))), (q47, .inl (eI E, 120, .inl (fun _ => 0))), (q54, .inl (eI E, 4, .inl (fun _ => 0))), (q61, .inl (eI E, 4, .inl (fun _ => 0))), (q70, .inl (eJ E, 160, .inr (.inl (fun _ => 0))))]) → ∀ ls : Array Slot, lv_has ls 2 [(0, .ref (h0)), (1, .int (iv (i)))] → W pp l e (rmc 1 20 9 467) s m args below meth c H locs 9 467 Q (F0 m 77 ls []) := by
    intro fuel_
    induction fuel_ with
    | zero =>
      intro i f i0 i1 hc hn
      exfalso; omega
    | succ fuel_ ih_77 =>
      intro i f i0 i1 hc hn H locs h ls hl
      refine lv_iload_n X.1 X.2.1 dX5_init_77 rfl (lv_at hl 1 rfl) ?_
      refine z_bipush X (by decide) dX5_init_78 ?_
      refine z_ic_ge (tgt := 103) X ⟨by omega, by omega⟩ ⟨by decide, by decide⟩ dX5_init_80 (by decide) (fun c_80 => ?_) (fun c_80 => ?_)
      · exact ret _ _ _ _ ((fun j => [h0, q7, q15, q23, q31, q39, q47, q54, q61, q70].getD j 0), (f, fun _ => 0, fun _ => 0, iv 0, fun _ => 0, fun _ => 0, fun _ => 0, iv 0, iv 0, iv 0, iv 0, iv 0, iv 0, fun _ => 0, fun _ => 0, fun _ => 0)) h ⟨rfl, RepM_0 ⟨hc.1, hc.2.1, fun j j0 j1 => hc.2.2 j j0 (by omega)⟩⟩ dX5_init_103
      · refine lv_aload_n X.1 X.2.1 dX5_init_83 rfl (lv_at hl 0 rfl) ?_
        refine n_get X h 4 0 0 rfl inX5 rfl (by decide) fl_X5_9 rfl dX5_init_84 ?_
        refine z_iconst X dX5_init_87 ?_
        refine lv_iload_n X.1 X.2.1 dX5_init_88 rfl (lv_at hl 1 rfl) ?_
        refine z_iadd X dX5_init_89 ?_
        refine z_iconst X dX5_init_90 ?_
        refine lv_iload_n X.1 X.2.1 dX5_init_91 rfl (lv_at hl 1 rfl) ?_
        refine z_imul X dX5_init_92 ?_
        refine z_bipush X (by decide) dX5_init_93 ?_
        refine z_irem X (by omega) (by omega) (by omega) (by omega) dX5_init_95 ?_
        refine n_iast X h 1 rfl (by omega) (by omega) (by decide) dX5_init_96 (fun H locs h => ?_)
        have h : SN E A s _ _ ([(h0, .inr (4, [.ref (q7), .ref (q15), .ref (q23), .int (iv (0)), .ref (q31), .ref (q39), .ref (q47), .int (iv (0)), .int (iv (0)), .int (iv (0)), .int (iv (0)), .int (iv (0)), .int (iv (0)), .ref (q54), .ref (q61), .ref (q70)])), (q7, .inl (eI E, 52, .inl (upd f (2 + i : Int).toNat (iv ((3 * i) % (10)))))), (q15, .inl (eI E, 52, .inl (fun _ => 0))), (q23, .inl (eI E, 52, .inl (fun _ => 0))), (q31, .inl (eI E, 7, .inl (fun _ => 0))), (q39, .inl (eI E, 16, .inl (fun _ => 0))), (q47, .inl (eI E, 120, .inl (fun _ => 0))), (q54, .inl (eI E, 4, .inl (fun _ => 0))), (q61, .inl (eI E, 4, .inl (fun _ => 0))), (q70, .inl (eJ E, 160, .inr (.inl (fun _ => 0))))]) := h
        refine z_iinc (k := 1) (lv' := [(1, .int (iv (i + 1))), (0, .ref (h0))]) X dX5_init_97 hl rfl (by decide) rfl (fun ls hl => ?_)
        refine lv_goto (tgt := 77) X.1 X.2.1 dX5_init_100 (by decide) ?_
        exact ih_77 (i + 1) ((upd f (2 + i : Int).toNat (iv ((3 * i) % (10))))) (by omega) (by omega) (sunM_step i0 hc) (by omega) _ _ h ls (lv_sub hl [1, 0] rfl)
  exact L77 ((10 - (0) : Int).toNat + 1) (0) (fun _ => 0) (by omega) (by omega) (⟨rfl, rfl, fun j j0 j1 => absurd j1 (by omega)⟩) (by omega) _ _ h ls (lv_sub hl [1, 0] rfl)
