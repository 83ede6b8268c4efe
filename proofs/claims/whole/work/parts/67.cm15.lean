variable {E : EV} {l : Launch} {x : Nat → Nat} {tp : Nat → Int32} {tq : Int → Int} {tn pt ke : Int} {e1 e2 e3 e4 : Int32}
set_option maxHeartbeats 4000000 in
theorem c_X2_isLetter {b9 : Int} (r9 : r32 b9) : MP E l yX2_isLetter cX2_isLetter 1 (some FieldType.boolean) (rmk 0 0) ([]) [.int (iv (b9))] (bz (97 ≤ b9 ∧ b9 ≤ 122)) := by
  refine goB (by decide) (Nat.le_of_ble_eq_true rfl) ?_
  intro pp e s m below meth c ls args Q ret X h hl
  have hl : lv_has ls 1 [(0, .int (iv (b9)))] := hl
  refine lv_iload_n X.1 X.2.1 dX2_isLetter_0 rfl (lv_at hl 0 rfl) ?_
  refine z_bipush X (by decide) dX2_isLetter_1 ?_
  refine z_ic_lt (tgt := 16) X r9 ⟨by decide, by decide⟩ dX2_isLetter_3 (by decide) (fun c_3 => ?_) (fun c_3 => ?_)
  · refine z_iconst X dX2_isLetter_16 ?_
    exact ret _ _ _ ((bz_f (by omega)).symm) dX2_isLetter_17
  · refine lv_iload_n X.1 X.2.1 dX2_isLetter_6 rfl (lv_at hl 0 rfl) ?_
    refine z_bipush X (by decide) dX2_isLetter_7 ?_
    refine z_ic_gt (tgt := 16) X r9 ⟨by decide, by decide⟩ dX2_isLetter_9 (by decide) (fun c_9 => ?_) (fun c_9 => ?_)
    · refine z_iconst X dX2_isLetter_16 ?_
      exact ret _ _ _ ((bz_f (by omega)).symm) dX2_isLetter_17
    · refine z_iconst X dX2_isLetter_12 ?_
      refine lv_goto (tgt := 17) X.1 X.2.1 dX2_isLetter_13 (by decide) ?_
      exact ret _ _ _ ((bz_t (by omega)).symm) dX2_isLetter_17

set_option maxHeartbeats 4000000 in
theorem c_X2_isDigit {b9 : Int} (r9 : r32 b9) : MP E l yX2_isDigit cX2_isDigit 1 (some FieldType.boolean) (rmk 0 0) ([]) [.int (iv (b9))] (bz (48 ≤ b9 ∧ b9 ≤ 57)) := by
  refine goB (by decide) (Nat.le_of_ble_eq_true rfl) ?_
  intro pp e s m below meth c ls args Q ret X h hl
  have hl : lv_has ls 1 [(0, .int (iv (b9)))] := hl
  refine lv_iload_n X.1 X.2.1 dX2_isDigit_0 rfl (lv_at hl 0 rfl) ?_
  refine z_bipush X (by decide) dX2_isDigit_1 ?_
  refine z_ic_lt (tgt := 16) X r9 ⟨by decide, by decide⟩ dX2_isDigit_3 (by decide) (fun c_3 => ?_) (fun c_3 => ?_)
  · refine z_iconst X dX2_isDigit_16 ?_
    exact ret _ _ _ ((bz_f (by omega)).symm) dX2_isDigit_17
  · refine lv_iload_n X.1 X.2.1 dX2_isDigit_6 rfl (lv_at hl 0 rfl) ?_
    refine z_bipush X (by decide) dX2_isDigit_7 ?_
    refine z_ic_gt (tgt := 16) X r9 ⟨by decide, by decide⟩ dX2_isDigit_9 (by decide) (fun c_9 => ?_) (fun c_9 => ?_)
    · refine z_iconst X dX2_isDigit_16 ?_
      exact ret _ _ _ ((bz_f (by omega)).symm) dX2_isDigit_17
    · refine z_iconst X dX2_isDigit_12 ?_
      refine lv_goto (tgt := 17) X.1 X.2.1 dX2_isDigit_13 (by decide) ?_
      exact ret _ _ _ ((bz_t (by omega)).symm) dX2_isDigit_17

set_option maxHeartbeats 4000000 in
theorem c_X2_passWord (hT : RT tp tq tn) (k0 : 0 ≤ ke) (k1 : ke ≤ tn) : MV (S := Unit) E l yX2_passWord cX2_passWord 1 (rmk 1 20) (wX E x ((iv (tn))) ((e1)) ((e2)) ((iv (ke))) ((e4)) tp ++ []) [.ref (x 0)] (fun _ => True) (fun _ => wX E x ((iv (tn))) ((e1)) ((e2)) ((iv (run isLt tq tn ke))) ((e4)) tp ++ []) := by
  refine goV (S := Unit) (post := fun _ => True) (ws' := fun _ => wX E x ((iv (tn))) ((e1)) ((e2)) ((iv (run isLt tq tn ke))) ((e4)) tp ++ []) (by decide) (Nat.le_of_ble_eq_true rfl) ?_
  intro pp e s m below meth c ls args Q ret X h hl
  have hl : lv_has ls 1 [(0, .ref (x 0))] := hl
  have t0 := hT.1
  have t1 := hT.2.1
  have L0 : ∀ (fuel_ : Nat) (j : Int), (ke ≤ j) → (j ≤ tn) → (run isLt tq tn ke = run isLt tq tn j) → tn - j < (fuel_ : Int) → ∀ (H : Heap) (locs : List Loc), St E (wX E x ((iv (tn))) ((e1)) ((e2)) ((iv (ke))) ((e4)) tp ++ []) s H locs (wX E x ((iv (tn))) ((e1)) ((e2)) ((iv (j))) ((e4)) tp ++ []) → ∀ ls : Array Slot, lv_has ls 1 [(0, .ref (x 0))] → W pp l e (rmk 1 20) s m args below meth c H locs 0 0 Q (F0 m 0 ls []) := by
    intro fuel_
    induction fuel_ with
    | zero =>
      intro j j0 j1 hj9 hn
      exfalso; omega
    | succ fuel_ ih_0 =>
      intro j j0 j1 hj9 hn H locs h ls hl
      refine lv_aload_n X.1 X.2.1 dX2_passWord_0 rfl (lv_at hl 0 rfl) ?_
      refine z_get X h 2 0 4 rfl inX2 rfl (by decide) fl_X2_25 rfl dX2_passWord_1 ?_
      refine lv_aload_n X.1 X.2.1 dX2_passWord_4 rfl (lv_at hl 0 rfl) ?_
      refine z_get X h 2 0 0 rfl inX2 rfl (by decide) fl_X2_9 rfl dX2_passWord_5 ?_
      refine z_ic_ge (tgt := 39) X ⟨by omega, by omega⟩ ⟨by omega, by omega⟩ dX2_passWord_8 (by decide) (fun c_8 => ?_) (fun c_8 => ?_)
      · have hj : run isLt tq tn ke = j := by rw [hj9]; exact run_stop (fun q => by have := isLt_i.mp q.2; omega)
        exact ret _ _ _ _ () (by rw [hj]; exact h) trivial dX2_passWord_39
      · have tk9 := hT.2.2 j (by omega) (by omega)
        refine lv_aload_n X.1 X.2.1 dX2_passWord_11 rfl (lv_at hl 0 rfl) ?_
        refine z_get X h 2 0 1 rfl inX2 rfl (by decide) fl_X2_15 rfl dX2_passWord_12 ?_
        refine lv_aload_n X.1 X.2.1 dX2_passWord_15 rfl (lv_at hl 0 rfl) ?_
        refine z_get X h 2 0 4 rfl inX2 rfl (by decide) fl_X2_25 rfl dX2_passWord_16 ?_
        refine z_iald (v := tq j) X h 1 rfl (by omega) (by omega) (by decide) (hT.2.2 j (by omega) (by omega)).1 dX2_passWord_19 ?_
        refine z_pi (run_S (rest := []) X h (c_X2_isLetter (b9 := tq j) ⟨by omega, by omega⟩) mi_X2_isLetter ml_X2_113 ⟨Nat.le_of_ble_eq_true rfl, Nat.le_of_ble_eq_true rfl⟩ ⟨rfl, rfl⟩ (Seg.nil _) rfl hl.1 rfl (Nat.le_of_ble_eq_true rfl) ⟨Nat.zero_le _, Nat.zero_le _⟩ dX2_passWord_20) ?_
        refine z_ifb_eq (tgt := 39) X dX2_passWord_23 (by decide) (fun c_23 => ?_) (fun c_23 => ?_)
        · have hj : run isLt tq tn ke = j := by rw [hj9]; exact run_stop (fun q => by have := isLt_i.mp q.2; omega)
          exact ret _ _ _ _ () (by rw [hj]; exact h) trivial dX2_passWord_39
        · refine lv_aload_n X.1 X.2.1 dX2_passWord_26 rfl (lv_at hl 0 rfl) ?_
          refine lv_dup X.1 X.2.1 dX2_passWord_27 rfl ?_
          refine z_get X h 2 0 4 rfl inX2 rfl (by decide) fl_X2_25 rfl dX2_passWord_28 ?_
          refine z_iconst X dX2_passWord_31 ?_
          refine z_iadd X dX2_passWord_32 ?_
          refine s_put X (st_nil h) 2 0 4 rfl inX2 tyX2 tyX2_ok nmX2 rfl (by decide) fl_X2_25 rfl rfl rfl (Nat.le_of_ble_eq_true rfl) dX2_passWord_33 (fun H locs h => ?_)
          have h := (st_lin (st_eq wX_end h))
          have h : St E _ s H locs (wX E x ((iv (tn))) ((e1)) ((e2)) ((iv (j + 1))) ((e4)) tp ++ []) := h
          refine lv_goto (tgt := 0) X.1 X.2.1 dX2_passWord_36 (by decide) ?_
          exact ih_0 (j + 1) (by omega) (by omega) (by rw [hj9]; exact run_step (by omega) (isLt_i.mpr (by omega))) (by omega) _ _ h ls (lv_sub hl [0] rfl)
  exact L0 ((tn - (ke) : Int).toNat + 1) (ke) (by omega) (by omega) (rfl) (by omega) _ _ h ls (lv_sub hl [0] rfl)

set_option maxHeartbeats 4000000 in
theorem c_X2_passNumber (hT : RT tp tq tn) (k0 : 0 ≤ ke) (k1 : ke ≤ tn) : MV (S := Unit) E l yX2_passNumber cX2_passNumber 1 (rmk 1 21) (wX E x ((iv (tn))) ((e1)) ((e2)) ((iv (ke))) ((e4)) tp ++ []) [.ref (x 0)] (fun _ => True) (fun _ => wX E x ((iv (tn))) ((e1)) ((e2)) ((iv (run isDg tq tn ke))) ((iv (nmk tq ke (run isDg tq tn ke - ke).toNat))) tp ++ []) := by
  refine goV (S := Unit) (post := fun _ => True) (ws' := fun _ => wX E x ((iv (tn))) ((e1)) ((e2)) ((iv (run isDg tq tn ke))) ((iv (nmk tq ke (run isDg tq tn ke - ke).toNat))) tp ++ []) (by decide) (Nat.le_of_ble_eq_true rfl) ?_
  intro pp e s m below meth c ls args Q ret X h hl
  have hl : lv_has ls 1 [(0, .ref (x 0))] := hl
  have t0 := hT.1
  have t1 := hT.2.1
  refine lv_aload_n X.1 X.2.1 dX2_passNumber_0 rfl (lv_at hl 0 rfl) ?_
  refine z_iconst X dX2_passNumber_1 ?_
  refine s_put X (st_nil h) 2 0 5 rfl inX2 tyX2 tyX2_ok nmX2 rfl (by decide) fl_X2_28 rfl rfl rfl (Nat.le_of_ble_eq_true rfl) dX2_passNumber_2 (fun H locs h => ?_)
  have h := (st_lin (st_eq wX_number h))
  have h : St E _ s H locs (wX E x ((iv (tn))) ((e1)) ((e2)) ((iv (ke))) ((iv (0))) tp ++ []) := h
  have h : St E (wX E x ((iv (tn))) ((e1)) ((e2)) ((iv (ke))) ((e4)) tp ++ []) s H locs (wX E x ((iv (tn))) ((e1)) ((e2)) ((iv (ke))) ((iv (nmk tq ke (ke - ke).toNat))) tp ++ []) := by rw [show (ke - ke).toNat = 0 by omega]; exact h
  have L5 : ∀ (fuel_ : Nat) (j : Int), (ke ≤ j) → (j ≤ tn) → (run isDg tq tn ke = run isDg tq tn j) → (∀ q, ke ≤ q → q < j → 48 ≤ tq q) → tn - j < (fuel_ : Int) → ∀ (H : Heap) (locs : List Loc), St E (wX E x ((iv (tn))) ((e1)) ((e2)) ((iv (ke))) ((e4)) tp ++ []) s H locs (wX E x ((iv (tn))) ((e1)) ((e2)) ((iv (j))) ((iv (nmk tq ke (j - ke).toNat))) tp ++ []) → ∀ ls : Array Slot, lv_has ls 1 [(0, .ref (x 0))] → W pp l e (rmk 1 21) s m args below meth c H locs 0 0 Q (F0 m 5 ls []) := by
    intro fuel_
    induction fuel_ with
    | zero =>
      intro j j0 j1 hj9 hd9 hn
      exfalso; omega
    | succ fuel_ ih_5 =>
      intro j j0 j1 hj9 hd9 hn H locs h ls hl
      have nr := nmk_rng tq ke (j - ke).toNat (fun k a b => hd9 k a (by omega))
      refine lv_aload_n X.1 X.2.1 dX2_passNumber_5 rfl (lv_at hl 0 rfl) ?_
      refine z_get X h 2 0 4 rfl inX2 rfl (by decide) fl_X2_25 rfl dX2_passNumber_6 ?_
      refine lv_aload_n X.1 X.2.1 dX2_passNumber_9 rfl (lv_at hl 0 rfl) ?_
      refine z_get X h 2 0 0 rfl inX2 rfl (by decide) fl_X2_9 rfl dX2_passNumber_10 ?_
      refine z_ic_ge (tgt := 74) X ⟨by omega, by omega⟩ ⟨by omega, by omega⟩ dX2_passNumber_13 (by decide) (fun c_13 => ?_) (fun c_13 => ?_)
      · have hj : run isDg tq tn ke = j := by rw [hj9]; exact run_stop (fun q => by have := isDg_i.mp q.2; omega)
        exact ret _ _ _ _ () (by rw [hj]; exact h) trivial dX2_passNumber_74
      · have tk9 := hT.2.2 j (by omega) (by omega)
        refine lv_aload_n X.1 X.2.1 dX2_passNumber_16 rfl (lv_at hl 0 rfl) ?_
        refine z_get X h 2 0 1 rfl inX2 rfl (by decide) fl_X2_15 rfl dX2_passNumber_17 ?_
        refine lv_aload_n X.1 X.2.1 dX2_passNumber_20 rfl (lv_at hl 0 rfl) ?_
        refine z_get X h 2 0 4 rfl inX2 rfl (by decide) fl_X2_25 rfl dX2_passNumber_21 ?_
        refine z_iald (v := tq j) X h 1 rfl (by omega) (by omega) (by decide) (hT.2.2 j (by omega) (by omega)).1 dX2_passNumber_24 ?_
        refine z_pi (run_S (rest := []) X h (c_X2_isDigit (b9 := tq j) ⟨by omega, by omega⟩) mi_X2_isDigit ml_X2_119 ⟨Nat.le_of_ble_eq_true rfl, Nat.le_of_ble_eq_true rfl⟩ ⟨rfl, rfl⟩ (Seg.nil _) rfl hl.1 rfl (Nat.le_of_ble_eq_true rfl) ⟨Nat.zero_le _, Nat.zero_le _⟩ dX2_passNumber_25) ?_
        refine z_ifb_eq (tgt := 74) X dX2_passNumber_28 (by decide) (fun c_28 => ?_) (fun c_28 => ?_)
        · have hj : run isDg tq tn ke = j := by rw [hj9]; exact run_stop (fun q => by have := isDg_i.mp q.2; omega)
          exact ret _ _ _ _ () (by rw [hj]; exact h) trivial dX2_passNumber_74
        · refine lv_aload_n X.1 X.2.1 dX2_passNumber_31 rfl (lv_at hl 0 rfl) ?_
          refine z_sipush X (by decide) dX2_passNumber_32 ?_
          refine lv_aload_n X.1 X.2.1 dX2_passNumber_35 rfl (lv_at hl 0 rfl) ?_
          refine z_get X h 2 0 5 rfl inX2 rfl (by decide) fl_X2_28 rfl dX2_passNumber_36 ?_
          refine z_bipush X (by decide) dX2_passNumber_39 ?_
          refine z_imul X dX2_passNumber_41 ?_
          refine lv_aload_n X.1 X.2.1 dX2_passNumber_42 rfl (lv_at hl 0 rfl) ?_
          refine z_get X h 2 0 1 rfl inX2 rfl (by decide) fl_X2_15 rfl dX2_passNumber_43 ?_
          refine lv_aload_n X.1 X.2.1 dX2_passNumber_46 rfl (lv_at hl 0 rfl) ?_
          refine z_get X h 2 0 4 rfl inX2 rfl (by decide) fl_X2_25 rfl dX2_passNumber_47 ?_
          refine z_iald (v := tq j) X h 1 rfl (by omega) (by omega) (by decide) (hT.2.2 j (by omega) (by omega)).1 dX2_passNumber_50 ?_
          refine z_iadd X dX2_passNumber_51 ?_
          refine z_bipush X (by decide) dX2_passNumber_52 ?_
          refine z_isub X dX2_passNumber_54 ?_
          refine z_mmin X ⟨by decide, by decide⟩ ⟨by omega, by omega⟩ ml_X2_125 (Nat.le_of_ble_eq_true rfl) (Nat.le_of_ble_eq_true rfl) (Nat.zero_le _) (Nat.zero_le _) hl.1 dX2_passNumber_55 ?_
          refine s_put X (st_nil h) 2 0 5 rfl inX2 tyX2 tyX2_ok nmX2 rfl (by decide) fl_X2_28 rfl rfl rfl (Nat.le_of_ble_eq_true rfl) dX2_passNumber_58 (fun H locs h => ?_)
          have h := (st_lin (st_eq wX_number h))
          have h : St E _ s H locs (wX E x ((iv (tn))) ((e1)) ((e2)) ((iv (j))) ((iv ((if (nmk tq ke (j - ke).toNat) * 10 + (tq j) - 48 < 1000 then (nmk tq ke (j - ke).toNat) * 10 + (tq j) - 48 else 1000)))) tp ++ []) := h
          refine lv_aload_n X.1 X.2.1 dX2_passNumber_61 rfl (lv_at hl 0 rfl) ?_
          refine lv_dup X.1 X.2.1 dX2_passNumber_62 rfl ?_
          refine z_get X h 2 0 4 rfl inX2 rfl (by decide) fl_X2_25 rfl dX2_passNumber_63 ?_
          refine z_iconst X dX2_passNumber_66 ?_
          refine z_iadd X dX2_passNumber_67 ?_
          refine s_put X (st_nil h) 2 0 4 rfl inX2 tyX2 tyX2_ok nmX2 rfl (by decide) fl_X2_25 rfl rfl rfl (Nat.le_of_ble_eq_true rfl) dX2_passNumber_68 (fun H locs h => ?_)
          have h := (st_lin (st_eq wX_end h))
          have h : St E _ s H locs (wX E x ((iv (tn))) ((e1)) ((e2)) ((iv (j + 1))) ((iv ((if (nmk tq ke (j - ke).toNat) * 10 + (tq j) - 48 < 1000 then (nmk tq ke (j - ke).toNat) * 10 + (tq j) - 48 else 1000)))) tp ++ []) := h
          have h : St E (wX E x ((iv (tn))) ((e1)) ((e2)) ((iv (ke))) ((e4)) tp ++ []) s H locs (wX E x ((iv (tn))) ((e1)) ((e2)) ((iv (j + 1))) ((iv (nmk tq ke (j + 1 - ke).toNat))) tp ++ []) := by rw [nmk_s j0, show (if 1000 < 10 * nmk tq ke (j - ke).toNat + tq j - 48 then (1000 : Int) else 10 * nmk tq ke (j - ke).toNat + tq j - 48) = (if (nmk tq ke (j - ke).toNat) * 10 + (tq j) - 48 < 1000 then (nmk tq ke (j - ke).toNat) * 10 + (tq j) - 48 else 1000) by (repeat' split) <;> omega]; exact h
          refine lv_goto (tgt := 5) X.1 X.2.1 dX2_passNumber_71 (by decide) ?_
          exact ih_5 (j + 1) (by omega) (by omega) (by rw [hj9]; exact run_step (by omega) (isDg_i.mpr (by omega))) (fun q a b => by
                        by_cases e : q = j
                        · rw [e]; omega
                        · exact hd9 q a (by omega)) (by omega) _ _ h ls (lv_sub hl [0] rfl)
  exact L5 ((tn - (ke) : Int).toNat + 1) (ke) (by omega) (by omega) (rfl) (fun q a b => absurd b (by omega)) (by omega) _ _ h ls (lv_sub hl [0] rfl)

set_option maxHeartbeats 4000000 in
theorem c_X2_advance (hT : RT tp tq tn) (p0 : 0 ≤ pt) (p1 : pt ≤ tn) : MV (S := Int32) E l yX2_advance cX2_advance 1 (rmk 2 41) (wX E x ((iv (tn))) ((e1)) ((e2)) ((iv (pt))) ((e4)) tp ++ []) [.ref (x 0)] (fun u => sortT tq tn pt = 2 → u = iv (tV tq tn pt)) (fun u => wX E x ((iv (tn))) ((iv (sortT tq tn pt))) ((iv (tS tq tn pt))) ((iv (tE tq tn pt))) ((u)) tp ++ []) := by
  refine goV (S := Int32) (post := fun u => sortT tq tn pt = 2 → u = iv (tV tq tn pt)) (ws' := fun u => wX E x ((iv (tn))) ((iv (sortT tq tn pt))) ((iv (tS tq tn pt))) ((iv (tE tq tn pt))) ((u)) tp ++ []) (by decide) (Nat.le_of_ble_eq_true rfl) ?_
  intro pp e s m below meth c ls args Q ret X h hl
  have hl : lv_has ls 1 [(0, .ref (x 0))] := hl
  have t0 := hT.1
  have t1 := hT.2.1
  refine lv_aload_n X.1 X.2.1 dX2_advance_0 rfl (lv_at hl 0 rfl) ?_
  refine lv_aload_n X.1 X.2.1 dX2_advance_1 rfl (lv_at hl 0 rfl) ?_
  refine z_get X h 2 0 4 rfl inX2 rfl (by decide) fl_X2_25 rfl dX2_advance_2 ?_
  refine s_put X (st_nil h) 2 0 3 rfl inX2 tyX2 tyX2_ok nmX2 rfl (by decide) fl_X2_22 rfl rfl rfl (Nat.le_of_ble_eq_true rfl) dX2_advance_5 (fun H locs h => ?_)
  have h := (st_lin (st_eq wX_start h))
  have h : St E _ s H locs (wX E x ((iv (tn))) ((e1)) ((iv (pt))) ((iv (pt))) ((e4)) tp ++ []) := h
  have L8 : ∀ (fuel_ : Nat) (k : Int), (pt ≤ k) → (k ≤ tn) → (tS tq tn pt = run isBl tq tn k) → tn - k < (fuel_ : Int) → ∀ (H : Heap) (locs : List Loc), St E (wX E x ((iv (tn))) ((e1)) ((e2)) ((iv (pt))) ((e4)) tp ++ []) s H locs (wX E x ((iv (tn))) ((e1)) ((iv (k))) ((iv (pt))) ((e4)) tp ++ []) → ∀ ls : Array Slot, lv_has ls 1 [(0, .ref (x 0))] → W pp l e (rmk 2 41) s m args below meth c H locs 0 0 Q (F0 m 8 ls []) := by
    intro fuel_
    induction fuel_ with
    | zero =>
      intro k k0 k1 hs9 hn
      exfalso; omega
    | succ fuel_ ih_8 =>
      intro k k0 k1 hs9 hn H locs h ls hl
      refine lv_aload_n X.1 X.2.1 dX2_advance_8 rfl (lv_at hl 0 rfl) ?_
      refine z_get X h 2 0 3 rfl inX2 rfl (by decide) fl_X2_22 rfl dX2_advance_9 ?_
      refine lv_aload_n X.1 X.2.1 dX2_advance_12 rfl (lv_at hl 0 rfl) ?_
      refine z_get X h 2 0 0 rfl inX2 rfl (by decide) fl_X2_9 rfl dX2_advance_13 ?_
      refine z_ic_ge (tgt := 46) X ⟨by omega, by omega⟩ ⟨by omega, by omega⟩ dX2_advance_16 (by decide) (fun c_16 => ?_) (fun c_16 => ?_)
      · have hs : tS tq tn pt = k := by rw [hs9]; exact run_stop (fun q => by have := isBl_i.mp q.2; omega)
        refine lv_aload_n X.1 X.2.1 dX2_advance_46 rfl (lv_at hl 0 rfl) ?_
        refine lv_aload_n X.1 X.2.1 dX2_advance_47 rfl (lv_at hl 0 rfl) ?_
        refine z_get X h 2 0 3 rfl inX2 rfl (by decide) fl_X2_22 rfl dX2_advance_48 ?_
        refine s_put X (st_nil h) 2 0 4 rfl inX2 tyX2 tyX2_ok nmX2 rfl (by decide) fl_X2_25 rfl rfl rfl (Nat.le_of_ble_eq_true rfl) dX2_advance_51 (fun H locs h => ?_)
        have h := (st_lin (st_eq wX_end h))
        have h : St E _ s H locs (wX E x ((iv (tn))) ((e1)) ((iv (k))) ((iv (k))) ((e4)) tp ++ []) := h
        refine lv_aload_n X.1 X.2.1 dX2_advance_54 rfl (lv_at hl 0 rfl) ?_
        refine z_get X h 2 0 3 rfl inX2 rfl (by decide) fl_X2_22 rfl dX2_advance_55 ?_
        refine lv_aload_n X.1 X.2.1 dX2_advance_58 rfl (lv_at hl 0 rfl) ?_
        refine z_get X h 2 0 0 rfl inX2 rfl (by decide) fl_X2_9 rfl dX2_advance_59 ?_
        refine z_ic_lt (tgt := 73) X ⟨by omega, by omega⟩ ⟨by omega, by omega⟩ dX2_advance_62 (by decide) (fun c_62 => ?_) (fun c_62 => ?_)
        · have tk9 := hT.2.2 k (by omega) (by omega)
          refine lv_aload_n X.1 X.2.1 dX2_advance_73 rfl (lv_at hl 0 rfl) ?_
          refine z_get X h 2 0 1 rfl inX2 rfl (by decide) fl_X2_15 rfl dX2_advance_74 ?_
          refine lv_aload_n X.1 X.2.1 dX2_advance_77 rfl (lv_at hl 0 rfl) ?_
          refine z_get X h 2 0 3 rfl inX2 rfl (by decide) fl_X2_22 rfl dX2_advance_78 ?_
          refine z_iald (v := tq k) X h 1 rfl (by omega) (by omega) (by decide) (hT.2.2 k (by omega) (by omega)).1 dX2_advance_81 ?_
          refine z_pi (run_S (rest := []) X h (c_X2_isLetter (b9 := tq k) ⟨by omega, by omega⟩) mi_X2_isLetter ml_X2_113 ⟨Nat.le_of_ble_eq_true rfl, Nat.le_of_ble_eq_true rfl⟩ ⟨rfl, rfl⟩ (Seg.nil _) rfl hl.1 rfl (Nat.le_of_ble_eq_true rfl) ⟨Nat.zero_le _, Nat.zero_le _⟩ dX2_advance_82) ?_
          refine z_ifb_eq (tgt := 100) X dX2_advance_85 (by decide) (fun c_85 => ?_) (fun c_85 => ?_)
          · refine lv_aload_n X.1 X.2.1 dX2_advance_100 rfl (lv_at hl 0 rfl) ?_
            refine z_get X h 2 0 1 rfl inX2 rfl (by decide) fl_X2_15 rfl dX2_advance_101 ?_
            refine lv_aload_n X.1 X.2.1 dX2_advance_104 rfl (lv_at hl 0 rfl) ?_
            refine z_get X h 2 0 3 rfl inX2 rfl (by decide) fl_X2_22 rfl dX2_advance_105 ?_
            refine z_iald (v := tq k) X h 1 rfl (by omega) (by omega) (by decide) (hT.2.2 k (by omega) (by omega)).1 dX2_advance_108 ?_
            refine z_pi (run_S (rest := []) X h (c_X2_isDigit (b9 := tq k) ⟨by omega, by omega⟩) mi_X2_isDigit ml_X2_119 ⟨Nat.le_of_ble_eq_true rfl, Nat.le_of_ble_eq_true rfl⟩ ⟨rfl, rfl⟩ (Seg.nil _) rfl hl.1 rfl (Nat.le_of_ble_eq_true rfl) ⟨Nat.zero_le _, Nat.zero_le _⟩ dX2_advance_109) ?_
            refine z_ifb_eq (tgt := 127) X dX2_advance_112 (by decide) (fun c_112 => ?_) (fun c_112 => ?_)
            · refine lv_aload_n X.1 X.2.1 dX2_advance_127 rfl (lv_at hl 0 rfl) ?_
              refine lv_aload_n X.1 X.2.1 dX2_advance_128 rfl (lv_at hl 0 rfl) ?_
              refine z_get X h 2 0 1 rfl inX2 rfl (by decide) fl_X2_15 rfl dX2_advance_129 ?_
              refine lv_aload_n X.1 X.2.1 dX2_advance_132 rfl (lv_at hl 0 rfl) ?_
              refine z_get X h 2 0 3 rfl inX2 rfl (by decide) fl_X2_22 rfl dX2_advance_133 ?_
              refine z_iald (v := tq k) X h 1 rfl (by omega) (by omega) (by decide) (hT.2.2 k (by omega) (by omega)).1 dX2_advance_136 ?_
              refine z_bipush X (by decide) dX2_advance_137 ?_
              refine z_ic_ne (tgt := 146) X ⟨by omega, by omega⟩ ⟨by decide, by decide⟩ dX2_advance_139 (by decide) (fun c_139 => ?_) (fun c_139 => ?_)
              · refine z_iconst X dX2_advance_146 ?_
                refine s_put X (st_nil h) 2 0 2 rfl inX2 tyX2 tyX2_ok nmX2 rfl (by decide) fl_X2_19 rfl rfl rfl (Nat.le_of_ble_eq_true rfl) dX2_advance_147 (fun H locs h => ?_)
                have h := (st_lin (st_eq wX_sort h))
                have h : St E _ s H locs (wX E x ((iv (tn))) ((iv (4))) ((iv (k))) ((iv (k))) ((e4)) tp ++ []) := h
                refine lv_aload_n X.1 X.2.1 dX2_advance_150 rfl (lv_at hl 0 rfl) ?_
                refine lv_aload_n X.1 X.2.1 dX2_advance_151 rfl (lv_at hl 0 rfl) ?_
                refine z_get X h 2 0 3 rfl inX2 rfl (by decide) fl_X2_22 rfl dX2_advance_152 ?_
                refine z_iconst X dX2_advance_155 ?_
                refine z_iadd X dX2_advance_156 ?_
                refine s_put X (st_nil h) 2 0 4 rfl inX2 tyX2 tyX2_ok nmX2 rfl (by decide) fl_X2_25 rfl rfl rfl (Nat.le_of_ble_eq_true rfl) dX2_advance_157 (fun H locs h => ?_)
                have h := (st_lin (st_eq wX_end h))
                have h : St E _ s H locs (wX E x ((iv (tn))) ((iv (4))) ((iv (k))) ((iv (k + 1))) ((e4)) tp ++ []) := h
                have tw := tok_oth hs (by omega) (fun q => by have := isLt_i.mp q; omega) (fun q => by have := isDg_i.mp q; omega)
                have ts := sort_3 hs (by omega) (fun q => by have := isLt_i.mp q; omega) (fun q => by have := isDg_i.mp q; omega)
                rw [if_neg (by omega)] at ts
                exact ret _ _ _ _ ((e4)) (by rw [ts, hs, tw.2.1]; exact h) (fun q => absurd q (by rw [ts]; decide)) dX2_advance_160
              · refine z_iconst X dX2_advance_142 ?_
                refine lv_goto (tgt := 147) X.1 X.2.1 dX2_advance_143 (by decide) ?_
                refine s_put X (st_nil h) 2 0 2 rfl inX2 tyX2 tyX2_ok nmX2 rfl (by decide) fl_X2_19 rfl rfl rfl (Nat.le_of_ble_eq_true rfl) dX2_advance_147 (fun H locs h => ?_)
                have h := (st_lin (st_eq wX_sort h))
                have h : St E _ s H locs (wX E x ((iv (tn))) ((iv (3))) ((iv (k))) ((iv (k))) ((e4)) tp ++ []) := h
                refine lv_aload_n X.1 X.2.1 dX2_advance_150 rfl (lv_at hl 0 rfl) ?_
                refine lv_aload_n X.1 X.2.1 dX2_advance_151 rfl (lv_at hl 0 rfl) ?_
                refine z_get X h 2 0 3 rfl inX2 rfl (by decide) fl_X2_22 rfl dX2_advance_152 ?_
                refine z_iconst X dX2_advance_155 ?_
                refine z_iadd X dX2_advance_156 ?_
                refine s_put X (st_nil h) 2 0 4 rfl inX2 tyX2 tyX2_ok nmX2 rfl (by decide) fl_X2_25 rfl rfl rfl (Nat.le_of_ble_eq_true rfl) dX2_advance_157 (fun H locs h => ?_)
                have h := (st_lin (st_eq wX_end h))
                have h : St E _ s H locs (wX E x ((iv (tn))) ((iv (3))) ((iv (k))) ((iv (k + 1))) ((e4)) tp ++ []) := h
                have tw := tok_oth hs (by omega) (fun q => by have := isLt_i.mp q; omega) (fun q => by have := isDg_i.mp q; omega)
                have ts := sort_3 hs (by omega) (fun q => by have := isLt_i.mp q; omega) (fun q => by have := isDg_i.mp q; omega)
                rw [if_pos (by omega)] at ts
                exact ret _ _ _ _ ((e4)) (by rw [ts, hs, tw.2.1]; exact h) (fun q => absurd q (by rw [ts]; decide)) dX2_advance_160
            · refine lv_aload_n X.1 X.2.1 dX2_advance_115 rfl (lv_at hl 0 rfl) ?_
              refine z_iconst X dX2_advance_116 ?_
              refine s_put X (st_nil h) 2 0 2 rfl inX2 tyX2 tyX2_ok nmX2 rfl (by decide) fl_X2_19 rfl rfl rfl (Nat.le_of_ble_eq_true rfl) dX2_advance_117 (fun H locs h => ?_)
              have h := (st_lin (st_eq wX_sort h))
              have h : St E _ s H locs (wX E x ((iv (tn))) ((iv (2))) ((iv (k))) ((iv (k))) ((e4)) tp ++ []) := h
              refine lv_aload_n X.1 X.2.1 dX2_advance_120 rfl (lv_at hl 0 rfl) ?_
              refine z_av h (run_V (rest := []) X h (c_X2_passNumber (ke := k) hT (by omega) (by omega)) mi_X2_passNumber ml_X2_122 ⟨Nat.le_of_ble_eq_true rfl, Nat.le_of_ble_eq_true rfl⟩ ⟨rfl, rfl⟩ (Seg.rfl' _) 2 0 rfl rfl rfl rfl hl.1 rfl (Nat.le_of_ble_eq_true rfl) ⟨Nat.zero_le _, Nat.zero_le _⟩ dX2_advance_121) (fun _ => map_app (wX_map _ _ _ _ _ _ _ _ _ _ _ _ _ _) rfl) (fun u H locs hp h => ?_)
              have h : St E _ s H locs (wX E x ((iv (tn))) ((iv (2))) ((iv (k))) ((iv (run isDg tq tn k))) ((iv (nmk tq k (run isDg tq tn k - k).toNat))) tp ++ []) := h
              refine lv_goto (tgt := 160) X.1 X.2.1 dX2_advance_124 (by decide) ?_
              have tw := tok_num hs (by omega) (fun q => by have := isLt_i.mp q; omega) (isDg_i.mpr (by omega))
              have ts := sort_2 hs (by omega) (fun q => by have := isLt_i.mp q; omega) (isDg_i.mpr (by omega))
              exact ret _ _ _ _ ((iv (nmk tq k (run isDg tq tn k - k).toNat))) (by rw [ts, hs, tw.2.1]; exact h) (fun _ => by rw [tw.2.2]) dX2_advance_160
          · refine lv_aload_n X.1 X.2.1 dX2_advance_88 rfl (lv_at hl 0 rfl) ?_
            refine z_iconst X dX2_advance_89 ?_
            refine s_put X (st_nil h) 2 0 2 rfl inX2 tyX2 tyX2_ok nmX2 rfl (by decide) fl_X2_19 rfl rfl rfl (Nat.le_of_ble_eq_true rfl) dX2_advance_90 (fun H locs h => ?_)
            have h := (st_lin (st_eq wX_sort h))
            have h : St E _ s H locs (wX E x ((iv (tn))) ((iv (1))) ((iv (k))) ((iv (k))) ((e4)) tp ++ []) := h
            refine lv_aload_n X.1 X.2.1 dX2_advance_93 rfl (lv_at hl 0 rfl) ?_
            refine z_av h (run_V (rest := []) X h (c_X2_passWord (ke := k) hT (by omega) (by omega)) mi_X2_passWord ml_X2_116 ⟨Nat.le_of_ble_eq_true rfl, Nat.le_of_ble_eq_true rfl⟩ ⟨rfl, rfl⟩ (Seg.rfl' _) 2 0 rfl rfl rfl rfl hl.1 rfl (Nat.le_of_ble_eq_true rfl) ⟨Nat.zero_le _, Nat.zero_le _⟩ dX2_advance_94) (fun _ => map_app (wX_map _ _ _ _ _ _ _ _ _ _ _ _ _ _) rfl) (fun u H locs hp h => ?_)
            have h : St E _ s H locs (wX E x ((iv (tn))) ((iv (1))) ((iv (k))) ((iv (run isLt tq tn k))) ((e4)) tp ++ []) := h
            refine lv_goto (tgt := 160) X.1 X.2.1 dX2_advance_97 (by decide) ?_
            have tw := tok_word hs (by omega) (isLt_i.mpr (by omega))
            have ts := sort_1 hs (by omega) (isLt_i.mpr (by omega))
            exact ret _ _ _ _ ((e4)) (by rw [ts, hs, tw.2.1]; exact h) (fun q => absurd q (by rw [ts]; decide)) dX2_advance_160
        · refine lv_aload_n X.1 X.2.1 dX2_advance_65 rfl (lv_at hl 0 rfl) ?_
          refine z_iconst X dX2_advance_66 ?_
          refine s_put X (st_nil h) 2 0 2 rfl inX2 tyX2 tyX2_ok nmX2 rfl (by decide) fl_X2_19 rfl rfl rfl (Nat.le_of_ble_eq_true rfl) dX2_advance_67 (fun H locs h => ?_)
          have h := (st_lin (st_eq wX_sort h))
          have h : St E _ s H locs (wX E x ((iv (tn))) ((iv (0))) ((iv (k))) ((iv (k))) ((e4)) tp ++ []) := h
          refine lv_goto (tgt := 160) X.1 X.2.1 dX2_advance_70 (by decide) ?_
          have tw := tok_over hs (by omega)
          have ts := sort_0 hs (by omega)
          exact ret _ _ _ _ ((e4)) (by rw [ts, hs, tw.2.1]; exact h) (fun q => absurd q (by rw [ts]; decide)) dX2_advance_160
      · have tk9 := hT.2.2 k (by omega) (by omega)
        refine lv_aload_n X.1 X.2.1 dX2_advance_19 rfl (lv_at hl 0 rfl) ?_
        refine z_get X h 2 0 1 rfl inX2 rfl (by decide) fl_X2_15 rfl dX2_advance_20 ?_
        refine lv_aload_n X.1 X.2.1 dX2_advance_23 rfl (lv_at hl 0 rfl) ?_
        refine z_get X h 2 0 3 rfl inX2 rfl (by decide) fl_X2_22 rfl dX2_advance_24 ?_
        refine z_iald (v := tq k) X h 1 rfl (by omega) (by omega) (by decide) (hT.2.2 k (by omega) (by omega)).1 dX2_advance_27 ?_
        refine z_bipush X (by decide) dX2_advance_28 ?_
        refine z_ic_ne (tgt := 46) X ⟨by omega, by omega⟩ ⟨by decide, by decide⟩ dX2_advance_30 (by decide) (fun c_30 => ?_) (fun c_30 => ?_)
        · have hs : tS tq tn pt = k := by rw [hs9]; exact run_stop (fun q => by have := isBl_i.mp q.2; omega)
          refine lv_aload_n X.1 X.2.1 dX2_advance_46 rfl (lv_at hl 0 rfl) ?_
          refine lv_aload_n X.1 X.2.1 dX2_advance_47 rfl (lv_at hl 0 rfl) ?_
          refine z_get X h 2 0 3 rfl inX2 rfl (by decide) fl_X2_22 rfl dX2_advance_48 ?_
          refine s_put X (st_nil h) 2 0 4 rfl inX2 tyX2 tyX2_ok nmX2 rfl (by decide) fl_X2_25 rfl rfl rfl (Nat.le_of_ble_eq_true rfl) dX2_advance_51 (fun H locs h => ?_)
          have h := (st_lin (st_eq wX_end h))
          have h : St E _ s H locs (wX E x ((iv (tn))) ((e1)) ((iv (k))) ((iv (k))) ((e4)) tp ++ []) := h
          refine lv_aload_n X.1 X.2.1 dX2_advance_54 rfl (lv_at hl 0 rfl) ?_
          refine z_get X h 2 0 3 rfl inX2 rfl (by decide) fl_X2_22 rfl dX2_advance_55 ?_
          refine lv_aload_n X.1 X.2.1 dX2_advance_58 rfl (lv_at hl 0 rfl) ?_
          refine z_get X h 2 0 0 rfl inX2 rfl (by decide) fl_X2_9 rfl dX2_advance_59 ?_
          refine z_ic_lt (tgt := 73) X ⟨by omega, by omega⟩ ⟨by omega, by omega⟩ dX2_advance_62 (by decide) (fun c_62 => ?_) (fun c_62 => ?_)
          · have tk9 := hT.2.2 k (by omega) (by omega)
            refine lv_aload_n X.1 X.2.1 dX2_advance_73 rfl (lv_at hl 0 rfl) ?_
            refine z_get X h 2 0 1 rfl inX2 rfl (by decide) fl_X2_15 rfl dX2_advance_74 ?_
            refine lv_aload_n X.1 X.2.1 dX2_advance_77 rfl (lv_at hl 0 rfl) ?_
            refine z_get X h 2 0 3 rfl inX2 rfl (by decide) fl_X2_22 rfl dX2_advance_78 ?_
            refine z_iald (v := tq k) X h 1 rfl (by omega) (by omega) (by decide) (hT.2.2 k (by omega) (by omega)).1 dX2_advance_81 ?_
            refine z_pi (run_S (rest := []) X h (c_X2_isLetter (b9 := tq k) ⟨by omega, by omega⟩) mi_X2_isLetter ml_X2_113 ⟨Nat.le_of_ble_eq_true rfl, Nat.le_of_ble_eq_true rfl⟩ ⟨rfl, rfl⟩ (Seg.nil _) rfl hl.1 rfl (Nat.le_of_ble_eq_true rfl) ⟨Nat.zero_le _, Nat.zero_le _⟩ dX2_advance_82) ?_
            refine z_ifb_eq (tgt := 100) X dX2_advance_85 (by decide) (fun c_85 => ?_) (fun c_85 => ?_)
            · refine lv_aload_n X.1 X.2.1 dX2_advance_100 rfl (lv_at hl 0 rfl) ?_
              refine z_get X h 2 0 1 rfl inX2 rfl (by decide) fl_X2_15 rfl dX2_advance_101 ?_
              refine lv_aload_n X.1 X.2.1 dX2_advance_104 rfl (lv_at hl 0 rfl) ?_
              refine z_get X h 2 0 3 rfl inX2 rfl (by decide) fl_X2_22 rfl dX2_advance_105 ?_
              refine z_iald (v := tq k) X h 1 rfl (by omega) (by omega) (by decide) (hT.2.2 k (by omega) (by omega)).1 dX2_advance_108 ?_
              refine z_pi (run_S (rest := []) X h (c_X2_isDigit (b9 := tq k) ⟨by omega, by omega⟩) mi_X2_isDigit ml_X2_119 ⟨Nat.le_of_ble_eq_true rfl, Nat.le_of_ble_eq_true rfl⟩ ⟨rfl, rfl⟩ (Seg.nil _) rfl hl.1 rfl (Nat.le_of_ble_eq_true rfl) ⟨Nat.zero_le _, Nat.zero_le _⟩ dX2_advance_109) ?_
              refine z_ifb_eq (tgt := 127) X dX2_advance_112 (by decide) (fun c_112 => ?_) (fun c_112 => ?_)
              · refine lv_aload_n X.1 X.2.1 dX2_advance_127 rfl (lv_at hl 0 rfl) ?_
                refine lv_aload_n X.1 X.2.1 dX2_advance_128 rfl (lv_at hl 0 rfl) ?_
                refine z_get X h 2 0 1 rfl inX2 rfl (by decide) fl_X2_15 rfl dX2_advance_129 ?_
                refine lv_aload_n X.1 X.2.1 dX2_advance_132 rfl (lv_at hl 0 rfl) ?_
                refine z_get X h 2 0 3 rfl inX2 rfl (by decide) fl_X2_22 rfl dX2_advance_133 ?_
                refine z_iald (v := tq k) X h 1 rfl (by omega) (by omega) (by decide) (hT.2.2 k (by omega) (by omega)).1 dX2_advance_136 ?_
                refine z_bipush X (by decide) dX2_advance_137 ?_
                refine z_ic_ne (tgt := 146) X ⟨by omega, by omega⟩ ⟨by decide, by decide⟩ dX2_advance_139 (by decide) (fun c_139 => ?_) (fun c_139 => ?_)
                · refine z_iconst X dX2_advance_146 ?_
                  refine s_put X (st_nil h) 2 0 2 rfl inX2 tyX2 tyX2_ok nmX2 rfl (by decide) fl_X2_19 rfl rfl rfl (Nat.le_of_ble_eq_true rfl) dX2_advance_147 (fun H locs h => ?_)
                  have h := (st_lin (st_eq wX_sort h))
                  have h : St E _ s H locs (wX E x ((iv (tn))) ((iv (4))) ((iv (k))) ((iv (k))) ((e4)) tp ++ []) := h
                  refine lv_aload_n X.1 X.2.1 dX2_advance_150 rfl (lv_at hl 0 rfl) ?_
                  refine lv_aload_n X.1 X.2.1 dX2_advance_151 rfl (lv_at hl 0 rfl) ?_
                  refine z_get X h 2 0 3 rfl inX2 rfl (by decide) fl_X2_22 rfl dX2_advance_152 ?_
                  refine z_iconst X dX2_advance_155 ?_
                  refine z_iadd X dX2_advance_156 ?_
                  refine s_put X (st_nil h) 2 0 4 rfl inX2 tyX2 tyX2_ok nmX2 rfl (by decide) fl_X2_25 rfl rfl rfl (Nat.le_of_ble_eq_true rfl) dX2_advance_157 (fun H locs h => ?_)
                  have h := (st_lin (st_eq wX_end h))
                  have h : St E _ s H locs (wX E x ((iv (tn))) ((iv (4))) ((iv (k))) ((iv (k + 1))) ((e4)) tp ++ []) := h
                  have tw := tok_oth hs (by omega) (fun q => by have := isLt_i.mp q; omega) (fun q => by have := isDg_i.mp q; omega)
                  have ts := sort_3 hs (by omega) (fun q => by have := isLt_i.mp q; omega) (fun q => by have := isDg_i.mp q; omega)
                  rw [if_neg (by omega)] at ts
                  exact ret _ _ _ _ ((e4)) (by rw [ts, hs, tw.2.1]; exact h) (fun q => absurd q (by rw [ts]; decide)) dX2_advance_160
                · refine z_iconst X dX2_advance_142 ?_
                  refine lv_goto (tgt := 147) X.1 X.2.1 dX2_advance_143 (by decide) ?_
                  refine s_put X (st_nil h) 2 0 2 rfl inX2 tyX2 tyX2_ok nmX2 rfl (by decide) fl_X2_19 rfl rfl rfl (Nat.le_of_ble_eq_true rfl) dX2_advance_147 (fun H locs h => ?_)
                  have h := (st_lin (st_eq wX_sort h))
                  have h : St E _ s H locs (wX E x ((iv (tn))) ((iv (3))) ((iv (k))) ((iv (k))) ((e4)) tp ++ []) := h
                  refine lv_aload_n X.1 X.2.1 dX2_advance_150 rfl (lv_at hl 0 rfl) ?_
                  refine lv_aload_n X.1 X.2.1 dX2_advance_151 rfl (lv_at hl 0 rfl) ?_
                  refine z_get X h 2 0 3 rfl inX2 rfl (by decide) fl_X2_22 rfl dX2_advance_152 ?_
                  refine z_iconst X dX2_advance_155 ?_
                  refine z_iadd X dX2_advance_156 ?_
                  refine s_put X (st_nil h) 2 0 4 rfl inX2 tyX2 tyX2_ok nmX2 rfl (by decide) fl_X2_25 rfl rfl rfl (Nat.le_of_ble_eq_true rfl) dX2_advance_157 (fun H locs h => ?_)
                  have h := (st_lin (st_eq wX_end h))
                  have h : St E _ s H locs (wX E x ((iv (tn))) ((iv (3))) ((iv (k))) ((iv (k + 1))) ((e4)) tp ++ []) := h
                  have tw := tok_oth hs (by omega) (fun q => by have := isLt_i.mp q; omega) (fun q => by have := isDg_i.mp q; omega)
                  have ts := sort_3 hs (by omega) (fun q => by have := isLt_i.mp q; omega) (fun q => by have := isDg_i.mp q; omega)
                  rw [if_pos (by omega)] at ts
                  exact ret _ _ _ _ ((e4)) (by rw [ts, hs, tw.2.1]; exact h) (fun q => absurd q (by rw [ts]; decide)) dX2_advance_160
              · refine lv_aload_n X.1 X.2.1 dX2_advance_115 rfl (lv_at hl 0 rfl) ?_
                refine z_iconst X dX2_advance_116 ?_
                refine s_put X (st_nil h) 2 0 2 rfl inX2 tyX2 tyX2_ok nmX2 rfl (by decide) fl_X2_19 rfl rfl rfl (Nat.le_of_ble_eq_true rfl) dX2_advance_117 (fun H locs h => ?_)
                have h := (st_lin (st_eq wX_sort h))
                have h : St E _ s H locs (wX E x ((iv (tn))) ((iv (2))) ((iv (k))) ((iv (k))) ((e4)) tp ++ []) := h
                refine lv_aload_n X.1 X.2.1 dX2_advance_120 rfl (lv_at hl 0 rfl) ?_
                refine z_av h (run_V (rest := []) X h (c_X2_passNumber (ke := k) hT (by omega) (by omega)) mi_X2_passNumber ml_X2_122 ⟨Nat.le_of_ble_eq_true rfl, Nat.le_of_ble_eq_true rfl⟩ ⟨rfl, rfl⟩ (Seg.rfl' _) 2 0 rfl rfl rfl rfl hl.1 rfl (Nat.le_of_ble_eq_true rfl) ⟨Nat.zero_le _, Nat.zero_le _⟩ dX2_advance_121) (fun _ => map_app (wX_map _ _ _ _ _ _ _ _ _ _ _ _ _ _) rfl) (fun u H locs hp h => ?_)
                have h : St E _ s H locs (wX E x ((iv (tn))) ((iv (2))) ((iv (k))) ((iv (run isDg tq tn k))) ((iv (nmk tq k (run isDg tq tn k - k).toNat))) tp ++ []) := h
                refine lv_goto (tgt := 160) X.1 X.2.1 dX2_advance_124 (by decide) ?_
                have tw := tok_num hs (by omega) (fun q => by have := isLt_i.mp q; omega) (isDg_i.mpr (by omega))
                have ts := sort_2 hs (by omega) (fun q => by have := isLt_i.mp q; omega) (isDg_i.mpr (by omega))
                exact ret _ _ _ _ ((iv (nmk tq k (run isDg tq tn k - k).toNat))) (by rw [ts, hs, tw.2.1]; exact h) (fun _ => by rw [tw.2.2]) dX2_advance_160
            · refine lv_aload_n X.1 X.2.1 dX2_advance_88 rfl (lv_at hl 0 rfl) ?_
              refine z_iconst X dX2_advance_89 ?_
              refine s_put X (st_nil h) 2 0 2 rfl inX2 tyX2 tyX2_ok nmX2 rfl (by decide) fl_X2_19 rfl rfl rfl (Nat.le_of_ble_eq_true rfl) dX2_advance_90 (fun H locs h => ?_)
              have h := (st_lin (st_eq wX_sort h))
              have h : St E _ s H locs (wX E x ((iv (tn))) ((iv (1))) ((iv (k))) ((iv (k))) ((e4)) tp ++ []) := h
              refine lv_aload_n X.1 X.2.1 dX2_advance_93 rfl (lv_at hl 0 rfl) ?_
              refine z_av h (run_V (rest := []) X h (c_X2_passWord (ke := k) hT (by omega) (by omega)) mi_X2_passWord ml_X2_116 ⟨Nat.le_of_ble_eq_true rfl, Nat.le_of_ble_eq_true rfl⟩ ⟨rfl, rfl⟩ (Seg.rfl' _) 2 0 rfl rfl rfl rfl hl.1 rfl (Nat.le_of_ble_eq_true rfl) ⟨Nat.zero_le _, Nat.zero_le _⟩ dX2_advance_94) (fun _ => map_app (wX_map _ _ _ _ _ _ _ _ _ _ _ _ _ _) rfl) (fun u H locs hp h => ?_)
              have h : St E _ s H locs (wX E x ((iv (tn))) ((iv (1))) ((iv (k))) ((iv (run isLt tq tn k))) ((e4)) tp ++ []) := h
              refine lv_goto (tgt := 160) X.1 X.2.1 dX2_advance_97 (by decide) ?_
              have tw := tok_word hs (by omega) (isLt_i.mpr (by omega))
              have ts := sort_1 hs (by omega) (isLt_i.mpr (by omega))
              exact ret _ _ _ _ ((e4)) (by rw [ts, hs, tw.2.1]; exact h) (fun q => absurd q (by rw [ts]; decide)) dX2_advance_160
          · refine lv_aload_n X.1 X.2.1 dX2_advance_65 rfl (lv_at hl 0 rfl) ?_
            refine z_iconst X dX2_advance_66 ?_
            refine s_put X (st_nil h) 2 0 2 rfl inX2 tyX2 tyX2_ok nmX2 rfl (by decide) fl_X2_19 rfl rfl rfl (Nat.le_of_ble_eq_true rfl) dX2_advance_67 (fun H locs h => ?_)
            have h := (st_lin (st_eq wX_sort h))
            have h : St E _ s H locs (wX E x ((iv (tn))) ((iv (0))) ((iv (k))) ((iv (k))) ((e4)) tp ++ []) := h
            refine lv_goto (tgt := 160) X.1 X.2.1 dX2_advance_70 (by decide) ?_
            have tw := tok_over hs (by omega)
            have ts := sort_0 hs (by omega)
            exact ret _ _ _ _ ((e4)) (by rw [ts, hs, tw.2.1]; exact h) (fun q => absurd q (by rw [ts]; decide)) dX2_advance_160
        · refine lv_aload_n X.1 X.2.1 dX2_advance_33 rfl (lv_at hl 0 rfl) ?_
          refine lv_dup X.1 X.2.1 dX2_advance_34 rfl ?_
          refine z_get X h 2 0 3 rfl inX2 rfl (by decide) fl_X2_22 rfl dX2_advance_35 ?_
          refine z_iconst X dX2_advance_38 ?_
          refine z_iadd X dX2_advance_39 ?_
          refine s_put X (st_nil h) 2 0 3 rfl inX2 tyX2 tyX2_ok nmX2 rfl (by decide) fl_X2_22 rfl rfl rfl (Nat.le_of_ble_eq_true rfl) dX2_advance_40 (fun H locs h => ?_)
          have h := (st_lin (st_eq wX_start h))
          have h : St E _ s H locs (wX E x ((iv (tn))) ((e1)) ((iv (k + 1))) ((iv (pt))) ((e4)) tp ++ []) := h
          refine lv_goto (tgt := 8) X.1 X.2.1 dX2_advance_43 (by decide) ?_
          exact ih_8 (k + 1) (by omega) (by omega) (by rw [hs9]; exact run_step (by omega) (isBl_i.mpr (by omega))) (by omega) _ _ h ls (lv_sub hl [0] rfl)
  exact L8 ((tn - (pt) : Int).toNat + 1) (pt) (by omega) (by omega) (rfl) (by omega) _ _ h ls (lv_sub hl [0] rfl)
