variable {E : EV} {l : Launch} {a : Nat → Nat} {mm kp wa fd gf tp bt sz : Nat → Int32} {cl : Nat → Int64} {ik tn tk bg pt vl bd : Int} {A : Es} {K : Es} {ph tq bq sq : Int → Int} {cq : Int → Int → Int64}
set_option maxHeartbeats 4000000 in
theorem c_X5_sunItem (hR : RM mm A) (hI : IA A) (hT : RT tp tq tn) {i : Int} (i0 : 0 ≤ i) (i1 : i ≤ tn) (hcv : CV vl (tV tq tn i)) : MV (S := (Nat → Int32) × Int) E l yX5_sunItem cX5_sunItem 3 (rmk 4 89) (wM E a (mm, kp, wa, (iv (ik)), fd, gf, tp, (iv (tn)), (iv (tK tq tn i)), (iv (tS tq tn i)), (iv (tE tq tn i)), (iv (vl)), (iv (0)), bt, sz, cl)) [.ref (a 0)] (fun u => RM u.1 (s_item tq tn A i).2.1 ∧ IA (s_item tq tn A i).2.1 ∧ hr (s_item tq tn A i).2.1 = hr A ∧ CV u.2 (tV tq tn (s_item tq tn A i).2.2) ∧ ((s_item tq tn A i).1 = true → i < (s_item tq tn A i).2.2) ∧ i ≤ (s_item tq tn A i).2.2 ∧ (s_item tq tn A i).2.2 ≤ tn) (fun u => wM E a (u.1, kp, wa, (iv (ik)), fd, gf, tp, (iv (tn)), (iv (tK tq tn (s_item tq tn A i).2.2)), (iv (tS tq tn (s_item tq tn A i).2.2)), (iv (tE tq tn (s_item tq tn A i).2.2)), (iv (u.2)), (iv (btb (s_item tq tn A i).1)), bt, sz, cl)) := by
  refine goV (S := (Nat → Int32) × Int) (post := fun u => RM u.1 (s_item tq tn A i).2.1 ∧ IA (s_item tq tn A i).2.1 ∧ hr (s_item tq tn A i).2.1 = hr A ∧ CV u.2 (tV tq tn (s_item tq tn A i).2.2) ∧ ((s_item tq tn A i).1 = true → i < (s_item tq tn A i).2.2) ∧ i ≤ (s_item tq tn A i).2.2 ∧ (s_item tq tn A i).2.2 ≤ tn) (ws' := fun u => wM E a (u.1, kp, wa, (iv (ik)), fd, gf, tp, (iv (tn)), (iv (tK tq tn (s_item tq tn A i).2.2)), (iv (tS tq tn (s_item tq tn A i).2.2)), (iv (tE tq tn (s_item tq tn A i).2.2)), (iv (u.2)), (iv (btb (s_item tq tn A i).1)), bt, sz, cl)) (by decide) (Nat.le_of_ble_eq_true rfl) ?_
  intro pp e s m below meth c ls args Q ret X h hl
  have hl : lv_has ls 3 [(0, .ref (a 0))] := hl
  have t0 := hT.1
  have t1 := hT.2.1
  have tr := tok_rng tq i0 i1
  have cr := hcv.1
  have cr2 := hcv.2.1
  have n8 := hI.n8
  have n0 := hI.n0
  have cnn := CV_nn hcv
  refine lv_aload_n X.1 X.2.1 dX5_sunItem_0 rfl (lv_at hl 0 rfl) ?_
  refine z_iconst X dX5_sunItem_1 ?_
  refine z_bipush X (by decide) dX5_sunItem_2 ?_
  by_cases cpx : tK tq tn i = 20 ∧ tV tq tn i ≤ 9
  · have cp1 := cpx
    have cm1 := CV_nn hcv
    refine z_ai h (run_V (rest := []) X h (c_X5_number_y (i := i) (mx := 9) hT (by omega) (by omega) hcv (by omega) (by omega) cp1.1 cp1.2) mi_X5_number ml_X5_193 ⟨Nat.le_of_ble_eq_true rfl, Nat.le_of_ble_eq_true rfl⟩ ⟨rfl, rfl⟩ (Seg.rfl' _) 4 0 rfl rfl rfl rfl hl.1 rfl (Nat.le_of_ble_eq_true rfl) ⟨Nat.zero_le _, Nat.zero_le _⟩ dX5_sunItem_4) (fun _ => wM_map _ _ _ _) (fun r v1 H locs hp h => ?_)
    obtain ⟨rfl, cv1⟩ := hp
    have h : St E _ s H locs (wM E a (mm, kp, wa, (iv (ik)), fd, gf, tp, (iv (tn)), (iv (tK tq tn (tE tq tn i))), (iv (tS tq tn (tE tq tn i))), (iv (tE tq tn (tE tq tn i))), (iv (v1)), (iv (0)), bt, sz, cl)) := h
    have tr1 := tok_rng tq (tn := tn) (i := (tE tq tn i)) (by omega) (by omega)
    have cr1 := cv1.1
    have cq1 := cv1.2.1
    have cn1 := CV_nn cv1
    refine lv_istore_n (lv' := [(1, .int (iv (tV tq tn i))), (0, .ref (a 0))]) X.1 X.2.1 dX5_sunItem_7 rfl hl (by decide) rfl (fun ls hl => ?_)
    refine lv_aload_n X.1 X.2.1 dX5_sunItem_8 rfl (lv_at hl 1 rfl) ?_
    refine z_iconst X dX5_sunItem_9 ?_
    refine z_bipush X (by decide) dX5_sunItem_10 ?_
    by_cases cpx : tK tq tn (tE tq tn i) = 20 ∧ tV tq tn (tE tq tn i) ≤ 9
    · have cp2 := cpx
      have cm2 := CV_nn cv1
      refine z_ai h (run_V (rest := []) X h (c_X5_number_y (i := (tE tq tn i)) (mx := 9) hT (by omega) (by omega) cv1 (by omega) (by omega) cp2.1 cp2.2) mi_X5_number ml_X5_193 ⟨Nat.le_of_ble_eq_true rfl, Nat.le_of_ble_eq_true rfl⟩ ⟨rfl, rfl⟩ (Seg.rfl' _) 4 0 rfl rfl rfl rfl hl.1 rfl (Nat.le_of_ble_eq_true rfl) ⟨Nat.zero_le _, Nat.zero_le _⟩ dX5_sunItem_12) (fun _ => wM_map _ _ _ _) (fun r v2 H locs hp h => ?_)
      obtain ⟨rfl, cv2⟩ := hp
      have h : St E _ s H locs (wM E a (mm, kp, wa, (iv (ik)), fd, gf, tp, (iv (tn)), (iv (tK tq tn (tE tq tn (tE tq tn i)))), (iv (tS tq tn (tE tq tn (tE tq tn i)))), (iv (tE tq tn (tE tq tn (tE tq tn i)))), (iv (v2)), (iv (0)), bt, sz, cl)) := h
      have tr2 := tok_rng tq (tn := tn) (i := (tE tq tn (tE tq tn i))) (by omega) (by omega)
      have cr2 := cv2.1
      have cq2 := cv2.2.1
      have cn2 := CV_nn cv2
      refine lv_istore_n (lv' := [(2, .int (iv (tV tq tn (tE tq tn i)))), (1, .int (iv (tV tq tn i))), (0, .ref (a 0))]) X.1 X.2.1 dX5_sunItem_15 rfl hl (by decide) rfl (fun ls hl => ?_)
      refine lv_aload_n X.1 X.2.1 dX5_sunItem_16 rfl (lv_at hl 2 rfl) ?_
      refine z_get X h 4 0 12 rfl inX5 rfl (by decide) fl_X5_183 rfl dX5_sunItem_17 ?_
      refine z_if_ne (tgt := 32) X ⟨by decide, by decide⟩ dX5_sunItem_20 (by decide) (fun c_20 => ?_) (fun c_20 => ?_)
      · exact absurd c_20 (by decide)
      · refine lv_aload_n X.1 X.2.1 dX5_sunItem_23 rfl (lv_at hl 2 rfl) ?_
        refine z_get X h 4 0 0 rfl inX5 rfl (by decide) fl_X5_9 rfl dX5_sunItem_24 ?_
        refine z_iconst X dX5_sunItem_27 ?_
        refine lv_iload_n X.1 X.2.1 dX5_sunItem_28 rfl (lv_at hl 1 rfl) ?_
        refine z_iadd X dX5_sunItem_29 ?_
        refine lv_iload_n X.1 X.2.1 dX5_sunItem_30 rfl (lv_at hl 0 rfl) ?_
        refine z_iast X h 1 rfl (by omega) (by omega) (by decide) dX5_sunItem_31 (fun H locs h => ?_)
        have h : St E _ s H locs (wM E a ((upd mm (2 + (tV tq tn i) : Int).toNat (iv (tV tq tn (tE tq tn i)))), kp, wa, (iv (ik)), fd, gf, tp, (iv (tn)), (iv (tK tq tn (tE tq tn (tE tq tn i)))), (iv (tS tq tn (tE tq tn (tE tq tn i)))), (iv (tE tq tn (tE tq tn (tE tq tn i)))), (iv (v2)), (iv (0)), bt, sz, cl)) := h
        have hR9 := RM_su hR (i := tV tq tn i) (v := tV tq tn (tE tq tn i)) (by omega) (by omega)
        have hI9 := IA_su hI (i := tV tq tn i) (v := tV tq tn (tE tq tn i)) (by omega) (by omega)
        have e9 : s_item tq tn A i = (true, (su A (tV tq tn i) (tV tq tn (tE tq tn i))), (tE tq tn (tE tq tn i))) := by unfold s_item; first | ((repeat (first | rw [if_pos (by omega)] | rw [if_neg (by omega)])); done) | ((repeat (first | rw [if_pos (by omega)] | rw [if_neg (by omega)])); rfl) | (exfalso; omega)
        have h : St E _ s H locs (wM E a ((upd mm (2 + (tV tq tn i) : Int).toNat (iv (tV tq tn (tE tq tn i)))), kp, wa, (iv (ik)), fd, gf, tp, (iv (tn)), (iv (tK tq tn (tE tq tn (tE tq tn i)))), (iv (tS tq tn (tE tq tn (tE tq tn i)))), (iv (tE tq tn (tE tq tn (tE tq tn i)))), (iv (v2)), (iv (0)), bt, sz, cl)) := h
        exact ret _ _ _ _ ((upd mm (2 + (tV tq tn i) : Int).toNat (iv (tV tq tn (tE tq tn i)))), v2) (by rw [e9]; exact h) (by rw [e9]; exact ⟨hR9, hI9, rfl, cv2, fun _ => (show i < (tE tq tn (tE tq tn i)) by omega), (show i ≤ (tE tq tn (tE tq tn i)) by omega), (show (tE tq tn (tE tq tn i)) ≤ tn by omega)⟩) dX5_sunItem_32
    · have cp3 := cpx
      refine z_ai h (run_V (rest := []) X h (c_X5_number_n (i := (tE tq tn i)) (mx := 9) hT (by omega) (by omega) cv1 (by omega) (by omega) cp3) mi_X5_number ml_X5_193 ⟨Nat.le_of_ble_eq_true rfl, Nat.le_of_ble_eq_true rfl⟩ ⟨rfl, rfl⟩ (Seg.rfl' _) 4 0 rfl rfl rfl rfl hl.1 rfl (Nat.le_of_ble_eq_true rfl) ⟨Nat.zero_le _, Nat.zero_le _⟩ dX5_sunItem_12) (fun _ => wM_map _ _ _ _) (fun r u_ H locs hp h => ?_)
      subst hp
      have h : St E _ s H locs (wM E a (mm, kp, wa, (iv (ik)), fd, gf, tp, (iv (tn)), (iv (tK tq tn (tE tq tn i))), (iv (tS tq tn (tE tq tn i))), (iv (tE tq tn (tE tq tn i))), (iv (v1)), (iv (1)), bt, sz, cl)) := h
      refine lv_istore_n (lv' := [(2, .int (iv (v1))), (1, .int (iv (tV tq tn i))), (0, .ref (a 0))]) X.1 X.2.1 dX5_sunItem_15 rfl hl (by decide) rfl (fun ls hl => ?_)
      refine lv_aload_n X.1 X.2.1 dX5_sunItem_16 rfl (lv_at hl 2 rfl) ?_
      refine z_get X h 4 0 12 rfl inX5 rfl (by decide) fl_X5_183 rfl dX5_sunItem_17 ?_
      refine z_if_ne (tgt := 32) X ⟨by decide, by decide⟩ dX5_sunItem_20 (by decide) (fun c_20 => ?_) (fun c_20 => ?_)
      · have e9 : s_item tq tn A i = (false, A, (tE tq tn i)) := by unfold s_item; first | ((repeat (first | rw [if_pos (by omega)] | rw [if_neg (by omega)])); done) | ((repeat (first | rw [if_pos (by omega)] | rw [if_neg (by omega)])); rfl) | (exfalso; omega)
        have h : St E _ s H locs (wM E a (mm, kp, wa, (iv (ik)), fd, gf, tp, (iv (tn)), (iv (tK tq tn (tE tq tn i))), (iv (tS tq tn (tE tq tn i))), (iv (tE tq tn (tE tq tn i))), (iv (v1)), (iv (1)), bt, sz, cl)) := h
        exact ret _ _ _ _ (mm, v1) (by rw [e9]; exact h) (by rw [e9]; exact ⟨hR, hI, rfl, cv1, fun q => absurd q (show ¬ false = true by decide), (show i ≤ (tE tq tn i) by omega), (show (tE tq tn i) ≤ tn by omega)⟩) dX5_sunItem_32
      · exact absurd c_20 (by decide)
  · have cp4 := cpx
    refine z_ai h (run_V (rest := []) X h (c_X5_number_n (i := i) (mx := 9) hT (by omega) (by omega) hcv (by omega) (by omega) cp4) mi_X5_number ml_X5_193 ⟨Nat.le_of_ble_eq_true rfl, Nat.le_of_ble_eq_true rfl⟩ ⟨rfl, rfl⟩ (Seg.rfl' _) 4 0 rfl rfl rfl rfl hl.1 rfl (Nat.le_of_ble_eq_true rfl) ⟨Nat.zero_le _, Nat.zero_le _⟩ dX5_sunItem_4) (fun _ => wM_map _ _ _ _) (fun r u_ H locs hp h => ?_)
    subst hp
    have h : St E _ s H locs (wM E a (mm, kp, wa, (iv (ik)), fd, gf, tp, (iv (tn)), (iv (tK tq tn i)), (iv (tS tq tn i)), (iv (tE tq tn i)), (iv (vl)), (iv (1)), bt, sz, cl)) := h
    refine lv_istore_n (lv' := [(1, .int (iv (vl))), (0, .ref (a 0))]) X.1 X.2.1 dX5_sunItem_7 rfl hl (by decide) rfl (fun ls hl => ?_)
    refine lv_aload_n X.1 X.2.1 dX5_sunItem_8 rfl (lv_at hl 1 rfl) ?_
    refine z_iconst X dX5_sunItem_9 ?_
    refine z_bipush X (by decide) dX5_sunItem_10 ?_
    refine z_ai h (run_V (rest := []) X h (c_X5_number_b (i := i) (mx := 9) hT (by omega) (by omega) hcv (by omega) (by omega)) mi_X5_number ml_X5_193 ⟨Nat.le_of_ble_eq_true rfl, Nat.le_of_ble_eq_true rfl⟩ ⟨rfl, rfl⟩ (Seg.rfl' _) 4 0 rfl rfl rfl rfl hl.1 rfl (Nat.le_of_ble_eq_true rfl) ⟨Nat.zero_le _, Nat.zero_le _⟩ dX5_sunItem_12) (fun _ => wM_map _ _ _ _) (fun r u_ H locs hp h => ?_)
    subst hp
    have h : St E _ s H locs (wM E a (mm, kp, wa, (iv (ik)), fd, gf, tp, (iv (tn)), (iv (tK tq tn i)), (iv (tS tq tn i)), (iv (tE tq tn i)), (iv (vl)), (iv (1)), bt, sz, cl)) := h
    refine lv_istore_n (lv' := [(2, .int (iv (vl))), (1, .int (iv (vl))), (0, .ref (a 0))]) X.1 X.2.1 dX5_sunItem_15 rfl hl (by decide) rfl (fun ls hl => ?_)
    refine lv_aload_n X.1 X.2.1 dX5_sunItem_16 rfl (lv_at hl 2 rfl) ?_
    refine z_get X h 4 0 12 rfl inX5 rfl (by decide) fl_X5_183 rfl dX5_sunItem_17 ?_
    refine z_if_ne (tgt := 32) X ⟨by decide, by decide⟩ dX5_sunItem_20 (by decide) (fun c_20 => ?_) (fun c_20 => ?_)
    · have e9 : s_item tq tn A i = (false, A, i) := by unfold s_item; first | ((repeat (first | rw [if_pos (by omega)] | rw [if_neg (by omega)])); done) | ((repeat (first | rw [if_pos (by omega)] | rw [if_neg (by omega)])); rfl) | (exfalso; omega)
      have h : St E _ s H locs (wM E a (mm, kp, wa, (iv (ik)), fd, gf, tp, (iv (tn)), (iv (tK tq tn i)), (iv (tS tq tn i)), (iv (tE tq tn i)), (iv (vl)), (iv (1)), bt, sz, cl)) := h
      exact ret _ _ _ _ (mm, vl) (by rw [e9]; exact h) (by rw [e9]; exact ⟨hR, hI, rfl, hcv, fun q => absurd q (show ¬ false = true by decide), (show i ≤ i by omega), (show i ≤ tn by omega)⟩) dX5_sunItem_32
    · exact absurd c_20 (by decide)
