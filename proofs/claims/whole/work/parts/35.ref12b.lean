variable {E : EV} {l : Launch} {a : Nat → Nat} {mm kp wa fd gf tp bt sz : Nat → Int32} {cl : Nat → Int64} {ik tn tk bg pt vl bd : Int} {A : Es} {K : Es} {ph tq bq sq : Int → Int} {cq : Int → Int → Int64}
set_option maxHeartbeats 4000000 in
theorem c_X5_item (hR : RM mm A) (hI : IA A) (hT : RT tp tq tn) {i : Int} (i0 : 0 ≤ i) (i1 : i ≤ tn) (hcv : CV vl (tV tq tn i)) : MV (S := (Nat → Int32) × Int) E l yX5_item cX5_item 2 (rmk 6 137) (wM E a (mm, kp, wa, (iv (ik)), fd, gf, tp, (iv (tn)), (iv (tK tq tn i)), (iv (tS tq tn i)), (iv (tE tq tn i)), (iv (vl)), (iv (0)), bt, sz, cl)) [.ref (a 0)] (fun u => RM u.1 (itm tq tn A i).2.1 ∧ IA (itm tq tn A i).2.1 ∧ hr (itm tq tn A i).2.1 = hr A ∧ CV u.2 (tV tq tn (itm tq tn A i).2.2) ∧ ((itm tq tn A i).1 = true → i < (itm tq tn A i).2.2) ∧ i ≤ (itm tq tn A i).2.2 ∧ (itm tq tn A i).2.2 ≤ tn) (fun u => wM E a (u.1, kp, wa, (iv (ik)), fd, gf, tp, (iv (tn)), (iv (tK tq tn (itm tq tn A i).2.2)), (iv (tS tq tn (itm tq tn A i).2.2)), (iv (tE tq tn (itm tq tn A i).2.2)), (iv (u.2)), (iv (btb (itm tq tn A i).1)), bt, sz, cl)) := by
  refine goV (S := (Nat → Int32) × Int) (post := fun u => RM u.1 (itm tq tn A i).2.1 ∧ IA (itm tq tn A i).2.1 ∧ hr (itm tq tn A i).2.1 = hr A ∧ CV u.2 (tV tq tn (itm tq tn A i).2.2) ∧ ((itm tq tn A i).1 = true → i < (itm tq tn A i).2.2) ∧ i ≤ (itm tq tn A i).2.2 ∧ (itm tq tn A i).2.2 ≤ tn) (ws' := fun u => wM E a (u.1, kp, wa, (iv (ik)), fd, gf, tp, (iv (tn)), (iv (tK tq tn (itm tq tn A i).2.2)), (iv (tS tq tn (itm tq tn A i).2.2)), (iv (tE tq tn (itm tq tn A i).2.2)), (iv (u.2)), (iv (btb (itm tq tn A i).1)), bt, sz, cl)) (by decide) (Nat.le_of_ble_eq_true rfl) ?_
  intro pp e s m below meth c ls args Q ret X h hl
  have hl : lv_has ls 2 [(0, .ref (a 0))] := hl
  have t0 := hT.1
  have t1 := hT.2.1
  have tr := tok_rng tq i0 i1
  have cr := hcv.1
  have cr2 := hcv.2.1
  have n8 := hI.n8
  have n0 := hI.n0
  have cnn := CV_nn hcv
  refine lv_aload_n X.1 X.2.1 dX5_item_0 rfl (lv_at hl 0 rfl) ?_
  refine z_get X h 4 0 8 rfl inX5 rfl (by decide) fl_X5_177 rfl dX5_item_1 ?_
  refine z_iconst X dX5_item_4 ?_
  refine z_ic_gt (tgt := 15) X ⟨by omega, by omega⟩ ⟨by decide, by decide⟩ dX5_item_5 (by decide) (fun c_5 => ?_) (fun c_5 => ?_)
  · refine lv_aload_n X.1 X.2.1 dX5_item_15 rfl (lv_at hl 0 rfl) ?_
    refine z_bipush X (by decide) dX5_item_16 ?_
    by_cases cpx : tK tq tn i = 8
    · have cp1 := cpx
      refine z_ai h (run_V (rest := []) X h (c_X5_passes_y (i := i) (wd := 8) hT (by omega) (by omega) hcv ⟨by decide, by decide⟩ cp1) mi_X5_passes ml_X5_190 ⟨Nat.le_of_ble_eq_true rfl, Nat.le_of_ble_eq_true rfl⟩ ⟨rfl, rfl⟩ (Seg.rfl' _) 4 0 rfl rfl rfl rfl hl.1 rfl (Nat.le_of_ble_eq_true rfl) ⟨Nat.zero_le _, Nat.zero_le _⟩ dX5_item_18) (fun _ => wM_map _ _ _ _) (fun r v1 H locs hp h => ?_)
      obtain ⟨rfl, cv1⟩ := hp
      have h : St E _ s H locs (wM E a (mm, kp, wa, (iv (ik)), fd, gf, tp, (iv (tn)), (iv (tK tq tn (tE tq tn i))), (iv (tS tq tn (tE tq tn i))), (iv (tE tq tn (tE tq tn i))), (iv (v1)), (iv (0)), bt, sz, cl)) := h
      have tr1 := tok_rng tq (tn := tn) (i := (tE tq tn i)) (by omega) (by omega)
      have cr1 := cv1.1
      have cq1 := cv1.2.1
      have cn1 := CV_nn cv1
      refine z_if_eq (tgt := 31) X ⟨by decide, by decide⟩ dX5_item_21 (by decide) (fun c_21 => ?_) (fun c_21 => ?_)
      · exact absurd c_21 (by decide)
      · refine lv_aload_n X.1 X.2.1 dX5_item_24 rfl (lv_at hl 0 rfl) ?_
        refine z_av h (run_V (rest := []) X h (c_X5_sunItem (i := (tE tq tn i)) hR hI hT (by omega) (by omega) cv1) mi_X5_sunItem ml_X5_203 ⟨Nat.le_of_ble_eq_true rfl, Nat.le_of_ble_eq_true rfl⟩ ⟨rfl, rfl⟩ (Seg.rfl' _) 4 0 rfl rfl rfl rfl hl.1 rfl (Nat.le_of_ble_eq_true rfl) ⟨Nat.zero_le _, Nat.zero_le _⟩ dX5_item_25) (fun _ => wM_map _ _ _ _) (fun u2 H locs hp2 h => ?_)
        obtain ⟨T2, eT2⟩ : ∃ T, T = s_item tq tn A (tE tq tn i) := ⟨_, rfl⟩
        rw [← eT2] at h hp2
        have h : St E _ s H locs (wM E a (u2.1, kp, wa, (iv (ik)), fd, gf, tp, (iv (tn)), (iv (tK tq tn (T2).2.2)), (iv (tS tq tn (T2).2.2)), (iv (tE tq tn (T2).2.2)), (iv (u2.2)), (iv (btb (T2).1)), bt, sz, cl)) := h
        refine lv_goto (tgt := 76) X.1 X.2.1 dX5_item_28 (by decide) ?_
        have e9 : itm tq tn A i = T2 := by rw [eT2]; unfold itm; (repeat (first | rw [if_pos (by omega)] | rw [if_neg (by omega)]))
        exact ret _ _ _ _ u2 (by rw [e9]; exact h) (by rw [e9]; exact ⟨hp2.1, hp2.2.1, hp2.2.2.1, hp2.2.2.2.1, fun q => by have := hp2.2.2.2.2.1 q; omega, by have := hp2.2.2.2.2.2.1; omega, hp2.2.2.2.2.2.2⟩) dX5_item_76
    · have cp3 := cpx
      refine z_pi (run_V (rest := []) X h (c_X5_passes_n (i := i) (wd := 8) hT (by omega) (by omega) hcv ⟨by decide, by decide⟩ cp3) mi_X5_passes ml_X5_190 ⟨Nat.le_of_ble_eq_true rfl, Nat.le_of_ble_eq_true rfl⟩ ⟨rfl, rfl⟩ (Seg.rfl' _) 4 0 rfl rfl rfl rfl hl.1 rfl (Nat.le_of_ble_eq_true rfl) ⟨Nat.zero_le _, Nat.zero_le _⟩ dX5_item_18) ?_
      refine z_ifb_eq (tgt := 31) X dX5_item_21 (by decide) (fun c_21 => ?_) (fun c_21 => ?_)
      · refine lv_aload_n X.1 X.2.1 dX5_item_31 rfl (lv_at hl 0 rfl) ?_
        refine z_bipush X (by decide) dX5_item_32 ?_
        by_cases cpx : tK tq tn i = 9
        · have cp4 := cpx
          refine z_ai h (run_V (rest := []) X h (c_X5_passes_y (i := i) (wd := 9) hT (by omega) (by omega) hcv ⟨by decide, by decide⟩ cp4) mi_X5_passes ml_X5_190 ⟨Nat.le_of_ble_eq_true rfl, Nat.le_of_ble_eq_true rfl⟩ ⟨rfl, rfl⟩ (Seg.rfl' _) 4 0 rfl rfl rfl rfl hl.1 rfl (Nat.le_of_ble_eq_true rfl) ⟨Nat.zero_le _, Nat.zero_le _⟩ dX5_item_34) (fun _ => wM_map _ _ _ _) (fun r v4 H locs hp h => ?_)
          obtain ⟨rfl, cv4⟩ := hp
          have h : St E _ s H locs (wM E a (mm, kp, wa, (iv (ik)), fd, gf, tp, (iv (tn)), (iv (tK tq tn (tE tq tn i))), (iv (tS tq tn (tE tq tn i))), (iv (tE tq tn (tE tq tn i))), (iv (v4)), (iv (0)), bt, sz, cl)) := h
          have tr4 := tok_rng tq (tn := tn) (i := (tE tq tn i)) (by omega) (by omega)
          have cr4 := cv4.1
          have cq4 := cv4.2.1
          have cn4 := CV_nn cv4
          refine z_if_eq (tgt := 71) X ⟨by decide, by decide⟩ dX5_item_37 (by decide) (fun c_37 => ?_) (fun c_37 => ?_)
          · exact absurd c_37 (by decide)
          · refine lv_aload_n X.1 X.2.1 dX5_item_40 rfl (lv_at hl 0 rfl) ?_
            refine z_iconst X dX5_item_41 ?_
            refine lv_aload_n X.1 X.2.1 dX5_item_42 rfl (lv_at hl 0 rfl) ?_
            refine z_get X h 4 0 0 rfl inX5 rfl (by decide) fl_X5_9 rfl dX5_item_43 ?_
            refine z_iconst X dX5_item_46 ?_
            refine z_iald (v := pe A) X h 1 rfl (by omega) (by omega) (by decide) hR.2.1 dX5_item_47 ?_
            refine z_iconst X dX5_item_48 ?_
            refine z_isub X dX5_item_49 ?_
            by_cases cpx : tK tq tn (tE tq tn i) = 20 ∧ tV tq tn (tE tq tn i) ≤ pe A - 1
            · have cp5 := cpx
              have cm5 := CV_nn cv4
              refine z_ai h (run_V (rest := []) X h (c_X5_number_y (i := (tE tq tn i)) (mx := pe A - 1) hT (by omega) (by omega) cv4 (by omega) (by omega) cp5.1 cp5.2) mi_X5_number ml_X5_193 ⟨Nat.le_of_ble_eq_true rfl, Nat.le_of_ble_eq_true rfl⟩ ⟨rfl, rfl⟩ (Seg.rfl' _) 4 0 rfl rfl rfl rfl hl.1 rfl (Nat.le_of_ble_eq_true rfl) ⟨Nat.zero_le _, Nat.zero_le _⟩ dX5_item_50) (fun _ => wM_map _ _ _ _) (fun r v5 H locs hp h => ?_)
              obtain ⟨rfl, cv5⟩ := hp
              have h : St E _ s H locs (wM E a (mm, kp, wa, (iv (ik)), fd, gf, tp, (iv (tn)), (iv (tK tq tn (tE tq tn (tE tq tn i)))), (iv (tS tq tn (tE tq tn (tE tq tn i)))), (iv (tE tq tn (tE tq tn (tE tq tn i)))), (iv (v5)), (iv (0)), bt, sz, cl)) := h
              have tr5 := tok_rng tq (tn := tn) (i := (tE tq tn (tE tq tn i))) (by omega) (by omega)
              have cr5 := cv5.1
              have cq5 := cv5.2.1
              have cn5 := CV_nn cv5
              refine lv_istore_n (lv' := [(1, .int (iv (tV tq tn (tE tq tn i)))), (0, .ref (a 0))]) X.1 X.2.1 dX5_item_53 rfl hl (by decide) rfl (fun ls hl => ?_)
              refine lv_aload_n X.1 X.2.1 dX5_item_54 rfl (lv_at hl 1 rfl) ?_
              refine z_get X h 4 0 12 rfl inX5 rfl (by decide) fl_X5_183 rfl dX5_item_55 ?_
              refine z_if_ne (tgt := 68) X ⟨by decide, by decide⟩ dX5_item_58 (by decide) (fun c_58 => ?_) (fun c_58 => ?_)
              · exact absurd c_58 (by decide)
              · refine lv_aload_n X.1 X.2.1 dX5_item_61 rfl (lv_at hl 1 rfl) ?_
                refine lv_iload_n X.1 X.2.1 dX5_item_62 rfl (lv_at hl 0 rfl) ?_
                refine z_iconst X dX5_item_63 ?_
                refine z_iconst X dX5_item_64 ?_
                refine z_av h (run_V (rest := []) X h (c_X5_put (p := (tV tq tn (tE tq tn i))) (w := 1) (v := ((-1))) hR hI.n8 (by omega) (by first | omega | (show (tV tq tn (tE tq tn i)) < pe A; omega)) (by omega) (by omega)) mi_X5_put ml_X5_91 ⟨Nat.le_of_ble_eq_true rfl, Nat.le_of_ble_eq_true rfl⟩ ⟨rfl, rfl⟩ (Seg.rfl' _) 4 0 rfl rfl rfl rfl hl.1 rfl (Nat.le_of_ble_eq_true rfl) ⟨Nat.zero_le _, Nat.zero_le _⟩ dX5_item_65) (fun _ => wM_map _ _ _ _) (fun mp6 H locs hR6 h => ?_)
                have h : St E _ s H locs (wM E a (mp6, kp, wa, (iv (ik)), fd, gf, tp, (iv (tn)), (iv (tK tq tn (tE tq tn (tE tq tn i)))), (iv (tS tq tn (tE tq tn (tE tq tn i)))), (iv (tE tq tn (tE tq tn (tE tq tn i)))), (iv (v5)), (iv (0)), bt, sz, cl)) := h
                refine lv_goto (tgt := 76) X.1 X.2.1 dX5_item_68 (by decide) ?_
                have hI9 := IA_goes hI (p := tV tq tn (tE tq tn i)) (by omega) (by omega)
                have e9 : itm tq tn A i = (true, (pu A 1 (tV tq tn (tE tq tn i)) ((-1))), (tE tq tn (tE tq tn i))) := by unfold itm g_item; first | ((repeat (first | rw [if_pos (by omega)] | rw [if_neg (by omega)])); done) | ((repeat (first | rw [if_pos (by omega)] | rw [if_neg (by omega)])); rfl) | (exfalso; omega)
                have h : St E _ s H locs (wM E a (mp6, kp, wa, (iv (ik)), fd, gf, tp, (iv (tn)), (iv (tK tq tn (tE tq tn (tE tq tn i)))), (iv (tS tq tn (tE tq tn (tE tq tn i)))), (iv (tE tq tn (tE tq tn (tE tq tn i)))), (iv (v5)), (iv (0)), bt, sz, cl)) := h
                exact ret _ _ _ _ (mp6, v5) (by rw [e9]; exact h) (by rw [e9]; exact ⟨hR6, hI9, rfl, cv5, fun _ => (show i < (tE tq tn (tE tq tn i)) by omega), (show i ≤ (tE tq tn (tE tq tn i)) by omega), (show (tE tq tn (tE tq tn i)) ≤ tn by omega)⟩) dX5_item_76
            · have cp7 := cpx
              refine z_ai h (run_V (rest := []) X h (c_X5_number_n (i := (tE tq tn i)) (mx := pe A - 1) hT (by omega) (by omega) cv4 (by omega) (by omega) cp7) mi_X5_number ml_X5_193 ⟨Nat.le_of_ble_eq_true rfl, Nat.le_of_ble_eq_true rfl⟩ ⟨rfl, rfl⟩ (Seg.rfl' _) 4 0 rfl rfl rfl rfl hl.1 rfl (Nat.le_of_ble_eq_true rfl) ⟨Nat.zero_le _, Nat.zero_le _⟩ dX5_item_50) (fun _ => wM_map _ _ _ _) (fun r u_ H locs hp h => ?_)
              subst hp
              have h : St E _ s H locs (wM E a (mm, kp, wa, (iv (ik)), fd, gf, tp, (iv (tn)), (iv (tK tq tn (tE tq tn i))), (iv (tS tq tn (tE tq tn i))), (iv (tE tq tn (tE tq tn i))), (iv (v4)), (iv (1)), bt, sz, cl)) := h
              refine lv_istore_n (lv' := [(1, .int (iv (v4))), (0, .ref (a 0))]) X.1 X.2.1 dX5_item_53 rfl hl (by decide) rfl (fun ls hl => ?_)
              refine lv_aload_n X.1 X.2.1 dX5_item_54 rfl (lv_at hl 1 rfl) ?_
              refine z_get X h 4 0 12 rfl inX5 rfl (by decide) fl_X5_183 rfl dX5_item_55 ?_
              refine z_if_ne (tgt := 68) X ⟨by decide, by decide⟩ dX5_item_58 (by decide) (fun c_58 => ?_) (fun c_58 => ?_)
              · refine lv_goto (tgt := 76) X.1 X.2.1 dX5_item_68 (by decide) ?_
                have e9 : itm tq tn A i = (false, A, (tE tq tn i)) := by unfold itm g_item; first | ((repeat (first | rw [if_pos (by omega)] | rw [if_neg (by omega)])); done) | ((repeat (first | rw [if_pos (by omega)] | rw [if_neg (by omega)])); rfl) | (exfalso; omega)
                have h : St E _ s H locs (wM E a (mm, kp, wa, (iv (ik)), fd, gf, tp, (iv (tn)), (iv (tK tq tn (tE tq tn i))), (iv (tS tq tn (tE tq tn i))), (iv (tE tq tn (tE tq tn i))), (iv (v4)), (iv (1)), bt, sz, cl)) := h
                exact ret _ _ _ _ (mm, v4) (by rw [e9]; exact h) (by rw [e9]; exact ⟨hR, hI, rfl, cv4, fun q => absurd q (show ¬ false = true by decide), (show i ≤ (tE tq tn i) by omega), (show (tE tq tn i) ≤ tn by omega)⟩) dX5_item_76
              · exact absurd c_58 (by decide)
        · have cp8 := cpx
          refine z_pi (run_V (rest := []) X h (c_X5_passes_n (i := i) (wd := 9) hT (by omega) (by omega) hcv ⟨by decide, by decide⟩ cp8) mi_X5_passes ml_X5_190 ⟨Nat.le_of_ble_eq_true rfl, Nat.le_of_ble_eq_true rfl⟩ ⟨rfl, rfl⟩ (Seg.rfl' _) 4 0 rfl rfl rfl rfl hl.1 rfl (Nat.le_of_ble_eq_true rfl) ⟨Nat.zero_le _, Nat.zero_le _⟩ dX5_item_34) ?_
          refine z_ifb_eq (tgt := 71) X dX5_item_37 (by decide) (fun c_37 => ?_) (fun c_37 => ?_)
          · refine lv_aload_n X.1 X.2.1 dX5_item_71 rfl (lv_at hl 0 rfl) ?_
            refine z_iconst X dX5_item_72 ?_
            refine z_put X h 4 0 12 rfl inX5 tyX5 tyX5_ok nmX5 rfl (by decide) fl_X5_183 rfl (by decide) (by decide) (Nat.le_of_ble_eq_true rfl) dX5_item_73 (fun H locs h => ?_)
            have h := stM_bad h
            have h : St E _ s H locs (wM E a (mm, kp, wa, (iv (ik)), fd, gf, tp, (iv (tn)), (iv (tK tq tn i)), (iv (tS tq tn i)), (iv (tE tq tn i)), (iv (vl)), (iv (1)), bt, sz, cl)) := h
            have e9 : itm tq tn A i = (false, A, i) := by unfold itm g_item; first | ((repeat (first | rw [if_pos (by omega)] | rw [if_neg (by omega)])); done) | ((repeat (first | rw [if_pos (by omega)] | rw [if_neg (by omega)])); rfl) | (exfalso; omega)
            have h : St E _ s H locs (wM E a (mm, kp, wa, (iv (ik)), fd, gf, tp, (iv (tn)), (iv (tK tq tn i)), (iv (tS tq tn i)), (iv (tE tq tn i)), (iv (vl)), (iv (1)), bt, sz, cl)) := h
            exact ret _ _ _ _ (mm, vl) (by rw [e9]; exact h) (by rw [e9]; exact ⟨hR, hI, rfl, hcv, fun q => absurd q (show ¬ false = true by decide), (show i ≤ i by omega), (show i ≤ tn by omega)⟩) dX5_item_76
          · exact c_37.elim
      · exact c_21.elim
  · refine lv_aload_n X.1 X.2.1 dX5_item_8 rfl (lv_at hl 0 rfl) ?_
    refine z_av h (run_V (rest := []) X h (c_X5_personItem (i := i) hR hI hT (by omega) (by omega) hcv (by omega)) mi_X5_personItem ml_X5_200 ⟨Nat.le_of_ble_eq_true rfl, Nat.le_of_ble_eq_true rfl⟩ ⟨rfl, rfl⟩ (Seg.rfl' _) 4 0 rfl rfl rfl rfl hl.1 rfl (Nat.le_of_ble_eq_true rfl) ⟨Nat.zero_le _, Nat.zero_le _⟩ dX5_item_9) (fun _ => wM_map _ _ _ _) (fun u9 H locs hp9 h => ?_)
    obtain ⟨T9, eT9⟩ : ∃ T, T = p_item tq tn A i := ⟨_, rfl⟩
    rw [← eT9] at h hp9
    have h : St E _ s H locs (wM E a (u9.1, kp, wa, (iv (ik)), fd, gf, tp, (iv (tn)), (iv (tK tq tn (T9).2.2)), (iv (tS tq tn (T9).2.2)), (iv (tE tq tn (T9).2.2)), (iv (u9.2)), (iv (btb (T9).1)), bt, sz, cl)) := h
    refine lv_goto (tgt := 76) X.1 X.2.1 dX5_item_12 (by decide) ?_
    have e9 : itm tq tn A i = T9 := by rw [eT9]; unfold itm; (repeat (first | rw [if_pos (by omega)] | rw [if_neg (by omega)]))
    exact ret _ _ _ _ u9 (by rw [e9]; exact h) (by rw [e9]; exact ⟨hp9.1, hp9.2.1, hp9.2.2.1, hp9.2.2.2.1, fun q => by have := hp9.2.2.2.2.1 q; omega, by have := hp9.2.2.2.2.2.1; omega, hp9.2.2.2.2.2.2⟩) dX5_item_76
