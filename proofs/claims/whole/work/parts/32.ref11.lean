variable {E : EV} {l : Launch} {a : Nat → Nat} {mm kp wa fd gf tp bt sz : Nat → Int32} {cl : Nat → Int64} {ik tn tk bg pt vl bd : Int} {A : Es} {K : Es} {ph tq bq sq : Int → Int} {cq : Int → Int → Int64}
set_option maxHeartbeats 4000000 in
theorem c_X5_personItem (hR : RM mm A) (hI : IA A) (hT : RT tp tq tn) {i : Int} (i0 : 0 ≤ i) (i1 : i ≤ tn) (hcv : CV vl (tV tq tn i)) (hk0 : tK tq tn i ≤ 5) : MV (S := (Nat → Int32) × Int) E l yX5_personItem cX5_personItem 5 (rmk 5 113) (wM E a (mm, kp, wa, (iv (ik)), fd, gf, tp, (iv (tn)), (iv (tK tq tn i)), (iv (tS tq tn i)), (iv (tE tq tn i)), (iv (vl)), (iv (0)), bt, sz, cl)) [.ref (a 0)] (fun u => RM u.1 (p_item tq tn A i).2.1 ∧ IA (p_item tq tn A i).2.1 ∧ hr (p_item tq tn A i).2.1 = hr A ∧ CV u.2 (tV tq tn (p_item tq tn A i).2.2) ∧ ((p_item tq tn A i).1 = true → i < (p_item tq tn A i).2.2) ∧ i ≤ (p_item tq tn A i).2.2 ∧ (p_item tq tn A i).2.2 ≤ tn) (fun u => wM E a (u.1, kp, wa, (iv (ik)), fd, gf, tp, (iv (tn)), (iv (tK tq tn (p_item tq tn A i).2.2)), (iv (tS tq tn (p_item tq tn A i).2.2)), (iv (tE tq tn (p_item tq tn A i).2.2)), (iv (u.2)), (iv (btb (p_item tq tn A i).1)), bt, sz, cl)) := by
  refine goV (S := (Nat → Int32) × Int) (post := fun u => RM u.1 (p_item tq tn A i).2.1 ∧ IA (p_item tq tn A i).2.1 ∧ hr (p_item tq tn A i).2.1 = hr A ∧ CV u.2 (tV tq tn (p_item tq tn A i).2.2) ∧ ((p_item tq tn A i).1 = true → i < (p_item tq tn A i).2.2) ∧ i ≤ (p_item tq tn A i).2.2 ∧ (p_item tq tn A i).2.2 ≤ tn) (ws' := fun u => wM E a (u.1, kp, wa, (iv (ik)), fd, gf, tp, (iv (tn)), (iv (tK tq tn (p_item tq tn A i).2.2)), (iv (tS tq tn (p_item tq tn A i).2.2)), (iv (tE tq tn (p_item tq tn A i).2.2)), (iv (u.2)), (iv (btb (p_item tq tn A i).1)), bt, sz, cl)) (by decide) (Nat.le_of_ble_eq_true rfl) ?_
  intro pp e s m below meth c ls args Q ret X h hl
  have hl : lv_has ls 5 [(0, .ref (a 0))] := hl
  have t0 := hT.1
  have t1 := hT.2.1
  have tr := tok_rng tq i0 i1
  have cr := hcv.1
  have cr2 := hcv.2.1
  have n8 := hI.n8
  have n0 := hI.n0
  have cnn := CV_nn hcv
  refine lv_aload_n X.1 X.2.1 dX5_personItem_0 rfl (lv_at hl 0 rfl) ?_
  refine z_get X h 4 0 8 rfl inX5 rfl (by decide) fl_X5_177 rfl dX5_personItem_1 ?_
  refine lv_istore_n (lv' := [(1, .int (iv (tK tq tn i))), (0, .ref (a 0))]) X.1 X.2.1 dX5_personItem_4 rfl hl (by decide) rfl (fun ls hl => ?_)
  refine lv_aload_n X.1 X.2.1 dX5_personItem_5 rfl (lv_at hl 1 rfl) ?_
  refine lv_aload_n X.1 X.2.1 dX5_personItem_6 rfl (lv_at hl 1 rfl) ?_
  refine z_get X h 4 0 0 rfl inX5 rfl (by decide) fl_X5_9 rfl dX5_personItem_7 ?_
  refine z_iconst X dX5_personItem_10 ?_
  refine z_iald (v := pe A) X h 1 rfl (by omega) (by omega) (by decide) hR.2.1 dX5_personItem_11 ?_
  refine z_bipush X (by decide) dX5_personItem_12 ?_
  refine z_ic_ne (tgt := 21) X ⟨by omega, by omega⟩ ⟨by decide, by decide⟩ dX5_personItem_14 (by decide) (fun c_14 => ?_) (fun c_14 => ?_)
  · refine z_iconst X dX5_personItem_21 ?_
    refine z_put X h 4 0 12 rfl inX5 tyX5 tyX5_ok nmX5 rfl (by decide) fl_X5_183 rfl (by decide) (by decide) (Nat.le_of_ble_eq_true rfl) dX5_personItem_22 (fun H locs h => ?_)
    have h : St E _ s H locs (wM E a (mm, kp, wa, (iv (ik)), fd, gf, tp, (iv (tn)), (iv (tK tq tn i)), (iv (tS tq tn i)), (iv (tE tq tn i)), (iv (vl)), (iv (0)), bt, sz, cl)) := h
    refine lv_aload_n X.1 X.2.1 dX5_personItem_25 rfl (lv_at hl 1 rfl) ?_
    refine z_get X h 4 0 12 rfl inX5 rfl (by decide) fl_X5_183 rfl dX5_personItem_26 ?_
    refine z_if_eq (tgt := 33) X ⟨by decide, by decide⟩ dX5_personItem_29 (by decide) (fun c_29 => ?_) (fun c_29 => ?_)
    · refine lv_aload_n X.1 X.2.1 dX5_personItem_33 rfl (lv_at hl 1 rfl) ?_
      refine z_av h (run_V (rest := []) X h (c_X5_reads (pt := (tE tq tn i)) hT (by omega) (by omega)) mi_X5_reads ml_X5_187 ⟨Nat.le_of_ble_eq_true rfl, Nat.le_of_ble_eq_true rfl⟩ ⟨rfl, rfl⟩ (Seg.rfl' _) 4 0 rfl rfl rfl rfl hl.1 rfl (Nat.le_of_ble_eq_true rfl) ⟨Nat.zero_le _, Nat.zero_le _⟩ dX5_personItem_34) (fun _ => wM_map _ _ _ _) (fun v1 H locs cv1 h => ?_)
      have h : St E _ s H locs (wM E a (mm, kp, wa, (iv (ik)), fd, gf, tp, (iv (tn)), (iv (tK tq tn (tE tq tn i))), (iv (tS tq tn (tE tq tn i))), (iv (tE tq tn (tE tq tn i))), (iv (v1)), (iv (0)), bt, sz, cl)) := h
      have tr1 := tok_rng tq (tn := tn) (i := (tE tq tn i)) (by omega) (by omega)
      have cr1 := cv1.1
      have cq1 := cv1.2.1
      have cn1 := CV_nn cv1
      refine lv_aload_n X.1 X.2.1 dX5_personItem_37 rfl (lv_at hl 1 rfl) ?_
      refine z_bipush X (by decide) dX5_personItem_38 ?_
      refine z_iconst X dX5_personItem_40 ?_
      refine z_sipush X (by decide) dX5_personItem_41 ?_
      refine z_bipush X (by decide) dX5_personItem_44 ?_
      by_cases cpk : tK tq tn (tE tq tn i) = 6
      · have trq := tok_rng tq (tn := tn) (i := (tE tq tn (tE tq tn i))) (by omega) (by omega)
        have tvn := tV_nn tq (tn := tn) (i := (tE tq tn (tE tq tn i))) (by omega)
        by_cases cpn : tK tq tn (tE tq tn (tE tq tn i)) = 20 ∧ tV tq tn (tE tq tn (tE tq tn i)) ≤ 200
        · refine z_ai h (run_V (rest := []) X h (c_X5_perhaps_y (i := (tE tq tn i)) (wd := 6) (mx := 200) (so := 20) hT (by omega) (by omega) cv1 ⟨by decide, by decide⟩ (by omega) (by omega) ⟨by decide, by decide⟩ cpk cpn) mi_X5_perhaps ml_X5_196 ⟨Nat.le_of_ble_eq_true rfl, Nat.le_of_ble_eq_true rfl⟩ ⟨rfl, rfl⟩ (Seg.rfl' _) 4 0 rfl rfl rfl rfl hl.1 rfl (Nat.le_of_ble_eq_true rfl) ⟨Nat.zero_le _, Nat.zero_le _⟩ dX5_personItem_46) (fun _ => wM_map _ _ _ _) (fun r v2 H locs hp h => ?_)
          obtain ⟨rfl, cv2⟩ := hp
          have h : St E _ s H locs (wM E a (mm, kp, wa, (iv (ik)), fd, gf, tp, (iv (tn)), (iv (tK tq tn (tE tq tn (tE tq tn (tE tq tn i))))), (iv (tS tq tn (tE tq tn (tE tq tn (tE tq tn i))))), (iv (tE tq tn (tE tq tn (tE tq tn (tE tq tn i))))), (iv (v2)), (iv (0)), bt, sz, cl)) := h
          have tr2 := tok_rng tq (tn := tn) (i := (tE tq tn (tE tq tn (tE tq tn i)))) (by omega) (by omega)
          have cr2 := cv2.1
          have cq2 := cv2.2.1
          have cn2 := CV_nn cv2
          refine lv_istore_n (lv' := [(2, .int (iv (tV tq tn (tE tq tn (tE tq tn i))))), (1, .int (iv (tK tq tn i))), (0, .ref (a 0))]) X.1 X.2.1 dX5_personItem_49 rfl hl (by decide) rfl (fun ls hl => ?_)
          refine z_iconst X dX5_personItem_50 ?_
          refine lv_istore_n (lv' := [(3, .int (iv ((-1)))), (2, .int (iv (tV tq tn (tE tq tn (tE tq tn i))))), (1, .int (iv (tK tq tn i))), (0, .ref (a 0))]) X.1 X.2.1 dX5_personItem_51 rfl hl (by decide) rfl (fun ls hl => ?_)
          refine lv_aload_n X.1 X.2.1 dX5_personItem_52 rfl (lv_at hl 3 rfl) ?_
          refine z_bipush X (by decide) dX5_personItem_53 ?_
          by_cases cpx : tK tq tn (tE tq tn (tE tq tn (tE tq tn i))) = 7
          · have cp3 := cpx
            refine z_ai h (run_V (rest := []) X h (c_X5_passes_y (i := (tE tq tn (tE tq tn (tE tq tn i)))) (wd := 7) hT (by omega) (by omega) cv2 ⟨by decide, by decide⟩ cp3) mi_X5_passes ml_X5_190 ⟨Nat.le_of_ble_eq_true rfl, Nat.le_of_ble_eq_true rfl⟩ ⟨rfl, rfl⟩ (Seg.rfl' _) 4 0 rfl rfl rfl rfl hl.1 rfl (Nat.le_of_ble_eq_true rfl) ⟨Nat.zero_le _, Nat.zero_le _⟩ dX5_personItem_55) (fun _ => wM_map _ _ _ _) (fun r v3 H locs hp h => ?_)
            obtain ⟨rfl, cv3⟩ := hp
            have h : St E _ s H locs (wM E a (mm, kp, wa, (iv (ik)), fd, gf, tp, (iv (tn)), (iv (tK tq tn (tE tq tn (tE tq tn (tE tq tn (tE tq tn i)))))), (iv (tS tq tn (tE tq tn (tE tq tn (tE tq tn (tE tq tn i)))))), (iv (tE tq tn (tE tq tn (tE tq tn (tE tq tn (tE tq tn i)))))), (iv (v3)), (iv (0)), bt, sz, cl)) := h
            have tr3 := tok_rng tq (tn := tn) (i := (tE tq tn (tE tq tn (tE tq tn (tE tq tn i))))) (by omega) (by omega)
            have cr3 := cv3.1
            have cq3 := cv3.2.1
            have cn3 := CV_nn cv3
            refine z_if_eq (tgt := 112) X ⟨by decide, by decide⟩ dX5_personItem_58 (by decide) (fun c_58 => ?_) (fun c_58 => ?_)
            · exact absurd c_58 (by decide)
            · refine lv_aload_n X.1 X.2.1 dX5_personItem_61 rfl (lv_at hl 3 rfl) ?_
              refine lv_aload_n X.1 X.2.1 dX5_personItem_62 rfl (lv_at hl 3 rfl) ?_
              refine z_get X h 4 0 8 rfl inX5 rfl (by decide) fl_X5_177 rfl dX5_personItem_63 ?_
              refine z_bipush X (by decide) dX5_personItem_66 ?_
              refine z_ic_ne (tgt := 100) X ⟨by omega, by omega⟩ ⟨by decide, by decide⟩ dX5_personItem_68 (by decide) (fun c_68 => ?_) (fun c_68 => ?_)
              · refine z_iconst X dX5_personItem_100 ?_
                refine z_put X h 4 0 12 rfl inX5 tyX5 tyX5_ok nmX5 rfl (by decide) fl_X5_183 rfl (by decide) (by decide) (Nat.le_of_ble_eq_true rfl) dX5_personItem_101 (fun H locs h => ?_)
                have h : St E _ s H locs (wM E a (mm, kp, wa, (iv (ik)), fd, gf, tp, (iv (tn)), (iv (tK tq tn (tE tq tn (tE tq tn (tE tq tn (tE tq tn i)))))), (iv (tS tq tn (tE tq tn (tE tq tn (tE tq tn (tE tq tn i)))))), (iv (tE tq tn (tE tq tn (tE tq tn (tE tq tn (tE tq tn i)))))), (iv (v3)), (iv (0)), bt, sz, cl)) := h
                have vm := CV_le cv3 (m := 9) (by omega)
                refine lv_aload_n X.1 X.2.1 dX5_personItem_104 rfl (lv_at hl 3 rfl) ?_
                refine z_iconst X dX5_personItem_105 ?_
                refine z_bipush X (by decide) dX5_personItem_106 ?_
                by_cases cpx : tK tq tn (tE tq tn (tE tq tn (tE tq tn (tE tq tn i)))) = 20 ∧ tV tq tn (tE tq tn (tE tq tn (tE tq tn (tE tq tn i)))) ≤ 9
                · have cp4 := cpx
                  have cm4 := CV_nn cv3
                  refine z_ai h (run_V (rest := []) X h (c_X5_number_y (i := (tE tq tn (tE tq tn (tE tq tn (tE tq tn i))))) (mx := 9) hT (by omega) (by omega) cv3 (by omega) (by omega) cp4.1 cp4.2) mi_X5_number ml_X5_193 ⟨Nat.le_of_ble_eq_true rfl, Nat.le_of_ble_eq_true rfl⟩ ⟨rfl, rfl⟩ (Seg.rfl' _) 4 0 rfl rfl rfl rfl hl.1 rfl (Nat.le_of_ble_eq_true rfl) ⟨Nat.zero_le _, Nat.zero_le _⟩ dX5_personItem_108) (fun _ => wM_map _ _ _ _) (fun r v4 H locs hp h => ?_)
                  obtain ⟨rfl, cv4⟩ := hp
                  have h : St E _ s H locs (wM E a (mm, kp, wa, (iv (ik)), fd, gf, tp, (iv (tn)), (iv (tK tq tn (tE tq tn (tE tq tn (tE tq tn (tE tq tn (tE tq tn i))))))), (iv (tS tq tn (tE tq tn (tE tq tn (tE tq tn (tE tq tn (tE tq tn i))))))), (iv (tE tq tn (tE tq tn (tE tq tn (tE tq tn (tE tq tn (tE tq tn i))))))), (iv (v4)), (iv (0)), bt, sz, cl)) := h
                  have tr4 := tok_rng tq (tn := tn) (i := (tE tq tn (tE tq tn (tE tq tn (tE tq tn (tE tq tn i)))))) (by omega) (by omega)
                  have cr4 := cv4.1
                  have cq4 := cv4.2.1
                  have cn4 := CV_nn cv4
                  refine lv_istore_n (lv' := [(3, .int (iv (tV tq tn (tE tq tn (tE tq tn (tE tq tn (tE tq tn i))))))), (2, .int (iv (tV tq tn (tE tq tn (tE tq tn i))))), (1, .int (iv (tK tq tn i))), (0, .ref (a 0))]) X.1 X.2.1 dX5_personItem_111 rfl hl (by decide) rfl (fun ls hl => ?_)
                  refine lv_aload_n X.1 X.2.1 dX5_personItem_112 rfl (lv_at hl 3 rfl) ?_
                  refine z_get X h 4 0 12 rfl inX5 rfl (by decide) fl_X5_183 rfl dX5_personItem_113 ?_
                  refine z_if_ne (tgt := 128) X ⟨by decide, by decide⟩ dX5_personItem_116 (by decide) (fun c_116 => ?_) (fun c_116 => ?_)
                  · exact absurd c_116 (by decide)
                  · refine lv_aload_n X.1 X.2.1 dX5_personItem_119 rfl (lv_at hl 3 rfl) ?_
                    refine lv_iload_n X.1 X.2.1 dX5_personItem_120 rfl (lv_at hl 2 rfl) ?_
                    refine lv_iload_n X.1 X.2.1 dX5_personItem_121 rfl (lv_at hl 1 rfl) ?_
                    refine lv_iload_n X.1 X.2.1 dX5_personItem_122 rfl (lv_at hl 0 rfl) ?_
                    refine z_ai h (run_V (rest := []) X h (c_X5_comesAs (k := (tK tq tn i)) (b := (tV tq tn (tE tq tn (tE tq tn i)))) (ch := (tV tq tn (tE tq tn (tE tq tn (tE tq tn (tE tq tn i)))))) hR hI.n0 (by omega)) mi_X5_comesAs ml_X5_96 ⟨Nat.le_of_ble_eq_true rfl, Nat.le_of_ble_eq_true rfl⟩ ⟨rfl, rfl⟩ (Seg.rfl' _) 4 0 rfl rfl rfl rfl hl.1 rfl (Nat.le_of_ble_eq_true rfl) ⟨Nat.zero_le _, Nat.zero_le _⟩ dX5_personItem_123) (fun _ => wM_map _ _ _ _) (fun r mc5 H locs hp h => ?_)
                    have h : St E _ s H locs (wM E a (mc5, kp, wa, (iv (ik)), fd, gf, tp, (iv (tn)), (iv (tK tq tn (tE tq tn (tE tq tn (tE tq tn (tE tq tn (tE tq tn i))))))), (iv (tS tq tn (tE tq tn (tE tq tn (tE tq tn (tE tq tn (tE tq tn i))))))), (iv (tE tq tn (tE tq tn (tE tq tn (tE tq tn (tE tq tn (tE tq tn i))))))), (iv (v4)), (iv (0)), bt, sz, cl)) := h
                    obtain ⟨rfl, hR5⟩ := hp
                    have hIn : IA (nwc A (tK tq tn i) (tV tq tn (tE tq tn (tE tq tn i))) (tV tq tn (tE tq tn (tE tq tn (tE tq tn (tE tq tn i)))))) := IA_nwc hI (by omega) (by omega) (by omega) (by omega) (by omega) (by omega) (by omega) (by omega)
                    refine lv_istore (lv' := [(4, .int (iv (pe A))), (3, .int (iv (tV tq tn (tE tq tn (tE tq tn (tE tq tn (tE tq tn i))))))), (2, .int (iv (tV tq tn (tE tq tn (tE tq tn i))))), (1, .int (iv (tK tq tn i))), (0, .ref (a 0))]) X.1 X.2.1 dX5_personItem_126 hl (by decide) rfl (fun ls hl => ?_)
                    have e9 : p_item tq tn A i = (true, (nwc A (tK tq tn i) (tV tq tn (tE tq tn (tE tq tn i))) (tV tq tn (tE tq tn (tE tq tn (tE tq tn (tE tq tn i)))))), (tE tq tn (tE tq tn (tE tq tn (tE tq tn (tE tq tn i)))))) := by unfold p_item on_item; first | ((repeat (first | rw [if_pos (by omega)] | rw [if_neg (by omega)])); done) | ((repeat (first | rw [if_pos (by omega)] | rw [if_neg (by omega)])); rfl) | (exfalso; omega)
                    have h : St E _ s H locs (wM E a (mc5, kp, wa, (iv (ik)), fd, gf, tp, (iv (tn)), (iv (tK tq tn (tE tq tn (tE tq tn (tE tq tn (tE tq tn (tE tq tn i))))))), (iv (tS tq tn (tE tq tn (tE tq tn (tE tq tn (tE tq tn (tE tq tn i))))))), (iv (tE tq tn (tE tq tn (tE tq tn (tE tq tn (tE tq tn (tE tq tn i))))))), (iv (v4)), (iv (0)), bt, sz, cl)) := h
                    exact ret _ _ _ _ (mc5, v4) (by rw [e9]; exact h) (by rw [e9]; exact ⟨hR5, hIn, rfl, cv4, fun _ => (show i < (tE tq tn (tE tq tn (tE tq tn (tE tq tn (tE tq tn i))))) by omega), (show i ≤ (tE tq tn (tE tq tn (tE tq tn (tE tq tn (tE tq tn i))))) by omega), (show (tE tq tn (tE tq tn (tE tq tn (tE tq tn (tE tq tn i))))) ≤ tn by omega)⟩) dX5_personItem_128
                · have cp6 := cpx
                  refine z_ai h (run_V (rest := []) X h (c_X5_number_n (i := (tE tq tn (tE tq tn (tE tq tn (tE tq tn i))))) (mx := 9) hT (by omega) (by omega) cv3 (by omega) (by omega) cp6) mi_X5_number ml_X5_193 ⟨Nat.le_of_ble_eq_true rfl, Nat.le_of_ble_eq_true rfl⟩ ⟨rfl, rfl⟩ (Seg.rfl' _) 4 0 rfl rfl rfl rfl hl.1 rfl (Nat.le_of_ble_eq_true rfl) ⟨Nat.zero_le _, Nat.zero_le _⟩ dX5_personItem_108) (fun _ => wM_map _ _ _ _) (fun r u_ H locs hp h => ?_)
                  subst hp
                  have h : St E _ s H locs (wM E a (mm, kp, wa, (iv (ik)), fd, gf, tp, (iv (tn)), (iv (tK tq tn (tE tq tn (tE tq tn (tE tq tn (tE tq tn i)))))), (iv (tS tq tn (tE tq tn (tE tq tn (tE tq tn (tE tq tn i)))))), (iv (tE tq tn (tE tq tn (tE tq tn (tE tq tn (tE tq tn i)))))), (iv (v3)), (iv (1)), bt, sz, cl)) := h
                  refine lv_istore_n (lv' := [(3, .int (iv (v3))), (2, .int (iv (tV tq tn (tE tq tn (tE tq tn i))))), (1, .int (iv (tK tq tn i))), (0, .ref (a 0))]) X.1 X.2.1 dX5_personItem_111 rfl hl (by decide) rfl (fun ls hl => ?_)
                  refine lv_aload_n X.1 X.2.1 dX5_personItem_112 rfl (lv_at hl 3 rfl) ?_
                  refine z_get X h 4 0 12 rfl inX5 rfl (by decide) fl_X5_183 rfl dX5_personItem_113 ?_
                  refine z_if_ne (tgt := 128) X ⟨by decide, by decide⟩ dX5_personItem_116 (by decide) (fun c_116 => ?_) (fun c_116 => ?_)
                  · have e9 : p_item tq tn A i = (false, A, (tE tq tn (tE tq tn (tE tq tn (tE tq tn i))))) := by unfold p_item on_item; first | ((repeat (first | rw [if_pos (by omega)] | rw [if_neg (by omega)])); done) | ((repeat (first | rw [if_pos (by omega)] | rw [if_neg (by omega)])); rfl) | (exfalso; omega)
                    have h : St E _ s H locs (wM E a (mm, kp, wa, (iv (ik)), fd, gf, tp, (iv (tn)), (iv (tK tq tn (tE tq tn (tE tq tn (tE tq tn (tE tq tn i)))))), (iv (tS tq tn (tE tq tn (tE tq tn (tE tq tn (tE tq tn i)))))), (iv (tE tq tn (tE tq tn (tE tq tn (tE tq tn (tE tq tn i)))))), (iv (v3)), (iv (1)), bt, sz, cl)) := h
                    exact ret _ _ _ _ (mm, v3) (by rw [e9]; exact h) (by rw [e9]; exact ⟨hR, hI, rfl, cv3, fun q => absurd q (show ¬ false = true by decide), (show i ≤ (tE tq tn (tE tq tn (tE tq tn (tE tq tn i)))) by omega), (show (tE tq tn (tE tq tn (tE tq tn (tE tq tn i)))) ≤ tn by omega)⟩) dX5_personItem_128
                  · exact absurd c_116 (by decide)
              · refine lv_aload_n X.1 X.2.1 dX5_personItem_71 rfl (lv_at hl 3 rfl) ?_
                refine z_get X h 4 0 11 rfl inX5 rfl (by decide) fl_X5_174 rfl dX5_personItem_72 ?_
                refine lv_i2l (v := (iv (v3)).toInt64) X.1 X.2.1 dX5_personItem_75 rfl ?_
                refine z_iconst X dX5_personItem_76 ?_
                refine z_bipush X (by decide) dX5_personItem_77 ?_
                refine z_pi (run_S (rest := [.ref (a 0)]) X h (c_inI ⟨by omega, by omega⟩ ⟨by decide, by decide⟩ ⟨by decide, by decide⟩) mi_X5_in ml_X5_44 ⟨Nat.le_of_ble_eq_true rfl, Nat.le_of_ble_eq_true rfl⟩ ⟨rfl, rfl⟩ (Seg.nil _) rfl hl.1 rfl (Nat.le_of_ble_eq_true rfl) ⟨Nat.zero_le _, Nat.zero_le _⟩ dX5_personItem_79) ?_
                refine z_ifb_eq (tgt := 100) X dX5_personItem_82 (by decide) (fun c_82 => ?_) (fun c_82 => ?_)
                · refine z_iconst X dX5_personItem_100 ?_
                  refine z_put X h 4 0 12 rfl inX5 tyX5 tyX5_ok nmX5 rfl (by decide) fl_X5_183 rfl (by decide) (by decide) (Nat.le_of_ble_eq_true rfl) dX5_personItem_101 (fun H locs h => ?_)
                  have h : St E _ s H locs (wM E a (mm, kp, wa, (iv (ik)), fd, gf, tp, (iv (tn)), (iv (tK tq tn (tE tq tn (tE tq tn (tE tq tn (tE tq tn i)))))), (iv (tS tq tn (tE tq tn (tE tq tn (tE tq tn (tE tq tn i)))))), (iv (tE tq tn (tE tq tn (tE tq tn (tE tq tn (tE tq tn i)))))), (iv (v3)), (iv (0)), bt, sz, cl)) := h
                  have vm := CV_le cv3 (m := 9) (by omega)
                  refine lv_aload_n X.1 X.2.1 dX5_personItem_104 rfl (lv_at hl 3 rfl) ?_
                  refine z_iconst X dX5_personItem_105 ?_
                  refine z_bipush X (by decide) dX5_personItem_106 ?_
                  by_cases cpx : tK tq tn (tE tq tn (tE tq tn (tE tq tn (tE tq tn i)))) = 20 ∧ tV tq tn (tE tq tn (tE tq tn (tE tq tn (tE tq tn i)))) ≤ 9
                  · have cp7 := cpx
                    have cm7 := CV_nn cv3
                    refine z_ai h (run_V (rest := []) X h (c_X5_number_y (i := (tE tq tn (tE tq tn (tE tq tn (tE tq tn i))))) (mx := 9) hT (by omega) (by omega) cv3 (by omega) (by omega) cp7.1 cp7.2) mi_X5_number ml_X5_193 ⟨Nat.le_of_ble_eq_true rfl, Nat.le_of_ble_eq_true rfl⟩ ⟨rfl, rfl⟩ (Seg.rfl' _) 4 0 rfl rfl rfl rfl hl.1 rfl (Nat.le_of_ble_eq_true rfl) ⟨Nat.zero_le _, Nat.zero_le _⟩ dX5_personItem_108) (fun _ => wM_map _ _ _ _) (fun r v7 H locs hp h => ?_)
                    obtain ⟨rfl, cv7⟩ := hp
                    have h : St E _ s H locs (wM E a (mm, kp, wa, (iv (ik)), fd, gf, tp, (iv (tn)), (iv (tK tq tn (tE tq tn (tE tq tn (tE tq tn (tE tq tn (tE tq tn i))))))), (iv (tS tq tn (tE tq tn (tE tq tn (tE tq tn (tE tq tn (tE tq tn i))))))), (iv (tE tq tn (tE tq tn (tE tq tn (tE tq tn (tE tq tn (tE tq tn i))))))), (iv (v7)), (iv (0)), bt, sz, cl)) := h
                    have tr7 := tok_rng tq (tn := tn) (i := (tE tq tn (tE tq tn (tE tq tn (tE tq tn (tE tq tn i)))))) (by omega) (by omega)
                    have cr7 := cv7.1
                    have cq7 := cv7.2.1
                    have cn7 := CV_nn cv7
                    refine lv_istore_n (lv' := [(3, .int (iv (tV tq tn (tE tq tn (tE tq tn (tE tq tn (tE tq tn i))))))), (2, .int (iv (tV tq tn (tE tq tn (tE tq tn i))))), (1, .int (iv (tK tq tn i))), (0, .ref (a 0))]) X.1 X.2.1 dX5_personItem_111 rfl hl (by decide) rfl (fun ls hl => ?_)
                    refine lv_aload_n X.1 X.2.1 dX5_personItem_112 rfl (lv_at hl 3 rfl) ?_
                    refine z_get X h 4 0 12 rfl inX5 rfl (by decide) fl_X5_183 rfl dX5_personItem_113 ?_
                    refine z_if_ne (tgt := 128) X ⟨by decide, by decide⟩ dX5_personItem_116 (by decide) (fun c_116 => ?_) (fun c_116 => ?_)
                    · exact absurd c_116 (by decide)
                    · refine lv_aload_n X.1 X.2.1 dX5_personItem_119 rfl (lv_at hl 3 rfl) ?_
                      refine lv_iload_n X.1 X.2.1 dX5_personItem_120 rfl (lv_at hl 2 rfl) ?_
                      refine lv_iload_n X.1 X.2.1 dX5_personItem_121 rfl (lv_at hl 1 rfl) ?_
                      refine lv_iload_n X.1 X.2.1 dX5_personItem_122 rfl (lv_at hl 0 rfl) ?_
                      refine z_ai h (run_V (rest := []) X h (c_X5_comesAs (k := (tK tq tn i)) (b := (tV tq tn (tE tq tn (tE tq tn i)))) (ch := (tV tq tn (tE tq tn (tE tq tn (tE tq tn (tE tq tn i)))))) hR hI.n0 (by omega)) mi_X5_comesAs ml_X5_96 ⟨Nat.le_of_ble_eq_true rfl, Nat.le_of_ble_eq_true rfl⟩ ⟨rfl, rfl⟩ (Seg.rfl' _) 4 0 rfl rfl rfl rfl hl.1 rfl (Nat.le_of_ble_eq_true rfl) ⟨Nat.zero_le _, Nat.zero_le _⟩ dX5_personItem_123) (fun _ => wM_map _ _ _ _) (fun r mc8 H locs hp h => ?_)
                      have h : St E _ s H locs (wM E a (mc8, kp, wa, (iv (ik)), fd, gf, tp, (iv (tn)), (iv (tK tq tn (tE tq tn (tE tq tn (tE tq tn (tE tq tn (tE tq tn i))))))), (iv (tS tq tn (tE tq tn (tE tq tn (tE tq tn (tE tq tn (tE tq tn i))))))), (iv (tE tq tn (tE tq tn (tE tq tn (tE tq tn (tE tq tn (tE tq tn i))))))), (iv (v7)), (iv (0)), bt, sz, cl)) := h
                      obtain ⟨rfl, hR8⟩ := hp
                      have hIn : IA (nwc A (tK tq tn i) (tV tq tn (tE tq tn (tE tq tn i))) (tV tq tn (tE tq tn (tE tq tn (tE tq tn (tE tq tn i)))))) := IA_nwc hI (by omega) (by omega) (by omega) (by omega) (by omega) (by omega) (by omega) (by omega)
                      refine lv_istore (lv' := [(4, .int (iv (pe A))), (3, .int (iv (tV tq tn (tE tq tn (tE tq tn (tE tq tn (tE tq tn i))))))), (2, .int (iv (tV tq tn (tE tq tn (tE tq tn i))))), (1, .int (iv (tK tq tn i))), (0, .ref (a 0))]) X.1 X.2.1 dX5_personItem_126 hl (by decide) rfl (fun ls hl => ?_)
                      have e9 : p_item tq tn A i = (true, (nwc A (tK tq tn i) (tV tq tn (tE tq tn (tE tq tn i))) (tV tq tn (tE tq tn (tE tq tn (tE tq tn (tE tq tn i)))))), (tE tq tn (tE tq tn (tE tq tn (tE tq tn (tE tq tn i)))))) := by unfold p_item on_item; first | ((repeat (first | rw [if_pos (by omega)] | rw [if_neg (by omega)])); done) | ((repeat (first | rw [if_pos (by omega)] | rw [if_neg (by omega)])); rfl) | (exfalso; omega)
                      have h : St E _ s H locs (wM E a (mc8, kp, wa, (iv (ik)), fd, gf, tp, (iv (tn)), (iv (tK tq tn (tE tq tn (tE tq tn (tE tq tn (tE tq tn (tE tq tn i))))))), (iv (tS tq tn (tE tq tn (tE tq tn (tE tq tn (tE tq tn (tE tq tn i))))))), (iv (tE tq tn (tE tq tn (tE tq tn (tE tq tn (tE tq tn (tE tq tn i))))))), (iv (v7)), (iv (0)), bt, sz, cl)) := h
                      exact ret _ _ _ _ (mc8, v7) (by rw [e9]; exact h) (by rw [e9]; exact ⟨hR8, hIn, rfl, cv7, fun _ => (show i < (tE tq tn (tE tq tn (tE tq tn (tE tq tn (tE tq tn i))))) by omega), (show i ≤ (tE tq tn (tE tq tn (tE tq tn (tE tq tn (tE tq tn i))))) by omega), (show (tE tq tn (tE tq tn (tE tq tn (tE tq tn (tE tq tn i))))) ≤ tn by omega)⟩) dX5_personItem_128
                  · have cp9 := cpx
                    refine z_ai h (run_V (rest := []) X h (c_X5_number_n (i := (tE tq tn (tE tq tn (tE tq tn (tE tq tn i))))) (mx := 9) hT (by omega) (by omega) cv3 (by omega) (by omega) cp9) mi_X5_number ml_X5_193 ⟨Nat.le_of_ble_eq_true rfl, Nat.le_of_ble_eq_true rfl⟩ ⟨rfl, rfl⟩ (Seg.rfl' _) 4 0 rfl rfl rfl rfl hl.1 rfl (Nat.le_of_ble_eq_true rfl) ⟨Nat.zero_le _, Nat.zero_le _⟩ dX5_personItem_108) (fun _ => wM_map _ _ _ _) (fun r u_ H locs hp h => ?_)
                    subst hp
                    have h : St E _ s H locs (wM E a (mm, kp, wa, (iv (ik)), fd, gf, tp, (iv (tn)), (iv (tK tq tn (tE tq tn (tE tq tn (tE tq tn (tE tq tn i)))))), (iv (tS tq tn (tE tq tn (tE tq tn (tE tq tn (tE tq tn i)))))), (iv (tE tq tn (tE tq tn (tE tq tn (tE tq tn (tE tq tn i)))))), (iv (v3)), (iv (1)), bt, sz, cl)) := h
                    refine lv_istore_n (lv' := [(3, .int (iv (v3))), (2, .int (iv (tV tq tn (tE tq tn (tE tq tn i))))), (1, .int (iv (tK tq tn i))), (0, .ref (a 0))]) X.1 X.2.1 dX5_personItem_111 rfl hl (by decide) rfl (fun ls hl => ?_)
                    refine lv_aload_n X.1 X.2.1 dX5_personItem_112 rfl (lv_at hl 3 rfl) ?_
                    refine z_get X h 4 0 12 rfl inX5 rfl (by decide) fl_X5_183 rfl dX5_personItem_113 ?_
                    refine z_if_ne (tgt := 128) X ⟨by decide, by decide⟩ dX5_personItem_116 (by decide) (fun c_116 => ?_) (fun c_116 => ?_)
                    · have e9 : p_item tq tn A i = (false, A, (tE tq tn (tE tq tn (tE tq tn (tE tq tn i))))) := by unfold p_item on_item; first | ((repeat (first | rw [if_pos (by omega)] | rw [if_neg (by omega)])); done) | ((repeat (first | rw [if_pos (by omega)] | rw [if_neg (by omega)])); rfl) | (exfalso; omega)
                      have h : St E _ s H locs (wM E a (mm, kp, wa, (iv (ik)), fd, gf, tp, (iv (tn)), (iv (tK tq tn (tE tq tn (tE tq tn (tE tq tn (tE tq tn i)))))), (iv (tS tq tn (tE tq tn (tE tq tn (tE tq tn (tE tq tn i)))))), (iv (tE tq tn (tE tq tn (tE tq tn (tE tq tn (tE tq tn i)))))), (iv (v3)), (iv (1)), bt, sz, cl)) := h
                      exact ret _ _ _ _ (mm, v3) (by rw [e9]; exact h) (by rw [e9]; exact ⟨hR, hI, rfl, cv3, fun q => absurd q (show ¬ false = true by decide), (show i ≤ (tE tq tn (tE tq tn (tE tq tn (tE tq tn i)))) by omega), (show (tE tq tn (tE tq tn (tE tq tn (tE tq tn i)))) ≤ tn by omega)⟩) dX5_personItem_128
                    · exact absurd c_116 (by decide)
                · refine lv_aload_n X.1 X.2.1 dX5_personItem_85 rfl (lv_at hl 3 rfl) ?_
                  have ev := CV_eq cv3 (m := 9) (by omega) (by omega)
                  have eo : onC A (tV tq tn (tE tq tn (tE tq tn (tE tq tn (tE tq tn i))))) = onC A v3 := by rw [ev]
                  have oc := onC_rng hI v3
                  refine lv_aload_n X.1 X.2.1 dX5_personItem_86 rfl (lv_at hl 3 rfl) ?_
                  refine z_get X h 4 0 11 rfl inX5 rfl (by decide) fl_X5_174 rfl dX5_personItem_87 ?_
                  refine z_pi (run_V (rest := [.ref (a 0)]) X h (c_X5_onChair (ch := v3) hR hI ⟨by omega, by omega⟩) mi_X5_onChair ml_X5_59 ⟨Nat.le_of_ble_eq_true rfl, Nat.le_of_ble_eq_true rfl⟩ ⟨rfl, rfl⟩ (Seg.rfl' _) 4 0 rfl rfl rfl rfl hl.1 rfl (Nat.le_of_ble_eq_true rfl) ⟨Nat.zero_le _, Nat.zero_le _⟩ dX5_personItem_90) ?_
                  refine z_if_lt (tgt := 100) X ⟨by omega, by omega⟩ dX5_personItem_93 (by decide) (fun c_93 => ?_) (fun c_93 => ?_)
                  · refine z_iconst X dX5_personItem_100 ?_
                    refine z_put X h 4 0 12 rfl inX5 tyX5 tyX5_ok nmX5 rfl (by decide) fl_X5_183 rfl (by decide) (by decide) (Nat.le_of_ble_eq_true rfl) dX5_personItem_101 (fun H locs h => ?_)
                    have h : St E _ s H locs (wM E a (mm, kp, wa, (iv (ik)), fd, gf, tp, (iv (tn)), (iv (tK tq tn (tE tq tn (tE tq tn (tE tq tn (tE tq tn i)))))), (iv (tS tq tn (tE tq tn (tE tq tn (tE tq tn (tE tq tn i)))))), (iv (tE tq tn (tE tq tn (tE tq tn (tE tq tn (tE tq tn i)))))), (iv (v3)), (iv (0)), bt, sz, cl)) := h
                    have vm := CV_le cv3 (m := 9) (by omega)
                    refine lv_aload_n X.1 X.2.1 dX5_personItem_104 rfl (lv_at hl 3 rfl) ?_
                    refine z_iconst X dX5_personItem_105 ?_
                    refine z_bipush X (by decide) dX5_personItem_106 ?_
                    by_cases cpx : tK tq tn (tE tq tn (tE tq tn (tE tq tn (tE tq tn i)))) = 20 ∧ tV tq tn (tE tq tn (tE tq tn (tE tq tn (tE tq tn i)))) ≤ 9
                    · have cp10 := cpx
                      have cm10 := CV_nn cv3
                      refine z_ai h (run_V (rest := []) X h (c_X5_number_y (i := (tE tq tn (tE tq tn (tE tq tn (tE tq tn i))))) (mx := 9) hT (by omega) (by omega) cv3 (by omega) (by omega) cp10.1 cp10.2) mi_X5_number ml_X5_193 ⟨Nat.le_of_ble_eq_true rfl, Nat.le_of_ble_eq_true rfl⟩ ⟨rfl, rfl⟩ (Seg.rfl' _) 4 0 rfl rfl rfl rfl hl.1 rfl (Nat.le_of_ble_eq_true rfl) ⟨Nat.zero_le _, Nat.zero_le _⟩ dX5_personItem_108) (fun _ => wM_map _ _ _ _) (fun r v10 H locs hp h => ?_)
                      obtain ⟨rfl, cv10⟩ := hp
                      have h : St E _ s H locs (wM E a (mm, kp, wa, (iv (ik)), fd, gf, tp, (iv (tn)), (iv (tK tq tn (tE tq tn (tE tq tn (tE tq tn (tE tq tn (tE tq tn i))))))), (iv (tS tq tn (tE tq tn (tE tq tn (tE tq tn (tE tq tn (tE tq tn i))))))), (iv (tE tq tn (tE tq tn (tE tq tn (tE tq tn (tE tq tn (tE tq tn i))))))), (iv (v10)), (iv (0)), bt, sz, cl)) := h
                      have tr10 := tok_rng tq (tn := tn) (i := (tE tq tn (tE tq tn (tE tq tn (tE tq tn (tE tq tn i)))))) (by omega) (by omega)
                      have cr10 := cv10.1
                      have cq10 := cv10.2.1
                      have cn10 := CV_nn cv10
                      refine lv_istore_n (lv' := [(3, .int (iv (tV tq tn (tE tq tn (tE tq tn (tE tq tn (tE tq tn i))))))), (2, .int (iv (tV tq tn (tE tq tn (tE tq tn i))))), (1, .int (iv (tK tq tn i))), (0, .ref (a 0))]) X.1 X.2.1 dX5_personItem_111 rfl hl (by decide) rfl (fun ls hl => ?_)
                      refine lv_aload_n X.1 X.2.1 dX5_personItem_112 rfl (lv_at hl 3 rfl) ?_
                      refine z_get X h 4 0 12 rfl inX5 rfl (by decide) fl_X5_183 rfl dX5_personItem_113 ?_
                      refine z_if_ne (tgt := 128) X ⟨by decide, by decide⟩ dX5_personItem_116 (by decide) (fun c_116 => ?_) (fun c_116 => ?_)
                      · exact absurd c_116 (by decide)
                      · refine lv_aload_n X.1 X.2.1 dX5_personItem_119 rfl (lv_at hl 3 rfl) ?_
                        refine lv_iload_n X.1 X.2.1 dX5_personItem_120 rfl (lv_at hl 2 rfl) ?_
                        refine lv_iload_n X.1 X.2.1 dX5_personItem_121 rfl (lv_at hl 1 rfl) ?_
                        refine lv_iload_n X.1 X.2.1 dX5_personItem_122 rfl (lv_at hl 0 rfl) ?_
                        refine z_ai h (run_V (rest := []) X h (c_X5_comesAs (k := (tK tq tn i)) (b := (tV tq tn (tE tq tn (tE tq tn i)))) (ch := (tV tq tn (tE tq tn (tE tq tn (tE tq tn (tE tq tn i)))))) hR hI.n0 (by omega)) mi_X5_comesAs ml_X5_96 ⟨Nat.le_of_ble_eq_true rfl, Nat.le_of_ble_eq_true rfl⟩ ⟨rfl, rfl⟩ (Seg.rfl' _) 4 0 rfl rfl rfl rfl hl.1 rfl (Nat.le_of_ble_eq_true rfl) ⟨Nat.zero_le _, Nat.zero_le _⟩ dX5_personItem_123) (fun _ => wM_map _ _ _ _) (fun r mc11 H locs hp h => ?_)
                        have h : St E _ s H locs (wM E a (mc11, kp, wa, (iv (ik)), fd, gf, tp, (iv (tn)), (iv (tK tq tn (tE tq tn (tE tq tn (tE tq tn (tE tq tn (tE tq tn i))))))), (iv (tS tq tn (tE tq tn (tE tq tn (tE tq tn (tE tq tn (tE tq tn i))))))), (iv (tE tq tn (tE tq tn (tE tq tn (tE tq tn (tE tq tn (tE tq tn i))))))), (iv (v10)), (iv (0)), bt, sz, cl)) := h
                        obtain ⟨rfl, hR11⟩ := hp
                        have hIn : IA (nwc A (tK tq tn i) (tV tq tn (tE tq tn (tE tq tn i))) (tV tq tn (tE tq tn (tE tq tn (tE tq tn (tE tq tn i)))))) := IA_nwc hI (by omega) (by omega) (by omega) (by omega) (by omega) (by omega) (by omega) (by omega)
                        refine lv_istore (lv' := [(4, .int (iv (pe A))), (3, .int (iv (tV tq tn (tE tq tn (tE tq tn (tE tq tn (tE tq tn i))))))), (2, .int (iv (tV tq tn (tE tq tn (tE tq tn i))))), (1, .int (iv (tK tq tn i))), (0, .ref (a 0))]) X.1 X.2.1 dX5_personItem_126 hl (by decide) rfl (fun ls hl => ?_)
                        have e9 : p_item tq tn A i = (true, (nwc A (tK tq tn i) (tV tq tn (tE tq tn (tE tq tn i))) (tV tq tn (tE tq tn (tE tq tn (tE tq tn (tE tq tn i)))))), (tE tq tn (tE tq tn (tE tq tn (tE tq tn (tE tq tn i)))))) := by unfold p_item on_item; first | ((repeat (first | rw [if_pos (by omega)] | rw [if_neg (by omega)])); done) | ((repeat (first | rw [if_pos (by omega)] | rw [if_neg (by omega)])); rfl) | (exfalso; omega)
                        have h : St E _ s H locs (wM E a (mc11, kp, wa, (iv (ik)), fd, gf, tp, (iv (tn)), (iv (tK tq tn (tE tq tn (tE tq tn (tE tq tn (tE tq tn (tE tq tn i))))))), (iv (tS tq tn (tE tq tn (tE tq tn (tE tq tn (tE tq tn (tE tq tn i))))))), (iv (tE tq tn (tE tq tn (tE tq tn (tE tq tn (tE tq tn (tE tq tn i))))))), (iv (v10)), (iv (0)), bt, sz, cl)) := h
                        exact ret _ _ _ _ (mc11, v10) (by rw [e9]; exact h) (by rw [e9]; exact ⟨hR11, hIn, rfl, cv10, fun _ => (show i < (tE tq tn (tE tq tn (tE tq tn (tE tq tn (tE tq tn i))))) by omega), (show i ≤ (tE tq tn (tE tq tn (tE tq tn (tE tq tn (tE tq tn i))))) by omega), (show (tE tq tn (tE tq tn (tE tq tn (tE tq tn (tE tq tn i))))) ≤ tn by omega)⟩) dX5_personItem_128
                    · have cp12 := cpx
                      refine z_ai h (run_V (rest := []) X h (c_X5_number_n (i := (tE tq tn (tE tq tn (tE tq tn (tE tq tn i))))) (mx := 9) hT (by omega) (by omega) cv3 (by omega) (by omega) cp12) mi_X5_number ml_X5_193 ⟨Nat.le_of_ble_eq_true rfl, Nat.le_of_ble_eq_true rfl⟩ ⟨rfl, rfl⟩ (Seg.rfl' _) 4 0 rfl rfl rfl rfl hl.1 rfl (Nat.le_of_ble_eq_true rfl) ⟨Nat.zero_le _, Nat.zero_le _⟩ dX5_personItem_108) (fun _ => wM_map _ _ _ _) (fun r u_ H locs hp h => ?_)
                      subst hp
                      have h : St E _ s H locs (wM E a (mm, kp, wa, (iv (ik)), fd, gf, tp, (iv (tn)), (iv (tK tq tn (tE tq tn (tE tq tn (tE tq tn (tE tq tn i)))))), (iv (tS tq tn (tE tq tn (tE tq tn (tE tq tn (tE tq tn i)))))), (iv (tE tq tn (tE tq tn (tE tq tn (tE tq tn (tE tq tn i)))))), (iv (v3)), (iv (1)), bt, sz, cl)) := h
                      refine lv_istore_n (lv' := [(3, .int (iv (v3))), (2, .int (iv (tV tq tn (tE tq tn (tE tq tn i))))), (1, .int (iv (tK tq tn i))), (0, .ref (a 0))]) X.1 X.2.1 dX5_personItem_111 rfl hl (by decide) rfl (fun ls hl => ?_)
                      refine lv_aload_n X.1 X.2.1 dX5_personItem_112 rfl (lv_at hl 3 rfl) ?_
                      refine z_get X h 4 0 12 rfl inX5 rfl (by decide) fl_X5_183 rfl dX5_personItem_113 ?_
                      refine z_if_ne (tgt := 128) X ⟨by decide, by decide⟩ dX5_personItem_116 (by decide) (fun c_116 => ?_) (fun c_116 => ?_)
                      · have e9 : p_item tq tn A i = (false, A, (tE tq tn (tE tq tn (tE tq tn (tE tq tn i))))) := by unfold p_item on_item; first | ((repeat (first | rw [if_pos (by omega)] | rw [if_neg (by omega)])); done) | ((repeat (first | rw [if_pos (by omega)] | rw [if_neg (by omega)])); rfl) | (exfalso; omega)
                        have h : St E _ s H locs (wM E a (mm, kp, wa, (iv (ik)), fd, gf, tp, (iv (tn)), (iv (tK tq tn (tE tq tn (tE tq tn (tE tq tn (tE tq tn i)))))), (iv (tS tq tn (tE tq tn (tE tq tn (tE tq tn (tE tq tn i)))))), (iv (tE tq tn (tE tq tn (tE tq tn (tE tq tn (tE tq tn i)))))), (iv (v3)), (iv (1)), bt, sz, cl)) := h
                        exact ret _ _ _ _ (mm, v3) (by rw [e9]; exact h) (by rw [e9]; exact ⟨hR, hI, rfl, cv3, fun q => absurd q (show ¬ false = true by decide), (show i ≤ (tE tq tn (tE tq tn (tE tq tn (tE tq tn i)))) by omega), (show (tE tq tn (tE tq tn (tE tq tn (tE tq tn i)))) ≤ tn by omega)⟩) dX5_personItem_128
                      · exact absurd c_116 (by decide)
                  · refine z_iconst X dX5_personItem_96 ?_
                    refine lv_goto (tgt := 101) X.1 X.2.1 dX5_personItem_97 (by decide) ?_
                    refine z_put X h 4 0 12 rfl inX5 tyX5 tyX5_ok nmX5 rfl (by decide) fl_X5_183 rfl (by decide) (by decide) (Nat.le_of_ble_eq_true rfl) dX5_personItem_101 (fun H locs h => ?_)
                    have h : St E _ s H locs (wM E a (mm, kp, wa, (iv (ik)), fd, gf, tp, (iv (tn)), (iv (tK tq tn (tE tq tn (tE tq tn (tE tq tn (tE tq tn i)))))), (iv (tS tq tn (tE tq tn (tE tq tn (tE tq tn (tE tq tn i)))))), (iv (tE tq tn (tE tq tn (tE tq tn (tE tq tn (tE tq tn i)))))), (iv (v3)), (iv (1)), bt, sz, cl)) := h
                    have vm := CV_le cv3 (m := 9) (by omega)
                    refine lv_aload_n X.1 X.2.1 dX5_personItem_104 rfl (lv_at hl 3 rfl) ?_
                    refine z_iconst X dX5_personItem_105 ?_
                    refine z_bipush X (by decide) dX5_personItem_106 ?_
                    refine z_ai h (run_V (rest := []) X h (c_X5_number_b (i := (tE tq tn (tE tq tn (tE tq tn (tE tq tn i))))) (mx := 9) hT (by omega) (by omega) cv3 (by omega) (by omega)) mi_X5_number ml_X5_193 ⟨Nat.le_of_ble_eq_true rfl, Nat.le_of_ble_eq_true rfl⟩ ⟨rfl, rfl⟩ (Seg.rfl' _) 4 0 rfl rfl rfl rfl hl.1 rfl (Nat.le_of_ble_eq_true rfl) ⟨Nat.zero_le _, Nat.zero_le _⟩ dX5_personItem_108) (fun _ => wM_map _ _ _ _) (fun r u_ H locs hp h => ?_)
                    subst hp
                    have h : St E _ s H locs (wM E a (mm, kp, wa, (iv (ik)), fd, gf, tp, (iv (tn)), (iv (tK tq tn (tE tq tn (tE tq tn (tE tq tn (tE tq tn i)))))), (iv (tS tq tn (tE tq tn (tE tq tn (tE tq tn (tE tq tn i)))))), (iv (tE tq tn (tE tq tn (tE tq tn (tE tq tn (tE tq tn i)))))), (iv (v3)), (iv (1)), bt, sz, cl)) := h
                    refine lv_istore_n (lv' := [(3, .int (iv (v3))), (2, .int (iv (tV tq tn (tE tq tn (tE tq tn i))))), (1, .int (iv (tK tq tn i))), (0, .ref (a 0))]) X.1 X.2.1 dX5_personItem_111 rfl hl (by decide) rfl (fun ls hl => ?_)
                    refine lv_aload_n X.1 X.2.1 dX5_personItem_112 rfl (lv_at hl 3 rfl) ?_
                    refine z_get X h 4 0 12 rfl inX5 rfl (by decide) fl_X5_183 rfl dX5_personItem_113 ?_
                    refine z_if_ne (tgt := 128) X ⟨by decide, by decide⟩ dX5_personItem_116 (by decide) (fun c_116 => ?_) (fun c_116 => ?_)
                    · have e9 : p_item tq tn A i = (false, A, (tE tq tn (tE tq tn (tE tq tn (tE tq tn i))))) := by unfold p_item on_item; first | ((repeat (first | rw [if_pos (by omega)] | rw [if_neg (by omega)])); done) | ((repeat (first | rw [if_pos (by omega)] | rw [if_neg (by omega)])); rfl) | (exfalso; omega)
                      have h : St E _ s H locs (wM E a (mm, kp, wa, (iv (ik)), fd, gf, tp, (iv (tn)), (iv (tK tq tn (tE tq tn (tE tq tn (tE tq tn (tE tq tn i)))))), (iv (tS tq tn (tE tq tn (tE tq tn (tE tq tn (tE tq tn i)))))), (iv (tE tq tn (tE tq tn (tE tq tn (tE tq tn (tE tq tn i)))))), (iv (v3)), (iv (1)), bt, sz, cl)) := h
                      exact ret _ _ _ _ (mm, v3) (by rw [e9]; exact h) (by rw [e9]; exact ⟨hR, hI, rfl, cv3, fun q => absurd q (show ¬ false = true by decide), (show i ≤ (tE tq tn (tE tq tn (tE tq tn (tE tq tn i)))) by omega), (show (tE tq tn (tE tq tn (tE tq tn (tE tq tn i)))) ≤ tn by omega)⟩) dX5_personItem_128
                    · exact absurd c_116 (by decide)
          · have cp13 := cpx
            refine z_pi (run_V (rest := []) X h (c_X5_passes_n (i := (tE tq tn (tE tq tn (tE tq tn i)))) (wd := 7) hT (by omega) (by omega) cv2 ⟨by decide, by decide⟩ cp13) mi_X5_passes ml_X5_190 ⟨Nat.le_of_ble_eq_true rfl, Nat.le_of_ble_eq_true rfl⟩ ⟨rfl, rfl⟩ (Seg.rfl' _) 4 0 rfl rfl rfl rfl hl.1 rfl (Nat.le_of_ble_eq_true rfl) ⟨Nat.zero_le _, Nat.zero_le _⟩ dX5_personItem_55) ?_
            refine z_ifb_eq (tgt := 112) X dX5_personItem_58 (by decide) (fun c_58 => ?_) (fun c_58 => ?_)
            · refine lv_aload_n X.1 X.2.1 dX5_personItem_112 rfl (lv_at hl 3 rfl) ?_
              refine z_get X h 4 0 12 rfl inX5 rfl (by decide) fl_X5_183 rfl dX5_personItem_113 ?_
              refine z_if_ne (tgt := 128) X ⟨by decide, by decide⟩ dX5_personItem_116 (by decide) (fun c_116 => ?_) (fun c_116 => ?_)
              · exact absurd c_116 (by decide)
              · refine lv_aload_n X.1 X.2.1 dX5_personItem_119 rfl (lv_at hl 3 rfl) ?_
                refine lv_iload_n X.1 X.2.1 dX5_personItem_120 rfl (lv_at hl 2 rfl) ?_
                refine lv_iload_n X.1 X.2.1 dX5_personItem_121 rfl (lv_at hl 1 rfl) ?_
                refine lv_iload_n X.1 X.2.1 dX5_personItem_122 rfl (lv_at hl 0 rfl) ?_
                refine z_ai h (run_V (rest := []) X h (c_X5_comesAs (k := (tK tq tn i)) (b := (tV tq tn (tE tq tn (tE tq tn i)))) (ch := ((-1))) hR hI.n0 (by omega)) mi_X5_comesAs ml_X5_96 ⟨Nat.le_of_ble_eq_true rfl, Nat.le_of_ble_eq_true rfl⟩ ⟨rfl, rfl⟩ (Seg.rfl' _) 4 0 rfl rfl rfl rfl hl.1 rfl (Nat.le_of_ble_eq_true rfl) ⟨Nat.zero_le _, Nat.zero_le _⟩ dX5_personItem_123) (fun _ => wM_map _ _ _ _) (fun r mc14 H locs hp h => ?_)
                have h : St E _ s H locs (wM E a (mc14, kp, wa, (iv (ik)), fd, gf, tp, (iv (tn)), (iv (tK tq tn (tE tq tn (tE tq tn (tE tq tn i))))), (iv (tS tq tn (tE tq tn (tE tq tn (tE tq tn i))))), (iv (tE tq tn (tE tq tn (tE tq tn (tE tq tn i))))), (iv (v2)), (iv (0)), bt, sz, cl)) := h
                obtain ⟨rfl, hR14⟩ := hp
                have hIn : IA (nwc A (tK tq tn i) (tV tq tn (tE tq tn (tE tq tn i))) ((-1))) := IA_nwc hI (by omega) (by omega) (by omega) (by omega) (by omega) (by omega) (by omega) (by omega)
                refine lv_istore (lv' := [(4, .int (iv (pe A))), (3, .int (iv ((-1)))), (2, .int (iv (tV tq tn (tE tq tn (tE tq tn i))))), (1, .int (iv (tK tq tn i))), (0, .ref (a 0))]) X.1 X.2.1 dX5_personItem_126 hl (by decide) rfl (fun ls hl => ?_)
                have e9 : p_item tq tn A i = (true, (nwc A (tK tq tn i) (tV tq tn (tE tq tn (tE tq tn i))) ((-1))), (tE tq tn (tE tq tn (tE tq tn i)))) := by unfold p_item on_item; first | ((repeat (first | rw [if_pos (by omega)] | rw [if_neg (by omega)])); done) | ((repeat (first | rw [if_pos (by omega)] | rw [if_neg (by omega)])); rfl) | (exfalso; omega)
                have h : St E _ s H locs (wM E a (mc14, kp, wa, (iv (ik)), fd, gf, tp, (iv (tn)), (iv (tK tq tn (tE tq tn (tE tq tn (tE tq tn i))))), (iv (tS tq tn (tE tq tn (tE tq tn (tE tq tn i))))), (iv (tE tq tn (tE tq tn (tE tq tn (tE tq tn i))))), (iv (v2)), (iv (0)), bt, sz, cl)) := h
                exact ret _ _ _ _ (mc14, v2) (by rw [e9]; exact h) (by rw [e9]; exact ⟨hR14, hIn, rfl, cv2, fun _ => (show i < (tE tq tn (tE tq tn (tE tq tn i))) by omega), (show i ≤ (tE tq tn (tE tq tn (tE tq tn i))) by omega), (show (tE tq tn (tE tq tn (tE tq tn i))) ≤ tn by omega)⟩) dX5_personItem_128
            · refine lv_aload_n X.1 X.2.1 dX5_personItem_61 rfl (lv_at hl 3 rfl) ?_
              refine lv_aload_n X.1 X.2.1 dX5_personItem_62 rfl (lv_at hl 3 rfl) ?_
              refine z_get X h 4 0 8 rfl inX5 rfl (by decide) fl_X5_177 rfl dX5_personItem_63 ?_
              refine z_bipush X (by decide) dX5_personItem_66 ?_
              refine z_ic_ne (tgt := 100) X ⟨by omega, by omega⟩ ⟨by decide, by decide⟩ dX5_personItem_68 (by decide) (fun c_68 => ?_) (fun c_68 => ?_)
              · refine z_iconst X dX5_personItem_100 ?_
                refine z_put X h 4 0 12 rfl inX5 tyX5 tyX5_ok nmX5 rfl (by decide) fl_X5_183 rfl (by decide) (by decide) (Nat.le_of_ble_eq_true rfl) dX5_personItem_101 (fun H locs h => ?_)
                have h : St E _ s H locs (wM E a (mm, kp, wa, (iv (ik)), fd, gf, tp, (iv (tn)), (iv (tK tq tn (tE tq tn (tE tq tn (tE tq tn i))))), (iv (tS tq tn (tE tq tn (tE tq tn (tE tq tn i))))), (iv (tE tq tn (tE tq tn (tE tq tn (tE tq tn i))))), (iv (v2)), (iv (0)), bt, sz, cl)) := h
                have vm := CV_le cv2 (m := 9) (by omega)
                refine lv_aload_n X.1 X.2.1 dX5_personItem_104 rfl (lv_at hl 3 rfl) ?_
                refine z_iconst X dX5_personItem_105 ?_
                refine z_bipush X (by decide) dX5_personItem_106 ?_
                by_cases cpx : tK tq tn (tE tq tn (tE tq tn (tE tq tn i))) = 20 ∧ tV tq tn (tE tq tn (tE tq tn (tE tq tn i))) ≤ 9
                · have cp15 := cpx
                  have cm15 := CV_nn cv2
                  refine z_ai h (run_V (rest := []) X h (c_X5_number_y (i := (tE tq tn (tE tq tn (tE tq tn i)))) (mx := 9) hT (by omega) (by omega) cv2 (by omega) (by omega) cp15.1 cp15.2) mi_X5_number ml_X5_193 ⟨Nat.le_of_ble_eq_true rfl, Nat.le_of_ble_eq_true rfl⟩ ⟨rfl, rfl⟩ (Seg.rfl' _) 4 0 rfl rfl rfl rfl hl.1 rfl (Nat.le_of_ble_eq_true rfl) ⟨Nat.zero_le _, Nat.zero_le _⟩ dX5_personItem_108) (fun _ => wM_map _ _ _ _) (fun r v15 H locs hp h => ?_)
                  obtain ⟨rfl, cv15⟩ := hp
                  have h : St E _ s H locs (wM E a (mm, kp, wa, (iv (ik)), fd, gf, tp, (iv (tn)), (iv (tK tq tn (tE tq tn (tE tq tn (tE tq tn (tE tq tn i)))))), (iv (tS tq tn (tE tq tn (tE tq tn (tE tq tn (tE tq tn i)))))), (iv (tE tq tn (tE tq tn (tE tq tn (tE tq tn (tE tq tn i)))))), (iv (v15)), (iv (0)), bt, sz, cl)) := h
                  have tr15 := tok_rng tq (tn := tn) (i := (tE tq tn (tE tq tn (tE tq tn (tE tq tn i))))) (by omega) (by omega)
                  have cr15 := cv15.1
                  have cq15 := cv15.2.1
                  have cn15 := CV_nn cv15
                  refine lv_istore_n (lv' := [(3, .int (iv (tV tq tn (tE tq tn (tE tq tn (tE tq tn i)))))), (2, .int (iv (tV tq tn (tE tq tn (tE tq tn i))))), (1, .int (iv (tK tq tn i))), (0, .ref (a 0))]) X.1 X.2.1 dX5_personItem_111 rfl hl (by decide) rfl (fun ls hl => ?_)
                  refine lv_aload_n X.1 X.2.1 dX5_personItem_112 rfl (lv_at hl 3 rfl) ?_
                  refine z_get X h 4 0 12 rfl inX5 rfl (by decide) fl_X5_183 rfl dX5_personItem_113 ?_
                  refine z_if_ne (tgt := 128) X ⟨by decide, by decide⟩ dX5_personItem_116 (by decide) (fun c_116 => ?_) (fun c_116 => ?_)
                  · exact absurd c_116 (by decide)
                  · refine lv_aload_n X.1 X.2.1 dX5_personItem_119 rfl (lv_at hl 3 rfl) ?_
                    refine lv_iload_n X.1 X.2.1 dX5_personItem_120 rfl (lv_at hl 2 rfl) ?_
                    refine lv_iload_n X.1 X.2.1 dX5_personItem_121 rfl (lv_at hl 1 rfl) ?_
                    refine lv_iload_n X.1 X.2.1 dX5_personItem_122 rfl (lv_at hl 0 rfl) ?_
                    refine z_ai h (run_V (rest := []) X h (c_X5_comesAs (k := (tK tq tn i)) (b := (tV tq tn (tE tq tn (tE tq tn i)))) (ch := (tV tq tn (tE tq tn (tE tq tn (tE tq tn i))))) hR hI.n0 (by omega)) mi_X5_comesAs ml_X5_96 ⟨Nat.le_of_ble_eq_true rfl, Nat.le_of_ble_eq_true rfl⟩ ⟨rfl, rfl⟩ (Seg.rfl' _) 4 0 rfl rfl rfl rfl hl.1 rfl (Nat.le_of_ble_eq_true rfl) ⟨Nat.zero_le _, Nat.zero_le _⟩ dX5_personItem_123) (fun _ => wM_map _ _ _ _) (fun r mc16 H locs hp h => ?_)
                    have h : St E _ s H locs (wM E a (mc16, kp, wa, (iv (ik)), fd, gf, tp, (iv (tn)), (iv (tK tq tn (tE tq tn (tE tq tn (tE tq tn (tE tq tn i)))))), (iv (tS tq tn (tE tq tn (tE tq tn (tE tq tn (tE tq tn i)))))), (iv (tE tq tn (tE tq tn (tE tq tn (tE tq tn (tE tq tn i)))))), (iv (v15)), (iv (0)), bt, sz, cl)) := h
                    obtain ⟨rfl, hR16⟩ := hp
                    have hIn : IA (nwc A (tK tq tn i) (tV tq tn (tE tq tn (tE tq tn i))) (tV tq tn (tE tq tn (tE tq tn (tE tq tn i))))) := IA_nwc hI (by omega) (by omega) (by omega) (by omega) (by omega) (by omega) (by omega) (by omega)
                    refine lv_istore (lv' := [(4, .int (iv (pe A))), (3, .int (iv (tV tq tn (tE tq tn (tE tq tn (tE tq tn i)))))), (2, .int (iv (tV tq tn (tE tq tn (tE tq tn i))))), (1, .int (iv (tK tq tn i))), (0, .ref (a 0))]) X.1 X.2.1 dX5_personItem_126 hl (by decide) rfl (fun ls hl => ?_)
                    have e9 : p_item tq tn A i = (true, (nwc A (tK tq tn i) (tV tq tn (tE tq tn (tE tq tn i))) (tV tq tn (tE tq tn (tE tq tn (tE tq tn i))))), (tE tq tn (tE tq tn (tE tq tn (tE tq tn i))))) := by unfold p_item on_item; first | ((repeat (first | rw [if_pos (by omega)] | rw [if_neg (by omega)])); done) | ((repeat (first | rw [if_pos (by omega)] | rw [if_neg (by omega)])); rfl) | (exfalso; omega)
                    have h : St E _ s H locs (wM E a (mc16, kp, wa, (iv (ik)), fd, gf, tp, (iv (tn)), (iv (tK tq tn (tE tq tn (tE tq tn (tE tq tn (tE tq tn i)))))), (iv (tS tq tn (tE tq tn (tE tq tn (tE tq tn (tE tq tn i)))))), (iv (tE tq tn (tE tq tn (tE tq tn (tE tq tn (tE tq tn i)))))), (iv (v15)), (iv (0)), bt, sz, cl)) := h
                    exact ret _ _ _ _ (mc16, v15) (by rw [e9]; exact h) (by rw [e9]; exact ⟨hR16, hIn, rfl, cv15, fun _ => (show i < (tE tq tn (tE tq tn (tE tq tn (tE tq tn i)))) by omega), (show i ≤ (tE tq tn (tE tq tn (tE tq tn (tE tq tn i)))) by omega), (show (tE tq tn (tE tq tn (tE tq tn (tE tq tn i)))) ≤ tn by omega)⟩) dX5_personItem_128
                · have cp17 := cpx
                  refine z_ai h (run_V (rest := []) X h (c_X5_number_n (i := (tE tq tn (tE tq tn (tE tq tn i)))) (mx := 9) hT (by omega) (by omega) cv2 (by omega) (by omega) cp17) mi_X5_number ml_X5_193 ⟨Nat.le_of_ble_eq_true rfl, Nat.le_of_ble_eq_true rfl⟩ ⟨rfl, rfl⟩ (Seg.rfl' _) 4 0 rfl rfl rfl rfl hl.1 rfl (Nat.le_of_ble_eq_true rfl) ⟨Nat.zero_le _, Nat.zero_le _⟩ dX5_personItem_108) (fun _ => wM_map _ _ _ _) (fun r u_ H locs hp h => ?_)
                  subst hp
                  have h : St E _ s H locs (wM E a (mm, kp, wa, (iv (ik)), fd, gf, tp, (iv (tn)), (iv (tK tq tn (tE tq tn (tE tq tn (tE tq tn i))))), (iv (tS tq tn (tE tq tn (tE tq tn (tE tq tn i))))), (iv (tE tq tn (tE tq tn (tE tq tn (tE tq tn i))))), (iv (v2)), (iv (1)), bt, sz, cl)) := h
                  refine lv_istore_n (lv' := [(3, .int (iv (v2))), (2, .int (iv (tV tq tn (tE tq tn (tE tq tn i))))), (1, .int (iv (tK tq tn i))), (0, .ref (a 0))]) X.1 X.2.1 dX5_personItem_111 rfl hl (by decide) rfl (fun ls hl => ?_)
                  refine lv_aload_n X.1 X.2.1 dX5_personItem_112 rfl (lv_at hl 3 rfl) ?_
                  refine z_get X h 4 0 12 rfl inX5 rfl (by decide) fl_X5_183 rfl dX5_personItem_113 ?_
                  refine z_if_ne (tgt := 128) X ⟨by decide, by decide⟩ dX5_personItem_116 (by decide) (fun c_116 => ?_) (fun c_116 => ?_)
                  · have e9 : p_item tq tn A i = (false, A, (tE tq tn (tE tq tn (tE tq tn i)))) := by unfold p_item on_item; first | ((repeat (first | rw [if_pos (by omega)] | rw [if_neg (by omega)])); done) | ((repeat (first | rw [if_pos (by omega)] | rw [if_neg (by omega)])); rfl) | (exfalso; omega)
                    have h : St E _ s H locs (wM E a (mm, kp, wa, (iv (ik)), fd, gf, tp, (iv (tn)), (iv (tK tq tn (tE tq tn (tE tq tn (tE tq tn i))))), (iv (tS tq tn (tE tq tn (tE tq tn (tE tq tn i))))), (iv (tE tq tn (tE tq tn (tE tq tn (tE tq tn i))))), (iv (v2)), (iv (1)), bt, sz, cl)) := h
                    exact ret _ _ _ _ (mm, v2) (by rw [e9]; exact h) (by rw [e9]; exact ⟨hR, hI, rfl, cv2, fun q => absurd q (show ¬ false = true by decide), (show i ≤ (tE tq tn (tE tq tn (tE tq tn i))) by omega), (show (tE tq tn (tE tq tn (tE tq tn i))) ≤ tn by omega)⟩) dX5_personItem_128
                  · exact absurd c_116 (by decide)
              · refine lv_aload_n X.1 X.2.1 dX5_personItem_71 rfl (lv_at hl 3 rfl) ?_
                refine z_get X h 4 0 11 rfl inX5 rfl (by decide) fl_X5_174 rfl dX5_personItem_72 ?_
                refine lv_i2l (v := (iv (v2)).toInt64) X.1 X.2.1 dX5_personItem_75 rfl ?_
                refine z_iconst X dX5_personItem_76 ?_
                refine z_bipush X (by decide) dX5_personItem_77 ?_
                refine z_pi (run_S (rest := [.ref (a 0)]) X h (c_inI ⟨by omega, by omega⟩ ⟨by decide, by decide⟩ ⟨by decide, by decide⟩) mi_X5_in ml_X5_44 ⟨Nat.le_of_ble_eq_true rfl, Nat.le_of_ble_eq_true rfl⟩ ⟨rfl, rfl⟩ (Seg.nil _) rfl hl.1 rfl (Nat.le_of_ble_eq_true rfl) ⟨Nat.zero_le _, Nat.zero_le _⟩ dX5_personItem_79) ?_
                refine z_ifb_eq (tgt := 100) X dX5_personItem_82 (by decide) (fun c_82 => ?_) (fun c_82 => ?_)
                · refine z_iconst X dX5_personItem_100 ?_
                  refine z_put X h 4 0 12 rfl inX5 tyX5 tyX5_ok nmX5 rfl (by decide) fl_X5_183 rfl (by decide) (by decide) (Nat.le_of_ble_eq_true rfl) dX5_personItem_101 (fun H locs h => ?_)
                  have h : St E _ s H locs (wM E a (mm, kp, wa, (iv (ik)), fd, gf, tp, (iv (tn)), (iv (tK tq tn (tE tq tn (tE tq tn (tE tq tn i))))), (iv (tS tq tn (tE tq tn (tE tq tn (tE tq tn i))))), (iv (tE tq tn (tE tq tn (tE tq tn (tE tq tn i))))), (iv (v2)), (iv (0)), bt, sz, cl)) := h
                  have vm := CV_le cv2 (m := 9) (by omega)
                  refine lv_aload_n X.1 X.2.1 dX5_personItem_104 rfl (lv_at hl 3 rfl) ?_
                  refine z_iconst X dX5_personItem_105 ?_
                  refine z_bipush X (by decide) dX5_personItem_106 ?_
                  by_cases cpx : tK tq tn (tE tq tn (tE tq tn (tE tq tn i))) = 20 ∧ tV tq tn (tE tq tn (tE tq tn (tE tq tn i))) ≤ 9
                  · have cp18 := cpx
                    have cm18 := CV_nn cv2
                    refine z_ai h (run_V (rest := []) X h (c_X5_number_y (i := (tE tq tn (tE tq tn (tE tq tn i)))) (mx := 9) hT (by omega) (by omega) cv2 (by omega) (by omega) cp18.1 cp18.2) mi_X5_number ml_X5_193 ⟨Nat.le_of_ble_eq_true rfl, Nat.le_of_ble_eq_true rfl⟩ ⟨rfl, rfl⟩ (Seg.rfl' _) 4 0 rfl rfl rfl rfl hl.1 rfl (Nat.le_of_ble_eq_true rfl) ⟨Nat.zero_le _, Nat.zero_le _⟩ dX5_personItem_108) (fun _ => wM_map _ _ _ _) (fun r v18 H locs hp h => ?_)
                    obtain ⟨rfl, cv18⟩ := hp
                    have h : St E _ s H locs (wM E a (mm, kp, wa, (iv (ik)), fd, gf, tp, (iv (tn)), (iv (tK tq tn (tE tq tn (tE tq tn (tE tq tn (tE tq tn i)))))), (iv (tS tq tn (tE tq tn (tE tq tn (tE tq tn (tE tq tn i)))))), (iv (tE tq tn (tE tq tn (tE tq tn (tE tq tn (tE tq tn i)))))), (iv (v18)), (iv (0)), bt, sz, cl)) := h
                    have tr18 := tok_rng tq (tn := tn) (i := (tE tq tn (tE tq tn (tE tq tn (tE tq tn i))))) (by omega) (by omega)
                    have cr18 := cv18.1
                    have cq18 := cv18.2.1
                    have cn18 := CV_nn cv18
                    refine lv_istore_n (lv' := [(3, .int (iv (tV tq tn (tE tq tn (tE tq tn (tE tq tn i)))))), (2, .int (iv (tV tq tn (tE tq tn (tE tq tn i))))), (1, .int (iv (tK tq tn i))), (0, .ref (a 0))]) X.1 X.2.1 dX5_personItem_111 rfl hl (by decide) rfl (fun ls hl => ?_)
                    refine lv_aload_n X.1 X.2.1 dX5_personItem_112 rfl (lv_at hl 3 rfl) ?_
                    refine z_get X h 4 0 12 rfl inX5 rfl (by decide) fl_X5_183 rfl dX5_personItem_113 ?_
                    refine z_if_ne (tgt := 128) X ⟨by decide, by decide⟩ dX5_personItem_116 (by decide) (fun c_116 => ?_) (fun c_116 => ?_)
                    · exact absurd c_116 (by decide)
                    · refine lv_aload_n X.1 X.2.1 dX5_personItem_119 rfl (lv_at hl 3 rfl) ?_
                      refine lv_iload_n X.1 X.2.1 dX5_personItem_120 rfl (lv_at hl 2 rfl) ?_
                      refine lv_iload_n X.1 X.2.1 dX5_personItem_121 rfl (lv_at hl 1 rfl) ?_
                      refine lv_iload_n X.1 X.2.1 dX5_personItem_122 rfl (lv_at hl 0 rfl) ?_
                      refine z_ai h (run_V (rest := []) X h (c_X5_comesAs (k := (tK tq tn i)) (b := (tV tq tn (tE tq tn (tE tq tn i)))) (ch := (tV tq tn (tE tq tn (tE tq tn (tE tq tn i))))) hR hI.n0 (by omega)) mi_X5_comesAs ml_X5_96 ⟨Nat.le_of_ble_eq_true rfl, Nat.le_of_ble_eq_true rfl⟩ ⟨rfl, rfl⟩ (Seg.rfl' _) 4 0 rfl rfl rfl rfl hl.1 rfl (Nat.le_of_ble_eq_true rfl) ⟨Nat.zero_le _, Nat.zero_le _⟩ dX5_personItem_123) (fun _ => wM_map _ _ _ _) (fun r mc19 H locs hp h => ?_)
                      have h : St E _ s H locs (wM E a (mc19, kp, wa, (iv (ik)), fd, gf, tp, (iv (tn)), (iv (tK tq tn (tE tq tn (tE tq tn (tE tq tn (tE tq tn i)))))), (iv (tS tq tn (tE tq tn (tE tq tn (tE tq tn (tE tq tn i)))))), (iv (tE tq tn (tE tq tn (tE tq tn (tE tq tn (tE tq tn i)))))), (iv (v18)), (iv (0)), bt, sz, cl)) := h
                      obtain ⟨rfl, hR19⟩ := hp
                      have hIn : IA (nwc A (tK tq tn i) (tV tq tn (tE tq tn (tE tq tn i))) (tV tq tn (tE tq tn (tE tq tn (tE tq tn i))))) := IA_nwc hI (by omega) (by omega) (by omega) (by omega) (by omega) (by omega) (by omega) (by omega)
                      refine lv_istore (lv' := [(4, .int (iv (pe A))), (3, .int (iv (tV tq tn (tE tq tn (tE tq tn (tE tq tn i)))))), (2, .int (iv (tV tq tn (tE tq tn (tE tq tn i))))), (1, .int (iv (tK tq tn i))), (0, .ref (a 0))]) X.1 X.2.1 dX5_personItem_126 hl (by decide) rfl (fun ls hl => ?_)
                      have e9 : p_item tq tn A i = (true, (nwc A (tK tq tn i) (tV tq tn (tE tq tn (tE tq tn i))) (tV tq tn (tE tq tn (tE tq tn (tE tq tn i))))), (tE tq tn (tE tq tn (tE tq tn (tE tq tn i))))) := by unfold p_item on_item; first | ((repeat (first | rw [if_pos (by omega)] | rw [if_neg (by omega)])); done) | ((repeat (first | rw [if_pos (by omega)] | rw [if_neg (by omega)])); rfl) | (exfalso; omega)
                      have h : St E _ s H locs (wM E a (mc19, kp, wa, (iv (ik)), fd, gf, tp, (iv (tn)), (iv (tK tq tn (tE tq tn (tE tq tn (tE tq tn (tE tq tn i)))))), (iv (tS tq tn (tE tq tn (tE tq tn (tE tq tn (tE tq tn i)))))), (iv (tE tq tn (tE tq tn (tE tq tn (tE tq tn (tE tq tn i)))))), (iv (v18)), (iv (0)), bt, sz, cl)) := h
                      exact ret _ _ _ _ (mc19, v18) (by rw [e9]; exact h) (by rw [e9]; exact ⟨hR19, hIn, rfl, cv18, fun _ => (show i < (tE tq tn (tE tq tn (tE tq tn (tE tq tn i)))) by omega), (show i ≤ (tE tq tn (tE tq tn (tE tq tn (tE tq tn i)))) by omega), (show (tE tq tn (tE tq tn (tE tq tn (tE tq tn i)))) ≤ tn by omega)⟩) dX5_personItem_128
                  · have cp20 := cpx
                    refine z_ai h (run_V (rest := []) X h (c_X5_number_n (i := (tE tq tn (tE tq tn (tE tq tn i)))) (mx := 9) hT (by omega) (by omega) cv2 (by omega) (by omega) cp20) mi_X5_number ml_X5_193 ⟨Nat.le_of_ble_eq_true rfl, Nat.le_of_ble_eq_true rfl⟩ ⟨rfl, rfl⟩ (Seg.rfl' _) 4 0 rfl rfl rfl rfl hl.1 rfl (Nat.le_of_ble_eq_true rfl) ⟨Nat.zero_le _, Nat.zero_le _⟩ dX5_personItem_108) (fun _ => wM_map _ _ _ _) (fun r u_ H locs hp h => ?_)
                    subst hp
                    have h : St E _ s H locs (wM E a (mm, kp, wa, (iv (ik)), fd, gf, tp, (iv (tn)), (iv (tK tq tn (tE tq tn (tE tq tn (tE tq tn i))))), (iv (tS tq tn (tE tq tn (tE tq tn (tE tq tn i))))), (iv (tE tq tn (tE tq tn (tE tq tn (tE tq tn i))))), (iv (v2)), (iv (1)), bt, sz, cl)) := h
                    refine lv_istore_n (lv' := [(3, .int (iv (v2))), (2, .int (iv (tV tq tn (tE tq tn (tE tq tn i))))), (1, .int (iv (tK tq tn i))), (0, .ref (a 0))]) X.1 X.2.1 dX5_personItem_111 rfl hl (by decide) rfl (fun ls hl => ?_)
                    refine lv_aload_n X.1 X.2.1 dX5_personItem_112 rfl (lv_at hl 3 rfl) ?_
                    refine z_get X h 4 0 12 rfl inX5 rfl (by decide) fl_X5_183 rfl dX5_personItem_113 ?_
                    refine z_if_ne (tgt := 128) X ⟨by decide, by decide⟩ dX5_personItem_116 (by decide) (fun c_116 => ?_) (fun c_116 => ?_)
                    · have e9 : p_item tq tn A i = (false, A, (tE tq tn (tE tq tn (tE tq tn i)))) := by unfold p_item on_item; first | ((repeat (first | rw [if_pos (by omega)] | rw [if_neg (by omega)])); done) | ((repeat (first | rw [if_pos (by omega)] | rw [if_neg (by omega)])); rfl) | (exfalso; omega)
                      have h : St E _ s H locs (wM E a (mm, kp, wa, (iv (ik)), fd, gf, tp, (iv (tn)), (iv (tK tq tn (tE tq tn (tE tq tn (tE tq tn i))))), (iv (tS tq tn (tE tq tn (tE tq tn (tE tq tn i))))), (iv (tE tq tn (tE tq tn (tE tq tn (tE tq tn i))))), (iv (v2)), (iv (1)), bt, sz, cl)) := h
                      exact ret _ _ _ _ (mm, v2) (by rw [e9]; exact h) (by rw [e9]; exact ⟨hR, hI, rfl, cv2, fun q => absurd q (show ¬ false = true by decide), (show i ≤ (tE tq tn (tE tq tn (tE tq tn i))) by omega), (show (tE tq tn (tE tq tn (tE tq tn i))) ≤ tn by omega)⟩) dX5_personItem_128
                    · exact absurd c_116 (by decide)
                · refine lv_aload_n X.1 X.2.1 dX5_personItem_85 rfl (lv_at hl 3 rfl) ?_
                  have ev := CV_eq cv2 (m := 9) (by omega) (by omega)
                  have eo : onC A (tV tq tn (tE tq tn (tE tq tn (tE tq tn i)))) = onC A v2 := by rw [ev]
                  have oc := onC_rng hI v2
                  refine lv_aload_n X.1 X.2.1 dX5_personItem_86 rfl (lv_at hl 3 rfl) ?_
                  refine z_get X h 4 0 11 rfl inX5 rfl (by decide) fl_X5_174 rfl dX5_personItem_87 ?_
                  refine z_pi (run_V (rest := [.ref (a 0)]) X h (c_X5_onChair (ch := v2) hR hI ⟨by omega, by omega⟩) mi_X5_onChair ml_X5_59 ⟨Nat.le_of_ble_eq_true rfl, Nat.le_of_ble_eq_true rfl⟩ ⟨rfl, rfl⟩ (Seg.rfl' _) 4 0 rfl rfl rfl rfl hl.1 rfl (Nat.le_of_ble_eq_true rfl) ⟨Nat.zero_le _, Nat.zero_le _⟩ dX5_personItem_90) ?_
                  refine z_if_lt (tgt := 100) X ⟨by omega, by omega⟩ dX5_personItem_93 (by decide) (fun c_93 => ?_) (fun c_93 => ?_)
                  · refine z_iconst X dX5_personItem_100 ?_
                    refine z_put X h 4 0 12 rfl inX5 tyX5 tyX5_ok nmX5 rfl (by decide) fl_X5_183 rfl (by decide) (by decide) (Nat.le_of_ble_eq_true rfl) dX5_personItem_101 (fun H locs h => ?_)
                    have h : St E _ s H locs (wM E a (mm, kp, wa, (iv (ik)), fd, gf, tp, (iv (tn)), (iv (tK tq tn (tE tq tn (tE tq tn (tE tq tn i))))), (iv (tS tq tn (tE tq tn (tE tq tn (tE tq tn i))))), (iv (tE tq tn (tE tq tn (tE tq tn (tE tq tn i))))), (iv (v2)), (iv (0)), bt, sz, cl)) := h
                    have vm := CV_le cv2 (m := 9) (by omega)
                    refine lv_aload_n X.1 X.2.1 dX5_personItem_104 rfl (lv_at hl 3 rfl) ?_
                    refine z_iconst X dX5_personItem_105 ?_
                    refine z_bipush X (by decide) dX5_personItem_106 ?_
                    by_cases cpx : tK tq tn (tE tq tn (tE tq tn (tE tq tn i))) = 20 ∧ tV tq tn (tE tq tn (tE tq tn (tE tq tn i))) ≤ 9
                    · have cp21 := cpx
                      have cm21 := CV_nn cv2
                      refine z_ai h (run_V (rest := []) X h (c_X5_number_y (i := (tE tq tn (tE tq tn (tE tq tn i)))) (mx := 9) hT (by omega) (by omega) cv2 (by omega) (by omega) cp21.1 cp21.2) mi_X5_number ml_X5_193 ⟨Nat.le_of_ble_eq_true rfl, Nat.le_of_ble_eq_true rfl⟩ ⟨rfl, rfl⟩ (Seg.rfl' _) 4 0 rfl rfl rfl rfl hl.1 rfl (Nat.le_of_ble_eq_true rfl) ⟨Nat.zero_le _, Nat.zero_le _⟩ dX5_personItem_108) (fun _ => wM_map _ _ _ _) (fun r v21 H locs hp h => ?_)
                      obtain ⟨rfl, cv21⟩ := hp
                      have h : St E _ s H locs (wM E a (mm, kp, wa, (iv (ik)), fd, gf, tp, (iv (tn)), (iv (tK tq tn (tE tq tn (tE tq tn (tE tq tn (tE tq tn i)))))), (iv (tS tq tn (tE tq tn (tE tq tn (tE tq tn (tE tq tn i)))))), (iv (tE tq tn (tE tq tn (tE tq tn (tE tq tn (tE tq tn i)))))), (iv (v21)), (iv (0)), bt, sz, cl)) := h
                      have tr21 := tok_rng tq (tn := tn) (i := (tE tq tn (tE tq tn (tE tq tn (tE tq tn i))))) (by omega) (by omega)
                      have cr21 := cv21.1
                      have cq21 := cv21.2.1
                      have cn21 := CV_nn cv21
                      refine lv_istore_n (lv' := [(3, .int (iv (tV tq tn (tE tq tn (tE tq tn (tE tq tn i)))))), (2, .int (iv (tV tq tn (tE tq tn (tE tq tn i))))), (1, .int (iv (tK tq tn i))), (0, .ref (a 0))]) X.1 X.2.1 dX5_personItem_111 rfl hl (by decide) rfl (fun ls hl => ?_)
                      refine lv_aload_n X.1 X.2.1 dX5_personItem_112 rfl (lv_at hl 3 rfl) ?_
                      refine z_get X h 4 0 12 rfl inX5 rfl (by decide) fl_X5_183 rfl dX5_personItem_113 ?_
                      refine z_if_ne (tgt := 128) X ⟨by decide, by decide⟩ dX5_personItem_116 (by decide) (fun c_116 => ?_) (fun c_116 => ?_)
                      · exact absurd c_116 (by decide)
                      · refine lv_aload_n X.1 X.2.1 dX5_personItem_119 rfl (lv_at hl 3 rfl) ?_
                        refine lv_iload_n X.1 X.2.1 dX5_personItem_120 rfl (lv_at hl 2 rfl) ?_
                        refine lv_iload_n X.1 X.2.1 dX5_personItem_121 rfl (lv_at hl 1 rfl) ?_
                        refine lv_iload_n X.1 X.2.1 dX5_personItem_122 rfl (lv_at hl 0 rfl) ?_
                        refine z_ai h (run_V (rest := []) X h (c_X5_comesAs (k := (tK tq tn i)) (b := (tV tq tn (tE tq tn (tE tq tn i)))) (ch := (tV tq tn (tE tq tn (tE tq tn (tE tq tn i))))) hR hI.n0 (by omega)) mi_X5_comesAs ml_X5_96 ⟨Nat.le_of_ble_eq_true rfl, Nat.le_of_ble_eq_true rfl⟩ ⟨rfl, rfl⟩ (Seg.rfl' _) 4 0 rfl rfl rfl rfl hl.1 rfl (Nat.le_of_ble_eq_true rfl) ⟨Nat.zero_le _, Nat.zero_le _⟩ dX5_personItem_123) (fun _ => wM_map _ _ _ _) (fun r mc22 H locs hp h => ?_)
                        have h : St E _ s H locs (wM E a (mc22, kp, wa, (iv (ik)), fd, gf, tp, (iv (tn)), (iv (tK tq tn (tE tq tn (tE tq tn (tE tq tn (tE tq tn i)))))), (iv (tS tq tn (tE tq tn (tE tq tn (tE tq tn (tE tq tn i)))))), (iv (tE tq tn (tE tq tn (tE tq tn (tE tq tn (tE tq tn i)))))), (iv (v21)), (iv (0)), bt, sz, cl)) := h
                        obtain ⟨rfl, hR22⟩ := hp
                        have hIn : IA (nwc A (tK tq tn i) (tV tq tn (tE tq tn (tE tq tn i))) (tV tq tn (tE tq tn (tE tq tn (tE tq tn i))))) := IA_nwc hI (by omega) (by omega) (by omega) (by omega) (by omega) (by omega) (by omega) (by omega)
                        refine lv_istore (lv' := [(4, .int (iv (pe A))), (3, .int (iv (tV tq tn (tE tq tn (tE tq tn (tE tq tn i)))))), (2, .int (iv (tV tq tn (tE tq tn (tE tq tn i))))), (1, .int (iv (tK tq tn i))), (0, .ref (a 0))]) X.1 X.2.1 dX5_personItem_126 hl (by decide) rfl (fun ls hl => ?_)
                        have e9 : p_item tq tn A i = (true, (nwc A (tK tq tn i) (tV tq tn (tE tq tn (tE tq tn i))) (tV tq tn (tE tq tn (tE tq tn (tE tq tn i))))), (tE tq tn (tE tq tn (tE tq tn (tE tq tn i))))) := by unfold p_item on_item; first | ((repeat (first | rw [if_pos (by omega)] | rw [if_neg (by omega)])); done) | ((repeat (first | rw [if_pos (by omega)] | rw [if_neg (by omega)])); rfl) | (exfalso; omega)
                        have h : St E _ s H locs (wM E a (mc22, kp, wa, (iv (ik)), fd, gf, tp, (iv (tn)), (iv (tK tq tn (tE tq tn (tE tq tn (tE tq tn (tE tq tn i)))))), (iv (tS tq tn (tE tq tn (tE tq tn (tE tq tn (tE tq tn i)))))), (iv (tE tq tn (tE tq tn (tE tq tn (tE tq tn (tE tq tn i)))))), (iv (v21)), (iv (0)), bt, sz, cl)) := h
                        exact ret _ _ _ _ (mc22, v21) (by rw [e9]; exact h) (by rw [e9]; exact ⟨hR22, hIn, rfl, cv21, fun _ => (show i < (tE tq tn (tE tq tn (tE tq tn (tE tq tn i)))) by omega), (show i ≤ (tE tq tn (tE tq tn (tE tq tn (tE tq tn i)))) by omega), (show (tE tq tn (tE tq tn (tE tq tn (tE tq tn i)))) ≤ tn by omega)⟩) dX5_personItem_128
                    · have cp23 := cpx
                      refine z_ai h (run_V (rest := []) X h (c_X5_number_n (i := (tE tq tn (tE tq tn (tE tq tn i)))) (mx := 9) hT (by omega) (by omega) cv2 (by omega) (by omega) cp23) mi_X5_number ml_X5_193 ⟨Nat.le_of_ble_eq_true rfl, Nat.le_of_ble_eq_true rfl⟩ ⟨rfl, rfl⟩ (Seg.rfl' _) 4 0 rfl rfl rfl rfl hl.1 rfl (Nat.le_of_ble_eq_true rfl) ⟨Nat.zero_le _, Nat.zero_le _⟩ dX5_personItem_108) (fun _ => wM_map _ _ _ _) (fun r u_ H locs hp h => ?_)
                      subst hp
                      have h : St E _ s H locs (wM E a (mm, kp, wa, (iv (ik)), fd, gf, tp, (iv (tn)), (iv (tK tq tn (tE tq tn (tE tq tn (tE tq tn i))))), (iv (tS tq tn (tE tq tn (tE tq tn (tE tq tn i))))), (iv (tE tq tn (tE tq tn (tE tq tn (tE tq tn i))))), (iv (v2)), (iv (1)), bt, sz, cl)) := h
                      refine lv_istore_n (lv' := [(3, .int (iv (v2))), (2, .int (iv (tV tq tn (tE tq tn (tE tq tn i))))), (1, .int (iv (tK tq tn i))), (0, .ref (a 0))]) X.1 X.2.1 dX5_personItem_111 rfl hl (by decide) rfl (fun ls hl => ?_)
                      refine lv_aload_n X.1 X.2.1 dX5_personItem_112 rfl (lv_at hl 3 rfl) ?_
                      refine z_get X h 4 0 12 rfl inX5 rfl (by decide) fl_X5_183 rfl dX5_personItem_113 ?_
                      refine z_if_ne (tgt := 128) X ⟨by decide, by decide⟩ dX5_personItem_116 (by decide) (fun c_116 => ?_) (fun c_116 => ?_)
                      · have e9 : p_item tq tn A i = (false, A, (tE tq tn (tE tq tn (tE tq tn i)))) := by unfold p_item on_item; first | ((repeat (first | rw [if_pos (by omega)] | rw [if_neg (by omega)])); done) | ((repeat (first | rw [if_pos (by omega)] | rw [if_neg (by omega)])); rfl) | (exfalso; omega)
                        have h : St E _ s H locs (wM E a (mm, kp, wa, (iv (ik)), fd, gf, tp, (iv (tn)), (iv (tK tq tn (tE tq tn (tE tq tn (tE tq tn i))))), (iv (tS tq tn (tE tq tn (tE tq tn (tE tq tn i))))), (iv (tE tq tn (tE tq tn (tE tq tn (tE tq tn i))))), (iv (v2)), (iv (1)), bt, sz, cl)) := h
                        exact ret _ _ _ _ (mm, v2) (by rw [e9]; exact h) (by rw [e9]; exact ⟨hR, hI, rfl, cv2, fun q => absurd q (show ¬ false = true by decide), (show i ≤ (tE tq tn (tE tq tn (tE tq tn i))) by omega), (show (tE tq tn (tE tq tn (tE tq tn i))) ≤ tn by omega)⟩) dX5_personItem_128
                      · exact absurd c_116 (by decide)
                  · refine z_iconst X dX5_personItem_96 ?_
                    refine lv_goto (tgt := 101) X.1 X.2.1 dX5_personItem_97 (by decide) ?_
                    refine z_put X h 4 0 12 rfl inX5 tyX5 tyX5_ok nmX5 rfl (by decide) fl_X5_183 rfl (by decide) (by decide) (Nat.le_of_ble_eq_true rfl) dX5_personItem_101 (fun H locs h => ?_)
                    have h : St E _ s H locs (wM E a (mm, kp, wa, (iv (ik)), fd, gf, tp, (iv (tn)), (iv (tK tq tn (tE tq tn (tE tq tn (tE tq tn i))))), (iv (tS tq tn (tE tq tn (tE tq tn (tE tq tn i))))), (iv (tE tq tn (tE tq tn (tE tq tn (tE tq tn i))))), (iv (v2)), (iv (1)), bt, sz, cl)) := h
                    have vm := CV_le cv2 (m := 9) (by omega)
                    refine lv_aload_n X.1 X.2.1 dX5_personItem_104 rfl (lv_at hl 3 rfl) ?_
                    refine z_iconst X dX5_personItem_105 ?_
                    refine z_bipush X (by decide) dX5_personItem_106 ?_
                    refine z_ai h (run_V (rest := []) X h (c_X5_number_b (i := (tE tq tn (tE tq tn (tE tq tn i)))) (mx := 9) hT (by omega) (by omega) cv2 (by omega) (by omega)) mi_X5_number ml_X5_193 ⟨Nat.le_of_ble_eq_true rfl, Nat.le_of_ble_eq_true rfl⟩ ⟨rfl, rfl⟩ (Seg.rfl' _) 4 0 rfl rfl rfl rfl hl.1 rfl (Nat.le_of_ble_eq_true rfl) ⟨Nat.zero_le _, Nat.zero_le _⟩ dX5_personItem_108) (fun _ => wM_map _ _ _ _) (fun r u_ H locs hp h => ?_)
                    subst hp
                    have h : St E _ s H locs (wM E a (mm, kp, wa, (iv (ik)), fd, gf, tp, (iv (tn)), (iv (tK tq tn (tE tq tn (tE tq tn (tE tq tn i))))), (iv (tS tq tn (tE tq tn (tE tq tn (tE tq tn i))))), (iv (tE tq tn (tE tq tn (tE tq tn (tE tq tn i))))), (iv (v2)), (iv (1)), bt, sz, cl)) := h
                    refine lv_istore_n (lv' := [(3, .int (iv (v2))), (2, .int (iv (tV tq tn (tE tq tn (tE tq tn i))))), (1, .int (iv (tK tq tn i))), (0, .ref (a 0))]) X.1 X.2.1 dX5_personItem_111 rfl hl (by decide) rfl (fun ls hl => ?_)
                    refine lv_aload_n X.1 X.2.1 dX5_personItem_112 rfl (lv_at hl 3 rfl) ?_
                    refine z_get X h 4 0 12 rfl inX5 rfl (by decide) fl_X5_183 rfl dX5_personItem_113 ?_
                    refine z_if_ne (tgt := 128) X ⟨by decide, by decide⟩ dX5_personItem_116 (by decide) (fun c_116 => ?_) (fun c_116 => ?_)
                    · have e9 : p_item tq tn A i = (false, A, (tE tq tn (tE tq tn (tE tq tn i)))) := by unfold p_item on_item; first | ((repeat (first | rw [if_pos (by omega)] | rw [if_neg (by omega)])); done) | ((repeat (first | rw [if_pos (by omega)] | rw [if_neg (by omega)])); rfl) | (exfalso; omega)
                      have h : St E _ s H locs (wM E a (mm, kp, wa, (iv (ik)), fd, gf, tp, (iv (tn)), (iv (tK tq tn (tE tq tn (tE tq tn (tE tq tn i))))), (iv (tS tq tn (tE tq tn (tE tq tn (tE tq tn i))))), (iv (tE tq tn (tE tq tn (tE tq tn (tE tq tn i))))), (iv (v2)), (iv (1)), bt, sz, cl)) := h
                      exact ret _ _ _ _ (mm, v2) (by rw [e9]; exact h) (by rw [e9]; exact ⟨hR, hI, rfl, cv2, fun q => absurd q (show ¬ false = true by decide), (show i ≤ (tE tq tn (tE tq tn (tE tq tn i))) by omega), (show (tE tq tn (tE tq tn (tE tq tn i))) ≤ tn by omega)⟩) dX5_personItem_128
                    · exact absurd c_116 (by decide)
        · refine z_ai h (run_V (rest := []) X h (c_X5_perhaps_x (i := (tE tq tn i)) (wd := 6) (mx := 200) (so := 20) hT (by omega) (by omega) cv1 ⟨by decide, by decide⟩ (by omega) (by omega) ⟨by decide, by decide⟩ cpk cpn) mi_X5_perhaps ml_X5_196 ⟨Nat.le_of_ble_eq_true rfl, Nat.le_of_ble_eq_true rfl⟩ ⟨rfl, rfl⟩ (Seg.rfl' _) 4 0 rfl rfl rfl rfl hl.1 rfl (Nat.le_of_ble_eq_true rfl) ⟨Nat.zero_le _, Nat.zero_le _⟩ dX5_personItem_46) (fun _ => wM_map _ _ _ _) (fun r v24 H locs hp h => ?_)
          obtain ⟨rfl, cv24⟩ := hp
          have h : St E _ s H locs (wM E a (mm, kp, wa, (iv (ik)), fd, gf, tp, (iv (tn)), (iv (tK tq tn (tE tq tn (tE tq tn i)))), (iv (tS tq tn (tE tq tn (tE tq tn i)))), (iv (tE tq tn (tE tq tn (tE tq tn i)))), (iv (v24)), (iv (1)), bt, sz, cl)) := h
          have tr24 := tok_rng tq (tn := tn) (i := (tE tq tn (tE tq tn i))) (by omega) (by omega)
          have cr24 := cv24.1
          have cq24 := cv24.2.1
          have cn24 := CV_nn cv24
          refine lv_istore_n (lv' := [(2, .int (iv (v24))), (1, .int (iv (tK tq tn i))), (0, .ref (a 0))]) X.1 X.2.1 dX5_personItem_49 rfl hl (by decide) rfl (fun ls hl => ?_)
          refine z_iconst X dX5_personItem_50 ?_
          refine lv_istore_n (lv' := [(3, .int (iv ((-1)))), (2, .int (iv (v24))), (1, .int (iv (tK tq tn i))), (0, .ref (a 0))]) X.1 X.2.1 dX5_personItem_51 rfl hl (by decide) rfl (fun ls hl => ?_)
          refine lv_aload_n X.1 X.2.1 dX5_personItem_52 rfl (lv_at hl 3 rfl) ?_
          refine z_bipush X (by decide) dX5_personItem_53 ?_
          refine z_pi (run_V (rest := []) X h (c_X5_passes_b (i := (tE tq tn (tE tq tn i))) (wd := 7) hT (by omega) (by omega) cv24 ⟨by decide, by decide⟩) mi_X5_passes ml_X5_190 ⟨Nat.le_of_ble_eq_true rfl, Nat.le_of_ble_eq_true rfl⟩ ⟨rfl, rfl⟩ (Seg.rfl' _) 4 0 rfl rfl rfl rfl hl.1 rfl (Nat.le_of_ble_eq_true rfl) ⟨Nat.zero_le _, Nat.zero_le _⟩ dX5_personItem_55) ?_
          refine z_ifb_eq (tgt := 112) X dX5_personItem_58 (by decide) (fun c_58 => ?_) (fun c_58 => ?_)
          · refine lv_aload_n X.1 X.2.1 dX5_personItem_112 rfl (lv_at hl 3 rfl) ?_
            refine z_get X h 4 0 12 rfl inX5 rfl (by decide) fl_X5_183 rfl dX5_personItem_113 ?_
            refine z_if_ne (tgt := 128) X ⟨by decide, by decide⟩ dX5_personItem_116 (by decide) (fun c_116 => ?_) (fun c_116 => ?_)
            · have e9 : p_item tq tn A i = (false, A, (tE tq tn (tE tq tn i))) := by unfold p_item on_item; first | ((repeat (first | rw [if_pos (by omega)] | rw [if_neg (by omega)])); done) | ((repeat (first | rw [if_pos (by omega)] | rw [if_neg (by omega)])); rfl) | (exfalso; omega)
              have h : St E _ s H locs (wM E a (mm, kp, wa, (iv (ik)), fd, gf, tp, (iv (tn)), (iv (tK tq tn (tE tq tn (tE tq tn i)))), (iv (tS tq tn (tE tq tn (tE tq tn i)))), (iv (tE tq tn (tE tq tn (tE tq tn i)))), (iv (v24)), (iv (1)), bt, sz, cl)) := h
              exact ret _ _ _ _ (mm, v24) (by rw [e9]; exact h) (by rw [e9]; exact ⟨hR, hI, rfl, cv24, fun q => absurd q (show ¬ false = true by decide), (show i ≤ (tE tq tn (tE tq tn i)) by omega), (show (tE tq tn (tE tq tn i)) ≤ tn by omega)⟩) dX5_personItem_128
            · exact absurd c_116 (by decide)
          · refine lv_aload_n X.1 X.2.1 dX5_personItem_61 rfl (lv_at hl 3 rfl) ?_
            refine lv_aload_n X.1 X.2.1 dX5_personItem_62 rfl (lv_at hl 3 rfl) ?_
            refine z_get X h 4 0 8 rfl inX5 rfl (by decide) fl_X5_177 rfl dX5_personItem_63 ?_
            refine z_bipush X (by decide) dX5_personItem_66 ?_
            refine z_ic_ne (tgt := 100) X ⟨by omega, by omega⟩ ⟨by decide, by decide⟩ dX5_personItem_68 (by decide) (fun c_68 => ?_) (fun c_68 => ?_)
            · refine z_iconst X dX5_personItem_100 ?_
              refine z_put X h 4 0 12 rfl inX5 tyX5 tyX5_ok nmX5 rfl (by decide) fl_X5_183 rfl (by decide) (by decide) (Nat.le_of_ble_eq_true rfl) dX5_personItem_101 (fun H locs h => ?_)
              have h : St E _ s H locs (wM E a (mm, kp, wa, (iv (ik)), fd, gf, tp, (iv (tn)), (iv (tK tq tn (tE tq tn (tE tq tn i)))), (iv (tS tq tn (tE tq tn (tE tq tn i)))), (iv (tE tq tn (tE tq tn (tE tq tn i)))), (iv (v24)), (iv (0)), bt, sz, cl)) := h
              have vm := CV_le cv24 (m := 9) (by omega)
              refine lv_aload_n X.1 X.2.1 dX5_personItem_104 rfl (lv_at hl 3 rfl) ?_
              refine z_iconst X dX5_personItem_105 ?_
              refine z_bipush X (by decide) dX5_personItem_106 ?_
              by_cases cpx : tK tq tn (tE tq tn (tE tq tn i)) = 20 ∧ tV tq tn (tE tq tn (tE tq tn i)) ≤ 9
              · have cp25 := cpx
                have cm25 := CV_nn cv24
                refine z_ai h (run_V (rest := []) X h (c_X5_number_y (i := (tE tq tn (tE tq tn i))) (mx := 9) hT (by omega) (by omega) cv24 (by omega) (by omega) cp25.1 cp25.2) mi_X5_number ml_X5_193 ⟨Nat.le_of_ble_eq_true rfl, Nat.le_of_ble_eq_true rfl⟩ ⟨rfl, rfl⟩ (Seg.rfl' _) 4 0 rfl rfl rfl rfl hl.1 rfl (Nat.le_of_ble_eq_true rfl) ⟨Nat.zero_le _, Nat.zero_le _⟩ dX5_personItem_108) (fun _ => wM_map _ _ _ _) (fun r v25 H locs hp h => ?_)
                obtain ⟨rfl, cv25⟩ := hp
                have h : St E _ s H locs (wM E a (mm, kp, wa, (iv (ik)), fd, gf, tp, (iv (tn)), (iv (tK tq tn (tE tq tn (tE tq tn (tE tq tn i))))), (iv (tS tq tn (tE tq tn (tE tq tn (tE tq tn i))))), (iv (tE tq tn (tE tq tn (tE tq tn (tE tq tn i))))), (iv (v25)), (iv (0)), bt, sz, cl)) := h
                have tr25 := tok_rng tq (tn := tn) (i := (tE tq tn (tE tq tn (tE tq tn i)))) (by omega) (by omega)
                have cr25 := cv25.1
                have cq25 := cv25.2.1
                have cn25 := CV_nn cv25
                refine lv_istore_n (lv' := [(3, .int (iv (tV tq tn (tE tq tn (tE tq tn i))))), (2, .int (iv (v24))), (1, .int (iv (tK tq tn i))), (0, .ref (a 0))]) X.1 X.2.1 dX5_personItem_111 rfl hl (by decide) rfl (fun ls hl => ?_)
                refine lv_aload_n X.1 X.2.1 dX5_personItem_112 rfl (lv_at hl 3 rfl) ?_
                refine z_get X h 4 0 12 rfl inX5 rfl (by decide) fl_X5_183 rfl dX5_personItem_113 ?_
                refine z_if_ne (tgt := 128) X ⟨by decide, by decide⟩ dX5_personItem_116 (by decide) (fun c_116 => ?_) (fun c_116 => ?_)
                · exact absurd c_116 (by decide)
                · refine lv_aload_n X.1 X.2.1 dX5_personItem_119 rfl (lv_at hl 3 rfl) ?_
                  refine lv_iload_n X.1 X.2.1 dX5_personItem_120 rfl (lv_at hl 2 rfl) ?_
                  refine lv_iload_n X.1 X.2.1 dX5_personItem_121 rfl (lv_at hl 1 rfl) ?_
                  refine lv_iload_n X.1 X.2.1 dX5_personItem_122 rfl (lv_at hl 0 rfl) ?_
                  refine z_ai h (run_V (rest := []) X h (c_X5_comesAs (k := (tK tq tn i)) (b := v24) (ch := (tV tq tn (tE tq tn (tE tq tn i)))) hR hI.n0 (by omega)) mi_X5_comesAs ml_X5_96 ⟨Nat.le_of_ble_eq_true rfl, Nat.le_of_ble_eq_true rfl⟩ ⟨rfl, rfl⟩ (Seg.rfl' _) 4 0 rfl rfl rfl rfl hl.1 rfl (Nat.le_of_ble_eq_true rfl) ⟨Nat.zero_le _, Nat.zero_le _⟩ dX5_personItem_123) (fun _ => wM_map _ _ _ _) (fun r mc26 H locs hp h => ?_)
                  have h : St E _ s H locs (wM E a (mc26, kp, wa, (iv (ik)), fd, gf, tp, (iv (tn)), (iv (tK tq tn (tE tq tn (tE tq tn (tE tq tn i))))), (iv (tS tq tn (tE tq tn (tE tq tn (tE tq tn i))))), (iv (tE tq tn (tE tq tn (tE tq tn (tE tq tn i))))), (iv (v25)), (iv (0)), bt, sz, cl)) := h
                  obtain ⟨rfl, hR26⟩ := hp
                  have hIn : IA (nwc A (tK tq tn i) v24 (tV tq tn (tE tq tn (tE tq tn i)))) := IA_nwc hI (by omega) (by omega) (by omega) (by omega) (by omega) (by omega) (by omega) (by omega)
                  refine lv_istore (lv' := [(4, .int (iv (pe A))), (3, .int (iv (tV tq tn (tE tq tn (tE tq tn i))))), (2, .int (iv (v24))), (1, .int (iv (tK tq tn i))), (0, .ref (a 0))]) X.1 X.2.1 dX5_personItem_126 hl (by decide) rfl (fun ls hl => ?_)
                  have e9 : p_item tq tn A i = (true, (nwc A (tK tq tn i) v24 (tV tq tn (tE tq tn (tE tq tn i)))), (tE tq tn (tE tq tn (tE tq tn i)))) := by unfold p_item on_item; first | ((repeat (first | rw [if_pos (by omega)] | rw [if_neg (by omega)])); done) | ((repeat (first | rw [if_pos (by omega)] | rw [if_neg (by omega)])); rfl) | (exfalso; omega)
                  have h : St E _ s H locs (wM E a (mc26, kp, wa, (iv (ik)), fd, gf, tp, (iv (tn)), (iv (tK tq tn (tE tq tn (tE tq tn (tE tq tn i))))), (iv (tS tq tn (tE tq tn (tE tq tn (tE tq tn i))))), (iv (tE tq tn (tE tq tn (tE tq tn (tE tq tn i))))), (iv (v25)), (iv (0)), bt, sz, cl)) := h
                  exact ret _ _ _ _ (mc26, v25) (by rw [e9]; exact h) (by rw [e9]; exact ⟨hR26, hIn, rfl, cv25, fun _ => (show i < (tE tq tn (tE tq tn (tE tq tn i))) by omega), (show i ≤ (tE tq tn (tE tq tn (tE tq tn i))) by omega), (show (tE tq tn (tE tq tn (tE tq tn i))) ≤ tn by omega)⟩) dX5_personItem_128
              · have cp27 := cpx
                refine z_ai h (run_V (rest := []) X h (c_X5_number_n (i := (tE tq tn (tE tq tn i))) (mx := 9) hT (by omega) (by omega) cv24 (by omega) (by omega) cp27) mi_X5_number ml_X5_193 ⟨Nat.le_of_ble_eq_true rfl, Nat.le_of_ble_eq_true rfl⟩ ⟨rfl, rfl⟩ (Seg.rfl' _) 4 0 rfl rfl rfl rfl hl.1 rfl (Nat.le_of_ble_eq_true rfl) ⟨Nat.zero_le _, Nat.zero_le _⟩ dX5_personItem_108) (fun _ => wM_map _ _ _ _) (fun r u_ H locs hp h => ?_)
                subst hp
                have h : St E _ s H locs (wM E a (mm, kp, wa, (iv (ik)), fd, gf, tp, (iv (tn)), (iv (tK tq tn (tE tq tn (tE tq tn i)))), (iv (tS tq tn (tE tq tn (tE tq tn i)))), (iv (tE tq tn (tE tq tn (tE tq tn i)))), (iv (v24)), (iv (1)), bt, sz, cl)) := h
                refine lv_istore_n (lv' := [(3, .int (iv (v24))), (2, .int (iv (v24))), (1, .int (iv (tK tq tn i))), (0, .ref (a 0))]) X.1 X.2.1 dX5_personItem_111 rfl hl (by decide) rfl (fun ls hl => ?_)
                refine lv_aload_n X.1 X.2.1 dX5_personItem_112 rfl (lv_at hl 3 rfl) ?_
                refine z_get X h 4 0 12 rfl inX5 rfl (by decide) fl_X5_183 rfl dX5_personItem_113 ?_
                refine z_if_ne (tgt := 128) X ⟨by decide, by decide⟩ dX5_personItem_116 (by decide) (fun c_116 => ?_) (fun c_116 => ?_)
                · have e9 : p_item tq tn A i = (false, A, (tE tq tn (tE tq tn i))) := by unfold p_item on_item; first | ((repeat (first | rw [if_pos (by omega)] | rw [if_neg (by omega)])); done) | ((repeat (first | rw [if_pos (by omega)] | rw [if_neg (by omega)])); rfl) | (exfalso; omega)
                  have h : St E _ s H locs (wM E a (mm, kp, wa, (iv (ik)), fd, gf, tp, (iv (tn)), (iv (tK tq tn (tE tq tn (tE tq tn i)))), (iv (tS tq tn (tE tq tn (tE tq tn i)))), (iv (tE tq tn (tE tq tn (tE tq tn i)))), (iv (v24)), (iv (1)), bt, sz, cl)) := h
                  exact ret _ _ _ _ (mm, v24) (by rw [e9]; exact h) (by rw [e9]; exact ⟨hR, hI, rfl, cv24, fun q => absurd q (show ¬ false = true by decide), (show i ≤ (tE tq tn (tE tq tn i)) by omega), (show (tE tq tn (tE tq tn i)) ≤ tn by omega)⟩) dX5_personItem_128
                · exact absurd c_116 (by decide)
            · refine lv_aload_n X.1 X.2.1 dX5_personItem_71 rfl (lv_at hl 3 rfl) ?_
              refine z_get X h 4 0 11 rfl inX5 rfl (by decide) fl_X5_174 rfl dX5_personItem_72 ?_
              refine lv_i2l (v := (iv (v24)).toInt64) X.1 X.2.1 dX5_personItem_75 rfl ?_
              refine z_iconst X dX5_personItem_76 ?_
              refine z_bipush X (by decide) dX5_personItem_77 ?_
              refine z_pi (run_S (rest := [.ref (a 0)]) X h (c_inI ⟨by omega, by omega⟩ ⟨by decide, by decide⟩ ⟨by decide, by decide⟩) mi_X5_in ml_X5_44 ⟨Nat.le_of_ble_eq_true rfl, Nat.le_of_ble_eq_true rfl⟩ ⟨rfl, rfl⟩ (Seg.nil _) rfl hl.1 rfl (Nat.le_of_ble_eq_true rfl) ⟨Nat.zero_le _, Nat.zero_le _⟩ dX5_personItem_79) ?_
              refine z_ifb_eq (tgt := 100) X dX5_personItem_82 (by decide) (fun c_82 => ?_) (fun c_82 => ?_)
              · refine z_iconst X dX5_personItem_100 ?_
                refine z_put X h 4 0 12 rfl inX5 tyX5 tyX5_ok nmX5 rfl (by decide) fl_X5_183 rfl (by decide) (by decide) (Nat.le_of_ble_eq_true rfl) dX5_personItem_101 (fun H locs h => ?_)
                have h : St E _ s H locs (wM E a (mm, kp, wa, (iv (ik)), fd, gf, tp, (iv (tn)), (iv (tK tq tn (tE tq tn (tE tq tn i)))), (iv (tS tq tn (tE tq tn (tE tq tn i)))), (iv (tE tq tn (tE tq tn (tE tq tn i)))), (iv (v24)), (iv (0)), bt, sz, cl)) := h
                have vm := CV_le cv24 (m := 9) (by omega)
                refine lv_aload_n X.1 X.2.1 dX5_personItem_104 rfl (lv_at hl 3 rfl) ?_
                refine z_iconst X dX5_personItem_105 ?_
                refine z_bipush X (by decide) dX5_personItem_106 ?_
                by_cases cpx : tK tq tn (tE tq tn (tE tq tn i)) = 20 ∧ tV tq tn (tE tq tn (tE tq tn i)) ≤ 9
                · have cp28 := cpx
                  have cm28 := CV_nn cv24
                  refine z_ai h (run_V (rest := []) X h (c_X5_number_y (i := (tE tq tn (tE tq tn i))) (mx := 9) hT (by omega) (by omega) cv24 (by omega) (by omega) cp28.1 cp28.2) mi_X5_number ml_X5_193 ⟨Nat.le_of_ble_eq_true rfl, Nat.le_of_ble_eq_true rfl⟩ ⟨rfl, rfl⟩ (Seg.rfl' _) 4 0 rfl rfl rfl rfl hl.1 rfl (Nat.le_of_ble_eq_true rfl) ⟨Nat.zero_le _, Nat.zero_le _⟩ dX5_personItem_108) (fun _ => wM_map _ _ _ _) (fun r v28 H locs hp h => ?_)
                  obtain ⟨rfl, cv28⟩ := hp
                  have h : St E _ s H locs (wM E a (mm, kp, wa, (iv (ik)), fd, gf, tp, (iv (tn)), (iv (tK tq tn (tE tq tn (tE tq tn (tE tq tn i))))), (iv (tS tq tn (tE tq tn (tE tq tn (tE tq tn i))))), (iv (tE tq tn (tE tq tn (tE tq tn (tE tq tn i))))), (iv (v28)), (iv (0)), bt, sz, cl)) := h
                  have tr28 := tok_rng tq (tn := tn) (i := (tE tq tn (tE tq tn (tE tq tn i)))) (by omega) (by omega)
                  have cr28 := cv28.1
                  have cq28 := cv28.2.1
                  have cn28 := CV_nn cv28
                  refine lv_istore_n (lv' := [(3, .int (iv (tV tq tn (tE tq tn (tE tq tn i))))), (2, .int (iv (v24))), (1, .int (iv (tK tq tn i))), (0, .ref (a 0))]) X.1 X.2.1 dX5_personItem_111 rfl hl (by decide) rfl (fun ls hl => ?_)
                  refine lv_aload_n X.1 X.2.1 dX5_personItem_112 rfl (lv_at hl 3 rfl) ?_
                  refine z_get X h 4 0 12 rfl inX5 rfl (by decide) fl_X5_183 rfl dX5_personItem_113 ?_
                  refine z_if_ne (tgt := 128) X ⟨by decide, by decide⟩ dX5_personItem_116 (by decide) (fun c_116 => ?_) (fun c_116 => ?_)
                  · exact absurd c_116 (by decide)
                  · refine lv_aload_n X.1 X.2.1 dX5_personItem_119 rfl (lv_at hl 3 rfl) ?_
                    refine lv_iload_n X.1 X.2.1 dX5_personItem_120 rfl (lv_at hl 2 rfl) ?_
                    refine lv_iload_n X.1 X.2.1 dX5_personItem_121 rfl (lv_at hl 1 rfl) ?_
                    refine lv_iload_n X.1 X.2.1 dX5_personItem_122 rfl (lv_at hl 0 rfl) ?_
                    refine z_ai h (run_V (rest := []) X h (c_X5_comesAs (k := (tK tq tn i)) (b := v24) (ch := (tV tq tn (tE tq tn (tE tq tn i)))) hR hI.n0 (by omega)) mi_X5_comesAs ml_X5_96 ⟨Nat.le_of_ble_eq_true rfl, Nat.le_of_ble_eq_true rfl⟩ ⟨rfl, rfl⟩ (Seg.rfl' _) 4 0 rfl rfl rfl rfl hl.1 rfl (Nat.le_of_ble_eq_true rfl) ⟨Nat.zero_le _, Nat.zero_le _⟩ dX5_personItem_123) (fun _ => wM_map _ _ _ _) (fun r mc29 H locs hp h => ?_)
                    have h : St E _ s H locs (wM E a (mc29, kp, wa, (iv (ik)), fd, gf, tp, (iv (tn)), (iv (tK tq tn (tE tq tn (tE tq tn (tE tq tn i))))), (iv (tS tq tn (tE tq tn (tE tq tn (tE tq tn i))))), (iv (tE tq tn (tE tq tn (tE tq tn (tE tq tn i))))), (iv (v28)), (iv (0)), bt, sz, cl)) := h
                    obtain ⟨rfl, hR29⟩ := hp
                    have hIn : IA (nwc A (tK tq tn i) v24 (tV tq tn (tE tq tn (tE tq tn i)))) := IA_nwc hI (by omega) (by omega) (by omega) (by omega) (by omega) (by omega) (by omega) (by omega)
                    refine lv_istore (lv' := [(4, .int (iv (pe A))), (3, .int (iv (tV tq tn (tE tq tn (tE tq tn i))))), (2, .int (iv (v24))), (1, .int (iv (tK tq tn i))), (0, .ref (a 0))]) X.1 X.2.1 dX5_personItem_126 hl (by decide) rfl (fun ls hl => ?_)
                    have e9 : p_item tq tn A i = (true, (nwc A (tK tq tn i) v24 (tV tq tn (tE tq tn (tE tq tn i)))), (tE tq tn (tE tq tn (tE tq tn i)))) := by unfold p_item on_item; first | ((repeat (first | rw [if_pos (by omega)] | rw [if_neg (by omega)])); done) | ((repeat (first | rw [if_pos (by omega)] | rw [if_neg (by omega)])); rfl) | (exfalso; omega)
                    have h : St E _ s H locs (wM E a (mc29, kp, wa, (iv (ik)), fd, gf, tp, (iv (tn)), (iv (tK tq tn (tE tq tn (tE tq tn (tE tq tn i))))), (iv (tS tq tn (tE tq tn (tE tq tn (tE tq tn i))))), (iv (tE tq tn (tE tq tn (tE tq tn (tE tq tn i))))), (iv (v28)), (iv (0)), bt, sz, cl)) := h
                    exact ret _ _ _ _ (mc29, v28) (by rw [e9]; exact h) (by rw [e9]; exact ⟨hR29, hIn, rfl, cv28, fun _ => (show i < (tE tq tn (tE tq tn (tE tq tn i))) by omega), (show i ≤ (tE tq tn (tE tq tn (tE tq tn i))) by omega), (show (tE tq tn (tE tq tn (tE tq tn i))) ≤ tn by omega)⟩) dX5_personItem_128
                · have cp30 := cpx
                  refine z_ai h (run_V (rest := []) X h (c_X5_number_n (i := (tE tq tn (tE tq tn i))) (mx := 9) hT (by omega) (by omega) cv24 (by omega) (by omega) cp30) mi_X5_number ml_X5_193 ⟨Nat.le_of_ble_eq_true rfl, Nat.le_of_ble_eq_true rfl⟩ ⟨rfl, rfl⟩ (Seg.rfl' _) 4 0 rfl rfl rfl rfl hl.1 rfl (Nat.le_of_ble_eq_true rfl) ⟨Nat.zero_le _, Nat.zero_le _⟩ dX5_personItem_108) (fun _ => wM_map _ _ _ _) (fun r u_ H locs hp h => ?_)
                  subst hp
                  have h : St E _ s H locs (wM E a (mm, kp, wa, (iv (ik)), fd, gf, tp, (iv (tn)), (iv (tK tq tn (tE tq tn (tE tq tn i)))), (iv (tS tq tn (tE tq tn (tE tq tn i)))), (iv (tE tq tn (tE tq tn (tE tq tn i)))), (iv (v24)), (iv (1)), bt, sz, cl)) := h
                  refine lv_istore_n (lv' := [(3, .int (iv (v24))), (2, .int (iv (v24))), (1, .int (iv (tK tq tn i))), (0, .ref (a 0))]) X.1 X.2.1 dX5_personItem_111 rfl hl (by decide) rfl (fun ls hl => ?_)
                  refine lv_aload_n X.1 X.2.1 dX5_personItem_112 rfl (lv_at hl 3 rfl) ?_
                  refine z_get X h 4 0 12 rfl inX5 rfl (by decide) fl_X5_183 rfl dX5_personItem_113 ?_
                  refine z_if_ne (tgt := 128) X ⟨by decide, by decide⟩ dX5_personItem_116 (by decide) (fun c_116 => ?_) (fun c_116 => ?_)
                  · have e9 : p_item tq tn A i = (false, A, (tE tq tn (tE tq tn i))) := by unfold p_item on_item; first | ((repeat (first | rw [if_pos (by omega)] | rw [if_neg (by omega)])); done) | ((repeat (first | rw [if_pos (by omega)] | rw [if_neg (by omega)])); rfl) | (exfalso; omega)
                    have h : St E _ s H locs (wM E a (mm, kp, wa, (iv (ik)), fd, gf, tp, (iv (tn)), (iv (tK tq tn (tE tq tn (tE tq tn i)))), (iv (tS tq tn (tE tq tn (tE tq tn i)))), (iv (tE tq tn (tE tq tn (tE tq tn i)))), (iv (v24)), (iv (1)), bt, sz, cl)) := h
                    exact ret _ _ _ _ (mm, v24) (by rw [e9]; exact h) (by rw [e9]; exact ⟨hR, hI, rfl, cv24, fun q => absurd q (show ¬ false = true by decide), (show i ≤ (tE tq tn (tE tq tn i)) by omega), (show (tE tq tn (tE tq tn i)) ≤ tn by omega)⟩) dX5_personItem_128
                  · exact absurd c_116 (by decide)
              · refine lv_aload_n X.1 X.2.1 dX5_personItem_85 rfl (lv_at hl 3 rfl) ?_
                have ev := CV_eq cv24 (m := 9) (by omega) (by omega)
                have eo : onC A (tV tq tn (tE tq tn (tE tq tn i))) = onC A v24 := by rw [ev]
                have oc := onC_rng hI v24
                refine lv_aload_n X.1 X.2.1 dX5_personItem_86 rfl (lv_at hl 3 rfl) ?_
                refine z_get X h 4 0 11 rfl inX5 rfl (by decide) fl_X5_174 rfl dX5_personItem_87 ?_
                refine z_pi (run_V (rest := [.ref (a 0)]) X h (c_X5_onChair (ch := v24) hR hI ⟨by omega, by omega⟩) mi_X5_onChair ml_X5_59 ⟨Nat.le_of_ble_eq_true rfl, Nat.le_of_ble_eq_true rfl⟩ ⟨rfl, rfl⟩ (Seg.rfl' _) 4 0 rfl rfl rfl rfl hl.1 rfl (Nat.le_of_ble_eq_true rfl) ⟨Nat.zero_le _, Nat.zero_le _⟩ dX5_personItem_90) ?_
                refine z_if_lt (tgt := 100) X ⟨by omega, by omega⟩ dX5_personItem_93 (by decide) (fun c_93 => ?_) (fun c_93 => ?_)
                · refine z_iconst X dX5_personItem_100 ?_
                  refine z_put X h 4 0 12 rfl inX5 tyX5 tyX5_ok nmX5 rfl (by decide) fl_X5_183 rfl (by decide) (by decide) (Nat.le_of_ble_eq_true rfl) dX5_personItem_101 (fun H locs h => ?_)
                  have h : St E _ s H locs (wM E a (mm, kp, wa, (iv (ik)), fd, gf, tp, (iv (tn)), (iv (tK tq tn (tE tq tn (tE tq tn i)))), (iv (tS tq tn (tE tq tn (tE tq tn i)))), (iv (tE tq tn (tE tq tn (tE tq tn i)))), (iv (v24)), (iv (0)), bt, sz, cl)) := h
                  have vm := CV_le cv24 (m := 9) (by omega)
                  refine lv_aload_n X.1 X.2.1 dX5_personItem_104 rfl (lv_at hl 3 rfl) ?_
                  refine z_iconst X dX5_personItem_105 ?_
                  refine z_bipush X (by decide) dX5_personItem_106 ?_
                  by_cases cpx : tK tq tn (tE tq tn (tE tq tn i)) = 20 ∧ tV tq tn (tE tq tn (tE tq tn i)) ≤ 9
                  · have cp31 := cpx
                    have cm31 := CV_nn cv24
                    refine z_ai h (run_V (rest := []) X h (c_X5_number_y (i := (tE tq tn (tE tq tn i))) (mx := 9) hT (by omega) (by omega) cv24 (by omega) (by omega) cp31.1 cp31.2) mi_X5_number ml_X5_193 ⟨Nat.le_of_ble_eq_true rfl, Nat.le_of_ble_eq_true rfl⟩ ⟨rfl, rfl⟩ (Seg.rfl' _) 4 0 rfl rfl rfl rfl hl.1 rfl (Nat.le_of_ble_eq_true rfl) ⟨Nat.zero_le _, Nat.zero_le _⟩ dX5_personItem_108) (fun _ => wM_map _ _ _ _) (fun r v31 H locs hp h => ?_)
                    obtain ⟨rfl, cv31⟩ := hp
                    have h : St E _ s H locs (wM E a (mm, kp, wa, (iv (ik)), fd, gf, tp, (iv (tn)), (iv (tK tq tn (tE tq tn (tE tq tn (tE tq tn i))))), (iv (tS tq tn (tE tq tn (tE tq tn (tE tq tn i))))), (iv (tE tq tn (tE tq tn (tE tq tn (tE tq tn i))))), (iv (v31)), (iv (0)), bt, sz, cl)) := h
                    have tr31 := tok_rng tq (tn := tn) (i := (tE tq tn (tE tq tn (tE tq tn i)))) (by omega) (by omega)
                    have cr31 := cv31.1
                    have cq31 := cv31.2.1
                    have cn31 := CV_nn cv31
                    refine lv_istore_n (lv' := [(3, .int (iv (tV tq tn (tE tq tn (tE tq tn i))))), (2, .int (iv (v24))), (1, .int (iv (tK tq tn i))), (0, .ref (a 0))]) X.1 X.2.1 dX5_personItem_111 rfl hl (by decide) rfl (fun ls hl => ?_)
                    refine lv_aload_n X.1 X.2.1 dX5_personItem_112 rfl (lv_at hl 3 rfl) ?_
                    refine z_get X h 4 0 12 rfl inX5 rfl (by decide) fl_X5_183 rfl dX5_personItem_113 ?_
                    refine z_if_ne (tgt := 128) X ⟨by decide, by decide⟩ dX5_personItem_116 (by decide) (fun c_116 => ?_) (fun c_116 => ?_)
                    · exact absurd c_116 (by decide)
                    · refine lv_aload_n X.1 X.2.1 dX5_personItem_119 rfl (lv_at hl 3 rfl) ?_
                      refine lv_iload_n X.1 X.2.1 dX5_personItem_120 rfl (lv_at hl 2 rfl) ?_
                      refine lv_iload_n X.1 X.2.1 dX5_personItem_121 rfl (lv_at hl 1 rfl) ?_
                      refine lv_iload_n X.1 X.2.1 dX5_personItem_122 rfl (lv_at hl 0 rfl) ?_
                      refine z_ai h (run_V (rest := []) X h (c_X5_comesAs (k := (tK tq tn i)) (b := v24) (ch := (tV tq tn (tE tq tn (tE tq tn i)))) hR hI.n0 (by omega)) mi_X5_comesAs ml_X5_96 ⟨Nat.le_of_ble_eq_true rfl, Nat.le_of_ble_eq_true rfl⟩ ⟨rfl, rfl⟩ (Seg.rfl' _) 4 0 rfl rfl rfl rfl hl.1 rfl (Nat.le_of_ble_eq_true rfl) ⟨Nat.zero_le _, Nat.zero_le _⟩ dX5_personItem_123) (fun _ => wM_map _ _ _ _) (fun r mc32 H locs hp h => ?_)
                      have h : St E _ s H locs (wM E a (mc32, kp, wa, (iv (ik)), fd, gf, tp, (iv (tn)), (iv (tK tq tn (tE tq tn (tE tq tn (tE tq tn i))))), (iv (tS tq tn (tE tq tn (tE tq tn (tE tq tn i))))), (iv (tE tq tn (tE tq tn (tE tq tn (tE tq tn i))))), (iv (v31)), (iv (0)), bt, sz, cl)) := h
                      obtain ⟨rfl, hR32⟩ := hp
                      have hIn : IA (nwc A (tK tq tn i) v24 (tV tq tn (tE tq tn (tE tq tn i)))) := IA_nwc hI (by omega) (by omega) (by omega) (by omega) (by omega) (by omega) (by omega) (by omega)
                      refine lv_istore (lv' := [(4, .int (iv (pe A))), (3, .int (iv (tV tq tn (tE tq tn (tE tq tn i))))), (2, .int (iv (v24))), (1, .int (iv (tK tq tn i))), (0, .ref (a 0))]) X.1 X.2.1 dX5_personItem_126 hl (by decide) rfl (fun ls hl => ?_)
                      have e9 : p_item tq tn A i = (true, (nwc A (tK tq tn i) v24 (tV tq tn (tE tq tn (tE tq tn i)))), (tE tq tn (tE tq tn (tE tq tn i)))) := by unfold p_item on_item; first | ((repeat (first | rw [if_pos (by omega)] | rw [if_neg (by omega)])); done) | ((repeat (first | rw [if_pos (by omega)] | rw [if_neg (by omega)])); rfl) | (exfalso; omega)
                      have h : St E _ s H locs (wM E a (mc32, kp, wa, (iv (ik)), fd, gf, tp, (iv (tn)), (iv (tK tq tn (tE tq tn (tE tq tn (tE tq tn i))))), (iv (tS tq tn (tE tq tn (tE tq tn (tE tq tn i))))), (iv (tE tq tn (tE tq tn (tE tq tn (tE tq tn i))))), (iv (v31)), (iv (0)), bt, sz, cl)) := h
                      exact ret _ _ _ _ (mc32, v31) (by rw [e9]; exact h) (by rw [e9]; exact ⟨hR32, hIn, rfl, cv31, fun _ => (show i < (tE tq tn (tE tq tn (tE tq tn i))) by omega), (show i ≤ (tE tq tn (tE tq tn (tE tq tn i))) by omega), (show (tE tq tn (tE tq tn (tE tq tn i))) ≤ tn by omega)⟩) dX5_personItem_128
                  · have cp33 := cpx
                    refine z_ai h (run_V (rest := []) X h (c_X5_number_n (i := (tE tq tn (tE tq tn i))) (mx := 9) hT (by omega) (by omega) cv24 (by omega) (by omega) cp33) mi_X5_number ml_X5_193 ⟨Nat.le_of_ble_eq_true rfl, Nat.le_of_ble_eq_true rfl⟩ ⟨rfl, rfl⟩ (Seg.rfl' _) 4 0 rfl rfl rfl rfl hl.1 rfl (Nat.le_of_ble_eq_true rfl) ⟨Nat.zero_le _, Nat.zero_le _⟩ dX5_personItem_108) (fun _ => wM_map _ _ _ _) (fun r u_ H locs hp h => ?_)
                    subst hp
                    have h : St E _ s H locs (wM E a (mm, kp, wa, (iv (ik)), fd, gf, tp, (iv (tn)), (iv (tK tq tn (tE tq tn (tE tq tn i)))), (iv (tS tq tn (tE tq tn (tE tq tn i)))), (iv (tE tq tn (tE tq tn (tE tq tn i)))), (iv (v24)), (iv (1)), bt, sz, cl)) := h
                    refine lv_istore_n (lv' := [(3, .int (iv (v24))), (2, .int (iv (v24))), (1, .int (iv (tK tq tn i))), (0, .ref (a 0))]) X.1 X.2.1 dX5_personItem_111 rfl hl (by decide) rfl (fun ls hl => ?_)
                    refine lv_aload_n X.1 X.2.1 dX5_personItem_112 rfl (lv_at hl 3 rfl) ?_
                    refine z_get X h 4 0 12 rfl inX5 rfl (by decide) fl_X5_183 rfl dX5_personItem_113 ?_
                    refine z_if_ne (tgt := 128) X ⟨by decide, by decide⟩ dX5_personItem_116 (by decide) (fun c_116 => ?_) (fun c_116 => ?_)
                    · have e9 : p_item tq tn A i = (false, A, (tE tq tn (tE tq tn i))) := by unfold p_item on_item; first | ((repeat (first | rw [if_pos (by omega)] | rw [if_neg (by omega)])); done) | ((repeat (first | rw [if_pos (by omega)] | rw [if_neg (by omega)])); rfl) | (exfalso; omega)
                      have h : St E _ s H locs (wM E a (mm, kp, wa, (iv (ik)), fd, gf, tp, (iv (tn)), (iv (tK tq tn (tE tq tn (tE tq tn i)))), (iv (tS tq tn (tE tq tn (tE tq tn i)))), (iv (tE tq tn (tE tq tn (tE tq tn i)))), (iv (v24)), (iv (1)), bt, sz, cl)) := h
                      exact ret _ _ _ _ (mm, v24) (by rw [e9]; exact h) (by rw [e9]; exact ⟨hR, hI, rfl, cv24, fun q => absurd q (show ¬ false = true by decide), (show i ≤ (tE tq tn (tE tq tn i)) by omega), (show (tE tq tn (tE tq tn i)) ≤ tn by omega)⟩) dX5_personItem_128
                    · exact absurd c_116 (by decide)
                · refine z_iconst X dX5_personItem_96 ?_
                  refine lv_goto (tgt := 101) X.1 X.2.1 dX5_personItem_97 (by decide) ?_
                  refine z_put X h 4 0 12 rfl inX5 tyX5 tyX5_ok nmX5 rfl (by decide) fl_X5_183 rfl (by decide) (by decide) (Nat.le_of_ble_eq_true rfl) dX5_personItem_101 (fun H locs h => ?_)
                  have h : St E _ s H locs (wM E a (mm, kp, wa, (iv (ik)), fd, gf, tp, (iv (tn)), (iv (tK tq tn (tE tq tn (tE tq tn i)))), (iv (tS tq tn (tE tq tn (tE tq tn i)))), (iv (tE tq tn (tE tq tn (tE tq tn i)))), (iv (v24)), (iv (1)), bt, sz, cl)) := h
                  have vm := CV_le cv24 (m := 9) (by omega)
                  refine lv_aload_n X.1 X.2.1 dX5_personItem_104 rfl (lv_at hl 3 rfl) ?_
                  refine z_iconst X dX5_personItem_105 ?_
                  refine z_bipush X (by decide) dX5_personItem_106 ?_
                  refine z_ai h (run_V (rest := []) X h (c_X5_number_b (i := (tE tq tn (tE tq tn i))) (mx := 9) hT (by omega) (by omega) cv24 (by omega) (by omega)) mi_X5_number ml_X5_193 ⟨Nat.le_of_ble_eq_true rfl, Nat.le_of_ble_eq_true rfl⟩ ⟨rfl, rfl⟩ (Seg.rfl' _) 4 0 rfl rfl rfl rfl hl.1 rfl (Nat.le_of_ble_eq_true rfl) ⟨Nat.zero_le _, Nat.zero_le _⟩ dX5_personItem_108) (fun _ => wM_map _ _ _ _) (fun r u_ H locs hp h => ?_)
                  subst hp
                  have h : St E _ s H locs (wM E a (mm, kp, wa, (iv (ik)), fd, gf, tp, (iv (tn)), (iv (tK tq tn (tE tq tn (tE tq tn i)))), (iv (tS tq tn (tE tq tn (tE tq tn i)))), (iv (tE tq tn (tE tq tn (tE tq tn i)))), (iv (v24)), (iv (1)), bt, sz, cl)) := h
                  refine lv_istore_n (lv' := [(3, .int (iv (v24))), (2, .int (iv (v24))), (1, .int (iv (tK tq tn i))), (0, .ref (a 0))]) X.1 X.2.1 dX5_personItem_111 rfl hl (by decide) rfl (fun ls hl => ?_)
                  refine lv_aload_n X.1 X.2.1 dX5_personItem_112 rfl (lv_at hl 3 rfl) ?_
                  refine z_get X h 4 0 12 rfl inX5 rfl (by decide) fl_X5_183 rfl dX5_personItem_113 ?_
                  refine z_if_ne (tgt := 128) X ⟨by decide, by decide⟩ dX5_personItem_116 (by decide) (fun c_116 => ?_) (fun c_116 => ?_)
                  · have e9 : p_item tq tn A i = (false, A, (tE tq tn (tE tq tn i))) := by unfold p_item on_item; first | ((repeat (first | rw [if_pos (by omega)] | rw [if_neg (by omega)])); done) | ((repeat (first | rw [if_pos (by omega)] | rw [if_neg (by omega)])); rfl) | (exfalso; omega)
                    have h : St E _ s H locs (wM E a (mm, kp, wa, (iv (ik)), fd, gf, tp, (iv (tn)), (iv (tK tq tn (tE tq tn (tE tq tn i)))), (iv (tS tq tn (tE tq tn (tE tq tn i)))), (iv (tE tq tn (tE tq tn (tE tq tn i)))), (iv (v24)), (iv (1)), bt, sz, cl)) := h
                    exact ret _ _ _ _ (mm, v24) (by rw [e9]; exact h) (by rw [e9]; exact ⟨hR, hI, rfl, cv24, fun q => absurd q (show ¬ false = true by decide), (show i ≤ (tE tq tn (tE tq tn i)) by omega), (show (tE tq tn (tE tq tn i)) ≤ tn by omega)⟩) dX5_personItem_128
                  · exact absurd c_116 (by decide)
      · refine z_pi (run_V (rest := []) X h (c_X5_perhaps_n (i := (tE tq tn i)) (wd := 6) (mx := 200) (so := 20) hT (by omega) (by omega) cv1 ⟨by decide, by decide⟩ ⟨by decide, by decide⟩ cpk) mi_X5_perhaps ml_X5_196 ⟨Nat.le_of_ble_eq_true rfl, Nat.le_of_ble_eq_true rfl⟩ ⟨rfl, rfl⟩ (Seg.rfl' _) 4 0 rfl rfl rfl rfl hl.1 rfl (Nat.le_of_ble_eq_true rfl) ⟨Nat.zero_le _, Nat.zero_le _⟩ dX5_personItem_46) ?_
        refine lv_istore_n (lv' := [(2, .int (iv (20))), (1, .int (iv (tK tq tn i))), (0, .ref (a 0))]) X.1 X.2.1 dX5_personItem_49 rfl hl (by decide) rfl (fun ls hl => ?_)
        refine z_iconst X dX5_personItem_50 ?_
        refine lv_istore_n (lv' := [(3, .int (iv ((-1)))), (2, .int (iv (20))), (1, .int (iv (tK tq tn i))), (0, .ref (a 0))]) X.1 X.2.1 dX5_personItem_51 rfl hl (by decide) rfl (fun ls hl => ?_)
        refine lv_aload_n X.1 X.2.1 dX5_personItem_52 rfl (lv_at hl 3 rfl) ?_
        refine z_bipush X (by decide) dX5_personItem_53 ?_
        by_cases cpx : tK tq tn (tE tq tn i) = 7
        · have cp34 := cpx
          refine z_ai h (run_V (rest := []) X h (c_X5_passes_y (i := (tE tq tn i)) (wd := 7) hT (by omega) (by omega) cv1 ⟨by decide, by decide⟩ cp34) mi_X5_passes ml_X5_190 ⟨Nat.le_of_ble_eq_true rfl, Nat.le_of_ble_eq_true rfl⟩ ⟨rfl, rfl⟩ (Seg.rfl' _) 4 0 rfl rfl rfl rfl hl.1 rfl (Nat.le_of_ble_eq_true rfl) ⟨Nat.zero_le _, Nat.zero_le _⟩ dX5_personItem_55) (fun _ => wM_map _ _ _ _) (fun r v34 H locs hp h => ?_)
          obtain ⟨rfl, cv34⟩ := hp
          have h : St E _ s H locs (wM E a (mm, kp, wa, (iv (ik)), fd, gf, tp, (iv (tn)), (iv (tK tq tn (tE tq tn (tE tq tn i)))), (iv (tS tq tn (tE tq tn (tE tq tn i)))), (iv (tE tq tn (tE tq tn (tE tq tn i)))), (iv (v34)), (iv (0)), bt, sz, cl)) := h
          have tr34 := tok_rng tq (tn := tn) (i := (tE tq tn (tE tq tn i))) (by omega) (by omega)
          have cr34 := cv34.1
          have cq34 := cv34.2.1
          have cn34 := CV_nn cv34
          refine z_if_eq (tgt := 112) X ⟨by decide, by decide⟩ dX5_personItem_58 (by decide) (fun c_58 => ?_) (fun c_58 => ?_)
          · exact absurd c_58 (by decide)
          · refine lv_aload_n X.1 X.2.1 dX5_personItem_61 rfl (lv_at hl 3 rfl) ?_
            refine lv_aload_n X.1 X.2.1 dX5_personItem_62 rfl (lv_at hl 3 rfl) ?_
            refine z_get X h 4 0 8 rfl inX5 rfl (by decide) fl_X5_177 rfl dX5_personItem_63 ?_
            refine z_bipush X (by decide) dX5_personItem_66 ?_
            refine z_ic_ne (tgt := 100) X ⟨by omega, by omega⟩ ⟨by decide, by decide⟩ dX5_personItem_68 (by decide) (fun c_68 => ?_) (fun c_68 => ?_)
            · refine z_iconst X dX5_personItem_100 ?_
              refine z_put X h 4 0 12 rfl inX5 tyX5 tyX5_ok nmX5 rfl (by decide) fl_X5_183 rfl (by decide) (by decide) (Nat.le_of_ble_eq_true rfl) dX5_personItem_101 (fun H locs h => ?_)
              have h : St E _ s H locs (wM E a (mm, kp, wa, (iv (ik)), fd, gf, tp, (iv (tn)), (iv (tK tq tn (tE tq tn (tE tq tn i)))), (iv (tS tq tn (tE tq tn (tE tq tn i)))), (iv (tE tq tn (tE tq tn (tE tq tn i)))), (iv (v34)), (iv (0)), bt, sz, cl)) := h
              have vm := CV_le cv34 (m := 9) (by omega)
              refine lv_aload_n X.1 X.2.1 dX5_personItem_104 rfl (lv_at hl 3 rfl) ?_
              refine z_iconst X dX5_personItem_105 ?_
              refine z_bipush X (by decide) dX5_personItem_106 ?_
              by_cases cpx : tK tq tn (tE tq tn (tE tq tn i)) = 20 ∧ tV tq tn (tE tq tn (tE tq tn i)) ≤ 9
              · have cp35 := cpx
                have cm35 := CV_nn cv34
                refine z_ai h (run_V (rest := []) X h (c_X5_number_y (i := (tE tq tn (tE tq tn i))) (mx := 9) hT (by omega) (by omega) cv34 (by omega) (by omega) cp35.1 cp35.2) mi_X5_number ml_X5_193 ⟨Nat.le_of_ble_eq_true rfl, Nat.le_of_ble_eq_true rfl⟩ ⟨rfl, rfl⟩ (Seg.rfl' _) 4 0 rfl rfl rfl rfl hl.1 rfl (Nat.le_of_ble_eq_true rfl) ⟨Nat.zero_le _, Nat.zero_le _⟩ dX5_personItem_108) (fun _ => wM_map _ _ _ _) (fun r v35 H locs hp h => ?_)
                obtain ⟨rfl, cv35⟩ := hp
                have h : St E _ s H locs (wM E a (mm, kp, wa, (iv (ik)), fd, gf, tp, (iv (tn)), (iv (tK tq tn (tE tq tn (tE tq tn (tE tq tn i))))), (iv (tS tq tn (tE tq tn (tE tq tn (tE tq tn i))))), (iv (tE tq tn (tE tq tn (tE tq tn (tE tq tn i))))), (iv (v35)), (iv (0)), bt, sz, cl)) := h
                have tr35 := tok_rng tq (tn := tn) (i := (tE tq tn (tE tq tn (tE tq tn i)))) (by omega) (by omega)
                have cr35 := cv35.1
                have cq35 := cv35.2.1
                have cn35 := CV_nn cv35
                refine lv_istore_n (lv' := [(3, .int (iv (tV tq tn (tE tq tn (tE tq tn i))))), (2, .int (iv (20))), (1, .int (iv (tK tq tn i))), (0, .ref (a 0))]) X.1 X.2.1 dX5_personItem_111 rfl hl (by decide) rfl (fun ls hl => ?_)
                refine lv_aload_n X.1 X.2.1 dX5_personItem_112 rfl (lv_at hl 3 rfl) ?_
                refine z_get X h 4 0 12 rfl inX5 rfl (by decide) fl_X5_183 rfl dX5_personItem_113 ?_
                refine z_if_ne (tgt := 128) X ⟨by decide, by decide⟩ dX5_personItem_116 (by decide) (fun c_116 => ?_) (fun c_116 => ?_)
                · exact absurd c_116 (by decide)
                · refine lv_aload_n X.1 X.2.1 dX5_personItem_119 rfl (lv_at hl 3 rfl) ?_
                  refine lv_iload_n X.1 X.2.1 dX5_personItem_120 rfl (lv_at hl 2 rfl) ?_
                  refine lv_iload_n X.1 X.2.1 dX5_personItem_121 rfl (lv_at hl 1 rfl) ?_
                  refine lv_iload_n X.1 X.2.1 dX5_personItem_122 rfl (lv_at hl 0 rfl) ?_
                  refine z_ai h (run_V (rest := []) X h (c_X5_comesAs (k := (tK tq tn i)) (b := 20) (ch := (tV tq tn (tE tq tn (tE tq tn i)))) hR hI.n0 (by omega)) mi_X5_comesAs ml_X5_96 ⟨Nat.le_of_ble_eq_true rfl, Nat.le_of_ble_eq_true rfl⟩ ⟨rfl, rfl⟩ (Seg.rfl' _) 4 0 rfl rfl rfl rfl hl.1 rfl (Nat.le_of_ble_eq_true rfl) ⟨Nat.zero_le _, Nat.zero_le _⟩ dX5_personItem_123) (fun _ => wM_map _ _ _ _) (fun r mc36 H locs hp h => ?_)
                  have h : St E _ s H locs (wM E a (mc36, kp, wa, (iv (ik)), fd, gf, tp, (iv (tn)), (iv (tK tq tn (tE tq tn (tE tq tn (tE tq tn i))))), (iv (tS tq tn (tE tq tn (tE tq tn (tE tq tn i))))), (iv (tE tq tn (tE tq tn (tE tq tn (tE tq tn i))))), (iv (v35)), (iv (0)), bt, sz, cl)) := h
                  obtain ⟨rfl, hR36⟩ := hp
                  have hIn : IA (nwc A (tK tq tn i) 20 (tV tq tn (tE tq tn (tE tq tn i)))) := IA_nwc hI (by omega) (by omega) (by omega) (by omega) (by omega) (by omega) (by omega) (by omega)
                  refine lv_istore (lv' := [(4, .int (iv (pe A))), (3, .int (iv (tV tq tn (tE tq tn (tE tq tn i))))), (2, .int (iv (20))), (1, .int (iv (tK tq tn i))), (0, .ref (a 0))]) X.1 X.2.1 dX5_personItem_126 hl (by decide) rfl (fun ls hl => ?_)
                  have e9 : p_item tq tn A i = (true, (nwc A (tK tq tn i) 20 (tV tq tn (tE tq tn (tE tq tn i)))), (tE tq tn (tE tq tn (tE tq tn i)))) := by unfold p_item on_item; first | ((repeat (first | rw [if_pos (by omega)] | rw [if_neg (by omega)])); done) | ((repeat (first | rw [if_pos (by omega)] | rw [if_neg (by omega)])); rfl) | (exfalso; omega)
                  have h : St E _ s H locs (wM E a (mc36, kp, wa, (iv (ik)), fd, gf, tp, (iv (tn)), (iv (tK tq tn (tE tq tn (tE tq tn (tE tq tn i))))), (iv (tS tq tn (tE tq tn (tE tq tn (tE tq tn i))))), (iv (tE tq tn (tE tq tn (tE tq tn (tE tq tn i))))), (iv (v35)), (iv (0)), bt, sz, cl)) := h
                  exact ret _ _ _ _ (mc36, v35) (by rw [e9]; exact h) (by rw [e9]; exact ⟨hR36, hIn, rfl, cv35, fun _ => (show i < (tE tq tn (tE tq tn (tE tq tn i))) by omega), (show i ≤ (tE tq tn (tE tq tn (tE tq tn i))) by omega), (show (tE tq tn (tE tq tn (tE tq tn i))) ≤ tn by omega)⟩) dX5_personItem_128
              · have cp37 := cpx
                refine z_ai h (run_V (rest := []) X h (c_X5_number_n (i := (tE tq tn (tE tq tn i))) (mx := 9) hT (by omega) (by omega) cv34 (by omega) (by omega) cp37) mi_X5_number ml_X5_193 ⟨Nat.le_of_ble_eq_true rfl, Nat.le_of_ble_eq_true rfl⟩ ⟨rfl, rfl⟩ (Seg.rfl' _) 4 0 rfl rfl rfl rfl hl.1 rfl (Nat.le_of_ble_eq_true rfl) ⟨Nat.zero_le _, Nat.zero_le _⟩ dX5_personItem_108) (fun _ => wM_map _ _ _ _) (fun r u_ H locs hp h => ?_)
                subst hp
                have h : St E _ s H locs (wM E a (mm, kp, wa, (iv (ik)), fd, gf, tp, (iv (tn)), (iv (tK tq tn (tE tq tn (tE tq tn i)))), (iv (tS tq tn (tE tq tn (tE tq tn i)))), (iv (tE tq tn (tE tq tn (tE tq tn i)))), (iv (v34)), (iv (1)), bt, sz, cl)) := h
                refine lv_istore_n (lv' := [(3, .int (iv (v34))), (2, .int (iv (20))), (1, .int (iv (tK tq tn i))), (0, .ref (a 0))]) X.1 X.2.1 dX5_personItem_111 rfl hl (by decide) rfl (fun ls hl => ?_)
                refine lv_aload_n X.1 X.2.1 dX5_personItem_112 rfl (lv_at hl 3 rfl) ?_
                refine z_get X h 4 0 12 rfl inX5 rfl (by decide) fl_X5_183 rfl dX5_personItem_113 ?_
                refine z_if_ne (tgt := 128) X ⟨by decide, by decide⟩ dX5_personItem_116 (by decide) (fun c_116 => ?_) (fun c_116 => ?_)
                · have e9 : p_item tq tn A i = (false, A, (tE tq tn (tE tq tn i))) := by unfold p_item on_item; first | ((repeat (first | rw [if_pos (by omega)] | rw [if_neg (by omega)])); done) | ((repeat (first | rw [if_pos (by omega)] | rw [if_neg (by omega)])); rfl) | (exfalso; omega)
                  have h : St E _ s H locs (wM E a (mm, kp, wa, (iv (ik)), fd, gf, tp, (iv (tn)), (iv (tK tq tn (tE tq tn (tE tq tn i)))), (iv (tS tq tn (tE tq tn (tE tq tn i)))), (iv (tE tq tn (tE tq tn (tE tq tn i)))), (iv (v34)), (iv (1)), bt, sz, cl)) := h
                  exact ret _ _ _ _ (mm, v34) (by rw [e9]; exact h) (by rw [e9]; exact ⟨hR, hI, rfl, cv34, fun q => absurd q (show ¬ false = true by decide), (show i ≤ (tE tq tn (tE tq tn i)) by omega), (show (tE tq tn (tE tq tn i)) ≤ tn by omega)⟩) dX5_personItem_128
                · exact absurd c_116 (by decide)
            · refine lv_aload_n X.1 X.2.1 dX5_personItem_71 rfl (lv_at hl 3 rfl) ?_
              refine z_get X h 4 0 11 rfl inX5 rfl (by decide) fl_X5_174 rfl dX5_personItem_72 ?_
              refine lv_i2l (v := (iv (v34)).toInt64) X.1 X.2.1 dX5_personItem_75 rfl ?_
              refine z_iconst X dX5_personItem_76 ?_
              refine z_bipush X (by decide) dX5_personItem_77 ?_
              refine z_pi (run_S (rest := [.ref (a 0)]) X h (c_inI ⟨by omega, by omega⟩ ⟨by decide, by decide⟩ ⟨by decide, by decide⟩) mi_X5_in ml_X5_44 ⟨Nat.le_of_ble_eq_true rfl, Nat.le_of_ble_eq_true rfl⟩ ⟨rfl, rfl⟩ (Seg.nil _) rfl hl.1 rfl (Nat.le_of_ble_eq_true rfl) ⟨Nat.zero_le _, Nat.zero_le _⟩ dX5_personItem_79) ?_
              refine z_ifb_eq (tgt := 100) X dX5_personItem_82 (by decide) (fun c_82 => ?_) (fun c_82 => ?_)
              · refine z_iconst X dX5_personItem_100 ?_
                refine z_put X h 4 0 12 rfl inX5 tyX5 tyX5_ok nmX5 rfl (by decide) fl_X5_183 rfl (by decide) (by decide) (Nat.le_of_ble_eq_true rfl) dX5_personItem_101 (fun H locs h => ?_)
                have h : St E _ s H locs (wM E a (mm, kp, wa, (iv (ik)), fd, gf, tp, (iv (tn)), (iv (tK tq tn (tE tq tn (tE tq tn i)))), (iv (tS tq tn (tE tq tn (tE tq tn i)))), (iv (tE tq tn (tE tq tn (tE tq tn i)))), (iv (v34)), (iv (0)), bt, sz, cl)) := h
                have vm := CV_le cv34 (m := 9) (by omega)
                refine lv_aload_n X.1 X.2.1 dX5_personItem_104 rfl (lv_at hl 3 rfl) ?_
                refine z_iconst X dX5_personItem_105 ?_
                refine z_bipush X (by decide) dX5_personItem_106 ?_
                by_cases cpx : tK tq tn (tE tq tn (tE tq tn i)) = 20 ∧ tV tq tn (tE tq tn (tE tq tn i)) ≤ 9
                · have cp38 := cpx
                  have cm38 := CV_nn cv34
                  refine z_ai h (run_V (rest := []) X h (c_X5_number_y (i := (tE tq tn (tE tq tn i))) (mx := 9) hT (by omega) (by omega) cv34 (by omega) (by omega) cp38.1 cp38.2) mi_X5_number ml_X5_193 ⟨Nat.le_of_ble_eq_true rfl, Nat.le_of_ble_eq_true rfl⟩ ⟨rfl, rfl⟩ (Seg.rfl' _) 4 0 rfl rfl rfl rfl hl.1 rfl (Nat.le_of_ble_eq_true rfl) ⟨Nat.zero_le _, Nat.zero_le _⟩ dX5_personItem_108) (fun _ => wM_map _ _ _ _) (fun r v38 H locs hp h => ?_)
                  obtain ⟨rfl, cv38⟩ := hp
                  have h : St E _ s H locs (wM E a (mm, kp, wa, (iv (ik)), fd, gf, tp, (iv (tn)), (iv (tK tq tn (tE tq tn (tE tq tn (tE tq tn i))))), (iv (tS tq tn (tE tq tn (tE tq tn (tE tq tn i))))), (iv (tE tq tn (tE tq tn (tE tq tn (tE tq tn i))))), (iv (v38)), (iv (0)), bt, sz, cl)) := h
                  have tr38 := tok_rng tq (tn := tn) (i := (tE tq tn (tE tq tn (tE tq tn i)))) (by omega) (by omega)
                  have cr38 := cv38.1
                  have cq38 := cv38.2.1
                  have cn38 := CV_nn cv38
                  refine lv_istore_n (lv' := [(3, .int (iv (tV tq tn (tE tq tn (tE tq tn i))))), (2, .int (iv (20))), (1, .int (iv (tK tq tn i))), (0, .ref (a 0))]) X.1 X.2.1 dX5_personItem_111 rfl hl (by decide) rfl (fun ls hl => ?_)
                  refine lv_aload_n X.1 X.2.1 dX5_personItem_112 rfl (lv_at hl 3 rfl) ?_
                  refine z_get X h 4 0 12 rfl inX5 rfl (by decide) fl_X5_183 rfl dX5_personItem_113 ?_
                  refine z_if_ne (tgt := 128) X ⟨by decide, by decide⟩ dX5_personItem_116 (by decide) (fun c_116 => ?_) (fun c_116 => ?_)
                  · exact absurd c_116 (by decide)
                  · refine lv_aload_n X.1 X.2.1 dX5_personItem_119 rfl (lv_at hl 3 rfl) ?_
                    refine lv_iload_n X.1 X.2.1 dX5_personItem_120 rfl (lv_at hl 2 rfl) ?_
                    refine lv_iload_n X.1 X.2.1 dX5_personItem_121 rfl (lv_at hl 1 rfl) ?_
                    refine lv_iload_n X.1 X.2.1 dX5_personItem_122 rfl (lv_at hl 0 rfl) ?_
                    refine z_ai h (run_V (rest := []) X h (c_X5_comesAs (k := (tK tq tn i)) (b := 20) (ch := (tV tq tn (tE tq tn (tE tq tn i)))) hR hI.n0 (by omega)) mi_X5_comesAs ml_X5_96 ⟨Nat.le_of_ble_eq_true rfl, Nat.le_of_ble_eq_true rfl⟩ ⟨rfl, rfl⟩ (Seg.rfl' _) 4 0 rfl rfl rfl rfl hl.1 rfl (Nat.le_of_ble_eq_true rfl) ⟨Nat.zero_le _, Nat.zero_le _⟩ dX5_personItem_123) (fun _ => wM_map _ _ _ _) (fun r mc39 H locs hp h => ?_)
                    have h : St E _ s H locs (wM E a (mc39, kp, wa, (iv (ik)), fd, gf, tp, (iv (tn)), (iv (tK tq tn (tE tq tn (tE tq tn (tE tq tn i))))), (iv (tS tq tn (tE tq tn (tE tq tn (tE tq tn i))))), (iv (tE tq tn (tE tq tn (tE tq tn (tE tq tn i))))), (iv (v38)), (iv (0)), bt, sz, cl)) := h
                    obtain ⟨rfl, hR39⟩ := hp
                    have hIn : IA (nwc A (tK tq tn i) 20 (tV tq tn (tE tq tn (tE tq tn i)))) := IA_nwc hI (by omega) (by omega) (by omega) (by omega) (by omega) (by omega) (by omega) (by omega)
                    refine lv_istore (lv' := [(4, .int (iv (pe A))), (3, .int (iv (tV tq tn (tE tq tn (tE tq tn i))))), (2, .int (iv (20))), (1, .int (iv (tK tq tn i))), (0, .ref (a 0))]) X.1 X.2.1 dX5_personItem_126 hl (by decide) rfl (fun ls hl => ?_)
                    have e9 : p_item tq tn A i = (true, (nwc A (tK tq tn i) 20 (tV tq tn (tE tq tn (tE tq tn i)))), (tE tq tn (tE tq tn (tE tq tn i)))) := by unfold p_item on_item; first | ((repeat (first | rw [if_pos (by omega)] | rw [if_neg (by omega)])); done) | ((repeat (first | rw [if_pos (by omega)] | rw [if_neg (by omega)])); rfl) | (exfalso; omega)
                    have h : St E _ s H locs (wM E a (mc39, kp, wa, (iv (ik)), fd, gf, tp, (iv (tn)), (iv (tK tq tn (tE tq tn (tE tq tn (tE tq tn i))))), (iv (tS tq tn (tE tq tn (tE tq tn (tE tq tn i))))), (iv (tE tq tn (tE tq tn (tE tq tn (tE tq tn i))))), (iv (v38)), (iv (0)), bt, sz, cl)) := h
                    exact ret _ _ _ _ (mc39, v38) (by rw [e9]; exact h) (by rw [e9]; exact ⟨hR39, hIn, rfl, cv38, fun _ => (show i < (tE tq tn (tE tq tn (tE tq tn i))) by omega), (show i ≤ (tE tq tn (tE tq tn (tE tq tn i))) by omega), (show (tE tq tn (tE tq tn (tE tq tn i))) ≤ tn by omega)⟩) dX5_personItem_128
                · have cp40 := cpx
                  refine z_ai h (run_V (rest := []) X h (c_X5_number_n (i := (tE tq tn (tE tq tn i))) (mx := 9) hT (by omega) (by omega) cv34 (by omega) (by omega) cp40) mi_X5_number ml_X5_193 ⟨Nat.le_of_ble_eq_true rfl, Nat.le_of_ble_eq_true rfl⟩ ⟨rfl, rfl⟩ (Seg.rfl' _) 4 0 rfl rfl rfl rfl hl.1 rfl (Nat.le_of_ble_eq_true rfl) ⟨Nat.zero_le _, Nat.zero_le _⟩ dX5_personItem_108) (fun _ => wM_map _ _ _ _) (fun r u_ H locs hp h => ?_)
                  subst hp
                  have h : St E _ s H locs (wM E a (mm, kp, wa, (iv (ik)), fd, gf, tp, (iv (tn)), (iv (tK tq tn (tE tq tn (tE tq tn i)))), (iv (tS tq tn (tE tq tn (tE tq tn i)))), (iv (tE tq tn (tE tq tn (tE tq tn i)))), (iv (v34)), (iv (1)), bt, sz, cl)) := h
                  refine lv_istore_n (lv' := [(3, .int (iv (v34))), (2, .int (iv (20))), (1, .int (iv (tK tq tn i))), (0, .ref (a 0))]) X.1 X.2.1 dX5_personItem_111 rfl hl (by decide) rfl (fun ls hl => ?_)
                  refine lv_aload_n X.1 X.2.1 dX5_personItem_112 rfl (lv_at hl 3 rfl) ?_
                  refine z_get X h 4 0 12 rfl inX5 rfl (by decide) fl_X5_183 rfl dX5_personItem_113 ?_
                  refine z_if_ne (tgt := 128) X ⟨by decide, by decide⟩ dX5_personItem_116 (by decide) (fun c_116 => ?_) (fun c_116 => ?_)
                  · have e9 : p_item tq tn A i = (false, A, (tE tq tn (tE tq tn i))) := by unfold p_item on_item; first | ((repeat (first | rw [if_pos (by omega)] | rw [if_neg (by omega)])); done) | ((repeat (first | rw [if_pos (by omega)] | rw [if_neg (by omega)])); rfl) | (exfalso; omega)
                    have h : St E _ s H locs (wM E a (mm, kp, wa, (iv (ik)), fd, gf, tp, (iv (tn)), (iv (tK tq tn (tE tq tn (tE tq tn i)))), (iv (tS tq tn (tE tq tn (tE tq tn i)))), (iv (tE tq tn (tE tq tn (tE tq tn i)))), (iv (v34)), (iv (1)), bt, sz, cl)) := h
                    exact ret _ _ _ _ (mm, v34) (by rw [e9]; exact h) (by rw [e9]; exact ⟨hR, hI, rfl, cv34, fun q => absurd q (show ¬ false = true by decide), (show i ≤ (tE tq tn (tE tq tn i)) by omega), (show (tE tq tn (tE tq tn i)) ≤ tn by omega)⟩) dX5_personItem_128
                  · exact absurd c_116 (by decide)
              · refine lv_aload_n X.1 X.2.1 dX5_personItem_85 rfl (lv_at hl 3 rfl) ?_
                have ev := CV_eq cv34 (m := 9) (by omega) (by omega)
                have eo : onC A (tV tq tn (tE tq tn (tE tq tn i))) = onC A v34 := by rw [ev]
                have oc := onC_rng hI v34
                refine lv_aload_n X.1 X.2.1 dX5_personItem_86 rfl (lv_at hl 3 rfl) ?_
                refine z_get X h 4 0 11 rfl inX5 rfl (by decide) fl_X5_174 rfl dX5_personItem_87 ?_
                refine z_pi (run_V (rest := [.ref (a 0)]) X h (c_X5_onChair (ch := v34) hR hI ⟨by omega, by omega⟩) mi_X5_onChair ml_X5_59 ⟨Nat.le_of_ble_eq_true rfl, Nat.le_of_ble_eq_true rfl⟩ ⟨rfl, rfl⟩ (Seg.rfl' _) 4 0 rfl rfl rfl rfl hl.1 rfl (Nat.le_of_ble_eq_true rfl) ⟨Nat.zero_le _, Nat.zero_le _⟩ dX5_personItem_90) ?_
                refine z_if_lt (tgt := 100) X ⟨by omega, by omega⟩ dX5_personItem_93 (by decide) (fun c_93 => ?_) (fun c_93 => ?_)
                · refine z_iconst X dX5_personItem_100 ?_
                  refine z_put X h 4 0 12 rfl inX5 tyX5 tyX5_ok nmX5 rfl (by decide) fl_X5_183 rfl (by decide) (by decide) (Nat.le_of_ble_eq_true rfl) dX5_personItem_101 (fun H locs h => ?_)
                  have h : St E _ s H locs (wM E a (mm, kp, wa, (iv (ik)), fd, gf, tp, (iv (tn)), (iv (tK tq tn (tE tq tn (tE tq tn i)))), (iv (tS tq tn (tE tq tn (tE tq tn i)))), (iv (tE tq tn (tE tq tn (tE tq tn i)))), (iv (v34)), (iv (0)), bt, sz, cl)) := h
                  have vm := CV_le cv34 (m := 9) (by omega)
                  refine lv_aload_n X.1 X.2.1 dX5_personItem_104 rfl (lv_at hl 3 rfl) ?_
                  refine z_iconst X dX5_personItem_105 ?_
                  refine z_bipush X (by decide) dX5_personItem_106 ?_
                  by_cases cpx : tK tq tn (tE tq tn (tE tq tn i)) = 20 ∧ tV tq tn (tE tq tn (tE tq tn i)) ≤ 9
                  · have cp41 := cpx
                    have cm41 := CV_nn cv34
                    refine z_ai h (run_V (rest := []) X h (c_X5_number_y (i := (tE tq tn (tE tq tn i))) (mx := 9) hT (by omega) (by omega) cv34 (by omega) (by omega) cp41.1 cp41.2) mi_X5_number ml_X5_193 ⟨Nat.le_of_ble_eq_true rfl, Nat.le_of_ble_eq_true rfl⟩ ⟨rfl, rfl⟩ (Seg.rfl' _) 4 0 rfl rfl rfl rfl hl.1 rfl (Nat.le_of_ble_eq_true rfl) ⟨Nat.zero_le _, Nat.zero_le _⟩ dX5_personItem_108) (fun _ => wM_map _ _ _ _) (fun r v41 H locs hp h => ?_)
                    obtain ⟨rfl, cv41⟩ := hp
                    have h : St E _ s H locs (wM E a (mm, kp, wa, (iv (ik)), fd, gf, tp, (iv (tn)), (iv (tK tq tn (tE tq tn (tE tq tn (tE tq tn i))))), (iv (tS tq tn (tE tq tn (tE tq tn (tE tq tn i))))), (iv (tE tq tn (tE tq tn (tE tq tn (tE tq tn i))))), (iv (v41)), (iv (0)), bt, sz, cl)) := h
                    have tr41 := tok_rng tq (tn := tn) (i := (tE tq tn (tE tq tn (tE tq tn i)))) (by omega) (by omega)
                    have cr41 := cv41.1
                    have cq41 := cv41.2.1
                    have cn41 := CV_nn cv41
                    refine lv_istore_n (lv' := [(3, .int (iv (tV tq tn (tE tq tn (tE tq tn i))))), (2, .int (iv (20))), (1, .int (iv (tK tq tn i))), (0, .ref (a 0))]) X.1 X.2.1 dX5_personItem_111 rfl hl (by decide) rfl (fun ls hl => ?_)
                    refine lv_aload_n X.1 X.2.1 dX5_personItem_112 rfl (lv_at hl 3 rfl) ?_
                    refine z_get X h 4 0 12 rfl inX5 rfl (by decide) fl_X5_183 rfl dX5_personItem_113 ?_
                    refine z_if_ne (tgt := 128) X ⟨by decide, by decide⟩ dX5_personItem_116 (by decide) (fun c_116 => ?_) (fun c_116 => ?_)
                    · exact absurd c_116 (by decide)
                    · refine lv_aload_n X.1 X.2.1 dX5_personItem_119 rfl (lv_at hl 3 rfl) ?_
                      refine lv_iload_n X.1 X.2.1 dX5_personItem_120 rfl (lv_at hl 2 rfl) ?_
                      refine lv_iload_n X.1 X.2.1 dX5_personItem_121 rfl (lv_at hl 1 rfl) ?_
                      refine lv_iload_n X.1 X.2.1 dX5_personItem_122 rfl (lv_at hl 0 rfl) ?_
                      refine z_ai h (run_V (rest := []) X h (c_X5_comesAs (k := (tK tq tn i)) (b := 20) (ch := (tV tq tn (tE tq tn (tE tq tn i)))) hR hI.n0 (by omega)) mi_X5_comesAs ml_X5_96 ⟨Nat.le_of_ble_eq_true rfl, Nat.le_of_ble_eq_true rfl⟩ ⟨rfl, rfl⟩ (Seg.rfl' _) 4 0 rfl rfl rfl rfl hl.1 rfl (Nat.le_of_ble_eq_true rfl) ⟨Nat.zero_le _, Nat.zero_le _⟩ dX5_personItem_123) (fun _ => wM_map _ _ _ _) (fun r mc42 H locs hp h => ?_)
                      have h : St E _ s H locs (wM E a (mc42, kp, wa, (iv (ik)), fd, gf, tp, (iv (tn)), (iv (tK tq tn (tE tq tn (tE tq tn (tE tq tn i))))), (iv (tS tq tn (tE tq tn (tE tq tn (tE tq tn i))))), (iv (tE tq tn (tE tq tn (tE tq tn (tE tq tn i))))), (iv (v41)), (iv (0)), bt, sz, cl)) := h
                      obtain ⟨rfl, hR42⟩ := hp
                      have hIn : IA (nwc A (tK tq tn i) 20 (tV tq tn (tE tq tn (tE tq tn i)))) := IA_nwc hI (by omega) (by omega) (by omega) (by omega) (by omega) (by omega) (by omega) (by omega)
                      refine lv_istore (lv' := [(4, .int (iv (pe A))), (3, .int (iv (tV tq tn (tE tq tn (tE tq tn i))))), (2, .int (iv (20))), (1, .int (iv (tK tq tn i))), (0, .ref (a 0))]) X.1 X.2.1 dX5_personItem_126 hl (by decide) rfl (fun ls hl => ?_)
                      have e9 : p_item tq tn A i = (true, (nwc A (tK tq tn i) 20 (tV tq tn (tE tq tn (tE tq tn i)))), (tE tq tn (tE tq tn (tE tq tn i)))) := by unfold p_item on_item; first | ((repeat (first | rw [if_pos (by omega)] | rw [if_neg (by omega)])); done) | ((repeat (first | rw [if_pos (by omega)] | rw [if_neg (by omega)])); rfl) | (exfalso; omega)
                      have h : St E _ s H locs (wM E a (mc42, kp, wa, (iv (ik)), fd, gf, tp, (iv (tn)), (iv (tK tq tn (tE tq tn (tE tq tn (tE tq tn i))))), (iv (tS tq tn (tE tq tn (tE tq tn (tE tq tn i))))), (iv (tE tq tn (tE tq tn (tE tq tn (tE tq tn i))))), (iv (v41)), (iv (0)), bt, sz, cl)) := h
                      exact ret _ _ _ _ (mc42, v41) (by rw [e9]; exact h) (by rw [e9]; exact ⟨hR42, hIn, rfl, cv41, fun _ => (show i < (tE tq tn (tE tq tn (tE tq tn i))) by omega), (show i ≤ (tE tq tn (tE tq tn (tE tq tn i))) by omega), (show (tE tq tn (tE tq tn (tE tq tn i))) ≤ tn by omega)⟩) dX5_personItem_128
                  · have cp43 := cpx
                    refine z_ai h (run_V (rest := []) X h (c_X5_number_n (i := (tE tq tn (tE tq tn i))) (mx := 9) hT (by omega) (by omega) cv34 (by omega) (by omega) cp43) mi_X5_number ml_X5_193 ⟨Nat.le_of_ble_eq_true rfl, Nat.le_of_ble_eq_true rfl⟩ ⟨rfl, rfl⟩ (Seg.rfl' _) 4 0 rfl rfl rfl rfl hl.1 rfl (Nat.le_of_ble_eq_true rfl) ⟨Nat.zero_le _, Nat.zero_le _⟩ dX5_personItem_108) (fun _ => wM_map _ _ _ _) (fun r u_ H locs hp h => ?_)
                    subst hp
                    have h : St E _ s H locs (wM E a (mm, kp, wa, (iv (ik)), fd, gf, tp, (iv (tn)), (iv (tK tq tn (tE tq tn (tE tq tn i)))), (iv (tS tq tn (tE tq tn (tE tq tn i)))), (iv (tE tq tn (tE tq tn (tE tq tn i)))), (iv (v34)), (iv (1)), bt, sz, cl)) := h
                    refine lv_istore_n (lv' := [(3, .int (iv (v34))), (2, .int (iv (20))), (1, .int (iv (tK tq tn i))), (0, .ref (a 0))]) X.1 X.2.1 dX5_personItem_111 rfl hl (by decide) rfl (fun ls hl => ?_)
                    refine lv_aload_n X.1 X.2.1 dX5_personItem_112 rfl (lv_at hl 3 rfl) ?_
                    refine z_get X h 4 0 12 rfl inX5 rfl (by decide) fl_X5_183 rfl dX5_personItem_113 ?_
                    refine z_if_ne (tgt := 128) X ⟨by decide, by decide⟩ dX5_personItem_116 (by decide) (fun c_116 => ?_) (fun c_116 => ?_)
                    · have e9 : p_item tq tn A i = (false, A, (tE tq tn (tE tq tn i))) := by unfold p_item on_item; first | ((repeat (first | rw [if_pos (by omega)] | rw [if_neg (by omega)])); done) | ((repeat (first | rw [if_pos (by omega)] | rw [if_neg (by omega)])); rfl) | (exfalso; omega)
                      have h : St E _ s H locs (wM E a (mm, kp, wa, (iv (ik)), fd, gf, tp, (iv (tn)), (iv (tK tq tn (tE tq tn (tE tq tn i)))), (iv (tS tq tn (tE tq tn (tE tq tn i)))), (iv (tE tq tn (tE tq tn (tE tq tn i)))), (iv (v34)), (iv (1)), bt, sz, cl)) := h
                      exact ret _ _ _ _ (mm, v34) (by rw [e9]; exact h) (by rw [e9]; exact ⟨hR, hI, rfl, cv34, fun q => absurd q (show ¬ false = true by decide), (show i ≤ (tE tq tn (tE tq tn i)) by omega), (show (tE tq tn (tE tq tn i)) ≤ tn by omega)⟩) dX5_personItem_128
                    · exact absurd c_116 (by decide)
                · refine z_iconst X dX5_personItem_96 ?_
                  refine lv_goto (tgt := 101) X.1 X.2.1 dX5_personItem_97 (by decide) ?_
                  refine z_put X h 4 0 12 rfl inX5 tyX5 tyX5_ok nmX5 rfl (by decide) fl_X5_183 rfl (by decide) (by decide) (Nat.le_of_ble_eq_true rfl) dX5_personItem_101 (fun H locs h => ?_)
                  have h : St E _ s H locs (wM E a (mm, kp, wa, (iv (ik)), fd, gf, tp, (iv (tn)), (iv (tK tq tn (tE tq tn (tE tq tn i)))), (iv (tS tq tn (tE tq tn (tE tq tn i)))), (iv (tE tq tn (tE tq tn (tE tq tn i)))), (iv (v34)), (iv (1)), bt, sz, cl)) := h
                  have vm := CV_le cv34 (m := 9) (by omega)
                  refine lv_aload_n X.1 X.2.1 dX5_personItem_104 rfl (lv_at hl 3 rfl) ?_
                  refine z_iconst X dX5_personItem_105 ?_
                  refine z_bipush X (by decide) dX5_personItem_106 ?_
                  refine z_ai h (run_V (rest := []) X h (c_X5_number_b (i := (tE tq tn (tE tq tn i))) (mx := 9) hT (by omega) (by omega) cv34 (by omega) (by omega)) mi_X5_number ml_X5_193 ⟨Nat.le_of_ble_eq_true rfl, Nat.le_of_ble_eq_true rfl⟩ ⟨rfl, rfl⟩ (Seg.rfl' _) 4 0 rfl rfl rfl rfl hl.1 rfl (Nat.le_of_ble_eq_true rfl) ⟨Nat.zero_le _, Nat.zero_le _⟩ dX5_personItem_108) (fun _ => wM_map _ _ _ _) (fun r u_ H locs hp h => ?_)
                  subst hp
                  have h : St E _ s H locs (wM E a (mm, kp, wa, (iv (ik)), fd, gf, tp, (iv (tn)), (iv (tK tq tn (tE tq tn (tE tq tn i)))), (iv (tS tq tn (tE tq tn (tE tq tn i)))), (iv (tE tq tn (tE tq tn (tE tq tn i)))), (iv (v34)), (iv (1)), bt, sz, cl)) := h
                  refine lv_istore_n (lv' := [(3, .int (iv (v34))), (2, .int (iv (20))), (1, .int (iv (tK tq tn i))), (0, .ref (a 0))]) X.1 X.2.1 dX5_personItem_111 rfl hl (by decide) rfl (fun ls hl => ?_)
                  refine lv_aload_n X.1 X.2.1 dX5_personItem_112 rfl (lv_at hl 3 rfl) ?_
                  refine z_get X h 4 0 12 rfl inX5 rfl (by decide) fl_X5_183 rfl dX5_personItem_113 ?_
                  refine z_if_ne (tgt := 128) X ⟨by decide, by decide⟩ dX5_personItem_116 (by decide) (fun c_116 => ?_) (fun c_116 => ?_)
                  · have e9 : p_item tq tn A i = (false, A, (tE tq tn (tE tq tn i))) := by unfold p_item on_item; first | ((repeat (first | rw [if_pos (by omega)] | rw [if_neg (by omega)])); done) | ((repeat (first | rw [if_pos (by omega)] | rw [if_neg (by omega)])); rfl) | (exfalso; omega)
                    have h : St E _ s H locs (wM E a (mm, kp, wa, (iv (ik)), fd, gf, tp, (iv (tn)), (iv (tK tq tn (tE tq tn (tE tq tn i)))), (iv (tS tq tn (tE tq tn (tE tq tn i)))), (iv (tE tq tn (tE tq tn (tE tq tn i)))), (iv (v34)), (iv (1)), bt, sz, cl)) := h
                    exact ret _ _ _ _ (mm, v34) (by rw [e9]; exact h) (by rw [e9]; exact ⟨hR, hI, rfl, cv34, fun q => absurd q (show ¬ false = true by decide), (show i ≤ (tE tq tn (tE tq tn i)) by omega), (show (tE tq tn (tE tq tn i)) ≤ tn by omega)⟩) dX5_personItem_128
                  · exact absurd c_116 (by decide)
        · have cp44 := cpx
          refine z_pi (run_V (rest := []) X h (c_X5_passes_n (i := (tE tq tn i)) (wd := 7) hT (by omega) (by omega) cv1 ⟨by decide, by decide⟩ cp44) mi_X5_passes ml_X5_190 ⟨Nat.le_of_ble_eq_true rfl, Nat.le_of_ble_eq_true rfl⟩ ⟨rfl, rfl⟩ (Seg.rfl' _) 4 0 rfl rfl rfl rfl hl.1 rfl (Nat.le_of_ble_eq_true rfl) ⟨Nat.zero_le _, Nat.zero_le _⟩ dX5_personItem_55) ?_
          refine z_ifb_eq (tgt := 112) X dX5_personItem_58 (by decide) (fun c_58 => ?_) (fun c_58 => ?_)
          · refine lv_aload_n X.1 X.2.1 dX5_personItem_112 rfl (lv_at hl 3 rfl) ?_
            refine z_get X h 4 0 12 rfl inX5 rfl (by decide) fl_X5_183 rfl dX5_personItem_113 ?_
            refine z_if_ne (tgt := 128) X ⟨by decide, by decide⟩ dX5_personItem_116 (by decide) (fun c_116 => ?_) (fun c_116 => ?_)
            · exact absurd c_116 (by decide)
            · refine lv_aload_n X.1 X.2.1 dX5_personItem_119 rfl (lv_at hl 3 rfl) ?_
              refine lv_iload_n X.1 X.2.1 dX5_personItem_120 rfl (lv_at hl 2 rfl) ?_
              refine lv_iload_n X.1 X.2.1 dX5_personItem_121 rfl (lv_at hl 1 rfl) ?_
              refine lv_iload_n X.1 X.2.1 dX5_personItem_122 rfl (lv_at hl 0 rfl) ?_
              refine z_ai h (run_V (rest := []) X h (c_X5_comesAs (k := (tK tq tn i)) (b := 20) (ch := ((-1))) hR hI.n0 (by omega)) mi_X5_comesAs ml_X5_96 ⟨Nat.le_of_ble_eq_true rfl, Nat.le_of_ble_eq_true rfl⟩ ⟨rfl, rfl⟩ (Seg.rfl' _) 4 0 rfl rfl rfl rfl hl.1 rfl (Nat.le_of_ble_eq_true rfl) ⟨Nat.zero_le _, Nat.zero_le _⟩ dX5_personItem_123) (fun _ => wM_map _ _ _ _) (fun r mc45 H locs hp h => ?_)
              have h : St E _ s H locs (wM E a (mc45, kp, wa, (iv (ik)), fd, gf, tp, (iv (tn)), (iv (tK tq tn (tE tq tn i))), (iv (tS tq tn (tE tq tn i))), (iv (tE tq tn (tE tq tn i))), (iv (v1)), (iv (0)), bt, sz, cl)) := h
              obtain ⟨rfl, hR45⟩ := hp
              have hIn : IA (nwc A (tK tq tn i) 20 ((-1))) := IA_nwc hI (by omega) (by omega) (by omega) (by omega) (by omega) (by omega) (by omega) (by omega)
              refine lv_istore (lv' := [(4, .int (iv (pe A))), (3, .int (iv ((-1)))), (2, .int (iv (20))), (1, .int (iv (tK tq tn i))), (0, .ref (a 0))]) X.1 X.2.1 dX5_personItem_126 hl (by decide) rfl (fun ls hl => ?_)
              have e9 : p_item tq tn A i = (true, (nwc A (tK tq tn i) 20 ((-1))), (tE tq tn i)) := by unfold p_item on_item; first | ((repeat (first | rw [if_pos (by omega)] | rw [if_neg (by omega)])); done) | ((repeat (first | rw [if_pos (by omega)] | rw [if_neg (by omega)])); rfl) | (exfalso; omega)
              have h : St E _ s H locs (wM E a (mc45, kp, wa, (iv (ik)), fd, gf, tp, (iv (tn)), (iv (tK tq tn (tE tq tn i))), (iv (tS tq tn (tE tq tn i))), (iv (tE tq tn (tE tq tn i))), (iv (v1)), (iv (0)), bt, sz, cl)) := h
              exact ret _ _ _ _ (mc45, v1) (by rw [e9]; exact h) (by rw [e9]; exact ⟨hR45, hIn, rfl, cv1, fun _ => (show i < (tE tq tn i) by omega), (show i ≤ (tE tq tn i) by omega), (show (tE tq tn i) ≤ tn by omega)⟩) dX5_personItem_128
          · refine lv_aload_n X.1 X.2.1 dX5_personItem_61 rfl (lv_at hl 3 rfl) ?_
            refine lv_aload_n X.1 X.2.1 dX5_personItem_62 rfl (lv_at hl 3 rfl) ?_
            refine z_get X h 4 0 8 rfl inX5 rfl (by decide) fl_X5_177 rfl dX5_personItem_63 ?_
            refine z_bipush X (by decide) dX5_personItem_66 ?_
            refine z_ic_ne (tgt := 100) X ⟨by omega, by omega⟩ ⟨by decide, by decide⟩ dX5_personItem_68 (by decide) (fun c_68 => ?_) (fun c_68 => ?_)
            · refine z_iconst X dX5_personItem_100 ?_
              refine z_put X h 4 0 12 rfl inX5 tyX5 tyX5_ok nmX5 rfl (by decide) fl_X5_183 rfl (by decide) (by decide) (Nat.le_of_ble_eq_true rfl) dX5_personItem_101 (fun H locs h => ?_)
              have h : St E _ s H locs (wM E a (mm, kp, wa, (iv (ik)), fd, gf, tp, (iv (tn)), (iv (tK tq tn (tE tq tn i))), (iv (tS tq tn (tE tq tn i))), (iv (tE tq tn (tE tq tn i))), (iv (v1)), (iv (0)), bt, sz, cl)) := h
              have vm := CV_le cv1 (m := 9) (by omega)
              refine lv_aload_n X.1 X.2.1 dX5_personItem_104 rfl (lv_at hl 3 rfl) ?_
              refine z_iconst X dX5_personItem_105 ?_
              refine z_bipush X (by decide) dX5_personItem_106 ?_
              by_cases cpx : tK tq tn (tE tq tn i) = 20 ∧ tV tq tn (tE tq tn i) ≤ 9
              · have cp46 := cpx
                have cm46 := CV_nn cv1
                refine z_ai h (run_V (rest := []) X h (c_X5_number_y (i := (tE tq tn i)) (mx := 9) hT (by omega) (by omega) cv1 (by omega) (by omega) cp46.1 cp46.2) mi_X5_number ml_X5_193 ⟨Nat.le_of_ble_eq_true rfl, Nat.le_of_ble_eq_true rfl⟩ ⟨rfl, rfl⟩ (Seg.rfl' _) 4 0 rfl rfl rfl rfl hl.1 rfl (Nat.le_of_ble_eq_true rfl) ⟨Nat.zero_le _, Nat.zero_le _⟩ dX5_personItem_108) (fun _ => wM_map _ _ _ _) (fun r v46 H locs hp h => ?_)
                obtain ⟨rfl, cv46⟩ := hp
                have h : St E _ s H locs (wM E a (mm, kp, wa, (iv (ik)), fd, gf, tp, (iv (tn)), (iv (tK tq tn (tE tq tn (tE tq tn i)))), (iv (tS tq tn (tE tq tn (tE tq tn i)))), (iv (tE tq tn (tE tq tn (tE tq tn i)))), (iv (v46)), (iv (0)), bt, sz, cl)) := h
                have tr46 := tok_rng tq (tn := tn) (i := (tE tq tn (tE tq tn i))) (by omega) (by omega)
                have cr46 := cv46.1
                have cq46 := cv46.2.1
                have cn46 := CV_nn cv46
                refine lv_istore_n (lv' := [(3, .int (iv (tV tq tn (tE tq tn i)))), (2, .int (iv (20))), (1, .int (iv (tK tq tn i))), (0, .ref (a 0))]) X.1 X.2.1 dX5_personItem_111 rfl hl (by decide) rfl (fun ls hl => ?_)
                refine lv_aload_n X.1 X.2.1 dX5_personItem_112 rfl (lv_at hl 3 rfl) ?_
                refine z_get X h 4 0 12 rfl inX5 rfl (by decide) fl_X5_183 rfl dX5_personItem_113 ?_
                refine z_if_ne (tgt := 128) X ⟨by decide, by decide⟩ dX5_personItem_116 (by decide) (fun c_116 => ?_) (fun c_116 => ?_)
                · exact absurd c_116 (by decide)
                · refine lv_aload_n X.1 X.2.1 dX5_personItem_119 rfl (lv_at hl 3 rfl) ?_
                  refine lv_iload_n X.1 X.2.1 dX5_personItem_120 rfl (lv_at hl 2 rfl) ?_
                  refine lv_iload_n X.1 X.2.1 dX5_personItem_121 rfl (lv_at hl 1 rfl) ?_
                  refine lv_iload_n X.1 X.2.1 dX5_personItem_122 rfl (lv_at hl 0 rfl) ?_
                  refine z_ai h (run_V (rest := []) X h (c_X5_comesAs (k := (tK tq tn i)) (b := 20) (ch := (tV tq tn (tE tq tn i))) hR hI.n0 (by omega)) mi_X5_comesAs ml_X5_96 ⟨Nat.le_of_ble_eq_true rfl, Nat.le_of_ble_eq_true rfl⟩ ⟨rfl, rfl⟩ (Seg.rfl' _) 4 0 rfl rfl rfl rfl hl.1 rfl (Nat.le_of_ble_eq_true rfl) ⟨Nat.zero_le _, Nat.zero_le _⟩ dX5_personItem_123) (fun _ => wM_map _ _ _ _) (fun r mc47 H locs hp h => ?_)
                  have h : St E _ s H locs (wM E a (mc47, kp, wa, (iv (ik)), fd, gf, tp, (iv (tn)), (iv (tK tq tn (tE tq tn (tE tq tn i)))), (iv (tS tq tn (tE tq tn (tE tq tn i)))), (iv (tE tq tn (tE tq tn (tE tq tn i)))), (iv (v46)), (iv (0)), bt, sz, cl)) := h
                  obtain ⟨rfl, hR47⟩ := hp
                  have hIn : IA (nwc A (tK tq tn i) 20 (tV tq tn (tE tq tn i))) := IA_nwc hI (by omega) (by omega) (by omega) (by omega) (by omega) (by omega) (by omega) (by omega)
                  refine lv_istore (lv' := [(4, .int (iv (pe A))), (3, .int (iv (tV tq tn (tE tq tn i)))), (2, .int (iv (20))), (1, .int (iv (tK tq tn i))), (0, .ref (a 0))]) X.1 X.2.1 dX5_personItem_126 hl (by decide) rfl (fun ls hl => ?_)
                  have e9 : p_item tq tn A i = (true, (nwc A (tK tq tn i) 20 (tV tq tn (tE tq tn i))), (tE tq tn (tE tq tn i))) := by unfold p_item on_item; first | ((repeat (first | rw [if_pos (by omega)] | rw [if_neg (by omega)])); done) | ((repeat (first | rw [if_pos (by omega)] | rw [if_neg (by omega)])); rfl) | (exfalso; omega)
                  have h : St E _ s H locs (wM E a (mc47, kp, wa, (iv (ik)), fd, gf, tp, (iv (tn)), (iv (tK tq tn (tE tq tn (tE tq tn i)))), (iv (tS tq tn (tE tq tn (tE tq tn i)))), (iv (tE tq tn (tE tq tn (tE tq tn i)))), (iv (v46)), (iv (0)), bt, sz, cl)) := h
                  exact ret _ _ _ _ (mc47, v46) (by rw [e9]; exact h) (by rw [e9]; exact ⟨hR47, hIn, rfl, cv46, fun _ => (show i < (tE tq tn (tE tq tn i)) by omega), (show i ≤ (tE tq tn (tE tq tn i)) by omega), (show (tE tq tn (tE tq tn i)) ≤ tn by omega)⟩) dX5_personItem_128
              · have cp48 := cpx
                refine z_ai h (run_V (rest := []) X h (c_X5_number_n (i := (tE tq tn i)) (mx := 9) hT (by omega) (by omega) cv1 (by omega) (by omega) cp48) mi_X5_number ml_X5_193 ⟨Nat.le_of_ble_eq_true rfl, Nat.le_of_ble_eq_true rfl⟩ ⟨rfl, rfl⟩ (Seg.rfl' _) 4 0 rfl rfl rfl rfl hl.1 rfl (Nat.le_of_ble_eq_true rfl) ⟨Nat.zero_le _, Nat.zero_le _⟩ dX5_personItem_108) (fun _ => wM_map _ _ _ _) (fun r u_ H locs hp h => ?_)
                subst hp
                have h : St E _ s H locs (wM E a (mm, kp, wa, (iv (ik)), fd, gf, tp, (iv (tn)), (iv (tK tq tn (tE tq tn i))), (iv (tS tq tn (tE tq tn i))), (iv (tE tq tn (tE tq tn i))), (iv (v1)), (iv (1)), bt, sz, cl)) := h
                refine lv_istore_n (lv' := [(3, .int (iv (v1))), (2, .int (iv (20))), (1, .int (iv (tK tq tn i))), (0, .ref (a 0))]) X.1 X.2.1 dX5_personItem_111 rfl hl (by decide) rfl (fun ls hl => ?_)
                refine lv_aload_n X.1 X.2.1 dX5_personItem_112 rfl (lv_at hl 3 rfl) ?_
                refine z_get X h 4 0 12 rfl inX5 rfl (by decide) fl_X5_183 rfl dX5_personItem_113 ?_
                refine z_if_ne (tgt := 128) X ⟨by decide, by decide⟩ dX5_personItem_116 (by decide) (fun c_116 => ?_) (fun c_116 => ?_)
                · have e9 : p_item tq tn A i = (false, A, (tE tq tn i)) := by unfold p_item on_item; first | ((repeat (first | rw [if_pos (by omega)] | rw [if_neg (by omega)])); done) | ((repeat (first | rw [if_pos (by omega)] | rw [if_neg (by omega)])); rfl) | (exfalso; omega)
                  have h : St E _ s H locs (wM E a (mm, kp, wa, (iv (ik)), fd, gf, tp, (iv (tn)), (iv (tK tq tn (tE tq tn i))), (iv (tS tq tn (tE tq tn i))), (iv (tE tq tn (tE tq tn i))), (iv (v1)), (iv (1)), bt, sz, cl)) := h
                  exact ret _ _ _ _ (mm, v1) (by rw [e9]; exact h) (by rw [e9]; exact ⟨hR, hI, rfl, cv1, fun q => absurd q (show ¬ false = true by decide), (show i ≤ (tE tq tn i) by omega), (show (tE tq tn i) ≤ tn by omega)⟩) dX5_personItem_128
                · exact absurd c_116 (by decide)
            · refine lv_aload_n X.1 X.2.1 dX5_personItem_71 rfl (lv_at hl 3 rfl) ?_
              refine z_get X h 4 0 11 rfl inX5 rfl (by decide) fl_X5_174 rfl dX5_personItem_72 ?_
              refine lv_i2l (v := (iv (v1)).toInt64) X.1 X.2.1 dX5_personItem_75 rfl ?_
              refine z_iconst X dX5_personItem_76 ?_
              refine z_bipush X (by decide) dX5_personItem_77 ?_
              refine z_pi (run_S (rest := [.ref (a 0)]) X h (c_inI ⟨by omega, by omega⟩ ⟨by decide, by decide⟩ ⟨by decide, by decide⟩) mi_X5_in ml_X5_44 ⟨Nat.le_of_ble_eq_true rfl, Nat.le_of_ble_eq_true rfl⟩ ⟨rfl, rfl⟩ (Seg.nil _) rfl hl.1 rfl (Nat.le_of_ble_eq_true rfl) ⟨Nat.zero_le _, Nat.zero_le _⟩ dX5_personItem_79) ?_
              refine z_ifb_eq (tgt := 100) X dX5_personItem_82 (by decide) (fun c_82 => ?_) (fun c_82 => ?_)
              · refine z_iconst X dX5_personItem_100 ?_
                refine z_put X h 4 0 12 rfl inX5 tyX5 tyX5_ok nmX5 rfl (by decide) fl_X5_183 rfl (by decide) (by decide) (Nat.le_of_ble_eq_true rfl) dX5_personItem_101 (fun H locs h => ?_)
                have h : St E _ s H locs (wM E a (mm, kp, wa, (iv (ik)), fd, gf, tp, (iv (tn)), (iv (tK tq tn (tE tq tn i))), (iv (tS tq tn (tE tq tn i))), (iv (tE tq tn (tE tq tn i))), (iv (v1)), (iv (0)), bt, sz, cl)) := h
                have vm := CV_le cv1 (m := 9) (by omega)
                refine lv_aload_n X.1 X.2.1 dX5_personItem_104 rfl (lv_at hl 3 rfl) ?_
                refine z_iconst X dX5_personItem_105 ?_
                refine z_bipush X (by decide) dX5_personItem_106 ?_
                by_cases cpx : tK tq tn (tE tq tn i) = 20 ∧ tV tq tn (tE tq tn i) ≤ 9
                · have cp49 := cpx
                  have cm49 := CV_nn cv1
                  refine z_ai h (run_V (rest := []) X h (c_X5_number_y (i := (tE tq tn i)) (mx := 9) hT (by omega) (by omega) cv1 (by omega) (by omega) cp49.1 cp49.2) mi_X5_number ml_X5_193 ⟨Nat.le_of_ble_eq_true rfl, Nat.le_of_ble_eq_true rfl⟩ ⟨rfl, rfl⟩ (Seg.rfl' _) 4 0 rfl rfl rfl rfl hl.1 rfl (Nat.le_of_ble_eq_true rfl) ⟨Nat.zero_le _, Nat.zero_le _⟩ dX5_personItem_108) (fun _ => wM_map _ _ _ _) (fun r v49 H locs hp h => ?_)
                  obtain ⟨rfl, cv49⟩ := hp
                  have h : St E _ s H locs (wM E a (mm, kp, wa, (iv (ik)), fd, gf, tp, (iv (tn)), (iv (tK tq tn (tE tq tn (tE tq tn i)))), (iv (tS tq tn (tE tq tn (tE tq tn i)))), (iv (tE tq tn (tE tq tn (tE tq tn i)))), (iv (v49)), (iv (0)), bt, sz, cl)) := h
                  have tr49 := tok_rng tq (tn := tn) (i := (tE tq tn (tE tq tn i))) (by omega) (by omega)
                  have cr49 := cv49.1
                  have cq49 := cv49.2.1
                  have cn49 := CV_nn cv49
                  refine lv_istore_n (lv' := [(3, .int (iv (tV tq tn (tE tq tn i)))), (2, .int (iv (20))), (1, .int (iv (tK tq tn i))), (0, .ref (a 0))]) X.1 X.2.1 dX5_personItem_111 rfl hl (by decide) rfl (fun ls hl => ?_)
                  refine lv_aload_n X.1 X.2.1 dX5_personItem_112 rfl (lv_at hl 3 rfl) ?_
                  refine z_get X h 4 0 12 rfl inX5 rfl (by decide) fl_X5_183 rfl dX5_personItem_113 ?_
                  refine z_if_ne (tgt := 128) X ⟨by decide, by decide⟩ dX5_personItem_116 (by decide) (fun c_116 => ?_) (fun c_116 => ?_)
                  · exact absurd c_116 (by decide)
                  · refine lv_aload_n X.1 X.2.1 dX5_personItem_119 rfl (lv_at hl 3 rfl) ?_
                    refine lv_iload_n X.1 X.2.1 dX5_personItem_120 rfl (lv_at hl 2 rfl) ?_
                    refine lv_iload_n X.1 X.2.1 dX5_personItem_121 rfl (lv_at hl 1 rfl) ?_
                    refine lv_iload_n X.1 X.2.1 dX5_personItem_122 rfl (lv_at hl 0 rfl) ?_
                    refine z_ai h (run_V (rest := []) X h (c_X5_comesAs (k := (tK tq tn i)) (b := 20) (ch := (tV tq tn (tE tq tn i))) hR hI.n0 (by omega)) mi_X5_comesAs ml_X5_96 ⟨Nat.le_of_ble_eq_true rfl, Nat.le_of_ble_eq_true rfl⟩ ⟨rfl, rfl⟩ (Seg.rfl' _) 4 0 rfl rfl rfl rfl hl.1 rfl (Nat.le_of_ble_eq_true rfl) ⟨Nat.zero_le _, Nat.zero_le _⟩ dX5_personItem_123) (fun _ => wM_map _ _ _ _) (fun r mc50 H locs hp h => ?_)
                    have h : St E _ s H locs (wM E a (mc50, kp, wa, (iv (ik)), fd, gf, tp, (iv (tn)), (iv (tK tq tn (tE tq tn (tE tq tn i)))), (iv (tS tq tn (tE tq tn (tE tq tn i)))), (iv (tE tq tn (tE tq tn (tE tq tn i)))), (iv (v49)), (iv (0)), bt, sz, cl)) := h
                    obtain ⟨rfl, hR50⟩ := hp
                    have hIn : IA (nwc A (tK tq tn i) 20 (tV tq tn (tE tq tn i))) := IA_nwc hI (by omega) (by omega) (by omega) (by omega) (by omega) (by omega) (by omega) (by omega)
                    refine lv_istore (lv' := [(4, .int (iv (pe A))), (3, .int (iv (tV tq tn (tE tq tn i)))), (2, .int (iv (20))), (1, .int (iv (tK tq tn i))), (0, .ref (a 0))]) X.1 X.2.1 dX5_personItem_126 hl (by decide) rfl (fun ls hl => ?_)
                    have e9 : p_item tq tn A i = (true, (nwc A (tK tq tn i) 20 (tV tq tn (tE tq tn i))), (tE tq tn (tE tq tn i))) := by unfold p_item on_item; first | ((repeat (first | rw [if_pos (by omega)] | rw [if_neg (by omega)])); done) | ((repeat (first | rw [if_pos (by omega)] | rw [if_neg (by omega)])); rfl) | (exfalso; omega)
                    have h : St E _ s H locs (wM E a (mc50, kp, wa, (iv (ik)), fd, gf, tp, (iv (tn)), (iv (tK tq tn (tE tq tn (tE tq tn i)))), (iv (tS tq tn (tE tq tn (tE tq tn i)))), (iv (tE tq tn (tE tq tn (tE tq tn i)))), (iv (v49)), (iv (0)), bt, sz, cl)) := h
                    exact ret _ _ _ _ (mc50, v49) (by rw [e9]; exact h) (by rw [e9]; exact ⟨hR50, hIn, rfl, cv49, fun _ => (show i < (tE tq tn (tE tq tn i)) by omega), (show i ≤ (tE tq tn (tE tq tn i)) by omega), (show (tE tq tn (tE tq tn i)) ≤ tn by omega)⟩) dX5_personItem_128
                · have cp51 := cpx
                  refine z_ai h (run_V (rest := []) X h (c_X5_number_n (i := (tE tq tn i)) (mx := 9) hT (by omega) (by omega) cv1 (by omega) (by omega) cp51) mi_X5_number ml_X5_193 ⟨Nat.le_of_ble_eq_true rfl, Nat.le_of_ble_eq_true rfl⟩ ⟨rfl, rfl⟩ (Seg.rfl' _) 4 0 rfl rfl rfl rfl hl.1 rfl (Nat.le_of_ble_eq_true rfl) ⟨Nat.zero_le _, Nat.zero_le _⟩ dX5_personItem_108) (fun _ => wM_map _ _ _ _) (fun r u_ H locs hp h => ?_)
                  subst hp
                  have h : St E _ s H locs (wM E a (mm, kp, wa, (iv (ik)), fd, gf, tp, (iv (tn)), (iv (tK tq tn (tE tq tn i))), (iv (tS tq tn (tE tq tn i))), (iv (tE tq tn (tE tq tn i))), (iv (v1)), (iv (1)), bt, sz, cl)) := h
                  refine lv_istore_n (lv' := [(3, .int (iv (v1))), (2, .int (iv (20))), (1, .int (iv (tK tq tn i))), (0, .ref (a 0))]) X.1 X.2.1 dX5_personItem_111 rfl hl (by decide) rfl (fun ls hl => ?_)
                  refine lv_aload_n X.1 X.2.1 dX5_personItem_112 rfl (lv_at hl 3 rfl) ?_
                  refine z_get X h 4 0 12 rfl inX5 rfl (by decide) fl_X5_183 rfl dX5_personItem_113 ?_
                  refine z_if_ne (tgt := 128) X ⟨by decide, by decide⟩ dX5_personItem_116 (by decide) (fun c_116 => ?_) (fun c_116 => ?_)
                  · have e9 : p_item tq tn A i = (false, A, (tE tq tn i)) := by unfold p_item on_item; first | ((repeat (first | rw [if_pos (by omega)] | rw [if_neg (by omega)])); done) | ((repeat (first | rw [if_pos (by omega)] | rw [if_neg (by omega)])); rfl) | (exfalso; omega)
                    have h : St E _ s H locs (wM E a (mm, kp, wa, (iv (ik)), fd, gf, tp, (iv (tn)), (iv (tK tq tn (tE tq tn i))), (iv (tS tq tn (tE tq tn i))), (iv (tE tq tn (tE tq tn i))), (iv (v1)), (iv (1)), bt, sz, cl)) := h
                    exact ret _ _ _ _ (mm, v1) (by rw [e9]; exact h) (by rw [e9]; exact ⟨hR, hI, rfl, cv1, fun q => absurd q (show ¬ false = true by decide), (show i ≤ (tE tq tn i) by omega), (show (tE tq tn i) ≤ tn by omega)⟩) dX5_personItem_128
                  · exact absurd c_116 (by decide)
              · refine lv_aload_n X.1 X.2.1 dX5_personItem_85 rfl (lv_at hl 3 rfl) ?_
                have ev := CV_eq cv1 (m := 9) (by omega) (by omega)
                have eo : onC A (tV tq tn (tE tq tn i)) = onC A v1 := by rw [ev]
                have oc := onC_rng hI v1
                refine lv_aload_n X.1 X.2.1 dX5_personItem_86 rfl (lv_at hl 3 rfl) ?_
                refine z_get X h 4 0 11 rfl inX5 rfl (by decide) fl_X5_174 rfl dX5_personItem_87 ?_
                refine z_pi (run_V (rest := [.ref (a 0)]) X h (c_X5_onChair (ch := v1) hR hI ⟨by omega, by omega⟩) mi_X5_onChair ml_X5_59 ⟨Nat.le_of_ble_eq_true rfl, Nat.le_of_ble_eq_true rfl⟩ ⟨rfl, rfl⟩ (Seg.rfl' _) 4 0 rfl rfl rfl rfl hl.1 rfl (Nat.le_of_ble_eq_true rfl) ⟨Nat.zero_le _, Nat.zero_le _⟩ dX5_personItem_90) ?_
                refine z_if_lt (tgt := 100) X ⟨by omega, by omega⟩ dX5_personItem_93 (by decide) (fun c_93 => ?_) (fun c_93 => ?_)
                · refine z_iconst X dX5_personItem_100 ?_
                  refine z_put X h 4 0 12 rfl inX5 tyX5 tyX5_ok nmX5 rfl (by decide) fl_X5_183 rfl (by decide) (by decide) (Nat.le_of_ble_eq_true rfl) dX5_personItem_101 (fun H locs h => ?_)
                  have h : St E _ s H locs (wM E a (mm, kp, wa, (iv (ik)), fd, gf, tp, (iv (tn)), (iv (tK tq tn (tE tq tn i))), (iv (tS tq tn (tE tq tn i))), (iv (tE tq tn (tE tq tn i))), (iv (v1)), (iv (0)), bt, sz, cl)) := h
                  have vm := CV_le cv1 (m := 9) (by omega)
                  refine lv_aload_n X.1 X.2.1 dX5_personItem_104 rfl (lv_at hl 3 rfl) ?_
                  refine z_iconst X dX5_personItem_105 ?_
                  refine z_bipush X (by decide) dX5_personItem_106 ?_
                  by_cases cpx : tK tq tn (tE tq tn i) = 20 ∧ tV tq tn (tE tq tn i) ≤ 9
                  · have cp52 := cpx
                    have cm52 := CV_nn cv1
                    refine z_ai h (run_V (rest := []) X h (c_X5_number_y (i := (tE tq tn i)) (mx := 9) hT (by omega) (by omega) cv1 (by omega) (by omega) cp52.1 cp52.2) mi_X5_number ml_X5_193 ⟨Nat.le_of_ble_eq_true rfl, Nat.le_of_ble_eq_true rfl⟩ ⟨rfl, rfl⟩ (Seg.rfl' _) 4 0 rfl rfl rfl rfl hl.1 rfl (Nat.le_of_ble_eq_true rfl) ⟨Nat.zero_le _, Nat.zero_le _⟩ dX5_personItem_108) (fun _ => wM_map _ _ _ _) (fun r v52 H locs hp h => ?_)
                    obtain ⟨rfl, cv52⟩ := hp
                    have h : St E _ s H locs (wM E a (mm, kp, wa, (iv (ik)), fd, gf, tp, (iv (tn)), (iv (tK tq tn (tE tq tn (tE tq tn i)))), (iv (tS tq tn (tE tq tn (tE tq tn i)))), (iv (tE tq tn (tE tq tn (tE tq tn i)))), (iv (v52)), (iv (0)), bt, sz, cl)) := h
                    have tr52 := tok_rng tq (tn := tn) (i := (tE tq tn (tE tq tn i))) (by omega) (by omega)
                    have cr52 := cv52.1
                    have cq52 := cv52.2.1
                    have cn52 := CV_nn cv52
                    refine lv_istore_n (lv' := [(3, .int (iv (tV tq tn (tE tq tn i)))), (2, .int (iv (20))), (1, .int (iv (tK tq tn i))), (0, .ref (a 0))]) X.1 X.2.1 dX5_personItem_111 rfl hl (by decide) rfl (fun ls hl => ?_)
                    refine lv_aload_n X.1 X.2.1 dX5_personItem_112 rfl (lv_at hl 3 rfl) ?_
                    refine z_get X h 4 0 12 rfl inX5 rfl (by decide) fl_X5_183 rfl dX5_personItem_113 ?_
                    refine z_if_ne (tgt := 128) X ⟨by decide, by decide⟩ dX5_personItem_116 (by decide) (fun c_116 => ?_) (fun c_116 => ?_)
                    · exact absurd c_116 (by decide)
                    · refine lv_aload_n X.1 X.2.1 dX5_personItem_119 rfl (lv_at hl 3 rfl) ?_
                      refine lv_iload_n X.1 X.2.1 dX5_personItem_120 rfl (lv_at hl 2 rfl) ?_
                      refine lv_iload_n X.1 X.2.1 dX5_personItem_121 rfl (lv_at hl 1 rfl) ?_
                      refine lv_iload_n X.1 X.2.1 dX5_personItem_122 rfl (lv_at hl 0 rfl) ?_
                      refine z_ai h (run_V (rest := []) X h (c_X5_comesAs (k := (tK tq tn i)) (b := 20) (ch := (tV tq tn (tE tq tn i))) hR hI.n0 (by omega)) mi_X5_comesAs ml_X5_96 ⟨Nat.le_of_ble_eq_true rfl, Nat.le_of_ble_eq_true rfl⟩ ⟨rfl, rfl⟩ (Seg.rfl' _) 4 0 rfl rfl rfl rfl hl.1 rfl (Nat.le_of_ble_eq_true rfl) ⟨Nat.zero_le _, Nat.zero_le _⟩ dX5_personItem_123) (fun _ => wM_map _ _ _ _) (fun r mc53 H locs hp h => ?_)
                      have h : St E _ s H locs (wM E a (mc53, kp, wa, (iv (ik)), fd, gf, tp, (iv (tn)), (iv (tK tq tn (tE tq tn (tE tq tn i)))), (iv (tS tq tn (tE tq tn (tE tq tn i)))), (iv (tE tq tn (tE tq tn (tE tq tn i)))), (iv (v52)), (iv (0)), bt, sz, cl)) := h
                      obtain ⟨rfl, hR53⟩ := hp
                      have hIn : IA (nwc A (tK tq tn i) 20 (tV tq tn (tE tq tn i))) := IA_nwc hI (by omega) (by omega) (by omega) (by omega) (by omega) (by omega) (by omega) (by omega)
                      refine lv_istore (lv' := [(4, .int (iv (pe A))), (3, .int (iv (tV tq tn (tE tq tn i)))), (2, .int (iv (20))), (1, .int (iv (tK tq tn i))), (0, .ref (a 0))]) X.1 X.2.1 dX5_personItem_126 hl (by decide) rfl (fun ls hl => ?_)
                      have e9 : p_item tq tn A i = (true, (nwc A (tK tq tn i) 20 (tV tq tn (tE tq tn i))), (tE tq tn (tE tq tn i))) := by unfold p_item on_item; first | ((repeat (first | rw [if_pos (by omega)] | rw [if_neg (by omega)])); done) | ((repeat (first | rw [if_pos (by omega)] | rw [if_neg (by omega)])); rfl) | (exfalso; omega)
                      have h : St E _ s H locs (wM E a (mc53, kp, wa, (iv (ik)), fd, gf, tp, (iv (tn)), (iv (tK tq tn (tE tq tn (tE tq tn i)))), (iv (tS tq tn (tE tq tn (tE tq tn i)))), (iv (tE tq tn (tE tq tn (tE tq tn i)))), (iv (v52)), (iv (0)), bt, sz, cl)) := h
                      exact ret _ _ _ _ (mc53, v52) (by rw [e9]; exact h) (by rw [e9]; exact ⟨hR53, hIn, rfl, cv52, fun _ => (show i < (tE tq tn (tE tq tn i)) by omega), (show i ≤ (tE tq tn (tE tq tn i)) by omega), (show (tE tq tn (tE tq tn i)) ≤ tn by omega)⟩) dX5_personItem_128
                  · have cp54 := cpx
                    refine z_ai h (run_V (rest := []) X h (c_X5_number_n (i := (tE tq tn i)) (mx := 9) hT (by omega) (by omega) cv1 (by omega) (by omega) cp54) mi_X5_number ml_X5_193 ⟨Nat.le_of_ble_eq_true rfl, Nat.le_of_ble_eq_true rfl⟩ ⟨rfl, rfl⟩ (Seg.rfl' _) 4 0 rfl rfl rfl rfl hl.1 rfl (Nat.le_of_ble_eq_true rfl) ⟨Nat.zero_le _, Nat.zero_le _⟩ dX5_personItem_108) (fun _ => wM_map _ _ _ _) (fun r u_ H locs hp h => ?_)
                    subst hp
                    have h : St E _ s H locs (wM E a (mm, kp, wa, (iv (ik)), fd, gf, tp, (iv (tn)), (iv (tK tq tn (tE tq tn i))), (iv (tS tq tn (tE tq tn i))), (iv (tE tq tn (tE tq tn i))), (iv (v1)), (iv (1)), bt, sz, cl)) := h
                    refine lv_istore_n (lv' := [(3, .int (iv (v1))), (2, .int (iv (20))), (1, .int (iv (tK tq tn i))), (0, .ref (a 0))]) X.1 X.2.1 dX5_personItem_111 rfl hl (by decide) rfl (fun ls hl => ?_)
                    refine lv_aload_n X.1 X.2.1 dX5_personItem_112 rfl (lv_at hl 3 rfl) ?_
                    refine z_get X h 4 0 12 rfl inX5 rfl (by decide) fl_X5_183 rfl dX5_personItem_113 ?_
                    refine z_if_ne (tgt := 128) X ⟨by decide, by decide⟩ dX5_personItem_116 (by decide) (fun c_116 => ?_) (fun c_116 => ?_)
                    · have e9 : p_item tq tn A i = (false, A, (tE tq tn i)) := by unfold p_item on_item; first | ((repeat (first | rw [if_pos (by omega)] | rw [if_neg (by omega)])); done) | ((repeat (first | rw [if_pos (by omega)] | rw [if_neg (by omega)])); rfl) | (exfalso; omega)
                      have h : St E _ s H locs (wM E a (mm, kp, wa, (iv (ik)), fd, gf, tp, (iv (tn)), (iv (tK tq tn (tE tq tn i))), (iv (tS tq tn (tE tq tn i))), (iv (tE tq tn (tE tq tn i))), (iv (v1)), (iv (1)), bt, sz, cl)) := h
                      exact ret _ _ _ _ (mm, v1) (by rw [e9]; exact h) (by rw [e9]; exact ⟨hR, hI, rfl, cv1, fun q => absurd q (show ¬ false = true by decide), (show i ≤ (tE tq tn i) by omega), (show (tE tq tn i) ≤ tn by omega)⟩) dX5_personItem_128
                    · exact absurd c_116 (by decide)
                · refine z_iconst X dX5_personItem_96 ?_
                  refine lv_goto (tgt := 101) X.1 X.2.1 dX5_personItem_97 (by decide) ?_
                  refine z_put X h 4 0 12 rfl inX5 tyX5 tyX5_ok nmX5 rfl (by decide) fl_X5_183 rfl (by decide) (by decide) (Nat.le_of_ble_eq_true rfl) dX5_personItem_101 (fun H locs h => ?_)
                  have h : St E _ s H locs (wM E a (mm, kp, wa, (iv (ik)), fd, gf, tp, (iv (tn)), (iv (tK tq tn (tE tq tn i))), (iv (tS tq tn (tE tq tn i))), (iv (tE tq tn (tE tq tn i))), (iv (v1)), (iv (1)), bt, sz, cl)) := h
                  have vm := CV_le cv1 (m := 9) (by omega)
                  refine lv_aload_n X.1 X.2.1 dX5_personItem_104 rfl (lv_at hl 3 rfl) ?_
                  refine z_iconst X dX5_personItem_105 ?_
                  refine z_bipush X (by decide) dX5_personItem_106 ?_
                  refine z_ai h (run_V (rest := []) X h (c_X5_number_b (i := (tE tq tn i)) (mx := 9) hT (by omega) (by omega) cv1 (by omega) (by omega)) mi_X5_number ml_X5_193 ⟨Nat.le_of_ble_eq_true rfl, Nat.le_of_ble_eq_true rfl⟩ ⟨rfl, rfl⟩ (Seg.rfl' _) 4 0 rfl rfl rfl rfl hl.1 rfl (Nat.le_of_ble_eq_true rfl) ⟨Nat.zero_le _, Nat.zero_le _⟩ dX5_personItem_108) (fun _ => wM_map _ _ _ _) (fun r u_ H locs hp h => ?_)
                  subst hp
                  have h : St E _ s H locs (wM E a (mm, kp, wa, (iv (ik)), fd, gf, tp, (iv (tn)), (iv (tK tq tn (tE tq tn i))), (iv (tS tq tn (tE tq tn i))), (iv (tE tq tn (tE tq tn i))), (iv (v1)), (iv (1)), bt, sz, cl)) := h
                  refine lv_istore_n (lv' := [(3, .int (iv (v1))), (2, .int (iv (20))), (1, .int (iv (tK tq tn i))), (0, .ref (a 0))]) X.1 X.2.1 dX5_personItem_111 rfl hl (by decide) rfl (fun ls hl => ?_)
                  refine lv_aload_n X.1 X.2.1 dX5_personItem_112 rfl (lv_at hl 3 rfl) ?_
                  refine z_get X h 4 0 12 rfl inX5 rfl (by decide) fl_X5_183 rfl dX5_personItem_113 ?_
                  refine z_if_ne (tgt := 128) X ⟨by decide, by decide⟩ dX5_personItem_116 (by decide) (fun c_116 => ?_) (fun c_116 => ?_)
                  · have e9 : p_item tq tn A i = (false, A, (tE tq tn i)) := by unfold p_item on_item; first | ((repeat (first | rw [if_pos (by omega)] | rw [if_neg (by omega)])); done) | ((repeat (first | rw [if_pos (by omega)] | rw [if_neg (by omega)])); rfl) | (exfalso; omega)
                    have h : St E _ s H locs (wM E a (mm, kp, wa, (iv (ik)), fd, gf, tp, (iv (tn)), (iv (tK tq tn (tE tq tn i))), (iv (tS tq tn (tE tq tn i))), (iv (tE tq tn (tE tq tn i))), (iv (v1)), (iv (1)), bt, sz, cl)) := h
                    exact ret _ _ _ _ (mm, v1) (by rw [e9]; exact h) (by rw [e9]; exact ⟨hR, hI, rfl, cv1, fun q => absurd q (show ¬ false = true by decide), (show i ≤ (tE tq tn i) by omega), (show (tE tq tn i) ≤ tn by omega)⟩) dX5_personItem_128
                  · exact absurd c_116 (by decide)
    · exact absurd c_29 (by decide)
  · refine z_iconst X dX5_personItem_17 ?_
    refine lv_goto (tgt := 22) X.1 X.2.1 dX5_personItem_18 (by decide) ?_
    refine z_put X h 4 0 12 rfl inX5 tyX5 tyX5_ok nmX5 rfl (by decide) fl_X5_183 rfl (by decide) (by decide) (Nat.le_of_ble_eq_true rfl) dX5_personItem_22 (fun H locs h => ?_)
    have h : St E _ s H locs (wM E a (mm, kp, wa, (iv (ik)), fd, gf, tp, (iv (tn)), (iv (tK tq tn i)), (iv (tS tq tn i)), (iv (tE tq tn i)), (iv (vl)), (iv (1)), bt, sz, cl)) := h
    refine lv_aload_n X.1 X.2.1 dX5_personItem_25 rfl (lv_at hl 1 rfl) ?_
    refine z_get X h 4 0 12 rfl inX5 rfl (by decide) fl_X5_183 rfl dX5_personItem_26 ?_
    refine z_if_eq (tgt := 33) X ⟨by decide, by decide⟩ dX5_personItem_29 (by decide) (fun c_29 => ?_) (fun c_29 => ?_)
    · exact absurd c_29 (by decide)
    · have e9 : p_item tq tn A i = (false, A, i) := by unfold p_item on_item; first | ((repeat (first | rw [if_pos (by omega)] | rw [if_neg (by omega)])); done) | ((repeat (first | rw [if_pos (by omega)] | rw [if_neg (by omega)])); rfl) | (exfalso; omega)
      have h : St E _ s H locs (wM E a (mm, kp, wa, (iv (ik)), fd, gf, tp, (iv (tn)), (iv (tK tq tn i)), (iv (tS tq tn i)), (iv (tE tq tn i)), (iv (vl)), (iv (1)), bt, sz, cl)) := h
      exact ret _ _ _ _ (mm, vl) (by rw [e9]; exact h) (by rw [e9]; exact ⟨hR, hI, rfl, hcv, fun q => absurd q (show ¬ false = true by decide), (show i ≤ i by omega), (show i ≤ tn by omega)⟩) dX5_personItem_32
