variable {E : EV} {l : Launch} {a : Nat → Nat} {mm kp wa fd gf tp bt sz : Nat → Int32} {cl : Nat → Int64} {ik tn tk bg pt vl bd : Int} {A : Es} {K : Es} {ph tq bq sq : Int → Int} {cq : Int → Int → Int64}
set_option maxHeartbeats 4000000 in
theorem c_X5_passes_y (hT : RT tp tq tn) {i : Int} (i0 : 0 ≤ i) (i1 : i ≤ tn) (hcv : CV vl (tV tq tn i)) {wd : Int} (rw_ : r32 wd) (hk : tK tq tn i = wd) : MI (S := Int) E l yX5_passes cX5_passes 2 (some FieldType.boolean) (rmk 3 66) (wM E a (mm, kp, wa, (iv (ik)), fd, gf, tp, (iv (tn)), (iv (tK tq tn i)), (iv (tS tq tn i)), (iv (tE tq tn i)), (iv (vl)), (iv (0)), bt, sz, cl)) [.ref (a 0), .int (iv (wd))] (fun r u => r = iv 1 ∧ CV u (tV tq tn (tE tq tn i))) (fun u => wM E a (mm, kp, wa, (iv (ik)), fd, gf, tp, (iv (tn)), (iv (tK tq tn (tE tq tn i))), (iv (tS tq tn (tE tq tn i))), (iv (tE tq tn (tE tq tn i))), (iv (u)), (iv (0)), bt, sz, cl)) := by
  refine goZ (S := Int) (post := fun r u => r = iv 1 ∧ CV u (tV tq tn (tE tq tn i))) (ws' := fun u => wM E a (mm, kp, wa, (iv (ik)), fd, gf, tp, (iv (tn)), (iv (tK tq tn (tE tq tn i))), (iv (tS tq tn (tE tq tn i))), (iv (tE tq tn (tE tq tn i))), (iv (u)), (iv (0)), bt, sz, cl)) (by decide) (Nat.le_of_ble_eq_true rfl) ?_
  intro pp e s m below meth c ls args Q ret X h hl
  have hl : lv_has ls 2 [(0, .ref (a 0)), (1, .int (iv (wd)))] := hl
  have t0 := hT.1
  have t1 := hT.2.1
  have tr := tok_rng tq i0 i1
  have cr := hcv.1
  have cr2 := hcv.2.1
  refine lv_aload_n X.1 X.2.1 dX5_passes_0 rfl (lv_at hl 0 rfl) ?_
  refine z_get X h 4 0 12 rfl inX5 rfl (by decide) fl_X5_183 rfl dX5_passes_1 ?_
  refine z_if_ne (tgt := 15) X ⟨by decide, by decide⟩ dX5_passes_4 (by decide) (fun c_4 => ?_) (fun c_4 => ?_)
  · exact absurd c_4 (by decide)
  · refine lv_aload_n X.1 X.2.1 dX5_passes_7 rfl (lv_at hl 0 rfl) ?_
    refine z_get X h 4 0 8 rfl inX5 rfl (by decide) fl_X5_177 rfl dX5_passes_8 ?_
    refine lv_iload_n X.1 X.2.1 dX5_passes_11 rfl (lv_at hl 1 rfl) ?_
    refine z_ic_eq (tgt := 17) X ⟨by omega, by omega⟩ rw_ dX5_passes_12 (by decide) (fun c_12 => ?_) (fun c_12 => ?_)
    · refine lv_aload_n X.1 X.2.1 dX5_passes_17 rfl (lv_at hl 0 rfl) ?_
      refine z_av h (run_V (rest := []) X h (c_X5_reads (pt := (tE tq tn i)) hT (by omega) (by omega)) mi_X5_reads ml_X5_187 ⟨Nat.le_of_ble_eq_true rfl, Nat.le_of_ble_eq_true rfl⟩ ⟨rfl, rfl⟩ (Seg.rfl' _) 4 0 rfl rfl rfl rfl hl.1 rfl (Nat.le_of_ble_eq_true rfl) ⟨Nat.zero_le _, Nat.zero_le _⟩ dX5_passes_18) (fun _ => wM_map _ _ _ _) (fun v1 H locs cv1 h => ?_)
      have h : St E _ s H locs (wM E a (mm, kp, wa, (iv (ik)), fd, gf, tp, (iv (tn)), (iv (tK tq tn (tE tq tn i))), (iv (tS tq tn (tE tq tn i))), (iv (tE tq tn (tE tq tn i))), (iv (v1)), (iv (0)), bt, sz, cl)) := h
      have tr1 := tok_rng tq (tn := tn) (i := (tE tq tn i)) (by omega) (by omega)
      have cr1 := cv1.1
      have cq1 := cv1.2.1
      have cn1 := CV_nn cv1
      refine z_iconst X dX5_passes_21 ?_
      exact ret _ _ _ _ _ (v1) h (Or.inr rfl) ⟨rfl, cv1⟩ dX5_passes_22
    · exact absurd hk c_12

set_option maxHeartbeats 4000000 in
theorem c_X5_passes_n (hT : RT tp tq tn) {i : Int} (i0 : 0 ≤ i) (i1 : i ≤ tn) (hcv : CV vl (tV tq tn i)) {wd : Int} (rw_ : r32 wd) (hk : tK tq tn i ≠ wd) : MP E l yX5_passes cX5_passes 2 (some FieldType.boolean) (rmk 3 66) (wM E a (mm, kp, wa, (iv (ik)), fd, gf, tp, (iv (tn)), (iv (tK tq tn i)), (iv (tS tq tn i)), (iv (tE tq tn i)), (iv (vl)), (iv (0)), bt, sz, cl)) [.ref (a 0), .int (iv (wd))] (bz (False)) := by
  refine goB (by decide) (Nat.le_of_ble_eq_true rfl) ?_
  intro pp e s m below meth c ls args Q ret X h hl
  have hl : lv_has ls 2 [(0, .ref (a 0)), (1, .int (iv (wd)))] := hl
  have t0 := hT.1
  have t1 := hT.2.1
  have tr := tok_rng tq i0 i1
  have cr := hcv.1
  have cr2 := hcv.2.1
  refine lv_aload_n X.1 X.2.1 dX5_passes_0 rfl (lv_at hl 0 rfl) ?_
  refine z_get X h 4 0 12 rfl inX5 rfl (by decide) fl_X5_183 rfl dX5_passes_1 ?_
  refine z_if_ne (tgt := 15) X ⟨by decide, by decide⟩ dX5_passes_4 (by decide) (fun c_4 => ?_) (fun c_4 => ?_)
  · exact absurd c_4 (by decide)
  · refine lv_aload_n X.1 X.2.1 dX5_passes_7 rfl (lv_at hl 0 rfl) ?_
    refine z_get X h 4 0 8 rfl inX5 rfl (by decide) fl_X5_177 rfl dX5_passes_8 ?_
    refine lv_iload_n X.1 X.2.1 dX5_passes_11 rfl (lv_at hl 1 rfl) ?_
    refine z_ic_eq (tgt := 17) X ⟨by omega, by omega⟩ rw_ dX5_passes_12 (by decide) (fun c_12 => ?_) (fun c_12 => ?_)
    · exact absurd c_12 hk
    · refine z_iconst X dX5_passes_15 ?_
      exact ret _ _ _ ((bz_f (fun q => q)).symm) dX5_passes_16

set_option maxHeartbeats 4000000 in
theorem c_X5_passes_b (hT : RT tp tq tn) {i : Int} (i0 : 0 ≤ i) (i1 : i ≤ tn) (hcv : CV vl (tV tq tn i)) {wd : Int} (rw_ : r32 wd) : MP E l yX5_passes cX5_passes 2 (some FieldType.boolean) (rmk 3 66) (wM E a (mm, kp, wa, (iv (ik)), fd, gf, tp, (iv (tn)), (iv (tK tq tn i)), (iv (tS tq tn i)), (iv (tE tq tn i)), (iv (vl)), (iv (1)), bt, sz, cl)) [.ref (a 0), .int (iv (wd))] (bz (False)) := by
  refine goB (by decide) (Nat.le_of_ble_eq_true rfl) ?_
  intro pp e s m below meth c ls args Q ret X h hl
  have hl : lv_has ls 2 [(0, .ref (a 0)), (1, .int (iv (wd)))] := hl
  have t0 := hT.1
  have t1 := hT.2.1
  have tr := tok_rng tq i0 i1
  have cr := hcv.1
  have cr2 := hcv.2.1
  refine lv_aload_n X.1 X.2.1 dX5_passes_0 rfl (lv_at hl 0 rfl) ?_
  refine z_get X h 4 0 12 rfl inX5 rfl (by decide) fl_X5_183 rfl dX5_passes_1 ?_
  refine z_if_ne (tgt := 15) X ⟨by decide, by decide⟩ dX5_passes_4 (by decide) (fun c_4 => ?_) (fun c_4 => ?_)
  · refine z_iconst X dX5_passes_15 ?_
    exact ret _ _ _ ((bz_f (fun q => q)).symm) dX5_passes_16
  · exact absurd c_4 (by decide)

set_option maxHeartbeats 4000000 in
theorem c_X5_number_y (hT : RT tp tq tn) {i : Int} (i0 : 0 ≤ i) (i1 : i ≤ tn) (hcv : CV vl (tV tq tn i)) {mx : Int} (m9 : -2 ≤ mx) (m1 : mx ≤ 999) (hk : tK tq tn i = 20) (hn : tV tq tn i ≤ mx) : MI (S := Int) E l yX5_number cX5_number 4 (some FieldType.int) (rmk 3 66) (wM E a (mm, kp, wa, (iv (ik)), fd, gf, tp, (iv (tn)), (iv (tK tq tn i)), (iv (tS tq tn i)), (iv (tE tq tn i)), (iv (vl)), (iv (0)), bt, sz, cl)) [.ref (a 0), .int (iv (0)), .int (iv (mx))] (fun r u => r = iv (tV tq tn i) ∧ CV u (tV tq tn (tE tq tn i))) (fun u => wM E a (mm, kp, wa, (iv (ik)), fd, gf, tp, (iv (tn)), (iv (tK tq tn (tE tq tn i))), (iv (tS tq tn (tE tq tn i))), (iv (tE tq tn (tE tq tn i))), (iv (u)), (iv (0)), bt, sz, cl)) := by
  refine goI (S := Int) (post := fun r u => r = iv (tV tq tn i) ∧ CV u (tV tq tn (tE tq tn i))) (ws' := fun u => wM E a (mm, kp, wa, (iv (ik)), fd, gf, tp, (iv (tn)), (iv (tK tq tn (tE tq tn i))), (iv (tS tq tn (tE tq tn i))), (iv (tE tq tn (tE tq tn i))), (iv (u)), (iv (0)), bt, sz, cl)) (by decide) (Nat.le_of_ble_eq_true rfl) ?_
  intro pp e s m below meth c ls args Q ret X h hl
  have hl : lv_has ls 4 [(0, .ref (a 0)), (1, .int (iv (0))), (2, .int (iv (mx)))] := hl
  have t0 := hT.1
  have t1 := hT.2.1
  have tr := tok_rng tq i0 i1
  have cr := hcv.1
  have cr2 := hcv.2.1
  have vm := (CV_le hcv m1).mpr hn
  have ev := CV_eq hcv m1 vm
  refine lv_aload_n X.1 X.2.1 dX5_number_0 rfl (lv_at hl 0 rfl) ?_
  refine z_get X h 4 0 11 rfl inX5 rfl (by decide) fl_X5_174 rfl dX5_number_1 ?_
  refine lv_istore_n (lv' := [(3, .int (iv (vl))), (0, .ref (a 0)), (1, .int (iv (0))), (2, .int (iv (mx)))]) X.1 X.2.1 dX5_number_4 rfl hl (by decide) rfl (fun ls hl => ?_)
  refine lv_aload_n X.1 X.2.1 dX5_number_5 rfl (lv_at hl 1 rfl) ?_
  refine lv_aload_n X.1 X.2.1 dX5_number_6 rfl (lv_at hl 1 rfl) ?_
  refine z_get X h 4 0 12 rfl inX5 rfl (by decide) fl_X5_183 rfl dX5_number_7 ?_
  refine z_if_ne (tgt := 32) X ⟨by decide, by decide⟩ dX5_number_10 (by decide) (fun c_10 => ?_) (fun c_10 => ?_)
  · exact absurd c_10 (by decide)
  · refine lv_aload_n X.1 X.2.1 dX5_number_13 rfl (lv_at hl 1 rfl) ?_
    refine z_get X h 4 0 8 rfl inX5 rfl (by decide) fl_X5_177 rfl dX5_number_14 ?_
    refine z_bipush X (by decide) dX5_number_17 ?_
    refine z_ic_ne (tgt := 32) X ⟨by omega, by omega⟩ ⟨by decide, by decide⟩ dX5_number_19 (by decide) (fun c_19 => ?_) (fun c_19 => ?_)
    · exact absurd hk c_19
    · refine lv_iload_n X.1 X.2.1 dX5_number_22 rfl (lv_at hl 0 rfl) ?_
      refine lv_i2l (v := (iv (vl)).toInt64) X.1 X.2.1 dX5_number_23 rfl ?_
      refine lv_iload_n X.1 X.2.1 dX5_number_24 rfl (lv_at hl 2 rfl) ?_
      refine lv_iload_n X.1 X.2.1 dX5_number_25 rfl (lv_at hl 3 rfl) ?_
      refine z_pi (run_S (rest := [.ref (a 0)]) X h (c_inI ⟨by omega, by omega⟩ ⟨by decide, by decide⟩ ⟨by omega, by omega⟩) mi_X5_in ml_X5_44 ⟨Nat.le_of_ble_eq_true rfl, Nat.le_of_ble_eq_true rfl⟩ ⟨rfl, rfl⟩ (Seg.nil _) rfl hl.1 rfl (Nat.le_of_ble_eq_true rfl) ⟨Nat.zero_le _, Nat.zero_le _⟩ dX5_number_26) ?_
      refine z_ifb_ne (tgt := 36) X dX5_number_29 (by decide) (fun c_29 => ?_) (fun c_29 => ?_)
      · refine z_iconst X dX5_number_36 ?_
        refine z_put X h 4 0 12 rfl inX5 tyX5 tyX5_ok nmX5 rfl (by decide) fl_X5_183 rfl (by decide) (by decide) (Nat.le_of_ble_eq_true rfl) dX5_number_37 (fun H locs h => ?_)
        have h : St E _ s H locs (wM E a (mm, kp, wa, (iv (ik)), fd, gf, tp, (iv (tn)), (iv (tK tq tn i)), (iv (tS tq tn i)), (iv (tE tq tn i)), (iv (vl)), (iv (0)), bt, sz, cl)) := h
        refine lv_aload_n X.1 X.2.1 dX5_number_40 rfl (lv_at hl 1 rfl) ?_
        refine z_get X h 4 0 12 rfl inX5 rfl (by decide) fl_X5_183 rfl dX5_number_41 ?_
        refine z_if_ne (tgt := 51) X ⟨by decide, by decide⟩ dX5_number_44 (by decide) (fun c_44 => ?_) (fun c_44 => ?_)
        · exact absurd c_44 (by decide)
        · refine lv_aload_n X.1 X.2.1 dX5_number_47 rfl (lv_at hl 1 rfl) ?_
          refine z_av h (run_V (rest := []) X h (c_X5_reads (pt := (tE tq tn i)) hT (by omega) (by omega)) mi_X5_reads ml_X5_187 ⟨Nat.le_of_ble_eq_true rfl, Nat.le_of_ble_eq_true rfl⟩ ⟨rfl, rfl⟩ (Seg.rfl' _) 4 0 rfl rfl rfl rfl hl.1 rfl (Nat.le_of_ble_eq_true rfl) ⟨Nat.zero_le _, Nat.zero_le _⟩ dX5_number_48) (fun _ => wM_map _ _ _ _) (fun v1 H locs cv1 h => ?_)
          have h : St E _ s H locs (wM E a (mm, kp, wa, (iv (ik)), fd, gf, tp, (iv (tn)), (iv (tK tq tn (tE tq tn i))), (iv (tS tq tn (tE tq tn i))), (iv (tE tq tn (tE tq tn i))), (iv (v1)), (iv (0)), bt, sz, cl)) := h
          have tr1 := tok_rng tq (tn := tn) (i := (tE tq tn i)) (by omega) (by omega)
          have cr1 := cv1.1
          have cq1 := cv1.2.1
          have cn1 := CV_nn cv1
          refine lv_iload_n X.1 X.2.1 dX5_number_51 rfl (lv_at hl 0 rfl) ?_
          exact ret _ _ _ _ _ (v1) h ⟨by rw [ev], cv1⟩ dX5_number_52
      · exfalso; omega

set_option maxHeartbeats 4000000 in
theorem c_X5_number_n (hT : RT tp tq tn) {i : Int} (i0 : 0 ≤ i) (i1 : i ≤ tn) (hcv : CV vl (tV tq tn i)) {mx : Int} (m9 : -2 ≤ mx) (m1 : mx ≤ 999) (hn : ¬ (tK tq tn i = 20 ∧ tV tq tn i ≤ mx)) : MI (S := Unit) E l yX5_number cX5_number 4 (some FieldType.int) (rmk 3 66) (wM E a (mm, kp, wa, (iv (ik)), fd, gf, tp, (iv (tn)), (iv (tK tq tn i)), (iv (tS tq tn i)), (iv (tE tq tn i)), (iv (vl)), (iv (0)), bt, sz, cl)) [.ref (a 0), .int (iv (0)), .int (iv (mx))] (fun r _ => r = iv vl) (fun _ => wM E a (mm, kp, wa, (iv (ik)), fd, gf, tp, (iv (tn)), (iv (tK tq tn i)), (iv (tS tq tn i)), (iv (tE tq tn i)), (iv (vl)), (iv (1)), bt, sz, cl)) := by
  refine goI (S := Unit) (post := fun r _ => r = iv vl) (ws' := fun _ => wM E a (mm, kp, wa, (iv (ik)), fd, gf, tp, (iv (tn)), (iv (tK tq tn i)), (iv (tS tq tn i)), (iv (tE tq tn i)), (iv (vl)), (iv (1)), bt, sz, cl)) (by decide) (Nat.le_of_ble_eq_true rfl) ?_
  intro pp e s m below meth c ls args Q ret X h hl
  have hl : lv_has ls 4 [(0, .ref (a 0)), (1, .int (iv (0))), (2, .int (iv (mx)))] := hl
  have t0 := hT.1
  have t1 := hT.2.1
  have tr := tok_rng tq i0 i1
  have cr := hcv.1
  have cr2 := hcv.2.1
  have vm := CV_le hcv m1
  refine lv_aload_n X.1 X.2.1 dX5_number_0 rfl (lv_at hl 0 rfl) ?_
  refine z_get X h 4 0 11 rfl inX5 rfl (by decide) fl_X5_174 rfl dX5_number_1 ?_
  refine lv_istore_n (lv' := [(3, .int (iv (vl))), (0, .ref (a 0)), (1, .int (iv (0))), (2, .int (iv (mx)))]) X.1 X.2.1 dX5_number_4 rfl hl (by decide) rfl (fun ls hl => ?_)
  refine lv_aload_n X.1 X.2.1 dX5_number_5 rfl (lv_at hl 1 rfl) ?_
  refine lv_aload_n X.1 X.2.1 dX5_number_6 rfl (lv_at hl 1 rfl) ?_
  refine z_get X h 4 0 12 rfl inX5 rfl (by decide) fl_X5_183 rfl dX5_number_7 ?_
  refine z_if_ne (tgt := 32) X ⟨by decide, by decide⟩ dX5_number_10 (by decide) (fun c_10 => ?_) (fun c_10 => ?_)
  · exact absurd c_10 (by decide)
  · refine lv_aload_n X.1 X.2.1 dX5_number_13 rfl (lv_at hl 1 rfl) ?_
    refine z_get X h 4 0 8 rfl inX5 rfl (by decide) fl_X5_177 rfl dX5_number_14 ?_
    refine z_bipush X (by decide) dX5_number_17 ?_
    refine z_ic_ne (tgt := 32) X ⟨by omega, by omega⟩ ⟨by decide, by decide⟩ dX5_number_19 (by decide) (fun c_19 => ?_) (fun c_19 => ?_)
    · refine z_iconst X dX5_number_32 ?_
      refine lv_goto (tgt := 37) X.1 X.2.1 dX5_number_33 (by decide) ?_
      refine z_put X h 4 0 12 rfl inX5 tyX5 tyX5_ok nmX5 rfl (by decide) fl_X5_183 rfl (by decide) (by decide) (Nat.le_of_ble_eq_true rfl) dX5_number_37 (fun H locs h => ?_)
      have h : St E _ s H locs (wM E a (mm, kp, wa, (iv (ik)), fd, gf, tp, (iv (tn)), (iv (tK tq tn i)), (iv (tS tq tn i)), (iv (tE tq tn i)), (iv (vl)), (iv (1)), bt, sz, cl)) := h
      refine lv_aload_n X.1 X.2.1 dX5_number_40 rfl (lv_at hl 1 rfl) ?_
      refine z_get X h 4 0 12 rfl inX5 rfl (by decide) fl_X5_183 rfl dX5_number_41 ?_
      refine z_if_ne (tgt := 51) X ⟨by decide, by decide⟩ dX5_number_44 (by decide) (fun c_44 => ?_) (fun c_44 => ?_)
      · refine lv_iload_n X.1 X.2.1 dX5_number_51 rfl (lv_at hl 0 rfl) ?_
        exact ret _ _ _ _ _ () h rfl dX5_number_52
      · exact absurd c_44 (by decide)
    · refine lv_iload_n X.1 X.2.1 dX5_number_22 rfl (lv_at hl 0 rfl) ?_
      refine lv_i2l (v := (iv (vl)).toInt64) X.1 X.2.1 dX5_number_23 rfl ?_
      refine lv_iload_n X.1 X.2.1 dX5_number_24 rfl (lv_at hl 2 rfl) ?_
      refine lv_iload_n X.1 X.2.1 dX5_number_25 rfl (lv_at hl 3 rfl) ?_
      refine z_pi (run_S (rest := [.ref (a 0)]) X h (c_inI ⟨by omega, by omega⟩ ⟨by decide, by decide⟩ ⟨by omega, by omega⟩) mi_X5_in ml_X5_44 ⟨Nat.le_of_ble_eq_true rfl, Nat.le_of_ble_eq_true rfl⟩ ⟨rfl, rfl⟩ (Seg.nil _) rfl hl.1 rfl (Nat.le_of_ble_eq_true rfl) ⟨Nat.zero_le _, Nat.zero_le _⟩ dX5_number_26) ?_
      refine z_ifb_ne (tgt := 36) X dX5_number_29 (by decide) (fun c_29 => ?_) (fun c_29 => ?_)
      · exfalso; exact hn ⟨by omega, vm.mp (by omega)⟩
      · refine z_iconst X dX5_number_32 ?_
        refine lv_goto (tgt := 37) X.1 X.2.1 dX5_number_33 (by decide) ?_
        refine z_put X h 4 0 12 rfl inX5 tyX5 tyX5_ok nmX5 rfl (by decide) fl_X5_183 rfl (by decide) (by decide) (Nat.le_of_ble_eq_true rfl) dX5_number_37 (fun H locs h => ?_)
        have h : St E _ s H locs (wM E a (mm, kp, wa, (iv (ik)), fd, gf, tp, (iv (tn)), (iv (tK tq tn i)), (iv (tS tq tn i)), (iv (tE tq tn i)), (iv (vl)), (iv (1)), bt, sz, cl)) := h
        refine lv_aload_n X.1 X.2.1 dX5_number_40 rfl (lv_at hl 1 rfl) ?_
        refine z_get X h 4 0 12 rfl inX5 rfl (by decide) fl_X5_183 rfl dX5_number_41 ?_
        refine z_if_ne (tgt := 51) X ⟨by decide, by decide⟩ dX5_number_44 (by decide) (fun c_44 => ?_) (fun c_44 => ?_)
        · refine lv_iload_n X.1 X.2.1 dX5_number_51 rfl (lv_at hl 0 rfl) ?_
          exact ret _ _ _ _ _ () h rfl dX5_number_52
        · exact absurd c_44 (by decide)

set_option maxHeartbeats 4000000 in
theorem c_X5_number_b (hT : RT tp tq tn) {i : Int} (i0 : 0 ≤ i) (i1 : i ≤ tn) (hcv : CV vl (tV tq tn i)) {mx : Int} (m9 : -2 ≤ mx) (m1 : mx ≤ 999) : MI (S := Unit) E l yX5_number cX5_number 4 (some FieldType.int) (rmk 3 66) (wM E a (mm, kp, wa, (iv (ik)), fd, gf, tp, (iv (tn)), (iv (tK tq tn i)), (iv (tS tq tn i)), (iv (tE tq tn i)), (iv (vl)), (iv (1)), bt, sz, cl)) [.ref (a 0), .int (iv (0)), .int (iv (mx))] (fun r _ => r = iv vl) (fun _ => wM E a (mm, kp, wa, (iv (ik)), fd, gf, tp, (iv (tn)), (iv (tK tq tn i)), (iv (tS tq tn i)), (iv (tE tq tn i)), (iv (vl)), (iv (1)), bt, sz, cl)) := by
  refine goI (S := Unit) (post := fun r _ => r = iv vl) (ws' := fun _ => wM E a (mm, kp, wa, (iv (ik)), fd, gf, tp, (iv (tn)), (iv (tK tq tn i)), (iv (tS tq tn i)), (iv (tE tq tn i)), (iv (vl)), (iv (1)), bt, sz, cl)) (by decide) (Nat.le_of_ble_eq_true rfl) ?_
  intro pp e s m below meth c ls args Q ret X h hl
  have hl : lv_has ls 4 [(0, .ref (a 0)), (1, .int (iv (0))), (2, .int (iv (mx)))] := hl
  have t0 := hT.1
  have t1 := hT.2.1
  have tr := tok_rng tq i0 i1
  have cr := hcv.1
  have cr2 := hcv.2.1
  refine lv_aload_n X.1 X.2.1 dX5_number_0 rfl (lv_at hl 0 rfl) ?_
  refine z_get X h 4 0 11 rfl inX5 rfl (by decide) fl_X5_174 rfl dX5_number_1 ?_
  refine lv_istore_n (lv' := [(3, .int (iv (vl))), (0, .ref (a 0)), (1, .int (iv (0))), (2, .int (iv (mx)))]) X.1 X.2.1 dX5_number_4 rfl hl (by decide) rfl (fun ls hl => ?_)
  refine lv_aload_n X.1 X.2.1 dX5_number_5 rfl (lv_at hl 1 rfl) ?_
  refine lv_aload_n X.1 X.2.1 dX5_number_6 rfl (lv_at hl 1 rfl) ?_
  refine z_get X h 4 0 12 rfl inX5 rfl (by decide) fl_X5_183 rfl dX5_number_7 ?_
  refine z_if_ne (tgt := 32) X ⟨by decide, by decide⟩ dX5_number_10 (by decide) (fun c_10 => ?_) (fun c_10 => ?_)
  · refine z_iconst X dX5_number_32 ?_
    refine lv_goto (tgt := 37) X.1 X.2.1 dX5_number_33 (by decide) ?_
    refine z_put X h 4 0 12 rfl inX5 tyX5 tyX5_ok nmX5 rfl (by decide) fl_X5_183 rfl (by decide) (by decide) (Nat.le_of_ble_eq_true rfl) dX5_number_37 (fun H locs h => ?_)
    have h : St E _ s H locs (wM E a (mm, kp, wa, (iv (ik)), fd, gf, tp, (iv (tn)), (iv (tK tq tn i)), (iv (tS tq tn i)), (iv (tE tq tn i)), (iv (vl)), (iv (1)), bt, sz, cl)) := h
    refine lv_aload_n X.1 X.2.1 dX5_number_40 rfl (lv_at hl 1 rfl) ?_
    refine z_get X h 4 0 12 rfl inX5 rfl (by decide) fl_X5_183 rfl dX5_number_41 ?_
    refine z_if_ne (tgt := 51) X ⟨by decide, by decide⟩ dX5_number_44 (by decide) (fun c_44 => ?_) (fun c_44 => ?_)
    · refine lv_iload_n X.1 X.2.1 dX5_number_51 rfl (lv_at hl 0 rfl) ?_
      exact ret _ _ _ _ _ () h rfl dX5_number_52
    · exact absurd c_44 (by decide)
  · exact absurd c_10 (by decide)

set_option maxHeartbeats 4000000 in
theorem c_X5_perhaps_y (hT : RT tp tq tn) {i : Int} (i0 : 0 ≤ i) (i1 : i ≤ tn) (hcv : CV vl (tV tq tn i)) {wd mx so : Int} (rw_ : r32 wd) (m9 : -2 ≤ mx) (m1 : mx ≤ 999) (rs_ : r32 so) (hk : tK tq tn i = wd) (hn : tK tq tn (tE tq tn i) = 20 ∧ tV tq tn (tE tq tn i) ≤ mx) : MI (S := Int) E l yX5_perhaps cX5_perhaps 5 (some FieldType.int) (rmk 4 89) (wM E a (mm, kp, wa, (iv (ik)), fd, gf, tp, (iv (tn)), (iv (tK tq tn i)), (iv (tS tq tn i)), (iv (tE tq tn i)), (iv (vl)), (iv (0)), bt, sz, cl)) [.ref (a 0), .int (iv (wd)), .int (iv (0)), .int (iv (mx)), .int (iv (so))] (fun r u => r = iv (tV tq tn (tE tq tn i)) ∧ CV u (tV tq tn (tE tq tn (tE tq tn i)))) (fun u => wM E a (mm, kp, wa, (iv (ik)), fd, gf, tp, (iv (tn)), (iv (tK tq tn (tE tq tn (tE tq tn i)))), (iv (tS tq tn (tE tq tn (tE tq tn i)))), (iv (tE tq tn (tE tq tn (tE tq tn i)))), (iv (u)), (iv (0)), bt, sz, cl)) := by
  refine goI (S := Int) (post := fun r u => r = iv (tV tq tn (tE tq tn i)) ∧ CV u (tV tq tn (tE tq tn (tE tq tn i)))) (ws' := fun u => wM E a (mm, kp, wa, (iv (ik)), fd, gf, tp, (iv (tn)), (iv (tK tq tn (tE tq tn (tE tq tn i)))), (iv (tS tq tn (tE tq tn (tE tq tn i)))), (iv (tE tq tn (tE tq tn (tE tq tn i)))), (iv (u)), (iv (0)), bt, sz, cl)) (by decide) (Nat.le_of_ble_eq_true rfl) ?_
  intro pp e s m below meth c ls args Q ret X h hl
  have hl : lv_has ls 5 [(0, .ref (a 0)), (1, .int (iv (wd))), (2, .int (iv (0))), (3, .int (iv (mx))), (4, .int (iv (so)))] := hl
  have t0 := hT.1
  have t1 := hT.2.1
  have tr := tok_rng tq i0 i1
  have cr := hcv.1
  have cr2 := hcv.2.1
  refine lv_aload_n X.1 X.2.1 dX5_perhaps_0 rfl (lv_at hl 0 rfl) ?_
  refine lv_iload_n X.1 X.2.1 dX5_perhaps_1 rfl (lv_at hl 1 rfl) ?_
  have cp1 := hk
  refine z_ai h (run_V (rest := []) X h (c_X5_passes_y (i := i) (wd := wd) hT (by omega) (by omega) hcv rw_ cp1) mi_X5_passes ml_X5_190 ⟨Nat.le_of_ble_eq_true rfl, Nat.le_of_ble_eq_true rfl⟩ ⟨rfl, rfl⟩ (Seg.rfl' _) 4 0 rfl rfl rfl rfl hl.1 rfl (Nat.le_of_ble_eq_true rfl) ⟨Nat.zero_le _, Nat.zero_le _⟩ dX5_perhaps_2) (fun _ => wM_map _ _ _ _) (fun r v1 H locs hp h => ?_)
  obtain ⟨rfl, cv1⟩ := hp
  have h : St E _ s H locs (wM E a (mm, kp, wa, (iv (ik)), fd, gf, tp, (iv (tn)), (iv (tK tq tn (tE tq tn i))), (iv (tS tq tn (tE tq tn i))), (iv (tE tq tn (tE tq tn i))), (iv (v1)), (iv (0)), bt, sz, cl)) := h
  have tr1 := tok_rng tq (tn := tn) (i := (tE tq tn i)) (by omega) (by omega)
  have cr1 := cv1.1
  have cq1 := cv1.2.1
  have cn1 := CV_nn cv1
  refine z_if_eq (tgt := 17) X ⟨by decide, by decide⟩ dX5_perhaps_5 (by decide) (fun c_5 => ?_) (fun c_5 => ?_)
  · exact absurd c_5 (by decide)
  · refine lv_aload_n X.1 X.2.1 dX5_perhaps_8 rfl (lv_at hl 0 rfl) ?_
    refine lv_iload_n X.1 X.2.1 dX5_perhaps_9 rfl (lv_at hl 2 rfl) ?_
    refine lv_iload_n X.1 X.2.1 dX5_perhaps_10 rfl (lv_at hl 3 rfl) ?_
    have cp2 := hn
    have cm2 := CV_nn cv1
    refine z_ai h (run_V (rest := []) X h (c_X5_number_y (i := (tE tq tn i)) (mx := mx) hT (by omega) (by omega) cv1 (by omega) (by omega) cp2.1 cp2.2) mi_X5_number ml_X5_193 ⟨Nat.le_of_ble_eq_true rfl, Nat.le_of_ble_eq_true rfl⟩ ⟨rfl, rfl⟩ (Seg.rfl' _) 4 0 rfl rfl rfl rfl hl.1 rfl (Nat.le_of_ble_eq_true rfl) ⟨Nat.zero_le _, Nat.zero_le _⟩ dX5_perhaps_11) (fun _ => wM_map _ _ _ _) (fun r v2 H locs hp h => ?_)
    obtain ⟨rfl, cv2⟩ := hp
    have h : St E _ s H locs (wM E a (mm, kp, wa, (iv (ik)), fd, gf, tp, (iv (tn)), (iv (tK tq tn (tE tq tn (tE tq tn i)))), (iv (tS tq tn (tE tq tn (tE tq tn i)))), (iv (tE tq tn (tE tq tn (tE tq tn i)))), (iv (v2)), (iv (0)), bt, sz, cl)) := h
    have tr2 := tok_rng tq (tn := tn) (i := (tE tq tn (tE tq tn i))) (by omega) (by omega)
    have cr2 := cv2.1
    have cq2 := cv2.2.1
    have cn2 := CV_nn cv2
    refine lv_goto (tgt := 19) X.1 X.2.1 dX5_perhaps_14 (by decide) ?_
    exact ret _ _ _ _ _ (v2) h ⟨rfl, cv2⟩ dX5_perhaps_19

set_option maxHeartbeats 4000000 in
theorem c_X5_perhaps_x (hT : RT tp tq tn) {i : Int} (i0 : 0 ≤ i) (i1 : i ≤ tn) (hcv : CV vl (tV tq tn i)) {wd mx so : Int} (rw_ : r32 wd) (m9 : -2 ≤ mx) (m1 : mx ≤ 999) (rs_ : r32 so) (hk : tK tq tn i = wd) (hn : ¬ (tK tq tn (tE tq tn i) = 20 ∧ tV tq tn (tE tq tn i) ≤ mx)) : MI (S := Int) E l yX5_perhaps cX5_perhaps 5 (some FieldType.int) (rmk 4 89) (wM E a (mm, kp, wa, (iv (ik)), fd, gf, tp, (iv (tn)), (iv (tK tq tn i)), (iv (tS tq tn i)), (iv (tE tq tn i)), (iv (vl)), (iv (0)), bt, sz, cl)) [.ref (a 0), .int (iv (wd)), .int (iv (0)), .int (iv (mx)), .int (iv (so))] (fun r u => r = iv u ∧ CV u (tV tq tn (tE tq tn i))) (fun u => wM E a (mm, kp, wa, (iv (ik)), fd, gf, tp, (iv (tn)), (iv (tK tq tn (tE tq tn i))), (iv (tS tq tn (tE tq tn i))), (iv (tE tq tn (tE tq tn i))), (iv (u)), (iv (1)), bt, sz, cl)) := by
  refine goI (S := Int) (post := fun r u => r = iv u ∧ CV u (tV tq tn (tE tq tn i))) (ws' := fun u => wM E a (mm, kp, wa, (iv (ik)), fd, gf, tp, (iv (tn)), (iv (tK tq tn (tE tq tn i))), (iv (tS tq tn (tE tq tn i))), (iv (tE tq tn (tE tq tn i))), (iv (u)), (iv (1)), bt, sz, cl)) (by decide) (Nat.le_of_ble_eq_true rfl) ?_
  intro pp e s m below meth c ls args Q ret X h hl
  have hl : lv_has ls 5 [(0, .ref (a 0)), (1, .int (iv (wd))), (2, .int (iv (0))), (3, .int (iv (mx))), (4, .int (iv (so)))] := hl
  have t0 := hT.1
  have t1 := hT.2.1
  have tr := tok_rng tq i0 i1
  have cr := hcv.1
  have cr2 := hcv.2.1
  refine lv_aload_n X.1 X.2.1 dX5_perhaps_0 rfl (lv_at hl 0 rfl) ?_
  refine lv_iload_n X.1 X.2.1 dX5_perhaps_1 rfl (lv_at hl 1 rfl) ?_
  have cp1 := hk
  refine z_ai h (run_V (rest := []) X h (c_X5_passes_y (i := i) (wd := wd) hT (by omega) (by omega) hcv rw_ cp1) mi_X5_passes ml_X5_190 ⟨Nat.le_of_ble_eq_true rfl, Nat.le_of_ble_eq_true rfl⟩ ⟨rfl, rfl⟩ (Seg.rfl' _) 4 0 rfl rfl rfl rfl hl.1 rfl (Nat.le_of_ble_eq_true rfl) ⟨Nat.zero_le _, Nat.zero_le _⟩ dX5_perhaps_2) (fun _ => wM_map _ _ _ _) (fun r v1 H locs hp h => ?_)
  obtain ⟨rfl, cv1⟩ := hp
  have h : St E _ s H locs (wM E a (mm, kp, wa, (iv (ik)), fd, gf, tp, (iv (tn)), (iv (tK tq tn (tE tq tn i))), (iv (tS tq tn (tE tq tn i))), (iv (tE tq tn (tE tq tn i))), (iv (v1)), (iv (0)), bt, sz, cl)) := h
  have tr1 := tok_rng tq (tn := tn) (i := (tE tq tn i)) (by omega) (by omega)
  have cr1 := cv1.1
  have cq1 := cv1.2.1
  have cn1 := CV_nn cv1
  refine z_if_eq (tgt := 17) X ⟨by decide, by decide⟩ dX5_perhaps_5 (by decide) (fun c_5 => ?_) (fun c_5 => ?_)
  · exact absurd c_5 (by decide)
  · refine lv_aload_n X.1 X.2.1 dX5_perhaps_8 rfl (lv_at hl 0 rfl) ?_
    refine lv_iload_n X.1 X.2.1 dX5_perhaps_9 rfl (lv_at hl 2 rfl) ?_
    refine lv_iload_n X.1 X.2.1 dX5_perhaps_10 rfl (lv_at hl 3 rfl) ?_
    have cp2 := hn
    refine z_ai h (run_V (rest := []) X h (c_X5_number_n (i := (tE tq tn i)) (mx := mx) hT (by omega) (by omega) cv1 (by omega) (by omega) cp2) mi_X5_number ml_X5_193 ⟨Nat.le_of_ble_eq_true rfl, Nat.le_of_ble_eq_true rfl⟩ ⟨rfl, rfl⟩ (Seg.rfl' _) 4 0 rfl rfl rfl rfl hl.1 rfl (Nat.le_of_ble_eq_true rfl) ⟨Nat.zero_le _, Nat.zero_le _⟩ dX5_perhaps_11) (fun _ => wM_map _ _ _ _) (fun r u_ H locs hp h => ?_)
    subst hp
    have h : St E _ s H locs (wM E a (mm, kp, wa, (iv (ik)), fd, gf, tp, (iv (tn)), (iv (tK tq tn (tE tq tn i))), (iv (tS tq tn (tE tq tn i))), (iv (tE tq tn (tE tq tn i))), (iv (v1)), (iv (1)), bt, sz, cl)) := h
    refine lv_goto (tgt := 19) X.1 X.2.1 dX5_perhaps_14 (by decide) ?_
    exact ret _ _ _ _ _ (v1) h ⟨rfl, cv1⟩ dX5_perhaps_19

set_option maxHeartbeats 4000000 in
theorem c_X5_perhaps_n (hT : RT tp tq tn) {i : Int} (i0 : 0 ≤ i) (i1 : i ≤ tn) (hcv : CV vl (tV tq tn i)) {wd mx so : Int} (rw_ : r32 wd) (rs_ : r32 so) (hk : ¬ tK tq tn i = wd) : MP E l yX5_perhaps cX5_perhaps 5 (some FieldType.int) (rmk 4 89) (wM E a (mm, kp, wa, (iv (ik)), fd, gf, tp, (iv (tn)), (iv (tK tq tn i)), (iv (tS tq tn i)), (iv (tE tq tn i)), (iv (vl)), (iv (0)), bt, sz, cl)) [.ref (a 0), .int (iv (wd)), .int (iv (0)), .int (iv (mx)), .int (iv (so))] (so) := by
  refine goP (by decide) (Nat.le_of_ble_eq_true rfl) ?_
  intro pp e s m below meth c ls args Q ret X h hl
  have hl : lv_has ls 5 [(0, .ref (a 0)), (1, .int (iv (wd))), (2, .int (iv (0))), (3, .int (iv (mx))), (4, .int (iv (so)))] := hl
  have t0 := hT.1
  have t1 := hT.2.1
  have tr := tok_rng tq i0 i1
  have cr := hcv.1
  have cr2 := hcv.2.1
  refine lv_aload_n X.1 X.2.1 dX5_perhaps_0 rfl (lv_at hl 0 rfl) ?_
  refine lv_iload_n X.1 X.2.1 dX5_perhaps_1 rfl (lv_at hl 1 rfl) ?_
  have cp1 := hk
  refine z_pi (run_V (rest := []) X h (c_X5_passes_n (i := i) (wd := wd) hT (by omega) (by omega) hcv rw_ cp1) mi_X5_passes ml_X5_190 ⟨Nat.le_of_ble_eq_true rfl, Nat.le_of_ble_eq_true rfl⟩ ⟨rfl, rfl⟩ (Seg.rfl' _) 4 0 rfl rfl rfl rfl hl.1 rfl (Nat.le_of_ble_eq_true rfl) ⟨Nat.zero_le _, Nat.zero_le _⟩ dX5_perhaps_2) ?_
  refine z_ifb_eq (tgt := 17) X dX5_perhaps_5 (by decide) (fun c_5 => ?_) (fun c_5 => ?_)
  · refine lv_iload X.1 X.2.1 dX5_perhaps_17 (lv_at hl 4 rfl) ?_
    exact ret _ _ _ (rfl) dX5_perhaps_19
  · exact c_5.elim
