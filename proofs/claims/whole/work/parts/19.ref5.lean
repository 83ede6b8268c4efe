variable {E : EV} {l : Launch} {a : Nat → Nat} {mm kp wa fd gf tp bt sz : Nat → Int32} {cl : Nat → Int64} {ik tn tk bg pt vl bd : Int} {A : Es} {K : Es} {ph tq bq sq : Int → Int} {cq : Int → Int → Int64}
set_option maxHeartbeats 4000000 in
theorem c_X5_sun (hS : RepM (mm, kp, wa, (iv (ik)), fd, gf, tp, (iv (tn)), (iv (tk)), (iv (bg)), (iv (pt)), (iv (vl)), (iv (bd)), bt, sz, cl) (A, K, ik, ph, tq, tn, bq, sq, cq)) {x : Int} (r_x : r32 x) {v : Int} (r_v : r32 v) : MI (S := Mc) E l yX5_sun cX5_sun 3 (some FieldType.int) (rmk 1 23) (wM E a (mm, kp, wa, (iv (ik)), fd, gf, tp, (iv (tn)), (iv (tk)), (iv (bg)), (iv (pt)), (iv (vl)), (iv (bd)), bt, sz, cl)) [.ref (a 0), .int (iv (x)), .int (iv (v))] (fun r u => r = iv (q_sun A ph x v).1 ∧ RepM u ((q_sun A ph x v).2.1, K, ik, (q_sun A ph x v).2.2, tq, tn, bq, sq, cq)) (fun u => wM E a u) := by
  refine goI (S := Mc) (post := fun r u => r = iv (q_sun A ph x v).1 ∧ RepM u ((q_sun A ph x v).2.1, K, ik, (q_sun A ph x v).2.2, tq, tn, bq, sq, cq)) (ws' := fun u => wM E a u) (by decide) (Nat.le_of_ble_eq_true rfl) ?_
  intro pp e s m below meth c ls args Q ret X h hl
  have hl : lv_has ls 3 [(0, .ref (a 0)), (1, .int (iv (x))), (2, .int (iv (v)))] := hl
  have hR : RM mm A := hS.1.1
  have hI : IA A := hS.1.2.1
  have hr9 : hr A ≤ 99999 := hS.1.2.2
  have hF : RF 7 fd ph := hS.2.2.1
  have hK := hS.2.1
  have hT := hS.2.2.2.1
  have hB := hS.2.2.2.2
  have hh : hr A < 1000000 := by omega
  have n8 := hI.n8
  have n0 := hI.n0
  have h0 := hI.h0
  refine lv_iload_n X.1 X.2.1 dX5_sun_0 rfl (lv_at hl 1 rfl) ?_
  refine lv_i2l (v := (iv (x)).toInt64) X.1 X.2.1 dX5_sun_1 rfl ?_
  refine z_iconst X dX5_sun_2 ?_
  refine z_bipush X (by decide) dX5_sun_3 ?_
  refine z_pi (run_S (rest := []) X h (c_inI r_x ⟨by decide, by decide⟩ ⟨by decide, by decide⟩) mi_X5_in ml_X5_44 ⟨Nat.le_of_ble_eq_true rfl, Nat.le_of_ble_eq_true rfl⟩ ⟨rfl, rfl⟩ (Seg.nil _) rfl hl.1 rfl (Nat.le_of_ble_eq_true rfl) ⟨Nat.zero_le _, Nat.zero_le _⟩ dX5_sun_5) ?_
  refine z_ifb_eq (tgt := 33) X dX5_sun_8 (by decide) (fun c_8 => ?_) (fun c_8 => ?_)
  · refine lv_aload_n X.1 X.2.1 dX5_sun_33 rfl (lv_at hl 0 rfl) ?_
    refine z_ldc (z := (-1000000001)) X ct_X5_38 (by decide) dX5_sun_34 ?_
    refine z_ai h (run_V (rest := []) X h (c_X5_finds (k := 0) hF (by decide) (by decide) (by decide)) mi_X5_finds ml_X5_40 ⟨Nat.le_of_ble_eq_true rfl, Nat.le_of_ble_eq_true rfl⟩ ⟨rfl, rfl⟩ (Seg.rfl' _) 4 0 rfl rfl rfl rfl hl.1 rfl (Nat.le_of_ble_eq_true rfl) ⟨Nat.zero_le _, Nat.zero_le _⟩ dX5_sun_36) (fun _ => rfl) (fun r fd1 H locs hp h => ?_)
    obtain ⟨rfl, hF1⟩ := hp
    have h : St E _ s H locs (wM E a (mm, kp, wa, (iv (ik)), fd1, gf, tp, (iv (tn)), (iv (tk)), (iv (bg)), (iv (pt)), (iv (vl)), (iv (bd)), bt, sz, cl)) := h
    have e9 : q_sun A ph x v = ((-1000000001), A, (bump ph 0)) := by unfold q_sun; (repeat (first | rw [if_pos (by omega)] | rw [if_neg (by omega)])); try rfl
    exact ret _ _ _ _ _ (mm, kp, wa, (iv (ik)), fd1, gf, tp, (iv (tn)), (iv (tk)), (iv (bg)), (iv (pt)), (iv (vl)), (iv (bd)), bt, sz, cl) h (by rw [e9]; exact ⟨rfl, ⟨hR, hI, hr9⟩, hK, hF1, hT, hB⟩) dX5_sun_39
  · refine lv_iload_n X.1 X.2.1 dX5_sun_11 rfl (lv_at hl 2 rfl) ?_
    refine lv_i2l (v := (iv (v)).toInt64) X.1 X.2.1 dX5_sun_12 rfl ?_
    refine z_iconst X dX5_sun_13 ?_
    refine z_bipush X (by decide) dX5_sun_14 ?_
    refine z_pi (run_S (rest := []) X h (c_inI r_v ⟨by decide, by decide⟩ ⟨by decide, by decide⟩) mi_X5_in ml_X5_44 ⟨Nat.le_of_ble_eq_true rfl, Nat.le_of_ble_eq_true rfl⟩ ⟨rfl, rfl⟩ (Seg.nil _) rfl hl.1 rfl (Nat.le_of_ble_eq_true rfl) ⟨Nat.zero_le _, Nat.zero_le _⟩ dX5_sun_16) ?_
    refine z_ifb_eq (tgt := 33) X dX5_sun_19 (by decide) (fun c_19 => ?_) (fun c_19 => ?_)
    · refine lv_aload_n X.1 X.2.1 dX5_sun_33 rfl (lv_at hl 0 rfl) ?_
      refine z_ldc (z := (-1000000001)) X ct_X5_38 (by decide) dX5_sun_34 ?_
      refine z_ai h (run_V (rest := []) X h (c_X5_finds (k := 0) hF (by decide) (by decide) (by decide)) mi_X5_finds ml_X5_40 ⟨Nat.le_of_ble_eq_true rfl, Nat.le_of_ble_eq_true rfl⟩ ⟨rfl, rfl⟩ (Seg.rfl' _) 4 0 rfl rfl rfl rfl hl.1 rfl (Nat.le_of_ble_eq_true rfl) ⟨Nat.zero_le _, Nat.zero_le _⟩ dX5_sun_36) (fun _ => rfl) (fun r fd2 H locs hp h => ?_)
      obtain ⟨rfl, hF2⟩ := hp
      have h : St E _ s H locs (wM E a (mm, kp, wa, (iv (ik)), fd2, gf, tp, (iv (tn)), (iv (tk)), (iv (bg)), (iv (pt)), (iv (vl)), (iv (bd)), bt, sz, cl)) := h
      have e9 : q_sun A ph x v = ((-1000000001), A, (bump ph 0)) := by unfold q_sun; (repeat (first | rw [if_pos (by omega)] | rw [if_neg (by omega)])); try rfl
      exact ret _ _ _ _ _ (mm, kp, wa, (iv (ik)), fd2, gf, tp, (iv (tn)), (iv (tk)), (iv (bg)), (iv (pt)), (iv (vl)), (iv (bd)), bt, sz, cl) h (by rw [e9]; exact ⟨rfl, ⟨hR, hI, hr9⟩, hK, hF2, hT, hB⟩) dX5_sun_39
    · refine lv_aload_n X.1 X.2.1 dX5_sun_22 rfl (lv_at hl 0 rfl) ?_
      refine z_iconst X dX5_sun_23 ?_
      refine lv_iload_n X.1 X.2.1 dX5_sun_24 rfl (lv_at hl 1 rfl) ?_
      refine z_iadd X dX5_sun_25 ?_
      refine lv_iload_n X.1 X.2.1 dX5_sun_26 rfl (lv_at hl 2 rfl) ?_
      refine z_ai h (run_V (rest := []) X h (c_X5_becomes (i := 2 + x) (v := v) (x := sn A x) (by omega) (by omega) (hR.2.2.1 x (by omega) (by omega))) mi_X5_becomes ml_X5_73 ⟨Nat.le_of_ble_eq_true rfl, Nat.le_of_ble_eq_true rfl⟩ ⟨rfl, rfl⟩ (Seg.rfl' _) 4 0 rfl rfl rfl rfl hl.1 rfl (Nat.le_of_ble_eq_true rfl) ⟨Nat.zero_le _, Nat.zero_le _⟩ dX5_sun_27) (fun _ => rfl) (fun r u H locs hp h => ?_)
      obtain ⟨rfl, rfl⟩ := hp
      have h : St E _ s H locs (wM E a ((upd mm (2 + x : Int).toNat (iv (v))), kp, wa, (iv (ik)), fd, gf, tp, (iv (tn)), (iv (tk)), (iv (bg)), (iv (pt)), (iv (vl)), (iv (bd)), bt, sz, cl)) := h
      have hR3 : RM (upd mm (2 + x : Int).toNat (iv (v))) (su A x v) := RM_su hR (by omega) (by omega)
      refine lv_goto (tgt := 39) X.1 X.2.1 dX5_sun_30 (by decide) ?_
      have e9 : q_sun A ph x v = (sn A x, (su A x v), ph) := by unfold q_sun; (repeat (first | rw [if_pos (by omega)] | rw [if_neg (by omega)])); try rfl
      exact ret _ _ _ _ _ ((upd mm (2 + x : Int).toNat (iv (v))), kp, wa, (iv (ik)), fd, gf, tp, (iv (tn)), (iv (tk)), (iv (bg)), (iv (pt)), (iv (vl)), (iv (bd)), bt, sz, cl) h (by rw [e9]; exact ⟨rfl, ⟨hR3, (IA_su hI (by omega) (by omega)), hr9⟩, hK, hF, hT, hB⟩) dX5_sun_39

set_option maxHeartbeats 4000000 in
theorem c_X5_chair (hS : RepM (mm, kp, wa, (iv (ik)), fd, gf, tp, (iv (tn)), (iv (tk)), (iv (bg)), (iv (pt)), (iv (vl)), (iv (bd)), bt, sz, cl) (A, K, ik, ph, tq, tn, bq, sq, cq)) {x : Int} (r_x : r32 x) : MI (S := Mc) E l yX5_chair cX5_chair 2 (some FieldType.int) (rmk 2 45) (wM E a (mm, kp, wa, (iv (ik)), fd, gf, tp, (iv (tn)), (iv (tk)), (iv (bg)), (iv (pt)), (iv (vl)), (iv (bd)), bt, sz, cl)) [.ref (a 0), .int (iv (x))] (fun r u => r = iv (q_chair A ph x).1 ∧ RepM u ((q_chair A ph x).2.1, K, ik, (q_chair A ph x).2.2, tq, tn, bq, sq, cq)) (fun u => wM E a u) := by
  refine goI (S := Mc) (post := fun r u => r = iv (q_chair A ph x).1 ∧ RepM u ((q_chair A ph x).2.1, K, ik, (q_chair A ph x).2.2, tq, tn, bq, sq, cq)) (ws' := fun u => wM E a u) (by decide) (Nat.le_of_ble_eq_true rfl) ?_
  intro pp e s m below meth c ls args Q ret X h hl
  have hl : lv_has ls 2 [(0, .ref (a 0)), (1, .int (iv (x)))] := hl
  have hR : RM mm A := hS.1.1
  have hI : IA A := hS.1.2.1
  have hr9 : hr A ≤ 99999 := hS.1.2.2
  have hF : RF 7 fd ph := hS.2.2.1
  have hK := hS.2.1
  have hT := hS.2.2.2.1
  have hB := hS.2.2.2.2
  have hh : hr A < 1000000 := by omega
  have n8 := hI.n8
  have n0 := hI.n0
  have h0 := hI.h0
  refine lv_iload_n X.1 X.2.1 dX5_chair_0 rfl (lv_at hl 1 rfl) ?_
  refine lv_i2l (v := (iv (x)).toInt64) X.1 X.2.1 dX5_chair_1 rfl ?_
  refine z_iconst X dX5_chair_2 ?_
  refine z_bipush X (by decide) dX5_chair_3 ?_
  refine z_pi (run_S (rest := []) X h (c_inI r_x ⟨by decide, by decide⟩ ⟨by decide, by decide⟩) mi_X5_in ml_X5_44 ⟨Nat.le_of_ble_eq_true rfl, Nat.le_of_ble_eq_true rfl⟩ ⟨rfl, rfl⟩ (Seg.nil _) rfl hl.1 rfl (Nat.le_of_ble_eq_true rfl) ⟨Nat.zero_le _, Nat.zero_le _⟩ dX5_chair_5) ?_
  refine z_ifb_eq (tgt := 19) X dX5_chair_8 (by decide) (fun c_8 => ?_) (fun c_8 => ?_)
  · refine lv_aload_n X.1 X.2.1 dX5_chair_19 rfl (lv_at hl 0 rfl) ?_
    refine z_ldc (z := (-1000000001)) X ct_X5_38 (by decide) dX5_chair_20 ?_
    refine z_ai h (run_V (rest := []) X h (c_X5_finds (k := 0) hF (by decide) (by decide) (by decide)) mi_X5_finds ml_X5_40 ⟨Nat.le_of_ble_eq_true rfl, Nat.le_of_ble_eq_true rfl⟩ ⟨rfl, rfl⟩ (Seg.rfl' _) 4 0 rfl rfl rfl rfl hl.1 rfl (Nat.le_of_ble_eq_true rfl) ⟨Nat.zero_le _, Nat.zero_le _⟩ dX5_chair_22) (fun _ => rfl) (fun r fd1 H locs hp h => ?_)
    obtain ⟨rfl, hF1⟩ := hp
    have h : St E _ s H locs (wM E a (mm, kp, wa, (iv (ik)), fd1, gf, tp, (iv (tn)), (iv (tk)), (iv (bg)), (iv (pt)), (iv (vl)), (iv (bd)), bt, sz, cl)) := h
    have e9 : q_chair A ph x = ((-1000000001), A, (bump ph 0)) := by unfold q_chair; (repeat (first | rw [if_pos (by omega)] | rw [if_neg (by omega)])); try rfl
    exact ret _ _ _ _ _ (mm, kp, wa, (iv (ik)), fd1, gf, tp, (iv (tn)), (iv (tk)), (iv (bg)), (iv (pt)), (iv (vl)), (iv (bd)), bt, sz, cl) h (by rw [e9]; exact ⟨rfl, ⟨hR, hI, hr9⟩, hK, hF1, hT, hB⟩) dX5_chair_25
  · refine lv_aload_n X.1 X.2.1 dX5_chair_11 rfl (lv_at hl 0 rfl) ?_
    refine lv_iload_n X.1 X.2.1 dX5_chair_12 rfl (lv_at hl 1 rfl) ?_
    refine z_pi (run_V (rest := []) X h (c_X5_onChair (ch := x) hR hI r_x) mi_X5_onChair ml_X5_59 ⟨Nat.le_of_ble_eq_true rfl, Nat.le_of_ble_eq_true rfl⟩ ⟨rfl, rfl⟩ (Seg.rfl' _) 4 0 rfl rfl rfl rfl hl.1 rfl (Nat.le_of_ble_eq_true rfl) ⟨Nat.zero_le _, Nat.zero_le _⟩ dX5_chair_13) ?_
    refine lv_goto (tgt := 25) X.1 X.2.1 dX5_chair_16 (by decide) ?_
    have e9 : q_chair A ph x = (onC A x, A, ph) := by unfold q_chair; (repeat (first | rw [if_pos (by omega)] | rw [if_neg (by omega)])); try rfl
    exact ret _ _ _ _ _ (mm, kp, wa, (iv (ik)), fd, gf, tp, (iv (tn)), (iv (tk)), (iv (bg)), (iv (pt)), (iv (vl)), (iv (bd)), bt, sz, cl) h (by rw [e9]; exact ⟨rfl, ⟨hR, hI, hr9⟩, hK, hF, hT, hB⟩) dX5_chair_25

set_option maxHeartbeats 4000000 in
theorem c_X5_now (hS : RepM (mm, kp, wa, (iv (ik)), fd, gf, tp, (iv (tn)), (iv (tk)), (iv (bg)), (iv (pt)), (iv (vl)), (iv (bd)), bt, sz, cl) (A, K, ik, ph, tq, tn, bq, sq, cq)) {w : Int} (r_w : r32 w) : MI (S := Mc) E l yX5_now cX5_now 2 (some FieldType.int) (rmk 3 66) (wM E a (mm, kp, wa, (iv (ik)), fd, gf, tp, (iv (tn)), (iv (tk)), (iv (bg)), (iv (pt)), (iv (vl)), (iv (bd)), bt, sz, cl)) [.ref (a 0), .int (iv (w))] (fun r u => r = iv (q_now A ph w).1 ∧ RepM u ((q_now A ph w).2.1, K, ik, (q_now A ph w).2.2, tq, tn, bq, sq, cq)) (fun u => wM E a u) := by
  refine goI (S := Mc) (post := fun r u => r = iv (q_now A ph w).1 ∧ RepM u ((q_now A ph w).2.1, K, ik, (q_now A ph w).2.2, tq, tn, bq, sq, cq)) (ws' := fun u => wM E a u) (by decide) (Nat.le_of_ble_eq_true rfl) ?_
  intro pp e s m below meth c ls args Q ret X h hl
  have hl : lv_has ls 2 [(0, .ref (a 0)), (1, .int (iv (w)))] := hl
  have hR : RM mm A := hS.1.1
  have hI : IA A := hS.1.2.1
  have hr9 : hr A ≤ 99999 := hS.1.2.2
  have hF : RF 7 fd ph := hS.2.2.1
  have hK := hS.2.1
  have hT := hS.2.2.2.1
  have hB := hS.2.2.2.2
  have hh : hr A < 1000000 := by omega
  have n8 := hI.n8
  have n0 := hI.n0
  have h0 := hI.h0
  refine lv_iload_n X.1 X.2.1 dX5_now_0 rfl (lv_at hl 1 rfl) ?_
  rcases (show w = 0 ∨ w = 1 ∨ w = 2 ∨ w = 3 ∨ w = 4 ∨ w = 5 ∨ w = 6 ∨ (w < 0 ∨ 6 < w) by omega) with c_1 | c_1 | c_1 | c_1 | c_1 | c_1 | c_1 | c_1
  · refine z_tabIn (tgt := 44) X 0 c_1 ⟨by decide, by decide⟩ (by decide) (by decide) dX5_now_1 rfl (by decide) ?_
    refine lv_aload_n X.1 X.2.1 dX5_now_44 rfl (lv_at hl 0 rfl) ?_
    refine z_get X h 4 0 0 rfl inX5 rfl (by decide) fl_X5_9 rfl dX5_now_45 ?_
    refine z_iconst X dX5_now_48 ?_
    refine z_iald (v := hr A) X h 1 rfl (by omega) (by omega) (by decide) hR.1 dX5_now_49 ?_
    have e9 : q_now A ph w = (hr A, A, ph) := by unfold q_now; (repeat (first | rw [if_pos (by omega)] | rw [if_neg (by omega)])); try rfl
    exact ret _ _ _ _ _ (mm, kp, wa, (iv (ik)), fd, gf, tp, (iv (tn)), (iv (tk)), (iv (bg)), (iv (pt)), (iv (vl)), (iv (bd)), bt, sz, cl) h (by rw [e9]; exact ⟨rfl, ⟨hR, hI, hr9⟩, hK, hF, hT, hB⟩) dX5_now_50
  · refine z_tabIn (tgt := 51) X 1 c_1 ⟨by decide, by decide⟩ (by decide) (by decide) dX5_now_1 rfl (by decide) ?_
    refine lv_aload_n X.1 X.2.1 dX5_now_51 rfl (lv_at hl 0 rfl) ?_
    refine z_get X h 4 0 0 rfl inX5 rfl (by decide) fl_X5_9 rfl dX5_now_52 ?_
    refine z_iconst X dX5_now_55 ?_
    refine z_iald (v := hr A) X h 1 rfl (by omega) (by omega) (by decide) hR.1 dX5_now_56 ?_
    refine z_bipush X (by decide) dX5_now_57 ?_
    refine z_irem X (by omega) (by omega) (by omega) (by omega) dX5_now_59 ?_
    have e9 : q_now A ph w = ((hr A) % (10), A, ph) := by unfold q_now; (repeat (first | rw [if_pos (by omega)] | rw [if_neg (by omega)])); try rfl
    exact ret _ _ _ _ _ (mm, kp, wa, (iv (ik)), fd, gf, tp, (iv (tn)), (iv (tk)), (iv (bg)), (iv (pt)), (iv (vl)), (iv (bd)), bt, sz, cl) h (by rw [e9]; exact ⟨rfl, ⟨hR, hI, hr9⟩, hK, hF, hT, hB⟩) dX5_now_60
  · refine z_tabIn (tgt := 61) X 2 c_1 ⟨by decide, by decide⟩ (by decide) (by decide) dX5_now_1 rfl (by decide) ?_
    refine lv_aload_n X.1 X.2.1 dX5_now_61 rfl (lv_at hl 0 rfl) ?_
    refine z_pi (run_V (rest := []) X h (c_X5_sunNow hR hI hh) mi_X5_sunNow ml_X5_62 ⟨Nat.le_of_ble_eq_true rfl, Nat.le_of_ble_eq_true rfl⟩ ⟨rfl, rfl⟩ (Seg.rfl' _) 4 0 rfl rfl rfl rfl hl.1 rfl (Nat.le_of_ble_eq_true rfl) ⟨Nat.zero_le _, Nat.zero_le _⟩ dX5_now_62) ?_
    have e9 : q_now A ph w = (sunN A, A, ph) := by unfold q_now; (repeat (first | rw [if_pos (by omega)] | rw [if_neg (by omega)])); try rfl
    exact ret _ _ _ _ _ (mm, kp, wa, (iv (ik)), fd, gf, tp, (iv (tn)), (iv (tk)), (iv (bg)), (iv (pt)), (iv (vl)), (iv (bd)), bt, sz, cl) h (by rw [e9]; exact ⟨rfl, ⟨hR, hI, hr9⟩, hK, hF, hT, hB⟩) dX5_now_65
  · refine z_tabIn (tgt := 66) X 3 c_1 ⟨by decide, by decide⟩ (by decide) (by decide) dX5_now_1 rfl (by decide) ?_
    refine lv_aload_n X.1 X.2.1 dX5_now_66 rfl (lv_at hl 0 rfl) ?_
    refine z_pi (run_V (rest := []) X h (c_X5_sitters hR hI) mi_X5_sitters ml_X5_82 ⟨Nat.le_of_ble_eq_true rfl, Nat.le_of_ble_eq_true rfl⟩ ⟨rfl, rfl⟩ (Seg.rfl' _) 4 0 rfl rfl rfl rfl hl.1 rfl (Nat.le_of_ble_eq_true rfl) ⟨Nat.zero_le _, Nat.zero_le _⟩ dX5_now_67) ?_
    have e9 : q_now A ph w = (setS A, A, ph) := by unfold q_now; (repeat (first | rw [if_pos (by omega)] | rw [if_neg (by omega)])); try rfl
    exact ret _ _ _ _ _ (mm, kp, wa, (iv (ik)), fd, gf, tp, (iv (tn)), (iv (tk)), (iv (bg)), (iv (pt)), (iv (vl)), (iv (bd)), bt, sz, cl) h (by rw [e9]; exact ⟨rfl, ⟨hR, hI, hr9⟩, hK, hF, hT, hB⟩) dX5_now_70
  · refine z_tabIn (tgt := 71) X 4 c_1 ⟨by decide, by decide⟩ (by decide) (by decide) dX5_now_1 rfl (by decide) ?_
    refine lv_aload_n X.1 X.2.1 dX5_now_71 rfl (lv_at hl 0 rfl) ?_
    refine z_pi (run_V (rest := []) X h (c_X5_evenOnes hR hI) mi_X5_evenOnes ml_X5_85 ⟨Nat.le_of_ble_eq_true rfl, Nat.le_of_ble_eq_true rfl⟩ ⟨rfl, rfl⟩ (Seg.rfl' _) 4 0 rfl rfl rfl rfl hl.1 rfl (Nat.le_of_ble_eq_true rfl) ⟨Nat.zero_le _, Nat.zero_le _⟩ dX5_now_72) ?_
    have e9 : q_now A ph w = (setE A, A, ph) := by unfold q_now; (repeat (first | rw [if_pos (by omega)] | rw [if_neg (by omega)])); try rfl
    exact ret _ _ _ _ _ (mm, kp, wa, (iv (ik)), fd, gf, tp, (iv (tn)), (iv (tk)), (iv (bg)), (iv (pt)), (iv (vl)), (iv (bd)), bt, sz, cl) h (by rw [e9]; exact ⟨rfl, ⟨hR, hI, hr9⟩, hK, hF, hT, hB⟩) dX5_now_75
  · refine z_tabIn (tgt := 76) X 5 c_1 ⟨by decide, by decide⟩ (by decide) (by decide) dX5_now_1 rfl (by decide) ?_
    refine lv_aload_n X.1 X.2.1 dX5_now_76 rfl (lv_at hl 0 rfl) ?_
    refine z_pi (run_V (rest := []) X h (c_X5_allBrown hR hI) mi_X5_allBrown ml_X5_88 ⟨Nat.le_of_ble_eq_true rfl, Nat.le_of_ble_eq_true rfl⟩ ⟨rfl, rfl⟩ (Seg.rfl' _) 4 0 rfl rfl rfl rfl hl.1 rfl (Nat.le_of_ble_eq_true rfl) ⟨Nat.zero_le _, Nat.zero_le _⟩ dX5_now_77) ?_
    have e9 : q_now A ph w = (allB A, A, ph) := by unfold q_now; (repeat (first | rw [if_pos (by omega)] | rw [if_neg (by omega)])); try rfl
    exact ret _ _ _ _ _ (mm, kp, wa, (iv (ik)), fd, gf, tp, (iv (tn)), (iv (tk)), (iv (bg)), (iv (pt)), (iv (vl)), (iv (bd)), bt, sz, cl) h (by rw [e9]; exact ⟨rfl, ⟨hR, hI, hr9⟩, hK, hF, hT, hB⟩) dX5_now_80
  · refine z_tabIn (tgt := 81) X 6 c_1 ⟨by decide, by decide⟩ (by decide) (by decide) dX5_now_1 rfl (by decide) ?_
    refine lv_aload_n X.1 X.2.1 dX5_now_81 rfl (lv_at hl 0 rfl) ?_
    refine z_iconst X dX5_now_82 ?_
    refine z_pi (run_V (rest := []) X h (c_X5_sums (wh := 4) hR hI (by decide) (by decide)) mi_X5_sums ml_X5_76 ⟨Nat.le_of_ble_eq_true rfl, Nat.le_of_ble_eq_true rfl⟩ ⟨rfl, rfl⟩ (Seg.rfl' _) 4 0 rfl rfl rfl rfl hl.1 rfl (Nat.le_of_ble_eq_true rfl) ⟨Nat.zero_le _, Nat.zero_le _⟩ dX5_now_83) ?_
    have e9 : q_now A ph w = (sums A 4, A, ph) := by unfold q_now; (repeat (first | rw [if_pos (by omega)] | rw [if_neg (by omega)])); try rfl
    exact ret _ _ _ _ _ (mm, kp, wa, (iv (ik)), fd, gf, tp, (iv (tn)), (iv (tk)), (iv (bg)), (iv (pt)), (iv (vl)), (iv (bd)), bt, sz, cl) h (by rw [e9]; exact ⟨rfl, ⟨hR, hI, hr9⟩, hK, hF, hT, hB⟩) dX5_now_86
  · refine z_tabOut (tgt := 87) X r_w c_1 dX5_now_1 (by decide) ?_
    refine lv_aload_n X.1 X.2.1 dX5_now_87 rfl (lv_at hl 0 rfl) ?_
    refine z_ldc (z := (-1000000001)) X ct_X5_38 (by decide) dX5_now_88 ?_
    refine z_ai h (run_V (rest := []) X h (c_X5_finds (k := 0) hF (by decide) (by decide) (by decide)) mi_X5_finds ml_X5_40 ⟨Nat.le_of_ble_eq_true rfl, Nat.le_of_ble_eq_true rfl⟩ ⟨rfl, rfl⟩ (Seg.rfl' _) 4 0 rfl rfl rfl rfl hl.1 rfl (Nat.le_of_ble_eq_true rfl) ⟨Nat.zero_le _, Nat.zero_le _⟩ dX5_now_90) (fun _ => rfl) (fun r fd1 H locs hp h => ?_)
    obtain ⟨rfl, hF1⟩ := hp
    have h : St E _ s H locs (wM E a (mm, kp, wa, (iv (ik)), fd1, gf, tp, (iv (tn)), (iv (tk)), (iv (bg)), (iv (pt)), (iv (vl)), (iv (bd)), bt, sz, cl)) := h
    have e9 : q_now A ph w = ((-1000000001), A, (bump ph 0)) := by unfold q_now; (repeat (first | rw [if_pos (by omega)] | rw [if_neg (by omega)])); try rfl
    exact ret _ _ _ _ _ (mm, kp, wa, (iv (ik)), fd1, gf, tp, (iv (tn)), (iv (tk)), (iv (bg)), (iv (pt)), (iv (vl)), (iv (bd)), bt, sz, cl) h (by rw [e9]; exact ⟨rfl, ⟨hR, hI, hr9⟩, hK, hF1, hT, hB⟩) dX5_now_93

set_option maxHeartbeats 4000000 in
theorem c_X5_person (hS : RepM (mm, kp, wa, (iv (ik)), fd, gf, tp, (iv (tn)), (iv (tk)), (iv (bg)), (iv (pt)), (iv (vl)), (iv (bd)), bt, sz, cl) (A, K, ik, ph, tq, tn, bq, sq, cq)) {k : Int} (r_k : r32 k) : MI (S := Mc) E l yX5_person cX5_person 2 (some FieldType.int) (rmk 2 47) (wM E a (mm, kp, wa, (iv (ik)), fd, gf, tp, (iv (tn)), (iv (tk)), (iv (bg)), (iv (pt)), (iv (vl)), (iv (bd)), bt, sz, cl)) [.ref (a 0), .int (iv (k))] (fun r u => r = iv (q_person A ph k).1 ∧ RepM u ((q_person A ph k).2.1, K, ik, (q_person A ph k).2.2, tq, tn, bq, sq, cq)) (fun u => wM E a u) := by
  refine goI (S := Mc) (post := fun r u => r = iv (q_person A ph k).1 ∧ RepM u ((q_person A ph k).2.1, K, ik, (q_person A ph k).2.2, tq, tn, bq, sq, cq)) (ws' := fun u => wM E a u) (by decide) (Nat.le_of_ble_eq_true rfl) ?_
  intro pp e s m below meth c ls args Q ret X h hl
  have hl : lv_has ls 2 [(0, .ref (a 0)), (1, .int (iv (k)))] := hl
  have hR : RM mm A := hS.1.1
  have hI : IA A := hS.1.2.1
  have hr9 : hr A ≤ 99999 := hS.1.2.2
  have hF : RF 7 fd ph := hS.2.2.1
  have hK := hS.2.1
  have hT := hS.2.2.2.1
  have hB := hS.2.2.2.2
  have hh : hr A < 1000000 := by omega
  have n8 := hI.n8
  have n0 := hI.n0
  have h0 := hI.h0
  refine lv_iload_n X.1 X.2.1 dX5_person_0 rfl (lv_at hl 1 rfl) ?_
  refine lv_i2l (v := (iv (k)).toInt64) X.1 X.2.1 dX5_person_1 rfl ?_
  refine z_iconst X dX5_person_2 ?_
  refine z_iconst X dX5_person_3 ?_
  refine z_pi (run_S (rest := []) X h (c_inI r_k ⟨by decide, by decide⟩ ⟨by decide, by decide⟩) mi_X5_in ml_X5_44 ⟨Nat.le_of_ble_eq_true rfl, Nat.le_of_ble_eq_true rfl⟩ ⟨rfl, rfl⟩ (Seg.nil _) rfl hl.1 rfl (Nat.le_of_ble_eq_true rfl) ⟨Nat.zero_le _, Nat.zero_le _⟩ dX5_person_4) ?_
  refine z_ifb_ne (tgt := 17) X dX5_person_7 (by decide) (fun c_7 => ?_) (fun c_7 => ?_)
  · refine lv_aload_n X.1 X.2.1 dX5_person_17 rfl (lv_at hl 0 rfl) ?_
    refine z_get X h 4 0 0 rfl inX5 rfl (by decide) fl_X5_9 rfl dX5_person_18 ?_
    refine z_iconst X dX5_person_21 ?_
    refine z_iald (v := pe A) X h 1 rfl (by omega) (by omega) (by decide) hR.2.1 dX5_person_22 ?_
    refine z_bipush X (by decide) dX5_person_23 ?_
    refine z_ic_ne (tgt := 37) X ⟨by omega, by omega⟩ ⟨by decide, by decide⟩ dX5_person_25 (by decide) (fun c_25 => ?_) (fun c_25 => ?_)
    · refine lv_aload_n X.1 X.2.1 dX5_person_37 rfl (lv_at hl 0 rfl) ?_
      refine lv_iload_n X.1 X.2.1 dX5_person_38 rfl (lv_at hl 1 rfl) ?_
      refine z_bipush X (by decide) dX5_person_39 ?_
      refine z_iconst X dX5_person_41 ?_
      refine z_ai h (run_V (rest := []) X h (c_X5_comesAs (k := k) (b := 20) (ch := ((-1))) hR hI.n0 (by omega)) mi_X5_comesAs ml_X5_96 ⟨Nat.le_of_ble_eq_true rfl, Nat.le_of_ble_eq_true rfl⟩ ⟨rfl, rfl⟩ (Seg.rfl' _) 4 0 rfl rfl rfl rfl hl.1 rfl (Nat.le_of_ble_eq_true rfl) ⟨Nat.zero_le _, Nat.zero_le _⟩ dX5_person_42) (fun _ => rfl) (fun r mc1 H locs hp h => ?_)
      have h : St E _ s H locs (wM E a (mc1, kp, wa, (iv (ik)), fd, gf, tp, (iv (tn)), (iv (tk)), (iv (bg)), (iv (pt)), (iv (vl)), (iv (bd)), bt, sz, cl)) := h
      obtain ⟨rfl, hR1⟩ := hp
      have e9 : q_person A ph k = (pe A, (nwc A k 20 ((-1))), ph) := by unfold q_person; (repeat (first | rw [if_pos (by omega)] | rw [if_neg (by omega)])); try rfl
      exact ret _ _ _ _ _ (mc1, kp, wa, (iv (ik)), fd, gf, tp, (iv (tn)), (iv (tk)), (iv (bg)), (iv (pt)), (iv (vl)), (iv (bd)), bt, sz, cl) h (by rw [e9]; exact ⟨rfl, ⟨hR1, (IA_nw hI (by omega) (by omega) (by omega) (by omega) (by omega)), hr9⟩, hK, hF, hT, hB⟩) dX5_person_45
    · refine lv_aload_n X.1 X.2.1 dX5_person_28 rfl (lv_at hl 0 rfl) ?_
      refine z_ldc (z := (-1000000002)) X ct_X5_95 (by decide) dX5_person_29 ?_
      refine z_ai h (run_V (rest := []) X h (c_X5_finds (k := 1) hF (by decide) (by decide) (by decide)) mi_X5_finds ml_X5_40 ⟨Nat.le_of_ble_eq_true rfl, Nat.le_of_ble_eq_true rfl⟩ ⟨rfl, rfl⟩ (Seg.rfl' _) 4 0 rfl rfl rfl rfl hl.1 rfl (Nat.le_of_ble_eq_true rfl) ⟨Nat.zero_le _, Nat.zero_le _⟩ dX5_person_31) (fun _ => rfl) (fun r fd2 H locs hp h => ?_)
      obtain ⟨rfl, hF2⟩ := hp
      have h : St E _ s H locs (wM E a (mm, kp, wa, (iv (ik)), fd2, gf, tp, (iv (tn)), (iv (tk)), (iv (bg)), (iv (pt)), (iv (vl)), (iv (bd)), bt, sz, cl)) := h
      refine lv_goto (tgt := 45) X.1 X.2.1 dX5_person_34 (by decide) ?_
      have e9 : q_person A ph k = ((-1000000002), A, (bump ph 1)) := by unfold q_person; (repeat (first | rw [if_pos (by omega)] | rw [if_neg (by omega)])); try rfl
      exact ret _ _ _ _ _ (mm, kp, wa, (iv (ik)), fd2, gf, tp, (iv (tn)), (iv (tk)), (iv (bg)), (iv (pt)), (iv (vl)), (iv (bd)), bt, sz, cl) h (by rw [e9]; exact ⟨rfl, ⟨hR, hI, hr9⟩, hK, hF2, hT, hB⟩) dX5_person_45
  · refine lv_aload_n X.1 X.2.1 dX5_person_10 rfl (lv_at hl 0 rfl) ?_
    refine z_ldc (z := (-1000000001)) X ct_X5_38 (by decide) dX5_person_11 ?_
    refine z_ai h (run_V (rest := []) X h (c_X5_finds (k := 0) hF (by decide) (by decide) (by decide)) mi_X5_finds ml_X5_40 ⟨Nat.le_of_ble_eq_true rfl, Nat.le_of_ble_eq_true rfl⟩ ⟨rfl, rfl⟩ (Seg.rfl' _) 4 0 rfl rfl rfl rfl hl.1 rfl (Nat.le_of_ble_eq_true rfl) ⟨Nat.zero_le _, Nat.zero_le _⟩ dX5_person_13) (fun _ => rfl) (fun r fd3 H locs hp h => ?_)
    obtain ⟨rfl, hF3⟩ := hp
    have h : St E _ s H locs (wM E a (mm, kp, wa, (iv (ik)), fd3, gf, tp, (iv (tn)), (iv (tk)), (iv (bg)), (iv (pt)), (iv (vl)), (iv (bd)), bt, sz, cl)) := h
    have e9 : q_person A ph k = ((-1000000001), A, (bump ph 0)) := by unfold q_person; (repeat (first | rw [if_pos (by omega)] | rw [if_neg (by omega)])); try rfl
    exact ret _ _ _ _ _ (mm, kp, wa, (iv (ik)), fd3, gf, tp, (iv (tn)), (iv (tk)), (iv (bg)), (iv (pt)), (iv (vl)), (iv (bd)), bt, sz, cl) h (by rw [e9]; exact ⟨rfl, ⟨hR, hI, hr9⟩, hK, hF3, hT, hB⟩) dX5_person_16

set_option maxHeartbeats 4000000 in
theorem c_X5_of (hS : RepM (mm, kp, wa, (iv (ik)), fd, gf, tp, (iv (tn)), (iv (tk)), (iv (bg)), (iv (pt)), (iv (vl)), (iv (bd)), bt, sz, cl) (A, K, ik, ph, tq, tn, bq, sq, cq)) {x : Int} (r_x : r32 x) {w : Int} (r_w : r32 w) : MI (S := Mc) E l yX5_of cX5_of 3 (some FieldType.int) (rmk 4 90) (wM E a (mm, kp, wa, (iv (ik)), fd, gf, tp, (iv (tn)), (iv (tk)), (iv (bg)), (iv (pt)), (iv (vl)), (iv (bd)), bt, sz, cl)) [.ref (a 0), .int (iv (x)), .int (iv (w))] (fun r u => r = iv (q_of A ph x w).1 ∧ RepM u ((q_of A ph x w).2.1, K, ik, (q_of A ph x w).2.2, tq, tn, bq, sq, cq)) (fun u => wM E a u) := by
  refine goI (S := Mc) (post := fun r u => r = iv (q_of A ph x w).1 ∧ RepM u ((q_of A ph x w).2.1, K, ik, (q_of A ph x w).2.2, tq, tn, bq, sq, cq)) (ws' := fun u => wM E a u) (by decide) (Nat.le_of_ble_eq_true rfl) ?_
  intro pp e s m below meth c ls args Q ret X h hl
  have hl : lv_has ls 3 [(0, .ref (a 0)), (1, .int (iv (x))), (2, .int (iv (w)))] := hl
  have hR : RM mm A := hS.1.1
  have hI : IA A := hS.1.2.1
  have hr9 : hr A ≤ 99999 := hS.1.2.2
  have hF : RF 7 fd ph := hS.2.2.1
  have hK := hS.2.1
  have hT := hS.2.2.2.1
  have hB := hS.2.2.2.2
  have hh : hr A < 1000000 := by omega
  have n8 := hI.n8
  have n0 := hI.n0
  have h0 := hI.h0
  refine lv_aload_n X.1 X.2.1 dX5_of_0 rfl (lv_at hl 0 rfl) ?_
  refine lv_iload_n X.1 X.2.1 dX5_of_1 rfl (lv_at hl 1 rfl) ?_
  refine z_pi (run_V (rest := []) X h (c_X5_isPerson (p := x) hR hI r_x) mi_X5_isPerson ml_X5_48 ⟨Nat.le_of_ble_eq_true rfl, Nat.le_of_ble_eq_true rfl⟩ ⟨rfl, rfl⟩ (Seg.rfl' _) 4 0 rfl rfl rfl rfl hl.1 rfl (Nat.le_of_ble_eq_true rfl) ⟨Nat.zero_le _, Nat.zero_le _⟩ dX5_of_2) ?_
  refine z_ifb_eq (tgt := 19) X dX5_of_5 (by decide) (fun c_5 => ?_) (fun c_5 => ?_)
  · refine lv_aload_n X.1 X.2.1 dX5_of_19 rfl (lv_at hl 0 rfl) ?_
    refine z_ldc (z := (-1000000001)) X ct_X5_38 (by decide) dX5_of_20 ?_
    refine z_ai h (run_V (rest := []) X h (c_X5_finds (k := 0) hF (by decide) (by decide) (by decide)) mi_X5_finds ml_X5_40 ⟨Nat.le_of_ble_eq_true rfl, Nat.le_of_ble_eq_true rfl⟩ ⟨rfl, rfl⟩ (Seg.rfl' _) 4 0 rfl rfl rfl rfl hl.1 rfl (Nat.le_of_ble_eq_true rfl) ⟨Nat.zero_le _, Nat.zero_le _⟩ dX5_of_22) (fun _ => rfl) (fun r fd1 H locs hp h => ?_)
    obtain ⟨rfl, hF1⟩ := hp
    have h : St E _ s H locs (wM E a (mm, kp, wa, (iv (ik)), fd1, gf, tp, (iv (tn)), (iv (tk)), (iv (bg)), (iv (pt)), (iv (vl)), (iv (bd)), bt, sz, cl)) := h
    have e9 : q_of A ph x w = ((-1000000001), A, (bump ph 0)) := by unfold q_of; (repeat (first | rw [if_pos (by omega)] | rw [if_neg (by omega)])); try rfl
    exact ret _ _ _ _ _ (mm, kp, wa, (iv (ik)), fd1, gf, tp, (iv (tn)), (iv (tk)), (iv (bg)), (iv (pt)), (iv (vl)), (iv (bd)), bt, sz, cl) h (by rw [e9]; exact ⟨rfl, ⟨hR, hI, hr9⟩, hK, hF1, hT, hB⟩) dX5_of_25
  · refine lv_iload_n X.1 X.2.1 dX5_of_8 rfl (lv_at hl 2 rfl) ?_
    refine lv_i2l (v := (iv (w)).toInt64) X.1 X.2.1 dX5_of_9 rfl ?_
    refine z_iconst X dX5_of_10 ?_
    refine z_bipush X (by decide) dX5_of_11 ?_
    refine z_pi (run_S (rest := []) X h (c_inI r_w ⟨by decide, by decide⟩ ⟨by decide, by decide⟩) mi_X5_in ml_X5_44 ⟨Nat.le_of_ble_eq_true rfl, Nat.le_of_ble_eq_true rfl⟩ ⟨rfl, rfl⟩ (Seg.nil _) rfl hl.1 rfl (Nat.le_of_ble_eq_true rfl) ⟨Nat.zero_le _, Nat.zero_le _⟩ dX5_of_13) ?_
    refine z_ifb_ne (tgt := 26) X dX5_of_16 (by decide) (fun c_16 => ?_) (fun c_16 => ?_)
    · refine lv_iload_n X.1 X.2.1 dX5_of_26 rfl (lv_at hl 2 rfl) ?_
      rcases (show w = 5 ∨ w = 6 ∨ w = 7 ∨ w = 8 ∨ (w < 5 ∨ 8 < w) by omega) with c_27 | c_27 | c_27 | c_27 | c_27
      · refine z_tabIn (tgt := 56) X 5 c_27 ⟨by decide, by decide⟩ (by decide) (by decide) dX5_of_27 rfl (by decide) ?_
        refine lv_aload_n X.1 X.2.1 dX5_of_56 rfl (lv_at hl 0 rfl) ?_
        refine lv_iload_n X.1 X.2.1 dX5_of_57 rfl (lv_at hl 1 rfl) ?_
        refine z_pi (run_V (rest := []) X h (c_X5_fades (p := x) hR hI hh (by omega) (by omega)) mi_X5_fades ml_X5_99 ⟨Nat.le_of_ble_eq_true rfl, Nat.le_of_ble_eq_true rfl⟩ ⟨rfl, rfl⟩ (Seg.rfl' _) 4 0 rfl rfl rfl rfl hl.1 rfl (Nat.le_of_ble_eq_true rfl) ⟨Nat.zero_le _, Nat.zero_le _⟩ dX5_of_58) ?_
        have e9 : q_of A ph x w = (fdO A x, A, ph) := by unfold q_of; (repeat (first | rw [if_pos (by omega)] | rw [if_neg (by omega)])); try rfl
        exact ret _ _ _ _ _ (mm, kp, wa, (iv (ik)), fd, gf, tp, (iv (tn)), (iv (tk)), (iv (bg)), (iv (pt)), (iv (vl)), (iv (bd)), bt, sz, cl) h (by rw [e9]; exact ⟨rfl, ⟨hR, hI, hr9⟩, hK, hF, hT, hB⟩) dX5_of_61
      · refine z_tabIn (tgt := 62) X 6 c_27 ⟨by decide, by decide⟩ (by decide) (by decide) dX5_of_27 rfl (by decide) ?_
        refine lv_aload_n X.1 X.2.1 dX5_of_62 rfl (lv_at hl 0 rfl) ?_
        refine lv_iload_n X.1 X.2.1 dX5_of_63 rfl (lv_at hl 1 rfl) ?_
        refine z_pi (run_V (rest := []) X h (c_X5_burnsFrom (p := x) hR hI (by omega) (by omega)) mi_X5_burnsFrom ml_X5_102 ⟨Nat.le_of_ble_eq_true rfl, Nat.le_of_ble_eq_true rfl⟩ ⟨rfl, rfl⟩ (Seg.rfl' _) 4 0 rfl rfl rfl rfl hl.1 rfl (Nat.le_of_ble_eq_true rfl) ⟨Nat.zero_le _, Nat.zero_le _⟩ dX5_of_64) ?_
        have e9 : q_of A ph x w = (burnF (pr A 0 x), A, ph) := by unfold q_of; (repeat (first | rw [if_pos (by omega)] | rw [if_neg (by omega)])); try rfl
        exact ret _ _ _ _ _ (mm, kp, wa, (iv (ik)), fd, gf, tp, (iv (tn)), (iv (tk)), (iv (bg)), (iv (pt)), (iv (vl)), (iv (bd)), bt, sz, cl) h (by rw [e9]; exact ⟨rfl, ⟨hR, hI, hr9⟩, hK, hF, hT, hB⟩) dX5_of_67
      · refine z_tabIn (tgt := 68) X 7 c_27 ⟨by decide, by decide⟩ (by decide) (by decide) dX5_of_27 rfl (by decide) ?_
        refine lv_aload_n X.1 X.2.1 dX5_of_68 rfl (lv_at hl 0 rfl) ?_
        refine lv_iload_n X.1 X.2.1 dX5_of_69 rfl (lv_at hl 1 rfl) ?_
        refine z_iconst X dX5_of_70 ?_
        refine z_pi (run_V (rest := []) X h (c_X5_beside0 (p := x) hR hI (by omega) (by omega)) mi_X5_beside ml_X5_66 ⟨Nat.le_of_ble_eq_true rfl, Nat.le_of_ble_eq_true rfl⟩ ⟨rfl, rfl⟩ (Seg.rfl' _) 4 0 rfl rfl rfl rfl hl.1 rfl (Nat.le_of_ble_eq_true rfl) ⟨Nat.zero_le _, Nat.zero_le _⟩ dX5_of_71) ?_
        have e9 : q_of A ph x w = (nb A x (-1), A, ph) := by unfold q_of; (repeat (first | rw [if_pos (by omega)] | rw [if_neg (by omega)])); try rfl
        exact ret _ _ _ _ _ (mm, kp, wa, (iv (ik)), fd, gf, tp, (iv (tn)), (iv (tk)), (iv (bg)), (iv (pt)), (iv (vl)), (iv (bd)), bt, sz, cl) h (by rw [e9]; exact ⟨rfl, ⟨hR, hI, hr9⟩, hK, hF, hT, hB⟩) dX5_of_74
      · refine z_tabIn (tgt := 75) X 8 c_27 ⟨by decide, by decide⟩ (by decide) (by decide) dX5_of_27 rfl (by decide) ?_
        refine lv_aload_n X.1 X.2.1 dX5_of_75 rfl (lv_at hl 0 rfl) ?_
        refine lv_iload_n X.1 X.2.1 dX5_of_76 rfl (lv_at hl 1 rfl) ?_
        refine z_iconst X dX5_of_77 ?_
        refine z_pi (run_V (rest := []) X h (c_X5_beside1 (p := x) hR hI (by omega) (by omega)) mi_X5_beside ml_X5_66 ⟨Nat.le_of_ble_eq_true rfl, Nat.le_of_ble_eq_true rfl⟩ ⟨rfl, rfl⟩ (Seg.rfl' _) 4 0 rfl rfl rfl rfl hl.1 rfl (Nat.le_of_ble_eq_true rfl) ⟨Nat.zero_le _, Nat.zero_le _⟩ dX5_of_78) ?_
        have e9 : q_of A ph x w = (nb A x 1, A, ph) := by unfold q_of; (repeat (first | rw [if_pos (by omega)] | rw [if_neg (by omega)])); try rfl
        exact ret _ _ _ _ _ (mm, kp, wa, (iv (ik)), fd, gf, tp, (iv (tn)), (iv (tk)), (iv (bg)), (iv (pt)), (iv (vl)), (iv (bd)), bt, sz, cl) h (by rw [e9]; exact ⟨rfl, ⟨hR, hI, hr9⟩, hK, hF, hT, hB⟩) dX5_of_81
      · refine z_tabOut (tgt := 82) X r_w c_27 dX5_of_27 (by decide) ?_
        refine lv_aload_n X.1 X.2.1 dX5_of_82 rfl (lv_at hl 0 rfl) ?_
        refine lv_iload_n X.1 X.2.1 dX5_of_83 rfl (lv_at hl 1 rfl) ?_
        refine lv_iload_n X.1 X.2.1 dX5_of_84 rfl (lv_at hl 2 rfl) ?_
        refine z_pi (run_V (rest := []) X h (c_X5_it (p := x) (w := w) hR hI (by omega) (by omega) (by omega) (by omega)) mi_X5_it ml_X5_52 ⟨Nat.le_of_ble_eq_true rfl, Nat.le_of_ble_eq_true rfl⟩ ⟨rfl, rfl⟩ (Seg.rfl' _) 4 0 rfl rfl rfl rfl hl.1 rfl (Nat.le_of_ble_eq_true rfl) ⟨Nat.zero_le _, Nat.zero_le _⟩ dX5_of_85) ?_
        have e9 : q_of A ph x w = (pr A w x, A, ph) := by unfold q_of; (repeat (first | rw [if_pos (by omega)] | rw [if_neg (by omega)])); try rfl
        exact ret _ _ _ _ _ (mm, kp, wa, (iv (ik)), fd, gf, tp, (iv (tn)), (iv (tk)), (iv (bg)), (iv (pt)), (iv (vl)), (iv (bd)), bt, sz, cl) h (by rw [e9]; exact ⟨rfl, ⟨hR, hI, hr9⟩, hK, hF, hT, hB⟩) dX5_of_88
    · refine lv_aload_n X.1 X.2.1 dX5_of_19 rfl (lv_at hl 0 rfl) ?_
      refine z_ldc (z := (-1000000001)) X ct_X5_38 (by decide) dX5_of_20 ?_
      refine z_ai h (run_V (rest := []) X h (c_X5_finds (k := 0) hF (by decide) (by decide) (by decide)) mi_X5_finds ml_X5_40 ⟨Nat.le_of_ble_eq_true rfl, Nat.le_of_ble_eq_true rfl⟩ ⟨rfl, rfl⟩ (Seg.rfl' _) 4 0 rfl rfl rfl rfl hl.1 rfl (Nat.le_of_ble_eq_true rfl) ⟨Nat.zero_le _, Nat.zero_le _⟩ dX5_of_22) (fun _ => rfl) (fun r fd2 H locs hp h => ?_)
      obtain ⟨rfl, hF2⟩ := hp
      have h : St E _ s H locs (wM E a (mm, kp, wa, (iv (ik)), fd2, gf, tp, (iv (tn)), (iv (tk)), (iv (bg)), (iv (pt)), (iv (vl)), (iv (bd)), bt, sz, cl)) := h
      have e9 : q_of A ph x w = ((-1000000001), A, (bump ph 0)) := by unfold q_of; (repeat (first | rw [if_pos (by omega)] | rw [if_neg (by omega)])); try rfl
      exact ret _ _ _ _ _ (mm, kp, wa, (iv (ik)), fd2, gf, tp, (iv (tn)), (iv (tk)), (iv (bg)), (iv (pt)), (iv (vl)), (iv (bd)), bt, sz, cl) h (by rw [e9]; exact ⟨rfl, ⟨hR, hI, hr9⟩, hK, hF2, hT, hB⟩) dX5_of_25

set_option maxHeartbeats 4000000 in
theorem c_X5_set (hS : RepM (mm, kp, wa, (iv (ik)), fd, gf, tp, (iv (tn)), (iv (tk)), (iv (bg)), (iv (pt)), (iv (vl)), (iv (bd)), bt, sz, cl) (A, K, ik, ph, tq, tn, bq, sq, cq)) {x : Int} (r_x : r32 x) {w : Int} (r_w : r32 w) {v : Int} (r_v : r32 v) : MI (S := Mc) E l yX5_set cX5_set 5 (some FieldType.int) (rmk 2 44) (wM E a (mm, kp, wa, (iv (ik)), fd, gf, tp, (iv (tn)), (iv (tk)), (iv (bg)), (iv (pt)), (iv (vl)), (iv (bd)), bt, sz, cl)) [.ref (a 0), .int (iv (x)), .int (iv (w)), .int (iv (v))] (fun r u => r = iv (q_set A ph x w v).1 ∧ RepM u ((q_set A ph x w v).2.1, K, ik, (q_set A ph x w v).2.2, tq, tn, bq, sq, cq)) (fun u => wM E a u) := by
  refine goI (S := Mc) (post := fun r u => r = iv (q_set A ph x w v).1 ∧ RepM u ((q_set A ph x w v).2.1, K, ik, (q_set A ph x w v).2.2, tq, tn, bq, sq, cq)) (ws' := fun u => wM E a u) (by decide) (Nat.le_of_ble_eq_true rfl) ?_
  intro pp e s m below meth c ls args Q ret X h hl
  have hl : lv_has ls 5 [(0, .ref (a 0)), (1, .int (iv (x))), (2, .int (iv (w))), (3, .int (iv (v)))] := hl
  have hR : RM mm A := hS.1.1
  have hI : IA A := hS.1.2.1
  have hr9 : hr A ≤ 99999 := hS.1.2.2
  have hF : RF 7 fd ph := hS.2.2.1
  have hK := hS.2.1
  have hT := hS.2.2.2.1
  have hB := hS.2.2.2.2
  have hh : hr A < 1000000 := by omega
  have n8 := hI.n8
  have n0 := hI.n0
  have h0 := hI.h0
  refine lv_aload_n X.1 X.2.1 dX5_set_0 rfl (lv_at hl 0 rfl) ?_
  refine lv_iload_n X.1 X.2.1 dX5_set_1 rfl (lv_at hl 1 rfl) ?_
  refine z_pi (run_V (rest := []) X h (c_X5_isPerson (p := x) hR hI r_x) mi_X5_isPerson ml_X5_48 ⟨Nat.le_of_ble_eq_true rfl, Nat.le_of_ble_eq_true rfl⟩ ⟨rfl, rfl⟩ (Seg.rfl' _) 4 0 rfl rfl rfl rfl hl.1 rfl (Nat.le_of_ble_eq_true rfl) ⟨Nat.zero_le _, Nat.zero_le _⟩ dX5_set_2) ?_
  refine z_ifb_eq (tgt := 45) X dX5_set_5 (by decide) (fun c_5 => ?_) (fun c_5 => ?_)
  · refine z_iconst X dX5_set_45 ?_
    refine lv_istore (lv' := [(4, .int (iv (0))), (0, .ref (a 0)), (1, .int (iv (x))), (2, .int (iv (w))), (3, .int (iv (v)))]) X.1 X.2.1 dX5_set_46 hl (by decide) rfl (fun ls hl => ?_)
    refine lv_iload X.1 X.2.1 dX5_set_48 (lv_at hl 0 rfl) ?_
    refine z_if_eq (tgt := 69) X ⟨by decide, by decide⟩ dX5_set_50 (by decide) (fun c_50 => ?_) (fun c_50 => ?_)
    · refine lv_aload_n X.1 X.2.1 dX5_set_69 rfl (lv_at hl 1 rfl) ?_
      refine z_ldc (z := (-1000000001)) X ct_X5_38 (by decide) dX5_set_70 ?_
      refine z_ai h (run_V (rest := []) X h (c_X5_finds (k := 0) hF (by decide) (by decide) (by decide)) mi_X5_finds ml_X5_40 ⟨Nat.le_of_ble_eq_true rfl, Nat.le_of_ble_eq_true rfl⟩ ⟨rfl, rfl⟩ (Seg.rfl' _) 4 0 rfl rfl rfl rfl hl.1 rfl (Nat.le_of_ble_eq_true rfl) ⟨Nat.zero_le _, Nat.zero_le _⟩ dX5_set_72) (fun _ => rfl) (fun r fd1 H locs hp h => ?_)
      obtain ⟨rfl, hF1⟩ := hp
      have h : St E _ s H locs (wM E a (mm, kp, wa, (iv (ik)), fd1, gf, tp, (iv (tn)), (iv (tk)), (iv (bg)), (iv (pt)), (iv (vl)), (iv (bd)), bt, sz, cl)) := h
      have e9 : q_set A ph x w v = ((-1000000001), A, (bump ph 0)) := by unfold q_set; first | (rw [if_pos (by simp only [show w = 4 by omega, if_true]; omega)]; done) | (rw [if_pos (by simp only [show ¬ w = 4 by omega, if_false]; omega)]; done) | (rw [if_neg (by split <;> omega)]; rfl)
      exact ret _ _ _ _ _ (mm, kp, wa, (iv (ik)), fd1, gf, tp, (iv (tn)), (iv (tk)), (iv (bg)), (iv (pt)), (iv (vl)), (iv (bd)), bt, sz, cl) h (by rw [e9]; exact ⟨rfl, ⟨hR, hI, hr9⟩, hK, hF1, hT, hB⟩) dX5_set_75
    · exact absurd c_50 (by decide)
  · refine lv_iload_n X.1 X.2.1 dX5_set_8 rfl (lv_at hl 2 rfl) ?_
    refine lv_i2l (v := (iv (w)).toInt64) X.1 X.2.1 dX5_set_9 rfl ?_
    refine z_iconst X dX5_set_10 ?_
    refine z_iconst X dX5_set_11 ?_
    refine z_pi (run_S (rest := []) X h (c_inI r_w ⟨by decide, by decide⟩ ⟨by decide, by decide⟩) mi_X5_in ml_X5_44 ⟨Nat.le_of_ble_eq_true rfl, Nat.le_of_ble_eq_true rfl⟩ ⟨rfl, rfl⟩ (Seg.nil _) rfl hl.1 rfl (Nat.le_of_ble_eq_true rfl) ⟨Nat.zero_le _, Nat.zero_le _⟩ dX5_set_12) ?_
    refine z_ifb_eq (tgt := 45) X dX5_set_15 (by decide) (fun c_15 => ?_) (fun c_15 => ?_)
    · refine z_iconst X dX5_set_45 ?_
      refine lv_istore (lv' := [(4, .int (iv (0))), (0, .ref (a 0)), (1, .int (iv (x))), (2, .int (iv (w))), (3, .int (iv (v)))]) X.1 X.2.1 dX5_set_46 hl (by decide) rfl (fun ls hl => ?_)
      refine lv_iload X.1 X.2.1 dX5_set_48 (lv_at hl 0 rfl) ?_
      refine z_if_eq (tgt := 69) X ⟨by decide, by decide⟩ dX5_set_50 (by decide) (fun c_50 => ?_) (fun c_50 => ?_)
      · refine lv_aload_n X.1 X.2.1 dX5_set_69 rfl (lv_at hl 1 rfl) ?_
        refine z_ldc (z := (-1000000001)) X ct_X5_38 (by decide) dX5_set_70 ?_
        refine z_ai h (run_V (rest := []) X h (c_X5_finds (k := 0) hF (by decide) (by decide) (by decide)) mi_X5_finds ml_X5_40 ⟨Nat.le_of_ble_eq_true rfl, Nat.le_of_ble_eq_true rfl⟩ ⟨rfl, rfl⟩ (Seg.rfl' _) 4 0 rfl rfl rfl rfl hl.1 rfl (Nat.le_of_ble_eq_true rfl) ⟨Nat.zero_le _, Nat.zero_le _⟩ dX5_set_72) (fun _ => rfl) (fun r fd2 H locs hp h => ?_)
        obtain ⟨rfl, hF2⟩ := hp
        have h : St E _ s H locs (wM E a (mm, kp, wa, (iv (ik)), fd2, gf, tp, (iv (tn)), (iv (tk)), (iv (bg)), (iv (pt)), (iv (vl)), (iv (bd)), bt, sz, cl)) := h
        have e9 : q_set A ph x w v = ((-1000000001), A, (bump ph 0)) := by unfold q_set; first | (rw [if_pos (by simp only [show w = 4 by omega, if_true]; omega)]; done) | (rw [if_pos (by simp only [show ¬ w = 4 by omega, if_false]; omega)]; done) | (rw [if_neg (by split <;> omega)]; rfl)
        exact ret _ _ _ _ _ (mm, kp, wa, (iv (ik)), fd2, gf, tp, (iv (tn)), (iv (tk)), (iv (bg)), (iv (pt)), (iv (vl)), (iv (bd)), bt, sz, cl) h (by rw [e9]; exact ⟨rfl, ⟨hR, hI, hr9⟩, hK, hF2, hT, hB⟩) dX5_set_75
      · exact absurd c_50 (by decide)
    · refine lv_iload_n X.1 X.2.1 dX5_set_18 rfl (lv_at hl 3 rfl) ?_
      refine lv_i2l (v := (iv (v)).toInt64) X.1 X.2.1 dX5_set_19 rfl ?_
      refine z_iconst X dX5_set_20 ?_
      refine lv_iload_n X.1 X.2.1 dX5_set_21 rfl (lv_at hl 2 rfl) ?_
      refine z_iconst X dX5_set_22 ?_
      refine z_ic_ne (tgt := 32) X r_w ⟨by decide, by decide⟩ dX5_set_23 (by decide) (fun c_23 => ?_) (fun c_23 => ?_)
      · refine z_sipush X (by decide) dX5_set_32 ?_
        refine z_pi (run_S (rest := []) X h (c_inI r_v ⟨by decide, by decide⟩ ⟨by decide, by decide⟩) mi_X5_in ml_X5_44 ⟨Nat.le_of_ble_eq_true rfl, Nat.le_of_ble_eq_true rfl⟩ ⟨rfl, rfl⟩ (Seg.nil _) rfl hl.1 rfl (Nat.le_of_ble_eq_true rfl) ⟨Nat.zero_le _, Nat.zero_le _⟩ dX5_set_35) ?_
        refine z_ifb_eq (tgt := 45) X dX5_set_38 (by decide) (fun c_38 => ?_) (fun c_38 => ?_)
        · refine z_iconst X dX5_set_45 ?_
          refine lv_istore (lv' := [(4, .int (iv (0))), (0, .ref (a 0)), (1, .int (iv (x))), (2, .int (iv (w))), (3, .int (iv (v)))]) X.1 X.2.1 dX5_set_46 hl (by decide) rfl (fun ls hl => ?_)
          refine lv_iload X.1 X.2.1 dX5_set_48 (lv_at hl 0 rfl) ?_
          refine z_if_eq (tgt := 69) X ⟨by decide, by decide⟩ dX5_set_50 (by decide) (fun c_50 => ?_) (fun c_50 => ?_)
          · refine lv_aload_n X.1 X.2.1 dX5_set_69 rfl (lv_at hl 1 rfl) ?_
            refine z_ldc (z := (-1000000001)) X ct_X5_38 (by decide) dX5_set_70 ?_
            refine z_ai h (run_V (rest := []) X h (c_X5_finds (k := 0) hF (by decide) (by decide) (by decide)) mi_X5_finds ml_X5_40 ⟨Nat.le_of_ble_eq_true rfl, Nat.le_of_ble_eq_true rfl⟩ ⟨rfl, rfl⟩ (Seg.rfl' _) 4 0 rfl rfl rfl rfl hl.1 rfl (Nat.le_of_ble_eq_true rfl) ⟨Nat.zero_le _, Nat.zero_le _⟩ dX5_set_72) (fun _ => rfl) (fun r fd3 H locs hp h => ?_)
            obtain ⟨rfl, hF3⟩ := hp
            have h : St E _ s H locs (wM E a (mm, kp, wa, (iv (ik)), fd3, gf, tp, (iv (tn)), (iv (tk)), (iv (bg)), (iv (pt)), (iv (vl)), (iv (bd)), bt, sz, cl)) := h
            have e9 : q_set A ph x w v = ((-1000000001), A, (bump ph 0)) := by unfold q_set; first | (rw [if_pos (by simp only [show w = 4 by omega, if_true]; omega)]; done) | (rw [if_pos (by simp only [show ¬ w = 4 by omega, if_false]; omega)]; done) | (rw [if_neg (by split <;> omega)]; rfl)
            exact ret _ _ _ _ _ (mm, kp, wa, (iv (ik)), fd3, gf, tp, (iv (tn)), (iv (tk)), (iv (bg)), (iv (pt)), (iv (vl)), (iv (bd)), bt, sz, cl) h (by rw [e9]; exact ⟨rfl, ⟨hR, hI, hr9⟩, hK, hF3, hT, hB⟩) dX5_set_75
          · exact absurd c_50 (by decide)
        · refine z_iconst X dX5_set_41 ?_
          refine lv_goto (tgt := 46) X.1 X.2.1 dX5_set_42 (by decide) ?_
          refine lv_istore (lv' := [(4, .int (iv (1))), (0, .ref (a 0)), (1, .int (iv (x))), (2, .int (iv (w))), (3, .int (iv (v)))]) X.1 X.2.1 dX5_set_46 hl (by decide) rfl (fun ls hl => ?_)
          refine lv_iload X.1 X.2.1 dX5_set_48 (lv_at hl 0 rfl) ?_
          refine z_if_eq (tgt := 69) X ⟨by decide, by decide⟩ dX5_set_50 (by decide) (fun c_50 => ?_) (fun c_50 => ?_)
          · exact absurd c_50 (by decide)
          · refine lv_aload_n X.1 X.2.1 dX5_set_53 rfl (lv_at hl 1 rfl) ?_
            refine z_bipush X (by decide) dX5_set_54 ?_
            refine z_iconst X dX5_set_56 ?_
            refine lv_iload_n X.1 X.2.1 dX5_set_57 rfl (lv_at hl 2 rfl) ?_
            refine z_imul X dX5_set_58 ?_
            refine z_iadd X dX5_set_59 ?_
            refine lv_iload_n X.1 X.2.1 dX5_set_60 rfl (lv_at hl 3 rfl) ?_
            refine z_iadd X dX5_set_61 ?_
            refine lv_iload_n X.1 X.2.1 dX5_set_62 rfl (lv_at hl 4 rfl) ?_
            refine z_ai h (run_V (rest := []) X h (c_X5_becomes (i := 12 + (5 * x) + w) (v := v) (x := pr A w x) (by omega) (by omega) (hR.2.2.2 w x (by omega) (by omega) (by omega) (by omega))) mi_X5_becomes ml_X5_73 ⟨Nat.le_of_ble_eq_true rfl, Nat.le_of_ble_eq_true rfl⟩ ⟨rfl, rfl⟩ (Seg.rfl' _) 4 0 rfl rfl rfl rfl hl.1 rfl (Nat.le_of_ble_eq_true rfl) ⟨Nat.zero_le _, Nat.zero_le _⟩ dX5_set_63) (fun _ => rfl) (fun r u H locs hp h => ?_)
            obtain ⟨rfl, rfl⟩ := hp
            have h : St E _ s H locs (wM E a ((upd mm (12 + (5 * x) + w : Int).toNat (iv (v))), kp, wa, (iv (ik)), fd, gf, tp, (iv (tn)), (iv (tk)), (iv (bg)), (iv (pt)), (iv (vl)), (iv (bd)), bt, sz, cl)) := h
            have hR4 : RM (upd mm (12 + (5 * x) + w : Int).toNat (iv (v))) (pu A w x v) := RM_pu hR (w := w) (p := x) (by omega) (by omega) (by omega) (by omega)
            refine lv_goto (tgt := 75) X.1 X.2.1 dX5_set_66 (by decide) ?_
            have e9 : q_set A ph x w v = (pr A w x, (pu A w x v), ph) := by unfold q_set; first | (rw [if_pos (by simp only [show w = 4 by omega, if_true]; omega)]; done) | (rw [if_pos (by simp only [show ¬ w = 4 by omega, if_false]; omega)]; done) | (rw [if_neg (by split <;> omega)]; rfl)
            exact ret _ _ _ _ _ ((upd mm (12 + (5 * x) + w : Int).toNat (iv (v))), kp, wa, (iv (ik)), fd, gf, tp, (iv (tn)), (iv (tk)), (iv (bg)), (iv (pt)), (iv (vl)), (iv (bd)), bt, sz, cl) h (by rw [e9]; exact ⟨rfl, ⟨hR4, (IA_pu hI (by omega) (by omega) (by first | exact Or.inr (Or.inr (Or.inl ⟨by omega, by omega, by omega⟩)) | exact Or.inr (Or.inl ⟨by omega, by omega, by omega⟩))), hr9⟩, hK, hF, hT, hB⟩) dX5_set_75
      · refine z_sipush X (by decide) dX5_set_26 ?_
        refine lv_goto (tgt := 35) X.1 X.2.1 dX5_set_29 (by decide) ?_
        refine z_pi (run_S (rest := []) X h (c_inI r_v ⟨by decide, by decide⟩ ⟨by decide, by decide⟩) mi_X5_in ml_X5_44 ⟨Nat.le_of_ble_eq_true rfl, Nat.le_of_ble_eq_true rfl⟩ ⟨rfl, rfl⟩ (Seg.nil _) rfl hl.1 rfl (Nat.le_of_ble_eq_true rfl) ⟨Nat.zero_le _, Nat.zero_le _⟩ dX5_set_35) ?_
        refine z_ifb_eq (tgt := 45) X dX5_set_38 (by decide) (fun c_38 => ?_) (fun c_38 => ?_)
        · refine z_iconst X dX5_set_45 ?_
          refine lv_istore (lv' := [(4, .int (iv (0))), (0, .ref (a 0)), (1, .int (iv (x))), (2, .int (iv (w))), (3, .int (iv (v)))]) X.1 X.2.1 dX5_set_46 hl (by decide) rfl (fun ls hl => ?_)
          refine lv_iload X.1 X.2.1 dX5_set_48 (lv_at hl 0 rfl) ?_
          refine z_if_eq (tgt := 69) X ⟨by decide, by decide⟩ dX5_set_50 (by decide) (fun c_50 => ?_) (fun c_50 => ?_)
          · refine lv_aload_n X.1 X.2.1 dX5_set_69 rfl (lv_at hl 1 rfl) ?_
            refine z_ldc (z := (-1000000001)) X ct_X5_38 (by decide) dX5_set_70 ?_
            refine z_ai h (run_V (rest := []) X h (c_X5_finds (k := 0) hF (by decide) (by decide) (by decide)) mi_X5_finds ml_X5_40 ⟨Nat.le_of_ble_eq_true rfl, Nat.le_of_ble_eq_true rfl⟩ ⟨rfl, rfl⟩ (Seg.rfl' _) 4 0 rfl rfl rfl rfl hl.1 rfl (Nat.le_of_ble_eq_true rfl) ⟨Nat.zero_le _, Nat.zero_le _⟩ dX5_set_72) (fun _ => rfl) (fun r fd5 H locs hp h => ?_)
            obtain ⟨rfl, hF5⟩ := hp
            have h : St E _ s H locs (wM E a (mm, kp, wa, (iv (ik)), fd5, gf, tp, (iv (tn)), (iv (tk)), (iv (bg)), (iv (pt)), (iv (vl)), (iv (bd)), bt, sz, cl)) := h
            have e9 : q_set A ph x w v = ((-1000000001), A, (bump ph 0)) := by unfold q_set; first | (rw [if_pos (by simp only [show w = 4 by omega, if_true]; omega)]; done) | (rw [if_pos (by simp only [show ¬ w = 4 by omega, if_false]; omega)]; done) | (rw [if_neg (by split <;> omega)]; rfl)
            exact ret _ _ _ _ _ (mm, kp, wa, (iv (ik)), fd5, gf, tp, (iv (tn)), (iv (tk)), (iv (bg)), (iv (pt)), (iv (vl)), (iv (bd)), bt, sz, cl) h (by rw [e9]; exact ⟨rfl, ⟨hR, hI, hr9⟩, hK, hF5, hT, hB⟩) dX5_set_75
          · exact absurd c_50 (by decide)
        · refine z_iconst X dX5_set_41 ?_
          refine lv_goto (tgt := 46) X.1 X.2.1 dX5_set_42 (by decide) ?_
          refine lv_istore (lv' := [(4, .int (iv (1))), (0, .ref (a 0)), (1, .int (iv (x))), (2, .int (iv (w))), (3, .int (iv (v)))]) X.1 X.2.1 dX5_set_46 hl (by decide) rfl (fun ls hl => ?_)
          refine lv_iload X.1 X.2.1 dX5_set_48 (lv_at hl 0 rfl) ?_
          refine z_if_eq (tgt := 69) X ⟨by decide, by decide⟩ dX5_set_50 (by decide) (fun c_50 => ?_) (fun c_50 => ?_)
          · exact absurd c_50 (by decide)
          · refine lv_aload_n X.1 X.2.1 dX5_set_53 rfl (lv_at hl 1 rfl) ?_
            refine z_bipush X (by decide) dX5_set_54 ?_
            refine z_iconst X dX5_set_56 ?_
            refine lv_iload_n X.1 X.2.1 dX5_set_57 rfl (lv_at hl 2 rfl) ?_
            refine z_imul X dX5_set_58 ?_
            refine z_iadd X dX5_set_59 ?_
            refine lv_iload_n X.1 X.2.1 dX5_set_60 rfl (lv_at hl 3 rfl) ?_
            refine z_iadd X dX5_set_61 ?_
            refine lv_iload_n X.1 X.2.1 dX5_set_62 rfl (lv_at hl 4 rfl) ?_
            refine z_ai h (run_V (rest := []) X h (c_X5_becomes (i := 12 + (5 * x) + w) (v := v) (x := pr A w x) (by omega) (by omega) (hR.2.2.2 w x (by omega) (by omega) (by omega) (by omega))) mi_X5_becomes ml_X5_73 ⟨Nat.le_of_ble_eq_true rfl, Nat.le_of_ble_eq_true rfl⟩ ⟨rfl, rfl⟩ (Seg.rfl' _) 4 0 rfl rfl rfl rfl hl.1 rfl (Nat.le_of_ble_eq_true rfl) ⟨Nat.zero_le _, Nat.zero_le _⟩ dX5_set_63) (fun _ => rfl) (fun r u H locs hp h => ?_)
            obtain ⟨rfl, rfl⟩ := hp
            have h : St E _ s H locs (wM E a ((upd mm (12 + (5 * x) + w : Int).toNat (iv (v))), kp, wa, (iv (ik)), fd, gf, tp, (iv (tn)), (iv (tk)), (iv (bg)), (iv (pt)), (iv (vl)), (iv (bd)), bt, sz, cl)) := h
            have hR6 : RM (upd mm (12 + (5 * x) + w : Int).toNat (iv (v))) (pu A w x v) := RM_pu hR (w := w) (p := x) (by omega) (by omega) (by omega) (by omega)
            refine lv_goto (tgt := 75) X.1 X.2.1 dX5_set_66 (by decide) ?_
            have e9 : q_set A ph x w v = (pr A w x, (pu A w x v), ph) := by unfold q_set; first | (rw [if_pos (by simp only [show w = 4 by omega, if_true]; omega)]; done) | (rw [if_pos (by simp only [show ¬ w = 4 by omega, if_false]; omega)]; done) | (rw [if_neg (by split <;> omega)]; rfl)
            exact ret _ _ _ _ _ ((upd mm (12 + (5 * x) + w : Int).toNat (iv (v))), kp, wa, (iv (ik)), fd, gf, tp, (iv (tn)), (iv (tk)), (iv (bg)), (iv (pt)), (iv (vl)), (iv (bd)), bt, sz, cl) h (by rw [e9]; exact ⟨rfl, ⟨hR6, (IA_pu hI (by omega) (by omega) (by first | exact Or.inr (Or.inr (Or.inl ⟨by omega, by omega, by omega⟩)) | exact Or.inr (Or.inl ⟨by omega, by omega, by omega⟩))), hr9⟩, hK, hF, hT, hB⟩) dX5_set_75

set_option maxHeartbeats 4000000 in
theorem c_X5_turn (hS : RepM (mm, kp, wa, (iv (ik)), fd, gf, tp, (iv (tn)), (iv (tk)), (iv (bg)), (iv (pt)), (iv (vl)), (iv (bd)), bt, sz, cl) (A, K, ik, ph, tq, tn, bq, sq, cq)) {x : Int} (r_x : r32 x) {k : Int} (r_k : r32 k) : MI (S := Mc) E l yX5_turn cX5_turn 3 (some FieldType.int) (rmk 2 44) (wM E a (mm, kp, wa, (iv (ik)), fd, gf, tp, (iv (tn)), (iv (tk)), (iv (bg)), (iv (pt)), (iv (vl)), (iv (bd)), bt, sz, cl)) [.ref (a 0), .int (iv (x)), .int (iv (k))] (fun r u => r = iv (q_turn A ph x k).1 ∧ RepM u ((q_turn A ph x k).2.1, K, ik, (q_turn A ph x k).2.2, tq, tn, bq, sq, cq)) (fun u => wM E a u) := by
  refine goI (S := Mc) (post := fun r u => r = iv (q_turn A ph x k).1 ∧ RepM u ((q_turn A ph x k).2.1, K, ik, (q_turn A ph x k).2.2, tq, tn, bq, sq, cq)) (ws' := fun u => wM E a u) (by decide) (Nat.le_of_ble_eq_true rfl) ?_
  intro pp e s m below meth c ls args Q ret X h hl
  have hl : lv_has ls 3 [(0, .ref (a 0)), (1, .int (iv (x))), (2, .int (iv (k)))] := hl
  have hR : RM mm A := hS.1.1
  have hI : IA A := hS.1.2.1
  have hr9 : hr A ≤ 99999 := hS.1.2.2
  have hF : RF 7 fd ph := hS.2.2.1
  have hK := hS.2.1
  have hT := hS.2.2.2.1
  have hB := hS.2.2.2.2
  have hh : hr A < 1000000 := by omega
  have n8 := hI.n8
  have n0 := hI.n0
  have h0 := hI.h0
  refine lv_aload_n X.1 X.2.1 dX5_turn_0 rfl (lv_at hl 0 rfl) ?_
  refine lv_iload_n X.1 X.2.1 dX5_turn_1 rfl (lv_at hl 1 rfl) ?_
  refine z_pi (run_V (rest := []) X h (c_X5_isPerson (p := x) hR hI r_x) mi_X5_isPerson ml_X5_48 ⟨Nat.le_of_ble_eq_true rfl, Nat.le_of_ble_eq_true rfl⟩ ⟨rfl, rfl⟩ (Seg.rfl' _) 4 0 rfl rfl rfl rfl hl.1 rfl (Nat.le_of_ble_eq_true rfl) ⟨Nat.zero_le _, Nat.zero_le _⟩ dX5_turn_2) ?_
  refine z_ifb_eq (tgt := 32) X dX5_turn_5 (by decide) (fun c_5 => ?_) (fun c_5 => ?_)
  · refine lv_aload_n X.1 X.2.1 dX5_turn_32 rfl (lv_at hl 0 rfl) ?_
    refine z_ldc (z := (-1000000001)) X ct_X5_38 (by decide) dX5_turn_33 ?_
    refine z_ai h (run_V (rest := []) X h (c_X5_finds (k := 0) hF (by decide) (by decide) (by decide)) mi_X5_finds ml_X5_40 ⟨Nat.le_of_ble_eq_true rfl, Nat.le_of_ble_eq_true rfl⟩ ⟨rfl, rfl⟩ (Seg.rfl' _) 4 0 rfl rfl rfl rfl hl.1 rfl (Nat.le_of_ble_eq_true rfl) ⟨Nat.zero_le _, Nat.zero_le _⟩ dX5_turn_35) (fun _ => rfl) (fun r fd1 H locs hp h => ?_)
    obtain ⟨rfl, hF1⟩ := hp
    have h : St E _ s H locs (wM E a (mm, kp, wa, (iv (ik)), fd1, gf, tp, (iv (tn)), (iv (tk)), (iv (bg)), (iv (pt)), (iv (vl)), (iv (bd)), bt, sz, cl)) := h
    have e9 : q_turn A ph x k = ((-1000000001), A, (bump ph 0)) := by unfold q_turn; (repeat (first | rw [if_pos (by omega)] | rw [if_neg (by omega)])); try rfl
    exact ret _ _ _ _ _ (mm, kp, wa, (iv (ik)), fd1, gf, tp, (iv (tn)), (iv (tk)), (iv (bg)), (iv (pt)), (iv (vl)), (iv (bd)), bt, sz, cl) h (by rw [e9]; exact ⟨rfl, ⟨hR, hI, hr9⟩, hK, hF1, hT, hB⟩) dX5_turn_38
  · refine lv_iload_n X.1 X.2.1 dX5_turn_8 rfl (lv_at hl 2 rfl) ?_
    refine lv_i2l (v := (iv (k)).toInt64) X.1 X.2.1 dX5_turn_9 rfl ?_
    refine z_iconst X dX5_turn_10 ?_
    refine z_iconst X dX5_turn_11 ?_
    refine z_pi (run_S (rest := []) X h (c_inI r_k ⟨by decide, by decide⟩ ⟨by decide, by decide⟩) mi_X5_in ml_X5_44 ⟨Nat.le_of_ble_eq_true rfl, Nat.le_of_ble_eq_true rfl⟩ ⟨rfl, rfl⟩ (Seg.nil _) rfl hl.1 rfl (Nat.le_of_ble_eq_true rfl) ⟨Nat.zero_le _, Nat.zero_le _⟩ dX5_turn_12) ?_
    refine z_ifb_eq (tgt := 32) X dX5_turn_15 (by decide) (fun c_15 => ?_) (fun c_15 => ?_)
    · refine lv_aload_n X.1 X.2.1 dX5_turn_32 rfl (lv_at hl 0 rfl) ?_
      refine z_ldc (z := (-1000000001)) X ct_X5_38 (by decide) dX5_turn_33 ?_
      refine z_ai h (run_V (rest := []) X h (c_X5_finds (k := 0) hF (by decide) (by decide) (by decide)) mi_X5_finds ml_X5_40 ⟨Nat.le_of_ble_eq_true rfl, Nat.le_of_ble_eq_true rfl⟩ ⟨rfl, rfl⟩ (Seg.rfl' _) 4 0 rfl rfl rfl rfl hl.1 rfl (Nat.le_of_ble_eq_true rfl) ⟨Nat.zero_le _, Nat.zero_le _⟩ dX5_turn_35) (fun _ => rfl) (fun r fd2 H locs hp h => ?_)
      obtain ⟨rfl, hF2⟩ := hp
      have h : St E _ s H locs (wM E a (mm, kp, wa, (iv (ik)), fd2, gf, tp, (iv (tn)), (iv (tk)), (iv (bg)), (iv (pt)), (iv (vl)), (iv (bd)), bt, sz, cl)) := h
      have e9 : q_turn A ph x k = ((-1000000001), A, (bump ph 0)) := by unfold q_turn; (repeat (first | rw [if_pos (by omega)] | rw [if_neg (by omega)])); try rfl
      exact ret _ _ _ _ _ (mm, kp, wa, (iv (ik)), fd2, gf, tp, (iv (tn)), (iv (tk)), (iv (bg)), (iv (pt)), (iv (vl)), (iv (bd)), bt, sz, cl) h (by rw [e9]; exact ⟨rfl, ⟨hR, hI, hr9⟩, hK, hF2, hT, hB⟩) dX5_turn_38
    · refine lv_aload_n X.1 X.2.1 dX5_turn_18 rfl (lv_at hl 0 rfl) ?_
      refine z_bipush X (by decide) dX5_turn_19 ?_
      refine z_iconst X dX5_turn_21 ?_
      refine lv_iload_n X.1 X.2.1 dX5_turn_22 rfl (lv_at hl 1 rfl) ?_
      refine z_imul X dX5_turn_23 ?_
      refine z_iadd X dX5_turn_24 ?_
      refine lv_iload_n X.1 X.2.1 dX5_turn_25 rfl (lv_at hl 2 rfl) ?_
      refine z_ai h (run_V (rest := []) X h (c_X5_becomes (i := 12 + (5 * x)) (v := k) (x := pr A 0 x) (by omega) (by omega) (by have q := hR.2.2.2 0 x (by omega) (by omega) (by omega) (by omega); rwa [Int.add_zero] at q)) mi_X5_becomes ml_X5_73 ⟨Nat.le_of_ble_eq_true rfl, Nat.le_of_ble_eq_true rfl⟩ ⟨rfl, rfl⟩ (Seg.rfl' _) 4 0 rfl rfl rfl rfl hl.1 rfl (Nat.le_of_ble_eq_true rfl) ⟨Nat.zero_le _, Nat.zero_le _⟩ dX5_turn_26) (fun _ => rfl) (fun r u H locs hp h => ?_)
      obtain ⟨rfl, rfl⟩ := hp
      have h : St E _ s H locs (wM E a ((upd mm (12 + (5 * x) : Int).toNat (iv (k))), kp, wa, (iv (ik)), fd, gf, tp, (iv (tn)), (iv (tk)), (iv (bg)), (iv (pt)), (iv (vl)), (iv (bd)), bt, sz, cl)) := h
      have hR3 : RM (upd mm (12 + (5 * x) : Int).toNat (iv (k))) (pu A 0 x k) := by have q := RM_pu hR (w := 0) (p := x) (by omega) (by omega) (by omega) (by omega) (v := k); rwa [Int.add_zero] at q
      refine lv_goto (tgt := 38) X.1 X.2.1 dX5_turn_29 (by decide) ?_
      have e9 : q_turn A ph x k = (pr A 0 x, (pu A 0 x k), ph) := by unfold q_turn; (repeat (first | rw [if_pos (by omega)] | rw [if_neg (by omega)])); try rfl
      exact ret _ _ _ _ _ ((upd mm (12 + (5 * x) : Int).toNat (iv (k))), kp, wa, (iv (ik)), fd, gf, tp, (iv (tn)), (iv (tk)), (iv (bg)), (iv (pt)), (iv (vl)), (iv (bd)), bt, sz, cl) h (by rw [e9]; exact ⟨rfl, ⟨hR3, (IA_pu hI (by omega) (by omega) (Or.inl ⟨rfl, by omega, by omega⟩)), hr9⟩, hK, hF, hT, hB⟩) dX5_turn_38

set_option maxHeartbeats 4000000 in
theorem c_X5_as (hS : RepM (mm, kp, wa, (iv (ik)), fd, gf, tp, (iv (tn)), (iv (tk)), (iv (bg)), (iv (pt)), (iv (vl)), (iv (bd)), bt, sz, cl) (A, K, ik, ph, tq, tn, bq, sq, cq)) {x : Int} (r_x : r32 x) {k : Int} (r_k : r32 k) : MI (S := Mc) E l yX5_as cX5_as 5 (some FieldType.int) (rmk 2 44) (wM E a (mm, kp, wa, (iv (ik)), fd, gf, tp, (iv (tn)), (iv (tk)), (iv (bg)), (iv (pt)), (iv (vl)), (iv (bd)), bt, sz, cl)) [.ref (a 0), .int (iv (x)), .int (iv (k))] (fun r u => r = iv (q_as A ph x k).1 ∧ RepM u ((q_as A ph x k).2.1, K, ik, (q_as A ph x k).2.2, tq, tn, bq, sq, cq)) (fun u => wM E a u) := by
  refine goI (S := Mc) (post := fun r u => r = iv (q_as A ph x k).1 ∧ RepM u ((q_as A ph x k).2.1, K, ik, (q_as A ph x k).2.2, tq, tn, bq, sq, cq)) (ws' := fun u => wM E a u) (by decide) (Nat.le_of_ble_eq_true rfl) ?_
  intro pp e s m below meth c ls args Q ret X h hl
  have hl : lv_has ls 5 [(0, .ref (a 0)), (1, .int (iv (x))), (2, .int (iv (k)))] := hl
  have hR : RM mm A := hS.1.1
  have hI : IA A := hS.1.2.1
  have hr9 : hr A ≤ 99999 := hS.1.2.2
  have hF : RF 7 fd ph := hS.2.2.1
  have hK := hS.2.1
  have hT := hS.2.2.2.1
  have hB := hS.2.2.2.2
  have hh : hr A < 1000000 := by omega
  have n8 := hI.n8
  have n0 := hI.n0
  have h0 := hI.h0
  refine lv_aload_n X.1 X.2.1 dX5_as_0 rfl (lv_at hl 0 rfl) ?_
  refine lv_iload_n X.1 X.2.1 dX5_as_1 rfl (lv_at hl 1 rfl) ?_
  refine z_pi (run_V (rest := []) X h (c_X5_isPerson (p := x) hR hI r_x) mi_X5_isPerson ml_X5_48 ⟨Nat.le_of_ble_eq_true rfl, Nat.le_of_ble_eq_true rfl⟩ ⟨rfl, rfl⟩ (Seg.rfl' _) 4 0 rfl rfl rfl rfl hl.1 rfl (Nat.le_of_ble_eq_true rfl) ⟨Nat.zero_le _, Nat.zero_le _⟩ dX5_as_2) ?_
  refine z_ifb_eq (tgt := 18) X dX5_as_5 (by decide) (fun c_5 => ?_) (fun c_5 => ?_)
  · refine lv_aload_n X.1 X.2.1 dX5_as_18 rfl (lv_at hl 0 rfl) ?_
    refine z_ldc (z := (-1000000001)) X ct_X5_38 (by decide) dX5_as_19 ?_
    refine z_ai h (run_V (rest := []) X h (c_X5_finds (k := 0) hF (by decide) (by decide) (by decide)) mi_X5_finds ml_X5_40 ⟨Nat.le_of_ble_eq_true rfl, Nat.le_of_ble_eq_true rfl⟩ ⟨rfl, rfl⟩ (Seg.rfl' _) 4 0 rfl rfl rfl rfl hl.1 rfl (Nat.le_of_ble_eq_true rfl) ⟨Nat.zero_le _, Nat.zero_le _⟩ dX5_as_21) (fun _ => rfl) (fun r fd1 H locs hp h => ?_)
    obtain ⟨rfl, hF1⟩ := hp
    have h : St E _ s H locs (wM E a (mm, kp, wa, (iv (ik)), fd1, gf, tp, (iv (tn)), (iv (tk)), (iv (bg)), (iv (pt)), (iv (vl)), (iv (bd)), bt, sz, cl)) := h
    have e9 : q_as A ph x k = ((-1000000001), A, (bump ph 0)) := by first | (exfalso; omega) | (unfold q_as; (repeat (first | rw [if_pos (by omega)] | rw [if_neg (by omega)])); try rfl)
    exact ret _ _ _ _ _ (mm, kp, wa, (iv (ik)), fd1, gf, tp, (iv (tn)), (iv (tk)), (iv (bg)), (iv (pt)), (iv (vl)), (iv (bd)), bt, sz, cl) h (by rw [e9]; exact ⟨rfl, ⟨hR, hI, hr9⟩, hK, hF1, hT, hB⟩) dX5_as_24
  · refine lv_iload_n X.1 X.2.1 dX5_as_8 rfl (lv_at hl 2 rfl) ?_
    refine lv_i2l (v := (iv (k)).toInt64) X.1 X.2.1 dX5_as_9 rfl ?_
    refine z_iconst X dX5_as_10 ?_
    refine z_iconst X dX5_as_11 ?_
    refine z_pi (run_S (rest := []) X h (c_inI r_k ⟨by decide, by decide⟩ ⟨by decide, by decide⟩) mi_X5_in ml_X5_44 ⟨Nat.le_of_ble_eq_true rfl, Nat.le_of_ble_eq_true rfl⟩ ⟨rfl, rfl⟩ (Seg.nil _) rfl hl.1 rfl (Nat.le_of_ble_eq_true rfl) ⟨Nat.zero_le _, Nat.zero_le _⟩ dX5_as_12) ?_
    refine z_ifb_ne (tgt := 25) X dX5_as_15 (by decide) (fun c_15 => ?_) (fun c_15 => ?_)
    · have qx := hI.gP (p := x) (by omega) (by omega)
      refine lv_aload_n X.1 X.2.1 dX5_as_25 rfl (lv_at hl 0 rfl) ?_
      refine lv_iload_n X.1 X.2.1 dX5_as_26 rfl (lv_at hl 1 rfl) ?_
      refine z_iconst X dX5_as_27 ?_
      refine z_pi (run_V (rest := []) X h (c_X5_it (p := x) (w := 0) hR hI (by omega) (by omega) (by omega) (by omega)) mi_X5_it ml_X5_52 ⟨Nat.le_of_ble_eq_true rfl, Nat.le_of_ble_eq_true rfl⟩ ⟨rfl, rfl⟩ (Seg.rfl' _) 4 0 rfl rfl rfl rfl hl.1 rfl (Nat.le_of_ble_eq_true rfl) ⟨Nat.zero_le _, Nat.zero_le _⟩ dX5_as_28) ?_
      refine lv_istore_n (lv' := [(3, .int (iv (pr A 0 x))), (0, .ref (a 0)), (1, .int (iv (x))), (2, .int (iv (k)))]) X.1 X.2.1 dX5_as_31 rfl hl (by decide) rfl (fun ls hl => ?_)
      refine lv_iload_n X.1 X.2.1 dX5_as_32 rfl (lv_at hl 3 rfl) ?_
      refine z_if_eq (tgt := 61) X r_k dX5_as_33 (by decide) (fun c_33 => ?_) (fun c_33 => ?_)
      · refine z_iconst X dX5_as_61 ?_
        refine lv_goto (tgt := 66) X.1 X.2.1 dX5_as_62 (by decide) ?_
        refine lv_istore (lv' := [(4, .int (iv (1))), (3, .int (iv (pr A 0 x))), (0, .ref (a 0)), (1, .int (iv (x))), (2, .int (iv (k)))]) X.1 X.2.1 dX5_as_66 hl (by decide) rfl (fun ls hl => ?_)
        refine lv_iload X.1 X.2.1 dX5_as_68 (lv_at hl 0 rfl) ?_
        refine z_if_eq (tgt := 81) X ⟨by decide, by decide⟩ dX5_as_70 (by decide) (fun c_70 => ?_) (fun c_70 => ?_)
        · exact absurd c_70 (by decide)
        · refine lv_aload_n X.1 X.2.1 dX5_as_73 rfl (lv_at hl 2 rfl) ?_
          refine lv_iload_n X.1 X.2.1 dX5_as_74 rfl (lv_at hl 3 rfl) ?_
          refine z_pi (run_V (rest := []) X h (c_X5_brownOf (p := x) hR hI (by omega) (by omega)) mi_X5_brownOf ml_X5_105 ⟨Nat.le_of_ble_eq_true rfl, Nat.le_of_ble_eq_true rfl⟩ ⟨rfl, rfl⟩ (Seg.rfl' _) 4 0 rfl rfl rfl rfl hl.1 rfl (Nat.le_of_ble_eq_true rfl) ⟨Nat.zero_le _, Nat.zero_le _⟩ dX5_as_75) ?_
          refine lv_goto (tgt := 87) X.1 X.2.1 dX5_as_78 (by decide) ?_
          have e9 : q_as A ph x k = (brn A x, A, ph) := by first | (exfalso; omega) | (unfold q_as; (repeat (first | rw [if_pos (by omega)] | rw [if_neg (by omega)])); try rfl)
          exact ret _ _ _ _ _ (mm, kp, wa, (iv (ik)), fd, gf, tp, (iv (tn)), (iv (tk)), (iv (bg)), (iv (pt)), (iv (vl)), (iv (bd)), bt, sz, cl) h (by rw [e9]; exact ⟨rfl, ⟨hR, hI, hr9⟩, hK, hF, hT, hB⟩) dX5_as_87
      · refine lv_iload_n X.1 X.2.1 dX5_as_36 rfl (lv_at hl 3 rfl) ?_
        refine lv_iload_n X.1 X.2.1 dX5_as_37 rfl (lv_at hl 0 rfl) ?_
        refine z_ic_eq (tgt := 61) X r_k ⟨by omega, by omega⟩ dX5_as_38 (by decide) (fun c_38 => ?_) (fun c_38 => ?_)
        · refine z_iconst X dX5_as_61 ?_
          refine lv_goto (tgt := 66) X.1 X.2.1 dX5_as_62 (by decide) ?_
          refine lv_istore (lv' := [(4, .int (iv (1))), (3, .int (iv (pr A 0 x))), (0, .ref (a 0)), (1, .int (iv (x))), (2, .int (iv (k)))]) X.1 X.2.1 dX5_as_66 hl (by decide) rfl (fun ls hl => ?_)
          refine lv_iload X.1 X.2.1 dX5_as_68 (lv_at hl 0 rfl) ?_
          refine z_if_eq (tgt := 81) X ⟨by decide, by decide⟩ dX5_as_70 (by decide) (fun c_70 => ?_) (fun c_70 => ?_)
          · exact absurd c_70 (by decide)
          · refine lv_aload_n X.1 X.2.1 dX5_as_73 rfl (lv_at hl 2 rfl) ?_
            refine lv_iload_n X.1 X.2.1 dX5_as_74 rfl (lv_at hl 3 rfl) ?_
            refine z_pi (run_V (rest := []) X h (c_X5_brownOf (p := x) hR hI (by omega) (by omega)) mi_X5_brownOf ml_X5_105 ⟨Nat.le_of_ble_eq_true rfl, Nat.le_of_ble_eq_true rfl⟩ ⟨rfl, rfl⟩ (Seg.rfl' _) 4 0 rfl rfl rfl rfl hl.1 rfl (Nat.le_of_ble_eq_true rfl) ⟨Nat.zero_le _, Nat.zero_le _⟩ dX5_as_75) ?_
            refine lv_goto (tgt := 87) X.1 X.2.1 dX5_as_78 (by decide) ?_
            have e9 : q_as A ph x k = (brn A x, A, ph) := by first | (exfalso; omega) | (unfold q_as; (repeat (first | rw [if_pos (by omega)] | rw [if_neg (by omega)])); try rfl)
            exact ret _ _ _ _ _ (mm, kp, wa, (iv (ik)), fd, gf, tp, (iv (tn)), (iv (tk)), (iv (bg)), (iv (pt)), (iv (vl)), (iv (bd)), bt, sz, cl) h (by rw [e9]; exact ⟨rfl, ⟨hR, hI, hr9⟩, hK, hF, hT, hB⟩) dX5_as_87
        · refine lv_iload_n X.1 X.2.1 dX5_as_41 rfl (lv_at hl 3 rfl) ?_
          refine z_iconst X dX5_as_42 ?_
          refine z_ic_ne (tgt := 51) X r_k ⟨by decide, by decide⟩ dX5_as_43 (by decide) (fun c_43 => ?_) (fun c_43 => ?_)
          · refine lv_iload_n X.1 X.2.1 dX5_as_51 rfl (lv_at hl 3 rfl) ?_
            refine z_iconst X dX5_as_52 ?_
            refine z_ic_ne (tgt := 65) X r_k ⟨by decide, by decide⟩ dX5_as_53 (by decide) (fun c_53 => ?_) (fun c_53 => ?_)
            · refine z_iconst X dX5_as_65 ?_
              refine lv_istore (lv' := [(4, .int (iv (0))), (3, .int (iv (pr A 0 x))), (0, .ref (a 0)), (1, .int (iv (x))), (2, .int (iv (k)))]) X.1 X.2.1 dX5_as_66 hl (by decide) rfl (fun ls hl => ?_)
              refine lv_iload X.1 X.2.1 dX5_as_68 (lv_at hl 0 rfl) ?_
              refine z_if_eq (tgt := 81) X ⟨by decide, by decide⟩ dX5_as_70 (by decide) (fun c_70 => ?_) (fun c_70 => ?_)
              · refine lv_aload_n X.1 X.2.1 dX5_as_81 rfl (lv_at hl 2 rfl) ?_
                refine z_ldc (z := (-1000000003)) X ct_X5_108 (by decide) dX5_as_82 ?_
                refine z_ai h (run_V (rest := []) X h (c_X5_finds (k := 2) hF (by decide) (by decide) (by decide)) mi_X5_finds ml_X5_40 ⟨Nat.le_of_ble_eq_true rfl, Nat.le_of_ble_eq_true rfl⟩ ⟨rfl, rfl⟩ (Seg.rfl' _) 4 0 rfl rfl rfl rfl hl.1 rfl (Nat.le_of_ble_eq_true rfl) ⟨Nat.zero_le _, Nat.zero_le _⟩ dX5_as_84) (fun _ => rfl) (fun r fd2 H locs hp h => ?_)
                obtain ⟨rfl, hF2⟩ := hp
                have h : St E _ s H locs (wM E a (mm, kp, wa, (iv (ik)), fd2, gf, tp, (iv (tn)), (iv (tk)), (iv (bg)), (iv (pt)), (iv (vl)), (iv (bd)), bt, sz, cl)) := h
                have e9 : q_as A ph x k = ((-1000000003), A, (bump ph 2)) := by first | (exfalso; omega) | (unfold q_as; (repeat (first | rw [if_pos (by omega)] | rw [if_neg (by omega)])); try rfl)
                exact ret _ _ _ _ _ (mm, kp, wa, (iv (ik)), fd2, gf, tp, (iv (tn)), (iv (tk)), (iv (bg)), (iv (pt)), (iv (vl)), (iv (bd)), bt, sz, cl) h (by rw [e9]; exact ⟨rfl, ⟨hR, hI, hr9⟩, hK, hF2, hT, hB⟩) dX5_as_87
              · exact absurd c_70 (by decide)
            · refine lv_iload_n X.1 X.2.1 dX5_as_56 rfl (lv_at hl 0 rfl) ?_
              refine z_iconst X dX5_as_57 ?_
              refine z_ic_ne (tgt := 65) X ⟨by omega, by omega⟩ ⟨by decide, by decide⟩ dX5_as_58 (by decide) (fun c_58 => ?_) (fun c_58 => ?_)
              · refine z_iconst X dX5_as_65 ?_
                refine lv_istore (lv' := [(4, .int (iv (0))), (3, .int (iv (pr A 0 x))), (0, .ref (a 0)), (1, .int (iv (x))), (2, .int (iv (k)))]) X.1 X.2.1 dX5_as_66 hl (by decide) rfl (fun ls hl => ?_)
                refine lv_iload X.1 X.2.1 dX5_as_68 (lv_at hl 0 rfl) ?_
                refine z_if_eq (tgt := 81) X ⟨by decide, by decide⟩ dX5_as_70 (by decide) (fun c_70 => ?_) (fun c_70 => ?_)
                · refine lv_aload_n X.1 X.2.1 dX5_as_81 rfl (lv_at hl 2 rfl) ?_
                  refine z_ldc (z := (-1000000003)) X ct_X5_108 (by decide) dX5_as_82 ?_
                  refine z_ai h (run_V (rest := []) X h (c_X5_finds (k := 2) hF (by decide) (by decide) (by decide)) mi_X5_finds ml_X5_40 ⟨Nat.le_of_ble_eq_true rfl, Nat.le_of_ble_eq_true rfl⟩ ⟨rfl, rfl⟩ (Seg.rfl' _) 4 0 rfl rfl rfl rfl hl.1 rfl (Nat.le_of_ble_eq_true rfl) ⟨Nat.zero_le _, Nat.zero_le _⟩ dX5_as_84) (fun _ => rfl) (fun r fd3 H locs hp h => ?_)
                  obtain ⟨rfl, hF3⟩ := hp
                  have h : St E _ s H locs (wM E a (mm, kp, wa, (iv (ik)), fd3, gf, tp, (iv (tn)), (iv (tk)), (iv (bg)), (iv (pt)), (iv (vl)), (iv (bd)), bt, sz, cl)) := h
                  have e9 : q_as A ph x k = ((-1000000003), A, (bump ph 2)) := by first | (exfalso; omega) | (unfold q_as; (repeat (first | rw [if_pos (by omega)] | rw [if_neg (by omega)])); try rfl)
                  exact ret _ _ _ _ _ (mm, kp, wa, (iv (ik)), fd3, gf, tp, (iv (tn)), (iv (tk)), (iv (bg)), (iv (pt)), (iv (vl)), (iv (bd)), bt, sz, cl) h (by rw [e9]; exact ⟨rfl, ⟨hR, hI, hr9⟩, hK, hF3, hT, hB⟩) dX5_as_87
                · exact absurd c_70 (by decide)
              · refine z_iconst X dX5_as_61 ?_
                refine lv_goto (tgt := 66) X.1 X.2.1 dX5_as_62 (by decide) ?_
                refine lv_istore (lv' := [(4, .int (iv (1))), (3, .int (iv (pr A 0 x))), (0, .ref (a 0)), (1, .int (iv (x))), (2, .int (iv (k)))]) X.1 X.2.1 dX5_as_66 hl (by decide) rfl (fun ls hl => ?_)
                refine lv_iload X.1 X.2.1 dX5_as_68 (lv_at hl 0 rfl) ?_
                refine z_if_eq (tgt := 81) X ⟨by decide, by decide⟩ dX5_as_70 (by decide) (fun c_70 => ?_) (fun c_70 => ?_)
                · exact absurd c_70 (by decide)
                · refine lv_aload_n X.1 X.2.1 dX5_as_73 rfl (lv_at hl 2 rfl) ?_
                  refine lv_iload_n X.1 X.2.1 dX5_as_74 rfl (lv_at hl 3 rfl) ?_
                  refine z_pi (run_V (rest := []) X h (c_X5_brownOf (p := x) hR hI (by omega) (by omega)) mi_X5_brownOf ml_X5_105 ⟨Nat.le_of_ble_eq_true rfl, Nat.le_of_ble_eq_true rfl⟩ ⟨rfl, rfl⟩ (Seg.rfl' _) 4 0 rfl rfl rfl rfl hl.1 rfl (Nat.le_of_ble_eq_true rfl) ⟨Nat.zero_le _, Nat.zero_le _⟩ dX5_as_75) ?_
                  refine lv_goto (tgt := 87) X.1 X.2.1 dX5_as_78 (by decide) ?_
                  have e9 : q_as A ph x k = (brn A x, A, ph) := by first | (exfalso; omega) | (unfold q_as; (repeat (first | rw [if_pos (by omega)] | rw [if_neg (by omega)])); try rfl)
                  exact ret _ _ _ _ _ (mm, kp, wa, (iv (ik)), fd, gf, tp, (iv (tn)), (iv (tk)), (iv (bg)), (iv (pt)), (iv (vl)), (iv (bd)), bt, sz, cl) h (by rw [e9]; exact ⟨rfl, ⟨hR, hI, hr9⟩, hK, hF, hT, hB⟩) dX5_as_87
          · refine lv_iload_n X.1 X.2.1 dX5_as_46 rfl (lv_at hl 0 rfl) ?_
            refine z_iconst X dX5_as_47 ?_
            refine z_ic_eq (tgt := 61) X ⟨by omega, by omega⟩ ⟨by decide, by decide⟩ dX5_as_48 (by decide) (fun c_48 => ?_) (fun c_48 => ?_)
            · refine z_iconst X dX5_as_61 ?_
              refine lv_goto (tgt := 66) X.1 X.2.1 dX5_as_62 (by decide) ?_
              refine lv_istore (lv' := [(4, .int (iv (1))), (3, .int (iv (pr A 0 x))), (0, .ref (a 0)), (1, .int (iv (x))), (2, .int (iv (k)))]) X.1 X.2.1 dX5_as_66 hl (by decide) rfl (fun ls hl => ?_)
              refine lv_iload X.1 X.2.1 dX5_as_68 (lv_at hl 0 rfl) ?_
              refine z_if_eq (tgt := 81) X ⟨by decide, by decide⟩ dX5_as_70 (by decide) (fun c_70 => ?_) (fun c_70 => ?_)
              · exact absurd c_70 (by decide)
              · refine lv_aload_n X.1 X.2.1 dX5_as_73 rfl (lv_at hl 2 rfl) ?_
                refine lv_iload_n X.1 X.2.1 dX5_as_74 rfl (lv_at hl 3 rfl) ?_
                refine z_pi (run_V (rest := []) X h (c_X5_brownOf (p := x) hR hI (by omega) (by omega)) mi_X5_brownOf ml_X5_105 ⟨Nat.le_of_ble_eq_true rfl, Nat.le_of_ble_eq_true rfl⟩ ⟨rfl, rfl⟩ (Seg.rfl' _) 4 0 rfl rfl rfl rfl hl.1 rfl (Nat.le_of_ble_eq_true rfl) ⟨Nat.zero_le _, Nat.zero_le _⟩ dX5_as_75) ?_
                refine lv_goto (tgt := 87) X.1 X.2.1 dX5_as_78 (by decide) ?_
                have e9 : q_as A ph x k = (brn A x, A, ph) := by first | (exfalso; omega) | (unfold q_as; (repeat (first | rw [if_pos (by omega)] | rw [if_neg (by omega)])); try rfl)
                exact ret _ _ _ _ _ (mm, kp, wa, (iv (ik)), fd, gf, tp, (iv (tn)), (iv (tk)), (iv (bg)), (iv (pt)), (iv (vl)), (iv (bd)), bt, sz, cl) h (by rw [e9]; exact ⟨rfl, ⟨hR, hI, hr9⟩, hK, hF, hT, hB⟩) dX5_as_87
            · refine lv_iload_n X.1 X.2.1 dX5_as_51 rfl (lv_at hl 3 rfl) ?_
              refine z_iconst X dX5_as_52 ?_
              refine z_ic_ne (tgt := 65) X r_k ⟨by decide, by decide⟩ dX5_as_53 (by decide) (fun c_53 => ?_) (fun c_53 => ?_)
              · refine z_iconst X dX5_as_65 ?_
                refine lv_istore (lv' := [(4, .int (iv (0))), (3, .int (iv (pr A 0 x))), (0, .ref (a 0)), (1, .int (iv (x))), (2, .int (iv (k)))]) X.1 X.2.1 dX5_as_66 hl (by decide) rfl (fun ls hl => ?_)
                refine lv_iload X.1 X.2.1 dX5_as_68 (lv_at hl 0 rfl) ?_
                refine z_if_eq (tgt := 81) X ⟨by decide, by decide⟩ dX5_as_70 (by decide) (fun c_70 => ?_) (fun c_70 => ?_)
                · refine lv_aload_n X.1 X.2.1 dX5_as_81 rfl (lv_at hl 2 rfl) ?_
                  refine z_ldc (z := (-1000000003)) X ct_X5_108 (by decide) dX5_as_82 ?_
                  refine z_ai h (run_V (rest := []) X h (c_X5_finds (k := 2) hF (by decide) (by decide) (by decide)) mi_X5_finds ml_X5_40 ⟨Nat.le_of_ble_eq_true rfl, Nat.le_of_ble_eq_true rfl⟩ ⟨rfl, rfl⟩ (Seg.rfl' _) 4 0 rfl rfl rfl rfl hl.1 rfl (Nat.le_of_ble_eq_true rfl) ⟨Nat.zero_le _, Nat.zero_le _⟩ dX5_as_84) (fun _ => rfl) (fun r fd4 H locs hp h => ?_)
                  obtain ⟨rfl, hF4⟩ := hp
                  have h : St E _ s H locs (wM E a (mm, kp, wa, (iv (ik)), fd4, gf, tp, (iv (tn)), (iv (tk)), (iv (bg)), (iv (pt)), (iv (vl)), (iv (bd)), bt, sz, cl)) := h
                  have e9 : q_as A ph x k = ((-1000000003), A, (bump ph 2)) := by first | (exfalso; omega) | (unfold q_as; (repeat (first | rw [if_pos (by omega)] | rw [if_neg (by omega)])); try rfl)
                  exact ret _ _ _ _ _ (mm, kp, wa, (iv (ik)), fd4, gf, tp, (iv (tn)), (iv (tk)), (iv (bg)), (iv (pt)), (iv (vl)), (iv (bd)), bt, sz, cl) h (by rw [e9]; exact ⟨rfl, ⟨hR, hI, hr9⟩, hK, hF4, hT, hB⟩) dX5_as_87
                · exact absurd c_70 (by decide)
              · refine lv_iload_n X.1 X.2.1 dX5_as_56 rfl (lv_at hl 0 rfl) ?_
                refine z_iconst X dX5_as_57 ?_
                refine z_ic_ne (tgt := 65) X ⟨by omega, by omega⟩ ⟨by decide, by decide⟩ dX5_as_58 (by decide) (fun c_58 => ?_) (fun c_58 => ?_)
                · refine z_iconst X dX5_as_65 ?_
                  refine lv_istore (lv' := [(4, .int (iv (0))), (3, .int (iv (pr A 0 x))), (0, .ref (a 0)), (1, .int (iv (x))), (2, .int (iv (k)))]) X.1 X.2.1 dX5_as_66 hl (by decide) rfl (fun ls hl => ?_)
                  refine lv_iload X.1 X.2.1 dX5_as_68 (lv_at hl 0 rfl) ?_
                  refine z_if_eq (tgt := 81) X ⟨by decide, by decide⟩ dX5_as_70 (by decide) (fun c_70 => ?_) (fun c_70 => ?_)
                  · refine lv_aload_n X.1 X.2.1 dX5_as_81 rfl (lv_at hl 2 rfl) ?_
                    refine z_ldc (z := (-1000000003)) X ct_X5_108 (by decide) dX5_as_82 ?_
                    refine z_ai h (run_V (rest := []) X h (c_X5_finds (k := 2) hF (by decide) (by decide) (by decide)) mi_X5_finds ml_X5_40 ⟨Nat.le_of_ble_eq_true rfl, Nat.le_of_ble_eq_true rfl⟩ ⟨rfl, rfl⟩ (Seg.rfl' _) 4 0 rfl rfl rfl rfl hl.1 rfl (Nat.le_of_ble_eq_true rfl) ⟨Nat.zero_le _, Nat.zero_le _⟩ dX5_as_84) (fun _ => rfl) (fun r fd5 H locs hp h => ?_)
                    obtain ⟨rfl, hF5⟩ := hp
                    have h : St E _ s H locs (wM E a (mm, kp, wa, (iv (ik)), fd5, gf, tp, (iv (tn)), (iv (tk)), (iv (bg)), (iv (pt)), (iv (vl)), (iv (bd)), bt, sz, cl)) := h
                    have e9 : q_as A ph x k = ((-1000000003), A, (bump ph 2)) := by first | (exfalso; omega) | (unfold q_as; (repeat (first | rw [if_pos (by omega)] | rw [if_neg (by omega)])); try rfl)
                    exact ret _ _ _ _ _ (mm, kp, wa, (iv (ik)), fd5, gf, tp, (iv (tn)), (iv (tk)), (iv (bg)), (iv (pt)), (iv (vl)), (iv (bd)), bt, sz, cl) h (by rw [e9]; exact ⟨rfl, ⟨hR, hI, hr9⟩, hK, hF5, hT, hB⟩) dX5_as_87
                  · exact absurd c_70 (by decide)
                · refine z_iconst X dX5_as_61 ?_
                  refine lv_goto (tgt := 66) X.1 X.2.1 dX5_as_62 (by decide) ?_
                  refine lv_istore (lv' := [(4, .int (iv (1))), (3, .int (iv (pr A 0 x))), (0, .ref (a 0)), (1, .int (iv (x))), (2, .int (iv (k)))]) X.1 X.2.1 dX5_as_66 hl (by decide) rfl (fun ls hl => ?_)
                  refine lv_iload X.1 X.2.1 dX5_as_68 (lv_at hl 0 rfl) ?_
                  refine z_if_eq (tgt := 81) X ⟨by decide, by decide⟩ dX5_as_70 (by decide) (fun c_70 => ?_) (fun c_70 => ?_)
                  · exact absurd c_70 (by decide)
                  · refine lv_aload_n X.1 X.2.1 dX5_as_73 rfl (lv_at hl 2 rfl) ?_
                    refine lv_iload_n X.1 X.2.1 dX5_as_74 rfl (lv_at hl 3 rfl) ?_
                    refine z_pi (run_V (rest := []) X h (c_X5_brownOf (p := x) hR hI (by omega) (by omega)) mi_X5_brownOf ml_X5_105 ⟨Nat.le_of_ble_eq_true rfl, Nat.le_of_ble_eq_true rfl⟩ ⟨rfl, rfl⟩ (Seg.rfl' _) 4 0 rfl rfl rfl rfl hl.1 rfl (Nat.le_of_ble_eq_true rfl) ⟨Nat.zero_le _, Nat.zero_le _⟩ dX5_as_75) ?_
                    refine lv_goto (tgt := 87) X.1 X.2.1 dX5_as_78 (by decide) ?_
                    have e9 : q_as A ph x k = (brn A x, A, ph) := by first | (exfalso; omega) | (unfold q_as; (repeat (first | rw [if_pos (by omega)] | rw [if_neg (by omega)])); try rfl)
                    exact ret _ _ _ _ _ (mm, kp, wa, (iv (ik)), fd, gf, tp, (iv (tn)), (iv (tk)), (iv (bg)), (iv (pt)), (iv (vl)), (iv (bd)), bt, sz, cl) h (by rw [e9]; exact ⟨rfl, ⟨hR, hI, hr9⟩, hK, hF, hT, hB⟩) dX5_as_87
    · refine lv_aload_n X.1 X.2.1 dX5_as_18 rfl (lv_at hl 0 rfl) ?_
      refine z_ldc (z := (-1000000001)) X ct_X5_38 (by decide) dX5_as_19 ?_
      refine z_ai h (run_V (rest := []) X h (c_X5_finds (k := 0) hF (by decide) (by decide) (by decide)) mi_X5_finds ml_X5_40 ⟨Nat.le_of_ble_eq_true rfl, Nat.le_of_ble_eq_true rfl⟩ ⟨rfl, rfl⟩ (Seg.rfl' _) 4 0 rfl rfl rfl rfl hl.1 rfl (Nat.le_of_ble_eq_true rfl) ⟨Nat.zero_le _, Nat.zero_le _⟩ dX5_as_21) (fun _ => rfl) (fun r fd6 H locs hp h => ?_)
      obtain ⟨rfl, hF6⟩ := hp
      have h : St E _ s H locs (wM E a (mm, kp, wa, (iv (ik)), fd6, gf, tp, (iv (tn)), (iv (tk)), (iv (bg)), (iv (pt)), (iv (vl)), (iv (bd)), bt, sz, cl)) := h
      have e9 : q_as A ph x k = ((-1000000001), A, (bump ph 0)) := by first | (exfalso; omega) | (unfold q_as; (repeat (first | rw [if_pos (by omega)] | rw [if_neg (by omega)])); try rfl)
      exact ret _ _ _ _ _ (mm, kp, wa, (iv (ik)), fd6, gf, tp, (iv (tn)), (iv (tk)), (iv (bg)), (iv (pt)), (iv (vl)), (iv (bd)), bt, sz, cl) h (by rw [e9]; exact ⟨rfl, ⟨hR, hI, hr9⟩, hK, hF6, hT, hB⟩) dX5_as_24

set_option maxHeartbeats 4000000 in
theorem c_X5_sit (hS : RepM (mm, kp, wa, (iv (ik)), fd, gf, tp, (iv (tn)), (iv (tk)), (iv (bg)), (iv (pt)), (iv (vl)), (iv (bd)), bt, sz, cl) (A, K, ik, ph, tq, tn, bq, sq, cq)) {x : Int} (r_x : r32 x) {ch : Int} (r_ch : r32 ch) : MI (S := Mc) E l yX5_sit cX5_sit 3 (some FieldType.int) (rmk 3 68) (wM E a (mm, kp, wa, (iv (ik)), fd, gf, tp, (iv (tn)), (iv (tk)), (iv (bg)), (iv (pt)), (iv (vl)), (iv (bd)), bt, sz, cl)) [.ref (a 0), .int (iv (x)), .int (iv (ch))] (fun r u => r = iv (q_sit A ph x ch).1 ∧ RepM u ((q_sit A ph x ch).2.1, K, ik, (q_sit A ph x ch).2.2, tq, tn, bq, sq, cq)) (fun u => wM E a u) := by
  refine goI (S := Mc) (post := fun r u => r = iv (q_sit A ph x ch).1 ∧ RepM u ((q_sit A ph x ch).2.1, K, ik, (q_sit A ph x ch).2.2, tq, tn, bq, sq, cq)) (ws' := fun u => wM E a u) (by decide) (Nat.le_of_ble_eq_true rfl) ?_
  intro pp e s m below meth c ls args Q ret X h hl
  have hl : lv_has ls 3 [(0, .ref (a 0)), (1, .int (iv (x))), (2, .int (iv (ch)))] := hl
  have hR : RM mm A := hS.1.1
  have hI : IA A := hS.1.2.1
  have hr9 : hr A ≤ 99999 := hS.1.2.2
  have hF : RF 7 fd ph := hS.2.2.1
  have hK := hS.2.1
  have hT := hS.2.2.2.1
  have hB := hS.2.2.2.2
  have hh : hr A < 1000000 := by omega
  have n8 := hI.n8
  have n0 := hI.n0
  have h0 := hI.h0
  refine lv_aload_n X.1 X.2.1 dX5_sit_0 rfl (lv_at hl 0 rfl) ?_
  refine lv_iload_n X.1 X.2.1 dX5_sit_1 rfl (lv_at hl 1 rfl) ?_
  refine z_pi (run_V (rest := []) X h (c_X5_isPerson (p := x) hR hI r_x) mi_X5_isPerson ml_X5_48 ⟨Nat.le_of_ble_eq_true rfl, Nat.le_of_ble_eq_true rfl⟩ ⟨rfl, rfl⟩ (Seg.rfl' _) 4 0 rfl rfl rfl rfl hl.1 rfl (Nat.le_of_ble_eq_true rfl) ⟨Nat.zero_le _, Nat.zero_le _⟩ dX5_sit_2) ?_
  refine z_ifb_eq (tgt := 19) X dX5_sit_5 (by decide) (fun c_5 => ?_) (fun c_5 => ?_)
  · refine lv_aload_n X.1 X.2.1 dX5_sit_19 rfl (lv_at hl 0 rfl) ?_
    refine z_ldc (z := (-1000000001)) X ct_X5_38 (by decide) dX5_sit_20 ?_
    refine z_ai h (run_V (rest := []) X h (c_X5_finds (k := 0) hF (by decide) (by decide) (by decide)) mi_X5_finds ml_X5_40 ⟨Nat.le_of_ble_eq_true rfl, Nat.le_of_ble_eq_true rfl⟩ ⟨rfl, rfl⟩ (Seg.rfl' _) 4 0 rfl rfl rfl rfl hl.1 rfl (Nat.le_of_ble_eq_true rfl) ⟨Nat.zero_le _, Nat.zero_le _⟩ dX5_sit_22) (fun _ => rfl) (fun r fd1 H locs hp h => ?_)
    obtain ⟨rfl, hF1⟩ := hp
    have h : St E _ s H locs (wM E a (mm, kp, wa, (iv (ik)), fd1, gf, tp, (iv (tn)), (iv (tk)), (iv (bg)), (iv (pt)), (iv (vl)), (iv (bd)), bt, sz, cl)) := h
    have e9 : q_sit A ph x ch = ((-1000000001), A, (bump ph 0)) := by unfold q_sit; (repeat (first | rw [if_pos (by omega)] | rw [if_neg (by omega)])); try rfl
    exact ret _ _ _ _ _ (mm, kp, wa, (iv (ik)), fd1, gf, tp, (iv (tn)), (iv (tk)), (iv (bg)), (iv (pt)), (iv (vl)), (iv (bd)), bt, sz, cl) h (by rw [e9]; exact ⟨rfl, ⟨hR, hI, hr9⟩, hK, hF1, hT, hB⟩) dX5_sit_25
  · refine lv_iload_n X.1 X.2.1 dX5_sit_8 rfl (lv_at hl 2 rfl) ?_
    refine lv_i2l (v := (iv (ch)).toInt64) X.1 X.2.1 dX5_sit_9 rfl ?_
    refine z_iconst X dX5_sit_10 ?_
    refine z_bipush X (by decide) dX5_sit_11 ?_
    refine z_pi (run_S (rest := []) X h (c_inI r_ch ⟨by decide, by decide⟩ ⟨by decide, by decide⟩) mi_X5_in ml_X5_44 ⟨Nat.le_of_ble_eq_true rfl, Nat.le_of_ble_eq_true rfl⟩ ⟨rfl, rfl⟩ (Seg.nil _) rfl hl.1 rfl (Nat.le_of_ble_eq_true rfl) ⟨Nat.zero_le _, Nat.zero_le _⟩ dX5_sit_13) ?_
    refine z_ifb_ne (tgt := 26) X dX5_sit_16 (by decide) (fun c_16 => ?_) (fun c_16 => ?_)
    · refine lv_aload_n X.1 X.2.1 dX5_sit_26 rfl (lv_at hl 0 rfl) ?_
      refine lv_iload_n X.1 X.2.1 dX5_sit_27 rfl (lv_at hl 2 rfl) ?_
      refine lv_iload_n X.1 X.2.1 dX5_sit_28 rfl (lv_at hl 1 rfl) ?_
      refine z_pi (run_V (rest := []) X h (c_X5_isFreeFor (ch := ch) (p := x) hR hI (by omega) (by omega) (by omega) (by omega)) mi_X5_isFreeFor ml_X5_109 ⟨Nat.le_of_ble_eq_true rfl, Nat.le_of_ble_eq_true rfl⟩ ⟨rfl, rfl⟩ (Seg.rfl' _) 4 0 rfl rfl rfl rfl hl.1 rfl (Nat.le_of_ble_eq_true rfl) ⟨Nat.zero_le _, Nat.zero_le _⟩ dX5_sit_29) ?_
      refine z_ifb_eq (tgt := 51) X dX5_sit_32 (by decide) (fun c_32 => ?_) (fun c_32 => ?_)
      · refine lv_aload_n X.1 X.2.1 dX5_sit_51 rfl (lv_at hl 0 rfl) ?_
        refine z_ldc (z := (-1000000005)) X ct_X5_113 (by decide) dX5_sit_52 ?_
        refine z_ai h (run_V (rest := []) X h (c_X5_finds (k := 4) hF (by decide) (by decide) (by decide)) mi_X5_finds ml_X5_40 ⟨Nat.le_of_ble_eq_true rfl, Nat.le_of_ble_eq_true rfl⟩ ⟨rfl, rfl⟩ (Seg.rfl' _) 4 0 rfl rfl rfl rfl hl.1 rfl (Nat.le_of_ble_eq_true rfl) ⟨Nat.zero_le _, Nat.zero_le _⟩ dX5_sit_54) (fun _ => rfl) (fun r fd2 H locs hp h => ?_)
        obtain ⟨rfl, hF2⟩ := hp
        have h : St E _ s H locs (wM E a (mm, kp, wa, (iv (ik)), fd2, gf, tp, (iv (tn)), (iv (tk)), (iv (bg)), (iv (pt)), (iv (vl)), (iv (bd)), bt, sz, cl)) := h
        have e9 : q_sit A ph x ch = ((-1000000005), A, (bump ph 4)) := by unfold q_sit; (repeat (first | rw [if_pos (by omega)] | rw [if_neg (by omega)])); try rfl
        exact ret _ _ _ _ _ (mm, kp, wa, (iv (ik)), fd2, gf, tp, (iv (tn)), (iv (tk)), (iv (bg)), (iv (pt)), (iv (vl)), (iv (bd)), bt, sz, cl) h (by rw [e9]; exact ⟨rfl, ⟨hR, hI, hr9⟩, hK, hF2, hT, hB⟩) dX5_sit_57
      · refine lv_aload_n X.1 X.2.1 dX5_sit_35 rfl (lv_at hl 0 rfl) ?_
        refine z_bipush X (by decide) dX5_sit_36 ?_
        refine z_iconst X dX5_sit_38 ?_
        refine lv_iload_n X.1 X.2.1 dX5_sit_39 rfl (lv_at hl 1 rfl) ?_
        refine z_imul X dX5_sit_40 ?_
        refine z_iadd X dX5_sit_41 ?_
        refine z_iconst X dX5_sit_42 ?_
        refine z_iadd X dX5_sit_43 ?_
        refine lv_iload_n X.1 X.2.1 dX5_sit_44 rfl (lv_at hl 2 rfl) ?_
        refine z_ai h (run_V (rest := []) X h (c_X5_becomes (i := 12 + (5 * x) + 1) (v := ch) (x := pr A 1 x) (by omega) (by omega) (hR.2.2.2 1 x (by omega) (by omega) (by omega) (by omega))) mi_X5_becomes ml_X5_73 ⟨Nat.le_of_ble_eq_true rfl, Nat.le_of_ble_eq_true rfl⟩ ⟨rfl, rfl⟩ (Seg.rfl' _) 4 0 rfl rfl rfl rfl hl.1 rfl (Nat.le_of_ble_eq_true rfl) ⟨Nat.zero_le _, Nat.zero_le _⟩ dX5_sit_45) (fun _ => rfl) (fun r u H locs hp h => ?_)
        obtain ⟨rfl, rfl⟩ := hp
        have h : St E _ s H locs (wM E a ((upd mm (12 + (5 * x) + 1 : Int).toNat (iv (ch))), kp, wa, (iv (ik)), fd, gf, tp, (iv (tn)), (iv (tk)), (iv (bg)), (iv (pt)), (iv (vl)), (iv (bd)), bt, sz, cl)) := h
        have hR3 : RM (upd mm (12 + (5 * x) + 1 : Int).toNat (iv (ch))) (pu A 1 x ch) := RM_pu hR (w := 1) (p := x) (by omega) (by omega) (by omega) (by omega)
        refine lv_goto (tgt := 57) X.1 X.2.1 dX5_sit_48 (by decide) ?_
        have e9 : q_sit A ph x ch = (pr A 1 x, (pu A 1 x ch), ph) := by unfold q_sit; (repeat (first | rw [if_pos (by omega)] | rw [if_neg (by omega)])); try rfl
        exact ret _ _ _ _ _ ((upd mm (12 + (5 * x) + 1 : Int).toNat (iv (ch))), kp, wa, (iv (ik)), fd, gf, tp, (iv (tn)), (iv (tk)), (iv (bg)), (iv (pt)), (iv (vl)), (iv (bd)), bt, sz, cl) h (by rw [e9]; exact ⟨rfl, ⟨hR3, (IA_sit hI (by omega) (by omega) (by omega) (by omega) (by omega)), hr9⟩, hK, hF, hT, hB⟩) dX5_sit_57
    · refine lv_aload_n X.1 X.2.1 dX5_sit_19 rfl (lv_at hl 0 rfl) ?_
      refine z_ldc (z := (-1000000001)) X ct_X5_38 (by decide) dX5_sit_20 ?_
      refine z_ai h (run_V (rest := []) X h (c_X5_finds (k := 0) hF (by decide) (by decide) (by decide)) mi_X5_finds ml_X5_40 ⟨Nat.le_of_ble_eq_true rfl, Nat.le_of_ble_eq_true rfl⟩ ⟨rfl, rfl⟩ (Seg.rfl' _) 4 0 rfl rfl rfl rfl hl.1 rfl (Nat.le_of_ble_eq_true rfl) ⟨Nat.zero_le _, Nat.zero_le _⟩ dX5_sit_22) (fun _ => rfl) (fun r fd4 H locs hp h => ?_)
      obtain ⟨rfl, hF4⟩ := hp
      have h : St E _ s H locs (wM E a (mm, kp, wa, (iv (ik)), fd4, gf, tp, (iv (tn)), (iv (tk)), (iv (bg)), (iv (pt)), (iv (vl)), (iv (bd)), bt, sz, cl)) := h
      have e9 : q_sit A ph x ch = ((-1000000001), A, (bump ph 0)) := by unfold q_sit; (repeat (first | rw [if_pos (by omega)] | rw [if_neg (by omega)])); try rfl
      exact ret _ _ _ _ _ (mm, kp, wa, (iv (ik)), fd4, gf, tp, (iv (tn)), (iv (tk)), (iv (bg)), (iv (pt)), (iv (vl)), (iv (bd)), bt, sz, cl) h (by rw [e9]; exact ⟨rfl, ⟨hR, hI, hr9⟩, hK, hF4, hT, hB⟩) dX5_sit_25

set_option maxHeartbeats 4000000 in
theorem c_X5_given (hS : RepM (mm, kp, wa, (iv (ik)), fd, gf, tp, (iv (tn)), (iv (tk)), (iv (bg)), (iv (pt)), (iv (vl)), (iv (bd)), bt, sz, cl) (A, K, ik, ph, tq, tn, bq, sq, cq)) {x : Int} (r_x : r32 x) {d : Int} (r_d : r32 d) : MI (S := Mc) E l yX5_given cX5_given 3 (some FieldType.int) (rmk 4 91) (wM E a (mm, kp, wa, (iv (ik)), fd, gf, tp, (iv (tn)), (iv (tk)), (iv (bg)), (iv (pt)), (iv (vl)), (iv (bd)), bt, sz, cl)) [.ref (a 0), .int (iv (x)), .int (iv (d))] (fun r u => r = iv (q_given A ph x d).1 ∧ RepM u ((q_given A ph x d).2.1, K, ik, (q_given A ph x d).2.2, tq, tn, bq, sq, cq)) (fun u => wM E a u) := by
  refine goI (S := Mc) (post := fun r u => r = iv (q_given A ph x d).1 ∧ RepM u ((q_given A ph x d).2.1, K, ik, (q_given A ph x d).2.2, tq, tn, bq, sq, cq)) (ws' := fun u => wM E a u) (by decide) (Nat.le_of_ble_eq_true rfl) ?_
  intro pp e s m below meth c ls args Q ret X h hl
  have hl : lv_has ls 3 [(0, .ref (a 0)), (1, .int (iv (x))), (2, .int (iv (d)))] := hl
  have hR : RM mm A := hS.1.1
  have hI : IA A := hS.1.2.1
  have hr9 : hr A ≤ 99999 := hS.1.2.2
  have hF : RF 7 fd ph := hS.2.2.1
  have hK := hS.2.1
  have hT := hS.2.2.2.1
  have hB := hS.2.2.2.2
  have hh : hr A < 1000000 := by omega
  have n8 := hI.n8
  have n0 := hI.n0
  have h0 := hI.h0
  refine lv_aload_n X.1 X.2.1 dX5_given_0 rfl (lv_at hl 0 rfl) ?_
  refine lv_iload_n X.1 X.2.1 dX5_given_1 rfl (lv_at hl 1 rfl) ?_
  refine z_pi (run_V (rest := []) X h (c_X5_isPerson (p := x) hR hI r_x) mi_X5_isPerson ml_X5_48 ⟨Nat.le_of_ble_eq_true rfl, Nat.le_of_ble_eq_true rfl⟩ ⟨rfl, rfl⟩ (Seg.rfl' _) 4 0 rfl rfl rfl rfl hl.1 rfl (Nat.le_of_ble_eq_true rfl) ⟨Nat.zero_le _, Nat.zero_le _⟩ dX5_given_2) ?_
  refine z_ifb_eq (tgt := 27) X dX5_given_5 (by decide) (fun c_5 => ?_) (fun c_5 => ?_)
  · refine lv_aload_n X.1 X.2.1 dX5_given_27 rfl (lv_at hl 0 rfl) ?_
    refine z_ldc (z := (-1000000001)) X ct_X5_38 (by decide) dX5_given_28 ?_
    refine z_ai h (run_V (rest := []) X h (c_X5_finds (k := 0) hF (by decide) (by decide) (by decide)) mi_X5_finds ml_X5_40 ⟨Nat.le_of_ble_eq_true rfl, Nat.le_of_ble_eq_true rfl⟩ ⟨rfl, rfl⟩ (Seg.rfl' _) 4 0 rfl rfl rfl rfl hl.1 rfl (Nat.le_of_ble_eq_true rfl) ⟨Nat.zero_le _, Nat.zero_le _⟩ dX5_given_30) (fun _ => rfl) (fun r fd1 H locs hp h => ?_)
    obtain ⟨rfl, hF1⟩ := hp
    have h : St E _ s H locs (wM E a (mm, kp, wa, (iv (ik)), fd1, gf, tp, (iv (tn)), (iv (tk)), (iv (bg)), (iv (pt)), (iv (vl)), (iv (bd)), bt, sz, cl)) := h
    have e9 : q_given A ph x d = ((-1000000001), A, (bump ph 0)) := by unfold q_given; (repeat (first | rw [if_pos (by omega)] | rw [if_neg (by omega)])); try rfl
    exact ret _ _ _ _ _ (mm, kp, wa, (iv (ik)), fd1, gf, tp, (iv (tn)), (iv (tk)), (iv (bg)), (iv (pt)), (iv (vl)), (iv (bd)), bt, sz, cl) h (by rw [e9]; exact ⟨rfl, ⟨hR, hI, hr9⟩, hK, hF1, hT, hB⟩) dX5_given_33
  · refine lv_iload_n X.1 X.2.1 dX5_given_8 rfl (lv_at hl 2 rfl) ?_
    refine lv_i2l (v := (iv (d)).toInt64) X.1 X.2.1 dX5_given_9 rfl ?_
    refine z_iconst X dX5_given_10 ?_
    refine z_iconst X dX5_given_11 ?_
    refine z_pi (run_S (rest := []) X h (c_inI r_d ⟨by decide, by decide⟩ ⟨by decide, by decide⟩) mi_X5_in ml_X5_44 ⟨Nat.le_of_ble_eq_true rfl, Nat.le_of_ble_eq_true rfl⟩ ⟨rfl, rfl⟩ (Seg.nil _) rfl hl.1 rfl (Nat.le_of_ble_eq_true rfl) ⟨Nat.zero_le _, Nat.zero_le _⟩ dX5_given_12) ?_
    refine z_ifb_eq (tgt := 27) X dX5_given_15 (by decide) (fun c_15 => ?_) (fun c_15 => ?_)
    · refine lv_aload_n X.1 X.2.1 dX5_given_27 rfl (lv_at hl 0 rfl) ?_
      refine z_ldc (z := (-1000000001)) X ct_X5_38 (by decide) dX5_given_28 ?_
      refine z_ai h (run_V (rest := []) X h (c_X5_finds (k := 0) hF (by decide) (by decide) (by decide)) mi_X5_finds ml_X5_40 ⟨Nat.le_of_ble_eq_true rfl, Nat.le_of_ble_eq_true rfl⟩ ⟨rfl, rfl⟩ (Seg.rfl' _) 4 0 rfl rfl rfl rfl hl.1 rfl (Nat.le_of_ble_eq_true rfl) ⟨Nat.zero_le _, Nat.zero_le _⟩ dX5_given_30) (fun _ => rfl) (fun r fd2 H locs hp h => ?_)
      obtain ⟨rfl, hF2⟩ := hp
      have h : St E _ s H locs (wM E a (mm, kp, wa, (iv (ik)), fd2, gf, tp, (iv (tn)), (iv (tk)), (iv (bg)), (iv (pt)), (iv (vl)), (iv (bd)), bt, sz, cl)) := h
      have e9 : q_given A ph x d = ((-1000000001), A, (bump ph 0)) := by unfold q_given; (repeat (first | rw [if_pos (by omega)] | rw [if_neg (by omega)])); try rfl
      exact ret _ _ _ _ _ (mm, kp, wa, (iv (ik)), fd2, gf, tp, (iv (tn)), (iv (tk)), (iv (bg)), (iv (pt)), (iv (vl)), (iv (bd)), bt, sz, cl) h (by rw [e9]; exact ⟨rfl, ⟨hR, hI, hr9⟩, hK, hF2, hT, hB⟩) dX5_given_33
    · refine lv_aload_n X.1 X.2.1 dX5_given_18 rfl (lv_at hl 0 rfl) ?_
      refine lv_iload_n X.1 X.2.1 dX5_given_19 rfl (lv_at hl 1 rfl) ?_
      refine lv_iload_n X.1 X.2.1 dX5_given_20 rfl (lv_at hl 2 rfl) ?_
      refine z_pi (run_V (rest := []) X h (c_X5_givenTo (p := x) (sd := d) hR hI hh (by omega) (by omega) (by omega) (by omega)) mi_X5_givenTo ml_X5_114 ⟨Nat.le_of_ble_eq_true rfl, Nat.le_of_ble_eq_true rfl⟩ ⟨rfl, rfl⟩ (Seg.rfl' _) 4 0 rfl rfl rfl rfl hl.1 rfl (Nat.le_of_ble_eq_true rfl) ⟨Nat.zero_le _, Nat.zero_le _⟩ dX5_given_21) ?_
      refine lv_goto (tgt := 33) X.1 X.2.1 dX5_given_24 (by decide) ?_
      have e9 : q_given A ph x d = (gv A x d, A, ph) := by unfold q_given; (repeat (first | rw [if_pos (by omega)] | rw [if_neg (by omega)])); try rfl
      exact ret _ _ _ _ _ (mm, kp, wa, (iv (ik)), fd, gf, tp, (iv (tn)), (iv (tk)), (iv (bg)), (iv (pt)), (iv (vl)), (iv (bd)), bt, sz, cl) h (by rw [e9]; exact ⟨rfl, ⟨hR, hI, hr9⟩, hK, hF, hT, hB⟩) dX5_given_33

set_option maxHeartbeats 4000000 in
theorem c_X5_hours (hS : RepM (mm, kp, wa, (iv (ik)), fd, gf, tp, (iv (tn)), (iv (tk)), (iv (bg)), (iv (pt)), (iv (vl)), (iv (bd)), bt, sz, cl) (A, K, ik, ph, tq, tn, bq, sq, cq)) {n : Int} (r_n : r32 n) : MI (S := Mc) E l yX5_hours cX5_hours 2 (some FieldType.int) (rmk 7 156) (wM E a (mm, kp, wa, (iv (ik)), fd, gf, tp, (iv (tn)), (iv (tk)), (iv (bg)), (iv (pt)), (iv (vl)), (iv (bd)), bt, sz, cl)) [.ref (a 0), .int (iv (n))] (fun r u => r = iv (q_hours A ph n).1 ∧ RepM u ((q_hours A ph n).2.1, K, ik, (q_hours A ph n).2.2, tq, tn, bq, sq, cq)) (fun u => wM E a u) := by
  refine goI (S := Mc) (post := fun r u => r = iv (q_hours A ph n).1 ∧ RepM u ((q_hours A ph n).2.1, K, ik, (q_hours A ph n).2.2, tq, tn, bq, sq, cq)) (ws' := fun u => wM E a u) (by decide) (Nat.le_of_ble_eq_true rfl) ?_
  intro pp e s m below meth c ls args Q ret X h hl
  have hl : lv_has ls 2 [(0, .ref (a 0)), (1, .int (iv (n)))] := hl
  have hR : RM mm A := hS.1.1
  have hI : IA A := hS.1.2.1
  have hr9 : hr A ≤ 99999 := hS.1.2.2
  have hF : RF 7 fd ph := hS.2.2.1
  have hK := hS.2.1
  have hT := hS.2.2.2.1
  have hB := hS.2.2.2.2
  have hh : hr A < 1000000 := by omega
  have n8 := hI.n8
  have n0 := hI.n0
  have h0 := hI.h0
  refine lv_iload_n X.1 X.2.1 dX5_hours_0 rfl (lv_at hl 1 rfl) ?_
  refine lv_i2l (v := (iv (n)).toInt64) X.1 X.2.1 dX5_hours_1 rfl ?_
  refine z_iconst X dX5_hours_2 ?_
  refine z_bipush X (by decide) dX5_hours_3 ?_
  refine z_pi (run_S (rest := []) X h (c_inI r_n ⟨by decide, by decide⟩ ⟨by decide, by decide⟩) mi_X5_in ml_X5_44 ⟨Nat.le_of_ble_eq_true rfl, Nat.le_of_ble_eq_true rfl⟩ ⟨rfl, rfl⟩ (Seg.nil _) rfl hl.1 rfl (Nat.le_of_ble_eq_true rfl) ⟨Nat.zero_le _, Nat.zero_le _⟩ dX5_hours_5) ?_
  refine z_ifb_ne (tgt := 18) X dX5_hours_8 (by decide) (fun c_8 => ?_) (fun c_8 => ?_)
  · refine lv_aload_n X.1 X.2.1 dX5_hours_18 rfl (lv_at hl 0 rfl) ?_
    refine z_get X h 4 0 0 rfl inX5 rfl (by decide) fl_X5_9 rfl dX5_hours_19 ?_
    refine z_iconst X dX5_hours_22 ?_
    refine z_iald (v := hr A) X h 1 rfl (by omega) (by omega) (by decide) hR.1 dX5_hours_23 ?_
    refine lv_iload_n X.1 X.2.1 dX5_hours_24 rfl (lv_at hl 1 rfl) ?_
    refine z_iadd X dX5_hours_25 ?_
    refine z_ldc (z := 99999) X ct_X5_130 (by decide) dX5_hours_26 ?_
    refine z_ic_le (tgt := 38) X ⟨by omega, by omega⟩ ⟨by decide, by decide⟩ dX5_hours_28 (by decide) (fun c_28 => ?_) (fun c_28 => ?_)
    · refine lv_aload_n X.1 X.2.1 dX5_hours_38 rfl (lv_at hl 0 rfl) ?_
      refine lv_iload_n X.1 X.2.1 dX5_hours_39 rfl (lv_at hl 1 rfl) ?_
      refine z_av h (run_V (rest := []) X h (c_X5_goesFor (k := n) hR hI (by omega) (by omega) (by first | omega | (show hr A + _ < 1000000; omega))) mi_X5_goesFor ml_X5_131 ⟨Nat.le_of_ble_eq_true rfl, Nat.le_of_ble_eq_true rfl⟩ ⟨rfl, rfl⟩ (Seg.rfl' _) 4 0 rfl rfl rfl rfl hl.1 rfl (Nat.le_of_ble_eq_true rfl) ⟨Nat.zero_le _, Nat.zero_le _⟩ dX5_hours_40) (fun _ => rfl) (fun u H locs hp h => ?_)
      obtain ⟨mg1, gg1⟩ := u
      have h : St E _ s H locs (wM E a (mg1, kp, wa, (iv (ik)), fd, gg1, tp, (iv (tn)), (iv (tk)), (iv (bg)), (iv (pt)), (iv (vl)), (iv (bd)), bt, sz, cl)) := h
      have hR1 : RM mg1 (stepn A n.toNat) := hp
      have pn1 : pe (stepn A n.toNat) = pe A := stepn_pe _ _
      refine lv_aload_n X.1 X.2.1 dX5_hours_43 rfl (lv_at hl 0 rfl) ?_
      refine z_pi (run_V (rest := []) X h (c_X5_allBrown hR1 (stepn_IA hI n.toNat)) mi_X5_allBrown ml_X5_88 ⟨Nat.le_of_ble_eq_true rfl, Nat.le_of_ble_eq_true rfl⟩ ⟨rfl, rfl⟩ (Seg.rfl' _) 4 0 rfl rfl rfl rfl hl.1 rfl (Nat.le_of_ble_eq_true rfl) ⟨Nat.zero_le _, Nat.zero_le _⟩ dX5_hours_44) ?_
      have e9 : q_hours A ph n = (allB (stepn A n.toNat), (stepn A n.toNat), ph) := by unfold q_hours; (repeat (first | rw [if_pos (by omega)] | rw [if_neg (by omega)])); try rfl
      exact ret _ _ _ _ _ (mg1, kp, wa, (iv (ik)), fd, gg1, tp, (iv (tn)), (iv (tk)), (iv (bg)), (iv (pt)), (iv (vl)), (iv (bd)), bt, sz, cl) h (by rw [e9]; exact ⟨rfl, ⟨hR1, (stepn_IA hI n.toNat), (by show hr (stepn A n.toNat) ≤ 99999; rw [stepn_hr]; omega)⟩, hK, hF, hT, hB⟩) dX5_hours_47
    · refine lv_aload_n X.1 X.2.1 dX5_hours_31 rfl (lv_at hl 0 rfl) ?_
      refine z_ldc (z := (-1000000005)) X ct_X5_113 (by decide) dX5_hours_32 ?_
      refine z_ai h (run_V (rest := []) X h (c_X5_finds (k := 4) hF (by decide) (by decide) (by decide)) mi_X5_finds ml_X5_40 ⟨Nat.le_of_ble_eq_true rfl, Nat.le_of_ble_eq_true rfl⟩ ⟨rfl, rfl⟩ (Seg.rfl' _) 4 0 rfl rfl rfl rfl hl.1 rfl (Nat.le_of_ble_eq_true rfl) ⟨Nat.zero_le _, Nat.zero_le _⟩ dX5_hours_34) (fun _ => rfl) (fun r fd2 H locs hp h => ?_)
      obtain ⟨rfl, hF2⟩ := hp
      have h : St E _ s H locs (wM E a (mm, kp, wa, (iv (ik)), fd2, gf, tp, (iv (tn)), (iv (tk)), (iv (bg)), (iv (pt)), (iv (vl)), (iv (bd)), bt, sz, cl)) := h
      have e9 : q_hours A ph n = ((-1000000005), A, (bump ph 4)) := by unfold q_hours; (repeat (first | rw [if_pos (by omega)] | rw [if_neg (by omega)])); try rfl
      exact ret _ _ _ _ _ (mm, kp, wa, (iv (ik)), fd2, gf, tp, (iv (tn)), (iv (tk)), (iv (bg)), (iv (pt)), (iv (vl)), (iv (bd)), bt, sz, cl) h (by rw [e9]; exact ⟨rfl, ⟨hR, hI, hr9⟩, hK, hF2, hT, hB⟩) dX5_hours_37
  · refine lv_aload_n X.1 X.2.1 dX5_hours_11 rfl (lv_at hl 0 rfl) ?_
    refine z_ldc (z := (-1000000001)) X ct_X5_38 (by decide) dX5_hours_12 ?_
    refine z_ai h (run_V (rest := []) X h (c_X5_finds (k := 0) hF (by decide) (by decide) (by decide)) mi_X5_finds ml_X5_40 ⟨Nat.le_of_ble_eq_true rfl, Nat.le_of_ble_eq_true rfl⟩ ⟨rfl, rfl⟩ (Seg.rfl' _) 4 0 rfl rfl rfl rfl hl.1 rfl (Nat.le_of_ble_eq_true rfl) ⟨Nat.zero_le _, Nat.zero_le _⟩ dX5_hours_14) (fun _ => rfl) (fun r fd3 H locs hp h => ?_)
    obtain ⟨rfl, hF3⟩ := hp
    have h : St E _ s H locs (wM E a (mm, kp, wa, (iv (ik)), fd3, gf, tp, (iv (tn)), (iv (tk)), (iv (bg)), (iv (pt)), (iv (vl)), (iv (bd)), bt, sz, cl)) := h
    have e9 : q_hours A ph n = ((-1000000001), A, (bump ph 0)) := by unfold q_hours; (repeat (first | rw [if_pos (by omega)] | rw [if_neg (by omega)])); try rfl
    exact ret _ _ _ _ _ (mm, kp, wa, (iv (ik)), fd3, gf, tp, (iv (tn)), (iv (tk)), (iv (bg)), (iv (pt)), (iv (vl)), (iv (bd)), bt, sz, cl) h (by rw [e9]; exact ⟨rfl, ⟨hR, hI, hr9⟩, hK, hF3, hT, hB⟩) dX5_hours_17

set_option maxHeartbeats 4000000 in
theorem c_X5_on (hS : RepM (mm, kp, wa, (iv (ik)), fd, gf, tp, (iv (tn)), (iv (tk)), (iv (bg)), (iv (pt)), (iv (vl)), (iv (bd)), bt, sz, cl) (A, K, ik, ph, tq, tn, bq, sq, cq)) {x : Int} (r_x : r32 x) {n : Int} (r_n : r32 n) {w : Int} (r_w : r32 w) : MI (S := Mc) E l yX5_on cX5_on 5 (some FieldType.int) (rmk 7 156) (wM E a (mm, kp, wa, (iv (ik)), fd, gf, tp, (iv (tn)), (iv (tk)), (iv (bg)), (iv (pt)), (iv (vl)), (iv (bd)), bt, sz, cl)) [.ref (a 0), .int (iv (x)), .int (iv (n)), .int (iv (w))] (fun r u => r = iv (q_on A ph x n w).1 ∧ RepM u ((q_on A ph x n w).2.1, K, ik, (q_on A ph x n w).2.2, tq, tn, bq, sq, cq)) (fun u => wM E a u) := by
  refine goI (S := Mc) (post := fun r u => r = iv (q_on A ph x n w).1 ∧ RepM u ((q_on A ph x n w).2.1, K, ik, (q_on A ph x n w).2.2, tq, tn, bq, sq, cq)) (ws' := fun u => wM E a u) (by decide) (Nat.le_of_ble_eq_true rfl) ?_
  intro pp e s m below meth c ls args Q ret X h hl
  have hl : lv_has ls 5 [(0, .ref (a 0)), (1, .int (iv (x))), (2, .int (iv (n))), (3, .int (iv (w)))] := hl
  have hR : RM mm A := hS.1.1
  have hI : IA A := hS.1.2.1
  have hr9 : hr A ≤ 99999 := hS.1.2.2
  have hF : RF 7 fd ph := hS.2.2.1
  have hK := hS.2.1
  have hT := hS.2.2.2.1
  have hB := hS.2.2.2.2
  have hh : hr A < 1000000 := by omega
  have n8 := hI.n8
  have n0 := hI.n0
  have h0 := hI.h0
  refine lv_aload_n X.1 X.2.1 dX5_on_0 rfl (lv_at hl 0 rfl) ?_
  refine lv_iload_n X.1 X.2.1 dX5_on_1 rfl (lv_at hl 1 rfl) ?_
  refine z_pi (run_V (rest := []) X h (c_X5_isPerson (p := x) hR hI r_x) mi_X5_isPerson ml_X5_48 ⟨Nat.le_of_ble_eq_true rfl, Nat.le_of_ble_eq_true rfl⟩ ⟨rfl, rfl⟩ (Seg.rfl' _) 4 0 rfl rfl rfl rfl hl.1 rfl (Nat.le_of_ble_eq_true rfl) ⟨Nat.zero_le _, Nat.zero_le _⟩ dX5_on_2) ?_
  refine z_ifb_eq (tgt := 30) X dX5_on_5 (by decide) (fun c_5 => ?_) (fun c_5 => ?_)
  · refine lv_aload_n X.1 X.2.1 dX5_on_30 rfl (lv_at hl 0 rfl) ?_
    refine z_ldc (z := (-1000000001)) X ct_X5_38 (by decide) dX5_on_31 ?_
    refine z_ai h (run_V (rest := []) X h (c_X5_finds (k := 0) hF (by decide) (by decide) (by decide)) mi_X5_finds ml_X5_40 ⟨Nat.le_of_ble_eq_true rfl, Nat.le_of_ble_eq_true rfl⟩ ⟨rfl, rfl⟩ (Seg.rfl' _) 4 0 rfl rfl rfl rfl hl.1 rfl (Nat.le_of_ble_eq_true rfl) ⟨Nat.zero_le _, Nat.zero_le _⟩ dX5_on_33) (fun _ => rfl) (fun r fd1 H locs hp h => ?_)
    obtain ⟨rfl, hF1⟩ := hp
    have h : St E _ s H locs (wM E a (mm, kp, wa, (iv (ik)), fd1, gf, tp, (iv (tn)), (iv (tk)), (iv (bg)), (iv (pt)), (iv (vl)), (iv (bd)), bt, sz, cl)) := h
    have e9 : q_on A ph x n w = ((-1000000001), A, (bump ph 0)) := by unfold q_on; (repeat (first | rw [if_pos (by omega)] | rw [if_neg (by omega)])); try rfl
    exact ret _ _ _ _ _ (mm, kp, wa, (iv (ik)), fd1, gf, tp, (iv (tn)), (iv (tk)), (iv (bg)), (iv (pt)), (iv (vl)), (iv (bd)), bt, sz, cl) h (by rw [e9]; exact ⟨rfl, ⟨hR, hI, hr9⟩, hK, hF1, hT, hB⟩) dX5_on_36
  · refine lv_iload_n X.1 X.2.1 dX5_on_8 rfl (lv_at hl 2 rfl) ?_
    refine lv_i2l (v := (iv (n)).toInt64) X.1 X.2.1 dX5_on_9 rfl ?_
    refine z_iconst X dX5_on_10 ?_
    refine z_sipush X (by decide) dX5_on_11 ?_
    refine z_pi (run_S (rest := []) X h (c_inI r_n ⟨by decide, by decide⟩ ⟨by decide, by decide⟩) mi_X5_in ml_X5_44 ⟨Nat.le_of_ble_eq_true rfl, Nat.le_of_ble_eq_true rfl⟩ ⟨rfl, rfl⟩ (Seg.nil _) rfl hl.1 rfl (Nat.le_of_ble_eq_true rfl) ⟨Nat.zero_le _, Nat.zero_le _⟩ dX5_on_14) ?_
    refine z_ifb_eq (tgt := 30) X dX5_on_17 (by decide) (fun c_17 => ?_) (fun c_17 => ?_)
    · refine lv_aload_n X.1 X.2.1 dX5_on_30 rfl (lv_at hl 0 rfl) ?_
      refine z_ldc (z := (-1000000001)) X ct_X5_38 (by decide) dX5_on_31 ?_
      refine z_ai h (run_V (rest := []) X h (c_X5_finds (k := 0) hF (by decide) (by decide) (by decide)) mi_X5_finds ml_X5_40 ⟨Nat.le_of_ble_eq_true rfl, Nat.le_of_ble_eq_true rfl⟩ ⟨rfl, rfl⟩ (Seg.rfl' _) 4 0 rfl rfl rfl rfl hl.1 rfl (Nat.le_of_ble_eq_true rfl) ⟨Nat.zero_le _, Nat.zero_le _⟩ dX5_on_33) (fun _ => rfl) (fun r fd2 H locs hp h => ?_)
      obtain ⟨rfl, hF2⟩ := hp
      have h : St E _ s H locs (wM E a (mm, kp, wa, (iv (ik)), fd2, gf, tp, (iv (tn)), (iv (tk)), (iv (bg)), (iv (pt)), (iv (vl)), (iv (bd)), bt, sz, cl)) := h
      have e9 : q_on A ph x n w = ((-1000000001), A, (bump ph 0)) := by unfold q_on; (repeat (first | rw [if_pos (by omega)] | rw [if_neg (by omega)])); try rfl
      exact ret _ _ _ _ _ (mm, kp, wa, (iv (ik)), fd2, gf, tp, (iv (tn)), (iv (tk)), (iv (bg)), (iv (pt)), (iv (vl)), (iv (bd)), bt, sz, cl) h (by rw [e9]; exact ⟨rfl, ⟨hR, hI, hr9⟩, hK, hF2, hT, hB⟩) dX5_on_36
    · refine lv_iload_n X.1 X.2.1 dX5_on_20 rfl (lv_at hl 3 rfl) ?_
      refine lv_i2l (v := (iv (w)).toInt64) X.1 X.2.1 dX5_on_21 rfl ?_
      refine z_iconst X dX5_on_22 ?_
      refine z_iconst X dX5_on_23 ?_
      refine z_pi (run_S (rest := []) X h (c_inI r_w ⟨by decide, by decide⟩ ⟨by decide, by decide⟩) mi_X5_in ml_X5_44 ⟨Nat.le_of_ble_eq_true rfl, Nat.le_of_ble_eq_true rfl⟩ ⟨rfl, rfl⟩ (Seg.nil _) rfl hl.1 rfl (Nat.le_of_ble_eq_true rfl) ⟨Nat.zero_le _, Nat.zero_le _⟩ dX5_on_24) ?_
      refine z_ifb_ne (tgt := 37) X dX5_on_27 (by decide) (fun c_27 => ?_) (fun c_27 => ?_)
      · refine lv_aload_n X.1 X.2.1 dX5_on_37 rfl (lv_at hl 0 rfl) ?_
        refine z_av h (run_V (rest := []) X h (c_X5_thinks) mi_X5_thinks ml_X5_139 ⟨Nat.le_of_ble_eq_true rfl, Nat.le_of_ble_eq_true rfl⟩ ⟨rfl, rfl⟩ (Seg.rfl' _) 4 0 rfl rfl rfl rfl hl.1 rfl (Nat.le_of_ble_eq_true rfl) ⟨Nat.zero_le _, Nat.zero_le _⟩ dX5_on_38) (fun _ => rfl) (fun wa3 H locs hw3 h => ?_)
        have h : St E _ s H locs (wM E a (mm, kp, wa3, (iv (ik)), fd, gf, tp, (iv (tn)), (iv (tk)), (iv (bg)), (iv (pt)), (iv (vl)), (iv (bd)), bt, sz, cl)) := h
        have hT3 := RM_eq hR hI.n8 hw3
        refine lv_aload_n X.1 X.2.1 dX5_on_41 rfl (lv_at hl 0 rfl) ?_
        refine lv_iload_n X.1 X.2.1 dX5_on_42 rfl (lv_at hl 2 rfl) ?_
        refine z_av h (run_V (rest := []) X h (c_X5_goesFor (k := n) hR hI (by omega) (by omega) (by first | omega | (show hr A + _ < 1000000; omega))) mi_X5_goesFor ml_X5_131 ⟨Nat.le_of_ble_eq_true rfl, Nat.le_of_ble_eq_true rfl⟩ ⟨rfl, rfl⟩ (Seg.rfl' _) 4 0 rfl rfl rfl rfl hl.1 rfl (Nat.le_of_ble_eq_true rfl) ⟨Nat.zero_le _, Nat.zero_le _⟩ dX5_on_43) (fun _ => rfl) (fun u H locs hp h => ?_)
        obtain ⟨mg4, gg4⟩ := u
        have h : St E _ s H locs (wM E a (mg4, kp, wa3, (iv (ik)), fd, gg4, tp, (iv (tn)), (iv (tk)), (iv (bg)), (iv (pt)), (iv (vl)), (iv (bd)), bt, sz, cl)) := h
        have hR4 : RM mg4 (stepn A n.toNat) := hp
        have pn4 : pe (stepn A n.toNat) = pe A := stepn_pe _ _
        refine lv_aload_n X.1 X.2.1 dX5_on_46 rfl (lv_at hl 0 rfl) ?_
        refine lv_iload_n X.1 X.2.1 dX5_on_47 rfl (lv_at hl 1 rfl) ?_
        refine z_iconst X dX5_on_48 ?_
        refine lv_iload_n X.1 X.2.1 dX5_on_49 rfl (lv_at hl 3 rfl) ?_
        refine z_iadd X dX5_on_50 ?_
        refine z_pi (run_V (rest := []) X h (c_X5_it (p := x) (w := 2 + w) hR4 (stepn_IA hI n.toNat) (by omega) (by omega) (by omega) (by omega)) mi_X5_it ml_X5_52 ⟨Nat.le_of_ble_eq_true rfl, Nat.le_of_ble_eq_true rfl⟩ ⟨rfl, rfl⟩ (Seg.rfl' _) 4 0 rfl rfl rfl rfl hl.1 rfl (Nat.le_of_ble_eq_true rfl) ⟨Nat.zero_le _, Nat.zero_le _⟩ dX5_on_51) ?_
        refine lv_istore (lv' := [(4, .int (iv (pr (stepn A n.toNat) (2 + w) x))), (0, .ref (a 0)), (1, .int (iv (x))), (2, .int (iv (n))), (3, .int (iv (w)))]) X.1 X.2.1 dX5_on_54 hl (by decide) rfl (fun ls hl => ?_)
        refine lv_aload_n X.1 X.2.1 dX5_on_56 rfl (lv_at hl 1 rfl) ?_
        refine z_av h (run_V (rest := []) X h (c_X5_putsBack) mi_X5_putsBack ml_X5_142 ⟨Nat.le_of_ble_eq_true rfl, Nat.le_of_ble_eq_true rfl⟩ ⟨rfl, rfl⟩ (Seg.rfl' _) 4 0 rfl rfl rfl rfl hl.1 rfl (Nat.le_of_ble_eq_true rfl) ⟨Nat.zero_le _, Nat.zero_le _⟩ dX5_on_57) (fun _ => rfl) (fun mb5 H locs hb5 h => ?_)
        have h : St E _ s H locs (wM E a (mb5, kp, wa3, (iv (ik)), fd, gg4, tp, (iv (tn)), (iv (tk)), (iv (bg)), (iv (pt)), (iv (vl)), (iv (bd)), bt, sz, cl)) := h
        have hR5 := RM_eq hT3 hI.n8 hb5
        refine lv_iload X.1 X.2.1 dX5_on_60 (lv_at hl 0 rfl) ?_
        have e9 : q_on A ph x n w = (pr (stepn A n.toNat) (2 + w) x, A, ph) := by unfold q_on; (repeat (first | rw [if_pos (by omega)] | rw [if_neg (by omega)])); try rfl
        exact ret _ _ _ _ _ (mb5, kp, wa3, (iv (ik)), fd, gg4, tp, (iv (tn)), (iv (tk)), (iv (bg)), (iv (pt)), (iv (vl)), (iv (bd)), bt, sz, cl) h (by rw [e9]; exact ⟨rfl, ⟨hR5, hI, hr9⟩, hK, hF, hT, hB⟩) dX5_on_62
      · refine lv_aload_n X.1 X.2.1 dX5_on_30 rfl (lv_at hl 0 rfl) ?_
        refine z_ldc (z := (-1000000001)) X ct_X5_38 (by decide) dX5_on_31 ?_
        refine z_ai h (run_V (rest := []) X h (c_X5_finds (k := 0) hF (by decide) (by decide) (by decide)) mi_X5_finds ml_X5_40 ⟨Nat.le_of_ble_eq_true rfl, Nat.le_of_ble_eq_true rfl⟩ ⟨rfl, rfl⟩ (Seg.rfl' _) 4 0 rfl rfl rfl rfl hl.1 rfl (Nat.le_of_ble_eq_true rfl) ⟨Nat.zero_le _, Nat.zero_le _⟩ dX5_on_33) (fun _ => rfl) (fun r fd6 H locs hp h => ?_)
        obtain ⟨rfl, hF6⟩ := hp
        have h : St E _ s H locs (wM E a (mm, kp, wa, (iv (ik)), fd6, gf, tp, (iv (tn)), (iv (tk)), (iv (bg)), (iv (pt)), (iv (vl)), (iv (bd)), bt, sz, cl)) := h
        have e9 : q_on A ph x n w = ((-1000000001), A, (bump ph 0)) := by unfold q_on; (repeat (first | rw [if_pos (by omega)] | rw [if_neg (by omega)])); try rfl
        exact ret _ _ _ _ _ (mm, kp, wa, (iv (ik)), fd6, gf, tp, (iv (tn)), (iv (tk)), (iv (bg)), (iv (pt)), (iv (vl)), (iv (bd)), bt, sz, cl) h (by rw [e9]; exact ⟨rfl, ⟨hR, hI, hr9⟩, hK, hF6, hT, hB⟩) dX5_on_36

set_option maxHeartbeats 4000000 in
theorem c_X5_brown (hS : RepM (mm, kp, wa, (iv (ik)), fd, gf, tp, (iv (tn)), (iv (tk)), (iv (bg)), (iv (pt)), (iv (vl)), (iv (bd)), bt, sz, cl) (A, K, ik, ph, tq, tn, bq, sq, cq)) {x : Int} (r_x : r32 x) {v : Int} (r_v : r32 v) : MI (S := Mc) E l yX5_brown cX5_brown 4 (some FieldType.int) (rmk 6 134) (wM E a (mm, kp, wa, (iv (ik)), fd, gf, tp, (iv (tn)), (iv (tk)), (iv (bg)), (iv (pt)), (iv (vl)), (iv (bd)), bt, sz, cl)) [.ref (a 0), .int (iv (x)), .int (iv (v))] (fun r u => r = iv (q_brown A ph x v).1 ∧ RepM u ((q_brown A ph x v).2.1, K, ik, (q_brown A ph x v).2.2, tq, tn, bq, sq, cq)) (fun u => wM E a u) := by
  refine goI (S := Mc) (post := fun r u => r = iv (q_brown A ph x v).1 ∧ RepM u ((q_brown A ph x v).2.1, K, ik, (q_brown A ph x v).2.2, tq, tn, bq, sq, cq)) (ws' := fun u => wM E a u) (by decide) (Nat.le_of_ble_eq_true rfl) ?_
  intro pp e s m below meth c ls args Q ret X h hl
  have hl : lv_has ls 4 [(0, .ref (a 0)), (1, .int (iv (x))), (2, .int (iv (v)))] := hl
  have hR : RM mm A := hS.1.1
  have hI : IA A := hS.1.2.1
  have hr9 : hr A ≤ 99999 := hS.1.2.2
  have hF : RF 7 fd ph := hS.2.2.1
  have hK := hS.2.1
  have hT := hS.2.2.2.1
  have hB := hS.2.2.2.2
  have hh : hr A < 1000000 := by omega
  have n8 := hI.n8
  have n0 := hI.n0
  have h0 := hI.h0
  refine lv_aload_n X.1 X.2.1 dX5_brown_0 rfl (lv_at hl 0 rfl) ?_
  refine lv_iload_n X.1 X.2.1 dX5_brown_1 rfl (lv_at hl 1 rfl) ?_
  refine z_pi (run_V (rest := []) X h (c_X5_isPerson (p := x) hR hI r_x) mi_X5_isPerson ml_X5_48 ⟨Nat.le_of_ble_eq_true rfl, Nat.le_of_ble_eq_true rfl⟩ ⟨rfl, rfl⟩ (Seg.rfl' _) 4 0 rfl rfl rfl rfl hl.1 rfl (Nat.le_of_ble_eq_true rfl) ⟨Nat.zero_le _, Nat.zero_le _⟩ dX5_brown_2) ?_
  refine z_ifb_eq (tgt := 20) X dX5_brown_5 (by decide) (fun c_5 => ?_) (fun c_5 => ?_)
  · refine lv_aload_n X.1 X.2.1 dX5_brown_20 rfl (lv_at hl 0 rfl) ?_
    refine z_ldc (z := (-1000000001)) X ct_X5_38 (by decide) dX5_brown_21 ?_
    refine z_ai h (run_V (rest := []) X h (c_X5_finds (k := 0) hF (by decide) (by decide) (by decide)) mi_X5_finds ml_X5_40 ⟨Nat.le_of_ble_eq_true rfl, Nat.le_of_ble_eq_true rfl⟩ ⟨rfl, rfl⟩ (Seg.rfl' _) 4 0 rfl rfl rfl rfl hl.1 rfl (Nat.le_of_ble_eq_true rfl) ⟨Nat.zero_le _, Nat.zero_le _⟩ dX5_brown_23) (fun _ => rfl) (fun r fd1 H locs hp h => ?_)
    obtain ⟨rfl, hF1⟩ := hp
    have h : St E _ s H locs (wM E a (mm, kp, wa, (iv (ik)), fd1, gf, tp, (iv (tn)), (iv (tk)), (iv (bg)), (iv (pt)), (iv (vl)), (iv (bd)), bt, sz, cl)) := h
    have e9 : q_brown A ph x v = ((-1000000001), A, (bump ph 0)) := by unfold q_brown; (repeat (first | rw [if_pos (by omega)] | rw [if_neg (by omega)])); try rfl
    exact ret _ _ _ _ _ (mm, kp, wa, (iv (ik)), fd1, gf, tp, (iv (tn)), (iv (tk)), (iv (bg)), (iv (pt)), (iv (vl)), (iv (bd)), bt, sz, cl) h (by rw [e9]; exact ⟨rfl, ⟨hR, hI, hr9⟩, hK, hF1, hT, hB⟩) dX5_brown_26
  · refine lv_iload_n X.1 X.2.1 dX5_brown_8 rfl (lv_at hl 2 rfl) ?_
    refine lv_i2l (v := (iv (v)).toInt64) X.1 X.2.1 dX5_brown_9 rfl ?_
    refine z_iconst X dX5_brown_10 ?_
    refine z_sipush X (by decide) dX5_brown_11 ?_
    refine z_pi (run_S (rest := []) X h (c_inI r_v ⟨by decide, by decide⟩ ⟨by decide, by decide⟩) mi_X5_in ml_X5_44 ⟨Nat.le_of_ble_eq_true rfl, Nat.le_of_ble_eq_true rfl⟩ ⟨rfl, rfl⟩ (Seg.nil _) rfl hl.1 rfl (Nat.le_of_ble_eq_true rfl) ⟨Nat.zero_le _, Nat.zero_le _⟩ dX5_brown_14) ?_
    refine z_ifb_ne (tgt := 27) X dX5_brown_17 (by decide) (fun c_17 => ?_) (fun c_17 => ?_)
    · refine lv_aload_n X.1 X.2.1 dX5_brown_27 rfl (lv_at hl 0 rfl) ?_
      refine z_av h (run_V (rest := []) X h (c_X5_thinks) mi_X5_thinks ml_X5_139 ⟨Nat.le_of_ble_eq_true rfl, Nat.le_of_ble_eq_true rfl⟩ ⟨rfl, rfl⟩ (Seg.rfl' _) 4 0 rfl rfl rfl rfl hl.1 rfl (Nat.le_of_ble_eq_true rfl) ⟨Nat.zero_le _, Nat.zero_le _⟩ dX5_brown_28) (fun _ => rfl) (fun wa2 H locs hw2 h => ?_)
      have h : St E _ s H locs (wM E a (mm, kp, wa2, (iv (ik)), fd, gf, tp, (iv (tn)), (iv (tk)), (iv (bg)), (iv (pt)), (iv (vl)), (iv (bd)), bt, sz, cl)) := h
      have hT2 := RM_eq hR hI.n8 hw2
      refine z_iconst X dX5_brown_31 ?_
      refine lv_istore_n (lv' := [(3, .int (iv (0))), (0, .ref (a 0)), (1, .int (iv (x))), (2, .int (iv (v)))]) X.1 X.2.1 dX5_brown_32 rfl hl (by decide) rfl (fun ls hl => ?_)
      have L33 : ∀ (fuel_ : Nat) (i : Int) (mq : Nat → Int32) (gq : Nat → Int32), (0 ≤ i) → (i ≤ 201) → (RM mq (stepn A i.toNat)) → (fnd (pBrown A x v) 0 201 = fnd (pBrown A x v) i.toNat (201 - i.toNat)) → 201 - i < (fuel_ : Int) → ∀ (H : Heap) (locs : List Loc), St E (wM E a (mm, kp, wa, (iv (ik)), fd, gf, tp, (iv (tn)), (iv (tk)), (iv (bg)), (iv (pt)), (iv (vl)), (iv (bd)), bt, sz, cl)) s H locs (wM E a (mq, kp, wa2, (iv (ik)), fd, gq, tp, (iv (tn)), (iv (tk)), (iv (bg)), (iv (pt)), (iv (vl)), (iv (bd)), bt, sz, cl)) → ∀ ls : Array Slot, lv_has ls 4 [(0, .ref (a 0)), (1, .int (iv (x))), (2, .int (iv (v))), (3, .int (iv (i)))] → W pp l e (rmk 6 134) s m args below meth c H locs 0 0 Q (F0 m 33 ls []) := by
        intro fuel_
        induction fuel_ with
        | zero =>
          intro i mq gq i0 i1 hv hf hn
          exfalso; omega
        | succ fuel_ ih =>
          intro i mq gq i0 i1 hv hf hn H locs h ls hl
          have pm : pe (stepn A i.toNat) = pe A := stepn_pe _ _
          have bR := brnn_rng hI i.toNat (p := x) (by omega) (by omega)
          have qs := (stepn_IA hI i.toNat).gP (p := x) (by omega) (by omega)
          have q0x := hI.gP (p := x) (by omega) (by omega)
          refine lv_iload_n X.1 X.2.1 dX5_brown_33 rfl (lv_at hl 3 rfl) ?_
          refine z_sipush X (by decide) dX5_brown_34 ?_
          refine z_ic_gt (tgt := 59) X ⟨by omega, by omega⟩ ⟨by decide, by decide⟩ dX5_brown_37 (by decide) (fun c_37 => ?_) (fun c_37 => ?_)
          · have hx : fnd (pBrown A x v) 0 201 = i.toNat := by rw [hf, show 201 - i.toNat = 0 by omega]; rfl
            refine lv_aload_n X.1 X.2.1 dX5_brown_59 rfl (lv_at hl 0 rfl) ?_
            refine z_av h (run_V (rest := []) X h (c_X5_putsBack) mi_X5_putsBack ml_X5_142 ⟨Nat.le_of_ble_eq_true rfl, Nat.le_of_ble_eq_true rfl⟩ ⟨rfl, rfl⟩ (Seg.rfl' _) 4 0 rfl rfl rfl rfl hl.1 rfl (Nat.le_of_ble_eq_true rfl) ⟨Nat.zero_le _, Nat.zero_le _⟩ dX5_brown_60) (fun _ => rfl) (fun mb3 H locs hb3 h => ?_)
            have h : St E _ s H locs (wM E a (mb3, kp, wa2, (iv (ik)), fd, gq, tp, (iv (tn)), (iv (tk)), (iv (bg)), (iv (pt)), (iv (vl)), (iv (bd)), bt, sz, cl)) := h
            have hR3 := RM_eq hT2 hI.n8 hb3
            refine lv_iload_n X.1 X.2.1 dX5_brown_63 rfl (lv_at hl 3 rfl) ?_
            refine z_sipush X (by decide) dX5_brown_64 ?_
            refine z_ic_le (tgt := 79) X ⟨by omega, by omega⟩ ⟨by decide, by decide⟩ dX5_brown_67 (by decide) (fun c_67 => ?_) (fun c_67 => ?_)
            · refine lv_iload_n X.1 X.2.1 dX5_brown_79 rfl (lv_at hl 3 rfl) ?_
              have e9 : q_brown A ph x v = (i, A, ph) := by first | (exfalso; omega) | (unfold q_brown; rw [if_neg (by omega), if_neg (by omega), hx, tnc (by omega)])
              exact ret _ _ _ _ _ (mb3, kp, wa2, (iv (ik)), fd, gq, tp, (iv (tn)), (iv (tk)), (iv (bg)), (iv (pt)), (iv (vl)), (iv (bd)), bt, sz, cl) h (by rw [e9]; exact ⟨rfl, ⟨hR3, hI, hr9⟩, hK, hF, hT, hB⟩) dX5_brown_80
            · refine lv_aload_n X.1 X.2.1 dX5_brown_70 rfl (lv_at hl 0 rfl) ?_
              refine z_ldc (z := (-1000000004)) X ct_X5_39 (by decide) dX5_brown_71 ?_
              refine z_ai h (run_V (rest := []) X h (c_X5_finds (k := 3) hF (by decide) (by decide) (by decide)) mi_X5_finds ml_X5_40 ⟨Nat.le_of_ble_eq_true rfl, Nat.le_of_ble_eq_true rfl⟩ ⟨rfl, rfl⟩ (Seg.rfl' _) 4 0 rfl rfl rfl rfl hl.1 rfl (Nat.le_of_ble_eq_true rfl) ⟨Nat.zero_le _, Nat.zero_le _⟩ dX5_brown_73) (fun _ => rfl) (fun r fd4 H locs hp h => ?_)
              obtain ⟨rfl, hF4⟩ := hp
              have h : St E _ s H locs (wM E a (mb3, kp, wa2, (iv (ik)), fd4, gq, tp, (iv (tn)), (iv (tk)), (iv (bg)), (iv (pt)), (iv (vl)), (iv (bd)), bt, sz, cl)) := h
              refine lv_goto (tgt := 80) X.1 X.2.1 dX5_brown_76 (by decide) ?_
              have e9 : q_brown A ph x v = ((-1000000004), A, (bump ph 3)) := by first | (exfalso; omega) | (unfold q_brown; rw [if_neg (by omega), if_pos (by omega)]; rfl)
              exact ret _ _ _ _ _ (mb3, kp, wa2, (iv (ik)), fd4, gq, tp, (iv (tn)), (iv (tk)), (iv (bg)), (iv (pt)), (iv (vl)), (iv (bd)), bt, sz, cl) h (by rw [e9]; exact ⟨rfl, ⟨hR3, hI, hr9⟩, hK, hF4, hT, hB⟩) dX5_brown_80
          · refine lv_aload_n X.1 X.2.1 dX5_brown_40 rfl (lv_at hl 0 rfl) ?_
            refine lv_iload_n X.1 X.2.1 dX5_brown_41 rfl (lv_at hl 1 rfl) ?_
            refine z_pi (run_V (rest := []) X h (c_X5_brownOf (p := x) hv (stepn_IA hI i.toNat) (by omega) (by omega)) mi_X5_brownOf ml_X5_105 ⟨Nat.le_of_ble_eq_true rfl, Nat.le_of_ble_eq_true rfl⟩ ⟨rfl, rfl⟩ (Seg.rfl' _) 4 0 rfl rfl rfl rfl hl.1 rfl (Nat.le_of_ble_eq_true rfl) ⟨Nat.zero_le _, Nat.zero_le _⟩ dX5_brown_42) ?_
            refine lv_iload_n X.1 X.2.1 dX5_brown_45 rfl (lv_at hl 2 rfl) ?_
            refine z_ic_ge (tgt := 59) X ⟨by omega, by omega⟩ r_v dX5_brown_46 (by decide) (fun c_46 => ?_) (fun c_46 => ?_)
            · have hx : fnd (pBrown A x v) 0 201 = i.toNat := by rw [hf, show 201 - i.toNat = (201 - (i.toNat + 1)) + 1 by omega]; exact fnd_yes (by simp only [pBrown, decide_eq_true_eq]; omega)
              refine lv_aload_n X.1 X.2.1 dX5_brown_59 rfl (lv_at hl 0 rfl) ?_
              refine z_av h (run_V (rest := []) X h (c_X5_putsBack) mi_X5_putsBack ml_X5_142 ⟨Nat.le_of_ble_eq_true rfl, Nat.le_of_ble_eq_true rfl⟩ ⟨rfl, rfl⟩ (Seg.rfl' _) 4 0 rfl rfl rfl rfl hl.1 rfl (Nat.le_of_ble_eq_true rfl) ⟨Nat.zero_le _, Nat.zero_le _⟩ dX5_brown_60) (fun _ => rfl) (fun mb5 H locs hb5 h => ?_)
              have h : St E _ s H locs (wM E a (mb5, kp, wa2, (iv (ik)), fd, gq, tp, (iv (tn)), (iv (tk)), (iv (bg)), (iv (pt)), (iv (vl)), (iv (bd)), bt, sz, cl)) := h
              have hR5 := RM_eq hT2 hI.n8 hb5
              refine lv_iload_n X.1 X.2.1 dX5_brown_63 rfl (lv_at hl 3 rfl) ?_
              refine z_sipush X (by decide) dX5_brown_64 ?_
              refine z_ic_le (tgt := 79) X ⟨by omega, by omega⟩ ⟨by decide, by decide⟩ dX5_brown_67 (by decide) (fun c_67 => ?_) (fun c_67 => ?_)
              · refine lv_iload_n X.1 X.2.1 dX5_brown_79 rfl (lv_at hl 3 rfl) ?_
                have e9 : q_brown A ph x v = (i, A, ph) := by first | (exfalso; omega) | (unfold q_brown; rw [if_neg (by omega), if_neg (by omega), hx, tnc (by omega)])
                exact ret _ _ _ _ _ (mb5, kp, wa2, (iv (ik)), fd, gq, tp, (iv (tn)), (iv (tk)), (iv (bg)), (iv (pt)), (iv (vl)), (iv (bd)), bt, sz, cl) h (by rw [e9]; exact ⟨rfl, ⟨hR5, hI, hr9⟩, hK, hF, hT, hB⟩) dX5_brown_80
              · refine lv_aload_n X.1 X.2.1 dX5_brown_70 rfl (lv_at hl 0 rfl) ?_
                refine z_ldc (z := (-1000000004)) X ct_X5_39 (by decide) dX5_brown_71 ?_
                refine z_ai h (run_V (rest := []) X h (c_X5_finds (k := 3) hF (by decide) (by decide) (by decide)) mi_X5_finds ml_X5_40 ⟨Nat.le_of_ble_eq_true rfl, Nat.le_of_ble_eq_true rfl⟩ ⟨rfl, rfl⟩ (Seg.rfl' _) 4 0 rfl rfl rfl rfl hl.1 rfl (Nat.le_of_ble_eq_true rfl) ⟨Nat.zero_le _, Nat.zero_le _⟩ dX5_brown_73) (fun _ => rfl) (fun r fd6 H locs hp h => ?_)
                obtain ⟨rfl, hF6⟩ := hp
                have h : St E _ s H locs (wM E a (mb5, kp, wa2, (iv (ik)), fd6, gq, tp, (iv (tn)), (iv (tk)), (iv (bg)), (iv (pt)), (iv (vl)), (iv (bd)), bt, sz, cl)) := h
                refine lv_goto (tgt := 80) X.1 X.2.1 dX5_brown_76 (by decide) ?_
                have e9 : q_brown A ph x v = ((-1000000004), A, (bump ph 3)) := by first | (exfalso; omega) | (unfold q_brown; rw [if_neg (by omega), if_pos (by omega)]; rfl)
                exact ret _ _ _ _ _ (mb5, kp, wa2, (iv (ik)), fd6, gq, tp, (iv (tn)), (iv (tk)), (iv (bg)), (iv (pt)), (iv (vl)), (iv (bd)), bt, sz, cl) h (by rw [e9]; exact ⟨rfl, ⟨hR5, hI, hr9⟩, hK, hF6, hT, hB⟩) dX5_brown_80
            · refine lv_aload_n X.1 X.2.1 dX5_brown_49 rfl (lv_at hl 0 rfl) ?_
              refine z_av h (run_V (rest := []) X h (c_X5_goes hv (stepn_IA hI i.toNat) (show hr (stepn A i.toNat) < 1000000 by rw [stepn_hr]; omega)) mi_X5_goes ml_X5_127 ⟨Nat.le_of_ble_eq_true rfl, Nat.le_of_ble_eq_true rfl⟩ ⟨rfl, rfl⟩ (Seg.rfl' _) 4 0 rfl rfl rfl rfl hl.1 rfl (Nat.le_of_ble_eq_true rfl) ⟨Nat.zero_le _, Nat.zero_le _⟩ dX5_brown_50) (fun _ => rfl) (fun u H locs hp h => ?_)
              obtain ⟨mg7, gg7⟩ := u
              have h : St E _ s H locs (wM E a (mg7, kp, wa2, (iv (ik)), fd, gg7, tp, (iv (tn)), (iv (tk)), (iv (bg)), (iv (pt)), (iv (vl)), (iv (bd)), bt, sz, cl)) := h
              have hR7 : RM mg7 (step (stepn A i.toNat)) := hp
              refine z_iinc (k := 3) (lv' := [(3, .int (iv (i + 1))), (0, .ref (a 0)), (1, .int (iv (x))), (2, .int (iv (v)))]) X dX5_brown_53 hl rfl (by decide) rfl (fun ls hl => ?_)
              refine lv_goto (tgt := 33) X.1 X.2.1 dX5_brown_56 (by decide) ?_
              exact ih (i + 1) (mg7) (gg7) (by omega) (by omega) (by rw [tn1 (by omega)]; exact hR7) (by rw [hf, tn1 (by omega), show 201 - i.toNat = (201 - (i.toNat + 1)) + 1 by omega]; exact fnd_no (by simp only [pBrown, decide_eq_true_eq]; omega)) (by omega) _ _ h ls (lv_sub hl [1, 2, 3, 0] rfl)
      exact L33 ((201 - (0) : Int).toNat + 1) (0) (mm) (gf) (by omega) (by omega) (hR) (rfl) (by omega) _ _ h ls (lv_sub hl [1, 2, 3, 0] rfl)
    · refine lv_aload_n X.1 X.2.1 dX5_brown_20 rfl (lv_at hl 0 rfl) ?_
      refine z_ldc (z := (-1000000001)) X ct_X5_38 (by decide) dX5_brown_21 ?_
      refine z_ai h (run_V (rest := []) X h (c_X5_finds (k := 0) hF (by decide) (by decide) (by decide)) mi_X5_finds ml_X5_40 ⟨Nat.le_of_ble_eq_true rfl, Nat.le_of_ble_eq_true rfl⟩ ⟨rfl, rfl⟩ (Seg.rfl' _) 4 0 rfl rfl rfl rfl hl.1 rfl (Nat.le_of_ble_eq_true rfl) ⟨Nat.zero_le _, Nat.zero_le _⟩ dX5_brown_23) (fun _ => rfl) (fun r fd8 H locs hp h => ?_)
      obtain ⟨rfl, hF8⟩ := hp
      have h : St E _ s H locs (wM E a (mm, kp, wa, (iv (ik)), fd8, gf, tp, (iv (tn)), (iv (tk)), (iv (bg)), (iv (pt)), (iv (vl)), (iv (bd)), bt, sz, cl)) := h
      have e9 : q_brown A ph x v = ((-1000000001), A, (bump ph 0)) := by unfold q_brown; (repeat (first | rw [if_pos (by omega)] | rw [if_neg (by omega)])); try rfl
      exact ret _ _ _ _ _ (mm, kp, wa, (iv (ik)), fd8, gf, tp, (iv (tn)), (iv (tk)), (iv (bg)), (iv (pt)), (iv (vl)), (iv (bd)), bt, sz, cl) h (by rw [e9]; exact ⟨rfl, ⟨hR, hI, hr9⟩, hK, hF8, hT, hB⟩) dX5_brown_26

set_option maxHeartbeats 4000000 in
theorem c_X5_burns (hS : RepM (mm, kp, wa, (iv (ik)), fd, gf, tp, (iv (tn)), (iv (tk)), (iv (bg)), (iv (pt)), (iv (vl)), (iv (bd)), bt, sz, cl) (A, K, ik, ph, tq, tn, bq, sq, cq)) {x : Int} (r_x : r32 x) : MI (S := Mc) E l yX5_burns cX5_burns 4 (some FieldType.int) (rmk 6 134) (wM E a (mm, kp, wa, (iv (ik)), fd, gf, tp, (iv (tn)), (iv (tk)), (iv (bg)), (iv (pt)), (iv (vl)), (iv (bd)), bt, sz, cl)) [.ref (a 0), .int (iv (x))] (fun r u => r = iv (q_burns A ph x).1 ∧ RepM u ((q_burns A ph x).2.1, K, ik, (q_burns A ph x).2.2, tq, tn, bq, sq, cq)) (fun u => wM E a u) := by
  refine goI (S := Mc) (post := fun r u => r = iv (q_burns A ph x).1 ∧ RepM u ((q_burns A ph x).2.1, K, ik, (q_burns A ph x).2.2, tq, tn, bq, sq, cq)) (ws' := fun u => wM E a u) (by decide) (Nat.le_of_ble_eq_true rfl) ?_
  intro pp e s m below meth c ls args Q ret X h hl
  have hl : lv_has ls 4 [(0, .ref (a 0)), (1, .int (iv (x)))] := hl
  have hR : RM mm A := hS.1.1
  have hI : IA A := hS.1.2.1
  have hr9 : hr A ≤ 99999 := hS.1.2.2
  have hF : RF 7 fd ph := hS.2.2.1
  have hK := hS.2.1
  have hT := hS.2.2.2.1
  have hB := hS.2.2.2.2
  have hh : hr A < 1000000 := by omega
  have n8 := hI.n8
  have n0 := hI.n0
  have h0 := hI.h0
  refine lv_aload_n X.1 X.2.1 dX5_burns_0 rfl (lv_at hl 0 rfl) ?_
  refine lv_iload_n X.1 X.2.1 dX5_burns_1 rfl (lv_at hl 1 rfl) ?_
  refine z_pi (run_V (rest := []) X h (c_X5_isPerson (p := x) hR hI r_x) mi_X5_isPerson ml_X5_48 ⟨Nat.le_of_ble_eq_true rfl, Nat.le_of_ble_eq_true rfl⟩ ⟨rfl, rfl⟩ (Seg.rfl' _) 4 0 rfl rfl rfl rfl hl.1 rfl (Nat.le_of_ble_eq_true rfl) ⟨Nat.zero_le _, Nat.zero_le _⟩ dX5_burns_2) ?_
  refine z_ifb_ne (tgt := 15) X dX5_burns_5 (by decide) (fun c_5 => ?_) (fun c_5 => ?_)
  · refine lv_aload_n X.1 X.2.1 dX5_burns_15 rfl (lv_at hl 0 rfl) ?_
    refine z_av h (run_V (rest := []) X h (c_X5_thinks) mi_X5_thinks ml_X5_139 ⟨Nat.le_of_ble_eq_true rfl, Nat.le_of_ble_eq_true rfl⟩ ⟨rfl, rfl⟩ (Seg.rfl' _) 4 0 rfl rfl rfl rfl hl.1 rfl (Nat.le_of_ble_eq_true rfl) ⟨Nat.zero_le _, Nat.zero_le _⟩ dX5_burns_16) (fun _ => rfl) (fun wa1 H locs hw1 h => ?_)
    have h : St E _ s H locs (wM E a (mm, kp, wa1, (iv (ik)), fd, gf, tp, (iv (tn)), (iv (tk)), (iv (bg)), (iv (pt)), (iv (vl)), (iv (bd)), bt, sz, cl)) := h
    have hT1 := RM_eq hR hI.n8 hw1
    refine lv_aload_n X.1 X.2.1 dX5_burns_19 rfl (lv_at hl 0 rfl) ?_
    refine lv_iload_n X.1 X.2.1 dX5_burns_20 rfl (lv_at hl 1 rfl) ?_
    refine z_iconst X dX5_burns_21 ?_
    refine z_pi (run_V (rest := []) X h (c_X5_it (p := x) (w := 4) hR hI (by omega) (by omega) (by omega) (by omega)) mi_X5_it ml_X5_52 ⟨Nat.le_of_ble_eq_true rfl, Nat.le_of_ble_eq_true rfl⟩ ⟨rfl, rfl⟩ (Seg.rfl' _) 4 0 rfl rfl rfl rfl hl.1 rfl (Nat.le_of_ble_eq_true rfl) ⟨Nat.zero_le _, Nat.zero_le _⟩ dX5_burns_22) ?_
    refine lv_istore_n (lv' := [(2, .int (iv (pr A 4 x))), (0, .ref (a 0)), (1, .int (iv (x)))]) X.1 X.2.1 dX5_burns_25 rfl hl (by decide) rfl (fun ls hl => ?_)
    refine z_iconst X dX5_burns_26 ?_
    refine lv_istore_n (lv' := [(3, .int (iv (1))), (2, .int (iv (pr A 4 x))), (0, .ref (a 0)), (1, .int (iv (x)))]) X.1 X.2.1 dX5_burns_27 rfl hl (by decide) rfl (fun ls hl => ?_)
    refine lv_aload_n X.1 X.2.1 dX5_burns_28 rfl (lv_at hl 2 rfl) ?_
    refine z_av h (run_V (rest := []) X h (c_X5_goes hR hI hh) mi_X5_goes ml_X5_127 ⟨Nat.le_of_ble_eq_true rfl, Nat.le_of_ble_eq_true rfl⟩ ⟨rfl, rfl⟩ (Seg.rfl' _) 4 0 rfl rfl rfl rfl hl.1 rfl (Nat.le_of_ble_eq_true rfl) ⟨Nat.zero_le _, Nat.zero_le _⟩ dX5_burns_29) (fun _ => rfl) (fun u H locs hp h => ?_)
    obtain ⟨mg2, gg2⟩ := u
    have h : St E _ s H locs (wM E a (mg2, kp, wa1, (iv (ik)), fd, gg2, tp, (iv (tn)), (iv (tk)), (iv (bg)), (iv (pt)), (iv (vl)), (iv (bd)), bt, sz, cl)) := h
    have hR2 : RM mg2 (step A) := hp
    have L32 : ∀ (fuel_ : Nat) (i : Int) (mq : Nat → Int32) (gq : Nat → Int32), (1 ≤ i) → (i ≤ 201) → (RM mq (stepn A i.toNat)) → (fnd (pBurns A x) 1 200 = fnd (pBurns A x) i.toNat (201 - i.toNat)) → 201 - i < (fuel_ : Int) → ∀ (H : Heap) (locs : List Loc), St E (wM E a (mm, kp, wa, (iv (ik)), fd, gf, tp, (iv (tn)), (iv (tk)), (iv (bg)), (iv (pt)), (iv (vl)), (iv (bd)), bt, sz, cl)) s H locs (wM E a (mq, kp, wa1, (iv (ik)), fd, gq, tp, (iv (tn)), (iv (tk)), (iv (bg)), (iv (pt)), (iv (vl)), (iv (bd)), bt, sz, cl)) → ∀ ls : Array Slot, lv_has ls 4 [(2, .int (iv (pr A 4 x))), (0, .ref (a 0)), (1, .int (iv (x))), (3, .int (iv (i)))] → W pp l e (rmk 6 134) s m args below meth c H locs 0 0 Q (F0 m 32 ls []) := by
      intro fuel_
      induction fuel_ with
      | zero =>
        intro i mq gq i0 i1 hv hf hn
        exfalso; omega
      | succ fuel_ ih =>
        intro i mq gq i0 i1 hv hf hn H locs h ls hl
        have pm : pe (stepn A i.toNat) = pe A := stepn_pe _ _
        have bR := brnn_rng hI i.toNat (p := x) (by omega) (by omega)
        have qs := (stepn_IA hI i.toNat).gP (p := x) (by omega) (by omega)
        have q0x := hI.gP (p := x) (by omega) (by omega)
        refine lv_iload_n X.1 X.2.1 dX5_burns_32 rfl (lv_at hl 3 rfl) ?_
        refine z_sipush X (by decide) dX5_burns_33 ?_
        refine z_ic_gt (tgt := 59) X ⟨by omega, by omega⟩ ⟨by decide, by decide⟩ dX5_burns_36 (by decide) (fun c_36 => ?_) (fun c_36 => ?_)
        · have hx : fnd (pBurns A x) 1 200 = i.toNat := by rw [hf, show 201 - i.toNat = 0 by omega]; rfl
          refine lv_aload_n X.1 X.2.1 dX5_burns_59 rfl (lv_at hl 1 rfl) ?_
          refine z_av h (run_V (rest := []) X h (c_X5_putsBack) mi_X5_putsBack ml_X5_142 ⟨Nat.le_of_ble_eq_true rfl, Nat.le_of_ble_eq_true rfl⟩ ⟨rfl, rfl⟩ (Seg.rfl' _) 4 0 rfl rfl rfl rfl hl.1 rfl (Nat.le_of_ble_eq_true rfl) ⟨Nat.zero_le _, Nat.zero_le _⟩ dX5_burns_60) (fun _ => rfl) (fun mb3 H locs hb3 h => ?_)
          have h : St E _ s H locs (wM E a (mb3, kp, wa1, (iv (ik)), fd, gq, tp, (iv (tn)), (iv (tk)), (iv (bg)), (iv (pt)), (iv (vl)), (iv (bd)), bt, sz, cl)) := h
          have hR3 := RM_eq hT1 hI.n8 hb3
          refine lv_iload_n X.1 X.2.1 dX5_burns_63 rfl (lv_at hl 3 rfl) ?_
          refine z_sipush X (by decide) dX5_burns_64 ?_
          refine z_ic_le (tgt := 79) X ⟨by omega, by omega⟩ ⟨by decide, by decide⟩ dX5_burns_67 (by decide) (fun c_67 => ?_) (fun c_67 => ?_)
          · refine lv_iload_n X.1 X.2.1 dX5_burns_79 rfl (lv_at hl 3 rfl) ?_
            have e9 : q_burns A ph x = (i, A, ph) := by first | (exfalso; omega) | (unfold q_burns; rw [if_neg (by omega), if_neg (by omega), hx, tnc (by omega)])
            exact ret _ _ _ _ _ (mb3, kp, wa1, (iv (ik)), fd, gq, tp, (iv (tn)), (iv (tk)), (iv (bg)), (iv (pt)), (iv (vl)), (iv (bd)), bt, sz, cl) h (by rw [e9]; exact ⟨rfl, ⟨hR3, hI, hr9⟩, hK, hF, hT, hB⟩) dX5_burns_80
          · refine lv_aload_n X.1 X.2.1 dX5_burns_70 rfl (lv_at hl 1 rfl) ?_
            refine z_ldc (z := (-1000000004)) X ct_X5_39 (by decide) dX5_burns_71 ?_
            refine z_ai h (run_V (rest := []) X h (c_X5_finds (k := 3) hF (by decide) (by decide) (by decide)) mi_X5_finds ml_X5_40 ⟨Nat.le_of_ble_eq_true rfl, Nat.le_of_ble_eq_true rfl⟩ ⟨rfl, rfl⟩ (Seg.rfl' _) 4 0 rfl rfl rfl rfl hl.1 rfl (Nat.le_of_ble_eq_true rfl) ⟨Nat.zero_le _, Nat.zero_le _⟩ dX5_burns_73) (fun _ => rfl) (fun r fd4 H locs hp h => ?_)
            obtain ⟨rfl, hF4⟩ := hp
            have h : St E _ s H locs (wM E a (mb3, kp, wa1, (iv (ik)), fd4, gq, tp, (iv (tn)), (iv (tk)), (iv (bg)), (iv (pt)), (iv (vl)), (iv (bd)), bt, sz, cl)) := h
            refine lv_goto (tgt := 80) X.1 X.2.1 dX5_burns_76 (by decide) ?_
            have e9 : q_burns A ph x = ((-1000000004), A, (bump ph 3)) := by first | (exfalso; omega) | (unfold q_burns; rw [if_neg (by omega), if_pos (by omega)]; rfl)
            exact ret _ _ _ _ _ (mb3, kp, wa1, (iv (ik)), fd4, gq, tp, (iv (tn)), (iv (tk)), (iv (bg)), (iv (pt)), (iv (vl)), (iv (bd)), bt, sz, cl) h (by rw [e9]; exact ⟨rfl, ⟨hR3, hI, hr9⟩, hK, hF4, hT, hB⟩) dX5_burns_80
        · refine lv_aload_n X.1 X.2.1 dX5_burns_39 rfl (lv_at hl 1 rfl) ?_
          refine lv_iload_n X.1 X.2.1 dX5_burns_40 rfl (lv_at hl 2 rfl) ?_
          refine z_iconst X dX5_burns_41 ?_
          refine z_pi (run_V (rest := []) X h (c_X5_it (p := x) (w := 4) hv (stepn_IA hI i.toNat) (by omega) (by omega) (by omega) (by omega)) mi_X5_it ml_X5_52 ⟨Nat.le_of_ble_eq_true rfl, Nat.le_of_ble_eq_true rfl⟩ ⟨rfl, rfl⟩ (Seg.rfl' _) 4 0 rfl rfl rfl rfl hl.1 rfl (Nat.le_of_ble_eq_true rfl) ⟨Nat.zero_le _, Nat.zero_le _⟩ dX5_burns_42) ?_
          refine lv_iload_n X.1 X.2.1 dX5_burns_45 rfl (lv_at hl 0 rfl) ?_
          refine z_ic_ne (tgt := 59) X ⟨by omega, by omega⟩ ⟨by omega, by omega⟩ dX5_burns_46 (by decide) (fun c_46 => ?_) (fun c_46 => ?_)
          · have hx : fnd (pBurns A x) 1 200 = i.toNat := by rw [hf, show 201 - i.toNat = (201 - (i.toNat + 1)) + 1 by omega]; exact fnd_yes (by simp only [pBurns, decide_eq_true_eq]; omega)
            refine lv_aload_n X.1 X.2.1 dX5_burns_59 rfl (lv_at hl 1 rfl) ?_
            refine z_av h (run_V (rest := []) X h (c_X5_putsBack) mi_X5_putsBack ml_X5_142 ⟨Nat.le_of_ble_eq_true rfl, Nat.le_of_ble_eq_true rfl⟩ ⟨rfl, rfl⟩ (Seg.rfl' _) 4 0 rfl rfl rfl rfl hl.1 rfl (Nat.le_of_ble_eq_true rfl) ⟨Nat.zero_le _, Nat.zero_le _⟩ dX5_burns_60) (fun _ => rfl) (fun mb5 H locs hb5 h => ?_)
            have h : St E _ s H locs (wM E a (mb5, kp, wa1, (iv (ik)), fd, gq, tp, (iv (tn)), (iv (tk)), (iv (bg)), (iv (pt)), (iv (vl)), (iv (bd)), bt, sz, cl)) := h
            have hR5 := RM_eq hT1 hI.n8 hb5
            refine lv_iload_n X.1 X.2.1 dX5_burns_63 rfl (lv_at hl 3 rfl) ?_
            refine z_sipush X (by decide) dX5_burns_64 ?_
            refine z_ic_le (tgt := 79) X ⟨by omega, by omega⟩ ⟨by decide, by decide⟩ dX5_burns_67 (by decide) (fun c_67 => ?_) (fun c_67 => ?_)
            · refine lv_iload_n X.1 X.2.1 dX5_burns_79 rfl (lv_at hl 3 rfl) ?_
              have e9 : q_burns A ph x = (i, A, ph) := by first | (exfalso; omega) | (unfold q_burns; rw [if_neg (by omega), if_neg (by omega), hx, tnc (by omega)])
              exact ret _ _ _ _ _ (mb5, kp, wa1, (iv (ik)), fd, gq, tp, (iv (tn)), (iv (tk)), (iv (bg)), (iv (pt)), (iv (vl)), (iv (bd)), bt, sz, cl) h (by rw [e9]; exact ⟨rfl, ⟨hR5, hI, hr9⟩, hK, hF, hT, hB⟩) dX5_burns_80
            · refine lv_aload_n X.1 X.2.1 dX5_burns_70 rfl (lv_at hl 1 rfl) ?_
              refine z_ldc (z := (-1000000004)) X ct_X5_39 (by decide) dX5_burns_71 ?_
              refine z_ai h (run_V (rest := []) X h (c_X5_finds (k := 3) hF (by decide) (by decide) (by decide)) mi_X5_finds ml_X5_40 ⟨Nat.le_of_ble_eq_true rfl, Nat.le_of_ble_eq_true rfl⟩ ⟨rfl, rfl⟩ (Seg.rfl' _) 4 0 rfl rfl rfl rfl hl.1 rfl (Nat.le_of_ble_eq_true rfl) ⟨Nat.zero_le _, Nat.zero_le _⟩ dX5_burns_73) (fun _ => rfl) (fun r fd6 H locs hp h => ?_)
              obtain ⟨rfl, hF6⟩ := hp
              have h : St E _ s H locs (wM E a (mb5, kp, wa1, (iv (ik)), fd6, gq, tp, (iv (tn)), (iv (tk)), (iv (bg)), (iv (pt)), (iv (vl)), (iv (bd)), bt, sz, cl)) := h
              refine lv_goto (tgt := 80) X.1 X.2.1 dX5_burns_76 (by decide) ?_
              have e9 : q_burns A ph x = ((-1000000004), A, (bump ph 3)) := by first | (exfalso; omega) | (unfold q_burns; rw [if_neg (by omega), if_pos (by omega)]; rfl)
              exact ret _ _ _ _ _ (mb5, kp, wa1, (iv (ik)), fd6, gq, tp, (iv (tn)), (iv (tk)), (iv (bg)), (iv (pt)), (iv (vl)), (iv (bd)), bt, sz, cl) h (by rw [e9]; exact ⟨rfl, ⟨hR5, hI, hr9⟩, hK, hF6, hT, hB⟩) dX5_burns_80
          · refine lv_aload_n X.1 X.2.1 dX5_burns_49 rfl (lv_at hl 1 rfl) ?_
            refine z_av h (run_V (rest := []) X h (c_X5_goes hv (stepn_IA hI i.toNat) (show hr (stepn A i.toNat) < 1000000 by rw [stepn_hr]; omega)) mi_X5_goes ml_X5_127 ⟨Nat.le_of_ble_eq_true rfl, Nat.le_of_ble_eq_true rfl⟩ ⟨rfl, rfl⟩ (Seg.rfl' _) 4 0 rfl rfl rfl rfl hl.1 rfl (Nat.le_of_ble_eq_true rfl) ⟨Nat.zero_le _, Nat.zero_le _⟩ dX5_burns_50) (fun _ => rfl) (fun u H locs hp h => ?_)
            obtain ⟨mg7, gg7⟩ := u
            have h : St E _ s H locs (wM E a (mg7, kp, wa1, (iv (ik)), fd, gg7, tp, (iv (tn)), (iv (tk)), (iv (bg)), (iv (pt)), (iv (vl)), (iv (bd)), bt, sz, cl)) := h
            have hR7 : RM mg7 (step (stepn A i.toNat)) := hp
            refine z_iinc (k := 3) (lv' := [(3, .int (iv (i + 1))), (2, .int (iv (pr A 4 x))), (0, .ref (a 0)), (1, .int (iv (x)))]) X dX5_burns_53 hl rfl (by decide) rfl (fun ls hl => ?_)
            refine lv_goto (tgt := 32) X.1 X.2.1 dX5_burns_56 (by decide) ?_
            exact ih (i + 1) (mg7) (gg7) (by omega) (by omega) (by rw [tn1 (by omega)]; exact hR7) (by rw [hf, tn1 (by omega), show 201 - i.toNat = (201 - (i.toNat + 1)) + 1 by omega]; exact fnd_no (by simp only [pBurns, decide_eq_true_eq]; omega)) (by omega) _ _ h ls (lv_sub hl [1, 2, 3, 0] rfl)
    exact L32 ((201 - (1) : Int).toNat + 1) (1) (mg2) (gg2) (by omega) (by omega) (hR2) (rfl) (by omega) _ _ h ls (lv_sub hl [1, 2, 3, 0] rfl)
  · refine lv_aload_n X.1 X.2.1 dX5_burns_8 rfl (lv_at hl 0 rfl) ?_
    refine z_ldc (z := (-1000000001)) X ct_X5_38 (by decide) dX5_burns_9 ?_
    refine z_ai h (run_V (rest := []) X h (c_X5_finds (k := 0) hF (by decide) (by decide) (by decide)) mi_X5_finds ml_X5_40 ⟨Nat.le_of_ble_eq_true rfl, Nat.le_of_ble_eq_true rfl⟩ ⟨rfl, rfl⟩ (Seg.rfl' _) 4 0 rfl rfl rfl rfl hl.1 rfl (Nat.le_of_ble_eq_true rfl) ⟨Nat.zero_le _, Nat.zero_le _⟩ dX5_burns_11) (fun _ => rfl) (fun r fd8 H locs hp h => ?_)
    obtain ⟨rfl, hF8⟩ := hp
    have h : St E _ s H locs (wM E a (mm, kp, wa, (iv (ik)), fd8, gf, tp, (iv (tn)), (iv (tk)), (iv (bg)), (iv (pt)), (iv (vl)), (iv (bd)), bt, sz, cl)) := h
    have e9 : q_burns A ph x = ((-1000000001), A, (bump ph 0)) := by unfold q_burns; (repeat (first | rw [if_pos (by omega)] | rw [if_neg (by omega)])); try rfl
    exact ret _ _ _ _ _ (mm, kp, wa, (iv (ik)), fd8, gf, tp, (iv (tn)), (iv (tk)), (iv (bg)), (iv (pt)), (iv (vl)), (iv (bd)), bt, sz, cl) h (by rw [e9]; exact ⟨rfl, ⟨hR, hI, hr9⟩, hK, hF8, hT, hB⟩) dX5_burns_14

set_option maxHeartbeats 4000000 in
theorem c_X5_even (hS : RepM (mm, kp, wa, (iv (ik)), fd, gf, tp, (iv (tn)), (iv (tk)), (iv (bg)), (iv (pt)), (iv (vl)), (iv (bd)), bt, sz, cl) (A, K, ik, ph, tq, tn, bq, sq, cq)) {x : Int} (r_x : r32 x) : MI (S := Mc) E l yX5_even cX5_even 3 (some FieldType.int) (rmk 6 134) (wM E a (mm, kp, wa, (iv (ik)), fd, gf, tp, (iv (tn)), (iv (tk)), (iv (bg)), (iv (pt)), (iv (vl)), (iv (bd)), bt, sz, cl)) [.ref (a 0), .int (iv (x))] (fun r u => r = iv (q_even A ph x).1 ∧ RepM u ((q_even A ph x).2.1, K, ik, (q_even A ph x).2.2, tq, tn, bq, sq, cq)) (fun u => wM E a u) := by
  refine goI (S := Mc) (post := fun r u => r = iv (q_even A ph x).1 ∧ RepM u ((q_even A ph x).2.1, K, ik, (q_even A ph x).2.2, tq, tn, bq, sq, cq)) (ws' := fun u => wM E a u) (by decide) (Nat.le_of_ble_eq_true rfl) ?_
  intro pp e s m below meth c ls args Q ret X h hl
  have hl : lv_has ls 3 [(0, .ref (a 0)), (1, .int (iv (x)))] := hl
  have hR : RM mm A := hS.1.1
  have hI : IA A := hS.1.2.1
  have hr9 : hr A ≤ 99999 := hS.1.2.2
  have hF : RF 7 fd ph := hS.2.2.1
  have hK := hS.2.1
  have hT := hS.2.2.2.1
  have hB := hS.2.2.2.2
  have hh : hr A < 1000000 := by omega
  have n8 := hI.n8
  have n0 := hI.n0
  have h0 := hI.h0
  refine lv_aload_n X.1 X.2.1 dX5_even_0 rfl (lv_at hl 0 rfl) ?_
  refine lv_iload_n X.1 X.2.1 dX5_even_1 rfl (lv_at hl 1 rfl) ?_
  refine z_pi (run_V (rest := []) X h (c_X5_isPerson (p := x) hR hI r_x) mi_X5_isPerson ml_X5_48 ⟨Nat.le_of_ble_eq_true rfl, Nat.le_of_ble_eq_true rfl⟩ ⟨rfl, rfl⟩ (Seg.rfl' _) 4 0 rfl rfl rfl rfl hl.1 rfl (Nat.le_of_ble_eq_true rfl) ⟨Nat.zero_le _, Nat.zero_le _⟩ dX5_even_2) ?_
  refine z_ifb_ne (tgt := 15) X dX5_even_5 (by decide) (fun c_5 => ?_) (fun c_5 => ?_)
  · refine lv_aload_n X.1 X.2.1 dX5_even_15 rfl (lv_at hl 0 rfl) ?_
    refine z_av h (run_V (rest := []) X h (c_X5_thinks) mi_X5_thinks ml_X5_139 ⟨Nat.le_of_ble_eq_true rfl, Nat.le_of_ble_eq_true rfl⟩ ⟨rfl, rfl⟩ (Seg.rfl' _) 4 0 rfl rfl rfl rfl hl.1 rfl (Nat.le_of_ble_eq_true rfl) ⟨Nat.zero_le _, Nat.zero_le _⟩ dX5_even_16) (fun _ => rfl) (fun wa1 H locs hw1 h => ?_)
    have h : St E _ s H locs (wM E a (mm, kp, wa1, (iv (ik)), fd, gf, tp, (iv (tn)), (iv (tk)), (iv (bg)), (iv (pt)), (iv (vl)), (iv (bd)), bt, sz, cl)) := h
    have hT1 := RM_eq hR hI.n8 hw1
    refine z_iconst X dX5_even_19 ?_
    refine lv_istore_n (lv' := [(2, .int (iv (0))), (0, .ref (a 0)), (1, .int (iv (x)))]) X.1 X.2.1 dX5_even_20 rfl hl (by decide) rfl (fun ls hl => ?_)
    have L21 : ∀ (fuel_ : Nat) (i : Int) (mq : Nat → Int32) (gq : Nat → Int32), (0 ≤ i) → (i ≤ 201) → (RM mq (stepn A i.toNat)) → (fnd (pEven A x) 0 201 = fnd (pEven A x) i.toNat (201 - i.toNat)) → 201 - i < (fuel_ : Int) → ∀ (H : Heap) (locs : List Loc), St E (wM E a (mm, kp, wa, (iv (ik)), fd, gf, tp, (iv (tn)), (iv (tk)), (iv (bg)), (iv (pt)), (iv (vl)), (iv (bd)), bt, sz, cl)) s H locs (wM E a (mq, kp, wa1, (iv (ik)), fd, gq, tp, (iv (tn)), (iv (tk)), (iv (bg)), (iv (pt)), (iv (vl)), (iv (bd)), bt, sz, cl)) → ∀ ls : Array Slot, lv_has ls 3 [(0, .ref (a 0)), (1, .int (iv (x))), (2, .int (iv (i)))] → W pp l e (rmk 6 134) s m args below meth c H locs 0 0 Q (F0 m 21 ls []) := by
      intro fuel_
      induction fuel_ with
      | zero =>
        intro i mq gq i0 i1 hv hf hn
        exfalso; omega
      | succ fuel_ ih =>
        intro i mq gq i0 i1 hv hf hn H locs h ls hl
        have pm : pe (stepn A i.toNat) = pe A := stepn_pe _ _
        have bR := brnn_rng hI i.toNat (p := x) (by omega) (by omega)
        have qs := (stepn_IA hI i.toNat).gP (p := x) (by omega) (by omega)
        have q0x := hI.gP (p := x) (by omega) (by omega)
        refine lv_iload_n X.1 X.2.1 dX5_even_21 rfl (lv_at hl 2 rfl) ?_
        refine z_sipush X (by decide) dX5_even_22 ?_
        refine z_ic_gt (tgt := 46) X ⟨by omega, by omega⟩ ⟨by decide, by decide⟩ dX5_even_25 (by decide) (fun c_25 => ?_) (fun c_25 => ?_)
        · have hx : fnd (pEven A x) 0 201 = i.toNat := by rw [hf, show 201 - i.toNat = 0 by omega]; rfl
          refine lv_aload_n X.1 X.2.1 dX5_even_46 rfl (lv_at hl 0 rfl) ?_
          refine z_av h (run_V (rest := []) X h (c_X5_putsBack) mi_X5_putsBack ml_X5_142 ⟨Nat.le_of_ble_eq_true rfl, Nat.le_of_ble_eq_true rfl⟩ ⟨rfl, rfl⟩ (Seg.rfl' _) 4 0 rfl rfl rfl rfl hl.1 rfl (Nat.le_of_ble_eq_true rfl) ⟨Nat.zero_le _, Nat.zero_le _⟩ dX5_even_47) (fun _ => rfl) (fun mb2 H locs hb2 h => ?_)
          have h : St E _ s H locs (wM E a (mb2, kp, wa1, (iv (ik)), fd, gq, tp, (iv (tn)), (iv (tk)), (iv (bg)), (iv (pt)), (iv (vl)), (iv (bd)), bt, sz, cl)) := h
          have hR2 := RM_eq hT1 hI.n8 hb2
          refine lv_iload_n X.1 X.2.1 dX5_even_50 rfl (lv_at hl 2 rfl) ?_
          refine z_sipush X (by decide) dX5_even_51 ?_
          refine z_ic_le (tgt := 66) X ⟨by omega, by omega⟩ ⟨by decide, by decide⟩ dX5_even_54 (by decide) (fun c_54 => ?_) (fun c_54 => ?_)
          · refine lv_iload_n X.1 X.2.1 dX5_even_66 rfl (lv_at hl 2 rfl) ?_
            have e9 : q_even A ph x = (i, A, ph) := by first | (exfalso; omega) | (unfold q_even; rw [if_neg (by omega), if_neg (by omega), hx, tnc (by omega)])
            exact ret _ _ _ _ _ (mb2, kp, wa1, (iv (ik)), fd, gq, tp, (iv (tn)), (iv (tk)), (iv (bg)), (iv (pt)), (iv (vl)), (iv (bd)), bt, sz, cl) h (by rw [e9]; exact ⟨rfl, ⟨hR2, hI, hr9⟩, hK, hF, hT, hB⟩) dX5_even_67
          · refine lv_aload_n X.1 X.2.1 dX5_even_57 rfl (lv_at hl 0 rfl) ?_
            refine z_ldc (z := (-1000000004)) X ct_X5_39 (by decide) dX5_even_58 ?_
            refine z_ai h (run_V (rest := []) X h (c_X5_finds (k := 3) hF (by decide) (by decide) (by decide)) mi_X5_finds ml_X5_40 ⟨Nat.le_of_ble_eq_true rfl, Nat.le_of_ble_eq_true rfl⟩ ⟨rfl, rfl⟩ (Seg.rfl' _) 4 0 rfl rfl rfl rfl hl.1 rfl (Nat.le_of_ble_eq_true rfl) ⟨Nat.zero_le _, Nat.zero_le _⟩ dX5_even_60) (fun _ => rfl) (fun r fd3 H locs hp h => ?_)
            obtain ⟨rfl, hF3⟩ := hp
            have h : St E _ s H locs (wM E a (mb2, kp, wa1, (iv (ik)), fd3, gq, tp, (iv (tn)), (iv (tk)), (iv (bg)), (iv (pt)), (iv (vl)), (iv (bd)), bt, sz, cl)) := h
            refine lv_goto (tgt := 67) X.1 X.2.1 dX5_even_63 (by decide) ?_
            have e9 : q_even A ph x = ((-1000000004), A, (bump ph 3)) := by first | (exfalso; omega) | (unfold q_even; rw [if_neg (by omega), if_pos (by omega)]; rfl)
            exact ret _ _ _ _ _ (mb2, kp, wa1, (iv (ik)), fd3, gq, tp, (iv (tn)), (iv (tk)), (iv (bg)), (iv (pt)), (iv (vl)), (iv (bd)), bt, sz, cl) h (by rw [e9]; exact ⟨rfl, ⟨hR2, hI, hr9⟩, hK, hF3, hT, hB⟩) dX5_even_67
        · refine lv_aload_n X.1 X.2.1 dX5_even_28 rfl (lv_at hl 0 rfl) ?_
          refine lv_iload_n X.1 X.2.1 dX5_even_29 rfl (lv_at hl 1 rfl) ?_
          refine z_pi (run_V (rest := []) X h (c_X5_isEven (p := x) hv (stepn_IA hI i.toNat) (by omega) (by omega)) mi_X5_isEven ml_X5_79 ⟨Nat.le_of_ble_eq_true rfl, Nat.le_of_ble_eq_true rfl⟩ ⟨rfl, rfl⟩ (Seg.rfl' _) 4 0 rfl rfl rfl rfl hl.1 rfl (Nat.le_of_ble_eq_true rfl) ⟨Nat.zero_le _, Nat.zero_le _⟩ dX5_even_30) ?_
          refine z_ifb_ne (tgt := 46) X dX5_even_33 (by decide) (fun c_33 => ?_) (fun c_33 => ?_)
          · have hx : fnd (pEven A x) 0 201 = i.toNat := by rw [hf, show 201 - i.toNat = (201 - (i.toNat + 1)) + 1 by omega]; exact fnd_yes (by assumption)
            refine lv_aload_n X.1 X.2.1 dX5_even_46 rfl (lv_at hl 0 rfl) ?_
            refine z_av h (run_V (rest := []) X h (c_X5_putsBack) mi_X5_putsBack ml_X5_142 ⟨Nat.le_of_ble_eq_true rfl, Nat.le_of_ble_eq_true rfl⟩ ⟨rfl, rfl⟩ (Seg.rfl' _) 4 0 rfl rfl rfl rfl hl.1 rfl (Nat.le_of_ble_eq_true rfl) ⟨Nat.zero_le _, Nat.zero_le _⟩ dX5_even_47) (fun _ => rfl) (fun mb4 H locs hb4 h => ?_)
            have h : St E _ s H locs (wM E a (mb4, kp, wa1, (iv (ik)), fd, gq, tp, (iv (tn)), (iv (tk)), (iv (bg)), (iv (pt)), (iv (vl)), (iv (bd)), bt, sz, cl)) := h
            have hR4 := RM_eq hT1 hI.n8 hb4
            refine lv_iload_n X.1 X.2.1 dX5_even_50 rfl (lv_at hl 2 rfl) ?_
            refine z_sipush X (by decide) dX5_even_51 ?_
            refine z_ic_le (tgt := 66) X ⟨by omega, by omega⟩ ⟨by decide, by decide⟩ dX5_even_54 (by decide) (fun c_54 => ?_) (fun c_54 => ?_)
            · refine lv_iload_n X.1 X.2.1 dX5_even_66 rfl (lv_at hl 2 rfl) ?_
              have e9 : q_even A ph x = (i, A, ph) := by first | (exfalso; omega) | (unfold q_even; rw [if_neg (by omega), if_neg (by omega), hx, tnc (by omega)])
              exact ret _ _ _ _ _ (mb4, kp, wa1, (iv (ik)), fd, gq, tp, (iv (tn)), (iv (tk)), (iv (bg)), (iv (pt)), (iv (vl)), (iv (bd)), bt, sz, cl) h (by rw [e9]; exact ⟨rfl, ⟨hR4, hI, hr9⟩, hK, hF, hT, hB⟩) dX5_even_67
            · refine lv_aload_n X.1 X.2.1 dX5_even_57 rfl (lv_at hl 0 rfl) ?_
              refine z_ldc (z := (-1000000004)) X ct_X5_39 (by decide) dX5_even_58 ?_
              refine z_ai h (run_V (rest := []) X h (c_X5_finds (k := 3) hF (by decide) (by decide) (by decide)) mi_X5_finds ml_X5_40 ⟨Nat.le_of_ble_eq_true rfl, Nat.le_of_ble_eq_true rfl⟩ ⟨rfl, rfl⟩ (Seg.rfl' _) 4 0 rfl rfl rfl rfl hl.1 rfl (Nat.le_of_ble_eq_true rfl) ⟨Nat.zero_le _, Nat.zero_le _⟩ dX5_even_60) (fun _ => rfl) (fun r fd5 H locs hp h => ?_)
              obtain ⟨rfl, hF5⟩ := hp
              have h : St E _ s H locs (wM E a (mb4, kp, wa1, (iv (ik)), fd5, gq, tp, (iv (tn)), (iv (tk)), (iv (bg)), (iv (pt)), (iv (vl)), (iv (bd)), bt, sz, cl)) := h
              refine lv_goto (tgt := 67) X.1 X.2.1 dX5_even_63 (by decide) ?_
              have e9 : q_even A ph x = ((-1000000004), A, (bump ph 3)) := by first | (exfalso; omega) | (unfold q_even; rw [if_neg (by omega), if_pos (by omega)]; rfl)
              exact ret _ _ _ _ _ (mb4, kp, wa1, (iv (ik)), fd5, gq, tp, (iv (tn)), (iv (tk)), (iv (bg)), (iv (pt)), (iv (vl)), (iv (bd)), bt, sz, cl) h (by rw [e9]; exact ⟨rfl, ⟨hR4, hI, hr9⟩, hK, hF5, hT, hB⟩) dX5_even_67
          · refine lv_aload_n X.1 X.2.1 dX5_even_36 rfl (lv_at hl 0 rfl) ?_
            refine z_av h (run_V (rest := []) X h (c_X5_goes hv (stepn_IA hI i.toNat) (show hr (stepn A i.toNat) < 1000000 by rw [stepn_hr]; omega)) mi_X5_goes ml_X5_127 ⟨Nat.le_of_ble_eq_true rfl, Nat.le_of_ble_eq_true rfl⟩ ⟨rfl, rfl⟩ (Seg.rfl' _) 4 0 rfl rfl rfl rfl hl.1 rfl (Nat.le_of_ble_eq_true rfl) ⟨Nat.zero_le _, Nat.zero_le _⟩ dX5_even_37) (fun _ => rfl) (fun u H locs hp h => ?_)
            obtain ⟨mg6, gg6⟩ := u
            have h : St E _ s H locs (wM E a (mg6, kp, wa1, (iv (ik)), fd, gg6, tp, (iv (tn)), (iv (tk)), (iv (bg)), (iv (pt)), (iv (vl)), (iv (bd)), bt, sz, cl)) := h
            have hR6 : RM mg6 (step (stepn A i.toNat)) := hp
            refine z_iinc (k := 2) (lv' := [(2, .int (iv (i + 1))), (0, .ref (a 0)), (1, .int (iv (x)))]) X dX5_even_40 hl rfl (by decide) rfl (fun ls hl => ?_)
            refine lv_goto (tgt := 21) X.1 X.2.1 dX5_even_43 (by decide) ?_
            exact ih (i + 1) (mg6) (gg6) (by omega) (by omega) (by rw [tn1 (by omega)]; exact hR6) (by rw [hf, tn1 (by omega), show 201 - i.toNat = (201 - (i.toNat + 1)) + 1 by omega]; exact fnd_no (by assumption)) (by omega) _ _ h ls (lv_sub hl [1, 2, 0] rfl)
    exact L21 ((201 - (0) : Int).toNat + 1) (0) (mm) (gf) (by omega) (by omega) (hR) (rfl) (by omega) _ _ h ls (lv_sub hl [1, 2, 0] rfl)
  · refine lv_aload_n X.1 X.2.1 dX5_even_8 rfl (lv_at hl 0 rfl) ?_
    refine z_ldc (z := (-1000000001)) X ct_X5_38 (by decide) dX5_even_9 ?_
    refine z_ai h (run_V (rest := []) X h (c_X5_finds (k := 0) hF (by decide) (by decide) (by decide)) mi_X5_finds ml_X5_40 ⟨Nat.le_of_ble_eq_true rfl, Nat.le_of_ble_eq_true rfl⟩ ⟨rfl, rfl⟩ (Seg.rfl' _) 4 0 rfl rfl rfl rfl hl.1 rfl (Nat.le_of_ble_eq_true rfl) ⟨Nat.zero_le _, Nat.zero_le _⟩ dX5_even_11) (fun _ => rfl) (fun r fd7 H locs hp h => ?_)
    obtain ⟨rfl, hF7⟩ := hp
    have h : St E _ s H locs (wM E a (mm, kp, wa, (iv (ik)), fd7, gf, tp, (iv (tn)), (iv (tk)), (iv (bg)), (iv (pt)), (iv (vl)), (iv (bd)), bt, sz, cl)) := h
    have e9 : q_even A ph x = ((-1000000001), A, (bump ph 0)) := by unfold q_even; (repeat (first | rw [if_pos (by omega)] | rw [if_neg (by omega)])); try rfl
    exact ret _ _ _ _ _ (mm, kp, wa, (iv (ik)), fd7, gf, tp, (iv (tn)), (iv (tk)), (iv (bg)), (iv (pt)), (iv (vl)), (iv (bd)), bt, sz, cl) h (by rw [e9]; exact ⟨rfl, ⟨hR, hI, hr9⟩, hK, hF7, hT, hB⟩) dX5_even_14
