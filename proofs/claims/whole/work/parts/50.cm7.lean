variable {E : EV} {l : Launch} {a k b t x : Nat → Nat} {q : Nat → Nat → Nat} {fd k1 k2 k3 k4 k5 k6 k7 k8 k9 xs xi xk xc xl xr xb yl yr t1 t2 t3 t4 t5 t6 t7 t8 t9 tp : Nat → Int32} {hk nk ht nt e1 e2 e3 e4 v0 : Int32} {c0 c1 c2 c3 : Nat → Int64} {A K : Es} {ph tq bq sq : Int → Int} {cq : Int → Int → Int64} {ik tn : Int}
set_option maxHeartbeats 4000000 in
theorem c_X4_brown (hS : RepC (((iv (ik)), fd), ((hk), (nk), (k1, k2, k3, k4, k5, k6, k7, k8, k9)), ((iv (hr A)), (iv (pe A)), (xs, xi, xk, xc, xl, xr, xb, yl, yr)), ((ht), (nt), (t1, t2, t3, t4, t5, t6, t7, t8, t9)), ((iv (tn)), (e1), (e2), (e3), (e4), tp), ((iv (bq 0)), (iv (sq 0)), c0), ((iv (bq 1)), (iv (sq 1)), c1), ((iv (bq 2)), (iv (sq 2)), c2), ((iv (bq 3)), (iv (sq 3)), c3)) (A, K, ik, ph, tq, tn, bq, sq, cq)) {px : Int} (r_px : r32 px) {pv : Int} (r_pv : r32 pv) : MI (S := Tc) E l yX4_brown cX4_brown 4 (some FieldType.int) (rmk 4 89) (wO E a k b t x q ((iv (ik))) fd ++ (wS E k ((hk)) ((nk)) (k1, k2, k3, k4, k5, k6, k7, k8, k9) ++ (wS E b ((iv (hr A))) ((iv (pe A))) (xs, xi, xk, xc, xl, xr, xb, yl, yr) ++ (wS E t ((ht)) ((nt)) (t1, t2, t3, t4, t5, t6, t7, t8, t9) ++ (wX E x ((iv (tn))) ((e1)) ((e2)) ((e3)) ((e4)) tp ++ (wH E (q 0) ((iv (bq 0))) ((iv (sq 0))) c0 ++ (wH E (q 1) ((iv (bq 1))) ((iv (sq 1))) c1 ++ (wH E (q 2) ((iv (bq 2))) ((iv (sq 2))) c2 ++ (wH E (q 3) ((iv (bq 3))) ((iv (sq 3))) c3 ++ []))))))))) [.ref (a 0), .int (iv (px)), .int (iv (pv))] (fun r u => r = iv (q_brown A ph px pv).1 ∧ RepC u ((q_brown A ph px pv).2.1, K, ik, (q_brown A ph px pv).2.2, tq, tn, bq, sq, cq)) (fun u => wT E a k b t x q u) := by
  refine goI (S := Tc) (post := fun r u => r = iv (q_brown A ph px pv).1 ∧ RepC u ((q_brown A ph px pv).2.1, K, ik, (q_brown A ph px pv).2.2, tq, tn, bq, sq, cq)) (ws' := fun u => wT E a k b t x q u) (by decide) (Nat.le_of_ble_eq_true rfl) ?_
  intro pp e s m below meth c ls args Q ret X h hl
  have hl : lv_has ls 4 [(0, .ref (a 0)), (1, .int (iv (px))), (2, .int (iv (pv)))] := hl
  have hR : RS (xs, xi, xk, xc, xl, xr, xb, yl, yr) A := hS.1.2.2.1
  have hI : IA A := hS.1.2.2.2.1
  have hr9 : hr A ≤ 99999 := hS.1.2.2.2.2
  have hF : RF 7 fd ph := hS.2.2.1
  have hK := hS.2.1
  have hT := hS.2.2.2.1
  have hB := hS.2.2.2.2
  have hh : hr A < 1000000 := by omega
  have n8 := hI.n8
  have n0 := hI.n0
  have h0 := hI.h0
  refine lv_aload_n X.1 X.2.1 dX4_brown_0 rfl (lv_at hl 0 rfl) ?_
  refine lv_iload_n X.1 X.2.1 dX4_brown_1 rfl (lv_at hl 1 rfl) ?_
  refine z_pi (run_V (rest := []) X h (c_X4_isPerson (p := px) hI r_px) mi_X4_isPerson ml_X4_94 ⟨Nat.le_of_ble_eq_true rfl, Nat.le_of_ble_eq_true rfl⟩ ⟨rfl, rfl⟩ (Seg.rfl' _) 3 0 rfl rfl rfl rfl hl.1 rfl (Nat.le_of_ble_eq_true rfl) ⟨Nat.zero_le _, Nat.zero_le _⟩ dX4_brown_2) ?_
  refine z_ifb_eq (tgt := 19) X dX4_brown_5 (by decide) (fun c_5 => ?_) (fun c_5 => ?_)
  · refine lv_aload_n X.1 X.2.1 dX4_brown_19 rfl (lv_at hl 0 rfl) ?_
    refine z_ldc (z := (-1000000001)) X ct_X4_48 (by decide) dX4_brown_20 ?_
    refine z_wi (st_sing (st_nil h)) (run_V (rest := []) X (st_sing (st_nil h)) (c_X4_finding (j := 0) hF (by decide) (by decide) (by decide)) mi_X4_finding ml_X4_49 ⟨Nat.le_of_ble_eq_true rfl, Nat.le_of_ble_eq_true rfl⟩ ⟨rfl, rfl⟩ (Seg.mk' _ _) 3 0 rfl rfl rfl rfl hl.1 rfl (Nat.le_of_ble_eq_true rfl) ⟨Nat.zero_le _, Nat.zero_le _⟩ dX4_brown_22) (fun _ => map_app (wO_map _ _ _ _ _ _ _ _ _ _ _) rfl) (fun r fd1 H locs hp h => ?_)
    have h := (st_lin (st_gnis h))
    obtain ⟨rfl, hF1⟩ := hp
    have h : St E _ s H locs (wO E a k b t x q ((iv (ik))) fd1 ++ (wS E k ((hk)) ((nk)) (k1, k2, k3, k4, k5, k6, k7, k8, k9) ++ (wS E b ((iv (hr A))) ((iv (pe A))) (xs, xi, xk, xc, xl, xr, xb, yl, yr) ++ (wS E t ((ht)) ((nt)) (t1, t2, t3, t4, t5, t6, t7, t8, t9) ++ (wX E x ((iv (tn))) ((e1)) ((e2)) ((e3)) ((e4)) tp ++ (wH E (q 0) ((iv (bq 0))) ((iv (sq 0))) c0 ++ (wH E (q 1) ((iv (bq 1))) ((iv (sq 1))) c1 ++ (wH E (q 2) ((iv (bq 2))) ((iv (sq 2))) c2 ++ (wH E (q 3) ((iv (bq 3))) ((iv (sq 3))) c3 ++ []))))))))) := h
    have e9 : q_brown A ph px pv = ((-1000000001), A, (bump ph 0)) := by unfold q_brown; (repeat (first | rw [if_pos (by omega)] | rw [if_neg (by omega)])); try rfl
    exact ret _ _ _ _ _ (((iv (ik)), fd1), ((hk), (nk), (k1, k2, k3, k4, k5, k6, k7, k8, k9)), ((iv (hr A)), (iv (pe A)), (xs, xi, xk, xc, xl, xr, xb, yl, yr)), ((ht), (nt), (t1, t2, t3, t4, t5, t6, t7, t8, t9)), ((iv (tn)), (e1), (e2), (e3), (e4), tp), ((iv (bq 0)), (iv (sq 0)), c0), ((iv (bq 1)), (iv (sq 1)), c1), ((iv (bq 2)), (iv (sq 2)), c2), ((iv (bq 3)), (iv (sq 3)), c3)) h (by rw [e9]; exact ⟨rfl, ⟨rfl, rfl, hR, hI, hr9⟩, hK, hF1, hT, hB⟩) dX4_brown_25
  · refine lv_iload_n X.1 X.2.1 dX4_brown_8 rfl (lv_at hl 2 rfl) ?_
    refine z_iconst X dX4_brown_9 ?_
    refine z_sipush X (by decide) dX4_brown_10 ?_
    refine z_pi (run_S (rest := []) X h (c_X4_within r_pv ⟨by decide, by decide⟩ ⟨by decide, by decide⟩) mi_X4_within ml_X4_44 ⟨Nat.le_of_ble_eq_true rfl, Nat.le_of_ble_eq_true rfl⟩ ⟨rfl, rfl⟩ (Seg.nil _) rfl hl.1 rfl (Nat.le_of_ble_eq_true rfl) ⟨Nat.zero_le _, Nat.zero_le _⟩ dX4_brown_13) ?_
    refine z_ifb_ne (tgt := 26) X dX4_brown_16 (by decide) (fun c_16 => ?_) (fun c_16 => ?_)
    · refine lv_aload_n X.1 X.2.1 dX4_brown_26 rfl (lv_at hl 0 rfl) ?_
      refine z_av h (run_V (rest := []) X h (c_X4_startTrial hR hI.n8) mi_X4_startTrial ml_X4_150 ⟨Nat.le_of_ble_eq_true rfl, Nat.le_of_ble_eq_true rfl⟩ ⟨rfl, rfl⟩ (Seg.rfl' _) 3 0 rfl rfl rfl rfl hl.1 rfl (Nat.le_of_ble_eq_true rfl) ⟨Nat.zero_le _, Nat.zero_le _⟩ dX4_brown_27) (fun _ => map_app rfl (map_app rfl (map_app rfl (map_app (wS_map _ _ _ _ _ _ _ _) rfl)))) (fun u H locs hp h => ?_)
      obtain ⟨r0_2, r1_2, r2_2, r3_2, r4_2, r5_2, r6_2, r7_2, r8_2⟩ := u
      have h : St E _ s H locs (wO E a k b t x q ((iv (ik))) fd ++ (wS E k ((hk)) ((nk)) (k1, k2, k3, k4, k5, k6, k7, k8, k9) ++ (wS E b ((iv (hr A))) ((iv (pe A))) (xs, xi, xk, xc, xl, xr, xb, yl, yr) ++ (wS E t ((iv (hr A))) ((iv (pe A))) (r0_2, r1_2, r2_2, r3_2, r4_2, r5_2, r6_2, r7_2, r8_2) ++ (wX E x ((iv (tn))) ((e1)) ((e2)) ((e3)) ((e4)) tp ++ (wH E (q 0) ((iv (bq 0))) ((iv (sq 0))) c0 ++ (wH E (q 1) ((iv (bq 1))) ((iv (sq 1))) c1 ++ (wH E (q 2) ((iv (bq 2))) ((iv (sq 2))) c2 ++ (wH E (q 3) ((iv (bq 3))) ((iv (sq 3))) c3 ++ []))))))))) := h
      have hRb2 : RS (r0_2, r1_2, r2_2, r3_2, r4_2, r5_2, r6_2, r7_2, r8_2) A := hp
      refine z_iconst X dX4_brown_30 ?_
      refine lv_istore_n (lv' := [(3, .int (iv (0))), (0, .ref (a 0)), (1, .int (iv (px))), (2, .int (iv (pv)))]) X.1 X.2.1 dX4_brown_31 rfl hl (by decide) rfl (fun ls hl => ?_)
      have L32 : ∀ (fuel_ : Nat) (i : Int) (g1 : Nat → Int32) (g2 : Nat → Int32) (g3 : Nat → Int32) (g4 : Nat → Int32) (g5 : Nat → Int32) (g6 : Nat → Int32) (g7 : Nat → Int32) (g8 : Nat → Int32) (g9 : Nat → Int32), (0 ≤ i) → (i ≤ 201) → (RS (g1, g2, g3, g4, g5, g6, g7, g8, g9) (stepn A i.toNat)) → (fnd (pBrown A px pv) 0 201 = fnd (pBrown A px pv) i.toNat (201 - i.toNat)) → 201 - i < (fuel_ : Int) → ∀ (H : Heap) (locs : List Loc), St E (wO E a k b t x q ((iv (ik))) fd ++ (wS E k ((hk)) ((nk)) (k1, k2, k3, k4, k5, k6, k7, k8, k9) ++ (wS E b ((iv (hr A))) ((iv (pe A))) (xs, xi, xk, xc, xl, xr, xb, yl, yr) ++ (wS E t ((ht)) ((nt)) (t1, t2, t3, t4, t5, t6, t7, t8, t9) ++ (wX E x ((iv (tn))) ((e1)) ((e2)) ((e3)) ((e4)) tp ++ (wH E (q 0) ((iv (bq 0))) ((iv (sq 0))) c0 ++ (wH E (q 1) ((iv (bq 1))) ((iv (sq 1))) c1 ++ (wH E (q 2) ((iv (bq 2))) ((iv (sq 2))) c2 ++ (wH E (q 3) ((iv (bq 3))) ((iv (sq 3))) c3 ++ []))))))))) s H locs (wO E a k b t x q ((iv (ik))) fd ++ (wS E k ((hk)) ((nk)) (k1, k2, k3, k4, k5, k6, k7, k8, k9) ++ (wS E b ((iv (hr A))) ((iv (pe A))) (xs, xi, xk, xc, xl, xr, xb, yl, yr) ++ (wS E t ((iv (hr (stepn A i.toNat)))) ((iv (pe (stepn A i.toNat)))) (g1, g2, g3, g4, g5, g6, g7, g8, g9) ++ (wX E x ((iv (tn))) ((e1)) ((e2)) ((e3)) ((e4)) tp ++ (wH E (q 0) ((iv (bq 0))) ((iv (sq 0))) c0 ++ (wH E (q 1) ((iv (bq 1))) ((iv (sq 1))) c1 ++ (wH E (q 2) ((iv (bq 2))) ((iv (sq 2))) c2 ++ (wH E (q 3) ((iv (bq 3))) ((iv (sq 3))) c3 ++ []))))))))) → ∀ ls : Array Slot, lv_has ls 4 [(0, .ref (a 0)), (1, .int (iv (px))), (2, .int (iv (pv))), (3, .int (iv (i)))] → W pp l e (rmk 4 89) s m args below meth c H locs 0 0 Q (F0 m 32 ls []) := by
        intro fuel_
        induction fuel_ with
        | zero =>
          intro i g1 g2 g3 g4 g5 g6 g7 g8 g9 i0 i1 hv hf hn
          exfalso; omega
        | succ fuel_ ih =>
          intro i g1 g2 g3 g4 g5 g6 g7 g8 g9 i0 i1 hv hf hn H locs h ls hl
          have pm : pe (stepn A i.toNat) = pe A := stepn_pe _ _
          have bR := brnn_rng hI i.toNat (p := px) (by omega) (by omega)
          refine lv_iload_n X.1 X.2.1 dX4_brown_32 rfl (lv_at hl 3 rfl) ?_
          refine z_sipush X (by decide) dX4_brown_33 ?_
          refine z_ic_gt (tgt := 66) X ⟨by omega, by omega⟩ ⟨by decide, by decide⟩ dX4_brown_36 (by decide) (fun c_36 => ?_) (fun c_36 => ?_)
          · have hx : fnd (pBrown A px pv) 0 201 = i.toNat := by rw [hf, show 201 - i.toNat = 0 by omega]; rfl
            have sr9 := i0
            refine lv_aload_n X.1 X.2.1 dX4_brown_66 rfl (lv_at hl 0 rfl) ?_
            refine z_ldc (z := (-1000000004)) X ct_X4_156 (by decide) dX4_brown_67 ?_
            refine z_wi (st_sing (st_nil h)) (run_V (rest := []) X (st_sing (st_nil h)) (c_X4_finding (j := 3) hF (by decide) (by decide) (by decide)) mi_X4_finding ml_X4_49 ⟨Nat.le_of_ble_eq_true rfl, Nat.le_of_ble_eq_true rfl⟩ ⟨rfl, rfl⟩ (Seg.mk' _ _) 3 0 rfl rfl rfl rfl hl.1 rfl (Nat.le_of_ble_eq_true rfl) ⟨Nat.zero_le _, Nat.zero_le _⟩ dX4_brown_69) (fun _ => map_app (wO_map _ _ _ _ _ _ _ _ _ _ _) rfl) (fun r fd3 H locs hp h => ?_)
            have h := (st_lin (st_gnis h))
            obtain ⟨rfl, hF3⟩ := hp
            have h : St E _ s H locs (wO E a k b t x q ((iv (ik))) fd3 ++ (wS E k ((hk)) ((nk)) (k1, k2, k3, k4, k5, k6, k7, k8, k9) ++ (wS E b ((iv (hr A))) ((iv (pe A))) (xs, xi, xk, xc, xl, xr, xb, yl, yr) ++ (wS E t ((iv (hr (stepn A i.toNat)))) ((iv (pe (stepn A i.toNat)))) (g1, g2, g3, g4, g5, g6, g7, g8, g9) ++ (wX E x ((iv (tn))) ((e1)) ((e2)) ((e3)) ((e4)) tp ++ (wH E (q 0) ((iv (bq 0))) ((iv (sq 0))) c0 ++ (wH E (q 1) ((iv (bq 1))) ((iv (sq 1))) c1 ++ (wH E (q 2) ((iv (bq 2))) ((iv (sq 2))) c2 ++ (wH E (q 3) ((iv (bq 3))) ((iv (sq 3))) c3 ++ []))))))))) := h
            have e9 : q_brown A ph px pv = ((-1000000004), A, (bump ph 3)) := by unfold q_brown; rw [if_neg (by omega), if_pos (by omega)]; rfl
            exact ret _ _ _ _ _ (((iv (ik)), fd3), ((hk), (nk), (k1, k2, k3, k4, k5, k6, k7, k8, k9)), ((iv (hr A)), (iv (pe A)), (xs, xi, xk, xc, xl, xr, xb, yl, yr)), ((iv (hr (stepn A i.toNat))), (iv (pe (stepn A i.toNat))), (g1, g2, g3, g4, g5, g6, g7, g8, g9)), ((iv (tn)), (e1), (e2), (e3), (e4), tp), ((iv (bq 0)), (iv (sq 0)), c0), ((iv (bq 1)), (iv (sq 1)), c1), ((iv (bq 2)), (iv (sq 2)), c2), ((iv (bq 3)), (iv (sq 3)), c3)) h (by rw [e9]; exact ⟨rfl, ⟨rfl, rfl, hR, hI, hr9⟩, hK, hF3, hT, hB⟩) dX4_brown_72
          · refine lv_aload_n X.1 X.2.1 dX4_brown_39 rfl (lv_at hl 0 rfl) ?_
            refine z_get X h 3 0 1 rfl inX4 rfl (by decide) fl_X4_16 rfl dX4_brown_40 ?_
            refine lv_iload_n X.1 X.2.1 dX4_brown_43 rfl (lv_at hl 1 rfl) ?_
            refine z_pi (run_V (rest := []) X (st_in (st_in (st_in (st_nil h)))) (c_X1_brownOf (p := px) hv (stepn_IA hI i.toNat) (by omega) (by omega)) mi_X1_brownOf ml_X4_128 ⟨Nat.le_of_ble_eq_true rfl, Nat.le_of_ble_eq_true rfl⟩ ⟨rfl, rfl⟩ (Seg.mk' _ _) 1 23 rfl rfl rfl rfl hl.1 rfl (Nat.le_of_ble_eq_true rfl) ⟨Nat.zero_le _, Nat.zero_le _⟩ dX4_brown_44) ?_
            refine lv_iload_n X.1 X.2.1 dX4_brown_47 rfl (lv_at hl 2 rfl) ?_
            refine z_ic_lt (tgt := 53) X ⟨by omega, by omega⟩ r_pv dX4_brown_48 (by decide) (fun c_48 => ?_) (fun c_48 => ?_)
            · refine lv_aload_n X.1 X.2.1 dX4_brown_53 rfl (lv_at hl 0 rfl) ?_
              refine z_get X h 3 0 1 rfl inX4 rfl (by decide) fl_X4_16 rfl dX4_brown_54 ?_
              refine z_wv (st_in (st_in (st_in (st_nil h)))) (run_V (rest := []) X (st_in (st_in (st_in (st_nil h)))) (c_X1_passHour hv (stepn_IA hI i.toNat) (show hr (stepn A i.toNat) < 1000000 by rw [stepn_hr]; omega)) mi_X1_passHour ml_X4_153 ⟨Nat.le_of_ble_eq_true rfl, Nat.le_of_ble_eq_true rfl⟩ ⟨rfl, rfl⟩ (Seg.mk' _ _) 1 23 rfl rfl rfl rfl hl.1 rfl (Nat.le_of_ble_eq_true rfl) ⟨Nat.zero_le _, Nat.zero_le _⟩ dX4_brown_57) (fun _ => wS_map _ _ _ _ _ _ _ _) (fun u H locs hp h => ?_)
              have h := (st_lin (st_out (st_out (st_out h))))
              obtain ⟨z0_4, z1_4, z2_4, z3_4, z4_4, z5_4, z6_4, z7_4, z8_4⟩ := u
              have h : St E _ s H locs (wO E a k b t x q ((iv (ik))) fd ++ (wS E k ((hk)) ((nk)) (k1, k2, k3, k4, k5, k6, k7, k8, k9) ++ (wS E b ((iv (hr A))) ((iv (pe A))) (xs, xi, xk, xc, xl, xr, xb, yl, yr) ++ (wS E t ((iv (hr (step (stepn A i.toNat))))) ((iv (pe (step (stepn A i.toNat))))) (z0_4, z1_4, z2_4, z3_4, z4_4, z5_4, z6_4, z7_4, z8_4) ++ (wX E x ((iv (tn))) ((e1)) ((e2)) ((e3)) ((e4)) tp ++ (wH E (q 0) ((iv (bq 0))) ((iv (sq 0))) c0 ++ (wH E (q 1) ((iv (bq 1))) ((iv (sq 1))) c1 ++ (wH E (q 2) ((iv (bq 2))) ((iv (sq 2))) c2 ++ (wH E (q 3) ((iv (bq 3))) ((iv (sq 3))) c3 ++ []))))))))) := h
              have hR4 : RS (z0_4, z1_4, z2_4, z3_4, z4_4, z5_4, z6_4, z7_4, z8_4) (step (stepn A i.toNat)) := hp
              have es : step (stepn A i.toNat) = stepn A (i + 1).toNat := by rw [tn1 (by omega)]; rfl
              have h : St E (wO E a k b t x q ((iv (ik))) fd ++ (wS E k ((hk)) ((nk)) (k1, k2, k3, k4, k5, k6, k7, k8, k9) ++ (wS E b ((iv (hr A))) ((iv (pe A))) (xs, xi, xk, xc, xl, xr, xb, yl, yr) ++ (wS E t ((ht)) ((nt)) (t1, t2, t3, t4, t5, t6, t7, t8, t9) ++ (wX E x ((iv (tn))) ((e1)) ((e2)) ((e3)) ((e4)) tp ++ (wH E (q 0) ((iv (bq 0))) ((iv (sq 0))) c0 ++ (wH E (q 1) ((iv (bq 1))) ((iv (sq 1))) c1 ++ (wH E (q 2) ((iv (bq 2))) ((iv (sq 2))) c2 ++ (wH E (q 3) ((iv (bq 3))) ((iv (sq 3))) c3 ++ []))))))))) s H locs (wO E a k b t x q ((iv (ik))) fd ++ (wS E k ((hk)) ((nk)) (k1, k2, k3, k4, k5, k6, k7, k8, k9) ++ (wS E b ((iv (hr A))) ((iv (pe A))) (xs, xi, xk, xc, xl, xr, xb, yl, yr) ++ (wS E t ((iv (hr (stepn A (i + 1).toNat)))) ((iv (pe (stepn A (i + 1).toNat)))) (z0_4, z1_4, z2_4, z3_4, z4_4, z5_4, z6_4, z7_4, z8_4) ++ (wX E x ((iv (tn))) ((e1)) ((e2)) ((e3)) ((e4)) tp ++ (wH E (q 0) ((iv (bq 0))) ((iv (sq 0))) c0 ++ (wH E (q 1) ((iv (bq 1))) ((iv (sq 1))) c1 ++ (wH E (q 2) ((iv (bq 2))) ((iv (sq 2))) c2 ++ (wH E (q 3) ((iv (bq 3))) ((iv (sq 3))) c3 ++ []))))))))) := by rw [← es]; exact h
              have tR9 : RS (z0_4, z1_4, z2_4, z3_4, z4_4, z5_4, z6_4, z7_4, z8_4) (stepn A (i + 1).toNat) := by rw [← es]; exact hR4
              refine z_iinc (k := 3) (lv' := [(3, .int (iv (i + 1))), (0, .ref (a 0)), (1, .int (iv (px))), (2, .int (iv (pv)))]) X dX4_brown_60 hl rfl (by decide) rfl (fun ls hl => ?_)
              refine lv_goto (tgt := 32) X.1 X.2.1 dX4_brown_63 (by decide) ?_
              exact ih (i + 1) (z0_4) (z1_4) (z2_4) (z3_4) (z4_4) (z5_4) (z6_4) (z7_4) (z8_4) (by omega) (by omega) (tR9) (by rw [hf, tn1 (by omega), show 201 - i.toNat = (201 - (i.toNat + 1)) + 1 by omega]; exact fnd_no (by simp only [pBrown, decide_eq_true_eq]; omega)) (by omega) _ _ h ls (lv_sub hl [1, 2, 3, 0] rfl)
            · have hx : fnd (pBrown A px pv) 0 201 = i.toNat := by rw [hf, show 201 - i.toNat = (201 - (i.toNat + 1)) + 1 by omega]; exact fnd_yes (by simp only [pBrown, decide_eq_true_eq]; omega)
              refine lv_iload_n X.1 X.2.1 dX4_brown_51 rfl (lv_at hl 3 rfl) ?_
              have e9 : q_brown A ph px pv = (i, A, ph) := by unfold q_brown; rw [if_neg (by omega), if_neg (by omega), hx, tnc (by omega)]
              exact ret _ _ _ _ _ (((iv (ik)), fd), ((hk), (nk), (k1, k2, k3, k4, k5, k6, k7, k8, k9)), ((iv (hr A)), (iv (pe A)), (xs, xi, xk, xc, xl, xr, xb, yl, yr)), ((iv (hr (stepn A i.toNat))), (iv (pe (stepn A i.toNat))), (g1, g2, g3, g4, g5, g6, g7, g8, g9)), ((iv (tn)), (e1), (e2), (e3), (e4), tp), ((iv (bq 0)), (iv (sq 0)), c0), ((iv (bq 1)), (iv (sq 1)), c1), ((iv (bq 2)), (iv (sq 2)), c2), ((iv (bq 3)), (iv (sq 3)), c3)) h (by rw [e9]; exact ⟨rfl, ⟨rfl, rfl, hR, hI, hr9⟩, hK, hF, hT, hB⟩) dX4_brown_52
      exact L32 ((201 - (0) : Int).toNat + 1) (0) (r0_2) (r1_2) (r2_2) (r3_2) (r4_2) (r5_2) (r6_2) (r7_2) (r8_2) (by omega) (by omega) (hRb2) (rfl) (by omega) _ _ h ls (lv_sub hl [1, 2, 3, 0] rfl)
    · refine lv_aload_n X.1 X.2.1 dX4_brown_19 rfl (lv_at hl 0 rfl) ?_
      refine z_ldc (z := (-1000000001)) X ct_X4_48 (by decide) dX4_brown_20 ?_
      refine z_wi (st_sing (st_nil h)) (run_V (rest := []) X (st_sing (st_nil h)) (c_X4_finding (j := 0) hF (by decide) (by decide) (by decide)) mi_X4_finding ml_X4_49 ⟨Nat.le_of_ble_eq_true rfl, Nat.le_of_ble_eq_true rfl⟩ ⟨rfl, rfl⟩ (Seg.mk' _ _) 3 0 rfl rfl rfl rfl hl.1 rfl (Nat.le_of_ble_eq_true rfl) ⟨Nat.zero_le _, Nat.zero_le _⟩ dX4_brown_22) (fun _ => map_app (wO_map _ _ _ _ _ _ _ _ _ _ _) rfl) (fun r fd5 H locs hp h => ?_)
      have h := (st_lin (st_gnis h))
      obtain ⟨rfl, hF5⟩ := hp
      have h : St E _ s H locs (wO E a k b t x q ((iv (ik))) fd5 ++ (wS E k ((hk)) ((nk)) (k1, k2, k3, k4, k5, k6, k7, k8, k9) ++ (wS E b ((iv (hr A))) ((iv (pe A))) (xs, xi, xk, xc, xl, xr, xb, yl, yr) ++ (wS E t ((ht)) ((nt)) (t1, t2, t3, t4, t5, t6, t7, t8, t9) ++ (wX E x ((iv (tn))) ((e1)) ((e2)) ((e3)) ((e4)) tp ++ (wH E (q 0) ((iv (bq 0))) ((iv (sq 0))) c0 ++ (wH E (q 1) ((iv (bq 1))) ((iv (sq 1))) c1 ++ (wH E (q 2) ((iv (bq 2))) ((iv (sq 2))) c2 ++ (wH E (q 3) ((iv (bq 3))) ((iv (sq 3))) c3 ++ []))))))))) := h
      have e9 : q_brown A ph px pv = ((-1000000001), A, (bump ph 0)) := by unfold q_brown; (repeat (first | rw [if_pos (by omega)] | rw [if_neg (by omega)])); try rfl
      exact ret _ _ _ _ _ (((iv (ik)), fd5), ((hk), (nk), (k1, k2, k3, k4, k5, k6, k7, k8, k9)), ((iv (hr A)), (iv (pe A)), (xs, xi, xk, xc, xl, xr, xb, yl, yr)), ((ht), (nt), (t1, t2, t3, t4, t5, t6, t7, t8, t9)), ((iv (tn)), (e1), (e2), (e3), (e4), tp), ((iv (bq 0)), (iv (sq 0)), c0), ((iv (bq 1)), (iv (sq 1)), c1), ((iv (bq 2)), (iv (sq 2)), c2), ((iv (bq 3)), (iv (sq 3)), c3)) h (by rw [e9]; exact ⟨rfl, ⟨rfl, rfl, hR, hI, hr9⟩, hK, hF5, hT, hB⟩) dX4_brown_25

set_option maxHeartbeats 4000000 in
theorem c_X4_even (hS : RepC (((iv (ik)), fd), ((hk), (nk), (k1, k2, k3, k4, k5, k6, k7, k8, k9)), ((iv (hr A)), (iv (pe A)), (xs, xi, xk, xc, xl, xr, xb, yl, yr)), ((ht), (nt), (t1, t2, t3, t4, t5, t6, t7, t8, t9)), ((iv (tn)), (e1), (e2), (e3), (e4), tp), ((iv (bq 0)), (iv (sq 0)), c0), ((iv (bq 1)), (iv (sq 1)), c1), ((iv (bq 2)), (iv (sq 2)), c2), ((iv (bq 3)), (iv (sq 3)), c3)) (A, K, ik, ph, tq, tn, bq, sq, cq)) {px : Int} (r_px : r32 px) : MI (S := Tc) E l yX4_even cX4_even 3 (some FieldType.int) (rmk 4 89) (wO E a k b t x q ((iv (ik))) fd ++ (wS E k ((hk)) ((nk)) (k1, k2, k3, k4, k5, k6, k7, k8, k9) ++ (wS E b ((iv (hr A))) ((iv (pe A))) (xs, xi, xk, xc, xl, xr, xb, yl, yr) ++ (wS E t ((ht)) ((nt)) (t1, t2, t3, t4, t5, t6, t7, t8, t9) ++ (wX E x ((iv (tn))) ((e1)) ((e2)) ((e3)) ((e4)) tp ++ (wH E (q 0) ((iv (bq 0))) ((iv (sq 0))) c0 ++ (wH E (q 1) ((iv (bq 1))) ((iv (sq 1))) c1 ++ (wH E (q 2) ((iv (bq 2))) ((iv (sq 2))) c2 ++ (wH E (q 3) ((iv (bq 3))) ((iv (sq 3))) c3 ++ []))))))))) [.ref (a 0), .int (iv (px))] (fun r u => r = iv (q_even A ph px).1 ∧ RepC u ((q_even A ph px).2.1, K, ik, (q_even A ph px).2.2, tq, tn, bq, sq, cq)) (fun u => wT E a k b t x q u) := by
  refine goI (S := Tc) (post := fun r u => r = iv (q_even A ph px).1 ∧ RepC u ((q_even A ph px).2.1, K, ik, (q_even A ph px).2.2, tq, tn, bq, sq, cq)) (ws' := fun u => wT E a k b t x q u) (by decide) (Nat.le_of_ble_eq_true rfl) ?_
  intro pp e s m below meth c ls args Q ret X h hl
  have hl : lv_has ls 3 [(0, .ref (a 0)), (1, .int (iv (px)))] := hl
  have hR : RS (xs, xi, xk, xc, xl, xr, xb, yl, yr) A := hS.1.2.2.1
  have hI : IA A := hS.1.2.2.2.1
  have hr9 : hr A ≤ 99999 := hS.1.2.2.2.2
  have hF : RF 7 fd ph := hS.2.2.1
  have hK := hS.2.1
  have hT := hS.2.2.2.1
  have hB := hS.2.2.2.2
  have hh : hr A < 1000000 := by omega
  have n8 := hI.n8
  have n0 := hI.n0
  have h0 := hI.h0
  refine lv_aload_n X.1 X.2.1 dX4_even_0 rfl (lv_at hl 0 rfl) ?_
  refine lv_iload_n X.1 X.2.1 dX4_even_1 rfl (lv_at hl 1 rfl) ?_
  refine z_pi (run_V (rest := []) X h (c_X4_isPerson (p := px) hI r_px) mi_X4_isPerson ml_X4_94 ⟨Nat.le_of_ble_eq_true rfl, Nat.le_of_ble_eq_true rfl⟩ ⟨rfl, rfl⟩ (Seg.rfl' _) 3 0 rfl rfl rfl rfl hl.1 rfl (Nat.le_of_ble_eq_true rfl) ⟨Nat.zero_le _, Nat.zero_le _⟩ dX4_even_2) ?_
  refine z_ifb_ne (tgt := 15) X dX4_even_5 (by decide) (fun c_5 => ?_) (fun c_5 => ?_)
  · refine lv_aload_n X.1 X.2.1 dX4_even_15 rfl (lv_at hl 0 rfl) ?_
    refine z_av h (run_V (rest := []) X h (c_X4_startTrial hR hI.n8) mi_X4_startTrial ml_X4_150 ⟨Nat.le_of_ble_eq_true rfl, Nat.le_of_ble_eq_true rfl⟩ ⟨rfl, rfl⟩ (Seg.rfl' _) 3 0 rfl rfl rfl rfl hl.1 rfl (Nat.le_of_ble_eq_true rfl) ⟨Nat.zero_le _, Nat.zero_le _⟩ dX4_even_16) (fun _ => map_app rfl (map_app rfl (map_app rfl (map_app (wS_map _ _ _ _ _ _ _ _) rfl)))) (fun u H locs hp h => ?_)
    obtain ⟨r0_1, r1_1, r2_1, r3_1, r4_1, r5_1, r6_1, r7_1, r8_1⟩ := u
    have h : St E _ s H locs (wO E a k b t x q ((iv (ik))) fd ++ (wS E k ((hk)) ((nk)) (k1, k2, k3, k4, k5, k6, k7, k8, k9) ++ (wS E b ((iv (hr A))) ((iv (pe A))) (xs, xi, xk, xc, xl, xr, xb, yl, yr) ++ (wS E t ((iv (hr A))) ((iv (pe A))) (r0_1, r1_1, r2_1, r3_1, r4_1, r5_1, r6_1, r7_1, r8_1) ++ (wX E x ((iv (tn))) ((e1)) ((e2)) ((e3)) ((e4)) tp ++ (wH E (q 0) ((iv (bq 0))) ((iv (sq 0))) c0 ++ (wH E (q 1) ((iv (bq 1))) ((iv (sq 1))) c1 ++ (wH E (q 2) ((iv (bq 2))) ((iv (sq 2))) c2 ++ (wH E (q 3) ((iv (bq 3))) ((iv (sq 3))) c3 ++ []))))))))) := h
    have hRb1 : RS (r0_1, r1_1, r2_1, r3_1, r4_1, r5_1, r6_1, r7_1, r8_1) A := hp
    refine z_iconst X dX4_even_19 ?_
    refine lv_istore_n (lv' := [(2, .int (iv (0))), (0, .ref (a 0)), (1, .int (iv (px)))]) X.1 X.2.1 dX4_even_20 rfl hl (by decide) rfl (fun ls hl => ?_)
    have L21 : ∀ (fuel_ : Nat) (i : Int) (g1 : Nat → Int32) (g2 : Nat → Int32) (g3 : Nat → Int32) (g4 : Nat → Int32) (g5 : Nat → Int32) (g6 : Nat → Int32) (g7 : Nat → Int32) (g8 : Nat → Int32) (g9 : Nat → Int32), (0 ≤ i) → (i ≤ 201) → (RS (g1, g2, g3, g4, g5, g6, g7, g8, g9) (stepn A i.toNat)) → (fnd (pEven A px) 0 201 = fnd (pEven A px) i.toNat (201 - i.toNat)) → 201 - i < (fuel_ : Int) → ∀ (H : Heap) (locs : List Loc), St E (wO E a k b t x q ((iv (ik))) fd ++ (wS E k ((hk)) ((nk)) (k1, k2, k3, k4, k5, k6, k7, k8, k9) ++ (wS E b ((iv (hr A))) ((iv (pe A))) (xs, xi, xk, xc, xl, xr, xb, yl, yr) ++ (wS E t ((ht)) ((nt)) (t1, t2, t3, t4, t5, t6, t7, t8, t9) ++ (wX E x ((iv (tn))) ((e1)) ((e2)) ((e3)) ((e4)) tp ++ (wH E (q 0) ((iv (bq 0))) ((iv (sq 0))) c0 ++ (wH E (q 1) ((iv (bq 1))) ((iv (sq 1))) c1 ++ (wH E (q 2) ((iv (bq 2))) ((iv (sq 2))) c2 ++ (wH E (q 3) ((iv (bq 3))) ((iv (sq 3))) c3 ++ []))))))))) s H locs (wO E a k b t x q ((iv (ik))) fd ++ (wS E k ((hk)) ((nk)) (k1, k2, k3, k4, k5, k6, k7, k8, k9) ++ (wS E b ((iv (hr A))) ((iv (pe A))) (xs, xi, xk, xc, xl, xr, xb, yl, yr) ++ (wS E t ((iv (hr (stepn A i.toNat)))) ((iv (pe (stepn A i.toNat)))) (g1, g2, g3, g4, g5, g6, g7, g8, g9) ++ (wX E x ((iv (tn))) ((e1)) ((e2)) ((e3)) ((e4)) tp ++ (wH E (q 0) ((iv (bq 0))) ((iv (sq 0))) c0 ++ (wH E (q 1) ((iv (bq 1))) ((iv (sq 1))) c1 ++ (wH E (q 2) ((iv (bq 2))) ((iv (sq 2))) c2 ++ (wH E (q 3) ((iv (bq 3))) ((iv (sq 3))) c3 ++ []))))))))) → ∀ ls : Array Slot, lv_has ls 3 [(0, .ref (a 0)), (1, .int (iv (px))), (2, .int (iv (i)))] → W pp l e (rmk 4 89) s m args below meth c H locs 0 0 Q (F0 m 21 ls []) := by
      intro fuel_
      induction fuel_ with
      | zero =>
        intro i g1 g2 g3 g4 g5 g6 g7 g8 g9 i0 i1 hv hf hn
        exfalso; omega
      | succ fuel_ ih =>
        intro i g1 g2 g3 g4 g5 g6 g7 g8 g9 i0 i1 hv hf hn H locs h ls hl
        have pm : pe (stepn A i.toNat) = pe A := stepn_pe _ _
        have bR := brnn_rng hI i.toNat (p := px) (by omega) (by omega)
        refine lv_iload_n X.1 X.2.1 dX4_even_21 rfl (lv_at hl 2 rfl) ?_
        refine z_sipush X (by decide) dX4_even_22 ?_
        refine z_ic_gt (tgt := 54) X ⟨by omega, by omega⟩ ⟨by decide, by decide⟩ dX4_even_25 (by decide) (fun c_25 => ?_) (fun c_25 => ?_)
        · have hx : fnd (pEven A px) 0 201 = i.toNat := by rw [hf, show 201 - i.toNat = 0 by omega]; rfl
          have sr9 := i0
          refine lv_aload_n X.1 X.2.1 dX4_even_54 rfl (lv_at hl 0 rfl) ?_
          refine z_ldc (z := (-1000000004)) X ct_X4_156 (by decide) dX4_even_55 ?_
          refine z_wi (st_sing (st_nil h)) (run_V (rest := []) X (st_sing (st_nil h)) (c_X4_finding (j := 3) hF (by decide) (by decide) (by decide)) mi_X4_finding ml_X4_49 ⟨Nat.le_of_ble_eq_true rfl, Nat.le_of_ble_eq_true rfl⟩ ⟨rfl, rfl⟩ (Seg.mk' _ _) 3 0 rfl rfl rfl rfl hl.1 rfl (Nat.le_of_ble_eq_true rfl) ⟨Nat.zero_le _, Nat.zero_le _⟩ dX4_even_57) (fun _ => map_app (wO_map _ _ _ _ _ _ _ _ _ _ _) rfl) (fun r fd2 H locs hp h => ?_)
          have h := (st_lin (st_gnis h))
          obtain ⟨rfl, hF2⟩ := hp
          have h : St E _ s H locs (wO E a k b t x q ((iv (ik))) fd2 ++ (wS E k ((hk)) ((nk)) (k1, k2, k3, k4, k5, k6, k7, k8, k9) ++ (wS E b ((iv (hr A))) ((iv (pe A))) (xs, xi, xk, xc, xl, xr, xb, yl, yr) ++ (wS E t ((iv (hr (stepn A i.toNat)))) ((iv (pe (stepn A i.toNat)))) (g1, g2, g3, g4, g5, g6, g7, g8, g9) ++ (wX E x ((iv (tn))) ((e1)) ((e2)) ((e3)) ((e4)) tp ++ (wH E (q 0) ((iv (bq 0))) ((iv (sq 0))) c0 ++ (wH E (q 1) ((iv (bq 1))) ((iv (sq 1))) c1 ++ (wH E (q 2) ((iv (bq 2))) ((iv (sq 2))) c2 ++ (wH E (q 3) ((iv (bq 3))) ((iv (sq 3))) c3 ++ []))))))))) := h
          have e9 : q_even A ph px = ((-1000000004), A, (bump ph 3)) := by unfold q_even; rw [if_neg (by omega), if_pos (by omega)]; rfl
          exact ret _ _ _ _ _ (((iv (ik)), fd2), ((hk), (nk), (k1, k2, k3, k4, k5, k6, k7, k8, k9)), ((iv (hr A)), (iv (pe A)), (xs, xi, xk, xc, xl, xr, xb, yl, yr)), ((iv (hr (stepn A i.toNat))), (iv (pe (stepn A i.toNat))), (g1, g2, g3, g4, g5, g6, g7, g8, g9)), ((iv (tn)), (e1), (e2), (e3), (e4), tp), ((iv (bq 0)), (iv (sq 0)), c0), ((iv (bq 1)), (iv (sq 1)), c1), ((iv (bq 2)), (iv (sq 2)), c2), ((iv (bq 3)), (iv (sq 3)), c3)) h (by rw [e9]; exact ⟨rfl, ⟨rfl, rfl, hR, hI, hr9⟩, hK, hF2, hT, hB⟩) dX4_even_60
        · refine lv_aload_n X.1 X.2.1 dX4_even_28 rfl (lv_at hl 0 rfl) ?_
          refine z_get X h 3 0 1 rfl inX4 rfl (by decide) fl_X4_16 rfl dX4_even_29 ?_
          refine lv_iload_n X.1 X.2.1 dX4_even_32 rfl (lv_at hl 1 rfl) ?_
          refine z_pi (run_V (rest := []) X (st_in (st_in (st_in (st_nil h)))) (c_X1_isEven (p := px) hv (stepn_IA hI i.toNat) (by omega) (by omega)) mi_X1_isEven ml_X4_157 ⟨Nat.le_of_ble_eq_true rfl, Nat.le_of_ble_eq_true rfl⟩ ⟨rfl, rfl⟩ (Seg.mk' _ _) 1 23 rfl rfl rfl rfl hl.1 rfl (Nat.le_of_ble_eq_true rfl) ⟨Nat.zero_le _, Nat.zero_le _⟩ dX4_even_33) ?_
          refine z_ifb_eq (tgt := 41) X dX4_even_36 (by decide) (fun c_36 => ?_) (fun c_36 => ?_)
          · refine lv_aload_n X.1 X.2.1 dX4_even_41 rfl (lv_at hl 0 rfl) ?_
            refine z_get X h 3 0 1 rfl inX4 rfl (by decide) fl_X4_16 rfl dX4_even_42 ?_
            refine z_wv (st_in (st_in (st_in (st_nil h)))) (run_V (rest := []) X (st_in (st_in (st_in (st_nil h)))) (c_X1_passHour hv (stepn_IA hI i.toNat) (show hr (stepn A i.toNat) < 1000000 by rw [stepn_hr]; omega)) mi_X1_passHour ml_X4_153 ⟨Nat.le_of_ble_eq_true rfl, Nat.le_of_ble_eq_true rfl⟩ ⟨rfl, rfl⟩ (Seg.mk' _ _) 1 23 rfl rfl rfl rfl hl.1 rfl (Nat.le_of_ble_eq_true rfl) ⟨Nat.zero_le _, Nat.zero_le _⟩ dX4_even_45) (fun _ => wS_map _ _ _ _ _ _ _ _) (fun u H locs hp h => ?_)
            have h := (st_lin (st_out (st_out (st_out h))))
            obtain ⟨z0_3, z1_3, z2_3, z3_3, z4_3, z5_3, z6_3, z7_3, z8_3⟩ := u
            have h : St E _ s H locs (wO E a k b t x q ((iv (ik))) fd ++ (wS E k ((hk)) ((nk)) (k1, k2, k3, k4, k5, k6, k7, k8, k9) ++ (wS E b ((iv (hr A))) ((iv (pe A))) (xs, xi, xk, xc, xl, xr, xb, yl, yr) ++ (wS E t ((iv (hr (step (stepn A i.toNat))))) ((iv (pe (step (stepn A i.toNat))))) (z0_3, z1_3, z2_3, z3_3, z4_3, z5_3, z6_3, z7_3, z8_3) ++ (wX E x ((iv (tn))) ((e1)) ((e2)) ((e3)) ((e4)) tp ++ (wH E (q 0) ((iv (bq 0))) ((iv (sq 0))) c0 ++ (wH E (q 1) ((iv (bq 1))) ((iv (sq 1))) c1 ++ (wH E (q 2) ((iv (bq 2))) ((iv (sq 2))) c2 ++ (wH E (q 3) ((iv (bq 3))) ((iv (sq 3))) c3 ++ []))))))))) := h
            have hR3 : RS (z0_3, z1_3, z2_3, z3_3, z4_3, z5_3, z6_3, z7_3, z8_3) (step (stepn A i.toNat)) := hp
            have es : step (stepn A i.toNat) = stepn A (i + 1).toNat := by rw [tn1 (by omega)]; rfl
            have h : St E (wO E a k b t x q ((iv (ik))) fd ++ (wS E k ((hk)) ((nk)) (k1, k2, k3, k4, k5, k6, k7, k8, k9) ++ (wS E b ((iv (hr A))) ((iv (pe A))) (xs, xi, xk, xc, xl, xr, xb, yl, yr) ++ (wS E t ((ht)) ((nt)) (t1, t2, t3, t4, t5, t6, t7, t8, t9) ++ (wX E x ((iv (tn))) ((e1)) ((e2)) ((e3)) ((e4)) tp ++ (wH E (q 0) ((iv (bq 0))) ((iv (sq 0))) c0 ++ (wH E (q 1) ((iv (bq 1))) ((iv (sq 1))) c1 ++ (wH E (q 2) ((iv (bq 2))) ((iv (sq 2))) c2 ++ (wH E (q 3) ((iv (bq 3))) ((iv (sq 3))) c3 ++ []))))))))) s H locs (wO E a k b t x q ((iv (ik))) fd ++ (wS E k ((hk)) ((nk)) (k1, k2, k3, k4, k5, k6, k7, k8, k9) ++ (wS E b ((iv (hr A))) ((iv (pe A))) (xs, xi, xk, xc, xl, xr, xb, yl, yr) ++ (wS E t ((iv (hr (stepn A (i + 1).toNat)))) ((iv (pe (stepn A (i + 1).toNat)))) (z0_3, z1_3, z2_3, z3_3, z4_3, z5_3, z6_3, z7_3, z8_3) ++ (wX E x ((iv (tn))) ((e1)) ((e2)) ((e3)) ((e4)) tp ++ (wH E (q 0) ((iv (bq 0))) ((iv (sq 0))) c0 ++ (wH E (q 1) ((iv (bq 1))) ((iv (sq 1))) c1 ++ (wH E (q 2) ((iv (bq 2))) ((iv (sq 2))) c2 ++ (wH E (q 3) ((iv (bq 3))) ((iv (sq 3))) c3 ++ []))))))))) := by rw [← es]; exact h
            have tR9 : RS (z0_3, z1_3, z2_3, z3_3, z4_3, z5_3, z6_3, z7_3, z8_3) (stepn A (i + 1).toNat) := by rw [← es]; exact hR3
            refine z_iinc (k := 2) (lv' := [(2, .int (iv (i + 1))), (0, .ref (a 0)), (1, .int (iv (px)))]) X dX4_even_48 hl rfl (by decide) rfl (fun ls hl => ?_)
            refine lv_goto (tgt := 21) X.1 X.2.1 dX4_even_51 (by decide) ?_
            exact ih (i + 1) (z0_3) (z1_3) (z2_3) (z3_3) (z4_3) (z5_3) (z6_3) (z7_3) (z8_3) (by omega) (by omega) (tR9) (by rw [hf, tn1 (by omega), show 201 - i.toNat = (201 - (i.toNat + 1)) + 1 by omega]; exact fnd_no (by assumption)) (by omega) _ _ h ls (lv_sub hl [1, 2, 0] rfl)
          · have hx : fnd (pEven A px) 0 201 = i.toNat := by rw [hf, show 201 - i.toNat = (201 - (i.toNat + 1)) + 1 by omega]; exact fnd_yes (by assumption)
            refine lv_iload_n X.1 X.2.1 dX4_even_39 rfl (lv_at hl 2 rfl) ?_
            have e9 : q_even A ph px = (i, A, ph) := by unfold q_even; rw [if_neg (by omega), if_neg (by omega), hx, tnc (by omega)]
            exact ret _ _ _ _ _ (((iv (ik)), fd), ((hk), (nk), (k1, k2, k3, k4, k5, k6, k7, k8, k9)), ((iv (hr A)), (iv (pe A)), (xs, xi, xk, xc, xl, xr, xb, yl, yr)), ((iv (hr (stepn A i.toNat))), (iv (pe (stepn A i.toNat))), (g1, g2, g3, g4, g5, g6, g7, g8, g9)), ((iv (tn)), (e1), (e2), (e3), (e4), tp), ((iv (bq 0)), (iv (sq 0)), c0), ((iv (bq 1)), (iv (sq 1)), c1), ((iv (bq 2)), (iv (sq 2)), c2), ((iv (bq 3)), (iv (sq 3)), c3)) h (by rw [e9]; exact ⟨rfl, ⟨rfl, rfl, hR, hI, hr9⟩, hK, hF, hT, hB⟩) dX4_even_40
    exact L21 ((201 - (0) : Int).toNat + 1) (0) (r0_1) (r1_1) (r2_1) (r3_1) (r4_1) (r5_1) (r6_1) (r7_1) (r8_1) (by omega) (by omega) (hRb1) (rfl) (by omega) _ _ h ls (lv_sub hl [1, 2, 0] rfl)
  · refine lv_aload_n X.1 X.2.1 dX4_even_8 rfl (lv_at hl 0 rfl) ?_
    refine z_ldc (z := (-1000000001)) X ct_X4_48 (by decide) dX4_even_9 ?_
    refine z_wi (st_sing (st_nil h)) (run_V (rest := []) X (st_sing (st_nil h)) (c_X4_finding (j := 0) hF (by decide) (by decide) (by decide)) mi_X4_finding ml_X4_49 ⟨Nat.le_of_ble_eq_true rfl, Nat.le_of_ble_eq_true rfl⟩ ⟨rfl, rfl⟩ (Seg.mk' _ _) 3 0 rfl rfl rfl rfl hl.1 rfl (Nat.le_of_ble_eq_true rfl) ⟨Nat.zero_le _, Nat.zero_le _⟩ dX4_even_11) (fun _ => map_app (wO_map _ _ _ _ _ _ _ _ _ _ _) rfl) (fun r fd4 H locs hp h => ?_)
    have h := (st_lin (st_gnis h))
    obtain ⟨rfl, hF4⟩ := hp
    have h : St E _ s H locs (wO E a k b t x q ((iv (ik))) fd4 ++ (wS E k ((hk)) ((nk)) (k1, k2, k3, k4, k5, k6, k7, k8, k9) ++ (wS E b ((iv (hr A))) ((iv (pe A))) (xs, xi, xk, xc, xl, xr, xb, yl, yr) ++ (wS E t ((ht)) ((nt)) (t1, t2, t3, t4, t5, t6, t7, t8, t9) ++ (wX E x ((iv (tn))) ((e1)) ((e2)) ((e3)) ((e4)) tp ++ (wH E (q 0) ((iv (bq 0))) ((iv (sq 0))) c0 ++ (wH E (q 1) ((iv (bq 1))) ((iv (sq 1))) c1 ++ (wH E (q 2) ((iv (bq 2))) ((iv (sq 2))) c2 ++ (wH E (q 3) ((iv (bq 3))) ((iv (sq 3))) c3 ++ []))))))))) := h
    have e9 : q_even A ph px = ((-1000000001), A, (bump ph 0)) := by unfold q_even; (repeat (first | rw [if_pos (by omega)] | rw [if_neg (by omega)])); try rfl
    exact ret _ _ _ _ _ (((iv (ik)), fd4), ((hk), (nk), (k1, k2, k3, k4, k5, k6, k7, k8, k9)), ((iv (hr A)), (iv (pe A)), (xs, xi, xk, xc, xl, xr, xb, yl, yr)), ((ht), (nt), (t1, t2, t3, t4, t5, t6, t7, t8, t9)), ((iv (tn)), (e1), (e2), (e3), (e4), tp), ((iv (bq 0)), (iv (sq 0)), c0), ((iv (bq 1)), (iv (sq 1)), c1), ((iv (bq 2)), (iv (sq 2)), c2), ((iv (bq 3)), (iv (sq 3)), c3)) h (by rw [e9]; exact ⟨rfl, ⟨rfl, rfl, hR, hI, hr9⟩, hK, hF4, hT, hB⟩) dX4_even_14

set_option maxHeartbeats 4000000 in
theorem c_X4_burns (hS : RepC (((iv (ik)), fd), ((hk), (nk), (k1, k2, k3, k4, k5, k6, k7, k8, k9)), ((iv (hr A)), (iv (pe A)), (xs, xi, xk, xc, xl, xr, xb, yl, yr)), ((ht), (nt), (t1, t2, t3, t4, t5, t6, t7, t8, t9)), ((iv (tn)), (e1), (e2), (e3), (e4), tp), ((iv (bq 0)), (iv (sq 0)), c0), ((iv (bq 1)), (iv (sq 1)), c1), ((iv (bq 2)), (iv (sq 2)), c2), ((iv (bq 3)), (iv (sq 3)), c3)) (A, K, ik, ph, tq, tn, bq, sq, cq)) {px : Int} (r_px : r32 px) : MI (S := Tc) E l yX4_burns cX4_burns 3 (some FieldType.int) (rmk 4 89) (wO E a k b t x q ((iv (ik))) fd ++ (wS E k ((hk)) ((nk)) (k1, k2, k3, k4, k5, k6, k7, k8, k9) ++ (wS E b ((iv (hr A))) ((iv (pe A))) (xs, xi, xk, xc, xl, xr, xb, yl, yr) ++ (wS E t ((ht)) ((nt)) (t1, t2, t3, t4, t5, t6, t7, t8, t9) ++ (wX E x ((iv (tn))) ((e1)) ((e2)) ((e3)) ((e4)) tp ++ (wH E (q 0) ((iv (bq 0))) ((iv (sq 0))) c0 ++ (wH E (q 1) ((iv (bq 1))) ((iv (sq 1))) c1 ++ (wH E (q 2) ((iv (bq 2))) ((iv (sq 2))) c2 ++ (wH E (q 3) ((iv (bq 3))) ((iv (sq 3))) c3 ++ []))))))))) [.ref (a 0), .int (iv (px))] (fun r u => r = iv (q_burns A ph px).1 ∧ RepC u ((q_burns A ph px).2.1, K, ik, (q_burns A ph px).2.2, tq, tn, bq, sq, cq)) (fun u => wT E a k b t x q u) := by
  refine goI (S := Tc) (post := fun r u => r = iv (q_burns A ph px).1 ∧ RepC u ((q_burns A ph px).2.1, K, ik, (q_burns A ph px).2.2, tq, tn, bq, sq, cq)) (ws' := fun u => wT E a k b t x q u) (by decide) (Nat.le_of_ble_eq_true rfl) ?_
  intro pp e s m below meth c ls args Q ret X h hl
  have hl : lv_has ls 3 [(0, .ref (a 0)), (1, .int (iv (px)))] := hl
  have hR : RS (xs, xi, xk, xc, xl, xr, xb, yl, yr) A := hS.1.2.2.1
  have hI : IA A := hS.1.2.2.2.1
  have hr9 : hr A ≤ 99999 := hS.1.2.2.2.2
  have hF : RF 7 fd ph := hS.2.2.1
  have hK := hS.2.1
  have hT := hS.2.2.2.1
  have hB := hS.2.2.2.2
  have hh : hr A < 1000000 := by omega
  have n8 := hI.n8
  have n0 := hI.n0
  have h0 := hI.h0
  refine lv_aload_n X.1 X.2.1 dX4_burns_0 rfl (lv_at hl 0 rfl) ?_
  refine lv_iload_n X.1 X.2.1 dX4_burns_1 rfl (lv_at hl 1 rfl) ?_
  refine z_pi (run_V (rest := []) X h (c_X4_isPerson (p := px) hI r_px) mi_X4_isPerson ml_X4_94 ⟨Nat.le_of_ble_eq_true rfl, Nat.le_of_ble_eq_true rfl⟩ ⟨rfl, rfl⟩ (Seg.rfl' _) 3 0 rfl rfl rfl rfl hl.1 rfl (Nat.le_of_ble_eq_true rfl) ⟨Nat.zero_le _, Nat.zero_le _⟩ dX4_burns_2) ?_
  refine z_ifb_ne (tgt := 15) X dX4_burns_5 (by decide) (fun c_5 => ?_) (fun c_5 => ?_)
  · refine lv_aload_n X.1 X.2.1 dX4_burns_15 rfl (lv_at hl 0 rfl) ?_
    refine z_av h (run_V (rest := []) X h (c_X4_startTrial hR hI.n8) mi_X4_startTrial ml_X4_150 ⟨Nat.le_of_ble_eq_true rfl, Nat.le_of_ble_eq_true rfl⟩ ⟨rfl, rfl⟩ (Seg.rfl' _) 3 0 rfl rfl rfl rfl hl.1 rfl (Nat.le_of_ble_eq_true rfl) ⟨Nat.zero_le _, Nat.zero_le _⟩ dX4_burns_16) (fun _ => map_app rfl (map_app rfl (map_app rfl (map_app (wS_map _ _ _ _ _ _ _ _) rfl)))) (fun u H locs hp h => ?_)
    obtain ⟨r0_1, r1_1, r2_1, r3_1, r4_1, r5_1, r6_1, r7_1, r8_1⟩ := u
    have h : St E _ s H locs (wO E a k b t x q ((iv (ik))) fd ++ (wS E k ((hk)) ((nk)) (k1, k2, k3, k4, k5, k6, k7, k8, k9) ++ (wS E b ((iv (hr A))) ((iv (pe A))) (xs, xi, xk, xc, xl, xr, xb, yl, yr) ++ (wS E t ((iv (hr A))) ((iv (pe A))) (r0_1, r1_1, r2_1, r3_1, r4_1, r5_1, r6_1, r7_1, r8_1) ++ (wX E x ((iv (tn))) ((e1)) ((e2)) ((e3)) ((e4)) tp ++ (wH E (q 0) ((iv (bq 0))) ((iv (sq 0))) c0 ++ (wH E (q 1) ((iv (bq 1))) ((iv (sq 1))) c1 ++ (wH E (q 2) ((iv (bq 2))) ((iv (sq 2))) c2 ++ (wH E (q 3) ((iv (bq 3))) ((iv (sq 3))) c3 ++ []))))))))) := h
    have hRb1 : RS (r0_1, r1_1, r2_1, r3_1, r4_1, r5_1, r6_1, r7_1, r8_1) A := hp
    refine z_iconst X dX4_burns_19 ?_
    refine lv_istore_n (lv' := [(2, .int (iv (1))), (0, .ref (a 0)), (1, .int (iv (px)))]) X.1 X.2.1 dX4_burns_20 rfl hl (by decide) rfl (fun ls hl => ?_)
    have L21 : ∀ (fuel_ : Nat) (i : Int) (g1 : Nat → Int32) (g2 : Nat → Int32) (g3 : Nat → Int32) (g4 : Nat → Int32) (g5 : Nat → Int32) (g6 : Nat → Int32) (g7 : Nat → Int32) (g8 : Nat → Int32) (g9 : Nat → Int32), (1 ≤ i) → (i ≤ 201) → (RS (g1, g2, g3, g4, g5, g6, g7, g8, g9) (stepn A (i - 1).toNat)) → (fnd (pBurns A px) 1 200 = fnd (pBurns A px) i.toNat (201 - i.toNat)) → 201 - i < (fuel_ : Int) → ∀ (H : Heap) (locs : List Loc), St E (wO E a k b t x q ((iv (ik))) fd ++ (wS E k ((hk)) ((nk)) (k1, k2, k3, k4, k5, k6, k7, k8, k9) ++ (wS E b ((iv (hr A))) ((iv (pe A))) (xs, xi, xk, xc, xl, xr, xb, yl, yr) ++ (wS E t ((ht)) ((nt)) (t1, t2, t3, t4, t5, t6, t7, t8, t9) ++ (wX E x ((iv (tn))) ((e1)) ((e2)) ((e3)) ((e4)) tp ++ (wH E (q 0) ((iv (bq 0))) ((iv (sq 0))) c0 ++ (wH E (q 1) ((iv (bq 1))) ((iv (sq 1))) c1 ++ (wH E (q 2) ((iv (bq 2))) ((iv (sq 2))) c2 ++ (wH E (q 3) ((iv (bq 3))) ((iv (sq 3))) c3 ++ []))))))))) s H locs (wO E a k b t x q ((iv (ik))) fd ++ (wS E k ((hk)) ((nk)) (k1, k2, k3, k4, k5, k6, k7, k8, k9) ++ (wS E b ((iv (hr A))) ((iv (pe A))) (xs, xi, xk, xc, xl, xr, xb, yl, yr) ++ (wS E t ((iv (hr (stepn A (i - 1).toNat)))) ((iv (pe (stepn A (i - 1).toNat)))) (g1, g2, g3, g4, g5, g6, g7, g8, g9) ++ (wX E x ((iv (tn))) ((e1)) ((e2)) ((e3)) ((e4)) tp ++ (wH E (q 0) ((iv (bq 0))) ((iv (sq 0))) c0 ++ (wH E (q 1) ((iv (bq 1))) ((iv (sq 1))) c1 ++ (wH E (q 2) ((iv (bq 2))) ((iv (sq 2))) c2 ++ (wH E (q 3) ((iv (bq 3))) ((iv (sq 3))) c3 ++ []))))))))) → ∀ ls : Array Slot, lv_has ls 3 [(0, .ref (a 0)), (1, .int (iv (px))), (2, .int (iv (i)))] → W pp l e (rmk 4 89) s m args below meth c H locs 0 0 Q (F0 m 21 ls []) := by
      intro fuel_
      induction fuel_ with
      | zero =>
        intro i g1 g2 g3 g4 g5 g6 g7 g8 g9 i0 i1 hv hf hn
        exfalso; omega
      | succ fuel_ ih =>
        intro i g1 g2 g3 g4 g5 g6 g7 g8 g9 i0 i1 hv hf hn H locs h ls hl
        have pm : pe (stepn A (i - 1).toNat) = pe A := stepn_pe _ _
        have pm2 : pe (stepn A i.toNat) = pe A := stepn_pe _ _
        have q0x := hI.gP (p := px) (by omega) (by omega)
        have qs := (stepn_IA hI i.toNat).gP (p := px) (by omega) (by omega)
        have bm := burnt_mono hI (p := px) (by omega) (by omega) i.toNat
        refine lv_iload_n X.1 X.2.1 dX4_burns_21 rfl (lv_at hl 2 rfl) ?_
        refine z_sipush X (by decide) dX4_burns_22 ?_
        refine z_ic_gt (tgt := 64) X ⟨by omega, by omega⟩ ⟨by decide, by decide⟩ dX4_burns_25 (by decide) (fun c_25 => ?_) (fun c_25 => ?_)
        · have hx : fnd (pBurns A px) 1 200 = i.toNat := by rw [hf, show 201 - i.toNat = 0 by omega]; rfl
          refine lv_aload_n X.1 X.2.1 dX4_burns_64 rfl (lv_at hl 0 rfl) ?_
          refine z_ldc (z := (-1000000004)) X ct_X4_156 (by decide) dX4_burns_65 ?_
          refine z_wi (st_sing (st_nil h)) (run_V (rest := []) X (st_sing (st_nil h)) (c_X4_finding (j := 3) hF (by decide) (by decide) (by decide)) mi_X4_finding ml_X4_49 ⟨Nat.le_of_ble_eq_true rfl, Nat.le_of_ble_eq_true rfl⟩ ⟨rfl, rfl⟩ (Seg.mk' _ _) 3 0 rfl rfl rfl rfl hl.1 rfl (Nat.le_of_ble_eq_true rfl) ⟨Nat.zero_le _, Nat.zero_le _⟩ dX4_burns_67) (fun _ => map_app (wO_map _ _ _ _ _ _ _ _ _ _ _) rfl) (fun r fd2 H locs hp h => ?_)
          have h := (st_lin (st_gnis h))
          obtain ⟨rfl, hF2⟩ := hp
          have h : St E _ s H locs (wO E a k b t x q ((iv (ik))) fd2 ++ (wS E k ((hk)) ((nk)) (k1, k2, k3, k4, k5, k6, k7, k8, k9) ++ (wS E b ((iv (hr A))) ((iv (pe A))) (xs, xi, xk, xc, xl, xr, xb, yl, yr) ++ (wS E t ((iv (hr (stepn A (i - 1).toNat)))) ((iv (pe (stepn A (i - 1).toNat)))) (g1, g2, g3, g4, g5, g6, g7, g8, g9) ++ (wX E x ((iv (tn))) ((e1)) ((e2)) ((e3)) ((e4)) tp ++ (wH E (q 0) ((iv (bq 0))) ((iv (sq 0))) c0 ++ (wH E (q 1) ((iv (bq 1))) ((iv (sq 1))) c1 ++ (wH E (q 2) ((iv (bq 2))) ((iv (sq 2))) c2 ++ (wH E (q 3) ((iv (bq 3))) ((iv (sq 3))) c3 ++ []))))))))) := h
          have e9 : q_burns A ph px = ((-1000000004), A, (bump ph 3)) := by unfold q_burns; rw [if_neg (by omega), if_pos (by omega)]; rfl
          exact ret _ _ _ _ _ (((iv (ik)), fd2), ((hk), (nk), (k1, k2, k3, k4, k5, k6, k7, k8, k9)), ((iv (hr A)), (iv (pe A)), (xs, xi, xk, xc, xl, xr, xb, yl, yr)), ((iv (hr (stepn A (i - 1).toNat))), (iv (pe (stepn A (i - 1).toNat))), (g1, g2, g3, g4, g5, g6, g7, g8, g9)), ((iv (tn)), (e1), (e2), (e3), (e4), tp), ((iv (bq 0)), (iv (sq 0)), c0), ((iv (bq 1)), (iv (sq 1)), c1), ((iv (bq 2)), (iv (sq 2)), c2), ((iv (bq 3)), (iv (sq 3)), c3)) h (by rw [e9]; exact ⟨rfl, ⟨rfl, rfl, hR, hI, hr9⟩, hK, hF2, hT, hB⟩) dX4_burns_70
        · refine lv_aload_n X.1 X.2.1 dX4_burns_28 rfl (lv_at hl 0 rfl) ?_
          refine z_get X h 3 0 1 rfl inX4 rfl (by decide) fl_X4_16 rfl dX4_burns_29 ?_
          refine z_wv (st_in (st_in (st_in (st_nil h)))) (run_V (rest := []) X (st_in (st_in (st_in (st_nil h)))) (c_X1_passHour hv (stepn_IA hI (i - 1).toNat) (show hr (stepn A (i - 1).toNat) < 1000000 by rw [stepn_hr]; omega)) mi_X1_passHour ml_X4_153 ⟨Nat.le_of_ble_eq_true rfl, Nat.le_of_ble_eq_true rfl⟩ ⟨rfl, rfl⟩ (Seg.mk' _ _) 1 23 rfl rfl rfl rfl hl.1 rfl (Nat.le_of_ble_eq_true rfl) ⟨Nat.zero_le _, Nat.zero_le _⟩ dX4_burns_32) (fun _ => wS_map _ _ _ _ _ _ _ _) (fun u H locs hp h => ?_)
          have h := (st_lin (st_out (st_out (st_out h))))
          obtain ⟨z0_3, z1_3, z2_3, z3_3, z4_3, z5_3, z6_3, z7_3, z8_3⟩ := u
          have h : St E _ s H locs (wO E a k b t x q ((iv (ik))) fd ++ (wS E k ((hk)) ((nk)) (k1, k2, k3, k4, k5, k6, k7, k8, k9) ++ (wS E b ((iv (hr A))) ((iv (pe A))) (xs, xi, xk, xc, xl, xr, xb, yl, yr) ++ (wS E t ((iv (hr (step (stepn A (i - 1).toNat))))) ((iv (pe (step (stepn A (i - 1).toNat))))) (z0_3, z1_3, z2_3, z3_3, z4_3, z5_3, z6_3, z7_3, z8_3) ++ (wX E x ((iv (tn))) ((e1)) ((e2)) ((e3)) ((e4)) tp ++ (wH E (q 0) ((iv (bq 0))) ((iv (sq 0))) c0 ++ (wH E (q 1) ((iv (bq 1))) ((iv (sq 1))) c1 ++ (wH E (q 2) ((iv (bq 2))) ((iv (sq 2))) c2 ++ (wH E (q 3) ((iv (bq 3))) ((iv (sq 3))) c3 ++ []))))))))) := h
          have hR3 : RS (z0_3, z1_3, z2_3, z3_3, z4_3, z5_3, z6_3, z7_3, z8_3) (step (stepn A (i - 1).toNat)) := hp
          have es : step (stepn A (i - 1).toNat) = stepn A i.toNat := by rw [show i.toNat = (i - 1).toNat + 1 by omega]; rfl
          have h : St E (wO E a k b t x q ((iv (ik))) fd ++ (wS E k ((hk)) ((nk)) (k1, k2, k3, k4, k5, k6, k7, k8, k9) ++ (wS E b ((iv (hr A))) ((iv (pe A))) (xs, xi, xk, xc, xl, xr, xb, yl, yr) ++ (wS E t ((ht)) ((nt)) (t1, t2, t3, t4, t5, t6, t7, t8, t9) ++ (wX E x ((iv (tn))) ((e1)) ((e2)) ((e3)) ((e4)) tp ++ (wH E (q 0) ((iv (bq 0))) ((iv (sq 0))) c0 ++ (wH E (q 1) ((iv (bq 1))) ((iv (sq 1))) c1 ++ (wH E (q 2) ((iv (bq 2))) ((iv (sq 2))) c2 ++ (wH E (q 3) ((iv (bq 3))) ((iv (sq 3))) c3 ++ []))))))))) s H locs (wO E a k b t x q ((iv (ik))) fd ++ (wS E k ((hk)) ((nk)) (k1, k2, k3, k4, k5, k6, k7, k8, k9) ++ (wS E b ((iv (hr A))) ((iv (pe A))) (xs, xi, xk, xc, xl, xr, xb, yl, yr) ++ (wS E t ((iv (hr (stepn A i.toNat)))) ((iv (pe (stepn A i.toNat)))) (z0_3, z1_3, z2_3, z3_3, z4_3, z5_3, z6_3, z7_3, z8_3) ++ (wX E x ((iv (tn))) ((e1)) ((e2)) ((e3)) ((e4)) tp ++ (wH E (q 0) ((iv (bq 0))) ((iv (sq 0))) c0 ++ (wH E (q 1) ((iv (bq 1))) ((iv (sq 1))) c1 ++ (wH E (q 2) ((iv (bq 2))) ((iv (sq 2))) c2 ++ (wH E (q 3) ((iv (bq 3))) ((iv (sq 3))) c3 ++ []))))))))) := by rw [← es]; exact h
          have tR9 : RS (z0_3, z1_3, z2_3, z3_3, z4_3, z5_3, z6_3, z7_3, z8_3) (stepn A i.toNat) := by rw [← es]; exact hR3
          refine lv_aload_n X.1 X.2.1 dX4_burns_35 rfl (lv_at hl 0 rfl) ?_
          refine z_get X h 3 0 1 rfl inX4 rfl (by decide) fl_X4_16 rfl dX4_burns_36 ?_
          refine z_get X h 1 23 8 rfl inX1 rfl (by decide) fl_X4_109 rfl dX4_burns_39 ?_
          refine lv_iload_n X.1 X.2.1 dX4_burns_42 rfl (lv_at hl 1 rfl) ?_
          refine z_iald (v := pr (stepn A i.toNat) 4 px) X h 30 rfl (by omega) (by omega) (by decide) (tR9.2.2.2.2.2.2 px (by omega) (by omega)) dX4_burns_43 ?_
          refine lv_aload_n X.1 X.2.1 dX4_burns_44 rfl (lv_at hl 0 rfl) ?_
          refine z_get X h 3 0 0 rfl inX4 rfl (by decide) fl_X4_10 rfl dX4_burns_45 ?_
          refine z_get X h 1 13 8 rfl inX1 rfl (by decide) fl_X4_109 rfl dX4_burns_48 ?_
          refine lv_iload_n X.1 X.2.1 dX4_burns_51 rfl (lv_at hl 1 rfl) ?_
          refine z_iald (v := pr A 4 px) X h 20 rfl (by omega) (by omega) (by decide) (hR.2.2.2.2.2.2 px (by omega) (by omega)) dX4_burns_52 ?_
          refine z_ic_le (tgt := 58) X ⟨by omega, by omega⟩ ⟨by omega, by omega⟩ dX4_burns_53 (by decide) (fun c_53 => ?_) (fun c_53 => ?_)
          · have h : St E (wO E a k b t x q ((iv (ik))) fd ++ (wS E k ((hk)) ((nk)) (k1, k2, k3, k4, k5, k6, k7, k8, k9) ++ (wS E b ((iv (hr A))) ((iv (pe A))) (xs, xi, xk, xc, xl, xr, xb, yl, yr) ++ (wS E t ((ht)) ((nt)) (t1, t2, t3, t4, t5, t6, t7, t8, t9) ++ (wX E x ((iv (tn))) ((e1)) ((e2)) ((e3)) ((e4)) tp ++ (wH E (q 0) ((iv (bq 0))) ((iv (sq 0))) c0 ++ (wH E (q 1) ((iv (bq 1))) ((iv (sq 1))) c1 ++ (wH E (q 2) ((iv (bq 2))) ((iv (sq 2))) c2 ++ (wH E (q 3) ((iv (bq 3))) ((iv (sq 3))) c3 ++ []))))))))) s H locs (wO E a k b t x q ((iv (ik))) fd ++ (wS E k ((hk)) ((nk)) (k1, k2, k3, k4, k5, k6, k7, k8, k9) ++ (wS E b ((iv (hr A))) ((iv (pe A))) (xs, xi, xk, xc, xl, xr, xb, yl, yr) ++ (wS E t ((iv (hr (stepn A (i + 1 - 1).toNat)))) ((iv (pe (stepn A (i + 1 - 1).toNat)))) (z0_3, z1_3, z2_3, z3_3, z4_3, z5_3, z6_3, z7_3, z8_3) ++ (wX E x ((iv (tn))) ((e1)) ((e2)) ((e3)) ((e4)) tp ++ (wH E (q 0) ((iv (bq 0))) ((iv (sq 0))) c0 ++ (wH E (q 1) ((iv (bq 1))) ((iv (sq 1))) c1 ++ (wH E (q 2) ((iv (bq 2))) ((iv (sq 2))) c2 ++ (wH E (q 3) ((iv (bq 3))) ((iv (sq 3))) c3 ++ []))))))))) := by rw [show i + 1 - 1 = i by omega]; exact h
            refine z_iinc (k := 2) (lv' := [(2, .int (iv (i + 1))), (0, .ref (a 0)), (1, .int (iv (px)))]) X dX4_burns_58 hl rfl (by decide) rfl (fun ls hl => ?_)
            refine lv_goto (tgt := 21) X.1 X.2.1 dX4_burns_61 (by decide) ?_
            exact ih (i + 1) (z0_3) (z1_3) (z2_3) (z3_3) (z4_3) (z5_3) (z6_3) (z7_3) (z8_3) (by omega) (by omega) (by rw [show i + 1 - 1 = i by omega]; exact tR9) (by rw [hf, tn1 (by omega), show 201 - i.toNat = (201 - (i.toNat + 1)) + 1 by omega]; exact fnd_no (by simp only [pBurns, decide_eq_true_eq]; omega)) (by omega) _ _ h ls (lv_sub hl [1, 2, 0] rfl)
          · have hx : fnd (pBurns A px) 1 200 = i.toNat := by rw [hf, show 201 - i.toNat = (201 - (i.toNat + 1)) + 1 by omega]; exact fnd_yes (by simp only [pBurns, decide_eq_true_eq]; omega)
            refine lv_iload_n X.1 X.2.1 dX4_burns_56 rfl (lv_at hl 2 rfl) ?_
            have e9 : q_burns A ph px = (i, A, ph) := by unfold q_burns; rw [if_neg (by omega), if_neg (by omega), hx, tnc (by omega)]
            exact ret _ _ _ _ _ (((iv (ik)), fd), ((hk), (nk), (k1, k2, k3, k4, k5, k6, k7, k8, k9)), ((iv (hr A)), (iv (pe A)), (xs, xi, xk, xc, xl, xr, xb, yl, yr)), ((iv (hr (stepn A i.toNat))), (iv (pe (stepn A i.toNat))), (z0_3, z1_3, z2_3, z3_3, z4_3, z5_3, z6_3, z7_3, z8_3)), ((iv (tn)), (e1), (e2), (e3), (e4), tp), ((iv (bq 0)), (iv (sq 0)), c0), ((iv (bq 1)), (iv (sq 1)), c1), ((iv (bq 2)), (iv (sq 2)), c2), ((iv (bq 3)), (iv (sq 3)), c3)) h (by rw [e9]; exact ⟨rfl, ⟨rfl, rfl, hR, hI, hr9⟩, hK, hF, hT, hB⟩) dX4_burns_57
    exact L21 ((201 - (1) : Int).toNat + 1) (1) (r0_1) (r1_1) (r2_1) (r3_1) (r4_1) (r5_1) (r6_1) (r7_1) (r8_1) (by omega) (by omega) (hRb1) (rfl) (by omega) _ _ h ls (lv_sub hl [1, 2, 0] rfl)
  · refine lv_aload_n X.1 X.2.1 dX4_burns_8 rfl (lv_at hl 0 rfl) ?_
    refine z_ldc (z := (-1000000001)) X ct_X4_48 (by decide) dX4_burns_9 ?_
    refine z_wi (st_sing (st_nil h)) (run_V (rest := []) X (st_sing (st_nil h)) (c_X4_finding (j := 0) hF (by decide) (by decide) (by decide)) mi_X4_finding ml_X4_49 ⟨Nat.le_of_ble_eq_true rfl, Nat.le_of_ble_eq_true rfl⟩ ⟨rfl, rfl⟩ (Seg.mk' _ _) 3 0 rfl rfl rfl rfl hl.1 rfl (Nat.le_of_ble_eq_true rfl) ⟨Nat.zero_le _, Nat.zero_le _⟩ dX4_burns_11) (fun _ => map_app (wO_map _ _ _ _ _ _ _ _ _ _ _) rfl) (fun r fd4 H locs hp h => ?_)
    have h := (st_lin (st_gnis h))
    obtain ⟨rfl, hF4⟩ := hp
    have h : St E _ s H locs (wO E a k b t x q ((iv (ik))) fd4 ++ (wS E k ((hk)) ((nk)) (k1, k2, k3, k4, k5, k6, k7, k8, k9) ++ (wS E b ((iv (hr A))) ((iv (pe A))) (xs, xi, xk, xc, xl, xr, xb, yl, yr) ++ (wS E t ((ht)) ((nt)) (t1, t2, t3, t4, t5, t6, t7, t8, t9) ++ (wX E x ((iv (tn))) ((e1)) ((e2)) ((e3)) ((e4)) tp ++ (wH E (q 0) ((iv (bq 0))) ((iv (sq 0))) c0 ++ (wH E (q 1) ((iv (bq 1))) ((iv (sq 1))) c1 ++ (wH E (q 2) ((iv (bq 2))) ((iv (sq 2))) c2 ++ (wH E (q 3) ((iv (bq 3))) ((iv (sq 3))) c3 ++ []))))))))) := h
    have e9 : q_burns A ph px = ((-1000000001), A, (bump ph 0)) := by unfold q_burns; (repeat (first | rw [if_pos (by omega)] | rw [if_neg (by omega)])); try rfl
    exact ret _ _ _ _ _ (((iv (ik)), fd4), ((hk), (nk), (k1, k2, k3, k4, k5, k6, k7, k8, k9)), ((iv (hr A)), (iv (pe A)), (xs, xi, xk, xc, xl, xr, xb, yl, yr)), ((ht), (nt), (t1, t2, t3, t4, t5, t6, t7, t8, t9)), ((iv (tn)), (e1), (e2), (e3), (e4), tp), ((iv (bq 0)), (iv (sq 0)), c0), ((iv (bq 1)), (iv (sq 1)), c1), ((iv (bq 2)), (iv (sq 2)), c2), ((iv (bq 3)), (iv (sq 3)), c3)) h (by rw [e9]; exact ⟨rfl, ⟨rfl, rfl, hR, hI, hr9⟩, hK, hF4, hT, hB⟩) dX4_burns_14

set_option maxHeartbeats 4000000 in
theorem c_X4_where (hS : RepC (((iv (ik)), fd), ((hk), (nk), (k1, k2, k3, k4, k5, k6, k7, k8, k9)), ((iv (hr A)), (iv (pe A)), (xs, xi, xk, xc, xl, xr, xb, yl, yr)), ((ht), (nt), (t1, t2, t3, t4, t5, t6, t7, t8, t9)), ((iv (tn)), (e1), (e2), (e3), (e4), tp), ((iv (bq 0)), (iv (sq 0)), c0), ((iv (bq 1)), (iv (sq 1)), c1), ((iv (bq 2)), (iv (sq 2)), c2), ((iv (bq 3)), (iv (sq 3)), c3)) (A, K, ik, ph, tq, tn, bq, sq, cq)) {px : Int} (r_px : r32 px) {pn : Int} (r_pn : r32 pn) : MI (S := Tc) E l yX4_where cX4_where 6 (some FieldType.int) (rmk 5 111) (wO E a k b t x q ((iv (ik))) fd ++ (wS E k ((hk)) ((nk)) (k1, k2, k3, k4, k5, k6, k7, k8, k9) ++ (wS E b ((iv (hr A))) ((iv (pe A))) (xs, xi, xk, xc, xl, xr, xb, yl, yr) ++ (wS E t ((ht)) ((nt)) (t1, t2, t3, t4, t5, t6, t7, t8, t9) ++ (wX E x ((iv (tn))) ((e1)) ((e2)) ((e3)) ((e4)) tp ++ (wH E (q 0) ((iv (bq 0))) ((iv (sq 0))) c0 ++ (wH E (q 1) ((iv (bq 1))) ((iv (sq 1))) c1 ++ (wH E (q 2) ((iv (bq 2))) ((iv (sq 2))) c2 ++ (wH E (q 3) ((iv (bq 3))) ((iv (sq 3))) c3 ++ []))))))))) [.ref (a 0), .int (iv (px)), .int (iv (pn))] (fun r u => r = iv (q_where A ph px pn).1 ∧ RepC u ((q_where A ph px pn).2.1, K, ik, (q_where A ph px pn).2.2, tq, tn, bq, sq, cq)) (fun u => wT E a k b t x q u) := by
  refine goI (S := Tc) (post := fun r u => r = iv (q_where A ph px pn).1 ∧ RepC u ((q_where A ph px pn).2.1, K, ik, (q_where A ph px pn).2.2, tq, tn, bq, sq, cq)) (ws' := fun u => wT E a k b t x q u) (by decide) (Nat.le_of_ble_eq_true rfl) ?_
  intro pp e s m below meth c ls args Q ret X h hl
  have hl : lv_has ls 6 [(0, .ref (a 0)), (1, .int (iv (px))), (2, .int (iv (pn)))] := hl
  have hR : RS (xs, xi, xk, xc, xl, xr, xb, yl, yr) A := hS.1.2.2.1
  have hI : IA A := hS.1.2.2.2.1
  have hr9 : hr A ≤ 99999 := hS.1.2.2.2.2
  have hF : RF 7 fd ph := hS.2.2.1
  have hK := hS.2.1
  have hT := hS.2.2.2.1
  have hB := hS.2.2.2.2
  have hh : hr A < 1000000 := by omega
  have n8 := hI.n8
  have n0 := hI.n0
  have h0 := hI.h0
  refine lv_aload_n X.1 X.2.1 dX4_where_0 rfl (lv_at hl 0 rfl) ?_
  refine lv_iload_n X.1 X.2.1 dX4_where_1 rfl (lv_at hl 1 rfl) ?_
  refine z_pi (run_V (rest := []) X h (c_X4_isPerson (p := px) hI r_px) mi_X4_isPerson ml_X4_94 ⟨Nat.le_of_ble_eq_true rfl, Nat.le_of_ble_eq_true rfl⟩ ⟨rfl, rfl⟩ (Seg.rfl' _) 3 0 rfl rfl rfl rfl hl.1 rfl (Nat.le_of_ble_eq_true rfl) ⟨Nat.zero_le _, Nat.zero_le _⟩ dX4_where_2) ?_
  refine z_ifb_eq (tgt := 18) X dX4_where_5 (by decide) (fun c_5 => ?_) (fun c_5 => ?_)
  · refine lv_aload_n X.1 X.2.1 dX4_where_18 rfl (lv_at hl 0 rfl) ?_
    refine z_ldc (z := (-1000000001)) X ct_X4_48 (by decide) dX4_where_19 ?_
    refine z_wi (st_sing (st_nil h)) (run_V (rest := []) X (st_sing (st_nil h)) (c_X4_finding (j := 0) hF (by decide) (by decide) (by decide)) mi_X4_finding ml_X4_49 ⟨Nat.le_of_ble_eq_true rfl, Nat.le_of_ble_eq_true rfl⟩ ⟨rfl, rfl⟩ (Seg.mk' _ _) 3 0 rfl rfl rfl rfl hl.1 rfl (Nat.le_of_ble_eq_true rfl) ⟨Nat.zero_le _, Nat.zero_le _⟩ dX4_where_21) (fun _ => map_app (wO_map _ _ _ _ _ _ _ _ _ _ _) rfl) (fun r fd1 H locs hp h => ?_)
    have h := (st_lin (st_gnis h))
    obtain ⟨rfl, hF1⟩ := hp
    have h : St E _ s H locs (wO E a k b t x q ((iv (ik))) fd1 ++ (wS E k ((hk)) ((nk)) (k1, k2, k3, k4, k5, k6, k7, k8, k9) ++ (wS E b ((iv (hr A))) ((iv (pe A))) (xs, xi, xk, xc, xl, xr, xb, yl, yr) ++ (wS E t ((ht)) ((nt)) (t1, t2, t3, t4, t5, t6, t7, t8, t9) ++ (wX E x ((iv (tn))) ((e1)) ((e2)) ((e3)) ((e4)) tp ++ (wH E (q 0) ((iv (bq 0))) ((iv (sq 0))) c0 ++ (wH E (q 1) ((iv (bq 1))) ((iv (sq 1))) c1 ++ (wH E (q 2) ((iv (bq 2))) ((iv (sq 2))) c2 ++ (wH E (q 3) ((iv (bq 3))) ((iv (sq 3))) c3 ++ []))))))))) := h
    have e9 : q_where A ph px pn = ((-1000000001), A, (bump ph 0)) := by unfold q_where; (repeat (first | rw [if_pos (by omega)] | rw [if_neg (by omega)])); try rfl
    exact ret _ _ _ _ _ (((iv (ik)), fd1), ((hk), (nk), (k1, k2, k3, k4, k5, k6, k7, k8, k9)), ((iv (hr A)), (iv (pe A)), (xs, xi, xk, xc, xl, xr, xb, yl, yr)), ((ht), (nt), (t1, t2, t3, t4, t5, t6, t7, t8, t9)), ((iv (tn)), (e1), (e2), (e3), (e4), tp), ((iv (bq 0)), (iv (sq 0)), c0), ((iv (bq 1)), (iv (sq 1)), c1), ((iv (bq 2)), (iv (sq 2)), c2), ((iv (bq 3)), (iv (sq 3)), c3)) h (by rw [e9]; exact ⟨rfl, ⟨rfl, rfl, hR, hI, hr9⟩, hK, hF1, hT, hB⟩) dX4_where_24
  · refine lv_iload_n X.1 X.2.1 dX4_where_8 rfl (lv_at hl 2 rfl) ?_
    refine z_iconst X dX4_where_9 ?_
    refine z_bipush X (by decide) dX4_where_10 ?_
    refine z_pi (run_S (rest := []) X h (c_X4_within r_pn ⟨by decide, by decide⟩ ⟨by decide, by decide⟩) mi_X4_within ml_X4_44 ⟨Nat.le_of_ble_eq_true rfl, Nat.le_of_ble_eq_true rfl⟩ ⟨rfl, rfl⟩ (Seg.nil _) rfl hl.1 rfl (Nat.le_of_ble_eq_true rfl) ⟨Nat.zero_le _, Nat.zero_le _⟩ dX4_where_12) ?_
    refine z_ifb_ne (tgt := 25) X dX4_where_15 (by decide) (fun c_15 => ?_) (fun c_15 => ?_)
    · refine z_iconst X dX4_where_25 ?_
      refine lv_istore_n (lv' := [(3, .int (iv ((-1)))), (0, .ref (a 0)), (1, .int (iv (px))), (2, .int (iv (pn)))]) X.1 X.2.1 dX4_where_26 rfl hl (by decide) rfl (fun ls hl => ?_)
      refine z_iconst X dX4_where_27 ?_
      refine lv_istore (lv' := [(4, .int (iv ((-1)))), (3, .int (iv ((-1)))), (0, .ref (a 0)), (1, .int (iv (px))), (2, .int (iv (pn)))]) X.1 X.2.1 dX4_where_28 hl (by decide) rfl (fun ls hl => ?_)
      refine z_iconst X dX4_where_30 ?_
      refine lv_istore (lv' := [(5, .int (iv (0))), (4, .int (iv ((-1)))), (3, .int (iv ((-1)))), (0, .ref (a 0)), (1, .int (iv (px))), (2, .int (iv (pn)))]) X.1 X.2.1 dX4_where_31 hl (by decide) rfl (fun ls hl => ?_)
      have L33 : ∀ (fuel_ : Nat) (i : Int) (bs : Int) (ws : Int) (th : Int32) (tm : Int32) (g1 : Nat → Int32) (g2 : Nat → Int32) (g3 : Nat → Int32) (g4 : Nat → Int32) (g5 : Nat → Int32) (g6 : Nat → Int32) (g7 : Nat → Int32) (g8 : Nat → Int32) (g9 : Nat → Int32), (0 ≤ i) → (i ≤ 10) → (mostk (freeB A px) (vWhere A px pn) i.toNat = (bs, ws)) → 10 - i < (fuel_ : Int) → ∀ (H : Heap) (locs : List Loc), St E (wO E a k b t x q ((iv (ik))) fd ++ (wS E k ((hk)) ((nk)) (k1, k2, k3, k4, k5, k6, k7, k8, k9) ++ (wS E b ((iv (hr A))) ((iv (pe A))) (xs, xi, xk, xc, xl, xr, xb, yl, yr) ++ (wS E t ((ht)) ((nt)) (t1, t2, t3, t4, t5, t6, t7, t8, t9) ++ (wX E x ((iv (tn))) ((e1)) ((e2)) ((e3)) ((e4)) tp ++ (wH E (q 0) ((iv (bq 0))) ((iv (sq 0))) c0 ++ (wH E (q 1) ((iv (bq 1))) ((iv (sq 1))) c1 ++ (wH E (q 2) ((iv (bq 2))) ((iv (sq 2))) c2 ++ (wH E (q 3) ((iv (bq 3))) ((iv (sq 3))) c3 ++ []))))))))) s H locs (wO E a k b t x q ((iv (ik))) fd ++ (wS E k ((hk)) ((nk)) (k1, k2, k3, k4, k5, k6, k7, k8, k9) ++ (wS E b ((iv (hr A))) ((iv (pe A))) (xs, xi, xk, xc, xl, xr, xb, yl, yr) ++ (wS E t ((th)) ((tm)) (g1, g2, g3, g4, g5, g6, g7, g8, g9) ++ (wX E x ((iv (tn))) ((e1)) ((e2)) ((e3)) ((e4)) tp ++ (wH E (q 0) ((iv (bq 0))) ((iv (sq 0))) c0 ++ (wH E (q 1) ((iv (bq 1))) ((iv (sq 1))) c1 ++ (wH E (q 2) ((iv (bq 2))) ((iv (sq 2))) c2 ++ (wH E (q 3) ((iv (bq 3))) ((iv (sq 3))) c3 ++ []))))))))) → ∀ ls : Array Slot, lv_has ls 6 [(0, .ref (a 0)), (1, .int (iv (px))), (2, .int (iv (pn))), (3, .int (iv (bs))), (4, .int (iv (ws))), (5, .int (iv (i)))] → W pp l e (rmk 5 111) s m args below meth c H locs 0 0 Q (F0 m 33 ls []) := by
        intro fuel_
        induction fuel_ with
        | zero =>
          intro i bs ws th tm g1 g2 g3 g4 g5 g6 g7 g8 g9 i0 i1 hm hn
          exfalso; omega
        | succ fuel_ ih =>
          intro i bs ws th tm g1 g2 g3 g4 g5 g6 g7 g8 g9 i0 i1 hm hn H locs h ls hl
          have hm2 : (mostk (freeB A px) (vWhere A px pn) i.toNat).2 = ws := by rw [hm]
          have rg := mostk_rng (may := (freeB A px)) (val := (vWhere A px pn)) i.toNat (fun j j0 j1 hj => vWhere_rng hI (by omega) (by omega) j0 (by omega) hj)
          rw [hm] at rg; dsimp only at rg
          refine lv_iload X.1 X.2.1 dX4_where_33 (lv_at hl 5 rfl) ?_
          refine z_bipush X (by decide) dX4_where_35 ?_
          refine z_ic_ge (tgt := 107) X ⟨by omega, by omega⟩ ⟨by decide, by decide⟩ dX4_where_37 (by decide) (fun c_37 => ?_) (fun c_37 => ?_)
          · refine lv_iload_n X.1 X.2.1 dX4_where_107 rfl (lv_at hl 3 rfl) ?_
            have e9 : q_where A ph px pn = (bs, A, ph) := by have hm9 := hm; rw [show i.toNat = 10 by omega] at hm9; unfold q_where; rw [if_neg (by omega), hm9]
            exact ret _ _ _ _ _ (((iv (ik)), fd), ((hk), (nk), (k1, k2, k3, k4, k5, k6, k7, k8, k9)), ((iv (hr A)), (iv (pe A)), (xs, xi, xk, xc, xl, xr, xb, yl, yr)), ((th), (tm), (g1, g2, g3, g4, g5, g6, g7, g8, g9)), ((iv (tn)), (e1), (e2), (e3), (e4), tp), ((iv (bq 0)), (iv (sq 0)), c0), ((iv (bq 1)), (iv (sq 1)), c1), ((iv (bq 2)), (iv (sq 2)), c2), ((iv (bq 3)), (iv (sq 3)), c3)) h (by rw [e9]; exact ⟨rfl, ⟨rfl, rfl, hR, hI, hr9⟩, hK, hF, hT, hB⟩) dX4_where_108
          · refine lv_aload_n X.1 X.2.1 dX4_where_40 rfl (lv_at hl 0 rfl) ?_
            refine z_get X h 3 0 0 rfl inX4 rfl (by decide) fl_X4_10 rfl dX4_where_41 ?_
            refine lv_iload_n X.1 X.2.1 dX4_where_44 rfl (lv_at hl 1 rfl) ?_
            refine lv_iload X.1 X.2.1 dX4_where_45 (lv_at hl 5 rfl) ?_
            refine z_pi (run_V (rest := []) X (st_in (st_in (st_nil h))) (c_X1_isFreeFor (p := px) (c9 := i) hR hI (by omega) (by omega) (by omega) (by omega)) mi_X1_isFreeFor ml_X4_131 ⟨Nat.le_of_ble_eq_true rfl, Nat.le_of_ble_eq_true rfl⟩ ⟨rfl, rfl⟩ (Seg.mk' _ _) 1 13 rfl rfl rfl rfl hl.1 rfl (Nat.le_of_ble_eq_true rfl) ⟨Nat.zero_le _, Nat.zero_le _⟩ dX4_where_47) ?_
            refine z_ifb_eq (tgt := 101) X dX4_where_50 (by decide) (fun c_50 => ?_) (fun c_50 => ?_)
            · refine z_iinc (k := 5) (lv' := [(5, .int (iv (i + 1))), (0, .ref (a 0)), (1, .int (iv (px))), (2, .int (iv (pn))), (3, .int (iv (bs))), (4, .int (iv (ws)))]) X dX4_where_101 hl rfl (by decide) rfl (fun ls hl => ?_)
              refine lv_goto (tgt := 33) X.1 X.2.1 dX4_where_104 (by decide) ?_
              exact ih (i + 1) (bs) (ws) ((th)) ((tm)) (g1) (g2) (g3) (g4) (g5) (g6) (g7) (g8) (g9) (by omega) (by omega) ((mostk_n i0 hm2 (fun hq => by have := freeB_i.mp hq; omega)).trans hm) (by omega) _ _ h ls (lv_sub hl [1, 2, 3, 4, 5, 0] rfl)
            · refine lv_aload_n X.1 X.2.1 dX4_where_53 rfl (lv_at hl 0 rfl) ?_
              refine z_av h (run_V (rest := []) X h (c_X4_startTrial hR hI.n8) mi_X4_startTrial ml_X4_150 ⟨Nat.le_of_ble_eq_true rfl, Nat.le_of_ble_eq_true rfl⟩ ⟨rfl, rfl⟩ (Seg.rfl' _) 3 0 rfl rfl rfl rfl hl.1 rfl (Nat.le_of_ble_eq_true rfl) ⟨Nat.zero_le _, Nat.zero_le _⟩ dX4_where_54) (fun _ => map_app rfl (map_app rfl (map_app rfl (map_app (wS_map _ _ _ _ _ _ _ _) rfl)))) (fun u H locs hp h => ?_)
              obtain ⟨r0_2, r1_2, r2_2, r3_2, r4_2, r5_2, r6_2, r7_2, r8_2⟩ := u
              have h : St E _ s H locs (wO E a k b t x q ((iv (ik))) fd ++ (wS E k ((hk)) ((nk)) (k1, k2, k3, k4, k5, k6, k7, k8, k9) ++ (wS E b ((iv (hr A))) ((iv (pe A))) (xs, xi, xk, xc, xl, xr, xb, yl, yr) ++ (wS E t ((iv (hr A))) ((iv (pe A))) (r0_2, r1_2, r2_2, r3_2, r4_2, r5_2, r6_2, r7_2, r8_2) ++ (wX E x ((iv (tn))) ((e1)) ((e2)) ((e3)) ((e4)) tp ++ (wH E (q 0) ((iv (bq 0))) ((iv (sq 0))) c0 ++ (wH E (q 1) ((iv (bq 1))) ((iv (sq 1))) c1 ++ (wH E (q 2) ((iv (bq 2))) ((iv (sq 2))) c2 ++ (wH E (q 3) ((iv (bq 3))) ((iv (sq 3))) c3 ++ []))))))))) := h
              have hRb2 : RS (r0_2, r1_2, r2_2, r3_2, r4_2, r5_2, r6_2, r7_2, r8_2) A := hp
              refine lv_aload_n X.1 X.2.1 dX4_where_57 rfl (lv_at hl 0 rfl) ?_
              refine z_get X h 3 0 1 rfl inX4 rfl (by decide) fl_X4_16 rfl dX4_where_58 ?_
              refine lv_iload_n X.1 X.2.1 dX4_where_61 rfl (lv_at hl 1 rfl) ?_
              refine lv_iload X.1 X.2.1 dX4_where_62 (lv_at hl 5 rfl) ?_
              refine z_wv (st_in (st_in (st_in (st_nil h)))) (run_V (rest := []) X (st_in (st_in (st_in (st_nil h)))) (c_X1_seat (p := px) (d := i) hRb2 hI (by omega) (by first | omega | (show px < pe A; omega)) (by omega) (by omega) (by omega)) mi_X1_seat ml_X4_135 ⟨Nat.le_of_ble_eq_true rfl, Nat.le_of_ble_eq_true rfl⟩ ⟨rfl, rfl⟩ (Seg.mk' _ _) 1 23 rfl rfl rfl rfl hl.1 rfl (Nat.le_of_ble_eq_true rfl) ⟨Nat.zero_le _, Nat.zero_le _⟩ dX4_where_64) (fun _ => wS_map _ _ _ _ _ _ _ _) (fun u H locs hp h => ?_)
              have h := (st_lin (st_out (st_out (st_out h))))
              obtain ⟨z0_3, z1_3, z2_3, z3_3, z4_3, z5_3, z6_3, z7_3, z8_3⟩ := u
              have h : St E _ s H locs (wO E a k b t x q ((iv (ik))) fd ++ (wS E k ((hk)) ((nk)) (k1, k2, k3, k4, k5, k6, k7, k8, k9) ++ (wS E b ((iv (hr A))) ((iv (pe A))) (xs, xi, xk, xc, xl, xr, xb, yl, yr) ++ (wS E t ((iv (hr A))) ((iv (pe A))) (z0_3, z1_3, z2_3, z3_3, z4_3, z5_3, z6_3, z7_3, z8_3) ++ (wX E x ((iv (tn))) ((e1)) ((e2)) ((e3)) ((e4)) tp ++ (wH E (q 0) ((iv (bq 0))) ((iv (sq 0))) c0 ++ (wH E (q 1) ((iv (bq 1))) ((iv (sq 1))) c1 ++ (wH E (q 2) ((iv (bq 2))) ((iv (sq 2))) c2 ++ (wH E (q 3) ((iv (bq 3))) ((iv (sq 3))) c3 ++ []))))))))) := h
              have hR3 : RS (z0_3, z1_3, z2_3, z3_3, z4_3, z5_3, z6_3, z7_3, z8_3) (pu A 1 px i) := hp
              have hI3 : IA (pu A 1 px i) := IA_sit hI (by omega) (by first | omega | (show px < pe A; omega)) (by omega) (by omega) (by omega)
              refine lv_aload_n X.1 X.2.1 dX4_where_67 rfl (lv_at hl 0 rfl) ?_
              refine z_get X h 3 0 1 rfl inX4 rfl (by decide) fl_X4_16 rfl dX4_where_68 ?_
              refine lv_iload_n X.1 X.2.1 dX4_where_71 rfl (lv_at hl 2 rfl) ?_
              refine z_wv (st_in (st_in (st_in (st_nil h)))) (run_V (rest := []) X (st_in (st_in (st_in (st_nil h)))) (c_X1_goOn (k := pn) hR3 hI3 (by omega) (by omega) (by first | omega | (show hr A + pn < 1000000; omega))) mi_X1_goOn ml_X4_146 ⟨Nat.le_of_ble_eq_true rfl, Nat.le_of_ble_eq_true rfl⟩ ⟨rfl, rfl⟩ (Seg.mk' _ _) 1 23 rfl rfl rfl rfl hl.1 rfl (Nat.le_of_ble_eq_true rfl) ⟨Nat.zero_le _, Nat.zero_le _⟩ dX4_where_72) (fun _ => wS_map _ _ _ _ _ _ _ _) (fun u H locs hp h => ?_)
              have h := (st_lin (st_out (st_out (st_out h))))
              obtain ⟨z0_4, z1_4, z2_4, z3_4, z4_4, z5_4, z6_4, z7_4, z8_4⟩ := u
              have h : St E _ s H locs (wO E a k b t x q ((iv (ik))) fd ++ (wS E k ((hk)) ((nk)) (k1, k2, k3, k4, k5, k6, k7, k8, k9) ++ (wS E b ((iv (hr A))) ((iv (pe A))) (xs, xi, xk, xc, xl, xr, xb, yl, yr) ++ (wS E t ((iv (hr (stepn (pu A 1 px i) pn.toNat)))) ((iv (pe (stepn (pu A 1 px i) pn.toNat)))) (z0_4, z1_4, z2_4, z3_4, z4_4, z5_4, z6_4, z7_4, z8_4) ++ (wX E x ((iv (tn))) ((e1)) ((e2)) ((e3)) ((e4)) tp ++ (wH E (q 0) ((iv (bq 0))) ((iv (sq 0))) c0 ++ (wH E (q 1) ((iv (bq 1))) ((iv (sq 1))) c1 ++ (wH E (q 2) ((iv (bq 2))) ((iv (sq 2))) c2 ++ (wH E (q 3) ((iv (bq 3))) ((iv (sq 3))) c3 ++ []))))))))) := h
              have hR4 : RS (z0_4, z1_4, z2_4, z3_4, z4_4, z5_4, z6_4, z7_4, z8_4) (stepn (pu A 1 px i) pn.toNat) := hp
              have pn4 : pe (stepn (pu A 1 px i) pn.toNat) = pe (pu A 1 px i) := stepn_pe _ _
              have bw := brnn_rng (IA_sit hI (p := px) (c := i) (by omega) (by omega) (by omega) (by omega) (by omega)) pn.toNat (p := px) (by omega) (by show px < pe A; omega)
              have pq9 : pe (pu A 1 px i) = pe A := rfl
              refine lv_aload_n X.1 X.2.1 dX4_where_75 rfl (lv_at hl 0 rfl) ?_
              refine z_get X h 3 0 1 rfl inX4 rfl (by decide) fl_X4_16 rfl dX4_where_76 ?_
              refine lv_iload_n X.1 X.2.1 dX4_where_79 rfl (lv_at hl 1 rfl) ?_
              refine z_pi (run_V (rest := []) X (st_in (st_in (st_in (st_nil h)))) (c_X1_brownOf (p := px) hR4 (stepn_IA hI3 pn.toNat) (by omega) (by omega)) mi_X1_brownOf ml_X4_128 ⟨Nat.le_of_ble_eq_true rfl, Nat.le_of_ble_eq_true rfl⟩ ⟨rfl, rfl⟩ (Seg.mk' _ _) 1 23 rfl rfl rfl rfl hl.1 rfl (Nat.le_of_ble_eq_true rfl) ⟨Nat.zero_le _, Nat.zero_le _⟩ dX4_where_80) ?_
              refine lv_iload X.1 X.2.1 dX4_where_83 (lv_at hl 4 rfl) ?_
              refine z_ic_le (tgt := 101) X ⟨by omega, by omega⟩ ⟨by omega, by omega⟩ dX4_where_85 (by decide) (fun c_85 => ?_) (fun c_85 => ?_)
              · refine z_iinc (k := 5) (lv' := [(5, .int (iv (i + 1))), (0, .ref (a 0)), (1, .int (iv (px))), (2, .int (iv (pn))), (3, .int (iv (bs))), (4, .int (iv (ws)))]) X dX4_where_101 hl rfl (by decide) rfl (fun ls hl => ?_)
                refine lv_goto (tgt := 33) X.1 X.2.1 dX4_where_104 (by decide) ?_
                exact ih (i + 1) (bs) (ws) ((iv (hr (stepn (pu A 1 px i) pn.toNat)))) ((iv (pe (stepn (pu A 1 px i) pn.toNat)))) (z0_4) (z1_4) (z2_4) (z3_4) (z4_4) (z5_4) (z6_4) (z7_4) (z8_4) (by omega) (by omega) ((mostk_n i0 hm2 (fun _ => (show brn (stepn (pu A 1 px i) pn.toNat) px ≤ ws by omega))).trans hm) (by omega) _ _ h ls (lv_sub hl [1, 2, 3, 4, 5, 0] rfl)
              · refine lv_aload_n X.1 X.2.1 dX4_where_88 rfl (lv_at hl 0 rfl) ?_
                refine z_get X h 3 0 1 rfl inX4 rfl (by decide) fl_X4_16 rfl dX4_where_89 ?_
                refine lv_iload_n X.1 X.2.1 dX4_where_92 rfl (lv_at hl 1 rfl) ?_
                refine z_pi (run_V (rest := []) X (st_in (st_in (st_in (st_nil h)))) (c_X1_brownOf (p := px) hR4 (stepn_IA hI3 pn.toNat) (by omega) (by omega)) mi_X1_brownOf ml_X4_128 ⟨Nat.le_of_ble_eq_true rfl, Nat.le_of_ble_eq_true rfl⟩ ⟨rfl, rfl⟩ (Seg.mk' _ _) 1 23 rfl rfl rfl rfl hl.1 rfl (Nat.le_of_ble_eq_true rfl) ⟨Nat.zero_le _, Nat.zero_le _⟩ dX4_where_93) ?_
                refine lv_istore (lv' := [(4, .int (iv (brn (stepn (pu A 1 px i) pn.toNat) px))), (0, .ref (a 0)), (1, .int (iv (px))), (2, .int (iv (pn))), (3, .int (iv (bs))), (5, .int (iv (i)))]) X.1 X.2.1 dX4_where_96 hl (by decide) rfl (fun ls hl => ?_)
                refine lv_iload X.1 X.2.1 dX4_where_98 (lv_at hl 5 rfl) ?_
                refine lv_istore_n (lv' := [(3, .int (iv (i))), (4, .int (iv (brn (stepn (pu A 1 px i) pn.toNat) px))), (0, .ref (a 0)), (1, .int (iv (px))), (2, .int (iv (pn))), (5, .int (iv (i)))]) X.1 X.2.1 dX4_where_100 rfl hl (by decide) rfl (fun ls hl => ?_)
                refine z_iinc (k := 5) (lv' := [(5, .int (iv (i + 1))), (3, .int (iv (i))), (4, .int (iv (brn (stepn (pu A 1 px i) pn.toNat) px))), (0, .ref (a 0)), (1, .int (iv (px))), (2, .int (iv (pn)))]) X dX4_where_101 hl rfl (by decide) rfl (fun ls hl => ?_)
                refine lv_goto (tgt := 33) X.1 X.2.1 dX4_where_104 (by decide) ?_
                exact ih (i + 1) (i) (brn (stepn (pu A 1 px i) pn.toNat) px) ((iv (hr (stepn (pu A 1 px i) pn.toNat)))) ((iv (pe (stepn (pu A 1 px i) pn.toNat)))) (z0_4) (z1_4) (z2_4) (z3_4) (z4_4) (z5_4) (z6_4) (z7_4) (z8_4) (by omega) (by omega) (mostk_y i0 hm2 (freeB_t (by omega)) (show ws < brn (stepn (pu A 1 px i) pn.toNat) px by omega)) (by omega) _ _ h ls (lv_sub hl [3, 4, 5, 1, 2, 0] rfl)
      exact L33 ((10 - (0) : Int).toNat + 1) (0) (-1) (-1) ((ht)) ((nt)) (t1) (t2) (t3) (t4) (t5) (t6) (t7) (t8) (t9) (by omega) (by omega) (rfl) (by omega) _ _ h ls (lv_sub hl [3, 4, 5, 2, 1, 0] rfl)
    · refine lv_aload_n X.1 X.2.1 dX4_where_18 rfl (lv_at hl 0 rfl) ?_
      refine z_ldc (z := (-1000000001)) X ct_X4_48 (by decide) dX4_where_19 ?_
      refine z_wi (st_sing (st_nil h)) (run_V (rest := []) X (st_sing (st_nil h)) (c_X4_finding (j := 0) hF (by decide) (by decide) (by decide)) mi_X4_finding ml_X4_49 ⟨Nat.le_of_ble_eq_true rfl, Nat.le_of_ble_eq_true rfl⟩ ⟨rfl, rfl⟩ (Seg.mk' _ _) 3 0 rfl rfl rfl rfl hl.1 rfl (Nat.le_of_ble_eq_true rfl) ⟨Nat.zero_le _, Nat.zero_le _⟩ dX4_where_21) (fun _ => map_app (wO_map _ _ _ _ _ _ _ _ _ _ _) rfl) (fun r fd5 H locs hp h => ?_)
      have h := (st_lin (st_gnis h))
      obtain ⟨rfl, hF5⟩ := hp
      have h : St E _ s H locs (wO E a k b t x q ((iv (ik))) fd5 ++ (wS E k ((hk)) ((nk)) (k1, k2, k3, k4, k5, k6, k7, k8, k9) ++ (wS E b ((iv (hr A))) ((iv (pe A))) (xs, xi, xk, xc, xl, xr, xb, yl, yr) ++ (wS E t ((ht)) ((nt)) (t1, t2, t3, t4, t5, t6, t7, t8, t9) ++ (wX E x ((iv (tn))) ((e1)) ((e2)) ((e3)) ((e4)) tp ++ (wH E (q 0) ((iv (bq 0))) ((iv (sq 0))) c0 ++ (wH E (q 1) ((iv (bq 1))) ((iv (sq 1))) c1 ++ (wH E (q 2) ((iv (bq 2))) ((iv (sq 2))) c2 ++ (wH E (q 3) ((iv (bq 3))) ((iv (sq 3))) c3 ++ []))))))))) := h
      have e9 : q_where A ph px pn = ((-1000000001), A, (bump ph 0)) := by unfold q_where; (repeat (first | rw [if_pos (by omega)] | rw [if_neg (by omega)])); try rfl
      exact ret _ _ _ _ _ (((iv (ik)), fd5), ((hk), (nk), (k1, k2, k3, k4, k5, k6, k7, k8, k9)), ((iv (hr A)), (iv (pe A)), (xs, xi, xk, xc, xl, xr, xb, yl, yr)), ((ht), (nt), (t1, t2, t3, t4, t5, t6, t7, t8, t9)), ((iv (tn)), (e1), (e2), (e3), (e4), tp), ((iv (bq 0)), (iv (sq 0)), c0), ((iv (bq 1)), (iv (sq 1)), c1), ((iv (bq 2)), (iv (sq 2)), c2), ((iv (bq 3)), (iv (sq 3)), c3)) h (by rw [e9]; exact ⟨rfl, ⟨rfl, rfl, hR, hI, hr9⟩, hK, hF5, hT, hB⟩) dX4_where_24

set_option maxHeartbeats 4000000 in
theorem c_X4_kind (hS : RepC (((iv (ik)), fd), ((hk), (nk), (k1, k2, k3, k4, k5, k6, k7, k8, k9)), ((iv (hr A)), (iv (pe A)), (xs, xi, xk, xc, xl, xr, xb, yl, yr)), ((ht), (nt), (t1, t2, t3, t4, t5, t6, t7, t8, t9)), ((iv (tn)), (e1), (e2), (e3), (e4), tp), ((iv (bq 0)), (iv (sq 0)), c0), ((iv (bq 1)), (iv (sq 1)), c1), ((iv (bq 2)), (iv (sq 2)), c2), ((iv (bq 3)), (iv (sq 3)), c3)) (A, K, ik, ph, tq, tn, bq, sq, cq)) {px : Int} (r_px : r32 px) {pn : Int} (r_pn : r32 pn) : MI (S := Tc) E l yX4_kind cX4_kind 6 (some FieldType.int) (rmk 5 111) (wO E a k b t x q ((iv (ik))) fd ++ (wS E k ((hk)) ((nk)) (k1, k2, k3, k4, k5, k6, k7, k8, k9) ++ (wS E b ((iv (hr A))) ((iv (pe A))) (xs, xi, xk, xc, xl, xr, xb, yl, yr) ++ (wS E t ((ht)) ((nt)) (t1, t2, t3, t4, t5, t6, t7, t8, t9) ++ (wX E x ((iv (tn))) ((e1)) ((e2)) ((e3)) ((e4)) tp ++ (wH E (q 0) ((iv (bq 0))) ((iv (sq 0))) c0 ++ (wH E (q 1) ((iv (bq 1))) ((iv (sq 1))) c1 ++ (wH E (q 2) ((iv (bq 2))) ((iv (sq 2))) c2 ++ (wH E (q 3) ((iv (bq 3))) ((iv (sq 3))) c3 ++ []))))))))) [.ref (a 0), .int (iv (px)), .int (iv (pn))] (fun r u => r = iv (q_kind A ph px pn).1 ∧ RepC u ((q_kind A ph px pn).2.1, K, ik, (q_kind A ph px pn).2.2, tq, tn, bq, sq, cq)) (fun u => wT E a k b t x q u) := by
  refine goI (S := Tc) (post := fun r u => r = iv (q_kind A ph px pn).1 ∧ RepC u ((q_kind A ph px pn).2.1, K, ik, (q_kind A ph px pn).2.2, tq, tn, bq, sq, cq)) (ws' := fun u => wT E a k b t x q u) (by decide) (Nat.le_of_ble_eq_true rfl) ?_
  intro pp e s m below meth c ls args Q ret X h hl
  have hl : lv_has ls 6 [(0, .ref (a 0)), (1, .int (iv (px))), (2, .int (iv (pn)))] := hl
  have hR : RS (xs, xi, xk, xc, xl, xr, xb, yl, yr) A := hS.1.2.2.1
  have hI : IA A := hS.1.2.2.2.1
  have hr9 : hr A ≤ 99999 := hS.1.2.2.2.2
  have hF : RF 7 fd ph := hS.2.2.1
  have hK := hS.2.1
  have hT := hS.2.2.2.1
  have hB := hS.2.2.2.2
  have hh : hr A < 1000000 := by omega
  have n8 := hI.n8
  have n0 := hI.n0
  have h0 := hI.h0
  refine lv_aload_n X.1 X.2.1 dX4_kind_0 rfl (lv_at hl 0 rfl) ?_
  refine lv_iload_n X.1 X.2.1 dX4_kind_1 rfl (lv_at hl 1 rfl) ?_
  refine z_pi (run_V (rest := []) X h (c_X4_isPerson (p := px) hI r_px) mi_X4_isPerson ml_X4_94 ⟨Nat.le_of_ble_eq_true rfl, Nat.le_of_ble_eq_true rfl⟩ ⟨rfl, rfl⟩ (Seg.rfl' _) 3 0 rfl rfl rfl rfl hl.1 rfl (Nat.le_of_ble_eq_true rfl) ⟨Nat.zero_le _, Nat.zero_le _⟩ dX4_kind_2) ?_
  refine z_ifb_eq (tgt := 18) X dX4_kind_5 (by decide) (fun c_5 => ?_) (fun c_5 => ?_)
  · refine lv_aload_n X.1 X.2.1 dX4_kind_18 rfl (lv_at hl 0 rfl) ?_
    refine z_ldc (z := (-1000000001)) X ct_X4_48 (by decide) dX4_kind_19 ?_
    refine z_wi (st_sing (st_nil h)) (run_V (rest := []) X (st_sing (st_nil h)) (c_X4_finding (j := 0) hF (by decide) (by decide) (by decide)) mi_X4_finding ml_X4_49 ⟨Nat.le_of_ble_eq_true rfl, Nat.le_of_ble_eq_true rfl⟩ ⟨rfl, rfl⟩ (Seg.mk' _ _) 3 0 rfl rfl rfl rfl hl.1 rfl (Nat.le_of_ble_eq_true rfl) ⟨Nat.zero_le _, Nat.zero_le _⟩ dX4_kind_21) (fun _ => map_app (wO_map _ _ _ _ _ _ _ _ _ _ _) rfl) (fun r fd1 H locs hp h => ?_)
    have h := (st_lin (st_gnis h))
    obtain ⟨rfl, hF1⟩ := hp
    have h : St E _ s H locs (wO E a k b t x q ((iv (ik))) fd1 ++ (wS E k ((hk)) ((nk)) (k1, k2, k3, k4, k5, k6, k7, k8, k9) ++ (wS E b ((iv (hr A))) ((iv (pe A))) (xs, xi, xk, xc, xl, xr, xb, yl, yr) ++ (wS E t ((ht)) ((nt)) (t1, t2, t3, t4, t5, t6, t7, t8, t9) ++ (wX E x ((iv (tn))) ((e1)) ((e2)) ((e3)) ((e4)) tp ++ (wH E (q 0) ((iv (bq 0))) ((iv (sq 0))) c0 ++ (wH E (q 1) ((iv (bq 1))) ((iv (sq 1))) c1 ++ (wH E (q 2) ((iv (bq 2))) ((iv (sq 2))) c2 ++ (wH E (q 3) ((iv (bq 3))) ((iv (sq 3))) c3 ++ []))))))))) := h
    have e9 : q_kind A ph px pn = ((-1000000001), A, (bump ph 0)) := by unfold q_kind; (repeat (first | rw [if_pos (by omega)] | rw [if_neg (by omega)])); try rfl
    exact ret _ _ _ _ _ (((iv (ik)), fd1), ((hk), (nk), (k1, k2, k3, k4, k5, k6, k7, k8, k9)), ((iv (hr A)), (iv (pe A)), (xs, xi, xk, xc, xl, xr, xb, yl, yr)), ((ht), (nt), (t1, t2, t3, t4, t5, t6, t7, t8, t9)), ((iv (tn)), (e1), (e2), (e3), (e4), tp), ((iv (bq 0)), (iv (sq 0)), c0), ((iv (bq 1)), (iv (sq 1)), c1), ((iv (bq 2)), (iv (sq 2)), c2), ((iv (bq 3)), (iv (sq 3)), c3)) h (by rw [e9]; exact ⟨rfl, ⟨rfl, rfl, hR, hI, hr9⟩, hK, hF1, hT, hB⟩) dX4_kind_24
  · refine lv_iload_n X.1 X.2.1 dX4_kind_8 rfl (lv_at hl 2 rfl) ?_
    refine z_iconst X dX4_kind_9 ?_
    refine z_bipush X (by decide) dX4_kind_10 ?_
    refine z_pi (run_S (rest := []) X h (c_X4_within r_pn ⟨by decide, by decide⟩ ⟨by decide, by decide⟩) mi_X4_within ml_X4_44 ⟨Nat.le_of_ble_eq_true rfl, Nat.le_of_ble_eq_true rfl⟩ ⟨rfl, rfl⟩ (Seg.nil _) rfl hl.1 rfl (Nat.le_of_ble_eq_true rfl) ⟨Nat.zero_le _, Nat.zero_le _⟩ dX4_kind_12) ?_
    refine z_ifb_ne (tgt := 25) X dX4_kind_15 (by decide) (fun c_15 => ?_) (fun c_15 => ?_)
    · refine z_iconst X dX4_kind_25 ?_
      refine lv_istore_n (lv' := [(3, .int (iv ((-1)))), (0, .ref (a 0)), (1, .int (iv (px))), (2, .int (iv (pn)))]) X.1 X.2.1 dX4_kind_26 rfl hl (by decide) rfl (fun ls hl => ?_)
      refine z_iconst X dX4_kind_27 ?_
      refine lv_istore (lv' := [(4, .int (iv ((-1)))), (3, .int (iv ((-1)))), (0, .ref (a 0)), (1, .int (iv (px))), (2, .int (iv (pn)))]) X.1 X.2.1 dX4_kind_28 hl (by decide) rfl (fun ls hl => ?_)
      refine z_iconst X dX4_kind_30 ?_
      refine lv_istore (lv' := [(5, .int (iv (0))), (4, .int (iv ((-1)))), (3, .int (iv ((-1)))), (0, .ref (a 0)), (1, .int (iv (px))), (2, .int (iv (pn)))]) X.1 X.2.1 dX4_kind_31 hl (by decide) rfl (fun ls hl => ?_)
      have L33 : ∀ (fuel_ : Nat) (i : Int) (bs : Int) (ws : Int) (th : Int32) (tm : Int32) (g1 : Nat → Int32) (g2 : Nat → Int32) (g3 : Nat → Int32) (g4 : Nat → Int32) (g5 : Nat → Int32) (g6 : Nat → Int32) (g7 : Nat → Int32) (g8 : Nat → Int32) (g9 : Nat → Int32), (0 ≤ i) → (i ≤ 6) → (mostk tt1 (vKind A px pn) i.toNat = (bs, ws)) → 6 - i < (fuel_ : Int) → ∀ (H : Heap) (locs : List Loc), St E (wO E a k b t x q ((iv (ik))) fd ++ (wS E k ((hk)) ((nk)) (k1, k2, k3, k4, k5, k6, k7, k8, k9) ++ (wS E b ((iv (hr A))) ((iv (pe A))) (xs, xi, xk, xc, xl, xr, xb, yl, yr) ++ (wS E t ((ht)) ((nt)) (t1, t2, t3, t4, t5, t6, t7, t8, t9) ++ (wX E x ((iv (tn))) ((e1)) ((e2)) ((e3)) ((e4)) tp ++ (wH E (q 0) ((iv (bq 0))) ((iv (sq 0))) c0 ++ (wH E (q 1) ((iv (bq 1))) ((iv (sq 1))) c1 ++ (wH E (q 2) ((iv (bq 2))) ((iv (sq 2))) c2 ++ (wH E (q 3) ((iv (bq 3))) ((iv (sq 3))) c3 ++ []))))))))) s H locs (wO E a k b t x q ((iv (ik))) fd ++ (wS E k ((hk)) ((nk)) (k1, k2, k3, k4, k5, k6, k7, k8, k9) ++ (wS E b ((iv (hr A))) ((iv (pe A))) (xs, xi, xk, xc, xl, xr, xb, yl, yr) ++ (wS E t ((th)) ((tm)) (g1, g2, g3, g4, g5, g6, g7, g8, g9) ++ (wX E x ((iv (tn))) ((e1)) ((e2)) ((e3)) ((e4)) tp ++ (wH E (q 0) ((iv (bq 0))) ((iv (sq 0))) c0 ++ (wH E (q 1) ((iv (bq 1))) ((iv (sq 1))) c1 ++ (wH E (q 2) ((iv (bq 2))) ((iv (sq 2))) c2 ++ (wH E (q 3) ((iv (bq 3))) ((iv (sq 3))) c3 ++ []))))))))) → ∀ ls : Array Slot, lv_has ls 6 [(0, .ref (a 0)), (1, .int (iv (px))), (2, .int (iv (pn))), (3, .int (iv (bs))), (4, .int (iv (ws))), (5, .int (iv (i)))] → W pp l e (rmk 5 111) s m args below meth c H locs 0 0 Q (F0 m 33 ls []) := by
        intro fuel_
        induction fuel_ with
        | zero =>
          intro i bs ws th tm g1 g2 g3 g4 g5 g6 g7 g8 g9 i0 i1 hm hn
          exfalso; omega
        | succ fuel_ ih =>
          intro i bs ws th tm g1 g2 g3 g4 g5 g6 g7 g8 g9 i0 i1 hm hn H locs h ls hl
          have hm2 : (mostk tt1 (vKind A px pn) i.toNat).2 = ws := by rw [hm]
          have rg := mostk_rng (may := tt1) (val := (vKind A px pn)) i.toNat (fun j j0 j1 hj => vKind_rng hI (by omega) (by omega) j0 (by omega))
          rw [hm] at rg; dsimp only at rg
          refine lv_iload X.1 X.2.1 dX4_kind_33 (lv_at hl 5 rfl) ?_
          refine z_bipush X (by decide) dX4_kind_35 ?_
          refine z_ic_ge (tgt := 95) X ⟨by omega, by omega⟩ ⟨by decide, by decide⟩ dX4_kind_37 (by decide) (fun c_37 => ?_) (fun c_37 => ?_)
          · refine lv_iload_n X.1 X.2.1 dX4_kind_95 rfl (lv_at hl 3 rfl) ?_
            have e9 : q_kind A ph px pn = (bs, A, ph) := by have hm9 := hm; rw [show i.toNat = 6 by omega] at hm9; unfold q_kind; rw [if_neg (by omega), hm9]
            exact ret _ _ _ _ _ (((iv (ik)), fd), ((hk), (nk), (k1, k2, k3, k4, k5, k6, k7, k8, k9)), ((iv (hr A)), (iv (pe A)), (xs, xi, xk, xc, xl, xr, xb, yl, yr)), ((th), (tm), (g1, g2, g3, g4, g5, g6, g7, g8, g9)), ((iv (tn)), (e1), (e2), (e3), (e4), tp), ((iv (bq 0)), (iv (sq 0)), c0), ((iv (bq 1)), (iv (sq 1)), c1), ((iv (bq 2)), (iv (sq 2)), c2), ((iv (bq 3)), (iv (sq 3)), c3)) h (by rw [e9]; exact ⟨rfl, ⟨rfl, rfl, hR, hI, hr9⟩, hK, hF, hT, hB⟩) dX4_kind_96
          · refine lv_aload_n X.1 X.2.1 dX4_kind_40 rfl (lv_at hl 0 rfl) ?_
            refine z_av h (run_V (rest := []) X h (c_X4_startTrial hR hI.n8) mi_X4_startTrial ml_X4_150 ⟨Nat.le_of_ble_eq_true rfl, Nat.le_of_ble_eq_true rfl⟩ ⟨rfl, rfl⟩ (Seg.rfl' _) 3 0 rfl rfl rfl rfl hl.1 rfl (Nat.le_of_ble_eq_true rfl) ⟨Nat.zero_le _, Nat.zero_le _⟩ dX4_kind_41) (fun _ => map_app rfl (map_app rfl (map_app rfl (map_app (wS_map _ _ _ _ _ _ _ _) rfl)))) (fun u H locs hp h => ?_)
            obtain ⟨r0_2, r1_2, r2_2, r3_2, r4_2, r5_2, r6_2, r7_2, r8_2⟩ := u
            have h : St E _ s H locs (wO E a k b t x q ((iv (ik))) fd ++ (wS E k ((hk)) ((nk)) (k1, k2, k3, k4, k5, k6, k7, k8, k9) ++ (wS E b ((iv (hr A))) ((iv (pe A))) (xs, xi, xk, xc, xl, xr, xb, yl, yr) ++ (wS E t ((iv (hr A))) ((iv (pe A))) (r0_2, r1_2, r2_2, r3_2, r4_2, r5_2, r6_2, r7_2, r8_2) ++ (wX E x ((iv (tn))) ((e1)) ((e2)) ((e3)) ((e4)) tp ++ (wH E (q 0) ((iv (bq 0))) ((iv (sq 0))) c0 ++ (wH E (q 1) ((iv (bq 1))) ((iv (sq 1))) c1 ++ (wH E (q 2) ((iv (bq 2))) ((iv (sq 2))) c2 ++ (wH E (q 3) ((iv (bq 3))) ((iv (sq 3))) c3 ++ []))))))))) := h
            have hRb2 : RS (r0_2, r1_2, r2_2, r3_2, r4_2, r5_2, r6_2, r7_2, r8_2) A := hp
            refine lv_aload_n X.1 X.2.1 dX4_kind_44 rfl (lv_at hl 0 rfl) ?_
            refine z_get X h 3 0 1 rfl inX4 rfl (by decide) fl_X4_16 rfl dX4_kind_45 ?_
            refine z_get X h 1 23 4 rfl inX1 rfl (by decide) fl_X4_97 rfl dX4_kind_48 ?_
            refine lv_iload_n X.1 X.2.1 dX4_kind_51 rfl (lv_at hl 1 rfl) ?_
            refine lv_iload X.1 X.2.1 dX4_kind_52 (lv_at hl 5 rfl) ?_
            refine s_iast X (st_in (st_in (st_in (st_nil h)))) 3 rfl (by omega) (by omega) (by decide) dX4_kind_54 (fun H locs h => ?_)
            have h := (st_lin (st_out (st_out (st_out (st_eq wS_kinds h)))))
            have h : St E _ s H locs (wO E a k b t x q ((iv (ik))) fd ++ (wS E k ((hk)) ((nk)) (k1, k2, k3, k4, k5, k6, k7, k8, k9) ++ (wS E b ((iv (hr A))) ((iv (pe A))) (xs, xi, xk, xc, xl, xr, xb, yl, yr) ++ (wS E t ((iv (hr A))) ((iv (pe A))) (r0_2, r1_2, (upd r2_2 (px : Int).toNat (iv (i))), r3_2, r4_2, r5_2, r6_2, r7_2, r8_2) ++ (wX E x ((iv (tn))) ((e1)) ((e2)) ((e3)) ((e4)) tp ++ (wH E (q 0) ((iv (bq 0))) ((iv (sq 0))) c0 ++ (wH E (q 1) ((iv (bq 1))) ((iv (sq 1))) c1 ++ (wH E (q 2) ((iv (bq 2))) ((iv (sq 2))) c2 ++ (wH E (q 3) ((iv (bq 3))) ((iv (sq 3))) c3 ++ []))))))))) := h
            have tRu : RS (r0_2, r1_2, (upd r2_2 (px : Int).toNat (iv (i))), r3_2, r4_2, r5_2, r6_2, r7_2, r8_2) (pu A 0 px i) := RS_ki hRb2 n0 (by omega)
            have tIu : IA (pu A 0 px i) := IA_pu hI (by omega) (by omega) (Or.inl ⟨rfl, by omega, by omega⟩)
            have pq9 : pe (pu A 0 px i) = pe A := rfl
            have bw := brnn_rng tIu pn.toNat (p := px) (by omega) (by show px < pe A; omega)
            refine lv_aload_n X.1 X.2.1 dX4_kind_55 rfl (lv_at hl 0 rfl) ?_
            refine z_get X h 3 0 1 rfl inX4 rfl (by decide) fl_X4_16 rfl dX4_kind_56 ?_
            refine lv_iload_n X.1 X.2.1 dX4_kind_59 rfl (lv_at hl 2 rfl) ?_
            refine z_wv (st_in (st_in (st_in (st_nil h)))) (run_V (rest := []) X (st_in (st_in (st_in (st_nil h)))) (c_X1_goOn (k := pn) tRu tIu (by omega) (by omega) (by first | omega | (show hr A + pn < 1000000; omega))) mi_X1_goOn ml_X4_146 ⟨Nat.le_of_ble_eq_true rfl, Nat.le_of_ble_eq_true rfl⟩ ⟨rfl, rfl⟩ (Seg.mk' _ _) 1 23 rfl rfl rfl rfl hl.1 rfl (Nat.le_of_ble_eq_true rfl) ⟨Nat.zero_le _, Nat.zero_le _⟩ dX4_kind_60) (fun _ => wS_map _ _ _ _ _ _ _ _) (fun u H locs hp h => ?_)
            have h := (st_lin (st_out (st_out (st_out h))))
            obtain ⟨z0_3, z1_3, z2_3, z3_3, z4_3, z5_3, z6_3, z7_3, z8_3⟩ := u
            have h : St E _ s H locs (wO E a k b t x q ((iv (ik))) fd ++ (wS E k ((hk)) ((nk)) (k1, k2, k3, k4, k5, k6, k7, k8, k9) ++ (wS E b ((iv (hr A))) ((iv (pe A))) (xs, xi, xk, xc, xl, xr, xb, yl, yr) ++ (wS E t ((iv (hr (stepn (pu A 0 px i) pn.toNat)))) ((iv (pe (stepn (pu A 0 px i) pn.toNat)))) (z0_3, z1_3, z2_3, z3_3, z4_3, z5_3, z6_3, z7_3, z8_3) ++ (wX E x ((iv (tn))) ((e1)) ((e2)) ((e3)) ((e4)) tp ++ (wH E (q 0) ((iv (bq 0))) ((iv (sq 0))) c0 ++ (wH E (q 1) ((iv (bq 1))) ((iv (sq 1))) c1 ++ (wH E (q 2) ((iv (bq 2))) ((iv (sq 2))) c2 ++ (wH E (q 3) ((iv (bq 3))) ((iv (sq 3))) c3 ++ []))))))))) := h
            have hR3 : RS (z0_3, z1_3, z2_3, z3_3, z4_3, z5_3, z6_3, z7_3, z8_3) (stepn (pu A 0 px i) pn.toNat) := hp
            have pn3 : pe (stepn (pu A 0 px i) pn.toNat) = pe (pu A 0 px i) := stepn_pe _ _
            refine lv_aload_n X.1 X.2.1 dX4_kind_63 rfl (lv_at hl 0 rfl) ?_
            refine z_get X h 3 0 1 rfl inX4 rfl (by decide) fl_X4_16 rfl dX4_kind_64 ?_
            refine lv_iload_n X.1 X.2.1 dX4_kind_67 rfl (lv_at hl 1 rfl) ?_
            refine z_pi (run_V (rest := []) X (st_in (st_in (st_in (st_nil h)))) (c_X1_brownOf (p := px) hR3 (stepn_IA tIu pn.toNat) (by omega) (by omega)) mi_X1_brownOf ml_X4_128 ⟨Nat.le_of_ble_eq_true rfl, Nat.le_of_ble_eq_true rfl⟩ ⟨rfl, rfl⟩ (Seg.mk' _ _) 1 23 rfl rfl rfl rfl hl.1 rfl (Nat.le_of_ble_eq_true rfl) ⟨Nat.zero_le _, Nat.zero_le _⟩ dX4_kind_68) ?_
            refine lv_iload X.1 X.2.1 dX4_kind_71 (lv_at hl 4 rfl) ?_
            refine z_ic_le (tgt := 89) X ⟨by omega, by omega⟩ ⟨by omega, by omega⟩ dX4_kind_73 (by decide) (fun c_73 => ?_) (fun c_73 => ?_)
            · refine z_iinc (k := 5) (lv' := [(5, .int (iv (i + 1))), (0, .ref (a 0)), (1, .int (iv (px))), (2, .int (iv (pn))), (3, .int (iv (bs))), (4, .int (iv (ws)))]) X dX4_kind_89 hl rfl (by decide) rfl (fun ls hl => ?_)
              refine lv_goto (tgt := 33) X.1 X.2.1 dX4_kind_92 (by decide) ?_
              exact ih (i + 1) (bs) (ws) ((iv (hr (stepn (pu A 0 px i) pn.toNat)))) ((iv (pe (stepn (pu A 0 px i) pn.toNat)))) (z0_3) (z1_3) (z2_3) (z3_3) (z4_3) (z5_3) (z6_3) (z7_3) (z8_3) (by omega) (by omega) ((mostk_n i0 hm2 (fun _ => (show brn (stepn (pu A 0 px i) pn.toNat) px ≤ ws by omega))).trans hm) (by omega) _ _ h ls (lv_sub hl [1, 2, 3, 4, 5, 0] rfl)
            · refine lv_aload_n X.1 X.2.1 dX4_kind_76 rfl (lv_at hl 0 rfl) ?_
              refine z_get X h 3 0 1 rfl inX4 rfl (by decide) fl_X4_16 rfl dX4_kind_77 ?_
              refine lv_iload_n X.1 X.2.1 dX4_kind_80 rfl (lv_at hl 1 rfl) ?_
              refine z_pi (run_V (rest := []) X (st_in (st_in (st_in (st_nil h)))) (c_X1_brownOf (p := px) hR3 (stepn_IA tIu pn.toNat) (by omega) (by omega)) mi_X1_brownOf ml_X4_128 ⟨Nat.le_of_ble_eq_true rfl, Nat.le_of_ble_eq_true rfl⟩ ⟨rfl, rfl⟩ (Seg.mk' _ _) 1 23 rfl rfl rfl rfl hl.1 rfl (Nat.le_of_ble_eq_true rfl) ⟨Nat.zero_le _, Nat.zero_le _⟩ dX4_kind_81) ?_
              refine lv_istore (lv' := [(4, .int (iv (brn (stepn (pu A 0 px i) pn.toNat) px))), (0, .ref (a 0)), (1, .int (iv (px))), (2, .int (iv (pn))), (3, .int (iv (bs))), (5, .int (iv (i)))]) X.1 X.2.1 dX4_kind_84 hl (by decide) rfl (fun ls hl => ?_)
              refine lv_iload X.1 X.2.1 dX4_kind_86 (lv_at hl 5 rfl) ?_
              refine lv_istore_n (lv' := [(3, .int (iv (i))), (4, .int (iv (brn (stepn (pu A 0 px i) pn.toNat) px))), (0, .ref (a 0)), (1, .int (iv (px))), (2, .int (iv (pn))), (5, .int (iv (i)))]) X.1 X.2.1 dX4_kind_88 rfl hl (by decide) rfl (fun ls hl => ?_)
              refine z_iinc (k := 5) (lv' := [(5, .int (iv (i + 1))), (3, .int (iv (i))), (4, .int (iv (brn (stepn (pu A 0 px i) pn.toNat) px))), (0, .ref (a 0)), (1, .int (iv (px))), (2, .int (iv (pn)))]) X dX4_kind_89 hl rfl (by decide) rfl (fun ls hl => ?_)
              refine lv_goto (tgt := 33) X.1 X.2.1 dX4_kind_92 (by decide) ?_
              exact ih (i + 1) (i) (brn (stepn (pu A 0 px i) pn.toNat) px) ((iv (hr (stepn (pu A 0 px i) pn.toNat)))) ((iv (pe (stepn (pu A 0 px i) pn.toNat)))) (z0_3) (z1_3) (z2_3) (z3_3) (z4_3) (z5_3) (z6_3) (z7_3) (z8_3) (by omega) (by omega) (mostk_y i0 hm2 rfl (show ws < brn (stepn (pu A 0 px i) pn.toNat) px by omega)) (by omega) _ _ h ls (lv_sub hl [3, 4, 5, 1, 2, 0] rfl)
      exact L33 ((6 - (0) : Int).toNat + 1) (0) (-1) (-1) ((ht)) ((nt)) (t1) (t2) (t3) (t4) (t5) (t6) (t7) (t8) (t9) (by omega) (by omega) (rfl) (by omega) _ _ h ls (lv_sub hl [3, 4, 5, 2, 1, 0] rfl)
    · refine lv_aload_n X.1 X.2.1 dX4_kind_18 rfl (lv_at hl 0 rfl) ?_
      refine z_ldc (z := (-1000000001)) X ct_X4_48 (by decide) dX4_kind_19 ?_
      refine z_wi (st_sing (st_nil h)) (run_V (rest := []) X (st_sing (st_nil h)) (c_X4_finding (j := 0) hF (by decide) (by decide) (by decide)) mi_X4_finding ml_X4_49 ⟨Nat.le_of_ble_eq_true rfl, Nat.le_of_ble_eq_true rfl⟩ ⟨rfl, rfl⟩ (Seg.mk' _ _) 3 0 rfl rfl rfl rfl hl.1 rfl (Nat.le_of_ble_eq_true rfl) ⟨Nat.zero_le _, Nat.zero_le _⟩ dX4_kind_21) (fun _ => map_app (wO_map _ _ _ _ _ _ _ _ _ _ _) rfl) (fun r fd4 H locs hp h => ?_)
      have h := (st_lin (st_gnis h))
      obtain ⟨rfl, hF4⟩ := hp
      have h : St E _ s H locs (wO E a k b t x q ((iv (ik))) fd4 ++ (wS E k ((hk)) ((nk)) (k1, k2, k3, k4, k5, k6, k7, k8, k9) ++ (wS E b ((iv (hr A))) ((iv (pe A))) (xs, xi, xk, xc, xl, xr, xb, yl, yr) ++ (wS E t ((ht)) ((nt)) (t1, t2, t3, t4, t5, t6, t7, t8, t9) ++ (wX E x ((iv (tn))) ((e1)) ((e2)) ((e3)) ((e4)) tp ++ (wH E (q 0) ((iv (bq 0))) ((iv (sq 0))) c0 ++ (wH E (q 1) ((iv (bq 1))) ((iv (sq 1))) c1 ++ (wH E (q 2) ((iv (bq 2))) ((iv (sq 2))) c2 ++ (wH E (q 3) ((iv (bq 3))) ((iv (sq 3))) c3 ++ []))))))))) := h
      have e9 : q_kind A ph px pn = ((-1000000001), A, (bump ph 0)) := by unfold q_kind; (repeat (first | rw [if_pos (by omega)] | rw [if_neg (by omega)])); try rfl
      exact ret _ _ _ _ _ (((iv (ik)), fd4), ((hk), (nk), (k1, k2, k3, k4, k5, k6, k7, k8, k9)), ((iv (hr A)), (iv (pe A)), (xs, xi, xk, xc, xl, xr, xb, yl, yr)), ((ht), (nt), (t1, t2, t3, t4, t5, t6, t7, t8, t9)), ((iv (tn)), (e1), (e2), (e3), (e4), tp), ((iv (bq 0)), (iv (sq 0)), c0), ((iv (bq 1)), (iv (sq 1)), c1), ((iv (bq 2)), (iv (sq 2)), c2), ((iv (bq 3)), (iv (sq 3)), c3)) h (by rw [e9]; exact ⟨rfl, ⟨rfl, rfl, hR, hI, hr9⟩, hK, hF4, hT, hB⟩) dX4_kind_24

set_option maxHeartbeats 4000000 in
theorem c_X4_send (hS : RepC (((iv (ik)), fd), ((hk), (nk), (k1, k2, k3, k4, k5, k6, k7, k8, k9)), ((iv (hr A)), (iv (pe A)), (xs, xi, xk, xc, xl, xr, xb, yl, yr)), ((ht), (nt), (t1, t2, t3, t4, t5, t6, t7, t8, t9)), ((iv (tn)), (e1), (e2), (e3), (e4), tp), ((iv (bq 0)), (iv (sq 0)), c0), ((iv (bq 1)), (iv (sq 1)), c1), ((iv (bq 2)), (iv (sq 2)), c2), ((iv (bq 3)), (iv (sq 3)), c3)) (A, K, ik, ph, tq, tn, bq, sq, cq)) {pn : Int} (r_pn : r32 pn) : MI (S := Tc) E l yX4_send cX4_send 6 (some FieldType.int) (rmk 5 111) (wO E a k b t x q ((iv (ik))) fd ++ (wS E k ((hk)) ((nk)) (k1, k2, k3, k4, k5, k6, k7, k8, k9) ++ (wS E b ((iv (hr A))) ((iv (pe A))) (xs, xi, xk, xc, xl, xr, xb, yl, yr) ++ (wS E t ((ht)) ((nt)) (t1, t2, t3, t4, t5, t6, t7, t8, t9) ++ (wX E x ((iv (tn))) ((e1)) ((e2)) ((e3)) ((e4)) tp ++ (wH E (q 0) ((iv (bq 0))) ((iv (sq 0))) c0 ++ (wH E (q 1) ((iv (bq 1))) ((iv (sq 1))) c1 ++ (wH E (q 2) ((iv (bq 2))) ((iv (sq 2))) c2 ++ (wH E (q 3) ((iv (bq 3))) ((iv (sq 3))) c3 ++ []))))))))) [.ref (a 0), .int (iv (pn))] (fun r u => r = iv (q_send A ph pn).1 ∧ RepC u ((q_send A ph pn).2.1, K, ik, (q_send A ph pn).2.2, tq, tn, bq, sq, cq)) (fun u => wT E a k b t x q u) := by
  refine goI (S := Tc) (post := fun r u => r = iv (q_send A ph pn).1 ∧ RepC u ((q_send A ph pn).2.1, K, ik, (q_send A ph pn).2.2, tq, tn, bq, sq, cq)) (ws' := fun u => wT E a k b t x q u) (by decide) (Nat.le_of_ble_eq_true rfl) ?_
  intro pp e s m below meth c ls args Q ret X h hl
  have hl : lv_has ls 6 [(0, .ref (a 0)), (1, .int (iv (pn)))] := hl
  have hR : RS (xs, xi, xk, xc, xl, xr, xb, yl, yr) A := hS.1.2.2.1
  have hI : IA A := hS.1.2.2.2.1
  have hr9 : hr A ≤ 99999 := hS.1.2.2.2.2
  have hF : RF 7 fd ph := hS.2.2.1
  have hK := hS.2.1
  have hT := hS.2.2.2.1
  have hB := hS.2.2.2.2
  have hh : hr A < 1000000 := by omega
  have n8 := hI.n8
  have n0 := hI.n0
  have h0 := hI.h0
  refine lv_iload_n X.1 X.2.1 dX4_send_0 rfl (lv_at hl 1 rfl) ?_
  refine z_iconst X dX4_send_1 ?_
  refine z_bipush X (by decide) dX4_send_2 ?_
  refine z_pi (run_S (rest := []) X h (c_X4_within r_pn ⟨by decide, by decide⟩ ⟨by decide, by decide⟩) mi_X4_within ml_X4_44 ⟨Nat.le_of_ble_eq_true rfl, Nat.le_of_ble_eq_true rfl⟩ ⟨rfl, rfl⟩ (Seg.nil _) rfl hl.1 rfl (Nat.le_of_ble_eq_true rfl) ⟨Nat.zero_le _, Nat.zero_le _⟩ dX4_send_4) ?_
  refine z_ifb_ne (tgt := 17) X dX4_send_7 (by decide) (fun c_7 => ?_) (fun c_7 => ?_)
  · refine z_iconst X dX4_send_17 ?_
    refine lv_istore_n (lv' := [(2, .int (iv ((-1)))), (0, .ref (a 0)), (1, .int (iv (pn)))]) X.1 X.2.1 dX4_send_18 rfl hl (by decide) rfl (fun ls hl => ?_)
    refine z_iconst X dX4_send_19 ?_
    refine lv_istore_n (lv' := [(3, .int (iv (0))), (2, .int (iv ((-1)))), (0, .ref (a 0)), (1, .int (iv (pn)))]) X.1 X.2.1 dX4_send_20 rfl hl (by decide) rfl (fun ls hl => ?_)
    refine z_iconst X dX4_send_21 ?_
    refine lv_istore (lv' := [(4, .int (iv (0))), (3, .int (iv (0))), (2, .int (iv ((-1)))), (0, .ref (a 0)), (1, .int (iv (pn)))]) X.1 X.2.1 dX4_send_22 hl (by decide) rfl (fun ls hl => ?_)
    have L24 : ∀ (fuel_ : Nat) (i : Int) (bs : Int) (ws : Int) (th : Int32) (tm : Int32) (g1 : Nat → Int32) (g2 : Nat → Int32) (g3 : Nat → Int32) (g4 : Nat → Int32) (g5 : Nat → Int32) (g6 : Nat → Int32) (g7 : Nat → Int32) (g8 : Nat → Int32) (g9 : Nat → Int32), (0 ≤ i) → (i ≤ pe A) → (leastk (sitB A) (vSend A pn) i.toNat = (bs, ws)) → pe A - i < (fuel_ : Int) → ∀ (H : Heap) (locs : List Loc), St E (wO E a k b t x q ((iv (ik))) fd ++ (wS E k ((hk)) ((nk)) (k1, k2, k3, k4, k5, k6, k7, k8, k9) ++ (wS E b ((iv (hr A))) ((iv (pe A))) (xs, xi, xk, xc, xl, xr, xb, yl, yr) ++ (wS E t ((ht)) ((nt)) (t1, t2, t3, t4, t5, t6, t7, t8, t9) ++ (wX E x ((iv (tn))) ((e1)) ((e2)) ((e3)) ((e4)) tp ++ (wH E (q 0) ((iv (bq 0))) ((iv (sq 0))) c0 ++ (wH E (q 1) ((iv (bq 1))) ((iv (sq 1))) c1 ++ (wH E (q 2) ((iv (bq 2))) ((iv (sq 2))) c2 ++ (wH E (q 3) ((iv (bq 3))) ((iv (sq 3))) c3 ++ []))))))))) s H locs (wO E a k b t x q ((iv (ik))) fd ++ (wS E k ((hk)) ((nk)) (k1, k2, k3, k4, k5, k6, k7, k8, k9) ++ (wS E b ((iv (hr A))) ((iv (pe A))) (xs, xi, xk, xc, xl, xr, xb, yl, yr) ++ (wS E t ((th)) ((tm)) (g1, g2, g3, g4, g5, g6, g7, g8, g9) ++ (wX E x ((iv (tn))) ((e1)) ((e2)) ((e3)) ((e4)) tp ++ (wH E (q 0) ((iv (bq 0))) ((iv (sq 0))) c0 ++ (wH E (q 1) ((iv (bq 1))) ((iv (sq 1))) c1 ++ (wH E (q 2) ((iv (bq 2))) ((iv (sq 2))) c2 ++ (wH E (q 3) ((iv (bq 3))) ((iv (sq 3))) c3 ++ []))))))))) → ∀ ls : Array Slot, lv_has ls 6 [(0, .ref (a 0)), (1, .int (iv (pn))), (2, .int (iv (bs))), (3, .int (iv (ws))), (4, .int (iv (i)))] → W pp l e (rmk 5 111) s m args below meth c H locs 0 0 Q (F0 m 24 ls []) := by
      intro fuel_
      induction fuel_ with
      | zero =>
        intro i bs ws th tm g1 g2 g3 g4 g5 g6 g7 g8 g9 i0 i1 hm hn
        exfalso; omega
      | succ fuel_ ih =>
        intro i bs ws th tm g1 g2 g3 g4 g5 g6 g7 g8 g9 i0 i1 hm hn H locs h ls hl
        have hm2 : (leastk (sitB A) (vSend A pn) i.toNat).2 = ws := by rw [hm]
        have rg := leastk_rng (may := (sitB A)) (val := (vSend A pn)) i.toNat (fun j j0 j1 hj => vSend_rng hI j0 (by omega))
        rw [hm] at rg; dsimp only at rg
        refine lv_iload X.1 X.2.1 dX4_send_24 (lv_at hl 4 rfl) ?_
        refine lv_aload_n X.1 X.2.1 dX4_send_26 rfl (lv_at hl 0 rfl) ?_
        refine z_get X h 3 0 0 rfl inX4 rfl (by decide) fl_X4_10 rfl dX4_send_27 ?_
        refine z_get X h 1 13 1 rfl inX1 rfl (by decide) fl_X4_86 rfl dX4_send_30 ?_
        refine z_ic_ge (tgt := 101) X ⟨by omega, by omega⟩ ⟨by omega, by omega⟩ dX4_send_33 (by decide) (fun c_33 => ?_) (fun c_33 => ?_)
        · refine lv_iload_n X.1 X.2.1 dX4_send_101 rfl (lv_at hl 2 rfl) ?_
          refine z_if_lt (tgt := 109) X ⟨by omega, by omega⟩ dX4_send_102 (by decide) (fun c_102 => ?_) (fun c_102 => ?_)
          · refine lv_aload_n X.1 X.2.1 dX4_send_109 rfl (lv_at hl 0 rfl) ?_
            refine z_ldc (z := (-1000000004)) X ct_X4_156 (by decide) dX4_send_110 ?_
            refine z_wi (st_sing (st_nil h)) (run_V (rest := []) X (st_sing (st_nil h)) (c_X4_finding (j := 3) hF (by decide) (by decide) (by decide)) mi_X4_finding ml_X4_49 ⟨Nat.le_of_ble_eq_true rfl, Nat.le_of_ble_eq_true rfl⟩ ⟨rfl, rfl⟩ (Seg.mk' _ _) 3 0 rfl rfl rfl rfl hl.1 rfl (Nat.le_of_ble_eq_true rfl) ⟨Nat.zero_le _, Nat.zero_le _⟩ dX4_send_112) (fun _ => map_app (wO_map _ _ _ _ _ _ _ _ _ _ _) rfl) (fun r fd1 H locs hp h => ?_)
            have h := (st_lin (st_gnis h))
            obtain ⟨rfl, hF1⟩ := hp
            have h : St E _ s H locs (wO E a k b t x q ((iv (ik))) fd1 ++ (wS E k ((hk)) ((nk)) (k1, k2, k3, k4, k5, k6, k7, k8, k9) ++ (wS E b ((iv (hr A))) ((iv (pe A))) (xs, xi, xk, xc, xl, xr, xb, yl, yr) ++ (wS E t ((th)) ((tm)) (g1, g2, g3, g4, g5, g6, g7, g8, g9) ++ (wX E x ((iv (tn))) ((e1)) ((e2)) ((e3)) ((e4)) tp ++ (wH E (q 0) ((iv (bq 0))) ((iv (sq 0))) c0 ++ (wH E (q 1) ((iv (bq 1))) ((iv (sq 1))) c1 ++ (wH E (q 2) ((iv (bq 2))) ((iv (sq 2))) c2 ++ (wH E (q 3) ((iv (bq 3))) ((iv (sq 3))) c3 ++ []))))))))) := h
            have e9 : q_send A ph pn = ((-1000000004), A, (bump ph 3)) := by first | (unfold q_send; rw [if_pos (by omega)]; rfl) | (have hm9 := hm; rw [show i.toNat = (pe A).toNat by omega] at hm9; unfold q_send; rw [if_neg (by omega), hm9]; unfold orN; dsimp only; first | (rw [if_pos (by omega)]; rfl) | (rw [if_neg (by omega)]))
            exact ret _ _ _ _ _ (((iv (ik)), fd1), ((hk), (nk), (k1, k2, k3, k4, k5, k6, k7, k8, k9)), ((iv (hr A)), (iv (pe A)), (xs, xi, xk, xc, xl, xr, xb, yl, yr)), ((th), (tm), (g1, g2, g3, g4, g5, g6, g7, g8, g9)), ((iv (tn)), (e1), (e2), (e3), (e4), tp), ((iv (bq 0)), (iv (sq 0)), c0), ((iv (bq 1)), (iv (sq 1)), c1), ((iv (bq 2)), (iv (sq 2)), c2), ((iv (bq 3)), (iv (sq 3)), c3)) h (by rw [e9]; exact ⟨rfl, ⟨rfl, rfl, hR, hI, hr9⟩, hK, hF1, hT, hB⟩) dX4_send_115
          · refine lv_iload_n X.1 X.2.1 dX4_send_105 rfl (lv_at hl 2 rfl) ?_
            refine lv_goto (tgt := 115) X.1 X.2.1 dX4_send_106 (by decide) ?_
            have e9 : q_send A ph pn = (bs, A, ph) := by first | (unfold q_send; rw [if_pos (by omega)]; rfl) | (have hm9 := hm; rw [show i.toNat = (pe A).toNat by omega] at hm9; unfold q_send; rw [if_neg (by omega), hm9]; unfold orN; dsimp only; first | (rw [if_pos (by omega)]; rfl) | (rw [if_neg (by omega)]))
            exact ret _ _ _ _ _ (((iv (ik)), fd), ((hk), (nk), (k1, k2, k3, k4, k5, k6, k7, k8, k9)), ((iv (hr A)), (iv (pe A)), (xs, xi, xk, xc, xl, xr, xb, yl, yr)), ((th), (tm), (g1, g2, g3, g4, g5, g6, g7, g8, g9)), ((iv (tn)), (e1), (e2), (e3), (e4), tp), ((iv (bq 0)), (iv (sq 0)), c0), ((iv (bq 1)), (iv (sq 1)), c1), ((iv (bq 2)), (iv (sq 2)), c2), ((iv (bq 3)), (iv (sq 3)), c3)) h (by rw [e9]; exact ⟨rfl, ⟨rfl, rfl, hR, hI, hr9⟩, hK, hF, hT, hB⟩) dX4_send_115
        · refine lv_aload_n X.1 X.2.1 dX4_send_36 rfl (lv_at hl 0 rfl) ?_
          refine z_get X h 3 0 0 rfl inX4 rfl (by decide) fl_X4_10 rfl dX4_send_37 ?_
          refine lv_iload X.1 X.2.1 dX4_send_40 (lv_at hl 4 rfl) ?_
          refine z_pi (run_V (rest := []) X (st_in (st_in (st_nil h))) (c_X1_sits (p := i) hR hI (by omega) (by omega)) mi_X1_sits ml_X4_160 ⟨Nat.le_of_ble_eq_true rfl, Nat.le_of_ble_eq_true rfl⟩ ⟨rfl, rfl⟩ (Seg.mk' _ _) 1 13 rfl rfl rfl rfl hl.1 rfl (Nat.le_of_ble_eq_true rfl) ⟨Nat.zero_le _, Nat.zero_le _⟩ dX4_send_42) ?_
          refine z_ifb_eq (tgt := 95) X dX4_send_45 (by decide) (fun c_45 => ?_) (fun c_45 => ?_)
          · refine z_iinc (k := 4) (lv' := [(4, .int (iv (i + 1))), (0, .ref (a 0)), (1, .int (iv (pn))), (2, .int (iv (bs))), (3, .int (iv (ws)))]) X dX4_send_95 hl rfl (by decide) rfl (fun ls hl => ?_)
            refine lv_goto (tgt := 24) X.1 X.2.1 dX4_send_98 (by decide) ?_
            exact ih (i + 1) (bs) (ws) ((th)) ((tm)) (g1) (g2) (g3) (g4) (g5) (g6) (g7) (g8) (g9) (by omega) (by omega) ((leastk_n i0 hm (fun hq => by simp only [sitB, decide_eq_true_eq] at hq; omega)).trans hm) (by omega) _ _ h ls (lv_sub hl [1, 2, 3, 4, 0] rfl)
          · refine lv_aload_n X.1 X.2.1 dX4_send_48 rfl (lv_at hl 0 rfl) ?_
            refine z_av h (run_V (rest := []) X h (c_X4_startTrial hR hI.n8) mi_X4_startTrial ml_X4_150 ⟨Nat.le_of_ble_eq_true rfl, Nat.le_of_ble_eq_true rfl⟩ ⟨rfl, rfl⟩ (Seg.rfl' _) 3 0 rfl rfl rfl rfl hl.1 rfl (Nat.le_of_ble_eq_true rfl) ⟨Nat.zero_le _, Nat.zero_le _⟩ dX4_send_49) (fun _ => map_app rfl (map_app rfl (map_app rfl (map_app (wS_map _ _ _ _ _ _ _ _) rfl)))) (fun u H locs hp h => ?_)
            obtain ⟨r0_2, r1_2, r2_2, r3_2, r4_2, r5_2, r6_2, r7_2, r8_2⟩ := u
            have h : St E _ s H locs (wO E a k b t x q ((iv (ik))) fd ++ (wS E k ((hk)) ((nk)) (k1, k2, k3, k4, k5, k6, k7, k8, k9) ++ (wS E b ((iv (hr A))) ((iv (pe A))) (xs, xi, xk, xc, xl, xr, xb, yl, yr) ++ (wS E t ((iv (hr A))) ((iv (pe A))) (r0_2, r1_2, r2_2, r3_2, r4_2, r5_2, r6_2, r7_2, r8_2) ++ (wX E x ((iv (tn))) ((e1)) ((e2)) ((e3)) ((e4)) tp ++ (wH E (q 0) ((iv (bq 0))) ((iv (sq 0))) c0 ++ (wH E (q 1) ((iv (bq 1))) ((iv (sq 1))) c1 ++ (wH E (q 2) ((iv (bq 2))) ((iv (sq 2))) c2 ++ (wH E (q 3) ((iv (bq 3))) ((iv (sq 3))) c3 ++ []))))))))) := h
            have hRb2 : RS (r0_2, r1_2, r2_2, r3_2, r4_2, r5_2, r6_2, r7_2, r8_2) A := hp
            refine lv_aload_n X.1 X.2.1 dX4_send_52 rfl (lv_at hl 0 rfl) ?_
            refine z_get X h 3 0 1 rfl inX4 rfl (by decide) fl_X4_16 rfl dX4_send_53 ?_
            refine lv_iload X.1 X.2.1 dX4_send_56 (lv_at hl 4 rfl) ?_
            refine z_iconst X dX4_send_58 ?_
            refine z_wv (st_in (st_in (st_in (st_nil h)))) (run_V (rest := []) X (st_in (st_in (st_in (st_nil h)))) (c_X1_seat (p := i) (d := ((-1))) hRb2 hI (by omega) (by first | omega | (show i < pe A; omega)) (by omega) (by omega) (by omega)) mi_X1_seat ml_X4_135 ⟨Nat.le_of_ble_eq_true rfl, Nat.le_of_ble_eq_true rfl⟩ ⟨rfl, rfl⟩ (Seg.mk' _ _) 1 23 rfl rfl rfl rfl hl.1 rfl (Nat.le_of_ble_eq_true rfl) ⟨Nat.zero_le _, Nat.zero_le _⟩ dX4_send_59) (fun _ => wS_map _ _ _ _ _ _ _ _) (fun u H locs hp h => ?_)
            have h := (st_lin (st_out (st_out (st_out h))))
            obtain ⟨z0_3, z1_3, z2_3, z3_3, z4_3, z5_3, z6_3, z7_3, z8_3⟩ := u
            have h : St E _ s H locs (wO E a k b t x q ((iv (ik))) fd ++ (wS E k ((hk)) ((nk)) (k1, k2, k3, k4, k5, k6, k7, k8, k9) ++ (wS E b ((iv (hr A))) ((iv (pe A))) (xs, xi, xk, xc, xl, xr, xb, yl, yr) ++ (wS E t ((iv (hr A))) ((iv (pe A))) (z0_3, z1_3, z2_3, z3_3, z4_3, z5_3, z6_3, z7_3, z8_3) ++ (wX E x ((iv (tn))) ((e1)) ((e2)) ((e3)) ((e4)) tp ++ (wH E (q 0) ((iv (bq 0))) ((iv (sq 0))) c0 ++ (wH E (q 1) ((iv (bq 1))) ((iv (sq 1))) c1 ++ (wH E (q 2) ((iv (bq 2))) ((iv (sq 2))) c2 ++ (wH E (q 3) ((iv (bq 3))) ((iv (sq 3))) c3 ++ []))))))))) := h
            have hR3 : RS (z0_3, z1_3, z2_3, z3_3, z4_3, z5_3, z6_3, z7_3, z8_3) (pu A 1 i ((-1))) := hp
            have hI3 : IA (pu A 1 i ((-1))) := IA_sit hI (by omega) (by first | omega | (show i < pe A; omega)) (by omega) (by omega) (by omega)
            have sR := vSend_rng hI (n := pn) (p := i) (by omega) (by omega)
            unfold vSend at sR
            refine lv_aload_n X.1 X.2.1 dX4_send_62 rfl (lv_at hl 0 rfl) ?_
            refine z_get X h 3 0 1 rfl inX4 rfl (by decide) fl_X4_16 rfl dX4_send_63 ?_
            refine lv_iload_n X.1 X.2.1 dX4_send_66 rfl (lv_at hl 1 rfl) ?_
            refine z_wv (st_in (st_in (st_in (st_nil h)))) (run_V (rest := []) X (st_in (st_in (st_in (st_nil h)))) (c_X1_goOn (k := pn) hR3 hI3 (by omega) (by omega) (by first | omega | (show hr A + pn < 1000000; omega))) mi_X1_goOn ml_X4_146 ⟨Nat.le_of_ble_eq_true rfl, Nat.le_of_ble_eq_true rfl⟩ ⟨rfl, rfl⟩ (Seg.mk' _ _) 1 23 rfl rfl rfl rfl hl.1 rfl (Nat.le_of_ble_eq_true rfl) ⟨Nat.zero_le _, Nat.zero_le _⟩ dX4_send_67) (fun _ => wS_map _ _ _ _ _ _ _ _) (fun u H locs hp h => ?_)
            have h := (st_lin (st_out (st_out (st_out h))))
            obtain ⟨z0_4, z1_4, z2_4, z3_4, z4_4, z5_4, z6_4, z7_4, z8_4⟩ := u
            have h : St E _ s H locs (wO E a k b t x q ((iv (ik))) fd ++ (wS E k ((hk)) ((nk)) (k1, k2, k3, k4, k5, k6, k7, k8, k9) ++ (wS E b ((iv (hr A))) ((iv (pe A))) (xs, xi, xk, xc, xl, xr, xb, yl, yr) ++ (wS E t ((iv (hr (stepn (pu A 1 i ((-1))) pn.toNat)))) ((iv (pe (stepn (pu A 1 i ((-1))) pn.toNat)))) (z0_4, z1_4, z2_4, z3_4, z4_4, z5_4, z6_4, z7_4, z8_4) ++ (wX E x ((iv (tn))) ((e1)) ((e2)) ((e3)) ((e4)) tp ++ (wH E (q 0) ((iv (bq 0))) ((iv (sq 0))) c0 ++ (wH E (q 1) ((iv (bq 1))) ((iv (sq 1))) c1 ++ (wH E (q 2) ((iv (bq 2))) ((iv (sq 2))) c2 ++ (wH E (q 3) ((iv (bq 3))) ((iv (sq 3))) c3 ++ []))))))))) := h
            have hR4 : RS (z0_4, z1_4, z2_4, z3_4, z4_4, z5_4, z6_4, z7_4, z8_4) (stepn (pu A 1 i ((-1))) pn.toNat) := hp
            have pn4 : pe (stepn (pu A 1 i ((-1))) pn.toNat) = pe (pu A 1 i ((-1))) := stepn_pe _ _
            refine lv_aload_n X.1 X.2.1 dX4_send_70 rfl (lv_at hl 0 rfl) ?_
            refine z_get X h 3 0 1 rfl inX4 rfl (by decide) fl_X4_16 rfl dX4_send_71 ?_
            refine z_pi (run_V (rest := []) X (st_in (st_in (st_in (st_nil h)))) (c_X1_burntOfAll hR4 (stepn_IA hI3 pn.toNat)) mi_X1_burntOfAll ml_X4_79 ⟨Nat.le_of_ble_eq_true rfl, Nat.le_of_ble_eq_true rfl⟩ ⟨rfl, rfl⟩ (Seg.mk' _ _) 1 23 rfl rfl rfl rfl hl.1 rfl (Nat.le_of_ble_eq_true rfl) ⟨Nat.zero_le _, Nat.zero_le _⟩ dX4_send_74) ?_
            refine lv_istore (lv' := [(5, .int (iv (sums (stepn (pu A 1 i ((-1))) pn.toNat) 4))), (0, .ref (a 0)), (1, .int (iv (pn))), (2, .int (iv (bs))), (3, .int (iv (ws))), (4, .int (iv (i)))]) X.1 X.2.1 dX4_send_77 hl (by decide) rfl (fun ls hl => ?_)
            refine lv_iload_n X.1 X.2.1 dX4_send_79 rfl (lv_at hl 3 rfl) ?_
            refine z_if_lt (tgt := 89) X ⟨by omega, by omega⟩ dX4_send_80 (by decide) (fun c_80 => ?_) (fun c_80 => ?_)
            · refine lv_iload X.1 X.2.1 dX4_send_89 (lv_at hl 0 rfl) ?_
              refine lv_istore_n (lv' := [(3, .int (iv (sums (stepn (pu A 1 i ((-1))) pn.toNat) 4))), (5, .int (iv (sums (stepn (pu A 1 i ((-1))) pn.toNat) 4))), (0, .ref (a 0)), (1, .int (iv (pn))), (2, .int (iv (bs))), (4, .int (iv (i)))]) X.1 X.2.1 dX4_send_91 rfl hl (by decide) rfl (fun ls hl => ?_)
              refine lv_iload X.1 X.2.1 dX4_send_92 (lv_at hl 5 rfl) ?_
              refine lv_istore_n (lv' := [(2, .int (iv (i))), (3, .int (iv (sums (stepn (pu A 1 i ((-1))) pn.toNat) 4))), (5, .int (iv (sums (stepn (pu A 1 i ((-1))) pn.toNat) 4))), (0, .ref (a 0)), (1, .int (iv (pn))), (4, .int (iv (i)))]) X.1 X.2.1 dX4_send_94 rfl hl (by decide) rfl (fun ls hl => ?_)
              refine z_iinc (k := 5) (lv' := [(4, .int (iv (i + 1))), (2, .int (iv (i))), (3, .int (iv (sums (stepn (pu A 1 i ((-1))) pn.toNat) 4))), (5, .int (iv (sums (stepn (pu A 1 i ((-1))) pn.toNat) 4))), (0, .ref (a 0)), (1, .int (iv (pn)))]) X dX4_send_95 hl rfl (by decide) rfl (fun ls hl => ?_)
              refine lv_goto (tgt := 24) X.1 X.2.1 dX4_send_98 (by decide) ?_
              exact ih (i + 1) (i) (sums (stepn (pu A 1 i ((-1))) pn.toNat) 4) ((iv (hr (stepn (pu A 1 i ((-1))) pn.toNat)))) ((iv (pe (stepn (pu A 1 i ((-1))) pn.toNat)))) (z0_4) (z1_4) (z2_4) (z3_4) (z4_4) (z5_4) (z6_4) (z7_4) (z8_4) (by omega) (by omega) (leastk_y i0 hm (by simp only [sitB, decide_eq_true_eq]; omega) (show bs < 0 ∨ sums (stepn (pu A 1 i (-1)) pn.toNat) 4 < ws by omega)) (by omega) _ _ h ls (lv_sub hl [4, 5, 1, 2, 0] rfl)
            · refine lv_iload X.1 X.2.1 dX4_send_83 (lv_at hl 0 rfl) ?_
              refine lv_iload_n X.1 X.2.1 dX4_send_85 rfl (lv_at hl 4 rfl) ?_
              refine z_ic_ge (tgt := 95) X ⟨by omega, by omega⟩ ⟨by omega, by omega⟩ dX4_send_86 (by decide) (fun c_86 => ?_) (fun c_86 => ?_)
              · refine z_iinc (k := 5) (lv' := [(4, .int (iv (i + 1))), (5, .int (iv (sums (stepn (pu A 1 i ((-1))) pn.toNat) 4))), (0, .ref (a 0)), (1, .int (iv (pn))), (2, .int (iv (bs))), (3, .int (iv (ws)))]) X dX4_send_95 hl rfl (by decide) rfl (fun ls hl => ?_)
                refine lv_goto (tgt := 24) X.1 X.2.1 dX4_send_98 (by decide) ?_
                exact ih (i + 1) (bs) (ws) ((iv (hr (stepn (pu A 1 i ((-1))) pn.toNat)))) ((iv (pe (stepn (pu A 1 i ((-1))) pn.toNat)))) (z0_4) (z1_4) (z2_4) (z3_4) (z4_4) (z5_4) (z6_4) (z7_4) (z8_4) (by omega) (by omega) ((leastk_n i0 hm (fun _ => (show ¬ (bs < 0 ∨ sums (stepn (pu A 1 i (-1)) pn.toNat) 4 < ws) by omega))).trans hm) (by omega) _ _ h ls (lv_sub hl [2, 3, 4, 5, 0] rfl)
              · refine lv_iload X.1 X.2.1 dX4_send_89 (lv_at hl 0 rfl) ?_
                refine lv_istore_n (lv' := [(3, .int (iv (sums (stepn (pu A 1 i ((-1))) pn.toNat) 4))), (5, .int (iv (sums (stepn (pu A 1 i ((-1))) pn.toNat) 4))), (0, .ref (a 0)), (1, .int (iv (pn))), (2, .int (iv (bs))), (4, .int (iv (i)))]) X.1 X.2.1 dX4_send_91 rfl hl (by decide) rfl (fun ls hl => ?_)
                refine lv_iload X.1 X.2.1 dX4_send_92 (lv_at hl 5 rfl) ?_
                refine lv_istore_n (lv' := [(2, .int (iv (i))), (3, .int (iv (sums (stepn (pu A 1 i ((-1))) pn.toNat) 4))), (5, .int (iv (sums (stepn (pu A 1 i ((-1))) pn.toNat) 4))), (0, .ref (a 0)), (1, .int (iv (pn))), (4, .int (iv (i)))]) X.1 X.2.1 dX4_send_94 rfl hl (by decide) rfl (fun ls hl => ?_)
                refine z_iinc (k := 5) (lv' := [(4, .int (iv (i + 1))), (2, .int (iv (i))), (3, .int (iv (sums (stepn (pu A 1 i ((-1))) pn.toNat) 4))), (5, .int (iv (sums (stepn (pu A 1 i ((-1))) pn.toNat) 4))), (0, .ref (a 0)), (1, .int (iv (pn)))]) X dX4_send_95 hl rfl (by decide) rfl (fun ls hl => ?_)
                refine lv_goto (tgt := 24) X.1 X.2.1 dX4_send_98 (by decide) ?_
                exact ih (i + 1) (i) (sums (stepn (pu A 1 i ((-1))) pn.toNat) 4) ((iv (hr (stepn (pu A 1 i ((-1))) pn.toNat)))) ((iv (pe (stepn (pu A 1 i ((-1))) pn.toNat)))) (z0_4) (z1_4) (z2_4) (z3_4) (z4_4) (z5_4) (z6_4) (z7_4) (z8_4) (by omega) (by omega) (leastk_y i0 hm (by simp only [sitB, decide_eq_true_eq]; omega) (show bs < 0 ∨ sums (stepn (pu A 1 i (-1)) pn.toNat) 4 < ws by omega)) (by omega) _ _ h ls (lv_sub hl [4, 5, 1, 2, 0] rfl)
    exact L24 ((pe A - (0) : Int).toNat + 1) (0) (-1) (0) ((ht)) ((nt)) (t1) (t2) (t3) (t4) (t5) (t6) (t7) (t8) (t9) (by omega) (by omega) (rfl) (by omega) _ _ h ls (lv_sub hl [3, 4, 2, 1, 0] rfl)
  · refine lv_aload_n X.1 X.2.1 dX4_send_10 rfl (lv_at hl 0 rfl) ?_
    refine z_ldc (z := (-1000000001)) X ct_X4_48 (by decide) dX4_send_11 ?_
    refine z_wi (st_sing (st_nil h)) (run_V (rest := []) X (st_sing (st_nil h)) (c_X4_finding (j := 0) hF (by decide) (by decide) (by decide)) mi_X4_finding ml_X4_49 ⟨Nat.le_of_ble_eq_true rfl, Nat.le_of_ble_eq_true rfl⟩ ⟨rfl, rfl⟩ (Seg.mk' _ _) 3 0 rfl rfl rfl rfl hl.1 rfl (Nat.le_of_ble_eq_true rfl) ⟨Nat.zero_le _, Nat.zero_le _⟩ dX4_send_13) (fun _ => map_app (wO_map _ _ _ _ _ _ _ _ _ _ _) rfl) (fun r fd5 H locs hp h => ?_)
    have h := (st_lin (st_gnis h))
    obtain ⟨rfl, hF5⟩ := hp
    have h : St E _ s H locs (wO E a k b t x q ((iv (ik))) fd5 ++ (wS E k ((hk)) ((nk)) (k1, k2, k3, k4, k5, k6, k7, k8, k9) ++ (wS E b ((iv (hr A))) ((iv (pe A))) (xs, xi, xk, xc, xl, xr, xb, yl, yr) ++ (wS E t ((ht)) ((nt)) (t1, t2, t3, t4, t5, t6, t7, t8, t9) ++ (wX E x ((iv (tn))) ((e1)) ((e2)) ((e3)) ((e4)) tp ++ (wH E (q 0) ((iv (bq 0))) ((iv (sq 0))) c0 ++ (wH E (q 1) ((iv (bq 1))) ((iv (sq 1))) c1 ++ (wH E (q 2) ((iv (bq 2))) ((iv (sq 2))) c2 ++ (wH E (q 3) ((iv (bq 3))) ((iv (sq 3))) c3 ++ []))))))))) := h
    have e9 : q_send A ph pn = ((-1000000001), A, (bump ph 0)) := by first | (unfold q_send; rw [if_pos (by omega)]; rfl) | (have hm9 := hm; rw [show i.toNat = (pe A).toNat by omega] at hm9; unfold q_send; rw [if_neg (by omega), hm9]; unfold orN; dsimp only; first | (rw [if_pos (by omega)]; rfl) | (rw [if_neg (by omega)]))
    exact ret _ _ _ _ _ (((iv (ik)), fd5), ((hk), (nk), (k1, k2, k3, k4, k5, k6, k7, k8, k9)), ((iv (hr A)), (iv (pe A)), (xs, xi, xk, xc, xl, xr, xb, yl, yr)), ((ht), (nt), (t1, t2, t3, t4, t5, t6, t7, t8, t9)), ((iv (tn)), (e1), (e2), (e3), (e4), tp), ((iv (bq 0)), (iv (sq 0)), c0), ((iv (bq 1)), (iv (sq 1)), c1), ((iv (bq 2)), (iv (sq 2)), c2), ((iv (bq 3)), (iv (sq 3)), c3)) h (by rw [e9]; exact ⟨rfl, ⟨rfl, rfl, hR, hI, hr9⟩, hK, hF5, hT, hB⟩) dX4_send_16

set_option maxHeartbeats 4000000 in
theorem c_X4_cloud (hS : RepC (((iv (ik)), fd), ((hk), (nk), (k1, k2, k3, k4, k5, k6, k7, k8, k9)), ((iv (hr A)), (iv (pe A)), (xs, xi, xk, xc, xl, xr, xb, yl, yr)), ((ht), (nt), (t1, t2, t3, t4, t5, t6, t7, t8, t9)), ((iv (tn)), (e1), (e2), (e3), (e4), tp), ((iv (bq 0)), (iv (sq 0)), c0), ((iv (bq 1)), (iv (sq 1)), c1), ((iv (bq 2)), (iv (sq 2)), c2), ((iv (bq 3)), (iv (sq 3)), c3)) (A, K, ik, ph, tq, tn, bq, sq, cq)) {pn : Int} (r_pn : r32 pn) : MI (S := Tc) E l yX4_cloud cX4_cloud 6 (some FieldType.int) (rmk 5 111) (wO E a k b t x q ((iv (ik))) fd ++ (wS E k ((hk)) ((nk)) (k1, k2, k3, k4, k5, k6, k7, k8, k9) ++ (wS E b ((iv (hr A))) ((iv (pe A))) (xs, xi, xk, xc, xl, xr, xb, yl, yr) ++ (wS E t ((ht)) ((nt)) (t1, t2, t3, t4, t5, t6, t7, t8, t9) ++ (wX E x ((iv (tn))) ((e1)) ((e2)) ((e3)) ((e4)) tp ++ (wH E (q 0) ((iv (bq 0))) ((iv (sq 0))) c0 ++ (wH E (q 1) ((iv (bq 1))) ((iv (sq 1))) c1 ++ (wH E (q 2) ((iv (bq 2))) ((iv (sq 2))) c2 ++ (wH E (q 3) ((iv (bq 3))) ((iv (sq 3))) c3 ++ []))))))))) [.ref (a 0), .int (iv (pn))] (fun r u => r = iv (q_cloud A ph pn).1 ∧ RepC u ((q_cloud A ph pn).2.1, K, ik, (q_cloud A ph pn).2.2, tq, tn, bq, sq, cq)) (fun u => wT E a k b t x q u) := by
  refine goI (S := Tc) (post := fun r u => r = iv (q_cloud A ph pn).1 ∧ RepC u ((q_cloud A ph pn).2.1, K, ik, (q_cloud A ph pn).2.2, tq, tn, bq, sq, cq)) (ws' := fun u => wT E a k b t x q u) (by decide) (Nat.le_of_ble_eq_true rfl) ?_
  intro pp e s m below meth c ls args Q ret X h hl
  have hl : lv_has ls 6 [(0, .ref (a 0)), (1, .int (iv (pn)))] := hl
  have hR : RS (xs, xi, xk, xc, xl, xr, xb, yl, yr) A := hS.1.2.2.1
  have hI : IA A := hS.1.2.2.2.1
  have hr9 : hr A ≤ 99999 := hS.1.2.2.2.2
  have hF : RF 7 fd ph := hS.2.2.1
  have hK := hS.2.1
  have hT := hS.2.2.2.1
  have hB := hS.2.2.2.2
  have hh : hr A < 1000000 := by omega
  have n8 := hI.n8
  have n0 := hI.n0
  have h0 := hI.h0
  refine lv_iload_n X.1 X.2.1 dX4_cloud_0 rfl (lv_at hl 1 rfl) ?_
  refine z_iconst X dX4_cloud_1 ?_
  refine z_bipush X (by decide) dX4_cloud_2 ?_
  refine z_pi (run_S (rest := []) X h (c_X4_within r_pn ⟨by decide, by decide⟩ ⟨by decide, by decide⟩) mi_X4_within ml_X4_44 ⟨Nat.le_of_ble_eq_true rfl, Nat.le_of_ble_eq_true rfl⟩ ⟨rfl, rfl⟩ (Seg.nil _) rfl hl.1 rfl (Nat.le_of_ble_eq_true rfl) ⟨Nat.zero_le _, Nat.zero_le _⟩ dX4_cloud_4) ?_
  refine z_ifb_ne (tgt := 17) X dX4_cloud_7 (by decide) (fun c_7 => ?_) (fun c_7 => ?_)
  · refine z_iconst X dX4_cloud_17 ?_
    refine lv_istore_n (lv' := [(2, .int (iv ((-1)))), (0, .ref (a 0)), (1, .int (iv (pn)))]) X.1 X.2.1 dX4_cloud_18 rfl hl (by decide) rfl (fun ls hl => ?_)
    refine z_iconst X dX4_cloud_19 ?_
    refine lv_istore_n (lv' := [(3, .int (iv (0))), (2, .int (iv ((-1)))), (0, .ref (a 0)), (1, .int (iv (pn)))]) X.1 X.2.1 dX4_cloud_20 rfl hl (by decide) rfl (fun ls hl => ?_)
    refine z_iconst X dX4_cloud_21 ?_
    refine lv_istore (lv' := [(4, .int (iv (0))), (3, .int (iv (0))), (2, .int (iv ((-1)))), (0, .ref (a 0)), (1, .int (iv (pn)))]) X.1 X.2.1 dX4_cloud_22 hl (by decide) rfl (fun ls hl => ?_)
    have L24 : ∀ (fuel_ : Nat) (i : Int) (bs : Int) (ws : Int) (th : Int32) (tm : Int32) (g1 : Nat → Int32) (g2 : Nat → Int32) (g3 : Nat → Int32) (g4 : Nat → Int32) (g5 : Nat → Int32) (g6 : Nat → Int32) (g7 : Nat → Int32) (g8 : Nat → Int32) (g9 : Nat → Int32), (0 ≤ i) → (i ≤ 10) → (leastk tt1 (vCloud A pn) i.toNat = (bs, ws)) → 10 - i < (fuel_ : Int) → ∀ (H : Heap) (locs : List Loc), St E (wO E a k b t x q ((iv (ik))) fd ++ (wS E k ((hk)) ((nk)) (k1, k2, k3, k4, k5, k6, k7, k8, k9) ++ (wS E b ((iv (hr A))) ((iv (pe A))) (xs, xi, xk, xc, xl, xr, xb, yl, yr) ++ (wS E t ((ht)) ((nt)) (t1, t2, t3, t4, t5, t6, t7, t8, t9) ++ (wX E x ((iv (tn))) ((e1)) ((e2)) ((e3)) ((e4)) tp ++ (wH E (q 0) ((iv (bq 0))) ((iv (sq 0))) c0 ++ (wH E (q 1) ((iv (bq 1))) ((iv (sq 1))) c1 ++ (wH E (q 2) ((iv (bq 2))) ((iv (sq 2))) c2 ++ (wH E (q 3) ((iv (bq 3))) ((iv (sq 3))) c3 ++ []))))))))) s H locs (wO E a k b t x q ((iv (ik))) fd ++ (wS E k ((hk)) ((nk)) (k1, k2, k3, k4, k5, k6, k7, k8, k9) ++ (wS E b ((iv (hr A))) ((iv (pe A))) (xs, xi, xk, xc, xl, xr, xb, yl, yr) ++ (wS E t ((th)) ((tm)) (g1, g2, g3, g4, g5, g6, g7, g8, g9) ++ (wX E x ((iv (tn))) ((e1)) ((e2)) ((e3)) ((e4)) tp ++ (wH E (q 0) ((iv (bq 0))) ((iv (sq 0))) c0 ++ (wH E (q 1) ((iv (bq 1))) ((iv (sq 1))) c1 ++ (wH E (q 2) ((iv (bq 2))) ((iv (sq 2))) c2 ++ (wH E (q 3) ((iv (bq 3))) ((iv (sq 3))) c3 ++ []))))))))) → ∀ ls : Array Slot, lv_has ls 6 [(0, .ref (a 0)), (1, .int (iv (pn))), (2, .int (iv (bs))), (3, .int (iv (ws))), (4, .int (iv (i)))] → W pp l e (rmk 5 111) s m args below meth c H locs 0 0 Q (F0 m 24 ls []) := by
      intro fuel_
      induction fuel_ with
      | zero =>
        intro i bs ws th tm g1 g2 g3 g4 g5 g6 g7 g8 g9 i0 i1 hm hn
        exfalso; omega
      | succ fuel_ ih =>
        intro i bs ws th tm g1 g2 g3 g4 g5 g6 g7 g8 g9 i0 i1 hm hn H locs h ls hl
        have hm2 : (leastk tt1 (vCloud A pn) i.toNat).2 = ws := by rw [hm]
        have rg := leastk_rng (may := tt1) (val := (vCloud A pn)) i.toNat (fun j j0 j1 hj => vCloud_rng hI)
        rw [hm] at rg; dsimp only at rg
        refine lv_iload X.1 X.2.1 dX4_cloud_24 (lv_at hl 4 rfl) ?_
        refine z_bipush X (by decide) dX4_cloud_26 ?_
        refine z_ic_ge (tgt := 85) X ⟨by omega, by omega⟩ ⟨by decide, by decide⟩ dX4_cloud_28 (by decide) (fun c_28 => ?_) (fun c_28 => ?_)
        · refine lv_iload_n X.1 X.2.1 dX4_cloud_85 rfl (lv_at hl 2 rfl) ?_
          have e9 : q_cloud A ph pn = (bs, A, ph) := by have hm9 := hm; rw [show i.toNat = 10 by omega] at hm9; unfold q_cloud; rw [if_neg (by omega), hm9]
          exact ret _ _ _ _ _ (((iv (ik)), fd), ((hk), (nk), (k1, k2, k3, k4, k5, k6, k7, k8, k9)), ((iv (hr A)), (iv (pe A)), (xs, xi, xk, xc, xl, xr, xb, yl, yr)), ((th), (tm), (g1, g2, g3, g4, g5, g6, g7, g8, g9)), ((iv (tn)), (e1), (e2), (e3), (e4), tp), ((iv (bq 0)), (iv (sq 0)), c0), ((iv (bq 1)), (iv (sq 1)), c1), ((iv (bq 2)), (iv (sq 2)), c2), ((iv (bq 3)), (iv (sq 3)), c3)) h (by rw [e9]; exact ⟨rfl, ⟨rfl, rfl, hR, hI, hr9⟩, hK, hF, hT, hB⟩) dX4_cloud_86
        · refine lv_aload_n X.1 X.2.1 dX4_cloud_31 rfl (lv_at hl 0 rfl) ?_
          refine z_av h (run_V (rest := []) X h (c_X4_startTrial hR hI.n8) mi_X4_startTrial ml_X4_150 ⟨Nat.le_of_ble_eq_true rfl, Nat.le_of_ble_eq_true rfl⟩ ⟨rfl, rfl⟩ (Seg.rfl' _) 3 0 rfl rfl rfl rfl hl.1 rfl (Nat.le_of_ble_eq_true rfl) ⟨Nat.zero_le _, Nat.zero_le _⟩ dX4_cloud_32) (fun _ => map_app rfl (map_app rfl (map_app rfl (map_app (wS_map _ _ _ _ _ _ _ _) rfl)))) (fun u H locs hp h => ?_)
          obtain ⟨r0_1, r1_1, r2_1, r3_1, r4_1, r5_1, r6_1, r7_1, r8_1⟩ := u
          have h : St E _ s H locs (wO E a k b t x q ((iv (ik))) fd ++ (wS E k ((hk)) ((nk)) (k1, k2, k3, k4, k5, k6, k7, k8, k9) ++ (wS E b ((iv (hr A))) ((iv (pe A))) (xs, xi, xk, xc, xl, xr, xb, yl, yr) ++ (wS E t ((iv (hr A))) ((iv (pe A))) (r0_1, r1_1, r2_1, r3_1, r4_1, r5_1, r6_1, r7_1, r8_1) ++ (wX E x ((iv (tn))) ((e1)) ((e2)) ((e3)) ((e4)) tp ++ (wH E (q 0) ((iv (bq 0))) ((iv (sq 0))) c0 ++ (wH E (q 1) ((iv (bq 1))) ((iv (sq 1))) c1 ++ (wH E (q 2) ((iv (bq 2))) ((iv (sq 2))) c2 ++ (wH E (q 3) ((iv (bq 3))) ((iv (sq 3))) c3 ++ []))))))))) := h
          have hRb1 : RS (r0_1, r1_1, r2_1, r3_1, r4_1, r5_1, r6_1, r7_1, r8_1) A := hp
          refine lv_aload_n X.1 X.2.1 dX4_cloud_35 rfl (lv_at hl 0 rfl) ?_
          refine z_get X h 3 0 1 rfl inX4 rfl (by decide) fl_X4_16 rfl dX4_cloud_36 ?_
          refine z_get X h 1 23 2 rfl inX1 rfl (by decide) fl_X4_53 rfl dX4_cloud_39 ?_
          refine lv_iload X.1 X.2.1 dX4_cloud_42 (lv_at hl 4 rfl) ?_
          refine z_iconst X dX4_cloud_44 ?_
          refine s_iast X (st_in (st_in (st_in (st_nil h)))) 1 rfl (by omega) (by omega) (by decide) dX4_cloud_45 (fun H locs h => ?_)
          have h := (st_lin (st_out (st_out (st_out (st_eq wS_suns h)))))
          have h : St E _ s H locs (wO E a k b t x q ((iv (ik))) fd ++ (wS E k ((hk)) ((nk)) (k1, k2, k3, k4, k5, k6, k7, k8, k9) ++ (wS E b ((iv (hr A))) ((iv (pe A))) (xs, xi, xk, xc, xl, xr, xb, yl, yr) ++ (wS E t ((iv (hr A))) ((iv (pe A))) ((upd r0_1 (i : Int).toNat (iv (0))), r1_1, r2_1, r3_1, r4_1, r5_1, r6_1, r7_1, r8_1) ++ (wX E x ((iv (tn))) ((e1)) ((e2)) ((e3)) ((e4)) tp ++ (wH E (q 0) ((iv (bq 0))) ((iv (sq 0))) c0 ++ (wH E (q 1) ((iv (bq 1))) ((iv (sq 1))) c1 ++ (wH E (q 2) ((iv (bq 2))) ((iv (sq 2))) c2 ++ (wH E (q 3) ((iv (bq 3))) ((iv (sq 3))) c3 ++ []))))))))) := h
          have tRu : RS ((upd r0_1 (i : Int).toNat (iv (0))), r1_1, r2_1, r3_1, r4_1, r5_1, r6_1, r7_1, r8_1) (su A i 0) := RS_su hRb1 (by omega)
          have tIu : IA (su A i 0) := IA_su hI (by omega) (by omega)
          have pq9 : pe (su A i 0) = pe A := rfl
          have sR := vCloud_rng hI (n := pn) (k := i)
          unfold vCloud at sR
          refine lv_aload_n X.1 X.2.1 dX4_cloud_46 rfl (lv_at hl 0 rfl) ?_
          refine z_get X h 3 0 1 rfl inX4 rfl (by decide) fl_X4_16 rfl dX4_cloud_47 ?_
          refine lv_iload_n X.1 X.2.1 dX4_cloud_50 rfl (lv_at hl 1 rfl) ?_
          refine z_wv (st_in (st_in (st_in (st_nil h)))) (run_V (rest := []) X (st_in (st_in (st_in (st_nil h)))) (c_X1_goOn (k := pn) tRu tIu (by omega) (by omega) (by first | omega | (show hr A + pn < 1000000; omega))) mi_X1_goOn ml_X4_146 ⟨Nat.le_of_ble_eq_true rfl, Nat.le_of_ble_eq_true rfl⟩ ⟨rfl, rfl⟩ (Seg.mk' _ _) 1 23 rfl rfl rfl rfl hl.1 rfl (Nat.le_of_ble_eq_true rfl) ⟨Nat.zero_le _, Nat.zero_le _⟩ dX4_cloud_51) (fun _ => wS_map _ _ _ _ _ _ _ _) (fun u H locs hp h => ?_)
          have h := (st_lin (st_out (st_out (st_out h))))
          obtain ⟨z0_2, z1_2, z2_2, z3_2, z4_2, z5_2, z6_2, z7_2, z8_2⟩ := u
          have h : St E _ s H locs (wO E a k b t x q ((iv (ik))) fd ++ (wS E k ((hk)) ((nk)) (k1, k2, k3, k4, k5, k6, k7, k8, k9) ++ (wS E b ((iv (hr A))) ((iv (pe A))) (xs, xi, xk, xc, xl, xr, xb, yl, yr) ++ (wS E t ((iv (hr (stepn (su A i 0) pn.toNat)))) ((iv (pe (stepn (su A i 0) pn.toNat)))) (z0_2, z1_2, z2_2, z3_2, z4_2, z5_2, z6_2, z7_2, z8_2) ++ (wX E x ((iv (tn))) ((e1)) ((e2)) ((e3)) ((e4)) tp ++ (wH E (q 0) ((iv (bq 0))) ((iv (sq 0))) c0 ++ (wH E (q 1) ((iv (bq 1))) ((iv (sq 1))) c1 ++ (wH E (q 2) ((iv (bq 2))) ((iv (sq 2))) c2 ++ (wH E (q 3) ((iv (bq 3))) ((iv (sq 3))) c3 ++ []))))))))) := h
          have hR2 : RS (z0_2, z1_2, z2_2, z3_2, z4_2, z5_2, z6_2, z7_2, z8_2) (stepn (su A i 0) pn.toNat) := hp
          have pn2 : pe (stepn (su A i 0) pn.toNat) = pe (su A i 0) := stepn_pe _ _
          refine lv_aload_n X.1 X.2.1 dX4_cloud_54 rfl (lv_at hl 0 rfl) ?_
          refine z_get X h 3 0 1 rfl inX4 rfl (by decide) fl_X4_16 rfl dX4_cloud_55 ?_
          refine z_pi (run_V (rest := []) X (st_in (st_in (st_in (st_nil h)))) (c_X1_brownOfAll hR2 (stepn_IA tIu pn.toNat)) mi_X1_brownOfAll ml_X4_76 ⟨Nat.le_of_ble_eq_true rfl, Nat.le_of_ble_eq_true rfl⟩ ⟨rfl, rfl⟩ (Seg.mk' _ _) 1 23 rfl rfl rfl rfl hl.1 rfl (Nat.le_of_ble_eq_true rfl) ⟨Nat.zero_le _, Nat.zero_le _⟩ dX4_cloud_58) ?_
          refine lv_istore (lv' := [(5, .int (iv (allB (stepn (su A i 0) pn.toNat)))), (0, .ref (a 0)), (1, .int (iv (pn))), (2, .int (iv (bs))), (3, .int (iv (ws))), (4, .int (iv (i)))]) X.1 X.2.1 dX4_cloud_61 hl (by decide) rfl (fun ls hl => ?_)
          refine lv_iload_n X.1 X.2.1 dX4_cloud_63 rfl (lv_at hl 3 rfl) ?_
          refine z_if_lt (tgt := 73) X ⟨by omega, by omega⟩ dX4_cloud_64 (by decide) (fun c_64 => ?_) (fun c_64 => ?_)
          · refine lv_iload X.1 X.2.1 dX4_cloud_73 (lv_at hl 0 rfl) ?_
            refine lv_istore_n (lv' := [(3, .int (iv (allB (stepn (su A i 0) pn.toNat)))), (5, .int (iv (allB (stepn (su A i 0) pn.toNat)))), (0, .ref (a 0)), (1, .int (iv (pn))), (2, .int (iv (bs))), (4, .int (iv (i)))]) X.1 X.2.1 dX4_cloud_75 rfl hl (by decide) rfl (fun ls hl => ?_)
            refine lv_iload X.1 X.2.1 dX4_cloud_76 (lv_at hl 5 rfl) ?_
            refine lv_istore_n (lv' := [(2, .int (iv (i))), (3, .int (iv (allB (stepn (su A i 0) pn.toNat)))), (5, .int (iv (allB (stepn (su A i 0) pn.toNat)))), (0, .ref (a 0)), (1, .int (iv (pn))), (4, .int (iv (i)))]) X.1 X.2.1 dX4_cloud_78 rfl hl (by decide) rfl (fun ls hl => ?_)
            refine z_iinc (k := 5) (lv' := [(4, .int (iv (i + 1))), (2, .int (iv (i))), (3, .int (iv (allB (stepn (su A i 0) pn.toNat)))), (5, .int (iv (allB (stepn (su A i 0) pn.toNat)))), (0, .ref (a 0)), (1, .int (iv (pn)))]) X dX4_cloud_79 hl rfl (by decide) rfl (fun ls hl => ?_)
            refine lv_goto (tgt := 24) X.1 X.2.1 dX4_cloud_82 (by decide) ?_
            exact ih (i + 1) (i) (allB (stepn (su A i 0) pn.toNat)) ((iv (hr (stepn (su A i 0) pn.toNat)))) ((iv (pe (stepn (su A i 0) pn.toNat)))) (z0_2) (z1_2) (z2_2) (z3_2) (z4_2) (z5_2) (z6_2) (z7_2) (z8_2) (by omega) (by omega) (leastk_y i0 hm rfl (show bs < 0 ∨ allB (stepn (su A i 0) pn.toNat) < ws by omega)) (by omega) _ _ h ls (lv_sub hl [4, 5, 1, 2, 0] rfl)
          · refine lv_iload X.1 X.2.1 dX4_cloud_67 (lv_at hl 0 rfl) ?_
            refine lv_iload_n X.1 X.2.1 dX4_cloud_69 rfl (lv_at hl 4 rfl) ?_
            refine z_ic_ge (tgt := 79) X ⟨by omega, by omega⟩ ⟨by omega, by omega⟩ dX4_cloud_70 (by decide) (fun c_70 => ?_) (fun c_70 => ?_)
            · refine z_iinc (k := 5) (lv' := [(4, .int (iv (i + 1))), (5, .int (iv (allB (stepn (su A i 0) pn.toNat)))), (0, .ref (a 0)), (1, .int (iv (pn))), (2, .int (iv (bs))), (3, .int (iv (ws)))]) X dX4_cloud_79 hl rfl (by decide) rfl (fun ls hl => ?_)
              refine lv_goto (tgt := 24) X.1 X.2.1 dX4_cloud_82 (by decide) ?_
              exact ih (i + 1) (bs) (ws) ((iv (hr (stepn (su A i 0) pn.toNat)))) ((iv (pe (stepn (su A i 0) pn.toNat)))) (z0_2) (z1_2) (z2_2) (z3_2) (z4_2) (z5_2) (z6_2) (z7_2) (z8_2) (by omega) (by omega) ((leastk_n i0 hm (fun _ => (show ¬ (bs < 0 ∨ allB (stepn (su A i 0) pn.toNat) < ws) by omega))).trans hm) (by omega) _ _ h ls (lv_sub hl [2, 3, 4, 5, 0] rfl)
            · refine lv_iload X.1 X.2.1 dX4_cloud_73 (lv_at hl 0 rfl) ?_
              refine lv_istore_n (lv' := [(3, .int (iv (allB (stepn (su A i 0) pn.toNat)))), (5, .int (iv (allB (stepn (su A i 0) pn.toNat)))), (0, .ref (a 0)), (1, .int (iv (pn))), (2, .int (iv (bs))), (4, .int (iv (i)))]) X.1 X.2.1 dX4_cloud_75 rfl hl (by decide) rfl (fun ls hl => ?_)
              refine lv_iload X.1 X.2.1 dX4_cloud_76 (lv_at hl 5 rfl) ?_
              refine lv_istore_n (lv' := [(2, .int (iv (i))), (3, .int (iv (allB (stepn (su A i 0) pn.toNat)))), (5, .int (iv (allB (stepn (su A i 0) pn.toNat)))), (0, .ref (a 0)), (1, .int (iv (pn))), (4, .int (iv (i)))]) X.1 X.2.1 dX4_cloud_78 rfl hl (by decide) rfl (fun ls hl => ?_)
              refine z_iinc (k := 5) (lv' := [(4, .int (iv (i + 1))), (2, .int (iv (i))), (3, .int (iv (allB (stepn (su A i 0) pn.toNat)))), (5, .int (iv (allB (stepn (su A i 0) pn.toNat)))), (0, .ref (a 0)), (1, .int (iv (pn)))]) X dX4_cloud_79 hl rfl (by decide) rfl (fun ls hl => ?_)
              refine lv_goto (tgt := 24) X.1 X.2.1 dX4_cloud_82 (by decide) ?_
              exact ih (i + 1) (i) (allB (stepn (su A i 0) pn.toNat)) ((iv (hr (stepn (su A i 0) pn.toNat)))) ((iv (pe (stepn (su A i 0) pn.toNat)))) (z0_2) (z1_2) (z2_2) (z3_2) (z4_2) (z5_2) (z6_2) (z7_2) (z8_2) (by omega) (by omega) (leastk_y i0 hm rfl (show bs < 0 ∨ allB (stepn (su A i 0) pn.toNat) < ws by omega)) (by omega) _ _ h ls (lv_sub hl [4, 5, 1, 2, 0] rfl)
    exact L24 ((10 - (0) : Int).toNat + 1) (0) (-1) (0) ((ht)) ((nt)) (t1) (t2) (t3) (t4) (t5) (t6) (t7) (t8) (t9) (by omega) (by omega) (rfl) (by omega) _ _ h ls (lv_sub hl [3, 4, 2, 1, 0] rfl)
  · refine lv_aload_n X.1 X.2.1 dX4_cloud_10 rfl (lv_at hl 0 rfl) ?_
    refine z_ldc (z := (-1000000001)) X ct_X4_48 (by decide) dX4_cloud_11 ?_
    refine z_wi (st_sing (st_nil h)) (run_V (rest := []) X (st_sing (st_nil h)) (c_X4_finding (j := 0) hF (by decide) (by decide) (by decide)) mi_X4_finding ml_X4_49 ⟨Nat.le_of_ble_eq_true rfl, Nat.le_of_ble_eq_true rfl⟩ ⟨rfl, rfl⟩ (Seg.mk' _ _) 3 0 rfl rfl rfl rfl hl.1 rfl (Nat.le_of_ble_eq_true rfl) ⟨Nat.zero_le _, Nat.zero_le _⟩ dX4_cloud_13) (fun _ => map_app (wO_map _ _ _ _ _ _ _ _ _ _ _) rfl) (fun r fd3 H locs hp h => ?_)
    have h := (st_lin (st_gnis h))
    obtain ⟨rfl, hF3⟩ := hp
    have h : St E _ s H locs (wO E a k b t x q ((iv (ik))) fd3 ++ (wS E k ((hk)) ((nk)) (k1, k2, k3, k4, k5, k6, k7, k8, k9) ++ (wS E b ((iv (hr A))) ((iv (pe A))) (xs, xi, xk, xc, xl, xr, xb, yl, yr) ++ (wS E t ((ht)) ((nt)) (t1, t2, t3, t4, t5, t6, t7, t8, t9) ++ (wX E x ((iv (tn))) ((e1)) ((e2)) ((e3)) ((e4)) tp ++ (wH E (q 0) ((iv (bq 0))) ((iv (sq 0))) c0 ++ (wH E (q 1) ((iv (bq 1))) ((iv (sq 1))) c1 ++ (wH E (q 2) ((iv (bq 2))) ((iv (sq 2))) c2 ++ (wH E (q 3) ((iv (bq 3))) ((iv (sq 3))) c3 ++ []))))))))) := h
    have e9 : q_cloud A ph pn = ((-1000000001), A, (bump ph 0)) := by unfold q_cloud; (repeat (first | rw [if_pos (by omega)] | rw [if_neg (by omega)])); try rfl
    exact ret _ _ _ _ _ (((iv (ik)), fd3), ((hk), (nk), (k1, k2, k3, k4, k5, k6, k7, k8, k9)), ((iv (hr A)), (iv (pe A)), (xs, xi, xk, xc, xl, xr, xb, yl, yr)), ((ht), (nt), (t1, t2, t3, t4, t5, t6, t7, t8, t9)), ((iv (tn)), (e1), (e2), (e3), (e4), tp), ((iv (bq 0)), (iv (sq 0)), c0), ((iv (bq 1)), (iv (sq 1)), c1), ((iv (bq 2)), (iv (sq 2)), c2), ((iv (bq 3)), (iv (sq 3)), c3)) h (by rw [e9]; exact ⟨rfl, ⟨rfl, rfl, hR, hI, hr9⟩, hK, hF3, hT, hB⟩) dX4_cloud_16

set_option maxHeartbeats 4000000 in
theorem c_X4_change (hS : RepC (((iv (ik)), fd), ((hk), (nk), (k1, k2, k3, k4, k5, k6, k7, k8, k9)), ((iv (hr A)), (iv (pe A)), (xs, xi, xk, xc, xl, xr, xb, yl, yr)), ((ht), (nt), (t1, t2, t3, t4, t5, t6, t7, t8, t9)), ((iv (tn)), (e1), (e2), (e3), (e4), tp), ((iv (bq 0)), (iv (sq 0)), c0), ((iv (bq 1)), (iv (sq 1)), c1), ((iv (bq 2)), (iv (sq 2)), c2), ((iv (bq 3)), (iv (sq 3)), c3)) (A, K, ik, ph, tq, tn, bq, sq, cq)) {px : Int} (r_px : r32 px) {pn : Int} (r_pn : r32 pn) : MI (S := Tc) E l yX4_change cX4_change 7 (some FieldType.int) (rmk 5 111) (wO E a k b t x q ((iv (ik))) fd ++ (wS E k ((hk)) ((nk)) (k1, k2, k3, k4, k5, k6, k7, k8, k9) ++ (wS E b ((iv (hr A))) ((iv (pe A))) (xs, xi, xk, xc, xl, xr, xb, yl, yr) ++ (wS E t ((ht)) ((nt)) (t1, t2, t3, t4, t5, t6, t7, t8, t9) ++ (wX E x ((iv (tn))) ((e1)) ((e2)) ((e3)) ((e4)) tp ++ (wH E (q 0) ((iv (bq 0))) ((iv (sq 0))) c0 ++ (wH E (q 1) ((iv (bq 1))) ((iv (sq 1))) c1 ++ (wH E (q 2) ((iv (bq 2))) ((iv (sq 2))) c2 ++ (wH E (q 3) ((iv (bq 3))) ((iv (sq 3))) c3 ++ []))))))))) [.ref (a 0), .int (iv (px)), .int (iv (pn))] (fun r u => r = iv (q_change A ph px pn).1 ∧ RepC u ((q_change A ph px pn).2.1, K, ik, (q_change A ph px pn).2.2, tq, tn, bq, sq, cq)) (fun u => wT E a k b t x q u) := by
  refine goI (S := Tc) (post := fun r u => r = iv (q_change A ph px pn).1 ∧ RepC u ((q_change A ph px pn).2.1, K, ik, (q_change A ph px pn).2.2, tq, tn, bq, sq, cq)) (ws' := fun u => wT E a k b t x q u) (by decide) (Nat.le_of_ble_eq_true rfl) ?_
  intro pp e s m below meth c ls args Q ret X h hl
  have hl : lv_has ls 7 [(0, .ref (a 0)), (1, .int (iv (px))), (2, .int (iv (pn)))] := hl
  have hR : RS (xs, xi, xk, xc, xl, xr, xb, yl, yr) A := hS.1.2.2.1
  have hI : IA A := hS.1.2.2.2.1
  have hr9 : hr A ≤ 99999 := hS.1.2.2.2.2
  have hF : RF 7 fd ph := hS.2.2.1
  have hK := hS.2.1
  have hT := hS.2.2.2.1
  have hB := hS.2.2.2.2
  have hh : hr A < 1000000 := by omega
  have n8 := hI.n8
  have n0 := hI.n0
  have h0 := hI.h0
  refine lv_aload_n X.1 X.2.1 dX4_change_0 rfl (lv_at hl 0 rfl) ?_
  refine lv_iload_n X.1 X.2.1 dX4_change_1 rfl (lv_at hl 1 rfl) ?_
  refine z_pi (run_V (rest := []) X h (c_X4_isPerson (p := px) hI r_px) mi_X4_isPerson ml_X4_94 ⟨Nat.le_of_ble_eq_true rfl, Nat.le_of_ble_eq_true rfl⟩ ⟨rfl, rfl⟩ (Seg.rfl' _) 3 0 rfl rfl rfl rfl hl.1 rfl (Nat.le_of_ble_eq_true rfl) ⟨Nat.zero_le _, Nat.zero_le _⟩ dX4_change_2) ?_
  refine z_ifb_eq (tgt := 18) X dX4_change_5 (by decide) (fun c_5 => ?_) (fun c_5 => ?_)
  · refine lv_aload_n X.1 X.2.1 dX4_change_18 rfl (lv_at hl 0 rfl) ?_
    refine z_ldc (z := (-1000000001)) X ct_X4_48 (by decide) dX4_change_19 ?_
    refine z_wi (st_sing (st_nil h)) (run_V (rest := []) X (st_sing (st_nil h)) (c_X4_finding (j := 0) hF (by decide) (by decide) (by decide)) mi_X4_finding ml_X4_49 ⟨Nat.le_of_ble_eq_true rfl, Nat.le_of_ble_eq_true rfl⟩ ⟨rfl, rfl⟩ (Seg.mk' _ _) 3 0 rfl rfl rfl rfl hl.1 rfl (Nat.le_of_ble_eq_true rfl) ⟨Nat.zero_le _, Nat.zero_le _⟩ dX4_change_21) (fun _ => map_app (wO_map _ _ _ _ _ _ _ _ _ _ _) rfl) (fun r fd1 H locs hp h => ?_)
    have h := (st_lin (st_gnis h))
    obtain ⟨rfl, hF1⟩ := hp
    have h : St E _ s H locs (wO E a k b t x q ((iv (ik))) fd1 ++ (wS E k ((hk)) ((nk)) (k1, k2, k3, k4, k5, k6, k7, k8, k9) ++ (wS E b ((iv (hr A))) ((iv (pe A))) (xs, xi, xk, xc, xl, xr, xb, yl, yr) ++ (wS E t ((ht)) ((nt)) (t1, t2, t3, t4, t5, t6, t7, t8, t9) ++ (wX E x ((iv (tn))) ((e1)) ((e2)) ((e3)) ((e4)) tp ++ (wH E (q 0) ((iv (bq 0))) ((iv (sq 0))) c0 ++ (wH E (q 1) ((iv (bq 1))) ((iv (sq 1))) c1 ++ (wH E (q 2) ((iv (bq 2))) ((iv (sq 2))) c2 ++ (wH E (q 3) ((iv (bq 3))) ((iv (sq 3))) c3 ++ []))))))))) := h
    have e9 : q_change A ph px pn = ((-1000000001), A, (bump ph 0)) := by first | (unfold q_change; (repeat (first | rw [if_pos (by omega)] | rw [if_neg (by omega)])); first | done | rfl) | (have hm9 := hm; rw [show i.toNat = (pe A).toNat by omega] at hm9; unfold q_change; (repeat (first | rw [if_pos (by omega)] | rw [if_neg (by omega)])); rw [hm9]; unfold orN; dsimp only; first | (rw [if_pos (by omega)]; rfl) | (rw [if_neg (by omega)]))
    exact ret _ _ _ _ _ (((iv (ik)), fd1), ((hk), (nk), (k1, k2, k3, k4, k5, k6, k7, k8, k9)), ((iv (hr A)), (iv (pe A)), (xs, xi, xk, xc, xl, xr, xb, yl, yr)), ((ht), (nt), (t1, t2, t3, t4, t5, t6, t7, t8, t9)), ((iv (tn)), (e1), (e2), (e3), (e4), tp), ((iv (bq 0)), (iv (sq 0)), c0), ((iv (bq 1)), (iv (sq 1)), c1), ((iv (bq 2)), (iv (sq 2)), c2), ((iv (bq 3)), (iv (sq 3)), c3)) h (by rw [e9]; exact ⟨rfl, ⟨rfl, rfl, hR, hI, hr9⟩, hK, hF1, hT, hB⟩) dX4_change_24
  · refine lv_iload_n X.1 X.2.1 dX4_change_8 rfl (lv_at hl 2 rfl) ?_
    refine z_iconst X dX4_change_9 ?_
    refine z_bipush X (by decide) dX4_change_10 ?_
    refine z_pi (run_S (rest := []) X h (c_X4_within r_pn ⟨by decide, by decide⟩ ⟨by decide, by decide⟩) mi_X4_within ml_X4_44 ⟨Nat.le_of_ble_eq_true rfl, Nat.le_of_ble_eq_true rfl⟩ ⟨rfl, rfl⟩ (Seg.nil _) rfl hl.1 rfl (Nat.le_of_ble_eq_true rfl) ⟨Nat.zero_le _, Nat.zero_le _⟩ dX4_change_12) ?_
    refine z_ifb_ne (tgt := 25) X dX4_change_15 (by decide) (fun c_15 => ?_) (fun c_15 => ?_)
    · refine lv_aload_n X.1 X.2.1 dX4_change_25 rfl (lv_at hl 0 rfl) ?_
      refine z_get X h 3 0 0 rfl inX4 rfl (by decide) fl_X4_10 rfl dX4_change_26 ?_
      refine lv_iload_n X.1 X.2.1 dX4_change_29 rfl (lv_at hl 1 rfl) ?_
      refine z_pi (run_V (rest := []) X (st_in (st_in (st_nil h))) (c_X1_sits (p := px) hR hI (by omega) (by omega)) mi_X1_sits ml_X4_160 ⟨Nat.le_of_ble_eq_true rfl, Nat.le_of_ble_eq_true rfl⟩ ⟨rfl, rfl⟩ (Seg.mk' _ _) 1 13 rfl rfl rfl rfl hl.1 rfl (Nat.le_of_ble_eq_true rfl) ⟨Nat.zero_le _, Nat.zero_le _⟩ dX4_change_30) ?_
      refine z_ifb_ne (tgt := 43) X dX4_change_33 (by decide) (fun c_33 => ?_) (fun c_33 => ?_)
      · refine z_iconst X dX4_change_43 ?_
        refine lv_istore_n (lv' := [(3, .int (iv ((-1)))), (0, .ref (a 0)), (1, .int (iv (px))), (2, .int (iv (pn)))]) X.1 X.2.1 dX4_change_44 rfl hl (by decide) rfl (fun ls hl => ?_)
        refine z_iconst X dX4_change_45 ?_
        refine lv_istore (lv' := [(4, .int (iv ((-1)))), (3, .int (iv ((-1)))), (0, .ref (a 0)), (1, .int (iv (px))), (2, .int (iv (pn)))]) X.1 X.2.1 dX4_change_46 hl (by decide) rfl (fun ls hl => ?_)
        refine z_iconst X dX4_change_48 ?_
        refine lv_istore (lv' := [(5, .int (iv (0))), (4, .int (iv ((-1)))), (3, .int (iv ((-1)))), (0, .ref (a 0)), (1, .int (iv (px))), (2, .int (iv (pn)))]) X.1 X.2.1 dX4_change_49 hl (by decide) rfl (fun ls hl => ?_)
        have L51 : ∀ (fuel_ : Nat) (i : Int) (bs : Int) (ws : Int) (th : Int32) (tm : Int32) (g1 : Nat → Int32) (g2 : Nat → Int32) (g3 : Nat → Int32) (g4 : Nat → Int32) (g5 : Nat → Int32) (g6 : Nat → Int32) (g7 : Nat → Int32) (g8 : Nat → Int32) (g9 : Nat → Int32), (0 ≤ i) → (i ≤ pe A) → (mostk (mChange A px) (vChange A px pn) i.toNat = (bs, ws)) → pe A - i < (fuel_ : Int) → ∀ (H : Heap) (locs : List Loc), St E (wO E a k b t x q ((iv (ik))) fd ++ (wS E k ((hk)) ((nk)) (k1, k2, k3, k4, k5, k6, k7, k8, k9) ++ (wS E b ((iv (hr A))) ((iv (pe A))) (xs, xi, xk, xc, xl, xr, xb, yl, yr) ++ (wS E t ((ht)) ((nt)) (t1, t2, t3, t4, t5, t6, t7, t8, t9) ++ (wX E x ((iv (tn))) ((e1)) ((e2)) ((e3)) ((e4)) tp ++ (wH E (q 0) ((iv (bq 0))) ((iv (sq 0))) c0 ++ (wH E (q 1) ((iv (bq 1))) ((iv (sq 1))) c1 ++ (wH E (q 2) ((iv (bq 2))) ((iv (sq 2))) c2 ++ (wH E (q 3) ((iv (bq 3))) ((iv (sq 3))) c3 ++ []))))))))) s H locs (wO E a k b t x q ((iv (ik))) fd ++ (wS E k ((hk)) ((nk)) (k1, k2, k3, k4, k5, k6, k7, k8, k9) ++ (wS E b ((iv (hr A))) ((iv (pe A))) (xs, xi, xk, xc, xl, xr, xb, yl, yr) ++ (wS E t ((th)) ((tm)) (g1, g2, g3, g4, g5, g6, g7, g8, g9) ++ (wX E x ((iv (tn))) ((e1)) ((e2)) ((e3)) ((e4)) tp ++ (wH E (q 0) ((iv (bq 0))) ((iv (sq 0))) c0 ++ (wH E (q 1) ((iv (bq 1))) ((iv (sq 1))) c1 ++ (wH E (q 2) ((iv (bq 2))) ((iv (sq 2))) c2 ++ (wH E (q 3) ((iv (bq 3))) ((iv (sq 3))) c3 ++ []))))))))) → ∀ ls : Array Slot, lv_has ls 7 [(0, .ref (a 0)), (1, .int (iv (px))), (2, .int (iv (pn))), (3, .int (iv (bs))), (4, .int (iv (ws))), (5, .int (iv (i)))] → W pp l e (rmk 5 111) s m args below meth c H locs 0 0 Q (F0 m 51 ls []) := by
          intro fuel_
          induction fuel_ with
          | zero =>
            intro i bs ws th tm g1 g2 g3 g4 g5 g6 g7 g8 g9 i0 i1 hm hn
            exfalso; omega
          | succ fuel_ ih =>
            intro i bs ws th tm g1 g2 g3 g4 g5 g6 g7 g8 g9 i0 i1 hm hn H locs h ls hl
            have hm2 : (mostk (mChange A px) (vChange A px pn) i.toNat).2 = ws := by rw [hm]
            have rg := mostk_rng (may := (mChange A px)) (val := (vChange A px pn)) i.toNat (fun j j0 j1 hj => vChange_rng hI (by omega) (by omega) (by omega) j0 (by omega) hj)
            rw [hm] at rg; dsimp only at rg
            have qx := hI.gP (p := px) (by omega) (by omega)
            refine lv_iload X.1 X.2.1 dX4_change_51 (lv_at hl 5 rfl) ?_
            refine lv_aload_n X.1 X.2.1 dX4_change_53 rfl (lv_at hl 0 rfl) ?_
            refine z_get X h 3 0 0 rfl inX4 rfl (by decide) fl_X4_10 rfl dX4_change_54 ?_
            refine z_get X h 1 13 1 rfl inX1 rfl (by decide) fl_X4_86 rfl dX4_change_57 ?_
            refine z_ic_ge (tgt := 143) X ⟨by omega, by omega⟩ ⟨by omega, by omega⟩ dX4_change_60 (by decide) (fun c_60 => ?_) (fun c_60 => ?_)
            · refine lv_iload_n X.1 X.2.1 dX4_change_143 rfl (lv_at hl 3 rfl) ?_
              refine z_if_lt (tgt := 151) X ⟨by omega, by omega⟩ dX4_change_144 (by decide) (fun c_144 => ?_) (fun c_144 => ?_)
              · refine lv_aload_n X.1 X.2.1 dX4_change_151 rfl (lv_at hl 0 rfl) ?_
                refine z_ldc (z := (-1000000004)) X ct_X4_156 (by decide) dX4_change_152 ?_
                refine z_wi (st_sing (st_nil h)) (run_V (rest := []) X (st_sing (st_nil h)) (c_X4_finding (j := 3) hF (by decide) (by decide) (by decide)) mi_X4_finding ml_X4_49 ⟨Nat.le_of_ble_eq_true rfl, Nat.le_of_ble_eq_true rfl⟩ ⟨rfl, rfl⟩ (Seg.mk' _ _) 3 0 rfl rfl rfl rfl hl.1 rfl (Nat.le_of_ble_eq_true rfl) ⟨Nat.zero_le _, Nat.zero_le _⟩ dX4_change_154) (fun _ => map_app (wO_map _ _ _ _ _ _ _ _ _ _ _) rfl) (fun r fd2 H locs hp h => ?_)
                have h := (st_lin (st_gnis h))
                obtain ⟨rfl, hF2⟩ := hp
                have h : St E _ s H locs (wO E a k b t x q ((iv (ik))) fd2 ++ (wS E k ((hk)) ((nk)) (k1, k2, k3, k4, k5, k6, k7, k8, k9) ++ (wS E b ((iv (hr A))) ((iv (pe A))) (xs, xi, xk, xc, xl, xr, xb, yl, yr) ++ (wS E t ((th)) ((tm)) (g1, g2, g3, g4, g5, g6, g7, g8, g9) ++ (wX E x ((iv (tn))) ((e1)) ((e2)) ((e3)) ((e4)) tp ++ (wH E (q 0) ((iv (bq 0))) ((iv (sq 0))) c0 ++ (wH E (q 1) ((iv (bq 1))) ((iv (sq 1))) c1 ++ (wH E (q 2) ((iv (bq 2))) ((iv (sq 2))) c2 ++ (wH E (q 3) ((iv (bq 3))) ((iv (sq 3))) c3 ++ []))))))))) := h
                have e9 : q_change A ph px pn = ((-1000000004), A, (bump ph 3)) := by first | (unfold q_change; (repeat (first | rw [if_pos (by omega)] | rw [if_neg (by omega)])); first | done | rfl) | (have hm9 := hm; rw [show i.toNat = (pe A).toNat by omega] at hm9; unfold q_change; (repeat (first | rw [if_pos (by omega)] | rw [if_neg (by omega)])); rw [hm9]; unfold orN; dsimp only; first | (rw [if_pos (by omega)]; rfl) | (rw [if_neg (by omega)]))
                exact ret _ _ _ _ _ (((iv (ik)), fd2), ((hk), (nk), (k1, k2, k3, k4, k5, k6, k7, k8, k9)), ((iv (hr A)), (iv (pe A)), (xs, xi, xk, xc, xl, xr, xb, yl, yr)), ((th), (tm), (g1, g2, g3, g4, g5, g6, g7, g8, g9)), ((iv (tn)), (e1), (e2), (e3), (e4), tp), ((iv (bq 0)), (iv (sq 0)), c0), ((iv (bq 1)), (iv (sq 1)), c1), ((iv (bq 2)), (iv (sq 2)), c2), ((iv (bq 3)), (iv (sq 3)), c3)) h (by rw [e9]; exact ⟨rfl, ⟨rfl, rfl, hR, hI, hr9⟩, hK, hF2, hT, hB⟩) dX4_change_157
              · refine lv_iload_n X.1 X.2.1 dX4_change_147 rfl (lv_at hl 3 rfl) ?_
                refine lv_goto (tgt := 157) X.1 X.2.1 dX4_change_148 (by decide) ?_
                have e9 : q_change A ph px pn = (bs, A, ph) := by first | (unfold q_change; (repeat (first | rw [if_pos (by omega)] | rw [if_neg (by omega)])); first | done | rfl) | (have hm9 := hm; rw [show i.toNat = (pe A).toNat by omega] at hm9; unfold q_change; (repeat (first | rw [if_pos (by omega)] | rw [if_neg (by omega)])); rw [hm9]; unfold orN; dsimp only; first | (rw [if_pos (by omega)]; rfl) | (rw [if_neg (by omega)]))
                exact ret _ _ _ _ _ (((iv (ik)), fd), ((hk), (nk), (k1, k2, k3, k4, k5, k6, k7, k8, k9)), ((iv (hr A)), (iv (pe A)), (xs, xi, xk, xc, xl, xr, xb, yl, yr)), ((th), (tm), (g1, g2, g3, g4, g5, g6, g7, g8, g9)), ((iv (tn)), (e1), (e2), (e3), (e4), tp), ((iv (bq 0)), (iv (sq 0)), c0), ((iv (bq 1)), (iv (sq 1)), c1), ((iv (bq 2)), (iv (sq 2)), c2), ((iv (bq 3)), (iv (sq 3)), c3)) h (by rw [e9]; exact ⟨rfl, ⟨rfl, rfl, hR, hI, hr9⟩, hK, hF, hT, hB⟩) dX4_change_157
            · refine lv_iload X.1 X.2.1 dX4_change_63 (lv_at hl 5 rfl) ?_
              refine lv_iload_n X.1 X.2.1 dX4_change_65 rfl (lv_at hl 1 rfl) ?_
              refine z_ic_eq (tgt := 137) X ⟨by omega, by omega⟩ r_px dX4_change_66 (by decide) (fun c_66 => ?_) (fun c_66 => ?_)
              · refine z_iinc (k := 5) (lv' := [(5, .int (iv (i + 1))), (0, .ref (a 0)), (1, .int (iv (px))), (2, .int (iv (pn))), (3, .int (iv (bs))), (4, .int (iv (ws)))]) X dX4_change_137 hl rfl (by decide) rfl (fun ls hl => ?_)
                refine lv_goto (tgt := 51) X.1 X.2.1 dX4_change_140 (by decide) ?_
                exact ih (i + 1) (bs) (ws) ((th)) ((tm)) (g1) (g2) (g3) (g4) (g5) (g6) (g7) (g8) (g9) (by omega) (by omega) ((mostk_n i0 hm2 (fun hq => by simp only [mChange, decide_eq_true_eq] at hq; omega)).trans hm) (by omega) _ _ h ls (lv_sub hl [1, 2, 3, 4, 5, 0] rfl)
              · refine lv_aload_n X.1 X.2.1 dX4_change_69 rfl (lv_at hl 0 rfl) ?_
                refine z_get X h 3 0 0 rfl inX4 rfl (by decide) fl_X4_10 rfl dX4_change_70 ?_
                refine lv_iload X.1 X.2.1 dX4_change_73 (lv_at hl 5 rfl) ?_
                refine z_pi (run_V (rest := []) X (st_in (st_in (st_nil h))) (c_X1_sits (p := i) hR hI (by omega) (by omega)) mi_X1_sits ml_X4_160 ⟨Nat.le_of_ble_eq_true rfl, Nat.le_of_ble_eq_true rfl⟩ ⟨rfl, rfl⟩ (Seg.mk' _ _) 1 13 rfl rfl rfl rfl hl.1 rfl (Nat.le_of_ble_eq_true rfl) ⟨Nat.zero_le _, Nat.zero_le _⟩ dX4_change_75) ?_
                refine z_ifb_eq (tgt := 137) X dX4_change_78 (by decide) (fun c_78 => ?_) (fun c_78 => ?_)
                · refine z_iinc (k := 5) (lv' := [(5, .int (iv (i + 1))), (0, .ref (a 0)), (1, .int (iv (px))), (2, .int (iv (pn))), (3, .int (iv (bs))), (4, .int (iv (ws)))]) X dX4_change_137 hl rfl (by decide) rfl (fun ls hl => ?_)
                  refine lv_goto (tgt := 51) X.1 X.2.1 dX4_change_140 (by decide) ?_
                  exact ih (i + 1) (bs) (ws) ((th)) ((tm)) (g1) (g2) (g3) (g4) (g5) (g6) (g7) (g8) (g9) (by omega) (by omega) ((mostk_n i0 hm2 (fun hq => by simp only [mChange, decide_eq_true_eq] at hq; omega)).trans hm) (by omega) _ _ h ls (lv_sub hl [1, 2, 3, 4, 5, 0] rfl)
                · refine lv_aload_n X.1 X.2.1 dX4_change_81 rfl (lv_at hl 0 rfl) ?_
                  refine z_av h (run_V (rest := []) X h (c_X4_startTrial hR hI.n8) mi_X4_startTrial ml_X4_150 ⟨Nat.le_of_ble_eq_true rfl, Nat.le_of_ble_eq_true rfl⟩ ⟨rfl, rfl⟩ (Seg.rfl' _) 3 0 rfl rfl rfl rfl hl.1 rfl (Nat.le_of_ble_eq_true rfl) ⟨Nat.zero_le _, Nat.zero_le _⟩ dX4_change_82) (fun _ => map_app rfl (map_app rfl (map_app rfl (map_app (wS_map _ _ _ _ _ _ _ _) rfl)))) (fun u H locs hp h => ?_)
                  obtain ⟨r0_3, r1_3, r2_3, r3_3, r4_3, r5_3, r6_3, r7_3, r8_3⟩ := u
                  have h : St E _ s H locs (wO E a k b t x q ((iv (ik))) fd ++ (wS E k ((hk)) ((nk)) (k1, k2, k3, k4, k5, k6, k7, k8, k9) ++ (wS E b ((iv (hr A))) ((iv (pe A))) (xs, xi, xk, xc, xl, xr, xb, yl, yr) ++ (wS E t ((iv (hr A))) ((iv (pe A))) (r0_3, r1_3, r2_3, r3_3, r4_3, r5_3, r6_3, r7_3, r8_3) ++ (wX E x ((iv (tn))) ((e1)) ((e2)) ((e3)) ((e4)) tp ++ (wH E (q 0) ((iv (bq 0))) ((iv (sq 0))) c0 ++ (wH E (q 1) ((iv (bq 1))) ((iv (sq 1))) c1 ++ (wH E (q 2) ((iv (bq 2))) ((iv (sq 2))) c2 ++ (wH E (q 3) ((iv (bq 3))) ((iv (sq 3))) c3 ++ []))))))))) := h
                  have hRb3 : RS (r0_3, r1_3, r2_3, r3_3, r4_3, r5_3, r6_3, r7_3, r8_3) A := hp
                  refine lv_aload_n X.1 X.2.1 dX4_change_85 rfl (lv_at hl 0 rfl) ?_
                  refine z_get X h 3 0 1 rfl inX4 rfl (by decide) fl_X4_16 rfl dX4_change_86 ?_
                  refine lv_iload_n X.1 X.2.1 dX4_change_89 rfl (lv_at hl 1 rfl) ?_
                  refine lv_iload X.1 X.2.1 dX4_change_90 (lv_at hl 5 rfl) ?_
                  refine z_wv (st_in (st_in (st_in (st_nil h)))) (run_V (rest := []) X (st_in (st_in (st_in (st_nil h)))) (c_X1_swap (p := px) (q := i) hRb3 hI (by omega) (by omega) (by omega) (by omega) (by omega) (by omega) (by omega)) mi_X1_swap ml_X4_163 ⟨Nat.le_of_ble_eq_true rfl, Nat.le_of_ble_eq_true rfl⟩ ⟨rfl, rfl⟩ (Seg.mk' _ _) 1 23 rfl rfl rfl rfl hl.1 rfl (Nat.le_of_ble_eq_true rfl) ⟨Nat.zero_le _, Nat.zero_le _⟩ dX4_change_92) (fun _ => wS_map _ _ _ _ _ _ _ _) (fun u H locs hp h => ?_)
                  have h := (st_lin (st_out (st_out (st_out h))))
                  obtain ⟨z0_4, z1_4, z2_4, z3_4, z4_4, z5_4, z6_4, z7_4, z8_4⟩ := u
                  have h : St E _ s H locs (wO E a k b t x q ((iv (ik))) fd ++ (wS E k ((hk)) ((nk)) (k1, k2, k3, k4, k5, k6, k7, k8, k9) ++ (wS E b ((iv (hr A))) ((iv (pe A))) (xs, xi, xk, xc, xl, xr, xb, yl, yr) ++ (wS E t ((iv (hr A))) ((iv (pe A))) (z0_4, z1_4, z2_4, z3_4, z4_4, z5_4, z6_4, z7_4, z8_4) ++ (wX E x ((iv (tn))) ((e1)) ((e2)) ((e3)) ((e4)) tp ++ (wH E (q 0) ((iv (bq 0))) ((iv (sq 0))) c0 ++ (wH E (q 1) ((iv (bq 1))) ((iv (sq 1))) c1 ++ (wH E (q 2) ((iv (bq 2))) ((iv (sq 2))) c2 ++ (wH E (q 3) ((iv (bq 3))) ((iv (sq 3))) c3 ++ []))))))))) := h
                  have hR4 : RS (z0_4, z1_4, z2_4, z3_4, z4_4, z5_4, z6_4, z7_4, z8_4) (sw A px i) := hp
                  have hI4 : IA (sw A px i) := sw_IA hI (by omega) (by omega) (by omega) (by omega) (by omega) (by omega) (by omega)
                  have pq9 : pe (sw A px i) = pe A := rfl
                  have bx := brnn_rng hI4 pn.toNat (p := px) (by omega) (by omega)
                  have bo := brnn_rng hI4 pn.toNat (p := i) (by omega) (by omega)
                  refine lv_aload_n X.1 X.2.1 dX4_change_95 rfl (lv_at hl 0 rfl) ?_
                  refine z_get X h 3 0 1 rfl inX4 rfl (by decide) fl_X4_16 rfl dX4_change_96 ?_
                  refine lv_iload_n X.1 X.2.1 dX4_change_99 rfl (lv_at hl 2 rfl) ?_
                  refine z_wv (st_in (st_in (st_in (st_nil h)))) (run_V (rest := []) X (st_in (st_in (st_in (st_nil h)))) (c_X1_goOn (k := pn) hR4 hI4 (by omega) (by omega) (by first | omega | (show hr A + pn < 1000000; omega))) mi_X1_goOn ml_X4_146 ⟨Nat.le_of_ble_eq_true rfl, Nat.le_of_ble_eq_true rfl⟩ ⟨rfl, rfl⟩ (Seg.mk' _ _) 1 23 rfl rfl rfl rfl hl.1 rfl (Nat.le_of_ble_eq_true rfl) ⟨Nat.zero_le _, Nat.zero_le _⟩ dX4_change_100) (fun _ => wS_map _ _ _ _ _ _ _ _) (fun u H locs hp h => ?_)
                  have h := (st_lin (st_out (st_out (st_out h))))
                  obtain ⟨z0_5, z1_5, z2_5, z3_5, z4_5, z5_5, z6_5, z7_5, z8_5⟩ := u
                  have h : St E _ s H locs (wO E a k b t x q ((iv (ik))) fd ++ (wS E k ((hk)) ((nk)) (k1, k2, k3, k4, k5, k6, k7, k8, k9) ++ (wS E b ((iv (hr A))) ((iv (pe A))) (xs, xi, xk, xc, xl, xr, xb, yl, yr) ++ (wS E t ((iv (hr (stepn (sw A px i) pn.toNat)))) ((iv (pe (stepn (sw A px i) pn.toNat)))) (z0_5, z1_5, z2_5, z3_5, z4_5, z5_5, z6_5, z7_5, z8_5) ++ (wX E x ((iv (tn))) ((e1)) ((e2)) ((e3)) ((e4)) tp ++ (wH E (q 0) ((iv (bq 0))) ((iv (sq 0))) c0 ++ (wH E (q 1) ((iv (bq 1))) ((iv (sq 1))) c1 ++ (wH E (q 2) ((iv (bq 2))) ((iv (sq 2))) c2 ++ (wH E (q 3) ((iv (bq 3))) ((iv (sq 3))) c3 ++ []))))))))) := h
                  have hR5 : RS (z0_5, z1_5, z2_5, z3_5, z4_5, z5_5, z6_5, z7_5, z8_5) (stepn (sw A px i) pn.toNat) := hp
                  have pn5 : pe (stepn (sw A px i) pn.toNat) = pe (sw A px i) := stepn_pe _ _
                  refine lv_aload_n X.1 X.2.1 dX4_change_103 rfl (lv_at hl 0 rfl) ?_
                  refine z_get X h 3 0 1 rfl inX4 rfl (by decide) fl_X4_16 rfl dX4_change_104 ?_
                  refine lv_iload_n X.1 X.2.1 dX4_change_107 rfl (lv_at hl 1 rfl) ?_
                  refine z_pi (run_V (rest := []) X (st_in (st_in (st_in (st_nil h)))) (c_X1_brownOf (p := px) hR5 (stepn_IA hI4 pn.toNat) (by omega) (by omega)) mi_X1_brownOf ml_X4_128 ⟨Nat.le_of_ble_eq_true rfl, Nat.le_of_ble_eq_true rfl⟩ ⟨rfl, rfl⟩ (Seg.mk' _ _) 1 23 rfl rfl rfl rfl hl.1 rfl (Nat.le_of_ble_eq_true rfl) ⟨Nat.zero_le _, Nat.zero_le _⟩ dX4_change_108) ?_
                  refine lv_aload_n X.1 X.2.1 dX4_change_111 rfl (lv_at hl 0 rfl) ?_
                  refine z_get X h 3 0 1 rfl inX4 rfl (by decide) fl_X4_16 rfl dX4_change_112 ?_
                  refine lv_iload X.1 X.2.1 dX4_change_115 (lv_at hl 5 rfl) ?_
                  refine z_pi (run_V (rest := [.int (iv (brn (stepn (sw A px i) pn.toNat) px))]) X (st_in (st_in (st_in (st_nil h)))) (c_X1_brownOf (p := i) hR5 (stepn_IA hI4 pn.toNat) (by omega) (by omega)) mi_X1_brownOf ml_X4_128 ⟨Nat.le_of_ble_eq_true rfl, Nat.le_of_ble_eq_true rfl⟩ ⟨rfl, rfl⟩ (Seg.mk' _ _) 1 23 rfl rfl rfl rfl hl.1 rfl (Nat.le_of_ble_eq_true rfl) ⟨Nat.zero_le _, Nat.zero_le _⟩ dX4_change_117) ?_
                  refine z_iadd X dX4_change_120 ?_
                  refine lv_istore (lv' := [(6, .int (iv (brn (stepn (sw A px i) pn.toNat) px + (brn (stepn (sw A px i) pn.toNat) i)))), (0, .ref (a 0)), (1, .int (iv (px))), (2, .int (iv (pn))), (3, .int (iv (bs))), (4, .int (iv (ws))), (5, .int (iv (i)))]) X.1 X.2.1 dX4_change_121 hl (by decide) rfl (fun ls hl => ?_)
                  refine lv_iload X.1 X.2.1 dX4_change_123 (lv_at hl 0 rfl) ?_
                  refine lv_iload X.1 X.2.1 dX4_change_125 (lv_at hl 5 rfl) ?_
                  refine z_ic_le (tgt := 137) X ⟨by omega, by omega⟩ ⟨by omega, by omega⟩ dX4_change_127 (by decide) (fun c_127 => ?_) (fun c_127 => ?_)
                  · refine z_iinc (k := 6) (lv' := [(5, .int (iv (i + 1))), (6, .int (iv (brn (stepn (sw A px i) pn.toNat) px + (brn (stepn (sw A px i) pn.toNat) i)))), (0, .ref (a 0)), (1, .int (iv (px))), (2, .int (iv (pn))), (3, .int (iv (bs))), (4, .int (iv (ws)))]) X dX4_change_137 hl rfl (by decide) rfl (fun ls hl => ?_)
                    refine lv_goto (tgt := 51) X.1 X.2.1 dX4_change_140 (by decide) ?_
                    exact ih (i + 1) (bs) (ws) ((iv (hr (stepn (sw A px i) pn.toNat)))) ((iv (pe (stepn (sw A px i) pn.toNat)))) (z0_5) (z1_5) (z2_5) (z3_5) (z4_5) (z5_5) (z6_5) (z7_5) (z8_5) (by omega) (by omega) ((mostk_n i0 hm2 (fun _ => (show brn (stepn (sw A px i) pn.toNat) px + brn (stepn (sw A px i) pn.toNat) i ≤ ws by omega))).trans hm) (by omega) _ _ h ls (lv_sub hl [2, 3, 4, 5, 6, 0] rfl)
                  · refine lv_iload X.1 X.2.1 dX4_change_130 (lv_at hl 0 rfl) ?_
                    refine lv_istore (lv' := [(4, .int (iv (brn (stepn (sw A px i) pn.toNat) px + (brn (stepn (sw A px i) pn.toNat) i)))), (6, .int (iv (brn (stepn (sw A px i) pn.toNat) px + (brn (stepn (sw A px i) pn.toNat) i)))), (0, .ref (a 0)), (1, .int (iv (px))), (2, .int (iv (pn))), (3, .int (iv (bs))), (5, .int (iv (i)))]) X.1 X.2.1 dX4_change_132 hl (by decide) rfl (fun ls hl => ?_)
                    refine lv_iload X.1 X.2.1 dX4_change_134 (lv_at hl 6 rfl) ?_
                    refine lv_istore_n (lv' := [(3, .int (iv (i))), (4, .int (iv (brn (stepn (sw A px i) pn.toNat) px + (brn (stepn (sw A px i) pn.toNat) i)))), (6, .int (iv (brn (stepn (sw A px i) pn.toNat) px + (brn (stepn (sw A px i) pn.toNat) i)))), (0, .ref (a 0)), (1, .int (iv (px))), (2, .int (iv (pn))), (5, .int (iv (i)))]) X.1 X.2.1 dX4_change_136 rfl hl (by decide) rfl (fun ls hl => ?_)
                    refine z_iinc (k := 6) (lv' := [(5, .int (iv (i + 1))), (3, .int (iv (i))), (4, .int (iv (brn (stepn (sw A px i) pn.toNat) px + (brn (stepn (sw A px i) pn.toNat) i)))), (6, .int (iv (brn (stepn (sw A px i) pn.toNat) px + (brn (stepn (sw A px i) pn.toNat) i)))), (0, .ref (a 0)), (1, .int (iv (px))), (2, .int (iv (pn)))]) X dX4_change_137 hl rfl (by decide) rfl (fun ls hl => ?_)
                    refine lv_goto (tgt := 51) X.1 X.2.1 dX4_change_140 (by decide) ?_
                    exact ih (i + 1) (i) (brn (stepn (sw A px i) pn.toNat) px + (brn (stepn (sw A px i) pn.toNat) i)) ((iv (hr (stepn (sw A px i) pn.toNat)))) ((iv (pe (stepn (sw A px i) pn.toNat)))) (z0_5) (z1_5) (z2_5) (z3_5) (z4_5) (z5_5) (z6_5) (z7_5) (z8_5) (by omega) (by omega) (mostk_y i0 hm2 (by simp only [mChange, decide_eq_true_eq]; omega) (show ws < brn (stepn (sw A px i) pn.toNat) px + brn (stepn (sw A px i) pn.toNat) i by omega)) (by omega) _ _ h ls (lv_sub hl [4, 5, 6, 1, 2, 0] rfl)
        exact L51 ((pe A - (0) : Int).toNat + 1) (0) (-1) (-1) ((ht)) ((nt)) (t1) (t2) (t3) (t4) (t5) (t6) (t7) (t8) (t9) (by omega) (by omega) (rfl) (by omega) _ _ h ls (lv_sub hl [3, 4, 5, 2, 1, 0] rfl)
      · refine lv_aload_n X.1 X.2.1 dX4_change_36 rfl (lv_at hl 0 rfl) ?_
        refine z_ldc (z := (-1000000005)) X ct_X4_134 (by decide) dX4_change_37 ?_
        refine z_wi (st_sing (st_nil h)) (run_V (rest := []) X (st_sing (st_nil h)) (c_X4_finding (j := 4) hF (by decide) (by decide) (by decide)) mi_X4_finding ml_X4_49 ⟨Nat.le_of_ble_eq_true rfl, Nat.le_of_ble_eq_true rfl⟩ ⟨rfl, rfl⟩ (Seg.mk' _ _) 3 0 rfl rfl rfl rfl hl.1 rfl (Nat.le_of_ble_eq_true rfl) ⟨Nat.zero_le _, Nat.zero_le _⟩ dX4_change_39) (fun _ => map_app (wO_map _ _ _ _ _ _ _ _ _ _ _) rfl) (fun r fd6 H locs hp h => ?_)
        have h := (st_lin (st_gnis h))
        obtain ⟨rfl, hF6⟩ := hp
        have h : St E _ s H locs (wO E a k b t x q ((iv (ik))) fd6 ++ (wS E k ((hk)) ((nk)) (k1, k2, k3, k4, k5, k6, k7, k8, k9) ++ (wS E b ((iv (hr A))) ((iv (pe A))) (xs, xi, xk, xc, xl, xr, xb, yl, yr) ++ (wS E t ((ht)) ((nt)) (t1, t2, t3, t4, t5, t6, t7, t8, t9) ++ (wX E x ((iv (tn))) ((e1)) ((e2)) ((e3)) ((e4)) tp ++ (wH E (q 0) ((iv (bq 0))) ((iv (sq 0))) c0 ++ (wH E (q 1) ((iv (bq 1))) ((iv (sq 1))) c1 ++ (wH E (q 2) ((iv (bq 2))) ((iv (sq 2))) c2 ++ (wH E (q 3) ((iv (bq 3))) ((iv (sq 3))) c3 ++ []))))))))) := h
        have e9 : q_change A ph px pn = ((-1000000005), A, (bump ph 4)) := by first | (unfold q_change; (repeat (first | rw [if_pos (by omega)] | rw [if_neg (by omega)])); first | done | rfl) | (have hm9 := hm; rw [show i.toNat = (pe A).toNat by omega] at hm9; unfold q_change; (repeat (first | rw [if_pos (by omega)] | rw [if_neg (by omega)])); rw [hm9]; unfold orN; dsimp only; first | (rw [if_pos (by omega)]; rfl) | (rw [if_neg (by omega)]))
        exact ret _ _ _ _ _ (((iv (ik)), fd6), ((hk), (nk), (k1, k2, k3, k4, k5, k6, k7, k8, k9)), ((iv (hr A)), (iv (pe A)), (xs, xi, xk, xc, xl, xr, xb, yl, yr)), ((ht), (nt), (t1, t2, t3, t4, t5, t6, t7, t8, t9)), ((iv (tn)), (e1), (e2), (e3), (e4), tp), ((iv (bq 0)), (iv (sq 0)), c0), ((iv (bq 1)), (iv (sq 1)), c1), ((iv (bq 2)), (iv (sq 2)), c2), ((iv (bq 3)), (iv (sq 3)), c3)) h (by rw [e9]; exact ⟨rfl, ⟨rfl, rfl, hR, hI, hr9⟩, hK, hF6, hT, hB⟩) dX4_change_42
    · refine lv_aload_n X.1 X.2.1 dX4_change_18 rfl (lv_at hl 0 rfl) ?_
      refine z_ldc (z := (-1000000001)) X ct_X4_48 (by decide) dX4_change_19 ?_
      refine z_wi (st_sing (st_nil h)) (run_V (rest := []) X (st_sing (st_nil h)) (c_X4_finding (j := 0) hF (by decide) (by decide) (by decide)) mi_X4_finding ml_X4_49 ⟨Nat.le_of_ble_eq_true rfl, Nat.le_of_ble_eq_true rfl⟩ ⟨rfl, rfl⟩ (Seg.mk' _ _) 3 0 rfl rfl rfl rfl hl.1 rfl (Nat.le_of_ble_eq_true rfl) ⟨Nat.zero_le _, Nat.zero_le _⟩ dX4_change_21) (fun _ => map_app (wO_map _ _ _ _ _ _ _ _ _ _ _) rfl) (fun r fd7 H locs hp h => ?_)
      have h := (st_lin (st_gnis h))
      obtain ⟨rfl, hF7⟩ := hp
      have h : St E _ s H locs (wO E a k b t x q ((iv (ik))) fd7 ++ (wS E k ((hk)) ((nk)) (k1, k2, k3, k4, k5, k6, k7, k8, k9) ++ (wS E b ((iv (hr A))) ((iv (pe A))) (xs, xi, xk, xc, xl, xr, xb, yl, yr) ++ (wS E t ((ht)) ((nt)) (t1, t2, t3, t4, t5, t6, t7, t8, t9) ++ (wX E x ((iv (tn))) ((e1)) ((e2)) ((e3)) ((e4)) tp ++ (wH E (q 0) ((iv (bq 0))) ((iv (sq 0))) c0 ++ (wH E (q 1) ((iv (bq 1))) ((iv (sq 1))) c1 ++ (wH E (q 2) ((iv (bq 2))) ((iv (sq 2))) c2 ++ (wH E (q 3) ((iv (bq 3))) ((iv (sq 3))) c3 ++ []))))))))) := h
      have e9 : q_change A ph px pn = ((-1000000001), A, (bump ph 0)) := by first | (unfold q_change; (repeat (first | rw [if_pos (by omega)] | rw [if_neg (by omega)])); first | done | rfl) | (have hm9 := hm; rw [show i.toNat = (pe A).toNat by omega] at hm9; unfold q_change; (repeat (first | rw [if_pos (by omega)] | rw [if_neg (by omega)])); rw [hm9]; unfold orN; dsimp only; first | (rw [if_pos (by omega)]; rfl) | (rw [if_neg (by omega)]))
      exact ret _ _ _ _ _ (((iv (ik)), fd7), ((hk), (nk), (k1, k2, k3, k4, k5, k6, k7, k8, k9)), ((iv (hr A)), (iv (pe A)), (xs, xi, xk, xc, xl, xr, xb, yl, yr)), ((ht), (nt), (t1, t2, t3, t4, t5, t6, t7, t8, t9)), ((iv (tn)), (e1), (e2), (e3), (e4), tp), ((iv (bq 0)), (iv (sq 0)), c0), ((iv (bq 1)), (iv (sq 1)), c1), ((iv (bq 2)), (iv (sq 2)), c2), ((iv (bq 3)), (iv (sq 3)), c3)) h (by rw [e9]; exact ⟨rfl, ⟨rfl, rfl, hR, hI, hr9⟩, hK, hF7, hT, hB⟩) dX4_change_24

set_option maxHeartbeats 4000000 in
theorem c_X4_brownest (hS : RepC (((iv (ik)), fd), ((hk), (nk), (k1, k2, k3, k4, k5, k6, k7, k8, k9)), ((iv (hr A)), (iv (pe A)), (xs, xi, xk, xc, xl, xr, xb, yl, yr)), ((ht), (nt), (t1, t2, t3, t4, t5, t6, t7, t8, t9)), ((iv (tn)), (e1), (e2), (e3), (e4), tp), ((iv (bq 0)), (iv (sq 0)), c0), ((iv (bq 1)), (iv (sq 1)), c1), ((iv (bq 2)), (iv (sq 2)), c2), ((iv (bq 3)), (iv (sq 3)), c3)) (A, K, ik, ph, tq, tn, bq, sq, cq)) {pn : Int} (r_pn : r32 pn) : MI (S := Tc) E l yX4_brownest cX4_brownest 5 (some FieldType.int) (rmk 5 111) (wO E a k b t x q ((iv (ik))) fd ++ (wS E k ((hk)) ((nk)) (k1, k2, k3, k4, k5, k6, k7, k8, k9) ++ (wS E b ((iv (hr A))) ((iv (pe A))) (xs, xi, xk, xc, xl, xr, xb, yl, yr) ++ (wS E t ((ht)) ((nt)) (t1, t2, t3, t4, t5, t6, t7, t8, t9) ++ (wX E x ((iv (tn))) ((e1)) ((e2)) ((e3)) ((e4)) tp ++ (wH E (q 0) ((iv (bq 0))) ((iv (sq 0))) c0 ++ (wH E (q 1) ((iv (bq 1))) ((iv (sq 1))) c1 ++ (wH E (q 2) ((iv (bq 2))) ((iv (sq 2))) c2 ++ (wH E (q 3) ((iv (bq 3))) ((iv (sq 3))) c3 ++ []))))))))) [.ref (a 0), .int (iv (pn))] (fun r u => r = iv (q_brownest A ph pn).1 ∧ RepC u ((q_brownest A ph pn).2.1, K, ik, (q_brownest A ph pn).2.2, tq, tn, bq, sq, cq)) (fun u => wT E a k b t x q u) := by
  refine goI (S := Tc) (post := fun r u => r = iv (q_brownest A ph pn).1 ∧ RepC u ((q_brownest A ph pn).2.1, K, ik, (q_brownest A ph pn).2.2, tq, tn, bq, sq, cq)) (ws' := fun u => wT E a k b t x q u) (by decide) (Nat.le_of_ble_eq_true rfl) ?_
  intro pp e s m below meth c ls args Q ret X h hl
  have hl : lv_has ls 5 [(0, .ref (a 0)), (1, .int (iv (pn)))] := hl
  have hR : RS (xs, xi, xk, xc, xl, xr, xb, yl, yr) A := hS.1.2.2.1
  have hI : IA A := hS.1.2.2.2.1
  have hr9 : hr A ≤ 99999 := hS.1.2.2.2.2
  have hF : RF 7 fd ph := hS.2.2.1
  have hK := hS.2.1
  have hT := hS.2.2.2.1
  have hB := hS.2.2.2.2
  have hh : hr A < 1000000 := by omega
  have n8 := hI.n8
  have n0 := hI.n0
  have h0 := hI.h0
  refine lv_iload_n X.1 X.2.1 dX4_brownest_0 rfl (lv_at hl 1 rfl) ?_
  refine z_iconst X dX4_brownest_1 ?_
  refine z_sipush X (by decide) dX4_brownest_2 ?_
  refine z_pi (run_S (rest := []) X h (c_X4_within r_pn ⟨by decide, by decide⟩ ⟨by decide, by decide⟩) mi_X4_within ml_X4_44 ⟨Nat.le_of_ble_eq_true rfl, Nat.le_of_ble_eq_true rfl⟩ ⟨rfl, rfl⟩ (Seg.nil _) rfl hl.1 rfl (Nat.le_of_ble_eq_true rfl) ⟨Nat.zero_le _, Nat.zero_le _⟩ dX4_brownest_5) ?_
  refine z_ifb_ne (tgt := 18) X dX4_brownest_8 (by decide) (fun c_8 => ?_) (fun c_8 => ?_)
  · refine lv_aload_n X.1 X.2.1 dX4_brownest_18 rfl (lv_at hl 0 rfl) ?_
    refine z_av h (run_V (rest := []) X h (c_X4_startTrial hR hI.n8) mi_X4_startTrial ml_X4_150 ⟨Nat.le_of_ble_eq_true rfl, Nat.le_of_ble_eq_true rfl⟩ ⟨rfl, rfl⟩ (Seg.rfl' _) 3 0 rfl rfl rfl rfl hl.1 rfl (Nat.le_of_ble_eq_true rfl) ⟨Nat.zero_le _, Nat.zero_le _⟩ dX4_brownest_19) (fun _ => map_app rfl (map_app rfl (map_app rfl (map_app (wS_map _ _ _ _ _ _ _ _) rfl)))) (fun u H locs hp h => ?_)
    obtain ⟨r0_1, r1_1, r2_1, r3_1, r4_1, r5_1, r6_1, r7_1, r8_1⟩ := u
    have h : St E _ s H locs (wO E a k b t x q ((iv (ik))) fd ++ (wS E k ((hk)) ((nk)) (k1, k2, k3, k4, k5, k6, k7, k8, k9) ++ (wS E b ((iv (hr A))) ((iv (pe A))) (xs, xi, xk, xc, xl, xr, xb, yl, yr) ++ (wS E t ((iv (hr A))) ((iv (pe A))) (r0_1, r1_1, r2_1, r3_1, r4_1, r5_1, r6_1, r7_1, r8_1) ++ (wX E x ((iv (tn))) ((e1)) ((e2)) ((e3)) ((e4)) tp ++ (wH E (q 0) ((iv (bq 0))) ((iv (sq 0))) c0 ++ (wH E (q 1) ((iv (bq 1))) ((iv (sq 1))) c1 ++ (wH E (q 2) ((iv (bq 2))) ((iv (sq 2))) c2 ++ (wH E (q 3) ((iv (bq 3))) ((iv (sq 3))) c3 ++ []))))))))) := h
    have hRb1 : RS (r0_1, r1_1, r2_1, r3_1, r4_1, r5_1, r6_1, r7_1, r8_1) A := hp
    refine lv_aload_n X.1 X.2.1 dX4_brownest_22 rfl (lv_at hl 0 rfl) ?_
    refine z_get X h 3 0 1 rfl inX4 rfl (by decide) fl_X4_16 rfl dX4_brownest_23 ?_
    refine lv_iload_n X.1 X.2.1 dX4_brownest_26 rfl (lv_at hl 1 rfl) ?_
    refine z_wv (st_in (st_in (st_in (st_nil h)))) (run_V (rest := []) X (st_in (st_in (st_in (st_nil h)))) (c_X1_goOn (k := pn) hRb1 hI (by omega) (by omega) (by first | omega | (show hr A + pn < 1000000; omega))) mi_X1_goOn ml_X4_146 ⟨Nat.le_of_ble_eq_true rfl, Nat.le_of_ble_eq_true rfl⟩ ⟨rfl, rfl⟩ (Seg.mk' _ _) 1 23 rfl rfl rfl rfl hl.1 rfl (Nat.le_of_ble_eq_true rfl) ⟨Nat.zero_le _, Nat.zero_le _⟩ dX4_brownest_27) (fun _ => wS_map _ _ _ _ _ _ _ _) (fun u H locs hp h => ?_)
    have h := (st_lin (st_out (st_out (st_out h))))
    obtain ⟨z0_2, z1_2, z2_2, z3_2, z4_2, z5_2, z6_2, z7_2, z8_2⟩ := u
    have h : St E _ s H locs (wO E a k b t x q ((iv (ik))) fd ++ (wS E k ((hk)) ((nk)) (k1, k2, k3, k4, k5, k6, k7, k8, k9) ++ (wS E b ((iv (hr A))) ((iv (pe A))) (xs, xi, xk, xc, xl, xr, xb, yl, yr) ++ (wS E t ((iv (hr (stepn A pn.toNat)))) ((iv (pe (stepn A pn.toNat)))) (z0_2, z1_2, z2_2, z3_2, z4_2, z5_2, z6_2, z7_2, z8_2) ++ (wX E x ((iv (tn))) ((e1)) ((e2)) ((e3)) ((e4)) tp ++ (wH E (q 0) ((iv (bq 0))) ((iv (sq 0))) c0 ++ (wH E (q 1) ((iv (bq 1))) ((iv (sq 1))) c1 ++ (wH E (q 2) ((iv (bq 2))) ((iv (sq 2))) c2 ++ (wH E (q 3) ((iv (bq 3))) ((iv (sq 3))) c3 ++ []))))))))) := h
    have hR2 : RS (z0_2, z1_2, z2_2, z3_2, z4_2, z5_2, z6_2, z7_2, z8_2) (stepn A pn.toNat) := hp
    have pn2 : pe (stepn A pn.toNat) = pe A := stepn_pe _ _
    refine z_iconst X dX4_brownest_30 ?_
    refine lv_istore_n (lv' := [(2, .int (iv ((-1)))), (0, .ref (a 0)), (1, .int (iv (pn)))]) X.1 X.2.1 dX4_brownest_31 rfl hl (by decide) rfl (fun ls hl => ?_)
    refine z_iconst X dX4_brownest_32 ?_
    refine lv_istore_n (lv' := [(3, .int (iv ((-1)))), (2, .int (iv ((-1)))), (0, .ref (a 0)), (1, .int (iv (pn)))]) X.1 X.2.1 dX4_brownest_33 rfl hl (by decide) rfl (fun ls hl => ?_)
    refine z_iconst X dX4_brownest_34 ?_
    refine lv_istore (lv' := [(4, .int (iv (0))), (3, .int (iv ((-1)))), (2, .int (iv ((-1)))), (0, .ref (a 0)), (1, .int (iv (pn)))]) X.1 X.2.1 dX4_brownest_35 hl (by decide) rfl (fun ls hl => ?_)
    have L37 : ∀ (fuel_ : Nat) (i : Int) (bs : Int) (ws : Int), (0 ≤ i) → (i ≤ pe A) → (mostk tt1 (vBest A pn) i.toNat = (bs, ws)) → pe A - i < (fuel_ : Int) → ∀ (H : Heap) (locs : List Loc), St E (wO E a k b t x q ((iv (ik))) fd ++ (wS E k ((hk)) ((nk)) (k1, k2, k3, k4, k5, k6, k7, k8, k9) ++ (wS E b ((iv (hr A))) ((iv (pe A))) (xs, xi, xk, xc, xl, xr, xb, yl, yr) ++ (wS E t ((ht)) ((nt)) (t1, t2, t3, t4, t5, t6, t7, t8, t9) ++ (wX E x ((iv (tn))) ((e1)) ((e2)) ((e3)) ((e4)) tp ++ (wH E (q 0) ((iv (bq 0))) ((iv (sq 0))) c0 ++ (wH E (q 1) ((iv (bq 1))) ((iv (sq 1))) c1 ++ (wH E (q 2) ((iv (bq 2))) ((iv (sq 2))) c2 ++ (wH E (q 3) ((iv (bq 3))) ((iv (sq 3))) c3 ++ []))))))))) s H locs (wO E a k b t x q ((iv (ik))) fd ++ (wS E k ((hk)) ((nk)) (k1, k2, k3, k4, k5, k6, k7, k8, k9) ++ (wS E b ((iv (hr A))) ((iv (pe A))) (xs, xi, xk, xc, xl, xr, xb, yl, yr) ++ (wS E t ((iv (hr (stepn A pn.toNat)))) ((iv (pe (stepn A pn.toNat)))) (z0_2, z1_2, z2_2, z3_2, z4_2, z5_2, z6_2, z7_2, z8_2) ++ (wX E x ((iv (tn))) ((e1)) ((e2)) ((e3)) ((e4)) tp ++ (wH E (q 0) ((iv (bq 0))) ((iv (sq 0))) c0 ++ (wH E (q 1) ((iv (bq 1))) ((iv (sq 1))) c1 ++ (wH E (q 2) ((iv (bq 2))) ((iv (sq 2))) c2 ++ (wH E (q 3) ((iv (bq 3))) ((iv (sq 3))) c3 ++ []))))))))) → ∀ ls : Array Slot, lv_has ls 5 [(0, .ref (a 0)), (1, .int (iv (pn))), (2, .int (iv (bs))), (3, .int (iv (ws))), (4, .int (iv (i)))] → W pp l e (rmk 5 111) s m args below meth c H locs 0 0 Q (F0 m 37 ls []) := by
      intro fuel_
      induction fuel_ with
      | zero =>
        intro i bs ws i0 i1 hm hn
        exfalso; omega
      | succ fuel_ ih =>
        intro i bs ws i0 i1 hm hn H locs h ls hl
        have hm2 : (mostk tt1 (vBest A pn) i.toNat).2 = ws := by rw [hm]
        have rg := mostk_rng (may := tt1) (val := vBest A pn) i.toNat (fun j j0 j1 hj => by have := brnn_rng hI pn.toNat (p := j) (by omega) (by omega); unfold vBest; omega)
        rw [hm] at rg; dsimp only at rg
        have pmb : pe (stepn A pn.toNat) = pe A := stepn_pe _ _
        refine lv_iload X.1 X.2.1 dX4_brownest_37 (lv_at hl 4 rfl) ?_
        refine lv_aload_n X.1 X.2.1 dX4_brownest_39 rfl (lv_at hl 0 rfl) ?_
        refine z_get X h 3 0 1 rfl inX4 rfl (by decide) fl_X4_16 rfl dX4_brownest_40 ?_
        refine z_get X h 1 23 1 rfl inX1 rfl (by decide) fl_X4_86 rfl dX4_brownest_43 ?_
        refine z_ic_ge (tgt := 81) X ⟨by omega, by omega⟩ ⟨by omega, by omega⟩ dX4_brownest_46 (by decide) (fun c_46 => ?_) (fun c_46 => ?_)
        · refine lv_iload_n X.1 X.2.1 dX4_brownest_81 rfl (lv_at hl 2 rfl) ?_
          refine z_if_lt (tgt := 89) X ⟨by omega, by omega⟩ dX4_brownest_82 (by decide) (fun c_82 => ?_) (fun c_82 => ?_)
          · refine lv_aload_n X.1 X.2.1 dX4_brownest_89 rfl (lv_at hl 0 rfl) ?_
            refine z_ldc (z := (-1000000004)) X ct_X4_156 (by decide) dX4_brownest_90 ?_
            refine z_wi (st_sing (st_nil h)) (run_V (rest := []) X (st_sing (st_nil h)) (c_X4_finding (j := 3) hF (by decide) (by decide) (by decide)) mi_X4_finding ml_X4_49 ⟨Nat.le_of_ble_eq_true rfl, Nat.le_of_ble_eq_true rfl⟩ ⟨rfl, rfl⟩ (Seg.mk' _ _) 3 0 rfl rfl rfl rfl hl.1 rfl (Nat.le_of_ble_eq_true rfl) ⟨Nat.zero_le _, Nat.zero_le _⟩ dX4_brownest_92) (fun _ => map_app (wO_map _ _ _ _ _ _ _ _ _ _ _) rfl) (fun r fd3 H locs hp h => ?_)
            have h := (st_lin (st_gnis h))
            obtain ⟨rfl, hF3⟩ := hp
            have h : St E _ s H locs (wO E a k b t x q ((iv (ik))) fd3 ++ (wS E k ((hk)) ((nk)) (k1, k2, k3, k4, k5, k6, k7, k8, k9) ++ (wS E b ((iv (hr A))) ((iv (pe A))) (xs, xi, xk, xc, xl, xr, xb, yl, yr) ++ (wS E t ((iv (hr (stepn A pn.toNat)))) ((iv (pe (stepn A pn.toNat)))) (z0_2, z1_2, z2_2, z3_2, z4_2, z5_2, z6_2, z7_2, z8_2) ++ (wX E x ((iv (tn))) ((e1)) ((e2)) ((e3)) ((e4)) tp ++ (wH E (q 0) ((iv (bq 0))) ((iv (sq 0))) c0 ++ (wH E (q 1) ((iv (bq 1))) ((iv (sq 1))) c1 ++ (wH E (q 2) ((iv (bq 2))) ((iv (sq 2))) c2 ++ (wH E (q 3) ((iv (bq 3))) ((iv (sq 3))) c3 ++ []))))))))) := h
            have e9 : q_brownest A ph pn = ((-1000000004), A, (bump ph 3)) := by first | (unfold q_brownest; (repeat (first | rw [if_pos (by omega)] | rw [if_neg (by omega)])); first | done | rfl) | (have hm9 := hm; rw [show i.toNat = (pe A).toNat by omega] at hm9; unfold q_brownest; (repeat (first | rw [if_pos (by omega)] | rw [if_neg (by omega)])); rw [hm9]; unfold orN; dsimp only; first | (rw [if_pos (by omega)]; rfl) | (rw [if_neg (by omega)]))
            exact ret _ _ _ _ _ (((iv (ik)), fd3), ((hk), (nk), (k1, k2, k3, k4, k5, k6, k7, k8, k9)), ((iv (hr A)), (iv (pe A)), (xs, xi, xk, xc, xl, xr, xb, yl, yr)), ((iv (hr (stepn A pn.toNat))), (iv (pe (stepn A pn.toNat))), (z0_2, z1_2, z2_2, z3_2, z4_2, z5_2, z6_2, z7_2, z8_2)), ((iv (tn)), (e1), (e2), (e3), (e4), tp), ((iv (bq 0)), (iv (sq 0)), c0), ((iv (bq 1)), (iv (sq 1)), c1), ((iv (bq 2)), (iv (sq 2)), c2), ((iv (bq 3)), (iv (sq 3)), c3)) h (by rw [e9]; exact ⟨rfl, ⟨rfl, rfl, hR, hI, hr9⟩, hK, hF3, hT, hB⟩) dX4_brownest_95
          · refine lv_iload_n X.1 X.2.1 dX4_brownest_85 rfl (lv_at hl 2 rfl) ?_
            refine lv_goto (tgt := 95) X.1 X.2.1 dX4_brownest_86 (by decide) ?_
            have e9 : q_brownest A ph pn = (bs, A, ph) := by first | (unfold q_brownest; (repeat (first | rw [if_pos (by omega)] | rw [if_neg (by omega)])); first | done | rfl) | (have hm9 := hm; rw [show i.toNat = (pe A).toNat by omega] at hm9; unfold q_brownest; (repeat (first | rw [if_pos (by omega)] | rw [if_neg (by omega)])); rw [hm9]; unfold orN; dsimp only; first | (rw [if_pos (by omega)]; rfl) | (rw [if_neg (by omega)]))
            exact ret _ _ _ _ _ (((iv (ik)), fd), ((hk), (nk), (k1, k2, k3, k4, k5, k6, k7, k8, k9)), ((iv (hr A)), (iv (pe A)), (xs, xi, xk, xc, xl, xr, xb, yl, yr)), ((iv (hr (stepn A pn.toNat))), (iv (pe (stepn A pn.toNat))), (z0_2, z1_2, z2_2, z3_2, z4_2, z5_2, z6_2, z7_2, z8_2)), ((iv (tn)), (e1), (e2), (e3), (e4), tp), ((iv (bq 0)), (iv (sq 0)), c0), ((iv (bq 1)), (iv (sq 1)), c1), ((iv (bq 2)), (iv (sq 2)), c2), ((iv (bq 3)), (iv (sq 3)), c3)) h (by rw [e9]; exact ⟨rfl, ⟨rfl, rfl, hR, hI, hr9⟩, hK, hF, hT, hB⟩) dX4_brownest_95
        · have bi := brnn_rng hI pn.toNat (p := i) (by omega) (by omega)
          refine lv_aload_n X.1 X.2.1 dX4_brownest_49 rfl (lv_at hl 0 rfl) ?_
          refine z_get X h 3 0 1 rfl inX4 rfl (by decide) fl_X4_16 rfl dX4_brownest_50 ?_
          refine lv_iload X.1 X.2.1 dX4_brownest_53 (lv_at hl 4 rfl) ?_
          refine z_pi (run_V (rest := []) X (st_in (st_in (st_in (st_nil h)))) (c_X1_brownOf (p := i) hR2 (stepn_IA hI pn.toNat) (by omega) (by omega)) mi_X1_brownOf ml_X4_128 ⟨Nat.le_of_ble_eq_true rfl, Nat.le_of_ble_eq_true rfl⟩ ⟨rfl, rfl⟩ (Seg.mk' _ _) 1 23 rfl rfl rfl rfl hl.1 rfl (Nat.le_of_ble_eq_true rfl) ⟨Nat.zero_le _, Nat.zero_le _⟩ dX4_brownest_55) ?_
          refine lv_iload_n X.1 X.2.1 dX4_brownest_58 rfl (lv_at hl 3 rfl) ?_
          refine z_ic_le (tgt := 75) X ⟨by omega, by omega⟩ ⟨by omega, by omega⟩ dX4_brownest_59 (by decide) (fun c_59 => ?_) (fun c_59 => ?_)
          · refine z_iinc (k := 4) (lv' := [(4, .int (iv (i + 1))), (0, .ref (a 0)), (1, .int (iv (pn))), (2, .int (iv (bs))), (3, .int (iv (ws)))]) X dX4_brownest_75 hl rfl (by decide) rfl (fun ls hl => ?_)
            refine lv_goto (tgt := 37) X.1 X.2.1 dX4_brownest_78 (by decide) ?_
            exact ih (i + 1) (bs) (ws) (by omega) (by omega) ((mostk_n i0 hm2 (fun _ => (show brn (stepn A pn.toNat) i ≤ ws by omega))).trans hm) (by omega) _ _ h ls (lv_sub hl [1, 2, 3, 4, 0] rfl)
          · refine lv_aload_n X.1 X.2.1 dX4_brownest_62 rfl (lv_at hl 0 rfl) ?_
            refine z_get X h 3 0 1 rfl inX4 rfl (by decide) fl_X4_16 rfl dX4_brownest_63 ?_
            refine lv_iload X.1 X.2.1 dX4_brownest_66 (lv_at hl 4 rfl) ?_
            refine z_pi (run_V (rest := []) X (st_in (st_in (st_in (st_nil h)))) (c_X1_brownOf (p := i) hR2 (stepn_IA hI pn.toNat) (by omega) (by omega)) mi_X1_brownOf ml_X4_128 ⟨Nat.le_of_ble_eq_true rfl, Nat.le_of_ble_eq_true rfl⟩ ⟨rfl, rfl⟩ (Seg.mk' _ _) 1 23 rfl rfl rfl rfl hl.1 rfl (Nat.le_of_ble_eq_true rfl) ⟨Nat.zero_le _, Nat.zero_le _⟩ dX4_brownest_68) ?_
            refine lv_istore_n (lv' := [(3, .int (iv (brn (stepn A pn.toNat) i))), (0, .ref (a 0)), (1, .int (iv (pn))), (2, .int (iv (bs))), (4, .int (iv (i)))]) X.1 X.2.1 dX4_brownest_71 rfl hl (by decide) rfl (fun ls hl => ?_)
            refine lv_iload X.1 X.2.1 dX4_brownest_72 (lv_at hl 4 rfl) ?_
            refine lv_istore_n (lv' := [(2, .int (iv (i))), (3, .int (iv (brn (stepn A pn.toNat) i))), (0, .ref (a 0)), (1, .int (iv (pn))), (4, .int (iv (i)))]) X.1 X.2.1 dX4_brownest_74 rfl hl (by decide) rfl (fun ls hl => ?_)
            refine z_iinc (k := 4) (lv' := [(4, .int (iv (i + 1))), (2, .int (iv (i))), (3, .int (iv (brn (stepn A pn.toNat) i))), (0, .ref (a 0)), (1, .int (iv (pn)))]) X dX4_brownest_75 hl rfl (by decide) rfl (fun ls hl => ?_)
            refine lv_goto (tgt := 37) X.1 X.2.1 dX4_brownest_78 (by decide) ?_
            exact ih (i + 1) (i) (brn (stepn A pn.toNat) i) (by omega) (by omega) (mostk_y i0 hm2 rfl (show ws < brn (stepn A pn.toNat) i by omega)) (by omega) _ _ h ls (lv_sub hl [3, 4, 1, 2, 0] rfl)
    exact L37 ((pe A - (0) : Int).toNat + 1) (0) (-1) (-1) (by omega) (by omega) (rfl) (by omega) _ _ h ls (lv_sub hl [3, 4, 2, 1, 0] rfl)
  · refine lv_aload_n X.1 X.2.1 dX4_brownest_11 rfl (lv_at hl 0 rfl) ?_
    refine z_ldc (z := (-1000000001)) X ct_X4_48 (by decide) dX4_brownest_12 ?_
    refine z_wi (st_sing (st_nil h)) (run_V (rest := []) X (st_sing (st_nil h)) (c_X4_finding (j := 0) hF (by decide) (by decide) (by decide)) mi_X4_finding ml_X4_49 ⟨Nat.le_of_ble_eq_true rfl, Nat.le_of_ble_eq_true rfl⟩ ⟨rfl, rfl⟩ (Seg.mk' _ _) 3 0 rfl rfl rfl rfl hl.1 rfl (Nat.le_of_ble_eq_true rfl) ⟨Nat.zero_le _, Nat.zero_le _⟩ dX4_brownest_14) (fun _ => map_app (wO_map _ _ _ _ _ _ _ _ _ _ _) rfl) (fun r fd4 H locs hp h => ?_)
    have h := (st_lin (st_gnis h))
    obtain ⟨rfl, hF4⟩ := hp
    have h : St E _ s H locs (wO E a k b t x q ((iv (ik))) fd4 ++ (wS E k ((hk)) ((nk)) (k1, k2, k3, k4, k5, k6, k7, k8, k9) ++ (wS E b ((iv (hr A))) ((iv (pe A))) (xs, xi, xk, xc, xl, xr, xb, yl, yr) ++ (wS E t ((ht)) ((nt)) (t1, t2, t3, t4, t5, t6, t7, t8, t9) ++ (wX E x ((iv (tn))) ((e1)) ((e2)) ((e3)) ((e4)) tp ++ (wH E (q 0) ((iv (bq 0))) ((iv (sq 0))) c0 ++ (wH E (q 1) ((iv (bq 1))) ((iv (sq 1))) c1 ++ (wH E (q 2) ((iv (bq 2))) ((iv (sq 2))) c2 ++ (wH E (q 3) ((iv (bq 3))) ((iv (sq 3))) c3 ++ []))))))))) := h
    have e9 : q_brownest A ph pn = ((-1000000001), A, (bump ph 0)) := by first | (unfold q_brownest; (repeat (first | rw [if_pos (by omega)] | rw [if_neg (by omega)])); first | done | rfl) | (have hm9 := hm; rw [show i.toNat = (pe A).toNat by omega] at hm9; unfold q_brownest; (repeat (first | rw [if_pos (by omega)] | rw [if_neg (by omega)])); rw [hm9]; unfold orN; dsimp only; first | (rw [if_pos (by omega)]; rfl) | (rw [if_neg (by omega)]))
    exact ret _ _ _ _ _ (((iv (ik)), fd4), ((hk), (nk), (k1, k2, k3, k4, k5, k6, k7, k8, k9)), ((iv (hr A)), (iv (pe A)), (xs, xi, xk, xc, xl, xr, xb, yl, yr)), ((ht), (nt), (t1, t2, t3, t4, t5, t6, t7, t8, t9)), ((iv (tn)), (e1), (e2), (e3), (e4), tp), ((iv (bq 0)), (iv (sq 0)), c0), ((iv (bq 1)), (iv (sq 1)), c1), ((iv (bq 2)), (iv (sq 2)), c2), ((iv (bq 3)), (iv (sq 3)), c3)) h (by rw [e9]; exact ⟨rfl, ⟨rfl, rfl, hR, hI, hr9⟩, hK, hF4, hT, hB⟩) dX4_brownest_17
