variable {E : EV} {l : Launch} {a k b t x : Nat → Nat} {q : Nat → Nat → Nat} {fd k1 k2 k3 k4 k5 k6 k7 k8 k9 xs xi xk xc xl xr xb yl yr t1 t2 t3 t4 t5 t6 t7 t8 t9 tp : Nat → Int32} {hk nk ht nt e1 e2 e3 e4 v0 : Int32} {c0 c1 c2 c3 : Nat → Int64} {A K : Es} {ph tq bq sq : Int → Int} {cq : Int → Int → Int64} {ik tn : Int}
set_option maxHeartbeats 4000000 in
theorem c_X4_image (hS : RepC (((iv (ik)), fd), ((hk), (nk), (k1, k2, k3, k4, k5, k6, k7, k8, k9)), ((iv (hr A)), (iv (pe A)), (xs, xi, xk, xc, xl, xr, xb, yl, yr)), ((ht), (nt), (t1, t2, t3, t4, t5, t6, t7, t8, t9)), ((iv (tn)), (e1), (e2), (e3), (e4), tp), ((iv (bq 0)), (iv (sq 0)), c0), ((iv (bq 1)), (iv (sq 1)), c1), ((iv (bq 2)), (iv (sq 2)), c2), ((iv (bq 3)), (iv (sq 3)), c3)) (A, K, ik, ph, tq, tn, bq, sq, cq)) : MI (S := Tc) E l yX4_image cX4_image 1 (some FieldType.int) (rmk 2 45) (wO E a k b t x q ((iv (ik))) fd ++ (wS E k ((hk)) ((nk)) (k1, k2, k3, k4, k5, k6, k7, k8, k9) ++ (wS E b ((iv (hr A))) ((iv (pe A))) (xs, xi, xk, xc, xl, xr, xb, yl, yr) ++ (wS E t ((ht)) ((nt)) (t1, t2, t3, t4, t5, t6, t7, t8, t9) ++ (wX E x ((iv (tn))) ((e1)) ((e2)) ((e3)) ((e4)) tp ++ (wH E (q 0) ((iv (bq 0))) ((iv (sq 0))) c0 ++ (wH E (q 1) ((iv (bq 1))) ((iv (sq 1))) c1 ++ (wH E (q 2) ((iv (bq 2))) ((iv (sq 2))) c2 ++ (wH E (q 3) ((iv (bq 3))) ((iv (sq 3))) c3 ++ []))))))))) [.ref (a 0)] (fun r u => r = iv (1) ∧ RepC u (A, A, 1, ph, tq, tn, bq, sq, cq)) (fun u => wT E a k b t x q u) := by
  refine goI (S := Tc) (post := fun r u => r = iv (1) ∧ RepC u (A, A, 1, ph, tq, tn, bq, sq, cq)) (ws' := fun u => wT E a k b t x q u) (by decide) (Nat.le_of_ble_eq_true rfl) ?_
  intro pp e s m below meth c ls args Q ret X h hl
  have hl : lv_has ls 1 [(0, .ref (a 0))] := hl
  have hR : RS (xs, xi, xk, xc, xl, xr, xb, yl, yr) A := hS.1.2.2.1
  have hI : IA A := hS.1.2.2.2.1
  have hr9 : hr A ≤ 99999 := hS.1.2.2.2.2
  have hF : RF 7 fd ph := hS.2.2.1
  have hK := hS.2.1
  have hT := hS.2.2.2.1
  have hB := hS.2.2.2.2
  have hh : hr A < 1000000 := by omega
  have n8 := hI.n8
  have n0 := hI.n0
  have h0 := hI.h0
  have ht0 : 0 ≤ tn := hS.2.2.2.1.2.1
  have ht1 : tn ≤ 120 := hS.2.2.2.1.2.2.1
  have hk01 : ik = 0 ∨ ik = 1 := hS.2.1.2.1
  have hB3 : okB bq sq := hS.2.2.2.2.1
  have hH0 : RepH (iv (bq 0), iv (sq 0), c0) bq sq cq 0 := hS.2.2.2.2.2.1
  have hH1 : RepH (iv (bq 1), iv (sq 1), c1) bq sq cq 1 := hS.2.2.2.2.2.2.1
  have hH2 : RepH (iv (bq 2), iv (sq 2), c2) bq sq cq 2 := hS.2.2.2.2.2.2.2.1
  have hH3 : RepH (iv (bq 3), iv (sq 3), c3) bq sq cq 3 := hS.2.2.2.2.2.2.2.2
  refine lv_aload_n X.1 X.2.1 dX4_image_0 rfl (lv_at hl 0 rfl) ?_
  refine z_get X h 3 0 2 rfl inX4 rfl (by decide) fl_X4_19 rfl dX4_image_1 ?_
  refine lv_aload_n X.1 X.2.1 dX4_image_4 rfl (lv_at hl 0 rfl) ?_
  refine z_get X h 3 0 0 rfl inX4 rfl (by decide) fl_X4_10 rfl dX4_image_5 ?_
  refine z_wv (st_pair (st_in (st_nil h))) (run_V (rest := []) X (st_pair (st_in (st_nil h))) (c_X1_become1 hR n8) mi_X1_become ml_X4_180 ⟨Nat.le_of_ble_eq_true rfl, Nat.le_of_ble_eq_true rfl⟩ ⟨rfl, rfl⟩ (Seg.mk' _ _) 1 3 rfl rfl rfl rfl hl.1 rfl (Nat.le_of_ble_eq_true rfl) ⟨Nat.zero_le _, Nat.zero_le _⟩ dX4_image_8) (fun _ => map_app (wS_map _ _ _ _ _ _ _ _) (map_app (wS_map _ _ _ _ _ _ _ _) rfl)) (fun u H locs hp h => ?_)
  have h := (st_lin (st_out (st_riap h)))
  obtain ⟨r0_1, r1_1, r2_1, r3_1, r4_1, r5_1, r6_1, r7_1, r8_1⟩ := u
  have h : St E _ s H locs (wO E a k b t x q ((iv (ik))) fd ++ (wS E k ((iv (hr A))) ((iv (pe A))) (r0_1, r1_1, r2_1, r3_1, r4_1, r5_1, r6_1, r7_1, r8_1) ++ (wS E b ((iv (hr A))) ((iv (pe A))) (xs, xi, xk, xc, xl, xr, xb, yl, yr) ++ (wS E t ((ht)) ((nt)) (t1, t2, t3, t4, t5, t6, t7, t8, t9) ++ (wX E x ((iv (tn))) ((e1)) ((e2)) ((e3)) ((e4)) tp ++ (wH E (q 0) ((iv (bq 0))) ((iv (sq 0))) c0 ++ (wH E (q 1) ((iv (bq 1))) ((iv (sq 1))) c1 ++ (wH E (q 2) ((iv (bq 2))) ((iv (sq 2))) c2 ++ (wH E (q 3) ((iv (bq 3))) ((iv (sq 3))) c3 ++ []))))))))) := h
  have hRb1 : RS (r0_1, r1_1, r2_1, r3_1, r4_1, r5_1, r6_1, r7_1, r8_1) A := hp
  refine lv_aload_n X.1 X.2.1 dX4_image_11 rfl (lv_at hl 0 rfl) ?_
  refine z_iconst X dX4_image_12 ?_
  refine s_put X (st_nil h) 3 0 6 rfl inX4 tyX4 tyX4_ok nmX4 rfl (by decide) fl_X4_39 rfl (by decide) (by decide) (Nat.le_of_ble_eq_true rfl) dX4_image_13 (fun H locs h => ?_)
  have h := (st_lin (st_eq wO_keeps h))
  have h : St E _ s H locs (wO E a k b t x q ((iv (1))) fd ++ (wS E k ((iv (hr A))) ((iv (pe A))) (r0_1, r1_1, r2_1, r3_1, r4_1, r5_1, r6_1, r7_1, r8_1) ++ (wS E b ((iv (hr A))) ((iv (pe A))) (xs, xi, xk, xc, xl, xr, xb, yl, yr) ++ (wS E t ((ht)) ((nt)) (t1, t2, t3, t4, t5, t6, t7, t8, t9) ++ (wX E x ((iv (tn))) ((e1)) ((e2)) ((e3)) ((e4)) tp ++ (wH E (q 0) ((iv (bq 0))) ((iv (sq 0))) c0 ++ (wH E (q 1) ((iv (bq 1))) ((iv (sq 1))) c1 ++ (wH E (q 2) ((iv (bq 2))) ((iv (sq 2))) c2 ++ (wH E (q 3) ((iv (bq 3))) ((iv (sq 3))) c3 ++ []))))))))) := h
  refine z_iconst X dX4_image_16 ?_
  exact ret _ _ _ _ _ (((iv (1)), fd), ((iv (hr A)), (iv (pe A)), (r0_1, r1_1, r2_1, r3_1, r4_1, r5_1, r6_1, r7_1, r8_1)), ((iv (hr A)), (iv (pe A)), (xs, xi, xk, xc, xl, xr, xb, yl, yr)), ((ht), (nt), (t1, t2, t3, t4, t5, t6, t7, t8, t9)), ((iv (tn)), (e1), (e2), (e3), (e4), tp), ((iv (bq 0)), (iv (sq 0)), c0), ((iv (bq 1)), (iv (sq 1)), c1), ((iv (bq 2)), (iv (sq 2)), c2), ((iv (bq 3)), (iv (sq 3)), c3)) h ⟨rfl, ⟨⟨rfl, rfl, hR, hI, hr9⟩, ⟨rfl, Or.inr rfl, fun _ => ⟨rfl, rfl, hRb1, hI, hr9⟩⟩, hF, hT, hB⟩⟩ dX4_image_17

set_option maxHeartbeats 4000000 in
theorem c_X4_undo (hS : RepC (((iv (ik)), fd), ((hk), (nk), (k1, k2, k3, k4, k5, k6, k7, k8, k9)), ((iv (hr A)), (iv (pe A)), (xs, xi, xk, xc, xl, xr, xb, yl, yr)), ((ht), (nt), (t1, t2, t3, t4, t5, t6, t7, t8, t9)), ((iv (tn)), (e1), (e2), (e3), (e4), tp), ((iv (bq 0)), (iv (sq 0)), c0), ((iv (bq 1)), (iv (sq 1)), c1), ((iv (bq 2)), (iv (sq 2)), c2), ((iv (bq 3)), (iv (sq 3)), c3)) (A, K, ik, ph, tq, tn, bq, sq, cq)) : MI (S := Tc) E l yX4_undo cX4_undo 1 (some FieldType.int) (rmk 2 45) (wO E a k b t x q ((iv (ik))) fd ++ (wS E k ((hk)) ((nk)) (k1, k2, k3, k4, k5, k6, k7, k8, k9) ++ (wS E b ((iv (hr A))) ((iv (pe A))) (xs, xi, xk, xc, xl, xr, xb, yl, yr) ++ (wS E t ((ht)) ((nt)) (t1, t2, t3, t4, t5, t6, t7, t8, t9) ++ (wX E x ((iv (tn))) ((e1)) ((e2)) ((e3)) ((e4)) tp ++ (wH E (q 0) ((iv (bq 0))) ((iv (sq 0))) c0 ++ (wH E (q 1) ((iv (bq 1))) ((iv (sq 1))) c1 ++ (wH E (q 2) ((iv (bq 2))) ((iv (sq 2))) c2 ++ (wH E (q 3) ((iv (bq 3))) ((iv (sq 3))) c3 ++ []))))))))) [.ref (a 0)] (fun r u => r = iv ((q_undo A K ik ph).1) ∧ RepC u ((q_undo A K ik ph).2.1, K, ik, (q_undo A K ik ph).2.2, tq, tn, bq, sq, cq)) (fun u => wT E a k b t x q u) := by
  refine goI (S := Tc) (post := fun r u => r = iv ((q_undo A K ik ph).1) ∧ RepC u ((q_undo A K ik ph).2.1, K, ik, (q_undo A K ik ph).2.2, tq, tn, bq, sq, cq)) (ws' := fun u => wT E a k b t x q u) (by decide) (Nat.le_of_ble_eq_true rfl) ?_
  intro pp e s m below meth c ls args Q ret X h hl
  have hl : lv_has ls 1 [(0, .ref (a 0))] := hl
  have hR : RS (xs, xi, xk, xc, xl, xr, xb, yl, yr) A := hS.1.2.2.1
  have hI : IA A := hS.1.2.2.2.1
  have hr9 : hr A ≤ 99999 := hS.1.2.2.2.2
  have hF : RF 7 fd ph := hS.2.2.1
  have hK := hS.2.1
  have hT := hS.2.2.2.1
  have hB := hS.2.2.2.2
  have hh : hr A < 1000000 := by omega
  have n8 := hI.n8
  have n0 := hI.n0
  have h0 := hI.h0
  have ht0 : 0 ≤ tn := hS.2.2.2.1.2.1
  have ht1 : tn ≤ 120 := hS.2.2.2.1.2.2.1
  have hk01 : ik = 0 ∨ ik = 1 := hS.2.1.2.1
  have hB3 : okB bq sq := hS.2.2.2.2.1
  have hH0 : RepH (iv (bq 0), iv (sq 0), c0) bq sq cq 0 := hS.2.2.2.2.2.1
  have hH1 : RepH (iv (bq 1), iv (sq 1), c1) bq sq cq 1 := hS.2.2.2.2.2.2.1
  have hH2 : RepH (iv (bq 2), iv (sq 2), c2) bq sq cq 2 := hS.2.2.2.2.2.2.2.1
  have hH3 : RepH (iv (bq 3), iv (sq 3), c3) bq sq cq 3 := hS.2.2.2.2.2.2.2.2
  refine lv_aload_n X.1 X.2.1 dX4_undo_0 rfl (lv_at hl 0 rfl) ?_
  refine z_get X h 3 0 6 rfl inX4 rfl (by decide) fl_X4_39 rfl dX4_undo_1 ?_
  refine z_if_ne (tgt := 14) X ⟨by omega, by omega⟩ dX4_undo_4 (by decide) (fun c_4 => ?_) (fun c_4 => ?_)
  · have hKE := hS.2.1.2.2 (show ik = 1 by omega)
    have ehk : hk = iv (hr K) := hKE.1
    have enk : nk = iv (pe K) := hKE.2.1
    have kn8 := hKE.2.2.2.1.n8
    have kn0 := hKE.2.2.2.1.n0
    have hRK : RS (k1, k2, k3, k4, k5, k6, k7, k8, k9) K := hKE.2.2.1
    have h : St E (wO E a k b t x q ((iv (ik))) fd ++ (wS E k ((hk)) ((nk)) (k1, k2, k3, k4, k5, k6, k7, k8, k9) ++ (wS E b ((iv (hr A))) ((iv (pe A))) (xs, xi, xk, xc, xl, xr, xb, yl, yr) ++ (wS E t ((ht)) ((nt)) (t1, t2, t3, t4, t5, t6, t7, t8, t9) ++ (wX E x ((iv (tn))) ((e1)) ((e2)) ((e3)) ((e4)) tp ++ (wH E (q 0) ((iv (bq 0))) ((iv (sq 0))) c0 ++ (wH E (q 1) ((iv (bq 1))) ((iv (sq 1))) c1 ++ (wH E (q 2) ((iv (bq 2))) ((iv (sq 2))) c2 ++ (wH E (q 3) ((iv (bq 3))) ((iv (sq 3))) c3 ++ []))))))))) s s.heap [] (wO E a k b t x q ((iv (ik))) fd ++ (wS E k ((iv (hr K))) ((iv (pe K))) (k1, k2, k3, k4, k5, k6, k7, k8, k9) ++ (wS E b ((iv (hr A))) ((iv (pe A))) (xs, xi, xk, xc, xl, xr, xb, yl, yr) ++ (wS E t ((ht)) ((nt)) (t1, t2, t3, t4, t5, t6, t7, t8, t9) ++ (wX E x ((iv (tn))) ((e1)) ((e2)) ((e3)) ((e4)) tp ++ (wH E (q 0) ((iv (bq 0))) ((iv (sq 0))) c0 ++ (wH E (q 1) ((iv (bq 1))) ((iv (sq 1))) c1 ++ (wH E (q 2) ((iv (bq 2))) ((iv (sq 2))) c2 ++ (wH E (q 3) ((iv (bq 3))) ((iv (sq 3))) c3 ++ []))))))))) := by rw [← ehk, ← enk]; exact h
    refine lv_aload_n X.1 X.2.1 dX4_undo_14 rfl (lv_at hl 0 rfl) ?_
    refine z_get X h 3 0 0 rfl inX4 rfl (by decide) fl_X4_10 rfl dX4_undo_15 ?_
    refine lv_aload_n X.1 X.2.1 dX4_undo_18 rfl (lv_at hl 0 rfl) ?_
    refine z_get X h 3 0 2 rfl inX4 rfl (by decide) fl_X4_19 rfl dX4_undo_19 ?_
    refine z_wv (st_pair (st_in (st_nil h))) (run_V (rest := []) X (st_pair (st_in (st_nil h))) (c_X1_become2 hRK kn8) mi_X1_become ml_X4_180 ⟨Nat.le_of_ble_eq_true rfl, Nat.le_of_ble_eq_true rfl⟩ ⟨rfl, rfl⟩ (Seg.mk' _ _) 1 13 rfl rfl rfl rfl hl.1 rfl (Nat.le_of_ble_eq_true rfl) ⟨Nat.zero_le _, Nat.zero_le _⟩ dX4_undo_22) (fun _ => map_app (wS_map _ _ _ _ _ _ _ _) (map_app (wS_map _ _ _ _ _ _ _ _) rfl)) (fun u H locs hp h => ?_)
    have h := (st_lin (st_out (st_riap h)))
    obtain ⟨r0_1, r1_1, r2_1, r3_1, r4_1, r5_1, r6_1, r7_1, r8_1⟩ := u
    have h : St E _ s H locs (wO E a k b t x q ((iv (ik))) fd ++ (wS E k ((iv (hr K))) ((iv (pe K))) (k1, k2, k3, k4, k5, k6, k7, k8, k9) ++ (wS E b ((iv (hr K))) ((iv (pe K))) (r0_1, r1_1, r2_1, r3_1, r4_1, r5_1, r6_1, r7_1, r8_1) ++ (wS E t ((ht)) ((nt)) (t1, t2, t3, t4, t5, t6, t7, t8, t9) ++ (wX E x ((iv (tn))) ((e1)) ((e2)) ((e3)) ((e4)) tp ++ (wH E (q 0) ((iv (bq 0))) ((iv (sq 0))) c0 ++ (wH E (q 1) ((iv (bq 1))) ((iv (sq 1))) c1 ++ (wH E (q 2) ((iv (bq 2))) ((iv (sq 2))) c2 ++ (wH E (q 3) ((iv (bq 3))) ((iv (sq 3))) c3 ++ []))))))))) := h
    have hRb1 : RS (r0_1, r1_1, r2_1, r3_1, r4_1, r5_1, r6_1, r7_1, r8_1) K := hp
    refine lv_aload_n X.1 X.2.1 dX4_undo_25 rfl (lv_at hl 0 rfl) ?_
    refine z_get X h 3 0 0 rfl inX4 rfl (by decide) fl_X4_10 rfl dX4_undo_26 ?_
    refine z_get X h 1 13 1 rfl inX1 rfl (by decide) fl_X4_86 rfl dX4_undo_29 ?_
    have e9 : q_undo A K ik ph = (pe K, K, ph) := by unfold q_undo; (repeat (first | rw [if_pos (by omega)] | rw [if_neg (by omega)])); try rfl
    exact ret _ _ _ _ _ (((iv (ik)), fd), ((iv (hr K)), (iv (pe K)), (k1, k2, k3, k4, k5, k6, k7, k8, k9)), ((iv (hr K)), (iv (pe K)), (r0_1, r1_1, r2_1, r3_1, r4_1, r5_1, r6_1, r7_1, r8_1)), ((ht), (nt), (t1, t2, t3, t4, t5, t6, t7, t8, t9)), ((iv (tn)), (e1), (e2), (e3), (e4), tp), ((iv (bq 0)), (iv (sq 0)), c0), ((iv (bq 1)), (iv (sq 1)), c1), ((iv (bq 2)), (iv (sq 2)), c2), ((iv (bq 3)), (iv (sq 3)), c3)) h (by rw [e9]; exact ⟨rfl, ⟨⟨rfl, rfl, hRb1, hKE.2.2.2.1, hKE.2.2.2.2⟩, ⟨rfl, hk01, fun _ => ⟨rfl, rfl, hRK, hKE.2.2.2⟩⟩, hF, hT, hB⟩⟩) dX4_undo_32
  · refine lv_aload_n X.1 X.2.1 dX4_undo_7 rfl (lv_at hl 0 rfl) ?_
    refine z_ldc (z := (-1000000004)) X ct_X4_156 (by decide) dX4_undo_8 ?_
    refine z_wi (st_sing (st_nil h)) (run_V (rest := []) X (st_sing (st_nil h)) (c_X4_finding (j := 3) hF (by decide) (by decide) (by decide)) mi_X4_finding ml_X4_49 ⟨Nat.le_of_ble_eq_true rfl, Nat.le_of_ble_eq_true rfl⟩ ⟨rfl, rfl⟩ (Seg.mk' _ _) 3 0 rfl rfl rfl rfl hl.1 rfl (Nat.le_of_ble_eq_true rfl) ⟨Nat.zero_le _, Nat.zero_le _⟩ dX4_undo_10) (fun _ => map_app (wO_map _ _ _ _ _ _ _ _ _ _ _) rfl) (fun r fd2 H locs hp h => ?_)
    have h := (st_lin (st_gnis h))
    obtain ⟨rfl, hF2⟩ := hp
    have h : St E _ s H locs (wO E a k b t x q ((iv (ik))) fd2 ++ (wS E k ((hk)) ((nk)) (k1, k2, k3, k4, k5, k6, k7, k8, k9) ++ (wS E b ((iv (hr A))) ((iv (pe A))) (xs, xi, xk, xc, xl, xr, xb, yl, yr) ++ (wS E t ((ht)) ((nt)) (t1, t2, t3, t4, t5, t6, t7, t8, t9) ++ (wX E x ((iv (tn))) ((e1)) ((e2)) ((e3)) ((e4)) tp ++ (wH E (q 0) ((iv (bq 0))) ((iv (sq 0))) c0 ++ (wH E (q 1) ((iv (bq 1))) ((iv (sq 1))) c1 ++ (wH E (q 2) ((iv (bq 2))) ((iv (sq 2))) c2 ++ (wH E (q 3) ((iv (bq 3))) ((iv (sq 3))) c3 ++ []))))))))) := h
    have e9 : q_undo A K ik ph = ((-1000000004), A, (bump ph 3)) := by unfold q_undo; (repeat (first | rw [if_pos (by omega)] | rw [if_neg (by omega)])); try rfl
    exact ret _ _ _ _ _ (((iv (ik)), fd2), ((hk), (nk), (k1, k2, k3, k4, k5, k6, k7, k8, k9)), ((iv (hr A)), (iv (pe A)), (xs, xi, xk, xc, xl, xr, xb, yl, yr)), ((ht), (nt), (t1, t2, t3, t4, t5, t6, t7, t8, t9)), ((iv (tn)), (e1), (e2), (e3), (e4), tp), ((iv (bq 0)), (iv (sq 0)), c0), ((iv (bq 1)), (iv (sq 1)), c1), ((iv (bq 2)), (iv (sq 2)), c2), ((iv (bq 3)), (iv (sq 3)), c3)) h (by rw [e9]; exact ⟨rfl, ⟨⟨rfl, rfl, hR, hI, hr9⟩, hK, hF2, hT, hB⟩⟩) dX4_undo_13

set_option maxHeartbeats 4000000 in
theorem c_X4_tear (hS : RepC (((iv (ik)), fd), ((hk), (nk), (k1, k2, k3, k4, k5, k6, k7, k8, k9)), ((iv (hr A)), (iv (pe A)), (xs, xi, xk, xc, xl, xr, xb, yl, yr)), ((ht), (nt), (t1, t2, t3, t4, t5, t6, t7, t8, t9)), ((iv (tn)), (e1), (e2), (e3), (e4), tp), ((iv (bq 0)), (iv (sq 0)), c0), ((iv (bq 1)), (iv (sq 1)), c1), ((iv (bq 2)), (iv (sq 2)), c2), ((iv (bq 3)), (iv (sq 3)), c3)) (A, K, ik, ph, tq, tn, bq, sq, cq)) : MI (S := Tc) E l yX4_tear cX4_tear 2 (some FieldType.int) (rmk 0 0) (wO E a k b t x q ((iv (ik))) fd ++ (wS E k ((hk)) ((nk)) (k1, k2, k3, k4, k5, k6, k7, k8, k9) ++ (wS E b ((iv (hr A))) ((iv (pe A))) (xs, xi, xk, xc, xl, xr, xb, yl, yr) ++ (wS E t ((ht)) ((nt)) (t1, t2, t3, t4, t5, t6, t7, t8, t9) ++ (wX E x ((iv (tn))) ((e1)) ((e2)) ((e3)) ((e4)) tp ++ (wH E (q 0) ((iv (bq 0))) ((iv (sq 0))) c0 ++ (wH E (q 1) ((iv (bq 1))) ((iv (sq 1))) c1 ++ (wH E (q 2) ((iv (bq 2))) ((iv (sq 2))) c2 ++ (wH E (q 3) ((iv (bq 3))) ((iv (sq 3))) c3 ++ []))))))))) [.ref (a 0)] (fun r u => r = iv (ik) ∧ RepC u (A, K, 0, ph, tq, tn, bq, sq, cq)) (fun u => wT E a k b t x q u) := by
  refine goI (S := Tc) (post := fun r u => r = iv (ik) ∧ RepC u (A, K, 0, ph, tq, tn, bq, sq, cq)) (ws' := fun u => wT E a k b t x q u) (by decide) (Nat.le_of_ble_eq_true rfl) ?_
  intro pp e s m below meth c ls args Q ret X h hl
  have hl : lv_has ls 2 [(0, .ref (a 0))] := hl
  have hR : RS (xs, xi, xk, xc, xl, xr, xb, yl, yr) A := hS.1.2.2.1
  have hI : IA A := hS.1.2.2.2.1
  have hr9 : hr A ≤ 99999 := hS.1.2.2.2.2
  have hF : RF 7 fd ph := hS.2.2.1
  have hK := hS.2.1
  have hT := hS.2.2.2.1
  have hB := hS.2.2.2.2
  have hh : hr A < 1000000 := by omega
  have n8 := hI.n8
  have n0 := hI.n0
  have h0 := hI.h0
  have ht0 : 0 ≤ tn := hS.2.2.2.1.2.1
  have ht1 : tn ≤ 120 := hS.2.2.2.1.2.2.1
  have hk01 : ik = 0 ∨ ik = 1 := hS.2.1.2.1
  have hB3 : okB bq sq := hS.2.2.2.2.1
  have hH0 : RepH (iv (bq 0), iv (sq 0), c0) bq sq cq 0 := hS.2.2.2.2.2.1
  have hH1 : RepH (iv (bq 1), iv (sq 1), c1) bq sq cq 1 := hS.2.2.2.2.2.2.1
  have hH2 : RepH (iv (bq 2), iv (sq 2), c2) bq sq cq 2 := hS.2.2.2.2.2.2.2.1
  have hH3 : RepH (iv (bq 3), iv (sq 3), c3) bq sq cq 3 := hS.2.2.2.2.2.2.2.2
  refine lv_aload_n X.1 X.2.1 dX4_tear_0 rfl (lv_at hl 0 rfl) ?_
  refine z_get X h 3 0 6 rfl inX4 rfl (by decide) fl_X4_39 rfl dX4_tear_1 ?_
  refine z_if_eq (tgt := 11) X ⟨by omega, by omega⟩ dX4_tear_4 (by decide) (fun c_4 => ?_) (fun c_4 => ?_)
  · refine z_iconst X dX4_tear_11 ?_
    refine lv_istore_n (lv' := [(1, .int (iv (0))), (0, .ref (a 0))]) X.1 X.2.1 dX4_tear_12 rfl hl (by decide) rfl (fun ls hl => ?_)
    refine lv_aload_n X.1 X.2.1 dX4_tear_13 rfl (lv_at hl 1 rfl) ?_
    refine z_iconst X dX4_tear_14 ?_
    refine s_put X (st_nil h) 3 0 6 rfl inX4 tyX4 tyX4_ok nmX4 rfl (by decide) fl_X4_39 rfl (by decide) (by decide) (Nat.le_of_ble_eq_true rfl) dX4_tear_15 (fun H locs h => ?_)
    have h := (st_lin (st_eq wO_keeps h))
    have h : St E _ s H locs (wO E a k b t x q ((iv (0))) fd ++ (wS E k ((hk)) ((nk)) (k1, k2, k3, k4, k5, k6, k7, k8, k9) ++ (wS E b ((iv (hr A))) ((iv (pe A))) (xs, xi, xk, xc, xl, xr, xb, yl, yr) ++ (wS E t ((ht)) ((nt)) (t1, t2, t3, t4, t5, t6, t7, t8, t9) ++ (wX E x ((iv (tn))) ((e1)) ((e2)) ((e3)) ((e4)) tp ++ (wH E (q 0) ((iv (bq 0))) ((iv (sq 0))) c0 ++ (wH E (q 1) ((iv (bq 1))) ((iv (sq 1))) c1 ++ (wH E (q 2) ((iv (bq 2))) ((iv (sq 2))) c2 ++ (wH E (q 3) ((iv (bq 3))) ((iv (sq 3))) c3 ++ []))))))))) := h
    refine lv_iload_n X.1 X.2.1 dX4_tear_18 rfl (lv_at hl 0 rfl) ?_
    exact ret _ _ _ _ _ (((iv (0)), fd), ((hk), (nk), (k1, k2, k3, k4, k5, k6, k7, k8, k9)), ((iv (hr A)), (iv (pe A)), (xs, xi, xk, xc, xl, xr, xb, yl, yr)), ((ht), (nt), (t1, t2, t3, t4, t5, t6, t7, t8, t9)), ((iv (tn)), (e1), (e2), (e3), (e4), tp), ((iv (bq 0)), (iv (sq 0)), c0), ((iv (bq 1)), (iv (sq 1)), c1), ((iv (bq 2)), (iv (sq 2)), c2), ((iv (bq 3)), (iv (sq 3)), c3)) h ⟨congrArg iv (show (0 : Int) = ik by omega), ⟨⟨rfl, rfl, hR, hI, hr9⟩, ⟨rfl, Or.inl rfl, fun q => absurd q (show ¬ (0 : Int) = 1 by decide)⟩, hF, hT, hB⟩⟩ dX4_tear_19
  · refine z_iconst X dX4_tear_7 ?_
    refine lv_goto (tgt := 12) X.1 X.2.1 dX4_tear_8 (by decide) ?_
    refine lv_istore_n (lv' := [(1, .int (iv (1))), (0, .ref (a 0))]) X.1 X.2.1 dX4_tear_12 rfl hl (by decide) rfl (fun ls hl => ?_)
    refine lv_aload_n X.1 X.2.1 dX4_tear_13 rfl (lv_at hl 1 rfl) ?_
    refine z_iconst X dX4_tear_14 ?_
    refine s_put X (st_nil h) 3 0 6 rfl inX4 tyX4 tyX4_ok nmX4 rfl (by decide) fl_X4_39 rfl (by decide) (by decide) (Nat.le_of_ble_eq_true rfl) dX4_tear_15 (fun H locs h => ?_)
    have h := (st_lin (st_eq wO_keeps h))
    have h : St E _ s H locs (wO E a k b t x q ((iv (0))) fd ++ (wS E k ((hk)) ((nk)) (k1, k2, k3, k4, k5, k6, k7, k8, k9) ++ (wS E b ((iv (hr A))) ((iv (pe A))) (xs, xi, xk, xc, xl, xr, xb, yl, yr) ++ (wS E t ((ht)) ((nt)) (t1, t2, t3, t4, t5, t6, t7, t8, t9) ++ (wX E x ((iv (tn))) ((e1)) ((e2)) ((e3)) ((e4)) tp ++ (wH E (q 0) ((iv (bq 0))) ((iv (sq 0))) c0 ++ (wH E (q 1) ((iv (bq 1))) ((iv (sq 1))) c1 ++ (wH E (q 2) ((iv (bq 2))) ((iv (sq 2))) c2 ++ (wH E (q 3) ((iv (bq 3))) ((iv (sq 3))) c3 ++ []))))))))) := h
    refine lv_iload_n X.1 X.2.1 dX4_tear_18 rfl (lv_at hl 0 rfl) ?_
    exact ret _ _ _ _ _ (((iv (0)), fd), ((hk), (nk), (k1, k2, k3, k4, k5, k6, k7, k8, k9)), ((iv (hr A)), (iv (pe A)), (xs, xi, xk, xc, xl, xr, xb, yl, yr)), ((ht), (nt), (t1, t2, t3, t4, t5, t6, t7, t8, t9)), ((iv (tn)), (e1), (e2), (e3), (e4), tp), ((iv (bq 0)), (iv (sq 0)), c0), ((iv (bq 1)), (iv (sq 1)), c1), ((iv (bq 2)), (iv (sq 2)), c2), ((iv (bq 3)), (iv (sq 3)), c3)) h ⟨congrArg iv (show (1 : Int) = ik by omega), ⟨⟨rfl, rfl, hR, hI, hr9⟩, ⟨rfl, Or.inl rfl, fun q => absurd q (show ¬ (0 : Int) = 1 by decide)⟩, hF, hT, hB⟩⟩ dX4_tear_19

set_option maxHeartbeats 4000000 in
theorem c_X4_status (hS : RepC (((iv (ik)), fd), ((hk), (nk), (k1, k2, k3, k4, k5, k6, k7, k8, k9)), ((iv (hr A)), (iv (pe A)), (xs, xi, xk, xc, xl, xr, xb, yl, yr)), ((ht), (nt), (t1, t2, t3, t4, t5, t6, t7, t8, t9)), ((iv (tn)), (e1), (e2), (e3), (e4), tp), ((iv (bq 0)), (iv (sq 0)), c0), ((iv (bq 1)), (iv (sq 1)), c1), ((iv (bq 2)), (iv (sq 2)), c2), ((iv (bq 3)), (iv (sq 3)), c3)) (A, K, ik, ph, tq, tn, bq, sq, cq)) {pw : Int} (r_pw : r32 pw) : MI (S := Tc) E l yX4_status cX4_status 4 (some FieldType.int) (rmk 2 44) (wO E a k b t x q ((iv (ik))) fd ++ (wS E k ((hk)) ((nk)) (k1, k2, k3, k4, k5, k6, k7, k8, k9) ++ (wS E b ((iv (hr A))) ((iv (pe A))) (xs, xi, xk, xc, xl, xr, xb, yl, yr) ++ (wS E t ((ht)) ((nt)) (t1, t2, t3, t4, t5, t6, t7, t8, t9) ++ (wX E x ((iv (tn))) ((e1)) ((e2)) ((e3)) ((e4)) tp ++ (wH E (q 0) ((iv (bq 0))) ((iv (sq 0))) c0 ++ (wH E (q 1) ((iv (bq 1))) ((iv (sq 1))) c1 ++ (wH E (q 2) ((iv (bq 2))) ((iv (sq 2))) c2 ++ (wH E (q 3) ((iv (bq 3))) ((iv (sq 3))) c3 ++ []))))))))) [.ref (a 0), .int (iv (pw))] (fun r u => r = iv ((q_status ph pw).1) ∧ RepC u (A, K, ik, (q_status ph pw).2, tq, tn, bq, sq, cq)) (fun u => wT E a k b t x q u) := by
  refine goI (S := Tc) (post := fun r u => r = iv ((q_status ph pw).1) ∧ RepC u (A, K, ik, (q_status ph pw).2, tq, tn, bq, sq, cq)) (ws' := fun u => wT E a k b t x q u) (by decide) (Nat.le_of_ble_eq_true rfl) ?_
  intro pp e s m below meth c ls args Q ret X h hl
  have hl : lv_has ls 4 [(0, .ref (a 0)), (1, .int (iv (pw)))] := hl
  have hR : RS (xs, xi, xk, xc, xl, xr, xb, yl, yr) A := hS.1.2.2.1
  have hI : IA A := hS.1.2.2.2.1
  have hr9 : hr A ≤ 99999 := hS.1.2.2.2.2
  have hF : RF 7 fd ph := hS.2.2.1
  have hK := hS.2.1
  have hT := hS.2.2.2.1
  have hB := hS.2.2.2.2
  have hh : hr A < 1000000 := by omega
  have n8 := hI.n8
  have n0 := hI.n0
  have h0 := hI.h0
  have ht0 : 0 ≤ tn := hS.2.2.2.1.2.1
  have ht1 : tn ≤ 120 := hS.2.2.2.1.2.2.1
  have hk01 : ik = 0 ∨ ik = 1 := hS.2.1.2.1
  have hB3 : okB bq sq := hS.2.2.2.2.1
  have hH0 : RepH (iv (bq 0), iv (sq 0), c0) bq sq cq 0 := hS.2.2.2.2.2.1
  have hH1 : RepH (iv (bq 1), iv (sq 1), c1) bq sq cq 1 := hS.2.2.2.2.2.2.1
  have hH2 : RepH (iv (bq 2), iv (sq 2), c2) bq sq cq 2 := hS.2.2.2.2.2.2.2.1
  have hH3 : RepH (iv (bq 3), iv (sq 3), c3) bq sq cq 3 := hS.2.2.2.2.2.2.2.2
  refine lv_iload_n X.1 X.2.1 dX4_status_0 rfl (lv_at hl 1 rfl) ?_
  refine z_iconst X dX4_status_1 ?_
  refine z_bipush X (by decide) dX4_status_2 ?_
  refine z_pi (run_S (rest := []) X h (c_X4_within r_pw ⟨by decide, by decide⟩ ⟨by decide, by decide⟩) mi_X4_within ml_X4_44 ⟨Nat.le_of_ble_eq_true rfl, Nat.le_of_ble_eq_true rfl⟩ ⟨rfl, rfl⟩ (Seg.nil _) rfl hl.1 rfl (Nat.le_of_ble_eq_true rfl) ⟨Nat.zero_le _, Nat.zero_le _⟩ dX4_status_4) ?_
  refine z_ifb_ne (tgt := 17) X dX4_status_7 (by decide) (fun c_7 => ?_) (fun c_7 => ?_)
  · refine lv_iload_n X.1 X.2.1 dX4_status_17 rfl (lv_at hl 1 rfl) ?_
    refine z_if_lt (tgt := 28) X r_pw dX4_status_18 (by decide) (fun c_18 => ?_) (fun c_18 => ?_)
    · refine z_iconst X dX4_status_28 ?_
      refine lv_istore_n (lv' := [(2, .int (iv (0))), (0, .ref (a 0)), (1, .int (iv (pw)))]) X.1 X.2.1 dX4_status_29 rfl hl (by decide) rfl (fun ls hl => ?_)
      refine z_iconst X dX4_status_30 ?_
      refine lv_istore_n (lv' := [(3, .int (iv (0))), (2, .int (iv (0))), (0, .ref (a 0)), (1, .int (iv (pw)))]) X.1 X.2.1 dX4_status_31 rfl hl (by decide) rfl (fun ls hl => ?_)
      have L32 : ∀ (fuel_ : Nat) (i : Int) (kk : Int), (0 ≤ i) → (i ≤ 7) → (kk = stk ph pw i.toNat) → 7 - i < (fuel_ : Int) → ∀ ls : Array Slot, lv_has ls 4 [(0, .ref (a 0)), (1, .int (iv (pw))), (2, .int (iv (kk))), (3, .int (iv (i)))] → W pp l e (rmk 2 44) s m args below meth c s.heap [] 0 0 Q (F0 m 32 ls []) := by
        intro fuel_
        induction fuel_ with
        | zero =>
          intro i kk i0 i1 hk9 hn
          exfalso; omega
        | succ fuel_ ih =>
          intro i kk i0 i1 hk9 hn ls hl
          refine lv_iload_n X.1 X.2.1 dX4_status_32 rfl (lv_at hl 3 rfl) ?_
          refine z_bipush X (by decide) dX4_status_33 ?_
          refine z_ic_ge (tgt := 53) X ⟨by omega, by omega⟩ ⟨by decide, by decide⟩ dX4_status_35 (by decide) (fun c_35 => ?_) (fun c_35 => ?_)
          · refine lv_iload_n X.1 X.2.1 dX4_status_53 rfl (lv_at hl 2 rfl) ?_
            have e9 : q_status ph pw = (kk, ph) := by unfold q_status; rw [if_neg (by omega), hk9, show i = 7 by omega]; rfl
            exact ret _ _ _ _ _ (((iv (ik)), fd), ((hk), (nk), (k1, k2, k3, k4, k5, k6, k7, k8, k9)), ((iv (hr A)), (iv (pe A)), (xs, xi, xk, xc, xl, xr, xb, yl, yr)), ((ht), (nt), (t1, t2, t3, t4, t5, t6, t7, t8, t9)), ((iv (tn)), (e1), (e2), (e3), (e4), tp), ((iv (bq 0)), (iv (sq 0)), c0), ((iv (bq 1)), (iv (sq 1)), c1), ((iv (bq 2)), (iv (sq 2)), c2), ((iv (bq 3)), (iv (sq 3)), c3)) h (by rw [e9]; exact ⟨rfl, ⟨⟨rfl, rfl, hR, hI, hr9⟩, hK, hF, hT, hB⟩⟩) dX4_status_54
          · refine lv_iload_n X.1 X.2.1 dX4_status_38 rfl (lv_at hl 2 rfl) ?_
            refine lv_aload_n X.1 X.2.1 dX4_status_39 rfl (lv_at hl 0 rfl) ?_
            refine z_get X h 3 0 5 rfl inX4 rfl (by decide) fl_X4_35 rfl dX4_status_40 ?_
            refine lv_iload_n X.1 X.2.1 dX4_status_43 rfl (lv_at hl 3 rfl) ?_
            refine z_iald (v := ph i) X h 2 rfl (by omega) (by omega) (by decide) (hF i (by omega) (by omega)) dX4_status_44 ?_
            refine z_iadd X dX4_status_45 ?_
            refine lv_istore_n (lv' := [(2, .int (iv (kk + (ph i)))), (0, .ref (a 0)), (1, .int (iv (pw))), (3, .int (iv (i)))]) X.1 X.2.1 dX4_status_46 rfl hl (by decide) rfl (fun ls hl => ?_)
            refine z_iinc (k := 3) (lv' := [(3, .int (iv (i + 1))), (2, .int (iv (kk + (ph i)))), (0, .ref (a 0)), (1, .int (iv (pw)))]) X dX4_status_47 hl rfl (by decide) rfl (fun ls hl => ?_)
            refine lv_goto (tgt := 32) X.1 X.2.1 dX4_status_50 (by decide) ?_
            exact ih (i + 1) (kk + (ph i)) (by omega) (by omega) (by rw [tn1 i0, stk, tnc i0, hk9]; rw [if_pos (Or.inl (by omega))]) (by omega) ls (lv_sub hl [2, 3, 1, 0] rfl)
      exact L32 ((7 - (0) : Int).toNat + 1) (0) (0) (by omega) (by omega) (rfl) (by omega) ls (lv_sub hl [2, 3, 1, 0] rfl)
    · refine lv_aload_n X.1 X.2.1 dX4_status_21 rfl (lv_at hl 0 rfl) ?_
      refine z_get X h 3 0 5 rfl inX4 rfl (by decide) fl_X4_35 rfl dX4_status_22 ?_
      refine lv_iload_n X.1 X.2.1 dX4_status_25 rfl (lv_at hl 1 rfl) ?_
      refine z_iald (v := ph pw) X h 2 rfl (by omega) (by omega) (by decide) (hF pw (by omega) (by omega)) dX4_status_26 ?_
      have e9 : q_status ph pw = (ph pw, ph) := by unfold q_status; rw [if_neg (by omega), stk_one (by omega) (by omega)]
      exact ret _ _ _ _ _ (((iv (ik)), fd), ((hk), (nk), (k1, k2, k3, k4, k5, k6, k7, k8, k9)), ((iv (hr A)), (iv (pe A)), (xs, xi, xk, xc, xl, xr, xb, yl, yr)), ((ht), (nt), (t1, t2, t3, t4, t5, t6, t7, t8, t9)), ((iv (tn)), (e1), (e2), (e3), (e4), tp), ((iv (bq 0)), (iv (sq 0)), c0), ((iv (bq 1)), (iv (sq 1)), c1), ((iv (bq 2)), (iv (sq 2)), c2), ((iv (bq 3)), (iv (sq 3)), c3)) h (by rw [e9]; exact ⟨rfl, ⟨⟨rfl, rfl, hR, hI, hr9⟩, hK, hF, hT, hB⟩⟩) dX4_status_27
  · refine lv_aload_n X.1 X.2.1 dX4_status_10 rfl (lv_at hl 0 rfl) ?_
    refine z_ldc (z := (-1000000001)) X ct_X4_48 (by decide) dX4_status_11 ?_
    refine z_wi (st_sing (st_nil h)) (run_V (rest := []) X (st_sing (st_nil h)) (c_X4_finding (j := 0) hF (by decide) (by decide) (by decide)) mi_X4_finding ml_X4_49 ⟨Nat.le_of_ble_eq_true rfl, Nat.le_of_ble_eq_true rfl⟩ ⟨rfl, rfl⟩ (Seg.mk' _ _) 3 0 rfl rfl rfl rfl hl.1 rfl (Nat.le_of_ble_eq_true rfl) ⟨Nat.zero_le _, Nat.zero_le _⟩ dX4_status_13) (fun _ => map_app (wO_map _ _ _ _ _ _ _ _ _ _ _) rfl) (fun r fd1 H locs hp h => ?_)
    have h := (st_lin (st_gnis h))
    obtain ⟨rfl, hF1⟩ := hp
    have h : St E _ s H locs (wO E a k b t x q ((iv (ik))) fd1 ++ (wS E k ((hk)) ((nk)) (k1, k2, k3, k4, k5, k6, k7, k8, k9) ++ (wS E b ((iv (hr A))) ((iv (pe A))) (xs, xi, xk, xc, xl, xr, xb, yl, yr) ++ (wS E t ((ht)) ((nt)) (t1, t2, t3, t4, t5, t6, t7, t8, t9) ++ (wX E x ((iv (tn))) ((e1)) ((e2)) ((e3)) ((e4)) tp ++ (wH E (q 0) ((iv (bq 0))) ((iv (sq 0))) c0 ++ (wH E (q 1) ((iv (bq 1))) ((iv (sq 1))) c1 ++ (wH E (q 2) ((iv (bq 2))) ((iv (sq 2))) c2 ++ (wH E (q 3) ((iv (bq 3))) ((iv (sq 3))) c3 ++ []))))))))) := h
    have e9 : q_status ph pw = ((-1000000001), (bump ph 0)) := by unfold q_status; (repeat (first | rw [if_pos (by omega)] | rw [if_neg (by omega)])); try rfl
    exact ret _ _ _ _ _ (((iv (ik)), fd1), ((hk), (nk), (k1, k2, k3, k4, k5, k6, k7, k8, k9)), ((iv (hr A)), (iv (pe A)), (xs, xi, xk, xc, xl, xr, xb, yl, yr)), ((ht), (nt), (t1, t2, t3, t4, t5, t6, t7, t8, t9)), ((iv (tn)), (e1), (e2), (e3), (e4), tp), ((iv (bq 0)), (iv (sq 0)), c0), ((iv (bq 1)), (iv (sq 1)), c1), ((iv (bq 2)), (iv (sq 2)), c2), ((iv (bq 3)), (iv (sq 3)), c3)) h (by rw [e9]; exact ⟨rfl, ⟨⟨rfl, rfl, hR, hI, hr9⟩, hK, hF1, hT, hB⟩⟩) dX4_status_16

set_option maxHeartbeats 4000000 in
theorem c_X4_wipe (hS : RepC (((iv (ik)), fd), ((hk), (nk), (k1, k2, k3, k4, k5, k6, k7, k8, k9)), ((iv (hr A)), (iv (pe A)), (xs, xi, xk, xc, xl, xr, xb, yl, yr)), ((ht), (nt), (t1, t2, t3, t4, t5, t6, t7, t8, t9)), ((iv (tn)), (e1), (e2), (e3), (e4), tp), ((iv (bq 0)), (iv (sq 0)), c0), ((iv (bq 1)), (iv (sq 1)), c1), ((iv (bq 2)), (iv (sq 2)), c2), ((iv (bq 3)), (iv (sq 3)), c3)) (A, K, ik, ph, tq, tn, bq, sq, cq)) : MI (S := Tc) E l yX4_wipe cX4_wipe 2 (some FieldType.int) (rmk 0 0) (wO E a k b t x q ((iv (ik))) fd ++ (wS E k ((hk)) ((nk)) (k1, k2, k3, k4, k5, k6, k7, k8, k9) ++ (wS E b ((iv (hr A))) ((iv (pe A))) (xs, xi, xk, xc, xl, xr, xb, yl, yr) ++ (wS E t ((ht)) ((nt)) (t1, t2, t3, t4, t5, t6, t7, t8, t9) ++ (wX E x ((iv (tn))) ((e1)) ((e2)) ((e3)) ((e4)) tp ++ (wH E (q 0) ((iv (bq 0))) ((iv (sq 0))) c0 ++ (wH E (q 1) ((iv (bq 1))) ((iv (sq 1))) c1 ++ (wH E (q 2) ((iv (bq 2))) ((iv (sq 2))) c2 ++ (wH E (q 3) ((iv (bq 3))) ((iv (sq 3))) c3 ++ []))))))))) [.ref (a 0)] (fun r u => r = iv (tn) ∧ RepC u (A, K, ik, ph, tq, 0, bq, sq, cq)) (fun u => wT E a k b t x q u) := by
  refine goI (S := Tc) (post := fun r u => r = iv (tn) ∧ RepC u (A, K, ik, ph, tq, 0, bq, sq, cq)) (ws' := fun u => wT E a k b t x q u) (by decide) (Nat.le_of_ble_eq_true rfl) ?_
  intro pp e s m below meth c ls args Q ret X h hl
  have hl : lv_has ls 2 [(0, .ref (a 0))] := hl
  have hR : RS (xs, xi, xk, xc, xl, xr, xb, yl, yr) A := hS.1.2.2.1
  have hI : IA A := hS.1.2.2.2.1
  have hr9 : hr A ≤ 99999 := hS.1.2.2.2.2
  have hF : RF 7 fd ph := hS.2.2.1
  have hK := hS.2.1
  have hT := hS.2.2.2.1
  have hB := hS.2.2.2.2
  have hh : hr A < 1000000 := by omega
  have n8 := hI.n8
  have n0 := hI.n0
  have h0 := hI.h0
  have ht0 : 0 ≤ tn := hS.2.2.2.1.2.1
  have ht1 : tn ≤ 120 := hS.2.2.2.1.2.2.1
  have hk01 : ik = 0 ∨ ik = 1 := hS.2.1.2.1
  have hB3 : okB bq sq := hS.2.2.2.2.1
  have hH0 : RepH (iv (bq 0), iv (sq 0), c0) bq sq cq 0 := hS.2.2.2.2.2.1
  have hH1 : RepH (iv (bq 1), iv (sq 1), c1) bq sq cq 1 := hS.2.2.2.2.2.2.1
  have hH2 : RepH (iv (bq 2), iv (sq 2), c2) bq sq cq 2 := hS.2.2.2.2.2.2.2.1
  have hH3 : RepH (iv (bq 3), iv (sq 3), c3) bq sq cq 3 := hS.2.2.2.2.2.2.2.2
  refine lv_aload_n X.1 X.2.1 dX4_wipe_0 rfl (lv_at hl 0 rfl) ?_
  refine z_get X h 3 0 3 rfl inX4 rfl (by decide) fl_X4_25 rfl dX4_wipe_1 ?_
  refine z_get X h 2 33 0 rfl inX2 rfl (by decide) fl_X4_170 rfl dX4_wipe_4 ?_
  refine lv_istore_n (lv' := [(1, .int (iv (tn))), (0, .ref (a 0))]) X.1 X.2.1 dX4_wipe_7 rfl hl (by decide) rfl (fun ls hl => ?_)
  refine lv_aload_n X.1 X.2.1 dX4_wipe_8 rfl (lv_at hl 1 rfl) ?_
  refine z_get X h 3 0 3 rfl inX4 rfl (by decide) fl_X4_25 rfl dX4_wipe_9 ?_
  refine z_iconst X dX4_wipe_12 ?_
  refine s_put X (st_in (st_in (st_in (st_in (st_nil h))))) 2 0 0 rfl inX2 tyX2 tyX2_ok nmX2 rfl (by decide) fl_X4_170 rfl rfl rfl (Nat.le_of_ble_eq_true rfl) dX4_wipe_13 (fun H locs h => ?_)
  have h := (st_lin (st_out (st_out (st_out (st_out (st_eq wX_size h))))))
  have h : St E _ s H locs (wO E a k b t x q ((iv (ik))) fd ++ (wS E k ((hk)) ((nk)) (k1, k2, k3, k4, k5, k6, k7, k8, k9) ++ (wS E b ((iv (hr A))) ((iv (pe A))) (xs, xi, xk, xc, xl, xr, xb, yl, yr) ++ (wS E t ((ht)) ((nt)) (t1, t2, t3, t4, t5, t6, t7, t8, t9) ++ (wX E x ((iv (0))) ((e1)) ((e2)) ((e3)) ((e4)) tp ++ (wH E (q 0) ((iv (bq 0))) ((iv (sq 0))) c0 ++ (wH E (q 1) ((iv (bq 1))) ((iv (sq 1))) c1 ++ (wH E (q 2) ((iv (bq 2))) ((iv (sq 2))) c2 ++ (wH E (q 3) ((iv (bq 3))) ((iv (sq 3))) c3 ++ []))))))))) := h
  refine lv_iload_n X.1 X.2.1 dX4_wipe_16 rfl (lv_at hl 0 rfl) ?_
  exact ret _ _ _ _ _ (((iv (ik)), fd), ((hk), (nk), (k1, k2, k3, k4, k5, k6, k7, k8, k9)), ((iv (hr A)), (iv (pe A)), (xs, xi, xk, xc, xl, xr, xb, yl, yr)), ((ht), (nt), (t1, t2, t3, t4, t5, t6, t7, t8, t9)), ((iv (0)), (e1), (e2), (e3), (e4), tp), ((iv (bq 0)), (iv (sq 0)), c0), ((iv (bq 1)), (iv (sq 1)), c1), ((iv (bq 2)), (iv (sq 2)), c2), ((iv (bq 3)), (iv (sq 3)), c3)) h ⟨rfl, ⟨⟨rfl, rfl, hR, hI, hr9⟩, hK, hF, ⟨rfl, (show (0 : Int) ≤ 0 by omega), (show (0 : Int) ≤ 120 by omega), fun i i0 i1 => absurd i1 (show ¬ i < 0 by omega)⟩, hB⟩⟩ dX4_wipe_17

set_option maxHeartbeats 4000000 in
theorem c_X2_append (t0 : 0 ≤ tn) (t1 : tn < 120) {b9 : Int} : MV (S := Unit) E l yX2_append cX2_append 2 (rmk 0 0) (wX E x ((iv (tn))) ((e1)) ((e2)) ((e3)) ((e4)) tp ++ []) [.ref (x 0), .int (iv (b9))] (fun _ => True) (fun _ => wX E x (iv (tn + 1)) e1 e2 e3 e4 (upd tp tn.toNat (iv b9)) ++ []) := by
  refine goV (S := Unit) (post := fun _ => True) (ws' := fun _ => wX E x (iv (tn + 1)) e1 e2 e3 e4 (upd tp tn.toNat (iv b9)) ++ []) (by decide) (Nat.le_of_ble_eq_true rfl) ?_
  intro pp e s m below meth c ls args Q ret X h hl
  have hl : lv_has ls 2 [(0, .ref (x 0)), (1, .int (iv (b9)))] := hl
  refine lv_aload_n X.1 X.2.1 dX2_append_0 rfl (lv_at hl 0 rfl) ?_
  refine z_get X h 2 0 0 rfl inX2 rfl (by decide) fl_X2_9 rfl dX2_append_1 ?_
  refine z_bipush X (by decide) dX2_append_4 ?_
  refine z_ic_ge (tgt := 29) X ⟨by omega, by omega⟩ ⟨by decide, by decide⟩ dX2_append_6 (by decide) (fun c_6 => ?_) (fun c_6 => ?_)
  · exfalso; omega
  · refine lv_aload_n X.1 X.2.1 dX2_append_9 rfl (lv_at hl 0 rfl) ?_
    refine z_get X h 2 0 1 rfl inX2 rfl (by decide) fl_X2_15 rfl dX2_append_10 ?_
    refine lv_aload_n X.1 X.2.1 dX2_append_13 rfl (lv_at hl 0 rfl) ?_
    refine z_get X h 2 0 0 rfl inX2 rfl (by decide) fl_X2_9 rfl dX2_append_14 ?_
    refine lv_iload_n X.1 X.2.1 dX2_append_17 rfl (lv_at hl 1 rfl) ?_
    refine s_iast X (st_nil h) 1 rfl (by omega) (by omega) (by decide) dX2_append_18 (fun H locs h => ?_)
    have h := (st_lin (st_eq wX_tape h))
    have h : St E _ s H locs (wX E x ((iv (tn))) ((e1)) ((e2)) ((e3)) ((e4)) (upd tp (tn : Int).toNat (iv (b9))) ++ []) := h
    refine lv_aload_n X.1 X.2.1 dX2_append_19 rfl (lv_at hl 0 rfl) ?_
    refine lv_dup X.1 X.2.1 dX2_append_20 rfl ?_
    refine z_get X h 2 0 0 rfl inX2 rfl (by decide) fl_X2_9 rfl dX2_append_21 ?_
    refine z_iconst X dX2_append_24 ?_
    refine z_iadd X dX2_append_25 ?_
    refine s_put X (st_nil h) 2 0 0 rfl inX2 tyX2 tyX2_ok nmX2 rfl (by decide) fl_X2_9 rfl rfl rfl (Nat.le_of_ble_eq_true rfl) dX2_append_26 (fun H locs h => ?_)
    have h := (st_lin (st_eq wX_size h))
    have h : St E _ s H locs (wX E x ((iv (tn + 1))) ((e1)) ((e2)) ((e3)) ((e4)) (upd tp (tn : Int).toNat (iv (b9))) ++ []) := h
    exact ret _ _ _ _ (()) h (trivial) dX2_append_29

set_option maxHeartbeats 4000000 in
theorem c_X4_feed (hS : RepC (((iv (ik)), fd), ((hk), (nk), (k1, k2, k3, k4, k5, k6, k7, k8, k9)), ((iv (hr A)), (iv (pe A)), (xs, xi, xk, xc, xl, xr, xb, yl, yr)), ((ht), (nt), (t1, t2, t3, t4, t5, t6, t7, t8, t9)), ((iv (tn)), (e1), (e2), (e3), (e4), tp), ((iv (bq 0)), (iv (sq 0)), c0), ((iv (bq 1)), (iv (sq 1)), c1), ((iv (bq 2)), (iv (sq 2)), c2), ((iv (bq 3)), (iv (sq 3)), c3)) (A, K, ik, ph, tq, tn, bq, sq, cq)) {pb : Int} (r_pb : r32 pb) {pn : Int} (r_pn : r32 pn) : MI (S := Tc) E l yX4_feed cX4_feed 4 (some FieldType.int) (rmk 2 44) (wO E a k b t x q ((iv (ik))) fd ++ (wS E k ((hk)) ((nk)) (k1, k2, k3, k4, k5, k6, k7, k8, k9) ++ (wS E b ((iv (hr A))) ((iv (pe A))) (xs, xi, xk, xc, xl, xr, xb, yl, yr) ++ (wS E t ((ht)) ((nt)) (t1, t2, t3, t4, t5, t6, t7, t8, t9) ++ (wX E x ((iv (tn))) ((e1)) ((e2)) ((e3)) ((e4)) tp ++ (wH E (q 0) ((iv (bq 0))) ((iv (sq 0))) c0 ++ (wH E (q 1) ((iv (bq 1))) ((iv (sq 1))) c1 ++ (wH E (q 2) ((iv (bq 2))) ((iv (sq 2))) c2 ++ (wH E (q 3) ((iv (bq 3))) ((iv (sq 3))) c3 ++ []))))))))) [.ref (a 0), .int (iv (pb)), .int (iv (pn))] (fun r u => r = iv ((q_feed tq tn ph pb pn).1) ∧ RepC u (A, K, ik, (q_feed tq tn ph pb pn).2.2.2, (q_feed tq tn ph pb pn).2.1, (q_feed tq tn ph pb pn).2.2.1, bq, sq, cq)) (fun u => wT E a k b t x q u) := by
  refine goI (S := Tc) (post := fun r u => r = iv ((q_feed tq tn ph pb pn).1) ∧ RepC u (A, K, ik, (q_feed tq tn ph pb pn).2.2.2, (q_feed tq tn ph pb pn).2.1, (q_feed tq tn ph pb pn).2.2.1, bq, sq, cq)) (ws' := fun u => wT E a k b t x q u) (by decide) (Nat.le_of_ble_eq_true rfl) ?_
  intro pp e s m below meth c ls args Q ret X h hl
  have hl : lv_has ls 4 [(0, .ref (a 0)), (1, .int (iv (pb))), (2, .int (iv (pn)))] := hl
  have hR : RS (xs, xi, xk, xc, xl, xr, xb, yl, yr) A := hS.1.2.2.1
  have hI : IA A := hS.1.2.2.2.1
  have hr9 : hr A ≤ 99999 := hS.1.2.2.2.2
  have hF : RF 7 fd ph := hS.2.2.1
  have hK := hS.2.1
  have hT := hS.2.2.2.1
  have hB := hS.2.2.2.2
  have hh : hr A < 1000000 := by omega
  have n8 := hI.n8
  have n0 := hI.n0
  have h0 := hI.h0
  have ht0 : 0 ≤ tn := hS.2.2.2.1.2.1
  have ht1 : tn ≤ 120 := hS.2.2.2.1.2.2.1
  have hk01 : ik = 0 ∨ ik = 1 := hS.2.1.2.1
  have hB3 : okB bq sq := hS.2.2.2.2.1
  have hH0 : RepH (iv (bq 0), iv (sq 0), c0) bq sq cq 0 := hS.2.2.2.2.2.1
  have hH1 : RepH (iv (bq 1), iv (sq 1), c1) bq sq cq 1 := hS.2.2.2.2.2.2.1
  have hH2 : RepH (iv (bq 2), iv (sq 2), c2) bq sq cq 2 := hS.2.2.2.2.2.2.2.1
  have hH3 : RepH (iv (bq 3), iv (sq 3), c3) bq sq cq 3 := hS.2.2.2.2.2.2.2.2
  refine lv_iload_n X.1 X.2.1 dX4_feed_0 rfl (lv_at hl 2 rfl) ?_
  refine z_iconst X dX4_feed_1 ?_
  refine z_iconst X dX4_feed_2 ?_
  refine z_pi (run_S (rest := []) X h (c_X4_within r_pn ⟨by decide, by decide⟩ ⟨by decide, by decide⟩) mi_X4_within ml_X4_44 ⟨Nat.le_of_ble_eq_true rfl, Nat.le_of_ble_eq_true rfl⟩ ⟨rfl, rfl⟩ (Seg.nil _) rfl hl.1 rfl (Nat.le_of_ble_eq_true rfl) ⟨Nat.zero_le _, Nat.zero_le _⟩ dX4_feed_3) ?_
  refine z_ifb_ne (tgt := 16) X dX4_feed_6 (by decide) (fun c_6 => ?_) (fun c_6 => ?_)
  · refine lv_aload_n X.1 X.2.1 dX4_feed_16 rfl (lv_at hl 0 rfl) ?_
    refine z_get X h 3 0 3 rfl inX4 rfl (by decide) fl_X4_25 rfl dX4_feed_17 ?_
    refine z_get X h 2 33 0 rfl inX2 rfl (by decide) fl_X4_170 rfl dX4_feed_20 ?_
    refine lv_iload_n X.1 X.2.1 dX4_feed_23 rfl (lv_at hl 2 rfl) ?_
    refine z_iadd X dX4_feed_24 ?_
    refine z_bipush X (by decide) dX4_feed_25 ?_
    refine z_ic_le (tgt := 37) X ⟨by omega, by omega⟩ ⟨by decide, by decide⟩ dX4_feed_27 (by decide) (fun c_27 => ?_) (fun c_27 => ?_)
    · refine lv_iload_n X.1 X.2.1 dX4_feed_37 rfl (lv_at hl 2 rfl) ?_
      refine z_iconst X dX4_feed_38 ?_
      refine z_isub X dX4_feed_39 ?_
      refine lv_istore_n (lv' := [(3, .int (iv (pn - 1))), (0, .ref (a 0)), (1, .int (iv (pb))), (2, .int (iv (pn)))]) X.1 X.2.1 dX4_feed_40 rfl hl (by decide) rfl (fun ls hl => ?_)
      have L41 : ∀ (fuel_ : Nat) (kk : Int) (tt : Int) (tv : Nat → Int32), (-1 ≤ kk) → (kk < pn) → (tt = tn + (pn - 1 - kk)) → (∀ i : Int, 0 ≤ i → i < tt → tv i.toNat = iv (fedq tq tn pb pn i) ∧ 0 ≤ fedq tq tn pb pn i ∧ fedq tq tn pb pn i ≤ 255) → kk + 1 < (fuel_ : Int) → ∀ (H : Heap) (locs : List Loc), St E (wO E a k b t x q ((iv (ik))) fd ++ (wS E k ((hk)) ((nk)) (k1, k2, k3, k4, k5, k6, k7, k8, k9) ++ (wS E b ((iv (hr A))) ((iv (pe A))) (xs, xi, xk, xc, xl, xr, xb, yl, yr) ++ (wS E t ((ht)) ((nt)) (t1, t2, t3, t4, t5, t6, t7, t8, t9) ++ (wX E x ((iv (tn))) ((e1)) ((e2)) ((e3)) ((e4)) tp ++ (wH E (q 0) ((iv (bq 0))) ((iv (sq 0))) c0 ++ (wH E (q 1) ((iv (bq 1))) ((iv (sq 1))) c1 ++ (wH E (q 2) ((iv (bq 2))) ((iv (sq 2))) c2 ++ (wH E (q 3) ((iv (bq 3))) ((iv (sq 3))) c3 ++ []))))))))) s H locs (wO E a k b t x q ((iv (ik))) fd ++ (wS E k ((hk)) ((nk)) (k1, k2, k3, k4, k5, k6, k7, k8, k9) ++ (wS E b ((iv (hr A))) ((iv (pe A))) (xs, xi, xk, xc, xl, xr, xb, yl, yr) ++ (wS E t ((ht)) ((nt)) (t1, t2, t3, t4, t5, t6, t7, t8, t9) ++ (wX E x ((iv (tt))) ((e1)) ((e2)) ((e3)) ((e4)) tv ++ (wH E (q 0) ((iv (bq 0))) ((iv (sq 0))) c0 ++ (wH E (q 1) ((iv (bq 1))) ((iv (sq 1))) c1 ++ (wH E (q 2) ((iv (bq 2))) ((iv (sq 2))) c2 ++ (wH E (q 3) ((iv (bq 3))) ((iv (sq 3))) c3 ++ []))))))))) → ∀ ls : Array Slot, lv_has ls 4 [(0, .ref (a 0)), (1, .int (iv (pb))), (2, .int (iv (pn))), (3, .int (iv (kk)))] → W pp l e (rmk 2 44) s m args below meth c H locs 0 0 Q (F0 m 41 ls []) := by
        intro fuel_
        induction fuel_ with
        | zero =>
          intro kk tt tv k0 k1_ ht_ hv hn
          exfalso; omega
        | succ fuel_ ih =>
          intro kk tt tv k0 k1_ ht_ hv hn H locs h ls hl
          refine lv_iload_n X.1 X.2.1 dX4_feed_41 rfl (lv_at hl 3 rfl) ?_
          refine z_if_lt (tgt := 68) X ⟨by omega, by omega⟩ dX4_feed_42 (by decide) (fun c_42 => ?_) (fun c_42 => ?_)
          · have et : tt = tn + pn := by omega
            subst et
            have h : St E _ s H locs (wO E a k b t x q ((iv (ik))) fd ++ (wS E k ((hk)) ((nk)) (k1, k2, k3, k4, k5, k6, k7, k8, k9) ++ (wS E b ((iv (hr A))) ((iv (pe A))) (xs, xi, xk, xc, xl, xr, xb, yl, yr) ++ (wS E t ((ht)) ((nt)) (t1, t2, t3, t4, t5, t6, t7, t8, t9) ++ (wX E x ((iv (tn + pn))) ((e1)) ((e2)) ((e3)) ((e4)) tv ++ (wH E (q 0) ((iv (bq 0))) ((iv (sq 0))) c0 ++ (wH E (q 1) ((iv (bq 1))) ((iv (sq 1))) c1 ++ (wH E (q 2) ((iv (bq 2))) ((iv (sq 2))) c2 ++ (wH E (q 3) ((iv (bq 3))) ((iv (sq 3))) c3 ++ []))))))))) := h
            refine lv_aload_n X.1 X.2.1 dX4_feed_68 rfl (lv_at hl 0 rfl) ?_
            refine z_get X h 3 0 3 rfl inX4 rfl (by decide) fl_X4_25 rfl dX4_feed_69 ?_
            refine z_get X h 2 33 0 rfl inX2 rfl (by decide) fl_X4_170 rfl dX4_feed_72 ?_
            have e9 : q_feed tq tn ph pb pn = (tn + pn, (fedq tq tn pb pn), (tn + pn), ph) := by unfold q_feed; (repeat (first | rw [if_pos (by omega)] | rw [if_neg (by omega)])); try rfl
            exact ret _ _ _ _ _ (((iv (ik)), fd), ((hk), (nk), (k1, k2, k3, k4, k5, k6, k7, k8, k9)), ((iv (hr A)), (iv (pe A)), (xs, xi, xk, xc, xl, xr, xb, yl, yr)), ((ht), (nt), (t1, t2, t3, t4, t5, t6, t7, t8, t9)), ((iv (tn + pn)), (e1), (e2), (e3), (e4), tv), ((iv (bq 0)), (iv (sq 0)), c0), ((iv (bq 1)), (iv (sq 1)), c1), ((iv (bq 2)), (iv (sq 2)), c2), ((iv (bq 3)), (iv (sq 3)), c3)) h (by rw [e9]; exact ⟨rfl, ⟨⟨rfl, rfl, hR, hI, hr9⟩, hK, hF, ⟨rfl, (show 0 ≤ tn + pn by omega), (show tn + pn ≤ 120 by omega), hv⟩, hB⟩⟩) dX4_feed_75
          · refine lv_aload_n X.1 X.2.1 dX4_feed_45 rfl (lv_at hl 0 rfl) ?_
            refine z_get X h 3 0 3 rfl inX4 rfl (by decide) fl_X4_25 rfl dX4_feed_46 ?_
            refine lv_iload_n X.1 X.2.1 dX4_feed_49 rfl (lv_at hl 1 rfl) ?_
            refine z_bipush X (by decide) dX4_feed_50 ?_
            refine lv_iload_n X.1 X.2.1 dX4_feed_52 rfl (lv_at hl 3 rfl) ?_
            refine z_imul X dX4_feed_53 ?_
            refine lv_iushr (v := ((iv (pb)).toUInt32 >>> ((iv (8 * kk)).toUInt32 &&& Int32.toUInt32 31)).toInt32) X.1 X.2.1 dX4_feed_54 rfl ?_
            refine z_sipush X (by decide) dX4_feed_55 ?_
            refine lv_iand X.1 X.2.1 dX4_feed_58 ?_
            refine W.eq (g2 := F0 m 59 ls [.int (iv (byt pb kk)), .ref (x 0)]) (by rw [byt_ushr r_pb kk (by omega) (by omega)]) ?_
            refine z_wv (st_sing (st_in (st_in (st_in (st_in (st_nil h)))))) (run_V (rest := []) X (st_sing (st_in (st_in (st_in (st_in (st_nil h)))))) (c_X2_append (tn := tt) (b9 := byt pb kk) (by omega) (by omega)) mi_X2_append ml_X4_173 ⟨Nat.le_of_ble_eq_true rfl, Nat.le_of_ble_eq_true rfl⟩ ⟨rfl, rfl⟩ (Seg.mk' _ _) 2 33 rfl rfl rfl rfl hl.1 rfl (Nat.le_of_ble_eq_true rfl) ⟨Nat.zero_le _, Nat.zero_le _⟩ dX4_feed_59) (fun _ => map_app (wX_map _ _ _ _ _ _ _ _ _ _ _ _ _ _) rfl) (fun u H locs hp h => ?_)
            have h := (st_lin (st_out (st_out (st_out (st_out (st_gnis h))))))
            have h : St E _ s H locs (wO E a k b t x q ((iv (ik))) fd ++ (wS E k ((hk)) ((nk)) (k1, k2, k3, k4, k5, k6, k7, k8, k9) ++ (wS E b ((iv (hr A))) ((iv (pe A))) (xs, xi, xk, xc, xl, xr, xb, yl, yr) ++ (wS E t ((ht)) ((nt)) (t1, t2, t3, t4, t5, t6, t7, t8, t9) ++ (wX E x ((iv (tt + 1))) ((e1)) ((e2)) ((e3)) ((e4)) (upd tv (tt : Int).toNat (iv (byt pb kk))) ++ (wH E (q 0) ((iv (bq 0))) ((iv (sq 0))) c0 ++ (wH E (q 1) ((iv (bq 1))) ((iv (sq 1))) c1 ++ (wH E (q 2) ((iv (bq 2))) ((iv (sq 2))) c2 ++ (wH E (q 3) ((iv (bq 3))) ((iv (sq 3))) c3 ++ []))))))))) := h
            refine z_iinc (k := 3) (lv' := [(3, .int (iv (kk + (-1)))), (0, .ref (a 0)), (1, .int (iv (pb))), (2, .int (iv (pn)))]) X dX4_feed_62 hl rfl (by decide) rfl (fun ls hl => ?_)
            refine lv_goto (tgt := 41) X.1 X.2.1 dX4_feed_65 (by decide) ?_
            exact ih (kk + (-1)) (tt + 1) ((upd tv (tt : Int).toNat (iv (byt pb kk)))) (by omega) (by omega) (by omega) (fun i i0 i1 => by
                                        by_cases e : i = tt
                                        · subst e; rw [upd_eq]; unfold fedq; rw [if_pos (by omega), show pn - 1 - (i - tn) = kk by omega]; exact ⟨rfl, byt_rng pb kk⟩
                                        · rw [upd_ne (by omega)]; exact hv i i0 (by omega)) (by omega) _ _ h ls (lv_sub hl [1, 2, 3, 0] rfl)
      exact L41 (((pn - 1) + 1 : Int).toNat + 1) (pn - 1) (tn) (tp) (by omega) (by omega) (by omega) (fun i i0 i1 => by unfold fedq; rw [if_neg (by omega)]; exact hS.2.2.2.1.2.2.2 i i0 i1) (by omega) _ _ h ls (lv_sub hl [1, 2, 3, 0] rfl)
    · refine lv_aload_n X.1 X.2.1 dX4_feed_30 rfl (lv_at hl 0 rfl) ?_
      refine z_ldc (z := (-1000000002)) X ct_X4_89 (by decide) dX4_feed_31 ?_
      refine z_wi (st_sing (st_nil h)) (run_V (rest := []) X (st_sing (st_nil h)) (c_X4_finding (j := 1) hF (by decide) (by decide) (by decide)) mi_X4_finding ml_X4_49 ⟨Nat.le_of_ble_eq_true rfl, Nat.le_of_ble_eq_true rfl⟩ ⟨rfl, rfl⟩ (Seg.mk' _ _) 3 0 rfl rfl rfl rfl hl.1 rfl (Nat.le_of_ble_eq_true rfl) ⟨Nat.zero_le _, Nat.zero_le _⟩ dX4_feed_33) (fun _ => map_app (wO_map _ _ _ _ _ _ _ _ _ _ _) rfl) (fun r fd1 H locs hp h => ?_)
      have h := (st_lin (st_gnis h))
      obtain ⟨rfl, hF1⟩ := hp
      have h : St E _ s H locs (wO E a k b t x q ((iv (ik))) fd1 ++ (wS E k ((hk)) ((nk)) (k1, k2, k3, k4, k5, k6, k7, k8, k9) ++ (wS E b ((iv (hr A))) ((iv (pe A))) (xs, xi, xk, xc, xl, xr, xb, yl, yr) ++ (wS E t ((ht)) ((nt)) (t1, t2, t3, t4, t5, t6, t7, t8, t9) ++ (wX E x ((iv (tn))) ((e1)) ((e2)) ((e3)) ((e4)) tp ++ (wH E (q 0) ((iv (bq 0))) ((iv (sq 0))) c0 ++ (wH E (q 1) ((iv (bq 1))) ((iv (sq 1))) c1 ++ (wH E (q 2) ((iv (bq 2))) ((iv (sq 2))) c2 ++ (wH E (q 3) ((iv (bq 3))) ((iv (sq 3))) c3 ++ []))))))))) := h
      have e9 : q_feed tq tn ph pb pn = ((-1000000002), tq, tn, (bump ph 1)) := by unfold q_feed; (repeat (first | rw [if_pos (by omega)] | rw [if_neg (by omega)])); try rfl
      exact ret _ _ _ _ _ (((iv (ik)), fd1), ((hk), (nk), (k1, k2, k3, k4, k5, k6, k7, k8, k9)), ((iv (hr A)), (iv (pe A)), (xs, xi, xk, xc, xl, xr, xb, yl, yr)), ((ht), (nt), (t1, t2, t3, t4, t5, t6, t7, t8, t9)), ((iv (tn)), (e1), (e2), (e3), (e4), tp), ((iv (bq 0)), (iv (sq 0)), c0), ((iv (bq 1)), (iv (sq 1)), c1), ((iv (bq 2)), (iv (sq 2)), c2), ((iv (bq 3)), (iv (sq 3)), c3)) h (by rw [e9]; exact ⟨rfl, ⟨⟨rfl, rfl, hR, hI, hr9⟩, hK, hF1, hT, hB⟩⟩) dX4_feed_36
  · refine lv_aload_n X.1 X.2.1 dX4_feed_9 rfl (lv_at hl 0 rfl) ?_
    refine z_ldc (z := (-1000000001)) X ct_X4_48 (by decide) dX4_feed_10 ?_
    refine z_wi (st_sing (st_nil h)) (run_V (rest := []) X (st_sing (st_nil h)) (c_X4_finding (j := 0) hF (by decide) (by decide) (by decide)) mi_X4_finding ml_X4_49 ⟨Nat.le_of_ble_eq_true rfl, Nat.le_of_ble_eq_true rfl⟩ ⟨rfl, rfl⟩ (Seg.mk' _ _) 3 0 rfl rfl rfl rfl hl.1 rfl (Nat.le_of_ble_eq_true rfl) ⟨Nat.zero_le _, Nat.zero_le _⟩ dX4_feed_12) (fun _ => map_app (wO_map _ _ _ _ _ _ _ _ _ _ _) rfl) (fun r fd2 H locs hp h => ?_)
    have h := (st_lin (st_gnis h))
    obtain ⟨rfl, hF2⟩ := hp
    have h : St E _ s H locs (wO E a k b t x q ((iv (ik))) fd2 ++ (wS E k ((hk)) ((nk)) (k1, k2, k3, k4, k5, k6, k7, k8, k9) ++ (wS E b ((iv (hr A))) ((iv (pe A))) (xs, xi, xk, xc, xl, xr, xb, yl, yr) ++ (wS E t ((ht)) ((nt)) (t1, t2, t3, t4, t5, t6, t7, t8, t9) ++ (wX E x ((iv (tn))) ((e1)) ((e2)) ((e3)) ((e4)) tp ++ (wH E (q 0) ((iv (bq 0))) ((iv (sq 0))) c0 ++ (wH E (q 1) ((iv (bq 1))) ((iv (sq 1))) c1 ++ (wH E (q 2) ((iv (bq 2))) ((iv (sq 2))) c2 ++ (wH E (q 3) ((iv (bq 3))) ((iv (sq 3))) c3 ++ []))))))))) := h
    have e9 : q_feed tq tn ph pb pn = ((-1000000001), tq, tn, (bump ph 0)) := by unfold q_feed; (repeat (first | rw [if_pos (by omega)] | rw [if_neg (by omega)])); try rfl
    exact ret _ _ _ _ _ (((iv (ik)), fd2), ((hk), (nk), (k1, k2, k3, k4, k5, k6, k7, k8, k9)), ((iv (hr A)), (iv (pe A)), (xs, xi, xk, xc, xl, xr, xb, yl, yr)), ((ht), (nt), (t1, t2, t3, t4, t5, t6, t7, t8, t9)), ((iv (tn)), (e1), (e2), (e3), (e4), tp), ((iv (bq 0)), (iv (sq 0)), c0), ((iv (bq 1)), (iv (sq 1)), c1), ((iv (bq 2)), (iv (sq 2)), c2), ((iv (bq 3)), (iv (sq 3)), c3)) h (by rw [e9]; exact ⟨rfl, ⟨⟨rfl, rfl, hR, hI, hr9⟩, hK, hF2, hT, hB⟩⟩) dX4_feed_15
