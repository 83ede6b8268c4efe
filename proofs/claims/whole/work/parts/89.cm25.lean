variable {E : EV} {l : Launch} {a k b t x : Nat → Nat} {q : Nat → Nat → Nat} {fd k1 k2 k3 k4 k5 k6 k7 k8 k9 xs xi xk xc xl xr xb yl yr t1 t2 t3 t4 t5 t6 t7 t8 t9 tp : Nat → Int32} {hk nk ht nt e1 e2 e3 e4 v0 : Int32} {c0 c1 c2 c3 : Nat → Int64} {A K : Es} {ph tq bq sq : Int → Int} {cq : Int → Int → Int64} {ik tn : Int}
set_option maxHeartbeats 4000000 in
theorem c_X4_esplanade (hS : RepC (((iv (ik)), fd), ((hk), (nk), (k1, k2, k3, k4, k5, k6, k7, k8, k9)), ((iv (hr A)), (iv (pe A)), (xs, xi, xk, xc, xl, xr, xb, yl, yr)), ((ht), (nt), (t1, t2, t3, t4, t5, t6, t7, t8, t9)), ((iv (tn)), (e1), (e2), (e3), (e4), tp), ((iv (bq 0)), (iv (sq 0)), c0), ((iv (bq 1)), (iv (sq 1)), c1), ((iv (bq 2)), (iv (sq 2)), c2), ((iv (bq 3)), (iv (sq 3)), c3)) (A, K, ik, ph, tq, tn, bq, sq, cq)) : MI (S := Tc) E l yX4_esplanade cX4_esplanade 2 (some FieldType.int) (rmk 9 196) (wO E a k b t x q ((iv (ik))) fd ++ (wS E k ((hk)) ((nk)) (k1, k2, k3, k4, k5, k6, k7, k8, k9) ++ (wS E b ((iv (hr A))) ((iv (pe A))) (xs, xi, xk, xc, xl, xr, xb, yl, yr) ++ (wS E t ((ht)) ((nt)) (t1, t2, t3, t4, t5, t6, t7, t8, t9) ++ (wX E x ((iv (tn))) ((e1)) ((e2)) ((e3)) ((e4)) tp ++ (wH E (q 0) ((iv (bq 0))) ((iv (sq 0))) c0 ++ (wH E (q 1) ((iv (bq 1))) ((iv (sq 1))) c1 ++ (wH E (q 2) ((iv (bq 2))) ((iv (sq 2))) c2 ++ (wH E (q 3) ((iv (bq 3))) ((iv (sq 3))) c3 ++ []))))))))) [.ref (a 0)] (fun r u => r = iv (q_esp tq tn A).1 ∧ RepC u ((q_esp tq tn A).2, K, ik, ph, tq, 0, bq, sq, cq)) (fun u => wT E a k b t x q u) := by
  refine goI (S := Tc) (post := fun r u => r = iv (q_esp tq tn A).1 ∧ RepC u ((q_esp tq tn A).2, K, ik, ph, tq, 0, bq, sq, cq)) (ws' := fun u => wT E a k b t x q u) (by decide) (Nat.le_of_ble_eq_true rfl) ?_
  intro pp e s m below meth c ls args Q ret X h hl
  have hl : lv_has ls 2 [(0, .ref (a 0))] := hl
  have hR : RS (xs, xi, xk, xc, xl, xr, xb, yl, yr) A := hS.1.2.2.1
  have hI : IA A := hS.1.2.2.2.1
  have hr9 : hr A ≤ 99999 := hS.1.2.2.2.2
  have hF : RF 7 fd ph := hS.2.2.1
  have hK := hS.2.1
  have hT := hS.2.2.2.1
  have hB := hS.2.2.2.2
  have hh : hr A < 1000000 := by omega
  have n8 := hI.n8
  have n0 := hI.n0
  have h0 := hI.h0
  refine lv_aload_n X.1 X.2.1 dX4_esplanade_0 rfl (lv_at hl 0 rfl) ?_
  refine z_av h (run_V (rest := []) X h (c_X4_startTrial hR hI.n8) mi_X4_startTrial ml_X4_150 ⟨Nat.le_of_ble_eq_true rfl, Nat.le_of_ble_eq_true rfl⟩ ⟨rfl, rfl⟩ (Seg.rfl' _) 3 0 rfl rfl rfl rfl hl.1 rfl (Nat.le_of_ble_eq_true rfl) ⟨Nat.zero_le _, Nat.zero_le _⟩ dX4_esplanade_1) (fun _ => map_app rfl (map_app rfl (map_app rfl (map_app (wS_map _ _ _ _ _ _ _ _) rfl)))) (fun u H locs hp h => ?_)
  obtain ⟨r0_1, r1_1, r2_1, r3_1, r4_1, r5_1, r6_1, r7_1, r8_1⟩ := u
  have h : St E _ s H locs (wO E a k b t x q ((iv (ik))) fd ++ (wS E k ((hk)) ((nk)) (k1, k2, k3, k4, k5, k6, k7, k8, k9) ++ (wS E b ((iv (hr A))) ((iv (pe A))) (xs, xi, xk, xc, xl, xr, xb, yl, yr) ++ (wS E t ((iv (hr A))) ((iv (pe A))) (r0_1, r1_1, r2_1, r3_1, r4_1, r5_1, r6_1, r7_1, r8_1) ++ (wX E x ((iv (tn))) ((e1)) ((e2)) ((e3)) ((e4)) tp ++ (wH E (q 0) ((iv (bq 0))) ((iv (sq 0))) c0 ++ (wH E (q 1) ((iv (bq 1))) ((iv (sq 1))) c1 ++ (wH E (q 2) ((iv (bq 2))) ((iv (sq 2))) c2 ++ (wH E (q 3) ((iv (bq 3))) ((iv (sq 3))) c3 ++ []))))))))) := h
  have hRb1 : RS (r0_1, r1_1, r2_1, r3_1, r4_1, r5_1, r6_1, r7_1, r8_1) A := hp
  refine lv_aload_n X.1 X.2.1 dX4_esplanade_4 rfl (lv_at hl 0 rfl) ?_
  refine z_get X h 3 0 3 rfl inX4 rfl (by decide) fl_X4_25 rfl dX4_esplanade_5 ?_
  refine lv_aload_n X.1 X.2.1 dX4_esplanade_8 rfl (lv_at hl 0 rfl) ?_
  refine z_get X h 3 0 1 rfl inX4 rfl (by decide) fl_X4_16 rfl dX4_esplanade_9 ?_
  refine z_wi (st_pair (st_in (st_in (st_in (st_nil h))))) (run_V (rest := []) X (st_pair (st_in (st_in (st_in (st_nil h))))) (c_X2_readAll hRb1 hI (⟨hT.2.1, hT.2.2.1, hT.2.2.2⟩ : RT _ tq tn)) mi_X2_readAll ml_X4_176 ⟨Nat.le_of_ble_eq_true rfl, Nat.le_of_ble_eq_true rfl⟩ ⟨rfl, rfl⟩ (Seg.mk' _ _) 2 33 rfl rfl rfl rfl hl.1 rfl (Nat.le_of_ble_eq_true rfl) ⟨Nat.zero_le _, Nat.zero_le _⟩ dX4_esplanade_12) (fun _ => map_app (wS_map _ _ _ _ _ _ _ _) (map_app (wX_map _ _ _ _ _ _ _ _ _ _ _ _ _ _) rfl)) (fun r u H locs hp h => ?_)
  have h := (st_lin (st_out (st_out (st_out (st_riap h)))))
  obtain ⟨QE, eQE⟩ : ∃ P, P = q_esp tq tn A := ⟨_, rfl⟩
  rw [← eQE] at hp
  obtain ⟨⟨uh, up, zz0, zz1, zz2, zz3, zz4, zz5, zz6, zz7, zz8⟩, u1, u2, u3, u4⟩ := u
  obtain ⟨ni, B⟩ := QE
  obtain ⟨rfl, hq1, hq2, hq3, hq4⟩ := hp
  have h : St E _ s H locs (wO E a k b t x q ((iv (ik))) fd ++ (wS E k ((hk)) ((nk)) (k1, k2, k3, k4, k5, k6, k7, k8, k9) ++ (wS E b ((iv (hr A))) ((iv (pe A))) (xs, xi, xk, xc, xl, xr, xb, yl, yr) ++ (wS E t ((uh)) ((up)) (zz0, zz1, zz2, zz3, zz4, zz5, zz6, zz7, zz8) ++ (wX E x ((iv (tn))) ((u1)) ((u2)) ((u3)) ((u4)) tp ++ (wH E (q 0) ((iv (bq 0))) ((iv (sq 0))) c0 ++ (wH E (q 1) ((iv (bq 1))) ((iv (sq 1))) c1 ++ (wH E (q 2) ((iv (bq 2))) ((iv (sq 2))) c2 ++ (wH E (q 3) ((iv (bq 3))) ((iv (sq 3))) c3 ++ []))))))))) := h
  have hq2 : ni < 0 → B = A := hq2
  have hq3 : -121 ≤ ni := hq3
  have hq4 : ni ≤ 120 := hq4
  refine lv_istore_n (lv' := [(1, .int (iv (ni))), (0, .ref (a 0))]) X.1 X.2.1 dX4_esplanade_15 rfl hl (by decide) rfl (fun ls hl => ?_)
  refine lv_aload_n X.1 X.2.1 dX4_esplanade_16 rfl (lv_at hl 1 rfl) ?_
  refine z_get X h 3 0 3 rfl inX4 rfl (by decide) fl_X4_25 rfl dX4_esplanade_17 ?_
  refine z_iconst X dX4_esplanade_20 ?_
  refine s_put X (st_in (st_in (st_in (st_in (st_nil h))))) 2 0 0 rfl inX2 tyX2 tyX2_ok nmX2 rfl (by decide) fl_X4_170 rfl rfl rfl (Nat.le_of_ble_eq_true rfl) dX4_esplanade_21 (fun H locs h => ?_)
  have h := (st_lin (st_out (st_out (st_out (st_out (st_eq wX_size h))))))
  have h : St E _ s H locs (wO E a k b t x q ((iv (ik))) fd ++ (wS E k ((hk)) ((nk)) (k1, k2, k3, k4, k5, k6, k7, k8, k9) ++ (wS E b ((iv (hr A))) ((iv (pe A))) (xs, xi, xk, xc, xl, xr, xb, yl, yr) ++ (wS E t ((uh)) ((up)) (zz0, zz1, zz2, zz3, zz4, zz5, zz6, zz7, zz8) ++ (wX E x ((iv (0))) ((u1)) ((u2)) ((u3)) ((u4)) tp ++ (wH E (q 0) ((iv (bq 0))) ((iv (sq 0))) c0 ++ (wH E (q 1) ((iv (bq 1))) ((iv (sq 1))) c1 ++ (wH E (q 2) ((iv (bq 2))) ((iv (sq 2))) c2 ++ (wH E (q 3) ((iv (bq 3))) ((iv (sq 3))) c3 ++ []))))))))) := h
  refine lv_iload_n X.1 X.2.1 dX4_esplanade_24 rfl (lv_at hl 0 rfl) ?_
  refine z_if_lt (tgt := 39) X ⟨by omega, by omega⟩ dX4_esplanade_25 (by decide) (fun c_25 => ?_) (fun c_25 => ?_)
  · refine lv_iload_n X.1 X.2.1 dX4_esplanade_39 rfl (lv_at hl 0 rfl) ?_
    have eB : A = B := (hq2 (by omega)).symm
    subst eB
    exact ret _ _ _ _ _ (((iv (ik)), fd), ((hk), (nk), (k1, k2, k3, k4, k5, k6, k7, k8, k9)), ((iv (hr A)), (iv (pe A)), (xs, xi, xk, xc, xl, xr, xb, yl, yr)), ((uh), (up), (zz0, zz1, zz2, zz3, zz4, zz5, zz6, zz7, zz8)), ((iv (0)), (u1), (u2), (u3), (u4), tp), ((iv (bq 0)), (iv (sq 0)), c0), ((iv (bq 1)), (iv (sq 1)), c1), ((iv (bq 2)), (iv (sq 2)), c2), ((iv (bq 3)), (iv (sq 3)), c3)) h (by rw [← eQE]; exact ⟨rfl, ⟨rfl, rfl, hR, hI, hr9⟩, hK, hF, ⟨rfl, (show (0 : Int) ≤ 0 by decide), (show (0 : Int) ≤ 120 by decide), fun i a b => absurd b (show ¬ i < 0 by omega)⟩, hB⟩) dX4_esplanade_40
  · obtain ⟨rfl, rfl, hRB, hIB, hhB⟩ := hq1 (by omega)
    have h : St E _ s H locs (wO E a k b t x q ((iv (ik))) fd ++ (wS E k ((hk)) ((nk)) (k1, k2, k3, k4, k5, k6, k7, k8, k9) ++ (wS E b ((iv (hr A))) ((iv (pe A))) (xs, xi, xk, xc, xl, xr, xb, yl, yr) ++ (wS E t ((iv (hr B))) ((iv (pe B))) (zz0, zz1, zz2, zz3, zz4, zz5, zz6, zz7, zz8) ++ (wX E x ((iv (0))) ((u1)) ((u2)) ((u3)) ((u4)) tp ++ (wH E (q 0) ((iv (bq 0))) ((iv (sq 0))) c0 ++ (wH E (q 1) ((iv (bq 1))) ((iv (sq 1))) c1 ++ (wH E (q 2) ((iv (bq 2))) ((iv (sq 2))) c2 ++ (wH E (q 3) ((iv (bq 3))) ((iv (sq 3))) c3 ++ []))))))))) := h
    have hRB : RS (zz0, zz1, zz2, zz3, zz4, zz5, zz6, zz7, zz8) B := hRB
    have hIB : IA B := hIB
    have hhB : hr B = hr A := hhB
    refine lv_aload_n X.1 X.2.1 dX4_esplanade_28 rfl (lv_at hl 1 rfl) ?_
    refine z_get X h 3 0 0 rfl inX4 rfl (by decide) fl_X4_10 rfl dX4_esplanade_29 ?_
    refine lv_aload_n X.1 X.2.1 dX4_esplanade_32 rfl (lv_at hl 1 rfl) ?_
    refine z_get X h 3 0 1 rfl inX4 rfl (by decide) fl_X4_16 rfl dX4_esplanade_33 ?_
    refine z_wv (st_pair (st_in (st_in (st_nil h)))) (run_V (rest := []) X (st_pair (st_in (st_in (st_nil h)))) (c_X1_become1 hRB hIB.n8) mi_X1_become ml_X4_180 ⟨Nat.le_of_ble_eq_true rfl, Nat.le_of_ble_eq_true rfl⟩ ⟨rfl, rfl⟩ (Seg.mk' _ _) 1 13 rfl rfl rfl rfl hl.1 rfl (Nat.le_of_ble_eq_true rfl) ⟨Nat.zero_le _, Nat.zero_le _⟩ dX4_esplanade_36) (fun _ => map_app (wS_map _ _ _ _ _ _ _ _) (map_app (wS_map _ _ _ _ _ _ _ _) rfl)) (fun u H locs hp h => ?_)
    have h := (st_lin (st_out (st_out (st_riap h))))
    obtain ⟨r0_2, r1_2, r2_2, r3_2, r4_2, r5_2, r6_2, r7_2, r8_2⟩ := u
    have h : St E _ s H locs (wO E a k b t x q ((iv (ik))) fd ++ (wS E k ((hk)) ((nk)) (k1, k2, k3, k4, k5, k6, k7, k8, k9) ++ (wS E b ((iv (hr B))) ((iv (pe B))) (r0_2, r1_2, r2_2, r3_2, r4_2, r5_2, r6_2, r7_2, r8_2) ++ (wS E t ((iv (hr B))) ((iv (pe B))) (zz0, zz1, zz2, zz3, zz4, zz5, zz6, zz7, zz8) ++ (wX E x ((iv (0))) ((u1)) ((u2)) ((u3)) ((u4)) tp ++ (wH E (q 0) ((iv (bq 0))) ((iv (sq 0))) c0 ++ (wH E (q 1) ((iv (bq 1))) ((iv (sq 1))) c1 ++ (wH E (q 2) ((iv (bq 2))) ((iv (sq 2))) c2 ++ (wH E (q 3) ((iv (bq 3))) ((iv (sq 3))) c3 ++ []))))))))) := h
    have hRb2 : RS (r0_2, r1_2, r2_2, r3_2, r4_2, r5_2, r6_2, r7_2, r8_2) B := hp
    refine lv_iload_n X.1 X.2.1 dX4_esplanade_39 rfl (lv_at hl 0 rfl) ?_
    exact ret _ _ _ _ _ (((iv (ik)), fd), ((hk), (nk), (k1, k2, k3, k4, k5, k6, k7, k8, k9)), ((iv (hr B)), (iv (pe B)), (r0_2, r1_2, r2_2, r3_2, r4_2, r5_2, r6_2, r7_2, r8_2)), ((iv (hr B)), (iv (pe B)), (zz0, zz1, zz2, zz3, zz4, zz5, zz6, zz7, zz8)), ((iv (0)), (u1), (u2), (u3), (u4), tp), ((iv (bq 0)), (iv (sq 0)), c0), ((iv (bq 1)), (iv (sq 1)), c1), ((iv (bq 2)), (iv (sq 2)), c2), ((iv (bq 3)), (iv (sq 3)), c3)) h (by rw [← eQE]; exact ⟨rfl, ⟨rfl, rfl, hRb2, hIB, (show hr B ≤ 99999 by omega)⟩, hK, hF, ⟨rfl, (show (0 : Int) ≤ 0 by decide), (show (0 : Int) ≤ 120 by decide), fun i a b => absurd b (show ¬ i < 0 by omega)⟩, hB⟩) dX4_esplanade_40
