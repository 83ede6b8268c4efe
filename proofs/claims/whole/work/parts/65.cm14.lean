variable {E : EV} {l : Launch} {a k b t x : Nat → Nat} {q : Nat → Nat → Nat} {fd k1 k2 k3 k4 k5 k6 k7 k8 k9 xs xi xk xc xl xr xb yl yr t1 t2 t3 t4 t5 t6 t7 t8 t9 tp : Nat → Int32} {hk nk ht nt e1 e2 e3 e4 v0 : Int32} {c0 c1 c2 c3 : Nat → Int64} {A K : Es} {ph tq bq sq : Int → Int} {cq : Int → Int → Int64} {ik tn : Int}
set_option maxHeartbeats 4000000 in
theorem c_X4_brownWith (hR : RS (xs, xi, xk, xc, xl, xr, xb, yl, yr) A) (hI : IA A) {px lf po pn : Int} (x0 : 0 ≤ px) (x1 : px < pe A) (l0 : 0 ≤ lf) (l1 : lf ≤ 200) (o0 : 0 ≤ po) (o1 : po < pe A) (n0 : 0 ≤ pn) (n1 : pn ≤ 1000) (hhk : hr A + pn < 1000000) : MI (S := Ac) E l yX4_brownWith cX4_brownWith 5 (some FieldType.int) (rmk 5 111) (wO E a k b t x q ((iv (ik))) fd ++ (wS E k ((hk)) ((nk)) (k1, k2, k3, k4, k5, k6, k7, k8, k9) ++ (wS E b ((iv (hr A))) ((iv (pe A))) (xs, xi, xk, xc, xl, xr, xb, yl, yr) ++ (wS E t ((ht)) ((nt)) (t1, t2, t3, t4, t5, t6, t7, t8, t9) ++ (wX E x ((iv (tn))) ((e1)) ((e2)) ((e3)) ((e4)) tp ++ (wH E (q 0) ((iv (bq 0))) ((iv (sq 0))) c0 ++ (wH E (q 1) ((iv (bq 1))) ((iv (sq 1))) c1 ++ (wH E (q 2) ((iv (bq 2))) ((iv (sq 2))) c2 ++ (wH E (q 3) ((iv (bq 3))) ((iv (sq 3))) c3 ++ []))))))))) [.ref (a 0), .int (iv (px)), .int (iv (lf)), .int (iv (po)), .int (iv (pn))] (fun r _ => r = iv (brn (stepn (pu A 2 px lf) pn.toNat) po)) (fun u => wO E a k b t x q ((iv (ik))) fd ++ (wS E k ((hk)) ((nk)) (k1, k2, k3, k4, k5, k6, k7, k8, k9) ++ (wS E b ((iv (hr A))) ((iv (pe A))) (xs, xi, xk, xc, xl, xr, xb, yl, yr) ++ (wS E t ((u.1)) ((u.2.1)) u.2.2 ++ (wX E x ((iv (tn))) ((e1)) ((e2)) ((e3)) ((e4)) tp ++ (wH E (q 0) ((iv (bq 0))) ((iv (sq 0))) c0 ++ (wH E (q 1) ((iv (bq 1))) ((iv (sq 1))) c1 ++ (wH E (q 2) ((iv (bq 2))) ((iv (sq 2))) c2 ++ (wH E (q 3) ((iv (bq 3))) ((iv (sq 3))) c3 ++ []))))))))) := by
  refine goI (S := Ac) (post := fun r _ => r = iv (brn (stepn (pu A 2 px lf) pn.toNat) po)) (ws' := fun u => wO E a k b t x q ((iv (ik))) fd ++ (wS E k ((hk)) ((nk)) (k1, k2, k3, k4, k5, k6, k7, k8, k9) ++ (wS E b ((iv (hr A))) ((iv (pe A))) (xs, xi, xk, xc, xl, xr, xb, yl, yr) ++ (wS E t ((u.1)) ((u.2.1)) u.2.2 ++ (wX E x ((iv (tn))) ((e1)) ((e2)) ((e3)) ((e4)) tp ++ (wH E (q 0) ((iv (bq 0))) ((iv (sq 0))) c0 ++ (wH E (q 1) ((iv (bq 1))) ((iv (sq 1))) c1 ++ (wH E (q 2) ((iv (bq 2))) ((iv (sq 2))) c2 ++ (wH E (q 3) ((iv (bq 3))) ((iv (sq 3))) c3 ++ []))))))))) (by decide) (Nat.le_of_ble_eq_true rfl) ?_
  intro pp e s m below meth c ls args Q ret X h hl
  have hl : lv_has ls 5 [(0, .ref (a 0)), (1, .int (iv (px))), (2, .int (iv (lf))), (3, .int (iv (po))), (4, .int (iv (pn)))] := hl
  have n8 := hI.n8
  refine lv_aload_n X.1 X.2.1 dX4_brownWith_0 rfl (lv_at hl 0 rfl) ?_
  refine z_av h (run_V (rest := []) X h (c_X4_startTrial hR hI.n8) mi_X4_startTrial ml_X4_150 ⟨Nat.le_of_ble_eq_true rfl, Nat.le_of_ble_eq_true rfl⟩ ⟨rfl, rfl⟩ (Seg.rfl' _) 3 0 rfl rfl rfl rfl hl.1 rfl (Nat.le_of_ble_eq_true rfl) ⟨Nat.zero_le _, Nat.zero_le _⟩ dX4_brownWith_1) (fun _ => map_app rfl (map_app rfl (map_app rfl (map_app (wS_map _ _ _ _ _ _ _ _) rfl)))) (fun u H locs hp h => ?_)
  obtain ⟨r0_1, r1_1, r2_1, r3_1, r4_1, r5_1, r6_1, r7_1, r8_1⟩ := u
  have h : St E _ s H locs (wO E a k b t x q ((iv (ik))) fd ++ (wS E k ((hk)) ((nk)) (k1, k2, k3, k4, k5, k6, k7, k8, k9) ++ (wS E b ((iv (hr A))) ((iv (pe A))) (xs, xi, xk, xc, xl, xr, xb, yl, yr) ++ (wS E t ((iv (hr A))) ((iv (pe A))) (r0_1, r1_1, r2_1, r3_1, r4_1, r5_1, r6_1, r7_1, r8_1) ++ (wX E x ((iv (tn))) ((e1)) ((e2)) ((e3)) ((e4)) tp ++ (wH E (q 0) ((iv (bq 0))) ((iv (sq 0))) c0 ++ (wH E (q 1) ((iv (bq 1))) ((iv (sq 1))) c1 ++ (wH E (q 2) ((iv (bq 2))) ((iv (sq 2))) c2 ++ (wH E (q 3) ((iv (bq 3))) ((iv (sq 3))) c3 ++ []))))))))) := h
  have hRb1 : RS (r0_1, r1_1, r2_1, r3_1, r4_1, r5_1, r6_1, r7_1, r8_1) A := hp
  refine lv_aload_n X.1 X.2.1 dX4_brownWith_4 rfl (lv_at hl 0 rfl) ?_
  refine z_get X h 3 0 1 rfl inX4 rfl (by decide) fl_X4_16 rfl dX4_brownWith_5 ?_
  refine z_get X h 1 23 6 rfl inX1 rfl (by decide) fl_X4_103 rfl dX4_brownWith_8 ?_
  refine lv_iload_n X.1 X.2.1 dX4_brownWith_11 rfl (lv_at hl 1 rfl) ?_
  refine lv_iload_n X.1 X.2.1 dX4_brownWith_12 rfl (lv_at hl 2 rfl) ?_
  refine s_iast X (st_in (st_in (st_in (st_nil h)))) 5 rfl (by omega) (by omega) (by decide) dX4_brownWith_13 (fun H locs h => ?_)
  have h := (st_lin (st_out (st_out (st_out (st_eq wS_lefts h)))))
  have h : St E _ s H locs (wO E a k b t x q ((iv (ik))) fd ++ (wS E k ((hk)) ((nk)) (k1, k2, k3, k4, k5, k6, k7, k8, k9) ++ (wS E b ((iv (hr A))) ((iv (pe A))) (xs, xi, xk, xc, xl, xr, xb, yl, yr) ++ (wS E t ((iv (hr A))) ((iv (pe A))) (r0_1, r1_1, r2_1, r3_1, (upd r4_1 (px : Int).toNat (iv (lf))), r5_1, r6_1, r7_1, r8_1) ++ (wX E x ((iv (tn))) ((e1)) ((e2)) ((e3)) ((e4)) tp ++ (wH E (q 0) ((iv (bq 0))) ((iv (sq 0))) c0 ++ (wH E (q 1) ((iv (bq 1))) ((iv (sq 1))) c1 ++ (wH E (q 2) ((iv (bq 2))) ((iv (sq 2))) c2 ++ (wH E (q 3) ((iv (bq 3))) ((iv (sq 3))) c3 ++ []))))))))) := h
  have tRu : RS (r0_1, r1_1, r2_1, r3_1, (upd r4_1 (px : Int).toNat (iv (lf))), r5_1, r6_1, r7_1, r8_1) (pu A 2 px lf) := RS_le hRb1 hI.n0 (by omega)
  have tIu : IA (pu A 2 px lf) := IA_pu hI (by omega) (by omega) (Or.inr (Or.inl ⟨Or.inl rfl, by omega, by omega⟩))
  have pq9 : pe (pu A 2 px lf) = pe A := rfl
  refine lv_aload_n X.1 X.2.1 dX4_brownWith_14 rfl (lv_at hl 0 rfl) ?_
  refine z_get X h 3 0 1 rfl inX4 rfl (by decide) fl_X4_16 rfl dX4_brownWith_15 ?_
  refine lv_iload X.1 X.2.1 dX4_brownWith_18 (lv_at hl 4 rfl) ?_
  refine z_wv (st_in (st_in (st_in (st_nil h)))) (run_V (rest := []) X (st_in (st_in (st_in (st_nil h)))) (c_X1_goOn (k := pn) tRu tIu (by omega) (by omega) (show hr A + pn < 1000000 from hhk)) mi_X1_goOn ml_X4_146 ⟨Nat.le_of_ble_eq_true rfl, Nat.le_of_ble_eq_true rfl⟩ ⟨rfl, rfl⟩ (Seg.mk' _ _) 1 23 rfl rfl rfl rfl hl.1 rfl (Nat.le_of_ble_eq_true rfl) ⟨Nat.zero_le _, Nat.zero_le _⟩ dX4_brownWith_20) (fun _ => wS_map _ _ _ _ _ _ _ _) (fun u H locs hp h => ?_)
  have h := (st_lin (st_out (st_out (st_out h))))
  obtain ⟨z0_2, z1_2, z2_2, z3_2, z4_2, z5_2, z6_2, z7_2, z8_2⟩ := u
  have h : St E _ s H locs (wO E a k b t x q ((iv (ik))) fd ++ (wS E k ((hk)) ((nk)) (k1, k2, k3, k4, k5, k6, k7, k8, k9) ++ (wS E b ((iv (hr A))) ((iv (pe A))) (xs, xi, xk, xc, xl, xr, xb, yl, yr) ++ (wS E t ((iv (hr (stepn (pu A 2 px lf) pn.toNat)))) ((iv (pe (stepn (pu A 2 px lf) pn.toNat)))) (z0_2, z1_2, z2_2, z3_2, z4_2, z5_2, z6_2, z7_2, z8_2) ++ (wX E x ((iv (tn))) ((e1)) ((e2)) ((e3)) ((e4)) tp ++ (wH E (q 0) ((iv (bq 0))) ((iv (sq 0))) c0 ++ (wH E (q 1) ((iv (bq 1))) ((iv (sq 1))) c1 ++ (wH E (q 2) ((iv (bq 2))) ((iv (sq 2))) c2 ++ (wH E (q 3) ((iv (bq 3))) ((iv (sq 3))) c3 ++ []))))))))) := h
  have hR2 : RS (z0_2, z1_2, z2_2, z3_2, z4_2, z5_2, z6_2, z7_2, z8_2) (stepn (pu A 2 px lf) pn.toNat) := hp
  have pn2 : pe (stepn (pu A 2 px lf) pn.toNat) = pe (pu A 2 px lf) := stepn_pe _ _
  refine lv_aload_n X.1 X.2.1 dX4_brownWith_23 rfl (lv_at hl 0 rfl) ?_
  refine z_get X h 3 0 1 rfl inX4 rfl (by decide) fl_X4_16 rfl dX4_brownWith_24 ?_
  refine lv_iload_n X.1 X.2.1 dX4_brownWith_27 rfl (lv_at hl 3 rfl) ?_
  refine z_pi (run_V (rest := []) X (st_in (st_in (st_in (st_nil h)))) (c_X1_brownOf (p := po) hR2 (stepn_IA tIu pn.toNat) (by omega) (by omega)) mi_X1_brownOf ml_X4_128 ⟨Nat.le_of_ble_eq_true rfl, Nat.le_of_ble_eq_true rfl⟩ ⟨rfl, rfl⟩ (Seg.mk' _ _) 1 23 rfl rfl rfl rfl hl.1 rfl (Nat.le_of_ble_eq_true rfl) ⟨Nat.zero_le _, Nat.zero_le _⟩ dX4_brownWith_28) ?_
  exact ret _ _ _ _ _ ((iv (hr (stepn (pu A 2 px lf) pn.toNat))), (iv (pe (stepn (pu A 2 px lf) pn.toNat))), (z0_2, z1_2, z2_2, z3_2, z4_2, z5_2, z6_2, z7_2, z8_2)) h rfl dX4_brownWith_31

set_option maxHeartbeats 4000000 in
theorem c_X4_enough (hS : RepC (((iv (ik)), fd), ((hk), (nk), (k1, k2, k3, k4, k5, k6, k7, k8, k9)), ((iv (hr A)), (iv (pe A)), (xs, xi, xk, xc, xl, xr, xb, yl, yr)), ((ht), (nt), (t1, t2, t3, t4, t5, t6, t7, t8, t9)), ((iv (tn)), (e1), (e2), (e3), (e4), tp), ((iv (bq 0)), (iv (sq 0)), c0), ((iv (bq 1)), (iv (sq 1)), c1), ((iv (bq 2)), (iv (sq 2)), c2), ((iv (bq 3)), (iv (sq 3)), c3)) (A, K, ik, ph, tq, tn, bq, sq, cq)) {px : Int} (r_px : r32 px) {po : Int} (r_po : r32 po) {pn : Int} (r_pn : r32 pn) {pv : Int} (r_pv : r32 pv) : MI (S := Tc) E l yX4_enough cX4_enough 9 (some FieldType.int) (rmk 6 135) (wO E a k b t x q ((iv (ik))) fd ++ (wS E k ((hk)) ((nk)) (k1, k2, k3, k4, k5, k6, k7, k8, k9) ++ (wS E b ((iv (hr A))) ((iv (pe A))) (xs, xi, xk, xc, xl, xr, xb, yl, yr) ++ (wS E t ((ht)) ((nt)) (t1, t2, t3, t4, t5, t6, t7, t8, t9) ++ (wX E x ((iv (tn))) ((e1)) ((e2)) ((e3)) ((e4)) tp ++ (wH E (q 0) ((iv (bq 0))) ((iv (sq 0))) c0 ++ (wH E (q 1) ((iv (bq 1))) ((iv (sq 1))) c1 ++ (wH E (q 2) ((iv (bq 2))) ((iv (sq 2))) c2 ++ (wH E (q 3) ((iv (bq 3))) ((iv (sq 3))) c3 ++ []))))))))) [.ref (a 0), .int (iv (px)), .int (iv (po)), .int (iv (pn)), .int (iv (pv))] (fun r u => r = iv (q_enough A ph px po pn pv).1 ∧ RepC u ((q_enough A ph px po pn pv).2.1, K, ik, (q_enough A ph px po pn pv).2.2, tq, tn, bq, sq, cq)) (fun u => wT E a k b t x q u) := by
  refine goI (S := Tc) (post := fun r u => r = iv (q_enough A ph px po pn pv).1 ∧ RepC u ((q_enough A ph px po pn pv).2.1, K, ik, (q_enough A ph px po pn pv).2.2, tq, tn, bq, sq, cq)) (ws' := fun u => wT E a k b t x q u) (by decide) (Nat.le_of_ble_eq_true rfl) ?_
  intro pp e s m below meth c ls args Q ret X h hl
  have hl : lv_has ls 9 [(0, .ref (a 0)), (1, .int (iv (px))), (2, .int (iv (po))), (3, .int (iv (pn))), (4, .int (iv (pv)))] := hl
  have hR : RS (xs, xi, xk, xc, xl, xr, xb, yl, yr) A := hS.1.2.2.1
  have hI : IA A := hS.1.2.2.2.1
  have hr9 : hr A ≤ 99999 := hS.1.2.2.2.2
  have hF : RF 7 fd ph := hS.2.2.1
  have hK := hS.2.1
  have hT := hS.2.2.2.1
  have hB := hS.2.2.2.2
  have hh : hr A < 1000000 := by omega
  have n8 := hI.n8
  have n0 := hI.n0
  have h0 := hI.h0
  refine lv_aload_n X.1 X.2.1 dX4_enough_0 rfl (lv_at hl 0 rfl) ?_
  refine lv_iload_n X.1 X.2.1 dX4_enough_1 rfl (lv_at hl 1 rfl) ?_
  refine z_pi (run_V (rest := []) X h (c_X4_isPerson (p := px) hI r_px) mi_X4_isPerson ml_X4_94 ⟨Nat.le_of_ble_eq_true rfl, Nat.le_of_ble_eq_true rfl⟩ ⟨rfl, rfl⟩ (Seg.rfl' _) 3 0 rfl rfl rfl rfl hl.1 rfl (Nat.le_of_ble_eq_true rfl) ⟨Nat.zero_le _, Nat.zero_le _⟩ dX4_enough_2) ?_
  refine z_ifb_eq (tgt := 21) X dX4_enough_5 (by decide) (fun c_5 => ?_) (fun c_5 => ?_)
  · refine lv_aload_n X.1 X.2.1 dX4_enough_21 rfl (lv_at hl 0 rfl) ?_
    refine z_ldc (z := (-1000000001)) X ct_X4_48 (by decide) dX4_enough_22 ?_
    refine z_wi (st_sing (st_nil h)) (run_V (rest := []) X (st_sing (st_nil h)) (c_X4_finding (j := 0) hF (by decide) (by decide) (by decide)) mi_X4_finding ml_X4_49 ⟨Nat.le_of_ble_eq_true rfl, Nat.le_of_ble_eq_true rfl⟩ ⟨rfl, rfl⟩ (Seg.mk' _ _) 3 0 rfl rfl rfl rfl hl.1 rfl (Nat.le_of_ble_eq_true rfl) ⟨Nat.zero_le _, Nat.zero_le _⟩ dX4_enough_24) (fun _ => map_app (wO_map _ _ _ _ _ _ _ _ _ _ _) rfl) (fun r fd1 H locs hp h => ?_)
    have h := (st_lin (st_gnis h))
    obtain ⟨rfl, hF1⟩ := hp
    have h : St E _ s H locs (wO E a k b t x q ((iv (ik))) fd1 ++ (wS E k ((hk)) ((nk)) (k1, k2, k3, k4, k5, k6, k7, k8, k9) ++ (wS E b ((iv (hr A))) ((iv (pe A))) (xs, xi, xk, xc, xl, xr, xb, yl, yr) ++ (wS E t ((ht)) ((nt)) (t1, t2, t3, t4, t5, t6, t7, t8, t9) ++ (wX E x ((iv (tn))) ((e1)) ((e2)) ((e3)) ((e4)) tp ++ (wH E (q 0) ((iv (bq 0))) ((iv (sq 0))) c0 ++ (wH E (q 1) ((iv (bq 1))) ((iv (sq 1))) c1 ++ (wH E (q 2) ((iv (bq 2))) ((iv (sq 2))) c2 ++ (wH E (q 3) ((iv (bq 3))) ((iv (sq 3))) c3 ++ []))))))))) := h
    have e9 : q_enough A ph px po pn pv = ((-1000000001), A, (bump ph 0)) := by unfold q_enough; (repeat (first | rw [if_pos (by omega)] | rw [if_neg (by omega)])); try rfl
    exact ret _ _ _ _ _ (((iv (ik)), fd1), ((hk), (nk), (k1, k2, k3, k4, k5, k6, k7, k8, k9)), ((iv (hr A)), (iv (pe A)), (xs, xi, xk, xc, xl, xr, xb, yl, yr)), ((ht), (nt), (t1, t2, t3, t4, t5, t6, t7, t8, t9)), ((iv (tn)), (e1), (e2), (e3), (e4), tp), ((iv (bq 0)), (iv (sq 0)), c0), ((iv (bq 1)), (iv (sq 1)), c1), ((iv (bq 2)), (iv (sq 2)), c2), ((iv (bq 3)), (iv (sq 3)), c3)) h (by rw [e9]; exact ⟨rfl, ⟨rfl, rfl, hR, hI, hr9⟩, hK, hF1, hT, hB⟩) dX4_enough_27
  · refine lv_aload_n X.1 X.2.1 dX4_enough_8 rfl (lv_at hl 0 rfl) ?_
    refine lv_iload_n X.1 X.2.1 dX4_enough_9 rfl (lv_at hl 2 rfl) ?_
    refine z_pi (run_V (rest := []) X h (c_X4_isPerson (p := po) hI r_po) mi_X4_isPerson ml_X4_94 ⟨Nat.le_of_ble_eq_true rfl, Nat.le_of_ble_eq_true rfl⟩ ⟨rfl, rfl⟩ (Seg.rfl' _) 3 0 rfl rfl rfl rfl hl.1 rfl (Nat.le_of_ble_eq_true rfl) ⟨Nat.zero_le _, Nat.zero_le _⟩ dX4_enough_10) ?_
    refine z_ifb_eq (tgt := 21) X dX4_enough_13 (by decide) (fun c_13 => ?_) (fun c_13 => ?_)
    · refine lv_aload_n X.1 X.2.1 dX4_enough_21 rfl (lv_at hl 0 rfl) ?_
      refine z_ldc (z := (-1000000001)) X ct_X4_48 (by decide) dX4_enough_22 ?_
      refine z_wi (st_sing (st_nil h)) (run_V (rest := []) X (st_sing (st_nil h)) (c_X4_finding (j := 0) hF (by decide) (by decide) (by decide)) mi_X4_finding ml_X4_49 ⟨Nat.le_of_ble_eq_true rfl, Nat.le_of_ble_eq_true rfl⟩ ⟨rfl, rfl⟩ (Seg.mk' _ _) 3 0 rfl rfl rfl rfl hl.1 rfl (Nat.le_of_ble_eq_true rfl) ⟨Nat.zero_le _, Nat.zero_le _⟩ dX4_enough_24) (fun _ => map_app (wO_map _ _ _ _ _ _ _ _ _ _ _) rfl) (fun r fd2 H locs hp h => ?_)
      have h := (st_lin (st_gnis h))
      obtain ⟨rfl, hF2⟩ := hp
      have h : St E _ s H locs (wO E a k b t x q ((iv (ik))) fd2 ++ (wS E k ((hk)) ((nk)) (k1, k2, k3, k4, k5, k6, k7, k8, k9) ++ (wS E b ((iv (hr A))) ((iv (pe A))) (xs, xi, xk, xc, xl, xr, xb, yl, yr) ++ (wS E t ((ht)) ((nt)) (t1, t2, t3, t4, t5, t6, t7, t8, t9) ++ (wX E x ((iv (tn))) ((e1)) ((e2)) ((e3)) ((e4)) tp ++ (wH E (q 0) ((iv (bq 0))) ((iv (sq 0))) c0 ++ (wH E (q 1) ((iv (bq 1))) ((iv (sq 1))) c1 ++ (wH E (q 2) ((iv (bq 2))) ((iv (sq 2))) c2 ++ (wH E (q 3) ((iv (bq 3))) ((iv (sq 3))) c3 ++ []))))))))) := h
      have e9 : q_enough A ph px po pn pv = ((-1000000001), A, (bump ph 0)) := by unfold q_enough; (repeat (first | rw [if_pos (by omega)] | rw [if_neg (by omega)])); try rfl
      exact ret _ _ _ _ _ (((iv (ik)), fd2), ((hk), (nk), (k1, k2, k3, k4, k5, k6, k7, k8, k9)), ((iv (hr A)), (iv (pe A)), (xs, xi, xk, xc, xl, xr, xb, yl, yr)), ((ht), (nt), (t1, t2, t3, t4, t5, t6, t7, t8, t9)), ((iv (tn)), (e1), (e2), (e3), (e4), tp), ((iv (bq 0)), (iv (sq 0)), c0), ((iv (bq 1)), (iv (sq 1)), c1), ((iv (bq 2)), (iv (sq 2)), c2), ((iv (bq 3)), (iv (sq 3)), c3)) h (by rw [e9]; exact ⟨rfl, ⟨rfl, rfl, hR, hI, hr9⟩, hK, hF2, hT, hB⟩) dX4_enough_27
    · refine lv_iload_n X.1 X.2.1 dX4_enough_16 rfl (lv_at hl 1 rfl) ?_
      refine lv_iload_n X.1 X.2.1 dX4_enough_17 rfl (lv_at hl 2 rfl) ?_
      refine z_ic_ne (tgt := 28) X r_px r_po dX4_enough_18 (by decide) (fun c_18 => ?_) (fun c_18 => ?_)
      · refine lv_iload_n X.1 X.2.1 dX4_enough_28 rfl (lv_at hl 3 rfl) ?_
        refine z_iconst X dX4_enough_29 ?_
        refine z_bipush X (by decide) dX4_enough_30 ?_
        refine z_pi (run_S (rest := []) X h (c_X4_within r_pn ⟨by decide, by decide⟩ ⟨by decide, by decide⟩) mi_X4_within ml_X4_44 ⟨Nat.le_of_ble_eq_true rfl, Nat.le_of_ble_eq_true rfl⟩ ⟨rfl, rfl⟩ (Seg.nil _) rfl hl.1 rfl (Nat.le_of_ble_eq_true rfl) ⟨Nat.zero_le _, Nat.zero_le _⟩ dX4_enough_32) ?_
        refine z_ifb_eq (tgt := 50) X dX4_enough_35 (by decide) (fun c_35 => ?_) (fun c_35 => ?_)
        · refine lv_aload_n X.1 X.2.1 dX4_enough_50 rfl (lv_at hl 0 rfl) ?_
          refine z_ldc (z := (-1000000001)) X ct_X4_48 (by decide) dX4_enough_51 ?_
          refine z_wi (st_sing (st_nil h)) (run_V (rest := []) X (st_sing (st_nil h)) (c_X4_finding (j := 0) hF (by decide) (by decide) (by decide)) mi_X4_finding ml_X4_49 ⟨Nat.le_of_ble_eq_true rfl, Nat.le_of_ble_eq_true rfl⟩ ⟨rfl, rfl⟩ (Seg.mk' _ _) 3 0 rfl rfl rfl rfl hl.1 rfl (Nat.le_of_ble_eq_true rfl) ⟨Nat.zero_le _, Nat.zero_le _⟩ dX4_enough_53) (fun _ => map_app (wO_map _ _ _ _ _ _ _ _ _ _ _) rfl) (fun r fd3 H locs hp h => ?_)
          have h := (st_lin (st_gnis h))
          obtain ⟨rfl, hF3⟩ := hp
          have h : St E _ s H locs (wO E a k b t x q ((iv (ik))) fd3 ++ (wS E k ((hk)) ((nk)) (k1, k2, k3, k4, k5, k6, k7, k8, k9) ++ (wS E b ((iv (hr A))) ((iv (pe A))) (xs, xi, xk, xc, xl, xr, xb, yl, yr) ++ (wS E t ((ht)) ((nt)) (t1, t2, t3, t4, t5, t6, t7, t8, t9) ++ (wX E x ((iv (tn))) ((e1)) ((e2)) ((e3)) ((e4)) tp ++ (wH E (q 0) ((iv (bq 0))) ((iv (sq 0))) c0 ++ (wH E (q 1) ((iv (bq 1))) ((iv (sq 1))) c1 ++ (wH E (q 2) ((iv (bq 2))) ((iv (sq 2))) c2 ++ (wH E (q 3) ((iv (bq 3))) ((iv (sq 3))) c3 ++ []))))))))) := h
          have e9 : q_enough A ph px po pn pv = ((-1000000001), A, (bump ph 0)) := by unfold q_enough; (repeat (first | rw [if_pos (by omega)] | rw [if_neg (by omega)])); try rfl
          exact ret _ _ _ _ _ (((iv (ik)), fd3), ((hk), (nk), (k1, k2, k3, k4, k5, k6, k7, k8, k9)), ((iv (hr A)), (iv (pe A)), (xs, xi, xk, xc, xl, xr, xb, yl, yr)), ((ht), (nt), (t1, t2, t3, t4, t5, t6, t7, t8, t9)), ((iv (tn)), (e1), (e2), (e3), (e4), tp), ((iv (bq 0)), (iv (sq 0)), c0), ((iv (bq 1)), (iv (sq 1)), c1), ((iv (bq 2)), (iv (sq 2)), c2), ((iv (bq 3)), (iv (sq 3)), c3)) h (by rw [e9]; exact ⟨rfl, ⟨rfl, rfl, hR, hI, hr9⟩, hK, hF3, hT, hB⟩) dX4_enough_56
        · refine lv_iload X.1 X.2.1 dX4_enough_38 (lv_at hl 4 rfl) ?_
          refine z_iconst X dX4_enough_40 ?_
          refine z_sipush X (by decide) dX4_enough_41 ?_
          refine z_pi (run_S (rest := []) X h (c_X4_within r_pv ⟨by decide, by decide⟩ ⟨by decide, by decide⟩) mi_X4_within ml_X4_44 ⟨Nat.le_of_ble_eq_true rfl, Nat.le_of_ble_eq_true rfl⟩ ⟨rfl, rfl⟩ (Seg.nil _) rfl hl.1 rfl (Nat.le_of_ble_eq_true rfl) ⟨Nat.zero_le _, Nat.zero_le _⟩ dX4_enough_44) ?_
          refine z_ifb_ne (tgt := 57) X dX4_enough_47 (by decide) (fun c_47 => ?_) (fun c_47 => ?_)
          · refine lv_aload_n X.1 X.2.1 dX4_enough_57 rfl (lv_at hl 0 rfl) ?_
            refine lv_iload_n X.1 X.2.1 dX4_enough_58 rfl (lv_at hl 1 rfl) ?_
            refine z_sipush X (by decide) dX4_enough_59 ?_
            refine lv_iload_n X.1 X.2.1 dX4_enough_62 rfl (lv_at hl 2 rfl) ?_
            refine lv_iload_n X.1 X.2.1 dX4_enough_63 rfl (lv_at hl 3 rfl) ?_
            refine z_ai h (run_V (rest := []) X h (c_X4_brownWith (px := px) (lf := 200) (po := po) (pn := pn) hR hI (by omega) (by omega) (by omega) (by omega) (by omega) (by omega) (by omega) (by omega) (by omega)) mi_X4_brownWith ml_X4_166 ⟨Nat.le_of_ble_eq_true rfl, Nat.le_of_ble_eq_true rfl⟩ ⟨rfl, rfl⟩ (Seg.rfl' _) 3 0 rfl rfl rfl rfl hl.1 rfl (Nat.le_of_ble_eq_true rfl) ⟨Nat.zero_le _, Nat.zero_le _⟩ dX4_enough_64) (fun _ => map_app rfl (map_app rfl (map_app rfl (map_app (wS_map _ _ _ _ _ _ _ _) rfl)))) (fun r u H locs hp h => ?_)
            obtain ⟨th4, tm4, r0_4, r1_4, r2_4, r3_4, r4_4, r5_4, r6_4, r7_4, r8_4⟩ := u
            subst hp
            have h : St E _ s H locs (wO E a k b t x q ((iv (ik))) fd ++ (wS E k ((hk)) ((nk)) (k1, k2, k3, k4, k5, k6, k7, k8, k9) ++ (wS E b ((iv (hr A))) ((iv (pe A))) (xs, xi, xk, xc, xl, xr, xb, yl, yr) ++ (wS E t ((th4)) ((tm4)) (r0_4, r1_4, r2_4, r3_4, r4_4, r5_4, r6_4, r7_4, r8_4) ++ (wX E x ((iv (tn))) ((e1)) ((e2)) ((e3)) ((e4)) tp ++ (wH E (q 0) ((iv (bq 0))) ((iv (sq 0))) c0 ++ (wH E (q 1) ((iv (bq 1))) ((iv (sq 1))) c1 ++ (wH E (q 2) ((iv (bq 2))) ((iv (sq 2))) c2 ++ (wH E (q 3) ((iv (bq 3))) ((iv (sq 3))) c3 ++ []))))))))) := h
            have bw4 := brnn_rng (IA_pu hI (w := 2) (p := px) (v := 200) (by omega) (by omega) (Or.inr (Or.inl ⟨Or.inl rfl, by omega, by omega⟩))) pn.toNat (p := po) (by omega) (show po < pe A by omega)
            refine lv_iload X.1 X.2.1 dX4_enough_67 (lv_at hl 4 rfl) ?_
            refine z_ic_ge (tgt := 79) X ⟨by omega, by omega⟩ r_pv dX4_enough_69 (by decide) (fun c_69 => ?_) (fun c_69 => ?_)
            · refine z_iconst X dX4_enough_79 ?_
              refine lv_istore (lv' := [(5, .int (iv (0))), (0, .ref (a 0)), (1, .int (iv (px))), (2, .int (iv (po))), (3, .int (iv (pn))), (4, .int (iv (pv)))]) X.1 X.2.1 dX4_enough_80 hl (by decide) rfl (fun ls hl => ?_)
              refine z_sipush X (by decide) dX4_enough_82 ?_
              refine lv_istore (lv' := [(6, .int (iv (200))), (5, .int (iv (0))), (0, .ref (a 0)), (1, .int (iv (px))), (2, .int (iv (po))), (3, .int (iv (pn))), (4, .int (iv (pv)))]) X.1 X.2.1 dX4_enough_85 hl (by decide) rfl (fun ls hl => ?_)
              refine z_iconst X dX4_enough_87 ?_
              refine lv_istore (lv' := [(7, .int (iv (0))), (6, .int (iv (200))), (5, .int (iv (0))), (0, .ref (a 0)), (1, .int (iv (px))), (2, .int (iv (po))), (3, .int (iv (pn))), (4, .int (iv (pv)))]) X.1 X.2.1 dX4_enough_88 hl (by decide) rfl (fun ls hl => ?_)
              have L90 : ∀ (fuel_ : Nat) (i : Int) (lo_ : Int) (hi_ : Int) (th : Int32) (tm : Int32) (g1 : Nat → Int32) (g2 : Nat → Int32) (g3 : Nat → Int32) (g4 : Nat → Int32) (g5 : Nat → Int32) (g6 : Nat → Int32) (g7 : Nat → Int32) (g8 : Nat → Int32) (g9 : Nat → Int32), (0 ≤ i) → (0 ≤ lo_) → (lo_ ≤ hi_) → (hi_ ≤ 200) → (hi_ - lo_ ≤ 200 - i) → (∀ j, 0 ≤ j → j < lo_ → brn (stepn (pu A 2 px j) pn.toNat) po < pv) → (pv ≤ brn (stepn (pu A 2 px hi_) pn.toNat) po) → 200 - i + 1 < (fuel_ : Int) → ∀ (H : Heap) (locs : List Loc), St E (wO E a k b t x q ((iv (ik))) fd ++ (wS E k ((hk)) ((nk)) (k1, k2, k3, k4, k5, k6, k7, k8, k9) ++ (wS E b ((iv (hr A))) ((iv (pe A))) (xs, xi, xk, xc, xl, xr, xb, yl, yr) ++ (wS E t ((ht)) ((nt)) (t1, t2, t3, t4, t5, t6, t7, t8, t9) ++ (wX E x ((iv (tn))) ((e1)) ((e2)) ((e3)) ((e4)) tp ++ (wH E (q 0) ((iv (bq 0))) ((iv (sq 0))) c0 ++ (wH E (q 1) ((iv (bq 1))) ((iv (sq 1))) c1 ++ (wH E (q 2) ((iv (bq 2))) ((iv (sq 2))) c2 ++ (wH E (q 3) ((iv (bq 3))) ((iv (sq 3))) c3 ++ []))))))))) s H locs (wO E a k b t x q ((iv (ik))) fd ++ (wS E k ((hk)) ((nk)) (k1, k2, k3, k4, k5, k6, k7, k8, k9) ++ (wS E b ((iv (hr A))) ((iv (pe A))) (xs, xi, xk, xc, xl, xr, xb, yl, yr) ++ (wS E t ((th)) ((tm)) (g1, g2, g3, g4, g5, g6, g7, g8, g9) ++ (wX E x ((iv (tn))) ((e1)) ((e2)) ((e3)) ((e4)) tp ++ (wH E (q 0) ((iv (bq 0))) ((iv (sq 0))) c0 ++ (wH E (q 1) ((iv (bq 1))) ((iv (sq 1))) c1 ++ (wH E (q 2) ((iv (bq 2))) ((iv (sq 2))) c2 ++ (wH E (q 3) ((iv (bq 3))) ((iv (sq 3))) c3 ++ []))))))))) → ∀ ls : Array Slot, lv_has ls 9 [(0, .ref (a 0)), (1, .int (iv (px))), (2, .int (iv (po))), (3, .int (iv (pn))), (4, .int (iv (pv))), (5, .int (iv (lo_))), (6, .int (iv (hi_))), (7, .int (iv (i)))] → W pp l e (rmk 6 135) s m args below meth c H locs 0 0 Q (F0 m 90 ls []) := by
                intro fuel_
                induction fuel_ with
                | zero =>
                  intro i lo_ hi_ th tm g1 g2 g3 g4 g5 g6 g7 g8 g9 i0 a0 a1 a2 a3 hlow hhi hn
                  exfalso; omega
                | succ fuel_ ih_90 =>
                  intro i lo_ hi_ th tm g1 g2 g3 g4 g5 g6 g7 g8 g9 i0 a0 a1 a2 a3 hlow hhi hn H locs h ls hl
                  refine lv_iload X.1 X.2.1 dX4_enough_90 (lv_at hl 7 rfl) ?_
                  refine z_sipush X (by decide) dX4_enough_92 ?_
                  refine z_ic_ge (tgt := 147) X ⟨by omega, by omega⟩ ⟨by decide, by decide⟩ dX4_enough_95 (by decide) (fun c_95 => ?_) (fun c_95 => ?_)
                  · refine lv_iload X.1 X.2.1 dX4_enough_147 (lv_at hl 6 rfl) ?_
                    have e9 : q_enough A ph px po pn pv = (hi_, A, ph) := by
                                        have hx : fnd (pEnough A px po pn pv) 0 201 = hi_.toNat := fnd_min (Nat.zero_le _) (by omega) (fun j _ b => by simp only [pEnough, decide_eq_true_eq]; have := hlow (j : Int) (by omega) (by omega); omega) (by simp only [pEnough, decide_eq_true_eq, tnc (show 0 ≤ hi_ by omega)]; exact hhi)
                                        unfold q_enough; rw [if_neg (by omega), hx, if_neg (by omega), tnc (by omega)]
                    exact ret _ _ _ _ _ (((iv (ik)), fd), ((hk), (nk), (k1, k2, k3, k4, k5, k6, k7, k8, k9)), ((iv (hr A)), (iv (pe A)), (xs, xi, xk, xc, xl, xr, xb, yl, yr)), ((th), (tm), (g1, g2, g3, g4, g5, g6, g7, g8, g9)), ((iv (tn)), (e1), (e2), (e3), (e4), tp), ((iv (bq 0)), (iv (sq 0)), c0), ((iv (bq 1)), (iv (sq 1)), c1), ((iv (bq 2)), (iv (sq 2)), c2), ((iv (bq 3)), (iv (sq 3)), c3)) h (by rw [e9]; exact ⟨rfl, ⟨rfl, rfl, hR, hI, hr9⟩, hK, hF, hT, hB⟩) dX4_enough_149
                  · refine lv_iload X.1 X.2.1 dX4_enough_98 (lv_at hl 5 rfl) ?_
                    refine lv_iload X.1 X.2.1 dX4_enough_100 (lv_at hl 6 rfl) ?_
                    refine z_ic_ge (tgt := 147) X ⟨by omega, by omega⟩ ⟨by omega, by omega⟩ dX4_enough_102 (by decide) (fun c_102 => ?_) (fun c_102 => ?_)
                    · refine lv_iload X.1 X.2.1 dX4_enough_147 (lv_at hl 6 rfl) ?_
                      have e9 : q_enough A ph px po pn pv = (hi_, A, ph) := by
                                        have hx : fnd (pEnough A px po pn pv) 0 201 = hi_.toNat := fnd_min (Nat.zero_le _) (by omega) (fun j _ b => by simp only [pEnough, decide_eq_true_eq]; have := hlow (j : Int) (by omega) (by omega); omega) (by simp only [pEnough, decide_eq_true_eq, tnc (show 0 ≤ hi_ by omega)]; exact hhi)
                                        unfold q_enough; rw [if_neg (by omega), hx, if_neg (by omega), tnc (by omega)]
                      exact ret _ _ _ _ _ (((iv (ik)), fd), ((hk), (nk), (k1, k2, k3, k4, k5, k6, k7, k8, k9)), ((iv (hr A)), (iv (pe A)), (xs, xi, xk, xc, xl, xr, xb, yl, yr)), ((th), (tm), (g1, g2, g3, g4, g5, g6, g7, g8, g9)), ((iv (tn)), (e1), (e2), (e3), (e4), tp), ((iv (bq 0)), (iv (sq 0)), c0), ((iv (bq 1)), (iv (sq 1)), c1), ((iv (bq 2)), (iv (sq 2)), c2), ((iv (bq 3)), (iv (sq 3)), c3)) h (by rw [e9]; exact ⟨rfl, ⟨rfl, rfl, hR, hI, hr9⟩, hK, hF, hT, hB⟩) dX4_enough_149
                    · refine lv_iload X.1 X.2.1 dX4_enough_105 (lv_at hl 5 rfl) ?_
                      refine lv_iload X.1 X.2.1 dX4_enough_107 (lv_at hl 6 rfl) ?_
                      refine z_iadd X dX4_enough_109 ?_
                      refine z_iconst X dX4_enough_110 ?_
                      refine z_idiv X (by omega) (by omega) (by omega) (by omega) dX4_enough_111 ?_
                      refine lv_istore (lv' := [(8, .int (iv ((lo_ + hi_) / (2)))), (0, .ref (a 0)), (1, .int (iv (px))), (2, .int (iv (po))), (3, .int (iv (pn))), (4, .int (iv (pv))), (5, .int (iv (lo_))), (6, .int (iv (hi_))), (7, .int (iv (i)))]) X.1 X.2.1 dX4_enough_112 hl (by decide) rfl (fun ls hl => ?_)
                      refine lv_aload_n X.1 X.2.1 dX4_enough_114 rfl (lv_at hl 1 rfl) ?_
                      refine lv_iload_n X.1 X.2.1 dX4_enough_115 rfl (lv_at hl 2 rfl) ?_
                      refine lv_iload X.1 X.2.1 dX4_enough_116 (lv_at hl 0 rfl) ?_
                      refine lv_iload_n X.1 X.2.1 dX4_enough_118 rfl (lv_at hl 3 rfl) ?_
                      refine lv_iload_n X.1 X.2.1 dX4_enough_119 rfl (lv_at hl 4 rfl) ?_
                      refine z_ai h (run_V (rest := []) X h (c_X4_brownWith (px := px) (lf := ((lo_ + hi_) / (2))) (po := po) (pn := pn) hR hI (by omega) (by omega) (by omega) (by omega) (by omega) (by omega) (by omega) (by omega) (by omega)) mi_X4_brownWith ml_X4_166 ⟨Nat.le_of_ble_eq_true rfl, Nat.le_of_ble_eq_true rfl⟩ ⟨rfl, rfl⟩ (Seg.rfl' _) 3 0 rfl rfl rfl rfl hl.1 rfl (Nat.le_of_ble_eq_true rfl) ⟨Nat.zero_le _, Nat.zero_le _⟩ dX4_enough_120) (fun _ => map_app rfl (map_app rfl (map_app rfl (map_app (wS_map _ _ _ _ _ _ _ _) rfl)))) (fun r u H locs hp h => ?_)
                      obtain ⟨th5, tm5, r0_5, r1_5, r2_5, r3_5, r4_5, r5_5, r6_5, r7_5, r8_5⟩ := u
                      subst hp
                      have h : St E _ s H locs (wO E a k b t x q ((iv (ik))) fd ++ (wS E k ((hk)) ((nk)) (k1, k2, k3, k4, k5, k6, k7, k8, k9) ++ (wS E b ((iv (hr A))) ((iv (pe A))) (xs, xi, xk, xc, xl, xr, xb, yl, yr) ++ (wS E t ((th5)) ((tm5)) (r0_5, r1_5, r2_5, r3_5, r4_5, r5_5, r6_5, r7_5, r8_5) ++ (wX E x ((iv (tn))) ((e1)) ((e2)) ((e3)) ((e4)) tp ++ (wH E (q 0) ((iv (bq 0))) ((iv (sq 0))) c0 ++ (wH E (q 1) ((iv (bq 1))) ((iv (sq 1))) c1 ++ (wH E (q 2) ((iv (bq 2))) ((iv (sq 2))) c2 ++ (wH E (q 3) ((iv (bq 3))) ((iv (sq 3))) c3 ++ []))))))))) := h
                      have bw5 := brnn_rng (IA_pu hI (w := 2) (p := px) (v := ((lo_ + hi_) / (2))) (by omega) (by omega) (Or.inr (Or.inl ⟨Or.inl rfl, by omega, by omega⟩))) pn.toNat (p := po) (by omega) (show po < pe A by omega)
                      refine lv_iload X.1 X.2.1 dX4_enough_123 (lv_at hl 5 rfl) ?_
                      refine z_ic_lt (tgt := 135) X ⟨by omega, by omega⟩ r_pv dX4_enough_125 (by decide) (fun c_125 => ?_) (fun c_125 => ?_)
                      · refine lv_iload X.1 X.2.1 dX4_enough_135 (lv_at hl 0 rfl) ?_
                        refine z_iconst X dX4_enough_137 ?_
                        refine z_iadd X dX4_enough_138 ?_
                        refine lv_istore (lv' := [(5, .int (iv ((lo_ + hi_) / (2) + 1))), (8, .int (iv ((lo_ + hi_) / (2)))), (0, .ref (a 0)), (1, .int (iv (px))), (2, .int (iv (po))), (3, .int (iv (pn))), (4, .int (iv (pv))), (6, .int (iv (hi_))), (7, .int (iv (i)))]) X.1 X.2.1 dX4_enough_139 hl (by decide) rfl (fun ls hl => ?_)
                        refine z_iinc (k := 8) (lv' := [(7, .int (iv (i + 1))), (5, .int (iv ((lo_ + hi_) / (2) + 1))), (8, .int (iv ((lo_ + hi_) / (2)))), (0, .ref (a 0)), (1, .int (iv (px))), (2, .int (iv (po))), (3, .int (iv (pn))), (4, .int (iv (pv))), (6, .int (iv (hi_)))]) X dX4_enough_141 hl rfl (by decide) rfl (fun ls hl => ?_)
                        refine lv_goto (tgt := 90) X.1 X.2.1 dX4_enough_144 (by decide) ?_
                        exact ih_90 (i + 1) ((lo_ + hi_) / (2) + 1) (hi_) ((th5)) ((tm5)) (r0_5) (r1_5) (r2_5) (r3_5) (r4_5) (r5_5) (r6_5) (r7_5) (r8_5) (by omega) (by omega) (by omega) (by omega) (by omega) (fun j j0 j1 => by have := en_mono hI (x := px) (o := po) (n := pn) (k := j) (k' := (lo_ + hi_) / 2) (by omega) (by omega) (by omega) (by omega) j0 (by omega) (by omega); omega) (hhi) (by omega) _ _ h ls (lv_sub hl [3, 4, 5, 6, 7, 1, 8, 0] rfl)
                      · refine lv_iload X.1 X.2.1 dX4_enough_128 (lv_at hl 0 rfl) ?_
                        refine lv_istore (lv' := [(6, .int (iv ((lo_ + hi_) / (2)))), (8, .int (iv ((lo_ + hi_) / (2)))), (0, .ref (a 0)), (1, .int (iv (px))), (2, .int (iv (po))), (3, .int (iv (pn))), (4, .int (iv (pv))), (5, .int (iv (lo_))), (7, .int (iv (i)))]) X.1 X.2.1 dX4_enough_130 hl (by decide) rfl (fun ls hl => ?_)
                        refine lv_goto (tgt := 141) X.1 X.2.1 dX4_enough_132 (by decide) ?_
                        refine z_iinc (k := 8) (lv' := [(7, .int (iv (i + 1))), (6, .int (iv ((lo_ + hi_) / (2)))), (8, .int (iv ((lo_ + hi_) / (2)))), (0, .ref (a 0)), (1, .int (iv (px))), (2, .int (iv (po))), (3, .int (iv (pn))), (4, .int (iv (pv))), (5, .int (iv (lo_)))]) X dX4_enough_141 hl rfl (by decide) rfl (fun ls hl => ?_)
                        refine lv_goto (tgt := 90) X.1 X.2.1 dX4_enough_144 (by decide) ?_
                        exact ih_90 (i + 1) (lo_) ((lo_ + hi_) / (2)) ((th5)) ((tm5)) (r0_5) (r1_5) (r2_5) (r3_5) (r4_5) (r5_5) (r6_5) (r7_5) (r8_5) (by omega) (by omega) (by omega) (by omega) (by omega) (hlow) ((show pv ≤ brn (stepn (pu A 2 px ((lo_ + hi_) / 2)) pn.toNat) po by omega)) (by omega) _ _ h ls (lv_sub hl [3, 4, 5, 6, 7, 8, 1, 0] rfl)
              exact L90 ((200 - (0) + 1 : Int).toNat + 1) (0) (0) (200) ((th4)) ((tm4)) (r0_4) (r1_4) (r2_4) (r3_4) (r4_4) (r5_4) (r6_4) (r7_4) (r8_4) (by omega) (by omega) (by omega) (by omega) (by omega) (fun j a b => absurd b (by omega)) ((show pv ≤ brn (stepn (pu A 2 px 200) pn.toNat) po by omega)) (by omega) _ _ h ls (lv_sub hl [3, 4, 5, 6, 7, 2, 1, 0] rfl)
            · refine lv_aload_n X.1 X.2.1 dX4_enough_72 rfl (lv_at hl 0 rfl) ?_
              refine z_ldc (z := (-1000000004)) X ct_X4_156 (by decide) dX4_enough_73 ?_
              refine z_wi (st_sing (st_nil h)) (run_V (rest := []) X (st_sing (st_nil h)) (c_X4_finding (j := 3) hF (by decide) (by decide) (by decide)) mi_X4_finding ml_X4_49 ⟨Nat.le_of_ble_eq_true rfl, Nat.le_of_ble_eq_true rfl⟩ ⟨rfl, rfl⟩ (Seg.mk' _ _) 3 0 rfl rfl rfl rfl hl.1 rfl (Nat.le_of_ble_eq_true rfl) ⟨Nat.zero_le _, Nat.zero_le _⟩ dX4_enough_75) (fun _ => map_app (wO_map _ _ _ _ _ _ _ _ _ _ _) rfl) (fun r fd6 H locs hp h => ?_)
              have h := (st_lin (st_gnis h))
              obtain ⟨rfl, hF6⟩ := hp
              have h : St E _ s H locs (wO E a k b t x q ((iv (ik))) fd6 ++ (wS E k ((hk)) ((nk)) (k1, k2, k3, k4, k5, k6, k7, k8, k9) ++ (wS E b ((iv (hr A))) ((iv (pe A))) (xs, xi, xk, xc, xl, xr, xb, yl, yr) ++ (wS E t ((th4)) ((tm4)) (r0_4, r1_4, r2_4, r3_4, r4_4, r5_4, r6_4, r7_4, r8_4) ++ (wX E x ((iv (tn))) ((e1)) ((e2)) ((e3)) ((e4)) tp ++ (wH E (q 0) ((iv (bq 0))) ((iv (sq 0))) c0 ++ (wH E (q 1) ((iv (bq 1))) ((iv (sq 1))) c1 ++ (wH E (q 2) ((iv (bq 2))) ((iv (sq 2))) c2 ++ (wH E (q 3) ((iv (bq 3))) ((iv (sq 3))) c3 ++ []))))))))) := h
              have e9 : q_enough A ph px po pn pv = ((-1000000004), A, (bump ph 3)) := by
                                        have hx : fnd (pEnough A px po pn pv) 0 201 = 0 + 201 := fnd_none (fun j _ b => by simp only [pEnough, decide_eq_true_eq]; have := en_mono hI (x := px) (o := po) (n := pn) (k := (j : Int)) (k' := 200) (by omega) (by omega) (by omega) (by omega) (by omega) (by omega) (by omega); omega)
                                        unfold q_enough; rw [if_neg (by omega), hx, if_pos (by omega)]; rfl
              exact ret _ _ _ _ _ (((iv (ik)), fd6), ((hk), (nk), (k1, k2, k3, k4, k5, k6, k7, k8, k9)), ((iv (hr A)), (iv (pe A)), (xs, xi, xk, xc, xl, xr, xb, yl, yr)), ((th4), (tm4), (r0_4, r1_4, r2_4, r3_4, r4_4, r5_4, r6_4, r7_4, r8_4)), ((iv (tn)), (e1), (e2), (e3), (e4), tp), ((iv (bq 0)), (iv (sq 0)), c0), ((iv (bq 1)), (iv (sq 1)), c1), ((iv (bq 2)), (iv (sq 2)), c2), ((iv (bq 3)), (iv (sq 3)), c3)) h (by rw [e9]; exact ⟨rfl, ⟨rfl, rfl, hR, hI, hr9⟩, hK, hF6, hT, hB⟩) dX4_enough_78
          · refine lv_aload_n X.1 X.2.1 dX4_enough_50 rfl (lv_at hl 0 rfl) ?_
            refine z_ldc (z := (-1000000001)) X ct_X4_48 (by decide) dX4_enough_51 ?_
            refine z_wi (st_sing (st_nil h)) (run_V (rest := []) X (st_sing (st_nil h)) (c_X4_finding (j := 0) hF (by decide) (by decide) (by decide)) mi_X4_finding ml_X4_49 ⟨Nat.le_of_ble_eq_true rfl, Nat.le_of_ble_eq_true rfl⟩ ⟨rfl, rfl⟩ (Seg.mk' _ _) 3 0 rfl rfl rfl rfl hl.1 rfl (Nat.le_of_ble_eq_true rfl) ⟨Nat.zero_le _, Nat.zero_le _⟩ dX4_enough_53) (fun _ => map_app (wO_map _ _ _ _ _ _ _ _ _ _ _) rfl) (fun r fd7 H locs hp h => ?_)
            have h := (st_lin (st_gnis h))
            obtain ⟨rfl, hF7⟩ := hp
            have h : St E _ s H locs (wO E a k b t x q ((iv (ik))) fd7 ++ (wS E k ((hk)) ((nk)) (k1, k2, k3, k4, k5, k6, k7, k8, k9) ++ (wS E b ((iv (hr A))) ((iv (pe A))) (xs, xi, xk, xc, xl, xr, xb, yl, yr) ++ (wS E t ((ht)) ((nt)) (t1, t2, t3, t4, t5, t6, t7, t8, t9) ++ (wX E x ((iv (tn))) ((e1)) ((e2)) ((e3)) ((e4)) tp ++ (wH E (q 0) ((iv (bq 0))) ((iv (sq 0))) c0 ++ (wH E (q 1) ((iv (bq 1))) ((iv (sq 1))) c1 ++ (wH E (q 2) ((iv (bq 2))) ((iv (sq 2))) c2 ++ (wH E (q 3) ((iv (bq 3))) ((iv (sq 3))) c3 ++ []))))))))) := h
            have e9 : q_enough A ph px po pn pv = ((-1000000001), A, (bump ph 0)) := by unfold q_enough; (repeat (first | rw [if_pos (by omega)] | rw [if_neg (by omega)])); try rfl
            exact ret _ _ _ _ _ (((iv (ik)), fd7), ((hk), (nk), (k1, k2, k3, k4, k5, k6, k7, k8, k9)), ((iv (hr A)), (iv (pe A)), (xs, xi, xk, xc, xl, xr, xb, yl, yr)), ((ht), (nt), (t1, t2, t3, t4, t5, t6, t7, t8, t9)), ((iv (tn)), (e1), (e2), (e3), (e4), tp), ((iv (bq 0)), (iv (sq 0)), c0), ((iv (bq 1)), (iv (sq 1)), c1), ((iv (bq 2)), (iv (sq 2)), c2), ((iv (bq 3)), (iv (sq 3)), c3)) h (by rw [e9]; exact ⟨rfl, ⟨rfl, rfl, hR, hI, hr9⟩, hK, hF7, hT, hB⟩) dX4_enough_56
      · refine lv_aload_n X.1 X.2.1 dX4_enough_21 rfl (lv_at hl 0 rfl) ?_
        refine z_ldc (z := (-1000000001)) X ct_X4_48 (by decide) dX4_enough_22 ?_
        refine z_wi (st_sing (st_nil h)) (run_V (rest := []) X (st_sing (st_nil h)) (c_X4_finding (j := 0) hF (by decide) (by decide) (by decide)) mi_X4_finding ml_X4_49 ⟨Nat.le_of_ble_eq_true rfl, Nat.le_of_ble_eq_true rfl⟩ ⟨rfl, rfl⟩ (Seg.mk' _ _) 3 0 rfl rfl rfl rfl hl.1 rfl (Nat.le_of_ble_eq_true rfl) ⟨Nat.zero_le _, Nat.zero_le _⟩ dX4_enough_24) (fun _ => map_app (wO_map _ _ _ _ _ _ _ _ _ _ _) rfl) (fun r fd8 H locs hp h => ?_)
        have h := (st_lin (st_gnis h))
        obtain ⟨rfl, hF8⟩ := hp
        have h : St E _ s H locs (wO E a k b t x q ((iv (ik))) fd8 ++ (wS E k ((hk)) ((nk)) (k1, k2, k3, k4, k5, k6, k7, k8, k9) ++ (wS E b ((iv (hr A))) ((iv (pe A))) (xs, xi, xk, xc, xl, xr, xb, yl, yr) ++ (wS E t ((ht)) ((nt)) (t1, t2, t3, t4, t5, t6, t7, t8, t9) ++ (wX E x ((iv (tn))) ((e1)) ((e2)) ((e3)) ((e4)) tp ++ (wH E (q 0) ((iv (bq 0))) ((iv (sq 0))) c0 ++ (wH E (q 1) ((iv (bq 1))) ((iv (sq 1))) c1 ++ (wH E (q 2) ((iv (bq 2))) ((iv (sq 2))) c2 ++ (wH E (q 3) ((iv (bq 3))) ((iv (sq 3))) c3 ++ []))))))))) := h
        have e9 : q_enough A ph px po pn pv = ((-1000000001), A, (bump ph 0)) := by unfold q_enough; (repeat (first | rw [if_pos (by omega)] | rw [if_neg (by omega)])); try rfl
        exact ret _ _ _ _ _ (((iv (ik)), fd8), ((hk), (nk), (k1, k2, k3, k4, k5, k6, k7, k8, k9)), ((iv (hr A)), (iv (pe A)), (xs, xi, xk, xc, xl, xr, xb, yl, yr)), ((ht), (nt), (t1, t2, t3, t4, t5, t6, t7, t8, t9)), ((iv (tn)), (e1), (e2), (e3), (e4), tp), ((iv (bq 0)), (iv (sq 0)), c0), ((iv (bq 1)), (iv (sq 1)), c1), ((iv (bq 2)), (iv (sq 2)), c2), ((iv (bq 3)), (iv (sq 3)), c3)) h (by rw [e9]; exact ⟨rfl, ⟨rfl, rfl, hR, hI, hr9⟩, hK, hF8, hT, hB⟩) dX4_enough_27
