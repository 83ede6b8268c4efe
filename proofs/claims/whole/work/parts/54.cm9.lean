variable {E : EV} {l : Launch} {a k b t x : Nat → Nat} {q : Nat → Nat → Nat} {fd k1 k2 k3 k4 k5 k6 k7 k8 k9 xs xi xk xc xl xr xb yl yr t1 t2 t3 t4 t5 t6 t7 t8 t9 tp : Nat → Int32} {hk nk ht nt e1 e2 e3 e4 v0 : Int32} {c0 c1 c2 c3 : Nat → Int64} {A K : Es} {ph tq bq sq : Int → Int} {cq : Int → Int → Int64} {ik tn : Int}
set_option maxHeartbeats 4000000 in
theorem c_J6_bitCount_0f7a4 {x9 : Int32} {c9 : Int} (hc9 : bcx x9 = iv c9) : MP E l yJ6_bitCount_0f7a4 cJ6_bitCount_0f7a4 1 (some FieldType.int) (rmk 0 0) ([]) [.int (x9)] (c9) := by
  refine goP (by decide) (Nat.le_of_ble_eq_true rfl) ?_
  intro pp e s m below meth c ls args Q ret X h hl
  have hl : lv_has ls 1 [(0, .int (x9))] := hl
  refine lv_iload_n X.1 X.2.1 dJ6_bitCount_0f7a4_0 rfl (lv_at hl 0 rfl) ?_
  refine lv_iload_n X.1 X.2.1 dJ6_bitCount_0f7a4_1 rfl (lv_at hl 0 rfl) ?_
  refine z_iconst X dJ6_bitCount_0f7a4_2 ?_
  refine lv_iushr (v := ((x9).toUInt32 >>> ((iv (1)).toUInt32 &&& Int32.toUInt32 31)).toInt32) X.1 X.2.1 dJ6_bitCount_0f7a4_3 rfl ?_
  refine lv_ldcw X.1 X.2.1 X.2.2.2.1 (X.2.2.2.2.1 _ ct_J6_265) dJ6_bitCount_0f7a4_4 ?_
  refine lv_iand X.1 X.2.1 dJ6_bitCount_0f7a4_7 ?_
  refine lv_isub X.1 X.2.1 dJ6_bitCount_0f7a4_8 ?_
  refine W.eq (g2 := F0 m 9 ls [.int (bc1 x9)]) rfl ?_
  refine lv_istore_n (lv' := [(0, .int (bc1 x9))]) X.1 X.2.1 dJ6_bitCount_0f7a4_9 rfl hl (by decide) rfl (fun ls hl => ?_)
  refine lv_iload_n X.1 X.2.1 dJ6_bitCount_0f7a4_10 rfl (lv_at hl 0 rfl) ?_
  refine lv_ldcw X.1 X.2.1 X.2.2.2.1 (X.2.2.2.2.1 _ ct_J6_266) dJ6_bitCount_0f7a4_11 ?_
  refine lv_iand X.1 X.2.1 dJ6_bitCount_0f7a4_14 ?_
  refine lv_iload_n X.1 X.2.1 dJ6_bitCount_0f7a4_15 rfl (lv_at hl 0 rfl) ?_
  refine z_iconst X dJ6_bitCount_0f7a4_16 ?_
  refine lv_iushr (v := ((bc1 x9).toUInt32 >>> ((iv (2)).toUInt32 &&& Int32.toUInt32 31)).toInt32) X.1 X.2.1 dJ6_bitCount_0f7a4_17 rfl ?_
  refine lv_ldcw X.1 X.2.1 X.2.2.2.1 (X.2.2.2.2.1 _ ct_J6_266) dJ6_bitCount_0f7a4_18 ?_
  refine lv_iand X.1 X.2.1 dJ6_bitCount_0f7a4_21 ?_
  refine lv_iadd X.1 X.2.1 dJ6_bitCount_0f7a4_22 ?_
  refine W.eq (g2 := F0 m 23 ls [.int (bc2 (bc1 x9))]) rfl ?_
  refine lv_istore_n (lv' := [(0, .int (bc2 (bc1 x9)))]) X.1 X.2.1 dJ6_bitCount_0f7a4_23 rfl hl (by decide) rfl (fun ls hl => ?_)
  refine lv_iload_n X.1 X.2.1 dJ6_bitCount_0f7a4_24 rfl (lv_at hl 0 rfl) ?_
  refine lv_iload_n X.1 X.2.1 dJ6_bitCount_0f7a4_25 rfl (lv_at hl 0 rfl) ?_
  refine z_iconst X dJ6_bitCount_0f7a4_26 ?_
  refine lv_iushr (v := ((bc2 (bc1 x9)).toUInt32 >>> ((iv (4)).toUInt32 &&& Int32.toUInt32 31)).toInt32) X.1 X.2.1 dJ6_bitCount_0f7a4_27 rfl ?_
  refine lv_iadd X.1 X.2.1 dJ6_bitCount_0f7a4_28 ?_
  refine lv_ldcw X.1 X.2.1 X.2.2.2.1 (X.2.2.2.2.1 _ ct_J6_267) dJ6_bitCount_0f7a4_29 ?_
  refine lv_iand X.1 X.2.1 dJ6_bitCount_0f7a4_32 ?_
  refine W.eq (g2 := F0 m 33 ls [.int (bc3 (bc2 (bc1 x9)))]) rfl ?_
  refine lv_istore_n (lv' := [(0, .int (bc3 (bc2 (bc1 x9))))]) X.1 X.2.1 dJ6_bitCount_0f7a4_33 rfl hl (by decide) rfl (fun ls hl => ?_)
  refine lv_iload_n X.1 X.2.1 dJ6_bitCount_0f7a4_34 rfl (lv_at hl 0 rfl) ?_
  refine lv_iload_n X.1 X.2.1 dJ6_bitCount_0f7a4_35 rfl (lv_at hl 0 rfl) ?_
  refine z_bipush X (by decide) dJ6_bitCount_0f7a4_36 ?_
  refine lv_iushr (v := ((bc3 (bc2 (bc1 x9))).toUInt32 >>> ((iv (8)).toUInt32 &&& Int32.toUInt32 31)).toInt32) X.1 X.2.1 dJ6_bitCount_0f7a4_38 rfl ?_
  refine lv_iadd X.1 X.2.1 dJ6_bitCount_0f7a4_39 ?_
  refine W.eq (g2 := F0 m 40 ls [.int (bc4 (bc3 (bc2 (bc1 x9))))]) rfl ?_
  refine lv_istore_n (lv' := [(0, .int (bc4 (bc3 (bc2 (bc1 x9)))))]) X.1 X.2.1 dJ6_bitCount_0f7a4_40 rfl hl (by decide) rfl (fun ls hl => ?_)
  refine lv_iload_n X.1 X.2.1 dJ6_bitCount_0f7a4_41 rfl (lv_at hl 0 rfl) ?_
  refine lv_iload_n X.1 X.2.1 dJ6_bitCount_0f7a4_42 rfl (lv_at hl 0 rfl) ?_
  refine z_bipush X (by decide) dJ6_bitCount_0f7a4_43 ?_
  refine lv_iushr (v := ((bc4 (bc3 (bc2 (bc1 x9)))).toUInt32 >>> ((iv (16)).toUInt32 &&& Int32.toUInt32 31)).toInt32) X.1 X.2.1 dJ6_bitCount_0f7a4_45 rfl ?_
  refine lv_iadd X.1 X.2.1 dJ6_bitCount_0f7a4_46 ?_
  refine W.eq (g2 := F0 m 47 ls [.int (bc5 (bc4 (bc3 (bc2 (bc1 x9)))))]) rfl ?_
  refine lv_istore_n (lv' := [(0, .int (bc5 (bc4 (bc3 (bc2 (bc1 x9))))))]) X.1 X.2.1 dJ6_bitCount_0f7a4_47 rfl hl (by decide) rfl (fun ls hl => ?_)
  refine lv_iload_n X.1 X.2.1 dJ6_bitCount_0f7a4_48 rfl (lv_at hl 0 rfl) ?_
  refine z_bipush X (by decide) dJ6_bitCount_0f7a4_49 ?_
  refine lv_iand X.1 X.2.1 dJ6_bitCount_0f7a4_51 ?_
  refine W.eq (g2 := F0 m 52 ls [.int (iv c9)]) (by rw [← hc9]; rfl) ?_
  exact ret _ _ _ rfl dJ6_bitCount_0f7a4_52

set_option maxHeartbeats 4000000 in
theorem c_X4_count (hS : RepC (((iv (ik)), fd), ((hk), (nk), (k1, k2, k3, k4, k5, k6, k7, k8, k9)), ((iv (hr A)), (iv (pe A)), (xs, xi, xk, xc, xl, xr, xb, yl, yr)), ((ht), (nt), (t1, t2, t3, t4, t5, t6, t7, t8, t9)), ((iv (tn)), (e1), (e2), (e3), (e4), tp), ((iv (bq 0)), (iv (sq 0)), c0), ((iv (bq 1)), (iv (sq 1)), c1), ((iv (bq 2)), (iv (sq 2)), c2), ((iv (bq 3)), (iv (sq 3)), c3)) (A, K, ik, ph, tq, tn, bq, sq, cq)) {pw : Int} (r_pw : r32 pw) : MI (S := Tc) E l yX4_count cX4_count 2 (some FieldType.int) (rmk 2 44) (wO E a k b t x q ((iv (ik))) fd ++ (wS E k ((hk)) ((nk)) (k1, k2, k3, k4, k5, k6, k7, k8, k9) ++ (wS E b ((iv (hr A))) ((iv (pe A))) (xs, xi, xk, xc, xl, xr, xb, yl, yr) ++ (wS E t ((ht)) ((nt)) (t1, t2, t3, t4, t5, t6, t7, t8, t9) ++ (wX E x ((iv (tn))) ((e1)) ((e2)) ((e3)) ((e4)) tp ++ (wH E (q 0) ((iv (bq 0))) ((iv (sq 0))) c0 ++ (wH E (q 1) ((iv (bq 1))) ((iv (sq 1))) c1 ++ (wH E (q 2) ((iv (bq 2))) ((iv (sq 2))) c2 ++ (wH E (q 3) ((iv (bq 3))) ((iv (sq 3))) c3 ++ []))))))))) [.ref (a 0), .int (iv (pw))] (fun r u => r = iv ((q_count A tn ph pw).1) ∧ RepC u (A, K, ik, (q_count A tn ph pw).2, tq, tn, bq, sq, cq)) (fun u => wT E a k b t x q u) := by
  refine goI (S := Tc) (post := fun r u => r = iv ((q_count A tn ph pw).1) ∧ RepC u (A, K, ik, (q_count A tn ph pw).2, tq, tn, bq, sq, cq)) (ws' := fun u => wT E a k b t x q u) (by decide) (Nat.le_of_ble_eq_true rfl) ?_
  intro pp e s m below meth c ls args Q ret X h hl
  have hl : lv_has ls 2 [(0, .ref (a 0)), (1, .int (iv (pw)))] := hl
  have hR : RS (xs, xi, xk, xc, xl, xr, xb, yl, yr) A := hS.1.2.2.1
  have hI : IA A := hS.1.2.2.2.1
  have hr9 : hr A ≤ 99999 := hS.1.2.2.2.2
  have hF : RF 7 fd ph := hS.2.2.1
  have hK := hS.2.1
  have hT := hS.2.2.2.1
  have hB := hS.2.2.2.2
  have hh : hr A < 1000000 := by omega
  have n8 := hI.n8
  have n0 := hI.n0
  have h0 := hI.h0
  have ht0 : 0 ≤ tn := hS.2.2.2.1.2.1
  have ht1 : tn ≤ 120 := hS.2.2.2.1.2.2.1
  have hk01 : ik = 0 ∨ ik = 1 := hS.2.1.2.1
  have hB3 : okB bq sq := hS.2.2.2.2.1
  have hH0 : RepH (iv (bq 0), iv (sq 0), c0) bq sq cq 0 := hS.2.2.2.2.2.1
  have hH1 : RepH (iv (bq 1), iv (sq 1), c1) bq sq cq 1 := hS.2.2.2.2.2.2.1
  have hH2 : RepH (iv (bq 2), iv (sq 2), c2) bq sq cq 2 := hS.2.2.2.2.2.2.2.1
  have hH3 : RepH (iv (bq 3), iv (sq 3), c3) bq sq cq 3 := hS.2.2.2.2.2.2.2.2
  refine lv_iload_n X.1 X.2.1 dX4_count_0 rfl (lv_at hl 1 rfl) ?_
  rcases (show pw = 0 ∨ pw = 1 ∨ pw = 2 ∨ pw = 3 ∨ (pw < 0 ∨ 3 < pw) by omega) with c_1 | c_1 | c_1 | c_1 | c_1
  · refine z_tabIn (tgt := 32) X 0 c_1 ⟨by decide, by decide⟩ (by decide) (by decide) dX4_count_1 rfl (by decide) ?_
    refine lv_aload_n X.1 X.2.1 dX4_count_32 rfl (lv_at hl 0 rfl) ?_
    refine z_get X h 3 0 0 rfl inX4 rfl (by decide) fl_X4_10 rfl dX4_count_33 ?_
    refine z_get X h 1 13 1 rfl inX1 rfl (by decide) fl_X4_86 rfl dX4_count_36 ?_
    have e9 : q_count A tn ph pw = (pe A, ph) := by unfold q_count; (repeat (first | rw [if_pos (by omega)] | rw [if_neg (by omega)])); try rfl
    exact ret _ _ _ _ _ (((iv (ik)), fd), ((hk), (nk), (k1, k2, k3, k4, k5, k6, k7, k8, k9)), ((iv (hr A)), (iv (pe A)), (xs, xi, xk, xc, xl, xr, xb, yl, yr)), ((ht), (nt), (t1, t2, t3, t4, t5, t6, t7, t8, t9)), ((iv (tn)), (e1), (e2), (e3), (e4), tp), ((iv (bq 0)), (iv (sq 0)), c0), ((iv (bq 1)), (iv (sq 1)), c1), ((iv (bq 2)), (iv (sq 2)), c2), ((iv (bq 3)), (iv (sq 3)), c3)) h (by rw [e9]; exact ⟨rfl, ⟨⟨rfl, rfl, hR, hI, hr9⟩, hK, hF, hT, hB⟩⟩) dX4_count_39
  · refine z_tabIn (tgt := 40) X 1 c_1 ⟨by decide, by decide⟩ (by decide) (by decide) dX4_count_1 rfl (by decide) ?_
    refine lv_aload_n X.1 X.2.1 dX4_count_40 rfl (lv_at hl 0 rfl) ?_
    refine z_get X h 3 0 3 rfl inX4 rfl (by decide) fl_X4_25 rfl dX4_count_41 ?_
    refine z_get X h 2 33 0 rfl inX2 rfl (by decide) fl_X4_170 rfl dX4_count_44 ?_
    have e9 : q_count A tn ph pw = (tn, ph) := by unfold q_count; (repeat (first | rw [if_pos (by omega)] | rw [if_neg (by omega)])); try rfl
    exact ret _ _ _ _ _ (((iv (ik)), fd), ((hk), (nk), (k1, k2, k3, k4, k5, k6, k7, k8, k9)), ((iv (hr A)), (iv (pe A)), (xs, xi, xk, xc, xl, xr, xb, yl, yr)), ((ht), (nt), (t1, t2, t3, t4, t5, t6, t7, t8, t9)), ((iv (tn)), (e1), (e2), (e3), (e4), tp), ((iv (bq 0)), (iv (sq 0)), c0), ((iv (bq 1)), (iv (sq 1)), c1), ((iv (bq 2)), (iv (sq 2)), c2), ((iv (bq 3)), (iv (sq 3)), c3)) h (by rw [e9]; exact ⟨rfl, ⟨⟨rfl, rfl, hR, hI, hr9⟩, hK, hF, hT, hB⟩⟩) dX4_count_47
  · refine z_tabIn (tgt := 48) X 2 c_1 ⟨by decide, by decide⟩ (by decide) (by decide) dX4_count_1 rfl (by decide) ?_
    refine lv_aload_n X.1 X.2.1 dX4_count_48 rfl (lv_at hl 0 rfl) ?_
    refine z_get X h 3 0 0 rfl inX4 rfl (by decide) fl_X4_10 rfl dX4_count_49 ?_
    refine z_pi (run_V (rest := []) X (st_in (st_in (st_nil h))) (c_X1_setOfSitters hR hI) mi_X1_setOfSitters ml_X4_70 ⟨Nat.le_of_ble_eq_true rfl, Nat.le_of_ble_eq_true rfl⟩ ⟨rfl, rfl⟩ (Seg.mk' _ _) 1 13 rfl rfl rfl rfl hl.1 rfl (Nat.le_of_ble_eq_true rfl) ⟨Nat.zero_le _, Nat.zero_le _⟩ dX4_count_52) ?_
    refine z_pi (run_S (rest := []) X h (c_J6_bitCount_0f7a4 (c9 := cntS A) (by unfold setS cntS; rw [iv_of]; exact bc_cnt (sitB A) _ (by omega))) mi_J6_bitCount_0f7a4 ml_X4_224 ⟨Nat.le_of_ble_eq_true rfl, Nat.le_of_ble_eq_true rfl⟩ ⟨rfl, rfl⟩ (Seg.nil _) rfl hl.1 rfl (Nat.le_of_ble_eq_true rfl) ⟨Nat.zero_le _, Nat.zero_le _⟩ dX4_count_55) ?_
    have e9 : q_count A tn ph pw = (cntS A, ph) := by unfold q_count; (repeat (first | rw [if_pos (by omega)] | rw [if_neg (by omega)])); try rfl
    exact ret _ _ _ _ _ (((iv (ik)), fd), ((hk), (nk), (k1, k2, k3, k4, k5, k6, k7, k8, k9)), ((iv (hr A)), (iv (pe A)), (xs, xi, xk, xc, xl, xr, xb, yl, yr)), ((ht), (nt), (t1, t2, t3, t4, t5, t6, t7, t8, t9)), ((iv (tn)), (e1), (e2), (e3), (e4), tp), ((iv (bq 0)), (iv (sq 0)), c0), ((iv (bq 1)), (iv (sq 1)), c1), ((iv (bq 2)), (iv (sq 2)), c2), ((iv (bq 3)), (iv (sq 3)), c3)) h (by rw [e9]; exact ⟨rfl, ⟨⟨rfl, rfl, hR, hI, hr9⟩, hK, hF, hT, hB⟩⟩) dX4_count_58
  · refine z_tabIn (tgt := 59) X 3 c_1 ⟨by decide, by decide⟩ (by decide) (by decide) dX4_count_1 rfl (by decide) ?_
    refine lv_aload_n X.1 X.2.1 dX4_count_59 rfl (lv_at hl 0 rfl) ?_
    refine z_get X h 3 0 0 rfl inX4 rfl (by decide) fl_X4_10 rfl dX4_count_60 ?_
    refine z_pi (run_V (rest := []) X (st_in (st_in (st_nil h))) (c_X1_sunOfAll hR hI) mi_X1_sunOfAll ml_X4_229 ⟨Nat.le_of_ble_eq_true rfl, Nat.le_of_ble_eq_true rfl⟩ ⟨rfl, rfl⟩ (Seg.mk' _ _) 1 13 rfl rfl rfl rfl hl.1 rfl (Nat.le_of_ble_eq_true rfl) ⟨Nat.zero_le _, Nat.zero_le _⟩ dX4_count_63) ?_
    have e9 : q_count A tn ph pw = (allS A, ph) := by unfold q_count; (repeat (first | rw [if_pos (by omega)] | rw [if_neg (by omega)])); try rfl
    exact ret _ _ _ _ _ (((iv (ik)), fd), ((hk), (nk), (k1, k2, k3, k4, k5, k6, k7, k8, k9)), ((iv (hr A)), (iv (pe A)), (xs, xi, xk, xc, xl, xr, xb, yl, yr)), ((ht), (nt), (t1, t2, t3, t4, t5, t6, t7, t8, t9)), ((iv (tn)), (e1), (e2), (e3), (e4), tp), ((iv (bq 0)), (iv (sq 0)), c0), ((iv (bq 1)), (iv (sq 1)), c1), ((iv (bq 2)), (iv (sq 2)), c2), ((iv (bq 3)), (iv (sq 3)), c3)) h (by rw [e9]; exact ⟨rfl, ⟨⟨rfl, rfl, hR, hI, hr9⟩, hK, hF, hT, hB⟩⟩) dX4_count_66
  · refine z_tabOut (tgt := 67) X r_pw c_1 dX4_count_1 (by decide) ?_
    refine lv_aload_n X.1 X.2.1 dX4_count_67 rfl (lv_at hl 0 rfl) ?_
    refine z_ldc (z := (-1000000001)) X ct_X4_48 (by decide) dX4_count_68 ?_
    refine z_wi (st_sing (st_nil h)) (run_V (rest := []) X (st_sing (st_nil h)) (c_X4_finding (j := 0) hF (by decide) (by decide) (by decide)) mi_X4_finding ml_X4_49 ⟨Nat.le_of_ble_eq_true rfl, Nat.le_of_ble_eq_true rfl⟩ ⟨rfl, rfl⟩ (Seg.mk' _ _) 3 0 rfl rfl rfl rfl hl.1 rfl (Nat.le_of_ble_eq_true rfl) ⟨Nat.zero_le _, Nat.zero_le _⟩ dX4_count_70) (fun _ => map_app (wO_map _ _ _ _ _ _ _ _ _ _ _) rfl) (fun r fd1 H locs hp h => ?_)
    have h := (st_lin (st_gnis h))
    obtain ⟨rfl, hF1⟩ := hp
    have h : St E _ s H locs (wO E a k b t x q ((iv (ik))) fd1 ++ (wS E k ((hk)) ((nk)) (k1, k2, k3, k4, k5, k6, k7, k8, k9) ++ (wS E b ((iv (hr A))) ((iv (pe A))) (xs, xi, xk, xc, xl, xr, xb, yl, yr) ++ (wS E t ((ht)) ((nt)) (t1, t2, t3, t4, t5, t6, t7, t8, t9) ++ (wX E x ((iv (tn))) ((e1)) ((e2)) ((e3)) ((e4)) tp ++ (wH E (q 0) ((iv (bq 0))) ((iv (sq 0))) c0 ++ (wH E (q 1) ((iv (bq 1))) ((iv (sq 1))) c1 ++ (wH E (q 2) ((iv (bq 2))) ((iv (sq 2))) c2 ++ (wH E (q 3) ((iv (bq 3))) ((iv (sq 3))) c3 ++ []))))))))) := h
    have e9 : q_count A tn ph pw = ((-1000000001), (bump ph 0)) := by unfold q_count; (repeat (first | rw [if_pos (by omega)] | rw [if_neg (by omega)])); try rfl
    exact ret _ _ _ _ _ (((iv (ik)), fd1), ((hk), (nk), (k1, k2, k3, k4, k5, k6, k7, k8, k9)), ((iv (hr A)), (iv (pe A)), (xs, xi, xk, xc, xl, xr, xb, yl, yr)), ((ht), (nt), (t1, t2, t3, t4, t5, t6, t7, t8, t9)), ((iv (tn)), (e1), (e2), (e3), (e4), tp), ((iv (bq 0)), (iv (sq 0)), c0), ((iv (bq 1)), (iv (sq 1)), c1), ((iv (bq 2)), (iv (sq 2)), c2), ((iv (bq 3)), (iv (sq 3)), c3)) h (by rw [e9]; exact ⟨rfl, ⟨⟨rfl, rfl, hR, hI, hr9⟩, hK, hF1, hT, hB⟩⟩) dX4_count_73
