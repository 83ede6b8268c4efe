variable {E : EV} {l : Launch} {a k b t x : Nat → Nat} {q : Nat → Nat → Nat} {fd k1 k2 k3 k4 k5 k6 k7 k8 k9 xs xi xk xc xl xr xb yl yr t1 t2 t3 t4 t5 t6 t7 t8 t9 tp : Nat → Int32} {hk nk ht nt e1 e2 e3 e4 v0 : Int32} {c0 c1 c2 c3 : Nat → Int64} {A K : Es} {ph tq bq sq : Int → Int} {cq : Int → Int → Int64} {ik tn : Int}
set_option maxHeartbeats 4000000 in
theorem c_X4_write_0 (hS : RepC (((iv (ik)), fd), ((hk), (nk), (k1, k2, k3, k4, k5, k6, k7, k8, k9)), ((iv (hr A)), (iv (pe A)), (xs, xi, xk, xc, xl, xr, xb, yl, yr)), ((ht), (nt), (t1, t2, t3, t4, t5, t6, t7, t8, t9)), ((iv (tn)), (e1), (e2), (e3), (e4), tp), ((iv (bq 0)), (iv (sq 0)), c0), ((iv (bq 1)), (iv (sq 1)), c1), ((iv (bq 2)), (iv (sq 2)), c2), ((iv (bq 3)), (iv (sq 3)), c3)) (A, K, ik, ph, tq, tn, bq, sq, cq)) {pi : Int} (r_pi : r32 pi) {pv : Int64} : MIL (S := Tc) E l yX4_write cX4_write 8 (some FieldType.long) (rmk 2 44) (wO E a k b t x q ((iv (ik))) fd ++ (wS E k ((hk)) ((nk)) (k1, k2, k3, k4, k5, k6, k7, k8, k9) ++ (wS E b ((iv (hr A))) ((iv (pe A))) (xs, xi, xk, xc, xl, xr, xb, yl, yr) ++ (wS E t ((ht)) ((nt)) (t1, t2, t3, t4, t5, t6, t7, t8, t9) ++ (wX E x ((iv (tn))) ((e1)) ((e2)) ((e3)) ((e4)) tp ++ (wH E (q 0) ((iv (bq 0))) ((iv (sq 0))) c0 ++ (wH E (q 1) ((iv (bq 1))) ((iv (sq 1))) c1 ++ (wH E (q 2) ((iv (bq 2))) ((iv (sq 2))) c2 ++ (wH E (q 3) ((iv (bq 3))) ((iv (sq 3))) c3 ++ []))))))))) [.ref (a 0), .int (iv (0)), .int (iv (pi)), .long (pv)] (fun r u => r = (q_write bq sq cq ph 0 pi pv).1 ∧ RepC u (A, K, ik, (q_write bq sq cq ph 0 pi pv).2.2, tq, tn, bq, sq, (q_write bq sq cq ph 0 pi pv).2.1)) (fun u => wT E a k b t x q u) := by
  refine goIL (S := Tc) (post := fun r u => r = (q_write bq sq cq ph 0 pi pv).1 ∧ RepC u (A, K, ik, (q_write bq sq cq ph 0 pi pv).2.2, tq, tn, bq, sq, (q_write bq sq cq ph 0 pi pv).2.1)) (ws' := fun u => wT E a k b t x q u) (by decide) (Nat.le_of_ble_eq_true rfl) ?_
  intro pp e s m below meth c ls args Q ret X h hl
  have hl : lv_has ls 8 [(0, .ref (a 0)), (1, .int (iv (0))), (2, .int (iv (pi))), (3, .long (pv))] := hl
  have hR : RS (xs, xi, xk, xc, xl, xr, xb, yl, yr) A := hS.1.2.2.1
  have hI : IA A := hS.1.2.2.2.1
  have hr9 : hr A ≤ 99999 := hS.1.2.2.2.2
  have hF : RF 7 fd ph := hS.2.2.1
  have hK := hS.2.1
  have hT := hS.2.2.2.1
  have hB := hS.2.2.2.2
  have hh : hr A < 1000000 := by omega
  have n8 := hI.n8
  have n0 := hI.n0
  have h0 := hI.h0
  have ht0 : 0 ≤ tn := hS.2.2.2.1.2.1
  have ht1 : tn ≤ 120 := hS.2.2.2.1.2.2.1
  have hk01 : ik = 0 ∨ ik = 1 := hS.2.1.2.1
  have hB3 : okB bq sq := hS.2.2.2.2.1
  have hH0 : RepH (iv (bq 0), iv (sq 0), c0) bq sq cq 0 := hS.2.2.2.2.2.1
  have hH1 : RepH (iv (bq 1), iv (sq 1), c1) bq sq cq 1 := hS.2.2.2.2.2.2.1
  have hH2 : RepH (iv (bq 2), iv (sq 2), c2) bq sq cq 2 := hS.2.2.2.2.2.2.2.1
  have hH3 : RepH (iv (bq 3), iv (sq 3), c3) bq sq cq 3 := hS.2.2.2.2.2.2.2.2
  have ob0 := hB3.1 0 (by omega) (by omega)
  have zb0 := hB3.2 0 (by omega) (by omega)
  refine lv_aload_n X.1 X.2.1 dX4_write_0 rfl (lv_at hl 0 rfl) ?_
  refine lv_iload_n X.1 X.2.1 dX4_write_1 rfl (lv_at hl 1 rfl) ?_
  refine z_pq (run_V (rest := []) X h (c_sheetAt0) mi_X4_sheetAt ml_X4_184 ⟨Nat.le_of_ble_eq_true rfl, Nat.le_of_ble_eq_true rfl⟩ ⟨rfl, rfl⟩ (Seg.rfl' _) 3 0 rfl rfl rfl rfl hl.1 rfl (Nat.le_of_ble_eq_true rfl) ⟨Nat.zero_le _, Nat.zero_le _⟩ dX4_write_2) ?_
  refine W.eq (g2 := F0 m 5 ls [.ref (q 0 0)]) rfl ?_
  refine lv_astore (lv' := [(5, .ref (q 0 0)), (0, .ref (a 0)), (1, .int (iv (0))), (2, .int (iv (pi))), (3, .long (pv))]) X.1 X.2.1 dX4_write_5 hl (by decide) rfl (fun ls hl => ?_)
  refine lv_aload X.1 X.2.1 dX4_write_7 (lv_at hl 0 rfl) ?_
  refine lv_ifnonnull (tgt := 20) X.1 X.2.1 dX4_write_9 (by decide) ?_
  refine lv_aload X.1 X.2.1 dX4_write_20 (lv_at hl 0 rfl) ?_
  refine z_pi (run_V (rest := []) X (st_sing (st_in (st_in (st_in (st_in (st_in (st_nil h))))))) (c_X0_isMissing (y := q 0) (bt := bq 0) ⟨by omega, by omega⟩) mi_X0_isMissing ml_X4_193 ⟨Nat.le_of_ble_eq_true rfl, Nat.le_of_ble_eq_true rfl⟩ ⟨rfl, rfl⟩ (Seg.mk' _ _) 0 35 rfl rfl rfl rfl hl.1 rfl (Nat.le_of_ble_eq_true rfl) ⟨Nat.zero_le _, Nat.zero_le _⟩ dX4_write_22) ?_
  refine z_ifb_eq (tgt := 36) X dX4_write_25 (by decide) (fun c_25 => ?_) (fun c_25 => ?_)
  · refine lv_iload_n X.1 X.2.1 dX4_write_36 rfl (lv_at hl 3 rfl) ?_
    refine z_iconst X dX4_write_37 ?_
    refine lv_aload X.1 X.2.1 dX4_write_38 (lv_at hl 0 rfl) ?_
    refine z_get X h 0 35 1 rfl inX0 rfl (by decide) fl_X4_192 rfl dX4_write_40 ?_
    refine z_iconst X dX4_write_43 ?_
    refine z_isub X dX4_write_44 ?_
    refine z_pi (run_S (rest := []) X h (c_X4_within r_pi ⟨by decide, by decide⟩ ⟨by omega, by omega⟩) mi_X4_within ml_X4_44 ⟨Nat.le_of_ble_eq_true rfl, Nat.le_of_ble_eq_true rfl⟩ ⟨rfl, rfl⟩ (Seg.nil _) rfl hl.1 rfl (Nat.le_of_ble_eq_true rfl) ⟨Nat.zero_le _, Nat.zero_le _⟩ dX4_write_45) ?_
    refine z_ifb_ne (tgt := 59) X dX4_write_48 (by decide) (fun c_48 => ?_) (fun c_48 => ?_)
    · refine lv_aload X.1 X.2.1 dX4_write_59 (lv_at hl 0 rfl) ?_
      refine z_get X h 0 35 2 rfl inX0 rfl (by decide) fl_X4_198 rfl dX4_write_61 ?_
      refine lv_iload_n X.1 X.2.1 dX4_write_64 rfl (lv_at hl 3 rfl) ?_
      refine z_laldv (v := cq 0 pi) X h 36 rfl (by omega) (by omega) (by decide) (hH0.2.2 pi (by omega) (by omega)) dX4_write_65 ?_
      refine lv_lstore (lv' := [(6, .long (cq 0 pi)), (5, .ref (q 0 0)), (0, .ref (a 0)), (1, .int (iv (0))), (2, .int (iv (pi))), (3, .long (pv))]) X.1 X.2.1 dX4_write_66 hl (by decide) rfl (fun ls hl => ?_)
      refine lv_aload X.1 X.2.1 dX4_write_68 (lv_at hl 1 rfl) ?_
      refine lv_iload_n X.1 X.2.1 dX4_write_70 rfl (lv_at hl 4 rfl) ?_
      refine lv_lload_n X.1 X.2.1 dX4_write_71 rfl (lv_at hl 5 rfl) ?_
      refine z_wv (st_sing (st_in (st_in (st_in (st_in (st_in (st_nil h))))))) (run_V (rest := []) X (st_sing (st_in (st_in (st_in (st_in (st_in (st_nil h))))))) (c_X0_put (y := q 0) (bt := bq 0) (i9 := pi) (v9 := pv) ⟨by omega, by omega⟩ (by omega) (by omega)) mi_X0_put ml_X4_202 ⟨Nat.le_of_ble_eq_true rfl, Nat.le_of_ble_eq_true rfl⟩ ⟨rfl, rfl⟩ (Seg.mk' _ _) 0 35 rfl rfl rfl rfl hl.1 rfl (Nat.le_of_ble_eq_true rfl) ⟨Nat.zero_le _, Nat.zero_le _⟩ dX4_write_72) (fun _ => map_app (wH_map _ _ _ _ _ _ _ _) rfl) (fun u H locs hp h => ?_)
      have h := (st_lin (st_out (st_out (st_out (st_out (st_out (st_gnis h)))))))
      have h : St E _ s H locs (wO E a k b t x q ((iv (ik))) fd ++ (wS E k ((hk)) ((nk)) (k1, k2, k3, k4, k5, k6, k7, k8, k9) ++ (wS E b ((iv (hr A))) ((iv (pe A))) (xs, xi, xk, xc, xl, xr, xb, yl, yr) ++ (wS E t ((ht)) ((nt)) (t1, t2, t3, t4, t5, t6, t7, t8, t9) ++ (wX E x ((iv (tn))) ((e1)) ((e2)) ((e3)) ((e4)) tp ++ (wH E (q 0) ((iv (bq 0))) ((iv (sq 0))) (vp_updL c0 (pi : Int).toNat (cut (bq 0) (pv))) ++ (wH E (q 1) ((iv (bq 1))) ((iv (sq 1))) c1 ++ (wH E (q 2) ((iv (bq 2))) ((iv (sq 2))) c2 ++ (wH E (q 3) ((iv (bq 3))) ((iv (sq 3))) c3 ++ []))))))))) := h
      refine lv_lload X.1 X.2.1 dX4_write_75 (lv_at hl 0 rfl) ?_
      have e9 : q_write bq sq cq ph 0 pi pv = (cq 0 pi, (fu2 cq 0 pi (cut (bq 0) pv)), ph) := by unfold q_write; (repeat (first | rw [if_pos (by omega)] | rw [if_neg (by omega)])); try rfl
      exact ret _ _ _ _ _ (((iv (ik)), fd), ((hk), (nk), (k1, k2, k3, k4, k5, k6, k7, k8, k9)), ((iv (hr A)), (iv (pe A)), (xs, xi, xk, xc, xl, xr, xb, yl, yr)), ((ht), (nt), (t1, t2, t3, t4, t5, t6, t7, t8, t9)), ((iv (tn)), (e1), (e2), (e3), (e4), tp), ((iv (bq 0)), (iv (sq 0)), (vp_updL c0 (pi : Int).toNat (cut (bq 0) (pv)))), ((iv (bq 1)), (iv (sq 1)), c1), ((iv (bq 2)), (iv (sq 2)), c2), ((iv (bq 3)), (iv (sq 3)), c3)) h (by rw [e9]; exact ⟨rfl, ⟨⟨rfl, rfl, hR, hI, hr9⟩, hK, hF, hT, ⟨hB3, RepH_up hH0 (by omega), RepH_ne hH1 (by decide), RepH_ne hH2 (by decide), RepH_ne hH3 (by decide)⟩⟩⟩) dX4_write_77
    · refine lv_aload_n X.1 X.2.1 dX4_write_51 rfl (lv_at hl 1 rfl) ?_
      refine z_ldc (z := (-1000000001)) X ct_X4_48 (by decide) dX4_write_52 ?_
      refine z_wi (st_sing (st_nil h)) (run_V (rest := []) X (st_sing (st_nil h)) (c_X4_finding (j := 0) hF (by decide) (by decide) (by decide)) mi_X4_finding ml_X4_49 ⟨Nat.le_of_ble_eq_true rfl, Nat.le_of_ble_eq_true rfl⟩ ⟨rfl, rfl⟩ (Seg.mk' _ _) 3 0 rfl rfl rfl rfl hl.1 rfl (Nat.le_of_ble_eq_true rfl) ⟨Nat.zero_le _, Nat.zero_le _⟩ dX4_write_54) (fun _ => map_app (wO_map _ _ _ _ _ _ _ _ _ _ _) rfl) (fun r fd1 H locs hp h => ?_)
      have h := (st_lin (st_gnis h))
      obtain ⟨rfl, hF1⟩ := hp
      have h : St E _ s H locs (wO E a k b t x q ((iv (ik))) fd1 ++ (wS E k ((hk)) ((nk)) (k1, k2, k3, k4, k5, k6, k7, k8, k9) ++ (wS E b ((iv (hr A))) ((iv (pe A))) (xs, xi, xk, xc, xl, xr, xb, yl, yr) ++ (wS E t ((ht)) ((nt)) (t1, t2, t3, t4, t5, t6, t7, t8, t9) ++ (wX E x ((iv (tn))) ((e1)) ((e2)) ((e3)) ((e4)) tp ++ (wH E (q 0) ((iv (bq 0))) ((iv (sq 0))) c0 ++ (wH E (q 1) ((iv (bq 1))) ((iv (sq 1))) c1 ++ (wH E (q 2) ((iv (bq 2))) ((iv (sq 2))) c2 ++ (wH E (q 3) ((iv (bq 3))) ((iv (sq 3))) c3 ++ []))))))))) := h
      refine lv_i2l (v := (iv ((-1000000001))).toInt64) X.1 X.2.1 dX4_write_57 rfl ?_
      have e9 : q_write bq sq cq ph 0 pi pv = ((iv ((-1000000001))).toInt64, cq, (bump ph 0)) := by unfold q_write; (repeat (first | rw [if_pos (by omega)] | rw [if_neg (by omega)])); try rfl
      exact ret _ _ _ _ _ (((iv (ik)), fd1), ((hk), (nk), (k1, k2, k3, k4, k5, k6, k7, k8, k9)), ((iv (hr A)), (iv (pe A)), (xs, xi, xk, xc, xl, xr, xb, yl, yr)), ((ht), (nt), (t1, t2, t3, t4, t5, t6, t7, t8, t9)), ((iv (tn)), (e1), (e2), (e3), (e4), tp), ((iv (bq 0)), (iv (sq 0)), c0), ((iv (bq 1)), (iv (sq 1)), c1), ((iv (bq 2)), (iv (sq 2)), c2), ((iv (bq 3)), (iv (sq 3)), c3)) h (by rw [e9]; exact ⟨rfl, ⟨⟨rfl, rfl, hR, hI, hr9⟩, hK, hF1, hT, hB⟩⟩) dX4_write_58
  · refine lv_aload_n X.1 X.2.1 dX4_write_28 rfl (lv_at hl 1 rfl) ?_
    refine z_ldc (z := (-1000000006)) X ct_X4_197 (by decide) dX4_write_29 ?_
    refine z_wi (st_sing (st_nil h)) (run_V (rest := []) X (st_sing (st_nil h)) (c_X4_finding (j := 5) hF (by decide) (by decide) (by decide)) mi_X4_finding ml_X4_49 ⟨Nat.le_of_ble_eq_true rfl, Nat.le_of_ble_eq_true rfl⟩ ⟨rfl, rfl⟩ (Seg.mk' _ _) 3 0 rfl rfl rfl rfl hl.1 rfl (Nat.le_of_ble_eq_true rfl) ⟨Nat.zero_le _, Nat.zero_le _⟩ dX4_write_31) (fun _ => map_app (wO_map _ _ _ _ _ _ _ _ _ _ _) rfl) (fun r fd2 H locs hp h => ?_)
    have h := (st_lin (st_gnis h))
    obtain ⟨rfl, hF2⟩ := hp
    have h : St E _ s H locs (wO E a k b t x q ((iv (ik))) fd2 ++ (wS E k ((hk)) ((nk)) (k1, k2, k3, k4, k5, k6, k7, k8, k9) ++ (wS E b ((iv (hr A))) ((iv (pe A))) (xs, xi, xk, xc, xl, xr, xb, yl, yr) ++ (wS E t ((ht)) ((nt)) (t1, t2, t3, t4, t5, t6, t7, t8, t9) ++ (wX E x ((iv (tn))) ((e1)) ((e2)) ((e3)) ((e4)) tp ++ (wH E (q 0) ((iv (bq 0))) ((iv (sq 0))) c0 ++ (wH E (q 1) ((iv (bq 1))) ((iv (sq 1))) c1 ++ (wH E (q 2) ((iv (bq 2))) ((iv (sq 2))) c2 ++ (wH E (q 3) ((iv (bq 3))) ((iv (sq 3))) c3 ++ []))))))))) := h
    refine lv_i2l (v := (iv ((-1000000006))).toInt64) X.1 X.2.1 dX4_write_34 rfl ?_
    have e9 : q_write bq sq cq ph 0 pi pv = ((iv ((-1000000006))).toInt64, cq, (bump ph 5)) := by unfold q_write; (repeat (first | rw [if_pos (by omega)] | rw [if_neg (by omega)])); try rfl
    exact ret _ _ _ _ _ (((iv (ik)), fd2), ((hk), (nk), (k1, k2, k3, k4, k5, k6, k7, k8, k9)), ((iv (hr A)), (iv (pe A)), (xs, xi, xk, xc, xl, xr, xb, yl, yr)), ((ht), (nt), (t1, t2, t3, t4, t5, t6, t7, t8, t9)), ((iv (tn)), (e1), (e2), (e3), (e4), tp), ((iv (bq 0)), (iv (sq 0)), c0), ((iv (bq 1)), (iv (sq 1)), c1), ((iv (bq 2)), (iv (sq 2)), c2), ((iv (bq 3)), (iv (sq 3)), c3)) h (by rw [e9]; exact ⟨rfl, ⟨⟨rfl, rfl, hR, hI, hr9⟩, hK, hF2, hT, hB⟩⟩) dX4_write_35

set_option maxHeartbeats 4000000 in
theorem c_X4_write_1 (hS : RepC (((iv (ik)), fd), ((hk), (nk), (k1, k2, k3, k4, k5, k6, k7, k8, k9)), ((iv (hr A)), (iv (pe A)), (xs, xi, xk, xc, xl, xr, xb, yl, yr)), ((ht), (nt), (t1, t2, t3, t4, t5, t6, t7, t8, t9)), ((iv (tn)), (e1), (e2), (e3), (e4), tp), ((iv (bq 0)), (iv (sq 0)), c0), ((iv (bq 1)), (iv (sq 1)), c1), ((iv (bq 2)), (iv (sq 2)), c2), ((iv (bq 3)), (iv (sq 3)), c3)) (A, K, ik, ph, tq, tn, bq, sq, cq)) {pi : Int} (r_pi : r32 pi) {pv : Int64} : MIL (S := Tc) E l yX4_write cX4_write 8 (some FieldType.long) (rmk 2 44) (wO E a k b t x q ((iv (ik))) fd ++ (wS E k ((hk)) ((nk)) (k1, k2, k3, k4, k5, k6, k7, k8, k9) ++ (wS E b ((iv (hr A))) ((iv (pe A))) (xs, xi, xk, xc, xl, xr, xb, yl, yr) ++ (wS E t ((ht)) ((nt)) (t1, t2, t3, t4, t5, t6, t7, t8, t9) ++ (wX E x ((iv (tn))) ((e1)) ((e2)) ((e3)) ((e4)) tp ++ (wH E (q 0) ((iv (bq 0))) ((iv (sq 0))) c0 ++ (wH E (q 1) ((iv (bq 1))) ((iv (sq 1))) c1 ++ (wH E (q 2) ((iv (bq 2))) ((iv (sq 2))) c2 ++ (wH E (q 3) ((iv (bq 3))) ((iv (sq 3))) c3 ++ []))))))))) [.ref (a 0), .int (iv (1)), .int (iv (pi)), .long (pv)] (fun r u => r = (q_write bq sq cq ph 1 pi pv).1 ∧ RepC u (A, K, ik, (q_write bq sq cq ph 1 pi pv).2.2, tq, tn, bq, sq, (q_write bq sq cq ph 1 pi pv).2.1)) (fun u => wT E a k b t x q u) := by
  refine goIL (S := Tc) (post := fun r u => r = (q_write bq sq cq ph 1 pi pv).1 ∧ RepC u (A, K, ik, (q_write bq sq cq ph 1 pi pv).2.2, tq, tn, bq, sq, (q_write bq sq cq ph 1 pi pv).2.1)) (ws' := fun u => wT E a k b t x q u) (by decide) (Nat.le_of_ble_eq_true rfl) ?_
  intro pp e s m below meth c ls args Q ret X h hl
  have hl : lv_has ls 8 [(0, .ref (a 0)), (1, .int (iv (1))), (2, .int (iv (pi))), (3, .long (pv))] := hl
  have hR : RS (xs, xi, xk, xc, xl, xr, xb, yl, yr) A := hS.1.2.2.1
  have hI : IA A := hS.1.2.2.2.1
  have hr9 : hr A ≤ 99999 := hS.1.2.2.2.2
  have hF : RF 7 fd ph := hS.2.2.1
  have hK := hS.2.1
  have hT := hS.2.2.2.1
  have hB := hS.2.2.2.2
  have hh : hr A < 1000000 := by omega
  have n8 := hI.n8
  have n0 := hI.n0
  have h0 := hI.h0
  have ht0 : 0 ≤ tn := hS.2.2.2.1.2.1
  have ht1 : tn ≤ 120 := hS.2.2.2.1.2.2.1
  have hk01 : ik = 0 ∨ ik = 1 := hS.2.1.2.1
  have hB3 : okB bq sq := hS.2.2.2.2.1
  have hH0 : RepH (iv (bq 0), iv (sq 0), c0) bq sq cq 0 := hS.2.2.2.2.2.1
  have hH1 : RepH (iv (bq 1), iv (sq 1), c1) bq sq cq 1 := hS.2.2.2.2.2.2.1
  have hH2 : RepH (iv (bq 2), iv (sq 2), c2) bq sq cq 2 := hS.2.2.2.2.2.2.2.1
  have hH3 : RepH (iv (bq 3), iv (sq 3), c3) bq sq cq 3 := hS.2.2.2.2.2.2.2.2
  have ob1 := hB3.1 1 (by omega) (by omega)
  have zb1 := hB3.2 1 (by omega) (by omega)
  refine lv_aload_n X.1 X.2.1 dX4_write_0 rfl (lv_at hl 0 rfl) ?_
  refine lv_iload_n X.1 X.2.1 dX4_write_1 rfl (lv_at hl 1 rfl) ?_
  refine z_pq (run_V (rest := []) X h (c_sheetAt1) mi_X4_sheetAt ml_X4_184 ⟨Nat.le_of_ble_eq_true rfl, Nat.le_of_ble_eq_true rfl⟩ ⟨rfl, rfl⟩ (Seg.rfl' _) 3 0 rfl rfl rfl rfl hl.1 rfl (Nat.le_of_ble_eq_true rfl) ⟨Nat.zero_le _, Nat.zero_le _⟩ dX4_write_2) ?_
  refine W.eq (g2 := F0 m 5 ls [.ref (q 1 0)]) rfl ?_
  refine lv_astore (lv' := [(5, .ref (q 1 0)), (0, .ref (a 0)), (1, .int (iv (1))), (2, .int (iv (pi))), (3, .long (pv))]) X.1 X.2.1 dX4_write_5 hl (by decide) rfl (fun ls hl => ?_)
  refine lv_aload X.1 X.2.1 dX4_write_7 (lv_at hl 0 rfl) ?_
  refine lv_ifnonnull (tgt := 20) X.1 X.2.1 dX4_write_9 (by decide) ?_
  refine lv_aload X.1 X.2.1 dX4_write_20 (lv_at hl 0 rfl) ?_
  refine z_pi (run_V (rest := []) X (st_sing (st_in (st_in (st_in (st_in (st_in (st_in (st_nil h)))))))) (c_X0_isMissing (y := q 1) (bt := bq 1) ⟨by omega, by omega⟩) mi_X0_isMissing ml_X4_193 ⟨Nat.le_of_ble_eq_true rfl, Nat.le_of_ble_eq_true rfl⟩ ⟨rfl, rfl⟩ (Seg.mk' _ _) 0 37 rfl rfl rfl rfl hl.1 rfl (Nat.le_of_ble_eq_true rfl) ⟨Nat.zero_le _, Nat.zero_le _⟩ dX4_write_22) ?_
  refine z_ifb_eq (tgt := 36) X dX4_write_25 (by decide) (fun c_25 => ?_) (fun c_25 => ?_)
  · refine lv_iload_n X.1 X.2.1 dX4_write_36 rfl (lv_at hl 3 rfl) ?_
    refine z_iconst X dX4_write_37 ?_
    refine lv_aload X.1 X.2.1 dX4_write_38 (lv_at hl 0 rfl) ?_
    refine z_get X h 0 37 1 rfl inX0 rfl (by decide) fl_X4_192 rfl dX4_write_40 ?_
    refine z_iconst X dX4_write_43 ?_
    refine z_isub X dX4_write_44 ?_
    refine z_pi (run_S (rest := []) X h (c_X4_within r_pi ⟨by decide, by decide⟩ ⟨by omega, by omega⟩) mi_X4_within ml_X4_44 ⟨Nat.le_of_ble_eq_true rfl, Nat.le_of_ble_eq_true rfl⟩ ⟨rfl, rfl⟩ (Seg.nil _) rfl hl.1 rfl (Nat.le_of_ble_eq_true rfl) ⟨Nat.zero_le _, Nat.zero_le _⟩ dX4_write_45) ?_
    refine z_ifb_ne (tgt := 59) X dX4_write_48 (by decide) (fun c_48 => ?_) (fun c_48 => ?_)
    · refine lv_aload X.1 X.2.1 dX4_write_59 (lv_at hl 0 rfl) ?_
      refine z_get X h 0 37 2 rfl inX0 rfl (by decide) fl_X4_198 rfl dX4_write_61 ?_
      refine lv_iload_n X.1 X.2.1 dX4_write_64 rfl (lv_at hl 3 rfl) ?_
      refine z_laldv (v := cq 1 pi) X h 38 rfl (by omega) (by omega) (by decide) (hH1.2.2 pi (by omega) (by omega)) dX4_write_65 ?_
      refine lv_lstore (lv' := [(6, .long (cq 1 pi)), (5, .ref (q 1 0)), (0, .ref (a 0)), (1, .int (iv (1))), (2, .int (iv (pi))), (3, .long (pv))]) X.1 X.2.1 dX4_write_66 hl (by decide) rfl (fun ls hl => ?_)
      refine lv_aload X.1 X.2.1 dX4_write_68 (lv_at hl 1 rfl) ?_
      refine lv_iload_n X.1 X.2.1 dX4_write_70 rfl (lv_at hl 4 rfl) ?_
      refine lv_lload_n X.1 X.2.1 dX4_write_71 rfl (lv_at hl 5 rfl) ?_
      refine z_wv (st_sing (st_in (st_in (st_in (st_in (st_in (st_in (st_nil h)))))))) (run_V (rest := []) X (st_sing (st_in (st_in (st_in (st_in (st_in (st_in (st_nil h)))))))) (c_X0_put (y := q 1) (bt := bq 1) (i9 := pi) (v9 := pv) ⟨by omega, by omega⟩ (by omega) (by omega)) mi_X0_put ml_X4_202 ⟨Nat.le_of_ble_eq_true rfl, Nat.le_of_ble_eq_true rfl⟩ ⟨rfl, rfl⟩ (Seg.mk' _ _) 0 37 rfl rfl rfl rfl hl.1 rfl (Nat.le_of_ble_eq_true rfl) ⟨Nat.zero_le _, Nat.zero_le _⟩ dX4_write_72) (fun _ => map_app (wH_map _ _ _ _ _ _ _ _) rfl) (fun u H locs hp h => ?_)
      have h := (st_lin (st_out (st_out (st_out (st_out (st_out (st_out (st_gnis h))))))))
      have h : St E _ s H locs (wO E a k b t x q ((iv (ik))) fd ++ (wS E k ((hk)) ((nk)) (k1, k2, k3, k4, k5, k6, k7, k8, k9) ++ (wS E b ((iv (hr A))) ((iv (pe A))) (xs, xi, xk, xc, xl, xr, xb, yl, yr) ++ (wS E t ((ht)) ((nt)) (t1, t2, t3, t4, t5, t6, t7, t8, t9) ++ (wX E x ((iv (tn))) ((e1)) ((e2)) ((e3)) ((e4)) tp ++ (wH E (q 0) ((iv (bq 0))) ((iv (sq 0))) c0 ++ (wH E (q 1) ((iv (bq 1))) ((iv (sq 1))) (vp_updL c1 (pi : Int).toNat (cut (bq 1) (pv))) ++ (wH E (q 2) ((iv (bq 2))) ((iv (sq 2))) c2 ++ (wH E (q 3) ((iv (bq 3))) ((iv (sq 3))) c3 ++ []))))))))) := h
      refine lv_lload X.1 X.2.1 dX4_write_75 (lv_at hl 0 rfl) ?_
      have e9 : q_write bq sq cq ph 1 pi pv = (cq 1 pi, (fu2 cq 1 pi (cut (bq 1) pv)), ph) := by unfold q_write; (repeat (first | rw [if_pos (by omega)] | rw [if_neg (by omega)])); try rfl
      exact ret _ _ _ _ _ (((iv (ik)), fd), ((hk), (nk), (k1, k2, k3, k4, k5, k6, k7, k8, k9)), ((iv (hr A)), (iv (pe A)), (xs, xi, xk, xc, xl, xr, xb, yl, yr)), ((ht), (nt), (t1, t2, t3, t4, t5, t6, t7, t8, t9)), ((iv (tn)), (e1), (e2), (e3), (e4), tp), ((iv (bq 0)), (iv (sq 0)), c0), ((iv (bq 1)), (iv (sq 1)), (vp_updL c1 (pi : Int).toNat (cut (bq 1) (pv)))), ((iv (bq 2)), (iv (sq 2)), c2), ((iv (bq 3)), (iv (sq 3)), c3)) h (by rw [e9]; exact ⟨rfl, ⟨⟨rfl, rfl, hR, hI, hr9⟩, hK, hF, hT, ⟨hB3, RepH_ne hH0 (by decide), RepH_up hH1 (by omega), RepH_ne hH2 (by decide), RepH_ne hH3 (by decide)⟩⟩⟩) dX4_write_77
    · refine lv_aload_n X.1 X.2.1 dX4_write_51 rfl (lv_at hl 1 rfl) ?_
      refine z_ldc (z := (-1000000001)) X ct_X4_48 (by decide) dX4_write_52 ?_
      refine z_wi (st_sing (st_nil h)) (run_V (rest := []) X (st_sing (st_nil h)) (c_X4_finding (j := 0) hF (by decide) (by decide) (by decide)) mi_X4_finding ml_X4_49 ⟨Nat.le_of_ble_eq_true rfl, Nat.le_of_ble_eq_true rfl⟩ ⟨rfl, rfl⟩ (Seg.mk' _ _) 3 0 rfl rfl rfl rfl hl.1 rfl (Nat.le_of_ble_eq_true rfl) ⟨Nat.zero_le _, Nat.zero_le _⟩ dX4_write_54) (fun _ => map_app (wO_map _ _ _ _ _ _ _ _ _ _ _) rfl) (fun r fd1 H locs hp h => ?_)
      have h := (st_lin (st_gnis h))
      obtain ⟨rfl, hF1⟩ := hp
      have h : St E _ s H locs (wO E a k b t x q ((iv (ik))) fd1 ++ (wS E k ((hk)) ((nk)) (k1, k2, k3, k4, k5, k6, k7, k8, k9) ++ (wS E b ((iv (hr A))) ((iv (pe A))) (xs, xi, xk, xc, xl, xr, xb, yl, yr) ++ (wS E t ((ht)) ((nt)) (t1, t2, t3, t4, t5, t6, t7, t8, t9) ++ (wX E x ((iv (tn))) ((e1)) ((e2)) ((e3)) ((e4)) tp ++ (wH E (q 0) ((iv (bq 0))) ((iv (sq 0))) c0 ++ (wH E (q 1) ((iv (bq 1))) ((iv (sq 1))) c1 ++ (wH E (q 2) ((iv (bq 2))) ((iv (sq 2))) c2 ++ (wH E (q 3) ((iv (bq 3))) ((iv (sq 3))) c3 ++ []))))))))) := h
      refine lv_i2l (v := (iv ((-1000000001))).toInt64) X.1 X.2.1 dX4_write_57 rfl ?_
      have e9 : q_write bq sq cq ph 1 pi pv = ((iv ((-1000000001))).toInt64, cq, (bump ph 0)) := by unfold q_write; (repeat (first | rw [if_pos (by omega)] | rw [if_neg (by omega)])); try rfl
      exact ret _ _ _ _ _ (((iv (ik)), fd1), ((hk), (nk), (k1, k2, k3, k4, k5, k6, k7, k8, k9)), ((iv (hr A)), (iv (pe A)), (xs, xi, xk, xc, xl, xr, xb, yl, yr)), ((ht), (nt), (t1, t2, t3, t4, t5, t6, t7, t8, t9)), ((iv (tn)), (e1), (e2), (e3), (e4), tp), ((iv (bq 0)), (iv (sq 0)), c0), ((iv (bq 1)), (iv (sq 1)), c1), ((iv (bq 2)), (iv (sq 2)), c2), ((iv (bq 3)), (iv (sq 3)), c3)) h (by rw [e9]; exact ⟨rfl, ⟨⟨rfl, rfl, hR, hI, hr9⟩, hK, hF1, hT, hB⟩⟩) dX4_write_58
  · refine lv_aload_n X.1 X.2.1 dX4_write_28 rfl (lv_at hl 1 rfl) ?_
    refine z_ldc (z := (-1000000006)) X ct_X4_197 (by decide) dX4_write_29 ?_
    refine z_wi (st_sing (st_nil h)) (run_V (rest := []) X (st_sing (st_nil h)) (c_X4_finding (j := 5) hF (by decide) (by decide) (by decide)) mi_X4_finding ml_X4_49 ⟨Nat.le_of_ble_eq_true rfl, Nat.le_of_ble_eq_true rfl⟩ ⟨rfl, rfl⟩ (Seg.mk' _ _) 3 0 rfl rfl rfl rfl hl.1 rfl (Nat.le_of_ble_eq_true rfl) ⟨Nat.zero_le _, Nat.zero_le _⟩ dX4_write_31) (fun _ => map_app (wO_map _ _ _ _ _ _ _ _ _ _ _) rfl) (fun r fd2 H locs hp h => ?_)
    have h := (st_lin (st_gnis h))
    obtain ⟨rfl, hF2⟩ := hp
    have h : St E _ s H locs (wO E a k b t x q ((iv (ik))) fd2 ++ (wS E k ((hk)) ((nk)) (k1, k2, k3, k4, k5, k6, k7, k8, k9) ++ (wS E b ((iv (hr A))) ((iv (pe A))) (xs, xi, xk, xc, xl, xr, xb, yl, yr) ++ (wS E t ((ht)) ((nt)) (t1, t2, t3, t4, t5, t6, t7, t8, t9) ++ (wX E x ((iv (tn))) ((e1)) ((e2)) ((e3)) ((e4)) tp ++ (wH E (q 0) ((iv (bq 0))) ((iv (sq 0))) c0 ++ (wH E (q 1) ((iv (bq 1))) ((iv (sq 1))) c1 ++ (wH E (q 2) ((iv (bq 2))) ((iv (sq 2))) c2 ++ (wH E (q 3) ((iv (bq 3))) ((iv (sq 3))) c3 ++ []))))))))) := h
    refine lv_i2l (v := (iv ((-1000000006))).toInt64) X.1 X.2.1 dX4_write_34 rfl ?_
    have e9 : q_write bq sq cq ph 1 pi pv = ((iv ((-1000000006))).toInt64, cq, (bump ph 5)) := by unfold q_write; (repeat (first | rw [if_pos (by omega)] | rw [if_neg (by omega)])); try rfl
    exact ret _ _ _ _ _ (((iv (ik)), fd2), ((hk), (nk), (k1, k2, k3, k4, k5, k6, k7, k8, k9)), ((iv (hr A)), (iv (pe A)), (xs, xi, xk, xc, xl, xr, xb, yl, yr)), ((ht), (nt), (t1, t2, t3, t4, t5, t6, t7, t8, t9)), ((iv (tn)), (e1), (e2), (e3), (e4), tp), ((iv (bq 0)), (iv (sq 0)), c0), ((iv (bq 1)), (iv (sq 1)), c1), ((iv (bq 2)), (iv (sq 2)), c2), ((iv (bq 3)), (iv (sq 3)), c3)) h (by rw [e9]; exact ⟨rfl, ⟨⟨rfl, rfl, hR, hI, hr9⟩, hK, hF2, hT, hB⟩⟩) dX4_write_35

set_option maxHeartbeats 4000000 in
theorem c_X4_write_2 (hS : RepC (((iv (ik)), fd), ((hk), (nk), (k1, k2, k3, k4, k5, k6, k7, k8, k9)), ((iv (hr A)), (iv (pe A)), (xs, xi, xk, xc, xl, xr, xb, yl, yr)), ((ht), (nt), (t1, t2, t3, t4, t5, t6, t7, t8, t9)), ((iv (tn)), (e1), (e2), (e3), (e4), tp), ((iv (bq 0)), (iv (sq 0)), c0), ((iv (bq 1)), (iv (sq 1)), c1), ((iv (bq 2)), (iv (sq 2)), c2), ((iv (bq 3)), (iv (sq 3)), c3)) (A, K, ik, ph, tq, tn, bq, sq, cq)) {pi : Int} (r_pi : r32 pi) {pv : Int64} : MIL (S := Tc) E l yX4_write cX4_write 8 (some FieldType.long) (rmk 2 44) (wO E a k b t x q ((iv (ik))) fd ++ (wS E k ((hk)) ((nk)) (k1, k2, k3, k4, k5, k6, k7, k8, k9) ++ (wS E b ((iv (hr A))) ((iv (pe A))) (xs, xi, xk, xc, xl, xr, xb, yl, yr) ++ (wS E t ((ht)) ((nt)) (t1, t2, t3, t4, t5, t6, t7, t8, t9) ++ (wX E x ((iv (tn))) ((e1)) ((e2)) ((e3)) ((e4)) tp ++ (wH E (q 0) ((iv (bq 0))) ((iv (sq 0))) c0 ++ (wH E (q 1) ((iv (bq 1))) ((iv (sq 1))) c1 ++ (wH E (q 2) ((iv (bq 2))) ((iv (sq 2))) c2 ++ (wH E (q 3) ((iv (bq 3))) ((iv (sq 3))) c3 ++ []))))))))) [.ref (a 0), .int (iv (2)), .int (iv (pi)), .long (pv)] (fun r u => r = (q_write bq sq cq ph 2 pi pv).1 ∧ RepC u (A, K, ik, (q_write bq sq cq ph 2 pi pv).2.2, tq, tn, bq, sq, (q_write bq sq cq ph 2 pi pv).2.1)) (fun u => wT E a k b t x q u) := by
  refine goIL (S := Tc) (post := fun r u => r = (q_write bq sq cq ph 2 pi pv).1 ∧ RepC u (A, K, ik, (q_write bq sq cq ph 2 pi pv).2.2, tq, tn, bq, sq, (q_write bq sq cq ph 2 pi pv).2.1)) (ws' := fun u => wT E a k b t x q u) (by decide) (Nat.le_of_ble_eq_true rfl) ?_
  intro pp e s m below meth c ls args Q ret X h hl
  have hl : lv_has ls 8 [(0, .ref (a 0)), (1, .int (iv (2))), (2, .int (iv (pi))), (3, .long (pv))] := hl
  have hR : RS (xs, xi, xk, xc, xl, xr, xb, yl, yr) A := hS.1.2.2.1
  have hI : IA A := hS.1.2.2.2.1
  have hr9 : hr A ≤ 99999 := hS.1.2.2.2.2
  have hF : RF 7 fd ph := hS.2.2.1
  have hK := hS.2.1
  have hT := hS.2.2.2.1
  have hB := hS.2.2.2.2
  have hh : hr A < 1000000 := by omega
  have n8 := hI.n8
  have n0 := hI.n0
  have h0 := hI.h0
  have ht0 : 0 ≤ tn := hS.2.2.2.1.2.1
  have ht1 : tn ≤ 120 := hS.2.2.2.1.2.2.1
  have hk01 : ik = 0 ∨ ik = 1 := hS.2.1.2.1
  have hB3 : okB bq sq := hS.2.2.2.2.1
  have hH0 : RepH (iv (bq 0), iv (sq 0), c0) bq sq cq 0 := hS.2.2.2.2.2.1
  have hH1 : RepH (iv (bq 1), iv (sq 1), c1) bq sq cq 1 := hS.2.2.2.2.2.2.1
  have hH2 : RepH (iv (bq 2), iv (sq 2), c2) bq sq cq 2 := hS.2.2.2.2.2.2.2.1
  have hH3 : RepH (iv (bq 3), iv (sq 3), c3) bq sq cq 3 := hS.2.2.2.2.2.2.2.2
  have ob2 := hB3.1 2 (by omega) (by omega)
  have zb2 := hB3.2 2 (by omega) (by omega)
  refine lv_aload_n X.1 X.2.1 dX4_write_0 rfl (lv_at hl 0 rfl) ?_
  refine lv_iload_n X.1 X.2.1 dX4_write_1 rfl (lv_at hl 1 rfl) ?_
  refine z_pq (run_V (rest := []) X h (c_sheetAt2) mi_X4_sheetAt ml_X4_184 ⟨Nat.le_of_ble_eq_true rfl, Nat.le_of_ble_eq_true rfl⟩ ⟨rfl, rfl⟩ (Seg.rfl' _) 3 0 rfl rfl rfl rfl hl.1 rfl (Nat.le_of_ble_eq_true rfl) ⟨Nat.zero_le _, Nat.zero_le _⟩ dX4_write_2) ?_
  refine W.eq (g2 := F0 m 5 ls [.ref (q 2 0)]) rfl ?_
  refine lv_astore (lv' := [(5, .ref (q 2 0)), (0, .ref (a 0)), (1, .int (iv (2))), (2, .int (iv (pi))), (3, .long (pv))]) X.1 X.2.1 dX4_write_5 hl (by decide) rfl (fun ls hl => ?_)
  refine lv_aload X.1 X.2.1 dX4_write_7 (lv_at hl 0 rfl) ?_
  refine lv_ifnonnull (tgt := 20) X.1 X.2.1 dX4_write_9 (by decide) ?_
  refine lv_aload X.1 X.2.1 dX4_write_20 (lv_at hl 0 rfl) ?_
  refine z_pi (run_V (rest := []) X (st_sing (st_in (st_in (st_in (st_in (st_in (st_in (st_in (st_nil h))))))))) (c_X0_isMissing (y := q 2) (bt := bq 2) ⟨by omega, by omega⟩) mi_X0_isMissing ml_X4_193 ⟨Nat.le_of_ble_eq_true rfl, Nat.le_of_ble_eq_true rfl⟩ ⟨rfl, rfl⟩ (Seg.mk' _ _) 0 39 rfl rfl rfl rfl hl.1 rfl (Nat.le_of_ble_eq_true rfl) ⟨Nat.zero_le _, Nat.zero_le _⟩ dX4_write_22) ?_
  refine z_ifb_eq (tgt := 36) X dX4_write_25 (by decide) (fun c_25 => ?_) (fun c_25 => ?_)
  · refine lv_iload_n X.1 X.2.1 dX4_write_36 rfl (lv_at hl 3 rfl) ?_
    refine z_iconst X dX4_write_37 ?_
    refine lv_aload X.1 X.2.1 dX4_write_38 (lv_at hl 0 rfl) ?_
    refine z_get X h 0 39 1 rfl inX0 rfl (by decide) fl_X4_192 rfl dX4_write_40 ?_
    refine z_iconst X dX4_write_43 ?_
    refine z_isub X dX4_write_44 ?_
    refine z_pi (run_S (rest := []) X h (c_X4_within r_pi ⟨by decide, by decide⟩ ⟨by omega, by omega⟩) mi_X4_within ml_X4_44 ⟨Nat.le_of_ble_eq_true rfl, Nat.le_of_ble_eq_true rfl⟩ ⟨rfl, rfl⟩ (Seg.nil _) rfl hl.1 rfl (Nat.le_of_ble_eq_true rfl) ⟨Nat.zero_le _, Nat.zero_le _⟩ dX4_write_45) ?_
    refine z_ifb_ne (tgt := 59) X dX4_write_48 (by decide) (fun c_48 => ?_) (fun c_48 => ?_)
    · refine lv_aload X.1 X.2.1 dX4_write_59 (lv_at hl 0 rfl) ?_
      refine z_get X h 0 39 2 rfl inX0 rfl (by decide) fl_X4_198 rfl dX4_write_61 ?_
      refine lv_iload_n X.1 X.2.1 dX4_write_64 rfl (lv_at hl 3 rfl) ?_
      refine z_laldv (v := cq 2 pi) X h 40 rfl (by omega) (by omega) (by decide) (hH2.2.2 pi (by omega) (by omega)) dX4_write_65 ?_
      refine lv_lstore (lv' := [(6, .long (cq 2 pi)), (5, .ref (q 2 0)), (0, .ref (a 0)), (1, .int (iv (2))), (2, .int (iv (pi))), (3, .long (pv))]) X.1 X.2.1 dX4_write_66 hl (by decide) rfl (fun ls hl => ?_)
      refine lv_aload X.1 X.2.1 dX4_write_68 (lv_at hl 1 rfl) ?_
      refine lv_iload_n X.1 X.2.1 dX4_write_70 rfl (lv_at hl 4 rfl) ?_
      refine lv_lload_n X.1 X.2.1 dX4_write_71 rfl (lv_at hl 5 rfl) ?_
      refine z_wv (st_sing (st_in (st_in (st_in (st_in (st_in (st_in (st_in (st_nil h))))))))) (run_V (rest := []) X (st_sing (st_in (st_in (st_in (st_in (st_in (st_in (st_in (st_nil h))))))))) (c_X0_put (y := q 2) (bt := bq 2) (i9 := pi) (v9 := pv) ⟨by omega, by omega⟩ (by omega) (by omega)) mi_X0_put ml_X4_202 ⟨Nat.le_of_ble_eq_true rfl, Nat.le_of_ble_eq_true rfl⟩ ⟨rfl, rfl⟩ (Seg.mk' _ _) 0 39 rfl rfl rfl rfl hl.1 rfl (Nat.le_of_ble_eq_true rfl) ⟨Nat.zero_le _, Nat.zero_le _⟩ dX4_write_72) (fun _ => map_app (wH_map _ _ _ _ _ _ _ _) rfl) (fun u H locs hp h => ?_)
      have h := (st_lin (st_out (st_out (st_out (st_out (st_out (st_out (st_out (st_gnis h)))))))))
      have h : St E _ s H locs (wO E a k b t x q ((iv (ik))) fd ++ (wS E k ((hk)) ((nk)) (k1, k2, k3, k4, k5, k6, k7, k8, k9) ++ (wS E b ((iv (hr A))) ((iv (pe A))) (xs, xi, xk, xc, xl, xr, xb, yl, yr) ++ (wS E t ((ht)) ((nt)) (t1, t2, t3, t4, t5, t6, t7, t8, t9) ++ (wX E x ((iv (tn))) ((e1)) ((e2)) ((e3)) ((e4)) tp ++ (wH E (q 0) ((iv (bq 0))) ((iv (sq 0))) c0 ++ (wH E (q 1) ((iv (bq 1))) ((iv (sq 1))) c1 ++ (wH E (q 2) ((iv (bq 2))) ((iv (sq 2))) (vp_updL c2 (pi : Int).toNat (cut (bq 2) (pv))) ++ (wH E (q 3) ((iv (bq 3))) ((iv (sq 3))) c3 ++ []))))))))) := h
      refine lv_lload X.1 X.2.1 dX4_write_75 (lv_at hl 0 rfl) ?_
      have e9 : q_write bq sq cq ph 2 pi pv = (cq 2 pi, (fu2 cq 2 pi (cut (bq 2) pv)), ph) := by unfold q_write; (repeat (first | rw [if_pos (by omega)] | rw [if_neg (by omega)])); try rfl
      exact ret _ _ _ _ _ (((iv (ik)), fd), ((hk), (nk), (k1, k2, k3, k4, k5, k6, k7, k8, k9)), ((iv (hr A)), (iv (pe A)), (xs, xi, xk, xc, xl, xr, xb, yl, yr)), ((ht), (nt), (t1, t2, t3, t4, t5, t6, t7, t8, t9)), ((iv (tn)), (e1), (e2), (e3), (e4), tp), ((iv (bq 0)), (iv (sq 0)), c0), ((iv (bq 1)), (iv (sq 1)), c1), ((iv (bq 2)), (iv (sq 2)), (vp_updL c2 (pi : Int).toNat (cut (bq 2) (pv)))), ((iv (bq 3)), (iv (sq 3)), c3)) h (by rw [e9]; exact ⟨rfl, ⟨⟨rfl, rfl, hR, hI, hr9⟩, hK, hF, hT, ⟨hB3, RepH_ne hH0 (by decide), RepH_ne hH1 (by decide), RepH_up hH2 (by omega), RepH_ne hH3 (by decide)⟩⟩⟩) dX4_write_77
    · refine lv_aload_n X.1 X.2.1 dX4_write_51 rfl (lv_at hl 1 rfl) ?_
      refine z_ldc (z := (-1000000001)) X ct_X4_48 (by decide) dX4_write_52 ?_
      refine z_wi (st_sing (st_nil h)) (run_V (rest := []) X (st_sing (st_nil h)) (c_X4_finding (j := 0) hF (by decide) (by decide) (by decide)) mi_X4_finding ml_X4_49 ⟨Nat.le_of_ble_eq_true rfl, Nat.le_of_ble_eq_true rfl⟩ ⟨rfl, rfl⟩ (Seg.mk' _ _) 3 0 rfl rfl rfl rfl hl.1 rfl (Nat.le_of_ble_eq_true rfl) ⟨Nat.zero_le _, Nat.zero_le _⟩ dX4_write_54) (fun _ => map_app (wO_map _ _ _ _ _ _ _ _ _ _ _) rfl) (fun r fd1 H locs hp h => ?_)
      have h := (st_lin (st_gnis h))
      obtain ⟨rfl, hF1⟩ := hp
      have h : St E _ s H locs (wO E a k b t x q ((iv (ik))) fd1 ++ (wS E k ((hk)) ((nk)) (k1, k2, k3, k4, k5, k6, k7, k8, k9) ++ (wS E b ((iv (hr A))) ((iv (pe A))) (xs, xi, xk, xc, xl, xr, xb, yl, yr) ++ (wS E t ((ht)) ((nt)) (t1, t2, t3, t4, t5, t6, t7, t8, t9) ++ (wX E x ((iv (tn))) ((e1)) ((e2)) ((e3)) ((e4)) tp ++ (wH E (q 0) ((iv (bq 0))) ((iv (sq 0))) c0 ++ (wH E (q 1) ((iv (bq 1))) ((iv (sq 1))) c1 ++ (wH E (q 2) ((iv (bq 2))) ((iv (sq 2))) c2 ++ (wH E (q 3) ((iv (bq 3))) ((iv (sq 3))) c3 ++ []))))))))) := h
      refine lv_i2l (v := (iv ((-1000000001))).toInt64) X.1 X.2.1 dX4_write_57 rfl ?_
      have e9 : q_write bq sq cq ph 2 pi pv = ((iv ((-1000000001))).toInt64, cq, (bump ph 0)) := by unfold q_write; (repeat (first | rw [if_pos (by omega)] | rw [if_neg (by omega)])); try rfl
      exact ret _ _ _ _ _ (((iv (ik)), fd1), ((hk), (nk), (k1, k2, k3, k4, k5, k6, k7, k8, k9)), ((iv (hr A)), (iv (pe A)), (xs, xi, xk, xc, xl, xr, xb, yl, yr)), ((ht), (nt), (t1, t2, t3, t4, t5, t6, t7, t8, t9)), ((iv (tn)), (e1), (e2), (e3), (e4), tp), ((iv (bq 0)), (iv (sq 0)), c0), ((iv (bq 1)), (iv (sq 1)), c1), ((iv (bq 2)), (iv (sq 2)), c2), ((iv (bq 3)), (iv (sq 3)), c3)) h (by rw [e9]; exact ⟨rfl, ⟨⟨rfl, rfl, hR, hI, hr9⟩, hK, hF1, hT, hB⟩⟩) dX4_write_58
  · refine lv_aload_n X.1 X.2.1 dX4_write_28 rfl (lv_at hl 1 rfl) ?_
    refine z_ldc (z := (-1000000006)) X ct_X4_197 (by decide) dX4_write_29 ?_
    refine z_wi (st_sing (st_nil h)) (run_V (rest := []) X (st_sing (st_nil h)) (c_X4_finding (j := 5) hF (by decide) (by decide) (by decide)) mi_X4_finding ml_X4_49 ⟨Nat.le_of_ble_eq_true rfl, Nat.le_of_ble_eq_true rfl⟩ ⟨rfl, rfl⟩ (Seg.mk' _ _) 3 0 rfl rfl rfl rfl hl.1 rfl (Nat.le_of_ble_eq_true rfl) ⟨Nat.zero_le _, Nat.zero_le _⟩ dX4_write_31) (fun _ => map_app (wO_map _ _ _ _ _ _ _ _ _ _ _) rfl) (fun r fd2 H locs hp h => ?_)
    have h := (st_lin (st_gnis h))
    obtain ⟨rfl, hF2⟩ := hp
    have h : St E _ s H locs (wO E a k b t x q ((iv (ik))) fd2 ++ (wS E k ((hk)) ((nk)) (k1, k2, k3, k4, k5, k6, k7, k8, k9) ++ (wS E b ((iv (hr A))) ((iv (pe A))) (xs, xi, xk, xc, xl, xr, xb, yl, yr) ++ (wS E t ((ht)) ((nt)) (t1, t2, t3, t4, t5, t6, t7, t8, t9) ++ (wX E x ((iv (tn))) ((e1)) ((e2)) ((e3)) ((e4)) tp ++ (wH E (q 0) ((iv (bq 0))) ((iv (sq 0))) c0 ++ (wH E (q 1) ((iv (bq 1))) ((iv (sq 1))) c1 ++ (wH E (q 2) ((iv (bq 2))) ((iv (sq 2))) c2 ++ (wH E (q 3) ((iv (bq 3))) ((iv (sq 3))) c3 ++ []))))))))) := h
    refine lv_i2l (v := (iv ((-1000000006))).toInt64) X.1 X.2.1 dX4_write_34 rfl ?_
    have e9 : q_write bq sq cq ph 2 pi pv = ((iv ((-1000000006))).toInt64, cq, (bump ph 5)) := by unfold q_write; (repeat (first | rw [if_pos (by omega)] | rw [if_neg (by omega)])); try rfl
    exact ret _ _ _ _ _ (((iv (ik)), fd2), ((hk), (nk), (k1, k2, k3, k4, k5, k6, k7, k8, k9)), ((iv (hr A)), (iv (pe A)), (xs, xi, xk, xc, xl, xr, xb, yl, yr)), ((ht), (nt), (t1, t2, t3, t4, t5, t6, t7, t8, t9)), ((iv (tn)), (e1), (e2), (e3), (e4), tp), ((iv (bq 0)), (iv (sq 0)), c0), ((iv (bq 1)), (iv (sq 1)), c1), ((iv (bq 2)), (iv (sq 2)), c2), ((iv (bq 3)), (iv (sq 3)), c3)) h (by rw [e9]; exact ⟨rfl, ⟨⟨rfl, rfl, hR, hI, hr9⟩, hK, hF2, hT, hB⟩⟩) dX4_write_35

set_option maxHeartbeats 4000000 in
theorem c_X4_write_3 (hS : RepC (((iv (ik)), fd), ((hk), (nk), (k1, k2, k3, k4, k5, k6, k7, k8, k9)), ((iv (hr A)), (iv (pe A)), (xs, xi, xk, xc, xl, xr, xb, yl, yr)), ((ht), (nt), (t1, t2, t3, t4, t5, t6, t7, t8, t9)), ((iv (tn)), (e1), (e2), (e3), (e4), tp), ((iv (bq 0)), (iv (sq 0)), c0), ((iv (bq 1)), (iv (sq 1)), c1), ((iv (bq 2)), (iv (sq 2)), c2), ((iv (bq 3)), (iv (sq 3)), c3)) (A, K, ik, ph, tq, tn, bq, sq, cq)) {pi : Int} (r_pi : r32 pi) {pv : Int64} : MIL (S := Tc) E l yX4_write cX4_write 8 (some FieldType.long) (rmk 2 44) (wO E a k b t x q ((iv (ik))) fd ++ (wS E k ((hk)) ((nk)) (k1, k2, k3, k4, k5, k6, k7, k8, k9) ++ (wS E b ((iv (hr A))) ((iv (pe A))) (xs, xi, xk, xc, xl, xr, xb, yl, yr) ++ (wS E t ((ht)) ((nt)) (t1, t2, t3, t4, t5, t6, t7, t8, t9) ++ (wX E x ((iv (tn))) ((e1)) ((e2)) ((e3)) ((e4)) tp ++ (wH E (q 0) ((iv (bq 0))) ((iv (sq 0))) c0 ++ (wH E (q 1) ((iv (bq 1))) ((iv (sq 1))) c1 ++ (wH E (q 2) ((iv (bq 2))) ((iv (sq 2))) c2 ++ (wH E (q 3) ((iv (bq 3))) ((iv (sq 3))) c3 ++ []))))))))) [.ref (a 0), .int (iv (3)), .int (iv (pi)), .long (pv)] (fun r u => r = (q_write bq sq cq ph 3 pi pv).1 ∧ RepC u (A, K, ik, (q_write bq sq cq ph 3 pi pv).2.2, tq, tn, bq, sq, (q_write bq sq cq ph 3 pi pv).2.1)) (fun u => wT E a k b t x q u) := by
  refine goIL (S := Tc) (post := fun r u => r = (q_write bq sq cq ph 3 pi pv).1 ∧ RepC u (A, K, ik, (q_write bq sq cq ph 3 pi pv).2.2, tq, tn, bq, sq, (q_write bq sq cq ph 3 pi pv).2.1)) (ws' := fun u => wT E a k b t x q u) (by decide) (Nat.le_of_ble_eq_true rfl) ?_
  intro pp e s m below meth c ls args Q ret X h hl
  have hl : lv_has ls 8 [(0, .ref (a 0)), (1, .int (iv (3))), (2, .int (iv (pi))), (3, .long (pv))] := hl
  have hR : RS (xs, xi, xk, xc, xl, xr, xb, yl, yr) A := hS.1.2.2.1
  have hI : IA A := hS.1.2.2.2.1
  have hr9 : hr A ≤ 99999 := hS.1.2.2.2.2
  have hF : RF 7 fd ph := hS.2.2.1
  have hK := hS.2.1
  have hT := hS.2.2.2.1
  have hB := hS.2.2.2.2
  have hh : hr A < 1000000 := by omega
  have n8 := hI.n8
  have n0 := hI.n0
  have h0 := hI.h0
  have ht0 : 0 ≤ tn := hS.2.2.2.1.2.1
  have ht1 : tn ≤ 120 := hS.2.2.2.1.2.2.1
  have hk01 : ik = 0 ∨ ik = 1 := hS.2.1.2.1
  have hB3 : okB bq sq := hS.2.2.2.2.1
  have hH0 : RepH (iv (bq 0), iv (sq 0), c0) bq sq cq 0 := hS.2.2.2.2.2.1
  have hH1 : RepH (iv (bq 1), iv (sq 1), c1) bq sq cq 1 := hS.2.2.2.2.2.2.1
  have hH2 : RepH (iv (bq 2), iv (sq 2), c2) bq sq cq 2 := hS.2.2.2.2.2.2.2.1
  have hH3 : RepH (iv (bq 3), iv (sq 3), c3) bq sq cq 3 := hS.2.2.2.2.2.2.2.2
  have ob3 := hB3.1 3 (by omega) (by omega)
  have zb3 := hB3.2 3 (by omega) (by omega)
  refine lv_aload_n X.1 X.2.1 dX4_write_0 rfl (lv_at hl 0 rfl) ?_
  refine lv_iload_n X.1 X.2.1 dX4_write_1 rfl (lv_at hl 1 rfl) ?_
  refine z_pq (run_V (rest := []) X h (c_sheetAt3) mi_X4_sheetAt ml_X4_184 ⟨Nat.le_of_ble_eq_true rfl, Nat.le_of_ble_eq_true rfl⟩ ⟨rfl, rfl⟩ (Seg.rfl' _) 3 0 rfl rfl rfl rfl hl.1 rfl (Nat.le_of_ble_eq_true rfl) ⟨Nat.zero_le _, Nat.zero_le _⟩ dX4_write_2) ?_
  refine W.eq (g2 := F0 m 5 ls [.ref (q 3 0)]) rfl ?_
  refine lv_astore (lv' := [(5, .ref (q 3 0)), (0, .ref (a 0)), (1, .int (iv (3))), (2, .int (iv (pi))), (3, .long (pv))]) X.1 X.2.1 dX4_write_5 hl (by decide) rfl (fun ls hl => ?_)
  refine lv_aload X.1 X.2.1 dX4_write_7 (lv_at hl 0 rfl) ?_
  refine lv_ifnonnull (tgt := 20) X.1 X.2.1 dX4_write_9 (by decide) ?_
  refine lv_aload X.1 X.2.1 dX4_write_20 (lv_at hl 0 rfl) ?_
  refine z_pi (run_V (rest := []) X (st_sing (st_in (st_in (st_in (st_in (st_in (st_in (st_in (st_in (st_nil h)))))))))) (c_X0_isMissing (y := q 3) (bt := bq 3) ⟨by omega, by omega⟩) mi_X0_isMissing ml_X4_193 ⟨Nat.le_of_ble_eq_true rfl, Nat.le_of_ble_eq_true rfl⟩ ⟨rfl, rfl⟩ (Seg.mk' _ _) 0 41 rfl rfl rfl rfl hl.1 rfl (Nat.le_of_ble_eq_true rfl) ⟨Nat.zero_le _, Nat.zero_le _⟩ dX4_write_22) ?_
  refine z_ifb_eq (tgt := 36) X dX4_write_25 (by decide) (fun c_25 => ?_) (fun c_25 => ?_)
  · refine lv_iload_n X.1 X.2.1 dX4_write_36 rfl (lv_at hl 3 rfl) ?_
    refine z_iconst X dX4_write_37 ?_
    refine lv_aload X.1 X.2.1 dX4_write_38 (lv_at hl 0 rfl) ?_
    refine z_get X h 0 41 1 rfl inX0 rfl (by decide) fl_X4_192 rfl dX4_write_40 ?_
    refine z_iconst X dX4_write_43 ?_
    refine z_isub X dX4_write_44 ?_
    refine z_pi (run_S (rest := []) X h (c_X4_within r_pi ⟨by decide, by decide⟩ ⟨by omega, by omega⟩) mi_X4_within ml_X4_44 ⟨Nat.le_of_ble_eq_true rfl, Nat.le_of_ble_eq_true rfl⟩ ⟨rfl, rfl⟩ (Seg.nil _) rfl hl.1 rfl (Nat.le_of_ble_eq_true rfl) ⟨Nat.zero_le _, Nat.zero_le _⟩ dX4_write_45) ?_
    refine z_ifb_ne (tgt := 59) X dX4_write_48 (by decide) (fun c_48 => ?_) (fun c_48 => ?_)
    · refine lv_aload X.1 X.2.1 dX4_write_59 (lv_at hl 0 rfl) ?_
      refine z_get X h 0 41 2 rfl inX0 rfl (by decide) fl_X4_198 rfl dX4_write_61 ?_
      refine lv_iload_n X.1 X.2.1 dX4_write_64 rfl (lv_at hl 3 rfl) ?_
      refine z_laldv (v := cq 3 pi) X h 42 rfl (by omega) (by omega) (by decide) (hH3.2.2 pi (by omega) (by omega)) dX4_write_65 ?_
      refine lv_lstore (lv' := [(6, .long (cq 3 pi)), (5, .ref (q 3 0)), (0, .ref (a 0)), (1, .int (iv (3))), (2, .int (iv (pi))), (3, .long (pv))]) X.1 X.2.1 dX4_write_66 hl (by decide) rfl (fun ls hl => ?_)
      refine lv_aload X.1 X.2.1 dX4_write_68 (lv_at hl 1 rfl) ?_
      refine lv_iload_n X.1 X.2.1 dX4_write_70 rfl (lv_at hl 4 rfl) ?_
      refine lv_lload_n X.1 X.2.1 dX4_write_71 rfl (lv_at hl 5 rfl) ?_
      refine z_wv (st_sing (st_in (st_in (st_in (st_in (st_in (st_in (st_in (st_in (st_nil h)))))))))) (run_V (rest := []) X (st_sing (st_in (st_in (st_in (st_in (st_in (st_in (st_in (st_in (st_nil h)))))))))) (c_X0_put (y := q 3) (bt := bq 3) (i9 := pi) (v9 := pv) ⟨by omega, by omega⟩ (by omega) (by omega)) mi_X0_put ml_X4_202 ⟨Nat.le_of_ble_eq_true rfl, Nat.le_of_ble_eq_true rfl⟩ ⟨rfl, rfl⟩ (Seg.mk' _ _) 0 41 rfl rfl rfl rfl hl.1 rfl (Nat.le_of_ble_eq_true rfl) ⟨Nat.zero_le _, Nat.zero_le _⟩ dX4_write_72) (fun _ => map_app (wH_map _ _ _ _ _ _ _ _) rfl) (fun u H locs hp h => ?_)
      have h := (st_lin (st_out (st_out (st_out (st_out (st_out (st_out (st_out (st_out (st_gnis h))))))))))
      have h : St E _ s H locs (wO E a k b t x q ((iv (ik))) fd ++ (wS E k ((hk)) ((nk)) (k1, k2, k3, k4, k5, k6, k7, k8, k9) ++ (wS E b ((iv (hr A))) ((iv (pe A))) (xs, xi, xk, xc, xl, xr, xb, yl, yr) ++ (wS E t ((ht)) ((nt)) (t1, t2, t3, t4, t5, t6, t7, t8, t9) ++ (wX E x ((iv (tn))) ((e1)) ((e2)) ((e3)) ((e4)) tp ++ (wH E (q 0) ((iv (bq 0))) ((iv (sq 0))) c0 ++ (wH E (q 1) ((iv (bq 1))) ((iv (sq 1))) c1 ++ (wH E (q 2) ((iv (bq 2))) ((iv (sq 2))) c2 ++ (wH E (q 3) ((iv (bq 3))) ((iv (sq 3))) (vp_updL c3 (pi : Int).toNat (cut (bq 3) (pv))) ++ []))))))))) := h
      refine lv_lload X.1 X.2.1 dX4_write_75 (lv_at hl 0 rfl) ?_
      have e9 : q_write bq sq cq ph 3 pi pv = (cq 3 pi, (fu2 cq 3 pi (cut (bq 3) pv)), ph) := by unfold q_write; (repeat (first | rw [if_pos (by omega)] | rw [if_neg (by omega)])); try rfl
      exact ret _ _ _ _ _ (((iv (ik)), fd), ((hk), (nk), (k1, k2, k3, k4, k5, k6, k7, k8, k9)), ((iv (hr A)), (iv (pe A)), (xs, xi, xk, xc, xl, xr, xb, yl, yr)), ((ht), (nt), (t1, t2, t3, t4, t5, t6, t7, t8, t9)), ((iv (tn)), (e1), (e2), (e3), (e4), tp), ((iv (bq 0)), (iv (sq 0)), c0), ((iv (bq 1)), (iv (sq 1)), c1), ((iv (bq 2)), (iv (sq 2)), c2), ((iv (bq 3)), (iv (sq 3)), (vp_updL c3 (pi : Int).toNat (cut (bq 3) (pv))))) h (by rw [e9]; exact ⟨rfl, ⟨⟨rfl, rfl, hR, hI, hr9⟩, hK, hF, hT, ⟨hB3, RepH_ne hH0 (by decide), RepH_ne hH1 (by decide), RepH_ne hH2 (by decide), RepH_up hH3 (by omega)⟩⟩⟩) dX4_write_77
    · refine lv_aload_n X.1 X.2.1 dX4_write_51 rfl (lv_at hl 1 rfl) ?_
      refine z_ldc (z := (-1000000001)) X ct_X4_48 (by decide) dX4_write_52 ?_
      refine z_wi (st_sing (st_nil h)) (run_V (rest := []) X (st_sing (st_nil h)) (c_X4_finding (j := 0) hF (by decide) (by decide) (by decide)) mi_X4_finding ml_X4_49 ⟨Nat.le_of_ble_eq_true rfl, Nat.le_of_ble_eq_true rfl⟩ ⟨rfl, rfl⟩ (Seg.mk' _ _) 3 0 rfl rfl rfl rfl hl.1 rfl (Nat.le_of_ble_eq_true rfl) ⟨Nat.zero_le _, Nat.zero_le _⟩ dX4_write_54) (fun _ => map_app (wO_map _ _ _ _ _ _ _ _ _ _ _) rfl) (fun r fd1 H locs hp h => ?_)
      have h := (st_lin (st_gnis h))
      obtain ⟨rfl, hF1⟩ := hp
      have h : St E _ s H locs (wO E a k b t x q ((iv (ik))) fd1 ++ (wS E k ((hk)) ((nk)) (k1, k2, k3, k4, k5, k6, k7, k8, k9) ++ (wS E b ((iv (hr A))) ((iv (pe A))) (xs, xi, xk, xc, xl, xr, xb, yl, yr) ++ (wS E t ((ht)) ((nt)) (t1, t2, t3, t4, t5, t6, t7, t8, t9) ++ (wX E x ((iv (tn))) ((e1)) ((e2)) ((e3)) ((e4)) tp ++ (wH E (q 0) ((iv (bq 0))) ((iv (sq 0))) c0 ++ (wH E (q 1) ((iv (bq 1))) ((iv (sq 1))) c1 ++ (wH E (q 2) ((iv (bq 2))) ((iv (sq 2))) c2 ++ (wH E (q 3) ((iv (bq 3))) ((iv (sq 3))) c3 ++ []))))))))) := h
      refine lv_i2l (v := (iv ((-1000000001))).toInt64) X.1 X.2.1 dX4_write_57 rfl ?_
      have e9 : q_write bq sq cq ph 3 pi pv = ((iv ((-1000000001))).toInt64, cq, (bump ph 0)) := by unfold q_write; (repeat (first | rw [if_pos (by omega)] | rw [if_neg (by omega)])); try rfl
      exact ret _ _ _ _ _ (((iv (ik)), fd1), ((hk), (nk), (k1, k2, k3, k4, k5, k6, k7, k8, k9)), ((iv (hr A)), (iv (pe A)), (xs, xi, xk, xc, xl, xr, xb, yl, yr)), ((ht), (nt), (t1, t2, t3, t4, t5, t6, t7, t8, t9)), ((iv (tn)), (e1), (e2), (e3), (e4), tp), ((iv (bq 0)), (iv (sq 0)), c0), ((iv (bq 1)), (iv (sq 1)), c1), ((iv (bq 2)), (iv (sq 2)), c2), ((iv (bq 3)), (iv (sq 3)), c3)) h (by rw [e9]; exact ⟨rfl, ⟨⟨rfl, rfl, hR, hI, hr9⟩, hK, hF1, hT, hB⟩⟩) dX4_write_58
  · refine lv_aload_n X.1 X.2.1 dX4_write_28 rfl (lv_at hl 1 rfl) ?_
    refine z_ldc (z := (-1000000006)) X ct_X4_197 (by decide) dX4_write_29 ?_
    refine z_wi (st_sing (st_nil h)) (run_V (rest := []) X (st_sing (st_nil h)) (c_X4_finding (j := 5) hF (by decide) (by decide) (by decide)) mi_X4_finding ml_X4_49 ⟨Nat.le_of_ble_eq_true rfl, Nat.le_of_ble_eq_true rfl⟩ ⟨rfl, rfl⟩ (Seg.mk' _ _) 3 0 rfl rfl rfl rfl hl.1 rfl (Nat.le_of_ble_eq_true rfl) ⟨Nat.zero_le _, Nat.zero_le _⟩ dX4_write_31) (fun _ => map_app (wO_map _ _ _ _ _ _ _ _ _ _ _) rfl) (fun r fd2 H locs hp h => ?_)
    have h := (st_lin (st_gnis h))
    obtain ⟨rfl, hF2⟩ := hp
    have h : St E _ s H locs (wO E a k b t x q ((iv (ik))) fd2 ++ (wS E k ((hk)) ((nk)) (k1, k2, k3, k4, k5, k6, k7, k8, k9) ++ (wS E b ((iv (hr A))) ((iv (pe A))) (xs, xi, xk, xc, xl, xr, xb, yl, yr) ++ (wS E t ((ht)) ((nt)) (t1, t2, t3, t4, t5, t6, t7, t8, t9) ++ (wX E x ((iv (tn))) ((e1)) ((e2)) ((e3)) ((e4)) tp ++ (wH E (q 0) ((iv (bq 0))) ((iv (sq 0))) c0 ++ (wH E (q 1) ((iv (bq 1))) ((iv (sq 1))) c1 ++ (wH E (q 2) ((iv (bq 2))) ((iv (sq 2))) c2 ++ (wH E (q 3) ((iv (bq 3))) ((iv (sq 3))) c3 ++ []))))))))) := h
    refine lv_i2l (v := (iv ((-1000000006))).toInt64) X.1 X.2.1 dX4_write_34 rfl ?_
    have e9 : q_write bq sq cq ph 3 pi pv = ((iv ((-1000000006))).toInt64, cq, (bump ph 5)) := by unfold q_write; (repeat (first | rw [if_pos (by omega)] | rw [if_neg (by omega)])); try rfl
    exact ret _ _ _ _ _ (((iv (ik)), fd2), ((hk), (nk), (k1, k2, k3, k4, k5, k6, k7, k8, k9)), ((iv (hr A)), (iv (pe A)), (xs, xi, xk, xc, xl, xr, xb, yl, yr)), ((ht), (nt), (t1, t2, t3, t4, t5, t6, t7, t8, t9)), ((iv (tn)), (e1), (e2), (e3), (e4), tp), ((iv (bq 0)), (iv (sq 0)), c0), ((iv (bq 1)), (iv (sq 1)), c1), ((iv (bq 2)), (iv (sq 2)), c2), ((iv (bq 3)), (iv (sq 3)), c3)) h (by rw [e9]; exact ⟨rfl, ⟨⟨rfl, rfl, hR, hI, hr9⟩, hK, hF2, hT, hB⟩⟩) dX4_write_35

set_option maxHeartbeats 4000000 in
theorem c_X4_write_N (hS : RepC (((iv (ik)), fd), ((hk), (nk), (k1, k2, k3, k4, k5, k6, k7, k8, k9)), ((iv (hr A)), (iv (pe A)), (xs, xi, xk, xc, xl, xr, xb, yl, yr)), ((ht), (nt), (t1, t2, t3, t4, t5, t6, t7, t8, t9)), ((iv (tn)), (e1), (e2), (e3), (e4), tp), ((iv (bq 0)), (iv (sq 0)), c0), ((iv (bq 1)), (iv (sq 1)), c1), ((iv (bq 2)), (iv (sq 2)), c2), ((iv (bq 3)), (iv (sq 3)), c3)) (A, K, ik, ph, tq, tn, bq, sq, cq)) {ps : Int} (r_ps : r32 ps) {pi : Int} (r_pi : r32 pi) {pv : Int64} (ho : ps < 0 ∨ 3 < ps) : MIL (S := Tc) E l yX4_write cX4_write 8 (some FieldType.long) (rmk 2 44) (wO E a k b t x q ((iv (ik))) fd ++ (wS E k ((hk)) ((nk)) (k1, k2, k3, k4, k5, k6, k7, k8, k9) ++ (wS E b ((iv (hr A))) ((iv (pe A))) (xs, xi, xk, xc, xl, xr, xb, yl, yr) ++ (wS E t ((ht)) ((nt)) (t1, t2, t3, t4, t5, t6, t7, t8, t9) ++ (wX E x ((iv (tn))) ((e1)) ((e2)) ((e3)) ((e4)) tp ++ (wH E (q 0) ((iv (bq 0))) ((iv (sq 0))) c0 ++ (wH E (q 1) ((iv (bq 1))) ((iv (sq 1))) c1 ++ (wH E (q 2) ((iv (bq 2))) ((iv (sq 2))) c2 ++ (wH E (q 3) ((iv (bq 3))) ((iv (sq 3))) c3 ++ []))))))))) [.ref (a 0), .int (iv (ps)), .int (iv (pi)), .long (pv)] (fun r u => r = (q_write bq sq cq ph ps pi pv).1 ∧ RepC u (A, K, ik, (q_write bq sq cq ph ps pi pv).2.2, tq, tn, bq, sq, (q_write bq sq cq ph ps pi pv).2.1)) (fun u => wT E a k b t x q u) := by
  refine goIL (S := Tc) (post := fun r u => r = (q_write bq sq cq ph ps pi pv).1 ∧ RepC u (A, K, ik, (q_write bq sq cq ph ps pi pv).2.2, tq, tn, bq, sq, (q_write bq sq cq ph ps pi pv).2.1)) (ws' := fun u => wT E a k b t x q u) (by decide) (Nat.le_of_ble_eq_true rfl) ?_
  intro pp e s m below meth c ls args Q ret X h hl
  have hl : lv_has ls 8 [(0, .ref (a 0)), (1, .int (iv (ps))), (2, .int (iv (pi))), (3, .long (pv))] := hl
  have hR : RS (xs, xi, xk, xc, xl, xr, xb, yl, yr) A := hS.1.2.2.1
  have hI : IA A := hS.1.2.2.2.1
  have hr9 : hr A ≤ 99999 := hS.1.2.2.2.2
  have hF : RF 7 fd ph := hS.2.2.1
  have hK := hS.2.1
  have hT := hS.2.2.2.1
  have hB := hS.2.2.2.2
  have hh : hr A < 1000000 := by omega
  have n8 := hI.n8
  have n0 := hI.n0
  have h0 := hI.h0
  have ht0 : 0 ≤ tn := hS.2.2.2.1.2.1
  have ht1 : tn ≤ 120 := hS.2.2.2.1.2.2.1
  have hk01 : ik = 0 ∨ ik = 1 := hS.2.1.2.1
  have hB3 : okB bq sq := hS.2.2.2.2.1
  have hH0 : RepH (iv (bq 0), iv (sq 0), c0) bq sq cq 0 := hS.2.2.2.2.2.1
  have hH1 : RepH (iv (bq 1), iv (sq 1), c1) bq sq cq 1 := hS.2.2.2.2.2.2.1
  have hH2 : RepH (iv (bq 2), iv (sq 2), c2) bq sq cq 2 := hS.2.2.2.2.2.2.2.1
  have hH3 : RepH (iv (bq 3), iv (sq 3), c3) bq sq cq 3 := hS.2.2.2.2.2.2.2.2
  refine lv_aload_n X.1 X.2.1 dX4_write_0 rfl (lv_at hl 0 rfl) ?_
  refine lv_iload_n X.1 X.2.1 dX4_write_1 rfl (lv_at hl 1 rfl) ?_
  refine z_pq (run_V (rest := []) X h (c_sheetAtN (s9 := ps) r_ps (by omega)) mi_X4_sheetAt ml_X4_184 ⟨Nat.le_of_ble_eq_true rfl, Nat.le_of_ble_eq_true rfl⟩ ⟨rfl, rfl⟩ (Seg.rfl' _) 3 0 rfl rfl rfl rfl hl.1 rfl (Nat.le_of_ble_eq_true rfl) ⟨Nat.zero_le _, Nat.zero_le _⟩ dX4_write_2) ?_
  refine W.eq (g2 := F0 m 5 ls [.null]) rfl ?_
  refine lv_astoreN (lv' := [(5, .null), (0, .ref (a 0)), (1, .int (iv (ps))), (2, .int (iv (pi))), (3, .long (pv))]) X.1 X.2.1 dX4_write_5 hl (by decide) rfl (fun ls hl => ?_)
  refine lv_aloadN X.1 X.2.1 dX4_write_7 (lv_at hl 0 rfl) ?_
  refine lv_ifnonnullN X.1 X.2.1 dX4_write_9 ?_
  refine lv_aload_n X.1 X.2.1 dX4_write_12 rfl (lv_at hl 1 rfl) ?_
  refine z_ldc (z := (-1000000001)) X ct_X4_48 (by decide) dX4_write_13 ?_
  refine z_wi (st_sing (st_nil h)) (run_V (rest := []) X (st_sing (st_nil h)) (c_X4_finding (j := 0) hF (by decide) (by decide) (by decide)) mi_X4_finding ml_X4_49 ⟨Nat.le_of_ble_eq_true rfl, Nat.le_of_ble_eq_true rfl⟩ ⟨rfl, rfl⟩ (Seg.mk' _ _) 3 0 rfl rfl rfl rfl hl.1 rfl (Nat.le_of_ble_eq_true rfl) ⟨Nat.zero_le _, Nat.zero_le _⟩ dX4_write_15) (fun _ => map_app (wO_map _ _ _ _ _ _ _ _ _ _ _) rfl) (fun r fd1 H locs hp h => ?_)
  have h := (st_lin (st_gnis h))
  obtain ⟨rfl, hF1⟩ := hp
  have h : St E _ s H locs (wO E a k b t x q ((iv (ik))) fd1 ++ (wS E k ((hk)) ((nk)) (k1, k2, k3, k4, k5, k6, k7, k8, k9) ++ (wS E b ((iv (hr A))) ((iv (pe A))) (xs, xi, xk, xc, xl, xr, xb, yl, yr) ++ (wS E t ((ht)) ((nt)) (t1, t2, t3, t4, t5, t6, t7, t8, t9) ++ (wX E x ((iv (tn))) ((e1)) ((e2)) ((e3)) ((e4)) tp ++ (wH E (q 0) ((iv (bq 0))) ((iv (sq 0))) c0 ++ (wH E (q 1) ((iv (bq 1))) ((iv (sq 1))) c1 ++ (wH E (q 2) ((iv (bq 2))) ((iv (sq 2))) c2 ++ (wH E (q 3) ((iv (bq 3))) ((iv (sq 3))) c3 ++ []))))))))) := h
  refine lv_i2l (v := (iv ((-1000000001))).toInt64) X.1 X.2.1 dX4_write_18 rfl ?_
  have e9 : q_write bq sq cq ph ps pi pv = ((iv ((-1000000001))).toInt64, cq, (bump ph 0)) := by unfold q_write; (repeat (first | rw [if_pos (by omega)] | rw [if_neg (by omega)])); try rfl
  exact ret _ _ _ _ _ (((iv (ik)), fd1), ((hk), (nk), (k1, k2, k3, k4, k5, k6, k7, k8, k9)), ((iv (hr A)), (iv (pe A)), (xs, xi, xk, xc, xl, xr, xb, yl, yr)), ((ht), (nt), (t1, t2, t3, t4, t5, t6, t7, t8, t9)), ((iv (tn)), (e1), (e2), (e3), (e4), tp), ((iv (bq 0)), (iv (sq 0)), c0), ((iv (bq 1)), (iv (sq 1)), c1), ((iv (bq 2)), (iv (sq 2)), c2), ((iv (bq 3)), (iv (sq 3)), c3)) h (by rw [e9]; exact ⟨rfl, ⟨⟨rfl, rfl, hR, hI, hr9⟩, hK, hF1, hT, hB⟩⟩) dX4_write_19

theorem c_X4_write (hS : RepC (((iv (ik)), fd), ((hk), (nk), (k1, k2, k3, k4, k5, k6, k7, k8, k9)), ((iv (hr A)), (iv (pe A)), (xs, xi, xk, xc, xl, xr, xb, yl, yr)), ((ht), (nt), (t1, t2, t3, t4, t5, t6, t7, t8, t9)), ((iv (tn)), (e1), (e2), (e3), (e4), tp), ((iv (bq 0)), (iv (sq 0)), c0), ((iv (bq 1)), (iv (sq 1)), c1), ((iv (bq 2)), (iv (sq 2)), c2), ((iv (bq 3)), (iv (sq 3)), c3)) (A, K, ik, ph, tq, tn, bq, sq, cq)) {ps : Int} (r_ps : r32 ps) {pi : Int} (r_pi : r32 pi) {pv : Int64} : MIL (S := Tc) E l yX4_write cX4_write 8 (some FieldType.long) (rmk 2 44) (wO E a k b t x q ((iv (ik))) fd ++ (wS E k ((hk)) ((nk)) (k1, k2, k3, k4, k5, k6, k7, k8, k9) ++ (wS E b ((iv (hr A))) ((iv (pe A))) (xs, xi, xk, xc, xl, xr, xb, yl, yr) ++ (wS E t ((ht)) ((nt)) (t1, t2, t3, t4, t5, t6, t7, t8, t9) ++ (wX E x ((iv (tn))) ((e1)) ((e2)) ((e3)) ((e4)) tp ++ (wH E (q 0) ((iv (bq 0))) ((iv (sq 0))) c0 ++ (wH E (q 1) ((iv (bq 1))) ((iv (sq 1))) c1 ++ (wH E (q 2) ((iv (bq 2))) ((iv (sq 2))) c2 ++ (wH E (q 3) ((iv (bq 3))) ((iv (sq 3))) c3 ++ []))))))))) [.ref (a 0), .int (iv (ps)), .int (iv (pi)), .long (pv)] (fun r u => r = (q_write bq sq cq ph ps pi pv).1 ∧ RepC u (A, K, ik, (q_write bq sq cq ph ps pi pv).2.2, tq, tn, bq, sq, (q_write bq sq cq ph ps pi pv).2.1)) (fun u => wT E a k b t x q u) := by
  rcases (show ps = 0 ∨ ps = 1 ∨ ps = 2 ∨ ps = 3 ∨ (ps < 0 ∨ 3 < ps) by omega) with rfl | rfl | rfl | rfl | ho
  · exact c_X4_write_0 hS r_pi
  · exact c_X4_write_1 hS r_pi
  · exact c_X4_write_2 hS r_pi
  · exact c_X4_write_3 hS r_pi
  · exact c_X4_write_N hS r_ps r_pi ho

set_option maxHeartbeats 4000000 in
theorem c_X4_sheet_0 (hS : RepC (((iv (ik)), fd), ((hk), (nk), (k1, k2, k3, k4, k5, k6, k7, k8, k9)), ((iv (hr A)), (iv (pe A)), (xs, xi, xk, xc, xl, xr, xb, yl, yr)), ((ht), (nt), (t1, t2, t3, t4, t5, t6, t7, t8, t9)), ((iv (tn)), (e1), (e2), (e3), (e4), tp), ((iv (bq 0)), (iv (sq 0)), c0), ((iv (bq 1)), (iv (sq 1)), c1), ((iv (bq 2)), (iv (sq 2)), c2), ((iv (bq 3)), (iv (sq 3)), c3)) (A, K, ik, ph, tq, tn, bq, sq, cq)) {pb : Int} (r_pb : r32 pb) {pn : Int} (r_pn : r32 pn) : MI (S := Tc) E l yX4_sheet cX4_sheet 5 (some FieldType.int) (rmk 2 46) (wO E a k b t x q ((iv (ik))) fd ++ (wS E k ((hk)) ((nk)) (k1, k2, k3, k4, k5, k6, k7, k8, k9) ++ (wS E b ((iv (hr A))) ((iv (pe A))) (xs, xi, xk, xc, xl, xr, xb, yl, yr) ++ (wS E t ((ht)) ((nt)) (t1, t2, t3, t4, t5, t6, t7, t8, t9) ++ (wX E x ((iv (tn))) ((e1)) ((e2)) ((e3)) ((e4)) tp ++ (wH E (q 0) ((iv (bq 0))) ((iv (sq 0))) c0 ++ (wH E (q 1) ((iv (bq 1))) ((iv (sq 1))) c1 ++ (wH E (q 2) ((iv (bq 2))) ((iv (sq 2))) c2 ++ (wH E (q 3) ((iv (bq 3))) ((iv (sq 3))) c3 ++ []))))))))) [.ref (a 0), .int (iv (0)), .int (iv (pb)), .int (iv (pn))] (fun r u => r = iv ((q_sheet bq sq cq ph 0 pb pn).1) ∧ RepC u (A, K, ik, (q_sheet bq sq cq ph 0 pb pn).2.2.2.2, tq, tn, (q_sheet bq sq cq ph 0 pb pn).2.1, (q_sheet bq sq cq ph 0 pb pn).2.2.1, (q_sheet bq sq cq ph 0 pb pn).2.2.2.1)) (fun u => wT E a k b t x q u) := by
  refine goI (S := Tc) (post := fun r u => r = iv ((q_sheet bq sq cq ph 0 pb pn).1) ∧ RepC u (A, K, ik, (q_sheet bq sq cq ph 0 pb pn).2.2.2.2, tq, tn, (q_sheet bq sq cq ph 0 pb pn).2.1, (q_sheet bq sq cq ph 0 pb pn).2.2.1, (q_sheet bq sq cq ph 0 pb pn).2.2.2.1)) (ws' := fun u => wT E a k b t x q u) (by decide) (Nat.le_of_ble_eq_true rfl) ?_
  intro pp e s m below meth c ls args Q ret X h hl
  have hl : lv_has ls 5 [(0, .ref (a 0)), (1, .int (iv (0))), (2, .int (iv (pb))), (3, .int (iv (pn)))] := hl
  have hR : RS (xs, xi, xk, xc, xl, xr, xb, yl, yr) A := hS.1.2.2.1
  have hI : IA A := hS.1.2.2.2.1
  have hr9 : hr A ≤ 99999 := hS.1.2.2.2.2
  have hF : RF 7 fd ph := hS.2.2.1
  have hK := hS.2.1
  have hT := hS.2.2.2.1
  have hB := hS.2.2.2.2
  have hh : hr A < 1000000 := by omega
  have n8 := hI.n8
  have n0 := hI.n0
  have h0 := hI.h0
  have ht0 : 0 ≤ tn := hS.2.2.2.1.2.1
  have ht1 : tn ≤ 120 := hS.2.2.2.1.2.2.1
  have hk01 : ik = 0 ∨ ik = 1 := hS.2.1.2.1
  have hB3 : okB bq sq := hS.2.2.2.2.1
  have hH0 : RepH (iv (bq 0), iv (sq 0), c0) bq sq cq 0 := hS.2.2.2.2.2.1
  have hH1 : RepH (iv (bq 1), iv (sq 1), c1) bq sq cq 1 := hS.2.2.2.2.2.2.1
  have hH2 : RepH (iv (bq 2), iv (sq 2), c2) bq sq cq 2 := hS.2.2.2.2.2.2.2.1
  have hH3 : RepH (iv (bq 3), iv (sq 3), c3) bq sq cq 3 := hS.2.2.2.2.2.2.2.2
  have ob0 := hB3.1 0 (by omega) (by omega)
  have zb0 := hB3.2 0 (by omega) (by omega)
  refine lv_aload_n X.1 X.2.1 dX4_sheet_0 rfl (lv_at hl 0 rfl) ?_
  refine lv_iload_n X.1 X.2.1 dX4_sheet_1 rfl (lv_at hl 1 rfl) ?_
  refine z_pq (run_V (rest := []) X h (c_sheetAt0) mi_X4_sheetAt ml_X4_184 ⟨Nat.le_of_ble_eq_true rfl, Nat.le_of_ble_eq_true rfl⟩ ⟨rfl, rfl⟩ (Seg.rfl' _) 3 0 rfl rfl rfl rfl hl.1 rfl (Nat.le_of_ble_eq_true rfl) ⟨Nat.zero_le _, Nat.zero_le _⟩ dX4_sheet_2) ?_
  refine W.eq (g2 := F0 m 5 ls [.ref (q 0 0)]) rfl ?_
  refine lv_astore (lv' := [(4, .ref (q 0 0)), (0, .ref (a 0)), (1, .int (iv (0))), (2, .int (iv (pb))), (3, .int (iv (pn)))]) X.1 X.2.1 dX4_sheet_5 hl (by decide) rfl (fun ls hl => ?_)
  refine lv_aload X.1 X.2.1 dX4_sheet_7 (lv_at hl 0 rfl) ?_
  refine lv_ifnull X.1 X.2.1 dX4_sheet_9 ?_
  refine lv_iload_n X.1 X.2.1 dX4_sheet_12 rfl (lv_at hl 3 rfl) ?_
  refine z_if_eq (tgt := 41) X r_pb dX4_sheet_13 (by decide) (fun c_13 => ?_) (fun c_13 => ?_)
  · refine lv_iload_n X.1 X.2.1 dX4_sheet_41 rfl (lv_at hl 4 rfl) ?_
    refine z_if_ge (tgt := 52) X r_pn dX4_sheet_42 (by decide) (fun c_42 => ?_) (fun c_42 => ?_)
    · refine lv_iload_n X.1 X.2.1 dX4_sheet_52 rfl (lv_at hl 4 rfl) ?_
      refine z_bipush X (by decide) dX4_sheet_53 ?_
      refine z_ic_le (tgt := 65) X r_pn ⟨by decide, by decide⟩ dX4_sheet_55 (by decide) (fun c_55 => ?_) (fun c_55 => ?_)
      · refine lv_aload X.1 X.2.1 dX4_sheet_65 (lv_at hl 0 rfl) ?_
        refine lv_iload_n X.1 X.2.1 dX4_sheet_67 rfl (lv_at hl 3 rfl) ?_
        refine lv_iload_n X.1 X.2.1 dX4_sheet_68 rfl (lv_at hl 4 rfl) ?_
        refine z_wv (st_sing (st_in (st_in (st_in (st_in (st_in (st_nil h))))))) (run_V (rest := []) X (st_sing (st_in (st_in (st_in (st_in (st_in (st_nil h))))))) (c_X0_begin (y := q 0) (b9 := pb) (n9 := pn) r_pb) mi_X0_begin ml_X4_189 ⟨Nat.le_of_ble_eq_true rfl, Nat.le_of_ble_eq_true rfl⟩ ⟨rfl, rfl⟩ (Seg.mk' _ _) 0 35 rfl rfl rfl rfl hl.1 rfl (Nat.le_of_ble_eq_true rfl) ⟨Nat.zero_le _, Nat.zero_le _⟩ dX4_sheet_69) (fun _ => map_app (wH_map _ _ _ _ _ _ _ _) rfl) (fun fz9 H locs hz9 h => ?_)
        have h := (st_lin (st_out (st_out (st_out (st_out (st_out (st_gnis h)))))))
        have h : St E _ s H locs (wO E a k b t x q ((iv (ik))) fd ++ (wS E k ((hk)) ((nk)) (k1, k2, k3, k4, k5, k6, k7, k8, k9) ++ (wS E b ((iv (hr A))) ((iv (pe A))) (xs, xi, xk, xc, xl, xr, xb, yl, yr) ++ (wS E t ((ht)) ((nt)) (t1, t2, t3, t4, t5, t6, t7, t8, t9) ++ (wX E x ((iv (tn))) ((e1)) ((e2)) ((e3)) ((e4)) tp ++ (wH E (q 0) ((iv (pb))) ((iv (if pb = 0 then 0 else pn))) fz9 ++ (wH E (q 1) ((iv (bq 1))) ((iv (sq 1))) c1 ++ (wH E (q 2) ((iv (bq 2))) ((iv (sq 2))) c2 ++ (wH E (q 3) ((iv (bq 3))) ((iv (sq 3))) c3 ++ []))))))))) := h
        refine lv_aload X.1 X.2.1 dX4_sheet_72 (lv_at hl 0 rfl) ?_
        refine z_get X h 0 35 1 rfl inX0 rfl (by decide) fl_X4_192 rfl dX4_sheet_74 ?_
        have e9 : q_sheet bq sq cq ph 0 pb pn = (if pb = 0 then 0 else pn, (fu bq 0 pb), (fu sq 0 (if pb = 0 then 0 else pn)), (fun t j => if t = 0 then 0 else cq t j), ph) := by unfold q_sheet; (repeat (first | rw [if_pos (by omega)] | rw [if_neg (by omega)])); try rfl
        exact ret _ _ _ _ _ (((iv (ik)), fd), ((hk), (nk), (k1, k2, k3, k4, k5, k6, k7, k8, k9)), ((iv (hr A)), (iv (pe A)), (xs, xi, xk, xc, xl, xr, xb, yl, yr)), ((ht), (nt), (t1, t2, t3, t4, t5, t6, t7, t8, t9)), ((iv (tn)), (e1), (e2), (e3), (e4), tp), ((iv (pb)), (iv (if pb = 0 then 0 else pn)), fz9), ((iv (bq 1)), (iv (sq 1)), c1), ((iv (bq 2)), (iv (sq 2)), c2), ((iv (bq 3)), (iv (sq 3)), c3)) h (by rw [e9]; exact ⟨rfl, ⟨⟨rfl, rfl, hR, hI, hr9⟩, hK, hF, hT, ⟨okB_fu hB3 (by omega) (by omega) (by split <;> omega), RepH_nw hz9, RepH_nn hH1 (by decide), RepH_nn hH2 (by decide), RepH_nn hH3 (by decide)⟩⟩⟩) dX4_sheet_77
      · refine lv_aload_n X.1 X.2.1 dX4_sheet_58 rfl (lv_at hl 1 rfl) ?_
        refine z_ldc (z := (-1000000001)) X ct_X4_48 (by decide) dX4_sheet_59 ?_
        refine z_wi (st_sing (st_nil h)) (run_V (rest := []) X (st_sing (st_nil h)) (c_X4_finding (j := 0) hF (by decide) (by decide) (by decide)) mi_X4_finding ml_X4_49 ⟨Nat.le_of_ble_eq_true rfl, Nat.le_of_ble_eq_true rfl⟩ ⟨rfl, rfl⟩ (Seg.mk' _ _) 3 0 rfl rfl rfl rfl hl.1 rfl (Nat.le_of_ble_eq_true rfl) ⟨Nat.zero_le _, Nat.zero_le _⟩ dX4_sheet_61) (fun _ => map_app (wO_map _ _ _ _ _ _ _ _ _ _ _) rfl) (fun r fd1 H locs hp h => ?_)
        have h := (st_lin (st_gnis h))
        obtain ⟨rfl, hF1⟩ := hp
        have h : St E _ s H locs (wO E a k b t x q ((iv (ik))) fd1 ++ (wS E k ((hk)) ((nk)) (k1, k2, k3, k4, k5, k6, k7, k8, k9) ++ (wS E b ((iv (hr A))) ((iv (pe A))) (xs, xi, xk, xc, xl, xr, xb, yl, yr) ++ (wS E t ((ht)) ((nt)) (t1, t2, t3, t4, t5, t6, t7, t8, t9) ++ (wX E x ((iv (tn))) ((e1)) ((e2)) ((e3)) ((e4)) tp ++ (wH E (q 0) ((iv (bq 0))) ((iv (sq 0))) c0 ++ (wH E (q 1) ((iv (bq 1))) ((iv (sq 1))) c1 ++ (wH E (q 2) ((iv (bq 2))) ((iv (sq 2))) c2 ++ (wH E (q 3) ((iv (bq 3))) ((iv (sq 3))) c3 ++ []))))))))) := h
        have e9 : q_sheet bq sq cq ph 0 pb pn = ((-1000000001), bq, sq, cq, (bump ph 0)) := by unfold q_sheet; (repeat (first | rw [if_pos (by omega)] | rw [if_neg (by omega)])); try rfl
        exact ret _ _ _ _ _ (((iv (ik)), fd1), ((hk), (nk), (k1, k2, k3, k4, k5, k6, k7, k8, k9)), ((iv (hr A)), (iv (pe A)), (xs, xi, xk, xc, xl, xr, xb, yl, yr)), ((ht), (nt), (t1, t2, t3, t4, t5, t6, t7, t8, t9)), ((iv (tn)), (e1), (e2), (e3), (e4), tp), ((iv (bq 0)), (iv (sq 0)), c0), ((iv (bq 1)), (iv (sq 1)), c1), ((iv (bq 2)), (iv (sq 2)), c2), ((iv (bq 3)), (iv (sq 3)), c3)) h (by rw [e9]; exact ⟨rfl, ⟨⟨rfl, rfl, hR, hI, hr9⟩, hK, hF1, hT, hB⟩⟩) dX4_sheet_64
    · refine lv_aload_n X.1 X.2.1 dX4_sheet_45 rfl (lv_at hl 1 rfl) ?_
      refine z_ldc (z := (-1000000007)) X ct_X4_188 (by decide) dX4_sheet_46 ?_
      refine z_wi (st_sing (st_nil h)) (run_V (rest := []) X (st_sing (st_nil h)) (c_X4_finding (j := 6) hF (by decide) (by decide) (by decide)) mi_X4_finding ml_X4_49 ⟨Nat.le_of_ble_eq_true rfl, Nat.le_of_ble_eq_true rfl⟩ ⟨rfl, rfl⟩ (Seg.mk' _ _) 3 0 rfl rfl rfl rfl hl.1 rfl (Nat.le_of_ble_eq_true rfl) ⟨Nat.zero_le _, Nat.zero_le _⟩ dX4_sheet_48) (fun _ => map_app (wO_map _ _ _ _ _ _ _ _ _ _ _) rfl) (fun r fd2 H locs hp h => ?_)
      have h := (st_lin (st_gnis h))
      obtain ⟨rfl, hF2⟩ := hp
      have h : St E _ s H locs (wO E a k b t x q ((iv (ik))) fd2 ++ (wS E k ((hk)) ((nk)) (k1, k2, k3, k4, k5, k6, k7, k8, k9) ++ (wS E b ((iv (hr A))) ((iv (pe A))) (xs, xi, xk, xc, xl, xr, xb, yl, yr) ++ (wS E t ((ht)) ((nt)) (t1, t2, t3, t4, t5, t6, t7, t8, t9) ++ (wX E x ((iv (tn))) ((e1)) ((e2)) ((e3)) ((e4)) tp ++ (wH E (q 0) ((iv (bq 0))) ((iv (sq 0))) c0 ++ (wH E (q 1) ((iv (bq 1))) ((iv (sq 1))) c1 ++ (wH E (q 2) ((iv (bq 2))) ((iv (sq 2))) c2 ++ (wH E (q 3) ((iv (bq 3))) ((iv (sq 3))) c3 ++ []))))))))) := h
      have e9 : q_sheet bq sq cq ph 0 pb pn = ((-1000000007), bq, sq, cq, (bump ph 6)) := by unfold q_sheet; (repeat (first | rw [if_pos (by omega)] | rw [if_neg (by omega)])); try rfl
      exact ret _ _ _ _ _ (((iv (ik)), fd2), ((hk), (nk), (k1, k2, k3, k4, k5, k6, k7, k8, k9)), ((iv (hr A)), (iv (pe A)), (xs, xi, xk, xc, xl, xr, xb, yl, yr)), ((ht), (nt), (t1, t2, t3, t4, t5, t6, t7, t8, t9)), ((iv (tn)), (e1), (e2), (e3), (e4), tp), ((iv (bq 0)), (iv (sq 0)), c0), ((iv (bq 1)), (iv (sq 1)), c1), ((iv (bq 2)), (iv (sq 2)), c2), ((iv (bq 3)), (iv (sq 3)), c3)) h (by rw [e9]; exact ⟨rfl, ⟨⟨rfl, rfl, hR, hI, hr9⟩, hK, hF2, hT, hB⟩⟩) dX4_sheet_51
  · refine lv_iload_n X.1 X.2.1 dX4_sheet_16 rfl (lv_at hl 3 rfl) ?_
    refine z_bipush X (by decide) dX4_sheet_17 ?_
    refine z_ic_eq (tgt := 41) X r_pb ⟨by decide, by decide⟩ dX4_sheet_19 (by decide) (fun c_19 => ?_) (fun c_19 => ?_)
    · refine lv_iload_n X.1 X.2.1 dX4_sheet_41 rfl (lv_at hl 4 rfl) ?_
      refine z_if_ge (tgt := 52) X r_pn dX4_sheet_42 (by decide) (fun c_42 => ?_) (fun c_42 => ?_)
      · refine lv_iload_n X.1 X.2.1 dX4_sheet_52 rfl (lv_at hl 4 rfl) ?_
        refine z_bipush X (by decide) dX4_sheet_53 ?_
        refine z_ic_le (tgt := 65) X r_pn ⟨by decide, by decide⟩ dX4_sheet_55 (by decide) (fun c_55 => ?_) (fun c_55 => ?_)
        · refine lv_aload X.1 X.2.1 dX4_sheet_65 (lv_at hl 0 rfl) ?_
          refine lv_iload_n X.1 X.2.1 dX4_sheet_67 rfl (lv_at hl 3 rfl) ?_
          refine lv_iload_n X.1 X.2.1 dX4_sheet_68 rfl (lv_at hl 4 rfl) ?_
          refine z_wv (st_sing (st_in (st_in (st_in (st_in (st_in (st_nil h))))))) (run_V (rest := []) X (st_sing (st_in (st_in (st_in (st_in (st_in (st_nil h))))))) (c_X0_begin (y := q 0) (b9 := pb) (n9 := pn) r_pb) mi_X0_begin ml_X4_189 ⟨Nat.le_of_ble_eq_true rfl, Nat.le_of_ble_eq_true rfl⟩ ⟨rfl, rfl⟩ (Seg.mk' _ _) 0 35 rfl rfl rfl rfl hl.1 rfl (Nat.le_of_ble_eq_true rfl) ⟨Nat.zero_le _, Nat.zero_le _⟩ dX4_sheet_69) (fun _ => map_app (wH_map _ _ _ _ _ _ _ _) rfl) (fun fz9 H locs hz9 h => ?_)
          have h := (st_lin (st_out (st_out (st_out (st_out (st_out (st_gnis h)))))))
          have h : St E _ s H locs (wO E a k b t x q ((iv (ik))) fd ++ (wS E k ((hk)) ((nk)) (k1, k2, k3, k4, k5, k6, k7, k8, k9) ++ (wS E b ((iv (hr A))) ((iv (pe A))) (xs, xi, xk, xc, xl, xr, xb, yl, yr) ++ (wS E t ((ht)) ((nt)) (t1, t2, t3, t4, t5, t6, t7, t8, t9) ++ (wX E x ((iv (tn))) ((e1)) ((e2)) ((e3)) ((e4)) tp ++ (wH E (q 0) ((iv (pb))) ((iv (if pb = 0 then 0 else pn))) fz9 ++ (wH E (q 1) ((iv (bq 1))) ((iv (sq 1))) c1 ++ (wH E (q 2) ((iv (bq 2))) ((iv (sq 2))) c2 ++ (wH E (q 3) ((iv (bq 3))) ((iv (sq 3))) c3 ++ []))))))))) := h
          refine lv_aload X.1 X.2.1 dX4_sheet_72 (lv_at hl 0 rfl) ?_
          refine z_get X h 0 35 1 rfl inX0 rfl (by decide) fl_X4_192 rfl dX4_sheet_74 ?_
          have e9 : q_sheet bq sq cq ph 0 pb pn = (if pb = 0 then 0 else pn, (fu bq 0 pb), (fu sq 0 (if pb = 0 then 0 else pn)), (fun t j => if t = 0 then 0 else cq t j), ph) := by unfold q_sheet; (repeat (first | rw [if_pos (by omega)] | rw [if_neg (by omega)])); try rfl
          exact ret _ _ _ _ _ (((iv (ik)), fd), ((hk), (nk), (k1, k2, k3, k4, k5, k6, k7, k8, k9)), ((iv (hr A)), (iv (pe A)), (xs, xi, xk, xc, xl, xr, xb, yl, yr)), ((ht), (nt), (t1, t2, t3, t4, t5, t6, t7, t8, t9)), ((iv (tn)), (e1), (e2), (e3), (e4), tp), ((iv (pb)), (iv (if pb = 0 then 0 else pn)), fz9), ((iv (bq 1)), (iv (sq 1)), c1), ((iv (bq 2)), (iv (sq 2)), c2), ((iv (bq 3)), (iv (sq 3)), c3)) h (by rw [e9]; exact ⟨rfl, ⟨⟨rfl, rfl, hR, hI, hr9⟩, hK, hF, hT, ⟨okB_fu hB3 (by omega) (by omega) (by split <;> omega), RepH_nw hz9, RepH_nn hH1 (by decide), RepH_nn hH2 (by decide), RepH_nn hH3 (by decide)⟩⟩⟩) dX4_sheet_77
        · refine lv_aload_n X.1 X.2.1 dX4_sheet_58 rfl (lv_at hl 1 rfl) ?_
          refine z_ldc (z := (-1000000001)) X ct_X4_48 (by decide) dX4_sheet_59 ?_
          refine z_wi (st_sing (st_nil h)) (run_V (rest := []) X (st_sing (st_nil h)) (c_X4_finding (j := 0) hF (by decide) (by decide) (by decide)) mi_X4_finding ml_X4_49 ⟨Nat.le_of_ble_eq_true rfl, Nat.le_of_ble_eq_true rfl⟩ ⟨rfl, rfl⟩ (Seg.mk' _ _) 3 0 rfl rfl rfl rfl hl.1 rfl (Nat.le_of_ble_eq_true rfl) ⟨Nat.zero_le _, Nat.zero_le _⟩ dX4_sheet_61) (fun _ => map_app (wO_map _ _ _ _ _ _ _ _ _ _ _) rfl) (fun r fd3 H locs hp h => ?_)
          have h := (st_lin (st_gnis h))
          obtain ⟨rfl, hF3⟩ := hp
          have h : St E _ s H locs (wO E a k b t x q ((iv (ik))) fd3 ++ (wS E k ((hk)) ((nk)) (k1, k2, k3, k4, k5, k6, k7, k8, k9) ++ (wS E b ((iv (hr A))) ((iv (pe A))) (xs, xi, xk, xc, xl, xr, xb, yl, yr) ++ (wS E t ((ht)) ((nt)) (t1, t2, t3, t4, t5, t6, t7, t8, t9) ++ (wX E x ((iv (tn))) ((e1)) ((e2)) ((e3)) ((e4)) tp ++ (wH E (q 0) ((iv (bq 0))) ((iv (sq 0))) c0 ++ (wH E (q 1) ((iv (bq 1))) ((iv (sq 1))) c1 ++ (wH E (q 2) ((iv (bq 2))) ((iv (sq 2))) c2 ++ (wH E (q 3) ((iv (bq 3))) ((iv (sq 3))) c3 ++ []))))))))) := h
          have e9 : q_sheet bq sq cq ph 0 pb pn = ((-1000000001), bq, sq, cq, (bump ph 0)) := by unfold q_sheet; (repeat (first | rw [if_pos (by omega)] | rw [if_neg (by omega)])); try rfl
          exact ret _ _ _ _ _ (((iv (ik)), fd3), ((hk), (nk), (k1, k2, k3, k4, k5, k6, k7, k8, k9)), ((iv (hr A)), (iv (pe A)), (xs, xi, xk, xc, xl, xr, xb, yl, yr)), ((ht), (nt), (t1, t2, t3, t4, t5, t6, t7, t8, t9)), ((iv (tn)), (e1), (e2), (e3), (e4), tp), ((iv (bq 0)), (iv (sq 0)), c0), ((iv (bq 1)), (iv (sq 1)), c1), ((iv (bq 2)), (iv (sq 2)), c2), ((iv (bq 3)), (iv (sq 3)), c3)) h (by rw [e9]; exact ⟨rfl, ⟨⟨rfl, rfl, hR, hI, hr9⟩, hK, hF3, hT, hB⟩⟩) dX4_sheet_64
      · refine lv_aload_n X.1 X.2.1 dX4_sheet_45 rfl (lv_at hl 1 rfl) ?_
        refine z_ldc (z := (-1000000007)) X ct_X4_188 (by decide) dX4_sheet_46 ?_
        refine z_wi (st_sing (st_nil h)) (run_V (rest := []) X (st_sing (st_nil h)) (c_X4_finding (j := 6) hF (by decide) (by decide) (by decide)) mi_X4_finding ml_X4_49 ⟨Nat.le_of_ble_eq_true rfl, Nat.le_of_ble_eq_true rfl⟩ ⟨rfl, rfl⟩ (Seg.mk' _ _) 3 0 rfl rfl rfl rfl hl.1 rfl (Nat.le_of_ble_eq_true rfl) ⟨Nat.zero_le _, Nat.zero_le _⟩ dX4_sheet_48) (fun _ => map_app (wO_map _ _ _ _ _ _ _ _ _ _ _) rfl) (fun r fd4 H locs hp h => ?_)
        have h := (st_lin (st_gnis h))
        obtain ⟨rfl, hF4⟩ := hp
        have h : St E _ s H locs (wO E a k b t x q ((iv (ik))) fd4 ++ (wS E k ((hk)) ((nk)) (k1, k2, k3, k4, k5, k6, k7, k8, k9) ++ (wS E b ((iv (hr A))) ((iv (pe A))) (xs, xi, xk, xc, xl, xr, xb, yl, yr) ++ (wS E t ((ht)) ((nt)) (t1, t2, t3, t4, t5, t6, t7, t8, t9) ++ (wX E x ((iv (tn))) ((e1)) ((e2)) ((e3)) ((e4)) tp ++ (wH E (q 0) ((iv (bq 0))) ((iv (sq 0))) c0 ++ (wH E (q 1) ((iv (bq 1))) ((iv (sq 1))) c1 ++ (wH E (q 2) ((iv (bq 2))) ((iv (sq 2))) c2 ++ (wH E (q 3) ((iv (bq 3))) ((iv (sq 3))) c3 ++ []))))))))) := h
        have e9 : q_sheet bq sq cq ph 0 pb pn = ((-1000000007), bq, sq, cq, (bump ph 6)) := by unfold q_sheet; (repeat (first | rw [if_pos (by omega)] | rw [if_neg (by omega)])); try rfl
        exact ret _ _ _ _ _ (((iv (ik)), fd4), ((hk), (nk), (k1, k2, k3, k4, k5, k6, k7, k8, k9)), ((iv (hr A)), (iv (pe A)), (xs, xi, xk, xc, xl, xr, xb, yl, yr)), ((ht), (nt), (t1, t2, t3, t4, t5, t6, t7, t8, t9)), ((iv (tn)), (e1), (e2), (e3), (e4), tp), ((iv (bq 0)), (iv (sq 0)), c0), ((iv (bq 1)), (iv (sq 1)), c1), ((iv (bq 2)), (iv (sq 2)), c2), ((iv (bq 3)), (iv (sq 3)), c3)) h (by rw [e9]; exact ⟨rfl, ⟨⟨rfl, rfl, hR, hI, hr9⟩, hK, hF4, hT, hB⟩⟩) dX4_sheet_51
    · refine lv_iload_n X.1 X.2.1 dX4_sheet_22 rfl (lv_at hl 3 rfl) ?_
      refine z_bipush X (by decide) dX4_sheet_23 ?_
      refine z_ic_eq (tgt := 41) X r_pb ⟨by decide, by decide⟩ dX4_sheet_25 (by decide) (fun c_25 => ?_) (fun c_25 => ?_)
      · refine lv_iload_n X.1 X.2.1 dX4_sheet_41 rfl (lv_at hl 4 rfl) ?_
        refine z_if_ge (tgt := 52) X r_pn dX4_sheet_42 (by decide) (fun c_42 => ?_) (fun c_42 => ?_)
        · refine lv_iload_n X.1 X.2.1 dX4_sheet_52 rfl (lv_at hl 4 rfl) ?_
          refine z_bipush X (by decide) dX4_sheet_53 ?_
          refine z_ic_le (tgt := 65) X r_pn ⟨by decide, by decide⟩ dX4_sheet_55 (by decide) (fun c_55 => ?_) (fun c_55 => ?_)
          · refine lv_aload X.1 X.2.1 dX4_sheet_65 (lv_at hl 0 rfl) ?_
            refine lv_iload_n X.1 X.2.1 dX4_sheet_67 rfl (lv_at hl 3 rfl) ?_
            refine lv_iload_n X.1 X.2.1 dX4_sheet_68 rfl (lv_at hl 4 rfl) ?_
            refine z_wv (st_sing (st_in (st_in (st_in (st_in (st_in (st_nil h))))))) (run_V (rest := []) X (st_sing (st_in (st_in (st_in (st_in (st_in (st_nil h))))))) (c_X0_begin (y := q 0) (b9 := pb) (n9 := pn) r_pb) mi_X0_begin ml_X4_189 ⟨Nat.le_of_ble_eq_true rfl, Nat.le_of_ble_eq_true rfl⟩ ⟨rfl, rfl⟩ (Seg.mk' _ _) 0 35 rfl rfl rfl rfl hl.1 rfl (Nat.le_of_ble_eq_true rfl) ⟨Nat.zero_le _, Nat.zero_le _⟩ dX4_sheet_69) (fun _ => map_app (wH_map _ _ _ _ _ _ _ _) rfl) (fun fz9 H locs hz9 h => ?_)
            have h := (st_lin (st_out (st_out (st_out (st_out (st_out (st_gnis h)))))))
            have h : St E _ s H locs (wO E a k b t x q ((iv (ik))) fd ++ (wS E k ((hk)) ((nk)) (k1, k2, k3, k4, k5, k6, k7, k8, k9) ++ (wS E b ((iv (hr A))) ((iv (pe A))) (xs, xi, xk, xc, xl, xr, xb, yl, yr) ++ (wS E t ((ht)) ((nt)) (t1, t2, t3, t4, t5, t6, t7, t8, t9) ++ (wX E x ((iv (tn))) ((e1)) ((e2)) ((e3)) ((e4)) tp ++ (wH E (q 0) ((iv (pb))) ((iv (if pb = 0 then 0 else pn))) fz9 ++ (wH E (q 1) ((iv (bq 1))) ((iv (sq 1))) c1 ++ (wH E (q 2) ((iv (bq 2))) ((iv (sq 2))) c2 ++ (wH E (q 3) ((iv (bq 3))) ((iv (sq 3))) c3 ++ []))))))))) := h
            refine lv_aload X.1 X.2.1 dX4_sheet_72 (lv_at hl 0 rfl) ?_
            refine z_get X h 0 35 1 rfl inX0 rfl (by decide) fl_X4_192 rfl dX4_sheet_74 ?_
            have e9 : q_sheet bq sq cq ph 0 pb pn = (if pb = 0 then 0 else pn, (fu bq 0 pb), (fu sq 0 (if pb = 0 then 0 else pn)), (fun t j => if t = 0 then 0 else cq t j), ph) := by unfold q_sheet; (repeat (first | rw [if_pos (by omega)] | rw [if_neg (by omega)])); try rfl
            exact ret _ _ _ _ _ (((iv (ik)), fd), ((hk), (nk), (k1, k2, k3, k4, k5, k6, k7, k8, k9)), ((iv (hr A)), (iv (pe A)), (xs, xi, xk, xc, xl, xr, xb, yl, yr)), ((ht), (nt), (t1, t2, t3, t4, t5, t6, t7, t8, t9)), ((iv (tn)), (e1), (e2), (e3), (e4), tp), ((iv (pb)), (iv (if pb = 0 then 0 else pn)), fz9), ((iv (bq 1)), (iv (sq 1)), c1), ((iv (bq 2)), (iv (sq 2)), c2), ((iv (bq 3)), (iv (sq 3)), c3)) h (by rw [e9]; exact ⟨rfl, ⟨⟨rfl, rfl, hR, hI, hr9⟩, hK, hF, hT, ⟨okB_fu hB3 (by omega) (by omega) (by split <;> omega), RepH_nw hz9, RepH_nn hH1 (by decide), RepH_nn hH2 (by decide), RepH_nn hH3 (by decide)⟩⟩⟩) dX4_sheet_77
          · refine lv_aload_n X.1 X.2.1 dX4_sheet_58 rfl (lv_at hl 1 rfl) ?_
            refine z_ldc (z := (-1000000001)) X ct_X4_48 (by decide) dX4_sheet_59 ?_
            refine z_wi (st_sing (st_nil h)) (run_V (rest := []) X (st_sing (st_nil h)) (c_X4_finding (j := 0) hF (by decide) (by decide) (by decide)) mi_X4_finding ml_X4_49 ⟨Nat.le_of_ble_eq_true rfl, Nat.le_of_ble_eq_true rfl⟩ ⟨rfl, rfl⟩ (Seg.mk' _ _) 3 0 rfl rfl rfl rfl hl.1 rfl (Nat.le_of_ble_eq_true rfl) ⟨Nat.zero_le _, Nat.zero_le _⟩ dX4_sheet_61) (fun _ => map_app (wO_map _ _ _ _ _ _ _ _ _ _ _) rfl) (fun r fd5 H locs hp h => ?_)
            have h := (st_lin (st_gnis h))
            obtain ⟨rfl, hF5⟩ := hp
            have h : St E _ s H locs (wO E a k b t x q ((iv (ik))) fd5 ++ (wS E k ((hk)) ((nk)) (k1, k2, k3, k4, k5, k6, k7, k8, k9) ++ (wS E b ((iv (hr A))) ((iv (pe A))) (xs, xi, xk, xc, xl, xr, xb, yl, yr) ++ (wS E t ((ht)) ((nt)) (t1, t2, t3, t4, t5, t6, t7, t8, t9) ++ (wX E x ((iv (tn))) ((e1)) ((e2)) ((e3)) ((e4)) tp ++ (wH E (q 0) ((iv (bq 0))) ((iv (sq 0))) c0 ++ (wH E (q 1) ((iv (bq 1))) ((iv (sq 1))) c1 ++ (wH E (q 2) ((iv (bq 2))) ((iv (sq 2))) c2 ++ (wH E (q 3) ((iv (bq 3))) ((iv (sq 3))) c3 ++ []))))))))) := h
            have e9 : q_sheet bq sq cq ph 0 pb pn = ((-1000000001), bq, sq, cq, (bump ph 0)) := by unfold q_sheet; (repeat (first | rw [if_pos (by omega)] | rw [if_neg (by omega)])); try rfl
            exact ret _ _ _ _ _ (((iv (ik)), fd5), ((hk), (nk), (k1, k2, k3, k4, k5, k6, k7, k8, k9)), ((iv (hr A)), (iv (pe A)), (xs, xi, xk, xc, xl, xr, xb, yl, yr)), ((ht), (nt), (t1, t2, t3, t4, t5, t6, t7, t8, t9)), ((iv (tn)), (e1), (e2), (e3), (e4), tp), ((iv (bq 0)), (iv (sq 0)), c0), ((iv (bq 1)), (iv (sq 1)), c1), ((iv (bq 2)), (iv (sq 2)), c2), ((iv (bq 3)), (iv (sq 3)), c3)) h (by rw [e9]; exact ⟨rfl, ⟨⟨rfl, rfl, hR, hI, hr9⟩, hK, hF5, hT, hB⟩⟩) dX4_sheet_64
        · refine lv_aload_n X.1 X.2.1 dX4_sheet_45 rfl (lv_at hl 1 rfl) ?_
          refine z_ldc (z := (-1000000007)) X ct_X4_188 (by decide) dX4_sheet_46 ?_
          refine z_wi (st_sing (st_nil h)) (run_V (rest := []) X (st_sing (st_nil h)) (c_X4_finding (j := 6) hF (by decide) (by decide) (by decide)) mi_X4_finding ml_X4_49 ⟨Nat.le_of_ble_eq_true rfl, Nat.le_of_ble_eq_true rfl⟩ ⟨rfl, rfl⟩ (Seg.mk' _ _) 3 0 rfl rfl rfl rfl hl.1 rfl (Nat.le_of_ble_eq_true rfl) ⟨Nat.zero_le _, Nat.zero_le _⟩ dX4_sheet_48) (fun _ => map_app (wO_map _ _ _ _ _ _ _ _ _ _ _) rfl) (fun r fd6 H locs hp h => ?_)
          have h := (st_lin (st_gnis h))
          obtain ⟨rfl, hF6⟩ := hp
          have h : St E _ s H locs (wO E a k b t x q ((iv (ik))) fd6 ++ (wS E k ((hk)) ((nk)) (k1, k2, k3, k4, k5, k6, k7, k8, k9) ++ (wS E b ((iv (hr A))) ((iv (pe A))) (xs, xi, xk, xc, xl, xr, xb, yl, yr) ++ (wS E t ((ht)) ((nt)) (t1, t2, t3, t4, t5, t6, t7, t8, t9) ++ (wX E x ((iv (tn))) ((e1)) ((e2)) ((e3)) ((e4)) tp ++ (wH E (q 0) ((iv (bq 0))) ((iv (sq 0))) c0 ++ (wH E (q 1) ((iv (bq 1))) ((iv (sq 1))) c1 ++ (wH E (q 2) ((iv (bq 2))) ((iv (sq 2))) c2 ++ (wH E (q 3) ((iv (bq 3))) ((iv (sq 3))) c3 ++ []))))))))) := h
          have e9 : q_sheet bq sq cq ph 0 pb pn = ((-1000000007), bq, sq, cq, (bump ph 6)) := by unfold q_sheet; (repeat (first | rw [if_pos (by omega)] | rw [if_neg (by omega)])); try rfl
          exact ret _ _ _ _ _ (((iv (ik)), fd6), ((hk), (nk), (k1, k2, k3, k4, k5, k6, k7, k8, k9)), ((iv (hr A)), (iv (pe A)), (xs, xi, xk, xc, xl, xr, xb, yl, yr)), ((ht), (nt), (t1, t2, t3, t4, t5, t6, t7, t8, t9)), ((iv (tn)), (e1), (e2), (e3), (e4), tp), ((iv (bq 0)), (iv (sq 0)), c0), ((iv (bq 1)), (iv (sq 1)), c1), ((iv (bq 2)), (iv (sq 2)), c2), ((iv (bq 3)), (iv (sq 3)), c3)) h (by rw [e9]; exact ⟨rfl, ⟨⟨rfl, rfl, hR, hI, hr9⟩, hK, hF6, hT, hB⟩⟩) dX4_sheet_51
      · refine lv_iload_n X.1 X.2.1 dX4_sheet_28 rfl (lv_at hl 3 rfl) ?_
        refine z_bipush X (by decide) dX4_sheet_29 ?_
        refine z_ic_eq (tgt := 41) X r_pb ⟨by decide, by decide⟩ dX4_sheet_31 (by decide) (fun c_31 => ?_) (fun c_31 => ?_)
        · refine lv_iload_n X.1 X.2.1 dX4_sheet_41 rfl (lv_at hl 4 rfl) ?_
          refine z_if_ge (tgt := 52) X r_pn dX4_sheet_42 (by decide) (fun c_42 => ?_) (fun c_42 => ?_)
          · refine lv_iload_n X.1 X.2.1 dX4_sheet_52 rfl (lv_at hl 4 rfl) ?_
            refine z_bipush X (by decide) dX4_sheet_53 ?_
            refine z_ic_le (tgt := 65) X r_pn ⟨by decide, by decide⟩ dX4_sheet_55 (by decide) (fun c_55 => ?_) (fun c_55 => ?_)
            · refine lv_aload X.1 X.2.1 dX4_sheet_65 (lv_at hl 0 rfl) ?_
              refine lv_iload_n X.1 X.2.1 dX4_sheet_67 rfl (lv_at hl 3 rfl) ?_
              refine lv_iload_n X.1 X.2.1 dX4_sheet_68 rfl (lv_at hl 4 rfl) ?_
              refine z_wv (st_sing (st_in (st_in (st_in (st_in (st_in (st_nil h))))))) (run_V (rest := []) X (st_sing (st_in (st_in (st_in (st_in (st_in (st_nil h))))))) (c_X0_begin (y := q 0) (b9 := pb) (n9 := pn) r_pb) mi_X0_begin ml_X4_189 ⟨Nat.le_of_ble_eq_true rfl, Nat.le_of_ble_eq_true rfl⟩ ⟨rfl, rfl⟩ (Seg.mk' _ _) 0 35 rfl rfl rfl rfl hl.1 rfl (Nat.le_of_ble_eq_true rfl) ⟨Nat.zero_le _, Nat.zero_le _⟩ dX4_sheet_69) (fun _ => map_app (wH_map _ _ _ _ _ _ _ _) rfl) (fun fz9 H locs hz9 h => ?_)
              have h := (st_lin (st_out (st_out (st_out (st_out (st_out (st_gnis h)))))))
              have h : St E _ s H locs (wO E a k b t x q ((iv (ik))) fd ++ (wS E k ((hk)) ((nk)) (k1, k2, k3, k4, k5, k6, k7, k8, k9) ++ (wS E b ((iv (hr A))) ((iv (pe A))) (xs, xi, xk, xc, xl, xr, xb, yl, yr) ++ (wS E t ((ht)) ((nt)) (t1, t2, t3, t4, t5, t6, t7, t8, t9) ++ (wX E x ((iv (tn))) ((e1)) ((e2)) ((e3)) ((e4)) tp ++ (wH E (q 0) ((iv (pb))) ((iv (if pb = 0 then 0 else pn))) fz9 ++ (wH E (q 1) ((iv (bq 1))) ((iv (sq 1))) c1 ++ (wH E (q 2) ((iv (bq 2))) ((iv (sq 2))) c2 ++ (wH E (q 3) ((iv (bq 3))) ((iv (sq 3))) c3 ++ []))))))))) := h
              refine lv_aload X.1 X.2.1 dX4_sheet_72 (lv_at hl 0 rfl) ?_
              refine z_get X h 0 35 1 rfl inX0 rfl (by decide) fl_X4_192 rfl dX4_sheet_74 ?_
              have e9 : q_sheet bq sq cq ph 0 pb pn = (if pb = 0 then 0 else pn, (fu bq 0 pb), (fu sq 0 (if pb = 0 then 0 else pn)), (fun t j => if t = 0 then 0 else cq t j), ph) := by unfold q_sheet; (repeat (first | rw [if_pos (by omega)] | rw [if_neg (by omega)])); try rfl
              exact ret _ _ _ _ _ (((iv (ik)), fd), ((hk), (nk), (k1, k2, k3, k4, k5, k6, k7, k8, k9)), ((iv (hr A)), (iv (pe A)), (xs, xi, xk, xc, xl, xr, xb, yl, yr)), ((ht), (nt), (t1, t2, t3, t4, t5, t6, t7, t8, t9)), ((iv (tn)), (e1), (e2), (e3), (e4), tp), ((iv (pb)), (iv (if pb = 0 then 0 else pn)), fz9), ((iv (bq 1)), (iv (sq 1)), c1), ((iv (bq 2)), (iv (sq 2)), c2), ((iv (bq 3)), (iv (sq 3)), c3)) h (by rw [e9]; exact ⟨rfl, ⟨⟨rfl, rfl, hR, hI, hr9⟩, hK, hF, hT, ⟨okB_fu hB3 (by omega) (by omega) (by split <;> omega), RepH_nw hz9, RepH_nn hH1 (by decide), RepH_nn hH2 (by decide), RepH_nn hH3 (by decide)⟩⟩⟩) dX4_sheet_77
            · refine lv_aload_n X.1 X.2.1 dX4_sheet_58 rfl (lv_at hl 1 rfl) ?_
              refine z_ldc (z := (-1000000001)) X ct_X4_48 (by decide) dX4_sheet_59 ?_
              refine z_wi (st_sing (st_nil h)) (run_V (rest := []) X (st_sing (st_nil h)) (c_X4_finding (j := 0) hF (by decide) (by decide) (by decide)) mi_X4_finding ml_X4_49 ⟨Nat.le_of_ble_eq_true rfl, Nat.le_of_ble_eq_true rfl⟩ ⟨rfl, rfl⟩ (Seg.mk' _ _) 3 0 rfl rfl rfl rfl hl.1 rfl (Nat.le_of_ble_eq_true rfl) ⟨Nat.zero_le _, Nat.zero_le _⟩ dX4_sheet_61) (fun _ => map_app (wO_map _ _ _ _ _ _ _ _ _ _ _) rfl) (fun r fd7 H locs hp h => ?_)
              have h := (st_lin (st_gnis h))
              obtain ⟨rfl, hF7⟩ := hp
              have h : St E _ s H locs (wO E a k b t x q ((iv (ik))) fd7 ++ (wS E k ((hk)) ((nk)) (k1, k2, k3, k4, k5, k6, k7, k8, k9) ++ (wS E b ((iv (hr A))) ((iv (pe A))) (xs, xi, xk, xc, xl, xr, xb, yl, yr) ++ (wS E t ((ht)) ((nt)) (t1, t2, t3, t4, t5, t6, t7, t8, t9) ++ (wX E x ((iv (tn))) ((e1)) ((e2)) ((e3)) ((e4)) tp ++ (wH E (q 0) ((iv (bq 0))) ((iv (sq 0))) c0 ++ (wH E (q 1) ((iv (bq 1))) ((iv (sq 1))) c1 ++ (wH E (q 2) ((iv (bq 2))) ((iv (sq 2))) c2 ++ (wH E (q 3) ((iv (bq 3))) ((iv (sq 3))) c3 ++ []))))))))) := h
              have e9 : q_sheet bq sq cq ph 0 pb pn = ((-1000000001), bq, sq, cq, (bump ph 0)) := by unfold q_sheet; (repeat (first | rw [if_pos (by omega)] | rw [if_neg (by omega)])); try rfl
              exact ret _ _ _ _ _ (((iv (ik)), fd7), ((hk), (nk), (k1, k2, k3, k4, k5, k6, k7, k8, k9)), ((iv (hr A)), (iv (pe A)), (xs, xi, xk, xc, xl, xr, xb, yl, yr)), ((ht), (nt), (t1, t2, t3, t4, t5, t6, t7, t8, t9)), ((iv (tn)), (e1), (e2), (e3), (e4), tp), ((iv (bq 0)), (iv (sq 0)), c0), ((iv (bq 1)), (iv (sq 1)), c1), ((iv (bq 2)), (iv (sq 2)), c2), ((iv (bq 3)), (iv (sq 3)), c3)) h (by rw [e9]; exact ⟨rfl, ⟨⟨rfl, rfl, hR, hI, hr9⟩, hK, hF7, hT, hB⟩⟩) dX4_sheet_64
          · refine lv_aload_n X.1 X.2.1 dX4_sheet_45 rfl (lv_at hl 1 rfl) ?_
            refine z_ldc (z := (-1000000007)) X ct_X4_188 (by decide) dX4_sheet_46 ?_
            refine z_wi (st_sing (st_nil h)) (run_V (rest := []) X (st_sing (st_nil h)) (c_X4_finding (j := 6) hF (by decide) (by decide) (by decide)) mi_X4_finding ml_X4_49 ⟨Nat.le_of_ble_eq_true rfl, Nat.le_of_ble_eq_true rfl⟩ ⟨rfl, rfl⟩ (Seg.mk' _ _) 3 0 rfl rfl rfl rfl hl.1 rfl (Nat.le_of_ble_eq_true rfl) ⟨Nat.zero_le _, Nat.zero_le _⟩ dX4_sheet_48) (fun _ => map_app (wO_map _ _ _ _ _ _ _ _ _ _ _) rfl) (fun r fd8 H locs hp h => ?_)
            have h := (st_lin (st_gnis h))
            obtain ⟨rfl, hF8⟩ := hp
            have h : St E _ s H locs (wO E a k b t x q ((iv (ik))) fd8 ++ (wS E k ((hk)) ((nk)) (k1, k2, k3, k4, k5, k6, k7, k8, k9) ++ (wS E b ((iv (hr A))) ((iv (pe A))) (xs, xi, xk, xc, xl, xr, xb, yl, yr) ++ (wS E t ((ht)) ((nt)) (t1, t2, t3, t4, t5, t6, t7, t8, t9) ++ (wX E x ((iv (tn))) ((e1)) ((e2)) ((e3)) ((e4)) tp ++ (wH E (q 0) ((iv (bq 0))) ((iv (sq 0))) c0 ++ (wH E (q 1) ((iv (bq 1))) ((iv (sq 1))) c1 ++ (wH E (q 2) ((iv (bq 2))) ((iv (sq 2))) c2 ++ (wH E (q 3) ((iv (bq 3))) ((iv (sq 3))) c3 ++ []))))))))) := h
            have e9 : q_sheet bq sq cq ph 0 pb pn = ((-1000000007), bq, sq, cq, (bump ph 6)) := by unfold q_sheet; (repeat (first | rw [if_pos (by omega)] | rw [if_neg (by omega)])); try rfl
            exact ret _ _ _ _ _ (((iv (ik)), fd8), ((hk), (nk), (k1, k2, k3, k4, k5, k6, k7, k8, k9)), ((iv (hr A)), (iv (pe A)), (xs, xi, xk, xc, xl, xr, xb, yl, yr)), ((ht), (nt), (t1, t2, t3, t4, t5, t6, t7, t8, t9)), ((iv (tn)), (e1), (e2), (e3), (e4), tp), ((iv (bq 0)), (iv (sq 0)), c0), ((iv (bq 1)), (iv (sq 1)), c1), ((iv (bq 2)), (iv (sq 2)), c2), ((iv (bq 3)), (iv (sq 3)), c3)) h (by rw [e9]; exact ⟨rfl, ⟨⟨rfl, rfl, hR, hI, hr9⟩, hK, hF8, hT, hB⟩⟩) dX4_sheet_51
        · refine lv_aload_n X.1 X.2.1 dX4_sheet_34 rfl (lv_at hl 1 rfl) ?_
          refine z_ldc (z := (-1000000001)) X ct_X4_48 (by decide) dX4_sheet_35 ?_
          refine z_wi (st_sing (st_nil h)) (run_V (rest := []) X (st_sing (st_nil h)) (c_X4_finding (j := 0) hF (by decide) (by decide) (by decide)) mi_X4_finding ml_X4_49 ⟨Nat.le_of_ble_eq_true rfl, Nat.le_of_ble_eq_true rfl⟩ ⟨rfl, rfl⟩ (Seg.mk' _ _) 3 0 rfl rfl rfl rfl hl.1 rfl (Nat.le_of_ble_eq_true rfl) ⟨Nat.zero_le _, Nat.zero_le _⟩ dX4_sheet_37) (fun _ => map_app (wO_map _ _ _ _ _ _ _ _ _ _ _) rfl) (fun r fd9 H locs hp h => ?_)
          have h := (st_lin (st_gnis h))
          obtain ⟨rfl, hF9⟩ := hp
          have h : St E _ s H locs (wO E a k b t x q ((iv (ik))) fd9 ++ (wS E k ((hk)) ((nk)) (k1, k2, k3, k4, k5, k6, k7, k8, k9) ++ (wS E b ((iv (hr A))) ((iv (pe A))) (xs, xi, xk, xc, xl, xr, xb, yl, yr) ++ (wS E t ((ht)) ((nt)) (t1, t2, t3, t4, t5, t6, t7, t8, t9) ++ (wX E x ((iv (tn))) ((e1)) ((e2)) ((e3)) ((e4)) tp ++ (wH E (q 0) ((iv (bq 0))) ((iv (sq 0))) c0 ++ (wH E (q 1) ((iv (bq 1))) ((iv (sq 1))) c1 ++ (wH E (q 2) ((iv (bq 2))) ((iv (sq 2))) c2 ++ (wH E (q 3) ((iv (bq 3))) ((iv (sq 3))) c3 ++ []))))))))) := h
          have e9 : q_sheet bq sq cq ph 0 pb pn = ((-1000000001), bq, sq, cq, (bump ph 0)) := by unfold q_sheet; (repeat (first | rw [if_pos (by omega)] | rw [if_neg (by omega)])); try rfl
          exact ret _ _ _ _ _ (((iv (ik)), fd9), ((hk), (nk), (k1, k2, k3, k4, k5, k6, k7, k8, k9)), ((iv (hr A)), (iv (pe A)), (xs, xi, xk, xc, xl, xr, xb, yl, yr)), ((ht), (nt), (t1, t2, t3, t4, t5, t6, t7, t8, t9)), ((iv (tn)), (e1), (e2), (e3), (e4), tp), ((iv (bq 0)), (iv (sq 0)), c0), ((iv (bq 1)), (iv (sq 1)), c1), ((iv (bq 2)), (iv (sq 2)), c2), ((iv (bq 3)), (iv (sq 3)), c3)) h (by rw [e9]; exact ⟨rfl, ⟨⟨rfl, rfl, hR, hI, hr9⟩, hK, hF9, hT, hB⟩⟩) dX4_sheet_40

set_option maxHeartbeats 4000000 in
theorem c_X4_sheet_1 (hS : RepC (((iv (ik)), fd), ((hk), (nk), (k1, k2, k3, k4, k5, k6, k7, k8, k9)), ((iv (hr A)), (iv (pe A)), (xs, xi, xk, xc, xl, xr, xb, yl, yr)), ((ht), (nt), (t1, t2, t3, t4, t5, t6, t7, t8, t9)), ((iv (tn)), (e1), (e2), (e3), (e4), tp), ((iv (bq 0)), (iv (sq 0)), c0), ((iv (bq 1)), (iv (sq 1)), c1), ((iv (bq 2)), (iv (sq 2)), c2), ((iv (bq 3)), (iv (sq 3)), c3)) (A, K, ik, ph, tq, tn, bq, sq, cq)) {pb : Int} (r_pb : r32 pb) {pn : Int} (r_pn : r32 pn) : MI (S := Tc) E l yX4_sheet cX4_sheet 5 (some FieldType.int) (rmk 2 46) (wO E a k b t x q ((iv (ik))) fd ++ (wS E k ((hk)) ((nk)) (k1, k2, k3, k4, k5, k6, k7, k8, k9) ++ (wS E b ((iv (hr A))) ((iv (pe A))) (xs, xi, xk, xc, xl, xr, xb, yl, yr) ++ (wS E t ((ht)) ((nt)) (t1, t2, t3, t4, t5, t6, t7, t8, t9) ++ (wX E x ((iv (tn))) ((e1)) ((e2)) ((e3)) ((e4)) tp ++ (wH E (q 0) ((iv (bq 0))) ((iv (sq 0))) c0 ++ (wH E (q 1) ((iv (bq 1))) ((iv (sq 1))) c1 ++ (wH E (q 2) ((iv (bq 2))) ((iv (sq 2))) c2 ++ (wH E (q 3) ((iv (bq 3))) ((iv (sq 3))) c3 ++ []))))))))) [.ref (a 0), .int (iv (1)), .int (iv (pb)), .int (iv (pn))] (fun r u => r = iv ((q_sheet bq sq cq ph 1 pb pn).1) ∧ RepC u (A, K, ik, (q_sheet bq sq cq ph 1 pb pn).2.2.2.2, tq, tn, (q_sheet bq sq cq ph 1 pb pn).2.1, (q_sheet bq sq cq ph 1 pb pn).2.2.1, (q_sheet bq sq cq ph 1 pb pn).2.2.2.1)) (fun u => wT E a k b t x q u) := by
  refine goI (S := Tc) (post := fun r u => r = iv ((q_sheet bq sq cq ph 1 pb pn).1) ∧ RepC u (A, K, ik, (q_sheet bq sq cq ph 1 pb pn).2.2.2.2, tq, tn, (q_sheet bq sq cq ph 1 pb pn).2.1, (q_sheet bq sq cq ph 1 pb pn).2.2.1, (q_sheet bq sq cq ph 1 pb pn).2.2.2.1)) (ws' := fun u => wT E a k b t x q u) (by decide) (Nat.le_of_ble_eq_true rfl) ?_
  intro pp e s m below meth c ls args Q ret X h hl
  have hl : lv_has ls 5 [(0, .ref (a 0)), (1, .int (iv (1))), (2, .int (iv (pb))), (3, .int (iv (pn)))] := hl
  have hR : RS (xs, xi, xk, xc, xl, xr, xb, yl, yr) A := hS.1.2.2.1
  have hI : IA A := hS.1.2.2.2.1
  have hr9 : hr A ≤ 99999 := hS.1.2.2.2.2
  have hF : RF 7 fd ph := hS.2.2.1
  have hK := hS.2.1
  have hT := hS.2.2.2.1
  have hB := hS.2.2.2.2
  have hh : hr A < 1000000 := by omega
  have n8 := hI.n8
  have n0 := hI.n0
  have h0 := hI.h0
  have ht0 : 0 ≤ tn := hS.2.2.2.1.2.1
  have ht1 : tn ≤ 120 := hS.2.2.2.1.2.2.1
  have hk01 : ik = 0 ∨ ik = 1 := hS.2.1.2.1
  have hB3 : okB bq sq := hS.2.2.2.2.1
  have hH0 : RepH (iv (bq 0), iv (sq 0), c0) bq sq cq 0 := hS.2.2.2.2.2.1
  have hH1 : RepH (iv (bq 1), iv (sq 1), c1) bq sq cq 1 := hS.2.2.2.2.2.2.1
  have hH2 : RepH (iv (bq 2), iv (sq 2), c2) bq sq cq 2 := hS.2.2.2.2.2.2.2.1
  have hH3 : RepH (iv (bq 3), iv (sq 3), c3) bq sq cq 3 := hS.2.2.2.2.2.2.2.2
  have ob1 := hB3.1 1 (by omega) (by omega)
  have zb1 := hB3.2 1 (by omega) (by omega)
  refine lv_aload_n X.1 X.2.1 dX4_sheet_0 rfl (lv_at hl 0 rfl) ?_
  refine lv_iload_n X.1 X.2.1 dX4_sheet_1 rfl (lv_at hl 1 rfl) ?_
  refine z_pq (run_V (rest := []) X h (c_sheetAt1) mi_X4_sheetAt ml_X4_184 ⟨Nat.le_of_ble_eq_true rfl, Nat.le_of_ble_eq_true rfl⟩ ⟨rfl, rfl⟩ (Seg.rfl' _) 3 0 rfl rfl rfl rfl hl.1 rfl (Nat.le_of_ble_eq_true rfl) ⟨Nat.zero_le _, Nat.zero_le _⟩ dX4_sheet_2) ?_
  refine W.eq (g2 := F0 m 5 ls [.ref (q 1 0)]) rfl ?_
  refine lv_astore (lv' := [(4, .ref (q 1 0)), (0, .ref (a 0)), (1, .int (iv (1))), (2, .int (iv (pb))), (3, .int (iv (pn)))]) X.1 X.2.1 dX4_sheet_5 hl (by decide) rfl (fun ls hl => ?_)
  refine lv_aload X.1 X.2.1 dX4_sheet_7 (lv_at hl 0 rfl) ?_
  refine lv_ifnull X.1 X.2.1 dX4_sheet_9 ?_
  refine lv_iload_n X.1 X.2.1 dX4_sheet_12 rfl (lv_at hl 3 rfl) ?_
  refine z_if_eq (tgt := 41) X r_pb dX4_sheet_13 (by decide) (fun c_13 => ?_) (fun c_13 => ?_)
  · refine lv_iload_n X.1 X.2.1 dX4_sheet_41 rfl (lv_at hl 4 rfl) ?_
    refine z_if_ge (tgt := 52) X r_pn dX4_sheet_42 (by decide) (fun c_42 => ?_) (fun c_42 => ?_)
    · refine lv_iload_n X.1 X.2.1 dX4_sheet_52 rfl (lv_at hl 4 rfl) ?_
      refine z_bipush X (by decide) dX4_sheet_53 ?_
      refine z_ic_le (tgt := 65) X r_pn ⟨by decide, by decide⟩ dX4_sheet_55 (by decide) (fun c_55 => ?_) (fun c_55 => ?_)
      · refine lv_aload X.1 X.2.1 dX4_sheet_65 (lv_at hl 0 rfl) ?_
        refine lv_iload_n X.1 X.2.1 dX4_sheet_67 rfl (lv_at hl 3 rfl) ?_
        refine lv_iload_n X.1 X.2.1 dX4_sheet_68 rfl (lv_at hl 4 rfl) ?_
        refine z_wv (st_sing (st_in (st_in (st_in (st_in (st_in (st_in (st_nil h)))))))) (run_V (rest := []) X (st_sing (st_in (st_in (st_in (st_in (st_in (st_in (st_nil h)))))))) (c_X0_begin (y := q 1) (b9 := pb) (n9 := pn) r_pb) mi_X0_begin ml_X4_189 ⟨Nat.le_of_ble_eq_true rfl, Nat.le_of_ble_eq_true rfl⟩ ⟨rfl, rfl⟩ (Seg.mk' _ _) 0 37 rfl rfl rfl rfl hl.1 rfl (Nat.le_of_ble_eq_true rfl) ⟨Nat.zero_le _, Nat.zero_le _⟩ dX4_sheet_69) (fun _ => map_app (wH_map _ _ _ _ _ _ _ _) rfl) (fun fz9 H locs hz9 h => ?_)
        have h := (st_lin (st_out (st_out (st_out (st_out (st_out (st_out (st_gnis h))))))))
        have h : St E _ s H locs (wO E a k b t x q ((iv (ik))) fd ++ (wS E k ((hk)) ((nk)) (k1, k2, k3, k4, k5, k6, k7, k8, k9) ++ (wS E b ((iv (hr A))) ((iv (pe A))) (xs, xi, xk, xc, xl, xr, xb, yl, yr) ++ (wS E t ((ht)) ((nt)) (t1, t2, t3, t4, t5, t6, t7, t8, t9) ++ (wX E x ((iv (tn))) ((e1)) ((e2)) ((e3)) ((e4)) tp ++ (wH E (q 0) ((iv (bq 0))) ((iv (sq 0))) c0 ++ (wH E (q 1) ((iv (pb))) ((iv (if pb = 0 then 0 else pn))) fz9 ++ (wH E (q 2) ((iv (bq 2))) ((iv (sq 2))) c2 ++ (wH E (q 3) ((iv (bq 3))) ((iv (sq 3))) c3 ++ []))))))))) := h
        refine lv_aload X.1 X.2.1 dX4_sheet_72 (lv_at hl 0 rfl) ?_
        refine z_get X h 0 37 1 rfl inX0 rfl (by decide) fl_X4_192 rfl dX4_sheet_74 ?_
        have e9 : q_sheet bq sq cq ph 1 pb pn = (if pb = 0 then 0 else pn, (fu bq 1 pb), (fu sq 1 (if pb = 0 then 0 else pn)), (fun t j => if t = 1 then 0 else cq t j), ph) := by unfold q_sheet; (repeat (first | rw [if_pos (by omega)] | rw [if_neg (by omega)])); try rfl
        exact ret _ _ _ _ _ (((iv (ik)), fd), ((hk), (nk), (k1, k2, k3, k4, k5, k6, k7, k8, k9)), ((iv (hr A)), (iv (pe A)), (xs, xi, xk, xc, xl, xr, xb, yl, yr)), ((ht), (nt), (t1, t2, t3, t4, t5, t6, t7, t8, t9)), ((iv (tn)), (e1), (e2), (e3), (e4), tp), ((iv (bq 0)), (iv (sq 0)), c0), ((iv (pb)), (iv (if pb = 0 then 0 else pn)), fz9), ((iv (bq 2)), (iv (sq 2)), c2), ((iv (bq 3)), (iv (sq 3)), c3)) h (by rw [e9]; exact ⟨rfl, ⟨⟨rfl, rfl, hR, hI, hr9⟩, hK, hF, hT, ⟨okB_fu hB3 (by omega) (by omega) (by split <;> omega), RepH_nn hH0 (by decide), RepH_nw hz9, RepH_nn hH2 (by decide), RepH_nn hH3 (by decide)⟩⟩⟩) dX4_sheet_77
      · refine lv_aload_n X.1 X.2.1 dX4_sheet_58 rfl (lv_at hl 1 rfl) ?_
        refine z_ldc (z := (-1000000001)) X ct_X4_48 (by decide) dX4_sheet_59 ?_
        refine z_wi (st_sing (st_nil h)) (run_V (rest := []) X (st_sing (st_nil h)) (c_X4_finding (j := 0) hF (by decide) (by decide) (by decide)) mi_X4_finding ml_X4_49 ⟨Nat.le_of_ble_eq_true rfl, Nat.le_of_ble_eq_true rfl⟩ ⟨rfl, rfl⟩ (Seg.mk' _ _) 3 0 rfl rfl rfl rfl hl.1 rfl (Nat.le_of_ble_eq_true rfl) ⟨Nat.zero_le _, Nat.zero_le _⟩ dX4_sheet_61) (fun _ => map_app (wO_map _ _ _ _ _ _ _ _ _ _ _) rfl) (fun r fd1 H locs hp h => ?_)
        have h := (st_lin (st_gnis h))
        obtain ⟨rfl, hF1⟩ := hp
        have h : St E _ s H locs (wO E a k b t x q ((iv (ik))) fd1 ++ (wS E k ((hk)) ((nk)) (k1, k2, k3, k4, k5, k6, k7, k8, k9) ++ (wS E b ((iv (hr A))) ((iv (pe A))) (xs, xi, xk, xc, xl, xr, xb, yl, yr) ++ (wS E t ((ht)) ((nt)) (t1, t2, t3, t4, t5, t6, t7, t8, t9) ++ (wX E x ((iv (tn))) ((e1)) ((e2)) ((e3)) ((e4)) tp ++ (wH E (q 0) ((iv (bq 0))) ((iv (sq 0))) c0 ++ (wH E (q 1) ((iv (bq 1))) ((iv (sq 1))) c1 ++ (wH E (q 2) ((iv (bq 2))) ((iv (sq 2))) c2 ++ (wH E (q 3) ((iv (bq 3))) ((iv (sq 3))) c3 ++ []))))))))) := h
        have e9 : q_sheet bq sq cq ph 1 pb pn = ((-1000000001), bq, sq, cq, (bump ph 0)) := by unfold q_sheet; (repeat (first | rw [if_pos (by omega)] | rw [if_neg (by omega)])); try rfl
        exact ret _ _ _ _ _ (((iv (ik)), fd1), ((hk), (nk), (k1, k2, k3, k4, k5, k6, k7, k8, k9)), ((iv (hr A)), (iv (pe A)), (xs, xi, xk, xc, xl, xr, xb, yl, yr)), ((ht), (nt), (t1, t2, t3, t4, t5, t6, t7, t8, t9)), ((iv (tn)), (e1), (e2), (e3), (e4), tp), ((iv (bq 0)), (iv (sq 0)), c0), ((iv (bq 1)), (iv (sq 1)), c1), ((iv (bq 2)), (iv (sq 2)), c2), ((iv (bq 3)), (iv (sq 3)), c3)) h (by rw [e9]; exact ⟨rfl, ⟨⟨rfl, rfl, hR, hI, hr9⟩, hK, hF1, hT, hB⟩⟩) dX4_sheet_64
    · refine lv_aload_n X.1 X.2.1 dX4_sheet_45 rfl (lv_at hl 1 rfl) ?_
      refine z_ldc (z := (-1000000007)) X ct_X4_188 (by decide) dX4_sheet_46 ?_
      refine z_wi (st_sing (st_nil h)) (run_V (rest := []) X (st_sing (st_nil h)) (c_X4_finding (j := 6) hF (by decide) (by decide) (by decide)) mi_X4_finding ml_X4_49 ⟨Nat.le_of_ble_eq_true rfl, Nat.le_of_ble_eq_true rfl⟩ ⟨rfl, rfl⟩ (Seg.mk' _ _) 3 0 rfl rfl rfl rfl hl.1 rfl (Nat.le_of_ble_eq_true rfl) ⟨Nat.zero_le _, Nat.zero_le _⟩ dX4_sheet_48) (fun _ => map_app (wO_map _ _ _ _ _ _ _ _ _ _ _) rfl) (fun r fd2 H locs hp h => ?_)
      have h := (st_lin (st_gnis h))
      obtain ⟨rfl, hF2⟩ := hp
      have h : St E _ s H locs (wO E a k b t x q ((iv (ik))) fd2 ++ (wS E k ((hk)) ((nk)) (k1, k2, k3, k4, k5, k6, k7, k8, k9) ++ (wS E b ((iv (hr A))) ((iv (pe A))) (xs, xi, xk, xc, xl, xr, xb, yl, yr) ++ (wS E t ((ht)) ((nt)) (t1, t2, t3, t4, t5, t6, t7, t8, t9) ++ (wX E x ((iv (tn))) ((e1)) ((e2)) ((e3)) ((e4)) tp ++ (wH E (q 0) ((iv (bq 0))) ((iv (sq 0))) c0 ++ (wH E (q 1) ((iv (bq 1))) ((iv (sq 1))) c1 ++ (wH E (q 2) ((iv (bq 2))) ((iv (sq 2))) c2 ++ (wH E (q 3) ((iv (bq 3))) ((iv (sq 3))) c3 ++ []))))))))) := h
      have e9 : q_sheet bq sq cq ph 1 pb pn = ((-1000000007), bq, sq, cq, (bump ph 6)) := by unfold q_sheet; (repeat (first | rw [if_pos (by omega)] | rw [if_neg (by omega)])); try rfl
      exact ret _ _ _ _ _ (((iv (ik)), fd2), ((hk), (nk), (k1, k2, k3, k4, k5, k6, k7, k8, k9)), ((iv (hr A)), (iv (pe A)), (xs, xi, xk, xc, xl, xr, xb, yl, yr)), ((ht), (nt), (t1, t2, t3, t4, t5, t6, t7, t8, t9)), ((iv (tn)), (e1), (e2), (e3), (e4), tp), ((iv (bq 0)), (iv (sq 0)), c0), ((iv (bq 1)), (iv (sq 1)), c1), ((iv (bq 2)), (iv (sq 2)), c2), ((iv (bq 3)), (iv (sq 3)), c3)) h (by rw [e9]; exact ⟨rfl, ⟨⟨rfl, rfl, hR, hI, hr9⟩, hK, hF2, hT, hB⟩⟩) dX4_sheet_51
  · refine lv_iload_n X.1 X.2.1 dX4_sheet_16 rfl (lv_at hl 3 rfl) ?_
    refine z_bipush X (by decide) dX4_sheet_17 ?_
    refine z_ic_eq (tgt := 41) X r_pb ⟨by decide, by decide⟩ dX4_sheet_19 (by decide) (fun c_19 => ?_) (fun c_19 => ?_)
    · refine lv_iload_n X.1 X.2.1 dX4_sheet_41 rfl (lv_at hl 4 rfl) ?_
      refine z_if_ge (tgt := 52) X r_pn dX4_sheet_42 (by decide) (fun c_42 => ?_) (fun c_42 => ?_)
      · refine lv_iload_n X.1 X.2.1 dX4_sheet_52 rfl (lv_at hl 4 rfl) ?_
        refine z_bipush X (by decide) dX4_sheet_53 ?_
        refine z_ic_le (tgt := 65) X r_pn ⟨by decide, by decide⟩ dX4_sheet_55 (by decide) (fun c_55 => ?_) (fun c_55 => ?_)
        · refine lv_aload X.1 X.2.1 dX4_sheet_65 (lv_at hl 0 rfl) ?_
          refine lv_iload_n X.1 X.2.1 dX4_sheet_67 rfl (lv_at hl 3 rfl) ?_
          refine lv_iload_n X.1 X.2.1 dX4_sheet_68 rfl (lv_at hl 4 rfl) ?_
          refine z_wv (st_sing (st_in (st_in (st_in (st_in (st_in (st_in (st_nil h)))))))) (run_V (rest := []) X (st_sing (st_in (st_in (st_in (st_in (st_in (st_in (st_nil h)))))))) (c_X0_begin (y := q 1) (b9 := pb) (n9 := pn) r_pb) mi_X0_begin ml_X4_189 ⟨Nat.le_of_ble_eq_true rfl, Nat.le_of_ble_eq_true rfl⟩ ⟨rfl, rfl⟩ (Seg.mk' _ _) 0 37 rfl rfl rfl rfl hl.1 rfl (Nat.le_of_ble_eq_true rfl) ⟨Nat.zero_le _, Nat.zero_le _⟩ dX4_sheet_69) (fun _ => map_app (wH_map _ _ _ _ _ _ _ _) rfl) (fun fz9 H locs hz9 h => ?_)
          have h := (st_lin (st_out (st_out (st_out (st_out (st_out (st_out (st_gnis h))))))))
          have h : St E _ s H locs (wO E a k b t x q ((iv (ik))) fd ++ (wS E k ((hk)) ((nk)) (k1, k2, k3, k4, k5, k6, k7, k8, k9) ++ (wS E b ((iv (hr A))) ((iv (pe A))) (xs, xi, xk, xc, xl, xr, xb, yl, yr) ++ (wS E t ((ht)) ((nt)) (t1, t2, t3, t4, t5, t6, t7, t8, t9) ++ (wX E x ((iv (tn))) ((e1)) ((e2)) ((e3)) ((e4)) tp ++ (wH E (q 0) ((iv (bq 0))) ((iv (sq 0))) c0 ++ (wH E (q 1) ((iv (pb))) ((iv (if pb = 0 then 0 else pn))) fz9 ++ (wH E (q 2) ((iv (bq 2))) ((iv (sq 2))) c2 ++ (wH E (q 3) ((iv (bq 3))) ((iv (sq 3))) c3 ++ []))))))))) := h
          refine lv_aload X.1 X.2.1 dX4_sheet_72 (lv_at hl 0 rfl) ?_
          refine z_get X h 0 37 1 rfl inX0 rfl (by decide) fl_X4_192 rfl dX4_sheet_74 ?_
          have e9 : q_sheet bq sq cq ph 1 pb pn = (if pb = 0 then 0 else pn, (fu bq 1 pb), (fu sq 1 (if pb = 0 then 0 else pn)), (fun t j => if t = 1 then 0 else cq t j), ph) := by unfold q_sheet; (repeat (first | rw [if_pos (by omega)] | rw [if_neg (by omega)])); try rfl
          exact ret _ _ _ _ _ (((iv (ik)), fd), ((hk), (nk), (k1, k2, k3, k4, k5, k6, k7, k8, k9)), ((iv (hr A)), (iv (pe A)), (xs, xi, xk, xc, xl, xr, xb, yl, yr)), ((ht), (nt), (t1, t2, t3, t4, t5, t6, t7, t8, t9)), ((iv (tn)), (e1), (e2), (e3), (e4), tp), ((iv (bq 0)), (iv (sq 0)), c0), ((iv (pb)), (iv (if pb = 0 then 0 else pn)), fz9), ((iv (bq 2)), (iv (sq 2)), c2), ((iv (bq 3)), (iv (sq 3)), c3)) h (by rw [e9]; exact ⟨rfl, ⟨⟨rfl, rfl, hR, hI, hr9⟩, hK, hF, hT, ⟨okB_fu hB3 (by omega) (by omega) (by split <;> omega), RepH_nn hH0 (by decide), RepH_nw hz9, RepH_nn hH2 (by decide), RepH_nn hH3 (by decide)⟩⟩⟩) dX4_sheet_77
        · refine lv_aload_n X.1 X.2.1 dX4_sheet_58 rfl (lv_at hl 1 rfl) ?_
          refine z_ldc (z := (-1000000001)) X ct_X4_48 (by decide) dX4_sheet_59 ?_
          refine z_wi (st_sing (st_nil h)) (run_V (rest := []) X (st_sing (st_nil h)) (c_X4_finding (j := 0) hF (by decide) (by decide) (by decide)) mi_X4_finding ml_X4_49 ⟨Nat.le_of_ble_eq_true rfl, Nat.le_of_ble_eq_true rfl⟩ ⟨rfl, rfl⟩ (Seg.mk' _ _) 3 0 rfl rfl rfl rfl hl.1 rfl (Nat.le_of_ble_eq_true rfl) ⟨Nat.zero_le _, Nat.zero_le _⟩ dX4_sheet_61) (fun _ => map_app (wO_map _ _ _ _ _ _ _ _ _ _ _) rfl) (fun r fd3 H locs hp h => ?_)
          have h := (st_lin (st_gnis h))
          obtain ⟨rfl, hF3⟩ := hp
          have h : St E _ s H locs (wO E a k b t x q ((iv (ik))) fd3 ++ (wS E k ((hk)) ((nk)) (k1, k2, k3, k4, k5, k6, k7, k8, k9) ++ (wS E b ((iv (hr A))) ((iv (pe A))) (xs, xi, xk, xc, xl, xr, xb, yl, yr) ++ (wS E t ((ht)) ((nt)) (t1, t2, t3, t4, t5, t6, t7, t8, t9) ++ (wX E x ((iv (tn))) ((e1)) ((e2)) ((e3)) ((e4)) tp ++ (wH E (q 0) ((iv (bq 0))) ((iv (sq 0))) c0 ++ (wH E (q 1) ((iv (bq 1))) ((iv (sq 1))) c1 ++ (wH E (q 2) ((iv (bq 2))) ((iv (sq 2))) c2 ++ (wH E (q 3) ((iv (bq 3))) ((iv (sq 3))) c3 ++ []))))))))) := h
          have e9 : q_sheet bq sq cq ph 1 pb pn = ((-1000000001), bq, sq, cq, (bump ph 0)) := by unfold q_sheet; (repeat (first | rw [if_pos (by omega)] | rw [if_neg (by omega)])); try rfl
          exact ret _ _ _ _ _ (((iv (ik)), fd3), ((hk), (nk), (k1, k2, k3, k4, k5, k6, k7, k8, k9)), ((iv (hr A)), (iv (pe A)), (xs, xi, xk, xc, xl, xr, xb, yl, yr)), ((ht), (nt), (t1, t2, t3, t4, t5, t6, t7, t8, t9)), ((iv (tn)), (e1), (e2), (e3), (e4), tp), ((iv (bq 0)), (iv (sq 0)), c0), ((iv (bq 1)), (iv (sq 1)), c1), ((iv (bq 2)), (iv (sq 2)), c2), ((iv (bq 3)), (iv (sq 3)), c3)) h (by rw [e9]; exact ⟨rfl, ⟨⟨rfl, rfl, hR, hI, hr9⟩, hK, hF3, hT, hB⟩⟩) dX4_sheet_64
      · refine lv_aload_n X.1 X.2.1 dX4_sheet_45 rfl (lv_at hl 1 rfl) ?_
        refine z_ldc (z := (-1000000007)) X ct_X4_188 (by decide) dX4_sheet_46 ?_
        refine z_wi (st_sing (st_nil h)) (run_V (rest := []) X (st_sing (st_nil h)) (c_X4_finding (j := 6) hF (by decide) (by decide) (by decide)) mi_X4_finding ml_X4_49 ⟨Nat.le_of_ble_eq_true rfl, Nat.le_of_ble_eq_true rfl⟩ ⟨rfl, rfl⟩ (Seg.mk' _ _) 3 0 rfl rfl rfl rfl hl.1 rfl (Nat.le_of_ble_eq_true rfl) ⟨Nat.zero_le _, Nat.zero_le _⟩ dX4_sheet_48) (fun _ => map_app (wO_map _ _ _ _ _ _ _ _ _ _ _) rfl) (fun r fd4 H locs hp h => ?_)
        have h := (st_lin (st_gnis h))
        obtain ⟨rfl, hF4⟩ := hp
        have h : St E _ s H locs (wO E a k b t x q ((iv (ik))) fd4 ++ (wS E k ((hk)) ((nk)) (k1, k2, k3, k4, k5, k6, k7, k8, k9) ++ (wS E b ((iv (hr A))) ((iv (pe A))) (xs, xi, xk, xc, xl, xr, xb, yl, yr) ++ (wS E t ((ht)) ((nt)) (t1, t2, t3, t4, t5, t6, t7, t8, t9) ++ (wX E x ((iv (tn))) ((e1)) ((e2)) ((e3)) ((e4)) tp ++ (wH E (q 0) ((iv (bq 0))) ((iv (sq 0))) c0 ++ (wH E (q 1) ((iv (bq 1))) ((iv (sq 1))) c1 ++ (wH E (q 2) ((iv (bq 2))) ((iv (sq 2))) c2 ++ (wH E (q 3) ((iv (bq 3))) ((iv (sq 3))) c3 ++ []))))))))) := h
        have e9 : q_sheet bq sq cq ph 1 pb pn = ((-1000000007), bq, sq, cq, (bump ph 6)) := by unfold q_sheet; (repeat (first | rw [if_pos (by omega)] | rw [if_neg (by omega)])); try rfl
        exact ret _ _ _ _ _ (((iv (ik)), fd4), ((hk), (nk), (k1, k2, k3, k4, k5, k6, k7, k8, k9)), ((iv (hr A)), (iv (pe A)), (xs, xi, xk, xc, xl, xr, xb, yl, yr)), ((ht), (nt), (t1, t2, t3, t4, t5, t6, t7, t8, t9)), ((iv (tn)), (e1), (e2), (e3), (e4), tp), ((iv (bq 0)), (iv (sq 0)), c0), ((iv (bq 1)), (iv (sq 1)), c1), ((iv (bq 2)), (iv (sq 2)), c2), ((iv (bq 3)), (iv (sq 3)), c3)) h (by rw [e9]; exact ⟨rfl, ⟨⟨rfl, rfl, hR, hI, hr9⟩, hK, hF4, hT, hB⟩⟩) dX4_sheet_51
    · refine lv_iload_n X.1 X.2.1 dX4_sheet_22 rfl (lv_at hl 3 rfl) ?_
      refine z_bipush X (by decide) dX4_sheet_23 ?_
      refine z_ic_eq (tgt := 41) X r_pb ⟨by decide, by decide⟩ dX4_sheet_25 (by decide) (fun c_25 => ?_) (fun c_25 => ?_)
      · refine lv_iload_n X.1 X.2.1 dX4_sheet_41 rfl (lv_at hl 4 rfl) ?_
        refine z_if_ge (tgt := 52) X r_pn dX4_sheet_42 (by decide) (fun c_42 => ?_) (fun c_42 => ?_)
        · refine lv_iload_n X.1 X.2.1 dX4_sheet_52 rfl (lv_at hl 4 rfl) ?_
          refine z_bipush X (by decide) dX4_sheet_53 ?_
          refine z_ic_le (tgt := 65) X r_pn ⟨by decide, by decide⟩ dX4_sheet_55 (by decide) (fun c_55 => ?_) (fun c_55 => ?_)
          · refine lv_aload X.1 X.2.1 dX4_sheet_65 (lv_at hl 0 rfl) ?_
            refine lv_iload_n X.1 X.2.1 dX4_sheet_67 rfl (lv_at hl 3 rfl) ?_
            refine lv_iload_n X.1 X.2.1 dX4_sheet_68 rfl (lv_at hl 4 rfl) ?_
            refine z_wv (st_sing (st_in (st_in (st_in (st_in (st_in (st_in (st_nil h)))))))) (run_V (rest := []) X (st_sing (st_in (st_in (st_in (st_in (st_in (st_in (st_nil h)))))))) (c_X0_begin (y := q 1) (b9 := pb) (n9 := pn) r_pb) mi_X0_begin ml_X4_189 ⟨Nat.le_of_ble_eq_true rfl, Nat.le_of_ble_eq_true rfl⟩ ⟨rfl, rfl⟩ (Seg.mk' _ _) 0 37 rfl rfl rfl rfl hl.1 rfl (Nat.le_of_ble_eq_true rfl) ⟨Nat.zero_le _, Nat.zero_le _⟩ dX4_sheet_69) (fun _ => map_app (wH_map _ _ _ _ _ _ _ _) rfl) (fun fz9 H locs hz9 h => ?_)
            have h := (st_lin (st_out (st_out (st_out (st_out (st_out (st_out (st_gnis h))))))))
            have h : St E _ s H locs (wO E a k b t x q ((iv (ik))) fd ++ (wS E k ((hk)) ((nk)) (k1, k2, k3, k4, k5, k6, k7, k8, k9) ++ (wS E b ((iv (hr A))) ((iv (pe A))) (xs, xi, xk, xc, xl, xr, xb, yl, yr) ++ (wS E t ((ht)) ((nt)) (t1, t2, t3, t4, t5, t6, t7, t8, t9) ++ (wX E x ((iv (tn))) ((e1)) ((e2)) ((e3)) ((e4)) tp ++ (wH E (q 0) ((iv (bq 0))) ((iv (sq 0))) c0 ++ (wH E (q 1) ((iv (pb))) ((iv (if pb = 0 then 0 else pn))) fz9 ++ (wH E (q 2) ((iv (bq 2))) ((iv (sq 2))) c2 ++ (wH E (q 3) ((iv (bq 3))) ((iv (sq 3))) c3 ++ []))))))))) := h
            refine lv_aload X.1 X.2.1 dX4_sheet_72 (lv_at hl 0 rfl) ?_
            refine z_get X h 0 37 1 rfl inX0 rfl (by decide) fl_X4_192 rfl dX4_sheet_74 ?_
            have e9 : q_sheet bq sq cq ph 1 pb pn = (if pb = 0 then 0 else pn, (fu bq 1 pb), (fu sq 1 (if pb = 0 then 0 else pn)), (fun t j => if t = 1 then 0 else cq t j), ph) := by unfold q_sheet; (repeat (first | rw [if_pos (by omega)] | rw [if_neg (by omega)])); try rfl
            exact ret _ _ _ _ _ (((iv (ik)), fd), ((hk), (nk), (k1, k2, k3, k4, k5, k6, k7, k8, k9)), ((iv (hr A)), (iv (pe A)), (xs, xi, xk, xc, xl, xr, xb, yl, yr)), ((ht), (nt), (t1, t2, t3, t4, t5, t6, t7, t8, t9)), ((iv (tn)), (e1), (e2), (e3), (e4), tp), ((iv (bq 0)), (iv (sq 0)), c0), ((iv (pb)), (iv (if pb = 0 then 0 else pn)), fz9), ((iv (bq 2)), (iv (sq 2)), c2), ((iv (bq 3)), (iv (sq 3)), c3)) h (by rw [e9]; exact ⟨rfl, ⟨⟨rfl, rfl, hR, hI, hr9⟩, hK, hF, hT, ⟨okB_fu hB3 (by omega) (by omega) (by split <;> omega), RepH_nn hH0 (by decide), RepH_nw hz9, RepH_nn hH2 (by decide), RepH_nn hH3 (by decide)⟩⟩⟩) dX4_sheet_77
          · refine lv_aload_n X.1 X.2.1 dX4_sheet_58 rfl (lv_at hl 1 rfl) ?_
            refine z_ldc (z := (-1000000001)) X ct_X4_48 (by decide) dX4_sheet_59 ?_
            refine z_wi (st_sing (st_nil h)) (run_V (rest := []) X (st_sing (st_nil h)) (c_X4_finding (j := 0) hF (by decide) (by decide) (by decide)) mi_X4_finding ml_X4_49 ⟨Nat.le_of_ble_eq_true rfl, Nat.le_of_ble_eq_true rfl⟩ ⟨rfl, rfl⟩ (Seg.mk' _ _) 3 0 rfl rfl rfl rfl hl.1 rfl (Nat.le_of_ble_eq_true rfl) ⟨Nat.zero_le _, Nat.zero_le _⟩ dX4_sheet_61) (fun _ => map_app (wO_map _ _ _ _ _ _ _ _ _ _ _) rfl) (fun r fd5 H locs hp h => ?_)
            have h := (st_lin (st_gnis h))
            obtain ⟨rfl, hF5⟩ := hp
            have h : St E _ s H locs (wO E a k b t x q ((iv (ik))) fd5 ++ (wS E k ((hk)) ((nk)) (k1, k2, k3, k4, k5, k6, k7, k8, k9) ++ (wS E b ((iv (hr A))) ((iv (pe A))) (xs, xi, xk, xc, xl, xr, xb, yl, yr) ++ (wS E t ((ht)) ((nt)) (t1, t2, t3, t4, t5, t6, t7, t8, t9) ++ (wX E x ((iv (tn))) ((e1)) ((e2)) ((e3)) ((e4)) tp ++ (wH E (q 0) ((iv (bq 0))) ((iv (sq 0))) c0 ++ (wH E (q 1) ((iv (bq 1))) ((iv (sq 1))) c1 ++ (wH E (q 2) ((iv (bq 2))) ((iv (sq 2))) c2 ++ (wH E (q 3) ((iv (bq 3))) ((iv (sq 3))) c3 ++ []))))))))) := h
            have e9 : q_sheet bq sq cq ph 1 pb pn = ((-1000000001), bq, sq, cq, (bump ph 0)) := by unfold q_sheet; (repeat (first | rw [if_pos (by omega)] | rw [if_neg (by omega)])); try rfl
            exact ret _ _ _ _ _ (((iv (ik)), fd5), ((hk), (nk), (k1, k2, k3, k4, k5, k6, k7, k8, k9)), ((iv (hr A)), (iv (pe A)), (xs, xi, xk, xc, xl, xr, xb, yl, yr)), ((ht), (nt), (t1, t2, t3, t4, t5, t6, t7, t8, t9)), ((iv (tn)), (e1), (e2), (e3), (e4), tp), ((iv (bq 0)), (iv (sq 0)), c0), ((iv (bq 1)), (iv (sq 1)), c1), ((iv (bq 2)), (iv (sq 2)), c2), ((iv (bq 3)), (iv (sq 3)), c3)) h (by rw [e9]; exact ⟨rfl, ⟨⟨rfl, rfl, hR, hI, hr9⟩, hK, hF5, hT, hB⟩⟩) dX4_sheet_64
        · refine lv_aload_n X.1 X.2.1 dX4_sheet_45 rfl (lv_at hl 1 rfl) ?_
          refine z_ldc (z := (-1000000007)) X ct_X4_188 (by decide) dX4_sheet_46 ?_
          refine z_wi (st_sing (st_nil h)) (run_V (rest := []) X (st_sing (st_nil h)) (c_X4_finding (j := 6) hF (by decide) (by decide) (by decide)) mi_X4_finding ml_X4_49 ⟨Nat.le_of_ble_eq_true rfl, Nat.le_of_ble_eq_true rfl⟩ ⟨rfl, rfl⟩ (Seg.mk' _ _) 3 0 rfl rfl rfl rfl hl.1 rfl (Nat.le_of_ble_eq_true rfl) ⟨Nat.zero_le _, Nat.zero_le _⟩ dX4_sheet_48) (fun _ => map_app (wO_map _ _ _ _ _ _ _ _ _ _ _) rfl) (fun r fd6 H locs hp h => ?_)
          have h := (st_lin (st_gnis h))
          obtain ⟨rfl, hF6⟩ := hp
          have h : St E _ s H locs (wO E a k b t x q ((iv (ik))) fd6 ++ (wS E k ((hk)) ((nk)) (k1, k2, k3, k4, k5, k6, k7, k8, k9) ++ (wS E b ((iv (hr A))) ((iv (pe A))) (xs, xi, xk, xc, xl, xr, xb, yl, yr) ++ (wS E t ((ht)) ((nt)) (t1, t2, t3, t4, t5, t6, t7, t8, t9) ++ (wX E x ((iv (tn))) ((e1)) ((e2)) ((e3)) ((e4)) tp ++ (wH E (q 0) ((iv (bq 0))) ((iv (sq 0))) c0 ++ (wH E (q 1) ((iv (bq 1))) ((iv (sq 1))) c1 ++ (wH E (q 2) ((iv (bq 2))) ((iv (sq 2))) c2 ++ (wH E (q 3) ((iv (bq 3))) ((iv (sq 3))) c3 ++ []))))))))) := h
          have e9 : q_sheet bq sq cq ph 1 pb pn = ((-1000000007), bq, sq, cq, (bump ph 6)) := by unfold q_sheet; (repeat (first | rw [if_pos (by omega)] | rw [if_neg (by omega)])); try rfl
          exact ret _ _ _ _ _ (((iv (ik)), fd6), ((hk), (nk), (k1, k2, k3, k4, k5, k6, k7, k8, k9)), ((iv (hr A)), (iv (pe A)), (xs, xi, xk, xc, xl, xr, xb, yl, yr)), ((ht), (nt), (t1, t2, t3, t4, t5, t6, t7, t8, t9)), ((iv (tn)), (e1), (e2), (e3), (e4), tp), ((iv (bq 0)), (iv (sq 0)), c0), ((iv (bq 1)), (iv (sq 1)), c1), ((iv (bq 2)), (iv (sq 2)), c2), ((iv (bq 3)), (iv (sq 3)), c3)) h (by rw [e9]; exact ⟨rfl, ⟨⟨rfl, rfl, hR, hI, hr9⟩, hK, hF6, hT, hB⟩⟩) dX4_sheet_51
      · refine lv_iload_n X.1 X.2.1 dX4_sheet_28 rfl (lv_at hl 3 rfl) ?_
        refine z_bipush X (by decide) dX4_sheet_29 ?_
        refine z_ic_eq (tgt := 41) X r_pb ⟨by decide, by decide⟩ dX4_sheet_31 (by decide) (fun c_31 => ?_) (fun c_31 => ?_)
        · refine lv_iload_n X.1 X.2.1 dX4_sheet_41 rfl (lv_at hl 4 rfl) ?_
          refine z_if_ge (tgt := 52) X r_pn dX4_sheet_42 (by decide) (fun c_42 => ?_) (fun c_42 => ?_)
          · refine lv_iload_n X.1 X.2.1 dX4_sheet_52 rfl (lv_at hl 4 rfl) ?_
            refine z_bipush X (by decide) dX4_sheet_53 ?_
            refine z_ic_le (tgt := 65) X r_pn ⟨by decide, by decide⟩ dX4_sheet_55 (by decide) (fun c_55 => ?_) (fun c_55 => ?_)
            · refine lv_aload X.1 X.2.1 dX4_sheet_65 (lv_at hl 0 rfl) ?_
              refine lv_iload_n X.1 X.2.1 dX4_sheet_67 rfl (lv_at hl 3 rfl) ?_
              refine lv_iload_n X.1 X.2.1 dX4_sheet_68 rfl (lv_at hl 4 rfl) ?_
              refine z_wv (st_sing (st_in (st_in (st_in (st_in (st_in (st_in (st_nil h)))))))) (run_V (rest := []) X (st_sing (st_in (st_in (st_in (st_in (st_in (st_in (st_nil h)))))))) (c_X0_begin (y := q 1) (b9 := pb) (n9 := pn) r_pb) mi_X0_begin ml_X4_189 ⟨Nat.le_of_ble_eq_true rfl, Nat.le_of_ble_eq_true rfl⟩ ⟨rfl, rfl⟩ (Seg.mk' _ _) 0 37 rfl rfl rfl rfl hl.1 rfl (Nat.le_of_ble_eq_true rfl) ⟨Nat.zero_le _, Nat.zero_le _⟩ dX4_sheet_69) (fun _ => map_app (wH_map _ _ _ _ _ _ _ _) rfl) (fun fz9 H locs hz9 h => ?_)
              have h := (st_lin (st_out (st_out (st_out (st_out (st_out (st_out (st_gnis h))))))))
              have h : St E _ s H locs (wO E a k b t x q ((iv (ik))) fd ++ (wS E k ((hk)) ((nk)) (k1, k2, k3, k4, k5, k6, k7, k8, k9) ++ (wS E b ((iv (hr A))) ((iv (pe A))) (xs, xi, xk, xc, xl, xr, xb, yl, yr) ++ (wS E t ((ht)) ((nt)) (t1, t2, t3, t4, t5, t6, t7, t8, t9) ++ (wX E x ((iv (tn))) ((e1)) ((e2)) ((e3)) ((e4)) tp ++ (wH E (q 0) ((iv (bq 0))) ((iv (sq 0))) c0 ++ (wH E (q 1) ((iv (pb))) ((iv (if pb = 0 then 0 else pn))) fz9 ++ (wH E (q 2) ((iv (bq 2))) ((iv (sq 2))) c2 ++ (wH E (q 3) ((iv (bq 3))) ((iv (sq 3))) c3 ++ []))))))))) := h
              refine lv_aload X.1 X.2.1 dX4_sheet_72 (lv_at hl 0 rfl) ?_
              refine z_get X h 0 37 1 rfl inX0 rfl (by decide) fl_X4_192 rfl dX4_sheet_74 ?_
              have e9 : q_sheet bq sq cq ph 1 pb pn = (if pb = 0 then 0 else pn, (fu bq 1 pb), (fu sq 1 (if pb = 0 then 0 else pn)), (fun t j => if t = 1 then 0 else cq t j), ph) := by unfold q_sheet; (repeat (first | rw [if_pos (by omega)] | rw [if_neg (by omega)])); try rfl
              exact ret _ _ _ _ _ (((iv (ik)), fd), ((hk), (nk), (k1, k2, k3, k4, k5, k6, k7, k8, k9)), ((iv (hr A)), (iv (pe A)), (xs, xi, xk, xc, xl, xr, xb, yl, yr)), ((ht), (nt), (t1, t2, t3, t4, t5, t6, t7, t8, t9)), ((iv (tn)), (e1), (e2), (e3), (e4), tp), ((iv (bq 0)), (iv (sq 0)), c0), ((iv (pb)), (iv (if pb = 0 then 0 else pn)), fz9), ((iv (bq 2)), (iv (sq 2)), c2), ((iv (bq 3)), (iv (sq 3)), c3)) h (by rw [e9]; exact ⟨rfl, ⟨⟨rfl, rfl, hR, hI, hr9⟩, hK, hF, hT, ⟨okB_fu hB3 (by omega) (by omega) (by split <;> omega), RepH_nn hH0 (by decide), RepH_nw hz9, RepH_nn hH2 (by decide), RepH_nn hH3 (by decide)⟩⟩⟩) dX4_sheet_77
            · refine lv_aload_n X.1 X.2.1 dX4_sheet_58 rfl (lv_at hl 1 rfl) ?_
              refine z_ldc (z := (-1000000001)) X ct_X4_48 (by decide) dX4_sheet_59 ?_
              refine z_wi (st_sing (st_nil h)) (run_V (rest := []) X (st_sing (st_nil h)) (c_X4_finding (j := 0) hF (by decide) (by decide) (by decide)) mi_X4_finding ml_X4_49 ⟨Nat.le_of_ble_eq_true rfl, Nat.le_of_ble_eq_true rfl⟩ ⟨rfl, rfl⟩ (Seg.mk' _ _) 3 0 rfl rfl rfl rfl hl.1 rfl (Nat.le_of_ble_eq_true rfl) ⟨Nat.zero_le _, Nat.zero_le _⟩ dX4_sheet_61) (fun _ => map_app (wO_map _ _ _ _ _ _ _ _ _ _ _) rfl) (fun r fd7 H locs hp h => ?_)
              have h := (st_lin (st_gnis h))
              obtain ⟨rfl, hF7⟩ := hp
              have h : St E _ s H locs (wO E a k b t x q ((iv (ik))) fd7 ++ (wS E k ((hk)) ((nk)) (k1, k2, k3, k4, k5, k6, k7, k8, k9) ++ (wS E b ((iv (hr A))) ((iv (pe A))) (xs, xi, xk, xc, xl, xr, xb, yl, yr) ++ (wS E t ((ht)) ((nt)) (t1, t2, t3, t4, t5, t6, t7, t8, t9) ++ (wX E x ((iv (tn))) ((e1)) ((e2)) ((e3)) ((e4)) tp ++ (wH E (q 0) ((iv (bq 0))) ((iv (sq 0))) c0 ++ (wH E (q 1) ((iv (bq 1))) ((iv (sq 1))) c1 ++ (wH E (q 2) ((iv (bq 2))) ((iv (sq 2))) c2 ++ (wH E (q 3) ((iv (bq 3))) ((iv (sq 3))) c3 ++ []))))))))) := h
              have e9 : q_sheet bq sq cq ph 1 pb pn = ((-1000000001), bq, sq, cq, (bump ph 0)) := by unfold q_sheet; (repeat (first | rw [if_pos (by omega)] | rw [if_neg (by omega)])); try rfl
              exact ret _ _ _ _ _ (((iv (ik)), fd7), ((hk), (nk), (k1, k2, k3, k4, k5, k6, k7, k8, k9)), ((iv (hr A)), (iv (pe A)), (xs, xi, xk, xc, xl, xr, xb, yl, yr)), ((ht), (nt), (t1, t2, t3, t4, t5, t6, t7, t8, t9)), ((iv (tn)), (e1), (e2), (e3), (e4), tp), ((iv (bq 0)), (iv (sq 0)), c0), ((iv (bq 1)), (iv (sq 1)), c1), ((iv (bq 2)), (iv (sq 2)), c2), ((iv (bq 3)), (iv (sq 3)), c3)) h (by rw [e9]; exact ⟨rfl, ⟨⟨rfl, rfl, hR, hI, hr9⟩, hK, hF7, hT, hB⟩⟩) dX4_sheet_64
          · refine lv_aload_n X.1 X.2.1 dX4_sheet_45 rfl (lv_at hl 1 rfl) ?_
            refine z_ldc (z := (-1000000007)) X ct_X4_188 (by decide) dX4_sheet_46 ?_
            refine z_wi (st_sing (st_nil h)) (run_V (rest := []) X (st_sing (st_nil h)) (c_X4_finding (j := 6) hF (by decide) (by decide) (by decide)) mi_X4_finding ml_X4_49 ⟨Nat.le_of_ble_eq_true rfl, Nat.le_of_ble_eq_true rfl⟩ ⟨rfl, rfl⟩ (Seg.mk' _ _) 3 0 rfl rfl rfl rfl hl.1 rfl (Nat.le_of_ble_eq_true rfl) ⟨Nat.zero_le _, Nat.zero_le _⟩ dX4_sheet_48) (fun _ => map_app (wO_map _ _ _ _ _ _ _ _ _ _ _) rfl) (fun r fd8 H locs hp h => ?_)
            have h := (st_lin (st_gnis h))
            obtain ⟨rfl, hF8⟩ := hp
            have h : St E _ s H locs (wO E a k b t x q ((iv (ik))) fd8 ++ (wS E k ((hk)) ((nk)) (k1, k2, k3, k4, k5, k6, k7, k8, k9) ++ (wS E b ((iv (hr A))) ((iv (pe A))) (xs, xi, xk, xc, xl, xr, xb, yl, yr) ++ (wS E t ((ht)) ((nt)) (t1, t2, t3, t4, t5, t6, t7, t8, t9) ++ (wX E x ((iv (tn))) ((e1)) ((e2)) ((e3)) ((e4)) tp ++ (wH E (q 0) ((iv (bq 0))) ((iv (sq 0))) c0 ++ (wH E (q 1) ((iv (bq 1))) ((iv (sq 1))) c1 ++ (wH E (q 2) ((iv (bq 2))) ((iv (sq 2))) c2 ++ (wH E (q 3) ((iv (bq 3))) ((iv (sq 3))) c3 ++ []))))))))) := h
            have e9 : q_sheet bq sq cq ph 1 pb pn = ((-1000000007), bq, sq, cq, (bump ph 6)) := by unfold q_sheet; (repeat (first | rw [if_pos (by omega)] | rw [if_neg (by omega)])); try rfl
            exact ret _ _ _ _ _ (((iv (ik)), fd8), ((hk), (nk), (k1, k2, k3, k4, k5, k6, k7, k8, k9)), ((iv (hr A)), (iv (pe A)), (xs, xi, xk, xc, xl, xr, xb, yl, yr)), ((ht), (nt), (t1, t2, t3, t4, t5, t6, t7, t8, t9)), ((iv (tn)), (e1), (e2), (e3), (e4), tp), ((iv (bq 0)), (iv (sq 0)), c0), ((iv (bq 1)), (iv (sq 1)), c1), ((iv (bq 2)), (iv (sq 2)), c2), ((iv (bq 3)), (iv (sq 3)), c3)) h (by rw [e9]; exact ⟨rfl, ⟨⟨rfl, rfl, hR, hI, hr9⟩, hK, hF8, hT, hB⟩⟩) dX4_sheet_51
        · refine lv_aload_n X.1 X.2.1 dX4_sheet_34 rfl (lv_at hl 1 rfl) ?_
          refine z_ldc (z := (-1000000001)) X ct_X4_48 (by decide) dX4_sheet_35 ?_
          refine z_wi (st_sing (st_nil h)) (run_V (rest := []) X (st_sing (st_nil h)) (c_X4_finding (j := 0) hF (by decide) (by decide) (by decide)) mi_X4_finding ml_X4_49 ⟨Nat.le_of_ble_eq_true rfl, Nat.le_of_ble_eq_true rfl⟩ ⟨rfl, rfl⟩ (Seg.mk' _ _) 3 0 rfl rfl rfl rfl hl.1 rfl (Nat.le_of_ble_eq_true rfl) ⟨Nat.zero_le _, Nat.zero_le _⟩ dX4_sheet_37) (fun _ => map_app (wO_map _ _ _ _ _ _ _ _ _ _ _) rfl) (fun r fd9 H locs hp h => ?_)
          have h := (st_lin (st_gnis h))
          obtain ⟨rfl, hF9⟩ := hp
          have h : St E _ s H locs (wO E a k b t x q ((iv (ik))) fd9 ++ (wS E k ((hk)) ((nk)) (k1, k2, k3, k4, k5, k6, k7, k8, k9) ++ (wS E b ((iv (hr A))) ((iv (pe A))) (xs, xi, xk, xc, xl, xr, xb, yl, yr) ++ (wS E t ((ht)) ((nt)) (t1, t2, t3, t4, t5, t6, t7, t8, t9) ++ (wX E x ((iv (tn))) ((e1)) ((e2)) ((e3)) ((e4)) tp ++ (wH E (q 0) ((iv (bq 0))) ((iv (sq 0))) c0 ++ (wH E (q 1) ((iv (bq 1))) ((iv (sq 1))) c1 ++ (wH E (q 2) ((iv (bq 2))) ((iv (sq 2))) c2 ++ (wH E (q 3) ((iv (bq 3))) ((iv (sq 3))) c3 ++ []))))))))) := h
          have e9 : q_sheet bq sq cq ph 1 pb pn = ((-1000000001), bq, sq, cq, (bump ph 0)) := by unfold q_sheet; (repeat (first | rw [if_pos (by omega)] | rw [if_neg (by omega)])); try rfl
          exact ret _ _ _ _ _ (((iv (ik)), fd9), ((hk), (nk), (k1, k2, k3, k4, k5, k6, k7, k8, k9)), ((iv (hr A)), (iv (pe A)), (xs, xi, xk, xc, xl, xr, xb, yl, yr)), ((ht), (nt), (t1, t2, t3, t4, t5, t6, t7, t8, t9)), ((iv (tn)), (e1), (e2), (e3), (e4), tp), ((iv (bq 0)), (iv (sq 0)), c0), ((iv (bq 1)), (iv (sq 1)), c1), ((iv (bq 2)), (iv (sq 2)), c2), ((iv (bq 3)), (iv (sq 3)), c3)) h (by rw [e9]; exact ⟨rfl, ⟨⟨rfl, rfl, hR, hI, hr9⟩, hK, hF9, hT, hB⟩⟩) dX4_sheet_40

set_option maxHeartbeats 4000000 in
theorem c_X4_sheet_2 (hS : RepC (((iv (ik)), fd), ((hk), (nk), (k1, k2, k3, k4, k5, k6, k7, k8, k9)), ((iv (hr A)), (iv (pe A)), (xs, xi, xk, xc, xl, xr, xb, yl, yr)), ((ht), (nt), (t1, t2, t3, t4, t5, t6, t7, t8, t9)), ((iv (tn)), (e1), (e2), (e3), (e4), tp), ((iv (bq 0)), (iv (sq 0)), c0), ((iv (bq 1)), (iv (sq 1)), c1), ((iv (bq 2)), (iv (sq 2)), c2), ((iv (bq 3)), (iv (sq 3)), c3)) (A, K, ik, ph, tq, tn, bq, sq, cq)) {pb : Int} (r_pb : r32 pb) {pn : Int} (r_pn : r32 pn) : MI (S := Tc) E l yX4_sheet cX4_sheet 5 (some FieldType.int) (rmk 2 46) (wO E a k b t x q ((iv (ik))) fd ++ (wS E k ((hk)) ((nk)) (k1, k2, k3, k4, k5, k6, k7, k8, k9) ++ (wS E b ((iv (hr A))) ((iv (pe A))) (xs, xi, xk, xc, xl, xr, xb, yl, yr) ++ (wS E t ((ht)) ((nt)) (t1, t2, t3, t4, t5, t6, t7, t8, t9) ++ (wX E x ((iv (tn))) ((e1)) ((e2)) ((e3)) ((e4)) tp ++ (wH E (q 0) ((iv (bq 0))) ((iv (sq 0))) c0 ++ (wH E (q 1) ((iv (bq 1))) ((iv (sq 1))) c1 ++ (wH E (q 2) ((iv (bq 2))) ((iv (sq 2))) c2 ++ (wH E (q 3) ((iv (bq 3))) ((iv (sq 3))) c3 ++ []))))))))) [.ref (a 0), .int (iv (2)), .int (iv (pb)), .int (iv (pn))] (fun r u => r = iv ((q_sheet bq sq cq ph 2 pb pn).1) ∧ RepC u (A, K, ik, (q_sheet bq sq cq ph 2 pb pn).2.2.2.2, tq, tn, (q_sheet bq sq cq ph 2 pb pn).2.1, (q_sheet bq sq cq ph 2 pb pn).2.2.1, (q_sheet bq sq cq ph 2 pb pn).2.2.2.1)) (fun u => wT E a k b t x q u) := by
  refine goI (S := Tc) (post := fun r u => r = iv ((q_sheet bq sq cq ph 2 pb pn).1) ∧ RepC u (A, K, ik, (q_sheet bq sq cq ph 2 pb pn).2.2.2.2, tq, tn, (q_sheet bq sq cq ph 2 pb pn).2.1, (q_sheet bq sq cq ph 2 pb pn).2.2.1, (q_sheet bq sq cq ph 2 pb pn).2.2.2.1)) (ws' := fun u => wT E a k b t x q u) (by decide) (Nat.le_of_ble_eq_true rfl) ?_
  intro pp e s m below meth c ls args Q ret X h hl
  have hl : lv_has ls 5 [(0, .ref (a 0)), (1, .int (iv (2))), (2, .int (iv (pb))), (3, .int (iv (pn)))] := hl
  have hR : RS (xs, xi, xk, xc, xl, xr, xb, yl, yr) A := hS.1.2.2.1
  have hI : IA A := hS.1.2.2.2.1
  have hr9 : hr A ≤ 99999 := hS.1.2.2.2.2
  have hF : RF 7 fd ph := hS.2.2.1
  have hK := hS.2.1
  have hT := hS.2.2.2.1
  have hB := hS.2.2.2.2
  have hh : hr A < 1000000 := by omega
  have n8 := hI.n8
  have n0 := hI.n0
  have h0 := hI.h0
  have ht0 : 0 ≤ tn := hS.2.2.2.1.2.1
  have ht1 : tn ≤ 120 := hS.2.2.2.1.2.2.1
  have hk01 : ik = 0 ∨ ik = 1 := hS.2.1.2.1
  have hB3 : okB bq sq := hS.2.2.2.2.1
  have hH0 : RepH (iv (bq 0), iv (sq 0), c0) bq sq cq 0 := hS.2.2.2.2.2.1
  have hH1 : RepH (iv (bq 1), iv (sq 1), c1) bq sq cq 1 := hS.2.2.2.2.2.2.1
  have hH2 : RepH (iv (bq 2), iv (sq 2), c2) bq sq cq 2 := hS.2.2.2.2.2.2.2.1
  have hH3 : RepH (iv (bq 3), iv (sq 3), c3) bq sq cq 3 := hS.2.2.2.2.2.2.2.2
  have ob2 := hB3.1 2 (by omega) (by omega)
  have zb2 := hB3.2 2 (by omega) (by omega)
  refine lv_aload_n X.1 X.2.1 dX4_sheet_0 rfl (lv_at hl 0 rfl) ?_
  refine lv_iload_n X.1 X.2.1 dX4_sheet_1 rfl (lv_at hl 1 rfl) ?_
  refine z_pq (run_V (rest := []) X h (c_sheetAt2) mi_X4_sheetAt ml_X4_184 ⟨Nat.le_of_ble_eq_true rfl, Nat.le_of_ble_eq_true rfl⟩ ⟨rfl, rfl⟩ (Seg.rfl' _) 3 0 rfl rfl rfl rfl hl.1 rfl (Nat.le_of_ble_eq_true rfl) ⟨Nat.zero_le _, Nat.zero_le _⟩ dX4_sheet_2) ?_
  refine W.eq (g2 := F0 m 5 ls [.ref (q 2 0)]) rfl ?_
  refine lv_astore (lv' := [(4, .ref (q 2 0)), (0, .ref (a 0)), (1, .int (iv (2))), (2, .int (iv (pb))), (3, .int (iv (pn)))]) X.1 X.2.1 dX4_sheet_5 hl (by decide) rfl (fun ls hl => ?_)
  refine lv_aload X.1 X.2.1 dX4_sheet_7 (lv_at hl 0 rfl) ?_
  refine lv_ifnull X.1 X.2.1 dX4_sheet_9 ?_
  refine lv_iload_n X.1 X.2.1 dX4_sheet_12 rfl (lv_at hl 3 rfl) ?_
  refine z_if_eq (tgt := 41) X r_pb dX4_sheet_13 (by decide) (fun c_13 => ?_) (fun c_13 => ?_)
  · refine lv_iload_n X.1 X.2.1 dX4_sheet_41 rfl (lv_at hl 4 rfl) ?_
    refine z_if_ge (tgt := 52) X r_pn dX4_sheet_42 (by decide) (fun c_42 => ?_) (fun c_42 => ?_)
    · refine lv_iload_n X.1 X.2.1 dX4_sheet_52 rfl (lv_at hl 4 rfl) ?_
      refine z_bipush X (by decide) dX4_sheet_53 ?_
      refine z_ic_le (tgt := 65) X r_pn ⟨by decide, by decide⟩ dX4_sheet_55 (by decide) (fun c_55 => ?_) (fun c_55 => ?_)
      · refine lv_aload X.1 X.2.1 dX4_sheet_65 (lv_at hl 0 rfl) ?_
        refine lv_iload_n X.1 X.2.1 dX4_sheet_67 rfl (lv_at hl 3 rfl) ?_
        refine lv_iload_n X.1 X.2.1 dX4_sheet_68 rfl (lv_at hl 4 rfl) ?_
        refine z_wv (st_sing (st_in (st_in (st_in (st_in (st_in (st_in (st_in (st_nil h))))))))) (run_V (rest := []) X (st_sing (st_in (st_in (st_in (st_in (st_in (st_in (st_in (st_nil h))))))))) (c_X0_begin (y := q 2) (b9 := pb) (n9 := pn) r_pb) mi_X0_begin ml_X4_189 ⟨Nat.le_of_ble_eq_true rfl, Nat.le_of_ble_eq_true rfl⟩ ⟨rfl, rfl⟩ (Seg.mk' _ _) 0 39 rfl rfl rfl rfl hl.1 rfl (Nat.le_of_ble_eq_true rfl) ⟨Nat.zero_le _, Nat.zero_le _⟩ dX4_sheet_69) (fun _ => map_app (wH_map _ _ _ _ _ _ _ _) rfl) (fun fz9 H locs hz9 h => ?_)
        have h := (st_lin (st_out (st_out (st_out (st_out (st_out (st_out (st_out (st_gnis h)))))))))
        have h : St E _ s H locs (wO E a k b t x q ((iv (ik))) fd ++ (wS E k ((hk)) ((nk)) (k1, k2, k3, k4, k5, k6, k7, k8, k9) ++ (wS E b ((iv (hr A))) ((iv (pe A))) (xs, xi, xk, xc, xl, xr, xb, yl, yr) ++ (wS E t ((ht)) ((nt)) (t1, t2, t3, t4, t5, t6, t7, t8, t9) ++ (wX E x ((iv (tn))) ((e1)) ((e2)) ((e3)) ((e4)) tp ++ (wH E (q 0) ((iv (bq 0))) ((iv (sq 0))) c0 ++ (wH E (q 1) ((iv (bq 1))) ((iv (sq 1))) c1 ++ (wH E (q 2) ((iv (pb))) ((iv (if pb = 0 then 0 else pn))) fz9 ++ (wH E (q 3) ((iv (bq 3))) ((iv (sq 3))) c3 ++ []))))))))) := h
        refine lv_aload X.1 X.2.1 dX4_sheet_72 (lv_at hl 0 rfl) ?_
        refine z_get X h 0 39 1 rfl inX0 rfl (by decide) fl_X4_192 rfl dX4_sheet_74 ?_
        have e9 : q_sheet bq sq cq ph 2 pb pn = (if pb = 0 then 0 else pn, (fu bq 2 pb), (fu sq 2 (if pb = 0 then 0 else pn)), (fun t j => if t = 2 then 0 else cq t j), ph) := by unfold q_sheet; (repeat (first | rw [if_pos (by omega)] | rw [if_neg (by omega)])); try rfl
        exact ret _ _ _ _ _ (((iv (ik)), fd), ((hk), (nk), (k1, k2, k3, k4, k5, k6, k7, k8, k9)), ((iv (hr A)), (iv (pe A)), (xs, xi, xk, xc, xl, xr, xb, yl, yr)), ((ht), (nt), (t1, t2, t3, t4, t5, t6, t7, t8, t9)), ((iv (tn)), (e1), (e2), (e3), (e4), tp), ((iv (bq 0)), (iv (sq 0)), c0), ((iv (bq 1)), (iv (sq 1)), c1), ((iv (pb)), (iv (if pb = 0 then 0 else pn)), fz9), ((iv (bq 3)), (iv (sq 3)), c3)) h (by rw [e9]; exact ⟨rfl, ⟨⟨rfl, rfl, hR, hI, hr9⟩, hK, hF, hT, ⟨okB_fu hB3 (by omega) (by omega) (by split <;> omega), RepH_nn hH0 (by decide), RepH_nn hH1 (by decide), RepH_nw hz9, RepH_nn hH3 (by decide)⟩⟩⟩) dX4_sheet_77
      · refine lv_aload_n X.1 X.2.1 dX4_sheet_58 rfl (lv_at hl 1 rfl) ?_
        refine z_ldc (z := (-1000000001)) X ct_X4_48 (by decide) dX4_sheet_59 ?_
        refine z_wi (st_sing (st_nil h)) (run_V (rest := []) X (st_sing (st_nil h)) (c_X4_finding (j := 0) hF (by decide) (by decide) (by decide)) mi_X4_finding ml_X4_49 ⟨Nat.le_of_ble_eq_true rfl, Nat.le_of_ble_eq_true rfl⟩ ⟨rfl, rfl⟩ (Seg.mk' _ _) 3 0 rfl rfl rfl rfl hl.1 rfl (Nat.le_of_ble_eq_true rfl) ⟨Nat.zero_le _, Nat.zero_le _⟩ dX4_sheet_61) (fun _ => map_app (wO_map _ _ _ _ _ _ _ _ _ _ _) rfl) (fun r fd1 H locs hp h => ?_)
        have h := (st_lin (st_gnis h))
        obtain ⟨rfl, hF1⟩ := hp
        have h : St E _ s H locs (wO E a k b t x q ((iv (ik))) fd1 ++ (wS E k ((hk)) ((nk)) (k1, k2, k3, k4, k5, k6, k7, k8, k9) ++ (wS E b ((iv (hr A))) ((iv (pe A))) (xs, xi, xk, xc, xl, xr, xb, yl, yr) ++ (wS E t ((ht)) ((nt)) (t1, t2, t3, t4, t5, t6, t7, t8, t9) ++ (wX E x ((iv (tn))) ((e1)) ((e2)) ((e3)) ((e4)) tp ++ (wH E (q 0) ((iv (bq 0))) ((iv (sq 0))) c0 ++ (wH E (q 1) ((iv (bq 1))) ((iv (sq 1))) c1 ++ (wH E (q 2) ((iv (bq 2))) ((iv (sq 2))) c2 ++ (wH E (q 3) ((iv (bq 3))) ((iv (sq 3))) c3 ++ []))))))))) := h
        have e9 : q_sheet bq sq cq ph 2 pb pn = ((-1000000001), bq, sq, cq, (bump ph 0)) := by unfold q_sheet; (repeat (first | rw [if_pos (by omega)] | rw [if_neg (by omega)])); try rfl
        exact ret _ _ _ _ _ (((iv (ik)), fd1), ((hk), (nk), (k1, k2, k3, k4, k5, k6, k7, k8, k9)), ((iv (hr A)), (iv (pe A)), (xs, xi, xk, xc, xl, xr, xb, yl, yr)), ((ht), (nt), (t1, t2, t3, t4, t5, t6, t7, t8, t9)), ((iv (tn)), (e1), (e2), (e3), (e4), tp), ((iv (bq 0)), (iv (sq 0)), c0), ((iv (bq 1)), (iv (sq 1)), c1), ((iv (bq 2)), (iv (sq 2)), c2), ((iv (bq 3)), (iv (sq 3)), c3)) h (by rw [e9]; exact ⟨rfl, ⟨⟨rfl, rfl, hR, hI, hr9⟩, hK, hF1, hT, hB⟩⟩) dX4_sheet_64
    · refine lv_aload_n X.1 X.2.1 dX4_sheet_45 rfl (lv_at hl 1 rfl) ?_
      refine z_ldc (z := (-1000000007)) X ct_X4_188 (by decide) dX4_sheet_46 ?_
      refine z_wi (st_sing (st_nil h)) (run_V (rest := []) X (st_sing (st_nil h)) (c_X4_finding (j := 6) hF (by decide) (by decide) (by decide)) mi_X4_finding ml_X4_49 ⟨Nat.le_of_ble_eq_true rfl, Nat.le_of_ble_eq_true rfl⟩ ⟨rfl, rfl⟩ (Seg.mk' _ _) 3 0 rfl rfl rfl rfl hl.1 rfl (Nat.le_of_ble_eq_true rfl) ⟨Nat.zero_le _, Nat.zero_le _⟩ dX4_sheet_48) (fun _ => map_app (wO_map _ _ _ _ _ _ _ _ _ _ _) rfl) (fun r fd2 H locs hp h => ?_)
      have h := (st_lin (st_gnis h))
      obtain ⟨rfl, hF2⟩ := hp
      have h : St E _ s H locs (wO E a k b t x q ((iv (ik))) fd2 ++ (wS E k ((hk)) ((nk)) (k1, k2, k3, k4, k5, k6, k7, k8, k9) ++ (wS E b ((iv (hr A))) ((iv (pe A))) (xs, xi, xk, xc, xl, xr, xb, yl, yr) ++ (wS E t ((ht)) ((nt)) (t1, t2, t3, t4, t5, t6, t7, t8, t9) ++ (wX E x ((iv (tn))) ((e1)) ((e2)) ((e3)) ((e4)) tp ++ (wH E (q 0) ((iv (bq 0))) ((iv (sq 0))) c0 ++ (wH E (q 1) ((iv (bq 1))) ((iv (sq 1))) c1 ++ (wH E (q 2) ((iv (bq 2))) ((iv (sq 2))) c2 ++ (wH E (q 3) ((iv (bq 3))) ((iv (sq 3))) c3 ++ []))))))))) := h
      have e9 : q_sheet bq sq cq ph 2 pb pn = ((-1000000007), bq, sq, cq, (bump ph 6)) := by unfold q_sheet; (repeat (first | rw [if_pos (by omega)] | rw [if_neg (by omega)])); try rfl
      exact ret _ _ _ _ _ (((iv (ik)), fd2), ((hk), (nk), (k1, k2, k3, k4, k5, k6, k7, k8, k9)), ((iv (hr A)), (iv (pe A)), (xs, xi, xk, xc, xl, xr, xb, yl, yr)), ((ht), (nt), (t1, t2, t3, t4, t5, t6, t7, t8, t9)), ((iv (tn)), (e1), (e2), (e3), (e4), tp), ((iv (bq 0)), (iv (sq 0)), c0), ((iv (bq 1)), (iv (sq 1)), c1), ((iv (bq 2)), (iv (sq 2)), c2), ((iv (bq 3)), (iv (sq 3)), c3)) h (by rw [e9]; exact ⟨rfl, ⟨⟨rfl, rfl, hR, hI, hr9⟩, hK, hF2, hT, hB⟩⟩) dX4_sheet_51
  · refine lv_iload_n X.1 X.2.1 dX4_sheet_16 rfl (lv_at hl 3 rfl) ?_
    refine z_bipush X (by decide) dX4_sheet_17 ?_
    refine z_ic_eq (tgt := 41) X r_pb ⟨by decide, by decide⟩ dX4_sheet_19 (by decide) (fun c_19 => ?_) (fun c_19 => ?_)
    · refine lv_iload_n X.1 X.2.1 dX4_sheet_41 rfl (lv_at hl 4 rfl) ?_
      refine z_if_ge (tgt := 52) X r_pn dX4_sheet_42 (by decide) (fun c_42 => ?_) (fun c_42 => ?_)
      · refine lv_iload_n X.1 X.2.1 dX4_sheet_52 rfl (lv_at hl 4 rfl) ?_
        refine z_bipush X (by decide) dX4_sheet_53 ?_
        refine z_ic_le (tgt := 65) X r_pn ⟨by decide, by decide⟩ dX4_sheet_55 (by decide) (fun c_55 => ?_) (fun c_55 => ?_)
        · refine lv_aload X.1 X.2.1 dX4_sheet_65 (lv_at hl 0 rfl) ?_
          refine lv_iload_n X.1 X.2.1 dX4_sheet_67 rfl (lv_at hl 3 rfl) ?_
          refine lv_iload_n X.1 X.2.1 dX4_sheet_68 rfl (lv_at hl 4 rfl) ?_
          refine z_wv (st_sing (st_in (st_in (st_in (st_in (st_in (st_in (st_in (st_nil h))))))))) (run_V (rest := []) X (st_sing (st_in (st_in (st_in (st_in (st_in (st_in (st_in (st_nil h))))))))) (c_X0_begin (y := q 2) (b9 := pb) (n9 := pn) r_pb) mi_X0_begin ml_X4_189 ⟨Nat.le_of_ble_eq_true rfl, Nat.le_of_ble_eq_true rfl⟩ ⟨rfl, rfl⟩ (Seg.mk' _ _) 0 39 rfl rfl rfl rfl hl.1 rfl (Nat.le_of_ble_eq_true rfl) ⟨Nat.zero_le _, Nat.zero_le _⟩ dX4_sheet_69) (fun _ => map_app (wH_map _ _ _ _ _ _ _ _) rfl) (fun fz9 H locs hz9 h => ?_)
          have h := (st_lin (st_out (st_out (st_out (st_out (st_out (st_out (st_out (st_gnis h)))))))))
          have h : St E _ s H locs (wO E a k b t x q ((iv (ik))) fd ++ (wS E k ((hk)) ((nk)) (k1, k2, k3, k4, k5, k6, k7, k8, k9) ++ (wS E b ((iv (hr A))) ((iv (pe A))) (xs, xi, xk, xc, xl, xr, xb, yl, yr) ++ (wS E t ((ht)) ((nt)) (t1, t2, t3, t4, t5, t6, t7, t8, t9) ++ (wX E x ((iv (tn))) ((e1)) ((e2)) ((e3)) ((e4)) tp ++ (wH E (q 0) ((iv (bq 0))) ((iv (sq 0))) c0 ++ (wH E (q 1) ((iv (bq 1))) ((iv (sq 1))) c1 ++ (wH E (q 2) ((iv (pb))) ((iv (if pb = 0 then 0 else pn))) fz9 ++ (wH E (q 3) ((iv (bq 3))) ((iv (sq 3))) c3 ++ []))))))))) := h
          refine lv_aload X.1 X.2.1 dX4_sheet_72 (lv_at hl 0 rfl) ?_
          refine z_get X h 0 39 1 rfl inX0 rfl (by decide) fl_X4_192 rfl dX4_sheet_74 ?_
          have e9 : q_sheet bq sq cq ph 2 pb pn = (if pb = 0 then 0 else pn, (fu bq 2 pb), (fu sq 2 (if pb = 0 then 0 else pn)), (fun t j => if t = 2 then 0 else cq t j), ph) := by unfold q_sheet; (repeat (first | rw [if_pos (by omega)] | rw [if_neg (by omega)])); try rfl
          exact ret _ _ _ _ _ (((iv (ik)), fd), ((hk), (nk), (k1, k2, k3, k4, k5, k6, k7, k8, k9)), ((iv (hr A)), (iv (pe A)), (xs, xi, xk, xc, xl, xr, xb, yl, yr)), ((ht), (nt), (t1, t2, t3, t4, t5, t6, t7, t8, t9)), ((iv (tn)), (e1), (e2), (e3), (e4), tp), ((iv (bq 0)), (iv (sq 0)), c0), ((iv (bq 1)), (iv (sq 1)), c1), ((iv (pb)), (iv (if pb = 0 then 0 else pn)), fz9), ((iv (bq 3)), (iv (sq 3)), c3)) h (by rw [e9]; exact ⟨rfl, ⟨⟨rfl, rfl, hR, hI, hr9⟩, hK, hF, hT, ⟨okB_fu hB3 (by omega) (by omega) (by split <;> omega), RepH_nn hH0 (by decide), RepH_nn hH1 (by decide), RepH_nw hz9, RepH_nn hH3 (by decide)⟩⟩⟩) dX4_sheet_77
        · refine lv_aload_n X.1 X.2.1 dX4_sheet_58 rfl (lv_at hl 1 rfl) ?_
          refine z_ldc (z := (-1000000001)) X ct_X4_48 (by decide) dX4_sheet_59 ?_
          refine z_wi (st_sing (st_nil h)) (run_V (rest := []) X (st_sing (st_nil h)) (c_X4_finding (j := 0) hF (by decide) (by decide) (by decide)) mi_X4_finding ml_X4_49 ⟨Nat.le_of_ble_eq_true rfl, Nat.le_of_ble_eq_true rfl⟩ ⟨rfl, rfl⟩ (Seg.mk' _ _) 3 0 rfl rfl rfl rfl hl.1 rfl (Nat.le_of_ble_eq_true rfl) ⟨Nat.zero_le _, Nat.zero_le _⟩ dX4_sheet_61) (fun _ => map_app (wO_map _ _ _ _ _ _ _ _ _ _ _) rfl) (fun r fd3 H locs hp h => ?_)
          have h := (st_lin (st_gnis h))
          obtain ⟨rfl, hF3⟩ := hp
          have h : St E _ s H locs (wO E a k b t x q ((iv (ik))) fd3 ++ (wS E k ((hk)) ((nk)) (k1, k2, k3, k4, k5, k6, k7, k8, k9) ++ (wS E b ((iv (hr A))) ((iv (pe A))) (xs, xi, xk, xc, xl, xr, xb, yl, yr) ++ (wS E t ((ht)) ((nt)) (t1, t2, t3, t4, t5, t6, t7, t8, t9) ++ (wX E x ((iv (tn))) ((e1)) ((e2)) ((e3)) ((e4)) tp ++ (wH E (q 0) ((iv (bq 0))) ((iv (sq 0))) c0 ++ (wH E (q 1) ((iv (bq 1))) ((iv (sq 1))) c1 ++ (wH E (q 2) ((iv (bq 2))) ((iv (sq 2))) c2 ++ (wH E (q 3) ((iv (bq 3))) ((iv (sq 3))) c3 ++ []))))))))) := h
          have e9 : q_sheet bq sq cq ph 2 pb pn = ((-1000000001), bq, sq, cq, (bump ph 0)) := by unfold q_sheet; (repeat (first | rw [if_pos (by omega)] | rw [if_neg (by omega)])); try rfl
          exact ret _ _ _ _ _ (((iv (ik)), fd3), ((hk), (nk), (k1, k2, k3, k4, k5, k6, k7, k8, k9)), ((iv (hr A)), (iv (pe A)), (xs, xi, xk, xc, xl, xr, xb, yl, yr)), ((ht), (nt), (t1, t2, t3, t4, t5, t6, t7, t8, t9)), ((iv (tn)), (e1), (e2), (e3), (e4), tp), ((iv (bq 0)), (iv (sq 0)), c0), ((iv (bq 1)), (iv (sq 1)), c1), ((iv (bq 2)), (iv (sq 2)), c2), ((iv (bq 3)), (iv (sq 3)), c3)) h (by rw [e9]; exact ⟨rfl, ⟨⟨rfl, rfl, hR, hI, hr9⟩, hK, hF3, hT, hB⟩⟩) dX4_sheet_64
      · refine lv_aload_n X.1 X.2.1 dX4_sheet_45 rfl (lv_at hl 1 rfl) ?_
        refine z_ldc (z := (-1000000007)) X ct_X4_188 (by decide) dX4_sheet_46 ?_
        refine z_wi (st_sing (st_nil h)) (run_V (rest := []) X (st_sing (st_nil h)) (c_X4_finding (j := 6) hF (by decide) (by decide) (by decide)) mi_X4_finding ml_X4_49 ⟨Nat.le_of_ble_eq_true rfl, Nat.le_of_ble_eq_true rfl⟩ ⟨rfl, rfl⟩ (Seg.mk' _ _) 3 0 rfl rfl rfl rfl hl.1 rfl (Nat.le_of_ble_eq_true rfl) ⟨Nat.zero_le _, Nat.zero_le _⟩ dX4_sheet_48) (fun _ => map_app (wO_map _ _ _ _ _ _ _ _ _ _ _) rfl) (fun r fd4 H locs hp h => ?_)
        have h := (st_lin (st_gnis h))
        obtain ⟨rfl, hF4⟩ := hp
        have h : St E _ s H locs (wO E a k b t x q ((iv (ik))) fd4 ++ (wS E k ((hk)) ((nk)) (k1, k2, k3, k4, k5, k6, k7, k8, k9) ++ (wS E b ((iv (hr A))) ((iv (pe A))) (xs, xi, xk, xc, xl, xr, xb, yl, yr) ++ (wS E t ((ht)) ((nt)) (t1, t2, t3, t4, t5, t6, t7, t8, t9) ++ (wX E x ((iv (tn))) ((e1)) ((e2)) ((e3)) ((e4)) tp ++ (wH E (q 0) ((iv (bq 0))) ((iv (sq 0))) c0 ++ (wH E (q 1) ((iv (bq 1))) ((iv (sq 1))) c1 ++ (wH E (q 2) ((iv (bq 2))) ((iv (sq 2))) c2 ++ (wH E (q 3) ((iv (bq 3))) ((iv (sq 3))) c3 ++ []))))))))) := h
        have e9 : q_sheet bq sq cq ph 2 pb pn = ((-1000000007), bq, sq, cq, (bump ph 6)) := by unfold q_sheet; (repeat (first | rw [if_pos (by omega)] | rw [if_neg (by omega)])); try rfl
        exact ret _ _ _ _ _ (((iv (ik)), fd4), ((hk), (nk), (k1, k2, k3, k4, k5, k6, k7, k8, k9)), ((iv (hr A)), (iv (pe A)), (xs, xi, xk, xc, xl, xr, xb, yl, yr)), ((ht), (nt), (t1, t2, t3, t4, t5, t6, t7, t8, t9)), ((iv (tn)), (e1), (e2), (e3), (e4), tp), ((iv (bq 0)), (iv (sq 0)), c0), ((iv (bq 1)), (iv (sq 1)), c1), ((iv (bq 2)), (iv (sq 2)), c2), ((iv (bq 3)), (iv (sq 3)), c3)) h (by rw [e9]; exact ⟨rfl, ⟨⟨rfl, rfl, hR, hI, hr9⟩, hK, hF4, hT, hB⟩⟩) dX4_sheet_51
    · refine lv_iload_n X.1 X.2.1 dX4_sheet_22 rfl (lv_at hl 3 rfl) ?_
      refine z_bipush X (by decide) dX4_sheet_23 ?_
      refine z_ic_eq (tgt := 41) X r_pb ⟨by decide, by decide⟩ dX4_sheet_25 (by decide) (fun c_25 => ?_) (fun c_25 => ?_)
      · refine lv_iload_n X.1 X.2.1 dX4_sheet_41 rfl (lv_at hl 4 rfl) ?_
        refine z_if_ge (tgt := 52) X r_pn dX4_sheet_42 (by decide) (fun c_42 => ?_) (fun c_42 => ?_)
        · refine lv_iload_n X.1 X.2.1 dX4_sheet_52 rfl (lv_at hl 4 rfl) ?_
          refine z_bipush X (by decide) dX4_sheet_53 ?_
          refine z_ic_le (tgt := 65) X r_pn ⟨by decide, by decide⟩ dX4_sheet_55 (by decide) (fun c_55 => ?_) (fun c_55 => ?_)
          · refine lv_aload X.1 X.2.1 dX4_sheet_65 (lv_at hl 0 rfl) ?_
            refine lv_iload_n X.1 X.2.1 dX4_sheet_67 rfl (lv_at hl 3 rfl) ?_
            refine lv_iload_n X.1 X.2.1 dX4_sheet_68 rfl (lv_at hl 4 rfl) ?_
            refine z_wv (st_sing (st_in (st_in (st_in (st_in (st_in (st_in (st_in (st_nil h))))))))) (run_V (rest := []) X (st_sing (st_in (st_in (st_in (st_in (st_in (st_in (st_in (st_nil h))))))))) (c_X0_begin (y := q 2) (b9 := pb) (n9 := pn) r_pb) mi_X0_begin ml_X4_189 ⟨Nat.le_of_ble_eq_true rfl, Nat.le_of_ble_eq_true rfl⟩ ⟨rfl, rfl⟩ (Seg.mk' _ _) 0 39 rfl rfl rfl rfl hl.1 rfl (Nat.le_of_ble_eq_true rfl) ⟨Nat.zero_le _, Nat.zero_le _⟩ dX4_sheet_69) (fun _ => map_app (wH_map _ _ _ _ _ _ _ _) rfl) (fun fz9 H locs hz9 h => ?_)
            have h := (st_lin (st_out (st_out (st_out (st_out (st_out (st_out (st_out (st_gnis h)))))))))
            have h : St E _ s H locs (wO E a k b t x q ((iv (ik))) fd ++ (wS E k ((hk)) ((nk)) (k1, k2, k3, k4, k5, k6, k7, k8, k9) ++ (wS E b ((iv (hr A))) ((iv (pe A))) (xs, xi, xk, xc, xl, xr, xb, yl, yr) ++ (wS E t ((ht)) ((nt)) (t1, t2, t3, t4, t5, t6, t7, t8, t9) ++ (wX E x ((iv (tn))) ((e1)) ((e2)) ((e3)) ((e4)) tp ++ (wH E (q 0) ((iv (bq 0))) ((iv (sq 0))) c0 ++ (wH E (q 1) ((iv (bq 1))) ((iv (sq 1))) c1 ++ (wH E (q 2) ((iv (pb))) ((iv (if pb = 0 then 0 else pn))) fz9 ++ (wH E (q 3) ((iv (bq 3))) ((iv (sq 3))) c3 ++ []))))))))) := h
            refine lv_aload X.1 X.2.1 dX4_sheet_72 (lv_at hl 0 rfl) ?_
            refine z_get X h 0 39 1 rfl inX0 rfl (by decide) fl_X4_192 rfl dX4_sheet_74 ?_
            have e9 : q_sheet bq sq cq ph 2 pb pn = (if pb = 0 then 0 else pn, (fu bq 2 pb), (fu sq 2 (if pb = 0 then 0 else pn)), (fun t j => if t = 2 then 0 else cq t j), ph) := by unfold q_sheet; (repeat (first | rw [if_pos (by omega)] | rw [if_neg (by omega)])); try rfl
            exact ret _ _ _ _ _ (((iv (ik)), fd), ((hk), (nk), (k1, k2, k3, k4, k5, k6, k7, k8, k9)), ((iv (hr A)), (iv (pe A)), (xs, xi, xk, xc, xl, xr, xb, yl, yr)), ((ht), (nt), (t1, t2, t3, t4, t5, t6, t7, t8, t9)), ((iv (tn)), (e1), (e2), (e3), (e4), tp), ((iv (bq 0)), (iv (sq 0)), c0), ((iv (bq 1)), (iv (sq 1)), c1), ((iv (pb)), (iv (if pb = 0 then 0 else pn)), fz9), ((iv (bq 3)), (iv (sq 3)), c3)) h (by rw [e9]; exact ⟨rfl, ⟨⟨rfl, rfl, hR, hI, hr9⟩, hK, hF, hT, ⟨okB_fu hB3 (by omega) (by omega) (by split <;> omega), RepH_nn hH0 (by decide), RepH_nn hH1 (by decide), RepH_nw hz9, RepH_nn hH3 (by decide)⟩⟩⟩) dX4_sheet_77
          · refine lv_aload_n X.1 X.2.1 dX4_sheet_58 rfl (lv_at hl 1 rfl) ?_
            refine z_ldc (z := (-1000000001)) X ct_X4_48 (by decide) dX4_sheet_59 ?_
            refine z_wi (st_sing (st_nil h)) (run_V (rest := []) X (st_sing (st_nil h)) (c_X4_finding (j := 0) hF (by decide) (by decide) (by decide)) mi_X4_finding ml_X4_49 ⟨Nat.le_of_ble_eq_true rfl, Nat.le_of_ble_eq_true rfl⟩ ⟨rfl, rfl⟩ (Seg.mk' _ _) 3 0 rfl rfl rfl rfl hl.1 rfl (Nat.le_of_ble_eq_true rfl) ⟨Nat.zero_le _, Nat.zero_le _⟩ dX4_sheet_61) (fun _ => map_app (wO_map _ _ _ _ _ _ _ _ _ _ _) rfl) (fun r fd5 H locs hp h => ?_)
            have h := (st_lin (st_gnis h))
            obtain ⟨rfl, hF5⟩ := hp
            have h : St E _ s H locs (wO E a k b t x q ((iv (ik))) fd5 ++ (wS E k ((hk)) ((nk)) (k1, k2, k3, k4, k5, k6, k7, k8, k9) ++ (wS E b ((iv (hr A))) ((iv (pe A))) (xs, xi, xk, xc, xl, xr, xb, yl, yr) ++ (wS E t ((ht)) ((nt)) (t1, t2, t3, t4, t5, t6, t7, t8, t9) ++ (wX E x ((iv (tn))) ((e1)) ((e2)) ((e3)) ((e4)) tp ++ (wH E (q 0) ((iv (bq 0))) ((iv (sq 0))) c0 ++ (wH E (q 1) ((iv (bq 1))) ((iv (sq 1))) c1 ++ (wH E (q 2) ((iv (bq 2))) ((iv (sq 2))) c2 ++ (wH E (q 3) ((iv (bq 3))) ((iv (sq 3))) c3 ++ []))))))))) := h
            have e9 : q_sheet bq sq cq ph 2 pb pn = ((-1000000001), bq, sq, cq, (bump ph 0)) := by unfold q_sheet; (repeat (first | rw [if_pos (by omega)] | rw [if_neg (by omega)])); try rfl
            exact ret _ _ _ _ _ (((iv (ik)), fd5), ((hk), (nk), (k1, k2, k3, k4, k5, k6, k7, k8, k9)), ((iv (hr A)), (iv (pe A)), (xs, xi, xk, xc, xl, xr, xb, yl, yr)), ((ht), (nt), (t1, t2, t3, t4, t5, t6, t7, t8, t9)), ((iv (tn)), (e1), (e2), (e3), (e4), tp), ((iv (bq 0)), (iv (sq 0)), c0), ((iv (bq 1)), (iv (sq 1)), c1), ((iv (bq 2)), (iv (sq 2)), c2), ((iv (bq 3)), (iv (sq 3)), c3)) h (by rw [e9]; exact ⟨rfl, ⟨⟨rfl, rfl, hR, hI, hr9⟩, hK, hF5, hT, hB⟩⟩) dX4_sheet_64
        · refine lv_aload_n X.1 X.2.1 dX4_sheet_45 rfl (lv_at hl 1 rfl) ?_
          refine z_ldc (z := (-1000000007)) X ct_X4_188 (by decide) dX4_sheet_46 ?_
          refine z_wi (st_sing (st_nil h)) (run_V (rest := []) X (st_sing (st_nil h)) (c_X4_finding (j := 6) hF (by decide) (by decide) (by decide)) mi_X4_finding ml_X4_49 ⟨Nat.le_of_ble_eq_true rfl, Nat.le_of_ble_eq_true rfl⟩ ⟨rfl, rfl⟩ (Seg.mk' _ _) 3 0 rfl rfl rfl rfl hl.1 rfl (Nat.le_of_ble_eq_true rfl) ⟨Nat.zero_le _, Nat.zero_le _⟩ dX4_sheet_48) (fun _ => map_app (wO_map _ _ _ _ _ _ _ _ _ _ _) rfl) (fun r fd6 H locs hp h => ?_)
          have h := (st_lin (st_gnis h))
          obtain ⟨rfl, hF6⟩ := hp
          have h : St E _ s H locs (wO E a k b t x q ((iv (ik))) fd6 ++ (wS E k ((hk)) ((nk)) (k1, k2, k3, k4, k5, k6, k7, k8, k9) ++ (wS E b ((iv (hr A))) ((iv (pe A))) (xs, xi, xk, xc, xl, xr, xb, yl, yr) ++ (wS E t ((ht)) ((nt)) (t1, t2, t3, t4, t5, t6, t7, t8, t9) ++ (wX E x ((iv (tn))) ((e1)) ((e2)) ((e3)) ((e4)) tp ++ (wH E (q 0) ((iv (bq 0))) ((iv (sq 0))) c0 ++ (wH E (q 1) ((iv (bq 1))) ((iv (sq 1))) c1 ++ (wH E (q 2) ((iv (bq 2))) ((iv (sq 2))) c2 ++ (wH E (q 3) ((iv (bq 3))) ((iv (sq 3))) c3 ++ []))))))))) := h
          have e9 : q_sheet bq sq cq ph 2 pb pn = ((-1000000007), bq, sq, cq, (bump ph 6)) := by unfold q_sheet; (repeat (first | rw [if_pos (by omega)] | rw [if_neg (by omega)])); try rfl
          exact ret _ _ _ _ _ (((iv (ik)), fd6), ((hk), (nk), (k1, k2, k3, k4, k5, k6, k7, k8, k9)), ((iv (hr A)), (iv (pe A)), (xs, xi, xk, xc, xl, xr, xb, yl, yr)), ((ht), (nt), (t1, t2, t3, t4, t5, t6, t7, t8, t9)), ((iv (tn)), (e1), (e2), (e3), (e4), tp), ((iv (bq 0)), (iv (sq 0)), c0), ((iv (bq 1)), (iv (sq 1)), c1), ((iv (bq 2)), (iv (sq 2)), c2), ((iv (bq 3)), (iv (sq 3)), c3)) h (by rw [e9]; exact ⟨rfl, ⟨⟨rfl, rfl, hR, hI, hr9⟩, hK, hF6, hT, hB⟩⟩) dX4_sheet_51
      · refine lv_iload_n X.1 X.2.1 dX4_sheet_28 rfl (lv_at hl 3 rfl) ?_
        refine z_bipush X (by decide) dX4_sheet_29 ?_
        refine z_ic_eq (tgt := 41) X r_pb ⟨by decide, by decide⟩ dX4_sheet_31 (by decide) (fun c_31 => ?_) (fun c_31 => ?_)
        · refine lv_iload_n X.1 X.2.1 dX4_sheet_41 rfl (lv_at hl 4 rfl) ?_
          refine z_if_ge (tgt := 52) X r_pn dX4_sheet_42 (by decide) (fun c_42 => ?_) (fun c_42 => ?_)
          · refine lv_iload_n X.1 X.2.1 dX4_sheet_52 rfl (lv_at hl 4 rfl) ?_
            refine z_bipush X (by decide) dX4_sheet_53 ?_
            refine z_ic_le (tgt := 65) X r_pn ⟨by decide, by decide⟩ dX4_sheet_55 (by decide) (fun c_55 => ?_) (fun c_55 => ?_)
            · refine lv_aload X.1 X.2.1 dX4_sheet_65 (lv_at hl 0 rfl) ?_
              refine lv_iload_n X.1 X.2.1 dX4_sheet_67 rfl (lv_at hl 3 rfl) ?_
              refine lv_iload_n X.1 X.2.1 dX4_sheet_68 rfl (lv_at hl 4 rfl) ?_
              refine z_wv (st_sing (st_in (st_in (st_in (st_in (st_in (st_in (st_in (st_nil h))))))))) (run_V (rest := []) X (st_sing (st_in (st_in (st_in (st_in (st_in (st_in (st_in (st_nil h))))))))) (c_X0_begin (y := q 2) (b9 := pb) (n9 := pn) r_pb) mi_X0_begin ml_X4_189 ⟨Nat.le_of_ble_eq_true rfl, Nat.le_of_ble_eq_true rfl⟩ ⟨rfl, rfl⟩ (Seg.mk' _ _) 0 39 rfl rfl rfl rfl hl.1 rfl (Nat.le_of_ble_eq_true rfl) ⟨Nat.zero_le _, Nat.zero_le _⟩ dX4_sheet_69) (fun _ => map_app (wH_map _ _ _ _ _ _ _ _) rfl) (fun fz9 H locs hz9 h => ?_)
              have h := (st_lin (st_out (st_out (st_out (st_out (st_out (st_out (st_out (st_gnis h)))))))))
              have h : St E _ s H locs (wO E a k b t x q ((iv (ik))) fd ++ (wS E k ((hk)) ((nk)) (k1, k2, k3, k4, k5, k6, k7, k8, k9) ++ (wS E b ((iv (hr A))) ((iv (pe A))) (xs, xi, xk, xc, xl, xr, xb, yl, yr) ++ (wS E t ((ht)) ((nt)) (t1, t2, t3, t4, t5, t6, t7, t8, t9) ++ (wX E x ((iv (tn))) ((e1)) ((e2)) ((e3)) ((e4)) tp ++ (wH E (q 0) ((iv (bq 0))) ((iv (sq 0))) c0 ++ (wH E (q 1) ((iv (bq 1))) ((iv (sq 1))) c1 ++ (wH E (q 2) ((iv (pb))) ((iv (if pb = 0 then 0 else pn))) fz9 ++ (wH E (q 3) ((iv (bq 3))) ((iv (sq 3))) c3 ++ []))))))))) := h
              refine lv_aload X.1 X.2.1 dX4_sheet_72 (lv_at hl 0 rfl) ?_
              refine z_get X h 0 39 1 rfl inX0 rfl (by decide) fl_X4_192 rfl dX4_sheet_74 ?_
              have e9 : q_sheet bq sq cq ph 2 pb pn = (if pb = 0 then 0 else pn, (fu bq 2 pb), (fu sq 2 (if pb = 0 then 0 else pn)), (fun t j => if t = 2 then 0 else cq t j), ph) := by unfold q_sheet; (repeat (first | rw [if_pos (by omega)] | rw [if_neg (by omega)])); try rfl
              exact ret _ _ _ _ _ (((iv (ik)), fd), ((hk), (nk), (k1, k2, k3, k4, k5, k6, k7, k8, k9)), ((iv (hr A)), (iv (pe A)), (xs, xi, xk, xc, xl, xr, xb, yl, yr)), ((ht), (nt), (t1, t2, t3, t4, t5, t6, t7, t8, t9)), ((iv (tn)), (e1), (e2), (e3), (e4), tp), ((iv (bq 0)), (iv (sq 0)), c0), ((iv (bq 1)), (iv (sq 1)), c1), ((iv (pb)), (iv (if pb = 0 then 0 else pn)), fz9), ((iv (bq 3)), (iv (sq 3)), c3)) h (by rw [e9]; exact ⟨rfl, ⟨⟨rfl, rfl, hR, hI, hr9⟩, hK, hF, hT, ⟨okB_fu hB3 (by omega) (by omega) (by split <;> omega), RepH_nn hH0 (by decide), RepH_nn hH1 (by decide), RepH_nw hz9, RepH_nn hH3 (by decide)⟩⟩⟩) dX4_sheet_77
            · refine lv_aload_n X.1 X.2.1 dX4_sheet_58 rfl (lv_at hl 1 rfl) ?_
              refine z_ldc (z := (-1000000001)) X ct_X4_48 (by decide) dX4_sheet_59 ?_
              refine z_wi (st_sing (st_nil h)) (run_V (rest := []) X (st_sing (st_nil h)) (c_X4_finding (j := 0) hF (by decide) (by decide) (by decide)) mi_X4_finding ml_X4_49 ⟨Nat.le_of_ble_eq_true rfl, Nat.le_of_ble_eq_true rfl⟩ ⟨rfl, rfl⟩ (Seg.mk' _ _) 3 0 rfl rfl rfl rfl hl.1 rfl (Nat.le_of_ble_eq_true rfl) ⟨Nat.zero_le _, Nat.zero_le _⟩ dX4_sheet_61) (fun _ => map_app (wO_map _ _ _ _ _ _ _ _ _ _ _) rfl) (fun r fd7 H locs hp h => ?_)
              have h := (st_lin (st_gnis h))
              obtain ⟨rfl, hF7⟩ := hp
              have h : St E _ s H locs (wO E a k b t x q ((iv (ik))) fd7 ++ (wS E k ((hk)) ((nk)) (k1, k2, k3, k4, k5, k6, k7, k8, k9) ++ (wS E b ((iv (hr A))) ((iv (pe A))) (xs, xi, xk, xc, xl, xr, xb, yl, yr) ++ (wS E t ((ht)) ((nt)) (t1, t2, t3, t4, t5, t6, t7, t8, t9) ++ (wX E x ((iv (tn))) ((e1)) ((e2)) ((e3)) ((e4)) tp ++ (wH E (q 0) ((iv (bq 0))) ((iv (sq 0))) c0 ++ (wH E (q 1) ((iv (bq 1))) ((iv (sq 1))) c1 ++ (wH E (q 2) ((iv (bq 2))) ((iv (sq 2))) c2 ++ (wH E (q 3) ((iv (bq 3))) ((iv (sq 3))) c3 ++ []))))))))) := h
              have e9 : q_sheet bq sq cq ph 2 pb pn = ((-1000000001), bq, sq, cq, (bump ph 0)) := by unfold q_sheet; (repeat (first | rw [if_pos (by omega)] | rw [if_neg (by omega)])); try rfl
              exact ret _ _ _ _ _ (((iv (ik)), fd7), ((hk), (nk), (k1, k2, k3, k4, k5, k6, k7, k8, k9)), ((iv (hr A)), (iv (pe A)), (xs, xi, xk, xc, xl, xr, xb, yl, yr)), ((ht), (nt), (t1, t2, t3, t4, t5, t6, t7, t8, t9)), ((iv (tn)), (e1), (e2), (e3), (e4), tp), ((iv (bq 0)), (iv (sq 0)), c0), ((iv (bq 1)), (iv (sq 1)), c1), ((iv (bq 2)), (iv (sq 2)), c2), ((iv (bq 3)), (iv (sq 3)), c3)) h (by rw [e9]; exact ⟨rfl, ⟨⟨rfl, rfl, hR, hI, hr9⟩, hK, hF7, hT, hB⟩⟩) dX4_sheet_64
          · refine lv_aload_n X.1 X.2.1 dX4_sheet_45 rfl (lv_at hl 1 rfl) ?_
            refine z_ldc (z := (-1000000007)) X ct_X4_188 (by decide) dX4_sheet_46 ?_
            refine z_wi (st_sing (st_nil h)) (run_V (rest := []) X (st_sing (st_nil h)) (c_X4_finding (j := 6) hF (by decide) (by decide) (by decide)) mi_X4_finding ml_X4_49 ⟨Nat.le_of_ble_eq_true rfl, Nat.le_of_ble_eq_true rfl⟩ ⟨rfl, rfl⟩ (Seg.mk' _ _) 3 0 rfl rfl rfl rfl hl.1 rfl (Nat.le_of_ble_eq_true rfl) ⟨Nat.zero_le _, Nat.zero_le _⟩ dX4_sheet_48) (fun _ => map_app (wO_map _ _ _ _ _ _ _ _ _ _ _) rfl) (fun r fd8 H locs hp h => ?_)
            have h := (st_lin (st_gnis h))
            obtain ⟨rfl, hF8⟩ := hp
            have h : St E _ s H locs (wO E a k b t x q ((iv (ik))) fd8 ++ (wS E k ((hk)) ((nk)) (k1, k2, k3, k4, k5, k6, k7, k8, k9) ++ (wS E b ((iv (hr A))) ((iv (pe A))) (xs, xi, xk, xc, xl, xr, xb, yl, yr) ++ (wS E t ((ht)) ((nt)) (t1, t2, t3, t4, t5, t6, t7, t8, t9) ++ (wX E x ((iv (tn))) ((e1)) ((e2)) ((e3)) ((e4)) tp ++ (wH E (q 0) ((iv (bq 0))) ((iv (sq 0))) c0 ++ (wH E (q 1) ((iv (bq 1))) ((iv (sq 1))) c1 ++ (wH E (q 2) ((iv (bq 2))) ((iv (sq 2))) c2 ++ (wH E (q 3) ((iv (bq 3))) ((iv (sq 3))) c3 ++ []))))))))) := h
            have e9 : q_sheet bq sq cq ph 2 pb pn = ((-1000000007), bq, sq, cq, (bump ph 6)) := by unfold q_sheet; (repeat (first | rw [if_pos (by omega)] | rw [if_neg (by omega)])); try rfl
            exact ret _ _ _ _ _ (((iv (ik)), fd8), ((hk), (nk), (k1, k2, k3, k4, k5, k6, k7, k8, k9)), ((iv (hr A)), (iv (pe A)), (xs, xi, xk, xc, xl, xr, xb, yl, yr)), ((ht), (nt), (t1, t2, t3, t4, t5, t6, t7, t8, t9)), ((iv (tn)), (e1), (e2), (e3), (e4), tp), ((iv (bq 0)), (iv (sq 0)), c0), ((iv (bq 1)), (iv (sq 1)), c1), ((iv (bq 2)), (iv (sq 2)), c2), ((iv (bq 3)), (iv (sq 3)), c3)) h (by rw [e9]; exact ⟨rfl, ⟨⟨rfl, rfl, hR, hI, hr9⟩, hK, hF8, hT, hB⟩⟩) dX4_sheet_51
        · refine lv_aload_n X.1 X.2.1 dX4_sheet_34 rfl (lv_at hl 1 rfl) ?_
          refine z_ldc (z := (-1000000001)) X ct_X4_48 (by decide) dX4_sheet_35 ?_
          refine z_wi (st_sing (st_nil h)) (run_V (rest := []) X (st_sing (st_nil h)) (c_X4_finding (j := 0) hF (by decide) (by decide) (by decide)) mi_X4_finding ml_X4_49 ⟨Nat.le_of_ble_eq_true rfl, Nat.le_of_ble_eq_true rfl⟩ ⟨rfl, rfl⟩ (Seg.mk' _ _) 3 0 rfl rfl rfl rfl hl.1 rfl (Nat.le_of_ble_eq_true rfl) ⟨Nat.zero_le _, Nat.zero_le _⟩ dX4_sheet_37) (fun _ => map_app (wO_map _ _ _ _ _ _ _ _ _ _ _) rfl) (fun r fd9 H locs hp h => ?_)
          have h := (st_lin (st_gnis h))
          obtain ⟨rfl, hF9⟩ := hp
          have h : St E _ s H locs (wO E a k b t x q ((iv (ik))) fd9 ++ (wS E k ((hk)) ((nk)) (k1, k2, k3, k4, k5, k6, k7, k8, k9) ++ (wS E b ((iv (hr A))) ((iv (pe A))) (xs, xi, xk, xc, xl, xr, xb, yl, yr) ++ (wS E t ((ht)) ((nt)) (t1, t2, t3, t4, t5, t6, t7, t8, t9) ++ (wX E x ((iv (tn))) ((e1)) ((e2)) ((e3)) ((e4)) tp ++ (wH E (q 0) ((iv (bq 0))) ((iv (sq 0))) c0 ++ (wH E (q 1) ((iv (bq 1))) ((iv (sq 1))) c1 ++ (wH E (q 2) ((iv (bq 2))) ((iv (sq 2))) c2 ++ (wH E (q 3) ((iv (bq 3))) ((iv (sq 3))) c3 ++ []))))))))) := h
          have e9 : q_sheet bq sq cq ph 2 pb pn = ((-1000000001), bq, sq, cq, (bump ph 0)) := by unfold q_sheet; (repeat (first | rw [if_pos (by omega)] | rw [if_neg (by omega)])); try rfl
          exact ret _ _ _ _ _ (((iv (ik)), fd9), ((hk), (nk), (k1, k2, k3, k4, k5, k6, k7, k8, k9)), ((iv (hr A)), (iv (pe A)), (xs, xi, xk, xc, xl, xr, xb, yl, yr)), ((ht), (nt), (t1, t2, t3, t4, t5, t6, t7, t8, t9)), ((iv (tn)), (e1), (e2), (e3), (e4), tp), ((iv (bq 0)), (iv (sq 0)), c0), ((iv (bq 1)), (iv (sq 1)), c1), ((iv (bq 2)), (iv (sq 2)), c2), ((iv (bq 3)), (iv (sq 3)), c3)) h (by rw [e9]; exact ⟨rfl, ⟨⟨rfl, rfl, hR, hI, hr9⟩, hK, hF9, hT, hB⟩⟩) dX4_sheet_40

set_option maxHeartbeats 4000000 in
theorem c_X4_sheet_3 (hS : RepC (((iv (ik)), fd), ((hk), (nk), (k1, k2, k3, k4, k5, k6, k7, k8, k9)), ((iv (hr A)), (iv (pe A)), (xs, xi, xk, xc, xl, xr, xb, yl, yr)), ((ht), (nt), (t1, t2, t3, t4, t5, t6, t7, t8, t9)), ((iv (tn)), (e1), (e2), (e3), (e4), tp), ((iv (bq 0)), (iv (sq 0)), c0), ((iv (bq 1)), (iv (sq 1)), c1), ((iv (bq 2)), (iv (sq 2)), c2), ((iv (bq 3)), (iv (sq 3)), c3)) (A, K, ik, ph, tq, tn, bq, sq, cq)) {pb : Int} (r_pb : r32 pb) {pn : Int} (r_pn : r32 pn) : MI (S := Tc) E l yX4_sheet cX4_sheet 5 (some FieldType.int) (rmk 2 46) (wO E a k b t x q ((iv (ik))) fd ++ (wS E k ((hk)) ((nk)) (k1, k2, k3, k4, k5, k6, k7, k8, k9) ++ (wS E b ((iv (hr A))) ((iv (pe A))) (xs, xi, xk, xc, xl, xr, xb, yl, yr) ++ (wS E t ((ht)) ((nt)) (t1, t2, t3, t4, t5, t6, t7, t8, t9) ++ (wX E x ((iv (tn))) ((e1)) ((e2)) ((e3)) ((e4)) tp ++ (wH E (q 0) ((iv (bq 0))) ((iv (sq 0))) c0 ++ (wH E (q 1) ((iv (bq 1))) ((iv (sq 1))) c1 ++ (wH E (q 2) ((iv (bq 2))) ((iv (sq 2))) c2 ++ (wH E (q 3) ((iv (bq 3))) ((iv (sq 3))) c3 ++ []))))))))) [.ref (a 0), .int (iv (3)), .int (iv (pb)), .int (iv (pn))] (fun r u => r = iv ((q_sheet bq sq cq ph 3 pb pn).1) ∧ RepC u (A, K, ik, (q_sheet bq sq cq ph 3 pb pn).2.2.2.2, tq, tn, (q_sheet bq sq cq ph 3 pb pn).2.1, (q_sheet bq sq cq ph 3 pb pn).2.2.1, (q_sheet bq sq cq ph 3 pb pn).2.2.2.1)) (fun u => wT E a k b t x q u) := by
  refine goI (S := Tc) (post := fun r u => r = iv ((q_sheet bq sq cq ph 3 pb pn).1) ∧ RepC u (A, K, ik, (q_sheet bq sq cq ph 3 pb pn).2.2.2.2, tq, tn, (q_sheet bq sq cq ph 3 pb pn).2.1, (q_sheet bq sq cq ph 3 pb pn).2.2.1, (q_sheet bq sq cq ph 3 pb pn).2.2.2.1)) (ws' := fun u => wT E a k b t x q u) (by decide) (Nat.le_of_ble_eq_true rfl) ?_
  intro pp e s m below meth c ls args Q ret X h hl
  have hl : lv_has ls 5 [(0, .ref (a 0)), (1, .int (iv (3))), (2, .int (iv (pb))), (3, .int (iv (pn)))] := hl
  have hR : RS (xs, xi, xk, xc, xl, xr, xb, yl, yr) A := hS.1.2.2.1
  have hI : IA A := hS.1.2.2.2.1
  have hr9 : hr A ≤ 99999 := hS.1.2.2.2.2
  have hF : RF 7 fd ph := hS.2.2.1
  have hK := hS.2.1
  have hT := hS.2.2.2.1
  have hB := hS.2.2.2.2
  have hh : hr A < 1000000 := by omega
  have n8 := hI.n8
  have n0 := hI.n0
  have h0 := hI.h0
  have ht0 : 0 ≤ tn := hS.2.2.2.1.2.1
  have ht1 : tn ≤ 120 := hS.2.2.2.1.2.2.1
  have hk01 : ik = 0 ∨ ik = 1 := hS.2.1.2.1
  have hB3 : okB bq sq := hS.2.2.2.2.1
  have hH0 : RepH (iv (bq 0), iv (sq 0), c0) bq sq cq 0 := hS.2.2.2.2.2.1
  have hH1 : RepH (iv (bq 1), iv (sq 1), c1) bq sq cq 1 := hS.2.2.2.2.2.2.1
  have hH2 : RepH (iv (bq 2), iv (sq 2), c2) bq sq cq 2 := hS.2.2.2.2.2.2.2.1
  have hH3 : RepH (iv (bq 3), iv (sq 3), c3) bq sq cq 3 := hS.2.2.2.2.2.2.2.2
  have ob3 := hB3.1 3 (by omega) (by omega)
  have zb3 := hB3.2 3 (by omega) (by omega)
  refine lv_aload_n X.1 X.2.1 dX4_sheet_0 rfl (lv_at hl 0 rfl) ?_
  refine lv_iload_n X.1 X.2.1 dX4_sheet_1 rfl (lv_at hl 1 rfl) ?_
  refine z_pq (run_V (rest := []) X h (c_sheetAt3) mi_X4_sheetAt ml_X4_184 ⟨Nat.le_of_ble_eq_true rfl, Nat.le_of_ble_eq_true rfl⟩ ⟨rfl, rfl⟩ (Seg.rfl' _) 3 0 rfl rfl rfl rfl hl.1 rfl (Nat.le_of_ble_eq_true rfl) ⟨Nat.zero_le _, Nat.zero_le _⟩ dX4_sheet_2) ?_
  refine W.eq (g2 := F0 m 5 ls [.ref (q 3 0)]) rfl ?_
  refine lv_astore (lv' := [(4, .ref (q 3 0)), (0, .ref (a 0)), (1, .int (iv (3))), (2, .int (iv (pb))), (3, .int (iv (pn)))]) X.1 X.2.1 dX4_sheet_5 hl (by decide) rfl (fun ls hl => ?_)
  refine lv_aload X.1 X.2.1 dX4_sheet_7 (lv_at hl 0 rfl) ?_
  refine lv_ifnull X.1 X.2.1 dX4_sheet_9 ?_
  refine lv_iload_n X.1 X.2.1 dX4_sheet_12 rfl (lv_at hl 3 rfl) ?_
  refine z_if_eq (tgt := 41) X r_pb dX4_sheet_13 (by decide) (fun c_13 => ?_) (fun c_13 => ?_)
  · refine lv_iload_n X.1 X.2.1 dX4_sheet_41 rfl (lv_at hl 4 rfl) ?_
    refine z_if_ge (tgt := 52) X r_pn dX4_sheet_42 (by decide) (fun c_42 => ?_) (fun c_42 => ?_)
    · refine lv_iload_n X.1 X.2.1 dX4_sheet_52 rfl (lv_at hl 4 rfl) ?_
      refine z_bipush X (by decide) dX4_sheet_53 ?_
      refine z_ic_le (tgt := 65) X r_pn ⟨by decide, by decide⟩ dX4_sheet_55 (by decide) (fun c_55 => ?_) (fun c_55 => ?_)
      · refine lv_aload X.1 X.2.1 dX4_sheet_65 (lv_at hl 0 rfl) ?_
        refine lv_iload_n X.1 X.2.1 dX4_sheet_67 rfl (lv_at hl 3 rfl) ?_
        refine lv_iload_n X.1 X.2.1 dX4_sheet_68 rfl (lv_at hl 4 rfl) ?_
        refine z_wv (st_sing (st_in (st_in (st_in (st_in (st_in (st_in (st_in (st_in (st_nil h)))))))))) (run_V (rest := []) X (st_sing (st_in (st_in (st_in (st_in (st_in (st_in (st_in (st_in (st_nil h)))))))))) (c_X0_begin (y := q 3) (b9 := pb) (n9 := pn) r_pb) mi_X0_begin ml_X4_189 ⟨Nat.le_of_ble_eq_true rfl, Nat.le_of_ble_eq_true rfl⟩ ⟨rfl, rfl⟩ (Seg.mk' _ _) 0 41 rfl rfl rfl rfl hl.1 rfl (Nat.le_of_ble_eq_true rfl) ⟨Nat.zero_le _, Nat.zero_le _⟩ dX4_sheet_69) (fun _ => map_app (wH_map _ _ _ _ _ _ _ _) rfl) (fun fz9 H locs hz9 h => ?_)
        have h := (st_lin (st_out (st_out (st_out (st_out (st_out (st_out (st_out (st_out (st_gnis h))))))))))
        have h : St E _ s H locs (wO E a k b t x q ((iv (ik))) fd ++ (wS E k ((hk)) ((nk)) (k1, k2, k3, k4, k5, k6, k7, k8, k9) ++ (wS E b ((iv (hr A))) ((iv (pe A))) (xs, xi, xk, xc, xl, xr, xb, yl, yr) ++ (wS E t ((ht)) ((nt)) (t1, t2, t3, t4, t5, t6, t7, t8, t9) ++ (wX E x ((iv (tn))) ((e1)) ((e2)) ((e3)) ((e4)) tp ++ (wH E (q 0) ((iv (bq 0))) ((iv (sq 0))) c0 ++ (wH E (q 1) ((iv (bq 1))) ((iv (sq 1))) c1 ++ (wH E (q 2) ((iv (bq 2))) ((iv (sq 2))) c2 ++ (wH E (q 3) ((iv (pb))) ((iv (if pb = 0 then 0 else pn))) fz9 ++ []))))))))) := h
        refine lv_aload X.1 X.2.1 dX4_sheet_72 (lv_at hl 0 rfl) ?_
        refine z_get X h 0 41 1 rfl inX0 rfl (by decide) fl_X4_192 rfl dX4_sheet_74 ?_
        have e9 : q_sheet bq sq cq ph 3 pb pn = (if pb = 0 then 0 else pn, (fu bq 3 pb), (fu sq 3 (if pb = 0 then 0 else pn)), (fun t j => if t = 3 then 0 else cq t j), ph) := by unfold q_sheet; (repeat (first | rw [if_pos (by omega)] | rw [if_neg (by omega)])); try rfl
        exact ret _ _ _ _ _ (((iv (ik)), fd), ((hk), (nk), (k1, k2, k3, k4, k5, k6, k7, k8, k9)), ((iv (hr A)), (iv (pe A)), (xs, xi, xk, xc, xl, xr, xb, yl, yr)), ((ht), (nt), (t1, t2, t3, t4, t5, t6, t7, t8, t9)), ((iv (tn)), (e1), (e2), (e3), (e4), tp), ((iv (bq 0)), (iv (sq 0)), c0), ((iv (bq 1)), (iv (sq 1)), c1), ((iv (bq 2)), (iv (sq 2)), c2), ((iv (pb)), (iv (if pb = 0 then 0 else pn)), fz9)) h (by rw [e9]; exact ⟨rfl, ⟨⟨rfl, rfl, hR, hI, hr9⟩, hK, hF, hT, ⟨okB_fu hB3 (by omega) (by omega) (by split <;> omega), RepH_nn hH0 (by decide), RepH_nn hH1 (by decide), RepH_nn hH2 (by decide), RepH_nw hz9⟩⟩⟩) dX4_sheet_77
      · refine lv_aload_n X.1 X.2.1 dX4_sheet_58 rfl (lv_at hl 1 rfl) ?_
        refine z_ldc (z := (-1000000001)) X ct_X4_48 (by decide) dX4_sheet_59 ?_
        refine z_wi (st_sing (st_nil h)) (run_V (rest := []) X (st_sing (st_nil h)) (c_X4_finding (j := 0) hF (by decide) (by decide) (by decide)) mi_X4_finding ml_X4_49 ⟨Nat.le_of_ble_eq_true rfl, Nat.le_of_ble_eq_true rfl⟩ ⟨rfl, rfl⟩ (Seg.mk' _ _) 3 0 rfl rfl rfl rfl hl.1 rfl (Nat.le_of_ble_eq_true rfl) ⟨Nat.zero_le _, Nat.zero_le _⟩ dX4_sheet_61) (fun _ => map_app (wO_map _ _ _ _ _ _ _ _ _ _ _) rfl) (fun r fd1 H locs hp h => ?_)
        have h := (st_lin (st_gnis h))
        obtain ⟨rfl, hF1⟩ := hp
        have h : St E _ s H locs (wO E a k b t x q ((iv (ik))) fd1 ++ (wS E k ((hk)) ((nk)) (k1, k2, k3, k4, k5, k6, k7, k8, k9) ++ (wS E b ((iv (hr A))) ((iv (pe A))) (xs, xi, xk, xc, xl, xr, xb, yl, yr) ++ (wS E t ((ht)) ((nt)) (t1, t2, t3, t4, t5, t6, t7, t8, t9) ++ (wX E x ((iv (tn))) ((e1)) ((e2)) ((e3)) ((e4)) tp ++ (wH E (q 0) ((iv (bq 0))) ((iv (sq 0))) c0 ++ (wH E (q 1) ((iv (bq 1))) ((iv (sq 1))) c1 ++ (wH E (q 2) ((iv (bq 2))) ((iv (sq 2))) c2 ++ (wH E (q 3) ((iv (bq 3))) ((iv (sq 3))) c3 ++ []))))))))) := h
        have e9 : q_sheet bq sq cq ph 3 pb pn = ((-1000000001), bq, sq, cq, (bump ph 0)) := by unfold q_sheet; (repeat (first | rw [if_pos (by omega)] | rw [if_neg (by omega)])); try rfl
        exact ret _ _ _ _ _ (((iv (ik)), fd1), ((hk), (nk), (k1, k2, k3, k4, k5, k6, k7, k8, k9)), ((iv (hr A)), (iv (pe A)), (xs, xi, xk, xc, xl, xr, xb, yl, yr)), ((ht), (nt), (t1, t2, t3, t4, t5, t6, t7, t8, t9)), ((iv (tn)), (e1), (e2), (e3), (e4), tp), ((iv (bq 0)), (iv (sq 0)), c0), ((iv (bq 1)), (iv (sq 1)), c1), ((iv (bq 2)), (iv (sq 2)), c2), ((iv (bq 3)), (iv (sq 3)), c3)) h (by rw [e9]; exact ⟨rfl, ⟨⟨rfl, rfl, hR, hI, hr9⟩, hK, hF1, hT, hB⟩⟩) dX4_sheet_64
    · refine lv_aload_n X.1 X.2.1 dX4_sheet_45 rfl (lv_at hl 1 rfl) ?_
      refine z_ldc (z := (-1000000007)) X ct_X4_188 (by decide) dX4_sheet_46 ?_
      refine z_wi (st_sing (st_nil h)) (run_V (rest := []) X (st_sing (st_nil h)) (c_X4_finding (j := 6) hF (by decide) (by decide) (by decide)) mi_X4_finding ml_X4_49 ⟨Nat.le_of_ble_eq_true rfl, Nat.le_of_ble_eq_true rfl⟩ ⟨rfl, rfl⟩ (Seg.mk' _ _) 3 0 rfl rfl rfl rfl hl.1 rfl (Nat.le_of_ble_eq_true rfl) ⟨Nat.zero_le _, Nat.zero_le _⟩ dX4_sheet_48) (fun _ => map_app (wO_map _ _ _ _ _ _ _ _ _ _ _) rfl) (fun r fd2 H locs hp h => ?_)
      have h := (st_lin (st_gnis h))
      obtain ⟨rfl, hF2⟩ := hp
      have h : St E _ s H locs (wO E a k b t x q ((iv (ik))) fd2 ++ (wS E k ((hk)) ((nk)) (k1, k2, k3, k4, k5, k6, k7, k8, k9) ++ (wS E b ((iv (hr A))) ((iv (pe A))) (xs, xi, xk, xc, xl, xr, xb, yl, yr) ++ (wS E t ((ht)) ((nt)) (t1, t2, t3, t4, t5, t6, t7, t8, t9) ++ (wX E x ((iv (tn))) ((e1)) ((e2)) ((e3)) ((e4)) tp ++ (wH E (q 0) ((iv (bq 0))) ((iv (sq 0))) c0 ++ (wH E (q 1) ((iv (bq 1))) ((iv (sq 1))) c1 ++ (wH E (q 2) ((iv (bq 2))) ((iv (sq 2))) c2 ++ (wH E (q 3) ((iv (bq 3))) ((iv (sq 3))) c3 ++ []))))))))) := h
      have e9 : q_sheet bq sq cq ph 3 pb pn = ((-1000000007), bq, sq, cq, (bump ph 6)) := by unfold q_sheet; (repeat (first | rw [if_pos (by omega)] | rw [if_neg (by omega)])); try rfl
      exact ret _ _ _ _ _ (((iv (ik)), fd2), ((hk), (nk), (k1, k2, k3, k4, k5, k6, k7, k8, k9)), ((iv (hr A)), (iv (pe A)), (xs, xi, xk, xc, xl, xr, xb, yl, yr)), ((ht), (nt), (t1, t2, t3, t4, t5, t6, t7, t8, t9)), ((iv (tn)), (e1), (e2), (e3), (e4), tp), ((iv (bq 0)), (iv (sq 0)), c0), ((iv (bq 1)), (iv (sq 1)), c1), ((iv (bq 2)), (iv (sq 2)), c2), ((iv (bq 3)), (iv (sq 3)), c3)) h (by rw [e9]; exact ⟨rfl, ⟨⟨rfl, rfl, hR, hI, hr9⟩, hK, hF2, hT, hB⟩⟩) dX4_sheet_51
  · refine lv_iload_n X.1 X.2.1 dX4_sheet_16 rfl (lv_at hl 3 rfl) ?_
    refine z_bipush X (by decide) dX4_sheet_17 ?_
    refine z_ic_eq (tgt := 41) X r_pb ⟨by decide, by decide⟩ dX4_sheet_19 (by decide) (fun c_19 => ?_) (fun c_19 => ?_)
    · refine lv_iload_n X.1 X.2.1 dX4_sheet_41 rfl (lv_at hl 4 rfl) ?_
      refine z_if_ge (tgt := 52) X r_pn dX4_sheet_42 (by decide) (fun c_42 => ?_) (fun c_42 => ?_)
      · refine lv_iload_n X.1 X.2.1 dX4_sheet_52 rfl (lv_at hl 4 rfl) ?_
        refine z_bipush X (by decide) dX4_sheet_53 ?_
        refine z_ic_le (tgt := 65) X r_pn ⟨by decide, by decide⟩ dX4_sheet_55 (by decide) (fun c_55 => ?_) (fun c_55 => ?_)
        · refine lv_aload X.1 X.2.1 dX4_sheet_65 (lv_at hl 0 rfl) ?_
          refine lv_iload_n X.1 X.2.1 dX4_sheet_67 rfl (lv_at hl 3 rfl) ?_
          refine lv_iload_n X.1 X.2.1 dX4_sheet_68 rfl (lv_at hl 4 rfl) ?_
          refine z_wv (st_sing (st_in (st_in (st_in (st_in (st_in (st_in (st_in (st_in (st_nil h)))))))))) (run_V (rest := []) X (st_sing (st_in (st_in (st_in (st_in (st_in (st_in (st_in (st_in (st_nil h)))))))))) (c_X0_begin (y := q 3) (b9 := pb) (n9 := pn) r_pb) mi_X0_begin ml_X4_189 ⟨Nat.le_of_ble_eq_true rfl, Nat.le_of_ble_eq_true rfl⟩ ⟨rfl, rfl⟩ (Seg.mk' _ _) 0 41 rfl rfl rfl rfl hl.1 rfl (Nat.le_of_ble_eq_true rfl) ⟨Nat.zero_le _, Nat.zero_le _⟩ dX4_sheet_69) (fun _ => map_app (wH_map _ _ _ _ _ _ _ _) rfl) (fun fz9 H locs hz9 h => ?_)
          have h := (st_lin (st_out (st_out (st_out (st_out (st_out (st_out (st_out (st_out (st_gnis h))))))))))
          have h : St E _ s H locs (wO E a k b t x q ((iv (ik))) fd ++ (wS E k ((hk)) ((nk)) (k1, k2, k3, k4, k5, k6, k7, k8, k9) ++ (wS E b ((iv (hr A))) ((iv (pe A))) (xs, xi, xk, xc, xl, xr, xb, yl, yr) ++ (wS E t ((ht)) ((nt)) (t1, t2, t3, t4, t5, t6, t7, t8, t9) ++ (wX E x ((iv (tn))) ((e1)) ((e2)) ((e3)) ((e4)) tp ++ (wH E (q 0) ((iv (bq 0))) ((iv (sq 0))) c0 ++ (wH E (q 1) ((iv (bq 1))) ((iv (sq 1))) c1 ++ (wH E (q 2) ((iv (bq 2))) ((iv (sq 2))) c2 ++ (wH E (q 3) ((iv (pb))) ((iv (if pb = 0 then 0 else pn))) fz9 ++ []))))))))) := h
          refine lv_aload X.1 X.2.1 dX4_sheet_72 (lv_at hl 0 rfl) ?_
          refine z_get X h 0 41 1 rfl inX0 rfl (by decide) fl_X4_192 rfl dX4_sheet_74 ?_
          have e9 : q_sheet bq sq cq ph 3 pb pn = (if pb = 0 then 0 else pn, (fu bq 3 pb), (fu sq 3 (if pb = 0 then 0 else pn)), (fun t j => if t = 3 then 0 else cq t j), ph) := by unfold q_sheet; (repeat (first | rw [if_pos (by omega)] | rw [if_neg (by omega)])); try rfl
          exact ret _ _ _ _ _ (((iv (ik)), fd), ((hk), (nk), (k1, k2, k3, k4, k5, k6, k7, k8, k9)), ((iv (hr A)), (iv (pe A)), (xs, xi, xk, xc, xl, xr, xb, yl, yr)), ((ht), (nt), (t1, t2, t3, t4, t5, t6, t7, t8, t9)), ((iv (tn)), (e1), (e2), (e3), (e4), tp), ((iv (bq 0)), (iv (sq 0)), c0), ((iv (bq 1)), (iv (sq 1)), c1), ((iv (bq 2)), (iv (sq 2)), c2), ((iv (pb)), (iv (if pb = 0 then 0 else pn)), fz9)) h (by rw [e9]; exact ⟨rfl, ⟨⟨rfl, rfl, hR, hI, hr9⟩, hK, hF, hT, ⟨okB_fu hB3 (by omega) (by omega) (by split <;> omega), RepH_nn hH0 (by decide), RepH_nn hH1 (by decide), RepH_nn hH2 (by decide), RepH_nw hz9⟩⟩⟩) dX4_sheet_77
        · refine lv_aload_n X.1 X.2.1 dX4_sheet_58 rfl (lv_at hl 1 rfl) ?_
          refine z_ldc (z := (-1000000001)) X ct_X4_48 (by decide) dX4_sheet_59 ?_
          refine z_wi (st_sing (st_nil h)) (run_V (rest := []) X (st_sing (st_nil h)) (c_X4_finding (j := 0) hF (by decide) (by decide) (by decide)) mi_X4_finding ml_X4_49 ⟨Nat.le_of_ble_eq_true rfl, Nat.le_of_ble_eq_true rfl⟩ ⟨rfl, rfl⟩ (Seg.mk' _ _) 3 0 rfl rfl rfl rfl hl.1 rfl (Nat.le_of_ble_eq_true rfl) ⟨Nat.zero_le _, Nat.zero_le _⟩ dX4_sheet_61) (fun _ => map_app (wO_map _ _ _ _ _ _ _ _ _ _ _) rfl) (fun r fd3 H locs hp h => ?_)
          have h := (st_lin (st_gnis h))
          obtain ⟨rfl, hF3⟩ := hp
          have h : St E _ s H locs (wO E a k b t x q ((iv (ik))) fd3 ++ (wS E k ((hk)) ((nk)) (k1, k2, k3, k4, k5, k6, k7, k8, k9) ++ (wS E b ((iv (hr A))) ((iv (pe A))) (xs, xi, xk, xc, xl, xr, xb, yl, yr) ++ (wS E t ((ht)) ((nt)) (t1, t2, t3, t4, t5, t6, t7, t8, t9) ++ (wX E x ((iv (tn))) ((e1)) ((e2)) ((e3)) ((e4)) tp ++ (wH E (q 0) ((iv (bq 0))) ((iv (sq 0))) c0 ++ (wH E (q 1) ((iv (bq 1))) ((iv (sq 1))) c1 ++ (wH E (q 2) ((iv (bq 2))) ((iv (sq 2))) c2 ++ (wH E (q 3) ((iv (bq 3))) ((iv (sq 3))) c3 ++ []))))))))) := h
          have e9 : q_sheet bq sq cq ph 3 pb pn = ((-1000000001), bq, sq, cq, (bump ph 0)) := by unfold q_sheet; (repeat (first | rw [if_pos (by omega)] | rw [if_neg (by omega)])); try rfl
          exact ret _ _ _ _ _ (((iv (ik)), fd3), ((hk), (nk), (k1, k2, k3, k4, k5, k6, k7, k8, k9)), ((iv (hr A)), (iv (pe A)), (xs, xi, xk, xc, xl, xr, xb, yl, yr)), ((ht), (nt), (t1, t2, t3, t4, t5, t6, t7, t8, t9)), ((iv (tn)), (e1), (e2), (e3), (e4), tp), ((iv (bq 0)), (iv (sq 0)), c0), ((iv (bq 1)), (iv (sq 1)), c1), ((iv (bq 2)), (iv (sq 2)), c2), ((iv (bq 3)), (iv (sq 3)), c3)) h (by rw [e9]; exact ⟨rfl, ⟨⟨rfl, rfl, hR, hI, hr9⟩, hK, hF3, hT, hB⟩⟩) dX4_sheet_64
      · refine lv_aload_n X.1 X.2.1 dX4_sheet_45 rfl (lv_at hl 1 rfl) ?_
        refine z_ldc (z := (-1000000007)) X ct_X4_188 (by decide) dX4_sheet_46 ?_
        refine z_wi (st_sing (st_nil h)) (run_V (rest := []) X (st_sing (st_nil h)) (c_X4_finding (j := 6) hF (by decide) (by decide) (by decide)) mi_X4_finding ml_X4_49 ⟨Nat.le_of_ble_eq_true rfl, Nat.le_of_ble_eq_true rfl⟩ ⟨rfl, rfl⟩ (Seg.mk' _ _) 3 0 rfl rfl rfl rfl hl.1 rfl (Nat.le_of_ble_eq_true rfl) ⟨Nat.zero_le _, Nat.zero_le _⟩ dX4_sheet_48) (fun _ => map_app (wO_map _ _ _ _ _ _ _ _ _ _ _) rfl) (fun r fd4 H locs hp h => ?_)
        have h := (st_lin (st_gnis h))
        obtain ⟨rfl, hF4⟩ := hp
        have h : St E _ s H locs (wO E a k b t x q ((iv (ik))) fd4 ++ (wS E k ((hk)) ((nk)) (k1, k2, k3, k4, k5, k6, k7, k8, k9) ++ (wS E b ((iv (hr A))) ((iv (pe A))) (xs, xi, xk, xc, xl, xr, xb, yl, yr) ++ (wS E t ((ht)) ((nt)) (t1, t2, t3, t4, t5, t6, t7, t8, t9) ++ (wX E x ((iv (tn))) ((e1)) ((e2)) ((e3)) ((e4)) tp ++ (wH E (q 0) ((iv (bq 0))) ((iv (sq 0))) c0 ++ (wH E (q 1) ((iv (bq 1))) ((iv (sq 1))) c1 ++ (wH E (q 2) ((iv (bq 2))) ((iv (sq 2))) c2 ++ (wH E (q 3) ((iv (bq 3))) ((iv (sq 3))) c3 ++ []))))))))) := h
        have e9 : q_sheet bq sq cq ph 3 pb pn = ((-1000000007), bq, sq, cq, (bump ph 6)) := by unfold q_sheet; (repeat (first | rw [if_pos (by omega)] | rw [if_neg (by omega)])); try rfl
        exact ret _ _ _ _ _ (((iv (ik)), fd4), ((hk), (nk), (k1, k2, k3, k4, k5, k6, k7, k8, k9)), ((iv (hr A)), (iv (pe A)), (xs, xi, xk, xc, xl, xr, xb, yl, yr)), ((ht), (nt), (t1, t2, t3, t4, t5, t6, t7, t8, t9)), ((iv (tn)), (e1), (e2), (e3), (e4), tp), ((iv (bq 0)), (iv (sq 0)), c0), ((iv (bq 1)), (iv (sq 1)), c1), ((iv (bq 2)), (iv (sq 2)), c2), ((iv (bq 3)), (iv (sq 3)), c3)) h (by rw [e9]; exact ⟨rfl, ⟨⟨rfl, rfl, hR, hI, hr9⟩, hK, hF4, hT, hB⟩⟩) dX4_sheet_51
    · refine lv_iload_n X.1 X.2.1 dX4_sheet_22 rfl (lv_at hl 3 rfl) ?_
      refine z_bipush X (by decide) dX4_sheet_23 ?_
      refine z_ic_eq (tgt := 41) X r_pb ⟨by decide, by decide⟩ dX4_sheet_25 (by decide) (fun c_25 => ?_) (fun c_25 => ?_)
      · refine lv_iload_n X.1 X.2.1 dX4_sheet_41 rfl (lv_at hl 4 rfl) ?_
        refine z_if_ge (tgt := 52) X r_pn dX4_sheet_42 (by decide) (fun c_42 => ?_) (fun c_42 => ?_)
        · refine lv_iload_n X.1 X.2.1 dX4_sheet_52 rfl (lv_at hl 4 rfl) ?_
          refine z_bipush X (by decide) dX4_sheet_53 ?_
          refine z_ic_le (tgt := 65) X r_pn ⟨by decide, by decide⟩ dX4_sheet_55 (by decide) (fun c_55 => ?_) (fun c_55 => ?_)
          · refine lv_aload X.1 X.2.1 dX4_sheet_65 (lv_at hl 0 rfl) ?_
            refine lv_iload_n X.1 X.2.1 dX4_sheet_67 rfl (lv_at hl 3 rfl) ?_
            refine lv_iload_n X.1 X.2.1 dX4_sheet_68 rfl (lv_at hl 4 rfl) ?_
            refine z_wv (st_sing (st_in (st_in (st_in (st_in (st_in (st_in (st_in (st_in (st_nil h)))))))))) (run_V (rest := []) X (st_sing (st_in (st_in (st_in (st_in (st_in (st_in (st_in (st_in (st_nil h)))))))))) (c_X0_begin (y := q 3) (b9 := pb) (n9 := pn) r_pb) mi_X0_begin ml_X4_189 ⟨Nat.le_of_ble_eq_true rfl, Nat.le_of_ble_eq_true rfl⟩ ⟨rfl, rfl⟩ (Seg.mk' _ _) 0 41 rfl rfl rfl rfl hl.1 rfl (Nat.le_of_ble_eq_true rfl) ⟨Nat.zero_le _, Nat.zero_le _⟩ dX4_sheet_69) (fun _ => map_app (wH_map _ _ _ _ _ _ _ _) rfl) (fun fz9 H locs hz9 h => ?_)
            have h := (st_lin (st_out (st_out (st_out (st_out (st_out (st_out (st_out (st_out (st_gnis h))))))))))
            have h : St E _ s H locs (wO E a k b t x q ((iv (ik))) fd ++ (wS E k ((hk)) ((nk)) (k1, k2, k3, k4, k5, k6, k7, k8, k9) ++ (wS E b ((iv (hr A))) ((iv (pe A))) (xs, xi, xk, xc, xl, xr, xb, yl, yr) ++ (wS E t ((ht)) ((nt)) (t1, t2, t3, t4, t5, t6, t7, t8, t9) ++ (wX E x ((iv (tn))) ((e1)) ((e2)) ((e3)) ((e4)) tp ++ (wH E (q 0) ((iv (bq 0))) ((iv (sq 0))) c0 ++ (wH E (q 1) ((iv (bq 1))) ((iv (sq 1))) c1 ++ (wH E (q 2) ((iv (bq 2))) ((iv (sq 2))) c2 ++ (wH E (q 3) ((iv (pb))) ((iv (if pb = 0 then 0 else pn))) fz9 ++ []))))))))) := h
            refine lv_aload X.1 X.2.1 dX4_sheet_72 (lv_at hl 0 rfl) ?_
            refine z_get X h 0 41 1 rfl inX0 rfl (by decide) fl_X4_192 rfl dX4_sheet_74 ?_
            have e9 : q_sheet bq sq cq ph 3 pb pn = (if pb = 0 then 0 else pn, (fu bq 3 pb), (fu sq 3 (if pb = 0 then 0 else pn)), (fun t j => if t = 3 then 0 else cq t j), ph) := by unfold q_sheet; (repeat (first | rw [if_pos (by omega)] | rw [if_neg (by omega)])); try rfl
            exact ret _ _ _ _ _ (((iv (ik)), fd), ((hk), (nk), (k1, k2, k3, k4, k5, k6, k7, k8, k9)), ((iv (hr A)), (iv (pe A)), (xs, xi, xk, xc, xl, xr, xb, yl, yr)), ((ht), (nt), (t1, t2, t3, t4, t5, t6, t7, t8, t9)), ((iv (tn)), (e1), (e2), (e3), (e4), tp), ((iv (bq 0)), (iv (sq 0)), c0), ((iv (bq 1)), (iv (sq 1)), c1), ((iv (bq 2)), (iv (sq 2)), c2), ((iv (pb)), (iv (if pb = 0 then 0 else pn)), fz9)) h (by rw [e9]; exact ⟨rfl, ⟨⟨rfl, rfl, hR, hI, hr9⟩, hK, hF, hT, ⟨okB_fu hB3 (by omega) (by omega) (by split <;> omega), RepH_nn hH0 (by decide), RepH_nn hH1 (by decide), RepH_nn hH2 (by decide), RepH_nw hz9⟩⟩⟩) dX4_sheet_77
          · refine lv_aload_n X.1 X.2.1 dX4_sheet_58 rfl (lv_at hl 1 rfl) ?_
            refine z_ldc (z := (-1000000001)) X ct_X4_48 (by decide) dX4_sheet_59 ?_
            refine z_wi (st_sing (st_nil h)) (run_V (rest := []) X (st_sing (st_nil h)) (c_X4_finding (j := 0) hF (by decide) (by decide) (by decide)) mi_X4_finding ml_X4_49 ⟨Nat.le_of_ble_eq_true rfl, Nat.le_of_ble_eq_true rfl⟩ ⟨rfl, rfl⟩ (Seg.mk' _ _) 3 0 rfl rfl rfl rfl hl.1 rfl (Nat.le_of_ble_eq_true rfl) ⟨Nat.zero_le _, Nat.zero_le _⟩ dX4_sheet_61) (fun _ => map_app (wO_map _ _ _ _ _ _ _ _ _ _ _) rfl) (fun r fd5 H locs hp h => ?_)
            have h := (st_lin (st_gnis h))
            obtain ⟨rfl, hF5⟩ := hp
            have h : St E _ s H locs (wO E a k b t x q ((iv (ik))) fd5 ++ (wS E k ((hk)) ((nk)) (k1, k2, k3, k4, k5, k6, k7, k8, k9) ++ (wS E b ((iv (hr A))) ((iv (pe A))) (xs, xi, xk, xc, xl, xr, xb, yl, yr) ++ (wS E t ((ht)) ((nt)) (t1, t2, t3, t4, t5, t6, t7, t8, t9) ++ (wX E x ((iv (tn))) ((e1)) ((e2)) ((e3)) ((e4)) tp ++ (wH E (q 0) ((iv (bq 0))) ((iv (sq 0))) c0 ++ (wH E (q 1) ((iv (bq 1))) ((iv (sq 1))) c1 ++ (wH E (q 2) ((iv (bq 2))) ((iv (sq 2))) c2 ++ (wH E (q 3) ((iv (bq 3))) ((iv (sq 3))) c3 ++ []))))))))) := h
            have e9 : q_sheet bq sq cq ph 3 pb pn = ((-1000000001), bq, sq, cq, (bump ph 0)) := by unfold q_sheet; (repeat (first | rw [if_pos (by omega)] | rw [if_neg (by omega)])); try rfl
            exact ret _ _ _ _ _ (((iv (ik)), fd5), ((hk), (nk), (k1, k2, k3, k4, k5, k6, k7, k8, k9)), ((iv (hr A)), (iv (pe A)), (xs, xi, xk, xc, xl, xr, xb, yl, yr)), ((ht), (nt), (t1, t2, t3, t4, t5, t6, t7, t8, t9)), ((iv (tn)), (e1), (e2), (e3), (e4), tp), ((iv (bq 0)), (iv (sq 0)), c0), ((iv (bq 1)), (iv (sq 1)), c1), ((iv (bq 2)), (iv (sq 2)), c2), ((iv (bq 3)), (iv (sq 3)), c3)) h (by rw [e9]; exact ⟨rfl, ⟨⟨rfl, rfl, hR, hI, hr9⟩, hK, hF5, hT, hB⟩⟩) dX4_sheet_64
        · refine lv_aload_n X.1 X.2.1 dX4_sheet_45 rfl (lv_at hl 1 rfl) ?_
          refine z_ldc (z := (-1000000007)) X ct_X4_188 (by decide) dX4_sheet_46 ?_
          refine z_wi (st_sing (st_nil h)) (run_V (rest := []) X (st_sing (st_nil h)) (c_X4_finding (j := 6) hF (by decide) (by decide) (by decide)) mi_X4_finding ml_X4_49 ⟨Nat.le_of_ble_eq_true rfl, Nat.le_of_ble_eq_true rfl⟩ ⟨rfl, rfl⟩ (Seg.mk' _ _) 3 0 rfl rfl rfl rfl hl.1 rfl (Nat.le_of_ble_eq_true rfl) ⟨Nat.zero_le _, Nat.zero_le _⟩ dX4_sheet_48) (fun _ => map_app (wO_map _ _ _ _ _ _ _ _ _ _ _) rfl) (fun r fd6 H locs hp h => ?_)
          have h := (st_lin (st_gnis h))
          obtain ⟨rfl, hF6⟩ := hp
          have h : St E _ s H locs (wO E a k b t x q ((iv (ik))) fd6 ++ (wS E k ((hk)) ((nk)) (k1, k2, k3, k4, k5, k6, k7, k8, k9) ++ (wS E b ((iv (hr A))) ((iv (pe A))) (xs, xi, xk, xc, xl, xr, xb, yl, yr) ++ (wS E t ((ht)) ((nt)) (t1, t2, t3, t4, t5, t6, t7, t8, t9) ++ (wX E x ((iv (tn))) ((e1)) ((e2)) ((e3)) ((e4)) tp ++ (wH E (q 0) ((iv (bq 0))) ((iv (sq 0))) c0 ++ (wH E (q 1) ((iv (bq 1))) ((iv (sq 1))) c1 ++ (wH E (q 2) ((iv (bq 2))) ((iv (sq 2))) c2 ++ (wH E (q 3) ((iv (bq 3))) ((iv (sq 3))) c3 ++ []))))))))) := h
          have e9 : q_sheet bq sq cq ph 3 pb pn = ((-1000000007), bq, sq, cq, (bump ph 6)) := by unfold q_sheet; (repeat (first | rw [if_pos (by omega)] | rw [if_neg (by omega)])); try rfl
          exact ret _ _ _ _ _ (((iv (ik)), fd6), ((hk), (nk), (k1, k2, k3, k4, k5, k6, k7, k8, k9)), ((iv (hr A)), (iv (pe A)), (xs, xi, xk, xc, xl, xr, xb, yl, yr)), ((ht), (nt), (t1, t2, t3, t4, t5, t6, t7, t8, t9)), ((iv (tn)), (e1), (e2), (e3), (e4), tp), ((iv (bq 0)), (iv (sq 0)), c0), ((iv (bq 1)), (iv (sq 1)), c1), ((iv (bq 2)), (iv (sq 2)), c2), ((iv (bq 3)), (iv (sq 3)), c3)) h (by rw [e9]; exact ⟨rfl, ⟨⟨rfl, rfl, hR, hI, hr9⟩, hK, hF6, hT, hB⟩⟩) dX4_sheet_51
      · refine lv_iload_n X.1 X.2.1 dX4_sheet_28 rfl (lv_at hl 3 rfl) ?_
        refine z_bipush X (by decide) dX4_sheet_29 ?_
        refine z_ic_eq (tgt := 41) X r_pb ⟨by decide, by decide⟩ dX4_sheet_31 (by decide) (fun c_31 => ?_) (fun c_31 => ?_)
        · refine lv_iload_n X.1 X.2.1 dX4_sheet_41 rfl (lv_at hl 4 rfl) ?_
          refine z_if_ge (tgt := 52) X r_pn dX4_sheet_42 (by decide) (fun c_42 => ?_) (fun c_42 => ?_)
          · refine lv_iload_n X.1 X.2.1 dX4_sheet_52 rfl (lv_at hl 4 rfl) ?_
            refine z_bipush X (by decide) dX4_sheet_53 ?_
            refine z_ic_le (tgt := 65) X r_pn ⟨by decide, by decide⟩ dX4_sheet_55 (by decide) (fun c_55 => ?_) (fun c_55 => ?_)
            · refine lv_aload X.1 X.2.1 dX4_sheet_65 (lv_at hl 0 rfl) ?_
              refine lv_iload_n X.1 X.2.1 dX4_sheet_67 rfl (lv_at hl 3 rfl) ?_
              refine lv_iload_n X.1 X.2.1 dX4_sheet_68 rfl (lv_at hl 4 rfl) ?_
              refine z_wv (st_sing (st_in (st_in (st_in (st_in (st_in (st_in (st_in (st_in (st_nil h)))))))))) (run_V (rest := []) X (st_sing (st_in (st_in (st_in (st_in (st_in (st_in (st_in (st_in (st_nil h)))))))))) (c_X0_begin (y := q 3) (b9 := pb) (n9 := pn) r_pb) mi_X0_begin ml_X4_189 ⟨Nat.le_of_ble_eq_true rfl, Nat.le_of_ble_eq_true rfl⟩ ⟨rfl, rfl⟩ (Seg.mk' _ _) 0 41 rfl rfl rfl rfl hl.1 rfl (Nat.le_of_ble_eq_true rfl) ⟨Nat.zero_le _, Nat.zero_le _⟩ dX4_sheet_69) (fun _ => map_app (wH_map _ _ _ _ _ _ _ _) rfl) (fun fz9 H locs hz9 h => ?_)
              have h := (st_lin (st_out (st_out (st_out (st_out (st_out (st_out (st_out (st_out (st_gnis h))))))))))
              have h : St E _ s H locs (wO E a k b t x q ((iv (ik))) fd ++ (wS E k ((hk)) ((nk)) (k1, k2, k3, k4, k5, k6, k7, k8, k9) ++ (wS E b ((iv (hr A))) ((iv (pe A))) (xs, xi, xk, xc, xl, xr, xb, yl, yr) ++ (wS E t ((ht)) ((nt)) (t1, t2, t3, t4, t5, t6, t7, t8, t9) ++ (wX E x ((iv (tn))) ((e1)) ((e2)) ((e3)) ((e4)) tp ++ (wH E (q 0) ((iv (bq 0))) ((iv (sq 0))) c0 ++ (wH E (q 1) ((iv (bq 1))) ((iv (sq 1))) c1 ++ (wH E (q 2) ((iv (bq 2))) ((iv (sq 2))) c2 ++ (wH E (q 3) ((iv (pb))) ((iv (if pb = 0 then 0 else pn))) fz9 ++ []))))))))) := h
              refine lv_aload X.1 X.2.1 dX4_sheet_72 (lv_at hl 0 rfl) ?_
              refine z_get X h 0 41 1 rfl inX0 rfl (by decide) fl_X4_192 rfl dX4_sheet_74 ?_
              have e9 : q_sheet bq sq cq ph 3 pb pn = (if pb = 0 then 0 else pn, (fu bq 3 pb), (fu sq 3 (if pb = 0 then 0 else pn)), (fun t j => if t = 3 then 0 else cq t j), ph) := by unfold q_sheet; (repeat (first | rw [if_pos (by omega)] | rw [if_neg (by omega)])); try rfl
              exact ret _ _ _ _ _ (((iv (ik)), fd), ((hk), (nk), (k1, k2, k3, k4, k5, k6, k7, k8, k9)), ((iv (hr A)), (iv (pe A)), (xs, xi, xk, xc, xl, xr, xb, yl, yr)), ((ht), (nt), (t1, t2, t3, t4, t5, t6, t7, t8, t9)), ((iv (tn)), (e1), (e2), (e3), (e4), tp), ((iv (bq 0)), (iv (sq 0)), c0), ((iv (bq 1)), (iv (sq 1)), c1), ((iv (bq 2)), (iv (sq 2)), c2), ((iv (pb)), (iv (if pb = 0 then 0 else pn)), fz9)) h (by rw [e9]; exact ⟨rfl, ⟨⟨rfl, rfl, hR, hI, hr9⟩, hK, hF, hT, ⟨okB_fu hB3 (by omega) (by omega) (by split <;> omega), RepH_nn hH0 (by decide), RepH_nn hH1 (by decide), RepH_nn hH2 (by decide), RepH_nw hz9⟩⟩⟩) dX4_sheet_77
            · refine lv_aload_n X.1 X.2.1 dX4_sheet_58 rfl (lv_at hl 1 rfl) ?_
              refine z_ldc (z := (-1000000001)) X ct_X4_48 (by decide) dX4_sheet_59 ?_
              refine z_wi (st_sing (st_nil h)) (run_V (rest := []) X (st_sing (st_nil h)) (c_X4_finding (j := 0) hF (by decide) (by decide) (by decide)) mi_X4_finding ml_X4_49 ⟨Nat.le_of_ble_eq_true rfl, Nat.le_of_ble_eq_true rfl⟩ ⟨rfl, rfl⟩ (Seg.mk' _ _) 3 0 rfl rfl rfl rfl hl.1 rfl (Nat.le_of_ble_eq_true rfl) ⟨Nat.zero_le _, Nat.zero_le _⟩ dX4_sheet_61) (fun _ => map_app (wO_map _ _ _ _ _ _ _ _ _ _ _) rfl) (fun r fd7 H locs hp h => ?_)
              have h := (st_lin (st_gnis h))
              obtain ⟨rfl, hF7⟩ := hp
              have h : St E _ s H locs (wO E a k b t x q ((iv (ik))) fd7 ++ (wS E k ((hk)) ((nk)) (k1, k2, k3, k4, k5, k6, k7, k8, k9) ++ (wS E b ((iv (hr A))) ((iv (pe A))) (xs, xi, xk, xc, xl, xr, xb, yl, yr) ++ (wS E t ((ht)) ((nt)) (t1, t2, t3, t4, t5, t6, t7, t8, t9) ++ (wX E x ((iv (tn))) ((e1)) ((e2)) ((e3)) ((e4)) tp ++ (wH E (q 0) ((iv (bq 0))) ((iv (sq 0))) c0 ++ (wH E (q 1) ((iv (bq 1))) ((iv (sq 1))) c1 ++ (wH E (q 2) ((iv (bq 2))) ((iv (sq 2))) c2 ++ (wH E (q 3) ((iv (bq 3))) ((iv (sq 3))) c3 ++ []))))))))) := h
              have e9 : q_sheet bq sq cq ph 3 pb pn = ((-1000000001), bq, sq, cq, (bump ph 0)) := by unfold q_sheet; (repeat (first | rw [if_pos (by omega)] | rw [if_neg (by omega)])); try rfl
              exact ret _ _ _ _ _ (((iv (ik)), fd7), ((hk), (nk), (k1, k2, k3, k4, k5, k6, k7, k8, k9)), ((iv (hr A)), (iv (pe A)), (xs, xi, xk, xc, xl, xr, xb, yl, yr)), ((ht), (nt), (t1, t2, t3, t4, t5, t6, t7, t8, t9)), ((iv (tn)), (e1), (e2), (e3), (e4), tp), ((iv (bq 0)), (iv (sq 0)), c0), ((iv (bq 1)), (iv (sq 1)), c1), ((iv (bq 2)), (iv (sq 2)), c2), ((iv (bq 3)), (iv (sq 3)), c3)) h (by rw [e9]; exact ⟨rfl, ⟨⟨rfl, rfl, hR, hI, hr9⟩, hK, hF7, hT, hB⟩⟩) dX4_sheet_64
          · refine lv_aload_n X.1 X.2.1 dX4_sheet_45 rfl (lv_at hl 1 rfl) ?_
            refine z_ldc (z := (-1000000007)) X ct_X4_188 (by decide) dX4_sheet_46 ?_
            refine z_wi (st_sing (st_nil h)) (run_V (rest := []) X (st_sing (st_nil h)) (c_X4_finding (j := 6) hF (by decide) (by decide) (by decide)) mi_X4_finding ml_X4_49 ⟨Nat.le_of_ble_eq_true rfl, Nat.le_of_ble_eq_true rfl⟩ ⟨rfl, rfl⟩ (Seg.mk' _ _) 3 0 rfl rfl rfl rfl hl.1 rfl (Nat.le_of_ble_eq_true rfl) ⟨Nat.zero_le _, Nat.zero_le _⟩ dX4_sheet_48) (fun _ => map_app (wO_map _ _ _ _ _ _ _ _ _ _ _) rfl) (fun r fd8 H locs hp h => ?_)
            have h := (st_lin (st_gnis h))
            obtain ⟨rfl, hF8⟩ := hp
            have h : St E _ s H locs (wO E a k b t x q ((iv (ik))) fd8 ++ (wS E k ((hk)) ((nk)) (k1, k2, k3, k4, k5, k6, k7, k8, k9) ++ (wS E b ((iv (hr A))) ((iv (pe A))) (xs, xi, xk, xc, xl, xr, xb, yl, yr) ++ (wS E t ((ht)) ((nt)) (t1, t2, t3, t4, t5, t6, t7, t8, t9) ++ (wX E x ((iv (tn))) ((e1)) ((e2)) ((e3)) ((e4)) tp ++ (wH E (q 0) ((iv (bq 0))) ((iv (sq 0))) c0 ++ (wH E (q 1) ((iv (bq 1))) ((iv (sq 1))) c1 ++ (wH E (q 2) ((iv (bq 2))) ((iv (sq 2))) c2 ++ (wH E (q 3) ((iv (bq 3))) ((iv (sq 3))) c3 ++ []))))))))) := h
            have e9 : q_sheet bq sq cq ph 3 pb pn = ((-1000000007), bq, sq, cq, (bump ph 6)) := by unfold q_sheet; (repeat (first | rw [if_pos (by omega)] | rw [if_neg (by omega)])); try rfl
            exact ret _ _ _ _ _ (((iv (ik)), fd8), ((hk), (nk), (k1, k2, k3, k4, k5, k6, k7, k8, k9)), ((iv (hr A)), (iv (pe A)), (xs, xi, xk, xc, xl, xr, xb, yl, yr)), ((ht), (nt), (t1, t2, t3, t4, t5, t6, t7, t8, t9)), ((iv (tn)), (e1), (e2), (e3), (e4), tp), ((iv (bq 0)), (iv (sq 0)), c0), ((iv (bq 1)), (iv (sq 1)), c1), ((iv (bq 2)), (iv (sq 2)), c2), ((iv (bq 3)), (iv (sq 3)), c3)) h (by rw [e9]; exact ⟨rfl, ⟨⟨rfl, rfl, hR, hI, hr9⟩, hK, hF8, hT, hB⟩⟩) dX4_sheet_51
        · refine lv_aload_n X.1 X.2.1 dX4_sheet_34 rfl (lv_at hl 1 rfl) ?_
          refine z_ldc (z := (-1000000001)) X ct_X4_48 (by decide) dX4_sheet_35 ?_
          refine z_wi (st_sing (st_nil h)) (run_V (rest := []) X (st_sing (st_nil h)) (c_X4_finding (j := 0) hF (by decide) (by decide) (by decide)) mi_X4_finding ml_X4_49 ⟨Nat.le_of_ble_eq_true rfl, Nat.le_of_ble_eq_true rfl⟩ ⟨rfl, rfl⟩ (Seg.mk' _ _) 3 0 rfl rfl rfl rfl hl.1 rfl (Nat.le_of_ble_eq_true rfl) ⟨Nat.zero_le _, Nat.zero_le _⟩ dX4_sheet_37) (fun _ => map_app (wO_map _ _ _ _ _ _ _ _ _ _ _) rfl) (fun r fd9 H locs hp h => ?_)
          have h := (st_lin (st_gnis h))
          obtain ⟨rfl, hF9⟩ := hp
          have h : St E _ s H locs (wO E a k b t x q ((iv (ik))) fd9 ++ (wS E k ((hk)) ((nk)) (k1, k2, k3, k4, k5, k6, k7, k8, k9) ++ (wS E b ((iv (hr A))) ((iv (pe A))) (xs, xi, xk, xc, xl, xr, xb, yl, yr) ++ (wS E t ((ht)) ((nt)) (t1, t2, t3, t4, t5, t6, t7, t8, t9) ++ (wX E x ((iv (tn))) ((e1)) ((e2)) ((e3)) ((e4)) tp ++ (wH E (q 0) ((iv (bq 0))) ((iv (sq 0))) c0 ++ (wH E (q 1) ((iv (bq 1))) ((iv (sq 1))) c1 ++ (wH E (q 2) ((iv (bq 2))) ((iv (sq 2))) c2 ++ (wH E (q 3) ((iv (bq 3))) ((iv (sq 3))) c3 ++ []))))))))) := h
          have e9 : q_sheet bq sq cq ph 3 pb pn = ((-1000000001), bq, sq, cq, (bump ph 0)) := by unfold q_sheet; (repeat (first | rw [if_pos (by omega)] | rw [if_neg (by omega)])); try rfl
          exact ret _ _ _ _ _ (((iv (ik)), fd9), ((hk), (nk), (k1, k2, k3, k4, k5, k6, k7, k8, k9)), ((iv (hr A)), (iv (pe A)), (xs, xi, xk, xc, xl, xr, xb, yl, yr)), ((ht), (nt), (t1, t2, t3, t4, t5, t6, t7, t8, t9)), ((iv (tn)), (e1), (e2), (e3), (e4), tp), ((iv (bq 0)), (iv (sq 0)), c0), ((iv (bq 1)), (iv (sq 1)), c1), ((iv (bq 2)), (iv (sq 2)), c2), ((iv (bq 3)), (iv (sq 3)), c3)) h (by rw [e9]; exact ⟨rfl, ⟨⟨rfl, rfl, hR, hI, hr9⟩, hK, hF9, hT, hB⟩⟩) dX4_sheet_40

set_option maxHeartbeats 4000000 in
theorem c_X4_sheet_N (hS : RepC (((iv (ik)), fd), ((hk), (nk), (k1, k2, k3, k4, k5, k6, k7, k8, k9)), ((iv (hr A)), (iv (pe A)), (xs, xi, xk, xc, xl, xr, xb, yl, yr)), ((ht), (nt), (t1, t2, t3, t4, t5, t6, t7, t8, t9)), ((iv (tn)), (e1), (e2), (e3), (e4), tp), ((iv (bq 0)), (iv (sq 0)), c0), ((iv (bq 1)), (iv (sq 1)), c1), ((iv (bq 2)), (iv (sq 2)), c2), ((iv (bq 3)), (iv (sq 3)), c3)) (A, K, ik, ph, tq, tn, bq, sq, cq)) {ps : Int} (r_ps : r32 ps) {pb : Int} (r_pb : r32 pb) {pn : Int} (r_pn : r32 pn) (ho : ps < 0 ∨ 3 < ps) : MI (S := Tc) E l yX4_sheet cX4_sheet 5 (some FieldType.int) (rmk 2 46) (wO E a k b t x q ((iv (ik))) fd ++ (wS E k ((hk)) ((nk)) (k1, k2, k3, k4, k5, k6, k7, k8, k9) ++ (wS E b ((iv (hr A))) ((iv (pe A))) (xs, xi, xk, xc, xl, xr, xb, yl, yr) ++ (wS E t ((ht)) ((nt)) (t1, t2, t3, t4, t5, t6, t7, t8, t9) ++ (wX E x ((iv (tn))) ((e1)) ((e2)) ((e3)) ((e4)) tp ++ (wH E (q 0) ((iv (bq 0))) ((iv (sq 0))) c0 ++ (wH E (q 1) ((iv (bq 1))) ((iv (sq 1))) c1 ++ (wH E (q 2) ((iv (bq 2))) ((iv (sq 2))) c2 ++ (wH E (q 3) ((iv (bq 3))) ((iv (sq 3))) c3 ++ []))))))))) [.ref (a 0), .int (iv (ps)), .int (iv (pb)), .int (iv (pn))] (fun r u => r = iv ((q_sheet bq sq cq ph ps pb pn).1) ∧ RepC u (A, K, ik, (q_sheet bq sq cq ph ps pb pn).2.2.2.2, tq, tn, (q_sheet bq sq cq ph ps pb pn).2.1, (q_sheet bq sq cq ph ps pb pn).2.2.1, (q_sheet bq sq cq ph ps pb pn).2.2.2.1)) (fun u => wT E a k b t x q u) := by
  refine goI (S := Tc) (post := fun r u => r = iv ((q_sheet bq sq cq ph ps pb pn).1) ∧ RepC u (A, K, ik, (q_sheet bq sq cq ph ps pb pn).2.2.2.2, tq, tn, (q_sheet bq sq cq ph ps pb pn).2.1, (q_sheet bq sq cq ph ps pb pn).2.2.1, (q_sheet bq sq cq ph ps pb pn).2.2.2.1)) (ws' := fun u => wT E a k b t x q u) (by decide) (Nat.le_of_ble_eq_true rfl) ?_
  intro pp e s m below meth c ls args Q ret X h hl
  have hl : lv_has ls 5 [(0, .ref (a 0)), (1, .int (iv (ps))), (2, .int (iv (pb))), (3, .int (iv (pn)))] := hl
  have hR : RS (xs, xi, xk, xc, xl, xr, xb, yl, yr) A := hS.1.2.2.1
  have hI : IA A := hS.1.2.2.2.1
  have hr9 : hr A ≤ 99999 := hS.1.2.2.2.2
  have hF : RF 7 fd ph := hS.2.2.1
  have hK := hS.2.1
  have hT := hS.2.2.2.1
  have hB := hS.2.2.2.2
  have hh : hr A < 1000000 := by omega
  have n8 := hI.n8
  have n0 := hI.n0
  have h0 := hI.h0
  have ht0 : 0 ≤ tn := hS.2.2.2.1.2.1
  have ht1 : tn ≤ 120 := hS.2.2.2.1.2.2.1
  have hk01 : ik = 0 ∨ ik = 1 := hS.2.1.2.1
  have hB3 : okB bq sq := hS.2.2.2.2.1
  have hH0 : RepH (iv (bq 0), iv (sq 0), c0) bq sq cq 0 := hS.2.2.2.2.2.1
  have hH1 : RepH (iv (bq 1), iv (sq 1), c1) bq sq cq 1 := hS.2.2.2.2.2.2.1
  have hH2 : RepH (iv (bq 2), iv (sq 2), c2) bq sq cq 2 := hS.2.2.2.2.2.2.2.1
  have hH3 : RepH (iv (bq 3), iv (sq 3), c3) bq sq cq 3 := hS.2.2.2.2.2.2.2.2
  refine lv_aload_n X.1 X.2.1 dX4_sheet_0 rfl (lv_at hl 0 rfl) ?_
  refine lv_iload_n X.1 X.2.1 dX4_sheet_1 rfl (lv_at hl 1 rfl) ?_
  refine z_pq (run_V (rest := []) X h (c_sheetAtN (s9 := ps) r_ps (by omega)) mi_X4_sheetAt ml_X4_184 ⟨Nat.le_of_ble_eq_true rfl, Nat.le_of_ble_eq_true rfl⟩ ⟨rfl, rfl⟩ (Seg.rfl' _) 3 0 rfl rfl rfl rfl hl.1 rfl (Nat.le_of_ble_eq_true rfl) ⟨Nat.zero_le _, Nat.zero_le _⟩ dX4_sheet_2) ?_
  refine W.eq (g2 := F0 m 5 ls [.null]) rfl ?_
  refine lv_astoreN (lv' := [(4, .null), (0, .ref (a 0)), (1, .int (iv (ps))), (2, .int (iv (pb))), (3, .int (iv (pn)))]) X.1 X.2.1 dX4_sheet_5 hl (by decide) rfl (fun ls hl => ?_)
  refine lv_aloadN X.1 X.2.1 dX4_sheet_7 (lv_at hl 0 rfl) ?_
  refine lv_ifnullN (tgt := 34) X.1 X.2.1 dX4_sheet_9 (by decide) ?_
  refine lv_aload_n X.1 X.2.1 dX4_sheet_34 rfl (lv_at hl 1 rfl) ?_
  refine z_ldc (z := (-1000000001)) X ct_X4_48 (by decide) dX4_sheet_35 ?_
  refine z_wi (st_sing (st_nil h)) (run_V (rest := []) X (st_sing (st_nil h)) (c_X4_finding (j := 0) hF (by decide) (by decide) (by decide)) mi_X4_finding ml_X4_49 ⟨Nat.le_of_ble_eq_true rfl, Nat.le_of_ble_eq_true rfl⟩ ⟨rfl, rfl⟩ (Seg.mk' _ _) 3 0 rfl rfl rfl rfl hl.1 rfl (Nat.le_of_ble_eq_true rfl) ⟨Nat.zero_le _, Nat.zero_le _⟩ dX4_sheet_37) (fun _ => map_app (wO_map _ _ _ _ _ _ _ _ _ _ _) rfl) (fun r fd1 H locs hp h => ?_)
  have h := (st_lin (st_gnis h))
  obtain ⟨rfl, hF1⟩ := hp
  have h : St E _ s H locs (wO E a k b t x q ((iv (ik))) fd1 ++ (wS E k ((hk)) ((nk)) (k1, k2, k3, k4, k5, k6, k7, k8, k9) ++ (wS E b ((iv (hr A))) ((iv (pe A))) (xs, xi, xk, xc, xl, xr, xb, yl, yr) ++ (wS E t ((ht)) ((nt)) (t1, t2, t3, t4, t5, t6, t7, t8, t9) ++ (wX E x ((iv (tn))) ((e1)) ((e2)) ((e3)) ((e4)) tp ++ (wH E (q 0) ((iv (bq 0))) ((iv (sq 0))) c0 ++ (wH E (q 1) ((iv (bq 1))) ((iv (sq 1))) c1 ++ (wH E (q 2) ((iv (bq 2))) ((iv (sq 2))) c2 ++ (wH E (q 3) ((iv (bq 3))) ((iv (sq 3))) c3 ++ []))))))))) := h
  have e9 : q_sheet bq sq cq ph ps pb pn = ((-1000000001), bq, sq, cq, (bump ph 0)) := by unfold q_sheet; (repeat (first | rw [if_pos (by omega)] | rw [if_neg (by omega)])); try rfl
  exact ret _ _ _ _ _ (((iv (ik)), fd1), ((hk), (nk), (k1, k2, k3, k4, k5, k6, k7, k8, k9)), ((iv (hr A)), (iv (pe A)), (xs, xi, xk, xc, xl, xr, xb, yl, yr)), ((ht), (nt), (t1, t2, t3, t4, t5, t6, t7, t8, t9)), ((iv (tn)), (e1), (e2), (e3), (e4), tp), ((iv (bq 0)), (iv (sq 0)), c0), ((iv (bq 1)), (iv (sq 1)), c1), ((iv (bq 2)), (iv (sq 2)), c2), ((iv (bq 3)), (iv (sq 3)), c3)) h (by rw [e9]; exact ⟨rfl, ⟨⟨rfl, rfl, hR, hI, hr9⟩, hK, hF1, hT, hB⟩⟩) dX4_sheet_40

theorem c_X4_sheet (hS : RepC (((iv (ik)), fd), ((hk), (nk), (k1, k2, k3, k4, k5, k6, k7, k8, k9)), ((iv (hr A)), (iv (pe A)), (xs, xi, xk, xc, xl, xr, xb, yl, yr)), ((ht), (nt), (t1, t2, t3, t4, t5, t6, t7, t8, t9)), ((iv (tn)), (e1), (e2), (e3), (e4), tp), ((iv (bq 0)), (iv (sq 0)), c0), ((iv (bq 1)), (iv (sq 1)), c1), ((iv (bq 2)), (iv (sq 2)), c2), ((iv (bq 3)), (iv (sq 3)), c3)) (A, K, ik, ph, tq, tn, bq, sq, cq)) {ps : Int} (r_ps : r32 ps) {pb : Int} (r_pb : r32 pb) {pn : Int} (r_pn : r32 pn) : MI (S := Tc) E l yX4_sheet cX4_sheet 5 (some FieldType.int) (rmk 2 46) (wO E a k b t x q ((iv (ik))) fd ++ (wS E k ((hk)) ((nk)) (k1, k2, k3, k4, k5, k6, k7, k8, k9) ++ (wS E b ((iv (hr A))) ((iv (pe A))) (xs, xi, xk, xc, xl, xr, xb, yl, yr) ++ (wS E t ((ht)) ((nt)) (t1, t2, t3, t4, t5, t6, t7, t8, t9) ++ (wX E x ((iv (tn))) ((e1)) ((e2)) ((e3)) ((e4)) tp ++ (wH E (q 0) ((iv (bq 0))) ((iv (sq 0))) c0 ++ (wH E (q 1) ((iv (bq 1))) ((iv (sq 1))) c1 ++ (wH E (q 2) ((iv (bq 2))) ((iv (sq 2))) c2 ++ (wH E (q 3) ((iv (bq 3))) ((iv (sq 3))) c3 ++ []))))))))) [.ref (a 0), .int (iv (ps)), .int (iv (pb)), .int (iv (pn))] (fun r u => r = iv ((q_sheet bq sq cq ph ps pb pn).1) ∧ RepC u (A, K, ik, (q_sheet bq sq cq ph ps pb pn).2.2.2.2, tq, tn, (q_sheet bq sq cq ph ps pb pn).2.1, (q_sheet bq sq cq ph ps pb pn).2.2.1, (q_sheet bq sq cq ph ps pb pn).2.2.2.1)) (fun u => wT E a k b t x q u) := by
  rcases (show ps = 0 ∨ ps = 1 ∨ ps = 2 ∨ ps = 3 ∨ (ps < 0 ∨ 3 < ps) by omega) with rfl | rfl | rfl | rfl | ho
  · exact c_X4_sheet_0 hS r_pb r_pn
  · exact c_X4_sheet_1 hS r_pb r_pn
  · exact c_X4_sheet_2 hS r_pb r_pn
  · exact c_X4_sheet_3 hS r_pb r_pn
  · exact c_X4_sheet_N hS r_ps r_pb r_pn ho
