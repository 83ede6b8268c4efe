variable {E : EV} {l : Launch} {a k b t x : Nat → Nat} {q : Nat → Nat → Nat} {fd k1 k2 k3 k4 k5 k6 k7 k8 k9 xs xi xk xc xl xr xb yl yr t1 t2 t3 t4 t5 t6 t7 t8 t9 tp : Nat → Int32} {hk nk ht nt e1 e2 e3 e4 v0 : Int32} {c0 c1 c2 c3 : Nat → Int64} {A K : Es} {ph tq bq sq : Int → Int} {cq : Int → Int → Int64} {ik tn : Int}
set_option maxHeartbeats 4000000 in
theorem c_X4_copy_0_0 (hS : RepC (((iv (ik)), fd), ((hk), (nk), (k1, k2, k3, k4, k5, k6, k7, k8, k9)), ((iv (hr A)), (iv (pe A)), (xs, xi, xk, xc, xl, xr, xb, yl, yr)), ((ht), (nt), (t1, t2, t3, t4, t5, t6, t7, t8, t9)), ((iv (tn)), (e1), (e2), (e3), (e4), tp), ((iv (bq 0)), (iv (sq 0)), c0), ((iv (bq 1)), (iv (sq 1)), c1), ((iv (bq 2)), (iv (sq 2)), c2), ((iv (bq 3)), (iv (sq 3)), c3)) (A, K, ik, ph, tq, tn, bq, sq, cq)) {pf : Int} (r_pf : r32 pf) {po : Int} (r_po : r32 po) {pn : Int} (r_pn : r32 pn) : MI (S := Tc) E l yX4_copy cX4_copy 8 (some FieldType.int) (rmk 2 44) (wO E a k b t x q ((iv (ik))) fd ++ (wS E k ((hk)) ((nk)) (k1, k2, k3, k4, k5, k6, k7, k8, k9) ++ (wS E b ((iv (hr A))) ((iv (pe A))) (xs, xi, xk, xc, xl, xr, xb, yl, yr) ++ (wS E t ((ht)) ((nt)) (t1, t2, t3, t4, t5, t6, t7, t8, t9) ++ (wX E x ((iv (tn))) ((e1)) ((e2)) ((e3)) ((e4)) tp ++ (wH E (q 0) ((iv (bq 0))) ((iv (sq 0))) c0 ++ (wH E (q 1) ((iv (bq 1))) ((iv (sq 1))) c1 ++ (wH E (q 2) ((iv (bq 2))) ((iv (sq 2))) c2 ++ (wH E (q 3) ((iv (bq 3))) ((iv (sq 3))) c3 ++ []))))))))) [.ref (a 0), .int (iv (0)), .int (iv (pf)), .int (iv (0)), .int (iv (po)), .int (iv (pn))] (fun r u => r = iv ((q_copy bq sq cq ph 0 pf 0 po pn).1) ∧ RepC u (A, K, ik, (q_copy bq sq cq ph 0 pf 0 po pn).2.2, tq, tn, bq, sq, (q_copy bq sq cq ph 0 pf 0 po pn).2.1)) (fun u => wT E a k b t x q u) := by
  refine goI (S := Tc) (post := fun r u => r = iv ((q_copy bq sq cq ph 0 pf 0 po pn).1) ∧ RepC u (A, K, ik, (q_copy bq sq cq ph 0 pf 0 po pn).2.2, tq, tn, bq, sq, (q_copy bq sq cq ph 0 pf 0 po pn).2.1)) (ws' := fun u => wT E a k b t x q u) (by decide) (Nat.le_of_ble_eq_true rfl) ?_
  intro pp e s m below meth c ls args Q ret X h hl
  have hl : lv_has ls 8 [(0, .ref (a 0)), (1, .int (iv (0))), (2, .int (iv (pf))), (3, .int (iv (0))), (4, .int (iv (po))), (5, .int (iv (pn)))] := hl
  have hR : RS (xs, xi, xk, xc, xl, xr, xb, yl, yr) A := hS.1.2.2.1
  have hI : IA A := hS.1.2.2.2.1
  have hr9 : hr A ≤ 99999 := hS.1.2.2.2.2
  have hF : RF 7 fd ph := hS.2.2.1
  have hK := hS.2.1
  have hT := hS.2.2.2.1
  have hB := hS.2.2.2.2
  have hh : hr A < 1000000 := by omega
  have n8 := hI.n8
  have n0 := hI.n0
  have h0 := hI.h0
  have ht0 : 0 ≤ tn := hS.2.2.2.1.2.1
  have ht1 : tn ≤ 120 := hS.2.2.2.1.2.2.1
  have hk01 : ik = 0 ∨ ik = 1 := hS.2.1.2.1
  have hB3 : okB bq sq := hS.2.2.2.2.1
  have hH0 : RepH (iv (bq 0), iv (sq 0), c0) bq sq cq 0 := hS.2.2.2.2.2.1
  have hH1 : RepH (iv (bq 1), iv (sq 1), c1) bq sq cq 1 := hS.2.2.2.2.2.2.1
  have hH2 : RepH (iv (bq 2), iv (sq 2), c2) bq sq cq 2 := hS.2.2.2.2.2.2.2.1
  have hH3 : RepH (iv (bq 3), iv (sq 3), c3) bq sq cq 3 := hS.2.2.2.2.2.2.2.2
  have ob0 := hB3.1 0 (by omega) (by omega)
  have zb0 := hB3.2 0 (by omega) (by omega)
  have q2 := r_pf.1
  have q22 := r_pf.2
  have q4 := r_po.1
  have q42 := r_po.2
  have q5 := r_pn.1
  have q52 := r_pn.2
  refine lv_aload_n X.1 X.2.1 dX4_copy_0 rfl (lv_at hl 0 rfl) ?_
  refine lv_iload_n X.1 X.2.1 dX4_copy_1 rfl (lv_at hl 1 rfl) ?_
  refine z_pq (run_V (rest := []) X h (c_sheetAt0) mi_X4_sheetAt ml_X4_184 ⟨Nat.le_of_ble_eq_true rfl, Nat.le_of_ble_eq_true rfl⟩ ⟨rfl, rfl⟩ (Seg.rfl' _) 3 0 rfl rfl rfl rfl hl.1 rfl (Nat.le_of_ble_eq_true rfl) ⟨Nat.zero_le _, Nat.zero_le _⟩ dX4_copy_2) ?_
  refine W.eq (g2 := F0 m 5 ls [.ref (q 0 0)]) rfl ?_
  refine lv_astore (lv' := [(6, .ref (q 0 0)), (0, .ref (a 0)), (1, .int (iv (0))), (2, .int (iv (pf))), (3, .int (iv (0))), (4, .int (iv (po))), (5, .int (iv (pn)))]) X.1 X.2.1 dX4_copy_5 hl (by decide) rfl (fun ls hl => ?_)
  refine lv_aload_n X.1 X.2.1 dX4_copy_7 rfl (lv_at hl 1 rfl) ?_
  refine lv_iload_n X.1 X.2.1 dX4_copy_8 rfl (lv_at hl 4 rfl) ?_
  refine z_pq (run_V (rest := []) X h (c_sheetAt0) mi_X4_sheetAt ml_X4_184 ⟨Nat.le_of_ble_eq_true rfl, Nat.le_of_ble_eq_true rfl⟩ ⟨rfl, rfl⟩ (Seg.rfl' _) 3 0 rfl rfl rfl rfl hl.1 rfl (Nat.le_of_ble_eq_true rfl) ⟨Nat.zero_le _, Nat.zero_le _⟩ dX4_copy_9) ?_
  refine W.eq (g2 := F0 m 12 ls [.ref (q 0 0)]) rfl ?_
  refine lv_astore (lv' := [(7, .ref (q 0 0)), (6, .ref (q 0 0)), (0, .ref (a 0)), (1, .int (iv (0))), (2, .int (iv (pf))), (3, .int (iv (0))), (4, .int (iv (po))), (5, .int (iv (pn)))]) X.1 X.2.1 dX4_copy_12 hl (by decide) rfl (fun ls hl => ?_)
  refine lv_aload X.1 X.2.1 dX4_copy_14 (lv_at hl 1 rfl) ?_
  refine lv_ifnull X.1 X.2.1 dX4_copy_16 ?_
  refine lv_aload X.1 X.2.1 dX4_copy_19 (lv_at hl 0 rfl) ?_
  refine lv_ifnonnull (tgt := 31) X.1 X.2.1 dX4_copy_21 (by decide) ?_
  refine lv_aload X.1 X.2.1 dX4_copy_31 (lv_at hl 1 rfl) ?_
  refine z_pi (run_V (rest := []) X (st_sing (st_in (st_in (st_in (st_in (st_in (st_nil h))))))) (c_X0_isMissing (y := q 0) (bt := bq 0) ⟨by omega, by omega⟩) mi_X0_isMissing ml_X4_193 ⟨Nat.le_of_ble_eq_true rfl, Nat.le_of_ble_eq_true rfl⟩ ⟨rfl, rfl⟩ (Seg.mk' _ _) 0 35 rfl rfl rfl rfl hl.1 rfl (Nat.le_of_ble_eq_true rfl) ⟨Nat.zero_le _, Nat.zero_le _⟩ dX4_copy_33) ?_
  refine z_ifb_ne (tgt := 47) X dX4_copy_36 (by decide) (fun c_36 => ?_) (fun c_36 => ?_)
  · refine lv_aload_n X.1 X.2.1 dX4_copy_47 rfl (lv_at hl 2 rfl) ?_
    refine z_ldc (z := (-1000000006)) X ct_X4_197 (by decide) dX4_copy_48 ?_
    refine z_wi (st_sing (st_nil h)) (run_V (rest := []) X (st_sing (st_nil h)) (c_X4_finding (j := 5) hF (by decide) (by decide) (by decide)) mi_X4_finding ml_X4_49 ⟨Nat.le_of_ble_eq_true rfl, Nat.le_of_ble_eq_true rfl⟩ ⟨rfl, rfl⟩ (Seg.mk' _ _) 3 0 rfl rfl rfl rfl hl.1 rfl (Nat.le_of_ble_eq_true rfl) ⟨Nat.zero_le _, Nat.zero_le _⟩ dX4_copy_50) (fun _ => map_app (wO_map _ _ _ _ _ _ _ _ _ _ _) rfl) (fun r fd1 H locs hp h => ?_)
    have h := (st_lin (st_gnis h))
    obtain ⟨rfl, hF1⟩ := hp
    have h : St E _ s H locs (wO E a k b t x q ((iv (ik))) fd1 ++ (wS E k ((hk)) ((nk)) (k1, k2, k3, k4, k5, k6, k7, k8, k9) ++ (wS E b ((iv (hr A))) ((iv (pe A))) (xs, xi, xk, xc, xl, xr, xb, yl, yr) ++ (wS E t ((ht)) ((nt)) (t1, t2, t3, t4, t5, t6, t7, t8, t9) ++ (wX E x ((iv (tn))) ((e1)) ((e2)) ((e3)) ((e4)) tp ++ (wH E (q 0) ((iv (bq 0))) ((iv (sq 0))) c0 ++ (wH E (q 1) ((iv (bq 1))) ((iv (sq 1))) c1 ++ (wH E (q 2) ((iv (bq 2))) ((iv (sq 2))) c2 ++ (wH E (q 3) ((iv (bq 3))) ((iv (sq 3))) c3 ++ []))))))))) := h
    have e9 : q_copy bq sq cq ph 0 pf 0 po pn = ((-1000000006), cq, (bump ph 5)) := by first | (unfold q_copy; (repeat (first | rw [if_pos (by omega)] | rw [if_neg (by omega)])); first | done | rfl) | (exfalso; omega)
    exact ret _ _ _ _ _ (((iv (ik)), fd1), ((hk), (nk), (k1, k2, k3, k4, k5, k6, k7, k8, k9)), ((iv (hr A)), (iv (pe A)), (xs, xi, xk, xc, xl, xr, xb, yl, yr)), ((ht), (nt), (t1, t2, t3, t4, t5, t6, t7, t8, t9)), ((iv (tn)), (e1), (e2), (e3), (e4), tp), ((iv (bq 0)), (iv (sq 0)), c0), ((iv (bq 1)), (iv (sq 1)), c1), ((iv (bq 2)), (iv (sq 2)), c2), ((iv (bq 3)), (iv (sq 3)), c3)) h (by rw [e9]; exact ⟨rfl, ⟨⟨rfl, rfl, hR, hI, hr9⟩, hK, hF1, hT, hB⟩⟩) dX4_copy_53
  · refine lv_aload X.1 X.2.1 dX4_copy_39 (lv_at hl 0 rfl) ?_
    refine z_pi (run_V (rest := []) X (st_sing (st_in (st_in (st_in (st_in (st_in (st_nil h))))))) (c_X0_isMissing (y := q 0) (bt := bq 0) ⟨by omega, by omega⟩) mi_X0_isMissing ml_X4_193 ⟨Nat.le_of_ble_eq_true rfl, Nat.le_of_ble_eq_true rfl⟩ ⟨rfl, rfl⟩ (Seg.mk' _ _) 0 35 rfl rfl rfl rfl hl.1 rfl (Nat.le_of_ble_eq_true rfl) ⟨Nat.zero_le _, Nat.zero_le _⟩ dX4_copy_41) ?_
    refine z_ifb_eq (tgt := 54) X dX4_copy_44 (by decide) (fun c_44 => ?_) (fun c_44 => ?_)
    · refine lv_aload X.1 X.2.1 dX4_copy_54 (lv_at hl 1 rfl) ?_
      refine z_get X h 0 35 0 rfl inX0 rfl (by decide) fl_X4_206 rfl dX4_copy_56 ?_
      refine lv_aload X.1 X.2.1 dX4_copy_59 (lv_at hl 0 rfl) ?_
      refine z_get X h 0 35 0 rfl inX0 rfl (by decide) fl_X4_206 rfl dX4_copy_61 ?_
      refine z_ic_eq (tgt := 74) X ⟨by omega, by omega⟩ ⟨by omega, by omega⟩ dX4_copy_64 (by decide) (fun c_64 => ?_) (fun c_64 => ?_)
      · refine lv_aload X.1 X.2.1 dX4_copy_74 (lv_at hl 1 rfl) ?_
        refine lv_iload_n X.1 X.2.1 dX4_copy_76 rfl (lv_at hl 4 rfl) ?_
        refine lv_iload X.1 X.2.1 dX4_copy_77 (lv_at hl 7 rfl) ?_
        refine z_pi (run_V (rest := []) X (st_sing (st_in (st_in (st_in (st_in (st_in (st_nil h))))))) (c_X0_has (y := q 0) (sz := sq 0) (fr := pf) (n9 := pn) (by omega) (by omega) r_pf r_pn) mi_X0_has ml_X4_209 ⟨Nat.le_of_ble_eq_true rfl, Nat.le_of_ble_eq_true rfl⟩ ⟨rfl, rfl⟩ (Seg.mk' _ _) 0 35 rfl rfl rfl rfl hl.1 rfl (Nat.le_of_ble_eq_true rfl) ⟨Nat.zero_le _, Nat.zero_le _⟩ dX4_copy_79) ?_
        refine z_ifb_eq (tgt := 97) X dX4_copy_82 (by decide) (fun c_82 => ?_) (fun c_82 => ?_)
        · refine lv_aload_n X.1 X.2.1 dX4_copy_97 rfl (lv_at hl 2 rfl) ?_
          refine z_ldc (z := (-1000000001)) X ct_X4_48 (by decide) dX4_copy_98 ?_
          refine z_wi (st_sing (st_nil h)) (run_V (rest := []) X (st_sing (st_nil h)) (c_X4_finding (j := 0) hF (by decide) (by decide) (by decide)) mi_X4_finding ml_X4_49 ⟨Nat.le_of_ble_eq_true rfl, Nat.le_of_ble_eq_true rfl⟩ ⟨rfl, rfl⟩ (Seg.mk' _ _) 3 0 rfl rfl rfl rfl hl.1 rfl (Nat.le_of_ble_eq_true rfl) ⟨Nat.zero_le _, Nat.zero_le _⟩ dX4_copy_100) (fun _ => map_app (wO_map _ _ _ _ _ _ _ _ _ _ _) rfl) (fun r fd2 H locs hp h => ?_)
          have h := (st_lin (st_gnis h))
          obtain ⟨rfl, hF2⟩ := hp
          have h : St E _ s H locs (wO E a k b t x q ((iv (ik))) fd2 ++ (wS E k ((hk)) ((nk)) (k1, k2, k3, k4, k5, k6, k7, k8, k9) ++ (wS E b ((iv (hr A))) ((iv (pe A))) (xs, xi, xk, xc, xl, xr, xb, yl, yr) ++ (wS E t ((ht)) ((nt)) (t1, t2, t3, t4, t5, t6, t7, t8, t9) ++ (wX E x ((iv (tn))) ((e1)) ((e2)) ((e3)) ((e4)) tp ++ (wH E (q 0) ((iv (bq 0))) ((iv (sq 0))) c0 ++ (wH E (q 1) ((iv (bq 1))) ((iv (sq 1))) c1 ++ (wH E (q 2) ((iv (bq 2))) ((iv (sq 2))) c2 ++ (wH E (q 3) ((iv (bq 3))) ((iv (sq 3))) c3 ++ []))))))))) := h
          have e9 : q_copy bq sq cq ph 0 pf 0 po pn = ((-1000000001), cq, (bump ph 0)) := by first | (unfold q_copy; (repeat (first | rw [if_pos (by omega)] | rw [if_neg (by omega)])); first | done | rfl) | (exfalso; omega)
          exact ret _ _ _ _ _ (((iv (ik)), fd2), ((hk), (nk), (k1, k2, k3, k4, k5, k6, k7, k8, k9)), ((iv (hr A)), (iv (pe A)), (xs, xi, xk, xc, xl, xr, xb, yl, yr)), ((ht), (nt), (t1, t2, t3, t4, t5, t6, t7, t8, t9)), ((iv (tn)), (e1), (e2), (e3), (e4), tp), ((iv (bq 0)), (iv (sq 0)), c0), ((iv (bq 1)), (iv (sq 1)), c1), ((iv (bq 2)), (iv (sq 2)), c2), ((iv (bq 3)), (iv (sq 3)), c3)) h (by rw [e9]; exact ⟨rfl, ⟨⟨rfl, rfl, hR, hI, hr9⟩, hK, hF2, hT, hB⟩⟩) dX4_copy_103
        · refine lv_aload X.1 X.2.1 dX4_copy_85 (lv_at hl 0 rfl) ?_
          refine lv_iload X.1 X.2.1 dX4_copy_87 (lv_at hl 6 rfl) ?_
          refine lv_iload X.1 X.2.1 dX4_copy_89 (lv_at hl 7 rfl) ?_
          refine z_pi (run_V (rest := []) X (st_sing (st_in (st_in (st_in (st_in (st_in (st_nil h))))))) (c_X0_has (y := q 0) (sz := sq 0) (fr := po) (n9 := pn) (by omega) (by omega) r_po r_pn) mi_X0_has ml_X4_209 ⟨Nat.le_of_ble_eq_true rfl, Nat.le_of_ble_eq_true rfl⟩ ⟨rfl, rfl⟩ (Seg.mk' _ _) 0 35 rfl rfl rfl rfl hl.1 rfl (Nat.le_of_ble_eq_true rfl) ⟨Nat.zero_le _, Nat.zero_le _⟩ dX4_copy_91) ?_
          refine z_ifb_ne (tgt := 104) X dX4_copy_94 (by decide) (fun c_94 => ?_) (fun c_94 => ?_)
          · refine lv_aload X.1 X.2.1 dX4_copy_104 (lv_at hl 1 rfl) ?_
            refine z_get X h 0 35 2 rfl inX0 rfl (by decide) fl_X4_198 rfl dX4_copy_106 ?_
            refine lv_iload_n X.1 X.2.1 dX4_copy_109 rfl (lv_at hl 4 rfl) ?_
            refine lv_aload X.1 X.2.1 dX4_copy_110 (lv_at hl 0 rfl) ?_
            refine z_get X h 0 35 2 rfl inX0 rfl (by decide) fl_X4_198 rfl dX4_copy_112 ?_
            refine lv_iload X.1 X.2.1 dX4_copy_115 (lv_at hl 6 rfl) ?_
            refine lv_iload X.1 X.2.1 dX4_copy_117 (lv_at hl 7 rfl) ?_
            refine s_copyl X (st_in (st_in (st_in (st_in (st_in (st_nil h)))))) rfl 36 1 rfl rfl ml_X4_212 (by omega) (by omega) (by omega) (by omega) (by omega) (by decide) (by decide) hl.1 (Nat.le_of_ble_eq_true rfl) (Nat.le_of_ble_eq_true rfl) dX4_copy_119 (fun H locs h => ?_)
            have h := (st_lin (st_out (st_out (st_out (st_out (st_out (st_eq wH_numbers h)))))))
            have h : St E _ s H locs (wO E a k b t x q ((iv (ik))) fd ++ (wS E k ((hk)) ((nk)) (k1, k2, k3, k4, k5, k6, k7, k8, k9) ++ (wS E b ((iv (hr A))) ((iv (pe A))) (xs, xi, xk, xc, xl, xr, xb, yl, yr) ++ (wS E t ((ht)) ((nt)) (t1, t2, t3, t4, t5, t6, t7, t8, t9) ++ (wX E x ((iv (tn))) ((e1)) ((e2)) ((e3)) ((e4)) tp ++ (wH E (q 0) ((iv (bq 0))) ((iv (sq 0))) (va_cpy c0 c0 (pf : Int).toNat (po : Int).toNat (pn : Int).toNat) ++ (wH E (q 1) ((iv (bq 1))) ((iv (sq 1))) c1 ++ (wH E (q 2) ((iv (bq 2))) ((iv (sq 2))) c2 ++ (wH E (q 3) ((iv (bq 3))) ((iv (sq 3))) c3 ++ []))))))))) := h
            refine lv_iload X.1 X.2.1 dX4_copy_122 (lv_at hl 7 rfl) ?_
            have e9 : q_copy bq sq cq ph 0 pf 0 po pn = (pn, (cpy cq 0 pf 0 po 0 pn), ph) := by first | (unfold q_copy; (repeat (first | rw [if_pos (by omega)] | rw [if_neg (by omega)])); first | done | rfl) | (exfalso; omega)
            exact ret _ _ _ _ _ (((iv (ik)), fd), ((hk), (nk), (k1, k2, k3, k4, k5, k6, k7, k8, k9)), ((iv (hr A)), (iv (pe A)), (xs, xi, xk, xc, xl, xr, xb, yl, yr)), ((ht), (nt), (t1, t2, t3, t4, t5, t6, t7, t8, t9)), ((iv (tn)), (e1), (e2), (e3), (e4), tp), ((iv (bq 0)), (iv (sq 0)), (va_cpy c0 c0 (pf : Int).toNat (po : Int).toNat (pn : Int).toNat)), ((iv (bq 1)), (iv (sq 1)), c1), ((iv (bq 2)), (iv (sq 2)), c2), ((iv (bq 3)), (iv (sq 3)), c3)) h (by rw [e9]; exact ⟨rfl, ⟨⟨rfl, rfl, hR, hI, hr9⟩, hK, hF, hT, ⟨hB3, RepH_cp hH0 hH0 (by omega) (by omega) (by omega) (by omega), RepH_cn hH1 (by decide), RepH_cn hH2 (by decide), RepH_cn hH3 (by decide)⟩⟩⟩) dX4_copy_124
          · refine lv_aload_n X.1 X.2.1 dX4_copy_97 rfl (lv_at hl 2 rfl) ?_
            refine z_ldc (z := (-1000000001)) X ct_X4_48 (by decide) dX4_copy_98 ?_
            refine z_wi (st_sing (st_nil h)) (run_V (rest := []) X (st_sing (st_nil h)) (c_X4_finding (j := 0) hF (by decide) (by decide) (by decide)) mi_X4_finding ml_X4_49 ⟨Nat.le_of_ble_eq_true rfl, Nat.le_of_ble_eq_true rfl⟩ ⟨rfl, rfl⟩ (Seg.mk' _ _) 3 0 rfl rfl rfl rfl hl.1 rfl (Nat.le_of_ble_eq_true rfl) ⟨Nat.zero_le _, Nat.zero_le _⟩ dX4_copy_100) (fun _ => map_app (wO_map _ _ _ _ _ _ _ _ _ _ _) rfl) (fun r fd3 H locs hp h => ?_)
            have h := (st_lin (st_gnis h))
            obtain ⟨rfl, hF3⟩ := hp
            have h : St E _ s H locs (wO E a k b t x q ((iv (ik))) fd3 ++ (wS E k ((hk)) ((nk)) (k1, k2, k3, k4, k5, k6, k7, k8, k9) ++ (wS E b ((iv (hr A))) ((iv (pe A))) (xs, xi, xk, xc, xl, xr, xb, yl, yr) ++ (wS E t ((ht)) ((nt)) (t1, t2, t3, t4, t5, t6, t7, t8, t9) ++ (wX E x ((iv (tn))) ((e1)) ((e2)) ((e3)) ((e4)) tp ++ (wH E (q 0) ((iv (bq 0))) ((iv (sq 0))) c0 ++ (wH E (q 1) ((iv (bq 1))) ((iv (sq 1))) c1 ++ (wH E (q 2) ((iv (bq 2))) ((iv (sq 2))) c2 ++ (wH E (q 3) ((iv (bq 3))) ((iv (sq 3))) c3 ++ []))))))))) := h
            have e9 : q_copy bq sq cq ph 0 pf 0 po pn = ((-1000000001), cq, (bump ph 0)) := by first | (unfold q_copy; (repeat (first | rw [if_pos (by omega)] | rw [if_neg (by omega)])); first | done | rfl) | (exfalso; omega)
            exact ret _ _ _ _ _ (((iv (ik)), fd3), ((hk), (nk), (k1, k2, k3, k4, k5, k6, k7, k8, k9)), ((iv (hr A)), (iv (pe A)), (xs, xi, xk, xc, xl, xr, xb, yl, yr)), ((ht), (nt), (t1, t2, t3, t4, t5, t6, t7, t8, t9)), ((iv (tn)), (e1), (e2), (e3), (e4), tp), ((iv (bq 0)), (iv (sq 0)), c0), ((iv (bq 1)), (iv (sq 1)), c1), ((iv (bq 2)), (iv (sq 2)), c2), ((iv (bq 3)), (iv (sq 3)), c3)) h (by rw [e9]; exact ⟨rfl, ⟨⟨rfl, rfl, hR, hI, hr9⟩, hK, hF3, hT, hB⟩⟩) dX4_copy_103
      · refine lv_aload_n X.1 X.2.1 dX4_copy_67 rfl (lv_at hl 2 rfl) ?_
        refine z_ldc (z := (-1000000003)) X ct_X4_127 (by decide) dX4_copy_68 ?_
        refine z_wi (st_sing (st_nil h)) (run_V (rest := []) X (st_sing (st_nil h)) (c_X4_finding (j := 2) hF (by decide) (by decide) (by decide)) mi_X4_finding ml_X4_49 ⟨Nat.le_of_ble_eq_true rfl, Nat.le_of_ble_eq_true rfl⟩ ⟨rfl, rfl⟩ (Seg.mk' _ _) 3 0 rfl rfl rfl rfl hl.1 rfl (Nat.le_of_ble_eq_true rfl) ⟨Nat.zero_le _, Nat.zero_le _⟩ dX4_copy_70) (fun _ => map_app (wO_map _ _ _ _ _ _ _ _ _ _ _) rfl) (fun r fd4 H locs hp h => ?_)
        have h := (st_lin (st_gnis h))
        obtain ⟨rfl, hF4⟩ := hp
        have h : St E _ s H locs (wO E a k b t x q ((iv (ik))) fd4 ++ (wS E k ((hk)) ((nk)) (k1, k2, k3, k4, k5, k6, k7, k8, k9) ++ (wS E b ((iv (hr A))) ((iv (pe A))) (xs, xi, xk, xc, xl, xr, xb, yl, yr) ++ (wS E t ((ht)) ((nt)) (t1, t2, t3, t4, t5, t6, t7, t8, t9) ++ (wX E x ((iv (tn))) ((e1)) ((e2)) ((e3)) ((e4)) tp ++ (wH E (q 0) ((iv (bq 0))) ((iv (sq 0))) c0 ++ (wH E (q 1) ((iv (bq 1))) ((iv (sq 1))) c1 ++ (wH E (q 2) ((iv (bq 2))) ((iv (sq 2))) c2 ++ (wH E (q 3) ((iv (bq 3))) ((iv (sq 3))) c3 ++ []))))))))) := h
        have e9 : q_copy bq sq cq ph 0 pf 0 po pn = ((-1000000003), cq, (bump ph 2)) := by first | (unfold q_copy; (repeat (first | rw [if_pos (by omega)] | rw [if_neg (by omega)])); first | done | rfl) | (exfalso; omega)
        exact ret _ _ _ _ _ (((iv (ik)), fd4), ((hk), (nk), (k1, k2, k3, k4, k5, k6, k7, k8, k9)), ((iv (hr A)), (iv (pe A)), (xs, xi, xk, xc, xl, xr, xb, yl, yr)), ((ht), (nt), (t1, t2, t3, t4, t5, t6, t7, t8, t9)), ((iv (tn)), (e1), (e2), (e3), (e4), tp), ((iv (bq 0)), (iv (sq 0)), c0), ((iv (bq 1)), (iv (sq 1)), c1), ((iv (bq 2)), (iv (sq 2)), c2), ((iv (bq 3)), (iv (sq 3)), c3)) h (by rw [e9]; exact ⟨rfl, ⟨⟨rfl, rfl, hR, hI, hr9⟩, hK, hF4, hT, hB⟩⟩) dX4_copy_73
    · refine lv_aload_n X.1 X.2.1 dX4_copy_47 rfl (lv_at hl 2 rfl) ?_
      refine z_ldc (z := (-1000000006)) X ct_X4_197 (by decide) dX4_copy_48 ?_
      refine z_wi (st_sing (st_nil h)) (run_V (rest := []) X (st_sing (st_nil h)) (c_X4_finding (j := 5) hF (by decide) (by decide) (by decide)) mi_X4_finding ml_X4_49 ⟨Nat.le_of_ble_eq_true rfl, Nat.le_of_ble_eq_true rfl⟩ ⟨rfl, rfl⟩ (Seg.mk' _ _) 3 0 rfl rfl rfl rfl hl.1 rfl (Nat.le_of_ble_eq_true rfl) ⟨Nat.zero_le _, Nat.zero_le _⟩ dX4_copy_50) (fun _ => map_app (wO_map _ _ _ _ _ _ _ _ _ _ _) rfl) (fun r fd5 H locs hp h => ?_)
      have h := (st_lin (st_gnis h))
      obtain ⟨rfl, hF5⟩ := hp
      have h : St E _ s H locs (wO E a k b t x q ((iv (ik))) fd5 ++ (wS E k ((hk)) ((nk)) (k1, k2, k3, k4, k5, k6, k7, k8, k9) ++ (wS E b ((iv (hr A))) ((iv (pe A))) (xs, xi, xk, xc, xl, xr, xb, yl, yr) ++ (wS E t ((ht)) ((nt)) (t1, t2, t3, t4, t5, t6, t7, t8, t9) ++ (wX E x ((iv (tn))) ((e1)) ((e2)) ((e3)) ((e4)) tp ++ (wH E (q 0) ((iv (bq 0))) ((iv (sq 0))) c0 ++ (wH E (q 1) ((iv (bq 1))) ((iv (sq 1))) c1 ++ (wH E (q 2) ((iv (bq 2))) ((iv (sq 2))) c2 ++ (wH E (q 3) ((iv (bq 3))) ((iv (sq 3))) c3 ++ []))))))))) := h
      have e9 : q_copy bq sq cq ph 0 pf 0 po pn = ((-1000000006), cq, (bump ph 5)) := by first | (unfold q_copy; (repeat (first | rw [if_pos (by omega)] | rw [if_neg (by omega)])); first | done | rfl) | (exfalso; omega)
      exact ret _ _ _ _ _ (((iv (ik)), fd5), ((hk), (nk), (k1, k2, k3, k4, k5, k6, k7, k8, k9)), ((iv (hr A)), (iv (pe A)), (xs, xi, xk, xc, xl, xr, xb, yl, yr)), ((ht), (nt), (t1, t2, t3, t4, t5, t6, t7, t8, t9)), ((iv (tn)), (e1), (e2), (e3), (e4), tp), ((iv (bq 0)), (iv (sq 0)), c0), ((iv (bq 1)), (iv (sq 1)), c1), ((iv (bq 2)), (iv (sq 2)), c2), ((iv (bq 3)), (iv (sq 3)), c3)) h (by rw [e9]; exact ⟨rfl, ⟨⟨rfl, rfl, hR, hI, hr9⟩, hK, hF5, hT, hB⟩⟩) dX4_copy_53

set_option maxHeartbeats 4000000 in
theorem c_X4_copy_0_1 (hS : RepC (((iv (ik)), fd), ((hk), (nk), (k1, k2, k3, k4, k5, k6, k7, k8, k9)), ((iv (hr A)), (iv (pe A)), (xs, xi, xk, xc, xl, xr, xb, yl, yr)), ((ht), (nt), (t1, t2, t3, t4, t5, t6, t7, t8, t9)), ((iv (tn)), (e1), (e2), (e3), (e4), tp), ((iv (bq 0)), (iv (sq 0)), c0), ((iv (bq 1)), (iv (sq 1)), c1), ((iv (bq 2)), (iv (sq 2)), c2), ((iv (bq 3)), (iv (sq 3)), c3)) (A, K, ik, ph, tq, tn, bq, sq, cq)) {pf : Int} (r_pf : r32 pf) {po : Int} (r_po : r32 po) {pn : Int} (r_pn : r32 pn) : MI (S := Tc) E l yX4_copy cX4_copy 8 (some FieldType.int) (rmk 2 44) (wO E a k b t x q ((iv (ik))) fd ++ (wS E k ((hk)) ((nk)) (k1, k2, k3, k4, k5, k6, k7, k8, k9) ++ (wS E b ((iv (hr A))) ((iv (pe A))) (xs, xi, xk, xc, xl, xr, xb, yl, yr) ++ (wS E t ((ht)) ((nt)) (t1, t2, t3, t4, t5, t6, t7, t8, t9) ++ (wX E x ((iv (tn))) ((e1)) ((e2)) ((e3)) ((e4)) tp ++ (wH E (q 0) ((iv (bq 0))) ((iv (sq 0))) c0 ++ (wH E (q 1) ((iv (bq 1))) ((iv (sq 1))) c1 ++ (wH E (q 2) ((iv (bq 2))) ((iv (sq 2))) c2 ++ (wH E (q 3) ((iv (bq 3))) ((iv (sq 3))) c3 ++ []))))))))) [.ref (a 0), .int (iv (0)), .int (iv (pf)), .int (iv (1)), .int (iv (po)), .int (iv (pn))] (fun r u => r = iv ((q_copy bq sq cq ph 0 pf 1 po pn).1) ∧ RepC u (A, K, ik, (q_copy bq sq cq ph 0 pf 1 po pn).2.2, tq, tn, bq, sq, (q_copy bq sq cq ph 0 pf 1 po pn).2.1)) (fun u => wT E a k b t x q u) := by
  refine goI (S := Tc) (post := fun r u => r = iv ((q_copy bq sq cq ph 0 pf 1 po pn).1) ∧ RepC u (A, K, ik, (q_copy bq sq cq ph 0 pf 1 po pn).2.2, tq, tn, bq, sq, (q_copy bq sq cq ph 0 pf 1 po pn).2.1)) (ws' := fun u => wT E a k b t x q u) (by decide) (Nat.le_of_ble_eq_true rfl) ?_
  intro pp e s m below meth c ls args Q ret X h hl
  have hl : lv_has ls 8 [(0, .ref (a 0)), (1, .int (iv (0))), (2, .int (iv (pf))), (3, .int (iv (1))), (4, .int (iv (po))), (5, .int (iv (pn)))] := hl
  have hR : RS (xs, xi, xk, xc, xl, xr, xb, yl, yr) A := hS.1.2.2.1
  have hI : IA A := hS.1.2.2.2.1
  have hr9 : hr A ≤ 99999 := hS.1.2.2.2.2
  have hF : RF 7 fd ph := hS.2.2.1
  have hK := hS.2.1
  have hT := hS.2.2.2.1
  have hB := hS.2.2.2.2
  have hh : hr A < 1000000 := by omega
  have n8 := hI.n8
  have n0 := hI.n0
  have h0 := hI.h0
  have ht0 : 0 ≤ tn := hS.2.2.2.1.2.1
  have ht1 : tn ≤ 120 := hS.2.2.2.1.2.2.1
  have hk01 : ik = 0 ∨ ik = 1 := hS.2.1.2.1
  have hB3 : okB bq sq := hS.2.2.2.2.1
  have hH0 : RepH (iv (bq 0), iv (sq 0), c0) bq sq cq 0 := hS.2.2.2.2.2.1
  have hH1 : RepH (iv (bq 1), iv (sq 1), c1) bq sq cq 1 := hS.2.2.2.2.2.2.1
  have hH2 : RepH (iv (bq 2), iv (sq 2), c2) bq sq cq 2 := hS.2.2.2.2.2.2.2.1
  have hH3 : RepH (iv (bq 3), iv (sq 3), c3) bq sq cq 3 := hS.2.2.2.2.2.2.2.2
  have ob0 := hB3.1 0 (by omega) (by omega)
  have zb0 := hB3.2 0 (by omega) (by omega)
  have ob1 := hB3.1 1 (by omega) (by omega)
  have zb1 := hB3.2 1 (by omega) (by omega)
  have q2 := r_pf.1
  have q22 := r_pf.2
  have q4 := r_po.1
  have q42 := r_po.2
  have q5 := r_pn.1
  have q52 := r_pn.2
  refine lv_aload_n X.1 X.2.1 dX4_copy_0 rfl (lv_at hl 0 rfl) ?_
  refine lv_iload_n X.1 X.2.1 dX4_copy_1 rfl (lv_at hl 1 rfl) ?_
  refine z_pq (run_V (rest := []) X h (c_sheetAt0) mi_X4_sheetAt ml_X4_184 ⟨Nat.le_of_ble_eq_true rfl, Nat.le_of_ble_eq_true rfl⟩ ⟨rfl, rfl⟩ (Seg.rfl' _) 3 0 rfl rfl rfl rfl hl.1 rfl (Nat.le_of_ble_eq_true rfl) ⟨Nat.zero_le _, Nat.zero_le _⟩ dX4_copy_2) ?_
  refine W.eq (g2 := F0 m 5 ls [.ref (q 0 0)]) rfl ?_
  refine lv_astore (lv' := [(6, .ref (q 0 0)), (0, .ref (a 0)), (1, .int (iv (0))), (2, .int (iv (pf))), (3, .int (iv (1))), (4, .int (iv (po))), (5, .int (iv (pn)))]) X.1 X.2.1 dX4_copy_5 hl (by decide) rfl (fun ls hl => ?_)
  refine lv_aload_n X.1 X.2.1 dX4_copy_7 rfl (lv_at hl 1 rfl) ?_
  refine lv_iload_n X.1 X.2.1 dX4_copy_8 rfl (lv_at hl 4 rfl) ?_
  refine z_pq (run_V (rest := []) X h (c_sheetAt1) mi_X4_sheetAt ml_X4_184 ⟨Nat.le_of_ble_eq_true rfl, Nat.le_of_ble_eq_true rfl⟩ ⟨rfl, rfl⟩ (Seg.rfl' _) 3 0 rfl rfl rfl rfl hl.1 rfl (Nat.le_of_ble_eq_true rfl) ⟨Nat.zero_le _, Nat.zero_le _⟩ dX4_copy_9) ?_
  refine W.eq (g2 := F0 m 12 ls [.ref (q 1 0)]) rfl ?_
  refine lv_astore (lv' := [(7, .ref (q 1 0)), (6, .ref (q 0 0)), (0, .ref (a 0)), (1, .int (iv (0))), (2, .int (iv (pf))), (3, .int (iv (1))), (4, .int (iv (po))), (5, .int (iv (pn)))]) X.1 X.2.1 dX4_copy_12 hl (by decide) rfl (fun ls hl => ?_)
  refine lv_aload X.1 X.2.1 dX4_copy_14 (lv_at hl 1 rfl) ?_
  refine lv_ifnull X.1 X.2.1 dX4_copy_16 ?_
  refine lv_aload X.1 X.2.1 dX4_copy_19 (lv_at hl 0 rfl) ?_
  refine lv_ifnonnull (tgt := 31) X.1 X.2.1 dX4_copy_21 (by decide) ?_
  refine lv_aload X.1 X.2.1 dX4_copy_31 (lv_at hl 1 rfl) ?_
  refine z_pi (run_V (rest := []) X (st_sing (st_in (st_in (st_in (st_in (st_in (st_nil h))))))) (c_X0_isMissing (y := q 0) (bt := bq 0) ⟨by omega, by omega⟩) mi_X0_isMissing ml_X4_193 ⟨Nat.le_of_ble_eq_true rfl, Nat.le_of_ble_eq_true rfl⟩ ⟨rfl, rfl⟩ (Seg.mk' _ _) 0 35 rfl rfl rfl rfl hl.1 rfl (Nat.le_of_ble_eq_true rfl) ⟨Nat.zero_le _, Nat.zero_le _⟩ dX4_copy_33) ?_
  refine z_ifb_ne (tgt := 47) X dX4_copy_36 (by decide) (fun c_36 => ?_) (fun c_36 => ?_)
  · refine lv_aload_n X.1 X.2.1 dX4_copy_47 rfl (lv_at hl 2 rfl) ?_
    refine z_ldc (z := (-1000000006)) X ct_X4_197 (by decide) dX4_copy_48 ?_
    refine z_wi (st_sing (st_nil h)) (run_V (rest := []) X (st_sing (st_nil h)) (c_X4_finding (j := 5) hF (by decide) (by decide) (by decide)) mi_X4_finding ml_X4_49 ⟨Nat.le_of_ble_eq_true rfl, Nat.le_of_ble_eq_true rfl⟩ ⟨rfl, rfl⟩ (Seg.mk' _ _) 3 0 rfl rfl rfl rfl hl.1 rfl (Nat.le_of_ble_eq_true rfl) ⟨Nat.zero_le _, Nat.zero_le _⟩ dX4_copy_50) (fun _ => map_app (wO_map _ _ _ _ _ _ _ _ _ _ _) rfl) (fun r fd1 H locs hp h => ?_)
    have h := (st_lin (st_gnis h))
    obtain ⟨rfl, hF1⟩ := hp
    have h : St E _ s H locs (wO E a k b t x q ((iv (ik))) fd1 ++ (wS E k ((hk)) ((nk)) (k1, k2, k3, k4, k5, k6, k7, k8, k9) ++ (wS E b ((iv (hr A))) ((iv (pe A))) (xs, xi, xk, xc, xl, xr, xb, yl, yr) ++ (wS E t ((ht)) ((nt)) (t1, t2, t3, t4, t5, t6, t7, t8, t9) ++ (wX E x ((iv (tn))) ((e1)) ((e2)) ((e3)) ((e4)) tp ++ (wH E (q 0) ((iv (bq 0))) ((iv (sq 0))) c0 ++ (wH E (q 1) ((iv (bq 1))) ((iv (sq 1))) c1 ++ (wH E (q 2) ((iv (bq 2))) ((iv (sq 2))) c2 ++ (wH E (q 3) ((iv (bq 3))) ((iv (sq 3))) c3 ++ []))))))))) := h
    have e9 : q_copy bq sq cq ph 0 pf 1 po pn = ((-1000000006), cq, (bump ph 5)) := by first | (unfold q_copy; (repeat (first | rw [if_pos (by omega)] | rw [if_neg (by omega)])); first | done | rfl) | (exfalso; omega)
    exact ret _ _ _ _ _ (((iv (ik)), fd1), ((hk), (nk), (k1, k2, k3, k4, k5, k6, k7, k8, k9)), ((iv (hr A)), (iv (pe A)), (xs, xi, xk, xc, xl, xr, xb, yl, yr)), ((ht), (nt), (t1, t2, t3, t4, t5, t6, t7, t8, t9)), ((iv (tn)), (e1), (e2), (e3), (e4), tp), ((iv (bq 0)), (iv (sq 0)), c0), ((iv (bq 1)), (iv (sq 1)), c1), ((iv (bq 2)), (iv (sq 2)), c2), ((iv (bq 3)), (iv (sq 3)), c3)) h (by rw [e9]; exact ⟨rfl, ⟨⟨rfl, rfl, hR, hI, hr9⟩, hK, hF1, hT, hB⟩⟩) dX4_copy_53
  · refine lv_aload X.1 X.2.1 dX4_copy_39 (lv_at hl 0 rfl) ?_
    refine z_pi (run_V (rest := []) X (st_sing (st_in (st_in (st_in (st_in (st_in (st_in (st_nil h)))))))) (c_X0_isMissing (y := q 1) (bt := bq 1) ⟨by omega, by omega⟩) mi_X0_isMissing ml_X4_193 ⟨Nat.le_of_ble_eq_true rfl, Nat.le_of_ble_eq_true rfl⟩ ⟨rfl, rfl⟩ (Seg.mk' _ _) 0 37 rfl rfl rfl rfl hl.1 rfl (Nat.le_of_ble_eq_true rfl) ⟨Nat.zero_le _, Nat.zero_le _⟩ dX4_copy_41) ?_
    refine z_ifb_eq (tgt := 54) X dX4_copy_44 (by decide) (fun c_44 => ?_) (fun c_44 => ?_)
    · refine lv_aload X.1 X.2.1 dX4_copy_54 (lv_at hl 1 rfl) ?_
      refine z_get X h 0 35 0 rfl inX0 rfl (by decide) fl_X4_206 rfl dX4_copy_56 ?_
      refine lv_aload X.1 X.2.1 dX4_copy_59 (lv_at hl 0 rfl) ?_
      refine z_get X h 0 37 0 rfl inX0 rfl (by decide) fl_X4_206 rfl dX4_copy_61 ?_
      refine z_ic_eq (tgt := 74) X ⟨by omega, by omega⟩ ⟨by omega, by omega⟩ dX4_copy_64 (by decide) (fun c_64 => ?_) (fun c_64 => ?_)
      · refine lv_aload X.1 X.2.1 dX4_copy_74 (lv_at hl 1 rfl) ?_
        refine lv_iload_n X.1 X.2.1 dX4_copy_76 rfl (lv_at hl 4 rfl) ?_
        refine lv_iload X.1 X.2.1 dX4_copy_77 (lv_at hl 7 rfl) ?_
        refine z_pi (run_V (rest := []) X (st_sing (st_in (st_in (st_in (st_in (st_in (st_nil h))))))) (c_X0_has (y := q 0) (sz := sq 0) (fr := pf) (n9 := pn) (by omega) (by omega) r_pf r_pn) mi_X0_has ml_X4_209 ⟨Nat.le_of_ble_eq_true rfl, Nat.le_of_ble_eq_true rfl⟩ ⟨rfl, rfl⟩ (Seg.mk' _ _) 0 35 rfl rfl rfl rfl hl.1 rfl (Nat.le_of_ble_eq_true rfl) ⟨Nat.zero_le _, Nat.zero_le _⟩ dX4_copy_79) ?_
        refine z_ifb_eq (tgt := 97) X dX4_copy_82 (by decide) (fun c_82 => ?_) (fun c_82 => ?_)
        · refine lv_aload_n X.1 X.2.1 dX4_copy_97 rfl (lv_at hl 2 rfl) ?_
          refine z_ldc (z := (-1000000001)) X ct_X4_48 (by decide) dX4_copy_98 ?_
          refine z_wi (st_sing (st_nil h)) (run_V (rest := []) X (st_sing (st_nil h)) (c_X4_finding (j := 0) hF (by decide) (by decide) (by decide)) mi_X4_finding ml_X4_49 ⟨Nat.le_of_ble_eq_true rfl, Nat.le_of_ble_eq_true rfl⟩ ⟨rfl, rfl⟩ (Seg.mk' _ _) 3 0 rfl rfl rfl rfl hl.1 rfl (Nat.le_of_ble_eq_true rfl) ⟨Nat.zero_le _, Nat.zero_le _⟩ dX4_copy_100) (fun _ => map_app (wO_map _ _ _ _ _ _ _ _ _ _ _) rfl) (fun r fd2 H locs hp h => ?_)
          have h := (st_lin (st_gnis h))
          obtain ⟨rfl, hF2⟩ := hp
          have h : St E _ s H locs (wO E a k b t x q ((iv (ik))) fd2 ++ (wS E k ((hk)) ((nk)) (k1, k2, k3, k4, k5, k6, k7, k8, k9) ++ (wS E b ((iv (hr A))) ((iv (pe A))) (xs, xi, xk, xc, xl, xr, xb, yl, yr) ++ (wS E t ((ht)) ((nt)) (t1, t2, t3, t4, t5, t6, t7, t8, t9) ++ (wX E x ((iv (tn))) ((e1)) ((e2)) ((e3)) ((e4)) tp ++ (wH E (q 0) ((iv (bq 0))) ((iv (sq 0))) c0 ++ (wH E (q 1) ((iv (bq 1))) ((iv (sq 1))) c1 ++ (wH E (q 2) ((iv (bq 2))) ((iv (sq 2))) c2 ++ (wH E (q 3) ((iv (bq 3))) ((iv (sq 3))) c3 ++ []))))))))) := h
          have e9 : q_copy bq sq cq ph 0 pf 1 po pn = ((-1000000001), cq, (bump ph 0)) := by first | (unfold q_copy; (repeat (first | rw [if_pos (by omega)] | rw [if_neg (by omega)])); first | done | rfl) | (exfalso; omega)
          exact ret _ _ _ _ _ (((iv (ik)), fd2), ((hk), (nk), (k1, k2, k3, k4, k5, k6, k7, k8, k9)), ((iv (hr A)), (iv (pe A)), (xs, xi, xk, xc, xl, xr, xb, yl, yr)), ((ht), (nt), (t1, t2, t3, t4, t5, t6, t7, t8, t9)), ((iv (tn)), (e1), (e2), (e3), (e4), tp), ((iv (bq 0)), (iv (sq 0)), c0), ((iv (bq 1)), (iv (sq 1)), c1), ((iv (bq 2)), (iv (sq 2)), c2), ((iv (bq 3)), (iv (sq 3)), c3)) h (by rw [e9]; exact ⟨rfl, ⟨⟨rfl, rfl, hR, hI, hr9⟩, hK, hF2, hT, hB⟩⟩) dX4_copy_103
        · refine lv_aload X.1 X.2.1 dX4_copy_85 (lv_at hl 0 rfl) ?_
          refine lv_iload X.1 X.2.1 dX4_copy_87 (lv_at hl 6 rfl) ?_
          refine lv_iload X.1 X.2.1 dX4_copy_89 (lv_at hl 7 rfl) ?_
          refine z_pi (run_V (rest := []) X (st_sing (st_in (st_in (st_in (st_in (st_in (st_in (st_nil h)))))))) (c_X0_has (y := q 1) (sz := sq 1) (fr := po) (n9 := pn) (by omega) (by omega) r_po r_pn) mi_X0_has ml_X4_209 ⟨Nat.le_of_ble_eq_true rfl, Nat.le_of_ble_eq_true rfl⟩ ⟨rfl, rfl⟩ (Seg.mk' _ _) 0 37 rfl rfl rfl rfl hl.1 rfl (Nat.le_of_ble_eq_true rfl) ⟨Nat.zero_le _, Nat.zero_le _⟩ dX4_copy_91) ?_
          refine z_ifb_ne (tgt := 104) X dX4_copy_94 (by decide) (fun c_94 => ?_) (fun c_94 => ?_)
          · refine lv_aload X.1 X.2.1 dX4_copy_104 (lv_at hl 1 rfl) ?_
            refine z_get X h 0 35 2 rfl inX0 rfl (by decide) fl_X4_198 rfl dX4_copy_106 ?_
            refine lv_iload_n X.1 X.2.1 dX4_copy_109 rfl (lv_at hl 4 rfl) ?_
            refine lv_aload X.1 X.2.1 dX4_copy_110 (lv_at hl 0 rfl) ?_
            refine z_get X h 0 37 2 rfl inX0 rfl (by decide) fl_X4_198 rfl dX4_copy_112 ?_
            refine lv_iload X.1 X.2.1 dX4_copy_115 (lv_at hl 6 rfl) ?_
            refine lv_iload X.1 X.2.1 dX4_copy_117 (lv_at hl 7 rfl) ?_
            refine s_copyl X (st_in (st_in (st_in (st_in (st_in (st_in (st_nil h))))))) rfl 36 1 rfl rfl ml_X4_212 (by omega) (by omega) (by omega) (by omega) (by omega) (by decide) (by decide) hl.1 (Nat.le_of_ble_eq_true rfl) (Nat.le_of_ble_eq_true rfl) dX4_copy_119 (fun H locs h => ?_)
            have h := (st_lin (st_out (st_out (st_out (st_out (st_out (st_out (st_eq wH_numbers h))))))))
            have h : St E _ s H locs (wO E a k b t x q ((iv (ik))) fd ++ (wS E k ((hk)) ((nk)) (k1, k2, k3, k4, k5, k6, k7, k8, k9) ++ (wS E b ((iv (hr A))) ((iv (pe A))) (xs, xi, xk, xc, xl, xr, xb, yl, yr) ++ (wS E t ((ht)) ((nt)) (t1, t2, t3, t4, t5, t6, t7, t8, t9) ++ (wX E x ((iv (tn))) ((e1)) ((e2)) ((e3)) ((e4)) tp ++ (wH E (q 0) ((iv (bq 0))) ((iv (sq 0))) c0 ++ (wH E (q 1) ((iv (bq 1))) ((iv (sq 1))) (va_cpy c0 c1 (pf : Int).toNat (po : Int).toNat (pn : Int).toNat) ++ (wH E (q 2) ((iv (bq 2))) ((iv (sq 2))) c2 ++ (wH E (q 3) ((iv (bq 3))) ((iv (sq 3))) c3 ++ []))))))))) := h
            refine lv_iload X.1 X.2.1 dX4_copy_122 (lv_at hl 7 rfl) ?_
            have e9 : q_copy bq sq cq ph 0 pf 1 po pn = (pn, (cpy cq 0 pf 1 po 0 pn), ph) := by first | (unfold q_copy; (repeat (first | rw [if_pos (by omega)] | rw [if_neg (by omega)])); first | done | rfl) | (exfalso; omega)
            exact ret _ _ _ _ _ (((iv (ik)), fd), ((hk), (nk), (k1, k2, k3, k4, k5, k6, k7, k8, k9)), ((iv (hr A)), (iv (pe A)), (xs, xi, xk, xc, xl, xr, xb, yl, yr)), ((ht), (nt), (t1, t2, t3, t4, t5, t6, t7, t8, t9)), ((iv (tn)), (e1), (e2), (e3), (e4), tp), ((iv (bq 0)), (iv (sq 0)), c0), ((iv (bq 1)), (iv (sq 1)), (va_cpy c0 c1 (pf : Int).toNat (po : Int).toNat (pn : Int).toNat)), ((iv (bq 2)), (iv (sq 2)), c2), ((iv (bq 3)), (iv (sq 3)), c3)) h (by rw [e9]; exact ⟨rfl, ⟨⟨rfl, rfl, hR, hI, hr9⟩, hK, hF, hT, ⟨hB3, RepH_cn hH0 (by decide), RepH_cp hH0 hH1 (by omega) (by omega) (by omega) (by omega), RepH_cn hH2 (by decide), RepH_cn hH3 (by decide)⟩⟩⟩) dX4_copy_124
          · refine lv_aload_n X.1 X.2.1 dX4_copy_97 rfl (lv_at hl 2 rfl) ?_
            refine z_ldc (z := (-1000000001)) X ct_X4_48 (by decide) dX4_copy_98 ?_
            refine z_wi (st_sing (st_nil h)) (run_V (rest := []) X (st_sing (st_nil h)) (c_X4_finding (j := 0) hF (by decide) (by decide) (by decide)) mi_X4_finding ml_X4_49 ⟨Nat.le_of_ble_eq_true rfl, Nat.le_of_ble_eq_true rfl⟩ ⟨rfl, rfl⟩ (Seg.mk' _ _) 3 0 rfl rfl rfl rfl hl.1 rfl (Nat.le_of_ble_eq_true rfl) ⟨Nat.zero_le _, Nat.zero_le _⟩ dX4_copy_100) (fun _ => map_app (wO_map _ _ _ _ _ _ _ _ _ _ _) rfl) (fun r fd3 H locs hp h => ?_)
            have h := (st_lin (st_gnis h))
            obtain ⟨rfl, hF3⟩ := hp
            have h : St E _ s H locs (wO E a k b t x q ((iv (ik))) fd3 ++ (wS E k ((hk)) ((nk)) (k1, k2, k3, k4, k5, k6, k7, k8, k9) ++ (wS E b ((iv (hr A))) ((iv (pe A))) (xs, xi, xk, xc, xl, xr, xb, yl, yr) ++ (wS E t ((ht)) ((nt)) (t1, t2, t3, t4, t5, t6, t7, t8, t9) ++ (wX E x ((iv (tn))) ((e1)) ((e2)) ((e3)) ((e4)) tp ++ (wH E (q 0) ((iv (bq 0))) ((iv (sq 0))) c0 ++ (wH E (q 1) ((iv (bq 1))) ((iv (sq 1))) c1 ++ (wH E (q 2) ((iv (bq 2))) ((iv (sq 2))) c2 ++ (wH E (q 3) ((iv (bq 3))) ((iv (sq 3))) c3 ++ []))))))))) := h
            have e9 : q_copy bq sq cq ph 0 pf 1 po pn = ((-1000000001), cq, (bump ph 0)) := by first | (unfold q_copy; (repeat (first | rw [if_pos (by omega)] | rw [if_neg (by omega)])); first | done | rfl) | (exfalso; omega)
            exact ret _ _ _ _ _ (((iv (ik)), fd3), ((hk), (nk), (k1, k2, k3, k4, k5, k6, k7, k8, k9)), ((iv (hr A)), (iv (pe A)), (xs, xi, xk, xc, xl, xr, xb, yl, yr)), ((ht), (nt), (t1, t2, t3, t4, t5, t6, t7, t8, t9)), ((iv (tn)), (e1), (e2), (e3), (e4), tp), ((iv (bq 0)), (iv (sq 0)), c0), ((iv (bq 1)), (iv (sq 1)), c1), ((iv (bq 2)), (iv (sq 2)), c2), ((iv (bq 3)), (iv (sq 3)), c3)) h (by rw [e9]; exact ⟨rfl, ⟨⟨rfl, rfl, hR, hI, hr9⟩, hK, hF3, hT, hB⟩⟩) dX4_copy_103
      · refine lv_aload_n X.1 X.2.1 dX4_copy_67 rfl (lv_at hl 2 rfl) ?_
        refine z_ldc (z := (-1000000003)) X ct_X4_127 (by decide) dX4_copy_68 ?_
        refine z_wi (st_sing (st_nil h)) (run_V (rest := []) X (st_sing (st_nil h)) (c_X4_finding (j := 2) hF (by decide) (by decide) (by decide)) mi_X4_finding ml_X4_49 ⟨Nat.le_of_ble_eq_true rfl, Nat.le_of_ble_eq_true rfl⟩ ⟨rfl, rfl⟩ (Seg.mk' _ _) 3 0 rfl rfl rfl rfl hl.1 rfl (Nat.le_of_ble_eq_true rfl) ⟨Nat.zero_le _, Nat.zero_le _⟩ dX4_copy_70) (fun _ => map_app (wO_map _ _ _ _ _ _ _ _ _ _ _) rfl) (fun r fd4 H locs hp h => ?_)
        have h := (st_lin (st_gnis h))
        obtain ⟨rfl, hF4⟩ := hp
        have h : St E _ s H locs (wO E a k b t x q ((iv (ik))) fd4 ++ (wS E k ((hk)) ((nk)) (k1, k2, k3, k4, k5, k6, k7, k8, k9) ++ (wS E b ((iv (hr A))) ((iv (pe A))) (xs, xi, xk, xc, xl, xr, xb, yl, yr) ++ (wS E t ((ht)) ((nt)) (t1, t2, t3, t4, t5, t6, t7, t8, t9) ++ (wX E x ((iv (tn))) ((e1)) ((e2)) ((e3)) ((e4)) tp ++ (wH E (q 0) ((iv (bq 0))) ((iv (sq 0))) c0 ++ (wH E (q 1) ((iv (bq 1))) ((iv (sq 1))) c1 ++ (wH E (q 2) ((iv (bq 2))) ((iv (sq 2))) c2 ++ (wH E (q 3) ((iv (bq 3))) ((iv (sq 3))) c3 ++ []))))))))) := h
        have e9 : q_copy bq sq cq ph 0 pf 1 po pn = ((-1000000003), cq, (bump ph 2)) := by first | (unfold q_copy; (repeat (first | rw [if_pos (by omega)] | rw [if_neg (by omega)])); first | done | rfl) | (exfalso; omega)
        exact ret _ _ _ _ _ (((iv (ik)), fd4), ((hk), (nk), (k1, k2, k3, k4, k5, k6, k7, k8, k9)), ((iv (hr A)), (iv (pe A)), (xs, xi, xk, xc, xl, xr, xb, yl, yr)), ((ht), (nt), (t1, t2, t3, t4, t5, t6, t7, t8, t9)), ((iv (tn)), (e1), (e2), (e3), (e4), tp), ((iv (bq 0)), (iv (sq 0)), c0), ((iv (bq 1)), (iv (sq 1)), c1), ((iv (bq 2)), (iv (sq 2)), c2), ((iv (bq 3)), (iv (sq 3)), c3)) h (by rw [e9]; exact ⟨rfl, ⟨⟨rfl, rfl, hR, hI, hr9⟩, hK, hF4, hT, hB⟩⟩) dX4_copy_73
    · refine lv_aload_n X.1 X.2.1 dX4_copy_47 rfl (lv_at hl 2 rfl) ?_
      refine z_ldc (z := (-1000000006)) X ct_X4_197 (by decide) dX4_copy_48 ?_
      refine z_wi (st_sing (st_nil h)) (run_V (rest := []) X (st_sing (st_nil h)) (c_X4_finding (j := 5) hF (by decide) (by decide) (by decide)) mi_X4_finding ml_X4_49 ⟨Nat.le_of_ble_eq_true rfl, Nat.le_of_ble_eq_true rfl⟩ ⟨rfl, rfl⟩ (Seg.mk' _ _) 3 0 rfl rfl rfl rfl hl.1 rfl (Nat.le_of_ble_eq_true rfl) ⟨Nat.zero_le _, Nat.zero_le _⟩ dX4_copy_50) (fun _ => map_app (wO_map _ _ _ _ _ _ _ _ _ _ _) rfl) (fun r fd5 H locs hp h => ?_)
      have h := (st_lin (st_gnis h))
      obtain ⟨rfl, hF5⟩ := hp
      have h : St E _ s H locs (wO E a k b t x q ((iv (ik))) fd5 ++ (wS E k ((hk)) ((nk)) (k1, k2, k3, k4, k5, k6, k7, k8, k9) ++ (wS E b ((iv (hr A))) ((iv (pe A))) (xs, xi, xk, xc, xl, xr, xb, yl, yr) ++ (wS E t ((ht)) ((nt)) (t1, t2, t3, t4, t5, t6, t7, t8, t9) ++ (wX E x ((iv (tn))) ((e1)) ((e2)) ((e3)) ((e4)) tp ++ (wH E (q 0) ((iv (bq 0))) ((iv (sq 0))) c0 ++ (wH E (q 1) ((iv (bq 1))) ((iv (sq 1))) c1 ++ (wH E (q 2) ((iv (bq 2))) ((iv (sq 2))) c2 ++ (wH E (q 3) ((iv (bq 3))) ((iv (sq 3))) c3 ++ []))))))))) := h
      have e9 : q_copy bq sq cq ph 0 pf 1 po pn = ((-1000000006), cq, (bump ph 5)) := by first | (unfold q_copy; (repeat (first | rw [if_pos (by omega)] | rw [if_neg (by omega)])); first | done | rfl) | (exfalso; omega)
      exact ret _ _ _ _ _ (((iv (ik)), fd5), ((hk), (nk), (k1, k2, k3, k4, k5, k6, k7, k8, k9)), ((iv (hr A)), (iv (pe A)), (xs, xi, xk, xc, xl, xr, xb, yl, yr)), ((ht), (nt), (t1, t2, t3, t4, t5, t6, t7, t8, t9)), ((iv (tn)), (e1), (e2), (e3), (e4), tp), ((iv (bq 0)), (iv (sq 0)), c0), ((iv (bq 1)), (iv (sq 1)), c1), ((iv (bq 2)), (iv (sq 2)), c2), ((iv (bq 3)), (iv (sq 3)), c3)) h (by rw [e9]; exact ⟨rfl, ⟨⟨rfl, rfl, hR, hI, hr9⟩, hK, hF5, hT, hB⟩⟩) dX4_copy_53

set_option maxHeartbeats 4000000 in
theorem c_X4_copy_0_2 (hS : RepC (((iv (ik)), fd), ((hk), (nk), (k1, k2, k3, k4, k5, k6, k7, k8, k9)), ((iv (hr A)), (iv (pe A)), (xs, xi, xk, xc, xl, xr, xb, yl, yr)), ((ht), (nt), (t1, t2, t3, t4, t5, t6, t7, t8, t9)), ((iv (tn)), (e1), (e2), (e3), (e4), tp), ((iv (bq 0)), (iv (sq 0)), c0), ((iv (bq 1)), (iv (sq 1)), c1), ((iv (bq 2)), (iv (sq 2)), c2), ((iv (bq 3)), (iv (sq 3)), c3)) (A, K, ik, ph, tq, tn, bq, sq, cq)) {pf : Int} (r_pf : r32 pf) {po : Int} (r_po : r32 po) {pn : Int} (r_pn : r32 pn) : MI (S := Tc) E l yX4_copy cX4_copy 8 (some FieldType.int) (rmk 2 44) (wO E a k b t x q ((iv (ik))) fd ++ (wS E k ((hk)) ((nk)) (k1, k2, k3, k4, k5, k6, k7, k8, k9) ++ (wS E b ((iv (hr A))) ((iv (pe A))) (xs, xi, xk, xc, xl, xr, xb, yl, yr) ++ (wS E t ((ht)) ((nt)) (t1, t2, t3, t4, t5, t6, t7, t8, t9) ++ (wX E x ((iv (tn))) ((e1)) ((e2)) ((e3)) ((e4)) tp ++ (wH E (q 0) ((iv (bq 0))) ((iv (sq 0))) c0 ++ (wH E (q 1) ((iv (bq 1))) ((iv (sq 1))) c1 ++ (wH E (q 2) ((iv (bq 2))) ((iv (sq 2))) c2 ++ (wH E (q 3) ((iv (bq 3))) ((iv (sq 3))) c3 ++ []))))))))) [.ref (a 0), .int (iv (0)), .int (iv (pf)), .int (iv (2)), .int (iv (po)), .int (iv (pn))] (fun r u => r = iv ((q_copy bq sq cq ph 0 pf 2 po pn).1) ∧ RepC u (A, K, ik, (q_copy bq sq cq ph 0 pf 2 po pn).2.2, tq, tn, bq, sq, (q_copy bq sq cq ph 0 pf 2 po pn).2.1)) (fun u => wT E a k b t x q u) := by
  refine goI (S := Tc) (post := fun r u => r = iv ((q_copy bq sq cq ph 0 pf 2 po pn).1) ∧ RepC u (A, K, ik, (q_copy bq sq cq ph 0 pf 2 po pn).2.2, tq, tn, bq, sq, (q_copy bq sq cq ph 0 pf 2 po pn).2.1)) (ws' := fun u => wT E a k b t x q u) (by decide) (Nat.le_of_ble_eq_true rfl) ?_
  intro pp e s m below meth c ls args Q ret X h hl
  have hl : lv_has ls 8 [(0, .ref (a 0)), (1, .int (iv (0))), (2, .int (iv (pf))), (3, .int (iv (2))), (4, .int (iv (po))), (5, .int (iv (pn)))] := hl
  have hR : RS (xs, xi, xk, xc, xl, xr, xb, yl, yr) A := hS.1.2.2.1
  have hI : IA A := hS.1.2.2.2.1
  have hr9 : hr A ≤ 99999 := hS.1.2.2.2.2
  have hF : RF 7 fd ph := hS.2.2.1
  have hK := hS.2.1
  have hT := hS.2.2.2.1
  have hB := hS.2.2.2.2
  have hh : hr A < 1000000 := by omega
  have n8 := hI.n8
  have n0 := hI.n0
  have h0 := hI.h0
  have ht0 : 0 ≤ tn := hS.2.2.2.1.2.1
  have ht1 : tn ≤ 120 := hS.2.2.2.1.2.2.1
  have hk01 : ik = 0 ∨ ik = 1 := hS.2.1.2.1
  have hB3 : okB bq sq := hS.2.2.2.2.1
  have hH0 : RepH (iv (bq 0), iv (sq 0), c0) bq sq cq 0 := hS.2.2.2.2.2.1
  have hH1 : RepH (iv (bq 1), iv (sq 1), c1) bq sq cq 1 := hS.2.2.2.2.2.2.1
  have hH2 : RepH (iv (bq 2), iv (sq 2), c2) bq sq cq 2 := hS.2.2.2.2.2.2.2.1
  have hH3 : RepH (iv (bq 3), iv (sq 3), c3) bq sq cq 3 := hS.2.2.2.2.2.2.2.2
  have ob0 := hB3.1 0 (by omega) (by omega)
  have zb0 := hB3.2 0 (by omega) (by omega)
  have ob2 := hB3.1 2 (by omega) (by omega)
  have zb2 := hB3.2 2 (by omega) (by omega)
  have q2 := r_pf.1
  have q22 := r_pf.2
  have q4 := r_po.1
  have q42 := r_po.2
  have q5 := r_pn.1
  have q52 := r_pn.2
  refine lv_aload_n X.1 X.2.1 dX4_copy_0 rfl (lv_at hl 0 rfl) ?_
  refine lv_iload_n X.1 X.2.1 dX4_copy_1 rfl (lv_at hl 1 rfl) ?_
  refine z_pq (run_V (rest := []) X h (c_sheetAt0) mi_X4_sheetAt ml_X4_184 ⟨Nat.le_of_ble_eq_true rfl, Nat.le_of_ble_eq_true rfl⟩ ⟨rfl, rfl⟩ (Seg.rfl' _) 3 0 rfl rfl rfl rfl hl.1 rfl (Nat.le_of_ble_eq_true rfl) ⟨Nat.zero_le _, Nat.zero_le _⟩ dX4_copy_2) ?_
  refine W.eq (g2 := F0 m 5 ls [.ref (q 0 0)]) rfl ?_
  refine lv_astore (lv' := [(6, .ref (q 0 0)), (0, .ref (a 0)), (1, .int (iv (0))), (2, .int (iv (pf))), (3, .int (iv (2))), (4, .int (iv (po))), (5, .int (iv (pn)))]) X.1 X.2.1 dX4_copy_5 hl (by decide) rfl (fun ls hl => ?_)
  refine lv_aload_n X.1 X.2.1 dX4_copy_7 rfl (lv_at hl 1 rfl) ?_
  refine lv_iload_n X.1 X.2.1 dX4_copy_8 rfl (lv_at hl 4 rfl) ?_
  refine z_pq (run_V (rest := []) X h (c_sheetAt2) mi_X4_sheetAt ml_X4_184 ⟨Nat.le_of_ble_eq_true rfl, Nat.le_of_ble_eq_true rfl⟩ ⟨rfl, rfl⟩ (Seg.rfl' _) 3 0 rfl rfl rfl rfl hl.1 rfl (Nat.le_of_ble_eq_true rfl) ⟨Nat.zero_le _, Nat.zero_le _⟩ dX4_copy_9) ?_
  refine W.eq (g2 := F0 m 12 ls [.ref (q 2 0)]) rfl ?_
  refine lv_astore (lv' := [(7, .ref (q 2 0)), (6, .ref (q 0 0)), (0, .ref (a 0)), (1, .int (iv (0))), (2, .int (iv (pf))), (3, .int (iv (2))), (4, .int (iv (po))), (5, .int (iv (pn)))]) X.1 X.2.1 dX4_copy_12 hl (by decide) rfl (fun ls hl => ?_)
  refine lv_aload X.1 X.2.1 dX4_copy_14 (lv_at hl 1 rfl) ?_
  refine lv_ifnull X.1 X.2.1 dX4_copy_16 ?_
  refine lv_aload X.1 X.2.1 dX4_copy_19 (lv_at hl 0 rfl) ?_
  refine lv_ifnonnull (tgt := 31) X.1 X.2.1 dX4_copy_21 (by decide) ?_
  refine lv_aload X.1 X.2.1 dX4_copy_31 (lv_at hl 1 rfl) ?_
  refine z_pi (run_V (rest := []) X (st_sing (st_in (st_in (st_in (st_in (st_in (st_nil h))))))) (c_X0_isMissing (y := q 0) (bt := bq 0) ⟨by omega, by omega⟩) mi_X0_isMissing ml_X4_193 ⟨Nat.le_of_ble_eq_true rfl, Nat.le_of_ble_eq_true rfl⟩ ⟨rfl, rfl⟩ (Seg.mk' _ _) 0 35 rfl rfl rfl rfl hl.1 rfl (Nat.le_of_ble_eq_true rfl) ⟨Nat.zero_le _, Nat.zero_le _⟩ dX4_copy_33) ?_
  refine z_ifb_ne (tgt := 47) X dX4_copy_36 (by decide) (fun c_36 => ?_) (fun c_36 => ?_)
  · refine lv_aload_n X.1 X.2.1 dX4_copy_47 rfl (lv_at hl 2 rfl) ?_
    refine z_ldc (z := (-1000000006)) X ct_X4_197 (by decide) dX4_copy_48 ?_
    refine z_wi (st_sing (st_nil h)) (run_V (rest := []) X (st_sing (st_nil h)) (c_X4_finding (j := 5) hF (by decide) (by decide) (by decide)) mi_X4_finding ml_X4_49 ⟨Nat.le_of_ble_eq_true rfl, Nat.le_of_ble_eq_true rfl⟩ ⟨rfl, rfl⟩ (Seg.mk' _ _) 3 0 rfl rfl rfl rfl hl.1 rfl (Nat.le_of_ble_eq_true rfl) ⟨Nat.zero_le _, Nat.zero_le _⟩ dX4_copy_50) (fun _ => map_app (wO_map _ _ _ _ _ _ _ _ _ _ _) rfl) (fun r fd1 H locs hp h => ?_)
    have h := (st_lin (st_gnis h))
    obtain ⟨rfl, hF1⟩ := hp
    have h : St E _ s H locs (wO E a k b t x q ((iv (ik))) fd1 ++ (wS E k ((hk)) ((nk)) (k1, k2, k3, k4, k5, k6, k7, k8, k9) ++ (wS E b ((iv (hr A))) ((iv (pe A))) (xs, xi, xk, xc, xl, xr, xb, yl, yr) ++ (wS E t ((ht)) ((nt)) (t1, t2, t3, t4, t5, t6, t7, t8, t9) ++ (wX E x ((iv (tn))) ((e1)) ((e2)) ((e3)) ((e4)) tp ++ (wH E (q 0) ((iv (bq 0))) ((iv (sq 0))) c0 ++ (wH E (q 1) ((iv (bq 1))) ((iv (sq 1))) c1 ++ (wH E (q 2) ((iv (bq 2))) ((iv (sq 2))) c2 ++ (wH E (q 3) ((iv (bq 3))) ((iv (sq 3))) c3 ++ []))))))))) := h
    have e9 : q_copy bq sq cq ph 0 pf 2 po pn = ((-1000000006), cq, (bump ph 5)) := by first | (unfold q_copy; (repeat (first | rw [if_pos (by omega)] | rw [if_neg (by omega)])); first | done | rfl) | (exfalso; omega)
    exact ret _ _ _ _ _ (((iv (ik)), fd1), ((hk), (nk), (k1, k2, k3, k4, k5, k6, k7, k8, k9)), ((iv (hr A)), (iv (pe A)), (xs, xi, xk, xc, xl, xr, xb, yl, yr)), ((ht), (nt), (t1, t2, t3, t4, t5, t6, t7, t8, t9)), ((iv (tn)), (e1), (e2), (e3), (e4), tp), ((iv (bq 0)), (iv (sq 0)), c0), ((iv (bq 1)), (iv (sq 1)), c1), ((iv (bq 2)), (iv (sq 2)), c2), ((iv (bq 3)), (iv (sq 3)), c3)) h (by rw [e9]; exact ⟨rfl, ⟨⟨rfl, rfl, hR, hI, hr9⟩, hK, hF1, hT, hB⟩⟩) dX4_copy_53
  · refine lv_aload X.1 X.2.1 dX4_copy_39 (lv_at hl 0 rfl) ?_
    refine z_pi (run_V (rest := []) X (st_sing (st_in (st_in (st_in (st_in (st_in (st_in (st_in (st_nil h))))))))) (c_X0_isMissing (y := q 2) (bt := bq 2) ⟨by omega, by omega⟩) mi_X0_isMissing ml_X4_193 ⟨Nat.le_of_ble_eq_true rfl, Nat.le_of_ble_eq_true rfl⟩ ⟨rfl, rfl⟩ (Seg.mk' _ _) 0 39 rfl rfl rfl rfl hl.1 rfl (Nat.le_of_ble_eq_true rfl) ⟨Nat.zero_le _, Nat.zero_le _⟩ dX4_copy_41) ?_
    refine z_ifb_eq (tgt := 54) X dX4_copy_44 (by decide) (fun c_44 => ?_) (fun c_44 => ?_)
    · refine lv_aload X.1 X.2.1 dX4_copy_54 (lv_at hl 1 rfl) ?_
      refine z_get X h 0 35 0 rfl inX0 rfl (by decide) fl_X4_206 rfl dX4_copy_56 ?_
      refine lv_aload X.1 X.2.1 dX4_copy_59 (lv_at hl 0 rfl) ?_
      refine z_get X h 0 39 0 rfl inX0 rfl (by decide) fl_X4_206 rfl dX4_copy_61 ?_
      refine z_ic_eq (tgt := 74) X ⟨by omega, by omega⟩ ⟨by omega, by omega⟩ dX4_copy_64 (by decide) (fun c_64 => ?_) (fun c_64 => ?_)
      · refine lv_aload X.1 X.2.1 dX4_copy_74 (lv_at hl 1 rfl) ?_
        refine lv_iload_n X.1 X.2.1 dX4_copy_76 rfl (lv_at hl 4 rfl) ?_
        refine lv_iload X.1 X.2.1 dX4_copy_77 (lv_at hl 7 rfl) ?_
        refine z_pi (run_V (rest := []) X (st_sing (st_in (st_in (st_in (st_in (st_in (st_nil h))))))) (c_X0_has (y := q 0) (sz := sq 0) (fr := pf) (n9 := pn) (by omega) (by omega) r_pf r_pn) mi_X0_has ml_X4_209 ⟨Nat.le_of_ble_eq_true rfl, Nat.le_of_ble_eq_true rfl⟩ ⟨rfl, rfl⟩ (Seg.mk' _ _) 0 35 rfl rfl rfl rfl hl.1 rfl (Nat.le_of_ble_eq_true rfl) ⟨Nat.zero_le _, Nat.zero_le _⟩ dX4_copy_79) ?_
        refine z_ifb_eq (tgt := 97) X dX4_copy_82 (by decide) (fun c_82 => ?_) (fun c_82 => ?_)
        · refine lv_aload_n X.1 X.2.1 dX4_copy_97 rfl (lv_at hl 2 rfl) ?_
          refine z_ldc (z := (-1000000001)) X ct_X4_48 (by decide) dX4_copy_98 ?_
          refine z_wi (st_sing (st_nil h)) (run_V (rest := []) X (st_sing (st_nil h)) (c_X4_finding (j := 0) hF (by decide) (by decide) (by decide)) mi_X4_finding ml_X4_49 ⟨Nat.le_of_ble_eq_true rfl, Nat.le_of_ble_eq_true rfl⟩ ⟨rfl, rfl⟩ (Seg.mk' _ _) 3 0 rfl rfl rfl rfl hl.1 rfl (Nat.le_of_ble_eq_true rfl) ⟨Nat.zero_le _, Nat.zero_le _⟩ dX4_copy_100) (fun _ => map_app (wO_map _ _ _ _ _ _ _ _ _ _ _) rfl) (fun r fd2 H locs hp h => ?_)
          have h := (st_lin (st_gnis h))
          obtain ⟨rfl, hF2⟩ := hp
          have h : St E _ s H locs (wO E a k b t x q ((iv (ik))) fd2 ++ (wS E k ((hk)) ((nk)) (k1, k2, k3, k4, k5, k6, k7, k8, k9) ++ (wS E b ((iv (hr A))) ((iv (pe A))) (xs, xi, xk, xc, xl, xr, xb, yl, yr) ++ (wS E t ((ht)) ((nt)) (t1, t2, t3, t4, t5, t6, t7, t8, t9) ++ (wX E x ((iv (tn))) ((e1)) ((e2)) ((e3)) ((e4)) tp ++ (wH E (q 0) ((iv (bq 0))) ((iv (sq 0))) c0 ++ (wH E (q 1) ((iv (bq 1))) ((iv (sq 1))) c1 ++ (wH E (q 2) ((iv (bq 2))) ((iv (sq 2))) c2 ++ (wH E (q 3) ((iv (bq 3))) ((iv (sq 3))) c3 ++ []))))))))) := h
          have e9 : q_copy bq sq cq ph 0 pf 2 po pn = ((-1000000001), cq, (bump ph 0)) := by first | (unfold q_copy; (repeat (first | rw [if_pos (by omega)] | rw [if_neg (by omega)])); first | done | rfl) | (exfalso; omega)
          exact ret _ _ _ _ _ (((iv (ik)), fd2), ((hk), (nk), (k1, k2, k3, k4, k5, k6, k7, k8, k9)), ((iv (hr A)), (iv (pe A)), (xs, xi, xk, xc, xl, xr, xb, yl, yr)), ((ht), (nt), (t1, t2, t3, t4, t5, t6, t7, t8, t9)), ((iv (tn)), (e1), (e2), (e3), (e4), tp), ((iv (bq 0)), (iv (sq 0)), c0), ((iv (bq 1)), (iv (sq 1)), c1), ((iv (bq 2)), (iv (sq 2)), c2), ((iv (bq 3)), (iv (sq 3)), c3)) h (by rw [e9]; exact ⟨rfl, ⟨⟨rfl, rfl, hR, hI, hr9⟩, hK, hF2, hT, hB⟩⟩) dX4_copy_103
        · refine lv_aload X.1 X.2.1 dX4_copy_85 (lv_at hl 0 rfl) ?_
          refine lv_iload X.1 X.2.1 dX4_copy_87 (lv_at hl 6 rfl) ?_
          refine lv_iload X.1 X.2.1 dX4_copy_89 (lv_at hl 7 rfl) ?_
          refine z_pi (run_V (rest := []) X (st_sing (st_in (st_in (st_in (st_in (st_in (st_in (st_in (st_nil h))))))))) (c_X0_has (y := q 2) (sz := sq 2) (fr := po) (n9 := pn) (by omega) (by omega) r_po r_pn) mi_X0_has ml_X4_209 ⟨Nat.le_of_ble_eq_true rfl, Nat.le_of_ble_eq_true rfl⟩ ⟨rfl, rfl⟩ (Seg.mk' _ _) 0 39 rfl rfl rfl rfl hl.1 rfl (Nat.le_of_ble_eq_true rfl) ⟨Nat.zero_le _, Nat.zero_le _⟩ dX4_copy_91) ?_
          refine z_ifb_ne (tgt := 104) X dX4_copy_94 (by decide) (fun c_94 => ?_) (fun c_94 => ?_)
          · refine lv_aload X.1 X.2.1 dX4_copy_104 (lv_at hl 1 rfl) ?_
            refine z_get X h 0 35 2 rfl inX0 rfl (by decide) fl_X4_198 rfl dX4_copy_106 ?_
            refine lv_iload_n X.1 X.2.1 dX4_copy_109 rfl (lv_at hl 4 rfl) ?_
            refine lv_aload X.1 X.2.1 dX4_copy_110 (lv_at hl 0 rfl) ?_
            refine z_get X h 0 39 2 rfl inX0 rfl (by decide) fl_X4_198 rfl dX4_copy_112 ?_
            refine lv_iload X.1 X.2.1 dX4_copy_115 (lv_at hl 6 rfl) ?_
            refine lv_iload X.1 X.2.1 dX4_copy_117 (lv_at hl 7 rfl) ?_
            refine s_copyl X (st_in (st_in (st_in (st_in (st_in (st_in (st_in (st_nil h)))))))) rfl 36 1 rfl rfl ml_X4_212 (by omega) (by omega) (by omega) (by omega) (by omega) (by decide) (by decide) hl.1 (Nat.le_of_ble_eq_true rfl) (Nat.le_of_ble_eq_true rfl) dX4_copy_119 (fun H locs h => ?_)
            have h := (st_lin (st_out (st_out (st_out (st_out (st_out (st_out (st_out (st_eq wH_numbers h)))))))))
            have h : St E _ s H locs (wO E a k b t x q ((iv (ik))) fd ++ (wS E k ((hk)) ((nk)) (k1, k2, k3, k4, k5, k6, k7, k8, k9) ++ (wS E b ((iv (hr A))) ((iv (pe A))) (xs, xi, xk, xc, xl, xr, xb, yl, yr) ++ (wS E t ((ht)) ((nt)) (t1, t2, t3, t4, t5, t6, t7, t8, t9) ++ (wX E x ((iv (tn))) ((e1)) ((e2)) ((e3)) ((e4)) tp ++ (wH E (q 0) ((iv (bq 0))) ((iv (sq 0))) c0 ++ (wH E (q 1) ((iv (bq 1))) ((iv (sq 1))) c1 ++ (wH E (q 2) ((iv (bq 2))) ((iv (sq 2))) (va_cpy c0 c2 (pf : Int).toNat (po : Int).toNat (pn : Int).toNat) ++ (wH E (q 3) ((iv (bq 3))) ((iv (sq 3))) c3 ++ []))))))))) := h
            refine lv_iload X.1 X.2.1 dX4_copy_122 (lv_at hl 7 rfl) ?_
            have e9 : q_copy bq sq cq ph 0 pf 2 po pn = (pn, (cpy cq 0 pf 2 po 0 pn), ph) := by first | (unfold q_copy; (repeat (first | rw [if_pos (by omega)] | rw [if_neg (by omega)])); first | done | rfl) | (exfalso; omega)
            exact ret _ _ _ _ _ (((iv (ik)), fd), ((hk), (nk), (k1, k2, k3, k4, k5, k6, k7, k8, k9)), ((iv (hr A)), (iv (pe A)), (xs, xi, xk, xc, xl, xr, xb, yl, yr)), ((ht), (nt), (t1, t2, t3, t4, t5, t6, t7, t8, t9)), ((iv (tn)), (e1), (e2), (e3), (e4), tp), ((iv (bq 0)), (iv (sq 0)), c0), ((iv (bq 1)), (iv (sq 1)), c1), ((iv (bq 2)), (iv (sq 2)), (va_cpy c0 c2 (pf : Int).toNat (po : Int).toNat (pn : Int).toNat)), ((iv (bq 3)), (iv (sq 3)), c3)) h (by rw [e9]; exact ⟨rfl, ⟨⟨rfl, rfl, hR, hI, hr9⟩, hK, hF, hT, ⟨hB3, RepH_cn hH0 (by decide), RepH_cn hH1 (by decide), RepH_cp hH0 hH2 (by omega) (by omega) (by omega) (by omega), RepH_cn hH3 (by decide)⟩⟩⟩) dX4_copy_124
          · refine lv_aload_n X.1 X.2.1 dX4_copy_97 rfl (lv_at hl 2 rfl) ?_
            refine z_ldc (z := (-1000000001)) X ct_X4_48 (by decide) dX4_copy_98 ?_
            refine z_wi (st_sing (st_nil h)) (run_V (rest := []) X (st_sing (st_nil h)) (c_X4_finding (j := 0) hF (by decide) (by decide) (by decide)) mi_X4_finding ml_X4_49 ⟨Nat.le_of_ble_eq_true rfl, Nat.le_of_ble_eq_true rfl⟩ ⟨rfl, rfl⟩ (Seg.mk' _ _) 3 0 rfl rfl rfl rfl hl.1 rfl (Nat.le_of_ble_eq_true rfl) ⟨Nat.zero_le _, Nat.zero_le _⟩ dX4_copy_100) (fun _ => map_app (wO_map _ _ _ _ _ _ _ _ _ _ _) rfl) (fun r fd3 H locs hp h => ?_)
            have h := (st_lin (st_gnis h))
            obtain ⟨rfl, hF3⟩ := hp
            have h : St E _ s H locs (wO E a k b t x q ((iv (ik))) fd3 ++ (wS E k ((hk)) ((nk)) (k1, k2, k3, k4, k5, k6, k7, k8, k9) ++ (wS E b ((iv (hr A))) ((iv (pe A))) (xs, xi, xk, xc, xl, xr, xb, yl, yr) ++ (wS E t ((ht)) ((nt)) (t1, t2, t3, t4, t5, t6, t7, t8, t9) ++ (wX E x ((iv (tn))) ((e1)) ((e2)) ((e3)) ((e4)) tp ++ (wH E (q 0) ((iv (bq 0))) ((iv (sq 0))) c0 ++ (wH E (q 1) ((iv (bq 1))) ((iv (sq 1))) c1 ++ (wH E (q 2) ((iv (bq 2))) ((iv (sq 2))) c2 ++ (wH E (q 3) ((iv (bq 3))) ((iv (sq 3))) c3 ++ []))))))))) := h
            have e9 : q_copy bq sq cq ph 0 pf 2 po pn = ((-1000000001), cq, (bump ph 0)) := by first | (unfold q_copy; (repeat (first | rw [if_pos (by omega)] | rw [if_neg (by omega)])); first | done | rfl) | (exfalso; omega)
            exact ret _ _ _ _ _ (((iv (ik)), fd3), ((hk), (nk), (k1, k2, k3, k4, k5, k6, k7, k8, k9)), ((iv (hr A)), (iv (pe A)), (xs, xi, xk, xc, xl, xr, xb, yl, yr)), ((ht), (nt), (t1, t2, t3, t4, t5, t6, t7, t8, t9)), ((iv (tn)), (e1), (e2), (e3), (e4), tp), ((iv (bq 0)), (iv (sq 0)), c0), ((iv (bq 1)), (iv (sq 1)), c1), ((iv (bq 2)), (iv (sq 2)), c2), ((iv (bq 3)), (iv (sq 3)), c3)) h (by rw [e9]; exact ⟨rfl, ⟨⟨rfl, rfl, hR, hI, hr9⟩, hK, hF3, hT, hB⟩⟩) dX4_copy_103
      · refine lv_aload_n X.1 X.2.1 dX4_copy_67 rfl (lv_at hl 2 rfl) ?_
        refine z_ldc (z := (-1000000003)) X ct_X4_127 (by decide) dX4_copy_68 ?_
        refine z_wi (st_sing (st_nil h)) (run_V (rest := []) X (st_sing (st_nil h)) (c_X4_finding (j := 2) hF (by decide) (by decide) (by decide)) mi_X4_finding ml_X4_49 ⟨Nat.le_of_ble_eq_true rfl, Nat.le_of_ble_eq_true rfl⟩ ⟨rfl, rfl⟩ (Seg.mk' _ _) 3 0 rfl rfl rfl rfl hl.1 rfl (Nat.le_of_ble_eq_true rfl) ⟨Nat.zero_le _, Nat.zero_le _⟩ dX4_copy_70) (fun _ => map_app (wO_map _ _ _ _ _ _ _ _ _ _ _) rfl) (fun r fd4 H locs hp h => ?_)
        have h := (st_lin (st_gnis h))
        obtain ⟨rfl, hF4⟩ := hp
        have h : St E _ s H locs (wO E a k b t x q ((iv (ik))) fd4 ++ (wS E k ((hk)) ((nk)) (k1, k2, k3, k4, k5, k6, k7, k8, k9) ++ (wS E b ((iv (hr A))) ((iv (pe A))) (xs, xi, xk, xc, xl, xr, xb, yl, yr) ++ (wS E t ((ht)) ((nt)) (t1, t2, t3, t4, t5, t6, t7, t8, t9) ++ (wX E x ((iv (tn))) ((e1)) ((e2)) ((e3)) ((e4)) tp ++ (wH E (q 0) ((iv (bq 0))) ((iv (sq 0))) c0 ++ (wH E (q 1) ((iv (bq 1))) ((iv (sq 1))) c1 ++ (wH E (q 2) ((iv (bq 2))) ((iv (sq 2))) c2 ++ (wH E (q 3) ((iv (bq 3))) ((iv (sq 3))) c3 ++ []))))))))) := h
        have e9 : q_copy bq sq cq ph 0 pf 2 po pn = ((-1000000003), cq, (bump ph 2)) := by first | (unfold q_copy; (repeat (first | rw [if_pos (by omega)] | rw [if_neg (by omega)])); first | done | rfl) | (exfalso; omega)
        exact ret _ _ _ _ _ (((iv (ik)), fd4), ((hk), (nk), (k1, k2, k3, k4, k5, k6, k7, k8, k9)), ((iv (hr A)), (iv (pe A)), (xs, xi, xk, xc, xl, xr, xb, yl, yr)), ((ht), (nt), (t1, t2, t3, t4, t5, t6, t7, t8, t9)), ((iv (tn)), (e1), (e2), (e3), (e4), tp), ((iv (bq 0)), (iv (sq 0)), c0), ((iv (bq 1)), (iv (sq 1)), c1), ((iv (bq 2)), (iv (sq 2)), c2), ((iv (bq 3)), (iv (sq 3)), c3)) h (by rw [e9]; exact ⟨rfl, ⟨⟨rfl, rfl, hR, hI, hr9⟩, hK, hF4, hT, hB⟩⟩) dX4_copy_73
    · refine lv_aload_n X.1 X.2.1 dX4_copy_47 rfl (lv_at hl 2 rfl) ?_
      refine z_ldc (z := (-1000000006)) X ct_X4_197 (by decide) dX4_copy_48 ?_
      refine z_wi (st_sing (st_nil h)) (run_V (rest := []) X (st_sing (st_nil h)) (c_X4_finding (j := 5) hF (by decide) (by decide) (by decide)) mi_X4_finding ml_X4_49 ⟨Nat.le_of_ble_eq_true rfl, Nat.le_of_ble_eq_true rfl⟩ ⟨rfl, rfl⟩ (Seg.mk' _ _) 3 0 rfl rfl rfl rfl hl.1 rfl (Nat.le_of_ble_eq_true rfl) ⟨Nat.zero_le _, Nat.zero_le _⟩ dX4_copy_50) (fun _ => map_app (wO_map _ _ _ _ _ _ _ _ _ _ _) rfl) (fun r fd5 H locs hp h => ?_)
      have h := (st_lin (st_gnis h))
      obtain ⟨rfl, hF5⟩ := hp
      have h : St E _ s H locs (wO E a k b t x q ((iv (ik))) fd5 ++ (wS E k ((hk)) ((nk)) (k1, k2, k3, k4, k5, k6, k7, k8, k9) ++ (wS E b ((iv (hr A))) ((iv (pe A))) (xs, xi, xk, xc, xl, xr, xb, yl, yr) ++ (wS E t ((ht)) ((nt)) (t1, t2, t3, t4, t5, t6, t7, t8, t9) ++ (wX E x ((iv (tn))) ((e1)) ((e2)) ((e3)) ((e4)) tp ++ (wH E (q 0) ((iv (bq 0))) ((iv (sq 0))) c0 ++ (wH E (q 1) ((iv (bq 1))) ((iv (sq 1))) c1 ++ (wH E (q 2) ((iv (bq 2))) ((iv (sq 2))) c2 ++ (wH E (q 3) ((iv (bq 3))) ((iv (sq 3))) c3 ++ []))))))))) := h
      have e9 : q_copy bq sq cq ph 0 pf 2 po pn = ((-1000000006), cq, (bump ph 5)) := by first | (unfold q_copy; (repeat (first | rw [if_pos (by omega)] | rw [if_neg (by omega)])); first | done | rfl) | (exfalso; omega)
      exact ret _ _ _ _ _ (((iv (ik)), fd5), ((hk), (nk), (k1, k2, k3, k4, k5, k6, k7, k8, k9)), ((iv (hr A)), (iv (pe A)), (xs, xi, xk, xc, xl, xr, xb, yl, yr)), ((ht), (nt), (t1, t2, t3, t4, t5, t6, t7, t8, t9)), ((iv (tn)), (e1), (e2), (e3), (e4), tp), ((iv (bq 0)), (iv (sq 0)), c0), ((iv (bq 1)), (iv (sq 1)), c1), ((iv (bq 2)), (iv (sq 2)), c2), ((iv (bq 3)), (iv (sq 3)), c3)) h (by rw [e9]; exact ⟨rfl, ⟨⟨rfl, rfl, hR, hI, hr9⟩, hK, hF5, hT, hB⟩⟩) dX4_copy_53

set_option maxHeartbeats 4000000 in
theorem c_X4_copy_0_3 (hS : RepC (((iv (ik)), fd), ((hk), (nk), (k1, k2, k3, k4, k5, k6, k7, k8, k9)), ((iv (hr A)), (iv (pe A)), (xs, xi, xk, xc, xl, xr, xb, yl, yr)), ((ht), (nt), (t1, t2, t3, t4, t5, t6, t7, t8, t9)), ((iv (tn)), (e1), (e2), (e3), (e4), tp), ((iv (bq 0)), (iv (sq 0)), c0), ((iv (bq 1)), (iv (sq 1)), c1), ((iv (bq 2)), (iv (sq 2)), c2), ((iv (bq 3)), (iv (sq 3)), c3)) (A, K, ik, ph, tq, tn, bq, sq, cq)) {pf : Int} (r_pf : r32 pf) {po : Int} (r_po : r32 po) {pn : Int} (r_pn : r32 pn) : MI (S := Tc) E l yX4_copy cX4_copy 8 (some FieldType.int) (rmk 2 44) (wO E a k b t x q ((iv (ik))) fd ++ (wS E k ((hk)) ((nk)) (k1, k2, k3, k4, k5, k6, k7, k8, k9) ++ (wS E b ((iv (hr A))) ((iv (pe A))) (xs, xi, xk, xc, xl, xr, xb, yl, yr) ++ (wS E t ((ht)) ((nt)) (t1, t2, t3, t4, t5, t6, t7, t8, t9) ++ (wX E x ((iv (tn))) ((e1)) ((e2)) ((e3)) ((e4)) tp ++ (wH E (q 0) ((iv (bq 0))) ((iv (sq 0))) c0 ++ (wH E (q 1) ((iv (bq 1))) ((iv (sq 1))) c1 ++ (wH E (q 2) ((iv (bq 2))) ((iv (sq 2))) c2 ++ (wH E (q 3) ((iv (bq 3))) ((iv (sq 3))) c3 ++ []))))))))) [.ref (a 0), .int (iv (0)), .int (iv (pf)), .int (iv (3)), .int (iv (po)), .int (iv (pn))] (fun r u => r = iv ((q_copy bq sq cq ph 0 pf 3 po pn).1) ∧ RepC u (A, K, ik, (q_copy bq sq cq ph 0 pf 3 po pn).2.2, tq, tn, bq, sq, (q_copy bq sq cq ph 0 pf 3 po pn).2.1)) (fun u => wT E a k b t x q u) := by
  refine goI (S := Tc) (post := fun r u => r = iv ((q_copy bq sq cq ph 0 pf 3 po pn).1) ∧ RepC u (A, K, ik, (q_copy bq sq cq ph 0 pf 3 po pn).2.2, tq, tn, bq, sq, (q_copy bq sq cq ph 0 pf 3 po pn).2.1)) (ws' := fun u => wT E a k b t x q u) (by decide) (Nat.le_of_ble_eq_true rfl) ?_
  intro pp e s m below meth c ls args Q ret X h hl
  have hl : lv_has ls 8 [(0, .ref (a 0)), (1, .int (iv (0))), (2, .int (iv (pf))), (3, .int (iv (3))), (4, .int (iv (po))), (5, .int (iv (pn)))] := hl
  have hR : RS (xs, xi, xk, xc, xl, xr, xb, yl, yr) A := hS.1.2.2.1
  have hI : IA A := hS.1.2.2.2.1
  have hr9 : hr A ≤ 99999 := hS.1.2.2.2.2
  have hF : RF 7 fd ph := hS.2.2.1
  have hK := hS.2.1
  have hT := hS.2.2.2.1
  have hB := hS.2.2.2.2
  have hh : hr A < 1000000 := by omega
  have n8 := hI.n8
  have n0 := hI.n0
  have h0 := hI.h0
  have ht0 : 0 ≤ tn := hS.2.2.2.1.2.1
  have ht1 : tn ≤ 120 := hS.2.2.2.1.2.2.1
  have hk01 : ik = 0 ∨ ik = 1 := hS.2.1.2.1
  have hB3 : okB bq sq := hS.2.2.2.2.1
  have hH0 : RepH (iv (bq 0), iv (sq 0), c0) bq sq cq 0 := hS.2.2.2.2.2.1
  have hH1 : RepH (iv (bq 1), iv (sq 1), c1) bq sq cq 1 := hS.2.2.2.2.2.2.1
  have hH2 : RepH (iv (bq 2), iv (sq 2), c2) bq sq cq 2 := hS.2.2.2.2.2.2.2.1
  have hH3 : RepH (iv (bq 3), iv (sq 3), c3) bq sq cq 3 := hS.2.2.2.2.2.2.2.2
  have ob0 := hB3.1 0 (by omega) (by omega)
  have zb0 := hB3.2 0 (by omega) (by omega)
  have ob3 := hB3.1 3 (by omega) (by omega)
  have zb3 := hB3.2 3 (by omega) (by omega)
  have q2 := r_pf.1
  have q22 := r_pf.2
  have q4 := r_po.1
  have q42 := r_po.2
  have q5 := r_pn.1
  have q52 := r_pn.2
  refine lv_aload_n X.1 X.2.1 dX4_copy_0 rfl (lv_at hl 0 rfl) ?_
  refine lv_iload_n X.1 X.2.1 dX4_copy_1 rfl (lv_at hl 1 rfl) ?_
  refine z_pq (run_V (rest := []) X h (c_sheetAt0) mi_X4_sheetAt ml_X4_184 ⟨Nat.le_of_ble_eq_true rfl, Nat.le_of_ble_eq_true rfl⟩ ⟨rfl, rfl⟩ (Seg.rfl' _) 3 0 rfl rfl rfl rfl hl.1 rfl (Nat.le_of_ble_eq_true rfl) ⟨Nat.zero_le _, Nat.zero_le _⟩ dX4_copy_2) ?_
  refine W.eq (g2 := F0 m 5 ls [.ref (q 0 0)]) rfl ?_
  refine lv_astore (lv' := [(6, .ref (q 0 0)), (0, .ref (a 0)), (1, .int (iv (0))), (2, .int (iv (pf))), (3, .int (iv (3))), (4, .int (iv (po))), (5, .int (iv (pn)))]) X.1 X.2.1 dX4_copy_5 hl (by decide) rfl (fun ls hl => ?_)
  refine lv_aload_n X.1 X.2.1 dX4_copy_7 rfl (lv_at hl 1 rfl) ?_
  refine lv_iload_n X.1 X.2.1 dX4_copy_8 rfl (lv_at hl 4 rfl) ?_
  refine z_pq (run_V (rest := []) X h (c_sheetAt3) mi_X4_sheetAt ml_X4_184 ⟨Nat.le_of_ble_eq_true rfl, Nat.le_of_ble_eq_true rfl⟩ ⟨rfl, rfl⟩ (Seg.rfl' _) 3 0 rfl rfl rfl rfl hl.1 rfl (Nat.le_of_ble_eq_true rfl) ⟨Nat.zero_le _, Nat.zero_le _⟩ dX4_copy_9) ?_
  refine W.eq (g2 := F0 m 12 ls [.ref (q 3 0)]) rfl ?_
  refine lv_astore (lv' := [(7, .ref (q 3 0)), (6, .ref (q 0 0)), (0, .ref (a 0)), (1, .int (iv (0))), (2, .int (iv (pf))), (3, .int (iv (3))), (4, .int (iv (po))), (5, .int (iv (pn)))]) X.1 X.2.1 dX4_copy_12 hl (by decide) rfl (fun ls hl => ?_)
  refine lv_aload X.1 X.2.1 dX4_copy_14 (lv_at hl 1 rfl) ?_
  refine lv_ifnull X.1 X.2.1 dX4_copy_16 ?_
  refine lv_aload X.1 X.2.1 dX4_copy_19 (lv_at hl 0 rfl) ?_
  refine lv_ifnonnull (tgt := 31) X.1 X.2.1 dX4_copy_21 (by decide) ?_
  refine lv_aload X.1 X.2.1 dX4_copy_31 (lv_at hl 1 rfl) ?_
  refine z_pi (run_V (rest := []) X (st_sing (st_in (st_in (st_in (st_in (st_in (st_nil h))))))) (c_X0_isMissing (y := q 0) (bt := bq 0) ⟨by omega, by omega⟩) mi_X0_isMissing ml_X4_193 ⟨Nat.le_of_ble_eq_true rfl, Nat.le_of_ble_eq_true rfl⟩ ⟨rfl, rfl⟩ (Seg.mk' _ _) 0 35 rfl rfl rfl rfl hl.1 rfl (Nat.le_of_ble_eq_true rfl) ⟨Nat.zero_le _, Nat.zero_le _⟩ dX4_copy_33) ?_
  refine z_ifb_ne (tgt := 47) X dX4_copy_36 (by decide) (fun c_36 => ?_) (fun c_36 => ?_)
  · refine lv_aload_n X.1 X.2.1 dX4_copy_47 rfl (lv_at hl 2 rfl) ?_
    refine z_ldc (z := (-1000000006)) X ct_X4_197 (by decide) dX4_copy_48 ?_
    refine z_wi (st_sing (st_nil h)) (run_V (rest := []) X (st_sing (st_nil h)) (c_X4_finding (j := 5) hF (by decide) (by decide) (by decide)) mi_X4_finding ml_X4_49 ⟨Nat.le_of_ble_eq_true rfl, Nat.le_of_ble_eq_true rfl⟩ ⟨rfl, rfl⟩ (Seg.mk' _ _) 3 0 rfl rfl rfl rfl hl.1 rfl (Nat.le_of_ble_eq_true rfl) ⟨Nat.zero_le _, Nat.zero_le _⟩ dX4_copy_50) (fun _ => map_app (wO_map _ _ _ _ _ _ _ _ _ _ _) rfl) (fun r fd1 H locs hp h => ?_)
    have h := (st_lin (st_gnis h))
    obtain ⟨rfl, hF1⟩ := hp
    have h : St E _ s H locs (wO E a k b t x q ((iv (ik))) fd1 ++ (wS E k ((hk)) ((nk)) (k1, k2, k3, k4, k5, k6, k7, k8, k9) ++ (wS E b ((iv (hr A))) ((iv (pe A))) (xs, xi, xk, xc, xl, xr, xb, yl, yr) ++ (wS E t ((ht)) ((nt)) (t1, t2, t3, t4, t5, t6, t7, t8, t9) ++ (wX E x ((iv (tn))) ((e1)) ((e2)) ((e3)) ((e4)) tp ++ (wH E (q 0) ((iv (bq 0))) ((iv (sq 0))) c0 ++ (wH E (q 1) ((iv (bq 1))) ((iv (sq 1))) c1 ++ (wH E (q 2) ((iv (bq 2))) ((iv (sq 2))) c2 ++ (wH E (q 3) ((iv (bq 3))) ((iv (sq 3))) c3 ++ []))))))))) := h
    have e9 : q_copy bq sq cq ph 0 pf 3 po pn = ((-1000000006), cq, (bump ph 5)) := by first | (unfold q_copy; (repeat (first | rw [if_pos (by omega)] | rw [if_neg (by omega)])); first | done | rfl) | (exfalso; omega)
    exact ret _ _ _ _ _ (((iv (ik)), fd1), ((hk), (nk), (k1, k2, k3, k4, k5, k6, k7, k8, k9)), ((iv (hr A)), (iv (pe A)), (xs, xi, xk, xc, xl, xr, xb, yl, yr)), ((ht), (nt), (t1, t2, t3, t4, t5, t6, t7, t8, t9)), ((iv (tn)), (e1), (e2), (e3), (e4), tp), ((iv (bq 0)), (iv (sq 0)), c0), ((iv (bq 1)), (iv (sq 1)), c1), ((iv (bq 2)), (iv (sq 2)), c2), ((iv (bq 3)), (iv (sq 3)), c3)) h (by rw [e9]; exact ⟨rfl, ⟨⟨rfl, rfl, hR, hI, hr9⟩, hK, hF1, hT, hB⟩⟩) dX4_copy_53
  · refine lv_aload X.1 X.2.1 dX4_copy_39 (lv_at hl 0 rfl) ?_
    refine z_pi (run_V (rest := []) X (st_sing (st_in (st_in (st_in (st_in (st_in (st_in (st_in (st_in (st_nil h)))))))))) (c_X0_isMissing (y := q 3) (bt := bq 3) ⟨by omega, by omega⟩) mi_X0_isMissing ml_X4_193 ⟨Nat.le_of_ble_eq_true rfl, Nat.le_of_ble_eq_true rfl⟩ ⟨rfl, rfl⟩ (Seg.mk' _ _) 0 41 rfl rfl rfl rfl hl.1 rfl (Nat.le_of_ble_eq_true rfl) ⟨Nat.zero_le _, Nat.zero_le _⟩ dX4_copy_41) ?_
    refine z_ifb_eq (tgt := 54) X dX4_copy_44 (by decide) (fun c_44 => ?_) (fun c_44 => ?_)
    · refine lv_aload X.1 X.2.1 dX4_copy_54 (lv_at hl 1 rfl) ?_
      refine z_get X h 0 35 0 rfl inX0 rfl (by decide) fl_X4_206 rfl dX4_copy_56 ?_
      refine lv_aload X.1 X.2.1 dX4_copy_59 (lv_at hl 0 rfl) ?_
      refine z_get X h 0 41 0 rfl inX0 rfl (by decide) fl_X4_206 rfl dX4_copy_61 ?_
      refine z_ic_eq (tgt := 74) X ⟨by omega, by omega⟩ ⟨by omega, by omega⟩ dX4_copy_64 (by decide) (fun c_64 => ?_) (fun c_64 => ?_)
      · refine lv_aload X.1 X.2.1 dX4_copy_74 (lv_at hl 1 rfl) ?_
        refine lv_iload_n X.1 X.2.1 dX4_copy_76 rfl (lv_at hl 4 rfl) ?_
        refine lv_iload X.1 X.2.1 dX4_copy_77 (lv_at hl 7 rfl) ?_
        refine z_pi (run_V (rest := []) X (st_sing (st_in (st_in (st_in (st_in (st_in (st_nil h))))))) (c_X0_has (y := q 0) (sz := sq 0) (fr := pf) (n9 := pn) (by omega) (by omega) r_pf r_pn) mi_X0_has ml_X4_209 ⟨Nat.le_of_ble_eq_true rfl, Nat.le_of_ble_eq_true rfl⟩ ⟨rfl, rfl⟩ (Seg.mk' _ _) 0 35 rfl rfl rfl rfl hl.1 rfl (Nat.le_of_ble_eq_true rfl) ⟨Nat.zero_le _, Nat.zero_le _⟩ dX4_copy_79) ?_
        refine z_ifb_eq (tgt := 97) X dX4_copy_82 (by decide) (fun c_82 => ?_) (fun c_82 => ?_)
        · refine lv_aload_n X.1 X.2.1 dX4_copy_97 rfl (lv_at hl 2 rfl) ?_
          refine z_ldc (z := (-1000000001)) X ct_X4_48 (by decide) dX4_copy_98 ?_
          refine z_wi (st_sing (st_nil h)) (run_V (rest := []) X (st_sing (st_nil h)) (c_X4_finding (j := 0) hF (by decide) (by decide) (by decide)) mi_X4_finding ml_X4_49 ⟨Nat.le_of_ble_eq_true rfl, Nat.le_of_ble_eq_true rfl⟩ ⟨rfl, rfl⟩ (Seg.mk' _ _) 3 0 rfl rfl rfl rfl hl.1 rfl (Nat.le_of_ble_eq_true rfl) ⟨Nat.zero_le _, Nat.zero_le _⟩ dX4_copy_100) (fun _ => map_app (wO_map _ _ _ _ _ _ _ _ _ _ _) rfl) (fun r fd2 H locs hp h => ?_)
          have h := (st_lin (st_gnis h))
          obtain ⟨rfl, hF2⟩ := hp
          have h : St E _ s H locs (wO E a k b t x q ((iv (ik))) fd2 ++ (wS E k ((hk)) ((nk)) (k1, k2, k3, k4, k5, k6, k7, k8, k9) ++ (wS E b ((iv (hr A))) ((iv (pe A))) (xs, xi, xk, xc, xl, xr, xb, yl, yr) ++ (wS E t ((ht)) ((nt)) (t1, t2, t3, t4, t5, t6, t7, t8, t9) ++ (wX E x ((iv (tn))) ((e1)) ((e2)) ((e3)) ((e4)) tp ++ (wH E (q 0) ((iv (bq 0))) ((iv (sq 0))) c0 ++ (wH E (q 1) ((iv (bq 1))) ((iv (sq 1))) c1 ++ (wH E (q 2) ((iv (bq 2))) ((iv (sq 2))) c2 ++ (wH E (q 3) ((iv (bq 3))) ((iv (sq 3))) c3 ++ []))))))))) := h
          have e9 : q_copy bq sq cq ph 0 pf 3 po pn = ((-1000000001), cq, (bump ph 0)) := by first | (unfold q_copy; (repeat (first | rw [if_pos (by omega)] | rw [if_neg (by omega)])); first | done | rfl) | (exfalso; omega)
          exact ret _ _ _ _ _ (((iv (ik)), fd2), ((hk), (nk), (k1, k2, k3, k4, k5, k6, k7, k8, k9)), ((iv (hr A)), (iv (pe A)), (xs, xi, xk, xc, xl, xr, xb, yl, yr)), ((ht), (nt), (t1, t2, t3, t4, t5, t6, t7, t8, t9)), ((iv (tn)), (e1), (e2), (e3), (e4), tp), ((iv (bq 0)), (iv (sq 0)), c0), ((iv (bq 1)), (iv (sq 1)), c1), ((iv (bq 2)), (iv (sq 2)), c2), ((iv (bq 3)), (iv (sq 3)), c3)) h (by rw [e9]; exact ⟨rfl, ⟨⟨rfl, rfl, hR, hI, hr9⟩, hK, hF2, hT, hB⟩⟩) dX4_copy_103
        · refine lv_aload X.1 X.2.1 dX4_copy_85 (lv_at hl 0 rfl) ?_
          refine lv_iload X.1 X.2.1 dX4_copy_87 (lv_at hl 6 rfl) ?_
          refine lv_iload X.1 X.2.1 dX4_copy_89 (lv_at hl 7 rfl) ?_
          refine z_pi (run_V (rest := []) X (st_sing (st_in (st_in (st_in (st_in (st_in (st_in (st_in (st_in (st_nil h)))))))))) (c_X0_has (y := q 3) (sz := sq 3) (fr := po) (n9 := pn) (by omega) (by omega) r_po r_pn) mi_X0_has ml_X4_209 ⟨Nat.le_of_ble_eq_true rfl, Nat.le_of_ble_eq_true rfl⟩ ⟨rfl, rfl⟩ (Seg.mk' _ _) 0 41 rfl rfl rfl rfl hl.1 rfl (Nat.le_of_ble_eq_true rfl) ⟨Nat.zero_le _, Nat.zero_le _⟩ dX4_copy_91) ?_
          refine z_ifb_ne (tgt := 104) X dX4_copy_94 (by decide) (fun c_94 => ?_) (fun c_94 => ?_)
          · refine lv_aload X.1 X.2.1 dX4_copy_104 (lv_at hl 1 rfl) ?_
            refine z_get X h 0 35 2 rfl inX0 rfl (by decide) fl_X4_198 rfl dX4_copy_106 ?_
            refine lv_iload_n X.1 X.2.1 dX4_copy_109 rfl (lv_at hl 4 rfl) ?_
            refine lv_aload X.1 X.2.1 dX4_copy_110 (lv_at hl 0 rfl) ?_
            refine z_get X h 0 41 2 rfl inX0 rfl (by decide) fl_X4_198 rfl dX4_copy_112 ?_
            refine lv_iload X.1 X.2.1 dX4_copy_115 (lv_at hl 6 rfl) ?_
            refine lv_iload X.1 X.2.1 dX4_copy_117 (lv_at hl 7 rfl) ?_
            refine s_copyl X (st_in (st_in (st_in (st_in (st_in (st_in (st_in (st_in (st_nil h))))))))) rfl 36 1 rfl rfl ml_X4_212 (by omega) (by omega) (by omega) (by omega) (by omega) (by decide) (by decide) hl.1 (Nat.le_of_ble_eq_true rfl) (Nat.le_of_ble_eq_true rfl) dX4_copy_119 (fun H locs h => ?_)
            have h := (st_lin (st_out (st_out (st_out (st_out (st_out (st_out (st_out (st_out (st_eq wH_numbers h))))))))))
            have h : St E _ s H locs (wO E a k b t x q ((iv (ik))) fd ++ (wS E k ((hk)) ((nk)) (k1, k2, k3, k4, k5, k6, k7, k8, k9) ++ (wS E b ((iv (hr A))) ((iv (pe A))) (xs, xi, xk, xc, xl, xr, xb, yl, yr) ++ (wS E t ((ht)) ((nt)) (t1, t2, t3, t4, t5, t6, t7, t8, t9) ++ (wX E x ((iv (tn))) ((e1)) ((e2)) ((e3)) ((e4)) tp ++ (wH E (q 0) ((iv (bq 0))) ((iv (sq 0))) c0 ++ (wH E (q 1) ((iv (bq 1))) ((iv (sq 1))) c1 ++ (wH E (q 2) ((iv (bq 2))) ((iv (sq 2))) c2 ++ (wH E (q 3) ((iv (bq 3))) ((iv (sq 3))) (va_cpy c0 c3 (pf : Int).toNat (po : Int).toNat (pn : Int).toNat) ++ []))))))))) := h
            refine lv_iload X.1 X.2.1 dX4_copy_122 (lv_at hl 7 rfl) ?_
            have e9 : q_copy bq sq cq ph 0 pf 3 po pn = (pn, (cpy cq 0 pf 3 po 0 pn), ph) := by first | (unfold q_copy; (repeat (first | rw [if_pos (by omega)] | rw [if_neg (by omega)])); first | done | rfl) | (exfalso; omega)
            exact ret _ _ _ _ _ (((iv (ik)), fd), ((hk), (nk), (k1, k2, k3, k4, k5, k6, k7, k8, k9)), ((iv (hr A)), (iv (pe A)), (xs, xi, xk, xc, xl, xr, xb, yl, yr)), ((ht), (nt), (t1, t2, t3, t4, t5, t6, t7, t8, t9)), ((iv (tn)), (e1), (e2), (e3), (e4), tp), ((iv (bq 0)), (iv (sq 0)), c0), ((iv (bq 1)), (iv (sq 1)), c1), ((iv (bq 2)), (iv (sq 2)), c2), ((iv (bq 3)), (iv (sq 3)), (va_cpy c0 c3 (pf : Int).toNat (po : Int).toNat (pn : Int).toNat))) h (by rw [e9]; exact ⟨rfl, ⟨⟨rfl, rfl, hR, hI, hr9⟩, hK, hF, hT, ⟨hB3, RepH_cn hH0 (by decide), RepH_cn hH1 (by decide), RepH_cn hH2 (by decide), RepH_cp hH0 hH3 (by omega) (by omega) (by omega) (by omega)⟩⟩⟩) dX4_copy_124
          · refine lv_aload_n X.1 X.2.1 dX4_copy_97 rfl (lv_at hl 2 rfl) ?_
            refine z_ldc (z := (-1000000001)) X ct_X4_48 (by decide) dX4_copy_98 ?_
            refine z_wi (st_sing (st_nil h)) (run_V (rest := []) X (st_sing (st_nil h)) (c_X4_finding (j := 0) hF (by decide) (by decide) (by decide)) mi_X4_finding ml_X4_49 ⟨Nat.le_of_ble_eq_true rfl, Nat.le_of_ble_eq_true rfl⟩ ⟨rfl, rfl⟩ (Seg.mk' _ _) 3 0 rfl rfl rfl rfl hl.1 rfl (Nat.le_of_ble_eq_true rfl) ⟨Nat.zero_le _, Nat.zero_le _⟩ dX4_copy_100) (fun _ => map_app (wO_map _ _ _ _ _ _ _ _ _ _ _) rfl) (fun r fd3 H locs hp h => ?_)
            have h := (st_lin (st_gnis h))
            obtain ⟨rfl, hF3⟩ := hp
            have h : St E _ s H locs (wO E a k b t x q ((iv (ik))) fd3 ++ (wS E k ((hk)) ((nk)) (k1, k2, k3, k4, k5, k6, k7, k8, k9) ++ (wS E b ((iv (hr A))) ((iv (pe A))) (xs, xi, xk, xc, xl, xr, xb, yl, yr) ++ (wS E t ((ht)) ((nt)) (t1, t2, t3, t4, t5, t6, t7, t8, t9) ++ (wX E x ((iv (tn))) ((e1)) ((e2)) ((e3)) ((e4)) tp ++ (wH E (q 0) ((iv (bq 0))) ((iv (sq 0))) c0 ++ (wH E (q 1) ((iv (bq 1))) ((iv (sq 1))) c1 ++ (wH E (q 2) ((iv (bq 2))) ((iv (sq 2))) c2 ++ (wH E (q 3) ((iv (bq 3))) ((iv (sq 3))) c3 ++ []))))))))) := h
            have e9 : q_copy bq sq cq ph 0 pf 3 po pn = ((-1000000001), cq, (bump ph 0)) := by first | (unfold q_copy; (repeat (first | rw [if_pos (by omega)] | rw [if_neg (by omega)])); first | done | rfl) | (exfalso; omega)
            exact ret _ _ _ _ _ (((iv (ik)), fd3), ((hk), (nk), (k1, k2, k3, k4, k5, k6, k7, k8, k9)), ((iv (hr A)), (iv (pe A)), (xs, xi, xk, xc, xl, xr, xb, yl, yr)), ((ht), (nt), (t1, t2, t3, t4, t5, t6, t7, t8, t9)), ((iv (tn)), (e1), (e2), (e3), (e4), tp), ((iv (bq 0)), (iv (sq 0)), c0), ((iv (bq 1)), (iv (sq 1)), c1), ((iv (bq 2)), (iv (sq 2)), c2), ((iv (bq 3)), (iv (sq 3)), c3)) h (by rw [e9]; exact ⟨rfl, ⟨⟨rfl, rfl, hR, hI, hr9⟩, hK, hF3, hT, hB⟩⟩) dX4_copy_103
      · refine lv_aload_n X.1 X.2.1 dX4_copy_67 rfl (lv_at hl 2 rfl) ?_
        refine z_ldc (z := (-1000000003)) X ct_X4_127 (by decide) dX4_copy_68 ?_
        refine z_wi (st_sing (st_nil h)) (run_V (rest := []) X (st_sing (st_nil h)) (c_X4_finding (j := 2) hF (by decide) (by decide) (by decide)) mi_X4_finding ml_X4_49 ⟨Nat.le_of_ble_eq_true rfl, Nat.le_of_ble_eq_true rfl⟩ ⟨rfl, rfl⟩ (Seg.mk' _ _) 3 0 rfl rfl rfl rfl hl.1 rfl (Nat.le_of_ble_eq_true rfl) ⟨Nat.zero_le _, Nat.zero_le _⟩ dX4_copy_70) (fun _ => map_app (wO_map _ _ _ _ _ _ _ _ _ _ _) rfl) (fun r fd4 H locs hp h => ?_)
        have h := (st_lin (st_gnis h))
        obtain ⟨rfl, hF4⟩ := hp
        have h : St E _ s H locs (wO E a k b t x q ((iv (ik))) fd4 ++ (wS E k ((hk)) ((nk)) (k1, k2, k3, k4, k5, k6, k7, k8, k9) ++ (wS E b ((iv (hr A))) ((iv (pe A))) (xs, xi, xk, xc, xl, xr, xb, yl, yr) ++ (wS E t ((ht)) ((nt)) (t1, t2, t3, t4, t5, t6, t7, t8, t9) ++ (wX E x ((iv (tn))) ((e1)) ((e2)) ((e3)) ((e4)) tp ++ (wH E (q 0) ((iv (bq 0))) ((iv (sq 0))) c0 ++ (wH E (q 1) ((iv (bq 1))) ((iv (sq 1))) c1 ++ (wH E (q 2) ((iv (bq 2))) ((iv (sq 2))) c2 ++ (wH E (q 3) ((iv (bq 3))) ((iv (sq 3))) c3 ++ []))))))))) := h
        have e9 : q_copy bq sq cq ph 0 pf 3 po pn = ((-1000000003), cq, (bump ph 2)) := by first | (unfold q_copy; (repeat (first | rw [if_pos (by omega)] | rw [if_neg (by omega)])); first | done | rfl) | (exfalso; omega)
        exact ret _ _ _ _ _ (((iv (ik)), fd4), ((hk), (nk), (k1, k2, k3, k4, k5, k6, k7, k8, k9)), ((iv (hr A)), (iv (pe A)), (xs, xi, xk, xc, xl, xr, xb, yl, yr)), ((ht), (nt), (t1, t2, t3, t4, t5, t6, t7, t8, t9)), ((iv (tn)), (e1), (e2), (e3), (e4), tp), ((iv (bq 0)), (iv (sq 0)), c0), ((iv (bq 1)), (iv (sq 1)), c1), ((iv (bq 2)), (iv (sq 2)), c2), ((iv (bq 3)), (iv (sq 3)), c3)) h (by rw [e9]; exact ⟨rfl, ⟨⟨rfl, rfl, hR, hI, hr9⟩, hK, hF4, hT, hB⟩⟩) dX4_copy_73
    · refine lv_aload_n X.1 X.2.1 dX4_copy_47 rfl (lv_at hl 2 rfl) ?_
      refine z_ldc (z := (-1000000006)) X ct_X4_197 (by decide) dX4_copy_48 ?_
      refine z_wi (st_sing (st_nil h)) (run_V (rest := []) X (st_sing (st_nil h)) (c_X4_finding (j := 5) hF (by decide) (by decide) (by decide)) mi_X4_finding ml_X4_49 ⟨Nat.le_of_ble_eq_true rfl, Nat.le_of_ble_eq_true rfl⟩ ⟨rfl, rfl⟩ (Seg.mk' _ _) 3 0 rfl rfl rfl rfl hl.1 rfl (Nat.le_of_ble_eq_true rfl) ⟨Nat.zero_le _, Nat.zero_le _⟩ dX4_copy_50) (fun _ => map_app (wO_map _ _ _ _ _ _ _ _ _ _ _) rfl) (fun r fd5 H locs hp h => ?_)
      have h := (st_lin (st_gnis h))
      obtain ⟨rfl, hF5⟩ := hp
      have h : St E _ s H locs (wO E a k b t x q ((iv (ik))) fd5 ++ (wS E k ((hk)) ((nk)) (k1, k2, k3, k4, k5, k6, k7, k8, k9) ++ (wS E b ((iv (hr A))) ((iv (pe A))) (xs, xi, xk, xc, xl, xr, xb, yl, yr) ++ (wS E t ((ht)) ((nt)) (t1, t2, t3, t4, t5, t6, t7, t8, t9) ++ (wX E x ((iv (tn))) ((e1)) ((e2)) ((e3)) ((e4)) tp ++ (wH E (q 0) ((iv (bq 0))) ((iv (sq 0))) c0 ++ (wH E (q 1) ((iv (bq 1))) ((iv (sq 1))) c1 ++ (wH E (q 2) ((iv (bq 2))) ((iv (sq 2))) c2 ++ (wH E (q 3) ((iv (bq 3))) ((iv (sq 3))) c3 ++ []))))))))) := h
      have e9 : q_copy bq sq cq ph 0 pf 3 po pn = ((-1000000006), cq, (bump ph 5)) := by first | (unfold q_copy; (repeat (first | rw [if_pos (by omega)] | rw [if_neg (by omega)])); first | done | rfl) | (exfalso; omega)
      exact ret _ _ _ _ _ (((iv (ik)), fd5), ((hk), (nk), (k1, k2, k3, k4, k5, k6, k7, k8, k9)), ((iv (hr A)), (iv (pe A)), (xs, xi, xk, xc, xl, xr, xb, yl, yr)), ((ht), (nt), (t1, t2, t3, t4, t5, t6, t7, t8, t9)), ((iv (tn)), (e1), (e2), (e3), (e4), tp), ((iv (bq 0)), (iv (sq 0)), c0), ((iv (bq 1)), (iv (sq 1)), c1), ((iv (bq 2)), (iv (sq 2)), c2), ((iv (bq 3)), (iv (sq 3)), c3)) h (by rw [e9]; exact ⟨rfl, ⟨⟨rfl, rfl, hR, hI, hr9⟩, hK, hF5, hT, hB⟩⟩) dX4_copy_53

set_option maxHeartbeats 4000000 in
theorem c_X4_copy_0_N (hS : RepC (((iv (ik)), fd), ((hk), (nk), (k1, k2, k3, k4, k5, k6, k7, k8, k9)), ((iv (hr A)), (iv (pe A)), (xs, xi, xk, xc, xl, xr, xb, yl, yr)), ((ht), (nt), (t1, t2, t3, t4, t5, t6, t7, t8, t9)), ((iv (tn)), (e1), (e2), (e3), (e4), tp), ((iv (bq 0)), (iv (sq 0)), c0), ((iv (bq 1)), (iv (sq 1)), c1), ((iv (bq 2)), (iv (sq 2)), c2), ((iv (bq 3)), (iv (sq 3)), c3)) (A, K, ik, ph, tq, tn, bq, sq, cq)) {pf : Int} (r_pf : r32 pf) {pt : Int} (r_pt : r32 pt) {po : Int} (r_po : r32 po) {pn : Int} (r_pn : r32 pn) (hot : pt < 0 ∨ 3 < pt) : MI (S := Tc) E l yX4_copy cX4_copy 8 (some FieldType.int) (rmk 2 44) (wO E a k b t x q ((iv (ik))) fd ++ (wS E k ((hk)) ((nk)) (k1, k2, k3, k4, k5, k6, k7, k8, k9) ++ (wS E b ((iv (hr A))) ((iv (pe A))) (xs, xi, xk, xc, xl, xr, xb, yl, yr) ++ (wS E t ((ht)) ((nt)) (t1, t2, t3, t4, t5, t6, t7, t8, t9) ++ (wX E x ((iv (tn))) ((e1)) ((e2)) ((e3)) ((e4)) tp ++ (wH E (q 0) ((iv (bq 0))) ((iv (sq 0))) c0 ++ (wH E (q 1) ((iv (bq 1))) ((iv (sq 1))) c1 ++ (wH E (q 2) ((iv (bq 2))) ((iv (sq 2))) c2 ++ (wH E (q 3) ((iv (bq 3))) ((iv (sq 3))) c3 ++ []))))))))) [.ref (a 0), .int (iv (0)), .int (iv (pf)), .int (iv (pt)), .int (iv (po)), .int (iv (pn))] (fun r u => r = iv ((q_copy bq sq cq ph 0 pf pt po pn).1) ∧ RepC u (A, K, ik, (q_copy bq sq cq ph 0 pf pt po pn).2.2, tq, tn, bq, sq, (q_copy bq sq cq ph 0 pf pt po pn).2.1)) (fun u => wT E a k b t x q u) := by
  refine goI (S := Tc) (post := fun r u => r = iv ((q_copy bq sq cq ph 0 pf pt po pn).1) ∧ RepC u (A, K, ik, (q_copy bq sq cq ph 0 pf pt po pn).2.2, tq, tn, bq, sq, (q_copy bq sq cq ph 0 pf pt po pn).2.1)) (ws' := fun u => wT E a k b t x q u) (by decide) (Nat.le_of_ble_eq_true rfl) ?_
  intro pp e s m below meth c ls args Q ret X h hl
  have hl : lv_has ls 8 [(0, .ref (a 0)), (1, .int (iv (0))), (2, .int (iv (pf))), (3, .int (iv (pt))), (4, .int (iv (po))), (5, .int (iv (pn)))] := hl
  have hR : RS (xs, xi, xk, xc, xl, xr, xb, yl, yr) A := hS.1.2.2.1
  have hI : IA A := hS.1.2.2.2.1
  have hr9 : hr A ≤ 99999 := hS.1.2.2.2.2
  have hF : RF 7 fd ph := hS.2.2.1
  have hK := hS.2.1
  have hT := hS.2.2.2.1
  have hB := hS.2.2.2.2
  have hh : hr A < 1000000 := by omega
  have n8 := hI.n8
  have n0 := hI.n0
  have h0 := hI.h0
  have ht0 : 0 ≤ tn := hS.2.2.2.1.2.1
  have ht1 : tn ≤ 120 := hS.2.2.2.1.2.2.1
  have hk01 : ik = 0 ∨ ik = 1 := hS.2.1.2.1
  have hB3 : okB bq sq := hS.2.2.2.2.1
  have hH0 : RepH (iv (bq 0), iv (sq 0), c0) bq sq cq 0 := hS.2.2.2.2.2.1
  have hH1 : RepH (iv (bq 1), iv (sq 1), c1) bq sq cq 1 := hS.2.2.2.2.2.2.1
  have hH2 : RepH (iv (bq 2), iv (sq 2), c2) bq sq cq 2 := hS.2.2.2.2.2.2.2.1
  have hH3 : RepH (iv (bq 3), iv (sq 3), c3) bq sq cq 3 := hS.2.2.2.2.2.2.2.2
  have ob0 := hB3.1 0 (by omega) (by omega)
  have zb0 := hB3.2 0 (by omega) (by omega)
  have q2 := r_pf.1
  have q22 := r_pf.2
  have q4 := r_po.1
  have q42 := r_po.2
  have q5 := r_pn.1
  have q52 := r_pn.2
  refine lv_aload_n X.1 X.2.1 dX4_copy_0 rfl (lv_at hl 0 rfl) ?_
  refine lv_iload_n X.1 X.2.1 dX4_copy_1 rfl (lv_at hl 1 rfl) ?_
  refine z_pq (run_V (rest := []) X h (c_sheetAt0) mi_X4_sheetAt ml_X4_184 ⟨Nat.le_of_ble_eq_true rfl, Nat.le_of_ble_eq_true rfl⟩ ⟨rfl, rfl⟩ (Seg.rfl' _) 3 0 rfl rfl rfl rfl hl.1 rfl (Nat.le_of_ble_eq_true rfl) ⟨Nat.zero_le _, Nat.zero_le _⟩ dX4_copy_2) ?_
  refine W.eq (g2 := F0 m 5 ls [.ref (q 0 0)]) rfl ?_
  refine lv_astore (lv' := [(6, .ref (q 0 0)), (0, .ref (a 0)), (1, .int (iv (0))), (2, .int (iv (pf))), (3, .int (iv (pt))), (4, .int (iv (po))), (5, .int (iv (pn)))]) X.1 X.2.1 dX4_copy_5 hl (by decide) rfl (fun ls hl => ?_)
  refine lv_aload_n X.1 X.2.1 dX4_copy_7 rfl (lv_at hl 1 rfl) ?_
  refine lv_iload_n X.1 X.2.1 dX4_copy_8 rfl (lv_at hl 4 rfl) ?_
  refine z_pq (run_V (rest := []) X h (c_sheetAtN (s9 := pt) r_pt (by omega)) mi_X4_sheetAt ml_X4_184 ⟨Nat.le_of_ble_eq_true rfl, Nat.le_of_ble_eq_true rfl⟩ ⟨rfl, rfl⟩ (Seg.rfl' _) 3 0 rfl rfl rfl rfl hl.1 rfl (Nat.le_of_ble_eq_true rfl) ⟨Nat.zero_le _, Nat.zero_le _⟩ dX4_copy_9) ?_
  refine W.eq (g2 := F0 m 12 ls [.null]) rfl ?_
  refine lv_astoreN (lv' := [(7, .null), (6, .ref (q 0 0)), (0, .ref (a 0)), (1, .int (iv (0))), (2, .int (iv (pf))), (3, .int (iv (pt))), (4, .int (iv (po))), (5, .int (iv (pn)))]) X.1 X.2.1 dX4_copy_12 hl (by decide) rfl (fun ls hl => ?_)
  refine lv_aload X.1 X.2.1 dX4_copy_14 (lv_at hl 1 rfl) ?_
  refine lv_ifnull X.1 X.2.1 dX4_copy_16 ?_
  refine lv_aloadN X.1 X.2.1 dX4_copy_19 (lv_at hl 0 rfl) ?_
  refine lv_ifnonnullN X.1 X.2.1 dX4_copy_21 ?_
  refine lv_aload_n X.1 X.2.1 dX4_copy_24 rfl (lv_at hl 2 rfl) ?_
  refine z_ldc (z := (-1000000001)) X ct_X4_48 (by decide) dX4_copy_25 ?_
  refine z_wi (st_sing (st_nil h)) (run_V (rest := []) X (st_sing (st_nil h)) (c_X4_finding (j := 0) hF (by decide) (by decide) (by decide)) mi_X4_finding ml_X4_49 ⟨Nat.le_of_ble_eq_true rfl, Nat.le_of_ble_eq_true rfl⟩ ⟨rfl, rfl⟩ (Seg.mk' _ _) 3 0 rfl rfl rfl rfl hl.1 rfl (Nat.le_of_ble_eq_true rfl) ⟨Nat.zero_le _, Nat.zero_le _⟩ dX4_copy_27) (fun _ => map_app (wO_map _ _ _ _ _ _ _ _ _ _ _) rfl) (fun r fd1 H locs hp h => ?_)
  have h := (st_lin (st_gnis h))
  obtain ⟨rfl, hF1⟩ := hp
  have h : St E _ s H locs (wO E a k b t x q ((iv (ik))) fd1 ++ (wS E k ((hk)) ((nk)) (k1, k2, k3, k4, k5, k6, k7, k8, k9) ++ (wS E b ((iv (hr A))) ((iv (pe A))) (xs, xi, xk, xc, xl, xr, xb, yl, yr) ++ (wS E t ((ht)) ((nt)) (t1, t2, t3, t4, t5, t6, t7, t8, t9) ++ (wX E x ((iv (tn))) ((e1)) ((e2)) ((e3)) ((e4)) tp ++ (wH E (q 0) ((iv (bq 0))) ((iv (sq 0))) c0 ++ (wH E (q 1) ((iv (bq 1))) ((iv (sq 1))) c1 ++ (wH E (q 2) ((iv (bq 2))) ((iv (sq 2))) c2 ++ (wH E (q 3) ((iv (bq 3))) ((iv (sq 3))) c3 ++ []))))))))) := h
  have e9 : q_copy bq sq cq ph 0 pf pt po pn = ((-1000000001), cq, (bump ph 0)) := by first | (unfold q_copy; (repeat (first | rw [if_pos (by omega)] | rw [if_neg (by omega)])); first | done | rfl) | (exfalso; omega)
  exact ret _ _ _ _ _ (((iv (ik)), fd1), ((hk), (nk), (k1, k2, k3, k4, k5, k6, k7, k8, k9)), ((iv (hr A)), (iv (pe A)), (xs, xi, xk, xc, xl, xr, xb, yl, yr)), ((ht), (nt), (t1, t2, t3, t4, t5, t6, t7, t8, t9)), ((iv (tn)), (e1), (e2), (e3), (e4), tp), ((iv (bq 0)), (iv (sq 0)), c0), ((iv (bq 1)), (iv (sq 1)), c1), ((iv (bq 2)), (iv (sq 2)), c2), ((iv (bq 3)), (iv (sq 3)), c3)) h (by rw [e9]; exact ⟨rfl, ⟨⟨rfl, rfl, hR, hI, hr9⟩, hK, hF1, hT, hB⟩⟩) dX4_copy_30

set_option maxHeartbeats 4000000 in
theorem c_X4_copy_1_0 (hS : RepC (((iv (ik)), fd), ((hk), (nk), (k1, k2, k3, k4, k5, k6, k7, k8, k9)), ((iv (hr A)), (iv (pe A)), (xs, xi, xk, xc, xl, xr, xb, yl, yr)), ((ht), (nt), (t1, t2, t3, t4, t5, t6, t7, t8, t9)), ((iv (tn)), (e1), (e2), (e3), (e4), tp), ((iv (bq 0)), (iv (sq 0)), c0), ((iv (bq 1)), (iv (sq 1)), c1), ((iv (bq 2)), (iv (sq 2)), c2), ((iv (bq 3)), (iv (sq 3)), c3)) (A, K, ik, ph, tq, tn, bq, sq, cq)) {pf : Int} (r_pf : r32 pf) {po : Int} (r_po : r32 po) {pn : Int} (r_pn : r32 pn) : MI (S := Tc) E l yX4_copy cX4_copy 8 (some FieldType.int) (rmk 2 44) (wO E a k b t x q ((iv (ik))) fd ++ (wS E k ((hk)) ((nk)) (k1, k2, k3, k4, k5, k6, k7, k8, k9) ++ (wS E b ((iv (hr A))) ((iv (pe A))) (xs, xi, xk, xc, xl, xr, xb, yl, yr) ++ (wS E t ((ht)) ((nt)) (t1, t2, t3, t4, t5, t6, t7, t8, t9) ++ (wX E x ((iv (tn))) ((e1)) ((e2)) ((e3)) ((e4)) tp ++ (wH E (q 0) ((iv (bq 0))) ((iv (sq 0))) c0 ++ (wH E (q 1) ((iv (bq 1))) ((iv (sq 1))) c1 ++ (wH E (q 2) ((iv (bq 2))) ((iv (sq 2))) c2 ++ (wH E (q 3) ((iv (bq 3))) ((iv (sq 3))) c3 ++ []))))))))) [.ref (a 0), .int (iv (1)), .int (iv (pf)), .int (iv (0)), .int (iv (po)), .int (iv (pn))] (fun r u => r = iv ((q_copy bq sq cq ph 1 pf 0 po pn).1) ∧ RepC u (A, K, ik, (q_copy bq sq cq ph 1 pf 0 po pn).2.2, tq, tn, bq, sq, (q_copy bq sq cq ph 1 pf 0 po pn).2.1)) (fun u => wT E a k b t x q u) := by
  refine goI (S := Tc) (post := fun r u => r = iv ((q_copy bq sq cq ph 1 pf 0 po pn).1) ∧ RepC u (A, K, ik, (q_copy bq sq cq ph 1 pf 0 po pn).2.2, tq, tn, bq, sq, (q_copy bq sq cq ph 1 pf 0 po pn).2.1)) (ws' := fun u => wT E a k b t x q u) (by decide) (Nat.le_of_ble_eq_true rfl) ?_
  intro pp e s m below meth c ls args Q ret X h hl
  have hl : lv_has ls 8 [(0, .ref (a 0)), (1, .int (iv (1))), (2, .int (iv (pf))), (3, .int (iv (0))), (4, .int (iv (po))), (5, .int (iv (pn)))] := hl
  have hR : RS (xs, xi, xk, xc, xl, xr, xb, yl, yr) A := hS.1.2.2.1
  have hI : IA A := hS.1.2.2.2.1
  have hr9 : hr A ≤ 99999 := hS.1.2.2.2.2
  have hF : RF 7 fd ph := hS.2.2.1
  have hK := hS.2.1
  have hT := hS.2.2.2.1
  have hB := hS.2.2.2.2
  have hh : hr A < 1000000 := by omega
  have n8 := hI.n8
  have n0 := hI.n0
  have h0 := hI.h0
  have ht0 : 0 ≤ tn := hS.2.2.2.1.2.1
  have ht1 : tn ≤ 120 := hS.2.2.2.1.2.2.1
  have hk01 : ik = 0 ∨ ik = 1 := hS.2.1.2.1
  have hB3 : okB bq sq := hS.2.2.2.2.1
  have hH0 : RepH (iv (bq 0), iv (sq 0), c0) bq sq cq 0 := hS.2.2.2.2.2.1
  have hH1 : RepH (iv (bq 1), iv (sq 1), c1) bq sq cq 1 := hS.2.2.2.2.2.2.1
  have hH2 : RepH (iv (bq 2), iv (sq 2), c2) bq sq cq 2 := hS.2.2.2.2.2.2.2.1
  have hH3 : RepH (iv (bq 3), iv (sq 3), c3) bq sq cq 3 := hS.2.2.2.2.2.2.2.2
  have ob1 := hB3.1 1 (by omega) (by omega)
  have zb1 := hB3.2 1 (by omega) (by omega)
  have ob0 := hB3.1 0 (by omega) (by omega)
  have zb0 := hB3.2 0 (by omega) (by omega)
  have q2 := r_pf.1
  have q22 := r_pf.2
  have q4 := r_po.1
  have q42 := r_po.2
  have q5 := r_pn.1
  have q52 := r_pn.2
  refine lv_aload_n X.1 X.2.1 dX4_copy_0 rfl (lv_at hl 0 rfl) ?_
  refine lv_iload_n X.1 X.2.1 dX4_copy_1 rfl (lv_at hl 1 rfl) ?_
  refine z_pq (run_V (rest := []) X h (c_sheetAt1) mi_X4_sheetAt ml_X4_184 ⟨Nat.le_of_ble_eq_true rfl, Nat.le_of_ble_eq_true rfl⟩ ⟨rfl, rfl⟩ (Seg.rfl' _) 3 0 rfl rfl rfl rfl hl.1 rfl (Nat.le_of_ble_eq_true rfl) ⟨Nat.zero_le _, Nat.zero_le _⟩ dX4_copy_2) ?_
  refine W.eq (g2 := F0 m 5 ls [.ref (q 1 0)]) rfl ?_
  refine lv_astore (lv' := [(6, .ref (q 1 0)), (0, .ref (a 0)), (1, .int (iv (1))), (2, .int (iv (pf))), (3, .int (iv (0))), (4, .int (iv (po))), (5, .int (iv (pn)))]) X.1 X.2.1 dX4_copy_5 hl (by decide) rfl (fun ls hl => ?_)
  refine lv_aload_n X.1 X.2.1 dX4_copy_7 rfl (lv_at hl 1 rfl) ?_
  refine lv_iload_n X.1 X.2.1 dX4_copy_8 rfl (lv_at hl 4 rfl) ?_
  refine z_pq (run_V (rest := []) X h (c_sheetAt0) mi_X4_sheetAt ml_X4_184 ⟨Nat.le_of_ble_eq_true rfl, Nat.le_of_ble_eq_true rfl⟩ ⟨rfl, rfl⟩ (Seg.rfl' _) 3 0 rfl rfl rfl rfl hl.1 rfl (Nat.le_of_ble_eq_true rfl) ⟨Nat.zero_le _, Nat.zero_le _⟩ dX4_copy_9) ?_
  refine W.eq (g2 := F0 m 12 ls [.ref (q 0 0)]) rfl ?_
  refine lv_astore (lv' := [(7, .ref (q 0 0)), (6, .ref (q 1 0)), (0, .ref (a 0)), (1, .int (iv (1))), (2, .int (iv (pf))), (3, .int (iv (0))), (4, .int (iv (po))), (5, .int (iv (pn)))]) X.1 X.2.1 dX4_copy_12 hl (by decide) rfl (fun ls hl => ?_)
  refine lv_aload X.1 X.2.1 dX4_copy_14 (lv_at hl 1 rfl) ?_
  refine lv_ifnull X.1 X.2.1 dX4_copy_16 ?_
  refine lv_aload X.1 X.2.1 dX4_copy_19 (lv_at hl 0 rfl) ?_
  refine lv_ifnonnull (tgt := 31) X.1 X.2.1 dX4_copy_21 (by decide) ?_
  refine lv_aload X.1 X.2.1 dX4_copy_31 (lv_at hl 1 rfl) ?_
  refine z_pi (run_V (rest := []) X (st_sing (st_in (st_in (st_in (st_in (st_in (st_in (st_nil h)))))))) (c_X0_isMissing (y := q 1) (bt := bq 1) ⟨by omega, by omega⟩) mi_X0_isMissing ml_X4_193 ⟨Nat.le_of_ble_eq_true rfl, Nat.le_of_ble_eq_true rfl⟩ ⟨rfl, rfl⟩ (Seg.mk' _ _) 0 37 rfl rfl rfl rfl hl.1 rfl (Nat.le_of_ble_eq_true rfl) ⟨Nat.zero_le _, Nat.zero_le _⟩ dX4_copy_33) ?_
  refine z_ifb_ne (tgt := 47) X dX4_copy_36 (by decide) (fun c_36 => ?_) (fun c_36 => ?_)
  · refine lv_aload_n X.1 X.2.1 dX4_copy_47 rfl (lv_at hl 2 rfl) ?_
    refine z_ldc (z := (-1000000006)) X ct_X4_197 (by decide) dX4_copy_48 ?_
    refine z_wi (st_sing (st_nil h)) (run_V (rest := []) X (st_sing (st_nil h)) (c_X4_finding (j := 5) hF (by decide) (by decide) (by decide)) mi_X4_finding ml_X4_49 ⟨Nat.le_of_ble_eq_true rfl, Nat.le_of_ble_eq_true rfl⟩ ⟨rfl, rfl⟩ (Seg.mk' _ _) 3 0 rfl rfl rfl rfl hl.1 rfl (Nat.le_of_ble_eq_true rfl) ⟨Nat.zero_le _, Nat.zero_le _⟩ dX4_copy_50) (fun _ => map_app (wO_map _ _ _ _ _ _ _ _ _ _ _) rfl) (fun r fd1 H locs hp h => ?_)
    have h := (st_lin (st_gnis h))
    obtain ⟨rfl, hF1⟩ := hp
    have h : St E _ s H locs (wO E a k b t x q ((iv (ik))) fd1 ++ (wS E k ((hk)) ((nk)) (k1, k2, k3, k4, k5, k6, k7, k8, k9) ++ (wS E b ((iv (hr A))) ((iv (pe A))) (xs, xi, xk, xc, xl, xr, xb, yl, yr) ++ (wS E t ((ht)) ((nt)) (t1, t2, t3, t4, t5, t6, t7, t8, t9) ++ (wX E x ((iv (tn))) ((e1)) ((e2)) ((e3)) ((e4)) tp ++ (wH E (q 0) ((iv (bq 0))) ((iv (sq 0))) c0 ++ (wH E (q 1) ((iv (bq 1))) ((iv (sq 1))) c1 ++ (wH E (q 2) ((iv (bq 2))) ((iv (sq 2))) c2 ++ (wH E (q 3) ((iv (bq 3))) ((iv (sq 3))) c3 ++ []))))))))) := h
    have e9 : q_copy bq sq cq ph 1 pf 0 po pn = ((-1000000006), cq, (bump ph 5)) := by first | (unfold q_copy; (repeat (first | rw [if_pos (by omega)] | rw [if_neg (by omega)])); first | done | rfl) | (exfalso; omega)
    exact ret _ _ _ _ _ (((iv (ik)), fd1), ((hk), (nk), (k1, k2, k3, k4, k5, k6, k7, k8, k9)), ((iv (hr A)), (iv (pe A)), (xs, xi, xk, xc, xl, xr, xb, yl, yr)), ((ht), (nt), (t1, t2, t3, t4, t5, t6, t7, t8, t9)), ((iv (tn)), (e1), (e2), (e3), (e4), tp), ((iv (bq 0)), (iv (sq 0)), c0), ((iv (bq 1)), (iv (sq 1)), c1), ((iv (bq 2)), (iv (sq 2)), c2), ((iv (bq 3)), (iv (sq 3)), c3)) h (by rw [e9]; exact ⟨rfl, ⟨⟨rfl, rfl, hR, hI, hr9⟩, hK, hF1, hT, hB⟩⟩) dX4_copy_53
  · refine lv_aload X.1 X.2.1 dX4_copy_39 (lv_at hl 0 rfl) ?_
    refine z_pi (run_V (rest := []) X (st_sing (st_in (st_in (st_in (st_in (st_in (st_nil h))))))) (c_X0_isMissing (y := q 0) (bt := bq 0) ⟨by omega, by omega⟩) mi_X0_isMissing ml_X4_193 ⟨Nat.le_of_ble_eq_true rfl, Nat.le_of_ble_eq_true rfl⟩ ⟨rfl, rfl⟩ (Seg.mk' _ _) 0 35 rfl rfl rfl rfl hl.1 rfl (Nat.le_of_ble_eq_true rfl) ⟨Nat.zero_le _, Nat.zero_le _⟩ dX4_copy_41) ?_
    refine z_ifb_eq (tgt := 54) X dX4_copy_44 (by decide) (fun c_44 => ?_) (fun c_44 => ?_)
    · refine lv_aload X.1 X.2.1 dX4_copy_54 (lv_at hl 1 rfl) ?_
      refine z_get X h 0 37 0 rfl inX0 rfl (by decide) fl_X4_206 rfl dX4_copy_56 ?_
      refine lv_aload X.1 X.2.1 dX4_copy_59 (lv_at hl 0 rfl) ?_
      refine z_get X h 0 35 0 rfl inX0 rfl (by decide) fl_X4_206 rfl dX4_copy_61 ?_
      refine z_ic_eq (tgt := 74) X ⟨by omega, by omega⟩ ⟨by omega, by omega⟩ dX4_copy_64 (by decide) (fun c_64 => ?_) (fun c_64 => ?_)
      · refine lv_aload X.1 X.2.1 dX4_copy_74 (lv_at hl 1 rfl) ?_
        refine lv_iload_n X.1 X.2.1 dX4_copy_76 rfl (lv_at hl 4 rfl) ?_
        refine lv_iload X.1 X.2.1 dX4_copy_77 (lv_at hl 7 rfl) ?_
        refine z_pi (run_V (rest := []) X (st_sing (st_in (st_in (st_in (st_in (st_in (st_in (st_nil h)))))))) (c_X0_has (y := q 1) (sz := sq 1) (fr := pf) (n9 := pn) (by omega) (by omega) r_pf r_pn) mi_X0_has ml_X4_209 ⟨Nat.le_of_ble_eq_true rfl, Nat.le_of_ble_eq_true rfl⟩ ⟨rfl, rfl⟩ (Seg.mk' _ _) 0 37 rfl rfl rfl rfl hl.1 rfl (Nat.le_of_ble_eq_true rfl) ⟨Nat.zero_le _, Nat.zero_le _⟩ dX4_copy_79) ?_
        refine z_ifb_eq (tgt := 97) X dX4_copy_82 (by decide) (fun c_82 => ?_) (fun c_82 => ?_)
        · refine lv_aload_n X.1 X.2.1 dX4_copy_97 rfl (lv_at hl 2 rfl) ?_
          refine z_ldc (z := (-1000000001)) X ct_X4_48 (by decide) dX4_copy_98 ?_
          refine z_wi (st_sing (st_nil h)) (run_V (rest := []) X (st_sing (st_nil h)) (c_X4_finding (j := 0) hF (by decide) (by decide) (by decide)) mi_X4_finding ml_X4_49 ⟨Nat.le_of_ble_eq_true rfl, Nat.le_of_ble_eq_true rfl⟩ ⟨rfl, rfl⟩ (Seg.mk' _ _) 3 0 rfl rfl rfl rfl hl.1 rfl (Nat.le_of_ble_eq_true rfl) ⟨Nat.zero_le _, Nat.zero_le _⟩ dX4_copy_100) (fun _ => map_app (wO_map _ _ _ _ _ _ _ _ _ _ _) rfl) (fun r fd2 H locs hp h => ?_)
          have h := (st_lin (st_gnis h))
          obtain ⟨rfl, hF2⟩ := hp
          have h : St E _ s H locs (wO E a k b t x q ((iv (ik))) fd2 ++ (wS E k ((hk)) ((nk)) (k1, k2, k3, k4, k5, k6, k7, k8, k9) ++ (wS E b ((iv (hr A))) ((iv (pe A))) (xs, xi, xk, xc, xl, xr, xb, yl, yr) ++ (wS E t ((ht)) ((nt)) (t1, t2, t3, t4, t5, t6, t7, t8, t9) ++ (wX E x ((iv (tn))) ((e1)) ((e2)) ((e3)) ((e4)) tp ++ (wH E (q 0) ((iv (bq 0))) ((iv (sq 0))) c0 ++ (wH E (q 1) ((iv (bq 1))) ((iv (sq 1))) c1 ++ (wH E (q 2) ((iv (bq 2))) ((iv (sq 2))) c2 ++ (wH E (q 3) ((iv (bq 3))) ((iv (sq 3))) c3 ++ []))))))))) := h
          have e9 : q_copy bq sq cq ph 1 pf 0 po pn = ((-1000000001), cq, (bump ph 0)) := by first | (unfold q_copy; (repeat (first | rw [if_pos (by omega)] | rw [if_neg (by omega)])); first | done | rfl) | (exfalso; omega)
          exact ret _ _ _ _ _ (((iv (ik)), fd2), ((hk), (nk), (k1, k2, k3, k4, k5, k6, k7, k8, k9)), ((iv (hr A)), (iv (pe A)), (xs, xi, xk, xc, xl, xr, xb, yl, yr)), ((ht), (nt), (t1, t2, t3, t4, t5, t6, t7, t8, t9)), ((iv (tn)), (e1), (e2), (e3), (e4), tp), ((iv (bq 0)), (iv (sq 0)), c0), ((iv (bq 1)), (iv (sq 1)), c1), ((iv (bq 2)), (iv (sq 2)), c2), ((iv (bq 3)), (iv (sq 3)), c3)) h (by rw [e9]; exact ⟨rfl, ⟨⟨rfl, rfl, hR, hI, hr9⟩, hK, hF2, hT, hB⟩⟩) dX4_copy_103
        · refine lv_aload X.1 X.2.1 dX4_copy_85 (lv_at hl 0 rfl) ?_
          refine lv_iload X.1 X.2.1 dX4_copy_87 (lv_at hl 6 rfl) ?_
          refine lv_iload X.1 X.2.1 dX4_copy_89 (lv_at hl 7 rfl) ?_
          refine z_pi (run_V (rest := []) X (st_sing (st_in (st_in (st_in (st_in (st_in (st_nil h))))))) (c_X0_has (y := q 0) (sz := sq 0) (fr := po) (n9 := pn) (by omega) (by omega) r_po r_pn) mi_X0_has ml_X4_209 ⟨Nat.le_of_ble_eq_true rfl, Nat.le_of_ble_eq_true rfl⟩ ⟨rfl, rfl⟩ (Seg.mk' _ _) 0 35 rfl rfl rfl rfl hl.1 rfl (Nat.le_of_ble_eq_true rfl) ⟨Nat.zero_le _, Nat.zero_le _⟩ dX4_copy_91) ?_
          refine z_ifb_ne (tgt := 104) X dX4_copy_94 (by decide) (fun c_94 => ?_) (fun c_94 => ?_)
          · refine lv_aload X.1 X.2.1 dX4_copy_104 (lv_at hl 1 rfl) ?_
            refine z_get X h 0 37 2 rfl inX0 rfl (by decide) fl_X4_198 rfl dX4_copy_106 ?_
            refine lv_iload_n X.1 X.2.1 dX4_copy_109 rfl (lv_at hl 4 rfl) ?_
            refine lv_aload X.1 X.2.1 dX4_copy_110 (lv_at hl 0 rfl) ?_
            refine z_get X h 0 35 2 rfl inX0 rfl (by decide) fl_X4_198 rfl dX4_copy_112 ?_
            refine lv_iload X.1 X.2.1 dX4_copy_115 (lv_at hl 6 rfl) ?_
            refine lv_iload X.1 X.2.1 dX4_copy_117 (lv_at hl 7 rfl) ?_
            refine s_copyl X (st_in (st_in (st_in (st_in (st_in (st_nil h)))))) rfl 38 1 rfl rfl ml_X4_212 (by omega) (by omega) (by omega) (by omega) (by omega) (by decide) (by decide) hl.1 (Nat.le_of_ble_eq_true rfl) (Nat.le_of_ble_eq_true rfl) dX4_copy_119 (fun H locs h => ?_)
            have h := (st_lin (st_out (st_out (st_out (st_out (st_out (st_eq wH_numbers h)))))))
            have h : St E _ s H locs (wO E a k b t x q ((iv (ik))) fd ++ (wS E k ((hk)) ((nk)) (k1, k2, k3, k4, k5, k6, k7, k8, k9) ++ (wS E b ((iv (hr A))) ((iv (pe A))) (xs, xi, xk, xc, xl, xr, xb, yl, yr) ++ (wS E t ((ht)) ((nt)) (t1, t2, t3, t4, t5, t6, t7, t8, t9) ++ (wX E x ((iv (tn))) ((e1)) ((e2)) ((e3)) ((e4)) tp ++ (wH E (q 0) ((iv (bq 0))) ((iv (sq 0))) (va_cpy c1 c0 (pf : Int).toNat (po : Int).toNat (pn : Int).toNat) ++ (wH E (q 1) ((iv (bq 1))) ((iv (sq 1))) c1 ++ (wH E (q 2) ((iv (bq 2))) ((iv (sq 2))) c2 ++ (wH E (q 3) ((iv (bq 3))) ((iv (sq 3))) c3 ++ []))))))))) := h
            refine lv_iload X.1 X.2.1 dX4_copy_122 (lv_at hl 7 rfl) ?_
            have e9 : q_copy bq sq cq ph 1 pf 0 po pn = (pn, (cpy cq 1 pf 0 po 0 pn), ph) := by first | (unfold q_copy; (repeat (first | rw [if_pos (by omega)] | rw [if_neg (by omega)])); first | done | rfl) | (exfalso; omega)
            exact ret _ _ _ _ _ (((iv (ik)), fd), ((hk), (nk), (k1, k2, k3, k4, k5, k6, k7, k8, k9)), ((iv (hr A)), (iv (pe A)), (xs, xi, xk, xc, xl, xr, xb, yl, yr)), ((ht), (nt), (t1, t2, t3, t4, t5, t6, t7, t8, t9)), ((iv (tn)), (e1), (e2), (e3), (e4), tp), ((iv (bq 0)), (iv (sq 0)), (va_cpy c1 c0 (pf : Int).toNat (po : Int).toNat (pn : Int).toNat)), ((iv (bq 1)), (iv (sq 1)), c1), ((iv (bq 2)), (iv (sq 2)), c2), ((iv (bq 3)), (iv (sq 3)), c3)) h (by rw [e9]; exact ⟨rfl, ⟨⟨rfl, rfl, hR, hI, hr9⟩, hK, hF, hT, ⟨hB3, RepH_cp hH1 hH0 (by omega) (by omega) (by omega) (by omega), RepH_cn hH1 (by decide), RepH_cn hH2 (by decide), RepH_cn hH3 (by decide)⟩⟩⟩) dX4_copy_124
          · refine lv_aload_n X.1 X.2.1 dX4_copy_97 rfl (lv_at hl 2 rfl) ?_
            refine z_ldc (z := (-1000000001)) X ct_X4_48 (by decide) dX4_copy_98 ?_
            refine z_wi (st_sing (st_nil h)) (run_V (rest := []) X (st_sing (st_nil h)) (c_X4_finding (j := 0) hF (by decide) (by decide) (by decide)) mi_X4_finding ml_X4_49 ⟨Nat.le_of_ble_eq_true rfl, Nat.le_of_ble_eq_true rfl⟩ ⟨rfl, rfl⟩ (Seg.mk' _ _) 3 0 rfl rfl rfl rfl hl.1 rfl (Nat.le_of_ble_eq_true rfl) ⟨Nat.zero_le _, Nat.zero_le _⟩ dX4_copy_100) (fun _ => map_app (wO_map _ _ _ _ _ _ _ _ _ _ _) rfl) (fun r fd3 H locs hp h => ?_)
            have h := (st_lin (st_gnis h))
            obtain ⟨rfl, hF3⟩ := hp
            have h : St E _ s H locs (wO E a k b t x q ((iv (ik))) fd3 ++ (wS E k ((hk)) ((nk)) (k1, k2, k3, k4, k5, k6, k7, k8, k9) ++ (wS E b ((iv (hr A))) ((iv (pe A))) (xs, xi, xk, xc, xl, xr, xb, yl, yr) ++ (wS E t ((ht)) ((nt)) (t1, t2, t3, t4, t5, t6, t7, t8, t9) ++ (wX E x ((iv (tn))) ((e1)) ((e2)) ((e3)) ((e4)) tp ++ (wH E (q 0) ((iv (bq 0))) ((iv (sq 0))) c0 ++ (wH E (q 1) ((iv (bq 1))) ((iv (sq 1))) c1 ++ (wH E (q 2) ((iv (bq 2))) ((iv (sq 2))) c2 ++ (wH E (q 3) ((iv (bq 3))) ((iv (sq 3))) c3 ++ []))))))))) := h
            have e9 : q_copy bq sq cq ph 1 pf 0 po pn = ((-1000000001), cq, (bump ph 0)) := by first | (unfold q_copy; (repeat (first | rw [if_pos (by omega)] | rw [if_neg (by omega)])); first | done | rfl) | (exfalso; omega)
            exact ret _ _ _ _ _ (((iv (ik)), fd3), ((hk), (nk), (k1, k2, k3, k4, k5, k6, k7, k8, k9)), ((iv (hr A)), (iv (pe A)), (xs, xi, xk, xc, xl, xr, xb, yl, yr)), ((ht), (nt), (t1, t2, t3, t4, t5, t6, t7, t8, t9)), ((iv (tn)), (e1), (e2), (e3), (e4), tp), ((iv (bq 0)), (iv (sq 0)), c0), ((iv (bq 1)), (iv (sq 1)), c1), ((iv (bq 2)), (iv (sq 2)), c2), ((iv (bq 3)), (iv (sq 3)), c3)) h (by rw [e9]; exact ⟨rfl, ⟨⟨rfl, rfl, hR, hI, hr9⟩, hK, hF3, hT, hB⟩⟩) dX4_copy_103
      · refine lv_aload_n X.1 X.2.1 dX4_copy_67 rfl (lv_at hl 2 rfl) ?_
        refine z_ldc (z := (-1000000003)) X ct_X4_127 (by decide) dX4_copy_68 ?_
        refine z_wi (st_sing (st_nil h)) (run_V (rest := []) X (st_sing (st_nil h)) (c_X4_finding (j := 2) hF (by decide) (by decide) (by decide)) mi_X4_finding ml_X4_49 ⟨Nat.le_of_ble_eq_true rfl, Nat.le_of_ble_eq_true rfl⟩ ⟨rfl, rfl⟩ (Seg.mk' _ _) 3 0 rfl rfl rfl rfl hl.1 rfl (Nat.le_of_ble_eq_true rfl) ⟨Nat.zero_le _, Nat.zero_le _⟩ dX4_copy_70) (fun _ => map_app (wO_map _ _ _ _ _ _ _ _ _ _ _) rfl) (fun r fd4 H locs hp h => ?_)
        have h := (st_lin (st_gnis h))
        obtain ⟨rfl, hF4⟩ := hp
        have h : St E _ s H locs (wO E a k b t x q ((iv (ik))) fd4 ++ (wS E k ((hk)) ((nk)) (k1, k2, k3, k4, k5, k6, k7, k8, k9) ++ (wS E b ((iv (hr A))) ((iv (pe A))) (xs, xi, xk, xc, xl, xr, xb, yl, yr) ++ (wS E t ((ht)) ((nt)) (t1, t2, t3, t4, t5, t6, t7, t8, t9) ++ (wX E x ((iv (tn))) ((e1)) ((e2)) ((e3)) ((e4)) tp ++ (wH E (q 0) ((iv (bq 0))) ((iv (sq 0))) c0 ++ (wH E (q 1) ((iv (bq 1))) ((iv (sq 1))) c1 ++ (wH E (q 2) ((iv (bq 2))) ((iv (sq 2))) c2 ++ (wH E (q 3) ((iv (bq 3))) ((iv (sq 3))) c3 ++ []))))))))) := h
        have e9 : q_copy bq sq cq ph 1 pf 0 po pn = ((-1000000003), cq, (bump ph 2)) := by first | (unfold q_copy; (repeat (first | rw [if_pos (by omega)] | rw [if_neg (by omega)])); first | done | rfl) | (exfalso; omega)
        exact ret _ _ _ _ _ (((iv (ik)), fd4), ((hk), (nk), (k1, k2, k3, k4, k5, k6, k7, k8, k9)), ((iv (hr A)), (iv (pe A)), (xs, xi, xk, xc, xl, xr, xb, yl, yr)), ((ht), (nt), (t1, t2, t3, t4, t5, t6, t7, t8, t9)), ((iv (tn)), (e1), (e2), (e3), (e4), tp), ((iv (bq 0)), (iv (sq 0)), c0), ((iv (bq 1)), (iv (sq 1)), c1), ((iv (bq 2)), (iv (sq 2)), c2), ((iv (bq 3)), (iv (sq 3)), c3)) h (by rw [e9]; exact ⟨rfl, ⟨⟨rfl, rfl, hR, hI, hr9⟩, hK, hF4, hT, hB⟩⟩) dX4_copy_73
    · refine lv_aload_n X.1 X.2.1 dX4_copy_47 rfl (lv_at hl 2 rfl) ?_
      refine z_ldc (z := (-1000000006)) X ct_X4_197 (by decide) dX4_copy_48 ?_
      refine z_wi (st_sing (st_nil h)) (run_V (rest := []) X (st_sing (st_nil h)) (c_X4_finding (j := 5) hF (by decide) (by decide) (by decide)) mi_X4_finding ml_X4_49 ⟨Nat.le_of_ble_eq_true rfl, Nat.le_of_ble_eq_true rfl⟩ ⟨rfl, rfl⟩ (Seg.mk' _ _) 3 0 rfl rfl rfl rfl hl.1 rfl (Nat.le_of_ble_eq_true rfl) ⟨Nat.zero_le _, Nat.zero_le _⟩ dX4_copy_50) (fun _ => map_app (wO_map _ _ _ _ _ _ _ _ _ _ _) rfl) (fun r fd5 H locs hp h => ?_)
      have h := (st_lin (st_gnis h))
      obtain ⟨rfl, hF5⟩ := hp
      have h : St E _ s H locs (wO E a k b t x q ((iv (ik))) fd5 ++ (wS E k ((hk)) ((nk)) (k1, k2, k3, k4, k5, k6, k7, k8, k9) ++ (wS E b ((iv (hr A))) ((iv (pe A))) (xs, xi, xk, xc, xl, xr, xb, yl, yr) ++ (wS E t ((ht)) ((nt)) (t1, t2, t3, t4, t5, t6, t7, t8, t9) ++ (wX E x ((iv (tn))) ((e1)) ((e2)) ((e3)) ((e4)) tp ++ (wH E (q 0) ((iv (bq 0))) ((iv (sq 0))) c0 ++ (wH E (q 1) ((iv (bq 1))) ((iv (sq 1))) c1 ++ (wH E (q 2) ((iv (bq 2))) ((iv (sq 2))) c2 ++ (wH E (q 3) ((iv (bq 3))) ((iv (sq 3))) c3 ++ []))))))))) := h
      have e9 : q_copy bq sq cq ph 1 pf 0 po pn = ((-1000000006), cq, (bump ph 5)) := by first | (unfold q_copy; (repeat (first | rw [if_pos (by omega)] | rw [if_neg (by omega)])); first | done | rfl) | (exfalso; omega)
      exact ret _ _ _ _ _ (((iv (ik)), fd5), ((hk), (nk), (k1, k2, k3, k4, k5, k6, k7, k8, k9)), ((iv (hr A)), (iv (pe A)), (xs, xi, xk, xc, xl, xr, xb, yl, yr)), ((ht), (nt), (t1, t2, t3, t4, t5, t6, t7, t8, t9)), ((iv (tn)), (e1), (e2), (e3), (e4), tp), ((iv (bq 0)), (iv (sq 0)), c0), ((iv (bq 1)), (iv (sq 1)), c1), ((iv (bq 2)), (iv (sq 2)), c2), ((iv (bq 3)), (iv (sq 3)), c3)) h (by rw [e9]; exact ⟨rfl, ⟨⟨rfl, rfl, hR, hI, hr9⟩, hK, hF5, hT, hB⟩⟩) dX4_copy_53

set_option maxHeartbeats 4000000 in
theorem c_X4_copy_1_1 (hS : RepC (((iv (ik)), fd), ((hk), (nk), (k1, k2, k3, k4, k5, k6, k7, k8, k9)), ((iv (hr A)), (iv (pe A)), (xs, xi, xk, xc, xl, xr, xb, yl, yr)), ((ht), (nt), (t1, t2, t3, t4, t5, t6, t7, t8, t9)), ((iv (tn)), (e1), (e2), (e3), (e4), tp), ((iv (bq 0)), (iv (sq 0)), c0), ((iv (bq 1)), (iv (sq 1)), c1), ((iv (bq 2)), (iv (sq 2)), c2), ((iv (bq 3)), (iv (sq 3)), c3)) (A, K, ik, ph, tq, tn, bq, sq, cq)) {pf : Int} (r_pf : r32 pf) {po : Int} (r_po : r32 po) {pn : Int} (r_pn : r32 pn) : MI (S := Tc) E l yX4_copy cX4_copy 8 (some FieldType.int) (rmk 2 44) (wO E a k b t x q ((iv (ik))) fd ++ (wS E k ((hk)) ((nk)) (k1, k2, k3, k4, k5, k6, k7, k8, k9) ++ (wS E b ((iv (hr A))) ((iv (pe A))) (xs, xi, xk, xc, xl, xr, xb, yl, yr) ++ (wS E t ((ht)) ((nt)) (t1, t2, t3, t4, t5, t6, t7, t8, t9) ++ (wX E x ((iv (tn))) ((e1)) ((e2)) ((e3)) ((e4)) tp ++ (wH E (q 0) ((iv (bq 0))) ((iv (sq 0))) c0 ++ (wH E (q 1) ((iv (bq 1))) ((iv (sq 1))) c1 ++ (wH E (q 2) ((iv (bq 2))) ((iv (sq 2))) c2 ++ (wH E (q 3) ((iv (bq 3))) ((iv (sq 3))) c3 ++ []))))))))) [.ref (a 0), .int (iv (1)), .int (iv (pf)), .int (iv (1)), .int (iv (po)), .int (iv (pn))] (fun r u => r = iv ((q_copy bq sq cq ph 1 pf 1 po pn).1) ∧ RepC u (A, K, ik, (q_copy bq sq cq ph 1 pf 1 po pn).2.2, tq, tn, bq, sq, (q_copy bq sq cq ph 1 pf 1 po pn).2.1)) (fun u => wT E a k b t x q u) := by
  refine goI (S := Tc) (post := fun r u => r = iv ((q_copy bq sq cq ph 1 pf 1 po pn).1) ∧ RepC u (A, K, ik, (q_copy bq sq cq ph 1 pf 1 po pn).2.2, tq, tn, bq, sq, (q_copy bq sq cq ph 1 pf 1 po pn).2.1)) (ws' := fun u => wT E a k b t x q u) (by decide) (Nat.le_of_ble_eq_true rfl) ?_
  intro pp e s m below meth c ls args Q ret X h hl
  have hl : lv_has ls 8 [(0, .ref (a 0)), (1, .int (iv (1))), (2, .int (iv (pf))), (3, .int (iv (1))), (4, .int (iv (po))), (5, .int (iv (pn)))] := hl
  have hR : RS (xs, xi, xk, xc, xl, xr, xb, yl, yr) A := hS.1.2.2.1
  have hI : IA A := hS.1.2.2.2.1
  have hr9 : hr A ≤ 99999 := hS.1.2.2.2.2
  have hF : RF 7 fd ph := hS.2.2.1
  have hK := hS.2.1
  have hT := hS.2.2.2.1
  have hB := hS.2.2.2.2
  have hh : hr A < 1000000 := by omega
  have n8 := hI.n8
  have n0 := hI.n0
  have h0 := hI.h0
  have ht0 : 0 ≤ tn := hS.2.2.2.1.2.1
  have ht1 : tn ≤ 120 := hS.2.2.2.1.2.2.1
  have hk01 : ik = 0 ∨ ik = 1 := hS.2.1.2.1
  have hB3 : okB bq sq := hS.2.2.2.2.1
  have hH0 : RepH (iv (bq 0), iv (sq 0), c0) bq sq cq 0 := hS.2.2.2.2.2.1
  have hH1 : RepH (iv (bq 1), iv (sq 1), c1) bq sq cq 1 := hS.2.2.2.2.2.2.1
  have hH2 : RepH (iv (bq 2), iv (sq 2), c2) bq sq cq 2 := hS.2.2.2.2.2.2.2.1
  have hH3 : RepH (iv (bq 3), iv (sq 3), c3) bq sq cq 3 := hS.2.2.2.2.2.2.2.2
  have ob1 := hB3.1 1 (by omega) (by omega)
  have zb1 := hB3.2 1 (by omega) (by omega)
  have q2 := r_pf.1
  have q22 := r_pf.2
  have q4 := r_po.1
  have q42 := r_po.2
  have q5 := r_pn.1
  have q52 := r_pn.2
  refine lv_aload_n X.1 X.2.1 dX4_copy_0 rfl (lv_at hl 0 rfl) ?_
  refine lv_iload_n X.1 X.2.1 dX4_copy_1 rfl (lv_at hl 1 rfl) ?_
  refine z_pq (run_V (rest := []) X h (c_sheetAt1) mi_X4_sheetAt ml_X4_184 ⟨Nat.le_of_ble_eq_true rfl, Nat.le_of_ble_eq_true rfl⟩ ⟨rfl, rfl⟩ (Seg.rfl' _) 3 0 rfl rfl rfl rfl hl.1 rfl (Nat.le_of_ble_eq_true rfl) ⟨Nat.zero_le _, Nat.zero_le _⟩ dX4_copy_2) ?_
  refine W.eq (g2 := F0 m 5 ls [.ref (q 1 0)]) rfl ?_
  refine lv_astore (lv' := [(6, .ref (q 1 0)), (0, .ref (a 0)), (1, .int (iv (1))), (2, .int (iv (pf))), (3, .int (iv (1))), (4, .int (iv (po))), (5, .int (iv (pn)))]) X.1 X.2.1 dX4_copy_5 hl (by decide) rfl (fun ls hl => ?_)
  refine lv_aload_n X.1 X.2.1 dX4_copy_7 rfl (lv_at hl 1 rfl) ?_
  refine lv_iload_n X.1 X.2.1 dX4_copy_8 rfl (lv_at hl 4 rfl) ?_
  refine z_pq (run_V (rest := []) X h (c_sheetAt1) mi_X4_sheetAt ml_X4_184 ⟨Nat.le_of_ble_eq_true rfl, Nat.le_of_ble_eq_true rfl⟩ ⟨rfl, rfl⟩ (Seg.rfl' _) 3 0 rfl rfl rfl rfl hl.1 rfl (Nat.le_of_ble_eq_true rfl) ⟨Nat.zero_le _, Nat.zero_le _⟩ dX4_copy_9) ?_
  refine W.eq (g2 := F0 m 12 ls [.ref (q 1 0)]) rfl ?_
  refine lv_astore (lv' := [(7, .ref (q 1 0)), (6, .ref (q 1 0)), (0, .ref (a 0)), (1, .int (iv (1))), (2, .int (iv (pf))), (3, .int (iv (1))), (4, .int (iv (po))), (5, .int (iv (pn)))]) X.1 X.2.1 dX4_copy_12 hl (by decide) rfl (fun ls hl => ?_)
  refine lv_aload X.1 X.2.1 dX4_copy_14 (lv_at hl 1 rfl) ?_
  refine lv_ifnull X.1 X.2.1 dX4_copy_16 ?_
  refine lv_aload X.1 X.2.1 dX4_copy_19 (lv_at hl 0 rfl) ?_
  refine lv_ifnonnull (tgt := 31) X.1 X.2.1 dX4_copy_21 (by decide) ?_
  refine lv_aload X.1 X.2.1 dX4_copy_31 (lv_at hl 1 rfl) ?_
  refine z_pi (run_V (rest := []) X (st_sing (st_in (st_in (st_in (st_in (st_in (st_in (st_nil h)))))))) (c_X0_isMissing (y := q 1) (bt := bq 1) ⟨by omega, by omega⟩) mi_X0_isMissing ml_X4_193 ⟨Nat.le_of_ble_eq_true rfl, Nat.le_of_ble_eq_true rfl⟩ ⟨rfl, rfl⟩ (Seg.mk' _ _) 0 37 rfl rfl rfl rfl hl.1 rfl (Nat.le_of_ble_eq_true rfl) ⟨Nat.zero_le _, Nat.zero_le _⟩ dX4_copy_33) ?_
  refine z_ifb_ne (tgt := 47) X dX4_copy_36 (by decide) (fun c_36 => ?_) (fun c_36 => ?_)
  · refine lv_aload_n X.1 X.2.1 dX4_copy_47 rfl (lv_at hl 2 rfl) ?_
    refine z_ldc (z := (-1000000006)) X ct_X4_197 (by decide) dX4_copy_48 ?_
    refine z_wi (st_sing (st_nil h)) (run_V (rest := []) X (st_sing (st_nil h)) (c_X4_finding (j := 5) hF (by decide) (by decide) (by decide)) mi_X4_finding ml_X4_49 ⟨Nat.le_of_ble_eq_true rfl, Nat.le_of_ble_eq_true rfl⟩ ⟨rfl, rfl⟩ (Seg.mk' _ _) 3 0 rfl rfl rfl rfl hl.1 rfl (Nat.le_of_ble_eq_true rfl) ⟨Nat.zero_le _, Nat.zero_le _⟩ dX4_copy_50) (fun _ => map_app (wO_map _ _ _ _ _ _ _ _ _ _ _) rfl) (fun r fd1 H locs hp h => ?_)
    have h := (st_lin (st_gnis h))
    obtain ⟨rfl, hF1⟩ := hp
    have h : St E _ s H locs (wO E a k b t x q ((iv (ik))) fd1 ++ (wS E k ((hk)) ((nk)) (k1, k2, k3, k4, k5, k6, k7, k8, k9) ++ (wS E b ((iv (hr A))) ((iv (pe A))) (xs, xi, xk, xc, xl, xr, xb, yl, yr) ++ (wS E t ((ht)) ((nt)) (t1, t2, t3, t4, t5, t6, t7, t8, t9) ++ (wX E x ((iv (tn))) ((e1)) ((e2)) ((e3)) ((e4)) tp ++ (wH E (q 0) ((iv (bq 0))) ((iv (sq 0))) c0 ++ (wH E (q 1) ((iv (bq 1))) ((iv (sq 1))) c1 ++ (wH E (q 2) ((iv (bq 2))) ((iv (sq 2))) c2 ++ (wH E (q 3) ((iv (bq 3))) ((iv (sq 3))) c3 ++ []))))))))) := h
    have e9 : q_copy bq sq cq ph 1 pf 1 po pn = ((-1000000006), cq, (bump ph 5)) := by first | (unfold q_copy; (repeat (first | rw [if_pos (by omega)] | rw [if_neg (by omega)])); first | done | rfl) | (exfalso; omega)
    exact ret _ _ _ _ _ (((iv (ik)), fd1), ((hk), (nk), (k1, k2, k3, k4, k5, k6, k7, k8, k9)), ((iv (hr A)), (iv (pe A)), (xs, xi, xk, xc, xl, xr, xb, yl, yr)), ((ht), (nt), (t1, t2, t3, t4, t5, t6, t7, t8, t9)), ((iv (tn)), (e1), (e2), (e3), (e4), tp), ((iv (bq 0)), (iv (sq 0)), c0), ((iv (bq 1)), (iv (sq 1)), c1), ((iv (bq 2)), (iv (sq 2)), c2), ((iv (bq 3)), (iv (sq 3)), c3)) h (by rw [e9]; exact ⟨rfl, ⟨⟨rfl, rfl, hR, hI, hr9⟩, hK, hF1, hT, hB⟩⟩) dX4_copy_53
  · refine lv_aload X.1 X.2.1 dX4_copy_39 (lv_at hl 0 rfl) ?_
    refine z_pi (run_V (rest := []) X (st_sing (st_in (st_in (st_in (st_in (st_in (st_in (st_nil h)))))))) (c_X0_isMissing (y := q 1) (bt := bq 1) ⟨by omega, by omega⟩) mi_X0_isMissing ml_X4_193 ⟨Nat.le_of_ble_eq_true rfl, Nat.le_of_ble_eq_true rfl⟩ ⟨rfl, rfl⟩ (Seg.mk' _ _) 0 37 rfl rfl rfl rfl hl.1 rfl (Nat.le_of_ble_eq_true rfl) ⟨Nat.zero_le _, Nat.zero_le _⟩ dX4_copy_41) ?_
    refine z_ifb_eq (tgt := 54) X dX4_copy_44 (by decide) (fun c_44 => ?_) (fun c_44 => ?_)
    · refine lv_aload X.1 X.2.1 dX4_copy_54 (lv_at hl 1 rfl) ?_
      refine z_get X h 0 37 0 rfl inX0 rfl (by decide) fl_X4_206 rfl dX4_copy_56 ?_
      refine lv_aload X.1 X.2.1 dX4_copy_59 (lv_at hl 0 rfl) ?_
      refine z_get X h 0 37 0 rfl inX0 rfl (by decide) fl_X4_206 rfl dX4_copy_61 ?_
      refine z_ic_eq (tgt := 74) X ⟨by omega, by omega⟩ ⟨by omega, by omega⟩ dX4_copy_64 (by decide) (fun c_64 => ?_) (fun c_64 => ?_)
      · refine lv_aload X.1 X.2.1 dX4_copy_74 (lv_at hl 1 rfl) ?_
        refine lv_iload_n X.1 X.2.1 dX4_copy_76 rfl (lv_at hl 4 rfl) ?_
        refine lv_iload X.1 X.2.1 dX4_copy_77 (lv_at hl 7 rfl) ?_
        refine z_pi (run_V (rest := []) X (st_sing (st_in (st_in (st_in (st_in (st_in (st_in (st_nil h)))))))) (c_X0_has (y := q 1) (sz := sq 1) (fr := pf) (n9 := pn) (by omega) (by omega) r_pf r_pn) mi_X0_has ml_X4_209 ⟨Nat.le_of_ble_eq_true rfl, Nat.le_of_ble_eq_true rfl⟩ ⟨rfl, rfl⟩ (Seg.mk' _ _) 0 37 rfl rfl rfl rfl hl.1 rfl (Nat.le_of_ble_eq_true rfl) ⟨Nat.zero_le _, Nat.zero_le _⟩ dX4_copy_79) ?_
        refine z_ifb_eq (tgt := 97) X dX4_copy_82 (by decide) (fun c_82 => ?_) (fun c_82 => ?_)
        · refine lv_aload_n X.1 X.2.1 dX4_copy_97 rfl (lv_at hl 2 rfl) ?_
          refine z_ldc (z := (-1000000001)) X ct_X4_48 (by decide) dX4_copy_98 ?_
          refine z_wi (st_sing (st_nil h)) (run_V (rest := []) X (st_sing (st_nil h)) (c_X4_finding (j := 0) hF (by decide) (by decide) (by decide)) mi_X4_finding ml_X4_49 ⟨Nat.le_of_ble_eq_true rfl, Nat.le_of_ble_eq_true rfl⟩ ⟨rfl, rfl⟩ (Seg.mk' _ _) 3 0 rfl rfl rfl rfl hl.1 rfl (Nat.le_of_ble_eq_true rfl) ⟨Nat.zero_le _, Nat.zero_le _⟩ dX4_copy_100) (fun _ => map_app (wO_map _ _ _ _ _ _ _ _ _ _ _) rfl) (fun r fd2 H locs hp h => ?_)
          have h := (st_lin (st_gnis h))
          obtain ⟨rfl, hF2⟩ := hp
          have h : St E _ s H locs (wO E a k b t x q ((iv (ik))) fd2 ++ (wS E k ((hk)) ((nk)) (k1, k2, k3, k4, k5, k6, k7, k8, k9) ++ (wS E b ((iv (hr A))) ((iv (pe A))) (xs, xi, xk, xc, xl, xr, xb, yl, yr) ++ (wS E t ((ht)) ((nt)) (t1, t2, t3, t4, t5, t6, t7, t8, t9) ++ (wX E x ((iv (tn))) ((e1)) ((e2)) ((e3)) ((e4)) tp ++ (wH E (q 0) ((iv (bq 0))) ((iv (sq 0))) c0 ++ (wH E (q 1) ((iv (bq 1))) ((iv (sq 1))) c1 ++ (wH E (q 2) ((iv (bq 2))) ((iv (sq 2))) c2 ++ (wH E (q 3) ((iv (bq 3))) ((iv (sq 3))) c3 ++ []))))))))) := h
          have e9 : q_copy bq sq cq ph 1 pf 1 po pn = ((-1000000001), cq, (bump ph 0)) := by first | (unfold q_copy; (repeat (first | rw [if_pos (by omega)] | rw [if_neg (by omega)])); first | done | rfl) | (exfalso; omega)
          exact ret _ _ _ _ _ (((iv (ik)), fd2), ((hk), (nk), (k1, k2, k3, k4, k5, k6, k7, k8, k9)), ((iv (hr A)), (iv (pe A)), (xs, xi, xk, xc, xl, xr, xb, yl, yr)), ((ht), (nt), (t1, t2, t3, t4, t5, t6, t7, t8, t9)), ((iv (tn)), (e1), (e2), (e3), (e4), tp), ((iv (bq 0)), (iv (sq 0)), c0), ((iv (bq 1)), (iv (sq 1)), c1), ((iv (bq 2)), (iv (sq 2)), c2), ((iv (bq 3)), (iv (sq 3)), c3)) h (by rw [e9]; exact ⟨rfl, ⟨⟨rfl, rfl, hR, hI, hr9⟩, hK, hF2, hT, hB⟩⟩) dX4_copy_103
        · refine lv_aload X.1 X.2.1 dX4_copy_85 (lv_at hl 0 rfl) ?_
          refine lv_iload X.1 X.2.1 dX4_copy_87 (lv_at hl 6 rfl) ?_
          refine lv_iload X.1 X.2.1 dX4_copy_89 (lv_at hl 7 rfl) ?_
          refine z_pi (run_V (rest := []) X (st_sing (st_in (st_in (st_in (st_in (st_in (st_in (st_nil h)))))))) (c_X0_has (y := q 1) (sz := sq 1) (fr := po) (n9 := pn) (by omega) (by omega) r_po r_pn) mi_X0_has ml_X4_209 ⟨Nat.le_of_ble_eq_true rfl, Nat.le_of_ble_eq_true rfl⟩ ⟨rfl, rfl⟩ (Seg.mk' _ _) 0 37 rfl rfl rfl rfl hl.1 rfl (Nat.le_of_ble_eq_true rfl) ⟨Nat.zero_le _, Nat.zero_le _⟩ dX4_copy_91) ?_
          refine z_ifb_ne (tgt := 104) X dX4_copy_94 (by decide) (fun c_94 => ?_) (fun c_94 => ?_)
          · refine lv_aload X.1 X.2.1 dX4_copy_104 (lv_at hl 1 rfl) ?_
            refine z_get X h 0 37 2 rfl inX0 rfl (by decide) fl_X4_198 rfl dX4_copy_106 ?_
            refine lv_iload_n X.1 X.2.1 dX4_copy_109 rfl (lv_at hl 4 rfl) ?_
            refine lv_aload X.1 X.2.1 dX4_copy_110 (lv_at hl 0 rfl) ?_
            refine z_get X h 0 37 2 rfl inX0 rfl (by decide) fl_X4_198 rfl dX4_copy_112 ?_
            refine lv_iload X.1 X.2.1 dX4_copy_115 (lv_at hl 6 rfl) ?_
            refine lv_iload X.1 X.2.1 dX4_copy_117 (lv_at hl 7 rfl) ?_
            refine s_copyl X (st_in (st_in (st_in (st_in (st_in (st_in (st_nil h))))))) rfl 38 1 rfl rfl ml_X4_212 (by omega) (by omega) (by omega) (by omega) (by omega) (by decide) (by decide) hl.1 (Nat.le_of_ble_eq_true rfl) (Nat.le_of_ble_eq_true rfl) dX4_copy_119 (fun H locs h => ?_)
            have h := (st_lin (st_out (st_out (st_out (st_out (st_out (st_out (st_eq wH_numbers h))))))))
            have h : St E _ s H locs (wO E a k b t x q ((iv (ik))) fd ++ (wS E k ((hk)) ((nk)) (k1, k2, k3, k4, k5, k6, k7, k8, k9) ++ (wS E b ((iv (hr A))) ((iv (pe A))) (xs, xi, xk, xc, xl, xr, xb, yl, yr) ++ (wS E t ((ht)) ((nt)) (t1, t2, t3, t4, t5, t6, t7, t8, t9) ++ (wX E x ((iv (tn))) ((e1)) ((e2)) ((e3)) ((e4)) tp ++ (wH E (q 0) ((iv (bq 0))) ((iv (sq 0))) c0 ++ (wH E (q 1) ((iv (bq 1))) ((iv (sq 1))) (va_cpy c1 c1 (pf : Int).toNat (po : Int).toNat (pn : Int).toNat) ++ (wH E (q 2) ((iv (bq 2))) ((iv (sq 2))) c2 ++ (wH E (q 3) ((iv (bq 3))) ((iv (sq 3))) c3 ++ []))))))))) := h
            refine lv_iload X.1 X.2.1 dX4_copy_122 (lv_at hl 7 rfl) ?_
            have e9 : q_copy bq sq cq ph 1 pf 1 po pn = (pn, (cpy cq 1 pf 1 po 0 pn), ph) := by first | (unfold q_copy; (repeat (first | rw [if_pos (by omega)] | rw [if_neg (by omega)])); first | done | rfl) | (exfalso; omega)
            exact ret _ _ _ _ _ (((iv (ik)), fd), ((hk), (nk), (k1, k2, k3, k4, k5, k6, k7, k8, k9)), ((iv (hr A)), (iv (pe A)), (xs, xi, xk, xc, xl, xr, xb, yl, yr)), ((ht), (nt), (t1, t2, t3, t4, t5, t6, t7, t8, t9)), ((iv (tn)), (e1), (e2), (e3), (e4), tp), ((iv (bq 0)), (iv (sq 0)), c0), ((iv (bq 1)), (iv (sq 1)), (va_cpy c1 c1 (pf : Int).toNat (po : Int).toNat (pn : Int).toNat)), ((iv (bq 2)), (iv (sq 2)), c2), ((iv (bq 3)), (iv (sq 3)), c3)) h (by rw [e9]; exact ⟨rfl, ⟨⟨rfl, rfl, hR, hI, hr9⟩, hK, hF, hT, ⟨hB3, RepH_cn hH0 (by decide), RepH_cp hH1 hH1 (by omega) (by omega) (by omega) (by omega), RepH_cn hH2 (by decide), RepH_cn hH3 (by decide)⟩⟩⟩) dX4_copy_124
          · refine lv_aload_n X.1 X.2.1 dX4_copy_97 rfl (lv_at hl 2 rfl) ?_
            refine z_ldc (z := (-1000000001)) X ct_X4_48 (by decide) dX4_copy_98 ?_
            refine z_wi (st_sing (st_nil h)) (run_V (rest := []) X (st_sing (st_nil h)) (c_X4_finding (j := 0) hF (by decide) (by decide) (by decide)) mi_X4_finding ml_X4_49 ⟨Nat.le_of_ble_eq_true rfl, Nat.le_of_ble_eq_true rfl⟩ ⟨rfl, rfl⟩ (Seg.mk' _ _) 3 0 rfl rfl rfl rfl hl.1 rfl (Nat.le_of_ble_eq_true rfl) ⟨Nat.zero_le _, Nat.zero_le _⟩ dX4_copy_100) (fun _ => map_app (wO_map _ _ _ _ _ _ _ _ _ _ _) rfl) (fun r fd3 H locs hp h => ?_)
            have h := (st_lin (st_gnis h))
            obtain ⟨rfl, hF3⟩ := hp
            have h : St E _ s H locs (wO E a k b t x q ((iv (ik))) fd3 ++ (wS E k ((hk)) ((nk)) (k1, k2, k3, k4, k5, k6, k7, k8, k9) ++ (wS E b ((iv (hr A))) ((iv (pe A))) (xs, xi, xk, xc, xl, xr, xb, yl, yr) ++ (wS E t ((ht)) ((nt)) (t1, t2, t3, t4, t5, t6, t7, t8, t9) ++ (wX E x ((iv (tn))) ((e1)) ((e2)) ((e3)) ((e4)) tp ++ (wH E (q 0) ((iv (bq 0))) ((iv (sq 0))) c0 ++ (wH E (q 1) ((iv (bq 1))) ((iv (sq 1))) c1 ++ (wH E (q 2) ((iv (bq 2))) ((iv (sq 2))) c2 ++ (wH E (q 3) ((iv (bq 3))) ((iv (sq 3))) c3 ++ []))))))))) := h
            have e9 : q_copy bq sq cq ph 1 pf 1 po pn = ((-1000000001), cq, (bump ph 0)) := by first | (unfold q_copy; (repeat (first | rw [if_pos (by omega)] | rw [if_neg (by omega)])); first | done | rfl) | (exfalso; omega)
            exact ret _ _ _ _ _ (((iv (ik)), fd3), ((hk), (nk), (k1, k2, k3, k4, k5, k6, k7, k8, k9)), ((iv (hr A)), (iv (pe A)), (xs, xi, xk, xc, xl, xr, xb, yl, yr)), ((ht), (nt), (t1, t2, t3, t4, t5, t6, t7, t8, t9)), ((iv (tn)), (e1), (e2), (e3), (e4), tp), ((iv (bq 0)), (iv (sq 0)), c0), ((iv (bq 1)), (iv (sq 1)), c1), ((iv (bq 2)), (iv (sq 2)), c2), ((iv (bq 3)), (iv (sq 3)), c3)) h (by rw [e9]; exact ⟨rfl, ⟨⟨rfl, rfl, hR, hI, hr9⟩, hK, hF3, hT, hB⟩⟩) dX4_copy_103
      · refine lv_aload_n X.1 X.2.1 dX4_copy_67 rfl (lv_at hl 2 rfl) ?_
        refine z_ldc (z := (-1000000003)) X ct_X4_127 (by decide) dX4_copy_68 ?_
        refine z_wi (st_sing (st_nil h)) (run_V (rest := []) X (st_sing (st_nil h)) (c_X4_finding (j := 2) hF (by decide) (by decide) (by decide)) mi_X4_finding ml_X4_49 ⟨Nat.le_of_ble_eq_true rfl, Nat.le_of_ble_eq_true rfl⟩ ⟨rfl, rfl⟩ (Seg.mk' _ _) 3 0 rfl rfl rfl rfl hl.1 rfl (Nat.le_of_ble_eq_true rfl) ⟨Nat.zero_le _, Nat.zero_le _⟩ dX4_copy_70) (fun _ => map_app (wO_map _ _ _ _ _ _ _ _ _ _ _) rfl) (fun r fd4 H locs hp h => ?_)
        have h := (st_lin (st_gnis h))
        obtain ⟨rfl, hF4⟩ := hp
        have h : St E _ s H locs (wO E a k b t x q ((iv (ik))) fd4 ++ (wS E k ((hk)) ((nk)) (k1, k2, k3, k4, k5, k6, k7, k8, k9) ++ (wS E b ((iv (hr A))) ((iv (pe A))) (xs, xi, xk, xc, xl, xr, xb, yl, yr) ++ (wS E t ((ht)) ((nt)) (t1, t2, t3, t4, t5, t6, t7, t8, t9) ++ (wX E x ((iv (tn))) ((e1)) ((e2)) ((e3)) ((e4)) tp ++ (wH E (q 0) ((iv (bq 0))) ((iv (sq 0))) c0 ++ (wH E (q 1) ((iv (bq 1))) ((iv (sq 1))) c1 ++ (wH E (q 2) ((iv (bq 2))) ((iv (sq 2))) c2 ++ (wH E (q 3) ((iv (bq 3))) ((iv (sq 3))) c3 ++ []))))))))) := h
        have e9 : q_copy bq sq cq ph 1 pf 1 po pn = ((-1000000003), cq, (bump ph 2)) := by first | (unfold q_copy; (repeat (first | rw [if_pos (by omega)] | rw [if_neg (by omega)])); first | done | rfl) | (exfalso; omega)
        exact ret _ _ _ _ _ (((iv (ik)), fd4), ((hk), (nk), (k1, k2, k3, k4, k5, k6, k7, k8, k9)), ((iv (hr A)), (iv (pe A)), (xs, xi, xk, xc, xl, xr, xb, yl, yr)), ((ht), (nt), (t1, t2, t3, t4, t5, t6, t7, t8, t9)), ((iv (tn)), (e1), (e2), (e3), (e4), tp), ((iv (bq 0)), (iv (sq 0)), c0), ((iv (bq 1)), (iv (sq 1)), c1), ((iv (bq 2)), (iv (sq 2)), c2), ((iv (bq 3)), (iv (sq 3)), c3)) h (by rw [e9]; exact ⟨rfl, ⟨⟨rfl, rfl, hR, hI, hr9⟩, hK, hF4, hT, hB⟩⟩) dX4_copy_73
    · refine lv_aload_n X.1 X.2.1 dX4_copy_47 rfl (lv_at hl 2 rfl) ?_
      refine z_ldc (z := (-1000000006)) X ct_X4_197 (by decide) dX4_copy_48 ?_
      refine z_wi (st_sing (st_nil h)) (run_V (rest := []) X (st_sing (st_nil h)) (c_X4_finding (j := 5) hF (by decide) (by decide) (by decide)) mi_X4_finding ml_X4_49 ⟨Nat.le_of_ble_eq_true rfl, Nat.le_of_ble_eq_true rfl⟩ ⟨rfl, rfl⟩ (Seg.mk' _ _) 3 0 rfl rfl rfl rfl hl.1 rfl (Nat.le_of_ble_eq_true rfl) ⟨Nat.zero_le _, Nat.zero_le _⟩ dX4_copy_50) (fun _ => map_app (wO_map _ _ _ _ _ _ _ _ _ _ _) rfl) (fun r fd5 H locs hp h => ?_)
      have h := (st_lin (st_gnis h))
      obtain ⟨rfl, hF5⟩ := hp
      have h : St E _ s H locs (wO E a k b t x q ((iv (ik))) fd5 ++ (wS E k ((hk)) ((nk)) (k1, k2, k3, k4, k5, k6, k7, k8, k9) ++ (wS E b ((iv (hr A))) ((iv (pe A))) (xs, xi, xk, xc, xl, xr, xb, yl, yr) ++ (wS E t ((ht)) ((nt)) (t1, t2, t3, t4, t5, t6, t7, t8, t9) ++ (wX E x ((iv (tn))) ((e1)) ((e2)) ((e3)) ((e4)) tp ++ (wH E (q 0) ((iv (bq 0))) ((iv (sq 0))) c0 ++ (wH E (q 1) ((iv (bq 1))) ((iv (sq 1))) c1 ++ (wH E (q 2) ((iv (bq 2))) ((iv (sq 2))) c2 ++ (wH E (q 3) ((iv (bq 3))) ((iv (sq 3))) c3 ++ []))))))))) := h
      have e9 : q_copy bq sq cq ph 1 pf 1 po pn = ((-1000000006), cq, (bump ph 5)) := by first | (unfold q_copy; (repeat (first | rw [if_pos (by omega)] | rw [if_neg (by omega)])); first | done | rfl) | (exfalso; omega)
      exact ret _ _ _ _ _ (((iv (ik)), fd5), ((hk), (nk), (k1, k2, k3, k4, k5, k6, k7, k8, k9)), ((iv (hr A)), (iv (pe A)), (xs, xi, xk, xc, xl, xr, xb, yl, yr)), ((ht), (nt), (t1, t2, t3, t4, t5, t6, t7, t8, t9)), ((iv (tn)), (e1), (e2), (e3), (e4), tp), ((iv (bq 0)), (iv (sq 0)), c0), ((iv (bq 1)), (iv (sq 1)), c1), ((iv (bq 2)), (iv (sq 2)), c2), ((iv (bq 3)), (iv (sq 3)), c3)) h (by rw [e9]; exact ⟨rfl, ⟨⟨rfl, rfl, hR, hI, hr9⟩, hK, hF5, hT, hB⟩⟩) dX4_copy_53

set_option maxHeartbeats 4000000 in
theorem c_X4_copy_1_2 (hS : RepC (((iv (ik)), fd), ((hk), (nk), (k1, k2, k3, k4, k5, k6, k7, k8, k9)), ((iv (hr A)), (iv (pe A)), (xs, xi, xk, xc, xl, xr, xb, yl, yr)), ((ht), (nt), (t1, t2, t3, t4, t5, t6, t7, t8, t9)), ((iv (tn)), (e1), (e2), (e3), (e4), tp), ((iv (bq 0)), (iv (sq 0)), c0), ((iv (bq 1)), (iv (sq 1)), c1), ((iv (bq 2)), (iv (sq 2)), c2), ((iv (bq 3)), (iv (sq 3)), c3)) (A, K, ik, ph, tq, tn, bq, sq, cq)) {pf : Int} (r_pf : r32 pf) {po : Int} (r_po : r32 po) {pn : Int} (r_pn : r32 pn) : MI (S := Tc) E l yX4_copy cX4_copy 8 (some FieldType.int) (rmk 2 44) (wO E a k b t x q ((iv (ik))) fd ++ (wS E k ((hk)) ((nk)) (k1, k2, k3, k4, k5, k6, k7, k8, k9) ++ (wS E b ((iv (hr A))) ((iv (pe A))) (xs, xi, xk, xc, xl, xr, xb, yl, yr) ++ (wS E t ((ht)) ((nt)) (t1, t2, t3, t4, t5, t6, t7, t8, t9) ++ (wX E x ((iv (tn))) ((e1)) ((e2)) ((e3)) ((e4)) tp ++ (wH E (q 0) ((iv (bq 0))) ((iv (sq 0))) c0 ++ (wH E (q 1) ((iv (bq 1))) ((iv (sq 1))) c1 ++ (wH E (q 2) ((iv (bq 2))) ((iv (sq 2))) c2 ++ (wH E (q 3) ((iv (bq 3))) ((iv (sq 3))) c3 ++ []))))))))) [.ref (a 0), .int (iv (1)), .int (iv (pf)), .int (iv (2)), .int (iv (po)), .int (iv (pn))] (fun r u => r = iv ((q_copy bq sq cq ph 1 pf 2 po pn).1) ∧ RepC u (A, K, ik, (q_copy bq sq cq ph 1 pf 2 po pn).2.2, tq, tn, bq, sq, (q_copy bq sq cq ph 1 pf 2 po pn).2.1)) (fun u => wT E a k b t x q u) := by
  refine goI (S := Tc) (post := fun r u => r = iv ((q_copy bq sq cq ph 1 pf 2 po pn).1) ∧ RepC u (A, K, ik, (q_copy bq sq cq ph 1 pf 2 po pn).2.2, tq, tn, bq, sq, (q_copy bq sq cq ph 1 pf 2 po pn).2.1)) (ws' := fun u => wT E a k b t x q u) (by decide) (Nat.le_of_ble_eq_true rfl) ?_
  intro pp e s m below meth c ls args Q ret X h hl
  have hl : lv_has ls 8 [(0, .ref (a 0)), (1, .int (iv (1))), (2, .int (iv (pf))), (3, .int (iv (2))), (4, .int (iv (po))), (5, .int (iv (pn)))] := hl
  have hR : RS (xs, xi, xk, xc, xl, xr, xb, yl, yr) A := hS.1.2.2.1
  have hI : IA A := hS.1.2.2.2.1
  have hr9 : hr A ≤ 99999 := hS.1.2.2.2.2
  have hF : RF 7 fd ph := hS.2.2.1
  have hK := hS.2.1
  have hT := hS.2.2.2.1
  have hB := hS.2.2.2.2
  have hh : hr A < 1000000 := by omega
  have n8 := hI.n8
  have n0 := hI.n0
  have h0 := hI.h0
  have ht0 : 0 ≤ tn := hS.2.2.2.1.2.1
  have ht1 : tn ≤ 120 := hS.2.2.2.1.2.2.1
  have hk01 : ik = 0 ∨ ik = 1 := hS.2.1.2.1
  have hB3 : okB bq sq := hS.2.2.2.2.1
  have hH0 : RepH (iv (bq 0), iv (sq 0), c0) bq sq cq 0 := hS.2.2.2.2.2.1
  have hH1 : RepH (iv (bq 1), iv (sq 1), c1) bq sq cq 1 := hS.2.2.2.2.2.2.1
  have hH2 : RepH (iv (bq 2), iv (sq 2), c2) bq sq cq 2 := hS.2.2.2.2.2.2.2.1
  have hH3 : RepH (iv (bq 3), iv (sq 3), c3) bq sq cq 3 := hS.2.2.2.2.2.2.2.2
  have ob1 := hB3.1 1 (by omega) (by omega)
  have zb1 := hB3.2 1 (by omega) (by omega)
  have ob2 := hB3.1 2 (by omega) (by omega)
  have zb2 := hB3.2 2 (by omega) (by omega)
  have q2 := r_pf.1
  have q22 := r_pf.2
  have q4 := r_po.1
  have q42 := r_po.2
  have q5 := r_pn.1
  have q52 := r_pn.2
  refine lv_aload_n X.1 X.2.1 dX4_copy_0 rfl (lv_at hl 0 rfl) ?_
  refine lv_iload_n X.1 X.2.1 dX4_copy_1 rfl (lv_at hl 1 rfl) ?_
  refine z_pq (run_V (rest := []) X h (c_sheetAt1) mi_X4_sheetAt ml_X4_184 ⟨Nat.le_of_ble_eq_true rfl, Nat.le_of_ble_eq_true rfl⟩ ⟨rfl, rfl⟩ (Seg.rfl' _) 3 0 rfl rfl rfl rfl hl.1 rfl (Nat.le_of_ble_eq_true rfl) ⟨Nat.zero_le _, Nat.zero_le _⟩ dX4_copy_2) ?_
  refine W.eq (g2 := F0 m 5 ls [.ref (q 1 0)]) rfl ?_
  refine lv_astore (lv' := [(6, .ref (q 1 0)), (0, .ref (a 0)), (1, .int (iv (1))), (2, .int (iv (pf))), (3, .int (iv (2))), (4, .int (iv (po))), (5, .int (iv (pn)))]) X.1 X.2.1 dX4_copy_5 hl (by decide) rfl (fun ls hl => ?_)
  refine lv_aload_n X.1 X.2.1 dX4_copy_7 rfl (lv_at hl 1 rfl) ?_
  refine lv_iload_n X.1 X.2.1 dX4_copy_8 rfl (lv_at hl 4 rfl) ?_
  refine z_pq (run_V (rest := []) X h (c_sheetAt2) mi_X4_sheetAt ml_X4_184 ⟨Nat.le_of_ble_eq_true rfl, Nat.le_of_ble_eq_true rfl⟩ ⟨rfl, rfl⟩ (Seg.rfl' _) 3 0 rfl rfl rfl rfl hl.1 rfl (Nat.le_of_ble_eq_true rfl) ⟨Nat.zero_le _, Nat.zero_le _⟩ dX4_copy_9) ?_
  refine W.eq (g2 := F0 m 12 ls [.ref (q 2 0)]) rfl ?_
  refine lv_astore (lv' := [(7, .ref (q 2 0)), (6, .ref (q 1 0)), (0, .ref (a 0)), (1, .int (iv (1))), (2, .int (iv (pf))), (3, .int (iv (2))), (4, .int (iv (po))), (5, .int (iv (pn)))]) X.1 X.2.1 dX4_copy_12 hl (by decide) rfl (fun ls hl => ?_)
  refine lv_aload X.1 X.2.1 dX4_copy_14 (lv_at hl 1 rfl) ?_
  refine lv_ifnull X.1 X.2.1 dX4_copy_16 ?_
  refine lv_aload X.1 X.2.1 dX4_copy_19 (lv_at hl 0 rfl) ?_
  refine lv_ifnonnull (tgt := 31) X.1 X.2.1 dX4_copy_21 (by decide) ?_
  refine lv_aload X.1 X.2.1 dX4_copy_31 (lv_at hl 1 rfl) ?_
  refine z_pi (run_V (rest := []) X (st_sing (st_in (st_in (st_in (st_in (st_in (st_in (st_nil h)))))))) (c_X0_isMissing (y := q 1) (bt := bq 1) ⟨by omega, by omega⟩) mi_X0_isMissing ml_X4_193 ⟨Nat.le_of_ble_eq_true rfl, Nat.le_of_ble_eq_true rfl⟩ ⟨rfl, rfl⟩ (Seg.mk' _ _) 0 37 rfl rfl rfl rfl hl.1 rfl (Nat.le_of_ble_eq_true rfl) ⟨Nat.zero_le _, Nat.zero_le _⟩ dX4_copy_33) ?_
  refine z_ifb_ne (tgt := 47) X dX4_copy_36 (by decide) (fun c_36 => ?_) (fun c_36 => ?_)
  · refine lv_aload_n X.1 X.2.1 dX4_copy_47 rfl (lv_at hl 2 rfl) ?_
    refine z_ldc (z := (-1000000006)) X ct_X4_197 (by decide) dX4_copy_48 ?_
    refine z_wi (st_sing (st_nil h)) (run_V (rest := []) X (st_sing (st_nil h)) (c_X4_finding (j := 5) hF (by decide) (by decide) (by decide)) mi_X4_finding ml_X4_49 ⟨Nat.le_of_ble_eq_true rfl, Nat.le_of_ble_eq_true rfl⟩ ⟨rfl, rfl⟩ (Seg.mk' _ _) 3 0 rfl rfl rfl rfl hl.1 rfl (Nat.le_of_ble_eq_true rfl) ⟨Nat.zero_le _, Nat.zero_le _⟩ dX4_copy_50) (fun _ => map_app (wO_map _ _ _ _ _ _ _ _ _ _ _) rfl) (fun r fd1 H locs hp h => ?_)
    have h := (st_lin (st_gnis h))
    obtain ⟨rfl, hF1⟩ := hp
    have h : St E _ s H locs (wO E a k b t x q ((iv (ik))) fd1 ++ (wS E k ((hk)) ((nk)) (k1, k2, k3, k4, k5, k6, k7, k8, k9) ++ (wS E b ((iv (hr A))) ((iv (pe A))) (xs, xi, xk, xc, xl, xr, xb, yl, yr) ++ (wS E t ((ht)) ((nt)) (t1, t2, t3, t4, t5, t6, t7, t8, t9) ++ (wX E x ((iv (tn))) ((e1)) ((e2)) ((e3)) ((e4)) tp ++ (wH E (q 0) ((iv (bq 0))) ((iv (sq 0))) c0 ++ (wH E (q 1) ((iv (bq 1))) ((iv (sq 1))) c1 ++ (wH E (q 2) ((iv (bq 2))) ((iv (sq 2))) c2 ++ (wH E (q 3) ((iv (bq 3))) ((iv (sq 3))) c3 ++ []))))))))) := h
    have e9 : q_copy bq sq cq ph 1 pf 2 po pn = ((-1000000006), cq, (bump ph 5)) := by first | (unfold q_copy; (repeat (first | rw [if_pos (by omega)] | rw [if_neg (by omega)])); first | done | rfl) | (exfalso; omega)
    exact ret _ _ _ _ _ (((iv (ik)), fd1), ((hk), (nk), (k1, k2, k3, k4, k5, k6, k7, k8, k9)), ((iv (hr A)), (iv (pe A)), (xs, xi, xk, xc, xl, xr, xb, yl, yr)), ((ht), (nt), (t1, t2, t3, t4, t5, t6, t7, t8, t9)), ((iv (tn)), (e1), (e2), (e3), (e4), tp), ((iv (bq 0)), (iv (sq 0)), c0), ((iv (bq 1)), (iv (sq 1)), c1), ((iv (bq 2)), (iv (sq 2)), c2), ((iv (bq 3)), (iv (sq 3)), c3)) h (by rw [e9]; exact ⟨rfl, ⟨⟨rfl, rfl, hR, hI, hr9⟩, hK, hF1, hT, hB⟩⟩) dX4_copy_53
  · refine lv_aload X.1 X.2.1 dX4_copy_39 (lv_at hl 0 rfl) ?_
    refine z_pi (run_V (rest := []) X (st_sing (st_in (st_in (st_in (st_in (st_in (st_in (st_in (st_nil h))))))))) (c_X0_isMissing (y := q 2) (bt := bq 2) ⟨by omega, by omega⟩) mi_X0_isMissing ml_X4_193 ⟨Nat.le_of_ble_eq_true rfl, Nat.le_of_ble_eq_true rfl⟩ ⟨rfl, rfl⟩ (Seg.mk' _ _) 0 39 rfl rfl rfl rfl hl.1 rfl (Nat.le_of_ble_eq_true rfl) ⟨Nat.zero_le _, Nat.zero_le _⟩ dX4_copy_41) ?_
    refine z_ifb_eq (tgt := 54) X dX4_copy_44 (by decide) (fun c_44 => ?_) (fun c_44 => ?_)
    · refine lv_aload X.1 X.2.1 dX4_copy_54 (lv_at hl 1 rfl) ?_
      refine z_get X h 0 37 0 rfl inX0 rfl (by decide) fl_X4_206 rfl dX4_copy_56 ?_
      refine lv_aload X.1 X.2.1 dX4_copy_59 (lv_at hl 0 rfl) ?_
      refine z_get X h 0 39 0 rfl inX0 rfl (by decide) fl_X4_206 rfl dX4_copy_61 ?_
      refine z_ic_eq (tgt := 74) X ⟨by omega, by omega⟩ ⟨by omega, by omega⟩ dX4_copy_64 (by decide) (fun c_64 => ?_) (fun c_64 => ?_)
      · refine lv_aload X.1 X.2.1 dX4_copy_74 (lv_at hl 1 rfl) ?_
        refine lv_iload_n X.1 X.2.1 dX4_copy_76 rfl (lv_at hl 4 rfl) ?_
        refine lv_iload X.1 X.2.1 dX4_copy_77 (lv_at hl 7 rfl) ?_
        refine z_pi (run_V (rest := []) X (st_sing (st_in (st_in (st_in (st_in (st_in (st_in (st_nil h)))))))) (c_X0_has (y := q 1) (sz := sq 1) (fr := pf) (n9 := pn) (by omega) (by omega) r_pf r_pn) mi_X0_has ml_X4_209 ⟨Nat.le_of_ble_eq_true rfl, Nat.le_of_ble_eq_true rfl⟩ ⟨rfl, rfl⟩ (Seg.mk' _ _) 0 37 rfl rfl rfl rfl hl.1 rfl (Nat.le_of_ble_eq_true rfl) ⟨Nat.zero_le _, Nat.zero_le _⟩ dX4_copy_79) ?_
        refine z_ifb_eq (tgt := 97) X dX4_copy_82 (by decide) (fun c_82 => ?_) (fun c_82 => ?_)
        · refine lv_aload_n X.1 X.2.1 dX4_copy_97 rfl (lv_at hl 2 rfl) ?_
          refine z_ldc (z := (-1000000001)) X ct_X4_48 (by decide) dX4_copy_98 ?_
          refine z_wi (st_sing (st_nil h)) (run_V (rest := []) X (st_sing (st_nil h)) (c_X4_finding (j := 0) hF (by decide) (by decide) (by decide)) mi_X4_finding ml_X4_49 ⟨Nat.le_of_ble_eq_true rfl, Nat.le_of_ble_eq_true rfl⟩ ⟨rfl, rfl⟩ (Seg.mk' _ _) 3 0 rfl rfl rfl rfl hl.1 rfl (Nat.le_of_ble_eq_true rfl) ⟨Nat.zero_le _, Nat.zero_le _⟩ dX4_copy_100) (fun _ => map_app (wO_map _ _ _ _ _ _ _ _ _ _ _) rfl) (fun r fd2 H locs hp h => ?_)
          have h := (st_lin (st_gnis h))
          obtain ⟨rfl, hF2⟩ := hp
          have h : St E _ s H locs (wO E a k b t x q ((iv (ik))) fd2 ++ (wS E k ((hk)) ((nk)) (k1, k2, k3, k4, k5, k6, k7, k8, k9) ++ (wS E b ((iv (hr A))) ((iv (pe A))) (xs, xi, xk, xc, xl, xr, xb, yl, yr) ++ (wS E t ((ht)) ((nt)) (t1, t2, t3, t4, t5, t6, t7, t8, t9) ++ (wX E x ((iv (tn))) ((e1)) ((e2)) ((e3)) ((e4)) tp ++ (wH E (q 0) ((iv (bq 0))) ((iv (sq 0))) c0 ++ (wH E (q 1) ((iv (bq 1))) ((iv (sq 1))) c1 ++ (wH E (q 2) ((iv (bq 2))) ((iv (sq 2))) c2 ++ (wH E (q 3) ((iv (bq 3))) ((iv (sq 3))) c3 ++ []))))))))) := h
          have e9 : q_copy bq sq cq ph 1 pf 2 po pn = ((-1000000001), cq, (bump ph 0)) := by first | (unfold q_copy; (repeat (first | rw [if_pos (by omega)] | rw [if_neg (by omega)])); first | done | rfl) | (exfalso; omega)
          exact ret _ _ _ _ _ (((iv (ik)), fd2), ((hk), (nk), (k1, k2, k3, k4, k5, k6, k7, k8, k9)), ((iv (hr A)), (iv (pe A)), (xs, xi, xk, xc, xl, xr, xb, yl, yr)), ((ht), (nt), (t1, t2, t3, t4, t5, t6, t7, t8, t9)), ((iv (tn)), (e1), (e2), (e3), (e4), tp), ((iv (bq 0)), (iv (sq 0)), c0), ((iv (bq 1)), (iv (sq 1)), c1), ((iv (bq 2)), (iv (sq 2)), c2), ((iv (bq 3)), (iv (sq 3)), c3)) h (by rw [e9]; exact ⟨rfl, ⟨⟨rfl, rfl, hR, hI, hr9⟩, hK, hF2, hT, hB⟩⟩) dX4_copy_103
        · refine lv_aload X.1 X.2.1 dX4_copy_85 (lv_at hl 0 rfl) ?_
          refine lv_iload X.1 X.2.1 dX4_copy_87 (lv_at hl 6 rfl) ?_
          refine lv_iload X.1 X.2.1 dX4_copy_89 (lv_at hl 7 rfl) ?_
          refine z_pi (run_V (rest := []) X (st_sing (st_in (st_in (st_in (st_in (st_in (st_in (st_in (st_nil h))))))))) (c_X0_has (y := q 2) (sz := sq 2) (fr := po) (n9 := pn) (by omega) (by omega) r_po r_pn) mi_X0_has ml_X4_209 ⟨Nat.le_of_ble_eq_true rfl, Nat.le_of_ble_eq_true rfl⟩ ⟨rfl, rfl⟩ (Seg.mk' _ _) 0 39 rfl rfl rfl rfl hl.1 rfl (Nat.le_of_ble_eq_true rfl) ⟨Nat.zero_le _, Nat.zero_le _⟩ dX4_copy_91) ?_
          refine z_ifb_ne (tgt := 104) X dX4_copy_94 (by decide) (fun c_94 => ?_) (fun c_94 => ?_)
          · refine lv_aload X.1 X.2.1 dX4_copy_104 (lv_at hl 1 rfl) ?_
            refine z_get X h 0 37 2 rfl inX0 rfl (by decide) fl_X4_198 rfl dX4_copy_106 ?_
            refine lv_iload_n X.1 X.2.1 dX4_copy_109 rfl (lv_at hl 4 rfl) ?_
            refine lv_aload X.1 X.2.1 dX4_copy_110 (lv_at hl 0 rfl) ?_
            refine z_get X h 0 39 2 rfl inX0 rfl (by decide) fl_X4_198 rfl dX4_copy_112 ?_
            refine lv_iload X.1 X.2.1 dX4_copy_115 (lv_at hl 6 rfl) ?_
            refine lv_iload X.1 X.2.1 dX4_copy_117 (lv_at hl 7 rfl) ?_
            refine s_copyl X (st_in (st_in (st_in (st_in (st_in (st_in (st_in (st_nil h)))))))) rfl 38 1 rfl rfl ml_X4_212 (by omega) (by omega) (by omega) (by omega) (by omega) (by decide) (by decide) hl.1 (Nat.le_of_ble_eq_true rfl) (Nat.le_of_ble_eq_true rfl) dX4_copy_119 (fun H locs h => ?_)
            have h := (st_lin (st_out (st_out (st_out (st_out (st_out (st_out (st_out (st_eq wH_numbers h)))))))))
            have h : St E _ s H locs (wO E a k b t x q ((iv (ik))) fd ++ (wS E k ((hk)) ((nk)) (k1, k2, k3, k4, k5, k6, k7, k8, k9) ++ (wS E b ((iv (hr A))) ((iv (pe A))) (xs, xi, xk, xc, xl, xr, xb, yl, yr) ++ (wS E t ((ht)) ((nt)) (t1, t2, t3, t4, t5, t6, t7, t8, t9) ++ (wX E x ((iv (tn))) ((e1)) ((e2)) ((e3)) ((e4)) tp ++ (wH E (q 0) ((iv (bq 0))) ((iv (sq 0))) c0 ++ (wH E (q 1) ((iv (bq 1))) ((iv (sq 1))) c1 ++ (wH E (q 2) ((iv (bq 2))) ((iv (sq 2))) (va_cpy c1 c2 (pf : Int).toNat (po : Int).toNat (pn : Int).toNat) ++ (wH E (q 3) ((iv (bq 3))) ((iv (sq 3))) c3 ++ []))))))))) := h
            refine lv_iload X.1 X.2.1 dX4_copy_122 (lv_at hl 7 rfl) ?_
            have e9 : q_copy bq sq cq ph 1 pf 2 po pn = (pn, (cpy cq 1 pf 2 po 0 pn), ph) := by first | (unfold q_copy; (repeat (first | rw [if_pos (by omega)] | rw [if_neg (by omega)])); first | done | rfl) | (exfalso; omega)
            exact ret _ _ _ _ _ (((iv (ik)), fd), ((hk), (nk), (k1, k2, k3, k4, k5, k6, k7, k8, k9)), ((iv (hr A)), (iv (pe A)), (xs, xi, xk, xc, xl, xr, xb, yl, yr)), ((ht), (nt), (t1, t2, t3, t4, t5, t6, t7, t8, t9)), ((iv (tn)), (e1), (e2), (e3), (e4), tp), ((iv (bq 0)), (iv (sq 0)), c0), ((iv (bq 1)), (iv (sq 1)), c1), ((iv (bq 2)), (iv (sq 2)), (va_cpy c1 c2 (pf : Int).toNat (po : Int).toNat (pn : Int).toNat)), ((iv (bq 3)), (iv (sq 3)), c3)) h (by rw [e9]; exact ⟨rfl, ⟨⟨rfl, rfl, hR, hI, hr9⟩, hK, hF, hT, ⟨hB3, RepH_cn hH0 (by decide), RepH_cn hH1 (by decide), RepH_cp hH1 hH2 (by omega) (by omega) (by omega) (by omega), RepH_cn hH3 (by decide)⟩⟩⟩) dX4_copy_124
          · refine lv_aload_n X.1 X.2.1 dX4_copy_97 rfl (lv_at hl 2 rfl) ?_
            refine z_ldc (z := (-1000000001)) X ct_X4_48 (by decide) dX4_copy_98 ?_
            refine z_wi (st_sing (st_nil h)) (run_V (rest := []) X (st_sing (st_nil h)) (c_X4_finding (j := 0) hF (by decide) (by decide) (by decide)) mi_X4_finding ml_X4_49 ⟨Nat.le_of_ble_eq_true rfl, Nat.le_of_ble_eq_true rfl⟩ ⟨rfl, rfl⟩ (Seg.mk' _ _) 3 0 rfl rfl rfl rfl hl.1 rfl (Nat.le_of_ble_eq_true rfl) ⟨Nat.zero_le _, Nat.zero_le _⟩ dX4_copy_100) (fun _ => map_app (wO_map _ _ _ _ _ _ _ _ _ _ _) rfl) (fun r fd3 H locs hp h => ?_)
            have h := (st_lin (st_gnis h))
            obtain ⟨rfl, hF3⟩ := hp
            have h : St E _ s H locs (wO E a k b t x q ((iv (ik))) fd3 ++ (wS E k ((hk)) ((nk)) (k1, k2, k3, k4, k5, k6, k7, k8, k9) ++ (wS E b ((iv (hr A))) ((iv (pe A))) (xs, xi, xk, xc, xl, xr, xb, yl, yr) ++ (wS E t ((ht)) ((nt)) (t1, t2, t3, t4, t5, t6, t7, t8, t9) ++ (wX E x ((iv (tn))) ((e1)) ((e2)) ((e3)) ((e4)) tp ++ (wH E (q 0) ((iv (bq 0))) ((iv (sq 0))) c0 ++ (wH E (q 1) ((iv (bq 1))) ((iv (sq 1))) c1 ++ (wH E (q 2) ((iv (bq 2))) ((iv (sq 2))) c2 ++ (wH E (q 3) ((iv (bq 3))) ((iv (sq 3))) c3 ++ []))))))))) := h
            have e9 : q_copy bq sq cq ph 1 pf 2 po pn = ((-1000000001), cq, (bump ph 0)) := by first | (unfold q_copy; (repeat (first | rw [if_pos (by omega)] | rw [if_neg (by omega)])); first | done | rfl) | (exfalso; omega)
            exact ret _ _ _ _ _ (((iv (ik)), fd3), ((hk), (nk), (k1, k2, k3, k4, k5, k6, k7, k8, k9)), ((iv (hr A)), (iv (pe A)), (xs, xi, xk, xc, xl, xr, xb, yl, yr)), ((ht), (nt), (t1, t2, t3, t4, t5, t6, t7, t8, t9)), ((iv (tn)), (e1), (e2), (e3), (e4), tp), ((iv (bq 0)), (iv (sq 0)), c0), ((iv (bq 1)), (iv (sq 1)), c1), ((iv (bq 2)), (iv (sq 2)), c2), ((iv (bq 3)), (iv (sq 3)), c3)) h (by rw [e9]; exact ⟨rfl, ⟨⟨rfl, rfl, hR, hI, hr9⟩, hK, hF3, hT, hB⟩⟩) dX4_copy_103
      · refine lv_aload_n X.1 X.2.1 dX4_copy_67 rfl (lv_at hl 2 rfl) ?_
        refine z_ldc (z := (-1000000003)) X ct_X4_127 (by decide) dX4_copy_68 ?_
        refine z_wi (st_sing (st_nil h)) (run_V (rest := []) X (st_sing (st_nil h)) (c_X4_finding (j := 2) hF (by decide) (by decide) (by decide)) mi_X4_finding ml_X4_49 ⟨Nat.le_of_ble_eq_true rfl, Nat.le_of_ble_eq_true rfl⟩ ⟨rfl, rfl⟩ (Seg.mk' _ _) 3 0 rfl rfl rfl rfl hl.1 rfl (Nat.le_of_ble_eq_true rfl) ⟨Nat.zero_le _, Nat.zero_le _⟩ dX4_copy_70) (fun _ => map_app (wO_map _ _ _ _ _ _ _ _ _ _ _) rfl) (fun r fd4 H locs hp h => ?_)
        have h := (st_lin (st_gnis h))
        obtain ⟨rfl, hF4⟩ := hp
        have h : St E _ s H locs (wO E a k b t x q ((iv (ik))) fd4 ++ (wS E k ((hk)) ((nk)) (k1, k2, k3, k4, k5, k6, k7, k8, k9) ++ (wS E b ((iv (hr A))) ((iv (pe A))) (xs, xi, xk, xc, xl, xr, xb, yl, yr) ++ (wS E t ((ht)) ((nt)) (t1, t2, t3, t4, t5, t6, t7, t8, t9) ++ (wX E x ((iv (tn))) ((e1)) ((e2)) ((e3)) ((e4)) tp ++ (wH E (q 0) ((iv (bq 0))) ((iv (sq 0))) c0 ++ (wH E (q 1) ((iv (bq 1))) ((iv (sq 1))) c1 ++ (wH E (q 2) ((iv (bq 2))) ((iv (sq 2))) c2 ++ (wH E (q 3) ((iv (bq 3))) ((iv (sq 3))) c3 ++ []))))))))) := h
        have e9 : q_copy bq sq cq ph 1 pf 2 po pn = ((-1000000003), cq, (bump ph 2)) := by first | (unfold q_copy; (repeat (first | rw [if_pos (by omega)] | rw [if_neg (by omega)])); first | done | rfl) | (exfalso; omega)
        exact ret _ _ _ _ _ (((iv (ik)), fd4), ((hk), (nk), (k1, k2, k3, k4, k5, k6, k7, k8, k9)), ((iv (hr A)), (iv (pe A)), (xs, xi, xk, xc, xl, xr, xb, yl, yr)), ((ht), (nt), (t1, t2, t3, t4, t5, t6, t7, t8, t9)), ((iv (tn)), (e1), (e2), (e3), (e4), tp), ((iv (bq 0)), (iv (sq 0)), c0), ((iv (bq 1)), (iv (sq 1)), c1), ((iv (bq 2)), (iv (sq 2)), c2), ((iv (bq 3)), (iv (sq 3)), c3)) h (by rw [e9]; exact ⟨rfl, ⟨⟨rfl, rfl, hR, hI, hr9⟩, hK, hF4, hT, hB⟩⟩) dX4_copy_73
    · refine lv_aload_n X.1 X.2.1 dX4_copy_47 rfl (lv_at hl 2 rfl) ?_
      refine z_ldc (z := (-1000000006)) X ct_X4_197 (by decide) dX4_copy_48 ?_
      refine z_wi (st_sing (st_nil h)) (run_V (rest := []) X (st_sing (st_nil h)) (c_X4_finding (j := 5) hF (by decide) (by decide) (by decide)) mi_X4_finding ml_X4_49 ⟨Nat.le_of_ble_eq_true rfl, Nat.le_of_ble_eq_true rfl⟩ ⟨rfl, rfl⟩ (Seg.mk' _ _) 3 0 rfl rfl rfl rfl hl.1 rfl (Nat.le_of_ble_eq_true rfl) ⟨Nat.zero_le _, Nat.zero_le _⟩ dX4_copy_50) (fun _ => map_app (wO_map _ _ _ _ _ _ _ _ _ _ _) rfl) (fun r fd5 H locs hp h => ?_)
      have h := (st_lin (st_gnis h))
      obtain ⟨rfl, hF5⟩ := hp
      have h : St E _ s H locs (wO E a k b t x q ((iv (ik))) fd5 ++ (wS E k ((hk)) ((nk)) (k1, k2, k3, k4, k5, k6, k7, k8, k9) ++ (wS E b ((iv (hr A))) ((iv (pe A))) (xs, xi, xk, xc, xl, xr, xb, yl, yr) ++ (wS E t ((ht)) ((nt)) (t1, t2, t3, t4, t5, t6, t7, t8, t9) ++ (wX E x ((iv (tn))) ((e1)) ((e2)) ((e3)) ((e4)) tp ++ (wH E (q 0) ((iv (bq 0))) ((iv (sq 0))) c0 ++ (wH E (q 1) ((iv (bq 1))) ((iv (sq 1))) c1 ++ (wH E (q 2) ((iv (bq 2))) ((iv (sq 2))) c2 ++ (wH E (q 3) ((iv (bq 3))) ((iv (sq 3))) c3 ++ []))))))))) := h
      have e9 : q_copy bq sq cq ph 1 pf 2 po pn = ((-1000000006), cq, (bump ph 5)) := by first | (unfold q_copy; (repeat (first | rw [if_pos (by omega)] | rw [if_neg (by omega)])); first | done | rfl) | (exfalso; omega)
      exact ret _ _ _ _ _ (((iv (ik)), fd5), ((hk), (nk), (k1, k2, k3, k4, k5, k6, k7, k8, k9)), ((iv (hr A)), (iv (pe A)), (xs, xi, xk, xc, xl, xr, xb, yl, yr)), ((ht), (nt), (t1, t2, t3, t4, t5, t6, t7, t8, t9)), ((iv (tn)), (e1), (e2), (e3), (e4), tp), ((iv (bq 0)), (iv (sq 0)), c0), ((iv (bq 1)), (iv (sq 1)), c1), ((iv (bq 2)), (iv (sq 2)), c2), ((iv (bq 3)), (iv (sq 3)), c3)) h (by rw [e9]; exact ⟨rfl, ⟨⟨rfl, rfl, hR, hI, hr9⟩, hK, hF5, hT, hB⟩⟩) dX4_copy_53

set_option maxHeartbeats 4000000 in
theorem c_X4_copy_1_3 (hS : RepC (((iv (ik)), fd), ((hk), (nk), (k1, k2, k3, k4, k5, k6, k7, k8, k9)), ((iv (hr A)), (iv (pe A)), (xs, xi, xk, xc, xl, xr, xb, yl, yr)), ((ht), (nt), (t1, t2, t3, t4, t5, t6, t7, t8, t9)), ((iv (tn)), (e1), (e2), (e3), (e4), tp), ((iv (bq 0)), (iv (sq 0)), c0), ((iv (bq 1)), (iv (sq 1)), c1), ((iv (bq 2)), (iv (sq 2)), c2), ((iv (bq 3)), (iv (sq 3)), c3)) (A, K, ik, ph, tq, tn, bq, sq, cq)) {pf : Int} (r_pf : r32 pf) {po : Int} (r_po : r32 po) {pn : Int} (r_pn : r32 pn) : MI (S := Tc) E l yX4_copy cX4_copy 8 (some FieldType.int) (rmk 2 44) (wO E a k b t x q ((iv (ik))) fd ++ (wS E k ((hk)) ((nk)) (k1, k2, k3, k4, k5, k6, k7, k8, k9) ++ (wS E b ((iv (hr A))) ((iv (pe A))) (xs, xi, xk, xc, xl, xr, xb, yl, yr) ++ (wS E t ((ht)) ((nt)) (t1, t2, t3, t4, t5, t6, t7, t8, t9) ++ (wX E x ((iv (tn))) ((e1)) ((e2)) ((e3)) ((e4)) tp ++ (wH E (q 0) ((iv (bq 0))) ((iv (sq 0))) c0 ++ (wH E (q 1) ((iv (bq 1))) ((iv (sq 1))) c1 ++ (wH E (q 2) ((iv (bq 2))) ((iv (sq 2))) c2 ++ (wH E (q 3) ((iv (bq 3))) ((iv (sq 3))) c3 ++ []))))))))) [.ref (a 0), .int (iv (1)), .int (iv (pf)), .int (iv (3)), .int (iv (po)), .int (iv (pn))] (fun r u => r = iv ((q_copy bq sq cq ph 1 pf 3 po pn).1) ∧ RepC u (A, K, ik, (q_copy bq sq cq ph 1 pf 3 po pn).2.2, tq, tn, bq, sq, (q_copy bq sq cq ph 1 pf 3 po pn).2.1)) (fun u => wT E a k b t x q u) := by
  refine goI (S := Tc) (post := fun r u => r = iv ((q_copy bq sq cq ph 1 pf 3 po pn).1) ∧ RepC u (A, K, ik, (q_copy bq sq cq ph 1 pf 3 po pn).2.2, tq, tn, bq, sq, (q_copy bq sq cq ph 1 pf 3 po pn).2.1)) (ws' := fun u => wT E a k b t x q u) (by decide) (Nat.le_of_ble_eq_true rfl) ?_
  intro pp e s m below meth c ls args Q ret X h hl
  have hl : lv_has ls 8 [(0, .ref (a 0)), (1, .int (iv (1))), (2, .int (iv (pf))), (3, .int (iv (3))), (4, .int (iv (po))), (5, .int (iv (pn)))] := hl
  have hR : RS (xs, xi, xk, xc, xl, xr, xb, yl, yr) A := hS.1.2.2.1
  have hI : IA A := hS.1.2.2.2.1
  have hr9 : hr A ≤ 99999 := hS.1.2.2.2.2
  have hF : RF 7 fd ph := hS.2.2.1
  have hK := hS.2.1
  have hT := hS.2.2.2.1
  have hB := hS.2.2.2.2
  have hh : hr A < 1000000 := by omega
  have n8 := hI.n8
  have n0 := hI.n0
  have h0 := hI.h0
  have ht0 : 0 ≤ tn := hS.2.2.2.1.2.1
  have ht1 : tn ≤ 120 := hS.2.2.2.1.2.2.1
  have hk01 : ik = 0 ∨ ik = 1 := hS.2.1.2.1
  have hB3 : okB bq sq := hS.2.2.2.2.1
  have hH0 : RepH (iv (bq 0), iv (sq 0), c0) bq sq cq 0 := hS.2.2.2.2.2.1
  have hH1 : RepH (iv (bq 1), iv (sq 1), c1) bq sq cq 1 := hS.2.2.2.2.2.2.1
  have hH2 : RepH (iv (bq 2), iv (sq 2), c2) bq sq cq 2 := hS.2.2.2.2.2.2.2.1
  have hH3 : RepH (iv (bq 3), iv (sq 3), c3) bq sq cq 3 := hS.2.2.2.2.2.2.2.2
  have ob1 := hB3.1 1 (by omega) (by omega)
  have zb1 := hB3.2 1 (by omega) (by omega)
  have ob3 := hB3.1 3 (by omega) (by omega)
  have zb3 := hB3.2 3 (by omega) (by omega)
  have q2 := r_pf.1
  have q22 := r_pf.2
  have q4 := r_po.1
  have q42 := r_po.2
  have q5 := r_pn.1
  have q52 := r_pn.2
  refine lv_aload_n X.1 X.2.1 dX4_copy_0 rfl (lv_at hl 0 rfl) ?_
  refine lv_iload_n X.1 X.2.1 dX4_copy_1 rfl (lv_at hl 1 rfl) ?_
  refine z_pq (run_V (rest := []) X h (c_sheetAt1) mi_X4_sheetAt ml_X4_184 ⟨Nat.le_of_ble_eq_true rfl, Nat.le_of_ble_eq_true rfl⟩ ⟨rfl, rfl⟩ (Seg.rfl' _) 3 0 rfl rfl rfl rfl hl.1 rfl (Nat.le_of_ble_eq_true rfl) ⟨Nat.zero_le _, Nat.zero_le _⟩ dX4_copy_2) ?_
  refine W.eq (g2 := F0 m 5 ls [.ref (q 1 0)]) rfl ?_
  refine lv_astore (lv' := [(6, .ref (q 1 0)), (0, .ref (a 0)), (1, .int (iv (1))), (2, .int (iv (pf))), (3, .int (iv (3))), (4, .int (iv (po))), (5, .int (iv (pn)))]) X.1 X.2.1 dX4_copy_5 hl (by decide) rfl (fun ls hl => ?_)
  refine lv_aload_n X.1 X.2.1 dX4_copy_7 rfl (lv_at hl 1 rfl) ?_
  refine lv_iload_n X.1 X.2.1 dX4_copy_8 rfl (lv_at hl 4 rfl) ?_
  refine z_pq (run_V (rest := []) X h (c_sheetAt3) mi_X4_sheetAt ml_X4_184 ⟨Nat.le_of_ble_eq_true rfl, Nat.le_of_ble_eq_true rfl⟩ ⟨rfl, rfl⟩ (Seg.rfl' _) 3 0 rfl rfl rfl rfl hl.1 rfl (Nat.le_of_ble_eq_true rfl) ⟨Nat.zero_le _, Nat.zero_le _⟩ dX4_copy_9) ?_
  refine W.eq (g2 := F0 m 12 ls [.ref (q 3 0)]) rfl ?_
  refine lv_astore (lv' := [(7, .ref (q 3 0)), (6, .ref (q 1 0)), (0, .ref (a 0)), (1, .int (iv (1))), (2, .int (iv (pf))), (3, .int (iv (3))), (4, .int (iv (po))), (5, .int (iv (pn)))]) X.1 X.2.1 dX4_copy_12 hl (by decide) rfl (fun ls hl => ?_)
  refine lv_aload X.1 X.2.1 dX4_copy_14 (lv_at hl 1 rfl) ?_
  refine lv_ifnull X.1 X.2.1 dX4_copy_16 ?_
  refine lv_aload X.1 X.2.1 dX4_copy_19 (lv_at hl 0 rfl) ?_
  refine lv_ifnonnull (tgt := 31) X.1 X.2.1 dX4_copy_21 (by decide) ?_
  refine lv_aload X.1 X.2.1 dX4_copy_31 (lv_at hl 1 rfl) ?_
  refine z_pi (run_V (rest := []) X (st_sing (st_in (st_in (st_in (st_in (st_in (st_in (st_nil h)))))))) (c_X0_isMissing (y := q 1) (bt := bq 1) ⟨by omega, by omega⟩) mi_X0_isMissing ml_X4_193 ⟨Nat.le_of_ble_eq_true rfl, Nat.le_of_ble_eq_true rfl⟩ ⟨rfl, rfl⟩ (Seg.mk' _ _) 0 37 rfl rfl rfl rfl hl.1 rfl (Nat.le_of_ble_eq_true rfl) ⟨Nat.zero_le _, Nat.zero_le _⟩ dX4_copy_33) ?_
  refine z_ifb_ne (tgt := 47) X dX4_copy_36 (by decide) (fun c_36 => ?_) (fun c_36 => ?_)
  · refine lv_aload_n X.1 X.2.1 dX4_copy_47 rfl (lv_at hl 2 rfl) ?_
    refine z_ldc (z := (-1000000006)) X ct_X4_197 (by decide) dX4_copy_48 ?_
    refine z_wi (st_sing (st_nil h)) (run_V (rest := []) X (st_sing (st_nil h)) (c_X4_finding (j := 5) hF (by decide) (by decide) (by decide)) mi_X4_finding ml_X4_49 ⟨Nat.le_of_ble_eq_true rfl, Nat.le_of_ble_eq_true rfl⟩ ⟨rfl, rfl⟩ (Seg.mk' _ _) 3 0 rfl rfl rfl rfl hl.1 rfl (Nat.le_of_ble_eq_true rfl) ⟨Nat.zero_le _, Nat.zero_le _⟩ dX4_copy_50) (fun _ => map_app (wO_map _ _ _ _ _ _ _ _ _ _ _) rfl) (fun r fd1 H locs hp h => ?_)
    have h := (st_lin (st_gnis h))
    obtain ⟨rfl, hF1⟩ := hp
    have h : St E _ s H locs (wO E a k b t x q ((iv (ik))) fd1 ++ (wS E k ((hk)) ((nk)) (k1, k2, k3, k4, k5, k6, k7, k8, k9) ++ (wS E b ((iv (hr A))) ((iv (pe A))) (xs, xi, xk, xc, xl, xr, xb, yl, yr) ++ (wS E t ((ht)) ((nt)) (t1, t2, t3, t4, t5, t6, t7, t8, t9) ++ (wX E x ((iv (tn))) ((e1)) ((e2)) ((e3)) ((e4)) tp ++ (wH E (q 0) ((iv (bq 0))) ((iv (sq 0))) c0 ++ (wH E (q 1) ((iv (bq 1))) ((iv (sq 1))) c1 ++ (wH E (q 2) ((iv (bq 2))) ((iv (sq 2))) c2 ++ (wH E (q 3) ((iv (bq 3))) ((iv (sq 3))) c3 ++ []))))))))) := h
    have e9 : q_copy bq sq cq ph 1 pf 3 po pn = ((-1000000006), cq, (bump ph 5)) := by first | (unfold q_copy; (repeat (first | rw [if_pos (by omega)] | rw [if_neg (by omega)])); first | done | rfl) | (exfalso; omega)
    exact ret _ _ _ _ _ (((iv (ik)), fd1), ((hk), (nk), (k1, k2, k3, k4, k5, k6, k7, k8, k9)), ((iv (hr A)), (iv (pe A)), (xs, xi, xk, xc, xl, xr, xb, yl, yr)), ((ht), (nt), (t1, t2, t3, t4, t5, t6, t7, t8, t9)), ((iv (tn)), (e1), (e2), (e3), (e4), tp), ((iv (bq 0)), (iv (sq 0)), c0), ((iv (bq 1)), (iv (sq 1)), c1), ((iv (bq 2)), (iv (sq 2)), c2), ((iv (bq 3)), (iv (sq 3)), c3)) h (by rw [e9]; exact ⟨rfl, ⟨⟨rfl, rfl, hR, hI, hr9⟩, hK, hF1, hT, hB⟩⟩) dX4_copy_53
  · refine lv_aload X.1 X.2.1 dX4_copy_39 (lv_at hl 0 rfl) ?_
    refine z_pi (run_V (rest := []) X (st_sing (st_in (st_in (st_in (st_in (st_in (st_in (st_in (st_in (st_nil h)))))))))) (c_X0_isMissing (y := q 3) (bt := bq 3) ⟨by omega, by omega⟩) mi_X0_isMissing ml_X4_193 ⟨Nat.le_of_ble_eq_true rfl, Nat.le_of_ble_eq_true rfl⟩ ⟨rfl, rfl⟩ (Seg.mk' _ _) 0 41 rfl rfl rfl rfl hl.1 rfl (Nat.le_of_ble_eq_true rfl) ⟨Nat.zero_le _, Nat.zero_le _⟩ dX4_copy_41) ?_
    refine z_ifb_eq (tgt := 54) X dX4_copy_44 (by decide) (fun c_44 => ?_) (fun c_44 => ?_)
    · refine lv_aload X.1 X.2.1 dX4_copy_54 (lv_at hl 1 rfl) ?_
      refine z_get X h 0 37 0 rfl inX0 rfl (by decide) fl_X4_206 rfl dX4_copy_56 ?_
      refine lv_aload X.1 X.2.1 dX4_copy_59 (lv_at hl 0 rfl) ?_
      refine z_get X h 0 41 0 rfl inX0 rfl (by decide) fl_X4_206 rfl dX4_copy_61 ?_
      refine z_ic_eq (tgt := 74) X ⟨by omega, by omega⟩ ⟨by omega, by omega⟩ dX4_copy_64 (by decide) (fun c_64 => ?_) (fun c_64 => ?_)
      · refine lv_aload X.1 X.2.1 dX4_copy_74 (lv_at hl 1 rfl) ?_
        refine lv_iload_n X.1 X.2.1 dX4_copy_76 rfl (lv_at hl 4 rfl) ?_
        refine lv_iload X.1 X.2.1 dX4_copy_77 (lv_at hl 7 rfl) ?_
        refine z_pi (run_V (rest := []) X (st_sing (st_in (st_in (st_in (st_in (st_in (st_in (st_nil h)))))))) (c_X0_has (y := q 1) (sz := sq 1) (fr := pf) (n9 := pn) (by omega) (by omega) r_pf r_pn) mi_X0_has ml_X4_209 ⟨Nat.le_of_ble_eq_true rfl, Nat.le_of_ble_eq_true rfl⟩ ⟨rfl, rfl⟩ (Seg.mk' _ _) 0 37 rfl rfl rfl rfl hl.1 rfl (Nat.le_of_ble_eq_true rfl) ⟨Nat.zero_le _, Nat.zero_le _⟩ dX4_copy_79) ?_
        refine z_ifb_eq (tgt := 97) X dX4_copy_82 (by decide) (fun c_82 => ?_) (fun c_82 => ?_)
        · refine lv_aload_n X.1 X.2.1 dX4_copy_97 rfl (lv_at hl 2 rfl) ?_
          refine z_ldc (z := (-1000000001)) X ct_X4_48 (by decide) dX4_copy_98 ?_
          refine z_wi (st_sing (st_nil h)) (run_V (rest := []) X (st_sing (st_nil h)) (c_X4_finding (j := 0) hF (by decide) (by decide) (by decide)) mi_X4_finding ml_X4_49 ⟨Nat.le_of_ble_eq_true rfl, Nat.le_of_ble_eq_true rfl⟩ ⟨rfl, rfl⟩ (Seg.mk' _ _) 3 0 rfl rfl rfl rfl hl.1 rfl (Nat.le_of_ble_eq_true rfl) ⟨Nat.zero_le _, Nat.zero_le _⟩ dX4_copy_100) (fun _ => map_app (wO_map _ _ _ _ _ _ _ _ _ _ _) rfl) (fun r fd2 H locs hp h => ?_)
          have h := (st_lin (st_gnis h))
          obtain ⟨rfl, hF2⟩ := hp
          have h : St E _ s H locs (wO E a k b t x q ((iv (ik))) fd2 ++ (wS E k ((hk)) ((nk)) (k1, k2, k3, k4, k5, k6, k7, k8, k9) ++ (wS E b ((iv (hr A))) ((iv (pe A))) (xs, xi, xk, xc, xl, xr, xb, yl, yr) ++ (wS E t ((ht)) ((nt)) (t1, t2, t3, t4, t5, t6, t7, t8, t9) ++ (wX E x ((iv (tn))) ((e1)) ((e2)) ((e3)) ((e4)) tp ++ (wH E (q 0) ((iv (bq 0))) ((iv (sq 0))) c0 ++ (wH E (q 1) ((iv (bq 1))) ((iv (sq 1))) c1 ++ (wH E (q 2) ((iv (bq 2))) ((iv (sq 2))) c2 ++ (wH E (q 3) ((iv (bq 3))) ((iv (sq 3))) c3 ++ []))))))))) := h
          have e9 : q_copy bq sq cq ph 1 pf 3 po pn = ((-1000000001), cq, (bump ph 0)) := by first | (unfold q_copy; (repeat (first | rw [if_pos (by omega)] | rw [if_neg (by omega)])); first | done | rfl) | (exfalso; omega)
          exact ret _ _ _ _ _ (((iv (ik)), fd2), ((hk), (nk), (k1, k2, k3, k4, k5, k6, k7, k8, k9)), ((iv (hr A)), (iv (pe A)), (xs, xi, xk, xc, xl, xr, xb, yl, yr)), ((ht), (nt), (t1, t2, t3, t4, t5, t6, t7, t8, t9)), ((iv (tn)), (e1), (e2), (e3), (e4), tp), ((iv (bq 0)), (iv (sq 0)), c0), ((iv (bq 1)), (iv (sq 1)), c1), ((iv (bq 2)), (iv (sq 2)), c2), ((iv (bq 3)), (iv (sq 3)), c3)) h (by rw [e9]; exact ⟨rfl, ⟨⟨rfl, rfl, hR, hI, hr9⟩, hK, hF2, hT, hB⟩⟩) dX4_copy_103
        · refine lv_aload X.1 X.2.1 dX4_copy_85 (lv_at hl 0 rfl) ?_
          refine lv_iload X.1 X.2.1 dX4_copy_87 (lv_at hl 6 rfl) ?_
          refine lv_iload X.1 X.2.1 dX4_copy_89 (lv_at hl 7 rfl) ?_
          refine z_pi (run_V (rest := []) X (st_sing (st_in (st_in (st_in (st_in (st_in (st_in (st_in (st_in (st_nil h)))))))))) (c_X0_has (y := q 3) (sz := sq 3) (fr := po) (n9 := pn) (by omega) (by omega) r_po r_pn) mi_X0_has ml_X4_209 ⟨Nat.le_of_ble_eq_true rfl, Nat.le_of_ble_eq_true rfl⟩ ⟨rfl, rfl⟩ (Seg.mk' _ _) 0 41 rfl rfl rfl rfl hl.1 rfl (Nat.le_of_ble_eq_true rfl) ⟨Nat.zero_le _, Nat.zero_le _⟩ dX4_copy_91) ?_
          refine z_ifb_ne (tgt := 104) X dX4_copy_94 (by decide) (fun c_94 => ?_) (fun c_94 => ?_)
          · refine lv_aload X.1 X.2.1 dX4_copy_104 (lv_at hl 1 rfl) ?_
            refine z_get X h 0 37 2 rfl inX0 rfl (by decide) fl_X4_198 rfl dX4_copy_106 ?_
            refine lv_iload_n X.1 X.2.1 dX4_copy_109 rfl (lv_at hl 4 rfl) ?_
            refine lv_aload X.1 X.2.1 dX4_copy_110 (lv_at hl 0 rfl) ?_
            refine z_get X h 0 41 2 rfl inX0 rfl (by decide) fl_X4_198 rfl dX4_copy_112 ?_
            refine lv_iload X.1 X.2.1 dX4_copy_115 (lv_at hl 6 rfl) ?_
            refine lv_iload X.1 X.2.1 dX4_copy_117 (lv_at hl 7 rfl) ?_
            refine s_copyl X (st_in (st_in (st_in (st_in (st_in (st_in (st_in (st_in (st_nil h))))))))) rfl 38 1 rfl rfl ml_X4_212 (by omega) (by omega) (by omega) (by omega) (by omega) (by decide) (by decide) hl.1 (Nat.le_of_ble_eq_true rfl) (Nat.le_of_ble_eq_true rfl) dX4_copy_119 (fun H locs h => ?_)
            have h := (st_lin (st_out (st_out (st_out (st_out (st_out (st_out (st_out (st_out (st_eq wH_numbers h))))))))))
            have h : St E _ s H locs (wO E a k b t x q ((iv (ik))) fd ++ (wS E k ((hk)) ((nk)) (k1, k2, k3, k4, k5, k6, k7, k8, k9) ++ (wS E b ((iv (hr A))) ((iv (pe A))) (xs, xi, xk, xc, xl, xr, xb, yl, yr) ++ (wS E t ((ht)) ((nt)) (t1, t2, t3, t4, t5, t6, t7, t8, t9) ++ (wX E x ((iv (tn))) ((e1)) ((e2)) ((e3)) ((e4)) tp ++ (wH E (q 0) ((iv (bq 0))) ((iv (sq 0))) c0 ++ (wH E (q 1) ((iv (bq 1))) ((iv (sq 1))) c1 ++ (wH E (q 2) ((iv (bq 2))) ((iv (sq 2))) c2 ++ (wH E (q 3) ((iv (bq 3))) ((iv (sq 3))) (va_cpy c1 c3 (pf : Int).toNat (po : Int).toNat (pn : Int).toNat) ++ []))))))))) := h
            refine lv_iload X.1 X.2.1 dX4_copy_122 (lv_at hl 7 rfl) ?_
            have e9 : q_copy bq sq cq ph 1 pf 3 po pn = (pn, (cpy cq 1 pf 3 po 0 pn), ph) := by first | (unfold q_copy; (repeat (first | rw [if_pos (by omega)] | rw [if_neg (by omega)])); first | done | rfl) | (exfalso; omega)
            exact ret _ _ _ _ _ (((iv (ik)), fd), ((hk), (nk), (k1, k2, k3, k4, k5, k6, k7, k8, k9)), ((iv (hr A)), (iv (pe A)), (xs, xi, xk, xc, xl, xr, xb, yl, yr)), ((ht), (nt), (t1, t2, t3, t4, t5, t6, t7, t8, t9)), ((iv (tn)), (e1), (e2), (e3), (e4), tp), ((iv (bq 0)), (iv (sq 0)), c0), ((iv (bq 1)), (iv (sq 1)), c1), ((iv (bq 2)), (iv (sq 2)), c2), ((iv (bq 3)), (iv (sq 3)), (va_cpy c1 c3 (pf : Int).toNat (po : Int).toNat (pn : Int).toNat))) h (by rw [e9]; exact ⟨rfl, ⟨⟨rfl, rfl, hR, hI, hr9⟩, hK, hF, hT, ⟨hB3, RepH_cn hH0 (by decide), RepH_cn hH1 (by decide), RepH_cn hH2 (by decide), RepH_cp hH1 hH3 (by omega) (by omega) (by omega) (by omega)⟩⟩⟩) dX4_copy_124
          · refine lv_aload_n X.1 X.2.1 dX4_copy_97 rfl (lv_at hl 2 rfl) ?_
            refine z_ldc (z := (-1000000001)) X ct_X4_48 (by decide) dX4_copy_98 ?_
            refine z_wi (st_sing (st_nil h)) (run_V (rest := []) X (st_sing (st_nil h)) (c_X4_finding (j := 0) hF (by decide) (by decide) (by decide)) mi_X4_finding ml_X4_49 ⟨Nat.le_of_ble_eq_true rfl, Nat.le_of_ble_eq_true rfl⟩ ⟨rfl, rfl⟩ (Seg.mk' _ _) 3 0 rfl rfl rfl rfl hl.1 rfl (Nat.le_of_ble_eq_true rfl) ⟨Nat.zero_le _, Nat.zero_le _⟩ dX4_copy_100) (fun _ => map_app (wO_map _ _ _ _ _ _ _ _ _ _ _) rfl) (fun r fd3 H locs hp h => ?_)
            have h := (st_lin (st_gnis h))
            obtain ⟨rfl, hF3⟩ := hp
            have h : St E _ s H locs (wO E a k b t x q ((iv (ik))) fd3 ++ (wS E k ((hk)) ((nk)) (k1, k2, k3, k4, k5, k6, k7, k8, k9) ++ (wS E b ((iv (hr A))) ((iv (pe A))) (xs, xi, xk, xc, xl, xr, xb, yl, yr) ++ (wS E t ((ht)) ((nt)) (t1, t2, t3, t4, t5, t6, t7, t8, t9) ++ (wX E x ((iv (tn))) ((e1)) ((e2)) ((e3)) ((e4)) tp ++ (wH E (q 0) ((iv (bq 0))) ((iv (sq 0))) c0 ++ (wH E (q 1) ((iv (bq 1))) ((iv (sq 1))) c1 ++ (wH E (q 2) ((iv (bq 2))) ((iv (sq 2))) c2 ++ (wH E (q 3) ((iv (bq 3))) ((iv (sq 3))) c3 ++ []))))))))) := h
            have e9 : q_copy bq sq cq ph 1 pf 3 po pn = ((-1000000001), cq, (bump ph 0)) := by first | (unfold q_copy; (repeat (first | rw [if_pos (by omega)] | rw [if_neg (by omega)])); first | done | rfl) | (exfalso; omega)
            exact ret _ _ _ _ _ (((iv (ik)), fd3), ((hk), (nk), (k1, k2, k3, k4, k5, k6, k7, k8, k9)), ((iv (hr A)), (iv (pe A)), (xs, xi, xk, xc, xl, xr, xb, yl, yr)), ((ht), (nt), (t1, t2, t3, t4, t5, t6, t7, t8, t9)), ((iv (tn)), (e1), (e2), (e3), (e4), tp), ((iv (bq 0)), (iv (sq 0)), c0), ((iv (bq 1)), (iv (sq 1)), c1), ((iv (bq 2)), (iv (sq 2)), c2), ((iv (bq 3)), (iv (sq 3)), c3)) h (by rw [e9]; exact ⟨rfl, ⟨⟨rfl, rfl, hR, hI, hr9⟩, hK, hF3, hT, hB⟩⟩) dX4_copy_103
      · refine lv_aload_n X.1 X.2.1 dX4_copy_67 rfl (lv_at hl 2 rfl) ?_
        refine z_ldc (z := (-1000000003)) X ct_X4_127 (by decide) dX4_copy_68 ?_
        refine z_wi (st_sing (st_nil h)) (run_V (rest := []) X (st_sing (st_nil h)) (c_X4_finding (j := 2) hF (by decide) (by decide) (by decide)) mi_X4_finding ml_X4_49 ⟨Nat.le_of_ble_eq_true rfl, Nat.le_of_ble_eq_true rfl⟩ ⟨rfl, rfl⟩ (Seg.mk' _ _) 3 0 rfl rfl rfl rfl hl.1 rfl (Nat.le_of_ble_eq_true rfl) ⟨Nat.zero_le _, Nat.zero_le _⟩ dX4_copy_70) (fun _ => map_app (wO_map _ _ _ _ _ _ _ _ _ _ _) rfl) (fun r fd4 H locs hp h => ?_)
        have h := (st_lin (st_gnis h))
        obtain ⟨rfl, hF4⟩ := hp
        have h : St E _ s H locs (wO E a k b t x q ((iv (ik))) fd4 ++ (wS E k ((hk)) ((nk)) (k1, k2, k3, k4, k5, k6, k7, k8, k9) ++ (wS E b ((iv (hr A))) ((iv (pe A))) (xs, xi, xk, xc, xl, xr, xb, yl, yr) ++ (wS E t ((ht)) ((nt)) (t1, t2, t3, t4, t5, t6, t7, t8, t9) ++ (wX E x ((iv (tn))) ((e1)) ((e2)) ((e3)) ((e4)) tp ++ (wH E (q 0) ((iv (bq 0))) ((iv (sq 0))) c0 ++ (wH E (q 1) ((iv (bq 1))) ((iv (sq 1))) c1 ++ (wH E (q 2) ((iv (bq 2))) ((iv (sq 2))) c2 ++ (wH E (q 3) ((iv (bq 3))) ((iv (sq 3))) c3 ++ []))))))))) := h
        have e9 : q_copy bq sq cq ph 1 pf 3 po pn = ((-1000000003), cq, (bump ph 2)) := by first | (unfold q_copy; (repeat (first | rw [if_pos (by omega)] | rw [if_neg (by omega)])); first | done | rfl) | (exfalso; omega)
        exact ret _ _ _ _ _ (((iv (ik)), fd4), ((hk), (nk), (k1, k2, k3, k4, k5, k6, k7, k8, k9)), ((iv (hr A)), (iv (pe A)), (xs, xi, xk, xc, xl, xr, xb, yl, yr)), ((ht), (nt), (t1, t2, t3, t4, t5, t6, t7, t8, t9)), ((iv (tn)), (e1), (e2), (e3), (e4), tp), ((iv (bq 0)), (iv (sq 0)), c0), ((iv (bq 1)), (iv (sq 1)), c1), ((iv (bq 2)), (iv (sq 2)), c2), ((iv (bq 3)), (iv (sq 3)), c3)) h (by rw [e9]; exact ⟨rfl, ⟨⟨rfl, rfl, hR, hI, hr9⟩, hK, hF4, hT, hB⟩⟩) dX4_copy_73
    · refine lv_aload_n X.1 X.2.1 dX4_copy_47 rfl (lv_at hl 2 rfl) ?_
      refine z_ldc (z := (-1000000006)) X ct_X4_197 (by decide) dX4_copy_48 ?_
      refine z_wi (st_sing (st_nil h)) (run_V (rest := []) X (st_sing (st_nil h)) (c_X4_finding (j := 5) hF (by decide) (by decide) (by decide)) mi_X4_finding ml_X4_49 ⟨Nat.le_of_ble_eq_true rfl, Nat.le_of_ble_eq_true rfl⟩ ⟨rfl, rfl⟩ (Seg.mk' _ _) 3 0 rfl rfl rfl rfl hl.1 rfl (Nat.le_of_ble_eq_true rfl) ⟨Nat.zero_le _, Nat.zero_le _⟩ dX4_copy_50) (fun _ => map_app (wO_map _ _ _ _ _ _ _ _ _ _ _) rfl) (fun r fd5 H locs hp h => ?_)
      have h := (st_lin (st_gnis h))
      obtain ⟨rfl, hF5⟩ := hp
      have h : St E _ s H locs (wO E a k b t x q ((iv (ik))) fd5 ++ (wS E k ((hk)) ((nk)) (k1, k2, k3, k4, k5, k6, k7, k8, k9) ++ (wS E b ((iv (hr A))) ((iv (pe A))) (xs, xi, xk, xc, xl, xr, xb, yl, yr) ++ (wS E t ((ht)) ((nt)) (t1, t2, t3, t4, t5, t6, t7, t8, t9) ++ (wX E x ((iv (tn))) ((e1)) ((e2)) ((e3)) ((e4)) tp ++ (wH E (q 0) ((iv (bq 0))) ((iv (sq 0))) c0 ++ (wH E (q 1) ((iv (bq 1))) ((iv (sq 1))) c1 ++ (wH E (q 2) ((iv (bq 2))) ((iv (sq 2))) c2 ++ (wH E (q 3) ((iv (bq 3))) ((iv (sq 3))) c3 ++ []))))))))) := h
      have e9 : q_copy bq sq cq ph 1 pf 3 po pn = ((-1000000006), cq, (bump ph 5)) := by first | (unfold q_copy; (repeat (first | rw [if_pos (by omega)] | rw [if_neg (by omega)])); first | done | rfl) | (exfalso; omega)
      exact ret _ _ _ _ _ (((iv (ik)), fd5), ((hk), (nk), (k1, k2, k3, k4, k5, k6, k7, k8, k9)), ((iv (hr A)), (iv (pe A)), (xs, xi, xk, xc, xl, xr, xb, yl, yr)), ((ht), (nt), (t1, t2, t3, t4, t5, t6, t7, t8, t9)), ((iv (tn)), (e1), (e2), (e3), (e4), tp), ((iv (bq 0)), (iv (sq 0)), c0), ((iv (bq 1)), (iv (sq 1)), c1), ((iv (bq 2)), (iv (sq 2)), c2), ((iv (bq 3)), (iv (sq 3)), c3)) h (by rw [e9]; exact ⟨rfl, ⟨⟨rfl, rfl, hR, hI, hr9⟩, hK, hF5, hT, hB⟩⟩) dX4_copy_53

set_option maxHeartbeats 4000000 in
theorem c_X4_copy_1_N (hS : RepC (((iv (ik)), fd), ((hk), (nk), (k1, k2, k3, k4, k5, k6, k7, k8, k9)), ((iv (hr A)), (iv (pe A)), (xs, xi, xk, xc, xl, xr, xb, yl, yr)), ((ht), (nt), (t1, t2, t3, t4, t5, t6, t7, t8, t9)), ((iv (tn)), (e1), (e2), (e3), (e4), tp), ((iv (bq 0)), (iv (sq 0)), c0), ((iv (bq 1)), (iv (sq 1)), c1), ((iv (bq 2)), (iv (sq 2)), c2), ((iv (bq 3)), (iv (sq 3)), c3)) (A, K, ik, ph, tq, tn, bq, sq, cq)) {pf : Int} (r_pf : r32 pf) {pt : Int} (r_pt : r32 pt) {po : Int} (r_po : r32 po) {pn : Int} (r_pn : r32 pn) (hot : pt < 0 ∨ 3 < pt) : MI (S := Tc) E l yX4_copy cX4_copy 8 (some FieldType.int) (rmk 2 44) (wO E a k b t x q ((iv (ik))) fd ++ (wS E k ((hk)) ((nk)) (k1, k2, k3, k4, k5, k6, k7, k8, k9) ++ (wS E b ((iv (hr A))) ((iv (pe A))) (xs, xi, xk, xc, xl, xr, xb, yl, yr) ++ (wS E t ((ht)) ((nt)) (t1, t2, t3, t4, t5, t6, t7, t8, t9) ++ (wX E x ((iv (tn))) ((e1)) ((e2)) ((e3)) ((e4)) tp ++ (wH E (q 0) ((iv (bq 0))) ((iv (sq 0))) c0 ++ (wH E (q 1) ((iv (bq 1))) ((iv (sq 1))) c1 ++ (wH E (q 2) ((iv (bq 2))) ((iv (sq 2))) c2 ++ (wH E (q 3) ((iv (bq 3))) ((iv (sq 3))) c3 ++ []))))))))) [.ref (a 0), .int (iv (1)), .int (iv (pf)), .int (iv (pt)), .int (iv (po)), .int (iv (pn))] (fun r u => r = iv ((q_copy bq sq cq ph 1 pf pt po pn).1) ∧ RepC u (A, K, ik, (q_copy bq sq cq ph 1 pf pt po pn).2.2, tq, tn, bq, sq, (q_copy bq sq cq ph 1 pf pt po pn).2.1)) (fun u => wT E a k b t x q u) := by
  refine goI (S := Tc) (post := fun r u => r = iv ((q_copy bq sq cq ph 1 pf pt po pn).1) ∧ RepC u (A, K, ik, (q_copy bq sq cq ph 1 pf pt po pn).2.2, tq, tn, bq, sq, (q_copy bq sq cq ph 1 pf pt po pn).2.1)) (ws' := fun u => wT E a k b t x q u) (by decide) (Nat.le_of_ble_eq_true rfl) ?_
  intro pp e s m below meth c ls args Q ret X h hl
  have hl : lv_has ls 8 [(0, .ref (a 0)), (1, .int (iv (1))), (2, .int (iv (pf))), (3, .int (iv (pt))), (4, .int (iv (po))), (5, .int (iv (pn)))] := hl
  have hR : RS (xs, xi, xk, xc, xl, xr, xb, yl, yr) A := hS.1.2.2.1
  have hI : IA A := hS.1.2.2.2.1
  have hr9 : hr A ≤ 99999 := hS.1.2.2.2.2
  have hF : RF 7 fd ph := hS.2.2.1
  have hK := hS.2.1
  have hT := hS.2.2.2.1
  have hB := hS.2.2.2.2
  have hh : hr A < 1000000 := by omega
  have n8 := hI.n8
  have n0 := hI.n0
  have h0 := hI.h0
  have ht0 : 0 ≤ tn := hS.2.2.2.1.2.1
  have ht1 : tn ≤ 120 := hS.2.2.2.1.2.2.1
  have hk01 : ik = 0 ∨ ik = 1 := hS.2.1.2.1
  have hB3 : okB bq sq := hS.2.2.2.2.1
  have hH0 : RepH (iv (bq 0), iv (sq 0), c0) bq sq cq 0 := hS.2.2.2.2.2.1
  have hH1 : RepH (iv (bq 1), iv (sq 1), c1) bq sq cq 1 := hS.2.2.2.2.2.2.1
  have hH2 : RepH (iv (bq 2), iv (sq 2), c2) bq sq cq 2 := hS.2.2.2.2.2.2.2.1
  have hH3 : RepH (iv (bq 3), iv (sq 3), c3) bq sq cq 3 := hS.2.2.2.2.2.2.2.2
  have ob1 := hB3.1 1 (by omega) (by omega)
  have zb1 := hB3.2 1 (by omega) (by omega)
  have q2 := r_pf.1
  have q22 := r_pf.2
  have q4 := r_po.1
  have q42 := r_po.2
  have q5 := r_pn.1
  have q52 := r_pn.2
  refine lv_aload_n X.1 X.2.1 dX4_copy_0 rfl (lv_at hl 0 rfl) ?_
  refine lv_iload_n X.1 X.2.1 dX4_copy_1 rfl (lv_at hl 1 rfl) ?_
  refine z_pq (run_V (rest := []) X h (c_sheetAt1) mi_X4_sheetAt ml_X4_184 ⟨Nat.le_of_ble_eq_true rfl, Nat.le_of_ble_eq_true rfl⟩ ⟨rfl, rfl⟩ (Seg.rfl' _) 3 0 rfl rfl rfl rfl hl.1 rfl (Nat.le_of_ble_eq_true rfl) ⟨Nat.zero_le _, Nat.zero_le _⟩ dX4_copy_2) ?_
  refine W.eq (g2 := F0 m 5 ls [.ref (q 1 0)]) rfl ?_
  refine lv_astore (lv' := [(6, .ref (q 1 0)), (0, .ref (a 0)), (1, .int (iv (1))), (2, .int (iv (pf))), (3, .int (iv (pt))), (4, .int (iv (po))), (5, .int (iv (pn)))]) X.1 X.2.1 dX4_copy_5 hl (by decide) rfl (fun ls hl => ?_)
  refine lv_aload_n X.1 X.2.1 dX4_copy_7 rfl (lv_at hl 1 rfl) ?_
  refine lv_iload_n X.1 X.2.1 dX4_copy_8 rfl (lv_at hl 4 rfl) ?_
  refine z_pq (run_V (rest := []) X h (c_sheetAtN (s9 := pt) r_pt (by omega)) mi_X4_sheetAt ml_X4_184 ⟨Nat.le_of_ble_eq_true rfl, Nat.le_of_ble_eq_true rfl⟩ ⟨rfl, rfl⟩ (Seg.rfl' _) 3 0 rfl rfl rfl rfl hl.1 rfl (Nat.le_of_ble_eq_true rfl) ⟨Nat.zero_le _, Nat.zero_le _⟩ dX4_copy_9) ?_
  refine W.eq (g2 := F0 m 12 ls [.null]) rfl ?_
  refine lv_astoreN (lv' := [(7, .null), (6, .ref (q 1 0)), (0, .ref (a 0)), (1, .int (iv (1))), (2, .int (iv (pf))), (3, .int (iv (pt))), (4, .int (iv (po))), (5, .int (iv (pn)))]) X.1 X.2.1 dX4_copy_12 hl (by decide) rfl (fun ls hl => ?_)
  refine lv_aload X.1 X.2.1 dX4_copy_14 (lv_at hl 1 rfl) ?_
  refine lv_ifnull X.1 X.2.1 dX4_copy_16 ?_
  refine lv_aloadN X.1 X.2.1 dX4_copy_19 (lv_at hl 0 rfl) ?_
  refine lv_ifnonnullN X.1 X.2.1 dX4_copy_21 ?_
  refine lv_aload_n X.1 X.2.1 dX4_copy_24 rfl (lv_at hl 2 rfl) ?_
  refine z_ldc (z := (-1000000001)) X ct_X4_48 (by decide) dX4_copy_25 ?_
  refine z_wi (st_sing (st_nil h)) (run_V (rest := []) X (st_sing (st_nil h)) (c_X4_finding (j := 0) hF (by decide) (by decide) (by decide)) mi_X4_finding ml_X4_49 ⟨Nat.le_of_ble_eq_true rfl, Nat.le_of_ble_eq_true rfl⟩ ⟨rfl, rfl⟩ (Seg.mk' _ _) 3 0 rfl rfl rfl rfl hl.1 rfl (Nat.le_of_ble_eq_true rfl) ⟨Nat.zero_le _, Nat.zero_le _⟩ dX4_copy_27) (fun _ => map_app (wO_map _ _ _ _ _ _ _ _ _ _ _) rfl) (fun r fd1 H locs hp h => ?_)
  have h := (st_lin (st_gnis h))
  obtain ⟨rfl, hF1⟩ := hp
  have h : St E _ s H locs (wO E a k b t x q ((iv (ik))) fd1 ++ (wS E k ((hk)) ((nk)) (k1, k2, k3, k4, k5, k6, k7, k8, k9) ++ (wS E b ((iv (hr A))) ((iv (pe A))) (xs, xi, xk, xc, xl, xr, xb, yl, yr) ++ (wS E t ((ht)) ((nt)) (t1, t2, t3, t4, t5, t6, t7, t8, t9) ++ (wX E x ((iv (tn))) ((e1)) ((e2)) ((e3)) ((e4)) tp ++ (wH E (q 0) ((iv (bq 0))) ((iv (sq 0))) c0 ++ (wH E (q 1) ((iv (bq 1))) ((iv (sq 1))) c1 ++ (wH E (q 2) ((iv (bq 2))) ((iv (sq 2))) c2 ++ (wH E (q 3) ((iv (bq 3))) ((iv (sq 3))) c3 ++ []))))))))) := h
  have e9 : q_copy bq sq cq ph 1 pf pt po pn = ((-1000000001), cq, (bump ph 0)) := by first | (unfold q_copy; (repeat (first | rw [if_pos (by omega)] | rw [if_neg (by omega)])); first | done | rfl) | (exfalso; omega)
  exact ret _ _ _ _ _ (((iv (ik)), fd1), ((hk), (nk), (k1, k2, k3, k4, k5, k6, k7, k8, k9)), ((iv (hr A)), (iv (pe A)), (xs, xi, xk, xc, xl, xr, xb, yl, yr)), ((ht), (nt), (t1, t2, t3, t4, t5, t6, t7, t8, t9)), ((iv (tn)), (e1), (e2), (e3), (e4), tp), ((iv (bq 0)), (iv (sq 0)), c0), ((iv (bq 1)), (iv (sq 1)), c1), ((iv (bq 2)), (iv (sq 2)), c2), ((iv (bq 3)), (iv (sq 3)), c3)) h (by rw [e9]; exact ⟨rfl, ⟨⟨rfl, rfl, hR, hI, hr9⟩, hK, hF1, hT, hB⟩⟩) dX4_copy_30

set_option maxHeartbeats 4000000 in
theorem c_X4_copy_2_0 (hS : RepC (((iv (ik)), fd), ((hk), (nk), (k1, k2, k3, k4, k5, k6, k7, k8, k9)), ((iv (hr A)), (iv (pe A)), (xs, xi, xk, xc, xl, xr, xb, yl, yr)), ((ht), (nt), (t1, t2, t3, t4, t5, t6, t7, t8, t9)), ((iv (tn)), (e1), (e2), (e3), (e4), tp), ((iv (bq 0)), (iv (sq 0)), c0), ((iv (bq 1)), (iv (sq 1)), c1), ((iv (bq 2)), (iv (sq 2)), c2), ((iv (bq 3)), (iv (sq 3)), c3)) (A, K, ik, ph, tq, tn, bq, sq, cq)) {pf : Int} (r_pf : r32 pf) {po : Int} (r_po : r32 po) {pn : Int} (r_pn : r32 pn) : MI (S := Tc) E l yX4_copy cX4_copy 8 (some FieldType.int) (rmk 2 44) (wO E a k b t x q ((iv (ik))) fd ++ (wS E k ((hk)) ((nk)) (k1, k2, k3, k4, k5, k6, k7, k8, k9) ++ (wS E b ((iv (hr A))) ((iv (pe A))) (xs, xi, xk, xc, xl, xr, xb, yl, yr) ++ (wS E t ((ht)) ((nt)) (t1, t2, t3, t4, t5, t6, t7, t8, t9) ++ (wX E x ((iv (tn))) ((e1)) ((e2)) ((e3)) ((e4)) tp ++ (wH E (q 0) ((iv (bq 0))) ((iv (sq 0))) c0 ++ (wH E (q 1) ((iv (bq 1))) ((iv (sq 1))) c1 ++ (wH E (q 2) ((iv (bq 2))) ((iv (sq 2))) c2 ++ (wH E (q 3) ((iv (bq 3))) ((iv (sq 3))) c3 ++ []))))))))) [.ref (a 0), .int (iv (2)), .int (iv (pf)), .int (iv (0)), .int (iv (po)), .int (iv (pn))] (fun r u => r = iv ((q_copy bq sq cq ph 2 pf 0 po pn).1) ∧ RepC u (A, K, ik, (q_copy bq sq cq ph 2 pf 0 po pn).2.2, tq, tn, bq, sq, (q_copy bq sq cq ph 2 pf 0 po pn).2.1)) (fun u => wT E a k b t x q u) := by
  refine goI (S := Tc) (post := fun r u => r = iv ((q_copy bq sq cq ph 2 pf 0 po pn).1) ∧ RepC u (A, K, ik, (q_copy bq sq cq ph 2 pf 0 po pn).2.2, tq, tn, bq, sq, (q_copy bq sq cq ph 2 pf 0 po pn).2.1)) (ws' := fun u => wT E a k b t x q u) (by decide) (Nat.le_of_ble_eq_true rfl) ?_
  intro pp e s m below meth c ls args Q ret X h hl
  have hl : lv_has ls 8 [(0, .ref (a 0)), (1, .int (iv (2))), (2, .int (iv (pf))), (3, .int (iv (0))), (4, .int (iv (po))), (5, .int (iv (pn)))] := hl
  have hR : RS (xs, xi, xk, xc, xl, xr, xb, yl, yr) A := hS.1.2.2.1
  have hI : IA A := hS.1.2.2.2.1
  have hr9 : hr A ≤ 99999 := hS.1.2.2.2.2
  have hF : RF 7 fd ph := hS.2.2.1
  have hK := hS.2.1
  have hT := hS.2.2.2.1
  have hB := hS.2.2.2.2
  have hh : hr A < 1000000 := by omega
  have n8 := hI.n8
  have n0 := hI.n0
  have h0 := hI.h0
  have ht0 : 0 ≤ tn := hS.2.2.2.1.2.1
  have ht1 : tn ≤ 120 := hS.2.2.2.1.2.2.1
  have hk01 : ik = 0 ∨ ik = 1 := hS.2.1.2.1
  have hB3 : okB bq sq := hS.2.2.2.2.1
  have hH0 : RepH (iv (bq 0), iv (sq 0), c0) bq sq cq 0 := hS.2.2.2.2.2.1
  have hH1 : RepH (iv (bq 1), iv (sq 1), c1) bq sq cq 1 := hS.2.2.2.2.2.2.1
  have hH2 : RepH (iv (bq 2), iv (sq 2), c2) bq sq cq 2 := hS.2.2.2.2.2.2.2.1
  have hH3 : RepH (iv (bq 3), iv (sq 3), c3) bq sq cq 3 := hS.2.2.2.2.2.2.2.2
  have ob2 := hB3.1 2 (by omega) (by omega)
  have zb2 := hB3.2 2 (by omega) (by omega)
  have ob0 := hB3.1 0 (by omega) (by omega)
  have zb0 := hB3.2 0 (by omega) (by omega)
  have q2 := r_pf.1
  have q22 := r_pf.2
  have q4 := r_po.1
  have q42 := r_po.2
  have q5 := r_pn.1
  have q52 := r_pn.2
  refine lv_aload_n X.1 X.2.1 dX4_copy_0 rfl (lv_at hl 0 rfl) ?_
  refine lv_iload_n X.1 X.2.1 dX4_copy_1 rfl (lv_at hl 1 rfl) ?_
  refine z_pq (run_V (rest := []) X h (c_sheetAt2) mi_X4_sheetAt ml_X4_184 ⟨Nat.le_of_ble_eq_true rfl, Nat.le_of_ble_eq_true rfl⟩ ⟨rfl, rfl⟩ (Seg.rfl' _) 3 0 rfl rfl rfl rfl hl.1 rfl (Nat.le_of_ble_eq_true rfl) ⟨Nat.zero_le _, Nat.zero_le _⟩ dX4_copy_2) ?_
  refine W.eq (g2 := F0 m 5 ls [.ref (q 2 0)]) rfl ?_
  refine lv_astore (lv' := [(6, .ref (q 2 0)), (0, .ref (a 0)), (1, .int (iv (2))), (2, .int (iv (pf))), (3, .int (iv (0))), (4, .int (iv (po))), (5, .int (iv (pn)))]) X.1 X.2.1 dX4_copy_5 hl (by decide) rfl (fun ls hl => ?_)
  refine lv_aload_n X.1 X.2.1 dX4_copy_7 rfl (lv_at hl 1 rfl) ?_
  refine lv_iload_n X.1 X.2.1 dX4_copy_8 rfl (lv_at hl 4 rfl) ?_
  refine z_pq (run_V (rest := []) X h (c_sheetAt0) mi_X4_sheetAt ml_X4_184 ⟨Nat.le_of_ble_eq_true rfl, Nat.le_of_ble_eq_true rfl⟩ ⟨rfl, rfl⟩ (Seg.rfl' _) 3 0 rfl rfl rfl rfl hl.1 rfl (Nat.le_of_ble_eq_true rfl) ⟨Nat.zero_le _, Nat.zero_le _⟩ dX4_copy_9) ?_
  refine W.eq (g2 := F0 m 12 ls [.ref (q 0 0)]) rfl ?_
  refine lv_astore (lv' := [(7, .ref (q 0 0)), (6, .ref (q 2 0)), (0, .ref (a 0)), (1, .int (iv (2))), (2, .int (iv (pf))), (3, .int (iv (0))), (4, .int (iv (po))), (5, .int (iv (pn)))]) X.1 X.2.1 dX4_copy_12 hl (by decide) rfl (fun ls hl => ?_)
  refine lv_aload X.1 X.2.1 dX4_copy_14 (lv_at hl 1 rfl) ?_
  refine lv_ifnull X.1 X.2.1 dX4_copy_16 ?_
  refine lv_aload X.1 X.2.1 dX4_copy_19 (lv_at hl 0 rfl) ?_
  refine lv_ifnonnull (tgt := 31) X.1 X.2.1 dX4_copy_21 (by decide) ?_
  refine lv_aload X.1 X.2.1 dX4_copy_31 (lv_at hl 1 rfl) ?_
  refine z_pi (run_V (rest := []) X (st_sing (st_in (st_in (st_in (st_in (st_in (st_in (st_in (st_nil h))))))))) (c_X0_isMissing (y := q 2) (bt := bq 2) ⟨by omega, by omega⟩) mi_X0_isMissing ml_X4_193 ⟨Nat.le_of_ble_eq_true rfl, Nat.le_of_ble_eq_true rfl⟩ ⟨rfl, rfl⟩ (Seg.mk' _ _) 0 39 rfl rfl rfl rfl hl.1 rfl (Nat.le_of_ble_eq_true rfl) ⟨Nat.zero_le _, Nat.zero_le _⟩ dX4_copy_33) ?_
  refine z_ifb_ne (tgt := 47) X dX4_copy_36 (by decide) (fun c_36 => ?_) (fun c_36 => ?_)
  · refine lv_aload_n X.1 X.2.1 dX4_copy_47 rfl (lv_at hl 2 rfl) ?_
    refine z_ldc (z := (-1000000006)) X ct_X4_197 (by decide) dX4_copy_48 ?_
    refine z_wi (st_sing (st_nil h)) (run_V (rest := []) X (st_sing (st_nil h)) (c_X4_finding (j := 5) hF (by decide) (by decide) (by decide)) mi_X4_finding ml_X4_49 ⟨Nat.le_of_ble_eq_true rfl, Nat.le_of_ble_eq_true rfl⟩ ⟨rfl, rfl⟩ (Seg.mk' _ _) 3 0 rfl rfl rfl rfl hl.1 rfl (Nat.le_of_ble_eq_true rfl) ⟨Nat.zero_le _, Nat.zero_le _⟩ dX4_copy_50) (fun _ => map_app (wO_map _ _ _ _ _ _ _ _ _ _ _) rfl) (fun r fd1 H locs hp h => ?_)
    have h := (st_lin (st_gnis h))
    obtain ⟨rfl, hF1⟩ := hp
    have h : St E _ s H locs (wO E a k b t x q ((iv (ik))) fd1 ++ (wS E k ((hk)) ((nk)) (k1, k2, k3, k4, k5, k6, k7, k8, k9) ++ (wS E b ((iv (hr A))) ((iv (pe A))) (xs, xi, xk, xc, xl, xr, xb, yl, yr) ++ (wS E t ((ht)) ((nt)) (t1, t2, t3, t4, t5, t6, t7, t8, t9) ++ (wX E x ((iv (tn))) ((e1)) ((e2)) ((e3)) ((e4)) tp ++ (wH E (q 0) ((iv (bq 0))) ((iv (sq 0))) c0 ++ (wH E (q 1) ((iv (bq 1))) ((iv (sq 1))) c1 ++ (wH E (q 2) ((iv (bq 2))) ((iv (sq 2))) c2 ++ (wH E (q 3) ((iv (bq 3))) ((iv (sq 3))) c3 ++ []))))))))) := h
    have e9 : q_copy bq sq cq ph 2 pf 0 po pn = ((-1000000006), cq, (bump ph 5)) := by first | (unfold q_copy; (repeat (first | rw [if_pos (by omega)] | rw [if_neg (by omega)])); first | done | rfl) | (exfalso; omega)
    exact ret _ _ _ _ _ (((iv (ik)), fd1), ((hk), (nk), (k1, k2, k3, k4, k5, k6, k7, k8, k9)), ((iv (hr A)), (iv (pe A)), (xs, xi, xk, xc, xl, xr, xb, yl, yr)), ((ht), (nt), (t1, t2, t3, t4, t5, t6, t7, t8, t9)), ((iv (tn)), (e1), (e2), (e3), (e4), tp), ((iv (bq 0)), (iv (sq 0)), c0), ((iv (bq 1)), (iv (sq 1)), c1), ((iv (bq 2)), (iv (sq 2)), c2), ((iv (bq 3)), (iv (sq 3)), c3)) h (by rw [e9]; exact ⟨rfl, ⟨⟨rfl, rfl, hR, hI, hr9⟩, hK, hF1, hT, hB⟩⟩) dX4_copy_53
  · refine lv_aload X.1 X.2.1 dX4_copy_39 (lv_at hl 0 rfl) ?_
    refine z_pi (run_V (rest := []) X (st_sing (st_in (st_in (st_in (st_in (st_in (st_nil h))))))) (c_X0_isMissing (y := q 0) (bt := bq 0) ⟨by omega, by omega⟩) mi_X0_isMissing ml_X4_193 ⟨Nat.le_of_ble_eq_true rfl, Nat.le_of_ble_eq_true rfl⟩ ⟨rfl, rfl⟩ (Seg.mk' _ _) 0 35 rfl rfl rfl rfl hl.1 rfl (Nat.le_of_ble_eq_true rfl) ⟨Nat.zero_le _, Nat.zero_le _⟩ dX4_copy_41) ?_
    refine z_ifb_eq (tgt := 54) X dX4_copy_44 (by decide) (fun c_44 => ?_) (fun c_44 => ?_)
    · refine lv_aload X.1 X.2.1 dX4_copy_54 (lv_at hl 1 rfl) ?_
      refine z_get X h 0 39 0 rfl inX0 rfl (by decide) fl_X4_206 rfl dX4_copy_56 ?_
      refine lv_aload X.1 X.2.1 dX4_copy_59 (lv_at hl 0 rfl) ?_
      refine z_get X h 0 35 0 rfl inX0 rfl (by decide) fl_X4_206 rfl dX4_copy_61 ?_
      refine z_ic_eq (tgt := 74) X ⟨by omega, by omega⟩ ⟨by omega, by omega⟩ dX4_copy_64 (by decide) (fun c_64 => ?_) (fun c_64 => ?_)
      · refine lv_aload X.1 X.2.1 dX4_copy_74 (lv_at hl 1 rfl) ?_
        refine lv_iload_n X.1 X.2.1 dX4_copy_76 rfl (lv_at hl 4 rfl) ?_
        refine lv_iload X.1 X.2.1 dX4_copy_77 (lv_at hl 7 rfl) ?_
        refine z_pi (run_V (rest := []) X (st_sing (st_in (st_in (st_in (st_in (st_in (st_in (st_in (st_nil h))))))))) (c_X0_has (y := q 2) (sz := sq 2) (fr := pf) (n9 := pn) (by omega) (by omega) r_pf r_pn) mi_X0_has ml_X4_209 ⟨Nat.le_of_ble_eq_true rfl, Nat.le_of_ble_eq_true rfl⟩ ⟨rfl, rfl⟩ (Seg.mk' _ _) 0 39 rfl rfl rfl rfl hl.1 rfl (Nat.le_of_ble_eq_true rfl) ⟨Nat.zero_le _, Nat.zero_le _⟩ dX4_copy_79) ?_
        refine z_ifb_eq (tgt := 97) X dX4_copy_82 (by decide) (fun c_82 => ?_) (fun c_82 => ?_)
        · refine lv_aload_n X.1 X.2.1 dX4_copy_97 rfl (lv_at hl 2 rfl) ?_
          refine z_ldc (z := (-1000000001)) X ct_X4_48 (by decide) dX4_copy_98 ?_
          refine z_wi (st_sing (st_nil h)) (run_V (rest := []) X (st_sing (st_nil h)) (c_X4_finding (j := 0) hF (by decide) (by decide) (by decide)) mi_X4_finding ml_X4_49 ⟨Nat.le_of_ble_eq_true rfl, Nat.le_of_ble_eq_true rfl⟩ ⟨rfl, rfl⟩ (Seg.mk' _ _) 3 0 rfl rfl rfl rfl hl.1 rfl (Nat.le_of_ble_eq_true rfl) ⟨Nat.zero_le _, Nat.zero_le _⟩ dX4_copy_100) (fun _ => map_app (wO_map _ _ _ _ _ _ _ _ _ _ _) rfl) (fun r fd2 H locs hp h => ?_)
          have h := (st_lin (st_gnis h))
          obtain ⟨rfl, hF2⟩ := hp
          have h : St E _ s H locs (wO E a k b t x q ((iv (ik))) fd2 ++ (wS E k ((hk)) ((nk)) (k1, k2, k3, k4, k5, k6, k7, k8, k9) ++ (wS E b ((iv (hr A))) ((iv (pe A))) (xs, xi, xk, xc, xl, xr, xb, yl, yr) ++ (wS E t ((ht)) ((nt)) (t1, t2, t3, t4, t5, t6, t7, t8, t9) ++ (wX E x ((iv (tn))) ((e1)) ((e2)) ((e3)) ((e4)) tp ++ (wH E (q 0) ((iv (bq 0))) ((iv (sq 0))) c0 ++ (wH E (q 1) ((iv (bq 1))) ((iv (sq 1))) c1 ++ (wH E (q 2) ((iv (bq 2))) ((iv (sq 2))) c2 ++ (wH E (q 3) ((iv (bq 3))) ((iv (sq 3))) c3 ++ []))))))))) := h
          have e9 : q_copy bq sq cq ph 2 pf 0 po pn = ((-1000000001), cq, (bump ph 0)) := by first | (unfold q_copy; (repeat (first | rw [if_pos (by omega)] | rw [if_neg (by omega)])); first | done | rfl) | (exfalso; omega)
          exact ret _ _ _ _ _ (((iv (ik)), fd2), ((hk), (nk), (k1, k2, k3, k4, k5, k6, k7, k8, k9)), ((iv (hr A)), (iv (pe A)), (xs, xi, xk, xc, xl, xr, xb, yl, yr)), ((ht), (nt), (t1, t2, t3, t4, t5, t6, t7, t8, t9)), ((iv (tn)), (e1), (e2), (e3), (e4), tp), ((iv (bq 0)), (iv (sq 0)), c0), ((iv (bq 1)), (iv (sq 1)), c1), ((iv (bq 2)), (iv (sq 2)), c2), ((iv (bq 3)), (iv (sq 3)), c3)) h (by rw [e9]; exact ⟨rfl, ⟨⟨rfl, rfl, hR, hI, hr9⟩, hK, hF2, hT, hB⟩⟩) dX4_copy_103
        · refine lv_aload X.1 X.2.1 dX4_copy_85 (lv_at hl 0 rfl) ?_
          refine lv_iload X.1 X.2.1 dX4_copy_87 (lv_at hl 6 rfl) ?_
          refine lv_iload X.1 X.2.1 dX4_copy_89 (lv_at hl 7 rfl) ?_
          refine z_pi (run_V (rest := []) X (st_sing (st_in (st_in (st_in (st_in (st_in (st_nil h))))))) (c_X0_has (y := q 0) (sz := sq 0) (fr := po) (n9 := pn) (by omega) (by omega) r_po r_pn) mi_X0_has ml_X4_209 ⟨Nat.le_of_ble_eq_true rfl, Nat.le_of_ble_eq_true rfl⟩ ⟨rfl, rfl⟩ (Seg.mk' _ _) 0 35 rfl rfl rfl rfl hl.1 rfl (Nat.le_of_ble_eq_true rfl) ⟨Nat.zero_le _, Nat.zero_le _⟩ dX4_copy_91) ?_
          refine z_ifb_ne (tgt := 104) X dX4_copy_94 (by decide) (fun c_94 => ?_) (fun c_94 => ?_)
          · refine lv_aload X.1 X.2.1 dX4_copy_104 (lv_at hl 1 rfl) ?_
            refine z_get X h 0 39 2 rfl inX0 rfl (by decide) fl_X4_198 rfl dX4_copy_106 ?_
            refine lv_iload_n X.1 X.2.1 dX4_copy_109 rfl (lv_at hl 4 rfl) ?_
            refine lv_aload X.1 X.2.1 dX4_copy_110 (lv_at hl 0 rfl) ?_
            refine z_get X h 0 35 2 rfl inX0 rfl (by decide) fl_X4_198 rfl dX4_copy_112 ?_
            refine lv_iload X.1 X.2.1 dX4_copy_115 (lv_at hl 6 rfl) ?_
            refine lv_iload X.1 X.2.1 dX4_copy_117 (lv_at hl 7 rfl) ?_
            refine s_copyl X (st_in (st_in (st_in (st_in (st_in (st_nil h)))))) rfl 40 1 rfl rfl ml_X4_212 (by omega) (by omega) (by omega) (by omega) (by omega) (by decide) (by decide) hl.1 (Nat.le_of_ble_eq_true rfl) (Nat.le_of_ble_eq_true rfl) dX4_copy_119 (fun H locs h => ?_)
            have h := (st_lin (st_out (st_out (st_out (st_out (st_out (st_eq wH_numbers h)))))))
            have h : St E _ s H locs (wO E a k b t x q ((iv (ik))) fd ++ (wS E k ((hk)) ((nk)) (k1, k2, k3, k4, k5, k6, k7, k8, k9) ++ (wS E b ((iv (hr A))) ((iv (pe A))) (xs, xi, xk, xc, xl, xr, xb, yl, yr) ++ (wS E t ((ht)) ((nt)) (t1, t2, t3, t4, t5, t6, t7, t8, t9) ++ (wX E x ((iv (tn))) ((e1)) ((e2)) ((e3)) ((e4)) tp ++ (wH E (q 0) ((iv (bq 0))) ((iv (sq 0))) (va_cpy c2 c0 (pf : Int).toNat (po : Int).toNat (pn : Int).toNat) ++ (wH E (q 1) ((iv (bq 1))) ((iv (sq 1))) c1 ++ (wH E (q 2) ((iv (bq 2))) ((iv (sq 2))) c2 ++ (wH E (q 3) ((iv (bq 3))) ((iv (sq 3))) c3 ++ []))))))))) := h
            refine lv_iload X.1 X.2.1 dX4_copy_122 (lv_at hl 7 rfl) ?_
            have e9 : q_copy bq sq cq ph 2 pf 0 po pn = (pn, (cpy cq 2 pf 0 po 0 pn), ph) := by first | (unfold q_copy; (repeat (first | rw [if_pos (by omega)] | rw [if_neg (by omega)])); first | done | rfl) | (exfalso; omega)
            exact ret _ _ _ _ _ (((iv (ik)), fd), ((hk), (nk), (k1, k2, k3, k4, k5, k6, k7, k8, k9)), ((iv (hr A)), (iv (pe A)), (xs, xi, xk, xc, xl, xr, xb, yl, yr)), ((ht), (nt), (t1, t2, t3, t4, t5, t6, t7, t8, t9)), ((iv (tn)), (e1), (e2), (e3), (e4), tp), ((iv (bq 0)), (iv (sq 0)), (va_cpy c2 c0 (pf : Int).toNat (po : Int).toNat (pn : Int).toNat)), ((iv (bq 1)), (iv (sq 1)), c1), ((iv (bq 2)), (iv (sq 2)), c2), ((iv (bq 3)), (iv (sq 3)), c3)) h (by rw [e9]; exact ⟨rfl, ⟨⟨rfl, rfl, hR, hI, hr9⟩, hK, hF, hT, ⟨hB3, RepH_cp hH2 hH0 (by omega) (by omega) (by omega) (by omega), RepH_cn hH1 (by decide), RepH_cn hH2 (by decide), RepH_cn hH3 (by decide)⟩⟩⟩) dX4_copy_124
          · refine lv_aload_n X.1 X.2.1 dX4_copy_97 rfl (lv_at hl 2 rfl) ?_
            refine z_ldc (z := (-1000000001)) X ct_X4_48 (by decide) dX4_copy_98 ?_
            refine z_wi (st_sing (st_nil h)) (run_V (rest := []) X (st_sing (st_nil h)) (c_X4_finding (j := 0) hF (by decide) (by decide) (by decide)) mi_X4_finding ml_X4_49 ⟨Nat.le_of_ble_eq_true rfl, Nat.le_of_ble_eq_true rfl⟩ ⟨rfl, rfl⟩ (Seg.mk' _ _) 3 0 rfl rfl rfl rfl hl.1 rfl (Nat.le_of_ble_eq_true rfl) ⟨Nat.zero_le _, Nat.zero_le _⟩ dX4_copy_100) (fun _ => map_app (wO_map _ _ _ _ _ _ _ _ _ _ _) rfl) (fun r fd3 H locs hp h => ?_)
            have h := (st_lin (st_gnis h))
            obtain ⟨rfl, hF3⟩ := hp
            have h : St E _ s H locs (wO E a k b t x q ((iv (ik))) fd3 ++ (wS E k ((hk)) ((nk)) (k1, k2, k3, k4, k5, k6, k7, k8, k9) ++ (wS E b ((iv (hr A))) ((iv (pe A))) (xs, xi, xk, xc, xl, xr, xb, yl, yr) ++ (wS E t ((ht)) ((nt)) (t1, t2, t3, t4, t5, t6, t7, t8, t9) ++ (wX E x ((iv (tn))) ((e1)) ((e2)) ((e3)) ((e4)) tp ++ (wH E (q 0) ((iv (bq 0))) ((iv (sq 0))) c0 ++ (wH E (q 1) ((iv (bq 1))) ((iv (sq 1))) c1 ++ (wH E (q 2) ((iv (bq 2))) ((iv (sq 2))) c2 ++ (wH E (q 3) ((iv (bq 3))) ((iv (sq 3))) c3 ++ []))))))))) := h
            have e9 : q_copy bq sq cq ph 2 pf 0 po pn = ((-1000000001), cq, (bump ph 0)) := by first | (unfold q_copy; (repeat (first | rw [if_pos (by omega)] | rw [if_neg (by omega)])); first | done | rfl) | (exfalso; omega)
            exact ret _ _ _ _ _ (((iv (ik)), fd3), ((hk), (nk), (k1, k2, k3, k4, k5, k6, k7, k8, k9)), ((iv (hr A)), (iv (pe A)), (xs, xi, xk, xc, xl, xr, xb, yl, yr)), ((ht), (nt), (t1, t2, t3, t4, t5, t6, t7, t8, t9)), ((iv (tn)), (e1), (e2), (e3), (e4), tp), ((iv (bq 0)), (iv (sq 0)), c0), ((iv (bq 1)), (iv (sq 1)), c1), ((iv (bq 2)), (iv (sq 2)), c2), ((iv (bq 3)), (iv (sq 3)), c3)) h (by rw [e9]; exact ⟨rfl, ⟨⟨rfl, rfl, hR, hI, hr9⟩, hK, hF3, hT, hB⟩⟩) dX4_copy_103
      · refine lv_aload_n X.1 X.2.1 dX4_copy_67 rfl (lv_at hl 2 rfl) ?_
        refine z_ldc (z := (-1000000003)) X ct_X4_127 (by decide) dX4_copy_68 ?_
        refine z_wi (st_sing (st_nil h)) (run_V (rest := []) X (st_sing (st_nil h)) (c_X4_finding (j := 2) hF (by decide) (by decide) (by decide)) mi_X4_finding ml_X4_49 ⟨Nat.le_of_ble_eq_true rfl, Nat.le_of_ble_eq_true rfl⟩ ⟨rfl, rfl⟩ (Seg.mk' _ _) 3 0 rfl rfl rfl rfl hl.1 rfl (Nat.le_of_ble_eq_true rfl) ⟨Nat.zero_le _, Nat.zero_le _⟩ dX4_copy_70) (fun _ => map_app (wO_map _ _ _ _ _ _ _ _ _ _ _) rfl) (fun r fd4 H locs hp h => ?_)
        have h := (st_lin (st_gnis h))
        obtain ⟨rfl, hF4⟩ := hp
        have h : St E _ s H locs (wO E a k b t x q ((iv (ik))) fd4 ++ (wS E k ((hk)) ((nk)) (k1, k2, k3, k4, k5, k6, k7, k8, k9) ++ (wS E b ((iv (hr A))) ((iv (pe A))) (xs, xi, xk, xc, xl, xr, xb, yl, yr) ++ (wS E t ((ht)) ((nt)) (t1, t2, t3, t4, t5, t6, t7, t8, t9) ++ (wX E x ((iv (tn))) ((e1)) ((e2)) ((e3)) ((e4)) tp ++ (wH E (q 0) ((iv (bq 0))) ((iv (sq 0))) c0 ++ (wH E (q 1) ((iv (bq 1))) ((iv (sq 1))) c1 ++ (wH E (q 2) ((iv (bq 2))) ((iv (sq 2))) c2 ++ (wH E (q 3) ((iv (bq 3))) ((iv (sq 3))) c3 ++ []))))))))) := h
        have e9 : q_copy bq sq cq ph 2 pf 0 po pn = ((-1000000003), cq, (bump ph 2)) := by first | (unfold q_copy; (repeat (first | rw [if_pos (by omega)] | rw [if_neg (by omega)])); first | done | rfl) | (exfalso; omega)
        exact ret _ _ _ _ _ (((iv (ik)), fd4), ((hk), (nk), (k1, k2, k3, k4, k5, k6, k7, k8, k9)), ((iv (hr A)), (iv (pe A)), (xs, xi, xk, xc, xl, xr, xb, yl, yr)), ((ht), (nt), (t1, t2, t3, t4, t5, t6, t7, t8, t9)), ((iv (tn)), (e1), (e2), (e3), (e4), tp), ((iv (bq 0)), (iv (sq 0)), c0), ((iv (bq 1)), (iv (sq 1)), c1), ((iv (bq 2)), (iv (sq 2)), c2), ((iv (bq 3)), (iv (sq 3)), c3)) h (by rw [e9]; exact ⟨rfl, ⟨⟨rfl, rfl, hR, hI, hr9⟩, hK, hF4, hT, hB⟩⟩) dX4_copy_73
    · refine lv_aload_n X.1 X.2.1 dX4_copy_47 rfl (lv_at hl 2 rfl) ?_
      refine z_ldc (z := (-1000000006)) X ct_X4_197 (by decide) dX4_copy_48 ?_
      refine z_wi (st_sing (st_nil h)) (run_V (rest := []) X (st_sing (st_nil h)) (c_X4_finding (j := 5) hF (by decide) (by decide) (by decide)) mi_X4_finding ml_X4_49 ⟨Nat.le_of_ble_eq_true rfl, Nat.le_of_ble_eq_true rfl⟩ ⟨rfl, rfl⟩ (Seg.mk' _ _) 3 0 rfl rfl rfl rfl hl.1 rfl (Nat.le_of_ble_eq_true rfl) ⟨Nat.zero_le _, Nat.zero_le _⟩ dX4_copy_50) (fun _ => map_app (wO_map _ _ _ _ _ _ _ _ _ _ _) rfl) (fun r fd5 H locs hp h => ?_)
      have h := (st_lin (st_gnis h))
      obtain ⟨rfl, hF5⟩ := hp
      have h : St E _ s H locs (wO E a k b t x q ((iv (ik))) fd5 ++ (wS E k ((hk)) ((nk)) (k1, k2, k3, k4, k5, k6, k7, k8, k9) ++ (wS E b ((iv (hr A))) ((iv (pe A))) (xs, xi, xk, xc, xl, xr, xb, yl, yr) ++ (wS E t ((ht)) ((nt)) (t1, t2, t3, t4, t5, t6, t7, t8, t9) ++ (wX E x ((iv (tn))) ((e1)) ((e2)) ((e3)) ((e4)) tp ++ (wH E (q 0) ((iv (bq 0))) ((iv (sq 0))) c0 ++ (wH E (q 1) ((iv (bq 1))) ((iv (sq 1))) c1 ++ (wH E (q 2) ((iv (bq 2))) ((iv (sq 2))) c2 ++ (wH E (q 3) ((iv (bq 3))) ((iv (sq 3))) c3 ++ []))))))))) := h
      have e9 : q_copy bq sq cq ph 2 pf 0 po pn = ((-1000000006), cq, (bump ph 5)) := by first | (unfold q_copy; (repeat (first | rw [if_pos (by omega)] | rw [if_neg (by omega)])); first | done | rfl) | (exfalso; omega)
      exact ret _ _ _ _ _ (((iv (ik)), fd5), ((hk), (nk), (k1, k2, k3, k4, k5, k6, k7, k8, k9)), ((iv (hr A)), (iv (pe A)), (xs, xi, xk, xc, xl, xr, xb, yl, yr)), ((ht), (nt), (t1, t2, t3, t4, t5, t6, t7, t8, t9)), ((iv (tn)), (e1), (e2), (e3), (e4), tp), ((iv (bq 0)), (iv (sq 0)), c0), ((iv (bq 1)), (iv (sq 1)), c1), ((iv (bq 2)), (iv (sq 2)), c2), ((iv (bq 3)), (iv (sq 3)), c3)) h (by rw [e9]; exact ⟨rfl, ⟨⟨rfl, rfl, hR, hI, hr9⟩, hK, hF5, hT, hB⟩⟩) dX4_copy_53

set_option maxHeartbeats 4000000 in
theorem c_X4_copy_2_1 (hS : RepC (((iv (ik)), fd), ((hk), (nk), (k1, k2, k3, k4, k5, k6, k7, k8, k9)), ((iv (hr A)), (iv (pe A)), (xs, xi, xk, xc, xl, xr, xb, yl, yr)), ((ht), (nt), (t1, t2, t3, t4, t5, t6, t7, t8, t9)), ((iv (tn)), (e1), (e2), (e3), (e4), tp), ((iv (bq 0)), (iv (sq 0)), c0), ((iv (bq 1)), (iv (sq 1)), c1), ((iv (bq 2)), (iv (sq 2)), c2), ((iv (bq 3)), (iv (sq 3)), c3)) (A, K, ik, ph, tq, tn, bq, sq, cq)) {pf : Int} (r_pf : r32 pf) {po : Int} (r_po : r32 po) {pn : Int} (r_pn : r32 pn) : MI (S := Tc) E l yX4_copy cX4_copy 8 (some FieldType.int) (rmk 2 44) (wO E a k b t x q ((iv (ik))) fd ++ (wS E k ((hk)) ((nk)) (k1, k2, k3, k4, k5, k6, k7, k8, k9) ++ (wS E b ((iv (hr A))) ((iv (pe A))) (xs, xi, xk, xc, xl, xr, xb, yl, yr) ++ (wS E t ((ht)) ((nt)) (t1, t2, t3, t4, t5, t6, t7, t8, t9) ++ (wX E x ((iv (tn))) ((e1)) ((e2)) ((e3)) ((e4)) tp ++ (wH E (q 0) ((iv (bq 0))) ((iv (sq 0))) c0 ++ (wH E (q 1) ((iv (bq 1))) ((iv (sq 1))) c1 ++ (wH E (q 2) ((iv (bq 2))) ((iv (sq 2))) c2 ++ (wH E (q 3) ((iv (bq 3))) ((iv (sq 3))) c3 ++ []))))))))) [.ref (a 0), .int (iv (2)), .int (iv (pf)), .int (iv (1)), .int (iv (po)), .int (iv (pn))] (fun r u => r = iv ((q_copy bq sq cq ph 2 pf 1 po pn).1) ∧ RepC u (A, K, ik, (q_copy bq sq cq ph 2 pf 1 po pn).2.2, tq, tn, bq, sq, (q_copy bq sq cq ph 2 pf 1 po pn).2.1)) (fun u => wT E a k b t x q u) := by
  refine goI (S := Tc) (post := fun r u => r = iv ((q_copy bq sq cq ph 2 pf 1 po pn).1) ∧ RepC u (A, K, ik, (q_copy bq sq cq ph 2 pf 1 po pn).2.2, tq, tn, bq, sq, (q_copy bq sq cq ph 2 pf 1 po pn).2.1)) (ws' := fun u => wT E a k b t x q u) (by decide) (Nat.le_of_ble_eq_true rfl) ?_
  intro pp e s m below meth c ls args Q ret X h hl
  have hl : lv_has ls 8 [(0, .ref (a 0)), (1, .int (iv (2))), (2, .int (iv (pf))), (3, .int (iv (1))), (4, .int (iv (po))), (5, .int (iv (pn)))] := hl
  have hR : RS (xs, xi, xk, xc, xl, xr, xb, yl, yr) A := hS.1.2.2.1
  have hI : IA A := hS.1.2.2.2.1
  have hr9 : hr A ≤ 99999 := hS.1.2.2.2.2
  have hF : RF 7 fd ph := hS.2.2.1
  have hK := hS.2.1
  have hT := hS.2.2.2.1
  have hB := hS.2.2.2.2
  have hh : hr A < 1000000 := by omega
  have n8 := hI.n8
  have n0 := hI.n0
  have h0 := hI.h0
  have ht0 : 0 ≤ tn := hS.2.2.2.1.2.1
  have ht1 : tn ≤ 120 := hS.2.2.2.1.2.2.1
  have hk01 : ik = 0 ∨ ik = 1 := hS.2.1.2.1
  have hB3 : okB bq sq := hS.2.2.2.2.1
  have hH0 : RepH (iv (bq 0), iv (sq 0), c0) bq sq cq 0 := hS.2.2.2.2.2.1
  have hH1 : RepH (iv (bq 1), iv (sq 1), c1) bq sq cq 1 := hS.2.2.2.2.2.2.1
  have hH2 : RepH (iv (bq 2), iv (sq 2), c2) bq sq cq 2 := hS.2.2.2.2.2.2.2.1
  have hH3 : RepH (iv (bq 3), iv (sq 3), c3) bq sq cq 3 := hS.2.2.2.2.2.2.2.2
  have ob2 := hB3.1 2 (by omega) (by omega)
  have zb2 := hB3.2 2 (by omega) (by omega)
  have ob1 := hB3.1 1 (by omega) (by omega)
  have zb1 := hB3.2 1 (by omega) (by omega)
  have q2 := r_pf.1
  have q22 := r_pf.2
  have q4 := r_po.1
  have q42 := r_po.2
  have q5 := r_pn.1
  have q52 := r_pn.2
  refine lv_aload_n X.1 X.2.1 dX4_copy_0 rfl (lv_at hl 0 rfl) ?_
  refine lv_iload_n X.1 X.2.1 dX4_copy_1 rfl (lv_at hl 1 rfl) ?_
  refine z_pq (run_V (rest := []) X h (c_sheetAt2) mi_X4_sheetAt ml_X4_184 ⟨Nat.le_of_ble_eq_true rfl, Nat.le_of_ble_eq_true rfl⟩ ⟨rfl, rfl⟩ (Seg.rfl' _) 3 0 rfl rfl rfl rfl hl.1 rfl (Nat.le_of_ble_eq_true rfl) ⟨Nat.zero_le _, Nat.zero_le _⟩ dX4_copy_2) ?_
  refine W.eq (g2 := F0 m 5 ls [.ref (q 2 0)]) rfl ?_
  refine lv_astore (lv' := [(6, .ref (q 2 0)), (0, .ref (a 0)), (1, .int (iv (2))), (2, .int (iv (pf))), (3, .int (iv (1))), (4, .int (iv (po))), (5, .int (iv (pn)))]) X.1 X.2.1 dX4_copy_5 hl (by decide) rfl (fun ls hl => ?_)
  refine lv_aload_n X.1 X.2.1 dX4_copy_7 rfl (lv_at hl 1 rfl) ?_
  refine lv_iload_n X.1 X.2.1 dX4_copy_8 rfl (lv_at hl 4 rfl) ?_
  refine z_pq (run_V (rest := []) X h (c_sheetAt1) mi_X4_sheetAt ml_X4_184 ⟨Nat.le_of_ble_eq_true rfl, Nat.le_of_ble_eq_true rfl⟩ ⟨rfl, rfl⟩ (Seg.rfl' _) 3 0 rfl rfl rfl rfl hl.1 rfl (Nat.le_of_ble_eq_true rfl) ⟨Nat.zero_le _, Nat.zero_le _⟩ dX4_copy_9) ?_
  refine W.eq (g2 := F0 m 12 ls [.ref (q 1 0)]) rfl ?_
  refine lv_astore (lv' := [(7, .ref (q 1 0)), (6, .ref (q 2 0)), (0, .ref (a 0)), (1, .int (iv (2))), (2, .int (iv (pf))), (3, .int (iv (1))), (4, .int (iv (po))), (5, .int (iv (pn)))]) X.1 X.2.1 dX4_copy_12 hl (by decide) rfl (fun ls hl => ?_)
  refine lv_aload X.1 X.2.1 dX4_copy_14 (lv_at hl 1 rfl) ?_
  refine lv_ifnull X.1 X.2.1 dX4_copy_16 ?_
  refine lv_aload X.1 X.2.1 dX4_copy_19 (lv_at hl 0 rfl) ?_
  refine lv_ifnonnull (tgt := 31) X.1 X.2.1 dX4_copy_21 (by decide) ?_
  refine lv_aload X.1 X.2.1 dX4_copy_31 (lv_at hl 1 rfl) ?_
  refine z_pi (run_V (rest := []) X (st_sing (st_in (st_in (st_in (st_in (st_in (st_in (st_in (st_nil h))))))))) (c_X0_isMissing (y := q 2) (bt := bq 2) ⟨by omega, by omega⟩) mi_X0_isMissing ml_X4_193 ⟨Nat.le_of_ble_eq_true rfl, Nat.le_of_ble_eq_true rfl⟩ ⟨rfl, rfl⟩ (Seg.mk' _ _) 0 39 rfl rfl rfl rfl hl.1 rfl (Nat.le_of_ble_eq_true rfl) ⟨Nat.zero_le _, Nat.zero_le _⟩ dX4_copy_33) ?_
  refine z_ifb_ne (tgt := 47) X dX4_copy_36 (by decide) (fun c_36 => ?_) (fun c_36 => ?_)
  · refine lv_aload_n X.1 X.2.1 dX4_copy_47 rfl (lv_at hl 2 rfl) ?_
    refine z_ldc (z := (-1000000006)) X ct_X4_197 (by decide) dX4_copy_48 ?_
    refine z_wi (st_sing (st_nil h)) (run_V (rest := []) X (st_sing (st_nil h)) (c_X4_finding (j := 5) hF (by decide) (by decide) (by decide)) mi_X4_finding ml_X4_49 ⟨Nat.le_of_ble_eq_true rfl, Nat.le_of_ble_eq_true rfl⟩ ⟨rfl, rfl⟩ (Seg.mk' _ _) 3 0 rfl rfl rfl rfl hl.1 rfl (Nat.le_of_ble_eq_true rfl) ⟨Nat.zero_le _, Nat.zero_le _⟩ dX4_copy_50) (fun _ => map_app (wO_map _ _ _ _ _ _ _ _ _ _ _) rfl) (fun r fd1 H locs hp h => ?_)
    have h := (st_lin (st_gnis h))
    obtain ⟨rfl, hF1⟩ := hp
    have h : St E _ s H locs (wO E a k b t x q ((iv (ik))) fd1 ++ (wS E k ((hk)) ((nk)) (k1, k2, k3, k4, k5, k6, k7, k8, k9) ++ (wS E b ((iv (hr A))) ((iv (pe A))) (xs, xi, xk, xc, xl, xr, xb, yl, yr) ++ (wS E t ((ht)) ((nt)) (t1, t2, t3, t4, t5, t6, t7, t8, t9) ++ (wX E x ((iv (tn))) ((e1)) ((e2)) ((e3)) ((e4)) tp ++ (wH E (q 0) ((iv (bq 0))) ((iv (sq 0))) c0 ++ (wH E (q 1) ((iv (bq 1))) ((iv (sq 1))) c1 ++ (wH E (q 2) ((iv (bq 2))) ((iv (sq 2))) c2 ++ (wH E (q 3) ((iv (bq 3))) ((iv (sq 3))) c3 ++ []))))))))) := h
    have e9 : q_copy bq sq cq ph 2 pf 1 po pn = ((-1000000006), cq, (bump ph 5)) := by first | (unfold q_copy; (repeat (first | rw [if_pos (by omega)] | rw [if_neg (by omega)])); first | done | rfl) | (exfalso; omega)
    exact ret _ _ _ _ _ (((iv (ik)), fd1), ((hk), (nk), (k1, k2, k3, k4, k5, k6, k7, k8, k9)), ((iv (hr A)), (iv (pe A)), (xs, xi, xk, xc, xl, xr, xb, yl, yr)), ((ht), (nt), (t1, t2, t3, t4, t5, t6, t7, t8, t9)), ((iv (tn)), (e1), (e2), (e3), (e4), tp), ((iv (bq 0)), (iv (sq 0)), c0), ((iv (bq 1)), (iv (sq 1)), c1), ((iv (bq 2)), (iv (sq 2)), c2), ((iv (bq 3)), (iv (sq 3)), c3)) h (by rw [e9]; exact ⟨rfl, ⟨⟨rfl, rfl, hR, hI, hr9⟩, hK, hF1, hT, hB⟩⟩) dX4_copy_53
  · refine lv_aload X.1 X.2.1 dX4_copy_39 (lv_at hl 0 rfl) ?_
    refine z_pi (run_V (rest := []) X (st_sing (st_in (st_in (st_in (st_in (st_in (st_in (st_nil h)))))))) (c_X0_isMissing (y := q 1) (bt := bq 1) ⟨by omega, by omega⟩) mi_X0_isMissing ml_X4_193 ⟨Nat.le_of_ble_eq_true rfl, Nat.le_of_ble_eq_true rfl⟩ ⟨rfl, rfl⟩ (Seg.mk' _ _) 0 37 rfl rfl rfl rfl hl.1 rfl (Nat.le_of_ble_eq_true rfl) ⟨Nat.zero_le _, Nat.zero_le _⟩ dX4_copy_41) ?_
    refine z_ifb_eq (tgt := 54) X dX4_copy_44 (by decide) (fun c_44 => ?_) (fun c_44 => ?_)
    · refine lv_aload X.1 X.2.1 dX4_copy_54 (lv_at hl 1 rfl) ?_
      refine z_get X h 0 39 0 rfl inX0 rfl (by decide) fl_X4_206 rfl dX4_copy_56 ?_
      refine lv_aload X.1 X.2.1 dX4_copy_59 (lv_at hl 0 rfl) ?_
      refine z_get X h 0 37 0 rfl inX0 rfl (by decide) fl_X4_206 rfl dX4_copy_61 ?_
      refine z_ic_eq (tgt := 74) X ⟨by omega, by omega⟩ ⟨by omega, by omega⟩ dX4_copy_64 (by decide) (fun c_64 => ?_) (fun c_64 => ?_)
      · refine lv_aload X.1 X.2.1 dX4_copy_74 (lv_at hl 1 rfl) ?_
        refine lv_iload_n X.1 X.2.1 dX4_copy_76 rfl (lv_at hl 4 rfl) ?_
        refine lv_iload X.1 X.2.1 dX4_copy_77 (lv_at hl 7 rfl) ?_
        refine z_pi (run_V (rest := []) X (st_sing (st_in (st_in (st_in (st_in (st_in (st_in (st_in (st_nil h))))))))) (c_X0_has (y := q 2) (sz := sq 2) (fr := pf) (n9 := pn) (by omega) (by omega) r_pf r_pn) mi_X0_has ml_X4_209 ⟨Nat.le_of_ble_eq_true rfl, Nat.le_of_ble_eq_true rfl⟩ ⟨rfl, rfl⟩ (Seg.mk' _ _) 0 39 rfl rfl rfl rfl hl.1 rfl (Nat.le_of_ble_eq_true rfl) ⟨Nat.zero_le _, Nat.zero_le _⟩ dX4_copy_79) ?_
        refine z_ifb_eq (tgt := 97) X dX4_copy_82 (by decide) (fun c_82 => ?_) (fun c_82 => ?_)
        · refine lv_aload_n X.1 X.2.1 dX4_copy_97 rfl (lv_at hl 2 rfl) ?_
          refine z_ldc (z := (-1000000001)) X ct_X4_48 (by decide) dX4_copy_98 ?_
          refine z_wi (st_sing (st_nil h)) (run_V (rest := []) X (st_sing (st_nil h)) (c_X4_finding (j := 0) hF (by decide) (by decide) (by decide)) mi_X4_finding ml_X4_49 ⟨Nat.le_of_ble_eq_true rfl, Nat.le_of_ble_eq_true rfl⟩ ⟨rfl, rfl⟩ (Seg.mk' _ _) 3 0 rfl rfl rfl rfl hl.1 rfl (Nat.le_of_ble_eq_true rfl) ⟨Nat.zero_le _, Nat.zero_le _⟩ dX4_copy_100) (fun _ => map_app (wO_map _ _ _ _ _ _ _ _ _ _ _) rfl) (fun r fd2 H locs hp h => ?_)
          have h := (st_lin (st_gnis h))
          obtain ⟨rfl, hF2⟩ := hp
          have h : St E _ s H locs (wO E a k b t x q ((iv (ik))) fd2 ++ (wS E k ((hk)) ((nk)) (k1, k2, k3, k4, k5, k6, k7, k8, k9) ++ (wS E b ((iv (hr A))) ((iv (pe A))) (xs, xi, xk, xc, xl, xr, xb, yl, yr) ++ (wS E t ((ht)) ((nt)) (t1, t2, t3, t4, t5, t6, t7, t8, t9) ++ (wX E x ((iv (tn))) ((e1)) ((e2)) ((e3)) ((e4)) tp ++ (wH E (q 0) ((iv (bq 0))) ((iv (sq 0))) c0 ++ (wH E (q 1) ((iv (bq 1))) ((iv (sq 1))) c1 ++ (wH E (q 2) ((iv (bq 2))) ((iv (sq 2))) c2 ++ (wH E (q 3) ((iv (bq 3))) ((iv (sq 3))) c3 ++ []))))))))) := h
          have e9 : q_copy bq sq cq ph 2 pf 1 po pn = ((-1000000001), cq, (bump ph 0)) := by first | (unfold q_copy; (repeat (first | rw [if_pos (by omega)] | rw [if_neg (by omega)])); first | done | rfl) | (exfalso; omega)
          exact ret _ _ _ _ _ (((iv (ik)), fd2), ((hk), (nk), (k1, k2, k3, k4, k5, k6, k7, k8, k9)), ((iv (hr A)), (iv (pe A)), (xs, xi, xk, xc, xl, xr, xb, yl, yr)), ((ht), (nt), (t1, t2, t3, t4, t5, t6, t7, t8, t9)), ((iv (tn)), (e1), (e2), (e3), (e4), tp), ((iv (bq 0)), (iv (sq 0)), c0), ((iv (bq 1)), (iv (sq 1)), c1), ((iv (bq 2)), (iv (sq 2)), c2), ((iv (bq 3)), (iv (sq 3)), c3)) h (by rw [e9]; exact ⟨rfl, ⟨⟨rfl, rfl, hR, hI, hr9⟩, hK, hF2, hT, hB⟩⟩) dX4_copy_103
        · refine lv_aload X.1 X.2.1 dX4_copy_85 (lv_at hl 0 rfl) ?_
          refine lv_iload X.1 X.2.1 dX4_copy_87 (lv_at hl 6 rfl) ?_
          refine lv_iload X.1 X.2.1 dX4_copy_89 (lv_at hl 7 rfl) ?_
          refine z_pi (run_V (rest := []) X (st_sing (st_in (st_in (st_in (st_in (st_in (st_in (st_nil h)))))))) (c_X0_has (y := q 1) (sz := sq 1) (fr := po) (n9 := pn) (by omega) (by omega) r_po r_pn) mi_X0_has ml_X4_209 ⟨Nat.le_of_ble_eq_true rfl, Nat.le_of_ble_eq_true rfl⟩ ⟨rfl, rfl⟩ (Seg.mk' _ _) 0 37 rfl rfl rfl rfl hl.1 rfl (Nat.le_of_ble_eq_true rfl) ⟨Nat.zero_le _, Nat.zero_le _⟩ dX4_copy_91) ?_
          refine z_ifb_ne (tgt := 104) X dX4_copy_94 (by decide) (fun c_94 => ?_) (fun c_94 => ?_)
          · refine lv_aload X.1 X.2.1 dX4_copy_104 (lv_at hl 1 rfl) ?_
            refine z_get X h 0 39 2 rfl inX0 rfl (by decide) fl_X4_198 rfl dX4_copy_106 ?_
            refine lv_iload_n X.1 X.2.1 dX4_copy_109 rfl (lv_at hl 4 rfl) ?_
            refine lv_aload X.1 X.2.1 dX4_copy_110 (lv_at hl 0 rfl) ?_
            refine z_get X h 0 37 2 rfl inX0 rfl (by decide) fl_X4_198 rfl dX4_copy_112 ?_
            refine lv_iload X.1 X.2.1 dX4_copy_115 (lv_at hl 6 rfl) ?_
            refine lv_iload X.1 X.2.1 dX4_copy_117 (lv_at hl 7 rfl) ?_
            refine s_copyl X (st_in (st_in (st_in (st_in (st_in (st_in (st_nil h))))))) rfl 40 1 rfl rfl ml_X4_212 (by omega) (by omega) (by omega) (by omega) (by omega) (by decide) (by decide) hl.1 (Nat.le_of_ble_eq_true rfl) (Nat.le_of_ble_eq_true rfl) dX4_copy_119 (fun H locs h => ?_)
            have h := (st_lin (st_out (st_out (st_out (st_out (st_out (st_out (st_eq wH_numbers h))))))))
            have h : St E _ s H locs (wO E a k b t x q ((iv (ik))) fd ++ (wS E k ((hk)) ((nk)) (k1, k2, k3, k4, k5, k6, k7, k8, k9) ++ (wS E b ((iv (hr A))) ((iv (pe A))) (xs, xi, xk, xc, xl, xr, xb, yl, yr) ++ (wS E t ((ht)) ((nt)) (t1, t2, t3, t4, t5, t6, t7, t8, t9) ++ (wX E x ((iv (tn))) ((e1)) ((e2)) ((e3)) ((e4)) tp ++ (wH E (q 0) ((iv (bq 0))) ((iv (sq 0))) c0 ++ (wH E (q 1) ((iv (bq 1))) ((iv (sq 1))) (va_cpy c2 c1 (pf : Int).toNat (po : Int).toNat (pn : Int).toNat) ++ (wH E (q 2) ((iv (bq 2))) ((iv (sq 2))) c2 ++ (wH E (q 3) ((iv (bq 3))) ((iv (sq 3))) c3 ++ []))))))))) := h
            refine lv_iload X.1 X.2.1 dX4_copy_122 (lv_at hl 7 rfl) ?_
            have e9 : q_copy bq sq cq ph 2 pf 1 po pn = (pn, (cpy cq 2 pf 1 po 0 pn), ph) := by first | (unfold q_copy; (repeat (first | rw [if_pos (by omega)] | rw [if_neg (by omega)])); first | done | rfl) | (exfalso; omega)
            exact ret _ _ _ _ _ (((iv (ik)), fd), ((hk), (nk), (k1, k2, k3, k4, k5, k6, k7, k8, k9)), ((iv (hr A)), (iv (pe A)), (xs, xi, xk, xc, xl, xr, xb, yl, yr)), ((ht), (nt), (t1, t2, t3, t4, t5, t6, t7, t8, t9)), ((iv (tn)), (e1), (e2), (e3), (e4), tp), ((iv (bq 0)), (iv (sq 0)), c0), ((iv (bq 1)), (iv (sq 1)), (va_cpy c2 c1 (pf : Int).toNat (po : Int).toNat (pn : Int).toNat)), ((iv (bq 2)), (iv (sq 2)), c2), ((iv (bq 3)), (iv (sq 3)), c3)) h (by rw [e9]; exact ⟨rfl, ⟨⟨rfl, rfl, hR, hI, hr9⟩, hK, hF, hT, ⟨hB3, RepH_cn hH0 (by decide), RepH_cp hH2 hH1 (by omega) (by omega) (by omega) (by omega), RepH_cn hH2 (by decide), RepH_cn hH3 (by decide)⟩⟩⟩) dX4_copy_124
          · refine lv_aload_n X.1 X.2.1 dX4_copy_97 rfl (lv_at hl 2 rfl) ?_
            refine z_ldc (z := (-1000000001)) X ct_X4_48 (by decide) dX4_copy_98 ?_
            refine z_wi (st_sing (st_nil h)) (run_V (rest := []) X (st_sing (st_nil h)) (c_X4_finding (j := 0) hF (by decide) (by decide) (by decide)) mi_X4_finding ml_X4_49 ⟨Nat.le_of_ble_eq_true rfl, Nat.le_of_ble_eq_true rfl⟩ ⟨rfl, rfl⟩ (Seg.mk' _ _) 3 0 rfl rfl rfl rfl hl.1 rfl (Nat.le_of_ble_eq_true rfl) ⟨Nat.zero_le _, Nat.zero_le _⟩ dX4_copy_100) (fun _ => map_app (wO_map _ _ _ _ _ _ _ _ _ _ _) rfl) (fun r fd3 H locs hp h => ?_)
            have h := (st_lin (st_gnis h))
            obtain ⟨rfl, hF3⟩ := hp
            have h : St E _ s H locs (wO E a k b t x q ((iv (ik))) fd3 ++ (wS E k ((hk)) ((nk)) (k1, k2, k3, k4, k5, k6, k7, k8, k9) ++ (wS E b ((iv (hr A))) ((iv (pe A))) (xs, xi, xk, xc, xl, xr, xb, yl, yr) ++ (wS E t ((ht)) ((nt)) (t1, t2, t3, t4, t5, t6, t7, t8, t9) ++ (wX E x ((iv (tn))) ((e1)) ((e2)) ((e3)) ((e4)) tp ++ (wH E (q 0) ((iv (bq 0))) ((iv (sq 0))) c0 ++ (wH E (q 1) ((iv (bq 1))) ((iv (sq 1))) c1 ++ (wH E (q 2) ((iv (bq 2))) ((iv (sq 2))) c2 ++ (wH E (q 3) ((iv (bq 3))) ((iv (sq 3))) c3 ++ []))))))))) := h
            have e9 : q_copy bq sq cq ph 2 pf 1 po pn = ((-1000000001), cq, (bump ph 0)) := by first | (unfold q_copy; (repeat (first | rw [if_pos (by omega)] | rw [if_neg (by omega)])); first | done | rfl) | (exfalso; omega)
            exact ret _ _ _ _ _ (((iv (ik)), fd3), ((hk), (nk), (k1, k2, k3, k4, k5, k6, k7, k8, k9)), ((iv (hr A)), (iv (pe A)), (xs, xi, xk, xc, xl, xr, xb, yl, yr)), ((ht), (nt), (t1, t2, t3, t4, t5, t6, t7, t8, t9)), ((iv (tn)), (e1), (e2), (e3), (e4), tp), ((iv (bq 0)), (iv (sq 0)), c0), ((iv (bq 1)), (iv (sq 1)), c1), ((iv (bq 2)), (iv (sq 2)), c2), ((iv (bq 3)), (iv (sq 3)), c3)) h (by rw [e9]; exact ⟨rfl, ⟨⟨rfl, rfl, hR, hI, hr9⟩, hK, hF3, hT, hB⟩⟩) dX4_copy_103
      · refine lv_aload_n X.1 X.2.1 dX4_copy_67 rfl (lv_at hl 2 rfl) ?_
        refine z_ldc (z := (-1000000003)) X ct_X4_127 (by decide) dX4_copy_68 ?_
        refine z_wi (st_sing (st_nil h)) (run_V (rest := []) X (st_sing (st_nil h)) (c_X4_finding (j := 2) hF (by decide) (by decide) (by decide)) mi_X4_finding ml_X4_49 ⟨Nat.le_of_ble_eq_true rfl, Nat.le_of_ble_eq_true rfl⟩ ⟨rfl, rfl⟩ (Seg.mk' _ _) 3 0 rfl rfl rfl rfl hl.1 rfl (Nat.le_of_ble_eq_true rfl) ⟨Nat.zero_le _, Nat.zero_le _⟩ dX4_copy_70) (fun _ => map_app (wO_map _ _ _ _ _ _ _ _ _ _ _) rfl) (fun r fd4 H locs hp h => ?_)
        have h := (st_lin (st_gnis h))
        obtain ⟨rfl, hF4⟩ := hp
        have h : St E _ s H locs (wO E a k b t x q ((iv (ik))) fd4 ++ (wS E k ((hk)) ((nk)) (k1, k2, k3, k4, k5, k6, k7, k8, k9) ++ (wS E b ((iv (hr A))) ((iv (pe A))) (xs, xi, xk, xc, xl, xr, xb, yl, yr) ++ (wS E t ((ht)) ((nt)) (t1, t2, t3, t4, t5, t6, t7, t8, t9) ++ (wX E x ((iv (tn))) ((e1)) ((e2)) ((e3)) ((e4)) tp ++ (wH E (q 0) ((iv (bq 0))) ((iv (sq 0))) c0 ++ (wH E (q 1) ((iv (bq 1))) ((iv (sq 1))) c1 ++ (wH E (q 2) ((iv (bq 2))) ((iv (sq 2))) c2 ++ (wH E (q 3) ((iv (bq 3))) ((iv (sq 3))) c3 ++ []))))))))) := h
        have e9 : q_copy bq sq cq ph 2 pf 1 po pn = ((-1000000003), cq, (bump ph 2)) := by first | (unfold q_copy; (repeat (first | rw [if_pos (by omega)] | rw [if_neg (by omega)])); first | done | rfl) | (exfalso; omega)
        exact ret _ _ _ _ _ (((iv (ik)), fd4), ((hk), (nk), (k1, k2, k3, k4, k5, k6, k7, k8, k9)), ((iv (hr A)), (iv (pe A)), (xs, xi, xk, xc, xl, xr, xb, yl, yr)), ((ht), (nt), (t1, t2, t3, t4, t5, t6, t7, t8, t9)), ((iv (tn)), (e1), (e2), (e3), (e4), tp), ((iv (bq 0)), (iv (sq 0)), c0), ((iv (bq 1)), (iv (sq 1)), c1), ((iv (bq 2)), (iv (sq 2)), c2), ((iv (bq 3)), (iv (sq 3)), c3)) h (by rw [e9]; exact ⟨rfl, ⟨⟨rfl, rfl, hR, hI, hr9⟩, hK, hF4, hT, hB⟩⟩) dX4_copy_73
    · refine lv_aload_n X.1 X.2.1 dX4_copy_47 rfl (lv_at hl 2 rfl) ?_
      refine z_ldc (z := (-1000000006)) X ct_X4_197 (by decide) dX4_copy_48 ?_
      refine z_wi (st_sing (st_nil h)) (run_V (rest := []) X (st_sing (st_nil h)) (c_X4_finding (j := 5) hF (by decide) (by decide) (by decide)) mi_X4_finding ml_X4_49 ⟨Nat.le_of_ble_eq_true rfl, Nat.le_of_ble_eq_true rfl⟩ ⟨rfl, rfl⟩ (Seg.mk' _ _) 3 0 rfl rfl rfl rfl hl.1 rfl (Nat.le_of_ble_eq_true rfl) ⟨Nat.zero_le _, Nat.zero_le _⟩ dX4_copy_50) (fun _ => map_app (wO_map _ _ _ _ _ _ _ _ _ _ _) rfl) (fun r fd5 H locs hp h => ?_)
      have h := (st_lin (st_gnis h))
      obtain ⟨rfl, hF5⟩ := hp
      have h : St E _ s H locs (wO E a k b t x q ((iv (ik))) fd5 ++ (wS E k ((hk)) ((nk)) (k1, k2, k3, k4, k5, k6, k7, k8, k9) ++ (wS E b ((iv (hr A))) ((iv (pe A))) (xs, xi, xk, xc, xl, xr, xb, yl, yr) ++ (wS E t ((ht)) ((nt)) (t1, t2, t3, t4, t5, t6, t7, t8, t9) ++ (wX E x ((iv (tn))) ((e1)) ((e2)) ((e3)) ((e4)) tp ++ (wH E (q 0) ((iv (bq 0))) ((iv (sq 0))) c0 ++ (wH E (q 1) ((iv (bq 1))) ((iv (sq 1))) c1 ++ (wH E (q 2) ((iv (bq 2))) ((iv (sq 2))) c2 ++ (wH E (q 3) ((iv (bq 3))) ((iv (sq 3))) c3 ++ []))))))))) := h
      have e9 : q_copy bq sq cq ph 2 pf 1 po pn = ((-1000000006), cq, (bump ph 5)) := by first | (unfold q_copy; (repeat (first | rw [if_pos (by omega)] | rw [if_neg (by omega)])); first | done | rfl) | (exfalso; omega)
      exact ret _ _ _ _ _ (((iv (ik)), fd5), ((hk), (nk), (k1, k2, k3, k4, k5, k6, k7, k8, k9)), ((iv (hr A)), (iv (pe A)), (xs, xi, xk, xc, xl, xr, xb, yl, yr)), ((ht), (nt), (t1, t2, t3, t4, t5, t6, t7, t8, t9)), ((iv (tn)), (e1), (e2), (e3), (e4), tp), ((iv (bq 0)), (iv (sq 0)), c0), ((iv (bq 1)), (iv (sq 1)), c1), ((iv (bq 2)), (iv (sq 2)), c2), ((iv (bq 3)), (iv (sq 3)), c3)) h (by rw [e9]; exact ⟨rfl, ⟨⟨rfl, rfl, hR, hI, hr9⟩, hK, hF5, hT, hB⟩⟩) dX4_copy_53

set_option maxHeartbeats 4000000 in
theorem c_X4_copy_2_2 (hS : RepC (((iv (ik)), fd), ((hk), (nk), (k1, k2, k3, k4, k5, k6, k7, k8, k9)), ((iv (hr A)), (iv (pe A)), (xs, xi, xk, xc, xl, xr, xb, yl, yr)), ((ht), (nt), (t1, t2, t3, t4, t5, t6, t7, t8, t9)), ((iv (tn)), (e1), (e2), (e3), (e4), tp), ((iv (bq 0)), (iv (sq 0)), c0), ((iv (bq 1)), (iv (sq 1)), c1), ((iv (bq 2)), (iv (sq 2)), c2), ((iv (bq 3)), (iv (sq 3)), c3)) (A, K, ik, ph, tq, tn, bq, sq, cq)) {pf : Int} (r_pf : r32 pf) {po : Int} (r_po : r32 po) {pn : Int} (r_pn : r32 pn) : MI (S := Tc) E l yX4_copy cX4_copy 8 (some FieldType.int) (rmk 2 44) (wO E a k b t x q ((iv (ik))) fd ++ (wS E k ((hk)) ((nk)) (k1, k2, k3, k4, k5, k6, k7, k8, k9) ++ (wS E b ((iv (hr A))) ((iv (pe A))) (xs, xi, xk, xc, xl, xr, xb, yl, yr) ++ (wS E t ((ht)) ((nt)) (t1, t2, t3, t4, t5, t6, t7, t8, t9) ++ (wX E x ((iv (tn))) ((e1)) ((e2)) ((e3)) ((e4)) tp ++ (wH E (q 0) ((iv (bq 0))) ((iv (sq 0))) c0 ++ (wH E (q 1) ((iv (bq 1))) ((iv (sq 1))) c1 ++ (wH E (q 2) ((iv (bq 2))) ((iv (sq 2))) c2 ++ (wH E (q 3) ((iv (bq 3))) ((iv (sq 3))) c3 ++ []))))))))) [.ref (a 0), .int (iv (2)), .int (iv (pf)), .int (iv (2)), .int (iv (po)), .int (iv (pn))] (fun r u => r = iv ((q_copy bq sq cq ph 2 pf 2 po pn).1) ∧ RepC u (A, K, ik, (q_copy bq sq cq ph 2 pf 2 po pn).2.2, tq, tn, bq, sq, (q_copy bq sq cq ph 2 pf 2 po pn).2.1)) (fun u => wT E a k b t x q u) := by
  refine goI (S := Tc) (post := fun r u => r = iv ((q_copy bq sq cq ph 2 pf 2 po pn).1) ∧ RepC u (A, K, ik, (q_copy bq sq cq ph 2 pf 2 po pn).2.2, tq, tn, bq, sq, (q_copy bq sq cq ph 2 pf 2 po pn).2.1)) (ws' := fun u => wT E a k b t x q u) (by decide) (Nat.le_of_ble_eq_true rfl) ?_
  intro pp e s m below meth c ls args Q ret X h hl
  have hl : lv_has ls 8 [(0, .ref (a 0)), (1, .int (iv (2))), (2, .int (iv (pf))), (3, .int (iv (2))), (4, .int (iv (po))), (5, .int (iv (pn)))] := hl
  have hR : RS (xs, xi, xk, xc, xl, xr, xb, yl, yr) A := hS.1.2.2.1
  have hI : IA A := hS.1.2.2.2.1
  have hr9 : hr A ≤ 99999 := hS.1.2.2.2.2
  have hF : RF 7 fd ph := hS.2.2.1
  have hK := hS.2.1
  have hT := hS.2.2.2.1
  have hB := hS.2.2.2.2
  have hh : hr A < 1000000 := by omega
  have n8 := hI.n8
  have n0 := hI.n0
  have h0 := hI.h0
  have ht0 : 0 ≤ tn := hS.2.2.2.1.2.1
  have ht1 : tn ≤ 120 := hS.2.2.2.1.2.2.1
  have hk01 : ik = 0 ∨ ik = 1 := hS.2.1.2.1
  have hB3 : okB bq sq := hS.2.2.2.2.1
  have hH0 : RepH (iv (bq 0), iv (sq 0), c0) bq sq cq 0 := hS.2.2.2.2.2.1
  have hH1 : RepH (iv (bq 1), iv (sq 1), c1) bq sq cq 1 := hS.2.2.2.2.2.2.1
  have hH2 : RepH (iv (bq 2), iv (sq 2), c2) bq sq cq 2 := hS.2.2.2.2.2.2.2.1
  have hH3 : RepH (iv (bq 3), iv (sq 3), c3) bq sq cq 3 := hS.2.2.2.2.2.2.2.2
  have ob2 := hB3.1 2 (by omega) (by omega)
  have zb2 := hB3.2 2 (by omega) (by omega)
  have q2 := r_pf.1
  have q22 := r_pf.2
  have q4 := r_po.1
  have q42 := r_po.2
  have q5 := r_pn.1
  have q52 := r_pn.2
  refine lv_aload_n X.1 X.2.1 dX4_copy_0 rfl (lv_at hl 0 rfl) ?_
  refine lv_iload_n X.1 X.2.1 dX4_copy_1 rfl (lv_at hl 1 rfl) ?_
  refine z_pq (run_V (rest := []) X h (c_sheetAt2) mi_X4_sheetAt ml_X4_184 ⟨Nat.le_of_ble_eq_true rfl, Nat.le_of_ble_eq_true rfl⟩ ⟨rfl, rfl⟩ (Seg.rfl' _) 3 0 rfl rfl rfl rfl hl.1 rfl (Nat.le_of_ble_eq_true rfl) ⟨Nat.zero_le _, Nat.zero_le _⟩ dX4_copy_2) ?_
  refine W.eq (g2 := F0 m 5 ls [.ref (q 2 0)]) rfl ?_
  refine lv_astore (lv' := [(6, .ref (q 2 0)), (0, .ref (a 0)), (1, .int (iv (2))), (2, .int (iv (pf))), (3, .int (iv (2))), (4, .int (iv (po))), (5, .int (iv (pn)))]) X.1 X.2.1 dX4_copy_5 hl (by decide) rfl (fun ls hl => ?_)
  refine lv_aload_n X.1 X.2.1 dX4_copy_7 rfl (lv_at hl 1 rfl) ?_
  refine lv_iload_n X.1 X.2.1 dX4_copy_8 rfl (lv_at hl 4 rfl) ?_
  refine z_pq (run_V (rest := []) X h (c_sheetAt2) mi_X4_sheetAt ml_X4_184 ⟨Nat.le_of_ble_eq_true rfl, Nat.le_of_ble_eq_true rfl⟩ ⟨rfl, rfl⟩ (Seg.rfl' _) 3 0 rfl rfl rfl rfl hl.1 rfl (Nat.le_of_ble_eq_true rfl) ⟨Nat.zero_le _, Nat.zero_le _⟩ dX4_copy_9) ?_
  refine W.eq (g2 := F0 m 12 ls [.ref (q 2 0)]) rfl ?_
  refine lv_astore (lv' := [(7, .ref (q 2 0)), (6, .ref (q 2 0)), (0, .ref (a 0)), (1, .int (iv (2))), (2, .int (iv (pf))), (3, .int (iv (2))), (4, .int (iv (po))), (5, .int (iv (pn)))]) X.1 X.2.1 dX4_copy_12 hl (by decide) rfl (fun ls hl => ?_)
  refine lv_aload X.1 X.2.1 dX4_copy_14 (lv_at hl 1 rfl) ?_
  refine lv_ifnull X.1 X.2.1 dX4_copy_16 ?_
  refine lv_aload X.1 X.2.1 dX4_copy_19 (lv_at hl 0 rfl) ?_
  refine lv_ifnonnull (tgt := 31) X.1 X.2.1 dX4_copy_21 (by decide) ?_
  refine lv_aload X.1 X.2.1 dX4_copy_31 (lv_at hl 1 rfl) ?_
  refine z_pi (run_V (rest := []) X (st_sing (st_in (st_in (st_in (st_in (st_in (st_in (st_in (st_nil h))))))))) (c_X0_isMissing (y := q 2) (bt := bq 2) ⟨by omega, by omega⟩) mi_X0_isMissing ml_X4_193 ⟨Nat.le_of_ble_eq_true rfl, Nat.le_of_ble_eq_true rfl⟩ ⟨rfl, rfl⟩ (Seg.mk' _ _) 0 39 rfl rfl rfl rfl hl.1 rfl (Nat.le_of_ble_eq_true rfl) ⟨Nat.zero_le _, Nat.zero_le _⟩ dX4_copy_33) ?_
  refine z_ifb_ne (tgt := 47) X dX4_copy_36 (by decide) (fun c_36 => ?_) (fun c_36 => ?_)
  · refine lv_aload_n X.1 X.2.1 dX4_copy_47 rfl (lv_at hl 2 rfl) ?_
    refine z_ldc (z := (-1000000006)) X ct_X4_197 (by decide) dX4_copy_48 ?_
    refine z_wi (st_sing (st_nil h)) (run_V (rest := []) X (st_sing (st_nil h)) (c_X4_finding (j := 5) hF (by decide) (by decide) (by decide)) mi_X4_finding ml_X4_49 ⟨Nat.le_of_ble_eq_true rfl, Nat.le_of_ble_eq_true rfl⟩ ⟨rfl, rfl⟩ (Seg.mk' _ _) 3 0 rfl rfl rfl rfl hl.1 rfl (Nat.le_of_ble_eq_true rfl) ⟨Nat.zero_le _, Nat.zero_le _⟩ dX4_copy_50) (fun _ => map_app (wO_map _ _ _ _ _ _ _ _ _ _ _) rfl) (fun r fd1 H locs hp h => ?_)
    have h := (st_lin (st_gnis h))
    obtain ⟨rfl, hF1⟩ := hp
    have h : St E _ s H locs (wO E a k b t x q ((iv (ik))) fd1 ++ (wS E k ((hk)) ((nk)) (k1, k2, k3, k4, k5, k6, k7, k8, k9) ++ (wS E b ((iv (hr A))) ((iv (pe A))) (xs, xi, xk, xc, xl, xr, xb, yl, yr) ++ (wS E t ((ht)) ((nt)) (t1, t2, t3, t4, t5, t6, t7, t8, t9) ++ (wX E x ((iv (tn))) ((e1)) ((e2)) ((e3)) ((e4)) tp ++ (wH E (q 0) ((iv (bq 0))) ((iv (sq 0))) c0 ++ (wH E (q 1) ((iv (bq 1))) ((iv (sq 1))) c1 ++ (wH E (q 2) ((iv (bq 2))) ((iv (sq 2))) c2 ++ (wH E (q 3) ((iv (bq 3))) ((iv (sq 3))) c3 ++ []))))))))) := h
    have e9 : q_copy bq sq cq ph 2 pf 2 po pn = ((-1000000006), cq, (bump ph 5)) := by first | (unfold q_copy; (repeat (first | rw [if_pos (by omega)] | rw [if_neg (by omega)])); first | done | rfl) | (exfalso; omega)
    exact ret _ _ _ _ _ (((iv (ik)), fd1), ((hk), (nk), (k1, k2, k3, k4, k5, k6, k7, k8, k9)), ((iv (hr A)), (iv (pe A)), (xs, xi, xk, xc, xl, xr, xb, yl, yr)), ((ht), (nt), (t1, t2, t3, t4, t5, t6, t7, t8, t9)), ((iv (tn)), (e1), (e2), (e3), (e4), tp), ((iv (bq 0)), (iv (sq 0)), c0), ((iv (bq 1)), (iv (sq 1)), c1), ((iv (bq 2)), (iv (sq 2)), c2), ((iv (bq 3)), (iv (sq 3)), c3)) h (by rw [e9]; exact ⟨rfl, ⟨⟨rfl, rfl, hR, hI, hr9⟩, hK, hF1, hT, hB⟩⟩) dX4_copy_53
  · refine lv_aload X.1 X.2.1 dX4_copy_39 (lv_at hl 0 rfl) ?_
    refine z_pi (run_V (rest := []) X (st_sing (st_in (st_in (st_in (st_in (st_in (st_in (st_in (st_nil h))))))))) (c_X0_isMissing (y := q 2) (bt := bq 2) ⟨by omega, by omega⟩) mi_X0_isMissing ml_X4_193 ⟨Nat.le_of_ble_eq_true rfl, Nat.le_of_ble_eq_true rfl⟩ ⟨rfl, rfl⟩ (Seg.mk' _ _) 0 39 rfl rfl rfl rfl hl.1 rfl (Nat.le_of_ble_eq_true rfl) ⟨Nat.zero_le _, Nat.zero_le _⟩ dX4_copy_41) ?_
    refine z_ifb_eq (tgt := 54) X dX4_copy_44 (by decide) (fun c_44 => ?_) (fun c_44 => ?_)
    · refine lv_aload X.1 X.2.1 dX4_copy_54 (lv_at hl 1 rfl) ?_
      refine z_get X h 0 39 0 rfl inX0 rfl (by decide) fl_X4_206 rfl dX4_copy_56 ?_
      refine lv_aload X.1 X.2.1 dX4_copy_59 (lv_at hl 0 rfl) ?_
      refine z_get X h 0 39 0 rfl inX0 rfl (by decide) fl_X4_206 rfl dX4_copy_61 ?_
      refine z_ic_eq (tgt := 74) X ⟨by omega, by omega⟩ ⟨by omega, by omega⟩ dX4_copy_64 (by decide) (fun c_64 => ?_) (fun c_64 => ?_)
      · refine lv_aload X.1 X.2.1 dX4_copy_74 (lv_at hl 1 rfl) ?_
        refine lv_iload_n X.1 X.2.1 dX4_copy_76 rfl (lv_at hl 4 rfl) ?_
        refine lv_iload X.1 X.2.1 dX4_copy_77 (lv_at hl 7 rfl) ?_
        refine z_pi (run_V (rest := []) X (st_sing (st_in (st_in (st_in (st_in (st_in (st_in (st_in (st_nil h))))))))) (c_X0_has (y := q 2) (sz := sq 2) (fr := pf) (n9 := pn) (by omega) (by omega) r_pf r_pn) mi_X0_has ml_X4_209 ⟨Nat.le_of_ble_eq_true rfl, Nat.le_of_ble_eq_true rfl⟩ ⟨rfl, rfl⟩ (Seg.mk' _ _) 0 39 rfl rfl rfl rfl hl.1 rfl (Nat.le_of_ble_eq_true rfl) ⟨Nat.zero_le _, Nat.zero_le _⟩ dX4_copy_79) ?_
        refine z_ifb_eq (tgt := 97) X dX4_copy_82 (by decide) (fun c_82 => ?_) (fun c_82 => ?_)
        · refine lv_aload_n X.1 X.2.1 dX4_copy_97 rfl (lv_at hl 2 rfl) ?_
          refine z_ldc (z := (-1000000001)) X ct_X4_48 (by decide) dX4_copy_98 ?_
          refine z_wi (st_sing (st_nil h)) (run_V (rest := []) X (st_sing (st_nil h)) (c_X4_finding (j := 0) hF (by decide) (by decide) (by decide)) mi_X4_finding ml_X4_49 ⟨Nat.le_of_ble_eq_true rfl, Nat.le_of_ble_eq_true rfl⟩ ⟨rfl, rfl⟩ (Seg.mk' _ _) 3 0 rfl rfl rfl rfl hl.1 rfl (Nat.le_of_ble_eq_true rfl) ⟨Nat.zero_le _, Nat.zero_le _⟩ dX4_copy_100) (fun _ => map_app (wO_map _ _ _ _ _ _ _ _ _ _ _) rfl) (fun r fd2 H locs hp h => ?_)
          have h := (st_lin (st_gnis h))
          obtain ⟨rfl, hF2⟩ := hp
          have h : St E _ s H locs (wO E a k b t x q ((iv (ik))) fd2 ++ (wS E k ((hk)) ((nk)) (k1, k2, k3, k4, k5, k6, k7, k8, k9) ++ (wS E b ((iv (hr A))) ((iv (pe A))) (xs, xi, xk, xc, xl, xr, xb, yl, yr) ++ (wS E t ((ht)) ((nt)) (t1, t2, t3, t4, t5, t6, t7, t8, t9) ++ (wX E x ((iv (tn))) ((e1)) ((e2)) ((e3)) ((e4)) tp ++ (wH E (q 0) ((iv (bq 0))) ((iv (sq 0))) c0 ++ (wH E (q 1) ((iv (bq 1))) ((iv (sq 1))) c1 ++ (wH E (q 2) ((iv (bq 2))) ((iv (sq 2))) c2 ++ (wH E (q 3) ((iv (bq 3))) ((iv (sq 3))) c3 ++ []))))))))) := h
          have e9 : q_copy bq sq cq ph 2 pf 2 po pn = ((-1000000001), cq, (bump ph 0)) := by first | (unfold q_copy; (repeat (first | rw [if_pos (by omega)] | rw [if_neg (by omega)])); first | done | rfl) | (exfalso; omega)
          exact ret _ _ _ _ _ (((iv (ik)), fd2), ((hk), (nk), (k1, k2, k3, k4, k5, k6, k7, k8, k9)), ((iv (hr A)), (iv (pe A)), (xs, xi, xk, xc, xl, xr, xb, yl, yr)), ((ht), (nt), (t1, t2, t3, t4, t5, t6, t7, t8, t9)), ((iv (tn)), (e1), (e2), (e3), (e4), tp), ((iv (bq 0)), (iv (sq 0)), c0), ((iv (bq 1)), (iv (sq 1)), c1), ((iv (bq 2)), (iv (sq 2)), c2), ((iv (bq 3)), (iv (sq 3)), c3)) h (by rw [e9]; exact ⟨rfl, ⟨⟨rfl, rfl, hR, hI, hr9⟩, hK, hF2, hT, hB⟩⟩) dX4_copy_103
        · refine lv_aload X.1 X.2.1 dX4_copy_85 (lv_at hl 0 rfl) ?_
          refine lv_iload X.1 X.2.1 dX4_copy_87 (lv_at hl 6 rfl) ?_
          refine lv_iload X.1 X.2.1 dX4_copy_89 (lv_at hl 7 rfl) ?_
          refine z_pi (run_V (rest := []) X (st_sing (st_in (st_in (st_in (st_in (st_in (st_in (st_in (st_nil h))))))))) (c_X0_has (y := q 2) (sz := sq 2) (fr := po) (n9 := pn) (by omega) (by omega) r_po r_pn) mi_X0_has ml_X4_209 ⟨Nat.le_of_ble_eq_true rfl, Nat.le_of_ble_eq_true rfl⟩ ⟨rfl, rfl⟩ (Seg.mk' _ _) 0 39 rfl rfl rfl rfl hl.1 rfl (Nat.le_of_ble_eq_true rfl) ⟨Nat.zero_le _, Nat.zero_le _⟩ dX4_copy_91) ?_
          refine z_ifb_ne (tgt := 104) X dX4_copy_94 (by decide) (fun c_94 => ?_) (fun c_94 => ?_)
          · refine lv_aload X.1 X.2.1 dX4_copy_104 (lv_at hl 1 rfl) ?_
            refine z_get X h 0 39 2 rfl inX0 rfl (by decide) fl_X4_198 rfl dX4_copy_106 ?_
            refine lv_iload_n X.1 X.2.1 dX4_copy_109 rfl (lv_at hl 4 rfl) ?_
            refine lv_aload X.1 X.2.1 dX4_copy_110 (lv_at hl 0 rfl) ?_
            refine z_get X h 0 39 2 rfl inX0 rfl (by decide) fl_X4_198 rfl dX4_copy_112 ?_
            refine lv_iload X.1 X.2.1 dX4_copy_115 (lv_at hl 6 rfl) ?_
            refine lv_iload X.1 X.2.1 dX4_copy_117 (lv_at hl 7 rfl) ?_
            refine s_copyl X (st_in (st_in (st_in (st_in (st_in (st_in (st_in (st_nil h)))))))) rfl 40 1 rfl rfl ml_X4_212 (by omega) (by omega) (by omega) (by omega) (by omega) (by decide) (by decide) hl.1 (Nat.le_of_ble_eq_true rfl) (Nat.le_of_ble_eq_true rfl) dX4_copy_119 (fun H locs h => ?_)
            have h := (st_lin (st_out (st_out (st_out (st_out (st_out (st_out (st_out (st_eq wH_numbers h)))))))))
            have h : St E _ s H locs (wO E a k b t x q ((iv (ik))) fd ++ (wS E k ((hk)) ((nk)) (k1, k2, k3, k4, k5, k6, k7, k8, k9) ++ (wS E b ((iv (hr A))) ((iv (pe A))) (xs, xi, xk, xc, xl, xr, xb, yl, yr) ++ (wS E t ((ht)) ((nt)) (t1, t2, t3, t4, t5, t6, t7, t8, t9) ++ (wX E x ((iv (tn))) ((e1)) ((e2)) ((e3)) ((e4)) tp ++ (wH E (q 0) ((iv (bq 0))) ((iv (sq 0))) c0 ++ (wH E (q 1) ((iv (bq 1))) ((iv (sq 1))) c1 ++ (wH E (q 2) ((iv (bq 2))) ((iv (sq 2))) (va_cpy c2 c2 (pf : Int).toNat (po : Int).toNat (pn : Int).toNat) ++ (wH E (q 3) ((iv (bq 3))) ((iv (sq 3))) c3 ++ []))))))))) := h
            refine lv_iload X.1 X.2.1 dX4_copy_122 (lv_at hl 7 rfl) ?_
            have e9 : q_copy bq sq cq ph 2 pf 2 po pn = (pn, (cpy cq 2 pf 2 po 0 pn), ph) := by first | (unfold q_copy; (repeat (first | rw [if_pos (by omega)] | rw [if_neg (by omega)])); first | done | rfl) | (exfalso; omega)
            exact ret _ _ _ _ _ (((iv (ik)), fd), ((hk), (nk), (k1, k2, k3, k4, k5, k6, k7, k8, k9)), ((iv (hr A)), (iv (pe A)), (xs, xi, xk, xc, xl, xr, xb, yl, yr)), ((ht), (nt), (t1, t2, t3, t4, t5, t6, t7, t8, t9)), ((iv (tn)), (e1), (e2), (e3), (e4), tp), ((iv (bq 0)), (iv (sq 0)), c0), ((iv (bq 1)), (iv (sq 1)), c1), ((iv (bq 2)), (iv (sq 2)), (va_cpy c2 c2 (pf : Int).toNat (po : Int).toNat (pn : Int).toNat)), ((iv (bq 3)), (iv (sq 3)), c3)) h (by rw [e9]; exact ⟨rfl, ⟨⟨rfl, rfl, hR, hI, hr9⟩, hK, hF, hT, ⟨hB3, RepH_cn hH0 (by decide), RepH_cn hH1 (by decide), RepH_cp hH2 hH2 (by omega) (by omega) (by omega) (by omega), RepH_cn hH3 (by decide)⟩⟩⟩) dX4_copy_124
          · refine lv_aload_n X.1 X.2.1 dX4_copy_97 rfl (lv_at hl 2 rfl) ?_
            refine z_ldc (z := (-1000000001)) X ct_X4_48 (by decide) dX4_copy_98 ?_
            refine z_wi (st_sing (st_nil h)) (run_V (rest := []) X (st_sing (st_nil h)) (c_X4_finding (j := 0) hF (by decide) (by decide) (by decide)) mi_X4_finding ml_X4_49 ⟨Nat.le_of_ble_eq_true rfl, Nat.le_of_ble_eq_true rfl⟩ ⟨rfl, rfl⟩ (Seg.mk' _ _) 3 0 rfl rfl rfl rfl hl.1 rfl (Nat.le_of_ble_eq_true rfl) ⟨Nat.zero_le _, Nat.zero_le _⟩ dX4_copy_100) (fun _ => map_app (wO_map _ _ _ _ _ _ _ _ _ _ _) rfl) (fun r fd3 H locs hp h => ?_)
            have h := (st_lin (st_gnis h))
            obtain ⟨rfl, hF3⟩ := hp
            have h : St E _ s H locs (wO E a k b t x q ((iv (ik))) fd3 ++ (wS E k ((hk)) ((nk)) (k1, k2, k3, k4, k5, k6, k7, k8, k9) ++ (wS E b ((iv (hr A))) ((iv (pe A))) (xs, xi, xk, xc, xl, xr, xb, yl, yr) ++ (wS E t ((ht)) ((nt)) (t1, t2, t3, t4, t5, t6, t7, t8, t9) ++ (wX E x ((iv (tn))) ((e1)) ((e2)) ((e3)) ((e4)) tp ++ (wH E (q 0) ((iv (bq 0))) ((iv (sq 0))) c0 ++ (wH E (q 1) ((iv (bq 1))) ((iv (sq 1))) c1 ++ (wH E (q 2) ((iv (bq 2))) ((iv (sq 2))) c2 ++ (wH E (q 3) ((iv (bq 3))) ((iv (sq 3))) c3 ++ []))))))))) := h
            have e9 : q_copy bq sq cq ph 2 pf 2 po pn = ((-1000000001), cq, (bump ph 0)) := by first | (unfold q_copy; (repeat (first | rw [if_pos (by omega)] | rw [if_neg (by omega)])); first | done | rfl) | (exfalso; omega)
            exact ret _ _ _ _ _ (((iv (ik)), fd3), ((hk), (nk), (k1, k2, k3, k4, k5, k6, k7, k8, k9)), ((iv (hr A)), (iv (pe A)), (xs, xi, xk, xc, xl, xr, xb, yl, yr)), ((ht), (nt), (t1, t2, t3, t4, t5, t6, t7, t8, t9)), ((iv (tn)), (e1), (e2), (e3), (e4), tp), ((iv (bq 0)), (iv (sq 0)), c0), ((iv (bq 1)), (iv (sq 1)), c1), ((iv (bq 2)), (iv (sq 2)), c2), ((iv (bq 3)), (iv (sq 3)), c3)) h (by rw [e9]; exact ⟨rfl, ⟨⟨rfl, rfl, hR, hI, hr9⟩, hK, hF3, hT, hB⟩⟩) dX4_copy_103
      · refine lv_aload_n X.1 X.2.1 dX4_copy_67 rfl (lv_at hl 2 rfl) ?_
        refine z_ldc (z := (-1000000003)) X ct_X4_127 (by decide) dX4_copy_68 ?_
        refine z_wi (st_sing (st_nil h)) (run_V (rest := []) X (st_sing (st_nil h)) (c_X4_finding (j := 2) hF (by decide) (by decide) (by decide)) mi_X4_finding ml_X4_49 ⟨Nat.le_of_ble_eq_true rfl, Nat.le_of_ble_eq_true rfl⟩ ⟨rfl, rfl⟩ (Seg.mk' _ _) 3 0 rfl rfl rfl rfl hl.1 rfl (Nat.le_of_ble_eq_true rfl) ⟨Nat.zero_le _, Nat.zero_le _⟩ dX4_copy_70) (fun _ => map_app (wO_map _ _ _ _ _ _ _ _ _ _ _) rfl) (fun r fd4 H locs hp h => ?_)
        have h := (st_lin (st_gnis h))
        obtain ⟨rfl, hF4⟩ := hp
        have h : St E _ s H locs (wO E a k b t x q ((iv (ik))) fd4 ++ (wS E k ((hk)) ((nk)) (k1, k2, k3, k4, k5, k6, k7, k8, k9) ++ (wS E b ((iv (hr A))) ((iv (pe A))) (xs, xi, xk, xc, xl, xr, xb, yl, yr) ++ (wS E t ((ht)) ((nt)) (t1, t2, t3, t4, t5, t6, t7, t8, t9) ++ (wX E x ((iv (tn))) ((e1)) ((e2)) ((e3)) ((e4)) tp ++ (wH E (q 0) ((iv (bq 0))) ((iv (sq 0))) c0 ++ (wH E (q 1) ((iv (bq 1))) ((iv (sq 1))) c1 ++ (wH E (q 2) ((iv (bq 2))) ((iv (sq 2))) c2 ++ (wH E (q 3) ((iv (bq 3))) ((iv (sq 3))) c3 ++ []))))))))) := h
        have e9 : q_copy bq sq cq ph 2 pf 2 po pn = ((-1000000003), cq, (bump ph 2)) := by first | (unfold q_copy; (repeat (first | rw [if_pos (by omega)] | rw [if_neg (by omega)])); first | done | rfl) | (exfalso; omega)
        exact ret _ _ _ _ _ (((iv (ik)), fd4), ((hk), (nk), (k1, k2, k3, k4, k5, k6, k7, k8, k9)), ((iv (hr A)), (iv (pe A)), (xs, xi, xk, xc, xl, xr, xb, yl, yr)), ((ht), (nt), (t1, t2, t3, t4, t5, t6, t7, t8, t9)), ((iv (tn)), (e1), (e2), (e3), (e4), tp), ((iv (bq 0)), (iv (sq 0)), c0), ((iv (bq 1)), (iv (sq 1)), c1), ((iv (bq 2)), (iv (sq 2)), c2), ((iv (bq 3)), (iv (sq 3)), c3)) h (by rw [e9]; exact ⟨rfl, ⟨⟨rfl, rfl, hR, hI, hr9⟩, hK, hF4, hT, hB⟩⟩) dX4_copy_73
    · refine lv_aload_n X.1 X.2.1 dX4_copy_47 rfl (lv_at hl 2 rfl) ?_
      refine z_ldc (z := (-1000000006)) X ct_X4_197 (by decide) dX4_copy_48 ?_
      refine z_wi (st_sing (st_nil h)) (run_V (rest := []) X (st_sing (st_nil h)) (c_X4_finding (j := 5) hF (by decide) (by decide) (by decide)) mi_X4_finding ml_X4_49 ⟨Nat.le_of_ble_eq_true rfl, Nat.le_of_ble_eq_true rfl⟩ ⟨rfl, rfl⟩ (Seg.mk' _ _) 3 0 rfl rfl rfl rfl hl.1 rfl (Nat.le_of_ble_eq_true rfl) ⟨Nat.zero_le _, Nat.zero_le _⟩ dX4_copy_50) (fun _ => map_app (wO_map _ _ _ _ _ _ _ _ _ _ _) rfl) (fun r fd5 H locs hp h => ?_)
      have h := (st_lin (st_gnis h))
      obtain ⟨rfl, hF5⟩ := hp
      have h : St E _ s H locs (wO E a k b t x q ((iv (ik))) fd5 ++ (wS E k ((hk)) ((nk)) (k1, k2, k3, k4, k5, k6, k7, k8, k9) ++ (wS E b ((iv (hr A))) ((iv (pe A))) (xs, xi, xk, xc, xl, xr, xb, yl, yr) ++ (wS E t ((ht)) ((nt)) (t1, t2, t3, t4, t5, t6, t7, t8, t9) ++ (wX E x ((iv (tn))) ((e1)) ((e2)) ((e3)) ((e4)) tp ++ (wH E (q 0) ((iv (bq 0))) ((iv (sq 0))) c0 ++ (wH E (q 1) ((iv (bq 1))) ((iv (sq 1))) c1 ++ (wH E (q 2) ((iv (bq 2))) ((iv (sq 2))) c2 ++ (wH E (q 3) ((iv (bq 3))) ((iv (sq 3))) c3 ++ []))))))))) := h
      have e9 : q_copy bq sq cq ph 2 pf 2 po pn = ((-1000000006), cq, (bump ph 5)) := by first | (unfold q_copy; (repeat (first | rw [if_pos (by omega)] | rw [if_neg (by omega)])); first | done | rfl) | (exfalso; omega)
      exact ret _ _ _ _ _ (((iv (ik)), fd5), ((hk), (nk), (k1, k2, k3, k4, k5, k6, k7, k8, k9)), ((iv (hr A)), (iv (pe A)), (xs, xi, xk, xc, xl, xr, xb, yl, yr)), ((ht), (nt), (t1, t2, t3, t4, t5, t6, t7, t8, t9)), ((iv (tn)), (e1), (e2), (e3), (e4), tp), ((iv (bq 0)), (iv (sq 0)), c0), ((iv (bq 1)), (iv (sq 1)), c1), ((iv (bq 2)), (iv (sq 2)), c2), ((iv (bq 3)), (iv (sq 3)), c3)) h (by rw [e9]; exact ⟨rfl, ⟨⟨rfl, rfl, hR, hI, hr9⟩, hK, hF5, hT, hB⟩⟩) dX4_copy_53

set_option maxHeartbeats 4000000 in
theorem c_X4_copy_2_3 (hS : RepC (((iv (ik)), fd), ((hk), (nk), (k1, k2, k3, k4, k5, k6, k7, k8, k9)), ((iv (hr A)), (iv (pe A)), (xs, xi, xk, xc, xl, xr, xb, yl, yr)), ((ht), (nt), (t1, t2, t3, t4, t5, t6, t7, t8, t9)), ((iv (tn)), (e1), (e2), (e3), (e4), tp), ((iv (bq 0)), (iv (sq 0)), c0), ((iv (bq 1)), (iv (sq 1)), c1), ((iv (bq 2)), (iv (sq 2)), c2), ((iv (bq 3)), (iv (sq 3)), c3)) (A, K, ik, ph, tq, tn, bq, sq, cq)) {pf : Int} (r_pf : r32 pf) {po : Int} (r_po : r32 po) {pn : Int} (r_pn : r32 pn) : MI (S := Tc) E l yX4_copy cX4_copy 8 (some FieldType.int) (rmk 2 44) (wO E a k b t x q ((iv (ik))) fd ++ (wS E k ((hk)) ((nk)) (k1, k2, k3, k4, k5, k6, k7, k8, k9) ++ (wS E b ((iv (hr A))) ((iv (pe A))) (xs, xi, xk, xc, xl, xr, xb, yl, yr) ++ (wS E t ((ht)) ((nt)) (t1, t2, t3, t4, t5, t6, t7, t8, t9) ++ (wX E x ((iv (tn))) ((e1)) ((e2)) ((e3)) ((e4)) tp ++ (wH E (q 0) ((iv (bq 0))) ((iv (sq 0))) c0 ++ (wH E (q 1) ((iv (bq 1))) ((iv (sq 1))) c1 ++ (wH E (q 2) ((iv (bq 2))) ((iv (sq 2))) c2 ++ (wH E (q 3) ((iv (bq 3))) ((iv (sq 3))) c3 ++ []))))))))) [.ref (a 0), .int (iv (2)), .int (iv (pf)), .int (iv (3)), .int (iv (po)), .int (iv (pn))] (fun r u => r = iv ((q_copy bq sq cq ph 2 pf 3 po pn).1) ∧ RepC u (A, K, ik, (q_copy bq sq cq ph 2 pf 3 po pn).2.2, tq, tn, bq, sq, (q_copy bq sq cq ph 2 pf 3 po pn).2.1)) (fun u => wT E a k b t x q u) := by
  refine goI (S := Tc) (post := fun r u => r = iv ((q_copy bq sq cq ph 2 pf 3 po pn).1) ∧ RepC u (A, K, ik, (q_copy bq sq cq ph 2 pf 3 po pn).2.2, tq, tn, bq, sq, (q_copy bq sq cq ph 2 pf 3 po pn).2.1)) (ws' := fun u => wT E a k b t x q u) (by decide) (Nat.le_of_ble_eq_true rfl) ?_
  intro pp e s m below meth c ls args Q ret X h hl
  have hl : lv_has ls 8 [(0, .ref (a 0)), (1, .int (iv (2))), (2, .int (iv (pf))), (3, .int (iv (3))), (4, .int (iv (po))), (5, .int (iv (pn)))] := hl
  have hR : RS (xs, xi, xk, xc, xl, xr, xb, yl, yr) A := hS.1.2.2.1
  have hI : IA A := hS.1.2.2.2.1
  have hr9 : hr A ≤ 99999 := hS.1.2.2.2.2
  have hF : RF 7 fd ph := hS.2.2.1
  have hK := hS.2.1
  have hT := hS.2.2.2.1
  have hB := hS.2.2.2.2
  have hh : hr A < 1000000 := by omega
  have n8 := hI.n8
  have n0 := hI.n0
  have h0 := hI.h0
  have ht0 : 0 ≤ tn := hS.2.2.2.1.2.1
  have ht1 : tn ≤ 120 := hS.2.2.2.1.2.2.1
  have hk01 : ik = 0 ∨ ik = 1 := hS.2.1.2.1
  have hB3 : okB bq sq := hS.2.2.2.2.1
  have hH0 : RepH (iv (bq 0), iv (sq 0), c0) bq sq cq 0 := hS.2.2.2.2.2.1
  have hH1 : RepH (iv (bq 1), iv (sq 1), c1) bq sq cq 1 := hS.2.2.2.2.2.2.1
  have hH2 : RepH (iv (bq 2), iv (sq 2), c2) bq sq cq 2 := hS.2.2.2.2.2.2.2.1
  have hH3 : RepH (iv (bq 3), iv (sq 3), c3) bq sq cq 3 := hS.2.2.2.2.2.2.2.2
  have ob2 := hB3.1 2 (by omega) (by omega)
  have zb2 := hB3.2 2 (by omega) (by omega)
  have ob3 := hB3.1 3 (by omega) (by omega)
  have zb3 := hB3.2 3 (by omega) (by omega)
  have q2 := r_pf.1
  have q22 := r_pf.2
  have q4 := r_po.1
  have q42 := r_po.2
  have q5 := r_pn.1
  have q52 := r_pn.2
  refine lv_aload_n X.1 X.2.1 dX4_copy_0 rfl (lv_at hl 0 rfl) ?_
  refine lv_iload_n X.1 X.2.1 dX4_copy_1 rfl (lv_at hl 1 rfl) ?_
  refine z_pq (run_V (rest := []) X h (c_sheetAt2) mi_X4_sheetAt ml_X4_184 ⟨Nat.le_of_ble_eq_true rfl, Nat.le_of_ble_eq_true rfl⟩ ⟨rfl, rfl⟩ (Seg.rfl' _) 3 0 rfl rfl rfl rfl hl.1 rfl (Nat.le_of_ble_eq_true rfl) ⟨Nat.zero_le _, Nat.zero_le _⟩ dX4_copy_2) ?_
  refine W.eq (g2 := F0 m 5 ls [.ref (q 2 0)]) rfl ?_
  refine lv_astore (lv' := [(6, .ref (q 2 0)), (0, .ref (a 0)), (1, .int (iv (2))), (2, .int (iv (pf))), (3, .int (iv (3))), (4, .int (iv (po))), (5, .int (iv (pn)))]) X.1 X.2.1 dX4_copy_5 hl (by decide) rfl (fun ls hl => ?_)
  refine lv_aload_n X.1 X.2.1 dX4_copy_7 rfl (lv_at hl 1 rfl) ?_
  refine lv_iload_n X.1 X.2.1 dX4_copy_8 rfl (lv_at hl 4 rfl) ?_
  refine z_pq (run_V (rest := []) X h (c_sheetAt3) mi_X4_sheetAt ml_X4_184 ⟨Nat.le_of_ble_eq_true rfl, Nat.le_of_ble_eq_true rfl⟩ ⟨rfl, rfl⟩ (Seg.rfl' _) 3 0 rfl rfl rfl rfl hl.1 rfl (Nat.le_of_ble_eq_true rfl) ⟨Nat.zero_le _, Nat.zero_le _⟩ dX4_copy_9) ?_
  refine W.eq (g2 := F0 m 12 ls [.ref (q 3 0)]) rfl ?_
  refine lv_astore (lv' := [(7, .ref (q 3 0)), (6, .ref (q 2 0)), (0, .ref (a 0)), (1, .int (iv (2))), (2, .int (iv (pf))), (3, .int (iv (3))), (4, .int (iv (po))), (5, .int (iv (pn)))]) X.1 X.2.1 dX4_copy_12 hl (by decide) rfl (fun ls hl => ?_)
  refine lv_aload X.1 X.2.1 dX4_copy_14 (lv_at hl 1 rfl) ?_
  refine lv_ifnull X.1 X.2.1 dX4_copy_16 ?_
  refine lv_aload X.1 X.2.1 dX4_copy_19 (lv_at hl 0 rfl) ?_
  refine lv_ifnonnull (tgt := 31) X.1 X.2.1 dX4_copy_21 (by decide) ?_
  refine lv_aload X.1 X.2.1 dX4_copy_31 (lv_at hl 1 rfl) ?_
  refine z_pi (run_V (rest := []) X (st_sing (st_in (st_in (st_in (st_in (st_in (st_in (st_in (st_nil h))))))))) (c_X0_isMissing (y := q 2) (bt := bq 2) ⟨by omega, by omega⟩) mi_X0_isMissing ml_X4_193 ⟨Nat.le_of_ble_eq_true rfl, Nat.le_of_ble_eq_true rfl⟩ ⟨rfl, rfl⟩ (Seg.mk' _ _) 0 39 rfl rfl rfl rfl hl.1 rfl (Nat.le_of_ble_eq_true rfl) ⟨Nat.zero_le _, Nat.zero_le _⟩ dX4_copy_33) ?_
  refine z_ifb_ne (tgt := 47) X dX4_copy_36 (by decide) (fun c_36 => ?_) (fun c_36 => ?_)
  · refine lv_aload_n X.1 X.2.1 dX4_copy_47 rfl (lv_at hl 2 rfl) ?_
    refine z_ldc (z := (-1000000006)) X ct_X4_197 (by decide) dX4_copy_48 ?_
    refine z_wi (st_sing (st_nil h)) (run_V (rest := []) X (st_sing (st_nil h)) (c_X4_finding (j := 5) hF (by decide) (by decide) (by decide)) mi_X4_finding ml_X4_49 ⟨Nat.le_of_ble_eq_true rfl, Nat.le_of_ble_eq_true rfl⟩ ⟨rfl, rfl⟩ (Seg.mk' _ _) 3 0 rfl rfl rfl rfl hl.1 rfl (Nat.le_of_ble_eq_true rfl) ⟨Nat.zero_le _, Nat.zero_le _⟩ dX4_copy_50) (fun _ => map_app (wO_map _ _ _ _ _ _ _ _ _ _ _) rfl) (fun r fd1 H locs hp h => ?_)
    have h := (st_lin (st_gnis h))
    obtain ⟨rfl, hF1⟩ := hp
    have h : St E _ s H locs (wO E a k b t x q ((iv (ik))) fd1 ++ (wS E k ((hk)) ((nk)) (k1, k2, k3, k4, k5, k6, k7, k8, k9) ++ (wS E b ((iv (hr A))) ((iv (pe A))) (xs, xi, xk, xc, xl, xr, xb, yl, yr) ++ (wS E t ((ht)) ((nt)) (t1, t2, t3, t4, t5, t6, t7, t8, t9) ++ (wX E x ((iv (tn))) ((e1)) ((e2)) ((e3)) ((e4)) tp ++ (wH E (q 0) ((iv (bq 0))) ((iv (sq 0))) c0 ++ (wH E (q 1) ((iv (bq 1))) ((iv (sq 1))) c1 ++ (wH E (q 2) ((iv (bq 2))) ((iv (sq 2))) c2 ++ (wH E (q 3) ((iv (bq 3))) ((iv (sq 3))) c3 ++ []))))))))) := h
    have e9 : q_copy bq sq cq ph 2 pf 3 po pn = ((-1000000006), cq, (bump ph 5)) := by first | (unfold q_copy; (repeat (first | rw [if_pos (by omega)] | rw [if_neg (by omega)])); first | done | rfl) | (exfalso; omega)
    exact ret _ _ _ _ _ (((iv (ik)), fd1), ((hk), (nk), (k1, k2, k3, k4, k5, k6, k7, k8, k9)), ((iv (hr A)), (iv (pe A)), (xs, xi, xk, xc, xl, xr, xb, yl, yr)), ((ht), (nt), (t1, t2, t3, t4, t5, t6, t7, t8, t9)), ((iv (tn)), (e1), (e2), (e3), (e4), tp), ((iv (bq 0)), (iv (sq 0)), c0), ((iv (bq 1)), (iv (sq 1)), c1), ((iv (bq 2)), (iv (sq 2)), c2), ((iv (bq 3)), (iv (sq 3)), c3)) h (by rw [e9]; exact ⟨rfl, ⟨⟨rfl, rfl, hR, hI, hr9⟩, hK, hF1, hT, hB⟩⟩) dX4_copy_53
  · refine lv_aload X.1 X.2.1 dX4_copy_39 (lv_at hl 0 rfl) ?_
    refine z_pi (run_V (rest := []) X (st_sing (st_in (st_in (st_in (st_in (st_in (st_in (st_in (st_in (st_nil h)))))))))) (c_X0_isMissing (y := q 3) (bt := bq 3) ⟨by omega, by omega⟩) mi_X0_isMissing ml_X4_193 ⟨Nat.le_of_ble_eq_true rfl, Nat.le_of_ble_eq_true rfl⟩ ⟨rfl, rfl⟩ (Seg.mk' _ _) 0 41 rfl rfl rfl rfl hl.1 rfl (Nat.le_of_ble_eq_true rfl) ⟨Nat.zero_le _, Nat.zero_le _⟩ dX4_copy_41) ?_
    refine z_ifb_eq (tgt := 54) X dX4_copy_44 (by decide) (fun c_44 => ?_) (fun c_44 => ?_)
    · refine lv_aload X.1 X.2.1 dX4_copy_54 (lv_at hl 1 rfl) ?_
      refine z_get X h 0 39 0 rfl inX0 rfl (by decide) fl_X4_206 rfl dX4_copy_56 ?_
      refine lv_aload X.1 X.2.1 dX4_copy_59 (lv_at hl 0 rfl) ?_
      refine z_get X h 0 41 0 rfl inX0 rfl (by decide) fl_X4_206 rfl dX4_copy_61 ?_
      refine z_ic_eq (tgt := 74) X ⟨by omega, by omega⟩ ⟨by omega, by omega⟩ dX4_copy_64 (by decide) (fun c_64 => ?_) (fun c_64 => ?_)
      · refine lv_aload X.1 X.2.1 dX4_copy_74 (lv_at hl 1 rfl) ?_
        refine lv_iload_n X.1 X.2.1 dX4_copy_76 rfl (lv_at hl 4 rfl) ?_
        refine lv_iload X.1 X.2.1 dX4_copy_77 (lv_at hl 7 rfl) ?_
        refine z_pi (run_V (rest := []) X (st_sing (st_in (st_in (st_in (st_in (st_in (st_in (st_in (st_nil h))))))))) (c_X0_has (y := q 2) (sz := sq 2) (fr := pf) (n9 := pn) (by omega) (by omega) r_pf r_pn) mi_X0_has ml_X4_209 ⟨Nat.le_of_ble_eq_true rfl, Nat.le_of_ble_eq_true rfl⟩ ⟨rfl, rfl⟩ (Seg.mk' _ _) 0 39 rfl rfl rfl rfl hl.1 rfl (Nat.le_of_ble_eq_true rfl) ⟨Nat.zero_le _, Nat.zero_le _⟩ dX4_copy_79) ?_
        refine z_ifb_eq (tgt := 97) X dX4_copy_82 (by decide) (fun c_82 => ?_) (fun c_82 => ?_)
        · refine lv_aload_n X.1 X.2.1 dX4_copy_97 rfl (lv_at hl 2 rfl) ?_
          refine z_ldc (z := (-1000000001)) X ct_X4_48 (by decide) dX4_copy_98 ?_
          refine z_wi (st_sing (st_nil h)) (run_V (rest := []) X (st_sing (st_nil h)) (c_X4_finding (j := 0) hF (by decide) (by decide) (by decide)) mi_X4_finding ml_X4_49 ⟨Nat.le_of_ble_eq_true rfl, Nat.le_of_ble_eq_true rfl⟩ ⟨rfl, rfl⟩ (Seg.mk' _ _) 3 0 rfl rfl rfl rfl hl.1 rfl (Nat.le_of_ble_eq_true rfl) ⟨Nat.zero_le _, Nat.zero_le _⟩ dX4_copy_100) (fun _ => map_app (wO_map _ _ _ _ _ _ _ _ _ _ _) rfl) (fun r fd2 H locs hp h => ?_)
          have h := (st_lin (st_gnis h))
          obtain ⟨rfl, hF2⟩ := hp
          have h : St E _ s H locs (wO E a k b t x q ((iv (ik))) fd2 ++ (wS E k ((hk)) ((nk)) (k1, k2, k3, k4, k5, k6, k7, k8, k9) ++ (wS E b ((iv (hr A))) ((iv (pe A))) (xs, xi, xk, xc, xl, xr, xb, yl, yr) ++ (wS E t ((ht)) ((nt)) (t1, t2, t3, t4, t5, t6, t7, t8, t9) ++ (wX E x ((iv (tn))) ((e1)) ((e2)) ((e3)) ((e4)) tp ++ (wH E (q 0) ((iv (bq 0))) ((iv (sq 0))) c0 ++ (wH E (q 1) ((iv (bq 1))) ((iv (sq 1))) c1 ++ (wH E (q 2) ((iv (bq 2))) ((iv (sq 2))) c2 ++ (wH E (q 3) ((iv (bq 3))) ((iv (sq 3))) c3 ++ []))))))))) := h
          have e9 : q_copy bq sq cq ph 2 pf 3 po pn = ((-1000000001), cq, (bump ph 0)) := by first | (unfold q_copy; (repeat (first | rw [if_pos (by omega)] | rw [if_neg (by omega)])); first | done | rfl) | (exfalso; omega)
          exact ret _ _ _ _ _ (((iv (ik)), fd2), ((hk), (nk), (k1, k2, k3, k4, k5, k6, k7, k8, k9)), ((iv (hr A)), (iv (pe A)), (xs, xi, xk, xc, xl, xr, xb, yl, yr)), ((ht), (nt), (t1, t2, t3, t4, t5, t6, t7, t8, t9)), ((iv (tn)), (e1), (e2), (e3), (e4), tp), ((iv (bq 0)), (iv (sq 0)), c0), ((iv (bq 1)), (iv (sq 1)), c1), ((iv (bq 2)), (iv (sq 2)), c2), ((iv (bq 3)), (iv (sq 3)), c3)) h (by rw [e9]; exact ⟨rfl, ⟨⟨rfl, rfl, hR, hI, hr9⟩, hK, hF2, hT, hB⟩⟩) dX4_copy_103
        · refine lv_aload X.1 X.2.1 dX4_copy_85 (lv_at hl 0 rfl) ?_
          refine lv_iload X.1 X.2.1 dX4_copy_87 (lv_at hl 6 rfl) ?_
          refine lv_iload X.1 X.2.1 dX4_copy_89 (lv_at hl 7 rfl) ?_
          refine z_pi (run_V (rest := []) X (st_sing (st_in (st_in (st_in (st_in (st_in (st_in (st_in (st_in (st_nil h)))))))))) (c_X0_has (y := q 3) (sz := sq 3) (fr := po) (n9 := pn) (by omega) (by omega) r_po r_pn) mi_X0_has ml_X4_209 ⟨Nat.le_of_ble_eq_true rfl, Nat.le_of_ble_eq_true rfl⟩ ⟨rfl, rfl⟩ (Seg.mk' _ _) 0 41 rfl rfl rfl rfl hl.1 rfl (Nat.le_of_ble_eq_true rfl) ⟨Nat.zero_le _, Nat.zero_le _⟩ dX4_copy_91) ?_
          refine z_ifb_ne (tgt := 104) X dX4_copy_94 (by decide) (fun c_94 => ?_) (fun c_94 => ?_)
          · refine lv_aload X.1 X.2.1 dX4_copy_104 (lv_at hl 1 rfl) ?_
            refine z_get X h 0 39 2 rfl inX0 rfl (by decide) fl_X4_198 rfl dX4_copy_106 ?_
            refine lv_iload_n X.1 X.2.1 dX4_copy_109 rfl (lv_at hl 4 rfl) ?_
            refine lv_aload X.1 X.2.1 dX4_copy_110 (lv_at hl 0 rfl) ?_
            refine z_get X h 0 41 2 rfl inX0 rfl (by decide) fl_X4_198 rfl dX4_copy_112 ?_
            refine lv_iload X.1 X.2.1 dX4_copy_115 (lv_at hl 6 rfl) ?_
            refine lv_iload X.1 X.2.1 dX4_copy_117 (lv_at hl 7 rfl) ?_
            refine s_copyl X (st_in (st_in (st_in (st_in (st_in (st_in (st_in (st_in (st_nil h))))))))) rfl 40 1 rfl rfl ml_X4_212 (by omega) (by omega) (by omega) (by omega) (by omega) (by decide) (by decide) hl.1 (Nat.le_of_ble_eq_true rfl) (Nat.le_of_ble_eq_true rfl) dX4_copy_119 (fun H locs h => ?_)
            have h := (st_lin (st_out (st_out (st_out (st_out (st_out (st_out (st_out (st_out (st_eq wH_numbers h))))))))))
            have h : St E _ s H locs (wO E a k b t x q ((iv (ik))) fd ++ (wS E k ((hk)) ((nk)) (k1, k2, k3, k4, k5, k6, k7, k8, k9) ++ (wS E b ((iv (hr A))) ((iv (pe A))) (xs, xi, xk, xc, xl, xr, xb, yl, yr) ++ (wS E t ((ht)) ((nt)) (t1, t2, t3, t4, t5, t6, t7, t8, t9) ++ (wX E x ((iv (tn))) ((e1)) ((e2)) ((e3)) ((e4)) tp ++ (wH E (q 0) ((iv (bq 0))) ((iv (sq 0))) c0 ++ (wH E (q 1) ((iv (bq 1))) ((iv (sq 1))) c1 ++ (wH E (q 2) ((iv (bq 2))) ((iv (sq 2))) c2 ++ (wH E (q 3) ((iv (bq 3))) ((iv (sq 3))) (va_cpy c2 c3 (pf : Int).toNat (po : Int).toNat (pn : Int).toNat) ++ []))))))))) := h
            refine lv_iload X.1 X.2.1 dX4_copy_122 (lv_at hl 7 rfl) ?_
            have e9 : q_copy bq sq cq ph 2 pf 3 po pn = (pn, (cpy cq 2 pf 3 po 0 pn), ph) := by first | (unfold q_copy; (repeat (first | rw [if_pos (by omega)] | rw [if_neg (by omega)])); first | done | rfl) | (exfalso; omega)
            exact ret _ _ _ _ _ (((iv (ik)), fd), ((hk), (nk), (k1, k2, k3, k4, k5, k6, k7, k8, k9)), ((iv (hr A)), (iv (pe A)), (xs, xi, xk, xc, xl, xr, xb, yl, yr)), ((ht), (nt), (t1, t2, t3, t4, t5, t6, t7, t8, t9)), ((iv (tn)), (e1), (e2), (e3), (e4), tp), ((iv (bq 0)), (iv (sq 0)), c0), ((iv (bq 1)), (iv (sq 1)), c1), ((iv (bq 2)), (iv (sq 2)), c2), ((iv (bq 3)), (iv (sq 3)), (va_cpy c2 c3 (pf : Int).toNat (po : Int).toNat (pn : Int).toNat))) h (by rw [e9]; exact ⟨rfl, ⟨⟨rfl, rfl, hR, hI, hr9⟩, hK, hF, hT, ⟨hB3, RepH_cn hH0 (by decide), RepH_cn hH1 (by decide), RepH_cn hH2 (by decide), RepH_cp hH2 hH3 (by omega) (by omega) (by omega) (by omega)⟩⟩⟩) dX4_copy_124
          · refine lv_aload_n X.1 X.2.1 dX4_copy_97 rfl (lv_at hl 2 rfl) ?_
            refine z_ldc (z := (-1000000001)) X ct_X4_48 (by decide) dX4_copy_98 ?_
            refine z_wi (st_sing (st_nil h)) (run_V (rest := []) X (st_sing (st_nil h)) (c_X4_finding (j := 0) hF (by decide) (by decide) (by decide)) mi_X4_finding ml_X4_49 ⟨Nat.le_of_ble_eq_true rfl, Nat.le_of_ble_eq_true rfl⟩ ⟨rfl, rfl⟩ (Seg.mk' _ _) 3 0 rfl rfl rfl rfl hl.1 rfl (Nat.le_of_ble_eq_true rfl) ⟨Nat.zero_le _, Nat.zero_le _⟩ dX4_copy_100) (fun _ => map_app (wO_map _ _ _ _ _ _ _ _ _ _ _) rfl) (fun r fd3 H locs hp h => ?_)
            have h := (st_lin (st_gnis h))
            obtain ⟨rfl, hF3⟩ := hp
            have h : St E _ s H locs (wO E a k b t x q ((iv (ik))) fd3 ++ (wS E k ((hk)) ((nk)) (k1, k2, k3, k4, k5, k6, k7, k8, k9) ++ (wS E b ((iv (hr A))) ((iv (pe A))) (xs, xi, xk, xc, xl, xr, xb, yl, yr) ++ (wS E t ((ht)) ((nt)) (t1, t2, t3, t4, t5, t6, t7, t8, t9) ++ (wX E x ((iv (tn))) ((e1)) ((e2)) ((e3)) ((e4)) tp ++ (wH E (q 0) ((iv (bq 0))) ((iv (sq 0))) c0 ++ (wH E (q 1) ((iv (bq 1))) ((iv (sq 1))) c1 ++ (wH E (q 2) ((iv (bq 2))) ((iv (sq 2))) c2 ++ (wH E (q 3) ((iv (bq 3))) ((iv (sq 3))) c3 ++ []))))))))) := h
            have e9 : q_copy bq sq cq ph 2 pf 3 po pn = ((-1000000001), cq, (bump ph 0)) := by first | (unfold q_copy; (repeat (first | rw [if_pos (by omega)] | rw [if_neg (by omega)])); first | done | rfl) | (exfalso; omega)
            exact ret _ _ _ _ _ (((iv (ik)), fd3), ((hk), (nk), (k1, k2, k3, k4, k5, k6, k7, k8, k9)), ((iv (hr A)), (iv (pe A)), (xs, xi, xk, xc, xl, xr, xb, yl, yr)), ((ht), (nt), (t1, t2, t3, t4, t5, t6, t7, t8, t9)), ((iv (tn)), (e1), (e2), (e3), (e4), tp), ((iv (bq 0)), (iv (sq 0)), c0), ((iv (bq 1)), (iv (sq 1)), c1), ((iv (bq 2)), (iv (sq 2)), c2), ((iv (bq 3)), (iv (sq 3)), c3)) h (by rw [e9]; exact ⟨rfl, ⟨⟨rfl, rfl, hR, hI, hr9⟩, hK, hF3, hT, hB⟩⟩) dX4_copy_103
      · refine lv_aload_n X.1 X.2.1 dX4_copy_67 rfl (lv_at hl 2 rfl) ?_
        refine z_ldc (z := (-1000000003)) X ct_X4_127 (by decide) dX4_copy_68 ?_
        refine z_wi (st_sing (st_nil h)) (run_V (rest := []) X (st_sing (st_nil h)) (c_X4_finding (j := 2) hF (by decide) (by decide) (by decide)) mi_X4_finding ml_X4_49 ⟨Nat.le_of_ble_eq_true rfl, Nat.le_of_ble_eq_true rfl⟩ ⟨rfl, rfl⟩ (Seg.mk' _ _) 3 0 rfl rfl rfl rfl hl.1 rfl (Nat.le_of_ble_eq_true rfl) ⟨Nat.zero_le _, Nat.zero_le _⟩ dX4_copy_70) (fun _ => map_app (wO_map _ _ _ _ _ _ _ _ _ _ _) rfl) (fun r fd4 H locs hp h => ?_)
        have h := (st_lin (st_gnis h))
        obtain ⟨rfl, hF4⟩ := hp
        have h : St E _ s H locs (wO E a k b t x q ((iv (ik))) fd4 ++ (wS E k ((hk)) ((nk)) (k1, k2, k3, k4, k5, k6, k7, k8, k9) ++ (wS E b ((iv (hr A))) ((iv (pe A))) (xs, xi, xk, xc, xl, xr, xb, yl, yr) ++ (wS E t ((ht)) ((nt)) (t1, t2, t3, t4, t5, t6, t7, t8, t9) ++ (wX E x ((iv (tn))) ((e1)) ((e2)) ((e3)) ((e4)) tp ++ (wH E (q 0) ((iv (bq 0))) ((iv (sq 0))) c0 ++ (wH E (q 1) ((iv (bq 1))) ((iv (sq 1))) c1 ++ (wH E (q 2) ((iv (bq 2))) ((iv (sq 2))) c2 ++ (wH E (q 3) ((iv (bq 3))) ((iv (sq 3))) c3 ++ []))))))))) := h
        have e9 : q_copy bq sq cq ph 2 pf 3 po pn = ((-1000000003), cq, (bump ph 2)) := by first | (unfold q_copy; (repeat (first | rw [if_pos (by omega)] | rw [if_neg (by omega)])); first | done | rfl) | (exfalso; omega)
        exact ret _ _ _ _ _ (((iv (ik)), fd4), ((hk), (nk), (k1, k2, k3, k4, k5, k6, k7, k8, k9)), ((iv (hr A)), (iv (pe A)), (xs, xi, xk, xc, xl, xr, xb, yl, yr)), ((ht), (nt), (t1, t2, t3, t4, t5, t6, t7, t8, t9)), ((iv (tn)), (e1), (e2), (e3), (e4), tp), ((iv (bq 0)), (iv (sq 0)), c0), ((iv (bq 1)), (iv (sq 1)), c1), ((iv (bq 2)), (iv (sq 2)), c2), ((iv (bq 3)), (iv (sq 3)), c3)) h (by rw [e9]; exact ⟨rfl, ⟨⟨rfl, rfl, hR, hI, hr9⟩, hK, hF4, hT, hB⟩⟩) dX4_copy_73
    · refine lv_aload_n X.1 X.2.1 dX4_copy_47 rfl (lv_at hl 2 rfl) ?_
      refine z_ldc (z := (-1000000006)) X ct_X4_197 (by decide) dX4_copy_48 ?_
      refine z_wi (st_sing (st_nil h)) (run_V (rest := []) X (st_sing (st_nil h)) (c_X4_finding (j := 5) hF (by decide) (by decide) (by decide)) mi_X4_finding ml_X4_49 ⟨Nat.le_of_ble_eq_true rfl, Nat.le_of_ble_eq_true rfl⟩ ⟨rfl, rfl⟩ (Seg.mk' _ _) 3 0 rfl rfl rfl rfl hl.1 rfl (Nat.le_of_ble_eq_true rfl) ⟨Nat.zero_le _, Nat.zero_le _⟩ dX4_copy_50) (fun _ => map_app (wO_map _ _ _ _ _ _ _ _ _ _ _) rfl) (fun r fd5 H locs hp h => ?_)
      have h := (st_lin (st_gnis h))
      obtain ⟨rfl, hF5⟩ := hp
      have h : St E _ s H locs (wO E a k b t x q ((iv (ik))) fd5 ++ (wS E k ((hk)) ((nk)) (k1, k2, k3, k4, k5, k6, k7, k8, k9) ++ (wS E b ((iv (hr A))) ((iv (pe A))) (xs, xi, xk, xc, xl, xr, xb, yl, yr) ++ (wS E t ((ht)) ((nt)) (t1, t2, t3, t4, t5, t6, t7, t8, t9) ++ (wX E x ((iv (tn))) ((e1)) ((e2)) ((e3)) ((e4)) tp ++ (wH E (q 0) ((iv (bq 0))) ((iv (sq 0))) c0 ++ (wH E (q 1) ((iv (bq 1))) ((iv (sq 1))) c1 ++ (wH E (q 2) ((iv (bq 2))) ((iv (sq 2))) c2 ++ (wH E (q 3) ((iv (bq 3))) ((iv (sq 3))) c3 ++ []))))))))) := h
      have e9 : q_copy bq sq cq ph 2 pf 3 po pn = ((-1000000006), cq, (bump ph 5)) := by first | (unfold q_copy; (repeat (first | rw [if_pos (by omega)] | rw [if_neg (by omega)])); first | done | rfl) | (exfalso; omega)
      exact ret _ _ _ _ _ (((iv (ik)), fd5), ((hk), (nk), (k1, k2, k3, k4, k5, k6, k7, k8, k9)), ((iv (hr A)), (iv (pe A)), (xs, xi, xk, xc, xl, xr, xb, yl, yr)), ((ht), (nt), (t1, t2, t3, t4, t5, t6, t7, t8, t9)), ((iv (tn)), (e1), (e2), (e3), (e4), tp), ((iv (bq 0)), (iv (sq 0)), c0), ((iv (bq 1)), (iv (sq 1)), c1), ((iv (bq 2)), (iv (sq 2)), c2), ((iv (bq 3)), (iv (sq 3)), c3)) h (by rw [e9]; exact ⟨rfl, ⟨⟨rfl, rfl, hR, hI, hr9⟩, hK, hF5, hT, hB⟩⟩) dX4_copy_53

set_option maxHeartbeats 4000000 in
theorem c_X4_copy_2_N (hS : RepC (((iv (ik)), fd), ((hk), (nk), (k1, k2, k3, k4, k5, k6, k7, k8, k9)), ((iv (hr A)), (iv (pe A)), (xs, xi, xk, xc, xl, xr, xb, yl, yr)), ((ht), (nt), (t1, t2, t3, t4, t5, t6, t7, t8, t9)), ((iv (tn)), (e1), (e2), (e3), (e4), tp), ((iv (bq 0)), (iv (sq 0)), c0), ((iv (bq 1)), (iv (sq 1)), c1), ((iv (bq 2)), (iv (sq 2)), c2), ((iv (bq 3)), (iv (sq 3)), c3)) (A, K, ik, ph, tq, tn, bq, sq, cq)) {pf : Int} (r_pf : r32 pf) {pt : Int} (r_pt : r32 pt) {po : Int} (r_po : r32 po) {pn : Int} (r_pn : r32 pn) (hot : pt < 0 ∨ 3 < pt) : MI (S := Tc) E l yX4_copy cX4_copy 8 (some FieldType.int) (rmk 2 44) (wO E a k b t x q ((iv (ik))) fd ++ (wS E k ((hk)) ((nk)) (k1, k2, k3, k4, k5, k6, k7, k8, k9) ++ (wS E b ((iv (hr A))) ((iv (pe A))) (xs, xi, xk, xc, xl, xr, xb, yl, yr) ++ (wS E t ((ht)) ((nt)) (t1, t2, t3, t4, t5, t6, t7, t8, t9) ++ (wX E x ((iv (tn))) ((e1)) ((e2)) ((e3)) ((e4)) tp ++ (wH E (q 0) ((iv (bq 0))) ((iv (sq 0))) c0 ++ (wH E (q 1) ((iv (bq 1))) ((iv (sq 1))) c1 ++ (wH E (q 2) ((iv (bq 2))) ((iv (sq 2))) c2 ++ (wH E (q 3) ((iv (bq 3))) ((iv (sq 3))) c3 ++ []))))))))) [.ref (a 0), .int (iv (2)), .int (iv (pf)), .int (iv (pt)), .int (iv (po)), .int (iv (pn))] (fun r u => r = iv ((q_copy bq sq cq ph 2 pf pt po pn).1) ∧ RepC u (A, K, ik, (q_copy bq sq cq ph 2 pf pt po pn).2.2, tq, tn, bq, sq, (q_copy bq sq cq ph 2 pf pt po pn).2.1)) (fun u => wT E a k b t x q u) := by
  refine goI (S := Tc) (post := fun r u => r = iv ((q_copy bq sq cq ph 2 pf pt po pn).1) ∧ RepC u (A, K, ik, (q_copy bq sq cq ph 2 pf pt po pn).2.2, tq, tn, bq, sq, (q_copy bq sq cq ph 2 pf pt po pn).2.1)) (ws' := fun u => wT E a k b t x q u) (by decide) (Nat.le_of_ble_eq_true rfl) ?_
  intro pp e s m below meth c ls args Q ret X h hl
  have hl : lv_has ls 8 [(0, .ref (a 0)), (1, .int (iv (2))), (2, .int (iv (pf))), (3, .int (iv (pt))), (4, .int (iv (po))), (5, .int (iv (pn)))] := hl
  have hR : RS (xs, xi, xk, xc, xl, xr, xb, yl, yr) A := hS.1.2.2.1
  have hI : IA A := hS.1.2.2.2.1
  have hr9 : hr A ≤ 99999 := hS.1.2.2.2.2
  have hF : RF 7 fd ph := hS.2.2.1
  have hK := hS.2.1
  have hT := hS.2.2.2.1
  have hB := hS.2.2.2.2
  have hh : hr A < 1000000 := by omega
  have n8 := hI.n8
  have n0 := hI.n0
  have h0 := hI.h0
  have ht0 : 0 ≤ tn := hS.2.2.2.1.2.1
  have ht1 : tn ≤ 120 := hS.2.2.2.1.2.2.1
  have hk01 : ik = 0 ∨ ik = 1 := hS.2.1.2.1
  have hB3 : okB bq sq := hS.2.2.2.2.1
  have hH0 : RepH (iv (bq 0), iv (sq 0), c0) bq sq cq 0 := hS.2.2.2.2.2.1
  have hH1 : RepH (iv (bq 1), iv (sq 1), c1) bq sq cq 1 := hS.2.2.2.2.2.2.1
  have hH2 : RepH (iv (bq 2), iv (sq 2), c2) bq sq cq 2 := hS.2.2.2.2.2.2.2.1
  have hH3 : RepH (iv (bq 3), iv (sq 3), c3) bq sq cq 3 := hS.2.2.2.2.2.2.2.2
  have ob2 := hB3.1 2 (by omega) (by omega)
  have zb2 := hB3.2 2 (by omega) (by omega)
  have q2 := r_pf.1
  have q22 := r_pf.2
  have q4 := r_po.1
  have q42 := r_po.2
  have q5 := r_pn.1
  have q52 := r_pn.2
  refine lv_aload_n X.1 X.2.1 dX4_copy_0 rfl (lv_at hl 0 rfl) ?_
  refine lv_iload_n X.1 X.2.1 dX4_copy_1 rfl (lv_at hl 1 rfl) ?_
  refine z_pq (run_V (rest := []) X h (c_sheetAt2) mi_X4_sheetAt ml_X4_184 ⟨Nat.le_of_ble_eq_true rfl, Nat.le_of_ble_eq_true rfl⟩ ⟨rfl, rfl⟩ (Seg.rfl' _) 3 0 rfl rfl rfl rfl hl.1 rfl (Nat.le_of_ble_eq_true rfl) ⟨Nat.zero_le _, Nat.zero_le _⟩ dX4_copy_2) ?_
  refine W.eq (g2 := F0 m 5 ls [.ref (q 2 0)]) rfl ?_
  refine lv_astore (lv' := [(6, .ref (q 2 0)), (0, .ref (a 0)), (1, .int (iv (2))), (2, .int (iv (pf))), (3, .int (iv (pt))), (4, .int (iv (po))), (5, .int (iv (pn)))]) X.1 X.2.1 dX4_copy_5 hl (by decide) rfl (fun ls hl => ?_)
  refine lv_aload_n X.1 X.2.1 dX4_copy_7 rfl (lv_at hl 1 rfl) ?_
  refine lv_iload_n X.1 X.2.1 dX4_copy_8 rfl (lv_at hl 4 rfl) ?_
  refine z_pq (run_V (rest := []) X h (c_sheetAtN (s9 := pt) r_pt (by omega)) mi_X4_sheetAt ml_X4_184 ⟨Nat.le_of_ble_eq_true rfl, Nat.le_of_ble_eq_true rfl⟩ ⟨rfl, rfl⟩ (Seg.rfl' _) 3 0 rfl rfl rfl rfl hl.1 rfl (Nat.le_of_ble_eq_true rfl) ⟨Nat.zero_le _, Nat.zero_le _⟩ dX4_copy_9) ?_
  refine W.eq (g2 := F0 m 12 ls [.null]) rfl ?_
  refine lv_astoreN (lv' := [(7, .null), (6, .ref (q 2 0)), (0, .ref (a 0)), (1, .int (iv (2))), (2, .int (iv (pf))), (3, .int (iv (pt))), (4, .int (iv (po))), (5, .int (iv (pn)))]) X.1 X.2.1 dX4_copy_12 hl (by decide) rfl (fun ls hl => ?_)
  refine lv_aload X.1 X.2.1 dX4_copy_14 (lv_at hl 1 rfl) ?_
  refine lv_ifnull X.1 X.2.1 dX4_copy_16 ?_
  refine lv_aloadN X.1 X.2.1 dX4_copy_19 (lv_at hl 0 rfl) ?_
  refine lv_ifnonnullN X.1 X.2.1 dX4_copy_21 ?_
  refine lv_aload_n X.1 X.2.1 dX4_copy_24 rfl (lv_at hl 2 rfl) ?_
  refine z_ldc (z := (-1000000001)) X ct_X4_48 (by decide) dX4_copy_25 ?_
  refine z_wi (st_sing (st_nil h)) (run_V (rest := []) X (st_sing (st_nil h)) (c_X4_finding (j := 0) hF (by decide) (by decide) (by decide)) mi_X4_finding ml_X4_49 ⟨Nat.le_of_ble_eq_true rfl, Nat.le_of_ble_eq_true rfl⟩ ⟨rfl, rfl⟩ (Seg.mk' _ _) 3 0 rfl rfl rfl rfl hl.1 rfl (Nat.le_of_ble_eq_true rfl) ⟨Nat.zero_le _, Nat.zero_le _⟩ dX4_copy_27) (fun _ => map_app (wO_map _ _ _ _ _ _ _ _ _ _ _) rfl) (fun r fd1 H locs hp h => ?_)
  have h := (st_lin (st_gnis h))
  obtain ⟨rfl, hF1⟩ := hp
  have h : St E _ s H locs (wO E a k b t x q ((iv (ik))) fd1 ++ (wS E k ((hk)) ((nk)) (k1, k2, k3, k4, k5, k6, k7, k8, k9) ++ (wS E b ((iv (hr A))) ((iv (pe A))) (xs, xi, xk, xc, xl, xr, xb, yl, yr) ++ (wS E t ((ht)) ((nt)) (t1, t2, t3, t4, t5, t6, t7, t8, t9) ++ (wX E x ((iv (tn))) ((e1)) ((e2)) ((e3)) ((e4)) tp ++ (wH E (q 0) ((iv (bq 0))) ((iv (sq 0))) c0 ++ (wH E (q 1) ((iv (bq 1))) ((iv (sq 1))) c1 ++ (wH E (q 2) ((iv (bq 2))) ((iv (sq 2))) c2 ++ (wH E (q 3) ((iv (bq 3))) ((iv (sq 3))) c3 ++ []))))))))) := h
  have e9 : q_copy bq sq cq ph 2 pf pt po pn = ((-1000000001), cq, (bump ph 0)) := by first | (unfold q_copy; (repeat (first | rw [if_pos (by omega)] | rw [if_neg (by omega)])); first | done | rfl) | (exfalso; omega)
  exact ret _ _ _ _ _ (((iv (ik)), fd1), ((hk), (nk), (k1, k2, k3, k4, k5, k6, k7, k8, k9)), ((iv (hr A)), (iv (pe A)), (xs, xi, xk, xc, xl, xr, xb, yl, yr)), ((ht), (nt), (t1, t2, t3, t4, t5, t6, t7, t8, t9)), ((iv (tn)), (e1), (e2), (e3), (e4), tp), ((iv (bq 0)), (iv (sq 0)), c0), ((iv (bq 1)), (iv (sq 1)), c1), ((iv (bq 2)), (iv (sq 2)), c2), ((iv (bq 3)), (iv (sq 3)), c3)) h (by rw [e9]; exact ⟨rfl, ⟨⟨rfl, rfl, hR, hI, hr9⟩, hK, hF1, hT, hB⟩⟩) dX4_copy_30

set_option maxHeartbeats 4000000 in
theorem c_X4_copy_3_0 (hS : RepC (((iv (ik)), fd), ((hk), (nk), (k1, k2, k3, k4, k5, k6, k7, k8, k9)), ((iv (hr A)), (iv (pe A)), (xs, xi, xk, xc, xl, xr, xb, yl, yr)), ((ht), (nt), (t1, t2, t3, t4, t5, t6, t7, t8, t9)), ((iv (tn)), (e1), (e2), (e3), (e4), tp), ((iv (bq 0)), (iv (sq 0)), c0), ((iv (bq 1)), (iv (sq 1)), c1), ((iv (bq 2)), (iv (sq 2)), c2), ((iv (bq 3)), (iv (sq 3)), c3)) (A, K, ik, ph, tq, tn, bq, sq, cq)) {pf : Int} (r_pf : r32 pf) {po : Int} (r_po : r32 po) {pn : Int} (r_pn : r32 pn) : MI (S := Tc) E l yX4_copy cX4_copy 8 (some FieldType.int) (rmk 2 44) (wO E a k b t x q ((iv (ik))) fd ++ (wS E k ((hk)) ((nk)) (k1, k2, k3, k4, k5, k6, k7, k8, k9) ++ (wS E b ((iv (hr A))) ((iv (pe A))) (xs, xi, xk, xc, xl, xr, xb, yl, yr) ++ (wS E t ((ht)) ((nt)) (t1, t2, t3, t4, t5, t6, t7, t8, t9) ++ (wX E x ((iv (tn))) ((e1)) ((e2)) ((e3)) ((e4)) tp ++ (wH E (q 0) ((iv (bq 0))) ((iv (sq 0))) c0 ++ (wH E (q 1) ((iv (bq 1))) ((iv (sq 1))) c1 ++ (wH E (q 2) ((iv (bq 2))) ((iv (sq 2))) c2 ++ (wH E (q 3) ((iv (bq 3))) ((iv (sq 3))) c3 ++ []))))))))) [.ref (a 0), .int (iv (3)), .int (iv (pf)), .int (iv (0)), .int (iv (po)), .int (iv (pn))] (fun r u => r = iv ((q_copy bq sq cq ph 3 pf 0 po pn).1) ∧ RepC u (A, K, ik, (q_copy bq sq cq ph 3 pf 0 po pn).2.2, tq, tn, bq, sq, (q_copy bq sq cq ph 3 pf 0 po pn).2.1)) (fun u => wT E a k b t x q u) := by
  refine goI (S := Tc) (post := fun r u => r = iv ((q_copy bq sq cq ph 3 pf 0 po pn).1) ∧ RepC u (A, K, ik, (q_copy bq sq cq ph 3 pf 0 po pn).2.2, tq, tn, bq, sq, (q_copy bq sq cq ph 3 pf 0 po pn).2.1)) (ws' := fun u => wT E a k b t x q u) (by decide) (Nat.le_of_ble_eq_true rfl) ?_
  intro pp e s m below meth c ls args Q ret X h hl
  have hl : lv_has ls 8 [(0, .ref (a 0)), (1, .int (iv (3))), (2, .int (iv (pf))), (3, .int (iv (0))), (4, .int (iv (po))), (5, .int (iv (pn)))] := hl
  have hR : RS (xs, xi, xk, xc, xl, xr, xb, yl, yr) A := hS.1.2.2.1
  have hI : IA A := hS.1.2.2.2.1
  have hr9 : hr A ≤ 99999 := hS.1.2.2.2.2
  have hF : RF 7 fd ph := hS.2.2.1
  have hK := hS.2.1
  have hT := hS.2.2.2.1
  have hB := hS.2.2.2.2
  have hh : hr A < 1000000 := by omega
  have n8 := hI.n8
  have n0 := hI.n0
  have h0 := hI.h0
  have ht0 : 0 ≤ tn := hS.2.2.2.1.2.1
  have ht1 : tn ≤ 120 := hS.2.2.2.1.2.2.1
  have hk01 : ik = 0 ∨ ik = 1 := hS.2.1.2.1
  have hB3 : okB bq sq := hS.2.2.2.2.1
  have hH0 : RepH (iv (bq 0), iv (sq 0), c0) bq sq cq 0 := hS.2.2.2.2.2.1
  have hH1 : RepH (iv (bq 1), iv (sq 1), c1) bq sq cq 1 := hS.2.2.2.2.2.2.1
  have hH2 : RepH (iv (bq 2), iv (sq 2), c2) bq sq cq 2 := hS.2.2.2.2.2.2.2.1
  have hH3 : RepH (iv (bq 3), iv (sq 3), c3) bq sq cq 3 := hS.2.2.2.2.2.2.2.2
  have ob3 := hB3.1 3 (by omega) (by omega)
  have zb3 := hB3.2 3 (by omega) (by omega)
  have ob0 := hB3.1 0 (by omega) (by omega)
  have zb0 := hB3.2 0 (by omega) (by omega)
  have q2 := r_pf.1
  have q22 := r_pf.2
  have q4 := r_po.1
  have q42 := r_po.2
  have q5 := r_pn.1
  have q52 := r_pn.2
  refine lv_aload_n X.1 X.2.1 dX4_copy_0 rfl (lv_at hl 0 rfl) ?_
  refine lv_iload_n X.1 X.2.1 dX4_copy_1 rfl (lv_at hl 1 rfl) ?_
  refine z_pq (run_V (rest := []) X h (c_sheetAt3) mi_X4_sheetAt ml_X4_184 ⟨Nat.le_of_ble_eq_true rfl, Nat.le_of_ble_eq_true rfl⟩ ⟨rfl, rfl⟩ (Seg.rfl' _) 3 0 rfl rfl rfl rfl hl.1 rfl (Nat.le_of_ble_eq_true rfl) ⟨Nat.zero_le _, Nat.zero_le _⟩ dX4_copy_2) ?_
  refine W.eq (g2 := F0 m 5 ls [.ref (q 3 0)]) rfl ?_
  refine lv_astore (lv' := [(6, .ref (q 3 0)), (0, .ref (a 0)), (1, .int (iv (3))), (2, .int (iv (pf))), (3, .int (iv (0))), (4, .int (iv (po))), (5, .int (iv (pn)))]) X.1 X.2.1 dX4_copy_5 hl (by decide) rfl (fun ls hl => ?_)
  refine lv_aload_n X.1 X.2.1 dX4_copy_7 rfl (lv_at hl 1 rfl) ?_
  refine lv_iload_n X.1 X.2.1 dX4_copy_8 rfl (lv_at hl 4 rfl) ?_
  refine z_pq (run_V (rest := []) X h (c_sheetAt0) mi_X4_sheetAt ml_X4_184 ⟨Nat.le_of_ble_eq_true rfl, Nat.le_of_ble_eq_true rfl⟩ ⟨rfl, rfl⟩ (Seg.rfl' _) 3 0 rfl rfl rfl rfl hl.1 rfl (Nat.le_of_ble_eq_true rfl) ⟨Nat.zero_le _, Nat.zero_le _⟩ dX4_copy_9) ?_
  refine W.eq (g2 := F0 m 12 ls [.ref (q 0 0)]) rfl ?_
  refine lv_astore (lv' := [(7, .ref (q 0 0)), (6, .ref (q 3 0)), (0, .ref (a 0)), (1, .int (iv (3))), (2, .int (iv (pf))), (3, .int (iv (0))), (4, .int (iv (po))), (5, .int (iv (pn)))]) X.1 X.2.1 dX4_copy_12 hl (by decide) rfl (fun ls hl => ?_)
  refine lv_aload X.1 X.2.1 dX4_copy_14 (lv_at hl 1 rfl) ?_
  refine lv_ifnull X.1 X.2.1 dX4_copy_16 ?_
  refine lv_aload X.1 X.2.1 dX4_copy_19 (lv_at hl 0 rfl) ?_
  refine lv_ifnonnull (tgt := 31) X.1 X.2.1 dX4_copy_21 (by decide) ?_
  refine lv_aload X.1 X.2.1 dX4_copy_31 (lv_at hl 1 rfl) ?_
  refine z_pi (run_V (rest := []) X (st_sing (st_in (st_in (st_in (st_in (st_in (st_in (st_in (st_in (st_nil h)))))))))) (c_X0_isMissing (y := q 3) (bt := bq 3) ⟨by omega, by omega⟩) mi_X0_isMissing ml_X4_193 ⟨Nat.le_of_ble_eq_true rfl, Nat.le_of_ble_eq_true rfl⟩ ⟨rfl, rfl⟩ (Seg.mk' _ _) 0 41 rfl rfl rfl rfl hl.1 rfl (Nat.le_of_ble_eq_true rfl) ⟨Nat.zero_le _, Nat.zero_le _⟩ dX4_copy_33) ?_
  refine z_ifb_ne (tgt := 47) X dX4_copy_36 (by decide) (fun c_36 => ?_) (fun c_36 => ?_)
  · refine lv_aload_n X.1 X.2.1 dX4_copy_47 rfl (lv_at hl 2 rfl) ?_
    refine z_ldc (z := (-1000000006)) X ct_X4_197 (by decide) dX4_copy_48 ?_
    refine z_wi (st_sing (st_nil h)) (run_V (rest := []) X (st_sing (st_nil h)) (c_X4_finding (j := 5) hF (by decide) (by decide) (by decide)) mi_X4_finding ml_X4_49 ⟨Nat.le_of_ble_eq_true rfl, Nat.le_of_ble_eq_true rfl⟩ ⟨rfl, rfl⟩ (Seg.mk' _ _) 3 0 rfl rfl rfl rfl hl.1 rfl (Nat.le_of_ble_eq_true rfl) ⟨Nat.zero_le _, Nat.zero_le _⟩ dX4_copy_50) (fun _ => map_app (wO_map _ _ _ _ _ _ _ _ _ _ _) rfl) (fun r fd1 H locs hp h => ?_)
    have h := (st_lin (st_gnis h))
    obtain ⟨rfl, hF1⟩ := hp
    have h : St E _ s H locs (wO E a k b t x q ((iv (ik))) fd1 ++ (wS E k ((hk)) ((nk)) (k1, k2, k3, k4, k5, k6, k7, k8, k9) ++ (wS E b ((iv (hr A))) ((iv (pe A))) (xs, xi, xk, xc, xl, xr, xb, yl, yr) ++ (wS E t ((ht)) ((nt)) (t1, t2, t3, t4, t5, t6, t7, t8, t9) ++ (wX E x ((iv (tn))) ((e1)) ((e2)) ((e3)) ((e4)) tp ++ (wH E (q 0) ((iv (bq 0))) ((iv (sq 0))) c0 ++ (wH E (q 1) ((iv (bq 1))) ((iv (sq 1))) c1 ++ (wH E (q 2) ((iv (bq 2))) ((iv (sq 2))) c2 ++ (wH E (q 3) ((iv (bq 3))) ((iv (sq 3))) c3 ++ []))))))))) := h
    have e9 : q_copy bq sq cq ph 3 pf 0 po pn = ((-1000000006), cq, (bump ph 5)) := by first | (unfold q_copy; (repeat (first | rw [if_pos (by omega)] | rw [if_neg (by omega)])); first | done | rfl) | (exfalso; omega)
    exact ret _ _ _ _ _ (((iv (ik)), fd1), ((hk), (nk), (k1, k2, k3, k4, k5, k6, k7, k8, k9)), ((iv (hr A)), (iv (pe A)), (xs, xi, xk, xc, xl, xr, xb, yl, yr)), ((ht), (nt), (t1, t2, t3, t4, t5, t6, t7, t8, t9)), ((iv (tn)), (e1), (e2), (e3), (e4), tp), ((iv (bq 0)), (iv (sq 0)), c0), ((iv (bq 1)), (iv (sq 1)), c1), ((iv (bq 2)), (iv (sq 2)), c2), ((iv (bq 3)), (iv (sq 3)), c3)) h (by rw [e9]; exact ⟨rfl, ⟨⟨rfl, rfl, hR, hI, hr9⟩, hK, hF1, hT, hB⟩⟩) dX4_copy_53
  · refine lv_aload X.1 X.2.1 dX4_copy_39 (lv_at hl 0 rfl) ?_
    refine z_pi (run_V (rest := []) X (st_sing (st_in (st_in (st_in (st_in (st_in (st_nil h))))))) (c_X0_isMissing (y := q 0) (bt := bq 0) ⟨by omega, by omega⟩) mi_X0_isMissing ml_X4_193 ⟨Nat.le_of_ble_eq_true rfl, Nat.le_of_ble_eq_true rfl⟩ ⟨rfl, rfl⟩ (Seg.mk' _ _) 0 35 rfl rfl rfl rfl hl.1 rfl (Nat.le_of_ble_eq_true rfl) ⟨Nat.zero_le _, Nat.zero_le _⟩ dX4_copy_41) ?_
    refine z_ifb_eq (tgt := 54) X dX4_copy_44 (by decide) (fun c_44 => ?_) (fun c_44 => ?_)
    · refine lv_aload X.1 X.2.1 dX4_copy_54 (lv_at hl 1 rfl) ?_
      refine z_get X h 0 41 0 rfl inX0 rfl (by decide) fl_X4_206 rfl dX4_copy_56 ?_
      refine lv_aload X.1 X.2.1 dX4_copy_59 (lv_at hl 0 rfl) ?_
      refine z_get X h 0 35 0 rfl inX0 rfl (by decide) fl_X4_206 rfl dX4_copy_61 ?_
      refine z_ic_eq (tgt := 74) X ⟨by omega, by omega⟩ ⟨by omega, by omega⟩ dX4_copy_64 (by decide) (fun c_64 => ?_) (fun c_64 => ?_)
      · refine lv_aload X.1 X.2.1 dX4_copy_74 (lv_at hl 1 rfl) ?_
        refine lv_iload_n X.1 X.2.1 dX4_copy_76 rfl (lv_at hl 4 rfl) ?_
        refine lv_iload X.1 X.2.1 dX4_copy_77 (lv_at hl 7 rfl) ?_
        refine z_pi (run_V (rest := []) X (st_sing (st_in (st_in (st_in (st_in (st_in (st_in (st_in (st_in (st_nil h)))))))))) (c_X0_has (y := q 3) (sz := sq 3) (fr := pf) (n9 := pn) (by omega) (by omega) r_pf r_pn) mi_X0_has ml_X4_209 ⟨Nat.le_of_ble_eq_true rfl, Nat.le_of_ble_eq_true rfl⟩ ⟨rfl, rfl⟩ (Seg.mk' _ _) 0 41 rfl rfl rfl rfl hl.1 rfl (Nat.le_of_ble_eq_true rfl) ⟨Nat.zero_le _, Nat.zero_le _⟩ dX4_copy_79) ?_
        refine z_ifb_eq (tgt := 97) X dX4_copy_82 (by decide) (fun c_82 => ?_) (fun c_82 => ?_)
        · refine lv_aload_n X.1 X.2.1 dX4_copy_97 rfl (lv_at hl 2 rfl) ?_
          refine z_ldc (z := (-1000000001)) X ct_X4_48 (by decide) dX4_copy_98 ?_
          refine z_wi (st_sing (st_nil h)) (run_V (rest := []) X (st_sing (st_nil h)) (c_X4_finding (j := 0) hF (by decide) (by decide) (by decide)) mi_X4_finding ml_X4_49 ⟨Nat.le_of_ble_eq_true rfl, Nat.le_of_ble_eq_true rfl⟩ ⟨rfl, rfl⟩ (Seg.mk' _ _) 3 0 rfl rfl rfl rfl hl.1 rfl (Nat.le_of_ble_eq_true rfl) ⟨Nat.zero_le _, Nat.zero_le _⟩ dX4_copy_100) (fun _ => map_app (wO_map _ _ _ _ _ _ _ _ _ _ _) rfl) (fun r fd2 H locs hp h => ?_)
          have h := (st_lin (st_gnis h))
          obtain ⟨rfl, hF2⟩ := hp
          have h : St E _ s H locs (wO E a k b t x q ((iv (ik))) fd2 ++ (wS E k ((hk)) ((nk)) (k1, k2, k3, k4, k5, k6, k7, k8, k9) ++ (wS E b ((iv (hr A))) ((iv (pe A))) (xs, xi, xk, xc, xl, xr, xb, yl, yr) ++ (wS E t ((ht)) ((nt)) (t1, t2, t3, t4, t5, t6, t7, t8, t9) ++ (wX E x ((iv (tn))) ((e1)) ((e2)) ((e3)) ((e4)) tp ++ (wH E (q 0) ((iv (bq 0))) ((iv (sq 0))) c0 ++ (wH E (q 1) ((iv (bq 1))) ((iv (sq 1))) c1 ++ (wH E (q 2) ((iv (bq 2))) ((iv (sq 2))) c2 ++ (wH E (q 3) ((iv (bq 3))) ((iv (sq 3))) c3 ++ []))))))))) := h
          have e9 : q_copy bq sq cq ph 3 pf 0 po pn = ((-1000000001), cq, (bump ph 0)) := by first | (unfold q_copy; (repeat (first | rw [if_pos (by omega)] | rw [if_neg (by omega)])); first | done | rfl) | (exfalso; omega)
          exact ret _ _ _ _ _ (((iv (ik)), fd2), ((hk), (nk), (k1, k2, k3, k4, k5, k6, k7, k8, k9)), ((iv (hr A)), (iv (pe A)), (xs, xi, xk, xc, xl, xr, xb, yl, yr)), ((ht), (nt), (t1, t2, t3, t4, t5, t6, t7, t8, t9)), ((iv (tn)), (e1), (e2), (e3), (e4), tp), ((iv (bq 0)), (iv (sq 0)), c0), ((iv (bq 1)), (iv (sq 1)), c1), ((iv (bq 2)), (iv (sq 2)), c2), ((iv (bq 3)), (iv (sq 3)), c3)) h (by rw [e9]; exact ⟨rfl, ⟨⟨rfl, rfl, hR, hI, hr9⟩, hK, hF2, hT, hB⟩⟩) dX4_copy_103
        · refine lv_aload X.1 X.2.1 dX4_copy_85 (lv_at hl 0 rfl) ?_
          refine lv_iload X.1 X.2.1 dX4_copy_87 (lv_at hl 6 rfl) ?_
          refine lv_iload X.1 X.2.1 dX4_copy_89 (lv_at hl 7 rfl) ?_
          refine z_pi (run_V (rest := []) X (st_sing (st_in (st_in (st_in (st_in (st_in (st_nil h))))))) (c_X0_has (y := q 0) (sz := sq 0) (fr := po) (n9 := pn) (by omega) (by omega) r_po r_pn) mi_X0_has ml_X4_209 ⟨Nat.le_of_ble_eq_true rfl, Nat.le_of_ble_eq_true rfl⟩ ⟨rfl, rfl⟩ (Seg.mk' _ _) 0 35 rfl rfl rfl rfl hl.1 rfl (Nat.le_of_ble_eq_true rfl) ⟨Nat.zero_le _, Nat.zero_le _⟩ dX4_copy_91) ?_
          refine z_ifb_ne (tgt := 104) X dX4_copy_94 (by decide) (fun c_94 => ?_) (fun c_94 => ?_)
          · refine lv_aload X.1 X.2.1 dX4_copy_104 (lv_at hl 1 rfl) ?_
            refine z_get X h 0 41 2 rfl inX0 rfl (by decide) fl_X4_198 rfl dX4_copy_106 ?_
            refine lv_iload_n X.1 X.2.1 dX4_copy_109 rfl (lv_at hl 4 rfl) ?_
            refine lv_aload X.1 X.2.1 dX4_copy_110 (lv_at hl 0 rfl) ?_
            refine z_get X h 0 35 2 rfl inX0 rfl (by decide) fl_X4_198 rfl dX4_copy_112 ?_
            refine lv_iload X.1 X.2.1 dX4_copy_115 (lv_at hl 6 rfl) ?_
            refine lv_iload X.1 X.2.1 dX4_copy_117 (lv_at hl 7 rfl) ?_
            refine s_copyl X (st_in (st_in (st_in (st_in (st_in (st_nil h)))))) rfl 42 1 rfl rfl ml_X4_212 (by omega) (by omega) (by omega) (by omega) (by omega) (by decide) (by decide) hl.1 (Nat.le_of_ble_eq_true rfl) (Nat.le_of_ble_eq_true rfl) dX4_copy_119 (fun H locs h => ?_)
            have h := (st_lin (st_out (st_out (st_out (st_out (st_out (st_eq wH_numbers h)))))))
            have h : St E _ s H locs (wO E a k b t x q ((iv (ik))) fd ++ (wS E k ((hk)) ((nk)) (k1, k2, k3, k4, k5, k6, k7, k8, k9) ++ (wS E b ((iv (hr A))) ((iv (pe A))) (xs, xi, xk, xc, xl, xr, xb, yl, yr) ++ (wS E t ((ht)) ((nt)) (t1, t2, t3, t4, t5, t6, t7, t8, t9) ++ (wX E x ((iv (tn))) ((e1)) ((e2)) ((e3)) ((e4)) tp ++ (wH E (q 0) ((iv (bq 0))) ((iv (sq 0))) (va_cpy c3 c0 (pf : Int).toNat (po : Int).toNat (pn : Int).toNat) ++ (wH E (q 1) ((iv (bq 1))) ((iv (sq 1))) c1 ++ (wH E (q 2) ((iv (bq 2))) ((iv (sq 2))) c2 ++ (wH E (q 3) ((iv (bq 3))) ((iv (sq 3))) c3 ++ []))))))))) := h
            refine lv_iload X.1 X.2.1 dX4_copy_122 (lv_at hl 7 rfl) ?_
            have e9 : q_copy bq sq cq ph 3 pf 0 po pn = (pn, (cpy cq 3 pf 0 po 0 pn), ph) := by first | (unfold q_copy; (repeat (first | rw [if_pos (by omega)] | rw [if_neg (by omega)])); first | done | rfl) | (exfalso; omega)
            exact ret _ _ _ _ _ (((iv (ik)), fd), ((hk), (nk), (k1, k2, k3, k4, k5, k6, k7, k8, k9)), ((iv (hr A)), (iv (pe A)), (xs, xi, xk, xc, xl, xr, xb, yl, yr)), ((ht), (nt), (t1, t2, t3, t4, t5, t6, t7, t8, t9)), ((iv (tn)), (e1), (e2), (e3), (e4), tp), ((iv (bq 0)), (iv (sq 0)), (va_cpy c3 c0 (pf : Int).toNat (po : Int).toNat (pn : Int).toNat)), ((iv (bq 1)), (iv (sq 1)), c1), ((iv (bq 2)), (iv (sq 2)), c2), ((iv (bq 3)), (iv (sq 3)), c3)) h (by rw [e9]; exact ⟨rfl, ⟨⟨rfl, rfl, hR, hI, hr9⟩, hK, hF, hT, ⟨hB3, RepH_cp hH3 hH0 (by omega) (by omega) (by omega) (by omega), RepH_cn hH1 (by decide), RepH_cn hH2 (by decide), RepH_cn hH3 (by decide)⟩⟩⟩) dX4_copy_124
          · refine lv_aload_n X.1 X.2.1 dX4_copy_97 rfl (lv_at hl 2 rfl) ?_
            refine z_ldc (z := (-1000000001)) X ct_X4_48 (by decide) dX4_copy_98 ?_
            refine z_wi (st_sing (st_nil h)) (run_V (rest := []) X (st_sing (st_nil h)) (c_X4_finding (j := 0) hF (by decide) (by decide) (by decide)) mi_X4_finding ml_X4_49 ⟨Nat.le_of_ble_eq_true rfl, Nat.le_of_ble_eq_true rfl⟩ ⟨rfl, rfl⟩ (Seg.mk' _ _) 3 0 rfl rfl rfl rfl hl.1 rfl (Nat.le_of_ble_eq_true rfl) ⟨Nat.zero_le _, Nat.zero_le _⟩ dX4_copy_100) (fun _ => map_app (wO_map _ _ _ _ _ _ _ _ _ _ _) rfl) (fun r fd3 H locs hp h => ?_)
            have h := (st_lin (st_gnis h))
            obtain ⟨rfl, hF3⟩ := hp
            have h : St E _ s H locs (wO E a k b t x q ((iv (ik))) fd3 ++ (wS E k ((hk)) ((nk)) (k1, k2, k3, k4, k5, k6, k7, k8, k9) ++ (wS E b ((iv (hr A))) ((iv (pe A))) (xs, xi, xk, xc, xl, xr, xb, yl, yr) ++ (wS E t ((ht)) ((nt)) (t1, t2, t3, t4, t5, t6, t7, t8, t9) ++ (wX E x ((iv (tn))) ((e1)) ((e2)) ((e3)) ((e4)) tp ++ (wH E (q 0) ((iv (bq 0))) ((iv (sq 0))) c0 ++ (wH E (q 1) ((iv (bq 1))) ((iv (sq 1))) c1 ++ (wH E (q 2) ((iv (bq 2))) ((iv (sq 2))) c2 ++ (wH E (q 3) ((iv (bq 3))) ((iv (sq 3))) c3 ++ []))))))))) := h
            have e9 : q_copy bq sq cq ph 3 pf 0 po pn = ((-1000000001), cq, (bump ph 0)) := by first | (unfold q_copy; (repeat (first | rw [if_pos (by omega)] | rw [if_neg (by omega)])); first | done | rfl) | (exfalso; omega)
            exact ret _ _ _ _ _ (((iv (ik)), fd3), ((hk), (nk), (k1, k2, k3, k4, k5, k6, k7, k8, k9)), ((iv (hr A)), (iv (pe A)), (xs, xi, xk, xc, xl, xr, xb, yl, yr)), ((ht), (nt), (t1, t2, t3, t4, t5, t6, t7, t8, t9)), ((iv (tn)), (e1), (e2), (e3), (e4), tp), ((iv (bq 0)), (iv (sq 0)), c0), ((iv (bq 1)), (iv (sq 1)), c1), ((iv (bq 2)), (iv (sq 2)), c2), ((iv (bq 3)), (iv (sq 3)), c3)) h (by rw [e9]; exact ⟨rfl, ⟨⟨rfl, rfl, hR, hI, hr9⟩, hK, hF3, hT, hB⟩⟩) dX4_copy_103
      · refine lv_aload_n X.1 X.2.1 dX4_copy_67 rfl (lv_at hl 2 rfl) ?_
        refine z_ldc (z := (-1000000003)) X ct_X4_127 (by decide) dX4_copy_68 ?_
        refine z_wi (st_sing (st_nil h)) (run_V (rest := []) X (st_sing (st_nil h)) (c_X4_finding (j := 2) hF (by decide) (by decide) (by decide)) mi_X4_finding ml_X4_49 ⟨Nat.le_of_ble_eq_true rfl, Nat.le_of_ble_eq_true rfl⟩ ⟨rfl, rfl⟩ (Seg.mk' _ _) 3 0 rfl rfl rfl rfl hl.1 rfl (Nat.le_of_ble_eq_true rfl) ⟨Nat.zero_le _, Nat.zero_le _⟩ dX4_copy_70) (fun _ => map_app (wO_map _ _ _ _ _ _ _ _ _ _ _) rfl) (fun r fd4 H locs hp h => ?_)
        have h := (st_lin (st_gnis h))
        obtain ⟨rfl, hF4⟩ := hp
        have h : St E _ s H locs (wO E a k b t x q ((iv (ik))) fd4 ++ (wS E k ((hk)) ((nk)) (k1, k2, k3, k4, k5, k6, k7, k8, k9) ++ (wS E b ((iv (hr A))) ((iv (pe A))) (xs, xi, xk, xc, xl, xr, xb, yl, yr) ++ (wS E t ((ht)) ((nt)) (t1, t2, t3, t4, t5, t6, t7, t8, t9) ++ (wX E x ((iv (tn))) ((e1)) ((e2)) ((e3)) ((e4)) tp ++ (wH E (q 0) ((iv (bq 0))) ((iv (sq 0))) c0 ++ (wH E (q 1) ((iv (bq 1))) ((iv (sq 1))) c1 ++ (wH E (q 2) ((iv (bq 2))) ((iv (sq 2))) c2 ++ (wH E (q 3) ((iv (bq 3))) ((iv (sq 3))) c3 ++ []))))))))) := h
        have e9 : q_copy bq sq cq ph 3 pf 0 po pn = ((-1000000003), cq, (bump ph 2)) := by first | (unfold q_copy; (repeat (first | rw [if_pos (by omega)] | rw [if_neg (by omega)])); first | done | rfl) | (exfalso; omega)
        exact ret _ _ _ _ _ (((iv (ik)), fd4), ((hk), (nk), (k1, k2, k3, k4, k5, k6, k7, k8, k9)), ((iv (hr A)), (iv (pe A)), (xs, xi, xk, xc, xl, xr, xb, yl, yr)), ((ht), (nt), (t1, t2, t3, t4, t5, t6, t7, t8, t9)), ((iv (tn)), (e1), (e2), (e3), (e4), tp), ((iv (bq 0)), (iv (sq 0)), c0), ((iv (bq 1)), (iv (sq 1)), c1), ((iv (bq 2)), (iv (sq 2)), c2), ((iv (bq 3)), (iv (sq 3)), c3)) h (by rw [e9]; exact ⟨rfl, ⟨⟨rfl, rfl, hR, hI, hr9⟩, hK, hF4, hT, hB⟩⟩) dX4_copy_73
    · refine lv_aload_n X.1 X.2.1 dX4_copy_47 rfl (lv_at hl 2 rfl) ?_
      refine z_ldc (z := (-1000000006)) X ct_X4_197 (by decide) dX4_copy_48 ?_
      refine z_wi (st_sing (st_nil h)) (run_V (rest := []) X (st_sing (st_nil h)) (c_X4_finding (j := 5) hF (by decide) (by decide) (by decide)) mi_X4_finding ml_X4_49 ⟨Nat.le_of_ble_eq_true rfl, Nat.le_of_ble_eq_true rfl⟩ ⟨rfl, rfl⟩ (Seg.mk' _ _) 3 0 rfl rfl rfl rfl hl.1 rfl (Nat.le_of_ble_eq_true rfl) ⟨Nat.zero_le _, Nat.zero_le _⟩ dX4_copy_50) (fun _ => map_app (wO_map _ _ _ _ _ _ _ _ _ _ _) rfl) (fun r fd5 H locs hp h => ?_)
      have h := (st_lin (st_gnis h))
      obtain ⟨rfl, hF5⟩ := hp
      have h : St E _ s H locs (wO E a k b t x q ((iv (ik))) fd5 ++ (wS E k ((hk)) ((nk)) (k1, k2, k3, k4, k5, k6, k7, k8, k9) ++ (wS E b ((iv (hr A))) ((iv (pe A))) (xs, xi, xk, xc, xl, xr, xb, yl, yr) ++ (wS E t ((ht)) ((nt)) (t1, t2, t3, t4, t5, t6, t7, t8, t9) ++ (wX E x ((iv (tn))) ((e1)) ((e2)) ((e3)) ((e4)) tp ++ (wH E (q 0) ((iv (bq 0))) ((iv (sq 0))) c0 ++ (wH E (q 1) ((iv (bq 1))) ((iv (sq 1))) c1 ++ (wH E (q 2) ((iv (bq 2))) ((iv (sq 2))) c2 ++ (wH E (q 3) ((iv (bq 3))) ((iv (sq 3))) c3 ++ []))))))))) := h
      have e9 : q_copy bq sq cq ph 3 pf 0 po pn = ((-1000000006), cq, (bump ph 5)) := by first | (unfold q_copy; (repeat (first | rw [if_pos (by omega)] | rw [if_neg (by omega)])); first | done | rfl) | (exfalso; omega)
      exact ret _ _ _ _ _ (((iv (ik)), fd5), ((hk), (nk), (k1, k2, k3, k4, k5, k6, k7, k8, k9)), ((iv (hr A)), (iv (pe A)), (xs, xi, xk, xc, xl, xr, xb, yl, yr)), ((ht), (nt), (t1, t2, t3, t4, t5, t6, t7, t8, t9)), ((iv (tn)), (e1), (e2), (e3), (e4), tp), ((iv (bq 0)), (iv (sq 0)), c0), ((iv (bq 1)), (iv (sq 1)), c1), ((iv (bq 2)), (iv (sq 2)), c2), ((iv (bq 3)), (iv (sq 3)), c3)) h (by rw [e9]; exact ⟨rfl, ⟨⟨rfl, rfl, hR, hI, hr9⟩, hK, hF5, hT, hB⟩⟩) dX4_copy_53

set_option maxHeartbeats 4000000 in
theorem c_X4_copy_3_1 (hS : RepC (((iv (ik)), fd), ((hk), (nk), (k1, k2, k3, k4, k5, k6, k7, k8, k9)), ((iv (hr A)), (iv (pe A)), (xs, xi, xk, xc, xl, xr, xb, yl, yr)), ((ht), (nt), (t1, t2, t3, t4, t5, t6, t7, t8, t9)), ((iv (tn)), (e1), (e2), (e3), (e4), tp), ((iv (bq 0)), (iv (sq 0)), c0), ((iv (bq 1)), (iv (sq 1)), c1), ((iv (bq 2)), (iv (sq 2)), c2), ((iv (bq 3)), (iv (sq 3)), c3)) (A, K, ik, ph, tq, tn, bq, sq, cq)) {pf : Int} (r_pf : r32 pf) {po : Int} (r_po : r32 po) {pn : Int} (r_pn : r32 pn) : MI (S := Tc) E l yX4_copy cX4_copy 8 (some FieldType.int) (rmk 2 44) (wO E a k b t x q ((iv (ik))) fd ++ (wS E k ((hk)) ((nk)) (k1, k2, k3, k4, k5, k6, k7, k8, k9) ++ (wS E b ((iv (hr A))) ((iv (pe A))) (xs, xi, xk, xc, xl, xr, xb, yl, yr) ++ (wS E t ((ht)) ((nt)) (t1, t2, t3, t4, t5, t6, t7, t8, t9) ++ (wX E x ((iv (tn))) ((e1)) ((e2)) ((e3)) ((e4)) tp ++ (wH E (q 0) ((iv (bq 0))) ((iv (sq 0))) c0 ++ (wH E (q 1) ((iv (bq 1))) ((iv (sq 1))) c1 ++ (wH E (q 2) ((iv (bq 2))) ((iv (sq 2))) c2 ++ (wH E (q 3) ((iv (bq 3))) ((iv (sq 3))) c3 ++ []))))))))) [.ref (a 0), .int (iv (3)), .int (iv (pf)), .int (iv (1)), .int (iv (po)), .int (iv (pn))] (fun r u => r = iv ((q_copy bq sq cq ph 3 pf 1 po pn).1) ∧ RepC u (A, K, ik, (q_copy bq sq cq ph 3 pf 1 po pn).2.2, tq, tn, bq, sq, (q_copy bq sq cq ph 3 pf 1 po pn).2.1)) (fun u => wT E a k b t x q u) := by
  refine goI (S := Tc) (post := fun r u => r = iv ((q_copy bq sq cq ph 3 pf 1 po pn).1) ∧ RepC u (A, K, ik, (q_copy bq sq cq ph 3 pf 1 po pn).2.2, tq, tn, bq, sq, (q_copy bq sq cq ph 3 pf 1 po pn).2.1)) (ws' := fun u => wT E a k b t x q u) (by decide) (Nat.le_of_ble_eq_true rfl) ?_
  intro pp e s m below meth c ls args Q ret X h hl
  have hl : lv_has ls 8 [(0, .ref (a 0)), (1, .int (iv (3))), (2, .int (iv (pf))), (3, .int (iv (1))), (4, .int (iv (po))), (5, .int (iv (pn)))] := hl
  have hR : RS (xs, xi, xk, xc, xl, xr, xb, yl, yr) A := hS.1.2.2.1
  have hI : IA A := hS.1.2.2.2.1
  have hr9 : hr A ≤ 99999 := hS.1.2.2.2.2
  have hF : RF 7 fd ph := hS.2.2.1
  have hK := hS.2.1
  have hT := hS.2.2.2.1
  have hB := hS.2.2.2.2
  have hh : hr A < 1000000 := by omega
  have n8 := hI.n8
  have n0 := hI.n0
  have h0 := hI.h0
  have ht0 : 0 ≤ tn := hS.2.2.2.1.2.1
  have ht1 : tn ≤ 120 := hS.2.2.2.1.2.2.1
  have hk01 : ik = 0 ∨ ik = 1 := hS.2.1.2.1
  have hB3 : okB bq sq := hS.2.2.2.2.1
  have hH0 : RepH (iv (bq 0), iv (sq 0), c0) bq sq cq 0 := hS.2.2.2.2.2.1
  have hH1 : RepH (iv (bq 1), iv (sq 1), c1) bq sq cq 1 := hS.2.2.2.2.2.2.1
  have hH2 : RepH (iv (bq 2), iv (sq 2), c2) bq sq cq 2 := hS.2.2.2.2.2.2.2.1
  have hH3 : RepH (iv (bq 3), iv (sq 3), c3) bq sq cq 3 := hS.2.2.2.2.2.2.2.2
  have ob3 := hB3.1 3 (by omega) (by omega)
  have zb3 := hB3.2 3 (by omega) (by omega)
  have ob1 := hB3.1 1 (by omega) (by omega)
  have zb1 := hB3.2 1 (by omega) (by omega)
  have q2 := r_pf.1
  have q22 := r_pf.2
  have q4 := r_po.1
  have q42 := r_po.2
  have q5 := r_pn.1
  have q52 := r_pn.2
  refine lv_aload_n X.1 X.2.1 dX4_copy_0 rfl (lv_at hl 0 rfl) ?_
  refine lv_iload_n X.1 X.2.1 dX4_copy_1 rfl (lv_at hl 1 rfl) ?_
  refine z_pq (run_V (rest := []) X h (c_sheetAt3) mi_X4_sheetAt ml_X4_184 ⟨Nat.le_of_ble_eq_true rfl, Nat.le_of_ble_eq_true rfl⟩ ⟨rfl, rfl⟩ (Seg.rfl' _) 3 0 rfl rfl rfl rfl hl.1 rfl (Nat.le_of_ble_eq_true rfl) ⟨Nat.zero_le _, Nat.zero_le _⟩ dX4_copy_2) ?_
  refine W.eq (g2 := F0 m 5 ls [.ref (q 3 0)]) rfl ?_
  refine lv_astore (lv' := [(6, .ref (q 3 0)), (0, .ref (a 0)), (1, .int (iv (3))), (2, .int (iv (pf))), (3, .int (iv (1))), (4, .int (iv (po))), (5, .int (iv (pn)))]) X.1 X.2.1 dX4_copy_5 hl (by decide) rfl (fun ls hl => ?_)
  refine lv_aload_n X.1 X.2.1 dX4_copy_7 rfl (lv_at hl 1 rfl) ?_
  refine lv_iload_n X.1 X.2.1 dX4_copy_8 rfl (lv_at hl 4 rfl) ?_
  refine z_pq (run_V (rest := []) X h (c_sheetAt1) mi_X4_sheetAt ml_X4_184 ⟨Nat.le_of_ble_eq_true rfl, Nat.le_of_ble_eq_true rfl⟩ ⟨rfl, rfl⟩ (Seg.rfl' _) 3 0 rfl rfl rfl rfl hl.1 rfl (Nat.le_of_ble_eq_true rfl) ⟨Nat.zero_le _, Nat.zero_le _⟩ dX4_copy_9) ?_
  refine W.eq (g2 := F0 m 12 ls [.ref (q 1 0)]) rfl ?_
  refine lv_astore (lv' := [(7, .ref (q 1 0)), (6, .ref (q 3 0)), (0, .ref (a 0)), (1, .int (iv (3))), (2, .int (iv (pf))), (3, .int (iv (1))), (4, .int (iv (po))), (5, .int (iv (pn)))]) X.1 X.2.1 dX4_copy_12 hl (by decide) rfl (fun ls hl => ?_)
  refine lv_aload X.1 X.2.1 dX4_copy_14 (lv_at hl 1 rfl) ?_
  refine lv_ifnull X.1 X.2.1 dX4_copy_16 ?_
  refine lv_aload X.1 X.2.1 dX4_copy_19 (lv_at hl 0 rfl) ?_
  refine lv_ifnonnull (tgt := 31) X.1 X.2.1 dX4_copy_21 (by decide) ?_
  refine lv_aload X.1 X.2.1 dX4_copy_31 (lv_at hl 1 rfl) ?_
  refine z_pi (run_V (rest := []) X (st_sing (st_in (st_in (st_in (st_in (st_in (st_in (st_in (st_in (st_nil h)))))))))) (c_X0_isMissing (y := q 3) (bt := bq 3) ⟨by omega, by omega⟩) mi_X0_isMissing ml_X4_193 ⟨Nat.le_of_ble_eq_true rfl, Nat.le_of_ble_eq_true rfl⟩ ⟨rfl, rfl⟩ (Seg.mk' _ _) 0 41 rfl rfl rfl rfl hl.1 rfl (Nat.le_of_ble_eq_true rfl) ⟨Nat.zero_le _, Nat.zero_le _⟩ dX4_copy_33) ?_
  refine z_ifb_ne (tgt := 47) X dX4_copy_36 (by decide) (fun c_36 => ?_) (fun c_36 => ?_)
  · refine lv_aload_n X.1 X.2.1 dX4_copy_47 rfl (lv_at hl 2 rfl) ?_
    refine z_ldc (z := (-1000000006)) X ct_X4_197 (by decide) dX4_copy_48 ?_
    refine z_wi (st_sing (st_nil h)) (run_V (rest := []) X (st_sing (st_nil h)) (c_X4_finding (j := 5) hF (by decide) (by decide) (by decide)) mi_X4_finding ml_X4_49 ⟨Nat.le_of_ble_eq_true rfl, Nat.le_of_ble_eq_true rfl⟩ ⟨rfl, rfl⟩ (Seg.mk' _ _) 3 0 rfl rfl rfl rfl hl.1 rfl (Nat.le_of_ble_eq_true rfl) ⟨Nat.zero_le _, Nat.zero_le _⟩ dX4_copy_50) (fun _ => map_app (wO_map _ _ _ _ _ _ _ _ _ _ _) rfl) (fun r fd1 H locs hp h => ?_)
    have h := (st_lin (st_gnis h))
    obtain ⟨rfl, hF1⟩ := hp
    have h : St E _ s H locs (wO E a k b t x q ((iv (ik))) fd1 ++ (wS E k ((hk)) ((nk)) (k1, k2, k3, k4, k5, k6, k7, k8, k9) ++ (wS E b ((iv (hr A))) ((iv (pe A))) (xs, xi, xk, xc, xl, xr, xb, yl, yr) ++ (wS E t ((ht)) ((nt)) (t1, t2, t3, t4, t5, t6, t7, t8, t9) ++ (wX E x ((iv (tn))) ((e1)) ((e2)) ((e3)) ((e4)) tp ++ (wH E (q 0) ((iv (bq 0))) ((iv (sq 0))) c0 ++ (wH E (q 1) ((iv (bq 1))) ((iv (sq 1))) c1 ++ (wH E (q 2) ((iv (bq 2))) ((iv (sq 2))) c2 ++ (wH E (q 3) ((iv (bq 3))) ((iv (sq 3))) c3 ++ []))))))))) := h
    have e9 : q_copy bq sq cq ph 3 pf 1 po pn = ((-1000000006), cq, (bump ph 5)) := by first | (unfold q_copy; (repeat (first | rw [if_pos (by omega)] | rw [if_neg (by omega)])); first | done | rfl) | (exfalso; omega)
    exact ret _ _ _ _ _ (((iv (ik)), fd1), ((hk), (nk), (k1, k2, k3, k4, k5, k6, k7, k8, k9)), ((iv (hr A)), (iv (pe A)), (xs, xi, xk, xc, xl, xr, xb, yl, yr)), ((ht), (nt), (t1, t2, t3, t4, t5, t6, t7, t8, t9)), ((iv (tn)), (e1), (e2), (e3), (e4), tp), ((iv (bq 0)), (iv (sq 0)), c0), ((iv (bq 1)), (iv (sq 1)), c1), ((iv (bq 2)), (iv (sq 2)), c2), ((iv (bq 3)), (iv (sq 3)), c3)) h (by rw [e9]; exact ⟨rfl, ⟨⟨rfl, rfl, hR, hI, hr9⟩, hK, hF1, hT, hB⟩⟩) dX4_copy_53
  · refine lv_aload X.1 X.2.1 dX4_copy_39 (lv_at hl 0 rfl) ?_
    refine z_pi (run_V (rest := []) X (st_sing (st_in (st_in (st_in (st_in (st_in (st_in (st_nil h)))))))) (c_X0_isMissing (y := q 1) (bt := bq 1) ⟨by omega, by omega⟩) mi_X0_isMissing ml_X4_193 ⟨Nat.le_of_ble_eq_true rfl, Nat.le_of_ble_eq_true rfl⟩ ⟨rfl, rfl⟩ (Seg.mk' _ _) 0 37 rfl rfl rfl rfl hl.1 rfl (Nat.le_of_ble_eq_true rfl) ⟨Nat.zero_le _, Nat.zero_le _⟩ dX4_copy_41) ?_
    refine z_ifb_eq (tgt := 54) X dX4_copy_44 (by decide) (fun c_44 => ?_) (fun c_44 => ?_)
    · refine lv_aload X.1 X.2.1 dX4_copy_54 (lv_at hl 1 rfl) ?_
      refine z_get X h 0 41 0 rfl inX0 rfl (by decide) fl_X4_206 rfl dX4_copy_56 ?_
      refine lv_aload X.1 X.2.1 dX4_copy_59 (lv_at hl 0 rfl) ?_
      refine z_get X h 0 37 0 rfl inX0 rfl (by decide) fl_X4_206 rfl dX4_copy_61 ?_
      refine z_ic_eq (tgt := 74) X ⟨by omega, by omega⟩ ⟨by omega, by omega⟩ dX4_copy_64 (by decide) (fun c_64 => ?_) (fun c_64 => ?_)
      · refine lv_aload X.1 X.2.1 dX4_copy_74 (lv_at hl 1 rfl) ?_
        refine lv_iload_n X.1 X.2.1 dX4_copy_76 rfl (lv_at hl 4 rfl) ?_
        refine lv_iload X.1 X.2.1 dX4_copy_77 (lv_at hl 7 rfl) ?_
        refine z_pi (run_V (rest := []) X (st_sing (st_in (st_in (st_in (st_in (st_in (st_in (st_in (st_in (st_nil h)))))))))) (c_X0_has (y := q 3) (sz := sq 3) (fr := pf) (n9 := pn) (by omega) (by omega) r_pf r_pn) mi_X0_has ml_X4_209 ⟨Nat.le_of_ble_eq_true rfl, Nat.le_of_ble_eq_true rfl⟩ ⟨rfl, rfl⟩ (Seg.mk' _ _) 0 41 rfl rfl rfl rfl hl.1 rfl (Nat.le_of_ble_eq_true rfl) ⟨Nat.zero_le _, Nat.zero_le _⟩ dX4_copy_79) ?_
        refine z_ifb_eq (tgt := 97) X dX4_copy_82 (by decide) (fun c_82 => ?_) (fun c_82 => ?_)
        · refine lv_aload_n X.1 X.2.1 dX4_copy_97 rfl (lv_at hl 2 rfl) ?_
          refine z_ldc (z := (-1000000001)) X ct_X4_48 (by decide) dX4_copy_98 ?_
          refine z_wi (st_sing (st_nil h)) (run_V (rest := []) X (st_sing (st_nil h)) (c_X4_finding (j := 0) hF (by decide) (by decide) (by decide)) mi_X4_finding ml_X4_49 ⟨Nat.le_of_ble_eq_true rfl, Nat.le_of_ble_eq_true rfl⟩ ⟨rfl, rfl⟩ (Seg.mk' _ _) 3 0 rfl rfl rfl rfl hl.1 rfl (Nat.le_of_ble_eq_true rfl) ⟨Nat.zero_le _, Nat.zero_le _⟩ dX4_copy_100) (fun _ => map_app (wO_map _ _ _ _ _ _ _ _ _ _ _) rfl) (fun r fd2 H locs hp h => ?_)
          have h := (st_lin (st_gnis h))
          obtain ⟨rfl, hF2⟩ := hp
          have h : St E _ s H locs (wO E a k b t x q ((iv (ik))) fd2 ++ (wS E k ((hk)) ((nk)) (k1, k2, k3, k4, k5, k6, k7, k8, k9) ++ (wS E b ((iv (hr A))) ((iv (pe A))) (xs, xi, xk, xc, xl, xr, xb, yl, yr) ++ (wS E t ((ht)) ((nt)) (t1, t2, t3, t4, t5, t6, t7, t8, t9) ++ (wX E x ((iv (tn))) ((e1)) ((e2)) ((e3)) ((e4)) tp ++ (wH E (q 0) ((iv (bq 0))) ((iv (sq 0))) c0 ++ (wH E (q 1) ((iv (bq 1))) ((iv (sq 1))) c1 ++ (wH E (q 2) ((iv (bq 2))) ((iv (sq 2))) c2 ++ (wH E (q 3) ((iv (bq 3))) ((iv (sq 3))) c3 ++ []))))))))) := h
          have e9 : q_copy bq sq cq ph 3 pf 1 po pn = ((-1000000001), cq, (bump ph 0)) := by first | (unfold q_copy; (repeat (first | rw [if_pos (by omega)] | rw [if_neg (by omega)])); first | done | rfl) | (exfalso; omega)
          exact ret _ _ _ _ _ (((iv (ik)), fd2), ((hk), (nk), (k1, k2, k3, k4, k5, k6, k7, k8, k9)), ((iv (hr A)), (iv (pe A)), (xs, xi, xk, xc, xl, xr, xb, yl, yr)), ((ht), (nt), (t1, t2, t3, t4, t5, t6, t7, t8, t9)), ((iv (tn)), (e1), (e2), (e3), (e4), tp), ((iv (bq 0)), (iv (sq 0)), c0), ((iv (bq 1)), (iv (sq 1)), c1), ((iv (bq 2)), (iv (sq 2)), c2), ((iv (bq 3)), (iv (sq 3)), c3)) h (by rw [e9]; exact ⟨rfl, ⟨⟨rfl, rfl, hR, hI, hr9⟩, hK, hF2, hT, hB⟩⟩) dX4_copy_103
        · refine lv_aload X.1 X.2.1 dX4_copy_85 (lv_at hl 0 rfl) ?_
          refine lv_iload X.1 X.2.1 dX4_copy_87 (lv_at hl 6 rfl) ?_
          refine lv_iload X.1 X.2.1 dX4_copy_89 (lv_at hl 7 rfl) ?_
          refine z_pi (run_V (rest := []) X (st_sing (st_in (st_in (st_in (st_in (st_in (st_in (st_nil h)))))))) (c_X0_has (y := q 1) (sz := sq 1) (fr := po) (n9 := pn) (by omega) (by omega) r_po r_pn) mi_X0_has ml_X4_209 ⟨Nat.le_of_ble_eq_true rfl, Nat.le_of_ble_eq_true rfl⟩ ⟨rfl, rfl⟩ (Seg.mk' _ _) 0 37 rfl rfl rfl rfl hl.1 rfl (Nat.le_of_ble_eq_true rfl) ⟨Nat.zero_le _, Nat.zero_le _⟩ dX4_copy_91) ?_
          refine z_ifb_ne (tgt := 104) X dX4_copy_94 (by decide) (fun c_94 => ?_) (fun c_94 => ?_)
          · refine lv_aload X.1 X.2.1 dX4_copy_104 (lv_at hl 1 rfl) ?_
            refine z_get X h 0 41 2 rfl inX0 rfl (by decide) fl_X4_198 rfl dX4_copy_106 ?_
            refine lv_iload_n X.1 X.2.1 dX4_copy_109 rfl (lv_at hl 4 rfl) ?_
            refine lv_aload X.1 X.2.1 dX4_copy_110 (lv_at hl 0 rfl) ?_
            refine z_get X h 0 37 2 rfl inX0 rfl (by decide) fl_X4_198 rfl dX4_copy_112 ?_
            refine lv_iload X.1 X.2.1 dX4_copy_115 (lv_at hl 6 rfl) ?_
            refine lv_iload X.1 X.2.1 dX4_copy_117 (lv_at hl 7 rfl) ?_
            refine s_copyl X (st_in (st_in (st_in (st_in (st_in (st_in (st_nil h))))))) rfl 42 1 rfl rfl ml_X4_212 (by omega) (by omega) (by omega) (by omega) (by omega) (by decide) (by decide) hl.1 (Nat.le_of_ble_eq_true rfl) (Nat.le_of_ble_eq_true rfl) dX4_copy_119 (fun H locs h => ?_)
            have h := (st_lin (st_out (st_out (st_out (st_out (st_out (st_out (st_eq wH_numbers h))))))))
            have h : St E _ s H locs (wO E a k b t x q ((iv (ik))) fd ++ (wS E k ((hk)) ((nk)) (k1, k2, k3, k4, k5, k6, k7, k8, k9) ++ (wS E b ((iv (hr A))) ((iv (pe A))) (xs, xi, xk, xc, xl, xr, xb, yl, yr) ++ (wS E t ((ht)) ((nt)) (t1, t2, t3, t4, t5, t6, t7, t8, t9) ++ (wX E x ((iv (tn))) ((e1)) ((e2)) ((e3)) ((e4)) tp ++ (wH E (q 0) ((iv (bq 0))) ((iv (sq 0))) c0 ++ (wH E (q 1) ((iv (bq 1))) ((iv (sq 1))) (va_cpy c3 c1 (pf : Int).toNat (po : Int).toNat (pn : Int).toNat) ++ (wH E (q 2) ((iv (bq 2))) ((iv (sq 2))) c2 ++ (wH E (q 3) ((iv (bq 3))) ((iv (sq 3))) c3 ++ []))))))))) := h
            refine lv_iload X.1 X.2.1 dX4_copy_122 (lv_at hl 7 rfl) ?_
            have e9 : q_copy bq sq cq ph 3 pf 1 po pn = (pn, (cpy cq 3 pf 1 po 0 pn), ph) := by first | (unfold q_copy; (repeat (first | rw [if_pos (by omega)] | rw [if_neg (by omega)])); first | done | rfl) | (exfalso; omega)
            exact ret _ _ _ _ _ (((iv (ik)), fd), ((hk), (nk), (k1, k2, k3, k4, k5, k6, k7, k8, k9)), ((iv (hr A)), (iv (pe A)), (xs, xi, xk, xc, xl, xr, xb, yl, yr)), ((ht), (nt), (t1, t2, t3, t4, t5, t6, t7, t8, t9)), ((iv (tn)), (e1), (e2), (e3), (e4), tp), ((iv (bq 0)), (iv (sq 0)), c0), ((iv (bq 1)), (iv (sq 1)), (va_cpy c3 c1 (pf : Int).toNat (po : Int).toNat (pn : Int).toNat)), ((iv (bq 2)), (iv (sq 2)), c2), ((iv (bq 3)), (iv (sq 3)), c3)) h (by rw [e9]; exact ⟨rfl, ⟨⟨rfl, rfl, hR, hI, hr9⟩, hK, hF, hT, ⟨hB3, RepH_cn hH0 (by decide), RepH_cp hH3 hH1 (by omega) (by omega) (by omega) (by omega), RepH_cn hH2 (by decide), RepH_cn hH3 (by decide)⟩⟩⟩) dX4_copy_124
          · refine lv_aload_n X.1 X.2.1 dX4_copy_97 rfl (lv_at hl 2 rfl) ?_
            refine z_ldc (z := (-1000000001)) X ct_X4_48 (by decide) dX4_copy_98 ?_
            refine z_wi (st_sing (st_nil h)) (run_V (rest := []) X (st_sing (st_nil h)) (c_X4_finding (j := 0) hF (by decide) (by decide) (by decide)) mi_X4_finding ml_X4_49 ⟨Nat.le_of_ble_eq_true rfl, Nat.le_of_ble_eq_true rfl⟩ ⟨rfl, rfl⟩ (Seg.mk' _ _) 3 0 rfl rfl rfl rfl hl.1 rfl (Nat.le_of_ble_eq_true rfl) ⟨Nat.zero_le _, Nat.zero_le _⟩ dX4_copy_100) (fun _ => map_app (wO_map _ _ _ _ _ _ _ _ _ _ _) rfl) (fun r fd3 H locs hp h => ?_)
            have h := (st_lin (st_gnis h))
            obtain ⟨rfl, hF3⟩ := hp
            have h : St E _ s H locs (wO E a k b t x q ((iv (ik))) fd3 ++ (wS E k ((hk)) ((nk)) (k1, k2, k3, k4, k5, k6, k7, k8, k9) ++ (wS E b ((iv (hr A))) ((iv (pe A))) (xs, xi, xk, xc, xl, xr, xb, yl, yr) ++ (wS E t ((ht)) ((nt)) (t1, t2, t3, t4, t5, t6, t7, t8, t9) ++ (wX E x ((iv (tn))) ((e1)) ((e2)) ((e3)) ((e4)) tp ++ (wH E (q 0) ((iv (bq 0))) ((iv (sq 0))) c0 ++ (wH E (q 1) ((iv (bq 1))) ((iv (sq 1))) c1 ++ (wH E (q 2) ((iv (bq 2))) ((iv (sq 2))) c2 ++ (wH E (q 3) ((iv (bq 3))) ((iv (sq 3))) c3 ++ []))))))))) := h
            have e9 : q_copy bq sq cq ph 3 pf 1 po pn = ((-1000000001), cq, (bump ph 0)) := by first | (unfold q_copy; (repeat (first | rw [if_pos (by omega)] | rw [if_neg (by omega)])); first | done | rfl) | (exfalso; omega)
            exact ret _ _ _ _ _ (((iv (ik)), fd3), ((hk), (nk), (k1, k2, k3, k4, k5, k6, k7, k8, k9)), ((iv (hr A)), (iv (pe A)), (xs, xi, xk, xc, xl, xr, xb, yl, yr)), ((ht), (nt), (t1, t2, t3, t4, t5, t6, t7, t8, t9)), ((iv (tn)), (e1), (e2), (e3), (e4), tp), ((iv (bq 0)), (iv (sq 0)), c0), ((iv (bq 1)), (iv (sq 1)), c1), ((iv (bq 2)), (iv (sq 2)), c2), ((iv (bq 3)), (iv (sq 3)), c3)) h (by rw [e9]; exact ⟨rfl, ⟨⟨rfl, rfl, hR, hI, hr9⟩, hK, hF3, hT, hB⟩⟩) dX4_copy_103
      · refine lv_aload_n X.1 X.2.1 dX4_copy_67 rfl (lv_at hl 2 rfl) ?_
        refine z_ldc (z := (-1000000003)) X ct_X4_127 (by decide) dX4_copy_68 ?_
        refine z_wi (st_sing (st_nil h)) (run_V (rest := []) X (st_sing (st_nil h)) (c_X4_finding (j := 2) hF (by decide) (by decide) (by decide)) mi_X4_finding ml_X4_49 ⟨Nat.le_of_ble_eq_true rfl, Nat.le_of_ble_eq_true rfl⟩ ⟨rfl, rfl⟩ (Seg.mk' _ _) 3 0 rfl rfl rfl rfl hl.1 rfl (Nat.le_of_ble_eq_true rfl) ⟨Nat.zero_le _, Nat.zero_le _⟩ dX4_copy_70) (fun _ => map_app (wO_map _ _ _ _ _ _ _ _ _ _ _) rfl) (fun r fd4 H locs hp h => ?_)
        have h := (st_lin (st_gnis h))
        obtain ⟨rfl, hF4⟩ := hp
        have h : St E _ s H locs (wO E a k b t x q ((iv (ik))) fd4 ++ (wS E k ((hk)) ((nk)) (k1, k2, k3, k4, k5, k6, k7, k8, k9) ++ (wS E b ((iv (hr A))) ((iv (pe A))) (xs, xi, xk, xc, xl, xr, xb, yl, yr) ++ (wS E t ((ht)) ((nt)) (t1, t2, t3, t4, t5, t6, t7, t8, t9) ++ (wX E x ((iv (tn))) ((e1)) ((e2)) ((e3)) ((e4)) tp ++ (wH E (q 0) ((iv (bq 0))) ((iv (sq 0))) c0 ++ (wH E (q 1) ((iv (bq 1))) ((iv (sq 1))) c1 ++ (wH E (q 2) ((iv (bq 2))) ((iv (sq 2))) c2 ++ (wH E (q 3) ((iv (bq 3))) ((iv (sq 3))) c3 ++ []))))))))) := h
        have e9 : q_copy bq sq cq ph 3 pf 1 po pn = ((-1000000003), cq, (bump ph 2)) := by first | (unfold q_copy; (repeat (first | rw [if_pos (by omega)] | rw [if_neg (by omega)])); first | done | rfl) | (exfalso; omega)
        exact ret _ _ _ _ _ (((iv (ik)), fd4), ((hk), (nk), (k1, k2, k3, k4, k5, k6, k7, k8, k9)), ((iv (hr A)), (iv (pe A)), (xs, xi, xk, xc, xl, xr, xb, yl, yr)), ((ht), (nt), (t1, t2, t3, t4, t5, t6, t7, t8, t9)), ((iv (tn)), (e1), (e2), (e3), (e4), tp), ((iv (bq 0)), (iv (sq 0)), c0), ((iv (bq 1)), (iv (sq 1)), c1), ((iv (bq 2)), (iv (sq 2)), c2), ((iv (bq 3)), (iv (sq 3)), c3)) h (by rw [e9]; exact ⟨rfl, ⟨⟨rfl, rfl, hR, hI, hr9⟩, hK, hF4, hT, hB⟩⟩) dX4_copy_73
    · refine lv_aload_n X.1 X.2.1 dX4_copy_47 rfl (lv_at hl 2 rfl) ?_
      refine z_ldc (z := (-1000000006)) X ct_X4_197 (by decide) dX4_copy_48 ?_
      refine z_wi (st_sing (st_nil h)) (run_V (rest := []) X (st_sing (st_nil h)) (c_X4_finding (j := 5) hF (by decide) (by decide) (by decide)) mi_X4_finding ml_X4_49 ⟨Nat.le_of_ble_eq_true rfl, Nat.le_of_ble_eq_true rfl⟩ ⟨rfl, rfl⟩ (Seg.mk' _ _) 3 0 rfl rfl rfl rfl hl.1 rfl (Nat.le_of_ble_eq_true rfl) ⟨Nat.zero_le _, Nat.zero_le _⟩ dX4_copy_50) (fun _ => map_app (wO_map _ _ _ _ _ _ _ _ _ _ _) rfl) (fun r fd5 H locs hp h => ?_)
      have h := (st_lin (st_gnis h))
      obtain ⟨rfl, hF5⟩ := hp
      have h : St E _ s H locs (wO E a k b t x q ((iv (ik))) fd5 ++ (wS E k ((hk)) ((nk)) (k1, k2, k3, k4, k5, k6, k7, k8, k9) ++ (wS E b ((iv (hr A))) ((iv (pe A))) (xs, xi, xk, xc, xl, xr, xb, yl, yr) ++ (wS E t ((ht)) ((nt)) (t1, t2, t3, t4, t5, t6, t7, t8, t9) ++ (wX E x ((iv (tn))) ((e1)) ((e2)) ((e3)) ((e4)) tp ++ (wH E (q 0) ((iv (bq 0))) ((iv (sq 0))) c0 ++ (wH E (q 1) ((iv (bq 1))) ((iv (sq 1))) c1 ++ (wH E (q 2) ((iv (bq 2))) ((iv (sq 2))) c2 ++ (wH E (q 3) ((iv (bq 3))) ((iv (sq 3))) c3 ++ []))))))))) := h
      have e9 : q_copy bq sq cq ph 3 pf 1 po pn = ((-1000000006), cq, (bump ph 5)) := by first | (unfold q_copy; (repeat (first | rw [if_pos (by omega)] | rw [if_neg (by omega)])); first | done | rfl) | (exfalso; omega)
      exact ret _ _ _ _ _ (((iv (ik)), fd5), ((hk), (nk), (k1, k2, k3, k4, k5, k6, k7, k8, k9)), ((iv (hr A)), (iv (pe A)), (xs, xi, xk, xc, xl, xr, xb, yl, yr)), ((ht), (nt), (t1, t2, t3, t4, t5, t6, t7, t8, t9)), ((iv (tn)), (e1), (e2), (e3), (e4), tp), ((iv (bq 0)), (iv (sq 0)), c0), ((iv (bq 1)), (iv (sq 1)), c1), ((iv (bq 2)), (iv (sq 2)), c2), ((iv (bq 3)), (iv (sq 3)), c3)) h (by rw [e9]; exact ⟨rfl, ⟨⟨rfl, rfl, hR, hI, hr9⟩, hK, hF5, hT, hB⟩⟩) dX4_copy_53

set_option maxHeartbeats 4000000 in
theorem c_X4_copy_3_2 (hS : RepC (((iv (ik)), fd), ((hk), (nk), (k1, k2, k3, k4, k5, k6, k7, k8, k9)), ((iv (hr A)), (iv (pe A)), (xs, xi, xk, xc, xl, xr, xb, yl, yr)), ((ht), (nt), (t1, t2, t3, t4, t5, t6, t7, t8, t9)), ((iv (tn)), (e1), (e2), (e3), (e4), tp), ((iv (bq 0)), (iv (sq 0)), c0), ((iv (bq 1)), (iv (sq 1)), c1), ((iv (bq 2)), (iv (sq 2)), c2), ((iv (bq 3)), (iv (sq 3)), c3)) (A, K, ik, ph, tq, tn, bq, sq, cq)) {pf : Int} (r_pf : r32 pf) {po : Int} (r_po : r32 po) {pn : Int} (r_pn : r32 pn) : MI (S := Tc) E l yX4_copy cX4_copy 8 (some FieldType.int) (rmk 2 44) (wO E a k b t x q ((iv (ik))) fd ++ (wS E k ((hk)) ((nk)) (k1, k2, k3, k4, k5, k6, k7, k8, k9) ++ (wS E b ((iv (hr A))) ((iv (pe A))) (xs, xi, xk, xc, xl, xr, xb, yl, yr) ++ (wS E t ((ht)) ((nt)) (t1, t2, t3, t4, t5, t6, t7, t8, t9) ++ (wX E x ((iv (tn))) ((e1)) ((e2)) ((e3)) ((e4)) tp ++ (wH E (q 0) ((iv (bq 0))) ((iv (sq 0))) c0 ++ (wH E (q 1) ((iv (bq 1))) ((iv (sq 1))) c1 ++ (wH E (q 2) ((iv (bq 2))) ((iv (sq 2))) c2 ++ (wH E (q 3) ((iv (bq 3))) ((iv (sq 3))) c3 ++ []))))))))) [.ref (a 0), .int (iv (3)), .int (iv (pf)), .int (iv (2)), .int (iv (po)), .int (iv (pn))] (fun r u => r = iv ((q_copy bq sq cq ph 3 pf 2 po pn).1) ∧ RepC u (A, K, ik, (q_copy bq sq cq ph 3 pf 2 po pn).2.2, tq, tn, bq, sq, (q_copy bq sq cq ph 3 pf 2 po pn).2.1)) (fun u => wT E a k b t x q u) := by
  refine goI (S := Tc) (post := fun r u => r = iv ((q_copy bq sq cq ph 3 pf 2 po pn).1) ∧ RepC u (A, K, ik, (q_copy bq sq cq ph 3 pf 2 po pn).2.2, tq, tn, bq, sq, (q_copy bq sq cq ph 3 pf 2 po pn).2.1)) (ws' := fun u => wT E a k b t x q u) (by decide) (Nat.le_of_ble_eq_true rfl) ?_
  intro pp e s m below meth c ls args Q ret X h hl
  have hl : lv_has ls 8 [(0, .ref (a 0)), (1, .int (iv (3))), (2, .int (iv (pf))), (3, .int (iv (2))), (4, .int (iv (po))), (5, .int (iv (pn)))] := hl
  have hR : RS (xs, xi, xk, xc, xl, xr, xb, yl, yr) A := hS.1.2.2.1
  have hI : IA A := hS.1.2.2.2.1
  have hr9 : hr A ≤ 99999 := hS.1.2.2.2.2
  have hF : RF 7 fd ph := hS.2.2.1
  have hK := hS.2.1
  have hT := hS.2.2.2.1
  have hB := hS.2.2.2.2
  have hh : hr A < 1000000 := by omega
  have n8 := hI.n8
  have n0 := hI.n0
  have h0 := hI.h0
  have ht0 : 0 ≤ tn := hS.2.2.2.1.2.1
  have ht1 : tn ≤ 120 := hS.2.2.2.1.2.2.1
  have hk01 : ik = 0 ∨ ik = 1 := hS.2.1.2.1
  have hB3 : okB bq sq := hS.2.2.2.2.1
  have hH0 : RepH (iv (bq 0), iv (sq 0), c0) bq sq cq 0 := hS.2.2.2.2.2.1
  have hH1 : RepH (iv (bq 1), iv (sq 1), c1) bq sq cq 1 := hS.2.2.2.2.2.2.1
  have hH2 : RepH (iv (bq 2), iv (sq 2), c2) bq sq cq 2 := hS.2.2.2.2.2.2.2.1
  have hH3 : RepH (iv (bq 3), iv (sq 3), c3) bq sq cq 3 := hS.2.2.2.2.2.2.2.2
  have ob3 := hB3.1 3 (by omega) (by omega)
  have zb3 := hB3.2 3 (by omega) (by omega)
  have ob2 := hB3.1 2 (by omega) (by omega)
  have zb2 := hB3.2 2 (by omega) (by omega)
  have q2 := r_pf.1
  have q22 := r_pf.2
  have q4 := r_po.1
  have q42 := r_po.2
  have q5 := r_pn.1
  have q52 := r_pn.2
  refine lv_aload_n X.1 X.2.1 dX4_copy_0 rfl (lv_at hl 0 rfl) ?_
  refine lv_iload_n X.1 X.2.1 dX4_copy_1 rfl (lv_at hl 1 rfl) ?_
  refine z_pq (run_V (rest := []) X h (c_sheetAt3) mi_X4_sheetAt ml_X4_184 ⟨Nat.le_of_ble_eq_true rfl, Nat.le_of_ble_eq_true rfl⟩ ⟨rfl, rfl⟩ (Seg.rfl' _) 3 0 rfl rfl rfl rfl hl.1 rfl (Nat.le_of_ble_eq_true rfl) ⟨Nat.zero_le _, Nat.zero_le _⟩ dX4_copy_2) ?_
  refine W.eq (g2 := F0 m 5 ls [.ref (q 3 0)]) rfl ?_
  refine lv_astore (lv' := [(6, .ref (q 3 0)), (0, .ref (a 0)), (1, .int (iv (3))), (2, .int (iv (pf))), (3, .int (iv (2))), (4, .int (iv (po))), (5, .int (iv (pn)))]) X.1 X.2.1 dX4_copy_5 hl (by decide) rfl (fun ls hl => ?_)
  refine lv_aload_n X.1 X.2.1 dX4_copy_7 rfl (lv_at hl 1 rfl) ?_
  refine lv_iload_n X.1 X.2.1 dX4_copy_8 rfl (lv_at hl 4 rfl) ?_
  refine z_pq (run_V (rest := []) X h (c_sheetAt2) mi_X4_sheetAt ml_X4_184 ⟨Nat.le_of_ble_eq_true rfl, Nat.le_of_ble_eq_true rfl⟩ ⟨rfl, rfl⟩ (Seg.rfl' _) 3 0 rfl rfl rfl rfl hl.1 rfl (Nat.le_of_ble_eq_true rfl) ⟨Nat.zero_le _, Nat.zero_le _⟩ dX4_copy_9) ?_
  refine W.eq (g2 := F0 m 12 ls [.ref (q 2 0)]) rfl ?_
  refine lv_astore (lv' := [(7, .ref (q 2 0)), (6, .ref (q 3 0)), (0, .ref (a 0)), (1, .int (iv (3))), (2, .int (iv (pf))), (3, .int (iv (2))), (4, .int (iv (po))), (5, .int (iv (pn)))]) X.1 X.2.1 dX4_copy_12 hl (by decide) rfl (fun ls hl => ?_)
  refine lv_aload X.1 X.2.1 dX4_copy_14 (lv_at hl 1 rfl) ?_
  refine lv_ifnull X.1 X.2.1 dX4_copy_16 ?_
  refine lv_aload X.1 X.2.1 dX4_copy_19 (lv_at hl 0 rfl) ?_
  refine lv_ifnonnull (tgt := 31) X.1 X.2.1 dX4_copy_21 (by decide) ?_
  refine lv_aload X.1 X.2.1 dX4_copy_31 (lv_at hl 1 rfl) ?_
  refine z_pi (run_V (rest := []) X (st_sing (st_in (st_in (st_in (st_in (st_in (st_in (st_in (st_in (st_nil h)))))))))) (c_X0_isMissing (y := q 3) (bt := bq 3) ⟨by omega, by omega⟩) mi_X0_isMissing ml_X4_193 ⟨Nat.le_of_ble_eq_true rfl, Nat.le_of_ble_eq_true rfl⟩ ⟨rfl, rfl⟩ (Seg.mk' _ _) 0 41 rfl rfl rfl rfl hl.1 rfl (Nat.le_of_ble_eq_true rfl) ⟨Nat.zero_le _, Nat.zero_le _⟩ dX4_copy_33) ?_
  refine z_ifb_ne (tgt := 47) X dX4_copy_36 (by decide) (fun c_36 => ?_) (fun c_36 => ?_)
  · refine lv_aload_n X.1 X.2.1 dX4_copy_47 rfl (lv_at hl 2 rfl) ?_
    refine z_ldc (z := (-1000000006)) X ct_X4_197 (by decide) dX4_copy_48 ?_
    refine z_wi (st_sing (st_nil h)) (run_V (rest := []) X (st_sing (st_nil h)) (c_X4_finding (j := 5) hF (by decide) (by decide) (by decide)) mi_X4_finding ml_X4_49 ⟨Nat.le_of_ble_eq_true rfl, Nat.le_of_ble_eq_true rfl⟩ ⟨rfl, rfl⟩ (Seg.mk' _ _) 3 0 rfl rfl rfl rfl hl.1 rfl (Nat.le_of_ble_eq_true rfl) ⟨Nat.zero_le _, Nat.zero_le _⟩ dX4_copy_50) (fun _ => map_app (wO_map _ _ _ _ _ _ _ _ _ _ _) rfl) (fun r fd1 H locs hp h => ?_)
    have h := (st_lin (st_gnis h))
    obtain ⟨rfl, hF1⟩ := hp
    have h : St E _ s H locs (wO E a k b t x q ((iv (ik))) fd1 ++ (wS E k ((hk)) ((nk)) (k1, k2, k3, k4, k5, k6, k7, k8, k9) ++ (wS E b ((iv (hr A))) ((iv (pe A))) (xs, xi, xk, xc, xl, xr, xb, yl, yr) ++ (wS E t ((ht)) ((nt)) (t1, t2, t3, t4, t5, t6, t7, t8, t9) ++ (wX E x ((iv (tn))) ((e1)) ((e2)) ((e3)) ((e4)) tp ++ (wH E (q 0) ((iv (bq 0))) ((iv (sq 0))) c0 ++ (wH E (q 1) ((iv (bq 1))) ((iv (sq 1))) c1 ++ (wH E (q 2) ((iv (bq 2))) ((iv (sq 2))) c2 ++ (wH E (q 3) ((iv (bq 3))) ((iv (sq 3))) c3 ++ []))))))))) := h
    have e9 : q_copy bq sq cq ph 3 pf 2 po pn = ((-1000000006), cq, (bump ph 5)) := by first | (unfold q_copy; (repeat (first | rw [if_pos (by omega)] | rw [if_neg (by omega)])); first | done | rfl) | (exfalso; omega)
    exact ret _ _ _ _ _ (((iv (ik)), fd1), ((hk), (nk), (k1, k2, k3, k4, k5, k6, k7, k8, k9)), ((iv (hr A)), (iv (pe A)), (xs, xi, xk, xc, xl, xr, xb, yl, yr)), ((ht), (nt), (t1, t2, t3, t4, t5, t6, t7, t8, t9)), ((iv (tn)), (e1), (e2), (e3), (e4), tp), ((iv (bq 0)), (iv (sq 0)), c0), ((iv (bq 1)), (iv (sq 1)), c1), ((iv (bq 2)), (iv (sq 2)), c2), ((iv (bq 3)), (iv (sq 3)), c3)) h (by rw [e9]; exact ⟨rfl, ⟨⟨rfl, rfl, hR, hI, hr9⟩, hK, hF1, hT, hB⟩⟩) dX4_copy_53
  · refine lv_aload X.1 X.2.1 dX4_copy_39 (lv_at hl 0 rfl) ?_
    refine z_pi (run_V (rest := []) X (st_sing (st_in (st_in (st_in (st_in (st_in (st_in (st_in (st_nil h))))))))) (c_X0_isMissing (y := q 2) (bt := bq 2) ⟨by omega, by omega⟩) mi_X0_isMissing ml_X4_193 ⟨Nat.le_of_ble_eq_true rfl, Nat.le_of_ble_eq_true rfl⟩ ⟨rfl, rfl⟩ (Seg.mk' _ _) 0 39 rfl rfl rfl rfl hl.1 rfl (Nat.le_of_ble_eq_true rfl) ⟨Nat.zero_le _, Nat.zero_le _⟩ dX4_copy_41) ?_
    refine z_ifb_eq (tgt := 54) X dX4_copy_44 (by decide) (fun c_44 => ?_) (fun c_44 => ?_)
    · refine lv_aload X.1 X.2.1 dX4_copy_54 (lv_at hl 1 rfl) ?_
      refine z_get X h 0 41 0 rfl inX0 rfl (by decide) fl_X4_206 rfl dX4_copy_56 ?_
      refine lv_aload X.1 X.2.1 dX4_copy_59 (lv_at hl 0 rfl) ?_
      refine z_get X h 0 39 0 rfl inX0 rfl (by decide) fl_X4_206 rfl dX4_copy_61 ?_
      refine z_ic_eq (tgt := 74) X ⟨by omega, by omega⟩ ⟨by omega, by omega⟩ dX4_copy_64 (by decide) (fun c_64 => ?_) (fun c_64 => ?_)
      · refine lv_aload X.1 X.2.1 dX4_copy_74 (lv_at hl 1 rfl) ?_
        refine lv_iload_n X.1 X.2.1 dX4_copy_76 rfl (lv_at hl 4 rfl) ?_
        refine lv_iload X.1 X.2.1 dX4_copy_77 (lv_at hl 7 rfl) ?_
        refine z_pi (run_V (rest := []) X (st_sing (st_in (st_in (st_in (st_in (st_in (st_in (st_in (st_in (st_nil h)))))))))) (c_X0_has (y := q 3) (sz := sq 3) (fr := pf) (n9 := pn) (by omega) (by omega) r_pf r_pn) mi_X0_has ml_X4_209 ⟨Nat.le_of_ble_eq_true rfl, Nat.le_of_ble_eq_true rfl⟩ ⟨rfl, rfl⟩ (Seg.mk' _ _) 0 41 rfl rfl rfl rfl hl.1 rfl (Nat.le_of_ble_eq_true rfl) ⟨Nat.zero_le _, Nat.zero_le _⟩ dX4_copy_79) ?_
        refine z_ifb_eq (tgt := 97) X dX4_copy_82 (by decide) (fun c_82 => ?_) (fun c_82 => ?_)
        · refine lv_aload_n X.1 X.2.1 dX4_copy_97 rfl (lv_at hl 2 rfl) ?_
          refine z_ldc (z := (-1000000001)) X ct_X4_48 (by decide) dX4_copy_98 ?_
          refine z_wi (st_sing (st_nil h)) (run_V (rest := []) X (st_sing (st_nil h)) (c_X4_finding (j := 0) hF (by decide) (by decide) (by decide)) mi_X4_finding ml_X4_49 ⟨Nat.le_of_ble_eq_true rfl, Nat.le_of_ble_eq_true rfl⟩ ⟨rfl, rfl⟩ (Seg.mk' _ _) 3 0 rfl rfl rfl rfl hl.1 rfl (Nat.le_of_ble_eq_true rfl) ⟨Nat.zero_le _, Nat.zero_le _⟩ dX4_copy_100) (fun _ => map_app (wO_map _ _ _ _ _ _ _ _ _ _ _) rfl) (fun r fd2 H locs hp h => ?_)
          have h := (st_lin (st_gnis h))
          obtain ⟨rfl, hF2⟩ := hp
          have h : St E _ s H locs (wO E a k b t x q ((iv (ik))) fd2 ++ (wS E k ((hk)) ((nk)) (k1, k2, k3, k4, k5, k6, k7, k8, k9) ++ (wS E b ((iv (hr A))) ((iv (pe A))) (xs, xi, xk, xc, xl, xr, xb, yl, yr) ++ (wS E t ((ht)) ((nt)) (t1, t2, t3, t4, t5, t6, t7, t8, t9) ++ (wX E x ((iv (tn))) ((e1)) ((e2)) ((e3)) ((e4)) tp ++ (wH E (q 0) ((iv (bq 0))) ((iv (sq 0))) c0 ++ (wH E (q 1) ((iv (bq 1))) ((iv (sq 1))) c1 ++ (wH E (q 2) ((iv (bq 2))) ((iv (sq 2))) c2 ++ (wH E (q 3) ((iv (bq 3))) ((iv (sq 3))) c3 ++ []))))))))) := h
          have e9 : q_copy bq sq cq ph 3 pf 2 po pn = ((-1000000001), cq, (bump ph 0)) := by first | (unfold q_copy; (repeat (first | rw [if_pos (by omega)] | rw [if_neg (by omega)])); first | done | rfl) | (exfalso; omega)
          exact ret _ _ _ _ _ (((iv (ik)), fd2), ((hk), (nk), (k1, k2, k3, k4, k5, k6, k7, k8, k9)), ((iv (hr A)), (iv (pe A)), (xs, xi, xk, xc, xl, xr, xb, yl, yr)), ((ht), (nt), (t1, t2, t3, t4, t5, t6, t7, t8, t9)), ((iv (tn)), (e1), (e2), (e3), (e4), tp), ((iv (bq 0)), (iv (sq 0)), c0), ((iv (bq 1)), (iv (sq 1)), c1), ((iv (bq 2)), (iv (sq 2)), c2), ((iv (bq 3)), (iv (sq 3)), c3)) h (by rw [e9]; exact ⟨rfl, ⟨⟨rfl, rfl, hR, hI, hr9⟩, hK, hF2, hT, hB⟩⟩) dX4_copy_103
        · refine lv_aload X.1 X.2.1 dX4_copy_85 (lv_at hl 0 rfl) ?_
          refine lv_iload X.1 X.2.1 dX4_copy_87 (lv_at hl 6 rfl) ?_
          refine lv_iload X.1 X.2.1 dX4_copy_89 (lv_at hl 7 rfl) ?_
          refine z_pi (run_V (rest := []) X (st_sing (st_in (st_in (st_in (st_in (st_in (st_in (st_in (st_nil h))))))))) (c_X0_has (y := q 2) (sz := sq 2) (fr := po) (n9 := pn) (by omega) (by omega) r_po r_pn) mi_X0_has ml_X4_209 ⟨Nat.le_of_ble_eq_true rfl, Nat.le_of_ble_eq_true rfl⟩ ⟨rfl, rfl⟩ (Seg.mk' _ _) 0 39 rfl rfl rfl rfl hl.1 rfl (Nat.le_of_ble_eq_true rfl) ⟨Nat.zero_le _, Nat.zero_le _⟩ dX4_copy_91) ?_
          refine z_ifb_ne (tgt := 104) X dX4_copy_94 (by decide) (fun c_94 => ?_) (fun c_94 => ?_)
          · refine lv_aload X.1 X.2.1 dX4_copy_104 (lv_at hl 1 rfl) ?_
            refine z_get X h 0 41 2 rfl inX0 rfl (by decide) fl_X4_198 rfl dX4_copy_106 ?_
            refine lv_iload_n X.1 X.2.1 dX4_copy_109 rfl (lv_at hl 4 rfl) ?_
            refine lv_aload X.1 X.2.1 dX4_copy_110 (lv_at hl 0 rfl) ?_
            refine z_get X h 0 39 2 rfl inX0 rfl (by decide) fl_X4_198 rfl dX4_copy_112 ?_
            refine lv_iload X.1 X.2.1 dX4_copy_115 (lv_at hl 6 rfl) ?_
            refine lv_iload X.1 X.2.1 dX4_copy_117 (lv_at hl 7 rfl) ?_
            refine s_copyl X (st_in (st_in (st_in (st_in (st_in (st_in (st_in (st_nil h)))))))) rfl 42 1 rfl rfl ml_X4_212 (by omega) (by omega) (by omega) (by omega) (by omega) (by decide) (by decide) hl.1 (Nat.le_of_ble_eq_true rfl) (Nat.le_of_ble_eq_true rfl) dX4_copy_119 (fun H locs h => ?_)
            have h := (st_lin (st_out (st_out (st_out (st_out (st_out (st_out (st_out (st_eq wH_numbers h)))))))))
            have h : St E _ s H locs (wO E a k b t x q ((iv (ik))) fd ++ (wS E k ((hk)) ((nk)) (k1, k2, k3, k4, k5, k6, k7, k8, k9) ++ (wS E b ((iv (hr A))) ((iv (pe A))) (xs, xi, xk, xc, xl, xr, xb, yl, yr) ++ (wS E t ((ht)) ((nt)) (t1, t2, t3, t4, t5, t6, t7, t8, t9) ++ (wX E x ((iv (tn))) ((e1)) ((e2)) ((e3)) ((e4)) tp ++ (wH E (q 0) ((iv (bq 0))) ((iv (sq 0))) c0 ++ (wH E (q 1) ((iv (bq 1))) ((iv (sq 1))) c1 ++ (wH E (q 2) ((iv (bq 2))) ((iv (sq 2))) (va_cpy c3 c2 (pf : Int).toNat (po : Int).toNat (pn : Int).toNat) ++ (wH E (q 3) ((iv (bq 3))) ((iv (sq 3))) c3 ++ []))))))))) := h
            refine lv_iload X.1 X.2.1 dX4_copy_122 (lv_at hl 7 rfl) ?_
            have e9 : q_copy bq sq cq ph 3 pf 2 po pn = (pn, (cpy cq 3 pf 2 po 0 pn), ph) := by first | (unfold q_copy; (repeat (first | rw [if_pos (by omega)] | rw [if_neg (by omega)])); first | done | rfl) | (exfalso; omega)
            exact ret _ _ _ _ _ (((iv (ik)), fd), ((hk), (nk), (k1, k2, k3, k4, k5, k6, k7, k8, k9)), ((iv (hr A)), (iv (pe A)), (xs, xi, xk, xc, xl, xr, xb, yl, yr)), ((ht), (nt), (t1, t2, t3, t4, t5, t6, t7, t8, t9)), ((iv (tn)), (e1), (e2), (e3), (e4), tp), ((iv (bq 0)), (iv (sq 0)), c0), ((iv (bq 1)), (iv (sq 1)), c1), ((iv (bq 2)), (iv (sq 2)), (va_cpy c3 c2 (pf : Int).toNat (po : Int).toNat (pn : Int).toNat)), ((iv (bq 3)), (iv (sq 3)), c3)) h (by rw [e9]; exact ⟨rfl, ⟨⟨rfl, rfl, hR, hI, hr9⟩, hK, hF, hT, ⟨hB3, RepH_cn hH0 (by decide), RepH_cn hH1 (by decide), RepH_cp hH3 hH2 (by omega) (by omega) (by omega) (by omega), RepH_cn hH3 (by decide)⟩⟩⟩) dX4_copy_124
          · refine lv_aload_n X.1 X.2.1 dX4_copy_97 rfl (lv_at hl 2 rfl) ?_
            refine z_ldc (z := (-1000000001)) X ct_X4_48 (by decide) dX4_copy_98 ?_
            refine z_wi (st_sing (st_nil h)) (run_V (rest := []) X (st_sing (st_nil h)) (c_X4_finding (j := 0) hF (by decide) (by decide) (by decide)) mi_X4_finding ml_X4_49 ⟨Nat.le_of_ble_eq_true rfl, Nat.le_of_ble_eq_true rfl⟩ ⟨rfl, rfl⟩ (Seg.mk' _ _) 3 0 rfl rfl rfl rfl hl.1 rfl (Nat.le_of_ble_eq_true rfl) ⟨Nat.zero_le _, Nat.zero_le _⟩ dX4_copy_100) (fun _ => map_app (wO_map _ _ _ _ _ _ _ _ _ _ _) rfl) (fun r fd3 H locs hp h => ?_)
            have h := (st_lin (st_gnis h))
            obtain ⟨rfl, hF3⟩ := hp
            have h : St E _ s H locs (wO E a k b t x q ((iv (ik))) fd3 ++ (wS E k ((hk)) ((nk)) (k1, k2, k3, k4, k5, k6, k7, k8, k9) ++ (wS E b ((iv (hr A))) ((iv (pe A))) (xs, xi, xk, xc, xl, xr, xb, yl, yr) ++ (wS E t ((ht)) ((nt)) (t1, t2, t3, t4, t5, t6, t7, t8, t9) ++ (wX E x ((iv (tn))) ((e1)) ((e2)) ((e3)) ((e4)) tp ++ (wH E (q 0) ((iv (bq 0))) ((iv (sq 0))) c0 ++ (wH E (q 1) ((iv (bq 1))) ((iv (sq 1))) c1 ++ (wH E (q 2) ((iv (bq 2))) ((iv (sq 2))) c2 ++ (wH E (q 3) ((iv (bq 3))) ((iv (sq 3))) c3 ++ []))))))))) := h
            have e9 : q_copy bq sq cq ph 3 pf 2 po pn = ((-1000000001), cq, (bump ph 0)) := by first | (unfold q_copy; (repeat (first | rw [if_pos (by omega)] | rw [if_neg (by omega)])); first | done | rfl) | (exfalso; omega)
            exact ret _ _ _ _ _ (((iv (ik)), fd3), ((hk), (nk), (k1, k2, k3, k4, k5, k6, k7, k8, k9)), ((iv (hr A)), (iv (pe A)), (xs, xi, xk, xc, xl, xr, xb, yl, yr)), ((ht), (nt), (t1, t2, t3, t4, t5, t6, t7, t8, t9)), ((iv (tn)), (e1), (e2), (e3), (e4), tp), ((iv (bq 0)), (iv (sq 0)), c0), ((iv (bq 1)), (iv (sq 1)), c1), ((iv (bq 2)), (iv (sq 2)), c2), ((iv (bq 3)), (iv (sq 3)), c3)) h (by rw [e9]; exact ⟨rfl, ⟨⟨rfl, rfl, hR, hI, hr9⟩, hK, hF3, hT, hB⟩⟩) dX4_copy_103
      · refine lv_aload_n X.1 X.2.1 dX4_copy_67 rfl (lv_at hl 2 rfl) ?_
        refine z_ldc (z := (-1000000003)) X ct_X4_127 (by decide) dX4_copy_68 ?_
        refine z_wi (st_sing (st_nil h)) (run_V (rest := []) X (st_sing (st_nil h)) (c_X4_finding (j := 2) hF (by decide) (by decide) (by decide)) mi_X4_finding ml_X4_49 ⟨Nat.le_of_ble_eq_true rfl, Nat.le_of_ble_eq_true rfl⟩ ⟨rfl, rfl⟩ (Seg.mk' _ _) 3 0 rfl rfl rfl rfl hl.1 rfl (Nat.le_of_ble_eq_true rfl) ⟨Nat.zero_le _, Nat.zero_le _⟩ dX4_copy_70) (fun _ => map_app (wO_map _ _ _ _ _ _ _ _ _ _ _) rfl) (fun r fd4 H locs hp h => ?_)
        have h := (st_lin (st_gnis h))
        obtain ⟨rfl, hF4⟩ := hp
        have h : St E _ s H locs (wO E a k b t x q ((iv (ik))) fd4 ++ (wS E k ((hk)) ((nk)) (k1, k2, k3, k4, k5, k6, k7, k8, k9) ++ (wS E b ((iv (hr A))) ((iv (pe A))) (xs, xi, xk, xc, xl, xr, xb, yl, yr) ++ (wS E t ((ht)) ((nt)) (t1, t2, t3, t4, t5, t6, t7, t8, t9) ++ (wX E x ((iv (tn))) ((e1)) ((e2)) ((e3)) ((e4)) tp ++ (wH E (q 0) ((iv (bq 0))) ((iv (sq 0))) c0 ++ (wH E (q 1) ((iv (bq 1))) ((iv (sq 1))) c1 ++ (wH E (q 2) ((iv (bq 2))) ((iv (sq 2))) c2 ++ (wH E (q 3) ((iv (bq 3))) ((iv (sq 3))) c3 ++ []))))))))) := h
        have e9 : q_copy bq sq cq ph 3 pf 2 po pn = ((-1000000003), cq, (bump ph 2)) := by first | (unfold q_copy; (repeat (first | rw [if_pos (by omega)] | rw [if_neg (by omega)])); first | done | rfl) | (exfalso; omega)
        exact ret _ _ _ _ _ (((iv (ik)), fd4), ((hk), (nk), (k1, k2, k3, k4, k5, k6, k7, k8, k9)), ((iv (hr A)), (iv (pe A)), (xs, xi, xk, xc, xl, xr, xb, yl, yr)), ((ht), (nt), (t1, t2, t3, t4, t5, t6, t7, t8, t9)), ((iv (tn)), (e1), (e2), (e3), (e4), tp), ((iv (bq 0)), (iv (sq 0)), c0), ((iv (bq 1)), (iv (sq 1)), c1), ((iv (bq 2)), (iv (sq 2)), c2), ((iv (bq 3)), (iv (sq 3)), c3)) h (by rw [e9]; exact ⟨rfl, ⟨⟨rfl, rfl, hR, hI, hr9⟩, hK, hF4, hT, hB⟩⟩) dX4_copy_73
    · refine lv_aload_n X.1 X.2.1 dX4_copy_47 rfl (lv_at hl 2 rfl) ?_
      refine z_ldc (z := (-1000000006)) X ct_X4_197 (by decide) dX4_copy_48 ?_
      refine z_wi (st_sing (st_nil h)) (run_V (rest := []) X (st_sing (st_nil h)) (c_X4_finding (j := 5) hF (by decide) (by decide) (by decide)) mi_X4_finding ml_X4_49 ⟨Nat.le_of_ble_eq_true rfl, Nat.le_of_ble_eq_true rfl⟩ ⟨rfl, rfl⟩ (Seg.mk' _ _) 3 0 rfl rfl rfl rfl hl.1 rfl (Nat.le_of_ble_eq_true rfl) ⟨Nat.zero_le _, Nat.zero_le _⟩ dX4_copy_50) (fun _ => map_app (wO_map _ _ _ _ _ _ _ _ _ _ _) rfl) (fun r fd5 H locs hp h => ?_)
      have h := (st_lin (st_gnis h))
      obtain ⟨rfl, hF5⟩ := hp
      have h : St E _ s H locs (wO E a k b t x q ((iv (ik))) fd5 ++ (wS E k ((hk)) ((nk)) (k1, k2, k3, k4, k5, k6, k7, k8, k9) ++ (wS E b ((iv (hr A))) ((iv (pe A))) (xs, xi, xk, xc, xl, xr, xb, yl, yr) ++ (wS E t ((ht)) ((nt)) (t1, t2, t3, t4, t5, t6, t7, t8, t9) ++ (wX E x ((iv (tn))) ((e1)) ((e2)) ((e3)) ((e4)) tp ++ (wH E (q 0) ((iv (bq 0))) ((iv (sq 0))) c0 ++ (wH E (q 1) ((iv (bq 1))) ((iv (sq 1))) c1 ++ (wH E (q 2) ((iv (bq 2))) ((iv (sq 2))) c2 ++ (wH E (q 3) ((iv (bq 3))) ((iv (sq 3))) c3 ++ []))))))))) := h
      have e9 : q_copy bq sq cq ph 3 pf 2 po pn = ((-1000000006), cq, (bump ph 5)) := by first | (unfold q_copy; (repeat (first | rw [if_pos (by omega)] | rw [if_neg (by omega)])); first | done | rfl) | (exfalso; omega)
      exact ret _ _ _ _ _ (((iv (ik)), fd5), ((hk), (nk), (k1, k2, k3, k4, k5, k6, k7, k8, k9)), ((iv (hr A)), (iv (pe A)), (xs, xi, xk, xc, xl, xr, xb, yl, yr)), ((ht), (nt), (t1, t2, t3, t4, t5, t6, t7, t8, t9)), ((iv (tn)), (e1), (e2), (e3), (e4), tp), ((iv (bq 0)), (iv (sq 0)), c0), ((iv (bq 1)), (iv (sq 1)), c1), ((iv (bq 2)), (iv (sq 2)), c2), ((iv (bq 3)), (iv (sq 3)), c3)) h (by rw [e9]; exact ⟨rfl, ⟨⟨rfl, rfl, hR, hI, hr9⟩, hK, hF5, hT, hB⟩⟩) dX4_copy_53

set_option maxHeartbeats 4000000 in
theorem c_X4_copy_3_3 (hS : RepC (((iv (ik)), fd), ((hk), (nk), (k1, k2, k3, k4, k5, k6, k7, k8, k9)), ((iv (hr A)), (iv (pe A)), (xs, xi, xk, xc, xl, xr, xb, yl, yr)), ((ht), (nt), (t1, t2, t3, t4, t5, t6, t7, t8, t9)), ((iv (tn)), (e1), (e2), (e3), (e4), tp), ((iv (bq 0)), (iv (sq 0)), c0), ((iv (bq 1)), (iv (sq 1)), c1), ((iv (bq 2)), (iv (sq 2)), c2), ((iv (bq 3)), (iv (sq 3)), c3)) (A, K, ik, ph, tq, tn, bq, sq, cq)) {pf : Int} (r_pf : r32 pf) {po : Int} (r_po : r32 po) {pn : Int} (r_pn : r32 pn) : MI (S := Tc) E l yX4_copy cX4_copy 8 (some FieldType.int) (rmk 2 44) (wO E a k b t x q ((iv (ik))) fd ++ (wS E k ((hk)) ((nk)) (k1, k2, k3, k4, k5, k6, k7, k8, k9) ++ (wS E b ((iv (hr A))) ((iv (pe A))) (xs, xi, xk, xc, xl, xr, xb, yl, yr) ++ (wS E t ((ht)) ((nt)) (t1, t2, t3, t4, t5, t6, t7, t8, t9) ++ (wX E x ((iv (tn))) ((e1)) ((e2)) ((e3)) ((e4)) tp ++ (wH E (q 0) ((iv (bq 0))) ((iv (sq 0))) c0 ++ (wH E (q 1) ((iv (bq 1))) ((iv (sq 1))) c1 ++ (wH E (q 2) ((iv (bq 2))) ((iv (sq 2))) c2 ++ (wH E (q 3) ((iv (bq 3))) ((iv (sq 3))) c3 ++ []))))))))) [.ref (a 0), .int (iv (3)), .int (iv (pf)), .int (iv (3)), .int (iv (po)), .int (iv (pn))] (fun r u => r = iv ((q_copy bq sq cq ph 3 pf 3 po pn).1) ∧ RepC u (A, K, ik, (q_copy bq sq cq ph 3 pf 3 po pn).2.2, tq, tn, bq, sq, (q_copy bq sq cq ph 3 pf 3 po pn).2.1)) (fun u => wT E a k b t x q u) := by
  refine goI (S := Tc) (post := fun r u => r = iv ((q_copy bq sq cq ph 3 pf 3 po pn).1) ∧ RepC u (A, K, ik, (q_copy bq sq cq ph 3 pf 3 po pn).2.2, tq, tn, bq, sq, (q_copy bq sq cq ph 3 pf 3 po pn).2.1)) (ws' := fun u => wT E a k b t x q u) (by decide) (Nat.le_of_ble_eq_true rfl) ?_
  intro pp e s m below meth c ls args Q ret X h hl
  have hl : lv_has ls 8 [(0, .ref (a 0)), (1, .int (iv (3))), (2, .int (iv (pf))), (3, .int (iv (3))), (4, .int (iv (po))), (5, .int (iv (pn)))] := hl
  have hR : RS (xs, xi, xk, xc, xl, xr, xb, yl, yr) A := hS.1.2.2.1
  have hI : IA A := hS.1.2.2.2.1
  have hr9 : hr A ≤ 99999 := hS.1.2.2.2.2
  have hF : RF 7 fd ph := hS.2.2.1
  have hK := hS.2.1
  have hT := hS.2.2.2.1
  have hB := hS.2.2.2.2
  have hh : hr A < 1000000 := by omega
  have n8 := hI.n8
  have n0 := hI.n0
  have h0 := hI.h0
  have ht0 : 0 ≤ tn := hS.2.2.2.1.2.1
  have ht1 : tn ≤ 120 := hS.2.2.2.1.2.2.1
  have hk01 : ik = 0 ∨ ik = 1 := hS.2.1.2.1
  have hB3 : okB bq sq := hS.2.2.2.2.1
  have hH0 : RepH (iv (bq 0), iv (sq 0), c0) bq sq cq 0 := hS.2.2.2.2.2.1
  have hH1 : RepH (iv (bq 1), iv (sq 1), c1) bq sq cq 1 := hS.2.2.2.2.2.2.1
  have hH2 : RepH (iv (bq 2), iv (sq 2), c2) bq sq cq 2 := hS.2.2.2.2.2.2.2.1
  have hH3 : RepH (iv (bq 3), iv (sq 3), c3) bq sq cq 3 := hS.2.2.2.2.2.2.2.2
  have ob3 := hB3.1 3 (by omega) (by omega)
  have zb3 := hB3.2 3 (by omega) (by omega)
  have q2 := r_pf.1
  have q22 := r_pf.2
  have q4 := r_po.1
  have q42 := r_po.2
  have q5 := r_pn.1
  have q52 := r_pn.2
  refine lv_aload_n X.1 X.2.1 dX4_copy_0 rfl (lv_at hl 0 rfl) ?_
  refine lv_iload_n X.1 X.2.1 dX4_copy_1 rfl (lv_at hl 1 rfl) ?_
  refine z_pq (run_V (rest := []) X h (c_sheetAt3) mi_X4_sheetAt ml_X4_184 ⟨Nat.le_of_ble_eq_true rfl, Nat.le_of_ble_eq_true rfl⟩ ⟨rfl, rfl⟩ (Seg.rfl' _) 3 0 rfl rfl rfl rfl hl.1 rfl (Nat.le_of_ble_eq_true rfl) ⟨Nat.zero_le _, Nat.zero_le _⟩ dX4_copy_2) ?_
  refine W.eq (g2 := F0 m 5 ls [.ref (q 3 0)]) rfl ?_
  refine lv_astore (lv' := [(6, .ref (q 3 0)), (0, .ref (a 0)), (1, .int (iv (3))), (2, .int (iv (pf))), (3, .int (iv (3))), (4, .int (iv (po))), (5, .int (iv (pn)))]) X.1 X.2.1 dX4_copy_5 hl (by decide) rfl (fun ls hl => ?_)
  refine lv_aload_n X.1 X.2.1 dX4_copy_7 rfl (lv_at hl 1 rfl) ?_
  refine lv_iload_n X.1 X.2.1 dX4_copy_8 rfl (lv_at hl 4 rfl) ?_
  refine z_pq (run_V (rest := []) X h (c_sheetAt3) mi_X4_sheetAt ml_X4_184 ⟨Nat.le_of_ble_eq_true rfl, Nat.le_of_ble_eq_true rfl⟩ ⟨rfl, rfl⟩ (Seg.rfl' _) 3 0 rfl rfl rfl rfl hl.1 rfl (Nat.le_of_ble_eq_true rfl) ⟨Nat.zero_le _, Nat.zero_le _⟩ dX4_copy_9) ?_
  refine W.eq (g2 := F0 m 12 ls [.ref (q 3 0)]) rfl ?_
  refine lv_astore (lv' := [(7, .ref (q 3 0)), (6, .ref (q 3 0)), (0, .ref (a 0)), (1, .int (iv (3))), (2, .int (iv (pf))), (3, .int (iv (3))), (4, .int (iv (po))), (5, .int (iv (pn)))]) X.1 X.2.1 dX4_copy_12 hl (by decide) rfl (fun ls hl => ?_)
  refine lv_aload X.1 X.2.1 dX4_copy_14 (lv_at hl 1 rfl) ?_
  refine lv_ifnull X.1 X.2.1 dX4_copy_16 ?_
  refine lv_aload X.1 X.2.1 dX4_copy_19 (lv_at hl 0 rfl) ?_
  refine lv_ifnonnull (tgt := 31) X.1 X.2.1 dX4_copy_21 (by decide) ?_
  refine lv_aload X.1 X.2.1 dX4_copy_31 (lv_at hl 1 rfl) ?_
  refine z_pi (run_V (rest := []) X (st_sing (st_in (st_in (st_in (st_in (st_in (st_in (st_in (st_in (st_nil h)))))))))) (c_X0_isMissing (y := q 3) (bt := bq 3) ⟨by omega, by omega⟩) mi_X0_isMissing ml_X4_193 ⟨Nat.le_of_ble_eq_true rfl, Nat.le_of_ble_eq_true rfl⟩ ⟨rfl, rfl⟩ (Seg.mk' _ _) 0 41 rfl rfl rfl rfl hl.1 rfl (Nat.le_of_ble_eq_true rfl) ⟨Nat.zero_le _, Nat.zero_le _⟩ dX4_copy_33) ?_
  refine z_ifb_ne (tgt := 47) X dX4_copy_36 (by decide) (fun c_36 => ?_) (fun c_36 => ?_)
  · refine lv_aload_n X.1 X.2.1 dX4_copy_47 rfl (lv_at hl 2 rfl) ?_
    refine z_ldc (z := (-1000000006)) X ct_X4_197 (by decide) dX4_copy_48 ?_
    refine z_wi (st_sing (st_nil h)) (run_V (rest := []) X (st_sing (st_nil h)) (c_X4_finding (j := 5) hF (by decide) (by decide) (by decide)) mi_X4_finding ml_X4_49 ⟨Nat.le_of_ble_eq_true rfl, Nat.le_of_ble_eq_true rfl⟩ ⟨rfl, rfl⟩ (Seg.mk' _ _) 3 0 rfl rfl rfl rfl hl.1 rfl (Nat.le_of_ble_eq_true rfl) ⟨Nat.zero_le _, Nat.zero_le _⟩ dX4_copy_50) (fun _ => map_app (wO_map _ _ _ _ _ _ _ _ _ _ _) rfl) (fun r fd1 H locs hp h => ?_)
    have h := (st_lin (st_gnis h))
    obtain ⟨rfl, hF1⟩ := hp
    have h : St E _ s H locs (wO E a k b t x q ((iv (ik))) fd1 ++ (wS E k ((hk)) ((nk)) (k1, k2, k3, k4, k5, k6, k7, k8, k9) ++ (wS E b ((iv (hr A))) ((iv (pe A))) (xs, xi, xk, xc, xl, xr, xb, yl, yr) ++ (wS E t ((ht)) ((nt)) (t1, t2, t3, t4, t5, t6, t7, t8, t9) ++ (wX E x ((iv (tn))) ((e1)) ((e2)) ((e3)) ((e4)) tp ++ (wH E (q 0) ((iv (bq 0))) ((iv (sq 0))) c0 ++ (wH E (q 1) ((iv (bq 1))) ((iv (sq 1))) c1 ++ (wH E (q 2) ((iv (bq 2))) ((iv (sq 2))) c2 ++ (wH E (q 3) ((iv (bq 3))) ((iv (sq 3))) c3 ++ []))))))))) := h
    have e9 : q_copy bq sq cq ph 3 pf 3 po pn = ((-1000000006), cq, (bump ph 5)) := by first | (unfold q_copy; (repeat (first | rw [if_pos (by omega)] | rw [if_neg (by omega)])); first | done | rfl) | (exfalso; omega)
    exact ret _ _ _ _ _ (((iv (ik)), fd1), ((hk), (nk), (k1, k2, k3, k4, k5, k6, k7, k8, k9)), ((iv (hr A)), (iv (pe A)), (xs, xi, xk, xc, xl, xr, xb, yl, yr)), ((ht), (nt), (t1, t2, t3, t4, t5, t6, t7, t8, t9)), ((iv (tn)), (e1), (e2), (e3), (e4), tp), ((iv (bq 0)), (iv (sq 0)), c0), ((iv (bq 1)), (iv (sq 1)), c1), ((iv (bq 2)), (iv (sq 2)), c2), ((iv (bq 3)), (iv (sq 3)), c3)) h (by rw [e9]; exact ⟨rfl, ⟨⟨rfl, rfl, hR, hI, hr9⟩, hK, hF1, hT, hB⟩⟩) dX4_copy_53
  · refine lv_aload X.1 X.2.1 dX4_copy_39 (lv_at hl 0 rfl) ?_
    refine z_pi (run_V (rest := []) X (st_sing (st_in (st_in (st_in (st_in (st_in (st_in (st_in (st_in (st_nil h)))))))))) (c_X0_isMissing (y := q 3) (bt := bq 3) ⟨by omega, by omega⟩) mi_X0_isMissing ml_X4_193 ⟨Nat.le_of_ble_eq_true rfl, Nat.le_of_ble_eq_true rfl⟩ ⟨rfl, rfl⟩ (Seg.mk' _ _) 0 41 rfl rfl rfl rfl hl.1 rfl (Nat.le_of_ble_eq_true rfl) ⟨Nat.zero_le _, Nat.zero_le _⟩ dX4_copy_41) ?_
    refine z_ifb_eq (tgt := 54) X dX4_copy_44 (by decide) (fun c_44 => ?_) (fun c_44 => ?_)
    · refine lv_aload X.1 X.2.1 dX4_copy_54 (lv_at hl 1 rfl) ?_
      refine z_get X h 0 41 0 rfl inX0 rfl (by decide) fl_X4_206 rfl dX4_copy_56 ?_
      refine lv_aload X.1 X.2.1 dX4_copy_59 (lv_at hl 0 rfl) ?_
      refine z_get X h 0 41 0 rfl inX0 rfl (by decide) fl_X4_206 rfl dX4_copy_61 ?_
      refine z_ic_eq (tgt := 74) X ⟨by omega, by omega⟩ ⟨by omega, by omega⟩ dX4_copy_64 (by decide) (fun c_64 => ?_) (fun c_64 => ?_)
      · refine lv_aload X.1 X.2.1 dX4_copy_74 (lv_at hl 1 rfl) ?_
        refine lv_iload_n X.1 X.2.1 dX4_copy_76 rfl (lv_at hl 4 rfl) ?_
        refine lv_iload X.1 X.2.1 dX4_copy_77 (lv_at hl 7 rfl) ?_
        refine z_pi (run_V (rest := []) X (st_sing (st_in (st_in (st_in (st_in (st_in (st_in (st_in (st_in (st_nil h)))))))))) (c_X0_has (y := q 3) (sz := sq 3) (fr := pf) (n9 := pn) (by omega) (by omega) r_pf r_pn) mi_X0_has ml_X4_209 ⟨Nat.le_of_ble_eq_true rfl, Nat.le_of_ble_eq_true rfl⟩ ⟨rfl, rfl⟩ (Seg.mk' _ _) 0 41 rfl rfl rfl rfl hl.1 rfl (Nat.le_of_ble_eq_true rfl) ⟨Nat.zero_le _, Nat.zero_le _⟩ dX4_copy_79) ?_
        refine z_ifb_eq (tgt := 97) X dX4_copy_82 (by decide) (fun c_82 => ?_) (fun c_82 => ?_)
        · refine lv_aload_n X.1 X.2.1 dX4_copy_97 rfl (lv_at hl 2 rfl) ?_
          refine z_ldc (z := (-1000000001)) X ct_X4_48 (by decide) dX4_copy_98 ?_
          refine z_wi (st_sing (st_nil h)) (run_V (rest := []) X (st_sing (st_nil h)) (c_X4_finding (j := 0) hF (by decide) (by decide) (by decide)) mi_X4_finding ml_X4_49 ⟨Nat.le_of_ble_eq_true rfl, Nat.le_of_ble_eq_true rfl⟩ ⟨rfl, rfl⟩ (Seg.mk' _ _) 3 0 rfl rfl rfl rfl hl.1 rfl (Nat.le_of_ble_eq_true rfl) ⟨Nat.zero_le _, Nat.zero_le _⟩ dX4_copy_100) (fun _ => map_app (wO_map _ _ _ _ _ _ _ _ _ _ _) rfl) (fun r fd2 H locs hp h => ?_)
          have h := (st_lin (st_gnis h))
          obtain ⟨rfl, hF2⟩ := hp
          have h : St E _ s H locs (wO E a k b t x q ((iv (ik))) fd2 ++ (wS E k ((hk)) ((nk)) (k1, k2, k3, k4, k5, k6, k7, k8, k9) ++ (wS E b ((iv (hr A))) ((iv (pe A))) (xs, xi, xk, xc, xl, xr, xb, yl, yr) ++ (wS E t ((ht)) ((nt)) (t1, t2, t3, t4, t5, t6, t7, t8, t9) ++ (wX E x ((iv (tn))) ((e1)) ((e2)) ((e3)) ((e4)) tp ++ (wH E (q 0) ((iv (bq 0))) ((iv (sq 0))) c0 ++ (wH E (q 1) ((iv (bq 1))) ((iv (sq 1))) c1 ++ (wH E (q 2) ((iv (bq 2))) ((iv (sq 2))) c2 ++ (wH E (q 3) ((iv (bq 3))) ((iv (sq 3))) c3 ++ []))))))))) := h
          have e9 : q_copy bq sq cq ph 3 pf 3 po pn = ((-1000000001), cq, (bump ph 0)) := by first | (unfold q_copy; (repeat (first | rw [if_pos (by omega)] | rw [if_neg (by omega)])); first | done | rfl) | (exfalso; omega)
          exact ret _ _ _ _ _ (((iv (ik)), fd2), ((hk), (nk), (k1, k2, k3, k4, k5, k6, k7, k8, k9)), ((iv (hr A)), (iv (pe A)), (xs, xi, xk, xc, xl, xr, xb, yl, yr)), ((ht), (nt), (t1, t2, t3, t4, t5, t6, t7, t8, t9)), ((iv (tn)), (e1), (e2), (e3), (e4), tp), ((iv (bq 0)), (iv (sq 0)), c0), ((iv (bq 1)), (iv (sq 1)), c1), ((iv (bq 2)), (iv (sq 2)), c2), ((iv (bq 3)), (iv (sq 3)), c3)) h (by rw [e9]; exact ⟨rfl, ⟨⟨rfl, rfl, hR, hI, hr9⟩, hK, hF2, hT, hB⟩⟩) dX4_copy_103
        · refine lv_aload X.1 X.2.1 dX4_copy_85 (lv_at hl 0 rfl) ?_
          refine lv_iload X.1 X.2.1 dX4_copy_87 (lv_at hl 6 rfl) ?_
          refine lv_iload X.1 X.2.1 dX4_copy_89 (lv_at hl 7 rfl) ?_
          refine z_pi (run_V (rest := []) X (st_sing (st_in (st_in (st_in (st_in (st_in (st_in (st_in (st_in (st_nil h)))))))))) (c_X0_has (y := q 3) (sz := sq 3) (fr := po) (n9 := pn) (by omega) (by omega) r_po r_pn) mi_X0_has ml_X4_209 ⟨Nat.le_of_ble_eq_true rfl, Nat.le_of_ble_eq_true rfl⟩ ⟨rfl, rfl⟩ (Seg.mk' _ _) 0 41 rfl rfl rfl rfl hl.1 rfl (Nat.le_of_ble_eq_true rfl) ⟨Nat.zero_le _, Nat.zero_le _⟩ dX4_copy_91) ?_
          refine z_ifb_ne (tgt := 104) X dX4_copy_94 (by decide) (fun c_94 => ?_) (fun c_94 => ?_)
          · refine lv_aload X.1 X.2.1 dX4_copy_104 (lv_at hl 1 rfl) ?_
            refine z_get X h 0 41 2 rfl inX0 rfl (by decide) fl_X4_198 rfl dX4_copy_106 ?_
            refine lv_iload_n X.1 X.2.1 dX4_copy_109 rfl (lv_at hl 4 rfl) ?_
            refine lv_aload X.1 X.2.1 dX4_copy_110 (lv_at hl 0 rfl) ?_
            refine z_get X h 0 41 2 rfl inX0 rfl (by decide) fl_X4_198 rfl dX4_copy_112 ?_
            refine lv_iload X.1 X.2.1 dX4_copy_115 (lv_at hl 6 rfl) ?_
            refine lv_iload X.1 X.2.1 dX4_copy_117 (lv_at hl 7 rfl) ?_
            refine s_copyl X (st_in (st_in (st_in (st_in (st_in (st_in (st_in (st_in (st_nil h))))))))) rfl 42 1 rfl rfl ml_X4_212 (by omega) (by omega) (by omega) (by omega) (by omega) (by decide) (by decide) hl.1 (Nat.le_of_ble_eq_true rfl) (Nat.le_of_ble_eq_true rfl) dX4_copy_119 (fun H locs h => ?_)
            have h := (st_lin (st_out (st_out (st_out (st_out (st_out (st_out (st_out (st_out (st_eq wH_numbers h))))))))))
            have h : St E _ s H locs (wO E a k b t x q ((iv (ik))) fd ++ (wS E k ((hk)) ((nk)) (k1, k2, k3, k4, k5, k6, k7, k8, k9) ++ (wS E b ((iv (hr A))) ((iv (pe A))) (xs, xi, xk, xc, xl, xr, xb, yl, yr) ++ (wS E t ((ht)) ((nt)) (t1, t2, t3, t4, t5, t6, t7, t8, t9) ++ (wX E x ((iv (tn))) ((e1)) ((e2)) ((e3)) ((e4)) tp ++ (wH E (q 0) ((iv (bq 0))) ((iv (sq 0))) c0 ++ (wH E (q 1) ((iv (bq 1))) ((iv (sq 1))) c1 ++ (wH E (q 2) ((iv (bq 2))) ((iv (sq 2))) c2 ++ (wH E (q 3) ((iv (bq 3))) ((iv (sq 3))) (va_cpy c3 c3 (pf : Int).toNat (po : Int).toNat (pn : Int).toNat) ++ []))))))))) := h
            refine lv_iload X.1 X.2.1 dX4_copy_122 (lv_at hl 7 rfl) ?_
            have e9 : q_copy bq sq cq ph 3 pf 3 po pn = (pn, (cpy cq 3 pf 3 po 0 pn), ph) := by first | (unfold q_copy; (repeat (first | rw [if_pos (by omega)] | rw [if_neg (by omega)])); first | done | rfl) | (exfalso; omega)
            exact ret _ _ _ _ _ (((iv (ik)), fd), ((hk), (nk), (k1, k2, k3, k4, k5, k6, k7, k8, k9)), ((iv (hr A)), (iv (pe A)), (xs, xi, xk, xc, xl, xr, xb, yl, yr)), ((ht), (nt), (t1, t2, t3, t4, t5, t6, t7, t8, t9)), ((iv (tn)), (e1), (e2), (e3), (e4), tp), ((iv (bq 0)), (iv (sq 0)), c0), ((iv (bq 1)), (iv (sq 1)), c1), ((iv (bq 2)), (iv (sq 2)), c2), ((iv (bq 3)), (iv (sq 3)), (va_cpy c3 c3 (pf : Int).toNat (po : Int).toNat (pn : Int).toNat))) h (by rw [e9]; exact ⟨rfl, ⟨⟨rfl, rfl, hR, hI, hr9⟩, hK, hF, hT, ⟨hB3, RepH_cn hH0 (by decide), RepH_cn hH1 (by decide), RepH_cn hH2 (by decide), RepH_cp hH3 hH3 (by omega) (by omega) (by omega) (by omega)⟩⟩⟩) dX4_copy_124
          · refine lv_aload_n X.1 X.2.1 dX4_copy_97 rfl (lv_at hl 2 rfl) ?_
            refine z_ldc (z := (-1000000001)) X ct_X4_48 (by decide) dX4_copy_98 ?_
            refine z_wi (st_sing (st_nil h)) (run_V (rest := []) X (st_sing (st_nil h)) (c_X4_finding (j := 0) hF (by decide) (by decide) (by decide)) mi_X4_finding ml_X4_49 ⟨Nat.le_of_ble_eq_true rfl, Nat.le_of_ble_eq_true rfl⟩ ⟨rfl, rfl⟩ (Seg.mk' _ _) 3 0 rfl rfl rfl rfl hl.1 rfl (Nat.le_of_ble_eq_true rfl) ⟨Nat.zero_le _, Nat.zero_le _⟩ dX4_copy_100) (fun _ => map_app (wO_map _ _ _ _ _ _ _ _ _ _ _) rfl) (fun r fd3 H locs hp h => ?_)
            have h := (st_lin (st_gnis h))
            obtain ⟨rfl, hF3⟩ := hp
            have h : St E _ s H locs (wO E a k b t x q ((iv (ik))) fd3 ++ (wS E k ((hk)) ((nk)) (k1, k2, k3, k4, k5, k6, k7, k8, k9) ++ (wS E b ((iv (hr A))) ((iv (pe A))) (xs, xi, xk, xc, xl, xr, xb, yl, yr) ++ (wS E t ((ht)) ((nt)) (t1, t2, t3, t4, t5, t6, t7, t8, t9) ++ (wX E x ((iv (tn))) ((e1)) ((e2)) ((e3)) ((e4)) tp ++ (wH E (q 0) ((iv (bq 0))) ((iv (sq 0))) c0 ++ (wH E (q 1) ((iv (bq 1))) ((iv (sq 1))) c1 ++ (wH E (q 2) ((iv (bq 2))) ((iv (sq 2))) c2 ++ (wH E (q 3) ((iv (bq 3))) ((iv (sq 3))) c3 ++ []))))))))) := h
            have e9 : q_copy bq sq cq ph 3 pf 3 po pn = ((-1000000001), cq, (bump ph 0)) := by first | (unfold q_copy; (repeat (first | rw [if_pos (by omega)] | rw [if_neg (by omega)])); first | done | rfl) | (exfalso; omega)
            exact ret _ _ _ _ _ (((iv (ik)), fd3), ((hk), (nk), (k1, k2, k3, k4, k5, k6, k7, k8, k9)), ((iv (hr A)), (iv (pe A)), (xs, xi, xk, xc, xl, xr, xb, yl, yr)), ((ht), (nt), (t1, t2, t3, t4, t5, t6, t7, t8, t9)), ((iv (tn)), (e1), (e2), (e3), (e4), tp), ((iv (bq 0)), (iv (sq 0)), c0), ((iv (bq 1)), (iv (sq 1)), c1), ((iv (bq 2)), (iv (sq 2)), c2), ((iv (bq 3)), (iv (sq 3)), c3)) h (by rw [e9]; exact ⟨rfl, ⟨⟨rfl, rfl, hR, hI, hr9⟩, hK, hF3, hT, hB⟩⟩) dX4_copy_103
      · refine lv_aload_n X.1 X.2.1 dX4_copy_67 rfl (lv_at hl 2 rfl) ?_
        refine z_ldc (z := (-1000000003)) X ct_X4_127 (by decide) dX4_copy_68 ?_
        refine z_wi (st_sing (st_nil h)) (run_V (rest := []) X (st_sing (st_nil h)) (c_X4_finding (j := 2) hF (by decide) (by decide) (by decide)) mi_X4_finding ml_X4_49 ⟨Nat.le_of_ble_eq_true rfl, Nat.le_of_ble_eq_true rfl⟩ ⟨rfl, rfl⟩ (Seg.mk' _ _) 3 0 rfl rfl rfl rfl hl.1 rfl (Nat.le_of_ble_eq_true rfl) ⟨Nat.zero_le _, Nat.zero_le _⟩ dX4_copy_70) (fun _ => map_app (wO_map _ _ _ _ _ _ _ _ _ _ _) rfl) (fun r fd4 H locs hp h => ?_)
        have h := (st_lin (st_gnis h))
        obtain ⟨rfl, hF4⟩ := hp
        have h : St E _ s H locs (wO E a k b t x q ((iv (ik))) fd4 ++ (wS E k ((hk)) ((nk)) (k1, k2, k3, k4, k5, k6, k7, k8, k9) ++ (wS E b ((iv (hr A))) ((iv (pe A))) (xs, xi, xk, xc, xl, xr, xb, yl, yr) ++ (wS E t ((ht)) ((nt)) (t1, t2, t3, t4, t5, t6, t7, t8, t9) ++ (wX E x ((iv (tn))) ((e1)) ((e2)) ((e3)) ((e4)) tp ++ (wH E (q 0) ((iv (bq 0))) ((iv (sq 0))) c0 ++ (wH E (q 1) ((iv (bq 1))) ((iv (sq 1))) c1 ++ (wH E (q 2) ((iv (bq 2))) ((iv (sq 2))) c2 ++ (wH E (q 3) ((iv (bq 3))) ((iv (sq 3))) c3 ++ []))))))))) := h
        have e9 : q_copy bq sq cq ph 3 pf 3 po pn = ((-1000000003), cq, (bump ph 2)) := by first | (unfold q_copy; (repeat (first | rw [if_pos (by omega)] | rw [if_neg (by omega)])); first | done | rfl) | (exfalso; omega)
        exact ret _ _ _ _ _ (((iv (ik)), fd4), ((hk), (nk), (k1, k2, k3, k4, k5, k6, k7, k8, k9)), ((iv (hr A)), (iv (pe A)), (xs, xi, xk, xc, xl, xr, xb, yl, yr)), ((ht), (nt), (t1, t2, t3, t4, t5, t6, t7, t8, t9)), ((iv (tn)), (e1), (e2), (e3), (e4), tp), ((iv (bq 0)), (iv (sq 0)), c0), ((iv (bq 1)), (iv (sq 1)), c1), ((iv (bq 2)), (iv (sq 2)), c2), ((iv (bq 3)), (iv (sq 3)), c3)) h (by rw [e9]; exact ⟨rfl, ⟨⟨rfl, rfl, hR, hI, hr9⟩, hK, hF4, hT, hB⟩⟩) dX4_copy_73
    · refine lv_aload_n X.1 X.2.1 dX4_copy_47 rfl (lv_at hl 2 rfl) ?_
      refine z_ldc (z := (-1000000006)) X ct_X4_197 (by decide) dX4_copy_48 ?_
      refine z_wi (st_sing (st_nil h)) (run_V (rest := []) X (st_sing (st_nil h)) (c_X4_finding (j := 5) hF (by decide) (by decide) (by decide)) mi_X4_finding ml_X4_49 ⟨Nat.le_of_ble_eq_true rfl, Nat.le_of_ble_eq_true rfl⟩ ⟨rfl, rfl⟩ (Seg.mk' _ _) 3 0 rfl rfl rfl rfl hl.1 rfl (Nat.le_of_ble_eq_true rfl) ⟨Nat.zero_le _, Nat.zero_le _⟩ dX4_copy_50) (fun _ => map_app (wO_map _ _ _ _ _ _ _ _ _ _ _) rfl) (fun r fd5 H locs hp h => ?_)
      have h := (st_lin (st_gnis h))
      obtain ⟨rfl, hF5⟩ := hp
      have h : St E _ s H locs (wO E a k b t x q ((iv (ik))) fd5 ++ (wS E k ((hk)) ((nk)) (k1, k2, k3, k4, k5, k6, k7, k8, k9) ++ (wS E b ((iv (hr A))) ((iv (pe A))) (xs, xi, xk, xc, xl, xr, xb, yl, yr) ++ (wS E t ((ht)) ((nt)) (t1, t2, t3, t4, t5, t6, t7, t8, t9) ++ (wX E x ((iv (tn))) ((e1)) ((e2)) ((e3)) ((e4)) tp ++ (wH E (q 0) ((iv (bq 0))) ((iv (sq 0))) c0 ++ (wH E (q 1) ((iv (bq 1))) ((iv (sq 1))) c1 ++ (wH E (q 2) ((iv (bq 2))) ((iv (sq 2))) c2 ++ (wH E (q 3) ((iv (bq 3))) ((iv (sq 3))) c3 ++ []))))))))) := h
      have e9 : q_copy bq sq cq ph 3 pf 3 po pn = ((-1000000006), cq, (bump ph 5)) := by first | (unfold q_copy; (repeat (first | rw [if_pos (by omega)] | rw [if_neg (by omega)])); first | done | rfl) | (exfalso; omega)
      exact ret _ _ _ _ _ (((iv (ik)), fd5), ((hk), (nk), (k1, k2, k3, k4, k5, k6, k7, k8, k9)), ((iv (hr A)), (iv (pe A)), (xs, xi, xk, xc, xl, xr, xb, yl, yr)), ((ht), (nt), (t1, t2, t3, t4, t5, t6, t7, t8, t9)), ((iv (tn)), (e1), (e2), (e3), (e4), tp), ((iv (bq 0)), (iv (sq 0)), c0), ((iv (bq 1)), (iv (sq 1)), c1), ((iv (bq 2)), (iv (sq 2)), c2), ((iv (bq 3)), (iv (sq 3)), c3)) h (by rw [e9]; exact ⟨rfl, ⟨⟨rfl, rfl, hR, hI, hr9⟩, hK, hF5, hT, hB⟩⟩) dX4_copy_53

set_option maxHeartbeats 4000000 in
theorem c_X4_copy_3_N (hS : RepC (((iv (ik)), fd), ((hk), (nk), (k1, k2, k3, k4, k5, k6, k7, k8, k9)), ((iv (hr A)), (iv (pe A)), (xs, xi, xk, xc, xl, xr, xb, yl, yr)), ((ht), (nt), (t1, t2, t3, t4, t5, t6, t7, t8, t9)), ((iv (tn)), (e1), (e2), (e3), (e4), tp), ((iv (bq 0)), (iv (sq 0)), c0), ((iv (bq 1)), (iv (sq 1)), c1), ((iv (bq 2)), (iv (sq 2)), c2), ((iv (bq 3)), (iv (sq 3)), c3)) (A, K, ik, ph, tq, tn, bq, sq, cq)) {pf : Int} (r_pf : r32 pf) {pt : Int} (r_pt : r32 pt) {po : Int} (r_po : r32 po) {pn : Int} (r_pn : r32 pn) (hot : pt < 0 ∨ 3 < pt) : MI (S := Tc) E l yX4_copy cX4_copy 8 (some FieldType.int) (rmk 2 44) (wO E a k b t x q ((iv (ik))) fd ++ (wS E k ((hk)) ((nk)) (k1, k2, k3, k4, k5, k6, k7, k8, k9) ++ (wS E b ((iv (hr A))) ((iv (pe A))) (xs, xi, xk, xc, xl, xr, xb, yl, yr) ++ (wS E t ((ht)) ((nt)) (t1, t2, t3, t4, t5, t6, t7, t8, t9) ++ (wX E x ((iv (tn))) ((e1)) ((e2)) ((e3)) ((e4)) tp ++ (wH E (q 0) ((iv (bq 0))) ((iv (sq 0))) c0 ++ (wH E (q 1) ((iv (bq 1))) ((iv (sq 1))) c1 ++ (wH E (q 2) ((iv (bq 2))) ((iv (sq 2))) c2 ++ (wH E (q 3) ((iv (bq 3))) ((iv (sq 3))) c3 ++ []))))))))) [.ref (a 0), .int (iv (3)), .int (iv (pf)), .int (iv (pt)), .int (iv (po)), .int (iv (pn))] (fun r u => r = iv ((q_copy bq sq cq ph 3 pf pt po pn).1) ∧ RepC u (A, K, ik, (q_copy bq sq cq ph 3 pf pt po pn).2.2, tq, tn, bq, sq, (q_copy bq sq cq ph 3 pf pt po pn).2.1)) (fun u => wT E a k b t x q u) := by
  refine goI (S := Tc) (post := fun r u => r = iv ((q_copy bq sq cq ph 3 pf pt po pn).1) ∧ RepC u (A, K, ik, (q_copy bq sq cq ph 3 pf pt po pn).2.2, tq, tn, bq, sq, (q_copy bq sq cq ph 3 pf pt po pn).2.1)) (ws' := fun u => wT E a k b t x q u) (by decide) (Nat.le_of_ble_eq_true rfl) ?_
  intro pp e s m below meth c ls args Q ret X h hl
  have hl : lv_has ls 8 [(0, .ref (a 0)), (1, .int (iv (3))), (2, .int (iv (pf))), (3, .int (iv (pt))), (4, .int (iv (po))), (5, .int (iv (pn)))] := hl
  have hR : RS (xs, xi, xk, xc, xl, xr, xb, yl, yr) A := hS.1.2.2.1
  have hI : IA A := hS.1.2.2.2.1
  have hr9 : hr A ≤ 99999 := hS.1.2.2.2.2
  have hF : RF 7 fd ph := hS.2.2.1
  have hK := hS.2.1
  have hT := hS.2.2.2.1
  have hB := hS.2.2.2.2
  have hh : hr A < 1000000 := by omega
  have n8 := hI.n8
  have n0 := hI.n0
  have h0 := hI.h0
  have ht0 : 0 ≤ tn := hS.2.2.2.1.2.1
  have ht1 : tn ≤ 120 := hS.2.2.2.1.2.2.1
  have hk01 : ik = 0 ∨ ik = 1 := hS.2.1.2.1
  have hB3 : okB bq sq := hS.2.2.2.2.1
  have hH0 : RepH (iv (bq 0), iv (sq 0), c0) bq sq cq 0 := hS.2.2.2.2.2.1
  have hH1 : RepH (iv (bq 1), iv (sq 1), c1) bq sq cq 1 := hS.2.2.2.2.2.2.1
  have hH2 : RepH (iv (bq 2), iv (sq 2), c2) bq sq cq 2 := hS.2.2.2.2.2.2.2.1
  have hH3 : RepH (iv (bq 3), iv (sq 3), c3) bq sq cq 3 := hS.2.2.2.2.2.2.2.2
  have ob3 := hB3.1 3 (by omega) (by omega)
  have zb3 := hB3.2 3 (by omega) (by omega)
  have q2 := r_pf.1
  have q22 := r_pf.2
  have q4 := r_po.1
  have q42 := r_po.2
  have q5 := r_pn.1
  have q52 := r_pn.2
  refine lv_aload_n X.1 X.2.1 dX4_copy_0 rfl (lv_at hl 0 rfl) ?_
  refine lv_iload_n X.1 X.2.1 dX4_copy_1 rfl (lv_at hl 1 rfl) ?_
  refine z_pq (run_V (rest := []) X h (c_sheetAt3) mi_X4_sheetAt ml_X4_184 ⟨Nat.le_of_ble_eq_true rfl, Nat.le_of_ble_eq_true rfl⟩ ⟨rfl, rfl⟩ (Seg.rfl' _) 3 0 rfl rfl rfl rfl hl.1 rfl (Nat.le_of_ble_eq_true rfl) ⟨Nat.zero_le _, Nat.zero_le _⟩ dX4_copy_2) ?_
  refine W.eq (g2 := F0 m 5 ls [.ref (q 3 0)]) rfl ?_
  refine lv_astore (lv' := [(6, .ref (q 3 0)), (0, .ref (a 0)), (1, .int (iv (3))), (2, .int (iv (pf))), (3, .int (iv (pt))), (4, .int (iv (po))), (5, .int (iv (pn)))]) X.1 X.2.1 dX4_copy_5 hl (by decide) rfl (fun ls hl => ?_)
  refine lv_aload_n X.1 X.2.1 dX4_copy_7 rfl (lv_at hl 1 rfl) ?_
  refine lv_iload_n X.1 X.2.1 dX4_copy_8 rfl (lv_at hl 4 rfl) ?_
  refine z_pq (run_V (rest := []) X h (c_sheetAtN (s9 := pt) r_pt (by omega)) mi_X4_sheetAt ml_X4_184 ⟨Nat.le_of_ble_eq_true rfl, Nat.le_of_ble_eq_true rfl⟩ ⟨rfl, rfl⟩ (Seg.rfl' _) 3 0 rfl rfl rfl rfl hl.1 rfl (Nat.le_of_ble_eq_true rfl) ⟨Nat.zero_le _, Nat.zero_le _⟩ dX4_copy_9) ?_
  refine W.eq (g2 := F0 m 12 ls [.null]) rfl ?_
  refine lv_astoreN (lv' := [(7, .null), (6, .ref (q 3 0)), (0, .ref (a 0)), (1, .int (iv (3))), (2, .int (iv (pf))), (3, .int (iv (pt))), (4, .int (iv (po))), (5, .int (iv (pn)))]) X.1 X.2.1 dX4_copy_12 hl (by decide) rfl (fun ls hl => ?_)
  refine lv_aload X.1 X.2.1 dX4_copy_14 (lv_at hl 1 rfl) ?_
  refine lv_ifnull X.1 X.2.1 dX4_copy_16 ?_
  refine lv_aloadN X.1 X.2.1 dX4_copy_19 (lv_at hl 0 rfl) ?_
  refine lv_ifnonnullN X.1 X.2.1 dX4_copy_21 ?_
  refine lv_aload_n X.1 X.2.1 dX4_copy_24 rfl (lv_at hl 2 rfl) ?_
  refine z_ldc (z := (-1000000001)) X ct_X4_48 (by decide) dX4_copy_25 ?_
  refine z_wi (st_sing (st_nil h)) (run_V (rest := []) X (st_sing (st_nil h)) (c_X4_finding (j := 0) hF (by decide) (by decide) (by decide)) mi_X4_finding ml_X4_49 ⟨Nat.le_of_ble_eq_true rfl, Nat.le_of_ble_eq_true rfl⟩ ⟨rfl, rfl⟩ (Seg.mk' _ _) 3 0 rfl rfl rfl rfl hl.1 rfl (Nat.le_of_ble_eq_true rfl) ⟨Nat.zero_le _, Nat.zero_le _⟩ dX4_copy_27) (fun _ => map_app (wO_map _ _ _ _ _ _ _ _ _ _ _) rfl) (fun r fd1 H locs hp h => ?_)
  have h := (st_lin (st_gnis h))
  obtain ⟨rfl, hF1⟩ := hp
  have h : St E _ s H locs (wO E a k b t x q ((iv (ik))) fd1 ++ (wS E k ((hk)) ((nk)) (k1, k2, k3, k4, k5, k6, k7, k8, k9) ++ (wS E b ((iv (hr A))) ((iv (pe A))) (xs, xi, xk, xc, xl, xr, xb, yl, yr) ++ (wS E t ((ht)) ((nt)) (t1, t2, t3, t4, t5, t6, t7, t8, t9) ++ (wX E x ((iv (tn))) ((e1)) ((e2)) ((e3)) ((e4)) tp ++ (wH E (q 0) ((iv (bq 0))) ((iv (sq 0))) c0 ++ (wH E (q 1) ((iv (bq 1))) ((iv (sq 1))) c1 ++ (wH E (q 2) ((iv (bq 2))) ((iv (sq 2))) c2 ++ (wH E (q 3) ((iv (bq 3))) ((iv (sq 3))) c3 ++ []))))))))) := h
  have e9 : q_copy bq sq cq ph 3 pf pt po pn = ((-1000000001), cq, (bump ph 0)) := by first | (unfold q_copy; (repeat (first | rw [if_pos (by omega)] | rw [if_neg (by omega)])); first | done | rfl) | (exfalso; omega)
  exact ret _ _ _ _ _ (((iv (ik)), fd1), ((hk), (nk), (k1, k2, k3, k4, k5, k6, k7, k8, k9)), ((iv (hr A)), (iv (pe A)), (xs, xi, xk, xc, xl, xr, xb, yl, yr)), ((ht), (nt), (t1, t2, t3, t4, t5, t6, t7, t8, t9)), ((iv (tn)), (e1), (e2), (e3), (e4), tp), ((iv (bq 0)), (iv (sq 0)), c0), ((iv (bq 1)), (iv (sq 1)), c1), ((iv (bq 2)), (iv (sq 2)), c2), ((iv (bq 3)), (iv (sq 3)), c3)) h (by rw [e9]; exact ⟨rfl, ⟨⟨rfl, rfl, hR, hI, hr9⟩, hK, hF1, hT, hB⟩⟩) dX4_copy_30

set_option maxHeartbeats 4000000 in
theorem c_X4_copy_N_0 (hS : RepC (((iv (ik)), fd), ((hk), (nk), (k1, k2, k3, k4, k5, k6, k7, k8, k9)), ((iv (hr A)), (iv (pe A)), (xs, xi, xk, xc, xl, xr, xb, yl, yr)), ((ht), (nt), (t1, t2, t3, t4, t5, t6, t7, t8, t9)), ((iv (tn)), (e1), (e2), (e3), (e4), tp), ((iv (bq 0)), (iv (sq 0)), c0), ((iv (bq 1)), (iv (sq 1)), c1), ((iv (bq 2)), (iv (sq 2)), c2), ((iv (bq 3)), (iv (sq 3)), c3)) (A, K, ik, ph, tq, tn, bq, sq, cq)) {ps : Int} (r_ps : r32 ps) {pf : Int} (r_pf : r32 pf) {po : Int} (r_po : r32 po) {pn : Int} (r_pn : r32 pn) (hos : ps < 0 ∨ 3 < ps) : MI (S := Tc) E l yX4_copy cX4_copy 8 (some FieldType.int) (rmk 2 44) (wO E a k b t x q ((iv (ik))) fd ++ (wS E k ((hk)) ((nk)) (k1, k2, k3, k4, k5, k6, k7, k8, k9) ++ (wS E b ((iv (hr A))) ((iv (pe A))) (xs, xi, xk, xc, xl, xr, xb, yl, yr) ++ (wS E t ((ht)) ((nt)) (t1, t2, t3, t4, t5, t6, t7, t8, t9) ++ (wX E x ((iv (tn))) ((e1)) ((e2)) ((e3)) ((e4)) tp ++ (wH E (q 0) ((iv (bq 0))) ((iv (sq 0))) c0 ++ (wH E (q 1) ((iv (bq 1))) ((iv (sq 1))) c1 ++ (wH E (q 2) ((iv (bq 2))) ((iv (sq 2))) c2 ++ (wH E (q 3) ((iv (bq 3))) ((iv (sq 3))) c3 ++ []))))))))) [.ref (a 0), .int (iv (ps)), .int (iv (pf)), .int (iv (0)), .int (iv (po)), .int (iv (pn))] (fun r u => r = iv ((q_copy bq sq cq ph ps pf 0 po pn).1) ∧ RepC u (A, K, ik, (q_copy bq sq cq ph ps pf 0 po pn).2.2, tq, tn, bq, sq, (q_copy bq sq cq ph ps pf 0 po pn).2.1)) (fun u => wT E a k b t x q u) := by
  refine goI (S := Tc) (post := fun r u => r = iv ((q_copy bq sq cq ph ps pf 0 po pn).1) ∧ RepC u (A, K, ik, (q_copy bq sq cq ph ps pf 0 po pn).2.2, tq, tn, bq, sq, (q_copy bq sq cq ph ps pf 0 po pn).2.1)) (ws' := fun u => wT E a k b t x q u) (by decide) (Nat.le_of_ble_eq_true rfl) ?_
  intro pp e s m below meth c ls args Q ret X h hl
  have hl : lv_has ls 8 [(0, .ref (a 0)), (1, .int (iv (ps))), (2, .int (iv (pf))), (3, .int (iv (0))), (4, .int (iv (po))), (5, .int (iv (pn)))] := hl
  have hR : RS (xs, xi, xk, xc, xl, xr, xb, yl, yr) A := hS.1.2.2.1
  have hI : IA A := hS.1.2.2.2.1
  have hr9 : hr A ≤ 99999 := hS.1.2.2.2.2
  have hF : RF 7 fd ph := hS.2.2.1
  have hK := hS.2.1
  have hT := hS.2.2.2.1
  have hB := hS.2.2.2.2
  have hh : hr A < 1000000 := by omega
  have n8 := hI.n8
  have n0 := hI.n0
  have h0 := hI.h0
  have ht0 : 0 ≤ tn := hS.2.2.2.1.2.1
  have ht1 : tn ≤ 120 := hS.2.2.2.1.2.2.1
  have hk01 : ik = 0 ∨ ik = 1 := hS.2.1.2.1
  have hB3 : okB bq sq := hS.2.2.2.2.1
  have hH0 : RepH (iv (bq 0), iv (sq 0), c0) bq sq cq 0 := hS.2.2.2.2.2.1
  have hH1 : RepH (iv (bq 1), iv (sq 1), c1) bq sq cq 1 := hS.2.2.2.2.2.2.1
  have hH2 : RepH (iv (bq 2), iv (sq 2), c2) bq sq cq 2 := hS.2.2.2.2.2.2.2.1
  have hH3 : RepH (iv (bq 3), iv (sq 3), c3) bq sq cq 3 := hS.2.2.2.2.2.2.2.2
  have ob0 := hB3.1 0 (by omega) (by omega)
  have zb0 := hB3.2 0 (by omega) (by omega)
  have q2 := r_pf.1
  have q22 := r_pf.2
  have q4 := r_po.1
  have q42 := r_po.2
  have q5 := r_pn.1
  have q52 := r_pn.2
  refine lv_aload_n X.1 X.2.1 dX4_copy_0 rfl (lv_at hl 0 rfl) ?_
  refine lv_iload_n X.1 X.2.1 dX4_copy_1 rfl (lv_at hl 1 rfl) ?_
  refine z_pq (run_V (rest := []) X h (c_sheetAtN (s9 := ps) r_ps (by omega)) mi_X4_sheetAt ml_X4_184 ⟨Nat.le_of_ble_eq_true rfl, Nat.le_of_ble_eq_true rfl⟩ ⟨rfl, rfl⟩ (Seg.rfl' _) 3 0 rfl rfl rfl rfl hl.1 rfl (Nat.le_of_ble_eq_true rfl) ⟨Nat.zero_le _, Nat.zero_le _⟩ dX4_copy_2) ?_
  refine W.eq (g2 := F0 m 5 ls [.null]) rfl ?_
  refine lv_astoreN (lv' := [(6, .null), (0, .ref (a 0)), (1, .int (iv (ps))), (2, .int (iv (pf))), (3, .int (iv (0))), (4, .int (iv (po))), (5, .int (iv (pn)))]) X.1 X.2.1 dX4_copy_5 hl (by decide) rfl (fun ls hl => ?_)
  refine lv_aload_n X.1 X.2.1 dX4_copy_7 rfl (lv_at hl 1 rfl) ?_
  refine lv_iload_n X.1 X.2.1 dX4_copy_8 rfl (lv_at hl 4 rfl) ?_
  refine z_pq (run_V (rest := []) X h (c_sheetAt0) mi_X4_sheetAt ml_X4_184 ⟨Nat.le_of_ble_eq_true rfl, Nat.le_of_ble_eq_true rfl⟩ ⟨rfl, rfl⟩ (Seg.rfl' _) 3 0 rfl rfl rfl rfl hl.1 rfl (Nat.le_of_ble_eq_true rfl) ⟨Nat.zero_le _, Nat.zero_le _⟩ dX4_copy_9) ?_
  refine W.eq (g2 := F0 m 12 ls [.ref (q 0 0)]) rfl ?_
  refine lv_astore (lv' := [(7, .ref (q 0 0)), (6, .null), (0, .ref (a 0)), (1, .int (iv (ps))), (2, .int (iv (pf))), (3, .int (iv (0))), (4, .int (iv (po))), (5, .int (iv (pn)))]) X.1 X.2.1 dX4_copy_12 hl (by decide) rfl (fun ls hl => ?_)
  refine lv_aloadN X.1 X.2.1 dX4_copy_14 (lv_at hl 1 rfl) ?_
  refine lv_ifnullN (tgt := 24) X.1 X.2.1 dX4_copy_16 (by decide) ?_
  refine lv_aload_n X.1 X.2.1 dX4_copy_24 rfl (lv_at hl 2 rfl) ?_
  refine z_ldc (z := (-1000000001)) X ct_X4_48 (by decide) dX4_copy_25 ?_
  refine z_wi (st_sing (st_nil h)) (run_V (rest := []) X (st_sing (st_nil h)) (c_X4_finding (j := 0) hF (by decide) (by decide) (by decide)) mi_X4_finding ml_X4_49 ⟨Nat.le_of_ble_eq_true rfl, Nat.le_of_ble_eq_true rfl⟩ ⟨rfl, rfl⟩ (Seg.mk' _ _) 3 0 rfl rfl rfl rfl hl.1 rfl (Nat.le_of_ble_eq_true rfl) ⟨Nat.zero_le _, Nat.zero_le _⟩ dX4_copy_27) (fun _ => map_app (wO_map _ _ _ _ _ _ _ _ _ _ _) rfl) (fun r fd1 H locs hp h => ?_)
  have h := (st_lin (st_gnis h))
  obtain ⟨rfl, hF1⟩ := hp
  have h : St E _ s H locs (wO E a k b t x q ((iv (ik))) fd1 ++ (wS E k ((hk)) ((nk)) (k1, k2, k3, k4, k5, k6, k7, k8, k9) ++ (wS E b ((iv (hr A))) ((iv (pe A))) (xs, xi, xk, xc, xl, xr, xb, yl, yr) ++ (wS E t ((ht)) ((nt)) (t1, t2, t3, t4, t5, t6, t7, t8, t9) ++ (wX E x ((iv (tn))) ((e1)) ((e2)) ((e3)) ((e4)) tp ++ (wH E (q 0) ((iv (bq 0))) ((iv (sq 0))) c0 ++ (wH E (q 1) ((iv (bq 1))) ((iv (sq 1))) c1 ++ (wH E (q 2) ((iv (bq 2))) ((iv (sq 2))) c2 ++ (wH E (q 3) ((iv (bq 3))) ((iv (sq 3))) c3 ++ []))))))))) := h
  have e9 : q_copy bq sq cq ph ps pf 0 po pn = ((-1000000001), cq, (bump ph 0)) := by first | (unfold q_copy; (repeat (first | rw [if_pos (by omega)] | rw [if_neg (by omega)])); first | done | rfl) | (exfalso; omega)
  exact ret _ _ _ _ _ (((iv (ik)), fd1), ((hk), (nk), (k1, k2, k3, k4, k5, k6, k7, k8, k9)), ((iv (hr A)), (iv (pe A)), (xs, xi, xk, xc, xl, xr, xb, yl, yr)), ((ht), (nt), (t1, t2, t3, t4, t5, t6, t7, t8, t9)), ((iv (tn)), (e1), (e2), (e3), (e4), tp), ((iv (bq 0)), (iv (sq 0)), c0), ((iv (bq 1)), (iv (sq 1)), c1), ((iv (bq 2)), (iv (sq 2)), c2), ((iv (bq 3)), (iv (sq 3)), c3)) h (by rw [e9]; exact ⟨rfl, ⟨⟨rfl, rfl, hR, hI, hr9⟩, hK, hF1, hT, hB⟩⟩) dX4_copy_30

set_option maxHeartbeats 4000000 in
theorem c_X4_copy_N_1 (hS : RepC (((iv (ik)), fd), ((hk), (nk), (k1, k2, k3, k4, k5, k6, k7, k8, k9)), ((iv (hr A)), (iv (pe A)), (xs, xi, xk, xc, xl, xr, xb, yl, yr)), ((ht), (nt), (t1, t2, t3, t4, t5, t6, t7, t8, t9)), ((iv (tn)), (e1), (e2), (e3), (e4), tp), ((iv (bq 0)), (iv (sq 0)), c0), ((iv (bq 1)), (iv (sq 1)), c1), ((iv (bq 2)), (iv (sq 2)), c2), ((iv (bq 3)), (iv (sq 3)), c3)) (A, K, ik, ph, tq, tn, bq, sq, cq)) {ps : Int} (r_ps : r32 ps) {pf : Int} (r_pf : r32 pf) {po : Int} (r_po : r32 po) {pn : Int} (r_pn : r32 pn) (hos : ps < 0 ∨ 3 < ps) : MI (S := Tc) E l yX4_copy cX4_copy 8 (some FieldType.int) (rmk 2 44) (wO E a k b t x q ((iv (ik))) fd ++ (wS E k ((hk)) ((nk)) (k1, k2, k3, k4, k5, k6, k7, k8, k9) ++ (wS E b ((iv (hr A))) ((iv (pe A))) (xs, xi, xk, xc, xl, xr, xb, yl, yr) ++ (wS E t ((ht)) ((nt)) (t1, t2, t3, t4, t5, t6, t7, t8, t9) ++ (wX E x ((iv (tn))) ((e1)) ((e2)) ((e3)) ((e4)) tp ++ (wH E (q 0) ((iv (bq 0))) ((iv (sq 0))) c0 ++ (wH E (q 1) ((iv (bq 1))) ((iv (sq 1))) c1 ++ (wH E (q 2) ((iv (bq 2))) ((iv (sq 2))) c2 ++ (wH E (q 3) ((iv (bq 3))) ((iv (sq 3))) c3 ++ []))))))))) [.ref (a 0), .int (iv (ps)), .int (iv (pf)), .int (iv (1)), .int (iv (po)), .int (iv (pn))] (fun r u => r = iv ((q_copy bq sq cq ph ps pf 1 po pn).1) ∧ RepC u (A, K, ik, (q_copy bq sq cq ph ps pf 1 po pn).2.2, tq, tn, bq, sq, (q_copy bq sq cq ph ps pf 1 po pn).2.1)) (fun u => wT E a k b t x q u) := by
  refine goI (S := Tc) (post := fun r u => r = iv ((q_copy bq sq cq ph ps pf 1 po pn).1) ∧ RepC u (A, K, ik, (q_copy bq sq cq ph ps pf 1 po pn).2.2, tq, tn, bq, sq, (q_copy bq sq cq ph ps pf 1 po pn).2.1)) (ws' := fun u => wT E a k b t x q u) (by decide) (Nat.le_of_ble_eq_true rfl) ?_
  intro pp e s m below meth c ls args Q ret X h hl
  have hl : lv_has ls 8 [(0, .ref (a 0)), (1, .int (iv (ps))), (2, .int (iv (pf))), (3, .int (iv (1))), (4, .int (iv (po))), (5, .int (iv (pn)))] := hl
  have hR : RS (xs, xi, xk, xc, xl, xr, xb, yl, yr) A := hS.1.2.2.1
  have hI : IA A := hS.1.2.2.2.1
  have hr9 : hr A ≤ 99999 := hS.1.2.2.2.2
  have hF : RF 7 fd ph := hS.2.2.1
  have hK := hS.2.1
  have hT := hS.2.2.2.1
  have hB := hS.2.2.2.2
  have hh : hr A < 1000000 := by omega
  have n8 := hI.n8
  have n0 := hI.n0
  have h0 := hI.h0
  have ht0 : 0 ≤ tn := hS.2.2.2.1.2.1
  have ht1 : tn ≤ 120 := hS.2.2.2.1.2.2.1
  have hk01 : ik = 0 ∨ ik = 1 := hS.2.1.2.1
  have hB3 : okB bq sq := hS.2.2.2.2.1
  have hH0 : RepH (iv (bq 0), iv (sq 0), c0) bq sq cq 0 := hS.2.2.2.2.2.1
  have hH1 : RepH (iv (bq 1), iv (sq 1), c1) bq sq cq 1 := hS.2.2.2.2.2.2.1
  have hH2 : RepH (iv (bq 2), iv (sq 2), c2) bq sq cq 2 := hS.2.2.2.2.2.2.2.1
  have hH3 : RepH (iv (bq 3), iv (sq 3), c3) bq sq cq 3 := hS.2.2.2.2.2.2.2.2
  have ob1 := hB3.1 1 (by omega) (by omega)
  have zb1 := hB3.2 1 (by omega) (by omega)
  have q2 := r_pf.1
  have q22 := r_pf.2
  have q4 := r_po.1
  have q42 := r_po.2
  have q5 := r_pn.1
  have q52 := r_pn.2
  refine lv_aload_n X.1 X.2.1 dX4_copy_0 rfl (lv_at hl 0 rfl) ?_
  refine lv_iload_n X.1 X.2.1 dX4_copy_1 rfl (lv_at hl 1 rfl) ?_
  refine z_pq (run_V (rest := []) X h (c_sheetAtN (s9 := ps) r_ps (by omega)) mi_X4_sheetAt ml_X4_184 ⟨Nat.le_of_ble_eq_true rfl, Nat.le_of_ble_eq_true rfl⟩ ⟨rfl, rfl⟩ (Seg.rfl' _) 3 0 rfl rfl rfl rfl hl.1 rfl (Nat.le_of_ble_eq_true rfl) ⟨Nat.zero_le _, Nat.zero_le _⟩ dX4_copy_2) ?_
  refine W.eq (g2 := F0 m 5 ls [.null]) rfl ?_
  refine lv_astoreN (lv' := [(6, .null), (0, .ref (a 0)), (1, .int (iv (ps))), (2, .int (iv (pf))), (3, .int (iv (1))), (4, .int (iv (po))), (5, .int (iv (pn)))]) X.1 X.2.1 dX4_copy_5 hl (by decide) rfl (fun ls hl => ?_)
  refine lv_aload_n X.1 X.2.1 dX4_copy_7 rfl (lv_at hl 1 rfl) ?_
  refine lv_iload_n X.1 X.2.1 dX4_copy_8 rfl (lv_at hl 4 rfl) ?_
  refine z_pq (run_V (rest := []) X h (c_sheetAt1) mi_X4_sheetAt ml_X4_184 ⟨Nat.le_of_ble_eq_true rfl, Nat.le_of_ble_eq_true rfl⟩ ⟨rfl, rfl⟩ (Seg.rfl' _) 3 0 rfl rfl rfl rfl hl.1 rfl (Nat.le_of_ble_eq_true rfl) ⟨Nat.zero_le _, Nat.zero_le _⟩ dX4_copy_9) ?_
  refine W.eq (g2 := F0 m 12 ls [.ref (q 1 0)]) rfl ?_
  refine lv_astore (lv' := [(7, .ref (q 1 0)), (6, .null), (0, .ref (a 0)), (1, .int (iv (ps))), (2, .int (iv (pf))), (3, .int (iv (1))), (4, .int (iv (po))), (5, .int (iv (pn)))]) X.1 X.2.1 dX4_copy_12 hl (by decide) rfl (fun ls hl => ?_)
  refine lv_aloadN X.1 X.2.1 dX4_copy_14 (lv_at hl 1 rfl) ?_
  refine lv_ifnullN (tgt := 24) X.1 X.2.1 dX4_copy_16 (by decide) ?_
  refine lv_aload_n X.1 X.2.1 dX4_copy_24 rfl (lv_at hl 2 rfl) ?_
  refine z_ldc (z := (-1000000001)) X ct_X4_48 (by decide) dX4_copy_25 ?_
  refine z_wi (st_sing (st_nil h)) (run_V (rest := []) X (st_sing (st_nil h)) (c_X4_finding (j := 0) hF (by decide) (by decide) (by decide)) mi_X4_finding ml_X4_49 ⟨Nat.le_of_ble_eq_true rfl, Nat.le_of_ble_eq_true rfl⟩ ⟨rfl, rfl⟩ (Seg.mk' _ _) 3 0 rfl rfl rfl rfl hl.1 rfl (Nat.le_of_ble_eq_true rfl) ⟨Nat.zero_le _, Nat.zero_le _⟩ dX4_copy_27) (fun _ => map_app (wO_map _ _ _ _ _ _ _ _ _ _ _) rfl) (fun r fd1 H locs hp h => ?_)
  have h := (st_lin (st_gnis h))
  obtain ⟨rfl, hF1⟩ := hp
  have h : St E _ s H locs (wO E a k b t x q ((iv (ik))) fd1 ++ (wS E k ((hk)) ((nk)) (k1, k2, k3, k4, k5, k6, k7, k8, k9) ++ (wS E b ((iv (hr A))) ((iv (pe A))) (xs, xi, xk, xc, xl, xr, xb, yl, yr) ++ (wS E t ((ht)) ((nt)) (t1, t2, t3, t4, t5, t6, t7, t8, t9) ++ (wX E x ((iv (tn))) ((e1)) ((e2)) ((e3)) ((e4)) tp ++ (wH E (q 0) ((iv (bq 0))) ((iv (sq 0))) c0 ++ (wH E (q 1) ((iv (bq 1))) ((iv (sq 1))) c1 ++ (wH E (q 2) ((iv (bq 2))) ((iv (sq 2))) c2 ++ (wH E (q 3) ((iv (bq 3))) ((iv (sq 3))) c3 ++ []))))))))) := h
  have e9 : q_copy bq sq cq ph ps pf 1 po pn = ((-1000000001), cq, (bump ph 0)) := by first | (unfold q_copy; (repeat (first | rw [if_pos (by omega)] | rw [if_neg (by omega)])); first | done | rfl) | (exfalso; omega)
  exact ret _ _ _ _ _ (((iv (ik)), fd1), ((hk), (nk), (k1, k2, k3, k4, k5, k6, k7, k8, k9)), ((iv (hr A)), (iv (pe A)), (xs, xi, xk, xc, xl, xr, xb, yl, yr)), ((ht), (nt), (t1, t2, t3, t4, t5, t6, t7, t8, t9)), ((iv (tn)), (e1), (e2), (e3), (e4), tp), ((iv (bq 0)), (iv (sq 0)), c0), ((iv (bq 1)), (iv (sq 1)), c1), ((iv (bq 2)), (iv (sq 2)), c2), ((iv (bq 3)), (iv (sq 3)), c3)) h (by rw [e9]; exact ⟨rfl, ⟨⟨rfl, rfl, hR, hI, hr9⟩, hK, hF1, hT, hB⟩⟩) dX4_copy_30

set_option maxHeartbeats 4000000 in
theorem c_X4_copy_N_2 (hS : RepC (((iv (ik)), fd), ((hk), (nk), (k1, k2, k3, k4, k5, k6, k7, k8, k9)), ((iv (hr A)), (iv (pe A)), (xs, xi, xk, xc, xl, xr, xb, yl, yr)), ((ht), (nt), (t1, t2, t3, t4, t5, t6, t7, t8, t9)), ((iv (tn)), (e1), (e2), (e3), (e4), tp), ((iv (bq 0)), (iv (sq 0)), c0), ((iv (bq 1)), (iv (sq 1)), c1), ((iv (bq 2)), (iv (sq 2)), c2), ((iv (bq 3)), (iv (sq 3)), c3)) (A, K, ik, ph, tq, tn, bq, sq, cq)) {ps : Int} (r_ps : r32 ps) {pf : Int} (r_pf : r32 pf) {po : Int} (r_po : r32 po) {pn : Int} (r_pn : r32 pn) (hos : ps < 0 ∨ 3 < ps) : MI (S := Tc) E l yX4_copy cX4_copy 8 (some FieldType.int) (rmk 2 44) (wO E a k b t x q ((iv (ik))) fd ++ (wS E k ((hk)) ((nk)) (k1, k2, k3, k4, k5, k6, k7, k8, k9) ++ (wS E b ((iv (hr A))) ((iv (pe A))) (xs, xi, xk, xc, xl, xr, xb, yl, yr) ++ (wS E t ((ht)) ((nt)) (t1, t2, t3, t4, t5, t6, t7, t8, t9) ++ (wX E x ((iv (tn))) ((e1)) ((e2)) ((e3)) ((e4)) tp ++ (wH E (q 0) ((iv (bq 0))) ((iv (sq 0))) c0 ++ (wH E (q 1) ((iv (bq 1))) ((iv (sq 1))) c1 ++ (wH E (q 2) ((iv (bq 2))) ((iv (sq 2))) c2 ++ (wH E (q 3) ((iv (bq 3))) ((iv (sq 3))) c3 ++ []))))))))) [.ref (a 0), .int (iv (ps)), .int (iv (pf)), .int (iv (2)), .int (iv (po)), .int (iv (pn))] (fun r u => r = iv ((q_copy bq sq cq ph ps pf 2 po pn).1) ∧ RepC u (A, K, ik, (q_copy bq sq cq ph ps pf 2 po pn).2.2, tq, tn, bq, sq, (q_copy bq sq cq ph ps pf 2 po pn).2.1)) (fun u => wT E a k b t x q u) := by
  refine goI (S := Tc) (post := fun r u => r = iv ((q_copy bq sq cq ph ps pf 2 po pn).1) ∧ RepC u (A, K, ik, (q_copy bq sq cq ph ps pf 2 po pn).2.2, tq, tn, bq, sq, (q_copy bq sq cq ph ps pf 2 po pn).2.1)) (ws' := fun u => wT E a k b t x q u) (by decide) (Nat.le_of_ble_eq_true rfl) ?_
  intro pp e s m below meth c ls args Q ret X h hl
  have hl : lv_has ls 8 [(0, .ref (a 0)), (1, .int (iv (ps))), (2, .int (iv (pf))), (3, .int (iv (2))), (4, .int (iv (po))), (5, .int (iv (pn)))] := hl
  have hR : RS (xs, xi, xk, xc, xl, xr, xb, yl, yr) A := hS.1.2.2.1
  have hI : IA A := hS.1.2.2.2.1
  have hr9 : hr A ≤ 99999 := hS.1.2.2.2.2
  have hF : RF 7 fd ph := hS.2.2.1
  have hK := hS.2.1
  have hT := hS.2.2.2.1
  have hB := hS.2.2.2.2
  have hh : hr A < 1000000 := by omega
  have n8 := hI.n8
  have n0 := hI.n0
  have h0 := hI.h0
  have ht0 : 0 ≤ tn := hS.2.2.2.1.2.1
  have ht1 : tn ≤ 120 := hS.2.2.2.1.2.2.1
  have hk01 : ik = 0 ∨ ik = 1 := hS.2.1.2.1
  have hB3 : okB bq sq := hS.2.2.2.2.1
  have hH0 : RepH (iv (bq 0), iv (sq 0), c0) bq sq cq 0 := hS.2.2.2.2.2.1
  have hH1 : RepH (iv (bq 1), iv (sq 1), c1) bq sq cq 1 := hS.2.2.2.2.2.2.1
  have hH2 : RepH (iv (bq 2), iv (sq 2), c2) bq sq cq 2 := hS.2.2.2.2.2.2.2.1
  have hH3 : RepH (iv (bq 3), iv (sq 3), c3) bq sq cq 3 := hS.2.2.2.2.2.2.2.2
  have ob2 := hB3.1 2 (by omega) (by omega)
  have zb2 := hB3.2 2 (by omega) (by omega)
  have q2 := r_pf.1
  have q22 := r_pf.2
  have q4 := r_po.1
  have q42 := r_po.2
  have q5 := r_pn.1
  have q52 := r_pn.2
  refine lv_aload_n X.1 X.2.1 dX4_copy_0 rfl (lv_at hl 0 rfl) ?_
  refine lv_iload_n X.1 X.2.1 dX4_copy_1 rfl (lv_at hl 1 rfl) ?_
  refine z_pq (run_V (rest := []) X h (c_sheetAtN (s9 := ps) r_ps (by omega)) mi_X4_sheetAt ml_X4_184 ⟨Nat.le_of_ble_eq_true rfl, Nat.le_of_ble_eq_true rfl⟩ ⟨rfl, rfl⟩ (Seg.rfl' _) 3 0 rfl rfl rfl rfl hl.1 rfl (Nat.le_of_ble_eq_true rfl) ⟨Nat.zero_le _, Nat.zero_le _⟩ dX4_copy_2) ?_
  refine W.eq (g2 := F0 m 5 ls [.null]) rfl ?_
  refine lv_astoreN (lv' := [(6, .null), (0, .ref (a 0)), (1, .int (iv (ps))), (2, .int (iv (pf))), (3, .int (iv (2))), (4, .int (iv (po))), (5, .int (iv (pn)))]) X.1 X.2.1 dX4_copy_5 hl (by decide) rfl (fun ls hl => ?_)
  refine lv_aload_n X.1 X.2.1 dX4_copy_7 rfl (lv_at hl 1 rfl) ?_
  refine lv_iload_n X.1 X.2.1 dX4_copy_8 rfl (lv_at hl 4 rfl) ?_
  refine z_pq (run_V (rest := []) X h (c_sheetAt2) mi_X4_sheetAt ml_X4_184 ⟨Nat.le_of_ble_eq_true rfl, Nat.le_of_ble_eq_true rfl⟩ ⟨rfl, rfl⟩ (Seg.rfl' _) 3 0 rfl rfl rfl rfl hl.1 rfl (Nat.le_of_ble_eq_true rfl) ⟨Nat.zero_le _, Nat.zero_le _⟩ dX4_copy_9) ?_
  refine W.eq (g2 := F0 m 12 ls [.ref (q 2 0)]) rfl ?_
  refine lv_astore (lv' := [(7, .ref (q 2 0)), (6, .null), (0, .ref (a 0)), (1, .int (iv (ps))), (2, .int (iv (pf))), (3, .int (iv (2))), (4, .int (iv (po))), (5, .int (iv (pn)))]) X.1 X.2.1 dX4_copy_12 hl (by decide) rfl (fun ls hl => ?_)
  refine lv_aloadN X.1 X.2.1 dX4_copy_14 (lv_at hl 1 rfl) ?_
  refine lv_ifnullN (tgt := 24) X.1 X.2.1 dX4_copy_16 (by decide) ?_
  refine lv_aload_n X.1 X.2.1 dX4_copy_24 rfl (lv_at hl 2 rfl) ?_
  refine z_ldc (z := (-1000000001)) X ct_X4_48 (by decide) dX4_copy_25 ?_
  refine z_wi (st_sing (st_nil h)) (run_V (rest := []) X (st_sing (st_nil h)) (c_X4_finding (j := 0) hF (by decide) (by decide) (by decide)) mi_X4_finding ml_X4_49 ⟨Nat.le_of_ble_eq_true rfl, Nat.le_of_ble_eq_true rfl⟩ ⟨rfl, rfl⟩ (Seg.mk' _ _) 3 0 rfl rfl rfl rfl hl.1 rfl (Nat.le_of_ble_eq_true rfl) ⟨Nat.zero_le _, Nat.zero_le _⟩ dX4_copy_27) (fun _ => map_app (wO_map _ _ _ _ _ _ _ _ _ _ _) rfl) (fun r fd1 H locs hp h => ?_)
  have h := (st_lin (st_gnis h))
  obtain ⟨rfl, hF1⟩ := hp
  have h : St E _ s H locs (wO E a k b t x q ((iv (ik))) fd1 ++ (wS E k ((hk)) ((nk)) (k1, k2, k3, k4, k5, k6, k7, k8, k9) ++ (wS E b ((iv (hr A))) ((iv (pe A))) (xs, xi, xk, xc, xl, xr, xb, yl, yr) ++ (wS E t ((ht)) ((nt)) (t1, t2, t3, t4, t5, t6, t7, t8, t9) ++ (wX E x ((iv (tn))) ((e1)) ((e2)) ((e3)) ((e4)) tp ++ (wH E (q 0) ((iv (bq 0))) ((iv (sq 0))) c0 ++ (wH E (q 1) ((iv (bq 1))) ((iv (sq 1))) c1 ++ (wH E (q 2) ((iv (bq 2))) ((iv (sq 2))) c2 ++ (wH E (q 3) ((iv (bq 3))) ((iv (sq 3))) c3 ++ []))))))))) := h
  have e9 : q_copy bq sq cq ph ps pf 2 po pn = ((-1000000001), cq, (bump ph 0)) := by first | (unfold q_copy; (repeat (first | rw [if_pos (by omega)] | rw [if_neg (by omega)])); first | done | rfl) | (exfalso; omega)
  exact ret _ _ _ _ _ (((iv (ik)), fd1), ((hk), (nk), (k1, k2, k3, k4, k5, k6, k7, k8, k9)), ((iv (hr A)), (iv (pe A)), (xs, xi, xk, xc, xl, xr, xb, yl, yr)), ((ht), (nt), (t1, t2, t3, t4, t5, t6, t7, t8, t9)), ((iv (tn)), (e1), (e2), (e3), (e4), tp), ((iv (bq 0)), (iv (sq 0)), c0), ((iv (bq 1)), (iv (sq 1)), c1), ((iv (bq 2)), (iv (sq 2)), c2), ((iv (bq 3)), (iv (sq 3)), c3)) h (by rw [e9]; exact ⟨rfl, ⟨⟨rfl, rfl, hR, hI, hr9⟩, hK, hF1, hT, hB⟩⟩) dX4_copy_30

set_option maxHeartbeats 4000000 in
theorem c_X4_copy_N_3 (hS : RepC (((iv (ik)), fd), ((hk), (nk), (k1, k2, k3, k4, k5, k6, k7, k8, k9)), ((iv (hr A)), (iv (pe A)), (xs, xi, xk, xc, xl, xr, xb, yl, yr)), ((ht), (nt), (t1, t2, t3, t4, t5, t6, t7, t8, t9)), ((iv (tn)), (e1), (e2), (e3), (e4), tp), ((iv (bq 0)), (iv (sq 0)), c0), ((iv (bq 1)), (iv (sq 1)), c1), ((iv (bq 2)), (iv (sq 2)), c2), ((iv (bq 3)), (iv (sq 3)), c3)) (A, K, ik, ph, tq, tn, bq, sq, cq)) {ps : Int} (r_ps : r32 ps) {pf : Int} (r_pf : r32 pf) {po : Int} (r_po : r32 po) {pn : Int} (r_pn : r32 pn) (hos : ps < 0 ∨ 3 < ps) : MI (S := Tc) E l yX4_copy cX4_copy 8 (some FieldType.int) (rmk 2 44) (wO E a k b t x q ((iv (ik))) fd ++ (wS E k ((hk)) ((nk)) (k1, k2, k3, k4, k5, k6, k7, k8, k9) ++ (wS E b ((iv (hr A))) ((iv (pe A))) (xs, xi, xk, xc, xl, xr, xb, yl, yr) ++ (wS E t ((ht)) ((nt)) (t1, t2, t3, t4, t5, t6, t7, t8, t9) ++ (wX E x ((iv (tn))) ((e1)) ((e2)) ((e3)) ((e4)) tp ++ (wH E (q 0) ((iv (bq 0))) ((iv (sq 0))) c0 ++ (wH E (q 1) ((iv (bq 1))) ((iv (sq 1))) c1 ++ (wH E (q 2) ((iv (bq 2))) ((iv (sq 2))) c2 ++ (wH E (q 3) ((iv (bq 3))) ((iv (sq 3))) c3 ++ []))))))))) [.ref (a 0), .int (iv (ps)), .int (iv (pf)), .int (iv (3)), .int (iv (po)), .int (iv (pn))] (fun r u => r = iv ((q_copy bq sq cq ph ps pf 3 po pn).1) ∧ RepC u (A, K, ik, (q_copy bq sq cq ph ps pf 3 po pn).2.2, tq, tn, bq, sq, (q_copy bq sq cq ph ps pf 3 po pn).2.1)) (fun u => wT E a k b t x q u) := by
  refine goI (S := Tc) (post := fun r u => r = iv ((q_copy bq sq cq ph ps pf 3 po pn).1) ∧ RepC u (A, K, ik, (q_copy bq sq cq ph ps pf 3 po pn).2.2, tq, tn, bq, sq, (q_copy bq sq cq ph ps pf 3 po pn).2.1)) (ws' := fun u => wT E a k b t x q u) (by decide) (Nat.le_of_ble_eq_true rfl) ?_
  intro pp e s m below meth c ls args Q ret X h hl
  have hl : lv_has ls 8 [(0, .ref (a 0)), (1, .int (iv (ps))), (2, .int (iv (pf))), (3, .int (iv (3))), (4, .int (iv (po))), (5, .int (iv (pn)))] := hl
  have hR : RS (xs, xi, xk, xc, xl, xr, xb, yl, yr) A := hS.1.2.2.1
  have hI : IA A := hS.1.2.2.2.1
  have hr9 : hr A ≤ 99999 := hS.1.2.2.2.2
  have hF : RF 7 fd ph := hS.2.2.1
  have hK := hS.2.1
  have hT := hS.2.2.2.1
  have hB := hS.2.2.2.2
  have hh : hr A < 1000000 := by omega
  have n8 := hI.n8
  have n0 := hI.n0
  have h0 := hI.h0
  have ht0 : 0 ≤ tn := hS.2.2.2.1.2.1
  have ht1 : tn ≤ 120 := hS.2.2.2.1.2.2.1
  have hk01 : ik = 0 ∨ ik = 1 := hS.2.1.2.1
  have hB3 : okB bq sq := hS.2.2.2.2.1
  have hH0 : RepH (iv (bq 0), iv (sq 0), c0) bq sq cq 0 := hS.2.2.2.2.2.1
  have hH1 : RepH (iv (bq 1), iv (sq 1), c1) bq sq cq 1 := hS.2.2.2.2.2.2.1
  have hH2 : RepH (iv (bq 2), iv (sq 2), c2) bq sq cq 2 := hS.2.2.2.2.2.2.2.1
  have hH3 : RepH (iv (bq 3), iv (sq 3), c3) bq sq cq 3 := hS.2.2.2.2.2.2.2.2
  have ob3 := hB3.1 3 (by omega) (by omega)
  have zb3 := hB3.2 3 (by omega) (by omega)
  have q2 := r_pf.1
  have q22 := r_pf.2
  have q4 := r_po.1
  have q42 := r_po.2
  have q5 := r_pn.1
  have q52 := r_pn.2
  refine lv_aload_n X.1 X.2.1 dX4_copy_0 rfl (lv_at hl 0 rfl) ?_
  refine lv_iload_n X.1 X.2.1 dX4_copy_1 rfl (lv_at hl 1 rfl) ?_
  refine z_pq (run_V (rest := []) X h (c_sheetAtN (s9 := ps) r_ps (by omega)) mi_X4_sheetAt ml_X4_184 ⟨Nat.le_of_ble_eq_true rfl, Nat.le_of_ble_eq_true rfl⟩ ⟨rfl, rfl⟩ (Seg.rfl' _) 3 0 rfl rfl rfl rfl hl.1 rfl (Nat.le_of_ble_eq_true rfl) ⟨Nat.zero_le _, Nat.zero_le _⟩ dX4_copy_2) ?_
  refine W.eq (g2 := F0 m 5 ls [.null]) rfl ?_
  refine lv_astoreN (lv' := [(6, .null), (0, .ref (a 0)), (1, .int (iv (ps))), (2, .int (iv (pf))), (3, .int (iv (3))), (4, .int (iv (po))), (5, .int (iv (pn)))]) X.1 X.2.1 dX4_copy_5 hl (by decide) rfl (fun ls hl => ?_)
  refine lv_aload_n X.1 X.2.1 dX4_copy_7 rfl (lv_at hl 1 rfl) ?_
  refine lv_iload_n X.1 X.2.1 dX4_copy_8 rfl (lv_at hl 4 rfl) ?_
  refine z_pq (run_V (rest := []) X h (c_sheetAt3) mi_X4_sheetAt ml_X4_184 ⟨Nat.le_of_ble_eq_true rfl, Nat.le_of_ble_eq_true rfl⟩ ⟨rfl, rfl⟩ (Seg.rfl' _) 3 0 rfl rfl rfl rfl hl.1 rfl (Nat.le_of_ble_eq_true rfl) ⟨Nat.zero_le _, Nat.zero_le _⟩ dX4_copy_9) ?_
  refine W.eq (g2 := F0 m 12 ls [.ref (q 3 0)]) rfl ?_
  refine lv_astore (lv' := [(7, .ref (q 3 0)), (6, .null), (0, .ref (a 0)), (1, .int (iv (ps))), (2, .int (iv (pf))), (3, .int (iv (3))), (4, .int (iv (po))), (5, .int (iv (pn)))]) X.1 X.2.1 dX4_copy_12 hl (by decide) rfl (fun ls hl => ?_)
  refine lv_aloadN X.1 X.2.1 dX4_copy_14 (lv_at hl 1 rfl) ?_
  refine lv_ifnullN (tgt := 24) X.1 X.2.1 dX4_copy_16 (by decide) ?_
  refine lv_aload_n X.1 X.2.1 dX4_copy_24 rfl (lv_at hl 2 rfl) ?_
  refine z_ldc (z := (-1000000001)) X ct_X4_48 (by decide) dX4_copy_25 ?_
  refine z_wi (st_sing (st_nil h)) (run_V (rest := []) X (st_sing (st_nil h)) (c_X4_finding (j := 0) hF (by decide) (by decide) (by decide)) mi_X4_finding ml_X4_49 ⟨Nat.le_of_ble_eq_true rfl, Nat.le_of_ble_eq_true rfl⟩ ⟨rfl, rfl⟩ (Seg.mk' _ _) 3 0 rfl rfl rfl rfl hl.1 rfl (Nat.le_of_ble_eq_true rfl) ⟨Nat.zero_le _, Nat.zero_le _⟩ dX4_copy_27) (fun _ => map_app (wO_map _ _ _ _ _ _ _ _ _ _ _) rfl) (fun r fd1 H locs hp h => ?_)
  have h := (st_lin (st_gnis h))
  obtain ⟨rfl, hF1⟩ := hp
  have h : St E _ s H locs (wO E a k b t x q ((iv (ik))) fd1 ++ (wS E k ((hk)) ((nk)) (k1, k2, k3, k4, k5, k6, k7, k8, k9) ++ (wS E b ((iv (hr A))) ((iv (pe A))) (xs, xi, xk, xc, xl, xr, xb, yl, yr) ++ (wS E t ((ht)) ((nt)) (t1, t2, t3, t4, t5, t6, t7, t8, t9) ++ (wX E x ((iv (tn))) ((e1)) ((e2)) ((e3)) ((e4)) tp ++ (wH E (q 0) ((iv (bq 0))) ((iv (sq 0))) c0 ++ (wH E (q 1) ((iv (bq 1))) ((iv (sq 1))) c1 ++ (wH E (q 2) ((iv (bq 2))) ((iv (sq 2))) c2 ++ (wH E (q 3) ((iv (bq 3))) ((iv (sq 3))) c3 ++ []))))))))) := h
  have e9 : q_copy bq sq cq ph ps pf 3 po pn = ((-1000000001), cq, (bump ph 0)) := by first | (unfold q_copy; (repeat (first | rw [if_pos (by omega)] | rw [if_neg (by omega)])); first | done | rfl) | (exfalso; omega)
  exact ret _ _ _ _ _ (((iv (ik)), fd1), ((hk), (nk), (k1, k2, k3, k4, k5, k6, k7, k8, k9)), ((iv (hr A)), (iv (pe A)), (xs, xi, xk, xc, xl, xr, xb, yl, yr)), ((ht), (nt), (t1, t2, t3, t4, t5, t6, t7, t8, t9)), ((iv (tn)), (e1), (e2), (e3), (e4), tp), ((iv (bq 0)), (iv (sq 0)), c0), ((iv (bq 1)), (iv (sq 1)), c1), ((iv (bq 2)), (iv (sq 2)), c2), ((iv (bq 3)), (iv (sq 3)), c3)) h (by rw [e9]; exact ⟨rfl, ⟨⟨rfl, rfl, hR, hI, hr9⟩, hK, hF1, hT, hB⟩⟩) dX4_copy_30

set_option maxHeartbeats 4000000 in
theorem c_X4_copy_N_N (hS : RepC (((iv (ik)), fd), ((hk), (nk), (k1, k2, k3, k4, k5, k6, k7, k8, k9)), ((iv (hr A)), (iv (pe A)), (xs, xi, xk, xc, xl, xr, xb, yl, yr)), ((ht), (nt), (t1, t2, t3, t4, t5, t6, t7, t8, t9)), ((iv (tn)), (e1), (e2), (e3), (e4), tp), ((iv (bq 0)), (iv (sq 0)), c0), ((iv (bq 1)), (iv (sq 1)), c1), ((iv (bq 2)), (iv (sq 2)), c2), ((iv (bq 3)), (iv (sq 3)), c3)) (A, K, ik, ph, tq, tn, bq, sq, cq)) {ps : Int} (r_ps : r32 ps) {pf : Int} (r_pf : r32 pf) {pt : Int} (r_pt : r32 pt) {po : Int} (r_po : r32 po) {pn : Int} (r_pn : r32 pn) (hos : ps < 0 ∨ 3 < ps) (hot : pt < 0 ∨ 3 < pt) : MI (S := Tc) E l yX4_copy cX4_copy 8 (some FieldType.int) (rmk 2 44) (wO E a k b t x q ((iv (ik))) fd ++ (wS E k ((hk)) ((nk)) (k1, k2, k3, k4, k5, k6, k7, k8, k9) ++ (wS E b ((iv (hr A))) ((iv (pe A))) (xs, xi, xk, xc, xl, xr, xb, yl, yr) ++ (wS E t ((ht)) ((nt)) (t1, t2, t3, t4, t5, t6, t7, t8, t9) ++ (wX E x ((iv (tn))) ((e1)) ((e2)) ((e3)) ((e4)) tp ++ (wH E (q 0) ((iv (bq 0))) ((iv (sq 0))) c0 ++ (wH E (q 1) ((iv (bq 1))) ((iv (sq 1))) c1 ++ (wH E (q 2) ((iv (bq 2))) ((iv (sq 2))) c2 ++ (wH E (q 3) ((iv (bq 3))) ((iv (sq 3))) c3 ++ []))))))))) [.ref (a 0), .int (iv (ps)), .int (iv (pf)), .int (iv (pt)), .int (iv (po)), .int (iv (pn))] (fun r u => r = iv ((q_copy bq sq cq ph ps pf pt po pn).1) ∧ RepC u (A, K, ik, (q_copy bq sq cq ph ps pf pt po pn).2.2, tq, tn, bq, sq, (q_copy bq sq cq ph ps pf pt po pn).2.1)) (fun u => wT E a k b t x q u) := by
  refine goI (S := Tc) (post := fun r u => r = iv ((q_copy bq sq cq ph ps pf pt po pn).1) ∧ RepC u (A, K, ik, (q_copy bq sq cq ph ps pf pt po pn).2.2, tq, tn, bq, sq, (q_copy bq sq cq ph ps pf pt po pn).2.1)) (ws' := fun u => wT E a k b t x q u) (by decide) (Nat.le_of_ble_eq_true rfl) ?_
  intro pp e s m below meth c ls args Q ret X h hl
  have hl : lv_has ls 8 [(0, .ref (a 0)), (1, .int (iv (ps))), (2, .int (iv (pf))), (3, .int (iv (pt))), (4, .int (iv (po))), (5, .int (iv (pn)))] := hl
  have hR : RS (xs, xi, xk, xc, xl, xr, xb, yl, yr) A := hS.1.2.2.1
  have hI : IA A := hS.1.2.2.2.1
  have hr9 : hr A ≤ 99999 := hS.1.2.2.2.2
  have hF : RF 7 fd ph := hS.2.2.1
  have hK := hS.2.1
  have hT := hS.2.2.2.1
  have hB := hS.2.2.2.2
  have hh : hr A < 1000000 := by omega
  have n8 := hI.n8
  have n0 := hI.n0
  have h0 := hI.h0
  have ht0 : 0 ≤ tn := hS.2.2.2.1.2.1
  have ht1 : tn ≤ 120 := hS.2.2.2.1.2.2.1
  have hk01 : ik = 0 ∨ ik = 1 := hS.2.1.2.1
  have hB3 : okB bq sq := hS.2.2.2.2.1
  have hH0 : RepH (iv (bq 0), iv (sq 0), c0) bq sq cq 0 := hS.2.2.2.2.2.1
  have hH1 : RepH (iv (bq 1), iv (sq 1), c1) bq sq cq 1 := hS.2.2.2.2.2.2.1
  have hH2 : RepH (iv (bq 2), iv (sq 2), c2) bq sq cq 2 := hS.2.2.2.2.2.2.2.1
  have hH3 : RepH (iv (bq 3), iv (sq 3), c3) bq sq cq 3 := hS.2.2.2.2.2.2.2.2
  have q2 := r_pf.1
  have q22 := r_pf.2
  have q4 := r_po.1
  have q42 := r_po.2
  have q5 := r_pn.1
  have q52 := r_pn.2
  refine lv_aload_n X.1 X.2.1 dX4_copy_0 rfl (lv_at hl 0 rfl) ?_
  refine lv_iload_n X.1 X.2.1 dX4_copy_1 rfl (lv_at hl 1 rfl) ?_
  refine z_pq (run_V (rest := []) X h (c_sheetAtN (s9 := ps) r_ps (by omega)) mi_X4_sheetAt ml_X4_184 ⟨Nat.le_of_ble_eq_true rfl, Nat.le_of_ble_eq_true rfl⟩ ⟨rfl, rfl⟩ (Seg.rfl' _) 3 0 rfl rfl rfl rfl hl.1 rfl (Nat.le_of_ble_eq_true rfl) ⟨Nat.zero_le _, Nat.zero_le _⟩ dX4_copy_2) ?_
  refine W.eq (g2 := F0 m 5 ls [.null]) rfl ?_
  refine lv_astoreN (lv' := [(6, .null), (0, .ref (a 0)), (1, .int (iv (ps))), (2, .int (iv (pf))), (3, .int (iv (pt))), (4, .int (iv (po))), (5, .int (iv (pn)))]) X.1 X.2.1 dX4_copy_5 hl (by decide) rfl (fun ls hl => ?_)
  refine lv_aload_n X.1 X.2.1 dX4_copy_7 rfl (lv_at hl 1 rfl) ?_
  refine lv_iload_n X.1 X.2.1 dX4_copy_8 rfl (lv_at hl 4 rfl) ?_
  refine z_pq (run_V (rest := []) X h (c_sheetAtN (s9 := pt) r_pt (by omega)) mi_X4_sheetAt ml_X4_184 ⟨Nat.le_of_ble_eq_true rfl, Nat.le_of_ble_eq_true rfl⟩ ⟨rfl, rfl⟩ (Seg.rfl' _) 3 0 rfl rfl rfl rfl hl.1 rfl (Nat.le_of_ble_eq_true rfl) ⟨Nat.zero_le _, Nat.zero_le _⟩ dX4_copy_9) ?_
  refine W.eq (g2 := F0 m 12 ls [.null]) rfl ?_
  refine lv_astoreN (lv' := [(7, .null), (6, .null), (0, .ref (a 0)), (1, .int (iv (ps))), (2, .int (iv (pf))), (3, .int (iv (pt))), (4, .int (iv (po))), (5, .int (iv (pn)))]) X.1 X.2.1 dX4_copy_12 hl (by decide) rfl (fun ls hl => ?_)
  refine lv_aloadN X.1 X.2.1 dX4_copy_14 (lv_at hl 1 rfl) ?_
  refine lv_ifnullN (tgt := 24) X.1 X.2.1 dX4_copy_16 (by decide) ?_
  refine lv_aload_n X.1 X.2.1 dX4_copy_24 rfl (lv_at hl 2 rfl) ?_
  refine z_ldc (z := (-1000000001)) X ct_X4_48 (by decide) dX4_copy_25 ?_
  refine z_wi (st_sing (st_nil h)) (run_V (rest := []) X (st_sing (st_nil h)) (c_X4_finding (j := 0) hF (by decide) (by decide) (by decide)) mi_X4_finding ml_X4_49 ⟨Nat.le_of_ble_eq_true rfl, Nat.le_of_ble_eq_true rfl⟩ ⟨rfl, rfl⟩ (Seg.mk' _ _) 3 0 rfl rfl rfl rfl hl.1 rfl (Nat.le_of_ble_eq_true rfl) ⟨Nat.zero_le _, Nat.zero_le _⟩ dX4_copy_27) (fun _ => map_app (wO_map _ _ _ _ _ _ _ _ _ _ _) rfl) (fun r fd1 H locs hp h => ?_)
  have h := (st_lin (st_gnis h))
  obtain ⟨rfl, hF1⟩ := hp
  have h : St E _ s H locs (wO E a k b t x q ((iv (ik))) fd1 ++ (wS E k ((hk)) ((nk)) (k1, k2, k3, k4, k5, k6, k7, k8, k9) ++ (wS E b ((iv (hr A))) ((iv (pe A))) (xs, xi, xk, xc, xl, xr, xb, yl, yr) ++ (wS E t ((ht)) ((nt)) (t1, t2, t3, t4, t5, t6, t7, t8, t9) ++ (wX E x ((iv (tn))) ((e1)) ((e2)) ((e3)) ((e4)) tp ++ (wH E (q 0) ((iv (bq 0))) ((iv (sq 0))) c0 ++ (wH E (q 1) ((iv (bq 1))) ((iv (sq 1))) c1 ++ (wH E (q 2) ((iv (bq 2))) ((iv (sq 2))) c2 ++ (wH E (q 3) ((iv (bq 3))) ((iv (sq 3))) c3 ++ []))))))))) := h
  have e9 : q_copy bq sq cq ph ps pf pt po pn = ((-1000000001), cq, (bump ph 0)) := by first | (unfold q_copy; (repeat (first | rw [if_pos (by omega)] | rw [if_neg (by omega)])); first | done | rfl) | (exfalso; omega)
  exact ret _ _ _ _ _ (((iv (ik)), fd1), ((hk), (nk), (k1, k2, k3, k4, k5, k6, k7, k8, k9)), ((iv (hr A)), (iv (pe A)), (xs, xi, xk, xc, xl, xr, xb, yl, yr)), ((ht), (nt), (t1, t2, t3, t4, t5, t6, t7, t8, t9)), ((iv (tn)), (e1), (e2), (e3), (e4), tp), ((iv (bq 0)), (iv (sq 0)), c0), ((iv (bq 1)), (iv (sq 1)), c1), ((iv (bq 2)), (iv (sq 2)), c2), ((iv (bq 3)), (iv (sq 3)), c3)) h (by rw [e9]; exact ⟨rfl, ⟨⟨rfl, rfl, hR, hI, hr9⟩, hK, hF1, hT, hB⟩⟩) dX4_copy_30

theorem c_X4_copy (hS : RepC (((iv (ik)), fd), ((hk), (nk), (k1, k2, k3, k4, k5, k6, k7, k8, k9)), ((iv (hr A)), (iv (pe A)), (xs, xi, xk, xc, xl, xr, xb, yl, yr)), ((ht), (nt), (t1, t2, t3, t4, t5, t6, t7, t8, t9)), ((iv (tn)), (e1), (e2), (e3), (e4), tp), ((iv (bq 0)), (iv (sq 0)), c0), ((iv (bq 1)), (iv (sq 1)), c1), ((iv (bq 2)), (iv (sq 2)), c2), ((iv (bq 3)), (iv (sq 3)), c3)) (A, K, ik, ph, tq, tn, bq, sq, cq)) {ps : Int} (r_ps : r32 ps) {pf : Int} (r_pf : r32 pf) {pt : Int} (r_pt : r32 pt) {po : Int} (r_po : r32 po) {pn : Int} (r_pn : r32 pn) : MI (S := Tc) E l yX4_copy cX4_copy 8 (some FieldType.int) (rmk 2 44) (wO E a k b t x q ((iv (ik))) fd ++ (wS E k ((hk)) ((nk)) (k1, k2, k3, k4, k5, k6, k7, k8, k9) ++ (wS E b ((iv (hr A))) ((iv (pe A))) (xs, xi, xk, xc, xl, xr, xb, yl, yr) ++ (wS E t ((ht)) ((nt)) (t1, t2, t3, t4, t5, t6, t7, t8, t9) ++ (wX E x ((iv (tn))) ((e1)) ((e2)) ((e3)) ((e4)) tp ++ (wH E (q 0) ((iv (bq 0))) ((iv (sq 0))) c0 ++ (wH E (q 1) ((iv (bq 1))) ((iv (sq 1))) c1 ++ (wH E (q 2) ((iv (bq 2))) ((iv (sq 2))) c2 ++ (wH E (q 3) ((iv (bq 3))) ((iv (sq 3))) c3 ++ []))))))))) [.ref (a 0), .int (iv (ps)), .int (iv (pf)), .int (iv (pt)), .int (iv (po)), .int (iv (pn))] (fun r u => r = iv ((q_copy bq sq cq ph ps pf pt po pn).1) ∧ RepC u (A, K, ik, (q_copy bq sq cq ph ps pf pt po pn).2.2, tq, tn, bq, sq, (q_copy bq sq cq ph ps pf pt po pn).2.1)) (fun u => wT E a k b t x q u) := by
  rcases (show ps = 0 ∨ ps = 1 ∨ ps = 2 ∨ ps = 3 ∨ (ps < 0 ∨ 3 < ps) by omega) with rfl | rfl | rfl | rfl | hos
  · rcases (show pt = 0 ∨ pt = 1 ∨ pt = 2 ∨ pt = 3 ∨ (pt < 0 ∨ 3 < pt) by omega) with rfl | rfl | rfl | rfl | hot
    · exact c_X4_copy_0_0 hS r_pf r_po r_pn
    · exact c_X4_copy_0_1 hS r_pf r_po r_pn
    · exact c_X4_copy_0_2 hS r_pf r_po r_pn
    · exact c_X4_copy_0_3 hS r_pf r_po r_pn
    · exact c_X4_copy_0_N hS r_pf r_pt r_po r_pn hot
  · rcases (show pt = 0 ∨ pt = 1 ∨ pt = 2 ∨ pt = 3 ∨ (pt < 0 ∨ 3 < pt) by omega) with rfl | rfl | rfl | rfl | hot
    · exact c_X4_copy_1_0 hS r_pf r_po r_pn
    · exact c_X4_copy_1_1 hS r_pf r_po r_pn
    · exact c_X4_copy_1_2 hS r_pf r_po r_pn
    · exact c_X4_copy_1_3 hS r_pf r_po r_pn
    · exact c_X4_copy_1_N hS r_pf r_pt r_po r_pn hot
  · rcases (show pt = 0 ∨ pt = 1 ∨ pt = 2 ∨ pt = 3 ∨ (pt < 0 ∨ 3 < pt) by omega) with rfl | rfl | rfl | rfl | hot
    · exact c_X4_copy_2_0 hS r_pf r_po r_pn
    · exact c_X4_copy_2_1 hS r_pf r_po r_pn
    · exact c_X4_copy_2_2 hS r_pf r_po r_pn
    · exact c_X4_copy_2_3 hS r_pf r_po r_pn
    · exact c_X4_copy_2_N hS r_pf r_pt r_po r_pn hot
  · rcases (show pt = 0 ∨ pt = 1 ∨ pt = 2 ∨ pt = 3 ∨ (pt < 0 ∨ 3 < pt) by omega) with rfl | rfl | rfl | rfl | hot
    · exact c_X4_copy_3_0 hS r_pf r_po r_pn
    · exact c_X4_copy_3_1 hS r_pf r_po r_pn
    · exact c_X4_copy_3_2 hS r_pf r_po r_pn
    · exact c_X4_copy_3_3 hS r_pf r_po r_pn
    · exact c_X4_copy_3_N hS r_pf r_pt r_po r_pn hot
  · rcases (show pt = 0 ∨ pt = 1 ∨ pt = 2 ∨ pt = 3 ∨ (pt < 0 ∨ 3 < pt) by omega) with rfl | rfl | rfl | rfl | hot
    · exact c_X4_copy_N_0 hS r_ps r_pf r_po r_pn hos
    · exact c_X4_copy_N_1 hS r_ps r_pf r_po r_pn hos
    · exact c_X4_copy_N_2 hS r_ps r_pf r_po r_pn hos
    · exact c_X4_copy_N_3 hS r_ps r_pf r_po r_pn hos
    · exact c_X4_copy_N_N hS r_ps r_pf r_pt r_po r_pn hos hot
