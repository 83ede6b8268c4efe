variable {E : EV} {l : Launch} {a k b t x : Nat → Nat} {q : Nat → Nat → Nat} {fd k1 k2 k3 k4 k5 k6 k7 k8 k9 xs xi xk xc xl xr xb yl yr t1 t2 t3 t4 t5 t6 t7 t8 t9 tp : Nat → Int32} {hk nk ht nt e1 e2 e3 e4 v0 : Int32} {c0 c1 c2 c3 : Nat → Int64} {A K : Es} {ph tq bq sq : Int → Int} {cq : Int → Int → Int64} {ik tn : Int}
set_option maxHeartbeats 4000000 in
theorem c_X4_lays_0 (hS : RepC (((iv (ik)), fd), ((hk), (nk), (k1, k2, k3, k4, k5, k6, k7, k8, k9)), ((iv (hr A)), (iv (pe A)), (xs, xi, xk, xc, xl, xr, xb, yl, yr)), ((ht), (nt), (t1, t2, t3, t4, t5, t6, t7, t8, t9)), ((iv (tn)), (e1), (e2), (e3), (e4), tp), ((iv (bq 0)), (iv (sq 0)), c0), ((iv (bq 1)), (iv (sq 1)), c1), ((iv (bq 2)), (iv (sq 2)), c2), ((iv (bq 3)), (iv (sq 3)), c3)) (A, K, ik, ph, tq, tn, bq, sq, cq)) : MI (S := Tc) E l yX4_lays cX4_lays 7 (some FieldType.int) (rmk 2 44) (wO E a k b t x q ((iv (ik))) fd ++ (wS E k ((hk)) ((nk)) (k1, k2, k3, k4, k5, k6, k7, k8, k9) ++ (wS E b ((iv (hr A))) ((iv (pe A))) (xs, xi, xk, xc, xl, xr, xb, yl, yr) ++ (wS E t ((ht)) ((nt)) (t1, t2, t3, t4, t5, t6, t7, t8, t9) ++ (wX E x ((iv (tn))) ((e1)) ((e2)) ((e3)) ((e4)) tp ++ (wH E (q 0) ((iv (bq 0))) ((iv (sq 0))) c0 ++ (wH E (q 1) ((iv (bq 1))) ((iv (sq 1))) c1 ++ (wH E (q 2) ((iv (bq 2))) ((iv (sq 2))) c2 ++ (wH E (q 3) ((iv (bq 3))) ((iv (sq 3))) c3 ++ []))))))))) [.ref (a 0), .int (iv (0))] (fun r u => r = iv ((q_lays A bq sq cq ph 0).1) ∧ RepC u ((q_lays A bq sq cq ph 0).2.1, K, ik, (q_lays A bq sq cq ph 0).2.2, tq, tn, bq, sq, cq)) (fun u => wT E a k b t x q u) := by
  refine goI (S := Tc) (post := fun r u => r = iv ((q_lays A bq sq cq ph 0).1) ∧ RepC u ((q_lays A bq sq cq ph 0).2.1, K, ik, (q_lays A bq sq cq ph 0).2.2, tq, tn, bq, sq, cq)) (ws' := fun u => wT E a k b t x q u) (by decide) (Nat.le_of_ble_eq_true rfl) ?_
  intro pp e s m below meth c ls args Q ret X h hl
  have hl : lv_has ls 7 [(0, .ref (a 0)), (1, .int (iv (0)))] := hl
  have hR : RS (xs, xi, xk, xc, xl, xr, xb, yl, yr) A := hS.1.2.2.1
  have hI : IA A := hS.1.2.2.2.1
  have hr9 : hr A ≤ 99999 := hS.1.2.2.2.2
  have hF : RF 7 fd ph := hS.2.2.1
  have hK := hS.2.1
  have hT := hS.2.2.2.1
  have hB := hS.2.2.2.2
  have hh : hr A < 1000000 := by omega
  have n8 := hI.n8
  have n0 := hI.n0
  have h0 := hI.h0
  have ht0 : 0 ≤ tn := hS.2.2.2.1.2.1
  have ht1 : tn ≤ 120 := hS.2.2.2.1.2.2.1
  have hk01 : ik = 0 ∨ ik = 1 := hS.2.1.2.1
  have hB3 : okB bq sq := hS.2.2.2.2.1
  have hH0 : RepH (iv (bq 0), iv (sq 0), c0) bq sq cq 0 := hS.2.2.2.2.2.1
  have hH1 : RepH (iv (bq 1), iv (sq 1), c1) bq sq cq 1 := hS.2.2.2.2.2.2.1
  have hH2 : RepH (iv (bq 2), iv (sq 2), c2) bq sq cq 2 := hS.2.2.2.2.2.2.2.1
  have hH3 : RepH (iv (bq 3), iv (sq 3), c3) bq sq cq 3 := hS.2.2.2.2.2.2.2.2
  have ob0 := hB3.1 0 (by omega) (by omega)
  have zb0 := hB3.2 0 (by omega) (by omega)
  refine lv_aload_n X.1 X.2.1 dX4_lays_0 rfl (lv_at hl 0 rfl) ?_
  refine lv_iload_n X.1 X.2.1 dX4_lays_1 rfl (lv_at hl 1 rfl) ?_
  refine z_pq (run_V (rest := []) X h (c_sheetAt0) mi_X4_sheetAt ml_X4_184 ⟨Nat.le_of_ble_eq_true rfl, Nat.le_of_ble_eq_true rfl⟩ ⟨rfl, rfl⟩ (Seg.rfl' _) 3 0 rfl rfl rfl rfl hl.1 rfl (Nat.le_of_ble_eq_true rfl) ⟨Nat.zero_le _, Nat.zero_le _⟩ dX4_lays_2) ?_
  refine W.eq (g2 := F0 m 5 ls [.ref (q 0 0)]) rfl ?_
  refine lv_astore_n (lv' := [(2, .ref (q 0 0)), (0, .ref (a 0)), (1, .int (iv (0)))]) X.1 X.2.1 dX4_lays_5 rfl hl (by decide) rfl (fun ls hl => ?_)
  refine lv_aload_n X.1 X.2.1 dX4_lays_6 rfl (lv_at hl 0 rfl) ?_
  refine lv_ifnonnull (tgt := 17) X.1 X.2.1 dX4_lays_7 (by decide) ?_
  refine lv_aload_n X.1 X.2.1 dX4_lays_17 rfl (lv_at hl 0 rfl) ?_
  refine z_pi (run_V (rest := []) X (st_sing (st_in (st_in (st_in (st_in (st_in (st_nil h))))))) (c_X0_isMissing (y := q 0) (bt := bq 0) ⟨by omega, by omega⟩) mi_X0_isMissing ml_X4_193 ⟨Nat.le_of_ble_eq_true rfl, Nat.le_of_ble_eq_true rfl⟩ ⟨rfl, rfl⟩ (Seg.mk' _ _) 0 35 rfl rfl rfl rfl hl.1 rfl (Nat.le_of_ble_eq_true rfl) ⟨Nat.zero_le _, Nat.zero_le _⟩ dX4_lays_18) ?_
  refine z_ifb_eq (tgt := 31) X dX4_lays_21 (by decide) (fun c_21 => ?_) (fun c_21 => ?_)
  · refine z_iconst X dX4_lays_31 ?_
    refine lv_istore_n (lv' := [(3, .int (iv (0))), (2, .ref (q 0 0)), (0, .ref (a 0)), (1, .int (iv (0)))]) X.1 X.2.1 dX4_lays_32 rfl hl (by decide) rfl (fun ls hl => ?_)
    refine z_iconst X dX4_lays_33 ?_
    refine lv_istore (lv' := [(4, .int (iv (0))), (3, .int (iv (0))), (2, .ref (q 0 0)), (0, .ref (a 0)), (1, .int (iv (0)))]) X.1 X.2.1 dX4_lays_34 hl (by decide) rfl (fun ls hl => ?_)
    have L36 : ∀ (fuel_ : Nat) (i : Int) (kk : Int) (uu : Nat → Int32), (0 ≤ i) → (i ≤ sq 0) → (i ≤ 10) → (RS (uu, xi, xk, xc, xl, xr, xb, yl, yr) (layk (cq 0) A i.toNat).1) → (kk = (layk (cq 0) A i.toNat).2) → 10 - i < (fuel_ : Int) → ∀ (H : Heap) (locs : List Loc), St E (wO E a k b t x q ((iv (ik))) fd ++ (wS E k ((hk)) ((nk)) (k1, k2, k3, k4, k5, k6, k7, k8, k9) ++ (wS E b ((iv (hr A))) ((iv (pe A))) (xs, xi, xk, xc, xl, xr, xb, yl, yr) ++ (wS E t ((ht)) ((nt)) (t1, t2, t3, t4, t5, t6, t7, t8, t9) ++ (wX E x ((iv (tn))) ((e1)) ((e2)) ((e3)) ((e4)) tp ++ (wH E (q 0) ((iv (bq 0))) ((iv (sq 0))) c0 ++ (wH E (q 1) ((iv (bq 1))) ((iv (sq 1))) c1 ++ (wH E (q 2) ((iv (bq 2))) ((iv (sq 2))) c2 ++ (wH E (q 3) ((iv (bq 3))) ((iv (sq 3))) c3 ++ []))))))))) s H locs (wO E a k b t x q ((iv (ik))) fd ++ (wS E k ((hk)) ((nk)) (k1, k2, k3, k4, k5, k6, k7, k8, k9) ++ (wS E b ((iv (hr A))) ((iv (pe A))) (uu, xi, xk, xc, xl, xr, xb, yl, yr) ++ (wS E t ((ht)) ((nt)) (t1, t2, t3, t4, t5, t6, t7, t8, t9) ++ (wX E x ((iv (tn))) ((e1)) ((e2)) ((e3)) ((e4)) tp ++ (wH E (q 0) ((iv (bq 0))) ((iv (sq 0))) c0 ++ (wH E (q 1) ((iv (bq 1))) ((iv (sq 1))) c1 ++ (wH E (q 2) ((iv (bq 2))) ((iv (sq 2))) c2 ++ (wH E (q 3) ((iv (bq 3))) ((iv (sq 3))) c3 ++ []))))))))) → ∀ ls : Array Slot, lv_has ls 7 [(2, .ref (q 0 0)), (0, .ref (a 0)), (1, .int (iv (0))), (3, .int (iv (kk))), (4, .int (iv (i)))] → W pp l e (rmk 2 44) s m args below meth c H locs 0 0 Q (F0 m 36 ls []) := by
      intro fuel_
      induction fuel_ with
      | zero =>
        intro i kk uu i0 i1 i2 hv hn2 hn
        exfalso; omega
      | succ fuel_ ih =>
        intro i kk uu i0 i1 i2 hv hn2 hn H locs h ls hl
        refine lv_iload X.1 X.2.1 dX4_lays_36 (lv_at hl 4 rfl) ?_
        refine lv_aload_n X.1 X.2.1 dX4_lays_38 rfl (lv_at hl 0 rfl) ?_
        refine z_get X h 0 35 1 rfl inX0 rfl (by decide) fl_X4_192 rfl dX4_lays_39 ?_
        refine z_ic_ge (tgt := 99) X ⟨by omega, by omega⟩ ⟨by omega, by omega⟩ dX4_lays_42 (by decide) (fun c_42 => ?_) (fun c_42 => ?_)
        · have ei : i = min10 (sq 0) := by unfold min10; split <;> omega
          have hve : RS (uu, xi, xk, xc, xl, xr, xb, yl, yr) (layk (cq 0) A (min10 (sq 0)).toNat).1 := by rw [← ei]; exact hv
          refine lv_iload_n X.1 X.2.1 dX4_lays_99 rfl (lv_at hl 3 rfl) ?_
          have e9 : q_lays A bq sq cq ph 0 = (kk, (layk (cq 0) A (min10 (sq 0)).toNat).1, ph) := by unfold q_lays; rw [if_neg (by omega), if_neg (by omega), hn2, ei]
          exact ret _ _ _ _ _ (((iv (ik)), fd), ((hk), (nk), (k1, k2, k3, k4, k5, k6, k7, k8, k9)), ((iv (hr A)), (iv (pe A)), (uu, xi, xk, xc, xl, xr, xb, yl, yr)), ((ht), (nt), (t1, t2, t3, t4, t5, t6, t7, t8, t9)), ((iv (tn)), (e1), (e2), (e3), (e4), tp), ((iv (bq 0)), (iv (sq 0)), c0), ((iv (bq 1)), (iv (sq 1)), c1), ((iv (bq 2)), (iv (sq 2)), c2), ((iv (bq 3)), (iv (sq 3)), c3)) h (by rw [e9]; exact ⟨rfl, ⟨⟨(congrArg iv (layk_pe (cq 0) A _).2.symm), (congrArg iv (layk_pe (cq 0) A _).1.symm), hve, (layk_IA hI _), (by rw [(layk_pe (cq 0) A _).2]; exact hr9)⟩, hK, hF, hT, hB⟩⟩) dX4_lays_100
        · refine lv_iload X.1 X.2.1 dX4_lays_45 (lv_at hl 4 rfl) ?_
          refine z_bipush X (by decide) dX4_lays_47 ?_
          refine z_ic_ge (tgt := 99) X ⟨by omega, by omega⟩ ⟨by decide, by decide⟩ dX4_lays_49 (by decide) (fun c_49 => ?_) (fun c_49 => ?_)
          · have ei : i = min10 (sq 0) := by unfold min10; split <;> omega
            have hve : RS (uu, xi, xk, xc, xl, xr, xb, yl, yr) (layk (cq 0) A (min10 (sq 0)).toNat).1 := by rw [← ei]; exact hv
            refine lv_iload_n X.1 X.2.1 dX4_lays_99 rfl (lv_at hl 3 rfl) ?_
            have e9 : q_lays A bq sq cq ph 0 = (kk, (layk (cq 0) A (min10 (sq 0)).toNat).1, ph) := by unfold q_lays; rw [if_neg (by omega), if_neg (by omega), hn2, ei]
            exact ret _ _ _ _ _ (((iv (ik)), fd), ((hk), (nk), (k1, k2, k3, k4, k5, k6, k7, k8, k9)), ((iv (hr A)), (iv (pe A)), (uu, xi, xk, xc, xl, xr, xb, yl, yr)), ((ht), (nt), (t1, t2, t3, t4, t5, t6, t7, t8, t9)), ((iv (tn)), (e1), (e2), (e3), (e4), tp), ((iv (bq 0)), (iv (sq 0)), c0), ((iv (bq 1)), (iv (sq 1)), c1), ((iv (bq 2)), (iv (sq 2)), c2), ((iv (bq 3)), (iv (sq 3)), c3)) h (by rw [e9]; exact ⟨rfl, ⟨⟨(congrArg iv (layk_pe (cq 0) A _).2.symm), (congrArg iv (layk_pe (cq 0) A _).1.symm), hve, (layk_IA hI _), (by rw [(layk_pe (cq 0) A _).2]; exact hr9)⟩, hK, hF, hT, hB⟩⟩) dX4_lays_100
          · refine lv_aload_n X.1 X.2.1 dX4_lays_52 rfl (lv_at hl 0 rfl) ?_
            refine z_get X h 0 35 2 rfl inX0 rfl (by decide) fl_X4_198 rfl dX4_lays_53 ?_
            refine lv_iload X.1 X.2.1 dX4_lays_56 (lv_at hl 4 rfl) ?_
            refine z_laldv (v := cq 0 i) X h 36 rfl (by omega) (by omega) (by decide) (hH0.2.2 i (by omega) (by omega)) dX4_lays_58 ?_
            refine lv_lstore (lv' := [(5, .long (cq 0 i)), (2, .ref (q 0 0)), (0, .ref (a 0)), (1, .int (iv (0))), (3, .int (iv (kk))), (4, .int (iv (i)))]) X.1 X.2.1 dX4_lays_59 hl (by decide) rfl (fun ls hl => ?_)
            refine lv_lload X.1 X.2.1 dX4_lays_61 (lv_at hl 0 rfl) ?_
            refine lv_lconst (v := 0) X.1 X.2.1 dX4_lays_63 (by decide) ?_
            refine z_lcmp (a := (cq 0 i).toInt) (b := 0) X rfl (by decide) dX4_lays_64 ?_
            refine z_ifc_lt (tgt := 93) X dX4_lays_65 (by decide) (fun c_65 => ?_) (fun c_65 => ?_)
            · refine z_iinc (k := 5) (lv' := [(4, .int (iv (i + 1))), (5, .long (cq 0 i)), (2, .ref (q 0 0)), (0, .ref (a 0)), (1, .int (iv (0))), (3, .int (iv (kk)))]) X dX4_lays_93 hl rfl (by decide) rfl (fun ls hl => ?_)
              refine lv_goto (tgt := 36) X.1 X.2.1 dX4_lays_96 (by decide) ?_
              exact ih (i + 1) (kk) (uu) (by omega) (by omega) (by omega) (by rw [layk_no i0 (by omega)]; exact hv) (by rw [layk_no i0 (by omega)]; exact hn2) (by omega) _ _ h ls (lv_sub hl [2, 3, 4, 5, 0] rfl)
            · refine lv_lload X.1 X.2.1 dX4_lays_68 (lv_at hl 0 rfl) ?_
              refine lv_ldc2 (v := 9) X.1 X.2.1 X.2.2.2.1 (X.2.2.2.2.1 _ ct_X4_218) dX4_lays_70 ?_
              refine z_lcmp (a := (cq 0 i).toInt) (b := 9) X rfl (by decide) dX4_lays_73 ?_
              refine z_ifc_gt (tgt := 93) X dX4_lays_74 (by decide) (fun c_74 => ?_) (fun c_74 => ?_)
              · refine z_iinc (k := 5) (lv' := [(4, .int (iv (i + 1))), (5, .long (cq 0 i)), (2, .ref (q 0 0)), (0, .ref (a 0)), (1, .int (iv (0))), (3, .int (iv (kk)))]) X dX4_lays_93 hl rfl (by decide) rfl (fun ls hl => ?_)
                refine lv_goto (tgt := 36) X.1 X.2.1 dX4_lays_96 (by decide) ?_
                exact ih (i + 1) (kk) (uu) (by omega) (by omega) (by omega) (by rw [layk_no i0 (by omega)]; exact hv) (by rw [layk_no i0 (by omega)]; exact hn2) (by omega) _ _ h ls (lv_sub hl [2, 3, 4, 5, 0] rfl)
              · refine lv_aload_n X.1 X.2.1 dX4_lays_77 rfl (lv_at hl 2 rfl) ?_
                refine z_get X h 3 0 0 rfl inX4 rfl (by decide) fl_X4_10 rfl dX4_lays_78 ?_
                refine z_get X h 1 13 2 rfl inX1 rfl (by decide) fl_X4_53 rfl dX4_lays_81 ?_
                refine lv_iload X.1 X.2.1 dX4_lays_84 (lv_at hl 5 rfl) ?_
                refine lv_lload X.1 X.2.1 dX4_lays_86 (lv_at hl 0 rfl) ?_
                refine lv_l2i (v := (cq 0 i).toInt32) X.1 X.2.1 dX4_lays_88 rfl ?_
                refine W.eq (g2 := F0 m 89 ls [.int (iv ((cq 0 i).toInt)), .int (iv (i)), .ref (b 1)]) (by rw [i64_small (x := cq 0 i) (by omega) (by omega)]) ?_
                refine s_iast X (st_in (st_in (st_nil h))) 1 rfl (by omega) (by omega) (by decide) dX4_lays_89 (fun H locs h => ?_)
                have h := (st_lin (st_out (st_out (st_eq wS_suns h))))
                have h : St E _ s H locs (wO E a k b t x q ((iv (ik))) fd ++ (wS E k ((hk)) ((nk)) (k1, k2, k3, k4, k5, k6, k7, k8, k9) ++ (wS E b ((iv (hr A))) ((iv (pe A))) ((upd uu (i : Int).toNat (iv ((cq 0 i).toInt))), xi, xk, xc, xl, xr, xb, yl, yr) ++ (wS E t ((ht)) ((nt)) (t1, t2, t3, t4, t5, t6, t7, t8, t9) ++ (wX E x ((iv (tn))) ((e1)) ((e2)) ((e3)) ((e4)) tp ++ (wH E (q 0) ((iv (bq 0))) ((iv (sq 0))) c0 ++ (wH E (q 1) ((iv (bq 1))) ((iv (sq 1))) c1 ++ (wH E (q 2) ((iv (bq 2))) ((iv (sq 2))) c2 ++ (wH E (q 3) ((iv (bq 3))) ((iv (sq 3))) c3 ++ []))))))))) := h
                have hRn := RS_su hv (i := i) (v := (cq 0 i).toInt) i0
                refine z_iinc (k := 4) (lv' := [(3, .int (iv (kk + 1))), (5, .long (cq 0 i)), (2, .ref (q 0 0)), (0, .ref (a 0)), (1, .int (iv (0))), (4, .int (iv (i)))]) X dX4_lays_90 hl rfl (by decide) rfl (fun ls hl => ?_)
                refine z_iinc (k := 5) (lv' := [(4, .int (iv (i + 1))), (3, .int (iv (kk + 1))), (5, .long (cq 0 i)), (2, .ref (q 0 0)), (0, .ref (a 0)), (1, .int (iv (0)))]) X dX4_lays_93 hl rfl (by decide) rfl (fun ls hl => ?_)
                refine lv_goto (tgt := 36) X.1 X.2.1 dX4_lays_96 (by decide) ?_
                exact ih (i + 1) (kk + 1) ((upd uu (i : Int).toNat (iv ((cq 0 i).toInt)))) (by omega) (by omega) (by omega) (by rw [layk_y i0 (by omega)]; exact hRn) (by rw [layk_y i0 (by omega)]; show _ = _; omega) (by omega) _ _ h ls (lv_sub hl [3, 4, 5, 1, 0] rfl)
    exact L36 ((10 - (0) : Int).toNat + 1) (0) (0) (xs) (by omega) (by omega) (by omega) (hR) (rfl) (by omega) _ _ h ls (lv_sub hl [2, 3, 4, 1, 0] rfl)
  · refine lv_aload_n X.1 X.2.1 dX4_lays_24 rfl (lv_at hl 1 rfl) ?_
    refine z_ldc (z := (-1000000006)) X ct_X4_197 (by decide) dX4_lays_25 ?_
    refine z_wi (st_sing (st_nil h)) (run_V (rest := []) X (st_sing (st_nil h)) (c_X4_finding (j := 5) hF (by decide) (by decide) (by decide)) mi_X4_finding ml_X4_49 ⟨Nat.le_of_ble_eq_true rfl, Nat.le_of_ble_eq_true rfl⟩ ⟨rfl, rfl⟩ (Seg.mk' _ _) 3 0 rfl rfl rfl rfl hl.1 rfl (Nat.le_of_ble_eq_true rfl) ⟨Nat.zero_le _, Nat.zero_le _⟩ dX4_lays_27) (fun _ => map_app (wO_map _ _ _ _ _ _ _ _ _ _ _) rfl) (fun r fd1 H locs hp h => ?_)
    have h := (st_lin (st_gnis h))
    obtain ⟨rfl, hF1⟩ := hp
    have h : St E _ s H locs (wO E a k b t x q ((iv (ik))) fd1 ++ (wS E k ((hk)) ((nk)) (k1, k2, k3, k4, k5, k6, k7, k8, k9) ++ (wS E b ((iv (hr A))) ((iv (pe A))) (xs, xi, xk, xc, xl, xr, xb, yl, yr) ++ (wS E t ((ht)) ((nt)) (t1, t2, t3, t4, t5, t6, t7, t8, t9) ++ (wX E x ((iv (tn))) ((e1)) ((e2)) ((e3)) ((e4)) tp ++ (wH E (q 0) ((iv (bq 0))) ((iv (sq 0))) c0 ++ (wH E (q 1) ((iv (bq 1))) ((iv (sq 1))) c1 ++ (wH E (q 2) ((iv (bq 2))) ((iv (sq 2))) c2 ++ (wH E (q 3) ((iv (bq 3))) ((iv (sq 3))) c3 ++ []))))))))) := h
    have e9 : q_lays A bq sq cq ph 0 = ((-1000000006), A, (bump ph 5)) := by unfold q_lays; (repeat (first | rw [if_pos (by omega)] | rw [if_neg (by omega)])); try rfl
    exact ret _ _ _ _ _ (((iv (ik)), fd1), ((hk), (nk), (k1, k2, k3, k4, k5, k6, k7, k8, k9)), ((iv (hr A)), (iv (pe A)), (xs, xi, xk, xc, xl, xr, xb, yl, yr)), ((ht), (nt), (t1, t2, t3, t4, t5, t6, t7, t8, t9)), ((iv (tn)), (e1), (e2), (e3), (e4), tp), ((iv (bq 0)), (iv (sq 0)), c0), ((iv (bq 1)), (iv (sq 1)), c1), ((iv (bq 2)), (iv (sq 2)), c2), ((iv (bq 3)), (iv (sq 3)), c3)) h (by rw [e9]; exact ⟨rfl, ⟨⟨rfl, rfl, hR, hI, hr9⟩, hK, hF1, hT, hB⟩⟩) dX4_lays_30

set_option maxHeartbeats 4000000 in
theorem c_X4_lays_1 (hS : RepC (((iv (ik)), fd), ((hk), (nk), (k1, k2, k3, k4, k5, k6, k7, k8, k9)), ((iv (hr A)), (iv (pe A)), (xs, xi, xk, xc, xl, xr, xb, yl, yr)), ((ht), (nt), (t1, t2, t3, t4, t5, t6, t7, t8, t9)), ((iv (tn)), (e1), (e2), (e3), (e4), tp), ((iv (bq 0)), (iv (sq 0)), c0), ((iv (bq 1)), (iv (sq 1)), c1), ((iv (bq 2)), (iv (sq 2)), c2), ((iv (bq 3)), (iv (sq 3)), c3)) (A, K, ik, ph, tq, tn, bq, sq, cq)) : MI (S := Tc) E l yX4_lays cX4_lays 7 (some FieldType.int) (rmk 2 44) (wO E a k b t x q ((iv (ik))) fd ++ (wS E k ((hk)) ((nk)) (k1, k2, k3, k4, k5, k6, k7, k8, k9) ++ (wS E b ((iv (hr A))) ((iv (pe A))) (xs, xi, xk, xc, xl, xr, xb, yl, yr) ++ (wS E t ((ht)) ((nt)) (t1, t2, t3, t4, t5, t6, t7, t8, t9) ++ (wX E x ((iv (tn))) ((e1)) ((e2)) ((e3)) ((e4)) tp ++ (wH E (q 0) ((iv (bq 0))) ((iv (sq 0))) c0 ++ (wH E (q 1) ((iv (bq 1))) ((iv (sq 1))) c1 ++ (wH E (q 2) ((iv (bq 2))) ((iv (sq 2))) c2 ++ (wH E (q 3) ((iv (bq 3))) ((iv (sq 3))) c3 ++ []))))))))) [.ref (a 0), .int (iv (1))] (fun r u => r = iv ((q_lays A bq sq cq ph 1).1) ∧ RepC u ((q_lays A bq sq cq ph 1).2.1, K, ik, (q_lays A bq sq cq ph 1).2.2, tq, tn, bq, sq, cq)) (fun u => wT E a k b t x q u) := by
  refine goI (S := Tc) (post := fun r u => r = iv ((q_lays A bq sq cq ph 1).1) ∧ RepC u ((q_lays A bq sq cq ph 1).2.1, K, ik, (q_lays A bq sq cq ph 1).2.2, tq, tn, bq, sq, cq)) (ws' := fun u => wT E a k b t x q u) (by decide) (Nat.le_of_ble_eq_true rfl) ?_
  intro pp e s m below meth c ls args Q ret X h hl
  have hl : lv_has ls 7 [(0, .ref (a 0)), (1, .int (iv (1)))] := hl
  have hR : RS (xs, xi, xk, xc, xl, xr, xb, yl, yr) A := hS.1.2.2.1
  have hI : IA A := hS.1.2.2.2.1
  have hr9 : hr A ≤ 99999 := hS.1.2.2.2.2
  have hF : RF 7 fd ph := hS.2.2.1
  have hK := hS.2.1
  have hT := hS.2.2.2.1
  have hB := hS.2.2.2.2
  have hh : hr A < 1000000 := by omega
  have n8 := hI.n8
  have n0 := hI.n0
  have h0 := hI.h0
  have ht0 : 0 ≤ tn := hS.2.2.2.1.2.1
  have ht1 : tn ≤ 120 := hS.2.2.2.1.2.2.1
  have hk01 : ik = 0 ∨ ik = 1 := hS.2.1.2.1
  have hB3 : okB bq sq := hS.2.2.2.2.1
  have hH0 : RepH (iv (bq 0), iv (sq 0), c0) bq sq cq 0 := hS.2.2.2.2.2.1
  have hH1 : RepH (iv (bq 1), iv (sq 1), c1) bq sq cq 1 := hS.2.2.2.2.2.2.1
  have hH2 : RepH (iv (bq 2), iv (sq 2), c2) bq sq cq 2 := hS.2.2.2.2.2.2.2.1
  have hH3 : RepH (iv (bq 3), iv (sq 3), c3) bq sq cq 3 := hS.2.2.2.2.2.2.2.2
  have ob1 := hB3.1 1 (by omega) (by omega)
  have zb1 := hB3.2 1 (by omega) (by omega)
  refine lv_aload_n X.1 X.2.1 dX4_lays_0 rfl (lv_at hl 0 rfl) ?_
  refine lv_iload_n X.1 X.2.1 dX4_lays_1 rfl (lv_at hl 1 rfl) ?_
  refine z_pq (run_V (rest := []) X h (c_sheetAt1) mi_X4_sheetAt ml_X4_184 ⟨Nat.le_of_ble_eq_true rfl, Nat.le_of_ble_eq_true rfl⟩ ⟨rfl, rfl⟩ (Seg.rfl' _) 3 0 rfl rfl rfl rfl hl.1 rfl (Nat.le_of_ble_eq_true rfl) ⟨Nat.zero_le _, Nat.zero_le _⟩ dX4_lays_2) ?_
  refine W.eq (g2 := F0 m 5 ls [.ref (q 1 0)]) rfl ?_
  refine lv_astore_n (lv' := [(2, .ref (q 1 0)), (0, .ref (a 0)), (1, .int (iv (1)))]) X.1 X.2.1 dX4_lays_5 rfl hl (by decide) rfl (fun ls hl => ?_)
  refine lv_aload_n X.1 X.2.1 dX4_lays_6 rfl (lv_at hl 0 rfl) ?_
  refine lv_ifnonnull (tgt := 17) X.1 X.2.1 dX4_lays_7 (by decide) ?_
  refine lv_aload_n X.1 X.2.1 dX4_lays_17 rfl (lv_at hl 0 rfl) ?_
  refine z_pi (run_V (rest := []) X (st_sing (st_in (st_in (st_in (st_in (st_in (st_in (st_nil h)))))))) (c_X0_isMissing (y := q 1) (bt := bq 1) ⟨by omega, by omega⟩) mi_X0_isMissing ml_X4_193 ⟨Nat.le_of_ble_eq_true rfl, Nat.le_of_ble_eq_true rfl⟩ ⟨rfl, rfl⟩ (Seg.mk' _ _) 0 37 rfl rfl rfl rfl hl.1 rfl (Nat.le_of_ble_eq_true rfl) ⟨Nat.zero_le _, Nat.zero_le _⟩ dX4_lays_18) ?_
  refine z_ifb_eq (tgt := 31) X dX4_lays_21 (by decide) (fun c_21 => ?_) (fun c_21 => ?_)
  · refine z_iconst X dX4_lays_31 ?_
    refine lv_istore_n (lv' := [(3, .int (iv (0))), (2, .ref (q 1 0)), (0, .ref (a 0)), (1, .int (iv (1)))]) X.1 X.2.1 dX4_lays_32 rfl hl (by decide) rfl (fun ls hl => ?_)
    refine z_iconst X dX4_lays_33 ?_
    refine lv_istore (lv' := [(4, .int (iv (0))), (3, .int (iv (0))), (2, .ref (q 1 0)), (0, .ref (a 0)), (1, .int (iv (1)))]) X.1 X.2.1 dX4_lays_34 hl (by decide) rfl (fun ls hl => ?_)
    have L36 : ∀ (fuel_ : Nat) (i : Int) (kk : Int) (uu : Nat → Int32), (0 ≤ i) → (i ≤ sq 1) → (i ≤ 10) → (RS (uu, xi, xk, xc, xl, xr, xb, yl, yr) (layk (cq 1) A i.toNat).1) → (kk = (layk (cq 1) A i.toNat).2) → 10 - i < (fuel_ : Int) → ∀ (H : Heap) (locs : List Loc), St E (wO E a k b t x q ((iv (ik))) fd ++ (wS E k ((hk)) ((nk)) (k1, k2, k3, k4, k5, k6, k7, k8, k9) ++ (wS E b ((iv (hr A))) ((iv (pe A))) (xs, xi, xk, xc, xl, xr, xb, yl, yr) ++ (wS E t ((ht)) ((nt)) (t1, t2, t3, t4, t5, t6, t7, t8, t9) ++ (wX E x ((iv (tn))) ((e1)) ((e2)) ((e3)) ((e4)) tp ++ (wH E (q 0) ((iv (bq 0))) ((iv (sq 0))) c0 ++ (wH E (q 1) ((iv (bq 1))) ((iv (sq 1))) c1 ++ (wH E (q 2) ((iv (bq 2))) ((iv (sq 2))) c2 ++ (wH E (q 3) ((iv (bq 3))) ((iv (sq 3))) c3 ++ []))))))))) s H locs (wO E a k b t x q ((iv (ik))) fd ++ (wS E k ((hk)) ((nk)) (k1, k2, k3, k4, k5, k6, k7, k8, k9) ++ (wS E b ((iv (hr A))) ((iv (pe A))) (uu, xi, xk, xc, xl, xr, xb, yl, yr) ++ (wS E t ((ht)) ((nt)) (t1, t2, t3, t4, t5, t6, t7, t8, t9) ++ (wX E x ((iv (tn))) ((e1)) ((e2)) ((e3)) ((e4)) tp ++ (wH E (q 0) ((iv (bq 0))) ((iv (sq 0))) c0 ++ (wH E (q 1) ((iv (bq 1))) ((iv (sq 1))) c1 ++ (wH E (q 2) ((iv (bq 2))) ((iv (sq 2))) c2 ++ (wH E (q 3) ((iv (bq 3))) ((iv (sq 3))) c3 ++ []))))))))) → ∀ ls : Array Slot, lv_has ls 7 [(2, .ref (q 1 0)), (0, .ref (a 0)), (1, .int (iv (1))), (3, .int (iv (kk))), (4, .int (iv (i)))] → W pp l e (rmk 2 44) s m args below meth c H locs 0 0 Q (F0 m 36 ls []) := by
      intro fuel_
      induction fuel_ with
      | zero =>
        intro i kk uu i0 i1 i2 hv hn2 hn
        exfalso; omega
      | succ fuel_ ih =>
        intro i kk uu i0 i1 i2 hv hn2 hn H locs h ls hl
        refine lv_iload X.1 X.2.1 dX4_lays_36 (lv_at hl 4 rfl) ?_
        refine lv_aload_n X.1 X.2.1 dX4_lays_38 rfl (lv_at hl 0 rfl) ?_
        refine z_get X h 0 37 1 rfl inX0 rfl (by decide) fl_X4_192 rfl dX4_lays_39 ?_
        refine z_ic_ge (tgt := 99) X ⟨by omega, by omega⟩ ⟨by omega, by omega⟩ dX4_lays_42 (by decide) (fun c_42 => ?_) (fun c_42 => ?_)
        · have ei : i = min10 (sq 1) := by unfold min10; split <;> omega
          have hve : RS (uu, xi, xk, xc, xl, xr, xb, yl, yr) (layk (cq 1) A (min10 (sq 1)).toNat).1 := by rw [← ei]; exact hv
          refine lv_iload_n X.1 X.2.1 dX4_lays_99 rfl (lv_at hl 3 rfl) ?_
          have e9 : q_lays A bq sq cq ph 1 = (kk, (layk (cq 1) A (min10 (sq 1)).toNat).1, ph) := by unfold q_lays; rw [if_neg (by omega), if_neg (by omega), hn2, ei]
          exact ret _ _ _ _ _ (((iv (ik)), fd), ((hk), (nk), (k1, k2, k3, k4, k5, k6, k7, k8, k9)), ((iv (hr A)), (iv (pe A)), (uu, xi, xk, xc, xl, xr, xb, yl, yr)), ((ht), (nt), (t1, t2, t3, t4, t5, t6, t7, t8, t9)), ((iv (tn)), (e1), (e2), (e3), (e4), tp), ((iv (bq 0)), (iv (sq 0)), c0), ((iv (bq 1)), (iv (sq 1)), c1), ((iv (bq 2)), (iv (sq 2)), c2), ((iv (bq 3)), (iv (sq 3)), c3)) h (by rw [e9]; exact ⟨rfl, ⟨⟨(congrArg iv (layk_pe (cq 1) A _).2.symm), (congrArg iv (layk_pe (cq 1) A _).1.symm), hve, (layk_IA hI _), (by rw [(layk_pe (cq 1) A _).2]; exact hr9)⟩, hK, hF, hT, hB⟩⟩) dX4_lays_100
        · refine lv_iload X.1 X.2.1 dX4_lays_45 (lv_at hl 4 rfl) ?_
          refine z_bipush X (by decide) dX4_lays_47 ?_
          refine z_ic_ge (tgt := 99) X ⟨by omega, by omega⟩ ⟨by decide, by decide⟩ dX4_lays_49 (by decide) (fun c_49 => ?_) (fun c_49 => ?_)
          · have ei : i = min10 (sq 1) := by unfold min10; split <;> omega
            have hve : RS (uu, xi, xk, xc, xl, xr, xb, yl, yr) (layk (cq 1) A (min10 (sq 1)).toNat).1 := by rw [← ei]; exact hv
            refine lv_iload_n X.1 X.2.1 dX4_lays_99 rfl (lv_at hl 3 rfl) ?_
            have e9 : q_lays A bq sq cq ph 1 = (kk, (layk (cq 1) A (min10 (sq 1)).toNat).1, ph) := by unfold q_lays; rw [if_neg (by omega), if_neg (by omega), hn2, ei]
            exact ret _ _ _ _ _ (((iv (ik)), fd), ((hk), (nk), (k1, k2, k3, k4, k5, k6, k7, k8, k9)), ((iv (hr A)), (iv (pe A)), (uu, xi, xk, xc, xl, xr, xb, yl, yr)), ((ht), (nt), (t1, t2, t3, t4, t5, t6, t7, t8, t9)), ((iv (tn)), (e1), (e2), (e3), (e4), tp), ((iv (bq 0)), (iv (sq 0)), c0), ((iv (bq 1)), (iv (sq 1)), c1), ((iv (bq 2)), (iv (sq 2)), c2), ((iv (bq 3)), (iv (sq 3)), c3)) h (by rw [e9]; exact ⟨rfl, ⟨⟨(congrArg iv (layk_pe (cq 1) A _).2.symm), (congrArg iv (layk_pe (cq 1) A _).1.symm), hve, (layk_IA hI _), (by rw [(layk_pe (cq 1) A _).2]; exact hr9)⟩, hK, hF, hT, hB⟩⟩) dX4_lays_100
          · refine lv_aload_n X.1 X.2.1 dX4_lays_52 rfl (lv_at hl 0 rfl) ?_
            refine z_get X h 0 37 2 rfl inX0 rfl (by decide) fl_X4_198 rfl dX4_lays_53 ?_
            refine lv_iload X.1 X.2.1 dX4_lays_56 (lv_at hl 4 rfl) ?_
            refine z_laldv (v := cq 1 i) X h 38 rfl (by omega) (by omega) (by decide) (hH1.2.2 i (by omega) (by omega)) dX4_lays_58 ?_
            refine lv_lstore (lv' := [(5, .long (cq 1 i)), (2, .ref (q 1 0)), (0, .ref (a 0)), (1, .int (iv (1))), (3, .int (iv (kk))), (4, .int (iv (i)))]) X.1 X.2.1 dX4_lays_59 hl (by decide) rfl (fun ls hl => ?_)
            refine lv_lload X.1 X.2.1 dX4_lays_61 (lv_at hl 0 rfl) ?_
            refine lv_lconst (v := 0) X.1 X.2.1 dX4_lays_63 (by decide) ?_
            refine z_lcmp (a := (cq 1 i).toInt) (b := 0) X rfl (by decide) dX4_lays_64 ?_
            refine z_ifc_lt (tgt := 93) X dX4_lays_65 (by decide) (fun c_65 => ?_) (fun c_65 => ?_)
            · refine z_iinc (k := 5) (lv' := [(4, .int (iv (i + 1))), (5, .long (cq 1 i)), (2, .ref (q 1 0)), (0, .ref (a 0)), (1, .int (iv (1))), (3, .int (iv (kk)))]) X dX4_lays_93 hl rfl (by decide) rfl (fun ls hl => ?_)
              refine lv_goto (tgt := 36) X.1 X.2.1 dX4_lays_96 (by decide) ?_
              exact ih (i + 1) (kk) (uu) (by omega) (by omega) (by omega) (by rw [layk_no i0 (by omega)]; exact hv) (by rw [layk_no i0 (by omega)]; exact hn2) (by omega) _ _ h ls (lv_sub hl [2, 3, 4, 5, 0] rfl)
            · refine lv_lload X.1 X.2.1 dX4_lays_68 (lv_at hl 0 rfl) ?_
              refine lv_ldc2 (v := 9) X.1 X.2.1 X.2.2.2.1 (X.2.2.2.2.1 _ ct_X4_218) dX4_lays_70 ?_
              refine z_lcmp (a := (cq 1 i).toInt) (b := 9) X rfl (by decide) dX4_lays_73 ?_
              refine z_ifc_gt (tgt := 93) X dX4_lays_74 (by decide) (fun c_74 => ?_) (fun c_74 => ?_)
              · refine z_iinc (k := 5) (lv' := [(4, .int (iv (i + 1))), (5, .long (cq 1 i)), (2, .ref (q 1 0)), (0, .ref (a 0)), (1, .int (iv (1))), (3, .int (iv (kk)))]) X dX4_lays_93 hl rfl (by decide) rfl (fun ls hl => ?_)
                refine lv_goto (tgt := 36) X.1 X.2.1 dX4_lays_96 (by decide) ?_
                exact ih (i + 1) (kk) (uu) (by omega) (by omega) (by omega) (by rw [layk_no i0 (by omega)]; exact hv) (by rw [layk_no i0 (by omega)]; exact hn2) (by omega) _ _ h ls (lv_sub hl [2, 3, 4, 5, 0] rfl)
              · refine lv_aload_n X.1 X.2.1 dX4_lays_77 rfl (lv_at hl 2 rfl) ?_
                refine z_get X h 3 0 0 rfl inX4 rfl (by decide) fl_X4_10 rfl dX4_lays_78 ?_
                refine z_get X h 1 13 2 rfl inX1 rfl (by decide) fl_X4_53 rfl dX4_lays_81 ?_
                refine lv_iload X.1 X.2.1 dX4_lays_84 (lv_at hl 5 rfl) ?_
                refine lv_lload X.1 X.2.1 dX4_lays_86 (lv_at hl 0 rfl) ?_
                refine lv_l2i (v := (cq 1 i).toInt32) X.1 X.2.1 dX4_lays_88 rfl ?_
                refine W.eq (g2 := F0 m 89 ls [.int (iv ((cq 1 i).toInt)), .int (iv (i)), .ref (b 1)]) (by rw [i64_small (x := cq 1 i) (by omega) (by omega)]) ?_
                refine s_iast X (st_in (st_in (st_nil h))) 1 rfl (by omega) (by omega) (by decide) dX4_lays_89 (fun H locs h => ?_)
                have h := (st_lin (st_out (st_out (st_eq wS_suns h))))
                have h : St E _ s H locs (wO E a k b t x q ((iv (ik))) fd ++ (wS E k ((hk)) ((nk)) (k1, k2, k3, k4, k5, k6, k7, k8, k9) ++ (wS E b ((iv (hr A))) ((iv (pe A))) ((upd uu (i : Int).toNat (iv ((cq 1 i).toInt))), xi, xk, xc, xl, xr, xb, yl, yr) ++ (wS E t ((ht)) ((nt)) (t1, t2, t3, t4, t5, t6, t7, t8, t9) ++ (wX E x ((iv (tn))) ((e1)) ((e2)) ((e3)) ((e4)) tp ++ (wH E (q 0) ((iv (bq 0))) ((iv (sq 0))) c0 ++ (wH E (q 1) ((iv (bq 1))) ((iv (sq 1))) c1 ++ (wH E (q 2) ((iv (bq 2))) ((iv (sq 2))) c2 ++ (wH E (q 3) ((iv (bq 3))) ((iv (sq 3))) c3 ++ []))))))))) := h
                have hRn := RS_su hv (i := i) (v := (cq 1 i).toInt) i0
                refine z_iinc (k := 4) (lv' := [(3, .int (iv (kk + 1))), (5, .long (cq 1 i)), (2, .ref (q 1 0)), (0, .ref (a 0)), (1, .int (iv (1))), (4, .int (iv (i)))]) X dX4_lays_90 hl rfl (by decide) rfl (fun ls hl => ?_)
                refine z_iinc (k := 5) (lv' := [(4, .int (iv (i + 1))), (3, .int (iv (kk + 1))), (5, .long (cq 1 i)), (2, .ref (q 1 0)), (0, .ref (a 0)), (1, .int (iv (1)))]) X dX4_lays_93 hl rfl (by decide) rfl (fun ls hl => ?_)
                refine lv_goto (tgt := 36) X.1 X.2.1 dX4_lays_96 (by decide) ?_
                exact ih (i + 1) (kk + 1) ((upd uu (i : Int).toNat (iv ((cq 1 i).toInt)))) (by omega) (by omega) (by omega) (by rw [layk_y i0 (by omega)]; exact hRn) (by rw [layk_y i0 (by omega)]; show _ = _; omega) (by omega) _ _ h ls (lv_sub hl [3, 4, 5, 1, 0] rfl)
    exact L36 ((10 - (0) : Int).toNat + 1) (0) (0) (xs) (by omega) (by omega) (by omega) (hR) (rfl) (by omega) _ _ h ls (lv_sub hl [2, 3, 4, 1, 0] rfl)
  · refine lv_aload_n X.1 X.2.1 dX4_lays_24 rfl (lv_at hl 1 rfl) ?_
    refine z_ldc (z := (-1000000006)) X ct_X4_197 (by decide) dX4_lays_25 ?_
    refine z_wi (st_sing (st_nil h)) (run_V (rest := []) X (st_sing (st_nil h)) (c_X4_finding (j := 5) hF (by decide) (by decide) (by decide)) mi_X4_finding ml_X4_49 ⟨Nat.le_of_ble_eq_true rfl, Nat.le_of_ble_eq_true rfl⟩ ⟨rfl, rfl⟩ (Seg.mk' _ _) 3 0 rfl rfl rfl rfl hl.1 rfl (Nat.le_of_ble_eq_true rfl) ⟨Nat.zero_le _, Nat.zero_le _⟩ dX4_lays_27) (fun _ => map_app (wO_map _ _ _ _ _ _ _ _ _ _ _) rfl) (fun r fd1 H locs hp h => ?_)
    have h := (st_lin (st_gnis h))
    obtain ⟨rfl, hF1⟩ := hp
    have h : St E _ s H locs (wO E a k b t x q ((iv (ik))) fd1 ++ (wS E k ((hk)) ((nk)) (k1, k2, k3, k4, k5, k6, k7, k8, k9) ++ (wS E b ((iv (hr A))) ((iv (pe A))) (xs, xi, xk, xc, xl, xr, xb, yl, yr) ++ (wS E t ((ht)) ((nt)) (t1, t2, t3, t4, t5, t6, t7, t8, t9) ++ (wX E x ((iv (tn))) ((e1)) ((e2)) ((e3)) ((e4)) tp ++ (wH E (q 0) ((iv (bq 0))) ((iv (sq 0))) c0 ++ (wH E (q 1) ((iv (bq 1))) ((iv (sq 1))) c1 ++ (wH E (q 2) ((iv (bq 2))) ((iv (sq 2))) c2 ++ (wH E (q 3) ((iv (bq 3))) ((iv (sq 3))) c3 ++ []))))))))) := h
    have e9 : q_lays A bq sq cq ph 1 = ((-1000000006), A, (bump ph 5)) := by unfold q_lays; (repeat (first | rw [if_pos (by omega)] | rw [if_neg (by omega)])); try rfl
    exact ret _ _ _ _ _ (((iv (ik)), fd1), ((hk), (nk), (k1, k2, k3, k4, k5, k6, k7, k8, k9)), ((iv (hr A)), (iv (pe A)), (xs, xi, xk, xc, xl, xr, xb, yl, yr)), ((ht), (nt), (t1, t2, t3, t4, t5, t6, t7, t8, t9)), ((iv (tn)), (e1), (e2), (e3), (e4), tp), ((iv (bq 0)), (iv (sq 0)), c0), ((iv (bq 1)), (iv (sq 1)), c1), ((iv (bq 2)), (iv (sq 2)), c2), ((iv (bq 3)), (iv (sq 3)), c3)) h (by rw [e9]; exact ⟨rfl, ⟨⟨rfl, rfl, hR, hI, hr9⟩, hK, hF1, hT, hB⟩⟩) dX4_lays_30

set_option maxHeartbeats 4000000 in
theorem c_X4_lays_2 (hS : RepC (((iv (ik)), fd), ((hk), (nk), (k1, k2, k3, k4, k5, k6, k7, k8, k9)), ((iv (hr A)), (iv (pe A)), (xs, xi, xk, xc, xl, xr, xb, yl, yr)), ((ht), (nt), (t1, t2, t3, t4, t5, t6, t7, t8, t9)), ((iv (tn)), (e1), (e2), (e3), (e4), tp), ((iv (bq 0)), (iv (sq 0)), c0), ((iv (bq 1)), (iv (sq 1)), c1), ((iv (bq 2)), (iv (sq 2)), c2), ((iv (bq 3)), (iv (sq 3)), c3)) (A, K, ik, ph, tq, tn, bq, sq, cq)) : MI (S := Tc) E l yX4_lays cX4_lays 7 (some FieldType.int) (rmk 2 44) (wO E a k b t x q ((iv (ik))) fd ++ (wS E k ((hk)) ((nk)) (k1, k2, k3, k4, k5, k6, k7, k8, k9) ++ (wS E b ((iv (hr A))) ((iv (pe A))) (xs, xi, xk, xc, xl, xr, xb, yl, yr) ++ (wS E t ((ht)) ((nt)) (t1, t2, t3, t4, t5, t6, t7, t8, t9) ++ (wX E x ((iv (tn))) ((e1)) ((e2)) ((e3)) ((e4)) tp ++ (wH E (q 0) ((iv (bq 0))) ((iv (sq 0))) c0 ++ (wH E (q 1) ((iv (bq 1))) ((iv (sq 1))) c1 ++ (wH E (q 2) ((iv (bq 2))) ((iv (sq 2))) c2 ++ (wH E (q 3) ((iv (bq 3))) ((iv (sq 3))) c3 ++ []))))))))) [.ref (a 0), .int (iv (2))] (fun r u => r = iv ((q_lays A bq sq cq ph 2).1) ∧ RepC u ((q_lays A bq sq cq ph 2).2.1, K, ik, (q_lays A bq sq cq ph 2).2.2, tq, tn, bq, sq, cq)) (fun u => wT E a k b t x q u) := by
  refine goI (S := Tc) (post := fun r u => r = iv ((q_lays A bq sq cq ph 2).1) ∧ RepC u ((q_lays A bq sq cq ph 2).2.1, K, ik, (q_lays A bq sq cq ph 2).2.2, tq, tn, bq, sq, cq)) (ws' := fun u => wT E a k b t x q u) (by decide) (Nat.le_of_ble_eq_true rfl) ?_
  intro pp e s m below meth c ls args Q ret X h hl
  have hl : lv_has ls 7 [(0, .ref (a 0)), (1, .int (iv (2)))] := hl
  have hR : RS (xs, xi, xk, xc, xl, xr, xb, yl, yr) A := hS.1.2.2.1
  have hI : IA A := hS.1.2.2.2.1
  have hr9 : hr A ≤ 99999 := hS.1.2.2.2.2
  have hF : RF 7 fd ph := hS.2.2.1
  have hK := hS.2.1
  have hT := hS.2.2.2.1
  have hB := hS.2.2.2.2
  have hh : hr A < 1000000 := by omega
  have n8 := hI.n8
  have n0 := hI.n0
  have h0 := hI.h0
  have ht0 : 0 ≤ tn := hS.2.2.2.1.2.1
  have ht1 : tn ≤ 120 := hS.2.2.2.1.2.2.1
  have hk01 : ik = 0 ∨ ik = 1 := hS.2.1.2.1
  have hB3 : okB bq sq := hS.2.2.2.2.1
  have hH0 : RepH (iv (bq 0), iv (sq 0), c0) bq sq cq 0 := hS.2.2.2.2.2.1
  have hH1 : RepH (iv (bq 1), iv (sq 1), c1) bq sq cq 1 := hS.2.2.2.2.2.2.1
  have hH2 : RepH (iv (bq 2), iv (sq 2), c2) bq sq cq 2 := hS.2.2.2.2.2.2.2.1
  have hH3 : RepH (iv (bq 3), iv (sq 3), c3) bq sq cq 3 := hS.2.2.2.2.2.2.2.2
  have ob2 := hB3.1 2 (by omega) (by omega)
  have zb2 := hB3.2 2 (by omega) (by omega)
  refine lv_aload_n X.1 X.2.1 dX4_lays_0 rfl (lv_at hl 0 rfl) ?_
  refine lv_iload_n X.1 X.2.1 dX4_lays_1 rfl (lv_at hl 1 rfl) ?_
  refine z_pq (run_V (rest := []) X h (c_sheetAt2) mi_X4_sheetAt ml_X4_184 ⟨Nat.le_of_ble_eq_true rfl, Nat.le_of_ble_eq_true rfl⟩ ⟨rfl, rfl⟩ (Seg.rfl' _) 3 0 rfl rfl rfl rfl hl.1 rfl (Nat.le_of_ble_eq_true rfl) ⟨Nat.zero_le _, Nat.zero_le _⟩ dX4_lays_2) ?_
  refine W.eq (g2 := F0 m 5 ls [.ref (q 2 0)]) rfl ?_
  refine lv_astore_n (lv' := [(2, .ref (q 2 0)), (0, .ref (a 0)), (1, .int (iv (2)))]) X.1 X.2.1 dX4_lays_5 rfl hl (by decide) rfl (fun ls hl => ?_)
  refine lv_aload_n X.1 X.2.1 dX4_lays_6 rfl (lv_at hl 0 rfl) ?_
  refine lv_ifnonnull (tgt := 17) X.1 X.2.1 dX4_lays_7 (by decide) ?_
  refine lv_aload_n X.1 X.2.1 dX4_lays_17 rfl (lv_at hl 0 rfl) ?_
  refine z_pi (run_V (rest := []) X (st_sing (st_in (st_in (st_in (st_in (st_in (st_in (st_in (st_nil h))))))))) (c_X0_isMissing (y := q 2) (bt := bq 2) ⟨by omega, by omega⟩) mi_X0_isMissing ml_X4_193 ⟨Nat.le_of_ble_eq_true rfl, Nat.le_of_ble_eq_true rfl⟩ ⟨rfl, rfl⟩ (Seg.mk' _ _) 0 39 rfl rfl rfl rfl hl.1 rfl (Nat.le_of_ble_eq_true rfl) ⟨Nat.zero_le _, Nat.zero_le _⟩ dX4_lays_18) ?_
  refine z_ifb_eq (tgt := 31) X dX4_lays_21 (by decide) (fun c_21 => ?_) (fun c_21 => ?_)
  · refine z_iconst X dX4_lays_31 ?_
    refine lv_istore_n (lv' := [(3, .int (iv (0))), (2, .ref (q 2 0)), (0, .ref (a 0)), (1, .int (iv (2)))]) X.1 X.2.1 dX4_lays_32 rfl hl (by decide) rfl (fun ls hl => ?_)
    refine z_iconst X dX4_lays_33 ?_
    refine lv_istore (lv' := [(4, .int (iv (0))), (3, .int (iv (0))), (2, .ref (q 2 0)), (0, .ref (a 0)), (1, .int (iv (2)))]) X.1 X.2.1 dX4_lays_34 hl (by decide) rfl (fun ls hl => ?_)
    have L36 : ∀ (fuel_ : Nat) (i : Int) (kk : Int) (uu : Nat → Int32), (0 ≤ i) → (i ≤ sq 2) → (i ≤ 10) → (RS (uu, xi, xk, xc, xl, xr, xb, yl, yr) (layk (cq 2) A i.toNat).1) → (kk = (layk (cq 2) A i.toNat).2) → 10 - i < (fuel_ : Int) → ∀ (H : Heap) (locs : List Loc), St E (wO E a k b t x q ((iv (ik))) fd ++ (wS E k ((hk)) ((nk)) (k1, k2, k3, k4, k5, k6, k7, k8, k9) ++ (wS E b ((iv (hr A))) ((iv (pe A))) (xs, xi, xk, xc, xl, xr, xb, yl, yr) ++ (wS E t ((ht)) ((nt)) (t1, t2, t3, t4, t5, t6, t7, t8, t9) ++ (wX E x ((iv (tn))) ((e1)) ((e2)) ((e3)) ((e4)) tp ++ (wH E (q 0) ((iv (bq 0))) ((iv (sq 0))) c0 ++ (wH E (q 1) ((iv (bq 1))) ((iv (sq 1))) c1 ++ (wH E (q 2) ((iv (bq 2))) ((iv (sq 2))) c2 ++ (wH E (q 3) ((iv (bq 3))) ((iv (sq 3))) c3 ++ []))))))))) s H locs (wO E a k b t x q ((iv (ik))) fd ++ (wS E k ((hk)) ((nk)) (k1, k2, k3, k4, k5, k6, k7, k8, k9) ++ (wS E b ((iv (hr A))) ((iv (pe A))) (uu, xi, xk, xc, xl, xr, xb, yl, yr) ++ (wS E t ((ht)) ((nt)) (t1, t2, t3, t4, t5, t6, t7, t8, t9) ++ (wX E x ((iv (tn))) ((e1)) ((e2)) ((e3)) ((e4)) tp ++ (wH E (q 0) ((iv (bq 0))) ((iv (sq 0))) c0 ++ (wH E (q 1) ((iv (bq 1))) ((iv (sq 1))) c1 ++ (wH E (q 2) ((iv (bq 2))) ((iv (sq 2))) c2 ++ (wH E (q 3) ((iv (bq 3))) ((iv (sq 3))) c3 ++ []))))))))) → ∀ ls : Array Slot, lv_has ls 7 [(2, .ref (q 2 0)), (0, .ref (a 0)), (1, .int (iv (2))), (3, .int (iv (kk))), (4, .int (iv (i)))] → W pp l e (rmk 2 44) s m args below meth c H locs 0 0 Q (F0 m 36 ls []) := by
      intro fuel_
      induction fuel_ with
      | zero =>
        intro i kk uu i0 i1 i2 hv hn2 hn
        exfalso; omega
      | succ fuel_ ih =>
        intro i kk uu i0 i1 i2 hv hn2 hn H locs h ls hl
        refine lv_iload X.1 X.2.1 dX4_lays_36 (lv_at hl 4 rfl) ?_
        refine lv_aload_n X.1 X.2.1 dX4_lays_38 rfl (lv_at hl 0 rfl) ?_
        refine z_get X h 0 39 1 rfl inX0 rfl (by decide) fl_X4_192 rfl dX4_lays_39 ?_
        refine z_ic_ge (tgt := 99) X ⟨by omega, by omega⟩ ⟨by omega, by omega⟩ dX4_lays_42 (by decide) (fun c_42 => ?_) (fun c_42 => ?_)
        · have ei : i = min10 (sq 2) := by unfold min10; split <;> omega
          have hve : RS (uu, xi, xk, xc, xl, xr, xb, yl, yr) (layk (cq 2) A (min10 (sq 2)).toNat).1 := by rw [← ei]; exact hv
          refine lv_iload_n X.1 X.2.1 dX4_lays_99 rfl (lv_at hl 3 rfl) ?_
          have e9 : q_lays A bq sq cq ph 2 = (kk, (layk (cq 2) A (min10 (sq 2)).toNat).1, ph) := by unfold q_lays; rw [if_neg (by omega), if_neg (by omega), hn2, ei]
          exact ret _ _ _ _ _ (((iv (ik)), fd), ((hk), (nk), (k1, k2, k3, k4, k5, k6, k7, k8, k9)), ((iv (hr A)), (iv (pe A)), (uu, xi, xk, xc, xl, xr, xb, yl, yr)), ((ht), (nt), (t1, t2, t3, t4, t5, t6, t7, t8, t9)), ((iv (tn)), (e1), (e2), (e3), (e4), tp), ((iv (bq 0)), (iv (sq 0)), c0), ((iv (bq 1)), (iv (sq 1)), c1), ((iv (bq 2)), (iv (sq 2)), c2), ((iv (bq 3)), (iv (sq 3)), c3)) h (by rw [e9]; exact ⟨rfl, ⟨⟨(congrArg iv (layk_pe (cq 2) A _).2.symm), (congrArg iv (layk_pe (cq 2) A _).1.symm), hve, (layk_IA hI _), (by rw [(layk_pe (cq 2) A _).2]; exact hr9)⟩, hK, hF, hT, hB⟩⟩) dX4_lays_100
        · refine lv_iload X.1 X.2.1 dX4_lays_45 (lv_at hl 4 rfl) ?_
          refine z_bipush X (by decide) dX4_lays_47 ?_
          refine z_ic_ge (tgt := 99) X ⟨by omega, by omega⟩ ⟨by decide, by decide⟩ dX4_lays_49 (by decide) (fun c_49 => ?_) (fun c_49 => ?_)
          · have ei : i = min10 (sq 2) := by unfold min10; split <;> omega
            have hve : RS (uu, xi, xk, xc, xl, xr, xb, yl, yr) (layk (cq 2) A (min10 (sq 2)).toNat).1 := by rw [← ei]; exact hv
            refine lv_iload_n X.1 X.2.1 dX4_lays_99 rfl (lv_at hl 3 rfl) ?_
            have e9 : q_lays A bq sq cq ph 2 = (kk, (layk (cq 2) A (min10 (sq 2)).toNat).1, ph) := by unfold q_lays; rw [if_neg (by omega), if_neg (by omega), hn2, ei]
            exact ret _ _ _ _ _ (((iv (ik)), fd), ((hk), (nk), (k1, k2, k3, k4, k5, k6, k7, k8, k9)), ((iv (hr A)), (iv (pe A)), (uu, xi, xk, xc, xl, xr, xb, yl, yr)), ((ht), (nt), (t1, t2, t3, t4, t5, t6, t7, t8, t9)), ((iv (tn)), (e1), (e2), (e3), (e4), tp), ((iv (bq 0)), (iv (sq 0)), c0), ((iv (bq 1)), (iv (sq 1)), c1), ((iv (bq 2)), (iv (sq 2)), c2), ((iv (bq 3)), (iv (sq 3)), c3)) h (by rw [e9]; exact ⟨rfl, ⟨⟨(congrArg iv (layk_pe (cq 2) A _).2.symm), (congrArg iv (layk_pe (cq 2) A _).1.symm), hve, (layk_IA hI _), (by rw [(layk_pe (cq 2) A _).2]; exact hr9)⟩, hK, hF, hT, hB⟩⟩) dX4_lays_100
          · refine lv_aload_n X.1 X.2.1 dX4_lays_52 rfl (lv_at hl 0 rfl) ?_
            refine z_get X h 0 39 2 rfl inX0 rfl (by decide) fl_X4_198 rfl dX4_lays_53 ?_
            refine lv_iload X.1 X.2.1 dX4_lays_56 (lv_at hl 4 rfl) ?_
            refine z_laldv (v := cq 2 i) X h 40 rfl (by omega) (by omega) (by decide) (hH2.2.2 i (by omega) (by omega)) dX4_lays_58 ?_
            refine lv_lstore (lv' := [(5, .long (cq 2 i)), (2, .ref (q 2 0)), (0, .ref (a 0)), (1, .int (iv (2))), (3, .int (iv (kk))), (4, .int (iv (i)))]) X.1 X.2.1 dX4_lays_59 hl (by decide) rfl (fun ls hl => ?_)
            refine lv_lload X.1 X.2.1 dX4_lays_61 (lv_at hl 0 rfl) ?_
            refine lv_lconst (v := 0) X.1 X.2.1 dX4_lays_63 (by decide) ?_
            refine z_lcmp (a := (cq 2 i).toInt) (b := 0) X rfl (by decide) dX4_lays_64 ?_
            refine z_ifc_lt (tgt := 93) X dX4_lays_65 (by decide) (fun c_65 => ?_) (fun c_65 => ?_)
            · refine z_iinc (k := 5) (lv' := [(4, .int (iv (i + 1))), (5, .long (cq 2 i)), (2, .ref (q 2 0)), (0, .ref (a 0)), (1, .int (iv (2))), (3, .int (iv (kk)))]) X dX4_lays_93 hl rfl (by decide) rfl (fun ls hl => ?_)
              refine lv_goto (tgt := 36) X.1 X.2.1 dX4_lays_96 (by decide) ?_
              exact ih (i + 1) (kk) (uu) (by omega) (by omega) (by omega) (by rw [layk_no i0 (by omega)]; exact hv) (by rw [layk_no i0 (by omega)]; exact hn2) (by omega) _ _ h ls (lv_sub hl [2, 3, 4, 5, 0] rfl)
            · refine lv_lload X.1 X.2.1 dX4_lays_68 (lv_at hl 0 rfl) ?_
              refine lv_ldc2 (v := 9) X.1 X.2.1 X.2.2.2.1 (X.2.2.2.2.1 _ ct_X4_218) dX4_lays_70 ?_
              refine z_lcmp (a := (cq 2 i).toInt) (b := 9) X rfl (by decide) dX4_lays_73 ?_
              refine z_ifc_gt (tgt := 93) X dX4_lays_74 (by decide) (fun c_74 => ?_) (fun c_74 => ?_)
              · refine z_iinc (k := 5) (lv' := [(4, .int (iv (i + 1))), (5, .long (cq 2 i)), (2, .ref (q 2 0)), (0, .ref (a 0)), (1, .int (iv (2))), (3, .int (iv (kk)))]) X dX4_lays_93 hl rfl (by decide) rfl (fun ls hl => ?_)
                refine lv_goto (tgt := 36) X.1 X.2.1 dX4_lays_96 (by decide) ?_
                exact ih (i + 1) (kk) (uu) (by omega) (by omega) (by omega) (by rw [layk_no i0 (by omega)]; exact hv) (by rw [layk_no i0 (by omega)]; exact hn2) (by omega) _ _ h ls (lv_sub hl [2, 3, 4, 5, 0] rfl)
              · refine lv_aload_n X.1 X.2.1 dX4_lays_77 rfl (lv_at hl 2 rfl) ?_
                refine z_get X h 3 0 0 rfl inX4 rfl (by decide) fl_X4_10 rfl dX4_lays_78 ?_
                refine z_get X h 1 13 2 rfl inX1 rfl (by decide) fl_X4_53 rfl dX4_lays_81 ?_
                refine lv_iload X.1 X.2.1 dX4_lays_84 (lv_at hl 5 rfl) ?_
                refine lv_lload X.1 X.2.1 dX4_lays_86 (lv_at hl 0 rfl) ?_
                refine lv_l2i (v := (cq 2 i).toInt32) X.1 X.2.1 dX4_lays_88 rfl ?_
                refine W.eq (g2 := F0 m 89 ls [.int (iv ((cq 2 i).toInt)), .int (iv (i)), .ref (b 1)]) (by rw [i64_small (x := cq 2 i) (by omega) (by omega)]) ?_
                refine s_iast X (st_in (st_in (st_nil h))) 1 rfl (by omega) (by omega) (by decide) dX4_lays_89 (fun H locs h => ?_)
                have h := (st_lin (st_out (st_out (st_eq wS_suns h))))
                have h : St E _ s H locs (wO E a k b t x q ((iv (ik))) fd ++ (wS E k ((hk)) ((nk)) (k1, k2, k3, k4, k5, k6, k7, k8, k9) ++ (wS E b ((iv (hr A))) ((iv (pe A))) ((upd uu (i : Int).toNat (iv ((cq 2 i).toInt))), xi, xk, xc, xl, xr, xb, yl, yr) ++ (wS E t ((ht)) ((nt)) (t1, t2, t3, t4, t5, t6, t7, t8, t9) ++ (wX E x ((iv (tn))) ((e1)) ((e2)) ((e3)) ((e4)) tp ++ (wH E (q 0) ((iv (bq 0))) ((iv (sq 0))) c0 ++ (wH E (q 1) ((iv (bq 1))) ((iv (sq 1))) c1 ++ (wH E (q 2) ((iv (bq 2))) ((iv (sq 2))) c2 ++ (wH E (q 3) ((iv (bq 3))) ((iv (sq 3))) c3 ++ []))))))))) := h
                have hRn := RS_su hv (i := i) (v := (cq 2 i).toInt) i0
                refine z_iinc (k := 4) (lv' := [(3, .int (iv (kk + 1))), (5, .long (cq 2 i)), (2, .ref (q 2 0)), (0, .ref (a 0)), (1, .int (iv (2))), (4, .int (iv (i)))]) X dX4_lays_90 hl rfl (by decide) rfl (fun ls hl => ?_)
                refine z_iinc (k := 5) (lv' := [(4, .int (iv (i + 1))), (3, .int (iv (kk + 1))), (5, .long (cq 2 i)), (2, .ref (q 2 0)), (0, .ref (a 0)), (1, .int (iv (2)))]) X dX4_lays_93 hl rfl (by decide) rfl (fun ls hl => ?_)
                refine lv_goto (tgt := 36) X.1 X.2.1 dX4_lays_96 (by decide) ?_
                exact ih (i + 1) (kk + 1) ((upd uu (i : Int).toNat (iv ((cq 2 i).toInt)))) (by omega) (by omega) (by omega) (by rw [layk_y i0 (by omega)]; exact hRn) (by rw [layk_y i0 (by omega)]; show _ = _; omega) (by omega) _ _ h ls (lv_sub hl [3, 4, 5, 1, 0] rfl)
    exact L36 ((10 - (0) : Int).toNat + 1) (0) (0) (xs) (by omega) (by omega) (by omega) (hR) (rfl) (by omega) _ _ h ls (lv_sub hl [2, 3, 4, 1, 0] rfl)
  · refine lv_aload_n X.1 X.2.1 dX4_lays_24 rfl (lv_at hl 1 rfl) ?_
    refine z_ldc (z := (-1000000006)) X ct_X4_197 (by decide) dX4_lays_25 ?_
    refine z_wi (st_sing (st_nil h)) (run_V (rest := []) X (st_sing (st_nil h)) (c_X4_finding (j := 5) hF (by decide) (by decide) (by decide)) mi_X4_finding ml_X4_49 ⟨Nat.le_of_ble_eq_true rfl, Nat.le_of_ble_eq_true rfl⟩ ⟨rfl, rfl⟩ (Seg.mk' _ _) 3 0 rfl rfl rfl rfl hl.1 rfl (Nat.le_of_ble_eq_true rfl) ⟨Nat.zero_le _, Nat.zero_le _⟩ dX4_lays_27) (fun _ => map_app (wO_map _ _ _ _ _ _ _ _ _ _ _) rfl) (fun r fd1 H locs hp h => ?_)
    have h := (st_lin (st_gnis h))
    obtain ⟨rfl, hF1⟩ := hp
    have h : St E _ s H locs (wO E a k b t x q ((iv (ik))) fd1 ++ (wS E k ((hk)) ((nk)) (k1, k2, k3, k4, k5, k6, k7, k8, k9) ++ (wS E b ((iv (hr A))) ((iv (pe A))) (xs, xi, xk, xc, xl, xr, xb, yl, yr) ++ (wS E t ((ht)) ((nt)) (t1, t2, t3, t4, t5, t6, t7, t8, t9) ++ (wX E x ((iv (tn))) ((e1)) ((e2)) ((e3)) ((e4)) tp ++ (wH E (q 0) ((iv (bq 0))) ((iv (sq 0))) c0 ++ (wH E (q 1) ((iv (bq 1))) ((iv (sq 1))) c1 ++ (wH E (q 2) ((iv (bq 2))) ((iv (sq 2))) c2 ++ (wH E (q 3) ((iv (bq 3))) ((iv (sq 3))) c3 ++ []))))))))) := h
    have e9 : q_lays A bq sq cq ph 2 = ((-1000000006), A, (bump ph 5)) := by unfold q_lays; (repeat (first | rw [if_pos (by omega)] | rw [if_neg (by omega)])); try rfl
    exact ret _ _ _ _ _ (((iv (ik)), fd1), ((hk), (nk), (k1, k2, k3, k4, k5, k6, k7, k8, k9)), ((iv (hr A)), (iv (pe A)), (xs, xi, xk, xc, xl, xr, xb, yl, yr)), ((ht), (nt), (t1, t2, t3, t4, t5, t6, t7, t8, t9)), ((iv (tn)), (e1), (e2), (e3), (e4), tp), ((iv (bq 0)), (iv (sq 0)), c0), ((iv (bq 1)), (iv (sq 1)), c1), ((iv (bq 2)), (iv (sq 2)), c2), ((iv (bq 3)), (iv (sq 3)), c3)) h (by rw [e9]; exact ⟨rfl, ⟨⟨rfl, rfl, hR, hI, hr9⟩, hK, hF1, hT, hB⟩⟩) dX4_lays_30

set_option maxHeartbeats 4000000 in
theorem c_X4_lays_3 (hS : RepC (((iv (ik)), fd), ((hk), (nk), (k1, k2, k3, k4, k5, k6, k7, k8, k9)), ((iv (hr A)), (iv (pe A)), (xs, xi, xk, xc, xl, xr, xb, yl, yr)), ((ht), (nt), (t1, t2, t3, t4, t5, t6, t7, t8, t9)), ((iv (tn)), (e1), (e2), (e3), (e4), tp), ((iv (bq 0)), (iv (sq 0)), c0), ((iv (bq 1)), (iv (sq 1)), c1), ((iv (bq 2)), (iv (sq 2)), c2), ((iv (bq 3)), (iv (sq 3)), c3)) (A, K, ik, ph, tq, tn, bq, sq, cq)) : MI (S := Tc) E l yX4_lays cX4_lays 7 (some FieldType.int) (rmk 2 44) (wO E a k b t x q ((iv (ik))) fd ++ (wS E k ((hk)) ((nk)) (k1, k2, k3, k4, k5, k6, k7, k8, k9) ++ (wS E b ((iv (hr A))) ((iv (pe A))) (xs, xi, xk, xc, xl, xr, xb, yl, yr) ++ (wS E t ((ht)) ((nt)) (t1, t2, t3, t4, t5, t6, t7, t8, t9) ++ (wX E x ((iv (tn))) ((e1)) ((e2)) ((e3)) ((e4)) tp ++ (wH E (q 0) ((iv (bq 0))) ((iv (sq 0))) c0 ++ (wH E (q 1) ((iv (bq 1))) ((iv (sq 1))) c1 ++ (wH E (q 2) ((iv (bq 2))) ((iv (sq 2))) c2 ++ (wH E (q 3) ((iv (bq 3))) ((iv (sq 3))) c3 ++ []))))))))) [.ref (a 0), .int (iv (3))] (fun r u => r = iv ((q_lays A bq sq cq ph 3).1) ∧ RepC u ((q_lays A bq sq cq ph 3).2.1, K, ik, (q_lays A bq sq cq ph 3).2.2, tq, tn, bq, sq, cq)) (fun u => wT E a k b t x q u) := by
  refine goI (S := Tc) (post := fun r u => r = iv ((q_lays A bq sq cq ph 3).1) ∧ RepC u ((q_lays A bq sq cq ph 3).2.1, K, ik, (q_lays A bq sq cq ph 3).2.2, tq, tn, bq, sq, cq)) (ws' := fun u => wT E a k b t x q u) (by decide) (Nat.le_of_ble_eq_true rfl) ?_
  intro pp e s m below meth c ls args Q ret X h hl
  have hl : lv_has ls 7 [(0, .ref (a 0)), (1, .int (iv (3)))] := hl
  have hR : RS (xs, xi, xk, xc, xl, xr, xb, yl, yr) A := hS.1.2.2.1
  have hI : IA A := hS.1.2.2.2.1
  have hr9 : hr A ≤ 99999 := hS.1.2.2.2.2
  have hF : RF 7 fd ph := hS.2.2.1
  have hK := hS.2.1
  have hT := hS.2.2.2.1
  have hB := hS.2.2.2.2
  have hh : hr A < 1000000 := by omega
  have n8 := hI.n8
  have n0 := hI.n0
  have h0 := hI.h0
  have ht0 : 0 ≤ tn := hS.2.2.2.1.2.1
  have ht1 : tn ≤ 120 := hS.2.2.2.1.2.2.1
  have hk01 : ik = 0 ∨ ik = 1 := hS.2.1.2.1
  have hB3 : okB bq sq := hS.2.2.2.2.1
  have hH0 : RepH (iv (bq 0), iv (sq 0), c0) bq sq cq 0 := hS.2.2.2.2.2.1
  have hH1 : RepH (iv (bq 1), iv (sq 1), c1) bq sq cq 1 := hS.2.2.2.2.2.2.1
  have hH2 : RepH (iv (bq 2), iv (sq 2), c2) bq sq cq 2 := hS.2.2.2.2.2.2.2.1
  have hH3 : RepH (iv (bq 3), iv (sq 3), c3) bq sq cq 3 := hS.2.2.2.2.2.2.2.2
  have ob3 := hB3.1 3 (by omega) (by omega)
  have zb3 := hB3.2 3 (by omega) (by omega)
  refine lv_aload_n X.1 X.2.1 dX4_lays_0 rfl (lv_at hl 0 rfl) ?_
  refine lv_iload_n X.1 X.2.1 dX4_lays_1 rfl (lv_at hl 1 rfl) ?_
  refine z_pq (run_V (rest := []) X h (c_sheetAt3) mi_X4_sheetAt ml_X4_184 ⟨Nat.le_of_ble_eq_true rfl, Nat.le_of_ble_eq_true rfl⟩ ⟨rfl, rfl⟩ (Seg.rfl' _) 3 0 rfl rfl rfl rfl hl.1 rfl (Nat.le_of_ble_eq_true rfl) ⟨Nat.zero_le _, Nat.zero_le _⟩ dX4_lays_2) ?_
  refine W.eq (g2 := F0 m 5 ls [.ref (q 3 0)]) rfl ?_
  refine lv_astore_n (lv' := [(2, .ref (q 3 0)), (0, .ref (a 0)), (1, .int (iv (3)))]) X.1 X.2.1 dX4_lays_5 rfl hl (by decide) rfl (fun ls hl => ?_)
  refine lv_aload_n X.1 X.2.1 dX4_lays_6 rfl (lv_at hl 0 rfl) ?_
  refine lv_ifnonnull (tgt := 17) X.1 X.2.1 dX4_lays_7 (by decide) ?_
  refine lv_aload_n X.1 X.2.1 dX4_lays_17 rfl (lv_at hl 0 rfl) ?_
  refine z_pi (run_V (rest := []) X (st_sing (st_in (st_in (st_in (st_in (st_in (st_in (st_in (st_in (st_nil h)))))))))) (c_X0_isMissing (y := q 3) (bt := bq 3) ⟨by omega, by omega⟩) mi_X0_isMissing ml_X4_193 ⟨Nat.le_of_ble_eq_true rfl, Nat.le_of_ble_eq_true rfl⟩ ⟨rfl, rfl⟩ (Seg.mk' _ _) 0 41 rfl rfl rfl rfl hl.1 rfl (Nat.le_of_ble_eq_true rfl) ⟨Nat.zero_le _, Nat.zero_le _⟩ dX4_lays_18) ?_
  refine z_ifb_eq (tgt := 31) X dX4_lays_21 (by decide) (fun c_21 => ?_) (fun c_21 => ?_)
  · refine z_iconst X dX4_lays_31 ?_
    refine lv_istore_n (lv' := [(3, .int (iv (0))), (2, .ref (q 3 0)), (0, .ref (a 0)), (1, .int (iv (3)))]) X.1 X.2.1 dX4_lays_32 rfl hl (by decide) rfl (fun ls hl => ?_)
    refine z_iconst X dX4_lays_33 ?_
    refine lv_istore (lv' := [(4, .int (iv (0))), (3, .int (iv (0))), (2, .ref (q 3 0)), (0, .ref (a 0)), (1, .int (iv (3)))]) X.1 X.2.1 dX4_lays_34 hl (by decide) rfl (fun ls hl => ?_)
    have L36 : ∀ (fuel_ : Nat) (i : Int) (kk : Int) (uu : Nat → Int32), (0 ≤ i) → (i ≤ sq 3) → (i ≤ 10) → (RS (uu, xi, xk, xc, xl, xr, xb, yl, yr) (layk (cq 3) A i.toNat).1) → (kk = (layk (cq 3) A i.toNat).2) → 10 - i < (fuel_ : Int) → ∀ (H : Heap) (locs : List Loc), St E (wO E a k b t x q ((iv (ik))) fd ++ (wS E k ((hk)) ((nk)) (k1, k2, k3, k4, k5, k6, k7, k8, k9) ++ (wS E b ((iv (hr A))) ((iv (pe A))) (xs, xi, xk, xc, xl, xr, xb, yl, yr) ++ (wS E t ((ht)) ((nt)) (t1, t2, t3, t4, t5, t6, t7, t8, t9) ++ (wX E x ((iv (tn))) ((e1)) ((e2)) ((e3)) ((e4)) tp ++ (wH E (q 0) ((iv (bq 0))) ((iv (sq 0))) c0 ++ (wH E (q 1) ((iv (bq 1))) ((iv (sq 1))) c1 ++ (wH E (q 2) ((iv (bq 2))) ((iv (sq 2))) c2 ++ (wH E (q 3) ((iv (bq 3))) ((iv (sq 3))) c3 ++ []))))))))) s H locs (wO E a k b t x q ((iv (ik))) fd ++ (wS E k ((hk)) ((nk)) (k1, k2, k3, k4, k5, k6, k7, k8, k9) ++ (wS E b ((iv (hr A))) ((iv (pe A))) (uu, xi, xk, xc, xl, xr, xb, yl, yr) ++ (wS E t ((ht)) ((nt)) (t1, t2, t3, t4, t5, t6, t7, t8, t9) ++ (wX E x ((iv (tn))) ((e1)) ((e2)) ((e3)) ((e4)) tp ++ (wH E (q 0) ((iv (bq 0))) ((iv (sq 0))) c0 ++ (wH E (q 1) ((iv (bq 1))) ((iv (sq 1))) c1 ++ (wH E (q 2) ((iv (bq 2))) ((iv (sq 2))) c2 ++ (wH E (q 3) ((iv (bq 3))) ((iv (sq 3))) c3 ++ []))))))))) → ∀ ls : Array Slot, lv_has ls 7 [(2, .ref (q 3 0)), (0, .ref (a 0)), (1, .int (iv (3))), (3, .int (iv (kk))), (4, .int (iv (i)))] → W pp l e (rmk 2 44) s m args below meth c H locs 0 0 Q (F0 m 36 ls []) := by
      intro fuel_
      induction fuel_ with
      | zero =>
        intro i kk uu i0 i1 i2 hv hn2 hn
        exfalso; omega
      | succ fuel_ ih =>
        intro i kk uu i0 i1 i2 hv hn2 hn H locs h ls hl
        refine lv_iload X.1 X.2.1 dX4_lays_36 (lv_at hl 4 rfl) ?_
        refine lv_aload_n X.1 X.2.1 dX4_lays_38 rfl (lv_at hl 0 rfl) ?_
        refine z_get X h 0 41 1 rfl inX0 rfl (by decide) fl_X4_192 rfl dX4_lays_39 ?_
        refine z_ic_ge (tgt := 99) X ⟨by omega, by omega⟩ ⟨by omega, by omega⟩ dX4_lays_42 (by decide) (fun c_42 => ?_) (fun c_42 => ?_)
        · have ei : i = min10 (sq 3) := by unfold min10; split <;> omega
          have hve : RS (uu, xi, xk, xc, xl, xr, xb, yl, yr) (layk (cq 3) A (min10 (sq 3)).toNat).1 := by rw [← ei]; exact hv
          refine lv_iload_n X.1 X.2.1 dX4_lays_99 rfl (lv_at hl 3 rfl) ?_
          have e9 : q_lays A bq sq cq ph 3 = (kk, (layk (cq 3) A (min10 (sq 3)).toNat).1, ph) := by unfold q_lays; rw [if_neg (by omega), if_neg (by omega), hn2, ei]
          exact ret _ _ _ _ _ (((iv (ik)), fd), ((hk), (nk), (k1, k2, k3, k4, k5, k6, k7, k8, k9)), ((iv (hr A)), (iv (pe A)), (uu, xi, xk, xc, xl, xr, xb, yl, yr)), ((ht), (nt), (t1, t2, t3, t4, t5, t6, t7, t8, t9)), ((iv (tn)), (e1), (e2), (e3), (e4), tp), ((iv (bq 0)), (iv (sq 0)), c0), ((iv (bq 1)), (iv (sq 1)), c1), ((iv (bq 2)), (iv (sq 2)), c2), ((iv (bq 3)), (iv (sq 3)), c3)) h (by rw [e9]; exact ⟨rfl, ⟨⟨(congrArg iv (layk_pe (cq 3) A _).2.symm), (congrArg iv (layk_pe (cq 3) A _).1.symm), hve, (layk_IA hI _), (by rw [(layk_pe (cq 3) A _).2]; exact hr9)⟩, hK, hF, hT, hB⟩⟩) dX4_lays_100
        · refine lv_iload X.1 X.2.1 dX4_lays_45 (lv_at hl 4 rfl) ?_
          refine z_bipush X (by decide) dX4_lays_47 ?_
          refine z_ic_ge (tgt := 99) X ⟨by omega, by omega⟩ ⟨by decide, by decide⟩ dX4_lays_49 (by decide) (fun c_49 => ?_) (fun c_49 => ?_)
          · have ei : i = min10 (sq 3) := by unfold min10; split <;> omega
            have hve : RS (uu, xi, xk, xc, xl, xr, xb, yl, yr) (layk (cq 3) A (min10 (sq 3)).toNat).1 := by rw [← ei]; exact hv
            refine lv_iload_n X.1 X.2.1 dX4_lays_99 rfl (lv_at hl 3 rfl) ?_
            have e9 : q_lays A bq sq cq ph 3 = (kk, (layk (cq 3) A (min10 (sq 3)).toNat).1, ph) := by unfold q_lays; rw [if_neg (by omega), if_neg (by omega), hn2, ei]
            exact ret _ _ _ _ _ (((iv (ik)), fd), ((hk), (nk), (k1, k2, k3, k4, k5, k6, k7, k8, k9)), ((iv (hr A)), (iv (pe A)), (uu, xi, xk, xc, xl, xr, xb, yl, yr)), ((ht), (nt), (t1, t2, t3, t4, t5, t6, t7, t8, t9)), ((iv (tn)), (e1), (e2), (e3), (e4), tp), ((iv (bq 0)), (iv (sq 0)), c0), ((iv (bq 1)), (iv (sq 1)), c1), ((iv (bq 2)), (iv (sq 2)), c2), ((iv (bq 3)), (iv (sq 3)), c3)) h (by rw [e9]; exact ⟨rfl, ⟨⟨(congrArg iv (layk_pe (cq 3) A _).2.symm), (congrArg iv (layk_pe (cq 3) A _).1.symm), hve, (layk_IA hI _), (by rw [(layk_pe (cq 3) A _).2]; exact hr9)⟩, hK, hF, hT, hB⟩⟩) dX4_lays_100
          · refine lv_aload_n X.1 X.2.1 dX4_lays_52 rfl (lv_at hl 0 rfl) ?_
            refine z_get X h 0 41 2 rfl inX0 rfl (by decide) fl_X4_198 rfl dX4_lays_53 ?_
            refine lv_iload X.1 X.2.1 dX4_lays_56 (lv_at hl 4 rfl) ?_
            refine z_laldv (v := cq 3 i) X h 42 rfl (by omega) (by omega) (by decide) (hH3.2.2 i (by omega) (by omega)) dX4_lays_58 ?_
            refine lv_lstore (lv' := [(5, .long (cq 3 i)), (2, .ref (q 3 0)), (0, .ref (a 0)), (1, .int (iv (3))), (3, .int (iv (kk))), (4, .int (iv (i)))]) X.1 X.2.1 dX4_lays_59 hl (by decide) rfl (fun ls hl => ?_)
            refine lv_lload X.1 X.2.1 dX4_lays_61 (lv_at hl 0 rfl) ?_
            refine lv_lconst (v := 0) X.1 X.2.1 dX4_lays_63 (by decide) ?_
            refine z_lcmp (a := (cq 3 i).toInt) (b := 0) X rfl (by decide) dX4_lays_64 ?_
            refine z_ifc_lt (tgt := 93) X dX4_lays_65 (by decide) (fun c_65 => ?_) (fun c_65 => ?_)
            · refine z_iinc (k := 5) (lv' := [(4, .int (iv (i + 1))), (5, .long (cq 3 i)), (2, .ref (q 3 0)), (0, .ref (a 0)), (1, .int (iv (3))), (3, .int (iv (kk)))]) X dX4_lays_93 hl rfl (by decide) rfl (fun ls hl => ?_)
              refine lv_goto (tgt := 36) X.1 X.2.1 dX4_lays_96 (by decide) ?_
              exact ih (i + 1) (kk) (uu) (by omega) (by omega) (by omega) (by rw [layk_no i0 (by omega)]; exact hv) (by rw [layk_no i0 (by omega)]; exact hn2) (by omega) _ _ h ls (lv_sub hl [2, 3, 4, 5, 0] rfl)
            · refine lv_lload X.1 X.2.1 dX4_lays_68 (lv_at hl 0 rfl) ?_
              refine lv_ldc2 (v := 9) X.1 X.2.1 X.2.2.2.1 (X.2.2.2.2.1 _ ct_X4_218) dX4_lays_70 ?_
              refine z_lcmp (a := (cq 3 i).toInt) (b := 9) X rfl (by decide) dX4_lays_73 ?_
              refine z_ifc_gt (tgt := 93) X dX4_lays_74 (by decide) (fun c_74 => ?_) (fun c_74 => ?_)
              · refine z_iinc (k := 5) (lv' := [(4, .int (iv (i + 1))), (5, .long (cq 3 i)), (2, .ref (q 3 0)), (0, .ref (a 0)), (1, .int (iv (3))), (3, .int (iv (kk)))]) X dX4_lays_93 hl rfl (by decide) rfl (fun ls hl => ?_)
                refine lv_goto (tgt := 36) X.1 X.2.1 dX4_lays_96 (by decide) ?_
                exact ih (i + 1) (kk) (uu) (by omega) (by omega) (by omega) (by rw [layk_no i0 (by omega)]; exact hv) (by rw [layk_no i0 (by omega)]; exact hn2) (by omega) _ _ h ls (lv_sub hl [2, 3, 4, 5, 0] rfl)
              · refine lv_aload_n X.1 X.2.1 dX4_lays_77 rfl (lv_at hl 2 rfl) ?_
                refine z_get X h 3 0 0 rfl inX4 rfl (by decide) fl_X4_10 rfl dX4_lays_78 ?_
                refine z_get X h 1 13 2 rfl inX1 rfl (by decide) fl_X4_53 rfl dX4_lays_81 ?_
                refine lv_iload X.1 X.2.1 dX4_lays_84 (lv_at hl 5 rfl) ?_
                refine lv_lload X.1 X.2.1 dX4_lays_86 (lv_at hl 0 rfl) ?_
                refine lv_l2i (v := (cq 3 i).toInt32) X.1 X.2.1 dX4_lays_88 rfl ?_
                refine W.eq (g2 := F0 m 89 ls [.int (iv ((cq 3 i).toInt)), .int (iv (i)), .ref (b 1)]) (by rw [i64_small (x := cq 3 i) (by omega) (by omega)]) ?_
                refine s_iast X (st_in (st_in (st_nil h))) 1 rfl (by omega) (by omega) (by decide) dX4_lays_89 (fun H locs h => ?_)
                have h := (st_lin (st_out (st_out (st_eq wS_suns h))))
                have h : St E _ s H locs (wO E a k b t x q ((iv (ik))) fd ++ (wS E k ((hk)) ((nk)) (k1, k2, k3, k4, k5, k6, k7, k8, k9) ++ (wS E b ((iv (hr A))) ((iv (pe A))) ((upd uu (i : Int).toNat (iv ((cq 3 i).toInt))), xi, xk, xc, xl, xr, xb, yl, yr) ++ (wS E t ((ht)) ((nt)) (t1, t2, t3, t4, t5, t6, t7, t8, t9) ++ (wX E x ((iv (tn))) ((e1)) ((e2)) ((e3)) ((e4)) tp ++ (wH E (q 0) ((iv (bq 0))) ((iv (sq 0))) c0 ++ (wH E (q 1) ((iv (bq 1))) ((iv (sq 1))) c1 ++ (wH E (q 2) ((iv (bq 2))) ((iv (sq 2))) c2 ++ (wH E (q 3) ((iv (bq 3))) ((iv (sq 3))) c3 ++ []))))))))) := h
                have hRn := RS_su hv (i := i) (v := (cq 3 i).toInt) i0
                refine z_iinc (k := 4) (lv' := [(3, .int (iv (kk + 1))), (5, .long (cq 3 i)), (2, .ref (q 3 0)), (0, .ref (a 0)), (1, .int (iv (3))), (4, .int (iv (i)))]) X dX4_lays_90 hl rfl (by decide) rfl (fun ls hl => ?_)
                refine z_iinc (k := 5) (lv' := [(4, .int (iv (i + 1))), (3, .int (iv (kk + 1))), (5, .long (cq 3 i)), (2, .ref (q 3 0)), (0, .ref (a 0)), (1, .int (iv (3)))]) X dX4_lays_93 hl rfl (by decide) rfl (fun ls hl => ?_)
                refine lv_goto (tgt := 36) X.1 X.2.1 dX4_lays_96 (by decide) ?_
                exact ih (i + 1) (kk + 1) ((upd uu (i : Int).toNat (iv ((cq 3 i).toInt)))) (by omega) (by omega) (by omega) (by rw [layk_y i0 (by omega)]; exact hRn) (by rw [layk_y i0 (by omega)]; show _ = _; omega) (by omega) _ _ h ls (lv_sub hl [3, 4, 5, 1, 0] rfl)
    exact L36 ((10 - (0) : Int).toNat + 1) (0) (0) (xs) (by omega) (by omega) (by omega) (hR) (rfl) (by omega) _ _ h ls (lv_sub hl [2, 3, 4, 1, 0] rfl)
  · refine lv_aload_n X.1 X.2.1 dX4_lays_24 rfl (lv_at hl 1 rfl) ?_
    refine z_ldc (z := (-1000000006)) X ct_X4_197 (by decide) dX4_lays_25 ?_
    refine z_wi (st_sing (st_nil h)) (run_V (rest := []) X (st_sing (st_nil h)) (c_X4_finding (j := 5) hF (by decide) (by decide) (by decide)) mi_X4_finding ml_X4_49 ⟨Nat.le_of_ble_eq_true rfl, Nat.le_of_ble_eq_true rfl⟩ ⟨rfl, rfl⟩ (Seg.mk' _ _) 3 0 rfl rfl rfl rfl hl.1 rfl (Nat.le_of_ble_eq_true rfl) ⟨Nat.zero_le _, Nat.zero_le _⟩ dX4_lays_27) (fun _ => map_app (wO_map _ _ _ _ _ _ _ _ _ _ _) rfl) (fun r fd1 H locs hp h => ?_)
    have h := (st_lin (st_gnis h))
    obtain ⟨rfl, hF1⟩ := hp
    have h : St E _ s H locs (wO E a k b t x q ((iv (ik))) fd1 ++ (wS E k ((hk)) ((nk)) (k1, k2, k3, k4, k5, k6, k7, k8, k9) ++ (wS E b ((iv (hr A))) ((iv (pe A))) (xs, xi, xk, xc, xl, xr, xb, yl, yr) ++ (wS E t ((ht)) ((nt)) (t1, t2, t3, t4, t5, t6, t7, t8, t9) ++ (wX E x ((iv (tn))) ((e1)) ((e2)) ((e3)) ((e4)) tp ++ (wH E (q 0) ((iv (bq 0))) ((iv (sq 0))) c0 ++ (wH E (q 1) ((iv (bq 1))) ((iv (sq 1))) c1 ++ (wH E (q 2) ((iv (bq 2))) ((iv (sq 2))) c2 ++ (wH E (q 3) ((iv (bq 3))) ((iv (sq 3))) c3 ++ []))))))))) := h
    have e9 : q_lays A bq sq cq ph 3 = ((-1000000006), A, (bump ph 5)) := by unfold q_lays; (repeat (first | rw [if_pos (by omega)] | rw [if_neg (by omega)])); try rfl
    exact ret _ _ _ _ _ (((iv (ik)), fd1), ((hk), (nk), (k1, k2, k3, k4, k5, k6, k7, k8, k9)), ((iv (hr A)), (iv (pe A)), (xs, xi, xk, xc, xl, xr, xb, yl, yr)), ((ht), (nt), (t1, t2, t3, t4, t5, t6, t7, t8, t9)), ((iv (tn)), (e1), (e2), (e3), (e4), tp), ((iv (bq 0)), (iv (sq 0)), c0), ((iv (bq 1)), (iv (sq 1)), c1), ((iv (bq 2)), (iv (sq 2)), c2), ((iv (bq 3)), (iv (sq 3)), c3)) h (by rw [e9]; exact ⟨rfl, ⟨⟨rfl, rfl, hR, hI, hr9⟩, hK, hF1, hT, hB⟩⟩) dX4_lays_30

set_option maxHeartbeats 4000000 in
theorem c_X4_lays_N (hS : RepC (((iv (ik)), fd), ((hk), (nk), (k1, k2, k3, k4, k5, k6, k7, k8, k9)), ((iv (hr A)), (iv (pe A)), (xs, xi, xk, xc, xl, xr, xb, yl, yr)), ((ht), (nt), (t1, t2, t3, t4, t5, t6, t7, t8, t9)), ((iv (tn)), (e1), (e2), (e3), (e4), tp), ((iv (bq 0)), (iv (sq 0)), c0), ((iv (bq 1)), (iv (sq 1)), c1), ((iv (bq 2)), (iv (sq 2)), c2), ((iv (bq 3)), (iv (sq 3)), c3)) (A, K, ik, ph, tq, tn, bq, sq, cq)) {ps : Int} (r_ps : r32 ps) (ho : ps < 0 ∨ 3 < ps) : MI (S := Tc) E l yX4_lays cX4_lays 7 (some FieldType.int) (rmk 2 44) (wO E a k b t x q ((iv (ik))) fd ++ (wS E k ((hk)) ((nk)) (k1, k2, k3, k4, k5, k6, k7, k8, k9) ++ (wS E b ((iv (hr A))) ((iv (pe A))) (xs, xi, xk, xc, xl, xr, xb, yl, yr) ++ (wS E t ((ht)) ((nt)) (t1, t2, t3, t4, t5, t6, t7, t8, t9) ++ (wX E x ((iv (tn))) ((e1)) ((e2)) ((e3)) ((e4)) tp ++ (wH E (q 0) ((iv (bq 0))) ((iv (sq 0))) c0 ++ (wH E (q 1) ((iv (bq 1))) ((iv (sq 1))) c1 ++ (wH E (q 2) ((iv (bq 2))) ((iv (sq 2))) c2 ++ (wH E (q 3) ((iv (bq 3))) ((iv (sq 3))) c3 ++ []))))))))) [.ref (a 0), .int (iv (ps))] (fun r u => r = iv ((q_lays A bq sq cq ph ps).1) ∧ RepC u ((q_lays A bq sq cq ph ps).2.1, K, ik, (q_lays A bq sq cq ph ps).2.2, tq, tn, bq, sq, cq)) (fun u => wT E a k b t x q u) := by
  refine goI (S := Tc) (post := fun r u => r = iv ((q_lays A bq sq cq ph ps).1) ∧ RepC u ((q_lays A bq sq cq ph ps).2.1, K, ik, (q_lays A bq sq cq ph ps).2.2, tq, tn, bq, sq, cq)) (ws' := fun u => wT E a k b t x q u) (by decide) (Nat.le_of_ble_eq_true rfl) ?_
  intro pp e s m below meth c ls args Q ret X h hl
  have hl : lv_has ls 7 [(0, .ref (a 0)), (1, .int (iv (ps)))] := hl
  have hR : RS (xs, xi, xk, xc, xl, xr, xb, yl, yr) A := hS.1.2.2.1
  have hI : IA A := hS.1.2.2.2.1
  have hr9 : hr A ≤ 99999 := hS.1.2.2.2.2
  have hF : RF 7 fd ph := hS.2.2.1
  have hK := hS.2.1
  have hT := hS.2.2.2.1
  have hB := hS.2.2.2.2
  have hh : hr A < 1000000 := by omega
  have n8 := hI.n8
  have n0 := hI.n0
  have h0 := hI.h0
  have ht0 : 0 ≤ tn := hS.2.2.2.1.2.1
  have ht1 : tn ≤ 120 := hS.2.2.2.1.2.2.1
  have hk01 : ik = 0 ∨ ik = 1 := hS.2.1.2.1
  have hB3 : okB bq sq := hS.2.2.2.2.1
  have hH0 : RepH (iv (bq 0), iv (sq 0), c0) bq sq cq 0 := hS.2.2.2.2.2.1
  have hH1 : RepH (iv (bq 1), iv (sq 1), c1) bq sq cq 1 := hS.2.2.2.2.2.2.1
  have hH2 : RepH (iv (bq 2), iv (sq 2), c2) bq sq cq 2 := hS.2.2.2.2.2.2.2.1
  have hH3 : RepH (iv (bq 3), iv (sq 3), c3) bq sq cq 3 := hS.2.2.2.2.2.2.2.2
  refine lv_aload_n X.1 X.2.1 dX4_lays_0 rfl (lv_at hl 0 rfl) ?_
  refine lv_iload_n X.1 X.2.1 dX4_lays_1 rfl (lv_at hl 1 rfl) ?_
  refine z_pq (run_V (rest := []) X h (c_sheetAtN (s9 := ps) r_ps (by omega)) mi_X4_sheetAt ml_X4_184 ⟨Nat.le_of_ble_eq_true rfl, Nat.le_of_ble_eq_true rfl⟩ ⟨rfl, rfl⟩ (Seg.rfl' _) 3 0 rfl rfl rfl rfl hl.1 rfl (Nat.le_of_ble_eq_true rfl) ⟨Nat.zero_le _, Nat.zero_le _⟩ dX4_lays_2) ?_
  refine W.eq (g2 := F0 m 5 ls [.null]) rfl ?_
  refine lv_astore_nN (lv' := [(2, .null), (0, .ref (a 0)), (1, .int (iv (ps)))]) X.1 X.2.1 dX4_lays_5 rfl hl (by decide) rfl (fun ls hl => ?_)
  refine lv_aload_nN X.1 X.2.1 dX4_lays_6 rfl (lv_at hl 0 rfl) ?_
  refine lv_ifnonnullN X.1 X.2.1 dX4_lays_7 ?_
  refine lv_aload_n X.1 X.2.1 dX4_lays_10 rfl (lv_at hl 1 rfl) ?_
  refine z_ldc (z := (-1000000001)) X ct_X4_48 (by decide) dX4_lays_11 ?_
  refine z_wi (st_sing (st_nil h)) (run_V (rest := []) X (st_sing (st_nil h)) (c_X4_finding (j := 0) hF (by decide) (by decide) (by decide)) mi_X4_finding ml_X4_49 ⟨Nat.le_of_ble_eq_true rfl, Nat.le_of_ble_eq_true rfl⟩ ⟨rfl, rfl⟩ (Seg.mk' _ _) 3 0 rfl rfl rfl rfl hl.1 rfl (Nat.le_of_ble_eq_true rfl) ⟨Nat.zero_le _, Nat.zero_le _⟩ dX4_lays_13) (fun _ => map_app (wO_map _ _ _ _ _ _ _ _ _ _ _) rfl) (fun r fd1 H locs hp h => ?_)
  have h := (st_lin (st_gnis h))
  obtain ⟨rfl, hF1⟩ := hp
  have h : St E _ s H locs (wO E a k b t x q ((iv (ik))) fd1 ++ (wS E k ((hk)) ((nk)) (k1, k2, k3, k4, k5, k6, k7, k8, k9) ++ (wS E b ((iv (hr A))) ((iv (pe A))) (xs, xi, xk, xc, xl, xr, xb, yl, yr) ++ (wS E t ((ht)) ((nt)) (t1, t2, t3, t4, t5, t6, t7, t8, t9) ++ (wX E x ((iv (tn))) ((e1)) ((e2)) ((e3)) ((e4)) tp ++ (wH E (q 0) ((iv (bq 0))) ((iv (sq 0))) c0 ++ (wH E (q 1) ((iv (bq 1))) ((iv (sq 1))) c1 ++ (wH E (q 2) ((iv (bq 2))) ((iv (sq 2))) c2 ++ (wH E (q 3) ((iv (bq 3))) ((iv (sq 3))) c3 ++ []))))))))) := h
  have e9 : q_lays A bq sq cq ph ps = ((-1000000001), A, (bump ph 0)) := by unfold q_lays; (repeat (first | rw [if_pos (by omega)] | rw [if_neg (by omega)])); try rfl
  exact ret _ _ _ _ _ (((iv (ik)), fd1), ((hk), (nk), (k1, k2, k3, k4, k5, k6, k7, k8, k9)), ((iv (hr A)), (iv (pe A)), (xs, xi, xk, xc, xl, xr, xb, yl, yr)), ((ht), (nt), (t1, t2, t3, t4, t5, t6, t7, t8, t9)), ((iv (tn)), (e1), (e2), (e3), (e4), tp), ((iv (bq 0)), (iv (sq 0)), c0), ((iv (bq 1)), (iv (sq 1)), c1), ((iv (bq 2)), (iv (sq 2)), c2), ((iv (bq 3)), (iv (sq 3)), c3)) h (by rw [e9]; exact ⟨rfl, ⟨⟨rfl, rfl, hR, hI, hr9⟩, hK, hF1, hT, hB⟩⟩) dX4_lays_16

theorem c_X4_lays (hS : RepC (((iv (ik)), fd), ((hk), (nk), (k1, k2, k3, k4, k5, k6, k7, k8, k9)), ((iv (hr A)), (iv (pe A)), (xs, xi, xk, xc, xl, xr, xb, yl, yr)), ((ht), (nt), (t1, t2, t3, t4, t5, t6, t7, t8, t9)), ((iv (tn)), (e1), (e2), (e3), (e4), tp), ((iv (bq 0)), (iv (sq 0)), c0), ((iv (bq 1)), (iv (sq 1)), c1), ((iv (bq 2)), (iv (sq 2)), c2), ((iv (bq 3)), (iv (sq 3)), c3)) (A, K, ik, ph, tq, tn, bq, sq, cq)) {ps : Int} (r_ps : r32 ps) : MI (S := Tc) E l yX4_lays cX4_lays 7 (some FieldType.int) (rmk 2 44) (wO E a k b t x q ((iv (ik))) fd ++ (wS E k ((hk)) ((nk)) (k1, k2, k3, k4, k5, k6, k7, k8, k9) ++ (wS E b ((iv (hr A))) ((iv (pe A))) (xs, xi, xk, xc, xl, xr, xb, yl, yr) ++ (wS E t ((ht)) ((nt)) (t1, t2, t3, t4, t5, t6, t7, t8, t9) ++ (wX E x ((iv (tn))) ((e1)) ((e2)) ((e3)) ((e4)) tp ++ (wH E (q 0) ((iv (bq 0))) ((iv (sq 0))) c0 ++ (wH E (q 1) ((iv (bq 1))) ((iv (sq 1))) c1 ++ (wH E (q 2) ((iv (bq 2))) ((iv (sq 2))) c2 ++ (wH E (q 3) ((iv (bq 3))) ((iv (sq 3))) c3 ++ []))))))))) [.ref (a 0), .int (iv (ps))] (fun r u => r = iv ((q_lays A bq sq cq ph ps).1) ∧ RepC u ((q_lays A bq sq cq ph ps).2.1, K, ik, (q_lays A bq sq cq ph ps).2.2, tq, tn, bq, sq, cq)) (fun u => wT E a k b t x q u) := by
  rcases (show ps = 0 ∨ ps = 1 ∨ ps = 2 ∨ ps = 3 ∨ (ps < 0 ∨ 3 < ps) by omega) with rfl | rfl | rfl | rfl | ho
  · exact c_X4_lays_0 hS 
  · exact c_X4_lays_1 hS 
  · exact c_X4_lays_2 hS 
  · exact c_X4_lays_3 hS 
  · exact c_X4_lays_N hS r_ps ho

set_option maxHeartbeats 4000000 in
theorem c_X4_book_0 (hS : RepC (((iv (ik)), fd), ((hk), (nk), (k1, k2, k3, k4, k5, k6, k7, k8, k9)), ((iv (hr A)), (iv (pe A)), (xs, xi, xk, xc, xl, xr, xb, yl, yr)), ((ht), (nt), (t1, t2, t3, t4, t5, t6, t7, t8, t9)), ((iv (tn)), (e1), (e2), (e3), (e4), tp), ((iv (bq 0)), (iv (sq 0)), c0), ((iv (bq 1)), (iv (sq 1)), c1), ((iv (bq 2)), (iv (sq 2)), c2), ((iv (bq 3)), (iv (sq 3)), c3)) (A, K, ik, ph, tq, tn, bq, sq, cq)) {pz : Int} (r_pz : r32 pz) : MI (S := Tc) E l yX4_book cX4_book 5 (some FieldType.int) (rmk 4 89) (wO E a k b t x q ((iv (ik))) fd ++ (wS E k ((hk)) ((nk)) (k1, k2, k3, k4, k5, k6, k7, k8, k9) ++ (wS E b ((iv (hr A))) ((iv (pe A))) (xs, xi, xk, xc, xl, xr, xb, yl, yr) ++ (wS E t ((ht)) ((nt)) (t1, t2, t3, t4, t5, t6, t7, t8, t9) ++ (wX E x ((iv (tn))) ((e1)) ((e2)) ((e3)) ((e4)) tp ++ (wH E (q 0) ((iv (bq 0))) ((iv (sq 0))) c0 ++ (wH E (q 1) ((iv (bq 1))) ((iv (sq 1))) c1 ++ (wH E (q 2) ((iv (bq 2))) ((iv (sq 2))) c2 ++ (wH E (q 3) ((iv (bq 3))) ((iv (sq 3))) c3 ++ []))))))))) [.ref (a 0), .int (iv (0)), .int (iv (pz))] (fun r u => r = iv ((q_book A bq sq cq ph 0 pz).1) ∧ RepC u (A, K, ik, (q_book A bq sq cq ph 0 pz).2.2, tq, tn, bq, sq, (q_book A bq sq cq ph 0 pz).2.1)) (fun u => wT E a k b t x q u) := by
  refine goI (S := Tc) (post := fun r u => r = iv ((q_book A bq sq cq ph 0 pz).1) ∧ RepC u (A, K, ik, (q_book A bq sq cq ph 0 pz).2.2, tq, tn, bq, sq, (q_book A bq sq cq ph 0 pz).2.1)) (ws' := fun u => wT E a k b t x q u) (by decide) (Nat.le_of_ble_eq_true rfl) ?_
  intro pp e s m below meth c ls args Q ret X h hl
  have hl : lv_has ls 5 [(0, .ref (a 0)), (1, .int (iv (0))), (2, .int (iv (pz)))] := hl
  have hR : RS (xs, xi, xk, xc, xl, xr, xb, yl, yr) A := hS.1.2.2.1
  have hI : IA A := hS.1.2.2.2.1
  have hr9 : hr A ≤ 99999 := hS.1.2.2.2.2
  have hF : RF 7 fd ph := hS.2.2.1
  have hK := hS.2.1
  have hT := hS.2.2.2.1
  have hB := hS.2.2.2.2
  have hh : hr A < 1000000 := by omega
  have n8 := hI.n8
  have n0 := hI.n0
  have h0 := hI.h0
  have ht0 : 0 ≤ tn := hS.2.2.2.1.2.1
  have ht1 : tn ≤ 120 := hS.2.2.2.1.2.2.1
  have hk01 : ik = 0 ∨ ik = 1 := hS.2.1.2.1
  have hB3 : okB bq sq := hS.2.2.2.2.1
  have hH0 : RepH (iv (bq 0), iv (sq 0), c0) bq sq cq 0 := hS.2.2.2.2.2.1
  have hH1 : RepH (iv (bq 1), iv (sq 1), c1) bq sq cq 1 := hS.2.2.2.2.2.2.1
  have hH2 : RepH (iv (bq 2), iv (sq 2), c2) bq sq cq 2 := hS.2.2.2.2.2.2.2.1
  have hH3 : RepH (iv (bq 3), iv (sq 3), c3) bq sq cq 3 := hS.2.2.2.2.2.2.2.2
  have ob0 := hB3.1 0 (by omega) (by omega)
  have zb0 := hB3.2 0 (by omega) (by omega)
  refine lv_aload_n X.1 X.2.1 dX4_book_0 rfl (lv_at hl 0 rfl) ?_
  refine lv_iload_n X.1 X.2.1 dX4_book_1 rfl (lv_at hl 1 rfl) ?_
  refine z_pq (run_V (rest := []) X h (c_sheetAt0) mi_X4_sheetAt ml_X4_184 ⟨Nat.le_of_ble_eq_true rfl, Nat.le_of_ble_eq_true rfl⟩ ⟨rfl, rfl⟩ (Seg.rfl' _) 3 0 rfl rfl rfl rfl hl.1 rfl (Nat.le_of_ble_eq_true rfl) ⟨Nat.zero_le _, Nat.zero_le _⟩ dX4_book_2) ?_
  refine W.eq (g2 := F0 m 5 ls [.ref (q 0 0)]) rfl ?_
  refine lv_astore_n (lv' := [(3, .ref (q 0 0)), (0, .ref (a 0)), (1, .int (iv (0))), (2, .int (iv (pz)))]) X.1 X.2.1 dX4_book_5 rfl hl (by decide) rfl (fun ls hl => ?_)
  refine lv_aload_n X.1 X.2.1 dX4_book_6 rfl (lv_at hl 0 rfl) ?_
  refine lv_ifnonnull (tgt := 17) X.1 X.2.1 dX4_book_7 (by decide) ?_
  refine lv_aload_n X.1 X.2.1 dX4_book_17 rfl (lv_at hl 0 rfl) ?_
  refine z_pi (run_V (rest := []) X (st_sing (st_in (st_in (st_in (st_in (st_in (st_nil h))))))) (c_X0_isMissing (y := q 0) (bt := bq 0) ⟨by omega, by omega⟩) mi_X0_isMissing ml_X4_193 ⟨Nat.le_of_ble_eq_true rfl, Nat.le_of_ble_eq_true rfl⟩ ⟨rfl, rfl⟩ (Seg.mk' _ _) 0 35 rfl rfl rfl rfl hl.1 rfl (Nat.le_of_ble_eq_true rfl) ⟨Nat.zero_le _, Nat.zero_le _⟩ dX4_book_18) ?_
  refine z_ifb_eq (tgt := 31) X dX4_book_21 (by decide) (fun c_21 => ?_) (fun c_21 => ?_)
  · refine lv_aload_n X.1 X.2.1 dX4_book_31 rfl (lv_at hl 1 rfl) ?_
    refine lv_iload_n X.1 X.2.1 dX4_book_32 rfl (lv_at hl 3 rfl) ?_
    refine z_pi (run_V (rest := []) X h (c_X4_isPerson (p := pz) hI r_pz) mi_X4_isPerson ml_X4_94 ⟨Nat.le_of_ble_eq_true rfl, Nat.le_of_ble_eq_true rfl⟩ ⟨rfl, rfl⟩ (Seg.rfl' _) 3 0 rfl rfl rfl rfl hl.1 rfl (Nat.le_of_ble_eq_true rfl) ⟨Nat.zero_le _, Nat.zero_le _⟩ dX4_book_33) ?_
    refine z_ifb_ne (tgt := 46) X dX4_book_36 (by decide) (fun c_36 => ?_) (fun c_36 => ?_)
    · refine lv_aload_n X.1 X.2.1 dX4_book_46 rfl (lv_at hl 1 rfl) ?_
      refine z_av h (run_V (rest := []) X h (c_X4_startTrial hR hI.n8) mi_X4_startTrial ml_X4_150 ⟨Nat.le_of_ble_eq_true rfl, Nat.le_of_ble_eq_true rfl⟩ ⟨rfl, rfl⟩ (Seg.rfl' _) 3 0 rfl rfl rfl rfl hl.1 rfl (Nat.le_of_ble_eq_true rfl) ⟨Nat.zero_le _, Nat.zero_le _⟩ dX4_book_47) (fun _ => map_app rfl (map_app rfl (map_app rfl (map_app (wS_map _ _ _ _ _ _ _ _) rfl)))) (fun u H locs hp h => ?_)
      obtain ⟨r0_1, r1_1, r2_1, r3_1, r4_1, r5_1, r6_1, r7_1, r8_1⟩ := u
      have h : St E _ s H locs (wO E a k b t x q ((iv (ik))) fd ++ (wS E k ((hk)) ((nk)) (k1, k2, k3, k4, k5, k6, k7, k8, k9) ++ (wS E b ((iv (hr A))) ((iv (pe A))) (xs, xi, xk, xc, xl, xr, xb, yl, yr) ++ (wS E t ((iv (hr A))) ((iv (pe A))) (r0_1, r1_1, r2_1, r3_1, r4_1, r5_1, r6_1, r7_1, r8_1) ++ (wX E x ((iv (tn))) ((e1)) ((e2)) ((e3)) ((e4)) tp ++ (wH E (q 0) ((iv (bq 0))) ((iv (sq 0))) c0 ++ (wH E (q 1) ((iv (bq 1))) ((iv (sq 1))) c1 ++ (wH E (q 2) ((iv (bq 2))) ((iv (sq 2))) c2 ++ (wH E (q 3) ((iv (bq 3))) ((iv (sq 3))) c3 ++ []))))))))) := h
      have hRb1 : RS (r0_1, r1_1, r2_1, r3_1, r4_1, r5_1, r6_1, r7_1, r8_1) A := hp
      refine z_iconst X dX4_book_50 ?_
      refine lv_istore (lv' := [(4, .int (iv (0))), (3, .ref (q 0 0)), (0, .ref (a 0)), (1, .int (iv (0))), (2, .int (iv (pz)))]) X.1 X.2.1 dX4_book_51 hl (by decide) rfl (fun ls hl => ?_)
      have L53 : ∀ (fuel_ : Nat) (i : Int) (g1 : Nat → Int32) (g2 : Nat → Int32) (g3 : Nat → Int32) (g4 : Nat → Int32) (g5 : Nat → Int32) (g6 : Nat → Int32) (g7 : Nat → Int32) (g8 : Nat → Int32) (g9 : Nat → Int32) (cv : Nat → Int64), (0 ≤ i) → (i ≤ sq 0) → (RS (g1, g2, g3, g4, g5, g6, g7, g8, g9) (stepn A i.toNat)) → (∀ k, 0 ≤ k → k < 40 → cv k.toNat = bookq A bq cq 0 pz i 0 k) → sq 0 - i < (fuel_ : Int) → ∀ (H : Heap) (locs : List Loc), St E (wO E a k b t x q ((iv (ik))) fd ++ (wS E k ((hk)) ((nk)) (k1, k2, k3, k4, k5, k6, k7, k8, k9) ++ (wS E b ((iv (hr A))) ((iv (pe A))) (xs, xi, xk, xc, xl, xr, xb, yl, yr) ++ (wS E t ((ht)) ((nt)) (t1, t2, t3, t4, t5, t6, t7, t8, t9) ++ (wX E x ((iv (tn))) ((e1)) ((e2)) ((e3)) ((e4)) tp ++ (wH E (q 0) ((iv (bq 0))) ((iv (sq 0))) c0 ++ (wH E (q 1) ((iv (bq 1))) ((iv (sq 1))) c1 ++ (wH E (q 2) ((iv (bq 2))) ((iv (sq 2))) c2 ++ (wH E (q 3) ((iv (bq 3))) ((iv (sq 3))) c3 ++ []))))))))) s H locs (wO E a k b t x q ((iv (ik))) fd ++ (wS E k ((hk)) ((nk)) (k1, k2, k3, k4, k5, k6, k7, k8, k9) ++ (wS E b ((iv (hr A))) ((iv (pe A))) (xs, xi, xk, xc, xl, xr, xb, yl, yr) ++ (wS E t ((iv (hr (stepn A i.toNat)))) ((iv (pe (stepn A i.toNat)))) (g1, g2, g3, g4, g5, g6, g7, g8, g9) ++ (wX E x ((iv (tn))) ((e1)) ((e2)) ((e3)) ((e4)) tp ++ (wH E (q 0) ((iv (bq 0))) ((iv (sq 0))) cv ++ (wH E (q 1) ((iv (bq 1))) ((iv (sq 1))) c1 ++ (wH E (q 2) ((iv (bq 2))) ((iv (sq 2))) c2 ++ (wH E (q 3) ((iv (bq 3))) ((iv (sq 3))) c3 ++ []))))))))) → ∀ ls : Array Slot, lv_has ls 5 [(3, .ref (q 0 0)), (0, .ref (a 0)), (1, .int (iv (0))), (2, .int (iv (pz))), (4, .int (iv (i)))] → W pp l e (rmk 4 89) s m args below meth c H locs 0 0 Q (F0 m 53 ls []) := by
        intro fuel_
        induction fuel_ with
        | zero =>
          intro i g1 g2 g3 g4 g5 g6 g7 g8 g9 cv i0 i1 hv hc hn
          exfalso; omega
        | succ fuel_ ih =>
          intro i g1 g2 g3 g4 g5 g6 g7 g8 g9 cv i0 i1 hv hc hn H locs h ls hl
          have pm : pe (stepn A i.toNat) = pe A := stepn_pe _ _
          have bR := brnn_rng hI i.toNat (p := pz) (by omega) (by omega)
          refine lv_iload X.1 X.2.1 dX4_book_53 (lv_at hl 4 rfl) ?_
          refine lv_aload_n X.1 X.2.1 dX4_book_55 rfl (lv_at hl 0 rfl) ?_
          refine z_get X h 0 35 1 rfl inX0 rfl (by decide) fl_X4_192 rfl dX4_book_56 ?_
          refine z_ic_ge (tgt := 90) X ⟨by omega, by omega⟩ ⟨by omega, by omega⟩ dX4_book_59 (by decide) (fun c_59 => ?_) (fun c_59 => ?_)
          · have hce : RepH (iv (bq 0), iv (sq 0), cv) bq sq (bookq A bq cq 0 pz (sq 0)) 0 := ⟨rfl, rfl, fun k k0 k1 => by rw [show sq 0 = i by omega]; exact hc k k0 k1⟩
            refine lv_aload_n X.1 X.2.1 dX4_book_90 rfl (lv_at hl 0 rfl) ?_
            refine z_get X h 0 35 1 rfl inX0 rfl (by decide) fl_X4_192 rfl dX4_book_91 ?_
            have e9 : q_book A bq sq cq ph 0 pz = (sq 0, (bookq A bq cq 0 pz (sq 0)), ph) := by unfold q_book; (repeat (first | rw [if_pos (by omega)] | rw [if_neg (by omega)])); try rfl
            exact ret _ _ _ _ _ (((iv (ik)), fd), ((hk), (nk), (k1, k2, k3, k4, k5, k6, k7, k8, k9)), ((iv (hr A)), (iv (pe A)), (xs, xi, xk, xc, xl, xr, xb, yl, yr)), ((iv (hr (stepn A i.toNat))), (iv (pe (stepn A i.toNat))), (g1, g2, g3, g4, g5, g6, g7, g8, g9)), ((iv (tn)), (e1), (e2), (e3), (e4), tp), ((iv (bq 0)), (iv (sq 0)), cv), ((iv (bq 1)), (iv (sq 1)), c1), ((iv (bq 2)), (iv (sq 2)), c2), ((iv (bq 3)), (iv (sq 3)), c3)) h (by rw [e9]; exact ⟨rfl, ⟨⟨rfl, rfl, hR, hI, hr9⟩, hK, hF, hT, ⟨hB3, hce, RepH_bn hH1 (by decide), RepH_bn hH2 (by decide), RepH_bn hH3 (by decide)⟩⟩⟩) dX4_book_94
          · refine lv_aload_n X.1 X.2.1 dX4_book_62 rfl (lv_at hl 0 rfl) ?_
            refine lv_iload X.1 X.2.1 dX4_book_63 (lv_at hl 4 rfl) ?_
            refine lv_aload_n X.1 X.2.1 dX4_book_65 rfl (lv_at hl 1 rfl) ?_
            refine z_get X h 3 0 1 rfl inX4 rfl (by decide) fl_X4_16 rfl dX4_book_66 ?_
            refine lv_iload_n X.1 X.2.1 dX4_book_69 rfl (lv_at hl 3 rfl) ?_
            refine z_pi (run_V (rest := [.int (iv (i)), .ref (q 0 0)]) X (st_in (st_in (st_in (st_nil h)))) (c_X1_brownOf (p := pz) hv (stepn_IA hI i.toNat) (by omega) (by omega)) mi_X1_brownOf ml_X4_128 ⟨Nat.le_of_ble_eq_true rfl, Nat.le_of_ble_eq_true rfl⟩ ⟨rfl, rfl⟩ (Seg.mk' _ _) 1 23 rfl rfl rfl rfl hl.1 rfl (Nat.le_of_ble_eq_true rfl) ⟨Nat.zero_le _, Nat.zero_le _⟩ dX4_book_70) ?_
            refine lv_i2l (v := (iv (brn (stepn A i.toNat) pz)).toInt64) X.1 X.2.1 dX4_book_73 rfl ?_
            refine z_wv (st_sing (st_in (st_in (st_in (st_in (st_in (st_nil h))))))) (run_V (rest := []) X (st_sing (st_in (st_in (st_in (st_in (st_in (st_nil h))))))) (c_X0_put (y := q 0) (bt := bq 0) (i9 := i) (v9 := (iv (brn (stepn A i.toNat) pz)).toInt64) ⟨by omega, by omega⟩ (by omega) (by omega)) mi_X0_put ml_X4_202 ⟨Nat.le_of_ble_eq_true rfl, Nat.le_of_ble_eq_true rfl⟩ ⟨rfl, rfl⟩ (Seg.mk' _ _) 0 35 rfl rfl rfl rfl hl.1 rfl (Nat.le_of_ble_eq_true rfl) ⟨Nat.zero_le _, Nat.zero_le _⟩ dX4_book_74) (fun _ => map_app (wH_map _ _ _ _ _ _ _ _) rfl) (fun u H locs hp h => ?_)
            have h := (st_lin (st_out (st_out (st_out (st_out (st_out (st_gnis h)))))))
            have h : St E _ s H locs (wO E a k b t x q ((iv (ik))) fd ++ (wS E k ((hk)) ((nk)) (k1, k2, k3, k4, k5, k6, k7, k8, k9) ++ (wS E b ((iv (hr A))) ((iv (pe A))) (xs, xi, xk, xc, xl, xr, xb, yl, yr) ++ (wS E t ((iv (hr (stepn A i.toNat)))) ((iv (pe (stepn A i.toNat)))) (g1, g2, g3, g4, g5, g6, g7, g8, g9) ++ (wX E x ((iv (tn))) ((e1)) ((e2)) ((e3)) ((e4)) tp ++ (wH E (q 0) ((iv (bq 0))) ((iv (sq 0))) (vp_updL cv (i : Int).toNat (cut (bq 0) ((iv (brn (stepn A i.toNat) pz)).toInt64))) ++ (wH E (q 1) ((iv (bq 1))) ((iv (sq 1))) c1 ++ (wH E (q 2) ((iv (bq 2))) ((iv (sq 2))) c2 ++ (wH E (q 3) ((iv (bq 3))) ((iv (sq 3))) c3 ++ []))))))))) := h
            refine lv_aload_n X.1 X.2.1 dX4_book_77 rfl (lv_at hl 1 rfl) ?_
            refine z_get X h 3 0 1 rfl inX4 rfl (by decide) fl_X4_16 rfl dX4_book_78 ?_
            refine z_wv (st_in (st_in (st_in (st_nil h)))) (run_V (rest := []) X (st_in (st_in (st_in (st_nil h)))) (c_X1_passHour hv (stepn_IA hI i.toNat) (show hr (stepn A i.toNat) < 1000000 by rw [stepn_hr]; omega)) mi_X1_passHour ml_X4_153 ⟨Nat.le_of_ble_eq_true rfl, Nat.le_of_ble_eq_true rfl⟩ ⟨rfl, rfl⟩ (Seg.mk' _ _) 1 23 rfl rfl rfl rfl hl.1 rfl (Nat.le_of_ble_eq_true rfl) ⟨Nat.zero_le _, Nat.zero_le _⟩ dX4_book_81) (fun _ => wS_map _ _ _ _ _ _ _ _) (fun u H locs hp h => ?_)
            have h := (st_lin (st_out (st_out (st_out h))))
            obtain ⟨z0_2, z1_2, z2_2, z3_2, z4_2, z5_2, z6_2, z7_2, z8_2⟩ := u
            have h : St E _ s H locs (wO E a k b t x q ((iv (ik))) fd ++ (wS E k ((hk)) ((nk)) (k1, k2, k3, k4, k5, k6, k7, k8, k9) ++ (wS E b ((iv (hr A))) ((iv (pe A))) (xs, xi, xk, xc, xl, xr, xb, yl, yr) ++ (wS E t ((iv (hr (step (stepn A i.toNat))))) ((iv (pe (step (stepn A i.toNat))))) (z0_2, z1_2, z2_2, z3_2, z4_2, z5_2, z6_2, z7_2, z8_2) ++ (wX E x ((iv (tn))) ((e1)) ((e2)) ((e3)) ((e4)) tp ++ (wH E (q 0) ((iv (bq 0))) ((iv (sq 0))) (vp_updL cv (i : Int).toNat (cut (bq 0) ((iv (brn (stepn A i.toNat) pz)).toInt64))) ++ (wH E (q 1) ((iv (bq 1))) ((iv (sq 1))) c1 ++ (wH E (q 2) ((iv (bq 2))) ((iv (sq 2))) c2 ++ (wH E (q 3) ((iv (bq 3))) ((iv (sq 3))) c3 ++ []))))))))) := h
            have hR2 : RS (z0_2, z1_2, z2_2, z3_2, z4_2, z5_2, z6_2, z7_2, z8_2) (step (stepn A i.toNat)) := hp
            have es : step (stepn A i.toNat) = stepn A (i + 1).toNat := by rw [tn1 (by omega)]; rfl
            have h : St E (wO E a k b t x q ((iv (ik))) fd ++ (wS E k ((hk)) ((nk)) (k1, k2, k3, k4, k5, k6, k7, k8, k9) ++ (wS E b ((iv (hr A))) ((iv (pe A))) (xs, xi, xk, xc, xl, xr, xb, yl, yr) ++ (wS E t ((ht)) ((nt)) (t1, t2, t3, t4, t5, t6, t7, t8, t9) ++ (wX E x ((iv (tn))) ((e1)) ((e2)) ((e3)) ((e4)) tp ++ (wH E (q 0) ((iv (bq 0))) ((iv (sq 0))) c0 ++ (wH E (q 1) ((iv (bq 1))) ((iv (sq 1))) c1 ++ (wH E (q 2) ((iv (bq 2))) ((iv (sq 2))) c2 ++ (wH E (q 3) ((iv (bq 3))) ((iv (sq 3))) c3 ++ []))))))))) s H locs (wO E a k b t x q ((iv (ik))) fd ++ (wS E k ((hk)) ((nk)) (k1, k2, k3, k4, k5, k6, k7, k8, k9) ++ (wS E b ((iv (hr A))) ((iv (pe A))) (xs, xi, xk, xc, xl, xr, xb, yl, yr) ++ (wS E t ((iv (hr (stepn A (i + 1).toNat)))) ((iv (pe (stepn A (i + 1).toNat)))) (z0_2, z1_2, z2_2, z3_2, z4_2, z5_2, z6_2, z7_2, z8_2) ++ (wX E x ((iv (tn))) ((e1)) ((e2)) ((e3)) ((e4)) tp ++ (wH E (q 0) ((iv (bq 0))) ((iv (sq 0))) (vp_updL cv (i : Int).toNat (cut (bq 0) ((iv (brn (stepn A i.toNat) pz)).toInt64))) ++ (wH E (q 1) ((iv (bq 1))) ((iv (sq 1))) c1 ++ (wH E (q 2) ((iv (bq 2))) ((iv (sq 2))) c2 ++ (wH E (q 3) ((iv (bq 3))) ((iv (sq 3))) c3 ++ []))))))))) := by rw [← es]; exact h
            have tR9 : RS (z0_2, z1_2, z2_2, z3_2, z4_2, z5_2, z6_2, z7_2, z8_2) (stepn A (i + 1).toNat) := by rw [← es]; exact hR2
            refine z_iinc (k := 4) (lv' := [(4, .int (iv (i + 1))), (3, .ref (q 0 0)), (0, .ref (a 0)), (1, .int (iv (0))), (2, .int (iv (pz)))]) X dX4_book_84 hl rfl (by decide) rfl (fun ls hl => ?_)
            refine lv_goto (tgt := 53) X.1 X.2.1 dX4_book_87 (by decide) ?_
            exact ih (i + 1) (z0_2) (z1_2) (z2_2) (z3_2) (z4_2) (z5_2) (z6_2) (z7_2) (z8_2) ((vp_updL cv (i : Int).toNat (cut (bq 0) ((iv (brn (stepn A i.toNat) pz)).toInt64)))) (by omega) (by omega) (tR9) (bk_step i0 hc) (by omega) _ _ h ls (lv_sub hl [1, 2, 3, 4, 0] rfl)
      exact L53 ((sq 0 - (0) : Int).toNat + 1) (0) (r0_1) (r1_1) (r2_1) (r3_1) (r4_1) (r5_1) (r6_1) (r7_1) (r8_1) (c0) (by omega) (by omega) (hRb1) (bk_0 hH0) (by omega) _ _ h ls (lv_sub hl [1, 2, 3, 4, 0] rfl)
    · refine lv_aload_n X.1 X.2.1 dX4_book_39 rfl (lv_at hl 1 rfl) ?_
      refine z_ldc (z := (-1000000001)) X ct_X4_48 (by decide) dX4_book_40 ?_
      refine z_wi (st_sing (st_nil h)) (run_V (rest := []) X (st_sing (st_nil h)) (c_X4_finding (j := 0) hF (by decide) (by decide) (by decide)) mi_X4_finding ml_X4_49 ⟨Nat.le_of_ble_eq_true rfl, Nat.le_of_ble_eq_true rfl⟩ ⟨rfl, rfl⟩ (Seg.mk' _ _) 3 0 rfl rfl rfl rfl hl.1 rfl (Nat.le_of_ble_eq_true rfl) ⟨Nat.zero_le _, Nat.zero_le _⟩ dX4_book_42) (fun _ => map_app (wO_map _ _ _ _ _ _ _ _ _ _ _) rfl) (fun r fd3 H locs hp h => ?_)
      have h := (st_lin (st_gnis h))
      obtain ⟨rfl, hF3⟩ := hp
      have h : St E _ s H locs (wO E a k b t x q ((iv (ik))) fd3 ++ (wS E k ((hk)) ((nk)) (k1, k2, k3, k4, k5, k6, k7, k8, k9) ++ (wS E b ((iv (hr A))) ((iv (pe A))) (xs, xi, xk, xc, xl, xr, xb, yl, yr) ++ (wS E t ((ht)) ((nt)) (t1, t2, t3, t4, t5, t6, t7, t8, t9) ++ (wX E x ((iv (tn))) ((e1)) ((e2)) ((e3)) ((e4)) tp ++ (wH E (q 0) ((iv (bq 0))) ((iv (sq 0))) c0 ++ (wH E (q 1) ((iv (bq 1))) ((iv (sq 1))) c1 ++ (wH E (q 2) ((iv (bq 2))) ((iv (sq 2))) c2 ++ (wH E (q 3) ((iv (bq 3))) ((iv (sq 3))) c3 ++ []))))))))) := h
      have e9 : q_book A bq sq cq ph 0 pz = ((-1000000001), cq, (bump ph 0)) := by unfold q_book; (repeat (first | rw [if_pos (by omega)] | rw [if_neg (by omega)])); try rfl
      exact ret _ _ _ _ _ (((iv (ik)), fd3), ((hk), (nk), (k1, k2, k3, k4, k5, k6, k7, k8, k9)), ((iv (hr A)), (iv (pe A)), (xs, xi, xk, xc, xl, xr, xb, yl, yr)), ((ht), (nt), (t1, t2, t3, t4, t5, t6, t7, t8, t9)), ((iv (tn)), (e1), (e2), (e3), (e4), tp), ((iv (bq 0)), (iv (sq 0)), c0), ((iv (bq 1)), (iv (sq 1)), c1), ((iv (bq 2)), (iv (sq 2)), c2), ((iv (bq 3)), (iv (sq 3)), c3)) h (by rw [e9]; exact ⟨rfl, ⟨⟨rfl, rfl, hR, hI, hr9⟩, hK, hF3, hT, hB⟩⟩) dX4_book_45
  · refine lv_aload_n X.1 X.2.1 dX4_book_24 rfl (lv_at hl 1 rfl) ?_
    refine z_ldc (z := (-1000000006)) X ct_X4_197 (by decide) dX4_book_25 ?_
    refine z_wi (st_sing (st_nil h)) (run_V (rest := []) X (st_sing (st_nil h)) (c_X4_finding (j := 5) hF (by decide) (by decide) (by decide)) mi_X4_finding ml_X4_49 ⟨Nat.le_of_ble_eq_true rfl, Nat.le_of_ble_eq_true rfl⟩ ⟨rfl, rfl⟩ (Seg.mk' _ _) 3 0 rfl rfl rfl rfl hl.1 rfl (Nat.le_of_ble_eq_true rfl) ⟨Nat.zero_le _, Nat.zero_le _⟩ dX4_book_27) (fun _ => map_app (wO_map _ _ _ _ _ _ _ _ _ _ _) rfl) (fun r fd4 H locs hp h => ?_)
    have h := (st_lin (st_gnis h))
    obtain ⟨rfl, hF4⟩ := hp
    have h : St E _ s H locs (wO E a k b t x q ((iv (ik))) fd4 ++ (wS E k ((hk)) ((nk)) (k1, k2, k3, k4, k5, k6, k7, k8, k9) ++ (wS E b ((iv (hr A))) ((iv (pe A))) (xs, xi, xk, xc, xl, xr, xb, yl, yr) ++ (wS E t ((ht)) ((nt)) (t1, t2, t3, t4, t5, t6, t7, t8, t9) ++ (wX E x ((iv (tn))) ((e1)) ((e2)) ((e3)) ((e4)) tp ++ (wH E (q 0) ((iv (bq 0))) ((iv (sq 0))) c0 ++ (wH E (q 1) ((iv (bq 1))) ((iv (sq 1))) c1 ++ (wH E (q 2) ((iv (bq 2))) ((iv (sq 2))) c2 ++ (wH E (q 3) ((iv (bq 3))) ((iv (sq 3))) c3 ++ []))))))))) := h
    have e9 : q_book A bq sq cq ph 0 pz = ((-1000000006), cq, (bump ph 5)) := by unfold q_book; (repeat (first | rw [if_pos (by omega)] | rw [if_neg (by omega)])); try rfl
    exact ret _ _ _ _ _ (((iv (ik)), fd4), ((hk), (nk), (k1, k2, k3, k4, k5, k6, k7, k8, k9)), ((iv (hr A)), (iv (pe A)), (xs, xi, xk, xc, xl, xr, xb, yl, yr)), ((ht), (nt), (t1, t2, t3, t4, t5, t6, t7, t8, t9)), ((iv (tn)), (e1), (e2), (e3), (e4), tp), ((iv (bq 0)), (iv (sq 0)), c0), ((iv (bq 1)), (iv (sq 1)), c1), ((iv (bq 2)), (iv (sq 2)), c2), ((iv (bq 3)), (iv (sq 3)), c3)) h (by rw [e9]; exact ⟨rfl, ⟨⟨rfl, rfl, hR, hI, hr9⟩, hK, hF4, hT, hB⟩⟩) dX4_book_30

set_option maxHeartbeats 4000000 in
theorem c_X4_book_1 (hS : RepC (((iv (ik)), fd), ((hk), (nk), (k1, k2, k3, k4, k5, k6, k7, k8, k9)), ((iv (hr A)), (iv (pe A)), (xs, xi, xk, xc, xl, xr, xb, yl, yr)), ((ht), (nt), (t1, t2, t3, t4, t5, t6, t7, t8, t9)), ((iv (tn)), (e1), (e2), (e3), (e4), tp), ((iv (bq 0)), (iv (sq 0)), c0), ((iv (bq 1)), (iv (sq 1)), c1), ((iv (bq 2)), (iv (sq 2)), c2), ((iv (bq 3)), (iv (sq 3)), c3)) (A, K, ik, ph, tq, tn, bq, sq, cq)) {pz : Int} (r_pz : r32 pz) : MI (S := Tc) E l yX4_book cX4_book 5 (some FieldType.int) (rmk 4 89) (wO E a k b t x q ((iv (ik))) fd ++ (wS E k ((hk)) ((nk)) (k1, k2, k3, k4, k5, k6, k7, k8, k9) ++ (wS E b ((iv (hr A))) ((iv (pe A))) (xs, xi, xk, xc, xl, xr, xb, yl, yr) ++ (wS E t ((ht)) ((nt)) (t1, t2, t3, t4, t5, t6, t7, t8, t9) ++ (wX E x ((iv (tn))) ((e1)) ((e2)) ((e3)) ((e4)) tp ++ (wH E (q 0) ((iv (bq 0))) ((iv (sq 0))) c0 ++ (wH E (q 1) ((iv (bq 1))) ((iv (sq 1))) c1 ++ (wH E (q 2) ((iv (bq 2))) ((iv (sq 2))) c2 ++ (wH E (q 3) ((iv (bq 3))) ((iv (sq 3))) c3 ++ []))))))))) [.ref (a 0), .int (iv (1)), .int (iv (pz))] (fun r u => r = iv ((q_book A bq sq cq ph 1 pz).1) ∧ RepC u (A, K, ik, (q_book A bq sq cq ph 1 pz).2.2, tq, tn, bq, sq, (q_book A bq sq cq ph 1 pz).2.1)) (fun u => wT E a k b t x q u) := by
  refine goI (S := Tc) (post := fun r u => r = iv ((q_book A bq sq cq ph 1 pz).1) ∧ RepC u (A, K, ik, (q_book A bq sq cq ph 1 pz).2.2, tq, tn, bq, sq, (q_book A bq sq cq ph 1 pz).2.1)) (ws' := fun u => wT E a k b t x q u) (by decide) (Nat.le_of_ble_eq_true rfl) ?_
  intro pp e s m below meth c ls args Q ret X h hl
  have hl : lv_has ls 5 [(0, .ref (a 0)), (1, .int (iv (1))), (2, .int (iv (pz)))] := hl
  have hR : RS (xs, xi, xk, xc, xl, xr, xb, yl, yr) A := hS.1.2.2.1
  have hI : IA A := hS.1.2.2.2.1
  have hr9 : hr A ≤ 99999 := hS.1.2.2.2.2
  have hF : RF 7 fd ph := hS.2.2.1
  have hK := hS.2.1
  have hT := hS.2.2.2.1
  have hB := hS.2.2.2.2
  have hh : hr A < 1000000 := by omega
  have n8 := hI.n8
  have n0 := hI.n0
  have h0 := hI.h0
  have ht0 : 0 ≤ tn := hS.2.2.2.1.2.1
  have ht1 : tn ≤ 120 := hS.2.2.2.1.2.2.1
  have hk01 : ik = 0 ∨ ik = 1 := hS.2.1.2.1
  have hB3 : okB bq sq := hS.2.2.2.2.1
  have hH0 : RepH (iv (bq 0), iv (sq 0), c0) bq sq cq 0 := hS.2.2.2.2.2.1
  have hH1 : RepH (iv (bq 1), iv (sq 1), c1) bq sq cq 1 := hS.2.2.2.2.2.2.1
  have hH2 : RepH (iv (bq 2), iv (sq 2), c2) bq sq cq 2 := hS.2.2.2.2.2.2.2.1
  have hH3 : RepH (iv (bq 3), iv (sq 3), c3) bq sq cq 3 := hS.2.2.2.2.2.2.2.2
  have ob1 := hB3.1 1 (by omega) (by omega)
  have zb1 := hB3.2 1 (by omega) (by omega)
  refine lv_aload_n X.1 X.2.1 dX4_book_0 rfl (lv_at hl 0 rfl) ?_
  refine lv_iload_n X.1 X.2.1 dX4_book_1 rfl (lv_at hl 1 rfl) ?_
  refine z_pq (run_V (rest := []) X h (c_sheetAt1) mi_X4_sheetAt ml_X4_184 ⟨Nat.le_of_ble_eq_true rfl, Nat.le_of_ble_eq_true rfl⟩ ⟨rfl, rfl⟩ (Seg.rfl' _) 3 0 rfl rfl rfl rfl hl.1 rfl (Nat.le_of_ble_eq_true rfl) ⟨Nat.zero_le _, Nat.zero_le _⟩ dX4_book_2) ?_
  refine W.eq (g2 := F0 m 5 ls [.ref (q 1 0)]) rfl ?_
  refine lv_astore_n (lv' := [(3, .ref (q 1 0)), (0, .ref (a 0)), (1, .int (iv (1))), (2, .int (iv (pz)))]) X.1 X.2.1 dX4_book_5 rfl hl (by decide) rfl (fun ls hl => ?_)
  refine lv_aload_n X.1 X.2.1 dX4_book_6 rfl (lv_at hl 0 rfl) ?_
  refine lv_ifnonnull (tgt := 17) X.1 X.2.1 dX4_book_7 (by decide) ?_
  refine lv_aload_n X.1 X.2.1 dX4_book_17 rfl (lv_at hl 0 rfl) ?_
  refine z_pi (run_V (rest := []) X (st_sing (st_in (st_in (st_in (st_in (st_in (st_in (st_nil h)))))))) (c_X0_isMissing (y := q 1) (bt := bq 1) ⟨by omega, by omega⟩) mi_X0_isMissing ml_X4_193 ⟨Nat.le_of_ble_eq_true rfl, Nat.le_of_ble_eq_true rfl⟩ ⟨rfl, rfl⟩ (Seg.mk' _ _) 0 37 rfl rfl rfl rfl hl.1 rfl (Nat.le_of_ble_eq_true rfl) ⟨Nat.zero_le _, Nat.zero_le _⟩ dX4_book_18) ?_
  refine z_ifb_eq (tgt := 31) X dX4_book_21 (by decide) (fun c_21 => ?_) (fun c_21 => ?_)
  · refine lv_aload_n X.1 X.2.1 dX4_book_31 rfl (lv_at hl 1 rfl) ?_
    refine lv_iload_n X.1 X.2.1 dX4_book_32 rfl (lv_at hl 3 rfl) ?_
    refine z_pi (run_V (rest := []) X h (c_X4_isPerson (p := pz) hI r_pz) mi_X4_isPerson ml_X4_94 ⟨Nat.le_of_ble_eq_true rfl, Nat.le_of_ble_eq_true rfl⟩ ⟨rfl, rfl⟩ (Seg.rfl' _) 3 0 rfl rfl rfl rfl hl.1 rfl (Nat.le_of_ble_eq_true rfl) ⟨Nat.zero_le _, Nat.zero_le _⟩ dX4_book_33) ?_
    refine z_ifb_ne (tgt := 46) X dX4_book_36 (by decide) (fun c_36 => ?_) (fun c_36 => ?_)
    · refine lv_aload_n X.1 X.2.1 dX4_book_46 rfl (lv_at hl 1 rfl) ?_
      refine z_av h (run_V (rest := []) X h (c_X4_startTrial hR hI.n8) mi_X4_startTrial ml_X4_150 ⟨Nat.le_of_ble_eq_true rfl, Nat.le_of_ble_eq_true rfl⟩ ⟨rfl, rfl⟩ (Seg.rfl' _) 3 0 rfl rfl rfl rfl hl.1 rfl (Nat.le_of_ble_eq_true rfl) ⟨Nat.zero_le _, Nat.zero_le _⟩ dX4_book_47) (fun _ => map_app rfl (map_app rfl (map_app rfl (map_app (wS_map _ _ _ _ _ _ _ _) rfl)))) (fun u H locs hp h => ?_)
      obtain ⟨r0_1, r1_1, r2_1, r3_1, r4_1, r5_1, r6_1, r7_1, r8_1⟩ := u
      have h : St E _ s H locs (wO E a k b t x q ((iv (ik))) fd ++ (wS E k ((hk)) ((nk)) (k1, k2, k3, k4, k5, k6, k7, k8, k9) ++ (wS E b ((iv (hr A))) ((iv (pe A))) (xs, xi, xk, xc, xl, xr, xb, yl, yr) ++ (wS E t ((iv (hr A))) ((iv (pe A))) (r0_1, r1_1, r2_1, r3_1, r4_1, r5_1, r6_1, r7_1, r8_1) ++ (wX E x ((iv (tn))) ((e1)) ((e2)) ((e3)) ((e4)) tp ++ (wH E (q 0) ((iv (bq 0))) ((iv (sq 0))) c0 ++ (wH E (q 1) ((iv (bq 1))) ((iv (sq 1))) c1 ++ (wH E (q 2) ((iv (bq 2))) ((iv (sq 2))) c2 ++ (wH E (q 3) ((iv (bq 3))) ((iv (sq 3))) c3 ++ []))))))))) := h
      have hRb1 : RS (r0_1, r1_1, r2_1, r3_1, r4_1, r5_1, r6_1, r7_1, r8_1) A := hp
      refine z_iconst X dX4_book_50 ?_
      refine lv_istore (lv' := [(4, .int (iv (0))), (3, .ref (q 1 0)), (0, .ref (a 0)), (1, .int (iv (1))), (2, .int (iv (pz)))]) X.1 X.2.1 dX4_book_51 hl (by decide) rfl (fun ls hl => ?_)
      have L53 : ∀ (fuel_ : Nat) (i : Int) (g1 : Nat → Int32) (g2 : Nat → Int32) (g3 : Nat → Int32) (g4 : Nat → Int32) (g5 : Nat → Int32) (g6 : Nat → Int32) (g7 : Nat → Int32) (g8 : Nat → Int32) (g9 : Nat → Int32) (cv : Nat → Int64), (0 ≤ i) → (i ≤ sq 1) → (RS (g1, g2, g3, g4, g5, g6, g7, g8, g9) (stepn A i.toNat)) → (∀ k, 0 ≤ k → k < 40 → cv k.toNat = bookq A bq cq 1 pz i 1 k) → sq 1 - i < (fuel_ : Int) → ∀ (H : Heap) (locs : List Loc), St E (wO E a k b t x q ((iv (ik))) fd ++ (wS E k ((hk)) ((nk)) (k1, k2, k3, k4, k5, k6, k7, k8, k9) ++ (wS E b ((iv (hr A))) ((iv (pe A))) (xs, xi, xk, xc, xl, xr, xb, yl, yr) ++ (wS E t ((ht)) ((nt)) (t1, t2, t3, t4, t5, t6, t7, t8, t9) ++ (wX E x ((iv (tn))) ((e1)) ((e2)) ((e3)) ((e4)) tp ++ (wH E (q 0) ((iv (bq 0))) ((iv (sq 0))) c0 ++ (wH E (q 1) ((iv (bq 1))) ((iv (sq 1))) c1 ++ (wH E (q 2) ((iv (bq 2))) ((iv (sq 2))) c2 ++ (wH E (q 3) ((iv (bq 3))) ((iv (sq 3))) c3 ++ []))))))))) s H locs (wO E a k b t x q ((iv (ik))) fd ++ (wS E k ((hk)) ((nk)) (k1, k2, k3, k4, k5, k6, k7, k8, k9) ++ (wS E b ((iv (hr A))) ((iv (pe A))) (xs, xi, xk, xc, xl, xr, xb, yl, yr) ++ (wS E t ((iv (hr (stepn A i.toNat)))) ((iv (pe (stepn A i.toNat)))) (g1, g2, g3, g4, g5, g6, g7, g8, g9) ++ (wX E x ((iv (tn))) ((e1)) ((e2)) ((e3)) ((e4)) tp ++ (wH E (q 0) ((iv (bq 0))) ((iv (sq 0))) c0 ++ (wH E (q 1) ((iv (bq 1))) ((iv (sq 1))) cv ++ (wH E (q 2) ((iv (bq 2))) ((iv (sq 2))) c2 ++ (wH E (q 3) ((iv (bq 3))) ((iv (sq 3))) c3 ++ []))))))))) → ∀ ls : Array Slot, lv_has ls 5 [(3, .ref (q 1 0)), (0, .ref (a 0)), (1, .int (iv (1))), (2, .int (iv (pz))), (4, .int (iv (i)))] → W pp l e (rmk 4 89) s m args below meth c H locs 0 0 Q (F0 m 53 ls []) := by
        intro fuel_
        induction fuel_ with
        | zero =>
          intro i g1 g2 g3 g4 g5 g6 g7 g8 g9 cv i0 i1 hv hc hn
          exfalso; omega
        | succ fuel_ ih =>
          intro i g1 g2 g3 g4 g5 g6 g7 g8 g9 cv i0 i1 hv hc hn H locs h ls hl
          have pm : pe (stepn A i.toNat) = pe A := stepn_pe _ _
          have bR := brnn_rng hI i.toNat (p := pz) (by omega) (by omega)
          refine lv_iload X.1 X.2.1 dX4_book_53 (lv_at hl 4 rfl) ?_
          refine lv_aload_n X.1 X.2.1 dX4_book_55 rfl (lv_at hl 0 rfl) ?_
          refine z_get X h 0 37 1 rfl inX0 rfl (by decide) fl_X4_192 rfl dX4_book_56 ?_
          refine z_ic_ge (tgt := 90) X ⟨by omega, by omega⟩ ⟨by omega, by omega⟩ dX4_book_59 (by decide) (fun c_59 => ?_) (fun c_59 => ?_)
          · have hce : RepH (iv (bq 1), iv (sq 1), cv) bq sq (bookq A bq cq 1 pz (sq 1)) 1 := ⟨rfl, rfl, fun k k0 k1 => by rw [show sq 1 = i by omega]; exact hc k k0 k1⟩
            refine lv_aload_n X.1 X.2.1 dX4_book_90 rfl (lv_at hl 0 rfl) ?_
            refine z_get X h 0 37 1 rfl inX0 rfl (by decide) fl_X4_192 rfl dX4_book_91 ?_
            have e9 : q_book A bq sq cq ph 1 pz = (sq 1, (bookq A bq cq 1 pz (sq 1)), ph) := by unfold q_book; (repeat (first | rw [if_pos (by omega)] | rw [if_neg (by omega)])); try rfl
            exact ret _ _ _ _ _ (((iv (ik)), fd), ((hk), (nk), (k1, k2, k3, k4, k5, k6, k7, k8, k9)), ((iv (hr A)), (iv (pe A)), (xs, xi, xk, xc, xl, xr, xb, yl, yr)), ((iv (hr (stepn A i.toNat))), (iv (pe (stepn A i.toNat))), (g1, g2, g3, g4, g5, g6, g7, g8, g9)), ((iv (tn)), (e1), (e2), (e3), (e4), tp), ((iv (bq 0)), (iv (sq 0)), c0), ((iv (bq 1)), (iv (sq 1)), cv), ((iv (bq 2)), (iv (sq 2)), c2), ((iv (bq 3)), (iv (sq 3)), c3)) h (by rw [e9]; exact ⟨rfl, ⟨⟨rfl, rfl, hR, hI, hr9⟩, hK, hF, hT, ⟨hB3, RepH_bn hH0 (by decide), hce, RepH_bn hH2 (by decide), RepH_bn hH3 (by decide)⟩⟩⟩) dX4_book_94
          · refine lv_aload_n X.1 X.2.1 dX4_book_62 rfl (lv_at hl 0 rfl) ?_
            refine lv_iload X.1 X.2.1 dX4_book_63 (lv_at hl 4 rfl) ?_
            refine lv_aload_n X.1 X.2.1 dX4_book_65 rfl (lv_at hl 1 rfl) ?_
            refine z_get X h 3 0 1 rfl inX4 rfl (by decide) fl_X4_16 rfl dX4_book_66 ?_
            refine lv_iload_n X.1 X.2.1 dX4_book_69 rfl (lv_at hl 3 rfl) ?_
            refine z_pi (run_V (rest := [.int (iv (i)), .ref (q 1 0)]) X (st_in (st_in (st_in (st_nil h)))) (c_X1_brownOf (p := pz) hv (stepn_IA hI i.toNat) (by omega) (by omega)) mi_X1_brownOf ml_X4_128 ⟨Nat.le_of_ble_eq_true rfl, Nat.le_of_ble_eq_true rfl⟩ ⟨rfl, rfl⟩ (Seg.mk' _ _) 1 23 rfl rfl rfl rfl hl.1 rfl (Nat.le_of_ble_eq_true rfl) ⟨Nat.zero_le _, Nat.zero_le _⟩ dX4_book_70) ?_
            refine lv_i2l (v := (iv (brn (stepn A i.toNat) pz)).toInt64) X.1 X.2.1 dX4_book_73 rfl ?_
            refine z_wv (st_sing (st_in (st_in (st_in (st_in (st_in (st_in (st_nil h)))))))) (run_V (rest := []) X (st_sing (st_in (st_in (st_in (st_in (st_in (st_in (st_nil h)))))))) (c_X0_put (y := q 1) (bt := bq 1) (i9 := i) (v9 := (iv (brn (stepn A i.toNat) pz)).toInt64) ⟨by omega, by omega⟩ (by omega) (by omega)) mi_X0_put ml_X4_202 ⟨Nat.le_of_ble_eq_true rfl, Nat.le_of_ble_eq_true rfl⟩ ⟨rfl, rfl⟩ (Seg.mk' _ _) 0 37 rfl rfl rfl rfl hl.1 rfl (Nat.le_of_ble_eq_true rfl) ⟨Nat.zero_le _, Nat.zero_le _⟩ dX4_book_74) (fun _ => map_app (wH_map _ _ _ _ _ _ _ _) rfl) (fun u H locs hp h => ?_)
            have h := (st_lin (st_out (st_out (st_out (st_out (st_out (st_out (st_gnis h))))))))
            have h : St E _ s H locs (wO E a k b t x q ((iv (ik))) fd ++ (wS E k ((hk)) ((nk)) (k1, k2, k3, k4, k5, k6, k7, k8, k9) ++ (wS E b ((iv (hr A))) ((iv (pe A))) (xs, xi, xk, xc, xl, xr, xb, yl, yr) ++ (wS E t ((iv (hr (stepn A i.toNat)))) ((iv (pe (stepn A i.toNat)))) (g1, g2, g3, g4, g5, g6, g7, g8, g9) ++ (wX E x ((iv (tn))) ((e1)) ((e2)) ((e3)) ((e4)) tp ++ (wH E (q 0) ((iv (bq 0))) ((iv (sq 0))) c0 ++ (wH E (q 1) ((iv (bq 1))) ((iv (sq 1))) (vp_updL cv (i : Int).toNat (cut (bq 1) ((iv (brn (stepn A i.toNat) pz)).toInt64))) ++ (wH E (q 2) ((iv (bq 2))) ((iv (sq 2))) c2 ++ (wH E (q 3) ((iv (bq 3))) ((iv (sq 3))) c3 ++ []))))))))) := h
            refine lv_aload_n X.1 X.2.1 dX4_book_77 rfl (lv_at hl 1 rfl) ?_
            refine z_get X h 3 0 1 rfl inX4 rfl (by decide) fl_X4_16 rfl dX4_book_78 ?_
            refine z_wv (st_in (st_in (st_in (st_nil h)))) (run_V (rest := []) X (st_in (st_in (st_in (st_nil h)))) (c_X1_passHour hv (stepn_IA hI i.toNat) (show hr (stepn A i.toNat) < 1000000 by rw [stepn_hr]; omega)) mi_X1_passHour ml_X4_153 ⟨Nat.le_of_ble_eq_true rfl, Nat.le_of_ble_eq_true rfl⟩ ⟨rfl, rfl⟩ (Seg.mk' _ _) 1 23 rfl rfl rfl rfl hl.1 rfl (Nat.le_of_ble_eq_true rfl) ⟨Nat.zero_le _, Nat.zero_le _⟩ dX4_book_81) (fun _ => wS_map _ _ _ _ _ _ _ _) (fun u H locs hp h => ?_)
            have h := (st_lin (st_out (st_out (st_out h))))
            obtain ⟨z0_2, z1_2, z2_2, z3_2, z4_2, z5_2, z6_2, z7_2, z8_2⟩ := u
            have h : St E _ s H locs (wO E a k b t x q ((iv (ik))) fd ++ (wS E k ((hk)) ((nk)) (k1, k2, k3, k4, k5, k6, k7, k8, k9) ++ (wS E b ((iv (hr A))) ((iv (pe A))) (xs, xi, xk, xc, xl, xr, xb, yl, yr) ++ (wS E t ((iv (hr (step (stepn A i.toNat))))) ((iv (pe (step (stepn A i.toNat))))) (z0_2, z1_2, z2_2, z3_2, z4_2, z5_2, z6_2, z7_2, z8_2) ++ (wX E x ((iv (tn))) ((e1)) ((e2)) ((e3)) ((e4)) tp ++ (wH E (q 0) ((iv (bq 0))) ((iv (sq 0))) c0 ++ (wH E (q 1) ((iv (bq 1))) ((iv (sq 1))) (vp_updL cv (i : Int).toNat (cut (bq 1) ((iv (brn (stepn A i.toNat) pz)).toInt64))) ++ (wH E (q 2) ((iv (bq 2))) ((iv (sq 2))) c2 ++ (wH E (q 3) ((iv (bq 3))) ((iv (sq 3))) c3 ++ []))))))))) := h
            have hR2 : RS (z0_2, z1_2, z2_2, z3_2, z4_2, z5_2, z6_2, z7_2, z8_2) (step (stepn A i.toNat)) := hp
            have es : step (stepn A i.toNat) = stepn A (i + 1).toNat := by rw [tn1 (by omega)]; rfl
            have h : St E (wO E a k b t x q ((iv (ik))) fd ++ (wS E k ((hk)) ((nk)) (k1, k2, k3, k4, k5, k6, k7, k8, k9) ++ (wS E b ((iv (hr A))) ((iv (pe A))) (xs, xi, xk, xc, xl, xr, xb, yl, yr) ++ (wS E t ((ht)) ((nt)) (t1, t2, t3, t4, t5, t6, t7, t8, t9) ++ (wX E x ((iv (tn))) ((e1)) ((e2)) ((e3)) ((e4)) tp ++ (wH E (q 0) ((iv (bq 0))) ((iv (sq 0))) c0 ++ (wH E (q 1) ((iv (bq 1))) ((iv (sq 1))) c1 ++ (wH E (q 2) ((iv (bq 2))) ((iv (sq 2))) c2 ++ (wH E (q 3) ((iv (bq 3))) ((iv (sq 3))) c3 ++ []))))))))) s H locs (wO E a k b t x q ((iv (ik))) fd ++ (wS E k ((hk)) ((nk)) (k1, k2, k3, k4, k5, k6, k7, k8, k9) ++ (wS E b ((iv (hr A))) ((iv (pe A))) (xs, xi, xk, xc, xl, xr, xb, yl, yr) ++ (wS E t ((iv (hr (stepn A (i + 1).toNat)))) ((iv (pe (stepn A (i + 1).toNat)))) (z0_2, z1_2, z2_2, z3_2, z4_2, z5_2, z6_2, z7_2, z8_2) ++ (wX E x ((iv (tn))) ((e1)) ((e2)) ((e3)) ((e4)) tp ++ (wH E (q 0) ((iv (bq 0))) ((iv (sq 0))) c0 ++ (wH E (q 1) ((iv (bq 1))) ((iv (sq 1))) (vp_updL cv (i : Int).toNat (cut (bq 1) ((iv (brn (stepn A i.toNat) pz)).toInt64))) ++ (wH E (q 2) ((iv (bq 2))) ((iv (sq 2))) c2 ++ (wH E (q 3) ((iv (bq 3))) ((iv (sq 3))) c3 ++ []))))))))) := by rw [← es]; exact h
            have tR9 : RS (z0_2, z1_2, z2_2, z3_2, z4_2, z5_2, z6_2, z7_2, z8_2) (stepn A (i + 1).toNat) := by rw [← es]; exact hR2
            refine z_iinc (k := 4) (lv' := [(4, .int (iv (i + 1))), (3, .ref (q 1 0)), (0, .ref (a 0)), (1, .int (iv (1))), (2, .int (iv (pz)))]) X dX4_book_84 hl rfl (by decide) rfl (fun ls hl => ?_)
            refine lv_goto (tgt := 53) X.1 X.2.1 dX4_book_87 (by decide) ?_
            exact ih (i + 1) (z0_2) (z1_2) (z2_2) (z3_2) (z4_2) (z5_2) (z6_2) (z7_2) (z8_2) ((vp_updL cv (i : Int).toNat (cut (bq 1) ((iv (brn (stepn A i.toNat) pz)).toInt64)))) (by omega) (by omega) (tR9) (bk_step i0 hc) (by omega) _ _ h ls (lv_sub hl [1, 2, 3, 4, 0] rfl)
      exact L53 ((sq 1 - (0) : Int).toNat + 1) (0) (r0_1) (r1_1) (r2_1) (r3_1) (r4_1) (r5_1) (r6_1) (r7_1) (r8_1) (c1) (by omega) (by omega) (hRb1) (bk_0 hH1) (by omega) _ _ h ls (lv_sub hl [1, 2, 3, 4, 0] rfl)
    · refine lv_aload_n X.1 X.2.1 dX4_book_39 rfl (lv_at hl 1 rfl) ?_
      refine z_ldc (z := (-1000000001)) X ct_X4_48 (by decide) dX4_book_40 ?_
      refine z_wi (st_sing (st_nil h)) (run_V (rest := []) X (st_sing (st_nil h)) (c_X4_finding (j := 0) hF (by decide) (by decide) (by decide)) mi_X4_finding ml_X4_49 ⟨Nat.le_of_ble_eq_true rfl, Nat.le_of_ble_eq_true rfl⟩ ⟨rfl, rfl⟩ (Seg.mk' _ _) 3 0 rfl rfl rfl rfl hl.1 rfl (Nat.le_of_ble_eq_true rfl) ⟨Nat.zero_le _, Nat.zero_le _⟩ dX4_book_42) (fun _ => map_app (wO_map _ _ _ _ _ _ _ _ _ _ _) rfl) (fun r fd3 H locs hp h => ?_)
      have h := (st_lin (st_gnis h))
      obtain ⟨rfl, hF3⟩ := hp
      have h : St E _ s H locs (wO E a k b t x q ((iv (ik))) fd3 ++ (wS E k ((hk)) ((nk)) (k1, k2, k3, k4, k5, k6, k7, k8, k9) ++ (wS E b ((iv (hr A))) ((iv (pe A))) (xs, xi, xk, xc, xl, xr, xb, yl, yr) ++ (wS E t ((ht)) ((nt)) (t1, t2, t3, t4, t5, t6, t7, t8, t9) ++ (wX E x ((iv (tn))) ((e1)) ((e2)) ((e3)) ((e4)) tp ++ (wH E (q 0) ((iv (bq 0))) ((iv (sq 0))) c0 ++ (wH E (q 1) ((iv (bq 1))) ((iv (sq 1))) c1 ++ (wH E (q 2) ((iv (bq 2))) ((iv (sq 2))) c2 ++ (wH E (q 3) ((iv (bq 3))) ((iv (sq 3))) c3 ++ []))))))))) := h
      have e9 : q_book A bq sq cq ph 1 pz = ((-1000000001), cq, (bump ph 0)) := by unfold q_book; (repeat (first | rw [if_pos (by omega)] | rw [if_neg (by omega)])); try rfl
      exact ret _ _ _ _ _ (((iv (ik)), fd3), ((hk), (nk), (k1, k2, k3, k4, k5, k6, k7, k8, k9)), ((iv (hr A)), (iv (pe A)), (xs, xi, xk, xc, xl, xr, xb, yl, yr)), ((ht), (nt), (t1, t2, t3, t4, t5, t6, t7, t8, t9)), ((iv (tn)), (e1), (e2), (e3), (e4), tp), ((iv (bq 0)), (iv (sq 0)), c0), ((iv (bq 1)), (iv (sq 1)), c1), ((iv (bq 2)), (iv (sq 2)), c2), ((iv (bq 3)), (iv (sq 3)), c3)) h (by rw [e9]; exact ⟨rfl, ⟨⟨rfl, rfl, hR, hI, hr9⟩, hK, hF3, hT, hB⟩⟩) dX4_book_45
  · refine lv_aload_n X.1 X.2.1 dX4_book_24 rfl (lv_at hl 1 rfl) ?_
    refine z_ldc (z := (-1000000006)) X ct_X4_197 (by decide) dX4_book_25 ?_
    refine z_wi (st_sing (st_nil h)) (run_V (rest := []) X (st_sing (st_nil h)) (c_X4_finding (j := 5) hF (by decide) (by decide) (by decide)) mi_X4_finding ml_X4_49 ⟨Nat.le_of_ble_eq_true rfl, Nat.le_of_ble_eq_true rfl⟩ ⟨rfl, rfl⟩ (Seg.mk' _ _) 3 0 rfl rfl rfl rfl hl.1 rfl (Nat.le_of_ble_eq_true rfl) ⟨Nat.zero_le _, Nat.zero_le _⟩ dX4_book_27) (fun _ => map_app (wO_map _ _ _ _ _ _ _ _ _ _ _) rfl) (fun r fd4 H locs hp h => ?_)
    have h := (st_lin (st_gnis h))
    obtain ⟨rfl, hF4⟩ := hp
    have h : St E _ s H locs (wO E a k b t x q ((iv (ik))) fd4 ++ (wS E k ((hk)) ((nk)) (k1, k2, k3, k4, k5, k6, k7, k8, k9) ++ (wS E b ((iv (hr A))) ((iv (pe A))) (xs, xi, xk, xc, xl, xr, xb, yl, yr) ++ (wS E t ((ht)) ((nt)) (t1, t2, t3, t4, t5, t6, t7, t8, t9) ++ (wX E x ((iv (tn))) ((e1)) ((e2)) ((e3)) ((e4)) tp ++ (wH E (q 0) ((iv (bq 0))) ((iv (sq 0))) c0 ++ (wH E (q 1) ((iv (bq 1))) ((iv (sq 1))) c1 ++ (wH E (q 2) ((iv (bq 2))) ((iv (sq 2))) c2 ++ (wH E (q 3) ((iv (bq 3))) ((iv (sq 3))) c3 ++ []))))))))) := h
    have e9 : q_book A bq sq cq ph 1 pz = ((-1000000006), cq, (bump ph 5)) := by unfold q_book; (repeat (first | rw [if_pos (by omega)] | rw [if_neg (by omega)])); try rfl
    exact ret _ _ _ _ _ (((iv (ik)), fd4), ((hk), (nk), (k1, k2, k3, k4, k5, k6, k7, k8, k9)), ((iv (hr A)), (iv (pe A)), (xs, xi, xk, xc, xl, xr, xb, yl, yr)), ((ht), (nt), (t1, t2, t3, t4, t5, t6, t7, t8, t9)), ((iv (tn)), (e1), (e2), (e3), (e4), tp), ((iv (bq 0)), (iv (sq 0)), c0), ((iv (bq 1)), (iv (sq 1)), c1), ((iv (bq 2)), (iv (sq 2)), c2), ((iv (bq 3)), (iv (sq 3)), c3)) h (by rw [e9]; exact ⟨rfl, ⟨⟨rfl, rfl, hR, hI, hr9⟩, hK, hF4, hT, hB⟩⟩) dX4_book_30

set_option maxHeartbeats 4000000 in
theorem c_X4_book_2 (hS : RepC (((iv (ik)), fd), ((hk), (nk), (k1, k2, k3, k4, k5, k6, k7, k8, k9)), ((iv (hr A)), (iv (pe A)), (xs, xi, xk, xc, xl, xr, xb, yl, yr)), ((ht), (nt), (t1, t2, t3, t4, t5, t6, t7, t8, t9)), ((iv (tn)), (e1), (e2), (e3), (e4), tp), ((iv (bq 0)), (iv (sq 0)), c0), ((iv (bq 1)), (iv (sq 1)), c1), ((iv (bq 2)), (iv (sq 2)), c2), ((iv (bq 3)), (iv (sq 3)), c3)) (A, K, ik, ph, tq, tn, bq, sq, cq)) {pz : Int} (r_pz : r32 pz) : MI (S := Tc) E l yX4_book cX4_book 5 (some FieldType.int) (rmk 4 89) (wO E a k b t x q ((iv (ik))) fd ++ (wS E k ((hk)) ((nk)) (k1, k2, k3, k4, k5, k6, k7, k8, k9) ++ (wS E b ((iv (hr A))) ((iv (pe A))) (xs, xi, xk, xc, xl, xr, xb, yl, yr) ++ (wS E t ((ht)) ((nt)) (t1, t2, t3, t4, t5, t6, t7, t8, t9) ++ (wX E x ((iv (tn))) ((e1)) ((e2)) ((e3)) ((e4)) tp ++ (wH E (q 0) ((iv (bq 0))) ((iv (sq 0))) c0 ++ (wH E (q 1) ((iv (bq 1))) ((iv (sq 1))) c1 ++ (wH E (q 2) ((iv (bq 2))) ((iv (sq 2))) c2 ++ (wH E (q 3) ((iv (bq 3))) ((iv (sq 3))) c3 ++ []))))))))) [.ref (a 0), .int (iv (2)), .int (iv (pz))] (fun r u => r = iv ((q_book A bq sq cq ph 2 pz).1) ∧ RepC u (A, K, ik, (q_book A bq sq cq ph 2 pz).2.2, tq, tn, bq, sq, (q_book A bq sq cq ph 2 pz).2.1)) (fun u => wT E a k b t x q u) := by
  refine goI (S := Tc) (post := fun r u => r = iv ((q_book A bq sq cq ph 2 pz).1) ∧ RepC u (A, K, ik, (q_book A bq sq cq ph 2 pz).2.2, tq, tn, bq, sq, (q_book A bq sq cq ph 2 pz).2.1)) (ws' := fun u => wT E a k b t x q u) (by decide) (Nat.le_of_ble_eq_true rfl) ?_
  intro pp e s m below meth c ls args Q ret X h hl
  have hl : lv_has ls 5 [(0, .ref (a 0)), (1, .int (iv (2))), (2, .int (iv (pz)))] := hl
  have hR : RS (xs, xi, xk, xc, xl, xr, xb, yl, yr) A := hS.1.2.2.1
  have hI : IA A := hS.1.2.2.2.1
  have hr9 : hr A ≤ 99999 := hS.1.2.2.2.2
  have hF : RF 7 fd ph := hS.2.2.1
  have hK := hS.2.1
  have hT := hS.2.2.2.1
  have hB := hS.2.2.2.2
  have hh : hr A < 1000000 := by omega
  have n8 := hI.n8
  have n0 := hI.n0
  have h0 := hI.h0
  have ht0 : 0 ≤ tn := hS.2.2.2.1.2.1
  have ht1 : tn ≤ 120 := hS.2.2.2.1.2.2.1
  have hk01 : ik = 0 ∨ ik = 1 := hS.2.1.2.1
  have hB3 : okB bq sq := hS.2.2.2.2.1
  have hH0 : RepH (iv (bq 0), iv (sq 0), c0) bq sq cq 0 := hS.2.2.2.2.2.1
  have hH1 : RepH (iv (bq 1), iv (sq 1), c1) bq sq cq 1 := hS.2.2.2.2.2.2.1
  have hH2 : RepH (iv (bq 2), iv (sq 2), c2) bq sq cq 2 := hS.2.2.2.2.2.2.2.1
  have hH3 : RepH (iv (bq 3), iv (sq 3), c3) bq sq cq 3 := hS.2.2.2.2.2.2.2.2
  have ob2 := hB3.1 2 (by omega) (by omega)
  have zb2 := hB3.2 2 (by omega) (by omega)
  refine lv_aload_n X.1 X.2.1 dX4_book_0 rfl (lv_at hl 0 rfl) ?_
  refine lv_iload_n X.1 X.2.1 dX4_book_1 rfl (lv_at hl 1 rfl) ?_
  refine z_pq (run_V (rest := []) X h (c_sheetAt2) mi_X4_sheetAt ml_X4_184 ⟨Nat.le_of_ble_eq_true rfl, Nat.le_of_ble_eq_true rfl⟩ ⟨rfl, rfl⟩ (Seg.rfl' _) 3 0 rfl rfl rfl rfl hl.1 rfl (Nat.le_of_ble_eq_true rfl) ⟨Nat.zero_le _, Nat.zero_le _⟩ dX4_book_2) ?_
  refine W.eq (g2 := F0 m 5 ls [.ref (q 2 0)]) rfl ?_
  refine lv_astore_n (lv' := [(3, .ref (q 2 0)), (0, .ref (a 0)), (1, .int (iv (2))), (2, .int (iv (pz)))]) X.1 X.2.1 dX4_book_5 rfl hl (by decide) rfl (fun ls hl => ?_)
  refine lv_aload_n X.1 X.2.1 dX4_book_6 rfl (lv_at hl 0 rfl) ?_
  refine lv_ifnonnull (tgt := 17) X.1 X.2.1 dX4_book_7 (by decide) ?_
  refine lv_aload_n X.1 X.2.1 dX4_book_17 rfl (lv_at hl 0 rfl) ?_
  refine z_pi (run_V (rest := []) X (st_sing (st_in (st_in (st_in (st_in (st_in (st_in (st_in (st_nil h))))))))) (c_X0_isMissing (y := q 2) (bt := bq 2) ⟨by omega, by omega⟩) mi_X0_isMissing ml_X4_193 ⟨Nat.le_of_ble_eq_true rfl, Nat.le_of_ble_eq_true rfl⟩ ⟨rfl, rfl⟩ (Seg.mk' _ _) 0 39 rfl rfl rfl rfl hl.1 rfl (Nat.le_of_ble_eq_true rfl) ⟨Nat.zero_le _, Nat.zero_le _⟩ dX4_book_18) ?_
  refine z_ifb_eq (tgt := 31) X dX4_book_21 (by decide) (fun c_21 => ?_) (fun c_21 => ?_)
  · refine lv_aload_n X.1 X.2.1 dX4_book_31 rfl (lv_at hl 1 rfl) ?_
    refine lv_iload_n X.1 X.2.1 dX4_book_32 rfl (lv_at hl 3 rfl) ?_
    refine z_pi (run_V (rest := []) X h (c_X4_isPerson (p := pz) hI r_pz) mi_X4_isPerson ml_X4_94 ⟨Nat.le_of_ble_eq_true rfl, Nat.le_of_ble_eq_true rfl⟩ ⟨rfl, rfl⟩ (Seg.rfl' _) 3 0 rfl rfl rfl rfl hl.1 rfl (Nat.le_of_ble_eq_true rfl) ⟨Nat.zero_le _, Nat.zero_le _⟩ dX4_book_33) ?_
    refine z_ifb_ne (tgt := 46) X dX4_book_36 (by decide) (fun c_36 => ?_) (fun c_36 => ?_)
    · refine lv_aload_n X.1 X.2.1 dX4_book_46 rfl (lv_at hl 1 rfl) ?_
      refine z_av h (run_V (rest := []) X h (c_X4_startTrial hR hI.n8) mi_X4_startTrial ml_X4_150 ⟨Nat.le_of_ble_eq_true rfl, Nat.le_of_ble_eq_true rfl⟩ ⟨rfl, rfl⟩ (Seg.rfl' _) 3 0 rfl rfl rfl rfl hl.1 rfl (Nat.le_of_ble_eq_true rfl) ⟨Nat.zero_le _, Nat.zero_le _⟩ dX4_book_47) (fun _ => map_app rfl (map_app rfl (map_app rfl (map_app (wS_map _ _ _ _ _ _ _ _) rfl)))) (fun u H locs hp h => ?_)
      obtain ⟨r0_1, r1_1, r2_1, r3_1, r4_1, r5_1, r6_1, r7_1, r8_1⟩ := u
      have h : St E _ s H locs (wO E a k b t x q ((iv (ik))) fd ++ (wS E k ((hk)) ((nk)) (k1, k2, k3, k4, k5, k6, k7, k8, k9) ++ (wS E b ((iv (hr A))) ((iv (pe A))) (xs, xi, xk, xc, xl, xr, xb, yl, yr) ++ (wS E t ((iv (hr A))) ((iv (pe A))) (r0_1, r1_1, r2_1, r3_1, r4_1, r5_1, r6_1, r7_1, r8_1) ++ (wX E x ((iv (tn))) ((e1)) ((e2)) ((e3)) ((e4)) tp ++ (wH E (q 0) ((iv (bq 0))) ((iv (sq 0))) c0 ++ (wH E (q 1) ((iv (bq 1))) ((iv (sq 1))) c1 ++ (wH E (q 2) ((iv (bq 2))) ((iv (sq 2))) c2 ++ (wH E (q 3) ((iv (bq 3))) ((iv (sq 3))) c3 ++ []))))))))) := h
      have hRb1 : RS (r0_1, r1_1, r2_1, r3_1, r4_1, r5_1, r6_1, r7_1, r8_1) A := hp
      refine z_iconst X dX4_book_50 ?_
      refine lv_istore (lv' := [(4, .int (iv (0))), (3, .ref (q 2 0)), (0, .ref (a 0)), (1, .int (iv (2))), (2, .int (iv (pz)))]) X.1 X.2.1 dX4_book_51 hl (by decide) rfl (fun ls hl => ?_)
      have L53 : ∀ (fuel_ : Nat) (i : Int) (g1 : Nat → Int32) (g2 : Nat → Int32) (g3 : Nat → Int32) (g4 : Nat → Int32) (g5 : Nat → Int32) (g6 : Nat → Int32) (g7 : Nat → Int32) (g8 : Nat → Int32) (g9 : Nat → Int32) (cv : Nat → Int64), (0 ≤ i) → (i ≤ sq 2) → (RS (g1, g2, g3, g4, g5, g6, g7, g8, g9) (stepn A i.toNat)) → (∀ k, 0 ≤ k → k < 40 → cv k.toNat = bookq A bq cq 2 pz i 2 k) → sq 2 - i < (fuel_ : Int) → ∀ (H : Heap) (locs : List Loc), St E (wO E a k b t x q ((iv (ik))) fd ++ (wS E k ((hk)) ((nk)) (k1, k2, k3, k4, k5, k6, k7, k8, k9) ++ (wS E b ((iv (hr A))) ((iv (pe A))) (xs, xi, xk, xc, xl, xr, xb, yl, yr) ++ (wS E t ((ht)) ((nt)) (t1, t2, t3, t4, t5, t6, t7, t8, t9) ++ (wX E x ((iv (tn))) ((e1)) ((e2)) ((e3)) ((e4)) tp ++ (wH E (q 0) ((iv (bq 0))) ((iv (sq 0))) c0 ++ (wH E (q 1) ((iv (bq 1))) ((iv (sq 1))) c1 ++ (wH E (q 2) ((iv (bq 2))) ((iv (sq 2))) c2 ++ (wH E (q 3) ((iv (bq 3))) ((iv (sq 3))) c3 ++ []))))))))) s H locs (wO E a k b t x q ((iv (ik))) fd ++ (wS E k ((hk)) ((nk)) (k1, k2, k3, k4, k5, k6, k7, k8, k9) ++ (wS E b ((iv (hr A))) ((iv (pe A))) (xs, xi, xk, xc, xl, xr, xb, yl, yr) ++ (wS E t ((iv (hr (stepn A i.toNat)))) ((iv (pe (stepn A i.toNat)))) (g1, g2, g3, g4, g5, g6, g7, g8, g9) ++ (wX E x ((iv (tn))) ((e1)) ((e2)) ((e3)) ((e4)) tp ++ (wH E (q 0) ((iv (bq 0))) ((iv (sq 0))) c0 ++ (wH E (q 1) ((iv (bq 1))) ((iv (sq 1))) c1 ++ (wH E (q 2) ((iv (bq 2))) ((iv (sq 2))) cv ++ (wH E (q 3) ((iv (bq 3))) ((iv (sq 3))) c3 ++ []))))))))) → ∀ ls : Array Slot, lv_has ls 5 [(3, .ref (q 2 0)), (0, .ref (a 0)), (1, .int (iv (2))), (2, .int (iv (pz))), (4, .int (iv (i)))] → W pp l e (rmk 4 89) s m args below meth c H locs 0 0 Q (F0 m 53 ls []) := by
        intro fuel_
        induction fuel_ with
        | zero =>
          intro i g1 g2 g3 g4 g5 g6 g7 g8 g9 cv i0 i1 hv hc hn
          exfalso; omega
        | succ fuel_ ih =>
          intro i g1 g2 g3 g4 g5 g6 g7 g8 g9 cv i0 i1 hv hc hn H locs h ls hl
          have pm : pe (stepn A i.toNat) = pe A := stepn_pe _ _
          have bR := brnn_rng hI i.toNat (p := pz) (by omega) (by omega)
          refine lv_iload X.1 X.2.1 dX4_book_53 (lv_at hl 4 rfl) ?_
          refine lv_aload_n X.1 X.2.1 dX4_book_55 rfl (lv_at hl 0 rfl) ?_
          refine z_get X h 0 39 1 rfl inX0 rfl (by decide) fl_X4_192 rfl dX4_book_56 ?_
          refine z_ic_ge (tgt := 90) X ⟨by omega, by omega⟩ ⟨by omega, by omega⟩ dX4_book_59 (by decide) (fun c_59 => ?_) (fun c_59 => ?_)
          · have hce : RepH (iv (bq 2), iv (sq 2), cv) bq sq (bookq A bq cq 2 pz (sq 2)) 2 := ⟨rfl, rfl, fun k k0 k1 => by rw [show sq 2 = i by omega]; exact hc k k0 k1⟩
            refine lv_aload_n X.1 X.2.1 dX4_book_90 rfl (lv_at hl 0 rfl) ?_
            refine z_get X h 0 39 1 rfl inX0 rfl (by decide) fl_X4_192 rfl dX4_book_91 ?_
            have e9 : q_book A bq sq cq ph 2 pz = (sq 2, (bookq A bq cq 2 pz (sq 2)), ph) := by unfold q_book; (repeat (first | rw [if_pos (by omega)] | rw [if_neg (by omega)])); try rfl
            exact ret _ _ _ _ _ (((iv (ik)), fd), ((hk), (nk), (k1, k2, k3, k4, k5, k6, k7, k8, k9)), ((iv (hr A)), (iv (pe A)), (xs, xi, xk, xc, xl, xr, xb, yl, yr)), ((iv (hr (stepn A i.toNat))), (iv (pe (stepn A i.toNat))), (g1, g2, g3, g4, g5, g6, g7, g8, g9)), ((iv (tn)), (e1), (e2), (e3), (e4), tp), ((iv (bq 0)), (iv (sq 0)), c0), ((iv (bq 1)), (iv (sq 1)), c1), ((iv (bq 2)), (iv (sq 2)), cv), ((iv (bq 3)), (iv (sq 3)), c3)) h (by rw [e9]; exact ⟨rfl, ⟨⟨rfl, rfl, hR, hI, hr9⟩, hK, hF, hT, ⟨hB3, RepH_bn hH0 (by decide), RepH_bn hH1 (by decide), hce, RepH_bn hH3 (by decide)⟩⟩⟩) dX4_book_94
          · refine lv_aload_n X.1 X.2.1 dX4_book_62 rfl (lv_at hl 0 rfl) ?_
            refine lv_iload X.1 X.2.1 dX4_book_63 (lv_at hl 4 rfl) ?_
            refine lv_aload_n X.1 X.2.1 dX4_book_65 rfl (lv_at hl 1 rfl) ?_
            refine z_get X h 3 0 1 rfl inX4 rfl (by decide) fl_X4_16 rfl dX4_book_66 ?_
            refine lv_iload_n X.1 X.2.1 dX4_book_69 rfl (lv_at hl 3 rfl) ?_
            refine z_pi (run_V (rest := [.int (iv (i)), .ref (q 2 0)]) X (st_in (st_in (st_in (st_nil h)))) (c_X1_brownOf (p := pz) hv (stepn_IA hI i.toNat) (by omega) (by omega)) mi_X1_brownOf ml_X4_128 ⟨Nat.le_of_ble_eq_true rfl, Nat.le_of_ble_eq_true rfl⟩ ⟨rfl, rfl⟩ (Seg.mk' _ _) 1 23 rfl rfl rfl rfl hl.1 rfl (Nat.le_of_ble_eq_true rfl) ⟨Nat.zero_le _, Nat.zero_le _⟩ dX4_book_70) ?_
            refine lv_i2l (v := (iv (brn (stepn A i.toNat) pz)).toInt64) X.1 X.2.1 dX4_book_73 rfl ?_
            refine z_wv (st_sing (st_in (st_in (st_in (st_in (st_in (st_in (st_in (st_nil h))))))))) (run_V (rest := []) X (st_sing (st_in (st_in (st_in (st_in (st_in (st_in (st_in (st_nil h))))))))) (c_X0_put (y := q 2) (bt := bq 2) (i9 := i) (v9 := (iv (brn (stepn A i.toNat) pz)).toInt64) ⟨by omega, by omega⟩ (by omega) (by omega)) mi_X0_put ml_X4_202 ⟨Nat.le_of_ble_eq_true rfl, Nat.le_of_ble_eq_true rfl⟩ ⟨rfl, rfl⟩ (Seg.mk' _ _) 0 39 rfl rfl rfl rfl hl.1 rfl (Nat.le_of_ble_eq_true rfl) ⟨Nat.zero_le _, Nat.zero_le _⟩ dX4_book_74) (fun _ => map_app (wH_map _ _ _ _ _ _ _ _) rfl) (fun u H locs hp h => ?_)
            have h := (st_lin (st_out (st_out (st_out (st_out (st_out (st_out (st_out (st_gnis h)))))))))
            have h : St E _ s H locs (wO E a k b t x q ((iv (ik))) fd ++ (wS E k ((hk)) ((nk)) (k1, k2, k3, k4, k5, k6, k7, k8, k9) ++ (wS E b ((iv (hr A))) ((iv (pe A))) (xs, xi, xk, xc, xl, xr, xb, yl, yr) ++ (wS E t ((iv (hr (stepn A i.toNat)))) ((iv (pe (stepn A i.toNat)))) (g1, g2, g3, g4, g5, g6, g7, g8, g9) ++ (wX E x ((iv (tn))) ((e1)) ((e2)) ((e3)) ((e4)) tp ++ (wH E (q 0) ((iv (bq 0))) ((iv (sq 0))) c0 ++ (wH E (q 1) ((iv (bq 1))) ((iv (sq 1))) c1 ++ (wH E (q 2) ((iv (bq 2))) ((iv (sq 2))) (vp_updL cv (i : Int).toNat (cut (bq 2) ((iv (brn (stepn A i.toNat) pz)).toInt64))) ++ (wH E (q 3) ((iv (bq 3))) ((iv (sq 3))) c3 ++ []))))))))) := h
            refine lv_aload_n X.1 X.2.1 dX4_book_77 rfl (lv_at hl 1 rfl) ?_
            refine z_get X h 3 0 1 rfl inX4 rfl (by decide) fl_X4_16 rfl dX4_book_78 ?_
            refine z_wv (st_in (st_in (st_in (st_nil h)))) (run_V (rest := []) X (st_in (st_in (st_in (st_nil h)))) (c_X1_passHour hv (stepn_IA hI i.toNat) (show hr (stepn A i.toNat) < 1000000 by rw [stepn_hr]; omega)) mi_X1_passHour ml_X4_153 ⟨Nat.le_of_ble_eq_true rfl, Nat.le_of_ble_eq_true rfl⟩ ⟨rfl, rfl⟩ (Seg.mk' _ _) 1 23 rfl rfl rfl rfl hl.1 rfl (Nat.le_of_ble_eq_true rfl) ⟨Nat.zero_le _, Nat.zero_le _⟩ dX4_book_81) (fun _ => wS_map _ _ _ _ _ _ _ _) (fun u H locs hp h => ?_)
            have h := (st_lin (st_out (st_out (st_out h))))
            obtain ⟨z0_2, z1_2, z2_2, z3_2, z4_2, z5_2, z6_2, z7_2, z8_2⟩ := u
            have h : St E _ s H locs (wO E a k b t x q ((iv (ik))) fd ++ (wS E k ((hk)) ((nk)) (k1, k2, k3, k4, k5, k6, k7, k8, k9) ++ (wS E b ((iv (hr A))) ((iv (pe A))) (xs, xi, xk, xc, xl, xr, xb, yl, yr) ++ (wS E t ((iv (hr (step (stepn A i.toNat))))) ((iv (pe (step (stepn A i.toNat))))) (z0_2, z1_2, z2_2, z3_2, z4_2, z5_2, z6_2, z7_2, z8_2) ++ (wX E x ((iv (tn))) ((e1)) ((e2)) ((e3)) ((e4)) tp ++ (wH E (q 0) ((iv (bq 0))) ((iv (sq 0))) c0 ++ (wH E (q 1) ((iv (bq 1))) ((iv (sq 1))) c1 ++ (wH E (q 2) ((iv (bq 2))) ((iv (sq 2))) (vp_updL cv (i : Int).toNat (cut (bq 2) ((iv (brn (stepn A i.toNat) pz)).toInt64))) ++ (wH E (q 3) ((iv (bq 3))) ((iv (sq 3))) c3 ++ []))))))))) := h
            have hR2 : RS (z0_2, z1_2, z2_2, z3_2, z4_2, z5_2, z6_2, z7_2, z8_2) (step (stepn A i.toNat)) := hp
            have es : step (stepn A i.toNat) = stepn A (i + 1).toNat := by rw [tn1 (by omega)]; rfl
            have h : St E (wO E a k b t x q ((iv (ik))) fd ++ (wS E k ((hk)) ((nk)) (k1, k2, k3, k4, k5, k6, k7, k8, k9) ++ (wS E b ((iv (hr A))) ((iv (pe A))) (xs, xi, xk, xc, xl, xr, xb, yl, yr) ++ (wS E t ((ht)) ((nt)) (t1, t2, t3, t4, t5, t6, t7, t8, t9) ++ (wX E x ((iv (tn))) ((e1)) ((e2)) ((e3)) ((e4)) tp ++ (wH E (q 0) ((iv (bq 0))) ((iv (sq 0))) c0 ++ (wH E (q 1) ((iv (bq 1))) ((iv (sq 1))) c1 ++ (wH E (q 2) ((iv (bq 2))) ((iv (sq 2))) c2 ++ (wH E (q 3) ((iv (bq 3))) ((iv (sq 3))) c3 ++ []))))))))) s H locs (wO E a k b t x q ((iv (ik))) fd ++ (wS E k ((hk)) ((nk)) (k1, k2, k3, k4, k5, k6, k7, k8, k9) ++ (wS E b ((iv (hr A))) ((iv (pe A))) (xs, xi, xk, xc, xl, xr, xb, yl, yr) ++ (wS E t ((iv (hr (stepn A (i + 1).toNat)))) ((iv (pe (stepn A (i + 1).toNat)))) (z0_2, z1_2, z2_2, z3_2, z4_2, z5_2, z6_2, z7_2, z8_2) ++ (wX E x ((iv (tn))) ((e1)) ((e2)) ((e3)) ((e4)) tp ++ (wH E (q 0) ((iv (bq 0))) ((iv (sq 0))) c0 ++ (wH E (q 1) ((iv (bq 1))) ((iv (sq 1))) c1 ++ (wH E (q 2) ((iv (bq 2))) ((iv (sq 2))) (vp_updL cv (i : Int).toNat (cut (bq 2) ((iv (brn (stepn A i.toNat) pz)).toInt64))) ++ (wH E (q 3) ((iv (bq 3))) ((iv (sq 3))) c3 ++ []))))))))) := by rw [← es]; exact h
            have tR9 : RS (z0_2, z1_2, z2_2, z3_2, z4_2, z5_2, z6_2, z7_2, z8_2) (stepn A (i + 1).toNat) := by rw [← es]; exact hR2
            refine z_iinc (k := 4) (lv' := [(4, .int (iv (i + 1))), (3, .ref (q 2 0)), (0, .ref (a 0)), (1, .int (iv (2))), (2, .int (iv (pz)))]) X dX4_book_84 hl rfl (by decide) rfl (fun ls hl => ?_)
            refine lv_goto (tgt := 53) X.1 X.2.1 dX4_book_87 (by decide) ?_
            exact ih (i + 1) (z0_2) (z1_2) (z2_2) (z3_2) (z4_2) (z5_2) (z6_2) (z7_2) (z8_2) ((vp_updL cv (i : Int).toNat (cut (bq 2) ((iv (brn (stepn A i.toNat) pz)).toInt64)))) (by omega) (by omega) (tR9) (bk_step i0 hc) (by omega) _ _ h ls (lv_sub hl [1, 2, 3, 4, 0] rfl)
      exact L53 ((sq 2 - (0) : Int).toNat + 1) (0) (r0_1) (r1_1) (r2_1) (r3_1) (r4_1) (r5_1) (r6_1) (r7_1) (r8_1) (c2) (by omega) (by omega) (hRb1) (bk_0 hH2) (by omega) _ _ h ls (lv_sub hl [1, 2, 3, 4, 0] rfl)
    · refine lv_aload_n X.1 X.2.1 dX4_book_39 rfl (lv_at hl 1 rfl) ?_
      refine z_ldc (z := (-1000000001)) X ct_X4_48 (by decide) dX4_book_40 ?_
      refine z_wi (st_sing (st_nil h)) (run_V (rest := []) X (st_sing (st_nil h)) (c_X4_finding (j := 0) hF (by decide) (by decide) (by decide)) mi_X4_finding ml_X4_49 ⟨Nat.le_of_ble_eq_true rfl, Nat.le_of_ble_eq_true rfl⟩ ⟨rfl, rfl⟩ (Seg.mk' _ _) 3 0 rfl rfl rfl rfl hl.1 rfl (Nat.le_of_ble_eq_true rfl) ⟨Nat.zero_le _, Nat.zero_le _⟩ dX4_book_42) (fun _ => map_app (wO_map _ _ _ _ _ _ _ _ _ _ _) rfl) (fun r fd3 H locs hp h => ?_)
      have h := (st_lin (st_gnis h))
      obtain ⟨rfl, hF3⟩ := hp
      have h : St E _ s H locs (wO E a k b t x q ((iv (ik))) fd3 ++ (wS E k ((hk)) ((nk)) (k1, k2, k3, k4, k5, k6, k7, k8, k9) ++ (wS E b ((iv (hr A))) ((iv (pe A))) (xs, xi, xk, xc, xl, xr, xb, yl, yr) ++ (wS E t ((ht)) ((nt)) (t1, t2, t3, t4, t5, t6, t7, t8, t9) ++ (wX E x ((iv (tn))) ((e1)) ((e2)) ((e3)) ((e4)) tp ++ (wH E (q 0) ((iv (bq 0))) ((iv (sq 0))) c0 ++ (wH E (q 1) ((iv (bq 1))) ((iv (sq 1))) c1 ++ (wH E (q 2) ((iv (bq 2))) ((iv (sq 2))) c2 ++ (wH E (q 3) ((iv (bq 3))) ((iv (sq 3))) c3 ++ []))))))))) := h
      have e9 : q_book A bq sq cq ph 2 pz = ((-1000000001), cq, (bump ph 0)) := by unfold q_book; (repeat (first | rw [if_pos (by omega)] | rw [if_neg (by omega)])); try rfl
      exact ret _ _ _ _ _ (((iv (ik)), fd3), ((hk), (nk), (k1, k2, k3, k4, k5, k6, k7, k8, k9)), ((iv (hr A)), (iv (pe A)), (xs, xi, xk, xc, xl, xr, xb, yl, yr)), ((ht), (nt), (t1, t2, t3, t4, t5, t6, t7, t8, t9)), ((iv (tn)), (e1), (e2), (e3), (e4), tp), ((iv (bq 0)), (iv (sq 0)), c0), ((iv (bq 1)), (iv (sq 1)), c1), ((iv (bq 2)), (iv (sq 2)), c2), ((iv (bq 3)), (iv (sq 3)), c3)) h (by rw [e9]; exact ⟨rfl, ⟨⟨rfl, rfl, hR, hI, hr9⟩, hK, hF3, hT, hB⟩⟩) dX4_book_45
  · refine lv_aload_n X.1 X.2.1 dX4_book_24 rfl (lv_at hl 1 rfl) ?_
    refine z_ldc (z := (-1000000006)) X ct_X4_197 (by decide) dX4_book_25 ?_
    refine z_wi (st_sing (st_nil h)) (run_V (rest := []) X (st_sing (st_nil h)) (c_X4_finding (j := 5) hF (by decide) (by decide) (by decide)) mi_X4_finding ml_X4_49 ⟨Nat.le_of_ble_eq_true rfl, Nat.le_of_ble_eq_true rfl⟩ ⟨rfl, rfl⟩ (Seg.mk' _ _) 3 0 rfl rfl rfl rfl hl.1 rfl (Nat.le_of_ble_eq_true rfl) ⟨Nat.zero_le _, Nat.zero_le _⟩ dX4_book_27) (fun _ => map_app (wO_map _ _ _ _ _ _ _ _ _ _ _) rfl) (fun r fd4 H locs hp h => ?_)
    have h := (st_lin (st_gnis h))
    obtain ⟨rfl, hF4⟩ := hp
    have h : St E _ s H locs (wO E a k b t x q ((iv (ik))) fd4 ++ (wS E k ((hk)) ((nk)) (k1, k2, k3, k4, k5, k6, k7, k8, k9) ++ (wS E b ((iv (hr A))) ((iv (pe A))) (xs, xi, xk, xc, xl, xr, xb, yl, yr) ++ (wS E t ((ht)) ((nt)) (t1, t2, t3, t4, t5, t6, t7, t8, t9) ++ (wX E x ((iv (tn))) ((e1)) ((e2)) ((e3)) ((e4)) tp ++ (wH E (q 0) ((iv (bq 0))) ((iv (sq 0))) c0 ++ (wH E (q 1) ((iv (bq 1))) ((iv (sq 1))) c1 ++ (wH E (q 2) ((iv (bq 2))) ((iv (sq 2))) c2 ++ (wH E (q 3) ((iv (bq 3))) ((iv (sq 3))) c3 ++ []))))))))) := h
    have e9 : q_book A bq sq cq ph 2 pz = ((-1000000006), cq, (bump ph 5)) := by unfold q_book; (repeat (first | rw [if_pos (by omega)] | rw [if_neg (by omega)])); try rfl
    exact ret _ _ _ _ _ (((iv (ik)), fd4), ((hk), (nk), (k1, k2, k3, k4, k5, k6, k7, k8, k9)), ((iv (hr A)), (iv (pe A)), (xs, xi, xk, xc, xl, xr, xb, yl, yr)), ((ht), (nt), (t1, t2, t3, t4, t5, t6, t7, t8, t9)), ((iv (tn)), (e1), (e2), (e3), (e4), tp), ((iv (bq 0)), (iv (sq 0)), c0), ((iv (bq 1)), (iv (sq 1)), c1), ((iv (bq 2)), (iv (sq 2)), c2), ((iv (bq 3)), (iv (sq 3)), c3)) h (by rw [e9]; exact ⟨rfl, ⟨⟨rfl, rfl, hR, hI, hr9⟩, hK, hF4, hT, hB⟩⟩) dX4_book_30

set_option maxHeartbeats 4000000 in
theorem c_X4_book_3 (hS : RepC (((iv (ik)), fd), ((hk), (nk), (k1, k2, k3, k4, k5, k6, k7, k8, k9)), ((iv (hr A)), (iv (pe A)), (xs, xi, xk, xc, xl, xr, xb, yl, yr)), ((ht), (nt), (t1, t2, t3, t4, t5, t6, t7, t8, t9)), ((iv (tn)), (e1), (e2), (e3), (e4), tp), ((iv (bq 0)), (iv (sq 0)), c0), ((iv (bq 1)), (iv (sq 1)), c1), ((iv (bq 2)), (iv (sq 2)), c2), ((iv (bq 3)), (iv (sq 3)), c3)) (A, K, ik, ph, tq, tn, bq, sq, cq)) {pz : Int} (r_pz : r32 pz) : MI (S := Tc) E l yX4_book cX4_book 5 (some FieldType.int) (rmk 4 89) (wO E a k b t x q ((iv (ik))) fd ++ (wS E k ((hk)) ((nk)) (k1, k2, k3, k4, k5, k6, k7, k8, k9) ++ (wS E b ((iv (hr A))) ((iv (pe A))) (xs, xi, xk, xc, xl, xr, xb, yl, yr) ++ (wS E t ((ht)) ((nt)) (t1, t2, t3, t4, t5, t6, t7, t8, t9) ++ (wX E x ((iv (tn))) ((e1)) ((e2)) ((e3)) ((e4)) tp ++ (wH E (q 0) ((iv (bq 0))) ((iv (sq 0))) c0 ++ (wH E (q 1) ((iv (bq 1))) ((iv (sq 1))) c1 ++ (wH E (q 2) ((iv (bq 2))) ((iv (sq 2))) c2 ++ (wH E (q 3) ((iv (bq 3))) ((iv (sq 3))) c3 ++ []))))))))) [.ref (a 0), .int (iv (3)), .int (iv (pz))] (fun r u => r = iv ((q_book A bq sq cq ph 3 pz).1) ∧ RepC u (A, K, ik, (q_book A bq sq cq ph 3 pz).2.2, tq, tn, bq, sq, (q_book A bq sq cq ph 3 pz).2.1)) (fun u => wT E a k b t x q u) := by
  refine goI (S := Tc) (post := fun r u => r = iv ((q_book A bq sq cq ph 3 pz).1) ∧ RepC u (A, K, ik, (q_book A bq sq cq ph 3 pz).2.2, tq, tn, bq, sq, (q_book A bq sq cq ph 3 pz).2.1)) (ws' := fun u => wT E a k b t x q u) (by decide) (Nat.le_of_ble_eq_true rfl) ?_
  intro pp e s m below meth c ls args Q ret X h hl
  have hl : lv_has ls 5 [(0, .ref (a 0)), (1, .int (iv (3))), (2, .int (iv (pz)))] := hl
  have hR : RS (xs, xi, xk, xc, xl, xr, xb, yl, yr) A := hS.1.2.2.1
  have hI : IA A := hS.1.2.2.2.1
  have hr9 : hr A ≤ 99999 := hS.1.2.2.2.2
  have hF : RF 7 fd ph := hS.2.2.1
  have hK := hS.2.1
  have hT := hS.2.2.2.1
  have hB := hS.2.2.2.2
  have hh : hr A < 1000000 := by omega
  have n8 := hI.n8
  have n0 := hI.n0
  have h0 := hI.h0
  have ht0 : 0 ≤ tn := hS.2.2.2.1.2.1
  have ht1 : tn ≤ 120 := hS.2.2.2.1.2.2.1
  have hk01 : ik = 0 ∨ ik = 1 := hS.2.1.2.1
  have hB3 : okB bq sq := hS.2.2.2.2.1
  have hH0 : RepH (iv (bq 0), iv (sq 0), c0) bq sq cq 0 := hS.2.2.2.2.2.1
  have hH1 : RepH (iv (bq 1), iv (sq 1), c1) bq sq cq 1 := hS.2.2.2.2.2.2.1
  have hH2 : RepH (iv (bq 2), iv (sq 2), c2) bq sq cq 2 := hS.2.2.2.2.2.2.2.1
  have hH3 : RepH (iv (bq 3), iv (sq 3), c3) bq sq cq 3 := hS.2.2.2.2.2.2.2.2
  have ob3 := hB3.1 3 (by omega) (by omega)
  have zb3 := hB3.2 3 (by omega) (by omega)
  refine lv_aload_n X.1 X.2.1 dX4_book_0 rfl (lv_at hl 0 rfl) ?_
  refine lv_iload_n X.1 X.2.1 dX4_book_1 rfl (lv_at hl 1 rfl) ?_
  refine z_pq (run_V (rest := []) X h (c_sheetAt3) mi_X4_sheetAt ml_X4_184 ⟨Nat.le_of_ble_eq_true rfl, Nat.le_of_ble_eq_true rfl⟩ ⟨rfl, rfl⟩ (Seg.rfl' _) 3 0 rfl rfl rfl rfl hl.1 rfl (Nat.le_of_ble_eq_true rfl) ⟨Nat.zero_le _, Nat.zero_le _⟩ dX4_book_2) ?_
  refine W.eq (g2 := F0 m 5 ls [.ref (q 3 0)]) rfl ?_
  refine lv_astore_n (lv' := [(3, .ref (q 3 0)), (0, .ref (a 0)), (1, .int (iv (3))), (2, .int (iv (pz)))]) X.1 X.2.1 dX4_book_5 rfl hl (by decide) rfl (fun ls hl => ?_)
  refine lv_aload_n X.1 X.2.1 dX4_book_6 rfl (lv_at hl 0 rfl) ?_
  refine lv_ifnonnull (tgt := 17) X.1 X.2.1 dX4_book_7 (by decide) ?_
  refine lv_aload_n X.1 X.2.1 dX4_book_17 rfl (lv_at hl 0 rfl) ?_
  refine z_pi (run_V (rest := []) X (st_sing (st_in (st_in (st_in (st_in (st_in (st_in (st_in (st_in (st_nil h)))))))))) (c_X0_isMissing (y := q 3) (bt := bq 3) ⟨by omega, by omega⟩) mi_X0_isMissing ml_X4_193 ⟨Nat.le_of_ble_eq_true rfl, Nat.le_of_ble_eq_true rfl⟩ ⟨rfl, rfl⟩ (Seg.mk' _ _) 0 41 rfl rfl rfl rfl hl.1 rfl (Nat.le_of_ble_eq_true rfl) ⟨Nat.zero_le _, Nat.zero_le _⟩ dX4_book_18) ?_
  refine z_ifb_eq (tgt := 31) X dX4_book_21 (by decide) (fun c_21 => ?_) (fun c_21 => ?_)
  · refine lv_aload_n X.1 X.2.1 dX4_book_31 rfl (lv_at hl 1 rfl) ?_
    refine lv_iload_n X.1 X.2.1 dX4_book_32 rfl (lv_at hl 3 rfl) ?_
    refine z_pi (run_V (rest := []) X h (c_X4_isPerson (p := pz) hI r_pz) mi_X4_isPerson ml_X4_94 ⟨Nat.le_of_ble_eq_true rfl, Nat.le_of_ble_eq_true rfl⟩ ⟨rfl, rfl⟩ (Seg.rfl' _) 3 0 rfl rfl rfl rfl hl.1 rfl (Nat.le_of_ble_eq_true rfl) ⟨Nat.zero_le _, Nat.zero_le _⟩ dX4_book_33) ?_
    refine z_ifb_ne (tgt := 46) X dX4_book_36 (by decide) (fun c_36 => ?_) (fun c_36 => ?_)
    · refine lv_aload_n X.1 X.2.1 dX4_book_46 rfl (lv_at hl 1 rfl) ?_
      refine z_av h (run_V (rest := []) X h (c_X4_startTrial hR hI.n8) mi_X4_startTrial ml_X4_150 ⟨Nat.le_of_ble_eq_true rfl, Nat.le_of_ble_eq_true rfl⟩ ⟨rfl, rfl⟩ (Seg.rfl' _) 3 0 rfl rfl rfl rfl hl.1 rfl (Nat.le_of_ble_eq_true rfl) ⟨Nat.zero_le _, Nat.zero_le _⟩ dX4_book_47) (fun _ => map_app rfl (map_app rfl (map_app rfl (map_app (wS_map _ _ _ _ _ _ _ _) rfl)))) (fun u H locs hp h => ?_)
      obtain ⟨r0_1, r1_1, r2_1, r3_1, r4_1, r5_1, r6_1, r7_1, r8_1⟩ := u
      have h : St E _ s H locs (wO E a k b t x q ((iv (ik))) fd ++ (wS E k ((hk)) ((nk)) (k1, k2, k3, k4, k5, k6, k7, k8, k9) ++ (wS E b ((iv (hr A))) ((iv (pe A))) (xs, xi, xk, xc, xl, xr, xb, yl, yr) ++ (wS E t ((iv (hr A))) ((iv (pe A))) (r0_1, r1_1, r2_1, r3_1, r4_1, r5_1, r6_1, r7_1, r8_1) ++ (wX E x ((iv (tn))) ((e1)) ((e2)) ((e3)) ((e4)) tp ++ (wH E (q 0) ((iv (bq 0))) ((iv (sq 0))) c0 ++ (wH E (q 1) ((iv (bq 1))) ((iv (sq 1))) c1 ++ (wH E (q 2) ((iv (bq 2))) ((iv (sq 2))) c2 ++ (wH E (q 3) ((iv (bq 3))) ((iv (sq 3))) c3 ++ []))))))))) := h
      have hRb1 : RS (r0_1, r1_1, r2_1, r3_1, r4_1, r5_1, r6_1, r7_1, r8_1) A := hp
      refine z_iconst X dX4_book_50 ?_
      refine lv_istore (lv' := [(4, .int (iv (0))), (3, .ref (q 3 0)), (0, .ref (a 0)), (1, .int (iv (3))), (2, .int (iv (pz)))]) X.1 X.2.1 dX4_book_51 hl (by decide) rfl (fun ls hl => ?_)
      have L53 : ∀ (fuel_ : Nat) (i : Int) (g1 : Nat → Int32) (g2 : Nat → Int32) (g3 : Nat → Int32) (g4 : Nat → Int32) (g5 : Nat → Int32) (g6 : Nat → Int32) (g7 : Nat → Int32) (g8 : Nat → Int32) (g9 : Nat → Int32) (cv : Nat → Int64), (0 ≤ i) → (i ≤ sq 3) → (RS (g1, g2, g3, g4, g5, g6, g7, g8, g9) (stepn A i.toNat)) → (∀ k, 0 ≤ k → k < 40 → cv k.toNat = bookq A bq cq 3 pz i 3 k) → sq 3 - i < (fuel_ : Int) → ∀ (H : Heap) (locs : List Loc), St E (wO E a k b t x q ((iv (ik))) fd ++ (wS E k ((hk)) ((nk)) (k1, k2, k3, k4, k5, k6, k7, k8, k9) ++ (wS E b ((iv (hr A))) ((iv (pe A))) (xs, xi, xk, xc, xl, xr, xb, yl, yr) ++ (wS E t ((ht)) ((nt)) (t1, t2, t3, t4, t5, t6, t7, t8, t9) ++ (wX E x ((iv (tn))) ((e1)) ((e2)) ((e3)) ((e4)) tp ++ (wH E (q 0) ((iv (bq 0))) ((iv (sq 0))) c0 ++ (wH E (q 1) ((iv (bq 1))) ((iv (sq 1))) c1 ++ (wH E (q 2) ((iv (bq 2))) ((iv (sq 2))) c2 ++ (wH E (q 3) ((iv (bq 3))) ((iv (sq 3))) c3 ++ []))))))))) s H locs (wO E a k b t x q ((iv (ik))) fd ++ (wS E k ((hk)) ((nk)) (k1, k2, k3, k4, k5, k6, k7, k8, k9) ++ (wS E b ((iv (hr A))) ((iv (pe A))) (xs, xi, xk, xc, xl, xr, xb, yl, yr) ++ (wS E t ((iv (hr (stepn A i.toNat)))) ((iv (pe (stepn A i.toNat)))) (g1, g2, g3, g4, g5, g6, g7, g8, g9) ++ (wX E x ((iv (tn))) ((e1)) ((e2)) ((e3)) ((e4)) tp ++ (wH E (q 0) ((iv (bq 0))) ((iv (sq 0))) c0 ++ (wH E (q 1) ((iv (bq 1))) ((iv (sq 1))) c1 ++ (wH E (q 2) ((iv (bq 2))) ((iv (sq 2))) c2 ++ (wH E (q 3) ((iv (bq 3))) ((iv (sq 3))) cv ++ []))))))))) → ∀ ls : Array Slot, lv_has ls 5 [(3, .ref (q 3 0)), (0, .ref (a 0)), (1, .int (iv (3))), (2, .int (iv (pz))), (4, .int (iv (i)))] → W pp l e (rmk 4 89) s m args below meth c H locs 0 0 Q (F0 m 53 ls []) := by
        intro fuel_
        induction fuel_ with
        | zero =>
          intro i g1 g2 g3 g4 g5 g6 g7 g8 g9 cv i0 i1 hv hc hn
          exfalso; omega
        | succ fuel_ ih =>
          intro i g1 g2 g3 g4 g5 g6 g7 g8 g9 cv i0 i1 hv hc hn H locs h ls hl
          have pm : pe (stepn A i.toNat) = pe A := stepn_pe _ _
          have bR := brnn_rng hI i.toNat (p := pz) (by omega) (by omega)
          refine lv_iload X.1 X.2.1 dX4_book_53 (lv_at hl 4 rfl) ?_
          refine lv_aload_n X.1 X.2.1 dX4_book_55 rfl (lv_at hl 0 rfl) ?_
          refine z_get X h 0 41 1 rfl inX0 rfl (by decide) fl_X4_192 rfl dX4_book_56 ?_
          refine z_ic_ge (tgt := 90) X ⟨by omega, by omega⟩ ⟨by omega, by omega⟩ dX4_book_59 (by decide) (fun c_59 => ?_) (fun c_59 => ?_)
          · have hce : RepH (iv (bq 3), iv (sq 3), cv) bq sq (bookq A bq cq 3 pz (sq 3)) 3 := ⟨rfl, rfl, fun k k0 k1 => by rw [show sq 3 = i by omega]; exact hc k k0 k1⟩
            refine lv_aload_n X.1 X.2.1 dX4_book_90 rfl (lv_at hl 0 rfl) ?_
            refine z_get X h 0 41 1 rfl inX0 rfl (by decide) fl_X4_192 rfl dX4_book_91 ?_
            have e9 : q_book A bq sq cq ph 3 pz = (sq 3, (bookq A bq cq 3 pz (sq 3)), ph) := by unfold q_book; (repeat (first | rw [if_pos (by omega)] | rw [if_neg (by omega)])); try rfl
            exact ret _ _ _ _ _ (((iv (ik)), fd), ((hk), (nk), (k1, k2, k3, k4, k5, k6, k7, k8, k9)), ((iv (hr A)), (iv (pe A)), (xs, xi, xk, xc, xl, xr, xb, yl, yr)), ((iv (hr (stepn A i.toNat))), (iv (pe (stepn A i.toNat))), (g1, g2, g3, g4, g5, g6, g7, g8, g9)), ((iv (tn)), (e1), (e2), (e3), (e4), tp), ((iv (bq 0)), (iv (sq 0)), c0), ((iv (bq 1)), (iv (sq 1)), c1), ((iv (bq 2)), (iv (sq 2)), c2), ((iv (bq 3)), (iv (sq 3)), cv)) h (by rw [e9]; exact ⟨rfl, ⟨⟨rfl, rfl, hR, hI, hr9⟩, hK, hF, hT, ⟨hB3, RepH_bn hH0 (by decide), RepH_bn hH1 (by decide), RepH_bn hH2 (by decide), hce⟩⟩⟩) dX4_book_94
          · refine lv_aload_n X.1 X.2.1 dX4_book_62 rfl (lv_at hl 0 rfl) ?_
            refine lv_iload X.1 X.2.1 dX4_book_63 (lv_at hl 4 rfl) ?_
            refine lv_aload_n X.1 X.2.1 dX4_book_65 rfl (lv_at hl 1 rfl) ?_
            refine z_get X h 3 0 1 rfl inX4 rfl (by decide) fl_X4_16 rfl dX4_book_66 ?_
            refine lv_iload_n X.1 X.2.1 dX4_book_69 rfl (lv_at hl 3 rfl) ?_
            refine z_pi (run_V (rest := [.int (iv (i)), .ref (q 3 0)]) X (st_in (st_in (st_in (st_nil h)))) (c_X1_brownOf (p := pz) hv (stepn_IA hI i.toNat) (by omega) (by omega)) mi_X1_brownOf ml_X4_128 ⟨Nat.le_of_ble_eq_true rfl, Nat.le_of_ble_eq_true rfl⟩ ⟨rfl, rfl⟩ (Seg.mk' _ _) 1 23 rfl rfl rfl rfl hl.1 rfl (Nat.le_of_ble_eq_true rfl) ⟨Nat.zero_le _, Nat.zero_le _⟩ dX4_book_70) ?_
            refine lv_i2l (v := (iv (brn (stepn A i.toNat) pz)).toInt64) X.1 X.2.1 dX4_book_73 rfl ?_
            refine z_wv (st_sing (st_in (st_in (st_in (st_in (st_in (st_in (st_in (st_in (st_nil h)))))))))) (run_V (rest := []) X (st_sing (st_in (st_in (st_in (st_in (st_in (st_in (st_in (st_in (st_nil h)))))))))) (c_X0_put (y := q 3) (bt := bq 3) (i9 := i) (v9 := (iv (brn (stepn A i.toNat) pz)).toInt64) ⟨by omega, by omega⟩ (by omega) (by omega)) mi_X0_put ml_X4_202 ⟨Nat.le_of_ble_eq_true rfl, Nat.le_of_ble_eq_true rfl⟩ ⟨rfl, rfl⟩ (Seg.mk' _ _) 0 41 rfl rfl rfl rfl hl.1 rfl (Nat.le_of_ble_eq_true rfl) ⟨Nat.zero_le _, Nat.zero_le _⟩ dX4_book_74) (fun _ => map_app (wH_map _ _ _ _ _ _ _ _) rfl) (fun u H locs hp h => ?_)
            have h := (st_lin (st_out (st_out (st_out (st_out (st_out (st_out (st_out (st_out (st_gnis h))))))))))
            have h : St E _ s H locs (wO E a k b t x q ((iv (ik))) fd ++ (wS E k ((hk)) ((nk)) (k1, k2, k3, k4, k5, k6, k7, k8, k9) ++ (wS E b ((iv (hr A))) ((iv (pe A))) (xs, xi, xk, xc, xl, xr, xb, yl, yr) ++ (wS E t ((iv (hr (stepn A i.toNat)))) ((iv (pe (stepn A i.toNat)))) (g1, g2, g3, g4, g5, g6, g7, g8, g9) ++ (wX E x ((iv (tn))) ((e1)) ((e2)) ((e3)) ((e4)) tp ++ (wH E (q 0) ((iv (bq 0))) ((iv (sq 0))) c0 ++ (wH E (q 1) ((iv (bq 1))) ((iv (sq 1))) c1 ++ (wH E (q 2) ((iv (bq 2))) ((iv (sq 2))) c2 ++ (wH E (q 3) ((iv (bq 3))) ((iv (sq 3))) (vp_updL cv (i : Int).toNat (cut (bq 3) ((iv (brn (stepn A i.toNat) pz)).toInt64))) ++ []))))))))) := h
            refine lv_aload_n X.1 X.2.1 dX4_book_77 rfl (lv_at hl 1 rfl) ?_
            refine z_get X h 3 0 1 rfl inX4 rfl (by decide) fl_X4_16 rfl dX4_book_78 ?_
            refine z_wv (st_in (st_in (st_in (st_nil h)))) (run_V (rest := []) X (st_in (st_in (st_in (st_nil h)))) (c_X1_passHour hv (stepn_IA hI i.toNat) (show hr (stepn A i.toNat) < 1000000 by rw [stepn_hr]; omega)) mi_X1_passHour ml_X4_153 ⟨Nat.le_of_ble_eq_true rfl, Nat.le_of_ble_eq_true rfl⟩ ⟨rfl, rfl⟩ (Seg.mk' _ _) 1 23 rfl rfl rfl rfl hl.1 rfl (Nat.le_of_ble_eq_true rfl) ⟨Nat.zero_le _, Nat.zero_le _⟩ dX4_book_81) (fun _ => wS_map _ _ _ _ _ _ _ _) (fun u H locs hp h => ?_)
            have h := (st_lin (st_out (st_out (st_out h))))
            obtain ⟨z0_2, z1_2, z2_2, z3_2, z4_2, z5_2, z6_2, z7_2, z8_2⟩ := u
            have h : St E _ s H locs (wO E a k b t x q ((iv (ik))) fd ++ (wS E k ((hk)) ((nk)) (k1, k2, k3, k4, k5, k6, k7, k8, k9) ++ (wS E b ((iv (hr A))) ((iv (pe A))) (xs, xi, xk, xc, xl, xr, xb, yl, yr) ++ (wS E t ((iv (hr (step (stepn A i.toNat))))) ((iv (pe (step (stepn A i.toNat))))) (z0_2, z1_2, z2_2, z3_2, z4_2, z5_2, z6_2, z7_2, z8_2) ++ (wX E x ((iv (tn))) ((e1)) ((e2)) ((e3)) ((e4)) tp ++ (wH E (q 0) ((iv (bq 0))) ((iv (sq 0))) c0 ++ (wH E (q 1) ((iv (bq 1))) ((iv (sq 1))) c1 ++ (wH E (q 2) ((iv (bq 2))) ((iv (sq 2))) c2 ++ (wH E (q 3) ((iv (bq 3))) ((iv (sq 3))) (vp_updL cv (i : Int).toNat (cut (bq 3) ((iv (brn (stepn A i.toNat) pz)).toInt64))) ++ []))))))))) := h
            have hR2 : RS (z0_2, z1_2, z2_2, z3_2, z4_2, z5_2, z6_2, z7_2, z8_2) (step (stepn A i.toNat)) := hp
            have es : step (stepn A i.toNat) = stepn A (i + 1).toNat := by rw [tn1 (by omega)]; rfl
            have h : St E (wO E a k b t x q ((iv (ik))) fd ++ (wS E k ((hk)) ((nk)) (k1, k2, k3, k4, k5, k6, k7, k8, k9) ++ (wS E b ((iv (hr A))) ((iv (pe A))) (xs, xi, xk, xc, xl, xr, xb, yl, yr) ++ (wS E t ((ht)) ((nt)) (t1, t2, t3, t4, t5, t6, t7, t8, t9) ++ (wX E x ((iv (tn))) ((e1)) ((e2)) ((e3)) ((e4)) tp ++ (wH E (q 0) ((iv (bq 0))) ((iv (sq 0))) c0 ++ (wH E (q 1) ((iv (bq 1))) ((iv (sq 1))) c1 ++ (wH E (q 2) ((iv (bq 2))) ((iv (sq 2))) c2 ++ (wH E (q 3) ((iv (bq 3))) ((iv (sq 3))) c3 ++ []))))))))) s H locs (wO E a k b t x q ((iv (ik))) fd ++ (wS E k ((hk)) ((nk)) (k1, k2, k3, k4, k5, k6, k7, k8, k9) ++ (wS E b ((iv (hr A))) ((iv (pe A))) (xs, xi, xk, xc, xl, xr, xb, yl, yr) ++ (wS E t ((iv (hr (stepn A (i + 1).toNat)))) ((iv (pe (stepn A (i + 1).toNat)))) (z0_2, z1_2, z2_2, z3_2, z4_2, z5_2, z6_2, z7_2, z8_2) ++ (wX E x ((iv (tn))) ((e1)) ((e2)) ((e3)) ((e4)) tp ++ (wH E (q 0) ((iv (bq 0))) ((iv (sq 0))) c0 ++ (wH E (q 1) ((iv (bq 1))) ((iv (sq 1))) c1 ++ (wH E (q 2) ((iv (bq 2))) ((iv (sq 2))) c2 ++ (wH E (q 3) ((iv (bq 3))) ((iv (sq 3))) (vp_updL cv (i : Int).toNat (cut (bq 3) ((iv (brn (stepn A i.toNat) pz)).toInt64))) ++ []))))))))) := by rw [← es]; exact h
            have tR9 : RS (z0_2, z1_2, z2_2, z3_2, z4_2, z5_2, z6_2, z7_2, z8_2) (stepn A (i + 1).toNat) := by rw [← es]; exact hR2
            refine z_iinc (k := 4) (lv' := [(4, .int (iv (i + 1))), (3, .ref (q 3 0)), (0, .ref (a 0)), (1, .int (iv (3))), (2, .int (iv (pz)))]) X dX4_book_84 hl rfl (by decide) rfl (fun ls hl => ?_)
            refine lv_goto (tgt := 53) X.1 X.2.1 dX4_book_87 (by decide) ?_
            exact ih (i + 1) (z0_2) (z1_2) (z2_2) (z3_2) (z4_2) (z5_2) (z6_2) (z7_2) (z8_2) ((vp_updL cv (i : Int).toNat (cut (bq 3) ((iv (brn (stepn A i.toNat) pz)).toInt64)))) (by omega) (by omega) (tR9) (bk_step i0 hc) (by omega) _ _ h ls (lv_sub hl [1, 2, 3, 4, 0] rfl)
      exact L53 ((sq 3 - (0) : Int).toNat + 1) (0) (r0_1) (r1_1) (r2_1) (r3_1) (r4_1) (r5_1) (r6_1) (r7_1) (r8_1) (c3) (by omega) (by omega) (hRb1) (bk_0 hH3) (by omega) _ _ h ls (lv_sub hl [1, 2, 3, 4, 0] rfl)
    · refine lv_aload_n X.1 X.2.1 dX4_book_39 rfl (lv_at hl 1 rfl) ?_
      refine z_ldc (z := (-1000000001)) X ct_X4_48 (by decide) dX4_book_40 ?_
      refine z_wi (st_sing (st_nil h)) (run_V (rest := []) X (st_sing (st_nil h)) (c_X4_finding (j := 0) hF (by decide) (by decide) (by decide)) mi_X4_finding ml_X4_49 ⟨Nat.le_of_ble_eq_true rfl, Nat.le_of_ble_eq_true rfl⟩ ⟨rfl, rfl⟩ (Seg.mk' _ _) 3 0 rfl rfl rfl rfl hl.1 rfl (Nat.le_of_ble_eq_true rfl) ⟨Nat.zero_le _, Nat.zero_le _⟩ dX4_book_42) (fun _ => map_app (wO_map _ _ _ _ _ _ _ _ _ _ _) rfl) (fun r fd3 H locs hp h => ?_)
      have h := (st_lin (st_gnis h))
      obtain ⟨rfl, hF3⟩ := hp
      have h : St E _ s H locs (wO E a k b t x q ((iv (ik))) fd3 ++ (wS E k ((hk)) ((nk)) (k1, k2, k3, k4, k5, k6, k7, k8, k9) ++ (wS E b ((iv (hr A))) ((iv (pe A))) (xs, xi, xk, xc, xl, xr, xb, yl, yr) ++ (wS E t ((ht)) ((nt)) (t1, t2, t3, t4, t5, t6, t7, t8, t9) ++ (wX E x ((iv (tn))) ((e1)) ((e2)) ((e3)) ((e4)) tp ++ (wH E (q 0) ((iv (bq 0))) ((iv (sq 0))) c0 ++ (wH E (q 1) ((iv (bq 1))) ((iv (sq 1))) c1 ++ (wH E (q 2) ((iv (bq 2))) ((iv (sq 2))) c2 ++ (wH E (q 3) ((iv (bq 3))) ((iv (sq 3))) c3 ++ []))))))))) := h
      have e9 : q_book A bq sq cq ph 3 pz = ((-1000000001), cq, (bump ph 0)) := by unfold q_book; (repeat (first | rw [if_pos (by omega)] | rw [if_neg (by omega)])); try rfl
      exact ret _ _ _ _ _ (((iv (ik)), fd3), ((hk), (nk), (k1, k2, k3, k4, k5, k6, k7, k8, k9)), ((iv (hr A)), (iv (pe A)), (xs, xi, xk, xc, xl, xr, xb, yl, yr)), ((ht), (nt), (t1, t2, t3, t4, t5, t6, t7, t8, t9)), ((iv (tn)), (e1), (e2), (e3), (e4), tp), ((iv (bq 0)), (iv (sq 0)), c0), ((iv (bq 1)), (iv (sq 1)), c1), ((iv (bq 2)), (iv (sq 2)), c2), ((iv (bq 3)), (iv (sq 3)), c3)) h (by rw [e9]; exact ⟨rfl, ⟨⟨rfl, rfl, hR, hI, hr9⟩, hK, hF3, hT, hB⟩⟩) dX4_book_45
  · refine lv_aload_n X.1 X.2.1 dX4_book_24 rfl (lv_at hl 1 rfl) ?_
    refine z_ldc (z := (-1000000006)) X ct_X4_197 (by decide) dX4_book_25 ?_
    refine z_wi (st_sing (st_nil h)) (run_V (rest := []) X (st_sing (st_nil h)) (c_X4_finding (j := 5) hF (by decide) (by decide) (by decide)) mi_X4_finding ml_X4_49 ⟨Nat.le_of_ble_eq_true rfl, Nat.le_of_ble_eq_true rfl⟩ ⟨rfl, rfl⟩ (Seg.mk' _ _) 3 0 rfl rfl rfl rfl hl.1 rfl (Nat.le_of_ble_eq_true rfl) ⟨Nat.zero_le _, Nat.zero_le _⟩ dX4_book_27) (fun _ => map_app (wO_map _ _ _ _ _ _ _ _ _ _ _) rfl) (fun r fd4 H locs hp h => ?_)
    have h := (st_lin (st_gnis h))
    obtain ⟨rfl, hF4⟩ := hp
    have h : St E _ s H locs (wO E a k b t x q ((iv (ik))) fd4 ++ (wS E k ((hk)) ((nk)) (k1, k2, k3, k4, k5, k6, k7, k8, k9) ++ (wS E b ((iv (hr A))) ((iv (pe A))) (xs, xi, xk, xc, xl, xr, xb, yl, yr) ++ (wS E t ((ht)) ((nt)) (t1, t2, t3, t4, t5, t6, t7, t8, t9) ++ (wX E x ((iv (tn))) ((e1)) ((e2)) ((e3)) ((e4)) tp ++ (wH E (q 0) ((iv (bq 0))) ((iv (sq 0))) c0 ++ (wH E (q 1) ((iv (bq 1))) ((iv (sq 1))) c1 ++ (wH E (q 2) ((iv (bq 2))) ((iv (sq 2))) c2 ++ (wH E (q 3) ((iv (bq 3))) ((iv (sq 3))) c3 ++ []))))))))) := h
    have e9 : q_book A bq sq cq ph 3 pz = ((-1000000006), cq, (bump ph 5)) := by unfold q_book; (repeat (first | rw [if_pos (by omega)] | rw [if_neg (by omega)])); try rfl
    exact ret _ _ _ _ _ (((iv (ik)), fd4), ((hk), (nk), (k1, k2, k3, k4, k5, k6, k7, k8, k9)), ((iv (hr A)), (iv (pe A)), (xs, xi, xk, xc, xl, xr, xb, yl, yr)), ((ht), (nt), (t1, t2, t3, t4, t5, t6, t7, t8, t9)), ((iv (tn)), (e1), (e2), (e3), (e4), tp), ((iv (bq 0)), (iv (sq 0)), c0), ((iv (bq 1)), (iv (sq 1)), c1), ((iv (bq 2)), (iv (sq 2)), c2), ((iv (bq 3)), (iv (sq 3)), c3)) h (by rw [e9]; exact ⟨rfl, ⟨⟨rfl, rfl, hR, hI, hr9⟩, hK, hF4, hT, hB⟩⟩) dX4_book_30

set_option maxHeartbeats 4000000 in
theorem c_X4_book_N (hS : RepC (((iv (ik)), fd), ((hk), (nk), (k1, k2, k3, k4, k5, k6, k7, k8, k9)), ((iv (hr A)), (iv (pe A)), (xs, xi, xk, xc, xl, xr, xb, yl, yr)), ((ht), (nt), (t1, t2, t3, t4, t5, t6, t7, t8, t9)), ((iv (tn)), (e1), (e2), (e3), (e4), tp), ((iv (bq 0)), (iv (sq 0)), c0), ((iv (bq 1)), (iv (sq 1)), c1), ((iv (bq 2)), (iv (sq 2)), c2), ((iv (bq 3)), (iv (sq 3)), c3)) (A, K, ik, ph, tq, tn, bq, sq, cq)) {ps : Int} (r_ps : r32 ps) {pz : Int} (r_pz : r32 pz) (ho : ps < 0 ∨ 3 < ps) : MI (S := Tc) E l yX4_book cX4_book 5 (some FieldType.int) (rmk 4 89) (wO E a k b t x q ((iv (ik))) fd ++ (wS E k ((hk)) ((nk)) (k1, k2, k3, k4, k5, k6, k7, k8, k9) ++ (wS E b ((iv (hr A))) ((iv (pe A))) (xs, xi, xk, xc, xl, xr, xb, yl, yr) ++ (wS E t ((ht)) ((nt)) (t1, t2, t3, t4, t5, t6, t7, t8, t9) ++ (wX E x ((iv (tn))) ((e1)) ((e2)) ((e3)) ((e4)) tp ++ (wH E (q 0) ((iv (bq 0))) ((iv (sq 0))) c0 ++ (wH E (q 1) ((iv (bq 1))) ((iv (sq 1))) c1 ++ (wH E (q 2) ((iv (bq 2))) ((iv (sq 2))) c2 ++ (wH E (q 3) ((iv (bq 3))) ((iv (sq 3))) c3 ++ []))))))))) [.ref (a 0), .int (iv (ps)), .int (iv (pz))] (fun r u => r = iv ((q_book A bq sq cq ph ps pz).1) ∧ RepC u (A, K, ik, (q_book A bq sq cq ph ps pz).2.2, tq, tn, bq, sq, (q_book A bq sq cq ph ps pz).2.1)) (fun u => wT E a k b t x q u) := by
  refine goI (S := Tc) (post := fun r u => r = iv ((q_book A bq sq cq ph ps pz).1) ∧ RepC u (A, K, ik, (q_book A bq sq cq ph ps pz).2.2, tq, tn, bq, sq, (q_book A bq sq cq ph ps pz).2.1)) (ws' := fun u => wT E a k b t x q u) (by decide) (Nat.le_of_ble_eq_true rfl) ?_
  intro pp e s m below meth c ls args Q ret X h hl
  have hl : lv_has ls 5 [(0, .ref (a 0)), (1, .int (iv (ps))), (2, .int (iv (pz)))] := hl
  have hR : RS (xs, xi, xk, xc, xl, xr, xb, yl, yr) A := hS.1.2.2.1
  have hI : IA A := hS.1.2.2.2.1
  have hr9 : hr A ≤ 99999 := hS.1.2.2.2.2
  have hF : RF 7 fd ph := hS.2.2.1
  have hK := hS.2.1
  have hT := hS.2.2.2.1
  have hB := hS.2.2.2.2
  have hh : hr A < 1000000 := by omega
  have n8 := hI.n8
  have n0 := hI.n0
  have h0 := hI.h0
  have ht0 : 0 ≤ tn := hS.2.2.2.1.2.1
  have ht1 : tn ≤ 120 := hS.2.2.2.1.2.2.1
  have hk01 : ik = 0 ∨ ik = 1 := hS.2.1.2.1
  have hB3 : okB bq sq := hS.2.2.2.2.1
  have hH0 : RepH (iv (bq 0), iv (sq 0), c0) bq sq cq 0 := hS.2.2.2.2.2.1
  have hH1 : RepH (iv (bq 1), iv (sq 1), c1) bq sq cq 1 := hS.2.2.2.2.2.2.1
  have hH2 : RepH (iv (bq 2), iv (sq 2), c2) bq sq cq 2 := hS.2.2.2.2.2.2.2.1
  have hH3 : RepH (iv (bq 3), iv (sq 3), c3) bq sq cq 3 := hS.2.2.2.2.2.2.2.2
  refine lv_aload_n X.1 X.2.1 dX4_book_0 rfl (lv_at hl 0 rfl) ?_
  refine lv_iload_n X.1 X.2.1 dX4_book_1 rfl (lv_at hl 1 rfl) ?_
  refine z_pq (run_V (rest := []) X h (c_sheetAtN (s9 := ps) r_ps (by omega)) mi_X4_sheetAt ml_X4_184 ⟨Nat.le_of_ble_eq_true rfl, Nat.le_of_ble_eq_true rfl⟩ ⟨rfl, rfl⟩ (Seg.rfl' _) 3 0 rfl rfl rfl rfl hl.1 rfl (Nat.le_of_ble_eq_true rfl) ⟨Nat.zero_le _, Nat.zero_le _⟩ dX4_book_2) ?_
  refine W.eq (g2 := F0 m 5 ls [.null]) rfl ?_
  refine lv_astore_nN (lv' := [(3, .null), (0, .ref (a 0)), (1, .int (iv (ps))), (2, .int (iv (pz)))]) X.1 X.2.1 dX4_book_5 rfl hl (by decide) rfl (fun ls hl => ?_)
  refine lv_aload_nN X.1 X.2.1 dX4_book_6 rfl (lv_at hl 0 rfl) ?_
  refine lv_ifnonnullN X.1 X.2.1 dX4_book_7 ?_
  refine lv_aload_n X.1 X.2.1 dX4_book_10 rfl (lv_at hl 1 rfl) ?_
  refine z_ldc (z := (-1000000001)) X ct_X4_48 (by decide) dX4_book_11 ?_
  refine z_wi (st_sing (st_nil h)) (run_V (rest := []) X (st_sing (st_nil h)) (c_X4_finding (j := 0) hF (by decide) (by decide) (by decide)) mi_X4_finding ml_X4_49 ⟨Nat.le_of_ble_eq_true rfl, Nat.le_of_ble_eq_true rfl⟩ ⟨rfl, rfl⟩ (Seg.mk' _ _) 3 0 rfl rfl rfl rfl hl.1 rfl (Nat.le_of_ble_eq_true rfl) ⟨Nat.zero_le _, Nat.zero_le _⟩ dX4_book_13) (fun _ => map_app (wO_map _ _ _ _ _ _ _ _ _ _ _) rfl) (fun r fd1 H locs hp h => ?_)
  have h := (st_lin (st_gnis h))
  obtain ⟨rfl, hF1⟩ := hp
  have h : St E _ s H locs (wO E a k b t x q ((iv (ik))) fd1 ++ (wS E k ((hk)) ((nk)) (k1, k2, k3, k4, k5, k6, k7, k8, k9) ++ (wS E b ((iv (hr A))) ((iv (pe A))) (xs, xi, xk, xc, xl, xr, xb, yl, yr) ++ (wS E t ((ht)) ((nt)) (t1, t2, t3, t4, t5, t6, t7, t8, t9) ++ (wX E x ((iv (tn))) ((e1)) ((e2)) ((e3)) ((e4)) tp ++ (wH E (q 0) ((iv (bq 0))) ((iv (sq 0))) c0 ++ (wH E (q 1) ((iv (bq 1))) ((iv (sq 1))) c1 ++ (wH E (q 2) ((iv (bq 2))) ((iv (sq 2))) c2 ++ (wH E (q 3) ((iv (bq 3))) ((iv (sq 3))) c3 ++ []))))))))) := h
  have e9 : q_book A bq sq cq ph ps pz = ((-1000000001), cq, (bump ph 0)) := by unfold q_book; (repeat (first | rw [if_pos (by omega)] | rw [if_neg (by omega)])); try rfl
  exact ret _ _ _ _ _ (((iv (ik)), fd1), ((hk), (nk), (k1, k2, k3, k4, k5, k6, k7, k8, k9)), ((iv (hr A)), (iv (pe A)), (xs, xi, xk, xc, xl, xr, xb, yl, yr)), ((ht), (nt), (t1, t2, t3, t4, t5, t6, t7, t8, t9)), ((iv (tn)), (e1), (e2), (e3), (e4), tp), ((iv (bq 0)), (iv (sq 0)), c0), ((iv (bq 1)), (iv (sq 1)), c1), ((iv (bq 2)), (iv (sq 2)), c2), ((iv (bq 3)), (iv (sq 3)), c3)) h (by rw [e9]; exact ⟨rfl, ⟨⟨rfl, rfl, hR, hI, hr9⟩, hK, hF1, hT, hB⟩⟩) dX4_book_16

theorem c_X4_book (hS : RepC (((iv (ik)), fd), ((hk), (nk), (k1, k2, k3, k4, k5, k6, k7, k8, k9)), ((iv (hr A)), (iv (pe A)), (xs, xi, xk, xc, xl, xr, xb, yl, yr)), ((ht), (nt), (t1, t2, t3, t4, t5, t6, t7, t8, t9)), ((iv (tn)), (e1), (e2), (e3), (e4), tp), ((iv (bq 0)), (iv (sq 0)), c0), ((iv (bq 1)), (iv (sq 1)), c1), ((iv (bq 2)), (iv (sq 2)), c2), ((iv (bq 3)), (iv (sq 3)), c3)) (A, K, ik, ph, tq, tn, bq, sq, cq)) {ps : Int} (r_ps : r32 ps) {pz : Int} (r_pz : r32 pz) : MI (S := Tc) E l yX4_book cX4_book 5 (some FieldType.int) (rmk 4 89) (wO E a k b t x q ((iv (ik))) fd ++ (wS E k ((hk)) ((nk)) (k1, k2, k3, k4, k5, k6, k7, k8, k9) ++ (wS E b ((iv (hr A))) ((iv (pe A))) (xs, xi, xk, xc, xl, xr, xb, yl, yr) ++ (wS E t ((ht)) ((nt)) (t1, t2, t3, t4, t5, t6, t7, t8, t9) ++ (wX E x ((iv (tn))) ((e1)) ((e2)) ((e3)) ((e4)) tp ++ (wH E (q 0) ((iv (bq 0))) ((iv (sq 0))) c0 ++ (wH E (q 1) ((iv (bq 1))) ((iv (sq 1))) c1 ++ (wH E (q 2) ((iv (bq 2))) ((iv (sq 2))) c2 ++ (wH E (q 3) ((iv (bq 3))) ((iv (sq 3))) c3 ++ []))))))))) [.ref (a 0), .int (iv (ps)), .int (iv (pz))] (fun r u => r = iv ((q_book A bq sq cq ph ps pz).1) ∧ RepC u (A, K, ik, (q_book A bq sq cq ph ps pz).2.2, tq, tn, bq, sq, (q_book A bq sq cq ph ps pz).2.1)) (fun u => wT E a k b t x q u) := by
  rcases (show ps = 0 ∨ ps = 1 ∨ ps = 2 ∨ ps = 3 ∨ (ps < 0 ∨ 3 < ps) by omega) with rfl | rfl | rfl | rfl | ho
  · exact c_X4_book_0 hS r_pz
  · exact c_X4_book_1 hS r_pz
  · exact c_X4_book_2 hS r_pz
  · exact c_X4_book_3 hS r_pz
  · exact c_X4_book_N hS r_ps r_pz ho
