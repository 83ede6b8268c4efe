variable {E : EV} {l : Launch} {a k b t x : Nat → Nat} {q : Nat → Nat → Nat} {fd k1 k2 k3 k4 k5 k6 k7 k8 k9 xs xi xk xc xl xr xb yl yr t1 t2 t3 t4 t5 t6 t7 t8 t9 tp : Nat → Int32} {hk nk ht nt e1 e2 e3 e4 v0 : Int32} {c0 c1 c2 c3 : Nat → Int64} {A K : Es} {ph tq bq sq : Int → Int} {cq : Int → Int → Int64} {ik tn : Int}
set_option maxHeartbeats 4000000 in
theorem c_X4_trialGoesAs_0 {Bb : Es} (hRB : RS (t1, t2, t3, t4, t5, t6, t7, t8, t9) Bb) (hIB : IA Bb) (hh : hr Bb < 200000) (hH0 : RepH (iv (bq 0), iv (sq 0), c0) bq sq cq 0) (z0 : 0 ≤ sq 0) (z1 : sq 0 ≤ 40) {pz : Int} (p0 : 0 ≤ pz) (p1 : pz < pe Bb) : MI (S := Ac) E l yX4_trialGoesAs cX4_trialGoesAs 4 (some FieldType.boolean) (rmk 4 89) (wO E a k b t x q ((iv (ik))) fd ++ (wS E k ((hk)) ((nk)) (k1, k2, k3, k4, k5, k6, k7, k8, k9) ++ (wS E b ((iv (hr A))) ((iv (pe A))) (xs, xi, xk, xc, xl, xr, xb, yl, yr) ++ (wS E t ((iv (hr Bb))) ((iv (pe Bb))) (t1, t2, t3, t4, t5, t6, t7, t8, t9) ++ (wX E x ((iv (tn))) ((e1)) ((e2)) ((e3)) ((e4)) tp ++ (wH E (q 0) ((iv (bq 0))) ((iv (sq 0))) c0 ++ (wH E (q 1) ((iv (bq 1))) ((iv (sq 1))) c1 ++ (wH E (q 2) ((iv (bq 2))) ((iv (sq 2))) c2 ++ (wH E (q 3) ((iv (bq 3))) ((iv (sq 3))) c3 ++ []))))))))) [.ref (a 0), .ref (q 0 0), .int (iv (pz))] (fun r _ => r = iv (bz (isb (cq 0) Bb pz (sq 0).toNat = true))) (fun u => wO E a k b t x q ((iv (ik))) fd ++ (wS E k ((hk)) ((nk)) (k1, k2, k3, k4, k5, k6, k7, k8, k9) ++ (wS E b ((iv (hr A))) ((iv (pe A))) (xs, xi, xk, xc, xl, xr, xb, yl, yr) ++ (wS E t ((u.1)) ((u.2.1)) u.2.2 ++ (wX E x ((iv (tn))) ((e1)) ((e2)) ((e3)) ((e4)) tp ++ (wH E (q 0) ((iv (bq 0))) ((iv (sq 0))) c0 ++ (wH E (q 1) ((iv (bq 1))) ((iv (sq 1))) c1 ++ (wH E (q 2) ((iv (bq 2))) ((iv (sq 2))) c2 ++ (wH E (q 3) ((iv (bq 3))) ((iv (sq 3))) c3 ++ []))))))))) := by
  refine goZ (S := Ac) (post := fun r _ => r = iv (bz (isb (cq 0) Bb pz (sq 0).toNat = true))) (ws' := fun u => wO E a k b t x q ((iv (ik))) fd ++ (wS E k ((hk)) ((nk)) (k1, k2, k3, k4, k5, k6, k7, k8, k9) ++ (wS E b ((iv (hr A))) ((iv (pe A))) (xs, xi, xk, xc, xl, xr, xb, yl, yr) ++ (wS E t ((u.1)) ((u.2.1)) u.2.2 ++ (wX E x ((iv (tn))) ((e1)) ((e2)) ((e3)) ((e4)) tp ++ (wH E (q 0) ((iv (bq 0))) ((iv (sq 0))) c0 ++ (wH E (q 1) ((iv (bq 1))) ((iv (sq 1))) c1 ++ (wH E (q 2) ((iv (bq 2))) ((iv (sq 2))) c2 ++ (wH E (q 3) ((iv (bq 3))) ((iv (sq 3))) c3 ++ []))))))))) (by decide) (Nat.le_of_ble_eq_true rfl) ?_
  intro pp e s m below meth c ls args Q ret X h hl
  have hl : lv_has ls 4 [(0, .ref (a 0)), (1, .ref (q 0 0)), (2, .int (iv (pz)))] := hl
  refine z_iconst X dX4_trialGoesAs_0 ?_
  refine lv_istore_n (lv' := [(3, .int (iv (0))), (0, .ref (a 0)), (1, .ref (q 0 0)), (2, .int (iv (pz)))]) X.1 X.2.1 dX4_trialGoesAs_1 rfl hl (by decide) rfl (fun ls hl => ?_)
  have L2 : ∀ (fuel_ : Nat) (i : Int) (g1 : Nat → Int32) (g2 : Nat → Int32) (g3 : Nat → Int32) (g4 : Nat → Int32) (g5 : Nat → Int32) (g6 : Nat → Int32) (g7 : Nat → Int32) (g8 : Nat → Int32) (g9 : Nat → Int32), (0 ≤ i) → (i ≤ sq 0) → (RS (g1, g2, g3, g4, g5, g6, g7, g8, g9) (stepn Bb i.toNat)) → (isb (cq 0) Bb pz i.toNat = true) → sq 0 - i < (fuel_ : Int) → ∀ (H : Heap) (locs : List Loc), St E (wO E a k b t x q ((iv (ik))) fd ++ (wS E k ((hk)) ((nk)) (k1, k2, k3, k4, k5, k6, k7, k8, k9) ++ (wS E b ((iv (hr A))) ((iv (pe A))) (xs, xi, xk, xc, xl, xr, xb, yl, yr) ++ (wS E t ((iv (hr Bb))) ((iv (pe Bb))) (t1, t2, t3, t4, t5, t6, t7, t8, t9) ++ (wX E x ((iv (tn))) ((e1)) ((e2)) ((e3)) ((e4)) tp ++ (wH E (q 0) ((iv (bq 0))) ((iv (sq 0))) c0 ++ (wH E (q 1) ((iv (bq 1))) ((iv (sq 1))) c1 ++ (wH E (q 2) ((iv (bq 2))) ((iv (sq 2))) c2 ++ (wH E (q 3) ((iv (bq 3))) ((iv (sq 3))) c3 ++ []))))))))) s H locs (wO E a k b t x q ((iv (ik))) fd ++ (wS E k ((hk)) ((nk)) (k1, k2, k3, k4, k5, k6, k7, k8, k9) ++ (wS E b ((iv (hr A))) ((iv (pe A))) (xs, xi, xk, xc, xl, xr, xb, yl, yr) ++ (wS E t ((iv (hr (stepn Bb i.toNat)))) ((iv (pe (stepn Bb i.toNat)))) (g1, g2, g3, g4, g5, g6, g7, g8, g9) ++ (wX E x ((iv (tn))) ((e1)) ((e2)) ((e3)) ((e4)) tp ++ (wH E (q 0) ((iv (bq 0))) ((iv (sq 0))) c0 ++ (wH E (q 1) ((iv (bq 1))) ((iv (sq 1))) c1 ++ (wH E (q 2) ((iv (bq 2))) ((iv (sq 2))) c2 ++ (wH E (q 3) ((iv (bq 3))) ((iv (sq 3))) c3 ++ []))))))))) → ∀ ls : Array Slot, lv_has ls 4 [(0, .ref (a 0)), (1, .ref (q 0 0)), (2, .int (iv (pz))), (3, .int (iv (i)))] → W pp l e (rmk 4 89) s m args below meth c H locs 0 0 Q (F0 m 2 ls []) := by
    intro fuel_
    induction fuel_ with
    | zero =>
      intro i g1 g2 g3 g4 g5 g6 g7 g8 g9 i0 i1 hv hb hn
      exfalso; omega
    | succ fuel_ ih_2 =>
      intro i g1 g2 g3 g4 g5 g6 g7 g8 g9 i0 i1 hv hb hn H locs h ls hl
      have pm : pe (stepn Bb i.toNat) = pe Bb := stepn_pe _ _
      have bR := brnn_rng hIB i.toNat (p := pz) (by omega) (by omega)
      refine lv_iload_n X.1 X.2.1 dX4_trialGoesAs_2 rfl (lv_at hl 3 rfl) ?_
      refine lv_aload_n X.1 X.2.1 dX4_trialGoesAs_3 rfl (lv_at hl 1 rfl) ?_
      refine z_get X h 0 35 1 rfl inX0 rfl (by decide) fl_X4_192 rfl dX4_trialGoesAs_4 ?_
      refine z_ic_ge (tgt := 44) X ⟨by omega, by omega⟩ ⟨by omega, by omega⟩ dX4_trialGoesAs_7 (by decide) (fun c_7 => ?_) (fun c_7 => ?_)
      · refine z_iconst X dX4_trialGoesAs_44 ?_
        exact ret _ _ _ _ _ ((iv (hr (stepn Bb i.toNat))), (iv (pe (stepn Bb i.toNat))), (g1, g2, g3, g4, g5, g6, g7, g8, g9)) h (Or.inr rfl) (congrArg iv (bz_t (by rw [show sq 0 = i by omega]; exact hb)).symm) dX4_trialGoesAs_45
      · refine lv_aload_n X.1 X.2.1 dX4_trialGoesAs_10 rfl (lv_at hl 1 rfl) ?_
        refine z_get X h 0 35 2 rfl inX0 rfl (by decide) fl_X4_198 rfl dX4_trialGoesAs_11 ?_
        refine lv_iload_n X.1 X.2.1 dX4_trialGoesAs_14 rfl (lv_at hl 3 rfl) ?_
        refine z_laldv (v := cq 0 i) X h 36 rfl (by omega) (by omega) (by decide) (hH0.2.2 i (by omega) (by omega)) dX4_trialGoesAs_15 ?_
        refine lv_aload_n X.1 X.2.1 dX4_trialGoesAs_16 rfl (lv_at hl 0 rfl) ?_
        refine z_get X h 3 0 1 rfl inX4 rfl (by decide) fl_X4_16 rfl dX4_trialGoesAs_17 ?_
        refine lv_iload_n X.1 X.2.1 dX4_trialGoesAs_20 rfl (lv_at hl 2 rfl) ?_
        refine z_pi (run_V (rest := [.long (cq 0 i)]) X (st_in (st_in (st_in (st_nil h)))) (c_X1_brownOf (p := pz) hv (stepn_IA hIB i.toNat) (by omega) (by omega)) mi_X1_brownOf ml_X4_128 ⟨Nat.le_of_ble_eq_true rfl, Nat.le_of_ble_eq_true rfl⟩ ⟨rfl, rfl⟩ (Seg.mk' _ _) 1 23 rfl rfl rfl rfl hl.1 rfl (Nat.le_of_ble_eq_true rfl) ⟨Nat.zero_le _, Nat.zero_le _⟩ dX4_trialGoesAs_21) ?_
        refine lv_i2l (v := (iv (brn (stepn Bb i.toNat) pz)).toInt64) X.1 X.2.1 dX4_trialGoesAs_24 rfl ?_
        refine z_lcmp (a := (cq 0 i).toInt) (b := brn (stepn Bb i.toNat) pz) X rfl (i64_iv ⟨by omega, by omega⟩) dX4_trialGoesAs_25 ?_
        refine z_ifc_eq (tgt := 31) X dX4_trialGoesAs_26 (by decide) (fun c_26 => ?_) (fun c_26 => ?_)
        · refine lv_aload_n X.1 X.2.1 dX4_trialGoesAs_31 rfl (lv_at hl 0 rfl) ?_
          refine z_get X h 3 0 1 rfl inX4 rfl (by decide) fl_X4_16 rfl dX4_trialGoesAs_32 ?_
          refine z_wv (st_in (st_in (st_in (st_nil h)))) (run_V (rest := []) X (st_in (st_in (st_in (st_nil h)))) (c_X1_passHour hv (stepn_IA hIB i.toNat) (show hr (stepn Bb i.toNat) < 1000000 by rw [stepn_hr]; omega)) mi_X1_passHour ml_X4_153 ⟨Nat.le_of_ble_eq_true rfl, Nat.le_of_ble_eq_true rfl⟩ ⟨rfl, rfl⟩ (Seg.mk' _ _) 1 23 rfl rfl rfl rfl hl.1 rfl (Nat.le_of_ble_eq_true rfl) ⟨Nat.zero_le _, Nat.zero_le _⟩ dX4_trialGoesAs_35) (fun _ => wS_map _ _ _ _ _ _ _ _) (fun u H locs hp h => ?_)
          have h := (st_lin (st_out (st_out (st_out h))))
          obtain ⟨z0_1, z1_1, z2_1, z3_1, z4_1, z5_1, z6_1, z7_1, z8_1⟩ := u
          have h : St E _ s H locs (wO E a k b t x q ((iv (ik))) fd ++ (wS E k ((hk)) ((nk)) (k1, k2, k3, k4, k5, k6, k7, k8, k9) ++ (wS E b ((iv (hr A))) ((iv (pe A))) (xs, xi, xk, xc, xl, xr, xb, yl, yr) ++ (wS E t ((iv (hr (step (stepn Bb i.toNat))))) ((iv (pe (step (stepn Bb i.toNat))))) (z0_1, z1_1, z2_1, z3_1, z4_1, z5_1, z6_1, z7_1, z8_1) ++ (wX E x ((iv (tn))) ((e1)) ((e2)) ((e3)) ((e4)) tp ++ (wH E (q 0) ((iv (bq 0))) ((iv (sq 0))) c0 ++ (wH E (q 1) ((iv (bq 1))) ((iv (sq 1))) c1 ++ (wH E (q 2) ((iv (bq 2))) ((iv (sq 2))) c2 ++ (wH E (q 3) ((iv (bq 3))) ((iv (sq 3))) c3 ++ []))))))))) := h
          have hR1 : RS (z0_1, z1_1, z2_1, z3_1, z4_1, z5_1, z6_1, z7_1, z8_1) (step (stepn Bb i.toNat)) := hp
          have es : step (stepn Bb i.toNat) = stepn Bb (i + 1).toNat := by rw [tn1 (by omega)]; rfl
          have h : St E (wO E a k b t x q ((iv (ik))) fd ++ (wS E k ((hk)) ((nk)) (k1, k2, k3, k4, k5, k6, k7, k8, k9) ++ (wS E b ((iv (hr A))) ((iv (pe A))) (xs, xi, xk, xc, xl, xr, xb, yl, yr) ++ (wS E t ((iv (hr Bb))) ((iv (pe Bb))) (t1, t2, t3, t4, t5, t6, t7, t8, t9) ++ (wX E x ((iv (tn))) ((e1)) ((e2)) ((e3)) ((e4)) tp ++ (wH E (q 0) ((iv (bq 0))) ((iv (sq 0))) c0 ++ (wH E (q 1) ((iv (bq 1))) ((iv (sq 1))) c1 ++ (wH E (q 2) ((iv (bq 2))) ((iv (sq 2))) c2 ++ (wH E (q 3) ((iv (bq 3))) ((iv (sq 3))) c3 ++ []))))))))) s H locs (wO E a k b t x q ((iv (ik))) fd ++ (wS E k ((hk)) ((nk)) (k1, k2, k3, k4, k5, k6, k7, k8, k9) ++ (wS E b ((iv (hr A))) ((iv (pe A))) (xs, xi, xk, xc, xl, xr, xb, yl, yr) ++ (wS E t ((iv (hr (stepn Bb (i + 1).toNat)))) ((iv (pe (stepn Bb (i + 1).toNat)))) (z0_1, z1_1, z2_1, z3_1, z4_1, z5_1, z6_1, z7_1, z8_1) ++ (wX E x ((iv (tn))) ((e1)) ((e2)) ((e3)) ((e4)) tp ++ (wH E (q 0) ((iv (bq 0))) ((iv (sq 0))) c0 ++ (wH E (q 1) ((iv (bq 1))) ((iv (sq 1))) c1 ++ (wH E (q 2) ((iv (bq 2))) ((iv (sq 2))) c2 ++ (wH E (q 3) ((iv (bq 3))) ((iv (sq 3))) c3 ++ []))))))))) := by rw [← es]; exact h
          have tR9 : RS (z0_1, z1_1, z2_1, z3_1, z4_1, z5_1, z6_1, z7_1, z8_1) (stepn Bb (i + 1).toNat) := by rw [← es]; exact hR1
          refine z_iinc (k := 3) (lv' := [(3, .int (iv (i + 1))), (0, .ref (a 0)), (1, .ref (q 0 0)), (2, .int (iv (pz)))]) X dX4_trialGoesAs_38 hl rfl (by decide) rfl (fun ls hl => ?_)
          refine lv_goto (tgt := 2) X.1 X.2.1 dX4_trialGoesAs_41 (by decide) ?_
          exact ih_2 (i + 1) (z0_1) (z1_1) (z2_1) (z3_1) (z4_1) (z5_1) (z6_1) (z7_1) (z8_1) (by omega) (by omega) (tR9) (isb_y i0 hb (by omega)) (by omega) _ _ h ls (lv_sub hl [1, 2, 3, 0] rfl)
        · refine z_iconst X dX4_trialGoesAs_29 ?_
          exact ret _ _ _ _ _ ((iv (hr (stepn Bb i.toNat))), (iv (pe (stepn Bb i.toNat))), (g1, g2, g3, g4, g5, g6, g7, g8, g9)) h (Or.inl rfl) (congrArg iv (bz_f (by rw [isb_end (i := i + 1) (by omega) (by omega) (isb_n i0 (by omega))]; decide)).symm) dX4_trialGoesAs_30
  exact L2 ((sq 0 - (0) : Int).toNat + 1) (0) (t1) (t2) (t3) (t4) (t5) (t6) (t7) (t8) (t9) (by omega) (by omega) (hRB) (rfl) (by omega) _ _ h ls (lv_sub hl [1, 2, 3, 0] rfl)

set_option maxHeartbeats 4000000 in
theorem c_X4_trialGoesAs_1 {Bb : Es} (hRB : RS (t1, t2, t3, t4, t5, t6, t7, t8, t9) Bb) (hIB : IA Bb) (hh : hr Bb < 200000) (hH1 : RepH (iv (bq 1), iv (sq 1), c1) bq sq cq 1) (z0 : 0 ≤ sq 1) (z1 : sq 1 ≤ 40) {pz : Int} (p0 : 0 ≤ pz) (p1 : pz < pe Bb) : MI (S := Ac) E l yX4_trialGoesAs cX4_trialGoesAs 4 (some FieldType.boolean) (rmk 4 89) (wO E a k b t x q ((iv (ik))) fd ++ (wS E k ((hk)) ((nk)) (k1, k2, k3, k4, k5, k6, k7, k8, k9) ++ (wS E b ((iv (hr A))) ((iv (pe A))) (xs, xi, xk, xc, xl, xr, xb, yl, yr) ++ (wS E t ((iv (hr Bb))) ((iv (pe Bb))) (t1, t2, t3, t4, t5, t6, t7, t8, t9) ++ (wX E x ((iv (tn))) ((e1)) ((e2)) ((e3)) ((e4)) tp ++ (wH E (q 0) ((iv (bq 0))) ((iv (sq 0))) c0 ++ (wH E (q 1) ((iv (bq 1))) ((iv (sq 1))) c1 ++ (wH E (q 2) ((iv (bq 2))) ((iv (sq 2))) c2 ++ (wH E (q 3) ((iv (bq 3))) ((iv (sq 3))) c3 ++ []))))))))) [.ref (a 0), .ref (q 1 0), .int (iv (pz))] (fun r _ => r = iv (bz (isb (cq 1) Bb pz (sq 1).toNat = true))) (fun u => wO E a k b t x q ((iv (ik))) fd ++ (wS E k ((hk)) ((nk)) (k1, k2, k3, k4, k5, k6, k7, k8, k9) ++ (wS E b ((iv (hr A))) ((iv (pe A))) (xs, xi, xk, xc, xl, xr, xb, yl, yr) ++ (wS E t ((u.1)) ((u.2.1)) u.2.2 ++ (wX E x ((iv (tn))) ((e1)) ((e2)) ((e3)) ((e4)) tp ++ (wH E (q 0) ((iv (bq 0))) ((iv (sq 0))) c0 ++ (wH E (q 1) ((iv (bq 1))) ((iv (sq 1))) c1 ++ (wH E (q 2) ((iv (bq 2))) ((iv (sq 2))) c2 ++ (wH E (q 3) ((iv (bq 3))) ((iv (sq 3))) c3 ++ []))))))))) := by
  refine goZ (S := Ac) (post := fun r _ => r = iv (bz (isb (cq 1) Bb pz (sq 1).toNat = true))) (ws' := fun u => wO E a k b t x q ((iv (ik))) fd ++ (wS E k ((hk)) ((nk)) (k1, k2, k3, k4, k5, k6, k7, k8, k9) ++ (wS E b ((iv (hr A))) ((iv (pe A))) (xs, xi, xk, xc, xl, xr, xb, yl, yr) ++ (wS E t ((u.1)) ((u.2.1)) u.2.2 ++ (wX E x ((iv (tn))) ((e1)) ((e2)) ((e3)) ((e4)) tp ++ (wH E (q 0) ((iv (bq 0))) ((iv (sq 0))) c0 ++ (wH E (q 1) ((iv (bq 1))) ((iv (sq 1))) c1 ++ (wH E (q 2) ((iv (bq 2))) ((iv (sq 2))) c2 ++ (wH E (q 3) ((iv (bq 3))) ((iv (sq 3))) c3 ++ []))))))))) (by decide) (Nat.le_of_ble_eq_true rfl) ?_
  intro pp e s m below meth c ls args Q ret X h hl
  have hl : lv_has ls 4 [(0, .ref (a 0)), (1, .ref (q 1 0)), (2, .int (iv (pz)))] := hl
  refine z_iconst X dX4_trialGoesAs_0 ?_
  refine lv_istore_n (lv' := [(3, .int (iv (0))), (0, .ref (a 0)), (1, .ref (q 1 0)), (2, .int (iv (pz)))]) X.1 X.2.1 dX4_trialGoesAs_1 rfl hl (by decide) rfl (fun ls hl => ?_)
  have L2 : ∀ (fuel_ : Nat) (i : Int) (g1 : Nat → Int32) (g2 : Nat → Int32) (g3 : Nat → Int32) (g4 : Nat → Int32) (g5 : Nat → Int32) (g6 : Nat → Int32) (g7 : Nat → Int32) (g8 : Nat → Int32) (g9 : Nat → Int32), (0 ≤ i) → (i ≤ sq 1) → (RS (g1, g2, g3, g4, g5, g6, g7, g8, g9) (stepn Bb i.toNat)) → (isb (cq 1) Bb pz i.toNat = true) → sq 1 - i < (fuel_ : Int) → ∀ (H : Heap) (locs : List Loc), St E (wO E a k b t x q ((iv (ik))) fd ++ (wS E k ((hk)) ((nk)) (k1, k2, k3, k4, k5, k6, k7, k8, k9) ++ (wS E b ((iv (hr A))) ((iv (pe A))) (xs, xi, xk, xc, xl, xr, xb, yl, yr) ++ (wS E t ((iv (hr Bb))) ((iv (pe Bb))) (t1, t2, t3, t4, t5, t6, t7, t8, t9) ++ (wX E x ((iv (tn))) ((e1)) ((e2)) ((e3)) ((e4)) tp ++ (wH E (q 0) ((iv (bq 0))) ((iv (sq 0))) c0 ++ (wH E (q 1) ((iv (bq 1))) ((iv (sq 1))) c1 ++ (wH E (q 2) ((iv (bq 2))) ((iv (sq 2))) c2 ++ (wH E (q 3) ((iv (bq 3))) ((iv (sq 3))) c3 ++ []))))))))) s H locs (wO E a k b t x q ((iv (ik))) fd ++ (wS E k ((hk)) ((nk)) (k1, k2, k3, k4, k5, k6, k7, k8, k9) ++ (wS E b ((iv (hr A))) ((iv (pe A))) (xs, xi, xk, xc, xl, xr, xb, yl, yr) ++ (wS E t ((iv (hr (stepn Bb i.toNat)))) ((iv (pe (stepn Bb i.toNat)))) (g1, g2, g3, g4, g5, g6, g7, g8, g9) ++ (wX E x ((iv (tn))) ((e1)) ((e2)) ((e3)) ((e4)) tp ++ (wH E (q 0) ((iv (bq 0))) ((iv (sq 0))) c0 ++ (wH E (q 1) ((iv (bq 1))) ((iv (sq 1))) c1 ++ (wH E (q 2) ((iv (bq 2))) ((iv (sq 2))) c2 ++ (wH E (q 3) ((iv (bq 3))) ((iv (sq 3))) c3 ++ []))))))))) → ∀ ls : Array Slot, lv_has ls 4 [(0, .ref (a 0)), (1, .ref (q 1 0)), (2, .int (iv (pz))), (3, .int (iv (i)))] → W pp l e (rmk 4 89) s m args below meth c H locs 0 0 Q (F0 m 2 ls []) := by
    intro fuel_
    induction fuel_ with
    | zero =>
      intro i g1 g2 g3 g4 g5 g6 g7 g8 g9 i0 i1 hv hb hn
      exfalso; omega
    | succ fuel_ ih_2 =>
      intro i g1 g2 g3 g4 g5 g6 g7 g8 g9 i0 i1 hv hb hn H locs h ls hl
      have pm : pe (stepn Bb i.toNat) = pe Bb := stepn_pe _ _
      have bR := brnn_rng hIB i.toNat (p := pz) (by omega) (by omega)
      refine lv_iload_n X.1 X.2.1 dX4_trialGoesAs_2 rfl (lv_at hl 3 rfl) ?_
      refine lv_aload_n X.1 X.2.1 dX4_trialGoesAs_3 rfl (lv_at hl 1 rfl) ?_
      refine z_get X h 0 37 1 rfl inX0 rfl (by decide) fl_X4_192 rfl dX4_trialGoesAs_4 ?_
      refine z_ic_ge (tgt := 44) X ⟨by omega, by omega⟩ ⟨by omega, by omega⟩ dX4_trialGoesAs_7 (by decide) (fun c_7 => ?_) (fun c_7 => ?_)
      · refine z_iconst X dX4_trialGoesAs_44 ?_
        exact ret _ _ _ _ _ ((iv (hr (stepn Bb i.toNat))), (iv (pe (stepn Bb i.toNat))), (g1, g2, g3, g4, g5, g6, g7, g8, g9)) h (Or.inr rfl) (congrArg iv (bz_t (by rw [show sq 1 = i by omega]; exact hb)).symm) dX4_trialGoesAs_45
      · refine lv_aload_n X.1 X.2.1 dX4_trialGoesAs_10 rfl (lv_at hl 1 rfl) ?_
        refine z_get X h 0 37 2 rfl inX0 rfl (by decide) fl_X4_198 rfl dX4_trialGoesAs_11 ?_
        refine lv_iload_n X.1 X.2.1 dX4_trialGoesAs_14 rfl (lv_at hl 3 rfl) ?_
        refine z_laldv (v := cq 1 i) X h 38 rfl (by omega) (by omega) (by decide) (hH1.2.2 i (by omega) (by omega)) dX4_trialGoesAs_15 ?_
        refine lv_aload_n X.1 X.2.1 dX4_trialGoesAs_16 rfl (lv_at hl 0 rfl) ?_
        refine z_get X h 3 0 1 rfl inX4 rfl (by decide) fl_X4_16 rfl dX4_trialGoesAs_17 ?_
        refine lv_iload_n X.1 X.2.1 dX4_trialGoesAs_20 rfl (lv_at hl 2 rfl) ?_
        refine z_pi (run_V (rest := [.long (cq 1 i)]) X (st_in (st_in (st_in (st_nil h)))) (c_X1_brownOf (p := pz) hv (stepn_IA hIB i.toNat) (by omega) (by omega)) mi_X1_brownOf ml_X4_128 ⟨Nat.le_of_ble_eq_true rfl, Nat.le_of_ble_eq_true rfl⟩ ⟨rfl, rfl⟩ (Seg.mk' _ _) 1 23 rfl rfl rfl rfl hl.1 rfl (Nat.le_of_ble_eq_true rfl) ⟨Nat.zero_le _, Nat.zero_le _⟩ dX4_trialGoesAs_21) ?_
        refine lv_i2l (v := (iv (brn (stepn Bb i.toNat) pz)).toInt64) X.1 X.2.1 dX4_trialGoesAs_24 rfl ?_
        refine z_lcmp (a := (cq 1 i).toInt) (b := brn (stepn Bb i.toNat) pz) X rfl (i64_iv ⟨by omega, by omega⟩) dX4_trialGoesAs_25 ?_
        refine z_ifc_eq (tgt := 31) X dX4_trialGoesAs_26 (by decide) (fun c_26 => ?_) (fun c_26 => ?_)
        · refine lv_aload_n X.1 X.2.1 dX4_trialGoesAs_31 rfl (lv_at hl 0 rfl) ?_
          refine z_get X h 3 0 1 rfl inX4 rfl (by decide) fl_X4_16 rfl dX4_trialGoesAs_32 ?_
          refine z_wv (st_in (st_in (st_in (st_nil h)))) (run_V (rest := []) X (st_in (st_in (st_in (st_nil h)))) (c_X1_passHour hv (stepn_IA hIB i.toNat) (show hr (stepn Bb i.toNat) < 1000000 by rw [stepn_hr]; omega)) mi_X1_passHour ml_X4_153 ⟨Nat.le_of_ble_eq_true rfl, Nat.le_of_ble_eq_true rfl⟩ ⟨rfl, rfl⟩ (Seg.mk' _ _) 1 23 rfl rfl rfl rfl hl.1 rfl (Nat.le_of_ble_eq_true rfl) ⟨Nat.zero_le _, Nat.zero_le _⟩ dX4_trialGoesAs_35) (fun _ => wS_map _ _ _ _ _ _ _ _) (fun u H locs hp h => ?_)
          have h := (st_lin (st_out (st_out (st_out h))))
          obtain ⟨z0_1, z1_1, z2_1, z3_1, z4_1, z5_1, z6_1, z7_1, z8_1⟩ := u
          have h : St E _ s H locs (wO E a k b t x q ((iv (ik))) fd ++ (wS E k ((hk)) ((nk)) (k1, k2, k3, k4, k5, k6, k7, k8, k9) ++ (wS E b ((iv (hr A))) ((iv (pe A))) (xs, xi, xk, xc, xl, xr, xb, yl, yr) ++ (wS E t ((iv (hr (step (stepn Bb i.toNat))))) ((iv (pe (step (stepn Bb i.toNat))))) (z0_1, z1_1, z2_1, z3_1, z4_1, z5_1, z6_1, z7_1, z8_1) ++ (wX E x ((iv (tn))) ((e1)) ((e2)) ((e3)) ((e4)) tp ++ (wH E (q 0) ((iv (bq 0))) ((iv (sq 0))) c0 ++ (wH E (q 1) ((iv (bq 1))) ((iv (sq 1))) c1 ++ (wH E (q 2) ((iv (bq 2))) ((iv (sq 2))) c2 ++ (wH E (q 3) ((iv (bq 3))) ((iv (sq 3))) c3 ++ []))))))))) := h
          have hR1 : RS (z0_1, z1_1, z2_1, z3_1, z4_1, z5_1, z6_1, z7_1, z8_1) (step (stepn Bb i.toNat)) := hp
          have es : step (stepn Bb i.toNat) = stepn Bb (i + 1).toNat := by rw [tn1 (by omega)]; rfl
          have h : St E (wO E a k b t x q ((iv (ik))) fd ++ (wS E k ((hk)) ((nk)) (k1, k2, k3, k4, k5, k6, k7, k8, k9) ++ (wS E b ((iv (hr A))) ((iv (pe A))) (xs, xi, xk, xc, xl, xr, xb, yl, yr) ++ (wS E t ((iv (hr Bb))) ((iv (pe Bb))) (t1, t2, t3, t4, t5, t6, t7, t8, t9) ++ (wX E x ((iv (tn))) ((e1)) ((e2)) ((e3)) ((e4)) tp ++ (wH E (q 0) ((iv (bq 0))) ((iv (sq 0))) c0 ++ (wH E (q 1) ((iv (bq 1))) ((iv (sq 1))) c1 ++ (wH E (q 2) ((iv (bq 2))) ((iv (sq 2))) c2 ++ (wH E (q 3) ((iv (bq 3))) ((iv (sq 3))) c3 ++ []))))))))) s H locs (wO E a k b t x q ((iv (ik))) fd ++ (wS E k ((hk)) ((nk)) (k1, k2, k3, k4, k5, k6, k7, k8, k9) ++ (wS E b ((iv (hr A))) ((iv (pe A))) (xs, xi, xk, xc, xl, xr, xb, yl, yr) ++ (wS E t ((iv (hr (stepn Bb (i + 1).toNat)))) ((iv (pe (stepn Bb (i + 1).toNat)))) (z0_1, z1_1, z2_1, z3_1, z4_1, z5_1, z6_1, z7_1, z8_1) ++ (wX E x ((iv (tn))) ((e1)) ((e2)) ((e3)) ((e4)) tp ++ (wH E (q 0) ((iv (bq 0))) ((iv (sq 0))) c0 ++ (wH E (q 1) ((iv (bq 1))) ((iv (sq 1))) c1 ++ (wH E (q 2) ((iv (bq 2))) ((iv (sq 2))) c2 ++ (wH E (q 3) ((iv (bq 3))) ((iv (sq 3))) c3 ++ []))))))))) := by rw [← es]; exact h
          have tR9 : RS (z0_1, z1_1, z2_1, z3_1, z4_1, z5_1, z6_1, z7_1, z8_1) (stepn Bb (i + 1).toNat) := by rw [← es]; exact hR1
          refine z_iinc (k := 3) (lv' := [(3, .int (iv (i + 1))), (0, .ref (a 0)), (1, .ref (q 1 0)), (2, .int (iv (pz)))]) X dX4_trialGoesAs_38 hl rfl (by decide) rfl (fun ls hl => ?_)
          refine lv_goto (tgt := 2) X.1 X.2.1 dX4_trialGoesAs_41 (by decide) ?_
          exact ih_2 (i + 1) (z0_1) (z1_1) (z2_1) (z3_1) (z4_1) (z5_1) (z6_1) (z7_1) (z8_1) (by omega) (by omega) (tR9) (isb_y i0 hb (by omega)) (by omega) _ _ h ls (lv_sub hl [1, 2, 3, 0] rfl)
        · refine z_iconst X dX4_trialGoesAs_29 ?_
          exact ret _ _ _ _ _ ((iv (hr (stepn Bb i.toNat))), (iv (pe (stepn Bb i.toNat))), (g1, g2, g3, g4, g5, g6, g7, g8, g9)) h (Or.inl rfl) (congrArg iv (bz_f (by rw [isb_end (i := i + 1) (by omega) (by omega) (isb_n i0 (by omega))]; decide)).symm) dX4_trialGoesAs_30
  exact L2 ((sq 1 - (0) : Int).toNat + 1) (0) (t1) (t2) (t3) (t4) (t5) (t6) (t7) (t8) (t9) (by omega) (by omega) (hRB) (rfl) (by omega) _ _ h ls (lv_sub hl [1, 2, 3, 0] rfl)

set_option maxHeartbeats 4000000 in
theorem c_X4_trialGoesAs_2 {Bb : Es} (hRB : RS (t1, t2, t3, t4, t5, t6, t7, t8, t9) Bb) (hIB : IA Bb) (hh : hr Bb < 200000) (hH2 : RepH (iv (bq 2), iv (sq 2), c2) bq sq cq 2) (z0 : 0 ≤ sq 2) (z1 : sq 2 ≤ 40) {pz : Int} (p0 : 0 ≤ pz) (p1 : pz < pe Bb) : MI (S := Ac) E l yX4_trialGoesAs cX4_trialGoesAs 4 (some FieldType.boolean) (rmk 4 89) (wO E a k b t x q ((iv (ik))) fd ++ (wS E k ((hk)) ((nk)) (k1, k2, k3, k4, k5, k6, k7, k8, k9) ++ (wS E b ((iv (hr A))) ((iv (pe A))) (xs, xi, xk, xc, xl, xr, xb, yl, yr) ++ (wS E t ((iv (hr Bb))) ((iv (pe Bb))) (t1, t2, t3, t4, t5, t6, t7, t8, t9) ++ (wX E x ((iv (tn))) ((e1)) ((e2)) ((e3)) ((e4)) tp ++ (wH E (q 0) ((iv (bq 0))) ((iv (sq 0))) c0 ++ (wH E (q 1) ((iv (bq 1))) ((iv (sq 1))) c1 ++ (wH E (q 2) ((iv (bq 2))) ((iv (sq 2))) c2 ++ (wH E (q 3) ((iv (bq 3))) ((iv (sq 3))) c3 ++ []))))))))) [.ref (a 0), .ref (q 2 0), .int (iv (pz))] (fun r _ => r = iv (bz (isb (cq 2) Bb pz (sq 2).toNat = true))) (fun u => wO E a k b t x q ((iv (ik))) fd ++ (wS E k ((hk)) ((nk)) (k1, k2, k3, k4, k5, k6, k7, k8, k9) ++ (wS E b ((iv (hr A))) ((iv (pe A))) (xs, xi, xk, xc, xl, xr, xb, yl, yr) ++ (wS E t ((u.1)) ((u.2.1)) u.2.2 ++ (wX E x ((iv (tn))) ((e1)) ((e2)) ((e3)) ((e4)) tp ++ (wH E (q 0) ((iv (bq 0))) ((iv (sq 0))) c0 ++ (wH E (q 1) ((iv (bq 1))) ((iv (sq 1))) c1 ++ (wH E (q 2) ((iv (bq 2))) ((iv (sq 2))) c2 ++ (wH E (q 3) ((iv (bq 3))) ((iv (sq 3))) c3 ++ []))))))))) := by
  refine goZ (S := Ac) (post := fun r _ => r = iv (bz (isb (cq 2) Bb pz (sq 2).toNat = true))) (ws' := fun u => wO E a k b t x q ((iv (ik))) fd ++ (wS E k ((hk)) ((nk)) (k1, k2, k3, k4, k5, k6, k7, k8, k9) ++ (wS E b ((iv (hr A))) ((iv (pe A))) (xs, xi, xk, xc, xl, xr, xb, yl, yr) ++ (wS E t ((u.1)) ((u.2.1)) u.2.2 ++ (wX E x ((iv (tn))) ((e1)) ((e2)) ((e3)) ((e4)) tp ++ (wH E (q 0) ((iv (bq 0))) ((iv (sq 0))) c0 ++ (wH E (q 1) ((iv (bq 1))) ((iv (sq 1))) c1 ++ (wH E (q 2) ((iv (bq 2))) ((iv (sq 2))) c2 ++ (wH E (q 3) ((iv (bq 3))) ((iv (sq 3))) c3 ++ []))))))))) (by decide) (Nat.le_of_ble_eq_true rfl) ?_
  intro pp e s m below meth c ls args Q ret X h hl
  have hl : lv_has ls 4 [(0, .ref (a 0)), (1, .ref (q 2 0)), (2, .int (iv (pz)))] := hl
  refine z_iconst X dX4_trialGoesAs_0 ?_
  refine lv_istore_n (lv' := [(3, .int (iv (0))), (0, .ref (a 0)), (1, .ref (q 2 0)), (2, .int (iv (pz)))]) X.1 X.2.1 dX4_trialGoesAs_1 rfl hl (by decide) rfl (fun ls hl => ?_)
  have L2 : ∀ (fuel_ : Nat) (i : Int) (g1 : Nat → Int32) (g2 : Nat → Int32) (g3 : Nat → Int32) (g4 : Nat → Int32) (g5 : Nat → Int32) (g6 : Nat → Int32) (g7 : Nat → Int32) (g8 : Nat → Int32) (g9 : Nat → Int32), (0 ≤ i) → (i ≤ sq 2) → (RS (g1, g2, g3, g4, g5, g6, g7, g8, g9) (stepn Bb i.toNat)) → (isb (cq 2) Bb pz i.toNat = true) → sq 2 - i < (fuel_ : Int) → ∀ (H : Heap) (locs : List Loc), St E (wO E a k b t x q ((iv (ik))) fd ++ (wS E k ((hk)) ((nk)) (k1, k2, k3, k4, k5, k6, k7, k8, k9) ++ (wS E b ((iv (hr A))) ((iv (pe A))) (xs, xi, xk, xc, xl, xr, xb, yl, yr) ++ (wS E t ((iv (hr Bb))) ((iv (pe Bb))) (t1, t2, t3, t4, t5, t6, t7, t8, t9) ++ (wX E x ((iv (tn))) ((e1)) ((e2)) ((e3)) ((e4)) tp ++ (wH E (q 0) ((iv (bq 0))) ((iv (sq 0))) c0 ++ (wH E (q 1) ((iv (bq 1))) ((iv (sq 1))) c1 ++ (wH E (q 2) ((iv (bq 2))) ((iv (sq 2))) c2 ++ (wH E (q 3) ((iv (bq 3))) ((iv (sq 3))) c3 ++ []))))))))) s H locs (wO E a k b t x q ((iv (ik))) fd ++ (wS E k ((hk)) ((nk)) (k1, k2, k3, k4, k5, k6, k7, k8, k9) ++ (wS E b ((iv (hr A))) ((iv (pe A))) (xs, xi, xk, xc, xl, xr, xb, yl, yr) ++ (wS E t ((iv (hr (stepn Bb i.toNat)))) ((iv (pe (stepn Bb i.toNat)))) (g1, g2, g3, g4, g5, g6, g7, g8, g9) ++ (wX E x ((iv (tn))) ((e1)) ((e2)) ((e3)) ((e4)) tp ++ (wH E (q 0) ((iv (bq 0))) ((iv (sq 0))) c0 ++ (wH E (q 1) ((iv (bq 1))) ((iv (sq 1))) c1 ++ (wH E (q 2) ((iv (bq 2))) ((iv (sq 2))) c2 ++ (wH E (q 3) ((iv (bq 3))) ((iv (sq 3))) c3 ++ []))))))))) → ∀ ls : Array Slot, lv_has ls 4 [(0, .ref (a 0)), (1, .ref (q 2 0)), (2, .int (iv (pz))), (3, .int (iv (i)))] → W pp l e (rmk 4 89) s m args below meth c H locs 0 0 Q (F0 m 2 ls []) := by
    intro fuel_
    induction fuel_ with
    | zero =>
      intro i g1 g2 g3 g4 g5 g6 g7 g8 g9 i0 i1 hv hb hn
      exfalso; omega
    | succ fuel_ ih_2 =>
      intro i g1 g2 g3 g4 g5 g6 g7 g8 g9 i0 i1 hv hb hn H locs h ls hl
      have pm : pe (stepn Bb i.toNat) = pe Bb := stepn_pe _ _
      have bR := brnn_rng hIB i.toNat (p := pz) (by omega) (by omega)
      refine lv_iload_n X.1 X.2.1 dX4_trialGoesAs_2 rfl (lv_at hl 3 rfl) ?_
      refine lv_aload_n X.1 X.2.1 dX4_trialGoesAs_3 rfl (lv_at hl 1 rfl) ?_
      refine z_get X h 0 39 1 rfl inX0 rfl (by decide) fl_X4_192 rfl dX4_trialGoesAs_4 ?_
      refine z_ic_ge (tgt := 44) X ⟨by omega, by omega⟩ ⟨by omega, by omega⟩ dX4_trialGoesAs_7 (by decide) (fun c_7 => ?_) (fun c_7 => ?_)
      · refine z_iconst X dX4_trialGoesAs_44 ?_
        exact ret _ _ _ _ _ ((iv (hr (stepn Bb i.toNat))), (iv (pe (stepn Bb i.toNat))), (g1, g2, g3, g4, g5, g6, g7, g8, g9)) h (Or.inr rfl) (congrArg iv (bz_t (by rw [show sq 2 = i by omega]; exact hb)).symm) dX4_trialGoesAs_45
      · refine lv_aload_n X.1 X.2.1 dX4_trialGoesAs_10 rfl (lv_at hl 1 rfl) ?_
        refine z_get X h 0 39 2 rfl inX0 rfl (by decide) fl_X4_198 rfl dX4_trialGoesAs_11 ?_
        refine lv_iload_n X.1 X.2.1 dX4_trialGoesAs_14 rfl (lv_at hl 3 rfl) ?_
        refine z_laldv (v := cq 2 i) X h 40 rfl (by omega) (by omega) (by decide) (hH2.2.2 i (by omega) (by omega)) dX4_trialGoesAs_15 ?_
        refine lv_aload_n X.1 X.2.1 dX4_trialGoesAs_16 rfl (lv_at hl 0 rfl) ?_
        refine z_get X h 3 0 1 rfl inX4 rfl (by decide) fl_X4_16 rfl dX4_trialGoesAs_17 ?_
        refine lv_iload_n X.1 X.2.1 dX4_trialGoesAs_20 rfl (lv_at hl 2 rfl) ?_
        refine z_pi (run_V (rest := [.long (cq 2 i)]) X (st_in (st_in (st_in (st_nil h)))) (c_X1_brownOf (p := pz) hv (stepn_IA hIB i.toNat) (by omega) (by omega)) mi_X1_brownOf ml_X4_128 ⟨Nat.le_of_ble_eq_true rfl, Nat.le_of_ble_eq_true rfl⟩ ⟨rfl, rfl⟩ (Seg.mk' _ _) 1 23 rfl rfl rfl rfl hl.1 rfl (Nat.le_of_ble_eq_true rfl) ⟨Nat.zero_le _, Nat.zero_le _⟩ dX4_trialGoesAs_21) ?_
        refine lv_i2l (v := (iv (brn (stepn Bb i.toNat) pz)).toInt64) X.1 X.2.1 dX4_trialGoesAs_24 rfl ?_
        refine z_lcmp (a := (cq 2 i).toInt) (b := brn (stepn Bb i.toNat) pz) X rfl (i64_iv ⟨by omega, by omega⟩) dX4_trialGoesAs_25 ?_
        refine z_ifc_eq (tgt := 31) X dX4_trialGoesAs_26 (by decide) (fun c_26 => ?_) (fun c_26 => ?_)
        · refine lv_aload_n X.1 X.2.1 dX4_trialGoesAs_31 rfl (lv_at hl 0 rfl) ?_
          refine z_get X h 3 0 1 rfl inX4 rfl (by decide) fl_X4_16 rfl dX4_trialGoesAs_32 ?_
          refine z_wv (st_in (st_in (st_in (st_nil h)))) (run_V (rest := []) X (st_in (st_in (st_in (st_nil h)))) (c_X1_passHour hv (stepn_IA hIB i.toNat) (show hr (stepn Bb i.toNat) < 1000000 by rw [stepn_hr]; omega)) mi_X1_passHour ml_X4_153 ⟨Nat.le_of_ble_eq_true rfl, Nat.le_of_ble_eq_true rfl⟩ ⟨rfl, rfl⟩ (Seg.mk' _ _) 1 23 rfl rfl rfl rfl hl.1 rfl (Nat.le_of_ble_eq_true rfl) ⟨Nat.zero_le _, Nat.zero_le _⟩ dX4_trialGoesAs_35) (fun _ => wS_map _ _ _ _ _ _ _ _) (fun u H locs hp h => ?_)
          have h := (st_lin (st_out (st_out (st_out h))))
          obtain ⟨z0_1, z1_1, z2_1, z3_1, z4_1, z5_1, z6_1, z7_1, z8_1⟩ := u
          have h : St E _ s H locs (wO E a k b t x q ((iv (ik))) fd ++ (wS E k ((hk)) ((nk)) (k1, k2, k3, k4, k5, k6, k7, k8, k9) ++ (wS E b ((iv (hr A))) ((iv (pe A))) (xs, xi, xk, xc, xl, xr, xb, yl, yr) ++ (wS E t ((iv (hr (step (stepn Bb i.toNat))))) ((iv (pe (step (stepn Bb i.toNat))))) (z0_1, z1_1, z2_1, z3_1, z4_1, z5_1, z6_1, z7_1, z8_1) ++ (wX E x ((iv (tn))) ((e1)) ((e2)) ((e3)) ((e4)) tp ++ (wH E (q 0) ((iv (bq 0))) ((iv (sq 0))) c0 ++ (wH E (q 1) ((iv (bq 1))) ((iv (sq 1))) c1 ++ (wH E (q 2) ((iv (bq 2))) ((iv (sq 2))) c2 ++ (wH E (q 3) ((iv (bq 3))) ((iv (sq 3))) c3 ++ []))))))))) := h
          have hR1 : RS (z0_1, z1_1, z2_1, z3_1, z4_1, z5_1, z6_1, z7_1, z8_1) (step (stepn Bb i.toNat)) := hp
          have es : step (stepn Bb i.toNat) = stepn Bb (i + 1).toNat := by rw [tn1 (by omega)]; rfl
          have h : St E (wO E a k b t x q ((iv (ik))) fd ++ (wS E k ((hk)) ((nk)) (k1, k2, k3, k4, k5, k6, k7, k8, k9) ++ (wS E b ((iv (hr A))) ((iv (pe A))) (xs, xi, xk, xc, xl, xr, xb, yl, yr) ++ (wS E t ((iv (hr Bb))) ((iv (pe Bb))) (t1, t2, t3, t4, t5, t6, t7, t8, t9) ++ (wX E x ((iv (tn))) ((e1)) ((e2)) ((e3)) ((e4)) tp ++ (wH E (q 0) ((iv (bq 0))) ((iv (sq 0))) c0 ++ (wH E (q 1) ((iv (bq 1))) ((iv (sq 1))) c1 ++ (wH E (q 2) ((iv (bq 2))) ((iv (sq 2))) c2 ++ (wH E (q 3) ((iv (bq 3))) ((iv (sq 3))) c3 ++ []))))))))) s H locs (wO E a k b t x q ((iv (ik))) fd ++ (wS E k ((hk)) ((nk)) (k1, k2, k3, k4, k5, k6, k7, k8, k9) ++ (wS E b ((iv (hr A))) ((iv (pe A))) (xs, xi, xk, xc, xl, xr, xb, yl, yr) ++ (wS E t ((iv (hr (stepn Bb (i + 1).toNat)))) ((iv (pe (stepn Bb (i + 1).toNat)))) (z0_1, z1_1, z2_1, z3_1, z4_1, z5_1, z6_1, z7_1, z8_1) ++ (wX E x ((iv (tn))) ((e1)) ((e2)) ((e3)) ((e4)) tp ++ (wH E (q 0) ((iv (bq 0))) ((iv (sq 0))) c0 ++ (wH E (q 1) ((iv (bq 1))) ((iv (sq 1))) c1 ++ (wH E (q 2) ((iv (bq 2))) ((iv (sq 2))) c2 ++ (wH E (q 3) ((iv (bq 3))) ((iv (sq 3))) c3 ++ []))))))))) := by rw [← es]; exact h
          have tR9 : RS (z0_1, z1_1, z2_1, z3_1, z4_1, z5_1, z6_1, z7_1, z8_1) (stepn Bb (i + 1).toNat) := by rw [← es]; exact hR1
          refine z_iinc (k := 3) (lv' := [(3, .int (iv (i + 1))), (0, .ref (a 0)), (1, .ref (q 2 0)), (2, .int (iv (pz)))]) X dX4_trialGoesAs_38 hl rfl (by decide) rfl (fun ls hl => ?_)
          refine lv_goto (tgt := 2) X.1 X.2.1 dX4_trialGoesAs_41 (by decide) ?_
          exact ih_2 (i + 1) (z0_1) (z1_1) (z2_1) (z3_1) (z4_1) (z5_1) (z6_1) (z7_1) (z8_1) (by omega) (by omega) (tR9) (isb_y i0 hb (by omega)) (by omega) _ _ h ls (lv_sub hl [1, 2, 3, 0] rfl)
        · refine z_iconst X dX4_trialGoesAs_29 ?_
          exact ret _ _ _ _ _ ((iv (hr (stepn Bb i.toNat))), (iv (pe (stepn Bb i.toNat))), (g1, g2, g3, g4, g5, g6, g7, g8, g9)) h (Or.inl rfl) (congrArg iv (bz_f (by rw [isb_end (i := i + 1) (by omega) (by omega) (isb_n i0 (by omega))]; decide)).symm) dX4_trialGoesAs_30
  exact L2 ((sq 2 - (0) : Int).toNat + 1) (0) (t1) (t2) (t3) (t4) (t5) (t6) (t7) (t8) (t9) (by omega) (by omega) (hRB) (rfl) (by omega) _ _ h ls (lv_sub hl [1, 2, 3, 0] rfl)

set_option maxHeartbeats 4000000 in
theorem c_X4_trialGoesAs_3 {Bb : Es} (hRB : RS (t1, t2, t3, t4, t5, t6, t7, t8, t9) Bb) (hIB : IA Bb) (hh : hr Bb < 200000) (hH3 : RepH (iv (bq 3), iv (sq 3), c3) bq sq cq 3) (z0 : 0 ≤ sq 3) (z1 : sq 3 ≤ 40) {pz : Int} (p0 : 0 ≤ pz) (p1 : pz < pe Bb) : MI (S := Ac) E l yX4_trialGoesAs cX4_trialGoesAs 4 (some FieldType.boolean) (rmk 4 89) (wO E a k b t x q ((iv (ik))) fd ++ (wS E k ((hk)) ((nk)) (k1, k2, k3, k4, k5, k6, k7, k8, k9) ++ (wS E b ((iv (hr A))) ((iv (pe A))) (xs, xi, xk, xc, xl, xr, xb, yl, yr) ++ (wS E t ((iv (hr Bb))) ((iv (pe Bb))) (t1, t2, t3, t4, t5, t6, t7, t8, t9) ++ (wX E x ((iv (tn))) ((e1)) ((e2)) ((e3)) ((e4)) tp ++ (wH E (q 0) ((iv (bq 0))) ((iv (sq 0))) c0 ++ (wH E (q 1) ((iv (bq 1))) ((iv (sq 1))) c1 ++ (wH E (q 2) ((iv (bq 2))) ((iv (sq 2))) c2 ++ (wH E (q 3) ((iv (bq 3))) ((iv (sq 3))) c3 ++ []))))))))) [.ref (a 0), .ref (q 3 0), .int (iv (pz))] (fun r _ => r = iv (bz (isb (cq 3) Bb pz (sq 3).toNat = true))) (fun u => wO E a k b t x q ((iv (ik))) fd ++ (wS E k ((hk)) ((nk)) (k1, k2, k3, k4, k5, k6, k7, k8, k9) ++ (wS E b ((iv (hr A))) ((iv (pe A))) (xs, xi, xk, xc, xl, xr, xb, yl, yr) ++ (wS E t ((u.1)) ((u.2.1)) u.2.2 ++ (wX E x ((iv (tn))) ((e1)) ((e2)) ((e3)) ((e4)) tp ++ (wH E (q 0) ((iv (bq 0))) ((iv (sq 0))) c0 ++ (wH E (q 1) ((iv (bq 1))) ((iv (sq 1))) c1 ++ (wH E (q 2) ((iv (bq 2))) ((iv (sq 2))) c2 ++ (wH E (q 3) ((iv (bq 3))) ((iv (sq 3))) c3 ++ []))))))))) := by
  refine goZ (S := Ac) (post := fun r _ => r = iv (bz (isb (cq 3) Bb pz (sq 3).toNat = true))) (ws' := fun u => wO E a k b t x q ((iv (ik))) fd ++ (wS E k ((hk)) ((nk)) (k1, k2, k3, k4, k5, k6, k7, k8, k9) ++ (wS E b ((iv (hr A))) ((iv (pe A))) (xs, xi, xk, xc, xl, xr, xb, yl, yr) ++ (wS E t ((u.1)) ((u.2.1)) u.2.2 ++ (wX E x ((iv (tn))) ((e1)) ((e2)) ((e3)) ((e4)) tp ++ (wH E (q 0) ((iv (bq 0))) ((iv (sq 0))) c0 ++ (wH E (q 1) ((iv (bq 1))) ((iv (sq 1))) c1 ++ (wH E (q 2) ((iv (bq 2))) ((iv (sq 2))) c2 ++ (wH E (q 3) ((iv (bq 3))) ((iv (sq 3))) c3 ++ []))))))))) (by decide) (Nat.le_of_ble_eq_true rfl) ?_
  intro pp e s m below meth c ls args Q ret X h hl
  have hl : lv_has ls 4 [(0, .ref (a 0)), (1, .ref (q 3 0)), (2, .int (iv (pz)))] := hl
  refine z_iconst X dX4_trialGoesAs_0 ?_
  refine lv_istore_n (lv' := [(3, .int (iv (0))), (0, .ref (a 0)), (1, .ref (q 3 0)), (2, .int (iv (pz)))]) X.1 X.2.1 dX4_trialGoesAs_1 rfl hl (by decide) rfl (fun ls hl => ?_)
  have L2 : ∀ (fuel_ : Nat) (i : Int) (g1 : Nat → Int32) (g2 : Nat → Int32) (g3 : Nat → Int32) (g4 : Nat → Int32) (g5 : Nat → Int32) (g6 : Nat → Int32) (g7 : Nat → Int32) (g8 : Nat → Int32) (g9 : Nat → Int32), (0 ≤ i) → (i ≤ sq 3) → (RS (g1, g2, g3, g4, g5, g6, g7, g8, g9) (stepn Bb i.toNat)) → (isb (cq 3) Bb pz i.toNat = true) → sq 3 - i < (fuel_ : Int) → ∀ (H : Heap) (locs : List Loc), St E (wO E a k b t x q ((iv (ik))) fd ++ (wS E k ((hk)) ((nk)) (k1, k2, k3, k4, k5, k6, k7, k8, k9) ++ (wS E b ((iv (hr A))) ((iv (pe A))) (xs, xi, xk, xc, xl, xr, xb, yl, yr) ++ (wS E t ((iv (hr Bb))) ((iv (pe Bb))) (t1, t2, t3, t4, t5, t6, t7, t8, t9) ++ (wX E x ((iv (tn))) ((e1)) ((e2)) ((e3)) ((e4)) tp ++ (wH E (q 0) ((iv (bq 0))) ((iv (sq 0))) c0 ++ (wH E (q 1) ((iv (bq 1))) ((iv (sq 1))) c1 ++ (wH E (q 2) ((iv (bq 2))) ((iv (sq 2))) c2 ++ (wH E (q 3) ((iv (bq 3))) ((iv (sq 3))) c3 ++ []))))))))) s H locs (wO E a k b t x q ((iv (ik))) fd ++ (wS E k ((hk)) ((nk)) (k1, k2, k3, k4, k5, k6, k7, k8, k9) ++ (wS E b ((iv (hr A))) ((iv (pe A))) (xs, xi, xk, xc, xl, xr, xb, yl, yr) ++ (wS E t ((iv (hr (stepn Bb i.toNat)))) ((iv (pe (stepn Bb i.toNat)))) (g1, g2, g3, g4, g5, g6, g7, g8, g9) ++ (wX E x ((iv (tn))) ((e1)) ((e2)) ((e3)) ((e4)) tp ++ (wH E (q 0) ((iv (bq 0))) ((iv (sq 0))) c0 ++ (wH E (q 1) ((iv (bq 1))) ((iv (sq 1))) c1 ++ (wH E (q 2) ((iv (bq 2))) ((iv (sq 2))) c2 ++ (wH E (q 3) ((iv (bq 3))) ((iv (sq 3))) c3 ++ []))))))))) → ∀ ls : Array Slot, lv_has ls 4 [(0, .ref (a 0)), (1, .ref (q 3 0)), (2, .int (iv (pz))), (3, .int (iv (i)))] → W pp l e (rmk 4 89) s m args below meth c H locs 0 0 Q (F0 m 2 ls []) := by
    intro fuel_
    induction fuel_ with
    | zero =>
      intro i g1 g2 g3 g4 g5 g6 g7 g8 g9 i0 i1 hv hb hn
      exfalso; omega
    | succ fuel_ ih_2 =>
      intro i g1 g2 g3 g4 g5 g6 g7 g8 g9 i0 i1 hv hb hn H locs h ls hl
      have pm : pe (stepn Bb i.toNat) = pe Bb := stepn_pe _ _
      have bR := brnn_rng hIB i.toNat (p := pz) (by omega) (by omega)
      refine lv_iload_n X.1 X.2.1 dX4_trialGoesAs_2 rfl (lv_at hl 3 rfl) ?_
      refine lv_aload_n X.1 X.2.1 dX4_trialGoesAs_3 rfl (lv_at hl 1 rfl) ?_
      refine z_get X h 0 41 1 rfl inX0 rfl (by decide) fl_X4_192 rfl dX4_trialGoesAs_4 ?_
      refine z_ic_ge (tgt := 44) X ⟨by omega, by omega⟩ ⟨by omega, by omega⟩ dX4_trialGoesAs_7 (by decide) (fun c_7 => ?_) (fun c_7 => ?_)
      · refine z_iconst X dX4_trialGoesAs_44 ?_
        exact ret _ _ _ _ _ ((iv (hr (stepn Bb i.toNat))), (iv (pe (stepn Bb i.toNat))), (g1, g2, g3, g4, g5, g6, g7, g8, g9)) h (Or.inr rfl) (congrArg iv (bz_t (by rw [show sq 3 = i by omega]; exact hb)).symm) dX4_trialGoesAs_45
      · refine lv_aload_n X.1 X.2.1 dX4_trialGoesAs_10 rfl (lv_at hl 1 rfl) ?_
        refine z_get X h 0 41 2 rfl inX0 rfl (by decide) fl_X4_198 rfl dX4_trialGoesAs_11 ?_
        refine lv_iload_n X.1 X.2.1 dX4_trialGoesAs_14 rfl (lv_at hl 3 rfl) ?_
        refine z_laldv (v := cq 3 i) X h 42 rfl (by omega) (by omega) (by decide) (hH3.2.2 i (by omega) (by omega)) dX4_trialGoesAs_15 ?_
        refine lv_aload_n X.1 X.2.1 dX4_trialGoesAs_16 rfl (lv_at hl 0 rfl) ?_
        refine z_get X h 3 0 1 rfl inX4 rfl (by decide) fl_X4_16 rfl dX4_trialGoesAs_17 ?_
        refine lv_iload_n X.1 X.2.1 dX4_trialGoesAs_20 rfl (lv_at hl 2 rfl) ?_
        refine z_pi (run_V (rest := [.long (cq 3 i)]) X (st_in (st_in (st_in (st_nil h)))) (c_X1_brownOf (p := pz) hv (stepn_IA hIB i.toNat) (by omega) (by omega)) mi_X1_brownOf ml_X4_128 ⟨Nat.le_of_ble_eq_true rfl, Nat.le_of_ble_eq_true rfl⟩ ⟨rfl, rfl⟩ (Seg.mk' _ _) 1 23 rfl rfl rfl rfl hl.1 rfl (Nat.le_of_ble_eq_true rfl) ⟨Nat.zero_le _, Nat.zero_le _⟩ dX4_trialGoesAs_21) ?_
        refine lv_i2l (v := (iv (brn (stepn Bb i.toNat) pz)).toInt64) X.1 X.2.1 dX4_trialGoesAs_24 rfl ?_
        refine z_lcmp (a := (cq 3 i).toInt) (b := brn (stepn Bb i.toNat) pz) X rfl (i64_iv ⟨by omega, by omega⟩) dX4_trialGoesAs_25 ?_
        refine z_ifc_eq (tgt := 31) X dX4_trialGoesAs_26 (by decide) (fun c_26 => ?_) (fun c_26 => ?_)
        · refine lv_aload_n X.1 X.2.1 dX4_trialGoesAs_31 rfl (lv_at hl 0 rfl) ?_
          refine z_get X h 3 0 1 rfl inX4 rfl (by decide) fl_X4_16 rfl dX4_trialGoesAs_32 ?_
          refine z_wv (st_in (st_in (st_in (st_nil h)))) (run_V (rest := []) X (st_in (st_in (st_in (st_nil h)))) (c_X1_passHour hv (stepn_IA hIB i.toNat) (show hr (stepn Bb i.toNat) < 1000000 by rw [stepn_hr]; omega)) mi_X1_passHour ml_X4_153 ⟨Nat.le_of_ble_eq_true rfl, Nat.le_of_ble_eq_true rfl⟩ ⟨rfl, rfl⟩ (Seg.mk' _ _) 1 23 rfl rfl rfl rfl hl.1 rfl (Nat.le_of_ble_eq_true rfl) ⟨Nat.zero_le _, Nat.zero_le _⟩ dX4_trialGoesAs_35) (fun _ => wS_map _ _ _ _ _ _ _ _) (fun u H locs hp h => ?_)
          have h := (st_lin (st_out (st_out (st_out h))))
          obtain ⟨z0_1, z1_1, z2_1, z3_1, z4_1, z5_1, z6_1, z7_1, z8_1⟩ := u
          have h : St E _ s H locs (wO E a k b t x q ((iv (ik))) fd ++ (wS E k ((hk)) ((nk)) (k1, k2, k3, k4, k5, k6, k7, k8, k9) ++ (wS E b ((iv (hr A))) ((iv (pe A))) (xs, xi, xk, xc, xl, xr, xb, yl, yr) ++ (wS E t ((iv (hr (step (stepn Bb i.toNat))))) ((iv (pe (step (stepn Bb i.toNat))))) (z0_1, z1_1, z2_1, z3_1, z4_1, z5_1, z6_1, z7_1, z8_1) ++ (wX E x ((iv (tn))) ((e1)) ((e2)) ((e3)) ((e4)) tp ++ (wH E (q 0) ((iv (bq 0))) ((iv (sq 0))) c0 ++ (wH E (q 1) ((iv (bq 1))) ((iv (sq 1))) c1 ++ (wH E (q 2) ((iv (bq 2))) ((iv (sq 2))) c2 ++ (wH E (q 3) ((iv (bq 3))) ((iv (sq 3))) c3 ++ []))))))))) := h
          have hR1 : RS (z0_1, z1_1, z2_1, z3_1, z4_1, z5_1, z6_1, z7_1, z8_1) (step (stepn Bb i.toNat)) := hp
          have es : step (stepn Bb i.toNat) = stepn Bb (i + 1).toNat := by rw [tn1 (by omega)]; rfl
          have h : St E (wO E a k b t x q ((iv (ik))) fd ++ (wS E k ((hk)) ((nk)) (k1, k2, k3, k4, k5, k6, k7, k8, k9) ++ (wS E b ((iv (hr A))) ((iv (pe A))) (xs, xi, xk, xc, xl, xr, xb, yl, yr) ++ (wS E t ((iv (hr Bb))) ((iv (pe Bb))) (t1, t2, t3, t4, t5, t6, t7, t8, t9) ++ (wX E x ((iv (tn))) ((e1)) ((e2)) ((e3)) ((e4)) tp ++ (wH E (q 0) ((iv (bq 0))) ((iv (sq 0))) c0 ++ (wH E (q 1) ((iv (bq 1))) ((iv (sq 1))) c1 ++ (wH E (q 2) ((iv (bq 2))) ((iv (sq 2))) c2 ++ (wH E (q 3) ((iv (bq 3))) ((iv (sq 3))) c3 ++ []))))))))) s H locs (wO E a k b t x q ((iv (ik))) fd ++ (wS E k ((hk)) ((nk)) (k1, k2, k3, k4, k5, k6, k7, k8, k9) ++ (wS E b ((iv (hr A))) ((iv (pe A))) (xs, xi, xk, xc, xl, xr, xb, yl, yr) ++ (wS E t ((iv (hr (stepn Bb (i + 1).toNat)))) ((iv (pe (stepn Bb (i + 1).toNat)))) (z0_1, z1_1, z2_1, z3_1, z4_1, z5_1, z6_1, z7_1, z8_1) ++ (wX E x ((iv (tn))) ((e1)) ((e2)) ((e3)) ((e4)) tp ++ (wH E (q 0) ((iv (bq 0))) ((iv (sq 0))) c0 ++ (wH E (q 1) ((iv (bq 1))) ((iv (sq 1))) c1 ++ (wH E (q 2) ((iv (bq 2))) ((iv (sq 2))) c2 ++ (wH E (q 3) ((iv (bq 3))) ((iv (sq 3))) c3 ++ []))))))))) := by rw [← es]; exact h
          have tR9 : RS (z0_1, z1_1, z2_1, z3_1, z4_1, z5_1, z6_1, z7_1, z8_1) (stepn Bb (i + 1).toNat) := by rw [← es]; exact hR1
          refine z_iinc (k := 3) (lv' := [(3, .int (iv (i + 1))), (0, .ref (a 0)), (1, .ref (q 3 0)), (2, .int (iv (pz)))]) X dX4_trialGoesAs_38 hl rfl (by decide) rfl (fun ls hl => ?_)
          refine lv_goto (tgt := 2) X.1 X.2.1 dX4_trialGoesAs_41 (by decide) ?_
          exact ih_2 (i + 1) (z0_1) (z1_1) (z2_1) (z3_1) (z4_1) (z5_1) (z6_1) (z7_1) (z8_1) (by omega) (by omega) (tR9) (isb_y i0 hb (by omega)) (by omega) _ _ h ls (lv_sub hl [1, 2, 3, 0] rfl)
        · refine z_iconst X dX4_trialGoesAs_29 ?_
          exact ret _ _ _ _ _ ((iv (hr (stepn Bb i.toNat))), (iv (pe (stepn Bb i.toNat))), (g1, g2, g3, g4, g5, g6, g7, g8, g9)) h (Or.inl rfl) (congrArg iv (bz_f (by rw [isb_end (i := i + 1) (by omega) (by omega) (isb_n i0 (by omega))]; decide)).symm) dX4_trialGoesAs_30
  exact L2 ((sq 3 - (0) : Int).toNat + 1) (0) (t1) (t2) (t3) (t4) (t5) (t6) (t7) (t8) (t9) (by omega) (by omega) (hRB) (rfl) (by omega) _ _ h ls (lv_sub hl [1, 2, 3, 0] rfl)

set_option maxHeartbeats 4000000 in
theorem c_X4_read_0 (hS : RepC (((iv (ik)), fd), ((hk), (nk), (k1, k2, k3, k4, k5, k6, k7, k8, k9)), ((iv (hr A)), (iv (pe A)), (xs, xi, xk, xc, xl, xr, xb, yl, yr)), ((ht), (nt), (t1, t2, t3, t4, t5, t6, t7, t8, t9)), ((iv (tn)), (e1), (e2), (e3), (e4), tp), ((iv (bq 0)), (iv (sq 0)), c0), ((iv (bq 1)), (iv (sq 1)), c1), ((iv (bq 2)), (iv (sq 2)), c2), ((iv (bq 3)), (iv (sq 3)), c3)) (A, K, ik, ph, tq, tn, bq, sq, cq)) {px : Int} (r_px : r32 px) {po : Int} (r_po : r32 po) : MI (S := Tc) E l yX4_read cX4_read 8 (some FieldType.int) (rmk 5 112) (wO E a k b t x q ((iv (ik))) fd ++ (wS E k ((hk)) ((nk)) (k1, k2, k3, k4, k5, k6, k7, k8, k9) ++ (wS E b ((iv (hr A))) ((iv (pe A))) (xs, xi, xk, xc, xl, xr, xb, yl, yr) ++ (wS E t ((ht)) ((nt)) (t1, t2, t3, t4, t5, t6, t7, t8, t9) ++ (wX E x ((iv (tn))) ((e1)) ((e2)) ((e3)) ((e4)) tp ++ (wH E (q 0) ((iv (bq 0))) ((iv (sq 0))) c0 ++ (wH E (q 1) ((iv (bq 1))) ((iv (sq 1))) c1 ++ (wH E (q 2) ((iv (bq 2))) ((iv (sq 2))) c2 ++ (wH E (q 3) ((iv (bq 3))) ((iv (sq 3))) c3 ++ []))))))))) [.ref (a 0), .int (iv (0)), .int (iv (px)), .int (iv (po))] (fun r u => r = iv ((q_read A bq sq cq ph 0 px po).1) ∧ RepC u (A, K, ik, (q_read A bq sq cq ph 0 px po).2, tq, tn, bq, sq, cq)) (fun u => wT E a k b t x q u) := by
  refine goI (S := Tc) (post := fun r u => r = iv ((q_read A bq sq cq ph 0 px po).1) ∧ RepC u (A, K, ik, (q_read A bq sq cq ph 0 px po).2, tq, tn, bq, sq, cq)) (ws' := fun u => wT E a k b t x q u) (by decide) (Nat.le_of_ble_eq_true rfl) ?_
  intro pp e s m below meth c ls args Q ret X h hl
  have hl : lv_has ls 8 [(0, .ref (a 0)), (1, .int (iv (0))), (2, .int (iv (px))), (3, .int (iv (po)))] := hl
  have hR : RS (xs, xi, xk, xc, xl, xr, xb, yl, yr) A := hS.1.2.2.1
  have hI : IA A := hS.1.2.2.2.1
  have hr9 : hr A ≤ 99999 := hS.1.2.2.2.2
  have hF : RF 7 fd ph := hS.2.2.1
  have hK := hS.2.1
  have hT := hS.2.2.2.1
  have hB := hS.2.2.2.2
  have hh : hr A < 1000000 := by omega
  have n8 := hI.n8
  have n0 := hI.n0
  have h0 := hI.h0
  have ht0 : 0 ≤ tn := hS.2.2.2.1.2.1
  have ht1 : tn ≤ 120 := hS.2.2.2.1.2.2.1
  have hk01 : ik = 0 ∨ ik = 1 := hS.2.1.2.1
  have hB3 : okB bq sq := hS.2.2.2.2.1
  have hH0 : RepH (iv (bq 0), iv (sq 0), c0) bq sq cq 0 := hS.2.2.2.2.2.1
  have hH1 : RepH (iv (bq 1), iv (sq 1), c1) bq sq cq 1 := hS.2.2.2.2.2.2.1
  have hH2 : RepH (iv (bq 2), iv (sq 2), c2) bq sq cq 2 := hS.2.2.2.2.2.2.2.1
  have hH3 : RepH (iv (bq 3), iv (sq 3), c3) bq sq cq 3 := hS.2.2.2.2.2.2.2.2
  have ob0 := hB3.1 0 (by omega) (by omega)
  have zb0 := hB3.2 0 (by omega) (by omega)
  refine lv_aload_n X.1 X.2.1 dX4_read_0 rfl (lv_at hl 0 rfl) ?_
  refine lv_iload_n X.1 X.2.1 dX4_read_1 rfl (lv_at hl 1 rfl) ?_
  refine z_pq (run_V (rest := []) X h (c_sheetAt0) mi_X4_sheetAt ml_X4_184 ⟨Nat.le_of_ble_eq_true rfl, Nat.le_of_ble_eq_true rfl⟩ ⟨rfl, rfl⟩ (Seg.rfl' _) 3 0 rfl rfl rfl rfl hl.1 rfl (Nat.le_of_ble_eq_true rfl) ⟨Nat.zero_le _, Nat.zero_le _⟩ dX4_read_2) ?_
  refine W.eq (g2 := F0 m 5 ls [.ref (q 0 0)]) rfl ?_
  refine lv_astore (lv' := [(4, .ref (q 0 0)), (0, .ref (a 0)), (1, .int (iv (0))), (2, .int (iv (px))), (3, .int (iv (po)))]) X.1 X.2.1 dX4_read_5 hl (by decide) rfl (fun ls hl => ?_)
  refine lv_aload X.1 X.2.1 dX4_read_7 (lv_at hl 0 rfl) ?_
  refine lv_ifnonnull (tgt := 19) X.1 X.2.1 dX4_read_9 (by decide) ?_
  refine lv_aload X.1 X.2.1 dX4_read_19 (lv_at hl 0 rfl) ?_
  refine z_pi (run_V (rest := []) X (st_sing (st_in (st_in (st_in (st_in (st_in (st_nil h))))))) (c_X0_isMissing (y := q 0) (bt := bq 0) ⟨by omega, by omega⟩) mi_X0_isMissing ml_X4_193 ⟨Nat.le_of_ble_eq_true rfl, Nat.le_of_ble_eq_true rfl⟩ ⟨rfl, rfl⟩ (Seg.mk' _ _) 0 35 rfl rfl rfl rfl hl.1 rfl (Nat.le_of_ble_eq_true rfl) ⟨Nat.zero_le _, Nat.zero_le _⟩ dX4_read_21) ?_
  refine z_ifb_eq (tgt := 34) X dX4_read_24 (by decide) (fun c_24 => ?_) (fun c_24 => ?_)
  · refine lv_aload_n X.1 X.2.1 dX4_read_34 rfl (lv_at hl 1 rfl) ?_
    refine lv_iload_n X.1 X.2.1 dX4_read_35 rfl (lv_at hl 3 rfl) ?_
    refine z_pi (run_V (rest := []) X h (c_X4_isPerson (p := px) hI r_px) mi_X4_isPerson ml_X4_94 ⟨Nat.le_of_ble_eq_true rfl, Nat.le_of_ble_eq_true rfl⟩ ⟨rfl, rfl⟩ (Seg.rfl' _) 3 0 rfl rfl rfl rfl hl.1 rfl (Nat.le_of_ble_eq_true rfl) ⟨Nat.zero_le _, Nat.zero_le _⟩ dX4_read_36) ?_
    refine z_ifb_eq (tgt := 55) X dX4_read_39 (by decide) (fun c_39 => ?_) (fun c_39 => ?_)
    · refine lv_aload_n X.1 X.2.1 dX4_read_55 rfl (lv_at hl 1 rfl) ?_
      refine z_ldc (z := (-1000000001)) X ct_X4_48 (by decide) dX4_read_56 ?_
      refine z_wi (st_sing (st_nil h)) (run_V (rest := []) X (st_sing (st_nil h)) (c_X4_finding (j := 0) hF (by decide) (by decide) (by decide)) mi_X4_finding ml_X4_49 ⟨Nat.le_of_ble_eq_true rfl, Nat.le_of_ble_eq_true rfl⟩ ⟨rfl, rfl⟩ (Seg.mk' _ _) 3 0 rfl rfl rfl rfl hl.1 rfl (Nat.le_of_ble_eq_true rfl) ⟨Nat.zero_le _, Nat.zero_le _⟩ dX4_read_58) (fun _ => map_app (wO_map _ _ _ _ _ _ _ _ _ _ _) rfl) (fun r fd1 H locs hp h => ?_)
      have h := (st_lin (st_gnis h))
      obtain ⟨rfl, hF1⟩ := hp
      have h : St E _ s H locs (wO E a k b t x q ((iv (ik))) fd1 ++ (wS E k ((hk)) ((nk)) (k1, k2, k3, k4, k5, k6, k7, k8, k9) ++ (wS E b ((iv (hr A))) ((iv (pe A))) (xs, xi, xk, xc, xl, xr, xb, yl, yr) ++ (wS E t ((ht)) ((nt)) (t1, t2, t3, t4, t5, t6, t7, t8, t9) ++ (wX E x ((iv (tn))) ((e1)) ((e2)) ((e3)) ((e4)) tp ++ (wH E (q 0) ((iv (bq 0))) ((iv (sq 0))) c0 ++ (wH E (q 1) ((iv (bq 1))) ((iv (sq 1))) c1 ++ (wH E (q 2) ((iv (bq 2))) ((iv (sq 2))) c2 ++ (wH E (q 3) ((iv (bq 3))) ((iv (sq 3))) c3 ++ []))))))))) := h
      have e9 : q_read A bq sq cq ph 0 px po = ((-1000000001), (bump ph 0)) := by unfold q_read; (repeat (first | rw [if_pos (by omega)] | rw [if_neg (by omega)])); try rfl
      exact ret _ _ _ _ _ (((iv (ik)), fd1), ((hk), (nk), (k1, k2, k3, k4, k5, k6, k7, k8, k9)), ((iv (hr A)), (iv (pe A)), (xs, xi, xk, xc, xl, xr, xb, yl, yr)), ((ht), (nt), (t1, t2, t3, t4, t5, t6, t7, t8, t9)), ((iv (tn)), (e1), (e2), (e3), (e4), tp), ((iv (bq 0)), (iv (sq 0)), c0), ((iv (bq 1)), (iv (sq 1)), c1), ((iv (bq 2)), (iv (sq 2)), c2), ((iv (bq 3)), (iv (sq 3)), c3)) h (by rw [e9]; exact ⟨rfl, ⟨⟨rfl, rfl, hR, hI, hr9⟩, hK, hF1, hT, hB⟩⟩) dX4_read_61
    · refine lv_aload_n X.1 X.2.1 dX4_read_42 rfl (lv_at hl 1 rfl) ?_
      refine lv_iload_n X.1 X.2.1 dX4_read_43 rfl (lv_at hl 4 rfl) ?_
      refine z_pi (run_V (rest := []) X h (c_X4_isPerson (p := po) hI r_po) mi_X4_isPerson ml_X4_94 ⟨Nat.le_of_ble_eq_true rfl, Nat.le_of_ble_eq_true rfl⟩ ⟨rfl, rfl⟩ (Seg.rfl' _) 3 0 rfl rfl rfl rfl hl.1 rfl (Nat.le_of_ble_eq_true rfl) ⟨Nat.zero_le _, Nat.zero_le _⟩ dX4_read_44) ?_
      refine z_ifb_eq (tgt := 55) X dX4_read_47 (by decide) (fun c_47 => ?_) (fun c_47 => ?_)
      · refine lv_aload_n X.1 X.2.1 dX4_read_55 rfl (lv_at hl 1 rfl) ?_
        refine z_ldc (z := (-1000000001)) X ct_X4_48 (by decide) dX4_read_56 ?_
        refine z_wi (st_sing (st_nil h)) (run_V (rest := []) X (st_sing (st_nil h)) (c_X4_finding (j := 0) hF (by decide) (by decide) (by decide)) mi_X4_finding ml_X4_49 ⟨Nat.le_of_ble_eq_true rfl, Nat.le_of_ble_eq_true rfl⟩ ⟨rfl, rfl⟩ (Seg.mk' _ _) 3 0 rfl rfl rfl rfl hl.1 rfl (Nat.le_of_ble_eq_true rfl) ⟨Nat.zero_le _, Nat.zero_le _⟩ dX4_read_58) (fun _ => map_app (wO_map _ _ _ _ _ _ _ _ _ _ _) rfl) (fun r fd2 H locs hp h => ?_)
        have h := (st_lin (st_gnis h))
        obtain ⟨rfl, hF2⟩ := hp
        have h : St E _ s H locs (wO E a k b t x q ((iv (ik))) fd2 ++ (wS E k ((hk)) ((nk)) (k1, k2, k3, k4, k5, k6, k7, k8, k9) ++ (wS E b ((iv (hr A))) ((iv (pe A))) (xs, xi, xk, xc, xl, xr, xb, yl, yr) ++ (wS E t ((ht)) ((nt)) (t1, t2, t3, t4, t5, t6, t7, t8, t9) ++ (wX E x ((iv (tn))) ((e1)) ((e2)) ((e3)) ((e4)) tp ++ (wH E (q 0) ((iv (bq 0))) ((iv (sq 0))) c0 ++ (wH E (q 1) ((iv (bq 1))) ((iv (sq 1))) c1 ++ (wH E (q 2) ((iv (bq 2))) ((iv (sq 2))) c2 ++ (wH E (q 3) ((iv (bq 3))) ((iv (sq 3))) c3 ++ []))))))))) := h
        have e9 : q_read A bq sq cq ph 0 px po = ((-1000000001), (bump ph 0)) := by unfold q_read; (repeat (first | rw [if_pos (by omega)] | rw [if_neg (by omega)])); try rfl
        exact ret _ _ _ _ _ (((iv (ik)), fd2), ((hk), (nk), (k1, k2, k3, k4, k5, k6, k7, k8, k9)), ((iv (hr A)), (iv (pe A)), (xs, xi, xk, xc, xl, xr, xb, yl, yr)), ((ht), (nt), (t1, t2, t3, t4, t5, t6, t7, t8, t9)), ((iv (tn)), (e1), (e2), (e3), (e4), tp), ((iv (bq 0)), (iv (sq 0)), c0), ((iv (bq 1)), (iv (sq 1)), c1), ((iv (bq 2)), (iv (sq 2)), c2), ((iv (bq 3)), (iv (sq 3)), c3)) h (by rw [e9]; exact ⟨rfl, ⟨⟨rfl, rfl, hR, hI, hr9⟩, hK, hF2, hT, hB⟩⟩) dX4_read_61
      · refine lv_iload_n X.1 X.2.1 dX4_read_50 rfl (lv_at hl 3 rfl) ?_
        refine lv_iload_n X.1 X.2.1 dX4_read_51 rfl (lv_at hl 4 rfl) ?_
        refine z_ic_ne (tgt := 62) X r_px r_po dX4_read_52 (by decide) (fun c_52 => ?_) (fun c_52 => ?_)
        · refine z_iconst X dX4_read_62 ?_
          refine lv_istore (lv' := [(5, .int (iv (0))), (4, .ref (q 0 0)), (0, .ref (a 0)), (1, .int (iv (0))), (2, .int (iv (px))), (3, .int (iv (po)))]) X.1 X.2.1 dX4_read_63 hl (by decide) rfl (fun ls hl => ?_)
          refine z_iconst X dX4_read_65 ?_
          refine lv_istore (lv' := [(6, .int (iv (0))), (5, .int (iv (0))), (4, .ref (q 0 0)), (0, .ref (a 0)), (1, .int (iv (0))), (2, .int (iv (px))), (3, .int (iv (po)))]) X.1 X.2.1 dX4_read_66 hl (by decide) rfl (fun ls hl => ?_)
          have L68 : ∀ (fuel_ : Nat) (kk : Int) (nn : Int) (th : Int32) (tm : Int32) (g1 : Nat → Int32) (g2 : Nat → Int32) (g3 : Nat → Int32) (g4 : Nat → Int32) (g5 : Nat → Int32) (g6 : Nat → Int32) (g7 : Nat → Int32) (g8 : Nat → Int32) (g9 : Nat → Int32), (0 ≤ kk) → (kk ≤ 6) → (nn = cntk (pairB A cq sq 0 px po) (6 * kk).toNat) → 6 - kk < (fuel_ : Int) → ∀ (H : Heap) (locs : List Loc), St E (wO E a k b t x q ((iv (ik))) fd ++ (wS E k ((hk)) ((nk)) (k1, k2, k3, k4, k5, k6, k7, k8, k9) ++ (wS E b ((iv (hr A))) ((iv (pe A))) (xs, xi, xk, xc, xl, xr, xb, yl, yr) ++ (wS E t ((ht)) ((nt)) (t1, t2, t3, t4, t5, t6, t7, t8, t9) ++ (wX E x ((iv (tn))) ((e1)) ((e2)) ((e3)) ((e4)) tp ++ (wH E (q 0) ((iv (bq 0))) ((iv (sq 0))) c0 ++ (wH E (q 1) ((iv (bq 1))) ((iv (sq 1))) c1 ++ (wH E (q 2) ((iv (bq 2))) ((iv (sq 2))) c2 ++ (wH E (q 3) ((iv (bq 3))) ((iv (sq 3))) c3 ++ []))))))))) s H locs (wO E a k b t x q ((iv (ik))) fd ++ (wS E k ((hk)) ((nk)) (k1, k2, k3, k4, k5, k6, k7, k8, k9) ++ (wS E b ((iv (hr A))) ((iv (pe A))) (xs, xi, xk, xc, xl, xr, xb, yl, yr) ++ (wS E t ((th)) ((tm)) (g1, g2, g3, g4, g5, g6, g7, g8, g9) ++ (wX E x ((iv (tn))) ((e1)) ((e2)) ((e3)) ((e4)) tp ++ (wH E (q 0) ((iv (bq 0))) ((iv (sq 0))) c0 ++ (wH E (q 1) ((iv (bq 1))) ((iv (sq 1))) c1 ++ (wH E (q 2) ((iv (bq 2))) ((iv (sq 2))) c2 ++ (wH E (q 3) ((iv (bq 3))) ((iv (sq 3))) c3 ++ []))))))))) → ∀ ls : Array Slot, lv_has ls 8 [(4, .ref (q 0 0)), (0, .ref (a 0)), (1, .int (iv (0))), (2, .int (iv (px))), (3, .int (iv (po))), (5, .int (iv (nn))), (6, .int (iv (kk)))] → W pp l e (rmk 5 112) s m args below meth c H locs 0 0 Q (F0 m 68 ls []) := by
            intro fuel_
            induction fuel_ with
            | zero =>
              intro kk nn th tm g1 g2 g3 g4 g5 g6 g7 g8 g9 k0 k1_ hk9 hn
              exfalso; omega
            | succ fuel_ ih_68 =>
              intro kk nn th tm g1 g2 g3 g4 g5 g6 g7 g8 g9 k0 k1_ hk9 hn H locs h ls hl
              refine lv_iload X.1 X.2.1 dX4_read_68 (lv_at hl 6 rfl) ?_
              refine z_bipush X (by decide) dX4_read_70 ?_
              refine z_ic_ge (tgt := 136) X ⟨by omega, by omega⟩ ⟨by decide, by decide⟩ dX4_read_72 (by decide) (fun c_72 => ?_) (fun c_72 => ?_)
              · refine lv_iload X.1 X.2.1 dX4_read_136 (lv_at hl 5 rfl) ?_
                have e9 : q_read A bq sq cq ph 0 px po = (nn, ph) := by unfold q_read; rw [if_neg (by omega), if_neg (by omega), if_neg (by omega), hk9, show kk = 6 by omega]; rfl
                exact ret _ _ _ _ _ (((iv (ik)), fd), ((hk), (nk), (k1, k2, k3, k4, k5, k6, k7, k8, k9)), ((iv (hr A)), (iv (pe A)), (xs, xi, xk, xc, xl, xr, xb, yl, yr)), ((th), (tm), (g1, g2, g3, g4, g5, g6, g7, g8, g9)), ((iv (tn)), (e1), (e2), (e3), (e4), tp), ((iv (bq 0)), (iv (sq 0)), c0), ((iv (bq 1)), (iv (sq 1)), c1), ((iv (bq 2)), (iv (sq 2)), c2), ((iv (bq 3)), (iv (sq 3)), c3)) h (by rw [e9]; exact ⟨rfl, ⟨⟨rfl, rfl, hR, hI, hr9⟩, hK, hF, hT, hB⟩⟩) dX4_read_138
              · refine z_iconst X dX4_read_75 ?_
                refine lv_istore (lv' := [(7, .int (iv (0))), (4, .ref (q 0 0)), (0, .ref (a 0)), (1, .int (iv (0))), (2, .int (iv (px))), (3, .int (iv (po))), (5, .int (iv (nn))), (6, .int (iv (kk)))]) X.1 X.2.1 dX4_read_76 hl (by decide) rfl (fun ls hl => ?_)
                have L78 : ∀ (fuel_ : Nat) (ll : Int) (n2 : Int) (th2 : Int32) (tm2 : Int32) (d1 : Nat → Int32) (d2 : Nat → Int32) (d3 : Nat → Int32) (d4 : Nat → Int32) (d5 : Nat → Int32) (d6 : Nat → Int32) (d7 : Nat → Int32) (d8 : Nat → Int32) (d9 : Nat → Int32), (0 ≤ ll) → (ll ≤ 6) → (n2 = cntk (pairB A cq sq 0 px po) (6 * kk + ll).toNat) → 6 - ll < (fuel_ : Int) → ∀ (H : Heap) (locs : List Loc), St E (wO E a k b t x q ((iv (ik))) fd ++ (wS E k ((hk)) ((nk)) (k1, k2, k3, k4, k5, k6, k7, k8, k9) ++ (wS E b ((iv (hr A))) ((iv (pe A))) (xs, xi, xk, xc, xl, xr, xb, yl, yr) ++ (wS E t ((ht)) ((nt)) (t1, t2, t3, t4, t5, t6, t7, t8, t9) ++ (wX E x ((iv (tn))) ((e1)) ((e2)) ((e3)) ((e4)) tp ++ (wH E (q 0) ((iv (bq 0))) ((iv (sq 0))) c0 ++ (wH E (q 1) ((iv (bq 1))) ((iv (sq 1))) c1 ++ (wH E (q 2) ((iv (bq 2))) ((iv (sq 2))) c2 ++ (wH E (q 3) ((iv (bq 3))) ((iv (sq 3))) c3 ++ []))))))))) s H locs (wO E a k b t x q ((iv (ik))) fd ++ (wS E k ((hk)) ((nk)) (k1, k2, k3, k4, k5, k6, k7, k8, k9) ++ (wS E b ((iv (hr A))) ((iv (pe A))) (xs, xi, xk, xc, xl, xr, xb, yl, yr) ++ (wS E t ((th2)) ((tm2)) (d1, d2, d3, d4, d5, d6, d7, d8, d9) ++ (wX E x ((iv (tn))) ((e1)) ((e2)) ((e3)) ((e4)) tp ++ (wH E (q 0) ((iv (bq 0))) ((iv (sq 0))) c0 ++ (wH E (q 1) ((iv (bq 1))) ((iv (sq 1))) c1 ++ (wH E (q 2) ((iv (bq 2))) ((iv (sq 2))) c2 ++ (wH E (q 3) ((iv (bq 3))) ((iv (sq 3))) c3 ++ []))))))))) → ∀ ls : Array Slot, lv_has ls 8 [(4, .ref (q 0 0)), (0, .ref (a 0)), (1, .int (iv (0))), (2, .int (iv (px))), (3, .int (iv (po))), (6, .int (iv (kk))), (5, .int (iv (n2))), (7, .int (iv (ll)))] → W pp l e (rmk 5 112) s m args below meth c H locs 0 0 Q (F0 m 78 ls []) := by
                  intro fuel_
                  induction fuel_ with
                  | zero =>
                    intro ll n2 th2 tm2 d1 d2 d3 d4 d5 d6 d7 d8 d9 l0 l1 hk2 hn
                    exfalso; omega
                  | succ fuel_ ih_78 =>
                    intro ll n2 th2 tm2 d1 d2 d3 d4 d5 d6 d7 d8 d9 l0 l1 hk2 hn H locs h ls hl
                    refine lv_iload X.1 X.2.1 dX4_read_78 (lv_at hl 7 rfl) ?_
                    refine z_bipush X (by decide) dX4_read_80 ?_
                    refine z_ic_ge (tgt := 130) X ⟨by omega, by omega⟩ ⟨by decide, by decide⟩ dX4_read_82 (by decide) (fun c_82 => ?_) (fun c_82 => ?_)
                    · refine z_iinc (k := 5) (lv' := [(6, .int (iv (kk + 1))), (4, .ref (q 0 0)), (0, .ref (a 0)), (1, .int (iv (0))), (2, .int (iv (px))), (3, .int (iv (po))), (5, .int (iv (n2))), (7, .int (iv (ll)))]) X dX4_read_130 hl rfl (by decide) rfl (fun ls hl => ?_)
                      refine lv_goto (tgt := 68) X.1 X.2.1 dX4_read_133 (by decide) ?_
                      exact ih_68 (kk + 1) (n2) ((th2)) ((tm2)) (d1) (d2) (d3) (d4) (d5) (d6) (d7) (d8) (d9) (by omega) (by omega) (by rw [hk2, show 6 * (kk + 1) = 6 * kk + ll by omega]) (by omega) _ _ h ls (lv_sub hl [1, 2, 3, 4, 5, 6, 0] rfl)
                    · refine lv_aload_n X.1 X.2.1 dX4_read_85 rfl (lv_at hl 1 rfl) ?_
                      refine z_av h (run_V (rest := []) X h (c_X4_startTrial hR hI.n8) mi_X4_startTrial ml_X4_150 ⟨Nat.le_of_ble_eq_true rfl, Nat.le_of_ble_eq_true rfl⟩ ⟨rfl, rfl⟩ (Seg.rfl' _) 3 0 rfl rfl rfl rfl hl.1 rfl (Nat.le_of_ble_eq_true rfl) ⟨Nat.zero_le _, Nat.zero_le _⟩ dX4_read_86) (fun _ => map_app rfl (map_app rfl (map_app rfl (map_app (wS_map _ _ _ _ _ _ _ _) rfl)))) (fun u H locs hp h => ?_)
                      obtain ⟨r0_3, r1_3, r2_3, r3_3, r4_3, r5_3, r6_3, r7_3, r8_3⟩ := u
                      have h : St E _ s H locs (wO E a k b t x q ((iv (ik))) fd ++ (wS E k ((hk)) ((nk)) (k1, k2, k3, k4, k5, k6, k7, k8, k9) ++ (wS E b ((iv (hr A))) ((iv (pe A))) (xs, xi, xk, xc, xl, xr, xb, yl, yr) ++ (wS E t ((iv (hr A))) ((iv (pe A))) (r0_3, r1_3, r2_3, r3_3, r4_3, r5_3, r6_3, r7_3, r8_3) ++ (wX E x ((iv (tn))) ((e1)) ((e2)) ((e3)) ((e4)) tp ++ (wH E (q 0) ((iv (bq 0))) ((iv (sq 0))) c0 ++ (wH E (q 1) ((iv (bq 1))) ((iv (sq 1))) c1 ++ (wH E (q 2) ((iv (bq 2))) ((iv (sq 2))) c2 ++ (wH E (q 3) ((iv (bq 3))) ((iv (sq 3))) c3 ++ []))))))))) := h
                      have hRb3 : RS (r0_3, r1_3, r2_3, r3_3, r4_3, r5_3, r6_3, r7_3, r8_3) A := hp
                      refine lv_aload_n X.1 X.2.1 dX4_read_89 rfl (lv_at hl 1 rfl) ?_
                      refine z_get X h 3 0 1 rfl inX4 rfl (by decide) fl_X4_16 rfl dX4_read_90 ?_
                      refine z_get X h 1 23 4 rfl inX1 rfl (by decide) fl_X4_97 rfl dX4_read_93 ?_
                      refine lv_iload_n X.1 X.2.1 dX4_read_96 rfl (lv_at hl 3 rfl) ?_
                      refine lv_iload X.1 X.2.1 dX4_read_97 (lv_at hl 5 rfl) ?_
                      refine s_iast X (st_in (st_in (st_in (st_nil h)))) 3 rfl (by omega) (by omega) (by decide) dX4_read_99 (fun H locs h => ?_)
                      have h := (st_lin (st_out (st_out (st_out (st_eq wS_kinds h)))))
                      have h : St E _ s H locs (wO E a k b t x q ((iv (ik))) fd ++ (wS E k ((hk)) ((nk)) (k1, k2, k3, k4, k5, k6, k7, k8, k9) ++ (wS E b ((iv (hr A))) ((iv (pe A))) (xs, xi, xk, xc, xl, xr, xb, yl, yr) ++ (wS E t ((iv (hr A))) ((iv (pe A))) (r0_3, r1_3, (upd r2_3 (px : Int).toNat (iv (kk))), r3_3, r4_3, r5_3, r6_3, r7_3, r8_3) ++ (wX E x ((iv (tn))) ((e1)) ((e2)) ((e3)) ((e4)) tp ++ (wH E (q 0) ((iv (bq 0))) ((iv (sq 0))) c0 ++ (wH E (q 1) ((iv (bq 1))) ((iv (sq 1))) c1 ++ (wH E (q 2) ((iv (bq 2))) ((iv (sq 2))) c2 ++ (wH E (q 3) ((iv (bq 3))) ((iv (sq 3))) c3 ++ []))))))))) := h
                      have tR1 : RS (r0_3, r1_3, (upd r2_3 (px : Int).toNat (iv (kk))), r3_3, r4_3, r5_3, r6_3, r7_3, r8_3) (pu A 0 px kk) := RS_ki hRb3 n0 (by omega)
                      refine lv_aload_n X.1 X.2.1 dX4_read_100 rfl (lv_at hl 1 rfl) ?_
                      refine z_get X h 3 0 1 rfl inX4 rfl (by decide) fl_X4_16 rfl dX4_read_101 ?_
                      refine z_get X h 1 23 4 rfl inX1 rfl (by decide) fl_X4_97 rfl dX4_read_104 ?_
                      refine lv_iload_n X.1 X.2.1 dX4_read_107 rfl (lv_at hl 4 rfl) ?_
                      refine lv_iload X.1 X.2.1 dX4_read_108 (lv_at hl 7 rfl) ?_
                      refine s_iast X (st_in (st_in (st_in (st_nil h)))) 3 rfl (by omega) (by omega) (by decide) dX4_read_110 (fun H locs h => ?_)
                      have h := (st_lin (st_out (st_out (st_out (st_eq wS_kinds h)))))
                      have h : St E _ s H locs (wO E a k b t x q ((iv (ik))) fd ++ (wS E k ((hk)) ((nk)) (k1, k2, k3, k4, k5, k6, k7, k8, k9) ++ (wS E b ((iv (hr A))) ((iv (pe A))) (xs, xi, xk, xc, xl, xr, xb, yl, yr) ++ (wS E t ((iv (hr A))) ((iv (pe A))) (r0_3, r1_3, (upd (upd r2_3 (px : Int).toNat (iv (kk))) (po : Int).toNat (iv (ll))), r3_3, r4_3, r5_3, r6_3, r7_3, r8_3) ++ (wX E x ((iv (tn))) ((e1)) ((e2)) ((e3)) ((e4)) tp ++ (wH E (q 0) ((iv (bq 0))) ((iv (sq 0))) c0 ++ (wH E (q 1) ((iv (bq 1))) ((iv (sq 1))) c1 ++ (wH E (q 2) ((iv (bq 2))) ((iv (sq 2))) c2 ++ (wH E (q 3) ((iv (bq 3))) ((iv (sq 3))) c3 ++ []))))))))) := h
                      have tR2 : RS (r0_3, r1_3, (upd (upd r2_3 (px : Int).toNat (iv (kk))) (po : Int).toNat (iv (ll))), r3_3, r4_3, r5_3, r6_3, r7_3, r8_3) (pu (pu A 0 px kk) 0 po ll) := RS_ki tR1 n0 (by omega)
                      have tI2 : IA (pu (pu A 0 px kk) 0 po ll) := IA_pu (IA_pu hI (by omega) (by omega) (Or.inl ⟨rfl, by omega, by omega⟩)) (by omega) (show po < pe A by omega) (Or.inl ⟨rfl, by omega, by omega⟩)
                      have ep : pairB A cq sq 0 px po (6 * kk + ll) = isb (cq 0) (pu (pu A 0 px kk) 0 po ll) px (sq 0).toNat := by unfold pairB; rw [show (6 * kk + ll) / 6 = kk by omega, show (6 * kk + ll) % 6 = ll by omega]
                      refine lv_aload_n X.1 X.2.1 dX4_read_111 rfl (lv_at hl 1 rfl) ?_
                      refine lv_aload X.1 X.2.1 dX4_read_112 (lv_at hl 0 rfl) ?_
                      refine lv_iload_n X.1 X.2.1 dX4_read_114 rfl (lv_at hl 3 rfl) ?_
                      refine z_ai h (run_V (rest := []) X h (c_X4_trialGoesAs_0 (Bb := (pu (pu A 0 px kk) 0 po ll)) (pz := px) tR2 tI2 (show hr A < 200000 by omega) hH0 (by omega) (by omega) (by omega) (show px < pe A by omega)) mi_X4_trialGoesAs ml_X4_220 ⟨Nat.le_of_ble_eq_true rfl, Nat.le_of_ble_eq_true rfl⟩ ⟨rfl, rfl⟩ (Seg.rfl' _) 3 0 rfl rfl rfl rfl hl.1 rfl (Nat.le_of_ble_eq_true rfl) ⟨Nat.zero_le _, Nat.zero_le _⟩ dX4_read_115) (fun _ => map_app rfl (map_app rfl (map_app rfl (map_app (wS_map _ _ _ _ _ _ _ _) rfl)))) (fun r u H locs hp h => ?_)
                      obtain ⟨th4, tm4, r0_4, r1_4, r2_4, r3_4, r4_4, r5_4, r6_4, r7_4, r8_4⟩ := u
                      subst hp
                      have h : St E _ s H locs (wO E a k b t x q ((iv (ik))) fd ++ (wS E k ((hk)) ((nk)) (k1, k2, k3, k4, k5, k6, k7, k8, k9) ++ (wS E b ((iv (hr A))) ((iv (pe A))) (xs, xi, xk, xc, xl, xr, xb, yl, yr) ++ (wS E t ((th4)) ((tm4)) (r0_4, r1_4, r2_4, r3_4, r4_4, r5_4, r6_4, r7_4, r8_4) ++ (wX E x ((iv (tn))) ((e1)) ((e2)) ((e3)) ((e4)) tp ++ (wH E (q 0) ((iv (bq 0))) ((iv (sq 0))) c0 ++ (wH E (q 1) ((iv (bq 1))) ((iv (sq 1))) c1 ++ (wH E (q 2) ((iv (bq 2))) ((iv (sq 2))) c2 ++ (wH E (q 3) ((iv (bq 3))) ((iv (sq 3))) c3 ++ []))))))))) := h
                      refine z_ifb_eq (tgt := 124) X dX4_read_118 (by decide) (fun c_118 => ?_) (fun c_118 => ?_)
                      · have hy9 : ¬ pairB A cq sq 0 px po (6 * kk + ll) = true := by rw [ep]; exact c_118
                        refine z_iinc (k := 7) (lv' := [(7, .int (iv (ll + 1))), (4, .ref (q 0 0)), (0, .ref (a 0)), (1, .int (iv (0))), (2, .int (iv (px))), (3, .int (iv (po))), (6, .int (iv (kk))), (5, .int (iv (n2)))]) X dX4_read_124 hl rfl (by decide) rfl (fun ls hl => ?_)
                        refine lv_goto (tgt := 78) X.1 X.2.1 dX4_read_127 (by decide) ?_
                        exact ih_78 (ll + 1) (n2) ((th4)) ((tm4)) (r0_4) (r1_4) (r2_4) (r3_4) (r4_4) (r5_4) (r6_4) (r7_4) (r8_4) (by omega) (by omega) (by rw [show 6 * kk + (ll + 1) = 6 * kk + ll + 1 by omega, cntk_n (by omega) hy9, hk2]; omega) (by omega) _ _ h ls (lv_sub hl [1, 2, 3, 4, 5, 6, 7, 0] rfl)
                      · have hy9 : pairB A cq sq 0 px po (6 * kk + ll) = true := by rw [ep]; exact c_118
                        refine z_iinc (k := 6) (lv' := [(5, .int (iv (n2 + 1))), (4, .ref (q 0 0)), (0, .ref (a 0)), (1, .int (iv (0))), (2, .int (iv (px))), (3, .int (iv (po))), (6, .int (iv (kk))), (7, .int (iv (ll)))]) X dX4_read_121 hl rfl (by decide) rfl (fun ls hl => ?_)
                        refine z_iinc (k := 7) (lv' := [(7, .int (iv (ll + 1))), (5, .int (iv (n2 + 1))), (4, .ref (q 0 0)), (0, .ref (a 0)), (1, .int (iv (0))), (2, .int (iv (px))), (3, .int (iv (po))), (6, .int (iv (kk)))]) X dX4_read_124 hl rfl (by decide) rfl (fun ls hl => ?_)
                        refine lv_goto (tgt := 78) X.1 X.2.1 dX4_read_127 (by decide) ?_
                        exact ih_78 (ll + 1) (n2 + 1) ((th4)) ((tm4)) (r0_4) (r1_4) (r2_4) (r3_4) (r4_4) (r5_4) (r6_4) (r7_4) (r8_4) (by omega) (by omega) (by rw [show 6 * kk + (ll + 1) = 6 * kk + ll + 1 by omega, cntk_y (by omega) hy9, hk2]) (by omega) _ _ h ls (lv_sub hl [2, 3, 4, 5, 6, 7, 1, 0] rfl)
                exact L78 ((6 - (0) : Int).toNat + 1) (0) (nn) ((th)) ((tm)) (g1) (g2) (g3) (g4) (g5) (g6) (g7) (g8) (g9) (by omega) (by omega) (by rw [hk9, Int.add_zero]) (by omega) _ _ h ls (lv_sub hl [1, 2, 3, 4, 5, 7, 6, 0] rfl)
          exact L68 ((6 - (0) : Int).toNat + 1) (0) (0) ((ht)) ((nt)) (t1) (t2) (t3) (t4) (t5) (t6) (t7) (t8) (t9) (by omega) (by omega) (rfl) (by omega) _ _ h ls (lv_sub hl [2, 3, 4, 5, 6, 1, 0] rfl)
        · refine lv_aload_n X.1 X.2.1 dX4_read_55 rfl (lv_at hl 1 rfl) ?_
          refine z_ldc (z := (-1000000001)) X ct_X4_48 (by decide) dX4_read_56 ?_
          refine z_wi (st_sing (st_nil h)) (run_V (rest := []) X (st_sing (st_nil h)) (c_X4_finding (j := 0) hF (by decide) (by decide) (by decide)) mi_X4_finding ml_X4_49 ⟨Nat.le_of_ble_eq_true rfl, Nat.le_of_ble_eq_true rfl⟩ ⟨rfl, rfl⟩ (Seg.mk' _ _) 3 0 rfl rfl rfl rfl hl.1 rfl (Nat.le_of_ble_eq_true rfl) ⟨Nat.zero_le _, Nat.zero_le _⟩ dX4_read_58) (fun _ => map_app (wO_map _ _ _ _ _ _ _ _ _ _ _) rfl) (fun r fd5 H locs hp h => ?_)
          have h := (st_lin (st_gnis h))
          obtain ⟨rfl, hF5⟩ := hp
          have h : St E _ s H locs (wO E a k b t x q ((iv (ik))) fd5 ++ (wS E k ((hk)) ((nk)) (k1, k2, k3, k4, k5, k6, k7, k8, k9) ++ (wS E b ((iv (hr A))) ((iv (pe A))) (xs, xi, xk, xc, xl, xr, xb, yl, yr) ++ (wS E t ((ht)) ((nt)) (t1, t2, t3, t4, t5, t6, t7, t8, t9) ++ (wX E x ((iv (tn))) ((e1)) ((e2)) ((e3)) ((e4)) tp ++ (wH E (q 0) ((iv (bq 0))) ((iv (sq 0))) c0 ++ (wH E (q 1) ((iv (bq 1))) ((iv (sq 1))) c1 ++ (wH E (q 2) ((iv (bq 2))) ((iv (sq 2))) c2 ++ (wH E (q 3) ((iv (bq 3))) ((iv (sq 3))) c3 ++ []))))))))) := h
          have e9 : q_read A bq sq cq ph 0 px po = ((-1000000001), (bump ph 0)) := by unfold q_read; (repeat (first | rw [if_pos (by omega)] | rw [if_neg (by omega)])); try rfl
          exact ret _ _ _ _ _ (((iv (ik)), fd5), ((hk), (nk), (k1, k2, k3, k4, k5, k6, k7, k8, k9)), ((iv (hr A)), (iv (pe A)), (xs, xi, xk, xc, xl, xr, xb, yl, yr)), ((ht), (nt), (t1, t2, t3, t4, t5, t6, t7, t8, t9)), ((iv (tn)), (e1), (e2), (e3), (e4), tp), ((iv (bq 0)), (iv (sq 0)), c0), ((iv (bq 1)), (iv (sq 1)), c1), ((iv (bq 2)), (iv (sq 2)), c2), ((iv (bq 3)), (iv (sq 3)), c3)) h (by rw [e9]; exact ⟨rfl, ⟨⟨rfl, rfl, hR, hI, hr9⟩, hK, hF5, hT, hB⟩⟩) dX4_read_61
  · refine lv_aload_n X.1 X.2.1 dX4_read_27 rfl (lv_at hl 1 rfl) ?_
    refine z_ldc (z := (-1000000006)) X ct_X4_197 (by decide) dX4_read_28 ?_
    refine z_wi (st_sing (st_nil h)) (run_V (rest := []) X (st_sing (st_nil h)) (c_X4_finding (j := 5) hF (by decide) (by decide) (by decide)) mi_X4_finding ml_X4_49 ⟨Nat.le_of_ble_eq_true rfl, Nat.le_of_ble_eq_true rfl⟩ ⟨rfl, rfl⟩ (Seg.mk' _ _) 3 0 rfl rfl rfl rfl hl.1 rfl (Nat.le_of_ble_eq_true rfl) ⟨Nat.zero_le _, Nat.zero_le _⟩ dX4_read_30) (fun _ => map_app (wO_map _ _ _ _ _ _ _ _ _ _ _) rfl) (fun r fd6 H locs hp h => ?_)
    have h := (st_lin (st_gnis h))
    obtain ⟨rfl, hF6⟩ := hp
    have h : St E _ s H locs (wO E a k b t x q ((iv (ik))) fd6 ++ (wS E k ((hk)) ((nk)) (k1, k2, k3, k4, k5, k6, k7, k8, k9) ++ (wS E b ((iv (hr A))) ((iv (pe A))) (xs, xi, xk, xc, xl, xr, xb, yl, yr) ++ (wS E t ((ht)) ((nt)) (t1, t2, t3, t4, t5, t6, t7, t8, t9) ++ (wX E x ((iv (tn))) ((e1)) ((e2)) ((e3)) ((e4)) tp ++ (wH E (q 0) ((iv (bq 0))) ((iv (sq 0))) c0 ++ (wH E (q 1) ((iv (bq 1))) ((iv (sq 1))) c1 ++ (wH E (q 2) ((iv (bq 2))) ((iv (sq 2))) c2 ++ (wH E (q 3) ((iv (bq 3))) ((iv (sq 3))) c3 ++ []))))))))) := h
    have e9 : q_read A bq sq cq ph 0 px po = ((-1000000006), (bump ph 5)) := by unfold q_read; (repeat (first | rw [if_pos (by omega)] | rw [if_neg (by omega)])); try rfl
    exact ret _ _ _ _ _ (((iv (ik)), fd6), ((hk), (nk), (k1, k2, k3, k4, k5, k6, k7, k8, k9)), ((iv (hr A)), (iv (pe A)), (xs, xi, xk, xc, xl, xr, xb, yl, yr)), ((ht), (nt), (t1, t2, t3, t4, t5, t6, t7, t8, t9)), ((iv (tn)), (e1), (e2), (e3), (e4), tp), ((iv (bq 0)), (iv (sq 0)), c0), ((iv (bq 1)), (iv (sq 1)), c1), ((iv (bq 2)), (iv (sq 2)), c2), ((iv (bq 3)), (iv (sq 3)), c3)) h (by rw [e9]; exact ⟨rfl, ⟨⟨rfl, rfl, hR, hI, hr9⟩, hK, hF6, hT, hB⟩⟩) dX4_read_33

set_option maxHeartbeats 4000000 in
theorem c_X4_read_1 (hS : RepC (((iv (ik)), fd), ((hk), (nk), (k1, k2, k3, k4, k5, k6, k7, k8, k9)), ((iv (hr A)), (iv (pe A)), (xs, xi, xk, xc, xl, xr, xb, yl, yr)), ((ht), (nt), (t1, t2, t3, t4, t5, t6, t7, t8, t9)), ((iv (tn)), (e1), (e2), (e3), (e4), tp), ((iv (bq 0)), (iv (sq 0)), c0), ((iv (bq 1)), (iv (sq 1)), c1), ((iv (bq 2)), (iv (sq 2)), c2), ((iv (bq 3)), (iv (sq 3)), c3)) (A, K, ik, ph, tq, tn, bq, sq, cq)) {px : Int} (r_px : r32 px) {po : Int} (r_po : r32 po) : MI (S := Tc) E l yX4_read cX4_read 8 (some FieldType.int) (rmk 5 112) (wO E a k b t x q ((iv (ik))) fd ++ (wS E k ((hk)) ((nk)) (k1, k2, k3, k4, k5, k6, k7, k8, k9) ++ (wS E b ((iv (hr A))) ((iv (pe A))) (xs, xi, xk, xc, xl, xr, xb, yl, yr) ++ (wS E t ((ht)) ((nt)) (t1, t2, t3, t4, t5, t6, t7, t8, t9) ++ (wX E x ((iv (tn))) ((e1)) ((e2)) ((e3)) ((e4)) tp ++ (wH E (q 0) ((iv (bq 0))) ((iv (sq 0))) c0 ++ (wH E (q 1) ((iv (bq 1))) ((iv (sq 1))) c1 ++ (wH E (q 2) ((iv (bq 2))) ((iv (sq 2))) c2 ++ (wH E (q 3) ((iv (bq 3))) ((iv (sq 3))) c3 ++ []))))))))) [.ref (a 0), .int (iv (1)), .int (iv (px)), .int (iv (po))] (fun r u => r = iv ((q_read A bq sq cq ph 1 px po).1) ∧ RepC u (A, K, ik, (q_read A bq sq cq ph 1 px po).2, tq, tn, bq, sq, cq)) (fun u => wT E a k b t x q u) := by
  refine goI (S := Tc) (post := fun r u => r = iv ((q_read A bq sq cq ph 1 px po).1) ∧ RepC u (A, K, ik, (q_read A bq sq cq ph 1 px po).2, tq, tn, bq, sq, cq)) (ws' := fun u => wT E a k b t x q u) (by decide) (Nat.le_of_ble_eq_true rfl) ?_
  intro pp e s m below meth c ls args Q ret X h hl
  have hl : lv_has ls 8 [(0, .ref (a 0)), (1, .int (iv (1))), (2, .int (iv (px))), (3, .int (iv (po)))] := hl
  have hR : RS (xs, xi, xk, xc, xl, xr, xb, yl, yr) A := hS.1.2.2.1
  have hI : IA A := hS.1.2.2.2.1
  have hr9 : hr A ≤ 99999 := hS.1.2.2.2.2
  have hF : RF 7 fd ph := hS.2.2.1
  have hK := hS.2.1
  have hT := hS.2.2.2.1
  have hB := hS.2.2.2.2
  have hh : hr A < 1000000 := by omega
  have n8 := hI.n8
  have n0 := hI.n0
  have h0 := hI.h0
  have ht0 : 0 ≤ tn := hS.2.2.2.1.2.1
  have ht1 : tn ≤ 120 := hS.2.2.2.1.2.2.1
  have hk01 : ik = 0 ∨ ik = 1 := hS.2.1.2.1
  have hB3 : okB bq sq := hS.2.2.2.2.1
  have hH0 : RepH (iv (bq 0), iv (sq 0), c0) bq sq cq 0 := hS.2.2.2.2.2.1
  have hH1 : RepH (iv (bq 1), iv (sq 1), c1) bq sq cq 1 := hS.2.2.2.2.2.2.1
  have hH2 : RepH (iv (bq 2), iv (sq 2), c2) bq sq cq 2 := hS.2.2.2.2.2.2.2.1
  have hH3 : RepH (iv (bq 3), iv (sq 3), c3) bq sq cq 3 := hS.2.2.2.2.2.2.2.2
  have ob1 := hB3.1 1 (by omega) (by omega)
  have zb1 := hB3.2 1 (by omega) (by omega)
  refine lv_aload_n X.1 X.2.1 dX4_read_0 rfl (lv_at hl 0 rfl) ?_
  refine lv_iload_n X.1 X.2.1 dX4_read_1 rfl (lv_at hl 1 rfl) ?_
  refine z_pq (run_V (rest := []) X h (c_sheetAt1) mi_X4_sheetAt ml_X4_184 ⟨Nat.le_of_ble_eq_true rfl, Nat.le_of_ble_eq_true rfl⟩ ⟨rfl, rfl⟩ (Seg.rfl' _) 3 0 rfl rfl rfl rfl hl.1 rfl (Nat.le_of_ble_eq_true rfl) ⟨Nat.zero_le _, Nat.zero_le _⟩ dX4_read_2) ?_
  refine W.eq (g2 := F0 m 5 ls [.ref (q 1 0)]) rfl ?_
  refine lv_astore (lv' := [(4, .ref (q 1 0)), (0, .ref (a 0)), (1, .int (iv (1))), (2, .int (iv (px))), (3, .int (iv (po)))]) X.1 X.2.1 dX4_read_5 hl (by decide) rfl (fun ls hl => ?_)
  refine lv_aload X.1 X.2.1 dX4_read_7 (lv_at hl 0 rfl) ?_
  refine lv_ifnonnull (tgt := 19) X.1 X.2.1 dX4_read_9 (by decide) ?_
  refine lv_aload X.1 X.2.1 dX4_read_19 (lv_at hl 0 rfl) ?_
  refine z_pi (run_V (rest := []) X (st_sing (st_in (st_in (st_in (st_in (st_in (st_in (st_nil h)))))))) (c_X0_isMissing (y := q 1) (bt := bq 1) ⟨by omega, by omega⟩) mi_X0_isMissing ml_X4_193 ⟨Nat.le_of_ble_eq_true rfl, Nat.le_of_ble_eq_true rfl⟩ ⟨rfl, rfl⟩ (Seg.mk' _ _) 0 37 rfl rfl rfl rfl hl.1 rfl (Nat.le_of_ble_eq_true rfl) ⟨Nat.zero_le _, Nat.zero_le _⟩ dX4_read_21) ?_
  refine z_ifb_eq (tgt := 34) X dX4_read_24 (by decide) (fun c_24 => ?_) (fun c_24 => ?_)
  · refine lv_aload_n X.1 X.2.1 dX4_read_34 rfl (lv_at hl 1 rfl) ?_
    refine lv_iload_n X.1 X.2.1 dX4_read_35 rfl (lv_at hl 3 rfl) ?_
    refine z_pi (run_V (rest := []) X h (c_X4_isPerson (p := px) hI r_px) mi_X4_isPerson ml_X4_94 ⟨Nat.le_of_ble_eq_true rfl, Nat.le_of_ble_eq_true rfl⟩ ⟨rfl, rfl⟩ (Seg.rfl' _) 3 0 rfl rfl rfl rfl hl.1 rfl (Nat.le_of_ble_eq_true rfl) ⟨Nat.zero_le _, Nat.zero_le _⟩ dX4_read_36) ?_
    refine z_ifb_eq (tgt := 55) X dX4_read_39 (by decide) (fun c_39 => ?_) (fun c_39 => ?_)
    · refine lv_aload_n X.1 X.2.1 dX4_read_55 rfl (lv_at hl 1 rfl) ?_
      refine z_ldc (z := (-1000000001)) X ct_X4_48 (by decide) dX4_read_56 ?_
      refine z_wi (st_sing (st_nil h)) (run_V (rest := []) X (st_sing (st_nil h)) (c_X4_finding (j := 0) hF (by decide) (by decide) (by decide)) mi_X4_finding ml_X4_49 ⟨Nat.le_of_ble_eq_true rfl, Nat.le_of_ble_eq_true rfl⟩ ⟨rfl, rfl⟩ (Seg.mk' _ _) 3 0 rfl rfl rfl rfl hl.1 rfl (Nat.le_of_ble_eq_true rfl) ⟨Nat.zero_le _, Nat.zero_le _⟩ dX4_read_58) (fun _ => map_app (wO_map _ _ _ _ _ _ _ _ _ _ _) rfl) (fun r fd1 H locs hp h => ?_)
      have h := (st_lin (st_gnis h))
      obtain ⟨rfl, hF1⟩ := hp
      have h : St E _ s H locs (wO E a k b t x q ((iv (ik))) fd1 ++ (wS E k ((hk)) ((nk)) (k1, k2, k3, k4, k5, k6, k7, k8, k9) ++ (wS E b ((iv (hr A))) ((iv (pe A))) (xs, xi, xk, xc, xl, xr, xb, yl, yr) ++ (wS E t ((ht)) ((nt)) (t1, t2, t3, t4, t5, t6, t7, t8, t9) ++ (wX E x ((iv (tn))) ((e1)) ((e2)) ((e3)) ((e4)) tp ++ (wH E (q 0) ((iv (bq 0))) ((iv (sq 0))) c0 ++ (wH E (q 1) ((iv (bq 1))) ((iv (sq 1))) c1 ++ (wH E (q 2) ((iv (bq 2))) ((iv (sq 2))) c2 ++ (wH E (q 3) ((iv (bq 3))) ((iv (sq 3))) c3 ++ []))))))))) := h
      have e9 : q_read A bq sq cq ph 1 px po = ((-1000000001), (bump ph 0)) := by unfold q_read; (repeat (first | rw [if_pos (by omega)] | rw [if_neg (by omega)])); try rfl
      exact ret _ _ _ _ _ (((iv (ik)), fd1), ((hk), (nk), (k1, k2, k3, k4, k5, k6, k7, k8, k9)), ((iv (hr A)), (iv (pe A)), (xs, xi, xk, xc, xl, xr, xb, yl, yr)), ((ht), (nt), (t1, t2, t3, t4, t5, t6, t7, t8, t9)), ((iv (tn)), (e1), (e2), (e3), (e4), tp), ((iv (bq 0)), (iv (sq 0)), c0), ((iv (bq 1)), (iv (sq 1)), c1), ((iv (bq 2)), (iv (sq 2)), c2), ((iv (bq 3)), (iv (sq 3)), c3)) h (by rw [e9]; exact ⟨rfl, ⟨⟨rfl, rfl, hR, hI, hr9⟩, hK, hF1, hT, hB⟩⟩) dX4_read_61
    · refine lv_aload_n X.1 X.2.1 dX4_read_42 rfl (lv_at hl 1 rfl) ?_
      refine lv_iload_n X.1 X.2.1 dX4_read_43 rfl (lv_at hl 4 rfl) ?_
      refine z_pi (run_V (rest := []) X h (c_X4_isPerson (p := po) hI r_po) mi_X4_isPerson ml_X4_94 ⟨Nat.le_of_ble_eq_true rfl, Nat.le_of_ble_eq_true rfl⟩ ⟨rfl, rfl⟩ (Seg.rfl' _) 3 0 rfl rfl rfl rfl hl.1 rfl (Nat.le_of_ble_eq_true rfl) ⟨Nat.zero_le _, Nat.zero_le _⟩ dX4_read_44) ?_
      refine z_ifb_eq (tgt := 55) X dX4_read_47 (by decide) (fun c_47 => ?_) (fun c_47 => ?_)
      · refine lv_aload_n X.1 X.2.1 dX4_read_55 rfl (lv_at hl 1 rfl) ?_
        refine z_ldc (z := (-1000000001)) X ct_X4_48 (by decide) dX4_read_56 ?_
        refine z_wi (st_sing (st_nil h)) (run_V (rest := []) X (st_sing (st_nil h)) (c_X4_finding (j := 0) hF (by decide) (by decide) (by decide)) mi_X4_finding ml_X4_49 ⟨Nat.le_of_ble_eq_true rfl, Nat.le_of_ble_eq_true rfl⟩ ⟨rfl, rfl⟩ (Seg.mk' _ _) 3 0 rfl rfl rfl rfl hl.1 rfl (Nat.le_of_ble_eq_true rfl) ⟨Nat.zero_le _, Nat.zero_le _⟩ dX4_read_58) (fun _ => map_app (wO_map _ _ _ _ _ _ _ _ _ _ _) rfl) (fun r fd2 H locs hp h => ?_)
        have h := (st_lin (st_gnis h))
        obtain ⟨rfl, hF2⟩ := hp
        have h : St E _ s H locs (wO E a k b t x q ((iv (ik))) fd2 ++ (wS E k ((hk)) ((nk)) (k1, k2, k3, k4, k5, k6, k7, k8, k9) ++ (wS E b ((iv (hr A))) ((iv (pe A))) (xs, xi, xk, xc, xl, xr, xb, yl, yr) ++ (wS E t ((ht)) ((nt)) (t1, t2, t3, t4, t5, t6, t7, t8, t9) ++ (wX E x ((iv (tn))) ((e1)) ((e2)) ((e3)) ((e4)) tp ++ (wH E (q 0) ((iv (bq 0))) ((iv (sq 0))) c0 ++ (wH E (q 1) ((iv (bq 1))) ((iv (sq 1))) c1 ++ (wH E (q 2) ((iv (bq 2))) ((iv (sq 2))) c2 ++ (wH E (q 3) ((iv (bq 3))) ((iv (sq 3))) c3 ++ []))))))))) := h
        have e9 : q_read A bq sq cq ph 1 px po = ((-1000000001), (bump ph 0)) := by unfold q_read; (repeat (first | rw [if_pos (by omega)] | rw [if_neg (by omega)])); try rfl
        exact ret _ _ _ _ _ (((iv (ik)), fd2), ((hk), (nk), (k1, k2, k3, k4, k5, k6, k7, k8, k9)), ((iv (hr A)), (iv (pe A)), (xs, xi, xk, xc, xl, xr, xb, yl, yr)), ((ht), (nt), (t1, t2, t3, t4, t5, t6, t7, t8, t9)), ((iv (tn)), (e1), (e2), (e3), (e4), tp), ((iv (bq 0)), (iv (sq 0)), c0), ((iv (bq 1)), (iv (sq 1)), c1), ((iv (bq 2)), (iv (sq 2)), c2), ((iv (bq 3)), (iv (sq 3)), c3)) h (by rw [e9]; exact ⟨rfl, ⟨⟨rfl, rfl, hR, hI, hr9⟩, hK, hF2, hT, hB⟩⟩) dX4_read_61
      · refine lv_iload_n X.1 X.2.1 dX4_read_50 rfl (lv_at hl 3 rfl) ?_
        refine lv_iload_n X.1 X.2.1 dX4_read_51 rfl (lv_at hl 4 rfl) ?_
        refine z_ic_ne (tgt := 62) X r_px r_po dX4_read_52 (by decide) (fun c_52 => ?_) (fun c_52 => ?_)
        · refine z_iconst X dX4_read_62 ?_
          refine lv_istore (lv' := [(5, .int (iv (0))), (4, .ref (q 1 0)), (0, .ref (a 0)), (1, .int (iv (1))), (2, .int (iv (px))), (3, .int (iv (po)))]) X.1 X.2.1 dX4_read_63 hl (by decide) rfl (fun ls hl => ?_)
          refine z_iconst X dX4_read_65 ?_
          refine lv_istore (lv' := [(6, .int (iv (0))), (5, .int (iv (0))), (4, .ref (q 1 0)), (0, .ref (a 0)), (1, .int (iv (1))), (2, .int (iv (px))), (3, .int (iv (po)))]) X.1 X.2.1 dX4_read_66 hl (by decide) rfl (fun ls hl => ?_)
          have L68 : ∀ (fuel_ : Nat) (kk : Int) (nn : Int) (th : Int32) (tm : Int32) (g1 : Nat → Int32) (g2 : Nat → Int32) (g3 : Nat → Int32) (g4 : Nat → Int32) (g5 : Nat → Int32) (g6 : Nat → Int32) (g7 : Nat → Int32) (g8 : Nat → Int32) (g9 : Nat → Int32), (0 ≤ kk) → (kk ≤ 6) → (nn = cntk (pairB A cq sq 1 px po) (6 * kk).toNat) → 6 - kk < (fuel_ : Int) → ∀ (H : Heap) (locs : List Loc), St E (wO E a k b t x q ((iv (ik))) fd ++ (wS E k ((hk)) ((nk)) (k1, k2, k3, k4, k5, k6, k7, k8, k9) ++ (wS E b ((iv (hr A))) ((iv (pe A))) (xs, xi, xk, xc, xl, xr, xb, yl, yr) ++ (wS E t ((ht)) ((nt)) (t1, t2, t3, t4, t5, t6, t7, t8, t9) ++ (wX E x ((iv (tn))) ((e1)) ((e2)) ((e3)) ((e4)) tp ++ (wH E (q 0) ((iv (bq 0))) ((iv (sq 0))) c0 ++ (wH E (q 1) ((iv (bq 1))) ((iv (sq 1))) c1 ++ (wH E (q 2) ((iv (bq 2))) ((iv (sq 2))) c2 ++ (wH E (q 3) ((iv (bq 3))) ((iv (sq 3))) c3 ++ []))))))))) s H locs (wO E a k b t x q ((iv (ik))) fd ++ (wS E k ((hk)) ((nk)) (k1, k2, k3, k4, k5, k6, k7, k8, k9) ++ (wS E b ((iv (hr A))) ((iv (pe A))) (xs, xi, xk, xc, xl, xr, xb, yl, yr) ++ (wS E t ((th)) ((tm)) (g1, g2, g3, g4, g5, g6, g7, g8, g9) ++ (wX E x ((iv (tn))) ((e1)) ((e2)) ((e3)) ((e4)) tp ++ (wH E (q 0) ((iv (bq 0))) ((iv (sq 0))) c0 ++ (wH E (q 1) ((iv (bq 1))) ((iv (sq 1))) c1 ++ (wH E (q 2) ((iv (bq 2))) ((iv (sq 2))) c2 ++ (wH E (q 3) ((iv (bq 3))) ((iv (sq 3))) c3 ++ []))))))))) → ∀ ls : Array Slot, lv_has ls 8 [(4, .ref (q 1 0)), (0, .ref (a 0)), (1, .int (iv (1))), (2, .int (iv (px))), (3, .int (iv (po))), (5, .int (iv (nn))), (6, .int (iv (kk)))] → W pp l e (rmk 5 112) s m args below meth c H locs 0 0 Q (F0 m 68 ls []) := by
            intro fuel_
            induction fuel_ with
            | zero =>
              intro kk nn th tm g1 g2 g3 g4 g5 g6 g7 g8 g9 k0 k1_ hk9 hn
              exfalso; omega
            | succ fuel_ ih_68 =>
              intro kk nn th tm g1 g2 g3 g4 g5 g6 g7 g8 g9 k0 k1_ hk9 hn H locs h ls hl
              refine lv_iload X.1 X.2.1 dX4_read_68 (lv_at hl 6 rfl) ?_
              refine z_bipush X (by decide) dX4_read_70 ?_
              refine z_ic_ge (tgt := 136) X ⟨by omega, by omega⟩ ⟨by decide, by decide⟩ dX4_read_72 (by decide) (fun c_72 => ?_) (fun c_72 => ?_)
              · refine lv_iload X.1 X.2.1 dX4_read_136 (lv_at hl 5 rfl) ?_
                have e9 : q_read A bq sq cq ph 1 px po = (nn, ph) := by unfold q_read; rw [if_neg (by omega), if_neg (by omega), if_neg (by omega), hk9, show kk = 6 by omega]; rfl
                exact ret _ _ _ _ _ (((iv (ik)), fd), ((hk), (nk), (k1, k2, k3, k4, k5, k6, k7, k8, k9)), ((iv (hr A)), (iv (pe A)), (xs, xi, xk, xc, xl, xr, xb, yl, yr)), ((th), (tm), (g1, g2, g3, g4, g5, g6, g7, g8, g9)), ((iv (tn)), (e1), (e2), (e3), (e4), tp), ((iv (bq 0)), (iv (sq 0)), c0), ((iv (bq 1)), (iv (sq 1)), c1), ((iv (bq 2)), (iv (sq 2)), c2), ((iv (bq 3)), (iv (sq 3)), c3)) h (by rw [e9]; exact ⟨rfl, ⟨⟨rfl, rfl, hR, hI, hr9⟩, hK, hF, hT, hB⟩⟩) dX4_read_138
              · refine z_iconst X dX4_read_75 ?_
                refine lv_istore (lv' := [(7, .int (iv (0))), (4, .ref (q 1 0)), (0, .ref (a 0)), (1, .int (iv (1))), (2, .int (iv (px))), (3, .int (iv (po))), (5, .int (iv (nn))), (6, .int (iv (kk)))]) X.1 X.2.1 dX4_read_76 hl (by decide) rfl (fun ls hl => ?_)
                have L78 : ∀ (fuel_ : Nat) (ll : Int) (n2 : Int) (th2 : Int32) (tm2 : Int32) (d1 : Nat → Int32) (d2 : Nat → Int32) (d3 : Nat → Int32) (d4 : Nat → Int32) (d5 : Nat → Int32) (d6 : Nat → Int32) (d7 : Nat → Int32) (d8 : Nat → Int32) (d9 : Nat → Int32), (0 ≤ ll) → (ll ≤ 6) → (n2 = cntk (pairB A cq sq 1 px po) (6 * kk + ll).toNat) → 6 - ll < (fuel_ : Int) → ∀ (H : Heap) (locs : List Loc), St E (wO E a k b t x q ((iv (ik))) fd ++ (wS E k ((hk)) ((nk)) (k1, k2, k3, k4, k5, k6, k7, k8, k9) ++ (wS E b ((iv (hr A))) ((iv (pe A))) (xs, xi, xk, xc, xl, xr, xb, yl, yr) ++ (wS E t ((ht)) ((nt)) (t1, t2, t3, t4, t5, t6, t7, t8, t9) ++ (wX E x ((iv (tn))) ((e1)) ((e2)) ((e3)) ((e4)) tp ++ (wH E (q 0) ((iv (bq 0))) ((iv (sq 0))) c0 ++ (wH E (q 1) ((iv (bq 1))) ((iv (sq 1))) c1 ++ (wH E (q 2) ((iv (bq 2))) ((iv (sq 2))) c2 ++ (wH E (q 3) ((iv (bq 3))) ((iv (sq 3))) c3 ++ []))))))))) s H locs (wO E a k b t x q ((iv (ik))) fd ++ (wS E k ((hk)) ((nk)) (k1, k2, k3, k4, k5, k6, k7, k8, k9) ++ (wS E b ((iv (hr A))) ((iv (pe A))) (xs, xi, xk, xc, xl, xr, xb, yl, yr) ++ (wS E t ((th2)) ((tm2)) (d1, d2, d3, d4, d5, d6, d7, d8, d9) ++ (wX E x ((iv (tn))) ((e1)) ((e2)) ((e3)) ((e4)) tp ++ (wH E (q 0) ((iv (bq 0))) ((iv (sq 0))) c0 ++ (wH E (q 1) ((iv (bq 1))) ((iv (sq 1))) c1 ++ (wH E (q 2) ((iv (bq 2))) ((iv (sq 2))) c2 ++ (wH E (q 3) ((iv (bq 3))) ((iv (sq 3))) c3 ++ []))))))))) → ∀ ls : Array Slot, lv_has ls 8 [(4, .ref (q 1 0)), (0, .ref (a 0)), (1, .int (iv (1))), (2, .int (iv (px))), (3, .int (iv (po))), (6, .int (iv (kk))), (5, .int (iv (n2))), (7, .int (iv (ll)))] → W pp l e (rmk 5 112) s m args below meth c H locs 0 0 Q (F0 m 78 ls []) := by
                  intro fuel_
                  induction fuel_ with
                  | zero =>
                    intro ll n2 th2 tm2 d1 d2 d3 d4 d5 d6 d7 d8 d9 l0 l1 hk2 hn
                    exfalso; omega
                  | succ fuel_ ih_78 =>
                    intro ll n2 th2 tm2 d1 d2 d3 d4 d5 d6 d7 d8 d9 l0 l1 hk2 hn H locs h ls hl
                    refine lv_iload X.1 X.2.1 dX4_read_78 (lv_at hl 7 rfl) ?_
                    refine z_bipush X (by decide) dX4_read_80 ?_
                    refine z_ic_ge (tgt := 130) X ⟨by omega, by omega⟩ ⟨by decide, by decide⟩ dX4_read_82 (by decide) (fun c_82 => ?_) (fun c_82 => ?_)
                    · refine z_iinc (k := 5) (lv' := [(6, .int (iv (kk + 1))), (4, .ref (q 1 0)), (0, .ref (a 0)), (1, .int (iv (1))), (2, .int (iv (px))), (3, .int (iv (po))), (5, .int (iv (n2))), (7, .int (iv (ll)))]) X dX4_read_130 hl rfl (by decide) rfl (fun ls hl => ?_)
                      refine lv_goto (tgt := 68) X.1 X.2.1 dX4_read_133 (by decide) ?_
                      exact ih_68 (kk + 1) (n2) ((th2)) ((tm2)) (d1) (d2) (d3) (d4) (d5) (d6) (d7) (d8) (d9) (by omega) (by omega) (by rw [hk2, show 6 * (kk + 1) = 6 * kk + ll by omega]) (by omega) _ _ h ls (lv_sub hl [1, 2, 3, 4, 5, 6, 0] rfl)
                    · refine lv_aload_n X.1 X.2.1 dX4_read_85 rfl (lv_at hl 1 rfl) ?_
                      refine z_av h (run_V (rest := []) X h (c_X4_startTrial hR hI.n8) mi_X4_startTrial ml_X4_150 ⟨Nat.le_of_ble_eq_true rfl, Nat.le_of_ble_eq_true rfl⟩ ⟨rfl, rfl⟩ (Seg.rfl' _) 3 0 rfl rfl rfl rfl hl.1 rfl (Nat.le_of_ble_eq_true rfl) ⟨Nat.zero_le _, Nat.zero_le _⟩ dX4_read_86) (fun _ => map_app rfl (map_app rfl (map_app rfl (map_app (wS_map _ _ _ _ _ _ _ _) rfl)))) (fun u H locs hp h => ?_)
                      obtain ⟨r0_3, r1_3, r2_3, r3_3, r4_3, r5_3, r6_3, r7_3, r8_3⟩ := u
                      have h : St E _ s H locs (wO E a k b t x q ((iv (ik))) fd ++ (wS E k ((hk)) ((nk)) (k1, k2, k3, k4, k5, k6, k7, k8, k9) ++ (wS E b ((iv (hr A))) ((iv (pe A))) (xs, xi, xk, xc, xl, xr, xb, yl, yr) ++ (wS E t ((iv (hr A))) ((iv (pe A))) (r0_3, r1_3, r2_3, r3_3, r4_3, r5_3, r6_3, r7_3, r8_3) ++ (wX E x ((iv (tn))) ((e1)) ((e2)) ((e3)) ((e4)) tp ++ (wH E (q 0) ((iv (bq 0))) ((iv (sq 0))) c0 ++ (wH E (q 1) ((iv (bq 1))) ((iv (sq 1))) c1 ++ (wH E (q 2) ((iv (bq 2))) ((iv (sq 2))) c2 ++ (wH E (q 3) ((iv (bq 3))) ((iv (sq 3))) c3 ++ []))))))))) := h
                      have hRb3 : RS (r0_3, r1_3, r2_3, r3_3, r4_3, r5_3, r6_3, r7_3, r8_3) A := hp
                      refine lv_aload_n X.1 X.2.1 dX4_read_89 rfl (lv_at hl 1 rfl) ?_
                      refine z_get X h 3 0 1 rfl inX4 rfl (by decide) fl_X4_16 rfl dX4_read_90 ?_
                      refine z_get X h 1 23 4 rfl inX1 rfl (by decide) fl_X4_97 rfl dX4_read_93 ?_
                      refine lv_iload_n X.1 X.2.1 dX4_read_96 rfl (lv_at hl 3 rfl) ?_
                      refine lv_iload X.1 X.2.1 dX4_read_97 (lv_at hl 5 rfl) ?_
                      refine s_iast X (st_in (st_in (st_in (st_nil h)))) 3 rfl (by omega) (by omega) (by decide) dX4_read_99 (fun H locs h => ?_)
                      have h := (st_lin (st_out (st_out (st_out (st_eq wS_kinds h)))))
                      have h : St E _ s H locs (wO E a k b t x q ((iv (ik))) fd ++ (wS E k ((hk)) ((nk)) (k1, k2, k3, k4, k5, k6, k7, k8, k9) ++ (wS E b ((iv (hr A))) ((iv (pe A))) (xs, xi, xk, xc, xl, xr, xb, yl, yr) ++ (wS E t ((iv (hr A))) ((iv (pe A))) (r0_3, r1_3, (upd r2_3 (px : Int).toNat (iv (kk))), r3_3, r4_3, r5_3, r6_3, r7_3, r8_3) ++ (wX E x ((iv (tn))) ((e1)) ((e2)) ((e3)) ((e4)) tp ++ (wH E (q 0) ((iv (bq 0))) ((iv (sq 0))) c0 ++ (wH E (q 1) ((iv (bq 1))) ((iv (sq 1))) c1 ++ (wH E (q 2) ((iv (bq 2))) ((iv (sq 2))) c2 ++ (wH E (q 3) ((iv (bq 3))) ((iv (sq 3))) c3 ++ []))))))))) := h
                      have tR1 : RS (r0_3, r1_3, (upd r2_3 (px : Int).toNat (iv (kk))), r3_3, r4_3, r5_3, r6_3, r7_3, r8_3) (pu A 0 px kk) := RS_ki hRb3 n0 (by omega)
                      refine lv_aload_n X.1 X.2.1 dX4_read_100 rfl (lv_at hl 1 rfl) ?_
                      refine z_get X h 3 0 1 rfl inX4 rfl (by decide) fl_X4_16 rfl dX4_read_101 ?_
                      refine z_get X h 1 23 4 rfl inX1 rfl (by decide) fl_X4_97 rfl dX4_read_104 ?_
                      refine lv_iload_n X.1 X.2.1 dX4_read_107 rfl (lv_at hl 4 rfl) ?_
                      refine lv_iload X.1 X.2.1 dX4_read_108 (lv_at hl 7 rfl) ?_
                      refine s_iast X (st_in (st_in (st_in (st_nil h)))) 3 rfl (by omega) (by omega) (by decide) dX4_read_110 (fun H locs h => ?_)
                      have h := (st_lin (st_out (st_out (st_out (st_eq wS_kinds h)))))
                      have h : St E _ s H locs (wO E a k b t x q ((iv (ik))) fd ++ (wS E k ((hk)) ((nk)) (k1, k2, k3, k4, k5, k6, k7, k8, k9) ++ (wS E b ((iv (hr A))) ((iv (pe A))) (xs, xi, xk, xc, xl, xr, xb, yl, yr) ++ (wS E t ((iv (hr A))) ((iv (pe A))) (r0_3, r1_3, (upd (upd r2_3 (px : Int).toNat (iv (kk))) (po : Int).toNat (iv (ll))), r3_3, r4_3, r5_3, r6_3, r7_3, r8_3) ++ (wX E x ((iv (tn))) ((e1)) ((e2)) ((e3)) ((e4)) tp ++ (wH E (q 0) ((iv (bq 0))) ((iv (sq 0))) c0 ++ (wH E (q 1) ((iv (bq 1))) ((iv (sq 1))) c1 ++ (wH E (q 2) ((iv (bq 2))) ((iv (sq 2))) c2 ++ (wH E (q 3) ((iv (bq 3))) ((iv (sq 3))) c3 ++ []))))))))) := h
                      have tR2 : RS (r0_3, r1_3, (upd (upd r2_3 (px : Int).toNat (iv (kk))) (po : Int).toNat (iv (ll))), r3_3, r4_3, r5_3, r6_3, r7_3, r8_3) (pu (pu A 0 px kk) 0 po ll) := RS_ki tR1 n0 (by omega)
                      have tI2 : IA (pu (pu A 0 px kk) 0 po ll) := IA_pu (IA_pu hI (by omega) (by omega) (Or.inl ⟨rfl, by omega, by omega⟩)) (by omega) (show po < pe A by omega) (Or.inl ⟨rfl, by omega, by omega⟩)
                      have ep : pairB A cq sq 1 px po (6 * kk + ll) = isb (cq 1) (pu (pu A 0 px kk) 0 po ll) px (sq 1).toNat := by unfold pairB; rw [show (6 * kk + ll) / 6 = kk by omega, show (6 * kk + ll) % 6 = ll by omega]
                      refine lv_aload_n X.1 X.2.1 dX4_read_111 rfl (lv_at hl 1 rfl) ?_
                      refine lv_aload X.1 X.2.1 dX4_read_112 (lv_at hl 0 rfl) ?_
                      refine lv_iload_n X.1 X.2.1 dX4_read_114 rfl (lv_at hl 3 rfl) ?_
                      refine z_ai h (run_V (rest := []) X h (c_X4_trialGoesAs_1 (Bb := (pu (pu A 0 px kk) 0 po ll)) (pz := px) tR2 tI2 (show hr A < 200000 by omega) hH1 (by omega) (by omega) (by omega) (show px < pe A by omega)) mi_X4_trialGoesAs ml_X4_220 ⟨Nat.le_of_ble_eq_true rfl, Nat.le_of_ble_eq_true rfl⟩ ⟨rfl, rfl⟩ (Seg.rfl' _) 3 0 rfl rfl rfl rfl hl.1 rfl (Nat.le_of_ble_eq_true rfl) ⟨Nat.zero_le _, Nat.zero_le _⟩ dX4_read_115) (fun _ => map_app rfl (map_app rfl (map_app rfl (map_app (wS_map _ _ _ _ _ _ _ _) rfl)))) (fun r u H locs hp h => ?_)
                      obtain ⟨th4, tm4, r0_4, r1_4, r2_4, r3_4, r4_4, r5_4, r6_4, r7_4, r8_4⟩ := u
                      subst hp
                      have h : St E _ s H locs (wO E a k b t x q ((iv (ik))) fd ++ (wS E k ((hk)) ((nk)) (k1, k2, k3, k4, k5, k6, k7, k8, k9) ++ (wS E b ((iv (hr A))) ((iv (pe A))) (xs, xi, xk, xc, xl, xr, xb, yl, yr) ++ (wS E t ((th4)) ((tm4)) (r0_4, r1_4, r2_4, r3_4, r4_4, r5_4, r6_4, r7_4, r8_4) ++ (wX E x ((iv (tn))) ((e1)) ((e2)) ((e3)) ((e4)) tp ++ (wH E (q 0) ((iv (bq 0))) ((iv (sq 0))) c0 ++ (wH E (q 1) ((iv (bq 1))) ((iv (sq 1))) c1 ++ (wH E (q 2) ((iv (bq 2))) ((iv (sq 2))) c2 ++ (wH E (q 3) ((iv (bq 3))) ((iv (sq 3))) c3 ++ []))))))))) := h
                      refine z_ifb_eq (tgt := 124) X dX4_read_118 (by decide) (fun c_118 => ?_) (fun c_118 => ?_)
                      · have hy9 : ¬ pairB A cq sq 1 px po (6 * kk + ll) = true := by rw [ep]; exact c_118
                        refine z_iinc (k := 7) (lv' := [(7, .int (iv (ll + 1))), (4, .ref (q 1 0)), (0, .ref (a 0)), (1, .int (iv (1))), (2, .int (iv (px))), (3, .int (iv (po))), (6, .int (iv (kk))), (5, .int (iv (n2)))]) X dX4_read_124 hl rfl (by decide) rfl (fun ls hl => ?_)
                        refine lv_goto (tgt := 78) X.1 X.2.1 dX4_read_127 (by decide) ?_
                        exact ih_78 (ll + 1) (n2) ((th4)) ((tm4)) (r0_4) (r1_4) (r2_4) (r3_4) (r4_4) (r5_4) (r6_4) (r7_4) (r8_4) (by omega) (by omega) (by rw [show 6 * kk + (ll + 1) = 6 * kk + ll + 1 by omega, cntk_n (by omega) hy9, hk2]; omega) (by omega) _ _ h ls (lv_sub hl [1, 2, 3, 4, 5, 6, 7, 0] rfl)
                      · have hy9 : pairB A cq sq 1 px po (6 * kk + ll) = true := by rw [ep]; exact c_118
                        refine z_iinc (k := 6) (lv' := [(5, .int (iv (n2 + 1))), (4, .ref (q 1 0)), (0, .ref (a 0)), (1, .int (iv (1))), (2, .int (iv (px))), (3, .int (iv (po))), (6, .int (iv (kk))), (7, .int (iv (ll)))]) X dX4_read_121 hl rfl (by decide) rfl (fun ls hl => ?_)
                        refine z_iinc (k := 7) (lv' := [(7, .int (iv (ll + 1))), (5, .int (iv (n2 + 1))), (4, .ref (q 1 0)), (0, .ref (a 0)), (1, .int (iv (1))), (2, .int (iv (px))), (3, .int (iv (po))), (6, .int (iv (kk)))]) X dX4_read_124 hl rfl (by decide) rfl (fun ls hl => ?_)
                        refine lv_goto (tgt := 78) X.1 X.2.1 dX4_read_127 (by decide) ?_
                        exact ih_78 (ll + 1) (n2 + 1) ((th4)) ((tm4)) (r0_4) (r1_4) (r2_4) (r3_4) (r4_4) (r5_4) (r6_4) (r7_4) (r8_4) (by omega) (by omega) (by rw [show 6 * kk + (ll + 1) = 6 * kk + ll + 1 by omega, cntk_y (by omega) hy9, hk2]) (by omega) _ _ h ls (lv_sub hl [2, 3, 4, 5, 6, 7, 1, 0] rfl)
                exact L78 ((6 - (0) : Int).toNat + 1) (0) (nn) ((th)) ((tm)) (g1) (g2) (g3) (g4) (g5) (g6) (g7) (g8) (g9) (by omega) (by omega) (by rw [hk9, Int.add_zero]) (by omega) _ _ h ls (lv_sub hl [1, 2, 3, 4, 5, 7, 6, 0] rfl)
          exact L68 ((6 - (0) : Int).toNat + 1) (0) (0) ((ht)) ((nt)) (t1) (t2) (t3) (t4) (t5) (t6) (t7) (t8) (t9) (by omega) (by omega) (rfl) (by omega) _ _ h ls (lv_sub hl [2, 3, 4, 5, 6, 1, 0] rfl)
        · refine lv_aload_n X.1 X.2.1 dX4_read_55 rfl (lv_at hl 1 rfl) ?_
          refine z_ldc (z := (-1000000001)) X ct_X4_48 (by decide) dX4_read_56 ?_
          refine z_wi (st_sing (st_nil h)) (run_V (rest := []) X (st_sing (st_nil h)) (c_X4_finding (j := 0) hF (by decide) (by decide) (by decide)) mi_X4_finding ml_X4_49 ⟨Nat.le_of_ble_eq_true rfl, Nat.le_of_ble_eq_true rfl⟩ ⟨rfl, rfl⟩ (Seg.mk' _ _) 3 0 rfl rfl rfl rfl hl.1 rfl (Nat.le_of_ble_eq_true rfl) ⟨Nat.zero_le _, Nat.zero_le _⟩ dX4_read_58) (fun _ => map_app (wO_map _ _ _ _ _ _ _ _ _ _ _) rfl) (fun r fd5 H locs hp h => ?_)
          have h := (st_lin (st_gnis h))
          obtain ⟨rfl, hF5⟩ := hp
          have h : St E _ s H locs (wO E a k b t x q ((iv (ik))) fd5 ++ (wS E k ((hk)) ((nk)) (k1, k2, k3, k4, k5, k6, k7, k8, k9) ++ (wS E b ((iv (hr A))) ((iv (pe A))) (xs, xi, xk, xc, xl, xr, xb, yl, yr) ++ (wS E t ((ht)) ((nt)) (t1, t2, t3, t4, t5, t6, t7, t8, t9) ++ (wX E x ((iv (tn))) ((e1)) ((e2)) ((e3)) ((e4)) tp ++ (wH E (q 0) ((iv (bq 0))) ((iv (sq 0))) c0 ++ (wH E (q 1) ((iv (bq 1))) ((iv (sq 1))) c1 ++ (wH E (q 2) ((iv (bq 2))) ((iv (sq 2))) c2 ++ (wH E (q 3) ((iv (bq 3))) ((iv (sq 3))) c3 ++ []))))))))) := h
          have e9 : q_read A bq sq cq ph 1 px po = ((-1000000001), (bump ph 0)) := by unfold q_read; (repeat (first | rw [if_pos (by omega)] | rw [if_neg (by omega)])); try rfl
          exact ret _ _ _ _ _ (((iv (ik)), fd5), ((hk), (nk), (k1, k2, k3, k4, k5, k6, k7, k8, k9)), ((iv (hr A)), (iv (pe A)), (xs, xi, xk, xc, xl, xr, xb, yl, yr)), ((ht), (nt), (t1, t2, t3, t4, t5, t6, t7, t8, t9)), ((iv (tn)), (e1), (e2), (e3), (e4), tp), ((iv (bq 0)), (iv (sq 0)), c0), ((iv (bq 1)), (iv (sq 1)), c1), ((iv (bq 2)), (iv (sq 2)), c2), ((iv (bq 3)), (iv (sq 3)), c3)) h (by rw [e9]; exact ⟨rfl, ⟨⟨rfl, rfl, hR, hI, hr9⟩, hK, hF5, hT, hB⟩⟩) dX4_read_61
  · refine lv_aload_n X.1 X.2.1 dX4_read_27 rfl (lv_at hl 1 rfl) ?_
    refine z_ldc (z := (-1000000006)) X ct_X4_197 (by decide) dX4_read_28 ?_
    refine z_wi (st_sing (st_nil h)) (run_V (rest := []) X (st_sing (st_nil h)) (c_X4_finding (j := 5) hF (by decide) (by decide) (by decide)) mi_X4_finding ml_X4_49 ⟨Nat.le_of_ble_eq_true rfl, Nat.le_of_ble_eq_true rfl⟩ ⟨rfl, rfl⟩ (Seg.mk' _ _) 3 0 rfl rfl rfl rfl hl.1 rfl (Nat.le_of_ble_eq_true rfl) ⟨Nat.zero_le _, Nat.zero_le _⟩ dX4_read_30) (fun _ => map_app (wO_map _ _ _ _ _ _ _ _ _ _ _) rfl) (fun r fd6 H locs hp h => ?_)
    have h := (st_lin (st_gnis h))
    obtain ⟨rfl, hF6⟩ := hp
    have h : St E _ s H locs (wO E a k b t x q ((iv (ik))) fd6 ++ (wS E k ((hk)) ((nk)) (k1, k2, k3, k4, k5, k6, k7, k8, k9) ++ (wS E b ((iv (hr A))) ((iv (pe A))) (xs, xi, xk, xc, xl, xr, xb, yl, yr) ++ (wS E t ((ht)) ((nt)) (t1, t2, t3, t4, t5, t6, t7, t8, t9) ++ (wX E x ((iv (tn))) ((e1)) ((e2)) ((e3)) ((e4)) tp ++ (wH E (q 0) ((iv (bq 0))) ((iv (sq 0))) c0 ++ (wH E (q 1) ((iv (bq 1))) ((iv (sq 1))) c1 ++ (wH E (q 2) ((iv (bq 2))) ((iv (sq 2))) c2 ++ (wH E (q 3) ((iv (bq 3))) ((iv (sq 3))) c3 ++ []))))))))) := h
    have e9 : q_read A bq sq cq ph 1 px po = ((-1000000006), (bump ph 5)) := by unfold q_read; (repeat (first | rw [if_pos (by omega)] | rw [if_neg (by omega)])); try rfl
    exact ret _ _ _ _ _ (((iv (ik)), fd6), ((hk), (nk), (k1, k2, k3, k4, k5, k6, k7, k8, k9)), ((iv (hr A)), (iv (pe A)), (xs, xi, xk, xc, xl, xr, xb, yl, yr)), ((ht), (nt), (t1, t2, t3, t4, t5, t6, t7, t8, t9)), ((iv (tn)), (e1), (e2), (e3), (e4), tp), ((iv (bq 0)), (iv (sq 0)), c0), ((iv (bq 1)), (iv (sq 1)), c1), ((iv (bq 2)), (iv (sq 2)), c2), ((iv (bq 3)), (iv (sq 3)), c3)) h (by rw [e9]; exact ⟨rfl, ⟨⟨rfl, rfl, hR, hI, hr9⟩, hK, hF6, hT, hB⟩⟩) dX4_read_33

set_option maxHeartbeats 4000000 in
theorem c_X4_read_2 (hS : RepC (((iv (ik)), fd), ((hk), (nk), (k1, k2, k3, k4, k5, k6, k7, k8, k9)), ((iv (hr A)), (iv (pe A)), (xs, xi, xk, xc, xl, xr, xb, yl, yr)), ((ht), (nt), (t1, t2, t3, t4, t5, t6, t7, t8, t9)), ((iv (tn)), (e1), (e2), (e3), (e4), tp), ((iv (bq 0)), (iv (sq 0)), c0), ((iv (bq 1)), (iv (sq 1)), c1), ((iv (bq 2)), (iv (sq 2)), c2), ((iv (bq 3)), (iv (sq 3)), c3)) (A, K, ik, ph, tq, tn, bq, sq, cq)) {px : Int} (r_px : r32 px) {po : Int} (r_po : r32 po) : MI (S := Tc) E l yX4_read cX4_read 8 (some FieldType.int) (rmk 5 112) (wO E a k b t x q ((iv (ik))) fd ++ (wS E k ((hk)) ((nk)) (k1, k2, k3, k4, k5, k6, k7, k8, k9) ++ (wS E b ((iv (hr A))) ((iv (pe A))) (xs, xi, xk, xc, xl, xr, xb, yl, yr) ++ (wS E t ((ht)) ((nt)) (t1, t2, t3, t4, t5, t6, t7, t8, t9) ++ (wX E x ((iv (tn))) ((e1)) ((e2)) ((e3)) ((e4)) tp ++ (wH E (q 0) ((iv (bq 0))) ((iv (sq 0))) c0 ++ (wH E (q 1) ((iv (bq 1))) ((iv (sq 1))) c1 ++ (wH E (q 2) ((iv (bq 2))) ((iv (sq 2))) c2 ++ (wH E (q 3) ((iv (bq 3))) ((iv (sq 3))) c3 ++ []))))))))) [.ref (a 0), .int (iv (2)), .int (iv (px)), .int (iv (po))] (fun r u => r = iv ((q_read A bq sq cq ph 2 px po).1) ∧ RepC u (A, K, ik, (q_read A bq sq cq ph 2 px po).2, tq, tn, bq, sq, cq)) (fun u => wT E a k b t x q u) := by
  refine goI (S := Tc) (post := fun r u => r = iv ((q_read A bq sq cq ph 2 px po).1) ∧ RepC u (A, K, ik, (q_read A bq sq cq ph 2 px po).2, tq, tn, bq, sq, cq)) (ws' := fun u => wT E a k b t x q u) (by decide) (Nat.le_of_ble_eq_true rfl) ?_
  intro pp e s m below meth c ls args Q ret X h hl
  have hl : lv_has ls 8 [(0, .ref (a 0)), (1, .int (iv (2))), (2, .int (iv (px))), (3, .int (iv (po)))] := hl
  have hR : RS (xs, xi, xk, xc, xl, xr, xb, yl, yr) A := hS.1.2.2.1
  have hI : IA A := hS.1.2.2.2.1
  have hr9 : hr A ≤ 99999 := hS.1.2.2.2.2
  have hF : RF 7 fd ph := hS.2.2.1
  have hK := hS.2.1
  have hT := hS.2.2.2.1
  have hB := hS.2.2.2.2
  have hh : hr A < 1000000 := by omega
  have n8 := hI.n8
  have n0 := hI.n0
  have h0 := hI.h0
  have ht0 : 0 ≤ tn := hS.2.2.2.1.2.1
  have ht1 : tn ≤ 120 := hS.2.2.2.1.2.2.1
  have hk01 : ik = 0 ∨ ik = 1 := hS.2.1.2.1
  have hB3 : okB bq sq := hS.2.2.2.2.1
  have hH0 : RepH (iv (bq 0), iv (sq 0), c0) bq sq cq 0 := hS.2.2.2.2.2.1
  have hH1 : RepH (iv (bq 1), iv (sq 1), c1) bq sq cq 1 := hS.2.2.2.2.2.2.1
  have hH2 : RepH (iv (bq 2), iv (sq 2), c2) bq sq cq 2 := hS.2.2.2.2.2.2.2.1
  have hH3 : RepH (iv (bq 3), iv (sq 3), c3) bq sq cq 3 := hS.2.2.2.2.2.2.2.2
  have ob2 := hB3.1 2 (by omega) (by omega)
  have zb2 := hB3.2 2 (by omega) (by omega)
  refine lv_aload_n X.1 X.2.1 dX4_read_0 rfl (lv_at hl 0 rfl) ?_
  refine lv_iload_n X.1 X.2.1 dX4_read_1 rfl (lv_at hl 1 rfl) ?_
  refine z_pq (run_V (rest := []) X h (c_sheetAt2) mi_X4_sheetAt ml_X4_184 ⟨Nat.le_of_ble_eq_true rfl, Nat.le_of_ble_eq_true rfl⟩ ⟨rfl, rfl⟩ (Seg.rfl' _) 3 0 rfl rfl rfl rfl hl.1 rfl (Nat.le_of_ble_eq_true rfl) ⟨Nat.zero_le _, Nat.zero_le _⟩ dX4_read_2) ?_
  refine W.eq (g2 := F0 m 5 ls [.ref (q 2 0)]) rfl ?_
  refine lv_astore (lv' := [(4, .ref (q 2 0)), (0, .ref (a 0)), (1, .int (iv (2))), (2, .int (iv (px))), (3, .int (iv (po)))]) X.1 X.2.1 dX4_read_5 hl (by decide) rfl (fun ls hl => ?_)
  refine lv_aload X.1 X.2.1 dX4_read_7 (lv_at hl 0 rfl) ?_
  refine lv_ifnonnull (tgt := 19) X.1 X.2.1 dX4_read_9 (by decide) ?_
  refine lv_aload X.1 X.2.1 dX4_read_19 (lv_at hl 0 rfl) ?_
  refine z_pi (run_V (rest := []) X (st_sing (st_in (st_in (st_in (st_in (st_in (st_in (st_in (st_nil h))))))))) (c_X0_isMissing (y := q 2) (bt := bq 2) ⟨by omega, by omega⟩) mi_X0_isMissing ml_X4_193 ⟨Nat.le_of_ble_eq_true rfl, Nat.le_of_ble_eq_true rfl⟩ ⟨rfl, rfl⟩ (Seg.mk' _ _) 0 39 rfl rfl rfl rfl hl.1 rfl (Nat.le_of_ble_eq_true rfl) ⟨Nat.zero_le _, Nat.zero_le _⟩ dX4_read_21) ?_
  refine z_ifb_eq (tgt := 34) X dX4_read_24 (by decide) (fun c_24 => ?_) (fun c_24 => ?_)
  · refine lv_aload_n X.1 X.2.1 dX4_read_34 rfl (lv_at hl 1 rfl) ?_
    refine lv_iload_n X.1 X.2.1 dX4_read_35 rfl (lv_at hl 3 rfl) ?_
    refine z_pi (run_V (rest := []) X h (c_X4_isPerson (p := px) hI r_px) mi_X4_isPerson ml_X4_94 ⟨Nat.le_of_ble_eq_true rfl, Nat.le_of_ble_eq_true rfl⟩ ⟨rfl, rfl⟩ (Seg.rfl' _) 3 0 rfl rfl rfl rfl hl.1 rfl (Nat.le_of_ble_eq_true rfl) ⟨Nat.zero_le _, Nat.zero_le _⟩ dX4_read_36) ?_
    refine z_ifb_eq (tgt := 55) X dX4_read_39 (by decide) (fun c_39 => ?_) (fun c_39 => ?_)
    · refine lv_aload_n X.1 X.2.1 dX4_read_55 rfl (lv_at hl 1 rfl) ?_
      refine z_ldc (z := (-1000000001)) X ct_X4_48 (by decide) dX4_read_56 ?_
      refine z_wi (st_sing (st_nil h)) (run_V (rest := []) X (st_sing (st_nil h)) (c_X4_finding (j := 0) hF (by decide) (by decide) (by decide)) mi_X4_finding ml_X4_49 ⟨Nat.le_of_ble_eq_true rfl, Nat.le_of_ble_eq_true rfl⟩ ⟨rfl, rfl⟩ (Seg.mk' _ _) 3 0 rfl rfl rfl rfl hl.1 rfl (Nat.le_of_ble_eq_true rfl) ⟨Nat.zero_le _, Nat.zero_le _⟩ dX4_read_58) (fun _ => map_app (wO_map _ _ _ _ _ _ _ _ _ _ _) rfl) (fun r fd1 H locs hp h => ?_)
      have h := (st_lin (st_gnis h))
      obtain ⟨rfl, hF1⟩ := hp
      have h : St E _ s H locs (wO E a k b t x q ((iv (ik))) fd1 ++ (wS E k ((hk)) ((nk)) (k1, k2, k3, k4, k5, k6, k7, k8, k9) ++ (wS E b ((iv (hr A))) ((iv (pe A))) (xs, xi, xk, xc, xl, xr, xb, yl, yr) ++ (wS E t ((ht)) ((nt)) (t1, t2, t3, t4, t5, t6, t7, t8, t9) ++ (wX E x ((iv (tn))) ((e1)) ((e2)) ((e3)) ((e4)) tp ++ (wH E (q 0) ((iv (bq 0))) ((iv (sq 0))) c0 ++ (wH E (q 1) ((iv (bq 1))) ((iv (sq 1))) c1 ++ (wH E (q 2) ((iv (bq 2))) ((iv (sq 2))) c2 ++ (wH E (q 3) ((iv (bq 3))) ((iv (sq 3))) c3 ++ []))))))))) := h
      have e9 : q_read A bq sq cq ph 2 px po = ((-1000000001), (bump ph 0)) := by unfold q_read; (repeat (first | rw [if_pos (by omega)] | rw [if_neg (by omega)])); try rfl
      exact ret _ _ _ _ _ (((iv (ik)), fd1), ((hk), (nk), (k1, k2, k3, k4, k5, k6, k7, k8, k9)), ((iv (hr A)), (iv (pe A)), (xs, xi, xk, xc, xl, xr, xb, yl, yr)), ((ht), (nt), (t1, t2, t3, t4, t5, t6, t7, t8, t9)), ((iv (tn)), (e1), (e2), (e3), (e4), tp), ((iv (bq 0)), (iv (sq 0)), c0), ((iv (bq 1)), (iv (sq 1)), c1), ((iv (bq 2)), (iv (sq 2)), c2), ((iv (bq 3)), (iv (sq 3)), c3)) h (by rw [e9]; exact ⟨rfl, ⟨⟨rfl, rfl, hR, hI, hr9⟩, hK, hF1, hT, hB⟩⟩) dX4_read_61
    · refine lv_aload_n X.1 X.2.1 dX4_read_42 rfl (lv_at hl 1 rfl) ?_
      refine lv_iload_n X.1 X.2.1 dX4_read_43 rfl (lv_at hl 4 rfl) ?_
      refine z_pi (run_V (rest := []) X h (c_X4_isPerson (p := po) hI r_po) mi_X4_isPerson ml_X4_94 ⟨Nat.le_of_ble_eq_true rfl, Nat.le_of_ble_eq_true rfl⟩ ⟨rfl, rfl⟩ (Seg.rfl' _) 3 0 rfl rfl rfl rfl hl.1 rfl (Nat.le_of_ble_eq_true rfl) ⟨Nat.zero_le _, Nat.zero_le _⟩ dX4_read_44) ?_
      refine z_ifb_eq (tgt := 55) X dX4_read_47 (by decide) (fun c_47 => ?_) (fun c_47 => ?_)
      · refine lv_aload_n X.1 X.2.1 dX4_read_55 rfl (lv_at hl 1 rfl) ?_
        refine z_ldc (z := (-1000000001)) X ct_X4_48 (by decide) dX4_read_56 ?_
        refine z_wi (st_sing (st_nil h)) (run_V (rest := []) X (st_sing (st_nil h)) (c_X4_finding (j := 0) hF (by decide) (by decide) (by decide)) mi_X4_finding ml_X4_49 ⟨Nat.le_of_ble_eq_true rfl, Nat.le_of_ble_eq_true rfl⟩ ⟨rfl, rfl⟩ (Seg.mk' _ _) 3 0 rfl rfl rfl rfl hl.1 rfl (Nat.le_of_ble_eq_true rfl) ⟨Nat.zero_le _, Nat.zero_le _⟩ dX4_read_58) (fun _ => map_app (wO_map _ _ _ _ _ _ _ _ _ _ _) rfl) (fun r fd2 H locs hp h => ?_)
        have h := (st_lin (st_gnis h))
        obtain ⟨rfl, hF2⟩ := hp
        have h : St E _ s H locs (wO E a k b t x q ((iv (ik))) fd2 ++ (wS E k ((hk)) ((nk)) (k1, k2, k3, k4, k5, k6, k7, k8, k9) ++ (wS E b ((iv (hr A))) ((iv (pe A))) (xs, xi, xk, xc, xl, xr, xb, yl, yr) ++ (wS E t ((ht)) ((nt)) (t1, t2, t3, t4, t5, t6, t7, t8, t9) ++ (wX E x ((iv (tn))) ((e1)) ((e2)) ((e3)) ((e4)) tp ++ (wH E (q 0) ((iv (bq 0))) ((iv (sq 0))) c0 ++ (wH E (q 1) ((iv (bq 1))) ((iv (sq 1))) c1 ++ (wH E (q 2) ((iv (bq 2))) ((iv (sq 2))) c2 ++ (wH E (q 3) ((iv (bq 3))) ((iv (sq 3))) c3 ++ []))))))))) := h
        have e9 : q_read A bq sq cq ph 2 px po = ((-1000000001), (bump ph 0)) := by unfold q_read; (repeat (first | rw [if_pos (by omega)] | rw [if_neg (by omega)])); try rfl
        exact ret _ _ _ _ _ (((iv (ik)), fd2), ((hk), (nk), (k1, k2, k3, k4, k5, k6, k7, k8, k9)), ((iv (hr A)), (iv (pe A)), (xs, xi, xk, xc, xl, xr, xb, yl, yr)), ((ht), (nt), (t1, t2, t3, t4, t5, t6, t7, t8, t9)), ((iv (tn)), (e1), (e2), (e3), (e4), tp), ((iv (bq 0)), (iv (sq 0)), c0), ((iv (bq 1)), (iv (sq 1)), c1), ((iv (bq 2)), (iv (sq 2)), c2), ((iv (bq 3)), (iv (sq 3)), c3)) h (by rw [e9]; exact ⟨rfl, ⟨⟨rfl, rfl, hR, hI, hr9⟩, hK, hF2, hT, hB⟩⟩) dX4_read_61
      · refine lv_iload_n X.1 X.2.1 dX4_read_50 rfl (lv_at hl 3 rfl) ?_
        refine lv_iload_n X.1 X.2.1 dX4_read_51 rfl (lv_at hl 4 rfl) ?_
        refine z_ic_ne (tgt := 62) X r_px r_po dX4_read_52 (by decide) (fun c_52 => ?_) (fun c_52 => ?_)
        · refine z_iconst X dX4_read_62 ?_
          refine lv_istore (lv' := [(5, .int (iv (0))), (4, .ref (q 2 0)), (0, .ref (a 0)), (1, .int (iv (2))), (2, .int (iv (px))), (3, .int (iv (po)))]) X.1 X.2.1 dX4_read_63 hl (by decide) rfl (fun ls hl => ?_)
          refine z_iconst X dX4_read_65 ?_
          refine lv_istore (lv' := [(6, .int (iv (0))), (5, .int (iv (0))), (4, .ref (q 2 0)), (0, .ref (a 0)), (1, .int (iv (2))), (2, .int (iv (px))), (3, .int (iv (po)))]) X.1 X.2.1 dX4_read_66 hl (by decide) rfl (fun ls hl => ?_)
          have L68 : ∀ (fuel_ : Nat) (kk : Int) (nn : Int) (th : Int32) (tm : Int32) (g1 : Nat → Int32) (g2 : Nat → Int32) (g3 : Nat → Int32) (g4 : Nat → Int32) (g5 : Nat → Int32) (g6 : Nat → Int32) (g7 : Nat → Int32) (g8 : Nat → Int32) (g9 : Nat → Int32), (0 ≤ kk) → (kk ≤ 6) → (nn = cntk (pairB A cq sq 2 px po) (6 * kk).toNat) → 6 - kk < (fuel_ : Int) → ∀ (H : Heap) (locs : List Loc), St E (wO E a k b t x q ((iv (ik))) fd ++ (wS E k ((hk)) ((nk)) (k1, k2, k3, k4, k5, k6, k7, k8, k9) ++ (wS E b ((iv (hr A))) ((iv (pe A))) (xs, xi, xk, xc, xl, xr, xb, yl, yr) ++ (wS E t ((ht)) ((nt)) (t1, t2, t3, t4, t5, t6, t7, t8, t9) ++ (wX E x ((iv (tn))) ((e1)) ((e2)) ((e3)) ((e4)) tp ++ (wH E (q 0) ((iv (bq 0))) ((iv (sq 0))) c0 ++ (wH E (q 1) ((iv (bq 1))) ((iv (sq 1))) c1 ++ (wH E (q 2) ((iv (bq 2))) ((iv (sq 2))) c2 ++ (wH E (q 3) ((iv (bq 3))) ((iv (sq 3))) c3 ++ []))))))))) s H locs (wO E a k b t x q ((iv (ik))) fd ++ (wS E k ((hk)) ((nk)) (k1, k2, k3, k4, k5, k6, k7, k8, k9) ++ (wS E b ((iv (hr A))) ((iv (pe A))) (xs, xi, xk, xc, xl, xr, xb, yl, yr) ++ (wS E t ((th)) ((tm)) (g1, g2, g3, g4, g5, g6, g7, g8, g9) ++ (wX E x ((iv (tn))) ((e1)) ((e2)) ((e3)) ((e4)) tp ++ (wH E (q 0) ((iv (bq 0))) ((iv (sq 0))) c0 ++ (wH E (q 1) ((iv (bq 1))) ((iv (sq 1))) c1 ++ (wH E (q 2) ((iv (bq 2))) ((iv (sq 2))) c2 ++ (wH E (q 3) ((iv (bq 3))) ((iv (sq 3))) c3 ++ []))))))))) → ∀ ls : Array Slot, lv_has ls 8 [(4, .ref (q 2 0)), (0, .ref (a 0)), (1, .int (iv (2))), (2, .int (iv (px))), (3, .int (iv (po))), (5, .int (iv (nn))), (6, .int (iv (kk)))] → W pp l e (rmk 5 112) s m args below meth c H locs 0 0 Q (F0 m 68 ls []) := by
            intro fuel_
            induction fuel_ with
            | zero =>
              intro kk nn th tm g1 g2 g3 g4 g5 g6 g7 g8 g9 k0 k1_ hk9 hn
              exfalso; omega
            | succ fuel_ ih_68 =>
              intro kk nn th tm g1 g2 g3 g4 g5 g6 g7 g8 g9 k0 k1_ hk9 hn H locs h ls hl
              refine lv_iload X.1 X.2.1 dX4_read_68 (lv_at hl 6 rfl) ?_
              refine z_bipush X (by decide) dX4_read_70 ?_
              refine z_ic_ge (tgt := 136) X ⟨by omega, by omega⟩ ⟨by decide, by decide⟩ dX4_read_72 (by decide) (fun c_72 => ?_) (fun c_72 => ?_)
              · refine lv_iload X.1 X.2.1 dX4_read_136 (lv_at hl 5 rfl) ?_
                have e9 : q_read A bq sq cq ph 2 px po = (nn, ph) := by unfold q_read; rw [if_neg (by omega), if_neg (by omega), if_neg (by omega), hk9, show kk = 6 by omega]; rfl
                exact ret _ _ _ _ _ (((iv (ik)), fd), ((hk), (nk), (k1, k2, k3, k4, k5, k6, k7, k8, k9)), ((iv (hr A)), (iv (pe A)), (xs, xi, xk, xc, xl, xr, xb, yl, yr)), ((th), (tm), (g1, g2, g3, g4, g5, g6, g7, g8, g9)), ((iv (tn)), (e1), (e2), (e3), (e4), tp), ((iv (bq 0)), (iv (sq 0)), c0), ((iv (bq 1)), (iv (sq 1)), c1), ((iv (bq 2)), (iv (sq 2)), c2), ((iv (bq 3)), (iv (sq 3)), c3)) h (by rw [e9]; exact ⟨rfl, ⟨⟨rfl, rfl, hR, hI, hr9⟩, hK, hF, hT, hB⟩⟩) dX4_read_138
              · refine z_iconst X dX4_read_75 ?_
                refine lv_istore (lv' := [(7, .int (iv (0))), (4, .ref (q 2 0)), (0, .ref (a 0)), (1, .int (iv (2))), (2, .int (iv (px))), (3, .int (iv (po))), (5, .int (iv (nn))), (6, .int (iv (kk)))]) X.1 X.2.1 dX4_read_76 hl (by decide) rfl (fun ls hl => ?_)
                have L78 : ∀ (fuel_ : Nat) (ll : Int) (n2 : Int) (th2 : Int32) (tm2 : Int32) (d1 : Nat → Int32) (d2 : Nat → Int32) (d3 : Nat → Int32) (d4 : Nat → Int32) (d5 : Nat → Int32) (d6 : Nat → Int32) (d7 : Nat → Int32) (d8 : Nat → Int32) (d9 : Nat → Int32), (0 ≤ ll) → (ll ≤ 6) → (n2 = cntk (pairB A cq sq 2 px po) (6 * kk + ll).toNat) → 6 - ll < (fuel_ : Int) → ∀ (H : Heap) (locs : List Loc), St E (wO E a k b t x q ((iv (ik))) fd ++ (wS E k ((hk)) ((nk)) (k1, k2, k3, k4, k5, k6, k7, k8, k9) ++ (wS E b ((iv (hr A))) ((iv (pe A))) (xs, xi, xk, xc, xl, xr, xb, yl, yr) ++ (wS E t ((ht)) ((nt)) (t1, t2, t3, t4, t5, t6, t7, t8, t9) ++ (wX E x ((iv (tn))) ((e1)) ((e2)) ((e3)) ((e4)) tp ++ (wH E (q 0) ((iv (bq 0))) ((iv (sq 0))) c0 ++ (wH E (q 1) ((iv (bq 1))) ((iv (sq 1))) c1 ++ (wH E (q 2) ((iv (bq 2))) ((iv (sq 2))) c2 ++ (wH E (q 3) ((iv (bq 3))) ((iv (sq 3))) c3 ++ []))))))))) s H locs (wO E a k b t x q ((iv (ik))) fd ++ (wS E k ((hk)) ((nk)) (k1, k2, k3, k4, k5, k6, k7, k8, k9) ++ (wS E b ((iv (hr A))) ((iv (pe A))) (xs, xi, xk, xc, xl, xr, xb, yl, yr) ++ (wS E t ((th2)) ((tm2)) (d1, d2, d3, d4, d5, d6, d7, d8, d9) ++ (wX E x ((iv (tn))) ((e1)) ((e2)) ((e3)) ((e4)) tp ++ (wH E (q 0) ((iv (bq 0))) ((iv (sq 0))) c0 ++ (wH E (q 1) ((iv (bq 1))) ((iv (sq 1))) c1 ++ (wH E (q 2) ((iv (bq 2))) ((iv (sq 2))) c2 ++ (wH E (q 3) ((iv (bq 3))) ((iv (sq 3))) c3 ++ []))))))))) → ∀ ls : Array Slot, lv_has ls 8 [(4, .ref (q 2 0)), (0, .ref (a 0)), (1, .int (iv (2))), (2, .int (iv (px))), (3, .int (iv (po))), (6, .int (iv (kk))), (5, .int (iv (n2))), (7, .int (iv (ll)))] → W pp l e (rmk 5 112) s m args below meth c H locs 0 0 Q (F0 m 78 ls []) := by
                  intro fuel_
                  induction fuel_ with
                  | zero =>
                    intro ll n2 th2 tm2 d1 d2 d3 d4 d5 d6 d7 d8 d9 l0 l1 hk2 hn
                    exfalso; omega
                  | succ fuel_ ih_78 =>
                    intro ll n2 th2 tm2 d1 d2 d3 d4 d5 d6 d7 d8 d9 l0 l1 hk2 hn H locs h ls hl
                    refine lv_iload X.1 X.2.1 dX4_read_78 (lv_at hl 7 rfl) ?_
                    refine z_bipush X (by decide) dX4_read_80 ?_
                    refine z_ic_ge (tgt := 130) X ⟨by omega, by omega⟩ ⟨by decide, by decide⟩ dX4_read_82 (by decide) (fun c_82 => ?_) (fun c_82 => ?_)
                    · refine z_iinc (k := 5) (lv' := [(6, .int (iv (kk + 1))), (4, .ref (q 2 0)), (0, .ref (a 0)), (1, .int (iv (2))), (2, .int (iv (px))), (3, .int (iv (po))), (5, .int (iv (n2))), (7, .int (iv (ll)))]) X dX4_read_130 hl rfl (by decide) rfl (fun ls hl => ?_)
                      refine lv_goto (tgt := 68) X.1 X.2.1 dX4_read_133 (by decide) ?_
                      exact ih_68 (kk + 1) (n2) ((th2)) ((tm2)) (d1) (d2) (d3) (d4) (d5) (d6) (d7) (d8) (d9) (by omega) (by omega) (by rw [hk2, show 6 * (kk + 1) = 6 * kk + ll by omega]) (by omega) _ _ h ls (lv_sub hl [1, 2, 3, 4, 5, 6, 0] rfl)
                    · refine lv_aload_n X.1 X.2.1 dX4_read_85 rfl (lv_at hl 1 rfl) ?_
                      refine z_av h (run_V (rest := []) X h (c_X4_startTrial hR hI.n8) mi_X4_startTrial ml_X4_150 ⟨Nat.le_of_ble_eq_true rfl, Nat.le_of_ble_eq_true rfl⟩ ⟨rfl, rfl⟩ (Seg.rfl' _) 3 0 rfl rfl rfl rfl hl.1 rfl (Nat.le_of_ble_eq_true rfl) ⟨Nat.zero_le _, Nat.zero_le _⟩ dX4_read_86) (fun _ => map_app rfl (map_app rfl (map_app rfl (map_app (wS_map _ _ _ _ _ _ _ _) rfl)))) (fun u H locs hp h => ?_)
                      obtain ⟨r0_3, r1_3, r2_3, r3_3, r4_3, r5_3, r6_3, r7_3, r8_3⟩ := u
                      have h : St E _ s H locs (wO E a k b t x q ((iv (ik))) fd ++ (wS E k ((hk)) ((nk)) (k1, k2, k3, k4, k5, k6, k7, k8, k9) ++ (wS E b ((iv (hr A))) ((iv (pe A))) (xs, xi, xk, xc, xl, xr, xb, yl, yr) ++ (wS E t ((iv (hr A))) ((iv (pe A))) (r0_3, r1_3, r2_3, r3_3, r4_3, r5_3, r6_3, r7_3, r8_3) ++ (wX E x ((iv (tn))) ((e1)) ((e2)) ((e3)) ((e4)) tp ++ (wH E (q 0) ((iv (bq 0))) ((iv (sq 0))) c0 ++ (wH E (q 1) ((iv (bq 1))) ((iv (sq 1))) c1 ++ (wH E (q 2) ((iv (bq 2))) ((iv (sq 2))) c2 ++ (wH E (q 3) ((iv (bq 3))) ((iv (sq 3))) c3 ++ []))))))))) := h
                      have hRb3 : RS (r0_3, r1_3, r2_3, r3_3, r4_3, r5_3, r6_3, r7_3, r8_3) A := hp
                      refine lv_aload_n X.1 X.2.1 dX4_read_89 rfl (lv_at hl 1 rfl) ?_
                      refine z_get X h 3 0 1 rfl inX4 rfl (by decide) fl_X4_16 rfl dX4_read_90 ?_
                      refine z_get X h 1 23 4 rfl inX1 rfl (by decide) fl_X4_97 rfl dX4_read_93 ?_
                      refine lv_iload_n X.1 X.2.1 dX4_read_96 rfl (lv_at hl 3 rfl) ?_
                      refine lv_iload X.1 X.2.1 dX4_read_97 (lv_at hl 5 rfl) ?_
                      refine s_iast X (st_in (st_in (st_in (st_nil h)))) 3 rfl (by omega) (by omega) (by decide) dX4_read_99 (fun H locs h => ?_)
                      have h := (st_lin (st_out (st_out (st_out (st_eq wS_kinds h)))))
                      have h : St E _ s H locs (wO E a k b t x q ((iv (ik))) fd ++ (wS E k ((hk)) ((nk)) (k1, k2, k3, k4, k5, k6, k7, k8, k9) ++ (wS E b ((iv (hr A))) ((iv (pe A))) (xs, xi, xk, xc, xl, xr, xb, yl, yr) ++ (wS E t ((iv (hr A))) ((iv (pe A))) (r0_3, r1_3, (upd r2_3 (px : Int).toNat (iv (kk))), r3_3, r4_3, r5_3, r6_3, r7_3, r8_3) ++ (wX E x ((iv (tn))) ((e1)) ((e2)) ((e3)) ((e4)) tp ++ (wH E (q 0) ((iv (bq 0))) ((iv (sq 0))) c0 ++ (wH E (q 1) ((iv (bq 1))) ((iv (sq 1))) c1 ++ (wH E (q 2) ((iv (bq 2))) ((iv (sq 2))) c2 ++ (wH E (q 3) ((iv (bq 3))) ((iv (sq 3))) c3 ++ []))))))))) := h
                      have tR1 : RS (r0_3, r1_3, (upd r2_3 (px : Int).toNat (iv (kk))), r3_3, r4_3, r5_3, r6_3, r7_3, r8_3) (pu A 0 px kk) := RS_ki hRb3 n0 (by omega)
                      refine lv_aload_n X.1 X.2.1 dX4_read_100 rfl (lv_at hl 1 rfl) ?_
                      refine z_get X h 3 0 1 rfl inX4 rfl (by decide) fl_X4_16 rfl dX4_read_101 ?_
                      refine z_get X h 1 23 4 rfl inX1 rfl (by decide) fl_X4_97 rfl dX4_read_104 ?_
                      refine lv_iload_n X.1 X.2.1 dX4_read_107 rfl (lv_at hl 4 rfl) ?_
                      refine lv_iload X.1 X.2.1 dX4_read_108 (lv_at hl 7 rfl) ?_
                      refine s_iast X (st_in (st_in (st_in (st_nil h)))) 3 rfl (by omega) (by omega) (by decide) dX4_read_110 (fun H locs h => ?_)
                      have h := (st_lin (st_out (st_out (st_out (st_eq wS_kinds h)))))
                      have h : St E _ s H locs (wO E a k b t x q ((iv (ik))) fd ++ (wS E k ((hk)) ((nk)) (k1, k2, k3, k4, k5, k6, k7, k8, k9) ++ (wS E b ((iv (hr A))) ((iv (pe A))) (xs, xi, xk, xc, xl, xr, xb, yl, yr) ++ (wS E t ((iv (hr A))) ((iv (pe A))) (r0_3, r1_3, (upd (upd r2_3 (px : Int).toNat (iv (kk))) (po : Int).toNat (iv (ll))), r3_3, r4_3, r5_3, r6_3, r7_3, r8_3) ++ (wX E x ((iv (tn))) ((e1)) ((e2)) ((e3)) ((e4)) tp ++ (wH E (q 0) ((iv (bq 0))) ((iv (sq 0))) c0 ++ (wH E (q 1) ((iv (bq 1))) ((iv (sq 1))) c1 ++ (wH E (q 2) ((iv (bq 2))) ((iv (sq 2))) c2 ++ (wH E (q 3) ((iv (bq 3))) ((iv (sq 3))) c3 ++ []))))))))) := h
                      have tR2 : RS (r0_3, r1_3, (upd (upd r2_3 (px : Int).toNat (iv (kk))) (po : Int).toNat (iv (ll))), r3_3, r4_3, r5_3, r6_3, r7_3, r8_3) (pu (pu A 0 px kk) 0 po ll) := RS_ki tR1 n0 (by omega)
                      have tI2 : IA (pu (pu A 0 px kk) 0 po ll) := IA_pu (IA_pu hI (by omega) (by omega) (Or.inl ⟨rfl, by omega, by omega⟩)) (by omega) (show po < pe A by omega) (Or.inl ⟨rfl, by omega, by omega⟩)
                      have ep : pairB A cq sq 2 px po (6 * kk + ll) = isb (cq 2) (pu (pu A 0 px kk) 0 po ll) px (sq 2).toNat := by unfold pairB; rw [show (6 * kk + ll) / 6 = kk by omega, show (6 * kk + ll) % 6 = ll by omega]
                      refine lv_aload_n X.1 X.2.1 dX4_read_111 rfl (lv_at hl 1 rfl) ?_
                      refine lv_aload X.1 X.2.1 dX4_read_112 (lv_at hl 0 rfl) ?_
                      refine lv_iload_n X.1 X.2.1 dX4_read_114 rfl (lv_at hl 3 rfl) ?_
                      refine z_ai h (run_V (rest := []) X h (c_X4_trialGoesAs_2 (Bb := (pu (pu A 0 px kk) 0 po ll)) (pz := px) tR2 tI2 (show hr A < 200000 by omega) hH2 (by omega) (by omega) (by omega) (show px < pe A by omega)) mi_X4_trialGoesAs ml_X4_220 ⟨Nat.le_of_ble_eq_true rfl, Nat.le_of_ble_eq_true rfl⟩ ⟨rfl, rfl⟩ (Seg.rfl' _) 3 0 rfl rfl rfl rfl hl.1 rfl (Nat.le_of_ble_eq_true rfl) ⟨Nat.zero_le _, Nat.zero_le _⟩ dX4_read_115) (fun _ => map_app rfl (map_app rfl (map_app rfl (map_app (wS_map _ _ _ _ _ _ _ _) rfl)))) (fun r u H locs hp h => ?_)
                      obtain ⟨th4, tm4, r0_4, r1_4, r2_4, r3_4, r4_4, r5_4, r6_4, r7_4, r8_4⟩ := u
                      subst hp
                      have h : St E _ s H locs (wO E a k b t x q ((iv (ik))) fd ++ (wS E k ((hk)) ((nk)) (k1, k2, k3, k4, k5, k6, k7, k8, k9) ++ (wS E b ((iv (hr A))) ((iv (pe A))) (xs, xi, xk, xc, xl, xr, xb, yl, yr) ++ (wS E t ((th4)) ((tm4)) (r0_4, r1_4, r2_4, r3_4, r4_4, r5_4, r6_4, r7_4, r8_4) ++ (wX E x ((iv (tn))) ((e1)) ((e2)) ((e3)) ((e4)) tp ++ (wH E (q 0) ((iv (bq 0))) ((iv (sq 0))) c0 ++ (wH E (q 1) ((iv (bq 1))) ((iv (sq 1))) c1 ++ (wH E (q 2) ((iv (bq 2))) ((iv (sq 2))) c2 ++ (wH E (q 3) ((iv (bq 3))) ((iv (sq 3))) c3 ++ []))))))))) := h
                      refine z_ifb_eq (tgt := 124) X dX4_read_118 (by decide) (fun c_118 => ?_) (fun c_118 => ?_)
                      · have hy9 : ¬ pairB A cq sq 2 px po (6 * kk + ll) = true := by rw [ep]; exact c_118
                        refine z_iinc (k := 7) (lv' := [(7, .int (iv (ll + 1))), (4, .ref (q 2 0)), (0, .ref (a 0)), (1, .int (iv (2))), (2, .int (iv (px))), (3, .int (iv (po))), (6, .int (iv (kk))), (5, .int (iv (n2)))]) X dX4_read_124 hl rfl (by decide) rfl (fun ls hl => ?_)
                        refine lv_goto (tgt := 78) X.1 X.2.1 dX4_read_127 (by decide) ?_
                        exact ih_78 (ll + 1) (n2) ((th4)) ((tm4)) (r0_4) (r1_4) (r2_4) (r3_4) (r4_4) (r5_4) (r6_4) (r7_4) (r8_4) (by omega) (by omega) (by rw [show 6 * kk + (ll + 1) = 6 * kk + ll + 1 by omega, cntk_n (by omega) hy9, hk2]; omega) (by omega) _ _ h ls (lv_sub hl [1, 2, 3, 4, 5, 6, 7, 0] rfl)
                      · have hy9 : pairB A cq sq 2 px po (6 * kk + ll) = true := by rw [ep]; exact c_118
                        refine z_iinc (k := 6) (lv' := [(5, .int (iv (n2 + 1))), (4, .ref (q 2 0)), (0, .ref (a 0)), (1, .int (iv (2))), (2, .int (iv (px))), (3, .int (iv (po))), (6, .int (iv (kk))), (7, .int (iv (ll)))]) X dX4_read_121 hl rfl (by decide) rfl (fun ls hl => ?_)
                        refine z_iinc (k := 7) (lv' := [(7, .int (iv (ll + 1))), (5, .int (iv (n2 + 1))), (4, .ref (q 2 0)), (0, .ref (a 0)), (1, .int (iv (2))), (2, .int (iv (px))), (3, .int (iv (po))), (6, .int (iv (kk)))]) X dX4_read_124 hl rfl (by decide) rfl (fun ls hl => ?_)
                        refine lv_goto (tgt := 78) X.1 X.2.1 dX4_read_127 (by decide) ?_
                        exact ih_78 (ll + 1) (n2 + 1) ((th4)) ((tm4)) (r0_4) (r1_4) (r2_4) (r3_4) (r4_4) (r5_4) (r6_4) (r7_4) (r8_4) (by omega) (by omega) (by rw [show 6 * kk + (ll + 1) = 6 * kk + ll + 1 by omega, cntk_y (by omega) hy9, hk2]) (by omega) _ _ h ls (lv_sub hl [2, 3, 4, 5, 6, 7, 1, 0] rfl)
                exact L78 ((6 - (0) : Int).toNat + 1) (0) (nn) ((th)) ((tm)) (g1) (g2) (g3) (g4) (g5) (g6) (g7) (g8) (g9) (by omega) (by omega) (by rw [hk9, Int.add_zero]) (by omega) _ _ h ls (lv_sub hl [1, 2, 3, 4, 5, 7, 6, 0] rfl)
          exact L68 ((6 - (0) : Int).toNat + 1) (0) (0) ((ht)) ((nt)) (t1) (t2) (t3) (t4) (t5) (t6) (t7) (t8) (t9) (by omega) (by omega) (rfl) (by omega) _ _ h ls (lv_sub hl [2, 3, 4, 5, 6, 1, 0] rfl)
        · refine lv_aload_n X.1 X.2.1 dX4_read_55 rfl (lv_at hl 1 rfl) ?_
          refine z_ldc (z := (-1000000001)) X ct_X4_48 (by decide) dX4_read_56 ?_
          refine z_wi (st_sing (st_nil h)) (run_V (rest := []) X (st_sing (st_nil h)) (c_X4_finding (j := 0) hF (by decide) (by decide) (by decide)) mi_X4_finding ml_X4_49 ⟨Nat.le_of_ble_eq_true rfl, Nat.le_of_ble_eq_true rfl⟩ ⟨rfl, rfl⟩ (Seg.mk' _ _) 3 0 rfl rfl rfl rfl hl.1 rfl (Nat.le_of_ble_eq_true rfl) ⟨Nat.zero_le _, Nat.zero_le _⟩ dX4_read_58) (fun _ => map_app (wO_map _ _ _ _ _ _ _ _ _ _ _) rfl) (fun r fd5 H locs hp h => ?_)
          have h := (st_lin (st_gnis h))
          obtain ⟨rfl, hF5⟩ := hp
          have h : St E _ s H locs (wO E a k b t x q ((iv (ik))) fd5 ++ (wS E k ((hk)) ((nk)) (k1, k2, k3, k4, k5, k6, k7, k8, k9) ++ (wS E b ((iv (hr A))) ((iv (pe A))) (xs, xi, xk, xc, xl, xr, xb, yl, yr) ++ (wS E t ((ht)) ((nt)) (t1, t2, t3, t4, t5, t6, t7, t8, t9) ++ (wX E x ((iv (tn))) ((e1)) ((e2)) ((e3)) ((e4)) tp ++ (wH E (q 0) ((iv (bq 0))) ((iv (sq 0))) c0 ++ (wH E (q 1) ((iv (bq 1))) ((iv (sq 1))) c1 ++ (wH E (q 2) ((iv (bq 2))) ((iv (sq 2))) c2 ++ (wH E (q 3) ((iv (bq 3))) ((iv (sq 3))) c3 ++ []))))))))) := h
          have e9 : q_read A bq sq cq ph 2 px po = ((-1000000001), (bump ph 0)) := by unfold q_read; (repeat (first | rw [if_pos (by omega)] | rw [if_neg (by omega)])); try rfl
          exact ret _ _ _ _ _ (((iv (ik)), fd5), ((hk), (nk), (k1, k2, k3, k4, k5, k6, k7, k8, k9)), ((iv (hr A)), (iv (pe A)), (xs, xi, xk, xc, xl, xr, xb, yl, yr)), ((ht), (nt), (t1, t2, t3, t4, t5, t6, t7, t8, t9)), ((iv (tn)), (e1), (e2), (e3), (e4), tp), ((iv (bq 0)), (iv (sq 0)), c0), ((iv (bq 1)), (iv (sq 1)), c1), ((iv (bq 2)), (iv (sq 2)), c2), ((iv (bq 3)), (iv (sq 3)), c3)) h (by rw [e9]; exact ⟨rfl, ⟨⟨rfl, rfl, hR, hI, hr9⟩, hK, hF5, hT, hB⟩⟩) dX4_read_61
  · refine lv_aload_n X.1 X.2.1 dX4_read_27 rfl (lv_at hl 1 rfl) ?_
    refine z_ldc (z := (-1000000006)) X ct_X4_197 (by decide) dX4_read_28 ?_
    refine z_wi (st_sing (st_nil h)) (run_V (rest := []) X (st_sing (st_nil h)) (c_X4_finding (j := 5) hF (by decide) (by decide) (by decide)) mi_X4_finding ml_X4_49 ⟨Nat.le_of_ble_eq_true rfl, Nat.le_of_ble_eq_true rfl⟩ ⟨rfl, rfl⟩ (Seg.mk' _ _) 3 0 rfl rfl rfl rfl hl.1 rfl (Nat.le_of_ble_eq_true rfl) ⟨Nat.zero_le _, Nat.zero_le _⟩ dX4_read_30) (fun _ => map_app (wO_map _ _ _ _ _ _ _ _ _ _ _) rfl) (fun r fd6 H locs hp h => ?_)
    have h := (st_lin (st_gnis h))
    obtain ⟨rfl, hF6⟩ := hp
    have h : St E _ s H locs (wO E a k b t x q ((iv (ik))) fd6 ++ (wS E k ((hk)) ((nk)) (k1, k2, k3, k4, k5, k6, k7, k8, k9) ++ (wS E b ((iv (hr A))) ((iv (pe A))) (xs, xi, xk, xc, xl, xr, xb, yl, yr) ++ (wS E t ((ht)) ((nt)) (t1, t2, t3, t4, t5, t6, t7, t8, t9) ++ (wX E x ((iv (tn))) ((e1)) ((e2)) ((e3)) ((e4)) tp ++ (wH E (q 0) ((iv (bq 0))) ((iv (sq 0))) c0 ++ (wH E (q 1) ((iv (bq 1))) ((iv (sq 1))) c1 ++ (wH E (q 2) ((iv (bq 2))) ((iv (sq 2))) c2 ++ (wH E (q 3) ((iv (bq 3))) ((iv (sq 3))) c3 ++ []))))))))) := h
    have e9 : q_read A bq sq cq ph 2 px po = ((-1000000006), (bump ph 5)) := by unfold q_read; (repeat (first | rw [if_pos (by omega)] | rw [if_neg (by omega)])); try rfl
    exact ret _ _ _ _ _ (((iv (ik)), fd6), ((hk), (nk), (k1, k2, k3, k4, k5, k6, k7, k8, k9)), ((iv (hr A)), (iv (pe A)), (xs, xi, xk, xc, xl, xr, xb, yl, yr)), ((ht), (nt), (t1, t2, t3, t4, t5, t6, t7, t8, t9)), ((iv (tn)), (e1), (e2), (e3), (e4), tp), ((iv (bq 0)), (iv (sq 0)), c0), ((iv (bq 1)), (iv (sq 1)), c1), ((iv (bq 2)), (iv (sq 2)), c2), ((iv (bq 3)), (iv (sq 3)), c3)) h (by rw [e9]; exact ⟨rfl, ⟨⟨rfl, rfl, hR, hI, hr9⟩, hK, hF6, hT, hB⟩⟩) dX4_read_33

set_option maxHeartbeats 4000000 in
theorem c_X4_read_3 (hS : RepC (((iv (ik)), fd), ((hk), (nk), (k1, k2, k3, k4, k5, k6, k7, k8, k9)), ((iv (hr A)), (iv (pe A)), (xs, xi, xk, xc, xl, xr, xb, yl, yr)), ((ht), (nt), (t1, t2, t3, t4, t5, t6, t7, t8, t9)), ((iv (tn)), (e1), (e2), (e3), (e4), tp), ((iv (bq 0)), (iv (sq 0)), c0), ((iv (bq 1)), (iv (sq 1)), c1), ((iv (bq 2)), (iv (sq 2)), c2), ((iv (bq 3)), (iv (sq 3)), c3)) (A, K, ik, ph, tq, tn, bq, sq, cq)) {px : Int} (r_px : r32 px) {po : Int} (r_po : r32 po) : MI (S := Tc) E l yX4_read cX4_read 8 (some FieldType.int) (rmk 5 112) (wO E a k b t x q ((iv (ik))) fd ++ (wS E k ((hk)) ((nk)) (k1, k2, k3, k4, k5, k6, k7, k8, k9) ++ (wS E b ((iv (hr A))) ((iv (pe A))) (xs, xi, xk, xc, xl, xr, xb, yl, yr) ++ (wS E t ((ht)) ((nt)) (t1, t2, t3, t4, t5, t6, t7, t8, t9) ++ (wX E x ((iv (tn))) ((e1)) ((e2)) ((e3)) ((e4)) tp ++ (wH E (q 0) ((iv (bq 0))) ((iv (sq 0))) c0 ++ (wH E (q 1) ((iv (bq 1))) ((iv (sq 1))) c1 ++ (wH E (q 2) ((iv (bq 2))) ((iv (sq 2))) c2 ++ (wH E (q 3) ((iv (bq 3))) ((iv (sq 3))) c3 ++ []))))))))) [.ref (a 0), .int (iv (3)), .int (iv (px)), .int (iv (po))] (fun r u => r = iv ((q_read A bq sq cq ph 3 px po).1) ∧ RepC u (A, K, ik, (q_read A bq sq cq ph 3 px po).2, tq, tn, bq, sq, cq)) (fun u => wT E a k b t x q u) := by
  refine goI (S := Tc) (post := fun r u => r = iv ((q_read A bq sq cq ph 3 px po).1) ∧ RepC u (A, K, ik, (q_read A bq sq cq ph 3 px po).2, tq, tn, bq, sq, cq)) (ws' := fun u => wT E a k b t x q u) (by decide) (Nat.le_of_ble_eq_true rfl) ?_
  intro pp e s m below meth c ls args Q ret X h hl
  have hl : lv_has ls 8 [(0, .ref (a 0)), (1, .int (iv (3))), (2, .int (iv (px))), (3, .int (iv (po)))] := hl
  have hR : RS (xs, xi, xk, xc, xl, xr, xb, yl, yr) A := hS.1.2.2.1
  have hI : IA A := hS.1.2.2.2.1
  have hr9 : hr A ≤ 99999 := hS.1.2.2.2.2
  have hF : RF 7 fd ph := hS.2.2.1
  have hK := hS.2.1
  have hT := hS.2.2.2.1
  have hB := hS.2.2.2.2
  have hh : hr A < 1000000 := by omega
  have n8 := hI.n8
  have n0 := hI.n0
  have h0 := hI.h0
  have ht0 : 0 ≤ tn := hS.2.2.2.1.2.1
  have ht1 : tn ≤ 120 := hS.2.2.2.1.2.2.1
  have hk01 : ik = 0 ∨ ik = 1 := hS.2.1.2.1
  have hB3 : okB bq sq := hS.2.2.2.2.1
  have hH0 : RepH (iv (bq 0), iv (sq 0), c0) bq sq cq 0 := hS.2.2.2.2.2.1
  have hH1 : RepH (iv (bq 1), iv (sq 1), c1) bq sq cq 1 := hS.2.2.2.2.2.2.1
  have hH2 : RepH (iv (bq 2), iv (sq 2), c2) bq sq cq 2 := hS.2.2.2.2.2.2.2.1
  have hH3 : RepH (iv (bq 3), iv (sq 3), c3) bq sq cq 3 := hS.2.2.2.2.2.2.2.2
  have ob3 := hB3.1 3 (by omega) (by omega)
  have zb3 := hB3.2 3 (by omega) (by omega)
  refine lv_aload_n X.1 X.2.1 dX4_read_0 rfl (lv_at hl 0 rfl) ?_
  refine lv_iload_n X.1 X.2.1 dX4_read_1 rfl (lv_at hl 1 rfl) ?_
  refine z_pq (run_V (rest := []) X h (c_sheetAt3) mi_X4_sheetAt ml_X4_184 ⟨Nat.le_of_ble_eq_true rfl, Nat.le_of_ble_eq_true rfl⟩ ⟨rfl, rfl⟩ (Seg.rfl' _) 3 0 rfl rfl rfl rfl hl.1 rfl (Nat.le_of_ble_eq_true rfl) ⟨Nat.zero_le _, Nat.zero_le _⟩ dX4_read_2) ?_
  refine W.eq (g2 := F0 m 5 ls [.ref (q 3 0)]) rfl ?_
  refine lv_astore (lv' := [(4, .ref (q 3 0)), (0, .ref (a 0)), (1, .int (iv (3))), (2, .int (iv (px))), (3, .int (iv (po)))]) X.1 X.2.1 dX4_read_5 hl (by decide) rfl (fun ls hl => ?_)
  refine lv_aload X.1 X.2.1 dX4_read_7 (lv_at hl 0 rfl) ?_
  refine lv_ifnonnull (tgt := 19) X.1 X.2.1 dX4_read_9 (by decide) ?_
  refine lv_aload X.1 X.2.1 dX4_read_19 (lv_at hl 0 rfl) ?_
  refine z_pi (run_V (rest := []) X (st_sing (st_in (st_in (st_in (st_in (st_in (st_in (st_in (st_in (st_nil h)))))))))) (c_X0_isMissing (y := q 3) (bt := bq 3) ⟨by omega, by omega⟩) mi_X0_isMissing ml_X4_193 ⟨Nat.le_of_ble_eq_true rfl, Nat.le_of_ble_eq_true rfl⟩ ⟨rfl, rfl⟩ (Seg.mk' _ _) 0 41 rfl rfl rfl rfl hl.1 rfl (Nat.le_of_ble_eq_true rfl) ⟨Nat.zero_le _, Nat.zero_le _⟩ dX4_read_21) ?_
  refine z_ifb_eq (tgt := 34) X dX4_read_24 (by decide) (fun c_24 => ?_) (fun c_24 => ?_)
  · refine lv_aload_n X.1 X.2.1 dX4_read_34 rfl (lv_at hl 1 rfl) ?_
    refine lv_iload_n X.1 X.2.1 dX4_read_35 rfl (lv_at hl 3 rfl) ?_
    refine z_pi (run_V (rest := []) X h (c_X4_isPerson (p := px) hI r_px) mi_X4_isPerson ml_X4_94 ⟨Nat.le_of_ble_eq_true rfl, Nat.le_of_ble_eq_true rfl⟩ ⟨rfl, rfl⟩ (Seg.rfl' _) 3 0 rfl rfl rfl rfl hl.1 rfl (Nat.le_of_ble_eq_true rfl) ⟨Nat.zero_le _, Nat.zero_le _⟩ dX4_read_36) ?_
    refine z_ifb_eq (tgt := 55) X dX4_read_39 (by decide) (fun c_39 => ?_) (fun c_39 => ?_)
    · refine lv_aload_n X.1 X.2.1 dX4_read_55 rfl (lv_at hl 1 rfl) ?_
      refine z_ldc (z := (-1000000001)) X ct_X4_48 (by decide) dX4_read_56 ?_
      refine z_wi (st_sing (st_nil h)) (run_V (rest := []) X (st_sing (st_nil h)) (c_X4_finding (j := 0) hF (by decide) (by decide) (by decide)) mi_X4_finding ml_X4_49 ⟨Nat.le_of_ble_eq_true rfl, Nat.le_of_ble_eq_true rfl⟩ ⟨rfl, rfl⟩ (Seg.mk' _ _) 3 0 rfl rfl rfl rfl hl.1 rfl (Nat.le_of_ble_eq_true rfl) ⟨Nat.zero_le _, Nat.zero_le _⟩ dX4_read_58) (fun _ => map_app (wO_map _ _ _ _ _ _ _ _ _ _ _) rfl) (fun r fd1 H locs hp h => ?_)
      have h := (st_lin (st_gnis h))
      obtain ⟨rfl, hF1⟩ := hp
      have h : St E _ s H locs (wO E a k b t x q ((iv (ik))) fd1 ++ (wS E k ((hk)) ((nk)) (k1, k2, k3, k4, k5, k6, k7, k8, k9) ++ (wS E b ((iv (hr A))) ((iv (pe A))) (xs, xi, xk, xc, xl, xr, xb, yl, yr) ++ (wS E t ((ht)) ((nt)) (t1, t2, t3, t4, t5, t6, t7, t8, t9) ++ (wX E x ((iv (tn))) ((e1)) ((e2)) ((e3)) ((e4)) tp ++ (wH E (q 0) ((iv (bq 0))) ((iv (sq 0))) c0 ++ (wH E (q 1) ((iv (bq 1))) ((iv (sq 1))) c1 ++ (wH E (q 2) ((iv (bq 2))) ((iv (sq 2))) c2 ++ (wH E (q 3) ((iv (bq 3))) ((iv (sq 3))) c3 ++ []))))))))) := h
      have e9 : q_read A bq sq cq ph 3 px po = ((-1000000001), (bump ph 0)) := by unfold q_read; (repeat (first | rw [if_pos (by omega)] | rw [if_neg (by omega)])); try rfl
      exact ret _ _ _ _ _ (((iv (ik)), fd1), ((hk), (nk), (k1, k2, k3, k4, k5, k6, k7, k8, k9)), ((iv (hr A)), (iv (pe A)), (xs, xi, xk, xc, xl, xr, xb, yl, yr)), ((ht), (nt), (t1, t2, t3, t4, t5, t6, t7, t8, t9)), ((iv (tn)), (e1), (e2), (e3), (e4), tp), ((iv (bq 0)), (iv (sq 0)), c0), ((iv (bq 1)), (iv (sq 1)), c1), ((iv (bq 2)), (iv (sq 2)), c2), ((iv (bq 3)), (iv (sq 3)), c3)) h (by rw [e9]; exact ⟨rfl, ⟨⟨rfl, rfl, hR, hI, hr9⟩, hK, hF1, hT, hB⟩⟩) dX4_read_61
    · refine lv_aload_n X.1 X.2.1 dX4_read_42 rfl (lv_at hl 1 rfl) ?_
      refine lv_iload_n X.1 X.2.1 dX4_read_43 rfl (lv_at hl 4 rfl) ?_
      refine z_pi (run_V (rest := []) X h (c_X4_isPerson (p := po) hI r_po) mi_X4_isPerson ml_X4_94 ⟨Nat.le_of_ble_eq_true rfl, Nat.le_of_ble_eq_true rfl⟩ ⟨rfl, rfl⟩ (Seg.rfl' _) 3 0 rfl rfl rfl rfl hl.1 rfl (Nat.le_of_ble_eq_true rfl) ⟨Nat.zero_le _, Nat.zero_le _⟩ dX4_read_44) ?_
      refine z_ifb_eq (tgt := 55) X dX4_read_47 (by decide) (fun c_47 => ?_) (fun c_47 => ?_)
      · refine lv_aload_n X.1 X.2.1 dX4_read_55 rfl (lv_at hl 1 rfl) ?_
        refine z_ldc (z := (-1000000001)) X ct_X4_48 (by decide) dX4_read_56 ?_
        refine z_wi (st_sing (st_nil h)) (run_V (rest := []) X (st_sing (st_nil h)) (c_X4_finding (j := 0) hF (by decide) (by decide) (by decide)) mi_X4_finding ml_X4_49 ⟨Nat.le_of_ble_eq_true rfl, Nat.le_of_ble_eq_true rfl⟩ ⟨rfl, rfl⟩ (Seg.mk' _ _) 3 0 rfl rfl rfl rfl hl.1 rfl (Nat.le_of_ble_eq_true rfl) ⟨Nat.zero_le _, Nat.zero_le _⟩ dX4_read_58) (fun _ => map_app (wO_map _ _ _ _ _ _ _ _ _ _ _) rfl) (fun r fd2 H locs hp h => ?_)
        have h := (st_lin (st_gnis h))
        obtain ⟨rfl, hF2⟩ := hp
        have h : St E _ s H locs (wO E a k b t x q ((iv (ik))) fd2 ++ (wS E k ((hk)) ((nk)) (k1, k2, k3, k4, k5, k6, k7, k8, k9) ++ (wS E b ((iv (hr A))) ((iv (pe A))) (xs, xi, xk, xc, xl, xr, xb, yl, yr) ++ (wS E t ((ht)) ((nt)) (t1, t2, t3, t4, t5, t6, t7, t8, t9) ++ (wX E x ((iv (tn))) ((e1)) ((e2)) ((e3)) ((e4)) tp ++ (wH E (q 0) ((iv (bq 0))) ((iv (sq 0))) c0 ++ (wH E (q 1) ((iv (bq 1))) ((iv (sq 1))) c1 ++ (wH E (q 2) ((iv (bq 2))) ((iv (sq 2))) c2 ++ (wH E (q 3) ((iv (bq 3))) ((iv (sq 3))) c3 ++ []))))))))) := h
        have e9 : q_read A bq sq cq ph 3 px po = ((-1000000001), (bump ph 0)) := by unfold q_read; (repeat (first | rw [if_pos (by omega)] | rw [if_neg (by omega)])); try rfl
        exact ret _ _ _ _ _ (((iv (ik)), fd2), ((hk), (nk), (k1, k2, k3, k4, k5, k6, k7, k8, k9)), ((iv (hr A)), (iv (pe A)), (xs, xi, xk, xc, xl, xr, xb, yl, yr)), ((ht), (nt), (t1, t2, t3, t4, t5, t6, t7, t8, t9)), ((iv (tn)), (e1), (e2), (e3), (e4), tp), ((iv (bq 0)), (iv (sq 0)), c0), ((iv (bq 1)), (iv (sq 1)), c1), ((iv (bq 2)), (iv (sq 2)), c2), ((iv (bq 3)), (iv (sq 3)), c3)) h (by rw [e9]; exact ⟨rfl, ⟨⟨rfl, rfl, hR, hI, hr9⟩, hK, hF2, hT, hB⟩⟩) dX4_read_61
      · refine lv_iload_n X.1 X.2.1 dX4_read_50 rfl (lv_at hl 3 rfl) ?_
        refine lv_iload_n X.1 X.2.1 dX4_read_51 rfl (lv_at hl 4 rfl) ?_
        refine z_ic_ne (tgt := 62) X r_px r_po dX4_read_52 (by decide) (fun c_52 => ?_) (fun c_52 => ?_)
        · refine z_iconst X dX4_read_62 ?_
          refine lv_istore (lv' := [(5, .int (iv (0))), (4, .ref (q 3 0)), (0, .ref (a 0)), (1, .int (iv (3))), (2, .int (iv (px))), (3, .int (iv (po)))]) X.1 X.2.1 dX4_read_63 hl (by decide) rfl (fun ls hl => ?_)
          refine z_iconst X dX4_read_65 ?_
          refine lv_istore (lv' := [(6, .int (iv (0))), (5, .int (iv (0))), (4, .ref (q 3 0)), (0, .ref (a 0)), (1, .int (iv (3))), (2, .int (iv (px))), (3, .int (iv (po)))]) X.1 X.2.1 dX4_read_66 hl (by decide) rfl (fun ls hl => ?_)
          have L68 : ∀ (fuel_ : Nat) (kk : Int) (nn : Int) (th : Int32) (tm : Int32) (g1 : Nat → Int32) (g2 : Nat → Int32) (g3 : Nat → Int32) (g4 : Nat → Int32) (g5 : Nat → Int32) (g6 : Nat → Int32) (g7 : Nat → Int32) (g8 : Nat → Int32) (g9 : Nat → Int32), (0 ≤ kk) → (kk ≤ 6) → (nn = cntk (pairB A cq sq 3 px po) (6 * kk).toNat) → 6 - kk < (fuel_ : Int) → ∀ (H : Heap) (locs : List Loc), St E (wO E a k b t x q ((iv (ik))) fd ++ (wS E k ((hk)) ((nk)) (k1, k2, k3, k4, k5, k6, k7, k8, k9) ++ (wS E b ((iv (hr A))) ((iv (pe A))) (xs, xi, xk, xc, xl, xr, xb, yl, yr) ++ (wS E t ((ht)) ((nt)) (t1, t2, t3, t4, t5, t6, t7, t8, t9) ++ (wX E x ((iv (tn))) ((e1)) ((e2)) ((e3)) ((e4)) tp ++ (wH E (q 0) ((iv (bq 0))) ((iv (sq 0))) c0 ++ (wH E (q 1) ((iv (bq 1))) ((iv (sq 1))) c1 ++ (wH E (q 2) ((iv (bq 2))) ((iv (sq 2))) c2 ++ (wH E (q 3) ((iv (bq 3))) ((iv (sq 3))) c3 ++ []))))))))) s H locs (wO E a k b t x q ((iv (ik))) fd ++ (wS E k ((hk)) ((nk)) (k1, k2, k3, k4, k5, k6, k7, k8, k9) ++ (wS E b ((iv (hr A))) ((iv (pe A))) (xs, xi, xk, xc, xl, xr, xb, yl, yr) ++ (wS E t ((th)) ((tm)) (g1, g2, g3, g4, g5, g6, g7, g8, g9) ++ (wX E x ((iv (tn))) ((e1)) ((e2)) ((e3)) ((e4)) tp ++ (wH E (q 0) ((iv (bq 0))) ((iv (sq 0))) c0 ++ (wH E (q 1) ((iv (bq 1))) ((iv (sq 1))) c1 ++ (wH E (q 2) ((iv (bq 2))) ((iv (sq 2))) c2 ++ (wH E (q 3) ((iv (bq 3))) ((iv (sq 3))) c3 ++ []))))))))) → ∀ ls : Array Slot, lv_has ls 8 [(4, .ref (q 3 0)), (0, .ref (a 0)), (1, .int (iv (3))), (2, .int (iv (px))), (3, .int (iv (po))), (5, .int (iv (nn))), (6, .int (iv (kk)))] → W pp l e (rmk 5 112) s m args below meth c H locs 0 0 Q (F0 m 68 ls []) := by
            intro fuel_
            induction fuel_ with
            | zero =>
              intro kk nn th tm g1 g2 g3 g4 g5 g6 g7 g8 g9 k0 k1_ hk9 hn
              exfalso; omega
            | succ fuel_ ih_68 =>
              intro kk nn th tm g1 g2 g3 g4 g5 g6 g7 g8 g9 k0 k1_ hk9 hn H locs h ls hl
              refine lv_iload X.1 X.2.1 dX4_read_68 (lv_at hl 6 rfl) ?_
              refine z_bipush X (by decide) dX4_read_70 ?_
              refine z_ic_ge (tgt := 136) X ⟨by omega, by omega⟩ ⟨by decide, by decide⟩ dX4_read_72 (by decide) (fun c_72 => ?_) (fun c_72 => ?_)
              · refine lv_iload X.1 X.2.1 dX4_read_136 (lv_at hl 5 rfl) ?_
                have e9 : q_read A bq sq cq ph 3 px po = (nn, ph) := by unfold q_read; rw [if_neg (by omega), if_neg (by omega), if_neg (by omega), hk9, show kk = 6 by omega]; rfl
                exact ret _ _ _ _ _ (((iv (ik)), fd), ((hk), (nk), (k1, k2, k3, k4, k5, k6, k7, k8, k9)), ((iv (hr A)), (iv (pe A)), (xs, xi, xk, xc, xl, xr, xb, yl, yr)), ((th), (tm), (g1, g2, g3, g4, g5, g6, g7, g8, g9)), ((iv (tn)), (e1), (e2), (e3), (e4), tp), ((iv (bq 0)), (iv (sq 0)), c0), ((iv (bq 1)), (iv (sq 1)), c1), ((iv (bq 2)), (iv (sq 2)), c2), ((iv (bq 3)), (iv (sq 3)), c3)) h (by rw [e9]; exact ⟨rfl, ⟨⟨rfl, rfl, hR, hI, hr9⟩, hK, hF, hT, hB⟩⟩) dX4_read_138
              · refine z_iconst X dX4_read_75 ?_
                refine lv_istore (lv' := [(7, .int (iv (0))), (4, .ref (q 3 0)), (0, .ref (a 0)), (1, .int (iv (3))), (2, .int (iv (px))), (3, .int (iv (po))), (5, .int (iv (nn))), (6, .int (iv (kk)))]) X.1 X.2.1 dX4_read_76 hl (by decide) rfl (fun ls hl => ?_)
                have L78 : ∀ (fuel_ : Nat) (ll : Int) (n2 : Int) (th2 : Int32) (tm2 : Int32) (d1 : Nat → Int32) (d2 : Nat → Int32) (d3 : Nat → Int32) (d4 : Nat → Int32) (d5 : Nat → Int32) (d6 : Nat → Int32) (d7 : Nat → Int32) (d8 : Nat → Int32) (d9 : Nat → Int32), (0 ≤ ll) → (ll ≤ 6) → (n2 = cntk (pairB A cq sq 3 px po) (6 * kk + ll).toNat) → 6 - ll < (fuel_ : Int) → ∀ (H : Heap) (locs : List Loc), St E (wO E a k b t x q ((iv (ik))) fd ++ (wS E k ((hk)) ((nk)) (k1, k2, k3, k4, k5, k6, k7, k8, k9) ++ (wS E b ((iv (hr A))) ((iv (pe A))) (xs, xi, xk, xc, xl, xr, xb, yl, yr) ++ (wS E t ((ht)) ((nt)) (t1, t2, t3, t4, t5, t6, t7, t8, t9) ++ (wX E x ((iv (tn))) ((e1)) ((e2)) ((e3)) ((e4)) tp ++ (wH E (q 0) ((iv (bq 0))) ((iv (sq 0))) c0 ++ (wH E (q 1) ((iv (bq 1))) ((iv (sq 1))) c1 ++ (wH E (q 2) ((iv (bq 2))) ((iv (sq 2))) c2 ++ (wH E (q 3) ((iv (bq 3))) ((iv (sq 3))) c3 ++ []))))))))) s H locs (wO E a k b t x q ((iv (ik))) fd ++ (wS E k ((hk)) ((nk)) (k1, k2, k3, k4, k5, k6, k7, k8, k9) ++ (wS E b ((iv (hr A))) ((iv (pe A))) (xs, xi, xk, xc, xl, xr, xb, yl, yr) ++ (wS E t ((th2)) ((tm2)) (d1, d2, d3, d4, d5, d6, d7, d8, d9) ++ (wX E x ((iv (tn))) ((e1)) ((e2)) ((e3)) ((e4)) tp ++ (wH E (q 0) ((iv (bq 0))) ((iv (sq 0))) c0 ++ (wH E (q 1) ((iv (bq 1))) ((iv (sq 1))) c1 ++ (wH E (q 2) ((iv (bq 2))) ((iv (sq 2))) c2 ++ (wH E (q 3) ((iv (bq 3))) ((iv (sq 3))) c3 ++ []))))))))) → ∀ ls : Array Slot, lv_has ls 8 [(4, .ref (q 3 0)), (0, .ref (a 0)), (1, .int (iv (3))), (2, .int (iv (px))), (3, .int (iv (po))), (6, .int (iv (kk))), (5, .int (iv (n2))), (7, .int (iv (ll)))] → W pp l e (rmk 5 112) s m args below meth c H locs 0 0 Q (F0 m 78 ls []) := by
                  intro fuel_
                  induction fuel_ with
                  | zero =>
                    intro ll n2 th2 tm2 d1 d2 d3 d4 d5 d6 d7 d8 d9 l0 l1 hk2 hn
                    exfalso; omega
                  | succ fuel_ ih_78 =>
                    intro ll n2 th2 tm2 d1 d2 d3 d4 d5 d6 d7 d8 d9 l0 l1 hk2 hn H locs h ls hl
                    refine lv_iload X.1 X.2.1 dX4_read_78 (lv_at hl 7 rfl) ?_
                    refine z_bipush X (by decide) dX4_read_80 ?_
                    refine z_ic_ge (tgt := 130) X ⟨by omega, by omega⟩ ⟨by decide, by decide⟩ dX4_read_82 (by decide) (fun c_82 => ?_) (fun c_82 => ?_)
                    · refine z_iinc (k := 5) (lv' := [(6, .int (iv (kk + 1))), (4, .ref (q 3 0)), (0, .ref (a 0)), (1, .int (iv (3))), (2, .int (iv (px))), (3, .int (iv (po))), (5, .int (iv (n2))), (7, .int (iv (ll)))]) X dX4_read_130 hl rfl (by decide) rfl (fun ls hl => ?_)
                      refine lv_goto (tgt := 68) X.1 X.2.1 dX4_read_133 (by decide) ?_
                      exact ih_68 (kk + 1) (n2) ((th2)) ((tm2)) (d1) (d2) (d3) (d4) (d5) (d6) (d7) (d8) (d9) (by omega) (by omega) (by rw [hk2, show 6 * (kk + 1) = 6 * kk + ll by omega]) (by omega) _ _ h ls (lv_sub hl [1, 2, 3, 4, 5, 6, 0] rfl)
                    · refine lv_aload_n X.1 X.2.1 dX4_read_85 rfl (lv_at hl 1 rfl) ?_
                      refine z_av h (run_V (rest := []) X h (c_X4_startTrial hR hI.n8) mi_X4_startTrial ml_X4_150 ⟨Nat.le_of_ble_eq_true rfl, Nat.le_of_ble_eq_true rfl⟩ ⟨rfl, rfl⟩ (Seg.rfl' _) 3 0 rfl rfl rfl rfl hl.1 rfl (Nat.le_of_ble_eq_true rfl) ⟨Nat.zero_le _, Nat.zero_le _⟩ dX4_read_86) (fun _ => map_app rfl (map_app rfl (map_app rfl (map_app (wS_map _ _ _ _ _ _ _ _) rfl)))) (fun u H locs hp h => ?_)
                      obtain ⟨r0_3, r1_3, r2_3, r3_3, r4_3, r5_3, r6_3, r7_3, r8_3⟩ := u
                      have h : St E _ s H locs (wO E a k b t x q ((iv (ik))) fd ++ (wS E k ((hk)) ((nk)) (k1, k2, k3, k4, k5, k6, k7, k8, k9) ++ (wS E b ((iv (hr A))) ((iv (pe A))) (xs, xi, xk, xc, xl, xr, xb, yl, yr) ++ (wS E t ((iv (hr A))) ((iv (pe A))) (r0_3, r1_3, r2_3, r3_3, r4_3, r5_3, r6_3, r7_3, r8_3) ++ (wX E x ((iv (tn))) ((e1)) ((e2)) ((e3)) ((e4)) tp ++ (wH E (q 0) ((iv (bq 0))) ((iv (sq 0))) c0 ++ (wH E (q 1) ((iv (bq 1))) ((iv (sq 1))) c1 ++ (wH E (q 2) ((iv (bq 2))) ((iv (sq 2))) c2 ++ (wH E (q 3) ((iv (bq 3))) ((iv (sq 3))) c3 ++ []))))))))) := h
                      have hRb3 : RS (r0_3, r1_3, r2_3, r3_3, r4_3, r5_3, r6_3, r7_3, r8_3) A := hp
                      refine lv_aload_n X.1 X.2.1 dX4_read_89 rfl (lv_at hl 1 rfl) ?_
                      refine z_get X h 3 0 1 rfl inX4 rfl (by decide) fl_X4_16 rfl dX4_read_90 ?_
                      refine z_get X h 1 23 4 rfl inX1 rfl (by decide) fl_X4_97 rfl dX4_read_93 ?_
                      refine lv_iload_n X.1 X.2.1 dX4_read_96 rfl (lv_at hl 3 rfl) ?_
                      refine lv_iload X.1 X.2.1 dX4_read_97 (lv_at hl 5 rfl) ?_
                      refine s_iast X (st_in (st_in (st_in (st_nil h)))) 3 rfl (by omega) (by omega) (by decide) dX4_read_99 (fun H locs h => ?_)
                      have h := (st_lin (st_out (st_out (st_out (st_eq wS_kinds h)))))
                      have h : St E _ s H locs (wO E a k b t x q ((iv (ik))) fd ++ (wS E k ((hk)) ((nk)) (k1, k2, k3, k4, k5, k6, k7, k8, k9) ++ (wS E b ((iv (hr A))) ((iv (pe A))) (xs, xi, xk, xc, xl, xr, xb, yl, yr) ++ (wS E t ((iv (hr A))) ((iv (pe A))) (r0_3, r1_3, (upd r2_3 (px : Int).toNat (iv (kk))), r3_3, r4_3, r5_3, r6_3, r7_3, r8_3) ++ (wX E x ((iv (tn))) ((e1)) ((e2)) ((e3)) ((e4)) tp ++ (wH E (q 0) ((iv (bq 0))) ((iv (sq 0))) c0 ++ (wH E (q 1) ((iv (bq 1))) ((iv (sq 1))) c1 ++ (wH E (q 2) ((iv (bq 2))) ((iv (sq 2))) c2 ++ (wH E (q 3) ((iv (bq 3))) ((iv (sq 3))) c3 ++ []))))))))) := h
                      have tR1 : RS (r0_3, r1_3, (upd r2_3 (px : Int).toNat (iv (kk))), r3_3, r4_3, r5_3, r6_3, r7_3, r8_3) (pu A 0 px kk) := RS_ki hRb3 n0 (by omega)
                      refine lv_aload_n X.1 X.2.1 dX4_read_100 rfl (lv_at hl 1 rfl) ?_
                      refine z_get X h 3 0 1 rfl inX4 rfl (by decide) fl_X4_16 rfl dX4_read_101 ?_
                      refine z_get X h 1 23 4 rfl inX1 rfl (by decide) fl_X4_97 rfl dX4_read_104 ?_
                      refine lv_iload_n X.1 X.2.1 dX4_read_107 rfl (lv_at hl 4 rfl) ?_
                      refine lv_iload X.1 X.2.1 dX4_read_108 (lv_at hl 7 rfl) ?_
                      refine s_iast X (st_in (st_in (st_in (st_nil h)))) 3 rfl (by omega) (by omega) (by decide) dX4_read_110 (fun H locs h => ?_)
                      have h := (st_lin (st_out (st_out (st_out (st_eq wS_kinds h)))))
                      have h : St E _ s H locs (wO E a k b t x q ((iv (ik))) fd ++ (wS E k ((hk)) ((nk)) (k1, k2, k3, k4, k5, k6, k7, k8, k9) ++ (wS E b ((iv (hr A))) ((iv (pe A))) (xs, xi, xk, xc, xl, xr, xb, yl, yr) ++ (wS E t ((iv (hr A))) ((iv (pe A))) (r0_3, r1_3, (upd (upd r2_3 (px : Int).toNat (iv (kk))) (po : Int).toNat (iv (ll))), r3_3, r4_3, r5_3, r6_3, r7_3, r8_3) ++ (wX E x ((iv (tn))) ((e1)) ((e2)) ((e3)) ((e4)) tp ++ (wH E (q 0) ((iv (bq 0))) ((iv (sq 0))) c0 ++ (wH E (q 1) ((iv (bq 1))) ((iv (sq 1))) c1 ++ (wH E (q 2) ((iv (bq 2))) ((iv (sq 2))) c2 ++ (wH E (q 3) ((iv (bq 3))) ((iv (sq 3))) c3 ++ []))))))))) := h
                      have tR2 : RS (r0_3, r1_3, (upd (upd r2_3 (px : Int).toNat (iv (kk))) (po : Int).toNat (iv (ll))), r3_3, r4_3, r5_3, r6_3, r7_3, r8_3) (pu (pu A 0 px kk) 0 po ll) := RS_ki tR1 n0 (by omega)
                      have tI2 : IA (pu (pu A 0 px kk) 0 po ll) := IA_pu (IA_pu hI (by omega) (by omega) (Or.inl ⟨rfl, by omega, by omega⟩)) (by omega) (show po < pe A by omega) (Or.inl ⟨rfl, by omega, by omega⟩)
                      have ep : pairB A cq sq 3 px po (6 * kk + ll) = isb (cq 3) (pu (pu A 0 px kk) 0 po ll) px (sq 3).toNat := by unfold pairB; rw [show (6 * kk + ll) / 6 = kk by omega, show (6 * kk + ll) % 6 = ll by omega]
                      refine lv_aload_n X.1 X.2.1 dX4_read_111 rfl (lv_at hl 1 rfl) ?_
                      refine lv_aload X.1 X.2.1 dX4_read_112 (lv_at hl 0 rfl) ?_
                      refine lv_iload_n X.1 X.2.1 dX4_read_114 rfl (lv_at hl 3 rfl) ?_
                      refine z_ai h (run_V (rest := []) X h (c_X4_trialGoesAs_3 (Bb := (pu (pu A 0 px kk) 0 po ll)) (pz := px) tR2 tI2 (show hr A < 200000 by omega) hH3 (by omega) (by omega) (by omega) (show px < pe A by omega)) mi_X4_trialGoesAs ml_X4_220 ⟨Nat.le_of_ble_eq_true rfl, Nat.le_of_ble_eq_true rfl⟩ ⟨rfl, rfl⟩ (Seg.rfl' _) 3 0 rfl rfl rfl rfl hl.1 rfl (Nat.le_of_ble_eq_true rfl) ⟨Nat.zero_le _, Nat.zero_le _⟩ dX4_read_115) (fun _ => map_app rfl (map_app rfl (map_app rfl (map_app (wS_map _ _ _ _ _ _ _ _) rfl)))) (fun r u H locs hp h => ?_)
                      obtain ⟨th4, tm4, r0_4, r1_4, r2_4, r3_4, r4_4, r5_4, r6_4, r7_4, r8_4⟩ := u
                      subst hp
                      have h : St E _ s H locs (wO E a k b t x q ((iv (ik))) fd ++ (wS E k ((hk)) ((nk)) (k1, k2, k3, k4, k5, k6, k7, k8, k9) ++ (wS E b ((iv (hr A))) ((iv (pe A))) (xs, xi, xk, xc, xl, xr, xb, yl, yr) ++ (wS E t ((th4)) ((tm4)) (r0_4, r1_4, r2_4, r3_4, r4_4, r5_4, r6_4, r7_4, r8_4) ++ (wX E x ((iv (tn))) ((e1)) ((e2)) ((e3)) ((e4)) tp ++ (wH E (q 0) ((iv (bq 0))) ((iv (sq 0))) c0 ++ (wH E (q 1) ((iv (bq 1))) ((iv (sq 1))) c1 ++ (wH E (q 2) ((iv (bq 2))) ((iv (sq 2))) c2 ++ (wH E (q 3) ((iv (bq 3))) ((iv (sq 3))) c3 ++ []))))))))) := h
                      refine z_ifb_eq (tgt := 124) X dX4_read_118 (by decide) (fun c_118 => ?_) (fun c_118 => ?_)
                      · have hy9 : ¬ pairB A cq sq 3 px po (6 * kk + ll) = true := by rw [ep]; exact c_118
                        refine z_iinc (k := 7) (lv' := [(7, .int (iv (ll + 1))), (4, .ref (q 3 0)), (0, .ref (a 0)), (1, .int (iv (3))), (2, .int (iv (px))), (3, .int (iv (po))), (6, .int (iv (kk))), (5, .int (iv (n2)))]) X dX4_read_124 hl rfl (by decide) rfl (fun ls hl => ?_)
                        refine lv_goto (tgt := 78) X.1 X.2.1 dX4_read_127 (by decide) ?_
                        exact ih_78 (ll + 1) (n2) ((th4)) ((tm4)) (r0_4) (r1_4) (r2_4) (r3_4) (r4_4) (r5_4) (r6_4) (r7_4) (r8_4) (by omega) (by omega) (by rw [show 6 * kk + (ll + 1) = 6 * kk + ll + 1 by omega, cntk_n (by omega) hy9, hk2]; omega) (by omega) _ _ h ls (lv_sub hl [1, 2, 3, 4, 5, 6, 7, 0] rfl)
                      · have hy9 : pairB A cq sq 3 px po (6 * kk + ll) = true := by rw [ep]; exact c_118
                        refine z_iinc (k := 6) (lv' := [(5, .int (iv (n2 + 1))), (4, .ref (q 3 0)), (0, .ref (a 0)), (1, .int (iv (3))), (2, .int (iv (px))), (3, .int (iv (po))), (6, .int (iv (kk))), (7, .int (iv (ll)))]) X dX4_read_121 hl rfl (by decide) rfl (fun ls hl => ?_)
                        refine z_iinc (k := 7) (lv' := [(7, .int (iv (ll + 1))), (5, .int (iv (n2 + 1))), (4, .ref (q 3 0)), (0, .ref (a 0)), (1, .int (iv (3))), (2, .int (iv (px))), (3, .int (iv (po))), (6, .int (iv (kk)))]) X dX4_read_124 hl rfl (by decide) rfl (fun ls hl => ?_)
                        refine lv_goto (tgt := 78) X.1 X.2.1 dX4_read_127 (by decide) ?_
                        exact ih_78 (ll + 1) (n2 + 1) ((th4)) ((tm4)) (r0_4) (r1_4) (r2_4) (r3_4) (r4_4) (r5_4) (r6_4) (r7_4) (r8_4) (by omega) (by omega) (by rw [show 6 * kk + (ll + 1) = 6 * kk + ll + 1 by omega, cntk_y (by omega) hy9, hk2]) (by omega) _ _ h ls (lv_sub hl [2, 3, 4, 5, 6, 7, 1, 0] rfl)
                exact L78 ((6 - (0) : Int).toNat + 1) (0) (nn) ((th)) ((tm)) (g1) (g2) (g3) (g4) (g5) (g6) (g7) (g8) (g9) (by omega) (by omega) (by rw [hk9, Int.add_zero]) (by omega) _ _ h ls (lv_sub hl [1, 2, 3, 4, 5, 7, 6, 0] rfl)
          exact L68 ((6 - (0) : Int).toNat + 1) (0) (0) ((ht)) ((nt)) (t1) (t2) (t3) (t4) (t5) (t6) (t7) (t8) (t9) (by omega) (by omega) (rfl) (by omega) _ _ h ls (lv_sub hl [2, 3, 4, 5, 6, 1, 0] rfl)
        · refine lv_aload_n X.1 X.2.1 dX4_read_55 rfl (lv_at hl 1 rfl) ?_
          refine z_ldc (z := (-1000000001)) X ct_X4_48 (by decide) dX4_read_56 ?_
          refine z_wi (st_sing (st_nil h)) (run_V (rest := []) X (st_sing (st_nil h)) (c_X4_finding (j := 0) hF (by decide) (by decide) (by decide)) mi_X4_finding ml_X4_49 ⟨Nat.le_of_ble_eq_true rfl, Nat.le_of_ble_eq_true rfl⟩ ⟨rfl, rfl⟩ (Seg.mk' _ _) 3 0 rfl rfl rfl rfl hl.1 rfl (Nat.le_of_ble_eq_true rfl) ⟨Nat.zero_le _, Nat.zero_le _⟩ dX4_read_58) (fun _ => map_app (wO_map _ _ _ _ _ _ _ _ _ _ _) rfl) (fun r fd5 H locs hp h => ?_)
          have h := (st_lin (st_gnis h))
          obtain ⟨rfl, hF5⟩ := hp
          have h : St E _ s H locs (wO E a k b t x q ((iv (ik))) fd5 ++ (wS E k ((hk)) ((nk)) (k1, k2, k3, k4, k5, k6, k7, k8, k9) ++ (wS E b ((iv (hr A))) ((iv (pe A))) (xs, xi, xk, xc, xl, xr, xb, yl, yr) ++ (wS E t ((ht)) ((nt)) (t1, t2, t3, t4, t5, t6, t7, t8, t9) ++ (wX E x ((iv (tn))) ((e1)) ((e2)) ((e3)) ((e4)) tp ++ (wH E (q 0) ((iv (bq 0))) ((iv (sq 0))) c0 ++ (wH E (q 1) ((iv (bq 1))) ((iv (sq 1))) c1 ++ (wH E (q 2) ((iv (bq 2))) ((iv (sq 2))) c2 ++ (wH E (q 3) ((iv (bq 3))) ((iv (sq 3))) c3 ++ []))))))))) := h
          have e9 : q_read A bq sq cq ph 3 px po = ((-1000000001), (bump ph 0)) := by unfold q_read; (repeat (first | rw [if_pos (by omega)] | rw [if_neg (by omega)])); try rfl
          exact ret _ _ _ _ _ (((iv (ik)), fd5), ((hk), (nk), (k1, k2, k3, k4, k5, k6, k7, k8, k9)), ((iv (hr A)), (iv (pe A)), (xs, xi, xk, xc, xl, xr, xb, yl, yr)), ((ht), (nt), (t1, t2, t3, t4, t5, t6, t7, t8, t9)), ((iv (tn)), (e1), (e2), (e3), (e4), tp), ((iv (bq 0)), (iv (sq 0)), c0), ((iv (bq 1)), (iv (sq 1)), c1), ((iv (bq 2)), (iv (sq 2)), c2), ((iv (bq 3)), (iv (sq 3)), c3)) h (by rw [e9]; exact ⟨rfl, ⟨⟨rfl, rfl, hR, hI, hr9⟩, hK, hF5, hT, hB⟩⟩) dX4_read_61
  · refine lv_aload_n X.1 X.2.1 dX4_read_27 rfl (lv_at hl 1 rfl) ?_
    refine z_ldc (z := (-1000000006)) X ct_X4_197 (by decide) dX4_read_28 ?_
    refine z_wi (st_sing (st_nil h)) (run_V (rest := []) X (st_sing (st_nil h)) (c_X4_finding (j := 5) hF (by decide) (by decide) (by decide)) mi_X4_finding ml_X4_49 ⟨Nat.le_of_ble_eq_true rfl, Nat.le_of_ble_eq_true rfl⟩ ⟨rfl, rfl⟩ (Seg.mk' _ _) 3 0 rfl rfl rfl rfl hl.1 rfl (Nat.le_of_ble_eq_true rfl) ⟨Nat.zero_le _, Nat.zero_le _⟩ dX4_read_30) (fun _ => map_app (wO_map _ _ _ _ _ _ _ _ _ _ _) rfl) (fun r fd6 H locs hp h => ?_)
    have h := (st_lin (st_gnis h))
    obtain ⟨rfl, hF6⟩ := hp
    have h : St E _ s H locs (wO E a k b t x q ((iv (ik))) fd6 ++ (wS E k ((hk)) ((nk)) (k1, k2, k3, k4, k5, k6, k7, k8, k9) ++ (wS E b ((iv (hr A))) ((iv (pe A))) (xs, xi, xk, xc, xl, xr, xb, yl, yr) ++ (wS E t ((ht)) ((nt)) (t1, t2, t3, t4, t5, t6, t7, t8, t9) ++ (wX E x ((iv (tn))) ((e1)) ((e2)) ((e3)) ((e4)) tp ++ (wH E (q 0) ((iv (bq 0))) ((iv (sq 0))) c0 ++ (wH E (q 1) ((iv (bq 1))) ((iv (sq 1))) c1 ++ (wH E (q 2) ((iv (bq 2))) ((iv (sq 2))) c2 ++ (wH E (q 3) ((iv (bq 3))) ((iv (sq 3))) c3 ++ []))))))))) := h
    have e9 : q_read A bq sq cq ph 3 px po = ((-1000000006), (bump ph 5)) := by unfold q_read; (repeat (first | rw [if_pos (by omega)] | rw [if_neg (by omega)])); try rfl
    exact ret _ _ _ _ _ (((iv (ik)), fd6), ((hk), (nk), (k1, k2, k3, k4, k5, k6, k7, k8, k9)), ((iv (hr A)), (iv (pe A)), (xs, xi, xk, xc, xl, xr, xb, yl, yr)), ((ht), (nt), (t1, t2, t3, t4, t5, t6, t7, t8, t9)), ((iv (tn)), (e1), (e2), (e3), (e4), tp), ((iv (bq 0)), (iv (sq 0)), c0), ((iv (bq 1)), (iv (sq 1)), c1), ((iv (bq 2)), (iv (sq 2)), c2), ((iv (bq 3)), (iv (sq 3)), c3)) h (by rw [e9]; exact ⟨rfl, ⟨⟨rfl, rfl, hR, hI, hr9⟩, hK, hF6, hT, hB⟩⟩) dX4_read_33

set_option maxHeartbeats 4000000 in
theorem c_X4_read_N (hS : RepC (((iv (ik)), fd), ((hk), (nk), (k1, k2, k3, k4, k5, k6, k7, k8, k9)), ((iv (hr A)), (iv (pe A)), (xs, xi, xk, xc, xl, xr, xb, yl, yr)), ((ht), (nt), (t1, t2, t3, t4, t5, t6, t7, t8, t9)), ((iv (tn)), (e1), (e2), (e3), (e4), tp), ((iv (bq 0)), (iv (sq 0)), c0), ((iv (bq 1)), (iv (sq 1)), c1), ((iv (bq 2)), (iv (sq 2)), c2), ((iv (bq 3)), (iv (sq 3)), c3)) (A, K, ik, ph, tq, tn, bq, sq, cq)) {ps : Int} (r_ps : r32 ps) {px : Int} (r_px : r32 px) {po : Int} (r_po : r32 po) (ho : ps < 0 ∨ 3 < ps) : MI (S := Tc) E l yX4_read cX4_read 8 (some FieldType.int) (rmk 5 112) (wO E a k b t x q ((iv (ik))) fd ++ (wS E k ((hk)) ((nk)) (k1, k2, k3, k4, k5, k6, k7, k8, k9) ++ (wS E b ((iv (hr A))) ((iv (pe A))) (xs, xi, xk, xc, xl, xr, xb, yl, yr) ++ (wS E t ((ht)) ((nt)) (t1, t2, t3, t4, t5, t6, t7, t8, t9) ++ (wX E x ((iv (tn))) ((e1)) ((e2)) ((e3)) ((e4)) tp ++ (wH E (q 0) ((iv (bq 0))) ((iv (sq 0))) c0 ++ (wH E (q 1) ((iv (bq 1))) ((iv (sq 1))) c1 ++ (wH E (q 2) ((iv (bq 2))) ((iv (sq 2))) c2 ++ (wH E (q 3) ((iv (bq 3))) ((iv (sq 3))) c3 ++ []))))))))) [.ref (a 0), .int (iv (ps)), .int (iv (px)), .int (iv (po))] (fun r u => r = iv ((q_read A bq sq cq ph ps px po).1) ∧ RepC u (A, K, ik, (q_read A bq sq cq ph ps px po).2, tq, tn, bq, sq, cq)) (fun u => wT E a k b t x q u) := by
  refine goI (S := Tc) (post := fun r u => r = iv ((q_read A bq sq cq ph ps px po).1) ∧ RepC u (A, K, ik, (q_read A bq sq cq ph ps px po).2, tq, tn, bq, sq, cq)) (ws' := fun u => wT E a k b t x q u) (by decide) (Nat.le_of_ble_eq_true rfl) ?_
  intro pp e s m below meth c ls args Q ret X h hl
  have hl : lv_has ls 8 [(0, .ref (a 0)), (1, .int (iv (ps))), (2, .int (iv (px))), (3, .int (iv (po)))] := hl
  have hR : RS (xs, xi, xk, xc, xl, xr, xb, yl, yr) A := hS.1.2.2.1
  have hI : IA A := hS.1.2.2.2.1
  have hr9 : hr A ≤ 99999 := hS.1.2.2.2.2
  have hF : RF 7 fd ph := hS.2.2.1
  have hK := hS.2.1
  have hT := hS.2.2.2.1
  have hB := hS.2.2.2.2
  have hh : hr A < 1000000 := by omega
  have n8 := hI.n8
  have n0 := hI.n0
  have h0 := hI.h0
  have ht0 : 0 ≤ tn := hS.2.2.2.1.2.1
  have ht1 : tn ≤ 120 := hS.2.2.2.1.2.2.1
  have hk01 : ik = 0 ∨ ik = 1 := hS.2.1.2.1
  have hB3 : okB bq sq := hS.2.2.2.2.1
  have hH0 : RepH (iv (bq 0), iv (sq 0), c0) bq sq cq 0 := hS.2.2.2.2.2.1
  have hH1 : RepH (iv (bq 1), iv (sq 1), c1) bq sq cq 1 := hS.2.2.2.2.2.2.1
  have hH2 : RepH (iv (bq 2), iv (sq 2), c2) bq sq cq 2 := hS.2.2.2.2.2.2.2.1
  have hH3 : RepH (iv (bq 3), iv (sq 3), c3) bq sq cq 3 := hS.2.2.2.2.2.2.2.2
  refine lv_aload_n X.1 X.2.1 dX4_read_0 rfl (lv_at hl 0 rfl) ?_
  refine lv_iload_n X.1 X.2.1 dX4_read_1 rfl (lv_at hl 1 rfl) ?_
  refine z_pq (run_V (rest := []) X h (c_sheetAtN (s9 := ps) r_ps (by omega)) mi_X4_sheetAt ml_X4_184 ⟨Nat.le_of_ble_eq_true rfl, Nat.le_of_ble_eq_true rfl⟩ ⟨rfl, rfl⟩ (Seg.rfl' _) 3 0 rfl rfl rfl rfl hl.1 rfl (Nat.le_of_ble_eq_true rfl) ⟨Nat.zero_le _, Nat.zero_le _⟩ dX4_read_2) ?_
  refine W.eq (g2 := F0 m 5 ls [.null]) rfl ?_
  refine lv_astoreN (lv' := [(4, .null), (0, .ref (a 0)), (1, .int (iv (ps))), (2, .int (iv (px))), (3, .int (iv (po)))]) X.1 X.2.1 dX4_read_5 hl (by decide) rfl (fun ls hl => ?_)
  refine lv_aloadN X.1 X.2.1 dX4_read_7 (lv_at hl 0 rfl) ?_
  refine lv_ifnonnullN X.1 X.2.1 dX4_read_9 ?_
  refine lv_aload_n X.1 X.2.1 dX4_read_12 rfl (lv_at hl 1 rfl) ?_
  refine z_ldc (z := (-1000000001)) X ct_X4_48 (by decide) dX4_read_13 ?_
  refine z_wi (st_sing (st_nil h)) (run_V (rest := []) X (st_sing (st_nil h)) (c_X4_finding (j := 0) hF (by decide) (by decide) (by decide)) mi_X4_finding ml_X4_49 ⟨Nat.le_of_ble_eq_true rfl, Nat.le_of_ble_eq_true rfl⟩ ⟨rfl, rfl⟩ (Seg.mk' _ _) 3 0 rfl rfl rfl rfl hl.1 rfl (Nat.le_of_ble_eq_true rfl) ⟨Nat.zero_le _, Nat.zero_le _⟩ dX4_read_15) (fun _ => map_app (wO_map _ _ _ _ _ _ _ _ _ _ _) rfl) (fun r fd1 H locs hp h => ?_)
  have h := (st_lin (st_gnis h))
  obtain ⟨rfl, hF1⟩ := hp
  have h : St E _ s H locs (wO E a k b t x q ((iv (ik))) fd1 ++ (wS E k ((hk)) ((nk)) (k1, k2, k3, k4, k5, k6, k7, k8, k9) ++ (wS E b ((iv (hr A))) ((iv (pe A))) (xs, xi, xk, xc, xl, xr, xb, yl, yr) ++ (wS E t ((ht)) ((nt)) (t1, t2, t3, t4, t5, t6, t7, t8, t9) ++ (wX E x ((iv (tn))) ((e1)) ((e2)) ((e3)) ((e4)) tp ++ (wH E (q 0) ((iv (bq 0))) ((iv (sq 0))) c0 ++ (wH E (q 1) ((iv (bq 1))) ((iv (sq 1))) c1 ++ (wH E (q 2) ((iv (bq 2))) ((iv (sq 2))) c2 ++ (wH E (q 3) ((iv (bq 3))) ((iv (sq 3))) c3 ++ []))))))))) := h
  have e9 : q_read A bq sq cq ph ps px po = ((-1000000001), (bump ph 0)) := by unfold q_read; (repeat (first | rw [if_pos (by omega)] | rw [if_neg (by omega)])); try rfl
  exact ret _ _ _ _ _ (((iv (ik)), fd1), ((hk), (nk), (k1, k2, k3, k4, k5, k6, k7, k8, k9)), ((iv (hr A)), (iv (pe A)), (xs, xi, xk, xc, xl, xr, xb, yl, yr)), ((ht), (nt), (t1, t2, t3, t4, t5, t6, t7, t8, t9)), ((iv (tn)), (e1), (e2), (e3), (e4), tp), ((iv (bq 0)), (iv (sq 0)), c0), ((iv (bq 1)), (iv (sq 1)), c1), ((iv (bq 2)), (iv (sq 2)), c2), ((iv (bq 3)), (iv (sq 3)), c3)) h (by rw [e9]; exact ⟨rfl, ⟨⟨rfl, rfl, hR, hI, hr9⟩, hK, hF1, hT, hB⟩⟩) dX4_read_18

theorem c_X4_read (hS : RepC (((iv (ik)), fd), ((hk), (nk), (k1, k2, k3, k4, k5, k6, k7, k8, k9)), ((iv (hr A)), (iv (pe A)), (xs, xi, xk, xc, xl, xr, xb, yl, yr)), ((ht), (nt), (t1, t2, t3, t4, t5, t6, t7, t8, t9)), ((iv (tn)), (e1), (e2), (e3), (e4), tp), ((iv (bq 0)), (iv (sq 0)), c0), ((iv (bq 1)), (iv (sq 1)), c1), ((iv (bq 2)), (iv (sq 2)), c2), ((iv (bq 3)), (iv (sq 3)), c3)) (A, K, ik, ph, tq, tn, bq, sq, cq)) {ps : Int} (r_ps : r32 ps) {px : Int} (r_px : r32 px) {po : Int} (r_po : r32 po) : MI (S := Tc) E l yX4_read cX4_read 8 (some FieldType.int) (rmk 5 112) (wO E a k b t x q ((iv (ik))) fd ++ (wS E k ((hk)) ((nk)) (k1, k2, k3, k4, k5, k6, k7, k8, k9) ++ (wS E b ((iv (hr A))) ((iv (pe A))) (xs, xi, xk, xc, xl, xr, xb, yl, yr) ++ (wS E t ((ht)) ((nt)) (t1, t2, t3, t4, t5, t6, t7, t8, t9) ++ (wX E x ((iv (tn))) ((e1)) ((e2)) ((e3)) ((e4)) tp ++ (wH E (q 0) ((iv (bq 0))) ((iv (sq 0))) c0 ++ (wH E (q 1) ((iv (bq 1))) ((iv (sq 1))) c1 ++ (wH E (q 2) ((iv (bq 2))) ((iv (sq 2))) c2 ++ (wH E (q 3) ((iv (bq 3))) ((iv (sq 3))) c3 ++ []))))))))) [.ref (a 0), .int (iv (ps)), .int (iv (px)), .int (iv (po))] (fun r u => r = iv ((q_read A bq sq cq ph ps px po).1) ∧ RepC u (A, K, ik, (q_read A bq sq cq ph ps px po).2, tq, tn, bq, sq, cq)) (fun u => wT E a k b t x q u) := by
  rcases (show ps = 0 ∨ ps = 1 ∨ ps = 2 ∨ ps = 3 ∨ (ps < 0 ∨ 3 < ps) by omega) with rfl | rfl | rfl | rfl | ho
  · exact c_X4_read_0 hS r_px r_po
  · exact c_X4_read_1 hS r_px r_po
  · exact c_X4_read_2 hS r_px r_po
  · exact c_X4_read_3 hS r_px r_po
  · exact c_X4_read_N hS r_ps r_px r_po ho
