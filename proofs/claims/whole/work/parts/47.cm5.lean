variable {E : EV} {l : Launch} {a k b t x : Nat → Nat} {q : Nat → Nat → Nat} {fd k1 k2 k3 k4 k5 k6 k7 k8 k9 xs xi xk xc xl xr xb yl yr t1 t2 t3 t4 t5 t6 t7 t8 t9 tp : Nat → Int32} {hk nk ht nt e1 e2 e3 e4 v0 v1 m0 m1 m2 m3 o0 o1 o2 o3 : Int32} {c0 c1 c2 c3 : Nat → Int64} {A K : Es} {ph tq bq sq : Int → Int} {cq : Int → Int → Int64} {ik tn : Int}
set_option maxHeartbeats 4000000 in
theorem c_X4_finding (hF : RF 7 fd ph) {j f : Int} (j0 : 0 ≤ j) (j1 : j < 7) (hf : f = fz j) : MI (S := Nat → Int32) E l yX4_finding cX4_finding 3 (some FieldType.int) (rmk 1 22) (wO E a k b t x q ((v0)) fd ++ []) [.ref (a 0), .int (iv (f))] (fun r u => r = iv f ∧ RF 7 u (bump ph j)) (fun u => wO E a k b t x q v0 u ++ []) := by
  refine goI (S := Nat → Int32) (post := fun r u => r = iv f ∧ RF 7 u (bump ph j)) (ws' := fun u => wO E a k b t x q v0 u ++ []) (by decide) (Nat.le_of_ble_eq_true rfl) ?_
  intro pp e s m below meth c ls args Q ret X h hl
  have hl : lv_has ls 3 [(0, .ref (a 0)), (1, .int (iv (f)))] := hl
  have hf2 : f = -1000000001 - j := hf
  have ek : -1000000001 - f = j := by omega
  refine z_ldc (z := (-1000000001)) X ct_X4_48 (by decide) dX4_finding_0 ?_
  refine lv_iload_n X.1 X.2.1 dX4_finding_2 rfl (lv_at hl 1 rfl) ?_
  refine z_isub X dX4_finding_3 ?_
  refine lv_istore_n (lv' := [(2, .int (iv ((-1000000001) - f))), (0, .ref (a 0)), (1, .int (iv (f)))]) X.1 X.2.1 dX4_finding_4 rfl hl (by decide) rfl (fun ls hl => ?_)
  refine lv_iload_n X.1 X.2.1 dX4_finding_5 rfl (lv_at hl 0 rfl) ?_
  refine z_iconst X dX4_finding_6 ?_
  refine z_bipush X (by decide) dX4_finding_7 ?_
  refine z_pi (run_S (rest := []) X h (c_X4_within ⟨by omega, by omega⟩ ⟨by decide, by decide⟩ ⟨by decide, by decide⟩) mi_X4_within ml_X4_44 ⟨Nat.le_of_ble_eq_true rfl, Nat.le_of_ble_eq_true rfl⟩ ⟨rfl, rfl⟩ (Seg.nil _) rfl hl.1 rfl (Nat.le_of_ble_eq_true rfl) ⟨Nat.zero_le _, Nat.zero_le _⟩ dX4_finding_9) ?_
  refine z_ifb_eq (tgt := 25) X dX4_finding_12 (by decide) (fun c_12 => ?_) (fun c_12 => ?_)
  · exfalso; omega
  · refine lv_aload_n X.1 X.2.1 dX4_finding_15 rfl (lv_at hl 1 rfl) ?_
    refine z_get X h 3 0 5 rfl inX4 rfl (by decide) fl_X4_35 rfl dX4_finding_16 ?_
    refine lv_iload_n X.1 X.2.1 dX4_finding_19 rfl (lv_at hl 0 rfl) ?_
    refine lv_dup2_11 X.1 X.2.1 dX4_finding_20 rfl rfl ?_
    refine z_iald (v := ph ((-1000000001) - f)) X h 2 rfl (by omega) (by omega) (by decide) (hF ((-1000000001) - f) (by omega) (by omega)) dX4_finding_21 ?_
    refine z_iconst X dX4_finding_22 ?_
    refine z_iadd X dX4_finding_23 ?_
    refine s_iast X (st_nil h) 2 rfl (by omega) (by omega) (by decide) dX4_finding_24 (fun H locs h => ?_)
    have h := (st_lin (st_eq wO_findings h))
    have h : St E _ s H locs (wO E a k b t x q ((v0)) (upd fd ((-1000000001) - f : Int).toNat (iv (ph ((-1000000001) - f) + 1))) ++ []) := h
    refine lv_iload_n X.1 X.2.1 dX4_finding_25 rfl (lv_at hl 2 rfl) ?_
    exact ret _ _ _ _ _ (upd fd ((-1000000001) - f : Int).toNat (iv (ph ((-1000000001) - f) + 1))) h ⟨rfl, by rw [ek]; exact RF_bump hF j0⟩ dX4_finding_26

set_option maxHeartbeats 4000000 in
theorem c_X4_isPerson (hI : IA A) {p : Int} (rp : r32 p) : MP E l yX4_isPerson cX4_isPerson 2 (some FieldType.boolean) (rmk 1 22) (wO E a k b t x q ((v0)) fd ++ (wS E k ((hk)) ((nk)) (k1, k2, k3, k4, k5, k6, k7, k8, k9) ++ (wS E b ((iv (hr A))) ((iv (pe A))) (xs, xi, xk, xc, xl, xr, xb, yl, yr) ++ (wS E t ((ht)) ((nt)) (t1, t2, t3, t4, t5, t6, t7, t8, t9) ++ (wX E x ((v1)) ((e1)) ((e2)) ((e3)) ((e4)) tp ++ (wH E (q 0) ((m0)) ((o0)) c0 ++ (wH E (q 1) ((m1)) ((o1)) c1 ++ (wH E (q 2) ((m2)) ((o2)) c2 ++ (wH E (q 3) ((m3)) ((o3)) c3 ++ []))))))))) [.ref (a 0), .int (iv (p))] (bz (0 ≤ p ∧ p < pe A)) := by
  refine goB (by decide) (Nat.le_of_ble_eq_true rfl) ?_
  intro pp e s m below meth c ls args Q ret X h hl
  have hl : lv_has ls 2 [(0, .ref (a 0)), (1, .int (iv (p)))] := hl
  have n8 := hI.n8
  have n0 := hI.n0
  refine lv_iload_n X.1 X.2.1 dX4_isPerson_0 rfl (lv_at hl 1 rfl) ?_
  refine z_iconst X dX4_isPerson_1 ?_
  refine lv_aload_n X.1 X.2.1 dX4_isPerson_2 rfl (lv_at hl 0 rfl) ?_
  refine z_get X h 3 0 0 rfl inX4 rfl (by decide) fl_X4_10 rfl dX4_isPerson_3 ?_
  refine z_get X h 1 13 1 rfl inX1 rfl (by decide) fl_X4_86 rfl dX4_isPerson_6 ?_
  refine z_iconst X dX4_isPerson_9 ?_
  refine z_isub X dX4_isPerson_10 ?_
  refine z_pi (run_S (rest := []) X h (c_X4_within rp ⟨by decide, by decide⟩ ⟨by omega, by omega⟩) mi_X4_within ml_X4_44 ⟨Nat.le_of_ble_eq_true rfl, Nat.le_of_ble_eq_true rfl⟩ ⟨rfl, rfl⟩ (Seg.nil _) rfl hl.1 rfl (Nat.le_of_ble_eq_true rfl) ⟨Nat.zero_le _, Nat.zero_le _⟩ dX4_isPerson_11) ?_
  exact ret _ _ _ (bz_eq (by omega)) dX4_isPerson_14

set_option maxHeartbeats 4000000 in
theorem c_X4_startTrial (hR : RS (xs, xi, xk, xc, xl, xr, xb, yl, yr) A) (n8 : pe A ≤ 8) : MV (S := Sa) E l yX4_startTrial cX4_startTrial 1 (rmk 2 45) (wO E a k b t x q ((v0)) fd ++ (wS E k ((hk)) ((nk)) (k1, k2, k3, k4, k5, k6, k7, k8, k9) ++ (wS E b ((iv (hr A))) ((iv (pe A))) (xs, xi, xk, xc, xl, xr, xb, yl, yr) ++ (wS E t ((ht)) ((nt)) (t1, t2, t3, t4, t5, t6, t7, t8, t9) ++ (wX E x ((v1)) ((e1)) ((e2)) ((e3)) ((e4)) tp ++ (wH E (q 0) ((m0)) ((o0)) c0 ++ (wH E (q 1) ((m1)) ((o1)) c1 ++ (wH E (q 2) ((m2)) ((o2)) c2 ++ (wH E (q 3) ((m3)) ((o3)) c3 ++ []))))))))) [.ref (a 0)] (fun u => RS u A) (fun u => wO E a k b t x q ((v0)) fd ++ (wS E k ((hk)) ((nk)) (k1, k2, k3, k4, k5, k6, k7, k8, k9) ++ (wS E b ((iv (hr A))) ((iv (pe A))) (xs, xi, xk, xc, xl, xr, xb, yl, yr) ++ (wS E t ((iv (hr A))) ((iv (pe A))) u ++ (wX E x ((v1)) ((e1)) ((e2)) ((e3)) ((e4)) tp ++ (wH E (q 0) ((m0)) ((o0)) c0 ++ (wH E (q 1) ((m1)) ((o1)) c1 ++ (wH E (q 2) ((m2)) ((o2)) c2 ++ (wH E (q 3) ((m3)) ((o3)) c3 ++ []))))))))) := by
  refine goV (S := Sa) (post := fun u => RS u A) (ws' := fun u => wO E a k b t x q ((v0)) fd ++ (wS E k ((hk)) ((nk)) (k1, k2, k3, k4, k5, k6, k7, k8, k9) ++ (wS E b ((iv (hr A))) ((iv (pe A))) (xs, xi, xk, xc, xl, xr, xb, yl, yr) ++ (wS E t ((iv (hr A))) ((iv (pe A))) u ++ (wX E x ((v1)) ((e1)) ((e2)) ((e3)) ((e4)) tp ++ (wH E (q 0) ((m0)) ((o0)) c0 ++ (wH E (q 1) ((m1)) ((o1)) c1 ++ (wH E (q 2) ((m2)) ((o2)) c2 ++ (wH E (q 3) ((m3)) ((o3)) c3 ++ []))))))))) (by decide) (Nat.le_of_ble_eq_true rfl) ?_
  intro pp e s m below meth c ls args Q ret X h hl
  have hl : lv_has ls 1 [(0, .ref (a 0))] := hl
  refine lv_aload_n X.1 X.2.1 dX4_startTrial_0 rfl (lv_at hl 0 rfl) ?_
  refine z_get X h 3 0 1 rfl inX4 rfl (by decide) fl_X4_16 rfl dX4_startTrial_1 ?_
  refine lv_aload_n X.1 X.2.1 dX4_startTrial_4 rfl (lv_at hl 0 rfl) ?_
  refine z_get X h 3 0 0 rfl inX4 rfl (by decide) fl_X4_10 rfl dX4_startTrial_5 ?_
  refine z_wv (st_pair (st_in (st_in (st_nil h)))) (run_V (rest := []) X (st_pair (st_in (st_in (st_nil h)))) (c_X1_become2 hR n8) mi_X1_become ml_X4_180 ⟨Nat.le_of_ble_eq_true rfl, Nat.le_of_ble_eq_true rfl⟩ ⟨rfl, rfl⟩ (Seg.mk' _ _) 1 23 rfl rfl rfl rfl hl.1 rfl (Nat.le_of_ble_eq_true rfl) ⟨Nat.zero_le _, Nat.zero_le _⟩ dX4_startTrial_8) (fun _ => map_app (wS_map _ _ _ _ _ _ _ _) (map_app (wS_map _ _ _ _ _ _ _ _) rfl)) (fun u H locs hp h => ?_)
  have h := (st_lin (st_out (st_out (st_riap h))))
  obtain ⟨r0_1, r1_1, r2_1, r3_1, r4_1, r5_1, r6_1, r7_1, r8_1⟩ := u
  have h : St E _ s H locs (wO E a k b t x q ((v0)) fd ++ (wS E k ((hk)) ((nk)) (k1, k2, k3, k4, k5, k6, k7, k8, k9) ++ (wS E b ((iv (hr A))) ((iv (pe A))) (xs, xi, xk, xc, xl, xr, xb, yl, yr) ++ (wS E t ((iv (hr A))) ((iv (pe A))) (r0_1, r1_1, r2_1, r3_1, r4_1, r5_1, r6_1, r7_1, r8_1) ++ (wX E x ((v1)) ((e1)) ((e2)) ((e3)) ((e4)) tp ++ (wH E (q 0) ((m0)) ((o0)) c0 ++ (wH E (q 1) ((m1)) ((o1)) c1 ++ (wH E (q 2) ((m2)) ((o2)) c2 ++ (wH E (q 3) ((m3)) ((o3)) c3 ++ []))))))))) := h
  have hRb1 : RS (r0_1, r1_1, r2_1, r3_1, r4_1, r5_1, r6_1, r7_1, r8_1) A := hp
  exact ret _ _ _ _ (r0_1, r1_1, r2_1, r3_1, r4_1, r5_1, r6_1, r7_1, r8_1) h hRb1 dX4_startTrial_11
