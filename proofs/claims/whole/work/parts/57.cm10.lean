variable {E : EV} {l : Launch} {a k b t x : Nat → Nat} {q : Nat → Nat → Nat} {fd k1 k2 k3 k4 k5 k6 k7 k8 k9 xs xi xk xc xl xr xb yl yr t1 t2 t3 t4 t5 t6 t7 t8 t9 tp : Nat → Int32} {hk nk ht nt e1 e2 e3 e4 v0 v1 m0 m1 m2 m3 o0 o1 o2 o3 : Int32} {c0 c1 c2 c3 : Nat → Int64} {A K : Es} {ph tq bq sq : Int → Int} {cq : Int → Int → Int64} {ik tn : Int}
set_option maxHeartbeats 4000000 in
theorem c_sheetAt0  : MPQ E l yX4_sheetAt cX4_sheetAt 2 (some (FieldType.object "TanRow$Sheet")) (rmk 1 22) (wO E a k b t x q ((v0)) fd ++ (wS E k ((hk)) ((nk)) (k1, k2, k3, k4, k5, k6, k7, k8, k9) ++ (wS E b ((iv (hr A))) ((iv (pe A))) (xs, xi, xk, xc, xl, xr, xb, yl, yr) ++ (wS E t ((ht)) ((nt)) (t1, t2, t3, t4, t5, t6, t7, t8, t9) ++ (wX E x ((v1)) ((e1)) ((e2)) ((e3)) ((e4)) tp ++ (wH E (q 0) ((m0)) ((o0)) c0 ++ (wH E (q 1) ((m1)) ((o1)) c1 ++ (wH E (q 2) ((m2)) ((o2)) c2 ++ (wH E (q 3) ((m3)) ((o3)) c3 ++ []))))))))) [.ref (a 0), .int (iv (0))] (some (q 0 0)) := by
  refine goPQ (by decide) (Nat.le_of_ble_eq_true rfl) ?_
  intro pp e s m below meth c ls args Q ret X h hl
  have hl : lv_has ls 2 [(0, .ref (a 0)), (1, .int (iv (0)))] := hl
  refine lv_iload_n X.1 X.2.1 dX4_sheetAt_0 rfl (lv_at hl 1 rfl) ?_
  refine z_iconst X dX4_sheetAt_1 ?_
  refine z_iconst X dX4_sheetAt_2 ?_
  refine z_pi (run_S (rest := []) X h (c_X4_within ⟨by decide, by decide⟩ ⟨by decide, by decide⟩ ⟨by decide, by decide⟩) mi_X4_within ml_X4_44 ⟨Nat.le_of_ble_eq_true rfl, Nat.le_of_ble_eq_true rfl⟩ ⟨rfl, rfl⟩ (Seg.nil _) rfl hl.1 rfl (Nat.le_of_ble_eq_true rfl) ⟨Nat.zero_le _, Nat.zero_le _⟩ dX4_sheetAt_3) ?_
  refine z_ifb_eq (tgt := 18) X dX4_sheetAt_6 (by decide) (fun c_6 => ?_) (fun c_6 => ?_)
  · exfalso; omega
  · refine lv_aload_n X.1 X.2.1 dX4_sheetAt_9 rfl (lv_at hl 0 rfl) ?_
    refine z_get X h 3 0 4 rfl inX4 rfl (by decide) fl_X4_31 rfl dX4_sheetAt_10 ?_
    refine lv_iload_n X.1 X.2.1 dX4_sheetAt_13 rfl (lv_at hl 1 rfl) ?_
    refine z_aldq X h 1 rfl (by omega) (by omega) (by decide) dX4_sheetAt_14 ?_
    refine lv_goto (tgt := 19) X.1 X.2.1 dX4_sheetAt_15 (by decide) ?_
    exact ret _ _ dX4_sheetAt_19

set_option maxHeartbeats 4000000 in
theorem c_sheetAt1  : MPQ E l yX4_sheetAt cX4_sheetAt 2 (some (FieldType.object "TanRow$Sheet")) (rmk 1 22) (wO E a k b t x q ((v0)) fd ++ (wS E k ((hk)) ((nk)) (k1, k2, k3, k4, k5, k6, k7, k8, k9) ++ (wS E b ((iv (hr A))) ((iv (pe A))) (xs, xi, xk, xc, xl, xr, xb, yl, yr) ++ (wS E t ((ht)) ((nt)) (t1, t2, t3, t4, t5, t6, t7, t8, t9) ++ (wX E x ((v1)) ((e1)) ((e2)) ((e3)) ((e4)) tp ++ (wH E (q 0) ((m0)) ((o0)) c0 ++ (wH E (q 1) ((m1)) ((o1)) c1 ++ (wH E (q 2) ((m2)) ((o2)) c2 ++ (wH E (q 3) ((m3)) ((o3)) c3 ++ []))))))))) [.ref (a 0), .int (iv (1))] (some (q 1 0)) := by
  refine goPQ (by decide) (Nat.le_of_ble_eq_true rfl) ?_
  intro pp e s m below meth c ls args Q ret X h hl
  have hl : lv_has ls 2 [(0, .ref (a 0)), (1, .int (iv (1)))] := hl
  refine lv_iload_n X.1 X.2.1 dX4_sheetAt_0 rfl (lv_at hl 1 rfl) ?_
  refine z_iconst X dX4_sheetAt_1 ?_
  refine z_iconst X dX4_sheetAt_2 ?_
  refine z_pi (run_S (rest := []) X h (c_X4_within ⟨by decide, by decide⟩ ⟨by decide, by decide⟩ ⟨by decide, by decide⟩) mi_X4_within ml_X4_44 ⟨Nat.le_of_ble_eq_true rfl, Nat.le_of_ble_eq_true rfl⟩ ⟨rfl, rfl⟩ (Seg.nil _) rfl hl.1 rfl (Nat.le_of_ble_eq_true rfl) ⟨Nat.zero_le _, Nat.zero_le _⟩ dX4_sheetAt_3) ?_
  refine z_ifb_eq (tgt := 18) X dX4_sheetAt_6 (by decide) (fun c_6 => ?_) (fun c_6 => ?_)
  · exfalso; omega
  · refine lv_aload_n X.1 X.2.1 dX4_sheetAt_9 rfl (lv_at hl 0 rfl) ?_
    refine z_get X h 3 0 4 rfl inX4 rfl (by decide) fl_X4_31 rfl dX4_sheetAt_10 ?_
    refine lv_iload_n X.1 X.2.1 dX4_sheetAt_13 rfl (lv_at hl 1 rfl) ?_
    refine z_aldq X h 1 rfl (by omega) (by omega) (by decide) dX4_sheetAt_14 ?_
    refine lv_goto (tgt := 19) X.1 X.2.1 dX4_sheetAt_15 (by decide) ?_
    exact ret _ _ dX4_sheetAt_19

set_option maxHeartbeats 4000000 in
theorem c_sheetAt2  : MPQ E l yX4_sheetAt cX4_sheetAt 2 (some (FieldType.object "TanRow$Sheet")) (rmk 1 22) (wO E a k b t x q ((v0)) fd ++ (wS E k ((hk)) ((nk)) (k1, k2, k3, k4, k5, k6, k7, k8, k9) ++ (wS E b ((iv (hr A))) ((iv (pe A))) (xs, xi, xk, xc, xl, xr, xb, yl, yr) ++ (wS E t ((ht)) ((nt)) (t1, t2, t3, t4, t5, t6, t7, t8, t9) ++ (wX E x ((v1)) ((e1)) ((e2)) ((e3)) ((e4)) tp ++ (wH E (q 0) ((m0)) ((o0)) c0 ++ (wH E (q 1) ((m1)) ((o1)) c1 ++ (wH E (q 2) ((m2)) ((o2)) c2 ++ (wH E (q 3) ((m3)) ((o3)) c3 ++ []))))))))) [.ref (a 0), .int (iv (2))] (some (q 2 0)) := by
  refine goPQ (by decide) (Nat.le_of_ble_eq_true rfl) ?_
  intro pp e s m below meth c ls args Q ret X h hl
  have hl : lv_has ls 2 [(0, .ref (a 0)), (1, .int (iv (2)))] := hl
  refine lv_iload_n X.1 X.2.1 dX4_sheetAt_0 rfl (lv_at hl 1 rfl) ?_
  refine z_iconst X dX4_sheetAt_1 ?_
  refine z_iconst X dX4_sheetAt_2 ?_
  refine z_pi (run_S (rest := []) X h (c_X4_within ⟨by decide, by decide⟩ ⟨by decide, by decide⟩ ⟨by decide, by decide⟩) mi_X4_within ml_X4_44 ⟨Nat.le_of_ble_eq_true rfl, Nat.le_of_ble_eq_true rfl⟩ ⟨rfl, rfl⟩ (Seg.nil _) rfl hl.1 rfl (Nat.le_of_ble_eq_true rfl) ⟨Nat.zero_le _, Nat.zero_le _⟩ dX4_sheetAt_3) ?_
  refine z_ifb_eq (tgt := 18) X dX4_sheetAt_6 (by decide) (fun c_6 => ?_) (fun c_6 => ?_)
  · exfalso; omega
  · refine lv_aload_n X.1 X.2.1 dX4_sheetAt_9 rfl (lv_at hl 0 rfl) ?_
    refine z_get X h 3 0 4 rfl inX4 rfl (by decide) fl_X4_31 rfl dX4_sheetAt_10 ?_
    refine lv_iload_n X.1 X.2.1 dX4_sheetAt_13 rfl (lv_at hl 1 rfl) ?_
    refine z_aldq X h 1 rfl (by omega) (by omega) (by decide) dX4_sheetAt_14 ?_
    refine lv_goto (tgt := 19) X.1 X.2.1 dX4_sheetAt_15 (by decide) ?_
    exact ret _ _ dX4_sheetAt_19

set_option maxHeartbeats 4000000 in
theorem c_sheetAt3  : MPQ E l yX4_sheetAt cX4_sheetAt 2 (some (FieldType.object "TanRow$Sheet")) (rmk 1 22) (wO E a k b t x q ((v0)) fd ++ (wS E k ((hk)) ((nk)) (k1, k2, k3, k4, k5, k6, k7, k8, k9) ++ (wS E b ((iv (hr A))) ((iv (pe A))) (xs, xi, xk, xc, xl, xr, xb, yl, yr) ++ (wS E t ((ht)) ((nt)) (t1, t2, t3, t4, t5, t6, t7, t8, t9) ++ (wX E x ((v1)) ((e1)) ((e2)) ((e3)) ((e4)) tp ++ (wH E (q 0) ((m0)) ((o0)) c0 ++ (wH E (q 1) ((m1)) ((o1)) c1 ++ (wH E (q 2) ((m2)) ((o2)) c2 ++ (wH E (q 3) ((m3)) ((o3)) c3 ++ []))))))))) [.ref (a 0), .int (iv (3))] (some (q 3 0)) := by
  refine goPQ (by decide) (Nat.le_of_ble_eq_true rfl) ?_
  intro pp e s m below meth c ls args Q ret X h hl
  have hl : lv_has ls 2 [(0, .ref (a 0)), (1, .int (iv (3)))] := hl
  refine lv_iload_n X.1 X.2.1 dX4_sheetAt_0 rfl (lv_at hl 1 rfl) ?_
  refine z_iconst X dX4_sheetAt_1 ?_
  refine z_iconst X dX4_sheetAt_2 ?_
  refine z_pi (run_S (rest := []) X h (c_X4_within ⟨by decide, by decide⟩ ⟨by decide, by decide⟩ ⟨by decide, by decide⟩) mi_X4_within ml_X4_44 ⟨Nat.le_of_ble_eq_true rfl, Nat.le_of_ble_eq_true rfl⟩ ⟨rfl, rfl⟩ (Seg.nil _) rfl hl.1 rfl (Nat.le_of_ble_eq_true rfl) ⟨Nat.zero_le _, Nat.zero_le _⟩ dX4_sheetAt_3) ?_
  refine z_ifb_eq (tgt := 18) X dX4_sheetAt_6 (by decide) (fun c_6 => ?_) (fun c_6 => ?_)
  · exfalso; omega
  · refine lv_aload_n X.1 X.2.1 dX4_sheetAt_9 rfl (lv_at hl 0 rfl) ?_
    refine z_get X h 3 0 4 rfl inX4 rfl (by decide) fl_X4_31 rfl dX4_sheetAt_10 ?_
    refine lv_iload_n X.1 X.2.1 dX4_sheetAt_13 rfl (lv_at hl 1 rfl) ?_
    refine z_aldq X h 1 rfl (by omega) (by omega) (by decide) dX4_sheetAt_14 ?_
    refine lv_goto (tgt := 19) X.1 X.2.1 dX4_sheetAt_15 (by decide) ?_
    exact ret _ _ dX4_sheetAt_19

set_option maxHeartbeats 4000000 in
theorem c_sheetAtN {s9 : Int} (rs : r32 s9) (ho : s9 < 0 ∨ 3 < s9) : MPQ E l yX4_sheetAt cX4_sheetAt 2 (some (FieldType.object "TanRow$Sheet")) (rmk 1 22) (wO E a k b t x q ((v0)) fd ++ (wS E k ((hk)) ((nk)) (k1, k2, k3, k4, k5, k6, k7, k8, k9) ++ (wS E b ((iv (hr A))) ((iv (pe A))) (xs, xi, xk, xc, xl, xr, xb, yl, yr) ++ (wS E t ((ht)) ((nt)) (t1, t2, t3, t4, t5, t6, t7, t8, t9) ++ (wX E x ((v1)) ((e1)) ((e2)) ((e3)) ((e4)) tp ++ (wH E (q 0) ((m0)) ((o0)) c0 ++ (wH E (q 1) ((m1)) ((o1)) c1 ++ (wH E (q 2) ((m2)) ((o2)) c2 ++ (wH E (q 3) ((m3)) ((o3)) c3 ++ []))))))))) [.ref (a 0), .int (iv (s9))] (none) := by
  refine goPQ (by decide) (Nat.le_of_ble_eq_true rfl) ?_
  intro pp e s m below meth c ls args Q ret X h hl
  have hl : lv_has ls 2 [(0, .ref (a 0)), (1, .int (iv (s9)))] := hl
  refine lv_iload_n X.1 X.2.1 dX4_sheetAt_0 rfl (lv_at hl 1 rfl) ?_
  refine z_iconst X dX4_sheetAt_1 ?_
  refine z_iconst X dX4_sheetAt_2 ?_
  refine z_pi (run_S (rest := []) X h (c_X4_within rs ⟨by decide, by decide⟩ ⟨by decide, by decide⟩) mi_X4_within ml_X4_44 ⟨Nat.le_of_ble_eq_true rfl, Nat.le_of_ble_eq_true rfl⟩ ⟨rfl, rfl⟩ (Seg.nil _) rfl hl.1 rfl (Nat.le_of_ble_eq_true rfl) ⟨Nat.zero_le _, Nat.zero_le _⟩ dX4_sheetAt_3) ?_
  refine z_ifb_eq (tgt := 18) X dX4_sheetAt_6 (by decide) (fun c_6 => ?_) (fun c_6 => ?_)
  · refine lv_null X.1 X.2.1 dX4_sheetAt_18 ?_
    exact ret _ _ dX4_sheetAt_19
  · exfalso; omega

set_option maxHeartbeats 4000000 in
theorem c_X0_isMissing {y : Nat → Nat} {bt sz : Int} {cc : Nat → Int64} (rb : r32 bt) : MP E l yX0_isMissing cX0_isMissing 1 (some FieldType.boolean) (rmk 0 0) (wH E y ((iv (bt))) ((iv (sz))) cc ++ []) [.ref (y 0)] (bz (bt = 0)) := by
  refine goB (by decide) (Nat.le_of_ble_eq_true rfl) ?_
  intro pp e s m below meth c ls args Q ret X h hl
  have hl : lv_has ls 1 [(0, .ref (y 0))] := hl
  refine lv_aload_n X.1 X.2.1 dX0_isMissing_0 rfl (lv_at hl 0 rfl) ?_
  refine z_get X h 0 0 0 rfl inX0 rfl (by decide) fl_X0_9 rfl dX0_isMissing_1 ?_
  refine z_if_ne (tgt := 11) X rb dX0_isMissing_4 (by decide) (fun c_4 => ?_) (fun c_4 => ?_)
  · refine z_iconst X dX0_isMissing_11 ?_
    exact ret _ _ _ ((bz_f (by omega)).symm) dX0_isMissing_12
  · refine z_iconst X dX0_isMissing_7 ?_
    refine lv_goto (tgt := 12) X.1 X.2.1 dX0_isMissing_8 (by decide) ?_
    exact ret _ _ _ ((bz_t (by omega)).symm) dX0_isMissing_12

set_option maxHeartbeats 4000000 in
theorem c_X0_has {y : Nat → Nat} {bt sz : Int} {cc : Nat → Int64} (z0 : 0 ≤ sz) (z1 : sz ≤ 40) {fr n9 : Int} (rf : r32 fr) (rn : r32 n9) : MP E l yX0_has cX0_has 3 (some FieldType.boolean) (rmk 0 0) (wH E y ((iv (bt))) ((iv (sz))) cc ++ []) [.ref (y 0), .int (iv (fr)), .int (iv (n9))] (bz (0 ≤ n9 ∧ 0 ≤ fr ∧ n9 ≤ sz - fr)) := by
  refine goB (by decide) (Nat.le_of_ble_eq_true rfl) ?_
  intro pp e s m below meth c ls args Q ret X h hl
  have hl : lv_has ls 3 [(0, .ref (y 0)), (1, .int (iv (fr))), (2, .int (iv (n9)))] := hl
  refine lv_iload_n X.1 X.2.1 dX0_has_0 rfl (lv_at hl 1 rfl) ?_
  refine z_if_lt (tgt := 30) X rf dX0_has_1 (by decide) (fun c_1 => ?_) (fun c_1 => ?_)
  · refine z_iconst X dX0_has_30 ?_
    exact ret _ _ _ ((bz_f (by omega)).symm) dX0_has_31
  · refine lv_iload_n X.1 X.2.1 dX0_has_4 rfl (lv_at hl 2 rfl) ?_
    refine z_if_lt (tgt := 30) X rn dX0_has_5 (by decide) (fun c_5 => ?_) (fun c_5 => ?_)
    · refine z_iconst X dX0_has_30 ?_
      exact ret _ _ _ ((bz_f (by omega)).symm) dX0_has_31
    · refine lv_iload_n X.1 X.2.1 dX0_has_8 rfl (lv_at hl 1 rfl) ?_
      refine lv_aload_n X.1 X.2.1 dX0_has_9 rfl (lv_at hl 0 rfl) ?_
      refine z_get X h 0 0 1 rfl inX0 rfl (by decide) fl_X0_15 rfl dX0_has_10 ?_
      refine z_ic_gt (tgt := 30) X rf ⟨by omega, by omega⟩ dX0_has_13 (by decide) (fun c_13 => ?_) (fun c_13 => ?_)
      · refine z_iconst X dX0_has_30 ?_
        exact ret _ _ _ ((bz_f (by omega)).symm) dX0_has_31
      · refine lv_iload_n X.1 X.2.1 dX0_has_16 rfl (lv_at hl 2 rfl) ?_
        refine lv_aload_n X.1 X.2.1 dX0_has_17 rfl (lv_at hl 0 rfl) ?_
        refine z_get X h 0 0 1 rfl inX0 rfl (by decide) fl_X0_15 rfl dX0_has_18 ?_
        refine lv_iload_n X.1 X.2.1 dX0_has_21 rfl (lv_at hl 1 rfl) ?_
        refine z_isub X dX0_has_22 ?_
        refine z_ic_gt (tgt := 30) X rn ⟨by omega, by omega⟩ dX0_has_23 (by decide) (fun c_23 => ?_) (fun c_23 => ?_)
        · refine z_iconst X dX0_has_30 ?_
          exact ret _ _ _ ((bz_f (by omega)).symm) dX0_has_31
        · refine z_iconst X dX0_has_26 ?_
          refine lv_goto (tgt := 31) X.1 X.2.1 dX0_has_27 (by decide) ?_
          exact ret _ _ _ ((bz_t (by omega)).symm) dX0_has_31

set_option maxHeartbeats 4000000 in
theorem c_X0_put {y : Nat → Nat} {bt sz : Int} {cc : Nat → Int64} (rb : r32 bt) {i9 : Int} {v9 : Int64} (i0 : 0 ≤ i9) (i1 : i9 < 40) : MV (S := Unit) E l yX0_put cX0_put 4 (rmk 0 0) (wH E y ((iv (bt))) ((iv (sz))) cc ++ []) [.ref (y 0), .int (iv (i9)), .long (v9)] (fun _ => True) (fun _ => wH E y (iv bt) (iv sz) (vp_updL cc i9.toNat (cut bt v9)) ++ []) := by
  refine goV (S := Unit) (post := fun _ => True) (ws' := fun _ => wH E y (iv bt) (iv sz) (vp_updL cc i9.toNat (cut bt v9)) ++ []) (by decide) (Nat.le_of_ble_eq_true rfl) ?_
  intro pp e s m below meth c ls args Q ret X h hl
  have hl : lv_has ls 4 [(0, .ref (y 0)), (1, .int (iv (i9))), (2, .long (v9))] := hl
  refine lv_aload_n X.1 X.2.1 dX0_put_0 rfl (lv_at hl 0 rfl) ?_
  refine z_get X h 0 0 2 rfl inX0 rfl (by decide) fl_X0_18 rfl dX0_put_1 ?_
  refine lv_iload_n X.1 X.2.1 dX0_put_4 rfl (lv_at hl 1 rfl) ?_
  refine lv_aload_n X.1 X.2.1 dX0_put_5 rfl (lv_at hl 0 rfl) ?_
  refine z_get X h 0 0 0 rfl inX0 rfl (by decide) fl_X0_9 rfl dX0_put_6 ?_
  refine z_bipush X (by decide) dX0_put_9 ?_
  refine z_ic_ne (tgt := 21) X rb ⟨by decide, by decide⟩ dX0_put_11 (by decide) (fun c_11 => ?_) (fun c_11 => ?_)
  · refine lv_aload_n X.1 X.2.1 dX0_put_21 rfl (lv_at hl 0 rfl) ?_
    refine z_get X h 0 0 0 rfl inX0 rfl (by decide) fl_X0_9 rfl dX0_put_22 ?_
    refine z_bipush X (by decide) dX0_put_25 ?_
    refine z_ic_ne (tgt := 37) X rb ⟨by decide, by decide⟩ dX0_put_27 (by decide) (fun c_27 => ?_) (fun c_27 => ?_)
    · refine lv_lload_n X.1 X.2.1 dX0_put_37 rfl (lv_at hl 2 rfl) ?_
      refine s_last X (st_nil h) 1 rfl (by omega) (by omega) (by decide) dX0_put_38 (fun H locs h => ?_)
      have h := (st_lin (st_eq wH_numbers h))
      have h : St E _ s H locs (wH E y ((iv (bt))) ((iv (sz))) (vp_updL cc (i9 : Int).toNat (v9)) ++ []) := h
      exact ret _ _ _ _ () (by rw [show cut bt v9 = (v9) by unfold cut; (repeat (first | rw [if_pos (by omega)] | rw [if_neg (by omega)]))]; exact h) trivial dX0_put_39
    · refine lv_lload_n X.1 X.2.1 dX0_put_30 rfl (lv_at hl 2 rfl) ?_
      refine lv_l2i (v := (v9).toInt32) X.1 X.2.1 dX0_put_31 rfl ?_
      refine lv_i2s (v := ((v9).toInt32).toInt16.toInt32) X.1 X.2.1 dX0_put_32 rfl ?_
      refine lv_i2l (v := (((v9).toInt32).toInt16.toInt32).toInt64) X.1 X.2.1 dX0_put_33 rfl ?_
      refine lv_goto (tgt := 38) X.1 X.2.1 dX0_put_34 (by decide) ?_
      refine s_last X (st_nil h) 1 rfl (by omega) (by omega) (by decide) dX0_put_38 (fun H locs h => ?_)
      have h := (st_lin (st_eq wH_numbers h))
      have h : St E _ s H locs (wH E y ((iv (bt))) ((iv (sz))) (vp_updL cc (i9 : Int).toNat ((((v9).toInt32).toInt16.toInt32).toInt64)) ++ []) := h
      exact ret _ _ _ _ () (by rw [show cut bt v9 = ((((v9).toInt32).toInt16.toInt32).toInt64) by unfold cut; (repeat (first | rw [if_pos (by omega)] | rw [if_neg (by omega)]))]; exact h) trivial dX0_put_39
  · refine lv_lload_n X.1 X.2.1 dX0_put_14 rfl (lv_at hl 2 rfl) ?_
    refine lv_l2i (v := (v9).toInt32) X.1 X.2.1 dX0_put_15 rfl ?_
    refine lv_i2b (v := ((v9).toInt32).toInt8.toInt32) X.1 X.2.1 dX0_put_16 rfl ?_
    refine lv_i2l (v := (((v9).toInt32).toInt8.toInt32).toInt64) X.1 X.2.1 dX0_put_17 rfl ?_
    refine lv_goto (tgt := 38) X.1 X.2.1 dX0_put_18 (by decide) ?_
    refine s_last X (st_nil h) 1 rfl (by omega) (by omega) (by decide) dX0_put_38 (fun H locs h => ?_)
    have h := (st_lin (st_eq wH_numbers h))
    have h : St E _ s H locs (wH E y ((iv (bt))) ((iv (sz))) (vp_updL cc (i9 : Int).toNat ((((v9).toInt32).toInt8.toInt32).toInt64)) ++ []) := h
    exact ret _ _ _ _ () (by rw [show cut bt v9 = ((((v9).toInt32).toInt8.toInt32).toInt64) by unfold cut; (repeat (first | rw [if_pos (by omega)] | rw [if_neg (by omega)]))]; exact h) trivial dX0_put_39

set_option maxHeartbeats 4000000 in
theorem c_J7_fill_d0a16 {y : Nat → Nat} {bt sz : Int} {cc : Nat → Int64} {x9 : Int64} : MV (S := Nat → Int64) E l yJ7_fill_d0a16 cJ7_fill_d0a16 5 (rmk 0 0) (wH E y ((iv (bt))) ((iv (sz))) cc ++ []) [.ref (y 1), .long (x9)] (fun u => ∀ j : Nat, j < 40 → u j = x9) (fun u => wH E y (iv bt) (iv sz) u ++ []) := by
  refine goV (S := Nat → Int64) (post := fun u => ∀ j : Nat, j < 40 → u j = x9) (ws' := fun u => wH E y (iv bt) (iv sz) u ++ []) (by decide) (Nat.le_of_ble_eq_true rfl) ?_
  intro pp e s m below meth c ls args Q ret X h hl
  have hl : lv_has ls 5 [(0, .ref (y 1)), (1, .long (x9))] := hl
  refine z_iconst X dJ7_fill_d0a16_0 ?_
  refine lv_istore_n (lv' := [(3, .int (iv (0))), (0, .ref (y 1)), (1, .long (x9))]) X.1 X.2.1 dJ7_fill_d0a16_1 rfl hl (by decide) rfl (fun ls hl => ?_)
  refine lv_aload_n X.1 X.2.1 dJ7_fill_d0a16_2 rfl (lv_at hl 1 rfl) ?_
  refine z_alenJ X h 1 rfl dJ7_fill_d0a16_3 ?_
  refine lv_istore (lv' := [(4, .int (iv (40))), (3, .int (iv (0))), (0, .ref (y 1)), (1, .long (x9))]) X.1 X.2.1 dJ7_fill_d0a16_4 hl (by decide) rfl (fun ls hl => ?_)
  have L6 : ∀ (fuel_ : Nat) (i : Int) (cv : Nat → Int64), (0 ≤ i) → (i ≤ 40) → (∀ j : Nat, (j : Int) < i → cv j = x9) → 40 - i < (fuel_ : Int) → ∀ (H : Heap) (locs : List Loc), St E (wH E y ((iv (bt))) ((iv (sz))) cc ++ []) s H locs (wH E y ((iv (bt))) ((iv (sz))) cv ++ []) → ∀ ls : Array Slot, lv_has ls 5 [(0, .ref (y 1)), (1, .long (x9)), (3, .int (iv (i))), (4, .int (iv (40)))] → W pp l e (rmk 0 0) s m args below meth c H locs 0 0 Q (F0 m 6 ls []) := by
    intro fuel_
    induction fuel_ with
    | zero =>
      intro i cv i0 i1 hc hn
      exfalso; omega
    | succ fuel_ ih =>
      intro i cv i0 i1 hc hn H locs h ls hl
      refine lv_iload_n X.1 X.2.1 dJ7_fill_d0a16_6 rfl (lv_at hl 2 rfl) ?_
      refine lv_iload X.1 X.2.1 dJ7_fill_d0a16_7 (lv_at hl 3 rfl) ?_
      refine z_ic_ge (tgt := 22) X ⟨by omega, by omega⟩ ⟨by decide, by decide⟩ dJ7_fill_d0a16_9 (by decide) (fun c_9 => ?_) (fun c_9 => ?_)
      · exact ret _ _ _ _ cv h (fun j hj => hc j (by omega)) dJ7_fill_d0a16_22
      · refine lv_aload_n X.1 X.2.1 dJ7_fill_d0a16_12 rfl (lv_at hl 0 rfl) ?_
        refine lv_iload_n X.1 X.2.1 dJ7_fill_d0a16_13 rfl (lv_at hl 2 rfl) ?_
        refine lv_lload_n X.1 X.2.1 dJ7_fill_d0a16_14 rfl (lv_at hl 1 rfl) ?_
        refine s_last X (st_nil h) 1 rfl (by omega) (by omega) (by decide) dJ7_fill_d0a16_15 (fun H locs h => ?_)
        have h := (st_lin (st_eq wH_numbers h))
        have h : St E _ s H locs (wH E y ((iv (bt))) ((iv (sz))) (vp_updL cv (i : Int).toNat (x9)) ++ []) := h
        refine z_iinc (k := 2) (lv' := [(3, .int (iv (i + 1))), (0, .ref (y 1)), (1, .long (x9)), (4, .int (iv (40)))]) X dJ7_fill_d0a16_16 hl rfl (by decide) rfl (fun ls hl => ?_)
        refine lv_goto (tgt := 6) X.1 X.2.1 dJ7_fill_d0a16_19 (by decide) ?_
        exact ih (i + 1) ((vp_updL cv (i : Int).toNat (x9))) (by omega) (by omega) (fl_step i0 hc) (by omega) _ _ h ls (lv_sub hl [1, 2, 0, 3] rfl)
  exact L6 ((40 - (0) : Int).toNat + 1) (0) (cc) (by omega) (by omega) (fun j hj => absurd hj (by omega)) (by omega) _ _ h ls (lv_sub hl [2, 3, 1, 0] rfl)

set_option maxHeartbeats 4000000 in
theorem c_X0_begin {y : Nat → Nat} {bt sz : Int} {cc : Nat → Int64} {b9 n9 : Int} (r9 : r32 b9) : MV (S := Nat → Int64) E l yX0_begin cX0_begin 3 (rmk 1 24) (wH E y ((iv (bt))) ((iv (sz))) cc ++ []) [.ref (y 0), .int (iv (b9)), .int (iv (n9))] (fun u => ∀ j : Nat, j < 40 → u j = 0) (fun u => wH E y (iv b9) (iv (if b9 = 0 then 0 else n9)) u ++ []) := by
  refine goV (S := Nat → Int64) (post := fun u => ∀ j : Nat, j < 40 → u j = 0) (ws' := fun u => wH E y (iv b9) (iv (if b9 = 0 then 0 else n9)) u ++ []) (by decide) (Nat.le_of_ble_eq_true rfl) ?_
  intro pp e s m below meth c ls args Q ret X h hl
  have hl : lv_has ls 3 [(0, .ref (y 0)), (1, .int (iv (b9))), (2, .int (iv (n9)))] := hl
  refine lv_aload_n X.1 X.2.1 dX0_begin_0 rfl (lv_at hl 0 rfl) ?_
  refine lv_iload_n X.1 X.2.1 dX0_begin_1 rfl (lv_at hl 1 rfl) ?_
  refine s_put X (st_nil h) 0 0 0 rfl inX0 tyX0 tyX0_ok nmX0 rfl (by decide) fl_X0_9 rfl rfl rfl (Nat.le_of_ble_eq_true rfl) dX0_begin_2 (fun H locs h => ?_)
  have h := (st_lin (st_eq wH_bits h))
  have h : St E _ s H locs (wH E y ((iv (b9))) ((iv (sz))) cc ++ []) := h
  refine lv_aload_n X.1 X.2.1 dX0_begin_5 rfl (lv_at hl 0 rfl) ?_
  refine lv_iload_n X.1 X.2.1 dX0_begin_6 rfl (lv_at hl 1 rfl) ?_
  refine z_if_ne (tgt := 14) X r9 dX0_begin_7 (by decide) (fun c_7 => ?_) (fun c_7 => ?_)
  · refine lv_iload_n X.1 X.2.1 dX0_begin_14 rfl (lv_at hl 2 rfl) ?_
    refine s_put X (st_nil h) 0 0 1 rfl inX0 tyX0 tyX0_ok nmX0 rfl (by decide) fl_X0_15 rfl rfl rfl (Nat.le_of_ble_eq_true rfl) dX0_begin_15 (fun H locs h => ?_)
    have h := (st_lin (st_eq wH_size h))
    have h : St E _ s H locs (wH E y ((iv (b9))) ((iv (n9))) cc ++ []) := h
    refine lv_aload_n X.1 X.2.1 dX0_begin_18 rfl (lv_at hl 0 rfl) ?_
    refine z_get X h 0 0 2 rfl inX0 rfl (by decide) fl_X0_18 rfl dX0_begin_19 ?_
    refine lv_lconst (v := 0) X.1 X.2.1 dX0_begin_22 (by decide) ?_
    refine z_av h (run_S (rest := []) X h (c_J7_fill_d0a16 (x9 := 0)) mi_J7_fill_d0a16 ml_X0_22 ⟨Nat.le_of_ble_eq_true rfl, Nat.le_of_ble_eq_true rfl⟩ ⟨rfl, rfl⟩ (Seg.rfl' _) rfl hl.1 rfl (Nat.le_of_ble_eq_true rfl) ⟨Nat.zero_le _, Nat.zero_le _⟩ dX0_begin_23) (fun _ => map_app (wH_map _ _ _ _ _ _ _ _) rfl) (fun fz9 H locs hz9 h => ?_)
    have h : St E _ s H locs (wH E y ((iv (b9))) ((iv (n9))) fz9 ++ []) := h
    exact ret _ _ _ _ fz9 (by rw [show (if b9 = 0 then 0 else n9) = n9 by (repeat (first | rw [if_pos (by omega)] | rw [if_neg (by omega)]))]; exact h) hz9 dX0_begin_26
  · refine z_iconst X dX0_begin_10 ?_
    refine lv_goto (tgt := 15) X.1 X.2.1 dX0_begin_11 (by decide) ?_
    refine s_put X (st_nil h) 0 0 1 rfl inX0 tyX0 tyX0_ok nmX0 rfl (by decide) fl_X0_15 rfl rfl rfl (Nat.le_of_ble_eq_true rfl) dX0_begin_15 (fun H locs h => ?_)
    have h := (st_lin (st_eq wH_size h))
    have h : St E _ s H locs (wH E y ((iv (b9))) ((iv (0))) cc ++ []) := h
    refine lv_aload_n X.1 X.2.1 dX0_begin_18 rfl (lv_at hl 0 rfl) ?_
    refine z_get X h 0 0 2 rfl inX0 rfl (by decide) fl_X0_18 rfl dX0_begin_19 ?_
    refine lv_lconst (v := 0) X.1 X.2.1 dX0_begin_22 (by decide) ?_
    refine z_av h (run_S (rest := []) X h (c_J7_fill_d0a16 (x9 := 0)) mi_J7_fill_d0a16 ml_X0_22 ⟨Nat.le_of_ble_eq_true rfl, Nat.le_of_ble_eq_true rfl⟩ ⟨rfl, rfl⟩ (Seg.rfl' _) rfl hl.1 rfl (Nat.le_of_ble_eq_true rfl) ⟨Nat.zero_le _, Nat.zero_le _⟩ dX0_begin_23) (fun _ => map_app (wH_map _ _ _ _ _ _ _ _) rfl) (fun fz9 H locs hz9 h => ?_)
    have h : St E _ s H locs (wH E y ((iv (b9))) ((iv (0))) fz9 ++ []) := h
    exact ret _ _ _ _ fz9 (by rw [show (if b9 = 0 then 0 else n9) = 0 by (repeat (first | rw [if_pos (by omega)] | rw [if_neg (by omega)]))]; exact h) hz9 dX0_begin_26
