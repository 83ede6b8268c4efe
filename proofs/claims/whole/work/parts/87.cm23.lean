variable {E : EV} {l : Launch} {t x : Nat → Nat} {xs xi xk xc xl xr xb yl yr : Nat → Int32} {tp : Nat → Int32} {tq : Int → Int} {tn : Int} {nu : Int32} {A : Es}
set_option maxHeartbeats 4000000 in
theorem c_X2_readItem (hR : RS (xs, xi, xk, xc, xl, xr, xb, yl, yr) A) (hI : IA A) (hT : RT tp tq tn) {i : Int} (i0 : 0 ≤ i) (i1 : i ≤ tn) (hnu : sortT tq tn i = 2 → nu = iv (tV tq tn i)) : MI (S := Ac × Int32) E l yX2_readItem cX2_readItem 3 (some FieldType.boolean) (rmk 7 152) (wS E t ((iv (hr A))) ((iv (pe A))) (xs, xi, xk, xc, xl, xr, xb, yl, yr) ++ (wX E x ((iv (tn))) ((iv (sortT tq tn i))) ((iv (tS tq tn i))) ((iv (tE tq tn i))) ((nu)) tp ++ [])) [.ref (x 0), .ref (t 0)] (fun r u => r = iv (bz ((itm tq tn A i).1 = true)) ∧ ((itm tq tn A i).1 = true → u.1.1 = iv (hr (itm tq tn A i).2.1) ∧ u.1.2.1 = iv (pe (itm tq tn A i).2.1) ∧ RS u.1.2.2 (itm tq tn A i).2.1 ∧ IA (itm tq tn A i).2.1 ∧ hr (itm tq tn A i).2.1 = hr A) ∧ (sortT tq tn (itm tq tn A i).2.2 = 2 → u.2 = iv (tV tq tn (itm tq tn A i).2.2)) ∧ ((itm tq tn A i).1 = true → i < (itm tq tn A i).2.2) ∧ i ≤ (itm tq tn A i).2.2 ∧ (itm tq tn A i).2.2 ≤ tn) (fun u => wS E t u.1.1 u.1.2.1 u.1.2.2 ++ (wX E x (iv (tn)) (iv (sortT tq tn (itm tq tn A i).2.2)) (iv (tS tq tn (itm tq tn A i).2.2)) (iv (tE tq tn (itm tq tn A i).2.2)) u.2 tp ++ [])) := by
  refine goZ (S := Ac × Int32) (post := fun r u => r = iv (bz ((itm tq tn A i).1 = true)) ∧ ((itm tq tn A i).1 = true → u.1.1 = iv (hr (itm tq tn A i).2.1) ∧ u.1.2.1 = iv (pe (itm tq tn A i).2.1) ∧ RS u.1.2.2 (itm tq tn A i).2.1 ∧ IA (itm tq tn A i).2.1 ∧ hr (itm tq tn A i).2.1 = hr A) ∧ (sortT tq tn (itm tq tn A i).2.2 = 2 → u.2 = iv (tV tq tn (itm tq tn A i).2.2)) ∧ ((itm tq tn A i).1 = true → i < (itm tq tn A i).2.2) ∧ i ≤ (itm tq tn A i).2.2 ∧ (itm tq tn A i).2.2 ≤ tn) (ws' := fun u => wS E t u.1.1 u.1.2.1 u.1.2.2 ++ (wX E x (iv (tn)) (iv (sortT tq tn (itm tq tn A i).2.2)) (iv (tS tq tn (itm tq tn A i).2.2)) (iv (tE tq tn (itm tq tn A i).2.2)) u.2 tp ++ [])) (by decide) (Nat.le_of_ble_eq_true rfl) ?_
  intro pp e s m below meth c ls args Q ret X h hl
  have hl : lv_has ls 3 [(0, .ref (x 0)), (1, .ref (t 0))] := hl
  have t0 := hT.1
  have t1 := hT.2.1
  have tr := tok_rng tq i0 i1
  have n8 := hI.n8
  have n0 := hI.n0
  have sr := sort_rng tq tn i
  have s2 := sort_20 (tq := tq) (tn := tn) (i := i)
  have v2 := tV_le tq i1
  refine lv_aload_n X.1 X.2.1 dX2_readItem_0 rfl (lv_at hl 0 rfl) ?_
  refine z_ldcS X h 0 rfl dX2_readItem_1 ?_
  refine z_pi (run_V (rest := []) X (st_sing (st_in (st_nil h))) (c_isWordK (i9 := 0) (w := 8) (J := i) hT (show 0 < 10 by decide) rfl (by omega) (by omega)) mi_X2_isWord ml_X2_40 ⟨Nat.le_of_ble_eq_true rfl, Nat.le_of_ble_eq_true rfl⟩ ⟨rfl, rfl⟩ (Seg.mk' _ _) 2 10 rfl rfl rfl rfl hl.1 rfl (Nat.le_of_ble_eq_true rfl) ⟨Nat.zero_le _, Nat.zero_le _⟩ dX2_readItem_3) ?_
  refine z_ifb_eq (tgt := 15) X dX2_readItem_6 (by decide) (fun c_6 => ?_) (fun c_6 => ?_)
  · refine lv_aload_n X.1 X.2.1 dX2_readItem_15 rfl (lv_at hl 0 rfl) ?_
    refine z_ldcS X h 1 rfl dX2_readItem_16 ?_
    refine z_pi (run_V (rest := []) X (st_sing (st_in (st_nil h))) (c_isWordK (i9 := 1) (w := 9) (J := i) hT (show 1 < 10 by decide) rfl (by omega) (by omega)) mi_X2_isWord ml_X2_40 ⟨Nat.le_of_ble_eq_true rfl, Nat.le_of_ble_eq_true rfl⟩ ⟨rfl, rfl⟩ (Seg.mk' _ _) 2 10 rfl rfl rfl rfl hl.1 rfl (Nat.le_of_ble_eq_true rfl) ⟨Nat.zero_le _, Nat.zero_le _⟩ dX2_readItem_18) ?_
    refine z_ifb_eq (tgt := 30) X dX2_readItem_21 (by decide) (fun c_21 => ?_) (fun c_21 => ?_)
    · refine lv_aload_n X.1 X.2.1 dX2_readItem_30 rfl (lv_at hl 0 rfl) ?_
      refine z_pi (run_V (rest := []) X (st_sing (st_in (st_nil h))) (c_X2_kindNamed (so := sortT tq tn i) (st_ := tS tq tn i) (en_ := tE tq tn i) hT ⟨by omega, by omega⟩ (by omega) (by omega) (by omega)) mi_X2_kindNamed ml_X2_52 ⟨Nat.le_of_ble_eq_true rfl, Nat.le_of_ble_eq_true rfl⟩ ⟨rfl, rfl⟩ (Seg.mk' _ _) 2 10 rfl rfl rfl rfl hl.1 rfl (Nat.le_of_ble_eq_true rfl) ⟨Nat.zero_le _, Nat.zero_le _⟩ dX2_readItem_31) ?_
      rcases knd_c tq tn i (by omega) with ⟨ek, ck⟩ | ⟨ek, ck⟩
      · refine W.eq (g2 := F0 m 34 ls [.int (iv (tK tq tn i))]) (by rw [ek]) ?_
        refine lv_istore_n (lv' := [(2, .int (iv (tK tq tn i))), (0, .ref (x 0)), (1, .ref (t 0))]) X.1 X.2.1 dX2_readItem_34 rfl hl (by decide) rfl (fun ls hl => ?_)
        refine lv_iload_n X.1 X.2.1 dX2_readItem_35 rfl (lv_at hl 0 rfl) ?_
        refine z_if_lt (tgt := 48) X ⟨by omega, by omega⟩ dX2_readItem_36 (by decide) (fun c_36 => ?_) (fun c_36 => ?_)
        · refine z_iconst X dX2_readItem_48 ?_
          have e9 : itm tq tn A i = (false, A, i) := by unfold itm p_item; (repeat (first | rw [if_pos (by omega)] | rw [if_neg (by omega)]))
          exact ret _ _ _ _ _ (((iv (hr A)), (iv (pe A)), (xs, xi, xk, xc, xl, xr, xb, yl, yr)), (nu)) (by rw [e9]; exact h) (Or.inl rfl) (by rw [e9]; exact ⟨congrArg iv (bz_f (show ¬ false = true by decide)).symm, fun q => absurd q (show ¬ false = true by decide), hnu, fun q => absurd q (show ¬ false = true by decide), (show i ≤ i by omega), (show i ≤ tn by omega)⟩) dX2_readItem_49
        · refine lv_aload_n X.1 X.2.1 dX2_readItem_39 rfl (lv_at hl 2 rfl) ?_
          refine z_get X h 1 0 1 rfl inX1 rfl (by decide) fl_X2_56 rfl dX2_readItem_40 ?_
          refine z_bipush X (by decide) dX2_readItem_43 ?_
          refine z_ic_lt (tgt := 50) X ⟨by omega, by omega⟩ ⟨by decide, by decide⟩ dX2_readItem_45 (by decide) (fun c_45 => ?_) (fun c_45 => ?_)
          · refine lv_aload_n X.1 X.2.1 dX2_readItem_50 rfl (lv_at hl 1 rfl) ?_
            refine z_wv (st_sing (st_in (st_nil h))) (run_V (rest := []) X (st_sing (st_in (st_nil h))) (c_X2_advance (pt := (tE tq tn i)) hT (by omega) (by omega)) mi_X2_advance ml_X2_31 ⟨Nat.le_of_ble_eq_true rfl, Nat.le_of_ble_eq_true rfl⟩ ⟨rfl, rfl⟩ (Seg.mk' _ _) 2 10 rfl rfl rfl rfl hl.1 rfl (Nat.le_of_ble_eq_true rfl) ⟨Nat.zero_le _, Nat.zero_le _⟩ dX2_readItem_51) (fun _ => map_app (wX_map _ _ _ _ _ _ _ _ _ _ _ _ _ _) rfl) (fun u1 H locs hu1 h => ?_)
            have h := (st_lin (st_out (st_gnis h)))
            have h : St E _ s H locs (wS E t ((iv (hr A))) ((iv (pe A))) (xs, xi, xk, xc, xl, xr, xb, yl, yr) ++ (wX E x ((iv (tn))) ((iv (sortT tq tn (tE tq tn i)))) ((iv (tS tq tn (tE tq tn i)))) ((iv (tE tq tn (tE tq tn i)))) ((u1)) tp ++ [])) := h
            have tr1 := tok_rng tq (tn := tn) (i := (tE tq tn i)) (by omega) (by omega)
            have sr1 := sort_rng tq tn (tE tq tn i)
            have s21 := sort_20 (tq := tq) (tn := tn) (i := (tE tq tn i))
            have v21 := tV_le tq (tn := tn) (i := (tE tq tn i)) (by omega)
            refine lv_aload_n X.1 X.2.1 dX2_readItem_54 rfl (lv_at hl 1 rfl) ?_
            refine lv_aload_n X.1 X.2.1 dX2_readItem_55 rfl (lv_at hl 2 rfl) ?_
            refine lv_iload_n X.1 X.2.1 dX2_readItem_56 rfl (lv_at hl 0 rfl) ?_
            refine z_ai h (run_V (rest := []) X h (c_X2_readPerson (i := (tE tq tn i)) hR hI hT (by omega) (by omega) hu1 (by omega) (by omega) (by omega)) mi_X2_readPerson ml_X2_61 ⟨Nat.le_of_ble_eq_true rfl, Nat.le_of_ble_eq_true rfl⟩ ⟨rfl, rfl⟩ (Seg.rfl' _) 2 10 rfl rfl rfl rfl hl.1 rfl (Nat.le_of_ble_eq_true rfl) ⟨Nat.zero_le _, Nat.zero_le _⟩ dX2_readItem_57) (fun _ => map_app (wS_map _ _ _ _ _ _ _ _) (map_app (wX_map _ _ _ _ _ _ _ _ _ _ _ _ _ _) rfl)) (fun r u2 H locs hp2 h => ?_)
            obtain ⟨rfl, hp2⟩ := hp2
            have e9 : itm tq tn A i = pn_item tq tn A (tK tq tn i) (tE tq tn i) := by unfold itm; rw [if_pos (by omega), p_pn, if_neg (by omega)]
            exact ret _ _ _ _ (bz ((pn_item tq tn A (tK tq tn i) (tE tq tn i)).1 = true)) u2 (by rw [e9]; exact h) bz_c (by rw [e9]; exact ⟨rfl, hp2.1, hp2.2.1, fun q => Int.lt_of_lt_of_le (show i < tE tq tn i by omega) (hp2.2.2.1 q), Int.le_trans (show i ≤ tE tq tn i by omega) hp2.2.2.2.1, hp2.2.2.2.2⟩) dX2_readItem_60
          · refine z_iconst X dX2_readItem_48 ?_
            have e9 : itm tq tn A i = (false, A, i) := by unfold itm p_item; (repeat (first | rw [if_pos (by omega)] | rw [if_neg (by omega)]))
            exact ret _ _ _ _ _ (((iv (hr A)), (iv (pe A)), (xs, xi, xk, xc, xl, xr, xb, yl, yr)), (nu)) (by rw [e9]; exact h) (Or.inl rfl) (by rw [e9]; exact ⟨congrArg iv (bz_f (show ¬ false = true by decide)).symm, fun q => absurd q (show ¬ false = true by decide), hnu, fun q => absurd q (show ¬ false = true by decide), (show i ≤ i by omega), (show i ≤ tn by omega)⟩) dX2_readItem_49
      · refine W.eq (g2 := F0 m 34 ls [.int (iv ((-1)))]) (by rw [ek]) ?_
        refine lv_istore_n (lv' := [(2, .int (iv ((-1)))), (0, .ref (x 0)), (1, .ref (t 0))]) X.1 X.2.1 dX2_readItem_34 rfl hl (by decide) rfl (fun ls hl => ?_)
        refine lv_iload_n X.1 X.2.1 dX2_readItem_35 rfl (lv_at hl 0 rfl) ?_
        refine z_if_lt (tgt := 48) X ⟨by decide, by decide⟩ dX2_readItem_36 (by decide) (fun c_36 => ?_) (fun c_36 => ?_)
        · refine z_iconst X dX2_readItem_48 ?_
          have e9 : itm tq tn A i = (false, A, i) := by unfold itm p_item; (repeat (first | rw [if_pos (by omega)] | rw [if_neg (by omega)]))
          exact ret _ _ _ _ _ (((iv (hr A)), (iv (pe A)), (xs, xi, xk, xc, xl, xr, xb, yl, yr)), (nu)) (by rw [e9]; exact h) (Or.inl rfl) (by rw [e9]; exact ⟨congrArg iv (bz_f (show ¬ false = true by decide)).symm, fun q => absurd q (show ¬ false = true by decide), hnu, fun q => absurd q (show ¬ false = true by decide), (show i ≤ i by omega), (show i ≤ tn by omega)⟩) dX2_readItem_49
        · exact absurd c_36 (by decide)
    · refine lv_aload_n X.1 X.2.1 dX2_readItem_24 rfl (lv_at hl 0 rfl) ?_
      refine lv_aload_n X.1 X.2.1 dX2_readItem_25 rfl (lv_at hl 1 rfl) ?_
      refine z_ai h (run_V (rest := []) X h (c_X2_readGoes (i := i) hR hI hT (by omega) (by omega) hnu) mi_X2_readGoes ml_X2_49 ⟨Nat.le_of_ble_eq_true rfl, Nat.le_of_ble_eq_true rfl⟩ ⟨rfl, rfl⟩ (Seg.rfl' _) 2 10 rfl rfl rfl rfl hl.1 rfl (Nat.le_of_ble_eq_true rfl) ⟨Nat.zero_le _, Nat.zero_le _⟩ dX2_readItem_26) (fun _ => map_app (wS_map _ _ _ _ _ _ _ _) (map_app (wX_map _ _ _ _ _ _ _ _ _ _ _ _ _ _) rfl)) (fun r u3 H locs hp3 h => ?_)
      obtain ⟨rfl, hp3⟩ := hp3
      have e9 : itm tq tn A i = g_item tq tn A (tE tq tn i) := by unfold itm; (repeat (first | rw [if_pos (by omega)] | rw [if_neg (by omega)]))
      exact ret _ _ _ _ (bz ((g_item tq tn A (tE tq tn i)).1 = true)) u3 (by rw [e9]; exact h) bz_c (by rw [e9]; exact ⟨rfl, hp3⟩) dX2_readItem_29
  · refine lv_aload_n X.1 X.2.1 dX2_readItem_9 rfl (lv_at hl 0 rfl) ?_
    refine lv_aload_n X.1 X.2.1 dX2_readItem_10 rfl (lv_at hl 1 rfl) ?_
    refine z_ai h (run_V (rest := []) X h (c_X2_readSun (i := i) hR hI hT (by omega) (by omega) hnu) mi_X2_readSun ml_X2_44 ⟨Nat.le_of_ble_eq_true rfl, Nat.le_of_ble_eq_true rfl⟩ ⟨rfl, rfl⟩ (Seg.rfl' _) 2 10 rfl rfl rfl rfl hl.1 rfl (Nat.le_of_ble_eq_true rfl) ⟨Nat.zero_le _, Nat.zero_le _⟩ dX2_readItem_11) (fun _ => map_app (wS_map _ _ _ _ _ _ _ _) (map_app (wX_map _ _ _ _ _ _ _ _ _ _ _ _ _ _) rfl)) (fun r u4 H locs hp4 h => ?_)
    obtain ⟨rfl, hp4⟩ := hp4
    have e9 : itm tq tn A i = s_item tq tn A (tE tq tn i) := by unfold itm; (repeat (first | rw [if_pos (by omega)] | rw [if_neg (by omega)]))
    exact ret _ _ _ _ (bz ((s_item tq tn A (tE tq tn i)).1 = true)) u4 (by rw [e9]; exact h) bz_c (by rw [e9]; exact ⟨rfl, hp4⟩) dX2_readItem_14
