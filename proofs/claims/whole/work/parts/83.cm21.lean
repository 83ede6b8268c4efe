variable {E : EV} {l : Launch} {t x : Nat → Nat} {xs xi xk xc xl xr xb yl yr : Nat → Int32} {tp : Nat → Int32} {tq : Int → Int} {tn : Int} {nu : Int32} {A : Es}
set_option maxHeartbeats 4000000 in
theorem c_X2_readSun (hR : RS (xs, xi, xk, xc, xl, xr, xb, yl, yr) A) (hI : IA A) (hT : RT tp tq tn) {i : Int} (i0 : 0 ≤ i) (i1 : i ≤ tn) (hnu : sortT tq tn i = 2 → nu = iv (tV tq tn i)) : MI (S := Ac × Int32) E l yX2_readSun cX2_readSun 3 (some FieldType.boolean) (rmk 3 61) (wS E t ((iv (hr A))) ((iv (pe A))) (xs, xi, xk, xc, xl, xr, xb, yl, yr) ++ (wX E x ((iv (tn))) ((iv (sortT tq tn i))) ((iv (tS tq tn i))) ((iv (tE tq tn i))) ((nu)) tp ++ [])) [.ref (x 0), .ref (t 0)] (fun r u => r = iv (bz ((s_item tq tn A (tE tq tn i)).1 = true)) ∧ ((s_item tq tn A (tE tq tn i)).1 = true → u.1.1 = iv (hr (s_item tq tn A (tE tq tn i)).2.1) ∧ u.1.2.1 = iv (pe (s_item tq tn A (tE tq tn i)).2.1) ∧ RS u.1.2.2 (s_item tq tn A (tE tq tn i)).2.1 ∧ IA (s_item tq tn A (tE tq tn i)).2.1 ∧ hr (s_item tq tn A (tE tq tn i)).2.1 = hr A) ∧ (sortT tq tn (s_item tq tn A (tE tq tn i)).2.2 = 2 → u.2 = iv (tV tq tn (s_item tq tn A (tE tq tn i)).2.2)) ∧ ((s_item tq tn A (tE tq tn i)).1 = true → i < (s_item tq tn A (tE tq tn i)).2.2) ∧ i ≤ (s_item tq tn A (tE tq tn i)).2.2 ∧ (s_item tq tn A (tE tq tn i)).2.2 ≤ tn) (fun u => wS E t u.1.1 u.1.2.1 u.1.2.2 ++ (wX E x (iv (tn)) (iv (sortT tq tn (s_item tq tn A (tE tq tn i)).2.2)) (iv (tS tq tn (s_item tq tn A (tE tq tn i)).2.2)) (iv (tE tq tn (s_item tq tn A (tE tq tn i)).2.2)) u.2 tp ++ [])) := by
  refine goZ (S := Ac × Int32) (post := fun r u => r = iv (bz ((s_item tq tn A (tE tq tn i)).1 = true)) ∧ ((s_item tq tn A (tE tq tn i)).1 = true → u.1.1 = iv (hr (s_item tq tn A (tE tq tn i)).2.1) ∧ u.1.2.1 = iv (pe (s_item tq tn A (tE tq tn i)).2.1) ∧ RS u.1.2.2 (s_item tq tn A (tE tq tn i)).2.1 ∧ IA (s_item tq tn A (tE tq tn i)).2.1 ∧ hr (s_item tq tn A (tE tq tn i)).2.1 = hr A) ∧ (sortT tq tn (s_item tq tn A (tE tq tn i)).2.2 = 2 → u.2 = iv (tV tq tn (s_item tq tn A (tE tq tn i)).2.2)) ∧ ((s_item tq tn A (tE tq tn i)).1 = true → i < (s_item tq tn A (tE tq tn i)).2.2) ∧ i ≤ (s_item tq tn A (tE tq tn i)).2.2 ∧ (s_item tq tn A (tE tq tn i)).2.2 ≤ tn) (ws' := fun u => wS E t u.1.1 u.1.2.1 u.1.2.2 ++ (wX E x (iv (tn)) (iv (sortT tq tn (s_item tq tn A (tE tq tn i)).2.2)) (iv (tS tq tn (s_item tq tn A (tE tq tn i)).2.2)) (iv (tE tq tn (s_item tq tn A (tE tq tn i)).2.2)) u.2 tp ++ [])) (by decide) (Nat.le_of_ble_eq_true rfl) ?_
  intro pp e s m below meth c ls args Q ret X h hl
  have hl : lv_has ls 3 [(0, .ref (x 0)), (1, .ref (t 0))] := hl
  have t0 := hT.1
  have t1 := hT.2.1
  have tr := tok_rng tq i0 i1
  have n8 := hI.n8
  have n0 := hI.n0
  have sr := sort_rng tq tn i
  have s2 := sort_20 (tq := tq) (tn := tn) (i := i)
  have v2 := tV_le tq i1
  refine lv_aload_n X.1 X.2.1 dX2_readSun_0 rfl (lv_at hl 0 rfl) ?_
  refine z_wv (st_sing (st_in (st_nil h))) (run_V (rest := []) X (st_sing (st_in (st_nil h))) (c_X2_advance (pt := (tE tq tn i)) hT (by omega) (by omega)) mi_X2_advance ml_X2_31 ⟨Nat.le_of_ble_eq_true rfl, Nat.le_of_ble_eq_true rfl⟩ ⟨rfl, rfl⟩ (Seg.mk' _ _) 2 10 rfl rfl rfl rfl hl.1 rfl (Nat.le_of_ble_eq_true rfl) ⟨Nat.zero_le _, Nat.zero_le _⟩ dX2_readSun_1) (fun _ => map_app (wX_map _ _ _ _ _ _ _ _ _ _ _ _ _ _) rfl) (fun u1 H locs hu1 h => ?_)
  have h := (st_lin (st_out (st_gnis h)))
  have h : St E _ s H locs (wS E t ((iv (hr A))) ((iv (pe A))) (xs, xi, xk, xc, xl, xr, xb, yl, yr) ++ (wX E x ((iv (tn))) ((iv (sortT tq tn (tE tq tn i)))) ((iv (tS tq tn (tE tq tn i)))) ((iv (tE tq tn (tE tq tn i)))) ((u1)) tp ++ [])) := h
  have tr1 := tok_rng tq (tn := tn) (i := (tE tq tn i)) (by omega) (by omega)
  have sr1 := sort_rng tq tn (tE tq tn i)
  have s21 := sort_20 (tq := tq) (tn := tn) (i := (tE tq tn i))
  have v21 := tV_le tq (tn := tn) (i := (tE tq tn i)) (by omega)
  refine lv_aload_n X.1 X.2.1 dX2_readSun_4 rfl (lv_at hl 0 rfl) ?_
  refine z_bipush X (by decide) dX2_readSun_5 ?_
  refine z_pi (run_V (rest := []) X (st_sing (st_in (st_nil h))) (c_X2_isNumberTo (so := sortT tq tn (tE tq tn i)) (nv := tV tq tn (tE tq tn i)) (mx := 9) ⟨by omega, by omega⟩ (fun _ => ⟨by omega, by omega⟩) ⟨by decide, by decide⟩ hu1) mi_X2_isNumberTo ml_X2_67 ⟨Nat.le_of_ble_eq_true rfl, Nat.le_of_ble_eq_true rfl⟩ ⟨rfl, rfl⟩ (Seg.mk' _ _) 2 10 rfl rfl rfl rfl hl.1 rfl (Nat.le_of_ble_eq_true rfl) ⟨Nat.zero_le _, Nat.zero_le _⟩ dX2_readSun_7) ?_
  refine z_ifb_ne (tgt := 15) X dX2_readSun_10 (by decide) (fun c_10 => ?_) (fun c_10 => ?_)
  · refine lv_aload_n X.1 X.2.1 dX2_readSun_15 rfl (lv_at hl 0 rfl) ?_
    refine z_get X h 2 10 5 rfl inX2 rfl (by decide) fl_X2_28 rfl dX2_readSun_16 ?_
    refine W.eq (g2 := F0 m 19 ls [.int (iv (tV tq tn (tE tq tn i)))]) (by rw [hu1 (by omega)]) ?_
    refine lv_istore_n (lv' := [(2, .int (iv (tV tq tn (tE tq tn i)))), (0, .ref (x 0)), (1, .ref (t 0))]) X.1 X.2.1 dX2_readSun_19 rfl hl (by decide) rfl (fun ls hl => ?_)
    refine lv_aload_n X.1 X.2.1 dX2_readSun_20 rfl (lv_at hl 1 rfl) ?_
    refine z_wv (st_sing (st_in (st_nil h))) (run_V (rest := []) X (st_sing (st_in (st_nil h))) (c_X2_advance (pt := (tE tq tn (tE tq tn i))) hT (by omega) (by omega)) mi_X2_advance ml_X2_31 ⟨Nat.le_of_ble_eq_true rfl, Nat.le_of_ble_eq_true rfl⟩ ⟨rfl, rfl⟩ (Seg.mk' _ _) 2 10 rfl rfl rfl rfl hl.1 rfl (Nat.le_of_ble_eq_true rfl) ⟨Nat.zero_le _, Nat.zero_le _⟩ dX2_readSun_21) (fun _ => map_app (wX_map _ _ _ _ _ _ _ _ _ _ _ _ _ _) rfl) (fun u2 H locs hu2 h => ?_)
    have h := (st_lin (st_out (st_gnis h)))
    have h : St E _ s H locs (wS E t ((iv (hr A))) ((iv (pe A))) (xs, xi, xk, xc, xl, xr, xb, yl, yr) ++ (wX E x ((iv (tn))) ((iv (sortT tq tn (tE tq tn (tE tq tn i))))) ((iv (tS tq tn (tE tq tn (tE tq tn i))))) ((iv (tE tq tn (tE tq tn (tE tq tn i))))) ((u2)) tp ++ [])) := h
    have tr2 := tok_rng tq (tn := tn) (i := (tE tq tn (tE tq tn i))) (by omega) (by omega)
    have sr2 := sort_rng tq tn (tE tq tn (tE tq tn i))
    have s22 := sort_20 (tq := tq) (tn := tn) (i := (tE tq tn (tE tq tn i)))
    have v22 := tV_le tq (tn := tn) (i := (tE tq tn (tE tq tn i))) (by omega)
    refine lv_aload_n X.1 X.2.1 dX2_readSun_24 rfl (lv_at hl 1 rfl) ?_
    refine z_bipush X (by decide) dX2_readSun_25 ?_
    refine z_pi (run_V (rest := []) X (st_sing (st_in (st_nil h))) (c_X2_isNumberTo (so := sortT tq tn (tE tq tn (tE tq tn i))) (nv := tV tq tn (tE tq tn (tE tq tn i))) (mx := 9) ⟨by omega, by omega⟩ (fun _ => ⟨by omega, by omega⟩) ⟨by decide, by decide⟩ hu2) mi_X2_isNumberTo ml_X2_67 ⟨Nat.le_of_ble_eq_true rfl, Nat.le_of_ble_eq_true rfl⟩ ⟨rfl, rfl⟩ (Seg.mk' _ _) 2 10 rfl rfl rfl rfl hl.1 rfl (Nat.le_of_ble_eq_true rfl) ⟨Nat.zero_le _, Nat.zero_le _⟩ dX2_readSun_27) ?_
    refine z_ifb_ne (tgt := 35) X dX2_readSun_30 (by decide) (fun c_30 => ?_) (fun c_30 => ?_)
    · refine lv_aload_n X.1 X.2.1 dX2_readSun_35 rfl (lv_at hl 2 rfl) ?_
      refine z_get X h 1 0 2 rfl inX1 rfl (by decide) fl_X2_85 rfl dX2_readSun_36 ?_
      refine lv_iload_n X.1 X.2.1 dX2_readSun_39 rfl (lv_at hl 0 rfl) ?_
      refine lv_aload_n X.1 X.2.1 dX2_readSun_40 rfl (lv_at hl 1 rfl) ?_
      refine z_get X h 2 10 5 rfl inX2 rfl (by decide) fl_X2_28 rfl dX2_readSun_41 ?_
      refine W.eq (g2 := F0 m 44 ls [.int (iv (tV tq tn (tE tq tn (tE tq tn i)))), .int (iv (tV tq tn (tE tq tn i))), .ref (t 1)]) (by rw [hu2 (by omega)]) ?_
      refine s_iast X (st_nil h) 1 rfl (by omega) (by omega) (by decide) dX2_readSun_44 (fun H locs h => ?_)
      have h := (st_lin (st_eq wS_suns h))
      have h : St E _ s H locs (wS E t ((iv (hr A))) ((iv (pe A))) ((upd xs (tV tq tn (tE tq tn i) : Int).toNat (iv (tV tq tn (tE tq tn (tE tq tn i))))), xi, xk, xc, xl, xr, xb, yl, yr) ++ (wX E x ((iv (tn))) ((iv (sortT tq tn (tE tq tn (tE tq tn i))))) ((iv (tS tq tn (tE tq tn (tE tq tn i))))) ((iv (tE tq tn (tE tq tn (tE tq tn i))))) ((u2)) tp ++ [])) := h
      have hRs : RS ((upd xs (tV tq tn (tE tq tn i) : Int).toNat (iv (tV tq tn (tE tq tn (tE tq tn i))))), xi, xk, xc, xl, xr, xb, yl, yr) (su A (tV tq tn (tE tq tn i)) (tV tq tn (tE tq tn (tE tq tn i)))) := RS_su hR (by omega)
      have hIs : IA (su A (tV tq tn (tE tq tn i)) (tV tq tn (tE tq tn (tE tq tn i)))) := IA_su hI (by omega) (by omega)
      refine lv_aload_n X.1 X.2.1 dX2_readSun_45 rfl (lv_at hl 1 rfl) ?_
      refine z_wv (st_sing (st_in (st_nil h))) (run_V (rest := []) X (st_sing (st_in (st_nil h))) (c_X2_advance (pt := (tE tq tn (tE tq tn (tE tq tn i)))) hT (by omega) (by omega)) mi_X2_advance ml_X2_31 ⟨Nat.le_of_ble_eq_true rfl, Nat.le_of_ble_eq_true rfl⟩ ⟨rfl, rfl⟩ (Seg.mk' _ _) 2 10 rfl rfl rfl rfl hl.1 rfl (Nat.le_of_ble_eq_true rfl) ⟨Nat.zero_le _, Nat.zero_le _⟩ dX2_readSun_46) (fun _ => map_app (wX_map _ _ _ _ _ _ _ _ _ _ _ _ _ _) rfl) (fun u3 H locs hu3 h => ?_)
      have h := (st_lin (st_out (st_gnis h)))
      have h : St E _ s H locs (wS E t ((iv (hr A))) ((iv (pe A))) ((upd xs (tV tq tn (tE tq tn i) : Int).toNat (iv (tV tq tn (tE tq tn (tE tq tn i))))), xi, xk, xc, xl, xr, xb, yl, yr) ++ (wX E x ((iv (tn))) ((iv (sortT tq tn (tE tq tn (tE tq tn (tE tq tn i)))))) ((iv (tS tq tn (tE tq tn (tE tq tn (tE tq tn i)))))) ((iv (tE tq tn (tE tq tn (tE tq tn (tE tq tn i)))))) ((u3)) tp ++ [])) := h
      have tr3 := tok_rng tq (tn := tn) (i := (tE tq tn (tE tq tn (tE tq tn i)))) (by omega) (by omega)
      have sr3 := sort_rng tq tn (tE tq tn (tE tq tn (tE tq tn i)))
      have s23 := sort_20 (tq := tq) (tn := tn) (i := (tE tq tn (tE tq tn (tE tq tn i))))
      have v23 := tV_le tq (tn := tn) (i := (tE tq tn (tE tq tn (tE tq tn i)))) (by omega)
      refine z_iconst X dX2_readSun_49 ?_
      have e9 : s_item tq tn A (tE tq tn i) = (true, (su A (tV tq tn (tE tq tn i)) (tV tq tn (tE tq tn (tE tq tn i)))), (tE tq tn (tE tq tn (tE tq tn i)))) := by unfold s_item; (repeat (first | rw [if_pos (by omega)] | rw [if_neg (by omega)]))
      exact ret _ _ _ _ _ (((iv (hr A)), (iv (pe A)), ((upd xs (tV tq tn (tE tq tn i) : Int).toNat (iv (tV tq tn (tE tq tn (tE tq tn i))))), xi, xk, xc, xl, xr, xb, yl, yr)), (u3)) (by rw [e9]; exact h) (Or.inr rfl) (by rw [e9]; exact ⟨congrArg iv (bz_t rfl).symm, fun _ => ⟨rfl, rfl, hRs, hIs, rfl⟩, hu3, fun _ => (show i < (tE tq tn (tE tq tn (tE tq tn i))) by omega), (show i ≤ (tE tq tn (tE tq tn (tE tq tn i))) by omega), (show (tE tq tn (tE tq tn (tE tq tn i))) ≤ tn by omega)⟩) dX2_readSun_50
    · refine z_iconst X dX2_readSun_33 ?_
      have e9 : s_item tq tn A (tE tq tn i) = (false, A, (tE tq tn (tE tq tn i))) := by unfold s_item; (repeat (first | rw [if_pos (by omega)] | rw [if_neg (by omega)]))
      exact ret _ _ _ _ _ (((iv (hr A)), (iv (pe A)), (xs, xi, xk, xc, xl, xr, xb, yl, yr)), (u2)) (by rw [e9]; exact h) (Or.inl rfl) (by rw [e9]; exact ⟨congrArg iv (bz_f (show ¬ false = true by decide)).symm, fun q => absurd q (show ¬ false = true by decide), hu2, fun q => absurd q (show ¬ false = true by decide), (show i ≤ (tE tq tn (tE tq tn i)) by omega), (show (tE tq tn (tE tq tn i)) ≤ tn by omega)⟩) dX2_readSun_34
  · refine z_iconst X dX2_readSun_13 ?_
    have e9 : s_item tq tn A (tE tq tn i) = (false, A, (tE tq tn i)) := by unfold s_item; (repeat (first | rw [if_pos (by omega)] | rw [if_neg (by omega)]))
    exact ret _ _ _ _ _ (((iv (hr A)), (iv (pe A)), (xs, xi, xk, xc, xl, xr, xb, yl, yr)), (u1)) (by rw [e9]; exact h) (Or.inl rfl) (by rw [e9]; exact ⟨congrArg iv (bz_f (show ¬ false = true by decide)).symm, fun q => absurd q (show ¬ false = true by decide), hu1, fun q => absurd q (show ¬ false = true by decide), (show i ≤ (tE tq tn i) by omega), (show (tE tq tn i) ≤ tn by omega)⟩) dX2_readSun_14

set_option maxHeartbeats 4000000 in
theorem c_X2_readGoes (hR : RS (xs, xi, xk, xc, xl, xr, xb, yl, yr) A) (hI : IA A) (hT : RT tp tq tn) {i : Int} (i0 : 0 ≤ i) (i1 : i ≤ tn) (hnu : sortT tq tn i = 2 → nu = iv (tV tq tn i)) : MI (S := Ac × Int32) E l yX2_readGoes cX2_readGoes 2 (some FieldType.boolean) (rmk 3 61) (wS E t ((iv (hr A))) ((iv (pe A))) (xs, xi, xk, xc, xl, xr, xb, yl, yr) ++ (wX E x ((iv (tn))) ((iv (sortT tq tn i))) ((iv (tS tq tn i))) ((iv (tE tq tn i))) ((nu)) tp ++ [])) [.ref (x 0), .ref (t 0)] (fun r u => r = iv (bz ((g_item tq tn A (tE tq tn i)).1 = true)) ∧ ((g_item tq tn A (tE tq tn i)).1 = true → u.1.1 = iv (hr (g_item tq tn A (tE tq tn i)).2.1) ∧ u.1.2.1 = iv (pe (g_item tq tn A (tE tq tn i)).2.1) ∧ RS u.1.2.2 (g_item tq tn A (tE tq tn i)).2.1 ∧ IA (g_item tq tn A (tE tq tn i)).2.1 ∧ hr (g_item tq tn A (tE tq tn i)).2.1 = hr A) ∧ (sortT tq tn (g_item tq tn A (tE tq tn i)).2.2 = 2 → u.2 = iv (tV tq tn (g_item tq tn A (tE tq tn i)).2.2)) ∧ ((g_item tq tn A (tE tq tn i)).1 = true → i < (g_item tq tn A (tE tq tn i)).2.2) ∧ i ≤ (g_item tq tn A (tE tq tn i)).2.2 ∧ (g_item tq tn A (tE tq tn i)).2.2 ≤ tn) (fun u => wS E t u.1.1 u.1.2.1 u.1.2.2 ++ (wX E x (iv (tn)) (iv (sortT tq tn (g_item tq tn A (tE tq tn i)).2.2)) (iv (tS tq tn (g_item tq tn A (tE tq tn i)).2.2)) (iv (tE tq tn (g_item tq tn A (tE tq tn i)).2.2)) u.2 tp ++ [])) := by
  refine goZ (S := Ac × Int32) (post := fun r u => r = iv (bz ((g_item tq tn A (tE tq tn i)).1 = true)) ∧ ((g_item tq tn A (tE tq tn i)).1 = true → u.1.1 = iv (hr (g_item tq tn A (tE tq tn i)).2.1) ∧ u.1.2.1 = iv (pe (g_item tq tn A (tE tq tn i)).2.1) ∧ RS u.1.2.2 (g_item tq tn A (tE tq tn i)).2.1 ∧ IA (g_item tq tn A (tE tq tn i)).2.1 ∧ hr (g_item tq tn A (tE tq tn i)).2.1 = hr A) ∧ (sortT tq tn (g_item tq tn A (tE tq tn i)).2.2 = 2 → u.2 = iv (tV tq tn (g_item tq tn A (tE tq tn i)).2.2)) ∧ ((g_item tq tn A (tE tq tn i)).1 = true → i < (g_item tq tn A (tE tq tn i)).2.2) ∧ i ≤ (g_item tq tn A (tE tq tn i)).2.2 ∧ (g_item tq tn A (tE tq tn i)).2.2 ≤ tn) (ws' := fun u => wS E t u.1.1 u.1.2.1 u.1.2.2 ++ (wX E x (iv (tn)) (iv (sortT tq tn (g_item tq tn A (tE tq tn i)).2.2)) (iv (tS tq tn (g_item tq tn A (tE tq tn i)).2.2)) (iv (tE tq tn (g_item tq tn A (tE tq tn i)).2.2)) u.2 tp ++ [])) (by decide) (Nat.le_of_ble_eq_true rfl) ?_
  intro pp e s m below meth c ls args Q ret X h hl
  have hl : lv_has ls 2 [(0, .ref (x 0)), (1, .ref (t 0))] := hl
  have t0 := hT.1
  have t1 := hT.2.1
  have tr := tok_rng tq i0 i1
  have n8 := hI.n8
  have n0 := hI.n0
  have sr := sort_rng tq tn i
  have s2 := sort_20 (tq := tq) (tn := tn) (i := i)
  have v2 := tV_le tq i1
  refine lv_aload_n X.1 X.2.1 dX2_readGoes_0 rfl (lv_at hl 0 rfl) ?_
  refine z_wv (st_sing (st_in (st_nil h))) (run_V (rest := []) X (st_sing (st_in (st_nil h))) (c_X2_advance (pt := (tE tq tn i)) hT (by omega) (by omega)) mi_X2_advance ml_X2_31 ⟨Nat.le_of_ble_eq_true rfl, Nat.le_of_ble_eq_true rfl⟩ ⟨rfl, rfl⟩ (Seg.mk' _ _) 2 10 rfl rfl rfl rfl hl.1 rfl (Nat.le_of_ble_eq_true rfl) ⟨Nat.zero_le _, Nat.zero_le _⟩ dX2_readGoes_1) (fun _ => map_app (wX_map _ _ _ _ _ _ _ _ _ _ _ _ _ _) rfl) (fun u1 H locs hu1 h => ?_)
  have h := (st_lin (st_out (st_gnis h)))
  have h : St E _ s H locs (wS E t ((iv (hr A))) ((iv (pe A))) (xs, xi, xk, xc, xl, xr, xb, yl, yr) ++ (wX E x ((iv (tn))) ((iv (sortT tq tn (tE tq tn i)))) ((iv (tS tq tn (tE tq tn i)))) ((iv (tE tq tn (tE tq tn i)))) ((u1)) tp ++ [])) := h
  have tr1 := tok_rng tq (tn := tn) (i := (tE tq tn i)) (by omega) (by omega)
  have sr1 := sort_rng tq tn (tE tq tn i)
  have s21 := sort_20 (tq := tq) (tn := tn) (i := (tE tq tn i))
  have v21 := tV_le tq (tn := tn) (i := (tE tq tn i)) (by omega)
  refine lv_aload_n X.1 X.2.1 dX2_readGoes_4 rfl (lv_at hl 0 rfl) ?_
  refine lv_aload_n X.1 X.2.1 dX2_readGoes_5 rfl (lv_at hl 1 rfl) ?_
  refine z_get X h 1 0 1 rfl inX1 rfl (by decide) fl_X2_56 rfl dX2_readGoes_6 ?_
  refine z_iconst X dX2_readGoes_9 ?_
  refine z_isub X dX2_readGoes_10 ?_
  refine z_pi (run_V (rest := []) X (st_sing (st_in (st_nil h))) (c_X2_isNumberTo (so := sortT tq tn (tE tq tn i)) (nv := tV tq tn (tE tq tn i)) (mx := pe A - 1) ⟨by omega, by omega⟩ (fun _ => ⟨by omega, by omega⟩) ⟨by omega, by omega⟩ hu1) mi_X2_isNumberTo ml_X2_67 ⟨Nat.le_of_ble_eq_true rfl, Nat.le_of_ble_eq_true rfl⟩ ⟨rfl, rfl⟩ (Seg.mk' _ _) 2 10 rfl rfl rfl rfl hl.1 rfl (Nat.le_of_ble_eq_true rfl) ⟨Nat.zero_le _, Nat.zero_le _⟩ dX2_readGoes_11) ?_
  refine z_ifb_ne (tgt := 19) X dX2_readGoes_14 (by decide) (fun c_14 => ?_) (fun c_14 => ?_)
  · refine lv_aload_n X.1 X.2.1 dX2_readGoes_19 rfl (lv_at hl 1 rfl) ?_
    refine lv_aload_n X.1 X.2.1 dX2_readGoes_20 rfl (lv_at hl 0 rfl) ?_
    refine z_get X h 2 10 5 rfl inX2 rfl (by decide) fl_X2_28 rfl dX2_readGoes_21 ?_
    refine W.eq (g2 := F0 m 24 ls [.int (iv (tV tq tn (tE tq tn i))), .ref (t 0)]) (by rw [hu1 (by omega)]) ?_
    refine z_iconst X dX2_readGoes_24 ?_
    refine z_wv (st_nil h) (run_V (rest := []) X (st_nil h) (c_X1_seat (p := (tV tq tn (tE tq tn i))) (d := ((-1))) hR hI (by omega) (by first | omega | (show (tV tq tn (tE tq tn i)) < pe A; omega)) (by omega) (by omega) (by omega)) mi_X1_seat ml_X2_81 ⟨Nat.le_of_ble_eq_true rfl, Nat.le_of_ble_eq_true rfl⟩ ⟨rfl, rfl⟩ (Seg.mk' _ _) 1 0 rfl rfl rfl rfl hl.1 rfl (Nat.le_of_ble_eq_true rfl) ⟨Nat.zero_le _, Nat.zero_le _⟩ dX2_readGoes_25) (fun _ => wS_map _ _ _ _ _ _ _ _) (fun u H locs hp h => ?_)
    have h := (st_lin h)
    obtain ⟨z0_2, z1_2, z2_2, z3_2, z4_2, z5_2, z6_2, z7_2, z8_2⟩ := u
    have h : St E _ s H locs (wS E t ((iv (hr A))) ((iv (pe A))) (z0_2, z1_2, z2_2, z3_2, z4_2, z5_2, z6_2, z7_2, z8_2) ++ (wX E x ((iv (tn))) ((iv (sortT tq tn (tE tq tn i)))) ((iv (tS tq tn (tE tq tn i)))) ((iv (tE tq tn (tE tq tn i)))) ((u1)) tp ++ [])) := h
    have hR2 : RS (z0_2, z1_2, z2_2, z3_2, z4_2, z5_2, z6_2, z7_2, z8_2) (pu A 1 (tV tq tn (tE tq tn i)) ((-1))) := hp
    have hI2 : IA (pu A 1 (tV tq tn (tE tq tn i)) ((-1))) := IA_sit hI (by omega) (by first | omega | (show (tV tq tn (tE tq tn i)) < pe A; omega)) (by omega) (by omega) (by omega)
    refine lv_aload_n X.1 X.2.1 dX2_readGoes_28 rfl (lv_at hl 0 rfl) ?_
    refine z_wv (st_sing (st_in (st_nil h))) (run_V (rest := []) X (st_sing (st_in (st_nil h))) (c_X2_advance (pt := (tE tq tn (tE tq tn i))) hT (by omega) (by omega)) mi_X2_advance ml_X2_31 ⟨Nat.le_of_ble_eq_true rfl, Nat.le_of_ble_eq_true rfl⟩ ⟨rfl, rfl⟩ (Seg.mk' _ _) 2 10 rfl rfl rfl rfl hl.1 rfl (Nat.le_of_ble_eq_true rfl) ⟨Nat.zero_le _, Nat.zero_le _⟩ dX2_readGoes_29) (fun _ => map_app (wX_map _ _ _ _ _ _ _ _ _ _ _ _ _ _) rfl) (fun u3 H locs hu3 h => ?_)
    have h := (st_lin (st_out (st_gnis h)))
    have h : St E _ s H locs (wS E t ((iv (hr A))) ((iv (pe A))) (z0_2, z1_2, z2_2, z3_2, z4_2, z5_2, z6_2, z7_2, z8_2) ++ (wX E x ((iv (tn))) ((iv (sortT tq tn (tE tq tn (tE tq tn i))))) ((iv (tS tq tn (tE tq tn (tE tq tn i))))) ((iv (tE tq tn (tE tq tn (tE tq tn i))))) ((u3)) tp ++ [])) := h
    have tr3 := tok_rng tq (tn := tn) (i := (tE tq tn (tE tq tn i))) (by omega) (by omega)
    have sr3 := sort_rng tq tn (tE tq tn (tE tq tn i))
    have s23 := sort_20 (tq := tq) (tn := tn) (i := (tE tq tn (tE tq tn i)))
    have v23 := tV_le tq (tn := tn) (i := (tE tq tn (tE tq tn i))) (by omega)
    refine z_iconst X dX2_readGoes_32 ?_
    have e9 : g_item tq tn A (tE tq tn i) = (true, (pu A 1 (tV tq tn (tE tq tn i)) ((-1))), (tE tq tn (tE tq tn i))) := by unfold g_item; (repeat (first | rw [if_pos (by omega)] | rw [if_neg (by omega)]))
    exact ret _ _ _ _ _ (((iv (hr A)), (iv (pe A)), (z0_2, z1_2, z2_2, z3_2, z4_2, z5_2, z6_2, z7_2, z8_2)), (u3)) (by rw [e9]; exact h) (Or.inr rfl) (by rw [e9]; exact ⟨congrArg iv (bz_t rfl).symm, fun _ => ⟨rfl, rfl, hR2, hI2, rfl⟩, hu3, fun _ => (show i < (tE tq tn (tE tq tn i)) by omega), (show i ≤ (tE tq tn (tE tq tn i)) by omega), (show (tE tq tn (tE tq tn i)) ≤ tn by omega)⟩) dX2_readGoes_33
  · refine z_iconst X dX2_readGoes_17 ?_
    have e9 : g_item tq tn A (tE tq tn i) = (false, A, (tE tq tn i)) := by unfold g_item; (repeat (first | rw [if_pos (by omega)] | rw [if_neg (by omega)]))
    exact ret _ _ _ _ _ (((iv (hr A)), (iv (pe A)), (xs, xi, xk, xc, xl, xr, xb, yl, yr)), (u1)) (by rw [e9]; exact h) (Or.inl rfl) (by rw [e9]; exact ⟨congrArg iv (bz_f (show ¬ false = true by decide)).symm, fun q => absurd q (show ¬ false = true by decide), hu1, fun q => absurd q (show ¬ false = true by decide), (show i ≤ (tE tq tn i) by omega), (show (tE tq tn i) ≤ tn by omega)⟩) dX2_readGoes_18
