variable {E : EV} {l : Launch} {t x : Nat → Nat} {xs xi xk xc xl xr xb yl yr : Nat → Int32} {tp : Nat → Int32} {tq : Int → Int} {tn : Int} {nu : Int32} {A : Es}
theorem c_isWordK (hT : RT tp tq tn) {i9 : Nat} (hi9 : i9 < 10) {w J : Int} (hw : wI i9 = w) (j0 : 0 ≤ J) (j1 : J ≤ tn) : MP E l yX2_isWord cX2_isWord 3 (some FieldType.boolean) (rmk 5 106) (wX E x (iv (tn)) (iv (sortT tq tn J)) (iv (tS tq tn J)) (iv (tE tq tn J)) nu tp ++ []) [.ref (x 0), .ref (eK E i9)] (bz (tK tq tn J = w)) := by
  have tr := tok_rng tq j0 j1
  have sr := sort_rng tq tn J
  have wl := wI_len0 ⟨i9, hi9⟩
  dsimp only at wl
  have h := c_X2_isWord (E := E) (l := l) (x := x) (e4 := nu) (so := sortT tq tn J) (st_ := tS tq tn J) (en_ := tE tq tn J) hT hi9 ⟨by omega, by omega⟩ (by omega) (by omega) (by omega)
  rw [bz_eq (tK_w (by omega) (by omega)), hw] at h
  exact h

set_option maxHeartbeats 4000000 in
theorem c_X2_readPerson (hR : RS (xs, xi, xk, xc, xl, xr, xb, yl, yr) A) (hI : IA A) (hT : RT tp tq tn) {i : Int} (i0 : 0 ≤ i) (i1 : i ≤ tn) (hnu : sortT tq tn i = 2 → nu = iv (tV tq tn i)) (hp8 : pe A < 8) {pk : Int} (k0 : 0 ≤ pk) (k1 : pk ≤ 5) : MI (S := Ac × Int32) E l yX2_readPerson cX2_readPerson 5 (some FieldType.boolean) (rmk 6 128) (wS E t ((iv (hr A))) ((iv (pe A))) (xs, xi, xk, xc, xl, xr, xb, yl, yr) ++ (wX E x ((iv (tn))) ((iv (sortT tq tn i))) ((iv (tS tq tn i))) ((iv (tE tq tn i))) ((nu)) tp ++ [])) [.ref (x 0), .ref (t 0), .int (iv (pk))] (fun r u => r = iv (bz ((pn_item tq tn A pk i).1 = true)) ∧ ((pn_item tq tn A pk i).1 = true → u.1.1 = iv (hr (pn_item tq tn A pk i).2.1) ∧ u.1.2.1 = iv (pe (pn_item tq tn A pk i).2.1) ∧ RS u.1.2.2 (pn_item tq tn A pk i).2.1 ∧ IA (pn_item tq tn A pk i).2.1 ∧ hr (pn_item tq tn A pk i).2.1 = hr A) ∧ (sortT tq tn (pn_item tq tn A pk i).2.2 = 2 → u.2 = iv (tV tq tn (pn_item tq tn A pk i).2.2)) ∧ ((pn_item tq tn A pk i).1 = true → i ≤ (pn_item tq tn A pk i).2.2) ∧ i ≤ (pn_item tq tn A pk i).2.2 ∧ (pn_item tq tn A pk i).2.2 ≤ tn) (fun u => wS E t u.1.1 u.1.2.1 u.1.2.2 ++ (wX E x (iv (tn)) (iv (sortT tq tn (pn_item tq tn A pk i).2.2)) (iv (tS tq tn (pn_item tq tn A pk i).2.2)) (iv (tE tq tn (pn_item tq tn A pk i).2.2)) u.2 tp ++ [])) := by
  refine goZ (S := Ac × Int32) (post := fun r u => r = iv (bz ((pn_item tq tn A pk i).1 = true)) ∧ ((pn_item tq tn A pk i).1 = true → u.1.1 = iv (hr (pn_item tq tn A pk i).2.1) ∧ u.1.2.1 = iv (pe (pn_item tq tn A pk i).2.1) ∧ RS u.1.2.2 (pn_item tq tn A pk i).2.1 ∧ IA (pn_item tq tn A pk i).2.1 ∧ hr (pn_item tq tn A pk i).2.1 = hr A) ∧ (sortT tq tn (pn_item tq tn A pk i).2.2 = 2 → u.2 = iv (tV tq tn (pn_item tq tn A pk i).2.2)) ∧ ((pn_item tq tn A pk i).1 = true → i ≤ (pn_item tq tn A pk i).2.2) ∧ i ≤ (pn_item tq tn A pk i).2.2 ∧ (pn_item tq tn A pk i).2.2 ≤ tn) (ws' := fun u => wS E t u.1.1 u.1.2.1 u.1.2.2 ++ (wX E x (iv (tn)) (iv (sortT tq tn (pn_item tq tn A pk i).2.2)) (iv (tS tq tn (pn_item tq tn A pk i).2.2)) (iv (tE tq tn (pn_item tq tn A pk i).2.2)) u.2 tp ++ [])) (by decide) (Nat.le_of_ble_eq_true rfl) ?_
  intro pp e s m below meth c ls args Q ret X h hl
  have hl : lv_has ls 5 [(0, .ref (x 0)), (1, .ref (t 0)), (2, .int (iv (pk)))] := hl
  have t0 := hT.1
  have t1 := hT.2.1
  have tr := tok_rng tq i0 i1
  have n8 := hI.n8
  have n0 := hI.n0
  have sr := sort_rng tq tn i
  have s2 := sort_20 (tq := tq) (tn := tn) (i := i)
  have v2 := tV_le tq i1
  refine z_bipush X (by decide) dX2_readPerson_0 ?_
  refine lv_istore_n (lv' := [(3, .int (iv (20))), (0, .ref (x 0)), (1, .ref (t 0)), (2, .int (iv (pk)))]) X.1 X.2.1 dX2_readPerson_2 rfl hl (by decide) rfl (fun ls hl => ?_)
  refine lv_aload_n X.1 X.2.1 dX2_readPerson_3 rfl (lv_at hl 1 rfl) ?_
  refine z_ldcS X h 8 rfl dX2_readPerson_4 ?_
  refine z_pi (run_V (rest := []) X (st_sing (st_in (st_nil h))) (c_isWordK (i9 := 8) (w := 6) (J := i) hT (show 8 < 10 by decide) rfl (by omega) (by omega)) mi_X2_isWord ml_X2_40 ⟨Nat.le_of_ble_eq_true rfl, Nat.le_of_ble_eq_true rfl⟩ ⟨rfl, rfl⟩ (Seg.mk' _ _) 2 10 rfl rfl rfl rfl hl.1 rfl (Nat.le_of_ble_eq_true rfl) ⟨Nat.zero_le _, Nat.zero_le _⟩ dX2_readPerson_6) ?_
  refine z_ifb_eq (tgt := 37) X dX2_readPerson_9 (by decide) (fun c_9 => ?_) (fun c_9 => ?_)
  · refine lv_aload_n X.1 X.2.1 dX2_readPerson_37 rfl (lv_at hl 2 rfl) ?_
    refine lv_iload_n X.1 X.2.1 dX2_readPerson_38 rfl (lv_at hl 3 rfl) ?_
    refine lv_iload_n X.1 X.2.1 dX2_readPerson_39 rfl (lv_at hl 0 rfl) ?_
    refine z_wi (st_nil h) (run_V (rest := []) X (st_nil h) (c_X1_add (k := pk) (b := 20) hR hI (by omega)) mi_X1_add ml_X2_71 ⟨Nat.le_of_ble_eq_true rfl, Nat.le_of_ble_eq_true rfl⟩ ⟨rfl, rfl⟩ (Seg.mk' _ _) 1 0 rfl rfl rfl rfl hl.1 rfl (Nat.le_of_ble_eq_true rfl) ⟨Nat.zero_le _, Nat.zero_le _⟩ dX2_readPerson_40) (fun _ => wS_map _ _ _ _ _ _ _ _) (fun r u H locs hp h => ?_)
    have h := (st_lin h)
    obtain ⟨z0_1, z1_1, z2_1, z3_1, z4_1, z5_1, z6_1, z7_1, z8_1⟩ := u
    have h : St E _ s H locs (wS E t ((iv (hr A))) ((iv (pe A + 1))) (z0_1, z1_1, z2_1, z3_1, z4_1, z5_1, z6_1, z7_1, z8_1) ++ (wX E x ((iv (tn))) ((iv (sortT tq tn i))) ((iv (tS tq tn i))) ((iv (tE tq tn i))) ((nu)) tp ++ [])) := h
    obtain ⟨rfl, hR1⟩ := hp
    have hR1 : RS (z0_1, z1_1, z2_1, z3_1, z4_1, z5_1, z6_1, z7_1, z8_1) (nw A pk 20) := hR1
    have hI1 : IA (nw A pk 20) := IA_nw hI (by omega) (by omega) (by omega) (by omega) (by omega)
    have pen : pe (nw A pk 20) = pe A + 1 := rfl
    refine lv_istore (lv' := [(4, .int (iv (pe A))), (3, .int (iv (20))), (0, .ref (x 0)), (1, .ref (t 0)), (2, .int (iv (pk)))]) X.1 X.2.1 dX2_readPerson_43 hl (by decide) rfl (fun ls hl => ?_)
    refine lv_aload_n X.1 X.2.1 dX2_readPerson_45 rfl (lv_at hl 2 rfl) ?_
    refine z_ldcS X h 9 rfl dX2_readPerson_46 ?_
    refine z_pi (run_V (rest := []) X (st_sing (st_in (st_nil h))) (c_isWordK (i9 := 9) (w := 7) (J := i) hT (show 9 < 10 by decide) rfl (by omega) (by omega)) mi_X2_isWord ml_X2_40 ⟨Nat.le_of_ble_eq_true rfl, Nat.le_of_ble_eq_true rfl⟩ ⟨rfl, rfl⟩ (Seg.mk' _ _) 2 10 rfl rfl rfl rfl hl.1 rfl (Nat.le_of_ble_eq_true rfl) ⟨Nat.zero_le _, Nat.zero_le _⟩ dX2_readPerson_48) ?_
    refine z_ifb_eq (tgt := 96) X dX2_readPerson_51 (by decide) (fun c_51 => ?_) (fun c_51 => ?_)
    · have hRn2 : RS (z0_1, z1_1, z2_1, z3_1, z4_1, z5_1, z6_1, z7_1, z8_1) (nwc A pk 20 (-1)) := RS_nwc0 hR1
      have hIn2 : IA (nwc A pk 20 (-1)) := IA_nwc0 hI1
      refine z_iconst X dX2_readPerson_96 ?_
      have e9 : pn_item tq tn A pk i = (true, (nwc A pk 20 (-1)), i) := by unfold pn_item on_item; (repeat (first | rw [if_pos (by omega)] | rw [if_neg (by omega)]))
      exact ret _ _ _ _ _ (((iv (hr A)), (iv (pe A + 1)), (z0_1, z1_1, z2_1, z3_1, z4_1, z5_1, z6_1, z7_1, z8_1)), (nu)) (by rw [e9]; exact h) (Or.inr rfl) (by rw [e9]; exact ⟨congrArg iv (bz_t rfl).symm, fun _ => ⟨rfl, rfl, hRn2, hIn2, rfl⟩, hnu, fun _ => (show i ≤ i by omega), (show i ≤ i by omega), (show i ≤ tn by omega)⟩) dX2_readPerson_97
    · refine lv_aload_n X.1 X.2.1 dX2_readPerson_54 rfl (lv_at hl 2 rfl) ?_
      refine z_wv (st_sing (st_in (st_nil h))) (run_V (rest := []) X (st_sing (st_in (st_nil h))) (c_X2_advance (pt := (tE tq tn i)) hT (by omega) (by omega)) mi_X2_advance ml_X2_31 ⟨Nat.le_of_ble_eq_true rfl, Nat.le_of_ble_eq_true rfl⟩ ⟨rfl, rfl⟩ (Seg.mk' _ _) 2 10 rfl rfl rfl rfl hl.1 rfl (Nat.le_of_ble_eq_true rfl) ⟨Nat.zero_le _, Nat.zero_le _⟩ dX2_readPerson_55) (fun _ => map_app (wX_map _ _ _ _ _ _ _ _ _ _ _ _ _ _) rfl) (fun u3 H locs hu3 h => ?_)
      have h := (st_lin (st_out (st_gnis h)))
      have h : St E _ s H locs (wS E t ((iv (hr A))) ((iv (pe A + 1))) (z0_1, z1_1, z2_1, z3_1, z4_1, z5_1, z6_1, z7_1, z8_1) ++ (wX E x ((iv (tn))) ((iv (sortT tq tn (tE tq tn i)))) ((iv (tS tq tn (tE tq tn i)))) ((iv (tE tq tn (tE tq tn i)))) ((u3)) tp ++ [])) := h
      have tr3 := tok_rng tq (tn := tn) (i := (tE tq tn i)) (by omega) (by omega)
      have sr3 := sort_rng tq tn (tE tq tn i)
      have s23 := sort_20 (tq := tq) (tn := tn) (i := (tE tq tn i))
      have v23 := tV_le tq (tn := tn) (i := (tE tq tn i)) (by omega)
      refine lv_aload_n X.1 X.2.1 dX2_readPerson_58 rfl (lv_at hl 2 rfl) ?_
      refine z_bipush X (by decide) dX2_readPerson_59 ?_
      refine z_pi (run_V (rest := []) X (st_sing (st_in (st_nil h))) (c_X2_isNumberTo (so := sortT tq tn (tE tq tn i)) (nv := tV tq tn (tE tq tn i)) (mx := 9) ⟨by omega, by omega⟩ (fun _ => ⟨by omega, by omega⟩) ⟨by decide, by decide⟩ hu3) mi_X2_isNumberTo ml_X2_67 ⟨Nat.le_of_ble_eq_true rfl, Nat.le_of_ble_eq_true rfl⟩ ⟨rfl, rfl⟩ (Seg.mk' _ _) 2 10 rfl rfl rfl rfl hl.1 rfl (Nat.le_of_ble_eq_true rfl) ⟨Nat.zero_le _, Nat.zero_le _⟩ dX2_readPerson_61) ?_
      refine z_ifb_eq (tgt := 80) X dX2_readPerson_64 (by decide) (fun c_64 => ?_) (fun c_64 => ?_)
      · refine z_iconst X dX2_readPerson_80 ?_
        have e9 : pn_item tq tn A pk i = (false, A, (tE tq tn i)) := by unfold pn_item on_item; (repeat (first | rw [if_pos (by omega)] | rw [if_neg (by omega)]))
        exact ret _ _ _ _ _ (((iv (hr A)), (iv (pe A + 1)), (z0_1, z1_1, z2_1, z3_1, z4_1, z5_1, z6_1, z7_1, z8_1)), (u3)) (by rw [e9]; exact h) (Or.inl rfl) (by rw [e9]; exact ⟨congrArg iv (bz_f (show ¬ false = true by decide)).symm, fun q => absurd q (show ¬ false = true by decide), hu3, fun q => absurd q (show ¬ false = true by decide), (show i ≤ (tE tq tn i) by omega), (show (tE tq tn i) ≤ tn by omega)⟩) dX2_readPerson_81
      · refine lv_aload_n X.1 X.2.1 dX2_readPerson_67 rfl (lv_at hl 3 rfl) ?_
        refine lv_iload X.1 X.2.1 dX2_readPerson_68 (lv_at hl 0 rfl) ?_
        refine lv_aload_n X.1 X.2.1 dX2_readPerson_70 rfl (lv_at hl 2 rfl) ?_
        refine z_get X h 2 10 5 rfl inX2 rfl (by decide) fl_X2_28 rfl dX2_readPerson_71 ?_
        refine W.eq (g2 := F0 m 74 ls [.int (iv (tV tq tn (tE tq tn i))), .int (iv (pe A)), .ref (t 0)]) (by rw [hu3 (by omega)]) ?_
        refine z_pi (run_V (rest := []) X (st_nil h) (c_X1_isFreeFor (p := pe A) (c9 := tV tq tn (tE tq tn i)) hR1 hI1 (by omega) (by omega) (by omega) (by omega)) mi_X1_isFreeFor ml_X2_77 ⟨Nat.le_of_ble_eq_true rfl, Nat.le_of_ble_eq_true rfl⟩ ⟨rfl, rfl⟩ (Seg.mk' _ _) 1 0 rfl rfl rfl rfl hl.1 rfl (Nat.le_of_ble_eq_true rfl) ⟨Nat.zero_le _, Nat.zero_le _⟩ dX2_readPerson_74) ?_
        refine W.eq (g2 := F0 m 77 ls [.int (iv (bz (onC A (tV tq tn (tE tq tn i)) < 0)))]) (by rw [bz_eq (onC_free hI (by omega))]) ?_
        refine z_ifb_ne (tgt := 82) X dX2_readPerson_77 (by decide) (fun c_77 => ?_) (fun c_77 => ?_)
        · refine lv_aload_n X.1 X.2.1 dX2_readPerson_82 rfl (lv_at hl 3 rfl) ?_
          refine lv_iload X.1 X.2.1 dX2_readPerson_83 (lv_at hl 0 rfl) ?_
          refine lv_aload_n X.1 X.2.1 dX2_readPerson_85 rfl (lv_at hl 2 rfl) ?_
          refine z_get X h 2 10 5 rfl inX2 rfl (by decide) fl_X2_28 rfl dX2_readPerson_86 ?_
          refine W.eq (g2 := F0 m 89 ls [.int (iv (tV tq tn (tE tq tn i))), .int (iv (pe A)), .ref (t 0)]) (by rw [hu3 (by omega)]) ?_
          refine z_wv (st_nil h) (run_V (rest := []) X (st_nil h) (c_X1_seat (p := (pe A)) (d := (tV tq tn (tE tq tn i))) hR1 hI1 (by omega) (by first | omega | (show (pe A) < pe A; omega)) (by omega) (by omega) (Or.inr (Or.inl (by rw [onC_nwc hI.n0 (by omega)]; omega)))) mi_X1_seat ml_X2_81 ⟨Nat.le_of_ble_eq_true rfl, Nat.le_of_ble_eq_true rfl⟩ ⟨rfl, rfl⟩ (Seg.mk' _ _) 1 0 rfl rfl rfl rfl hl.1 rfl (Nat.le_of_ble_eq_true rfl) ⟨Nat.zero_le _, Nat.zero_le _⟩ dX2_readPerson_89) (fun _ => wS_map _ _ _ _ _ _ _ _) (fun u H locs hp h => ?_)
          have h := (st_lin h)
          obtain ⟨z0_4, z1_4, z2_4, z3_4, z4_4, z5_4, z6_4, z7_4, z8_4⟩ := u
          have h : St E _ s H locs (wS E t ((iv (hr A))) ((iv (pe A + 1))) (z0_4, z1_4, z2_4, z3_4, z4_4, z5_4, z6_4, z7_4, z8_4) ++ (wX E x ((iv (tn))) ((iv (sortT tq tn (tE tq tn i)))) ((iv (tS tq tn (tE tq tn i)))) ((iv (tE tq tn (tE tq tn i)))) ((u3)) tp ++ [])) := h
          have hR4 : RS (z0_4, z1_4, z2_4, z3_4, z4_4, z5_4, z6_4, z7_4, z8_4) (pu (nw A pk 20) 1 (pe A) (tV tq tn (tE tq tn i))) := hp
          have hI4 : IA (pu (nw A pk 20) 1 (pe A) (tV tq tn (tE tq tn i))) := IA_sit hI1 (by omega) (by first | omega | (show (pe A) < pe A; omega)) (by omega) (by omega) (Or.inr (Or.inl (by rw [onC_nwc hI.n0 (by omega)]; omega)))
          have hRn5 : RS (z0_4, z1_4, z2_4, z3_4, z4_4, z5_4, z6_4, z7_4, z8_4) (nwc A pk 20 (tV tq tn (tE tq tn i))) := RS_nwc1 hR4
          have hIn5 : IA (nwc A pk 20 (tV tq tn (tE tq tn i))) := IA_nwc1 hI4
          refine lv_aload_n X.1 X.2.1 dX2_readPerson_92 rfl (lv_at hl 2 rfl) ?_
          refine z_wv (st_sing (st_in (st_nil h))) (run_V (rest := []) X (st_sing (st_in (st_nil h))) (c_X2_advance (pt := (tE tq tn (tE tq tn i))) hT (by omega) (by omega)) mi_X2_advance ml_X2_31 ⟨Nat.le_of_ble_eq_true rfl, Nat.le_of_ble_eq_true rfl⟩ ⟨rfl, rfl⟩ (Seg.mk' _ _) 2 10 rfl rfl rfl rfl hl.1 rfl (Nat.le_of_ble_eq_true rfl) ⟨Nat.zero_le _, Nat.zero_le _⟩ dX2_readPerson_93) (fun _ => map_app (wX_map _ _ _ _ _ _ _ _ _ _ _ _ _ _) rfl) (fun u6 H locs hu6 h => ?_)
          have h := (st_lin (st_out (st_gnis h)))
          have h : St E _ s H locs (wS E t ((iv (hr A))) ((iv (pe A + 1))) (z0_4, z1_4, z2_4, z3_4, z4_4, z5_4, z6_4, z7_4, z8_4) ++ (wX E x ((iv (tn))) ((iv (sortT tq tn (tE tq tn (tE tq tn i))))) ((iv (tS tq tn (tE tq tn (tE tq tn i))))) ((iv (tE tq tn (tE tq tn (tE tq tn i))))) ((u6)) tp ++ [])) := h
          have tr6 := tok_rng tq (tn := tn) (i := (tE tq tn (tE tq tn i))) (by omega) (by omega)
          have sr6 := sort_rng tq tn (tE tq tn (tE tq tn i))
          have s26 := sort_20 (tq := tq) (tn := tn) (i := (tE tq tn (tE tq tn i)))
          have v26 := tV_le tq (tn := tn) (i := (tE tq tn (tE tq tn i))) (by omega)
          refine z_iconst X dX2_readPerson_96 ?_
          have e9 : pn_item tq tn A pk i = (true, (nwc A pk 20 (tV tq tn (tE tq tn i))), (tE tq tn (tE tq tn i))) := by unfold pn_item on_item; (repeat (first | rw [if_pos (by omega)] | rw [if_neg (by omega)]))
          exact ret _ _ _ _ _ (((iv (hr A)), (iv (pe A + 1)), (z0_4, z1_4, z2_4, z3_4, z4_4, z5_4, z6_4, z7_4, z8_4)), (u6)) (by rw [e9]; exact h) (Or.inr rfl) (by rw [e9]; exact ⟨congrArg iv (bz_t rfl).symm, fun _ => ⟨rfl, rfl, hRn5, hIn5, rfl⟩, hu6, fun _ => (show i ≤ (tE tq tn (tE tq tn i)) by omega), (show i ≤ (tE tq tn (tE tq tn i)) by omega), (show (tE tq tn (tE tq tn i)) ≤ tn by omega)⟩) dX2_readPerson_97
        · refine z_iconst X dX2_readPerson_80 ?_
          have e9 : pn_item tq tn A pk i = (false, A, (tE tq tn i)) := by unfold pn_item on_item; (repeat (first | rw [if_pos (by omega)] | rw [if_neg (by omega)]))
          exact ret _ _ _ _ _ (((iv (hr A)), (iv (pe A + 1)), (z0_1, z1_1, z2_1, z3_1, z4_1, z5_1, z6_1, z7_1, z8_1)), (u3)) (by rw [e9]; exact h) (Or.inl rfl) (by rw [e9]; exact ⟨congrArg iv (bz_f (show ¬ false = true by decide)).symm, fun q => absurd q (show ¬ false = true by decide), hu3, fun q => absurd q (show ¬ false = true by decide), (show i ≤ (tE tq tn i) by omega), (show (tE tq tn i) ≤ tn by omega)⟩) dX2_readPerson_81
  · refine lv_aload_n X.1 X.2.1 dX2_readPerson_12 rfl (lv_at hl 1 rfl) ?_
    refine z_wv (st_sing (st_in (st_nil h))) (run_V (rest := []) X (st_sing (st_in (st_nil h))) (c_X2_advance (pt := (tE tq tn i)) hT (by omega) (by omega)) mi_X2_advance ml_X2_31 ⟨Nat.le_of_ble_eq_true rfl, Nat.le_of_ble_eq_true rfl⟩ ⟨rfl, rfl⟩ (Seg.mk' _ _) 2 10 rfl rfl rfl rfl hl.1 rfl (Nat.le_of_ble_eq_true rfl) ⟨Nat.zero_le _, Nat.zero_le _⟩ dX2_readPerson_13) (fun _ => map_app (wX_map _ _ _ _ _ _ _ _ _ _ _ _ _ _) rfl) (fun u7 H locs hu7 h => ?_)
    have h := (st_lin (st_out (st_gnis h)))
    have h : St E _ s H locs (wS E t ((iv (hr A))) ((iv (pe A))) (xs, xi, xk, xc, xl, xr, xb, yl, yr) ++ (wX E x ((iv (tn))) ((iv (sortT tq tn (tE tq tn i)))) ((iv (tS tq tn (tE tq tn i)))) ((iv (tE tq tn (tE tq tn i)))) ((u7)) tp ++ [])) := h
    have tr7 := tok_rng tq (tn := tn) (i := (tE tq tn i)) (by omega) (by omega)
    have sr7 := sort_rng tq tn (tE tq tn i)
    have s27 := sort_20 (tq := tq) (tn := tn) (i := (tE tq tn i))
    have v27 := tV_le tq (tn := tn) (i := (tE tq tn i)) (by omega)
    refine lv_aload_n X.1 X.2.1 dX2_readPerson_16 rfl (lv_at hl 1 rfl) ?_
    refine z_sipush X (by decide) dX2_readPerson_17 ?_
    refine z_pi (run_V (rest := []) X (st_sing (st_in (st_nil h))) (c_X2_isNumberTo (so := sortT tq tn (tE tq tn i)) (nv := tV tq tn (tE tq tn i)) (mx := 200) ⟨by omega, by omega⟩ (fun _ => ⟨by omega, by omega⟩) ⟨by decide, by decide⟩ hu7) mi_X2_isNumberTo ml_X2_67 ⟨Nat.le_of_ble_eq_true rfl, Nat.le_of_ble_eq_true rfl⟩ ⟨rfl, rfl⟩ (Seg.mk' _ _) 2 10 rfl rfl rfl rfl hl.1 rfl (Nat.le_of_ble_eq_true rfl) ⟨Nat.zero_le _, Nat.zero_le _⟩ dX2_readPerson_20) ?_
    refine z_ifb_ne (tgt := 28) X dX2_readPerson_23 (by decide) (fun c_23 => ?_) (fun c_23 => ?_)
    · refine lv_aload_n X.1 X.2.1 dX2_readPerson_28 rfl (lv_at hl 1 rfl) ?_
      refine z_get X h 2 10 5 rfl inX2 rfl (by decide) fl_X2_28 rfl dX2_readPerson_29 ?_
      refine W.eq (g2 := F0 m 32 ls [.int (iv (tV tq tn (tE tq tn i)))]) (by rw [hu7 (by omega)]) ?_
      refine lv_istore_n (lv' := [(3, .int (iv (tV tq tn (tE tq tn i)))), (0, .ref (x 0)), (1, .ref (t 0)), (2, .int (iv (pk)))]) X.1 X.2.1 dX2_readPerson_32 rfl hl (by decide) rfl (fun ls hl => ?_)
      refine lv_aload_n X.1 X.2.1 dX2_readPerson_33 rfl (lv_at hl 1 rfl) ?_
      refine z_wv (st_sing (st_in (st_nil h))) (run_V (rest := []) X (st_sing (st_in (st_nil h))) (c_X2_advance (pt := (tE tq tn (tE tq tn i))) hT (by omega) (by omega)) mi_X2_advance ml_X2_31 ⟨Nat.le_of_ble_eq_true rfl, Nat.le_of_ble_eq_true rfl⟩ ⟨rfl, rfl⟩ (Seg.mk' _ _) 2 10 rfl rfl rfl rfl hl.1 rfl (Nat.le_of_ble_eq_true rfl) ⟨Nat.zero_le _, Nat.zero_le _⟩ dX2_readPerson_34) (fun _ => map_app (wX_map _ _ _ _ _ _ _ _ _ _ _ _ _ _) rfl) (fun u8 H locs hu8 h => ?_)
      have h := (st_lin (st_out (st_gnis h)))
      have h : St E _ s H locs (wS E t ((iv (hr A))) ((iv (pe A))) (xs, xi, xk, xc, xl, xr, xb, yl, yr) ++ (wX E x ((iv (tn))) ((iv (sortT tq tn (tE tq tn (tE tq tn i))))) ((iv (tS tq tn (tE tq tn (tE tq tn i))))) ((iv (tE tq tn (tE tq tn (tE tq tn i))))) ((u8)) tp ++ [])) := h
      have tr8 := tok_rng tq (tn := tn) (i := (tE tq tn (tE tq tn i))) (by omega) (by omega)
      have sr8 := sort_rng tq tn (tE tq tn (tE tq tn i))
      have s28 := sort_20 (tq := tq) (tn := tn) (i := (tE tq tn (tE tq tn i)))
      have v28 := tV_le tq (tn := tn) (i := (tE tq tn (tE tq tn i))) (by omega)
      refine lv_aload_n X.1 X.2.1 dX2_readPerson_37 rfl (lv_at hl 2 rfl) ?_
      refine lv_iload_n X.1 X.2.1 dX2_readPerson_38 rfl (lv_at hl 3 rfl) ?_
      refine lv_iload_n X.1 X.2.1 dX2_readPerson_39 rfl (lv_at hl 0 rfl) ?_
      refine z_wi (st_nil h) (run_V (rest := []) X (st_nil h) (c_X1_add (k := pk) (b := (tV tq tn (tE tq tn i))) hR hI (by omega)) mi_X1_add ml_X2_71 ⟨Nat.le_of_ble_eq_true rfl, Nat.le_of_ble_eq_true rfl⟩ ⟨rfl, rfl⟩ (Seg.mk' _ _) 1 0 rfl rfl rfl rfl hl.1 rfl (Nat.le_of_ble_eq_true rfl) ⟨Nat.zero_le _, Nat.zero_le _⟩ dX2_readPerson_40) (fun _ => wS_map _ _ _ _ _ _ _ _) (fun r u H locs hp h => ?_)
      have h := (st_lin h)
      obtain ⟨z0_9, z1_9, z2_9, z3_9, z4_9, z5_9, z6_9, z7_9, z8_9⟩ := u
      have h : St E _ s H locs (wS E t ((iv (hr A))) ((iv (pe A + 1))) (z0_9, z1_9, z2_9, z3_9, z4_9, z5_9, z6_9, z7_9, z8_9) ++ (wX E x ((iv (tn))) ((iv (sortT tq tn (tE tq tn (tE tq tn i))))) ((iv (tS tq tn (tE tq tn (tE tq tn i))))) ((iv (tE tq tn (tE tq tn (tE tq tn i))))) ((u8)) tp ++ [])) := h
      obtain ⟨rfl, hR9⟩ := hp
      have hR9 : RS (z0_9, z1_9, z2_9, z3_9, z4_9, z5_9, z6_9, z7_9, z8_9) (nw A pk (tV tq tn (tE tq tn i))) := hR9
      have hI9 : IA (nw A pk (tV tq tn (tE tq tn i))) := IA_nw hI (by omega) (by omega) (by omega) (by omega) (by omega)
      have pen : pe (nw A pk (tV tq tn (tE tq tn i))) = pe A + 1 := rfl
      refine lv_istore (lv' := [(4, .int (iv (pe A))), (3, .int (iv (tV tq tn (tE tq tn i)))), (0, .ref (x 0)), (1, .ref (t 0)), (2, .int (iv (pk)))]) X.1 X.2.1 dX2_readPerson_43 hl (by decide) rfl (fun ls hl => ?_)
      refine lv_aload_n X.1 X.2.1 dX2_readPerson_45 rfl (lv_at hl 2 rfl) ?_
      refine z_ldcS X h 9 rfl dX2_readPerson_46 ?_
      refine z_pi (run_V (rest := []) X (st_sing (st_in (st_nil h))) (c_isWordK (i9 := 9) (w := 7) (J := (tE tq tn (tE tq tn i))) hT (show 9 < 10 by decide) rfl (by omega) (by omega)) mi_X2_isWord ml_X2_40 ⟨Nat.le_of_ble_eq_true rfl, Nat.le_of_ble_eq_true rfl⟩ ⟨rfl, rfl⟩ (Seg.mk' _ _) 2 10 rfl rfl rfl rfl hl.1 rfl (Nat.le_of_ble_eq_true rfl) ⟨Nat.zero_le _, Nat.zero_le _⟩ dX2_readPerson_48) ?_
      refine z_ifb_eq (tgt := 96) X dX2_readPerson_51 (by decide) (fun c_51 => ?_) (fun c_51 => ?_)
      · have hRn10 : RS (z0_9, z1_9, z2_9, z3_9, z4_9, z5_9, z6_9, z7_9, z8_9) (nwc A pk (tV tq tn (tE tq tn i)) (-1)) := RS_nwc0 hR9
        have hIn10 : IA (nwc A pk (tV tq tn (tE tq tn i)) (-1)) := IA_nwc0 hI9
        refine z_iconst X dX2_readPerson_96 ?_
        have e9 : pn_item tq tn A pk i = (true, (nwc A pk (tV tq tn (tE tq tn i)) (-1)), (tE tq tn (tE tq tn i))) := by unfold pn_item on_item; (repeat (first | rw [if_pos (by omega)] | rw [if_neg (by omega)]))
        exact ret _ _ _ _ _ (((iv (hr A)), (iv (pe A + 1)), (z0_9, z1_9, z2_9, z3_9, z4_9, z5_9, z6_9, z7_9, z8_9)), (u8)) (by rw [e9]; exact h) (Or.inr rfl) (by rw [e9]; exact ⟨congrArg iv (bz_t rfl).symm, fun _ => ⟨rfl, rfl, hRn10, hIn10, rfl⟩, hu8, fun _ => (show i ≤ (tE tq tn (tE tq tn i)) by omega), (show i ≤ (tE tq tn (tE tq tn i)) by omega), (show (tE tq tn (tE tq tn i)) ≤ tn by omega)⟩) dX2_readPerson_97
      · refine lv_aload_n X.1 X.2.1 dX2_readPerson_54 rfl (lv_at hl 2 rfl) ?_
        refine z_wv (st_sing (st_in (st_nil h))) (run_V (rest := []) X (st_sing (st_in (st_nil h))) (c_X2_advance (pt := (tE tq tn (tE tq tn (tE tq tn i)))) hT (by omega) (by omega)) mi_X2_advance ml_X2_31 ⟨Nat.le_of_ble_eq_true rfl, Nat.le_of_ble_eq_true rfl⟩ ⟨rfl, rfl⟩ (Seg.mk' _ _) 2 10 rfl rfl rfl rfl hl.1 rfl (Nat.le_of_ble_eq_true rfl) ⟨Nat.zero_le _, Nat.zero_le _⟩ dX2_readPerson_55) (fun _ => map_app (wX_map _ _ _ _ _ _ _ _ _ _ _ _ _ _) rfl) (fun u11 H locs hu11 h => ?_)
        have h := (st_lin (st_out (st_gnis h)))
        have h : St E _ s H locs (wS E t ((iv (hr A))) ((iv (pe A + 1))) (z0_9, z1_9, z2_9, z3_9, z4_9, z5_9, z6_9, z7_9, z8_9) ++ (wX E x ((iv (tn))) ((iv (sortT tq tn (tE tq tn (tE tq tn (tE tq tn i)))))) ((iv (tS tq tn (tE tq tn (tE tq tn (tE tq tn i)))))) ((iv (tE tq tn (tE tq tn (tE tq tn (tE tq tn i)))))) ((u11)) tp ++ [])) := h
        have tr11 := tok_rng tq (tn := tn) (i := (tE tq tn (tE tq tn (tE tq tn i)))) (by omega) (by omega)
        have sr11 := sort_rng tq tn (tE tq tn (tE tq tn (tE tq tn i)))
        have s211 := sort_20 (tq := tq) (tn := tn) (i := (tE tq tn (tE tq tn (tE tq tn i))))
        have v211 := tV_le tq (tn := tn) (i := (tE tq tn (tE tq tn (tE tq tn i)))) (by omega)
        refine lv_aload_n X.1 X.2.1 dX2_readPerson_58 rfl (lv_at hl 2 rfl) ?_
        refine z_bipush X (by decide) dX2_readPerson_59 ?_
        refine z_pi (run_V (rest := []) X (st_sing (st_in (st_nil h))) (c_X2_isNumberTo (so := sortT tq tn (tE tq tn (tE tq tn (tE tq tn i)))) (nv := tV tq tn (tE tq tn (tE tq tn (tE tq tn i)))) (mx := 9) ⟨by omega, by omega⟩ (fun _ => ⟨by omega, by omega⟩) ⟨by decide, by decide⟩ hu11) mi_X2_isNumberTo ml_X2_67 ⟨Nat.le_of_ble_eq_true rfl, Nat.le_of_ble_eq_true rfl⟩ ⟨rfl, rfl⟩ (Seg.mk' _ _) 2 10 rfl rfl rfl rfl hl.1 rfl (Nat.le_of_ble_eq_true rfl) ⟨Nat.zero_le _, Nat.zero_le _⟩ dX2_readPerson_61) ?_
        refine z_ifb_eq (tgt := 80) X dX2_readPerson_64 (by decide) (fun c_64 => ?_) (fun c_64 => ?_)
        · refine z_iconst X dX2_readPerson_80 ?_
          have e9 : pn_item tq tn A pk i = (false, A, (tE tq tn (tE tq tn (tE tq tn i)))) := by unfold pn_item on_item; (repeat (first | rw [if_pos (by omega)] | rw [if_neg (by omega)]))
          exact ret _ _ _ _ _ (((iv (hr A)), (iv (pe A + 1)), (z0_9, z1_9, z2_9, z3_9, z4_9, z5_9, z6_9, z7_9, z8_9)), (u11)) (by rw [e9]; exact h) (Or.inl rfl) (by rw [e9]; exact ⟨congrArg iv (bz_f (show ¬ false = true by decide)).symm, fun q => absurd q (show ¬ false = true by decide), hu11, fun q => absurd q (show ¬ false = true by decide), (show i ≤ (tE tq tn (tE tq tn (tE tq tn i))) by omega), (show (tE tq tn (tE tq tn (tE tq tn i))) ≤ tn by omega)⟩) dX2_readPerson_81
        · refine lv_aload_n X.1 X.2.1 dX2_readPerson_67 rfl (lv_at hl 3 rfl) ?_
          refine lv_iload X.1 X.2.1 dX2_readPerson_68 (lv_at hl 0 rfl) ?_
          refine lv_aload_n X.1 X.2.1 dX2_readPerson_70 rfl (lv_at hl 2 rfl) ?_
          refine z_get X h 2 10 5 rfl inX2 rfl (by decide) fl_X2_28 rfl dX2_readPerson_71 ?_
          refine W.eq (g2 := F0 m 74 ls [.int (iv (tV tq tn (tE tq tn (tE tq tn (tE tq tn i))))), .int (iv (pe A)), .ref (t 0)]) (by rw [hu11 (by omega)]) ?_
          refine z_pi (run_V (rest := []) X (st_nil h) (c_X1_isFreeFor (p := pe A) (c9 := tV tq tn (tE tq tn (tE tq tn (tE tq tn i)))) hR9 hI9 (by omega) (by omega) (by omega) (by omega)) mi_X1_isFreeFor ml_X2_77 ⟨Nat.le_of_ble_eq_true rfl, Nat.le_of_ble_eq_true rfl⟩ ⟨rfl, rfl⟩ (Seg.mk' _ _) 1 0 rfl rfl rfl rfl hl.1 rfl (Nat.le_of_ble_eq_true rfl) ⟨Nat.zero_le _, Nat.zero_le _⟩ dX2_readPerson_74) ?_
          refine W.eq (g2 := F0 m 77 ls [.int (iv (bz (onC A (tV tq tn (tE tq tn (tE tq tn (tE tq tn i)))) < 0)))]) (by rw [bz_eq (onC_free hI (by omega))]) ?_
          refine z_ifb_ne (tgt := 82) X dX2_readPerson_77 (by decide) (fun c_77 => ?_) (fun c_77 => ?_)
          · refine lv_aload_n X.1 X.2.1 dX2_readPerson_82 rfl (lv_at hl 3 rfl) ?_
            refine lv_iload X.1 X.2.1 dX2_readPerson_83 (lv_at hl 0 rfl) ?_
            refine lv_aload_n X.1 X.2.1 dX2_readPerson_85 rfl (lv_at hl 2 rfl) ?_
            refine z_get X h 2 10 5 rfl inX2 rfl (by decide) fl_X2_28 rfl dX2_readPerson_86 ?_
            refine W.eq (g2 := F0 m 89 ls [.int (iv (tV tq tn (tE tq tn (tE tq tn (tE tq tn i))))), .int (iv (pe A)), .ref (t 0)]) (by rw [hu11 (by omega)]) ?_
            refine z_wv (st_nil h) (run_V (rest := []) X (st_nil h) (c_X1_seat (p := (pe A)) (d := (tV tq tn (tE tq tn (tE tq tn (tE tq tn i))))) hR9 hI9 (by omega) (by first | omega | (show (pe A) < pe A; omega)) (by omega) (by omega) (Or.inr (Or.inl (by rw [onC_nwc hI.n0 (by omega)]; omega)))) mi_X1_seat ml_X2_81 ⟨Nat.le_of_ble_eq_true rfl, Nat.le_of_ble_eq_true rfl⟩ ⟨rfl, rfl⟩ (Seg.mk' _ _) 1 0 rfl rfl rfl rfl hl.1 rfl (Nat.le_of_ble_eq_true rfl) ⟨Nat.zero_le _, Nat.zero_le _⟩ dX2_readPerson_89) (fun _ => wS_map _ _ _ _ _ _ _ _) (fun u H locs hp h => ?_)
            have h := (st_lin h)
            obtain ⟨z0_12, z1_12, z2_12, z3_12, z4_12, z5_12, z6_12, z7_12, z8_12⟩ := u
            have h : St E _ s H locs (wS E t ((iv (hr A))) ((iv (pe A + 1))) (z0_12, z1_12, z2_12, z3_12, z4_12, z5_12, z6_12, z7_12, z8_12) ++ (wX E x ((iv (tn))) ((iv (sortT tq tn (tE tq tn (tE tq tn (tE tq tn i)))))) ((iv (tS tq tn (tE tq tn (tE tq tn (tE tq tn i)))))) ((iv (tE tq tn (tE tq tn (tE tq tn (tE tq tn i)))))) ((u11)) tp ++ [])) := h
            have hR12 : RS (z0_12, z1_12, z2_12, z3_12, z4_12, z5_12, z6_12, z7_12, z8_12) (pu (nw A pk (tV tq tn (tE tq tn i))) 1 (pe A) (tV tq tn (tE tq tn (tE tq tn (tE tq tn i))))) := hp
            have hI12 : IA (pu (nw A pk (tV tq tn (tE tq tn i))) 1 (pe A) (tV tq tn (tE tq tn (tE tq tn (tE tq tn i))))) := IA_sit hI9 (by omega) (by first | omega | (show (pe A) < pe A; omega)) (by omega) (by omega) (Or.inr (Or.inl (by rw [onC_nwc hI.n0 (by omega)]; omega)))
            have hRn13 : RS (z0_12, z1_12, z2_12, z3_12, z4_12, z5_12, z6_12, z7_12, z8_12) (nwc A pk (tV tq tn (tE tq tn i)) (tV tq tn (tE tq tn (tE tq tn (tE tq tn i))))) := RS_nwc1 hR12
            have hIn13 : IA (nwc A pk (tV tq tn (tE tq tn i)) (tV tq tn (tE tq tn (tE tq tn (tE tq tn i))))) := IA_nwc1 hI12
            refine lv_aload_n X.1 X.2.1 dX2_readPerson_92 rfl (lv_at hl 2 rfl) ?_
            refine z_wv (st_sing (st_in (st_nil h))) (run_V (rest := []) X (st_sing (st_in (st_nil h))) (c_X2_advance (pt := (tE tq tn (tE tq tn (tE tq tn (tE tq tn i))))) hT (by omega) (by omega)) mi_X2_advance ml_X2_31 ⟨Nat.le_of_ble_eq_true rfl, Nat.le_of_ble_eq_true rfl⟩ ⟨rfl, rfl⟩ (Seg.mk' _ _) 2 10 rfl rfl rfl rfl hl.1 rfl (Nat.le_of_ble_eq_true rfl) ⟨Nat.zero_le _, Nat.zero_le _⟩ dX2_readPerson_93) (fun _ => map_app (wX_map _ _ _ _ _ _ _ _ _ _ _ _ _ _) rfl) (fun u14 H locs hu14 h => ?_)
            have h := (st_lin (st_out (st_gnis h)))
            have h : St E _ s H locs (wS E t ((iv (hr A))) ((iv (pe A + 1))) (z0_12, z1_12, z2_12, z3_12, z4_12, z5_12, z6_12, z7_12, z8_12) ++ (wX E x ((iv (tn))) ((iv (sortT tq tn (tE tq tn (tE tq tn (tE tq tn (tE tq tn i))))))) ((iv (tS tq tn (tE tq tn (tE tq tn (tE tq tn (tE tq tn i))))))) ((iv (tE tq tn (tE tq tn (tE tq tn (tE tq tn (tE tq tn i))))))) ((u14)) tp ++ [])) := h
            have tr14 := tok_rng tq (tn := tn) (i := (tE tq tn (tE tq tn (tE tq tn (tE tq tn i))))) (by omega) (by omega)
            have sr14 := sort_rng tq tn (tE tq tn (tE tq tn (tE tq tn (tE tq tn i))))
            have s214 := sort_20 (tq := tq) (tn := tn) (i := (tE tq tn (tE tq tn (tE tq tn (tE tq tn i)))))
            have v214 := tV_le tq (tn := tn) (i := (tE tq tn (tE tq tn (tE tq tn (tE tq tn i))))) (by omega)
            refine z_iconst X dX2_readPerson_96 ?_
            have e9 : pn_item tq tn A pk i = (true, (nwc A pk (tV tq tn (tE tq tn i)) (tV tq tn (tE tq tn (tE tq tn (tE tq tn i))))), (tE tq tn (tE tq tn (tE tq tn (tE tq tn i))))) := by unfold pn_item on_item; (repeat (first | rw [if_pos (by omega)] | rw [if_neg (by omega)]))
            exact ret _ _ _ _ _ (((iv (hr A)), (iv (pe A + 1)), (z0_12, z1_12, z2_12, z3_12, z4_12, z5_12, z6_12, z7_12, z8_12)), (u14)) (by rw [e9]; exact h) (Or.inr rfl) (by rw [e9]; exact ⟨congrArg iv (bz_t rfl).symm, fun _ => ⟨rfl, rfl, hRn13, hIn13, rfl⟩, hu14, fun _ => (show i ≤ (tE tq tn (tE tq tn (tE tq tn (tE tq tn i)))) by omega), (show i ≤ (tE tq tn (tE tq tn (tE tq tn (tE tq tn i)))) by omega), (show (tE tq tn (tE tq tn (tE tq tn (tE tq tn i)))) ≤ tn by omega)⟩) dX2_readPerson_97
          · refine z_iconst X dX2_readPerson_80 ?_
            have e9 : pn_item tq tn A pk i = (false, A, (tE tq tn (tE tq tn (tE tq tn i)))) := by unfold pn_item on_item; (repeat (first | rw [if_pos (by omega)] | rw [if_neg (by omega)]))
            exact ret _ _ _ _ _ (((iv (hr A)), (iv (pe A + 1)), (z0_9, z1_9, z2_9, z3_9, z4_9, z5_9, z6_9, z7_9, z8_9)), (u11)) (by rw [e9]; exact h) (Or.inl rfl) (by rw [e9]; exact ⟨congrArg iv (bz_f (show ¬ false = true by decide)).symm, fun q => absurd q (show ¬ false = true by decide), hu11, fun q => absurd q (show ¬ false = true by decide), (show i ≤ (tE tq tn (tE tq tn (tE tq tn i))) by omega), (show (tE tq tn (tE tq tn (tE tq tn i))) ≤ tn by omega)⟩) dX2_readPerson_81
    · refine z_iconst X dX2_readPerson_26 ?_
      have e9 : pn_item tq tn A pk i = (false, A, (tE tq tn i)) := by unfold pn_item on_item; (repeat (first | rw [if_pos (by omega)] | rw [if_neg (by omega)]))
      exact ret _ _ _ _ _ (((iv (hr A)), (iv (pe A)), (xs, xi, xk, xc, xl, xr, xb, yl, yr)), (u7)) (by rw [e9]; exact h) (Or.inl rfl) (by rw [e9]; exact ⟨congrArg iv (bz_f (show ¬ false = true by decide)).symm, fun q => absurd q (show ¬ false = true by decide), hu7, fun q => absurd q (show ¬ false = true by decide), (show i ≤ (tE tq tn i) by omega), (show (tE tq tn i) ≤ tn by omega)⟩) dX2_readPerson_27
