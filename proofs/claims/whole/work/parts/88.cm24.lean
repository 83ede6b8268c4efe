variable {E : EV} {l : Launch} {t x : Nat → Nat} {xs xi xk xc xl xr xb yl yr : Nat → Int32} {tp : Nat → Int32} {tq : Int → Int} {tn : Int} {e1 e2 e3 e4 : Int32} {A : Es}
set_option maxHeartbeats 4000000 in
theorem c_X2_readAll (hR : RS (xs, xi, xk, xc, xl, xr, xb, yl, yr) A) (hI : IA A) (hT : RT tp tq tn) : MI (S := Ac × Int32 × Int32 × Int32 × Int32) E l yX2_readAll cX2_readAll 3 (some FieldType.int) (rmk 8 174) (wS E t ((iv (hr A))) ((iv (pe A))) (xs, xi, xk, xc, xl, xr, xb, yl, yr) ++ (wX E x ((iv (tn))) ((e1)) ((e2)) ((e3)) ((e4)) tp ++ [])) [.ref (x 0), .ref (t 0)] (fun r u => r = iv (q_esp tq tn A).1 ∧ (0 ≤ (q_esp tq tn A).1 → u.1.1 = iv (hr (q_esp tq tn A).2) ∧ u.1.2.1 = iv (pe (q_esp tq tn A).2) ∧ RS u.1.2.2 (q_esp tq tn A).2 ∧ IA (q_esp tq tn A).2 ∧ hr (q_esp tq tn A).2 = hr A) ∧ ((q_esp tq tn A).1 < 0 → (q_esp tq tn A).2 = A) ∧ -121 ≤ (q_esp tq tn A).1 ∧ (q_esp tq tn A).1 ≤ 120) (fun u => wS E t u.1.1 u.1.2.1 u.1.2.2 ++ (wX E x (iv (tn)) u.2.1 u.2.2.1 u.2.2.2.1 u.2.2.2.2 tp ++ [])) := by
  refine goI (S := Ac × Int32 × Int32 × Int32 × Int32) (post := fun r u => r = iv (q_esp tq tn A).1 ∧ (0 ≤ (q_esp tq tn A).1 → u.1.1 = iv (hr (q_esp tq tn A).2) ∧ u.1.2.1 = iv (pe (q_esp tq tn A).2) ∧ RS u.1.2.2 (q_esp tq tn A).2 ∧ IA (q_esp tq tn A).2 ∧ hr (q_esp tq tn A).2 = hr A) ∧ ((q_esp tq tn A).1 < 0 → (q_esp tq tn A).2 = A) ∧ -121 ≤ (q_esp tq tn A).1 ∧ (q_esp tq tn A).1 ≤ 120) (ws' := fun u => wS E t u.1.1 u.1.2.1 u.1.2.2 ++ (wX E x (iv (tn)) u.2.1 u.2.2.1 u.2.2.2.1 u.2.2.2.2 tp ++ [])) (by decide) (Nat.le_of_ble_eq_true rfl) ?_
  intro pp e s m below meth c ls args Q ret X h hl
  have hl : lv_has ls 3 [(0, .ref (x 0)), (1, .ref (t 0))] := hl
  have t0 := hT.1
  have t1 := hT.2.1
  have n8 := hI.n8
  have n0 := hI.n0
  refine lv_aload_n X.1 X.2.1 dX2_readAll_0 rfl (lv_at hl 0 rfl) ?_
  refine z_iconst X dX2_readAll_1 ?_
  refine s_put X (st_in (st_nil h)) 2 0 4 rfl inX2 tyX2 tyX2_ok nmX2 rfl (by decide) fl_X2_25 rfl rfl rfl (Nat.le_of_ble_eq_true rfl) dX2_readAll_2 (fun H locs h => ?_)
  have h := (st_lin (st_out (st_eq wX_end h)))
  have h : St E _ s H locs (wS E t ((iv (hr A))) ((iv (pe A))) (xs, xi, xk, xc, xl, xr, xb, yl, yr) ++ (wX E x ((iv (tn))) ((e1)) ((e2)) ((iv (0))) ((e4)) tp ++ [])) := h
  refine lv_aload_n X.1 X.2.1 dX2_readAll_5 rfl (lv_at hl 0 rfl) ?_
  refine z_wv (st_sing (st_in (st_nil h))) (run_V (rest := []) X (st_sing (st_in (st_nil h))) (c_X2_advance (pt := 0) hT (by omega) (by omega)) mi_X2_advance ml_X2_31 ⟨Nat.le_of_ble_eq_true rfl, Nat.le_of_ble_eq_true rfl⟩ ⟨rfl, rfl⟩ (Seg.mk' _ _) 2 10 rfl rfl rfl rfl hl.1 rfl (Nat.le_of_ble_eq_true rfl) ⟨Nat.zero_le _, Nat.zero_le _⟩ dX2_readAll_6) (fun _ => map_app (wX_map _ _ _ _ _ _ _ _ _ _ _ _ _ _) rfl) (fun u1 H locs hu1 h => ?_)
  have h := (st_lin (st_out (st_gnis h)))
  have h : St E _ s H locs (wS E t ((iv (hr A))) ((iv (pe A))) (xs, xi, xk, xc, xl, xr, xb, yl, yr) ++ (wX E x ((iv (tn))) ((iv (sortT tq tn 0))) ((iv (tS tq tn 0))) ((iv (tE tq tn 0))) ((u1)) tp ++ [])) := h
  refine z_iconst X dX2_readAll_9 ?_
  refine lv_istore_n (lv' := [(2, .int (iv (1))), (0, .ref (x 0)), (1, .ref (t 0))]) X.1 X.2.1 dX2_readAll_10 rfl hl (by decide) rfl (fun ls hl => ?_)
  have L11 : ∀ (fuel_ : Nat) (f : Nat) (A1 : Es) (j : Int) (it : Int) (nu1 : Int32) (y0 : Nat → Int32) (y1 : Nat → Int32) (y2 : Nat → Int32) (y3 : Nat → Int32) (y4 : Nat → Int32) (y5 : Nat → Int32) (y6 : Nat → Int32) (y7 : Nat → Int32) (y8 : Nat → Int32), ((f : Int) + it = 131) → (1 ≤ it) → (2 * it - 2 ≤ j) → (RS (y0, y1, y2, y3, y4, y5, y6, y7, y8) A1) → (IA A1) → (hr A1 = hr A) → (sortT tq tn j = 2 → nu1 = iv (tV tq tn j)) → (0 ≤ j) → (j ≤ tn) → (prs tq tn 130 A 0 1 = prs tq tn f A1 j it) → 130 - it < (fuel_ : Int) → ∀ (H : Heap) (locs : List Loc), St E (wS E t ((iv (hr A))) ((iv (pe A))) (xs, xi, xk, xc, xl, xr, xb, yl, yr) ++ (wX E x ((iv (tn))) ((e1)) ((e2)) ((e3)) ((e4)) tp ++ [])) s H locs (wS E t ((iv (hr A1))) ((iv (pe A1))) (y0, y1, y2, y3, y4, y5, y6, y7, y8) ++ (wX E x ((iv (tn))) ((iv (sortT tq tn j))) ((iv (tS tq tn j))) ((iv (tE tq tn j))) ((nu1)) tp ++ [])) → ∀ ls : Array Slot, lv_has ls 3 [(0, .ref (x 0)), (1, .ref (t 0)), (2, .int (iv (it)))] → W pp l e (rmk 8 174) s m args below meth c H locs 0 0 Q (F0 m 11 ls []) := by
    intro fuel_
    induction fuel_ with
    | zero =>
      intro f A1 j it nu1 y0 y1 y2 y3 y4 y5 y6 y7 y8 f0 it0 i2_ hR1 hI1 hh1 hnu1 j0 j1 hP9 hn
      exfalso; omega
    | succ fuel_ ih_11 =>
      intro f A1 j it nu1 y0 y1 y2 y3 y4 y5 y6 y7 y8 f0 it0 i2_ hR1 hI1 hh1 hnu1 j0 j1 hP9 hn H locs h ls hl
      have trj := tok_rng tq (tn := tn) (i := j) (by omega) (by omega)
      refine lv_iload_n X.1 X.2.1 dX2_readAll_11 rfl (lv_at hl 2 rfl) ?_
      refine z_bipush X (by decide) dX2_readAll_12 ?_
      refine z_ic_gt (tgt := 66) X ⟨by omega, by omega⟩ ⟨by decide, by decide⟩ dX2_readAll_14 (by decide) (fun c_14 => ?_) (fun c_14 => ?_)
      · exfalso; omega
      · refine lv_aload_n X.1 X.2.1 dX2_readAll_17 rfl (lv_at hl 0 rfl) ?_
        refine lv_aload_n X.1 X.2.1 dX2_readAll_18 rfl (lv_at hl 1 rfl) ?_
        refine z_ai h (run_V (rest := []) X h (c_X2_readItem (i := j) hR1 hI1 hT (by omega) (by omega) hnu1) mi_X2_readItem ml_X2_34 ⟨Nat.le_of_ble_eq_true rfl, Nat.le_of_ble_eq_true rfl⟩ ⟨rfl, rfl⟩ (Seg.rfl' _) 2 10 rfl rfl rfl rfl hl.1 rfl (Nat.le_of_ble_eq_true rfl) ⟨Nat.zero_le _, Nat.zero_le _⟩ dX2_readAll_19) (fun _ => map_app (wS_map _ _ _ _ _ _ _ _) (map_app (wX_map _ _ _ _ _ _ _ _ _ _ _ _ _ _) rfl)) (fun r u H locs hp h => ?_)
        obtain ⟨PQ, ePQ⟩ : ∃ P, P = itm tq tn A1 j := ⟨_, rfl⟩
        rw [← ePQ] at hp h
        obtain ⟨⟨uh, up, z0, z1, z2, z3, z4, z5, z6, z7, z8⟩, un⟩ := u
        obtain ⟨ok, A2, j2⟩ := PQ
        obtain ⟨rfl, hq1, hq2, hq3, hq4, hq5⟩ := hp
        have h : St E _ s H locs (wS E t ((uh)) ((up)) (z0, z1, z2, z3, z4, z5, z6, z7, z8) ++ (wX E x ((iv (tn))) ((iv (sortT tq tn j2))) ((iv (tS tq tn j2))) ((iv (tE tq tn j2))) ((un)) tp ++ [])) := h
        have hq2 : sortT tq tn j2 = 2 → un = iv (tV tq tn j2) := hq2
        have hq3 : ok = true → j < j2 := hq3
        have hq4 : j ≤ j2 := hq4
        have hq5 : j2 ≤ tn := hq5
        have trJ := tok_rng tq (tn := tn) (i := j2) (by omega) (by omega)
        have srJ := sort_rng tq tn j2
        have s0J := sort_22 (tq := tq) (tn := tn) (i := j2)
        have s3J := sort_21 (tq := tq) (tn := tn) (i := j2)
        have hP2 := hP9.trans (prs_p (by omega))
        rw [← ePQ] at hP2
        refine z_ifb_ne (tgt := 32) X dX2_readAll_22 (by decide) (fun c_22 => ?_) (fun c_22 => ?_)
        · have c_22 : ok = true := c_22
          obtain ⟨rfl, rfl, hR2, hI2, hh2⟩ := hq1 c_22
          have h : St E _ s H locs (wS E t ((iv (hr A2))) ((iv (pe A2))) (z0, z1, z2, z3, z4, z5, z6, z7, z8) ++ (wX E x ((iv (tn))) ((iv (sortT tq tn j2))) ((iv (tS tq tn j2))) ((iv (tE tq tn j2))) ((un)) tp ++ [])) := h
          have hR2 : RS (z0, z1, z2, z3, z4, z5, z6, z7, z8) A2 := hR2
          have hq3 := hq3 c_22
          have hI2 : IA A2 := hI2
          have hh2 : hr A2 = hr A1 := hh2
          refine lv_aload_n X.1 X.2.1 dX2_readAll_32 rfl (lv_at hl 0 rfl) ?_
          refine z_get X h 2 10 2 rfl inX2 rfl (by decide) fl_X2_19 rfl dX2_readAll_33 ?_
          refine z_if_ne (tgt := 41) X ⟨by omega, by omega⟩ dX2_readAll_36 (by decide) (fun c_36 => ?_) (fun c_36 => ?_)
          · refine lv_aload_n X.1 X.2.1 dX2_readAll_41 rfl (lv_at hl 0 rfl) ?_
            refine z_get X h 2 10 2 rfl inX2 rfl (by decide) fl_X2_19 rfl dX2_readAll_42 ?_
            refine z_iconst X dX2_readAll_45 ?_
            refine z_ic_eq (tgt := 56) X ⟨by omega, by omega⟩ ⟨by decide, by decide⟩ dX2_readAll_46 (by decide) (fun c_46 => ?_) (fun c_46 => ?_)
            · refine lv_aload_n X.1 X.2.1 dX2_readAll_56 rfl (lv_at hl 0 rfl) ?_
              refine z_wv (st_sing (st_in (st_nil h))) (run_V (rest := []) X (st_sing (st_in (st_nil h))) (c_X2_advance (pt := (tE tq tn j2)) hT (by omega) (by omega)) mi_X2_advance ml_X2_31 ⟨Nat.le_of_ble_eq_true rfl, Nat.le_of_ble_eq_true rfl⟩ ⟨rfl, rfl⟩ (Seg.mk' _ _) 2 10 rfl rfl rfl rfl hl.1 rfl (Nat.le_of_ble_eq_true rfl) ⟨Nat.zero_le _, Nat.zero_le _⟩ dX2_readAll_57) (fun _ => map_app (wX_map _ _ _ _ _ _ _ _ _ _ _ _ _ _) rfl) (fun u2 H locs hu2 h => ?_)
              have h := (st_lin (st_out (st_gnis h)))
              have h : St E _ s H locs (wS E t ((iv (hr A2))) ((iv (pe A2))) (z0, z1, z2, z3, z4, z5, z6, z7, z8) ++ (wX E x ((iv (tn))) ((iv (sortT tq tn (tE tq tn j2)))) ((iv (tS tq tn (tE tq tn j2)))) ((iv (tE tq tn (tE tq tn j2)))) ((u2)) tp ++ [])) := h
              have tr2 := tok_rng tq (tn := tn) (i := (tE tq tn j2)) (by omega) (by omega)
              have sr2 := sort_rng tq tn (tE tq tn j2)
              have s22 := sort_20 (tq := tq) (tn := tn) (i := (tE tq tn j2))
              have v22 := tV_le tq (tn := tn) (i := (tE tq tn j2)) (by omega)
              refine z_iinc (k := 2) (lv' := [(2, .int (iv (it + 1))), (0, .ref (x 0)), (1, .ref (t 0))]) X dX2_readAll_60 hl rfl (by decide) rfl (fun ls hl => ?_)
              refine lv_goto (tgt := 11) X.1 X.2.1 dX2_readAll_63 (by decide) ?_
              exact ih_11 (f - 1) (A2) (tE tq tn j2) (it + 1) ((u2)) (z0) (z1) (z2) (z3) (z4) (z5) (z6) (z7) (z8) (by omega) (by omega) (by omega) (hR2) (hI2) (hh2.trans hh1) (hu2) (by omega) (by omega) (by rw [c_22] at hP2; exact hP2.trans (aft_21 (by omega))) (by omega) _ _ h ls (lv_sub hl [1, 2, 0] rfl)
            · refine z_iconst X dX2_readAll_49 ?_
              refine lv_aload_n X.1 X.2.1 dX2_readAll_50 rfl (lv_at hl 0 rfl) ?_
              refine z_get X h 2 10 3 rfl inX2 rfl (by decide) fl_X2_22 rfl dX2_readAll_51 ?_
              refine z_isub X dX2_readAll_54 ?_
              have eq9 : q_esp tq tn A = (-1 - tS tq tn j2, A) := esp_n (by rw [c_22] at hP2; exact hP2.trans (aft_no (by omega) (by omega)))
              exact ret _ _ _ _ _ (((iv (hr A2)), (iv (pe A2)), (z0, z1, z2, z3, z4, z5, z6, z7, z8)), (iv (sortT tq tn j2)), (iv (tS tq tn j2)), (iv (tE tq tn j2)), (un)) h (by rw [eq9]; exact ⟨rfl, fun q => absurd q (show ¬ 0 ≤ -1 - tS tq tn j2 by omega), fun _ => rfl, (show -121 ≤ -1 - tS tq tn j2 by omega), (show -1 - tS tq tn j2 ≤ 120 by omega)⟩) dX2_readAll_55
          · refine lv_iload_n X.1 X.2.1 dX2_readAll_39 rfl (lv_at hl 2 rfl) ?_
            have eq9 : q_esp tq tn A = (it, A2) := esp_y (by rw [c_22] at hP2; exact hP2.trans (aft_ok (by omega)))
            exact ret _ _ _ _ _ (((iv (hr A2)), (iv (pe A2)), (z0, z1, z2, z3, z4, z5, z6, z7, z8)), (iv (sortT tq tn j2)), (iv (tS tq tn j2)), (iv (tE tq tn j2)), (un)) h (by rw [eq9]; exact ⟨rfl, fun _ => ⟨rfl, rfl, hR2, hI2, hh2.trans hh1⟩, fun q => absurd q (show ¬ it < 0 by omega), (show -121 ≤ it by omega), (show it ≤ 120 by omega)⟩) dX2_readAll_40
        · have c_22 : ¬ ok = true := c_22
          refine z_iconst X dX2_readAll_25 ?_
          refine lv_aload_n X.1 X.2.1 dX2_readAll_26 rfl (lv_at hl 0 rfl) ?_
          refine z_get X h 2 10 3 rfl inX2 rfl (by decide) fl_X2_22 rfl dX2_readAll_27 ?_
          refine z_isub X dX2_readAll_30 ?_
          have eq9 : q_esp tq tn A = (-1 - tS tq tn j2, A) := esp_n (by rw [Bool.eq_false_iff.mpr c_22] at hP2; exact hP2.trans aft_f)
          exact ret _ _ _ _ _ (((uh), (up), (z0, z1, z2, z3, z4, z5, z6, z7, z8)), (iv (sortT tq tn j2)), (iv (tS tq tn j2)), (iv (tE tq tn j2)), (un)) h (by rw [eq9]; exact ⟨rfl, fun q => absurd q (show ¬ 0 ≤ -1 - tS tq tn j2 by omega), fun _ => rfl, (show -121 ≤ -1 - tS tq tn j2 by omega), (show -1 - tS tq tn j2 ≤ 120 by omega)⟩) dX2_readAll_31
  exact L11 ((130 - (1) : Int).toNat + 1) (130) (A) (0) (1) ((u1)) (xs) (xi) (xk) (xc) (xl) (xr) (xb) (yl) (yr) (by omega) (by omega) (by omega) (hR) (hI) (rfl) (hu1) (by omega) (by omega) (rfl) (by omega) _ _ h ls (lv_sub hl [1, 2, 0] rfl)
