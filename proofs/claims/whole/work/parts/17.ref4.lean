variable {E : EV} {l : Launch} {a : Nat → Nat} {mm kp wa fd gf tp bt sz : Nat → Int32} {cl : Nat → Int64} {ik tn tk bg pt vl bd : Int} {A : Es} {ph : Int → Int}
set_option maxHeartbeats 4000000 in
theorem c_X5_goes (hR : RM mm A) (hI : IA A) (hh : hr A < 1000000) : MV (S := (Nat → Int32) × (Nat → Int32)) E l yX5_goes cX5_goes 2 (rmk 5 113) (wM E a (mm, kp, wa, (iv (ik)), fd, gf, tp, (iv (tn)), (iv (tk)), (iv (bg)), (iv (pt)), (iv (vl)), (iv (bd)), bt, sz, cl)) [.ref (a 0)] (fun u => RM u.1 (step A)) (fun u => wM E a (u.1, kp, wa, (iv (ik)), fd, u.2, tp, (iv (tn)), (iv (tk)), (iv (bg)), (iv (pt)), (iv (vl)), (iv (bd)), bt, sz, cl)) := by
  refine goV (S := (Nat → Int32) × (Nat → Int32)) (post := fun u => RM u.1 (step A)) (ws' := fun u => wM E a (u.1, kp, wa, (iv (ik)), fd, u.2, tp, (iv (tn)), (iv (tk)), (iv (bg)), (iv (pt)), (iv (vl)), (iv (bd)), bt, sz, cl)) (by decide) (Nat.le_of_ble_eq_true rfl) ?_
  intro pp e s m below meth c ls args Q ret X h hl
  have hl : lv_has ls 2 [(0, .ref (a 0))] := hl
  have n8 := hI.n8
  have n0 := hI.n0
  have h0 := hI.h0
  refine z_iconst X dX5_goes_0 ?_
  refine lv_istore_n (lv' := [(1, .int (iv (0))), (0, .ref (a 0))]) X.1 X.2.1 dX5_goes_1 rfl hl (by decide) rfl (fun ls hl => ?_)
  have L2 : ∀ (fuel_ : Nat) (i : Int) (u : Nat → Int32), (0 ≤ i) → (i ≤ 2 * pe A) → (∀ j : Int, 0 ≤ j → j < i → u j.toNat = iv (gv A (j / 2) (j % 2))) → 2 * pe A - i < (fuel_ : Int) → ∀ (H : Heap) (locs : List Loc), St E (wM E a (mm, kp, wa, (iv (ik)), fd, gf, tp, (iv (tn)), (iv (tk)), (iv (bg)), (iv (pt)), (iv (vl)), (iv (bd)), bt, sz, cl)) s H locs (wM E a (mm, kp, wa, (iv (ik)), fd, u, tp, (iv (tn)), (iv (tk)), (iv (bg)), (iv (pt)), (iv (vl)), (iv (bd)), bt, sz, cl)) → ∀ ls : Array Slot, lv_has ls 2 [(0, .ref (a 0)), (1, .int (iv (i)))] → W pp l e (rmk 5 113) s m args below meth c H locs 0 0 Q (F0 m 2 ls []) := by
    intro fuel_
    induction fuel_ with
    | zero =>
      intro i u i0 i1 hu hn
      exfalso; omega
    | succ fuel_ ih =>
      intro i u i0 i1 hu hn H locs h ls hl
      refine lv_iload_n X.1 X.2.1 dX5_goes_2 rfl (lv_at hl 1 rfl) ?_
      refine z_iconst X dX5_goes_3 ?_
      refine lv_aload_n X.1 X.2.1 dX5_goes_4 rfl (lv_at hl 0 rfl) ?_
      refine z_get X h 4 0 0 rfl inX5 rfl (by decide) fl_X5_9 rfl dX5_goes_5 ?_
      refine z_iconst X dX5_goes_8 ?_
      refine z_iald (v := pe A) X h 1 rfl (by omega) (by omega) (by decide) hR.2.1 dX5_goes_9 ?_
      refine z_imul X dX5_goes_10 ?_
      refine z_ic_ge (tgt := 36) X ⟨by omega, by omega⟩ ⟨by omega, by omega⟩ dX5_goes_11 (by decide) (fun c_11 => ?_) (fun c_11 => ?_)
      · refine z_iconst X dX5_goes_36 ?_
        refine lv_istore_n (lv' := [(1, .int (iv (0))), (0, .ref (a 0))]) X.1 X.2.1 dX5_goes_37 rfl hl (by decide) rfl (fun ls hl => ?_)
        have hu2 : ∀ j : Int, 0 ≤ j → j < 2 * pe A → u j.toNat = iv (gv A (j / 2) (j % 2)) := fun j j0 j1 => hu j j0 (by omega)
        have L38 : ∀ (fuel_ : Nat) (k : Int) (v : Nat → Int32), (0 ≤ k) → (k ≤ 2 * pe A) → (RM v (mid A k)) → 2 * pe A - k < (fuel_ : Int) → ∀ (H : Heap) (locs : List Loc), St E (wM E a (mm, kp, wa, (iv (ik)), fd, gf, tp, (iv (tn)), (iv (tk)), (iv (bg)), (iv (pt)), (iv (vl)), (iv (bd)), bt, sz, cl)) s H locs (wM E a (v, kp, wa, (iv (ik)), fd, u, tp, (iv (tn)), (iv (tk)), (iv (bg)), (iv (pt)), (iv (vl)), (iv (bd)), bt, sz, cl)) → ∀ ls : Array Slot, lv_has ls 2 [(0, .ref (a 0)), (1, .int (iv (k)))] → W pp l e (rmk 5 113) s m args below meth c H locs 0 0 Q (F0 m 38 ls []) := by
          intro fuel_
          induction fuel_ with
          | zero =>
            intro k v k0 k1 hv hn
            exfalso; omega
          | succ fuel_ ih =>
            intro k v k0 k1 hv hn H locs h ls hl
            have pm : pe (mid A k) = pe A := rfl
            have hm0 : hr (mid A k) = hr A := rfl
            refine lv_iload_n X.1 X.2.1 dX5_goes_38 rfl (lv_at hl 1 rfl) ?_
            refine z_iconst X dX5_goes_39 ?_
            refine lv_aload_n X.1 X.2.1 dX5_goes_40 rfl (lv_at hl 0 rfl) ?_
            refine z_get X h 4 0 0 rfl inX5 rfl (by decide) fl_X5_9 rfl dX5_goes_41 ?_
            refine z_iconst X dX5_goes_44 ?_
            refine z_iald (v := pe (mid A k)) X h 1 rfl (by omega) (by omega) (by decide) hv.2.1 dX5_goes_45 ?_
            refine z_imul X dX5_goes_46 ?_
            refine z_ic_ge (tgt := 76) X ⟨by omega, by omega⟩ ⟨by omega, by omega⟩ dX5_goes_47 (by decide) (fun c_47 => ?_) (fun c_47 => ?_)
            · refine lv_aload_n X.1 X.2.1 dX5_goes_76 rfl (lv_at hl 0 rfl) ?_
              refine z_get X h 4 0 0 rfl inX5 rfl (by decide) fl_X5_9 rfl dX5_goes_77 ?_
              refine z_iconst X dX5_goes_80 ?_
              refine lv_dup2_11 X.1 X.2.1 dX5_goes_81 rfl rfl ?_
              refine z_iald (v := hr (mid A k)) X h 1 rfl (by omega) (by omega) (by decide) hv.1 dX5_goes_82 ?_
              refine z_iconst X dX5_goes_83 ?_
              refine z_iadd X dX5_goes_84 ?_
              refine z_iast X h 1 rfl (by omega) (by omega) (by decide) dX5_goes_85 (fun H locs h => ?_)
              have h : St E _ s H locs (wM E a ((upd v (0 : Int).toNat (iv (hr (mid A k) + 1))), kp, wa, (iv (ik)), fd, u, tp, (iv (tn)), (iv (tk)), (iv (bg)), (iv (pt)), (iv (vl)), (iv (bd)), bt, sz, cl)) := h
              exact ret _ _ _ _ (((upd v (0 : Int).toNat (iv (hr (mid A k) + 1))), u)) h (by rw [show k = 2 * pe A by omega] at hv; exact mid_end hv) dX5_goes_86
            · refine lv_aload_n X.1 X.2.1 dX5_goes_50 rfl (lv_at hl 0 rfl) ?_
              refine lv_iload_n X.1 X.2.1 dX5_goes_51 rfl (lv_at hl 1 rfl) ?_
              refine z_iconst X dX5_goes_52 ?_
              refine z_idiv X (by omega) (by omega) (by omega) (by omega) dX5_goes_53 ?_
              refine z_pi (run_V (rest := []) X h (c_X5_sits (p := (k) / (2)) hv (mid_IA hI k) (by omega) (by omega)) mi_X5_sits ml_X5_56 ⟨Nat.le_of_ble_eq_true rfl, Nat.le_of_ble_eq_true rfl⟩ ⟨rfl, rfl⟩ (Seg.rfl' _) 4 0 rfl rfl rfl rfl hl.1 rfl (Nat.le_of_ble_eq_true rfl) ⟨Nat.zero_le _, Nat.zero_le _⟩ dX5_goes_54) ?_
              refine z_ifb_eq (tgt := 70) X dX5_goes_57 (by decide) (fun c_57 => ?_) (fun c_57 => ?_)
              · refine z_iinc (k := 1) (lv' := [(1, .int (iv (k + 1))), (0, .ref (a 0))]) X dX5_goes_70 hl rfl (by decide) rfl (fun ls hl => ?_)
                refine lv_goto (tgt := 38) X.1 X.2.1 dX5_goes_73 (by decide) ?_
                exact ih (k + 1) (v) (by omega) (by omega) (goes_not (p := k / 2) (d := k % 2) (by omega) (by omega) (by omega) (by rw [← (mid_01 A k (k / 2)).2]; omega) hv) (by omega) _ _ h ls (lv_sub hl [1, 0] rfl)
              · refine lv_aload_n X.1 X.2.1 dX5_goes_60 rfl (lv_at hl 0 rfl) ?_
                refine lv_iload_n X.1 X.2.1 dX5_goes_61 rfl (lv_at hl 1 rfl) ?_
                refine z_iconst X dX5_goes_62 ?_
                refine z_idiv X (by omega) (by omega) (by omega) (by omega) dX5_goes_63 ?_
                refine lv_iload_n X.1 X.2.1 dX5_goes_64 rfl (lv_at hl 1 rfl) ?_
                refine z_iconst X dX5_goes_65 ?_
                refine z_irem X (by omega) (by omega) (by omega) (by omega) dX5_goes_66 ?_
                refine z_av h (run_V (rest := []) X h (c_X5_browns (p := k / 2) (sd := k % 2) (gi := gv A (k / 2) (k % 2)) hv (mid_IA hI k) (show hr (mid A k) < 1000000 from hh) (by omega) (by omega) (by omega) (by omega) (gv_rng hI _ _).1 (gv_rng hI _ _).2 (by rw [show 2 * (k / 2) + k % 2 = k by omega]; exact hu2 k k0 (by omega))) mi_X5_browns ml_X5_123 ⟨Nat.le_of_ble_eq_true rfl, Nat.le_of_ble_eq_true rfl⟩ ⟨rfl, rfl⟩ (Seg.rfl' _) 4 0 rfl rfl rfl rfl hl.1 rfl (Nat.le_of_ble_eq_true rfl) ⟨Nat.zero_le _, Nat.zero_le _⟩ dX5_goes_67) (fun _ => rfl) (fun mw1 H locs hv1 h => ?_)
                have h : St E _ s H locs (wM E a (mw1, kp, wa, (iv (ik)), fd, u, tp, (iv (tn)), (iv (tk)), (iv (bg)), (iv (pt)), (iv (vl)), (iv (bd)), bt, sz, cl)) := h
                refine z_iinc (k := 1) (lv' := [(1, .int (iv (k + 1))), (0, .ref (a 0))]) X dX5_goes_70 hl rfl (by decide) rfl (fun ls hl => ?_)
                refine lv_goto (tgt := 38) X.1 X.2.1 dX5_goes_73 (by decide) ?_
                exact ih (k + 1) (mw1) (by omega) (by omega) (goes_sit (p := k / 2) (d := k % 2) (by omega) (by omega) (by omega) (by rw [← (mid_01 A k (k / 2)).2]; omega) hv1) (by omega) _ _ h ls (lv_sub hl [1, 0] rfl)
        exact L38 ((2 * pe A - (0) : Int).toNat + 1) (0) (mm) (by omega) (by omega) (goes_0 hR) (by omega) _ _ h ls (lv_sub hl [1, 0] rfl)
      · refine lv_aload_n X.1 X.2.1 dX5_goes_14 rfl (lv_at hl 0 rfl) ?_
        refine z_get X h 4 0 5 rfl inX5 rfl (by decide) fl_X5_22 rfl dX5_goes_15 ?_
        refine lv_iload_n X.1 X.2.1 dX5_goes_18 rfl (lv_at hl 1 rfl) ?_
        refine lv_aload_n X.1 X.2.1 dX5_goes_19 rfl (lv_at hl 0 rfl) ?_
        refine lv_iload_n X.1 X.2.1 dX5_goes_20 rfl (lv_at hl 1 rfl) ?_
        refine z_iconst X dX5_goes_21 ?_
        refine z_idiv X (by omega) (by omega) (by omega) (by omega) dX5_goes_22 ?_
        refine lv_iload_n X.1 X.2.1 dX5_goes_23 rfl (lv_at hl 1 rfl) ?_
        refine z_iconst X dX5_goes_24 ?_
        refine z_irem X (by omega) (by omega) (by omega) (by omega) dX5_goes_25 ?_
        refine z_pi (run_V (rest := [.int (iv (i)), .ref (a 5)]) X h (c_X5_givenTo (p := (i) / (2)) (sd := (i) % (2)) hR hI hh (by omega) (by omega) (by omega) (by omega)) mi_X5_givenTo ml_X5_114 ⟨Nat.le_of_ble_eq_true rfl, Nat.le_of_ble_eq_true rfl⟩ ⟨rfl, rfl⟩ (Seg.rfl' _) 4 0 rfl rfl rfl rfl hl.1 rfl (Nat.le_of_ble_eq_true rfl) ⟨Nat.zero_le _, Nat.zero_le _⟩ dX5_goes_26) ?_
        refine z_iast X h 5 rfl (by omega) (by omega) (by decide) dX5_goes_29 (fun H locs h => ?_)
        have h : St E _ s H locs (wM E a (mm, kp, wa, (iv (ik)), fd, (upd u (i : Int).toNat (iv (gv A ((i) / (2)) ((i) % (2))))), tp, (iv (tn)), (iv (tk)), (iv (bg)), (iv (pt)), (iv (vl)), (iv (bd)), bt, sz, cl)) := h
        refine z_iinc (k := 1) (lv' := [(1, .int (iv (i + 1))), (0, .ref (a 0))]) X dX5_goes_30 hl rfl (by decide) rfl (fun ls hl => ?_)
        refine lv_goto (tgt := 2) X.1 X.2.1 dX5_goes_33 (by decide) ?_
        exact ih (i + 1) ((upd u (i : Int).toNat (iv (gv A ((i) / (2)) ((i) % (2)))))) (by omega) (by omega) (fun j j0 j1 => by
                by_cases e : j = i
                · subst e; rw [upd_eq]
                · rw [upd_ne (by omega)]; exact hu j j0 (by omega)) (by omega) _ _ h ls (lv_sub hl [1, 0] rfl)
  exact L2 ((2 * pe A - (0) : Int).toNat + 1) (0) (gf) (by omega) (by omega) (fun j j0 j1 => absurd j1 (by omega)) (by omega) _ _ h ls (lv_sub hl [1, 0] rfl)

set_option maxHeartbeats 4000000 in
theorem c_X5_goesFor (hR : RM mm A) (hI : IA A) {k : Int} (k0 : 0 ≤ k) (k1 : k ≤ 1000) (hh : hr A + k < 1000000) : MV (S := (Nat → Int32) × (Nat → Int32)) E l yX5_goesFor cX5_goesFor 3 (rmk 6 134) (wM E a (mm, kp, wa, (iv (ik)), fd, gf, tp, (iv (tn)), (iv (tk)), (iv (bg)), (iv (pt)), (iv (vl)), (iv (bd)), bt, sz, cl)) [.ref (a 0), .int (iv (k))] (fun u => RM u.1 (stepn A k.toNat)) (fun u => wM E a (u.1, kp, wa, (iv (ik)), fd, u.2, tp, (iv (tn)), (iv (tk)), (iv (bg)), (iv (pt)), (iv (vl)), (iv (bd)), bt, sz, cl)) := by
  refine goV (S := (Nat → Int32) × (Nat → Int32)) (post := fun u => RM u.1 (stepn A k.toNat)) (ws' := fun u => wM E a (u.1, kp, wa, (iv (ik)), fd, u.2, tp, (iv (tn)), (iv (tk)), (iv (bg)), (iv (pt)), (iv (vl)), (iv (bd)), bt, sz, cl)) (by decide) (Nat.le_of_ble_eq_true rfl) ?_
  intro pp e s m below meth c ls args Q ret X h hl
  have hl : lv_has ls 3 [(0, .ref (a 0)), (1, .int (iv (k)))] := hl
  refine z_iconst X dX5_goesFor_0 ?_
  refine lv_istore_n (lv' := [(2, .int (iv (0))), (0, .ref (a 0)), (1, .int (iv (k)))]) X.1 X.2.1 dX5_goesFor_1 rfl hl (by decide) rfl (fun ls hl => ?_)
  have L2 : ∀ (fuel_ : Nat) (i : Int) (v : Nat → Int32) (gq : Nat → Int32), (0 ≤ i) → (i ≤ k) → (RM v (stepn A i.toNat)) → k - i < (fuel_ : Int) → ∀ (H : Heap) (locs : List Loc), St E (wM E a (mm, kp, wa, (iv (ik)), fd, gf, tp, (iv (tn)), (iv (tk)), (iv (bg)), (iv (pt)), (iv (vl)), (iv (bd)), bt, sz, cl)) s H locs (wM E a (v, kp, wa, (iv (ik)), fd, gq, tp, (iv (tn)), (iv (tk)), (iv (bg)), (iv (pt)), (iv (vl)), (iv (bd)), bt, sz, cl)) → ∀ ls : Array Slot, lv_has ls 3 [(0, .ref (a 0)), (1, .int (iv (k))), (2, .int (iv (i)))] → W pp l e (rmk 6 134) s m args below meth c H locs 0 0 Q (F0 m 2 ls []) := by
    intro fuel_
    induction fuel_ with
    | zero =>
      intro i v gq i0 i1 hv hn
      exfalso; omega
    | succ fuel_ ih =>
      intro i v gq i0 i1 hv hn H locs h ls hl
      refine lv_iload_n X.1 X.2.1 dX5_goesFor_2 rfl (lv_at hl 2 rfl) ?_
      refine lv_iload_n X.1 X.2.1 dX5_goesFor_3 rfl (lv_at hl 1 rfl) ?_
      refine z_ic_ge (tgt := 17) X ⟨by omega, by omega⟩ ⟨by omega, by omega⟩ dX5_goesFor_4 (by decide) (fun c_4 => ?_) (fun c_4 => ?_)
      · exact ret _ _ _ _ ((v, gq)) h (by rw [show i = k by omega] at hv; exact hv) dX5_goesFor_17
      · refine lv_aload_n X.1 X.2.1 dX5_goesFor_7 rfl (lv_at hl 0 rfl) ?_
        refine z_av h (run_V (rest := []) X h (c_X5_goes hv (stepn_IA hI i.toNat) (show hr (stepn A i.toNat) < 1000000 by rw [stepn_hr]; omega)) mi_X5_goes ml_X5_127 ⟨Nat.le_of_ble_eq_true rfl, Nat.le_of_ble_eq_true rfl⟩ ⟨rfl, rfl⟩ (Seg.rfl' _) 4 0 rfl rfl rfl rfl hl.1 rfl (Nat.le_of_ble_eq_true rfl) ⟨Nat.zero_le _, Nat.zero_le _⟩ dX5_goesFor_8) (fun _ => rfl) (fun u H locs hp h => ?_)
        obtain ⟨mg1, gg1⟩ := u
        have h : St E _ s H locs (wM E a (mg1, kp, wa, (iv (ik)), fd, gg1, tp, (iv (tn)), (iv (tk)), (iv (bg)), (iv (pt)), (iv (vl)), (iv (bd)), bt, sz, cl)) := h
        have hR1 : RM mg1 (step (stepn A i.toNat)) := hp
        refine z_iinc (k := 2) (lv' := [(2, .int (iv (i + 1))), (0, .ref (a 0)), (1, .int (iv (k)))]) X dX5_goesFor_11 hl rfl (by decide) rfl (fun ls hl => ?_)
        refine lv_goto (tgt := 2) X.1 X.2.1 dX5_goesFor_14 (by decide) ?_
        exact ih (i + 1) (mg1) (gg1) (by omega) (by omega) (by rw [tn1 i0]; exact hR1) (by omega) _ _ h ls (lv_sub hl [1, 2, 0] rfl)
  exact L2 ((k - (0) : Int).toNat + 1) (0) (mm) (gf) (by omega) (by omega) (hR) (by omega) _ _ h ls (lv_sub hl [1, 2, 0] rfl)

set_option maxHeartbeats 4000000 in
theorem c_X5_brownOn (hR : RM mm A) (hI : IA A) {p : Int} (p0 : 0 ≤ p) (p1 : p < pe A) {k : Int} (k0 : 0 ≤ k) (k1 : k ≤ 1000) (hh : hr A + k < 1000000) : MI (S := (Nat → Int32) × (Nat → Int32)) E l yX5_brownOn cX5_brownOn 4 (some FieldType.int) (rmk 7 156) (wM E a (mm, kp, wa, (iv (ik)), fd, gf, tp, (iv (tn)), (iv (tk)), (iv (bg)), (iv (pt)), (iv (vl)), (iv (bd)), bt, sz, cl)) [.ref (a 0), .int (iv (p)), .int (iv (k))] (fun r u => r = iv (brn (stepn A k.toNat) p) ∧ EQ52 u.1 wa) (fun u => wM E a (u.1, kp, wa, (iv (ik)), fd, u.2, tp, (iv (tn)), (iv (tk)), (iv (bg)), (iv (pt)), (iv (vl)), (iv (bd)), bt, sz, cl)) := by
  refine goI (S := (Nat → Int32) × (Nat → Int32)) (post := fun r u => r = iv (brn (stepn A k.toNat) p) ∧ EQ52 u.1 wa) (ws' := fun u => wM E a (u.1, kp, wa, (iv (ik)), fd, u.2, tp, (iv (tn)), (iv (tk)), (iv (bg)), (iv (pt)), (iv (vl)), (iv (bd)), bt, sz, cl)) (by decide) (Nat.le_of_ble_eq_true rfl) ?_
  intro pp e s m below meth c ls args Q ret X h hl
  have hl : lv_has ls 4 [(0, .ref (a 0)), (1, .int (iv (p))), (2, .int (iv (k)))] := hl
  refine lv_aload_n X.1 X.2.1 dX5_brownOn_0 rfl (lv_at hl 0 rfl) ?_
  refine lv_iload_n X.1 X.2.1 dX5_brownOn_1 rfl (lv_at hl 2 rfl) ?_
  refine z_av h (run_V (rest := []) X h (c_X5_goesFor (k := k) hR hI (by omega) (by omega) (by first | omega | (show hr A + _ < 1000000; omega))) mi_X5_goesFor ml_X5_131 ⟨Nat.le_of_ble_eq_true rfl, Nat.le_of_ble_eq_true rfl⟩ ⟨rfl, rfl⟩ (Seg.rfl' _) 4 0 rfl rfl rfl rfl hl.1 rfl (Nat.le_of_ble_eq_true rfl) ⟨Nat.zero_le _, Nat.zero_le _⟩ dX5_brownOn_2) (fun _ => rfl) (fun u H locs hp h => ?_)
  obtain ⟨mg1, gg1⟩ := u
  have h : St E _ s H locs (wM E a (mg1, kp, wa, (iv (ik)), fd, gg1, tp, (iv (tn)), (iv (tk)), (iv (bg)), (iv (pt)), (iv (vl)), (iv (bd)), bt, sz, cl)) := h
  have hR1 : RM mg1 (stepn A k.toNat) := hp
  have pn1 : pe (stepn A k.toNat) = pe A := stepn_pe _ _
  refine lv_aload_n X.1 X.2.1 dX5_brownOn_5 rfl (lv_at hl 0 rfl) ?_
  refine lv_iload_n X.1 X.2.1 dX5_brownOn_6 rfl (lv_at hl 1 rfl) ?_
  refine z_pi (run_V (rest := []) X h (c_X5_brownOf (p := p) hR1 (stepn_IA hI k.toNat) (by omega) (by omega)) mi_X5_brownOf ml_X5_105 ⟨Nat.le_of_ble_eq_true rfl, Nat.le_of_ble_eq_true rfl⟩ ⟨rfl, rfl⟩ (Seg.rfl' _) 4 0 rfl rfl rfl rfl hl.1 rfl (Nat.le_of_ble_eq_true rfl) ⟨Nat.zero_le _, Nat.zero_le _⟩ dX5_brownOn_7) ?_
  refine lv_istore_n (lv' := [(3, .int (iv (brn (stepn A k.toNat) p))), (0, .ref (a 0)), (1, .int (iv (p))), (2, .int (iv (k)))]) X.1 X.2.1 dX5_brownOn_10 rfl hl (by decide) rfl (fun ls hl => ?_)
  refine lv_aload_n X.1 X.2.1 dX5_brownOn_11 rfl (lv_at hl 1 rfl) ?_
  refine z_av h (run_V (rest := []) X h (c_X5_putsBack) mi_X5_putsBack ml_X5_142 ⟨Nat.le_of_ble_eq_true rfl, Nat.le_of_ble_eq_true rfl⟩ ⟨rfl, rfl⟩ (Seg.rfl' _) 4 0 rfl rfl rfl rfl hl.1 rfl (Nat.le_of_ble_eq_true rfl) ⟨Nat.zero_le _, Nat.zero_le _⟩ dX5_brownOn_12) (fun _ => rfl) (fun mb2 H locs hb2 h => ?_)
  have h : St E _ s H locs (wM E a (mb2, kp, wa, (iv (ik)), fd, gg1, tp, (iv (tn)), (iv (tk)), (iv (bg)), (iv (pt)), (iv (vl)), (iv (bd)), bt, sz, cl)) := h
  refine lv_iload_n X.1 X.2.1 dX5_brownOn_15 rfl (lv_at hl 0 rfl) ?_
  exact ret _ _ _ _ _ ((mb2, gg1)) h (⟨rfl, hb2⟩) dX5_brownOn_16
