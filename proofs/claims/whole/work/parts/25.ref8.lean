variable {E : EV} {l : Launch} {a : Nat → Nat} {mm kp wa fd gf tp bt sz : Nat → Int32} {cl : Nat → Int64} {ik tn tk bg pt vl bd : Int} {A : Es} {K : Es} {ph tq bq sq : Int → Int} {cq : Int → Int → Int64}
set_option maxHeartbeats 4000000 in
theorem c_X5_isBook (hR : RM mm A) (hI : IA A) (hh : hr A < 200000) (hB2 : RF 4 sz sq) (hB3 : okB bq sq) (hB4 : CL cl cq) {sh p : Int} (s0 : 0 ≤ sh) (s1 : sh ≤ 3) (p0 : 0 ≤ p) (p1 : p < pe A) : MI (S := (Nat → Int32) × (Nat → Int32)) E l yX5_isBook cX5_isBook 5 (some FieldType.boolean) (rmk 6 134) (wM E a (mm, kp, wa, (iv (ik)), fd, gf, tp, (iv (tn)), (iv (tk)), (iv (bg)), (iv (pt)), (iv (vl)), (iv (bd)), bt, sz, cl)) [.ref (a 0), .int (iv (sh)), .int (iv (p))] (fun r u => r = iv (bz (isb (cq sh) A p (sq sh).toNat = true)) ∧ EQ52 u.1 wa) (fun u => wM E a (u.1, kp, wa, (iv (ik)), fd, u.2, tp, (iv (tn)), (iv (tk)), (iv (bg)), (iv (pt)), (iv (vl)), (iv (bd)), bt, sz, cl)) := by
  refine goZ (S := (Nat → Int32) × (Nat → Int32)) (post := fun r u => r = iv (bz (isb (cq sh) A p (sq sh).toNat = true)) ∧ EQ52 u.1 wa) (ws' := fun u => wM E a (u.1, kp, wa, (iv (ik)), fd, u.2, tp, (iv (tn)), (iv (tk)), (iv (bg)), (iv (pt)), (iv (vl)), (iv (bd)), bt, sz, cl)) (by decide) (Nat.le_of_ble_eq_true rfl) ?_
  intro pp e s m below meth c ls args Q ret X h hl
  have hl : lv_has ls 5 [(0, .ref (a 0)), (1, .int (iv (sh))), (2, .int (iv (p)))] := hl
  have zs := hB3.2 sh (by omega) (by omega)
  refine z_iconst X dX5_isBook_0 ?_
  refine lv_istore_n (lv' := [(3, .int (iv (1))), (0, .ref (a 0)), (1, .int (iv (sh))), (2, .int (iv (p)))]) X.1 X.2.1 dX5_isBook_1 rfl hl (by decide) rfl (fun ls hl => ?_)
  refine z_iconst X dX5_isBook_2 ?_
  refine lv_istore (lv' := [(4, .int (iv (0))), (3, .int (iv (1))), (0, .ref (a 0)), (1, .int (iv (sh))), (2, .int (iv (p)))]) X.1 X.2.1 dX5_isBook_3 hl (by decide) rfl (fun ls hl => ?_)
  have L5 : ∀ (fuel_ : Nat) (i : Int) (t : Int) (mq : Nat → Int32) (gq : Nat → Int32), (0 ≤ i) → (i ≤ sq sh) → (RM mq (stepn A i.toNat)) → (t = bz (isb (cq sh) A p i.toNat = true)) → sq sh - i < (fuel_ : Int) → ∀ (H : Heap) (locs : List Loc), St E (wM E a (mm, kp, wa, (iv (ik)), fd, gf, tp, (iv (tn)), (iv (tk)), (iv (bg)), (iv (pt)), (iv (vl)), (iv (bd)), bt, sz, cl)) s H locs (wM E a (mq, kp, wa, (iv (ik)), fd, gq, tp, (iv (tn)), (iv (tk)), (iv (bg)), (iv (pt)), (iv (vl)), (iv (bd)), bt, sz, cl)) → ∀ ls : Array Slot, lv_has ls 5 [(0, .ref (a 0)), (1, .int (iv (sh))), (2, .int (iv (p))), (3, .int (iv (t))), (4, .int (iv (i)))] → W pp l e (rmk 6 134) s m args below meth c H locs 0 0 Q (F0 m 5 ls []) := by
    intro fuel_
    induction fuel_ with
    | zero =>
      intro i t mq gq i0 i1 hv hb hn
      exfalso; omega
    | succ fuel_ ih =>
      intro i t mq gq i0 i1 hv hb hn H locs h ls hl
      have pm : pe (stepn A i.toNat) = pe A := stepn_pe _ _
      have bR := brnn_rng hI i.toNat (p := p) (by omega) (by omega)
      have tr := bz_c (P := isb (cq sh) A p i.toNat = true)
      refine lv_iload X.1 X.2.1 dX5_isBook_5 (lv_at hl 4 rfl) ?_
      refine lv_aload_n X.1 X.2.1 dX5_isBook_7 rfl (lv_at hl 0 rfl) ?_
      refine z_get X h 4 0 14 rfl inX5 rfl (by decide) fl_X5_31 rfl dX5_isBook_8 ?_
      refine lv_iload_n X.1 X.2.1 dX5_isBook_11 rfl (lv_at hl 1 rfl) ?_
      refine z_iald (v := sq sh) X h 8 rfl (by omega) (by omega) (by decide) (hB2 sh (by omega) (by omega)) dX5_isBook_12 ?_
      refine z_ic_ge (tgt := 58) X ⟨by omega, by omega⟩ ⟨by omega, by omega⟩ dX5_isBook_13 (by decide) (fun c_13 => ?_) (fun c_13 => ?_)
      · refine lv_aload_n X.1 X.2.1 dX5_isBook_58 rfl (lv_at hl 0 rfl) ?_
        refine z_av h (run_V (rest := []) X h (c_X5_putsBack) mi_X5_putsBack ml_X5_142 ⟨Nat.le_of_ble_eq_true rfl, Nat.le_of_ble_eq_true rfl⟩ ⟨rfl, rfl⟩ (Seg.rfl' _) 4 0 rfl rfl rfl rfl hl.1 rfl (Nat.le_of_ble_eq_true rfl) ⟨Nat.zero_le _, Nat.zero_le _⟩ dX5_isBook_59) (fun _ => rfl) (fun mb1 H locs hb1 h => ?_)
        have h : St E _ s H locs (wM E a (mb1, kp, wa, (iv (ik)), fd, gq, tp, (iv (tn)), (iv (tk)), (iv (bg)), (iv (pt)), (iv (vl)), (iv (bd)), bt, sz, cl)) := h
        refine lv_iload_n X.1 X.2.1 dX5_isBook_62 rfl (lv_at hl 3 rfl) ?_
        exact ret _ _ _ _ _ (mb1, gq) h (by omega) ⟨by rw [hb]; exact congrArg iv (by first | exact isb_fin i0 i1 (Or.inl (by omega)) | exact isb_fin i0 i1 (Or.inr (by omega))), hb1⟩ dX5_isBook_63
      · refine lv_iload_n X.1 X.2.1 dX5_isBook_16 rfl (lv_at hl 3 rfl) ?_
        refine z_if_eq (tgt := 58) X ⟨by omega, by omega⟩ dX5_isBook_17 (by decide) (fun c_17 => ?_) (fun c_17 => ?_)
        · refine lv_aload_n X.1 X.2.1 dX5_isBook_58 rfl (lv_at hl 0 rfl) ?_
          refine z_av h (run_V (rest := []) X h (c_X5_putsBack) mi_X5_putsBack ml_X5_142 ⟨Nat.le_of_ble_eq_true rfl, Nat.le_of_ble_eq_true rfl⟩ ⟨rfl, rfl⟩ (Seg.rfl' _) 4 0 rfl rfl rfl rfl hl.1 rfl (Nat.le_of_ble_eq_true rfl) ⟨Nat.zero_le _, Nat.zero_le _⟩ dX5_isBook_59) (fun _ => rfl) (fun mb2 H locs hb2 h => ?_)
          have h : St E _ s H locs (wM E a (mb2, kp, wa, (iv (ik)), fd, gq, tp, (iv (tn)), (iv (tk)), (iv (bg)), (iv (pt)), (iv (vl)), (iv (bd)), bt, sz, cl)) := h
          refine lv_iload_n X.1 X.2.1 dX5_isBook_62 rfl (lv_at hl 3 rfl) ?_
          exact ret _ _ _ _ _ (mb2, gq) h (by omega) ⟨by rw [hb]; exact congrArg iv (by first | exact isb_fin i0 i1 (Or.inl (by omega)) | exact isb_fin i0 i1 (Or.inr (by omega))), hb2⟩ dX5_isBook_63
        · refine lv_aload_n X.1 X.2.1 dX5_isBook_20 rfl (lv_at hl 0 rfl) ?_
          refine z_get X h 4 0 15 rfl inX5 rfl (by decide) fl_X5_34 rfl dX5_isBook_21 ?_
          refine z_bipush X (by decide) dX5_isBook_24 ?_
          refine lv_iload_n X.1 X.2.1 dX5_isBook_26 rfl (lv_at hl 1 rfl) ?_
          refine z_imul X dX5_isBook_27 ?_
          refine lv_iload X.1 X.2.1 dX5_isBook_28 (lv_at hl 4 rfl) ?_
          refine z_iadd X dX5_isBook_30 ?_
          refine z_laldv (v := cq sh i) X h 9 rfl (by omega) (by omega) (by decide) (hB4 sh i (by omega) (by omega) (by omega) (by omega)) dX5_isBook_31 ?_
          refine lv_aload_n X.1 X.2.1 dX5_isBook_32 rfl (lv_at hl 0 rfl) ?_
          refine lv_iload_n X.1 X.2.1 dX5_isBook_33 rfl (lv_at hl 2 rfl) ?_
          refine z_pi (run_V (rest := [.long (cq sh i)]) X h (c_X5_brownOf (p := p) hv (stepn_IA hI i.toNat) (by omega) (by omega)) mi_X5_brownOf ml_X5_105 ⟨Nat.le_of_ble_eq_true rfl, Nat.le_of_ble_eq_true rfl⟩ ⟨rfl, rfl⟩ (Seg.rfl' _) 4 0 rfl rfl rfl rfl hl.1 rfl (Nat.le_of_ble_eq_true rfl) ⟨Nat.zero_le _, Nat.zero_le _⟩ dX5_isBook_34) ?_
          refine lv_i2l (v := (iv (brn (stepn A i.toNat) p)).toInt64) X.1 X.2.1 dX5_isBook_37 rfl ?_
          refine z_lcmp (a := (cq sh i).toInt) (b := brn (stepn A i.toNat) p) X rfl (i64_iv ⟨by omega, by omega⟩) dX5_isBook_38 ?_
          refine z_ifc_ne (tgt := 46) X dX5_isBook_39 (by decide) (fun c_39 => ?_) (fun c_39 => ?_)
          · refine z_iconst X dX5_isBook_46 ?_
            refine lv_istore_n (lv' := [(3, .int (iv (0))), (0, .ref (a 0)), (1, .int (iv (sh))), (2, .int (iv (p))), (4, .int (iv (i)))]) X.1 X.2.1 dX5_isBook_47 rfl hl (by decide) rfl (fun ls hl => ?_)
            refine lv_aload_n X.1 X.2.1 dX5_isBook_48 rfl (lv_at hl 1 rfl) ?_
            refine z_av h (run_V (rest := []) X h (c_X5_goes hv (stepn_IA hI i.toNat) (show hr (stepn A i.toNat) < 1000000 by rw [stepn_hr]; omega)) mi_X5_goes ml_X5_127 ⟨Nat.le_of_ble_eq_true rfl, Nat.le_of_ble_eq_true rfl⟩ ⟨rfl, rfl⟩ (Seg.rfl' _) 4 0 rfl rfl rfl rfl hl.1 rfl (Nat.le_of_ble_eq_true rfl) ⟨Nat.zero_le _, Nat.zero_le _⟩ dX5_isBook_49) (fun _ => rfl) (fun u H locs hp h => ?_)
            obtain ⟨mg3, gg3⟩ := u
            have h : St E _ s H locs (wM E a (mg3, kp, wa, (iv (ik)), fd, gg3, tp, (iv (tn)), (iv (tk)), (iv (bg)), (iv (pt)), (iv (vl)), (iv (bd)), bt, sz, cl)) := h
            have hR3 : RM mg3 (step (stepn A i.toNat)) := hp
            refine z_iinc (k := 4) (lv' := [(4, .int (iv (i + 1))), (3, .int (iv (0))), (0, .ref (a 0)), (1, .int (iv (sh))), (2, .int (iv (p)))]) X dX5_isBook_52 hl rfl (by decide) rfl (fun ls hl => ?_)
            refine lv_goto (tgt := 5) X.1 X.2.1 dX5_isBook_55 (by decide) ?_
            exact ih (i + 1) (0) (mg3) (gg3) (by omega) (by omega) (by rw [tn1 i0]; exact hR3) ((bz_f (by rw [isb_n i0 (by omega)]; decide)).symm) (by omega) _ _ h ls (lv_sub hl [2, 3, 4, 1, 0] rfl)
          · refine z_iconst X dX5_isBook_42 ?_
            refine lv_goto (tgt := 47) X.1 X.2.1 dX5_isBook_43 (by decide) ?_
            refine lv_istore_n (lv' := [(3, .int (iv (1))), (0, .ref (a 0)), (1, .int (iv (sh))), (2, .int (iv (p))), (4, .int (iv (i)))]) X.1 X.2.1 dX5_isBook_47 rfl hl (by decide) rfl (fun ls hl => ?_)
            refine lv_aload_n X.1 X.2.1 dX5_isBook_48 rfl (lv_at hl 1 rfl) ?_
            refine z_av h (run_V (rest := []) X h (c_X5_goes hv (stepn_IA hI i.toNat) (show hr (stepn A i.toNat) < 1000000 by rw [stepn_hr]; omega)) mi_X5_goes ml_X5_127 ⟨Nat.le_of_ble_eq_true rfl, Nat.le_of_ble_eq_true rfl⟩ ⟨rfl, rfl⟩ (Seg.rfl' _) 4 0 rfl rfl rfl rfl hl.1 rfl (Nat.le_of_ble_eq_true rfl) ⟨Nat.zero_le _, Nat.zero_le _⟩ dX5_isBook_49) (fun _ => rfl) (fun u H locs hp h => ?_)
            obtain ⟨mg4, gg4⟩ := u
            have h : St E _ s H locs (wM E a (mg4, kp, wa, (iv (ik)), fd, gg4, tp, (iv (tn)), (iv (tk)), (iv (bg)), (iv (pt)), (iv (vl)), (iv (bd)), bt, sz, cl)) := h
            have hR4 : RM mg4 (step (stepn A i.toNat)) := hp
            refine z_iinc (k := 4) (lv' := [(4, .int (iv (i + 1))), (3, .int (iv (1))), (0, .ref (a 0)), (1, .int (iv (sh))), (2, .int (iv (p)))]) X dX5_isBook_52 hl rfl (by decide) rfl (fun ls hl => ?_)
            refine lv_goto (tgt := 5) X.1 X.2.1 dX5_isBook_55 (by decide) ?_
            exact ih (i + 1) (1) (mg4) (gg4) (by omega) (by omega) (by rw [tn1 i0]; exact hR4) ((bz_t (isb_y i0 (bz1 (by omega)) (by omega))).symm) (by omega) _ _ h ls (lv_sub hl [2, 3, 4, 1, 0] rfl)
  exact L5 ((sq sh - (0) : Int).toNat + 1) (0) (1) (mm) (gf) (by omega) (by omega) (hR) (rfl) (by omega) _ _ h ls (lv_sub hl [2, 3, 4, 1, 0] rfl)

set_option maxHeartbeats 4000000 in
theorem c_X5_read (hS : RepM (mm, kp, wa, (iv (ik)), fd, gf, tp, (iv (tn)), (iv (tk)), (iv (bg)), (iv (pt)), (iv (vl)), (iv (bd)), bt, sz, cl) (A, K, ik, ph, tq, tn, bq, sq, cq)) {sh : Int} (r_sh : r32 sh) {x : Int} (r_x : r32 x) {o : Int} (r_o : r32 o) : MI (S := Mc) E l yX5_read cX5_read 7 (some FieldType.int) (rmk 7 158) (wM E a (mm, kp, wa, (iv (ik)), fd, gf, tp, (iv (tn)), (iv (tk)), (iv (bg)), (iv (pt)), (iv (vl)), (iv (bd)), bt, sz, cl)) [.ref (a 0), .int (iv (sh)), .int (iv (x)), .int (iv (o))] (fun r u => r = iv ((q_read A bq sq cq ph sh x o).1) ∧ RepM u (A, K, ik, (q_read A bq sq cq ph sh x o).2, tq, tn, bq, sq, cq)) (fun u => wM E a u) := by
  refine goI (S := Mc) (post := fun r u => r = iv ((q_read A bq sq cq ph sh x o).1) ∧ RepM u (A, K, ik, (q_read A bq sq cq ph sh x o).2, tq, tn, bq, sq, cq)) (ws' := fun u => wM E a u) (by decide) (Nat.le_of_ble_eq_true rfl) ?_
  intro pp e s m below meth c ls args Q ret X h hl
  have hl : lv_has ls 7 [(0, .ref (a 0)), (1, .int (iv (sh))), (2, .int (iv (x))), (3, .int (iv (o)))] := hl
  have hR : RM mm A := hS.1.1
  have hI : IA A := hS.1.2.1
  have hr9 : hr A ≤ 99999 := hS.1.2.2
  have hF : RF 7 fd ph := hS.2.2.1
  have hK := hS.2.1
  have hT := hS.2.2.2.1
  have hB := hS.2.2.2.2
  have hh : hr A < 1000000 := by omega
  have n8 := hI.n8
  have n0 := hI.n0
  have h0 := hI.h0
  have hB1 : RF 4 bt bq := hS.2.2.2.2.1
  have hB2 : RF 4 sz sq := hS.2.2.2.2.2.1
  have hB3 : okB bq sq := hS.2.2.2.2.2.2.1
  have hB4 : CL cl cq := hS.2.2.2.2.2.2.2
  have ht0 : 0 ≤ tn := hS.2.2.2.1.2.1
  have ht1 : tn ≤ 120 := hS.2.2.2.1.2.2.1
  have hk01 : ik = 0 ∨ ik = 1 := hS.2.1.2.1
  refine lv_aload_n X.1 X.2.1 dX5_read_0 rfl (lv_at hl 0 rfl) ?_
  refine lv_iload_n X.1 X.2.1 dX5_read_1 rfl (lv_at hl 1 rfl) ?_
  refine z_pi (run_V (rest := []) X h (c_X5_notThere (sh := sh) hB1 hB3 r_sh) mi_X5_notThere ml_X5_214 ⟨Nat.le_of_ble_eq_true rfl, Nat.le_of_ble_eq_true rfl⟩ ⟨rfl, rfl⟩ (Seg.rfl' _) 4 0 rfl rfl rfl rfl hl.1 rfl (Nat.le_of_ble_eq_true rfl) ⟨Nat.zero_le _, Nat.zero_le _⟩ dX5_read_2) ?_
  rcases nth_c bq sh with ⟨en, cs⟩ | ⟨en, cs⟩ | ⟨en, cs⟩
  · refine W.eq (g2 := F0 m 5 ls [.int (iv ((-1000000001)))]) (by rw [en]) ?_
    refine lv_istore (lv' := [(4, .int (iv ((-1000000001)))), (0, .ref (a 0)), (1, .int (iv (sh))), (2, .int (iv (x))), (3, .int (iv (o)))]) X.1 X.2.1 dX5_read_5 hl (by decide) rfl (fun ls hl => ?_)
    refine lv_iload X.1 X.2.1 dX5_read_7 (lv_at hl 0 rfl) ?_
    refine z_if_ne (tgt := 26) X ⟨by decide, by decide⟩ dX5_read_9 (by decide) (fun c_9 => ?_) (fun c_9 => ?_)
    · refine lv_iload X.1 X.2.1 dX5_read_26 (lv_at hl 0 rfl) ?_
      refine lv_istore (lv' := [(4, .int (iv ((-1000000001)))), (0, .ref (a 0)), (1, .int (iv (sh))), (2, .int (iv (x))), (3, .int (iv (o)))]) X.1 X.2.1 dX5_read_28 hl (by decide) rfl (fun ls hl => ?_)
      refine lv_iload X.1 X.2.1 dX5_read_30 (lv_at hl 0 rfl) ?_
      refine z_if_eq (tgt := 42) X ⟨by decide, by decide⟩ dX5_read_32 (by decide) (fun c_32 => ?_) (fun c_32 => ?_)
      · exact absurd c_32 (by decide)
      · refine lv_aload_n X.1 X.2.1 dX5_read_35 rfl (lv_at hl 1 rfl) ?_
        refine lv_iload X.1 X.2.1 dX5_read_36 (lv_at hl 0 rfl) ?_
        refine z_ai h (run_V (rest := []) X h (c_X5_finds (k := 0) hF (by decide) (by decide) (by decide)) mi_X5_finds ml_X5_40 ⟨Nat.le_of_ble_eq_true rfl, Nat.le_of_ble_eq_true rfl⟩ ⟨rfl, rfl⟩ (Seg.rfl' _) 4 0 rfl rfl rfl rfl hl.1 rfl (Nat.le_of_ble_eq_true rfl) ⟨Nat.zero_le _, Nat.zero_le _⟩ dX5_read_38) (fun _ => rfl) (fun r fd1 H locs hp h => ?_)
        obtain ⟨rfl, hF1⟩ := hp
        have h : St E _ s H locs (wM E a (mm, kp, wa, (iv (ik)), fd1, gf, tp, (iv (tn)), (iv (tk)), (iv (bg)), (iv (pt)), (iv (vl)), (iv (bd)), bt, sz, cl)) := h
        have e9 : q_read A bq sq cq ph sh x o = ((-1000000001), (bump ph 0)) := by unfold q_read; (repeat (first | rw [if_pos (by omega)] | rw [if_neg (by omega)])); try rfl
        exact ret _ _ _ _ _ (mm, kp, wa, (iv (ik)), fd1, gf, tp, (iv (tn)), (iv (tk)), (iv (bg)), (iv (pt)), (iv (vl)), (iv (bd)), bt, sz, cl) h (by rw [e9]; exact ⟨rfl, ⟨hR, hI, hr9⟩, hK, hF1, hT, hB⟩) dX5_read_41
    · exact absurd c_9 (by decide)
  · refine W.eq (g2 := F0 m 5 ls [.int (iv ((-1000000006)))]) (by rw [en]) ?_
    refine lv_istore (lv' := [(4, .int (iv ((-1000000006)))), (0, .ref (a 0)), (1, .int (iv (sh))), (2, .int (iv (x))), (3, .int (iv (o)))]) X.1 X.2.1 dX5_read_5 hl (by decide) rfl (fun ls hl => ?_)
    refine lv_iload X.1 X.2.1 dX5_read_7 (lv_at hl 0 rfl) ?_
    refine z_if_ne (tgt := 26) X ⟨by decide, by decide⟩ dX5_read_9 (by decide) (fun c_9 => ?_) (fun c_9 => ?_)
    · refine lv_iload X.1 X.2.1 dX5_read_26 (lv_at hl 0 rfl) ?_
      refine lv_istore (lv' := [(4, .int (iv ((-1000000006)))), (0, .ref (a 0)), (1, .int (iv (sh))), (2, .int (iv (x))), (3, .int (iv (o)))]) X.1 X.2.1 dX5_read_28 hl (by decide) rfl (fun ls hl => ?_)
      refine lv_iload X.1 X.2.1 dX5_read_30 (lv_at hl 0 rfl) ?_
      refine z_if_eq (tgt := 42) X ⟨by decide, by decide⟩ dX5_read_32 (by decide) (fun c_32 => ?_) (fun c_32 => ?_)
      · exact absurd c_32 (by decide)
      · refine lv_aload_n X.1 X.2.1 dX5_read_35 rfl (lv_at hl 1 rfl) ?_
        refine lv_iload X.1 X.2.1 dX5_read_36 (lv_at hl 0 rfl) ?_
        refine z_ai h (run_V (rest := []) X h (c_X5_finds (k := 5) hF (by decide) (by decide) (by decide)) mi_X5_finds ml_X5_40 ⟨Nat.le_of_ble_eq_true rfl, Nat.le_of_ble_eq_true rfl⟩ ⟨rfl, rfl⟩ (Seg.rfl' _) 4 0 rfl rfl rfl rfl hl.1 rfl (Nat.le_of_ble_eq_true rfl) ⟨Nat.zero_le _, Nat.zero_le _⟩ dX5_read_38) (fun _ => rfl) (fun r fd2 H locs hp h => ?_)
        obtain ⟨rfl, hF2⟩ := hp
        have h : St E _ s H locs (wM E a (mm, kp, wa, (iv (ik)), fd2, gf, tp, (iv (tn)), (iv (tk)), (iv (bg)), (iv (pt)), (iv (vl)), (iv (bd)), bt, sz, cl)) := h
        have e9 : q_read A bq sq cq ph sh x o = ((-1000000006), (bump ph 5)) := by unfold q_read; (repeat (first | rw [if_pos (by omega)] | rw [if_neg (by omega)])); try rfl
        exact ret _ _ _ _ _ (mm, kp, wa, (iv (ik)), fd2, gf, tp, (iv (tn)), (iv (tk)), (iv (bg)), (iv (pt)), (iv (vl)), (iv (bd)), bt, sz, cl) h (by rw [e9]; exact ⟨rfl, ⟨hR, hI, hr9⟩, hK, hF2, hT, hB⟩) dX5_read_41
    · exact absurd c_9 (by decide)
  · refine W.eq (g2 := F0 m 5 ls [.int (iv (0))]) (by rw [en]) ?_
    have osh := hB3.1 sh (by omega) (by omega)
    have zsh := hB3.2 sh (by omega) (by omega)
    refine lv_istore (lv' := [(4, .int (iv (0))), (0, .ref (a 0)), (1, .int (iv (sh))), (2, .int (iv (x))), (3, .int (iv (o)))]) X.1 X.2.1 dX5_read_5 hl (by decide) rfl (fun ls hl => ?_)
    refine lv_iload X.1 X.2.1 dX5_read_7 (lv_at hl 0 rfl) ?_
    refine z_if_ne (tgt := 26) X ⟨by decide, by decide⟩ dX5_read_9 (by decide) (fun c_9 => ?_) (fun c_9 => ?_)
    · exact absurd c_9 (by decide)
    · refine lv_aload_n X.1 X.2.1 dX5_read_12 rfl (lv_at hl 1 rfl) ?_
      refine lv_iload_n X.1 X.2.1 dX5_read_13 rfl (lv_at hl 3 rfl) ?_
      refine lv_iload_n X.1 X.2.1 dX5_read_14 rfl (lv_at hl 4 rfl) ?_
      refine z_pi (run_V (rest := []) X h (c_X5_areTwo (p := x) (o := o) hR hI r_x r_o) mi_X5_areTwo ml_X5_151 ⟨Nat.le_of_ble_eq_true rfl, Nat.le_of_ble_eq_true rfl⟩ ⟨rfl, rfl⟩ (Seg.rfl' _) 4 0 rfl rfl rfl rfl hl.1 rfl (Nat.le_of_ble_eq_true rfl) ⟨Nat.zero_le _, Nat.zero_le _⟩ dX5_read_15) ?_
      refine z_ifb_ne (tgt := 26) X dX5_read_18 (by decide) (fun c_18 => ?_) (fun c_18 => ?_)
      · refine lv_iload X.1 X.2.1 dX5_read_26 (lv_at hl 0 rfl) ?_
        refine lv_istore (lv' := [(4, .int (iv (0))), (0, .ref (a 0)), (1, .int (iv (sh))), (2, .int (iv (x))), (3, .int (iv (o)))]) X.1 X.2.1 dX5_read_28 hl (by decide) rfl (fun ls hl => ?_)
        refine lv_iload X.1 X.2.1 dX5_read_30 (lv_at hl 0 rfl) ?_
        refine z_if_eq (tgt := 42) X ⟨by decide, by decide⟩ dX5_read_32 (by decide) (fun c_32 => ?_) (fun c_32 => ?_)
        · refine lv_aload_n X.1 X.2.1 dX5_read_42 rfl (lv_at hl 1 rfl) ?_
          refine z_av h (run_V (rest := []) X h (c_X5_thinks) mi_X5_thinks ml_X5_139 ⟨Nat.le_of_ble_eq_true rfl, Nat.le_of_ble_eq_true rfl⟩ ⟨rfl, rfl⟩ (Seg.rfl' _) 4 0 rfl rfl rfl rfl hl.1 rfl (Nat.le_of_ble_eq_true rfl) ⟨Nat.zero_le _, Nat.zero_le _⟩ dX5_read_43) (fun _ => rfl) (fun wa3 H locs hw3 h => ?_)
          have h : St E _ s H locs (wM E a (mm, kp, wa3, (iv (ik)), fd, gf, tp, (iv (tn)), (iv (tk)), (iv (bg)), (iv (pt)), (iv (vl)), (iv (bd)), bt, sz, cl)) := h
          have hT3 := RM_eq hR hI.n8 hw3
          refine z_iconst X dX5_read_46 ?_
          refine lv_istore (lv' := [(5, .int (iv (0))), (4, .int (iv (0))), (0, .ref (a 0)), (1, .int (iv (sh))), (2, .int (iv (x))), (3, .int (iv (o)))]) X.1 X.2.1 dX5_read_47 hl (by decide) rfl (fun ls hl => ?_)
          refine z_iconst X dX5_read_49 ?_
          refine lv_istore (lv' := [(6, .int (iv (0))), (5, .int (iv (0))), (4, .int (iv (0))), (0, .ref (a 0)), (1, .int (iv (sh))), (2, .int (iv (x))), (3, .int (iv (o)))]) X.1 X.2.1 dX5_read_50 hl (by decide) rfl (fun ls hl => ?_)
          have L52 : ∀ (fuel_ : Nat) (i : Int) (k : Int) (mq : Nat → Int32) (gq : Nat → Int32), (0 ≤ i) → (i ≤ 36) → (RM mq A) → (k = cntk (pairB A cq sq sh x o) i.toNat) → 36 - i < (fuel_ : Int) → ∀ (H : Heap) (locs : List Loc), St E (wM E a (mm, kp, wa, (iv (ik)), fd, gf, tp, (iv (tn)), (iv (tk)), (iv (bg)), (iv (pt)), (iv (vl)), (iv (bd)), bt, sz, cl)) s H locs (wM E a (mq, kp, wa3, (iv (ik)), fd, gq, tp, (iv (tn)), (iv (tk)), (iv (bg)), (iv (pt)), (iv (vl)), (iv (bd)), bt, sz, cl)) → ∀ ls : Array Slot, lv_has ls 7 [(4, .int (iv (0))), (0, .ref (a 0)), (1, .int (iv (sh))), (2, .int (iv (x))), (3, .int (iv (o))), (5, .int (iv (k))), (6, .int (iv (i)))] → W pp l e (rmk 7 158) s m args below meth c H locs 0 0 Q (F0 m 52 ls []) := by
            intro fuel_
            induction fuel_ with
            | zero =>
              intro i k mq gq i0 i1 hv hk9 hn
              exfalso; omega
            | succ fuel_ ih =>
              intro i k mq gq i0 i1 hv hk9 hn H locs h ls hl
              refine lv_iload X.1 X.2.1 dX5_read_52 (lv_at hl 6 rfl) ?_
              refine z_bipush X (by decide) dX5_read_54 ?_
              refine z_ic_ge (tgt := 106) X ⟨by omega, by omega⟩ ⟨by decide, by decide⟩ dX5_read_56 (by decide) (fun c_56 => ?_) (fun c_56 => ?_)
              · refine lv_iload X.1 X.2.1 dX5_read_106 (lv_at hl 5 rfl) ?_
                have e9 : q_read A bq sq cq ph sh x o = (k, ph) := by unfold q_read; rw [if_neg (by omega), if_neg (by omega), if_neg (by omega), hk9, show i = 36 by omega]; rfl
                exact ret _ _ _ _ _ (mq, kp, wa3, (iv (ik)), fd, gq, tp, (iv (tn)), (iv (tk)), (iv (bg)), (iv (pt)), (iv (vl)), (iv (bd)), bt, sz, cl) h (by rw [e9]; exact ⟨rfl, ⟨hv, hI, hr9⟩, hK, hF, hT, hB⟩) dX5_read_108
              · refine lv_aload_n X.1 X.2.1 dX5_read_59 rfl (lv_at hl 1 rfl) ?_
                refine lv_iload_n X.1 X.2.1 dX5_read_60 rfl (lv_at hl 3 rfl) ?_
                refine z_iconst X dX5_read_61 ?_
                refine lv_iload X.1 X.2.1 dX5_read_62 (lv_at hl 6 rfl) ?_
                refine z_bipush X (by decide) dX5_read_64 ?_
                refine z_idiv X (by omega) (by omega) (by omega) (by omega) dX5_read_66 ?_
                refine z_av h (run_V (rest := []) X h (c_X5_put (p := x) (w := 0) (v := ((i) / (6))) hv hI.n8 (by omega) (by first | omega | (show x < pe A; omega)) (by omega) (by omega)) mi_X5_put ml_X5_91 ⟨Nat.le_of_ble_eq_true rfl, Nat.le_of_ble_eq_true rfl⟩ ⟨rfl, rfl⟩ (Seg.rfl' _) 4 0 rfl rfl rfl rfl hl.1 rfl (Nat.le_of_ble_eq_true rfl) ⟨Nat.zero_le _, Nat.zero_le _⟩ dX5_read_67) (fun _ => rfl) (fun mp4 H locs hR4 h => ?_)
                have h : St E _ s H locs (wM E a (mp4, kp, wa3, (iv (ik)), fd, gq, tp, (iv (tn)), (iv (tk)), (iv (bg)), (iv (pt)), (iv (vl)), (iv (bd)), bt, sz, cl)) := h
                refine lv_aload_n X.1 X.2.1 dX5_read_70 rfl (lv_at hl 1 rfl) ?_
                refine lv_iload_n X.1 X.2.1 dX5_read_71 rfl (lv_at hl 4 rfl) ?_
                refine z_iconst X dX5_read_72 ?_
                refine lv_iload X.1 X.2.1 dX5_read_73 (lv_at hl 6 rfl) ?_
                refine z_bipush X (by decide) dX5_read_75 ?_
                refine z_irem X (by omega) (by omega) (by omega) (by omega) dX5_read_77 ?_
                refine z_av h (run_V (rest := []) X h (c_X5_put (p := o) (w := 0) (v := ((i) % (6))) hR4 (show pe A ≤ 8 from hI.n8) (by omega) (by first | omega | (show o < pe A; omega)) (by omega) (by omega)) mi_X5_put ml_X5_91 ⟨Nat.le_of_ble_eq_true rfl, Nat.le_of_ble_eq_true rfl⟩ ⟨rfl, rfl⟩ (Seg.rfl' _) 4 0 rfl rfl rfl rfl hl.1 rfl (Nat.le_of_ble_eq_true rfl) ⟨Nat.zero_le _, Nat.zero_le _⟩ dX5_read_78) (fun _ => rfl) (fun mp5 H locs hR5 h => ?_)
                have h : St E _ s H locs (wM E a (mp5, kp, wa3, (iv (ik)), fd, gq, tp, (iv (tn)), (iv (tk)), (iv (bg)), (iv (pt)), (iv (vl)), (iv (bd)), bt, sz, cl)) := h
                refine lv_iload X.1 X.2.1 dX5_read_81 (lv_at hl 5 rfl) ?_
                refine lv_aload_n X.1 X.2.1 dX5_read_83 rfl (lv_at hl 1 rfl) ?_
                refine lv_iload_n X.1 X.2.1 dX5_read_84 rfl (lv_at hl 2 rfl) ?_
                refine lv_iload_n X.1 X.2.1 dX5_read_85 rfl (lv_at hl 3 rfl) ?_
                refine z_ai h (run_V (rest := [.int (iv (k))]) X h (c_X5_isBook (sh := sh) (p := x) hR5 (RM_pp hI (x := x) (o := o) (j := i) (by omega) (by omega) (by omega) (by omega) (by omega) (by omega)) (show hr A < 200000 by omega) hB2 hB3 hB4 (by omega) (by omega) (by omega) (show _ < pe A by omega)) mi_X5_isBook ml_X5_225 ⟨Nat.le_of_ble_eq_true rfl, Nat.le_of_ble_eq_true rfl⟩ ⟨rfl, rfl⟩ (Seg.rfl' _) 4 0 rfl rfl rfl rfl hl.1 rfl (Nat.le_of_ble_eq_true rfl) ⟨Nat.zero_le _, Nat.zero_le _⟩ dX5_read_86) (fun _ => rfl) (fun r u H locs hp h => ?_)
                obtain ⟨mo6, go6⟩ := u
                have h : St E _ s H locs (wM E a (mo6, kp, wa3, (iv (ik)), fd, go6, tp, (iv (tn)), (iv (tk)), (iv (bg)), (iv (pt)), (iv (vl)), (iv (bd)), bt, sz, cl)) := h
                obtain ⟨rfl, hb6⟩ := hp
                have hR6 : RM mo6 A := RM_eq hT3 hI.n8 hb6
                refine z_ifb_eq (tgt := 96) X dX5_read_89 (by decide) (fun c_89 => ?_) (fun c_89 => ?_)
                · refine z_iconst X dX5_read_96 ?_
                  refine z_iadd X dX5_read_97 ?_
                  refine lv_istore (lv' := [(5, .int (iv (k + 0))), (4, .int (iv (0))), (0, .ref (a 0)), (1, .int (iv (sh))), (2, .int (iv (x))), (3, .int (iv (o))), (6, .int (iv (i)))]) X.1 X.2.1 dX5_read_98 hl (by decide) rfl (fun ls hl => ?_)
                  refine z_iinc (k := 6) (lv' := [(6, .int (iv (i + 1))), (5, .int (iv (k + 0))), (4, .int (iv (0))), (0, .ref (a 0)), (1, .int (iv (sh))), (2, .int (iv (x))), (3, .int (iv (o)))]) X dX5_read_100 hl rfl (by decide) rfl (fun ls hl => ?_)
                  refine lv_goto (tgt := 52) X.1 X.2.1 dX5_read_103 (by decide) ?_
                  exact ih (i + 1) (k + 0) (mo6) (go6) (by omega) (by omega) (hR6) (by rw [cntk_n i0 (show ¬ pairB A cq sq sh x o i = true by assumption), hk9]) (by omega) _ _ h ls (lv_sub hl [2, 3, 4, 5, 6, 1, 0] rfl)
                · refine z_iconst X dX5_read_92 ?_
                  refine lv_goto (tgt := 97) X.1 X.2.1 dX5_read_93 (by decide) ?_
                  refine z_iadd X dX5_read_97 ?_
                  refine lv_istore (lv' := [(5, .int (iv (k + 1))), (4, .int (iv (0))), (0, .ref (a 0)), (1, .int (iv (sh))), (2, .int (iv (x))), (3, .int (iv (o))), (6, .int (iv (i)))]) X.1 X.2.1 dX5_read_98 hl (by decide) rfl (fun ls hl => ?_)
                  refine z_iinc (k := 6) (lv' := [(6, .int (iv (i + 1))), (5, .int (iv (k + 1))), (4, .int (iv (0))), (0, .ref (a 0)), (1, .int (iv (sh))), (2, .int (iv (x))), (3, .int (iv (o)))]) X dX5_read_100 hl rfl (by decide) rfl (fun ls hl => ?_)
                  refine lv_goto (tgt := 52) X.1 X.2.1 dX5_read_103 (by decide) ?_
                  exact ih (i + 1) (k + 1) (mo6) (go6) (by omega) (by omega) (hR6) (by rw [cntk_y i0 (show pairB A cq sq sh x o i = true by assumption), hk9]) (by omega) _ _ h ls (lv_sub hl [2, 3, 4, 5, 6, 1, 0] rfl)
          exact L52 ((36 - (0) : Int).toNat + 1) (0) (0) (mm) (gf) (by omega) (by omega) (hR) (rfl) (by omega) _ _ h ls (lv_sub hl [2, 3, 4, 5, 6, 1, 0] rfl)
        · exact absurd c_32 (by decide)
      · refine z_ldc (z := (-1000000001)) X ct_X5_38 (by decide) dX5_read_21 ?_
        refine lv_goto (tgt := 28) X.1 X.2.1 dX5_read_23 (by decide) ?_
        refine lv_istore (lv' := [(4, .int (iv ((-1000000001)))), (0, .ref (a 0)), (1, .int (iv (sh))), (2, .int (iv (x))), (3, .int (iv (o)))]) X.1 X.2.1 dX5_read_28 hl (by decide) rfl (fun ls hl => ?_)
        refine lv_iload X.1 X.2.1 dX5_read_30 (lv_at hl 0 rfl) ?_
        refine z_if_eq (tgt := 42) X ⟨by decide, by decide⟩ dX5_read_32 (by decide) (fun c_32 => ?_) (fun c_32 => ?_)
        · exact absurd c_32 (by decide)
        · refine lv_aload_n X.1 X.2.1 dX5_read_35 rfl (lv_at hl 1 rfl) ?_
          refine lv_iload X.1 X.2.1 dX5_read_36 (lv_at hl 0 rfl) ?_
          refine z_ai h (run_V (rest := []) X h (c_X5_finds (k := 0) hF (by decide) (by decide) (by decide)) mi_X5_finds ml_X5_40 ⟨Nat.le_of_ble_eq_true rfl, Nat.le_of_ble_eq_true rfl⟩ ⟨rfl, rfl⟩ (Seg.rfl' _) 4 0 rfl rfl rfl rfl hl.1 rfl (Nat.le_of_ble_eq_true rfl) ⟨Nat.zero_le _, Nat.zero_le _⟩ dX5_read_38) (fun _ => rfl) (fun r fd7 H locs hp h => ?_)
          obtain ⟨rfl, hF7⟩ := hp
          have h : St E _ s H locs (wM E a (mm, kp, wa, (iv (ik)), fd7, gf, tp, (iv (tn)), (iv (tk)), (iv (bg)), (iv (pt)), (iv (vl)), (iv (bd)), bt, sz, cl)) := h
          have e9 : q_read A bq sq cq ph sh x o = ((-1000000001), (bump ph 0)) := by unfold q_read; (repeat (first | rw [if_pos (by omega)] | rw [if_neg (by omega)])); try rfl
          exact ret _ _ _ _ _ (mm, kp, wa, (iv (ik)), fd7, gf, tp, (iv (tn)), (iv (tk)), (iv (bg)), (iv (pt)), (iv (vl)), (iv (bd)), bt, sz, cl) h (by rw [e9]; exact ⟨rfl, ⟨hR, hI, hr9⟩, hK, hF7, hT, hB⟩) dX5_read_41

set_option maxHeartbeats 4000000 in
theorem c_X5_image (hS : RepM (mm, kp, wa, (iv (ik)), fd, gf, tp, (iv (tn)), (iv (tk)), (iv (bg)), (iv (pt)), (iv (vl)), (iv (bd)), bt, sz, cl) (A, K, ik, ph, tq, tn, bq, sq, cq)) : MI (S := Mc) E l yX5_image cX5_image 1 (some FieldType.int) (rmk 1 22) (wM E a (mm, kp, wa, (iv (ik)), fd, gf, tp, (iv (tn)), (iv (tk)), (iv (bg)), (iv (pt)), (iv (vl)), (iv (bd)), bt, sz, cl)) [.ref (a 0)] (fun r u => r = iv (1) ∧ RepM u (A, A, 1, ph, tq, tn, bq, sq, cq)) (fun u => wM E a u) := by
  refine goI (S := Mc) (post := fun r u => r = iv (1) ∧ RepM u (A, A, 1, ph, tq, tn, bq, sq, cq)) (ws' := fun u => wM E a u) (by decide) (Nat.le_of_ble_eq_true rfl) ?_
  intro pp e s m below meth c ls args Q ret X h hl
  have hl : lv_has ls 1 [(0, .ref (a 0))] := hl
  have hR : RM mm A := hS.1.1
  have hI : IA A := hS.1.2.1
  have hr9 : hr A ≤ 99999 := hS.1.2.2
  have hF : RF 7 fd ph := hS.2.2.1
  have hK := hS.2.1
  have hT := hS.2.2.2.1
  have hB := hS.2.2.2.2
  have hh : hr A < 1000000 := by omega
  have n8 := hI.n8
  have n0 := hI.n0
  have h0 := hI.h0
  have ht0 : 0 ≤ tn := hS.2.2.2.1.2.1
  have ht1 : tn ≤ 120 := hS.2.2.2.1.2.2.1
  have hk01 : ik = 0 ∨ ik = 1 := hS.2.1.2.1
  refine lv_aload_n X.1 X.2.1 dX5_image_0 rfl (lv_at hl 0 rfl) ?_
  refine z_get X h 4 0 0 rfl inX5 rfl (by decide) fl_X5_9 rfl dX5_image_1 ?_
  refine lv_aload_n X.1 X.2.1 dX5_image_4 rfl (lv_at hl 0 rfl) ?_
  refine z_get X h 4 0 1 rfl inX5 rfl (by decide) fl_X5_13 rfl dX5_image_5 ?_
  refine z_av h (run_S (rest := []) X h (c_X5_copyAll_m_kept) mi_X5_copyAll ml_X5_135 ⟨Nat.le_of_ble_eq_true rfl, Nat.le_of_ble_eq_true rfl⟩ ⟨rfl, rfl⟩ (Seg.rfl' _) rfl hl.1 rfl (Nat.le_of_ble_eq_true rfl) ⟨Nat.zero_le _, Nat.zero_le _⟩ dX5_image_8) (fun _ => rfl) (fun cp1 H locs hp1 h => ?_)
  have h : St E _ s H locs (wM E a (mm, cp1, wa, (iv (ik)), fd, gf, tp, (iv (tn)), (iv (tk)), (iv (bg)), (iv (pt)), (iv (vl)), (iv (bd)), bt, sz, cl)) := h
  refine lv_aload_n X.1 X.2.1 dX5_image_11 rfl (lv_at hl 0 rfl) ?_
  refine z_iconst X dX5_image_12 ?_
  refine z_put X h 4 0 3 rfl inX5 tyX5 tyX5_ok nmX5 rfl (by decide) fl_X5_228 rfl (by decide) (by decide) (Nat.le_of_ble_eq_true rfl) dX5_image_13 (fun H locs h => ?_)
  have h : St E _ s H locs (wM E a (mm, cp1, wa, (iv (1)), fd, gf, tp, (iv (tn)), (iv (tk)), (iv (bg)), (iv (pt)), (iv (vl)), (iv (bd)), bt, sz, cl)) := h
  refine z_iconst X dX5_image_16 ?_
  exact ret _ _ _ _ _ (mm, cp1, wa, (iv (1)), fd, gf, tp, (iv (tn)), (iv (tk)), (iv (bg)), (iv (pt)), (iv (vl)), (iv (bd)), bt, sz, cl) h ⟨rfl, ⟨hR, hI, hr9⟩, ⟨rfl, Or.inr rfl, fun _ => ⟨RM_eq hR hI.n8 hp1, hI, hr9⟩⟩, hF, hT, hB⟩ dX5_image_17

set_option maxHeartbeats 4000000 in
theorem c_X5_undo (hS : RepM (mm, kp, wa, (iv (ik)), fd, gf, tp, (iv (tn)), (iv (tk)), (iv (bg)), (iv (pt)), (iv (vl)), (iv (bd)), bt, sz, cl) (A, K, ik, ph, tq, tn, bq, sq, cq)) : MI (S := Mc) E l yX5_undo cX5_undo 1 (some FieldType.int) (rmk 1 22) (wM E a (mm, kp, wa, (iv (ik)), fd, gf, tp, (iv (tn)), (iv (tk)), (iv (bg)), (iv (pt)), (iv (vl)), (iv (bd)), bt, sz, cl)) [.ref (a 0)] (fun r u => r = iv ((q_undo A K ik ph).1) ∧ RepM u ((q_undo A K ik ph).2.1, K, ik, (q_undo A K ik ph).2.2, tq, tn, bq, sq, cq)) (fun u => wM E a u) := by
  refine goI (S := Mc) (post := fun r u => r = iv ((q_undo A K ik ph).1) ∧ RepM u ((q_undo A K ik ph).2.1, K, ik, (q_undo A K ik ph).2.2, tq, tn, bq, sq, cq)) (ws' := fun u => wM E a u) (by decide) (Nat.le_of_ble_eq_true rfl) ?_
  intro pp e s m below meth c ls args Q ret X h hl
  have hl : lv_has ls 1 [(0, .ref (a 0))] := hl
  have hR : RM mm A := hS.1.1
  have hI : IA A := hS.1.2.1
  have hr9 : hr A ≤ 99999 := hS.1.2.2
  have hF : RF 7 fd ph := hS.2.2.1
  have hK := hS.2.1
  have hT := hS.2.2.2.1
  have hB := hS.2.2.2.2
  have hh : hr A < 1000000 := by omega
  have n8 := hI.n8
  have n0 := hI.n0
  have h0 := hI.h0
  have hB1 : RF 4 bt bq := hS.2.2.2.2.1
  have hB2 : RF 4 sz sq := hS.2.2.2.2.2.1
  have hB3 : okB bq sq := hS.2.2.2.2.2.2.1
  have hB4 : CL cl cq := hS.2.2.2.2.2.2.2
  have ht0 : 0 ≤ tn := hS.2.2.2.1.2.1
  have ht1 : tn ≤ 120 := hS.2.2.2.1.2.2.1
  have hk01 : ik = 0 ∨ ik = 1 := hS.2.1.2.1
  refine lv_aload_n X.1 X.2.1 dX5_undo_0 rfl (lv_at hl 0 rfl) ?_
  refine z_get X h 4 0 3 rfl inX5 rfl (by decide) fl_X5_228 rfl dX5_undo_1 ?_
  refine z_if_ne (tgt := 14) X ⟨by omega, by omega⟩ dX5_undo_4 (by decide) (fun c_4 => ?_) (fun c_4 => ?_)
  · refine lv_aload_n X.1 X.2.1 dX5_undo_14 rfl (lv_at hl 0 rfl) ?_
    refine z_get X h 4 0 1 rfl inX5 rfl (by decide) fl_X5_13 rfl dX5_undo_15 ?_
    refine lv_aload_n X.1 X.2.1 dX5_undo_18 rfl (lv_at hl 0 rfl) ?_
    refine z_get X h 4 0 0 rfl inX5 rfl (by decide) fl_X5_9 rfl dX5_undo_19 ?_
    refine z_av h (run_S (rest := []) X h (c_X5_copyAll_kept_m) mi_X5_copyAll ml_X5_135 ⟨Nat.le_of_ble_eq_true rfl, Nat.le_of_ble_eq_true rfl⟩ ⟨rfl, rfl⟩ (Seg.rfl' _) rfl hl.1 rfl (Nat.le_of_ble_eq_true rfl) ⟨Nat.zero_le _, Nat.zero_le _⟩ dX5_undo_22) (fun _ => rfl) (fun cp1 H locs hp1 h => ?_)
    have h : St E _ s H locs (wM E a (cp1, kp, wa, (iv (ik)), fd, gf, tp, (iv (tn)), (iv (tk)), (iv (bg)), (iv (pt)), (iv (vl)), (iv (bd)), bt, sz, cl)) := h
    have hKE := hS.2.1.2.2 (show ik = 1 by omega)
    have hRk : RM cp1 K := RM_eq hKE.1 hKE.2.1.n8 hp1
    refine lv_aload_n X.1 X.2.1 dX5_undo_25 rfl (lv_at hl 0 rfl) ?_
    refine z_get X h 4 0 0 rfl inX5 rfl (by decide) fl_X5_9 rfl dX5_undo_26 ?_
    refine z_iconst X dX5_undo_29 ?_
    refine z_iald (v := pe K) X h 1 rfl (by omega) (by omega) (by decide) hRk.2.1 dX5_undo_30 ?_
    have e9 : q_undo A K ik ph = (pe K, K, ph) := by unfold q_undo; (repeat (first | rw [if_pos (by omega)] | rw [if_neg (by omega)])); try rfl
    exact ret _ _ _ _ _ (cp1, kp, wa, (iv (ik)), fd, gf, tp, (iv (tn)), (iv (tk)), (iv (bg)), (iv (pt)), (iv (vl)), (iv (bd)), bt, sz, cl) h (by rw [e9]; exact ⟨rfl, ⟨hRk, hKE.2.1, hKE.2.2⟩, hK, hF, hT, hB⟩) dX5_undo_31
  · refine lv_aload_n X.1 X.2.1 dX5_undo_7 rfl (lv_at hl 0 rfl) ?_
    refine z_ldc (z := (-1000000004)) X ct_X5_39 (by decide) dX5_undo_8 ?_
    refine z_ai h (run_V (rest := []) X h (c_X5_finds (k := 3) hF (by decide) (by decide) (by decide)) mi_X5_finds ml_X5_40 ⟨Nat.le_of_ble_eq_true rfl, Nat.le_of_ble_eq_true rfl⟩ ⟨rfl, rfl⟩ (Seg.rfl' _) 4 0 rfl rfl rfl rfl hl.1 rfl (Nat.le_of_ble_eq_true rfl) ⟨Nat.zero_le _, Nat.zero_le _⟩ dX5_undo_10) (fun _ => rfl) (fun r fd2 H locs hp h => ?_)
    obtain ⟨rfl, hF2⟩ := hp
    have h : St E _ s H locs (wM E a (mm, kp, wa, (iv (ik)), fd2, gf, tp, (iv (tn)), (iv (tk)), (iv (bg)), (iv (pt)), (iv (vl)), (iv (bd)), bt, sz, cl)) := h
    have e9 : q_undo A K ik ph = ((-1000000004), A, (bump ph 3)) := by unfold q_undo; (repeat (first | rw [if_pos (by omega)] | rw [if_neg (by omega)])); try rfl
    exact ret _ _ _ _ _ (mm, kp, wa, (iv (ik)), fd2, gf, tp, (iv (tn)), (iv (tk)), (iv (bg)), (iv (pt)), (iv (vl)), (iv (bd)), bt, sz, cl) h (by rw [e9]; exact ⟨rfl, ⟨hR, hI, hr9⟩, hK, hF2, hT, hB⟩) dX5_undo_13

set_option maxHeartbeats 4000000 in
theorem c_X5_tear (hS : RepM (mm, kp, wa, (iv (ik)), fd, gf, tp, (iv (tn)), (iv (tk)), (iv (bg)), (iv (pt)), (iv (vl)), (iv (bd)), bt, sz, cl) (A, K, ik, ph, tq, tn, bq, sq, cq)) : MI (S := Mc) E l yX5_tear cX5_tear 2 (some FieldType.int) (rmk 0 0) (wM E a (mm, kp, wa, (iv (ik)), fd, gf, tp, (iv (tn)), (iv (tk)), (iv (bg)), (iv (pt)), (iv (vl)), (iv (bd)), bt, sz, cl)) [.ref (a 0)] (fun r u => r = iv (ik) ∧ RepM u (A, K, 0, ph, tq, tn, bq, sq, cq)) (fun u => wM E a u) := by
  refine goI (S := Mc) (post := fun r u => r = iv (ik) ∧ RepM u (A, K, 0, ph, tq, tn, bq, sq, cq)) (ws' := fun u => wM E a u) (by decide) (Nat.le_of_ble_eq_true rfl) ?_
  intro pp e s m below meth c ls args Q ret X h hl
  have hl : lv_has ls 2 [(0, .ref (a 0))] := hl
  have hR : RM mm A := hS.1.1
  have hI : IA A := hS.1.2.1
  have hr9 : hr A ≤ 99999 := hS.1.2.2
  have hF : RF 7 fd ph := hS.2.2.1
  have hK := hS.2.1
  have hT := hS.2.2.2.1
  have hB := hS.2.2.2.2
  have hh : hr A < 1000000 := by omega
  have n8 := hI.n8
  have n0 := hI.n0
  have h0 := hI.h0
  have ht0 : 0 ≤ tn := hS.2.2.2.1.2.1
  have ht1 : tn ≤ 120 := hS.2.2.2.1.2.2.1
  have hk01 : ik = 0 ∨ ik = 1 := hS.2.1.2.1
  refine lv_aload_n X.1 X.2.1 dX5_tear_0 rfl (lv_at hl 0 rfl) ?_
  refine z_get X h 4 0 3 rfl inX5 rfl (by decide) fl_X5_228 rfl dX5_tear_1 ?_
  refine z_if_eq (tgt := 11) X ⟨by omega, by omega⟩ dX5_tear_4 (by decide) (fun c_4 => ?_) (fun c_4 => ?_)
  · refine z_iconst X dX5_tear_11 ?_
    refine lv_istore_n (lv' := [(1, .int (iv (0))), (0, .ref (a 0))]) X.1 X.2.1 dX5_tear_12 rfl hl (by decide) rfl (fun ls hl => ?_)
    refine lv_aload_n X.1 X.2.1 dX5_tear_13 rfl (lv_at hl 1 rfl) ?_
    refine z_iconst X dX5_tear_14 ?_
    refine z_put X h 4 0 3 rfl inX5 tyX5 tyX5_ok nmX5 rfl (by decide) fl_X5_228 rfl (by decide) (by decide) (Nat.le_of_ble_eq_true rfl) dX5_tear_15 (fun H locs h => ?_)
    have h : St E _ s H locs (wM E a (mm, kp, wa, (iv (0)), fd, gf, tp, (iv (tn)), (iv (tk)), (iv (bg)), (iv (pt)), (iv (vl)), (iv (bd)), bt, sz, cl)) := h
    refine lv_iload_n X.1 X.2.1 dX5_tear_18 rfl (lv_at hl 0 rfl) ?_
    exact ret _ _ _ _ _ (mm, kp, wa, (iv (0)), fd, gf, tp, (iv (tn)), (iv (tk)), (iv (bg)), (iv (pt)), (iv (vl)), (iv (bd)), bt, sz, cl) h ⟨congrArg iv (show (0 : Int) = ik by omega), ⟨hR, hI, hr9⟩, ⟨rfl, Or.inl rfl, fun q => absurd q (show ¬ (0 : Int) = 1 by decide)⟩, hF, hT, hB⟩ dX5_tear_19
  · refine z_iconst X dX5_tear_7 ?_
    refine lv_goto (tgt := 12) X.1 X.2.1 dX5_tear_8 (by decide) ?_
    refine lv_istore_n (lv' := [(1, .int (iv (1))), (0, .ref (a 0))]) X.1 X.2.1 dX5_tear_12 rfl hl (by decide) rfl (fun ls hl => ?_)
    refine lv_aload_n X.1 X.2.1 dX5_tear_13 rfl (lv_at hl 1 rfl) ?_
    refine z_iconst X dX5_tear_14 ?_
    refine z_put X h 4 0 3 rfl inX5 tyX5 tyX5_ok nmX5 rfl (by decide) fl_X5_228 rfl (by decide) (by decide) (Nat.le_of_ble_eq_true rfl) dX5_tear_15 (fun H locs h => ?_)
    have h : St E _ s H locs (wM E a (mm, kp, wa, (iv (0)), fd, gf, tp, (iv (tn)), (iv (tk)), (iv (bg)), (iv (pt)), (iv (vl)), (iv (bd)), bt, sz, cl)) := h
    refine lv_iload_n X.1 X.2.1 dX5_tear_18 rfl (lv_at hl 0 rfl) ?_
    exact ret _ _ _ _ _ (mm, kp, wa, (iv (0)), fd, gf, tp, (iv (tn)), (iv (tk)), (iv (bg)), (iv (pt)), (iv (vl)), (iv (bd)), bt, sz, cl) h ⟨congrArg iv (show (1 : Int) = ik by omega), ⟨hR, hI, hr9⟩, ⟨rfl, Or.inl rfl, fun q => absurd q (show ¬ (0 : Int) = 1 by decide)⟩, hF, hT, hB⟩ dX5_tear_19

set_option maxHeartbeats 4000000 in
theorem c_X5_count (hS : RepM (mm, kp, wa, (iv (ik)), fd, gf, tp, (iv (tn)), (iv (tk)), (iv (bg)), (iv (pt)), (iv (vl)), (iv (bd)), bt, sz, cl) (A, K, ik, ph, tq, tn, bq, sq, cq)) {w : Int} (r_w : r32 w) : MI (S := Mc) E l yX5_count cX5_count 2 (some FieldType.int) (rmk 3 65) (wM E a (mm, kp, wa, (iv (ik)), fd, gf, tp, (iv (tn)), (iv (tk)), (iv (bg)), (iv (pt)), (iv (vl)), (iv (bd)), bt, sz, cl)) [.ref (a 0), .int (iv (w))] (fun r u => r = iv ((q_count A tn ph w).1) ∧ RepM u (A, K, ik, (q_count A tn ph w).2, tq, tn, bq, sq, cq)) (fun u => wM E a u) := by
  refine goI (S := Mc) (post := fun r u => r = iv ((q_count A tn ph w).1) ∧ RepM u (A, K, ik, (q_count A tn ph w).2, tq, tn, bq, sq, cq)) (ws' := fun u => wM E a u) (by decide) (Nat.le_of_ble_eq_true rfl) ?_
  intro pp e s m below meth c ls args Q ret X h hl
  have hl : lv_has ls 2 [(0, .ref (a 0)), (1, .int (iv (w)))] := hl
  have hR : RM mm A := hS.1.1
  have hI : IA A := hS.1.2.1
  have hr9 : hr A ≤ 99999 := hS.1.2.2
  have hF : RF 7 fd ph := hS.2.2.1
  have hK := hS.2.1
  have hT := hS.2.2.2.1
  have hB := hS.2.2.2.2
  have hh : hr A < 1000000 := by omega
  have n8 := hI.n8
  have n0 := hI.n0
  have h0 := hI.h0
  have hB1 : RF 4 bt bq := hS.2.2.2.2.1
  have hB2 : RF 4 sz sq := hS.2.2.2.2.2.1
  have hB3 : okB bq sq := hS.2.2.2.2.2.2.1
  have hB4 : CL cl cq := hS.2.2.2.2.2.2.2
  have ht0 : 0 ≤ tn := hS.2.2.2.1.2.1
  have ht1 : tn ≤ 120 := hS.2.2.2.1.2.2.1
  have hk01 : ik = 0 ∨ ik = 1 := hS.2.1.2.1
  refine lv_iload_n X.1 X.2.1 dX5_count_0 rfl (lv_at hl 1 rfl) ?_
  rcases (show w = 0 ∨ w = 1 ∨ w = 2 ∨ w = 3 ∨ (w < 0 ∨ 3 < w) by omega) with c_1 | c_1 | c_1 | c_1 | c_1
  · refine z_tabIn (tgt := 32) X 0 c_1 ⟨by decide, by decide⟩ (by decide) (by decide) dX5_count_1 rfl (by decide) ?_
    refine lv_aload_n X.1 X.2.1 dX5_count_32 rfl (lv_at hl 0 rfl) ?_
    refine z_get X h 4 0 0 rfl inX5 rfl (by decide) fl_X5_9 rfl dX5_count_33 ?_
    refine z_iconst X dX5_count_36 ?_
    refine z_iald (v := pe A) X h 1 rfl (by omega) (by omega) (by decide) hR.2.1 dX5_count_37 ?_
    have e9 : q_count A tn ph w = (pe A, ph) := by unfold q_count; (repeat (first | rw [if_pos (by omega)] | rw [if_neg (by omega)])); try rfl
    exact ret _ _ _ _ _ (mm, kp, wa, (iv (ik)), fd, gf, tp, (iv (tn)), (iv (tk)), (iv (bg)), (iv (pt)), (iv (vl)), (iv (bd)), bt, sz, cl) h (by rw [e9]; exact ⟨rfl, ⟨hR, hI, hr9⟩, hK, hF, hT, hB⟩) dX5_count_38
  · refine z_tabIn (tgt := 39) X 1 c_1 ⟨by decide, by decide⟩ (by decide) (by decide) dX5_count_1 rfl (by decide) ?_
    refine lv_aload_n X.1 X.2.1 dX5_count_39 rfl (lv_at hl 0 rfl) ?_
    refine z_get X h 4 0 7 rfl inX5 rfl (by decide) fl_X5_154 rfl dX5_count_40 ?_
    have e9 : q_count A tn ph w = (tn, ph) := by unfold q_count; (repeat (first | rw [if_pos (by omega)] | rw [if_neg (by omega)])); try rfl
    exact ret _ _ _ _ _ (mm, kp, wa, (iv (ik)), fd, gf, tp, (iv (tn)), (iv (tk)), (iv (bg)), (iv (pt)), (iv (vl)), (iv (bd)), bt, sz, cl) h (by rw [e9]; exact ⟨rfl, ⟨hR, hI, hr9⟩, hK, hF, hT, hB⟩) dX5_count_43
  · refine z_tabIn (tgt := 44) X 2 c_1 ⟨by decide, by decide⟩ (by decide) (by decide) dX5_count_1 rfl (by decide) ?_
    refine lv_aload_n X.1 X.2.1 dX5_count_44 rfl (lv_at hl 0 rfl) ?_
    refine z_pi (run_V (rest := []) X h (c_X5_howManySit hR hI) mi_X5_howManySit ml_X5_231 ⟨Nat.le_of_ble_eq_true rfl, Nat.le_of_ble_eq_true rfl⟩ ⟨rfl, rfl⟩ (Seg.rfl' _) 4 0 rfl rfl rfl rfl hl.1 rfl (Nat.le_of_ble_eq_true rfl) ⟨Nat.zero_le _, Nat.zero_le _⟩ dX5_count_45) ?_
    have e9 : q_count A tn ph w = (cntS A, ph) := by unfold q_count; (repeat (first | rw [if_pos (by omega)] | rw [if_neg (by omega)])); try rfl
    exact ret _ _ _ _ _ (mm, kp, wa, (iv (ik)), fd, gf, tp, (iv (tn)), (iv (tk)), (iv (bg)), (iv (pt)), (iv (vl)), (iv (bd)), bt, sz, cl) h (by rw [e9]; exact ⟨rfl, ⟨hR, hI, hr9⟩, hK, hF, hT, hB⟩) dX5_count_48
  · refine z_tabIn (tgt := 49) X 3 c_1 ⟨by decide, by decide⟩ (by decide) (by decide) dX5_count_1 rfl (by decide) ?_
    refine lv_aload_n X.1 X.2.1 dX5_count_49 rfl (lv_at hl 0 rfl) ?_
    refine z_pi (run_V (rest := []) X h (c_X5_allSun hR hI) mi_X5_allSun ml_X5_234 ⟨Nat.le_of_ble_eq_true rfl, Nat.le_of_ble_eq_true rfl⟩ ⟨rfl, rfl⟩ (Seg.rfl' _) 4 0 rfl rfl rfl rfl hl.1 rfl (Nat.le_of_ble_eq_true rfl) ⟨Nat.zero_le _, Nat.zero_le _⟩ dX5_count_50) ?_
    have e9 : q_count A tn ph w = (allS A, ph) := by unfold q_count; (repeat (first | rw [if_pos (by omega)] | rw [if_neg (by omega)])); try rfl
    exact ret _ _ _ _ _ (mm, kp, wa, (iv (ik)), fd, gf, tp, (iv (tn)), (iv (tk)), (iv (bg)), (iv (pt)), (iv (vl)), (iv (bd)), bt, sz, cl) h (by rw [e9]; exact ⟨rfl, ⟨hR, hI, hr9⟩, hK, hF, hT, hB⟩) dX5_count_53
  · refine z_tabOut (tgt := 54) X r_w c_1 dX5_count_1 (by decide) ?_
    refine lv_aload_n X.1 X.2.1 dX5_count_54 rfl (lv_at hl 0 rfl) ?_
    refine z_ldc (z := (-1000000001)) X ct_X5_38 (by decide) dX5_count_55 ?_
    refine z_ai h (run_V (rest := []) X h (c_X5_finds (k := 0) hF (by decide) (by decide) (by decide)) mi_X5_finds ml_X5_40 ⟨Nat.le_of_ble_eq_true rfl, Nat.le_of_ble_eq_true rfl⟩ ⟨rfl, rfl⟩ (Seg.rfl' _) 4 0 rfl rfl rfl rfl hl.1 rfl (Nat.le_of_ble_eq_true rfl) ⟨Nat.zero_le _, Nat.zero_le _⟩ dX5_count_57) (fun _ => rfl) (fun r fd1 H locs hp h => ?_)
    obtain ⟨rfl, hF1⟩ := hp
    have h : St E _ s H locs (wM E a (mm, kp, wa, (iv (ik)), fd1, gf, tp, (iv (tn)), (iv (tk)), (iv (bg)), (iv (pt)), (iv (vl)), (iv (bd)), bt, sz, cl)) := h
    have e9 : q_count A tn ph w = ((-1000000001), (bump ph 0)) := by unfold q_count; (repeat (first | rw [if_pos (by omega)] | rw [if_neg (by omega)])); try rfl
    exact ret _ _ _ _ _ (mm, kp, wa, (iv (ik)), fd1, gf, tp, (iv (tn)), (iv (tk)), (iv (bg)), (iv (pt)), (iv (vl)), (iv (bd)), bt, sz, cl) h (by rw [e9]; exact ⟨rfl, ⟨hR, hI, hr9⟩, hK, hF1, hT, hB⟩) dX5_count_60

set_option maxHeartbeats 4000000 in
theorem c_X5_status (hS : RepM (mm, kp, wa, (iv (ik)), fd, gf, tp, (iv (tn)), (iv (tk)), (iv (bg)), (iv (pt)), (iv (vl)), (iv (bd)), bt, sz, cl) (A, K, ik, ph, tq, tn, bq, sq, cq)) {w : Int} (r_w : r32 w) : MI (S := Mc) E l yX5_status cX5_status 4 (some FieldType.int) (rmk 1 23) (wM E a (mm, kp, wa, (iv (ik)), fd, gf, tp, (iv (tn)), (iv (tk)), (iv (bg)), (iv (pt)), (iv (vl)), (iv (bd)), bt, sz, cl)) [.ref (a 0), .int (iv (w))] (fun r u => r = iv ((q_status ph w).1) ∧ RepM u (A, K, ik, (q_status ph w).2, tq, tn, bq, sq, cq)) (fun u => wM E a u) := by
  refine goI (S := Mc) (post := fun r u => r = iv ((q_status ph w).1) ∧ RepM u (A, K, ik, (q_status ph w).2, tq, tn, bq, sq, cq)) (ws' := fun u => wM E a u) (by decide) (Nat.le_of_ble_eq_true rfl) ?_
  intro pp e s m below meth c ls args Q ret X h hl
  have hl : lv_has ls 4 [(0, .ref (a 0)), (1, .int (iv (w)))] := hl
  have hR : RM mm A := hS.1.1
  have hI : IA A := hS.1.2.1
  have hr9 : hr A ≤ 99999 := hS.1.2.2
  have hF : RF 7 fd ph := hS.2.2.1
  have hK := hS.2.1
  have hT := hS.2.2.2.1
  have hB := hS.2.2.2.2
  have hh : hr A < 1000000 := by omega
  have n8 := hI.n8
  have n0 := hI.n0
  have h0 := hI.h0
  have hB1 : RF 4 bt bq := hS.2.2.2.2.1
  have hB2 : RF 4 sz sq := hS.2.2.2.2.2.1
  have hB3 : okB bq sq := hS.2.2.2.2.2.2.1
  have hB4 : CL cl cq := hS.2.2.2.2.2.2.2
  have ht0 : 0 ≤ tn := hS.2.2.2.1.2.1
  have ht1 : tn ≤ 120 := hS.2.2.2.1.2.2.1
  have hk01 : ik = 0 ∨ ik = 1 := hS.2.1.2.1
  refine lv_iload_n X.1 X.2.1 dX5_status_0 rfl (lv_at hl 1 rfl) ?_
  refine lv_i2l (v := (iv (w)).toInt64) X.1 X.2.1 dX5_status_1 rfl ?_
  refine z_iconst X dX5_status_2 ?_
  refine z_bipush X (by decide) dX5_status_3 ?_
  refine z_pi (run_S (rest := []) X h (c_inI r_w ⟨by decide, by decide⟩ ⟨by decide, by decide⟩) mi_X5_in ml_X5_44 ⟨Nat.le_of_ble_eq_true rfl, Nat.le_of_ble_eq_true rfl⟩ ⟨rfl, rfl⟩ (Seg.nil _) rfl hl.1 rfl (Nat.le_of_ble_eq_true rfl) ⟨Nat.zero_le _, Nat.zero_le _⟩ dX5_status_5) ?_
  refine z_ifb_ne (tgt := 18) X dX5_status_8 (by decide) (fun c_8 => ?_) (fun c_8 => ?_)
  · refine z_iconst X dX5_status_18 ?_
    refine lv_istore_n (lv' := [(2, .int (iv (0))), (0, .ref (a 0)), (1, .int (iv (w)))]) X.1 X.2.1 dX5_status_19 rfl hl (by decide) rfl (fun ls hl => ?_)
    refine z_iconst X dX5_status_20 ?_
    refine lv_istore_n (lv' := [(3, .int (iv (0))), (2, .int (iv (0))), (0, .ref (a 0)), (1, .int (iv (w)))]) X.1 X.2.1 dX5_status_21 rfl hl (by decide) rfl (fun ls hl => ?_)
    have L22 : ∀ (fuel_ : Nat) (i : Int) (k : Int), (0 ≤ i) → (i ≤ 7) → (k = stk ph w i.toNat) → 7 - i < (fuel_ : Int) → ∀ ls : Array Slot, lv_has ls 4 [(0, .ref (a 0)), (1, .int (iv (w))), (2, .int (iv (k))), (3, .int (iv (i)))] → W pp l e (rmk 1 23) s m args below meth c s.heap [] 0 0 Q (F0 m 22 ls []) := by
      intro fuel_
      induction fuel_ with
      | zero =>
        intro i k i0 i1 hk9 hn
        exfalso; omega
      | succ fuel_ ih =>
        intro i k i0 i1 hk9 hn ls hl
        refine lv_iload_n X.1 X.2.1 dX5_status_22 rfl (lv_at hl 3 rfl) ?_
        refine z_bipush X (by decide) dX5_status_23 ?_
        refine z_ic_ge (tgt := 56) X ⟨by omega, by omega⟩ ⟨by decide, by decide⟩ dX5_status_25 (by decide) (fun c_25 => ?_) (fun c_25 => ?_)
        · refine lv_iload_n X.1 X.2.1 dX5_status_56 rfl (lv_at hl 2 rfl) ?_
          have e9 : q_status ph w = (k, ph) := by unfold q_status; rw [if_neg (by omega), hk9, show i = 7 by omega]; rfl
          exact ret _ _ _ _ _ (mm, kp, wa, (iv (ik)), fd, gf, tp, (iv (tn)), (iv (tk)), (iv (bg)), (iv (pt)), (iv (vl)), (iv (bd)), bt, sz, cl) h (by rw [e9]; exact ⟨rfl, ⟨hR, hI, hr9⟩, hK, hF, hT, hB⟩) dX5_status_57
        · refine lv_iload_n X.1 X.2.1 dX5_status_28 rfl (lv_at hl 2 rfl) ?_
          refine lv_iload_n X.1 X.2.1 dX5_status_29 rfl (lv_at hl 1 rfl) ?_
          refine z_if_lt (tgt := 38) X r_w dX5_status_30 (by decide) (fun c_30 => ?_) (fun c_30 => ?_)
          · refine lv_aload_n X.1 X.2.1 dX5_status_38 rfl (lv_at hl 0 rfl) ?_
            refine z_get X h 4 0 4 rfl inX5 rfl (by decide) fl_X5_19 rfl dX5_status_39 ?_
            refine lv_iload_n X.1 X.2.1 dX5_status_42 rfl (lv_at hl 3 rfl) ?_
            refine z_iald (v := ph i) X h 4 rfl (by omega) (by omega) (by decide) (hF i (by omega) (by omega)) dX5_status_43 ?_
            refine lv_goto (tgt := 48) X.1 X.2.1 dX5_status_44 (by decide) ?_
            refine z_iadd X dX5_status_48 ?_
            refine lv_istore_n (lv' := [(2, .int (iv (k + (ph i)))), (0, .ref (a 0)), (1, .int (iv (w))), (3, .int (iv (i)))]) X.1 X.2.1 dX5_status_49 rfl hl (by decide) rfl (fun ls hl => ?_)
            refine z_iinc (k := 3) (lv' := [(3, .int (iv (i + 1))), (2, .int (iv (k + (ph i)))), (0, .ref (a 0)), (1, .int (iv (w)))]) X dX5_status_50 hl rfl (by decide) rfl (fun ls hl => ?_)
            refine lv_goto (tgt := 22) X.1 X.2.1 dX5_status_53 (by decide) ?_
            exact ih (i + 1) (k + (ph i)) (by omega) (by omega) (by rw [tn1 i0, stk, tnc i0, hk9]; first | rw [if_pos (by omega)] | rw [if_neg (by omega)]) (by omega) ls (lv_sub hl [2, 3, 1, 0] rfl)
          · refine lv_iload_n X.1 X.2.1 dX5_status_33 rfl (lv_at hl 1 rfl) ?_
            refine lv_iload_n X.1 X.2.1 dX5_status_34 rfl (lv_at hl 3 rfl) ?_
            refine z_ic_ne (tgt := 47) X r_w ⟨by omega, by omega⟩ dX5_status_35 (by decide) (fun c_35 => ?_) (fun c_35 => ?_)
            · refine z_iconst X dX5_status_47 ?_
              refine z_iadd X dX5_status_48 ?_
              refine lv_istore_n (lv' := [(2, .int (iv (k + 0))), (0, .ref (a 0)), (1, .int (iv (w))), (3, .int (iv (i)))]) X.1 X.2.1 dX5_status_49 rfl hl (by decide) rfl (fun ls hl => ?_)
              refine z_iinc (k := 3) (lv' := [(3, .int (iv (i + 1))), (2, .int (iv (k + 0))), (0, .ref (a 0)), (1, .int (iv (w)))]) X dX5_status_50 hl rfl (by decide) rfl (fun ls hl => ?_)
              refine lv_goto (tgt := 22) X.1 X.2.1 dX5_status_53 (by decide) ?_
              exact ih (i + 1) (k + 0) (by omega) (by omega) (by rw [tn1 i0, stk, tnc i0, hk9]; first | rw [if_pos (by omega)] | rw [if_neg (by omega)]) (by omega) ls (lv_sub hl [2, 3, 1, 0] rfl)
            · refine lv_aload_n X.1 X.2.1 dX5_status_38 rfl (lv_at hl 0 rfl) ?_
              refine z_get X h 4 0 4 rfl inX5 rfl (by decide) fl_X5_19 rfl dX5_status_39 ?_
              refine lv_iload_n X.1 X.2.1 dX5_status_42 rfl (lv_at hl 3 rfl) ?_
              refine z_iald (v := ph i) X h 4 rfl (by omega) (by omega) (by decide) (hF i (by omega) (by omega)) dX5_status_43 ?_
              refine lv_goto (tgt := 48) X.1 X.2.1 dX5_status_44 (by decide) ?_
              refine z_iadd X dX5_status_48 ?_
              refine lv_istore_n (lv' := [(2, .int (iv (k + (ph i)))), (0, .ref (a 0)), (1, .int (iv (w))), (3, .int (iv (i)))]) X.1 X.2.1 dX5_status_49 rfl hl (by decide) rfl (fun ls hl => ?_)
              refine z_iinc (k := 3) (lv' := [(3, .int (iv (i + 1))), (2, .int (iv (k + (ph i)))), (0, .ref (a 0)), (1, .int (iv (w)))]) X dX5_status_50 hl rfl (by decide) rfl (fun ls hl => ?_)
              refine lv_goto (tgt := 22) X.1 X.2.1 dX5_status_53 (by decide) ?_
              exact ih (i + 1) (k + (ph i)) (by omega) (by omega) (by rw [tn1 i0, stk, tnc i0, hk9]; first | rw [if_pos (by omega)] | rw [if_neg (by omega)]) (by omega) ls (lv_sub hl [2, 3, 1, 0] rfl)
    exact L22 ((7 - (0) : Int).toNat + 1) (0) (0) (by omega) (by omega) (rfl) (by omega) ls (lv_sub hl [2, 3, 1, 0] rfl)
  · refine lv_aload_n X.1 X.2.1 dX5_status_11 rfl (lv_at hl 0 rfl) ?_
    refine z_ldc (z := (-1000000001)) X ct_X5_38 (by decide) dX5_status_12 ?_
    refine z_ai h (run_V (rest := []) X h (c_X5_finds (k := 0) hF (by decide) (by decide) (by decide)) mi_X5_finds ml_X5_40 ⟨Nat.le_of_ble_eq_true rfl, Nat.le_of_ble_eq_true rfl⟩ ⟨rfl, rfl⟩ (Seg.rfl' _) 4 0 rfl rfl rfl rfl hl.1 rfl (Nat.le_of_ble_eq_true rfl) ⟨Nat.zero_le _, Nat.zero_le _⟩ dX5_status_14) (fun _ => rfl) (fun r fd1 H locs hp h => ?_)
    obtain ⟨rfl, hF1⟩ := hp
    have h : St E _ s H locs (wM E a (mm, kp, wa, (iv (ik)), fd1, gf, tp, (iv (tn)), (iv (tk)), (iv (bg)), (iv (pt)), (iv (vl)), (iv (bd)), bt, sz, cl)) := h
    have e9 : q_status ph w = ((-1000000001), (bump ph 0)) := by unfold q_status; (repeat (first | rw [if_pos (by omega)] | rw [if_neg (by omega)])); try rfl
    exact ret _ _ _ _ _ (mm, kp, wa, (iv (ik)), fd1, gf, tp, (iv (tn)), (iv (tk)), (iv (bg)), (iv (pt)), (iv (vl)), (iv (bd)), bt, sz, cl) h (by rw [e9]; exact ⟨rfl, ⟨hR, hI, hr9⟩, hK, hF1, hT, hB⟩) dX5_status_17

set_option maxHeartbeats 4000000 in
theorem c_X5_feed (hS : RepM (mm, kp, wa, (iv (ik)), fd, gf, tp, (iv (tn)), (iv (tk)), (iv (bg)), (iv (pt)), (iv (vl)), (iv (bd)), bt, sz, cl) (A, K, ik, ph, tq, tn, bq, sq, cq)) {b : Int} (r_b : r32 b) {n : Int} (r_n : r32 n) : MI (S := Mc) E l yX5_feed cX5_feed 4 (some FieldType.int) (rmk 1 23) (wM E a (mm, kp, wa, (iv (ik)), fd, gf, tp, (iv (tn)), (iv (tk)), (iv (bg)), (iv (pt)), (iv (vl)), (iv (bd)), bt, sz, cl)) [.ref (a 0), .int (iv (b)), .int (iv (n))] (fun r u => r = iv ((q_feed tq tn ph b n).1) ∧ RepM u (A, K, ik, (q_feed tq tn ph b n).2.2.2, (q_feed tq tn ph b n).2.1, (q_feed tq tn ph b n).2.2.1, bq, sq, cq)) (fun u => wM E a u) := by
  refine goI (S := Mc) (post := fun r u => r = iv ((q_feed tq tn ph b n).1) ∧ RepM u (A, K, ik, (q_feed tq tn ph b n).2.2.2, (q_feed tq tn ph b n).2.1, (q_feed tq tn ph b n).2.2.1, bq, sq, cq)) (ws' := fun u => wM E a u) (by decide) (Nat.le_of_ble_eq_true rfl) ?_
  intro pp e s m below meth c ls args Q ret X h hl
  have hl : lv_has ls 4 [(0, .ref (a 0)), (1, .int (iv (b))), (2, .int (iv (n)))] := hl
  have hR : RM mm A := hS.1.1
  have hI : IA A := hS.1.2.1
  have hr9 : hr A ≤ 99999 := hS.1.2.2
  have hF : RF 7 fd ph := hS.2.2.1
  have hK := hS.2.1
  have hT := hS.2.2.2.1
  have hB := hS.2.2.2.2
  have hh : hr A < 1000000 := by omega
  have n8 := hI.n8
  have n0 := hI.n0
  have h0 := hI.h0
  have hB1 : RF 4 bt bq := hS.2.2.2.2.1
  have hB2 : RF 4 sz sq := hS.2.2.2.2.2.1
  have hB3 : okB bq sq := hS.2.2.2.2.2.2.1
  have hB4 : CL cl cq := hS.2.2.2.2.2.2.2
  have ht0 : 0 ≤ tn := hS.2.2.2.1.2.1
  have ht1 : tn ≤ 120 := hS.2.2.2.1.2.2.1
  have hk01 : ik = 0 ∨ ik = 1 := hS.2.1.2.1
  refine lv_iload_n X.1 X.2.1 dX5_feed_0 rfl (lv_at hl 2 rfl) ?_
  refine lv_i2l (v := (iv (n)).toInt64) X.1 X.2.1 dX5_feed_1 rfl ?_
  refine z_iconst X dX5_feed_2 ?_
  refine z_iconst X dX5_feed_3 ?_
  refine z_pi (run_S (rest := []) X h (c_inI r_n ⟨by decide, by decide⟩ ⟨by decide, by decide⟩) mi_X5_in ml_X5_44 ⟨Nat.le_of_ble_eq_true rfl, Nat.le_of_ble_eq_true rfl⟩ ⟨rfl, rfl⟩ (Seg.nil _) rfl hl.1 rfl (Nat.le_of_ble_eq_true rfl) ⟨Nat.zero_le _, Nat.zero_le _⟩ dX5_feed_4) ?_
  refine z_ifb_ne (tgt := 17) X dX5_feed_7 (by decide) (fun c_7 => ?_) (fun c_7 => ?_)
  · refine lv_aload_n X.1 X.2.1 dX5_feed_17 rfl (lv_at hl 0 rfl) ?_
    refine z_get X h 4 0 7 rfl inX5 rfl (by decide) fl_X5_154 rfl dX5_feed_18 ?_
    refine lv_iload_n X.1 X.2.1 dX5_feed_21 rfl (lv_at hl 2 rfl) ?_
    refine z_iadd X dX5_feed_22 ?_
    refine z_bipush X (by decide) dX5_feed_23 ?_
    refine z_ic_le (tgt := 35) X ⟨by omega, by omega⟩ ⟨by decide, by decide⟩ dX5_feed_25 (by decide) (fun c_25 => ?_) (fun c_25 => ?_)
    · refine lv_iload_n X.1 X.2.1 dX5_feed_35 rfl (lv_at hl 2 rfl) ?_
      refine z_iconst X dX5_feed_36 ?_
      refine z_isub X dX5_feed_37 ?_
      refine lv_istore_n (lv' := [(3, .int (iv (n - 1))), (0, .ref (a 0)), (1, .int (iv (b))), (2, .int (iv (n)))]) X.1 X.2.1 dX5_feed_38 rfl hl (by decide) rfl (fun ls hl => ?_)
      have L39 : ∀ (fuel_ : Nat) (k : Int) (t : Int) (tv : Nat → Int32), (-1 ≤ k) → (k < n) → (t = tn + (n - 1 - k)) → (∀ i : Int, 0 ≤ i → i < t → tv i.toNat = iv (fedq tq tn b n i) ∧ 0 ≤ fedq tq tn b n i ∧ fedq tq tn b n i ≤ 255) → k + 1 < (fuel_ : Int) → ∀ (H : Heap) (locs : List Loc), St E (wM E a (mm, kp, wa, (iv (ik)), fd, gf, tp, (iv (tn)), (iv (tk)), (iv (bg)), (iv (pt)), (iv (vl)), (iv (bd)), bt, sz, cl)) s H locs (wM E a (mm, kp, wa, (iv (ik)), fd, gf, tv, (iv (t)), (iv (tk)), (iv (bg)), (iv (pt)), (iv (vl)), (iv (bd)), bt, sz, cl)) → ∀ ls : Array Slot, lv_has ls 4 [(0, .ref (a 0)), (1, .int (iv (b))), (2, .int (iv (n))), (3, .int (iv (k)))] → W pp l e (rmk 1 23) s m args below meth c H locs 0 0 Q (F0 m 39 ls []) := by
        intro fuel_
        induction fuel_ with
        | zero =>
          intro k t tv k0 k1 ht hv hn
          exfalso; omega
        | succ fuel_ ih =>
          intro k t tv k0 k1 ht hv hn H locs h ls hl
          refine lv_iload_n X.1 X.2.1 dX5_feed_39 rfl (lv_at hl 3 rfl) ?_
          refine z_if_lt (tgt := 78) X ⟨by omega, by omega⟩ dX5_feed_40 (by decide) (fun c_40 => ?_) (fun c_40 => ?_)
          · have et : t = tn + n := by omega
            subst et
            have h : St E _ s H locs (wM E a (mm, kp, wa, (iv (ik)), fd, gf, tv, (iv (tn + n)), (iv (tk)), (iv (bg)), (iv (pt)), (iv (vl)), (iv (bd)), bt, sz, cl)) := h
            refine lv_aload_n X.1 X.2.1 dX5_feed_78 rfl (lv_at hl 0 rfl) ?_
            refine z_get X h 4 0 7 rfl inX5 rfl (by decide) fl_X5_154 rfl dX5_feed_79 ?_
            have e9 : q_feed tq tn ph b n = (tn + n, (fedq tq tn b n), (tn + n), ph) := by unfold q_feed; (repeat (first | rw [if_pos (by omega)] | rw [if_neg (by omega)])); try rfl
            exact ret _ _ _ _ _ (mm, kp, wa, (iv (ik)), fd, gf, tv, (iv (tn + n)), (iv (tk)), (iv (bg)), (iv (pt)), (iv (vl)), (iv (bd)), bt, sz, cl) h (by rw [e9]; exact ⟨rfl, ⟨hR, hI, hr9⟩, hK, hF, ⟨rfl, (show 0 ≤ tn + n by omega), (show tn + n ≤ 120 by omega), hv⟩, hB⟩) dX5_feed_82
          · refine lv_aload_n X.1 X.2.1 dX5_feed_43 rfl (lv_at hl 0 rfl) ?_
            refine z_get X h 4 0 6 rfl inX5 rfl (by decide) fl_X5_25 rfl dX5_feed_44 ?_
            refine lv_aload_n X.1 X.2.1 dX5_feed_47 rfl (lv_at hl 0 rfl) ?_
            refine z_get X h 4 0 7 rfl inX5 rfl (by decide) fl_X5_154 rfl dX5_feed_48 ?_
            refine lv_iload_n X.1 X.2.1 dX5_feed_51 rfl (lv_at hl 1 rfl) ?_
            refine z_bipush X (by decide) dX5_feed_52 ?_
            refine lv_iload_n X.1 X.2.1 dX5_feed_54 rfl (lv_at hl 3 rfl) ?_
            refine z_imul X dX5_feed_55 ?_
            refine lv_ishr X.1 X.2.1 dX5_feed_56 ?_
            refine z_sipush X (by decide) dX5_feed_57 ?_
            refine lv_iand X.1 X.2.1 dX5_feed_60 ?_
            refine W.eq (g2 := F0 m 61 ls [.int (iv (byt b k)), .int (iv (t)), .ref (a 6)]) (by rw [byt_shr r_b k (by omega) (by omega)]) ?_
            refine z_iast X h 6 rfl (by omega) (by omega) (by decide) dX5_feed_61 (fun H locs h => ?_)
            have h : St E _ s H locs (wM E a (mm, kp, wa, (iv (ik)), fd, gf, (upd tv (t : Int).toNat (iv (byt b k))), (iv (t)), (iv (tk)), (iv (bg)), (iv (pt)), (iv (vl)), (iv (bd)), bt, sz, cl)) := h
            refine lv_aload_n X.1 X.2.1 dX5_feed_62 rfl (lv_at hl 0 rfl) ?_
            refine lv_dup X.1 X.2.1 dX5_feed_63 rfl ?_
            refine z_get X h 4 0 7 rfl inX5 rfl (by decide) fl_X5_154 rfl dX5_feed_64 ?_
            refine z_iconst X dX5_feed_67 ?_
            refine z_iadd X dX5_feed_68 ?_
            refine z_put X h 4 0 7 rfl inX5 tyX5 tyX5_ok nmX5 rfl (by decide) fl_X5_154 rfl rfl rfl (Nat.le_of_ble_eq_true rfl) dX5_feed_69 (fun H locs h => ?_)
            have h : St E _ s H locs (wM E a (mm, kp, wa, (iv (ik)), fd, gf, (upd tv (t : Int).toNat (iv (byt b k))), (iv (t + 1)), (iv (tk)), (iv (bg)), (iv (pt)), (iv (vl)), (iv (bd)), bt, sz, cl)) := h
            refine z_iinc (k := 3) (lv' := [(3, .int (iv (k + (-1)))), (0, .ref (a 0)), (1, .int (iv (b))), (2, .int (iv (n)))]) X dX5_feed_72 hl rfl (by decide) rfl (fun ls hl => ?_)
            refine lv_goto (tgt := 39) X.1 X.2.1 dX5_feed_75 (by decide) ?_
            exact ih (k + (-1)) (t + 1) ((upd tv (t : Int).toNat (iv (byt b k)))) (by omega) (by omega) (by omega) (fun i i0 i1 => by
                                        by_cases e : i = t
                                        · subst e; rw [upd_eq]; unfold fedq; rw [if_pos (by omega), show n - 1 - (i - tn) = k by omega]; exact ⟨rfl, byt_rng b k⟩
                                        · rw [upd_ne (by omega)]; exact hv i i0 (by omega)) (by omega) _ _ h ls (lv_sub hl [1, 2, 3, 0] rfl)
      exact L39 (((n - 1) + 1 : Int).toNat + 1) (n - 1) (tn) (tp) (by omega) (by omega) (by omega) (fun i i0 i1 => by unfold fedq; rw [if_neg (by omega)]; exact hS.2.2.2.1.2.2.2 i i0 i1) (by omega) _ _ h ls (lv_sub hl [1, 2, 3, 0] rfl)
    · refine lv_aload_n X.1 X.2.1 dX5_feed_28 rfl (lv_at hl 0 rfl) ?_
      refine z_ldc (z := (-1000000002)) X ct_X5_95 (by decide) dX5_feed_29 ?_
      refine z_ai h (run_V (rest := []) X h (c_X5_finds (k := 1) hF (by decide) (by decide) (by decide)) mi_X5_finds ml_X5_40 ⟨Nat.le_of_ble_eq_true rfl, Nat.le_of_ble_eq_true rfl⟩ ⟨rfl, rfl⟩ (Seg.rfl' _) 4 0 rfl rfl rfl rfl hl.1 rfl (Nat.le_of_ble_eq_true rfl) ⟨Nat.zero_le _, Nat.zero_le _⟩ dX5_feed_31) (fun _ => rfl) (fun r fd1 H locs hp h => ?_)
      obtain ⟨rfl, hF1⟩ := hp
      have h : St E _ s H locs (wM E a (mm, kp, wa, (iv (ik)), fd1, gf, tp, (iv (tn)), (iv (tk)), (iv (bg)), (iv (pt)), (iv (vl)), (iv (bd)), bt, sz, cl)) := h
      have e9 : q_feed tq tn ph b n = ((-1000000002), tq, tn, (bump ph 1)) := by unfold q_feed; (repeat (first | rw [if_pos (by omega)] | rw [if_neg (by omega)])); try rfl
      exact ret _ _ _ _ _ (mm, kp, wa, (iv (ik)), fd1, gf, tp, (iv (tn)), (iv (tk)), (iv (bg)), (iv (pt)), (iv (vl)), (iv (bd)), bt, sz, cl) h (by rw [e9]; exact ⟨rfl, ⟨hR, hI, hr9⟩, hK, hF1, hT, hB⟩) dX5_feed_34
  · refine lv_aload_n X.1 X.2.1 dX5_feed_10 rfl (lv_at hl 0 rfl) ?_
    refine z_ldc (z := (-1000000001)) X ct_X5_38 (by decide) dX5_feed_11 ?_
    refine z_ai h (run_V (rest := []) X h (c_X5_finds (k := 0) hF (by decide) (by decide) (by decide)) mi_X5_finds ml_X5_40 ⟨Nat.le_of_ble_eq_true rfl, Nat.le_of_ble_eq_true rfl⟩ ⟨rfl, rfl⟩ (Seg.rfl' _) 4 0 rfl rfl rfl rfl hl.1 rfl (Nat.le_of_ble_eq_true rfl) ⟨Nat.zero_le _, Nat.zero_le _⟩ dX5_feed_13) (fun _ => rfl) (fun r fd2 H locs hp h => ?_)
    obtain ⟨rfl, hF2⟩ := hp
    have h : St E _ s H locs (wM E a (mm, kp, wa, (iv (ik)), fd2, gf, tp, (iv (tn)), (iv (tk)), (iv (bg)), (iv (pt)), (iv (vl)), (iv (bd)), bt, sz, cl)) := h
    have e9 : q_feed tq tn ph b n = ((-1000000001), tq, tn, (bump ph 0)) := by unfold q_feed; (repeat (first | rw [if_pos (by omega)] | rw [if_neg (by omega)])); try rfl
    exact ret _ _ _ _ _ (mm, kp, wa, (iv (ik)), fd2, gf, tp, (iv (tn)), (iv (tk)), (iv (bg)), (iv (pt)), (iv (vl)), (iv (bd)), bt, sz, cl) h (by rw [e9]; exact ⟨rfl, ⟨hR, hI, hr9⟩, hK, hF2, hT, hB⟩) dX5_feed_16

set_option maxHeartbeats 4000000 in
theorem c_X5_wipe (hS : RepM (mm, kp, wa, (iv (ik)), fd, gf, tp, (iv (tn)), (iv (tk)), (iv (bg)), (iv (pt)), (iv (vl)), (iv (bd)), bt, sz, cl) (A, K, ik, ph, tq, tn, bq, sq, cq)) : MI (S := Mc) E l yX5_wipe cX5_wipe 2 (some FieldType.int) (rmk 0 0) (wM E a (mm, kp, wa, (iv (ik)), fd, gf, tp, (iv (tn)), (iv (tk)), (iv (bg)), (iv (pt)), (iv (vl)), (iv (bd)), bt, sz, cl)) [.ref (a 0)] (fun r u => r = iv (tn) ∧ RepM u (A, K, ik, ph, tq, 0, bq, sq, cq)) (fun u => wM E a u) := by
  refine goI (S := Mc) (post := fun r u => r = iv (tn) ∧ RepM u (A, K, ik, ph, tq, 0, bq, sq, cq)) (ws' := fun u => wM E a u) (by decide) (Nat.le_of_ble_eq_true rfl) ?_
  intro pp e s m below meth c ls args Q ret X h hl
  have hl : lv_has ls 2 [(0, .ref (a 0))] := hl
  have hR : RM mm A := hS.1.1
  have hI : IA A := hS.1.2.1
  have hr9 : hr A ≤ 99999 := hS.1.2.2
  have hF : RF 7 fd ph := hS.2.2.1
  have hK := hS.2.1
  have hT := hS.2.2.2.1
  have hB := hS.2.2.2.2
  have hh : hr A < 1000000 := by omega
  have n8 := hI.n8
  have n0 := hI.n0
  have h0 := hI.h0
  have ht0 : 0 ≤ tn := hS.2.2.2.1.2.1
  have ht1 : tn ≤ 120 := hS.2.2.2.1.2.2.1
  have hk01 : ik = 0 ∨ ik = 1 := hS.2.1.2.1
  refine lv_aload_n X.1 X.2.1 dX5_wipe_0 rfl (lv_at hl 0 rfl) ?_
  refine z_get X h 4 0 7 rfl inX5 rfl (by decide) fl_X5_154 rfl dX5_wipe_1 ?_
  refine lv_istore_n (lv' := [(1, .int (iv (tn))), (0, .ref (a 0))]) X.1 X.2.1 dX5_wipe_4 rfl hl (by decide) rfl (fun ls hl => ?_)
  refine lv_aload_n X.1 X.2.1 dX5_wipe_5 rfl (lv_at hl 1 rfl) ?_
  refine z_iconst X dX5_wipe_6 ?_
  refine z_put X h 4 0 7 rfl inX5 tyX5 tyX5_ok nmX5 rfl (by decide) fl_X5_154 rfl rfl rfl (Nat.le_of_ble_eq_true rfl) dX5_wipe_7 (fun H locs h => ?_)
  have h : St E _ s H locs (wM E a (mm, kp, wa, (iv (ik)), fd, gf, tp, (iv (0)), (iv (tk)), (iv (bg)), (iv (pt)), (iv (vl)), (iv (bd)), bt, sz, cl)) := h
  refine lv_iload_n X.1 X.2.1 dX5_wipe_10 rfl (lv_at hl 0 rfl) ?_
  exact ret _ _ _ _ _ (mm, kp, wa, (iv (ik)), fd, gf, tp, (iv (0)), (iv (tk)), (iv (bg)), (iv (pt)), (iv (vl)), (iv (bd)), bt, sz, cl) h ⟨rfl, ⟨hR, hI, hr9⟩, hK, hF, ⟨rfl, (show (0 : Int) ≤ 0 by omega), (show (0 : Int) ≤ 120 by omega), fun i i0 i1 => absurd i1 (show ¬ i < 0 by omega)⟩, hB⟩ dX5_wipe_11
