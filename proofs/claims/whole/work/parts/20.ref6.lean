variable {E : EV} {l : Launch} {a : Nat → Nat} {mm kp wa fd gf tp bt sz : Nat → Int32} {cl : Nat → Int64} {ik tn tk bg pt vl bd : Int} {A : Es} {K : Es} {ph tq bq sq : Int → Int} {cq : Int → Int → Int64}
set_option maxHeartbeats 4000000 in
theorem c_X5_where (hS : RepM (mm, kp, wa, (iv (ik)), fd, gf, tp, (iv (tn)), (iv (tk)), (iv (bg)), (iv (pt)), (iv (vl)), (iv (bd)), bt, sz, cl) (A, K, ik, ph, tq, tn, bq, sq, cq)) {x : Int} (r_x : r32 x) {n : Int} (r_n : r32 n) : MI (S := Mc) E l yX5_where cX5_where 7 (some FieldType.int) (rmk 8 179) (wM E a (mm, kp, wa, (iv (ik)), fd, gf, tp, (iv (tn)), (iv (tk)), (iv (bg)), (iv (pt)), (iv (vl)), (iv (bd)), bt, sz, cl)) [.ref (a 0), .int (iv (x)), .int (iv (n))] (fun r u => r = iv (q_where A ph x n).1 ∧ RepM u ((q_where A ph x n).2.1, K, ik, (q_where A ph x n).2.2, tq, tn, bq, sq, cq)) (fun u => wM E a u) := by
  refine goI (S := Mc) (post := fun r u => r = iv (q_where A ph x n).1 ∧ RepM u ((q_where A ph x n).2.1, K, ik, (q_where A ph x n).2.2, tq, tn, bq, sq, cq)) (ws' := fun u => wM E a u) (by decide) (Nat.le_of_ble_eq_true rfl) ?_
  intro pp e s m below meth c ls args Q ret X h hl
  have hl : lv_has ls 7 [(0, .ref (a 0)), (1, .int (iv (x))), (2, .int (iv (n)))] := hl
  have hR : RM mm A := hS.1.1
  have hI : IA A := hS.1.2.1
  have hr9 : hr A ≤ 99999 := hS.1.2.2
  have hF : RF 7 fd ph := hS.2.2.1
  have hK := hS.2.1
  have hT := hS.2.2.2.1
  have hB := hS.2.2.2.2
  have hh : hr A < 1000000 := by omega
  have n8 := hI.n8
  have n0 := hI.n0
  have h0 := hI.h0
  refine lv_aload_n X.1 X.2.1 dX5_where_0 rfl (lv_at hl 0 rfl) ?_
  refine lv_iload_n X.1 X.2.1 dX5_where_1 rfl (lv_at hl 1 rfl) ?_
  refine z_pi (run_V (rest := []) X h (c_X5_isPerson (p := x) hR hI r_x) mi_X5_isPerson ml_X5_48 ⟨Nat.le_of_ble_eq_true rfl, Nat.le_of_ble_eq_true rfl⟩ ⟨rfl, rfl⟩ (Seg.rfl' _) 4 0 rfl rfl rfl rfl hl.1 rfl (Nat.le_of_ble_eq_true rfl) ⟨Nat.zero_le _, Nat.zero_le _⟩ dX5_where_2) ?_
  refine z_ifb_eq (tgt := 19) X dX5_where_5 (by decide) (fun c_5 => ?_) (fun c_5 => ?_)
  · refine lv_aload_n X.1 X.2.1 dX5_where_19 rfl (lv_at hl 0 rfl) ?_
    refine z_ldc (z := (-1000000001)) X ct_X5_38 (by decide) dX5_where_20 ?_
    refine z_ai h (run_V (rest := []) X h (c_X5_finds (k := 0) hF (by decide) (by decide) (by decide)) mi_X5_finds ml_X5_40 ⟨Nat.le_of_ble_eq_true rfl, Nat.le_of_ble_eq_true rfl⟩ ⟨rfl, rfl⟩ (Seg.rfl' _) 4 0 rfl rfl rfl rfl hl.1 rfl (Nat.le_of_ble_eq_true rfl) ⟨Nat.zero_le _, Nat.zero_le _⟩ dX5_where_22) (fun _ => rfl) (fun r fd1 H locs hp h => ?_)
    obtain ⟨rfl, hF1⟩ := hp
    have h : St E _ s H locs (wM E a (mm, kp, wa, (iv (ik)), fd1, gf, tp, (iv (tn)), (iv (tk)), (iv (bg)), (iv (pt)), (iv (vl)), (iv (bd)), bt, sz, cl)) := h
    have e9 : q_where A ph x n = ((-1000000001), A, (bump ph 0)) := by unfold q_where; (repeat (first | rw [if_pos (by omega)] | rw [if_neg (by omega)])); try rfl
    exact ret _ _ _ _ _ (mm, kp, wa, (iv (ik)), fd1, gf, tp, (iv (tn)), (iv (tk)), (iv (bg)), (iv (pt)), (iv (vl)), (iv (bd)), bt, sz, cl) h (by rw [e9]; exact ⟨rfl, ⟨hR, hI, hr9⟩, hK, hF1, hT, hB⟩) dX5_where_25
  · refine lv_iload_n X.1 X.2.1 dX5_where_8 rfl (lv_at hl 2 rfl) ?_
    refine lv_i2l (v := (iv (n)).toInt64) X.1 X.2.1 dX5_where_9 rfl ?_
    refine z_iconst X dX5_where_10 ?_
    refine z_bipush X (by decide) dX5_where_11 ?_
    refine z_pi (run_S (rest := []) X h (c_inI r_n ⟨by decide, by decide⟩ ⟨by decide, by decide⟩) mi_X5_in ml_X5_44 ⟨Nat.le_of_ble_eq_true rfl, Nat.le_of_ble_eq_true rfl⟩ ⟨rfl, rfl⟩ (Seg.nil _) rfl hl.1 rfl (Nat.le_of_ble_eq_true rfl) ⟨Nat.zero_le _, Nat.zero_le _⟩ dX5_where_13) ?_
    refine z_ifb_ne (tgt := 26) X dX5_where_16 (by decide) (fun c_16 => ?_) (fun c_16 => ?_)
    · refine lv_aload_n X.1 X.2.1 dX5_where_26 rfl (lv_at hl 0 rfl) ?_
      refine z_av h (run_V (rest := []) X h (c_X5_thinks) mi_X5_thinks ml_X5_139 ⟨Nat.le_of_ble_eq_true rfl, Nat.le_of_ble_eq_true rfl⟩ ⟨rfl, rfl⟩ (Seg.rfl' _) 4 0 rfl rfl rfl rfl hl.1 rfl (Nat.le_of_ble_eq_true rfl) ⟨Nat.zero_le _, Nat.zero_le _⟩ dX5_where_27) (fun _ => rfl) (fun wa2 H locs hw2 h => ?_)
      have h : St E _ s H locs (wM E a (mm, kp, wa2, (iv (ik)), fd, gf, tp, (iv (tn)), (iv (tk)), (iv (bg)), (iv (pt)), (iv (vl)), (iv (bd)), bt, sz, cl)) := h
      have hT2 := RM_eq hR hI.n8 hw2
      refine z_iconst X dX5_where_30 ?_
      refine lv_istore_n (lv' := [(3, .int (iv ((-1)))), (0, .ref (a 0)), (1, .int (iv (x))), (2, .int (iv (n)))]) X.1 X.2.1 dX5_where_31 rfl hl (by decide) rfl (fun ls hl => ?_)
      refine z_iconst X dX5_where_32 ?_
      refine lv_istore (lv' := [(4, .int (iv ((-1)))), (3, .int (iv ((-1)))), (0, .ref (a 0)), (1, .int (iv (x))), (2, .int (iv (n)))]) X.1 X.2.1 dX5_where_33 hl (by decide) rfl (fun ls hl => ?_)
      refine z_iconst X dX5_where_35 ?_
      refine lv_istore (lv' := [(5, .int (iv (0))), (4, .int (iv ((-1)))), (3, .int (iv ((-1)))), (0, .ref (a 0)), (1, .int (iv (x))), (2, .int (iv (n)))]) X.1 X.2.1 dX5_where_36 hl (by decide) rfl (fun ls hl => ?_)
      have L38 : ∀ (fuel_ : Nat) (i : Int) (b : Int) (w : Int) (mq : Nat → Int32) (gq : Nat → Int32), (0 ≤ i) → (i ≤ 10) → (RM mq A) → (mostk (freeB A x) (vWhere A x n) i.toNat = (b, w)) → 10 - i < (fuel_ : Int) → ∀ (H : Heap) (locs : List Loc), St E (wM E a (mm, kp, wa, (iv (ik)), fd, gf, tp, (iv (tn)), (iv (tk)), (iv (bg)), (iv (pt)), (iv (vl)), (iv (bd)), bt, sz, cl)) s H locs (wM E a (mq, kp, wa2, (iv (ik)), fd, gq, tp, (iv (tn)), (iv (tk)), (iv (bg)), (iv (pt)), (iv (vl)), (iv (bd)), bt, sz, cl)) → ∀ ls : Array Slot, lv_has ls 7 [(0, .ref (a 0)), (1, .int (iv (x))), (2, .int (iv (n))), (3, .int (iv (b))), (4, .int (iv (w))), (5, .int (iv (i)))] → W pp l e (rmk 8 179) s m args below meth c H locs 0 0 Q (F0 m 38 ls []) := by
        intro fuel_
        induction fuel_ with
        | zero =>
          intro i b w mq gq i0 i1 hv hm hn
          exfalso; omega
        | succ fuel_ ih =>
          intro i b w mq gq i0 i1 hv hm hn H locs h ls hl
          have hm2 : (mostk (freeB A x) (vWhere A x n) i.toNat).2 = w := by rw [hm]
          have rg := mostk_rng (may := (freeB A x)) (val := (vWhere A x n)) i.toNat (fun j j0 j1 hj => vWhere_rng hI (by omega) (by omega) j0 (by omega) hj)
          rw [hm] at rg; dsimp only at rg
          refine lv_iload X.1 X.2.1 dX5_where_38 (lv_at hl 5 rfl) ?_
          refine z_bipush X (by decide) dX5_where_40 ?_
          refine z_ic_ge (tgt := 107) X ⟨by omega, by omega⟩ ⟨by decide, by decide⟩ dX5_where_42 (by decide) (fun c_42 => ?_) (fun c_42 => ?_)
          · refine lv_iload_n X.1 X.2.1 dX5_where_107 rfl (lv_at hl 3 rfl) ?_
            have e9 : q_where A ph x n = (b, A, ph) := by have hm9 := hm; rw [show i.toNat = 10 by omega] at hm9; unfold q_where; rw [if_neg (by omega), hm9]
            exact ret _ _ _ _ _ (mq, kp, wa2, (iv (ik)), fd, gq, tp, (iv (tn)), (iv (tk)), (iv (bg)), (iv (pt)), (iv (vl)), (iv (bd)), bt, sz, cl) h (by rw [e9]; exact ⟨rfl, ⟨hv, hI, hr9⟩, hK, hF, hT, hB⟩) dX5_where_108
          · refine lv_aload_n X.1 X.2.1 dX5_where_45 rfl (lv_at hl 0 rfl) ?_
            refine lv_iload X.1 X.2.1 dX5_where_46 (lv_at hl 5 rfl) ?_
            refine lv_iload_n X.1 X.2.1 dX5_where_48 rfl (lv_at hl 1 rfl) ?_
            refine z_pi (run_V (rest := []) X h (c_X5_isFreeFor (ch := i) (p := x) hv hI (by omega) (by omega) (by omega) (by omega)) mi_X5_isFreeFor ml_X5_109 ⟨Nat.le_of_ble_eq_true rfl, Nat.le_of_ble_eq_true rfl⟩ ⟨rfl, rfl⟩ (Seg.rfl' _) 4 0 rfl rfl rfl rfl hl.1 rfl (Nat.le_of_ble_eq_true rfl) ⟨Nat.zero_le _, Nat.zero_le _⟩ dX5_where_49) ?_
            refine z_ifb_eq (tgt := 101) X dX5_where_52 (by decide) (fun c_52 => ?_) (fun c_52 => ?_)
            · refine z_iinc (k := 5) (lv' := [(5, .int (iv (i + 1))), (0, .ref (a 0)), (1, .int (iv (x))), (2, .int (iv (n))), (3, .int (iv (b))), (4, .int (iv (w)))]) X dX5_where_101 hl rfl (by decide) rfl (fun ls hl => ?_)
              refine lv_goto (tgt := 38) X.1 X.2.1 dX5_where_104 (by decide) ?_
              exact ih (i + 1) (b) (w) (mq) (gq) (by omega) (by omega) (hv) ((mostk_n i0 hm2 (fun hq => by have := freeB_i.mp hq; omega)).trans hm) (by omega) _ _ h ls (lv_sub hl [1, 2, 3, 4, 5, 0] rfl)
            · refine lv_aload_n X.1 X.2.1 dX5_where_55 rfl (lv_at hl 0 rfl) ?_
              refine lv_iload_n X.1 X.2.1 dX5_where_56 rfl (lv_at hl 1 rfl) ?_
              refine z_iconst X dX5_where_57 ?_
              refine lv_iload X.1 X.2.1 dX5_where_58 (lv_at hl 5 rfl) ?_
              refine z_av h (run_V (rest := []) X h (c_X5_put (p := x) (w := 1) (v := i) hv hI.n8 (by omega) (by first | omega | (show x < pe A; omega)) (by omega) (by omega)) mi_X5_put ml_X5_91 ⟨Nat.le_of_ble_eq_true rfl, Nat.le_of_ble_eq_true rfl⟩ ⟨rfl, rfl⟩ (Seg.rfl' _) 4 0 rfl rfl rfl rfl hl.1 rfl (Nat.le_of_ble_eq_true rfl) ⟨Nat.zero_le _, Nat.zero_le _⟩ dX5_where_60) (fun _ => rfl) (fun mp3 H locs hR3 h => ?_)
              have h : St E _ s H locs (wM E a (mp3, kp, wa2, (iv (ik)), fd, gq, tp, (iv (tn)), (iv (tk)), (iv (bg)), (iv (pt)), (iv (vl)), (iv (bd)), bt, sz, cl)) := h
              refine lv_aload_n X.1 X.2.1 dX5_where_63 rfl (lv_at hl 0 rfl) ?_
              refine lv_iload_n X.1 X.2.1 dX5_where_64 rfl (lv_at hl 1 rfl) ?_
              refine lv_iload_n X.1 X.2.1 dX5_where_65 rfl (lv_at hl 2 rfl) ?_
              refine z_ai h (run_V (rest := []) X h (c_X5_brownOn (p := x) (k := n) hR3 (IA_sit hI (p := x) (c := i) (by omega) (by omega) (by omega) (by omega) (by omega)) (by omega) (by first | omega | (show x < pe A; omega)) (by omega) (by omega) (by first | omega | (show hr A + _ < 1000000; omega))) mi_X5_brownOn ml_X5_145 ⟨Nat.le_of_ble_eq_true rfl, Nat.le_of_ble_eq_true rfl⟩ ⟨rfl, rfl⟩ (Seg.rfl' _) 4 0 rfl rfl rfl rfl hl.1 rfl (Nat.le_of_ble_eq_true rfl) ⟨Nat.zero_le _, Nat.zero_le _⟩ dX5_where_66) (fun _ => rfl) (fun r u H locs hp h => ?_)
              obtain ⟨mo4, go4⟩ := u
              have h : St E _ s H locs (wM E a (mo4, kp, wa2, (iv (ik)), fd, go4, tp, (iv (tn)), (iv (tk)), (iv (bg)), (iv (pt)), (iv (vl)), (iv (bd)), bt, sz, cl)) := h
              obtain ⟨rfl, hb4⟩ := hp
              have hR4 : RM mo4 A := RM_eq hT2 hI.n8 hb4
              have bR4 := brn_rng (stepn_IA (IA_sit hI (p := x) (c := i) (by omega) (by omega) (by omega) (by omega) (by omega)) n.toNat) (p := x) (by omega) (by rw [stepn_pe]; first | omega | (show x < pe A; omega))
              refine lv_istore (lv' := [(6, .int (iv (brn (stepn (pu A 1 x i) n.toNat) x))), (0, .ref (a 0)), (1, .int (iv (x))), (2, .int (iv (n))), (3, .int (iv (b))), (4, .int (iv (w))), (5, .int (iv (i)))]) X.1 X.2.1 dX5_where_69 hl (by decide) rfl (fun ls hl => ?_)
              refine lv_iload X.1 X.2.1 dX5_where_71 (lv_at hl 0 rfl) ?_
              refine lv_iload X.1 X.2.1 dX5_where_73 (lv_at hl 5 rfl) ?_
              refine z_ic_le (tgt := 83) X ⟨by omega, by omega⟩ ⟨by omega, by omega⟩ dX5_where_75 (by decide) (fun c_75 => ?_) (fun c_75 => ?_)
              · refine lv_iload_n X.1 X.2.1 dX5_where_83 rfl (lv_at hl 4 rfl) ?_
                refine lv_istore_n (lv' := [(3, .int (iv (b))), (6, .int (iv (brn (stepn (pu A 1 x i) n.toNat) x))), (0, .ref (a 0)), (1, .int (iv (x))), (2, .int (iv (n))), (4, .int (iv (w))), (5, .int (iv (i)))]) X.1 X.2.1 dX5_where_84 rfl hl (by decide) rfl (fun ls hl => ?_)
                refine lv_iload X.1 X.2.1 dX5_where_85 (lv_at hl 1 rfl) ?_
                refine lv_iload X.1 X.2.1 dX5_where_87 (lv_at hl 5 rfl) ?_
                refine z_ic_le (tgt := 97) X ⟨by omega, by omega⟩ ⟨by omega, by omega⟩ dX5_where_89 (by decide) (fun c_89 => ?_) (fun c_89 => ?_)
                · refine lv_iload X.1 X.2.1 dX5_where_97 (lv_at hl 5 rfl) ?_
                  refine lv_istore (lv' := [(4, .int (iv (w))), (3, .int (iv (b))), (6, .int (iv (brn (stepn (pu A 1 x i) n.toNat) x))), (0, .ref (a 0)), (1, .int (iv (x))), (2, .int (iv (n))), (5, .int (iv (i)))]) X.1 X.2.1 dX5_where_99 hl (by decide) rfl (fun ls hl => ?_)
                  refine z_iinc (k := 6) (lv' := [(5, .int (iv (i + 1))), (4, .int (iv (w))), (3, .int (iv (b))), (6, .int (iv (brn (stepn (pu A 1 x i) n.toNat) x))), (0, .ref (a 0)), (1, .int (iv (x))), (2, .int (iv (n)))]) X dX5_where_101 hl rfl (by decide) rfl (fun ls hl => ?_)
                  refine lv_goto (tgt := 38) X.1 X.2.1 dX5_where_104 (by decide) ?_
                  exact ih (i + 1) (b) (w) (mo4) (go4) (by omega) (by omega) (hR4) ((mostk_n i0 hm2 (fun _ => (show brn (stepn (pu A 1 x i) n.toNat) x ≤ w by omega))).trans hm) (by omega) _ _ h ls (lv_sub hl [4, 5, 6, 2, 1, 0] rfl)
                · exfalso; omega
              · refine lv_iload X.1 X.2.1 dX5_where_78 (lv_at hl 6 rfl) ?_
                refine lv_goto (tgt := 84) X.1 X.2.1 dX5_where_80 (by decide) ?_
                refine lv_istore_n (lv' := [(3, .int (iv (i))), (6, .int (iv (brn (stepn (pu A 1 x i) n.toNat) x))), (0, .ref (a 0)), (1, .int (iv (x))), (2, .int (iv (n))), (4, .int (iv (w))), (5, .int (iv (i)))]) X.1 X.2.1 dX5_where_84 rfl hl (by decide) rfl (fun ls hl => ?_)
                refine lv_iload X.1 X.2.1 dX5_where_85 (lv_at hl 1 rfl) ?_
                refine lv_iload X.1 X.2.1 dX5_where_87 (lv_at hl 5 rfl) ?_
                refine z_ic_le (tgt := 97) X ⟨by omega, by omega⟩ ⟨by omega, by omega⟩ dX5_where_89 (by decide) (fun c_89 => ?_) (fun c_89 => ?_)
                · exfalso; omega
                · refine lv_iload X.1 X.2.1 dX5_where_92 (lv_at hl 1 rfl) ?_
                  refine lv_goto (tgt := 99) X.1 X.2.1 dX5_where_94 (by decide) ?_
                  refine lv_istore (lv' := [(4, .int (iv (brn (stepn (pu A 1 x i) n.toNat) x))), (3, .int (iv (i))), (6, .int (iv (brn (stepn (pu A 1 x i) n.toNat) x))), (0, .ref (a 0)), (1, .int (iv (x))), (2, .int (iv (n))), (5, .int (iv (i)))]) X.1 X.2.1 dX5_where_99 hl (by decide) rfl (fun ls hl => ?_)
                  refine z_iinc (k := 6) (lv' := [(5, .int (iv (i + 1))), (4, .int (iv (brn (stepn (pu A 1 x i) n.toNat) x))), (3, .int (iv (i))), (6, .int (iv (brn (stepn (pu A 1 x i) n.toNat) x))), (0, .ref (a 0)), (1, .int (iv (x))), (2, .int (iv (n)))]) X dX5_where_101 hl rfl (by decide) rfl (fun ls hl => ?_)
                  refine lv_goto (tgt := 38) X.1 X.2.1 dX5_where_104 (by decide) ?_
                  exact ih (i + 1) (i) (brn (stepn (pu A 1 x i) n.toNat) x) (mo4) (go4) (by omega) (by omega) (hR4) (mostk_y i0 hm2 (freeB_t (by omega)) (show w < brn (stepn (pu A 1 x i) n.toNat) x by omega)) (by omega) _ _ h ls (lv_sub hl [4, 5, 6, 2, 1, 0] rfl)
      exact L38 ((10 - (0) : Int).toNat + 1) (0) (-1) (-1) (mm) (gf) (by omega) (by omega) (hR) (rfl) (by omega) _ _ h ls (lv_sub hl [3, 4, 5, 2, 1, 0] rfl)
    · refine lv_aload_n X.1 X.2.1 dX5_where_19 rfl (lv_at hl 0 rfl) ?_
      refine z_ldc (z := (-1000000001)) X ct_X5_38 (by decide) dX5_where_20 ?_
      refine z_ai h (run_V (rest := []) X h (c_X5_finds (k := 0) hF (by decide) (by decide) (by decide)) mi_X5_finds ml_X5_40 ⟨Nat.le_of_ble_eq_true rfl, Nat.le_of_ble_eq_true rfl⟩ ⟨rfl, rfl⟩ (Seg.rfl' _) 4 0 rfl rfl rfl rfl hl.1 rfl (Nat.le_of_ble_eq_true rfl) ⟨Nat.zero_le _, Nat.zero_le _⟩ dX5_where_22) (fun _ => rfl) (fun r fd5 H locs hp h => ?_)
      obtain ⟨rfl, hF5⟩ := hp
      have h : St E _ s H locs (wM E a (mm, kp, wa, (iv (ik)), fd5, gf, tp, (iv (tn)), (iv (tk)), (iv (bg)), (iv (pt)), (iv (vl)), (iv (bd)), bt, sz, cl)) := h
      have e9 : q_where A ph x n = ((-1000000001), A, (bump ph 0)) := by unfold q_where; (repeat (first | rw [if_pos (by omega)] | rw [if_neg (by omega)])); try rfl
      exact ret _ _ _ _ _ (mm, kp, wa, (iv (ik)), fd5, gf, tp, (iv (tn)), (iv (tk)), (iv (bg)), (iv (pt)), (iv (vl)), (iv (bd)), bt, sz, cl) h (by rw [e9]; exact ⟨rfl, ⟨hR, hI, hr9⟩, hK, hF5, hT, hB⟩) dX5_where_25

set_option maxHeartbeats 4000000 in
theorem c_X5_change (hS : RepM (mm, kp, wa, (iv (ik)), fd, gf, tp, (iv (tn)), (iv (tk)), (iv (bg)), (iv (pt)), (iv (vl)), (iv (bd)), bt, sz, cl) (A, K, ik, ph, tq, tn, bq, sq, cq)) {x : Int} (r_x : r32 x) {n : Int} (r_n : r32 n) : MI (S := Mc) E l yX5_change cX5_change 7 (some FieldType.int) (rmk 7 156) (wM E a (mm, kp, wa, (iv (ik)), fd, gf, tp, (iv (tn)), (iv (tk)), (iv (bg)), (iv (pt)), (iv (vl)), (iv (bd)), bt, sz, cl)) [.ref (a 0), .int (iv (x)), .int (iv (n))] (fun r u => r = iv (q_change A ph x n).1 ∧ RepM u ((q_change A ph x n).2.1, K, ik, (q_change A ph x n).2.2, tq, tn, bq, sq, cq)) (fun u => wM E a u) := by
  refine goI (S := Mc) (post := fun r u => r = iv (q_change A ph x n).1 ∧ RepM u ((q_change A ph x n).2.1, K, ik, (q_change A ph x n).2.2, tq, tn, bq, sq, cq)) (ws' := fun u => wM E a u) (by decide) (Nat.le_of_ble_eq_true rfl) ?_
  intro pp e s m below meth c ls args Q ret X h hl
  have hl : lv_has ls 7 [(0, .ref (a 0)), (1, .int (iv (x))), (2, .int (iv (n)))] := hl
  have hR : RM mm A := hS.1.1
  have hI : IA A := hS.1.2.1
  have hr9 : hr A ≤ 99999 := hS.1.2.2
  have hF : RF 7 fd ph := hS.2.2.1
  have hK := hS.2.1
  have hT := hS.2.2.2.1
  have hB := hS.2.2.2.2
  have hh : hr A < 1000000 := by omega
  have n8 := hI.n8
  have n0 := hI.n0
  have h0 := hI.h0
  refine lv_aload_n X.1 X.2.1 dX5_change_0 rfl (lv_at hl 0 rfl) ?_
  refine lv_iload_n X.1 X.2.1 dX5_change_1 rfl (lv_at hl 1 rfl) ?_
  refine z_pi (run_V (rest := []) X h (c_X5_isPerson (p := x) hR hI r_x) mi_X5_isPerson ml_X5_48 ⟨Nat.le_of_ble_eq_true rfl, Nat.le_of_ble_eq_true rfl⟩ ⟨rfl, rfl⟩ (Seg.rfl' _) 4 0 rfl rfl rfl rfl hl.1 rfl (Nat.le_of_ble_eq_true rfl) ⟨Nat.zero_le _, Nat.zero_le _⟩ dX5_change_2) ?_
  refine z_ifb_eq (tgt := 19) X dX5_change_5 (by decide) (fun c_5 => ?_) (fun c_5 => ?_)
  · refine lv_aload_n X.1 X.2.1 dX5_change_19 rfl (lv_at hl 0 rfl) ?_
    refine z_ldc (z := (-1000000001)) X ct_X5_38 (by decide) dX5_change_20 ?_
    refine z_ai h (run_V (rest := []) X h (c_X5_finds (k := 0) hF (by decide) (by decide) (by decide)) mi_X5_finds ml_X5_40 ⟨Nat.le_of_ble_eq_true rfl, Nat.le_of_ble_eq_true rfl⟩ ⟨rfl, rfl⟩ (Seg.rfl' _) 4 0 rfl rfl rfl rfl hl.1 rfl (Nat.le_of_ble_eq_true rfl) ⟨Nat.zero_le _, Nat.zero_le _⟩ dX5_change_22) (fun _ => rfl) (fun r fd1 H locs hp h => ?_)
    obtain ⟨rfl, hF1⟩ := hp
    have h : St E _ s H locs (wM E a (mm, kp, wa, (iv (ik)), fd1, gf, tp, (iv (tn)), (iv (tk)), (iv (bg)), (iv (pt)), (iv (vl)), (iv (bd)), bt, sz, cl)) := h
    have e9 : q_change A ph x n = ((-1000000001), A, (bump ph 0)) := by unfold q_change; (repeat (first | rw [if_pos (by omega)] | rw [if_neg (by omega)])); try rfl
    exact ret _ _ _ _ _ (mm, kp, wa, (iv (ik)), fd1, gf, tp, (iv (tn)), (iv (tk)), (iv (bg)), (iv (pt)), (iv (vl)), (iv (bd)), bt, sz, cl) h (by rw [e9]; exact ⟨rfl, ⟨hR, hI, hr9⟩, hK, hF1, hT, hB⟩) dX5_change_25
  · refine lv_iload_n X.1 X.2.1 dX5_change_8 rfl (lv_at hl 2 rfl) ?_
    refine lv_i2l (v := (iv (n)).toInt64) X.1 X.2.1 dX5_change_9 rfl ?_
    refine z_iconst X dX5_change_10 ?_
    refine z_bipush X (by decide) dX5_change_11 ?_
    refine z_pi (run_S (rest := []) X h (c_inI r_n ⟨by decide, by decide⟩ ⟨by decide, by decide⟩) mi_X5_in ml_X5_44 ⟨Nat.le_of_ble_eq_true rfl, Nat.le_of_ble_eq_true rfl⟩ ⟨rfl, rfl⟩ (Seg.nil _) rfl hl.1 rfl (Nat.le_of_ble_eq_true rfl) ⟨Nat.zero_le _, Nat.zero_le _⟩ dX5_change_13) ?_
    refine z_ifb_ne (tgt := 26) X dX5_change_16 (by decide) (fun c_16 => ?_) (fun c_16 => ?_)
    · have qx := hI.gP (p := x) (by omega) (by omega)
      refine lv_aload_n X.1 X.2.1 dX5_change_26 rfl (lv_at hl 0 rfl) ?_
      refine lv_iload_n X.1 X.2.1 dX5_change_27 rfl (lv_at hl 1 rfl) ?_
      refine z_pi (run_V (rest := []) X h (c_X5_sits (p := x) hR hI (by omega) (by omega)) mi_X5_sits ml_X5_56 ⟨Nat.le_of_ble_eq_true rfl, Nat.le_of_ble_eq_true rfl⟩ ⟨rfl, rfl⟩ (Seg.rfl' _) 4 0 rfl rfl rfl rfl hl.1 rfl (Nat.le_of_ble_eq_true rfl) ⟨Nat.zero_le _, Nat.zero_le _⟩ dX5_change_28) ?_
      refine z_ifb_ne (tgt := 41) X dX5_change_31 (by decide) (fun c_31 => ?_) (fun c_31 => ?_)
      · refine lv_aload_n X.1 X.2.1 dX5_change_41 rfl (lv_at hl 0 rfl) ?_
        refine z_av h (run_V (rest := []) X h (c_X5_thinks) mi_X5_thinks ml_X5_139 ⟨Nat.le_of_ble_eq_true rfl, Nat.le_of_ble_eq_true rfl⟩ ⟨rfl, rfl⟩ (Seg.rfl' _) 4 0 rfl rfl rfl rfl hl.1 rfl (Nat.le_of_ble_eq_true rfl) ⟨Nat.zero_le _, Nat.zero_le _⟩ dX5_change_42) (fun _ => rfl) (fun wa2 H locs hw2 h => ?_)
        have h : St E _ s H locs (wM E a (mm, kp, wa2, (iv (ik)), fd, gf, tp, (iv (tn)), (iv (tk)), (iv (bg)), (iv (pt)), (iv (vl)), (iv (bd)), bt, sz, cl)) := h
        have hT2 := RM_eq hR hI.n8 hw2
        refine z_iconst X dX5_change_45 ?_
        refine lv_istore_n (lv' := [(3, .int (iv ((-1)))), (0, .ref (a 0)), (1, .int (iv (x))), (2, .int (iv (n)))]) X.1 X.2.1 dX5_change_46 rfl hl (by decide) rfl (fun ls hl => ?_)
        refine z_iconst X dX5_change_47 ?_
        refine lv_istore (lv' := [(4, .int (iv ((-1)))), (3, .int (iv ((-1)))), (0, .ref (a 0)), (1, .int (iv (x))), (2, .int (iv (n)))]) X.1 X.2.1 dX5_change_48 hl (by decide) rfl (fun ls hl => ?_)
        refine z_iconst X dX5_change_50 ?_
        refine lv_istore (lv' := [(5, .int (iv (0))), (4, .int (iv ((-1)))), (3, .int (iv ((-1)))), (0, .ref (a 0)), (1, .int (iv (x))), (2, .int (iv (n)))]) X.1 X.2.1 dX5_change_51 hl (by decide) rfl (fun ls hl => ?_)
        have L53 : ∀ (fuel_ : Nat) (i : Int) (b : Int) (w : Int) (mq : Nat → Int32) (gq : Nat → Int32), (0 ≤ i) → (i ≤ pe A) → (RM mq A) → (mostk (mChange A x) (vChange A x n) i.toNat = (b, w)) → pe A - i < (fuel_ : Int) → ∀ (H : Heap) (locs : List Loc), St E (wM E a (mm, kp, wa, (iv (ik)), fd, gf, tp, (iv (tn)), (iv (tk)), (iv (bg)), (iv (pt)), (iv (vl)), (iv (bd)), bt, sz, cl)) s H locs (wM E a (mq, kp, wa2, (iv (ik)), fd, gq, tp, (iv (tn)), (iv (tk)), (iv (bg)), (iv (pt)), (iv (vl)), (iv (bd)), bt, sz, cl)) → ∀ ls : Array Slot, lv_has ls 7 [(0, .ref (a 0)), (1, .int (iv (x))), (2, .int (iv (n))), (3, .int (iv (b))), (4, .int (iv (w))), (5, .int (iv (i)))] → W pp l e (rmk 7 156) s m args below meth c H locs 0 0 Q (F0 m 53 ls []) := by
          intro fuel_
          induction fuel_ with
          | zero =>
            intro i b w mq gq i0 i1 hv hm hn
            exfalso; omega
          | succ fuel_ ih =>
            intro i b w mq gq i0 i1 hv hm hn H locs h ls hl
            have hm2 : (mostk (mChange A x) (vChange A x n) i.toNat).2 = w := by rw [hm]
            have rg := mostk_rng (may := (mChange A x)) (val := (vChange A x n)) i.toNat (fun j j0 j1 hj => vChange_rng hI (by omega) (by omega) (by omega) j0 (by omega) hj)
            rw [hm] at rg; dsimp only at rg
            have qx := hI.gP (p := x) (by omega) (by omega)
            refine lv_iload X.1 X.2.1 dX5_change_53 (lv_at hl 5 rfl) ?_
            refine lv_aload_n X.1 X.2.1 dX5_change_55 rfl (lv_at hl 0 rfl) ?_
            refine z_get X h 4 0 0 rfl inX5 rfl (by decide) fl_X5_9 rfl dX5_change_56 ?_
            refine z_iconst X dX5_change_59 ?_
            refine z_iald (v := pe A) X h 1 rfl (by omega) (by omega) (by decide) hv.2.1 dX5_change_60 ?_
            refine z_ic_ge (tgt := 171) X ⟨by omega, by omega⟩ ⟨by omega, by omega⟩ dX5_change_61 (by decide) (fun c_61 => ?_) (fun c_61 => ?_)
            · refine lv_aload_n X.1 X.2.1 dX5_change_171 rfl (lv_at hl 0 rfl) ?_
              refine lv_iload_n X.1 X.2.1 dX5_change_172 rfl (lv_at hl 3 rfl) ?_
              refine z_ai h (run_V (rest := []) X h (c_X5_orNone (v := b) hF ⟨by omega, by omega⟩) mi_X5_orNone ml_X5_148 ⟨Nat.le_of_ble_eq_true rfl, Nat.le_of_ble_eq_true rfl⟩ ⟨rfl, rfl⟩ (Seg.rfl' _) 4 0 rfl rfl rfl rfl hl.1 rfl (Nat.le_of_ble_eq_true rfl) ⟨Nat.zero_le _, Nat.zero_le _⟩ dX5_change_173) (fun _ => rfl) (fun r fd3 H locs hp h => ?_)
              obtain ⟨rfl, hF3⟩ := hp
              have h : St E _ s H locs (wM E a (mq, kp, wa2, (iv (ik)), fd3, gq, tp, (iv (tn)), (iv (tk)), (iv (bg)), (iv (pt)), (iv (vl)), (iv (bd)), bt, sz, cl)) := h
              have e9 : q_change A ph x n = (if b < 0 then fz 3 else b, A, (if b < 0 then bump ph 3 else ph)) := by have hm9 := hm; rw [show i.toNat = (pe A).toNat by omega] at hm9; unfold q_change; rw [if_neg (by omega), if_neg (by omega), hm9]; unfold orN; dsimp only; split <;> rfl
              exact ret _ _ _ _ _ (mq, kp, wa2, (iv (ik)), fd3, gq, tp, (iv (tn)), (iv (tk)), (iv (bg)), (iv (pt)), (iv (vl)), (iv (bd)), bt, sz, cl) h (by rw [e9]; exact ⟨rfl, ⟨hv, hI, hr9⟩, hK, hF3, hT, hB⟩) dX5_change_176
            · have qi := hI.gP (p := i) (by omega) (by omega)
              refine lv_iload X.1 X.2.1 dX5_change_64 (lv_at hl 5 rfl) ?_
              refine lv_iload_n X.1 X.2.1 dX5_change_66 rfl (lv_at hl 1 rfl) ?_
              refine z_ic_eq (tgt := 165) X ⟨by omega, by omega⟩ r_x dX5_change_67 (by decide) (fun c_67 => ?_) (fun c_67 => ?_)
              · refine z_iinc (k := 5) (lv' := [(5, .int (iv (i + 1))), (0, .ref (a 0)), (1, .int (iv (x))), (2, .int (iv (n))), (3, .int (iv (b))), (4, .int (iv (w)))]) X dX5_change_165 hl rfl (by decide) rfl (fun ls hl => ?_)
                refine lv_goto (tgt := 53) X.1 X.2.1 dX5_change_168 (by decide) ?_
                exact ih (i + 1) (b) (w) (mq) (gq) (by omega) (by omega) (hv) ((mostk_n i0 hm2 (fun hq => by simp only [mChange, decide_eq_true_eq] at hq; omega)).trans hm) (by omega) _ _ h ls (lv_sub hl [1, 2, 3, 4, 5, 0] rfl)
              · refine lv_aload_n X.1 X.2.1 dX5_change_70 rfl (lv_at hl 0 rfl) ?_
                refine lv_iload X.1 X.2.1 dX5_change_71 (lv_at hl 5 rfl) ?_
                refine z_pi (run_V (rest := []) X h (c_X5_sits (p := i) hv hI (by omega) (by omega)) mi_X5_sits ml_X5_56 ⟨Nat.le_of_ble_eq_true rfl, Nat.le_of_ble_eq_true rfl⟩ ⟨rfl, rfl⟩ (Seg.rfl' _) 4 0 rfl rfl rfl rfl hl.1 rfl (Nat.le_of_ble_eq_true rfl) ⟨Nat.zero_le _, Nat.zero_le _⟩ dX5_change_73) ?_
                refine z_ifb_eq (tgt := 165) X dX5_change_76 (by decide) (fun c_76 => ?_) (fun c_76 => ?_)
                · refine z_iinc (k := 5) (lv' := [(5, .int (iv (i + 1))), (0, .ref (a 0)), (1, .int (iv (x))), (2, .int (iv (n))), (3, .int (iv (b))), (4, .int (iv (w)))]) X dX5_change_165 hl rfl (by decide) rfl (fun ls hl => ?_)
                  refine lv_goto (tgt := 53) X.1 X.2.1 dX5_change_168 (by decide) ?_
                  exact ih (i + 1) (b) (w) (mq) (gq) (by omega) (by omega) (hv) ((mostk_n i0 hm2 (fun hq => by simp only [mChange, decide_eq_true_eq] at hq; omega)).trans hm) (by omega) _ _ h ls (lv_sub hl [1, 2, 3, 4, 5, 0] rfl)
                · refine lv_aload_n X.1 X.2.1 dX5_change_79 rfl (lv_at hl 0 rfl) ?_
                  refine lv_iload_n X.1 X.2.1 dX5_change_80 rfl (lv_at hl 1 rfl) ?_
                  refine z_iconst X dX5_change_81 ?_
                  refine lv_aload_n X.1 X.2.1 dX5_change_82 rfl (lv_at hl 0 rfl) ?_
                  refine lv_iload X.1 X.2.1 dX5_change_83 (lv_at hl 5 rfl) ?_
                  refine z_iconst X dX5_change_85 ?_
                  refine z_pi (run_V (rest := [.int (iv (1)), .int (iv (x)), .ref (a 0)]) X h (c_X5_it (p := i) (w := 1) hv hI (by omega) (by omega) (by omega) (by omega)) mi_X5_it ml_X5_52 ⟨Nat.le_of_ble_eq_true rfl, Nat.le_of_ble_eq_true rfl⟩ ⟨rfl, rfl⟩ (Seg.rfl' _) 4 0 rfl rfl rfl rfl hl.1 rfl (Nat.le_of_ble_eq_true rfl) ⟨Nat.zero_le _, Nat.zero_le _⟩ dX5_change_86) ?_
                  refine z_av h (run_V (rest := []) X h (c_X5_put (p := x) (w := 1) (v := (pr A 1 i)) hv hI.n8 (by omega) (by first | omega | (show x < pe A; omega)) (by omega) (by omega)) mi_X5_put ml_X5_91 ⟨Nat.le_of_ble_eq_true rfl, Nat.le_of_ble_eq_true rfl⟩ ⟨rfl, rfl⟩ (Seg.rfl' _) 4 0 rfl rfl rfl rfl hl.1 rfl (Nat.le_of_ble_eq_true rfl) ⟨Nat.zero_le _, Nat.zero_le _⟩ dX5_change_89) (fun _ => rfl) (fun mp4 H locs hR4 h => ?_)
                  have h : St E _ s H locs (wM E a (mp4, kp, wa2, (iv (ik)), fd, gq, tp, (iv (tn)), (iv (tk)), (iv (bg)), (iv (pt)), (iv (vl)), (iv (bd)), bt, sz, cl)) := h
                  refine lv_aload_n X.1 X.2.1 dX5_change_92 rfl (lv_at hl 0 rfl) ?_
                  refine lv_iload X.1 X.2.1 dX5_change_93 (lv_at hl 5 rfl) ?_
                  refine z_iconst X dX5_change_95 ?_
                  refine lv_aload_n X.1 X.2.1 dX5_change_96 rfl (lv_at hl 0 rfl) ?_
                  refine z_get X h 4 0 2 rfl inX5 rfl (by decide) fl_X5_16 rfl dX5_change_97 ?_
                  refine z_bipush X (by decide) dX5_change_100 ?_
                  refine z_iconst X dX5_change_102 ?_
                  refine lv_iload_n X.1 X.2.1 dX5_change_103 rfl (lv_at hl 1 rfl) ?_
                  refine z_imul X dX5_change_104 ?_
                  refine z_iadd X dX5_change_105 ?_
                  refine z_iconst X dX5_change_106 ?_
                  refine z_iadd X dX5_change_107 ?_
                  refine z_iald (v := pr A 1 x) X h 3 rfl (by omega) (by omega) (by decide) (hT2.2.2.2 1 x (by omega) (by omega) (by omega) (by omega)) dX5_change_108 ?_
                  refine z_av h (run_V (rest := []) X h (c_X5_put (p := i) (w := 1) (v := (pr A 1 x)) hR4 (show pe A ≤ 8 from hI.n8) (by omega) (by first | omega | (show i < pe A; omega)) (by omega) (by omega)) mi_X5_put ml_X5_91 ⟨Nat.le_of_ble_eq_true rfl, Nat.le_of_ble_eq_true rfl⟩ ⟨rfl, rfl⟩ (Seg.rfl' _) 4 0 rfl rfl rfl rfl hl.1 rfl (Nat.le_of_ble_eq_true rfl) ⟨Nat.zero_le _, Nat.zero_le _⟩ dX5_change_109) (fun _ => rfl) (fun mp5 H locs hR5 h => ?_)
                  have h : St E _ s H locs (wM E a (mp5, kp, wa2, (iv (ik)), fd, gq, tp, (iv (tn)), (iv (tk)), (iv (bg)), (iv (pt)), (iv (vl)), (iv (bd)), bt, sz, cl)) := h
                  have hRw : RM mp5 (sw A x i) := hR5
                  have pw : pe (sw A x i) = pe A := rfl
                  have hIw : IA (sw A x i) := sw_IA hI (by omega) (by omega) (by omega) (by omega) (by omega) (by omega) (by omega)
                  have bx := brnn_rng hIw n.toNat (p := x) (by omega) (by omega)
                  have bo := brnn_rng hIw n.toNat (p := i) (by omega) (by omega)
                  refine lv_aload_n X.1 X.2.1 dX5_change_112 rfl (lv_at hl 0 rfl) ?_
                  refine lv_iload_n X.1 X.2.1 dX5_change_113 rfl (lv_at hl 2 rfl) ?_
                  refine z_av h (run_V (rest := []) X h (c_X5_goesFor (k := n) hRw hIw (by omega) (by omega) (by first | omega | (show hr A + _ < 1000000; omega))) mi_X5_goesFor ml_X5_131 ⟨Nat.le_of_ble_eq_true rfl, Nat.le_of_ble_eq_true rfl⟩ ⟨rfl, rfl⟩ (Seg.rfl' _) 4 0 rfl rfl rfl rfl hl.1 rfl (Nat.le_of_ble_eq_true rfl) ⟨Nat.zero_le _, Nat.zero_le _⟩ dX5_change_114) (fun _ => rfl) (fun u H locs hp h => ?_)
                  obtain ⟨mg6, gg6⟩ := u
                  have h : St E _ s H locs (wM E a (mg6, kp, wa2, (iv (ik)), fd, gg6, tp, (iv (tn)), (iv (tk)), (iv (bg)), (iv (pt)), (iv (vl)), (iv (bd)), bt, sz, cl)) := h
                  have hR6 : RM mg6 (stepn (sw A x i) n.toNat) := hp
                  have pn6 : pe (stepn (sw A x i) n.toNat) = pe (sw A x i) := stepn_pe _ _
                  refine lv_aload_n X.1 X.2.1 dX5_change_117 rfl (lv_at hl 0 rfl) ?_
                  refine lv_iload_n X.1 X.2.1 dX5_change_118 rfl (lv_at hl 1 rfl) ?_
                  refine z_pi (run_V (rest := []) X h (c_X5_brownOf (p := x) hR6 (stepn_IA hIw n.toNat) (by omega) (by omega)) mi_X5_brownOf ml_X5_105 ⟨Nat.le_of_ble_eq_true rfl, Nat.le_of_ble_eq_true rfl⟩ ⟨rfl, rfl⟩ (Seg.rfl' _) 4 0 rfl rfl rfl rfl hl.1 rfl (Nat.le_of_ble_eq_true rfl) ⟨Nat.zero_le _, Nat.zero_le _⟩ dX5_change_119) ?_
                  refine lv_aload_n X.1 X.2.1 dX5_change_122 rfl (lv_at hl 0 rfl) ?_
                  refine lv_iload X.1 X.2.1 dX5_change_123 (lv_at hl 5 rfl) ?_
                  refine z_pi (run_V (rest := [.int (iv (brn (stepn (sw A x i) n.toNat) x))]) X h (c_X5_brownOf (p := i) hR6 (stepn_IA hIw n.toNat) (by omega) (by omega)) mi_X5_brownOf ml_X5_105 ⟨Nat.le_of_ble_eq_true rfl, Nat.le_of_ble_eq_true rfl⟩ ⟨rfl, rfl⟩ (Seg.rfl' _) 4 0 rfl rfl rfl rfl hl.1 rfl (Nat.le_of_ble_eq_true rfl) ⟨Nat.zero_le _, Nat.zero_le _⟩ dX5_change_125) ?_
                  refine z_iadd X dX5_change_128 ?_
                  refine lv_istore (lv' := [(6, .int (iv (brn (stepn (sw A x i) n.toNat) x + (brn (stepn (sw A x i) n.toNat) i)))), (0, .ref (a 0)), (1, .int (iv (x))), (2, .int (iv (n))), (3, .int (iv (b))), (4, .int (iv (w))), (5, .int (iv (i)))]) X.1 X.2.1 dX5_change_129 hl (by decide) rfl (fun ls hl => ?_)
                  refine lv_aload_n X.1 X.2.1 dX5_change_131 rfl (lv_at hl 1 rfl) ?_
                  refine z_av h (run_V (rest := []) X h (c_X5_putsBack) mi_X5_putsBack ml_X5_142 ⟨Nat.le_of_ble_eq_true rfl, Nat.le_of_ble_eq_true rfl⟩ ⟨rfl, rfl⟩ (Seg.rfl' _) 4 0 rfl rfl rfl rfl hl.1 rfl (Nat.le_of_ble_eq_true rfl) ⟨Nat.zero_le _, Nat.zero_le _⟩ dX5_change_132) (fun _ => rfl) (fun mb7 H locs hb7 h => ?_)
                  have h : St E _ s H locs (wM E a (mb7, kp, wa2, (iv (ik)), fd, gg6, tp, (iv (tn)), (iv (tk)), (iv (bg)), (iv (pt)), (iv (vl)), (iv (bd)), bt, sz, cl)) := h
                  have hR7 := RM_eq hT2 hI.n8 hb7
                  refine lv_iload X.1 X.2.1 dX5_change_135 (lv_at hl 0 rfl) ?_
                  refine lv_iload X.1 X.2.1 dX5_change_137 (lv_at hl 5 rfl) ?_
                  refine z_ic_le (tgt := 147) X ⟨by omega, by omega⟩ ⟨by omega, by omega⟩ dX5_change_139 (by decide) (fun c_139 => ?_) (fun c_139 => ?_)
                  · refine lv_iload_n X.1 X.2.1 dX5_change_147 rfl (lv_at hl 4 rfl) ?_
                    refine lv_istore_n (lv' := [(3, .int (iv (b))), (6, .int (iv (brn (stepn (sw A x i) n.toNat) x + (brn (stepn (sw A x i) n.toNat) i)))), (0, .ref (a 0)), (1, .int (iv (x))), (2, .int (iv (n))), (4, .int (iv (w))), (5, .int (iv (i)))]) X.1 X.2.1 dX5_change_148 rfl hl (by decide) rfl (fun ls hl => ?_)
                    refine lv_iload X.1 X.2.1 dX5_change_149 (lv_at hl 1 rfl) ?_
                    refine lv_iload X.1 X.2.1 dX5_change_151 (lv_at hl 5 rfl) ?_
                    refine z_ic_le (tgt := 161) X ⟨by omega, by omega⟩ ⟨by omega, by omega⟩ dX5_change_153 (by decide) (fun c_153 => ?_) (fun c_153 => ?_)
                    · refine lv_iload X.1 X.2.1 dX5_change_161 (lv_at hl 5 rfl) ?_
                      refine lv_istore (lv' := [(4, .int (iv (w))), (3, .int (iv (b))), (6, .int (iv (brn (stepn (sw A x i) n.toNat) x + (brn (stepn (sw A x i) n.toNat) i)))), (0, .ref (a 0)), (1, .int (iv (x))), (2, .int (iv (n))), (5, .int (iv (i)))]) X.1 X.2.1 dX5_change_163 hl (by decide) rfl (fun ls hl => ?_)
                      refine z_iinc (k := 6) (lv' := [(5, .int (iv (i + 1))), (4, .int (iv (w))), (3, .int (iv (b))), (6, .int (iv (brn (stepn (sw A x i) n.toNat) x + (brn (stepn (sw A x i) n.toNat) i)))), (0, .ref (a 0)), (1, .int (iv (x))), (2, .int (iv (n)))]) X dX5_change_165 hl rfl (by decide) rfl (fun ls hl => ?_)
                      refine lv_goto (tgt := 53) X.1 X.2.1 dX5_change_168 (by decide) ?_
                      exact ih (i + 1) (b) (w) (mb7) (gg6) (by omega) (by omega) (hR7) ((mostk_n i0 hm2 (fun _ => (show brn (stepn (sw A x i) n.toNat) x + brn (stepn (sw A x i) n.toNat) i ≤ w by omega))).trans hm) (by omega) _ _ h ls (lv_sub hl [4, 5, 6, 2, 1, 0] rfl)
                    · exfalso; omega
                  · refine lv_iload X.1 X.2.1 dX5_change_142 (lv_at hl 6 rfl) ?_
                    refine lv_goto (tgt := 148) X.1 X.2.1 dX5_change_144 (by decide) ?_
                    refine lv_istore_n (lv' := [(3, .int (iv (i))), (6, .int (iv (brn (stepn (sw A x i) n.toNat) x + (brn (stepn (sw A x i) n.toNat) i)))), (0, .ref (a 0)), (1, .int (iv (x))), (2, .int (iv (n))), (4, .int (iv (w))), (5, .int (iv (i)))]) X.1 X.2.1 dX5_change_148 rfl hl (by decide) rfl (fun ls hl => ?_)
                    refine lv_iload X.1 X.2.1 dX5_change_149 (lv_at hl 1 rfl) ?_
                    refine lv_iload X.1 X.2.1 dX5_change_151 (lv_at hl 5 rfl) ?_
                    refine z_ic_le (tgt := 161) X ⟨by omega, by omega⟩ ⟨by omega, by omega⟩ dX5_change_153 (by decide) (fun c_153 => ?_) (fun c_153 => ?_)
                    · exfalso; omega
                    · refine lv_iload X.1 X.2.1 dX5_change_156 (lv_at hl 1 rfl) ?_
                      refine lv_goto (tgt := 163) X.1 X.2.1 dX5_change_158 (by decide) ?_
                      refine lv_istore (lv' := [(4, .int (iv (brn (stepn (sw A x i) n.toNat) x + (brn (stepn (sw A x i) n.toNat) i)))), (3, .int (iv (i))), (6, .int (iv (brn (stepn (sw A x i) n.toNat) x + (brn (stepn (sw A x i) n.toNat) i)))), (0, .ref (a 0)), (1, .int (iv (x))), (2, .int (iv (n))), (5, .int (iv (i)))]) X.1 X.2.1 dX5_change_163 hl (by decide) rfl (fun ls hl => ?_)
                      refine z_iinc (k := 6) (lv' := [(5, .int (iv (i + 1))), (4, .int (iv (brn (stepn (sw A x i) n.toNat) x + (brn (stepn (sw A x i) n.toNat) i)))), (3, .int (iv (i))), (6, .int (iv (brn (stepn (sw A x i) n.toNat) x + (brn (stepn (sw A x i) n.toNat) i)))), (0, .ref (a 0)), (1, .int (iv (x))), (2, .int (iv (n)))]) X dX5_change_165 hl rfl (by decide) rfl (fun ls hl => ?_)
                      refine lv_goto (tgt := 53) X.1 X.2.1 dX5_change_168 (by decide) ?_
                      exact ih (i + 1) (i) (brn (stepn (sw A x i) n.toNat) x + (brn (stepn (sw A x i) n.toNat) i)) (mb7) (gg6) (by omega) (by omega) (hR7) (mostk_y i0 hm2 (by simp only [mChange, decide_eq_true_eq]; omega) (show w < brn (stepn (sw A x i) n.toNat) x + brn (stepn (sw A x i) n.toNat) i by omega)) (by omega) _ _ h ls (lv_sub hl [4, 5, 6, 2, 1, 0] rfl)
        exact L53 ((pe A - (0) : Int).toNat + 1) (0) (-1) (-1) (mm) (gf) (by omega) (by omega) (hR) (rfl) (by omega) _ _ h ls (lv_sub hl [3, 4, 5, 2, 1, 0] rfl)
      · refine lv_aload_n X.1 X.2.1 dX5_change_34 rfl (lv_at hl 0 rfl) ?_
        refine z_ldc (z := (-1000000005)) X ct_X5_113 (by decide) dX5_change_35 ?_
        refine z_ai h (run_V (rest := []) X h (c_X5_finds (k := 4) hF (by decide) (by decide) (by decide)) mi_X5_finds ml_X5_40 ⟨Nat.le_of_ble_eq_true rfl, Nat.le_of_ble_eq_true rfl⟩ ⟨rfl, rfl⟩ (Seg.rfl' _) 4 0 rfl rfl rfl rfl hl.1 rfl (Nat.le_of_ble_eq_true rfl) ⟨Nat.zero_le _, Nat.zero_le _⟩ dX5_change_37) (fun _ => rfl) (fun r fd8 H locs hp h => ?_)
        obtain ⟨rfl, hF8⟩ := hp
        have h : St E _ s H locs (wM E a (mm, kp, wa, (iv (ik)), fd8, gf, tp, (iv (tn)), (iv (tk)), (iv (bg)), (iv (pt)), (iv (vl)), (iv (bd)), bt, sz, cl)) := h
        have e9 : q_change A ph x n = ((-1000000005), A, (bump ph 4)) := by unfold q_change; (repeat (first | rw [if_pos (by omega)] | rw [if_neg (by omega)])); try rfl
        exact ret _ _ _ _ _ (mm, kp, wa, (iv (ik)), fd8, gf, tp, (iv (tn)), (iv (tk)), (iv (bg)), (iv (pt)), (iv (vl)), (iv (bd)), bt, sz, cl) h (by rw [e9]; exact ⟨rfl, ⟨hR, hI, hr9⟩, hK, hF8, hT, hB⟩) dX5_change_40
    · refine lv_aload_n X.1 X.2.1 dX5_change_19 rfl (lv_at hl 0 rfl) ?_
      refine z_ldc (z := (-1000000001)) X ct_X5_38 (by decide) dX5_change_20 ?_
      refine z_ai h (run_V (rest := []) X h (c_X5_finds (k := 0) hF (by decide) (by decide) (by decide)) mi_X5_finds ml_X5_40 ⟨Nat.le_of_ble_eq_true rfl, Nat.le_of_ble_eq_true rfl⟩ ⟨rfl, rfl⟩ (Seg.rfl' _) 4 0 rfl rfl rfl rfl hl.1 rfl (Nat.le_of_ble_eq_true rfl) ⟨Nat.zero_le _, Nat.zero_le _⟩ dX5_change_22) (fun _ => rfl) (fun r fd9 H locs hp h => ?_)
      obtain ⟨rfl, hF9⟩ := hp
      have h : St E _ s H locs (wM E a (mm, kp, wa, (iv (ik)), fd9, gf, tp, (iv (tn)), (iv (tk)), (iv (bg)), (iv (pt)), (iv (vl)), (iv (bd)), bt, sz, cl)) := h
      have e9 : q_change A ph x n = ((-1000000001), A, (bump ph 0)) := by unfold q_change; (repeat (first | rw [if_pos (by omega)] | rw [if_neg (by omega)])); try rfl
      exact ret _ _ _ _ _ (mm, kp, wa, (iv (ik)), fd9, gf, tp, (iv (tn)), (iv (tk)), (iv (bg)), (iv (pt)), (iv (vl)), (iv (bd)), bt, sz, cl) h (by rw [e9]; exact ⟨rfl, ⟨hR, hI, hr9⟩, hK, hF9, hT, hB⟩) dX5_change_25

set_option maxHeartbeats 4000000 in
theorem c_X5_kind (hS : RepM (mm, kp, wa, (iv (ik)), fd, gf, tp, (iv (tn)), (iv (tk)), (iv (bg)), (iv (pt)), (iv (vl)), (iv (bd)), bt, sz, cl) (A, K, ik, ph, tq, tn, bq, sq, cq)) {x : Int} (r_x : r32 x) {n : Int} (r_n : r32 n) : MI (S := Mc) E l yX5_kind cX5_kind 7 (some FieldType.int) (rmk 8 179) (wM E a (mm, kp, wa, (iv (ik)), fd, gf, tp, (iv (tn)), (iv (tk)), (iv (bg)), (iv (pt)), (iv (vl)), (iv (bd)), bt, sz, cl)) [.ref (a 0), .int (iv (x)), .int (iv (n))] (fun r u => r = iv (q_kind A ph x n).1 ∧ RepM u ((q_kind A ph x n).2.1, K, ik, (q_kind A ph x n).2.2, tq, tn, bq, sq, cq)) (fun u => wM E a u) := by
  refine goI (S := Mc) (post := fun r u => r = iv (q_kind A ph x n).1 ∧ RepM u ((q_kind A ph x n).2.1, K, ik, (q_kind A ph x n).2.2, tq, tn, bq, sq, cq)) (ws' := fun u => wM E a u) (by decide) (Nat.le_of_ble_eq_true rfl) ?_
  intro pp e s m below meth c ls args Q ret X h hl
  have hl : lv_has ls 7 [(0, .ref (a 0)), (1, .int (iv (x))), (2, .int (iv (n)))] := hl
  have hR : RM mm A := hS.1.1
  have hI : IA A := hS.1.2.1
  have hr9 : hr A ≤ 99999 := hS.1.2.2
  have hF : RF 7 fd ph := hS.2.2.1
  have hK := hS.2.1
  have hT := hS.2.2.2.1
  have hB := hS.2.2.2.2
  have hh : hr A < 1000000 := by omega
  have n8 := hI.n8
  have n0 := hI.n0
  have h0 := hI.h0
  refine lv_aload_n X.1 X.2.1 dX5_kind_0 rfl (lv_at hl 0 rfl) ?_
  refine lv_iload_n X.1 X.2.1 dX5_kind_1 rfl (lv_at hl 1 rfl) ?_
  refine z_pi (run_V (rest := []) X h (c_X5_isPerson (p := x) hR hI r_x) mi_X5_isPerson ml_X5_48 ⟨Nat.le_of_ble_eq_true rfl, Nat.le_of_ble_eq_true rfl⟩ ⟨rfl, rfl⟩ (Seg.rfl' _) 4 0 rfl rfl rfl rfl hl.1 rfl (Nat.le_of_ble_eq_true rfl) ⟨Nat.zero_le _, Nat.zero_le _⟩ dX5_kind_2) ?_
  refine z_ifb_eq (tgt := 19) X dX5_kind_5 (by decide) (fun c_5 => ?_) (fun c_5 => ?_)
  · refine lv_aload_n X.1 X.2.1 dX5_kind_19 rfl (lv_at hl 0 rfl) ?_
    refine z_ldc (z := (-1000000001)) X ct_X5_38 (by decide) dX5_kind_20 ?_
    refine z_ai h (run_V (rest := []) X h (c_X5_finds (k := 0) hF (by decide) (by decide) (by decide)) mi_X5_finds ml_X5_40 ⟨Nat.le_of_ble_eq_true rfl, Nat.le_of_ble_eq_true rfl⟩ ⟨rfl, rfl⟩ (Seg.rfl' _) 4 0 rfl rfl rfl rfl hl.1 rfl (Nat.le_of_ble_eq_true rfl) ⟨Nat.zero_le _, Nat.zero_le _⟩ dX5_kind_22) (fun _ => rfl) (fun r fd1 H locs hp h => ?_)
    obtain ⟨rfl, hF1⟩ := hp
    have h : St E _ s H locs (wM E a (mm, kp, wa, (iv (ik)), fd1, gf, tp, (iv (tn)), (iv (tk)), (iv (bg)), (iv (pt)), (iv (vl)), (iv (bd)), bt, sz, cl)) := h
    have e9 : q_kind A ph x n = ((-1000000001), A, (bump ph 0)) := by unfold q_kind; (repeat (first | rw [if_pos (by omega)] | rw [if_neg (by omega)])); try rfl
    exact ret _ _ _ _ _ (mm, kp, wa, (iv (ik)), fd1, gf, tp, (iv (tn)), (iv (tk)), (iv (bg)), (iv (pt)), (iv (vl)), (iv (bd)), bt, sz, cl) h (by rw [e9]; exact ⟨rfl, ⟨hR, hI, hr9⟩, hK, hF1, hT, hB⟩) dX5_kind_25
  · refine lv_iload_n X.1 X.2.1 dX5_kind_8 rfl (lv_at hl 2 rfl) ?_
    refine lv_i2l (v := (iv (n)).toInt64) X.1 X.2.1 dX5_kind_9 rfl ?_
    refine z_iconst X dX5_kind_10 ?_
    refine z_bipush X (by decide) dX5_kind_11 ?_
    refine z_pi (run_S (rest := []) X h (c_inI r_n ⟨by decide, by decide⟩ ⟨by decide, by decide⟩) mi_X5_in ml_X5_44 ⟨Nat.le_of_ble_eq_true rfl, Nat.le_of_ble_eq_true rfl⟩ ⟨rfl, rfl⟩ (Seg.nil _) rfl hl.1 rfl (Nat.le_of_ble_eq_true rfl) ⟨Nat.zero_le _, Nat.zero_le _⟩ dX5_kind_13) ?_
    refine z_ifb_ne (tgt := 26) X dX5_kind_16 (by decide) (fun c_16 => ?_) (fun c_16 => ?_)
    · refine lv_aload_n X.1 X.2.1 dX5_kind_26 rfl (lv_at hl 0 rfl) ?_
      refine z_av h (run_V (rest := []) X h (c_X5_thinks) mi_X5_thinks ml_X5_139 ⟨Nat.le_of_ble_eq_true rfl, Nat.le_of_ble_eq_true rfl⟩ ⟨rfl, rfl⟩ (Seg.rfl' _) 4 0 rfl rfl rfl rfl hl.1 rfl (Nat.le_of_ble_eq_true rfl) ⟨Nat.zero_le _, Nat.zero_le _⟩ dX5_kind_27) (fun _ => rfl) (fun wa2 H locs hw2 h => ?_)
      have h : St E _ s H locs (wM E a (mm, kp, wa2, (iv (ik)), fd, gf, tp, (iv (tn)), (iv (tk)), (iv (bg)), (iv (pt)), (iv (vl)), (iv (bd)), bt, sz, cl)) := h
      have hT2 := RM_eq hR hI.n8 hw2
      refine z_iconst X dX5_kind_30 ?_
      refine lv_istore_n (lv' := [(3, .int (iv (0))), (0, .ref (a 0)), (1, .int (iv (x))), (2, .int (iv (n)))]) X.1 X.2.1 dX5_kind_31 rfl hl (by decide) rfl (fun ls hl => ?_)
      refine z_iconst X dX5_kind_32 ?_
      refine lv_istore (lv' := [(4, .int (iv ((-1)))), (3, .int (iv (0))), (0, .ref (a 0)), (1, .int (iv (x))), (2, .int (iv (n)))]) X.1 X.2.1 dX5_kind_33 hl (by decide) rfl (fun ls hl => ?_)
      refine z_iconst X dX5_kind_35 ?_
      refine lv_istore (lv' := [(5, .int (iv (0))), (4, .int (iv ((-1)))), (3, .int (iv (0))), (0, .ref (a 0)), (1, .int (iv (x))), (2, .int (iv (n)))]) X.1 X.2.1 dX5_kind_36 hl (by decide) rfl (fun ls hl => ?_)
      have L38 : ∀ (fuel_ : Nat) (i : Int) (b : Int) (w : Int) (mq : Nat → Int32) (gq : Nat → Int32), (0 ≤ i) → (i ≤ 6) → (RM mq A) → ((mostk tt1 (vKind A x n) i.toNat).2 = w) → ((i = 0 ∧ b = 0) ∨ (mostk tt1 (vKind A x n) i.toNat).1 = b) → 6 - i < (fuel_ : Int) → ∀ (H : Heap) (locs : List Loc), St E (wM E a (mm, kp, wa, (iv (ik)), fd, gf, tp, (iv (tn)), (iv (tk)), (iv (bg)), (iv (pt)), (iv (vl)), (iv (bd)), bt, sz, cl)) s H locs (wM E a (mq, kp, wa2, (iv (ik)), fd, gq, tp, (iv (tn)), (iv (tk)), (iv (bg)), (iv (pt)), (iv (vl)), (iv (bd)), bt, sz, cl)) → ∀ ls : Array Slot, lv_has ls 7 [(0, .ref (a 0)), (1, .int (iv (x))), (2, .int (iv (n))), (3, .int (iv (b))), (4, .int (iv (w))), (5, .int (iv (i)))] → W pp l e (rmk 8 179) s m args below meth c H locs 0 0 Q (F0 m 38 ls []) := by
        intro fuel_
        induction fuel_ with
        | zero =>
          intro i b w mq gq i0 i1 hv hm hb hn
          exfalso; omega
        | succ fuel_ ih =>
          intro i b w mq gq i0 i1 hv hm hb hn H locs h ls hl
          have rg := mostk_rng (may := tt1) (val := vKind A x n) i.toNat (fun j j0 j1 hj => vKind_rng hI (by omega) (by omega) j0 (by omega))
          have hw0 : i = 0 → w = -1 := fun e => by rw [← hm, e]; rfl
          refine lv_iload X.1 X.2.1 dX5_kind_38 (lv_at hl 5 rfl) ?_
          refine z_iconst X dX5_kind_40 ?_
          refine z_ic_gt (tgt := 96) X ⟨by omega, by omega⟩ ⟨by decide, by decide⟩ dX5_kind_41 (by decide) (fun c_41 => ?_) (fun c_41 => ?_)
          · refine lv_iload_n X.1 X.2.1 dX5_kind_96 rfl (lv_at hl 3 rfl) ?_
            have e9 : q_kind A ph x n = (b, A, ph) := by rcases hb with hb | hb <;> first | (exfalso; omega) | (rw [show i.toNat = 6 by omega] at hb; unfold q_kind; rw [if_neg (by omega), hb])
            exact ret _ _ _ _ _ (mq, kp, wa2, (iv (ik)), fd, gq, tp, (iv (tn)), (iv (tk)), (iv (bg)), (iv (pt)), (iv (vl)), (iv (bd)), bt, sz, cl) h (by rw [e9]; exact ⟨rfl, ⟨hv, hI, hr9⟩, hK, hF, hT, hB⟩) dX5_kind_97
          · refine lv_aload_n X.1 X.2.1 dX5_kind_44 rfl (lv_at hl 0 rfl) ?_
            refine lv_iload_n X.1 X.2.1 dX5_kind_45 rfl (lv_at hl 1 rfl) ?_
            refine z_iconst X dX5_kind_46 ?_
            refine lv_iload X.1 X.2.1 dX5_kind_47 (lv_at hl 5 rfl) ?_
            refine z_av h (run_V (rest := []) X h (c_X5_put (p := x) (w := 0) (v := i) hv hI.n8 (by omega) (by first | omega | (show x < pe A; omega)) (by omega) (by omega)) mi_X5_put ml_X5_91 ⟨Nat.le_of_ble_eq_true rfl, Nat.le_of_ble_eq_true rfl⟩ ⟨rfl, rfl⟩ (Seg.rfl' _) 4 0 rfl rfl rfl rfl hl.1 rfl (Nat.le_of_ble_eq_true rfl) ⟨Nat.zero_le _, Nat.zero_le _⟩ dX5_kind_49) (fun _ => rfl) (fun mp3 H locs hR3 h => ?_)
            have h : St E _ s H locs (wM E a (mp3, kp, wa2, (iv (ik)), fd, gq, tp, (iv (tn)), (iv (tk)), (iv (bg)), (iv (pt)), (iv (vl)), (iv (bd)), bt, sz, cl)) := h
            refine lv_aload_n X.1 X.2.1 dX5_kind_52 rfl (lv_at hl 0 rfl) ?_
            refine lv_iload_n X.1 X.2.1 dX5_kind_53 rfl (lv_at hl 1 rfl) ?_
            refine lv_iload_n X.1 X.2.1 dX5_kind_54 rfl (lv_at hl 2 rfl) ?_
            refine z_ai h (run_V (rest := []) X h (c_X5_brownOn (p := x) (k := n) hR3 (IA_pu hI (w := 0) (p := x) (v := i) (by omega) (by omega) (Or.inl ⟨rfl, by omega, by omega⟩)) (by omega) (by first | omega | (show x < pe A; omega)) (by omega) (by omega) (by first | omega | (show hr A + _ < 1000000; omega))) mi_X5_brownOn ml_X5_145 ⟨Nat.le_of_ble_eq_true rfl, Nat.le_of_ble_eq_true rfl⟩ ⟨rfl, rfl⟩ (Seg.rfl' _) 4 0 rfl rfl rfl rfl hl.1 rfl (Nat.le_of_ble_eq_true rfl) ⟨Nat.zero_le _, Nat.zero_le _⟩ dX5_kind_55) (fun _ => rfl) (fun r u H locs hp h => ?_)
            obtain ⟨mo4, go4⟩ := u
            have h : St E _ s H locs (wM E a (mo4, kp, wa2, (iv (ik)), fd, go4, tp, (iv (tn)), (iv (tk)), (iv (bg)), (iv (pt)), (iv (vl)), (iv (bd)), bt, sz, cl)) := h
            obtain ⟨rfl, hb4⟩ := hp
            have hR4 : RM mo4 A := RM_eq hT2 hI.n8 hb4
            have bR4 := brn_rng (stepn_IA (IA_pu hI (w := 0) (p := x) (v := i) (by omega) (by omega) (Or.inl ⟨rfl, by omega, by omega⟩)) n.toNat) (p := x) (by omega) (by rw [stepn_pe]; first | omega | (show x < pe A; omega))
            refine lv_istore (lv' := [(6, .int (iv (brn (stepn (pu A 0 x i) n.toNat) x))), (0, .ref (a 0)), (1, .int (iv (x))), (2, .int (iv (n))), (3, .int (iv (b))), (4, .int (iv (w))), (5, .int (iv (i)))]) X.1 X.2.1 dX5_kind_58 hl (by decide) rfl (fun ls hl => ?_)
            refine lv_iload X.1 X.2.1 dX5_kind_60 (lv_at hl 0 rfl) ?_
            refine lv_iload X.1 X.2.1 dX5_kind_62 (lv_at hl 5 rfl) ?_
            refine z_ic_le (tgt := 72) X ⟨by omega, by omega⟩ ⟨by omega, by omega⟩ dX5_kind_64 (by decide) (fun c_64 => ?_) (fun c_64 => ?_)
            · refine lv_iload_n X.1 X.2.1 dX5_kind_72 rfl (lv_at hl 4 rfl) ?_
              refine lv_istore_n (lv' := [(3, .int (iv (b))), (6, .int (iv (brn (stepn (pu A 0 x i) n.toNat) x))), (0, .ref (a 0)), (1, .int (iv (x))), (2, .int (iv (n))), (4, .int (iv (w))), (5, .int (iv (i)))]) X.1 X.2.1 dX5_kind_73 rfl hl (by decide) rfl (fun ls hl => ?_)
              refine lv_iload X.1 X.2.1 dX5_kind_74 (lv_at hl 1 rfl) ?_
              refine lv_iload X.1 X.2.1 dX5_kind_76 (lv_at hl 5 rfl) ?_
              refine z_ic_le (tgt := 86) X ⟨by omega, by omega⟩ ⟨by omega, by omega⟩ dX5_kind_78 (by decide) (fun c_78 => ?_) (fun c_78 => ?_)
              · refine lv_iload X.1 X.2.1 dX5_kind_86 (lv_at hl 5 rfl) ?_
                refine lv_istore (lv' := [(4, .int (iv (w))), (3, .int (iv (b))), (6, .int (iv (brn (stepn (pu A 0 x i) n.toNat) x))), (0, .ref (a 0)), (1, .int (iv (x))), (2, .int (iv (n))), (5, .int (iv (i)))]) X.1 X.2.1 dX5_kind_88 hl (by decide) rfl (fun ls hl => ?_)
                refine z_iinc (k := 6) (lv' := [(5, .int (iv (i + 1))), (4, .int (iv (w))), (3, .int (iv (b))), (6, .int (iv (brn (stepn (pu A 0 x i) n.toNat) x))), (0, .ref (a 0)), (1, .int (iv (x))), (2, .int (iv (n)))]) X dX5_kind_90 hl rfl (by decide) rfl (fun ls hl => ?_)
                refine lv_goto (tgt := 38) X.1 X.2.1 dX5_kind_93 (by decide) ?_
                exact ih (i + 1) (b) (w) (mo4) (go4) (by omega) (by omega) (hR4) (by rw [mostk_n i0 hm (fun _ => (show brn (stepn (pu A 0 x i) n.toNat) x ≤ w by omega))]; exact hm) (Or.inr (by rw [mostk_n i0 hm (fun _ => (show brn (stepn (pu A 0 x i) n.toNat) x ≤ w by omega))]; omega)) (by omega) _ _ h ls (lv_sub hl [4, 5, 6, 2, 1, 0] rfl)
              · exfalso; omega
            · refine lv_iload X.1 X.2.1 dX5_kind_67 (lv_at hl 6 rfl) ?_
              refine lv_goto (tgt := 73) X.1 X.2.1 dX5_kind_69 (by decide) ?_
              refine lv_istore_n (lv' := [(3, .int (iv (i))), (6, .int (iv (brn (stepn (pu A 0 x i) n.toNat) x))), (0, .ref (a 0)), (1, .int (iv (x))), (2, .int (iv (n))), (4, .int (iv (w))), (5, .int (iv (i)))]) X.1 X.2.1 dX5_kind_73 rfl hl (by decide) rfl (fun ls hl => ?_)
              refine lv_iload X.1 X.2.1 dX5_kind_74 (lv_at hl 1 rfl) ?_
              refine lv_iload X.1 X.2.1 dX5_kind_76 (lv_at hl 5 rfl) ?_
              refine z_ic_le (tgt := 86) X ⟨by omega, by omega⟩ ⟨by omega, by omega⟩ dX5_kind_78 (by decide) (fun c_78 => ?_) (fun c_78 => ?_)
              · exfalso; omega
              · refine lv_iload X.1 X.2.1 dX5_kind_81 (lv_at hl 1 rfl) ?_
                refine lv_goto (tgt := 88) X.1 X.2.1 dX5_kind_83 (by decide) ?_
                refine lv_istore (lv' := [(4, .int (iv (brn (stepn (pu A 0 x i) n.toNat) x))), (3, .int (iv (i))), (6, .int (iv (brn (stepn (pu A 0 x i) n.toNat) x))), (0, .ref (a 0)), (1, .int (iv (x))), (2, .int (iv (n))), (5, .int (iv (i)))]) X.1 X.2.1 dX5_kind_88 hl (by decide) rfl (fun ls hl => ?_)
                refine z_iinc (k := 6) (lv' := [(5, .int (iv (i + 1))), (4, .int (iv (brn (stepn (pu A 0 x i) n.toNat) x))), (3, .int (iv (i))), (6, .int (iv (brn (stepn (pu A 0 x i) n.toNat) x))), (0, .ref (a 0)), (1, .int (iv (x))), (2, .int (iv (n)))]) X dX5_kind_90 hl rfl (by decide) rfl (fun ls hl => ?_)
                refine lv_goto (tgt := 38) X.1 X.2.1 dX5_kind_93 (by decide) ?_
                exact ih (i + 1) (i) (brn (stepn (pu A 0 x i) n.toNat) x) (mo4) (go4) (by omega) (by omega) (hR4) (by rw [mostk_y i0 hm rfl (show w < brn (stepn (pu A 0 x i) n.toNat) x by omega)]; rfl) (Or.inr (by rw [mostk_y i0 hm rfl (show w < brn (stepn (pu A 0 x i) n.toNat) x by omega)])) (by omega) _ _ h ls (lv_sub hl [4, 5, 6, 2, 1, 0] rfl)
      exact L38 ((6 - (0) : Int).toNat + 1) (0) (0) (-1) (mm) (gf) (by omega) (by omega) (hR) (rfl) (Or.inl ⟨rfl, rfl⟩) (by omega) _ _ h ls (lv_sub hl [3, 4, 5, 2, 1, 0] rfl)
    · refine lv_aload_n X.1 X.2.1 dX5_kind_19 rfl (lv_at hl 0 rfl) ?_
      refine z_ldc (z := (-1000000001)) X ct_X5_38 (by decide) dX5_kind_20 ?_
      refine z_ai h (run_V (rest := []) X h (c_X5_finds (k := 0) hF (by decide) (by decide) (by decide)) mi_X5_finds ml_X5_40 ⟨Nat.le_of_ble_eq_true rfl, Nat.le_of_ble_eq_true rfl⟩ ⟨rfl, rfl⟩ (Seg.rfl' _) 4 0 rfl rfl rfl rfl hl.1 rfl (Nat.le_of_ble_eq_true rfl) ⟨Nat.zero_le _, Nat.zero_le _⟩ dX5_kind_22) (fun _ => rfl) (fun r fd5 H locs hp h => ?_)
      obtain ⟨rfl, hF5⟩ := hp
      have h : St E _ s H locs (wM E a (mm, kp, wa, (iv (ik)), fd5, gf, tp, (iv (tn)), (iv (tk)), (iv (bg)), (iv (pt)), (iv (vl)), (iv (bd)), bt, sz, cl)) := h
      have e9 : q_kind A ph x n = ((-1000000001), A, (bump ph 0)) := by unfold q_kind; (repeat (first | rw [if_pos (by omega)] | rw [if_neg (by omega)])); try rfl
      exact ret _ _ _ _ _ (mm, kp, wa, (iv (ik)), fd5, gf, tp, (iv (tn)), (iv (tk)), (iv (bg)), (iv (pt)), (iv (vl)), (iv (bd)), bt, sz, cl) h (by rw [e9]; exact ⟨rfl, ⟨hR, hI, hr9⟩, hK, hF5, hT, hB⟩) dX5_kind_25

set_option maxHeartbeats 4000000 in
theorem c_X5_send (hS : RepM (mm, kp, wa, (iv (ik)), fd, gf, tp, (iv (tn)), (iv (tk)), (iv (bg)), (iv (pt)), (iv (vl)), (iv (bd)), bt, sz, cl) (A, K, ik, ph, tq, tn, bq, sq, cq)) {n : Int} (r_n : r32 n) : MI (S := Mc) E l yX5_send cX5_send 7 (some FieldType.int) (rmk 7 156) (wM E a (mm, kp, wa, (iv (ik)), fd, gf, tp, (iv (tn)), (iv (tk)), (iv (bg)), (iv (pt)), (iv (vl)), (iv (bd)), bt, sz, cl)) [.ref (a 0), .int (iv (n))] (fun r u => r = iv (q_send A ph n).1 ∧ RepM u ((q_send A ph n).2.1, K, ik, (q_send A ph n).2.2, tq, tn, bq, sq, cq)) (fun u => wM E a u) := by
  refine goI (S := Mc) (post := fun r u => r = iv (q_send A ph n).1 ∧ RepM u ((q_send A ph n).2.1, K, ik, (q_send A ph n).2.2, tq, tn, bq, sq, cq)) (ws' := fun u => wM E a u) (by decide) (Nat.le_of_ble_eq_true rfl) ?_
  intro pp e s m below meth c ls args Q ret X h hl
  have hl : lv_has ls 7 [(0, .ref (a 0)), (1, .int (iv (n)))] := hl
  have hR : RM mm A := hS.1.1
  have hI : IA A := hS.1.2.1
  have hr9 : hr A ≤ 99999 := hS.1.2.2
  have hF : RF 7 fd ph := hS.2.2.1
  have hK := hS.2.1
  have hT := hS.2.2.2.1
  have hB := hS.2.2.2.2
  have hh : hr A < 1000000 := by omega
  have n8 := hI.n8
  have n0 := hI.n0
  have h0 := hI.h0
  refine lv_iload_n X.1 X.2.1 dX5_send_0 rfl (lv_at hl 1 rfl) ?_
  refine lv_i2l (v := (iv (n)).toInt64) X.1 X.2.1 dX5_send_1 rfl ?_
  refine z_iconst X dX5_send_2 ?_
  refine z_bipush X (by decide) dX5_send_3 ?_
  refine z_pi (run_S (rest := []) X h (c_inI r_n ⟨by decide, by decide⟩ ⟨by decide, by decide⟩) mi_X5_in ml_X5_44 ⟨Nat.le_of_ble_eq_true rfl, Nat.le_of_ble_eq_true rfl⟩ ⟨rfl, rfl⟩ (Seg.nil _) rfl hl.1 rfl (Nat.le_of_ble_eq_true rfl) ⟨Nat.zero_le _, Nat.zero_le _⟩ dX5_send_5) ?_
  refine z_ifb_ne (tgt := 18) X dX5_send_8 (by decide) (fun c_8 => ?_) (fun c_8 => ?_)
  · refine lv_aload_n X.1 X.2.1 dX5_send_18 rfl (lv_at hl 0 rfl) ?_
    refine z_av h (run_V (rest := []) X h (c_X5_thinks) mi_X5_thinks ml_X5_139 ⟨Nat.le_of_ble_eq_true rfl, Nat.le_of_ble_eq_true rfl⟩ ⟨rfl, rfl⟩ (Seg.rfl' _) 4 0 rfl rfl rfl rfl hl.1 rfl (Nat.le_of_ble_eq_true rfl) ⟨Nat.zero_le _, Nat.zero_le _⟩ dX5_send_19) (fun _ => rfl) (fun wa1 H locs hw1 h => ?_)
    have h : St E _ s H locs (wM E a (mm, kp, wa1, (iv (ik)), fd, gf, tp, (iv (tn)), (iv (tk)), (iv (bg)), (iv (pt)), (iv (vl)), (iv (bd)), bt, sz, cl)) := h
    have hT1 := RM_eq hR hI.n8 hw1
    refine z_iconst X dX5_send_22 ?_
    refine lv_istore_n (lv' := [(2, .int (iv ((-1)))), (0, .ref (a 0)), (1, .int (iv (n)))]) X.1 X.2.1 dX5_send_23 rfl hl (by decide) rfl (fun ls hl => ?_)
    refine z_iconst X dX5_send_24 ?_
    refine lv_istore_n (lv' := [(3, .int (iv (0))), (2, .int (iv ((-1)))), (0, .ref (a 0)), (1, .int (iv (n)))]) X.1 X.2.1 dX5_send_25 rfl hl (by decide) rfl (fun ls hl => ?_)
    refine z_iconst X dX5_send_26 ?_
    refine lv_istore (lv' := [(4, .int (iv (0))), (3, .int (iv (0))), (2, .int (iv ((-1)))), (0, .ref (a 0)), (1, .int (iv (n)))]) X.1 X.2.1 dX5_send_27 hl (by decide) rfl (fun ls hl => ?_)
    have L29 : ∀ (fuel_ : Nat) (i : Int) (b : Int) (w : Int) (mq : Nat → Int32) (gq : Nat → Int32), (0 ≤ i) → (i ≤ pe A) → (RM mq A) → (leastk (sitB A) (vSend A n) i.toNat = (b, w)) → pe A - i < (fuel_ : Int) → ∀ (H : Heap) (locs : List Loc), St E (wM E a (mm, kp, wa, (iv (ik)), fd, gf, tp, (iv (tn)), (iv (tk)), (iv (bg)), (iv (pt)), (iv (vl)), (iv (bd)), bt, sz, cl)) s H locs (wM E a (mq, kp, wa1, (iv (ik)), fd, gq, tp, (iv (tn)), (iv (tk)), (iv (bg)), (iv (pt)), (iv (vl)), (iv (bd)), bt, sz, cl)) → ∀ ls : Array Slot, lv_has ls 7 [(0, .ref (a 0)), (1, .int (iv (n))), (2, .int (iv (b))), (3, .int (iv (w))), (4, .int (iv (i)))] → W pp l e (rmk 7 156) s m args below meth c H locs 0 0 Q (F0 m 29 ls []) := by
      intro fuel_
      induction fuel_ with
      | zero =>
        intro i b w mq gq i0 i1 hv hm hn
        exfalso; omega
      | succ fuel_ ih =>
        intro i b w mq gq i0 i1 hv hm hn H locs h ls hl
        have hm2 : (leastk (sitB A) (vSend A n) i.toNat).2 = w := by rw [hm]
        have rg := leastk_rng (may := (sitB A)) (val := (vSend A n)) i.toNat (fun j j0 j1 hj => vSend_rng hI j0 (by omega))
        rw [hm] at rg; dsimp only at rg
        refine lv_iload X.1 X.2.1 dX5_send_29 (lv_at hl 4 rfl) ?_
        refine lv_aload_n X.1 X.2.1 dX5_send_31 rfl (lv_at hl 0 rfl) ?_
        refine z_get X h 4 0 0 rfl inX5 rfl (by decide) fl_X5_9 rfl dX5_send_32 ?_
        refine z_iconst X dX5_send_35 ?_
        refine z_iald (v := pe A) X h 1 rfl (by omega) (by omega) (by decide) hv.2.1 dX5_send_36 ?_
        refine z_ic_ge (tgt := 120) X ⟨by omega, by omega⟩ ⟨by omega, by omega⟩ dX5_send_37 (by decide) (fun c_37 => ?_) (fun c_37 => ?_)
        · refine lv_aload_n X.1 X.2.1 dX5_send_120 rfl (lv_at hl 0 rfl) ?_
          refine lv_iload_n X.1 X.2.1 dX5_send_121 rfl (lv_at hl 2 rfl) ?_
          refine z_ai h (run_V (rest := []) X h (c_X5_orNone (v := b) hF ⟨by omega, by omega⟩) mi_X5_orNone ml_X5_148 ⟨Nat.le_of_ble_eq_true rfl, Nat.le_of_ble_eq_true rfl⟩ ⟨rfl, rfl⟩ (Seg.rfl' _) 4 0 rfl rfl rfl rfl hl.1 rfl (Nat.le_of_ble_eq_true rfl) ⟨Nat.zero_le _, Nat.zero_le _⟩ dX5_send_122) (fun _ => rfl) (fun r fd2 H locs hp h => ?_)
          obtain ⟨rfl, hF2⟩ := hp
          have h : St E _ s H locs (wM E a (mq, kp, wa1, (iv (ik)), fd2, gq, tp, (iv (tn)), (iv (tk)), (iv (bg)), (iv (pt)), (iv (vl)), (iv (bd)), bt, sz, cl)) := h
          have e9 : q_send A ph n = (if b < 0 then fz 3 else b, A, (if b < 0 then bump ph 3 else ph)) := by have hm9 := hm; rw [show i.toNat = (pe A).toNat by omega] at hm9; unfold q_send; rw [if_neg (by omega), hm9]; unfold orN; dsimp only; split <;> rfl
          exact ret _ _ _ _ _ (mq, kp, wa1, (iv (ik)), fd2, gq, tp, (iv (tn)), (iv (tk)), (iv (bg)), (iv (pt)), (iv (vl)), (iv (bd)), bt, sz, cl) h (by rw [e9]; exact ⟨rfl, ⟨hv, hI, hr9⟩, hK, hF2, hT, hB⟩) dX5_send_125
        · refine lv_aload_n X.1 X.2.1 dX5_send_40 rfl (lv_at hl 0 rfl) ?_
          refine lv_iload X.1 X.2.1 dX5_send_41 (lv_at hl 4 rfl) ?_
          refine z_pi (run_V (rest := []) X h (c_X5_sits (p := i) hv hI (by omega) (by omega)) mi_X5_sits ml_X5_56 ⟨Nat.le_of_ble_eq_true rfl, Nat.le_of_ble_eq_true rfl⟩ ⟨rfl, rfl⟩ (Seg.rfl' _) 4 0 rfl rfl rfl rfl hl.1 rfl (Nat.le_of_ble_eq_true rfl) ⟨Nat.zero_le _, Nat.zero_le _⟩ dX5_send_43) ?_
          refine z_ifb_eq (tgt := 114) X dX5_send_46 (by decide) (fun c_46 => ?_) (fun c_46 => ?_)
          · refine z_iinc (k := 4) (lv' := [(4, .int (iv (i + 1))), (0, .ref (a 0)), (1, .int (iv (n))), (2, .int (iv (b))), (3, .int (iv (w)))]) X dX5_send_114 hl rfl (by decide) rfl (fun ls hl => ?_)
            refine lv_goto (tgt := 29) X.1 X.2.1 dX5_send_117 (by decide) ?_
            exact ih (i + 1) (b) (w) (mq) (gq) (by omega) (by omega) (hv) ((leastk_n i0 hm (fun hq => by simp only [sitB, decide_eq_true_eq] at hq; omega)).trans hm) (by omega) _ _ h ls (lv_sub hl [1, 2, 3, 4, 0] rfl)
          · refine lv_aload_n X.1 X.2.1 dX5_send_49 rfl (lv_at hl 0 rfl) ?_
            refine lv_iload X.1 X.2.1 dX5_send_50 (lv_at hl 4 rfl) ?_
            refine z_iconst X dX5_send_52 ?_
            refine z_iconst X dX5_send_53 ?_
            refine z_av h (run_V (rest := []) X h (c_X5_put (p := i) (w := 1) (v := ((-1))) hv hI.n8 (by omega) (by first | omega | (show i < pe A; omega)) (by omega) (by omega)) mi_X5_put ml_X5_91 ⟨Nat.le_of_ble_eq_true rfl, Nat.le_of_ble_eq_true rfl⟩ ⟨rfl, rfl⟩ (Seg.rfl' _) 4 0 rfl rfl rfl rfl hl.1 rfl (Nat.le_of_ble_eq_true rfl) ⟨Nat.zero_le _, Nat.zero_le _⟩ dX5_send_54) (fun _ => rfl) (fun mp3 H locs hR3 h => ?_)
            have h : St E _ s H locs (wM E a (mp3, kp, wa1, (iv (ik)), fd, gq, tp, (iv (tn)), (iv (tk)), (iv (bg)), (iv (pt)), (iv (vl)), (iv (bd)), bt, sz, cl)) := h
            have sR := vSend_rng hI (n := n) (p := i) (by omega) (by omega)
            unfold vSend at sR
            refine lv_aload_n X.1 X.2.1 dX5_send_57 rfl (lv_at hl 0 rfl) ?_
            refine lv_iload_n X.1 X.2.1 dX5_send_58 rfl (lv_at hl 1 rfl) ?_
            refine z_av h (run_V (rest := []) X h (c_X5_goesFor (k := n) hR3 (IA_goes hI (p := i) (by omega) (by omega)) (by omega) (by omega) (by first | omega | (show hr A + _ < 1000000; omega))) mi_X5_goesFor ml_X5_131 ⟨Nat.le_of_ble_eq_true rfl, Nat.le_of_ble_eq_true rfl⟩ ⟨rfl, rfl⟩ (Seg.rfl' _) 4 0 rfl rfl rfl rfl hl.1 rfl (Nat.le_of_ble_eq_true rfl) ⟨Nat.zero_le _, Nat.zero_le _⟩ dX5_send_59) (fun _ => rfl) (fun u H locs hp h => ?_)
            obtain ⟨mg4, gg4⟩ := u
            have h : St E _ s H locs (wM E a (mg4, kp, wa1, (iv (ik)), fd, gg4, tp, (iv (tn)), (iv (tk)), (iv (bg)), (iv (pt)), (iv (vl)), (iv (bd)), bt, sz, cl)) := h
            have hR4 : RM mg4 (stepn (pu A 1 i (-1)) n.toNat) := hp
            have pn4 : pe (stepn (pu A 1 i (-1)) n.toNat) = pe (pu A 1 i (-1)) := stepn_pe _ _
            refine lv_aload_n X.1 X.2.1 dX5_send_62 rfl (lv_at hl 0 rfl) ?_
            refine z_iconst X dX5_send_63 ?_
            refine z_pi (run_V (rest := []) X h (c_X5_sums (wh := 4) hR4 (stepn_IA (IA_goes hI (p := i) (by omega) (by omega)) n.toNat) (by decide) (by decide)) mi_X5_sums ml_X5_76 ⟨Nat.le_of_ble_eq_true rfl, Nat.le_of_ble_eq_true rfl⟩ ⟨rfl, rfl⟩ (Seg.rfl' _) 4 0 rfl rfl rfl rfl hl.1 rfl (Nat.le_of_ble_eq_true rfl) ⟨Nat.zero_le _, Nat.zero_le _⟩ dX5_send_64) ?_
            refine lv_istore (lv' := [(5, .int (iv (sums (stepn (pu A 1 i (-1)) n.toNat) 4))), (0, .ref (a 0)), (1, .int (iv (n))), (2, .int (iv (b))), (3, .int (iv (w))), (4, .int (iv (i)))]) X.1 X.2.1 dX5_send_67 hl (by decide) rfl (fun ls hl => ?_)
            refine lv_aload_n X.1 X.2.1 dX5_send_69 rfl (lv_at hl 1 rfl) ?_
            refine z_av h (run_V (rest := []) X h (c_X5_putsBack) mi_X5_putsBack ml_X5_142 ⟨Nat.le_of_ble_eq_true rfl, Nat.le_of_ble_eq_true rfl⟩ ⟨rfl, rfl⟩ (Seg.rfl' _) 4 0 rfl rfl rfl rfl hl.1 rfl (Nat.le_of_ble_eq_true rfl) ⟨Nat.zero_le _, Nat.zero_le _⟩ dX5_send_70) (fun _ => rfl) (fun mb5 H locs hb5 h => ?_)
            have h : St E _ s H locs (wM E a (mb5, kp, wa1, (iv (ik)), fd, gg4, tp, (iv (tn)), (iv (tk)), (iv (bg)), (iv (pt)), (iv (vl)), (iv (bd)), bt, sz, cl)) := h
            have hR5 := RM_eq hT1 hI.n8 hb5
            refine lv_iload_n X.1 X.2.1 dX5_send_73 rfl (lv_at hl 3 rfl) ?_
            refine z_if_lt (tgt := 83) X ⟨by omega, by omega⟩ dX5_send_74 (by decide) (fun c_74 => ?_) (fun c_74 => ?_)
            · refine z_iconst X dX5_send_83 ?_
              refine lv_goto (tgt := 88) X.1 X.2.1 dX5_send_84 (by decide) ?_
              refine lv_istore (lv' := [(6, .int (iv (1))), (5, .int (iv (sums (stepn (pu A 1 i (-1)) n.toNat) 4))), (0, .ref (a 0)), (1, .int (iv (n))), (2, .int (iv (b))), (3, .int (iv (w))), (4, .int (iv (i)))]) X.1 X.2.1 dX5_send_88 hl (by decide) rfl (fun ls hl => ?_)
              refine lv_iload X.1 X.2.1 dX5_send_90 (lv_at hl 0 rfl) ?_
              refine z_if_eq (tgt := 100) X ⟨by decide, by decide⟩ dX5_send_92 (by decide) (fun c_92 => ?_) (fun c_92 => ?_)
              · exact absurd c_92 (by decide)
              · refine lv_iload X.1 X.2.1 dX5_send_95 (lv_at hl 6 rfl) ?_
                refine lv_goto (tgt := 101) X.1 X.2.1 dX5_send_97 (by decide) ?_
                refine lv_istore_n (lv' := [(2, .int (iv (i))), (6, .int (iv (1))), (5, .int (iv (sums (stepn (pu A 1 i (-1)) n.toNat) 4))), (0, .ref (a 0)), (1, .int (iv (n))), (3, .int (iv (w))), (4, .int (iv (i)))]) X.1 X.2.1 dX5_send_101 rfl hl (by decide) rfl (fun ls hl => ?_)
                refine lv_iload X.1 X.2.1 dX5_send_102 (lv_at hl 1 rfl) ?_
                refine z_if_eq (tgt := 112) X ⟨by decide, by decide⟩ dX5_send_104 (by decide) (fun c_104 => ?_) (fun c_104 => ?_)
                · exact absurd c_104 (by decide)
                · refine lv_iload X.1 X.2.1 dX5_send_107 (lv_at hl 2 rfl) ?_
                  refine lv_goto (tgt := 113) X.1 X.2.1 dX5_send_109 (by decide) ?_
                  refine lv_istore_n (lv' := [(3, .int (iv (sums (stepn (pu A 1 i (-1)) n.toNat) 4))), (2, .int (iv (i))), (6, .int (iv (1))), (5, .int (iv (sums (stepn (pu A 1 i (-1)) n.toNat) 4))), (0, .ref (a 0)), (1, .int (iv (n))), (4, .int (iv (i)))]) X.1 X.2.1 dX5_send_113 rfl hl (by decide) rfl (fun ls hl => ?_)
                  refine z_iinc (k := 6) (lv' := [(4, .int (iv (i + 1))), (3, .int (iv (sums (stepn (pu A 1 i (-1)) n.toNat) 4))), (2, .int (iv (i))), (6, .int (iv (1))), (5, .int (iv (sums (stepn (pu A 1 i (-1)) n.toNat) 4))), (0, .ref (a 0)), (1, .int (iv (n)))]) X dX5_send_114 hl rfl (by decide) rfl (fun ls hl => ?_)
                  refine lv_goto (tgt := 29) X.1 X.2.1 dX5_send_117 (by decide) ?_
                  exact ih (i + 1) (i) (sums (stepn (pu A 1 i (-1)) n.toNat) 4) (mb5) (gg4) (by omega) (by omega) (hR5) (leastk_y i0 hm (by simp only [sitB, decide_eq_true_eq]; omega) (show b < 0 ∨ sums (stepn (pu A 1 i (-1)) n.toNat) 4 < w by omega)) (by omega) _ _ h ls (lv_sub hl [5, 6, 2, 1, 0] rfl)
            · refine lv_iload X.1 X.2.1 dX5_send_77 (lv_at hl 0 rfl) ?_
              refine lv_iload_n X.1 X.2.1 dX5_send_79 rfl (lv_at hl 4 rfl) ?_
              refine z_ic_ge (tgt := 87) X ⟨by omega, by omega⟩ ⟨by omega, by omega⟩ dX5_send_80 (by decide) (fun c_80 => ?_) (fun c_80 => ?_)
              · refine z_iconst X dX5_send_87 ?_
                refine lv_istore (lv' := [(6, .int (iv (0))), (5, .int (iv (sums (stepn (pu A 1 i (-1)) n.toNat) 4))), (0, .ref (a 0)), (1, .int (iv (n))), (2, .int (iv (b))), (3, .int (iv (w))), (4, .int (iv (i)))]) X.1 X.2.1 dX5_send_88 hl (by decide) rfl (fun ls hl => ?_)
                refine lv_iload X.1 X.2.1 dX5_send_90 (lv_at hl 0 rfl) ?_
                refine z_if_eq (tgt := 100) X ⟨by decide, by decide⟩ dX5_send_92 (by decide) (fun c_92 => ?_) (fun c_92 => ?_)
                · refine lv_iload_n X.1 X.2.1 dX5_send_100 rfl (lv_at hl 4 rfl) ?_
                  refine lv_istore_n (lv' := [(2, .int (iv (b))), (6, .int (iv (0))), (5, .int (iv (sums (stepn (pu A 1 i (-1)) n.toNat) 4))), (0, .ref (a 0)), (1, .int (iv (n))), (3, .int (iv (w))), (4, .int (iv (i)))]) X.1 X.2.1 dX5_send_101 rfl hl (by decide) rfl (fun ls hl => ?_)
                  refine lv_iload X.1 X.2.1 dX5_send_102 (lv_at hl 1 rfl) ?_
                  refine z_if_eq (tgt := 112) X ⟨by decide, by decide⟩ dX5_send_104 (by decide) (fun c_104 => ?_) (fun c_104 => ?_)
                  · refine lv_iload_n X.1 X.2.1 dX5_send_112 rfl (lv_at hl 5 rfl) ?_
                    refine lv_istore_n (lv' := [(3, .int (iv (w))), (2, .int (iv (b))), (6, .int (iv (0))), (5, .int (iv (sums (stepn (pu A 1 i (-1)) n.toNat) 4))), (0, .ref (a 0)), (1, .int (iv (n))), (4, .int (iv (i)))]) X.1 X.2.1 dX5_send_113 rfl hl (by decide) rfl (fun ls hl => ?_)
                    refine z_iinc (k := 6) (lv' := [(4, .int (iv (i + 1))), (3, .int (iv (w))), (2, .int (iv (b))), (6, .int (iv (0))), (5, .int (iv (sums (stepn (pu A 1 i (-1)) n.toNat) 4))), (0, .ref (a 0)), (1, .int (iv (n)))]) X dX5_send_114 hl rfl (by decide) rfl (fun ls hl => ?_)
                    refine lv_goto (tgt := 29) X.1 X.2.1 dX5_send_117 (by decide) ?_
                    exact ih (i + 1) (b) (w) (mb5) (gg4) (by omega) (by omega) (hR5) ((leastk_n i0 hm (fun _ => (show ¬ (b < 0 ∨ sums (stepn (pu A 1 i (-1)) n.toNat) 4 < w) by omega))).trans hm) (by omega) _ _ h ls (lv_sub hl [5, 6, 2, 1, 0] rfl)
                  · exact absurd c_104 (by decide)
                · exact absurd c_92 (by decide)
              · refine z_iconst X dX5_send_83 ?_
                refine lv_goto (tgt := 88) X.1 X.2.1 dX5_send_84 (by decide) ?_
                refine lv_istore (lv' := [(6, .int (iv (1))), (5, .int (iv (sums (stepn (pu A 1 i (-1)) n.toNat) 4))), (0, .ref (a 0)), (1, .int (iv (n))), (2, .int (iv (b))), (3, .int (iv (w))), (4, .int (iv (i)))]) X.1 X.2.1 dX5_send_88 hl (by decide) rfl (fun ls hl => ?_)
                refine lv_iload X.1 X.2.1 dX5_send_90 (lv_at hl 0 rfl) ?_
                refine z_if_eq (tgt := 100) X ⟨by decide, by decide⟩ dX5_send_92 (by decide) (fun c_92 => ?_) (fun c_92 => ?_)
                · exact absurd c_92 (by decide)
                · refine lv_iload X.1 X.2.1 dX5_send_95 (lv_at hl 6 rfl) ?_
                  refine lv_goto (tgt := 101) X.1 X.2.1 dX5_send_97 (by decide) ?_
                  refine lv_istore_n (lv' := [(2, .int (iv (i))), (6, .int (iv (1))), (5, .int (iv (sums (stepn (pu A 1 i (-1)) n.toNat) 4))), (0, .ref (a 0)), (1, .int (iv (n))), (3, .int (iv (w))), (4, .int (iv (i)))]) X.1 X.2.1 dX5_send_101 rfl hl (by decide) rfl (fun ls hl => ?_)
                  refine lv_iload X.1 X.2.1 dX5_send_102 (lv_at hl 1 rfl) ?_
                  refine z_if_eq (tgt := 112) X ⟨by decide, by decide⟩ dX5_send_104 (by decide) (fun c_104 => ?_) (fun c_104 => ?_)
                  · exact absurd c_104 (by decide)
                  · refine lv_iload X.1 X.2.1 dX5_send_107 (lv_at hl 2 rfl) ?_
                    refine lv_goto (tgt := 113) X.1 X.2.1 dX5_send_109 (by decide) ?_
                    refine lv_istore_n (lv' := [(3, .int (iv (sums (stepn (pu A 1 i (-1)) n.toNat) 4))), (2, .int (iv (i))), (6, .int (iv (1))), (5, .int (iv (sums (stepn (pu A 1 i (-1)) n.toNat) 4))), (0, .ref (a 0)), (1, .int (iv (n))), (4, .int (iv (i)))]) X.1 X.2.1 dX5_send_113 rfl hl (by decide) rfl (fun ls hl => ?_)
                    refine z_iinc (k := 6) (lv' := [(4, .int (iv (i + 1))), (3, .int (iv (sums (stepn (pu A 1 i (-1)) n.toNat) 4))), (2, .int (iv (i))), (6, .int (iv (1))), (5, .int (iv (sums (stepn (pu A 1 i (-1)) n.toNat) 4))), (0, .ref (a 0)), (1, .int (iv (n)))]) X dX5_send_114 hl rfl (by decide) rfl (fun ls hl => ?_)
                    refine lv_goto (tgt := 29) X.1 X.2.1 dX5_send_117 (by decide) ?_
                    exact ih (i + 1) (i) (sums (stepn (pu A 1 i (-1)) n.toNat) 4) (mb5) (gg4) (by omega) (by omega) (hR5) (leastk_y i0 hm (by simp only [sitB, decide_eq_true_eq]; omega) (show b < 0 ∨ sums (stepn (pu A 1 i (-1)) n.toNat) 4 < w by omega)) (by omega) _ _ h ls (lv_sub hl [5, 6, 2, 1, 0] rfl)
    exact L29 ((pe A - (0) : Int).toNat + 1) (0) (-1) (0) (mm) (gf) (by omega) (by omega) (hR) (rfl) (by omega) _ _ h ls (lv_sub hl [3, 4, 2, 1, 0] rfl)
  · refine lv_aload_n X.1 X.2.1 dX5_send_11 rfl (lv_at hl 0 rfl) ?_
    refine z_ldc (z := (-1000000001)) X ct_X5_38 (by decide) dX5_send_12 ?_
    refine z_ai h (run_V (rest := []) X h (c_X5_finds (k := 0) hF (by decide) (by decide) (by decide)) mi_X5_finds ml_X5_40 ⟨Nat.le_of_ble_eq_true rfl, Nat.le_of_ble_eq_true rfl⟩ ⟨rfl, rfl⟩ (Seg.rfl' _) 4 0 rfl rfl rfl rfl hl.1 rfl (Nat.le_of_ble_eq_true rfl) ⟨Nat.zero_le _, Nat.zero_le _⟩ dX5_send_14) (fun _ => rfl) (fun r fd6 H locs hp h => ?_)
    obtain ⟨rfl, hF6⟩ := hp
    have h : St E _ s H locs (wM E a (mm, kp, wa, (iv (ik)), fd6, gf, tp, (iv (tn)), (iv (tk)), (iv (bg)), (iv (pt)), (iv (vl)), (iv (bd)), bt, sz, cl)) := h
    have e9 : q_send A ph n = ((-1000000001), A, (bump ph 0)) := by unfold q_send; (repeat (first | rw [if_pos (by omega)] | rw [if_neg (by omega)])); try rfl
    exact ret _ _ _ _ _ (mm, kp, wa, (iv (ik)), fd6, gf, tp, (iv (tn)), (iv (tk)), (iv (bg)), (iv (pt)), (iv (vl)), (iv (bd)), bt, sz, cl) h (by rw [e9]; exact ⟨rfl, ⟨hR, hI, hr9⟩, hK, hF6, hT, hB⟩) dX5_send_17

set_option maxHeartbeats 4000000 in
theorem c_X5_cloud (hS : RepM (mm, kp, wa, (iv (ik)), fd, gf, tp, (iv (tn)), (iv (tk)), (iv (bg)), (iv (pt)), (iv (vl)), (iv (bd)), bt, sz, cl) (A, K, ik, ph, tq, tn, bq, sq, cq)) {n : Int} (r_n : r32 n) : MI (S := Mc) E l yX5_cloud cX5_cloud 7 (some FieldType.int) (rmk 7 156) (wM E a (mm, kp, wa, (iv (ik)), fd, gf, tp, (iv (tn)), (iv (tk)), (iv (bg)), (iv (pt)), (iv (vl)), (iv (bd)), bt, sz, cl)) [.ref (a 0), .int (iv (n))] (fun r u => r = iv (q_cloud A ph n).1 ∧ RepM u ((q_cloud A ph n).2.1, K, ik, (q_cloud A ph n).2.2, tq, tn, bq, sq, cq)) (fun u => wM E a u) := by
  refine goI (S := Mc) (post := fun r u => r = iv (q_cloud A ph n).1 ∧ RepM u ((q_cloud A ph n).2.1, K, ik, (q_cloud A ph n).2.2, tq, tn, bq, sq, cq)) (ws' := fun u => wM E a u) (by decide) (Nat.le_of_ble_eq_true rfl) ?_
  intro pp e s m below meth c ls args Q ret X h hl
  have hl : lv_has ls 7 [(0, .ref (a 0)), (1, .int (iv (n)))] := hl
  have hR : RM mm A := hS.1.1
  have hI : IA A := hS.1.2.1
  have hr9 : hr A ≤ 99999 := hS.1.2.2
  have hF : RF 7 fd ph := hS.2.2.1
  have hK := hS.2.1
  have hT := hS.2.2.2.1
  have hB := hS.2.2.2.2
  have hh : hr A < 1000000 := by omega
  have n8 := hI.n8
  have n0 := hI.n0
  have h0 := hI.h0
  refine lv_iload_n X.1 X.2.1 dX5_cloud_0 rfl (lv_at hl 1 rfl) ?_
  refine lv_i2l (v := (iv (n)).toInt64) X.1 X.2.1 dX5_cloud_1 rfl ?_
  refine z_iconst X dX5_cloud_2 ?_
  refine z_bipush X (by decide) dX5_cloud_3 ?_
  refine z_pi (run_S (rest := []) X h (c_inI r_n ⟨by decide, by decide⟩ ⟨by decide, by decide⟩) mi_X5_in ml_X5_44 ⟨Nat.le_of_ble_eq_true rfl, Nat.le_of_ble_eq_true rfl⟩ ⟨rfl, rfl⟩ (Seg.nil _) rfl hl.1 rfl (Nat.le_of_ble_eq_true rfl) ⟨Nat.zero_le _, Nat.zero_le _⟩ dX5_cloud_5) ?_
  refine z_ifb_ne (tgt := 18) X dX5_cloud_8 (by decide) (fun c_8 => ?_) (fun c_8 => ?_)
  · refine lv_aload_n X.1 X.2.1 dX5_cloud_18 rfl (lv_at hl 0 rfl) ?_
    refine z_av h (run_V (rest := []) X h (c_X5_thinks) mi_X5_thinks ml_X5_139 ⟨Nat.le_of_ble_eq_true rfl, Nat.le_of_ble_eq_true rfl⟩ ⟨rfl, rfl⟩ (Seg.rfl' _) 4 0 rfl rfl rfl rfl hl.1 rfl (Nat.le_of_ble_eq_true rfl) ⟨Nat.zero_le _, Nat.zero_le _⟩ dX5_cloud_19) (fun _ => rfl) (fun wa1 H locs hw1 h => ?_)
    have h : St E _ s H locs (wM E a (mm, kp, wa1, (iv (ik)), fd, gf, tp, (iv (tn)), (iv (tk)), (iv (bg)), (iv (pt)), (iv (vl)), (iv (bd)), bt, sz, cl)) := h
    have hT1 := RM_eq hR hI.n8 hw1
    refine z_iconst X dX5_cloud_22 ?_
    refine lv_istore_n (lv' := [(2, .int (iv ((-1)))), (0, .ref (a 0)), (1, .int (iv (n)))]) X.1 X.2.1 dX5_cloud_23 rfl hl (by decide) rfl (fun ls hl => ?_)
    refine z_iconst X dX5_cloud_24 ?_
    refine lv_istore_n (lv' := [(3, .int (iv (0))), (2, .int (iv ((-1)))), (0, .ref (a 0)), (1, .int (iv (n)))]) X.1 X.2.1 dX5_cloud_25 rfl hl (by decide) rfl (fun ls hl => ?_)
    refine z_iconst X dX5_cloud_26 ?_
    refine lv_istore (lv' := [(4, .int (iv (0))), (3, .int (iv (0))), (2, .int (iv ((-1)))), (0, .ref (a 0)), (1, .int (iv (n)))]) X.1 X.2.1 dX5_cloud_27 hl (by decide) rfl (fun ls hl => ?_)
    have L29 : ∀ (fuel_ : Nat) (i : Int) (b : Int) (w : Int) (mq : Nat → Int32) (gq : Nat → Int32), (0 ≤ i) → (i ≤ 10) → (RM mq A) → (leastk tt1 (vCloud A n) i.toNat = (b, w)) → 10 - i < (fuel_ : Int) → ∀ (H : Heap) (locs : List Loc), St E (wM E a (mm, kp, wa, (iv (ik)), fd, gf, tp, (iv (tn)), (iv (tk)), (iv (bg)), (iv (pt)), (iv (vl)), (iv (bd)), bt, sz, cl)) s H locs (wM E a (mq, kp, wa1, (iv (ik)), fd, gq, tp, (iv (tn)), (iv (tk)), (iv (bg)), (iv (pt)), (iv (vl)), (iv (bd)), bt, sz, cl)) → ∀ ls : Array Slot, lv_has ls 7 [(0, .ref (a 0)), (1, .int (iv (n))), (2, .int (iv (b))), (3, .int (iv (w))), (4, .int (iv (i)))] → W pp l e (rmk 7 156) s m args below meth c H locs 0 0 Q (F0 m 29 ls []) := by
      intro fuel_
      induction fuel_ with
      | zero =>
        intro i b w mq gq i0 i1 hv hm hn
        exfalso; omega
      | succ fuel_ ih =>
        intro i b w mq gq i0 i1 hv hm hn H locs h ls hl
        have hm2 : (leastk tt1 (vCloud A n) i.toNat).2 = w := by rw [hm]
        have rg := leastk_rng (may := tt1) (val := (vCloud A n)) i.toNat (fun j j0 j1 hj => vCloud_rng hI)
        rw [hm] at rg; dsimp only at rg
        refine lv_iload X.1 X.2.1 dX5_cloud_29 (lv_at hl 4 rfl) ?_
        refine z_bipush X (by decide) dX5_cloud_31 ?_
        refine z_ic_ge (tgt := 108) X ⟨by omega, by omega⟩ ⟨by decide, by decide⟩ dX5_cloud_33 (by decide) (fun c_33 => ?_) (fun c_33 => ?_)
        · refine lv_iload_n X.1 X.2.1 dX5_cloud_108 rfl (lv_at hl 2 rfl) ?_
          have e9 : q_cloud A ph n = (b, A, ph) := by have hm9 := hm; rw [show i.toNat = 10 by omega] at hm9; unfold q_cloud; rw [if_neg (by omega), hm9]
          exact ret _ _ _ _ _ (mq, kp, wa1, (iv (ik)), fd, gq, tp, (iv (tn)), (iv (tk)), (iv (bg)), (iv (pt)), (iv (vl)), (iv (bd)), bt, sz, cl) h (by rw [e9]; exact ⟨rfl, ⟨hv, hI, hr9⟩, hK, hF, hT, hB⟩) dX5_cloud_109
        · refine lv_aload_n X.1 X.2.1 dX5_cloud_36 rfl (lv_at hl 0 rfl) ?_
          refine z_get X h 4 0 0 rfl inX5 rfl (by decide) fl_X5_9 rfl dX5_cloud_37 ?_
          refine z_iconst X dX5_cloud_40 ?_
          refine lv_iload X.1 X.2.1 dX5_cloud_41 (lv_at hl 4 rfl) ?_
          refine z_iadd X dX5_cloud_43 ?_
          refine z_iconst X dX5_cloud_44 ?_
          refine z_iast X h 1 rfl (by omega) (by omega) (by decide) dX5_cloud_45 (fun H locs h => ?_)
          have h : St E _ s H locs (wM E a ((upd mq (2 + i : Int).toNat (iv (0))), kp, wa1, (iv (ik)), fd, gq, tp, (iv (tn)), (iv (tk)), (iv (bg)), (iv (pt)), (iv (vl)), (iv (bd)), bt, sz, cl)) := h
          have hRc := RM_su hv (i := i) (v := 0) (by omega) (by omega)
          have sR := vCloud_rng hI (n := n) (k := i)
          unfold vCloud at sR
          refine lv_aload_n X.1 X.2.1 dX5_cloud_46 rfl (lv_at hl 0 rfl) ?_
          refine lv_iload_n X.1 X.2.1 dX5_cloud_47 rfl (lv_at hl 1 rfl) ?_
          refine z_av h (run_V (rest := []) X h (c_X5_goesFor (k := n) hRc (IA_su hI (i := i) (v := 0) (by omega) (by omega)) (by omega) (by omega) (by first | omega | (show hr A + _ < 1000000; omega))) mi_X5_goesFor ml_X5_131 ⟨Nat.le_of_ble_eq_true rfl, Nat.le_of_ble_eq_true rfl⟩ ⟨rfl, rfl⟩ (Seg.rfl' _) 4 0 rfl rfl rfl rfl hl.1 rfl (Nat.le_of_ble_eq_true rfl) ⟨Nat.zero_le _, Nat.zero_le _⟩ dX5_cloud_48) (fun _ => rfl) (fun u H locs hp h => ?_)
          obtain ⟨mg2, gg2⟩ := u
          have h : St E _ s H locs (wM E a (mg2, kp, wa1, (iv (ik)), fd, gg2, tp, (iv (tn)), (iv (tk)), (iv (bg)), (iv (pt)), (iv (vl)), (iv (bd)), bt, sz, cl)) := h
          have hR2 : RM mg2 (stepn (su A i 0) n.toNat) := hp
          have pn2 : pe (stepn (su A i 0) n.toNat) = pe (su A i 0) := stepn_pe _ _
          refine lv_aload_n X.1 X.2.1 dX5_cloud_51 rfl (lv_at hl 0 rfl) ?_
          refine z_pi (run_V (rest := []) X h (c_X5_allBrown hR2 (stepn_IA (IA_su hI (i := i) (v := 0) (by omega) (by omega)) n.toNat)) mi_X5_allBrown ml_X5_88 ⟨Nat.le_of_ble_eq_true rfl, Nat.le_of_ble_eq_true rfl⟩ ⟨rfl, rfl⟩ (Seg.rfl' _) 4 0 rfl rfl rfl rfl hl.1 rfl (Nat.le_of_ble_eq_true rfl) ⟨Nat.zero_le _, Nat.zero_le _⟩ dX5_cloud_52) ?_
          refine lv_istore (lv' := [(5, .int (iv (allB (stepn (su A i 0) n.toNat)))), (0, .ref (a 0)), (1, .int (iv (n))), (2, .int (iv (b))), (3, .int (iv (w))), (4, .int (iv (i)))]) X.1 X.2.1 dX5_cloud_55 hl (by decide) rfl (fun ls hl => ?_)
          refine lv_aload_n X.1 X.2.1 dX5_cloud_57 rfl (lv_at hl 1 rfl) ?_
          refine z_av h (run_V (rest := []) X h (c_X5_putsBack) mi_X5_putsBack ml_X5_142 ⟨Nat.le_of_ble_eq_true rfl, Nat.le_of_ble_eq_true rfl⟩ ⟨rfl, rfl⟩ (Seg.rfl' _) 4 0 rfl rfl rfl rfl hl.1 rfl (Nat.le_of_ble_eq_true rfl) ⟨Nat.zero_le _, Nat.zero_le _⟩ dX5_cloud_58) (fun _ => rfl) (fun mb3 H locs hb3 h => ?_)
          have h : St E _ s H locs (wM E a (mb3, kp, wa1, (iv (ik)), fd, gg2, tp, (iv (tn)), (iv (tk)), (iv (bg)), (iv (pt)), (iv (vl)), (iv (bd)), bt, sz, cl)) := h
          have hR3 := RM_eq hT1 hI.n8 hb3
          refine lv_iload_n X.1 X.2.1 dX5_cloud_61 rfl (lv_at hl 3 rfl) ?_
          refine z_if_lt (tgt := 71) X ⟨by omega, by omega⟩ dX5_cloud_62 (by decide) (fun c_62 => ?_) (fun c_62 => ?_)
          · refine z_iconst X dX5_cloud_71 ?_
            refine lv_goto (tgt := 76) X.1 X.2.1 dX5_cloud_72 (by decide) ?_
            refine lv_istore (lv' := [(6, .int (iv (1))), (5, .int (iv (allB (stepn (su A i 0) n.toNat)))), (0, .ref (a 0)), (1, .int (iv (n))), (2, .int (iv (b))), (3, .int (iv (w))), (4, .int (iv (i)))]) X.1 X.2.1 dX5_cloud_76 hl (by decide) rfl (fun ls hl => ?_)
            refine lv_iload X.1 X.2.1 dX5_cloud_78 (lv_at hl 0 rfl) ?_
            refine z_if_eq (tgt := 88) X ⟨by decide, by decide⟩ dX5_cloud_80 (by decide) (fun c_80 => ?_) (fun c_80 => ?_)
            · exact absurd c_80 (by decide)
            · refine lv_iload X.1 X.2.1 dX5_cloud_83 (lv_at hl 6 rfl) ?_
              refine lv_goto (tgt := 89) X.1 X.2.1 dX5_cloud_85 (by decide) ?_
              refine lv_istore_n (lv' := [(2, .int (iv (i))), (6, .int (iv (1))), (5, .int (iv (allB (stepn (su A i 0) n.toNat)))), (0, .ref (a 0)), (1, .int (iv (n))), (3, .int (iv (w))), (4, .int (iv (i)))]) X.1 X.2.1 dX5_cloud_89 rfl hl (by decide) rfl (fun ls hl => ?_)
              refine lv_iload X.1 X.2.1 dX5_cloud_90 (lv_at hl 1 rfl) ?_
              refine z_if_eq (tgt := 100) X ⟨by decide, by decide⟩ dX5_cloud_92 (by decide) (fun c_92 => ?_) (fun c_92 => ?_)
              · exact absurd c_92 (by decide)
              · refine lv_iload X.1 X.2.1 dX5_cloud_95 (lv_at hl 2 rfl) ?_
                refine lv_goto (tgt := 101) X.1 X.2.1 dX5_cloud_97 (by decide) ?_
                refine lv_istore_n (lv' := [(3, .int (iv (allB (stepn (su A i 0) n.toNat)))), (2, .int (iv (i))), (6, .int (iv (1))), (5, .int (iv (allB (stepn (su A i 0) n.toNat)))), (0, .ref (a 0)), (1, .int (iv (n))), (4, .int (iv (i)))]) X.1 X.2.1 dX5_cloud_101 rfl hl (by decide) rfl (fun ls hl => ?_)
                refine z_iinc (k := 6) (lv' := [(4, .int (iv (i + 1))), (3, .int (iv (allB (stepn (su A i 0) n.toNat)))), (2, .int (iv (i))), (6, .int (iv (1))), (5, .int (iv (allB (stepn (su A i 0) n.toNat)))), (0, .ref (a 0)), (1, .int (iv (n)))]) X dX5_cloud_102 hl rfl (by decide) rfl (fun ls hl => ?_)
                refine lv_goto (tgt := 29) X.1 X.2.1 dX5_cloud_105 (by decide) ?_
                exact ih (i + 1) (i) (allB (stepn (su A i 0) n.toNat)) (mb3) (gg2) (by omega) (by omega) (hR3) (leastk_y i0 hm rfl (show b < 0 ∨ allB (stepn (su A i 0) n.toNat) < w by omega)) (by omega) _ _ h ls (lv_sub hl [5, 6, 2, 1, 0] rfl)
          · refine lv_iload X.1 X.2.1 dX5_cloud_65 (lv_at hl 0 rfl) ?_
            refine lv_iload_n X.1 X.2.1 dX5_cloud_67 rfl (lv_at hl 4 rfl) ?_
            refine z_ic_ge (tgt := 75) X ⟨by omega, by omega⟩ ⟨by omega, by omega⟩ dX5_cloud_68 (by decide) (fun c_68 => ?_) (fun c_68 => ?_)
            · refine z_iconst X dX5_cloud_75 ?_
              refine lv_istore (lv' := [(6, .int (iv (0))), (5, .int (iv (allB (stepn (su A i 0) n.toNat)))), (0, .ref (a 0)), (1, .int (iv (n))), (2, .int (iv (b))), (3, .int (iv (w))), (4, .int (iv (i)))]) X.1 X.2.1 dX5_cloud_76 hl (by decide) rfl (fun ls hl => ?_)
              refine lv_iload X.1 X.2.1 dX5_cloud_78 (lv_at hl 0 rfl) ?_
              refine z_if_eq (tgt := 88) X ⟨by decide, by decide⟩ dX5_cloud_80 (by decide) (fun c_80 => ?_) (fun c_80 => ?_)
              · refine lv_iload_n X.1 X.2.1 dX5_cloud_88 rfl (lv_at hl 4 rfl) ?_
                refine lv_istore_n (lv' := [(2, .int (iv (b))), (6, .int (iv (0))), (5, .int (iv (allB (stepn (su A i 0) n.toNat)))), (0, .ref (a 0)), (1, .int (iv (n))), (3, .int (iv (w))), (4, .int (iv (i)))]) X.1 X.2.1 dX5_cloud_89 rfl hl (by decide) rfl (fun ls hl => ?_)
                refine lv_iload X.1 X.2.1 dX5_cloud_90 (lv_at hl 1 rfl) ?_
                refine z_if_eq (tgt := 100) X ⟨by decide, by decide⟩ dX5_cloud_92 (by decide) (fun c_92 => ?_) (fun c_92 => ?_)
                · refine lv_iload_n X.1 X.2.1 dX5_cloud_100 rfl (lv_at hl 5 rfl) ?_
                  refine lv_istore_n (lv' := [(3, .int (iv (w))), (2, .int (iv (b))), (6, .int (iv (0))), (5, .int (iv (allB (stepn (su A i 0) n.toNat)))), (0, .ref (a 0)), (1, .int (iv (n))), (4, .int (iv (i)))]) X.1 X.2.1 dX5_cloud_101 rfl hl (by decide) rfl (fun ls hl => ?_)
                  refine z_iinc (k := 6) (lv' := [(4, .int (iv (i + 1))), (3, .int (iv (w))), (2, .int (iv (b))), (6, .int (iv (0))), (5, .int (iv (allB (stepn (su A i 0) n.toNat)))), (0, .ref (a 0)), (1, .int (iv (n)))]) X dX5_cloud_102 hl rfl (by decide) rfl (fun ls hl => ?_)
                  refine lv_goto (tgt := 29) X.1 X.2.1 dX5_cloud_105 (by decide) ?_
                  exact ih (i + 1) (b) (w) (mb3) (gg2) (by omega) (by omega) (hR3) ((leastk_n i0 hm (fun _ => (show ¬ (b < 0 ∨ allB (stepn (su A i 0) n.toNat) < w) by omega))).trans hm) (by omega) _ _ h ls (lv_sub hl [5, 6, 2, 1, 0] rfl)
                · exact absurd c_92 (by decide)
              · exact absurd c_80 (by decide)
            · refine z_iconst X dX5_cloud_71 ?_
              refine lv_goto (tgt := 76) X.1 X.2.1 dX5_cloud_72 (by decide) ?_
              refine lv_istore (lv' := [(6, .int (iv (1))), (5, .int (iv (allB (stepn (su A i 0) n.toNat)))), (0, .ref (a 0)), (1, .int (iv (n))), (2, .int (iv (b))), (3, .int (iv (w))), (4, .int (iv (i)))]) X.1 X.2.1 dX5_cloud_76 hl (by decide) rfl (fun ls hl => ?_)
              refine lv_iload X.1 X.2.1 dX5_cloud_78 (lv_at hl 0 rfl) ?_
              refine z_if_eq (tgt := 88) X ⟨by decide, by decide⟩ dX5_cloud_80 (by decide) (fun c_80 => ?_) (fun c_80 => ?_)
              · exact absurd c_80 (by decide)
              · refine lv_iload X.1 X.2.1 dX5_cloud_83 (lv_at hl 6 rfl) ?_
                refine lv_goto (tgt := 89) X.1 X.2.1 dX5_cloud_85 (by decide) ?_
                refine lv_istore_n (lv' := [(2, .int (iv (i))), (6, .int (iv (1))), (5, .int (iv (allB (stepn (su A i 0) n.toNat)))), (0, .ref (a 0)), (1, .int (iv (n))), (3, .int (iv (w))), (4, .int (iv (i)))]) X.1 X.2.1 dX5_cloud_89 rfl hl (by decide) rfl (fun ls hl => ?_)
                refine lv_iload X.1 X.2.1 dX5_cloud_90 (lv_at hl 1 rfl) ?_
                refine z_if_eq (tgt := 100) X ⟨by decide, by decide⟩ dX5_cloud_92 (by decide) (fun c_92 => ?_) (fun c_92 => ?_)
                · exact absurd c_92 (by decide)
                · refine lv_iload X.1 X.2.1 dX5_cloud_95 (lv_at hl 2 rfl) ?_
                  refine lv_goto (tgt := 101) X.1 X.2.1 dX5_cloud_97 (by decide) ?_
                  refine lv_istore_n (lv' := [(3, .int (iv (allB (stepn (su A i 0) n.toNat)))), (2, .int (iv (i))), (6, .int (iv (1))), (5, .int (iv (allB (stepn (su A i 0) n.toNat)))), (0, .ref (a 0)), (1, .int (iv (n))), (4, .int (iv (i)))]) X.1 X.2.1 dX5_cloud_101 rfl hl (by decide) rfl (fun ls hl => ?_)
                  refine z_iinc (k := 6) (lv' := [(4, .int (iv (i + 1))), (3, .int (iv (allB (stepn (su A i 0) n.toNat)))), (2, .int (iv (i))), (6, .int (iv (1))), (5, .int (iv (allB (stepn (su A i 0) n.toNat)))), (0, .ref (a 0)), (1, .int (iv (n)))]) X dX5_cloud_102 hl rfl (by decide) rfl (fun ls hl => ?_)
                  refine lv_goto (tgt := 29) X.1 X.2.1 dX5_cloud_105 (by decide) ?_
                  exact ih (i + 1) (i) (allB (stepn (su A i 0) n.toNat)) (mb3) (gg2) (by omega) (by omega) (hR3) (leastk_y i0 hm rfl (show b < 0 ∨ allB (stepn (su A i 0) n.toNat) < w by omega)) (by omega) _ _ h ls (lv_sub hl [5, 6, 2, 1, 0] rfl)
    exact L29 ((10 - (0) : Int).toNat + 1) (0) (-1) (0) (mm) (gf) (by omega) (by omega) (hR) (rfl) (by omega) _ _ h ls (lv_sub hl [3, 4, 2, 1, 0] rfl)
  · refine lv_aload_n X.1 X.2.1 dX5_cloud_11 rfl (lv_at hl 0 rfl) ?_
    refine z_ldc (z := (-1000000001)) X ct_X5_38 (by decide) dX5_cloud_12 ?_
    refine z_ai h (run_V (rest := []) X h (c_X5_finds (k := 0) hF (by decide) (by decide) (by decide)) mi_X5_finds ml_X5_40 ⟨Nat.le_of_ble_eq_true rfl, Nat.le_of_ble_eq_true rfl⟩ ⟨rfl, rfl⟩ (Seg.rfl' _) 4 0 rfl rfl rfl rfl hl.1 rfl (Nat.le_of_ble_eq_true rfl) ⟨Nat.zero_le _, Nat.zero_le _⟩ dX5_cloud_14) (fun _ => rfl) (fun r fd4 H locs hp h => ?_)
    obtain ⟨rfl, hF4⟩ := hp
    have h : St E _ s H locs (wM E a (mm, kp, wa, (iv (ik)), fd4, gf, tp, (iv (tn)), (iv (tk)), (iv (bg)), (iv (pt)), (iv (vl)), (iv (bd)), bt, sz, cl)) := h
    have e9 : q_cloud A ph n = ((-1000000001), A, (bump ph 0)) := by unfold q_cloud; (repeat (first | rw [if_pos (by omega)] | rw [if_neg (by omega)])); try rfl
    exact ret _ _ _ _ _ (mm, kp, wa, (iv (ik)), fd4, gf, tp, (iv (tn)), (iv (tk)), (iv (bg)), (iv (pt)), (iv (vl)), (iv (bd)), bt, sz, cl) h (by rw [e9]; exact ⟨rfl, ⟨hR, hI, hr9⟩, hK, hF4, hT, hB⟩) dX5_cloud_17

set_option maxHeartbeats 4000000 in
theorem c_X5_enough (hS : RepM (mm, kp, wa, (iv (ik)), fd, gf, tp, (iv (tn)), (iv (tk)), (iv (bg)), (iv (pt)), (iv (vl)), (iv (bd)), bt, sz, cl) (A, K, ik, ph, tq, tn, bq, sq, cq)) {x : Int} (r_x : r32 x) {o : Int} (r_o : r32 o) {n : Int} (r_n : r32 n) {v : Int} (r_v : r32 v) : MI (S := Mc) E l yX5_enough cX5_enough 7 (some FieldType.int) (rmk 8 179) (wM E a (mm, kp, wa, (iv (ik)), fd, gf, tp, (iv (tn)), (iv (tk)), (iv (bg)), (iv (pt)), (iv (vl)), (iv (bd)), bt, sz, cl)) [.ref (a 0), .int (iv (x)), .int (iv (o)), .int (iv (n)), .int (iv (v))] (fun r u => r = iv (q_enough A ph x o n v).1 ∧ RepM u ((q_enough A ph x o n v).2.1, K, ik, (q_enough A ph x o n v).2.2, tq, tn, bq, sq, cq)) (fun u => wM E a u) := by
  refine goI (S := Mc) (post := fun r u => r = iv (q_enough A ph x o n v).1 ∧ RepM u ((q_enough A ph x o n v).2.1, K, ik, (q_enough A ph x o n v).2.2, tq, tn, bq, sq, cq)) (ws' := fun u => wM E a u) (by decide) (Nat.le_of_ble_eq_true rfl) ?_
  intro pp e s m below meth c ls args Q ret X h hl
  have hl : lv_has ls 7 [(0, .ref (a 0)), (1, .int (iv (x))), (2, .int (iv (o))), (3, .int (iv (n))), (4, .int (iv (v)))] := hl
  have hR : RM mm A := hS.1.1
  have hI : IA A := hS.1.2.1
  have hr9 : hr A ≤ 99999 := hS.1.2.2
  have hF : RF 7 fd ph := hS.2.2.1
  have hK := hS.2.1
  have hT := hS.2.2.2.1
  have hB := hS.2.2.2.2
  have hh : hr A < 1000000 := by omega
  have n8 := hI.n8
  have n0 := hI.n0
  have h0 := hI.h0
  refine lv_aload_n X.1 X.2.1 dX5_enough_0 rfl (lv_at hl 0 rfl) ?_
  refine lv_iload_n X.1 X.2.1 dX5_enough_1 rfl (lv_at hl 1 rfl) ?_
  refine lv_iload_n X.1 X.2.1 dX5_enough_2 rfl (lv_at hl 2 rfl) ?_
  refine z_pi (run_V (rest := []) X h (c_X5_areTwo (p := x) (o := o) hR hI r_x r_o) mi_X5_areTwo ml_X5_151 ⟨Nat.le_of_ble_eq_true rfl, Nat.le_of_ble_eq_true rfl⟩ ⟨rfl, rfl⟩ (Seg.rfl' _) 4 0 rfl rfl rfl rfl hl.1 rfl (Nat.le_of_ble_eq_true rfl) ⟨Nat.zero_le _, Nat.zero_le _⟩ dX5_enough_3) ?_
  refine z_ifb_eq (tgt := 33) X dX5_enough_6 (by decide) (fun c_6 => ?_) (fun c_6 => ?_)
  · refine lv_aload_n X.1 X.2.1 dX5_enough_33 rfl (lv_at hl 0 rfl) ?_
    refine z_ldc (z := (-1000000001)) X ct_X5_38 (by decide) dX5_enough_34 ?_
    refine z_ai h (run_V (rest := []) X h (c_X5_finds (k := 0) hF (by decide) (by decide) (by decide)) mi_X5_finds ml_X5_40 ⟨Nat.le_of_ble_eq_true rfl, Nat.le_of_ble_eq_true rfl⟩ ⟨rfl, rfl⟩ (Seg.rfl' _) 4 0 rfl rfl rfl rfl hl.1 rfl (Nat.le_of_ble_eq_true rfl) ⟨Nat.zero_le _, Nat.zero_le _⟩ dX5_enough_36) (fun _ => rfl) (fun r fd1 H locs hp h => ?_)
    obtain ⟨rfl, hF1⟩ := hp
    have h : St E _ s H locs (wM E a (mm, kp, wa, (iv (ik)), fd1, gf, tp, (iv (tn)), (iv (tk)), (iv (bg)), (iv (pt)), (iv (vl)), (iv (bd)), bt, sz, cl)) := h
    have e9 : q_enough A ph x o n v = ((-1000000001), A, (bump ph 0)) := by unfold q_enough; (repeat (first | rw [if_pos (by omega)] | rw [if_neg (by omega)])); try rfl
    exact ret _ _ _ _ _ (mm, kp, wa, (iv (ik)), fd1, gf, tp, (iv (tn)), (iv (tk)), (iv (bg)), (iv (pt)), (iv (vl)), (iv (bd)), bt, sz, cl) h (by rw [e9]; exact ⟨rfl, ⟨hR, hI, hr9⟩, hK, hF1, hT, hB⟩) dX5_enough_39
  · refine lv_iload_n X.1 X.2.1 dX5_enough_9 rfl (lv_at hl 3 rfl) ?_
    refine lv_i2l (v := (iv (n)).toInt64) X.1 X.2.1 dX5_enough_10 rfl ?_
    refine z_iconst X dX5_enough_11 ?_
    refine z_bipush X (by decide) dX5_enough_12 ?_
    refine z_pi (run_S (rest := []) X h (c_inI r_n ⟨by decide, by decide⟩ ⟨by decide, by decide⟩) mi_X5_in ml_X5_44 ⟨Nat.le_of_ble_eq_true rfl, Nat.le_of_ble_eq_true rfl⟩ ⟨rfl, rfl⟩ (Seg.nil _) rfl hl.1 rfl (Nat.le_of_ble_eq_true rfl) ⟨Nat.zero_le _, Nat.zero_le _⟩ dX5_enough_14) ?_
    refine z_ifb_eq (tgt := 33) X dX5_enough_17 (by decide) (fun c_17 => ?_) (fun c_17 => ?_)
    · refine lv_aload_n X.1 X.2.1 dX5_enough_33 rfl (lv_at hl 0 rfl) ?_
      refine z_ldc (z := (-1000000001)) X ct_X5_38 (by decide) dX5_enough_34 ?_
      refine z_ai h (run_V (rest := []) X h (c_X5_finds (k := 0) hF (by decide) (by decide) (by decide)) mi_X5_finds ml_X5_40 ⟨Nat.le_of_ble_eq_true rfl, Nat.le_of_ble_eq_true rfl⟩ ⟨rfl, rfl⟩ (Seg.rfl' _) 4 0 rfl rfl rfl rfl hl.1 rfl (Nat.le_of_ble_eq_true rfl) ⟨Nat.zero_le _, Nat.zero_le _⟩ dX5_enough_36) (fun _ => rfl) (fun r fd2 H locs hp h => ?_)
      obtain ⟨rfl, hF2⟩ := hp
      have h : St E _ s H locs (wM E a (mm, kp, wa, (iv (ik)), fd2, gf, tp, (iv (tn)), (iv (tk)), (iv (bg)), (iv (pt)), (iv (vl)), (iv (bd)), bt, sz, cl)) := h
      have e9 : q_enough A ph x o n v = ((-1000000001), A, (bump ph 0)) := by unfold q_enough; (repeat (first | rw [if_pos (by omega)] | rw [if_neg (by omega)])); try rfl
      exact ret _ _ _ _ _ (mm, kp, wa, (iv (ik)), fd2, gf, tp, (iv (tn)), (iv (tk)), (iv (bg)), (iv (pt)), (iv (vl)), (iv (bd)), bt, sz, cl) h (by rw [e9]; exact ⟨rfl, ⟨hR, hI, hr9⟩, hK, hF2, hT, hB⟩) dX5_enough_39
    · refine lv_iload X.1 X.2.1 dX5_enough_20 (lv_at hl 4 rfl) ?_
      refine lv_i2l (v := (iv (v)).toInt64) X.1 X.2.1 dX5_enough_22 rfl ?_
      refine z_iconst X dX5_enough_23 ?_
      refine z_sipush X (by decide) dX5_enough_24 ?_
      refine z_pi (run_S (rest := []) X h (c_inI r_v ⟨by decide, by decide⟩ ⟨by decide, by decide⟩) mi_X5_in ml_X5_44 ⟨Nat.le_of_ble_eq_true rfl, Nat.le_of_ble_eq_true rfl⟩ ⟨rfl, rfl⟩ (Seg.nil _) rfl hl.1 rfl (Nat.le_of_ble_eq_true rfl) ⟨Nat.zero_le _, Nat.zero_le _⟩ dX5_enough_27) ?_
      refine z_ifb_ne (tgt := 40) X dX5_enough_30 (by decide) (fun c_30 => ?_) (fun c_30 => ?_)
      · refine lv_aload_n X.1 X.2.1 dX5_enough_40 rfl (lv_at hl 0 rfl) ?_
        refine z_av h (run_V (rest := []) X h (c_X5_thinks) mi_X5_thinks ml_X5_139 ⟨Nat.le_of_ble_eq_true rfl, Nat.le_of_ble_eq_true rfl⟩ ⟨rfl, rfl⟩ (Seg.rfl' _) 4 0 rfl rfl rfl rfl hl.1 rfl (Nat.le_of_ble_eq_true rfl) ⟨Nat.zero_le _, Nat.zero_le _⟩ dX5_enough_41) (fun _ => rfl) (fun wa3 H locs hw3 h => ?_)
        have h : St E _ s H locs (wM E a (mm, kp, wa3, (iv (ik)), fd, gf, tp, (iv (tn)), (iv (tk)), (iv (bg)), (iv (pt)), (iv (vl)), (iv (bd)), bt, sz, cl)) := h
        have hT3 := RM_eq hR hI.n8 hw3
        refine z_iconst X dX5_enough_44 ?_
        refine lv_istore (lv' := [(5, .int (iv ((-1)))), (0, .ref (a 0)), (1, .int (iv (x))), (2, .int (iv (o))), (3, .int (iv (n))), (4, .int (iv (v)))]) X.1 X.2.1 dX5_enough_45 hl (by decide) rfl (fun ls hl => ?_)
        refine z_iconst X dX5_enough_47 ?_
        refine lv_istore (lv' := [(6, .int (iv (0))), (5, .int (iv ((-1)))), (0, .ref (a 0)), (1, .int (iv (x))), (2, .int (iv (o))), (3, .int (iv (n))), (4, .int (iv (v)))]) X.1 X.2.1 dX5_enough_48 hl (by decide) rfl (fun ls hl => ?_)
        have L50 : ∀ (fuel_ : Nat) (i : Int) (b : Int) (mq : Nat → Int32) (gq : Nat → Int32), (0 ≤ i) → (i ≤ 201) → (RM mq A) → ((b = -1 ∧ fnd (pEnough A x o n v) 0 201 = fnd (pEnough A x o n v) i.toNat (201 - i.toNat)) ∨ (0 ≤ b ∧ b ≤ 200 ∧ fnd (pEnough A x o n v) 0 201 = b.toNat)) → 201 - i < (fuel_ : Int) → ∀ (H : Heap) (locs : List Loc), St E (wM E a (mm, kp, wa, (iv (ik)), fd, gf, tp, (iv (tn)), (iv (tk)), (iv (bg)), (iv (pt)), (iv (vl)), (iv (bd)), bt, sz, cl)) s H locs (wM E a (mq, kp, wa3, (iv (ik)), fd, gq, tp, (iv (tn)), (iv (tk)), (iv (bg)), (iv (pt)), (iv (vl)), (iv (bd)), bt, sz, cl)) → ∀ ls : Array Slot, lv_has ls 7 [(0, .ref (a 0)), (1, .int (iv (x))), (2, .int (iv (o))), (3, .int (iv (n))), (4, .int (iv (v))), (5, .int (iv (b))), (6, .int (iv (i)))] → W pp l e (rmk 8 179) s m args below meth c H locs 0 0 Q (F0 m 50 ls []) := by
          intro fuel_
          induction fuel_ with
          | zero =>
            intro i b mq gq i0 i1 hv hb hn
            exfalso; omega
          | succ fuel_ ih =>
            intro i b mq gq i0 i1 hv hb hn H locs h ls hl
            refine lv_iload X.1 X.2.1 dX5_enough_50 (lv_at hl 6 rfl) ?_
            refine z_sipush X (by decide) dX5_enough_52 ?_
            refine z_ic_gt (tgt := 96) X ⟨by omega, by omega⟩ ⟨by decide, by decide⟩ dX5_enough_55 (by decide) (fun c_55 => ?_) (fun c_55 => ?_)
            · refine lv_aload_n X.1 X.2.1 dX5_enough_96 rfl (lv_at hl 0 rfl) ?_
              refine lv_iload X.1 X.2.1 dX5_enough_97 (lv_at hl 5 rfl) ?_
              refine z_ai h (run_V (rest := []) X h (c_X5_orNone (v := b) hF ⟨by omega, by omega⟩) mi_X5_orNone ml_X5_148 ⟨Nat.le_of_ble_eq_true rfl, Nat.le_of_ble_eq_true rfl⟩ ⟨rfl, rfl⟩ (Seg.rfl' _) 4 0 rfl rfl rfl rfl hl.1 rfl (Nat.le_of_ble_eq_true rfl) ⟨Nat.zero_le _, Nat.zero_le _⟩ dX5_enough_99) (fun _ => rfl) (fun r fd4 H locs hp h => ?_)
              obtain ⟨rfl, hF4⟩ := hp
              have h : St E _ s H locs (wM E a (mq, kp, wa3, (iv (ik)), fd4, gq, tp, (iv (tn)), (iv (tk)), (iv (bg)), (iv (pt)), (iv (vl)), (iv (bd)), bt, sz, cl)) := h
              have e9 : q_enough A ph x o n v = (if b < 0 then fz 3 else b, A, (if b < 0 then bump ph 3 else ph)) := by
                                unfold q_enough
                                rw [if_neg (by omega)]
                                rcases hb with ⟨hb, hf⟩ | ⟨hb, hb2, hf⟩
                                · rw [show i.toNat = 201 by omega] at hf; rw [hf, if_pos (by show 200 < 201; omega), if_pos (by omega), if_pos (by omega)]; rfl
                                · rw [hf, if_neg (by omega), if_neg (by omega), if_neg (by omega), tnc hb]
              exact ret _ _ _ _ _ (mq, kp, wa3, (iv (ik)), fd4, gq, tp, (iv (tn)), (iv (tk)), (iv (bg)), (iv (pt)), (iv (vl)), (iv (bd)), bt, sz, cl) h (by rw [e9]; exact ⟨rfl, ⟨hv, hI, hr9⟩, hK, hF4, hT, hB⟩) dX5_enough_102
            · refine lv_iload X.1 X.2.1 dX5_enough_58 (lv_at hl 5 rfl) ?_
              refine z_if_ge (tgt := 96) X ⟨by omega, by omega⟩ dX5_enough_60 (by decide) (fun c_60 => ?_) (fun c_60 => ?_)
              · refine lv_aload_n X.1 X.2.1 dX5_enough_96 rfl (lv_at hl 0 rfl) ?_
                refine lv_iload X.1 X.2.1 dX5_enough_97 (lv_at hl 5 rfl) ?_
                refine z_ai h (run_V (rest := []) X h (c_X5_orNone (v := b) hF ⟨by omega, by omega⟩) mi_X5_orNone ml_X5_148 ⟨Nat.le_of_ble_eq_true rfl, Nat.le_of_ble_eq_true rfl⟩ ⟨rfl, rfl⟩ (Seg.rfl' _) 4 0 rfl rfl rfl rfl hl.1 rfl (Nat.le_of_ble_eq_true rfl) ⟨Nat.zero_le _, Nat.zero_le _⟩ dX5_enough_99) (fun _ => rfl) (fun r fd5 H locs hp h => ?_)
                obtain ⟨rfl, hF5⟩ := hp
                have h : St E _ s H locs (wM E a (mq, kp, wa3, (iv (ik)), fd5, gq, tp, (iv (tn)), (iv (tk)), (iv (bg)), (iv (pt)), (iv (vl)), (iv (bd)), bt, sz, cl)) := h
                have e9 : q_enough A ph x o n v = (if b < 0 then fz 3 else b, A, (if b < 0 then bump ph 3 else ph)) := by
                                unfold q_enough
                                rw [if_neg (by omega)]
                                rcases hb with ⟨hb, hf⟩ | ⟨hb, hb2, hf⟩
                                · rw [show i.toNat = 201 by omega] at hf; rw [hf, if_pos (by show 200 < 201; omega), if_pos (by omega), if_pos (by omega)]; rfl
                                · rw [hf, if_neg (by omega), if_neg (by omega), if_neg (by omega), tnc hb]
                exact ret _ _ _ _ _ (mq, kp, wa3, (iv (ik)), fd5, gq, tp, (iv (tn)), (iv (tk)), (iv (bg)), (iv (pt)), (iv (vl)), (iv (bd)), bt, sz, cl) h (by rw [e9]; exact ⟨rfl, ⟨hv, hI, hr9⟩, hK, hF5, hT, hB⟩) dX5_enough_102
              · refine lv_aload_n X.1 X.2.1 dX5_enough_63 rfl (lv_at hl 0 rfl) ?_
                refine lv_iload_n X.1 X.2.1 dX5_enough_64 rfl (lv_at hl 1 rfl) ?_
                refine z_iconst X dX5_enough_65 ?_
                refine lv_iload X.1 X.2.1 dX5_enough_66 (lv_at hl 6 rfl) ?_
                refine z_av h (run_V (rest := []) X h (c_X5_put (p := x) (w := 2) (v := i) hv hI.n8 (by omega) (by first | omega | (show x < pe A; omega)) (by omega) (by omega)) mi_X5_put ml_X5_91 ⟨Nat.le_of_ble_eq_true rfl, Nat.le_of_ble_eq_true rfl⟩ ⟨rfl, rfl⟩ (Seg.rfl' _) 4 0 rfl rfl rfl rfl hl.1 rfl (Nat.le_of_ble_eq_true rfl) ⟨Nat.zero_le _, Nat.zero_le _⟩ dX5_enough_68) (fun _ => rfl) (fun mp6 H locs hR6 h => ?_)
                have h : St E _ s H locs (wM E a (mp6, kp, wa3, (iv (ik)), fd, gq, tp, (iv (tn)), (iv (tk)), (iv (bg)), (iv (pt)), (iv (vl)), (iv (bd)), bt, sz, cl)) := h
                refine lv_aload_n X.1 X.2.1 dX5_enough_71 rfl (lv_at hl 0 rfl) ?_
                refine lv_iload_n X.1 X.2.1 dX5_enough_72 rfl (lv_at hl 2 rfl) ?_
                refine lv_iload_n X.1 X.2.1 dX5_enough_73 rfl (lv_at hl 3 rfl) ?_
                refine z_ai h (run_V (rest := []) X h (c_X5_brownOn (p := o) (k := n) hR6 (IA_pu hI (w := 2) (p := x) (v := i) (by omega) (by omega) (Or.inr (Or.inl ⟨Or.inl rfl, by omega, by omega⟩))) (by omega) (by first | omega | (show o < pe A; omega)) (by omega) (by omega) (by first | omega | (show hr A + _ < 1000000; omega))) mi_X5_brownOn ml_X5_145 ⟨Nat.le_of_ble_eq_true rfl, Nat.le_of_ble_eq_true rfl⟩ ⟨rfl, rfl⟩ (Seg.rfl' _) 4 0 rfl rfl rfl rfl hl.1 rfl (Nat.le_of_ble_eq_true rfl) ⟨Nat.zero_le _, Nat.zero_le _⟩ dX5_enough_74) (fun _ => rfl) (fun r u H locs hp h => ?_)
                obtain ⟨mo7, go7⟩ := u
                have h : St E _ s H locs (wM E a (mo7, kp, wa3, (iv (ik)), fd, go7, tp, (iv (tn)), (iv (tk)), (iv (bg)), (iv (pt)), (iv (vl)), (iv (bd)), bt, sz, cl)) := h
                obtain ⟨rfl, hb7⟩ := hp
                have hR7 : RM mo7 A := RM_eq hT3 hI.n8 hb7
                have bR7 := brn_rng (stepn_IA (IA_pu hI (w := 2) (p := x) (v := i) (by omega) (by omega) (Or.inr (Or.inl ⟨Or.inl rfl, by omega, by omega⟩))) n.toNat) (p := o) (by omega) (by rw [stepn_pe]; first | omega | (show o < pe A; omega))
                refine lv_iload X.1 X.2.1 dX5_enough_77 (lv_at hl 4 rfl) ?_
                refine z_ic_lt (tgt := 87) X ⟨by omega, by omega⟩ r_v dX5_enough_79 (by decide) (fun c_79 => ?_) (fun c_79 => ?_)
                · refine z_iconst X dX5_enough_87 ?_
                  refine lv_istore (lv' := [(5, .int (iv ((-1)))), (0, .ref (a 0)), (1, .int (iv (x))), (2, .int (iv (o))), (3, .int (iv (n))), (4, .int (iv (v))), (6, .int (iv (i)))]) X.1 X.2.1 dX5_enough_88 hl (by decide) rfl (fun ls hl => ?_)
                  refine z_iinc (k := 6) (lv' := [(6, .int (iv (i + 1))), (5, .int (iv ((-1)))), (0, .ref (a 0)), (1, .int (iv (x))), (2, .int (iv (o))), (3, .int (iv (n))), (4, .int (iv (v)))]) X dX5_enough_90 hl rfl (by decide) rfl (fun ls hl => ?_)
                  refine lv_goto (tgt := 50) X.1 X.2.1 dX5_enough_93 (by decide) ?_
                  exact ih (i + 1) ((-1)) (mo7) (go7) (by omega) (by omega) (hR7) (Or.inl ⟨rfl, by rcases hb with ⟨_, hf⟩ | hb <;> first | (exfalso; omega) | (rw [hf, tn1 i0, show 201 - i.toNat = (201 - (i.toNat + 1)) + 1 by omega]; exact fnd_no (by simp only [pEnough, decide_eq_true_eq, tnc i0]; omega))⟩) (by omega) _ _ h ls (lv_sub hl [2, 3, 4, 5, 6, 1, 0] rfl)
                · refine lv_iload X.1 X.2.1 dX5_enough_82 (lv_at hl 6 rfl) ?_
                  refine lv_goto (tgt := 88) X.1 X.2.1 dX5_enough_84 (by decide) ?_
                  refine lv_istore (lv' := [(5, .int (iv (i))), (0, .ref (a 0)), (1, .int (iv (x))), (2, .int (iv (o))), (3, .int (iv (n))), (4, .int (iv (v))), (6, .int (iv (i)))]) X.1 X.2.1 dX5_enough_88 hl (by decide) rfl (fun ls hl => ?_)
                  refine z_iinc (k := 6) (lv' := [(6, .int (iv (i + 1))), (5, .int (iv (i))), (0, .ref (a 0)), (1, .int (iv (x))), (2, .int (iv (o))), (3, .int (iv (n))), (4, .int (iv (v)))]) X dX5_enough_90 hl rfl (by decide) rfl (fun ls hl => ?_)
                  refine lv_goto (tgt := 50) X.1 X.2.1 dX5_enough_93 (by decide) ?_
                  exact ih (i + 1) (i) (mo7) (go7) (by omega) (by omega) (hR7) (Or.inr ⟨by omega, by omega, by rcases hb with ⟨_, hf⟩ | hb <;> first | (exfalso; omega) | (rw [hf, show 201 - i.toNat = (200 - i.toNat) + 1 by omega]; exact fnd_yes (by simp only [pEnough, decide_eq_true_eq, tnc i0]; omega))⟩) (by omega) _ _ h ls (lv_sub hl [2, 3, 4, 5, 6, 1, 0] rfl)
        exact L50 ((201 - (0) : Int).toNat + 1) (0) (-1) (mm) (gf) (by omega) (by omega) (hR) (Or.inl ⟨rfl, rfl⟩) (by omega) _ _ h ls (lv_sub hl [2, 3, 4, 5, 6, 1, 0] rfl)
      · refine lv_aload_n X.1 X.2.1 dX5_enough_33 rfl (lv_at hl 0 rfl) ?_
        refine z_ldc (z := (-1000000001)) X ct_X5_38 (by decide) dX5_enough_34 ?_
        refine z_ai h (run_V (rest := []) X h (c_X5_finds (k := 0) hF (by decide) (by decide) (by decide)) mi_X5_finds ml_X5_40 ⟨Nat.le_of_ble_eq_true rfl, Nat.le_of_ble_eq_true rfl⟩ ⟨rfl, rfl⟩ (Seg.rfl' _) 4 0 rfl rfl rfl rfl hl.1 rfl (Nat.le_of_ble_eq_true rfl) ⟨Nat.zero_le _, Nat.zero_le _⟩ dX5_enough_36) (fun _ => rfl) (fun r fd8 H locs hp h => ?_)
        obtain ⟨rfl, hF8⟩ := hp
        have h : St E _ s H locs (wM E a (mm, kp, wa, (iv (ik)), fd8, gf, tp, (iv (tn)), (iv (tk)), (iv (bg)), (iv (pt)), (iv (vl)), (iv (bd)), bt, sz, cl)) := h
        have e9 : q_enough A ph x o n v = ((-1000000001), A, (bump ph 0)) := by unfold q_enough; (repeat (first | rw [if_pos (by omega)] | rw [if_neg (by omega)])); try rfl
        exact ret _ _ _ _ _ (mm, kp, wa, (iv (ik)), fd8, gf, tp, (iv (tn)), (iv (tk)), (iv (bg)), (iv (pt)), (iv (vl)), (iv (bd)), bt, sz, cl) h (by rw [e9]; exact ⟨rfl, ⟨hR, hI, hr9⟩, hK, hF8, hT, hB⟩) dX5_enough_39

set_option maxHeartbeats 4000000 in
theorem c_X5_brownest (hS : RepM (mm, kp, wa, (iv (ik)), fd, gf, tp, (iv (tn)), (iv (tk)), (iv (bg)), (iv (pt)), (iv (vl)), (iv (bd)), bt, sz, cl) (A, K, ik, ph, tq, tn, bq, sq, cq)) {n : Int} (r_n : r32 n) : MI (S := Mc) E l yX5_brownest cX5_brownest 4 (some FieldType.int) (rmk 7 156) (wM E a (mm, kp, wa, (iv (ik)), fd, gf, tp, (iv (tn)), (iv (tk)), (iv (bg)), (iv (pt)), (iv (vl)), (iv (bd)), bt, sz, cl)) [.ref (a 0), .int (iv (n))] (fun r u => r = iv (q_brownest A ph n).1 ∧ RepM u ((q_brownest A ph n).2.1, K, ik, (q_brownest A ph n).2.2, tq, tn, bq, sq, cq)) (fun u => wM E a u) := by
  refine goI (S := Mc) (post := fun r u => r = iv (q_brownest A ph n).1 ∧ RepM u ((q_brownest A ph n).2.1, K, ik, (q_brownest A ph n).2.2, tq, tn, bq, sq, cq)) (ws' := fun u => wM E a u) (by decide) (Nat.le_of_ble_eq_true rfl) ?_
  intro pp e s m below meth c ls args Q ret X h hl
  have hl : lv_has ls 4 [(0, .ref (a 0)), (1, .int (iv (n)))] := hl
  have hR : RM mm A := hS.1.1
  have hI : IA A := hS.1.2.1
  have hr9 : hr A ≤ 99999 := hS.1.2.2
  have hF : RF 7 fd ph := hS.2.2.1
  have hK := hS.2.1
  have hT := hS.2.2.2.1
  have hB := hS.2.2.2.2
  have hh : hr A < 1000000 := by omega
  have n8 := hI.n8
  have n0 := hI.n0
  have h0 := hI.h0
  refine lv_iload_n X.1 X.2.1 dX5_brownest_0 rfl (lv_at hl 1 rfl) ?_
  refine lv_i2l (v := (iv (n)).toInt64) X.1 X.2.1 dX5_brownest_1 rfl ?_
  refine z_iconst X dX5_brownest_2 ?_
  refine z_sipush X (by decide) dX5_brownest_3 ?_
  refine z_pi (run_S (rest := []) X h (c_inI r_n ⟨by decide, by decide⟩ ⟨by decide, by decide⟩) mi_X5_in ml_X5_44 ⟨Nat.le_of_ble_eq_true rfl, Nat.le_of_ble_eq_true rfl⟩ ⟨rfl, rfl⟩ (Seg.nil _) rfl hl.1 rfl (Nat.le_of_ble_eq_true rfl) ⟨Nat.zero_le _, Nat.zero_le _⟩ dX5_brownest_6) ?_
  refine z_ifb_ne (tgt := 19) X dX5_brownest_9 (by decide) (fun c_9 => ?_) (fun c_9 => ?_)
  · refine lv_aload_n X.1 X.2.1 dX5_brownest_19 rfl (lv_at hl 0 rfl) ?_
    refine z_av h (run_V (rest := []) X h (c_X5_thinks) mi_X5_thinks ml_X5_139 ⟨Nat.le_of_ble_eq_true rfl, Nat.le_of_ble_eq_true rfl⟩ ⟨rfl, rfl⟩ (Seg.rfl' _) 4 0 rfl rfl rfl rfl hl.1 rfl (Nat.le_of_ble_eq_true rfl) ⟨Nat.zero_le _, Nat.zero_le _⟩ dX5_brownest_20) (fun _ => rfl) (fun wa1 H locs hw1 h => ?_)
    have h : St E _ s H locs (wM E a (mm, kp, wa1, (iv (ik)), fd, gf, tp, (iv (tn)), (iv (tk)), (iv (bg)), (iv (pt)), (iv (vl)), (iv (bd)), bt, sz, cl)) := h
    have hT1 := RM_eq hR hI.n8 hw1
    refine lv_aload_n X.1 X.2.1 dX5_brownest_23 rfl (lv_at hl 0 rfl) ?_
    refine lv_iload_n X.1 X.2.1 dX5_brownest_24 rfl (lv_at hl 1 rfl) ?_
    refine z_av h (run_V (rest := []) X h (c_X5_goesFor (k := n) hR hI (by omega) (by omega) (by first | omega | (show hr A + _ < 1000000; omega))) mi_X5_goesFor ml_X5_131 ⟨Nat.le_of_ble_eq_true rfl, Nat.le_of_ble_eq_true rfl⟩ ⟨rfl, rfl⟩ (Seg.rfl' _) 4 0 rfl rfl rfl rfl hl.1 rfl (Nat.le_of_ble_eq_true rfl) ⟨Nat.zero_le _, Nat.zero_le _⟩ dX5_brownest_25) (fun _ => rfl) (fun u H locs hp h => ?_)
    obtain ⟨mg2, gg2⟩ := u
    have h : St E _ s H locs (wM E a (mg2, kp, wa1, (iv (ik)), fd, gg2, tp, (iv (tn)), (iv (tk)), (iv (bg)), (iv (pt)), (iv (vl)), (iv (bd)), bt, sz, cl)) := h
    have hR2 : RM mg2 (stepn A n.toNat) := hp
    have pn2 : pe (stepn A n.toNat) = pe A := stepn_pe _ _
    refine z_iconst X dX5_brownest_28 ?_
    refine lv_istore_n (lv' := [(2, .int (iv ((-1)))), (0, .ref (a 0)), (1, .int (iv (n)))]) X.1 X.2.1 dX5_brownest_29 rfl hl (by decide) rfl (fun ls hl => ?_)
    refine z_iconst X dX5_brownest_30 ?_
    refine lv_istore_n (lv' := [(3, .int (iv (0))), (2, .int (iv ((-1)))), (0, .ref (a 0)), (1, .int (iv (n)))]) X.1 X.2.1 dX5_brownest_31 rfl hl (by decide) rfl (fun ls hl => ?_)
    have L32 : ∀ (fuel_ : Nat) (i : Int) (b : Int), (0 ≤ i) → (i ≤ pe A) → (-1 ≤ b ∧ (b < i ∨ b = -1)) → ((mostk tt1 (vBest A n) i.toNat).1 = b) → ((b = -1 ∧ (mostk tt1 (vBest A n) i.toNat).2 = -1) ∨ (0 ≤ b ∧ (mostk tt1 (vBest A n) i.toNat).2 = brn (stepn A n.toNat) b)) → pe A - i < (fuel_ : Int) → ∀ (H : Heap) (locs : List Loc), St E (wM E a (mm, kp, wa, (iv (ik)), fd, gf, tp, (iv (tn)), (iv (tk)), (iv (bg)), (iv (pt)), (iv (vl)), (iv (bd)), bt, sz, cl)) s H locs (wM E a (mg2, kp, wa1, (iv (ik)), fd, gg2, tp, (iv (tn)), (iv (tk)), (iv (bg)), (iv (pt)), (iv (vl)), (iv (bd)), bt, sz, cl)) → ∀ ls : Array Slot, lv_has ls 4 [(0, .ref (a 0)), (1, .int (iv (n))), (2, .int (iv (b))), (3, .int (iv (i)))] → W pp l e (rmk 7 156) s m args below meth c H locs 0 0 Q (F0 m 32 ls []) := by
      intro fuel_
      induction fuel_ with
      | zero =>
        intro i b i0 i1 b1 hm1 hm2 hn
        exfalso; omega
      | succ fuel_ ih =>
        intro i b i0 i1 b1 hm1 hm2 hn H locs h ls hl
        refine lv_iload_n X.1 X.2.1 dX5_brownest_32 rfl (lv_at hl 3 rfl) ?_
        refine lv_aload_n X.1 X.2.1 dX5_brownest_33 rfl (lv_at hl 0 rfl) ?_
        refine z_get X h 4 0 0 rfl inX5 rfl (by decide) fl_X5_9 rfl dX5_brownest_34 ?_
        refine z_iconst X dX5_brownest_37 ?_
        refine z_iald (v := pe (stepn A n.toNat)) X h 1 rfl (by omega) (by omega) (by decide) hR2.2.1 dX5_brownest_38 ?_
        refine z_ic_ge (tgt := 71) X ⟨by omega, by omega⟩ ⟨by omega, by omega⟩ dX5_brownest_39 (by decide) (fun c_39 => ?_) (fun c_39 => ?_)
        · refine lv_aload_n X.1 X.2.1 dX5_brownest_71 rfl (lv_at hl 0 rfl) ?_
          refine z_av h (run_V (rest := []) X h (c_X5_putsBack) mi_X5_putsBack ml_X5_142 ⟨Nat.le_of_ble_eq_true rfl, Nat.le_of_ble_eq_true rfl⟩ ⟨rfl, rfl⟩ (Seg.rfl' _) 4 0 rfl rfl rfl rfl hl.1 rfl (Nat.le_of_ble_eq_true rfl) ⟨Nat.zero_le _, Nat.zero_le _⟩ dX5_brownest_72) (fun _ => rfl) (fun mb3 H locs hb3 h => ?_)
          have h : St E _ s H locs (wM E a (mb3, kp, wa1, (iv (ik)), fd, gg2, tp, (iv (tn)), (iv (tk)), (iv (bg)), (iv (pt)), (iv (vl)), (iv (bd)), bt, sz, cl)) := h
          have hR3 := RM_eq hT1 hI.n8 hb3
          refine lv_aload_n X.1 X.2.1 dX5_brownest_75 rfl (lv_at hl 0 rfl) ?_
          refine lv_iload_n X.1 X.2.1 dX5_brownest_76 rfl (lv_at hl 2 rfl) ?_
          refine z_ai h (run_V (rest := []) X h (c_X5_orNone (v := b) hF ⟨by omega, by omega⟩) mi_X5_orNone ml_X5_148 ⟨Nat.le_of_ble_eq_true rfl, Nat.le_of_ble_eq_true rfl⟩ ⟨rfl, rfl⟩ (Seg.rfl' _) 4 0 rfl rfl rfl rfl hl.1 rfl (Nat.le_of_ble_eq_true rfl) ⟨Nat.zero_le _, Nat.zero_le _⟩ dX5_brownest_77) (fun _ => rfl) (fun r fd4 H locs hp h => ?_)
          obtain ⟨rfl, hF4⟩ := hp
          have h : St E _ s H locs (wM E a (mb3, kp, wa1, (iv (ik)), fd4, gg2, tp, (iv (tn)), (iv (tk)), (iv (bg)), (iv (pt)), (iv (vl)), (iv (bd)), bt, sz, cl)) := h
          have e9 : q_brownest A ph n = (if b < 0 then fz 3 else b, A, (if b < 0 then bump ph 3 else ph)) := by rw [show i.toNat = (pe A).toNat by omega] at hm1; unfold q_brownest; rw [if_neg (by omega), hm1]; unfold orN; split <;> rfl
          exact ret _ _ _ _ _ (mb3, kp, wa1, (iv (ik)), fd4, gg2, tp, (iv (tn)), (iv (tk)), (iv (bg)), (iv (pt)), (iv (vl)), (iv (bd)), bt, sz, cl) h (by rw [e9]; exact ⟨rfl, ⟨hR3, hI, hr9⟩, hK, hF4, hT, hB⟩) dX5_brownest_80
        · have bi := brnn_rng hI n.toNat (p := i) (by omega) (by omega)
          refine lv_iload_n X.1 X.2.1 dX5_brownest_42 rfl (lv_at hl 2 rfl) ?_
          refine z_if_lt (tgt := 59) X ⟨by omega, by omega⟩ dX5_brownest_43 (by decide) (fun c_43 => ?_) (fun c_43 => ?_)
          · refine lv_iload_n X.1 X.2.1 dX5_brownest_59 rfl (lv_at hl 3 rfl) ?_
            refine lv_goto (tgt := 64) X.1 X.2.1 dX5_brownest_60 (by decide) ?_
            refine lv_istore_n (lv' := [(2, .int (iv (i))), (0, .ref (a 0)), (1, .int (iv (n))), (3, .int (iv (i)))]) X.1 X.2.1 dX5_brownest_64 rfl hl (by decide) rfl (fun ls hl => ?_)
            refine z_iinc (k := 3) (lv' := [(3, .int (iv (i + 1))), (2, .int (iv (i))), (0, .ref (a 0)), (1, .int (iv (n)))]) X dX5_brownest_65 hl rfl (by decide) rfl (fun ls hl => ?_)
            refine lv_goto (tgt := 32) X.1 X.2.1 dX5_brownest_68 (by decide) ?_
            exact ih (i + 1) (i) (by omega) (by omega) (by omega) (by rw [mostk_y (may := tt1) (val := vBest A n) i0 rfl rfl (show (mostk tt1 (vBest A n) i.toNat).2 < brn (stepn A n.toNat) i by omega)]) (Or.inr ⟨by omega, by rw [mostk_y (may := tt1) (val := vBest A n) i0 rfl rfl (show (mostk tt1 (vBest A n) i.toNat).2 < brn (stepn A n.toNat) i by omega)]; rfl⟩) (by omega) _ _ h ls (lv_sub hl [2, 3, 1, 0] rfl)
          · have bb := brnn_rng hI n.toNat (p := b) (by omega) (by omega)
            refine lv_aload_n X.1 X.2.1 dX5_brownest_46 rfl (lv_at hl 0 rfl) ?_
            refine lv_iload_n X.1 X.2.1 dX5_brownest_47 rfl (lv_at hl 3 rfl) ?_
            refine z_pi (run_V (rest := []) X h (c_X5_brownOf (p := i) hR2 (stepn_IA hI n.toNat) (by omega) (by omega)) mi_X5_brownOf ml_X5_105 ⟨Nat.le_of_ble_eq_true rfl, Nat.le_of_ble_eq_true rfl⟩ ⟨rfl, rfl⟩ (Seg.rfl' _) 4 0 rfl rfl rfl rfl hl.1 rfl (Nat.le_of_ble_eq_true rfl) ⟨Nat.zero_le _, Nat.zero_le _⟩ dX5_brownest_48) ?_
            refine lv_aload_n X.1 X.2.1 dX5_brownest_51 rfl (lv_at hl 0 rfl) ?_
            refine lv_iload_n X.1 X.2.1 dX5_brownest_52 rfl (lv_at hl 2 rfl) ?_
            refine z_pi (run_V (rest := [.int (iv (brn (stepn A n.toNat) i))]) X h (c_X5_brownOf (p := b) hR2 (stepn_IA hI n.toNat) (by omega) (by omega)) mi_X5_brownOf ml_X5_105 ⟨Nat.le_of_ble_eq_true rfl, Nat.le_of_ble_eq_true rfl⟩ ⟨rfl, rfl⟩ (Seg.rfl' _) 4 0 rfl rfl rfl rfl hl.1 rfl (Nat.le_of_ble_eq_true rfl) ⟨Nat.zero_le _, Nat.zero_le _⟩ dX5_brownest_53) ?_
            refine z_ic_le (tgt := 63) X ⟨by omega, by omega⟩ ⟨by omega, by omega⟩ dX5_brownest_56 (by decide) (fun c_56 => ?_) (fun c_56 => ?_)
            · refine lv_iload_n X.1 X.2.1 dX5_brownest_63 rfl (lv_at hl 2 rfl) ?_
              refine lv_istore_n (lv' := [(2, .int (iv (b))), (0, .ref (a 0)), (1, .int (iv (n))), (3, .int (iv (i)))]) X.1 X.2.1 dX5_brownest_64 rfl hl (by decide) rfl (fun ls hl => ?_)
              refine z_iinc (k := 3) (lv' := [(3, .int (iv (i + 1))), (2, .int (iv (b))), (0, .ref (a 0)), (1, .int (iv (n)))]) X dX5_brownest_65 hl rfl (by decide) rfl (fun ls hl => ?_)
              refine lv_goto (tgt := 32) X.1 X.2.1 dX5_brownest_68 (by decide) ?_
              exact ih (i + 1) (b) (by omega) (by omega) (by omega) (by rw [mostk_n (may := tt1) (val := vBest A n) i0 rfl (fun _ => (show brn (stepn A n.toNat) i ≤ (mostk tt1 (vBest A n) i.toNat).2 by omega))]; exact hm1) (by rw [mostk_n (may := tt1) (val := vBest A n) i0 rfl (fun _ => (show brn (stepn A n.toNat) i ≤ (mostk tt1 (vBest A n) i.toNat).2 by omega))]; exact hm2) (by omega) _ _ h ls (lv_sub hl [2, 3, 1, 0] rfl)
            · refine lv_iload_n X.1 X.2.1 dX5_brownest_59 rfl (lv_at hl 3 rfl) ?_
              refine lv_goto (tgt := 64) X.1 X.2.1 dX5_brownest_60 (by decide) ?_
              refine lv_istore_n (lv' := [(2, .int (iv (i))), (0, .ref (a 0)), (1, .int (iv (n))), (3, .int (iv (i)))]) X.1 X.2.1 dX5_brownest_64 rfl hl (by decide) rfl (fun ls hl => ?_)
              refine z_iinc (k := 3) (lv' := [(3, .int (iv (i + 1))), (2, .int (iv (i))), (0, .ref (a 0)), (1, .int (iv (n)))]) X dX5_brownest_65 hl rfl (by decide) rfl (fun ls hl => ?_)
              refine lv_goto (tgt := 32) X.1 X.2.1 dX5_brownest_68 (by decide) ?_
              exact ih (i + 1) (i) (by omega) (by omega) (by omega) (by rw [mostk_y (may := tt1) (val := vBest A n) i0 rfl rfl (show (mostk tt1 (vBest A n) i.toNat).2 < brn (stepn A n.toNat) i by omega)]) (Or.inr ⟨by omega, by rw [mostk_y (may := tt1) (val := vBest A n) i0 rfl rfl (show (mostk tt1 (vBest A n) i.toNat).2 < brn (stepn A n.toNat) i by omega)]; rfl⟩) (by omega) _ _ h ls (lv_sub hl [2, 3, 1, 0] rfl)
    exact L32 ((pe A - (0) : Int).toNat + 1) (0) (-1) (by omega) (by omega) (by omega) (rfl) (Or.inl ⟨rfl, rfl⟩) (by omega) _ _ h ls (lv_sub hl [2, 3, 1, 0] rfl)
  · refine lv_aload_n X.1 X.2.1 dX5_brownest_12 rfl (lv_at hl 0 rfl) ?_
    refine z_ldc (z := (-1000000001)) X ct_X5_38 (by decide) dX5_brownest_13 ?_
    refine z_ai h (run_V (rest := []) X h (c_X5_finds (k := 0) hF (by decide) (by decide) (by decide)) mi_X5_finds ml_X5_40 ⟨Nat.le_of_ble_eq_true rfl, Nat.le_of_ble_eq_true rfl⟩ ⟨rfl, rfl⟩ (Seg.rfl' _) 4 0 rfl rfl rfl rfl hl.1 rfl (Nat.le_of_ble_eq_true rfl) ⟨Nat.zero_le _, Nat.zero_le _⟩ dX5_brownest_15) (fun _ => rfl) (fun r fd5 H locs hp h => ?_)
    obtain ⟨rfl, hF5⟩ := hp
    have h : St E _ s H locs (wM E a (mm, kp, wa, (iv (ik)), fd5, gf, tp, (iv (tn)), (iv (tk)), (iv (bg)), (iv (pt)), (iv (vl)), (iv (bd)), bt, sz, cl)) := h
    have e9 : q_brownest A ph n = ((-1000000001), A, (bump ph 0)) := by unfold q_brownest; (repeat (first | rw [if_pos (by omega)] | rw [if_neg (by omega)])); try rfl
    exact ret _ _ _ _ _ (mm, kp, wa, (iv (ik)), fd5, gf, tp, (iv (tn)), (iv (tk)), (iv (bg)), (iv (pt)), (iv (vl)), (iv (bd)), bt, sz, cl) h (by rw [e9]; exact ⟨rfl, ⟨hR, hI, hr9⟩, hK, hF5, hT, hB⟩) dX5_brownest_18
