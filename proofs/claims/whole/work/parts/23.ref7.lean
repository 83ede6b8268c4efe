variable {E : EV} {l : Launch} {a : Nat → Nat} {mm kp wa fd gf tp bt sz : Nat → Int32} {cl : Nat → Int64} {ik tn tk bg pt vl bd : Int} {A : Es} {K : Es} {ph tq bq sq : Int → Int} {cq : Int → Int → Int64}
set_option maxHeartbeats 4000000 in
theorem c_X5_isSheet {s_ : Int} (rs : r32 s_) : MP E l yX5_isSheet cX5_isSheet 1 (some FieldType.boolean) (rmk 1 23) ([]) [.int (iv (s_))] (bz (0 ≤ s_ ∧ s_ ≤ 3)) := by
  refine goB (by decide) (Nat.le_of_ble_eq_true rfl) ?_
  intro pp e s m below meth c ls args Q ret X h hl
  have hl : lv_has ls 1 [(0, .int (iv (s_)))] := hl
  refine lv_iload_n X.1 X.2.1 dX5_isSheet_0 rfl (lv_at hl 0 rfl) ?_
  refine lv_i2l (v := (iv (s_)).toInt64) X.1 X.2.1 dX5_isSheet_1 rfl ?_
  refine z_iconst X dX5_isSheet_2 ?_
  refine z_iconst X dX5_isSheet_3 ?_
  refine z_pi (run_S (rest := []) X h (c_inI rs ⟨by decide, by decide⟩ ⟨by decide, by decide⟩) mi_X5_in ml_X5_44 ⟨Nat.le_of_ble_eq_true rfl, Nat.le_of_ble_eq_true rfl⟩ ⟨rfl, rfl⟩ (Seg.nil _) rfl hl.1 rfl (Nat.le_of_ble_eq_true rfl) ⟨Nat.zero_le _, Nat.zero_le _⟩ dX5_isSheet_4) ?_
  exact ret _ _ _ (rfl) dX5_isSheet_7

set_option maxHeartbeats 4000000 in
theorem c_X5_notThere (hB1 : RF 4 bt bq) (hB3 : okB bq sq) {sh : Int} (rs : r32 sh) : MP E l yX5_notThere cX5_notThere 2 (some FieldType.int) (rmk 2 43) (wM E a (mm, kp, wa, (iv (ik)), fd, gf, tp, (iv (tn)), (iv (tk)), (iv (bg)), (iv (pt)), (iv (vl)), (iv (bd)), bt, sz, cl)) [.ref (a 0), .int (iv (sh))] (nth bq sh) := by
  refine goP (by decide) (Nat.le_of_ble_eq_true rfl) ?_
  intro pp e s m below meth c ls args Q ret X h hl
  have hl : lv_has ls 2 [(0, .ref (a 0)), (1, .int (iv (sh)))] := hl
  refine lv_iload_n X.1 X.2.1 dX5_notThere_0 rfl (lv_at hl 1 rfl) ?_
  refine z_pi (run_S (rest := []) X h (c_X5_isSheet (s_ := sh) rs) mi_X5_isSheet ml_X5_209 ⟨Nat.le_of_ble_eq_true rfl, Nat.le_of_ble_eq_true rfl⟩ ⟨rfl, rfl⟩ (Seg.nil _) rfl hl.1 rfl (Nat.le_of_ble_eq_true rfl) ⟨Nat.zero_le _, Nat.zero_le _⟩ dX5_notThere_1) ?_
  refine z_ifb_ne (tgt := 12) X dX5_notThere_4 (by decide) (fun c_4 => ?_) (fun c_4 => ?_)
  · have ob := hB3.1 sh (by omega) (by omega)
    refine lv_aload_n X.1 X.2.1 dX5_notThere_12 rfl (lv_at hl 0 rfl) ?_
    refine z_get X h 4 0 13 rfl inX5 rfl (by decide) fl_X5_28 rfl dX5_notThere_13 ?_
    refine lv_iload_n X.1 X.2.1 dX5_notThere_16 rfl (lv_at hl 1 rfl) ?_
    refine z_iald (v := bq sh) X h 7 rfl (by omega) (by omega) (by decide) (hB1 sh (by omega) (by omega)) dX5_notThere_17 ?_
    refine z_if_ne (tgt := 26) X ⟨by omega, by omega⟩ dX5_notThere_18 (by decide) (fun c_18 => ?_) (fun c_18 => ?_)
    · refine z_iconst X dX5_notThere_26 ?_
      exact ret _ _ _ (by unfold nth; (repeat (first | rw [if_pos (by omega)] | rw [if_neg (by omega)])); try rfl) dX5_notThere_27
    · refine z_ldc (z := (-1000000006)) X ct_X5_213 (by decide) dX5_notThere_21 ?_
      refine lv_goto (tgt := 27) X.1 X.2.1 dX5_notThere_23 (by decide) ?_
      exact ret _ _ _ (by unfold nth; (repeat (first | rw [if_pos (by omega)] | rw [if_neg (by omega)])); try rfl) dX5_notThere_27
  · refine z_ldc (z := (-1000000001)) X ct_X5_38 (by decide) dX5_notThere_7 ?_
    refine lv_goto (tgt := 27) X.1 X.2.1 dX5_notThere_9 (by decide) ?_
    exact ret _ _ _ (by unfold nth; (repeat (first | rw [if_pos (by omega)] | rw [if_neg (by omega)])); try rfl) dX5_notThere_27

set_option maxHeartbeats 4000000 in
theorem c_X5_cutTo {b : Int} {v : Int64} (rb : r32 b) : MPL E l yX5_cutTo cX5_cutTo 3 (some FieldType.long) (rmk 0 0) ([]) [.int (iv (b)), .long (v)] (cut b v) := by
  refine goPL (by decide) (Nat.le_of_ble_eq_true rfl) ?_
  intro pp e s m below meth c ls args Q ret X h hl
  have hl : lv_has ls 3 [(0, .int (iv (b))), (1, .long (v))] := hl
  refine lv_iload_n X.1 X.2.1 dX5_cutTo_0 rfl (lv_at hl 0 rfl) ?_
  refine z_bipush X (by decide) dX5_cutTo_1 ?_
  refine z_ic_ne (tgt := 13) X rb ⟨by decide, by decide⟩ dX5_cutTo_3 (by decide) (fun c_3 => ?_) (fun c_3 => ?_)
  · refine lv_iload_n X.1 X.2.1 dX5_cutTo_13 rfl (lv_at hl 0 rfl) ?_
    refine z_bipush X (by decide) dX5_cutTo_14 ?_
    refine z_ic_ne (tgt := 26) X rb ⟨by decide, by decide⟩ dX5_cutTo_16 (by decide) (fun c_16 => ?_) (fun c_16 => ?_)
    · refine lv_lload_n X.1 X.2.1 dX5_cutTo_26 rfl (lv_at hl 1 rfl) ?_
      exact ret _ _ _ (by unfold cut; (repeat (first | rw [if_pos (by omega)] | rw [if_neg (by omega)]))) dX5_cutTo_27
    · refine lv_lload_n X.1 X.2.1 dX5_cutTo_19 rfl (lv_at hl 1 rfl) ?_
      refine lv_l2i (v := (v).toInt32) X.1 X.2.1 dX5_cutTo_20 rfl ?_
      refine lv_i2s (v := ((v).toInt32).toInt16.toInt32) X.1 X.2.1 dX5_cutTo_21 rfl ?_
      refine lv_i2l (v := (((v).toInt32).toInt16.toInt32).toInt64) X.1 X.2.1 dX5_cutTo_22 rfl ?_
      refine lv_goto (tgt := 27) X.1 X.2.1 dX5_cutTo_23 (by decide) ?_
      exact ret _ _ _ (by unfold cut; (repeat (first | rw [if_pos (by omega)] | rw [if_neg (by omega)]))) dX5_cutTo_27
  · refine lv_lload_n X.1 X.2.1 dX5_cutTo_6 rfl (lv_at hl 1 rfl) ?_
    refine lv_l2i (v := (v).toInt32) X.1 X.2.1 dX5_cutTo_7 rfl ?_
    refine lv_i2b (v := ((v).toInt32).toInt8.toInt32) X.1 X.2.1 dX5_cutTo_8 rfl ?_
    refine lv_i2l (v := (((v).toInt32).toInt8.toInt32).toInt64) X.1 X.2.1 dX5_cutTo_9 rfl ?_
    refine lv_goto (tgt := 27) X.1 X.2.1 dX5_cutTo_10 (by decide) ?_
    exact ret _ _ _ (by unfold cut; (repeat (first | rw [if_pos (by omega)] | rw [if_neg (by omega)]))) dX5_cutTo_27

set_option maxHeartbeats 4000000 in
theorem c_X5_notCopied (hB1 : RF 4 bt bq) (hB2 : RF 4 sz sq) (hB3 : okB bq sq) {sh fr th to n : Int} (r1 : r32 sh) (r2 : r32 fr) (r3 : r32 th) (r4 : r32 to) (r5 : r32 n) : MP E l yX5_notCopied cX5_notCopied 7 (some FieldType.int) (rmk 2 43) (wM E a (mm, kp, wa, (iv (ik)), fd, gf, tp, (iv (tn)), (iv (tk)), (iv (bg)), (iv (pt)), (iv (vl)), (iv (bd)), bt, sz, cl)) [.ref (a 0), .int (iv (sh)), .int (iv (fr)), .int (iv (th)), .int (iv (to)), .int (iv (n))] (ncp bq sq sh fr th to n) := by
  refine goP (by decide) (Nat.le_of_ble_eq_true rfl) ?_
  intro pp e s m below meth c ls args Q ret X h hl
  have hl : lv_has ls 7 [(0, .ref (a 0)), (1, .int (iv (sh))), (2, .int (iv (fr))), (3, .int (iv (th))), (4, .int (iv (to))), (5, .int (iv (n)))] := hl
  have q2 := r2.1
  have q22 := r2.2
  have q4 := r4.1
  have q42 := r4.2
  have q5 := r5.1
  have q52 := r5.2
  refine lv_iload_n X.1 X.2.1 dX5_notCopied_0 rfl (lv_at hl 1 rfl) ?_
  refine z_pi (run_S (rest := []) X h (c_X5_isSheet (s_ := sh) r1) mi_X5_isSheet ml_X5_209 ⟨Nat.le_of_ble_eq_true rfl, Nat.le_of_ble_eq_true rfl⟩ ⟨rfl, rfl⟩ (Seg.nil _) rfl hl.1 rfl (Nat.le_of_ble_eq_true rfl) ⟨Nat.zero_le _, Nat.zero_le _⟩ dX5_notCopied_1) ?_
  refine z_ifb_eq (tgt := 14) X dX5_notCopied_4 (by decide) (fun c_4 => ?_) (fun c_4 => ?_)
  · refine z_ldc (z := (-1000000001)) X ct_X5_38 (by decide) dX5_notCopied_14 ?_
    exact ret _ _ _ (by unfold ncp; (repeat (first | rw [if_pos (by omega)] | rw [if_neg (by omega)])); try rfl) dX5_notCopied_16
  · refine lv_iload_n X.1 X.2.1 dX5_notCopied_7 rfl (lv_at hl 3 rfl) ?_
    refine z_pi (run_S (rest := []) X h (c_X5_isSheet (s_ := th) r3) mi_X5_isSheet ml_X5_209 ⟨Nat.le_of_ble_eq_true rfl, Nat.le_of_ble_eq_true rfl⟩ ⟨rfl, rfl⟩ (Seg.nil _) rfl hl.1 rfl (Nat.le_of_ble_eq_true rfl) ⟨Nat.zero_le _, Nat.zero_le _⟩ dX5_notCopied_8) ?_
    refine z_ifb_ne (tgt := 17) X dX5_notCopied_11 (by decide) (fun c_11 => ?_) (fun c_11 => ?_)
    · have osh := hB3.1 sh (by omega) (by omega)
      have zsh := hB3.2 sh (by omega) (by omega)
      have oth := hB3.1 th (by omega) (by omega)
      have zth := hB3.2 th (by omega) (by omega)
      refine lv_aload_n X.1 X.2.1 dX5_notCopied_17 rfl (lv_at hl 0 rfl) ?_
      refine z_get X h 4 0 13 rfl inX5 rfl (by decide) fl_X5_28 rfl dX5_notCopied_18 ?_
      refine lv_iload_n X.1 X.2.1 dX5_notCopied_21 rfl (lv_at hl 1 rfl) ?_
      refine z_iald (v := bq sh) X h 7 rfl (by omega) (by omega) (by decide) (hB1 sh (by omega) (by omega)) dX5_notCopied_22 ?_
      refine z_if_eq (tgt := 35) X ⟨by omega, by omega⟩ dX5_notCopied_23 (by decide) (fun c_23 => ?_) (fun c_23 => ?_)
      · refine z_ldc (z := (-1000000006)) X ct_X5_213 (by decide) dX5_notCopied_35 ?_
        exact ret _ _ _ (by unfold ncp; (repeat (first | rw [if_pos (by omega)] | rw [if_neg (by omega)])); try rfl) dX5_notCopied_37
      · refine lv_aload_n X.1 X.2.1 dX5_notCopied_26 rfl (lv_at hl 0 rfl) ?_
        refine z_get X h 4 0 13 rfl inX5 rfl (by decide) fl_X5_28 rfl dX5_notCopied_27 ?_
        refine lv_iload_n X.1 X.2.1 dX5_notCopied_30 rfl (lv_at hl 3 rfl) ?_
        refine z_iald (v := bq th) X h 7 rfl (by omega) (by omega) (by decide) (hB1 th (by omega) (by omega)) dX5_notCopied_31 ?_
        refine z_if_ne (tgt := 38) X ⟨by omega, by omega⟩ dX5_notCopied_32 (by decide) (fun c_32 => ?_) (fun c_32 => ?_)
        · refine lv_aload_n X.1 X.2.1 dX5_notCopied_38 rfl (lv_at hl 0 rfl) ?_
          refine z_get X h 4 0 13 rfl inX5 rfl (by decide) fl_X5_28 rfl dX5_notCopied_39 ?_
          refine lv_iload_n X.1 X.2.1 dX5_notCopied_42 rfl (lv_at hl 1 rfl) ?_
          refine z_iald (v := bq sh) X h 7 rfl (by omega) (by omega) (by decide) (hB1 sh (by omega) (by omega)) dX5_notCopied_43 ?_
          refine lv_aload_n X.1 X.2.1 dX5_notCopied_44 rfl (lv_at hl 0 rfl) ?_
          refine z_get X h 4 0 13 rfl inX5 rfl (by decide) fl_X5_28 rfl dX5_notCopied_45 ?_
          refine lv_iload_n X.1 X.2.1 dX5_notCopied_48 rfl (lv_at hl 3 rfl) ?_
          refine z_iald (v := bq th) X h 7 rfl (by omega) (by omega) (by decide) (hB1 th (by omega) (by omega)) dX5_notCopied_49 ?_
          refine z_ic_eq (tgt := 56) X ⟨by omega, by omega⟩ ⟨by omega, by omega⟩ dX5_notCopied_50 (by decide) (fun c_50 => ?_) (fun c_50 => ?_)
          · refine lv_iload X.1 X.2.1 dX5_notCopied_56 (lv_at hl 5 rfl) ?_
            refine z_if_lt (tgt := 101) X r5 dX5_notCopied_58 (by decide) (fun c_58 => ?_) (fun c_58 => ?_)
            · refine z_iconst X dX5_notCopied_101 ?_
              refine lv_istore (lv' := [(6, .int (iv (0))), (0, .ref (a 0)), (1, .int (iv (sh))), (2, .int (iv (fr))), (3, .int (iv (th))), (4, .int (iv (to))), (5, .int (iv (n)))]) X.1 X.2.1 dX5_notCopied_102 hl (by decide) rfl (fun ls hl => ?_)
              refine lv_iload X.1 X.2.1 dX5_notCopied_104 (lv_at hl 0 rfl) ?_
              refine z_if_eq (tgt := 113) X ⟨by decide, by decide⟩ dX5_notCopied_106 (by decide) (fun c_106 => ?_) (fun c_106 => ?_)
              · refine z_ldc (z := (-1000000001)) X ct_X5_38 (by decide) dX5_notCopied_113 ?_
                exact ret _ _ _ (by unfold ncp; (repeat (first | rw [if_pos (by omega)] | rw [if_neg (by omega)])); try rfl) dX5_notCopied_115
              · exact absurd c_106 (by decide)
            · refine lv_iload_n X.1 X.2.1 dX5_notCopied_61 rfl (lv_at hl 2 rfl) ?_
              refine z_if_lt (tgt := 101) X r2 dX5_notCopied_62 (by decide) (fun c_62 => ?_) (fun c_62 => ?_)
              · refine z_iconst X dX5_notCopied_101 ?_
                refine lv_istore (lv' := [(6, .int (iv (0))), (0, .ref (a 0)), (1, .int (iv (sh))), (2, .int (iv (fr))), (3, .int (iv (th))), (4, .int (iv (to))), (5, .int (iv (n)))]) X.1 X.2.1 dX5_notCopied_102 hl (by decide) rfl (fun ls hl => ?_)
                refine lv_iload X.1 X.2.1 dX5_notCopied_104 (lv_at hl 0 rfl) ?_
                refine z_if_eq (tgt := 113) X ⟨by decide, by decide⟩ dX5_notCopied_106 (by decide) (fun c_106 => ?_) (fun c_106 => ?_)
                · refine z_ldc (z := (-1000000001)) X ct_X5_38 (by decide) dX5_notCopied_113 ?_
                  exact ret _ _ _ (by unfold ncp; (repeat (first | rw [if_pos (by omega)] | rw [if_neg (by omega)])); try rfl) dX5_notCopied_115
                · exact absurd c_106 (by decide)
              · refine lv_iload X.1 X.2.1 dX5_notCopied_65 (lv_at hl 4 rfl) ?_
                refine z_if_lt (tgt := 101) X r4 dX5_notCopied_67 (by decide) (fun c_67 => ?_) (fun c_67 => ?_)
                · refine z_iconst X dX5_notCopied_101 ?_
                  refine lv_istore (lv' := [(6, .int (iv (0))), (0, .ref (a 0)), (1, .int (iv (sh))), (2, .int (iv (fr))), (3, .int (iv (th))), (4, .int (iv (to))), (5, .int (iv (n)))]) X.1 X.2.1 dX5_notCopied_102 hl (by decide) rfl (fun ls hl => ?_)
                  refine lv_iload X.1 X.2.1 dX5_notCopied_104 (lv_at hl 0 rfl) ?_
                  refine z_if_eq (tgt := 113) X ⟨by decide, by decide⟩ dX5_notCopied_106 (by decide) (fun c_106 => ?_) (fun c_106 => ?_)
                  · refine z_ldc (z := (-1000000001)) X ct_X5_38 (by decide) dX5_notCopied_113 ?_
                    exact ret _ _ _ (by unfold ncp; (repeat (first | rw [if_pos (by omega)] | rw [if_neg (by omega)])); try rfl) dX5_notCopied_115
                  · exact absurd c_106 (by decide)
                · refine lv_iload X.1 X.2.1 dX5_notCopied_70 (lv_at hl 5 rfl) ?_
                  refine lv_aload_n X.1 X.2.1 dX5_notCopied_72 rfl (lv_at hl 0 rfl) ?_
                  refine z_get X h 4 0 14 rfl inX5 rfl (by decide) fl_X5_31 rfl dX5_notCopied_73 ?_
                  refine lv_iload_n X.1 X.2.1 dX5_notCopied_76 rfl (lv_at hl 1 rfl) ?_
                  refine z_iald (v := sq sh) X h 8 rfl (by omega) (by omega) (by decide) (hB2 sh (by omega) (by omega)) dX5_notCopied_77 ?_
                  refine lv_iload_n X.1 X.2.1 dX5_notCopied_78 rfl (lv_at hl 2 rfl) ?_
                  refine z_isub X dX5_notCopied_79 ?_
                  refine z_ic_gt (tgt := 101) X r5 ⟨by omega, by omega⟩ dX5_notCopied_80 (by decide) (fun c_80 => ?_) (fun c_80 => ?_)
                  · refine z_iconst X dX5_notCopied_101 ?_
                    refine lv_istore (lv' := [(6, .int (iv (0))), (0, .ref (a 0)), (1, .int (iv (sh))), (2, .int (iv (fr))), (3, .int (iv (th))), (4, .int (iv (to))), (5, .int (iv (n)))]) X.1 X.2.1 dX5_notCopied_102 hl (by decide) rfl (fun ls hl => ?_)
                    refine lv_iload X.1 X.2.1 dX5_notCopied_104 (lv_at hl 0 rfl) ?_
                    refine z_if_eq (tgt := 113) X ⟨by decide, by decide⟩ dX5_notCopied_106 (by decide) (fun c_106 => ?_) (fun c_106 => ?_)
                    · refine z_ldc (z := (-1000000001)) X ct_X5_38 (by decide) dX5_notCopied_113 ?_
                      exact ret _ _ _ (by unfold ncp; (repeat (first | rw [if_pos (by omega)] | rw [if_neg (by omega)])); try rfl) dX5_notCopied_115
                    · exact absurd c_106 (by decide)
                  · refine lv_iload X.1 X.2.1 dX5_notCopied_83 (lv_at hl 5 rfl) ?_
                    refine lv_aload_n X.1 X.2.1 dX5_notCopied_85 rfl (lv_at hl 0 rfl) ?_
                    refine z_get X h 4 0 14 rfl inX5 rfl (by decide) fl_X5_31 rfl dX5_notCopied_86 ?_
                    refine lv_iload_n X.1 X.2.1 dX5_notCopied_89 rfl (lv_at hl 3 rfl) ?_
                    refine z_iald (v := sq th) X h 8 rfl (by omega) (by omega) (by decide) (hB2 th (by omega) (by omega)) dX5_notCopied_90 ?_
                    refine lv_iload X.1 X.2.1 dX5_notCopied_91 (lv_at hl 4 rfl) ?_
                    refine z_isub X dX5_notCopied_93 ?_
                    refine z_ic_gt (tgt := 101) X r5 ⟨by omega, by omega⟩ dX5_notCopied_94 (by decide) (fun c_94 => ?_) (fun c_94 => ?_)
                    · refine z_iconst X dX5_notCopied_101 ?_
                      refine lv_istore (lv' := [(6, .int (iv (0))), (0, .ref (a 0)), (1, .int (iv (sh))), (2, .int (iv (fr))), (3, .int (iv (th))), (4, .int (iv (to))), (5, .int (iv (n)))]) X.1 X.2.1 dX5_notCopied_102 hl (by decide) rfl (fun ls hl => ?_)
                      refine lv_iload X.1 X.2.1 dX5_notCopied_104 (lv_at hl 0 rfl) ?_
                      refine z_if_eq (tgt := 113) X ⟨by decide, by decide⟩ dX5_notCopied_106 (by decide) (fun c_106 => ?_) (fun c_106 => ?_)
                      · refine z_ldc (z := (-1000000001)) X ct_X5_38 (by decide) dX5_notCopied_113 ?_
                        exact ret _ _ _ (by unfold ncp; (repeat (first | rw [if_pos (by omega)] | rw [if_neg (by omega)])); try rfl) dX5_notCopied_115
                      · exact absurd c_106 (by decide)
                    · refine z_iconst X dX5_notCopied_97 ?_
                      refine lv_goto (tgt := 102) X.1 X.2.1 dX5_notCopied_98 (by decide) ?_
                      refine lv_istore (lv' := [(6, .int (iv (1))), (0, .ref (a 0)), (1, .int (iv (sh))), (2, .int (iv (fr))), (3, .int (iv (th))), (4, .int (iv (to))), (5, .int (iv (n)))]) X.1 X.2.1 dX5_notCopied_102 hl (by decide) rfl (fun ls hl => ?_)
                      refine lv_iload X.1 X.2.1 dX5_notCopied_104 (lv_at hl 0 rfl) ?_
                      refine z_if_eq (tgt := 113) X ⟨by decide, by decide⟩ dX5_notCopied_106 (by decide) (fun c_106 => ?_) (fun c_106 => ?_)
                      · exact absurd c_106 (by decide)
                      · refine z_iconst X dX5_notCopied_109 ?_
                        refine lv_goto (tgt := 115) X.1 X.2.1 dX5_notCopied_110 (by decide) ?_
                        exact ret _ _ _ (by unfold ncp; (repeat (first | rw [if_pos (by omega)] | rw [if_neg (by omega)])); try rfl) dX5_notCopied_115
          · refine z_ldc (z := (-1000000003)) X ct_X5_108 (by decide) dX5_notCopied_53 ?_
            exact ret _ _ _ (by unfold ncp; (repeat (first | rw [if_pos (by omega)] | rw [if_neg (by omega)])); try rfl) dX5_notCopied_55
        · refine z_ldc (z := (-1000000006)) X ct_X5_213 (by decide) dX5_notCopied_35 ?_
          exact ret _ _ _ (by unfold ncp; (repeat (first | rw [if_pos (by omega)] | rw [if_neg (by omega)])); try rfl) dX5_notCopied_37
    · refine z_ldc (z := (-1000000001)) X ct_X5_38 (by decide) dX5_notCopied_14 ?_
      exact ret _ _ _ (by unfold ncp; (repeat (first | rw [if_pos (by omega)] | rw [if_neg (by omega)])); try rfl) dX5_notCopied_16

set_option maxHeartbeats 4000000 in
theorem c_X5_sheet (hS : RepM (mm, kp, wa, (iv (ik)), fd, gf, tp, (iv (tn)), (iv (tk)), (iv (bg)), (iv (pt)), (iv (vl)), (iv (bd)), bt, sz, cl) (A, K, ik, ph, tq, tn, bq, sq, cq)) {sh : Int} (r_sh : r32 sh) {b : Int} (r_b : r32 b) {n : Int} (r_n : r32 n) : MI (S := Mc) E l yX5_sheet cX5_sheet 5 (some FieldType.int) (rmk 2 43) (wM E a (mm, kp, wa, (iv (ik)), fd, gf, tp, (iv (tn)), (iv (tk)), (iv (bg)), (iv (pt)), (iv (vl)), (iv (bd)), bt, sz, cl)) [.ref (a 0), .int (iv (sh)), .int (iv (b)), .int (iv (n))] (fun r u => r = iv ((q_sheet bq sq cq ph sh b n).1) ∧ RepM u (A, K, ik, (q_sheet bq sq cq ph sh b n).2.2.2.2, tq, tn, (q_sheet bq sq cq ph sh b n).2.1, (q_sheet bq sq cq ph sh b n).2.2.1, (q_sheet bq sq cq ph sh b n).2.2.2.1)) (fun u => wM E a u) := by
  refine goI (S := Mc) (post := fun r u => r = iv ((q_sheet bq sq cq ph sh b n).1) ∧ RepM u (A, K, ik, (q_sheet bq sq cq ph sh b n).2.2.2.2, tq, tn, (q_sheet bq sq cq ph sh b n).2.1, (q_sheet bq sq cq ph sh b n).2.2.1, (q_sheet bq sq cq ph sh b n).2.2.2.1)) (ws' := fun u => wM E a u) (by decide) (Nat.le_of_ble_eq_true rfl) ?_
  intro pp e s m below meth c ls args Q ret X h hl
  have hl : lv_has ls 5 [(0, .ref (a 0)), (1, .int (iv (sh))), (2, .int (iv (b))), (3, .int (iv (n)))] := hl
  have hR : RM mm A := hS.1.1
  have hI : IA A := hS.1.2.1
  have hr9 : hr A ≤ 99999 := hS.1.2.2
  have hF : RF 7 fd ph := hS.2.2.1
  have hK := hS.2.1
  have hT := hS.2.2.2.1
  have hB := hS.2.2.2.2
  have hh : hr A < 1000000 := by omega
  have n8 := hI.n8
  have n0 := hI.n0
  have h0 := hI.h0
  have hB1 : RF 4 bt bq := hS.2.2.2.2.1
  have hB2 : RF 4 sz sq := hS.2.2.2.2.2.1
  have hB3 : okB bq sq := hS.2.2.2.2.2.2.1
  have hB4 : CL cl cq := hS.2.2.2.2.2.2.2
  have ht0 : 0 ≤ tn := hS.2.2.2.1.2.1
  have ht1 : tn ≤ 120 := hS.2.2.2.1.2.2.1
  have hk01 : ik = 0 ∨ ik = 1 := hS.2.1.2.1
  refine lv_iload_n X.1 X.2.1 dX5_sheet_0 rfl (lv_at hl 1 rfl) ?_
  refine z_pi (run_S (rest := []) X h (c_X5_isSheet (s_ := sh) r_sh) mi_X5_isSheet ml_X5_209 ⟨Nat.le_of_ble_eq_true rfl, Nat.le_of_ble_eq_true rfl⟩ ⟨rfl, rfl⟩ (Seg.nil _) rfl hl.1 rfl (Nat.le_of_ble_eq_true rfl) ⟨Nat.zero_le _, Nat.zero_le _⟩ dX5_sheet_1) ?_
  refine z_ifb_eq (tgt := 29) X dX5_sheet_4 (by decide) (fun c_4 => ?_) (fun c_4 => ?_)
  · refine lv_aload_n X.1 X.2.1 dX5_sheet_29 rfl (lv_at hl 0 rfl) ?_
    refine z_ldc (z := (-1000000001)) X ct_X5_38 (by decide) dX5_sheet_30 ?_
    refine z_ai h (run_V (rest := []) X h (c_X5_finds (k := 0) hF (by decide) (by decide) (by decide)) mi_X5_finds ml_X5_40 ⟨Nat.le_of_ble_eq_true rfl, Nat.le_of_ble_eq_true rfl⟩ ⟨rfl, rfl⟩ (Seg.rfl' _) 4 0 rfl rfl rfl rfl hl.1 rfl (Nat.le_of_ble_eq_true rfl) ⟨Nat.zero_le _, Nat.zero_le _⟩ dX5_sheet_32) (fun _ => rfl) (fun r fd1 H locs hp h => ?_)
    obtain ⟨rfl, hF1⟩ := hp
    have h : St E _ s H locs (wM E a (mm, kp, wa, (iv (ik)), fd1, gf, tp, (iv (tn)), (iv (tk)), (iv (bg)), (iv (pt)), (iv (vl)), (iv (bd)), bt, sz, cl)) := h
    have e9 : q_sheet bq sq cq ph sh b n = ((-1000000001), bq, sq, cq, (bump ph 0)) := by unfold q_sheet; (repeat (first | rw [if_pos (by omega)] | rw [if_neg (by omega)])); try rfl
    exact ret _ _ _ _ _ (mm, kp, wa, (iv (ik)), fd1, gf, tp, (iv (tn)), (iv (tk)), (iv (bg)), (iv (pt)), (iv (vl)), (iv (bd)), bt, sz, cl) h (by rw [e9]; exact ⟨rfl, ⟨hR, hI, hr9⟩, hK, hF1, hT, hB⟩) dX5_sheet_35
  · have J36 : (b = 0 ∨ b = 8 ∨ b = 16 ∨ b = 64) → ∀ ls : Array Slot, lv_has ls 5 [(0, .ref (a 0)), (1, .int (iv (sh))), (2, .int (iv (b))), (3, .int (iv (n)))] → W pp l e (rmk 2 43) s m args below meth c s.heap [] 0 0 Q (F0 m 36 ls []) := by
      intro  jb ls hl
      refine lv_iload_n X.1 X.2.1 dX5_sheet_36 rfl (lv_at hl 3 rfl) ?_
      refine z_if_ge (tgt := 47) X r_n dX5_sheet_37 (by decide) (fun c_37 => ?_) (fun c_37 => ?_)
      · refine lv_iload_n X.1 X.2.1 dX5_sheet_47 rfl (lv_at hl 3 rfl) ?_
        refine z_bipush X (by decide) dX5_sheet_48 ?_
        refine z_ic_le (tgt := 60) X r_n ⟨by decide, by decide⟩ dX5_sheet_50 (by decide) (fun c_50 => ?_) (fun c_50 => ?_)
        · refine lv_aload_n X.1 X.2.1 dX5_sheet_60 rfl (lv_at hl 0 rfl) ?_
          refine z_get X h 4 0 13 rfl inX5 rfl (by decide) fl_X5_28 rfl dX5_sheet_61 ?_
          refine lv_iload_n X.1 X.2.1 dX5_sheet_64 rfl (lv_at hl 1 rfl) ?_
          refine lv_iload_n X.1 X.2.1 dX5_sheet_65 rfl (lv_at hl 2 rfl) ?_
          refine z_iast X h 7 rfl (by omega) (by omega) (by decide) dX5_sheet_66 (fun H locs h => ?_)
          have h : St E _ s H locs (wM E a (mm, kp, wa, (iv (ik)), fd, gf, tp, (iv (tn)), (iv (tk)), (iv (bg)), (iv (pt)), (iv (vl)), (iv (bd)), (upd bt (sh : Int).toNat (iv (b))), sz, cl)) := h
          refine lv_aload_n X.1 X.2.1 dX5_sheet_67 rfl (lv_at hl 0 rfl) ?_
          refine z_get X h 4 0 14 rfl inX5 rfl (by decide) fl_X5_31 rfl dX5_sheet_68 ?_
          refine lv_iload_n X.1 X.2.1 dX5_sheet_71 rfl (lv_at hl 1 rfl) ?_
          refine lv_iload_n X.1 X.2.1 dX5_sheet_72 rfl (lv_at hl 2 rfl) ?_
          refine z_if_ne (tgt := 80) X r_b dX5_sheet_73 (by decide) (fun c_73 => ?_) (fun c_73 => ?_)
          · refine lv_iload_n X.1 X.2.1 dX5_sheet_80 rfl (lv_at hl 3 rfl) ?_
            refine z_iast X h 8 rfl (by omega) (by omega) (by decide) dX5_sheet_81 (fun H locs h => ?_)
            have h : St E _ s H locs (wM E a (mm, kp, wa, (iv (ik)), fd, gf, tp, (iv (tn)), (iv (tk)), (iv (bg)), (iv (pt)), (iv (vl)), (iv (bd)), (upd bt (sh : Int).toNat (iv (b))), (upd sz (sh : Int).toNat (iv (n))), cl)) := h
            have hb1 := RF_fu hB1 (k := sh) (v := b) (by omega)
            have hb2 := RF_fu hB2 (k := sh) (v := n) (by omega)
            refine z_iconst X dX5_sheet_82 ?_
            refine lv_istore (lv' := [(4, .int (iv (0))), (0, .ref (a 0)), (1, .int (iv (sh))), (2, .int (iv (b))), (3, .int (iv (n)))]) X.1 X.2.1 dX5_sheet_83 hl (by decide) rfl (fun ls hl => ?_)
            have L85 : ∀ (fuel_ : Nat) (i : Int) (cv : Nat → Int64), (0 ≤ i) → (i ≤ 40) → (CL cv (fun t j => if t = sh ∧ j < i then 0 else cq t j)) → 40 - i < (fuel_ : Int) → ∀ (H : Heap) (locs : List Loc), St E (wM E a (mm, kp, wa, (iv (ik)), fd, gf, tp, (iv (tn)), (iv (tk)), (iv (bg)), (iv (pt)), (iv (vl)), (iv (bd)), bt, sz, cl)) s H locs (wM E a (mm, kp, wa, (iv (ik)), fd, gf, tp, (iv (tn)), (iv (tk)), (iv (bg)), (iv (pt)), (iv (vl)), (iv (bd)), (upd bt (sh : Int).toNat (iv (b))), (upd sz (sh : Int).toNat (iv (n))), cv)) → ∀ ls : Array Slot, lv_has ls 5 [(0, .ref (a 0)), (1, .int (iv (sh))), (2, .int (iv (b))), (3, .int (iv (n))), (4, .int (iv (i)))] → W pp l e (rmk 2 43) s m args below meth c H locs 0 0 Q (F0 m 85 ls []) := by
              intro fuel_
              induction fuel_ with
              | zero =>
                intro i cv i0 i1 hc hn
                exfalso; omega
              | succ fuel_ ih =>
                intro i cv i0 i1 hc hn H locs h ls hl
                refine lv_iload X.1 X.2.1 dX5_sheet_85 (lv_at hl 4 rfl) ?_
                refine z_bipush X (by decide) dX5_sheet_87 ?_
                refine z_ic_ge (tgt := 111) X ⟨by omega, by omega⟩ ⟨by decide, by decide⟩ dX5_sheet_89 (by decide) (fun c_89 => ?_) (fun c_89 => ?_)
                · have hc2 : CL cv (fun t j => if t = sh then 0 else cq t j) := CL_congr hc (fun t j t0 t1 j0 j1 => by by_cases e : t = sh <;> simp [e] <;> omega)
                  refine lv_aload_n X.1 X.2.1 dX5_sheet_111 rfl (lv_at hl 0 rfl) ?_
                  refine z_get X h 4 0 14 rfl inX5 rfl (by decide) fl_X5_31 rfl dX5_sheet_112 ?_
                  refine lv_iload_n X.1 X.2.1 dX5_sheet_115 rfl (lv_at hl 1 rfl) ?_
                  refine z_iald (v := (fu sq sh (n)) sh) X h 8 rfl (by omega) (by omega) (by decide) (hb2 sh (by omega) (by omega)) dX5_sheet_116 ?_
                  have e9 : q_sheet bq sq cq ph sh b n = ((fu sq sh (n)) sh, (fu bq sh b), (fu sq sh (n)), (fun t j => if t = sh then 0 else cq t j), ph) := by unfold q_sheet; rw [if_neg (by omega), if_neg (by omega), if_neg (by omega)]; first | (rw [if_pos (by omega)]; simp [fu]; done) | (rw [if_neg (by omega)]; simp [fu]; done)
                  exact ret _ _ _ _ _ (mm, kp, wa, (iv (ik)), fd, gf, tp, (iv (tn)), (iv (tk)), (iv (bg)), (iv (pt)), (iv (vl)), (iv (bd)), (upd bt (sh : Int).toNat (iv (b))), (upd sz (sh : Int).toNat (iv (n))), cv) h (by rw [e9]; exact ⟨rfl, ⟨hR, hI, hr9⟩, hK, hF, hT, ⟨hb1, hb2, okB_fu hB3 (by omega) (by omega) (by omega), hc2⟩⟩) dX5_sheet_117
                · refine lv_aload_n X.1 X.2.1 dX5_sheet_92 rfl (lv_at hl 0 rfl) ?_
                  refine z_get X h 4 0 15 rfl inX5 rfl (by decide) fl_X5_34 rfl dX5_sheet_93 ?_
                  refine z_bipush X (by decide) dX5_sheet_96 ?_
                  refine lv_iload_n X.1 X.2.1 dX5_sheet_98 rfl (lv_at hl 1 rfl) ?_
                  refine z_imul X dX5_sheet_99 ?_
                  refine lv_iload X.1 X.2.1 dX5_sheet_100 (lv_at hl 4 rfl) ?_
                  refine z_iadd X dX5_sheet_102 ?_
                  refine lv_lconst (v := 0) X.1 X.2.1 dX5_sheet_103 (by decide) ?_
                  refine z_last X h 9 rfl (by omega) (by omega) (by decide) dX5_sheet_104 (fun H locs h => ?_)
                  have h : St E _ s H locs (wM E a (mm, kp, wa, (iv (ik)), fd, gf, tp, (iv (tn)), (iv (tk)), (iv (bg)), (iv (pt)), (iv (vl)), (iv (bd)), (upd bt (sh : Int).toNat (iv (b))), (upd sz (sh : Int).toNat (iv (n))), (vp_updL cv (40 * sh + i : Int).toNat (0)))) := h
                  refine z_iinc (k := 4) (lv' := [(4, .int (iv (i + 1))), (0, .ref (a 0)), (1, .int (iv (sh))), (2, .int (iv (b))), (3, .int (iv (n)))]) X dX5_sheet_105 hl rfl (by decide) rfl (fun ls hl => ?_)
                  refine lv_goto (tgt := 85) X.1 X.2.1 dX5_sheet_108 (by decide) ?_
                  exact ih (i + 1) ((vp_updL cv (40 * sh + i : Int).toNat (0))) (by omega) (by omega) (CL_congr (CL_upd hc (by omega) (by omega) i0 (by omega)) (fun t j t0 t1 j0 j1 => zro_s)) (by omega) _ _ h ls (lv_sub hl [1, 2, 3, 4, 0] rfl)
            exact L85 ((40 - (0) : Int).toNat + 1) (0) (cl) (by omega) (by omega) (CL_congr hB4 (fun t j t0 t1 j0 j1 => by rw [if_neg (by omega)])) (by omega) _ _ h ls (lv_sub hl [1, 2, 3, 4, 0] rfl)
          · refine z_iconst X dX5_sheet_76 ?_
            refine lv_goto (tgt := 81) X.1 X.2.1 dX5_sheet_77 (by decide) ?_
            refine z_iast X h 8 rfl (by omega) (by omega) (by decide) dX5_sheet_81 (fun H locs h => ?_)
            have h : St E _ s H locs (wM E a (mm, kp, wa, (iv (ik)), fd, gf, tp, (iv (tn)), (iv (tk)), (iv (bg)), (iv (pt)), (iv (vl)), (iv (bd)), (upd bt (sh : Int).toNat (iv (b))), (upd sz (sh : Int).toNat (iv (0))), cl)) := h
            have hb1 := RF_fu hB1 (k := sh) (v := b) (by omega)
            have hb2 := RF_fu hB2 (k := sh) (v := 0) (by omega)
            refine z_iconst X dX5_sheet_82 ?_
            refine lv_istore (lv' := [(4, .int (iv (0))), (0, .ref (a 0)), (1, .int (iv (sh))), (2, .int (iv (b))), (3, .int (iv (n)))]) X.1 X.2.1 dX5_sheet_83 hl (by decide) rfl (fun ls hl => ?_)
            have L85 : ∀ (fuel_ : Nat) (i : Int) (cv : Nat → Int64), (0 ≤ i) → (i ≤ 40) → (CL cv (fun t j => if t = sh ∧ j < i then 0 else cq t j)) → 40 - i < (fuel_ : Int) → ∀ (H : Heap) (locs : List Loc), St E (wM E a (mm, kp, wa, (iv (ik)), fd, gf, tp, (iv (tn)), (iv (tk)), (iv (bg)), (iv (pt)), (iv (vl)), (iv (bd)), bt, sz, cl)) s H locs (wM E a (mm, kp, wa, (iv (ik)), fd, gf, tp, (iv (tn)), (iv (tk)), (iv (bg)), (iv (pt)), (iv (vl)), (iv (bd)), (upd bt (sh : Int).toNat (iv (b))), (upd sz (sh : Int).toNat (iv (0))), cv)) → ∀ ls : Array Slot, lv_has ls 5 [(0, .ref (a 0)), (1, .int (iv (sh))), (2, .int (iv (b))), (3, .int (iv (n))), (4, .int (iv (i)))] → W pp l e (rmk 2 43) s m args below meth c H locs 0 0 Q (F0 m 85 ls []) := by
              intro fuel_
              induction fuel_ with
              | zero =>
                intro i cv i0 i1 hc hn
                exfalso; omega
              | succ fuel_ ih =>
                intro i cv i0 i1 hc hn H locs h ls hl
                refine lv_iload X.1 X.2.1 dX5_sheet_85 (lv_at hl 4 rfl) ?_
                refine z_bipush X (by decide) dX5_sheet_87 ?_
                refine z_ic_ge (tgt := 111) X ⟨by omega, by omega⟩ ⟨by decide, by decide⟩ dX5_sheet_89 (by decide) (fun c_89 => ?_) (fun c_89 => ?_)
                · have hc2 : CL cv (fun t j => if t = sh then 0 else cq t j) := CL_congr hc (fun t j t0 t1 j0 j1 => by by_cases e : t = sh <;> simp [e] <;> omega)
                  refine lv_aload_n X.1 X.2.1 dX5_sheet_111 rfl (lv_at hl 0 rfl) ?_
                  refine z_get X h 4 0 14 rfl inX5 rfl (by decide) fl_X5_31 rfl dX5_sheet_112 ?_
                  refine lv_iload_n X.1 X.2.1 dX5_sheet_115 rfl (lv_at hl 1 rfl) ?_
                  refine z_iald (v := (fu sq sh (0)) sh) X h 8 rfl (by omega) (by omega) (by decide) (hb2 sh (by omega) (by omega)) dX5_sheet_116 ?_
                  have e9 : q_sheet bq sq cq ph sh b n = ((fu sq sh (0)) sh, (fu bq sh b), (fu sq sh (0)), (fun t j => if t = sh then 0 else cq t j), ph) := by unfold q_sheet; rw [if_neg (by omega), if_neg (by omega), if_neg (by omega)]; first | (rw [if_pos (by omega)]; simp [fu]; done) | (rw [if_neg (by omega)]; simp [fu]; done)
                  exact ret _ _ _ _ _ (mm, kp, wa, (iv (ik)), fd, gf, tp, (iv (tn)), (iv (tk)), (iv (bg)), (iv (pt)), (iv (vl)), (iv (bd)), (upd bt (sh : Int).toNat (iv (b))), (upd sz (sh : Int).toNat (iv (0))), cv) h (by rw [e9]; exact ⟨rfl, ⟨hR, hI, hr9⟩, hK, hF, hT, ⟨hb1, hb2, okB_fu hB3 (by omega) (by omega) (by omega), hc2⟩⟩) dX5_sheet_117
                · refine lv_aload_n X.1 X.2.1 dX5_sheet_92 rfl (lv_at hl 0 rfl) ?_
                  refine z_get X h 4 0 15 rfl inX5 rfl (by decide) fl_X5_34 rfl dX5_sheet_93 ?_
                  refine z_bipush X (by decide) dX5_sheet_96 ?_
                  refine lv_iload_n X.1 X.2.1 dX5_sheet_98 rfl (lv_at hl 1 rfl) ?_
                  refine z_imul X dX5_sheet_99 ?_
                  refine lv_iload X.1 X.2.1 dX5_sheet_100 (lv_at hl 4 rfl) ?_
                  refine z_iadd X dX5_sheet_102 ?_
                  refine lv_lconst (v := 0) X.1 X.2.1 dX5_sheet_103 (by decide) ?_
                  refine z_last X h 9 rfl (by omega) (by omega) (by decide) dX5_sheet_104 (fun H locs h => ?_)
                  have h : St E _ s H locs (wM E a (mm, kp, wa, (iv (ik)), fd, gf, tp, (iv (tn)), (iv (tk)), (iv (bg)), (iv (pt)), (iv (vl)), (iv (bd)), (upd bt (sh : Int).toNat (iv (b))), (upd sz (sh : Int).toNat (iv (0))), (vp_updL cv (40 * sh + i : Int).toNat (0)))) := h
                  refine z_iinc (k := 4) (lv' := [(4, .int (iv (i + 1))), (0, .ref (a 0)), (1, .int (iv (sh))), (2, .int (iv (b))), (3, .int (iv (n)))]) X dX5_sheet_105 hl rfl (by decide) rfl (fun ls hl => ?_)
                  refine lv_goto (tgt := 85) X.1 X.2.1 dX5_sheet_108 (by decide) ?_
                  exact ih (i + 1) ((vp_updL cv (40 * sh + i : Int).toNat (0))) (by omega) (by omega) (CL_congr (CL_upd hc (by omega) (by omega) i0 (by omega)) (fun t j t0 t1 j0 j1 => zro_s)) (by omega) _ _ h ls (lv_sub hl [1, 2, 3, 4, 0] rfl)
            exact L85 ((40 - (0) : Int).toNat + 1) (0) (cl) (by omega) (by omega) (CL_congr hB4 (fun t j t0 t1 j0 j1 => by rw [if_neg (by omega)])) (by omega) _ _ h ls (lv_sub hl [1, 2, 3, 4, 0] rfl)
        · refine lv_aload_n X.1 X.2.1 dX5_sheet_53 rfl (lv_at hl 0 rfl) ?_
          refine z_ldc (z := (-1000000001)) X ct_X5_38 (by decide) dX5_sheet_54 ?_
          refine z_ai h (run_V (rest := []) X h (c_X5_finds (k := 0) hF (by decide) (by decide) (by decide)) mi_X5_finds ml_X5_40 ⟨Nat.le_of_ble_eq_true rfl, Nat.le_of_ble_eq_true rfl⟩ ⟨rfl, rfl⟩ (Seg.rfl' _) 4 0 rfl rfl rfl rfl hl.1 rfl (Nat.le_of_ble_eq_true rfl) ⟨Nat.zero_le _, Nat.zero_le _⟩ dX5_sheet_56) (fun _ => rfl) (fun r fd2 H locs hp h => ?_)
          obtain ⟨rfl, hF2⟩ := hp
          have h : St E _ s H locs (wM E a (mm, kp, wa, (iv (ik)), fd2, gf, tp, (iv (tn)), (iv (tk)), (iv (bg)), (iv (pt)), (iv (vl)), (iv (bd)), bt, sz, cl)) := h
          have e9 : q_sheet bq sq cq ph sh b n = ((-1000000001), bq, sq, cq, (bump ph 0)) := by unfold q_sheet; (repeat (first | rw [if_pos (by omega)] | rw [if_neg (by omega)])); try rfl
          exact ret _ _ _ _ _ (mm, kp, wa, (iv (ik)), fd2, gf, tp, (iv (tn)), (iv (tk)), (iv (bg)), (iv (pt)), (iv (vl)), (iv (bd)), bt, sz, cl) h (by rw [e9]; exact ⟨rfl, ⟨hR, hI, hr9⟩, hK, hF2, hT, hB⟩) dX5_sheet_59
      · refine lv_aload_n X.1 X.2.1 dX5_sheet_40 rfl (lv_at hl 0 rfl) ?_
        refine z_ldc (z := (-1000000007)) X ct_X5_212 (by decide) dX5_sheet_41 ?_
        refine z_ai h (run_V (rest := []) X h (c_X5_finds (k := 6) hF (by decide) (by decide) (by decide)) mi_X5_finds ml_X5_40 ⟨Nat.le_of_ble_eq_true rfl, Nat.le_of_ble_eq_true rfl⟩ ⟨rfl, rfl⟩ (Seg.rfl' _) 4 0 rfl rfl rfl rfl hl.1 rfl (Nat.le_of_ble_eq_true rfl) ⟨Nat.zero_le _, Nat.zero_le _⟩ dX5_sheet_43) (fun _ => rfl) (fun r fd3 H locs hp h => ?_)
        obtain ⟨rfl, hF3⟩ := hp
        have h : St E _ s H locs (wM E a (mm, kp, wa, (iv (ik)), fd3, gf, tp, (iv (tn)), (iv (tk)), (iv (bg)), (iv (pt)), (iv (vl)), (iv (bd)), bt, sz, cl)) := h
        have e9 : q_sheet bq sq cq ph sh b n = ((-1000000007), bq, sq, cq, (bump ph 6)) := by unfold q_sheet; (repeat (first | rw [if_pos (by omega)] | rw [if_neg (by omega)])); try rfl
        exact ret _ _ _ _ _ (mm, kp, wa, (iv (ik)), fd3, gf, tp, (iv (tn)), (iv (tk)), (iv (bg)), (iv (pt)), (iv (vl)), (iv (bd)), bt, sz, cl) h (by rw [e9]; exact ⟨rfl, ⟨hR, hI, hr9⟩, hK, hF3, hT, hB⟩) dX5_sheet_46
    refine lv_iload_n X.1 X.2.1 dX5_sheet_7 rfl (lv_at hl 2 rfl) ?_
    refine z_if_eq (tgt := 36) X r_b dX5_sheet_8 (by decide) (fun c_8 => ?_) (fun c_8 => ?_)
    · exact J36  (by omega) ls (lv_sub hl [0, 1, 2, 3] rfl)
    · refine lv_iload_n X.1 X.2.1 dX5_sheet_11 rfl (lv_at hl 2 rfl) ?_
      refine z_bipush X (by decide) dX5_sheet_12 ?_
      refine z_ic_eq (tgt := 36) X r_b ⟨by decide, by decide⟩ dX5_sheet_14 (by decide) (fun c_14 => ?_) (fun c_14 => ?_)
      · exact J36  (by omega) ls (lv_sub hl [0, 1, 2, 3] rfl)
      · refine lv_iload_n X.1 X.2.1 dX5_sheet_17 rfl (lv_at hl 2 rfl) ?_
        refine z_bipush X (by decide) dX5_sheet_18 ?_
        refine z_ic_eq (tgt := 36) X r_b ⟨by decide, by decide⟩ dX5_sheet_20 (by decide) (fun c_20 => ?_) (fun c_20 => ?_)
        · exact J36  (by omega) ls (lv_sub hl [0, 1, 2, 3] rfl)
        · refine lv_iload_n X.1 X.2.1 dX5_sheet_23 rfl (lv_at hl 2 rfl) ?_
          refine z_bipush X (by decide) dX5_sheet_24 ?_
          refine z_ic_eq (tgt := 36) X r_b ⟨by decide, by decide⟩ dX5_sheet_26 (by decide) (fun c_26 => ?_) (fun c_26 => ?_)
          · exact J36  (by omega) ls (lv_sub hl [0, 1, 2, 3] rfl)
          · refine lv_aload_n X.1 X.2.1 dX5_sheet_29 rfl (lv_at hl 0 rfl) ?_
            refine z_ldc (z := (-1000000001)) X ct_X5_38 (by decide) dX5_sheet_30 ?_
            refine z_ai h (run_V (rest := []) X h (c_X5_finds (k := 0) hF (by decide) (by decide) (by decide)) mi_X5_finds ml_X5_40 ⟨Nat.le_of_ble_eq_true rfl, Nat.le_of_ble_eq_true rfl⟩ ⟨rfl, rfl⟩ (Seg.rfl' _) 4 0 rfl rfl rfl rfl hl.1 rfl (Nat.le_of_ble_eq_true rfl) ⟨Nat.zero_le _, Nat.zero_le _⟩ dX5_sheet_32) (fun _ => rfl) (fun r fd4 H locs hp h => ?_)
            obtain ⟨rfl, hF4⟩ := hp
            have h : St E _ s H locs (wM E a (mm, kp, wa, (iv (ik)), fd4, gf, tp, (iv (tn)), (iv (tk)), (iv (bg)), (iv (pt)), (iv (vl)), (iv (bd)), bt, sz, cl)) := h
            have e9 : q_sheet bq sq cq ph sh b n = ((-1000000001), bq, sq, cq, (bump ph 0)) := by unfold q_sheet; (repeat (first | rw [if_pos (by omega)] | rw [if_neg (by omega)])); try rfl
            exact ret _ _ _ _ _ (mm, kp, wa, (iv (ik)), fd4, gf, tp, (iv (tn)), (iv (tk)), (iv (bg)), (iv (pt)), (iv (vl)), (iv (bd)), bt, sz, cl) h (by rw [e9]; exact ⟨rfl, ⟨hR, hI, hr9⟩, hK, hF4, hT, hB⟩) dX5_sheet_35

set_option maxHeartbeats 4000000 in
theorem c_X5_write (hS : RepM (mm, kp, wa, (iv (ik)), fd, gf, tp, (iv (tn)), (iv (tk)), (iv (bg)), (iv (pt)), (iv (vl)), (iv (bd)), bt, sz, cl) (A, K, ik, ph, tq, tn, bq, sq, cq)) {sh : Int} (r_sh : r32 sh) {i : Int} (r_i : r32 i) {v : Int64} : MIL (S := Mc) E l yX5_write cX5_write 8 (some FieldType.long) (rmk 3 64) (wM E a (mm, kp, wa, (iv (ik)), fd, gf, tp, (iv (tn)), (iv (tk)), (iv (bg)), (iv (pt)), (iv (vl)), (iv (bd)), bt, sz, cl)) [.ref (a 0), .int (iv (sh)), .int (iv (i)), .long (v)] (fun r u => r = (q_write bq sq cq ph sh i v).1 ∧ RepM u (A, K, ik, (q_write bq sq cq ph sh i v).2.2, tq, tn, bq, sq, (q_write bq sq cq ph sh i v).2.1)) (fun u => wM E a u) := by
  refine goIL (S := Mc) (post := fun r u => r = (q_write bq sq cq ph sh i v).1 ∧ RepM u (A, K, ik, (q_write bq sq cq ph sh i v).2.2, tq, tn, bq, sq, (q_write bq sq cq ph sh i v).2.1)) (ws' := fun u => wM E a u) (by decide) (Nat.le_of_ble_eq_true rfl) ?_
  intro pp e s m below meth c ls args Q ret X h hl
  have hl : lv_has ls 8 [(0, .ref (a 0)), (1, .int (iv (sh))), (2, .int (iv (i))), (3, .long (v))] := hl
  have hR : RM mm A := hS.1.1
  have hI : IA A := hS.1.2.1
  have hr9 : hr A ≤ 99999 := hS.1.2.2
  have hF : RF 7 fd ph := hS.2.2.1
  have hK := hS.2.1
  have hT := hS.2.2.2.1
  have hB := hS.2.2.2.2
  have hh : hr A < 1000000 := by omega
  have n8 := hI.n8
  have n0 := hI.n0
  have h0 := hI.h0
  have hB1 : RF 4 bt bq := hS.2.2.2.2.1
  have hB2 : RF 4 sz sq := hS.2.2.2.2.2.1
  have hB3 : okB bq sq := hS.2.2.2.2.2.2.1
  have hB4 : CL cl cq := hS.2.2.2.2.2.2.2
  have ht0 : 0 ≤ tn := hS.2.2.2.1.2.1
  have ht1 : tn ≤ 120 := hS.2.2.2.1.2.2.1
  have hk01 : ik = 0 ∨ ik = 1 := hS.2.1.2.1
  refine lv_aload_n X.1 X.2.1 dX5_write_0 rfl (lv_at hl 0 rfl) ?_
  refine lv_iload_n X.1 X.2.1 dX5_write_1 rfl (lv_at hl 1 rfl) ?_
  refine z_pi (run_V (rest := []) X h (c_X5_notThere (sh := sh) hB1 hB3 r_sh) mi_X5_notThere ml_X5_214 ⟨Nat.le_of_ble_eq_true rfl, Nat.le_of_ble_eq_true rfl⟩ ⟨rfl, rfl⟩ (Seg.rfl' _) 4 0 rfl rfl rfl rfl hl.1 rfl (Nat.le_of_ble_eq_true rfl) ⟨Nat.zero_le _, Nat.zero_le _⟩ dX5_write_2) ?_
  rcases nth_c bq sh with ⟨en, cs⟩ | ⟨en, cs⟩ | ⟨en, cs⟩
  · refine W.eq (g2 := F0 m 5 ls [.int (iv ((-1000000001)))]) (by rw [en]) ?_
    refine lv_istore (lv' := [(5, .int (iv ((-1000000001)))), (0, .ref (a 0)), (1, .int (iv (sh))), (2, .int (iv (i))), (3, .long (v))]) X.1 X.2.1 dX5_write_5 hl (by decide) rfl (fun ls hl => ?_)
    refine lv_iload X.1 X.2.1 dX5_write_7 (lv_at hl 0 rfl) ?_
    refine z_if_ne (tgt := 33) X ⟨by decide, by decide⟩ dX5_write_9 (by decide) (fun c_9 => ?_) (fun c_9 => ?_)
    · refine lv_iload X.1 X.2.1 dX5_write_33 (lv_at hl 0 rfl) ?_
      refine z_if_eq (tgt := 46) X ⟨by decide, by decide⟩ dX5_write_35 (by decide) (fun c_35 => ?_) (fun c_35 => ?_)
      · exact absurd c_35 (by decide)
      · refine lv_aload_n X.1 X.2.1 dX5_write_38 rfl (lv_at hl 1 rfl) ?_
        refine lv_iload X.1 X.2.1 dX5_write_39 (lv_at hl 0 rfl) ?_
        refine z_ai h (run_V (rest := []) X h (c_X5_finds (k := 0) hF (by decide) (by decide) (by decide)) mi_X5_finds ml_X5_40 ⟨Nat.le_of_ble_eq_true rfl, Nat.le_of_ble_eq_true rfl⟩ ⟨rfl, rfl⟩ (Seg.rfl' _) 4 0 rfl rfl rfl rfl hl.1 rfl (Nat.le_of_ble_eq_true rfl) ⟨Nat.zero_le _, Nat.zero_le _⟩ dX5_write_41) (fun _ => rfl) (fun r fd1 H locs hp h => ?_)
        obtain ⟨rfl, hF1⟩ := hp
        have h : St E _ s H locs (wM E a (mm, kp, wa, (iv (ik)), fd1, gf, tp, (iv (tn)), (iv (tk)), (iv (bg)), (iv (pt)), (iv (vl)), (iv (bd)), bt, sz, cl)) := h
        refine lv_i2l (v := (iv ((-1000000001))).toInt64) X.1 X.2.1 dX5_write_44 rfl ?_
        have e9 : q_write bq sq cq ph sh i v = ((iv ((-1000000001))).toInt64, cq, (bump ph 0)) := by unfold q_write; (repeat (first | rw [if_pos (by omega)] | rw [if_neg (by omega)])); try rfl
        exact ret _ _ _ _ _ (mm, kp, wa, (iv (ik)), fd1, gf, tp, (iv (tn)), (iv (tk)), (iv (bg)), (iv (pt)), (iv (vl)), (iv (bd)), bt, sz, cl) h (by rw [e9]; exact ⟨rfl, ⟨hR, hI, hr9⟩, hK, hF1, hT, hB⟩) dX5_write_45
    · exact absurd c_9 (by decide)
  · refine W.eq (g2 := F0 m 5 ls [.int (iv ((-1000000006)))]) (by rw [en]) ?_
    refine lv_istore (lv' := [(5, .int (iv ((-1000000006)))), (0, .ref (a 0)), (1, .int (iv (sh))), (2, .int (iv (i))), (3, .long (v))]) X.1 X.2.1 dX5_write_5 hl (by decide) rfl (fun ls hl => ?_)
    refine lv_iload X.1 X.2.1 dX5_write_7 (lv_at hl 0 rfl) ?_
    refine z_if_ne (tgt := 33) X ⟨by decide, by decide⟩ dX5_write_9 (by decide) (fun c_9 => ?_) (fun c_9 => ?_)
    · refine lv_iload X.1 X.2.1 dX5_write_33 (lv_at hl 0 rfl) ?_
      refine z_if_eq (tgt := 46) X ⟨by decide, by decide⟩ dX5_write_35 (by decide) (fun c_35 => ?_) (fun c_35 => ?_)
      · exact absurd c_35 (by decide)
      · refine lv_aload_n X.1 X.2.1 dX5_write_38 rfl (lv_at hl 1 rfl) ?_
        refine lv_iload X.1 X.2.1 dX5_write_39 (lv_at hl 0 rfl) ?_
        refine z_ai h (run_V (rest := []) X h (c_X5_finds (k := 5) hF (by decide) (by decide) (by decide)) mi_X5_finds ml_X5_40 ⟨Nat.le_of_ble_eq_true rfl, Nat.le_of_ble_eq_true rfl⟩ ⟨rfl, rfl⟩ (Seg.rfl' _) 4 0 rfl rfl rfl rfl hl.1 rfl (Nat.le_of_ble_eq_true rfl) ⟨Nat.zero_le _, Nat.zero_le _⟩ dX5_write_41) (fun _ => rfl) (fun r fd2 H locs hp h => ?_)
        obtain ⟨rfl, hF2⟩ := hp
        have h : St E _ s H locs (wM E a (mm, kp, wa, (iv (ik)), fd2, gf, tp, (iv (tn)), (iv (tk)), (iv (bg)), (iv (pt)), (iv (vl)), (iv (bd)), bt, sz, cl)) := h
        refine lv_i2l (v := (iv ((-1000000006))).toInt64) X.1 X.2.1 dX5_write_44 rfl ?_
        have e9 : q_write bq sq cq ph sh i v = ((iv ((-1000000006))).toInt64, cq, (bump ph 5)) := by unfold q_write; (repeat (first | rw [if_pos (by omega)] | rw [if_neg (by omega)])); try rfl
        exact ret _ _ _ _ _ (mm, kp, wa, (iv (ik)), fd2, gf, tp, (iv (tn)), (iv (tk)), (iv (bg)), (iv (pt)), (iv (vl)), (iv (bd)), bt, sz, cl) h (by rw [e9]; exact ⟨rfl, ⟨hR, hI, hr9⟩, hK, hF2, hT, hB⟩) dX5_write_45
    · exact absurd c_9 (by decide)
  · refine W.eq (g2 := F0 m 5 ls [.int (iv (0))]) (by rw [en]) ?_
    have osh := hB3.1 sh (by omega) (by omega)
    have zsh := hB3.2 sh (by omega) (by omega)
    refine lv_istore (lv' := [(5, .int (iv (0))), (0, .ref (a 0)), (1, .int (iv (sh))), (2, .int (iv (i))), (3, .long (v))]) X.1 X.2.1 dX5_write_5 hl (by decide) rfl (fun ls hl => ?_)
    refine lv_iload X.1 X.2.1 dX5_write_7 (lv_at hl 0 rfl) ?_
    refine z_if_ne (tgt := 33) X ⟨by decide, by decide⟩ dX5_write_9 (by decide) (fun c_9 => ?_) (fun c_9 => ?_)
    · exact absurd c_9 (by decide)
    · refine lv_iload_n X.1 X.2.1 dX5_write_12 rfl (lv_at hl 3 rfl) ?_
      refine lv_i2l (v := (iv (i)).toInt64) X.1 X.2.1 dX5_write_13 rfl ?_
      refine z_iconst X dX5_write_14 ?_
      refine lv_aload_n X.1 X.2.1 dX5_write_15 rfl (lv_at hl 1 rfl) ?_
      refine z_get X h 4 0 14 rfl inX5 rfl (by decide) fl_X5_31 rfl dX5_write_16 ?_
      refine lv_iload_n X.1 X.2.1 dX5_write_19 rfl (lv_at hl 2 rfl) ?_
      refine z_iald (v := sq sh) X h 8 rfl (by omega) (by omega) (by decide) (hB2 sh (by omega) (by omega)) dX5_write_20 ?_
      refine z_iconst X dX5_write_21 ?_
      refine z_isub X dX5_write_22 ?_
      refine z_pi (run_S (rest := []) X h (c_inI r_i ⟨by decide, by decide⟩ ⟨by omega, by omega⟩) mi_X5_in ml_X5_44 ⟨Nat.le_of_ble_eq_true rfl, Nat.le_of_ble_eq_true rfl⟩ ⟨rfl, rfl⟩ (Seg.nil _) rfl hl.1 rfl (Nat.le_of_ble_eq_true rfl) ⟨Nat.zero_le _, Nat.zero_le _⟩ dX5_write_23) ?_
      refine z_ifb_ne (tgt := 33) X dX5_write_26 (by decide) (fun c_26 => ?_) (fun c_26 => ?_)
      · refine lv_iload X.1 X.2.1 dX5_write_33 (lv_at hl 0 rfl) ?_
        refine z_if_eq (tgt := 46) X ⟨by decide, by decide⟩ dX5_write_35 (by decide) (fun c_35 => ?_) (fun c_35 => ?_)
        · refine lv_aload_n X.1 X.2.1 dX5_write_46 rfl (lv_at hl 1 rfl) ?_
          refine z_get X h 4 0 15 rfl inX5 rfl (by decide) fl_X5_34 rfl dX5_write_47 ?_
          refine z_bipush X (by decide) dX5_write_50 ?_
          refine lv_iload_n X.1 X.2.1 dX5_write_52 rfl (lv_at hl 2 rfl) ?_
          refine z_imul X dX5_write_53 ?_
          refine lv_iload_n X.1 X.2.1 dX5_write_54 rfl (lv_at hl 3 rfl) ?_
          refine z_iadd X dX5_write_55 ?_
          refine z_laldv (v := cq sh i) X h 9 rfl (by omega) (by omega) (by decide) (hB4 sh i (by omega) (by omega) (by omega) (by omega)) dX5_write_56 ?_
          refine lv_lstore (lv' := [(6, .long (cq sh i)), (5, .int (iv (0))), (0, .ref (a 0)), (1, .int (iv (sh))), (2, .int (iv (i))), (3, .long (v))]) X.1 X.2.1 dX5_write_57 hl (by decide) rfl (fun ls hl => ?_)
          refine lv_aload_n X.1 X.2.1 dX5_write_59 rfl (lv_at hl 2 rfl) ?_
          refine z_get X h 4 0 15 rfl inX5 rfl (by decide) fl_X5_34 rfl dX5_write_60 ?_
          refine z_bipush X (by decide) dX5_write_63 ?_
          refine lv_iload_n X.1 X.2.1 dX5_write_65 rfl (lv_at hl 3 rfl) ?_
          refine z_imul X dX5_write_66 ?_
          refine lv_iload_n X.1 X.2.1 dX5_write_67 rfl (lv_at hl 4 rfl) ?_
          refine z_iadd X dX5_write_68 ?_
          refine lv_aload_n X.1 X.2.1 dX5_write_69 rfl (lv_at hl 2 rfl) ?_
          refine z_get X h 4 0 13 rfl inX5 rfl (by decide) fl_X5_28 rfl dX5_write_70 ?_
          refine lv_iload_n X.1 X.2.1 dX5_write_73 rfl (lv_at hl 3 rfl) ?_
          refine z_iald (v := bq sh) X h 7 rfl (by omega) (by omega) (by decide) (hB1 sh (by omega) (by omega)) dX5_write_74 ?_
          refine lv_lload_n X.1 X.2.1 dX5_write_75 rfl (lv_at hl 5 rfl) ?_
          refine z_pl (run_S (rest := [.int (iv (40 * sh + i)), .ref (a 9)]) X h (c_X5_cutTo (b := bq sh) (v := v) ⟨by omega, by omega⟩) mi_X5_cutTo ml_X5_217 ⟨Nat.le_of_ble_eq_true rfl, Nat.le_of_ble_eq_true rfl⟩ ⟨rfl, rfl⟩ (Seg.nil _) rfl hl.1 rfl (Nat.le_of_ble_eq_true rfl) ⟨Nat.zero_le _, Nat.zero_le _⟩ dX5_write_76) ?_
          refine z_last X h 9 rfl (by omega) (by omega) (by decide) dX5_write_79 (fun H locs h => ?_)
          have h : St E _ s H locs (wM E a (mm, kp, wa, (iv (ik)), fd, gf, tp, (iv (tn)), (iv (tk)), (iv (bg)), (iv (pt)), (iv (vl)), (iv (bd)), bt, sz, (vp_updL cl (40 * sh + i : Int).toNat (cut (bq sh) (v))))) := h
          have hc2 := CL_upd hB4 (s := sh) (k := i) (v := cut (bq sh) v) (by omega) (by omega) (by omega) (by omega)
          refine lv_lload X.1 X.2.1 dX5_write_80 (lv_at hl 0 rfl) ?_
          have e9 : q_write bq sq cq ph sh i v = (cq sh i, (fu2 cq sh i (cut (bq sh) v)), ph) := by unfold q_write; (repeat (first | rw [if_pos (by omega)] | rw [if_neg (by omega)])); try rfl
          exact ret _ _ _ _ _ (mm, kp, wa, (iv (ik)), fd, gf, tp, (iv (tn)), (iv (tk)), (iv (bg)), (iv (pt)), (iv (vl)), (iv (bd)), bt, sz, (vp_updL cl (40 * sh + i : Int).toNat (cut (bq sh) (v)))) h (by rw [e9]; exact ⟨rfl, ⟨hR, hI, hr9⟩, hK, hF, hT, ⟨hB1, hB2, hB3, hc2⟩⟩) dX5_write_82
        · exact absurd c_35 (by decide)
      · refine z_ldc (z := (-1000000001)) X ct_X5_38 (by decide) dX5_write_29 ?_
        refine lv_istore (lv' := [(5, .int (iv ((-1000000001)))), (0, .ref (a 0)), (1, .int (iv (sh))), (2, .int (iv (i))), (3, .long (v))]) X.1 X.2.1 dX5_write_31 hl (by decide) rfl (fun ls hl => ?_)
        refine lv_iload X.1 X.2.1 dX5_write_33 (lv_at hl 0 rfl) ?_
        refine z_if_eq (tgt := 46) X ⟨by decide, by decide⟩ dX5_write_35 (by decide) (fun c_35 => ?_) (fun c_35 => ?_)
        · exact absurd c_35 (by decide)
        · refine lv_aload_n X.1 X.2.1 dX5_write_38 rfl (lv_at hl 1 rfl) ?_
          refine lv_iload X.1 X.2.1 dX5_write_39 (lv_at hl 0 rfl) ?_
          refine z_ai h (run_V (rest := []) X h (c_X5_finds (k := 0) hF (by decide) (by decide) (by decide)) mi_X5_finds ml_X5_40 ⟨Nat.le_of_ble_eq_true rfl, Nat.le_of_ble_eq_true rfl⟩ ⟨rfl, rfl⟩ (Seg.rfl' _) 4 0 rfl rfl rfl rfl hl.1 rfl (Nat.le_of_ble_eq_true rfl) ⟨Nat.zero_le _, Nat.zero_le _⟩ dX5_write_41) (fun _ => rfl) (fun r fd3 H locs hp h => ?_)
          obtain ⟨rfl, hF3⟩ := hp
          have h : St E _ s H locs (wM E a (mm, kp, wa, (iv (ik)), fd3, gf, tp, (iv (tn)), (iv (tk)), (iv (bg)), (iv (pt)), (iv (vl)), (iv (bd)), bt, sz, cl)) := h
          refine lv_i2l (v := (iv ((-1000000001))).toInt64) X.1 X.2.1 dX5_write_44 rfl ?_
          have e9 : q_write bq sq cq ph sh i v = ((iv ((-1000000001))).toInt64, cq, (bump ph 0)) := by unfold q_write; (repeat (first | rw [if_pos (by omega)] | rw [if_neg (by omega)])); try rfl
          exact ret _ _ _ _ _ (mm, kp, wa, (iv (ik)), fd3, gf, tp, (iv (tn)), (iv (tk)), (iv (bg)), (iv (pt)), (iv (vl)), (iv (bd)), bt, sz, cl) h (by rw [e9]; exact ⟨rfl, ⟨hR, hI, hr9⟩, hK, hF3, hT, hB⟩) dX5_write_45

set_option maxHeartbeats 4000000 in
theorem c_X5_copy (hS : RepM (mm, kp, wa, (iv (ik)), fd, gf, tp, (iv (tn)), (iv (tk)), (iv (bg)), (iv (pt)), (iv (vl)), (iv (bd)), bt, sz, cl) (A, K, ik, ph, tq, tn, bq, sq, cq)) {sh : Int} (r_sh : r32 sh) {fr : Int} (r_fr : r32 fr) {th : Int} (r_th : r32 th) {to : Int} (r_to : r32 to) {n : Int} (r_n : r32 n) : MI (S := Mc) E l yX5_copy cX5_copy 9 (some FieldType.int) (rmk 3 69) (wM E a (mm, kp, wa, (iv (ik)), fd, gf, tp, (iv (tn)), (iv (tk)), (iv (bg)), (iv (pt)), (iv (vl)), (iv (bd)), bt, sz, cl)) [.ref (a 0), .int (iv (sh)), .int (iv (fr)), .int (iv (th)), .int (iv (to)), .int (iv (n))] (fun r u => r = iv ((q_copy bq sq cq ph sh fr th to n).1) ∧ RepM u (A, K, ik, (q_copy bq sq cq ph sh fr th to n).2.2, tq, tn, bq, sq, (q_copy bq sq cq ph sh fr th to n).2.1)) (fun u => wM E a u) := by
  refine goI (S := Mc) (post := fun r u => r = iv ((q_copy bq sq cq ph sh fr th to n).1) ∧ RepM u (A, K, ik, (q_copy bq sq cq ph sh fr th to n).2.2, tq, tn, bq, sq, (q_copy bq sq cq ph sh fr th to n).2.1)) (ws' := fun u => wM E a u) (by decide) (Nat.le_of_ble_eq_true rfl) ?_
  intro pp e s m below meth c ls args Q ret X h hl
  have hl : lv_has ls 9 [(0, .ref (a 0)), (1, .int (iv (sh))), (2, .int (iv (fr))), (3, .int (iv (th))), (4, .int (iv (to))), (5, .int (iv (n)))] := hl
  have hR : RM mm A := hS.1.1
  have hI : IA A := hS.1.2.1
  have hr9 : hr A ≤ 99999 := hS.1.2.2
  have hF : RF 7 fd ph := hS.2.2.1
  have hK := hS.2.1
  have hT := hS.2.2.2.1
  have hB := hS.2.2.2.2
  have hh : hr A < 1000000 := by omega
  have n8 := hI.n8
  have n0 := hI.n0
  have h0 := hI.h0
  have hB1 : RF 4 bt bq := hS.2.2.2.2.1
  have hB2 : RF 4 sz sq := hS.2.2.2.2.2.1
  have hB3 : okB bq sq := hS.2.2.2.2.2.2.1
  have hB4 : CL cl cq := hS.2.2.2.2.2.2.2
  have ht0 : 0 ≤ tn := hS.2.2.2.1.2.1
  have ht1 : tn ≤ 120 := hS.2.2.2.1.2.2.1
  have hk01 : ik = 0 ∨ ik = 1 := hS.2.1.2.1
  have q2 := r_fr.1
  have q22 := r_fr.2
  have q4 := r_to.1
  have q42 := r_to.2
  have q5 := r_n.1
  have q52 := r_n.2
  refine lv_aload_n X.1 X.2.1 dX5_copy_0 rfl (lv_at hl 0 rfl) ?_
  refine lv_iload_n X.1 X.2.1 dX5_copy_1 rfl (lv_at hl 1 rfl) ?_
  refine lv_iload_n X.1 X.2.1 dX5_copy_2 rfl (lv_at hl 2 rfl) ?_
  refine lv_iload_n X.1 X.2.1 dX5_copy_3 rfl (lv_at hl 3 rfl) ?_
  refine lv_iload X.1 X.2.1 dX5_copy_4 (lv_at hl 4 rfl) ?_
  refine lv_iload X.1 X.2.1 dX5_copy_6 (lv_at hl 5 rfl) ?_
  refine z_pi (run_V (rest := []) X h (c_X5_notCopied hB1 hB2 hB3 r_sh r_fr r_th r_to r_n) mi_X5_notCopied ml_X5_221 ⟨Nat.le_of_ble_eq_true rfl, Nat.le_of_ble_eq_true rfl⟩ ⟨rfl, rfl⟩ (Seg.rfl' _) 4 0 rfl rfl rfl rfl hl.1 rfl (Nat.le_of_ble_eq_true rfl) ⟨Nat.zero_le _, Nat.zero_le _⟩ dX5_copy_8) ?_
  by_cases cc1 : (0 ≤ sh ∧ sh ≤ 3) ∧ (0 ≤ th ∧ th ≤ 3)
  · have osh := hB3.1 sh (by omega) (by omega)
    have zsh := hB3.2 sh (by omega) (by omega)
    have oth := hB3.1 th (by omega) (by omega)
    have zth := hB3.2 th (by omega) (by omega)
    by_cases cc2 : bq sh = 0 ∨ bq th = 0
    · have en : ncp bq sq sh fr th to n = (-1000000006) := by unfold ncp; (repeat (first | rw [if_pos (by omega)] | rw [if_neg (by omega)])); try rfl
      refine W.eq (g2 := F0 m 11 ls [.int (iv ((-1000000006)))]) (by rw [en]) ?_
      refine lv_istore (lv' := [(6, .int (iv ((-1000000006)))), (0, .ref (a 0)), (1, .int (iv (sh))), (2, .int (iv (fr))), (3, .int (iv (th))), (4, .int (iv (to))), (5, .int (iv (n)))]) X.1 X.2.1 dX5_copy_11 hl (by decide) rfl (fun ls hl => ?_)
      refine lv_iload X.1 X.2.1 dX5_copy_13 (lv_at hl 0 rfl) ?_
      refine z_if_eq (tgt := 25) X ⟨by decide, by decide⟩ dX5_copy_15 (by decide) (fun c_15 => ?_) (fun c_15 => ?_)
      · exact absurd c_15 (by decide)
      · refine lv_aload_n X.1 X.2.1 dX5_copy_18 rfl (lv_at hl 1 rfl) ?_
        refine lv_iload X.1 X.2.1 dX5_copy_19 (lv_at hl 0 rfl) ?_
        refine z_ai h (run_V (rest := []) X h (c_X5_finds (k := 5) hF (by decide) (by decide) (by decide)) mi_X5_finds ml_X5_40 ⟨Nat.le_of_ble_eq_true rfl, Nat.le_of_ble_eq_true rfl⟩ ⟨rfl, rfl⟩ (Seg.rfl' _) 4 0 rfl rfl rfl rfl hl.1 rfl (Nat.le_of_ble_eq_true rfl) ⟨Nat.zero_le _, Nat.zero_le _⟩ dX5_copy_21) (fun _ => rfl) (fun r fd1 H locs hp h => ?_)
        obtain ⟨rfl, hF1⟩ := hp
        have h : St E _ s H locs (wM E a (mm, kp, wa, (iv (ik)), fd1, gf, tp, (iv (tn)), (iv (tk)), (iv (bg)), (iv (pt)), (iv (vl)), (iv (bd)), bt, sz, cl)) := h
        have e9 : q_copy bq sq cq ph sh fr th to n = ((-1000000006), cq, (bump ph 5)) := by unfold q_copy; (repeat (first | rw [if_pos (by omega)] | rw [if_neg (by omega)])); try rfl
        exact ret _ _ _ _ _ (mm, kp, wa, (iv (ik)), fd1, gf, tp, (iv (tn)), (iv (tk)), (iv (bg)), (iv (pt)), (iv (vl)), (iv (bd)), bt, sz, cl) h (by rw [e9]; exact ⟨rfl, ⟨hR, hI, hr9⟩, hK, hF1, hT, hB⟩) dX5_copy_24
    · by_cases cc3 : bq sh ≠ bq th
      · have en : ncp bq sq sh fr th to n = (-1000000003) := by unfold ncp; (repeat (first | rw [if_pos (by omega)] | rw [if_neg (by omega)])); try rfl
        refine W.eq (g2 := F0 m 11 ls [.int (iv ((-1000000003)))]) (by rw [en]) ?_
        refine lv_istore (lv' := [(6, .int (iv ((-1000000003)))), (0, .ref (a 0)), (1, .int (iv (sh))), (2, .int (iv (fr))), (3, .int (iv (th))), (4, .int (iv (to))), (5, .int (iv (n)))]) X.1 X.2.1 dX5_copy_11 hl (by decide) rfl (fun ls hl => ?_)
        refine lv_iload X.1 X.2.1 dX5_copy_13 (lv_at hl 0 rfl) ?_
        refine z_if_eq (tgt := 25) X ⟨by decide, by decide⟩ dX5_copy_15 (by decide) (fun c_15 => ?_) (fun c_15 => ?_)
        · exact absurd c_15 (by decide)
        · refine lv_aload_n X.1 X.2.1 dX5_copy_18 rfl (lv_at hl 1 rfl) ?_
          refine lv_iload X.1 X.2.1 dX5_copy_19 (lv_at hl 0 rfl) ?_
          refine z_ai h (run_V (rest := []) X h (c_X5_finds (k := 2) hF (by decide) (by decide) (by decide)) mi_X5_finds ml_X5_40 ⟨Nat.le_of_ble_eq_true rfl, Nat.le_of_ble_eq_true rfl⟩ ⟨rfl, rfl⟩ (Seg.rfl' _) 4 0 rfl rfl rfl rfl hl.1 rfl (Nat.le_of_ble_eq_true rfl) ⟨Nat.zero_le _, Nat.zero_le _⟩ dX5_copy_21) (fun _ => rfl) (fun r fd2 H locs hp h => ?_)
          obtain ⟨rfl, hF2⟩ := hp
          have h : St E _ s H locs (wM E a (mm, kp, wa, (iv (ik)), fd2, gf, tp, (iv (tn)), (iv (tk)), (iv (bg)), (iv (pt)), (iv (vl)), (iv (bd)), bt, sz, cl)) := h
          have e9 : q_copy bq sq cq ph sh fr th to n = ((-1000000003), cq, (bump ph 2)) := by unfold q_copy; (repeat (first | rw [if_pos (by omega)] | rw [if_neg (by omega)])); try rfl
          exact ret _ _ _ _ _ (mm, kp, wa, (iv (ik)), fd2, gf, tp, (iv (tn)), (iv (tk)), (iv (bg)), (iv (pt)), (iv (vl)), (iv (bd)), bt, sz, cl) h (by rw [e9]; exact ⟨rfl, ⟨hR, hI, hr9⟩, hK, hF2, hT, hB⟩) dX5_copy_24
      · by_cases cc4 : 0 ≤ n ∧ 0 ≤ fr ∧ 0 ≤ to ∧ n ≤ sq sh - fr ∧ n ≤ sq th - to
        · have en : ncp bq sq sh fr th to n = 0 := by unfold ncp; (repeat (first | rw [if_pos (by omega)] | rw [if_neg (by omega)])); try rfl
          refine W.eq (g2 := F0 m 11 ls [.int (iv (0))]) (by rw [en]) ?_
          refine lv_istore (lv' := [(6, .int (iv (0))), (0, .ref (a 0)), (1, .int (iv (sh))), (2, .int (iv (fr))), (3, .int (iv (th))), (4, .int (iv (to))), (5, .int (iv (n)))]) X.1 X.2.1 dX5_copy_11 hl (by decide) rfl (fun ls hl => ?_)
          refine lv_iload X.1 X.2.1 dX5_copy_13 (lv_at hl 0 rfl) ?_
          refine z_if_eq (tgt := 25) X ⟨by decide, by decide⟩ dX5_copy_15 (by decide) (fun c_15 => ?_) (fun c_15 => ?_)
          · refine z_iconst X dX5_copy_25 ?_
            refine lv_istore (lv' := [(7, .int (iv (0))), (6, .int (iv (0))), (0, .ref (a 0)), (1, .int (iv (sh))), (2, .int (iv (fr))), (3, .int (iv (th))), (4, .int (iv (to))), (5, .int (iv (n)))]) X.1 X.2.1 dX5_copy_26 hl (by decide) rfl (fun ls hl => ?_)
            have L28 : ∀ (fuel_ : Nat) (i : Int) (cv : Nat → Int64), (0 ≤ i) → (i ≤ n) → (CL cv (cpy cq sh fr th to (if fr < to then n - i else 0) (if fr < to then n else i))) → n - i < (fuel_ : Int) → ∀ (H : Heap) (locs : List Loc), St E (wM E a (mm, kp, wa, (iv (ik)), fd, gf, tp, (iv (tn)), (iv (tk)), (iv (bg)), (iv (pt)), (iv (vl)), (iv (bd)), bt, sz, cl)) s H locs (wM E a (mm, kp, wa, (iv (ik)), fd, gf, tp, (iv (tn)), (iv (tk)), (iv (bg)), (iv (pt)), (iv (vl)), (iv (bd)), bt, sz, cv)) → ∀ ls : Array Slot, lv_has ls 9 [(6, .int (iv (0))), (0, .ref (a 0)), (1, .int (iv (sh))), (2, .int (iv (fr))), (3, .int (iv (th))), (4, .int (iv (to))), (5, .int (iv (n))), (7, .int (iv (i)))] → W pp l e (rmk 3 69) s m args below meth c H locs 0 0 Q (F0 m 28 ls []) := by
              intro fuel_
              induction fuel_ with
              | zero =>
                intro i cv i0 i1 hc hn
                exfalso; omega
              | succ fuel_ ih =>
                intro i cv i0 i1 hc hn H locs h ls hl
                refine lv_iload X.1 X.2.1 dX5_copy_28 (lv_at hl 7 rfl) ?_
                refine lv_iload X.1 X.2.1 dX5_copy_30 (lv_at hl 6 rfl) ?_
                refine z_ic_ge (tgt := 90) X ⟨by omega, by omega⟩ r_n dX5_copy_32 (by decide) (fun c_32 => ?_) (fun c_32 => ?_)
                · have hce : CL cv (cpy cq sh fr th to 0 n) := CL_congr hc (fun t q t0 t1 q0 q1 => by congr 1 <;> (split <;> omega))
                  refine lv_iload X.1 X.2.1 dX5_copy_90 (lv_at hl 6 rfl) ?_
                  have e9 : q_copy bq sq cq ph sh fr th to n = (n, (cpy cq sh fr th to 0 n), ph) := by unfold q_copy; (repeat (first | rw [if_pos (by omega)] | rw [if_neg (by omega)])); try rfl
                  exact ret _ _ _ _ _ (mm, kp, wa, (iv (ik)), fd, gf, tp, (iv (tn)), (iv (tk)), (iv (bg)), (iv (pt)), (iv (vl)), (iv (bd)), bt, sz, cv) h (by rw [e9]; exact ⟨rfl, ⟨hR, hI, hr9⟩, hK, hF, hT, ⟨hB1, hB2, hB3, hce⟩⟩) dX5_copy_92
                · refine lv_iload_n X.1 X.2.1 dX5_copy_35 rfl (lv_at hl 3 rfl) ?_
                  refine lv_iload X.1 X.2.1 dX5_copy_36 (lv_at hl 5 rfl) ?_
                  refine z_ic_ge (tgt := 51) X r_fr r_to dX5_copy_38 (by decide) (fun c_38 => ?_) (fun c_38 => ?_)
                  · refine lv_iload X.1 X.2.1 dX5_copy_51 (lv_at hl 7 rfl) ?_
                    refine lv_istore (lv' := [(8, .int (iv (i))), (6, .int (iv (0))), (0, .ref (a 0)), (1, .int (iv (sh))), (2, .int (iv (fr))), (3, .int (iv (th))), (4, .int (iv (to))), (5, .int (iv (n))), (7, .int (iv (i)))]) X.1 X.2.1 dX5_copy_53 hl (by decide) rfl (fun ls hl => ?_)
                    refine lv_aload_n X.1 X.2.1 dX5_copy_55 rfl (lv_at hl 2 rfl) ?_
                    refine z_get X h 4 0 15 rfl inX5 rfl (by decide) fl_X5_34 rfl dX5_copy_56 ?_
                    refine z_bipush X (by decide) dX5_copy_59 ?_
                    refine lv_iload_n X.1 X.2.1 dX5_copy_61 rfl (lv_at hl 5 rfl) ?_
                    refine z_imul X dX5_copy_62 ?_
                    refine lv_iload X.1 X.2.1 dX5_copy_63 (lv_at hl 6 rfl) ?_
                    refine z_iadd X dX5_copy_65 ?_
                    refine lv_iload X.1 X.2.1 dX5_copy_66 (lv_at hl 0 rfl) ?_
                    refine z_iadd X dX5_copy_68 ?_
                    refine lv_aload_n X.1 X.2.1 dX5_copy_69 rfl (lv_at hl 2 rfl) ?_
                    refine z_get X h 4 0 15 rfl inX5 rfl (by decide) fl_X5_34 rfl dX5_copy_70 ?_
                    refine z_bipush X (by decide) dX5_copy_73 ?_
                    refine lv_iload_n X.1 X.2.1 dX5_copy_75 rfl (lv_at hl 3 rfl) ?_
                    refine z_imul X dX5_copy_76 ?_
                    refine lv_iload_n X.1 X.2.1 dX5_copy_77 rfl (lv_at hl 4 rfl) ?_
                    refine z_iadd X dX5_copy_78 ?_
                    refine lv_iload X.1 X.2.1 dX5_copy_79 (lv_at hl 0 rfl) ?_
                    refine z_iadd X dX5_copy_81 ?_
                    refine z_laldv (v := cq sh (fr + i)) X h 9 rfl (by omega) (by omega) (by decide) (by rw [show 40 * sh + fr + i = 40 * sh + (fr + i) by omega]; exact (hc sh (fr + i) (by omega) (by omega) (by omega) (by omega)).trans (cpy_src (by omega) (by omega) (by split <;> omega))) dX5_copy_82 ?_
                    refine z_last X h 9 rfl (by omega) (by omega) (by decide) dX5_copy_83 (fun H locs h => ?_)
                    have h : St E _ s H locs (wM E a (mm, kp, wa, (iv (ik)), fd, gf, tp, (iv (tn)), (iv (tk)), (iv (bg)), (iv (pt)), (iv (vl)), (iv (bd)), bt, sz, (vp_updL cv (40 * th + to + i : Int).toNat (cq sh (fr + i))))) := h
                    have hcu := CL_upd hc (s := th) (k := to + i) (v := cq sh (fr + i)) (by omega) (by omega) (by omega) (by omega)
                    rw [show 40 * th + (to + i) = 40 * th + to + i by omega] at hcu
                    have hcn := CL_congr hcu (q := cpy cq sh fr th to (if fr < to then n - (i + 1) else 0) (if fr < to then n else i + 1)) (fun t q t0 t1 q0 q1 => by rw [if_neg (by omega), if_neg (by omega), if_neg (by omega), if_neg (by omega)]; exact cpy_up i0)
                    refine z_iinc (k := 8) (lv' := [(7, .int (iv (i + 1))), (8, .int (iv (i))), (6, .int (iv (0))), (0, .ref (a 0)), (1, .int (iv (sh))), (2, .int (iv (fr))), (3, .int (iv (th))), (4, .int (iv (to))), (5, .int (iv (n)))]) X dX5_copy_84 hl rfl (by decide) rfl (fun ls hl => ?_)
                    refine lv_goto (tgt := 28) X.1 X.2.1 dX5_copy_87 (by decide) ?_
                    exact ih (i + 1) ((vp_updL cv (40 * th + to + i : Int).toNat (cq sh (fr + i)))) (by omega) (by omega) (hcn) (by omega) _ _ h ls (lv_sub hl [2, 3, 4, 5, 6, 7, 8, 0] rfl)
                  · refine lv_iload X.1 X.2.1 dX5_copy_41 (lv_at hl 6 rfl) ?_
                    refine z_iconst X dX5_copy_43 ?_
                    refine z_isub X dX5_copy_44 ?_
                    refine lv_iload X.1 X.2.1 dX5_copy_45 (lv_at hl 7 rfl) ?_
                    refine z_isub X dX5_copy_47 ?_
                    refine lv_goto (tgt := 53) X.1 X.2.1 dX5_copy_48 (by decide) ?_
                    refine lv_istore (lv' := [(8, .int (iv (n - 1 - i))), (6, .int (iv (0))), (0, .ref (a 0)), (1, .int (iv (sh))), (2, .int (iv (fr))), (3, .int (iv (th))), (4, .int (iv (to))), (5, .int (iv (n))), (7, .int (iv (i)))]) X.1 X.2.1 dX5_copy_53 hl (by decide) rfl (fun ls hl => ?_)
                    refine lv_aload_n X.1 X.2.1 dX5_copy_55 rfl (lv_at hl 2 rfl) ?_
                    refine z_get X h 4 0 15 rfl inX5 rfl (by decide) fl_X5_34 rfl dX5_copy_56 ?_
                    refine z_bipush X (by decide) dX5_copy_59 ?_
                    refine lv_iload_n X.1 X.2.1 dX5_copy_61 rfl (lv_at hl 5 rfl) ?_
                    refine z_imul X dX5_copy_62 ?_
                    refine lv_iload X.1 X.2.1 dX5_copy_63 (lv_at hl 6 rfl) ?_
                    refine z_iadd X dX5_copy_65 ?_
                    refine lv_iload X.1 X.2.1 dX5_copy_66 (lv_at hl 0 rfl) ?_
                    refine z_iadd X dX5_copy_68 ?_
                    refine lv_aload_n X.1 X.2.1 dX5_copy_69 rfl (lv_at hl 2 rfl) ?_
                    refine z_get X h 4 0 15 rfl inX5 rfl (by decide) fl_X5_34 rfl dX5_copy_70 ?_
                    refine z_bipush X (by decide) dX5_copy_73 ?_
                    refine lv_iload_n X.1 X.2.1 dX5_copy_75 rfl (lv_at hl 3 rfl) ?_
                    refine z_imul X dX5_copy_76 ?_
                    refine lv_iload_n X.1 X.2.1 dX5_copy_77 rfl (lv_at hl 4 rfl) ?_
                    refine z_iadd X dX5_copy_78 ?_
                    refine lv_iload X.1 X.2.1 dX5_copy_79 (lv_at hl 0 rfl) ?_
                    refine z_iadd X dX5_copy_81 ?_
                    refine z_laldv (v := cq sh (fr + ((n - 1 - i)))) X h 9 rfl (by omega) (by omega) (by decide) (by rw [show 40 * sh + fr + ((n - 1 - i)) = 40 * sh + (fr + ((n - 1 - i))) by omega]; exact (hc sh (fr + ((n - 1 - i))) (by omega) (by omega) (by omega) (by omega)).trans (cpy_src (by omega) (by omega) (by split <;> omega))) dX5_copy_82 ?_
                    refine z_last X h 9 rfl (by omega) (by omega) (by decide) dX5_copy_83 (fun H locs h => ?_)
                    have h : St E _ s H locs (wM E a (mm, kp, wa, (iv (ik)), fd, gf, tp, (iv (tn)), (iv (tk)), (iv (bg)), (iv (pt)), (iv (vl)), (iv (bd)), bt, sz, (vp_updL cv (40 * th + to + (n - 1 - i) : Int).toNat (cq sh (fr + ((n - 1 - i))))))) := h
                    have hcu := CL_upd hc (s := th) (k := to + (n - 1 - i)) (v := cq sh (fr + (n - 1 - i))) (by omega) (by omega) (by omega) (by omega)
                    rw [show 40 * th + (to + (n - 1 - i)) = 40 * th + to + (n - 1 - i) by omega] at hcu
                    have hcn := CL_congr hcu (q := cpy cq sh fr th to (if fr < to then n - (i + 1) else 0) (if fr < to then n else i + 1)) (fun t q t0 t1 q0 q1 => by rw [if_pos (by omega), if_pos (by omega), if_pos (by omega), if_pos (by omega), show n - (i + 1) = n - 1 - i by omega, show n - i = n - 1 - i + 1 by omega]; exact cpy_down (by omega))
                    refine z_iinc (k := 8) (lv' := [(7, .int (iv (i + 1))), (8, .int (iv (n - 1 - i))), (6, .int (iv (0))), (0, .ref (a 0)), (1, .int (iv (sh))), (2, .int (iv (fr))), (3, .int (iv (th))), (4, .int (iv (to))), (5, .int (iv (n)))]) X dX5_copy_84 hl rfl (by decide) rfl (fun ls hl => ?_)
                    refine lv_goto (tgt := 28) X.1 X.2.1 dX5_copy_87 (by decide) ?_
                    exact ih (i + 1) ((vp_updL cv (40 * th + to + (n - 1 - i) : Int).toNat (cq sh (fr + ((n - 1 - i)))))) (by omega) (by omega) (hcn) (by omega) _ _ h ls (lv_sub hl [2, 3, 4, 5, 6, 7, 8, 0] rfl)
            exact L28 ((n - (0) : Int).toNat + 1) (0) (cl) (by omega) (by omega) (CL_congr hB4 (fun t j t0 t1 j0 j1 => by unfold cpy; rw [if_neg (by split <;> omega)])) (by omega) _ _ h ls (lv_sub hl [1, 2, 3, 4, 5, 6, 7, 0] rfl)
          · exact absurd c_15 (by decide)
        · have en : ncp bq sq sh fr th to n = (-1000000001) := by unfold ncp; (repeat (first | rw [if_pos (by omega)] | rw [if_neg (by omega)])); try rfl
          refine W.eq (g2 := F0 m 11 ls [.int (iv ((-1000000001)))]) (by rw [en]) ?_
          refine lv_istore (lv' := [(6, .int (iv ((-1000000001)))), (0, .ref (a 0)), (1, .int (iv (sh))), (2, .int (iv (fr))), (3, .int (iv (th))), (4, .int (iv (to))), (5, .int (iv (n)))]) X.1 X.2.1 dX5_copy_11 hl (by decide) rfl (fun ls hl => ?_)
          refine lv_iload X.1 X.2.1 dX5_copy_13 (lv_at hl 0 rfl) ?_
          refine z_if_eq (tgt := 25) X ⟨by decide, by decide⟩ dX5_copy_15 (by decide) (fun c_15 => ?_) (fun c_15 => ?_)
          · exact absurd c_15 (by decide)
          · refine lv_aload_n X.1 X.2.1 dX5_copy_18 rfl (lv_at hl 1 rfl) ?_
            refine lv_iload X.1 X.2.1 dX5_copy_19 (lv_at hl 0 rfl) ?_
            refine z_ai h (run_V (rest := []) X h (c_X5_finds (k := 0) hF (by decide) (by decide) (by decide)) mi_X5_finds ml_X5_40 ⟨Nat.le_of_ble_eq_true rfl, Nat.le_of_ble_eq_true rfl⟩ ⟨rfl, rfl⟩ (Seg.rfl' _) 4 0 rfl rfl rfl rfl hl.1 rfl (Nat.le_of_ble_eq_true rfl) ⟨Nat.zero_le _, Nat.zero_le _⟩ dX5_copy_21) (fun _ => rfl) (fun r fd3 H locs hp h => ?_)
            obtain ⟨rfl, hF3⟩ := hp
            have h : St E _ s H locs (wM E a (mm, kp, wa, (iv (ik)), fd3, gf, tp, (iv (tn)), (iv (tk)), (iv (bg)), (iv (pt)), (iv (vl)), (iv (bd)), bt, sz, cl)) := h
            have e9 : q_copy bq sq cq ph sh fr th to n = ((-1000000001), cq, (bump ph 0)) := by unfold q_copy; (repeat (first | rw [if_pos (by omega)] | rw [if_neg (by omega)])); try rfl
            exact ret _ _ _ _ _ (mm, kp, wa, (iv (ik)), fd3, gf, tp, (iv (tn)), (iv (tk)), (iv (bg)), (iv (pt)), (iv (vl)), (iv (bd)), bt, sz, cl) h (by rw [e9]; exact ⟨rfl, ⟨hR, hI, hr9⟩, hK, hF3, hT, hB⟩) dX5_copy_24
  · have en : ncp bq sq sh fr th to n = (-1000000001) := by unfold ncp; (repeat (first | rw [if_pos (by omega)] | rw [if_neg (by omega)])); try rfl
    refine W.eq (g2 := F0 m 11 ls [.int (iv ((-1000000001)))]) (by rw [en]) ?_
    refine lv_istore (lv' := [(6, .int (iv ((-1000000001)))), (0, .ref (a 0)), (1, .int (iv (sh))), (2, .int (iv (fr))), (3, .int (iv (th))), (4, .int (iv (to))), (5, .int (iv (n)))]) X.1 X.2.1 dX5_copy_11 hl (by decide) rfl (fun ls hl => ?_)
    refine lv_iload X.1 X.2.1 dX5_copy_13 (lv_at hl 0 rfl) ?_
    refine z_if_eq (tgt := 25) X ⟨by decide, by decide⟩ dX5_copy_15 (by decide) (fun c_15 => ?_) (fun c_15 => ?_)
    · exact absurd c_15 (by decide)
    · refine lv_aload_n X.1 X.2.1 dX5_copy_18 rfl (lv_at hl 1 rfl) ?_
      refine lv_iload X.1 X.2.1 dX5_copy_19 (lv_at hl 0 rfl) ?_
      refine z_ai h (run_V (rest := []) X h (c_X5_finds (k := 0) hF (by decide) (by decide) (by decide)) mi_X5_finds ml_X5_40 ⟨Nat.le_of_ble_eq_true rfl, Nat.le_of_ble_eq_true rfl⟩ ⟨rfl, rfl⟩ (Seg.rfl' _) 4 0 rfl rfl rfl rfl hl.1 rfl (Nat.le_of_ble_eq_true rfl) ⟨Nat.zero_le _, Nat.zero_le _⟩ dX5_copy_21) (fun _ => rfl) (fun r fd4 H locs hp h => ?_)
      obtain ⟨rfl, hF4⟩ := hp
      have h : St E _ s H locs (wM E a (mm, kp, wa, (iv (ik)), fd4, gf, tp, (iv (tn)), (iv (tk)), (iv (bg)), (iv (pt)), (iv (vl)), (iv (bd)), bt, sz, cl)) := h
      have e9 : q_copy bq sq cq ph sh fr th to n = ((-1000000001), cq, (bump ph 0)) := by unfold q_copy; (repeat (first | rw [if_pos (by omega)] | rw [if_neg (by omega)])); try rfl
      exact ret _ _ _ _ _ (mm, kp, wa, (iv (ik)), fd4, gf, tp, (iv (tn)), (iv (tk)), (iv (bg)), (iv (pt)), (iv (vl)), (iv (bd)), bt, sz, cl) h (by rw [e9]; exact ⟨rfl, ⟨hR, hI, hr9⟩, hK, hF4, hT, hB⟩) dX5_copy_24

set_option maxHeartbeats 4000000 in
theorem c_X5_lays (hS : RepM (mm, kp, wa, (iv (ik)), fd, gf, tp, (iv (tn)), (iv (tk)), (iv (bg)), (iv (pt)), (iv (vl)), (iv (bd)), bt, sz, cl) (A, K, ik, ph, tq, tn, bq, sq, cq)) {sh : Int} (r_sh : r32 sh) : MI (S := Mc) E l yX5_lays cX5_lays 5 (some FieldType.int) (rmk 3 64) (wM E a (mm, kp, wa, (iv (ik)), fd, gf, tp, (iv (tn)), (iv (tk)), (iv (bg)), (iv (pt)), (iv (vl)), (iv (bd)), bt, sz, cl)) [.ref (a 0), .int (iv (sh))] (fun r u => r = iv ((q_lays A bq sq cq ph sh).1) ∧ RepM u ((q_lays A bq sq cq ph sh).2.1, K, ik, (q_lays A bq sq cq ph sh).2.2, tq, tn, bq, sq, cq)) (fun u => wM E a u) := by
  refine goI (S := Mc) (post := fun r u => r = iv ((q_lays A bq sq cq ph sh).1) ∧ RepM u ((q_lays A bq sq cq ph sh).2.1, K, ik, (q_lays A bq sq cq ph sh).2.2, tq, tn, bq, sq, cq)) (ws' := fun u => wM E a u) (by decide) (Nat.le_of_ble_eq_true rfl) ?_
  intro pp e s m below meth c ls args Q ret X h hl
  have hl : lv_has ls 5 [(0, .ref (a 0)), (1, .int (iv (sh)))] := hl
  have hR : RM mm A := hS.1.1
  have hI : IA A := hS.1.2.1
  have hr9 : hr A ≤ 99999 := hS.1.2.2
  have hF : RF 7 fd ph := hS.2.2.1
  have hK := hS.2.1
  have hT := hS.2.2.2.1
  have hB := hS.2.2.2.2
  have hh : hr A < 1000000 := by omega
  have n8 := hI.n8
  have n0 := hI.n0
  have h0 := hI.h0
  have hB1 : RF 4 bt bq := hS.2.2.2.2.1
  have hB2 : RF 4 sz sq := hS.2.2.2.2.2.1
  have hB3 : okB bq sq := hS.2.2.2.2.2.2.1
  have hB4 : CL cl cq := hS.2.2.2.2.2.2.2
  have ht0 : 0 ≤ tn := hS.2.2.2.1.2.1
  have ht1 : tn ≤ 120 := hS.2.2.2.1.2.2.1
  have hk01 : ik = 0 ∨ ik = 1 := hS.2.1.2.1
  refine lv_aload_n X.1 X.2.1 dX5_lays_0 rfl (lv_at hl 0 rfl) ?_
  refine lv_iload_n X.1 X.2.1 dX5_lays_1 rfl (lv_at hl 1 rfl) ?_
  refine z_pi (run_V (rest := []) X h (c_X5_notThere (sh := sh) hB1 hB3 r_sh) mi_X5_notThere ml_X5_214 ⟨Nat.le_of_ble_eq_true rfl, Nat.le_of_ble_eq_true rfl⟩ ⟨rfl, rfl⟩ (Seg.rfl' _) 4 0 rfl rfl rfl rfl hl.1 rfl (Nat.le_of_ble_eq_true rfl) ⟨Nat.zero_le _, Nat.zero_le _⟩ dX5_lays_2) ?_
  rcases nth_c bq sh with ⟨en, cs⟩ | ⟨en, cs⟩ | ⟨en, cs⟩
  · refine W.eq (g2 := F0 m 5 ls [.int (iv ((-1000000001)))]) (by rw [en]) ?_
    refine lv_istore_n (lv' := [(2, .int (iv ((-1000000001)))), (0, .ref (a 0)), (1, .int (iv (sh)))]) X.1 X.2.1 dX5_lays_5 rfl hl (by decide) rfl (fun ls hl => ?_)
    refine lv_iload_n X.1 X.2.1 dX5_lays_6 rfl (lv_at hl 0 rfl) ?_
    refine z_if_eq (tgt := 16) X ⟨by decide, by decide⟩ dX5_lays_7 (by decide) (fun c_7 => ?_) (fun c_7 => ?_)
    · exact absurd c_7 (by decide)
    · refine lv_aload_n X.1 X.2.1 dX5_lays_10 rfl (lv_at hl 1 rfl) ?_
      refine lv_iload_n X.1 X.2.1 dX5_lays_11 rfl (lv_at hl 0 rfl) ?_
      refine z_ai h (run_V (rest := []) X h (c_X5_finds (k := 0) hF (by decide) (by decide) (by decide)) mi_X5_finds ml_X5_40 ⟨Nat.le_of_ble_eq_true rfl, Nat.le_of_ble_eq_true rfl⟩ ⟨rfl, rfl⟩ (Seg.rfl' _) 4 0 rfl rfl rfl rfl hl.1 rfl (Nat.le_of_ble_eq_true rfl) ⟨Nat.zero_le _, Nat.zero_le _⟩ dX5_lays_12) (fun _ => rfl) (fun r fd1 H locs hp h => ?_)
      obtain ⟨rfl, hF1⟩ := hp
      have h : St E _ s H locs (wM E a (mm, kp, wa, (iv (ik)), fd1, gf, tp, (iv (tn)), (iv (tk)), (iv (bg)), (iv (pt)), (iv (vl)), (iv (bd)), bt, sz, cl)) := h
      have e9 : q_lays A bq sq cq ph sh = ((-1000000001), A, (bump ph 0)) := by unfold q_lays; (repeat (first | rw [if_pos (by omega)] | rw [if_neg (by omega)])); try rfl
      exact ret _ _ _ _ _ (mm, kp, wa, (iv (ik)), fd1, gf, tp, (iv (tn)), (iv (tk)), (iv (bg)), (iv (pt)), (iv (vl)), (iv (bd)), bt, sz, cl) h (by rw [e9]; exact ⟨rfl, ⟨hR, hI, hr9⟩, hK, hF1, hT, hB⟩) dX5_lays_15
  · refine W.eq (g2 := F0 m 5 ls [.int (iv ((-1000000006)))]) (by rw [en]) ?_
    refine lv_istore_n (lv' := [(2, .int (iv ((-1000000006)))), (0, .ref (a 0)), (1, .int (iv (sh)))]) X.1 X.2.1 dX5_lays_5 rfl hl (by decide) rfl (fun ls hl => ?_)
    refine lv_iload_n X.1 X.2.1 dX5_lays_6 rfl (lv_at hl 0 rfl) ?_
    refine z_if_eq (tgt := 16) X ⟨by decide, by decide⟩ dX5_lays_7 (by decide) (fun c_7 => ?_) (fun c_7 => ?_)
    · exact absurd c_7 (by decide)
    · refine lv_aload_n X.1 X.2.1 dX5_lays_10 rfl (lv_at hl 1 rfl) ?_
      refine lv_iload_n X.1 X.2.1 dX5_lays_11 rfl (lv_at hl 0 rfl) ?_
      refine z_ai h (run_V (rest := []) X h (c_X5_finds (k := 5) hF (by decide) (by decide) (by decide)) mi_X5_finds ml_X5_40 ⟨Nat.le_of_ble_eq_true rfl, Nat.le_of_ble_eq_true rfl⟩ ⟨rfl, rfl⟩ (Seg.rfl' _) 4 0 rfl rfl rfl rfl hl.1 rfl (Nat.le_of_ble_eq_true rfl) ⟨Nat.zero_le _, Nat.zero_le _⟩ dX5_lays_12) (fun _ => rfl) (fun r fd2 H locs hp h => ?_)
      obtain ⟨rfl, hF2⟩ := hp
      have h : St E _ s H locs (wM E a (mm, kp, wa, (iv (ik)), fd2, gf, tp, (iv (tn)), (iv (tk)), (iv (bg)), (iv (pt)), (iv (vl)), (iv (bd)), bt, sz, cl)) := h
      have e9 : q_lays A bq sq cq ph sh = ((-1000000006), A, (bump ph 5)) := by unfold q_lays; (repeat (first | rw [if_pos (by omega)] | rw [if_neg (by omega)])); try rfl
      exact ret _ _ _ _ _ (mm, kp, wa, (iv (ik)), fd2, gf, tp, (iv (tn)), (iv (tk)), (iv (bg)), (iv (pt)), (iv (vl)), (iv (bd)), bt, sz, cl) h (by rw [e9]; exact ⟨rfl, ⟨hR, hI, hr9⟩, hK, hF2, hT, hB⟩) dX5_lays_15
  · refine W.eq (g2 := F0 m 5 ls [.int (iv (0))]) (by rw [en]) ?_
    have osh := hB3.1 sh (by omega) (by omega)
    have zsh := hB3.2 sh (by omega) (by omega)
    refine lv_istore_n (lv' := [(2, .int (iv (0))), (0, .ref (a 0)), (1, .int (iv (sh)))]) X.1 X.2.1 dX5_lays_5 rfl hl (by decide) rfl (fun ls hl => ?_)
    refine lv_iload_n X.1 X.2.1 dX5_lays_6 rfl (lv_at hl 0 rfl) ?_
    refine z_if_eq (tgt := 16) X ⟨by decide, by decide⟩ dX5_lays_7 (by decide) (fun c_7 => ?_) (fun c_7 => ?_)
    · refine z_iconst X dX5_lays_16 ?_
      refine lv_istore_n (lv' := [(3, .int (iv (0))), (2, .int (iv (0))), (0, .ref (a 0)), (1, .int (iv (sh)))]) X.1 X.2.1 dX5_lays_17 rfl hl (by decide) rfl (fun ls hl => ?_)
      refine z_iconst X dX5_lays_18 ?_
      refine lv_istore (lv' := [(4, .int (iv (0))), (3, .int (iv (0))), (2, .int (iv (0))), (0, .ref (a 0)), (1, .int (iv (sh)))]) X.1 X.2.1 dX5_lays_19 hl (by decide) rfl (fun ls hl => ?_)
      have L21 : ∀ (fuel_ : Nat) (i : Int) (k : Int) (mq : Nat → Int32), (0 ≤ i) → (i ≤ sq sh) → (i ≤ 10) → (RM mq (layk (cq sh) A i.toNat).1) → (k = (layk (cq sh) A i.toNat).2) → 10 - i < (fuel_ : Int) → ∀ (H : Heap) (locs : List Loc), St E (wM E a (mm, kp, wa, (iv (ik)), fd, gf, tp, (iv (tn)), (iv (tk)), (iv (bg)), (iv (pt)), (iv (vl)), (iv (bd)), bt, sz, cl)) s H locs (wM E a (mq, kp, wa, (iv (ik)), fd, gf, tp, (iv (tn)), (iv (tk)), (iv (bg)), (iv (pt)), (iv (vl)), (iv (bd)), bt, sz, cl)) → ∀ ls : Array Slot, lv_has ls 5 [(2, .int (iv (0))), (0, .ref (a 0)), (1, .int (iv (sh))), (3, .int (iv (k))), (4, .int (iv (i)))] → W pp l e (rmk 3 64) s m args below meth c H locs 0 0 Q (F0 m 21 ls []) := by
        intro fuel_
        induction fuel_ with
        | zero =>
          intro i k mq i0 i1 i2 hv hn2 hn
          exfalso; omega
        | succ fuel_ ih =>
          intro i k mq i0 i1 i2 hv hn2 hn H locs h ls hl
          have kr := layk_n (cq sh) A i.toNat
          refine lv_iload X.1 X.2.1 dX5_lays_21 (lv_at hl 4 rfl) ?_
          refine lv_aload_n X.1 X.2.1 dX5_lays_23 rfl (lv_at hl 1 rfl) ?_
          refine z_get X h 4 0 14 rfl inX5 rfl (by decide) fl_X5_31 rfl dX5_lays_24 ?_
          refine lv_iload_n X.1 X.2.1 dX5_lays_27 rfl (lv_at hl 2 rfl) ?_
          refine z_iald (v := sq sh) X h 8 rfl (by omega) (by omega) (by decide) (hB2 sh (by omega) (by omega)) dX5_lays_28 ?_
          refine z_ic_ge (tgt := 91) X ⟨by omega, by omega⟩ ⟨by omega, by omega⟩ dX5_lays_29 (by decide) (fun c_29 => ?_) (fun c_29 => ?_)
          · have ei : i = min10 (sq sh) := by unfold min10; split <;> omega
            have hve : RM mq (layk (cq sh) A (min10 (sq sh)).toNat).1 := by rw [← ei]; exact hv
            refine lv_iload_n X.1 X.2.1 dX5_lays_91 rfl (lv_at hl 3 rfl) ?_
            have e9 : q_lays A bq sq cq ph sh = (k, (layk (cq sh) A (min10 (sq sh)).toNat).1, ph) := by unfold q_lays; rw [if_neg (by omega), if_neg (by omega), hn2, ei]
            exact ret _ _ _ _ _ (mq, kp, wa, (iv (ik)), fd, gf, tp, (iv (tn)), (iv (tk)), (iv (bg)), (iv (pt)), (iv (vl)), (iv (bd)), bt, sz, cl) h (by rw [e9]; exact ⟨rfl, ⟨hve, (layk_IA hI _), (by rw [(layk_pe (cq sh) A _).2]; exact hr9)⟩, hK, hF, hT, hB⟩) dX5_lays_92
          · refine lv_iload X.1 X.2.1 dX5_lays_32 (lv_at hl 4 rfl) ?_
            refine z_bipush X (by decide) dX5_lays_34 ?_
            refine z_ic_ge (tgt := 91) X ⟨by omega, by omega⟩ ⟨by decide, by decide⟩ dX5_lays_36 (by decide) (fun c_36 => ?_) (fun c_36 => ?_)
            · have ei : i = min10 (sq sh) := by unfold min10; split <;> omega
              have hve : RM mq (layk (cq sh) A (min10 (sq sh)).toNat).1 := by rw [← ei]; exact hv
              refine lv_iload_n X.1 X.2.1 dX5_lays_91 rfl (lv_at hl 3 rfl) ?_
              have e9 : q_lays A bq sq cq ph sh = (k, (layk (cq sh) A (min10 (sq sh)).toNat).1, ph) := by unfold q_lays; rw [if_neg (by omega), if_neg (by omega), hn2, ei]
              exact ret _ _ _ _ _ (mq, kp, wa, (iv (ik)), fd, gf, tp, (iv (tn)), (iv (tk)), (iv (bg)), (iv (pt)), (iv (vl)), (iv (bd)), bt, sz, cl) h (by rw [e9]; exact ⟨rfl, ⟨hve, (layk_IA hI _), (by rw [(layk_pe (cq sh) A _).2]; exact hr9)⟩, hK, hF, hT, hB⟩) dX5_lays_92
            · refine lv_aload_n X.1 X.2.1 dX5_lays_39 rfl (lv_at hl 1 rfl) ?_
              refine z_get X h 4 0 15 rfl inX5 rfl (by decide) fl_X5_34 rfl dX5_lays_40 ?_
              refine z_bipush X (by decide) dX5_lays_43 ?_
              refine lv_iload_n X.1 X.2.1 dX5_lays_45 rfl (lv_at hl 2 rfl) ?_
              refine z_imul X dX5_lays_46 ?_
              refine lv_iload X.1 X.2.1 dX5_lays_47 (lv_at hl 4 rfl) ?_
              refine z_iadd X dX5_lays_49 ?_
              refine z_laldv (v := cq sh i) X h 9 rfl (by omega) (by omega) (by decide) (hB4 sh i (by omega) (by omega) (by omega) (by omega)) dX5_lays_50 ?_
              refine z_iconst X dX5_lays_51 ?_
              refine z_bipush X (by decide) dX5_lays_52 ?_
              refine z_pi (run_S (rest := []) X h (c_X5_in ⟨by decide, by decide⟩ ⟨by decide, by decide⟩) mi_X5_in ml_X5_44 ⟨Nat.le_of_ble_eq_true rfl, Nat.le_of_ble_eq_true rfl⟩ ⟨rfl, rfl⟩ (Seg.nil _) rfl hl.1 rfl (Nat.le_of_ble_eq_true rfl) ⟨Nat.zero_le _, Nat.zero_le _⟩ dX5_lays_54) ?_
              refine z_ifb_eq (tgt := 85) X dX5_lays_57 (by decide) (fun c_57 => ?_) (fun c_57 => ?_)
              · refine z_iinc (k := 4) (lv' := [(4, .int (iv (i + 1))), (2, .int (iv (0))), (0, .ref (a 0)), (1, .int (iv (sh))), (3, .int (iv (k)))]) X dX5_lays_85 hl rfl (by decide) rfl (fun ls hl => ?_)
                refine lv_goto (tgt := 21) X.1 X.2.1 dX5_lays_88 (by decide) ?_
                exact ih (i + 1) (k) (mq) (by omega) (by omega) (by omega) (by rw [layk_no i0 (by omega)]; exact hv) (by rw [layk_no i0 (by omega)]; exact hn2) (by omega) _ _ h ls (lv_sub hl [1, 2, 3, 4, 0] rfl)
              · refine lv_aload_n X.1 X.2.1 dX5_lays_60 rfl (lv_at hl 1 rfl) ?_
                refine z_get X h 4 0 0 rfl inX5 rfl (by decide) fl_X5_9 rfl dX5_lays_61 ?_
                refine z_iconst X dX5_lays_64 ?_
                refine lv_iload X.1 X.2.1 dX5_lays_65 (lv_at hl 4 rfl) ?_
                refine z_iadd X dX5_lays_67 ?_
                refine lv_aload_n X.1 X.2.1 dX5_lays_68 rfl (lv_at hl 1 rfl) ?_
                refine z_get X h 4 0 15 rfl inX5 rfl (by decide) fl_X5_34 rfl dX5_lays_69 ?_
                refine z_bipush X (by decide) dX5_lays_72 ?_
                refine lv_iload_n X.1 X.2.1 dX5_lays_74 rfl (lv_at hl 2 rfl) ?_
                refine z_imul X dX5_lays_75 ?_
                refine lv_iload X.1 X.2.1 dX5_lays_76 (lv_at hl 4 rfl) ?_
                refine z_iadd X dX5_lays_78 ?_
                refine z_laldv (v := cq sh i) X h 9 rfl (by omega) (by omega) (by decide) (hB4 sh i (by omega) (by omega) (by omega) (by omega)) dX5_lays_79 ?_
                refine lv_l2i (v := (cq sh i).toInt32) X.1 X.2.1 dX5_lays_80 rfl ?_
                refine W.eq (g2 := F0 m 81 ls [.int (iv ((cq sh i).toInt)), .int (iv (2 + i)), .ref (a 1)]) (by rw [i64_small (x := cq sh i) (by omega) (by omega)]) ?_
                refine z_iast X h 1 rfl (by omega) (by omega) (by decide) dX5_lays_81 (fun H locs h => ?_)
                have h : St E _ s H locs (wM E a ((upd mq (2 + i : Int).toNat (iv ((cq sh i).toInt))), kp, wa, (iv (ik)), fd, gf, tp, (iv (tn)), (iv (tk)), (iv (bg)), (iv (pt)), (iv (vl)), (iv (bd)), bt, sz, cl)) := h
                have hRn := RM_su hv (i := i) (v := (cq sh i).toInt) (by omega) (by omega)
                refine z_iinc (k := 3) (lv' := [(3, .int (iv (k + 1))), (2, .int (iv (0))), (0, .ref (a 0)), (1, .int (iv (sh))), (4, .int (iv (i)))]) X dX5_lays_82 hl rfl (by decide) rfl (fun ls hl => ?_)
                refine z_iinc (k := 4) (lv' := [(4, .int (iv (i + 1))), (3, .int (iv (k + 1))), (2, .int (iv (0))), (0, .ref (a 0)), (1, .int (iv (sh)))]) X dX5_lays_85 hl rfl (by decide) rfl (fun ls hl => ?_)
                refine lv_goto (tgt := 21) X.1 X.2.1 dX5_lays_88 (by decide) ?_
                exact ih (i + 1) (k + 1) ((upd mq (2 + i : Int).toNat (iv ((cq sh i).toInt)))) (by omega) (by omega) (by omega) (by rw [layk_y i0 (by omega)]; exact hRn) (by rw [layk_y i0 (by omega)]; show _ = _; omega) (by omega) _ _ h ls (lv_sub hl [2, 3, 4, 1, 0] rfl)
      exact L21 ((10 - (0) : Int).toNat + 1) (0) (0) (mm) (by omega) (by omega) (by omega) (hR) (rfl) (by omega) _ _ h ls (lv_sub hl [2, 3, 4, 1, 0] rfl)
    · exact absurd c_7 (by decide)

set_option maxHeartbeats 4000000 in
theorem c_X5_book (hS : RepM (mm, kp, wa, (iv (ik)), fd, gf, tp, (iv (tn)), (iv (tk)), (iv (bg)), (iv (pt)), (iv (vl)), (iv (bd)), bt, sz, cl) (A, K, ik, ph, tq, tn, bq, sq, cq)) {sh : Int} (r_sh : r32 sh) {p : Int} (r_p : r32 p) : MI (S := Mc) E l yX5_book cX5_book 5 (some FieldType.int) (rmk 6 134) (wM E a (mm, kp, wa, (iv (ik)), fd, gf, tp, (iv (tn)), (iv (tk)), (iv (bg)), (iv (pt)), (iv (vl)), (iv (bd)), bt, sz, cl)) [.ref (a 0), .int (iv (sh)), .int (iv (p))] (fun r u => r = iv ((q_book A bq sq cq ph sh p).1) ∧ RepM u (A, K, ik, (q_book A bq sq cq ph sh p).2.2, tq, tn, bq, sq, (q_book A bq sq cq ph sh p).2.1)) (fun u => wM E a u) := by
  refine goI (S := Mc) (post := fun r u => r = iv ((q_book A bq sq cq ph sh p).1) ∧ RepM u (A, K, ik, (q_book A bq sq cq ph sh p).2.2, tq, tn, bq, sq, (q_book A bq sq cq ph sh p).2.1)) (ws' := fun u => wM E a u) (by decide) (Nat.le_of_ble_eq_true rfl) ?_
  intro pp e s m below meth c ls args Q ret X h hl
  have hl : lv_has ls 5 [(0, .ref (a 0)), (1, .int (iv (sh))), (2, .int (iv (p)))] := hl
  have hR : RM mm A := hS.1.1
  have hI : IA A := hS.1.2.1
  have hr9 : hr A ≤ 99999 := hS.1.2.2
  have hF : RF 7 fd ph := hS.2.2.1
  have hK := hS.2.1
  have hT := hS.2.2.2.1
  have hB := hS.2.2.2.2
  have hh : hr A < 1000000 := by omega
  have n8 := hI.n8
  have n0 := hI.n0
  have h0 := hI.h0
  have hB1 : RF 4 bt bq := hS.2.2.2.2.1
  have hB2 : RF 4 sz sq := hS.2.2.2.2.2.1
  have hB3 : okB bq sq := hS.2.2.2.2.2.2.1
  have hB4 : CL cl cq := hS.2.2.2.2.2.2.2
  have ht0 : 0 ≤ tn := hS.2.2.2.1.2.1
  have ht1 : tn ≤ 120 := hS.2.2.2.1.2.2.1
  have hk01 : ik = 0 ∨ ik = 1 := hS.2.1.2.1
  refine lv_aload_n X.1 X.2.1 dX5_book_0 rfl (lv_at hl 0 rfl) ?_
  refine lv_iload_n X.1 X.2.1 dX5_book_1 rfl (lv_at hl 1 rfl) ?_
  refine z_pi (run_V (rest := []) X h (c_X5_notThere (sh := sh) hB1 hB3 r_sh) mi_X5_notThere ml_X5_214 ⟨Nat.le_of_ble_eq_true rfl, Nat.le_of_ble_eq_true rfl⟩ ⟨rfl, rfl⟩ (Seg.rfl' _) 4 0 rfl rfl rfl rfl hl.1 rfl (Nat.le_of_ble_eq_true rfl) ⟨Nat.zero_le _, Nat.zero_le _⟩ dX5_book_2) ?_
  rcases nth_c bq sh with ⟨en, cs⟩ | ⟨en, cs⟩ | ⟨en, cs⟩
  · refine W.eq (g2 := F0 m 5 ls [.int (iv ((-1000000001)))]) (by rw [en]) ?_
    refine lv_istore_n (lv' := [(3, .int (iv ((-1000000001)))), (0, .ref (a 0)), (1, .int (iv (sh))), (2, .int (iv (p)))]) X.1 X.2.1 dX5_book_5 rfl hl (by decide) rfl (fun ls hl => ?_)
    refine lv_iload_n X.1 X.2.1 dX5_book_6 rfl (lv_at hl 0 rfl) ?_
    refine z_if_ne (tgt := 23) X ⟨by decide, by decide⟩ dX5_book_7 (by decide) (fun c_7 => ?_) (fun c_7 => ?_)
    · refine lv_iload_n X.1 X.2.1 dX5_book_23 rfl (lv_at hl 0 rfl) ?_
      refine lv_istore_n (lv' := [(3, .int (iv ((-1000000001)))), (0, .ref (a 0)), (1, .int (iv (sh))), (2, .int (iv (p)))]) X.1 X.2.1 dX5_book_24 rfl hl (by decide) rfl (fun ls hl => ?_)
      refine lv_iload_n X.1 X.2.1 dX5_book_25 rfl (lv_at hl 0 rfl) ?_
      refine z_if_eq (tgt := 35) X ⟨by decide, by decide⟩ dX5_book_26 (by decide) (fun c_26 => ?_) (fun c_26 => ?_)
      · exact absurd c_26 (by decide)
      · refine lv_aload_n X.1 X.2.1 dX5_book_29 rfl (lv_at hl 1 rfl) ?_
        refine lv_iload_n X.1 X.2.1 dX5_book_30 rfl (lv_at hl 0 rfl) ?_
        refine z_ai h (run_V (rest := []) X h (c_X5_finds (k := 0) hF (by decide) (by decide) (by decide)) mi_X5_finds ml_X5_40 ⟨Nat.le_of_ble_eq_true rfl, Nat.le_of_ble_eq_true rfl⟩ ⟨rfl, rfl⟩ (Seg.rfl' _) 4 0 rfl rfl rfl rfl hl.1 rfl (Nat.le_of_ble_eq_true rfl) ⟨Nat.zero_le _, Nat.zero_le _⟩ dX5_book_31) (fun _ => rfl) (fun r fd1 H locs hp h => ?_)
        obtain ⟨rfl, hF1⟩ := hp
        have h : St E _ s H locs (wM E a (mm, kp, wa, (iv (ik)), fd1, gf, tp, (iv (tn)), (iv (tk)), (iv (bg)), (iv (pt)), (iv (vl)), (iv (bd)), bt, sz, cl)) := h
        have e9 : q_book A bq sq cq ph sh p = ((-1000000001), cq, (bump ph 0)) := by unfold q_book; (repeat (first | rw [if_pos (by omega)] | rw [if_neg (by omega)])); try rfl
        exact ret _ _ _ _ _ (mm, kp, wa, (iv (ik)), fd1, gf, tp, (iv (tn)), (iv (tk)), (iv (bg)), (iv (pt)), (iv (vl)), (iv (bd)), bt, sz, cl) h (by rw [e9]; exact ⟨rfl, ⟨hR, hI, hr9⟩, hK, hF1, hT, hB⟩) dX5_book_34
    · exact absurd c_7 (by decide)
  · refine W.eq (g2 := F0 m 5 ls [.int (iv ((-1000000006)))]) (by rw [en]) ?_
    refine lv_istore_n (lv' := [(3, .int (iv ((-1000000006)))), (0, .ref (a 0)), (1, .int (iv (sh))), (2, .int (iv (p)))]) X.1 X.2.1 dX5_book_5 rfl hl (by decide) rfl (fun ls hl => ?_)
    refine lv_iload_n X.1 X.2.1 dX5_book_6 rfl (lv_at hl 0 rfl) ?_
    refine z_if_ne (tgt := 23) X ⟨by decide, by decide⟩ dX5_book_7 (by decide) (fun c_7 => ?_) (fun c_7 => ?_)
    · refine lv_iload_n X.1 X.2.1 dX5_book_23 rfl (lv_at hl 0 rfl) ?_
      refine lv_istore_n (lv' := [(3, .int (iv ((-1000000006)))), (0, .ref (a 0)), (1, .int (iv (sh))), (2, .int (iv (p)))]) X.1 X.2.1 dX5_book_24 rfl hl (by decide) rfl (fun ls hl => ?_)
      refine lv_iload_n X.1 X.2.1 dX5_book_25 rfl (lv_at hl 0 rfl) ?_
      refine z_if_eq (tgt := 35) X ⟨by decide, by decide⟩ dX5_book_26 (by decide) (fun c_26 => ?_) (fun c_26 => ?_)
      · exact absurd c_26 (by decide)
      · refine lv_aload_n X.1 X.2.1 dX5_book_29 rfl (lv_at hl 1 rfl) ?_
        refine lv_iload_n X.1 X.2.1 dX5_book_30 rfl (lv_at hl 0 rfl) ?_
        refine z_ai h (run_V (rest := []) X h (c_X5_finds (k := 5) hF (by decide) (by decide) (by decide)) mi_X5_finds ml_X5_40 ⟨Nat.le_of_ble_eq_true rfl, Nat.le_of_ble_eq_true rfl⟩ ⟨rfl, rfl⟩ (Seg.rfl' _) 4 0 rfl rfl rfl rfl hl.1 rfl (Nat.le_of_ble_eq_true rfl) ⟨Nat.zero_le _, Nat.zero_le _⟩ dX5_book_31) (fun _ => rfl) (fun r fd2 H locs hp h => ?_)
        obtain ⟨rfl, hF2⟩ := hp
        have h : St E _ s H locs (wM E a (mm, kp, wa, (iv (ik)), fd2, gf, tp, (iv (tn)), (iv (tk)), (iv (bg)), (iv (pt)), (iv (vl)), (iv (bd)), bt, sz, cl)) := h
        have e9 : q_book A bq sq cq ph sh p = ((-1000000006), cq, (bump ph 5)) := by unfold q_book; (repeat (first | rw [if_pos (by omega)] | rw [if_neg (by omega)])); try rfl
        exact ret _ _ _ _ _ (mm, kp, wa, (iv (ik)), fd2, gf, tp, (iv (tn)), (iv (tk)), (iv (bg)), (iv (pt)), (iv (vl)), (iv (bd)), bt, sz, cl) h (by rw [e9]; exact ⟨rfl, ⟨hR, hI, hr9⟩, hK, hF2, hT, hB⟩) dX5_book_34
    · exact absurd c_7 (by decide)
  · refine W.eq (g2 := F0 m 5 ls [.int (iv (0))]) (by rw [en]) ?_
    have osh := hB3.1 sh (by omega) (by omega)
    have zsh := hB3.2 sh (by omega) (by omega)
    refine lv_istore_n (lv' := [(3, .int (iv (0))), (0, .ref (a 0)), (1, .int (iv (sh))), (2, .int (iv (p)))]) X.1 X.2.1 dX5_book_5 rfl hl (by decide) rfl (fun ls hl => ?_)
    refine lv_iload_n X.1 X.2.1 dX5_book_6 rfl (lv_at hl 0 rfl) ?_
    refine z_if_ne (tgt := 23) X ⟨by decide, by decide⟩ dX5_book_7 (by decide) (fun c_7 => ?_) (fun c_7 => ?_)
    · exact absurd c_7 (by decide)
    · refine lv_aload_n X.1 X.2.1 dX5_book_10 rfl (lv_at hl 1 rfl) ?_
      refine lv_iload_n X.1 X.2.1 dX5_book_11 rfl (lv_at hl 3 rfl) ?_
      refine z_pi (run_V (rest := []) X h (c_X5_isPerson (p := p) hR hI r_p) mi_X5_isPerson ml_X5_48 ⟨Nat.le_of_ble_eq_true rfl, Nat.le_of_ble_eq_true rfl⟩ ⟨rfl, rfl⟩ (Seg.rfl' _) 4 0 rfl rfl rfl rfl hl.1 rfl (Nat.le_of_ble_eq_true rfl) ⟨Nat.zero_le _, Nat.zero_le _⟩ dX5_book_12) ?_
      refine z_ifb_ne (tgt := 23) X dX5_book_15 (by decide) (fun c_15 => ?_) (fun c_15 => ?_)
      · refine lv_iload_n X.1 X.2.1 dX5_book_23 rfl (lv_at hl 0 rfl) ?_
        refine lv_istore_n (lv' := [(3, .int (iv (0))), (0, .ref (a 0)), (1, .int (iv (sh))), (2, .int (iv (p)))]) X.1 X.2.1 dX5_book_24 rfl hl (by decide) rfl (fun ls hl => ?_)
        refine lv_iload_n X.1 X.2.1 dX5_book_25 rfl (lv_at hl 0 rfl) ?_
        refine z_if_eq (tgt := 35) X ⟨by decide, by decide⟩ dX5_book_26 (by decide) (fun c_26 => ?_) (fun c_26 => ?_)
        · refine lv_aload_n X.1 X.2.1 dX5_book_35 rfl (lv_at hl 1 rfl) ?_
          refine z_av h (run_V (rest := []) X h (c_X5_thinks) mi_X5_thinks ml_X5_139 ⟨Nat.le_of_ble_eq_true rfl, Nat.le_of_ble_eq_true rfl⟩ ⟨rfl, rfl⟩ (Seg.rfl' _) 4 0 rfl rfl rfl rfl hl.1 rfl (Nat.le_of_ble_eq_true rfl) ⟨Nat.zero_le _, Nat.zero_le _⟩ dX5_book_36) (fun _ => rfl) (fun wa3 H locs hw3 h => ?_)
          have h : St E _ s H locs (wM E a (mm, kp, wa3, (iv (ik)), fd, gf, tp, (iv (tn)), (iv (tk)), (iv (bg)), (iv (pt)), (iv (vl)), (iv (bd)), bt, sz, cl)) := h
          have hT3 := RM_eq hR hI.n8 hw3
          refine z_iconst X dX5_book_39 ?_
          refine lv_istore (lv' := [(4, .int (iv (0))), (3, .int (iv (0))), (0, .ref (a 0)), (1, .int (iv (sh))), (2, .int (iv (p)))]) X.1 X.2.1 dX5_book_40 hl (by decide) rfl (fun ls hl => ?_)
          have L42 : ∀ (fuel_ : Nat) (i : Int) (mq : Nat → Int32) (gq : Nat → Int32) (cv : Nat → Int64), (0 ≤ i) → (i ≤ sq sh) → (RM mq (stepn A i.toNat)) → (CL cv (bookq A bq cq sh p i)) → sq sh - i < (fuel_ : Int) → ∀ (H : Heap) (locs : List Loc), St E (wM E a (mm, kp, wa, (iv (ik)), fd, gf, tp, (iv (tn)), (iv (tk)), (iv (bg)), (iv (pt)), (iv (vl)), (iv (bd)), bt, sz, cl)) s H locs (wM E a (mq, kp, wa3, (iv (ik)), fd, gq, tp, (iv (tn)), (iv (tk)), (iv (bg)), (iv (pt)), (iv (vl)), (iv (bd)), bt, sz, cv)) → ∀ ls : Array Slot, lv_has ls 5 [(3, .int (iv (0))), (0, .ref (a 0)), (1, .int (iv (sh))), (2, .int (iv (p))), (4, .int (iv (i)))] → W pp l e (rmk 6 134) s m args below meth c H locs 0 0 Q (F0 m 42 ls []) := by
            intro fuel_
            induction fuel_ with
            | zero =>
              intro i mq gq cv i0 i1 hv hc hn
              exfalso; omega
            | succ fuel_ ih =>
              intro i mq gq cv i0 i1 hv hc hn H locs h ls hl
              have pm : pe (stepn A i.toNat) = pe A := stepn_pe _ _
              have bR := brnn_rng hI i.toNat (p := p) (by omega) (by omega)
              refine lv_iload X.1 X.2.1 dX5_book_42 (lv_at hl 4 rfl) ?_
              refine lv_aload_n X.1 X.2.1 dX5_book_44 rfl (lv_at hl 1 rfl) ?_
              refine z_get X h 4 0 14 rfl inX5 rfl (by decide) fl_X5_31 rfl dX5_book_45 ?_
              refine lv_iload_n X.1 X.2.1 dX5_book_48 rfl (lv_at hl 2 rfl) ?_
              refine z_iald (v := sq sh) X h 8 rfl (by omega) (by omega) (by decide) (hB2 sh (by omega) (by omega)) dX5_book_49 ?_
              refine z_ic_ge (tgt := 90) X ⟨by omega, by omega⟩ ⟨by omega, by omega⟩ dX5_book_50 (by decide) (fun c_50 => ?_) (fun c_50 => ?_)
              · refine lv_aload_n X.1 X.2.1 dX5_book_90 rfl (lv_at hl 1 rfl) ?_
                refine z_av h (run_V (rest := []) X h (c_X5_putsBack) mi_X5_putsBack ml_X5_142 ⟨Nat.le_of_ble_eq_true rfl, Nat.le_of_ble_eq_true rfl⟩ ⟨rfl, rfl⟩ (Seg.rfl' _) 4 0 rfl rfl rfl rfl hl.1 rfl (Nat.le_of_ble_eq_true rfl) ⟨Nat.zero_le _, Nat.zero_le _⟩ dX5_book_91) (fun _ => rfl) (fun mb4 H locs hb4 h => ?_)
                have h : St E _ s H locs (wM E a (mb4, kp, wa3, (iv (ik)), fd, gq, tp, (iv (tn)), (iv (tk)), (iv (bg)), (iv (pt)), (iv (vl)), (iv (bd)), bt, sz, cv)) := h
                have hR4 := RM_eq hT3 hI.n8 hb4
                have hce : CL cv (bookq A bq cq sh p (sq sh)) := by rw [show sq sh = i by omega]; exact hc
                refine lv_aload_n X.1 X.2.1 dX5_book_94 rfl (lv_at hl 1 rfl) ?_
                refine z_get X h 4 0 14 rfl inX5 rfl (by decide) fl_X5_31 rfl dX5_book_95 ?_
                refine lv_iload_n X.1 X.2.1 dX5_book_98 rfl (lv_at hl 2 rfl) ?_
                refine z_iald (v := sq sh) X h 8 rfl (by omega) (by omega) (by decide) (hB2 sh (by omega) (by omega)) dX5_book_99 ?_
                have e9 : q_book A bq sq cq ph sh p = (sq sh, (bookq A bq cq sh p (sq sh)), ph) := by unfold q_book; (repeat (first | rw [if_pos (by omega)] | rw [if_neg (by omega)])); try rfl
                exact ret _ _ _ _ _ (mb4, kp, wa3, (iv (ik)), fd, gq, tp, (iv (tn)), (iv (tk)), (iv (bg)), (iv (pt)), (iv (vl)), (iv (bd)), bt, sz, cv) h (by rw [e9]; exact ⟨rfl, ⟨hR4, hI, hr9⟩, hK, hF, hT, ⟨hB1, hB2, hB3, hce⟩⟩) dX5_book_100
              · refine lv_aload_n X.1 X.2.1 dX5_book_53 rfl (lv_at hl 1 rfl) ?_
                refine z_get X h 4 0 15 rfl inX5 rfl (by decide) fl_X5_34 rfl dX5_book_54 ?_
                refine z_bipush X (by decide) dX5_book_57 ?_
                refine lv_iload_n X.1 X.2.1 dX5_book_59 rfl (lv_at hl 2 rfl) ?_
                refine z_imul X dX5_book_60 ?_
                refine lv_iload X.1 X.2.1 dX5_book_61 (lv_at hl 4 rfl) ?_
                refine z_iadd X dX5_book_63 ?_
                refine lv_aload_n X.1 X.2.1 dX5_book_64 rfl (lv_at hl 1 rfl) ?_
                refine z_get X h 4 0 13 rfl inX5 rfl (by decide) fl_X5_28 rfl dX5_book_65 ?_
                refine lv_iload_n X.1 X.2.1 dX5_book_68 rfl (lv_at hl 2 rfl) ?_
                refine z_iald (v := bq sh) X h 7 rfl (by omega) (by omega) (by decide) (hB1 sh (by omega) (by omega)) dX5_book_69 ?_
                refine lv_aload_n X.1 X.2.1 dX5_book_70 rfl (lv_at hl 1 rfl) ?_
                refine lv_iload_n X.1 X.2.1 dX5_book_71 rfl (lv_at hl 3 rfl) ?_
                refine z_pi (run_V (rest := [.int (iv (bq sh)), .int (iv (40 * sh + i)), .ref (a 9)]) X h (c_X5_brownOf (p := p) hv (stepn_IA hI i.toNat) (by omega) (by omega)) mi_X5_brownOf ml_X5_105 ⟨Nat.le_of_ble_eq_true rfl, Nat.le_of_ble_eq_true rfl⟩ ⟨rfl, rfl⟩ (Seg.rfl' _) 4 0 rfl rfl rfl rfl hl.1 rfl (Nat.le_of_ble_eq_true rfl) ⟨Nat.zero_le _, Nat.zero_le _⟩ dX5_book_72) ?_
                refine lv_i2l (v := (iv (brn (stepn A i.toNat) p)).toInt64) X.1 X.2.1 dX5_book_75 rfl ?_
                refine z_pl (run_S (rest := [.int (iv (40 * sh + i)), .ref (a 9)]) X h (c_X5_cutTo (b := bq sh) (v := (iv (brn (stepn A i.toNat) p)).toInt64) ⟨by omega, by omega⟩) mi_X5_cutTo ml_X5_217 ⟨Nat.le_of_ble_eq_true rfl, Nat.le_of_ble_eq_true rfl⟩ ⟨rfl, rfl⟩ (Seg.nil _) rfl hl.1 rfl (Nat.le_of_ble_eq_true rfl) ⟨Nat.zero_le _, Nat.zero_le _⟩ dX5_book_76) ?_
                refine z_last X h 9 rfl (by omega) (by omega) (by decide) dX5_book_79 (fun H locs h => ?_)
                have h : St E _ s H locs (wM E a (mq, kp, wa3, (iv (ik)), fd, gq, tp, (iv (tn)), (iv (tk)), (iv (bg)), (iv (pt)), (iv (vl)), (iv (bd)), bt, sz, (vp_updL cv (40 * sh + i : Int).toNat (cut (bq sh) ((iv (brn (stepn A i.toNat) p)).toInt64))))) := h
                refine lv_aload_n X.1 X.2.1 dX5_book_80 rfl (lv_at hl 1 rfl) ?_
                refine z_av h (run_V (rest := []) X h (c_X5_goes hv (stepn_IA hI i.toNat) (show hr (stepn A i.toNat) < 1000000 by rw [stepn_hr]; omega)) mi_X5_goes ml_X5_127 ⟨Nat.le_of_ble_eq_true rfl, Nat.le_of_ble_eq_true rfl⟩ ⟨rfl, rfl⟩ (Seg.rfl' _) 4 0 rfl rfl rfl rfl hl.1 rfl (Nat.le_of_ble_eq_true rfl) ⟨Nat.zero_le _, Nat.zero_le _⟩ dX5_book_81) (fun _ => rfl) (fun u H locs hp h => ?_)
                obtain ⟨mg5, gg5⟩ := u
                have h : St E _ s H locs (wM E a (mg5, kp, wa3, (iv (ik)), fd, gg5, tp, (iv (tn)), (iv (tk)), (iv (bg)), (iv (pt)), (iv (vl)), (iv (bd)), bt, sz, (vp_updL cv (40 * sh + i : Int).toNat (cut (bq sh) ((iv (brn (stepn A i.toNat) p)).toInt64))))) := h
                have hR5 : RM mg5 (step (stepn A i.toNat)) := hp
                refine z_iinc (k := 4) (lv' := [(4, .int (iv (i + 1))), (3, .int (iv (0))), (0, .ref (a 0)), (1, .int (iv (sh))), (2, .int (iv (p)))]) X dX5_book_84 hl rfl (by decide) rfl (fun ls hl => ?_)
                refine lv_goto (tgt := 42) X.1 X.2.1 dX5_book_87 (by decide) ?_
                exact ih (i + 1) (mg5) (gg5) ((vp_updL cv (40 * sh + i : Int).toNat (cut (bq sh) ((iv (brn (stepn A i.toNat) p)).toInt64)))) (by omega) (by omega) (by rw [tn1 i0]; exact hR5) (CL_congr (CL_upd hc (by omega) (by omega) i0 (by omega)) (fun t j t0 t1 j0 j1 => bookq_s i0)) (by omega) _ _ h ls (lv_sub hl [1, 2, 3, 4, 0] rfl)
          exact L42 ((sq sh - (0) : Int).toNat + 1) (0) (mm) (gf) (cl) (by omega) (by omega) (hR) (CL_congr hB4 (fun t j t0 t1 j0 j1 => by unfold bookq; rw [if_neg (by omega)])) (by omega) _ _ h ls (lv_sub hl [1, 2, 3, 4, 0] rfl)
        · exact absurd c_26 (by decide)
      · refine z_ldc (z := (-1000000001)) X ct_X5_38 (by decide) dX5_book_18 ?_
        refine lv_goto (tgt := 24) X.1 X.2.1 dX5_book_20 (by decide) ?_
        refine lv_istore_n (lv' := [(3, .int (iv ((-1000000001)))), (0, .ref (a 0)), (1, .int (iv (sh))), (2, .int (iv (p)))]) X.1 X.2.1 dX5_book_24 rfl hl (by decide) rfl (fun ls hl => ?_)
        refine lv_iload_n X.1 X.2.1 dX5_book_25 rfl (lv_at hl 0 rfl) ?_
        refine z_if_eq (tgt := 35) X ⟨by decide, by decide⟩ dX5_book_26 (by decide) (fun c_26 => ?_) (fun c_26 => ?_)
        · exact absurd c_26 (by decide)
        · refine lv_aload_n X.1 X.2.1 dX5_book_29 rfl (lv_at hl 1 rfl) ?_
          refine lv_iload_n X.1 X.2.1 dX5_book_30 rfl (lv_at hl 0 rfl) ?_
          refine z_ai h (run_V (rest := []) X h (c_X5_finds (k := 0) hF (by decide) (by decide) (by decide)) mi_X5_finds ml_X5_40 ⟨Nat.le_of_ble_eq_true rfl, Nat.le_of_ble_eq_true rfl⟩ ⟨rfl, rfl⟩ (Seg.rfl' _) 4 0 rfl rfl rfl rfl hl.1 rfl (Nat.le_of_ble_eq_true rfl) ⟨Nat.zero_le _, Nat.zero_le _⟩ dX5_book_31) (fun _ => rfl) (fun r fd6 H locs hp h => ?_)
          obtain ⟨rfl, hF6⟩ := hp
          have h : St E _ s H locs (wM E a (mm, kp, wa, (iv (ik)), fd6, gf, tp, (iv (tn)), (iv (tk)), (iv (bg)), (iv (pt)), (iv (vl)), (iv (bd)), bt, sz, cl)) := h
          have e9 : q_book A bq sq cq ph sh p = ((-1000000001), cq, (bump ph 0)) := by unfold q_book; (repeat (first | rw [if_pos (by omega)] | rw [if_neg (by omega)])); try rfl
          exact ret _ _ _ _ _ (mm, kp, wa, (iv (ik)), fd6, gf, tp, (iv (tn)), (iv (tk)), (iv (bg)), (iv (pt)), (iv (vl)), (iv (bd)), bt, sz, cl) h (by rw [e9]; exact ⟨rfl, ⟨hR, hI, hr9⟩, hK, hF6, hT, hB⟩) dX5_book_34
