variable {E : EV} {l : Launch} {x : Nat → Nat} {tp : Nat → Int32} {tq : Int → Int} {tn pt ke so st_ en_ : Int} {e1 e2 e3 e4 : Int32}
set_option maxHeartbeats 4000000 in
theorem c_X2_kindNamed (hT : RT tp tq tn) (rs : r32 so) (s0 : 0 ≤ st_) (s1 : st_ ≤ en_) (s2 : en_ ≤ tn) : MP E l yX2_kindNamed cX2_kindNamed 2 (some FieldType.int) (rmk 6 128) (wX E x ((iv (tn))) ((iv (so))) ((iv (st_))) ((iv (en_))) ((e4)) tp ++ []) [.ref (x 0)] (knd so tq st_ en_) := by
  refine goP (by decide) (Nat.le_of_ble_eq_true rfl) ?_
  intro pp e s m below meth c ls args Q ret X h hl
  have hl : lv_has ls 2 [(0, .ref (x 0))] := hl
  refine z_iconst X dX2_kindNamed_0 ?_
  refine lv_istore_n (lv' := [(1, .int (iv (0))), (0, .ref (x 0))]) X.1 X.2.1 dX2_kindNamed_1 rfl hl (by decide) rfl (fun ls hl => ?_)
  refine lv_iload_n X.1 X.2.1 dX2_kindNamed_2 rfl (lv_at hl 0 rfl) ?_
  refine z_bipush X (by decide) dX2_kindNamed_3 ?_
  refine z_ic_ge (tgt := 27) X ⟨by decide, by decide⟩ ⟨by decide, by decide⟩ dX2_kindNamed_5 (by decide) (fun c_5 => ?_) (fun c_5 => ?_)
  · exact absurd c_5 (by decide)
  · refine lv_aload_n X.1 X.2.1 dX2_kindNamed_8 rfl (lv_at hl 1 rfl) ?_
    refine lv_iload_n X.1 X.2.1 dX2_kindNamed_9 rfl (lv_at hl 0 rfl) ?_
    refine z_pq (run_S (rest := [.ref (x 0)]) X h (c_nameOf0) mi_X2_nameOf ml_X2_97 ⟨Nat.le_of_ble_eq_true rfl, Nat.le_of_ble_eq_true rfl⟩ ⟨rfl, rfl⟩ (Seg.nil _) rfl hl.1 rfl (Nat.le_of_ble_eq_true rfl) ⟨Nat.zero_le _, Nat.zero_le _⟩ dX2_kindNamed_10) ?_
    refine W.eq (g2 := F0 m 13 ls [.ref (eK E 2), .ref (x 0)]) rfl ?_
    refine z_pi (run_V (rest := []) X h (c_X2_isWord (i9 := 2) hT (show 2 < 10 by decide) rs s0 s1 s2) mi_X2_isWord ml_X2_40 ⟨Nat.le_of_ble_eq_true rfl, Nat.le_of_ble_eq_true rfl⟩ ⟨rfl, rfl⟩ (Seg.rfl' _) 2 0 rfl rfl rfl rfl hl.1 rfl (Nat.le_of_ble_eq_true rfl) ⟨Nat.zero_le _, Nat.zero_le _⟩ dX2_kindNamed_13) ?_
    refine z_ifb_eq (tgt := 21) X dX2_kindNamed_16 (by decide) (fun c_16 => ?_) (fun c_16 => ?_)
    · refine z_iinc (k := 0) (lv' := [(1, .int (iv (1))), (0, .ref (x 0))]) X dX2_kindNamed_21 hl rfl (by decide) rfl (fun ls hl => ?_)
      refine lv_goto (tgt := 2) X.1 X.2.1 dX2_kindNamed_24 (by decide) ?_
      refine lv_iload_n X.1 X.2.1 dX2_kindNamed_2 rfl (lv_at hl 0 rfl) ?_
      refine z_bipush X (by decide) dX2_kindNamed_3 ?_
      refine z_ic_ge (tgt := 27) X ⟨by decide, by decide⟩ ⟨by decide, by decide⟩ dX2_kindNamed_5 (by decide) (fun c_5 => ?_) (fun c_5 => ?_)
      · exact absurd c_5 (by decide)
      · refine lv_aload_n X.1 X.2.1 dX2_kindNamed_8 rfl (lv_at hl 1 rfl) ?_
        refine lv_iload_n X.1 X.2.1 dX2_kindNamed_9 rfl (lv_at hl 0 rfl) ?_
        refine z_pq (run_S (rest := [.ref (x 0)]) X h (c_nameOf1) mi_X2_nameOf ml_X2_97 ⟨Nat.le_of_ble_eq_true rfl, Nat.le_of_ble_eq_true rfl⟩ ⟨rfl, rfl⟩ (Seg.nil _) rfl hl.1 rfl (Nat.le_of_ble_eq_true rfl) ⟨Nat.zero_le _, Nat.zero_le _⟩ dX2_kindNamed_10) ?_
        refine W.eq (g2 := F0 m 13 ls [.ref (eK E 3), .ref (x 0)]) rfl ?_
        refine z_pi (run_V (rest := []) X h (c_X2_isWord (i9 := 3) hT (show 3 < 10 by decide) rs s0 s1 s2) mi_X2_isWord ml_X2_40 ⟨Nat.le_of_ble_eq_true rfl, Nat.le_of_ble_eq_true rfl⟩ ⟨rfl, rfl⟩ (Seg.rfl' _) 2 0 rfl rfl rfl rfl hl.1 rfl (Nat.le_of_ble_eq_true rfl) ⟨Nat.zero_le _, Nat.zero_le _⟩ dX2_kindNamed_13) ?_
        refine z_ifb_eq (tgt := 21) X dX2_kindNamed_16 (by decide) (fun c_16 => ?_) (fun c_16 => ?_)
        · refine z_iinc (k := 0) (lv' := [(1, .int (iv (2))), (0, .ref (x 0))]) X dX2_kindNamed_21 hl rfl (by decide) rfl (fun ls hl => ?_)
          refine lv_goto (tgt := 2) X.1 X.2.1 dX2_kindNamed_24 (by decide) ?_
          refine lv_iload_n X.1 X.2.1 dX2_kindNamed_2 rfl (lv_at hl 0 rfl) ?_
          refine z_bipush X (by decide) dX2_kindNamed_3 ?_
          refine z_ic_ge (tgt := 27) X ⟨by decide, by decide⟩ ⟨by decide, by decide⟩ dX2_kindNamed_5 (by decide) (fun c_5 => ?_) (fun c_5 => ?_)
          · exact absurd c_5 (by decide)
          · refine lv_aload_n X.1 X.2.1 dX2_kindNamed_8 rfl (lv_at hl 1 rfl) ?_
            refine lv_iload_n X.1 X.2.1 dX2_kindNamed_9 rfl (lv_at hl 0 rfl) ?_
            refine z_pq (run_S (rest := [.ref (x 0)]) X h (c_nameOf2) mi_X2_nameOf ml_X2_97 ⟨Nat.le_of_ble_eq_true rfl, Nat.le_of_ble_eq_true rfl⟩ ⟨rfl, rfl⟩ (Seg.nil _) rfl hl.1 rfl (Nat.le_of_ble_eq_true rfl) ⟨Nat.zero_le _, Nat.zero_le _⟩ dX2_kindNamed_10) ?_
            refine W.eq (g2 := F0 m 13 ls [.ref (eK E 4), .ref (x 0)]) rfl ?_
            refine z_pi (run_V (rest := []) X h (c_X2_isWord (i9 := 4) hT (show 4 < 10 by decide) rs s0 s1 s2) mi_X2_isWord ml_X2_40 ⟨Nat.le_of_ble_eq_true rfl, Nat.le_of_ble_eq_true rfl⟩ ⟨rfl, rfl⟩ (Seg.rfl' _) 2 0 rfl rfl rfl rfl hl.1 rfl (Nat.le_of_ble_eq_true rfl) ⟨Nat.zero_le _, Nat.zero_le _⟩ dX2_kindNamed_13) ?_
            refine z_ifb_eq (tgt := 21) X dX2_kindNamed_16 (by decide) (fun c_16 => ?_) (fun c_16 => ?_)
            · refine z_iinc (k := 0) (lv' := [(1, .int (iv (3))), (0, .ref (x 0))]) X dX2_kindNamed_21 hl rfl (by decide) rfl (fun ls hl => ?_)
              refine lv_goto (tgt := 2) X.1 X.2.1 dX2_kindNamed_24 (by decide) ?_
              refine lv_iload_n X.1 X.2.1 dX2_kindNamed_2 rfl (lv_at hl 0 rfl) ?_
              refine z_bipush X (by decide) dX2_kindNamed_3 ?_
              refine z_ic_ge (tgt := 27) X ⟨by decide, by decide⟩ ⟨by decide, by decide⟩ dX2_kindNamed_5 (by decide) (fun c_5 => ?_) (fun c_5 => ?_)
              · exact absurd c_5 (by decide)
              · refine lv_aload_n X.1 X.2.1 dX2_kindNamed_8 rfl (lv_at hl 1 rfl) ?_
                refine lv_iload_n X.1 X.2.1 dX2_kindNamed_9 rfl (lv_at hl 0 rfl) ?_
                refine z_pq (run_S (rest := [.ref (x 0)]) X h (c_nameOf3) mi_X2_nameOf ml_X2_97 ⟨Nat.le_of_ble_eq_true rfl, Nat.le_of_ble_eq_true rfl⟩ ⟨rfl, rfl⟩ (Seg.nil _) rfl hl.1 rfl (Nat.le_of_ble_eq_true rfl) ⟨Nat.zero_le _, Nat.zero_le _⟩ dX2_kindNamed_10) ?_
                refine W.eq (g2 := F0 m 13 ls [.ref (eK E 5), .ref (x 0)]) rfl ?_
                refine z_pi (run_V (rest := []) X h (c_X2_isWord (i9 := 5) hT (show 5 < 10 by decide) rs s0 s1 s2) mi_X2_isWord ml_X2_40 ⟨Nat.le_of_ble_eq_true rfl, Nat.le_of_ble_eq_true rfl⟩ ⟨rfl, rfl⟩ (Seg.rfl' _) 2 0 rfl rfl rfl rfl hl.1 rfl (Nat.le_of_ble_eq_true rfl) ⟨Nat.zero_le _, Nat.zero_le _⟩ dX2_kindNamed_13) ?_
                refine z_ifb_eq (tgt := 21) X dX2_kindNamed_16 (by decide) (fun c_16 => ?_) (fun c_16 => ?_)
                · refine z_iinc (k := 0) (lv' := [(1, .int (iv (4))), (0, .ref (x 0))]) X dX2_kindNamed_21 hl rfl (by decide) rfl (fun ls hl => ?_)
                  refine lv_goto (tgt := 2) X.1 X.2.1 dX2_kindNamed_24 (by decide) ?_
                  refine lv_iload_n X.1 X.2.1 dX2_kindNamed_2 rfl (lv_at hl 0 rfl) ?_
                  refine z_bipush X (by decide) dX2_kindNamed_3 ?_
                  refine z_ic_ge (tgt := 27) X ⟨by decide, by decide⟩ ⟨by decide, by decide⟩ dX2_kindNamed_5 (by decide) (fun c_5 => ?_) (fun c_5 => ?_)
                  · exact absurd c_5 (by decide)
                  · refine lv_aload_n X.1 X.2.1 dX2_kindNamed_8 rfl (lv_at hl 1 rfl) ?_
                    refine lv_iload_n X.1 X.2.1 dX2_kindNamed_9 rfl (lv_at hl 0 rfl) ?_
                    refine z_pq (run_S (rest := [.ref (x 0)]) X h (c_nameOf4) mi_X2_nameOf ml_X2_97 ⟨Nat.le_of_ble_eq_true rfl, Nat.le_of_ble_eq_true rfl⟩ ⟨rfl, rfl⟩ (Seg.nil _) rfl hl.1 rfl (Nat.le_of_ble_eq_true rfl) ⟨Nat.zero_le _, Nat.zero_le _⟩ dX2_kindNamed_10) ?_
                    refine W.eq (g2 := F0 m 13 ls [.ref (eK E 6), .ref (x 0)]) rfl ?_
                    refine z_pi (run_V (rest := []) X h (c_X2_isWord (i9 := 6) hT (show 6 < 10 by decide) rs s0 s1 s2) mi_X2_isWord ml_X2_40 ⟨Nat.le_of_ble_eq_true rfl, Nat.le_of_ble_eq_true rfl⟩ ⟨rfl, rfl⟩ (Seg.rfl' _) 2 0 rfl rfl rfl rfl hl.1 rfl (Nat.le_of_ble_eq_true rfl) ⟨Nat.zero_le _, Nat.zero_le _⟩ dX2_kindNamed_13) ?_
                    refine z_ifb_eq (tgt := 21) X dX2_kindNamed_16 (by decide) (fun c_16 => ?_) (fun c_16 => ?_)
                    · refine z_iinc (k := 0) (lv' := [(1, .int (iv (5))), (0, .ref (x 0))]) X dX2_kindNamed_21 hl rfl (by decide) rfl (fun ls hl => ?_)
                      refine lv_goto (tgt := 2) X.1 X.2.1 dX2_kindNamed_24 (by decide) ?_
                      refine lv_iload_n X.1 X.2.1 dX2_kindNamed_2 rfl (lv_at hl 0 rfl) ?_
                      refine z_bipush X (by decide) dX2_kindNamed_3 ?_
                      refine z_ic_ge (tgt := 27) X ⟨by decide, by decide⟩ ⟨by decide, by decide⟩ dX2_kindNamed_5 (by decide) (fun c_5 => ?_) (fun c_5 => ?_)
                      · exact absurd c_5 (by decide)
                      · refine lv_aload_n X.1 X.2.1 dX2_kindNamed_8 rfl (lv_at hl 1 rfl) ?_
                        refine lv_iload_n X.1 X.2.1 dX2_kindNamed_9 rfl (lv_at hl 0 rfl) ?_
                        refine z_pq (run_S (rest := [.ref (x 0)]) X h (c_nameOf5) mi_X2_nameOf ml_X2_97 ⟨Nat.le_of_ble_eq_true rfl, Nat.le_of_ble_eq_true rfl⟩ ⟨rfl, rfl⟩ (Seg.nil _) rfl hl.1 rfl (Nat.le_of_ble_eq_true rfl) ⟨Nat.zero_le _, Nat.zero_le _⟩ dX2_kindNamed_10) ?_
                        refine W.eq (g2 := F0 m 13 ls [.ref (eK E 7), .ref (x 0)]) rfl ?_
                        refine z_pi (run_V (rest := []) X h (c_X2_isWord (i9 := 7) hT (show 7 < 10 by decide) rs s0 s1 s2) mi_X2_isWord ml_X2_40 ⟨Nat.le_of_ble_eq_true rfl, Nat.le_of_ble_eq_true rfl⟩ ⟨rfl, rfl⟩ (Seg.rfl' _) 2 0 rfl rfl rfl rfl hl.1 rfl (Nat.le_of_ble_eq_true rfl) ⟨Nat.zero_le _, Nat.zero_le _⟩ dX2_kindNamed_13) ?_
                        refine z_ifb_eq (tgt := 21) X dX2_kindNamed_16 (by decide) (fun c_16 => ?_) (fun c_16 => ?_)
                        · refine z_iinc (k := 0) (lv' := [(1, .int (iv (6))), (0, .ref (x 0))]) X dX2_kindNamed_21 hl rfl (by decide) rfl (fun ls hl => ?_)
                          refine lv_goto (tgt := 2) X.1 X.2.1 dX2_kindNamed_24 (by decide) ?_
                          refine lv_iload_n X.1 X.2.1 dX2_kindNamed_2 rfl (lv_at hl 0 rfl) ?_
                          refine z_bipush X (by decide) dX2_kindNamed_3 ?_
                          refine z_ic_ge (tgt := 27) X ⟨by decide, by decide⟩ ⟨by decide, by decide⟩ dX2_kindNamed_5 (by decide) (fun c_5 => ?_) (fun c_5 => ?_)
                          · refine z_iconst X dX2_kindNamed_27 ?_
                            exact ret _ _ _ (by unfold knd; (repeat (first | rw [if_pos (by assumption)] | rw [if_neg (by assumption)]))) dX2_kindNamed_28
                          · exact absurd c_5 (by decide)
                        · refine lv_iload_n X.1 X.2.1 dX2_kindNamed_19 rfl (lv_at hl 0 rfl) ?_
                          exact ret _ _ _ (by unfold knd; (repeat (first | rw [if_pos (by assumption)] | rw [if_neg (by assumption)]))) dX2_kindNamed_20
                    · refine lv_iload_n X.1 X.2.1 dX2_kindNamed_19 rfl (lv_at hl 0 rfl) ?_
                      exact ret _ _ _ (by unfold knd; (repeat (first | rw [if_pos (by assumption)] | rw [if_neg (by assumption)]))) dX2_kindNamed_20
                · refine lv_iload_n X.1 X.2.1 dX2_kindNamed_19 rfl (lv_at hl 0 rfl) ?_
                  exact ret _ _ _ (by unfold knd; (repeat (first | rw [if_pos (by assumption)] | rw [if_neg (by assumption)]))) dX2_kindNamed_20
            · refine lv_iload_n X.1 X.2.1 dX2_kindNamed_19 rfl (lv_at hl 0 rfl) ?_
              exact ret _ _ _ (by unfold knd; (repeat (first | rw [if_pos (by assumption)] | rw [if_neg (by assumption)]))) dX2_kindNamed_20
        · refine lv_iload_n X.1 X.2.1 dX2_kindNamed_19 rfl (lv_at hl 0 rfl) ?_
          exact ret _ _ _ (by unfold knd; (repeat (first | rw [if_pos (by assumption)] | rw [if_neg (by assumption)]))) dX2_kindNamed_20
    · refine lv_iload_n X.1 X.2.1 dX2_kindNamed_19 rfl (lv_at hl 0 rfl) ?_
      exact ret _ _ _ (by unfold knd; (repeat (first | rw [if_pos (by assumption)] | rw [if_neg (by assumption)]))) dX2_kindNamed_20
