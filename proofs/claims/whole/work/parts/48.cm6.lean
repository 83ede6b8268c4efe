variable {E : EV} {l : Launch} {a k b t x : Nat → Nat} {q : Nat → Nat → Nat} {fd k1 k2 k3 k4 k5 k6 k7 k8 k9 xs xi xk xc xl xr xb yl yr t1 t2 t3 t4 t5 t6 t7 t8 t9 tp : Nat → Int32} {hk nk ht nt e1 e2 e3 e4 v0 : Int32} {c0 c1 c2 c3 : Nat → Int64} {A K : Es} {ph tq bq sq : Int → Int} {cq : Int → Int → Int64} {ik tn : Int}
set_option maxHeartbeats 4000000 in
theorem c_isU0 {o : Int} (ro : r32 o) : MP E l yX3_isOrIsUnder cX3_isOrIsUnder 4 (some FieldType.boolean) (rmk 2 42) ([]) [.int (iv (0)), .int (iv (o))] (bz (o = 0 ∨ o = 0 ∨ (o = 2 ∧ (0 : Int) = 4) ∨ (o = 1 ∧ (0 : Int) = 5))) := by
  refine goB (by decide) (Nat.le_of_ble_eq_true rfl) ?_
  intro pp e s m below meth c ls args Q ret X h hl
  have hl : lv_has ls 4 [(0, .int (iv (0))), (1, .int (iv (o)))] := hl
  refine lv_iload_n X.1 X.2.1 dX3_isOrIsUnder_0 rfl (lv_at hl 0 rfl) ?_
  refine lv_istore_n (lv' := [(2, .int (iv (0))), (0, .int (iv (0))), (1, .int (iv (o)))]) X.1 X.2.1 dX3_isOrIsUnder_1 rfl hl (by decide) rfl (fun ls hl => ?_)
  refine z_iconst X dX3_isOrIsUnder_2 ?_
  refine lv_istore_n (lv' := [(3, .int (iv (0))), (2, .int (iv (0))), (0, .int (iv (0))), (1, .int (iv (o)))]) X.1 X.2.1 dX3_isOrIsUnder_3 rfl hl (by decide) rfl (fun ls hl => ?_)
  refine lv_iload_n X.1 X.2.1 dX3_isOrIsUnder_4 rfl (lv_at hl 0 rfl) ?_
  refine z_bipush X (by decide) dX3_isOrIsUnder_5 ?_
  refine z_ic_ge (tgt := 36) X ⟨by decide, by decide⟩ ⟨by decide, by decide⟩ dX3_isOrIsUnder_7 (by decide) (fun c_7 => ?_) (fun c_7 => ?_)
  · exact absurd c_7 (by decide)
  · refine lv_iload_n X.1 X.2.1 dX3_isOrIsUnder_10 rfl (lv_at hl 1 rfl) ?_
    refine z_pi (run_N (rest := []) X h (c_X4_isKind ⟨by decide, by decide⟩) mi_X4_isKind h.2.2.2.2.1.2.2.1 ⟨Nat.le_of_ble_eq_true rfl, Nat.le_of_ble_eq_true rfl⟩ ⟨rfl, rfl⟩ (Seg.nil _) rfl hl.1 rfl (Nat.le_of_ble_eq_true rfl) ⟨Nat.zero_le _, Nat.zero_le _⟩ dX3_isOrIsUnder_11) ?_
    refine z_ifb_eq (tgt := 36) X dX3_isOrIsUnder_14 (by decide) (fun c_14 => ?_) (fun c_14 => ?_)
    · exfalso; omega
    · refine lv_iload_n X.1 X.2.1 dX3_isOrIsUnder_17 rfl (lv_at hl 1 rfl) ?_
      refine lv_iload_n X.1 X.2.1 dX3_isOrIsUnder_18 rfl (lv_at hl 3 rfl) ?_
      refine z_ic_ne (tgt := 24) X ⟨by decide, by decide⟩ ro dX3_isOrIsUnder_19 (by decide) (fun c_19 => ?_) (fun c_19 => ?_)
      · refine z_getA X h dX3_isOrIsUnder_24 ?_
        refine lv_iload_n X.1 X.2.1 dX3_isOrIsUnder_27 rfl (lv_at hl 1 rfl) ?_
        refine z_aald X h (by omega) (by omega) dX3_isOrIsUnder_28 ?_
        refine W.eq (g2 := F0 m 29 ls [.int (iv ((-1)))]) (by rw [show aboveZ (0) = (-1) by decide]) ?_
        refine lv_istore_n (lv' := [(2, .int (iv ((-1)))), (3, .int (iv (0))), (0, .int (iv (0))), (1, .int (iv (o)))]) X.1 X.2.1 dX3_isOrIsUnder_29 rfl hl (by decide) rfl (fun ls hl => ?_)
        refine z_iinc (k := 1) (lv' := [(3, .int (iv (0 + 1))), (2, .int (iv ((-1)))), (0, .int (iv (0))), (1, .int (iv (o)))]) X dX3_isOrIsUnder_30 hl rfl (by decide) rfl (fun ls hl => ?_)
        refine lv_goto (tgt := 4) X.1 X.2.1 dX3_isOrIsUnder_33 (by decide) ?_
        refine lv_iload_n X.1 X.2.1 dX3_isOrIsUnder_4 rfl (lv_at hl 0 rfl) ?_
        refine z_bipush X (by decide) dX3_isOrIsUnder_5 ?_
        refine z_ic_ge (tgt := 36) X ⟨by omega, by omega⟩ ⟨by decide, by decide⟩ dX3_isOrIsUnder_7 (by decide) (fun c_7 => ?_) (fun c_7 => ?_)
        · refine z_iconst X dX3_isOrIsUnder_36 ?_
          exact ret _ _ _ ((bz_f (by omega)).symm) dX3_isOrIsUnder_37
        · refine lv_iload_n X.1 X.2.1 dX3_isOrIsUnder_10 rfl (lv_at hl 1 rfl) ?_
          refine z_pi (run_N (rest := []) X h (c_X4_isKind ⟨by decide, by decide⟩) mi_X4_isKind h.2.2.2.2.1.2.2.1 ⟨Nat.le_of_ble_eq_true rfl, Nat.le_of_ble_eq_true rfl⟩ ⟨rfl, rfl⟩ (Seg.nil _) rfl hl.1 rfl (Nat.le_of_ble_eq_true rfl) ⟨Nat.zero_le _, Nat.zero_le _⟩ dX3_isOrIsUnder_11) ?_
          refine z_ifb_eq (tgt := 36) X dX3_isOrIsUnder_14 (by decide) (fun c_14 => ?_) (fun c_14 => ?_)
          · refine z_iconst X dX3_isOrIsUnder_36 ?_
            exact ret _ _ _ ((bz_f (by omega)).symm) dX3_isOrIsUnder_37
          · exfalso; omega
      · refine z_iconst X dX3_isOrIsUnder_22 ?_
        exact ret _ _ _ ((bz_t (by omega)).symm) dX3_isOrIsUnder_23

set_option maxHeartbeats 4000000 in
theorem c_isU1 {o : Int} (ro : r32 o) : MP E l yX3_isOrIsUnder cX3_isOrIsUnder 4 (some FieldType.boolean) (rmk 2 42) ([]) [.int (iv (1)), .int (iv (o))] (bz (o = 0 ∨ o = 1 ∨ (o = 2 ∧ (1 : Int) = 4) ∨ (o = 1 ∧ (1 : Int) = 5))) := by
  refine goB (by decide) (Nat.le_of_ble_eq_true rfl) ?_
  intro pp e s m below meth c ls args Q ret X h hl
  have hl : lv_has ls 4 [(0, .int (iv (1))), (1, .int (iv (o)))] := hl
  refine lv_iload_n X.1 X.2.1 dX3_isOrIsUnder_0 rfl (lv_at hl 0 rfl) ?_
  refine lv_istore_n (lv' := [(2, .int (iv (1))), (0, .int (iv (1))), (1, .int (iv (o)))]) X.1 X.2.1 dX3_isOrIsUnder_1 rfl hl (by decide) rfl (fun ls hl => ?_)
  refine z_iconst X dX3_isOrIsUnder_2 ?_
  refine lv_istore_n (lv' := [(3, .int (iv (0))), (2, .int (iv (1))), (0, .int (iv (1))), (1, .int (iv (o)))]) X.1 X.2.1 dX3_isOrIsUnder_3 rfl hl (by decide) rfl (fun ls hl => ?_)
  refine lv_iload_n X.1 X.2.1 dX3_isOrIsUnder_4 rfl (lv_at hl 0 rfl) ?_
  refine z_bipush X (by decide) dX3_isOrIsUnder_5 ?_
  refine z_ic_ge (tgt := 36) X ⟨by decide, by decide⟩ ⟨by decide, by decide⟩ dX3_isOrIsUnder_7 (by decide) (fun c_7 => ?_) (fun c_7 => ?_)
  · exact absurd c_7 (by decide)
  · refine lv_iload_n X.1 X.2.1 dX3_isOrIsUnder_10 rfl (lv_at hl 1 rfl) ?_
    refine z_pi (run_N (rest := []) X h (c_X4_isKind ⟨by decide, by decide⟩) mi_X4_isKind h.2.2.2.2.1.2.2.1 ⟨Nat.le_of_ble_eq_true rfl, Nat.le_of_ble_eq_true rfl⟩ ⟨rfl, rfl⟩ (Seg.nil _) rfl hl.1 rfl (Nat.le_of_ble_eq_true rfl) ⟨Nat.zero_le _, Nat.zero_le _⟩ dX3_isOrIsUnder_11) ?_
    refine z_ifb_eq (tgt := 36) X dX3_isOrIsUnder_14 (by decide) (fun c_14 => ?_) (fun c_14 => ?_)
    · exfalso; omega
    · refine lv_iload_n X.1 X.2.1 dX3_isOrIsUnder_17 rfl (lv_at hl 1 rfl) ?_
      refine lv_iload_n X.1 X.2.1 dX3_isOrIsUnder_18 rfl (lv_at hl 3 rfl) ?_
      refine z_ic_ne (tgt := 24) X ⟨by decide, by decide⟩ ro dX3_isOrIsUnder_19 (by decide) (fun c_19 => ?_) (fun c_19 => ?_)
      · refine z_getA X h dX3_isOrIsUnder_24 ?_
        refine lv_iload_n X.1 X.2.1 dX3_isOrIsUnder_27 rfl (lv_at hl 1 rfl) ?_
        refine z_aald X h (by omega) (by omega) dX3_isOrIsUnder_28 ?_
        refine W.eq (g2 := F0 m 29 ls [.int (iv (0))]) (by rw [show aboveZ (1) = 0 by decide]) ?_
        refine lv_istore_n (lv' := [(2, .int (iv (0))), (3, .int (iv (0))), (0, .int (iv (1))), (1, .int (iv (o)))]) X.1 X.2.1 dX3_isOrIsUnder_29 rfl hl (by decide) rfl (fun ls hl => ?_)
        refine z_iinc (k := 1) (lv' := [(3, .int (iv (0 + 1))), (2, .int (iv (0))), (0, .int (iv (1))), (1, .int (iv (o)))]) X dX3_isOrIsUnder_30 hl rfl (by decide) rfl (fun ls hl => ?_)
        refine lv_goto (tgt := 4) X.1 X.2.1 dX3_isOrIsUnder_33 (by decide) ?_
        refine lv_iload_n X.1 X.2.1 dX3_isOrIsUnder_4 rfl (lv_at hl 0 rfl) ?_
        refine z_bipush X (by decide) dX3_isOrIsUnder_5 ?_
        refine z_ic_ge (tgt := 36) X ⟨by omega, by omega⟩ ⟨by decide, by decide⟩ dX3_isOrIsUnder_7 (by decide) (fun c_7 => ?_) (fun c_7 => ?_)
        · refine z_iconst X dX3_isOrIsUnder_36 ?_
          exact ret _ _ _ ((bz_f (by omega)).symm) dX3_isOrIsUnder_37
        · refine lv_iload_n X.1 X.2.1 dX3_isOrIsUnder_10 rfl (lv_at hl 1 rfl) ?_
          refine z_pi (run_N (rest := []) X h (c_X4_isKind ⟨by decide, by decide⟩) mi_X4_isKind h.2.2.2.2.1.2.2.1 ⟨Nat.le_of_ble_eq_true rfl, Nat.le_of_ble_eq_true rfl⟩ ⟨rfl, rfl⟩ (Seg.nil _) rfl hl.1 rfl (Nat.le_of_ble_eq_true rfl) ⟨Nat.zero_le _, Nat.zero_le _⟩ dX3_isOrIsUnder_11) ?_
          refine z_ifb_eq (tgt := 36) X dX3_isOrIsUnder_14 (by decide) (fun c_14 => ?_) (fun c_14 => ?_)
          · exfalso; omega
          · refine lv_iload_n X.1 X.2.1 dX3_isOrIsUnder_17 rfl (lv_at hl 1 rfl) ?_
            refine lv_iload_n X.1 X.2.1 dX3_isOrIsUnder_18 rfl (lv_at hl 3 rfl) ?_
            refine z_ic_ne (tgt := 24) X ⟨by decide, by decide⟩ ro dX3_isOrIsUnder_19 (by decide) (fun c_19 => ?_) (fun c_19 => ?_)
            · refine z_getA X h dX3_isOrIsUnder_24 ?_
              refine lv_iload_n X.1 X.2.1 dX3_isOrIsUnder_27 rfl (lv_at hl 1 rfl) ?_
              refine z_aald X h (by omega) (by omega) dX3_isOrIsUnder_28 ?_
              refine W.eq (g2 := F0 m 29 ls [.int (iv ((-1)))]) (by rw [show aboveZ (0) = (-1) by decide]) ?_
              refine lv_istore_n (lv' := [(2, .int (iv ((-1)))), (3, .int (iv (0 + 1))), (0, .int (iv (1))), (1, .int (iv (o)))]) X.1 X.2.1 dX3_isOrIsUnder_29 rfl hl (by decide) rfl (fun ls hl => ?_)
              refine z_iinc (k := 1) (lv' := [(3, .int (iv (0 + 1 + 1))), (2, .int (iv ((-1)))), (0, .int (iv (1))), (1, .int (iv (o)))]) X dX3_isOrIsUnder_30 hl rfl (by decide) rfl (fun ls hl => ?_)
              refine lv_goto (tgt := 4) X.1 X.2.1 dX3_isOrIsUnder_33 (by decide) ?_
              refine lv_iload_n X.1 X.2.1 dX3_isOrIsUnder_4 rfl (lv_at hl 0 rfl) ?_
              refine z_bipush X (by decide) dX3_isOrIsUnder_5 ?_
              refine z_ic_ge (tgt := 36) X ⟨by omega, by omega⟩ ⟨by decide, by decide⟩ dX3_isOrIsUnder_7 (by decide) (fun c_7 => ?_) (fun c_7 => ?_)
              · refine z_iconst X dX3_isOrIsUnder_36 ?_
                exact ret _ _ _ ((bz_f (by omega)).symm) dX3_isOrIsUnder_37
              · refine lv_iload_n X.1 X.2.1 dX3_isOrIsUnder_10 rfl (lv_at hl 1 rfl) ?_
                refine z_pi (run_N (rest := []) X h (c_X4_isKind ⟨by decide, by decide⟩) mi_X4_isKind h.2.2.2.2.1.2.2.1 ⟨Nat.le_of_ble_eq_true rfl, Nat.le_of_ble_eq_true rfl⟩ ⟨rfl, rfl⟩ (Seg.nil _) rfl hl.1 rfl (Nat.le_of_ble_eq_true rfl) ⟨Nat.zero_le _, Nat.zero_le _⟩ dX3_isOrIsUnder_11) ?_
                refine z_ifb_eq (tgt := 36) X dX3_isOrIsUnder_14 (by decide) (fun c_14 => ?_) (fun c_14 => ?_)
                · refine z_iconst X dX3_isOrIsUnder_36 ?_
                  exact ret _ _ _ ((bz_f (by omega)).symm) dX3_isOrIsUnder_37
                · exfalso; omega
            · refine z_iconst X dX3_isOrIsUnder_22 ?_
              exact ret _ _ _ ((bz_t (by omega)).symm) dX3_isOrIsUnder_23
      · refine z_iconst X dX3_isOrIsUnder_22 ?_
        exact ret _ _ _ ((bz_t (by omega)).symm) dX3_isOrIsUnder_23

set_option maxHeartbeats 4000000 in
theorem c_isU2 {o : Int} (ro : r32 o) : MP E l yX3_isOrIsUnder cX3_isOrIsUnder 4 (some FieldType.boolean) (rmk 2 42) ([]) [.int (iv (2)), .int (iv (o))] (bz (o = 0 ∨ o = 2 ∨ (o = 2 ∧ (2 : Int) = 4) ∨ (o = 1 ∧ (2 : Int) = 5))) := by
  refine goB (by decide) (Nat.le_of_ble_eq_true rfl) ?_
  intro pp e s m below meth c ls args Q ret X h hl
  have hl : lv_has ls 4 [(0, .int (iv (2))), (1, .int (iv (o)))] := hl
  refine lv_iload_n X.1 X.2.1 dX3_isOrIsUnder_0 rfl (lv_at hl 0 rfl) ?_
  refine lv_istore_n (lv' := [(2, .int (iv (2))), (0, .int (iv (2))), (1, .int (iv (o)))]) X.1 X.2.1 dX3_isOrIsUnder_1 rfl hl (by decide) rfl (fun ls hl => ?_)
  refine z_iconst X dX3_isOrIsUnder_2 ?_
  refine lv_istore_n (lv' := [(3, .int (iv (0))), (2, .int (iv (2))), (0, .int (iv (2))), (1, .int (iv (o)))]) X.1 X.2.1 dX3_isOrIsUnder_3 rfl hl (by decide) rfl (fun ls hl => ?_)
  refine lv_iload_n X.1 X.2.1 dX3_isOrIsUnder_4 rfl (lv_at hl 0 rfl) ?_
  refine z_bipush X (by decide) dX3_isOrIsUnder_5 ?_
  refine z_ic_ge (tgt := 36) X ⟨by decide, by decide⟩ ⟨by decide, by decide⟩ dX3_isOrIsUnder_7 (by decide) (fun c_7 => ?_) (fun c_7 => ?_)
  · exact absurd c_7 (by decide)
  · refine lv_iload_n X.1 X.2.1 dX3_isOrIsUnder_10 rfl (lv_at hl 1 rfl) ?_
    refine z_pi (run_N (rest := []) X h (c_X4_isKind ⟨by decide, by decide⟩) mi_X4_isKind h.2.2.2.2.1.2.2.1 ⟨Nat.le_of_ble_eq_true rfl, Nat.le_of_ble_eq_true rfl⟩ ⟨rfl, rfl⟩ (Seg.nil _) rfl hl.1 rfl (Nat.le_of_ble_eq_true rfl) ⟨Nat.zero_le _, Nat.zero_le _⟩ dX3_isOrIsUnder_11) ?_
    refine z_ifb_eq (tgt := 36) X dX3_isOrIsUnder_14 (by decide) (fun c_14 => ?_) (fun c_14 => ?_)
    · exfalso; omega
    · refine lv_iload_n X.1 X.2.1 dX3_isOrIsUnder_17 rfl (lv_at hl 1 rfl) ?_
      refine lv_iload_n X.1 X.2.1 dX3_isOrIsUnder_18 rfl (lv_at hl 3 rfl) ?_
      refine z_ic_ne (tgt := 24) X ⟨by decide, by decide⟩ ro dX3_isOrIsUnder_19 (by decide) (fun c_19 => ?_) (fun c_19 => ?_)
      · refine z_getA X h dX3_isOrIsUnder_24 ?_
        refine lv_iload_n X.1 X.2.1 dX3_isOrIsUnder_27 rfl (lv_at hl 1 rfl) ?_
        refine z_aald X h (by omega) (by omega) dX3_isOrIsUnder_28 ?_
        refine W.eq (g2 := F0 m 29 ls [.int (iv (0))]) (by rw [show aboveZ (2) = 0 by decide]) ?_
        refine lv_istore_n (lv' := [(2, .int (iv (0))), (3, .int (iv (0))), (0, .int (iv (2))), (1, .int (iv (o)))]) X.1 X.2.1 dX3_isOrIsUnder_29 rfl hl (by decide) rfl (fun ls hl => ?_)
        refine z_iinc (k := 1) (lv' := [(3, .int (iv (0 + 1))), (2, .int (iv (0))), (0, .int (iv (2))), (1, .int (iv (o)))]) X dX3_isOrIsUnder_30 hl rfl (by decide) rfl (fun ls hl => ?_)
        refine lv_goto (tgt := 4) X.1 X.2.1 dX3_isOrIsUnder_33 (by decide) ?_
        refine lv_iload_n X.1 X.2.1 dX3_isOrIsUnder_4 rfl (lv_at hl 0 rfl) ?_
        refine z_bipush X (by decide) dX3_isOrIsUnder_5 ?_
        refine z_ic_ge (tgt := 36) X ⟨by omega, by omega⟩ ⟨by decide, by decide⟩ dX3_isOrIsUnder_7 (by decide) (fun c_7 => ?_) (fun c_7 => ?_)
        · refine z_iconst X dX3_isOrIsUnder_36 ?_
          exact ret _ _ _ ((bz_f (by omega)).symm) dX3_isOrIsUnder_37
        · refine lv_iload_n X.1 X.2.1 dX3_isOrIsUnder_10 rfl (lv_at hl 1 rfl) ?_
          refine z_pi (run_N (rest := []) X h (c_X4_isKind ⟨by decide, by decide⟩) mi_X4_isKind h.2.2.2.2.1.2.2.1 ⟨Nat.le_of_ble_eq_true rfl, Nat.le_of_ble_eq_true rfl⟩ ⟨rfl, rfl⟩ (Seg.nil _) rfl hl.1 rfl (Nat.le_of_ble_eq_true rfl) ⟨Nat.zero_le _, Nat.zero_le _⟩ dX3_isOrIsUnder_11) ?_
          refine z_ifb_eq (tgt := 36) X dX3_isOrIsUnder_14 (by decide) (fun c_14 => ?_) (fun c_14 => ?_)
          · exfalso; omega
          · refine lv_iload_n X.1 X.2.1 dX3_isOrIsUnder_17 rfl (lv_at hl 1 rfl) ?_
            refine lv_iload_n X.1 X.2.1 dX3_isOrIsUnder_18 rfl (lv_at hl 3 rfl) ?_
            refine z_ic_ne (tgt := 24) X ⟨by decide, by decide⟩ ro dX3_isOrIsUnder_19 (by decide) (fun c_19 => ?_) (fun c_19 => ?_)
            · refine z_getA X h dX3_isOrIsUnder_24 ?_
              refine lv_iload_n X.1 X.2.1 dX3_isOrIsUnder_27 rfl (lv_at hl 1 rfl) ?_
              refine z_aald X h (by omega) (by omega) dX3_isOrIsUnder_28 ?_
              refine W.eq (g2 := F0 m 29 ls [.int (iv ((-1)))]) (by rw [show aboveZ (0) = (-1) by decide]) ?_
              refine lv_istore_n (lv' := [(2, .int (iv ((-1)))), (3, .int (iv (0 + 1))), (0, .int (iv (2))), (1, .int (iv (o)))]) X.1 X.2.1 dX3_isOrIsUnder_29 rfl hl (by decide) rfl (fun ls hl => ?_)
              refine z_iinc (k := 1) (lv' := [(3, .int (iv (0 + 1 + 1))), (2, .int (iv ((-1)))), (0, .int (iv (2))), (1, .int (iv (o)))]) X dX3_isOrIsUnder_30 hl rfl (by decide) rfl (fun ls hl => ?_)
              refine lv_goto (tgt := 4) X.1 X.2.1 dX3_isOrIsUnder_33 (by decide) ?_
              refine lv_iload_n X.1 X.2.1 dX3_isOrIsUnder_4 rfl (lv_at hl 0 rfl) ?_
              refine z_bipush X (by decide) dX3_isOrIsUnder_5 ?_
              refine z_ic_ge (tgt := 36) X ⟨by omega, by omega⟩ ⟨by decide, by decide⟩ dX3_isOrIsUnder_7 (by decide) (fun c_7 => ?_) (fun c_7 => ?_)
              · refine z_iconst X dX3_isOrIsUnder_36 ?_
                exact ret _ _ _ ((bz_f (by omega)).symm) dX3_isOrIsUnder_37
              · refine lv_iload_n X.1 X.2.1 dX3_isOrIsUnder_10 rfl (lv_at hl 1 rfl) ?_
                refine z_pi (run_N (rest := []) X h (c_X4_isKind ⟨by decide, by decide⟩) mi_X4_isKind h.2.2.2.2.1.2.2.1 ⟨Nat.le_of_ble_eq_true rfl, Nat.le_of_ble_eq_true rfl⟩ ⟨rfl, rfl⟩ (Seg.nil _) rfl hl.1 rfl (Nat.le_of_ble_eq_true rfl) ⟨Nat.zero_le _, Nat.zero_le _⟩ dX3_isOrIsUnder_11) ?_
                refine z_ifb_eq (tgt := 36) X dX3_isOrIsUnder_14 (by decide) (fun c_14 => ?_) (fun c_14 => ?_)
                · refine z_iconst X dX3_isOrIsUnder_36 ?_
                  exact ret _ _ _ ((bz_f (by omega)).symm) dX3_isOrIsUnder_37
                · exfalso; omega
            · refine z_iconst X dX3_isOrIsUnder_22 ?_
              exact ret _ _ _ ((bz_t (by omega)).symm) dX3_isOrIsUnder_23
      · refine z_iconst X dX3_isOrIsUnder_22 ?_
        exact ret _ _ _ ((bz_t (by omega)).symm) dX3_isOrIsUnder_23

set_option maxHeartbeats 4000000 in
theorem c_isU3 {o : Int} (ro : r32 o) : MP E l yX3_isOrIsUnder cX3_isOrIsUnder 4 (some FieldType.boolean) (rmk 2 42) ([]) [.int (iv (3)), .int (iv (o))] (bz (o = 0 ∨ o = 3 ∨ (o = 2 ∧ (3 : Int) = 4) ∨ (o = 1 ∧ (3 : Int) = 5))) := by
  refine goB (by decide) (Nat.le_of_ble_eq_true rfl) ?_
  intro pp e s m below meth c ls args Q ret X h hl
  have hl : lv_has ls 4 [(0, .int (iv (3))), (1, .int (iv (o)))] := hl
  refine lv_iload_n X.1 X.2.1 dX3_isOrIsUnder_0 rfl (lv_at hl 0 rfl) ?_
  refine lv_istore_n (lv' := [(2, .int (iv (3))), (0, .int (iv (3))), (1, .int (iv (o)))]) X.1 X.2.1 dX3_isOrIsUnder_1 rfl hl (by decide) rfl (fun ls hl => ?_)
  refine z_iconst X dX3_isOrIsUnder_2 ?_
  refine lv_istore_n (lv' := [(3, .int (iv (0))), (2, .int (iv (3))), (0, .int (iv (3))), (1, .int (iv (o)))]) X.1 X.2.1 dX3_isOrIsUnder_3 rfl hl (by decide) rfl (fun ls hl => ?_)
  refine lv_iload_n X.1 X.2.1 dX3_isOrIsUnder_4 rfl (lv_at hl 0 rfl) ?_
  refine z_bipush X (by decide) dX3_isOrIsUnder_5 ?_
  refine z_ic_ge (tgt := 36) X ⟨by decide, by decide⟩ ⟨by decide, by decide⟩ dX3_isOrIsUnder_7 (by decide) (fun c_7 => ?_) (fun c_7 => ?_)
  · exact absurd c_7 (by decide)
  · refine lv_iload_n X.1 X.2.1 dX3_isOrIsUnder_10 rfl (lv_at hl 1 rfl) ?_
    refine z_pi (run_N (rest := []) X h (c_X4_isKind ⟨by decide, by decide⟩) mi_X4_isKind h.2.2.2.2.1.2.2.1 ⟨Nat.le_of_ble_eq_true rfl, Nat.le_of_ble_eq_true rfl⟩ ⟨rfl, rfl⟩ (Seg.nil _) rfl hl.1 rfl (Nat.le_of_ble_eq_true rfl) ⟨Nat.zero_le _, Nat.zero_le _⟩ dX3_isOrIsUnder_11) ?_
    refine z_ifb_eq (tgt := 36) X dX3_isOrIsUnder_14 (by decide) (fun c_14 => ?_) (fun c_14 => ?_)
    · exfalso; omega
    · refine lv_iload_n X.1 X.2.1 dX3_isOrIsUnder_17 rfl (lv_at hl 1 rfl) ?_
      refine lv_iload_n X.1 X.2.1 dX3_isOrIsUnder_18 rfl (lv_at hl 3 rfl) ?_
      refine z_ic_ne (tgt := 24) X ⟨by decide, by decide⟩ ro dX3_isOrIsUnder_19 (by decide) (fun c_19 => ?_) (fun c_19 => ?_)
      · refine z_getA X h dX3_isOrIsUnder_24 ?_
        refine lv_iload_n X.1 X.2.1 dX3_isOrIsUnder_27 rfl (lv_at hl 1 rfl) ?_
        refine z_aald X h (by omega) (by omega) dX3_isOrIsUnder_28 ?_
        refine W.eq (g2 := F0 m 29 ls [.int (iv (0))]) (by rw [show aboveZ (3) = 0 by decide]) ?_
        refine lv_istore_n (lv' := [(2, .int (iv (0))), (3, .int (iv (0))), (0, .int (iv (3))), (1, .int (iv (o)))]) X.1 X.2.1 dX3_isOrIsUnder_29 rfl hl (by decide) rfl (fun ls hl => ?_)
        refine z_iinc (k := 1) (lv' := [(3, .int (iv (0 + 1))), (2, .int (iv (0))), (0, .int (iv (3))), (1, .int (iv (o)))]) X dX3_isOrIsUnder_30 hl rfl (by decide) rfl (fun ls hl => ?_)
        refine lv_goto (tgt := 4) X.1 X.2.1 dX3_isOrIsUnder_33 (by decide) ?_
        refine lv_iload_n X.1 X.2.1 dX3_isOrIsUnder_4 rfl (lv_at hl 0 rfl) ?_
        refine z_bipush X (by decide) dX3_isOrIsUnder_5 ?_
        refine z_ic_ge (tgt := 36) X ⟨by omega, by omega⟩ ⟨by decide, by decide⟩ dX3_isOrIsUnder_7 (by decide) (fun c_7 => ?_) (fun c_7 => ?_)
        · refine z_iconst X dX3_isOrIsUnder_36 ?_
          exact ret _ _ _ ((bz_f (by omega)).symm) dX3_isOrIsUnder_37
        · refine lv_iload_n X.1 X.2.1 dX3_isOrIsUnder_10 rfl (lv_at hl 1 rfl) ?_
          refine z_pi (run_N (rest := []) X h (c_X4_isKind ⟨by decide, by decide⟩) mi_X4_isKind h.2.2.2.2.1.2.2.1 ⟨Nat.le_of_ble_eq_true rfl, Nat.le_of_ble_eq_true rfl⟩ ⟨rfl, rfl⟩ (Seg.nil _) rfl hl.1 rfl (Nat.le_of_ble_eq_true rfl) ⟨Nat.zero_le _, Nat.zero_le _⟩ dX3_isOrIsUnder_11) ?_
          refine z_ifb_eq (tgt := 36) X dX3_isOrIsUnder_14 (by decide) (fun c_14 => ?_) (fun c_14 => ?_)
          · exfalso; omega
          · refine lv_iload_n X.1 X.2.1 dX3_isOrIsUnder_17 rfl (lv_at hl 1 rfl) ?_
            refine lv_iload_n X.1 X.2.1 dX3_isOrIsUnder_18 rfl (lv_at hl 3 rfl) ?_
            refine z_ic_ne (tgt := 24) X ⟨by decide, by decide⟩ ro dX3_isOrIsUnder_19 (by decide) (fun c_19 => ?_) (fun c_19 => ?_)
            · refine z_getA X h dX3_isOrIsUnder_24 ?_
              refine lv_iload_n X.1 X.2.1 dX3_isOrIsUnder_27 rfl (lv_at hl 1 rfl) ?_
              refine z_aald X h (by omega) (by omega) dX3_isOrIsUnder_28 ?_
              refine W.eq (g2 := F0 m 29 ls [.int (iv ((-1)))]) (by rw [show aboveZ (0) = (-1) by decide]) ?_
              refine lv_istore_n (lv' := [(2, .int (iv ((-1)))), (3, .int (iv (0 + 1))), (0, .int (iv (3))), (1, .int (iv (o)))]) X.1 X.2.1 dX3_isOrIsUnder_29 rfl hl (by decide) rfl (fun ls hl => ?_)
              refine z_iinc (k := 1) (lv' := [(3, .int (iv (0 + 1 + 1))), (2, .int (iv ((-1)))), (0, .int (iv (3))), (1, .int (iv (o)))]) X dX3_isOrIsUnder_30 hl rfl (by decide) rfl (fun ls hl => ?_)
              refine lv_goto (tgt := 4) X.1 X.2.1 dX3_isOrIsUnder_33 (by decide) ?_
              refine lv_iload_n X.1 X.2.1 dX3_isOrIsUnder_4 rfl (lv_at hl 0 rfl) ?_
              refine z_bipush X (by decide) dX3_isOrIsUnder_5 ?_
              refine z_ic_ge (tgt := 36) X ⟨by omega, by omega⟩ ⟨by decide, by decide⟩ dX3_isOrIsUnder_7 (by decide) (fun c_7 => ?_) (fun c_7 => ?_)
              · refine z_iconst X dX3_isOrIsUnder_36 ?_
                exact ret _ _ _ ((bz_f (by omega)).symm) dX3_isOrIsUnder_37
              · refine lv_iload_n X.1 X.2.1 dX3_isOrIsUnder_10 rfl (lv_at hl 1 rfl) ?_
                refine z_pi (run_N (rest := []) X h (c_X4_isKind ⟨by decide, by decide⟩) mi_X4_isKind h.2.2.2.2.1.2.2.1 ⟨Nat.le_of_ble_eq_true rfl, Nat.le_of_ble_eq_true rfl⟩ ⟨rfl, rfl⟩ (Seg.nil _) rfl hl.1 rfl (Nat.le_of_ble_eq_true rfl) ⟨Nat.zero_le _, Nat.zero_le _⟩ dX3_isOrIsUnder_11) ?_
                refine z_ifb_eq (tgt := 36) X dX3_isOrIsUnder_14 (by decide) (fun c_14 => ?_) (fun c_14 => ?_)
                · refine z_iconst X dX3_isOrIsUnder_36 ?_
                  exact ret _ _ _ ((bz_f (by omega)).symm) dX3_isOrIsUnder_37
                · exfalso; omega
            · refine z_iconst X dX3_isOrIsUnder_22 ?_
              exact ret _ _ _ ((bz_t (by omega)).symm) dX3_isOrIsUnder_23
      · refine z_iconst X dX3_isOrIsUnder_22 ?_
        exact ret _ _ _ ((bz_t (by omega)).symm) dX3_isOrIsUnder_23

set_option maxHeartbeats 4000000 in
theorem c_isU4 {o : Int} (ro : r32 o) : MP E l yX3_isOrIsUnder cX3_isOrIsUnder 4 (some FieldType.boolean) (rmk 2 42) ([]) [.int (iv (4)), .int (iv (o))] (bz (o = 0 ∨ o = 4 ∨ (o = 2 ∧ (4 : Int) = 4) ∨ (o = 1 ∧ (4 : Int) = 5))) := by
  refine goB (by decide) (Nat.le_of_ble_eq_true rfl) ?_
  intro pp e s m below meth c ls args Q ret X h hl
  have hl : lv_has ls 4 [(0, .int (iv (4))), (1, .int (iv (o)))] := hl
  refine lv_iload_n X.1 X.2.1 dX3_isOrIsUnder_0 rfl (lv_at hl 0 rfl) ?_
  refine lv_istore_n (lv' := [(2, .int (iv (4))), (0, .int (iv (4))), (1, .int (iv (o)))]) X.1 X.2.1 dX3_isOrIsUnder_1 rfl hl (by decide) rfl (fun ls hl => ?_)
  refine z_iconst X dX3_isOrIsUnder_2 ?_
  refine lv_istore_n (lv' := [(3, .int (iv (0))), (2, .int (iv (4))), (0, .int (iv (4))), (1, .int (iv (o)))]) X.1 X.2.1 dX3_isOrIsUnder_3 rfl hl (by decide) rfl (fun ls hl => ?_)
  refine lv_iload_n X.1 X.2.1 dX3_isOrIsUnder_4 rfl (lv_at hl 0 rfl) ?_
  refine z_bipush X (by decide) dX3_isOrIsUnder_5 ?_
  refine z_ic_ge (tgt := 36) X ⟨by decide, by decide⟩ ⟨by decide, by decide⟩ dX3_isOrIsUnder_7 (by decide) (fun c_7 => ?_) (fun c_7 => ?_)
  · exact absurd c_7 (by decide)
  · refine lv_iload_n X.1 X.2.1 dX3_isOrIsUnder_10 rfl (lv_at hl 1 rfl) ?_
    refine z_pi (run_N (rest := []) X h (c_X4_isKind ⟨by decide, by decide⟩) mi_X4_isKind h.2.2.2.2.1.2.2.1 ⟨Nat.le_of_ble_eq_true rfl, Nat.le_of_ble_eq_true rfl⟩ ⟨rfl, rfl⟩ (Seg.nil _) rfl hl.1 rfl (Nat.le_of_ble_eq_true rfl) ⟨Nat.zero_le _, Nat.zero_le _⟩ dX3_isOrIsUnder_11) ?_
    refine z_ifb_eq (tgt := 36) X dX3_isOrIsUnder_14 (by decide) (fun c_14 => ?_) (fun c_14 => ?_)
    · exfalso; omega
    · refine lv_iload_n X.1 X.2.1 dX3_isOrIsUnder_17 rfl (lv_at hl 1 rfl) ?_
      refine lv_iload_n X.1 X.2.1 dX3_isOrIsUnder_18 rfl (lv_at hl 3 rfl) ?_
      refine z_ic_ne (tgt := 24) X ⟨by decide, by decide⟩ ro dX3_isOrIsUnder_19 (by decide) (fun c_19 => ?_) (fun c_19 => ?_)
      · refine z_getA X h dX3_isOrIsUnder_24 ?_
        refine lv_iload_n X.1 X.2.1 dX3_isOrIsUnder_27 rfl (lv_at hl 1 rfl) ?_
        refine z_aald X h (by omega) (by omega) dX3_isOrIsUnder_28 ?_
        refine W.eq (g2 := F0 m 29 ls [.int (iv (2))]) (by rw [show aboveZ (4) = 2 by decide]) ?_
        refine lv_istore_n (lv' := [(2, .int (iv (2))), (3, .int (iv (0))), (0, .int (iv (4))), (1, .int (iv (o)))]) X.1 X.2.1 dX3_isOrIsUnder_29 rfl hl (by decide) rfl (fun ls hl => ?_)
        refine z_iinc (k := 1) (lv' := [(3, .int (iv (0 + 1))), (2, .int (iv (2))), (0, .int (iv (4))), (1, .int (iv (o)))]) X dX3_isOrIsUnder_30 hl rfl (by decide) rfl (fun ls hl => ?_)
        refine lv_goto (tgt := 4) X.1 X.2.1 dX3_isOrIsUnder_33 (by decide) ?_
        refine lv_iload_n X.1 X.2.1 dX3_isOrIsUnder_4 rfl (lv_at hl 0 rfl) ?_
        refine z_bipush X (by decide) dX3_isOrIsUnder_5 ?_
        refine z_ic_ge (tgt := 36) X ⟨by omega, by omega⟩ ⟨by decide, by decide⟩ dX3_isOrIsUnder_7 (by decide) (fun c_7 => ?_) (fun c_7 => ?_)
        · refine z_iconst X dX3_isOrIsUnder_36 ?_
          exact ret _ _ _ ((bz_f (by omega)).symm) dX3_isOrIsUnder_37
        · refine lv_iload_n X.1 X.2.1 dX3_isOrIsUnder_10 rfl (lv_at hl 1 rfl) ?_
          refine z_pi (run_N (rest := []) X h (c_X4_isKind ⟨by decide, by decide⟩) mi_X4_isKind h.2.2.2.2.1.2.2.1 ⟨Nat.le_of_ble_eq_true rfl, Nat.le_of_ble_eq_true rfl⟩ ⟨rfl, rfl⟩ (Seg.nil _) rfl hl.1 rfl (Nat.le_of_ble_eq_true rfl) ⟨Nat.zero_le _, Nat.zero_le _⟩ dX3_isOrIsUnder_11) ?_
          refine z_ifb_eq (tgt := 36) X dX3_isOrIsUnder_14 (by decide) (fun c_14 => ?_) (fun c_14 => ?_)
          · exfalso; omega
          · refine lv_iload_n X.1 X.2.1 dX3_isOrIsUnder_17 rfl (lv_at hl 1 rfl) ?_
            refine lv_iload_n X.1 X.2.1 dX3_isOrIsUnder_18 rfl (lv_at hl 3 rfl) ?_
            refine z_ic_ne (tgt := 24) X ⟨by decide, by decide⟩ ro dX3_isOrIsUnder_19 (by decide) (fun c_19 => ?_) (fun c_19 => ?_)
            · refine z_getA X h dX3_isOrIsUnder_24 ?_
              refine lv_iload_n X.1 X.2.1 dX3_isOrIsUnder_27 rfl (lv_at hl 1 rfl) ?_
              refine z_aald X h (by omega) (by omega) dX3_isOrIsUnder_28 ?_
              refine W.eq (g2 := F0 m 29 ls [.int (iv (0))]) (by rw [show aboveZ (2) = 0 by decide]) ?_
              refine lv_istore_n (lv' := [(2, .int (iv (0))), (3, .int (iv (0 + 1))), (0, .int (iv (4))), (1, .int (iv (o)))]) X.1 X.2.1 dX3_isOrIsUnder_29 rfl hl (by decide) rfl (fun ls hl => ?_)
              refine z_iinc (k := 1) (lv' := [(3, .int (iv (0 + 1 + 1))), (2, .int (iv (0))), (0, .int (iv (4))), (1, .int (iv (o)))]) X dX3_isOrIsUnder_30 hl rfl (by decide) rfl (fun ls hl => ?_)
              refine lv_goto (tgt := 4) X.1 X.2.1 dX3_isOrIsUnder_33 (by decide) ?_
              refine lv_iload_n X.1 X.2.1 dX3_isOrIsUnder_4 rfl (lv_at hl 0 rfl) ?_
              refine z_bipush X (by decide) dX3_isOrIsUnder_5 ?_
              refine z_ic_ge (tgt := 36) X ⟨by omega, by omega⟩ ⟨by decide, by decide⟩ dX3_isOrIsUnder_7 (by decide) (fun c_7 => ?_) (fun c_7 => ?_)
              · refine z_iconst X dX3_isOrIsUnder_36 ?_
                exact ret _ _ _ ((bz_f (by omega)).symm) dX3_isOrIsUnder_37
              · refine lv_iload_n X.1 X.2.1 dX3_isOrIsUnder_10 rfl (lv_at hl 1 rfl) ?_
                refine z_pi (run_N (rest := []) X h (c_X4_isKind ⟨by decide, by decide⟩) mi_X4_isKind h.2.2.2.2.1.2.2.1 ⟨Nat.le_of_ble_eq_true rfl, Nat.le_of_ble_eq_true rfl⟩ ⟨rfl, rfl⟩ (Seg.nil _) rfl hl.1 rfl (Nat.le_of_ble_eq_true rfl) ⟨Nat.zero_le _, Nat.zero_le _⟩ dX3_isOrIsUnder_11) ?_
                refine z_ifb_eq (tgt := 36) X dX3_isOrIsUnder_14 (by decide) (fun c_14 => ?_) (fun c_14 => ?_)
                · exfalso; omega
                · refine lv_iload_n X.1 X.2.1 dX3_isOrIsUnder_17 rfl (lv_at hl 1 rfl) ?_
                  refine lv_iload_n X.1 X.2.1 dX3_isOrIsUnder_18 rfl (lv_at hl 3 rfl) ?_
                  refine z_ic_ne (tgt := 24) X ⟨by decide, by decide⟩ ro dX3_isOrIsUnder_19 (by decide) (fun c_19 => ?_) (fun c_19 => ?_)
                  · refine z_getA X h dX3_isOrIsUnder_24 ?_
                    refine lv_iload_n X.1 X.2.1 dX3_isOrIsUnder_27 rfl (lv_at hl 1 rfl) ?_
                    refine z_aald X h (by omega) (by omega) dX3_isOrIsUnder_28 ?_
                    refine W.eq (g2 := F0 m 29 ls [.int (iv ((-1)))]) (by rw [show aboveZ (0) = (-1) by decide]) ?_
                    refine lv_istore_n (lv' := [(2, .int (iv ((-1)))), (3, .int (iv (0 + 1 + 1))), (0, .int (iv (4))), (1, .int (iv (o)))]) X.1 X.2.1 dX3_isOrIsUnder_29 rfl hl (by decide) rfl (fun ls hl => ?_)
                    refine z_iinc (k := 1) (lv' := [(3, .int (iv (0 + 1 + 1 + 1))), (2, .int (iv ((-1)))), (0, .int (iv (4))), (1, .int (iv (o)))]) X dX3_isOrIsUnder_30 hl rfl (by decide) rfl (fun ls hl => ?_)
                    refine lv_goto (tgt := 4) X.1 X.2.1 dX3_isOrIsUnder_33 (by decide) ?_
                    refine lv_iload_n X.1 X.2.1 dX3_isOrIsUnder_4 rfl (lv_at hl 0 rfl) ?_
                    refine z_bipush X (by decide) dX3_isOrIsUnder_5 ?_
                    refine z_ic_ge (tgt := 36) X ⟨by omega, by omega⟩ ⟨by decide, by decide⟩ dX3_isOrIsUnder_7 (by decide) (fun c_7 => ?_) (fun c_7 => ?_)
                    · refine z_iconst X dX3_isOrIsUnder_36 ?_
                      exact ret _ _ _ ((bz_f (by omega)).symm) dX3_isOrIsUnder_37
                    · refine lv_iload_n X.1 X.2.1 dX3_isOrIsUnder_10 rfl (lv_at hl 1 rfl) ?_
                      refine z_pi (run_N (rest := []) X h (c_X4_isKind ⟨by decide, by decide⟩) mi_X4_isKind h.2.2.2.2.1.2.2.1 ⟨Nat.le_of_ble_eq_true rfl, Nat.le_of_ble_eq_true rfl⟩ ⟨rfl, rfl⟩ (Seg.nil _) rfl hl.1 rfl (Nat.le_of_ble_eq_true rfl) ⟨Nat.zero_le _, Nat.zero_le _⟩ dX3_isOrIsUnder_11) ?_
                      refine z_ifb_eq (tgt := 36) X dX3_isOrIsUnder_14 (by decide) (fun c_14 => ?_) (fun c_14 => ?_)
                      · refine z_iconst X dX3_isOrIsUnder_36 ?_
                        exact ret _ _ _ ((bz_f (by omega)).symm) dX3_isOrIsUnder_37
                      · exfalso; omega
                  · refine z_iconst X dX3_isOrIsUnder_22 ?_
                    exact ret _ _ _ ((bz_t (by omega)).symm) dX3_isOrIsUnder_23
            · refine z_iconst X dX3_isOrIsUnder_22 ?_
              exact ret _ _ _ ((bz_t (by omega)).symm) dX3_isOrIsUnder_23
      · refine z_iconst X dX3_isOrIsUnder_22 ?_
        exact ret _ _ _ ((bz_t (by omega)).symm) dX3_isOrIsUnder_23

set_option maxHeartbeats 4000000 in
theorem c_isU5 {o : Int} (ro : r32 o) : MP E l yX3_isOrIsUnder cX3_isOrIsUnder 4 (some FieldType.boolean) (rmk 2 42) ([]) [.int (iv (5)), .int (iv (o))] (bz (o = 0 ∨ o = 5 ∨ (o = 2 ∧ (5 : Int) = 4) ∨ (o = 1 ∧ (5 : Int) = 5))) := by
  refine goB (by decide) (Nat.le_of_ble_eq_true rfl) ?_
  intro pp e s m below meth c ls args Q ret X h hl
  have hl : lv_has ls 4 [(0, .int (iv (5))), (1, .int (iv (o)))] := hl
  refine lv_iload_n X.1 X.2.1 dX3_isOrIsUnder_0 rfl (lv_at hl 0 rfl) ?_
  refine lv_istore_n (lv' := [(2, .int (iv (5))), (0, .int (iv (5))), (1, .int (iv (o)))]) X.1 X.2.1 dX3_isOrIsUnder_1 rfl hl (by decide) rfl (fun ls hl => ?_)
  refine z_iconst X dX3_isOrIsUnder_2 ?_
  refine lv_istore_n (lv' := [(3, .int (iv (0))), (2, .int (iv (5))), (0, .int (iv (5))), (1, .int (iv (o)))]) X.1 X.2.1 dX3_isOrIsUnder_3 rfl hl (by decide) rfl (fun ls hl => ?_)
  refine lv_iload_n X.1 X.2.1 dX3_isOrIsUnder_4 rfl (lv_at hl 0 rfl) ?_
  refine z_bipush X (by decide) dX3_isOrIsUnder_5 ?_
  refine z_ic_ge (tgt := 36) X ⟨by decide, by decide⟩ ⟨by decide, by decide⟩ dX3_isOrIsUnder_7 (by decide) (fun c_7 => ?_) (fun c_7 => ?_)
  · exact absurd c_7 (by decide)
  · refine lv_iload_n X.1 X.2.1 dX3_isOrIsUnder_10 rfl (lv_at hl 1 rfl) ?_
    refine z_pi (run_N (rest := []) X h (c_X4_isKind ⟨by decide, by decide⟩) mi_X4_isKind h.2.2.2.2.1.2.2.1 ⟨Nat.le_of_ble_eq_true rfl, Nat.le_of_ble_eq_true rfl⟩ ⟨rfl, rfl⟩ (Seg.nil _) rfl hl.1 rfl (Nat.le_of_ble_eq_true rfl) ⟨Nat.zero_le _, Nat.zero_le _⟩ dX3_isOrIsUnder_11) ?_
    refine z_ifb_eq (tgt := 36) X dX3_isOrIsUnder_14 (by decide) (fun c_14 => ?_) (fun c_14 => ?_)
    · exfalso; omega
    · refine lv_iload_n X.1 X.2.1 dX3_isOrIsUnder_17 rfl (lv_at hl 1 rfl) ?_
      refine lv_iload_n X.1 X.2.1 dX3_isOrIsUnder_18 rfl (lv_at hl 3 rfl) ?_
      refine z_ic_ne (tgt := 24) X ⟨by decide, by decide⟩ ro dX3_isOrIsUnder_19 (by decide) (fun c_19 => ?_) (fun c_19 => ?_)
      · refine z_getA X h dX3_isOrIsUnder_24 ?_
        refine lv_iload_n X.1 X.2.1 dX3_isOrIsUnder_27 rfl (lv_at hl 1 rfl) ?_
        refine z_aald X h (by omega) (by omega) dX3_isOrIsUnder_28 ?_
        refine W.eq (g2 := F0 m 29 ls [.int (iv (1))]) (by rw [show aboveZ (5) = 1 by decide]) ?_
        refine lv_istore_n (lv' := [(2, .int (iv (1))), (3, .int (iv (0))), (0, .int (iv (5))), (1, .int (iv (o)))]) X.1 X.2.1 dX3_isOrIsUnder_29 rfl hl (by decide) rfl (fun ls hl => ?_)
        refine z_iinc (k := 1) (lv' := [(3, .int (iv (0 + 1))), (2, .int (iv (1))), (0, .int (iv (5))), (1, .int (iv (o)))]) X dX3_isOrIsUnder_30 hl rfl (by decide) rfl (fun ls hl => ?_)
        refine lv_goto (tgt := 4) X.1 X.2.1 dX3_isOrIsUnder_33 (by decide) ?_
        refine lv_iload_n X.1 X.2.1 dX3_isOrIsUnder_4 rfl (lv_at hl 0 rfl) ?_
        refine z_bipush X (by decide) dX3_isOrIsUnder_5 ?_
        refine z_ic_ge (tgt := 36) X ⟨by omega, by omega⟩ ⟨by decide, by decide⟩ dX3_isOrIsUnder_7 (by decide) (fun c_7 => ?_) (fun c_7 => ?_)
        · refine z_iconst X dX3_isOrIsUnder_36 ?_
          exact ret _ _ _ ((bz_f (by omega)).symm) dX3_isOrIsUnder_37
        · refine lv_iload_n X.1 X.2.1 dX3_isOrIsUnder_10 rfl (lv_at hl 1 rfl) ?_
          refine z_pi (run_N (rest := []) X h (c_X4_isKind ⟨by decide, by decide⟩) mi_X4_isKind h.2.2.2.2.1.2.2.1 ⟨Nat.le_of_ble_eq_true rfl, Nat.le_of_ble_eq_true rfl⟩ ⟨rfl, rfl⟩ (Seg.nil _) rfl hl.1 rfl (Nat.le_of_ble_eq_true rfl) ⟨Nat.zero_le _, Nat.zero_le _⟩ dX3_isOrIsUnder_11) ?_
          refine z_ifb_eq (tgt := 36) X dX3_isOrIsUnder_14 (by decide) (fun c_14 => ?_) (fun c_14 => ?_)
          · exfalso; omega
          · refine lv_iload_n X.1 X.2.1 dX3_isOrIsUnder_17 rfl (lv_at hl 1 rfl) ?_
            refine lv_iload_n X.1 X.2.1 dX3_isOrIsUnder_18 rfl (lv_at hl 3 rfl) ?_
            refine z_ic_ne (tgt := 24) X ⟨by decide, by decide⟩ ro dX3_isOrIsUnder_19 (by decide) (fun c_19 => ?_) (fun c_19 => ?_)
            · refine z_getA X h dX3_isOrIsUnder_24 ?_
              refine lv_iload_n X.1 X.2.1 dX3_isOrIsUnder_27 rfl (lv_at hl 1 rfl) ?_
              refine z_aald X h (by omega) (by omega) dX3_isOrIsUnder_28 ?_
              refine W.eq (g2 := F0 m 29 ls [.int (iv (0))]) (by rw [show aboveZ (1) = 0 by decide]) ?_
              refine lv_istore_n (lv' := [(2, .int (iv (0))), (3, .int (iv (0 + 1))), (0, .int (iv (5))), (1, .int (iv (o)))]) X.1 X.2.1 dX3_isOrIsUnder_29 rfl hl (by decide) rfl (fun ls hl => ?_)
              refine z_iinc (k := 1) (lv' := [(3, .int (iv (0 + 1 + 1))), (2, .int (iv (0))), (0, .int (iv (5))), (1, .int (iv (o)))]) X dX3_isOrIsUnder_30 hl rfl (by decide) rfl (fun ls hl => ?_)
              refine lv_goto (tgt := 4) X.1 X.2.1 dX3_isOrIsUnder_33 (by decide) ?_
              refine lv_iload_n X.1 X.2.1 dX3_isOrIsUnder_4 rfl (lv_at hl 0 rfl) ?_
              refine z_bipush X (by decide) dX3_isOrIsUnder_5 ?_
              refine z_ic_ge (tgt := 36) X ⟨by omega, by omega⟩ ⟨by decide, by decide⟩ dX3_isOrIsUnder_7 (by decide) (fun c_7 => ?_) (fun c_7 => ?_)
              · refine z_iconst X dX3_isOrIsUnder_36 ?_
                exact ret _ _ _ ((bz_f (by omega)).symm) dX3_isOrIsUnder_37
              · refine lv_iload_n X.1 X.2.1 dX3_isOrIsUnder_10 rfl (lv_at hl 1 rfl) ?_
                refine z_pi (run_N (rest := []) X h (c_X4_isKind ⟨by decide, by decide⟩) mi_X4_isKind h.2.2.2.2.1.2.2.1 ⟨Nat.le_of_ble_eq_true rfl, Nat.le_of_ble_eq_true rfl⟩ ⟨rfl, rfl⟩ (Seg.nil _) rfl hl.1 rfl (Nat.le_of_ble_eq_true rfl) ⟨Nat.zero_le _, Nat.zero_le _⟩ dX3_isOrIsUnder_11) ?_
                refine z_ifb_eq (tgt := 36) X dX3_isOrIsUnder_14 (by decide) (fun c_14 => ?_) (fun c_14 => ?_)
                · exfalso; omega
                · refine lv_iload_n X.1 X.2.1 dX3_isOrIsUnder_17 rfl (lv_at hl 1 rfl) ?_
                  refine lv_iload_n X.1 X.2.1 dX3_isOrIsUnder_18 rfl (lv_at hl 3 rfl) ?_
                  refine z_ic_ne (tgt := 24) X ⟨by decide, by decide⟩ ro dX3_isOrIsUnder_19 (by decide) (fun c_19 => ?_) (fun c_19 => ?_)
                  · refine z_getA X h dX3_isOrIsUnder_24 ?_
                    refine lv_iload_n X.1 X.2.1 dX3_isOrIsUnder_27 rfl (lv_at hl 1 rfl) ?_
                    refine z_aald X h (by omega) (by omega) dX3_isOrIsUnder_28 ?_
                    refine W.eq (g2 := F0 m 29 ls [.int (iv ((-1)))]) (by rw [show aboveZ (0) = (-1) by decide]) ?_
                    refine lv_istore_n (lv' := [(2, .int (iv ((-1)))), (3, .int (iv (0 + 1 + 1))), (0, .int (iv (5))), (1, .int (iv (o)))]) X.1 X.2.1 dX3_isOrIsUnder_29 rfl hl (by decide) rfl (fun ls hl => ?_)
                    refine z_iinc (k := 1) (lv' := [(3, .int (iv (0 + 1 + 1 + 1))), (2, .int (iv ((-1)))), (0, .int (iv (5))), (1, .int (iv (o)))]) X dX3_isOrIsUnder_30 hl rfl (by decide) rfl (fun ls hl => ?_)
                    refine lv_goto (tgt := 4) X.1 X.2.1 dX3_isOrIsUnder_33 (by decide) ?_
                    refine lv_iload_n X.1 X.2.1 dX3_isOrIsUnder_4 rfl (lv_at hl 0 rfl) ?_
                    refine z_bipush X (by decide) dX3_isOrIsUnder_5 ?_
                    refine z_ic_ge (tgt := 36) X ⟨by omega, by omega⟩ ⟨by decide, by decide⟩ dX3_isOrIsUnder_7 (by decide) (fun c_7 => ?_) (fun c_7 => ?_)
                    · refine z_iconst X dX3_isOrIsUnder_36 ?_
                      exact ret _ _ _ ((bz_f (by omega)).symm) dX3_isOrIsUnder_37
                    · refine lv_iload_n X.1 X.2.1 dX3_isOrIsUnder_10 rfl (lv_at hl 1 rfl) ?_
                      refine z_pi (run_N (rest := []) X h (c_X4_isKind ⟨by decide, by decide⟩) mi_X4_isKind h.2.2.2.2.1.2.2.1 ⟨Nat.le_of_ble_eq_true rfl, Nat.le_of_ble_eq_true rfl⟩ ⟨rfl, rfl⟩ (Seg.nil _) rfl hl.1 rfl (Nat.le_of_ble_eq_true rfl) ⟨Nat.zero_le _, Nat.zero_le _⟩ dX3_isOrIsUnder_11) ?_
                      refine z_ifb_eq (tgt := 36) X dX3_isOrIsUnder_14 (by decide) (fun c_14 => ?_) (fun c_14 => ?_)
                      · refine z_iconst X dX3_isOrIsUnder_36 ?_
                        exact ret _ _ _ ((bz_f (by omega)).symm) dX3_isOrIsUnder_37
                      · exfalso; omega
                  · refine z_iconst X dX3_isOrIsUnder_22 ?_
                    exact ret _ _ _ ((bz_t (by omega)).symm) dX3_isOrIsUnder_23
            · refine z_iconst X dX3_isOrIsUnder_22 ?_
              exact ret _ _ _ ((bz_t (by omega)).symm) dX3_isOrIsUnder_23
      · refine z_iconst X dX3_isOrIsUnder_22 ?_
        exact ret _ _ _ ((bz_t (by omega)).symm) dX3_isOrIsUnder_23

theorem c_isU {c o : Int} (c0 : 0 ≤ c) (c1 : c ≤ 5) (ro : r32 o) : MP E l yX3_isOrIsUnder cX3_isOrIsUnder 4 (some FieldType.boolean) (rmk 2 42) ([]) [.int (iv (c)), .int (iv (o))] (bz (o = 0 ∨ o = c ∨ (o = 2 ∧ c = 4) ∨ (o = 1 ∧ c = 5))) := by
  rcases (show c = 0 ∨ c = 1 ∨ c = 2 ∨ c = 3 ∨ c = 4 ∨ c = 5 by omega) with rfl | rfl | rfl | rfl | rfl | rfl
  · exact c_isU0 ro
  · exact c_isU1 ro
  · exact c_isU2 ro
  · exact c_isU3 ro
  · exact c_isU4 ro
  · exact c_isU5 ro

set_option maxHeartbeats 4000000 in
theorem c_X4_sun (hS : RepC (((iv (ik)), fd), ((hk), (nk), (k1, k2, k3, k4, k5, k6, k7, k8, k9)), ((iv (hr A)), (iv (pe A)), (xs, xi, xk, xc, xl, xr, xb, yl, yr)), ((ht), (nt), (t1, t2, t3, t4, t5, t6, t7, t8, t9)), ((iv (tn)), (e1), (e2), (e3), (e4), tp), ((iv (bq 0)), (iv (sq 0)), c0), ((iv (bq 1)), (iv (sq 1)), c1), ((iv (bq 2)), (iv (sq 2)), c2), ((iv (bq 3)), (iv (sq 3)), c3)) (A, K, ik, ph, tq, tn, bq, sq, cq)) {px : Int} (r_px : r32 px) {pv : Int} (r_pv : r32 pv) : MI (S := Tc) E l yX4_sun cX4_sun 4 (some FieldType.int) (rmk 2 44) (wO E a k b t x q ((iv (ik))) fd ++ (wS E k ((hk)) ((nk)) (k1, k2, k3, k4, k5, k6, k7, k8, k9) ++ (wS E b ((iv (hr A))) ((iv (pe A))) (xs, xi, xk, xc, xl, xr, xb, yl, yr) ++ (wS E t ((ht)) ((nt)) (t1, t2, t3, t4, t5, t6, t7, t8, t9) ++ (wX E x ((iv (tn))) ((e1)) ((e2)) ((e3)) ((e4)) tp ++ (wH E (q 0) ((iv (bq 0))) ((iv (sq 0))) c0 ++ (wH E (q 1) ((iv (bq 1))) ((iv (sq 1))) c1 ++ (wH E (q 2) ((iv (bq 2))) ((iv (sq 2))) c2 ++ (wH E (q 3) ((iv (bq 3))) ((iv (sq 3))) c3 ++ []))))))))) [.ref (a 0), .int (iv (px)), .int (iv (pv))] (fun r u => r = iv (q_sun A ph px pv).1 ∧ RepC u ((q_sun A ph px pv).2.1, K, ik, (q_sun A ph px pv).2.2, tq, tn, bq, sq, cq)) (fun u => wT E a k b t x q u) := by
  refine goI (S := Tc) (post := fun r u => r = iv (q_sun A ph px pv).1 ∧ RepC u ((q_sun A ph px pv).2.1, K, ik, (q_sun A ph px pv).2.2, tq, tn, bq, sq, cq)) (ws' := fun u => wT E a k b t x q u) (by decide) (Nat.le_of_ble_eq_true rfl) ?_
  intro pp e s m below meth c ls args Q ret X h hl
  have hl : lv_has ls 4 [(0, .ref (a 0)), (1, .int (iv (px))), (2, .int (iv (pv)))] := hl
  have hR : RS (xs, xi, xk, xc, xl, xr, xb, yl, yr) A := hS.1.2.2.1
  have hI : IA A := hS.1.2.2.2.1
  have hr9 : hr A ≤ 99999 := hS.1.2.2.2.2
  have hF : RF 7 fd ph := hS.2.2.1
  have hK := hS.2.1
  have hT := hS.2.2.2.1
  have hB := hS.2.2.2.2
  have hh : hr A < 1000000 := by omega
  have n8 := hI.n8
  have n0 := hI.n0
  have h0 := hI.h0
  refine lv_iload_n X.1 X.2.1 dX4_sun_0 rfl (lv_at hl 1 rfl) ?_
  refine z_iconst X dX4_sun_1 ?_
  refine z_bipush X (by decide) dX4_sun_2 ?_
  refine z_pi (run_S (rest := []) X h (c_X4_within r_px ⟨by decide, by decide⟩ ⟨by decide, by decide⟩) mi_X4_within ml_X4_44 ⟨Nat.le_of_ble_eq_true rfl, Nat.le_of_ble_eq_true rfl⟩ ⟨rfl, rfl⟩ (Seg.nil _) rfl hl.1 rfl (Nat.le_of_ble_eq_true rfl) ⟨Nat.zero_le _, Nat.zero_le _⟩ dX4_sun_4) ?_
  refine z_ifb_eq (tgt := 20) X dX4_sun_7 (by decide) (fun c_7 => ?_) (fun c_7 => ?_)
  · refine lv_aload_n X.1 X.2.1 dX4_sun_20 rfl (lv_at hl 0 rfl) ?_
    refine z_ldc (z := (-1000000001)) X ct_X4_48 (by decide) dX4_sun_21 ?_
    refine z_wi (st_sing (st_nil h)) (run_V (rest := []) X (st_sing (st_nil h)) (c_X4_finding (j := 0) hF (by decide) (by decide) (by decide)) mi_X4_finding ml_X4_49 ⟨Nat.le_of_ble_eq_true rfl, Nat.le_of_ble_eq_true rfl⟩ ⟨rfl, rfl⟩ (Seg.mk' _ _) 3 0 rfl rfl rfl rfl hl.1 rfl (Nat.le_of_ble_eq_true rfl) ⟨Nat.zero_le _, Nat.zero_le _⟩ dX4_sun_23) (fun _ => map_app (wO_map _ _ _ _ _ _ _ _ _ _ _) rfl) (fun r fd1 H locs hp h => ?_)
    have h := (st_lin (st_gnis h))
    obtain ⟨rfl, hF1⟩ := hp
    have h : St E _ s H locs (wO E a k b t x q ((iv (ik))) fd1 ++ (wS E k ((hk)) ((nk)) (k1, k2, k3, k4, k5, k6, k7, k8, k9) ++ (wS E b ((iv (hr A))) ((iv (pe A))) (xs, xi, xk, xc, xl, xr, xb, yl, yr) ++ (wS E t ((ht)) ((nt)) (t1, t2, t3, t4, t5, t6, t7, t8, t9) ++ (wX E x ((iv (tn))) ((e1)) ((e2)) ((e3)) ((e4)) tp ++ (wH E (q 0) ((iv (bq 0))) ((iv (sq 0))) c0 ++ (wH E (q 1) ((iv (bq 1))) ((iv (sq 1))) c1 ++ (wH E (q 2) ((iv (bq 2))) ((iv (sq 2))) c2 ++ (wH E (q 3) ((iv (bq 3))) ((iv (sq 3))) c3 ++ []))))))))) := h
    have e9 : q_sun A ph px pv = ((-1000000001), A, (bump ph 0)) := by unfold q_sun; (repeat (first | rw [if_pos (by omega)] | rw [if_neg (by omega)])); try rfl
    exact ret _ _ _ _ _ (((iv (ik)), fd1), ((hk), (nk), (k1, k2, k3, k4, k5, k6, k7, k8, k9)), ((iv (hr A)), (iv (pe A)), (xs, xi, xk, xc, xl, xr, xb, yl, yr)), ((ht), (nt), (t1, t2, t3, t4, t5, t6, t7, t8, t9)), ((iv (tn)), (e1), (e2), (e3), (e4), tp), ((iv (bq 0)), (iv (sq 0)), c0), ((iv (bq 1)), (iv (sq 1)), c1), ((iv (bq 2)), (iv (sq 2)), c2), ((iv (bq 3)), (iv (sq 3)), c3)) h (by rw [e9]; exact ⟨rfl, ⟨rfl, rfl, hR, hI, hr9⟩, hK, hF1, hT, hB⟩) dX4_sun_26
  · refine lv_iload_n X.1 X.2.1 dX4_sun_10 rfl (lv_at hl 2 rfl) ?_
    refine z_iconst X dX4_sun_11 ?_
    refine z_bipush X (by decide) dX4_sun_12 ?_
    refine z_pi (run_S (rest := []) X h (c_X4_within r_pv ⟨by decide, by decide⟩ ⟨by decide, by decide⟩) mi_X4_within ml_X4_44 ⟨Nat.le_of_ble_eq_true rfl, Nat.le_of_ble_eq_true rfl⟩ ⟨rfl, rfl⟩ (Seg.nil _) rfl hl.1 rfl (Nat.le_of_ble_eq_true rfl) ⟨Nat.zero_le _, Nat.zero_le _⟩ dX4_sun_14) ?_
    refine z_ifb_ne (tgt := 27) X dX4_sun_17 (by decide) (fun c_17 => ?_) (fun c_17 => ?_)
    · refine lv_aload_n X.1 X.2.1 dX4_sun_27 rfl (lv_at hl 0 rfl) ?_
      refine z_get X h 3 0 0 rfl inX4 rfl (by decide) fl_X4_10 rfl dX4_sun_28 ?_
      refine z_get X h 1 13 2 rfl inX1 rfl (by decide) fl_X4_53 rfl dX4_sun_31 ?_
      refine lv_iload_n X.1 X.2.1 dX4_sun_34 rfl (lv_at hl 1 rfl) ?_
      refine z_iald (v := sn A px) X h 14 rfl (by omega) (by omega) (by decide) (hR.1 px (by omega) (by omega)) dX4_sun_35 ?_
      refine lv_istore_n (lv' := [(3, .int (iv (sn A px))), (0, .ref (a 0)), (1, .int (iv (px))), (2, .int (iv (pv)))]) X.1 X.2.1 dX4_sun_36 rfl hl (by decide) rfl (fun ls hl => ?_)
      refine lv_aload_n X.1 X.2.1 dX4_sun_37 rfl (lv_at hl 1 rfl) ?_
      refine z_get X h 3 0 0 rfl inX4 rfl (by decide) fl_X4_10 rfl dX4_sun_38 ?_
      refine z_get X h 1 13 2 rfl inX1 rfl (by decide) fl_X4_53 rfl dX4_sun_41 ?_
      refine lv_iload_n X.1 X.2.1 dX4_sun_44 rfl (lv_at hl 2 rfl) ?_
      refine lv_iload_n X.1 X.2.1 dX4_sun_45 rfl (lv_at hl 3 rfl) ?_
      refine s_iast X (st_in (st_in (st_nil h))) 1 rfl (by omega) (by omega) (by decide) dX4_sun_46 (fun H locs h => ?_)
      have h := (st_lin (st_out (st_out (st_eq wS_suns h))))
      have h : St E _ s H locs (wO E a k b t x q ((iv (ik))) fd ++ (wS E k ((hk)) ((nk)) (k1, k2, k3, k4, k5, k6, k7, k8, k9) ++ (wS E b ((iv (hr A))) ((iv (pe A))) ((upd xs (px : Int).toNat (iv (pv))), xi, xk, xc, xl, xr, xb, yl, yr) ++ (wS E t ((ht)) ((nt)) (t1, t2, t3, t4, t5, t6, t7, t8, t9) ++ (wX E x ((iv (tn))) ((e1)) ((e2)) ((e3)) ((e4)) tp ++ (wH E (q 0) ((iv (bq 0))) ((iv (sq 0))) c0 ++ (wH E (q 1) ((iv (bq 1))) ((iv (sq 1))) c1 ++ (wH E (q 2) ((iv (bq 2))) ((iv (sq 2))) c2 ++ (wH E (q 3) ((iv (bq 3))) ((iv (sq 3))) c3 ++ []))))))))) := h
      have hRu : RS ((upd xs (px : Int).toNat (iv (pv))), xi, xk, xc, xl, xr, xb, yl, yr) (su A px pv) := RS_su hR (by omega)
      have hIu : IA (su A px pv) := IA_su hI (by omega) (by omega)
      refine lv_iload_n X.1 X.2.1 dX4_sun_47 rfl (lv_at hl 0 rfl) ?_
      have e9 : q_sun A ph px pv = (sn A px, (su A px pv), ph) := by unfold q_sun; (repeat (first | rw [if_pos (by omega)] | rw [if_neg (by omega)])); try rfl
      exact ret _ _ _ _ _ (((iv (ik)), fd), ((hk), (nk), (k1, k2, k3, k4, k5, k6, k7, k8, k9)), ((iv (hr A)), (iv (pe A)), ((upd xs (px : Int).toNat (iv (pv))), xi, xk, xc, xl, xr, xb, yl, yr)), ((ht), (nt), (t1, t2, t3, t4, t5, t6, t7, t8, t9)), ((iv (tn)), (e1), (e2), (e3), (e4), tp), ((iv (bq 0)), (iv (sq 0)), c0), ((iv (bq 1)), (iv (sq 1)), c1), ((iv (bq 2)), (iv (sq 2)), c2), ((iv (bq 3)), (iv (sq 3)), c3)) h (by rw [e9]; exact ⟨rfl, ⟨rfl, rfl, hRu, hIu, hr9⟩, hK, hF, hT, hB⟩) dX4_sun_48
    · refine lv_aload_n X.1 X.2.1 dX4_sun_20 rfl (lv_at hl 0 rfl) ?_
      refine z_ldc (z := (-1000000001)) X ct_X4_48 (by decide) dX4_sun_21 ?_
      refine z_wi (st_sing (st_nil h)) (run_V (rest := []) X (st_sing (st_nil h)) (c_X4_finding (j := 0) hF (by decide) (by decide) (by decide)) mi_X4_finding ml_X4_49 ⟨Nat.le_of_ble_eq_true rfl, Nat.le_of_ble_eq_true rfl⟩ ⟨rfl, rfl⟩ (Seg.mk' _ _) 3 0 rfl rfl rfl rfl hl.1 rfl (Nat.le_of_ble_eq_true rfl) ⟨Nat.zero_le _, Nat.zero_le _⟩ dX4_sun_23) (fun _ => map_app (wO_map _ _ _ _ _ _ _ _ _ _ _) rfl) (fun r fd2 H locs hp h => ?_)
      have h := (st_lin (st_gnis h))
      obtain ⟨rfl, hF2⟩ := hp
      have h : St E _ s H locs (wO E a k b t x q ((iv (ik))) fd2 ++ (wS E k ((hk)) ((nk)) (k1, k2, k3, k4, k5, k6, k7, k8, k9) ++ (wS E b ((iv (hr A))) ((iv (pe A))) (xs, xi, xk, xc, xl, xr, xb, yl, yr) ++ (wS E t ((ht)) ((nt)) (t1, t2, t3, t4, t5, t6, t7, t8, t9) ++ (wX E x ((iv (tn))) ((e1)) ((e2)) ((e3)) ((e4)) tp ++ (wH E (q 0) ((iv (bq 0))) ((iv (sq 0))) c0 ++ (wH E (q 1) ((iv (bq 1))) ((iv (sq 1))) c1 ++ (wH E (q 2) ((iv (bq 2))) ((iv (sq 2))) c2 ++ (wH E (q 3) ((iv (bq 3))) ((iv (sq 3))) c3 ++ []))))))))) := h
      have e9 : q_sun A ph px pv = ((-1000000001), A, (bump ph 0)) := by unfold q_sun; (repeat (first | rw [if_pos (by omega)] | rw [if_neg (by omega)])); try rfl
      exact ret _ _ _ _ _ (((iv (ik)), fd2), ((hk), (nk), (k1, k2, k3, k4, k5, k6, k7, k8, k9)), ((iv (hr A)), (iv (pe A)), (xs, xi, xk, xc, xl, xr, xb, yl, yr)), ((ht), (nt), (t1, t2, t3, t4, t5, t6, t7, t8, t9)), ((iv (tn)), (e1), (e2), (e3), (e4), tp), ((iv (bq 0)), (iv (sq 0)), c0), ((iv (bq 1)), (iv (sq 1)), c1), ((iv (bq 2)), (iv (sq 2)), c2), ((iv (bq 3)), (iv (sq 3)), c3)) h (by rw [e9]; exact ⟨rfl, ⟨rfl, rfl, hR, hI, hr9⟩, hK, hF2, hT, hB⟩) dX4_sun_26

set_option maxHeartbeats 4000000 in
theorem c_X4_chair (hS : RepC (((iv (ik)), fd), ((hk), (nk), (k1, k2, k3, k4, k5, k6, k7, k8, k9)), ((iv (hr A)), (iv (pe A)), (xs, xi, xk, xc, xl, xr, xb, yl, yr)), ((ht), (nt), (t1, t2, t3, t4, t5, t6, t7, t8, t9)), ((iv (tn)), (e1), (e2), (e3), (e4), tp), ((iv (bq 0)), (iv (sq 0)), c0), ((iv (bq 1)), (iv (sq 1)), c1), ((iv (bq 2)), (iv (sq 2)), c2), ((iv (bq 3)), (iv (sq 3)), c3)) (A, K, ik, ph, tq, tn, bq, sq, cq)) {px : Int} (r_px : r32 px) : MI (S := Tc) E l yX4_chair cX4_chair 2 (some FieldType.int) (rmk 2 44) (wO E a k b t x q ((iv (ik))) fd ++ (wS E k ((hk)) ((nk)) (k1, k2, k3, k4, k5, k6, k7, k8, k9) ++ (wS E b ((iv (hr A))) ((iv (pe A))) (xs, xi, xk, xc, xl, xr, xb, yl, yr) ++ (wS E t ((ht)) ((nt)) (t1, t2, t3, t4, t5, t6, t7, t8, t9) ++ (wX E x ((iv (tn))) ((e1)) ((e2)) ((e3)) ((e4)) tp ++ (wH E (q 0) ((iv (bq 0))) ((iv (sq 0))) c0 ++ (wH E (q 1) ((iv (bq 1))) ((iv (sq 1))) c1 ++ (wH E (q 2) ((iv (bq 2))) ((iv (sq 2))) c2 ++ (wH E (q 3) ((iv (bq 3))) ((iv (sq 3))) c3 ++ []))))))))) [.ref (a 0), .int (iv (px))] (fun r u => r = iv (q_chair A ph px).1 ∧ RepC u ((q_chair A ph px).2.1, K, ik, (q_chair A ph px).2.2, tq, tn, bq, sq, cq)) (fun u => wT E a k b t x q u) := by
  refine goI (S := Tc) (post := fun r u => r = iv (q_chair A ph px).1 ∧ RepC u ((q_chair A ph px).2.1, K, ik, (q_chair A ph px).2.2, tq, tn, bq, sq, cq)) (ws' := fun u => wT E a k b t x q u) (by decide) (Nat.le_of_ble_eq_true rfl) ?_
  intro pp e s m below meth c ls args Q ret X h hl
  have hl : lv_has ls 2 [(0, .ref (a 0)), (1, .int (iv (px)))] := hl
  have hR : RS (xs, xi, xk, xc, xl, xr, xb, yl, yr) A := hS.1.2.2.1
  have hI : IA A := hS.1.2.2.2.1
  have hr9 : hr A ≤ 99999 := hS.1.2.2.2.2
  have hF : RF 7 fd ph := hS.2.2.1
  have hK := hS.2.1
  have hT := hS.2.2.2.1
  have hB := hS.2.2.2.2
  have hh : hr A < 1000000 := by omega
  have n8 := hI.n8
  have n0 := hI.n0
  have h0 := hI.h0
  refine lv_iload_n X.1 X.2.1 dX4_chair_0 rfl (lv_at hl 1 rfl) ?_
  refine z_iconst X dX4_chair_1 ?_
  refine z_bipush X (by decide) dX4_chair_2 ?_
  refine z_pi (run_S (rest := []) X h (c_X4_within r_px ⟨by decide, by decide⟩ ⟨by decide, by decide⟩) mi_X4_within ml_X4_44 ⟨Nat.le_of_ble_eq_true rfl, Nat.le_of_ble_eq_true rfl⟩ ⟨rfl, rfl⟩ (Seg.nil _) rfl hl.1 rfl (Nat.le_of_ble_eq_true rfl) ⟨Nat.zero_le _, Nat.zero_le _⟩ dX4_chair_4) ?_
  refine z_ifb_eq (tgt := 22) X dX4_chair_7 (by decide) (fun c_7 => ?_) (fun c_7 => ?_)
  · refine lv_aload_n X.1 X.2.1 dX4_chair_22 rfl (lv_at hl 0 rfl) ?_
    refine z_ldc (z := (-1000000001)) X ct_X4_48 (by decide) dX4_chair_23 ?_
    refine z_wi (st_sing (st_nil h)) (run_V (rest := []) X (st_sing (st_nil h)) (c_X4_finding (j := 0) hF (by decide) (by decide) (by decide)) mi_X4_finding ml_X4_49 ⟨Nat.le_of_ble_eq_true rfl, Nat.le_of_ble_eq_true rfl⟩ ⟨rfl, rfl⟩ (Seg.mk' _ _) 3 0 rfl rfl rfl rfl hl.1 rfl (Nat.le_of_ble_eq_true rfl) ⟨Nat.zero_le _, Nat.zero_le _⟩ dX4_chair_25) (fun _ => map_app (wO_map _ _ _ _ _ _ _ _ _ _ _) rfl) (fun r fd1 H locs hp h => ?_)
    have h := (st_lin (st_gnis h))
    obtain ⟨rfl, hF1⟩ := hp
    have h : St E _ s H locs (wO E a k b t x q ((iv (ik))) fd1 ++ (wS E k ((hk)) ((nk)) (k1, k2, k3, k4, k5, k6, k7, k8, k9) ++ (wS E b ((iv (hr A))) ((iv (pe A))) (xs, xi, xk, xc, xl, xr, xb, yl, yr) ++ (wS E t ((ht)) ((nt)) (t1, t2, t3, t4, t5, t6, t7, t8, t9) ++ (wX E x ((iv (tn))) ((e1)) ((e2)) ((e3)) ((e4)) tp ++ (wH E (q 0) ((iv (bq 0))) ((iv (sq 0))) c0 ++ (wH E (q 1) ((iv (bq 1))) ((iv (sq 1))) c1 ++ (wH E (q 2) ((iv (bq 2))) ((iv (sq 2))) c2 ++ (wH E (q 3) ((iv (bq 3))) ((iv (sq 3))) c3 ++ []))))))))) := h
    have e9 : q_chair A ph px = ((-1000000001), A, (bump ph 0)) := by unfold q_chair; (repeat (first | rw [if_pos (by omega)] | rw [if_neg (by omega)])); try rfl
    exact ret _ _ _ _ _ (((iv (ik)), fd1), ((hk), (nk), (k1, k2, k3, k4, k5, k6, k7, k8, k9)), ((iv (hr A)), (iv (pe A)), (xs, xi, xk, xc, xl, xr, xb, yl, yr)), ((ht), (nt), (t1, t2, t3, t4, t5, t6, t7, t8, t9)), ((iv (tn)), (e1), (e2), (e3), (e4), tp), ((iv (bq 0)), (iv (sq 0)), c0), ((iv (bq 1)), (iv (sq 1)), c1), ((iv (bq 2)), (iv (sq 2)), c2), ((iv (bq 3)), (iv (sq 3)), c3)) h (by rw [e9]; exact ⟨rfl, ⟨rfl, rfl, hR, hI, hr9⟩, hK, hF1, hT, hB⟩) dX4_chair_28
  · refine lv_aload_n X.1 X.2.1 dX4_chair_10 rfl (lv_at hl 0 rfl) ?_
    refine z_get X h 3 0 0 rfl inX4 rfl (by decide) fl_X4_10 rfl dX4_chair_11 ?_
    refine z_get X h 1 13 3 rfl inX1 rfl (by decide) fl_X4_56 rfl dX4_chair_14 ?_
    refine lv_iload_n X.1 X.2.1 dX4_chair_17 rfl (lv_at hl 1 rfl) ?_
    refine z_iald (v := onC A px) X h 15 rfl (by omega) (by omega) (by decide) (hR.2.1 px (by omega) (by omega)) dX4_chair_18 ?_
    refine lv_goto (tgt := 28) X.1 X.2.1 dX4_chair_19 (by decide) ?_
    have e9 : q_chair A ph px = (onC A px, A, ph) := by unfold q_chair; (repeat (first | rw [if_pos (by omega)] | rw [if_neg (by omega)])); try rfl
    exact ret _ _ _ _ _ (((iv (ik)), fd), ((hk), (nk), (k1, k2, k3, k4, k5, k6, k7, k8, k9)), ((iv (hr A)), (iv (pe A)), (xs, xi, xk, xc, xl, xr, xb, yl, yr)), ((ht), (nt), (t1, t2, t3, t4, t5, t6, t7, t8, t9)), ((iv (tn)), (e1), (e2), (e3), (e4), tp), ((iv (bq 0)), (iv (sq 0)), c0), ((iv (bq 1)), (iv (sq 1)), c1), ((iv (bq 2)), (iv (sq 2)), c2), ((iv (bq 3)), (iv (sq 3)), c3)) h (by rw [e9]; exact ⟨rfl, ⟨rfl, rfl, hR, hI, hr9⟩, hK, hF, hT, hB⟩) dX4_chair_28

set_option maxHeartbeats 4000000 in
theorem c_X4_now (hS : RepC (((iv (ik)), fd), ((hk), (nk), (k1, k2, k3, k4, k5, k6, k7, k8, k9)), ((iv (hr A)), (iv (pe A)), (xs, xi, xk, xc, xl, xr, xb, yl, yr)), ((ht), (nt), (t1, t2, t3, t4, t5, t6, t7, t8, t9)), ((iv (tn)), (e1), (e2), (e3), (e4), tp), ((iv (bq 0)), (iv (sq 0)), c0), ((iv (bq 1)), (iv (sq 1)), c1), ((iv (bq 2)), (iv (sq 2)), c2), ((iv (bq 3)), (iv (sq 3)), c3)) (A, K, ik, ph, tq, tn, bq, sq, cq)) {pw : Int} (r_pw : r32 pw) : MI (S := Tc) E l yX4_now cX4_now 2 (some FieldType.int) (rmk 3 63) (wO E a k b t x q ((iv (ik))) fd ++ (wS E k ((hk)) ((nk)) (k1, k2, k3, k4, k5, k6, k7, k8, k9) ++ (wS E b ((iv (hr A))) ((iv (pe A))) (xs, xi, xk, xc, xl, xr, xb, yl, yr) ++ (wS E t ((ht)) ((nt)) (t1, t2, t3, t4, t5, t6, t7, t8, t9) ++ (wX E x ((iv (tn))) ((e1)) ((e2)) ((e3)) ((e4)) tp ++ (wH E (q 0) ((iv (bq 0))) ((iv (sq 0))) c0 ++ (wH E (q 1) ((iv (bq 1))) ((iv (sq 1))) c1 ++ (wH E (q 2) ((iv (bq 2))) ((iv (sq 2))) c2 ++ (wH E (q 3) ((iv (bq 3))) ((iv (sq 3))) c3 ++ []))))))))) [.ref (a 0), .int (iv (pw))] (fun r u => r = iv (q_now A ph pw).1 ∧ RepC u ((q_now A ph pw).2.1, K, ik, (q_now A ph pw).2.2, tq, tn, bq, sq, cq)) (fun u => wT E a k b t x q u) := by
  refine goI (S := Tc) (post := fun r u => r = iv (q_now A ph pw).1 ∧ RepC u ((q_now A ph pw).2.1, K, ik, (q_now A ph pw).2.2, tq, tn, bq, sq, cq)) (ws' := fun u => wT E a k b t x q u) (by decide) (Nat.le_of_ble_eq_true rfl) ?_
  intro pp e s m below meth c ls args Q ret X h hl
  have hl : lv_has ls 2 [(0, .ref (a 0)), (1, .int (iv (pw)))] := hl
  have hR : RS (xs, xi, xk, xc, xl, xr, xb, yl, yr) A := hS.1.2.2.1
  have hI : IA A := hS.1.2.2.2.1
  have hr9 : hr A ≤ 99999 := hS.1.2.2.2.2
  have hF : RF 7 fd ph := hS.2.2.1
  have hK := hS.2.1
  have hT := hS.2.2.2.1
  have hB := hS.2.2.2.2
  have hh : hr A < 1000000 := by omega
  have n8 := hI.n8
  have n0 := hI.n0
  have h0 := hI.h0
  refine lv_iload_n X.1 X.2.1 dX4_now_0 rfl (lv_at hl 1 rfl) ?_
  rcases (show pw = 0 ∨ pw = 1 ∨ pw = 2 ∨ pw = 3 ∨ pw = 4 ∨ pw = 5 ∨ pw = 6 ∨ (pw < 0 ∨ 6 < pw) by omega) with c_1 | c_1 | c_1 | c_1 | c_1 | c_1 | c_1 | c_1
  · refine z_tabIn (tgt := 44) X 0 c_1 ⟨by decide, by decide⟩ (by decide) (by decide) dX4_now_1 rfl (by decide) ?_
    refine lv_aload_n X.1 X.2.1 dX4_now_44 rfl (lv_at hl 0 rfl) ?_
    refine z_get X h 3 0 0 rfl inX4 rfl (by decide) fl_X4_10 rfl dX4_now_45 ?_
    refine z_get X h 1 13 0 rfl inX1 rfl (by decide) fl_X4_59 rfl dX4_now_48 ?_
    have e9 : q_now A ph pw = (hr A, A, ph) := by unfold q_now; (repeat (first | rw [if_pos (by omega)] | rw [if_neg (by omega)])); try rfl
    exact ret _ _ _ _ _ (((iv (ik)), fd), ((hk), (nk), (k1, k2, k3, k4, k5, k6, k7, k8, k9)), ((iv (hr A)), (iv (pe A)), (xs, xi, xk, xc, xl, xr, xb, yl, yr)), ((ht), (nt), (t1, t2, t3, t4, t5, t6, t7, t8, t9)), ((iv (tn)), (e1), (e2), (e3), (e4), tp), ((iv (bq 0)), (iv (sq 0)), c0), ((iv (bq 1)), (iv (sq 1)), c1), ((iv (bq 2)), (iv (sq 2)), c2), ((iv (bq 3)), (iv (sq 3)), c3)) h (by rw [e9]; exact ⟨rfl, ⟨rfl, rfl, hR, hI, hr9⟩, hK, hF, hT, hB⟩) dX4_now_51
  · refine z_tabIn (tgt := 52) X 1 c_1 ⟨by decide, by decide⟩ (by decide) (by decide) dX4_now_1 rfl (by decide) ?_
    refine lv_aload_n X.1 X.2.1 dX4_now_52 rfl (lv_at hl 0 rfl) ?_
    refine z_get X h 3 0 0 rfl inX4 rfl (by decide) fl_X4_10 rfl dX4_now_53 ?_
    refine z_pi (run_V (rest := []) X (st_in (st_in (st_nil h))) (c_X1_place hI hh) mi_X1_place ml_X4_63 ⟨Nat.le_of_ble_eq_true rfl, Nat.le_of_ble_eq_true rfl⟩ ⟨rfl, rfl⟩ (Seg.mk' _ _) 1 13 rfl rfl rfl rfl hl.1 rfl (Nat.le_of_ble_eq_true rfl) ⟨Nat.zero_le _, Nat.zero_le _⟩ dX4_now_56) ?_
    have e9 : q_now A ph pw = (hr A % 10, A, ph) := by unfold q_now; (repeat (first | rw [if_pos (by omega)] | rw [if_neg (by omega)])); try rfl
    exact ret _ _ _ _ _ (((iv (ik)), fd), ((hk), (nk), (k1, k2, k3, k4, k5, k6, k7, k8, k9)), ((iv (hr A)), (iv (pe A)), (xs, xi, xk, xc, xl, xr, xb, yl, yr)), ((ht), (nt), (t1, t2, t3, t4, t5, t6, t7, t8, t9)), ((iv (tn)), (e1), (e2), (e3), (e4), tp), ((iv (bq 0)), (iv (sq 0)), c0), ((iv (bq 1)), (iv (sq 1)), c1), ((iv (bq 2)), (iv (sq 2)), c2), ((iv (bq 3)), (iv (sq 3)), c3)) h (by rw [e9]; exact ⟨rfl, ⟨rfl, rfl, hR, hI, hr9⟩, hK, hF, hT, hB⟩) dX4_now_59
  · refine z_tabIn (tgt := 60) X 2 c_1 ⟨by decide, by decide⟩ (by decide) (by decide) dX4_now_1 rfl (by decide) ?_
    refine lv_aload_n X.1 X.2.1 dX4_now_60 rfl (lv_at hl 0 rfl) ?_
    refine z_get X h 3 0 0 rfl inX4 rfl (by decide) fl_X4_10 rfl dX4_now_61 ?_
    refine z_pi (run_V (rest := []) X (st_in (st_in (st_nil h))) (c_X1_sunNow hR hI hh) mi_X1_sunNow ml_X4_67 ⟨Nat.le_of_ble_eq_true rfl, Nat.le_of_ble_eq_true rfl⟩ ⟨rfl, rfl⟩ (Seg.mk' _ _) 1 13 rfl rfl rfl rfl hl.1 rfl (Nat.le_of_ble_eq_true rfl) ⟨Nat.zero_le _, Nat.zero_le _⟩ dX4_now_64) ?_
    have e9 : q_now A ph pw = (sunN A, A, ph) := by unfold q_now; (repeat (first | rw [if_pos (by omega)] | rw [if_neg (by omega)])); try rfl
    exact ret _ _ _ _ _ (((iv (ik)), fd), ((hk), (nk), (k1, k2, k3, k4, k5, k6, k7, k8, k9)), ((iv (hr A)), (iv (pe A)), (xs, xi, xk, xc, xl, xr, xb, yl, yr)), ((ht), (nt), (t1, t2, t3, t4, t5, t6, t7, t8, t9)), ((iv (tn)), (e1), (e2), (e3), (e4), tp), ((iv (bq 0)), (iv (sq 0)), c0), ((iv (bq 1)), (iv (sq 1)), c1), ((iv (bq 2)), (iv (sq 2)), c2), ((iv (bq 3)), (iv (sq 3)), c3)) h (by rw [e9]; exact ⟨rfl, ⟨rfl, rfl, hR, hI, hr9⟩, hK, hF, hT, hB⟩) dX4_now_67
  · refine z_tabIn (tgt := 68) X 3 c_1 ⟨by decide, by decide⟩ (by decide) (by decide) dX4_now_1 rfl (by decide) ?_
    refine lv_aload_n X.1 X.2.1 dX4_now_68 rfl (lv_at hl 0 rfl) ?_
    refine z_get X h 3 0 0 rfl inX4 rfl (by decide) fl_X4_10 rfl dX4_now_69 ?_
    refine z_pi (run_V (rest := []) X (st_in (st_in (st_nil h))) (c_X1_setOfSitters hR hI) mi_X1_setOfSitters ml_X4_70 ⟨Nat.le_of_ble_eq_true rfl, Nat.le_of_ble_eq_true rfl⟩ ⟨rfl, rfl⟩ (Seg.mk' _ _) 1 13 rfl rfl rfl rfl hl.1 rfl (Nat.le_of_ble_eq_true rfl) ⟨Nat.zero_le _, Nat.zero_le _⟩ dX4_now_72) ?_
    have e9 : q_now A ph pw = (setS A, A, ph) := by unfold q_now; (repeat (first | rw [if_pos (by omega)] | rw [if_neg (by omega)])); try rfl
    exact ret _ _ _ _ _ (((iv (ik)), fd), ((hk), (nk), (k1, k2, k3, k4, k5, k6, k7, k8, k9)), ((iv (hr A)), (iv (pe A)), (xs, xi, xk, xc, xl, xr, xb, yl, yr)), ((ht), (nt), (t1, t2, t3, t4, t5, t6, t7, t8, t9)), ((iv (tn)), (e1), (e2), (e3), (e4), tp), ((iv (bq 0)), (iv (sq 0)), c0), ((iv (bq 1)), (iv (sq 1)), c1), ((iv (bq 2)), (iv (sq 2)), c2), ((iv (bq 3)), (iv (sq 3)), c3)) h (by rw [e9]; exact ⟨rfl, ⟨rfl, rfl, hR, hI, hr9⟩, hK, hF, hT, hB⟩) dX4_now_75
  · refine z_tabIn (tgt := 76) X 4 c_1 ⟨by decide, by decide⟩ (by decide) (by decide) dX4_now_1 rfl (by decide) ?_
    refine lv_aload_n X.1 X.2.1 dX4_now_76 rfl (lv_at hl 0 rfl) ?_
    refine z_get X h 3 0 0 rfl inX4 rfl (by decide) fl_X4_10 rfl dX4_now_77 ?_
    refine z_pi (run_V (rest := []) X (st_in (st_in (st_nil h))) (c_X1_setOfEven hR hI) mi_X1_setOfEven ml_X4_73 ⟨Nat.le_of_ble_eq_true rfl, Nat.le_of_ble_eq_true rfl⟩ ⟨rfl, rfl⟩ (Seg.mk' _ _) 1 13 rfl rfl rfl rfl hl.1 rfl (Nat.le_of_ble_eq_true rfl) ⟨Nat.zero_le _, Nat.zero_le _⟩ dX4_now_80) ?_
    have e9 : q_now A ph pw = (setE A, A, ph) := by unfold q_now; (repeat (first | rw [if_pos (by omega)] | rw [if_neg (by omega)])); try rfl
    exact ret _ _ _ _ _ (((iv (ik)), fd), ((hk), (nk), (k1, k2, k3, k4, k5, k6, k7, k8, k9)), ((iv (hr A)), (iv (pe A)), (xs, xi, xk, xc, xl, xr, xb, yl, yr)), ((ht), (nt), (t1, t2, t3, t4, t5, t6, t7, t8, t9)), ((iv (tn)), (e1), (e2), (e3), (e4), tp), ((iv (bq 0)), (iv (sq 0)), c0), ((iv (bq 1)), (iv (sq 1)), c1), ((iv (bq 2)), (iv (sq 2)), c2), ((iv (bq 3)), (iv (sq 3)), c3)) h (by rw [e9]; exact ⟨rfl, ⟨rfl, rfl, hR, hI, hr9⟩, hK, hF, hT, hB⟩) dX4_now_83
  · refine z_tabIn (tgt := 84) X 5 c_1 ⟨by decide, by decide⟩ (by decide) (by decide) dX4_now_1 rfl (by decide) ?_
    refine lv_aload_n X.1 X.2.1 dX4_now_84 rfl (lv_at hl 0 rfl) ?_
    refine z_get X h 3 0 0 rfl inX4 rfl (by decide) fl_X4_10 rfl dX4_now_85 ?_
    refine z_pi (run_V (rest := []) X (st_in (st_in (st_nil h))) (c_X1_brownOfAll hR hI) mi_X1_brownOfAll ml_X4_76 ⟨Nat.le_of_ble_eq_true rfl, Nat.le_of_ble_eq_true rfl⟩ ⟨rfl, rfl⟩ (Seg.mk' _ _) 1 13 rfl rfl rfl rfl hl.1 rfl (Nat.le_of_ble_eq_true rfl) ⟨Nat.zero_le _, Nat.zero_le _⟩ dX4_now_88) ?_
    have e9 : q_now A ph pw = (allB A, A, ph) := by unfold q_now; (repeat (first | rw [if_pos (by omega)] | rw [if_neg (by omega)])); try rfl
    exact ret _ _ _ _ _ (((iv (ik)), fd), ((hk), (nk), (k1, k2, k3, k4, k5, k6, k7, k8, k9)), ((iv (hr A)), (iv (pe A)), (xs, xi, xk, xc, xl, xr, xb, yl, yr)), ((ht), (nt), (t1, t2, t3, t4, t5, t6, t7, t8, t9)), ((iv (tn)), (e1), (e2), (e3), (e4), tp), ((iv (bq 0)), (iv (sq 0)), c0), ((iv (bq 1)), (iv (sq 1)), c1), ((iv (bq 2)), (iv (sq 2)), c2), ((iv (bq 3)), (iv (sq 3)), c3)) h (by rw [e9]; exact ⟨rfl, ⟨rfl, rfl, hR, hI, hr9⟩, hK, hF, hT, hB⟩) dX4_now_91
  · refine z_tabIn (tgt := 92) X 6 c_1 ⟨by decide, by decide⟩ (by decide) (by decide) dX4_now_1 rfl (by decide) ?_
    refine lv_aload_n X.1 X.2.1 dX4_now_92 rfl (lv_at hl 0 rfl) ?_
    refine z_get X h 3 0 0 rfl inX4 rfl (by decide) fl_X4_10 rfl dX4_now_93 ?_
    refine z_pi (run_V (rest := []) X (st_in (st_in (st_nil h))) (c_X1_burntOfAll hR hI) mi_X1_burntOfAll ml_X4_79 ⟨Nat.le_of_ble_eq_true rfl, Nat.le_of_ble_eq_true rfl⟩ ⟨rfl, rfl⟩ (Seg.mk' _ _) 1 13 rfl rfl rfl rfl hl.1 rfl (Nat.le_of_ble_eq_true rfl) ⟨Nat.zero_le _, Nat.zero_le _⟩ dX4_now_96) ?_
    have e9 : q_now A ph pw = (sums A 4, A, ph) := by unfold q_now; (repeat (first | rw [if_pos (by omega)] | rw [if_neg (by omega)])); try rfl
    exact ret _ _ _ _ _ (((iv (ik)), fd), ((hk), (nk), (k1, k2, k3, k4, k5, k6, k7, k8, k9)), ((iv (hr A)), (iv (pe A)), (xs, xi, xk, xc, xl, xr, xb, yl, yr)), ((ht), (nt), (t1, t2, t3, t4, t5, t6, t7, t8, t9)), ((iv (tn)), (e1), (e2), (e3), (e4), tp), ((iv (bq 0)), (iv (sq 0)), c0), ((iv (bq 1)), (iv (sq 1)), c1), ((iv (bq 2)), (iv (sq 2)), c2), ((iv (bq 3)), (iv (sq 3)), c3)) h (by rw [e9]; exact ⟨rfl, ⟨rfl, rfl, hR, hI, hr9⟩, hK, hF, hT, hB⟩) dX4_now_99
  · refine z_tabOut (tgt := 100) X r_pw c_1 dX4_now_1 (by decide) ?_
    refine lv_aload_n X.1 X.2.1 dX4_now_100 rfl (lv_at hl 0 rfl) ?_
    refine z_ldc (z := (-1000000001)) X ct_X4_48 (by decide) dX4_now_101 ?_
    refine z_wi (st_sing (st_nil h)) (run_V (rest := []) X (st_sing (st_nil h)) (c_X4_finding (j := 0) hF (by decide) (by decide) (by decide)) mi_X4_finding ml_X4_49 ⟨Nat.le_of_ble_eq_true rfl, Nat.le_of_ble_eq_true rfl⟩ ⟨rfl, rfl⟩ (Seg.mk' _ _) 3 0 rfl rfl rfl rfl hl.1 rfl (Nat.le_of_ble_eq_true rfl) ⟨Nat.zero_le _, Nat.zero_le _⟩ dX4_now_103) (fun _ => map_app (wO_map _ _ _ _ _ _ _ _ _ _ _) rfl) (fun r fd1 H locs hp h => ?_)
    have h := (st_lin (st_gnis h))
    obtain ⟨rfl, hF1⟩ := hp
    have h : St E _ s H locs (wO E a k b t x q ((iv (ik))) fd1 ++ (wS E k ((hk)) ((nk)) (k1, k2, k3, k4, k5, k6, k7, k8, k9) ++ (wS E b ((iv (hr A))) ((iv (pe A))) (xs, xi, xk, xc, xl, xr, xb, yl, yr) ++ (wS E t ((ht)) ((nt)) (t1, t2, t3, t4, t5, t6, t7, t8, t9) ++ (wX E x ((iv (tn))) ((e1)) ((e2)) ((e3)) ((e4)) tp ++ (wH E (q 0) ((iv (bq 0))) ((iv (sq 0))) c0 ++ (wH E (q 1) ((iv (bq 1))) ((iv (sq 1))) c1 ++ (wH E (q 2) ((iv (bq 2))) ((iv (sq 2))) c2 ++ (wH E (q 3) ((iv (bq 3))) ((iv (sq 3))) c3 ++ []))))))))) := h
    have e9 : q_now A ph pw = ((-1000000001), A, (bump ph 0)) := by unfold q_now; (repeat (first | rw [if_pos (by omega)] | rw [if_neg (by omega)])); try rfl
    exact ret _ _ _ _ _ (((iv (ik)), fd1), ((hk), (nk), (k1, k2, k3, k4, k5, k6, k7, k8, k9)), ((iv (hr A)), (iv (pe A)), (xs, xi, xk, xc, xl, xr, xb, yl, yr)), ((ht), (nt), (t1, t2, t3, t4, t5, t6, t7, t8, t9)), ((iv (tn)), (e1), (e2), (e3), (e4), tp), ((iv (bq 0)), (iv (sq 0)), c0), ((iv (bq 1)), (iv (sq 1)), c1), ((iv (bq 2)), (iv (sq 2)), c2), ((iv (bq 3)), (iv (sq 3)), c3)) h (by rw [e9]; exact ⟨rfl, ⟨rfl, rfl, hR, hI, hr9⟩, hK, hF1, hT, hB⟩) dX4_now_106

set_option maxHeartbeats 4000000 in
theorem c_X4_person (hS : RepC (((iv (ik)), fd), ((hk), (nk), (k1, k2, k3, k4, k5, k6, k7, k8, k9)), ((iv (hr A)), (iv (pe A)), (xs, xi, xk, xc, xl, xr, xb, yl, yr)), ((ht), (nt), (t1, t2, t3, t4, t5, t6, t7, t8, t9)), ((iv (tn)), (e1), (e2), (e3), (e4), tp), ((iv (bq 0)), (iv (sq 0)), c0), ((iv (bq 1)), (iv (sq 1)), c1), ((iv (bq 2)), (iv (sq 2)), c2), ((iv (bq 3)), (iv (sq 3)), c3)) (A, K, ik, ph, tq, tn, bq, sq, cq)) {pk : Int} (r_pk : r32 pk) : MI (S := Tc) E l yX4_person cX4_person 2 (some FieldType.int) (rmk 2 44) (wO E a k b t x q ((iv (ik))) fd ++ (wS E k ((hk)) ((nk)) (k1, k2, k3, k4, k5, k6, k7, k8, k9) ++ (wS E b ((iv (hr A))) ((iv (pe A))) (xs, xi, xk, xc, xl, xr, xb, yl, yr) ++ (wS E t ((ht)) ((nt)) (t1, t2, t3, t4, t5, t6, t7, t8, t9) ++ (wX E x ((iv (tn))) ((e1)) ((e2)) ((e3)) ((e4)) tp ++ (wH E (q 0) ((iv (bq 0))) ((iv (sq 0))) c0 ++ (wH E (q 1) ((iv (bq 1))) ((iv (sq 1))) c1 ++ (wH E (q 2) ((iv (bq 2))) ((iv (sq 2))) c2 ++ (wH E (q 3) ((iv (bq 3))) ((iv (sq 3))) c3 ++ []))))))))) [.ref (a 0), .int (iv (pk))] (fun r u => r = iv (q_person A ph pk).1 ∧ RepC u ((q_person A ph pk).2.1, K, ik, (q_person A ph pk).2.2, tq, tn, bq, sq, cq)) (fun u => wT E a k b t x q u) := by
  refine goI (S := Tc) (post := fun r u => r = iv (q_person A ph pk).1 ∧ RepC u ((q_person A ph pk).2.1, K, ik, (q_person A ph pk).2.2, tq, tn, bq, sq, cq)) (ws' := fun u => wT E a k b t x q u) (by decide) (Nat.le_of_ble_eq_true rfl) ?_
  intro pp e s m below meth c ls args Q ret X h hl
  have hl : lv_has ls 2 [(0, .ref (a 0)), (1, .int (iv (pk)))] := hl
  have hR : RS (xs, xi, xk, xc, xl, xr, xb, yl, yr) A := hS.1.2.2.1
  have hI : IA A := hS.1.2.2.2.1
  have hr9 : hr A ≤ 99999 := hS.1.2.2.2.2
  have hF : RF 7 fd ph := hS.2.2.1
  have hK := hS.2.1
  have hT := hS.2.2.2.1
  have hB := hS.2.2.2.2
  have hh : hr A < 1000000 := by omega
  have n8 := hI.n8
  have n0 := hI.n0
  have h0 := hI.h0
  refine lv_iload_n X.1 X.2.1 dX4_person_0 rfl (lv_at hl 1 rfl) ?_
  refine z_pi (run_S (rest := []) X h (c_X4_isKind r_pk) mi_X4_isKind ml_X4_82 ⟨Nat.le_of_ble_eq_true rfl, Nat.le_of_ble_eq_true rfl⟩ ⟨rfl, rfl⟩ (Seg.nil _) rfl hl.1 rfl (Nat.le_of_ble_eq_true rfl) ⟨Nat.zero_le _, Nat.zero_le _⟩ dX4_person_1) ?_
  refine z_ifb_ne (tgt := 14) X dX4_person_4 (by decide) (fun c_4 => ?_) (fun c_4 => ?_)
  · refine lv_aload_n X.1 X.2.1 dX4_person_14 rfl (lv_at hl 0 rfl) ?_
    refine z_get X h 3 0 0 rfl inX4 rfl (by decide) fl_X4_10 rfl dX4_person_15 ?_
    refine z_get X h 1 13 1 rfl inX1 rfl (by decide) fl_X4_86 rfl dX4_person_18 ?_
    refine z_bipush X (by decide) dX4_person_21 ?_
    refine z_ic_lt (tgt := 33) X ⟨by omega, by omega⟩ ⟨by decide, by decide⟩ dX4_person_23 (by decide) (fun c_23 => ?_) (fun c_23 => ?_)
    · refine lv_aload_n X.1 X.2.1 dX4_person_33 rfl (lv_at hl 0 rfl) ?_
      refine z_get X h 3 0 0 rfl inX4 rfl (by decide) fl_X4_10 rfl dX4_person_34 ?_
      refine lv_iload_n X.1 X.2.1 dX4_person_37 rfl (lv_at hl 1 rfl) ?_
      refine z_bipush X (by decide) dX4_person_38 ?_
      refine z_wi (st_in (st_in (st_nil h))) (run_V (rest := []) X (st_in (st_in (st_nil h))) (c_X1_add (k := pk) (b := 20) hR hI (by omega)) mi_X1_add ml_X4_90 ⟨Nat.le_of_ble_eq_true rfl, Nat.le_of_ble_eq_true rfl⟩ ⟨rfl, rfl⟩ (Seg.mk' _ _) 1 13 rfl rfl rfl rfl hl.1 rfl (Nat.le_of_ble_eq_true rfl) ⟨Nat.zero_le _, Nat.zero_le _⟩ dX4_person_40) (fun _ => wS_map _ _ _ _ _ _ _ _) (fun r u H locs hp h => ?_)
      have h := (st_lin (st_out (st_out h)))
      obtain ⟨z0_1, z1_1, z2_1, z3_1, z4_1, z5_1, z6_1, z7_1, z8_1⟩ := u
      have h : St E _ s H locs (wO E a k b t x q ((iv (ik))) fd ++ (wS E k ((hk)) ((nk)) (k1, k2, k3, k4, k5, k6, k7, k8, k9) ++ (wS E b ((iv (hr A))) ((iv (pe A + 1))) (z0_1, z1_1, z2_1, z3_1, z4_1, z5_1, z6_1, z7_1, z8_1) ++ (wS E t ((ht)) ((nt)) (t1, t2, t3, t4, t5, t6, t7, t8, t9) ++ (wX E x ((iv (tn))) ((e1)) ((e2)) ((e3)) ((e4)) tp ++ (wH E (q 0) ((iv (bq 0))) ((iv (sq 0))) c0 ++ (wH E (q 1) ((iv (bq 1))) ((iv (sq 1))) c1 ++ (wH E (q 2) ((iv (bq 2))) ((iv (sq 2))) c2 ++ (wH E (q 3) ((iv (bq 3))) ((iv (sq 3))) c3 ++ []))))))))) := h
      obtain ⟨rfl, hR1⟩ := hp
      have hR1 : RS (z0_1, z1_1, z2_1, z3_1, z4_1, z5_1, z6_1, z7_1, z8_1) (nw A pk 20) := hR1
      have hI1 : IA (nw A pk 20) := IA_nw hI (by omega) (by omega) (by omega) (by omega) (by omega)
      have e9 : q_person A ph pk = (pe A, (nw A pk 20), ph) := by unfold q_person; (repeat (first | rw [if_pos (by omega)] | rw [if_neg (by omega)])); try rfl
      exact ret _ _ _ _ _ (((iv (ik)), fd), ((hk), (nk), (k1, k2, k3, k4, k5, k6, k7, k8, k9)), ((iv (hr A)), (iv (pe A + 1)), (z0_1, z1_1, z2_1, z3_1, z4_1, z5_1, z6_1, z7_1, z8_1)), ((ht), (nt), (t1, t2, t3, t4, t5, t6, t7, t8, t9)), ((iv (tn)), (e1), (e2), (e3), (e4), tp), ((iv (bq 0)), (iv (sq 0)), c0), ((iv (bq 1)), (iv (sq 1)), c1), ((iv (bq 2)), (iv (sq 2)), c2), ((iv (bq 3)), (iv (sq 3)), c3)) h (by rw [e9]; exact ⟨rfl, ⟨rfl, rfl, hR1, hI1, hr9⟩, hK, hF, hT, hB⟩) dX4_person_43
    · refine lv_aload_n X.1 X.2.1 dX4_person_26 rfl (lv_at hl 0 rfl) ?_
      refine z_ldc (z := (-1000000002)) X ct_X4_89 (by decide) dX4_person_27 ?_
      refine z_wi (st_sing (st_nil h)) (run_V (rest := []) X (st_sing (st_nil h)) (c_X4_finding (j := 1) hF (by decide) (by decide) (by decide)) mi_X4_finding ml_X4_49 ⟨Nat.le_of_ble_eq_true rfl, Nat.le_of_ble_eq_true rfl⟩ ⟨rfl, rfl⟩ (Seg.mk' _ _) 3 0 rfl rfl rfl rfl hl.1 rfl (Nat.le_of_ble_eq_true rfl) ⟨Nat.zero_le _, Nat.zero_le _⟩ dX4_person_29) (fun _ => map_app (wO_map _ _ _ _ _ _ _ _ _ _ _) rfl) (fun r fd2 H locs hp h => ?_)
      have h := (st_lin (st_gnis h))
      obtain ⟨rfl, hF2⟩ := hp
      have h : St E _ s H locs (wO E a k b t x q ((iv (ik))) fd2 ++ (wS E k ((hk)) ((nk)) (k1, k2, k3, k4, k5, k6, k7, k8, k9) ++ (wS E b ((iv (hr A))) ((iv (pe A))) (xs, xi, xk, xc, xl, xr, xb, yl, yr) ++ (wS E t ((ht)) ((nt)) (t1, t2, t3, t4, t5, t6, t7, t8, t9) ++ (wX E x ((iv (tn))) ((e1)) ((e2)) ((e3)) ((e4)) tp ++ (wH E (q 0) ((iv (bq 0))) ((iv (sq 0))) c0 ++ (wH E (q 1) ((iv (bq 1))) ((iv (sq 1))) c1 ++ (wH E (q 2) ((iv (bq 2))) ((iv (sq 2))) c2 ++ (wH E (q 3) ((iv (bq 3))) ((iv (sq 3))) c3 ++ []))))))))) := h
      have e9 : q_person A ph pk = ((-1000000002), A, (bump ph 1)) := by unfold q_person; (repeat (first | rw [if_pos (by omega)] | rw [if_neg (by omega)])); try rfl
      exact ret _ _ _ _ _ (((iv (ik)), fd2), ((hk), (nk), (k1, k2, k3, k4, k5, k6, k7, k8, k9)), ((iv (hr A)), (iv (pe A)), (xs, xi, xk, xc, xl, xr, xb, yl, yr)), ((ht), (nt), (t1, t2, t3, t4, t5, t6, t7, t8, t9)), ((iv (tn)), (e1), (e2), (e3), (e4), tp), ((iv (bq 0)), (iv (sq 0)), c0), ((iv (bq 1)), (iv (sq 1)), c1), ((iv (bq 2)), (iv (sq 2)), c2), ((iv (bq 3)), (iv (sq 3)), c3)) h (by rw [e9]; exact ⟨rfl, ⟨rfl, rfl, hR, hI, hr9⟩, hK, hF2, hT, hB⟩) dX4_person_32
  · refine lv_aload_n X.1 X.2.1 dX4_person_7 rfl (lv_at hl 0 rfl) ?_
    refine z_ldc (z := (-1000000001)) X ct_X4_48 (by decide) dX4_person_8 ?_
    refine z_wi (st_sing (st_nil h)) (run_V (rest := []) X (st_sing (st_nil h)) (c_X4_finding (j := 0) hF (by decide) (by decide) (by decide)) mi_X4_finding ml_X4_49 ⟨Nat.le_of_ble_eq_true rfl, Nat.le_of_ble_eq_true rfl⟩ ⟨rfl, rfl⟩ (Seg.mk' _ _) 3 0 rfl rfl rfl rfl hl.1 rfl (Nat.le_of_ble_eq_true rfl) ⟨Nat.zero_le _, Nat.zero_le _⟩ dX4_person_10) (fun _ => map_app (wO_map _ _ _ _ _ _ _ _ _ _ _) rfl) (fun r fd3 H locs hp h => ?_)
    have h := (st_lin (st_gnis h))
    obtain ⟨rfl, hF3⟩ := hp
    have h : St E _ s H locs (wO E a k b t x q ((iv (ik))) fd3 ++ (wS E k ((hk)) ((nk)) (k1, k2, k3, k4, k5, k6, k7, k8, k9) ++ (wS E b ((iv (hr A))) ((iv (pe A))) (xs, xi, xk, xc, xl, xr, xb, yl, yr) ++ (wS E t ((ht)) ((nt)) (t1, t2, t3, t4, t5, t6, t7, t8, t9) ++ (wX E x ((iv (tn))) ((e1)) ((e2)) ((e3)) ((e4)) tp ++ (wH E (q 0) ((iv (bq 0))) ((iv (sq 0))) c0 ++ (wH E (q 1) ((iv (bq 1))) ((iv (sq 1))) c1 ++ (wH E (q 2) ((iv (bq 2))) ((iv (sq 2))) c2 ++ (wH E (q 3) ((iv (bq 3))) ((iv (sq 3))) c3 ++ []))))))))) := h
    have e9 : q_person A ph pk = ((-1000000001), A, (bump ph 0)) := by unfold q_person; (repeat (first | rw [if_pos (by omega)] | rw [if_neg (by omega)])); try rfl
    exact ret _ _ _ _ _ (((iv (ik)), fd3), ((hk), (nk), (k1, k2, k3, k4, k5, k6, k7, k8, k9)), ((iv (hr A)), (iv (pe A)), (xs, xi, xk, xc, xl, xr, xb, yl, yr)), ((ht), (nt), (t1, t2, t3, t4, t5, t6, t7, t8, t9)), ((iv (tn)), (e1), (e2), (e3), (e4), tp), ((iv (bq 0)), (iv (sq 0)), c0), ((iv (bq 1)), (iv (sq 1)), c1), ((iv (bq 2)), (iv (sq 2)), c2), ((iv (bq 3)), (iv (sq 3)), c3)) h (by rw [e9]; exact ⟨rfl, ⟨rfl, rfl, hR, hI, hr9⟩, hK, hF3, hT, hB⟩) dX4_person_13

set_option maxHeartbeats 4000000 in
theorem c_X4_of (hS : RepC (((iv (ik)), fd), ((hk), (nk), (k1, k2, k3, k4, k5, k6, k7, k8, k9)), ((iv (hr A)), (iv (pe A)), (xs, xi, xk, xc, xl, xr, xb, yl, yr)), ((ht), (nt), (t1, t2, t3, t4, t5, t6, t7, t8, t9)), ((iv (tn)), (e1), (e2), (e3), (e4), tp), ((iv (bq 0)), (iv (sq 0)), c0), ((iv (bq 1)), (iv (sq 1)), c1), ((iv (bq 2)), (iv (sq 2)), c2), ((iv (bq 3)), (iv (sq 3)), c3)) (A, K, ik, ph, tq, tn, bq, sq, cq)) {px : Int} (r_px : r32 px) {pw : Int} (r_pw : r32 pw) : MI (S := Tc) E l yX4_of cX4_of 3 (some FieldType.int) (rmk 3 67) (wO E a k b t x q ((iv (ik))) fd ++ (wS E k ((hk)) ((nk)) (k1, k2, k3, k4, k5, k6, k7, k8, k9) ++ (wS E b ((iv (hr A))) ((iv (pe A))) (xs, xi, xk, xc, xl, xr, xb, yl, yr) ++ (wS E t ((ht)) ((nt)) (t1, t2, t3, t4, t5, t6, t7, t8, t9) ++ (wX E x ((iv (tn))) ((e1)) ((e2)) ((e3)) ((e4)) tp ++ (wH E (q 0) ((iv (bq 0))) ((iv (sq 0))) c0 ++ (wH E (q 1) ((iv (bq 1))) ((iv (sq 1))) c1 ++ (wH E (q 2) ((iv (bq 2))) ((iv (sq 2))) c2 ++ (wH E (q 3) ((iv (bq 3))) ((iv (sq 3))) c3 ++ []))))))))) [.ref (a 0), .int (iv (px)), .int (iv (pw))] (fun r u => r = iv (q_of A ph px pw).1 ∧ RepC u ((q_of A ph px pw).2.1, K, ik, (q_of A ph px pw).2.2, tq, tn, bq, sq, cq)) (fun u => wT E a k b t x q u) := by
  refine goI (S := Tc) (post := fun r u => r = iv (q_of A ph px pw).1 ∧ RepC u ((q_of A ph px pw).2.1, K, ik, (q_of A ph px pw).2.2, tq, tn, bq, sq, cq)) (ws' := fun u => wT E a k b t x q u) (by decide) (Nat.le_of_ble_eq_true rfl) ?_
  intro pp e s m below meth c ls args Q ret X h hl
  have hl : lv_has ls 3 [(0, .ref (a 0)), (1, .int (iv (px))), (2, .int (iv (pw)))] := hl
  have hR : RS (xs, xi, xk, xc, xl, xr, xb, yl, yr) A := hS.1.2.2.1
  have hI : IA A := hS.1.2.2.2.1
  have hr9 : hr A ≤ 99999 := hS.1.2.2.2.2
  have hF : RF 7 fd ph := hS.2.2.1
  have hK := hS.2.1
  have hT := hS.2.2.2.1
  have hB := hS.2.2.2.2
  have hh : hr A < 1000000 := by omega
  have n8 := hI.n8
  have n0 := hI.n0
  have h0 := hI.h0
  refine lv_aload_n X.1 X.2.1 dX4_of_0 rfl (lv_at hl 0 rfl) ?_
  refine lv_iload_n X.1 X.2.1 dX4_of_1 rfl (lv_at hl 1 rfl) ?_
  refine z_pi (run_V (rest := []) X h (c_X4_isPerson (p := px) hI r_px) mi_X4_isPerson ml_X4_94 ⟨Nat.le_of_ble_eq_true rfl, Nat.le_of_ble_eq_true rfl⟩ ⟨rfl, rfl⟩ (Seg.rfl' _) 3 0 rfl rfl rfl rfl hl.1 rfl (Nat.le_of_ble_eq_true rfl) ⟨Nat.zero_le _, Nat.zero_le _⟩ dX4_of_2) ?_
  refine z_ifb_ne (tgt := 15) X dX4_of_5 (by decide) (fun c_5 => ?_) (fun c_5 => ?_)
  · have qx := hI.gP (p := px) (by omega) (by omega)
    refine lv_iload_n X.1 X.2.1 dX4_of_15 rfl (lv_at hl 2 rfl) ?_
    rcases (show pw = 0 ∨ pw = 1 ∨ pw = 2 ∨ pw = 3 ∨ pw = 4 ∨ pw = 5 ∨ pw = 6 ∨ pw = 7 ∨ pw = 8 ∨ (pw < 0 ∨ 8 < pw) by omega) with c_16 | c_16 | c_16 | c_16 | c_16 | c_16 | c_16 | c_16 | c_16 | c_16
    · refine z_tabIn (tgt := 68) X 0 c_16 ⟨by decide, by decide⟩ (by decide) (by decide) dX4_of_16 rfl (by decide) ?_
      refine lv_aload_n X.1 X.2.1 dX4_of_68 rfl (lv_at hl 0 rfl) ?_
      refine z_get X h 3 0 0 rfl inX4 rfl (by decide) fl_X4_10 rfl dX4_of_69 ?_
      refine z_get X h 1 13 4 rfl inX1 rfl (by decide) fl_X4_97 rfl dX4_of_72 ?_
      refine lv_iload_n X.1 X.2.1 dX4_of_75 rfl (lv_at hl 1 rfl) ?_
      refine z_iald (v := pr A 0 px) X h 16 rfl (by omega) (by omega) (by decide) (hR.2.2.1 px (by omega) (by omega)) dX4_of_76 ?_
      have e9 : q_of A ph px pw = (pr A 0 px, A, ph) := by unfold q_of; (repeat (first | rw [if_pos (by omega)] | rw [if_neg (by omega)])); try (first | rfl | rw [c_16])
      exact ret _ _ _ _ _ (((iv (ik)), fd), ((hk), (nk), (k1, k2, k3, k4, k5, k6, k7, k8, k9)), ((iv (hr A)), (iv (pe A)), (xs, xi, xk, xc, xl, xr, xb, yl, yr)), ((ht), (nt), (t1, t2, t3, t4, t5, t6, t7, t8, t9)), ((iv (tn)), (e1), (e2), (e3), (e4), tp), ((iv (bq 0)), (iv (sq 0)), c0), ((iv (bq 1)), (iv (sq 1)), c1), ((iv (bq 2)), (iv (sq 2)), c2), ((iv (bq 3)), (iv (sq 3)), c3)) h (by rw [e9]; exact ⟨rfl, ⟨rfl, rfl, hR, hI, hr9⟩, hK, hF, hT, hB⟩) dX4_of_77
    · refine z_tabIn (tgt := 78) X 1 c_16 ⟨by decide, by decide⟩ (by decide) (by decide) dX4_of_16 rfl (by decide) ?_
      refine lv_aload_n X.1 X.2.1 dX4_of_78 rfl (lv_at hl 0 rfl) ?_
      refine z_get X h 3 0 0 rfl inX4 rfl (by decide) fl_X4_10 rfl dX4_of_79 ?_
      refine z_get X h 1 13 5 rfl inX1 rfl (by decide) fl_X4_100 rfl dX4_of_82 ?_
      refine lv_iload_n X.1 X.2.1 dX4_of_85 rfl (lv_at hl 1 rfl) ?_
      refine z_iald (v := pr A 1 px) X h 17 rfl (by omega) (by omega) (by decide) (hR.2.2.2.1 px (by omega) (by omega)) dX4_of_86 ?_
      have e9 : q_of A ph px pw = (pr A 1 px, A, ph) := by unfold q_of; (repeat (first | rw [if_pos (by omega)] | rw [if_neg (by omega)])); try (first | rfl | rw [c_16])
      exact ret _ _ _ _ _ (((iv (ik)), fd), ((hk), (nk), (k1, k2, k3, k4, k5, k6, k7, k8, k9)), ((iv (hr A)), (iv (pe A)), (xs, xi, xk, xc, xl, xr, xb, yl, yr)), ((ht), (nt), (t1, t2, t3, t4, t5, t6, t7, t8, t9)), ((iv (tn)), (e1), (e2), (e3), (e4), tp), ((iv (bq 0)), (iv (sq 0)), c0), ((iv (bq 1)), (iv (sq 1)), c1), ((iv (bq 2)), (iv (sq 2)), c2), ((iv (bq 3)), (iv (sq 3)), c3)) h (by rw [e9]; exact ⟨rfl, ⟨rfl, rfl, hR, hI, hr9⟩, hK, hF, hT, hB⟩) dX4_of_87
    · refine z_tabIn (tgt := 88) X 2 c_16 ⟨by decide, by decide⟩ (by decide) (by decide) dX4_of_16 rfl (by decide) ?_
      refine lv_aload_n X.1 X.2.1 dX4_of_88 rfl (lv_at hl 0 rfl) ?_
      refine z_get X h 3 0 0 rfl inX4 rfl (by decide) fl_X4_10 rfl dX4_of_89 ?_
      refine z_get X h 1 13 6 rfl inX1 rfl (by decide) fl_X4_103 rfl dX4_of_92 ?_
      refine lv_iload_n X.1 X.2.1 dX4_of_95 rfl (lv_at hl 1 rfl) ?_
      refine z_iald (v := pr A 2 px) X h 18 rfl (by omega) (by omega) (by decide) (hR.2.2.2.2.1 px (by omega) (by omega)) dX4_of_96 ?_
      have e9 : q_of A ph px pw = (pr A 2 px, A, ph) := by unfold q_of; (repeat (first | rw [if_pos (by omega)] | rw [if_neg (by omega)])); try (first | rfl | rw [c_16])
      exact ret _ _ _ _ _ (((iv (ik)), fd), ((hk), (nk), (k1, k2, k3, k4, k5, k6, k7, k8, k9)), ((iv (hr A)), (iv (pe A)), (xs, xi, xk, xc, xl, xr, xb, yl, yr)), ((ht), (nt), (t1, t2, t3, t4, t5, t6, t7, t8, t9)), ((iv (tn)), (e1), (e2), (e3), (e4), tp), ((iv (bq 0)), (iv (sq 0)), c0), ((iv (bq 1)), (iv (sq 1)), c1), ((iv (bq 2)), (iv (sq 2)), c2), ((iv (bq 3)), (iv (sq 3)), c3)) h (by rw [e9]; exact ⟨rfl, ⟨rfl, rfl, hR, hI, hr9⟩, hK, hF, hT, hB⟩) dX4_of_97
    · refine z_tabIn (tgt := 98) X 3 c_16 ⟨by decide, by decide⟩ (by decide) (by decide) dX4_of_16 rfl (by decide) ?_
      refine lv_aload_n X.1 X.2.1 dX4_of_98 rfl (lv_at hl 0 rfl) ?_
      refine z_get X h 3 0 0 rfl inX4 rfl (by decide) fl_X4_10 rfl dX4_of_99 ?_
      refine z_get X h 1 13 7 rfl inX1 rfl (by decide) fl_X4_106 rfl dX4_of_102 ?_
      refine lv_iload_n X.1 X.2.1 dX4_of_105 rfl (lv_at hl 1 rfl) ?_
      refine z_iald (v := pr A 3 px) X h 19 rfl (by omega) (by omega) (by decide) (hR.2.2.2.2.2.1 px (by omega) (by omega)) dX4_of_106 ?_
      have e9 : q_of A ph px pw = (pr A 3 px, A, ph) := by unfold q_of; (repeat (first | rw [if_pos (by omega)] | rw [if_neg (by omega)])); try (first | rfl | rw [c_16])
      exact ret _ _ _ _ _ (((iv (ik)), fd), ((hk), (nk), (k1, k2, k3, k4, k5, k6, k7, k8, k9)), ((iv (hr A)), (iv (pe A)), (xs, xi, xk, xc, xl, xr, xb, yl, yr)), ((ht), (nt), (t1, t2, t3, t4, t5, t6, t7, t8, t9)), ((iv (tn)), (e1), (e2), (e3), (e4), tp), ((iv (bq 0)), (iv (sq 0)), c0), ((iv (bq 1)), (iv (sq 1)), c1), ((iv (bq 2)), (iv (sq 2)), c2), ((iv (bq 3)), (iv (sq 3)), c3)) h (by rw [e9]; exact ⟨rfl, ⟨rfl, rfl, hR, hI, hr9⟩, hK, hF, hT, hB⟩) dX4_of_107
    · refine z_tabIn (tgt := 108) X 4 c_16 ⟨by decide, by decide⟩ (by decide) (by decide) dX4_of_16 rfl (by decide) ?_
      refine lv_aload_n X.1 X.2.1 dX4_of_108 rfl (lv_at hl 0 rfl) ?_
      refine z_get X h 3 0 0 rfl inX4 rfl (by decide) fl_X4_10 rfl dX4_of_109 ?_
      refine z_get X h 1 13 8 rfl inX1 rfl (by decide) fl_X4_109 rfl dX4_of_112 ?_
      refine lv_iload_n X.1 X.2.1 dX4_of_115 rfl (lv_at hl 1 rfl) ?_
      refine z_iald (v := pr A 4 px) X h 20 rfl (by omega) (by omega) (by decide) (hR.2.2.2.2.2.2 px (by omega) (by omega)) dX4_of_116 ?_
      have e9 : q_of A ph px pw = (pr A 4 px, A, ph) := by unfold q_of; (repeat (first | rw [if_pos (by omega)] | rw [if_neg (by omega)])); try (first | rfl | rw [c_16])
      exact ret _ _ _ _ _ (((iv (ik)), fd), ((hk), (nk), (k1, k2, k3, k4, k5, k6, k7, k8, k9)), ((iv (hr A)), (iv (pe A)), (xs, xi, xk, xc, xl, xr, xb, yl, yr)), ((ht), (nt), (t1, t2, t3, t4, t5, t6, t7, t8, t9)), ((iv (tn)), (e1), (e2), (e3), (e4), tp), ((iv (bq 0)), (iv (sq 0)), c0), ((iv (bq 1)), (iv (sq 1)), c1), ((iv (bq 2)), (iv (sq 2)), c2), ((iv (bq 3)), (iv (sq 3)), c3)) h (by rw [e9]; exact ⟨rfl, ⟨rfl, rfl, hR, hI, hr9⟩, hK, hF, hT, hB⟩) dX4_of_117
    · refine z_tabIn (tgt := 118) X 5 c_16 ⟨by decide, by decide⟩ (by decide) (by decide) dX4_of_16 rfl (by decide) ?_
      refine lv_aload_n X.1 X.2.1 dX4_of_118 rfl (lv_at hl 0 rfl) ?_
      refine z_get X h 3 0 0 rfl inX4 rfl (by decide) fl_X4_10 rfl dX4_of_119 ?_
      refine lv_iload_n X.1 X.2.1 dX4_of_122 rfl (lv_at hl 1 rfl) ?_
      refine z_pi (run_V (rest := []) X (st_in (st_in (st_nil h))) (c_X1_fadesOf (p := px) hR hI hh (by omega) (by omega)) mi_X1_fadesOf ml_X4_112 ⟨Nat.le_of_ble_eq_true rfl, Nat.le_of_ble_eq_true rfl⟩ ⟨rfl, rfl⟩ (Seg.mk' _ _) 1 13 rfl rfl rfl rfl hl.1 rfl (Nat.le_of_ble_eq_true rfl) ⟨Nat.zero_le _, Nat.zero_le _⟩ dX4_of_123) ?_
      have e9 : q_of A ph px pw = (fdO A px, A, ph) := by unfold q_of; (repeat (first | rw [if_pos (by omega)] | rw [if_neg (by omega)])); try (first | rfl | rw [c_16])
      exact ret _ _ _ _ _ (((iv (ik)), fd), ((hk), (nk), (k1, k2, k3, k4, k5, k6, k7, k8, k9)), ((iv (hr A)), (iv (pe A)), (xs, xi, xk, xc, xl, xr, xb, yl, yr)), ((ht), (nt), (t1, t2, t3, t4, t5, t6, t7, t8, t9)), ((iv (tn)), (e1), (e2), (e3), (e4), tp), ((iv (bq 0)), (iv (sq 0)), c0), ((iv (bq 1)), (iv (sq 1)), c1), ((iv (bq 2)), (iv (sq 2)), c2), ((iv (bq 3)), (iv (sq 3)), c3)) h (by rw [e9]; exact ⟨rfl, ⟨rfl, rfl, hR, hI, hr9⟩, hK, hF, hT, hB⟩) dX4_of_126
    · refine z_tabIn (tgt := 127) X 6 c_16 ⟨by decide, by decide⟩ (by decide) (by decide) dX4_of_16 rfl (by decide) ?_
      refine lv_aload_n X.1 X.2.1 dX4_of_127 rfl (lv_at hl 0 rfl) ?_
      refine z_get X h 3 0 0 rfl inX4 rfl (by decide) fl_X4_10 rfl dX4_of_128 ?_
      refine z_get X h 1 13 4 rfl inX1 rfl (by decide) fl_X4_97 rfl dX4_of_131 ?_
      refine lv_iload_n X.1 X.2.1 dX4_of_134 rfl (lv_at hl 1 rfl) ?_
      refine z_iald (v := pr A 0 px) X h 16 rfl (by omega) (by omega) (by decide) (hR.2.2.1 px (by omega) (by omega)) dX4_of_135 ?_
      refine z_pi (run_S (rest := []) X h (c_X3_burnsFrom (k := pr A 0 px) (by omega) (by omega)) mi_X3_burnsFrom ml_X4_115 ⟨Nat.le_of_ble_eq_true rfl, Nat.le_of_ble_eq_true rfl⟩ ⟨rfl, rfl⟩ (Seg.nil _) rfl hl.1 rfl (Nat.le_of_ble_eq_true rfl) ⟨Nat.zero_le _, Nat.zero_le _⟩ dX4_of_136) ?_
      have e9 : q_of A ph px pw = (burnF (pr A 0 px), A, ph) := by unfold q_of; (repeat (first | rw [if_pos (by omega)] | rw [if_neg (by omega)])); try (first | rfl | rw [c_16])
      exact ret _ _ _ _ _ (((iv (ik)), fd), ((hk), (nk), (k1, k2, k3, k4, k5, k6, k7, k8, k9)), ((iv (hr A)), (iv (pe A)), (xs, xi, xk, xc, xl, xr, xb, yl, yr)), ((ht), (nt), (t1, t2, t3, t4, t5, t6, t7, t8, t9)), ((iv (tn)), (e1), (e2), (e3), (e4), tp), ((iv (bq 0)), (iv (sq 0)), c0), ((iv (bq 1)), (iv (sq 1)), c1), ((iv (bq 2)), (iv (sq 2)), c2), ((iv (bq 3)), (iv (sq 3)), c3)) h (by rw [e9]; exact ⟨rfl, ⟨rfl, rfl, hR, hI, hr9⟩, hK, hF, hT, hB⟩) dX4_of_139
    · refine z_tabIn (tgt := 140) X 7 c_16 ⟨by decide, by decide⟩ (by decide) (by decide) dX4_of_16 rfl (by decide) ?_
      refine lv_aload_n X.1 X.2.1 dX4_of_140 rfl (lv_at hl 0 rfl) ?_
      refine z_get X h 3 0 0 rfl inX4 rfl (by decide) fl_X4_10 rfl dX4_of_141 ?_
      refine lv_iload_n X.1 X.2.1 dX4_of_144 rfl (lv_at hl 1 rfl) ?_
      refine z_iconst X dX4_of_145 ?_
      refine z_pi (run_V (rest := []) X (st_in (st_in (st_nil h))) (c_X1_neighbour (p := px) (d := (-1)) hR hI (by omega) (by omega) (by omega) (by omega)) mi_X1_neighbour ml_X4_120 ⟨Nat.le_of_ble_eq_true rfl, Nat.le_of_ble_eq_true rfl⟩ ⟨rfl, rfl⟩ (Seg.mk' _ _) 1 13 rfl rfl rfl rfl hl.1 rfl (Nat.le_of_ble_eq_true rfl) ⟨Nat.zero_le _, Nat.zero_le _⟩ dX4_of_146) ?_
      have e9 : q_of A ph px pw = (nb A px ((-1)), A, ph) := by unfold q_of; (repeat (first | rw [if_pos (by omega)] | rw [if_neg (by omega)])); try (first | rfl | rw [c_16])
      exact ret _ _ _ _ _ (((iv (ik)), fd), ((hk), (nk), (k1, k2, k3, k4, k5, k6, k7, k8, k9)), ((iv (hr A)), (iv (pe A)), (xs, xi, xk, xc, xl, xr, xb, yl, yr)), ((ht), (nt), (t1, t2, t3, t4, t5, t6, t7, t8, t9)), ((iv (tn)), (e1), (e2), (e3), (e4), tp), ((iv (bq 0)), (iv (sq 0)), c0), ((iv (bq 1)), (iv (sq 1)), c1), ((iv (bq 2)), (iv (sq 2)), c2), ((iv (bq 3)), (iv (sq 3)), c3)) h (by rw [e9]; exact ⟨rfl, ⟨rfl, rfl, hR, hI, hr9⟩, hK, hF, hT, hB⟩) dX4_of_149
    · refine z_tabIn (tgt := 150) X 8 c_16 ⟨by decide, by decide⟩ (by decide) (by decide) dX4_of_16 rfl (by decide) ?_
      refine lv_aload_n X.1 X.2.1 dX4_of_150 rfl (lv_at hl 0 rfl) ?_
      refine z_get X h 3 0 0 rfl inX4 rfl (by decide) fl_X4_10 rfl dX4_of_151 ?_
      refine lv_iload_n X.1 X.2.1 dX4_of_154 rfl (lv_at hl 1 rfl) ?_
      refine z_iconst X dX4_of_155 ?_
      refine z_pi (run_V (rest := []) X (st_in (st_in (st_nil h))) (c_X1_neighbour (p := px) (d := 1) hR hI (by omega) (by omega) (by omega) (by omega)) mi_X1_neighbour ml_X4_120 ⟨Nat.le_of_ble_eq_true rfl, Nat.le_of_ble_eq_true rfl⟩ ⟨rfl, rfl⟩ (Seg.mk' _ _) 1 13 rfl rfl rfl rfl hl.1 rfl (Nat.le_of_ble_eq_true rfl) ⟨Nat.zero_le _, Nat.zero_le _⟩ dX4_of_156) ?_
      have e9 : q_of A ph px pw = (nb A px 1, A, ph) := by unfold q_of; (repeat (first | rw [if_pos (by omega)] | rw [if_neg (by omega)])); try (first | rfl | rw [c_16])
      exact ret _ _ _ _ _ (((iv (ik)), fd), ((hk), (nk), (k1, k2, k3, k4, k5, k6, k7, k8, k9)), ((iv (hr A)), (iv (pe A)), (xs, xi, xk, xc, xl, xr, xb, yl, yr)), ((ht), (nt), (t1, t2, t3, t4, t5, t6, t7, t8, t9)), ((iv (tn)), (e1), (e2), (e3), (e4), tp), ((iv (bq 0)), (iv (sq 0)), c0), ((iv (bq 1)), (iv (sq 1)), c1), ((iv (bq 2)), (iv (sq 2)), c2), ((iv (bq 3)), (iv (sq 3)), c3)) h (by rw [e9]; exact ⟨rfl, ⟨rfl, rfl, hR, hI, hr9⟩, hK, hF, hT, hB⟩) dX4_of_159
    · refine z_tabOut (tgt := 160) X r_pw c_16 dX4_of_16 (by decide) ?_
      refine lv_aload_n X.1 X.2.1 dX4_of_160 rfl (lv_at hl 0 rfl) ?_
      refine z_ldc (z := (-1000000001)) X ct_X4_48 (by decide) dX4_of_161 ?_
      refine z_wi (st_sing (st_nil h)) (run_V (rest := []) X (st_sing (st_nil h)) (c_X4_finding (j := 0) hF (by decide) (by decide) (by decide)) mi_X4_finding ml_X4_49 ⟨Nat.le_of_ble_eq_true rfl, Nat.le_of_ble_eq_true rfl⟩ ⟨rfl, rfl⟩ (Seg.mk' _ _) 3 0 rfl rfl rfl rfl hl.1 rfl (Nat.le_of_ble_eq_true rfl) ⟨Nat.zero_le _, Nat.zero_le _⟩ dX4_of_163) (fun _ => map_app (wO_map _ _ _ _ _ _ _ _ _ _ _) rfl) (fun r fd1 H locs hp h => ?_)
      have h := (st_lin (st_gnis h))
      obtain ⟨rfl, hF1⟩ := hp
      have h : St E _ s H locs (wO E a k b t x q ((iv (ik))) fd1 ++ (wS E k ((hk)) ((nk)) (k1, k2, k3, k4, k5, k6, k7, k8, k9) ++ (wS E b ((iv (hr A))) ((iv (pe A))) (xs, xi, xk, xc, xl, xr, xb, yl, yr) ++ (wS E t ((ht)) ((nt)) (t1, t2, t3, t4, t5, t6, t7, t8, t9) ++ (wX E x ((iv (tn))) ((e1)) ((e2)) ((e3)) ((e4)) tp ++ (wH E (q 0) ((iv (bq 0))) ((iv (sq 0))) c0 ++ (wH E (q 1) ((iv (bq 1))) ((iv (sq 1))) c1 ++ (wH E (q 2) ((iv (bq 2))) ((iv (sq 2))) c2 ++ (wH E (q 3) ((iv (bq 3))) ((iv (sq 3))) c3 ++ []))))))))) := h
      have e9 : q_of A ph px pw = ((-1000000001), A, (bump ph 0)) := by unfold q_of; (repeat (first | rw [if_pos (by omega)] | rw [if_neg (by omega)])); try (first | rfl | rw [c_16])
      exact ret _ _ _ _ _ (((iv (ik)), fd1), ((hk), (nk), (k1, k2, k3, k4, k5, k6, k7, k8, k9)), ((iv (hr A)), (iv (pe A)), (xs, xi, xk, xc, xl, xr, xb, yl, yr)), ((ht), (nt), (t1, t2, t3, t4, t5, t6, t7, t8, t9)), ((iv (tn)), (e1), (e2), (e3), (e4), tp), ((iv (bq 0)), (iv (sq 0)), c0), ((iv (bq 1)), (iv (sq 1)), c1), ((iv (bq 2)), (iv (sq 2)), c2), ((iv (bq 3)), (iv (sq 3)), c3)) h (by rw [e9]; exact ⟨rfl, ⟨rfl, rfl, hR, hI, hr9⟩, hK, hF1, hT, hB⟩) dX4_of_166
  · refine lv_aload_n X.1 X.2.1 dX4_of_8 rfl (lv_at hl 0 rfl) ?_
    refine z_ldc (z := (-1000000001)) X ct_X4_48 (by decide) dX4_of_9 ?_
    refine z_wi (st_sing (st_nil h)) (run_V (rest := []) X (st_sing (st_nil h)) (c_X4_finding (j := 0) hF (by decide) (by decide) (by decide)) mi_X4_finding ml_X4_49 ⟨Nat.le_of_ble_eq_true rfl, Nat.le_of_ble_eq_true rfl⟩ ⟨rfl, rfl⟩ (Seg.mk' _ _) 3 0 rfl rfl rfl rfl hl.1 rfl (Nat.le_of_ble_eq_true rfl) ⟨Nat.zero_le _, Nat.zero_le _⟩ dX4_of_11) (fun _ => map_app (wO_map _ _ _ _ _ _ _ _ _ _ _) rfl) (fun r fd2 H locs hp h => ?_)
    have h := (st_lin (st_gnis h))
    obtain ⟨rfl, hF2⟩ := hp
    have h : St E _ s H locs (wO E a k b t x q ((iv (ik))) fd2 ++ (wS E k ((hk)) ((nk)) (k1, k2, k3, k4, k5, k6, k7, k8, k9) ++ (wS E b ((iv (hr A))) ((iv (pe A))) (xs, xi, xk, xc, xl, xr, xb, yl, yr) ++ (wS E t ((ht)) ((nt)) (t1, t2, t3, t4, t5, t6, t7, t8, t9) ++ (wX E x ((iv (tn))) ((e1)) ((e2)) ((e3)) ((e4)) tp ++ (wH E (q 0) ((iv (bq 0))) ((iv (sq 0))) c0 ++ (wH E (q 1) ((iv (bq 1))) ((iv (sq 1))) c1 ++ (wH E (q 2) ((iv (bq 2))) ((iv (sq 2))) c2 ++ (wH E (q 3) ((iv (bq 3))) ((iv (sq 3))) c3 ++ []))))))))) := h
    have e9 : q_of A ph px pw = ((-1000000001), A, (bump ph 0)) := by unfold q_of; (repeat (first | rw [if_pos (by omega)] | rw [if_neg (by omega)])); try (first | rfl | rw [c_16])
    exact ret _ _ _ _ _ (((iv (ik)), fd2), ((hk), (nk), (k1, k2, k3, k4, k5, k6, k7, k8, k9)), ((iv (hr A)), (iv (pe A)), (xs, xi, xk, xc, xl, xr, xb, yl, yr)), ((ht), (nt), (t1, t2, t3, t4, t5, t6, t7, t8, t9)), ((iv (tn)), (e1), (e2), (e3), (e4), tp), ((iv (bq 0)), (iv (sq 0)), c0), ((iv (bq 1)), (iv (sq 1)), c1), ((iv (bq 2)), (iv (sq 2)), c2), ((iv (bq 3)), (iv (sq 3)), c3)) h (by rw [e9]; exact ⟨rfl, ⟨rfl, rfl, hR, hI, hr9⟩, hK, hF2, hT, hB⟩) dX4_of_14

set_option maxHeartbeats 4000000 in
theorem c_X4_set (hS : RepC (((iv (ik)), fd), ((hk), (nk), (k1, k2, k3, k4, k5, k6, k7, k8, k9)), ((iv (hr A)), (iv (pe A)), (xs, xi, xk, xc, xl, xr, xb, yl, yr)), ((ht), (nt), (t1, t2, t3, t4, t5, t6, t7, t8, t9)), ((iv (tn)), (e1), (e2), (e3), (e4), tp), ((iv (bq 0)), (iv (sq 0)), c0), ((iv (bq 1)), (iv (sq 1)), c1), ((iv (bq 2)), (iv (sq 2)), c2), ((iv (bq 3)), (iv (sq 3)), c3)) (A, K, ik, ph, tq, tn, bq, sq, cq)) {px : Int} (r_px : r32 px) {pw : Int} (r_pw : r32 pw) {pv : Int} (r_pv : r32 pv) : MI (S := Tc) E l yX4_set cX4_set 6 (some FieldType.int) (rmk 2 44) (wO E a k b t x q ((iv (ik))) fd ++ (wS E k ((hk)) ((nk)) (k1, k2, k3, k4, k5, k6, k7, k8, k9) ++ (wS E b ((iv (hr A))) ((iv (pe A))) (xs, xi, xk, xc, xl, xr, xb, yl, yr) ++ (wS E t ((ht)) ((nt)) (t1, t2, t3, t4, t5, t6, t7, t8, t9) ++ (wX E x ((iv (tn))) ((e1)) ((e2)) ((e3)) ((e4)) tp ++ (wH E (q 0) ((iv (bq 0))) ((iv (sq 0))) c0 ++ (wH E (q 1) ((iv (bq 1))) ((iv (sq 1))) c1 ++ (wH E (q 2) ((iv (bq 2))) ((iv (sq 2))) c2 ++ (wH E (q 3) ((iv (bq 3))) ((iv (sq 3))) c3 ++ []))))))))) [.ref (a 0), .int (iv (px)), .int (iv (pw)), .int (iv (pv))] (fun r u => r = iv (q_set A ph px pw pv).1 ∧ RepC u ((q_set A ph px pw pv).2.1, K, ik, (q_set A ph px pw pv).2.2, tq, tn, bq, sq, cq)) (fun u => wT E a k b t x q u) := by
  refine goI (S := Tc) (post := fun r u => r = iv (q_set A ph px pw pv).1 ∧ RepC u ((q_set A ph px pw pv).2.1, K, ik, (q_set A ph px pw pv).2.2, tq, tn, bq, sq, cq)) (ws' := fun u => wT E a k b t x q u) (by decide) (Nat.le_of_ble_eq_true rfl) ?_
  intro pp e s m below meth c ls args Q ret X h hl
  have hl : lv_has ls 6 [(0, .ref (a 0)), (1, .int (iv (px))), (2, .int (iv (pw))), (3, .int (iv (pv)))] := hl
  have hR : RS (xs, xi, xk, xc, xl, xr, xb, yl, yr) A := hS.1.2.2.1
  have hI : IA A := hS.1.2.2.2.1
  have hr9 : hr A ≤ 99999 := hS.1.2.2.2.2
  have hF : RF 7 fd ph := hS.2.2.1
  have hK := hS.2.1
  have hT := hS.2.2.2.1
  have hB := hS.2.2.2.2
  have hh : hr A < 1000000 := by omega
  have n8 := hI.n8
  have n0 := hI.n0
  have h0 := hI.h0
  refine lv_aload_n X.1 X.2.1 dX4_set_0 rfl (lv_at hl 0 rfl) ?_
  refine lv_iload_n X.1 X.2.1 dX4_set_1 rfl (lv_at hl 1 rfl) ?_
  refine z_pi (run_V (rest := []) X h (c_X4_isPerson (p := px) hI r_px) mi_X4_isPerson ml_X4_94 ⟨Nat.le_of_ble_eq_true rfl, Nat.le_of_ble_eq_true rfl⟩ ⟨rfl, rfl⟩ (Seg.rfl' _) 3 0 rfl rfl rfl rfl hl.1 rfl (Nat.le_of_ble_eq_true rfl) ⟨Nat.zero_le _, Nat.zero_le _⟩ dX4_set_2) ?_
  refine z_ifb_eq (tgt := 17) X dX4_set_5 (by decide) (fun c_5 => ?_) (fun c_5 => ?_)
  · refine lv_aload_n X.1 X.2.1 dX4_set_17 rfl (lv_at hl 0 rfl) ?_
    refine z_ldc (z := (-1000000001)) X ct_X4_48 (by decide) dX4_set_18 ?_
    refine z_wi (st_sing (st_nil h)) (run_V (rest := []) X (st_sing (st_nil h)) (c_X4_finding (j := 0) hF (by decide) (by decide) (by decide)) mi_X4_finding ml_X4_49 ⟨Nat.le_of_ble_eq_true rfl, Nat.le_of_ble_eq_true rfl⟩ ⟨rfl, rfl⟩ (Seg.mk' _ _) 3 0 rfl rfl rfl rfl hl.1 rfl (Nat.le_of_ble_eq_true rfl) ⟨Nat.zero_le _, Nat.zero_le _⟩ dX4_set_20) (fun _ => map_app (wO_map _ _ _ _ _ _ _ _ _ _ _) rfl) (fun r fd1 H locs hp h => ?_)
    have h := (st_lin (st_gnis h))
    obtain ⟨rfl, hF1⟩ := hp
    have h : St E _ s H locs (wO E a k b t x q ((iv (ik))) fd1 ++ (wS E k ((hk)) ((nk)) (k1, k2, k3, k4, k5, k6, k7, k8, k9) ++ (wS E b ((iv (hr A))) ((iv (pe A))) (xs, xi, xk, xc, xl, xr, xb, yl, yr) ++ (wS E t ((ht)) ((nt)) (t1, t2, t3, t4, t5, t6, t7, t8, t9) ++ (wX E x ((iv (tn))) ((e1)) ((e2)) ((e3)) ((e4)) tp ++ (wH E (q 0) ((iv (bq 0))) ((iv (sq 0))) c0 ++ (wH E (q 1) ((iv (bq 1))) ((iv (sq 1))) c1 ++ (wH E (q 2) ((iv (bq 2))) ((iv (sq 2))) c2 ++ (wH E (q 3) ((iv (bq 3))) ((iv (sq 3))) c3 ++ []))))))))) := h
    have e9 : q_set A ph px pw pv = ((-1000000001), A, (bump ph 0)) := by first | (exfalso; omega) | (unfold q_set; first | (rw [if_pos (by simp only [show pw = 4 by omega, if_true]; omega), show pw = 4 by omega]; done) | (rw [if_pos (by simp only [show ¬ pw = 4 by omega, if_false]; omega)]; first | (rw [show pw = 2 by omega]; done) | (rw [show pw = 3 by omega]; done)) | (rw [if_neg (by split <;> omega)]; rfl))
    exact ret _ _ _ _ _ (((iv (ik)), fd1), ((hk), (nk), (k1, k2, k3, k4, k5, k6, k7, k8, k9)), ((iv (hr A)), (iv (pe A)), (xs, xi, xk, xc, xl, xr, xb, yl, yr)), ((ht), (nt), (t1, t2, t3, t4, t5, t6, t7, t8, t9)), ((iv (tn)), (e1), (e2), (e3), (e4), tp), ((iv (bq 0)), (iv (sq 0)), c0), ((iv (bq 1)), (iv (sq 1)), c1), ((iv (bq 2)), (iv (sq 2)), c2), ((iv (bq 3)), (iv (sq 3)), c3)) h (by rw [e9]; exact ⟨rfl, ⟨rfl, rfl, hR, hI, hr9⟩, hK, hF1, hT, hB⟩) dX4_set_23
  · refine lv_iload_n X.1 X.2.1 dX4_set_8 rfl (lv_at hl 2 rfl) ?_
    refine z_iconst X dX4_set_9 ?_
    refine z_iconst X dX4_set_10 ?_
    refine z_pi (run_S (rest := []) X h (c_X4_within r_pw ⟨by decide, by decide⟩ ⟨by decide, by decide⟩) mi_X4_within ml_X4_44 ⟨Nat.le_of_ble_eq_true rfl, Nat.le_of_ble_eq_true rfl⟩ ⟨rfl, rfl⟩ (Seg.nil _) rfl hl.1 rfl (Nat.le_of_ble_eq_true rfl) ⟨Nat.zero_le _, Nat.zero_le _⟩ dX4_set_11) ?_
    refine z_ifb_ne (tgt := 24) X dX4_set_14 (by decide) (fun c_14 => ?_) (fun c_14 => ?_)
    · refine lv_iload_n X.1 X.2.1 dX4_set_24 rfl (lv_at hl 3 rfl) ?_
      refine z_iconst X dX4_set_25 ?_
      refine lv_iload_n X.1 X.2.1 dX4_set_26 rfl (lv_at hl 2 rfl) ?_
      refine z_iconst X dX4_set_27 ?_
      refine z_ic_ne (tgt := 37) X r_pw ⟨by decide, by decide⟩ dX4_set_28 (by decide) (fun c_28 => ?_) (fun c_28 => ?_)
      · refine z_sipush X (by decide) dX4_set_37 ?_
        refine z_pi (run_S (rest := []) X h (c_X4_within r_pv ⟨by decide, by decide⟩ ⟨by decide, by decide⟩) mi_X4_within ml_X4_44 ⟨Nat.le_of_ble_eq_true rfl, Nat.le_of_ble_eq_true rfl⟩ ⟨rfl, rfl⟩ (Seg.nil _) rfl hl.1 rfl (Nat.le_of_ble_eq_true rfl) ⟨Nat.zero_le _, Nat.zero_le _⟩ dX4_set_40) ?_
        refine z_ifb_ne (tgt := 53) X dX4_set_43 (by decide) (fun c_43 => ?_) (fun c_43 => ?_)
        · refine lv_iload_n X.1 X.2.1 dX4_set_53 rfl (lv_at hl 2 rfl) ?_
          refine z_iconst X dX4_set_54 ?_
          refine z_ic_ne (tgt := 68) X r_pw ⟨by decide, by decide⟩ dX4_set_55 (by decide) (fun c_55 => ?_) (fun c_55 => ?_)
          · refine lv_iload_n X.1 X.2.1 dX4_set_68 rfl (lv_at hl 2 rfl) ?_
            refine z_iconst X dX4_set_69 ?_
            refine z_ic_ne (tgt := 83) X r_pw ⟨by decide, by decide⟩ dX4_set_70 (by decide) (fun c_70 => ?_) (fun c_70 => ?_)
            · refine lv_aload_n X.1 X.2.1 dX4_set_83 rfl (lv_at hl 0 rfl) ?_
              refine z_get X h 3 0 0 rfl inX4 rfl (by decide) fl_X4_10 rfl dX4_set_84 ?_
              refine z_get X h 1 13 8 rfl inX1 rfl (by decide) fl_X4_109 rfl dX4_set_87 ?_
              refine lv_astore (lv' := [(4, .ref (b 7)), (0, .ref (a 0)), (1, .int (iv (px))), (2, .int (iv (pw))), (3, .int (iv (pv)))]) X.1 X.2.1 dX4_set_90 hl (by decide) rfl (fun ls hl => ?_)
              refine lv_aload X.1 X.2.1 dX4_set_92 (lv_at hl 0 rfl) ?_
              refine lv_iload_n X.1 X.2.1 dX4_set_94 rfl (lv_at hl 2 rfl) ?_
              refine z_iald (v := pr A 4 px) X h 20 rfl (by omega) (by omega) (by decide) (hR.2.2.2.2.2.2 px (by omega) (by omega)) dX4_set_95 ?_
              refine lv_istore (lv' := [(5, .int (iv (pr A 4 px))), (4, .ref (b 7)), (0, .ref (a 0)), (1, .int (iv (px))), (2, .int (iv (pw))), (3, .int (iv (pv)))]) X.1 X.2.1 dX4_set_96 hl (by decide) rfl (fun ls hl => ?_)
              refine lv_aload X.1 X.2.1 dX4_set_98 (lv_at hl 1 rfl) ?_
              refine lv_iload_n X.1 X.2.1 dX4_set_100 rfl (lv_at hl 3 rfl) ?_
              refine lv_iload_n X.1 X.2.1 dX4_set_101 rfl (lv_at hl 5 rfl) ?_
              refine s_iast X (st_in (st_in (st_nil h))) 7 rfl (by omega) (by omega) (by decide) dX4_set_102 (fun H locs h => ?_)
              have h := (st_lin (st_out (st_out (st_eq wS_burnts h))))
              have h : St E _ s H locs (wO E a k b t x q ((iv (ik))) fd ++ (wS E k ((hk)) ((nk)) (k1, k2, k3, k4, k5, k6, k7, k8, k9) ++ (wS E b ((iv (hr A))) ((iv (pe A))) (xs, xi, xk, xc, xl, xr, (upd xb (px : Int).toNat (iv (pv))), yl, yr) ++ (wS E t ((ht)) ((nt)) (t1, t2, t3, t4, t5, t6, t7, t8, t9) ++ (wX E x ((iv (tn))) ((e1)) ((e2)) ((e3)) ((e4)) tp ++ (wH E (q 0) ((iv (bq 0))) ((iv (sq 0))) c0 ++ (wH E (q 1) ((iv (bq 1))) ((iv (sq 1))) c1 ++ (wH E (q 2) ((iv (bq 2))) ((iv (sq 2))) c2 ++ (wH E (q 3) ((iv (bq 3))) ((iv (sq 3))) c3 ++ []))))))))) := h
              have hRu : RS (xs, xi, xk, xc, xl, xr, (upd xb (px : Int).toNat (iv (pv))), yl, yr) (pu A 4 px pv) := RS_bu hR n0 (by omega)
              have hIu : IA (pu A 4 px pv) := IA_pu hI (by omega) (by omega) (by first | exact Or.inr (Or.inr (Or.inl ⟨by omega, by omega, by omega⟩)) | exact Or.inr (Or.inl ⟨by omega, by omega, by omega⟩))
              refine lv_iload X.1 X.2.1 dX4_set_103 (lv_at hl 0 rfl) ?_
              have e9 : q_set A ph px pw pv = (pr A 4 px, (pu A 4 px pv), ph) := by first | (exfalso; omega) | (unfold q_set; first | (rw [if_pos (by simp only [show pw = 4 by omega, if_true]; omega), show pw = 4 by omega]; done) | (rw [if_pos (by simp only [show ¬ pw = 4 by omega, if_false]; omega)]; first | (rw [show pw = 2 by omega]; done) | (rw [show pw = 3 by omega]; done)) | (rw [if_neg (by split <;> omega)]; rfl))
              exact ret _ _ _ _ _ (((iv (ik)), fd), ((hk), (nk), (k1, k2, k3, k4, k5, k6, k7, k8, k9)), ((iv (hr A)), (iv (pe A)), (xs, xi, xk, xc, xl, xr, (upd xb (px : Int).toNat (iv (pv))), yl, yr)), ((ht), (nt), (t1, t2, t3, t4, t5, t6, t7, t8, t9)), ((iv (tn)), (e1), (e2), (e3), (e4), tp), ((iv (bq 0)), (iv (sq 0)), c0), ((iv (bq 1)), (iv (sq 1)), c1), ((iv (bq 2)), (iv (sq 2)), c2), ((iv (bq 3)), (iv (sq 3)), c3)) h (by rw [e9]; exact ⟨rfl, ⟨rfl, rfl, hRu, hIu, hr9⟩, hK, hF, hT, hB⟩) dX4_set_105
            · refine lv_aload_n X.1 X.2.1 dX4_set_73 rfl (lv_at hl 0 rfl) ?_
              refine z_get X h 3 0 0 rfl inX4 rfl (by decide) fl_X4_10 rfl dX4_set_74 ?_
              refine z_get X h 1 13 7 rfl inX1 rfl (by decide) fl_X4_106 rfl dX4_set_77 ?_
              refine lv_goto (tgt := 90) X.1 X.2.1 dX4_set_80 (by decide) ?_
              refine lv_astore (lv' := [(4, .ref (b 6)), (0, .ref (a 0)), (1, .int (iv (px))), (2, .int (iv (pw))), (3, .int (iv (pv)))]) X.1 X.2.1 dX4_set_90 hl (by decide) rfl (fun ls hl => ?_)
              refine lv_aload X.1 X.2.1 dX4_set_92 (lv_at hl 0 rfl) ?_
              refine lv_iload_n X.1 X.2.1 dX4_set_94 rfl (lv_at hl 2 rfl) ?_
              refine z_iald (v := pr A 3 px) X h 19 rfl (by omega) (by omega) (by decide) (hR.2.2.2.2.2.1 px (by omega) (by omega)) dX4_set_95 ?_
              refine lv_istore (lv' := [(5, .int (iv (pr A 3 px))), (4, .ref (b 6)), (0, .ref (a 0)), (1, .int (iv (px))), (2, .int (iv (pw))), (3, .int (iv (pv)))]) X.1 X.2.1 dX4_set_96 hl (by decide) rfl (fun ls hl => ?_)
              refine lv_aload X.1 X.2.1 dX4_set_98 (lv_at hl 1 rfl) ?_
              refine lv_iload_n X.1 X.2.1 dX4_set_100 rfl (lv_at hl 3 rfl) ?_
              refine lv_iload_n X.1 X.2.1 dX4_set_101 rfl (lv_at hl 5 rfl) ?_
              refine s_iast X (st_in (st_in (st_nil h))) 6 rfl (by omega) (by omega) (by decide) dX4_set_102 (fun H locs h => ?_)
              have h := (st_lin (st_out (st_out (st_eq wS_rights h))))
              have h : St E _ s H locs (wO E a k b t x q ((iv (ik))) fd ++ (wS E k ((hk)) ((nk)) (k1, k2, k3, k4, k5, k6, k7, k8, k9) ++ (wS E b ((iv (hr A))) ((iv (pe A))) (xs, xi, xk, xc, xl, (upd xr (px : Int).toNat (iv (pv))), xb, yl, yr) ++ (wS E t ((ht)) ((nt)) (t1, t2, t3, t4, t5, t6, t7, t8, t9) ++ (wX E x ((iv (tn))) ((e1)) ((e2)) ((e3)) ((e4)) tp ++ (wH E (q 0) ((iv (bq 0))) ((iv (sq 0))) c0 ++ (wH E (q 1) ((iv (bq 1))) ((iv (sq 1))) c1 ++ (wH E (q 2) ((iv (bq 2))) ((iv (sq 2))) c2 ++ (wH E (q 3) ((iv (bq 3))) ((iv (sq 3))) c3 ++ []))))))))) := h
              have hRu : RS (xs, xi, xk, xc, xl, (upd xr (px : Int).toNat (iv (pv))), xb, yl, yr) (pu A 3 px pv) := RS_ri hR n0 (by omega)
              have hIu : IA (pu A 3 px pv) := IA_pu hI (by omega) (by omega) (by first | exact Or.inr (Or.inr (Or.inl ⟨by omega, by omega, by omega⟩)) | exact Or.inr (Or.inl ⟨by omega, by omega, by omega⟩))
              refine lv_iload X.1 X.2.1 dX4_set_103 (lv_at hl 0 rfl) ?_
              have e9 : q_set A ph px pw pv = (pr A 3 px, (pu A 3 px pv), ph) := by first | (exfalso; omega) | (unfold q_set; first | (rw [if_pos (by simp only [show pw = 4 by omega, if_true]; omega), show pw = 4 by omega]; done) | (rw [if_pos (by simp only [show ¬ pw = 4 by omega, if_false]; omega)]; first | (rw [show pw = 2 by omega]; done) | (rw [show pw = 3 by omega]; done)) | (rw [if_neg (by split <;> omega)]; rfl))
              exact ret _ _ _ _ _ (((iv (ik)), fd), ((hk), (nk), (k1, k2, k3, k4, k5, k6, k7, k8, k9)), ((iv (hr A)), (iv (pe A)), (xs, xi, xk, xc, xl, (upd xr (px : Int).toNat (iv (pv))), xb, yl, yr)), ((ht), (nt), (t1, t2, t3, t4, t5, t6, t7, t8, t9)), ((iv (tn)), (e1), (e2), (e3), (e4), tp), ((iv (bq 0)), (iv (sq 0)), c0), ((iv (bq 1)), (iv (sq 1)), c1), ((iv (bq 2)), (iv (sq 2)), c2), ((iv (bq 3)), (iv (sq 3)), c3)) h (by rw [e9]; exact ⟨rfl, ⟨rfl, rfl, hRu, hIu, hr9⟩, hK, hF, hT, hB⟩) dX4_set_105
          · refine lv_aload_n X.1 X.2.1 dX4_set_58 rfl (lv_at hl 0 rfl) ?_
            refine z_get X h 3 0 0 rfl inX4 rfl (by decide) fl_X4_10 rfl dX4_set_59 ?_
            refine z_get X h 1 13 6 rfl inX1 rfl (by decide) fl_X4_103 rfl dX4_set_62 ?_
            refine lv_goto (tgt := 90) X.1 X.2.1 dX4_set_65 (by decide) ?_
            refine lv_astore (lv' := [(4, .ref (b 5)), (0, .ref (a 0)), (1, .int (iv (px))), (2, .int (iv (pw))), (3, .int (iv (pv)))]) X.1 X.2.1 dX4_set_90 hl (by decide) rfl (fun ls hl => ?_)
            refine lv_aload X.1 X.2.1 dX4_set_92 (lv_at hl 0 rfl) ?_
            refine lv_iload_n X.1 X.2.1 dX4_set_94 rfl (lv_at hl 2 rfl) ?_
            refine z_iald (v := pr A 2 px) X h 18 rfl (by omega) (by omega) (by decide) (hR.2.2.2.2.1 px (by omega) (by omega)) dX4_set_95 ?_
            refine lv_istore (lv' := [(5, .int (iv (pr A 2 px))), (4, .ref (b 5)), (0, .ref (a 0)), (1, .int (iv (px))), (2, .int (iv (pw))), (3, .int (iv (pv)))]) X.1 X.2.1 dX4_set_96 hl (by decide) rfl (fun ls hl => ?_)
            refine lv_aload X.1 X.2.1 dX4_set_98 (lv_at hl 1 rfl) ?_
            refine lv_iload_n X.1 X.2.1 dX4_set_100 rfl (lv_at hl 3 rfl) ?_
            refine lv_iload_n X.1 X.2.1 dX4_set_101 rfl (lv_at hl 5 rfl) ?_
            refine s_iast X (st_in (st_in (st_nil h))) 5 rfl (by omega) (by omega) (by decide) dX4_set_102 (fun H locs h => ?_)
            have h := (st_lin (st_out (st_out (st_eq wS_lefts h))))
            have h : St E _ s H locs (wO E a k b t x q ((iv (ik))) fd ++ (wS E k ((hk)) ((nk)) (k1, k2, k3, k4, k5, k6, k7, k8, k9) ++ (wS E b ((iv (hr A))) ((iv (pe A))) (xs, xi, xk, xc, (upd xl (px : Int).toNat (iv (pv))), xr, xb, yl, yr) ++ (wS E t ((ht)) ((nt)) (t1, t2, t3, t4, t5, t6, t7, t8, t9) ++ (wX E x ((iv (tn))) ((e1)) ((e2)) ((e3)) ((e4)) tp ++ (wH E (q 0) ((iv (bq 0))) ((iv (sq 0))) c0 ++ (wH E (q 1) ((iv (bq 1))) ((iv (sq 1))) c1 ++ (wH E (q 2) ((iv (bq 2))) ((iv (sq 2))) c2 ++ (wH E (q 3) ((iv (bq 3))) ((iv (sq 3))) c3 ++ []))))))))) := h
            have hRu : RS (xs, xi, xk, xc, (upd xl (px : Int).toNat (iv (pv))), xr, xb, yl, yr) (pu A 2 px pv) := RS_le hR n0 (by omega)
            have hIu : IA (pu A 2 px pv) := IA_pu hI (by omega) (by omega) (by first | exact Or.inr (Or.inr (Or.inl ⟨by omega, by omega, by omega⟩)) | exact Or.inr (Or.inl ⟨by omega, by omega, by omega⟩))
            refine lv_iload X.1 X.2.1 dX4_set_103 (lv_at hl 0 rfl) ?_
            have e9 : q_set A ph px pw pv = (pr A 2 px, (pu A 2 px pv), ph) := by first | (exfalso; omega) | (unfold q_set; first | (rw [if_pos (by simp only [show pw = 4 by omega, if_true]; omega), show pw = 4 by omega]; done) | (rw [if_pos (by simp only [show ¬ pw = 4 by omega, if_false]; omega)]; first | (rw [show pw = 2 by omega]; done) | (rw [show pw = 3 by omega]; done)) | (rw [if_neg (by split <;> omega)]; rfl))
            exact ret _ _ _ _ _ (((iv (ik)), fd), ((hk), (nk), (k1, k2, k3, k4, k5, k6, k7, k8, k9)), ((iv (hr A)), (iv (pe A)), (xs, xi, xk, xc, (upd xl (px : Int).toNat (iv (pv))), xr, xb, yl, yr)), ((ht), (nt), (t1, t2, t3, t4, t5, t6, t7, t8, t9)), ((iv (tn)), (e1), (e2), (e3), (e4), tp), ((iv (bq 0)), (iv (sq 0)), c0), ((iv (bq 1)), (iv (sq 1)), c1), ((iv (bq 2)), (iv (sq 2)), c2), ((iv (bq 3)), (iv (sq 3)), c3)) h (by rw [e9]; exact ⟨rfl, ⟨rfl, rfl, hRu, hIu, hr9⟩, hK, hF, hT, hB⟩) dX4_set_105
        · refine lv_aload_n X.1 X.2.1 dX4_set_46 rfl (lv_at hl 0 rfl) ?_
          refine z_ldc (z := (-1000000001)) X ct_X4_48 (by decide) dX4_set_47 ?_
          refine z_wi (st_sing (st_nil h)) (run_V (rest := []) X (st_sing (st_nil h)) (c_X4_finding (j := 0) hF (by decide) (by decide) (by decide)) mi_X4_finding ml_X4_49 ⟨Nat.le_of_ble_eq_true rfl, Nat.le_of_ble_eq_true rfl⟩ ⟨rfl, rfl⟩ (Seg.mk' _ _) 3 0 rfl rfl rfl rfl hl.1 rfl (Nat.le_of_ble_eq_true rfl) ⟨Nat.zero_le _, Nat.zero_le _⟩ dX4_set_49) (fun _ => map_app (wO_map _ _ _ _ _ _ _ _ _ _ _) rfl) (fun r fd2 H locs hp h => ?_)
          have h := (st_lin (st_gnis h))
          obtain ⟨rfl, hF2⟩ := hp
          have h : St E _ s H locs (wO E a k b t x q ((iv (ik))) fd2 ++ (wS E k ((hk)) ((nk)) (k1, k2, k3, k4, k5, k6, k7, k8, k9) ++ (wS E b ((iv (hr A))) ((iv (pe A))) (xs, xi, xk, xc, xl, xr, xb, yl, yr) ++ (wS E t ((ht)) ((nt)) (t1, t2, t3, t4, t5, t6, t7, t8, t9) ++ (wX E x ((iv (tn))) ((e1)) ((e2)) ((e3)) ((e4)) tp ++ (wH E (q 0) ((iv (bq 0))) ((iv (sq 0))) c0 ++ (wH E (q 1) ((iv (bq 1))) ((iv (sq 1))) c1 ++ (wH E (q 2) ((iv (bq 2))) ((iv (sq 2))) c2 ++ (wH E (q 3) ((iv (bq 3))) ((iv (sq 3))) c3 ++ []))))))))) := h
          have e9 : q_set A ph px pw pv = ((-1000000001), A, (bump ph 0)) := by first | (exfalso; omega) | (unfold q_set; first | (rw [if_pos (by simp only [show pw = 4 by omega, if_true]; omega), show pw = 4 by omega]; done) | (rw [if_pos (by simp only [show ¬ pw = 4 by omega, if_false]; omega)]; first | (rw [show pw = 2 by omega]; done) | (rw [show pw = 3 by omega]; done)) | (rw [if_neg (by split <;> omega)]; rfl))
          exact ret _ _ _ _ _ (((iv (ik)), fd2), ((hk), (nk), (k1, k2, k3, k4, k5, k6, k7, k8, k9)), ((iv (hr A)), (iv (pe A)), (xs, xi, xk, xc, xl, xr, xb, yl, yr)), ((ht), (nt), (t1, t2, t3, t4, t5, t6, t7, t8, t9)), ((iv (tn)), (e1), (e2), (e3), (e4), tp), ((iv (bq 0)), (iv (sq 0)), c0), ((iv (bq 1)), (iv (sq 1)), c1), ((iv (bq 2)), (iv (sq 2)), c2), ((iv (bq 3)), (iv (sq 3)), c3)) h (by rw [e9]; exact ⟨rfl, ⟨rfl, rfl, hR, hI, hr9⟩, hK, hF2, hT, hB⟩) dX4_set_52
      · refine z_sipush X (by decide) dX4_set_31 ?_
        refine lv_goto (tgt := 40) X.1 X.2.1 dX4_set_34 (by decide) ?_
        refine z_pi (run_S (rest := []) X h (c_X4_within r_pv ⟨by decide, by decide⟩ ⟨by decide, by decide⟩) mi_X4_within ml_X4_44 ⟨Nat.le_of_ble_eq_true rfl, Nat.le_of_ble_eq_true rfl⟩ ⟨rfl, rfl⟩ (Seg.nil _) rfl hl.1 rfl (Nat.le_of_ble_eq_true rfl) ⟨Nat.zero_le _, Nat.zero_le _⟩ dX4_set_40) ?_
        refine z_ifb_ne (tgt := 53) X dX4_set_43 (by decide) (fun c_43 => ?_) (fun c_43 => ?_)
        · refine lv_iload_n X.1 X.2.1 dX4_set_53 rfl (lv_at hl 2 rfl) ?_
          refine z_iconst X dX4_set_54 ?_
          refine z_ic_ne (tgt := 68) X r_pw ⟨by decide, by decide⟩ dX4_set_55 (by decide) (fun c_55 => ?_) (fun c_55 => ?_)
          · refine lv_iload_n X.1 X.2.1 dX4_set_68 rfl (lv_at hl 2 rfl) ?_
            refine z_iconst X dX4_set_69 ?_
            refine z_ic_ne (tgt := 83) X r_pw ⟨by decide, by decide⟩ dX4_set_70 (by decide) (fun c_70 => ?_) (fun c_70 => ?_)
            · refine lv_aload_n X.1 X.2.1 dX4_set_83 rfl (lv_at hl 0 rfl) ?_
              refine z_get X h 3 0 0 rfl inX4 rfl (by decide) fl_X4_10 rfl dX4_set_84 ?_
              refine z_get X h 1 13 8 rfl inX1 rfl (by decide) fl_X4_109 rfl dX4_set_87 ?_
              refine lv_astore (lv' := [(4, .ref (b 7)), (0, .ref (a 0)), (1, .int (iv (px))), (2, .int (iv (pw))), (3, .int (iv (pv)))]) X.1 X.2.1 dX4_set_90 hl (by decide) rfl (fun ls hl => ?_)
              refine lv_aload X.1 X.2.1 dX4_set_92 (lv_at hl 0 rfl) ?_
              refine lv_iload_n X.1 X.2.1 dX4_set_94 rfl (lv_at hl 2 rfl) ?_
              refine z_iald (v := pr A 4 px) X h 20 rfl (by omega) (by omega) (by decide) (hR.2.2.2.2.2.2 px (by omega) (by omega)) dX4_set_95 ?_
              refine lv_istore (lv' := [(5, .int (iv (pr A 4 px))), (4, .ref (b 7)), (0, .ref (a 0)), (1, .int (iv (px))), (2, .int (iv (pw))), (3, .int (iv (pv)))]) X.1 X.2.1 dX4_set_96 hl (by decide) rfl (fun ls hl => ?_)
              refine lv_aload X.1 X.2.1 dX4_set_98 (lv_at hl 1 rfl) ?_
              refine lv_iload_n X.1 X.2.1 dX4_set_100 rfl (lv_at hl 3 rfl) ?_
              refine lv_iload_n X.1 X.2.1 dX4_set_101 rfl (lv_at hl 5 rfl) ?_
              refine s_iast X (st_in (st_in (st_nil h))) 7 rfl (by omega) (by omega) (by decide) dX4_set_102 (fun H locs h => ?_)
              have h := (st_lin (st_out (st_out (st_eq wS_burnts h))))
              have h : St E _ s H locs (wO E a k b t x q ((iv (ik))) fd ++ (wS E k ((hk)) ((nk)) (k1, k2, k3, k4, k5, k6, k7, k8, k9) ++ (wS E b ((iv (hr A))) ((iv (pe A))) (xs, xi, xk, xc, xl, xr, (upd xb (px : Int).toNat (iv (pv))), yl, yr) ++ (wS E t ((ht)) ((nt)) (t1, t2, t3, t4, t5, t6, t7, t8, t9) ++ (wX E x ((iv (tn))) ((e1)) ((e2)) ((e3)) ((e4)) tp ++ (wH E (q 0) ((iv (bq 0))) ((iv (sq 0))) c0 ++ (wH E (q 1) ((iv (bq 1))) ((iv (sq 1))) c1 ++ (wH E (q 2) ((iv (bq 2))) ((iv (sq 2))) c2 ++ (wH E (q 3) ((iv (bq 3))) ((iv (sq 3))) c3 ++ []))))))))) := h
              have hRu : RS (xs, xi, xk, xc, xl, xr, (upd xb (px : Int).toNat (iv (pv))), yl, yr) (pu A 4 px pv) := RS_bu hR n0 (by omega)
              have hIu : IA (pu A 4 px pv) := IA_pu hI (by omega) (by omega) (by first | exact Or.inr (Or.inr (Or.inl ⟨by omega, by omega, by omega⟩)) | exact Or.inr (Or.inl ⟨by omega, by omega, by omega⟩))
              refine lv_iload X.1 X.2.1 dX4_set_103 (lv_at hl 0 rfl) ?_
              have e9 : q_set A ph px pw pv = (pr A 4 px, (pu A 4 px pv), ph) := by first | (exfalso; omega) | (unfold q_set; first | (rw [if_pos (by simp only [show pw = 4 by omega, if_true]; omega), show pw = 4 by omega]; done) | (rw [if_pos (by simp only [show ¬ pw = 4 by omega, if_false]; omega)]; first | (rw [show pw = 2 by omega]; done) | (rw [show pw = 3 by omega]; done)) | (rw [if_neg (by split <;> omega)]; rfl))
              exact ret _ _ _ _ _ (((iv (ik)), fd), ((hk), (nk), (k1, k2, k3, k4, k5, k6, k7, k8, k9)), ((iv (hr A)), (iv (pe A)), (xs, xi, xk, xc, xl, xr, (upd xb (px : Int).toNat (iv (pv))), yl, yr)), ((ht), (nt), (t1, t2, t3, t4, t5, t6, t7, t8, t9)), ((iv (tn)), (e1), (e2), (e3), (e4), tp), ((iv (bq 0)), (iv (sq 0)), c0), ((iv (bq 1)), (iv (sq 1)), c1), ((iv (bq 2)), (iv (sq 2)), c2), ((iv (bq 3)), (iv (sq 3)), c3)) h (by rw [e9]; exact ⟨rfl, ⟨rfl, rfl, hRu, hIu, hr9⟩, hK, hF, hT, hB⟩) dX4_set_105
            · refine lv_aload_n X.1 X.2.1 dX4_set_73 rfl (lv_at hl 0 rfl) ?_
              refine z_get X h 3 0 0 rfl inX4 rfl (by decide) fl_X4_10 rfl dX4_set_74 ?_
              refine z_get X h 1 13 7 rfl inX1 rfl (by decide) fl_X4_106 rfl dX4_set_77 ?_
              refine lv_goto (tgt := 90) X.1 X.2.1 dX4_set_80 (by decide) ?_
              refine lv_astore (lv' := [(4, .ref (b 6)), (0, .ref (a 0)), (1, .int (iv (px))), (2, .int (iv (pw))), (3, .int (iv (pv)))]) X.1 X.2.1 dX4_set_90 hl (by decide) rfl (fun ls hl => ?_)
              refine lv_aload X.1 X.2.1 dX4_set_92 (lv_at hl 0 rfl) ?_
              refine lv_iload_n X.1 X.2.1 dX4_set_94 rfl (lv_at hl 2 rfl) ?_
              refine z_iald (v := pr A 3 px) X h 19 rfl (by omega) (by omega) (by decide) (hR.2.2.2.2.2.1 px (by omega) (by omega)) dX4_set_95 ?_
              refine lv_istore (lv' := [(5, .int (iv (pr A 3 px))), (4, .ref (b 6)), (0, .ref (a 0)), (1, .int (iv (px))), (2, .int (iv (pw))), (3, .int (iv (pv)))]) X.1 X.2.1 dX4_set_96 hl (by decide) rfl (fun ls hl => ?_)
              refine lv_aload X.1 X.2.1 dX4_set_98 (lv_at hl 1 rfl) ?_
              refine lv_iload_n X.1 X.2.1 dX4_set_100 rfl (lv_at hl 3 rfl) ?_
              refine lv_iload_n X.1 X.2.1 dX4_set_101 rfl (lv_at hl 5 rfl) ?_
              refine s_iast X (st_in (st_in (st_nil h))) 6 rfl (by omega) (by omega) (by decide) dX4_set_102 (fun H locs h => ?_)
              have h := (st_lin (st_out (st_out (st_eq wS_rights h))))
              have h : St E _ s H locs (wO E a k b t x q ((iv (ik))) fd ++ (wS E k ((hk)) ((nk)) (k1, k2, k3, k4, k5, k6, k7, k8, k9) ++ (wS E b ((iv (hr A))) ((iv (pe A))) (xs, xi, xk, xc, xl, (upd xr (px : Int).toNat (iv (pv))), xb, yl, yr) ++ (wS E t ((ht)) ((nt)) (t1, t2, t3, t4, t5, t6, t7, t8, t9) ++ (wX E x ((iv (tn))) ((e1)) ((e2)) ((e3)) ((e4)) tp ++ (wH E (q 0) ((iv (bq 0))) ((iv (sq 0))) c0 ++ (wH E (q 1) ((iv (bq 1))) ((iv (sq 1))) c1 ++ (wH E (q 2) ((iv (bq 2))) ((iv (sq 2))) c2 ++ (wH E (q 3) ((iv (bq 3))) ((iv (sq 3))) c3 ++ []))))))))) := h
              have hRu : RS (xs, xi, xk, xc, xl, (upd xr (px : Int).toNat (iv (pv))), xb, yl, yr) (pu A 3 px pv) := RS_ri hR n0 (by omega)
              have hIu : IA (pu A 3 px pv) := IA_pu hI (by omega) (by omega) (by first | exact Or.inr (Or.inr (Or.inl ⟨by omega, by omega, by omega⟩)) | exact Or.inr (Or.inl ⟨by omega, by omega, by omega⟩))
              refine lv_iload X.1 X.2.1 dX4_set_103 (lv_at hl 0 rfl) ?_
              have e9 : q_set A ph px pw pv = (pr A 3 px, (pu A 3 px pv), ph) := by first | (exfalso; omega) | (unfold q_set; first | (rw [if_pos (by simp only [show pw = 4 by omega, if_true]; omega), show pw = 4 by omega]; done) | (rw [if_pos (by simp only [show ¬ pw = 4 by omega, if_false]; omega)]; first | (rw [show pw = 2 by omega]; done) | (rw [show pw = 3 by omega]; done)) | (rw [if_neg (by split <;> omega)]; rfl))
              exact ret _ _ _ _ _ (((iv (ik)), fd), ((hk), (nk), (k1, k2, k3, k4, k5, k6, k7, k8, k9)), ((iv (hr A)), (iv (pe A)), (xs, xi, xk, xc, xl, (upd xr (px : Int).toNat (iv (pv))), xb, yl, yr)), ((ht), (nt), (t1, t2, t3, t4, t5, t6, t7, t8, t9)), ((iv (tn)), (e1), (e2), (e3), (e4), tp), ((iv (bq 0)), (iv (sq 0)), c0), ((iv (bq 1)), (iv (sq 1)), c1), ((iv (bq 2)), (iv (sq 2)), c2), ((iv (bq 3)), (iv (sq 3)), c3)) h (by rw [e9]; exact ⟨rfl, ⟨rfl, rfl, hRu, hIu, hr9⟩, hK, hF, hT, hB⟩) dX4_set_105
          · refine lv_aload_n X.1 X.2.1 dX4_set_58 rfl (lv_at hl 0 rfl) ?_
            refine z_get X h 3 0 0 rfl inX4 rfl (by decide) fl_X4_10 rfl dX4_set_59 ?_
            refine z_get X h 1 13 6 rfl inX1 rfl (by decide) fl_X4_103 rfl dX4_set_62 ?_
            refine lv_goto (tgt := 90) X.1 X.2.1 dX4_set_65 (by decide) ?_
            refine lv_astore (lv' := [(4, .ref (b 5)), (0, .ref (a 0)), (1, .int (iv (px))), (2, .int (iv (pw))), (3, .int (iv (pv)))]) X.1 X.2.1 dX4_set_90 hl (by decide) rfl (fun ls hl => ?_)
            refine lv_aload X.1 X.2.1 dX4_set_92 (lv_at hl 0 rfl) ?_
            refine lv_iload_n X.1 X.2.1 dX4_set_94 rfl (lv_at hl 2 rfl) ?_
            refine z_iald (v := pr A 2 px) X h 18 rfl (by omega) (by omega) (by decide) (hR.2.2.2.2.1 px (by omega) (by omega)) dX4_set_95 ?_
            refine lv_istore (lv' := [(5, .int (iv (pr A 2 px))), (4, .ref (b 5)), (0, .ref (a 0)), (1, .int (iv (px))), (2, .int (iv (pw))), (3, .int (iv (pv)))]) X.1 X.2.1 dX4_set_96 hl (by decide) rfl (fun ls hl => ?_)
            refine lv_aload X.1 X.2.1 dX4_set_98 (lv_at hl 1 rfl) ?_
            refine lv_iload_n X.1 X.2.1 dX4_set_100 rfl (lv_at hl 3 rfl) ?_
            refine lv_iload_n X.1 X.2.1 dX4_set_101 rfl (lv_at hl 5 rfl) ?_
            refine s_iast X (st_in (st_in (st_nil h))) 5 rfl (by omega) (by omega) (by decide) dX4_set_102 (fun H locs h => ?_)
            have h := (st_lin (st_out (st_out (st_eq wS_lefts h))))
            have h : St E _ s H locs (wO E a k b t x q ((iv (ik))) fd ++ (wS E k ((hk)) ((nk)) (k1, k2, k3, k4, k5, k6, k7, k8, k9) ++ (wS E b ((iv (hr A))) ((iv (pe A))) (xs, xi, xk, xc, (upd xl (px : Int).toNat (iv (pv))), xr, xb, yl, yr) ++ (wS E t ((ht)) ((nt)) (t1, t2, t3, t4, t5, t6, t7, t8, t9) ++ (wX E x ((iv (tn))) ((e1)) ((e2)) ((e3)) ((e4)) tp ++ (wH E (q 0) ((iv (bq 0))) ((iv (sq 0))) c0 ++ (wH E (q 1) ((iv (bq 1))) ((iv (sq 1))) c1 ++ (wH E (q 2) ((iv (bq 2))) ((iv (sq 2))) c2 ++ (wH E (q 3) ((iv (bq 3))) ((iv (sq 3))) c3 ++ []))))))))) := h
            have hRu : RS (xs, xi, xk, xc, (upd xl (px : Int).toNat (iv (pv))), xr, xb, yl, yr) (pu A 2 px pv) := RS_le hR n0 (by omega)
            have hIu : IA (pu A 2 px pv) := IA_pu hI (by omega) (by omega) (by first | exact Or.inr (Or.inr (Or.inl ⟨by omega, by omega, by omega⟩)) | exact Or.inr (Or.inl ⟨by omega, by omega, by omega⟩))
            refine lv_iload X.1 X.2.1 dX4_set_103 (lv_at hl 0 rfl) ?_
            have e9 : q_set A ph px pw pv = (pr A 2 px, (pu A 2 px pv), ph) := by first | (exfalso; omega) | (unfold q_set; first | (rw [if_pos (by simp only [show pw = 4 by omega, if_true]; omega), show pw = 4 by omega]; done) | (rw [if_pos (by simp only [show ¬ pw = 4 by omega, if_false]; omega)]; first | (rw [show pw = 2 by omega]; done) | (rw [show pw = 3 by omega]; done)) | (rw [if_neg (by split <;> omega)]; rfl))
            exact ret _ _ _ _ _ (((iv (ik)), fd), ((hk), (nk), (k1, k2, k3, k4, k5, k6, k7, k8, k9)), ((iv (hr A)), (iv (pe A)), (xs, xi, xk, xc, (upd xl (px : Int).toNat (iv (pv))), xr, xb, yl, yr)), ((ht), (nt), (t1, t2, t3, t4, t5, t6, t7, t8, t9)), ((iv (tn)), (e1), (e2), (e3), (e4), tp), ((iv (bq 0)), (iv (sq 0)), c0), ((iv (bq 1)), (iv (sq 1)), c1), ((iv (bq 2)), (iv (sq 2)), c2), ((iv (bq 3)), (iv (sq 3)), c3)) h (by rw [e9]; exact ⟨rfl, ⟨rfl, rfl, hRu, hIu, hr9⟩, hK, hF, hT, hB⟩) dX4_set_105
        · refine lv_aload_n X.1 X.2.1 dX4_set_46 rfl (lv_at hl 0 rfl) ?_
          refine z_ldc (z := (-1000000001)) X ct_X4_48 (by decide) dX4_set_47 ?_
          refine z_wi (st_sing (st_nil h)) (run_V (rest := []) X (st_sing (st_nil h)) (c_X4_finding (j := 0) hF (by decide) (by decide) (by decide)) mi_X4_finding ml_X4_49 ⟨Nat.le_of_ble_eq_true rfl, Nat.le_of_ble_eq_true rfl⟩ ⟨rfl, rfl⟩ (Seg.mk' _ _) 3 0 rfl rfl rfl rfl hl.1 rfl (Nat.le_of_ble_eq_true rfl) ⟨Nat.zero_le _, Nat.zero_le _⟩ dX4_set_49) (fun _ => map_app (wO_map _ _ _ _ _ _ _ _ _ _ _) rfl) (fun r fd3 H locs hp h => ?_)
          have h := (st_lin (st_gnis h))
          obtain ⟨rfl, hF3⟩ := hp
          have h : St E _ s H locs (wO E a k b t x q ((iv (ik))) fd3 ++ (wS E k ((hk)) ((nk)) (k1, k2, k3, k4, k5, k6, k7, k8, k9) ++ (wS E b ((iv (hr A))) ((iv (pe A))) (xs, xi, xk, xc, xl, xr, xb, yl, yr) ++ (wS E t ((ht)) ((nt)) (t1, t2, t3, t4, t5, t6, t7, t8, t9) ++ (wX E x ((iv (tn))) ((e1)) ((e2)) ((e3)) ((e4)) tp ++ (wH E (q 0) ((iv (bq 0))) ((iv (sq 0))) c0 ++ (wH E (q 1) ((iv (bq 1))) ((iv (sq 1))) c1 ++ (wH E (q 2) ((iv (bq 2))) ((iv (sq 2))) c2 ++ (wH E (q 3) ((iv (bq 3))) ((iv (sq 3))) c3 ++ []))))))))) := h
          have e9 : q_set A ph px pw pv = ((-1000000001), A, (bump ph 0)) := by first | (exfalso; omega) | (unfold q_set; first | (rw [if_pos (by simp only [show pw = 4 by omega, if_true]; omega), show pw = 4 by omega]; done) | (rw [if_pos (by simp only [show ¬ pw = 4 by omega, if_false]; omega)]; first | (rw [show pw = 2 by omega]; done) | (rw [show pw = 3 by omega]; done)) | (rw [if_neg (by split <;> omega)]; rfl))
          exact ret _ _ _ _ _ (((iv (ik)), fd3), ((hk), (nk), (k1, k2, k3, k4, k5, k6, k7, k8, k9)), ((iv (hr A)), (iv (pe A)), (xs, xi, xk, xc, xl, xr, xb, yl, yr)), ((ht), (nt), (t1, t2, t3, t4, t5, t6, t7, t8, t9)), ((iv (tn)), (e1), (e2), (e3), (e4), tp), ((iv (bq 0)), (iv (sq 0)), c0), ((iv (bq 1)), (iv (sq 1)), c1), ((iv (bq 2)), (iv (sq 2)), c2), ((iv (bq 3)), (iv (sq 3)), c3)) h (by rw [e9]; exact ⟨rfl, ⟨rfl, rfl, hR, hI, hr9⟩, hK, hF3, hT, hB⟩) dX4_set_52
    · refine lv_aload_n X.1 X.2.1 dX4_set_17 rfl (lv_at hl 0 rfl) ?_
      refine z_ldc (z := (-1000000001)) X ct_X4_48 (by decide) dX4_set_18 ?_
      refine z_wi (st_sing (st_nil h)) (run_V (rest := []) X (st_sing (st_nil h)) (c_X4_finding (j := 0) hF (by decide) (by decide) (by decide)) mi_X4_finding ml_X4_49 ⟨Nat.le_of_ble_eq_true rfl, Nat.le_of_ble_eq_true rfl⟩ ⟨rfl, rfl⟩ (Seg.mk' _ _) 3 0 rfl rfl rfl rfl hl.1 rfl (Nat.le_of_ble_eq_true rfl) ⟨Nat.zero_le _, Nat.zero_le _⟩ dX4_set_20) (fun _ => map_app (wO_map _ _ _ _ _ _ _ _ _ _ _) rfl) (fun r fd4 H locs hp h => ?_)
      have h := (st_lin (st_gnis h))
      obtain ⟨rfl, hF4⟩ := hp
      have h : St E _ s H locs (wO E a k b t x q ((iv (ik))) fd4 ++ (wS E k ((hk)) ((nk)) (k1, k2, k3, k4, k5, k6, k7, k8, k9) ++ (wS E b ((iv (hr A))) ((iv (pe A))) (xs, xi, xk, xc, xl, xr, xb, yl, yr) ++ (wS E t ((ht)) ((nt)) (t1, t2, t3, t4, t5, t6, t7, t8, t9) ++ (wX E x ((iv (tn))) ((e1)) ((e2)) ((e3)) ((e4)) tp ++ (wH E (q 0) ((iv (bq 0))) ((iv (sq 0))) c0 ++ (wH E (q 1) ((iv (bq 1))) ((iv (sq 1))) c1 ++ (wH E (q 2) ((iv (bq 2))) ((iv (sq 2))) c2 ++ (wH E (q 3) ((iv (bq 3))) ((iv (sq 3))) c3 ++ []))))))))) := h
      have e9 : q_set A ph px pw pv = ((-1000000001), A, (bump ph 0)) := by first | (exfalso; omega) | (unfold q_set; first | (rw [if_pos (by simp only [show pw = 4 by omega, if_true]; omega), show pw = 4 by omega]; done) | (rw [if_pos (by simp only [show ¬ pw = 4 by omega, if_false]; omega)]; first | (rw [show pw = 2 by omega]; done) | (rw [show pw = 3 by omega]; done)) | (rw [if_neg (by split <;> omega)]; rfl))
      exact ret _ _ _ _ _ (((iv (ik)), fd4), ((hk), (nk), (k1, k2, k3, k4, k5, k6, k7, k8, k9)), ((iv (hr A)), (iv (pe A)), (xs, xi, xk, xc, xl, xr, xb, yl, yr)), ((ht), (nt), (t1, t2, t3, t4, t5, t6, t7, t8, t9)), ((iv (tn)), (e1), (e2), (e3), (e4), tp), ((iv (bq 0)), (iv (sq 0)), c0), ((iv (bq 1)), (iv (sq 1)), c1), ((iv (bq 2)), (iv (sq 2)), c2), ((iv (bq 3)), (iv (sq 3)), c3)) h (by rw [e9]; exact ⟨rfl, ⟨rfl, rfl, hR, hI, hr9⟩, hK, hF4, hT, hB⟩) dX4_set_23

set_option maxHeartbeats 4000000 in
theorem c_X4_turn (hS : RepC (((iv (ik)), fd), ((hk), (nk), (k1, k2, k3, k4, k5, k6, k7, k8, k9)), ((iv (hr A)), (iv (pe A)), (xs, xi, xk, xc, xl, xr, xb, yl, yr)), ((ht), (nt), (t1, t2, t3, t4, t5, t6, t7, t8, t9)), ((iv (tn)), (e1), (e2), (e3), (e4), tp), ((iv (bq 0)), (iv (sq 0)), c0), ((iv (bq 1)), (iv (sq 1)), c1), ((iv (bq 2)), (iv (sq 2)), c2), ((iv (bq 3)), (iv (sq 3)), c3)) (A, K, ik, ph, tq, tn, bq, sq, cq)) {px : Int} (r_px : r32 px) {pk : Int} (r_pk : r32 pk) : MI (S := Tc) E l yX4_turn cX4_turn 4 (some FieldType.int) (rmk 2 44) (wO E a k b t x q ((iv (ik))) fd ++ (wS E k ((hk)) ((nk)) (k1, k2, k3, k4, k5, k6, k7, k8, k9) ++ (wS E b ((iv (hr A))) ((iv (pe A))) (xs, xi, xk, xc, xl, xr, xb, yl, yr) ++ (wS E t ((ht)) ((nt)) (t1, t2, t3, t4, t5, t6, t7, t8, t9) ++ (wX E x ((iv (tn))) ((e1)) ((e2)) ((e3)) ((e4)) tp ++ (wH E (q 0) ((iv (bq 0))) ((iv (sq 0))) c0 ++ (wH E (q 1) ((iv (bq 1))) ((iv (sq 1))) c1 ++ (wH E (q 2) ((iv (bq 2))) ((iv (sq 2))) c2 ++ (wH E (q 3) ((iv (bq 3))) ((iv (sq 3))) c3 ++ []))))))))) [.ref (a 0), .int (iv (px)), .int (iv (pk))] (fun r u => r = iv (q_turn A ph px pk).1 ∧ RepC u ((q_turn A ph px pk).2.1, K, ik, (q_turn A ph px pk).2.2, tq, tn, bq, sq, cq)) (fun u => wT E a k b t x q u) := by
  refine goI (S := Tc) (post := fun r u => r = iv (q_turn A ph px pk).1 ∧ RepC u ((q_turn A ph px pk).2.1, K, ik, (q_turn A ph px pk).2.2, tq, tn, bq, sq, cq)) (ws' := fun u => wT E a k b t x q u) (by decide) (Nat.le_of_ble_eq_true rfl) ?_
  intro pp e s m below meth c ls args Q ret X h hl
  have hl : lv_has ls 4 [(0, .ref (a 0)), (1, .int (iv (px))), (2, .int (iv (pk)))] := hl
  have hR : RS (xs, xi, xk, xc, xl, xr, xb, yl, yr) A := hS.1.2.2.1
  have hI : IA A := hS.1.2.2.2.1
  have hr9 : hr A ≤ 99999 := hS.1.2.2.2.2
  have hF : RF 7 fd ph := hS.2.2.1
  have hK := hS.2.1
  have hT := hS.2.2.2.1
  have hB := hS.2.2.2.2
  have hh : hr A < 1000000 := by omega
  have n8 := hI.n8
  have n0 := hI.n0
  have h0 := hI.h0
  refine lv_aload_n X.1 X.2.1 dX4_turn_0 rfl (lv_at hl 0 rfl) ?_
  refine lv_iload_n X.1 X.2.1 dX4_turn_1 rfl (lv_at hl 1 rfl) ?_
  refine z_pi (run_V (rest := []) X h (c_X4_isPerson (p := px) hI r_px) mi_X4_isPerson ml_X4_94 ⟨Nat.le_of_ble_eq_true rfl, Nat.le_of_ble_eq_true rfl⟩ ⟨rfl, rfl⟩ (Seg.rfl' _) 3 0 rfl rfl rfl rfl hl.1 rfl (Nat.le_of_ble_eq_true rfl) ⟨Nat.zero_le _, Nat.zero_le _⟩ dX4_turn_2) ?_
  refine z_ifb_eq (tgt := 15) X dX4_turn_5 (by decide) (fun c_5 => ?_) (fun c_5 => ?_)
  · refine lv_aload_n X.1 X.2.1 dX4_turn_15 rfl (lv_at hl 0 rfl) ?_
    refine z_ldc (z := (-1000000001)) X ct_X4_48 (by decide) dX4_turn_16 ?_
    refine z_wi (st_sing (st_nil h)) (run_V (rest := []) X (st_sing (st_nil h)) (c_X4_finding (j := 0) hF (by decide) (by decide) (by decide)) mi_X4_finding ml_X4_49 ⟨Nat.le_of_ble_eq_true rfl, Nat.le_of_ble_eq_true rfl⟩ ⟨rfl, rfl⟩ (Seg.mk' _ _) 3 0 rfl rfl rfl rfl hl.1 rfl (Nat.le_of_ble_eq_true rfl) ⟨Nat.zero_le _, Nat.zero_le _⟩ dX4_turn_18) (fun _ => map_app (wO_map _ _ _ _ _ _ _ _ _ _ _) rfl) (fun r fd1 H locs hp h => ?_)
    have h := (st_lin (st_gnis h))
    obtain ⟨rfl, hF1⟩ := hp
    have h : St E _ s H locs (wO E a k b t x q ((iv (ik))) fd1 ++ (wS E k ((hk)) ((nk)) (k1, k2, k3, k4, k5, k6, k7, k8, k9) ++ (wS E b ((iv (hr A))) ((iv (pe A))) (xs, xi, xk, xc, xl, xr, xb, yl, yr) ++ (wS E t ((ht)) ((nt)) (t1, t2, t3, t4, t5, t6, t7, t8, t9) ++ (wX E x ((iv (tn))) ((e1)) ((e2)) ((e3)) ((e4)) tp ++ (wH E (q 0) ((iv (bq 0))) ((iv (sq 0))) c0 ++ (wH E (q 1) ((iv (bq 1))) ((iv (sq 1))) c1 ++ (wH E (q 2) ((iv (bq 2))) ((iv (sq 2))) c2 ++ (wH E (q 3) ((iv (bq 3))) ((iv (sq 3))) c3 ++ []))))))))) := h
    have e9 : q_turn A ph px pk = ((-1000000001), A, (bump ph 0)) := by unfold q_turn; (repeat (first | rw [if_pos (by omega)] | rw [if_neg (by omega)])); try rfl
    exact ret _ _ _ _ _ (((iv (ik)), fd1), ((hk), (nk), (k1, k2, k3, k4, k5, k6, k7, k8, k9)), ((iv (hr A)), (iv (pe A)), (xs, xi, xk, xc, xl, xr, xb, yl, yr)), ((ht), (nt), (t1, t2, t3, t4, t5, t6, t7, t8, t9)), ((iv (tn)), (e1), (e2), (e3), (e4), tp), ((iv (bq 0)), (iv (sq 0)), c0), ((iv (bq 1)), (iv (sq 1)), c1), ((iv (bq 2)), (iv (sq 2)), c2), ((iv (bq 3)), (iv (sq 3)), c3)) h (by rw [e9]; exact ⟨rfl, ⟨rfl, rfl, hR, hI, hr9⟩, hK, hF1, hT, hB⟩) dX4_turn_21
  · refine lv_iload_n X.1 X.2.1 dX4_turn_8 rfl (lv_at hl 2 rfl) ?_
    refine z_pi (run_S (rest := []) X h (c_X4_isKind r_pk) mi_X4_isKind ml_X4_82 ⟨Nat.le_of_ble_eq_true rfl, Nat.le_of_ble_eq_true rfl⟩ ⟨rfl, rfl⟩ (Seg.nil _) rfl hl.1 rfl (Nat.le_of_ble_eq_true rfl) ⟨Nat.zero_le _, Nat.zero_le _⟩ dX4_turn_9) ?_
    refine z_ifb_ne (tgt := 22) X dX4_turn_12 (by decide) (fun c_12 => ?_) (fun c_12 => ?_)
    · refine lv_aload_n X.1 X.2.1 dX4_turn_22 rfl (lv_at hl 0 rfl) ?_
      refine z_get X h 3 0 0 rfl inX4 rfl (by decide) fl_X4_10 rfl dX4_turn_23 ?_
      refine z_get X h 1 13 4 rfl inX1 rfl (by decide) fl_X4_97 rfl dX4_turn_26 ?_
      refine lv_iload_n X.1 X.2.1 dX4_turn_29 rfl (lv_at hl 1 rfl) ?_
      refine z_iald (v := pr A 0 px) X h 16 rfl (by omega) (by omega) (by decide) (hR.2.2.1 px (by omega) (by omega)) dX4_turn_30 ?_
      refine lv_istore_n (lv' := [(3, .int (iv (pr A 0 px))), (0, .ref (a 0)), (1, .int (iv (px))), (2, .int (iv (pk)))]) X.1 X.2.1 dX4_turn_31 rfl hl (by decide) rfl (fun ls hl => ?_)
      refine lv_aload_n X.1 X.2.1 dX4_turn_32 rfl (lv_at hl 1 rfl) ?_
      refine z_get X h 3 0 0 rfl inX4 rfl (by decide) fl_X4_10 rfl dX4_turn_33 ?_
      refine z_get X h 1 13 4 rfl inX1 rfl (by decide) fl_X4_97 rfl dX4_turn_36 ?_
      refine lv_iload_n X.1 X.2.1 dX4_turn_39 rfl (lv_at hl 2 rfl) ?_
      refine lv_iload_n X.1 X.2.1 dX4_turn_40 rfl (lv_at hl 3 rfl) ?_
      refine s_iast X (st_in (st_in (st_nil h))) 3 rfl (by omega) (by omega) (by decide) dX4_turn_41 (fun H locs h => ?_)
      have h := (st_lin (st_out (st_out (st_eq wS_kinds h))))
      have h : St E _ s H locs (wO E a k b t x q ((iv (ik))) fd ++ (wS E k ((hk)) ((nk)) (k1, k2, k3, k4, k5, k6, k7, k8, k9) ++ (wS E b ((iv (hr A))) ((iv (pe A))) (xs, xi, (upd xk (px : Int).toNat (iv (pk))), xc, xl, xr, xb, yl, yr) ++ (wS E t ((ht)) ((nt)) (t1, t2, t3, t4, t5, t6, t7, t8, t9) ++ (wX E x ((iv (tn))) ((e1)) ((e2)) ((e3)) ((e4)) tp ++ (wH E (q 0) ((iv (bq 0))) ((iv (sq 0))) c0 ++ (wH E (q 1) ((iv (bq 1))) ((iv (sq 1))) c1 ++ (wH E (q 2) ((iv (bq 2))) ((iv (sq 2))) c2 ++ (wH E (q 3) ((iv (bq 3))) ((iv (sq 3))) c3 ++ []))))))))) := h
      have hRu : RS (xs, xi, (upd xk (px : Int).toNat (iv (pk))), xc, xl, xr, xb, yl, yr) (pu A 0 px pk) := RS_ki hR n0 (by omega)
      have hIu : IA (pu A 0 px pk) := IA_pu hI (by omega) (by omega) (Or.inl ⟨rfl, by omega, by omega⟩)
      refine lv_iload_n X.1 X.2.1 dX4_turn_42 rfl (lv_at hl 0 rfl) ?_
      have e9 : q_turn A ph px pk = (pr A 0 px, (pu A 0 px pk), ph) := by unfold q_turn; (repeat (first | rw [if_pos (by omega)] | rw [if_neg (by omega)])); try rfl
      exact ret _ _ _ _ _ (((iv (ik)), fd), ((hk), (nk), (k1, k2, k3, k4, k5, k6, k7, k8, k9)), ((iv (hr A)), (iv (pe A)), (xs, xi, (upd xk (px : Int).toNat (iv (pk))), xc, xl, xr, xb, yl, yr)), ((ht), (nt), (t1, t2, t3, t4, t5, t6, t7, t8, t9)), ((iv (tn)), (e1), (e2), (e3), (e4), tp), ((iv (bq 0)), (iv (sq 0)), c0), ((iv (bq 1)), (iv (sq 1)), c1), ((iv (bq 2)), (iv (sq 2)), c2), ((iv (bq 3)), (iv (sq 3)), c3)) h (by rw [e9]; exact ⟨rfl, ⟨rfl, rfl, hRu, hIu, hr9⟩, hK, hF, hT, hB⟩) dX4_turn_43
    · refine lv_aload_n X.1 X.2.1 dX4_turn_15 rfl (lv_at hl 0 rfl) ?_
      refine z_ldc (z := (-1000000001)) X ct_X4_48 (by decide) dX4_turn_16 ?_
      refine z_wi (st_sing (st_nil h)) (run_V (rest := []) X (st_sing (st_nil h)) (c_X4_finding (j := 0) hF (by decide) (by decide) (by decide)) mi_X4_finding ml_X4_49 ⟨Nat.le_of_ble_eq_true rfl, Nat.le_of_ble_eq_true rfl⟩ ⟨rfl, rfl⟩ (Seg.mk' _ _) 3 0 rfl rfl rfl rfl hl.1 rfl (Nat.le_of_ble_eq_true rfl) ⟨Nat.zero_le _, Nat.zero_le _⟩ dX4_turn_18) (fun _ => map_app (wO_map _ _ _ _ _ _ _ _ _ _ _) rfl) (fun r fd2 H locs hp h => ?_)
      have h := (st_lin (st_gnis h))
      obtain ⟨rfl, hF2⟩ := hp
      have h : St E _ s H locs (wO E a k b t x q ((iv (ik))) fd2 ++ (wS E k ((hk)) ((nk)) (k1, k2, k3, k4, k5, k6, k7, k8, k9) ++ (wS E b ((iv (hr A))) ((iv (pe A))) (xs, xi, xk, xc, xl, xr, xb, yl, yr) ++ (wS E t ((ht)) ((nt)) (t1, t2, t3, t4, t5, t6, t7, t8, t9) ++ (wX E x ((iv (tn))) ((e1)) ((e2)) ((e3)) ((e4)) tp ++ (wH E (q 0) ((iv (bq 0))) ((iv (sq 0))) c0 ++ (wH E (q 1) ((iv (bq 1))) ((iv (sq 1))) c1 ++ (wH E (q 2) ((iv (bq 2))) ((iv (sq 2))) c2 ++ (wH E (q 3) ((iv (bq 3))) ((iv (sq 3))) c3 ++ []))))))))) := h
      have e9 : q_turn A ph px pk = ((-1000000001), A, (bump ph 0)) := by unfold q_turn; (repeat (first | rw [if_pos (by omega)] | rw [if_neg (by omega)])); try rfl
      exact ret _ _ _ _ _ (((iv (ik)), fd2), ((hk), (nk), (k1, k2, k3, k4, k5, k6, k7, k8, k9)), ((iv (hr A)), (iv (pe A)), (xs, xi, xk, xc, xl, xr, xb, yl, yr)), ((ht), (nt), (t1, t2, t3, t4, t5, t6, t7, t8, t9)), ((iv (tn)), (e1), (e2), (e3), (e4), tp), ((iv (bq 0)), (iv (sq 0)), c0), ((iv (bq 1)), (iv (sq 1)), c1), ((iv (bq 2)), (iv (sq 2)), c2), ((iv (bq 3)), (iv (sq 3)), c3)) h (by rw [e9]; exact ⟨rfl, ⟨rfl, rfl, hR, hI, hr9⟩, hK, hF2, hT, hB⟩) dX4_turn_21

set_option maxHeartbeats 4000000 in
theorem c_X4_as (hS : RepC (((iv (ik)), fd), ((hk), (nk), (k1, k2, k3, k4, k5, k6, k7, k8, k9)), ((iv (hr A)), (iv (pe A)), (xs, xi, xk, xc, xl, xr, xb, yl, yr)), ((ht), (nt), (t1, t2, t3, t4, t5, t6, t7, t8, t9)), ((iv (tn)), (e1), (e2), (e3), (e4), tp), ((iv (bq 0)), (iv (sq 0)), c0), ((iv (bq 1)), (iv (sq 1)), c1), ((iv (bq 2)), (iv (sq 2)), c2), ((iv (bq 3)), (iv (sq 3)), c3)) (A, K, ik, ph, tq, tn, bq, sq, cq)) {px : Int} (r_px : r32 px) {pk : Int} (r_pk : r32 pk) : MI (S := Tc) E l yX4_as cX4_as 3 (some FieldType.int) (rmk 3 65) (wO E a k b t x q ((iv (ik))) fd ++ (wS E k ((hk)) ((nk)) (k1, k2, k3, k4, k5, k6, k7, k8, k9) ++ (wS E b ((iv (hr A))) ((iv (pe A))) (xs, xi, xk, xc, xl, xr, xb, yl, yr) ++ (wS E t ((ht)) ((nt)) (t1, t2, t3, t4, t5, t6, t7, t8, t9) ++ (wX E x ((iv (tn))) ((e1)) ((e2)) ((e3)) ((e4)) tp ++ (wH E (q 0) ((iv (bq 0))) ((iv (sq 0))) c0 ++ (wH E (q 1) ((iv (bq 1))) ((iv (sq 1))) c1 ++ (wH E (q 2) ((iv (bq 2))) ((iv (sq 2))) c2 ++ (wH E (q 3) ((iv (bq 3))) ((iv (sq 3))) c3 ++ []))))))))) [.ref (a 0), .int (iv (px)), .int (iv (pk))] (fun r u => r = iv (q_as A ph px pk).1 ∧ RepC u ((q_as A ph px pk).2.1, K, ik, (q_as A ph px pk).2.2, tq, tn, bq, sq, cq)) (fun u => wT E a k b t x q u) := by
  refine goI (S := Tc) (post := fun r u => r = iv (q_as A ph px pk).1 ∧ RepC u ((q_as A ph px pk).2.1, K, ik, (q_as A ph px pk).2.2, tq, tn, bq, sq, cq)) (ws' := fun u => wT E a k b t x q u) (by decide) (Nat.le_of_ble_eq_true rfl) ?_
  intro pp e s m below meth c ls args Q ret X h hl
  have hl : lv_has ls 3 [(0, .ref (a 0)), (1, .int (iv (px))), (2, .int (iv (pk)))] := hl
  have hR : RS (xs, xi, xk, xc, xl, xr, xb, yl, yr) A := hS.1.2.2.1
  have hI : IA A := hS.1.2.2.2.1
  have hr9 : hr A ≤ 99999 := hS.1.2.2.2.2
  have hF : RF 7 fd ph := hS.2.2.1
  have hK := hS.2.1
  have hT := hS.2.2.2.1
  have hB := hS.2.2.2.2
  have hh : hr A < 1000000 := by omega
  have n8 := hI.n8
  have n0 := hI.n0
  have h0 := hI.h0
  refine lv_aload_n X.1 X.2.1 dX4_as_0 rfl (lv_at hl 0 rfl) ?_
  refine lv_iload_n X.1 X.2.1 dX4_as_1 rfl (lv_at hl 1 rfl) ?_
  refine z_pi (run_V (rest := []) X h (c_X4_isPerson (p := px) hI r_px) mi_X4_isPerson ml_X4_94 ⟨Nat.le_of_ble_eq_true rfl, Nat.le_of_ble_eq_true rfl⟩ ⟨rfl, rfl⟩ (Seg.rfl' _) 3 0 rfl rfl rfl rfl hl.1 rfl (Nat.le_of_ble_eq_true rfl) ⟨Nat.zero_le _, Nat.zero_le _⟩ dX4_as_2) ?_
  refine z_ifb_eq (tgt := 15) X dX4_as_5 (by decide) (fun c_5 => ?_) (fun c_5 => ?_)
  · refine lv_aload_n X.1 X.2.1 dX4_as_15 rfl (lv_at hl 0 rfl) ?_
    refine z_ldc (z := (-1000000001)) X ct_X4_48 (by decide) dX4_as_16 ?_
    refine z_wi (st_sing (st_nil h)) (run_V (rest := []) X (st_sing (st_nil h)) (c_X4_finding (j := 0) hF (by decide) (by decide) (by decide)) mi_X4_finding ml_X4_49 ⟨Nat.le_of_ble_eq_true rfl, Nat.le_of_ble_eq_true rfl⟩ ⟨rfl, rfl⟩ (Seg.mk' _ _) 3 0 rfl rfl rfl rfl hl.1 rfl (Nat.le_of_ble_eq_true rfl) ⟨Nat.zero_le _, Nat.zero_le _⟩ dX4_as_18) (fun _ => map_app (wO_map _ _ _ _ _ _ _ _ _ _ _) rfl) (fun r fd1 H locs hp h => ?_)
    have h := (st_lin (st_gnis h))
    obtain ⟨rfl, hF1⟩ := hp
    have h : St E _ s H locs (wO E a k b t x q ((iv (ik))) fd1 ++ (wS E k ((hk)) ((nk)) (k1, k2, k3, k4, k5, k6, k7, k8, k9) ++ (wS E b ((iv (hr A))) ((iv (pe A))) (xs, xi, xk, xc, xl, xr, xb, yl, yr) ++ (wS E t ((ht)) ((nt)) (t1, t2, t3, t4, t5, t6, t7, t8, t9) ++ (wX E x ((iv (tn))) ((e1)) ((e2)) ((e3)) ((e4)) tp ++ (wH E (q 0) ((iv (bq 0))) ((iv (sq 0))) c0 ++ (wH E (q 1) ((iv (bq 1))) ((iv (sq 1))) c1 ++ (wH E (q 2) ((iv (bq 2))) ((iv (sq 2))) c2 ++ (wH E (q 3) ((iv (bq 3))) ((iv (sq 3))) c3 ++ []))))))))) := h
    have e9 : q_as A ph px pk = ((-1000000001), A, (bump ph 0)) := by first | (exfalso; omega) | (unfold q_as; (repeat (first | rw [if_pos (by omega)] | rw [if_neg (by omega)])); try rfl)
    exact ret _ _ _ _ _ (((iv (ik)), fd1), ((hk), (nk), (k1, k2, k3, k4, k5, k6, k7, k8, k9)), ((iv (hr A)), (iv (pe A)), (xs, xi, xk, xc, xl, xr, xb, yl, yr)), ((ht), (nt), (t1, t2, t3, t4, t5, t6, t7, t8, t9)), ((iv (tn)), (e1), (e2), (e3), (e4), tp), ((iv (bq 0)), (iv (sq 0)), c0), ((iv (bq 1)), (iv (sq 1)), c1), ((iv (bq 2)), (iv (sq 2)), c2), ((iv (bq 3)), (iv (sq 3)), c3)) h (by rw [e9]; exact ⟨rfl, ⟨rfl, rfl, hR, hI, hr9⟩, hK, hF1, hT, hB⟩) dX4_as_21
  · refine lv_iload_n X.1 X.2.1 dX4_as_8 rfl (lv_at hl 2 rfl) ?_
    refine z_pi (run_S (rest := []) X h (c_X4_isKind r_pk) mi_X4_isKind ml_X4_82 ⟨Nat.le_of_ble_eq_true rfl, Nat.le_of_ble_eq_true rfl⟩ ⟨rfl, rfl⟩ (Seg.nil _) rfl hl.1 rfl (Nat.le_of_ble_eq_true rfl) ⟨Nat.zero_le _, Nat.zero_le _⟩ dX4_as_9) ?_
    refine z_ifb_ne (tgt := 22) X dX4_as_12 (by decide) (fun c_12 => ?_) (fun c_12 => ?_)
    · have qx := hI.gP (p := px) (by omega) (by omega)
      refine lv_aload_n X.1 X.2.1 dX4_as_22 rfl (lv_at hl 0 rfl) ?_
      refine z_get X h 3 0 0 rfl inX4 rfl (by decide) fl_X4_10 rfl dX4_as_23 ?_
      refine z_get X h 1 13 4 rfl inX1 rfl (by decide) fl_X4_97 rfl dX4_as_26 ?_
      refine lv_iload_n X.1 X.2.1 dX4_as_29 rfl (lv_at hl 1 rfl) ?_
      refine z_iald (v := pr A 0 px) X h 16 rfl (by omega) (by omega) (by decide) (hR.2.2.1 px (by omega) (by omega)) dX4_as_30 ?_
      refine lv_iload_n X.1 X.2.1 dX4_as_31 rfl (lv_at hl 2 rfl) ?_
      refine z_pi (run_S (rest := []) X h (c_isU (c := pr A 0 px) (o := pk) (by omega) (by omega) r_pk) mi_X3_isOrIsUnder ml_X4_123 ⟨Nat.le_of_ble_eq_true rfl, Nat.le_of_ble_eq_true rfl⟩ ⟨rfl, rfl⟩ (Seg.nil _) rfl hl.1 rfl (Nat.le_of_ble_eq_true rfl) ⟨Nat.zero_le _, Nat.zero_le _⟩ dX4_as_32) ?_
      refine z_ifb_ne (tgt := 45) X dX4_as_35 (by decide) (fun c_35 => ?_) (fun c_35 => ?_)
      · refine lv_aload_n X.1 X.2.1 dX4_as_45 rfl (lv_at hl 0 rfl) ?_
        refine z_get X h 3 0 0 rfl inX4 rfl (by decide) fl_X4_10 rfl dX4_as_46 ?_
        refine lv_iload_n X.1 X.2.1 dX4_as_49 rfl (lv_at hl 1 rfl) ?_
        refine z_pi (run_V (rest := []) X (st_in (st_in (st_nil h))) (c_X1_brownOf (p := px) hR hI (by omega) (by omega)) mi_X1_brownOf ml_X4_128 ⟨Nat.le_of_ble_eq_true rfl, Nat.le_of_ble_eq_true rfl⟩ ⟨rfl, rfl⟩ (Seg.mk' _ _) 1 13 rfl rfl rfl rfl hl.1 rfl (Nat.le_of_ble_eq_true rfl) ⟨Nat.zero_le _, Nat.zero_le _⟩ dX4_as_50) ?_
        have e9 : q_as A ph px pk = (brn A px, A, ph) := by first | (exfalso; omega) | (unfold q_as; (repeat (first | rw [if_pos (by omega)] | rw [if_neg (by omega)])); try rfl)
        exact ret _ _ _ _ _ (((iv (ik)), fd), ((hk), (nk), (k1, k2, k3, k4, k5, k6, k7, k8, k9)), ((iv (hr A)), (iv (pe A)), (xs, xi, xk, xc, xl, xr, xb, yl, yr)), ((ht), (nt), (t1, t2, t3, t4, t5, t6, t7, t8, t9)), ((iv (tn)), (e1), (e2), (e3), (e4), tp), ((iv (bq 0)), (iv (sq 0)), c0), ((iv (bq 1)), (iv (sq 1)), c1), ((iv (bq 2)), (iv (sq 2)), c2), ((iv (bq 3)), (iv (sq 3)), c3)) h (by rw [e9]; exact ⟨rfl, ⟨rfl, rfl, hR, hI, hr9⟩, hK, hF, hT, hB⟩) dX4_as_53
      · refine lv_aload_n X.1 X.2.1 dX4_as_38 rfl (lv_at hl 0 rfl) ?_
        refine z_ldc (z := (-1000000003)) X ct_X4_127 (by decide) dX4_as_39 ?_
        refine z_wi (st_sing (st_nil h)) (run_V (rest := []) X (st_sing (st_nil h)) (c_X4_finding (j := 2) hF (by decide) (by decide) (by decide)) mi_X4_finding ml_X4_49 ⟨Nat.le_of_ble_eq_true rfl, Nat.le_of_ble_eq_true rfl⟩ ⟨rfl, rfl⟩ (Seg.mk' _ _) 3 0 rfl rfl rfl rfl hl.1 rfl (Nat.le_of_ble_eq_true rfl) ⟨Nat.zero_le _, Nat.zero_le _⟩ dX4_as_41) (fun _ => map_app (wO_map _ _ _ _ _ _ _ _ _ _ _) rfl) (fun r fd2 H locs hp h => ?_)
        have h := (st_lin (st_gnis h))
        obtain ⟨rfl, hF2⟩ := hp
        have h : St E _ s H locs (wO E a k b t x q ((iv (ik))) fd2 ++ (wS E k ((hk)) ((nk)) (k1, k2, k3, k4, k5, k6, k7, k8, k9) ++ (wS E b ((iv (hr A))) ((iv (pe A))) (xs, xi, xk, xc, xl, xr, xb, yl, yr) ++ (wS E t ((ht)) ((nt)) (t1, t2, t3, t4, t5, t6, t7, t8, t9) ++ (wX E x ((iv (tn))) ((e1)) ((e2)) ((e3)) ((e4)) tp ++ (wH E (q 0) ((iv (bq 0))) ((iv (sq 0))) c0 ++ (wH E (q 1) ((iv (bq 1))) ((iv (sq 1))) c1 ++ (wH E (q 2) ((iv (bq 2))) ((iv (sq 2))) c2 ++ (wH E (q 3) ((iv (bq 3))) ((iv (sq 3))) c3 ++ []))))))))) := h
        have e9 : q_as A ph px pk = ((-1000000003), A, (bump ph 2)) := by first | (exfalso; omega) | (unfold q_as; (repeat (first | rw [if_pos (by omega)] | rw [if_neg (by omega)])); try rfl)
        exact ret _ _ _ _ _ (((iv (ik)), fd2), ((hk), (nk), (k1, k2, k3, k4, k5, k6, k7, k8, k9)), ((iv (hr A)), (iv (pe A)), (xs, xi, xk, xc, xl, xr, xb, yl, yr)), ((ht), (nt), (t1, t2, t3, t4, t5, t6, t7, t8, t9)), ((iv (tn)), (e1), (e2), (e3), (e4), tp), ((iv (bq 0)), (iv (sq 0)), c0), ((iv (bq 1)), (iv (sq 1)), c1), ((iv (bq 2)), (iv (sq 2)), c2), ((iv (bq 3)), (iv (sq 3)), c3)) h (by rw [e9]; exact ⟨rfl, ⟨rfl, rfl, hR, hI, hr9⟩, hK, hF2, hT, hB⟩) dX4_as_44
    · refine lv_aload_n X.1 X.2.1 dX4_as_15 rfl (lv_at hl 0 rfl) ?_
      refine z_ldc (z := (-1000000001)) X ct_X4_48 (by decide) dX4_as_16 ?_
      refine z_wi (st_sing (st_nil h)) (run_V (rest := []) X (st_sing (st_nil h)) (c_X4_finding (j := 0) hF (by decide) (by decide) (by decide)) mi_X4_finding ml_X4_49 ⟨Nat.le_of_ble_eq_true rfl, Nat.le_of_ble_eq_true rfl⟩ ⟨rfl, rfl⟩ (Seg.mk' _ _) 3 0 rfl rfl rfl rfl hl.1 rfl (Nat.le_of_ble_eq_true rfl) ⟨Nat.zero_le _, Nat.zero_le _⟩ dX4_as_18) (fun _ => map_app (wO_map _ _ _ _ _ _ _ _ _ _ _) rfl) (fun r fd3 H locs hp h => ?_)
      have h := (st_lin (st_gnis h))
      obtain ⟨rfl, hF3⟩ := hp
      have h : St E _ s H locs (wO E a k b t x q ((iv (ik))) fd3 ++ (wS E k ((hk)) ((nk)) (k1, k2, k3, k4, k5, k6, k7, k8, k9) ++ (wS E b ((iv (hr A))) ((iv (pe A))) (xs, xi, xk, xc, xl, xr, xb, yl, yr) ++ (wS E t ((ht)) ((nt)) (t1, t2, t3, t4, t5, t6, t7, t8, t9) ++ (wX E x ((iv (tn))) ((e1)) ((e2)) ((e3)) ((e4)) tp ++ (wH E (q 0) ((iv (bq 0))) ((iv (sq 0))) c0 ++ (wH E (q 1) ((iv (bq 1))) ((iv (sq 1))) c1 ++ (wH E (q 2) ((iv (bq 2))) ((iv (sq 2))) c2 ++ (wH E (q 3) ((iv (bq 3))) ((iv (sq 3))) c3 ++ []))))))))) := h
      have e9 : q_as A ph px pk = ((-1000000001), A, (bump ph 0)) := by first | (exfalso; omega) | (unfold q_as; (repeat (first | rw [if_pos (by omega)] | rw [if_neg (by omega)])); try rfl)
      exact ret _ _ _ _ _ (((iv (ik)), fd3), ((hk), (nk), (k1, k2, k3, k4, k5, k6, k7, k8, k9)), ((iv (hr A)), (iv (pe A)), (xs, xi, xk, xc, xl, xr, xb, yl, yr)), ((ht), (nt), (t1, t2, t3, t4, t5, t6, t7, t8, t9)), ((iv (tn)), (e1), (e2), (e3), (e4), tp), ((iv (bq 0)), (iv (sq 0)), c0), ((iv (bq 1)), (iv (sq 1)), c1), ((iv (bq 2)), (iv (sq 2)), c2), ((iv (bq 3)), (iv (sq 3)), c3)) h (by rw [e9]; exact ⟨rfl, ⟨rfl, rfl, hR, hI, hr9⟩, hK, hF3, hT, hB⟩) dX4_as_21

set_option maxHeartbeats 4000000 in
theorem c_X4_sit (hS : RepC (((iv (ik)), fd), ((hk), (nk), (k1, k2, k3, k4, k5, k6, k7, k8, k9)), ((iv (hr A)), (iv (pe A)), (xs, xi, xk, xc, xl, xr, xb, yl, yr)), ((ht), (nt), (t1, t2, t3, t4, t5, t6, t7, t8, t9)), ((iv (tn)), (e1), (e2), (e3), (e4), tp), ((iv (bq 0)), (iv (sq 0)), c0), ((iv (bq 1)), (iv (sq 1)), c1), ((iv (bq 2)), (iv (sq 2)), c2), ((iv (bq 3)), (iv (sq 3)), c3)) (A, K, ik, ph, tq, tn, bq, sq, cq)) {px : Int} (r_px : r32 px) {pc : Int} (r_pc : r32 pc) : MI (S := Tc) E l yX4_sit cX4_sit 4 (some FieldType.int) (rmk 2 44) (wO E a k b t x q ((iv (ik))) fd ++ (wS E k ((hk)) ((nk)) (k1, k2, k3, k4, k5, k6, k7, k8, k9) ++ (wS E b ((iv (hr A))) ((iv (pe A))) (xs, xi, xk, xc, xl, xr, xb, yl, yr) ++ (wS E t ((ht)) ((nt)) (t1, t2, t3, t4, t5, t6, t7, t8, t9) ++ (wX E x ((iv (tn))) ((e1)) ((e2)) ((e3)) ((e4)) tp ++ (wH E (q 0) ((iv (bq 0))) ((iv (sq 0))) c0 ++ (wH E (q 1) ((iv (bq 1))) ((iv (sq 1))) c1 ++ (wH E (q 2) ((iv (bq 2))) ((iv (sq 2))) c2 ++ (wH E (q 3) ((iv (bq 3))) ((iv (sq 3))) c3 ++ []))))))))) [.ref (a 0), .int (iv (px)), .int (iv (pc))] (fun r u => r = iv (q_sit A ph px pc).1 ∧ RepC u ((q_sit A ph px pc).2.1, K, ik, (q_sit A ph px pc).2.2, tq, tn, bq, sq, cq)) (fun u => wT E a k b t x q u) := by
  refine goI (S := Tc) (post := fun r u => r = iv (q_sit A ph px pc).1 ∧ RepC u ((q_sit A ph px pc).2.1, K, ik, (q_sit A ph px pc).2.2, tq, tn, bq, sq, cq)) (ws' := fun u => wT E a k b t x q u) (by decide) (Nat.le_of_ble_eq_true rfl) ?_
  intro pp e s m below meth c ls args Q ret X h hl
  have hl : lv_has ls 4 [(0, .ref (a 0)), (1, .int (iv (px))), (2, .int (iv (pc)))] := hl
  have hR : RS (xs, xi, xk, xc, xl, xr, xb, yl, yr) A := hS.1.2.2.1
  have hI : IA A := hS.1.2.2.2.1
  have hr9 : hr A ≤ 99999 := hS.1.2.2.2.2
  have hF : RF 7 fd ph := hS.2.2.1
  have hK := hS.2.1
  have hT := hS.2.2.2.1
  have hB := hS.2.2.2.2
  have hh : hr A < 1000000 := by omega
  have n8 := hI.n8
  have n0 := hI.n0
  have h0 := hI.h0
  refine lv_aload_n X.1 X.2.1 dX4_sit_0 rfl (lv_at hl 0 rfl) ?_
  refine lv_iload_n X.1 X.2.1 dX4_sit_1 rfl (lv_at hl 1 rfl) ?_
  refine z_pi (run_V (rest := []) X h (c_X4_isPerson (p := px) hI r_px) mi_X4_isPerson ml_X4_94 ⟨Nat.le_of_ble_eq_true rfl, Nat.le_of_ble_eq_true rfl⟩ ⟨rfl, rfl⟩ (Seg.rfl' _) 3 0 rfl rfl rfl rfl hl.1 rfl (Nat.le_of_ble_eq_true rfl) ⟨Nat.zero_le _, Nat.zero_le _⟩ dX4_sit_2) ?_
  refine z_ifb_eq (tgt := 18) X dX4_sit_5 (by decide) (fun c_5 => ?_) (fun c_5 => ?_)
  · refine lv_aload_n X.1 X.2.1 dX4_sit_18 rfl (lv_at hl 0 rfl) ?_
    refine z_ldc (z := (-1000000001)) X ct_X4_48 (by decide) dX4_sit_19 ?_
    refine z_wi (st_sing (st_nil h)) (run_V (rest := []) X (st_sing (st_nil h)) (c_X4_finding (j := 0) hF (by decide) (by decide) (by decide)) mi_X4_finding ml_X4_49 ⟨Nat.le_of_ble_eq_true rfl, Nat.le_of_ble_eq_true rfl⟩ ⟨rfl, rfl⟩ (Seg.mk' _ _) 3 0 rfl rfl rfl rfl hl.1 rfl (Nat.le_of_ble_eq_true rfl) ⟨Nat.zero_le _, Nat.zero_le _⟩ dX4_sit_21) (fun _ => map_app (wO_map _ _ _ _ _ _ _ _ _ _ _) rfl) (fun r fd1 H locs hp h => ?_)
    have h := (st_lin (st_gnis h))
    obtain ⟨rfl, hF1⟩ := hp
    have h : St E _ s H locs (wO E a k b t x q ((iv (ik))) fd1 ++ (wS E k ((hk)) ((nk)) (k1, k2, k3, k4, k5, k6, k7, k8, k9) ++ (wS E b ((iv (hr A))) ((iv (pe A))) (xs, xi, xk, xc, xl, xr, xb, yl, yr) ++ (wS E t ((ht)) ((nt)) (t1, t2, t3, t4, t5, t6, t7, t8, t9) ++ (wX E x ((iv (tn))) ((e1)) ((e2)) ((e3)) ((e4)) tp ++ (wH E (q 0) ((iv (bq 0))) ((iv (sq 0))) c0 ++ (wH E (q 1) ((iv (bq 1))) ((iv (sq 1))) c1 ++ (wH E (q 2) ((iv (bq 2))) ((iv (sq 2))) c2 ++ (wH E (q 3) ((iv (bq 3))) ((iv (sq 3))) c3 ++ []))))))))) := h
    have e9 : q_sit A ph px pc = ((-1000000001), A, (bump ph 0)) := by unfold q_sit; (repeat (first | rw [if_pos (by omega)] | rw [if_neg (by omega)])); try rfl
    exact ret _ _ _ _ _ (((iv (ik)), fd1), ((hk), (nk), (k1, k2, k3, k4, k5, k6, k7, k8, k9)), ((iv (hr A)), (iv (pe A)), (xs, xi, xk, xc, xl, xr, xb, yl, yr)), ((ht), (nt), (t1, t2, t3, t4, t5, t6, t7, t8, t9)), ((iv (tn)), (e1), (e2), (e3), (e4), tp), ((iv (bq 0)), (iv (sq 0)), c0), ((iv (bq 1)), (iv (sq 1)), c1), ((iv (bq 2)), (iv (sq 2)), c2), ((iv (bq 3)), (iv (sq 3)), c3)) h (by rw [e9]; exact ⟨rfl, ⟨rfl, rfl, hR, hI, hr9⟩, hK, hF1, hT, hB⟩) dX4_sit_24
  · refine lv_iload_n X.1 X.2.1 dX4_sit_8 rfl (lv_at hl 2 rfl) ?_
    refine z_iconst X dX4_sit_9 ?_
    refine z_bipush X (by decide) dX4_sit_10 ?_
    refine z_pi (run_S (rest := []) X h (c_X4_within r_pc ⟨by decide, by decide⟩ ⟨by decide, by decide⟩) mi_X4_within ml_X4_44 ⟨Nat.le_of_ble_eq_true rfl, Nat.le_of_ble_eq_true rfl⟩ ⟨rfl, rfl⟩ (Seg.nil _) rfl hl.1 rfl (Nat.le_of_ble_eq_true rfl) ⟨Nat.zero_le _, Nat.zero_le _⟩ dX4_sit_12) ?_
    refine z_ifb_ne (tgt := 25) X dX4_sit_15 (by decide) (fun c_15 => ?_) (fun c_15 => ?_)
    · refine lv_iload_n X.1 X.2.1 dX4_sit_25 rfl (lv_at hl 2 rfl) ?_
      refine z_if_lt (tgt := 48) X r_pc dX4_sit_26 (by decide) (fun c_26 => ?_) (fun c_26 => ?_)
      · refine lv_aload_n X.1 X.2.1 dX4_sit_48 rfl (lv_at hl 0 rfl) ?_
        refine z_get X h 3 0 0 rfl inX4 rfl (by decide) fl_X4_10 rfl dX4_sit_49 ?_
        refine z_get X h 1 13 5 rfl inX1 rfl (by decide) fl_X4_100 rfl dX4_sit_52 ?_
        refine lv_iload_n X.1 X.2.1 dX4_sit_55 rfl (lv_at hl 1 rfl) ?_
        refine z_iald (v := pr A 1 px) X h 17 rfl (by omega) (by omega) (by decide) (hR.2.2.2.1 px (by omega) (by omega)) dX4_sit_56 ?_
        refine lv_istore_n (lv' := [(3, .int (iv (pr A 1 px))), (0, .ref (a 0)), (1, .int (iv (px))), (2, .int (iv (pc)))]) X.1 X.2.1 dX4_sit_57 rfl hl (by decide) rfl (fun ls hl => ?_)
        refine lv_aload_n X.1 X.2.1 dX4_sit_58 rfl (lv_at hl 1 rfl) ?_
        refine z_get X h 3 0 0 rfl inX4 rfl (by decide) fl_X4_10 rfl dX4_sit_59 ?_
        refine lv_iload_n X.1 X.2.1 dX4_sit_62 rfl (lv_at hl 2 rfl) ?_
        refine lv_iload_n X.1 X.2.1 dX4_sit_63 rfl (lv_at hl 3 rfl) ?_
        refine z_wv (st_in (st_in (st_nil h))) (run_V (rest := []) X (st_in (st_in (st_nil h))) (c_X1_seat (p := px) (d := pc) hR hI (by omega) (by first | omega | (show px < pe A; omega)) (by omega) (by omega) (by omega)) mi_X1_seat ml_X4_135 ⟨Nat.le_of_ble_eq_true rfl, Nat.le_of_ble_eq_true rfl⟩ ⟨rfl, rfl⟩ (Seg.mk' _ _) 1 13 rfl rfl rfl rfl hl.1 rfl (Nat.le_of_ble_eq_true rfl) ⟨Nat.zero_le _, Nat.zero_le _⟩ dX4_sit_64) (fun _ => wS_map _ _ _ _ _ _ _ _) (fun u H locs hp h => ?_)
        have h := (st_lin (st_out (st_out h)))
        obtain ⟨z0_2, z1_2, z2_2, z3_2, z4_2, z5_2, z6_2, z7_2, z8_2⟩ := u
        have h : St E _ s H locs (wO E a k b t x q ((iv (ik))) fd ++ (wS E k ((hk)) ((nk)) (k1, k2, k3, k4, k5, k6, k7, k8, k9) ++ (wS E b ((iv (hr A))) ((iv (pe A))) (z0_2, z1_2, z2_2, z3_2, z4_2, z5_2, z6_2, z7_2, z8_2) ++ (wS E t ((ht)) ((nt)) (t1, t2, t3, t4, t5, t6, t7, t8, t9) ++ (wX E x ((iv (tn))) ((e1)) ((e2)) ((e3)) ((e4)) tp ++ (wH E (q 0) ((iv (bq 0))) ((iv (sq 0))) c0 ++ (wH E (q 1) ((iv (bq 1))) ((iv (sq 1))) c1 ++ (wH E (q 2) ((iv (bq 2))) ((iv (sq 2))) c2 ++ (wH E (q 3) ((iv (bq 3))) ((iv (sq 3))) c3 ++ []))))))))) := h
        have hR2 : RS (z0_2, z1_2, z2_2, z3_2, z4_2, z5_2, z6_2, z7_2, z8_2) (pu A 1 px pc) := hp
        have hI2 : IA (pu A 1 px pc) := IA_sit hI (by omega) (by first | omega | (show px < pe A; omega)) (by omega) (by omega) (by omega)
        refine lv_iload_n X.1 X.2.1 dX4_sit_67 rfl (lv_at hl 0 rfl) ?_
        have e9 : q_sit A ph px pc = (pr A 1 px, (pu A 1 px pc), ph) := by unfold q_sit; (repeat (first | rw [if_pos (by omega)] | rw [if_neg (by omega)])); try rfl
        exact ret _ _ _ _ _ (((iv (ik)), fd), ((hk), (nk), (k1, k2, k3, k4, k5, k6, k7, k8, k9)), ((iv (hr A)), (iv (pe A)), (z0_2, z1_2, z2_2, z3_2, z4_2, z5_2, z6_2, z7_2, z8_2)), ((ht), (nt), (t1, t2, t3, t4, t5, t6, t7, t8, t9)), ((iv (tn)), (e1), (e2), (e3), (e4), tp), ((iv (bq 0)), (iv (sq 0)), c0), ((iv (bq 1)), (iv (sq 1)), c1), ((iv (bq 2)), (iv (sq 2)), c2), ((iv (bq 3)), (iv (sq 3)), c3)) h (by rw [e9]; exact ⟨rfl, ⟨rfl, rfl, hR2, hI2, hr9⟩, hK, hF, hT, hB⟩) dX4_sit_68
      · refine lv_aload_n X.1 X.2.1 dX4_sit_29 rfl (lv_at hl 0 rfl) ?_
        refine z_get X h 3 0 0 rfl inX4 rfl (by decide) fl_X4_10 rfl dX4_sit_30 ?_
        refine lv_iload_n X.1 X.2.1 dX4_sit_33 rfl (lv_at hl 1 rfl) ?_
        refine lv_iload_n X.1 X.2.1 dX4_sit_34 rfl (lv_at hl 2 rfl) ?_
        refine z_pi (run_V (rest := []) X (st_in (st_in (st_nil h))) (c_X1_isFreeFor (p := px) (c9 := pc) hR hI (by omega) (by omega) (by omega) (by omega)) mi_X1_isFreeFor ml_X4_131 ⟨Nat.le_of_ble_eq_true rfl, Nat.le_of_ble_eq_true rfl⟩ ⟨rfl, rfl⟩ (Seg.mk' _ _) 1 13 rfl rfl rfl rfl hl.1 rfl (Nat.le_of_ble_eq_true rfl) ⟨Nat.zero_le _, Nat.zero_le _⟩ dX4_sit_35) ?_
        refine z_ifb_ne (tgt := 48) X dX4_sit_38 (by decide) (fun c_38 => ?_) (fun c_38 => ?_)
        · refine lv_aload_n X.1 X.2.1 dX4_sit_48 rfl (lv_at hl 0 rfl) ?_
          refine z_get X h 3 0 0 rfl inX4 rfl (by decide) fl_X4_10 rfl dX4_sit_49 ?_
          refine z_get X h 1 13 5 rfl inX1 rfl (by decide) fl_X4_100 rfl dX4_sit_52 ?_
          refine lv_iload_n X.1 X.2.1 dX4_sit_55 rfl (lv_at hl 1 rfl) ?_
          refine z_iald (v := pr A 1 px) X h 17 rfl (by omega) (by omega) (by decide) (hR.2.2.2.1 px (by omega) (by omega)) dX4_sit_56 ?_
          refine lv_istore_n (lv' := [(3, .int (iv (pr A 1 px))), (0, .ref (a 0)), (1, .int (iv (px))), (2, .int (iv (pc)))]) X.1 X.2.1 dX4_sit_57 rfl hl (by decide) rfl (fun ls hl => ?_)
          refine lv_aload_n X.1 X.2.1 dX4_sit_58 rfl (lv_at hl 1 rfl) ?_
          refine z_get X h 3 0 0 rfl inX4 rfl (by decide) fl_X4_10 rfl dX4_sit_59 ?_
          refine lv_iload_n X.1 X.2.1 dX4_sit_62 rfl (lv_at hl 2 rfl) ?_
          refine lv_iload_n X.1 X.2.1 dX4_sit_63 rfl (lv_at hl 3 rfl) ?_
          refine z_wv (st_in (st_in (st_nil h))) (run_V (rest := []) X (st_in (st_in (st_nil h))) (c_X1_seat (p := px) (d := pc) hR hI (by omega) (by first | omega | (show px < pe A; omega)) (by omega) (by omega) (by omega)) mi_X1_seat ml_X4_135 ⟨Nat.le_of_ble_eq_true rfl, Nat.le_of_ble_eq_true rfl⟩ ⟨rfl, rfl⟩ (Seg.mk' _ _) 1 13 rfl rfl rfl rfl hl.1 rfl (Nat.le_of_ble_eq_true rfl) ⟨Nat.zero_le _, Nat.zero_le _⟩ dX4_sit_64) (fun _ => wS_map _ _ _ _ _ _ _ _) (fun u H locs hp h => ?_)
          have h := (st_lin (st_out (st_out h)))
          obtain ⟨z0_3, z1_3, z2_3, z3_3, z4_3, z5_3, z6_3, z7_3, z8_3⟩ := u
          have h : St E _ s H locs (wO E a k b t x q ((iv (ik))) fd ++ (wS E k ((hk)) ((nk)) (k1, k2, k3, k4, k5, k6, k7, k8, k9) ++ (wS E b ((iv (hr A))) ((iv (pe A))) (z0_3, z1_3, z2_3, z3_3, z4_3, z5_3, z6_3, z7_3, z8_3) ++ (wS E t ((ht)) ((nt)) (t1, t2, t3, t4, t5, t6, t7, t8, t9) ++ (wX E x ((iv (tn))) ((e1)) ((e2)) ((e3)) ((e4)) tp ++ (wH E (q 0) ((iv (bq 0))) ((iv (sq 0))) c0 ++ (wH E (q 1) ((iv (bq 1))) ((iv (sq 1))) c1 ++ (wH E (q 2) ((iv (bq 2))) ((iv (sq 2))) c2 ++ (wH E (q 3) ((iv (bq 3))) ((iv (sq 3))) c3 ++ []))))))))) := h
          have hR3 : RS (z0_3, z1_3, z2_3, z3_3, z4_3, z5_3, z6_3, z7_3, z8_3) (pu A 1 px pc) := hp
          have hI3 : IA (pu A 1 px pc) := IA_sit hI (by omega) (by first | omega | (show px < pe A; omega)) (by omega) (by omega) (by omega)
          refine lv_iload_n X.1 X.2.1 dX4_sit_67 rfl (lv_at hl 0 rfl) ?_
          have e9 : q_sit A ph px pc = (pr A 1 px, (pu A 1 px pc), ph) := by unfold q_sit; (repeat (first | rw [if_pos (by omega)] | rw [if_neg (by omega)])); try rfl
          exact ret _ _ _ _ _ (((iv (ik)), fd), ((hk), (nk), (k1, k2, k3, k4, k5, k6, k7, k8, k9)), ((iv (hr A)), (iv (pe A)), (z0_3, z1_3, z2_3, z3_3, z4_3, z5_3, z6_3, z7_3, z8_3)), ((ht), (nt), (t1, t2, t3, t4, t5, t6, t7, t8, t9)), ((iv (tn)), (e1), (e2), (e3), (e4), tp), ((iv (bq 0)), (iv (sq 0)), c0), ((iv (bq 1)), (iv (sq 1)), c1), ((iv (bq 2)), (iv (sq 2)), c2), ((iv (bq 3)), (iv (sq 3)), c3)) h (by rw [e9]; exact ⟨rfl, ⟨rfl, rfl, hR3, hI3, hr9⟩, hK, hF, hT, hB⟩) dX4_sit_68
        · refine lv_aload_n X.1 X.2.1 dX4_sit_41 rfl (lv_at hl 0 rfl) ?_
          refine z_ldc (z := (-1000000005)) X ct_X4_134 (by decide) dX4_sit_42 ?_
          refine z_wi (st_sing (st_nil h)) (run_V (rest := []) X (st_sing (st_nil h)) (c_X4_finding (j := 4) hF (by decide) (by decide) (by decide)) mi_X4_finding ml_X4_49 ⟨Nat.le_of_ble_eq_true rfl, Nat.le_of_ble_eq_true rfl⟩ ⟨rfl, rfl⟩ (Seg.mk' _ _) 3 0 rfl rfl rfl rfl hl.1 rfl (Nat.le_of_ble_eq_true rfl) ⟨Nat.zero_le _, Nat.zero_le _⟩ dX4_sit_44) (fun _ => map_app (wO_map _ _ _ _ _ _ _ _ _ _ _) rfl) (fun r fd4 H locs hp h => ?_)
          have h := (st_lin (st_gnis h))
          obtain ⟨rfl, hF4⟩ := hp
          have h : St E _ s H locs (wO E a k b t x q ((iv (ik))) fd4 ++ (wS E k ((hk)) ((nk)) (k1, k2, k3, k4, k5, k6, k7, k8, k9) ++ (wS E b ((iv (hr A))) ((iv (pe A))) (xs, xi, xk, xc, xl, xr, xb, yl, yr) ++ (wS E t ((ht)) ((nt)) (t1, t2, t3, t4, t5, t6, t7, t8, t9) ++ (wX E x ((iv (tn))) ((e1)) ((e2)) ((e3)) ((e4)) tp ++ (wH E (q 0) ((iv (bq 0))) ((iv (sq 0))) c0 ++ (wH E (q 1) ((iv (bq 1))) ((iv (sq 1))) c1 ++ (wH E (q 2) ((iv (bq 2))) ((iv (sq 2))) c2 ++ (wH E (q 3) ((iv (bq 3))) ((iv (sq 3))) c3 ++ []))))))))) := h
          have e9 : q_sit A ph px pc = ((-1000000005), A, (bump ph 4)) := by unfold q_sit; (repeat (first | rw [if_pos (by omega)] | rw [if_neg (by omega)])); try rfl
          exact ret _ _ _ _ _ (((iv (ik)), fd4), ((hk), (nk), (k1, k2, k3, k4, k5, k6, k7, k8, k9)), ((iv (hr A)), (iv (pe A)), (xs, xi, xk, xc, xl, xr, xb, yl, yr)), ((ht), (nt), (t1, t2, t3, t4, t5, t6, t7, t8, t9)), ((iv (tn)), (e1), (e2), (e3), (e4), tp), ((iv (bq 0)), (iv (sq 0)), c0), ((iv (bq 1)), (iv (sq 1)), c1), ((iv (bq 2)), (iv (sq 2)), c2), ((iv (bq 3)), (iv (sq 3)), c3)) h (by rw [e9]; exact ⟨rfl, ⟨rfl, rfl, hR, hI, hr9⟩, hK, hF4, hT, hB⟩) dX4_sit_47
    · refine lv_aload_n X.1 X.2.1 dX4_sit_18 rfl (lv_at hl 0 rfl) ?_
      refine z_ldc (z := (-1000000001)) X ct_X4_48 (by decide) dX4_sit_19 ?_
      refine z_wi (st_sing (st_nil h)) (run_V (rest := []) X (st_sing (st_nil h)) (c_X4_finding (j := 0) hF (by decide) (by decide) (by decide)) mi_X4_finding ml_X4_49 ⟨Nat.le_of_ble_eq_true rfl, Nat.le_of_ble_eq_true rfl⟩ ⟨rfl, rfl⟩ (Seg.mk' _ _) 3 0 rfl rfl rfl rfl hl.1 rfl (Nat.le_of_ble_eq_true rfl) ⟨Nat.zero_le _, Nat.zero_le _⟩ dX4_sit_21) (fun _ => map_app (wO_map _ _ _ _ _ _ _ _ _ _ _) rfl) (fun r fd5 H locs hp h => ?_)
      have h := (st_lin (st_gnis h))
      obtain ⟨rfl, hF5⟩ := hp
      have h : St E _ s H locs (wO E a k b t x q ((iv (ik))) fd5 ++ (wS E k ((hk)) ((nk)) (k1, k2, k3, k4, k5, k6, k7, k8, k9) ++ (wS E b ((iv (hr A))) ((iv (pe A))) (xs, xi, xk, xc, xl, xr, xb, yl, yr) ++ (wS E t ((ht)) ((nt)) (t1, t2, t3, t4, t5, t6, t7, t8, t9) ++ (wX E x ((iv (tn))) ((e1)) ((e2)) ((e3)) ((e4)) tp ++ (wH E (q 0) ((iv (bq 0))) ((iv (sq 0))) c0 ++ (wH E (q 1) ((iv (bq 1))) ((iv (sq 1))) c1 ++ (wH E (q 2) ((iv (bq 2))) ((iv (sq 2))) c2 ++ (wH E (q 3) ((iv (bq 3))) ((iv (sq 3))) c3 ++ []))))))))) := h
      have e9 : q_sit A ph px pc = ((-1000000001), A, (bump ph 0)) := by unfold q_sit; (repeat (first | rw [if_pos (by omega)] | rw [if_neg (by omega)])); try rfl
      exact ret _ _ _ _ _ (((iv (ik)), fd5), ((hk), (nk), (k1, k2, k3, k4, k5, k6, k7, k8, k9)), ((iv (hr A)), (iv (pe A)), (xs, xi, xk, xc, xl, xr, xb, yl, yr)), ((ht), (nt), (t1, t2, t3, t4, t5, t6, t7, t8, t9)), ((iv (tn)), (e1), (e2), (e3), (e4), tp), ((iv (bq 0)), (iv (sq 0)), c0), ((iv (bq 1)), (iv (sq 1)), c1), ((iv (bq 2)), (iv (sq 2)), c2), ((iv (bq 3)), (iv (sq 3)), c3)) h (by rw [e9]; exact ⟨rfl, ⟨rfl, rfl, hR, hI, hr9⟩, hK, hF5, hT, hB⟩) dX4_sit_24

set_option maxHeartbeats 4000000 in
theorem c_X4_given (hS : RepC (((iv (ik)), fd), ((hk), (nk), (k1, k2, k3, k4, k5, k6, k7, k8, k9)), ((iv (hr A)), (iv (pe A)), (xs, xi, xk, xc, xl, xr, xb, yl, yr)), ((ht), (nt), (t1, t2, t3, t4, t5, t6, t7, t8, t9)), ((iv (tn)), (e1), (e2), (e3), (e4), tp), ((iv (bq 0)), (iv (sq 0)), c0), ((iv (bq 1)), (iv (sq 1)), c1), ((iv (bq 2)), (iv (sq 2)), c2), ((iv (bq 3)), (iv (sq 3)), c3)) (A, K, ik, ph, tq, tn, bq, sq, cq)) {px : Int} (r_px : r32 px) {pd : Int} (r_pd : r32 pd) : MI (S := Tc) E l yX4_given cX4_given 3 (some FieldType.int) (rmk 3 67) (wO E a k b t x q ((iv (ik))) fd ++ (wS E k ((hk)) ((nk)) (k1, k2, k3, k4, k5, k6, k7, k8, k9) ++ (wS E b ((iv (hr A))) ((iv (pe A))) (xs, xi, xk, xc, xl, xr, xb, yl, yr) ++ (wS E t ((ht)) ((nt)) (t1, t2, t3, t4, t5, t6, t7, t8, t9) ++ (wX E x ((iv (tn))) ((e1)) ((e2)) ((e3)) ((e4)) tp ++ (wH E (q 0) ((iv (bq 0))) ((iv (sq 0))) c0 ++ (wH E (q 1) ((iv (bq 1))) ((iv (sq 1))) c1 ++ (wH E (q 2) ((iv (bq 2))) ((iv (sq 2))) c2 ++ (wH E (q 3) ((iv (bq 3))) ((iv (sq 3))) c3 ++ []))))))))) [.ref (a 0), .int (iv (px)), .int (iv (pd))] (fun r u => r = iv (q_given A ph px pd).1 ∧ RepC u ((q_given A ph px pd).2.1, K, ik, (q_given A ph px pd).2.2, tq, tn, bq, sq, cq)) (fun u => wT E a k b t x q u) := by
  refine goI (S := Tc) (post := fun r u => r = iv (q_given A ph px pd).1 ∧ RepC u ((q_given A ph px pd).2.1, K, ik, (q_given A ph px pd).2.2, tq, tn, bq, sq, cq)) (ws' := fun u => wT E a k b t x q u) (by decide) (Nat.le_of_ble_eq_true rfl) ?_
  intro pp e s m below meth c ls args Q ret X h hl
  have hl : lv_has ls 3 [(0, .ref (a 0)), (1, .int (iv (px))), (2, .int (iv (pd)))] := hl
  have hR : RS (xs, xi, xk, xc, xl, xr, xb, yl, yr) A := hS.1.2.2.1
  have hI : IA A := hS.1.2.2.2.1
  have hr9 : hr A ≤ 99999 := hS.1.2.2.2.2
  have hF : RF 7 fd ph := hS.2.2.1
  have hK := hS.2.1
  have hT := hS.2.2.2.1
  have hB := hS.2.2.2.2
  have hh : hr A < 1000000 := by omega
  have n8 := hI.n8
  have n0 := hI.n0
  have h0 := hI.h0
  refine lv_aload_n X.1 X.2.1 dX4_given_0 rfl (lv_at hl 0 rfl) ?_
  refine lv_iload_n X.1 X.2.1 dX4_given_1 rfl (lv_at hl 1 rfl) ?_
  refine z_pi (run_V (rest := []) X h (c_X4_isPerson (p := px) hI r_px) mi_X4_isPerson ml_X4_94 ⟨Nat.le_of_ble_eq_true rfl, Nat.le_of_ble_eq_true rfl⟩ ⟨rfl, rfl⟩ (Seg.rfl' _) 3 0 rfl rfl rfl rfl hl.1 rfl (Nat.le_of_ble_eq_true rfl) ⟨Nat.zero_le _, Nat.zero_le _⟩ dX4_given_2) ?_
  refine z_ifb_eq (tgt := 17) X dX4_given_5 (by decide) (fun c_5 => ?_) (fun c_5 => ?_)
  · refine lv_aload_n X.1 X.2.1 dX4_given_17 rfl (lv_at hl 0 rfl) ?_
    refine z_ldc (z := (-1000000001)) X ct_X4_48 (by decide) dX4_given_18 ?_
    refine z_wi (st_sing (st_nil h)) (run_V (rest := []) X (st_sing (st_nil h)) (c_X4_finding (j := 0) hF (by decide) (by decide) (by decide)) mi_X4_finding ml_X4_49 ⟨Nat.le_of_ble_eq_true rfl, Nat.le_of_ble_eq_true rfl⟩ ⟨rfl, rfl⟩ (Seg.mk' _ _) 3 0 rfl rfl rfl rfl hl.1 rfl (Nat.le_of_ble_eq_true rfl) ⟨Nat.zero_le _, Nat.zero_le _⟩ dX4_given_20) (fun _ => map_app (wO_map _ _ _ _ _ _ _ _ _ _ _) rfl) (fun r fd1 H locs hp h => ?_)
    have h := (st_lin (st_gnis h))
    obtain ⟨rfl, hF1⟩ := hp
    have h : St E _ s H locs (wO E a k b t x q ((iv (ik))) fd1 ++ (wS E k ((hk)) ((nk)) (k1, k2, k3, k4, k5, k6, k7, k8, k9) ++ (wS E b ((iv (hr A))) ((iv (pe A))) (xs, xi, xk, xc, xl, xr, xb, yl, yr) ++ (wS E t ((ht)) ((nt)) (t1, t2, t3, t4, t5, t6, t7, t8, t9) ++ (wX E x ((iv (tn))) ((e1)) ((e2)) ((e3)) ((e4)) tp ++ (wH E (q 0) ((iv (bq 0))) ((iv (sq 0))) c0 ++ (wH E (q 1) ((iv (bq 1))) ((iv (sq 1))) c1 ++ (wH E (q 2) ((iv (bq 2))) ((iv (sq 2))) c2 ++ (wH E (q 3) ((iv (bq 3))) ((iv (sq 3))) c3 ++ []))))))))) := h
    have e9 : q_given A ph px pd = ((-1000000001), A, (bump ph 0)) := by unfold q_given; first | (rw [if_pos (by omega), show pd = 0 by omega]; done) | (rw [if_pos (by omega), show pd = 1 by omega]; done) | ((repeat (first | rw [if_pos (by omega)] | rw [if_neg (by omega)])); try rfl)
    exact ret _ _ _ _ _ (((iv (ik)), fd1), ((hk), (nk), (k1, k2, k3, k4, k5, k6, k7, k8, k9)), ((iv (hr A)), (iv (pe A)), (xs, xi, xk, xc, xl, xr, xb, yl, yr)), ((ht), (nt), (t1, t2, t3, t4, t5, t6, t7, t8, t9)), ((iv (tn)), (e1), (e2), (e3), (e4), tp), ((iv (bq 0)), (iv (sq 0)), c0), ((iv (bq 1)), (iv (sq 1)), c1), ((iv (bq 2)), (iv (sq 2)), c2), ((iv (bq 3)), (iv (sq 3)), c3)) h (by rw [e9]; exact ⟨rfl, ⟨rfl, rfl, hR, hI, hr9⟩, hK, hF1, hT, hB⟩) dX4_given_23
  · refine lv_iload_n X.1 X.2.1 dX4_given_8 rfl (lv_at hl 2 rfl) ?_
    refine z_iconst X dX4_given_9 ?_
    refine z_iconst X dX4_given_10 ?_
    refine z_pi (run_S (rest := []) X h (c_X4_within r_pd ⟨by decide, by decide⟩ ⟨by decide, by decide⟩) mi_X4_within ml_X4_44 ⟨Nat.le_of_ble_eq_true rfl, Nat.le_of_ble_eq_true rfl⟩ ⟨rfl, rfl⟩ (Seg.nil _) rfl hl.1 rfl (Nat.le_of_ble_eq_true rfl) ⟨Nat.zero_le _, Nat.zero_le _⟩ dX4_given_11) ?_
    refine z_ifb_ne (tgt := 24) X dX4_given_14 (by decide) (fun c_14 => ?_) (fun c_14 => ?_)
    · refine lv_iload_n X.1 X.2.1 dX4_given_24 rfl (lv_at hl 2 rfl) ?_
      refine z_if_ne (tgt := 39) X r_pd dX4_given_25 (by decide) (fun c_25 => ?_) (fun c_25 => ?_)
      · refine lv_aload_n X.1 X.2.1 dX4_given_39 rfl (lv_at hl 0 rfl) ?_
        refine z_get X h 3 0 0 rfl inX4 rfl (by decide) fl_X4_10 rfl dX4_given_40 ?_
        refine lv_iload_n X.1 X.2.1 dX4_given_43 rfl (lv_at hl 1 rfl) ?_
        refine z_pi (run_V (rest := []) X (st_in (st_in (st_nil h))) (c_X1_givenRight (p := px) hR hI hh (by omega) (by omega)) mi_X1_givenRight ml_X4_142 ⟨Nat.le_of_ble_eq_true rfl, Nat.le_of_ble_eq_true rfl⟩ ⟨rfl, rfl⟩ (Seg.mk' _ _) 1 13 rfl rfl rfl rfl hl.1 rfl (Nat.le_of_ble_eq_true rfl) ⟨Nat.zero_le _, Nat.zero_le _⟩ dX4_given_44) ?_
        have e9 : q_given A ph px pd = (gv A px 1, A, ph) := by unfold q_given; first | (rw [if_pos (by omega), show pd = 0 by omega]; done) | (rw [if_pos (by omega), show pd = 1 by omega]; done) | ((repeat (first | rw [if_pos (by omega)] | rw [if_neg (by omega)])); try rfl)
        exact ret _ _ _ _ _ (((iv (ik)), fd), ((hk), (nk), (k1, k2, k3, k4, k5, k6, k7, k8, k9)), ((iv (hr A)), (iv (pe A)), (xs, xi, xk, xc, xl, xr, xb, yl, yr)), ((ht), (nt), (t1, t2, t3, t4, t5, t6, t7, t8, t9)), ((iv (tn)), (e1), (e2), (e3), (e4), tp), ((iv (bq 0)), (iv (sq 0)), c0), ((iv (bq 1)), (iv (sq 1)), c1), ((iv (bq 2)), (iv (sq 2)), c2), ((iv (bq 3)), (iv (sq 3)), c3)) h (by rw [e9]; exact ⟨rfl, ⟨rfl, rfl, hR, hI, hr9⟩, hK, hF, hT, hB⟩) dX4_given_47
      · refine lv_aload_n X.1 X.2.1 dX4_given_28 rfl (lv_at hl 0 rfl) ?_
        refine z_get X h 3 0 0 rfl inX4 rfl (by decide) fl_X4_10 rfl dX4_given_29 ?_
        refine lv_iload_n X.1 X.2.1 dX4_given_32 rfl (lv_at hl 1 rfl) ?_
        refine z_pi (run_V (rest := []) X (st_in (st_in (st_nil h))) (c_X1_givenLeft (p := px) hR hI hh (by omega) (by omega)) mi_X1_givenLeft ml_X4_139 ⟨Nat.le_of_ble_eq_true rfl, Nat.le_of_ble_eq_true rfl⟩ ⟨rfl, rfl⟩ (Seg.mk' _ _) 1 13 rfl rfl rfl rfl hl.1 rfl (Nat.le_of_ble_eq_true rfl) ⟨Nat.zero_le _, Nat.zero_le _⟩ dX4_given_33) ?_
        refine lv_goto (tgt := 47) X.1 X.2.1 dX4_given_36 (by decide) ?_
        have e9 : q_given A ph px pd = (gv A px 0, A, ph) := by unfold q_given; first | (rw [if_pos (by omega), show pd = 0 by omega]; done) | (rw [if_pos (by omega), show pd = 1 by omega]; done) | ((repeat (first | rw [if_pos (by omega)] | rw [if_neg (by omega)])); try rfl)
        exact ret _ _ _ _ _ (((iv (ik)), fd), ((hk), (nk), (k1, k2, k3, k4, k5, k6, k7, k8, k9)), ((iv (hr A)), (iv (pe A)), (xs, xi, xk, xc, xl, xr, xb, yl, yr)), ((ht), (nt), (t1, t2, t3, t4, t5, t6, t7, t8, t9)), ((iv (tn)), (e1), (e2), (e3), (e4), tp), ((iv (bq 0)), (iv (sq 0)), c0), ((iv (bq 1)), (iv (sq 1)), c1), ((iv (bq 2)), (iv (sq 2)), c2), ((iv (bq 3)), (iv (sq 3)), c3)) h (by rw [e9]; exact ⟨rfl, ⟨rfl, rfl, hR, hI, hr9⟩, hK, hF, hT, hB⟩) dX4_given_47
    · refine lv_aload_n X.1 X.2.1 dX4_given_17 rfl (lv_at hl 0 rfl) ?_
      refine z_ldc (z := (-1000000001)) X ct_X4_48 (by decide) dX4_given_18 ?_
      refine z_wi (st_sing (st_nil h)) (run_V (rest := []) X (st_sing (st_nil h)) (c_X4_finding (j := 0) hF (by decide) (by decide) (by decide)) mi_X4_finding ml_X4_49 ⟨Nat.le_of_ble_eq_true rfl, Nat.le_of_ble_eq_true rfl⟩ ⟨rfl, rfl⟩ (Seg.mk' _ _) 3 0 rfl rfl rfl rfl hl.1 rfl (Nat.le_of_ble_eq_true rfl) ⟨Nat.zero_le _, Nat.zero_le _⟩ dX4_given_20) (fun _ => map_app (wO_map _ _ _ _ _ _ _ _ _ _ _) rfl) (fun r fd2 H locs hp h => ?_)
      have h := (st_lin (st_gnis h))
      obtain ⟨rfl, hF2⟩ := hp
      have h : St E _ s H locs (wO E a k b t x q ((iv (ik))) fd2 ++ (wS E k ((hk)) ((nk)) (k1, k2, k3, k4, k5, k6, k7, k8, k9) ++ (wS E b ((iv (hr A))) ((iv (pe A))) (xs, xi, xk, xc, xl, xr, xb, yl, yr) ++ (wS E t ((ht)) ((nt)) (t1, t2, t3, t4, t5, t6, t7, t8, t9) ++ (wX E x ((iv (tn))) ((e1)) ((e2)) ((e3)) ((e4)) tp ++ (wH E (q 0) ((iv (bq 0))) ((iv (sq 0))) c0 ++ (wH E (q 1) ((iv (bq 1))) ((iv (sq 1))) c1 ++ (wH E (q 2) ((iv (bq 2))) ((iv (sq 2))) c2 ++ (wH E (q 3) ((iv (bq 3))) ((iv (sq 3))) c3 ++ []))))))))) := h
      have e9 : q_given A ph px pd = ((-1000000001), A, (bump ph 0)) := by unfold q_given; first | (rw [if_pos (by omega), show pd = 0 by omega]; done) | (rw [if_pos (by omega), show pd = 1 by omega]; done) | ((repeat (first | rw [if_pos (by omega)] | rw [if_neg (by omega)])); try rfl)
      exact ret _ _ _ _ _ (((iv (ik)), fd2), ((hk), (nk), (k1, k2, k3, k4, k5, k6, k7, k8, k9)), ((iv (hr A)), (iv (pe A)), (xs, xi, xk, xc, xl, xr, xb, yl, yr)), ((ht), (nt), (t1, t2, t3, t4, t5, t6, t7, t8, t9)), ((iv (tn)), (e1), (e2), (e3), (e4), tp), ((iv (bq 0)), (iv (sq 0)), c0), ((iv (bq 1)), (iv (sq 1)), c1), ((iv (bq 2)), (iv (sq 2)), c2), ((iv (bq 3)), (iv (sq 3)), c3)) h (by rw [e9]; exact ⟨rfl, ⟨rfl, rfl, hR, hI, hr9⟩, hK, hF2, hT, hB⟩) dX4_given_23

set_option maxHeartbeats 4000000 in
theorem c_X4_hours (hS : RepC (((iv (ik)), fd), ((hk), (nk), (k1, k2, k3, k4, k5, k6, k7, k8, k9)), ((iv (hr A)), (iv (pe A)), (xs, xi, xk, xc, xl, xr, xb, yl, yr)), ((ht), (nt), (t1, t2, t3, t4, t5, t6, t7, t8, t9)), ((iv (tn)), (e1), (e2), (e3), (e4), tp), ((iv (bq 0)), (iv (sq 0)), c0), ((iv (bq 1)), (iv (sq 1)), c1), ((iv (bq 2)), (iv (sq 2)), c2), ((iv (bq 3)), (iv (sq 3)), c3)) (A, K, ik, ph, tq, tn, bq, sq, cq)) {pn : Int} (r_pn : r32 pn) : MI (S := Tc) E l yX4_hours cX4_hours 2 (some FieldType.int) (rmk 5 111) (wO E a k b t x q ((iv (ik))) fd ++ (wS E k ((hk)) ((nk)) (k1, k2, k3, k4, k5, k6, k7, k8, k9) ++ (wS E b ((iv (hr A))) ((iv (pe A))) (xs, xi, xk, xc, xl, xr, xb, yl, yr) ++ (wS E t ((ht)) ((nt)) (t1, t2, t3, t4, t5, t6, t7, t8, t9) ++ (wX E x ((iv (tn))) ((e1)) ((e2)) ((e3)) ((e4)) tp ++ (wH E (q 0) ((iv (bq 0))) ((iv (sq 0))) c0 ++ (wH E (q 1) ((iv (bq 1))) ((iv (sq 1))) c1 ++ (wH E (q 2) ((iv (bq 2))) ((iv (sq 2))) c2 ++ (wH E (q 3) ((iv (bq 3))) ((iv (sq 3))) c3 ++ []))))))))) [.ref (a 0), .int (iv (pn))] (fun r u => r = iv (q_hours A ph pn).1 ∧ RepC u ((q_hours A ph pn).2.1, K, ik, (q_hours A ph pn).2.2, tq, tn, bq, sq, cq)) (fun u => wT E a k b t x q u) := by
  refine goI (S := Tc) (post := fun r u => r = iv (q_hours A ph pn).1 ∧ RepC u ((q_hours A ph pn).2.1, K, ik, (q_hours A ph pn).2.2, tq, tn, bq, sq, cq)) (ws' := fun u => wT E a k b t x q u) (by decide) (Nat.le_of_ble_eq_true rfl) ?_
  intro pp e s m below meth c ls args Q ret X h hl
  have hl : lv_has ls 2 [(0, .ref (a 0)), (1, .int (iv (pn)))] := hl
  have hR : RS (xs, xi, xk, xc, xl, xr, xb, yl, yr) A := hS.1.2.2.1
  have hI : IA A := hS.1.2.2.2.1
  have hr9 : hr A ≤ 99999 := hS.1.2.2.2.2
  have hF : RF 7 fd ph := hS.2.2.1
  have hK := hS.2.1
  have hT := hS.2.2.2.1
  have hB := hS.2.2.2.2
  have hh : hr A < 1000000 := by omega
  have n8 := hI.n8
  have n0 := hI.n0
  have h0 := hI.h0
  refine lv_iload_n X.1 X.2.1 dX4_hours_0 rfl (lv_at hl 1 rfl) ?_
  refine z_iconst X dX4_hours_1 ?_
  refine z_bipush X (by decide) dX4_hours_2 ?_
  refine z_pi (run_S (rest := []) X h (c_X4_within r_pn ⟨by decide, by decide⟩ ⟨by decide, by decide⟩) mi_X4_within ml_X4_44 ⟨Nat.le_of_ble_eq_true rfl, Nat.le_of_ble_eq_true rfl⟩ ⟨rfl, rfl⟩ (Seg.nil _) rfl hl.1 rfl (Nat.le_of_ble_eq_true rfl) ⟨Nat.zero_le _, Nat.zero_le _⟩ dX4_hours_4) ?_
  refine z_ifb_ne (tgt := 17) X dX4_hours_7 (by decide) (fun c_7 => ?_) (fun c_7 => ?_)
  · refine lv_aload_n X.1 X.2.1 dX4_hours_17 rfl (lv_at hl 0 rfl) ?_
    refine z_get X h 3 0 0 rfl inX4 rfl (by decide) fl_X4_10 rfl dX4_hours_18 ?_
    refine z_get X h 1 13 0 rfl inX1 rfl (by decide) fl_X4_59 rfl dX4_hours_21 ?_
    refine lv_iload_n X.1 X.2.1 dX4_hours_24 rfl (lv_at hl 1 rfl) ?_
    refine z_iadd X dX4_hours_25 ?_
    refine z_ldc (z := 99999) X ct_X4_145 (by decide) dX4_hours_26 ?_
    refine z_ic_le (tgt := 38) X ⟨by omega, by omega⟩ ⟨by decide, by decide⟩ dX4_hours_28 (by decide) (fun c_28 => ?_) (fun c_28 => ?_)
    · refine lv_aload_n X.1 X.2.1 dX4_hours_38 rfl (lv_at hl 0 rfl) ?_
      refine z_get X h 3 0 0 rfl inX4 rfl (by decide) fl_X4_10 rfl dX4_hours_39 ?_
      refine lv_iload_n X.1 X.2.1 dX4_hours_42 rfl (lv_at hl 1 rfl) ?_
      refine z_wv (st_in (st_in (st_nil h))) (run_V (rest := []) X (st_in (st_in (st_nil h))) (c_X1_goOn (k := pn) hR hI (by omega) (by omega) (by first | omega | (show hr A + _ < 1000000; omega))) mi_X1_goOn ml_X4_146 ⟨Nat.le_of_ble_eq_true rfl, Nat.le_of_ble_eq_true rfl⟩ ⟨rfl, rfl⟩ (Seg.mk' _ _) 1 13 rfl rfl rfl rfl hl.1 rfl (Nat.le_of_ble_eq_true rfl) ⟨Nat.zero_le _, Nat.zero_le _⟩ dX4_hours_43) (fun _ => wS_map _ _ _ _ _ _ _ _) (fun u H locs hp h => ?_)
      have h := (st_lin (st_out (st_out h)))
      obtain ⟨z0_1, z1_1, z2_1, z3_1, z4_1, z5_1, z6_1, z7_1, z8_1⟩ := u
      have h : St E _ s H locs (wO E a k b t x q ((iv (ik))) fd ++ (wS E k ((hk)) ((nk)) (k1, k2, k3, k4, k5, k6, k7, k8, k9) ++ (wS E b ((iv (hr (stepn A pn.toNat)))) ((iv (pe (stepn A pn.toNat)))) (z0_1, z1_1, z2_1, z3_1, z4_1, z5_1, z6_1, z7_1, z8_1) ++ (wS E t ((ht)) ((nt)) (t1, t2, t3, t4, t5, t6, t7, t8, t9) ++ (wX E x ((iv (tn))) ((e1)) ((e2)) ((e3)) ((e4)) tp ++ (wH E (q 0) ((iv (bq 0))) ((iv (sq 0))) c0 ++ (wH E (q 1) ((iv (bq 1))) ((iv (sq 1))) c1 ++ (wH E (q 2) ((iv (bq 2))) ((iv (sq 2))) c2 ++ (wH E (q 3) ((iv (bq 3))) ((iv (sq 3))) c3 ++ []))))))))) := h
      have hR1 : RS (z0_1, z1_1, z2_1, z3_1, z4_1, z5_1, z6_1, z7_1, z8_1) (stepn A pn.toNat) := hp
      have pn1 : pe (stepn A pn.toNat) = pe A := stepn_pe _ _
      refine lv_aload_n X.1 X.2.1 dX4_hours_46 rfl (lv_at hl 0 rfl) ?_
      refine z_get X h 3 0 0 rfl inX4 rfl (by decide) fl_X4_10 rfl dX4_hours_47 ?_
      refine z_pi (run_V (rest := []) X (st_in (st_in (st_nil h))) (c_X1_brownOfAll hR1 (stepn_IA hI pn.toNat)) mi_X1_brownOfAll ml_X4_76 ⟨Nat.le_of_ble_eq_true rfl, Nat.le_of_ble_eq_true rfl⟩ ⟨rfl, rfl⟩ (Seg.mk' _ _) 1 13 rfl rfl rfl rfl hl.1 rfl (Nat.le_of_ble_eq_true rfl) ⟨Nat.zero_le _, Nat.zero_le _⟩ dX4_hours_50) ?_
      have e9 : q_hours A ph pn = (allB (stepn A pn.toNat), (stepn A pn.toNat), ph) := by unfold q_hours; (repeat (first | rw [if_pos (by omega)] | rw [if_neg (by omega)])); try rfl
      exact ret _ _ _ _ _ (((iv (ik)), fd), ((hk), (nk), (k1, k2, k3, k4, k5, k6, k7, k8, k9)), ((iv (hr (stepn A pn.toNat))), (iv (pe (stepn A pn.toNat))), (z0_1, z1_1, z2_1, z3_1, z4_1, z5_1, z6_1, z7_1, z8_1)), ((ht), (nt), (t1, t2, t3, t4, t5, t6, t7, t8, t9)), ((iv (tn)), (e1), (e2), (e3), (e4), tp), ((iv (bq 0)), (iv (sq 0)), c0), ((iv (bq 1)), (iv (sq 1)), c1), ((iv (bq 2)), (iv (sq 2)), c2), ((iv (bq 3)), (iv (sq 3)), c3)) h (by rw [e9]; exact ⟨rfl, ⟨rfl, rfl, hR1, (stepn_IA hI pn.toNat), (by show hr (stepn A pn.toNat) ≤ 99999; rw [stepn_hr]; omega)⟩, hK, hF, hT, hB⟩) dX4_hours_53
    · refine lv_aload_n X.1 X.2.1 dX4_hours_31 rfl (lv_at hl 0 rfl) ?_
      refine z_ldc (z := (-1000000005)) X ct_X4_134 (by decide) dX4_hours_32 ?_
      refine z_wi (st_sing (st_nil h)) (run_V (rest := []) X (st_sing (st_nil h)) (c_X4_finding (j := 4) hF (by decide) (by decide) (by decide)) mi_X4_finding ml_X4_49 ⟨Nat.le_of_ble_eq_true rfl, Nat.le_of_ble_eq_true rfl⟩ ⟨rfl, rfl⟩ (Seg.mk' _ _) 3 0 rfl rfl rfl rfl hl.1 rfl (Nat.le_of_ble_eq_true rfl) ⟨Nat.zero_le _, Nat.zero_le _⟩ dX4_hours_34) (fun _ => map_app (wO_map _ _ _ _ _ _ _ _ _ _ _) rfl) (fun r fd2 H locs hp h => ?_)
      have h := (st_lin (st_gnis h))
      obtain ⟨rfl, hF2⟩ := hp
      have h : St E _ s H locs (wO E a k b t x q ((iv (ik))) fd2 ++ (wS E k ((hk)) ((nk)) (k1, k2, k3, k4, k5, k6, k7, k8, k9) ++ (wS E b ((iv (hr A))) ((iv (pe A))) (xs, xi, xk, xc, xl, xr, xb, yl, yr) ++ (wS E t ((ht)) ((nt)) (t1, t2, t3, t4, t5, t6, t7, t8, t9) ++ (wX E x ((iv (tn))) ((e1)) ((e2)) ((e3)) ((e4)) tp ++ (wH E (q 0) ((iv (bq 0))) ((iv (sq 0))) c0 ++ (wH E (q 1) ((iv (bq 1))) ((iv (sq 1))) c1 ++ (wH E (q 2) ((iv (bq 2))) ((iv (sq 2))) c2 ++ (wH E (q 3) ((iv (bq 3))) ((iv (sq 3))) c3 ++ []))))))))) := h
      have e9 : q_hours A ph pn = ((-1000000005), A, (bump ph 4)) := by unfold q_hours; (repeat (first | rw [if_pos (by omega)] | rw [if_neg (by omega)])); try rfl
      exact ret _ _ _ _ _ (((iv (ik)), fd2), ((hk), (nk), (k1, k2, k3, k4, k5, k6, k7, k8, k9)), ((iv (hr A)), (iv (pe A)), (xs, xi, xk, xc, xl, xr, xb, yl, yr)), ((ht), (nt), (t1, t2, t3, t4, t5, t6, t7, t8, t9)), ((iv (tn)), (e1), (e2), (e3), (e4), tp), ((iv (bq 0)), (iv (sq 0)), c0), ((iv (bq 1)), (iv (sq 1)), c1), ((iv (bq 2)), (iv (sq 2)), c2), ((iv (bq 3)), (iv (sq 3)), c3)) h (by rw [e9]; exact ⟨rfl, ⟨rfl, rfl, hR, hI, hr9⟩, hK, hF2, hT, hB⟩) dX4_hours_37
  · refine lv_aload_n X.1 X.2.1 dX4_hours_10 rfl (lv_at hl 0 rfl) ?_
    refine z_ldc (z := (-1000000001)) X ct_X4_48 (by decide) dX4_hours_11 ?_
    refine z_wi (st_sing (st_nil h)) (run_V (rest := []) X (st_sing (st_nil h)) (c_X4_finding (j := 0) hF (by decide) (by decide) (by decide)) mi_X4_finding ml_X4_49 ⟨Nat.le_of_ble_eq_true rfl, Nat.le_of_ble_eq_true rfl⟩ ⟨rfl, rfl⟩ (Seg.mk' _ _) 3 0 rfl rfl rfl rfl hl.1 rfl (Nat.le_of_ble_eq_true rfl) ⟨Nat.zero_le _, Nat.zero_le _⟩ dX4_hours_13) (fun _ => map_app (wO_map _ _ _ _ _ _ _ _ _ _ _) rfl) (fun r fd3 H locs hp h => ?_)
    have h := (st_lin (st_gnis h))
    obtain ⟨rfl, hF3⟩ := hp
    have h : St E _ s H locs (wO E a k b t x q ((iv (ik))) fd3 ++ (wS E k ((hk)) ((nk)) (k1, k2, k3, k4, k5, k6, k7, k8, k9) ++ (wS E b ((iv (hr A))) ((iv (pe A))) (xs, xi, xk, xc, xl, xr, xb, yl, yr) ++ (wS E t ((ht)) ((nt)) (t1, t2, t3, t4, t5, t6, t7, t8, t9) ++ (wX E x ((iv (tn))) ((e1)) ((e2)) ((e3)) ((e4)) tp ++ (wH E (q 0) ((iv (bq 0))) ((iv (sq 0))) c0 ++ (wH E (q 1) ((iv (bq 1))) ((iv (sq 1))) c1 ++ (wH E (q 2) ((iv (bq 2))) ((iv (sq 2))) c2 ++ (wH E (q 3) ((iv (bq 3))) ((iv (sq 3))) c3 ++ []))))))))) := h
    have e9 : q_hours A ph pn = ((-1000000001), A, (bump ph 0)) := by unfold q_hours; (repeat (first | rw [if_pos (by omega)] | rw [if_neg (by omega)])); try rfl
    exact ret _ _ _ _ _ (((iv (ik)), fd3), ((hk), (nk), (k1, k2, k3, k4, k5, k6, k7, k8, k9)), ((iv (hr A)), (iv (pe A)), (xs, xi, xk, xc, xl, xr, xb, yl, yr)), ((ht), (nt), (t1, t2, t3, t4, t5, t6, t7, t8, t9)), ((iv (tn)), (e1), (e2), (e3), (e4), tp), ((iv (bq 0)), (iv (sq 0)), c0), ((iv (bq 1)), (iv (sq 1)), c1), ((iv (bq 2)), (iv (sq 2)), c2), ((iv (bq 3)), (iv (sq 3)), c3)) h (by rw [e9]; exact ⟨rfl, ⟨rfl, rfl, hR, hI, hr9⟩, hK, hF3, hT, hB⟩) dX4_hours_16

set_option maxHeartbeats 4000000 in
theorem c_X4_on (hS : RepC (((iv (ik)), fd), ((hk), (nk), (k1, k2, k3, k4, k5, k6, k7, k8, k9)), ((iv (hr A)), (iv (pe A)), (xs, xi, xk, xc, xl, xr, xb, yl, yr)), ((ht), (nt), (t1, t2, t3, t4, t5, t6, t7, t8, t9)), ((iv (tn)), (e1), (e2), (e3), (e4), tp), ((iv (bq 0)), (iv (sq 0)), c0), ((iv (bq 1)), (iv (sq 1)), c1), ((iv (bq 2)), (iv (sq 2)), c2), ((iv (bq 3)), (iv (sq 3)), c3)) (A, K, ik, ph, tq, tn, bq, sq, cq)) {px : Int} (r_px : r32 px) {pn : Int} (r_pn : r32 pn) {pw : Int} (r_pw : r32 pw) : MI (S := Tc) E l yX4_on cX4_on 5 (some FieldType.int) (rmk 5 111) (wO E a k b t x q ((iv (ik))) fd ++ (wS E k ((hk)) ((nk)) (k1, k2, k3, k4, k5, k6, k7, k8, k9) ++ (wS E b ((iv (hr A))) ((iv (pe A))) (xs, xi, xk, xc, xl, xr, xb, yl, yr) ++ (wS E t ((ht)) ((nt)) (t1, t2, t3, t4, t5, t6, t7, t8, t9) ++ (wX E x ((iv (tn))) ((e1)) ((e2)) ((e3)) ((e4)) tp ++ (wH E (q 0) ((iv (bq 0))) ((iv (sq 0))) c0 ++ (wH E (q 1) ((iv (bq 1))) ((iv (sq 1))) c1 ++ (wH E (q 2) ((iv (bq 2))) ((iv (sq 2))) c2 ++ (wH E (q 3) ((iv (bq 3))) ((iv (sq 3))) c3 ++ []))))))))) [.ref (a 0), .int (iv (px)), .int (iv (pn)), .int (iv (pw))] (fun r u => r = iv (q_on A ph px pn pw).1 ∧ RepC u ((q_on A ph px pn pw).2.1, K, ik, (q_on A ph px pn pw).2.2, tq, tn, bq, sq, cq)) (fun u => wT E a k b t x q u) := by
  refine goI (S := Tc) (post := fun r u => r = iv (q_on A ph px pn pw).1 ∧ RepC u ((q_on A ph px pn pw).2.1, K, ik, (q_on A ph px pn pw).2.2, tq, tn, bq, sq, cq)) (ws' := fun u => wT E a k b t x q u) (by decide) (Nat.le_of_ble_eq_true rfl) ?_
  intro pp e s m below meth c ls args Q ret X h hl
  have hl : lv_has ls 5 [(0, .ref (a 0)), (1, .int (iv (px))), (2, .int (iv (pn))), (3, .int (iv (pw)))] := hl
  have hR : RS (xs, xi, xk, xc, xl, xr, xb, yl, yr) A := hS.1.2.2.1
  have hI : IA A := hS.1.2.2.2.1
  have hr9 : hr A ≤ 99999 := hS.1.2.2.2.2
  have hF : RF 7 fd ph := hS.2.2.1
  have hK := hS.2.1
  have hT := hS.2.2.2.1
  have hB := hS.2.2.2.2
  have hh : hr A < 1000000 := by omega
  have n8 := hI.n8
  have n0 := hI.n0
  have h0 := hI.h0
  refine lv_aload_n X.1 X.2.1 dX4_on_0 rfl (lv_at hl 0 rfl) ?_
  refine lv_iload_n X.1 X.2.1 dX4_on_1 rfl (lv_at hl 1 rfl) ?_
  refine z_pi (run_V (rest := []) X h (c_X4_isPerson (p := px) hI r_px) mi_X4_isPerson ml_X4_94 ⟨Nat.le_of_ble_eq_true rfl, Nat.le_of_ble_eq_true rfl⟩ ⟨rfl, rfl⟩ (Seg.rfl' _) 3 0 rfl rfl rfl rfl hl.1 rfl (Nat.le_of_ble_eq_true rfl) ⟨Nat.zero_le _, Nat.zero_le _⟩ dX4_on_2) ?_
  refine z_ifb_eq (tgt := 28) X dX4_on_5 (by decide) (fun c_5 => ?_) (fun c_5 => ?_)
  · refine lv_aload_n X.1 X.2.1 dX4_on_28 rfl (lv_at hl 0 rfl) ?_
    refine z_ldc (z := (-1000000001)) X ct_X4_48 (by decide) dX4_on_29 ?_
    refine z_wi (st_sing (st_nil h)) (run_V (rest := []) X (st_sing (st_nil h)) (c_X4_finding (j := 0) hF (by decide) (by decide) (by decide)) mi_X4_finding ml_X4_49 ⟨Nat.le_of_ble_eq_true rfl, Nat.le_of_ble_eq_true rfl⟩ ⟨rfl, rfl⟩ (Seg.mk' _ _) 3 0 rfl rfl rfl rfl hl.1 rfl (Nat.le_of_ble_eq_true rfl) ⟨Nat.zero_le _, Nat.zero_le _⟩ dX4_on_31) (fun _ => map_app (wO_map _ _ _ _ _ _ _ _ _ _ _) rfl) (fun r fd1 H locs hp h => ?_)
    have h := (st_lin (st_gnis h))
    obtain ⟨rfl, hF1⟩ := hp
    have h : St E _ s H locs (wO E a k b t x q ((iv (ik))) fd1 ++ (wS E k ((hk)) ((nk)) (k1, k2, k3, k4, k5, k6, k7, k8, k9) ++ (wS E b ((iv (hr A))) ((iv (pe A))) (xs, xi, xk, xc, xl, xr, xb, yl, yr) ++ (wS E t ((ht)) ((nt)) (t1, t2, t3, t4, t5, t6, t7, t8, t9) ++ (wX E x ((iv (tn))) ((e1)) ((e2)) ((e3)) ((e4)) tp ++ (wH E (q 0) ((iv (bq 0))) ((iv (sq 0))) c0 ++ (wH E (q 1) ((iv (bq 1))) ((iv (sq 1))) c1 ++ (wH E (q 2) ((iv (bq 2))) ((iv (sq 2))) c2 ++ (wH E (q 3) ((iv (bq 3))) ((iv (sq 3))) c3 ++ []))))))))) := h
    have e9 : q_on A ph px pn pw = ((-1000000001), A, (bump ph 0)) := by unfold q_on; first | (rw [if_pos (by omega), show pw = 0 by omega]; rfl) | (rw [if_pos (by omega), show pw = 1 by omega]; rfl) | (rw [if_pos (by omega), show pw = 2 by omega]; rfl) | ((repeat (first | rw [if_pos (by omega)] | rw [if_neg (by omega)])); try rfl)
    exact ret _ _ _ _ _ (((iv (ik)), fd1), ((hk), (nk), (k1, k2, k3, k4, k5, k6, k7, k8, k9)), ((iv (hr A)), (iv (pe A)), (xs, xi, xk, xc, xl, xr, xb, yl, yr)), ((ht), (nt), (t1, t2, t3, t4, t5, t6, t7, t8, t9)), ((iv (tn)), (e1), (e2), (e3), (e4), tp), ((iv (bq 0)), (iv (sq 0)), c0), ((iv (bq 1)), (iv (sq 1)), c1), ((iv (bq 2)), (iv (sq 2)), c2), ((iv (bq 3)), (iv (sq 3)), c3)) h (by rw [e9]; exact ⟨rfl, ⟨rfl, rfl, hR, hI, hr9⟩, hK, hF1, hT, hB⟩) dX4_on_34
  · refine lv_iload_n X.1 X.2.1 dX4_on_8 rfl (lv_at hl 2 rfl) ?_
    refine z_iconst X dX4_on_9 ?_
    refine z_sipush X (by decide) dX4_on_10 ?_
    refine z_pi (run_S (rest := []) X h (c_X4_within r_pn ⟨by decide, by decide⟩ ⟨by decide, by decide⟩) mi_X4_within ml_X4_44 ⟨Nat.le_of_ble_eq_true rfl, Nat.le_of_ble_eq_true rfl⟩ ⟨rfl, rfl⟩ (Seg.nil _) rfl hl.1 rfl (Nat.le_of_ble_eq_true rfl) ⟨Nat.zero_le _, Nat.zero_le _⟩ dX4_on_13) ?_
    refine z_ifb_eq (tgt := 28) X dX4_on_16 (by decide) (fun c_16 => ?_) (fun c_16 => ?_)
    · refine lv_aload_n X.1 X.2.1 dX4_on_28 rfl (lv_at hl 0 rfl) ?_
      refine z_ldc (z := (-1000000001)) X ct_X4_48 (by decide) dX4_on_29 ?_
      refine z_wi (st_sing (st_nil h)) (run_V (rest := []) X (st_sing (st_nil h)) (c_X4_finding (j := 0) hF (by decide) (by decide) (by decide)) mi_X4_finding ml_X4_49 ⟨Nat.le_of_ble_eq_true rfl, Nat.le_of_ble_eq_true rfl⟩ ⟨rfl, rfl⟩ (Seg.mk' _ _) 3 0 rfl rfl rfl rfl hl.1 rfl (Nat.le_of_ble_eq_true rfl) ⟨Nat.zero_le _, Nat.zero_le _⟩ dX4_on_31) (fun _ => map_app (wO_map _ _ _ _ _ _ _ _ _ _ _) rfl) (fun r fd2 H locs hp h => ?_)
      have h := (st_lin (st_gnis h))
      obtain ⟨rfl, hF2⟩ := hp
      have h : St E _ s H locs (wO E a k b t x q ((iv (ik))) fd2 ++ (wS E k ((hk)) ((nk)) (k1, k2, k3, k4, k5, k6, k7, k8, k9) ++ (wS E b ((iv (hr A))) ((iv (pe A))) (xs, xi, xk, xc, xl, xr, xb, yl, yr) ++ (wS E t ((ht)) ((nt)) (t1, t2, t3, t4, t5, t6, t7, t8, t9) ++ (wX E x ((iv (tn))) ((e1)) ((e2)) ((e3)) ((e4)) tp ++ (wH E (q 0) ((iv (bq 0))) ((iv (sq 0))) c0 ++ (wH E (q 1) ((iv (bq 1))) ((iv (sq 1))) c1 ++ (wH E (q 2) ((iv (bq 2))) ((iv (sq 2))) c2 ++ (wH E (q 3) ((iv (bq 3))) ((iv (sq 3))) c3 ++ []))))))))) := h
      have e9 : q_on A ph px pn pw = ((-1000000001), A, (bump ph 0)) := by unfold q_on; first | (rw [if_pos (by omega), show pw = 0 by omega]; rfl) | (rw [if_pos (by omega), show pw = 1 by omega]; rfl) | (rw [if_pos (by omega), show pw = 2 by omega]; rfl) | ((repeat (first | rw [if_pos (by omega)] | rw [if_neg (by omega)])); try rfl)
      exact ret _ _ _ _ _ (((iv (ik)), fd2), ((hk), (nk), (k1, k2, k3, k4, k5, k6, k7, k8, k9)), ((iv (hr A)), (iv (pe A)), (xs, xi, xk, xc, xl, xr, xb, yl, yr)), ((ht), (nt), (t1, t2, t3, t4, t5, t6, t7, t8, t9)), ((iv (tn)), (e1), (e2), (e3), (e4), tp), ((iv (bq 0)), (iv (sq 0)), c0), ((iv (bq 1)), (iv (sq 1)), c1), ((iv (bq 2)), (iv (sq 2)), c2), ((iv (bq 3)), (iv (sq 3)), c3)) h (by rw [e9]; exact ⟨rfl, ⟨rfl, rfl, hR, hI, hr9⟩, hK, hF2, hT, hB⟩) dX4_on_34
    · refine lv_iload_n X.1 X.2.1 dX4_on_19 rfl (lv_at hl 3 rfl) ?_
      refine z_iconst X dX4_on_20 ?_
      refine z_iconst X dX4_on_21 ?_
      refine z_pi (run_S (rest := []) X h (c_X4_within r_pw ⟨by decide, by decide⟩ ⟨by decide, by decide⟩) mi_X4_within ml_X4_44 ⟨Nat.le_of_ble_eq_true rfl, Nat.le_of_ble_eq_true rfl⟩ ⟨rfl, rfl⟩ (Seg.nil _) rfl hl.1 rfl (Nat.le_of_ble_eq_true rfl) ⟨Nat.zero_le _, Nat.zero_le _⟩ dX4_on_22) ?_
      refine z_ifb_ne (tgt := 35) X dX4_on_25 (by decide) (fun c_25 => ?_) (fun c_25 => ?_)
      · refine lv_aload_n X.1 X.2.1 dX4_on_35 rfl (lv_at hl 0 rfl) ?_
        refine z_av h (run_V (rest := []) X h (c_X4_startTrial hR hI.n8) mi_X4_startTrial ml_X4_150 ⟨Nat.le_of_ble_eq_true rfl, Nat.le_of_ble_eq_true rfl⟩ ⟨rfl, rfl⟩ (Seg.rfl' _) 3 0 rfl rfl rfl rfl hl.1 rfl (Nat.le_of_ble_eq_true rfl) ⟨Nat.zero_le _, Nat.zero_le _⟩ dX4_on_36) (fun _ => map_app rfl (map_app rfl (map_app rfl (map_app (wS_map _ _ _ _ _ _ _ _) rfl)))) (fun u H locs hp h => ?_)
        obtain ⟨r0_3, r1_3, r2_3, r3_3, r4_3, r5_3, r6_3, r7_3, r8_3⟩ := u
        have h : St E _ s H locs (wO E a k b t x q ((iv (ik))) fd ++ (wS E k ((hk)) ((nk)) (k1, k2, k3, k4, k5, k6, k7, k8, k9) ++ (wS E b ((iv (hr A))) ((iv (pe A))) (xs, xi, xk, xc, xl, xr, xb, yl, yr) ++ (wS E t ((iv (hr A))) ((iv (pe A))) (r0_3, r1_3, r2_3, r3_3, r4_3, r5_3, r6_3, r7_3, r8_3) ++ (wX E x ((iv (tn))) ((e1)) ((e2)) ((e3)) ((e4)) tp ++ (wH E (q 0) ((iv (bq 0))) ((iv (sq 0))) c0 ++ (wH E (q 1) ((iv (bq 1))) ((iv (sq 1))) c1 ++ (wH E (q 2) ((iv (bq 2))) ((iv (sq 2))) c2 ++ (wH E (q 3) ((iv (bq 3))) ((iv (sq 3))) c3 ++ []))))))))) := h
        have hRb3 : RS (r0_3, r1_3, r2_3, r3_3, r4_3, r5_3, r6_3, r7_3, r8_3) A := hp
        refine lv_aload_n X.1 X.2.1 dX4_on_39 rfl (lv_at hl 0 rfl) ?_
        refine z_get X h 3 0 1 rfl inX4 rfl (by decide) fl_X4_16 rfl dX4_on_40 ?_
        refine lv_iload_n X.1 X.2.1 dX4_on_43 rfl (lv_at hl 2 rfl) ?_
        refine z_wv (st_in (st_in (st_in (st_nil h)))) (run_V (rest := []) X (st_in (st_in (st_in (st_nil h)))) (c_X1_goOn (k := pn) hRb3 hI (by omega) (by omega) (by first | omega | (show hr A + _ < 1000000; omega))) mi_X1_goOn ml_X4_146 ⟨Nat.le_of_ble_eq_true rfl, Nat.le_of_ble_eq_true rfl⟩ ⟨rfl, rfl⟩ (Seg.mk' _ _) 1 23 rfl rfl rfl rfl hl.1 rfl (Nat.le_of_ble_eq_true rfl) ⟨Nat.zero_le _, Nat.zero_le _⟩ dX4_on_44) (fun _ => wS_map _ _ _ _ _ _ _ _) (fun u H locs hp h => ?_)
        have h := (st_lin (st_out (st_out (st_out h))))
        obtain ⟨z0_4, z1_4, z2_4, z3_4, z4_4, z5_4, z6_4, z7_4, z8_4⟩ := u
        have h : St E _ s H locs (wO E a k b t x q ((iv (ik))) fd ++ (wS E k ((hk)) ((nk)) (k1, k2, k3, k4, k5, k6, k7, k8, k9) ++ (wS E b ((iv (hr A))) ((iv (pe A))) (xs, xi, xk, xc, xl, xr, xb, yl, yr) ++ (wS E t ((iv (hr (stepn A pn.toNat)))) ((iv (pe (stepn A pn.toNat)))) (z0_4, z1_4, z2_4, z3_4, z4_4, z5_4, z6_4, z7_4, z8_4) ++ (wX E x ((iv (tn))) ((e1)) ((e2)) ((e3)) ((e4)) tp ++ (wH E (q 0) ((iv (bq 0))) ((iv (sq 0))) c0 ++ (wH E (q 1) ((iv (bq 1))) ((iv (sq 1))) c1 ++ (wH E (q 2) ((iv (bq 2))) ((iv (sq 2))) c2 ++ (wH E (q 3) ((iv (bq 3))) ((iv (sq 3))) c3 ++ []))))))))) := h
        have hR4 : RS (z0_4, z1_4, z2_4, z3_4, z4_4, z5_4, z6_4, z7_4, z8_4) (stepn A pn.toNat) := hp
        have pn4 : pe (stepn A pn.toNat) = pe A := stepn_pe _ _
        refine lv_iload_n X.1 X.2.1 dX4_on_47 rfl (lv_at hl 3 rfl) ?_
        refine z_if_ne (tgt := 61) X r_pw dX4_on_48 (by decide) (fun c_48 => ?_) (fun c_48 => ?_)
        · refine lv_iload_n X.1 X.2.1 dX4_on_61 rfl (lv_at hl 3 rfl) ?_
          refine z_iconst X dX4_on_62 ?_
          refine z_ic_ne (tgt := 76) X r_pw ⟨by decide, by decide⟩ dX4_on_63 (by decide) (fun c_63 => ?_) (fun c_63 => ?_)
          · refine lv_aload_n X.1 X.2.1 dX4_on_76 rfl (lv_at hl 0 rfl) ?_
            refine z_get X h 3 0 1 rfl inX4 rfl (by decide) fl_X4_16 rfl dX4_on_77 ?_
            refine z_get X h 1 23 8 rfl inX1 rfl (by decide) fl_X4_109 rfl dX4_on_80 ?_
            refine lv_astore (lv' := [(4, .ref (t 7)), (0, .ref (a 0)), (1, .int (iv (px))), (2, .int (iv (pn))), (3, .int (iv (pw)))]) X.1 X.2.1 dX4_on_83 hl (by decide) rfl (fun ls hl => ?_)
            refine lv_aload X.1 X.2.1 dX4_on_85 (lv_at hl 0 rfl) ?_
            refine lv_iload_n X.1 X.2.1 dX4_on_87 rfl (lv_at hl 2 rfl) ?_
            refine z_iald (v := pr (stepn A pn.toNat) 4 px) X h 30 rfl (by omega) (by omega) (by decide) (hR4.2.2.2.2.2.2 px (by omega) (by omega)) dX4_on_88 ?_
            have e9 : q_on A ph px pn pw = (pr (stepn A pn.toNat) 4 px, A, ph) := by unfold q_on; first | (rw [if_pos (by omega), show pw = 0 by omega]; rfl) | (rw [if_pos (by omega), show pw = 1 by omega]; rfl) | (rw [if_pos (by omega), show pw = 2 by omega]; rfl) | ((repeat (first | rw [if_pos (by omega)] | rw [if_neg (by omega)])); try rfl)
            exact ret _ _ _ _ _ (((iv (ik)), fd), ((hk), (nk), (k1, k2, k3, k4, k5, k6, k7, k8, k9)), ((iv (hr A)), (iv (pe A)), (xs, xi, xk, xc, xl, xr, xb, yl, yr)), ((iv (hr (stepn A pn.toNat))), (iv (pe (stepn A pn.toNat))), (z0_4, z1_4, z2_4, z3_4, z4_4, z5_4, z6_4, z7_4, z8_4)), ((iv (tn)), (e1), (e2), (e3), (e4), tp), ((iv (bq 0)), (iv (sq 0)), c0), ((iv (bq 1)), (iv (sq 1)), c1), ((iv (bq 2)), (iv (sq 2)), c2), ((iv (bq 3)), (iv (sq 3)), c3)) h (by rw [e9]; exact ⟨rfl, ⟨rfl, rfl, hR, hI, hr9⟩, hK, hF, hT, hB⟩) dX4_on_89
          · refine lv_aload_n X.1 X.2.1 dX4_on_66 rfl (lv_at hl 0 rfl) ?_
            refine z_get X h 3 0 1 rfl inX4 rfl (by decide) fl_X4_16 rfl dX4_on_67 ?_
            refine z_get X h 1 23 7 rfl inX1 rfl (by decide) fl_X4_106 rfl dX4_on_70 ?_
            refine lv_goto (tgt := 83) X.1 X.2.1 dX4_on_73 (by decide) ?_
            refine lv_astore (lv' := [(4, .ref (t 6)), (0, .ref (a 0)), (1, .int (iv (px))), (2, .int (iv (pn))), (3, .int (iv (pw)))]) X.1 X.2.1 dX4_on_83 hl (by decide) rfl (fun ls hl => ?_)
            refine lv_aload X.1 X.2.1 dX4_on_85 (lv_at hl 0 rfl) ?_
            refine lv_iload_n X.1 X.2.1 dX4_on_87 rfl (lv_at hl 2 rfl) ?_
            refine z_iald (v := pr (stepn A pn.toNat) 3 px) X h 29 rfl (by omega) (by omega) (by decide) (hR4.2.2.2.2.2.1 px (by omega) (by omega)) dX4_on_88 ?_
            have e9 : q_on A ph px pn pw = (pr (stepn A pn.toNat) 3 px, A, ph) := by unfold q_on; first | (rw [if_pos (by omega), show pw = 0 by omega]; rfl) | (rw [if_pos (by omega), show pw = 1 by omega]; rfl) | (rw [if_pos (by omega), show pw = 2 by omega]; rfl) | ((repeat (first | rw [if_pos (by omega)] | rw [if_neg (by omega)])); try rfl)
            exact ret _ _ _ _ _ (((iv (ik)), fd), ((hk), (nk), (k1, k2, k3, k4, k5, k6, k7, k8, k9)), ((iv (hr A)), (iv (pe A)), (xs, xi, xk, xc, xl, xr, xb, yl, yr)), ((iv (hr (stepn A pn.toNat))), (iv (pe (stepn A pn.toNat))), (z0_4, z1_4, z2_4, z3_4, z4_4, z5_4, z6_4, z7_4, z8_4)), ((iv (tn)), (e1), (e2), (e3), (e4), tp), ((iv (bq 0)), (iv (sq 0)), c0), ((iv (bq 1)), (iv (sq 1)), c1), ((iv (bq 2)), (iv (sq 2)), c2), ((iv (bq 3)), (iv (sq 3)), c3)) h (by rw [e9]; exact ⟨rfl, ⟨rfl, rfl, hR, hI, hr9⟩, hK, hF, hT, hB⟩) dX4_on_89
        · refine lv_aload_n X.1 X.2.1 dX4_on_51 rfl (lv_at hl 0 rfl) ?_
          refine z_get X h 3 0 1 rfl inX4 rfl (by decide) fl_X4_16 rfl dX4_on_52 ?_
          refine z_get X h 1 23 6 rfl inX1 rfl (by decide) fl_X4_103 rfl dX4_on_55 ?_
          refine lv_goto (tgt := 83) X.1 X.2.1 dX4_on_58 (by decide) ?_
          refine lv_astore (lv' := [(4, .ref (t 5)), (0, .ref (a 0)), (1, .int (iv (px))), (2, .int (iv (pn))), (3, .int (iv (pw)))]) X.1 X.2.1 dX4_on_83 hl (by decide) rfl (fun ls hl => ?_)
          refine lv_aload X.1 X.2.1 dX4_on_85 (lv_at hl 0 rfl) ?_
          refine lv_iload_n X.1 X.2.1 dX4_on_87 rfl (lv_at hl 2 rfl) ?_
          refine z_iald (v := pr (stepn A pn.toNat) 2 px) X h 28 rfl (by omega) (by omega) (by decide) (hR4.2.2.2.2.1 px (by omega) (by omega)) dX4_on_88 ?_
          have e9 : q_on A ph px pn pw = (pr (stepn A pn.toNat) 2 px, A, ph) := by unfold q_on; first | (rw [if_pos (by omega), show pw = 0 by omega]; rfl) | (rw [if_pos (by omega), show pw = 1 by omega]; rfl) | (rw [if_pos (by omega), show pw = 2 by omega]; rfl) | ((repeat (first | rw [if_pos (by omega)] | rw [if_neg (by omega)])); try rfl)
          exact ret _ _ _ _ _ (((iv (ik)), fd), ((hk), (nk), (k1, k2, k3, k4, k5, k6, k7, k8, k9)), ((iv (hr A)), (iv (pe A)), (xs, xi, xk, xc, xl, xr, xb, yl, yr)), ((iv (hr (stepn A pn.toNat))), (iv (pe (stepn A pn.toNat))), (z0_4, z1_4, z2_4, z3_4, z4_4, z5_4, z6_4, z7_4, z8_4)), ((iv (tn)), (e1), (e2), (e3), (e4), tp), ((iv (bq 0)), (iv (sq 0)), c0), ((iv (bq 1)), (iv (sq 1)), c1), ((iv (bq 2)), (iv (sq 2)), c2), ((iv (bq 3)), (iv (sq 3)), c3)) h (by rw [e9]; exact ⟨rfl, ⟨rfl, rfl, hR, hI, hr9⟩, hK, hF, hT, hB⟩) dX4_on_89
      · refine lv_aload_n X.1 X.2.1 dX4_on_28 rfl (lv_at hl 0 rfl) ?_
        refine z_ldc (z := (-1000000001)) X ct_X4_48 (by decide) dX4_on_29 ?_
        refine z_wi (st_sing (st_nil h)) (run_V (rest := []) X (st_sing (st_nil h)) (c_X4_finding (j := 0) hF (by decide) (by decide) (by decide)) mi_X4_finding ml_X4_49 ⟨Nat.le_of_ble_eq_true rfl, Nat.le_of_ble_eq_true rfl⟩ ⟨rfl, rfl⟩ (Seg.mk' _ _) 3 0 rfl rfl rfl rfl hl.1 rfl (Nat.le_of_ble_eq_true rfl) ⟨Nat.zero_le _, Nat.zero_le _⟩ dX4_on_31) (fun _ => map_app (wO_map _ _ _ _ _ _ _ _ _ _ _) rfl) (fun r fd5 H locs hp h => ?_)
        have h := (st_lin (st_gnis h))
        obtain ⟨rfl, hF5⟩ := hp
        have h : St E _ s H locs (wO E a k b t x q ((iv (ik))) fd5 ++ (wS E k ((hk)) ((nk)) (k1, k2, k3, k4, k5, k6, k7, k8, k9) ++ (wS E b ((iv (hr A))) ((iv (pe A))) (xs, xi, xk, xc, xl, xr, xb, yl, yr) ++ (wS E t ((ht)) ((nt)) (t1, t2, t3, t4, t5, t6, t7, t8, t9) ++ (wX E x ((iv (tn))) ((e1)) ((e2)) ((e3)) ((e4)) tp ++ (wH E (q 0) ((iv (bq 0))) ((iv (sq 0))) c0 ++ (wH E (q 1) ((iv (bq 1))) ((iv (sq 1))) c1 ++ (wH E (q 2) ((iv (bq 2))) ((iv (sq 2))) c2 ++ (wH E (q 3) ((iv (bq 3))) ((iv (sq 3))) c3 ++ []))))))))) := h
        have e9 : q_on A ph px pn pw = ((-1000000001), A, (bump ph 0)) := by unfold q_on; first | (rw [if_pos (by omega), show pw = 0 by omega]; rfl) | (rw [if_pos (by omega), show pw = 1 by omega]; rfl) | (rw [if_pos (by omega), show pw = 2 by omega]; rfl) | ((repeat (first | rw [if_pos (by omega)] | rw [if_neg (by omega)])); try rfl)
        exact ret _ _ _ _ _ (((iv (ik)), fd5), ((hk), (nk), (k1, k2, k3, k4, k5, k6, k7, k8, k9)), ((iv (hr A)), (iv (pe A)), (xs, xi, xk, xc, xl, xr, xb, yl, yr)), ((ht), (nt), (t1, t2, t3, t4, t5, t6, t7, t8, t9)), ((iv (tn)), (e1), (e2), (e3), (e4), tp), ((iv (bq 0)), (iv (sq 0)), c0), ((iv (bq 1)), (iv (sq 1)), c1), ((iv (bq 2)), (iv (sq 2)), c2), ((iv (bq 3)), (iv (sq 3)), c3)) h (by rw [e9]; exact ⟨rfl, ⟨rfl, rfl, hR, hI, hr9⟩, hK, hF5, hT, hB⟩) dX4_on_34
