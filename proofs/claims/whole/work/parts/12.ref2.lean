variable {E : EV} {l : Launch} {a : Nat → Nat} {mm kp wa fd gf tp bt sz : Nat → Int32} {cl : Nat → Int64} {ik tn tk bg pt vl bd : Int} {A : Es}
set_option maxHeartbeats 4000000 in
theorem c_X5_beside0 (hR : RM mm A) (hI : IA A) {p : Int} (p0 : 0 ≤ p) (p1 : p < pe A) : MP E l yX5_beside cX5_beside 4 (some FieldType.int) (rmk 2 45) (wM E a (mm, kp, wa, (iv (ik)), fd, gf, tp, (iv (tn)), (iv (tk)), (iv (bg)), (iv (pt)), (iv (vl)), (iv (bd)), bt, sz, cl)) [.ref (a 0), .int (iv (p)), .int (iv (0))] (nb A p (-1)) := by
  refine goP (by decide) (Nat.le_of_ble_eq_true rfl) ?_
  intro pp e s m below meth c ls args Q ret X h hl
  have hl : lv_has ls 4 [(0, .ref (a 0)), (1, .int (iv (p))), (2, .int (iv (0)))] := hl
  have q := hI.gP p0 p1
  refine lv_aload_n X.1 X.2.1 dX5_beside_0 rfl (lv_at hl 0 rfl) ?_
  refine lv_iload_n X.1 X.2.1 dX5_beside_1 rfl (lv_at hl 1 rfl) ?_
  refine z_iconst X dX5_beside_2 ?_
  refine z_pi (run_V (rest := []) X h (c_X5_it (p := p) (w := 1) hR hI (by omega) (by omega) (by omega) (by omega)) mi_X5_it ml_X5_52 ⟨Nat.le_of_ble_eq_true rfl, Nat.le_of_ble_eq_true rfl⟩ ⟨rfl, rfl⟩ (Seg.rfl' _) 4 0 rfl rfl rfl rfl hl.1 rfl (Nat.le_of_ble_eq_true rfl) ⟨Nat.zero_le _, Nat.zero_le _⟩ dX5_beside_3) ?_
  refine lv_iload_n X.1 X.2.1 dX5_beside_6 rfl (lv_at hl 2 rfl) ?_
  refine z_if_ne (tgt := 14) X ⟨by decide, by decide⟩ dX5_beside_7 (by decide) (fun c_7 => ?_) (fun c_7 => ?_)
  · exact absurd c_7 (by decide)
  · refine z_iconst X dX5_beside_10 ?_
    refine lv_goto (tgt := 15) X.1 X.2.1 dX5_beside_11 (by decide) ?_
    refine z_iadd X dX5_beside_15 ?_
    refine lv_istore_n (lv' := [(3, .int (iv (pr A 1 p + (-1)))), (0, .ref (a 0)), (1, .int (iv (p))), (2, .int (iv (0)))]) X.1 X.2.1 dX5_beside_16 rfl hl (by decide) rfl (fun ls hl => ?_)
    refine lv_aload_n X.1 X.2.1 dX5_beside_17 rfl (lv_at hl 1 rfl) ?_
    refine lv_iload_n X.1 X.2.1 dX5_beside_18 rfl (lv_at hl 2 rfl) ?_
    refine z_pi (run_V (rest := []) X h (c_X5_sits (p := p) hR hI (by omega) (by omega)) mi_X5_sits ml_X5_56 ⟨Nat.le_of_ble_eq_true rfl, Nat.le_of_ble_eq_true rfl⟩ ⟨rfl, rfl⟩ (Seg.rfl' _) 4 0 rfl rfl rfl rfl hl.1 rfl (Nat.le_of_ble_eq_true rfl) ⟨Nat.zero_le _, Nat.zero_le _⟩ dX5_beside_19) ?_
    refine z_ifb_eq (tgt := 36) X dX5_beside_22 (by decide) (fun c_22 => ?_) (fun c_22 => ?_)
    · refine z_iconst X dX5_beside_36 ?_
      refine lv_goto (tgt := 45) X.1 X.2.1 dX5_beside_37 (by decide) ?_
      exact ret _ _ _ (by unfold nb; rw [if_neg (by omega)]) dX5_beside_45
    · refine lv_iload_n X.1 X.2.1 dX5_beside_25 rfl (lv_at hl 0 rfl) ?_
      refine lv_i2l (v := (iv (pr A 1 p + (-1))).toInt64) X.1 X.2.1 dX5_beside_26 rfl ?_
      refine z_iconst X dX5_beside_27 ?_
      refine z_bipush X (by decide) dX5_beside_28 ?_
      refine z_pi (run_S (rest := []) X h (c_inI ⟨by omega, by omega⟩ ⟨by decide, by decide⟩ ⟨by decide, by decide⟩) mi_X5_in ml_X5_44 ⟨Nat.le_of_ble_eq_true rfl, Nat.le_of_ble_eq_true rfl⟩ ⟨rfl, rfl⟩ (Seg.nil _) rfl hl.1 rfl (Nat.le_of_ble_eq_true rfl) ⟨Nat.zero_le _, Nat.zero_le _⟩ dX5_beside_30) ?_
      refine z_ifb_ne (tgt := 40) X dX5_beside_33 (by decide) (fun c_33 => ?_) (fun c_33 => ?_)
      · refine lv_aload_n X.1 X.2.1 dX5_beside_40 rfl (lv_at hl 1 rfl) ?_
        refine lv_iload_n X.1 X.2.1 dX5_beside_41 rfl (lv_at hl 0 rfl) ?_
        refine z_pi (run_V (rest := []) X h (c_X5_onChair (ch := pr A 1 p + (-1)) hR hI ⟨by omega, by omega⟩) mi_X5_onChair ml_X5_59 ⟨Nat.le_of_ble_eq_true rfl, Nat.le_of_ble_eq_true rfl⟩ ⟨rfl, rfl⟩ (Seg.rfl' _) 4 0 rfl rfl rfl rfl hl.1 rfl (Nat.le_of_ble_eq_true rfl) ⟨Nat.zero_le _, Nat.zero_le _⟩ dX5_beside_42) ?_
        exact ret _ _ _ (by unfold nb; rw [if_pos (by omega)]) dX5_beside_45
      · refine z_iconst X dX5_beside_36 ?_
        refine lv_goto (tgt := 45) X.1 X.2.1 dX5_beside_37 (by decide) ?_
        exact ret _ _ _ (by unfold nb; rw [if_neg (by omega)]) dX5_beside_45

set_option maxHeartbeats 4000000 in
theorem c_X5_beside1 (hR : RM mm A) (hI : IA A) {p : Int} (p0 : 0 ≤ p) (p1 : p < pe A) : MP E l yX5_beside cX5_beside 4 (some FieldType.int) (rmk 2 45) (wM E a (mm, kp, wa, (iv (ik)), fd, gf, tp, (iv (tn)), (iv (tk)), (iv (bg)), (iv (pt)), (iv (vl)), (iv (bd)), bt, sz, cl)) [.ref (a 0), .int (iv (p)), .int (iv (1))] (nb A p 1) := by
  refine goP (by decide) (Nat.le_of_ble_eq_true rfl) ?_
  intro pp e s m below meth c ls args Q ret X h hl
  have hl : lv_has ls 4 [(0, .ref (a 0)), (1, .int (iv (p))), (2, .int (iv (1)))] := hl
  have q := hI.gP p0 p1
  refine lv_aload_n X.1 X.2.1 dX5_beside_0 rfl (lv_at hl 0 rfl) ?_
  refine lv_iload_n X.1 X.2.1 dX5_beside_1 rfl (lv_at hl 1 rfl) ?_
  refine z_iconst X dX5_beside_2 ?_
  refine z_pi (run_V (rest := []) X h (c_X5_it (p := p) (w := 1) hR hI (by omega) (by omega) (by omega) (by omega)) mi_X5_it ml_X5_52 ⟨Nat.le_of_ble_eq_true rfl, Nat.le_of_ble_eq_true rfl⟩ ⟨rfl, rfl⟩ (Seg.rfl' _) 4 0 rfl rfl rfl rfl hl.1 rfl (Nat.le_of_ble_eq_true rfl) ⟨Nat.zero_le _, Nat.zero_le _⟩ dX5_beside_3) ?_
  refine lv_iload_n X.1 X.2.1 dX5_beside_6 rfl (lv_at hl 2 rfl) ?_
  refine z_if_ne (tgt := 14) X ⟨by decide, by decide⟩ dX5_beside_7 (by decide) (fun c_7 => ?_) (fun c_7 => ?_)
  · refine z_iconst X dX5_beside_14 ?_
    refine z_iadd X dX5_beside_15 ?_
    refine lv_istore_n (lv' := [(3, .int (iv (pr A 1 p + 1))), (0, .ref (a 0)), (1, .int (iv (p))), (2, .int (iv (1)))]) X.1 X.2.1 dX5_beside_16 rfl hl (by decide) rfl (fun ls hl => ?_)
    refine lv_aload_n X.1 X.2.1 dX5_beside_17 rfl (lv_at hl 1 rfl) ?_
    refine lv_iload_n X.1 X.2.1 dX5_beside_18 rfl (lv_at hl 2 rfl) ?_
    refine z_pi (run_V (rest := []) X h (c_X5_sits (p := p) hR hI (by omega) (by omega)) mi_X5_sits ml_X5_56 ⟨Nat.le_of_ble_eq_true rfl, Nat.le_of_ble_eq_true rfl⟩ ⟨rfl, rfl⟩ (Seg.rfl' _) 4 0 rfl rfl rfl rfl hl.1 rfl (Nat.le_of_ble_eq_true rfl) ⟨Nat.zero_le _, Nat.zero_le _⟩ dX5_beside_19) ?_
    refine z_ifb_eq (tgt := 36) X dX5_beside_22 (by decide) (fun c_22 => ?_) (fun c_22 => ?_)
    · refine z_iconst X dX5_beside_36 ?_
      refine lv_goto (tgt := 45) X.1 X.2.1 dX5_beside_37 (by decide) ?_
      exact ret _ _ _ (by unfold nb; rw [if_neg (by omega)]) dX5_beside_45
    · refine lv_iload_n X.1 X.2.1 dX5_beside_25 rfl (lv_at hl 0 rfl) ?_
      refine lv_i2l (v := (iv (pr A 1 p + 1)).toInt64) X.1 X.2.1 dX5_beside_26 rfl ?_
      refine z_iconst X dX5_beside_27 ?_
      refine z_bipush X (by decide) dX5_beside_28 ?_
      refine z_pi (run_S (rest := []) X h (c_inI ⟨by omega, by omega⟩ ⟨by decide, by decide⟩ ⟨by decide, by decide⟩) mi_X5_in ml_X5_44 ⟨Nat.le_of_ble_eq_true rfl, Nat.le_of_ble_eq_true rfl⟩ ⟨rfl, rfl⟩ (Seg.nil _) rfl hl.1 rfl (Nat.le_of_ble_eq_true rfl) ⟨Nat.zero_le _, Nat.zero_le _⟩ dX5_beside_30) ?_
      refine z_ifb_ne (tgt := 40) X dX5_beside_33 (by decide) (fun c_33 => ?_) (fun c_33 => ?_)
      · refine lv_aload_n X.1 X.2.1 dX5_beside_40 rfl (lv_at hl 1 rfl) ?_
        refine lv_iload_n X.1 X.2.1 dX5_beside_41 rfl (lv_at hl 0 rfl) ?_
        refine z_pi (run_V (rest := []) X h (c_X5_onChair (ch := pr A 1 p + 1) hR hI ⟨by omega, by omega⟩) mi_X5_onChair ml_X5_59 ⟨Nat.le_of_ble_eq_true rfl, Nat.le_of_ble_eq_true rfl⟩ ⟨rfl, rfl⟩ (Seg.rfl' _) 4 0 rfl rfl rfl rfl hl.1 rfl (Nat.le_of_ble_eq_true rfl) ⟨Nat.zero_le _, Nat.zero_le _⟩ dX5_beside_42) ?_
        exact ret _ _ _ (by unfold nb; rw [if_pos (by omega)]) dX5_beside_45
      · refine z_iconst X dX5_beside_36 ?_
        refine lv_goto (tgt := 45) X.1 X.2.1 dX5_beside_37 (by decide) ?_
        exact ret _ _ _ (by unfold nb; rw [if_neg (by omega)]) dX5_beside_45
  · exact absurd c_7 (by decide)

set_option maxHeartbeats 4000000 in
theorem c_X5_glows (hR : RM mm A) (hI : IA A) (hh : hr A < 1000000) {p b t : Int} (p0 : 0 ≤ p) (p1 : p < pe A) (b0 : 0 ≤ b) (b1 : b ≤ 200) (t0 : 0 ≤ t) (t1 : t < pe A) : MP E l yX5_glows cX5_glows 7 (some FieldType.int) (rmk 1 22) (wM E a (mm, kp, wa, (iv (ik)), fd, gf, tp, (iv (tn)), (iv (tk)), (iv (bg)), (iv (pt)), (iv (vl)), (iv (bd)), bt, sz, cl)) [.ref (a 0), .int (iv (p)), .int (iv (b)), .int (iv (t))] (glow (pr A 0 p) b (sunN A) (pr A 0 t)) := by
  refine goP (by decide) (Nat.le_of_ble_eq_true rfl) ?_
  intro pp e s m below meth c ls args Q ret X h hl
  have hl : lv_has ls 7 [(0, .ref (a 0)), (1, .int (iv (p))), (2, .int (iv (b))), (3, .int (iv (t)))] := hl
  have q := hI.gP p0 p1
  have qt := hI.gP t0 t1
  have sr := sunN_rng hI
  have gr := guest_rng b0 b1 sr.1 sr.2
  refine lv_aload_n X.1 X.2.1 dX5_glows_0 rfl (lv_at hl 0 rfl) ?_
  refine z_pi (run_V (rest := []) X h (c_X5_sunNow hR hI hh) mi_X5_sunNow ml_X5_62 ⟨Nat.le_of_ble_eq_true rfl, Nat.le_of_ble_eq_true rfl⟩ ⟨rfl, rfl⟩ (Seg.rfl' _) 4 0 rfl rfl rfl rfl hl.1 rfl (Nat.le_of_ble_eq_true rfl) ⟨Nat.zero_le _, Nat.zero_le _⟩ dX5_glows_1) ?_
  refine lv_istore (lv' := [(4, .int (iv (sunN A))), (0, .ref (a 0)), (1, .int (iv (p))), (2, .int (iv (b))), (3, .int (iv (t)))]) X.1 X.2.1 dX5_glows_4 hl (by decide) rfl (fun ls hl => ?_)
  refine lv_iload_n X.1 X.2.1 dX5_glows_6 rfl (lv_at hl 3 rfl) ?_
  refine z_bipush X (by decide) dX5_glows_7 ?_
  refine z_idiv X (by omega) (by omega) (by omega) (by omega) dX5_glows_9 ?_
  refine lv_iload X.1 X.2.1 dX5_glows_10 (lv_at hl 0 rfl) ?_
  refine z_imul X dX5_glows_12 ?_
  refine z_bipush X (by decide) dX5_glows_13 ?_
  refine z_idiv X (by omega) (by omega) (by omega) (by omega) dX5_glows_15 ?_
  refine lv_istore (lv' := [(5, .int (iv ((((b) / (20)) * (sunN A)) / (9)))), (4, .int (iv (sunN A))), (0, .ref (a 0)), (1, .int (iv (p))), (2, .int (iv (b))), (3, .int (iv (t)))]) X.1 X.2.1 dX5_glows_16 hl (by decide) rfl (fun ls hl => ?_)
  refine lv_aload_n X.1 X.2.1 dX5_glows_18 rfl (lv_at hl 2 rfl) ?_
  refine lv_iload_n X.1 X.2.1 dX5_glows_19 rfl (lv_at hl 5 rfl) ?_
  refine z_iconst X dX5_glows_20 ?_
  refine z_pi (run_V (rest := []) X h (c_X5_it (p := t) (w := 0) hR hI (by omega) (by omega) (by omega) (by omega)) mi_X5_it ml_X5_52 ⟨Nat.le_of_ble_eq_true rfl, Nat.le_of_ble_eq_true rfl⟩ ⟨rfl, rfl⟩ (Seg.rfl' _) 4 0 rfl rfl rfl rfl hl.1 rfl (Nat.le_of_ble_eq_true rfl) ⟨Nat.zero_le _, Nat.zero_le _⟩ dX5_glows_21) ?_
  refine z_iconst X dX5_glows_24 ?_
  refine z_ic_ne (tgt := 37) X ⟨by omega, by omega⟩ ⟨by decide, by decide⟩ dX5_glows_25 (by decide) (fun c_25 => ?_) (fun c_25 => ?_)
  · refine lv_iload X.1 X.2.1 dX5_glows_37 (lv_at hl 0 rfl) ?_
    refine z_iconst X dX5_glows_39 ?_
    refine z_idiv X (by omega) (by omega) (by omega) (by omega) dX5_glows_40 ?_
    refine lv_istore (lv' := [(6, .int (iv (((((b) / (20)) * (sunN A)) / (9)) / (2)))), (5, .int (iv ((((b) / (20)) * (sunN A)) / (9)))), (4, .int (iv (sunN A))), (0, .ref (a 0)), (1, .int (iv (p))), (2, .int (iv (b))), (3, .int (iv (t)))]) X.1 X.2.1 dX5_glows_41 hl (by decide) rfl (fun ls hl => ?_)
    refine lv_iload X.1 X.2.1 dX5_glows_43 (lv_at hl 2 rfl) ?_
    refine z_if_ne (tgt := 50) X ⟨by omega, by omega⟩ dX5_glows_45 (by decide) (fun c_45 => ?_) (fun c_45 => ?_)
    · refine lv_aload_n X.1 X.2.1 dX5_glows_50 rfl (lv_at hl 3 rfl) ?_
      refine lv_iload_n X.1 X.2.1 dX5_glows_51 rfl (lv_at hl 4 rfl) ?_
      refine z_iconst X dX5_glows_52 ?_
      refine z_pi (run_V (rest := []) X h (c_X5_it (p := p) (w := 0) hR hI (by omega) (by omega) (by omega) (by omega)) mi_X5_it ml_X5_52 ⟨Nat.le_of_ble_eq_true rfl, Nat.le_of_ble_eq_true rfl⟩ ⟨rfl, rfl⟩ (Seg.rfl' _) 4 0 rfl rfl rfl rfl hl.1 rfl (Nat.le_of_ble_eq_true rfl) ⟨Nat.zero_le _, Nat.zero_le _⟩ dX5_glows_53) ?_
      rcases (show pr A 0 p = 1 ∨ pr A 0 p = 2 ∨ pr A 0 p = 3 ∨ pr A 0 p = 4 ∨ pr A 0 p = 5 ∨ (pr A 0 p < 1 ∨ 5 < pr A 0 p) by omega) with c_56 | c_56 | c_56 | c_56 | c_56 | c_56
      · refine z_tabIn (tgt := 92) X 1 c_56 ⟨by decide, by decide⟩ (by decide) (by decide) dX5_glows_56 rfl (by decide) ?_
        refine lv_iload X.1 X.2.1 dX5_glows_92 (lv_at hl 1 rfl) ?_
        refine z_iconst X dX5_glows_94 ?_
        refine z_iadd X dX5_glows_95 ?_
        exact ret _ _ _ (by unfold glow; (repeat' split) <;> omega) dX5_glows_96
      · refine z_tabIn (tgt := 97) X 2 c_56 ⟨by decide, by decide⟩ (by decide) (by decide) dX5_glows_56 rfl (by decide) ?_
        refine lv_iload X.1 X.2.1 dX5_glows_97 (lv_at hl 1 rfl) ?_
        refine z_iconst X dX5_glows_99 ?_
        refine z_idiv X (by omega) (by omega) (by omega) (by omega) dX5_glows_100 ?_
        exact ret _ _ _ (by unfold glow; (repeat' split) <;> omega) dX5_glows_101
      · refine z_tabIn (tgt := 102) X 3 c_56 ⟨by decide, by decide⟩ (by decide) (by decide) dX5_glows_56 rfl (by decide) ?_
        refine z_bipush X (by decide) dX5_glows_102 ?_
        exact ret _ _ _ (by unfold glow; (repeat' split) <;> omega) dX5_glows_104
      · refine z_tabIn (tgt := 105) X 4 c_56 ⟨by decide, by decide⟩ (by decide) (by decide) dX5_glows_56 rfl (by decide) ?_
        refine lv_iload X.1 X.2.1 dX5_glows_105 (lv_at hl 0 rfl) ?_
        exact ret _ _ _ (by unfold glow; (repeat' split) <;> omega) dX5_glows_107
      · refine z_tabIn (tgt := 108) X 5 c_56 ⟨by decide, by decide⟩ (by decide) (by decide) dX5_glows_56 rfl (by decide) ?_
        refine lv_iload X.1 X.2.1 dX5_glows_108 (lv_at hl 1 rfl) ?_
        refine z_iconst X dX5_glows_110 ?_
        refine z_ic_le (tgt := 121) X ⟨by omega, by omega⟩ ⟨by decide, by decide⟩ dX5_glows_111 (by decide) (fun c_111 => ?_) (fun c_111 => ?_)
        · refine z_iconst X dX5_glows_121 ?_
          exact ret _ _ _ (by unfold glow; (repeat' split) <;> omega) dX5_glows_122
        · refine lv_iload X.1 X.2.1 dX5_glows_114 (lv_at hl 1 rfl) ?_
          refine z_iconst X dX5_glows_116 ?_
          refine z_isub X dX5_glows_117 ?_
          refine lv_goto (tgt := 122) X.1 X.2.1 dX5_glows_118 (by decide) ?_
          exact ret _ _ _ (by unfold glow; (repeat' split) <;> omega) dX5_glows_122
      · refine z_tabOut (tgt := 123) X ⟨by omega, by omega⟩ c_56 dX5_glows_56 (by decide) ?_
        refine lv_iload X.1 X.2.1 dX5_glows_123 (lv_at hl 1 rfl) ?_
        exact ret _ _ _ (by unfold glow; (repeat' split) <;> omega) dX5_glows_125
    · refine z_iconst X dX5_glows_48 ?_
      exact ret _ _ _ (by unfold glow; (repeat' split) <;> omega) dX5_glows_49
  · refine z_iconst X dX5_glows_28 ?_
    refine lv_iload X.1 X.2.1 dX5_glows_29 (lv_at hl 0 rfl) ?_
    refine z_iconst X dX5_glows_31 ?_
    refine z_idiv X (by omega) (by omega) (by omega) (by omega) dX5_glows_32 ?_
    refine z_imul X dX5_glows_33 ?_
    refine lv_goto (tgt := 41) X.1 X.2.1 dX5_glows_34 (by decide) ?_
    refine lv_istore (lv' := [(6, .int (iv (2 * (((((b) / (20)) * (sunN A)) / (9)) / (2))))), (5, .int (iv ((((b) / (20)) * (sunN A)) / (9)))), (4, .int (iv (sunN A))), (0, .ref (a 0)), (1, .int (iv (p))), (2, .int (iv (b))), (3, .int (iv (t)))]) X.1 X.2.1 dX5_glows_41 hl (by decide) rfl (fun ls hl => ?_)
    refine lv_iload X.1 X.2.1 dX5_glows_43 (lv_at hl 2 rfl) ?_
    refine z_if_ne (tgt := 50) X ⟨by omega, by omega⟩ dX5_glows_45 (by decide) (fun c_45 => ?_) (fun c_45 => ?_)
    · refine lv_aload_n X.1 X.2.1 dX5_glows_50 rfl (lv_at hl 3 rfl) ?_
      refine lv_iload_n X.1 X.2.1 dX5_glows_51 rfl (lv_at hl 4 rfl) ?_
      refine z_iconst X dX5_glows_52 ?_
      refine z_pi (run_V (rest := []) X h (c_X5_it (p := p) (w := 0) hR hI (by omega) (by omega) (by omega) (by omega)) mi_X5_it ml_X5_52 ⟨Nat.le_of_ble_eq_true rfl, Nat.le_of_ble_eq_true rfl⟩ ⟨rfl, rfl⟩ (Seg.rfl' _) 4 0 rfl rfl rfl rfl hl.1 rfl (Nat.le_of_ble_eq_true rfl) ⟨Nat.zero_le _, Nat.zero_le _⟩ dX5_glows_53) ?_
      rcases (show pr A 0 p = 1 ∨ pr A 0 p = 2 ∨ pr A 0 p = 3 ∨ pr A 0 p = 4 ∨ pr A 0 p = 5 ∨ (pr A 0 p < 1 ∨ 5 < pr A 0 p) by omega) with c_56 | c_56 | c_56 | c_56 | c_56 | c_56
      · refine z_tabIn (tgt := 92) X 1 c_56 ⟨by decide, by decide⟩ (by decide) (by decide) dX5_glows_56 rfl (by decide) ?_
        refine lv_iload X.1 X.2.1 dX5_glows_92 (lv_at hl 1 rfl) ?_
        refine z_iconst X dX5_glows_94 ?_
        refine z_iadd X dX5_glows_95 ?_
        exact ret _ _ _ (by unfold glow; (repeat' split) <;> omega) dX5_glows_96
      · refine z_tabIn (tgt := 97) X 2 c_56 ⟨by decide, by decide⟩ (by decide) (by decide) dX5_glows_56 rfl (by decide) ?_
        refine lv_iload X.1 X.2.1 dX5_glows_97 (lv_at hl 1 rfl) ?_
        refine z_iconst X dX5_glows_99 ?_
        refine z_idiv X (by omega) (by omega) (by omega) (by omega) dX5_glows_100 ?_
        exact ret _ _ _ (by unfold glow; (repeat' split) <;> omega) dX5_glows_101
      · refine z_tabIn (tgt := 102) X 3 c_56 ⟨by decide, by decide⟩ (by decide) (by decide) dX5_glows_56 rfl (by decide) ?_
        refine z_bipush X (by decide) dX5_glows_102 ?_
        exact ret _ _ _ (by unfold glow; (repeat' split) <;> omega) dX5_glows_104
      · refine z_tabIn (tgt := 105) X 4 c_56 ⟨by decide, by decide⟩ (by decide) (by decide) dX5_glows_56 rfl (by decide) ?_
        refine lv_iload X.1 X.2.1 dX5_glows_105 (lv_at hl 0 rfl) ?_
        exact ret _ _ _ (by unfold glow; (repeat' split) <;> omega) dX5_glows_107
      · refine z_tabIn (tgt := 108) X 5 c_56 ⟨by decide, by decide⟩ (by decide) (by decide) dX5_glows_56 rfl (by decide) ?_
        refine lv_iload X.1 X.2.1 dX5_glows_108 (lv_at hl 1 rfl) ?_
        refine z_iconst X dX5_glows_110 ?_
        refine z_ic_le (tgt := 121) X ⟨by omega, by omega⟩ ⟨by decide, by decide⟩ dX5_glows_111 (by decide) (fun c_111 => ?_) (fun c_111 => ?_)
        · refine z_iconst X dX5_glows_121 ?_
          exact ret _ _ _ (by unfold glow; (repeat' split) <;> omega) dX5_glows_122
        · refine lv_iload X.1 X.2.1 dX5_glows_114 (lv_at hl 1 rfl) ?_
          refine z_iconst X dX5_glows_116 ?_
          refine z_isub X dX5_glows_117 ?_
          refine lv_goto (tgt := 122) X.1 X.2.1 dX5_glows_118 (by decide) ?_
          exact ret _ _ _ (by unfold glow; (repeat' split) <;> omega) dX5_glows_122
      · refine z_tabOut (tgt := 123) X ⟨by omega, by omega⟩ c_56 dX5_glows_56 (by decide) ?_
        refine lv_iload X.1 X.2.1 dX5_glows_123 (lv_at hl 1 rfl) ?_
        exact ret _ _ _ (by unfold glow; (repeat' split) <;> omega) dX5_glows_125
    · refine z_iconst X dX5_glows_48 ?_
      exact ret _ _ _ (by unfold glow; (repeat' split) <;> omega) dX5_glows_49

set_option maxHeartbeats 4000000 in
theorem c_X5_takesOf (hR : RM mm A) (hI : IA A) {p : Int} (p0 : 0 ≤ p) (p1 : p < pe A) {gi : Int} (g0 : 0 ≤ gi) (g1 : gi ≤ 13) : MP E l yX5_takesOf cX5_takesOf 3 (some FieldType.int) (rmk 1 22) (wM E a (mm, kp, wa, (iv (ik)), fd, gf, tp, (iv (tn)), (iv (tk)), (iv (bg)), (iv (pt)), (iv (vl)), (iv (bd)), bt, sz, cl)) [.ref (a 0), .int (iv (p)), .int (iv (gi))] (take (pr A 0 p) gi) := by
  refine goP (by decide) (Nat.le_of_ble_eq_true rfl) ?_
  intro pp e s m below meth c ls args Q ret X h hl
  have hl : lv_has ls 3 [(0, .ref (a 0)), (1, .int (iv (p))), (2, .int (iv (gi)))] := hl
  have q := hI.gP p0 p1
  refine lv_aload_n X.1 X.2.1 dX5_takesOf_0 rfl (lv_at hl 0 rfl) ?_
  refine lv_iload_n X.1 X.2.1 dX5_takesOf_1 rfl (lv_at hl 1 rfl) ?_
  refine z_iconst X dX5_takesOf_2 ?_
  refine z_pi (run_V (rest := []) X h (c_X5_it (p := p) (w := 0) hR hI (by omega) (by omega) (by omega) (by omega)) mi_X5_it ml_X5_52 ⟨Nat.le_of_ble_eq_true rfl, Nat.le_of_ble_eq_true rfl⟩ ⟨rfl, rfl⟩ (Seg.rfl' _) 4 0 rfl rfl rfl rfl hl.1 rfl (Nat.le_of_ble_eq_true rfl) ⟨Nat.zero_le _, Nat.zero_le _⟩ dX5_takesOf_3) ?_
  rcases (show pr A 0 p = 1 ∨ pr A 0 p = 2 ∨ pr A 0 p = 3 ∨ pr A 0 p = 4 ∨ pr A 0 p = 5 ∨ (pr A 0 p < 1 ∨ 5 < pr A 0 p) by omega) with c_6 | c_6 | c_6 | c_6 | c_6 | c_6
  · refine z_tabIn (tgt := 40) X 1 c_6 ⟨by decide, by decide⟩ (by decide) (by decide) dX5_takesOf_6 rfl (by decide) ?_
    refine lv_iload_n X.1 X.2.1 dX5_takesOf_40 rfl (lv_at hl 2 rfl) ?_
    refine z_iconst X dX5_takesOf_41 ?_
    refine z_idiv X (by omega) (by omega) (by omega) (by omega) dX5_takesOf_42 ?_
    exact ret _ _ _ (by unfold take; (repeat' split) <;> omega) dX5_takesOf_43
  · refine z_tabIn (tgt := 44) X 2 c_6 ⟨by decide, by decide⟩ (by decide) (by decide) dX5_takesOf_6 rfl (by decide) ?_
    refine lv_iload_n X.1 X.2.1 dX5_takesOf_44 rfl (lv_at hl 2 rfl) ?_
    refine z_if_le (tgt := 54) X ⟨by omega, by omega⟩ dX5_takesOf_45 (by decide) (fun c_45 => ?_) (fun c_45 => ?_)
    · refine z_iconst X dX5_takesOf_54 ?_
      exact ret _ _ _ (by unfold take; (repeat' split) <;> omega) dX5_takesOf_55
    · refine lv_iload_n X.1 X.2.1 dX5_takesOf_48 rfl (lv_at hl 2 rfl) ?_
      refine z_iconst X dX5_takesOf_49 ?_
      refine z_iadd X dX5_takesOf_50 ?_
      refine lv_goto (tgt := 55) X.1 X.2.1 dX5_takesOf_51 (by decide) ?_
      exact ret _ _ _ (by unfold take; (repeat' split) <;> omega) dX5_takesOf_55
  · refine z_tabIn (tgt := 56) X 3 c_6 ⟨by decide, by decide⟩ (by decide) (by decide) dX5_takesOf_6 rfl (by decide) ?_
    refine z_iconst X dX5_takesOf_56 ?_
    exact ret _ _ _ (by unfold take; (repeat' split) <;> omega) dX5_takesOf_57
  · refine z_tabIn (tgt := 44) X 4 c_6 ⟨by decide, by decide⟩ (by decide) (by decide) dX5_takesOf_6 rfl (by decide) ?_
    refine lv_iload_n X.1 X.2.1 dX5_takesOf_44 rfl (lv_at hl 2 rfl) ?_
    refine z_if_le (tgt := 54) X ⟨by omega, by omega⟩ dX5_takesOf_45 (by decide) (fun c_45 => ?_) (fun c_45 => ?_)
    · refine z_iconst X dX5_takesOf_54 ?_
      exact ret _ _ _ (by unfold take; (repeat' split) <;> omega) dX5_takesOf_55
    · refine lv_iload_n X.1 X.2.1 dX5_takesOf_48 rfl (lv_at hl 2 rfl) ?_
      refine z_iconst X dX5_takesOf_49 ?_
      refine z_iadd X dX5_takesOf_50 ?_
      refine lv_goto (tgt := 55) X.1 X.2.1 dX5_takesOf_51 (by decide) ?_
      exact ret _ _ _ (by unfold take; (repeat' split) <;> omega) dX5_takesOf_55
  · refine z_tabIn (tgt := 58) X 5 c_6 ⟨by decide, by decide⟩ (by decide) (by decide) dX5_takesOf_6 rfl (by decide) ?_
    refine lv_iload_n X.1 X.2.1 dX5_takesOf_58 rfl (lv_at hl 2 rfl) ?_
    refine z_if_le (tgt := 70) X ⟨by omega, by omega⟩ dX5_takesOf_59 (by decide) (fun c_59 => ?_) (fun c_59 => ?_)
    · refine z_iconst X dX5_takesOf_70 ?_
      exact ret _ _ _ (by unfold take; (repeat' split) <;> omega) dX5_takesOf_71
    · refine lv_iload_n X.1 X.2.1 dX5_takesOf_62 rfl (lv_at hl 2 rfl) ?_
      refine z_iconst X dX5_takesOf_63 ?_
      refine z_idiv X (by omega) (by omega) (by omega) (by omega) dX5_takesOf_64 ?_
      refine z_iconst X dX5_takesOf_65 ?_
      refine z_iadd X dX5_takesOf_66 ?_
      refine lv_goto (tgt := 71) X.1 X.2.1 dX5_takesOf_67 (by decide) ?_
      exact ret _ _ _ (by unfold take; (repeat' split) <;> omega) dX5_takesOf_71
  · refine z_tabOut (tgt := 72) X ⟨by omega, by omega⟩ c_6 dX5_takesOf_6 (by decide) ?_
    refine lv_iload_n X.1 X.2.1 dX5_takesOf_72 rfl (lv_at hl 2 rfl) ?_
    exact ret _ _ _ (by unfold take; (repeat' split) <;> omega) dX5_takesOf_73

set_option maxHeartbeats 4000000 in
theorem c_X5_fades (hR : RM mm A) (hI : IA A) (hh : hr A < 1000000) {p : Int} (p0 : 0 ≤ p) (p1 : p < pe A) : MP E l yX5_fades cX5_fades 3 (some FieldType.int) (rmk 3 68) (wM E a (mm, kp, wa, (iv (ik)), fd, gf, tp, (iv (tn)), (iv (tk)), (iv (bg)), (iv (pt)), (iv (vl)), (iv (bd)), bt, sz, cl)) [.ref (a 0), .int (iv (p))] (fdO A p) := by
  refine goP (by decide) (Nat.le_of_ble_eq_true rfl) ?_
  intro pp e s m below meth c ls args Q ret X h hl
  have hl : lv_has ls 3 [(0, .ref (a 0)), (1, .int (iv (p)))] := hl
  have q := hI.gP p0 p1
  have sr := sunN_rng hI
  have b0 := nb_rng hI p (-1)
  have b1 := nb_rng hI p 1
  refine lv_aload_n X.1 X.2.1 dX5_fades_0 rfl (lv_at hl 0 rfl) ?_
  refine z_pi (run_V (rest := []) X h (c_X5_sunNow hR hI hh) mi_X5_sunNow ml_X5_62 ⟨Nat.le_of_ble_eq_true rfl, Nat.le_of_ble_eq_true rfl⟩ ⟨rfl, rfl⟩ (Seg.rfl' _) 4 0 rfl rfl rfl rfl hl.1 rfl (Nat.le_of_ble_eq_true rfl) ⟨Nat.zero_le _, Nat.zero_le _⟩ dX5_fades_1) ?_
  refine z_if_ne (tgt := 11) X ⟨by omega, by omega⟩ dX5_fades_4 (by decide) (fun c_4 => ?_) (fun c_4 => ?_)
  · refine z_iconst X dX5_fades_11 ?_
    refine lv_istore_n (lv' := [(2, .int (iv (0))), (0, .ref (a 0)), (1, .int (iv (p)))]) X.1 X.2.1 dX5_fades_12 rfl hl (by decide) rfl (fun ls hl => ?_)
    refine lv_aload_n X.1 X.2.1 dX5_fades_13 rfl (lv_at hl 1 rfl) ?_
    refine lv_iload_n X.1 X.2.1 dX5_fades_14 rfl (lv_at hl 2 rfl) ?_
    refine z_iconst X dX5_fades_15 ?_
    refine z_pi (run_V (rest := []) X h (c_X5_it (p := p) (w := 0) hR hI (by omega) (by omega) (by omega) (by omega)) mi_X5_it ml_X5_52 ⟨Nat.le_of_ble_eq_true rfl, Nat.le_of_ble_eq_true rfl⟩ ⟨rfl, rfl⟩ (Seg.rfl' _) 4 0 rfl rfl rfl rfl hl.1 rfl (Nat.le_of_ble_eq_true rfl) ⟨Nat.zero_le _, Nat.zero_le _⟩ dX5_fades_16) ?_
    rcases (show pr A 0 p = 1 ∨ pr A 0 p = 2 ∨ pr A 0 p = 3 ∨ pr A 0 p = 4 ∨ pr A 0 p = 5 ∨ (pr A 0 p < 1 ∨ 5 < pr A 0 p) by omega) with c_19 | c_19 | c_19 | c_19 | c_19 | c_19
    · refine z_tabIn (tgt := 52) X 1 c_19 ⟨by decide, by decide⟩ (by decide) (by decide) dX5_fades_19 rfl (by decide) ?_
      refine z_iconst X dX5_fades_52 ?_
      exact ret _ _ _ (by unfold fdO fade; (repeat' split) <;> omega) dX5_fades_53
    · refine z_tabIn (tgt := 54) X 2 c_19 ⟨by decide, by decide⟩ (by decide) (by decide) dX5_fades_19 rfl (by decide) ?_
      refine z_iconst X dX5_fades_54 ?_
      exact ret _ _ _ (by unfold fdO fade; (repeat' split) <;> omega) dX5_fades_55
    · refine z_tabIn (tgt := 82) X 3 c_19 ⟨by decide, by decide⟩ (by decide) (by decide) dX5_fades_19 rfl (by decide) ?_
      refine lv_iload_n X.1 X.2.1 dX5_fades_82 rfl (lv_at hl 0 rfl) ?_
      exact ret _ _ _ (by unfold fdO fade; (repeat' split) <;> omega) dX5_fades_83
    · refine z_tabIn (tgt := 56) X 4 c_19 ⟨by decide, by decide⟩ (by decide) (by decide) dX5_fades_19 rfl (by decide) ?_
      refine lv_aload_n X.1 X.2.1 dX5_fades_56 rfl (lv_at hl 1 rfl) ?_
      refine lv_iload_n X.1 X.2.1 dX5_fades_57 rfl (lv_at hl 2 rfl) ?_
      refine z_iconst X dX5_fades_58 ?_
      refine z_pi (run_V (rest := []) X h (c_X5_beside0 (p := p) hR hI (by omega) (by omega)) mi_X5_beside ml_X5_66 ⟨Nat.le_of_ble_eq_true rfl, Nat.le_of_ble_eq_true rfl⟩ ⟨rfl, rfl⟩ (Seg.rfl' _) 4 0 rfl rfl rfl rfl hl.1 rfl (Nat.le_of_ble_eq_true rfl) ⟨Nat.zero_le _, Nat.zero_le _⟩ dX5_fades_59) ?_
      refine z_if_lt (tgt := 78) X ⟨by omega, by omega⟩ dX5_fades_62 (by decide) (fun c_62 => ?_) (fun c_62 => ?_)
      · refine z_iconst X dX5_fades_78 ?_
        exact ret _ _ _ (by unfold fdO fade; (repeat' split) <;> omega) dX5_fades_79
      · refine lv_aload_n X.1 X.2.1 dX5_fades_65 rfl (lv_at hl 1 rfl) ?_
        refine lv_iload_n X.1 X.2.1 dX5_fades_66 rfl (lv_at hl 2 rfl) ?_
        refine z_iconst X dX5_fades_67 ?_
        refine z_pi (run_V (rest := []) X h (c_X5_beside1 (p := p) hR hI (by omega) (by omega)) mi_X5_beside ml_X5_66 ⟨Nat.le_of_ble_eq_true rfl, Nat.le_of_ble_eq_true rfl⟩ ⟨rfl, rfl⟩ (Seg.rfl' _) 4 0 rfl rfl rfl rfl hl.1 rfl (Nat.le_of_ble_eq_true rfl) ⟨Nat.zero_le _, Nat.zero_le _⟩ dX5_fades_68) ?_
        refine z_if_lt (tgt := 78) X ⟨by omega, by omega⟩ dX5_fades_71 (by decide) (fun c_71 => ?_) (fun c_71 => ?_)
        · refine z_iconst X dX5_fades_78 ?_
          exact ret _ _ _ (by unfold fdO fade; (repeat' split) <;> omega) dX5_fades_79
        · refine z_iconst X dX5_fades_74 ?_
          refine lv_goto (tgt := 79) X.1 X.2.1 dX5_fades_75 (by decide) ?_
          exact ret _ _ _ (by unfold fdO fade; (repeat' split) <;> omega) dX5_fades_79
    · refine z_tabIn (tgt := 80) X 5 c_19 ⟨by decide, by decide⟩ (by decide) (by decide) dX5_fades_19 rfl (by decide) ?_
      refine z_iconst X dX5_fades_80 ?_
      exact ret _ _ _ (by unfold fdO fade; (repeat' split) <;> omega) dX5_fades_81
    · refine z_tabOut (tgt := 82) X ⟨by omega, by omega⟩ c_19 dX5_fades_19 (by decide) ?_
      refine lv_iload_n X.1 X.2.1 dX5_fades_82 rfl (lv_at hl 0 rfl) ?_
      exact ret _ _ _ (by unfold fdO fade; (repeat' split) <;> omega) dX5_fades_83
  · refine z_iconst X dX5_fades_7 ?_
    refine lv_goto (tgt := 12) X.1 X.2.1 dX5_fades_8 (by decide) ?_
    refine lv_istore_n (lv' := [(2, .int (iv (1))), (0, .ref (a 0)), (1, .int (iv (p)))]) X.1 X.2.1 dX5_fades_12 rfl hl (by decide) rfl (fun ls hl => ?_)
    refine lv_aload_n X.1 X.2.1 dX5_fades_13 rfl (lv_at hl 1 rfl) ?_
    refine lv_iload_n X.1 X.2.1 dX5_fades_14 rfl (lv_at hl 2 rfl) ?_
    refine z_iconst X dX5_fades_15 ?_
    refine z_pi (run_V (rest := []) X h (c_X5_it (p := p) (w := 0) hR hI (by omega) (by omega) (by omega) (by omega)) mi_X5_it ml_X5_52 ⟨Nat.le_of_ble_eq_true rfl, Nat.le_of_ble_eq_true rfl⟩ ⟨rfl, rfl⟩ (Seg.rfl' _) 4 0 rfl rfl rfl rfl hl.1 rfl (Nat.le_of_ble_eq_true rfl) ⟨Nat.zero_le _, Nat.zero_le _⟩ dX5_fades_16) ?_
    rcases (show pr A 0 p = 1 ∨ pr A 0 p = 2 ∨ pr A 0 p = 3 ∨ pr A 0 p = 4 ∨ pr A 0 p = 5 ∨ (pr A 0 p < 1 ∨ 5 < pr A 0 p) by omega) with c_19 | c_19 | c_19 | c_19 | c_19 | c_19
    · refine z_tabIn (tgt := 52) X 1 c_19 ⟨by decide, by decide⟩ (by decide) (by decide) dX5_fades_19 rfl (by decide) ?_
      refine z_iconst X dX5_fades_52 ?_
      exact ret _ _ _ (by unfold fdO fade; (repeat' split) <;> omega) dX5_fades_53
    · refine z_tabIn (tgt := 54) X 2 c_19 ⟨by decide, by decide⟩ (by decide) (by decide) dX5_fades_19 rfl (by decide) ?_
      refine z_iconst X dX5_fades_54 ?_
      exact ret _ _ _ (by unfold fdO fade; (repeat' split) <;> omega) dX5_fades_55
    · refine z_tabIn (tgt := 82) X 3 c_19 ⟨by decide, by decide⟩ (by decide) (by decide) dX5_fades_19 rfl (by decide) ?_
      refine lv_iload_n X.1 X.2.1 dX5_fades_82 rfl (lv_at hl 0 rfl) ?_
      exact ret _ _ _ (by unfold fdO fade; (repeat' split) <;> omega) dX5_fades_83
    · refine z_tabIn (tgt := 56) X 4 c_19 ⟨by decide, by decide⟩ (by decide) (by decide) dX5_fades_19 rfl (by decide) ?_
      refine lv_aload_n X.1 X.2.1 dX5_fades_56 rfl (lv_at hl 1 rfl) ?_
      refine lv_iload_n X.1 X.2.1 dX5_fades_57 rfl (lv_at hl 2 rfl) ?_
      refine z_iconst X dX5_fades_58 ?_
      refine z_pi (run_V (rest := []) X h (c_X5_beside0 (p := p) hR hI (by omega) (by omega)) mi_X5_beside ml_X5_66 ⟨Nat.le_of_ble_eq_true rfl, Nat.le_of_ble_eq_true rfl⟩ ⟨rfl, rfl⟩ (Seg.rfl' _) 4 0 rfl rfl rfl rfl hl.1 rfl (Nat.le_of_ble_eq_true rfl) ⟨Nat.zero_le _, Nat.zero_le _⟩ dX5_fades_59) ?_
      refine z_if_lt (tgt := 78) X ⟨by omega, by omega⟩ dX5_fades_62 (by decide) (fun c_62 => ?_) (fun c_62 => ?_)
      · refine z_iconst X dX5_fades_78 ?_
        exact ret _ _ _ (by unfold fdO fade; (repeat' split) <;> omega) dX5_fades_79
      · refine lv_aload_n X.1 X.2.1 dX5_fades_65 rfl (lv_at hl 1 rfl) ?_
        refine lv_iload_n X.1 X.2.1 dX5_fades_66 rfl (lv_at hl 2 rfl) ?_
        refine z_iconst X dX5_fades_67 ?_
        refine z_pi (run_V (rest := []) X h (c_X5_beside1 (p := p) hR hI (by omega) (by omega)) mi_X5_beside ml_X5_66 ⟨Nat.le_of_ble_eq_true rfl, Nat.le_of_ble_eq_true rfl⟩ ⟨rfl, rfl⟩ (Seg.rfl' _) 4 0 rfl rfl rfl rfl hl.1 rfl (Nat.le_of_ble_eq_true rfl) ⟨Nat.zero_le _, Nat.zero_le _⟩ dX5_fades_68) ?_
        refine z_if_lt (tgt := 78) X ⟨by omega, by omega⟩ dX5_fades_71 (by decide) (fun c_71 => ?_) (fun c_71 => ?_)
        · refine z_iconst X dX5_fades_78 ?_
          exact ret _ _ _ (by unfold fdO fade; (repeat' split) <;> omega) dX5_fades_79
        · refine z_iconst X dX5_fades_74 ?_
          refine lv_goto (tgt := 79) X.1 X.2.1 dX5_fades_75 (by decide) ?_
          exact ret _ _ _ (by unfold fdO fade; (repeat' split) <;> omega) dX5_fades_79
    · refine z_tabIn (tgt := 80) X 5 c_19 ⟨by decide, by decide⟩ (by decide) (by decide) dX5_fades_19 rfl (by decide) ?_
      refine z_iconst X dX5_fades_80 ?_
      exact ret _ _ _ (by unfold fdO fade; (repeat' split) <;> omega) dX5_fades_81
    · refine z_tabOut (tgt := 82) X ⟨by omega, by omega⟩ c_19 dX5_fades_19 (by decide) ?_
      refine lv_iload_n X.1 X.2.1 dX5_fades_82 rfl (lv_at hl 0 rfl) ?_
      exact ret _ _ _ (by unfold fdO fade; (repeat' split) <;> omega) dX5_fades_83

set_option maxHeartbeats 4000000 in
theorem c_X5_burnsFrom (hR : RM mm A) (hI : IA A) {p : Int} (p0 : 0 ≤ p) (p1 : p < pe A) : MP E l yX5_burnsFrom cX5_burnsFrom 2 (some FieldType.int) (rmk 1 22) (wM E a (mm, kp, wa, (iv (ik)), fd, gf, tp, (iv (tn)), (iv (tk)), (iv (bg)), (iv (pt)), (iv (vl)), (iv (bd)), bt, sz, cl)) [.ref (a 0), .int (iv (p))] (burnF (pr A 0 p)) := by
  refine goP (by decide) (Nat.le_of_ble_eq_true rfl) ?_
  intro pp e s m below meth c ls args Q ret X h hl
  have hl : lv_has ls 2 [(0, .ref (a 0)), (1, .int (iv (p)))] := hl
  have q := hI.gP p0 p1
  refine lv_aload_n X.1 X.2.1 dX5_burnsFrom_0 rfl (lv_at hl 0 rfl) ?_
  refine lv_iload_n X.1 X.2.1 dX5_burnsFrom_1 rfl (lv_at hl 1 rfl) ?_
  refine z_iconst X dX5_burnsFrom_2 ?_
  refine z_pi (run_V (rest := []) X h (c_X5_it (p := p) (w := 0) hR hI (by omega) (by omega) (by omega) (by omega)) mi_X5_it ml_X5_52 ⟨Nat.le_of_ble_eq_true rfl, Nat.le_of_ble_eq_true rfl⟩ ⟨rfl, rfl⟩ (Seg.rfl' _) 4 0 rfl rfl rfl rfl hl.1 rfl (Nat.le_of_ble_eq_true rfl) ⟨Nat.zero_le _, Nat.zero_le _⟩ dX5_burnsFrom_3) ?_
  rcases (show pr A 0 p = 1 ∨ pr A 0 p = 2 ∨ pr A 0 p = 3 ∨ pr A 0 p = 4 ∨ pr A 0 p = 5 ∨ (pr A 0 p < 1 ∨ 5 < pr A 0 p) by omega) with c_6 | c_6 | c_6 | c_6 | c_6 | c_6
  · refine z_tabIn (tgt := 40) X 1 c_6 ⟨by decide, by decide⟩ (by decide) (by decide) dX5_burnsFrom_6 rfl (by decide) ?_
    refine z_bipush X (by decide) dX5_burnsFrom_40 ?_
    exact ret _ _ _ (by unfold burnF; (repeat' split) <;> omega) dX5_burnsFrom_42
  · refine z_tabIn (tgt := 43) X 2 c_6 ⟨by decide, by decide⟩ (by decide) (by decide) dX5_burnsFrom_6 rfl (by decide) ?_
    refine z_bipush X (by decide) dX5_burnsFrom_43 ?_
    exact ret _ _ _ (by unfold burnF; (repeat' split) <;> omega) dX5_burnsFrom_45
  · refine z_tabIn (tgt := 49) X 3 c_6 ⟨by decide, by decide⟩ (by decide) (by decide) dX5_burnsFrom_6 rfl (by decide) ?_
    refine z_bipush X (by decide) dX5_burnsFrom_49 ?_
    exact ret _ _ _ (by unfold burnF; (repeat' split) <;> omega) dX5_burnsFrom_51
  · refine z_tabIn (tgt := 43) X 4 c_6 ⟨by decide, by decide⟩ (by decide) (by decide) dX5_burnsFrom_6 rfl (by decide) ?_
    refine z_bipush X (by decide) dX5_burnsFrom_43 ?_
    exact ret _ _ _ (by unfold burnF; (repeat' split) <;> omega) dX5_burnsFrom_45
  · refine z_tabIn (tgt := 46) X 5 c_6 ⟨by decide, by decide⟩ (by decide) (by decide) dX5_burnsFrom_6 rfl (by decide) ?_
    refine z_bipush X (by decide) dX5_burnsFrom_46 ?_
    exact ret _ _ _ (by unfold burnF; (repeat' split) <;> omega) dX5_burnsFrom_48
  · refine z_tabOut (tgt := 49) X ⟨by omega, by omega⟩ c_6 dX5_burnsFrom_6 (by decide) ?_
    refine z_bipush X (by decide) dX5_burnsFrom_49 ?_
    exact ret _ _ _ (by unfold burnF; (repeat' split) <;> omega) dX5_burnsFrom_51

set_option maxHeartbeats 4000000 in
theorem c_X5_brownOf (hR : RM mm A) (hI : IA A) {p : Int} (p0 : 0 ≤ p) (p1 : p < pe A) : MP E l yX5_brownOf cX5_brownOf 2 (some FieldType.int) (rmk 1 22) (wM E a (mm, kp, wa, (iv (ik)), fd, gf, tp, (iv (tn)), (iv (tk)), (iv (bg)), (iv (pt)), (iv (vl)), (iv (bd)), bt, sz, cl)) [.ref (a 0), .int (iv (p))] (brn A p) := by
  refine goP (by decide) (Nat.le_of_ble_eq_true rfl) ?_
  intro pp e s m below meth c ls args Q ret X h hl
  have hl : lv_has ls 2 [(0, .ref (a 0)), (1, .int (iv (p)))] := hl
  have q := hI.gP p0 p1
  refine lv_aload_n X.1 X.2.1 dX5_brownOf_0 rfl (lv_at hl 0 rfl) ?_
  refine lv_iload_n X.1 X.2.1 dX5_brownOf_1 rfl (lv_at hl 1 rfl) ?_
  refine z_iconst X dX5_brownOf_2 ?_
  refine z_pi (run_V (rest := []) X h (c_X5_it (p := p) (w := 2) hR hI (by omega) (by omega) (by omega) (by omega)) mi_X5_it ml_X5_52 ⟨Nat.le_of_ble_eq_true rfl, Nat.le_of_ble_eq_true rfl⟩ ⟨rfl, rfl⟩ (Seg.rfl' _) 4 0 rfl rfl rfl rfl hl.1 rfl (Nat.le_of_ble_eq_true rfl) ⟨Nat.zero_le _, Nat.zero_le _⟩ dX5_brownOf_3) ?_
  refine lv_aload_n X.1 X.2.1 dX5_brownOf_6 rfl (lv_at hl 0 rfl) ?_
  refine lv_iload_n X.1 X.2.1 dX5_brownOf_7 rfl (lv_at hl 1 rfl) ?_
  refine z_iconst X dX5_brownOf_8 ?_
  refine z_pi (run_V (rest := [.int (iv (pr A 2 p))]) X h (c_X5_it (p := p) (w := 3) hR hI (by omega) (by omega) (by omega) (by omega)) mi_X5_it ml_X5_52 ⟨Nat.le_of_ble_eq_true rfl, Nat.le_of_ble_eq_true rfl⟩ ⟨rfl, rfl⟩ (Seg.rfl' _) 4 0 rfl rfl rfl rfl hl.1 rfl (Nat.le_of_ble_eq_true rfl) ⟨Nat.zero_le _, Nat.zero_le _⟩ dX5_brownOf_9) ?_
  refine z_iadd X dX5_brownOf_12 ?_
  exact ret _ _ _ (rfl) dX5_brownOf_13

set_option maxHeartbeats 4000000 in
theorem c_X5_isEven (hR : RM mm A) (hI : IA A) {p : Int} (p0 : 0 ≤ p) (p1 : p < pe A) : MP E l yX5_isEven cX5_isEven 2 (some FieldType.boolean) (rmk 1 23) (wM E a (mm, kp, wa, (iv (ik)), fd, gf, tp, (iv (tn)), (iv (tk)), (iv (bg)), (iv (pt)), (iv (vl)), (iv (bd)), bt, sz, cl)) [.ref (a 0), .int (iv (p))] (bz (evB A p = true)) := by
  refine goB (by decide) (Nat.le_of_ble_eq_true rfl) ?_
  intro pp e s m below meth c ls args Q ret X h hl
  have hl : lv_has ls 2 [(0, .ref (a 0)), (1, .int (iv (p)))] := hl
  have q := hI.gP p0 p1
  refine lv_aload_n X.1 X.2.1 dX5_isEven_0 rfl (lv_at hl 0 rfl) ?_
  refine lv_iload_n X.1 X.2.1 dX5_isEven_1 rfl (lv_at hl 1 rfl) ?_
  refine z_iconst X dX5_isEven_2 ?_
  refine z_pi (run_V (rest := []) X h (c_X5_it (p := p) (w := 2) hR hI (by omega) (by omega) (by omega) (by omega)) mi_X5_it ml_X5_52 ⟨Nat.le_of_ble_eq_true rfl, Nat.le_of_ble_eq_true rfl⟩ ⟨rfl, rfl⟩ (Seg.rfl' _) 4 0 rfl rfl rfl rfl hl.1 rfl (Nat.le_of_ble_eq_true rfl) ⟨Nat.zero_le _, Nat.zero_le _⟩ dX5_isEven_3) ?_
  refine lv_aload_n X.1 X.2.1 dX5_isEven_6 rfl (lv_at hl 0 rfl) ?_
  refine lv_iload_n X.1 X.2.1 dX5_isEven_7 rfl (lv_at hl 1 rfl) ?_
  refine z_iconst X dX5_isEven_8 ?_
  refine z_pi (run_V (rest := [.int (iv (pr A 2 p))]) X h (c_X5_it (p := p) (w := 3) hR hI (by omega) (by omega) (by omega) (by omega)) mi_X5_it ml_X5_52 ⟨Nat.le_of_ble_eq_true rfl, Nat.le_of_ble_eq_true rfl⟩ ⟨rfl, rfl⟩ (Seg.rfl' _) 4 0 rfl rfl rfl rfl hl.1 rfl (Nat.le_of_ble_eq_true rfl) ⟨Nat.zero_le _, Nat.zero_le _⟩ dX5_isEven_9) ?_
  refine z_isub X dX5_isEven_12 ?_
  refine lv_i2l (v := (iv (pr A 2 p - (pr A 3 p))).toInt64) X.1 X.2.1 dX5_isEven_13 rfl ?_
  refine z_bipush X (by decide) dX5_isEven_14 ?_
  refine z_iconst X dX5_isEven_16 ?_
  refine z_pi (run_S (rest := []) X h (c_inI ⟨by omega, by omega⟩ ⟨by decide, by decide⟩ ⟨by decide, by decide⟩) mi_X5_in ml_X5_44 ⟨Nat.le_of_ble_eq_true rfl, Nat.le_of_ble_eq_true rfl⟩ ⟨rfl, rfl⟩ (Seg.nil _) rfl hl.1 rfl (Nat.le_of_ble_eq_true rfl) ⟨Nat.zero_le _, Nat.zero_le _⟩ dX5_isEven_17) ?_
  exact ret _ _ _ (bz_eq (by unfold evB; simp)) dX5_isEven_20

set_option maxHeartbeats 4000000 in
theorem c_X5_givenTo0 (hR : RM mm A) (hI : IA A) (hh : hr A < 1000000) {p : Int} (p0 : 0 ≤ p) (p1 : p < pe A) : MP E l yX5_givenTo cX5_givenTo 4 (some FieldType.int) (rmk 3 68) (wM E a (mm, kp, wa, (iv (ik)), fd, gf, tp, (iv (tn)), (iv (tk)), (iv (bg)), (iv (pt)), (iv (vl)), (iv (bd)), bt, sz, cl)) [.ref (a 0), .int (iv (p)), .int (iv (0))] (gvq A p (nb A p (-1)) 3) := by
  refine goP (by decide) (Nat.le_of_ble_eq_true rfl) ?_
  intro pp e s m below meth c ls args Q ret X h hl
  have hl : lv_has ls 4 [(0, .ref (a 0)), (1, .int (iv (p))), (2, .int (iv (0)))] := hl
  have q := hI.gP p0 p1
  have b0 := nb_rng hI p (-1)
  refine lv_aload_n X.1 X.2.1 dX5_givenTo_0 rfl (lv_at hl 0 rfl) ?_
  refine lv_iload_n X.1 X.2.1 dX5_givenTo_1 rfl (lv_at hl 1 rfl) ?_
  refine lv_iload_n X.1 X.2.1 dX5_givenTo_2 rfl (lv_at hl 2 rfl) ?_
  refine z_pi (run_V (rest := []) X h (c_X5_beside0 (p := p) hR hI (by omega) (by omega)) mi_X5_beside ml_X5_66 ⟨Nat.le_of_ble_eq_true rfl, Nat.le_of_ble_eq_true rfl⟩ ⟨rfl, rfl⟩ (Seg.rfl' _) 4 0 rfl rfl rfl rfl hl.1 rfl (Nat.le_of_ble_eq_true rfl) ⟨Nat.zero_le _, Nat.zero_le _⟩ dX5_givenTo_3) ?_
  refine lv_istore_n (lv' := [(3, .int (iv (nb A p (-1)))), (0, .ref (a 0)), (1, .int (iv (p))), (2, .int (iv (0)))]) X.1 X.2.1 dX5_givenTo_6 rfl hl (by decide) rfl (fun ls hl => ?_)
  refine lv_iload_n X.1 X.2.1 dX5_givenTo_7 rfl (lv_at hl 0 rfl) ?_
  refine z_if_ge (tgt := 15) X ⟨by omega, by omega⟩ dX5_givenTo_8 (by decide) (fun c_8 => ?_) (fun c_8 => ?_)
  · have qn := hI.gP (p := nb A p (-1)) (by omega) (by omega)
    refine lv_aload_n X.1 X.2.1 dX5_givenTo_15 rfl (lv_at hl 1 rfl) ?_
    refine lv_iload_n X.1 X.2.1 dX5_givenTo_16 rfl (lv_at hl 0 rfl) ?_
    refine lv_aload_n X.1 X.2.1 dX5_givenTo_17 rfl (lv_at hl 1 rfl) ?_
    refine lv_iload_n X.1 X.2.1 dX5_givenTo_18 rfl (lv_at hl 0 rfl) ?_
    refine lv_iload_n X.1 X.2.1 dX5_givenTo_19 rfl (lv_at hl 3 rfl) ?_
    refine z_if_ne (tgt := 27) X ⟨by decide, by decide⟩ dX5_givenTo_20 (by decide) (fun c_20 => ?_) (fun c_20 => ?_)
    · exact absurd c_20 (by decide)
    · refine z_iconst X dX5_givenTo_23 ?_
      refine lv_goto (tgt := 28) X.1 X.2.1 dX5_givenTo_24 (by decide) ?_
      refine z_pi (run_V (rest := [.int (iv (nb A p (-1))), .ref (a 0)]) X h (c_X5_it (p := nb A p (-1)) (w := 3) hR hI (by omega) (by omega) (by omega) (by omega)) mi_X5_it ml_X5_52 ⟨Nat.le_of_ble_eq_true rfl, Nat.le_of_ble_eq_true rfl⟩ ⟨rfl, rfl⟩ (Seg.rfl' _) 4 0 rfl rfl rfl rfl hl.1 rfl (Nat.le_of_ble_eq_true rfl) ⟨Nat.zero_le _, Nat.zero_le _⟩ dX5_givenTo_28) ?_
      refine lv_iload_n X.1 X.2.1 dX5_givenTo_31 rfl (lv_at hl 2 rfl) ?_
      refine z_pi (run_V (rest := []) X h (c_X5_glows (p := nb A p (-1)) (b := pr A 3 (nb A p (-1))) (t := p) hR hI hh (by omega) (by omega) (by omega) (by omega) (by omega) (by omega)) mi_X5_glows ml_X5_69 ⟨Nat.le_of_ble_eq_true rfl, Nat.le_of_ble_eq_true rfl⟩ ⟨rfl, rfl⟩ (Seg.rfl' _) 4 0 rfl rfl rfl rfl hl.1 rfl (Nat.le_of_ble_eq_true rfl) ⟨Nat.zero_le _, Nat.zero_le _⟩ dX5_givenTo_32) ?_
      exact ret _ _ _ (by unfold gvq; first | rw [if_pos (by omega)] | rw [if_neg (by omega)]) dX5_givenTo_35
  · refine z_iconst X dX5_givenTo_11 ?_
    refine lv_goto (tgt := 35) X.1 X.2.1 dX5_givenTo_12 (by decide) ?_
    exact ret _ _ _ (by unfold gvq; first | rw [if_pos (by omega)] | rw [if_neg (by omega)]) dX5_givenTo_35

set_option maxHeartbeats 4000000 in
theorem c_X5_givenTo1 (hR : RM mm A) (hI : IA A) (hh : hr A < 1000000) {p : Int} (p0 : 0 ≤ p) (p1 : p < pe A) : MP E l yX5_givenTo cX5_givenTo 4 (some FieldType.int) (rmk 3 68) (wM E a (mm, kp, wa, (iv (ik)), fd, gf, tp, (iv (tn)), (iv (tk)), (iv (bg)), (iv (pt)), (iv (vl)), (iv (bd)), bt, sz, cl)) [.ref (a 0), .int (iv (p)), .int (iv (1))] (gvq A p (nb A p 1) 2) := by
  refine goP (by decide) (Nat.le_of_ble_eq_true rfl) ?_
  intro pp e s m below meth c ls args Q ret X h hl
  have hl : lv_has ls 4 [(0, .ref (a 0)), (1, .int (iv (p))), (2, .int (iv (1)))] := hl
  have q := hI.gP p0 p1
  have b0 := nb_rng hI p 1
  refine lv_aload_n X.1 X.2.1 dX5_givenTo_0 rfl (lv_at hl 0 rfl) ?_
  refine lv_iload_n X.1 X.2.1 dX5_givenTo_1 rfl (lv_at hl 1 rfl) ?_
  refine lv_iload_n X.1 X.2.1 dX5_givenTo_2 rfl (lv_at hl 2 rfl) ?_
  refine z_pi (run_V (rest := []) X h (c_X5_beside1 (p := p) hR hI (by omega) (by omega)) mi_X5_beside ml_X5_66 ⟨Nat.le_of_ble_eq_true rfl, Nat.le_of_ble_eq_true rfl⟩ ⟨rfl, rfl⟩ (Seg.rfl' _) 4 0 rfl rfl rfl rfl hl.1 rfl (Nat.le_of_ble_eq_true rfl) ⟨Nat.zero_le _, Nat.zero_le _⟩ dX5_givenTo_3) ?_
  refine lv_istore_n (lv' := [(3, .int (iv (nb A p 1))), (0, .ref (a 0)), (1, .int (iv (p))), (2, .int (iv (1)))]) X.1 X.2.1 dX5_givenTo_6 rfl hl (by decide) rfl (fun ls hl => ?_)
  refine lv_iload_n X.1 X.2.1 dX5_givenTo_7 rfl (lv_at hl 0 rfl) ?_
  refine z_if_ge (tgt := 15) X ⟨by omega, by omega⟩ dX5_givenTo_8 (by decide) (fun c_8 => ?_) (fun c_8 => ?_)
  · have qn := hI.gP (p := nb A p 1) (by omega) (by omega)
    refine lv_aload_n X.1 X.2.1 dX5_givenTo_15 rfl (lv_at hl 1 rfl) ?_
    refine lv_iload_n X.1 X.2.1 dX5_givenTo_16 rfl (lv_at hl 0 rfl) ?_
    refine lv_aload_n X.1 X.2.1 dX5_givenTo_17 rfl (lv_at hl 1 rfl) ?_
    refine lv_iload_n X.1 X.2.1 dX5_givenTo_18 rfl (lv_at hl 0 rfl) ?_
    refine lv_iload_n X.1 X.2.1 dX5_givenTo_19 rfl (lv_at hl 3 rfl) ?_
    refine z_if_ne (tgt := 27) X ⟨by decide, by decide⟩ dX5_givenTo_20 (by decide) (fun c_20 => ?_) (fun c_20 => ?_)
    · refine z_iconst X dX5_givenTo_27 ?_
      refine z_pi (run_V (rest := [.int (iv (nb A p 1)), .ref (a 0)]) X h (c_X5_it (p := nb A p 1) (w := 2) hR hI (by omega) (by omega) (by omega) (by omega)) mi_X5_it ml_X5_52 ⟨Nat.le_of_ble_eq_true rfl, Nat.le_of_ble_eq_true rfl⟩ ⟨rfl, rfl⟩ (Seg.rfl' _) 4 0 rfl rfl rfl rfl hl.1 rfl (Nat.le_of_ble_eq_true rfl) ⟨Nat.zero_le _, Nat.zero_le _⟩ dX5_givenTo_28) ?_
      refine lv_iload_n X.1 X.2.1 dX5_givenTo_31 rfl (lv_at hl 2 rfl) ?_
      refine z_pi (run_V (rest := []) X h (c_X5_glows (p := nb A p 1) (b := pr A 2 (nb A p 1)) (t := p) hR hI hh (by omega) (by omega) (by omega) (by omega) (by omega) (by omega)) mi_X5_glows ml_X5_69 ⟨Nat.le_of_ble_eq_true rfl, Nat.le_of_ble_eq_true rfl⟩ ⟨rfl, rfl⟩ (Seg.rfl' _) 4 0 rfl rfl rfl rfl hl.1 rfl (Nat.le_of_ble_eq_true rfl) ⟨Nat.zero_le _, Nat.zero_le _⟩ dX5_givenTo_32) ?_
      exact ret _ _ _ (by unfold gvq; first | rw [if_pos (by omega)] | rw [if_neg (by omega)]) dX5_givenTo_35
    · exact absurd c_20 (by decide)
  · refine z_iconst X dX5_givenTo_11 ?_
    refine lv_goto (tgt := 35) X.1 X.2.1 dX5_givenTo_12 (by decide) ?_
    exact ret _ _ _ (by unfold gvq; first | rw [if_pos (by omega)] | rw [if_neg (by omega)]) dX5_givenTo_35

theorem c_X5_givenTo (hR : RM mm A) (hI : IA A) (hh : hr A < 1000000) {p sd : Int} (p0 : 0 ≤ p) (p1 : p < pe A) (s0 : 0 ≤ sd) (s1 : sd ≤ 1) : MP E l yX5_givenTo cX5_givenTo 4 (some FieldType.int) (rmk 3 68) (wM E a (mm, kp, wa, (iv (ik)), fd, gf, tp, (iv (tn)), (iv (tk)), (iv (bg)), (iv (pt)), (iv (vl)), (iv (bd)), bt, sz, cl)) [.ref (a 0), .int (iv (p)), .int (iv (sd))] (gv A p sd) := by
  rcases (show sd = 0 ∨ sd = 1 by omega) with rfl | rfl
  · exact c_X5_givenTo0 hR hI hh p0 p1
  · exact c_X5_givenTo1 hR hI hh p0 p1

set_option maxHeartbeats 4000000 in
theorem c_X5_sums (hR : RM mm A) (hI : IA A) {wh : Int} (w0 : 0 ≤ wh) (w1 : wh < 5) : MP E l yX5_sums cX5_sums 4 (some FieldType.int) (rmk 1 22) (wM E a (mm, kp, wa, (iv (ik)), fd, gf, tp, (iv (tn)), (iv (tk)), (iv (bg)), (iv (pt)), (iv (vl)), (iv (bd)), bt, sz, cl)) [.ref (a 0), .int (iv (wh))] (sums A wh) := by
  refine goP (by decide) (Nat.le_of_ble_eq_true rfl) ?_
  intro pp e s m below meth c ls args Q ret X h hl
  have hl : lv_has ls 4 [(0, .ref (a 0)), (1, .int (iv (wh)))] := hl
  have n8 := hI.n8
  have n0 := hI.n0
  refine z_iconst X dX5_sums_0 ?_
  refine lv_istore_n (lv' := [(2, .int (iv (0))), (0, .ref (a 0)), (1, .int (iv (wh)))]) X.1 X.2.1 dX5_sums_1 rfl hl (by decide) rfl (fun ls hl => ?_)
  refine z_iconst X dX5_sums_2 ?_
  refine lv_istore_n (lv' := [(3, .int (iv (0))), (2, .int (iv (0))), (0, .ref (a 0)), (1, .int (iv (wh)))]) X.1 X.2.1 dX5_sums_3 rfl hl (by decide) rfl (fun ls hl => ?_)
  have L4 : ∀ (fuel_ : Nat) (i : Int) (w : Int), (0 ≤ i) → (i ≤ pe A) → (w = sumk A wh i.toNat) → pe A - i < (fuel_ : Int) → ∀ ls : Array Slot, lv_has ls 4 [(0, .ref (a 0)), (1, .int (iv (wh))), (2, .int (iv (w))), (3, .int (iv (i)))] → W pp l e (rmk 1 22) s m args below meth c s.heap [] 0 0 Q (F0 m 4 ls []) := by
    intro fuel_
    induction fuel_ with
    | zero =>
      intro i w i0 i1 hw hn
      exfalso; omega
    | succ fuel_ ih =>
      intro i w i0 i1 hw hn ls hl
      refine lv_iload_n X.1 X.2.1 dX5_sums_4 rfl (lv_at hl 3 rfl) ?_
      refine lv_aload_n X.1 X.2.1 dX5_sums_5 rfl (lv_at hl 0 rfl) ?_
      refine z_get X h 4 0 0 rfl inX5 rfl (by decide) fl_X5_9 rfl dX5_sums_6 ?_
      refine z_iconst X dX5_sums_9 ?_
      refine z_iald (v := pe A) X h 1 rfl (by omega) (by omega) (by decide) hR.2.1 dX5_sums_10 ?_
      refine z_ic_ge (tgt := 29) X ⟨by omega, by omega⟩ ⟨by omega, by omega⟩ dX5_sums_11 (by decide) (fun c_11 => ?_) (fun c_11 => ?_)
      · refine lv_iload_n X.1 X.2.1 dX5_sums_29 rfl (lv_at hl 2 rfl) ?_
        exact ret _ _ _ (by rw [hw, sums, show i = pe A by omega]) dX5_sums_30
      · refine lv_iload_n X.1 X.2.1 dX5_sums_14 rfl (lv_at hl 2 rfl) ?_
        refine lv_aload_n X.1 X.2.1 dX5_sums_15 rfl (lv_at hl 0 rfl) ?_
        refine lv_iload_n X.1 X.2.1 dX5_sums_16 rfl (lv_at hl 3 rfl) ?_
        refine lv_iload_n X.1 X.2.1 dX5_sums_17 rfl (lv_at hl 1 rfl) ?_
        refine z_pi (run_V (rest := [.int (iv (w))]) X h (c_X5_it (p := i) (w := wh) hR hI (by omega) (by omega) (by omega) (by omega)) mi_X5_it ml_X5_52 ⟨Nat.le_of_ble_eq_true rfl, Nat.le_of_ble_eq_true rfl⟩ ⟨rfl, rfl⟩ (Seg.rfl' _) 4 0 rfl rfl rfl rfl hl.1 rfl (Nat.le_of_ble_eq_true rfl) ⟨Nat.zero_le _, Nat.zero_le _⟩ dX5_sums_18) ?_
        refine z_iadd X dX5_sums_21 ?_
        refine lv_istore_n (lv' := [(2, .int (iv (w + (pr A wh i)))), (0, .ref (a 0)), (1, .int (iv (wh))), (3, .int (iv (i)))]) X.1 X.2.1 dX5_sums_22 rfl hl (by decide) rfl (fun ls hl => ?_)
        refine z_iinc (k := 3) (lv' := [(3, .int (iv (i + 1))), (2, .int (iv (w + (pr A wh i)))), (0, .ref (a 0)), (1, .int (iv (wh)))]) X dX5_sums_23 hl rfl (by decide) rfl (fun ls hl => ?_)
        refine lv_goto (tgt := 4) X.1 X.2.1 dX5_sums_26 (by decide) ?_
        exact ih (i + 1) (w + (pr A wh i)) (by omega) (by omega) (by rw [tn1 i0, sumk, tnc i0]; rw [hw]) (by omega) ls (lv_sub hl [2, 3, 1, 0] rfl)
  exact L4 ((pe A - (0) : Int).toNat + 1) (0) (0) (by omega) (by omega) (rfl) (by omega) ls (lv_sub hl [2, 3, 1, 0] rfl)

set_option maxHeartbeats 4000000 in
theorem c_X5_allBrown (hR : RM mm A) (hI : IA A) : MP E l yX5_allBrown cX5_allBrown 1 (some FieldType.int) (rmk 2 45) (wM E a (mm, kp, wa, (iv (ik)), fd, gf, tp, (iv (tn)), (iv (tk)), (iv (bg)), (iv (pt)), (iv (vl)), (iv (bd)), bt, sz, cl)) [.ref (a 0)] (allB A) := by
  refine goP (by decide) (Nat.le_of_ble_eq_true rfl) ?_
  intro pp e s m below meth c ls args Q ret X h hl
  have hl : lv_has ls 1 [(0, .ref (a 0))] := hl
  refine lv_aload_n X.1 X.2.1 dX5_allBrown_0 rfl (lv_at hl 0 rfl) ?_
  refine z_iconst X dX5_allBrown_1 ?_
  refine z_pi (run_V (rest := []) X h (c_X5_sums (wh := 2) hR hI (by decide) (by decide)) mi_X5_sums ml_X5_76 ⟨Nat.le_of_ble_eq_true rfl, Nat.le_of_ble_eq_true rfl⟩ ⟨rfl, rfl⟩ (Seg.rfl' _) 4 0 rfl rfl rfl rfl hl.1 rfl (Nat.le_of_ble_eq_true rfl) ⟨Nat.zero_le _, Nat.zero_le _⟩ dX5_allBrown_2) ?_
  refine lv_aload_n X.1 X.2.1 dX5_allBrown_5 rfl (lv_at hl 0 rfl) ?_
  refine z_iconst X dX5_allBrown_6 ?_
  refine z_pi (run_V (rest := [.int (iv (sums A 2))]) X h (c_X5_sums (wh := 3) hR hI (by decide) (by decide)) mi_X5_sums ml_X5_76 ⟨Nat.le_of_ble_eq_true rfl, Nat.le_of_ble_eq_true rfl⟩ ⟨rfl, rfl⟩ (Seg.rfl' _) 4 0 rfl rfl rfl rfl hl.1 rfl (Nat.le_of_ble_eq_true rfl) ⟨Nat.zero_le _, Nat.zero_le _⟩ dX5_allBrown_7) ?_
  refine z_iadd X dX5_allBrown_10 ?_
  exact ret _ _ _ (rfl) dX5_allBrown_11

set_option maxHeartbeats 4000000 in
theorem c_X5_sitters (hR : RM mm A) (hI : IA A) : MP E l yX5_sitters cX5_sitters 3 (some FieldType.int) (rmk 2 43) (wM E a (mm, kp, wa, (iv (ik)), fd, gf, tp, (iv (tn)), (iv (tk)), (iv (bg)), (iv (pt)), (iv (vl)), (iv (bd)), bt, sz, cl)) [.ref (a 0)] (setS A) := by
  refine goP (by decide) (Nat.le_of_ble_eq_true rfl) ?_
  intro pp e s m below meth c ls args Q ret X h hl
  have hl : lv_has ls 3 [(0, .ref (a 0))] := hl
  have n8 := hI.n8
  have n0 := hI.n0
  refine z_iconst X dX5_sitters_0 ?_
  refine lv_istore_n (lv' := [(1, .int (iv (0))), (0, .ref (a 0))]) X.1 X.2.1 dX5_sitters_1 rfl hl (by decide) rfl (fun ls hl => ?_)
  refine z_iconst X dX5_sitters_2 ?_
  refine lv_istore_n (lv' := [(2, .int (iv (0))), (1, .int (iv (0))), (0, .ref (a 0))]) X.1 X.2.1 dX5_sitters_3 rfl hl (by decide) rfl (fun ls hl => ?_)
  have L4 : ∀ (fuel_ : Nat) (i : Int) (w : Int32), (0 ≤ i) → (i ≤ pe A) → (w = bset (sitB A) i.toNat) → pe A - i < (fuel_ : Int) → ∀ ls : Array Slot, lv_has ls 3 [(0, .ref (a 0)), (1, .int (w)), (2, .int (iv (i)))] → W pp l e (rmk 2 43) s m args below meth c s.heap [] 0 0 Q (F0 m 4 ls []) := by
    intro fuel_
    induction fuel_ with
    | zero =>
      intro i w i0 i1 hw hn
      exfalso; omega
    | succ fuel_ ih =>
      intro i w i0 i1 hw hn ls hl
      refine lv_iload_n X.1 X.2.1 dX5_sitters_4 rfl (lv_at hl 2 rfl) ?_
      refine lv_aload_n X.1 X.2.1 dX5_sitters_5 rfl (lv_at hl 0 rfl) ?_
      refine z_get X h 4 0 0 rfl inX5 rfl (by decide) fl_X5_9 rfl dX5_sitters_6 ?_
      refine z_iconst X dX5_sitters_9 ?_
      refine z_iald (v := pe A) X h 1 rfl (by omega) (by omega) (by decide) hR.2.1 dX5_sitters_10 ?_
      refine z_ic_ge (tgt := 38) X ⟨by omega, by omega⟩ ⟨by omega, by omega⟩ dX5_sitters_11 (by decide) (fun c_11 => ?_) (fun c_11 => ?_)
      · refine lv_iload_n X.1 X.2.1 dX5_sitters_38 rfl (lv_at hl 1 rfl) ?_
        refine W.eq (g2 := F0 m 39 ls [.int (iv (w).toInt)]) (by rw [iv_of]) ?_
        exact ret _ _ _ (by rw [hw, setS, show i = pe A by omega]) dX5_sitters_39
      · refine lv_iload_n X.1 X.2.1 dX5_sitters_14 rfl (lv_at hl 1 rfl) ?_
        refine lv_aload_n X.1 X.2.1 dX5_sitters_15 rfl (lv_at hl 0 rfl) ?_
        refine lv_iload_n X.1 X.2.1 dX5_sitters_16 rfl (lv_at hl 2 rfl) ?_
        refine z_pi (run_V (rest := [.int (w)]) X h (c_X5_sits (p := i) hR hI (by omega) (by omega)) mi_X5_sits ml_X5_56 ⟨Nat.le_of_ble_eq_true rfl, Nat.le_of_ble_eq_true rfl⟩ ⟨rfl, rfl⟩ (Seg.rfl' _) 4 0 rfl rfl rfl rfl hl.1 rfl (Nat.le_of_ble_eq_true rfl) ⟨Nat.zero_le _, Nat.zero_le _⟩ dX5_sitters_17) ?_
        refine z_ifb_eq (tgt := 29) X dX5_sitters_20 (by decide) (fun c_20 => ?_) (fun c_20 => ?_)
        · refine z_iconst X dX5_sitters_29 ?_
          refine lv_ior X.1 X.2.1 dX5_sitters_30 ?_
          refine lv_istore_n (lv' := [(1, .int ((w) ||| (iv (0)))), (0, .ref (a 0)), (2, .int (iv (i)))]) X.1 X.2.1 dX5_sitters_31 rfl hl (by decide) rfl (fun ls hl => ?_)
          refine z_iinc (k := 2) (lv' := [(2, .int (iv (i + 1))), (1, .int ((w) ||| (iv (0)))), (0, .ref (a 0))]) X dX5_sitters_32 hl rfl (by decide) rfl (fun ls hl => ?_)
          refine lv_goto (tgt := 4) X.1 X.2.1 dX5_sitters_35 (by decide) ?_
          exact ih (i + 1) ((w) ||| (iv (0))) (by omega) (by omega) (by rw [tn1 i0, bset, tnc i0]; rw [hw]; first | rw [if_pos (by simp [sitB]; omega)] | rw [if_neg (by simp [sitB]; omega)]) (by omega) ls (lv_sub hl [2, 1, 0] rfl)
        · refine z_iconst X dX5_sitters_23 ?_
          refine lv_iload_n X.1 X.2.1 dX5_sitters_24 rfl (lv_at hl 2 rfl) ?_
          refine lv_ishl X.1 X.2.1 dX5_sitters_25 ?_
          refine lv_goto (tgt := 30) X.1 X.2.1 dX5_sitters_26 (by decide) ?_
          refine lv_ior X.1 X.2.1 dX5_sitters_30 ?_
          refine lv_istore_n (lv' := [(1, .int ((w) ||| (iv (1) <<< (iv (i) &&& 31)))), (0, .ref (a 0)), (2, .int (iv (i)))]) X.1 X.2.1 dX5_sitters_31 rfl hl (by decide) rfl (fun ls hl => ?_)
          refine z_iinc (k := 2) (lv' := [(2, .int (iv (i + 1))), (1, .int ((w) ||| (iv (1) <<< (iv (i) &&& 31)))), (0, .ref (a 0))]) X dX5_sitters_32 hl rfl (by decide) rfl (fun ls hl => ?_)
          refine lv_goto (tgt := 4) X.1 X.2.1 dX5_sitters_35 (by decide) ?_
          exact ih (i + 1) ((w) ||| (iv (1) <<< (iv (i) &&& 31))) (by omega) (by omega) (by rw [tn1 i0, bset, tnc i0]; rw [hw]; first | rw [if_pos (by simp [sitB]; omega)] | rw [if_neg (by simp [sitB]; omega)]) (by omega) ls (lv_sub hl [2, 1, 0] rfl)
  exact L4 ((pe A - (0) : Int).toNat + 1) (0) (iv 0) (by omega) (by omega) (rfl) (by omega) ls (lv_sub hl [2, 1, 0] rfl)

set_option maxHeartbeats 4000000 in
theorem c_X5_evenOnes (hR : RM mm A) (hI : IA A) : MP E l yX5_evenOnes cX5_evenOnes 3 (some FieldType.int) (rmk 2 44) (wM E a (mm, kp, wa, (iv (ik)), fd, gf, tp, (iv (tn)), (iv (tk)), (iv (bg)), (iv (pt)), (iv (vl)), (iv (bd)), bt, sz, cl)) [.ref (a 0)] (setE A) := by
  refine goP (by decide) (Nat.le_of_ble_eq_true rfl) ?_
  intro pp e s m below meth c ls args Q ret X h hl
  have hl : lv_has ls 3 [(0, .ref (a 0))] := hl
  have n8 := hI.n8
  have n0 := hI.n0
  refine z_iconst X dX5_evenOnes_0 ?_
  refine lv_istore_n (lv' := [(1, .int (iv (0))), (0, .ref (a 0))]) X.1 X.2.1 dX5_evenOnes_1 rfl hl (by decide) rfl (fun ls hl => ?_)
  refine z_iconst X dX5_evenOnes_2 ?_
  refine lv_istore_n (lv' := [(2, .int (iv (0))), (1, .int (iv (0))), (0, .ref (a 0))]) X.1 X.2.1 dX5_evenOnes_3 rfl hl (by decide) rfl (fun ls hl => ?_)
  have L4 : ∀ (fuel_ : Nat) (i : Int) (w : Int32), (0 ≤ i) → (i ≤ pe A) → (w = bset (evB A) i.toNat) → pe A - i < (fuel_ : Int) → ∀ ls : Array Slot, lv_has ls 3 [(0, .ref (a 0)), (1, .int (w)), (2, .int (iv (i)))] → W pp l e (rmk 2 44) s m args below meth c s.heap [] 0 0 Q (F0 m 4 ls []) := by
    intro fuel_
    induction fuel_ with
    | zero =>
      intro i w i0 i1 hw hn
      exfalso; omega
    | succ fuel_ ih =>
      intro i w i0 i1 hw hn ls hl
      refine lv_iload_n X.1 X.2.1 dX5_evenOnes_4 rfl (lv_at hl 2 rfl) ?_
      refine lv_aload_n X.1 X.2.1 dX5_evenOnes_5 rfl (lv_at hl 0 rfl) ?_
      refine z_get X h 4 0 0 rfl inX5 rfl (by decide) fl_X5_9 rfl dX5_evenOnes_6 ?_
      refine z_iconst X dX5_evenOnes_9 ?_
      refine z_iald (v := pe A) X h 1 rfl (by omega) (by omega) (by decide) hR.2.1 dX5_evenOnes_10 ?_
      refine z_ic_ge (tgt := 38) X ⟨by omega, by omega⟩ ⟨by omega, by omega⟩ dX5_evenOnes_11 (by decide) (fun c_11 => ?_) (fun c_11 => ?_)
      · refine lv_iload_n X.1 X.2.1 dX5_evenOnes_38 rfl (lv_at hl 1 rfl) ?_
        refine W.eq (g2 := F0 m 39 ls [.int (iv (w).toInt)]) (by rw [iv_of]) ?_
        exact ret _ _ _ (by rw [hw, setE, show i = pe A by omega]) dX5_evenOnes_39
      · refine lv_iload_n X.1 X.2.1 dX5_evenOnes_14 rfl (lv_at hl 1 rfl) ?_
        refine lv_aload_n X.1 X.2.1 dX5_evenOnes_15 rfl (lv_at hl 0 rfl) ?_
        refine lv_iload_n X.1 X.2.1 dX5_evenOnes_16 rfl (lv_at hl 2 rfl) ?_
        refine z_pi (run_V (rest := [.int (w)]) X h (c_X5_isEven (p := i) hR hI (by omega) (by omega)) mi_X5_isEven ml_X5_79 ⟨Nat.le_of_ble_eq_true rfl, Nat.le_of_ble_eq_true rfl⟩ ⟨rfl, rfl⟩ (Seg.rfl' _) 4 0 rfl rfl rfl rfl hl.1 rfl (Nat.le_of_ble_eq_true rfl) ⟨Nat.zero_le _, Nat.zero_le _⟩ dX5_evenOnes_17) ?_
        refine z_ifb_eq (tgt := 29) X dX5_evenOnes_20 (by decide) (fun c_20 => ?_) (fun c_20 => ?_)
        · refine z_iconst X dX5_evenOnes_29 ?_
          refine lv_ior X.1 X.2.1 dX5_evenOnes_30 ?_
          refine lv_istore_n (lv' := [(1, .int ((w) ||| (iv (0)))), (0, .ref (a 0)), (2, .int (iv (i)))]) X.1 X.2.1 dX5_evenOnes_31 rfl hl (by decide) rfl (fun ls hl => ?_)
          refine z_iinc (k := 2) (lv' := [(2, .int (iv (i + 1))), (1, .int ((w) ||| (iv (0)))), (0, .ref (a 0))]) X dX5_evenOnes_32 hl rfl (by decide) rfl (fun ls hl => ?_)
          refine lv_goto (tgt := 4) X.1 X.2.1 dX5_evenOnes_35 (by decide) ?_
          exact ih (i + 1) ((w) ||| (iv (0))) (by omega) (by omega) (by rw [tn1 i0, bset, tnc i0]; rw [hw]; first | rw [if_pos (by assumption)] | rw [if_neg (by assumption)]) (by omega) ls (lv_sub hl [2, 1, 0] rfl)
        · refine z_iconst X dX5_evenOnes_23 ?_
          refine lv_iload_n X.1 X.2.1 dX5_evenOnes_24 rfl (lv_at hl 2 rfl) ?_
          refine lv_ishl X.1 X.2.1 dX5_evenOnes_25 ?_
          refine lv_goto (tgt := 30) X.1 X.2.1 dX5_evenOnes_26 (by decide) ?_
          refine lv_ior X.1 X.2.1 dX5_evenOnes_30 ?_
          refine lv_istore_n (lv' := [(1, .int ((w) ||| (iv (1) <<< (iv (i) &&& 31)))), (0, .ref (a 0)), (2, .int (iv (i)))]) X.1 X.2.1 dX5_evenOnes_31 rfl hl (by decide) rfl (fun ls hl => ?_)
          refine z_iinc (k := 2) (lv' := [(2, .int (iv (i + 1))), (1, .int ((w) ||| (iv (1) <<< (iv (i) &&& 31)))), (0, .ref (a 0))]) X dX5_evenOnes_32 hl rfl (by decide) rfl (fun ls hl => ?_)
          refine lv_goto (tgt := 4) X.1 X.2.1 dX5_evenOnes_35 (by decide) ?_
          exact ih (i + 1) ((w) ||| (iv (1) <<< (iv (i) &&& 31))) (by omega) (by omega) (by rw [tn1 i0, bset, tnc i0]; rw [hw]; first | rw [if_pos (by assumption)] | rw [if_neg (by assumption)]) (by omega) ls (lv_sub hl [2, 1, 0] rfl)
  exact L4 ((pe A - (0) : Int).toNat + 1) (0) (iv 0) (by omega) (by omega) (rfl) (by omega) ls (lv_sub hl [2, 1, 0] rfl)

set_option maxHeartbeats 4000000 in
theorem c_X5_isFreeFor (hR : RM mm A) (hI : IA A) {ch p : Int} (c0 : -1 ≤ ch) (c1 : ch ≤ 9) (p0 : 0 ≤ p) (p1 : p < pe A) : MP E l yX5_isFreeFor cX5_isFreeFor 4 (some FieldType.boolean) (rmk 2 45) (wM E a (mm, kp, wa, (iv (ik)), fd, gf, tp, (iv (tn)), (iv (tk)), (iv (bg)), (iv (pt)), (iv (vl)), (iv (bd)), bt, sz, cl)) [.ref (a 0), .int (iv (ch)), .int (iv (p))] (bz (ch < 0 ∨ onC A ch < 0 ∨ onC A ch = p)) := by
  refine goB (by decide) (Nat.le_of_ble_eq_true rfl) ?_
  intro pp e s m below meth c ls args Q ret X h hl
  have hl : lv_has ls 4 [(0, .ref (a 0)), (1, .int (iv (ch))), (2, .int (iv (p)))] := hl
  have n8 := hI.n8
  have n0 := hI.n0
  have oc := onC_rng hI ch
  refine lv_iload_n X.1 X.2.1 dX5_isFreeFor_0 rfl (lv_at hl 1 rfl) ?_
  refine z_if_ge (tgt := 8) X ⟨by omega, by omega⟩ dX5_isFreeFor_1 (by decide) (fun c_1 => ?_) (fun c_1 => ?_)
  · refine lv_aload_n X.1 X.2.1 dX5_isFreeFor_8 rfl (lv_at hl 0 rfl) ?_
    refine lv_iload_n X.1 X.2.1 dX5_isFreeFor_9 rfl (lv_at hl 1 rfl) ?_
    refine z_pi (run_V (rest := []) X h (c_X5_onChair (ch := ch) hR hI ⟨by omega, by omega⟩) mi_X5_onChair ml_X5_59 ⟨Nat.le_of_ble_eq_true rfl, Nat.le_of_ble_eq_true rfl⟩ ⟨rfl, rfl⟩ (Seg.rfl' _) 4 0 rfl rfl rfl rfl hl.1 rfl (Nat.le_of_ble_eq_true rfl) ⟨Nat.zero_le _, Nat.zero_le _⟩ dX5_isFreeFor_10) ?_
    refine lv_istore_n (lv' := [(3, .int (iv (onC A ch))), (0, .ref (a 0)), (1, .int (iv (ch))), (2, .int (iv (p)))]) X.1 X.2.1 dX5_isFreeFor_13 rfl hl (by decide) rfl (fun ls hl => ?_)
    refine lv_iload_n X.1 X.2.1 dX5_isFreeFor_14 rfl (lv_at hl 0 rfl) ?_
    refine z_if_lt (tgt := 23) X ⟨by omega, by omega⟩ dX5_isFreeFor_15 (by decide) (fun c_15 => ?_) (fun c_15 => ?_)
    · refine z_iconst X dX5_isFreeFor_23 ?_
      refine lv_goto (tgt := 28) X.1 X.2.1 dX5_isFreeFor_24 (by decide) ?_
      exact ret _ _ _ ((bz_t (by omega)).symm) dX5_isFreeFor_28
    · refine lv_iload_n X.1 X.2.1 dX5_isFreeFor_18 rfl (lv_at hl 0 rfl) ?_
      refine lv_iload_n X.1 X.2.1 dX5_isFreeFor_19 rfl (lv_at hl 3 rfl) ?_
      refine z_ic_ne (tgt := 27) X ⟨by omega, by omega⟩ ⟨by omega, by omega⟩ dX5_isFreeFor_20 (by decide) (fun c_20 => ?_) (fun c_20 => ?_)
      · refine z_iconst X dX5_isFreeFor_27 ?_
        exact ret _ _ _ ((bz_f (by omega)).symm) dX5_isFreeFor_28
      · refine z_iconst X dX5_isFreeFor_23 ?_
        refine lv_goto (tgt := 28) X.1 X.2.1 dX5_isFreeFor_24 (by decide) ?_
        exact ret _ _ _ ((bz_t (by omega)).symm) dX5_isFreeFor_28
  · refine z_iconst X dX5_isFreeFor_4 ?_
    refine lv_goto (tgt := 13) X.1 X.2.1 dX5_isFreeFor_5 (by decide) ?_
    refine lv_istore_n (lv' := [(3, .int (iv ((-1)))), (0, .ref (a 0)), (1, .int (iv (ch))), (2, .int (iv (p)))]) X.1 X.2.1 dX5_isFreeFor_13 rfl hl (by decide) rfl (fun ls hl => ?_)
    refine lv_iload_n X.1 X.2.1 dX5_isFreeFor_14 rfl (lv_at hl 0 rfl) ?_
    refine z_if_lt (tgt := 23) X ⟨by decide, by decide⟩ dX5_isFreeFor_15 (by decide) (fun c_15 => ?_) (fun c_15 => ?_)
    · refine z_iconst X dX5_isFreeFor_23 ?_
      refine lv_goto (tgt := 28) X.1 X.2.1 dX5_isFreeFor_24 (by decide) ?_
      exact ret _ _ _ ((bz_t (by omega)).symm) dX5_isFreeFor_28
    · exact absurd c_15 (by decide)

set_option maxHeartbeats 4000000 in
theorem c_X5_allSun (hR : RM mm A) (hI : IA A) : MP E l yX5_allSun cX5_allSun 3 (some FieldType.int) (rmk 0 0) (wM E a (mm, kp, wa, (iv (ik)), fd, gf, tp, (iv (tn)), (iv (tk)), (iv (bg)), (iv (pt)), (iv (vl)), (iv (bd)), bt, sz, cl)) [.ref (a 0)] (allS A) := by
  refine goP (by decide) (Nat.le_of_ble_eq_true rfl) ?_
  intro pp e s m below meth c ls args Q ret X h hl
  have hl : lv_has ls 3 [(0, .ref (a 0))] := hl
  have n8 := hI.n8
  have n0 := hI.n0
  refine z_iconst X dX5_allSun_0 ?_
  refine lv_istore_n (lv' := [(1, .int (iv (0))), (0, .ref (a 0))]) X.1 X.2.1 dX5_allSun_1 rfl hl (by decide) rfl (fun ls hl => ?_)
  refine z_iconst X dX5_allSun_2 ?_
  refine lv_istore_n (lv' := [(2, .int (iv (0))), (1, .int (iv (0))), (0, .ref (a 0))]) X.1 X.2.1 dX5_allSun_3 rfl hl (by decide) rfl (fun ls hl => ?_)
  have L4 : ∀ (fuel_ : Nat) (i : Int) (w : Int), (0 ≤ i) → (i ≤ 10) → (w = sunk A i.toNat) → 10 - i < (fuel_ : Int) → ∀ ls : Array Slot, lv_has ls 3 [(0, .ref (a 0)), (1, .int (iv (w))), (2, .int (iv (i)))] → W pp l e (rmk 0 0) s m args below meth c s.heap [] 0 0 Q (F0 m 4 ls []) := by
    intro fuel_
    induction fuel_ with
    | zero =>
      intro i w i0 i1 hw hn
      exfalso; omega
    | succ fuel_ ih =>
      intro i w i0 i1 hw hn ls hl
      refine lv_iload_n X.1 X.2.1 dX5_allSun_4 rfl (lv_at hl 2 rfl) ?_
      refine z_bipush X (by decide) dX5_allSun_5 ?_
      refine z_ic_ge (tgt := 27) X ⟨by omega, by omega⟩ ⟨by decide, by decide⟩ dX5_allSun_7 (by decide) (fun c_7 => ?_) (fun c_7 => ?_)
      · refine lv_iload_n X.1 X.2.1 dX5_allSun_27 rfl (lv_at hl 1 rfl) ?_
        exact ret _ _ _ (by rw [hw, allS, show i = 10 by omega]; rfl) dX5_allSun_28
      · refine lv_iload_n X.1 X.2.1 dX5_allSun_10 rfl (lv_at hl 1 rfl) ?_
        refine lv_aload_n X.1 X.2.1 dX5_allSun_11 rfl (lv_at hl 0 rfl) ?_
        refine z_get X h 4 0 0 rfl inX5 rfl (by decide) fl_X5_9 rfl dX5_allSun_12 ?_
        refine z_iconst X dX5_allSun_15 ?_
        refine lv_iload_n X.1 X.2.1 dX5_allSun_16 rfl (lv_at hl 2 rfl) ?_
        refine z_iadd X dX5_allSun_17 ?_
        refine z_iald (v := sn A i) X h 1 rfl (by omega) (by omega) (by decide) (hR.2.2.1 i (by omega) (by omega)) dX5_allSun_18 ?_
        refine z_iadd X dX5_allSun_19 ?_
        refine lv_istore_n (lv' := [(1, .int (iv (w + (sn A i)))), (0, .ref (a 0)), (2, .int (iv (i)))]) X.1 X.2.1 dX5_allSun_20 rfl hl (by decide) rfl (fun ls hl => ?_)
        refine z_iinc (k := 2) (lv' := [(2, .int (iv (i + 1))), (1, .int (iv (w + (sn A i)))), (0, .ref (a 0))]) X dX5_allSun_21 hl rfl (by decide) rfl (fun ls hl => ?_)
        refine lv_goto (tgt := 4) X.1 X.2.1 dX5_allSun_24 (by decide) ?_
        exact ih (i + 1) (w + (sn A i)) (by omega) (by omega) (by rw [tn1 i0, sunk, tnc i0]; rw [hw]) (by omega) ls (lv_sub hl [2, 1, 0] rfl)
  exact L4 ((10 - (0) : Int).toNat + 1) (0) (0) (by omega) (by omega) (rfl) (by omega) ls (lv_sub hl [2, 1, 0] rfl)

set_option maxHeartbeats 4000000 in
theorem c_X5_howManySit (hR : RM mm A) (hI : IA A) : MP E l yX5_howManySit cX5_howManySit 3 (some FieldType.int) (rmk 2 43) (wM E a (mm, kp, wa, (iv (ik)), fd, gf, tp, (iv (tn)), (iv (tk)), (iv (bg)), (iv (pt)), (iv (vl)), (iv (bd)), bt, sz, cl)) [.ref (a 0)] (cntS A) := by
  refine goP (by decide) (Nat.le_of_ble_eq_true rfl) ?_
  intro pp e s m below meth c ls args Q ret X h hl
  have hl : lv_has ls 3 [(0, .ref (a 0))] := hl
  have n8 := hI.n8
  have n0 := hI.n0
  refine z_iconst X dX5_howManySit_0 ?_
  refine lv_istore_n (lv' := [(1, .int (iv (0))), (0, .ref (a 0))]) X.1 X.2.1 dX5_howManySit_1 rfl hl (by decide) rfl (fun ls hl => ?_)
  refine z_iconst X dX5_howManySit_2 ?_
  refine lv_istore_n (lv' := [(2, .int (iv (0))), (1, .int (iv (0))), (0, .ref (a 0))]) X.1 X.2.1 dX5_howManySit_3 rfl hl (by decide) rfl (fun ls hl => ?_)
  have L4 : ∀ (fuel_ : Nat) (i : Int) (w : Int), (0 ≤ i) → (i ≤ pe A) → (w = cntk (sitB A) i.toNat) → pe A - i < (fuel_ : Int) → ∀ ls : Array Slot, lv_has ls 3 [(0, .ref (a 0)), (1, .int (iv (w))), (2, .int (iv (i)))] → W pp l e (rmk 2 43) s m args below meth c s.heap [] 0 0 Q (F0 m 4 ls []) := by
    intro fuel_
    induction fuel_ with
    | zero =>
      intro i w i0 i1 hw hn
      exfalso; omega
    | succ fuel_ ih =>
      intro i w i0 i1 hw hn ls hl
      refine lv_iload_n X.1 X.2.1 dX5_howManySit_4 rfl (lv_at hl 2 rfl) ?_
      refine lv_aload_n X.1 X.2.1 dX5_howManySit_5 rfl (lv_at hl 0 rfl) ?_
      refine z_get X h 4 0 0 rfl inX5 rfl (by decide) fl_X5_9 rfl dX5_howManySit_6 ?_
      refine z_iconst X dX5_howManySit_9 ?_
      refine z_iald (v := pe A) X h 1 rfl (by omega) (by omega) (by decide) hR.2.1 dX5_howManySit_10 ?_
      refine z_ic_ge (tgt := 36) X ⟨by omega, by omega⟩ ⟨by omega, by omega⟩ dX5_howManySit_11 (by decide) (fun c_11 => ?_) (fun c_11 => ?_)
      · refine lv_iload_n X.1 X.2.1 dX5_howManySit_36 rfl (lv_at hl 1 rfl) ?_
        exact ret _ _ _ (by rw [hw, cntS, show i = pe A by omega]) dX5_howManySit_37
      · refine lv_iload_n X.1 X.2.1 dX5_howManySit_14 rfl (lv_at hl 1 rfl) ?_
        refine lv_aload_n X.1 X.2.1 dX5_howManySit_15 rfl (lv_at hl 0 rfl) ?_
        refine lv_iload_n X.1 X.2.1 dX5_howManySit_16 rfl (lv_at hl 2 rfl) ?_
        refine z_pi (run_V (rest := [.int (iv (w))]) X h (c_X5_sits (p := i) hR hI (by omega) (by omega)) mi_X5_sits ml_X5_56 ⟨Nat.le_of_ble_eq_true rfl, Nat.le_of_ble_eq_true rfl⟩ ⟨rfl, rfl⟩ (Seg.rfl' _) 4 0 rfl rfl rfl rfl hl.1 rfl (Nat.le_of_ble_eq_true rfl) ⟨Nat.zero_le _, Nat.zero_le _⟩ dX5_howManySit_17) ?_
        refine z_ifb_eq (tgt := 27) X dX5_howManySit_20 (by decide) (fun c_20 => ?_) (fun c_20 => ?_)
        · refine z_iconst X dX5_howManySit_27 ?_
          refine z_iadd X dX5_howManySit_28 ?_
          refine lv_istore_n (lv' := [(1, .int (iv (w + 0))), (0, .ref (a 0)), (2, .int (iv (i)))]) X.1 X.2.1 dX5_howManySit_29 rfl hl (by decide) rfl (fun ls hl => ?_)
          refine z_iinc (k := 2) (lv' := [(2, .int (iv (i + 1))), (1, .int (iv (w + 0))), (0, .ref (a 0))]) X dX5_howManySit_30 hl rfl (by decide) rfl (fun ls hl => ?_)
          refine lv_goto (tgt := 4) X.1 X.2.1 dX5_howManySit_33 (by decide) ?_
          exact ih (i + 1) (w + 0) (by omega) (by omega) (by rw [tn1 i0, cntk, tnc i0]; rw [hw]; first | rw [if_pos (by simp [sitB]; omega)] | rw [if_neg (by simp [sitB]; omega)]) (by omega) ls (lv_sub hl [2, 1, 0] rfl)
        · refine z_iconst X dX5_howManySit_23 ?_
          refine lv_goto (tgt := 28) X.1 X.2.1 dX5_howManySit_24 (by decide) ?_
          refine z_iadd X dX5_howManySit_28 ?_
          refine lv_istore_n (lv' := [(1, .int (iv (w + 1))), (0, .ref (a 0)), (2, .int (iv (i)))]) X.1 X.2.1 dX5_howManySit_29 rfl hl (by decide) rfl (fun ls hl => ?_)
          refine z_iinc (k := 2) (lv' := [(2, .int (iv (i + 1))), (1, .int (iv (w + 1))), (0, .ref (a 0))]) X dX5_howManySit_30 hl rfl (by decide) rfl (fun ls hl => ?_)
          refine lv_goto (tgt := 4) X.1 X.2.1 dX5_howManySit_33 (by decide) ?_
          exact ih (i + 1) (w + 1) (by omega) (by omega) (by rw [tn1 i0, cntk, tnc i0]; rw [hw]; first | rw [if_pos (by simp [sitB]; omega)] | rw [if_neg (by simp [sitB]; omega)]) (by omega) ls (lv_sub hl [2, 1, 0] rfl)
  exact L4 ((pe A - (0) : Int).toNat + 1) (0) (0) (by omega) (by omega) (rfl) (by omega) ls (lv_sub hl [2, 1, 0] rfl)
