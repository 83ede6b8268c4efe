variable {E : EV} {l : Launch} {a : Nat → Nat} {xs xi xk xc xl xr xb yl yr : Nat → Int32} {A : Es}
set_option maxHeartbeats 4000000 in
theorem c_X4_within {v lo hi : Int} (rv : r32 v) (rl : r32 lo) (rh : r32 hi) : MP E l yX4_within cX4_within 3 (some FieldType.boolean) (rmk 0 0) ([]) [.int (iv (v)), .int (iv (lo)), .int (iv (hi))] (bz (lo ≤ v ∧ v ≤ hi)) := by
  refine goB (by decide) (Nat.le_of_ble_eq_true rfl) ?_
  intro pp e s m below meth c ls args Q ret X h hl
  have hl : lv_has ls 3 [(0, .int (iv (v))), (1, .int (iv (lo))), (2, .int (iv (hi)))] := hl
  refine lv_iload_n X.1 X.2.1 dX4_within_0 rfl (lv_at hl 0 rfl) ?_
  refine lv_iload_n X.1 X.2.1 dX4_within_1 rfl (lv_at hl 1 rfl) ?_
  refine z_ic_lt (tgt := 14) X rv rl dX4_within_2 (by decide) (fun c_2 => ?_) (fun c_2 => ?_)
  · refine z_iconst X dX4_within_14 ?_
    exact ret _ _ _ ((bz_f (by omega)).symm) dX4_within_15
  · refine lv_iload_n X.1 X.2.1 dX4_within_5 rfl (lv_at hl 0 rfl) ?_
    refine lv_iload_n X.1 X.2.1 dX4_within_6 rfl (lv_at hl 2 rfl) ?_
    refine z_ic_gt (tgt := 14) X rv rh dX4_within_7 (by decide) (fun c_7 => ?_) (fun c_7 => ?_)
    · refine z_iconst X dX4_within_14 ?_
      exact ret _ _ _ ((bz_f (by omega)).symm) dX4_within_15
    · refine z_iconst X dX4_within_10 ?_
      refine lv_goto (tgt := 15) X.1 X.2.1 dX4_within_11 (by decide) ?_
      exact ret _ _ _ ((bz_t (by omega)).symm) dX4_within_15

set_option maxHeartbeats 4000000 in
theorem c_X4_isKind {k : Int} (rk : r32 k) : MP E l yX4_isKind cX4_isKind 1 (some FieldType.boolean) (rmk 1 22) ([]) [.int (iv (k))] (bz (0 ≤ k ∧ k ≤ 5)) := by
  refine goB (by decide) (Nat.le_of_ble_eq_true rfl) ?_
  intro pp e s m below meth c ls args Q ret X h hl
  have hl : lv_has ls 1 [(0, .int (iv (k)))] := hl
  refine lv_iload_n X.1 X.2.1 dX4_isKind_0 rfl (lv_at hl 0 rfl) ?_
  refine z_iconst X dX4_isKind_1 ?_
  refine z_iconst X dX4_isKind_2 ?_
  refine z_pi (run_S (rest := []) X h (c_X4_within rk ⟨by decide, by decide⟩ ⟨by decide, by decide⟩) mi_X4_within ml_X4_44 ⟨Nat.le_of_ble_eq_true rfl, Nat.le_of_ble_eq_true rfl⟩ ⟨rfl, rfl⟩ (Seg.nil _) rfl hl.1 rfl (Nat.le_of_ble_eq_true rfl) ⟨Nat.zero_le _, Nat.zero_le _⟩ dX4_isKind_3) ?_
  exact ret _ _ _ (rfl) dX4_isKind_6

set_option maxHeartbeats 4000000 in
theorem c_X3_fades {k : Int} (k0 : 0 ≤ k) (k1 : k ≤ 5) {sn_ : Int} (rs : r32 sn_) {P : Prop} [Decidable P] : MP E l yX3_fades cX3_fades 3 (some FieldType.int) (rmk 0 0) ([]) [.int (iv (k)), .int (iv (sn_)), .int (iv (bz (P)))] (fade k sn_ P) := by
  refine goP (by decide) (Nat.le_of_ble_eq_true rfl) ?_
  intro pp e s m below meth c ls args Q ret X h hl
  have hl : lv_has ls 3 [(0, .int (iv (k))), (1, .int (iv (sn_))), (2, .int (iv (bz (P))))] := hl
  refine lv_iload_n X.1 X.2.1 dX3_fades_0 rfl (lv_at hl 0 rfl) ?_
  rcases (show k = 1 ∨ k = 2 ∨ k = 3 ∨ k = 4 ∨ k = 5 ∨ (k < 1 ∨ 5 < k) by omega) with c_1 | c_1 | c_1 | c_1 | c_1 | c_1
  · refine z_tabIn (tgt := 36) X 1 c_1 ⟨by decide, by decide⟩ (by decide) (by decide) dX3_fades_1 rfl (by decide) ?_
    refine z_iconst X dX3_fades_36 ?_
    exact ret _ _ _ (by unfold fade; (repeat' split) <;> (first | omega | contradiction)) dX3_fades_37
  · refine z_tabIn (tgt := 38) X 2 c_1 ⟨by decide, by decide⟩ (by decide) (by decide) dX3_fades_1 rfl (by decide) ?_
    refine z_iconst X dX3_fades_38 ?_
    exact ret _ _ _ (by unfold fade; (repeat' split) <;> (first | omega | contradiction)) dX3_fades_39
  · refine z_tabIn (tgt := 52) X 3 c_1 ⟨by decide, by decide⟩ (by decide) (by decide) dX3_fades_1 rfl (by decide) ?_
    refine lv_iload_n X.1 X.2.1 dX3_fades_52 rfl (lv_at hl 1 rfl) ?_
    refine z_if_ne (tgt := 60) X rs dX3_fades_53 (by decide) (fun c_53 => ?_) (fun c_53 => ?_)
    · refine z_iconst X dX3_fades_60 ?_
      exact ret _ _ _ (by unfold fade; (repeat' split) <;> (first | omega | contradiction)) dX3_fades_61
    · refine z_iconst X dX3_fades_56 ?_
      refine lv_goto (tgt := 61) X.1 X.2.1 dX3_fades_57 (by decide) ?_
      exact ret _ _ _ (by unfold fade; (repeat' split) <;> (first | omega | contradiction)) dX3_fades_61
  · refine z_tabIn (tgt := 40) X 4 c_1 ⟨by decide, by decide⟩ (by decide) (by decide) dX3_fades_1 rfl (by decide) ?_
    refine lv_iload_n X.1 X.2.1 dX3_fades_40 rfl (lv_at hl 2 rfl) ?_
    refine z_ifb_eq (tgt := 48) X dX3_fades_41 (by decide) (fun c_41 => ?_) (fun c_41 => ?_)
    · refine z_iconst X dX3_fades_48 ?_
      exact ret _ _ _ (by unfold fade; (repeat' split) <;> (first | omega | contradiction)) dX3_fades_49
    · refine z_iconst X dX3_fades_44 ?_
      refine lv_goto (tgt := 49) X.1 X.2.1 dX3_fades_45 (by decide) ?_
      exact ret _ _ _ (by unfold fade; (repeat' split) <;> (first | omega | contradiction)) dX3_fades_49
  · refine z_tabIn (tgt := 50) X 5 c_1 ⟨by decide, by decide⟩ (by decide) (by decide) dX3_fades_1 rfl (by decide) ?_
    refine z_iconst X dX3_fades_50 ?_
    exact ret _ _ _ (by unfold fade; (repeat' split) <;> (first | omega | contradiction)) dX3_fades_51
  · refine z_tabOut (tgt := 52) X ⟨by omega, by omega⟩ c_1 dX3_fades_1 (by decide) ?_
    refine lv_iload_n X.1 X.2.1 dX3_fades_52 rfl (lv_at hl 1 rfl) ?_
    refine z_if_ne (tgt := 60) X rs dX3_fades_53 (by decide) (fun c_53 => ?_) (fun c_53 => ?_)
    · refine z_iconst X dX3_fades_60 ?_
      exact ret _ _ _ (by unfold fade; (repeat' split) <;> (first | omega | contradiction)) dX3_fades_61
    · refine z_iconst X dX3_fades_56 ?_
      refine lv_goto (tgt := 61) X.1 X.2.1 dX3_fades_57 (by decide) ?_
      exact ret _ _ _ (by unfold fade; (repeat' split) <;> (first | omega | contradiction)) dX3_fades_61

set_option maxHeartbeats 4000000 in
theorem c_X3_burnsFrom {k : Int} (k0 : 0 ≤ k) (k1 : k ≤ 5) : MP E l yX3_burnsFrom cX3_burnsFrom 1 (some FieldType.int) (rmk 0 0) ([]) [.int (iv (k))] (burnF k) := by
  refine goP (by decide) (Nat.le_of_ble_eq_true rfl) ?_
  intro pp e s m below meth c ls args Q ret X h hl
  have hl : lv_has ls 1 [(0, .int (iv (k)))] := hl
  refine lv_iload_n X.1 X.2.1 dX3_burnsFrom_0 rfl (lv_at hl 0 rfl) ?_
  rcases (show k = 1 ∨ k = 2 ∨ k = 3 ∨ k = 4 ∨ k = 5 ∨ (k < 1 ∨ 5 < k) by omega) with c_1 | c_1 | c_1 | c_1 | c_1 | c_1
  · refine z_tabIn (tgt := 36) X 1 c_1 ⟨by decide, by decide⟩ (by decide) (by decide) dX3_burnsFrom_1 rfl (by decide) ?_
    refine z_bipush X (by decide) dX3_burnsFrom_36 ?_
    exact ret _ _ _ (by unfold burnF; (repeat' split) <;> omega) dX3_burnsFrom_38
  · refine z_tabIn (tgt := 39) X 2 c_1 ⟨by decide, by decide⟩ (by decide) (by decide) dX3_burnsFrom_1 rfl (by decide) ?_
    refine z_bipush X (by decide) dX3_burnsFrom_39 ?_
    exact ret _ _ _ (by unfold burnF; (repeat' split) <;> omega) dX3_burnsFrom_41
  · refine z_tabIn (tgt := 48) X 3 c_1 ⟨by decide, by decide⟩ (by decide) (by decide) dX3_burnsFrom_1 rfl (by decide) ?_
    refine z_bipush X (by decide) dX3_burnsFrom_48 ?_
    exact ret _ _ _ (by unfold burnF; (repeat' split) <;> omega) dX3_burnsFrom_50
  · refine z_tabIn (tgt := 42) X 4 c_1 ⟨by decide, by decide⟩ (by decide) (by decide) dX3_burnsFrom_1 rfl (by decide) ?_
    refine z_bipush X (by decide) dX3_burnsFrom_42 ?_
    exact ret _ _ _ (by unfold burnF; (repeat' split) <;> omega) dX3_burnsFrom_44
  · refine z_tabIn (tgt := 45) X 5 c_1 ⟨by decide, by decide⟩ (by decide) (by decide) dX3_burnsFrom_1 rfl (by decide) ?_
    refine z_bipush X (by decide) dX3_burnsFrom_45 ?_
    exact ret _ _ _ (by unfold burnF; (repeat' split) <;> omega) dX3_burnsFrom_47
  · refine z_tabOut (tgt := 48) X ⟨by omega, by omega⟩ c_1 dX3_burnsFrom_1 (by decide) ?_
    refine z_bipush X (by decide) dX3_burnsFrom_48 ?_
    exact ret _ _ _ (by unfold burnF; (repeat' split) <;> omega) dX3_burnsFrom_50

set_option maxHeartbeats 4000000 in
theorem c_X3_glows {k : Int} (k0 : 0 ≤ k) (k1 : k ≤ 5) {b u t : Int} (b0 : 0 ≤ b) (b1 : b ≤ 200) (s0 : 0 ≤ u) (s1 : u ≤ 9) (t0 : 0 ≤ t) (t1 : t ≤ 5) : MP E l yX3_glows cX3_glows 5 (some FieldType.int) (rmk 1 21) ([]) [.int (iv (k)), .int (iv (b)), .int (iv (u)), .int (iv (t))] (glow k b u t) := by
  refine goP (by decide) (Nat.le_of_ble_eq_true rfl) ?_
  intro pp e s m below meth c ls args Q ret X h hl
  have hl : lv_has ls 5 [(0, .int (iv (k))), (1, .int (iv (b))), (2, .int (iv (u))), (3, .int (iv (t)))] := hl
  have gr := guest_rng b0 b1 s0 s1
  refine lv_iload_n X.1 X.2.1 dX3_glows_0 rfl (lv_at hl 2 rfl) ?_
  refine z_if_ne (tgt := 6) X ⟨by omega, by omega⟩ dX3_glows_1 (by decide) (fun c_1 => ?_) (fun c_1 => ?_)
  · refine lv_iload_n X.1 X.2.1 dX3_glows_6 rfl (lv_at hl 1 rfl) ?_
    refine z_bipush X (by decide) dX3_glows_7 ?_
    refine z_idiv X (by omega) (by omega) (by omega) (by omega) dX3_glows_9 ?_
    refine lv_iload_n X.1 X.2.1 dX3_glows_10 rfl (lv_at hl 2 rfl) ?_
    refine z_imul X dX3_glows_11 ?_
    refine z_bipush X (by decide) dX3_glows_12 ?_
    refine z_idiv X (by omega) (by omega) (by omega) (by omega) dX3_glows_14 ?_
    refine lv_istore (lv' := [(4, .int (iv ((((b) / (20)) * u) / (9)))), (0, .int (iv (k))), (1, .int (iv (b))), (2, .int (iv (u))), (3, .int (iv (t)))]) X.1 X.2.1 dX3_glows_15 hl (by decide) rfl (fun ls hl => ?_)
    refine lv_iload_n X.1 X.2.1 dX3_glows_17 rfl (lv_at hl 1 rfl) ?_
    rcases (show k = 1 ∨ k = 2 ∨ k = 3 ∨ k = 4 ∨ k = 5 ∨ (k < 1 ∨ 5 < k) by omega) with c_18 | c_18 | c_18 | c_18 | c_18 | c_18
    · refine z_tabIn (tgt := 52) X 1 c_18 ⟨by decide, by decide⟩ (by decide) (by decide) dX3_glows_18 rfl (by decide) ?_
      refine lv_iload X.1 X.2.1 dX3_glows_52 (lv_at hl 0 rfl) ?_
      refine z_iconst X dX3_glows_54 ?_
      refine z_iadd X dX3_glows_55 ?_
      exact ret _ _ _ (by unfold glow; (repeat' split) <;> omega) dX3_glows_56
    · refine z_tabIn (tgt := 57) X 2 c_18 ⟨by decide, by decide⟩ (by decide) (by decide) dX3_glows_18 rfl (by decide) ?_
      refine lv_iload X.1 X.2.1 dX3_glows_57 (lv_at hl 0 rfl) ?_
      refine z_iconst X dX3_glows_59 ?_
      refine z_idiv X (by omega) (by omega) (by omega) (by omega) dX3_glows_60 ?_
      exact ret _ _ _ (by unfold glow; (repeat' split) <;> omega) dX3_glows_61
    · refine z_tabIn (tgt := 62) X 3 c_18 ⟨by decide, by decide⟩ (by decide) (by decide) dX3_glows_18 rfl (by decide) ?_
      refine z_bipush X (by decide) dX3_glows_62 ?_
      exact ret _ _ _ (by unfold glow; (repeat' split) <;> omega) dX3_glows_64
    · refine z_tabIn (tgt := 65) X 4 c_18 ⟨by decide, by decide⟩ (by decide) (by decide) dX3_glows_18 rfl (by decide) ?_
      refine lv_iload X.1 X.2.1 dX3_glows_65 (lv_at hl 0 rfl) ?_
      refine z_iconst X dX3_glows_67 ?_
      refine z_idiv X (by omega) (by omega) (by omega) (by omega) dX3_glows_68 ?_
      refine lv_iload_n X.1 X.2.1 dX3_glows_69 rfl (lv_at hl 4 rfl) ?_
      refine z_iconst X dX3_glows_70 ?_
      refine z_ic_ne (tgt := 78) X ⟨by omega, by omega⟩ ⟨by decide, by decide⟩ dX3_glows_71 (by decide) (fun c_71 => ?_) (fun c_71 => ?_)
      · refine z_iconst X dX3_glows_78 ?_
        refine z_imul X dX3_glows_79 ?_
        exact ret _ _ _ (by unfold glow; (repeat' split) <;> omega) dX3_glows_80
      · refine z_iconst X dX3_glows_74 ?_
        refine lv_goto (tgt := 79) X.1 X.2.1 dX3_glows_75 (by decide) ?_
        refine z_imul X dX3_glows_79 ?_
        exact ret _ _ _ (by unfold glow; (repeat' split) <;> omega) dX3_glows_80
    · refine z_tabIn (tgt := 81) X 5 c_18 ⟨by decide, by decide⟩ (by decide) (by decide) dX3_glows_18 rfl (by decide) ?_
      refine z_iconst X dX3_glows_81 ?_
      refine lv_iload X.1 X.2.1 dX3_glows_82 (lv_at hl 0 rfl) ?_
      refine z_iconst X dX3_glows_84 ?_
      refine z_iadd X dX3_glows_85 ?_
      refine z_iconst X dX3_glows_86 ?_
      refine z_isub X dX3_glows_87 ?_
      refine z_mmax X ⟨by decide, by decide⟩ ⟨by omega, by omega⟩ ml_X3_19 (Nat.le_of_ble_eq_true rfl) (Nat.le_of_ble_eq_true rfl) (Nat.zero_le _) (Nat.zero_le _) hl.1 dX3_glows_88 ?_
      exact ret _ _ _ (by unfold glow; (repeat' split) <;> omega) dX3_glows_91
    · refine z_tabOut (tgt := 92) X ⟨by omega, by omega⟩ c_18 dX3_glows_18 (by decide) ?_
      refine lv_iload X.1 X.2.1 dX3_glows_92 (lv_at hl 0 rfl) ?_
      exact ret _ _ _ (by unfold glow; (repeat' split) <;> omega) dX3_glows_94
  · refine z_iconst X dX3_glows_4 ?_
    exact ret _ _ _ (by unfold glow; (repeat' split) <;> omega) dX3_glows_5

set_option maxHeartbeats 4000000 in
theorem c_X3_takes {k : Int} (k0 : 0 ≤ k) (k1 : k ≤ 5) {gi : Int} (g0 : 0 ≤ gi) (g1 : gi ≤ 13) : MP E l yX3_takes cX3_takes 2 (some FieldType.int) (rmk 0 0) ([]) [.int (iv (k)), .int (iv (gi))] (take k gi) := by
  refine goP (by decide) (Nat.le_of_ble_eq_true rfl) ?_
  intro pp e s m below meth c ls args Q ret X h hl
  have hl : lv_has ls 2 [(0, .int (iv (k))), (1, .int (iv (gi)))] := hl
  refine lv_iload_n X.1 X.2.1 dX3_takes_0 rfl (lv_at hl 1 rfl) ?_
  refine z_if_ne (tgt := 6) X ⟨by omega, by omega⟩ dX3_takes_1 (by decide) (fun c_1 => ?_) (fun c_1 => ?_)
  · refine lv_iload_n X.1 X.2.1 dX3_takes_6 rfl (lv_at hl 0 rfl) ?_
    rcases (show k = 1 ∨ k = 2 ∨ k = 3 ∨ k = 4 ∨ k = 5 ∨ (k < 1 ∨ 5 < k) by omega) with c_7 | c_7 | c_7 | c_7 | c_7 | c_7
    · refine z_tabIn (tgt := 40) X 1 c_7 ⟨by decide, by decide⟩ (by decide) (by decide) dX3_takes_7 rfl (by decide) ?_
      refine lv_iload_n X.1 X.2.1 dX3_takes_40 rfl (lv_at hl 1 rfl) ?_
      refine z_iconst X dX3_takes_41 ?_
      refine z_idiv X (by omega) (by omega) (by omega) (by omega) dX3_takes_42 ?_
      exact ret _ _ _ (by unfold take; (repeat' split) <;> omega) dX3_takes_43
    · refine z_tabIn (tgt := 44) X 2 c_7 ⟨by decide, by decide⟩ (by decide) (by decide) dX3_takes_7 rfl (by decide) ?_
      refine lv_iload_n X.1 X.2.1 dX3_takes_44 rfl (lv_at hl 1 rfl) ?_
      refine z_iconst X dX3_takes_45 ?_
      refine z_iadd X dX3_takes_46 ?_
      exact ret _ _ _ (by unfold take; (repeat' split) <;> omega) dX3_takes_47
    · refine z_tabIn (tgt := 48) X 3 c_7 ⟨by decide, by decide⟩ (by decide) (by decide) dX3_takes_7 rfl (by decide) ?_
      refine z_iconst X dX3_takes_48 ?_
      exact ret _ _ _ (by unfold take; (repeat' split) <;> omega) dX3_takes_49
    · refine z_tabIn (tgt := 50) X 4 c_7 ⟨by decide, by decide⟩ (by decide) (by decide) dX3_takes_7 rfl (by decide) ?_
      refine lv_iload_n X.1 X.2.1 dX3_takes_50 rfl (lv_at hl 1 rfl) ?_
      refine z_iconst X dX3_takes_51 ?_
      refine z_iadd X dX3_takes_52 ?_
      exact ret _ _ _ (by unfold take; (repeat' split) <;> omega) dX3_takes_53
    · refine z_tabIn (tgt := 54) X 5 c_7 ⟨by decide, by decide⟩ (by decide) (by decide) dX3_takes_7 rfl (by decide) ?_
      refine lv_iload_n X.1 X.2.1 dX3_takes_54 rfl (lv_at hl 1 rfl) ?_
      refine z_iconst X dX3_takes_55 ?_
      refine z_idiv X (by omega) (by omega) (by omega) (by omega) dX3_takes_56 ?_
      refine z_iconst X dX3_takes_57 ?_
      refine z_iadd X dX3_takes_58 ?_
      exact ret _ _ _ (by unfold take; (repeat' split) <;> omega) dX3_takes_59
    · refine z_tabOut (tgt := 60) X ⟨by omega, by omega⟩ c_7 dX3_takes_7 (by decide) ?_
      refine lv_iload_n X.1 X.2.1 dX3_takes_60 rfl (lv_at hl 1 rfl) ?_
      exact ret _ _ _ (by unfold take; (repeat' split) <;> omega) dX3_takes_61
  · refine z_iconst X dX3_takes_4 ?_
    exact ret _ _ _ (by unfold take; (repeat' split) <;> omega) dX3_takes_5

set_option maxHeartbeats 4000000 in
theorem c_X1_place (hI : IA A) (hh : hr A < 1000000) : MP E l yX1_place cX1_place 1 (some FieldType.int) (rmk 0 0) (wS E a ((iv (hr A))) ((iv (pe A))) (xs, xi, xk, xc, xl, xr, xb, yl, yr)) [.ref (a 0)] (hr A % 10) := by
  refine goP (by decide) (Nat.le_of_ble_eq_true rfl) ?_
  intro pp e s m below meth c ls args Q ret X h hl
  have hl : lv_has ls 1 [(0, .ref (a 0))] := hl
  have h0 := hI.h0
  refine lv_aload_n X.1 X.2.1 dX1_place_0 rfl (lv_at hl 0 rfl) ?_
  refine z_get X h 1 0 0 rfl inX1 rfl (by decide) fl_X1_9 rfl dX1_place_1 ?_
  refine z_bipush X (by decide) dX1_place_4 ?_
  refine z_irem X (by omega) (by omega) (by omega) (by omega) dX1_place_6 ?_
  exact ret _ _ _ (rfl) dX1_place_7

set_option maxHeartbeats 4000000 in
theorem c_X1_sunNow (hR : RS (xs, xi, xk, xc, xl, xr, xb, yl, yr) A) (hI : IA A) (hh : hr A < 1000000) : MP E l yX1_sunNow cX1_sunNow 1 (some FieldType.int) (rmk 1 20) (wS E a ((iv (hr A))) ((iv (pe A))) (xs, xi, xk, xc, xl, xr, xb, yl, yr)) [.ref (a 0)] (sunN A) := by
  refine goP (by decide) (Nat.le_of_ble_eq_true rfl) ?_
  intro pp e s m below meth c ls args Q ret X h hl
  have hl : lv_has ls 1 [(0, .ref (a 0))] := hl
  have h0 := hI.h0
  refine lv_aload_n X.1 X.2.1 dX1_sunNow_0 rfl (lv_at hl 0 rfl) ?_
  refine z_get X h 1 0 2 rfl inX1 rfl (by decide) fl_X1_18 rfl dX1_sunNow_1 ?_
  refine lv_aload_n X.1 X.2.1 dX1_sunNow_4 rfl (lv_at hl 0 rfl) ?_
  refine z_pi (run_V (rest := [.ref (a 1)]) X h (c_X1_place hI hh) mi_X1_place ml_X1_58 ⟨Nat.le_of_ble_eq_true rfl, Nat.le_of_ble_eq_true rfl⟩ ⟨rfl, rfl⟩ (Seg.rfl' _) 1 0 rfl rfl rfl rfl hl.1 rfl (Nat.le_of_ble_eq_true rfl) ⟨Nat.zero_le _, Nat.zero_le _⟩ dX1_sunNow_5) ?_
  refine z_iald (v := sn A (hr A % 10)) X h 1 rfl (by omega) (by omega) (by decide) (hR.1 (hr A % 10) (by omega) (by omega)) dX1_sunNow_8 ?_
  exact ret _ _ _ (rfl) dX1_sunNow_9

set_option maxHeartbeats 4000000 in
theorem c_X1_sits (hR : RS (xs, xi, xk, xc, xl, xr, xb, yl, yr) A) (hI : IA A) {p : Int} (p0 : 0 ≤ p) (p1 : p < pe A) : MP E l yX1_sits cX1_sits 2 (some FieldType.boolean) (rmk 0 0) (wS E a ((iv (hr A))) ((iv (pe A))) (xs, xi, xk, xc, xl, xr, xb, yl, yr)) [.ref (a 0), .int (iv (p))] (bz (0 ≤ pr A 1 p)) := by
  refine goB (by decide) (Nat.le_of_ble_eq_true rfl) ?_
  intro pp e s m below meth c ls args Q ret X h hl
  have hl : lv_has ls 2 [(0, .ref (a 0)), (1, .int (iv (p)))] := hl
  have q := hI.gP p0 p1
  have n8 := hI.n8
  refine lv_aload_n X.1 X.2.1 dX1_sits_0 rfl (lv_at hl 0 rfl) ?_
  refine z_get X h 1 0 5 rfl inX1 rfl (by decide) fl_X1_28 rfl dX1_sits_1 ?_
  refine lv_iload_n X.1 X.2.1 dX1_sits_4 rfl (lv_at hl 1 rfl) ?_
  refine z_iald (v := pr A 1 p) X h 4 rfl (by omega) (by omega) (by decide) (hR.2.2.2.1 p (by omega) (by omega)) dX1_sits_5 ?_
  refine z_if_lt (tgt := 13) X ⟨by omega, by omega⟩ dX1_sits_6 (by decide) (fun c_6 => ?_) (fun c_6 => ?_)
  · refine z_iconst X dX1_sits_13 ?_
    exact ret _ _ _ ((bz_f (by omega)).symm) dX1_sits_14
  · refine z_iconst X dX1_sits_9 ?_
    refine lv_goto (tgt := 14) X.1 X.2.1 dX1_sits_10 (by decide) ?_
    exact ret _ _ _ ((bz_t (by omega)).symm) dX1_sits_14

set_option maxHeartbeats 4000000 in
theorem c_X1_isFreeFor (hR : RS (xs, xi, xk, xc, xl, xr, xb, yl, yr) A) (hI : IA A) {p c9 : Int} (p0 : 0 ≤ p) (p1 : p < 9) (c0 : 0 ≤ c9) (c1 : c9 ≤ 9) : MP E l yX1_isFreeFor cX1_isFreeFor 3 (some FieldType.boolean) (rmk 0 0) (wS E a ((iv (hr A))) ((iv (pe A))) (xs, xi, xk, xc, xl, xr, xb, yl, yr)) [.ref (a 0), .int (iv (p)), .int (iv (c9))] (bz (onC A c9 < 0 ∨ onC A c9 = p)) := by
  refine goB (by decide) (Nat.le_of_ble_eq_true rfl) ?_
  intro pp e s m below meth c ls args Q ret X h hl
  have hl : lv_has ls 3 [(0, .ref (a 0)), (1, .int (iv (p))), (2, .int (iv (c9)))] := hl
  have n8 := hI.n8
  have oc := onC_rng hI c9
  refine lv_aload_n X.1 X.2.1 dX1_isFreeFor_0 rfl (lv_at hl 0 rfl) ?_
  refine z_get X h 1 0 3 rfl inX1 rfl (by decide) fl_X1_22 rfl dX1_isFreeFor_1 ?_
  refine lv_iload_n X.1 X.2.1 dX1_isFreeFor_4 rfl (lv_at hl 2 rfl) ?_
  refine z_iald (v := onC A c9) X h 2 rfl (by omega) (by omega) (by decide) (hR.2.1 c9 (by omega) (by omega)) dX1_isFreeFor_5 ?_
  refine z_if_lt (tgt := 19) X ⟨by omega, by omega⟩ dX1_isFreeFor_6 (by decide) (fun c_6 => ?_) (fun c_6 => ?_)
  · refine z_iconst X dX1_isFreeFor_19 ?_
    refine lv_goto (tgt := 24) X.1 X.2.1 dX1_isFreeFor_20 (by decide) ?_
    exact ret _ _ _ ((bz_t (by omega)).symm) dX1_isFreeFor_24
  · refine lv_aload_n X.1 X.2.1 dX1_isFreeFor_9 rfl (lv_at hl 0 rfl) ?_
    refine z_get X h 1 0 3 rfl inX1 rfl (by decide) fl_X1_22 rfl dX1_isFreeFor_10 ?_
    refine lv_iload_n X.1 X.2.1 dX1_isFreeFor_13 rfl (lv_at hl 2 rfl) ?_
    refine z_iald (v := onC A c9) X h 2 rfl (by omega) (by omega) (by decide) (hR.2.1 c9 (by omega) (by omega)) dX1_isFreeFor_14 ?_
    refine lv_iload_n X.1 X.2.1 dX1_isFreeFor_15 rfl (lv_at hl 1 rfl) ?_
    refine z_ic_ne (tgt := 23) X ⟨by omega, by omega⟩ ⟨by omega, by omega⟩ dX1_isFreeFor_16 (by decide) (fun c_16 => ?_) (fun c_16 => ?_)
    · refine z_iconst X dX1_isFreeFor_23 ?_
      exact ret _ _ _ ((bz_f (by omega)).symm) dX1_isFreeFor_24
    · refine z_iconst X dX1_isFreeFor_19 ?_
      refine lv_goto (tgt := 24) X.1 X.2.1 dX1_isFreeFor_20 (by decide) ?_
      exact ret _ _ _ ((bz_t (by omega)).symm) dX1_isFreeFor_24

set_option maxHeartbeats 4000000 in
theorem c_X1_neighbour (hR : RS (xs, xi, xk, xc, xl, xr, xb, yl, yr) A) (hI : IA A) {p : Int} (p0 : 0 ≤ p) (p1 : p < pe A) {d : Int} (d0 : -1 ≤ d) (d1 : d ≤ 1) : MP E l yX1_neighbour cX1_neighbour 4 (some FieldType.int) (rmk 1 22) (wS E a ((iv (hr A))) ((iv (pe A))) (xs, xi, xk, xc, xl, xr, xb, yl, yr)) [.ref (a 0), .int (iv (p)), .int (iv (d))] (nb A p d) := by
  refine goP (by decide) (Nat.le_of_ble_eq_true rfl) ?_
  intro pp e s m below meth c ls args Q ret X h hl
  have hl : lv_has ls 4 [(0, .ref (a 0)), (1, .int (iv (p))), (2, .int (iv (d)))] := hl
  have q := hI.gP p0 p1
  have n8 := hI.n8
  refine lv_aload_n X.1 X.2.1 dX1_neighbour_0 rfl (lv_at hl 0 rfl) ?_
  refine z_get X h 1 0 5 rfl inX1 rfl (by decide) fl_X1_28 rfl dX1_neighbour_1 ?_
  refine lv_iload_n X.1 X.2.1 dX1_neighbour_4 rfl (lv_at hl 1 rfl) ?_
  refine z_iald (v := pr A 1 p) X h 4 rfl (by omega) (by omega) (by decide) (hR.2.2.2.1 p (by omega) (by omega)) dX1_neighbour_5 ?_
  refine lv_iload_n X.1 X.2.1 dX1_neighbour_6 rfl (lv_at hl 2 rfl) ?_
  refine z_iadd X dX1_neighbour_7 ?_
  refine lv_istore_n (lv' := [(3, .int (iv (pr A 1 p + d))), (0, .ref (a 0)), (1, .int (iv (p))), (2, .int (iv (d)))]) X.1 X.2.1 dX1_neighbour_8 rfl hl (by decide) rfl (fun ls hl => ?_)
  refine lv_aload_n X.1 X.2.1 dX1_neighbour_9 rfl (lv_at hl 1 rfl) ?_
  refine lv_iload_n X.1 X.2.1 dX1_neighbour_10 rfl (lv_at hl 2 rfl) ?_
  refine z_pi (run_V (rest := []) X h (c_X1_sits (p := p) hR hI (by omega) (by omega)) mi_X1_sits ml_X1_66 ⟨Nat.le_of_ble_eq_true rfl, Nat.le_of_ble_eq_true rfl⟩ ⟨rfl, rfl⟩ (Seg.rfl' _) 1 0 rfl rfl rfl rfl hl.1 rfl (Nat.le_of_ble_eq_true rfl) ⟨Nat.zero_le _, Nat.zero_le _⟩ dX1_neighbour_11) ?_
  refine z_ifb_eq (tgt := 36) X dX1_neighbour_14 (by decide) (fun c_14 => ?_) (fun c_14 => ?_)
  · refine z_iconst X dX1_neighbour_36 ?_
    exact ret _ _ _ (by unfold nb; rw [if_neg (by omega)]) dX1_neighbour_37
  · refine lv_iload_n X.1 X.2.1 dX1_neighbour_17 rfl (lv_at hl 0 rfl) ?_
    refine z_iconst X dX1_neighbour_18 ?_
    refine z_bipush X (by decide) dX1_neighbour_19 ?_
    refine z_pi (run_N (rest := []) X h (c_X4_within ⟨by omega, by omega⟩ ⟨by decide, by decide⟩ ⟨by decide, by decide⟩) mi_X4_within h.2.2.2.2.1.2.1 ⟨Nat.le_of_ble_eq_true rfl, Nat.le_of_ble_eq_true rfl⟩ ⟨rfl, rfl⟩ (Seg.nil _) rfl hl.1 rfl (Nat.le_of_ble_eq_true rfl) ⟨Nat.zero_le _, Nat.zero_le _⟩ dX1_neighbour_21) ?_
    refine z_ifb_eq (tgt := 36) X dX1_neighbour_24 (by decide) (fun c_24 => ?_) (fun c_24 => ?_)
    · refine z_iconst X dX1_neighbour_36 ?_
      exact ret _ _ _ (by unfold nb; rw [if_neg (by omega)]) dX1_neighbour_37
    · refine lv_aload_n X.1 X.2.1 dX1_neighbour_27 rfl (lv_at hl 1 rfl) ?_
      refine z_get X h 1 0 3 rfl inX1 rfl (by decide) fl_X1_22 rfl dX1_neighbour_28 ?_
      refine lv_iload_n X.1 X.2.1 dX1_neighbour_31 rfl (lv_at hl 0 rfl) ?_
      refine z_iald (v := onC A (pr A 1 p + d)) X h 2 rfl (by omega) (by omega) (by decide) (hR.2.1 (pr A 1 p + d) (by omega) (by omega)) dX1_neighbour_32 ?_
      refine lv_goto (tgt := 37) X.1 X.2.1 dX1_neighbour_33 (by decide) ?_
      exact ret _ _ _ (by unfold nb; rw [if_pos (by omega)]) dX1_neighbour_37

set_option maxHeartbeats 4000000 in
theorem c_X1_isEven (hR : RS (xs, xi, xk, xc, xl, xr, xb, yl, yr) A) (hI : IA A) {p : Int} (p0 : 0 ≤ p) (p1 : p < pe A) : MP E l yX1_isEven cX1_isEven 2 (some FieldType.boolean) (rmk 1 20) (wS E a ((iv (hr A))) ((iv (pe A))) (xs, xi, xk, xc, xl, xr, xb, yl, yr)) [.ref (a 0), .int (iv (p))] (bz (evB A p = true)) := by
  refine goB (by decide) (Nat.le_of_ble_eq_true rfl) ?_
  intro pp e s m below meth c ls args Q ret X h hl
  have hl : lv_has ls 2 [(0, .ref (a 0)), (1, .int (iv (p)))] := hl
  have q := hI.gP p0 p1
  have n8 := hI.n8
  refine lv_aload_n X.1 X.2.1 dX1_isEven_0 rfl (lv_at hl 0 rfl) ?_
  refine z_get X h 1 0 6 rfl inX1 rfl (by decide) fl_X1_31 rfl dX1_isEven_1 ?_
  refine lv_iload_n X.1 X.2.1 dX1_isEven_4 rfl (lv_at hl 1 rfl) ?_
  refine z_iald (v := pr A 2 p) X h 5 rfl (by omega) (by omega) (by decide) (hR.2.2.2.2.1 p (by omega) (by omega)) dX1_isEven_5 ?_
  refine lv_aload_n X.1 X.2.1 dX1_isEven_6 rfl (lv_at hl 0 rfl) ?_
  refine z_get X h 1 0 7 rfl inX1 rfl (by decide) fl_X1_34 rfl dX1_isEven_7 ?_
  refine lv_iload_n X.1 X.2.1 dX1_isEven_10 rfl (lv_at hl 1 rfl) ?_
  refine z_iald (v := pr A 3 p) X h 6 rfl (by omega) (by omega) (by decide) (hR.2.2.2.2.2.1 p (by omega) (by omega)) dX1_isEven_11 ?_
  refine z_isub X dX1_isEven_12 ?_
  refine z_mabs X ⟨by omega, by omega⟩ ml_X1_77 (Nat.le_of_ble_eq_true rfl) (Nat.le_of_ble_eq_true rfl) (Nat.zero_le _) (Nat.zero_le _) hl.1 dX1_isEven_13 ?_
  refine z_iconst X dX1_isEven_16 ?_
  refine z_ic_gt (tgt := 24) X ⟨by omega, by omega⟩ ⟨by decide, by decide⟩ dX1_isEven_17 (by decide) (fun c_17 => ?_) (fun c_17 => ?_)
  · refine z_iconst X dX1_isEven_24 ?_
    exact ret _ _ _ ((bz_f (by simp only [evB, decide_eq_true_eq]; omega)).symm) dX1_isEven_25
  · refine z_iconst X dX1_isEven_20 ?_
    refine lv_goto (tgt := 25) X.1 X.2.1 dX1_isEven_21 (by decide) ?_
    exact ret _ _ _ ((bz_t (by simp only [evB, decide_eq_true_eq]; omega)).symm) dX1_isEven_25

set_option maxHeartbeats 4000000 in
theorem c_X1_brownOf (hR : RS (xs, xi, xk, xc, xl, xr, xb, yl, yr) A) (hI : IA A) {p : Int} (p0 : 0 ≤ p) (p1 : p < pe A) : MP E l yX1_brownOf cX1_brownOf 2 (some FieldType.int) (rmk 0 0) (wS E a ((iv (hr A))) ((iv (pe A))) (xs, xi, xk, xc, xl, xr, xb, yl, yr)) [.ref (a 0), .int (iv (p))] (brn A p) := by
  refine goP (by decide) (Nat.le_of_ble_eq_true rfl) ?_
  intro pp e s m below meth c ls args Q ret X h hl
  have hl : lv_has ls 2 [(0, .ref (a 0)), (1, .int (iv (p)))] := hl
  have q := hI.gP p0 p1
  have n8 := hI.n8
  refine lv_aload_n X.1 X.2.1 dX1_brownOf_0 rfl (lv_at hl 0 rfl) ?_
  refine z_get X h 1 0 6 rfl inX1 rfl (by decide) fl_X1_31 rfl dX1_brownOf_1 ?_
  refine lv_iload_n X.1 X.2.1 dX1_brownOf_4 rfl (lv_at hl 1 rfl) ?_
  refine z_iald (v := pr A 2 p) X h 5 rfl (by omega) (by omega) (by decide) (hR.2.2.2.2.1 p (by omega) (by omega)) dX1_brownOf_5 ?_
  refine lv_aload_n X.1 X.2.1 dX1_brownOf_6 rfl (lv_at hl 0 rfl) ?_
  refine z_get X h 1 0 7 rfl inX1 rfl (by decide) fl_X1_34 rfl dX1_brownOf_7 ?_
  refine lv_iload_n X.1 X.2.1 dX1_brownOf_10 rfl (lv_at hl 1 rfl) ?_
  refine z_iald (v := pr A 3 p) X h 6 rfl (by omega) (by omega) (by decide) (hR.2.2.2.2.2.1 p (by omega) (by omega)) dX1_brownOf_11 ?_
  refine z_iadd X dX1_brownOf_12 ?_
  exact ret _ _ _ (rfl) dX1_brownOf_13

set_option maxHeartbeats 4000000 in
theorem c_X1_fadesOf (hR : RS (xs, xi, xk, xc, xl, xr, xb, yl, yr) A) (hI : IA A) (hh : hr A < 1000000) {p : Int} (p0 : 0 ≤ p) (p1 : p < pe A) : MP E l yX1_fadesOf cX1_fadesOf 3 (some FieldType.int) (rmk 2 45) (wS E a ((iv (hr A))) ((iv (pe A))) (xs, xi, xk, xc, xl, xr, xb, yl, yr)) [.ref (a 0), .int (iv (p))] (fdO A p) := by
  refine goP (by decide) (Nat.le_of_ble_eq_true rfl) ?_
  intro pp e s m below meth c ls args Q ret X h hl
  have hl : lv_has ls 3 [(0, .ref (a 0)), (1, .int (iv (p)))] := hl
  have q := hI.gP p0 p1
  have n8 := hI.n8
  have sr := sunN_rng hI
  have b0 := nb_rng hI p (-1)
  have b1 := nb_rng hI p 1
  refine lv_aload_n X.1 X.2.1 dX1_fadesOf_0 rfl (lv_at hl 0 rfl) ?_
  refine lv_iload_n X.1 X.2.1 dX1_fadesOf_1 rfl (lv_at hl 1 rfl) ?_
  refine z_iconst X dX1_fadesOf_2 ?_
  refine z_pi (run_V (rest := []) X h (c_X1_neighbour (p := p) (d := (-1)) hR hI (by omega) (by omega) (by omega) (by omega)) mi_X1_neighbour ml_X1_86 ⟨Nat.le_of_ble_eq_true rfl, Nat.le_of_ble_eq_true rfl⟩ ⟨rfl, rfl⟩ (Seg.rfl' _) 1 0 rfl rfl rfl rfl hl.1 rfl (Nat.le_of_ble_eq_true rfl) ⟨Nat.zero_le _, Nat.zero_le _⟩ dX1_fadesOf_3) ?_
  refine z_if_lt (tgt := 22) X ⟨by omega, by omega⟩ dX1_fadesOf_6 (by decide) (fun c_6 => ?_) (fun c_6 => ?_)
  · refine z_iconst X dX1_fadesOf_22 ?_
    refine W.eq (g2 := F0 m 23 ls [.int (iv (bz (0 ≤ nb A p (-1) ∧ 0 ≤ nb A p 1)))]) (by rw [bz_f (P := 0 ≤ nb A p (-1) ∧ 0 ≤ nb A p 1) (by omega)]) ?_
    refine lv_istore_n (lv' := [(2, .int (iv (bz (0 ≤ nb A p (-1) ∧ 0 ≤ nb A p 1)))), (0, .ref (a 0)), (1, .int (iv (p)))]) X.1 X.2.1 dX1_fadesOf_23 rfl hl (by decide) rfl (fun ls hl => ?_)
    refine lv_aload_n X.1 X.2.1 dX1_fadesOf_24 rfl (lv_at hl 1 rfl) ?_
    refine z_get X h 1 0 4 rfl inX1 rfl (by decide) fl_X1_25 rfl dX1_fadesOf_25 ?_
    refine lv_iload_n X.1 X.2.1 dX1_fadesOf_28 rfl (lv_at hl 2 rfl) ?_
    refine z_iald (v := pr A 0 p) X h 3 rfl (by omega) (by omega) (by decide) (hR.2.2.1 p (by omega) (by omega)) dX1_fadesOf_29 ?_
    refine lv_aload_n X.1 X.2.1 dX1_fadesOf_30 rfl (lv_at hl 1 rfl) ?_
    refine z_pi (run_V (rest := [.int (iv (pr A 0 p))]) X h (c_X1_sunNow hR hI hh) mi_X1_sunNow ml_X1_90 ⟨Nat.le_of_ble_eq_true rfl, Nat.le_of_ble_eq_true rfl⟩ ⟨rfl, rfl⟩ (Seg.rfl' _) 1 0 rfl rfl rfl rfl hl.1 rfl (Nat.le_of_ble_eq_true rfl) ⟨Nat.zero_le _, Nat.zero_le _⟩ dX1_fadesOf_31) ?_
    refine lv_iload_n X.1 X.2.1 dX1_fadesOf_34 rfl (lv_at hl 0 rfl) ?_
    refine z_pi (run_S (rest := []) X h (c_X3_fades (k := pr A 0 p) (sn_ := sunN A) (P := 0 ≤ nb A p (-1) ∧ 0 ≤ nb A p 1) (by omega) (by omega) ⟨by omega, by omega⟩) mi_X3_fades ml_X1_93 ⟨Nat.le_of_ble_eq_true rfl, Nat.le_of_ble_eq_true rfl⟩ ⟨rfl, rfl⟩ (Seg.nil _) rfl hl.1 rfl (Nat.le_of_ble_eq_true rfl) ⟨Nat.zero_le _, Nat.zero_le _⟩ dX1_fadesOf_35) ?_
    exact ret _ _ _ (rfl) dX1_fadesOf_38
  · refine lv_aload_n X.1 X.2.1 dX1_fadesOf_9 rfl (lv_at hl 0 rfl) ?_
    refine lv_iload_n X.1 X.2.1 dX1_fadesOf_10 rfl (lv_at hl 1 rfl) ?_
    refine z_iconst X dX1_fadesOf_11 ?_
    refine z_pi (run_V (rest := []) X h (c_X1_neighbour (p := p) (d := 1) hR hI (by omega) (by omega) (by omega) (by omega)) mi_X1_neighbour ml_X1_86 ⟨Nat.le_of_ble_eq_true rfl, Nat.le_of_ble_eq_true rfl⟩ ⟨rfl, rfl⟩ (Seg.rfl' _) 1 0 rfl rfl rfl rfl hl.1 rfl (Nat.le_of_ble_eq_true rfl) ⟨Nat.zero_le _, Nat.zero_le _⟩ dX1_fadesOf_12) ?_
    refine z_if_lt (tgt := 22) X ⟨by omega, by omega⟩ dX1_fadesOf_15 (by decide) (fun c_15 => ?_) (fun c_15 => ?_)
    · refine z_iconst X dX1_fadesOf_22 ?_
      refine W.eq (g2 := F0 m 23 ls [.int (iv (bz (0 ≤ nb A p (-1) ∧ 0 ≤ nb A p 1)))]) (by rw [bz_f (P := 0 ≤ nb A p (-1) ∧ 0 ≤ nb A p 1) (by omega)]) ?_
      refine lv_istore_n (lv' := [(2, .int (iv (bz (0 ≤ nb A p (-1) ∧ 0 ≤ nb A p 1)))), (0, .ref (a 0)), (1, .int (iv (p)))]) X.1 X.2.1 dX1_fadesOf_23 rfl hl (by decide) rfl (fun ls hl => ?_)
      refine lv_aload_n X.1 X.2.1 dX1_fadesOf_24 rfl (lv_at hl 1 rfl) ?_
      refine z_get X h 1 0 4 rfl inX1 rfl (by decide) fl_X1_25 rfl dX1_fadesOf_25 ?_
      refine lv_iload_n X.1 X.2.1 dX1_fadesOf_28 rfl (lv_at hl 2 rfl) ?_
      refine z_iald (v := pr A 0 p) X h 3 rfl (by omega) (by omega) (by decide) (hR.2.2.1 p (by omega) (by omega)) dX1_fadesOf_29 ?_
      refine lv_aload_n X.1 X.2.1 dX1_fadesOf_30 rfl (lv_at hl 1 rfl) ?_
      refine z_pi (run_V (rest := [.int (iv (pr A 0 p))]) X h (c_X1_sunNow hR hI hh) mi_X1_sunNow ml_X1_90 ⟨Nat.le_of_ble_eq_true rfl, Nat.le_of_ble_eq_true rfl⟩ ⟨rfl, rfl⟩ (Seg.rfl' _) 1 0 rfl rfl rfl rfl hl.1 rfl (Nat.le_of_ble_eq_true rfl) ⟨Nat.zero_le _, Nat.zero_le _⟩ dX1_fadesOf_31) ?_
      refine lv_iload_n X.1 X.2.1 dX1_fadesOf_34 rfl (lv_at hl 0 rfl) ?_
      refine z_pi (run_S (rest := []) X h (c_X3_fades (k := pr A 0 p) (sn_ := sunN A) (P := 0 ≤ nb A p (-1) ∧ 0 ≤ nb A p 1) (by omega) (by omega) ⟨by omega, by omega⟩) mi_X3_fades ml_X1_93 ⟨Nat.le_of_ble_eq_true rfl, Nat.le_of_ble_eq_true rfl⟩ ⟨rfl, rfl⟩ (Seg.nil _) rfl hl.1 rfl (Nat.le_of_ble_eq_true rfl) ⟨Nat.zero_le _, Nat.zero_le _⟩ dX1_fadesOf_35) ?_
      exact ret _ _ _ (rfl) dX1_fadesOf_38
    · refine z_iconst X dX1_fadesOf_18 ?_
      refine lv_goto (tgt := 23) X.1 X.2.1 dX1_fadesOf_19 (by decide) ?_
      refine W.eq (g2 := F0 m 23 ls [.int (iv (bz (0 ≤ nb A p (-1) ∧ 0 ≤ nb A p 1)))]) (by rw [bz_t (P := 0 ≤ nb A p (-1) ∧ 0 ≤ nb A p 1) (by omega)]) ?_
      refine lv_istore_n (lv' := [(2, .int (iv (bz (0 ≤ nb A p (-1) ∧ 0 ≤ nb A p 1)))), (0, .ref (a 0)), (1, .int (iv (p)))]) X.1 X.2.1 dX1_fadesOf_23 rfl hl (by decide) rfl (fun ls hl => ?_)
      refine lv_aload_n X.1 X.2.1 dX1_fadesOf_24 rfl (lv_at hl 1 rfl) ?_
      refine z_get X h 1 0 4 rfl inX1 rfl (by decide) fl_X1_25 rfl dX1_fadesOf_25 ?_
      refine lv_iload_n X.1 X.2.1 dX1_fadesOf_28 rfl (lv_at hl 2 rfl) ?_
      refine z_iald (v := pr A 0 p) X h 3 rfl (by omega) (by omega) (by decide) (hR.2.2.1 p (by omega) (by omega)) dX1_fadesOf_29 ?_
      refine lv_aload_n X.1 X.2.1 dX1_fadesOf_30 rfl (lv_at hl 1 rfl) ?_
      refine z_pi (run_V (rest := [.int (iv (pr A 0 p))]) X h (c_X1_sunNow hR hI hh) mi_X1_sunNow ml_X1_90 ⟨Nat.le_of_ble_eq_true rfl, Nat.le_of_ble_eq_true rfl⟩ ⟨rfl, rfl⟩ (Seg.rfl' _) 1 0 rfl rfl rfl rfl hl.1 rfl (Nat.le_of_ble_eq_true rfl) ⟨Nat.zero_le _, Nat.zero_le _⟩ dX1_fadesOf_31) ?_
      refine lv_iload_n X.1 X.2.1 dX1_fadesOf_34 rfl (lv_at hl 0 rfl) ?_
      refine z_pi (run_S (rest := []) X h (c_X3_fades (k := pr A 0 p) (sn_ := sunN A) (P := 0 ≤ nb A p (-1) ∧ 0 ≤ nb A p 1) (by omega) (by omega) ⟨by omega, by omega⟩) mi_X3_fades ml_X1_93 ⟨Nat.le_of_ble_eq_true rfl, Nat.le_of_ble_eq_true rfl⟩ ⟨rfl, rfl⟩ (Seg.nil _) rfl hl.1 rfl (Nat.le_of_ble_eq_true rfl) ⟨Nat.zero_le _, Nat.zero_le _⟩ dX1_fadesOf_35) ?_
      exact ret _ _ _ (rfl) dX1_fadesOf_38

set_option maxHeartbeats 4000000 in
theorem c_X1_givenLeft (hR : RS (xs, xi, xk, xc, xl, xr, xb, yl, yr) A) (hI : IA A) (hh : hr A < 1000000) {p : Int} (p0 : 0 ≤ p) (p1 : p < pe A) : MP E l yX1_givenLeft cX1_givenLeft 3 (some FieldType.int) (rmk 2 45) (wS E a ((iv (hr A))) ((iv (pe A))) (xs, xi, xk, xc, xl, xr, xb, yl, yr)) [.ref (a 0), .int (iv (p))] (gvq A p (nb A p (-1)) 3) := by
  refine goP (by decide) (Nat.le_of_ble_eq_true rfl) ?_
  intro pp e s m below meth c ls args Q ret X h hl
  have hl : lv_has ls 3 [(0, .ref (a 0)), (1, .int (iv (p)))] := hl
  have q := hI.gP p0 p1
  have n8 := hI.n8
  have sr := sunN_rng hI
  have b0 := nb_rng hI p (-1)
  refine lv_aload_n X.1 X.2.1 dX1_givenLeft_0 rfl (lv_at hl 0 rfl) ?_
  refine lv_iload_n X.1 X.2.1 dX1_givenLeft_1 rfl (lv_at hl 1 rfl) ?_
  refine z_iconst X dX1_givenLeft_2 ?_
  refine z_pi (run_V (rest := []) X h (c_X1_neighbour (p := p) (d := (-1)) hR hI (by omega) (by omega) (by omega) (by omega)) mi_X1_neighbour ml_X1_86 ⟨Nat.le_of_ble_eq_true rfl, Nat.le_of_ble_eq_true rfl⟩ ⟨rfl, rfl⟩ (Seg.rfl' _) 1 0 rfl rfl rfl rfl hl.1 rfl (Nat.le_of_ble_eq_true rfl) ⟨Nat.zero_le _, Nat.zero_le _⟩ dX1_givenLeft_3) ?_
  refine lv_istore_n (lv' := [(2, .int (iv (nb A p ((-1))))), (0, .ref (a 0)), (1, .int (iv (p)))]) X.1 X.2.1 dX1_givenLeft_6 rfl hl (by decide) rfl (fun ls hl => ?_)
  refine lv_iload_n X.1 X.2.1 dX1_givenLeft_7 rfl (lv_at hl 0 rfl) ?_
  refine z_if_ge (tgt := 15) X ⟨by omega, by omega⟩ dX1_givenLeft_8 (by decide) (fun c_8 => ?_) (fun c_8 => ?_)
  · have qn := hI.gP (p := nb A p (-1)) (by omega) (by omega)
    refine lv_aload_n X.1 X.2.1 dX1_givenLeft_15 rfl (lv_at hl 1 rfl) ?_
    refine z_get X h 1 0 4 rfl inX1 rfl (by decide) fl_X1_25 rfl dX1_givenLeft_16 ?_
    refine lv_iload_n X.1 X.2.1 dX1_givenLeft_19 rfl (lv_at hl 0 rfl) ?_
    refine z_iald (v := pr A 0 (nb A p ((-1)))) X h 3 rfl (by omega) (by omega) (by decide) (hR.2.2.1 (nb A p ((-1))) (by omega) (by omega)) dX1_givenLeft_20 ?_
    refine lv_aload_n X.1 X.2.1 dX1_givenLeft_21 rfl (lv_at hl 1 rfl) ?_
    refine z_get X h 1 0 7 rfl inX1 rfl (by decide) fl_X1_34 rfl dX1_givenLeft_22 ?_
    refine lv_iload_n X.1 X.2.1 dX1_givenLeft_25 rfl (lv_at hl 0 rfl) ?_
    refine z_iald (v := pr A 3 (nb A p ((-1)))) X h 6 rfl (by omega) (by omega) (by decide) (hR.2.2.2.2.2.1 (nb A p ((-1))) (by omega) (by omega)) dX1_givenLeft_26 ?_
    refine lv_aload_n X.1 X.2.1 dX1_givenLeft_27 rfl (lv_at hl 1 rfl) ?_
    refine z_pi (run_V (rest := [.int (iv (pr A 3 (nb A p ((-1))))), .int (iv (pr A 0 (nb A p ((-1)))))]) X h (c_X1_sunNow hR hI hh) mi_X1_sunNow ml_X1_90 ⟨Nat.le_of_ble_eq_true rfl, Nat.le_of_ble_eq_true rfl⟩ ⟨rfl, rfl⟩ (Seg.rfl' _) 1 0 rfl rfl rfl rfl hl.1 rfl (Nat.le_of_ble_eq_true rfl) ⟨Nat.zero_le _, Nat.zero_le _⟩ dX1_givenLeft_28) ?_
    refine lv_aload_n X.1 X.2.1 dX1_givenLeft_31 rfl (lv_at hl 1 rfl) ?_
    refine z_get X h 1 0 4 rfl inX1 rfl (by decide) fl_X1_25 rfl dX1_givenLeft_32 ?_
    refine lv_iload_n X.1 X.2.1 dX1_givenLeft_35 rfl (lv_at hl 2 rfl) ?_
    refine z_iald (v := pr A 0 p) X h 3 rfl (by omega) (by omega) (by decide) (hR.2.2.1 p (by omega) (by omega)) dX1_givenLeft_36 ?_
    refine z_pi (run_S (rest := []) X h (c_X3_glows (k := pr A 0 (nb A p ((-1)))) (b := pr A 3 (nb A p ((-1)))) (u := sunN A) (t := pr A 0 p) (by omega) (by omega) (by omega) (by omega) (by omega) (by omega) (by omega) (by omega)) mi_X3_glows ml_X1_99 ⟨Nat.le_of_ble_eq_true rfl, Nat.le_of_ble_eq_true rfl⟩ ⟨rfl, rfl⟩ (Seg.nil _) rfl hl.1 rfl (Nat.le_of_ble_eq_true rfl) ⟨Nat.zero_le _, Nat.zero_le _⟩ dX1_givenLeft_37) ?_
    exact ret _ _ _ (by unfold gvq; first | rw [if_pos (by omega)] | rw [if_neg (by omega)]) dX1_givenLeft_40
  · refine z_iconst X dX1_givenLeft_11 ?_
    refine lv_goto (tgt := 40) X.1 X.2.1 dX1_givenLeft_12 (by decide) ?_
    exact ret _ _ _ (by unfold gvq; first | rw [if_pos (by omega)] | rw [if_neg (by omega)]) dX1_givenLeft_40

set_option maxHeartbeats 4000000 in
theorem c_X1_givenRight (hR : RS (xs, xi, xk, xc, xl, xr, xb, yl, yr) A) (hI : IA A) (hh : hr A < 1000000) {p : Int} (p0 : 0 ≤ p) (p1 : p < pe A) : MP E l yX1_givenRight cX1_givenRight 3 (some FieldType.int) (rmk 2 45) (wS E a ((iv (hr A))) ((iv (pe A))) (xs, xi, xk, xc, xl, xr, xb, yl, yr)) [.ref (a 0), .int (iv (p))] (gvq A p (nb A p 1) 2) := by
  refine goP (by decide) (Nat.le_of_ble_eq_true rfl) ?_
  intro pp e s m below meth c ls args Q ret X h hl
  have hl : lv_has ls 3 [(0, .ref (a 0)), (1, .int (iv (p)))] := hl
  have q := hI.gP p0 p1
  have n8 := hI.n8
  have sr := sunN_rng hI
  have b0 := nb_rng hI p 1
  refine lv_aload_n X.1 X.2.1 dX1_givenRight_0 rfl (lv_at hl 0 rfl) ?_
  refine lv_iload_n X.1 X.2.1 dX1_givenRight_1 rfl (lv_at hl 1 rfl) ?_
  refine z_iconst X dX1_givenRight_2 ?_
  refine z_pi (run_V (rest := []) X h (c_X1_neighbour (p := p) (d := 1) hR hI (by omega) (by omega) (by omega) (by omega)) mi_X1_neighbour ml_X1_86 ⟨Nat.le_of_ble_eq_true rfl, Nat.le_of_ble_eq_true rfl⟩ ⟨rfl, rfl⟩ (Seg.rfl' _) 1 0 rfl rfl rfl rfl hl.1 rfl (Nat.le_of_ble_eq_true rfl) ⟨Nat.zero_le _, Nat.zero_le _⟩ dX1_givenRight_3) ?_
  refine lv_istore_n (lv' := [(2, .int (iv (nb A p 1))), (0, .ref (a 0)), (1, .int (iv (p)))]) X.1 X.2.1 dX1_givenRight_6 rfl hl (by decide) rfl (fun ls hl => ?_)
  refine lv_iload_n X.1 X.2.1 dX1_givenRight_7 rfl (lv_at hl 0 rfl) ?_
  refine z_if_ge (tgt := 15) X ⟨by omega, by omega⟩ dX1_givenRight_8 (by decide) (fun c_8 => ?_) (fun c_8 => ?_)
  · have qn := hI.gP (p := nb A p 1) (by omega) (by omega)
    refine lv_aload_n X.1 X.2.1 dX1_givenRight_15 rfl (lv_at hl 1 rfl) ?_
    refine z_get X h 1 0 4 rfl inX1 rfl (by decide) fl_X1_25 rfl dX1_givenRight_16 ?_
    refine lv_iload_n X.1 X.2.1 dX1_givenRight_19 rfl (lv_at hl 0 rfl) ?_
    refine z_iald (v := pr A 0 (nb A p 1)) X h 3 rfl (by omega) (by omega) (by decide) (hR.2.2.1 (nb A p 1) (by omega) (by omega)) dX1_givenRight_20 ?_
    refine lv_aload_n X.1 X.2.1 dX1_givenRight_21 rfl (lv_at hl 1 rfl) ?_
    refine z_get X h 1 0 6 rfl inX1 rfl (by decide) fl_X1_31 rfl dX1_givenRight_22 ?_
    refine lv_iload_n X.1 X.2.1 dX1_givenRight_25 rfl (lv_at hl 0 rfl) ?_
    refine z_iald (v := pr A 2 (nb A p 1)) X h 5 rfl (by omega) (by omega) (by decide) (hR.2.2.2.2.1 (nb A p 1) (by omega) (by omega)) dX1_givenRight_26 ?_
    refine lv_aload_n X.1 X.2.1 dX1_givenRight_27 rfl (lv_at hl 1 rfl) ?_
    refine z_pi (run_V (rest := [.int (iv (pr A 2 (nb A p 1))), .int (iv (pr A 0 (nb A p 1)))]) X h (c_X1_sunNow hR hI hh) mi_X1_sunNow ml_X1_90 ⟨Nat.le_of_ble_eq_true rfl, Nat.le_of_ble_eq_true rfl⟩ ⟨rfl, rfl⟩ (Seg.rfl' _) 1 0 rfl rfl rfl rfl hl.1 rfl (Nat.le_of_ble_eq_true rfl) ⟨Nat.zero_le _, Nat.zero_le _⟩ dX1_givenRight_28) ?_
    refine lv_aload_n X.1 X.2.1 dX1_givenRight_31 rfl (lv_at hl 1 rfl) ?_
    refine z_get X h 1 0 4 rfl inX1 rfl (by decide) fl_X1_25 rfl dX1_givenRight_32 ?_
    refine lv_iload_n X.1 X.2.1 dX1_givenRight_35 rfl (lv_at hl 2 rfl) ?_
    refine z_iald (v := pr A 0 p) X h 3 rfl (by omega) (by omega) (by decide) (hR.2.2.1 p (by omega) (by omega)) dX1_givenRight_36 ?_
    refine z_pi (run_S (rest := []) X h (c_X3_glows (k := pr A 0 (nb A p 1)) (b := pr A 2 (nb A p 1)) (u := sunN A) (t := pr A 0 p) (by omega) (by omega) (by omega) (by omega) (by omega) (by omega) (by omega) (by omega)) mi_X3_glows ml_X1_99 ⟨Nat.le_of_ble_eq_true rfl, Nat.le_of_ble_eq_true rfl⟩ ⟨rfl, rfl⟩ (Seg.nil _) rfl hl.1 rfl (Nat.le_of_ble_eq_true rfl) ⟨Nat.zero_le _, Nat.zero_le _⟩ dX1_givenRight_37) ?_
    exact ret _ _ _ (by unfold gvq; first | rw [if_pos (by omega)] | rw [if_neg (by omega)]) dX1_givenRight_40
  · refine z_iconst X dX1_givenRight_11 ?_
    refine lv_goto (tgt := 40) X.1 X.2.1 dX1_givenRight_12 (by decide) ?_
    exact ret _ _ _ (by unfold gvq; first | rw [if_pos (by omega)] | rw [if_neg (by omega)]) dX1_givenRight_40

set_option maxHeartbeats 4000000 in
theorem c_X1_burntOfAll (hR : RS (xs, xi, xk, xc, xl, xr, xb, yl, yr) A) (hI : IA A) : MP E l yX1_burntOfAll cX1_burntOfAll 3 (some FieldType.int) (rmk 0 0) (wS E a ((iv (hr A))) ((iv (pe A))) (xs, xi, xk, xc, xl, xr, xb, yl, yr)) [.ref (a 0)] (sums A 4) := by
  refine goP (by decide) (Nat.le_of_ble_eq_true rfl) ?_
  intro pp e s m below meth c ls args Q ret X h hl
  have hl : lv_has ls 3 [(0, .ref (a 0))] := hl
  have n8 := hI.n8
  have n0 := hI.n0
  refine z_iconst X dX1_burntOfAll_0 ?_
  refine lv_istore_n (lv' := [(1, .int (iv (0))), (0, .ref (a 0))]) X.1 X.2.1 dX1_burntOfAll_1 rfl hl (by decide) rfl (fun ls hl => ?_)
  refine z_iconst X dX1_burntOfAll_2 ?_
  refine lv_istore_n (lv' := [(2, .int (iv (0))), (1, .int (iv (0))), (0, .ref (a 0))]) X.1 X.2.1 dX1_burntOfAll_3 rfl hl (by decide) rfl (fun ls hl => ?_)
  have L4 : ∀ (fuel_ : Nat) (i : Int) (w : Int), (0 ≤ i) → (i ≤ pe A) → (w = sumk A 4 i.toNat) → pe A - i < (fuel_ : Int) → ∀ ls : Array Slot, lv_has ls 3 [(0, .ref (a 0)), (1, .int (iv (w))), (2, .int (iv (i)))] → W pp l e (rmk 0 0) s m args below meth c s.heap [] 0 0 Q (F0 m 4 ls []) := by
    intro fuel_
    induction fuel_ with
    | zero =>
      intro i w i0 i1 hw hn
      exfalso; omega
    | succ fuel_ ih =>
      intro i w i0 i1 hw hn ls hl
      refine lv_iload_n X.1 X.2.1 dX1_burntOfAll_4 rfl (lv_at hl 2 rfl) ?_
      refine lv_aload_n X.1 X.2.1 dX1_burntOfAll_5 rfl (lv_at hl 0 rfl) ?_
      refine z_get X h 1 0 1 rfl inX1 rfl (by decide) fl_X1_15 rfl dX1_burntOfAll_6 ?_
      refine z_ic_ge (tgt := 27) X ⟨by omega, by omega⟩ ⟨by omega, by omega⟩ dX1_burntOfAll_9 (by decide) (fun c_9 => ?_) (fun c_9 => ?_)
      · refine lv_iload_n X.1 X.2.1 dX1_burntOfAll_27 rfl (lv_at hl 1 rfl) ?_
        exact ret _ _ _ (by rw [hw, sums, show i = pe A by omega]) dX1_burntOfAll_28
      · refine lv_iload_n X.1 X.2.1 dX1_burntOfAll_12 rfl (lv_at hl 1 rfl) ?_
        refine lv_aload_n X.1 X.2.1 dX1_burntOfAll_13 rfl (lv_at hl 0 rfl) ?_
        refine z_get X h 1 0 8 rfl inX1 rfl (by decide) fl_X1_37 rfl dX1_burntOfAll_14 ?_
        refine lv_iload_n X.1 X.2.1 dX1_burntOfAll_17 rfl (lv_at hl 2 rfl) ?_
        refine z_iald (v := pr A 4 i) X h 7 rfl (by omega) (by omega) (by decide) (hR.2.2.2.2.2.2 i (by omega) (by omega)) dX1_burntOfAll_18 ?_
        refine z_iadd X dX1_burntOfAll_19 ?_
        refine lv_istore_n (lv' := [(1, .int (iv (w + (pr A 4 i)))), (0, .ref (a 0)), (2, .int (iv (i)))]) X.1 X.2.1 dX1_burntOfAll_20 rfl hl (by decide) rfl (fun ls hl => ?_)
        refine z_iinc (k := 2) (lv' := [(2, .int (iv (i + 1))), (1, .int (iv (w + (pr A 4 i)))), (0, .ref (a 0))]) X dX1_burntOfAll_21 hl rfl (by decide) rfl (fun ls hl => ?_)
        refine lv_goto (tgt := 4) X.1 X.2.1 dX1_burntOfAll_24 (by decide) ?_
        exact ih (i + 1) (w + (pr A 4 i)) (by omega) (by omega) (by rw [tn1 i0, sumk, tnc i0]; rw [hw]) (by omega) ls (lv_sub hl [2, 1, 0] rfl)
  exact L4 ((pe A - (0) : Int).toNat + 1) (0) (0) (by omega) (by omega) (rfl) (by omega) ls (lv_sub hl [2, 1, 0] rfl)

set_option maxHeartbeats 4000000 in
theorem c_X1_sunOfAll (hR : RS (xs, xi, xk, xc, xl, xr, xb, yl, yr) A) (hI : IA A) : MP E l yX1_sunOfAll cX1_sunOfAll 3 (some FieldType.int) (rmk 0 0) (wS E a ((iv (hr A))) ((iv (pe A))) (xs, xi, xk, xc, xl, xr, xb, yl, yr)) [.ref (a 0)] (allS A) := by
  refine goP (by decide) (Nat.le_of_ble_eq_true rfl) ?_
  intro pp e s m below meth c ls args Q ret X h hl
  have hl : lv_has ls 3 [(0, .ref (a 0))] := hl
  have n8 := hI.n8
  have n0 := hI.n0
  refine z_iconst X dX1_sunOfAll_0 ?_
  refine lv_istore_n (lv' := [(1, .int (iv (0))), (0, .ref (a 0))]) X.1 X.2.1 dX1_sunOfAll_1 rfl hl (by decide) rfl (fun ls hl => ?_)
  refine z_iconst X dX1_sunOfAll_2 ?_
  refine lv_istore_n (lv' := [(2, .int (iv (0))), (1, .int (iv (0))), (0, .ref (a 0))]) X.1 X.2.1 dX1_sunOfAll_3 rfl hl (by decide) rfl (fun ls hl => ?_)
  have L4 : ∀ (fuel_ : Nat) (i : Int) (w : Int), (0 ≤ i) → (i ≤ 10) → (w = sunk A i.toNat) → 10 - i < (fuel_ : Int) → ∀ ls : Array Slot, lv_has ls 3 [(0, .ref (a 0)), (1, .int (iv (w))), (2, .int (iv (i)))] → W pp l e (rmk 0 0) s m args below meth c s.heap [] 0 0 Q (F0 m 4 ls []) := by
    intro fuel_
    induction fuel_ with
    | zero =>
      intro i w i0 i1 hw hn
      exfalso; omega
    | succ fuel_ ih =>
      intro i w i0 i1 hw hn ls hl
      refine lv_iload_n X.1 X.2.1 dX1_sunOfAll_4 rfl (lv_at hl 2 rfl) ?_
      refine z_bipush X (by decide) dX1_sunOfAll_5 ?_
      refine z_ic_ge (tgt := 25) X ⟨by omega, by omega⟩ ⟨by decide, by decide⟩ dX1_sunOfAll_7 (by decide) (fun c_7 => ?_) (fun c_7 => ?_)
      · refine lv_iload_n X.1 X.2.1 dX1_sunOfAll_25 rfl (lv_at hl 1 rfl) ?_
        exact ret _ _ _ (by rw [hw, allS, show i = 10 by omega]; rfl) dX1_sunOfAll_26
      · refine lv_iload_n X.1 X.2.1 dX1_sunOfAll_10 rfl (lv_at hl 1 rfl) ?_
        refine lv_aload_n X.1 X.2.1 dX1_sunOfAll_11 rfl (lv_at hl 0 rfl) ?_
        refine z_get X h 1 0 2 rfl inX1 rfl (by decide) fl_X1_18 rfl dX1_sunOfAll_12 ?_
        refine lv_iload_n X.1 X.2.1 dX1_sunOfAll_15 rfl (lv_at hl 2 rfl) ?_
        refine z_iald (v := sn A i) X h 1 rfl (by omega) (by omega) (by decide) (hR.1 i (by omega) (by omega)) dX1_sunOfAll_16 ?_
        refine z_iadd X dX1_sunOfAll_17 ?_
        refine lv_istore_n (lv' := [(1, .int (iv (w + (sn A i)))), (0, .ref (a 0)), (2, .int (iv (i)))]) X.1 X.2.1 dX1_sunOfAll_18 rfl hl (by decide) rfl (fun ls hl => ?_)
        refine z_iinc (k := 2) (lv' := [(2, .int (iv (i + 1))), (1, .int (iv (w + (sn A i)))), (0, .ref (a 0))]) X dX1_sunOfAll_19 hl rfl (by decide) rfl (fun ls hl => ?_)
        refine lv_goto (tgt := 4) X.1 X.2.1 dX1_sunOfAll_22 (by decide) ?_
        exact ih (i + 1) (w + (sn A i)) (by omega) (by omega) (by rw [tn1 i0, sunk, tnc i0]; rw [hw]) (by omega) ls (lv_sub hl [2, 1, 0] rfl)
  exact L4 ((10 - (0) : Int).toNat + 1) (0) (0) (by omega) (by omega) (rfl) (by omega) ls (lv_sub hl [2, 1, 0] rfl)

set_option maxHeartbeats 4000000 in
theorem c_X1_brownOfAll (hR : RS (xs, xi, xk, xc, xl, xr, xb, yl, yr) A) (hI : IA A) : MP E l yX1_brownOfAll cX1_brownOfAll 3 (some FieldType.int) (rmk 1 21) (wS E a ((iv (hr A))) ((iv (pe A))) (xs, xi, xk, xc, xl, xr, xb, yl, yr)) [.ref (a 0)] (allB A) := by
  refine goP (by decide) (Nat.le_of_ble_eq_true rfl) ?_
  intro pp e s m below meth c ls args Q ret X h hl
  have hl : lv_has ls 3 [(0, .ref (a 0))] := hl
  have n8 := hI.n8
  have n0 := hI.n0
  refine z_iconst X dX1_brownOfAll_0 ?_
  refine lv_istore_n (lv' := [(1, .int (iv (0))), (0, .ref (a 0))]) X.1 X.2.1 dX1_brownOfAll_1 rfl hl (by decide) rfl (fun ls hl => ?_)
  refine z_iconst X dX1_brownOfAll_2 ?_
  refine lv_istore_n (lv' := [(2, .int (iv (0))), (1, .int (iv (0))), (0, .ref (a 0))]) X.1 X.2.1 dX1_brownOfAll_3 rfl hl (by decide) rfl (fun ls hl => ?_)
  have L4 : ∀ (fuel_ : Nat) (i : Int) (w : Int), (0 ≤ i) → (i ≤ pe A) → (w = sum2 A i.toNat) → pe A - i < (fuel_ : Int) → ∀ ls : Array Slot, lv_has ls 3 [(0, .ref (a 0)), (1, .int (iv (w))), (2, .int (iv (i)))] → W pp l e (rmk 1 21) s m args below meth c s.heap [] 0 0 Q (F0 m 4 ls []) := by
    intro fuel_
    induction fuel_ with
    | zero =>
      intro i w i0 i1 hw hn
      exfalso; omega
    | succ fuel_ ih =>
      intro i w i0 i1 hw hn ls hl
      refine lv_iload_n X.1 X.2.1 dX1_brownOfAll_4 rfl (lv_at hl 2 rfl) ?_
      refine lv_aload_n X.1 X.2.1 dX1_brownOfAll_5 rfl (lv_at hl 0 rfl) ?_
      refine z_get X h 1 0 1 rfl inX1 rfl (by decide) fl_X1_15 rfl dX1_brownOfAll_6 ?_
      refine z_ic_ge (tgt := 26) X ⟨by omega, by omega⟩ ⟨by omega, by omega⟩ dX1_brownOfAll_9 (by decide) (fun c_9 => ?_) (fun c_9 => ?_)
      · refine lv_iload_n X.1 X.2.1 dX1_brownOfAll_26 rfl (lv_at hl 1 rfl) ?_
        exact ret _ _ _ (by rw [hw, sum2_eq, allB, sums, sums, show i = pe A by omega]) dX1_brownOfAll_27
      · refine lv_iload_n X.1 X.2.1 dX1_brownOfAll_12 rfl (lv_at hl 1 rfl) ?_
        refine lv_aload_n X.1 X.2.1 dX1_brownOfAll_13 rfl (lv_at hl 0 rfl) ?_
        refine lv_iload_n X.1 X.2.1 dX1_brownOfAll_14 rfl (lv_at hl 2 rfl) ?_
        refine z_pi (run_V (rest := [.int (iv (w))]) X h (c_X1_brownOf (p := i) hR hI (by omega) (by omega)) mi_X1_brownOf ml_X1_83 ⟨Nat.le_of_ble_eq_true rfl, Nat.le_of_ble_eq_true rfl⟩ ⟨rfl, rfl⟩ (Seg.rfl' _) 1 0 rfl rfl rfl rfl hl.1 rfl (Nat.le_of_ble_eq_true rfl) ⟨Nat.zero_le _, Nat.zero_le _⟩ dX1_brownOfAll_15) ?_
        refine z_iadd X dX1_brownOfAll_18 ?_
        refine lv_istore_n (lv' := [(1, .int (iv (w + (brn A i)))), (0, .ref (a 0)), (2, .int (iv (i)))]) X.1 X.2.1 dX1_brownOfAll_19 rfl hl (by decide) rfl (fun ls hl => ?_)
        refine z_iinc (k := 2) (lv' := [(2, .int (iv (i + 1))), (1, .int (iv (w + (brn A i)))), (0, .ref (a 0))]) X dX1_brownOfAll_20 hl rfl (by decide) rfl (fun ls hl => ?_)
        refine lv_goto (tgt := 4) X.1 X.2.1 dX1_brownOfAll_23 (by decide) ?_
        exact ih (i + 1) (w + (brn A i)) (by omega) (by omega) (by rw [tn1 i0, sum2, tnc i0]; rw [hw]) (by omega) ls (lv_sub hl [2, 1, 0] rfl)
  exact L4 ((pe A - (0) : Int).toNat + 1) (0) (0) (by omega) (by omega) (rfl) (by omega) ls (lv_sub hl [2, 1, 0] rfl)

set_option maxHeartbeats 4000000 in
theorem c_X1_setOfSitters (hR : RS (xs, xi, xk, xc, xl, xr, xb, yl, yr) A) (hI : IA A) : MP E l yX1_setOfSitters cX1_setOfSitters 3 (some FieldType.int) (rmk 1 21) (wS E a ((iv (hr A))) ((iv (pe A))) (xs, xi, xk, xc, xl, xr, xb, yl, yr)) [.ref (a 0)] (setS A) := by
  refine goP (by decide) (Nat.le_of_ble_eq_true rfl) ?_
  intro pp e s m below meth c ls args Q ret X h hl
  have hl : lv_has ls 3 [(0, .ref (a 0))] := hl
  have n8 := hI.n8
  have n0 := hI.n0
  refine z_iconst X dX1_setOfSitters_0 ?_
  refine lv_istore_n (lv' := [(1, .int (iv (0))), (0, .ref (a 0))]) X.1 X.2.1 dX1_setOfSitters_1 rfl hl (by decide) rfl (fun ls hl => ?_)
  refine z_iconst X dX1_setOfSitters_2 ?_
  refine lv_istore_n (lv' := [(2, .int (iv (0))), (1, .int (iv (0))), (0, .ref (a 0))]) X.1 X.2.1 dX1_setOfSitters_3 rfl hl (by decide) rfl (fun ls hl => ?_)
  have L4 : ∀ (fuel_ : Nat) (i : Int) (w : Int32), (0 ≤ i) → (i ≤ pe A) → (w = bset (sitB A) i.toNat) → pe A - i < (fuel_ : Int) → ∀ ls : Array Slot, lv_has ls 3 [(0, .ref (a 0)), (1, .int (w)), (2, .int (iv (i)))] → W pp l e (rmk 1 21) s m args below meth c s.heap [] 0 0 Q (F0 m 4 ls []) := by
    intro fuel_
    induction fuel_ with
    | zero =>
      intro i w i0 i1 hw hn
      exfalso; omega
    | succ fuel_ ih =>
      intro i w i0 i1 hw hn ls hl
      refine lv_iload_n X.1 X.2.1 dX1_setOfSitters_4 rfl (lv_at hl 2 rfl) ?_
      refine lv_aload_n X.1 X.2.1 dX1_setOfSitters_5 rfl (lv_at hl 0 rfl) ?_
      refine z_get X h 1 0 1 rfl inX1 rfl (by decide) fl_X1_15 rfl dX1_setOfSitters_6 ?_
      refine z_ic_ge (tgt := 32) X ⟨by omega, by omega⟩ ⟨by omega, by omega⟩ dX1_setOfSitters_9 (by decide) (fun c_9 => ?_) (fun c_9 => ?_)
      · refine lv_iload_n X.1 X.2.1 dX1_setOfSitters_32 rfl (lv_at hl 1 rfl) ?_
        refine W.eq (g2 := F0 m 33 ls [.int (iv (w).toInt)]) (by rw [iv_of]) ?_
        exact ret _ _ _ (by rw [hw, setS, show i = pe A by omega]) dX1_setOfSitters_33
      · refine lv_aload_n X.1 X.2.1 dX1_setOfSitters_12 rfl (lv_at hl 0 rfl) ?_
        refine lv_iload_n X.1 X.2.1 dX1_setOfSitters_13 rfl (lv_at hl 2 rfl) ?_
        refine z_pi (run_V (rest := []) X h (c_X1_sits (p := i) hR hI (by omega) (by omega)) mi_X1_sits ml_X1_66 ⟨Nat.le_of_ble_eq_true rfl, Nat.le_of_ble_eq_true rfl⟩ ⟨rfl, rfl⟩ (Seg.rfl' _) 1 0 rfl rfl rfl rfl hl.1 rfl (Nat.le_of_ble_eq_true rfl) ⟨Nat.zero_le _, Nat.zero_le _⟩ dX1_setOfSitters_14) ?_
        refine z_ifb_eq (tgt := 26) X dX1_setOfSitters_17 (by decide) (fun c_17 => ?_) (fun c_17 => ?_)
        · refine z_iinc (k := 2) (lv' := [(2, .int (iv (i + 1))), (0, .ref (a 0)), (1, .int (w))]) X dX1_setOfSitters_26 hl rfl (by decide) rfl (fun ls hl => ?_)
          refine lv_goto (tgt := 4) X.1 X.2.1 dX1_setOfSitters_29 (by decide) ?_
          exact ih (i + 1) (w) (by omega) (by omega) (by rw [tn1 i0, bset, tnc i0]; rw [hw]; first | (rw [if_pos (by simp [sitB]; omega)]; done) | (rw [if_neg (by simp [sitB]; omega), bor0])) (by omega) ls (lv_sub hl [1, 2, 0] rfl)
        · refine lv_iload_n X.1 X.2.1 dX1_setOfSitters_20 rfl (lv_at hl 1 rfl) ?_
          refine z_iconst X dX1_setOfSitters_21 ?_
          refine lv_iload_n X.1 X.2.1 dX1_setOfSitters_22 rfl (lv_at hl 2 rfl) ?_
          refine lv_ishl X.1 X.2.1 dX1_setOfSitters_23 ?_
          refine lv_ior X.1 X.2.1 dX1_setOfSitters_24 ?_
          refine lv_istore_n (lv' := [(1, .int ((w) ||| (iv (1) <<< (iv (i) &&& 31)))), (0, .ref (a 0)), (2, .int (iv (i)))]) X.1 X.2.1 dX1_setOfSitters_25 rfl hl (by decide) rfl (fun ls hl => ?_)
          refine z_iinc (k := 2) (lv' := [(2, .int (iv (i + 1))), (1, .int ((w) ||| (iv (1) <<< (iv (i) &&& 31)))), (0, .ref (a 0))]) X dX1_setOfSitters_26 hl rfl (by decide) rfl (fun ls hl => ?_)
          refine lv_goto (tgt := 4) X.1 X.2.1 dX1_setOfSitters_29 (by decide) ?_
          exact ih (i + 1) ((w) ||| (iv (1) <<< (iv (i) &&& 31))) (by omega) (by omega) (by rw [tn1 i0, bset, tnc i0]; rw [hw]; first | (rw [if_pos (by simp [sitB]; omega)]; done) | (rw [if_neg (by simp [sitB]; omega), bor0])) (by omega) ls (lv_sub hl [2, 1, 0] rfl)
  exact L4 ((pe A - (0) : Int).toNat + 1) (0) (iv 0) (by omega) (by omega) (rfl) (by omega) ls (lv_sub hl [2, 1, 0] rfl)

set_option maxHeartbeats 4000000 in
theorem c_X1_setOfEven (hR : RS (xs, xi, xk, xc, xl, xr, xb, yl, yr) A) (hI : IA A) : MP E l yX1_setOfEven cX1_setOfEven 3 (some FieldType.int) (rmk 2 41) (wS E a ((iv (hr A))) ((iv (pe A))) (xs, xi, xk, xc, xl, xr, xb, yl, yr)) [.ref (a 0)] (setE A) := by
  refine goP (by decide) (Nat.le_of_ble_eq_true rfl) ?_
  intro pp e s m below meth c ls args Q ret X h hl
  have hl : lv_has ls 3 [(0, .ref (a 0))] := hl
  have n8 := hI.n8
  have n0 := hI.n0
  refine z_iconst X dX1_setOfEven_0 ?_
  refine lv_istore_n (lv' := [(1, .int (iv (0))), (0, .ref (a 0))]) X.1 X.2.1 dX1_setOfEven_1 rfl hl (by decide) rfl (fun ls hl => ?_)
  refine z_iconst X dX1_setOfEven_2 ?_
  refine lv_istore_n (lv' := [(2, .int (iv (0))), (1, .int (iv (0))), (0, .ref (a 0))]) X.1 X.2.1 dX1_setOfEven_3 rfl hl (by decide) rfl (fun ls hl => ?_)
  have L4 : ∀ (fuel_ : Nat) (i : Int) (w : Int32), (0 ≤ i) → (i ≤ pe A) → (w = bset (evB A) i.toNat) → pe A - i < (fuel_ : Int) → ∀ ls : Array Slot, lv_has ls 3 [(0, .ref (a 0)), (1, .int (w)), (2, .int (iv (i)))] → W pp l e (rmk 2 41) s m args below meth c s.heap [] 0 0 Q (F0 m 4 ls []) := by
    intro fuel_
    induction fuel_ with
    | zero =>
      intro i w i0 i1 hw hn
      exfalso; omega
    | succ fuel_ ih =>
      intro i w i0 i1 hw hn ls hl
      refine lv_iload_n X.1 X.2.1 dX1_setOfEven_4 rfl (lv_at hl 2 rfl) ?_
      refine lv_aload_n X.1 X.2.1 dX1_setOfEven_5 rfl (lv_at hl 0 rfl) ?_
      refine z_get X h 1 0 1 rfl inX1 rfl (by decide) fl_X1_15 rfl dX1_setOfEven_6 ?_
      refine z_ic_ge (tgt := 32) X ⟨by omega, by omega⟩ ⟨by omega, by omega⟩ dX1_setOfEven_9 (by decide) (fun c_9 => ?_) (fun c_9 => ?_)
      · refine lv_iload_n X.1 X.2.1 dX1_setOfEven_32 rfl (lv_at hl 1 rfl) ?_
        refine W.eq (g2 := F0 m 33 ls [.int (iv (w).toInt)]) (by rw [iv_of]) ?_
        exact ret _ _ _ (by rw [hw, setE, show i = pe A by omega]) dX1_setOfEven_33
      · refine lv_aload_n X.1 X.2.1 dX1_setOfEven_12 rfl (lv_at hl 0 rfl) ?_
        refine lv_iload_n X.1 X.2.1 dX1_setOfEven_13 rfl (lv_at hl 2 rfl) ?_
        refine z_pi (run_V (rest := []) X h (c_X1_isEven (p := i) hR hI (by omega) (by omega)) mi_X1_isEven ml_X1_74 ⟨Nat.le_of_ble_eq_true rfl, Nat.le_of_ble_eq_true rfl⟩ ⟨rfl, rfl⟩ (Seg.rfl' _) 1 0 rfl rfl rfl rfl hl.1 rfl (Nat.le_of_ble_eq_true rfl) ⟨Nat.zero_le _, Nat.zero_le _⟩ dX1_setOfEven_14) ?_
        refine z_ifb_eq (tgt := 26) X dX1_setOfEven_17 (by decide) (fun c_17 => ?_) (fun c_17 => ?_)
        · refine z_iinc (k := 2) (lv' := [(2, .int (iv (i + 1))), (0, .ref (a 0)), (1, .int (w))]) X dX1_setOfEven_26 hl rfl (by decide) rfl (fun ls hl => ?_)
          refine lv_goto (tgt := 4) X.1 X.2.1 dX1_setOfEven_29 (by decide) ?_
          exact ih (i + 1) (w) (by omega) (by omega) (by rw [tn1 i0, bset, tnc i0]; rw [hw]; first | (rw [if_pos (by assumption)]; done) | (rw [if_neg (by assumption), bor0])) (by omega) ls (lv_sub hl [1, 2, 0] rfl)
        · refine lv_iload_n X.1 X.2.1 dX1_setOfEven_20 rfl (lv_at hl 1 rfl) ?_
          refine z_iconst X dX1_setOfEven_21 ?_
          refine lv_iload_n X.1 X.2.1 dX1_setOfEven_22 rfl (lv_at hl 2 rfl) ?_
          refine lv_ishl X.1 X.2.1 dX1_setOfEven_23 ?_
          refine lv_ior X.1 X.2.1 dX1_setOfEven_24 ?_
          refine lv_istore_n (lv' := [(1, .int ((w) ||| (iv (1) <<< (iv (i) &&& 31)))), (0, .ref (a 0)), (2, .int (iv (i)))]) X.1 X.2.1 dX1_setOfEven_25 rfl hl (by decide) rfl (fun ls hl => ?_)
          refine z_iinc (k := 2) (lv' := [(2, .int (iv (i + 1))), (1, .int ((w) ||| (iv (1) <<< (iv (i) &&& 31)))), (0, .ref (a 0))]) X dX1_setOfEven_26 hl rfl (by decide) rfl (fun ls hl => ?_)
          refine lv_goto (tgt := 4) X.1 X.2.1 dX1_setOfEven_29 (by decide) ?_
          exact ih (i + 1) ((w) ||| (iv (1) <<< (iv (i) &&& 31))) (by omega) (by omega) (by rw [tn1 i0, bset, tnc i0]; rw [hw]; first | (rw [if_pos (by assumption)]; done) | (rw [if_neg (by assumption), bor0])) (by omega) ls (lv_sub hl [2, 1, 0] rfl)
  exact L4 ((pe A - (0) : Int).toNat + 1) (0) (iv 0) (by omega) (by omega) (rfl) (by omega) ls (lv_sub hl [2, 1, 0] rfl)

set_option maxHeartbeats 4000000 in
theorem c_X1_browned (hR : RS (xs, xi, xk, xc, xl, xr, xb, yl, yr) A) (hI : IA A) {p : Int} (p0 : 0 ≤ p) (p1 : p < pe A) {b gi f : Int} (b0 : 0 ≤ b) (b1 : b ≤ 200) (g0 : 0 ≤ gi) (g1 : gi ≤ 13) (f0 : 0 ≤ f) (f1 : f ≤ 2) : MP E l yX1_browned cX1_browned 6 (some FieldType.int) (rmk 1 21) (wS E a ((iv (hr A))) ((iv (pe A))) (xs, xi, xk, xc, xl, xr, xb, yl, yr)) [.ref (a 0), .int (iv (p)), .int (iv (b)), .int (iv (gi)), .int (iv (f))] (held (b + take (pr A 0 p) gi - f) 0 200) := by
  refine goP (by decide) (Nat.le_of_ble_eq_true rfl) ?_
  intro pp e s m below meth c ls args Q ret X h hl
  have hl : lv_has ls 6 [(0, .ref (a 0)), (1, .int (iv (p))), (2, .int (iv (b))), (3, .int (iv (gi))), (4, .int (iv (f)))] := hl
  have q := hI.gP p0 p1
  have n8 := hI.n8
  have tr := take_rng (k := pr A 0 p) g0 g1
  refine lv_iload_n X.1 X.2.1 dX1_browned_0 rfl (lv_at hl 2 rfl) ?_
  refine lv_aload_n X.1 X.2.1 dX1_browned_1 rfl (lv_at hl 0 rfl) ?_
  refine z_get X h 1 0 4 rfl inX1 rfl (by decide) fl_X1_25 rfl dX1_browned_2 ?_
  refine lv_iload_n X.1 X.2.1 dX1_browned_5 rfl (lv_at hl 1 rfl) ?_
  refine z_iald (v := pr A 0 p) X h 3 rfl (by omega) (by omega) (by decide) (hR.2.2.1 p (by omega) (by omega)) dX1_browned_6 ?_
  refine lv_iload_n X.1 X.2.1 dX1_browned_7 rfl (lv_at hl 3 rfl) ?_
  refine z_pi (run_S (rest := [.int (iv (b))]) X h (c_X3_takes (k := pr A 0 p) (gi := gi) (by omega) (by omega) (by omega) (by omega)) mi_X3_takes ml_X1_121 ⟨Nat.le_of_ble_eq_true rfl, Nat.le_of_ble_eq_true rfl⟩ ⟨rfl, rfl⟩ (Seg.nil _) rfl hl.1 rfl (Nat.le_of_ble_eq_true rfl) ⟨Nat.zero_le _, Nat.zero_le _⟩ dX1_browned_8) ?_
  refine z_iadd X dX1_browned_11 ?_
  refine lv_iload X.1 X.2.1 dX1_browned_12 (lv_at hl 4 rfl) ?_
  refine z_isub X dX1_browned_14 ?_
  refine lv_istore (lv' := [(5, .int (iv (b + (take (pr A 0 p) gi) - f))), (0, .ref (a 0)), (1, .int (iv (p))), (2, .int (iv (b))), (3, .int (iv (gi))), (4, .int (iv (f)))]) X.1 X.2.1 dX1_browned_15 hl (by decide) rfl (fun ls hl => ?_)
  refine z_iconst X dX1_browned_17 ?_
  refine z_sipush X (by decide) dX1_browned_18 ?_
  refine lv_iload X.1 X.2.1 dX1_browned_21 (lv_at hl 0 rfl) ?_
  refine z_mmin X ⟨by decide, by decide⟩ ⟨by omega, by omega⟩ ml_X1_124 (Nat.le_of_ble_eq_true rfl) (Nat.le_of_ble_eq_true rfl) (Nat.zero_le _) (Nat.zero_le _) hl.1 dX1_browned_23 ?_
  refine z_mmax X ⟨by decide, by decide⟩ ⟨by omega, by omega⟩ ml_X1_127 (Nat.le_of_ble_eq_true rfl) (Nat.le_of_ble_eq_true rfl) (Nat.zero_le _) (Nat.zero_le _) hl.1 dX1_browned_26 ?_
  exact ret _ _ _ (by unfold held; (repeat' split) <;> omega) dX1_browned_29
