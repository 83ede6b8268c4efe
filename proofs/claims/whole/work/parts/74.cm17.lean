variable {E : EV} {l : Launch}
set_option maxHeartbeats 4000000 in
theorem c_J3_checkIndex_N {j9 n9 : Int} (j0 : 0 ≤ j9) (j1 : j9 < n9) (rn : n9 < 2147483648) : MP E l yJ3_checkIndex_8e157 cJ3_checkIndex_8e157 3 (some FieldType.int) (rmk 0 0) ([]) [.int (iv (j9)), .int (iv (n9)), .null] (j9) := by
  refine goP (by decide) (Nat.le_of_ble_eq_true rfl) ?_
  intro pp e s m below meth c ls args Q ret X h hl
  have hl : lv_has ls 3 [(0, .int (iv (j9))), (1, .int (iv (n9))), (2, .null)] := hl
  refine lv_iload_n X.1 X.2.1 dJ3_checkIndex_8e157_0 rfl (lv_at hl 0 rfl) ?_
  refine z_if_lt (tgt := 9) X ⟨by omega, by omega⟩ dJ3_checkIndex_8e157_1 (by decide) (fun c_1 => ?_) (fun c_1 => ?_)
  · exfalso; omega
  · refine lv_iload_n X.1 X.2.1 dJ3_checkIndex_8e157_4 rfl (lv_at hl 0 rfl) ?_
    refine lv_iload_n X.1 X.2.1 dJ3_checkIndex_8e157_5 rfl (lv_at hl 1 rfl) ?_
    refine z_ic_lt (tgt := 16) X ⟨by omega, by omega⟩ ⟨by omega, by omega⟩ dJ3_checkIndex_8e157_6 (by decide) (fun c_6 => ?_) (fun c_6 => ?_)
    · refine lv_iload_n X.1 X.2.1 dJ3_checkIndex_8e157_16 rfl (lv_at hl 0 rfl) ?_
      exact ret _ _ _ (rfl) dJ3_checkIndex_8e157_17
    · exfalso; omega

set_option maxHeartbeats 4000000 in
theorem c_J3_checkIndex_R {j9 n9 : Int} (j0 : 0 ≤ j9) (j1 : j9 < n9) (rn : n9 < 2147483648) {t9 : Nat} : MP E l yJ3_checkIndex_8e157 cJ3_checkIndex_8e157 3 (some FieldType.int) (rmk 0 0) ([]) [.int (iv (j9)), .int (iv (n9)), .ref (t9)] (j9) := by
  refine goP (by decide) (Nat.le_of_ble_eq_true rfl) ?_
  intro pp e s m below meth c ls args Q ret X h hl
  have hl : lv_has ls 3 [(0, .int (iv (j9))), (1, .int (iv (n9))), (2, .ref (t9))] := hl
  refine lv_iload_n X.1 X.2.1 dJ3_checkIndex_8e157_0 rfl (lv_at hl 0 rfl) ?_
  refine z_if_lt (tgt := 9) X ⟨by omega, by omega⟩ dJ3_checkIndex_8e157_1 (by decide) (fun c_1 => ?_) (fun c_1 => ?_)
  · exfalso; omega
  · refine lv_iload_n X.1 X.2.1 dJ3_checkIndex_8e157_4 rfl (lv_at hl 0 rfl) ?_
    refine lv_iload_n X.1 X.2.1 dJ3_checkIndex_8e157_5 rfl (lv_at hl 1 rfl) ?_
    refine z_ic_lt (tgt := 16) X ⟨by omega, by omega⟩ ⟨by omega, by omega⟩ dJ3_checkIndex_8e157_6 (by decide) (fun c_6 => ?_) (fun c_6 => ?_)
    · refine lv_iload_n X.1 X.2.1 dJ3_checkIndex_8e157_16 rfl (lv_at hl 0 rfl) ?_
      exact ret _ _ _ (rfl) dJ3_checkIndex_8e157_17
    · exfalso; omega

set_option maxHeartbeats 4000000 in
theorem c_J0_checkIndex_df160 {j9 n9 : Int} (j0 : 0 ≤ j9) (j1 : j9 < n9) (rn : n9 < 2147483648) : MPV E l yJ0_checkIndex_df160 cJ0_checkIndex_df160 2 (rmk 1 22) [] [.int (iv (j9)), .int (iv (n9))] := by
  refine goPV (by decide) (Nat.le_of_ble_eq_true rfl) ?_
  intro pp e s m below meth c ls args Q ret X h hl
  have hl : lv_has ls 2 [(0, .int (iv (j9))), (1, .int (iv (n9)))] := hl
  refine lv_iload_n X.1 X.2.1 dJ0_checkIndex_df160_0 rfl (lv_at hl 0 rfl) ?_
  refine lv_iload_n X.1 X.2.1 dJ0_checkIndex_df160_1 rfl (lv_at hl 1 rfl) ?_
  rcases (h.2.2.2.2.2.2.2.2.2.2.1.narrow h.nar) with hz | ⟨t9, hz⟩
  · refine va_gets X.1 X.2.1 hz h.2.1 X.2.2.2.1 (X.2.2.2.2.1 _ fl_J0_1053) (fun _ q => q) dJ0_checkIndex_df160_2 ?_
    refine z_pi (run_S (rest := []) X h (c_J3_checkIndex_N (j9 := j9) (n9 := n9) (by omega) (by omega) (by omega)) mi_J3_checkIndex_8e157 ml_J0_1059 ⟨Nat.le_of_ble_eq_true rfl, Nat.le_of_ble_eq_true rfl⟩ ⟨rfl, rfl⟩ (Seg.nil _) rfl hl.1 rfl (Nat.le_of_ble_eq_true rfl) ⟨Nat.zero_le _, Nat.zero_le _⟩ dJ0_checkIndex_df160_5) ?_
    refine lv_pop X.1 X.2.1 dJ0_checkIndex_df160_8 rfl ?_
    exact ret _ _ dJ0_checkIndex_df160_9
  · refine va_gets X.1 X.2.1 hz h.2.1 X.2.2.2.1 (X.2.2.2.2.1 _ fl_J0_1053) (fun _ q => q) dJ0_checkIndex_df160_2 ?_
    refine z_pi (run_S (rest := []) X h (c_J3_checkIndex_R (j9 := j9) (n9 := n9) (by omega) (by omega) (by omega)) mi_J3_checkIndex_8e157 ml_J0_1059 ⟨Nat.le_of_ble_eq_true rfl, Nat.le_of_ble_eq_true rfl⟩ ⟨rfl, rfl⟩ (Seg.nil _) rfl hl.1 rfl (Nat.le_of_ble_eq_true rfl) ⟨Nat.zero_le _, Nat.zero_le _⟩ dJ0_checkIndex_df160_5) ?_
    refine lv_pop X.1 X.2.1 dJ0_checkIndex_df160_8 rfl ?_
    exact ret _ _ dJ0_checkIndex_df160_9

set_option maxHeartbeats 4000000 in
theorem c_J1_charAt_3b067 {i9 : Nat} (hi9 : i9 < 10) {j9 : Int} (j0 : 0 ≤ j9) (j1 : j9 < (strL.getD i9 0 : Nat)) : MP E l yJ1_charAt_3b067 cJ1_charAt_3b067 2 (some FieldType.char) (rmk 2 43) ([]) [.ref (eV E i9), .int (iv (j9))] ((chr9 i9 j9).toInt) := by
  refine goT (chr_n hi9 j0 j1) (by decide) (Nat.le_of_ble_eq_true rfl) ?_
  intro pp e s m below meth c ls args Q ret X h hl
  have hl : lv_has ls 2 [(0, .ref (eV E i9)), (1, .int (iv (j9)))] := hl
  have hl9 := str_len ⟨i9, hi9⟩
  dsimp only at hl9
  have hs9 : ((strL.getD i9 0 : Nat) : Int) < 2147483648 := by omega
  refine lv_iload_n X.1 X.2.1 dJ1_charAt_3b067_0 rfl (lv_at hl 1 rfl) ?_
  refine lv_aload_n X.1 X.2.1 dJ1_charAt_3b067_1 rfl (lv_at hl 0 rfl) ?_
  refine z_slen X h hi9 dJ1_charAt_3b067_2 ?_
  refine z_pv (run_S (rest := []) X h (c_J0_checkIndex_df160 (j9 := j9) (n9 := ((strL.getD i9 0 : Nat) : Int)) (by omega) (by omega) (by omega)) mi_J0_checkIndex_df160 ml_J1_9 ⟨Nat.le_of_ble_eq_true rfl, Nat.le_of_ble_eq_true rfl⟩ ⟨rfl, rfl⟩ (Seg.nil _) rfl hl.1 rfl (Nat.le_of_ble_eq_true rfl) ⟨Nat.zero_le _, Nat.zero_le _⟩ dJ1_charAt_3b067_3) ?_
  refine lv_aload_n X.1 X.2.1 dJ1_charAt_3b067_6 rfl (lv_at hl 0 rfl) ?_
  refine lv_iload_n X.1 X.2.1 dJ1_charAt_3b067_7 rfl (lv_at hl 1 rfl) ?_
  refine z_sbyt X h hi9 (by omega) (by omega) hs9 dJ1_charAt_3b067_8 ?_
  refine z_sipush X (by decide) dJ1_charAt_3b067_9 ?_
  refine lv_iand X.1 X.2.1 dJ1_charAt_3b067_12 ?_
  refine lv_i2c (v := ((((strB.getD i9 []).getD (j9 : Int).toNat 0) &&& (iv (255))).toUInt32 % 65536).toInt32) X.1 X.2.1 dJ1_charAt_3b067_13 rfl ?_
  refine W.eq (g2 := F0 m 14 ls [.int (iv (chr9 i9 j9).toInt)]) (by rw [iv_of]; rfl) ?_
  exact ret _ _ _ rfl dJ1_charAt_3b067_14

set_option maxHeartbeats 4000000 in
theorem c_J0_charAt_5068e {i9 : Nat} (hi9 : i9 < 10) {j9 : Int} (j0 : 0 ≤ j9) (j1 : j9 < (strL.getD i9 0 : Nat)) : MP E l yJ0_charAt_5068e cJ0_charAt_5068e 2 (some FieldType.char) (rmk 4 85) ([]) [.ref (eK E i9), .int (iv (j9))] ((chr9 i9 j9).toInt) := by
  refine goT (chr_n hi9 j0 j1) (by decide) (Nat.le_of_ble_eq_true rfl) ?_
  intro pp e s m below meth c ls args Q ret X h hl
  have hl : lv_has ls 2 [(0, .ref (eK E i9)), (1, .int (iv (j9)))] := hl
  refine lv_aload_n X.1 X.2.1 dJ0_charAt_5068e_0 rfl (lv_at hl 0 rfl) ?_
  refine z_pi (run_VK (rest := []) X h (c_J0_isLatin1_aae02 hi9) mi_J0_isLatin1_aae02 ml_J0_492 ⟨Nat.le_of_ble_eq_true rfl, Nat.le_of_ble_eq_true rfl⟩ ⟨rfl, rfl⟩ (Seg.nil _) hi9 rfl hl.1 rfl (Nat.le_of_ble_eq_true rfl) ⟨Nat.zero_le _, Nat.zero_le _⟩ dJ0_charAt_5068e_1) ?_
  refine z_if_eq (tgt := 16) X ⟨by decide, by decide⟩ dJ0_charAt_5068e_4 (by decide) (fun c_4 => ?_) (fun c_4 => ?_)
  · exact absurd c_4 (by decide)
  · refine lv_aload_n X.1 X.2.1 dJ0_charAt_5068e_7 rfl (lv_at hl 0 rfl) ?_
    refine z_sval X h hi9 dJ0_charAt_5068e_8 ?_
    refine lv_iload_n X.1 X.2.1 dJ0_charAt_5068e_11 rfl (lv_at hl 1 rfl) ?_
    refine z_pi (run_S (rest := []) X h (c_J1_charAt_3b067 hi9 j0 j1) mi_J1_charAt_3b067 ml_J0_495 ⟨Nat.le_of_ble_eq_true rfl, Nat.le_of_ble_eq_true rfl⟩ ⟨rfl, rfl⟩ (Seg.nil _) rfl hl.1 rfl (Nat.le_of_ble_eq_true rfl) ⟨Nat.zero_le _, Nat.zero_le _⟩ dJ0_charAt_5068e_12) ?_
    exact ret _ _ _ (rfl) dJ0_charAt_5068e_15
