variable {E : EV} {l : Launch}
set_option maxHeartbeats 4000000 in
theorem c_J0_coder_7d493 {i9 : Nat} (hi9 : i9 < 10) : MP E l yJ0_coder_7d493 cJ0_coder_7d493 1 (some FieldType.byte) (rmk 0 0) ([]) [.ref (eK E i9)] (0) := by
  refine goT (by decide) (by decide) (Nat.le_of_ble_eq_true rfl) ?_
  intro pp e s m below meth c ls args Q ret X h hl
  have hl : lv_has ls 1 [(0, .ref (eK E i9))] := hl
  refine z_compact X h dJ0_coder_7d493_0 ?_
  refine z_if_eq (tgt := 13) X ⟨by decide, by decide⟩ dJ0_coder_7d493_3 (by decide) (fun c_3 => ?_) (fun c_3 => ?_)
  · exact absurd c_3 (by decide)
  · refine lv_aload_n X.1 X.2.1 dJ0_coder_7d493_6 rfl (lv_at hl 0 rfl) ?_
    refine z_scod X h hi9 dJ0_coder_7d493_7 ?_
    refine lv_goto (tgt := 14) X.1 X.2.1 dJ0_coder_7d493_10 (by decide) ?_
    exact ret _ _ _ (rfl) dJ0_coder_7d493_14

set_option maxHeartbeats 4000000 in
theorem c_J0_isLatin1_aae02 {i9 : Nat} (hi9 : i9 < 10) : MP E l yJ0_isLatin1_aae02 cJ0_isLatin1_aae02 1 (some FieldType.boolean) (rmk 0 0) ([]) [.ref (eK E i9)] (1) := by
  refine goT (by decide) (by decide) (Nat.le_of_ble_eq_true rfl) ?_
  intro pp e s m below meth c ls args Q ret X h hl
  have hl : lv_has ls 1 [(0, .ref (eK E i9))] := hl
  refine z_compact X h dJ0_isLatin1_aae02_0 ?_
  refine z_if_eq (tgt := 17) X ⟨by decide, by decide⟩ dJ0_isLatin1_aae02_3 (by decide) (fun c_3 => ?_) (fun c_3 => ?_)
  · exact absurd c_3 (by decide)
  · refine lv_aload_n X.1 X.2.1 dJ0_isLatin1_aae02_6 rfl (lv_at hl 0 rfl) ?_
    refine z_scod X h hi9 dJ0_isLatin1_aae02_7 ?_
    refine z_if_ne (tgt := 17) X ⟨by decide, by decide⟩ dJ0_isLatin1_aae02_10 (by decide) (fun c_10 => ?_) (fun c_10 => ?_)
    · exact absurd c_10 (by decide)
    · refine z_iconst X dJ0_isLatin1_aae02_13 ?_
      refine lv_goto (tgt := 18) X.1 X.2.1 dJ0_isLatin1_aae02_14 (by decide) ?_
      exact ret _ _ _ (rfl) dJ0_isLatin1_aae02_18

set_option maxHeartbeats 4000000 in
theorem c_J0_length_8abf5 {i9 : Nat} (hi9 : i9 < 10) : MP E l yJ0_length_8abf5 cJ0_length_8abf5 1 (some FieldType.int) (rmk 1 20) ([]) [.ref (eK E i9)] (((strL.getD i9 0 : Nat) : Int)) := by
  refine goP (by decide) (Nat.le_of_ble_eq_true rfl) ?_
  intro pp e s m below meth c ls args Q ret X h hl
  have hl : lv_has ls 1 [(0, .ref (eK E i9))] := hl
  refine lv_aload_n X.1 X.2.1 dJ0_length_8abf5_0 rfl (lv_at hl 0 rfl) ?_
  refine z_sval X h hi9 dJ0_length_8abf5_1 ?_
  refine z_slen X h hi9 dJ0_length_8abf5_4 ?_
  refine lv_aload_n X.1 X.2.1 dJ0_length_8abf5_5 rfl (lv_at hl 0 rfl) ?_
  refine z_pi (run_VK (rest := [.int (iv (((strL.getD i9 0 : Nat) : Int)))]) X h (c_J0_coder_7d493 hi9) mi_J0_coder_7d493 ml_J0_335 ⟨Nat.le_of_ble_eq_true rfl, Nat.le_of_ble_eq_true rfl⟩ ⟨rfl, rfl⟩ (Seg.nil _) hi9 rfl hl.1 rfl (Nat.le_of_ble_eq_true rfl) ⟨Nat.zero_le _, Nat.zero_le _⟩ dJ0_length_8abf5_6) ?_
  refine lv_ishr X.1 X.2.1 dJ0_length_8abf5_9 ?_
  refine W.eq (g2 := F0 m 10 ls [.int (iv ((strL.getD i9 0 : Nat) : Int))]) (by rw [shr0]) ?_
  exact ret _ _ _ rfl dJ0_length_8abf5_10
