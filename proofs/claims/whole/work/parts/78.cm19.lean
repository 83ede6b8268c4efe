variable {E : EV} {l : Launch} {x : Nat → Nat} {tp : Nat → Int32} {tq : Int → Int} {tn pt ke so st_ en_ : Int} {e1 e2 e3 e4 : Int32}
set_option maxHeartbeats 4000000 in
theorem c_nameOf0  : MPQ E l yX2_nameOf cX2_nameOf 1 (some (FieldType.object "java/lang/String")) (rmk 0 0) [] [.int (iv (0))] (some (eK E 2)) := by
  refine goPQ (by decide) (Nat.le_of_ble_eq_true rfl) ?_
  intro pp e s m below meth c ls args Q ret X h hl
  have hl : lv_has ls 1 [(0, .int (iv (0)))] := hl
  refine lv_iload_n X.1 X.2.1 dX2_nameOf_0 rfl (lv_at hl 0 rfl) ?_
  refine z_tabOut (tgt := 51) X ⟨by decide, by decide⟩ (by decide) dX2_nameOf_1 (by decide) ?_
  refine z_ldcS X h 2 rfl dX2_nameOf_51 ?_
  exact ret _ _ dX2_nameOf_53

set_option maxHeartbeats 4000000 in
theorem c_nameOf1  : MPQ E l yX2_nameOf cX2_nameOf 1 (some (FieldType.object "java/lang/String")) (rmk 0 0) [] [.int (iv (1))] (some (eK E 3)) := by
  refine goPQ (by decide) (Nat.le_of_ble_eq_true rfl) ?_
  intro pp e s m below meth c ls args Q ret X h hl
  have hl : lv_has ls 1 [(0, .int (iv (1)))] := hl
  refine lv_iload_n X.1 X.2.1 dX2_nameOf_0 rfl (lv_at hl 0 rfl) ?_
  refine z_tabIn (tgt := 36) X 1 rfl ⟨by decide, by decide⟩ (by decide) (by decide) dX2_nameOf_1 rfl (by decide) ?_
  refine z_ldcS X h 3 rfl dX2_nameOf_36 ?_
  exact ret _ _ dX2_nameOf_38

set_option maxHeartbeats 4000000 in
theorem c_nameOf2  : MPQ E l yX2_nameOf cX2_nameOf 1 (some (FieldType.object "java/lang/String")) (rmk 0 0) [] [.int (iv (2))] (some (eK E 4)) := by
  refine goPQ (by decide) (Nat.le_of_ble_eq_true rfl) ?_
  intro pp e s m below meth c ls args Q ret X h hl
  have hl : lv_has ls 1 [(0, .int (iv (2)))] := hl
  refine lv_iload_n X.1 X.2.1 dX2_nameOf_0 rfl (lv_at hl 0 rfl) ?_
  refine z_tabIn (tgt := 39) X 2 rfl ⟨by decide, by decide⟩ (by decide) (by decide) dX2_nameOf_1 rfl (by decide) ?_
  refine z_ldcS X h 4 rfl dX2_nameOf_39 ?_
  exact ret _ _ dX2_nameOf_41

set_option maxHeartbeats 4000000 in
theorem c_nameOf3  : MPQ E l yX2_nameOf cX2_nameOf 1 (some (FieldType.object "java/lang/String")) (rmk 0 0) [] [.int (iv (3))] (some (eK E 5)) := by
  refine goPQ (by decide) (Nat.le_of_ble_eq_true rfl) ?_
  intro pp e s m below meth c ls args Q ret X h hl
  have hl : lv_has ls 1 [(0, .int (iv (3)))] := hl
  refine lv_iload_n X.1 X.2.1 dX2_nameOf_0 rfl (lv_at hl 0 rfl) ?_
  refine z_tabIn (tgt := 42) X 3 rfl ⟨by decide, by decide⟩ (by decide) (by decide) dX2_nameOf_1 rfl (by decide) ?_
  refine z_ldcS X h 5 rfl dX2_nameOf_42 ?_
  exact ret _ _ dX2_nameOf_44

set_option maxHeartbeats 4000000 in
theorem c_nameOf4  : MPQ E l yX2_nameOf cX2_nameOf 1 (some (FieldType.object "java/lang/String")) (rmk 0 0) [] [.int (iv (4))] (some (eK E 6)) := by
  refine goPQ (by decide) (Nat.le_of_ble_eq_true rfl) ?_
  intro pp e s m below meth c ls args Q ret X h hl
  have hl : lv_has ls 1 [(0, .int (iv (4)))] := hl
  refine lv_iload_n X.1 X.2.1 dX2_nameOf_0 rfl (lv_at hl 0 rfl) ?_
  refine z_tabIn (tgt := 45) X 4 rfl ⟨by decide, by decide⟩ (by decide) (by decide) dX2_nameOf_1 rfl (by decide) ?_
  refine z_ldcS X h 6 rfl dX2_nameOf_45 ?_
  exact ret _ _ dX2_nameOf_47

set_option maxHeartbeats 4000000 in
theorem c_nameOf5  : MPQ E l yX2_nameOf cX2_nameOf 1 (some (FieldType.object "java/lang/String")) (rmk 0 0) [] [.int (iv (5))] (some (eK E 7)) := by
  refine goPQ (by decide) (Nat.le_of_ble_eq_true rfl) ?_
  intro pp e s m below meth c ls args Q ret X h hl
  have hl : lv_has ls 1 [(0, .int (iv (5)))] := hl
  refine lv_iload_n X.1 X.2.1 dX2_nameOf_0 rfl (lv_at hl 0 rfl) ?_
  refine z_tabIn (tgt := 48) X 5 rfl ⟨by decide, by decide⟩ (by decide) (by decide) dX2_nameOf_1 rfl (by decide) ?_
  refine z_ldcS X h 7 rfl dX2_nameOf_48 ?_
  exact ret _ _ dX2_nameOf_50
