variable {p : Program} {l : Launch} {e : Env} {s : State} {m : MethodId} {args : Array Value} {below : List Frame} {meth : Method} {c : Code} {H : Heap} {locs : List Loc} {cells slots : Nat} {Q : State → Prop} {ls : Array Slot} {E : EV} {A0 : Nat → Prop} {b0 L : Nat} {xz : Nat → Int32} {a k b t x am : Nat → Nat} {q : Nat → Nat → Nat} 
set_option maxHeartbeats 4000000 in
theorem law_loop (X : Cx p s m meth c args RL cL_law 4 (some .boolean)) (hX : va_X b0 L xz s s.heap) (hbl : b0 < s.heap.size) (hbA : ¬ A0 b0) (hL : L ≤ 3072) (hcs : cells ≤ 600000 ∧ slots ≤ 7302250)
    (kend : ∀ (H1 : Heap) (locs1 : List Loc) (ls : Array Slot) (ws : va_W), SN E A0 s H1 locs1 ws → W p l e room_1 s m args below meth c H1 locs1 cells slots Q (F0 m 1297 ls [])) :
    ∀ (fuel_ : Nat) (i : Int) (u : Tc) (v : Mc) (S : Sg) (H : Heap) (locs : List Loc) (ls : Array Slot), 0 ≤ i → i ≤ L → (L : Int) - i < fuel_ → SN E A0 s H locs (wT E a k b t x q u ++ wM E am v) → RepC u S → RepM v S → lv_has ls 4 [(3, .int (iv (i))), (2, .ref (am 0)), (1, .ref (a 0)), (0, .ref (b0))] → W p l e room_1 s m args below meth c H locs cells slots Q (F0 m 18 ls []) := by
  intro fuel_
  induction fuel_ with
  | zero =>
    intro i u v S H locs ls i0 iL hn
    exfalso; omega
  | succ fuel_ ih =>
    intro i u v S H locs ls i0 iL hn h hC hM hl
    have kk : i + 6 ≤ (L : Int) → ∀ (H1 : Heap) (locs1 : List Loc) (u1 : Tc) (v1 : Mc) (S1 : Sg), SN E A0 s H1 locs1 (wT E a k b t x q u1 ++ wM E am v1) → RepC u1 S1 → RepM v1 S1 → W p l e room_1 s m args below meth c H1 locs1 cells slots Q (F0 m 1291 ls []) := by
      intro i6 H1 locs1 u1 v1 S1 h1 hC1 hM1
      refine z_iinc (k := 0) (lv' := [(3, .int (iv (i + 6))), (2, .ref (am 0)), (1, .ref (a 0)), (0, .ref (b0))]) X dL_law_1291 hl rfl (by decide) rfl (fun ls hl => ?_)
      refine lv_goto (tgt := 18) X.1 X.2.1 dL_law_1294 (by decide) ?_
      exact ih (i + 6) u1 v1 S1 H1 locs1 ls (by omega) (by omega) (by omega) h1 hC1 hM1 hl
    refine lv_iload_n X.1 X.2.1 dL_law_18 rfl (lv_at hl 0 rfl) ?_
    refine lv_aload_n X.1 X.2.1 dL_law_19 rfl (lv_at hl 3 rfl) ?_
    refine l_slen X hX hbl hbA h dL_law_20 ?_
    refine z_bipush X (by decide) dL_law_21 ?_
    refine z_isub X dL_law_23 ?_
    refine z_ic_gt (tgt := 1297) X ⟨by omega, by omega⟩ ⟨by omega, by omega⟩ dL_law_24 (by decide) (fun c_24 => kend _ _ _ _ h) (fun c_24 => ?_)
    refine lv_aload_n X.1 X.2.1 dL_law_27 rfl (lv_at hl 3 rfl) ?_
    refine lv_iload_n X.1 X.2.1 dL_law_28 rfl (lv_at hl 0 rfl) ?_
    refine l_sld X hX hbl hbA hL h (by omega) (by omega) dL_law_29 ?_
    refine z_bipush X (by decide) dL_law_30 ?_
    refine lv_iand X.1 X.2.1 dL_law_32 ?_
    obtain ⟨j, rj, ej⟩ := iv_ex (iv (sc xz i) &&& iv 63)
    rw [ej]
    rcases (show j = 0 ∨ j = 1 ∨ j = 2 ∨ j = 3 ∨ j = 4 ∨ j = 5 ∨ j = 6 ∨ j = 7 ∨ j = 8 ∨ j = 9 ∨ j = 10 ∨ j = 11 ∨ j = 12 ∨ j = 13 ∨ j = 14 ∨ j = 15 ∨ j = 16 ∨ j = 17 ∨ j = 18 ∨ j = 19 ∨ j = 20 ∨ j = 21 ∨ j = 22 ∨ j = 23 ∨ j = 24 ∨ j = 25 ∨ j = 26 ∨ j = 27 ∨ j = 28 ∨ j = 29 ∨ j = 30 ∨ j = 31 ∨ j = 32 ∨ j = 33 ∨ j = 34 ∨ j = 35 ∨ (j < 0 ∨ 35 < j) by omega) with c_33 | c_33 | c_33 | c_33 | c_33 | c_33 | c_33 | c_33 | c_33 | c_33 | c_33 | c_33 | c_33 | c_33 | c_33 | c_33 | c_33 | c_33 | c_33 | c_33 | c_33 | c_33 | c_33 | c_33 | c_33 | c_33 | c_33 | c_33 | c_33 | c_33 | c_33 | c_33 | c_33 | c_33 | c_33 | c_33 | c_33
    · exact z_tabIn (tgt := 192) X 0 c_33 ⟨by decide, by decide⟩ (by decide) (by decide) dL_law_33 rfl (by decide) (law_sun X hX hbl hbA hL hcs h hC hM i0 (by omega) hl (kk (by omega)))
    · exact z_tabIn (tgt := 225) X 1 c_33 ⟨by decide, by decide⟩ (by decide) (by decide) dL_law_33 rfl (by decide) (law_chair X hX hbl hbA hL hcs h hC hM i0 (by omega) hl (kk (by omega)))
    · exact z_tabIn (tgt := 248) X 2 c_33 ⟨by decide, by decide⟩ (by decide) (by decide) dL_law_33 rfl (by decide) (law_now X hX hbl hbA hL hcs h hC hM i0 (by omega) hl (kk (by omega)))
    · exact z_tabIn (tgt := 271) X 3 c_33 ⟨by decide, by decide⟩ (by decide) (by decide) dL_law_33 rfl (by decide) (law_person X hX hbl hbA hL hcs h hC hM i0 (by omega) hl (kk (by omega)))
    · exact z_tabIn (tgt := 294) X 4 c_33 ⟨by decide, by decide⟩ (by decide) (by decide) dL_law_33 rfl (by decide) (law_of X hX hbl hbA hL hcs h hC hM i0 (by omega) hl (kk (by omega)))
    · exact z_tabIn (tgt := 327) X 5 c_33 ⟨by decide, by decide⟩ (by decide) (by decide) dL_law_33 rfl (by decide) (law_set X hX hbl hbA hL hcs h hC hM i0 (by omega) hl (kk (by omega)))
    · exact z_tabIn (tgt := 370) X 6 c_33 ⟨by decide, by decide⟩ (by decide) (by decide) dL_law_33 rfl (by decide) (law_turn X hX hbl hbA hL hcs h hC hM i0 (by omega) hl (kk (by omega)))
    · exact z_tabIn (tgt := 403) X 7 c_33 ⟨by decide, by decide⟩ (by decide) (by decide) dL_law_33 rfl (by decide) (law_as X hX hbl hbA hL hcs h hC hM i0 (by omega) hl (kk (by omega)))
    · exact z_tabIn (tgt := 436) X 8 c_33 ⟨by decide, by decide⟩ (by decide) (by decide) dL_law_33 rfl (by decide) (law_sit X hX hbl hbA hL hcs h hC hM i0 (by omega) hl (kk (by omega)))
    · exact z_tabIn (tgt := 469) X 9 c_33 ⟨by decide, by decide⟩ (by decide) (by decide) dL_law_33 rfl (by decide) (law_given X hX hbl hbA hL hcs h hC hM i0 (by omega) hl (kk (by omega)))
    · exact z_tabIn (tgt := 502) X 10 c_33 ⟨by decide, by decide⟩ (by decide) (by decide) dL_law_33 rfl (by decide) (law_hours X hX hbl hbA hL hcs h hC hM i0 (by omega) hl (kk (by omega)))
    · exact z_tabIn (tgt := 525) X 11 c_33 ⟨by decide, by decide⟩ (by decide) (by decide) dL_law_33 rfl (by decide) (law_on X hX hbl hbA hL hcs h hC hM i0 (by omega) hl (kk (by omega)))
    · exact z_tabIn (tgt := 568) X 12 c_33 ⟨by decide, by decide⟩ (by decide) (by decide) dL_law_33 rfl (by decide) (law_brown X hX hbl hbA hL hcs h hC hM i0 (by omega) hl (kk (by omega)))
    · exact z_tabIn (tgt := 601) X 13 c_33 ⟨by decide, by decide⟩ (by decide) (by decide) dL_law_33 rfl (by decide) (law_burns X hX hbl hbA hL hcs h hC hM i0 (by omega) hl (kk (by omega)))
    · exact z_tabIn (tgt := 624) X 14 c_33 ⟨by decide, by decide⟩ (by decide) (by decide) dL_law_33 rfl (by decide) (law_even X hX hbl hbA hL hcs h hC hM i0 (by omega) hl (kk (by omega)))
    · exact z_tabIn (tgt := 647) X 15 c_33 ⟨by decide, by decide⟩ (by decide) (by decide) dL_law_33 rfl (by decide) (law_where X hX hbl hbA hL hcs h hC hM i0 (by omega) hl (kk (by omega)))
    · exact z_tabIn (tgt := 680) X 16 c_33 ⟨by decide, by decide⟩ (by decide) (by decide) dL_law_33 rfl (by decide) (law_change X hX hbl hbA hL hcs h hC hM i0 (by omega) hl (kk (by omega)))
    · exact z_tabIn (tgt := 713) X 17 c_33 ⟨by decide, by decide⟩ (by decide) (by decide) dL_law_33 rfl (by decide) (law_kind X hX hbl hbA hL hcs h hC hM i0 (by omega) hl (kk (by omega)))
    · exact z_tabIn (tgt := 746) X 18 c_33 ⟨by decide, by decide⟩ (by decide) (by decide) dL_law_33 rfl (by decide) (law_send X hX hbl hbA hL hcs h hC hM i0 (by omega) hl (kk (by omega)))
    · exact z_tabIn (tgt := 769) X 19 c_33 ⟨by decide, by decide⟩ (by decide) (by decide) dL_law_33 rfl (by decide) (law_cloud X hX hbl hbA hL hcs h hC hM i0 (by omega) hl (kk (by omega)))
    · exact z_tabIn (tgt := 792) X 20 c_33 ⟨by decide, by decide⟩ (by decide) (by decide) dL_law_33 rfl (by decide) (law_enough X hX hbl hbA hL hcs h hC hM i0 (by omega) hl (kk (by omega)))
    · exact z_tabIn (tgt := 845) X 21 c_33 ⟨by decide, by decide⟩ (by decide) (by decide) dL_law_33 rfl (by decide) (law_brownest X hX hbl hbA hL hcs h hC hM i0 (by omega) hl (kk (by omega)))
    · exact z_tabIn (tgt := 868) X 22 c_33 ⟨by decide, by decide⟩ (by decide) (by decide) dL_law_33 rfl (by decide) (law_feed X hX hbl hbA hL hcs h hC hM i0 (by omega) hl (kk (by omega)))
    · exact z_tabIn (tgt := 901) X 23 c_33 ⟨by decide, by decide⟩ (by decide) (by decide) dL_law_33 rfl (by decide) (law_wipe X hX hbl hbA hL hcs h hC hM i0 (by omega) hl (kk (by omega)))
    · exact z_tabIn (tgt := 914) X 24 c_33 ⟨by decide, by decide⟩ (by decide) (by decide) dL_law_33 rfl (by decide) (law_esplanade X hX hbl hbA hL hcs h hC hM i0 (by omega) hl (kk (by omega)))
    · exact z_tabIn (tgt := 927) X 25 c_33 ⟨by decide, by decide⟩ (by decide) (by decide) dL_law_33 rfl (by decide) (law_sheet X hX hbl hbA hL hcs h hC hM i0 (by omega) hl (kk (by omega)))
    · exact z_tabIn (tgt := 970) X 26 c_33 ⟨by decide, by decide⟩ (by decide) (by decide) dL_law_33 rfl (by decide) (law_write X hX hbl hbA hL hcs h hC hM i0 (by omega) hl (kk (by omega)))
    · exact z_tabIn (tgt := 1044) X 27 c_33 ⟨by decide, by decide⟩ (by decide) (by decide) dL_law_33 rfl (by decide) (law_copy X hX hbl hbA hL hcs h hC hM i0 (by omega) hl (kk (by omega)))
    · exact z_tabIn (tgt := 1107) X 28 c_33 ⟨by decide, by decide⟩ (by decide) (by decide) dL_law_33 rfl (by decide) (law_lays X hX hbl hbA hL hcs h hC hM i0 (by omega) hl (kk (by omega)))
    · exact z_tabIn (tgt := 1130) X 29 c_33 ⟨by decide, by decide⟩ (by decide) (by decide) dL_law_33 rfl (by decide) (law_book X hX hbl hbA hL hcs h hC hM i0 (by omega) hl (kk (by omega)))
    · exact z_tabIn (tgt := 1163) X 30 c_33 ⟨by decide, by decide⟩ (by decide) (by decide) dL_law_33 rfl (by decide) (law_read X hX hbl hbA hL hcs h hC hM i0 (by omega) hl (kk (by omega)))
    · exact z_tabIn (tgt := 1206) X 31 c_33 ⟨by decide, by decide⟩ (by decide) (by decide) dL_law_33 rfl (by decide) (law_image X hX hbl hbA hL hcs h hC hM i0 (by omega) hl (kk (by omega)))
    · exact z_tabIn (tgt := 1219) X 32 c_33 ⟨by decide, by decide⟩ (by decide) (by decide) dL_law_33 rfl (by decide) (law_undo X hX hbl hbA hL hcs h hC hM i0 (by omega) hl (kk (by omega)))
    · exact z_tabIn (tgt := 1232) X 33 c_33 ⟨by decide, by decide⟩ (by decide) (by decide) dL_law_33 rfl (by decide) (law_tear X hX hbl hbA hL hcs h hC hM i0 (by omega) hl (kk (by omega)))
    · exact z_tabIn (tgt := 1245) X 34 c_33 ⟨by decide, by decide⟩ (by decide) (by decide) dL_law_33 rfl (by decide) (law_count X hX hbl hbA hL hcs h hC hM i0 (by omega) hl (kk (by omega)))
    · exact z_tabIn (tgt := 1268) X 35 c_33 ⟨by decide, by decide⟩ (by decide) (by decide) dL_law_33 rfl (by decide) (law_status X hX hbl hbA hL hcs h hC hM i0 (by omega) hl (kk (by omega)))
    · exact z_tabOut (tgt := 1291) X rj c_33 dL_law_33 (by decide) (kk (by omega) _ _ _ _ _ h hC hM)
