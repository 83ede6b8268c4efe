variable {E : EV} {l : Launch} {a : Nat → Nat} {mm kp wa fd gf tp bt sz : Nat → Int32} {cl : Nat → Int64} {ik tn tk bg pt vl bd : Int} {A : Es}
set_option maxHeartbeats 4000000 in
theorem c_X5_in {x : Int64} {lo hi : Int} (rl : r32 lo) (rh : r32 hi) : MP E l yX5_in cX5_in 4 (some FieldType.boolean) (rmk 0 0) ([]) [.long (x), .int (iv (lo)), .int (iv (hi))] (bz (lo ≤ x.toInt ∧ x.toInt ≤ hi)) := by
  refine goB (by decide) (Nat.le_of_ble_eq_true rfl) ?_
  intro pp e s m below meth c ls args Q ret X h hl
  have hl : lv_has ls 4 [(0, .long (x)), (2, .int (iv (lo))), (3, .int (iv (hi)))] := hl
  refine lv_lload_n X.1 X.2.1 dX5_in_0 rfl (lv_at hl 0 rfl) ?_
  refine lv_iload_n X.1 X.2.1 dX5_in_1 rfl (lv_at hl 1 rfl) ?_
  refine lv_i2l (v := (iv (lo)).toInt64) X.1 X.2.1 dX5_in_2 rfl ?_
  refine z_lcmp (a := x.toInt) (b := lo) X rfl (i64_iv rl) dX5_in_3 ?_
  refine z_ifc_lt (tgt := 18) X dX5_in_4 (by decide) (fun c_4 => ?_) (fun c_4 => ?_)
  · refine z_iconst X dX5_in_18 ?_
    exact ret _ _ _ ((bz_f (by omega)).symm) dX5_in_19
  · refine lv_lload_n X.1 X.2.1 dX5_in_7 rfl (lv_at hl 0 rfl) ?_
    refine lv_iload_n X.1 X.2.1 dX5_in_8 rfl (lv_at hl 2 rfl) ?_
    refine lv_i2l (v := (iv (hi)).toInt64) X.1 X.2.1 dX5_in_9 rfl ?_
    refine z_lcmp (a := x.toInt) (b := hi) X rfl (i64_iv rh) dX5_in_10 ?_
    refine z_ifc_gt (tgt := 18) X dX5_in_11 (by decide) (fun c_11 => ?_) (fun c_11 => ?_)
    · refine z_iconst X dX5_in_18 ?_
      exact ret _ _ _ ((bz_f (by omega)).symm) dX5_in_19
    · refine z_iconst X dX5_in_14 ?_
      refine lv_goto (tgt := 19) X.1 X.2.1 dX5_in_15 (by decide) ?_
      exact ret _ _ _ ((bz_t (by omega)).symm) dX5_in_19

theorem c_inI {z lo hi : Int} (rz : r32 z) (rl : r32 lo) (rh : r32 hi) : MP E l yX5_in cX5_in 4 (some .boolean) (rmk 0 0) [] [.long (iv z).toInt64, .int (iv lo), .int (iv hi)] (bz (lo ≤ z ∧ z ≤ hi)) := by
  have h := c_X5_in (E := E) (l := l) (x := (iv z).toInt64) rl rh
  rw [bz_eq (Q := lo ≤ z ∧ z ≤ hi) (by rw [i64_iv rz])] at h
  exact h

set_option maxHeartbeats 4000000 in
theorem c_X5_held {v lo hi : Int} (rv : r32 v) (rl : r32 lo) (rh : r32 hi) : MP E l yX5_held cX5_held 3 (some FieldType.int) (rmk 0 0) ([]) [.int (iv (v)), .int (iv (lo)), .int (iv (hi))] (held v lo hi) := by
  refine goP (by decide) (Nat.le_of_ble_eq_true rfl) ?_
  intro pp e s m below meth c ls args Q ret X h hl
  have hl : lv_has ls 3 [(0, .int (iv (v))), (1, .int (iv (lo))), (2, .int (iv (hi)))] := hl
  refine lv_iload_n X.1 X.2.1 dX5_held_0 rfl (lv_at hl 0 rfl) ?_
  refine lv_iload_n X.1 X.2.1 dX5_held_1 rfl (lv_at hl 1 rfl) ?_
  refine z_ic_ge (tgt := 9) X rv rl dX5_held_2 (by decide) (fun c_2 => ?_) (fun c_2 => ?_)
  · refine lv_iload_n X.1 X.2.1 dX5_held_9 rfl (lv_at hl 0 rfl) ?_
    refine lv_iload_n X.1 X.2.1 dX5_held_10 rfl (lv_at hl 2 rfl) ?_
    refine z_ic_le (tgt := 18) X rv rh dX5_held_11 (by decide) (fun c_11 => ?_) (fun c_11 => ?_)
    · refine lv_iload_n X.1 X.2.1 dX5_held_18 rfl (lv_at hl 0 rfl) ?_
      exact ret _ _ _ (by unfold held; (repeat' split) <;> omega) dX5_held_19
    · refine lv_iload_n X.1 X.2.1 dX5_held_14 rfl (lv_at hl 2 rfl) ?_
      refine lv_goto (tgt := 19) X.1 X.2.1 dX5_held_15 (by decide) ?_
      exact ret _ _ _ (by unfold held; (repeat' split) <;> omega) dX5_held_19
  · refine lv_iload_n X.1 X.2.1 dX5_held_5 rfl (lv_at hl 1 rfl) ?_
    refine lv_goto (tgt := 19) X.1 X.2.1 dX5_held_6 (by decide) ?_
    exact ret _ _ _ (by unfold held; (repeat' split) <;> omega) dX5_held_19

set_option maxHeartbeats 4000000 in
theorem c_X5_it (hR : RM mm A) (hI : IA A) {p w : Int} (p0 : 0 ≤ p) (p1 : p < pe A) (w0 : 0 ≤ w) (w1 : w < 5) : MP E l yX5_it cX5_it 3 (some FieldType.int) (rmk 0 0) (wM E a (mm, kp, wa, (iv (ik)), fd, gf, tp, (iv (tn)), (iv (tk)), (iv (bg)), (iv (pt)), (iv (vl)), (iv (bd)), bt, sz, cl)) [.ref (a 0), .int (iv (p)), .int (iv (w))] (pr A w p) := by
  refine goP (by decide) (Nat.le_of_ble_eq_true rfl) ?_
  intro pp e s m below meth c ls args Q ret X h hl
  have hl : lv_has ls 3 [(0, .ref (a 0)), (1, .int (iv (p))), (2, .int (iv (w)))] := hl
  have n8 := hI.n8
  refine lv_aload_n X.1 X.2.1 dX5_it_0 rfl (lv_at hl 0 rfl) ?_
  refine z_get X h 4 0 0 rfl inX5 rfl (by decide) fl_X5_9 rfl dX5_it_1 ?_
  refine z_bipush X (by decide) dX5_it_4 ?_
  refine z_iconst X dX5_it_6 ?_
  refine lv_iload_n X.1 X.2.1 dX5_it_7 rfl (lv_at hl 1 rfl) ?_
  refine z_imul X dX5_it_8 ?_
  refine z_iadd X dX5_it_9 ?_
  refine lv_iload_n X.1 X.2.1 dX5_it_10 rfl (lv_at hl 2 rfl) ?_
  refine z_iadd X dX5_it_11 ?_
  refine z_iald (v := pr A w p) X h 1 rfl (by omega) (by omega) (by decide) (hR.2.2.2 w p (by omega) (by omega) (by omega) (by omega)) dX5_it_12 ?_
  exact ret _ _ _ (rfl) dX5_it_13

set_option maxHeartbeats 4000000 in
theorem c_X5_isPerson (hR : RM mm A) (hI : IA A) {p : Int} (rp : r32 p) : MP E l yX5_isPerson cX5_isPerson 2 (some FieldType.boolean) (rmk 1 23) (wM E a (mm, kp, wa, (iv (ik)), fd, gf, tp, (iv (tn)), (iv (tk)), (iv (bg)), (iv (pt)), (iv (vl)), (iv (bd)), bt, sz, cl)) [.ref (a 0), .int (iv (p))] (bz (0 ≤ p ∧ p < pe A)) := by
  refine goB (by decide) (Nat.le_of_ble_eq_true rfl) ?_
  intro pp e s m below meth c ls args Q ret X h hl
  have hl : lv_has ls 2 [(0, .ref (a 0)), (1, .int (iv (p)))] := hl
  have n8 := hI.n8
  have n0 := hI.n0
  refine lv_iload_n X.1 X.2.1 dX5_isPerson_0 rfl (lv_at hl 1 rfl) ?_
  refine lv_i2l (v := (iv (p)).toInt64) X.1 X.2.1 dX5_isPerson_1 rfl ?_
  refine z_iconst X dX5_isPerson_2 ?_
  refine lv_aload_n X.1 X.2.1 dX5_isPerson_3 rfl (lv_at hl 0 rfl) ?_
  refine z_get X h 4 0 0 rfl inX5 rfl (by decide) fl_X5_9 rfl dX5_isPerson_4 ?_
  refine z_iconst X dX5_isPerson_7 ?_
  refine z_iald (v := pe A) X h 1 rfl (by omega) (by omega) (by decide) hR.2.1 dX5_isPerson_8 ?_
  refine z_iconst X dX5_isPerson_9 ?_
  refine z_isub X dX5_isPerson_10 ?_
  refine z_pi (run_S (rest := []) X h (c_inI rp ⟨by decide, by decide⟩ ⟨by omega, by omega⟩) mi_X5_in ml_X5_44 ⟨Nat.le_of_ble_eq_true rfl, Nat.le_of_ble_eq_true rfl⟩ ⟨rfl, rfl⟩ (Seg.nil _) rfl hl.1 rfl (Nat.le_of_ble_eq_true rfl) ⟨Nat.zero_le _, Nat.zero_le _⟩ dX5_isPerson_11) ?_
  exact ret _ _ _ (bz_eq (by omega)) dX5_isPerson_14

set_option maxHeartbeats 4000000 in
theorem c_X5_areTwo (hR : RM mm A) (hI : IA A) {p o : Int} (rp : r32 p) (ro : r32 o) : MP E l yX5_areTwo cX5_areTwo 3 (some FieldType.boolean) (rmk 2 44) (wM E a (mm, kp, wa, (iv (ik)), fd, gf, tp, (iv (tn)), (iv (tk)), (iv (bg)), (iv (pt)), (iv (vl)), (iv (bd)), bt, sz, cl)) [.ref (a 0), .int (iv (p)), .int (iv (o))] (bz ((0 ≤ p ∧ p < pe A) ∧ (0 ≤ o ∧ o < pe A) ∧ p ≠ o)) := by
  refine goB (by decide) (Nat.le_of_ble_eq_true rfl) ?_
  intro pp e s m below meth c ls args Q ret X h hl
  have hl : lv_has ls 3 [(0, .ref (a 0)), (1, .int (iv (p))), (2, .int (iv (o)))] := hl
  refine lv_aload_n X.1 X.2.1 dX5_areTwo_0 rfl (lv_at hl 0 rfl) ?_
  refine lv_iload_n X.1 X.2.1 dX5_areTwo_1 rfl (lv_at hl 1 rfl) ?_
  refine z_pi (run_V (rest := []) X h (c_X5_isPerson (p := p) hR hI rp) mi_X5_isPerson ml_X5_48 ⟨Nat.le_of_ble_eq_true rfl, Nat.le_of_ble_eq_true rfl⟩ ⟨rfl, rfl⟩ (Seg.rfl' _) 4 0 rfl rfl rfl rfl hl.1 rfl (Nat.le_of_ble_eq_true rfl) ⟨Nat.zero_le _, Nat.zero_le _⟩ dX5_areTwo_2) ?_
  refine z_ifb_eq (tgt := 25) X dX5_areTwo_5 (by decide) (fun c_5 => ?_) (fun c_5 => ?_)
  · refine z_iconst X dX5_areTwo_25 ?_
    exact ret _ _ _ ((bz_f (by omega)).symm) dX5_areTwo_26
  · refine lv_aload_n X.1 X.2.1 dX5_areTwo_8 rfl (lv_at hl 0 rfl) ?_
    refine lv_iload_n X.1 X.2.1 dX5_areTwo_9 rfl (lv_at hl 2 rfl) ?_
    refine z_pi (run_V (rest := []) X h (c_X5_isPerson (p := o) hR hI ro) mi_X5_isPerson ml_X5_48 ⟨Nat.le_of_ble_eq_true rfl, Nat.le_of_ble_eq_true rfl⟩ ⟨rfl, rfl⟩ (Seg.rfl' _) 4 0 rfl rfl rfl rfl hl.1 rfl (Nat.le_of_ble_eq_true rfl) ⟨Nat.zero_le _, Nat.zero_le _⟩ dX5_areTwo_10) ?_
    refine z_ifb_eq (tgt := 25) X dX5_areTwo_13 (by decide) (fun c_13 => ?_) (fun c_13 => ?_)
    · refine z_iconst X dX5_areTwo_25 ?_
      exact ret _ _ _ ((bz_f (by omega)).symm) dX5_areTwo_26
    · refine lv_iload_n X.1 X.2.1 dX5_areTwo_16 rfl (lv_at hl 1 rfl) ?_
      refine lv_iload_n X.1 X.2.1 dX5_areTwo_17 rfl (lv_at hl 2 rfl) ?_
      refine z_ic_eq (tgt := 25) X rp ro dX5_areTwo_18 (by decide) (fun c_18 => ?_) (fun c_18 => ?_)
      · refine z_iconst X dX5_areTwo_25 ?_
        exact ret _ _ _ ((bz_f (by omega)).symm) dX5_areTwo_26
      · refine z_iconst X dX5_areTwo_21 ?_
        refine lv_goto (tgt := 26) X.1 X.2.1 dX5_areTwo_22 (by decide) ?_
        exact ret _ _ _ ((bz_t (by omega)).symm) dX5_areTwo_26

set_option maxHeartbeats 4000000 in
theorem c_X5_sunNow (hR : RM mm A) (hI : IA A) (hh : hr A < 1000000) : MP E l yX5_sunNow cX5_sunNow 1 (some FieldType.int) (rmk 0 0) (wM E a (mm, kp, wa, (iv (ik)), fd, gf, tp, (iv (tn)), (iv (tk)), (iv (bg)), (iv (pt)), (iv (vl)), (iv (bd)), bt, sz, cl)) [.ref (a 0)] (sunN A) := by
  refine goP (by decide) (Nat.le_of_ble_eq_true rfl) ?_
  intro pp e s m below meth c ls args Q ret X h hl
  have hl : lv_has ls 1 [(0, .ref (a 0))] := hl
  have h0 := hI.h0
  refine lv_aload_n X.1 X.2.1 dX5_sunNow_0 rfl (lv_at hl 0 rfl) ?_
  refine z_get X h 4 0 0 rfl inX5 rfl (by decide) fl_X5_9 rfl dX5_sunNow_1 ?_
  refine z_iconst X dX5_sunNow_4 ?_
  refine lv_aload_n X.1 X.2.1 dX5_sunNow_5 rfl (lv_at hl 0 rfl) ?_
  refine z_get X h 4 0 0 rfl inX5 rfl (by decide) fl_X5_9 rfl dX5_sunNow_6 ?_
  refine z_iconst X dX5_sunNow_9 ?_
  refine z_iald (v := hr A) X h 1 rfl (by omega) (by omega) (by decide) hR.1 dX5_sunNow_10 ?_
  refine z_bipush X (by decide) dX5_sunNow_11 ?_
  refine z_irem X (by omega) (by omega) (by omega) (by omega) dX5_sunNow_13 ?_
  refine z_iadd X dX5_sunNow_14 ?_
  refine z_iald (v := sn A (((hr A) % (10)))) X h 1 rfl (by omega) (by omega) (by decide) (hR.2.2.1 (((hr A) % (10))) (by omega) (by omega)) dX5_sunNow_15 ?_
  exact ret _ _ _ (rfl) dX5_sunNow_16

set_option maxHeartbeats 4000000 in
theorem c_X5_sits (hR : RM mm A) (hI : IA A) {p : Int} (p0 : 0 ≤ p) (p1 : p < pe A) : MP E l yX5_sits cX5_sits 2 (some FieldType.boolean) (rmk 1 22) (wM E a (mm, kp, wa, (iv (ik)), fd, gf, tp, (iv (tn)), (iv (tk)), (iv (bg)), (iv (pt)), (iv (vl)), (iv (bd)), bt, sz, cl)) [.ref (a 0), .int (iv (p))] (bz (0 ≤ pr A 1 p)) := by
  refine goB (by decide) (Nat.le_of_ble_eq_true rfl) ?_
  intro pp e s m below meth c ls args Q ret X h hl
  have hl : lv_has ls 2 [(0, .ref (a 0)), (1, .int (iv (p)))] := hl
  have q := hI.gP p0 p1
  refine lv_aload_n X.1 X.2.1 dX5_sits_0 rfl (lv_at hl 0 rfl) ?_
  refine lv_iload_n X.1 X.2.1 dX5_sits_1 rfl (lv_at hl 1 rfl) ?_
  refine z_iconst X dX5_sits_2 ?_
  refine z_pi (run_V (rest := []) X h (c_X5_it (p := p) (w := 1) hR hI (by omega) (by omega) (by omega) (by omega)) mi_X5_it ml_X5_52 ⟨Nat.le_of_ble_eq_true rfl, Nat.le_of_ble_eq_true rfl⟩ ⟨rfl, rfl⟩ (Seg.rfl' _) 4 0 rfl rfl rfl rfl hl.1 rfl (Nat.le_of_ble_eq_true rfl) ⟨Nat.zero_le _, Nat.zero_le _⟩ dX5_sits_3) ?_
  refine z_if_lt (tgt := 13) X ⟨by omega, by omega⟩ dX5_sits_6 (by decide) (fun c_6 => ?_) (fun c_6 => ?_)
  · refine z_iconst X dX5_sits_13 ?_
    exact ret _ _ _ ((bz_f (by omega)).symm) dX5_sits_14
  · refine z_iconst X dX5_sits_9 ?_
    refine lv_goto (tgt := 14) X.1 X.2.1 dX5_sits_10 (by decide) ?_
    exact ret _ _ _ ((bz_t (by omega)).symm) dX5_sits_14

set_option maxHeartbeats 4000000 in
theorem c_X5_onChair (hR : RM mm A) (hI : IA A) {ch : Int} (rc : r32 ch) : MP E l yX5_onChair cX5_onChair 4 (some FieldType.int) (rmk 1 22) (wM E a (mm, kp, wa, (iv (ik)), fd, gf, tp, (iv (tn)), (iv (tk)), (iv (bg)), (iv (pt)), (iv (vl)), (iv (bd)), bt, sz, cl)) [.ref (a 0), .int (iv (ch))] (onC A ch) := by
  refine goP (by decide) (Nat.le_of_ble_eq_true rfl) ?_
  intro pp e s m below meth c ls args Q ret X h hl
  have hl : lv_has ls 4 [(0, .ref (a 0)), (1, .int (iv (ch)))] := hl
  have n8 := hI.n8
  have n0 := hI.n0
  refine z_iconst X dX5_onChair_0 ?_
  refine lv_istore_n (lv' := [(2, .int (iv ((-1)))), (0, .ref (a 0)), (1, .int (iv (ch)))]) X.1 X.2.1 dX5_onChair_1 rfl hl (by decide) rfl (fun ls hl => ?_)
  refine z_iconst X dX5_onChair_2 ?_
  refine lv_istore_n (lv' := [(3, .int (iv (0))), (2, .int (iv ((-1)))), (0, .ref (a 0)), (1, .int (iv (ch)))]) X.1 X.2.1 dX5_onChair_3 rfl hl (by decide) rfl (fun ls hl => ?_)
  have L4 : ∀ (fuel_ : Nat) (i : Int) (w : Int), (0 ≤ i) → (i ≤ pe A) → (w = onk A ch i.toNat) → pe A - i < (fuel_ : Int) → ∀ ls : Array Slot, lv_has ls 4 [(0, .ref (a 0)), (1, .int (iv (ch))), (2, .int (iv (w))), (3, .int (iv (i)))] → W pp l e (rmk 1 22) s m args below meth c s.heap [] 0 0 Q (F0 m 4 ls []) := by
    intro fuel_
    induction fuel_ with
    | zero =>
      intro i w i0 i1 hw hn
      exfalso; omega
    | succ fuel_ ih =>
      intro i w i0 i1 hw hn ls hl
      have rw9 : -1 ≤ w ∧ w ≤ 8 := by have := onk_rng A ch i.toNat; have := hI.n8; omega
      refine lv_iload_n X.1 X.2.1 dX5_onChair_4 rfl (lv_at hl 3 rfl) ?_
      refine lv_aload_n X.1 X.2.1 dX5_onChair_5 rfl (lv_at hl 0 rfl) ?_
      refine z_get X h 4 0 0 rfl inX5 rfl (by decide) fl_X5_9 rfl dX5_onChair_6 ?_
      refine z_iconst X dX5_onChair_9 ?_
      refine z_iald (v := pe A) X h 1 rfl (by omega) (by omega) (by decide) hR.2.1 dX5_onChair_10 ?_
      refine z_ic_ge (tgt := 36) X ⟨by omega, by omega⟩ ⟨by omega, by omega⟩ dX5_onChair_11 (by decide) (fun c_11 => ?_) (fun c_11 => ?_)
      · refine lv_iload_n X.1 X.2.1 dX5_onChair_36 rfl (lv_at hl 2 rfl) ?_
        exact ret _ _ _ (by rw [hw, onC, show i = pe A by omega]) dX5_onChair_37
      · have q := hI.gP (p := i) (by omega) (by omega)
        refine lv_aload_n X.1 X.2.1 dX5_onChair_14 rfl (lv_at hl 0 rfl) ?_
        refine lv_iload_n X.1 X.2.1 dX5_onChair_15 rfl (lv_at hl 3 rfl) ?_
        refine z_iconst X dX5_onChair_16 ?_
        refine z_pi (run_V (rest := []) X h (c_X5_it (p := i) (w := 1) hR hI (by omega) (by omega) (by omega) (by omega)) mi_X5_it ml_X5_52 ⟨Nat.le_of_ble_eq_true rfl, Nat.le_of_ble_eq_true rfl⟩ ⟨rfl, rfl⟩ (Seg.rfl' _) 4 0 rfl rfl rfl rfl hl.1 rfl (Nat.le_of_ble_eq_true rfl) ⟨Nat.zero_le _, Nat.zero_le _⟩ dX5_onChair_17) ?_
        refine lv_iload_n X.1 X.2.1 dX5_onChair_20 rfl (lv_at hl 1 rfl) ?_
        refine z_ic_ne (tgt := 28) X ⟨by omega, by omega⟩ rc dX5_onChair_21 (by decide) (fun c_21 => ?_) (fun c_21 => ?_)
        · refine lv_iload_n X.1 X.2.1 dX5_onChair_28 rfl (lv_at hl 2 rfl) ?_
          refine lv_istore_n (lv' := [(2, .int (iv (w))), (0, .ref (a 0)), (1, .int (iv (ch))), (3, .int (iv (i)))]) X.1 X.2.1 dX5_onChair_29 rfl hl (by decide) rfl (fun ls hl => ?_)
          refine z_iinc (k := 3) (lv' := [(3, .int (iv (i + 1))), (2, .int (iv (w))), (0, .ref (a 0)), (1, .int (iv (ch)))]) X dX5_onChair_30 hl rfl (by decide) rfl (fun ls hl => ?_)
          refine lv_goto (tgt := 4) X.1 X.2.1 dX5_onChair_33 (by decide) ?_
          exact ih (i + 1) (w) (by omega) (by omega) (by rw [show (i + 1).toNat = i.toNat + 1 by omega, onk, Int.toNat_of_nonneg i0]; rw [if_neg (by omega)]; exact hw) (by omega) ls (lv_sub hl [2, 3, 1, 0] rfl)
        · refine lv_iload_n X.1 X.2.1 dX5_onChair_24 rfl (lv_at hl 3 rfl) ?_
          refine lv_goto (tgt := 29) X.1 X.2.1 dX5_onChair_25 (by decide) ?_
          refine lv_istore_n (lv' := [(2, .int (iv (i))), (0, .ref (a 0)), (1, .int (iv (ch))), (3, .int (iv (i)))]) X.1 X.2.1 dX5_onChair_29 rfl hl (by decide) rfl (fun ls hl => ?_)
          refine z_iinc (k := 3) (lv' := [(3, .int (iv (i + 1))), (2, .int (iv (i))), (0, .ref (a 0)), (1, .int (iv (ch)))]) X dX5_onChair_30 hl rfl (by decide) rfl (fun ls hl => ?_)
          refine lv_goto (tgt := 4) X.1 X.2.1 dX5_onChair_33 (by decide) ?_
          exact ih (i + 1) (i) (by omega) (by omega) (by rw [show (i + 1).toNat = i.toNat + 1 by omega, onk, Int.toNat_of_nonneg i0]; rw [if_pos (by omega)]) (by omega) ls (lv_sub hl [2, 3, 1, 0] rfl)
  exact L4 ((pe A - (0) : Int).toNat + 1) (0) (-1) (by omega) (hI.n0) (rfl) (by omega) ls (lv_sub hl [2, 3, 1, 0] rfl)
