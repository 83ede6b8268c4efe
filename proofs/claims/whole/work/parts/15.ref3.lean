variable {E : EV} {l : Launch} {a : Nat → Nat} {mm kp wa fd gf tp bt sz : Nat → Int32} {cl : Nat → Int64} {ik tn tk bg pt vl bd : Int} {A : Es} {ph : Int → Int}
set_option maxHeartbeats 4000000 in
theorem c_X5_finds (hF : RF 7 fd ph) {k f : Int} (k0 : 0 ≤ k) (k1 : k < 7) (hf : f = fz k) : MI (S := Nat → Int32) E l yX5_finds cX5_finds 2 (some FieldType.int) (rmk 0 0) (wM E a (mm, kp, wa, (iv (ik)), fd, gf, tp, (iv (tn)), (iv (tk)), (iv (bg)), (iv (pt)), (iv (vl)), (iv (bd)), bt, sz, cl)) [.ref (a 0), .int (iv (f))] (fun r u => r = iv f ∧ RF 7 u (bump ph k)) (fun u => wM E a (mm, kp, wa, (iv (ik)), u, gf, tp, (iv (tn)), (iv (tk)), (iv (bg)), (iv (pt)), (iv (vl)), (iv (bd)), bt, sz, cl)) := by
  refine goI (S := Nat → Int32) (post := fun r u => r = iv f ∧ RF 7 u (bump ph k)) (ws' := fun u => wM E a (mm, kp, wa, (iv (ik)), u, gf, tp, (iv (tn)), (iv (tk)), (iv (bg)), (iv (pt)), (iv (vl)), (iv (bd)), bt, sz, cl)) (by decide) (Nat.le_of_ble_eq_true rfl) ?_
  intro pp e s m below meth c ls args Q ret X h hl
  have hl : lv_has ls 2 [(0, .ref (a 0)), (1, .int (iv (f)))] := hl
  have hf2 : f = -1000000001 - k := hf
  have ek : -1000000001 - f = k := by omega
  refine lv_aload_n X.1 X.2.1 dX5_finds_0 rfl (lv_at hl 0 rfl) ?_
  refine z_get X h 4 0 4 rfl inX5 rfl (by decide) fl_X5_19 rfl dX5_finds_1 ?_
  refine z_ldc (z := (-1000000001)) X ct_X5_38 (by decide) dX5_finds_4 ?_
  refine lv_iload_n X.1 X.2.1 dX5_finds_6 rfl (lv_at hl 1 rfl) ?_
  refine z_isub X dX5_finds_7 ?_
  refine lv_dup2_11 X.1 X.2.1 dX5_finds_8 rfl rfl ?_
  refine z_iald (v := ph k) X h 4 rfl (by omega) (by omega) (by decide) (by rw [ek]; exact hF k k0 k1) dX5_finds_9 ?_
  refine z_iconst X dX5_finds_10 ?_
  refine z_iadd X dX5_finds_11 ?_
  refine z_iast X h 4 rfl (by omega) (by omega) (by decide) dX5_finds_12 (fun H locs h => ?_)
  have h : St E _ s H locs (wM E a (mm, kp, wa, (iv (ik)), (upd fd ((-1000000001) - f : Int).toNat (iv (ph k + 1))), gf, tp, (iv (tn)), (iv (tk)), (iv (bg)), (iv (pt)), (iv (vl)), (iv (bd)), bt, sz, cl)) := h
  refine lv_iload_n X.1 X.2.1 dX5_finds_13 rfl (lv_at hl 1 rfl) ?_
  exact ret _ _ _ _ _ ((upd fd ((-1000000001) - f : Int).toNat (iv (ph k + 1)))) h (⟨rfl, by rw [ek]; exact RF_bump hF k0⟩) dX5_finds_14

set_option maxHeartbeats 4000000 in
theorem c_X5_orNone (hF : RF 7 fd ph) {v : Int} (rv : r32 v) : MI (S := Nat → Int32) E l yX5_orNone cX5_orNone 2 (some FieldType.int) (rmk 1 21) (wM E a (mm, kp, wa, (iv (ik)), fd, gf, tp, (iv (tn)), (iv (tk)), (iv (bg)), (iv (pt)), (iv (vl)), (iv (bd)), bt, sz, cl)) [.ref (a 0), .int (iv (v))] (fun r u => r = iv (if v < 0 then fz 3 else v) ∧ RF 7 u (if v < 0 then bump ph 3 else ph)) (fun u => wM E a (mm, kp, wa, (iv (ik)), u, gf, tp, (iv (tn)), (iv (tk)), (iv (bg)), (iv (pt)), (iv (vl)), (iv (bd)), bt, sz, cl)) := by
  refine goI (S := Nat → Int32) (post := fun r u => r = iv (if v < 0 then fz 3 else v) ∧ RF 7 u (if v < 0 then bump ph 3 else ph)) (ws' := fun u => wM E a (mm, kp, wa, (iv (ik)), u, gf, tp, (iv (tn)), (iv (tk)), (iv (bg)), (iv (pt)), (iv (vl)), (iv (bd)), bt, sz, cl)) (by decide) (Nat.le_of_ble_eq_true rfl) ?_
  intro pp e s m below meth c ls args Q ret X h hl
  have hl : lv_has ls 2 [(0, .ref (a 0)), (1, .int (iv (v)))] := hl
  refine lv_iload_n X.1 X.2.1 dX5_orNone_0 rfl (lv_at hl 1 rfl) ?_
  refine z_if_ge (tgt := 13) X rv dX5_orNone_1 (by decide) (fun c_1 => ?_) (fun c_1 => ?_)
  · refine lv_iload_n X.1 X.2.1 dX5_orNone_13 rfl (lv_at hl 1 rfl) ?_
    exact ret _ _ _ _ _ (fd) h (by rw [if_neg (by omega), if_neg (by omega)]; exact ⟨rfl, hF⟩) dX5_orNone_14
  · refine lv_aload_n X.1 X.2.1 dX5_orNone_4 rfl (lv_at hl 0 rfl) ?_
    refine z_ldc (z := (-1000000004)) X ct_X5_39 (by decide) dX5_orNone_5 ?_
    refine z_ai h (run_V (rest := []) X h (c_X5_finds (k := 3) hF (by decide) (by decide) (by decide)) mi_X5_finds ml_X5_40 ⟨Nat.le_of_ble_eq_true rfl, Nat.le_of_ble_eq_true rfl⟩ ⟨rfl, rfl⟩ (Seg.rfl' _) 4 0 rfl rfl rfl rfl hl.1 rfl (Nat.le_of_ble_eq_true rfl) ⟨Nat.zero_le _, Nat.zero_le _⟩ dX5_orNone_7) (fun _ => rfl) (fun r fd1 H locs hp h => ?_)
    obtain ⟨rfl, hF1⟩ := hp
    have h : St E _ s H locs (wM E a (mm, kp, wa, (iv (ik)), fd1, gf, tp, (iv (tn)), (iv (tk)), (iv (bg)), (iv (pt)), (iv (vl)), (iv (bd)), bt, sz, cl)) := h
    refine lv_goto (tgt := 14) X.1 X.2.1 dX5_orNone_10 (by decide) ?_
    exact ret _ _ _ _ _ (fd1) h (by rw [if_pos (by omega), if_pos (by omega)]; exact ⟨rfl, hF1⟩) dX5_orNone_14

set_option maxHeartbeats 4000000 in
theorem c_X5_copyAll_m_was  : MV (S := Nat → Int32) E l yX5_copyAll cX5_copyAll 3 (rmk 0 0) (wM E a (mm, kp, wa, (iv (ik)), fd, gf, tp, (iv (tn)), (iv (tk)), (iv (bg)), (iv (pt)), (iv (vl)), (iv (bd)), bt, sz, cl)) [.ref (a 1), .ref (a 3)] (fun u => EQ52 u mm) (fun u => wM E a (mm, kp, u, (iv (ik)), fd, gf, tp, (iv (tn)), (iv (tk)), (iv (bg)), (iv (pt)), (iv (vl)), (iv (bd)), bt, sz, cl)) := by
  refine goV (S := Nat → Int32) (post := fun u => EQ52 u mm) (ws' := fun u => wM E a (mm, kp, u, (iv (ik)), fd, gf, tp, (iv (tn)), (iv (tk)), (iv (bg)), (iv (pt)), (iv (vl)), (iv (bd)), bt, sz, cl)) (by decide) (Nat.le_of_ble_eq_true rfl) ?_
  intro pp e s m below meth c ls args Q ret X h hl
  have hl : lv_has ls 3 [(0, .ref (a 1)), (1, .ref (a 3))] := hl
  refine z_iconst X dX5_copyAll_0 ?_
  refine lv_istore_n (lv' := [(2, .int (iv (0))), (0, .ref (a 1)), (1, .ref (a 3))]) X.1 X.2.1 dX5_copyAll_1 rfl hl (by decide) rfl (fun ls hl => ?_)
  have L2 : ∀ (fuel_ : Nat) (i : Int) (u : Nat → Int32), (0 ≤ i) → (i ≤ 52) → (∀ j : Nat, (j : Int) < i → u j = mm j) → 52 - i < (fuel_ : Int) → ∀ (H : Heap) (locs : List Loc), St E (wM E a (mm, kp, wa, (iv (ik)), fd, gf, tp, (iv (tn)), (iv (tk)), (iv (bg)), (iv (pt)), (iv (vl)), (iv (bd)), bt, sz, cl)) s H locs (wM E a (mm, kp, u, (iv (ik)), fd, gf, tp, (iv (tn)), (iv (tk)), (iv (bg)), (iv (pt)), (iv (vl)), (iv (bd)), bt, sz, cl)) → ∀ ls : Array Slot, lv_has ls 3 [(0, .ref (a 1)), (1, .ref (a 3)), (2, .int (iv (i)))] → W pp l e (rmk 0 0) s m args below meth c H locs 0 0 Q (F0 m 2 ls []) := by
    intro fuel_
    induction fuel_ with
    | zero =>
      intro i u i0 i1 hu hn
      exfalso; omega
    | succ fuel_ ih =>
      intro i u i0 i1 hu hn H locs h ls hl
      refine lv_iload_n X.1 X.2.1 dX5_copyAll_2 rfl (lv_at hl 2 rfl) ?_
      refine z_bipush X (by decide) dX5_copyAll_3 ?_
      refine z_ic_ge (tgt := 20) X ⟨by omega, by omega⟩ ⟨by decide, by decide⟩ dX5_copyAll_5 (by decide) (fun c_5 => ?_) (fun c_5 => ?_)
      · exact ret _ _ _ _ (u) h (fun j hj => hu j (by omega)) dX5_copyAll_20
      · refine lv_aload_n X.1 X.2.1 dX5_copyAll_8 rfl (lv_at hl 1 rfl) ?_
        refine lv_iload_n X.1 X.2.1 dX5_copyAll_9 rfl (lv_at hl 2 rfl) ?_
        refine lv_aload_n X.1 X.2.1 dX5_copyAll_10 rfl (lv_at hl 0 rfl) ?_
        refine lv_iload_n X.1 X.2.1 dX5_copyAll_11 rfl (lv_at hl 2 rfl) ?_
        refine z_iald (v := (mm (i).toNat).toInt) X h 1 rfl (by omega) (by omega) (by decide) (iv_of _).symm dX5_copyAll_12 ?_
        refine z_iast X h 3 rfl (by omega) (by omega) (by decide) dX5_copyAll_13 (fun H locs h => ?_)
        have h : St E _ s H locs (wM E a (mm, kp, (upd u (i : Int).toNat (iv ((mm (i).toNat).toInt))), (iv (ik)), fd, gf, tp, (iv (tn)), (iv (tk)), (iv (bg)), (iv (pt)), (iv (vl)), (iv (bd)), bt, sz, cl)) := h
        refine z_iinc (k := 2) (lv' := [(2, .int (iv (i + 1))), (0, .ref (a 1)), (1, .ref (a 3))]) X dX5_copyAll_14 hl rfl (by decide) rfl (fun ls hl => ?_)
        refine lv_goto (tgt := 2) X.1 X.2.1 dX5_copyAll_17 (by decide) ?_
        exact ih (i + 1) ((upd u (i : Int).toNat (iv ((mm (i).toNat).toInt)))) (by omega) (by omega) (fun j hj => by
                by_cases e : j = i.toNat
                · subst e; rw [upd_eq, iv_of]
                · rw [upd_ne e]; exact hu j (by omega)) (by omega) _ _ h ls (lv_sub hl [1, 2, 0] rfl)
  exact L2 ((52 - (0) : Int).toNat + 1) (0) (wa) (by omega) (by omega) (fun j hj => absurd hj (by omega)) (by omega) _ _ h ls (lv_sub hl [1, 2, 0] rfl)

set_option maxHeartbeats 4000000 in
theorem c_X5_copyAll_was_m  : MV (S := Nat → Int32) E l yX5_copyAll cX5_copyAll 3 (rmk 0 0) (wM E a (mm, kp, wa, (iv (ik)), fd, gf, tp, (iv (tn)), (iv (tk)), (iv (bg)), (iv (pt)), (iv (vl)), (iv (bd)), bt, sz, cl)) [.ref (a 3), .ref (a 1)] (fun u => EQ52 u wa) (fun u => wM E a (u, kp, wa, (iv (ik)), fd, gf, tp, (iv (tn)), (iv (tk)), (iv (bg)), (iv (pt)), (iv (vl)), (iv (bd)), bt, sz, cl)) := by
  refine goV (S := Nat → Int32) (post := fun u => EQ52 u wa) (ws' := fun u => wM E a (u, kp, wa, (iv (ik)), fd, gf, tp, (iv (tn)), (iv (tk)), (iv (bg)), (iv (pt)), (iv (vl)), (iv (bd)), bt, sz, cl)) (by decide) (Nat.le_of_ble_eq_true rfl) ?_
  intro pp e s m below meth c ls args Q ret X h hl
  have hl : lv_has ls 3 [(0, .ref (a 3)), (1, .ref (a 1))] := hl
  refine z_iconst X dX5_copyAll_0 ?_
  refine lv_istore_n (lv' := [(2, .int (iv (0))), (0, .ref (a 3)), (1, .ref (a 1))]) X.1 X.2.1 dX5_copyAll_1 rfl hl (by decide) rfl (fun ls hl => ?_)
  have L2 : ∀ (fuel_ : Nat) (i : Int) (u : Nat → Int32), (0 ≤ i) → (i ≤ 52) → (∀ j : Nat, (j : Int) < i → u j = wa j) → 52 - i < (fuel_ : Int) → ∀ (H : Heap) (locs : List Loc), St E (wM E a (mm, kp, wa, (iv (ik)), fd, gf, tp, (iv (tn)), (iv (tk)), (iv (bg)), (iv (pt)), (iv (vl)), (iv (bd)), bt, sz, cl)) s H locs (wM E a (u, kp, wa, (iv (ik)), fd, gf, tp, (iv (tn)), (iv (tk)), (iv (bg)), (iv (pt)), (iv (vl)), (iv (bd)), bt, sz, cl)) → ∀ ls : Array Slot, lv_has ls 3 [(0, .ref (a 3)), (1, .ref (a 1)), (2, .int (iv (i)))] → W pp l e (rmk 0 0) s m args below meth c H locs 0 0 Q (F0 m 2 ls []) := by
    intro fuel_
    induction fuel_ with
    | zero =>
      intro i u i0 i1 hu hn
      exfalso; omega
    | succ fuel_ ih =>
      intro i u i0 i1 hu hn H locs h ls hl
      refine lv_iload_n X.1 X.2.1 dX5_copyAll_2 rfl (lv_at hl 2 rfl) ?_
      refine z_bipush X (by decide) dX5_copyAll_3 ?_
      refine z_ic_ge (tgt := 20) X ⟨by omega, by omega⟩ ⟨by decide, by decide⟩ dX5_copyAll_5 (by decide) (fun c_5 => ?_) (fun c_5 => ?_)
      · exact ret _ _ _ _ (u) h (fun j hj => hu j (by omega)) dX5_copyAll_20
      · refine lv_aload_n X.1 X.2.1 dX5_copyAll_8 rfl (lv_at hl 1 rfl) ?_
        refine lv_iload_n X.1 X.2.1 dX5_copyAll_9 rfl (lv_at hl 2 rfl) ?_
        refine lv_aload_n X.1 X.2.1 dX5_copyAll_10 rfl (lv_at hl 0 rfl) ?_
        refine lv_iload_n X.1 X.2.1 dX5_copyAll_11 rfl (lv_at hl 2 rfl) ?_
        refine z_iald (v := (wa (i).toNat).toInt) X h 3 rfl (by omega) (by omega) (by decide) (iv_of _).symm dX5_copyAll_12 ?_
        refine z_iast X h 1 rfl (by omega) (by omega) (by decide) dX5_copyAll_13 (fun H locs h => ?_)
        have h : St E _ s H locs (wM E a ((upd u (i : Int).toNat (iv ((wa (i).toNat).toInt))), kp, wa, (iv (ik)), fd, gf, tp, (iv (tn)), (iv (tk)), (iv (bg)), (iv (pt)), (iv (vl)), (iv (bd)), bt, sz, cl)) := h
        refine z_iinc (k := 2) (lv' := [(2, .int (iv (i + 1))), (0, .ref (a 3)), (1, .ref (a 1))]) X dX5_copyAll_14 hl rfl (by decide) rfl (fun ls hl => ?_)
        refine lv_goto (tgt := 2) X.1 X.2.1 dX5_copyAll_17 (by decide) ?_
        exact ih (i + 1) ((upd u (i : Int).toNat (iv ((wa (i).toNat).toInt)))) (by omega) (by omega) (fun j hj => by
                by_cases e : j = i.toNat
                · subst e; rw [upd_eq, iv_of]
                · rw [upd_ne e]; exact hu j (by omega)) (by omega) _ _ h ls (lv_sub hl [1, 2, 0] rfl)
  exact L2 ((52 - (0) : Int).toNat + 1) (0) (mm) (by omega) (by omega) (fun j hj => absurd hj (by omega)) (by omega) _ _ h ls (lv_sub hl [1, 2, 0] rfl)

set_option maxHeartbeats 4000000 in
theorem c_X5_copyAll_m_kept  : MV (S := Nat → Int32) E l yX5_copyAll cX5_copyAll 3 (rmk 0 0) (wM E a (mm, kp, wa, (iv (ik)), fd, gf, tp, (iv (tn)), (iv (tk)), (iv (bg)), (iv (pt)), (iv (vl)), (iv (bd)), bt, sz, cl)) [.ref (a 1), .ref (a 2)] (fun u => EQ52 u mm) (fun u => wM E a (mm, u, wa, (iv (ik)), fd, gf, tp, (iv (tn)), (iv (tk)), (iv (bg)), (iv (pt)), (iv (vl)), (iv (bd)), bt, sz, cl)) := by
  refine goV (S := Nat → Int32) (post := fun u => EQ52 u mm) (ws' := fun u => wM E a (mm, u, wa, (iv (ik)), fd, gf, tp, (iv (tn)), (iv (tk)), (iv (bg)), (iv (pt)), (iv (vl)), (iv (bd)), bt, sz, cl)) (by decide) (Nat.le_of_ble_eq_true rfl) ?_
  intro pp e s m below meth c ls args Q ret X h hl
  have hl : lv_has ls 3 [(0, .ref (a 1)), (1, .ref (a 2))] := hl
  refine z_iconst X dX5_copyAll_0 ?_
  refine lv_istore_n (lv' := [(2, .int (iv (0))), (0, .ref (a 1)), (1, .ref (a 2))]) X.1 X.2.1 dX5_copyAll_1 rfl hl (by decide) rfl (fun ls hl => ?_)
  have L2 : ∀ (fuel_ : Nat) (i : Int) (u : Nat → Int32), (0 ≤ i) → (i ≤ 52) → (∀ j : Nat, (j : Int) < i → u j = mm j) → 52 - i < (fuel_ : Int) → ∀ (H : Heap) (locs : List Loc), St E (wM E a (mm, kp, wa, (iv (ik)), fd, gf, tp, (iv (tn)), (iv (tk)), (iv (bg)), (iv (pt)), (iv (vl)), (iv (bd)), bt, sz, cl)) s H locs (wM E a (mm, u, wa, (iv (ik)), fd, gf, tp, (iv (tn)), (iv (tk)), (iv (bg)), (iv (pt)), (iv (vl)), (iv (bd)), bt, sz, cl)) → ∀ ls : Array Slot, lv_has ls 3 [(0, .ref (a 1)), (1, .ref (a 2)), (2, .int (iv (i)))] → W pp l e (rmk 0 0) s m args below meth c H locs 0 0 Q (F0 m 2 ls []) := by
    intro fuel_
    induction fuel_ with
    | zero =>
      intro i u i0 i1 hu hn
      exfalso; omega
    | succ fuel_ ih =>
      intro i u i0 i1 hu hn H locs h ls hl
      refine lv_iload_n X.1 X.2.1 dX5_copyAll_2 rfl (lv_at hl 2 rfl) ?_
      refine z_bipush X (by decide) dX5_copyAll_3 ?_
      refine z_ic_ge (tgt := 20) X ⟨by omega, by omega⟩ ⟨by decide, by decide⟩ dX5_copyAll_5 (by decide) (fun c_5 => ?_) (fun c_5 => ?_)
      · exact ret _ _ _ _ (u) h (fun j hj => hu j (by omega)) dX5_copyAll_20
      · refine lv_aload_n X.1 X.2.1 dX5_copyAll_8 rfl (lv_at hl 1 rfl) ?_
        refine lv_iload_n X.1 X.2.1 dX5_copyAll_9 rfl (lv_at hl 2 rfl) ?_
        refine lv_aload_n X.1 X.2.1 dX5_copyAll_10 rfl (lv_at hl 0 rfl) ?_
        refine lv_iload_n X.1 X.2.1 dX5_copyAll_11 rfl (lv_at hl 2 rfl) ?_
        refine z_iald (v := (mm (i).toNat).toInt) X h 1 rfl (by omega) (by omega) (by decide) (iv_of _).symm dX5_copyAll_12 ?_
        refine z_iast X h 2 rfl (by omega) (by omega) (by decide) dX5_copyAll_13 (fun H locs h => ?_)
        have h : St E _ s H locs (wM E a (mm, (upd u (i : Int).toNat (iv ((mm (i).toNat).toInt))), wa, (iv (ik)), fd, gf, tp, (iv (tn)), (iv (tk)), (iv (bg)), (iv (pt)), (iv (vl)), (iv (bd)), bt, sz, cl)) := h
        refine z_iinc (k := 2) (lv' := [(2, .int (iv (i + 1))), (0, .ref (a 1)), (1, .ref (a 2))]) X dX5_copyAll_14 hl rfl (by decide) rfl (fun ls hl => ?_)
        refine lv_goto (tgt := 2) X.1 X.2.1 dX5_copyAll_17 (by decide) ?_
        exact ih (i + 1) ((upd u (i : Int).toNat (iv ((mm (i).toNat).toInt)))) (by omega) (by omega) (fun j hj => by
                by_cases e : j = i.toNat
                · subst e; rw [upd_eq, iv_of]
                · rw [upd_ne e]; exact hu j (by omega)) (by omega) _ _ h ls (lv_sub hl [1, 2, 0] rfl)
  exact L2 ((52 - (0) : Int).toNat + 1) (0) (kp) (by omega) (by omega) (fun j hj => absurd hj (by omega)) (by omega) _ _ h ls (lv_sub hl [1, 2, 0] rfl)

set_option maxHeartbeats 4000000 in
theorem c_X5_copyAll_kept_m  : MV (S := Nat → Int32) E l yX5_copyAll cX5_copyAll 3 (rmk 0 0) (wM E a (mm, kp, wa, (iv (ik)), fd, gf, tp, (iv (tn)), (iv (tk)), (iv (bg)), (iv (pt)), (iv (vl)), (iv (bd)), bt, sz, cl)) [.ref (a 2), .ref (a 1)] (fun u => EQ52 u kp) (fun u => wM E a (u, kp, wa, (iv (ik)), fd, gf, tp, (iv (tn)), (iv (tk)), (iv (bg)), (iv (pt)), (iv (vl)), (iv (bd)), bt, sz, cl)) := by
  refine goV (S := Nat → Int32) (post := fun u => EQ52 u kp) (ws' := fun u => wM E a (u, kp, wa, (iv (ik)), fd, gf, tp, (iv (tn)), (iv (tk)), (iv (bg)), (iv (pt)), (iv (vl)), (iv (bd)), bt, sz, cl)) (by decide) (Nat.le_of_ble_eq_true rfl) ?_
  intro pp e s m below meth c ls args Q ret X h hl
  have hl : lv_has ls 3 [(0, .ref (a 2)), (1, .ref (a 1))] := hl
  refine z_iconst X dX5_copyAll_0 ?_
  refine lv_istore_n (lv' := [(2, .int (iv (0))), (0, .ref (a 2)), (1, .ref (a 1))]) X.1 X.2.1 dX5_copyAll_1 rfl hl (by decide) rfl (fun ls hl => ?_)
  have L2 : ∀ (fuel_ : Nat) (i : Int) (u : Nat → Int32), (0 ≤ i) → (i ≤ 52) → (∀ j : Nat, (j : Int) < i → u j = kp j) → 52 - i < (fuel_ : Int) → ∀ (H : Heap) (locs : List Loc), St E (wM E a (mm, kp, wa, (iv (ik)), fd, gf, tp, (iv (tn)), (iv (tk)), (iv (bg)), (iv (pt)), (iv (vl)), (iv (bd)), bt, sz, cl)) s H locs (wM E a (u, kp, wa, (iv (ik)), fd, gf, tp, (iv (tn)), (iv (tk)), (iv (bg)), (iv (pt)), (iv (vl)), (iv (bd)), bt, sz, cl)) → ∀ ls : Array Slot, lv_has ls 3 [(0, .ref (a 2)), (1, .ref (a 1)), (2, .int (iv (i)))] → W pp l e (rmk 0 0) s m args below meth c H locs 0 0 Q (F0 m 2 ls []) := by
    intro fuel_
    induction fuel_ with
    | zero =>
      intro i u i0 i1 hu hn
      exfalso; omega
    | succ fuel_ ih =>
      intro i u i0 i1 hu hn H locs h ls hl
      refine lv_iload_n X.1 X.2.1 dX5_copyAll_2 rfl (lv_at hl 2 rfl) ?_
      refine z_bipush X (by decide) dX5_copyAll_3 ?_
      refine z_ic_ge (tgt := 20) X ⟨by omega, by omega⟩ ⟨by decide, by decide⟩ dX5_copyAll_5 (by decide) (fun c_5 => ?_) (fun c_5 => ?_)
      · exact ret _ _ _ _ (u) h (fun j hj => hu j (by omega)) dX5_copyAll_20
      · refine lv_aload_n X.1 X.2.1 dX5_copyAll_8 rfl (lv_at hl 1 rfl) ?_
        refine lv_iload_n X.1 X.2.1 dX5_copyAll_9 rfl (lv_at hl 2 rfl) ?_
        refine lv_aload_n X.1 X.2.1 dX5_copyAll_10 rfl (lv_at hl 0 rfl) ?_
        refine lv_iload_n X.1 X.2.1 dX5_copyAll_11 rfl (lv_at hl 2 rfl) ?_
        refine z_iald (v := (kp (i).toNat).toInt) X h 2 rfl (by omega) (by omega) (by decide) (iv_of _).symm dX5_copyAll_12 ?_
        refine z_iast X h 1 rfl (by omega) (by omega) (by decide) dX5_copyAll_13 (fun H locs h => ?_)
        have h : St E _ s H locs (wM E a ((upd u (i : Int).toNat (iv ((kp (i).toNat).toInt))), kp, wa, (iv (ik)), fd, gf, tp, (iv (tn)), (iv (tk)), (iv (bg)), (iv (pt)), (iv (vl)), (iv (bd)), bt, sz, cl)) := h
        refine z_iinc (k := 2) (lv' := [(2, .int (iv (i + 1))), (0, .ref (a 2)), (1, .ref (a 1))]) X dX5_copyAll_14 hl rfl (by decide) rfl (fun ls hl => ?_)
        refine lv_goto (tgt := 2) X.1 X.2.1 dX5_copyAll_17 (by decide) ?_
        exact ih (i + 1) ((upd u (i : Int).toNat (iv ((kp (i).toNat).toInt)))) (by omega) (by omega) (fun j hj => by
                by_cases e : j = i.toNat
                · subst e; rw [upd_eq, iv_of]
                · rw [upd_ne e]; exact hu j (by omega)) (by omega) _ _ h ls (lv_sub hl [1, 2, 0] rfl)
  exact L2 ((52 - (0) : Int).toNat + 1) (0) (mm) (by omega) (by omega) (fun j hj => absurd hj (by omega)) (by omega) _ _ h ls (lv_sub hl [1, 2, 0] rfl)

set_option maxHeartbeats 4000000 in
theorem c_X5_thinks  : MV (S := Nat → Int32) E l yX5_thinks cX5_thinks 1 (rmk 1 22) (wM E a (mm, kp, wa, (iv (ik)), fd, gf, tp, (iv (tn)), (iv (tk)), (iv (bg)), (iv (pt)), (iv (vl)), (iv (bd)), bt, sz, cl)) [.ref (a 0)] (fun u => EQ52 u mm) (fun u => wM E a (mm, kp, u, (iv (ik)), fd, gf, tp, (iv (tn)), (iv (tk)), (iv (bg)), (iv (pt)), (iv (vl)), (iv (bd)), bt, sz, cl)) := by
  refine goV (S := Nat → Int32) (post := fun u => EQ52 u mm) (ws' := fun u => wM E a (mm, kp, u, (iv (ik)), fd, gf, tp, (iv (tn)), (iv (tk)), (iv (bg)), (iv (pt)), (iv (vl)), (iv (bd)), bt, sz, cl)) (by decide) (Nat.le_of_ble_eq_true rfl) ?_
  intro pp e s m below meth c ls args Q ret X h hl
  have hl : lv_has ls 1 [(0, .ref (a 0))] := hl
  refine lv_aload_n X.1 X.2.1 dX5_thinks_0 rfl (lv_at hl 0 rfl) ?_
  refine z_get X h 4 0 0 rfl inX5 rfl (by decide) fl_X5_9 rfl dX5_thinks_1 ?_
  refine lv_aload_n X.1 X.2.1 dX5_thinks_4 rfl (lv_at hl 0 rfl) ?_
  refine z_get X h 4 0 2 rfl inX5 rfl (by decide) fl_X5_16 rfl dX5_thinks_5 ?_
  refine z_av h (run_S (rest := []) X h (c_X5_copyAll_m_was) mi_X5_copyAll ml_X5_135 ⟨Nat.le_of_ble_eq_true rfl, Nat.le_of_ble_eq_true rfl⟩ ⟨rfl, rfl⟩ (Seg.rfl' _) rfl hl.1 rfl (Nat.le_of_ble_eq_true rfl) ⟨Nat.zero_le _, Nat.zero_le _⟩ dX5_thinks_8) (fun _ => rfl) (fun cp1 H locs hp1 h => ?_)
  have h : St E _ s H locs (wM E a (mm, kp, cp1, (iv (ik)), fd, gf, tp, (iv (tn)), (iv (tk)), (iv (bg)), (iv (pt)), (iv (vl)), (iv (bd)), bt, sz, cl)) := h
  exact ret _ _ _ _ (cp1) h (hp1) dX5_thinks_11

set_option maxHeartbeats 4000000 in
theorem c_X5_putsBack  : MV (S := Nat → Int32) E l yX5_putsBack cX5_putsBack 1 (rmk 1 22) (wM E a (mm, kp, wa, (iv (ik)), fd, gf, tp, (iv (tn)), (iv (tk)), (iv (bg)), (iv (pt)), (iv (vl)), (iv (bd)), bt, sz, cl)) [.ref (a 0)] (fun u => EQ52 u wa) (fun u => wM E a (u, kp, wa, (iv (ik)), fd, gf, tp, (iv (tn)), (iv (tk)), (iv (bg)), (iv (pt)), (iv (vl)), (iv (bd)), bt, sz, cl)) := by
  refine goV (S := Nat → Int32) (post := fun u => EQ52 u wa) (ws' := fun u => wM E a (u, kp, wa, (iv (ik)), fd, gf, tp, (iv (tn)), (iv (tk)), (iv (bg)), (iv (pt)), (iv (vl)), (iv (bd)), bt, sz, cl)) (by decide) (Nat.le_of_ble_eq_true rfl) ?_
  intro pp e s m below meth c ls args Q ret X h hl
  have hl : lv_has ls 1 [(0, .ref (a 0))] := hl
  refine lv_aload_n X.1 X.2.1 dX5_putsBack_0 rfl (lv_at hl 0 rfl) ?_
  refine z_get X h 4 0 2 rfl inX5 rfl (by decide) fl_X5_16 rfl dX5_putsBack_1 ?_
  refine lv_aload_n X.1 X.2.1 dX5_putsBack_4 rfl (lv_at hl 0 rfl) ?_
  refine z_get X h 4 0 0 rfl inX5 rfl (by decide) fl_X5_9 rfl dX5_putsBack_5 ?_
  refine z_av h (run_S (rest := []) X h (c_X5_copyAll_was_m) mi_X5_copyAll ml_X5_135 ⟨Nat.le_of_ble_eq_true rfl, Nat.le_of_ble_eq_true rfl⟩ ⟨rfl, rfl⟩ (Seg.rfl' _) rfl hl.1 rfl (Nat.le_of_ble_eq_true rfl) ⟨Nat.zero_le _, Nat.zero_le _⟩ dX5_putsBack_8) (fun _ => rfl) (fun cp1 H locs hp1 h => ?_)
  have h : St E _ s H locs (wM E a (cp1, kp, wa, (iv (ik)), fd, gf, tp, (iv (tn)), (iv (tk)), (iv (bg)), (iv (pt)), (iv (vl)), (iv (bd)), bt, sz, cl)) := h
  exact ret _ _ _ _ (cp1) h (hp1) dX5_putsBack_11

set_option maxHeartbeats 4000000 in
theorem c_X5_becomes {i v x : Int} (i0 : 0 ≤ i) (i1 : i < 52) (hx : mm i.toNat = iv x) : MI (S := Nat → Int32) E l yX5_becomes cX5_becomes 4 (some FieldType.int) (rmk 0 0) (wM E a (mm, kp, wa, (iv (ik)), fd, gf, tp, (iv (tn)), (iv (tk)), (iv (bg)), (iv (pt)), (iv (vl)), (iv (bd)), bt, sz, cl)) [.ref (a 0), .int (iv (i)), .int (iv (v))] (fun r u => r = iv x ∧ u = upd mm i.toNat (iv v)) (fun u => wM E a (u, kp, wa, (iv (ik)), fd, gf, tp, (iv (tn)), (iv (tk)), (iv (bg)), (iv (pt)), (iv (vl)), (iv (bd)), bt, sz, cl)) := by
  refine goI (S := Nat → Int32) (post := fun r u => r = iv x ∧ u = upd mm i.toNat (iv v)) (ws' := fun u => wM E a (u, kp, wa, (iv (ik)), fd, gf, tp, (iv (tn)), (iv (tk)), (iv (bg)), (iv (pt)), (iv (vl)), (iv (bd)), bt, sz, cl)) (by decide) (Nat.le_of_ble_eq_true rfl) ?_
  intro pp e s m below meth c ls args Q ret X h hl
  have hl : lv_has ls 4 [(0, .ref (a 0)), (1, .int (iv (i))), (2, .int (iv (v)))] := hl
  refine lv_aload_n X.1 X.2.1 dX5_becomes_0 rfl (lv_at hl 0 rfl) ?_
  refine z_get X h 4 0 0 rfl inX5 rfl (by decide) fl_X5_9 rfl dX5_becomes_1 ?_
  refine lv_iload_n X.1 X.2.1 dX5_becomes_4 rfl (lv_at hl 1 rfl) ?_
  refine z_iald (v := x) X h 1 rfl (by omega) (by omega) (by decide) hx dX5_becomes_5 ?_
  refine lv_istore_n (lv' := [(3, .int (iv (x))), (0, .ref (a 0)), (1, .int (iv (i))), (2, .int (iv (v)))]) X.1 X.2.1 dX5_becomes_6 rfl hl (by decide) rfl (fun ls hl => ?_)
  refine lv_aload_n X.1 X.2.1 dX5_becomes_7 rfl (lv_at hl 1 rfl) ?_
  refine z_get X h 4 0 0 rfl inX5 rfl (by decide) fl_X5_9 rfl dX5_becomes_8 ?_
  refine lv_iload_n X.1 X.2.1 dX5_becomes_11 rfl (lv_at hl 2 rfl) ?_
  refine lv_iload_n X.1 X.2.1 dX5_becomes_12 rfl (lv_at hl 3 rfl) ?_
  refine z_iast X h 1 rfl (by omega) (by omega) (by decide) dX5_becomes_13 (fun H locs h => ?_)
  have h : St E _ s H locs (wM E a ((upd mm (i : Int).toNat (iv (v))), kp, wa, (iv (ik)), fd, gf, tp, (iv (tn)), (iv (tk)), (iv (bg)), (iv (pt)), (iv (vl)), (iv (bd)), bt, sz, cl)) := h
  refine lv_iload_n X.1 X.2.1 dX5_becomes_14 rfl (lv_at hl 0 rfl) ?_
  exact ret _ _ _ _ _ ((upd mm (i : Int).toNat (iv (v)))) h (⟨rfl, rfl⟩) dX5_becomes_15

set_option maxHeartbeats 4000000 in
theorem c_X5_put (hR : RM mm A) (n8 : pe A ≤ 8) {p w v : Int} (p0 : 0 ≤ p) (p1 : p < pe A) (w0 : 0 ≤ w) (w1 : w < 5) : MV (S := Nat → Int32) E l yX5_put cX5_put 4 (rmk 0 0) (wM E a (mm, kp, wa, (iv (ik)), fd, gf, tp, (iv (tn)), (iv (tk)), (iv (bg)), (iv (pt)), (iv (vl)), (iv (bd)), bt, sz, cl)) [.ref (a 0), .int (iv (p)), .int (iv (w)), .int (iv (v))] (fun u => RM u (pu A w p v)) (fun u => wM E a (u, kp, wa, (iv (ik)), fd, gf, tp, (iv (tn)), (iv (tk)), (iv (bg)), (iv (pt)), (iv (vl)), (iv (bd)), bt, sz, cl)) := by
  refine goV (S := Nat → Int32) (post := fun u => RM u (pu A w p v)) (ws' := fun u => wM E a (u, kp, wa, (iv (ik)), fd, gf, tp, (iv (tn)), (iv (tk)), (iv (bg)), (iv (pt)), (iv (vl)), (iv (bd)), bt, sz, cl)) (by decide) (Nat.le_of_ble_eq_true rfl) ?_
  intro pp e s m below meth c ls args Q ret X h hl
  have hl : lv_has ls 4 [(0, .ref (a 0)), (1, .int (iv (p))), (2, .int (iv (w))), (3, .int (iv (v)))] := hl
  refine lv_aload_n X.1 X.2.1 dX5_put_0 rfl (lv_at hl 0 rfl) ?_
  refine z_get X h 4 0 0 rfl inX5 rfl (by decide) fl_X5_9 rfl dX5_put_1 ?_
  refine z_bipush X (by decide) dX5_put_4 ?_
  refine z_iconst X dX5_put_6 ?_
  refine lv_iload_n X.1 X.2.1 dX5_put_7 rfl (lv_at hl 1 rfl) ?_
  refine z_imul X dX5_put_8 ?_
  refine z_iadd X dX5_put_9 ?_
  refine lv_iload_n X.1 X.2.1 dX5_put_10 rfl (lv_at hl 2 rfl) ?_
  refine z_iadd X dX5_put_11 ?_
  refine lv_iload_n X.1 X.2.1 dX5_put_12 rfl (lv_at hl 3 rfl) ?_
  refine z_iast X h 1 rfl (by omega) (by omega) (by decide) dX5_put_13 (fun H locs h => ?_)
  have h : St E _ s H locs (wM E a ((upd mm (12 + (5 * p) + w : Int).toNat (iv (v))), kp, wa, (iv (ik)), fd, gf, tp, (iv (tn)), (iv (tk)), (iv (bg)), (iv (pt)), (iv (vl)), (iv (bd)), bt, sz, cl)) := h
  exact ret _ _ _ _ ((upd mm (12 + (5 * p) + w : Int).toNat (iv (v)))) h (RM_pu hR w0 w1 p0 p1) dX5_put_14

set_option maxHeartbeats 4000000 in
theorem c_X5_comesAs (hR : RM mm A) (n0 : 0 ≤ pe A) (n8 : pe A < 8) {k b ch : Int} : MI (S := Nat → Int32) E l yX5_comesAs cX5_comesAs 5 (some FieldType.int) (rmk 1 23) (wM E a (mm, kp, wa, (iv (ik)), fd, gf, tp, (iv (tn)), (iv (tk)), (iv (bg)), (iv (pt)), (iv (vl)), (iv (bd)), bt, sz, cl)) [.ref (a 0), .int (iv (k)), .int (iv (b)), .int (iv (ch))] (fun r u => r = iv (pe A) ∧ RM u (nwc A k b ch)) (fun u => wM E a (u, kp, wa, (iv (ik)), fd, gf, tp, (iv (tn)), (iv (tk)), (iv (bg)), (iv (pt)), (iv (vl)), (iv (bd)), bt, sz, cl)) := by
  refine goI (S := Nat → Int32) (post := fun r u => r = iv (pe A) ∧ RM u (nwc A k b ch)) (ws' := fun u => wM E a (u, kp, wa, (iv (ik)), fd, gf, tp, (iv (tn)), (iv (tk)), (iv (bg)), (iv (pt)), (iv (vl)), (iv (bd)), bt, sz, cl)) (by decide) (Nat.le_of_ble_eq_true rfl) ?_
  intro pp e s m below meth c ls args Q ret X h hl
  have hl : lv_has ls 5 [(0, .ref (a 0)), (1, .int (iv (k))), (2, .int (iv (b))), (3, .int (iv (ch)))] := hl
  refine lv_aload_n X.1 X.2.1 dX5_comesAs_0 rfl (lv_at hl 0 rfl) ?_
  refine z_get X h 4 0 0 rfl inX5 rfl (by decide) fl_X5_9 rfl dX5_comesAs_1 ?_
  refine z_iconst X dX5_comesAs_4 ?_
  refine z_iald (v := pe A) X h 1 rfl (by omega) (by omega) (by decide) hR.2.1 dX5_comesAs_5 ?_
  refine lv_istore (lv' := [(4, .int (iv (pe A))), (0, .ref (a 0)), (1, .int (iv (k))), (2, .int (iv (b))), (3, .int (iv (ch)))]) X.1 X.2.1 dX5_comesAs_6 hl (by decide) rfl (fun ls hl => ?_)
  refine lv_aload_n X.1 X.2.1 dX5_comesAs_8 rfl (lv_at hl 1 rfl) ?_
  refine z_get X h 4 0 0 rfl inX5 rfl (by decide) fl_X5_9 rfl dX5_comesAs_9 ?_
  refine z_iconst X dX5_comesAs_12 ?_
  refine lv_dup2_11 X.1 X.2.1 dX5_comesAs_13 rfl rfl ?_
  refine z_iald (v := pe A) X h 1 rfl (by omega) (by omega) (by decide) hR.2.1 dX5_comesAs_14 ?_
  refine z_iconst X dX5_comesAs_15 ?_
  refine z_iadd X dX5_comesAs_16 ?_
  refine z_iast X h 1 rfl (by omega) (by omega) (by decide) dX5_comesAs_17 (fun H locs h => ?_)
  have h : St E _ s H locs (wM E a ((upd mm (1 : Int).toNat (iv (pe A + 1))), kp, wa, (iv (ik)), fd, gf, tp, (iv (tn)), (iv (tk)), (iv (bg)), (iv (pt)), (iv (vl)), (iv (bd)), bt, sz, cl)) := h
  have hR0 := RM_inc hR n0
  have pe1 : pe (inc1 mm A) = pe A + 1 := rfl
  refine lv_aload_n X.1 X.2.1 dX5_comesAs_18 rfl (lv_at hl 1 rfl) ?_
  refine lv_iload X.1 X.2.1 dX5_comesAs_19 (lv_at hl 0 rfl) ?_
  refine z_iconst X dX5_comesAs_21 ?_
  refine lv_iload_n X.1 X.2.1 dX5_comesAs_22 rfl (lv_at hl 2 rfl) ?_
  refine z_av h (run_V (rest := []) X h (c_X5_put (p := (pe A)) (w := 0) (v := k) hR0 (show pe (inc1 mm A) ≤ 8 by show pe A + 1 ≤ 8; omega) (by omega) (by first | omega | (show (pe A) < pe A; omega)) (by omega) (by omega)) mi_X5_put ml_X5_91 ⟨Nat.le_of_ble_eq_true rfl, Nat.le_of_ble_eq_true rfl⟩ ⟨rfl, rfl⟩ (Seg.rfl' _) 4 0 rfl rfl rfl rfl hl.1 rfl (Nat.le_of_ble_eq_true rfl) ⟨Nat.zero_le _, Nat.zero_le _⟩ dX5_comesAs_23) (fun _ => rfl) (fun mp1 H locs hR1 h => ?_)
  have h : St E _ s H locs (wM E a (mp1, kp, wa, (iv (ik)), fd, gf, tp, (iv (tn)), (iv (tk)), (iv (bg)), (iv (pt)), (iv (vl)), (iv (bd)), bt, sz, cl)) := h
  have pe2 : pe (pu (inc1 mm A) 0 (pe A) k) = pe A + 1 := rfl
  refine lv_aload_n X.1 X.2.1 dX5_comesAs_26 rfl (lv_at hl 1 rfl) ?_
  refine lv_iload X.1 X.2.1 dX5_comesAs_27 (lv_at hl 0 rfl) ?_
  refine z_iconst X dX5_comesAs_29 ?_
  refine lv_iload_n X.1 X.2.1 dX5_comesAs_30 rfl (lv_at hl 4 rfl) ?_
  refine z_av h (run_V (rest := []) X h (c_X5_put (p := (pe A)) (w := 1) (v := ch) hR1 (show pe (pu (inc1 mm A) 0 (pe A) k) ≤ 8 by rw [pe2]; omega) (by omega) (by first | omega | (show (pe A) < pe A; omega)) (by omega) (by omega)) mi_X5_put ml_X5_91 ⟨Nat.le_of_ble_eq_true rfl, Nat.le_of_ble_eq_true rfl⟩ ⟨rfl, rfl⟩ (Seg.rfl' _) 4 0 rfl rfl rfl rfl hl.1 rfl (Nat.le_of_ble_eq_true rfl) ⟨Nat.zero_le _, Nat.zero_le _⟩ dX5_comesAs_31) (fun _ => rfl) (fun mp2 H locs hR2 h => ?_)
  have h : St E _ s H locs (wM E a (mp2, kp, wa, (iv (ik)), fd, gf, tp, (iv (tn)), (iv (tk)), (iv (bg)), (iv (pt)), (iv (vl)), (iv (bd)), bt, sz, cl)) := h
  have pe3 : pe (pu (pu (inc1 mm A) 0 (pe A) k) 1 (pe A) ch) = pe A + 1 := rfl
  refine lv_aload_n X.1 X.2.1 dX5_comesAs_34 rfl (lv_at hl 1 rfl) ?_
  refine lv_iload X.1 X.2.1 dX5_comesAs_35 (lv_at hl 0 rfl) ?_
  refine z_iconst X dX5_comesAs_37 ?_
  refine lv_iload_n X.1 X.2.1 dX5_comesAs_38 rfl (lv_at hl 3 rfl) ?_
  refine z_av h (run_V (rest := []) X h (c_X5_put (p := (pe A)) (w := 2) (v := b) hR2 (show pe (pu (pu (inc1 mm A) 0 (pe A) k) 1 (pe A) ch) ≤ 8 by rw [pe3]; omega) (by omega) (by first | omega | (show (pe A) < pe A; omega)) (by omega) (by omega)) mi_X5_put ml_X5_91 ⟨Nat.le_of_ble_eq_true rfl, Nat.le_of_ble_eq_true rfl⟩ ⟨rfl, rfl⟩ (Seg.rfl' _) 4 0 rfl rfl rfl rfl hl.1 rfl (Nat.le_of_ble_eq_true rfl) ⟨Nat.zero_le _, Nat.zero_le _⟩ dX5_comesAs_39) (fun _ => rfl) (fun mp3 H locs hR3 h => ?_)
  have h : St E _ s H locs (wM E a (mp3, kp, wa, (iv (ik)), fd, gf, tp, (iv (tn)), (iv (tk)), (iv (bg)), (iv (pt)), (iv (vl)), (iv (bd)), bt, sz, cl)) := h
  have pe4 : pe (pu (pu (pu (inc1 mm A) 0 (pe A) k) 1 (pe A) ch) 2 (pe A) b) = pe A + 1 := rfl
  refine lv_aload_n X.1 X.2.1 dX5_comesAs_42 rfl (lv_at hl 1 rfl) ?_
  refine lv_iload X.1 X.2.1 dX5_comesAs_43 (lv_at hl 0 rfl) ?_
  refine z_iconst X dX5_comesAs_45 ?_
  refine lv_iload_n X.1 X.2.1 dX5_comesAs_46 rfl (lv_at hl 3 rfl) ?_
  refine z_av h (run_V (rest := []) X h (c_X5_put (p := (pe A)) (w := 3) (v := b) hR3 (show pe (pu (pu (pu (inc1 mm A) 0 (pe A) k) 1 (pe A) ch) 2 (pe A) b) ≤ 8 by rw [pe4]; omega) (by omega) (by first | omega | (show (pe A) < pe A; omega)) (by omega) (by omega)) mi_X5_put ml_X5_91 ⟨Nat.le_of_ble_eq_true rfl, Nat.le_of_ble_eq_true rfl⟩ ⟨rfl, rfl⟩ (Seg.rfl' _) 4 0 rfl rfl rfl rfl hl.1 rfl (Nat.le_of_ble_eq_true rfl) ⟨Nat.zero_le _, Nat.zero_le _⟩ dX5_comesAs_47) (fun _ => rfl) (fun mp4 H locs hR4 h => ?_)
  have h : St E _ s H locs (wM E a (mp4, kp, wa, (iv (ik)), fd, gf, tp, (iv (tn)), (iv (tk)), (iv (bg)), (iv (pt)), (iv (vl)), (iv (bd)), bt, sz, cl)) := h
  have pe5 : pe (pu (pu (pu (pu (inc1 mm A) 0 (pe A) k) 1 (pe A) ch) 2 (pe A) b) 3 (pe A) b) = pe A + 1 := rfl
  refine lv_aload_n X.1 X.2.1 dX5_comesAs_50 rfl (lv_at hl 1 rfl) ?_
  refine lv_iload X.1 X.2.1 dX5_comesAs_51 (lv_at hl 0 rfl) ?_
  refine z_iconst X dX5_comesAs_53 ?_
  refine z_iconst X dX5_comesAs_54 ?_
  refine z_av h (run_V (rest := []) X h (c_X5_put (p := (pe A)) (w := 4) (v := 0) hR4 (show pe (pu (pu (pu (pu (inc1 mm A) 0 (pe A) k) 1 (pe A) ch) 2 (pe A) b) 3 (pe A) b) ≤ 8 by rw [pe5]; omega) (by omega) (by first | omega | (show (pe A) < pe A; omega)) (by omega) (by omega)) mi_X5_put ml_X5_91 ⟨Nat.le_of_ble_eq_true rfl, Nat.le_of_ble_eq_true rfl⟩ ⟨rfl, rfl⟩ (Seg.rfl' _) 4 0 rfl rfl rfl rfl hl.1 rfl (Nat.le_of_ble_eq_true rfl) ⟨Nat.zero_le _, Nat.zero_le _⟩ dX5_comesAs_55) (fun _ => rfl) (fun mp5 H locs hR5 h => ?_)
  have h : St E _ s H locs (wM E a (mp5, kp, wa, (iv (ik)), fd, gf, tp, (iv (tn)), (iv (tk)), (iv (bg)), (iv (pt)), (iv (vl)), (iv (bd)), bt, sz, cl)) := h
  have pe6 : pe (pu (pu (pu (pu (pu (inc1 mm A) 0 (pe A) k) 1 (pe A) ch) 2 (pe A) b) 3 (pe A) b) 4 (pe A) 0) = pe A + 1 := rfl
  refine lv_iload X.1 X.2.1 dX5_comesAs_58 (lv_at hl 0 rfl) ?_
  exact ret _ _ _ _ _ (mp5) h (⟨rfl, RM_nwc n0 hR5⟩) dX5_comesAs_60

set_option maxHeartbeats 4000000 in
theorem c_X5_browns (hR : RM mm A) (hI : IA A) (hh : hr A < 1000000) {p : Int} (p0 : 0 ≤ p) (p1 : p < pe A) {sd gi : Int} (s0 : 0 ≤ sd) (s1 : sd ≤ 1) (g0 : 0 ≤ gi) (g1 : gi ≤ 13) (hg : gf (2 * p + sd).toNat = iv gi) : MV (S := Nat → Int32) E l yX5_browns cX5_browns 4 (rmk 4 90) (wM E a (mm, kp, wa, (iv (ik)), fd, gf, tp, (iv (tn)), (iv (tk)), (iv (bg)), (iv (pt)), (iv (vl)), (iv (bd)), bt, sz, cl)) [.ref (a 0), .int (iv (p)), .int (iv (sd))] (fun u => RM u (pu (pu A (2 + sd) p (held (pr A (2 + sd) p + take (pr A 0 p) gi - fdO A p) 0 200)) 4 p (bn1 (pr A 0 p) gi (pr A 4 p)))) (fun u => wM E a (u, kp, wa, (iv (ik)), fd, gf, tp, (iv (tn)), (iv (tk)), (iv (bg)), (iv (pt)), (iv (vl)), (iv (bd)), bt, sz, cl)) := by
  refine goV (S := Nat → Int32) (post := fun u => RM u (pu (pu A (2 + sd) p (held (pr A (2 + sd) p + take (pr A 0 p) gi - fdO A p) 0 200)) 4 p (bn1 (pr A 0 p) gi (pr A 4 p)))) (ws' := fun u => wM E a (u, kp, wa, (iv (ik)), fd, gf, tp, (iv (tn)), (iv (tk)), (iv (bg)), (iv (pt)), (iv (vl)), (iv (bd)), bt, sz, cl)) (by decide) (Nat.le_of_ble_eq_true rfl) ?_
  intro pp e s m below meth c ls args Q ret X h hl
  have hl : lv_has ls 4 [(0, .ref (a 0)), (1, .int (iv (p))), (2, .int (iv (sd)))] := hl
  have q := hI.gP p0 p1
  have n8 := hI.n8
  have qs := hI.gP9 (w := 2 + sd) (by omega) (by omega) p0 p1
  have tr := take_rng (k := pr A 0 p) g0 g1
  have fr := fade_rng (k := pr A 0 p) (s := sunN A) (b := 0 ≤ nb A p (-1) ∧ 0 ≤ nb A p 1)
  have fr2 : 0 ≤ fdO A p ∧ fdO A p ≤ 2 := fr
  refine lv_aload_n X.1 X.2.1 dX5_browns_0 rfl (lv_at hl 0 rfl) ?_
  refine z_get X h 4 0 5 rfl inX5 rfl (by decide) fl_X5_22 rfl dX5_browns_1 ?_
  refine z_iconst X dX5_browns_4 ?_
  refine lv_iload_n X.1 X.2.1 dX5_browns_5 rfl (lv_at hl 1 rfl) ?_
  refine z_imul X dX5_browns_6 ?_
  refine lv_iload_n X.1 X.2.1 dX5_browns_7 rfl (lv_at hl 2 rfl) ?_
  refine z_iadd X dX5_browns_8 ?_
  refine z_iald (v := gi) X h 5 rfl (by omega) (by omega) (by decide) hg dX5_browns_9 ?_
  refine lv_istore_n (lv' := [(3, .int (iv (gi))), (0, .ref (a 0)), (1, .int (iv (p))), (2, .int (iv (sd)))]) X.1 X.2.1 dX5_browns_10 rfl hl (by decide) rfl (fun ls hl => ?_)
  refine lv_aload_n X.1 X.2.1 dX5_browns_11 rfl (lv_at hl 1 rfl) ?_
  refine lv_iload_n X.1 X.2.1 dX5_browns_12 rfl (lv_at hl 2 rfl) ?_
  refine z_iconst X dX5_browns_13 ?_
  refine lv_iload_n X.1 X.2.1 dX5_browns_14 rfl (lv_at hl 3 rfl) ?_
  refine z_iadd X dX5_browns_15 ?_
  refine lv_aload_n X.1 X.2.1 dX5_browns_16 rfl (lv_at hl 1 rfl) ?_
  refine lv_iload_n X.1 X.2.1 dX5_browns_17 rfl (lv_at hl 2 rfl) ?_
  refine z_iconst X dX5_browns_18 ?_
  refine lv_iload_n X.1 X.2.1 dX5_browns_19 rfl (lv_at hl 3 rfl) ?_
  refine z_iadd X dX5_browns_20 ?_
  refine z_pi (run_V (rest := [.int (iv (2 + sd)), .int (iv (p)), .ref (a 0)]) X h (c_X5_it (p := p) (w := 2 + sd) hR hI (by omega) (by omega) (by omega) (by omega)) mi_X5_it ml_X5_52 ⟨Nat.le_of_ble_eq_true rfl, Nat.le_of_ble_eq_true rfl⟩ ⟨rfl, rfl⟩ (Seg.rfl' _) 4 0 rfl rfl rfl rfl hl.1 rfl (Nat.le_of_ble_eq_true rfl) ⟨Nat.zero_le _, Nat.zero_le _⟩ dX5_browns_21) ?_
  refine lv_aload_n X.1 X.2.1 dX5_browns_24 rfl (lv_at hl 1 rfl) ?_
  refine lv_iload_n X.1 X.2.1 dX5_browns_25 rfl (lv_at hl 2 rfl) ?_
  refine lv_iload_n X.1 X.2.1 dX5_browns_26 rfl (lv_at hl 0 rfl) ?_
  refine z_pi (run_V (rest := [.int (iv (pr A (2 + sd) p)), .int (iv (2 + sd)), .int (iv (p)), .ref (a 0)]) X h (c_X5_takesOf (p := p) (gi := gi) hR hI (by omega) (by omega) (by omega) (by omega)) mi_X5_takesOf ml_X5_117 ⟨Nat.le_of_ble_eq_true rfl, Nat.le_of_ble_eq_true rfl⟩ ⟨rfl, rfl⟩ (Seg.rfl' _) 4 0 rfl rfl rfl rfl hl.1 rfl (Nat.le_of_ble_eq_true rfl) ⟨Nat.zero_le _, Nat.zero_le _⟩ dX5_browns_27) ?_
  refine z_iadd X dX5_browns_30 ?_
  refine lv_aload_n X.1 X.2.1 dX5_browns_31 rfl (lv_at hl 1 rfl) ?_
  refine lv_iload_n X.1 X.2.1 dX5_browns_32 rfl (lv_at hl 2 rfl) ?_
  refine z_pi (run_V (rest := [.int (iv (pr A (2 + sd) p + (take (pr A 0 p) gi))), .int (iv (2 + sd)), .int (iv (p)), .ref (a 0)]) X h (c_X5_fades (p := p) hR hI hh (by omega) (by omega)) mi_X5_fades ml_X5_99 ⟨Nat.le_of_ble_eq_true rfl, Nat.le_of_ble_eq_true rfl⟩ ⟨rfl, rfl⟩ (Seg.rfl' _) 4 0 rfl rfl rfl rfl hl.1 rfl (Nat.le_of_ble_eq_true rfl) ⟨Nat.zero_le _, Nat.zero_le _⟩ dX5_browns_33) ?_
  refine z_isub X dX5_browns_36 ?_
  refine z_iconst X dX5_browns_37 ?_
  refine z_sipush X (by decide) dX5_browns_38 ?_
  refine z_pi (run_S (rest := [.int (iv (2 + sd)), .int (iv (p)), .ref (a 0)]) X h (c_X5_held ⟨by omega, by omega⟩ ⟨by decide, by decide⟩ ⟨by decide, by decide⟩) mi_X5_held ml_X5_120 ⟨Nat.le_of_ble_eq_true rfl, Nat.le_of_ble_eq_true rfl⟩ ⟨rfl, rfl⟩ (Seg.nil _) rfl hl.1 rfl (Nat.le_of_ble_eq_true rfl) ⟨Nat.zero_le _, Nat.zero_le _⟩ dX5_browns_41) ?_
  refine z_av h (run_V (rest := []) X h (c_X5_put (p := p) (w := (2 + sd)) (v := (held (pr A (2 + sd) p + (take (pr A 0 p) gi) - (fdO A p)) 0 200)) hR hI.n8 (by omega) (by first | omega | (show p < pe A; omega)) (by omega) (by omega)) mi_X5_put ml_X5_91 ⟨Nat.le_of_ble_eq_true rfl, Nat.le_of_ble_eq_true rfl⟩ ⟨rfl, rfl⟩ (Seg.rfl' _) 4 0 rfl rfl rfl rfl hl.1 rfl (Nat.le_of_ble_eq_true rfl) ⟨Nat.zero_le _, Nat.zero_le _⟩ dX5_browns_44) (fun _ => rfl) (fun mp1 H locs hR1 h => ?_)
  have h : St E _ s H locs (wM E a (mp1, kp, wa, (iv (ik)), fd, gf, tp, (iv (tn)), (iv (tk)), (iv (bg)), (iv (pt)), (iv (vl)), (iv (bd)), bt, sz, cl)) := h
  obtain ⟨B1, eB1⟩ : ∃ B, B = pu A (2 + sd) p (held (pr A (2 + sd) p + take (pr A 0 p) gi - fdO A p) 0 200) := ⟨_, rfl⟩
  have hRB : RM mp1 B1 := by rw [eB1]; exact hR1
  have hIB : IA B1 := by rw [eB1]; exact IA_pu hI p0 p1 (Or.inr (Or.inl ⟨by omega, held_rng (by omega)⟩))
  have b4 : pr B1 4 p = pr A 4 p := by rw [eB1, pu_at, if_neg (by omega)]
  have bk : pr B1 0 p = pr A 0 p := by rw [eB1, pu_at, if_neg (by omega)]
  have bp : pe B1 = pe A := by rw [eB1]; rfl
  have bf := burnF_rng (pr B1 0 p)
  have qB := hIB.gP (p := p) (by omega) (by omega)
  refine lv_aload_n X.1 X.2.1 dX5_browns_47 rfl (lv_at hl 1 rfl) ?_
  refine lv_iload_n X.1 X.2.1 dX5_browns_48 rfl (lv_at hl 2 rfl) ?_
  refine z_iconst X dX5_browns_49 ?_
  refine lv_aload_n X.1 X.2.1 dX5_browns_50 rfl (lv_at hl 1 rfl) ?_
  refine lv_iload_n X.1 X.2.1 dX5_browns_51 rfl (lv_at hl 2 rfl) ?_
  refine z_iconst X dX5_browns_52 ?_
  refine z_pi (run_V (rest := [.int (iv (4)), .int (iv (p)), .ref (a 0)]) X h (c_X5_it (p := p) (w := 4) hRB hIB (by omega) (by omega) (by omega) (by omega)) mi_X5_it ml_X5_52 ⟨Nat.le_of_ble_eq_true rfl, Nat.le_of_ble_eq_true rfl⟩ ⟨rfl, rfl⟩ (Seg.rfl' _) 4 0 rfl rfl rfl rfl hl.1 rfl (Nat.le_of_ble_eq_true rfl) ⟨Nat.zero_le _, Nat.zero_le _⟩ dX5_browns_53) ?_
  refine lv_iload_n X.1 X.2.1 dX5_browns_56 rfl (lv_at hl 0 rfl) ?_
  refine lv_aload_n X.1 X.2.1 dX5_browns_57 rfl (lv_at hl 1 rfl) ?_
  refine lv_iload_n X.1 X.2.1 dX5_browns_58 rfl (lv_at hl 2 rfl) ?_
  refine z_pi (run_V (rest := [.int (iv (gi)), .int (iv (pr B1 4 p)), .int (iv (4)), .int (iv (p)), .ref (a 0)]) X h (c_X5_burnsFrom (p := p) hRB hIB (by omega) (by omega)) mi_X5_burnsFrom ml_X5_102 ⟨Nat.le_of_ble_eq_true rfl, Nat.le_of_ble_eq_true rfl⟩ ⟨rfl, rfl⟩ (Seg.rfl' _) 4 0 rfl rfl rfl rfl hl.1 rfl (Nat.le_of_ble_eq_true rfl) ⟨Nat.zero_le _, Nat.zero_le _⟩ dX5_browns_59) ?_
  refine z_ic_lt (tgt := 69) X ⟨by omega, by omega⟩ ⟨by omega, by omega⟩ dX5_browns_62 (by decide) (fun c_62 => ?_) (fun c_62 => ?_)
  · refine z_iconst X dX5_browns_69 ?_
    refine z_iadd X dX5_browns_70 ?_
    refine z_iconst X dX5_browns_71 ?_
    refine z_sipush X (by decide) dX5_browns_72 ?_
    refine z_pi (run_S (rest := [.int (iv (4)), .int (iv (p)), .ref (a 0)]) X h (c_X5_held ⟨by omega, by omega⟩ ⟨by decide, by decide⟩ ⟨by decide, by decide⟩) mi_X5_held ml_X5_120 ⟨Nat.le_of_ble_eq_true rfl, Nat.le_of_ble_eq_true rfl⟩ ⟨rfl, rfl⟩ (Seg.nil _) rfl hl.1 rfl (Nat.le_of_ble_eq_true rfl) ⟨Nat.zero_le _, Nat.zero_le _⟩ dX5_browns_75) ?_
    refine z_av h (run_V (rest := []) X h (c_X5_put (p := p) (w := 4) (v := (held (pr B1 4 p + 0) 0 9999)) hRB hIB.n8 (by omega) (by first | omega | (show p < pe A; omega)) (by omega) (by omega)) mi_X5_put ml_X5_91 ⟨Nat.le_of_ble_eq_true rfl, Nat.le_of_ble_eq_true rfl⟩ ⟨rfl, rfl⟩ (Seg.rfl' _) 4 0 rfl rfl rfl rfl hl.1 rfl (Nat.le_of_ble_eq_true rfl) ⟨Nat.zero_le _, Nat.zero_le _⟩ dX5_browns_78) (fun _ => rfl) (fun mp2 H locs hR2 h => ?_)
    have h : St E _ s H locs (wM E a (mp2, kp, wa, (iv (ik)), fd, gf, tp, (iv (tn)), (iv (tk)), (iv (bg)), (iv (pt)), (iv (vl)), (iv (bd)), bt, sz, cl)) := h
    exact ret _ _ _ _ (mp2) h (by
            have q9 := hR2
            rw [eB1] at q9; rw [← eB1, b4] at q9
            rw [← eB1]; unfold bn1; rw [← bk]
            first | (rw [if_pos (by omega)]; exact q9) | (rw [if_neg (by omega)]; exact q9)) dX5_browns_81
  · refine z_iconst X dX5_browns_65 ?_
    refine lv_goto (tgt := 70) X.1 X.2.1 dX5_browns_66 (by decide) ?_
    refine z_iadd X dX5_browns_70 ?_
    refine z_iconst X dX5_browns_71 ?_
    refine z_sipush X (by decide) dX5_browns_72 ?_
    refine z_pi (run_S (rest := [.int (iv (4)), .int (iv (p)), .ref (a 0)]) X h (c_X5_held ⟨by omega, by omega⟩ ⟨by decide, by decide⟩ ⟨by decide, by decide⟩) mi_X5_held ml_X5_120 ⟨Nat.le_of_ble_eq_true rfl, Nat.le_of_ble_eq_true rfl⟩ ⟨rfl, rfl⟩ (Seg.nil _) rfl hl.1 rfl (Nat.le_of_ble_eq_true rfl) ⟨Nat.zero_le _, Nat.zero_le _⟩ dX5_browns_75) ?_
    refine z_av h (run_V (rest := []) X h (c_X5_put (p := p) (w := 4) (v := (held (pr B1 4 p + 1) 0 9999)) hRB hIB.n8 (by omega) (by first | omega | (show p < pe A; omega)) (by omega) (by omega)) mi_X5_put ml_X5_91 ⟨Nat.le_of_ble_eq_true rfl, Nat.le_of_ble_eq_true rfl⟩ ⟨rfl, rfl⟩ (Seg.rfl' _) 4 0 rfl rfl rfl rfl hl.1 rfl (Nat.le_of_ble_eq_true rfl) ⟨Nat.zero_le _, Nat.zero_le _⟩ dX5_browns_78) (fun _ => rfl) (fun mp3 H locs hR3 h => ?_)
    have h : St E _ s H locs (wM E a (mp3, kp, wa, (iv (ik)), fd, gf, tp, (iv (tn)), (iv (tk)), (iv (bg)), (iv (pt)), (iv (vl)), (iv (bd)), bt, sz, cl)) := h
    exact ret _ _ _ _ (mp3) h (by
            have q9 := hR3
            rw [eB1] at q9; rw [← eB1, b4] at q9
            rw [← eB1]; unfold bn1; rw [← bk]
            first | (rw [if_pos (by omega)]; exact q9) | (rw [if_neg (by omega)]; exact q9)) dX5_browns_81
