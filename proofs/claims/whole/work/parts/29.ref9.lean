variable {E : EV} {l : Launch} {a : Nat → Nat} {mm kp wa fd gf tp bt sz : Nat → Int32} {cl : Nat → Int64} {ik tn tk bg pt vl bd : Int} {A : Es} {K : Es} {ph tq bq sq : Int → Int} {cq : Int → Int → Int64}
set_option maxHeartbeats 4000000 in
theorem c_X5_isByte (hT : RT tp tq tn) {k lo hi : Int} (k0 : 0 ≤ k) (rk : k < 2147483648) (rl : r32 lo) (rh : r32 hi) : MP E l yX5_isByte cX5_isByte 4 (some FieldType.boolean) (rmk 1 23) (wM E a (mm, kp, wa, (iv (ik)), fd, gf, tp, (iv (tn)), (iv (tk)), (iv (bg)), (iv (pt)), (iv (vl)), (iv (bd)), bt, sz, cl)) [.ref (a 0), .int (iv (k)), .int (iv (lo)), .int (iv (hi))] (bz (k < tn ∧ lo ≤ tq k ∧ tq k ≤ hi)) := by
  refine goB (by decide) (Nat.le_of_ble_eq_true rfl) ?_
  intro pp e s m below meth c ls args Q ret X h hl
  have hl : lv_has ls 4 [(0, .ref (a 0)), (1, .int (iv (k))), (2, .int (iv (lo))), (3, .int (iv (hi)))] := hl
  have t0 := hT.1
  have t1 := hT.2.1
  refine lv_iload_n X.1 X.2.1 dX5_isByte_0 rfl (lv_at hl 1 rfl) ?_
  refine lv_aload_n X.1 X.2.1 dX5_isByte_1 rfl (lv_at hl 0 rfl) ?_
  refine z_get X h 4 0 7 rfl inX5 rfl (by decide) fl_X5_154 rfl dX5_isByte_2 ?_
  refine z_ic_ge (tgt := 27) X ⟨by omega, by omega⟩ ⟨by omega, by omega⟩ dX5_isByte_5 (by decide) (fun c_5 => ?_) (fun c_5 => ?_)
  · refine z_iconst X dX5_isByte_27 ?_
    exact ret _ _ _ ((bz_f (by omega)).symm) dX5_isByte_28
  · have tk9 := hT.2.2 k k0 (by omega)
    refine lv_aload_n X.1 X.2.1 dX5_isByte_8 rfl (lv_at hl 0 rfl) ?_
    refine z_get X h 4 0 6 rfl inX5 rfl (by decide) fl_X5_25 rfl dX5_isByte_9 ?_
    refine lv_iload_n X.1 X.2.1 dX5_isByte_12 rfl (lv_at hl 1 rfl) ?_
    refine z_iald (v := tq k) X h 6 rfl (by omega) (by omega) (by decide) (hT.2.2 k (by omega) (by omega)).1 dX5_isByte_13 ?_
    refine lv_i2l (v := (iv (tq k)).toInt64) X.1 X.2.1 dX5_isByte_14 rfl ?_
    refine lv_iload_n X.1 X.2.1 dX5_isByte_15 rfl (lv_at hl 2 rfl) ?_
    refine lv_iload_n X.1 X.2.1 dX5_isByte_16 rfl (lv_at hl 3 rfl) ?_
    refine z_pi (run_S (rest := []) X h (c_inI ⟨by omega, by omega⟩ rl rh) mi_X5_in ml_X5_44 ⟨Nat.le_of_ble_eq_true rfl, Nat.le_of_ble_eq_true rfl⟩ ⟨rfl, rfl⟩ (Seg.nil _) rfl hl.1 rfl (Nat.le_of_ble_eq_true rfl) ⟨Nat.zero_le _, Nat.zero_le _⟩ dX5_isByte_17) ?_
    refine z_ifb_eq (tgt := 27) X dX5_isByte_20 (by decide) (fun c_20 => ?_) (fun c_20 => ?_)
    · refine z_iconst X dX5_isByte_27 ?_
      exact ret _ _ _ ((bz_f (by omega)).symm) dX5_isByte_28
    · refine z_iconst X dX5_isByte_23 ?_
      refine lv_goto (tgt := 28) X.1 X.2.1 dX5_isByte_24 (by decide) ?_
      exact ret _ _ _ ((bz_t (by omega)).symm) dX5_isByte_28

set_option maxHeartbeats 4000000 in
theorem c_X5_isName (hT : RT tp tq tn) {wd n : Int} (w0 : 0 ≤ wd) (w1 : wd < 10) (n0 : 0 ≤ n) (b0 : 0 ≤ bg) (b1 : bg + n ≤ tn) (hl9 : ∀ k, bg ≤ k → k < bg + n → tq k ≠ 0) : MP E l yX5_isName cX5_isName 5 (some FieldType.boolean) (rmk 0 0) (wM E a (mm, kp, wa, (iv (ik)), fd, gf, tp, (iv (tn)), (iv (tk)), (iv (bg)), (iv (pt)), (iv (vl)), (iv (bd)), bt, sz, cl)) [.ref (a 0), .int (iv (wd)), .int (iv (n))] (bz (wEq tq wd bg (bg + n) = true)) := by
  refine goB (by decide) (Nat.le_of_ble_eq_true rfl) ?_
  intro pp e s m below meth c ls args Q ret X h hl
  have hl : lv_has ls 5 [(0, .ref (a 0)), (1, .int (iv (wd))), (2, .int (iv (n)))] := hl
  have t0 := hT.1
  have t1 := hT.2.1
  have J30 : ∀ (t : Int) , (t = bz (n ≤ 7 ∧ (n = 7 ∨ namesZ (7 * wd + n) = 0))) → ∀ ls : Array Slot, lv_has ls 5 [(0, .ref (a 0)), (1, .int (iv (wd))), (2, .int (iv (n)))] → W pp l e (rmk 0 0) s m args below meth c s.heap [] 0 0 Q (F0 m 30 ls [.int (iv (t))]) := by
    intro t ht ls hl
    refine lv_istore_n (lv' := [(3, .int (iv (t))), (0, .ref (a 0)), (1, .int (iv (wd))), (2, .int (iv (n)))]) X.1 X.2.1 dX5_isName_30 rfl hl (by decide) rfl (fun ls hl => ?_)
    refine z_iconst X dX5_isName_31 ?_
    refine lv_istore (lv' := [(4, .int (iv (0))), (3, .int (iv (t))), (0, .ref (a 0)), (1, .int (iv (wd))), (2, .int (iv (n)))]) X.1 X.2.1 dX5_isName_32 hl (by decide) rfl (fun ls hl => ?_)
    have L34 : ∀ (fuel_ : Nat) (i : Int) (t : Int), (0 ≤ i) → (i ≤ n) → (t = bz ((n ≤ 7 ∧ (n = 7 ∨ namesZ (7 * wd + n) = 0)) ∧ eqk tq wd bg i.toNat = true)) → n - i < (fuel_ : Int) → ∀ ls : Array Slot, lv_has ls 5 [(0, .ref (a 0)), (1, .int (iv (wd))), (2, .int (iv (n))), (3, .int (iv (t))), (4, .int (iv (i)))] → W pp l e (rmk 0 0) s m args below meth c s.heap [] 0 0 Q (F0 m 34 ls []) := by
      intro fuel_
      induction fuel_ with
      | zero =>
        intro i t i0 i1 ht hn
        exfalso; omega
      | succ fuel_ ih =>
        intro i t i0 i1 ht hn ls hl
        have tr := bz_c (P := (n ≤ 7 ∧ (n = 7 ∨ namesZ (7 * wd + n) = 0)) ∧ eqk tq wd bg i.toNat = true)
        refine lv_iload X.1 X.2.1 dX5_isName_34 (lv_at hl 4 rfl) ?_
        refine lv_iload_n X.1 X.2.1 dX5_isName_36 rfl (lv_at hl 2 rfl) ?_
        refine z_ic_ge (tgt := 82) X ⟨by omega, by omega⟩ ⟨by omega, by omega⟩ dX5_isName_37 (by decide) (fun c_37 => ?_) (fun c_37 => ?_)
        · refine lv_iload_n X.1 X.2.1 dX5_isName_82 rfl (lv_at hl 3 rfl) ?_
          exact ret _ _ _ (by
              rw [ht]
              have ni := name_iff (tq := tq) (w := wd) (s := bg) (e := bg + n) w0 w1 (by omega) hl9
              rw [show bg + n - bg = n by omega] at ni
              first | exact bz_eq (by rw [show i = n by omega]; exact ni) | (have z := bz0 (P := (n ≤ 7 ∧ (n = 7 ∨ namesZ (7 * wd + n) = 0)) ∧ eqk tq wd bg i.toNat = true) (by omega); exact bz_eq ⟨fun q => absurd q z, fun q => absurd ⟨(ni.mpr q).1, eqk_mono i0 i1 (ni.mpr q).2⟩ z⟩)) dX5_isName_83
        · refine lv_iload_n X.1 X.2.1 dX5_isName_40 rfl (lv_at hl 3 rfl) ?_
          refine z_if_eq (tgt := 82) X ⟨by omega, by omega⟩ dX5_isName_41 (by decide) (fun c_41 => ?_) (fun c_41 => ?_)
          · refine lv_iload_n X.1 X.2.1 dX5_isName_82 rfl (lv_at hl 3 rfl) ?_
            exact ret _ _ _ (by
                rw [ht]
                have ni := name_iff (tq := tq) (w := wd) (s := bg) (e := bg + n) w0 w1 (by omega) hl9
                rw [show bg + n - bg = n by omega] at ni
                first | exact bz_eq (by rw [show i = n by omega]; exact ni) | (have z := bz0 (P := (n ≤ 7 ∧ (n = 7 ∨ namesZ (7 * wd + n) = 0)) ∧ eqk tq wd bg i.toNat = true) (by omega); exact bz_eq ⟨fun q => absurd q z, fun q => absurd ⟨(ni.mpr q).1, eqk_mono i0 i1 (ni.mpr q).2⟩ z⟩)) dX5_isName_83
          · have q7 := (bz1 (P := (n ≤ 7 ∧ (n = 7 ∨ namesZ (7 * wd + n) = 0)) ∧ eqk tq wd bg i.toNat = true) (by rw [← ht]; exact c_41)).1
            have nz := names_b (7 * wd + i) (by omega) (by omega)
            have tk9 := hT.2.2 (bg + i) (by omega) (by omega)
            refine z_getN X h dX5_isName_44 ?_
            refine z_bipush X (by decide) dX5_isName_47 ?_
            refine lv_iload_n X.1 X.2.1 dX5_isName_49 rfl (lv_at hl 1 rfl) ?_
            refine z_imul X dX5_isName_50 ?_
            refine lv_iload X.1 X.2.1 dX5_isName_51 (lv_at hl 4 rfl) ?_
            refine z_iadd X dX5_isName_53 ?_
            refine z_nald X h (by omega) (by omega) dX5_isName_54 ?_
            refine lv_aload_n X.1 X.2.1 dX5_isName_55 rfl (lv_at hl 0 rfl) ?_
            refine z_get X h 4 0 6 rfl inX5 rfl (by decide) fl_X5_25 rfl dX5_isName_56 ?_
            refine lv_aload_n X.1 X.2.1 dX5_isName_59 rfl (lv_at hl 0 rfl) ?_
            refine z_get X h 4 0 9 rfl inX5 rfl (by decide) fl_X5_161 rfl dX5_isName_60 ?_
            refine lv_iload X.1 X.2.1 dX5_isName_63 (lv_at hl 4 rfl) ?_
            refine z_iadd X dX5_isName_65 ?_
            refine z_iald (v := tq (bg + i)) X h 6 rfl (by omega) (by omega) (by decide) (hT.2.2 (bg + i) (by omega) (by omega)).1 dX5_isName_66 ?_
            refine z_ic_ne (tgt := 74) X ⟨by omega, by omega⟩ ⟨by omega, by omega⟩ dX5_isName_67 (by decide) (fun c_67 => ?_) (fun c_67 => ?_)
            · refine z_iconst X dX5_isName_74 ?_
              refine lv_istore_n (lv' := [(3, .int (iv (0))), (0, .ref (a 0)), (1, .int (iv (wd))), (2, .int (iv (n))), (4, .int (iv (i)))]) X.1 X.2.1 dX5_isName_75 rfl hl (by decide) rfl (fun ls hl => ?_)
              refine z_iinc (k := 4) (lv' := [(4, .int (iv (i + 1))), (3, .int (iv (0))), (0, .ref (a 0)), (1, .int (iv (wd))), (2, .int (iv (n)))]) X dX5_isName_76 hl rfl (by decide) rfl (fun ls hl => ?_)
              refine lv_goto (tgt := 34) X.1 X.2.1 dX5_isName_79 (by decide) ?_
              exact ih (i + 1) (0) (by omega) (by omega) ((bz_f (fun q => eqk_n i0 c_67 q.2)).symm) (by omega) ls (lv_sub hl [2, 3, 4, 1, 0] rfl)
            · refine z_iconst X dX5_isName_70 ?_
              refine lv_goto (tgt := 75) X.1 X.2.1 dX5_isName_71 (by decide) ?_
              refine lv_istore_n (lv' := [(3, .int (iv (1))), (0, .ref (a 0)), (1, .int (iv (wd))), (2, .int (iv (n))), (4, .int (iv (i)))]) X.1 X.2.1 dX5_isName_75 rfl hl (by decide) rfl (fun ls hl => ?_)
              refine z_iinc (k := 4) (lv' := [(4, .int (iv (i + 1))), (3, .int (iv (1))), (0, .ref (a 0)), (1, .int (iv (wd))), (2, .int (iv (n)))]) X dX5_isName_76 hl rfl (by decide) rfl (fun ls hl => ?_)
              refine lv_goto (tgt := 34) X.1 X.2.1 dX5_isName_79 (by decide) ?_
              exact ih (i + 1) (1) (by omega) (by omega) ((bz_t ⟨(bz1 (P := _ ∧ _) (by rw [← ht]; exact c_41)).1, eqk_y i0 (bz1 (P := _ ∧ _) (by rw [← ht]; exact c_41)).2 c_67⟩).symm) (by omega) ls (lv_sub hl [2, 3, 4, 1, 0] rfl)
    exact L34 ((n - (0) : Int).toNat + 1) (0) (t) (by omega) (by omega) (by rw [ht]; exact bz_eq ⟨fun q => ⟨q, rfl⟩, fun q => q.1⟩) (by omega) ls (lv_sub hl [2, 3, 4, 1, 0] rfl)
  refine lv_iload_n X.1 X.2.1 dX5_isName_0 rfl (lv_at hl 2 rfl) ?_
  refine z_bipush X (by decide) dX5_isName_1 ?_
  refine z_ic_gt (tgt := 29) X ⟨by omega, by omega⟩ ⟨by decide, by decide⟩ dX5_isName_3 (by decide) (fun c_3 => ?_) (fun c_3 => ?_)
  · refine z_iconst X dX5_isName_29 ?_
    exact J30 (0) ((bz_f (by omega)).symm) ls (lv_sub hl [0, 1, 2] rfl)
  · refine lv_iload_n X.1 X.2.1 dX5_isName_6 rfl (lv_at hl 2 rfl) ?_
    refine z_bipush X (by decide) dX5_isName_7 ?_
    refine z_ic_eq (tgt := 25) X ⟨by omega, by omega⟩ ⟨by decide, by decide⟩ dX5_isName_9 (by decide) (fun c_9 => ?_) (fun c_9 => ?_)
    · refine z_iconst X dX5_isName_25 ?_
      refine lv_goto (tgt := 30) X.1 X.2.1 dX5_isName_26 (by decide) ?_
      exact J30 (1) ((bz_t (by omega)).symm) ls (lv_sub hl [0, 1, 2] rfl)
    · have nz := names_b (7 * wd + n) (by omega) (by omega)
      refine z_getN X h dX5_isName_12 ?_
      refine z_bipush X (by decide) dX5_isName_15 ?_
      refine lv_iload_n X.1 X.2.1 dX5_isName_17 rfl (lv_at hl 1 rfl) ?_
      refine z_imul X dX5_isName_18 ?_
      refine lv_iload_n X.1 X.2.1 dX5_isName_19 rfl (lv_at hl 2 rfl) ?_
      refine z_iadd X dX5_isName_20 ?_
      refine z_nald X h (by omega) (by omega) dX5_isName_21 ?_
      refine z_if_ne (tgt := 29) X ⟨by omega, by omega⟩ dX5_isName_22 (by decide) (fun c_22 => ?_) (fun c_22 => ?_)
      · refine z_iconst X dX5_isName_29 ?_
        exact J30 (0) ((bz_f (by omega)).symm) ls (lv_sub hl [0, 1, 2] rfl)
      · refine z_iconst X dX5_isName_25 ?_
        refine lv_goto (tgt := 30) X.1 X.2.1 dX5_isName_26 (by decide) ?_
        exact J30 (1) ((bz_t (by omega)).symm) ls (lv_sub hl [0, 1, 2] rfl)

set_option maxHeartbeats 4000000 in
theorem c_X5_wordHere (hT : RT tp tq tn) (b0 : 0 ≤ bg) (b1 : bg ≤ pt) (b2 : pt ≤ tn) (hl9 : ∀ k, bg ≤ k → k < pt → tq k ≠ 0) : MP E l yX5_wordHere cX5_wordHere 2 (some FieldType.int) (rmk 1 24) (wM E a (mm, kp, wa, (iv (ik)), fd, gf, tp, (iv (tn)), (iv (tk)), (iv (bg)), (iv (pt)), (iv (vl)), (iv (bd)), bt, sz, cl)) [.ref (a 0)] (wrd tq bg pt) := by
  refine goP (by decide) (Nat.le_of_ble_eq_true rfl) ?_
  intro pp e s m below meth c ls args Q ret X h hl
  have hl : lv_has ls 2 [(0, .ref (a 0))] := hl
  have t0 := hT.1
  have t1 := hT.2.1
  refine z_iconst X dX5_wordHere_0 ?_
  refine lv_istore_n (lv' := [(1, .int (iv (0))), (0, .ref (a 0))]) X.1 X.2.1 dX5_wordHere_1 rfl hl (by decide) rfl (fun ls hl => ?_)
  have L2 : ∀ (fuel_ : Nat) (i : Int), (0 ≤ i) → (i ≤ 10) → (wrd tq bg pt = wrdk tq bg pt (10 - i).toNat i) → 10 - i < (fuel_ : Int) → ∀ ls : Array Slot, lv_has ls 2 [(0, .ref (a 0)), (1, .int (iv (i)))] → W pp l e (rmk 1 24) s m args below meth c s.heap [] 0 0 Q (F0 m 2 ls []) := by
    intro fuel_
    induction fuel_ with
    | zero =>
      intro i i0 i1 hw9 hn
      exfalso; omega
    | succ fuel_ ih =>
      intro i i0 i1 hw9 hn ls hl
      refine lv_iload_n X.1 X.2.1 dX5_wordHere_2 rfl (lv_at hl 1 rfl) ?_
      refine z_bipush X (by decide) dX5_wordHere_3 ?_
      refine z_ic_ge (tgt := 31) X ⟨by omega, by omega⟩ ⟨by decide, by decide⟩ dX5_wordHere_5 (by decide) (fun c_5 => ?_) (fun c_5 => ?_)
      · refine lv_iload_n X.1 X.2.1 dX5_wordHere_31 rfl (lv_at hl 1 rfl) ?_
        refine z_bipush X (by decide) dX5_wordHere_32 ?_
        refine z_ic_ge (tgt := 41) X ⟨by omega, by omega⟩ ⟨by decide, by decide⟩ dX5_wordHere_34 (by decide) (fun c_34 => ?_) (fun c_34 => ?_)
        · refine z_bipush X (by decide) dX5_wordHere_41 ?_
          exact ret _ _ _ (by rw [hw9, show (10 - i).toNat = 0 by omega]; rfl) dX5_wordHere_43
        · exfalso; omega
      · refine lv_aload_n X.1 X.2.1 dX5_wordHere_8 rfl (lv_at hl 0 rfl) ?_
        refine lv_iload_n X.1 X.2.1 dX5_wordHere_9 rfl (lv_at hl 1 rfl) ?_
        refine lv_aload_n X.1 X.2.1 dX5_wordHere_10 rfl (lv_at hl 0 rfl) ?_
        refine z_get X h 4 0 10 rfl inX5 rfl (by decide) fl_X5_164 rfl dX5_wordHere_11 ?_
        refine lv_aload_n X.1 X.2.1 dX5_wordHere_14 rfl (lv_at hl 0 rfl) ?_
        refine z_get X h 4 0 9 rfl inX5 rfl (by decide) fl_X5_161 rfl dX5_wordHere_15 ?_
        refine z_isub X dX5_wordHere_18 ?_
        refine z_pi (run_V (rest := []) X h (c_X5_isName (wd := i) (n := pt - bg) hT (by omega) (by omega) (by omega) (by omega) (by omega) (fun k q1 q2 => hl9 k q1 (by omega))) mi_X5_isName ml_X5_167 ⟨Nat.le_of_ble_eq_true rfl, Nat.le_of_ble_eq_true rfl⟩ ⟨rfl, rfl⟩ (Seg.rfl' _) 4 0 rfl rfl rfl rfl hl.1 rfl (Nat.le_of_ble_eq_true rfl) ⟨Nat.zero_le _, Nat.zero_le _⟩ dX5_wordHere_19) ?_
        refine z_ifb_ne (tgt := 31) X dX5_wordHere_22 (by decide) (fun c_22 => ?_) (fun c_22 => ?_)
        · refine lv_iload_n X.1 X.2.1 dX5_wordHere_31 rfl (lv_at hl 1 rfl) ?_
          refine z_bipush X (by decide) dX5_wordHere_32 ?_
          refine z_ic_ge (tgt := 41) X ⟨by omega, by omega⟩ ⟨by decide, by decide⟩ dX5_wordHere_34 (by decide) (fun c_34 => ?_) (fun c_34 => ?_)
          · exfalso; omega
          · refine lv_iload_n X.1 X.2.1 dX5_wordHere_37 rfl (lv_at hl 1 rfl) ?_
            refine lv_goto (tgt := 43) X.1 X.2.1 dX5_wordHere_38 (by decide) ?_
            exact ret _ _ _ (by first | (exfalso; omega) | (rw [hw9, show (10 - i).toNat = (10 - (i + 1)).toNat + 1 by omega, wrdk, if_pos (by rw [show bg + (pt - bg) = pt by omega] at c_22; exact c_22)])) dX5_wordHere_43
        · refine z_iinc (k := 1) (lv' := [(1, .int (iv (i + 1))), (0, .ref (a 0))]) X dX5_wordHere_25 hl rfl (by decide) rfl (fun ls hl => ?_)
          refine lv_goto (tgt := 2) X.1 X.2.1 dX5_wordHere_28 (by decide) ?_
          exact ih (i + 1) (by omega) (by omega) (by rw [hw9, show (10 - i).toNat = (10 - (i + 1)).toNat + 1 by omega, wrdk, if_neg (by rw [show bg + (pt - bg) = pt by omega] at c_22; exact c_22)]) (by omega) ls (lv_sub hl [1, 0] rfl)
  exact L2 ((10 - (0) : Int).toNat + 1) (0) (by omega) (by omega) (rfl) (by omega) ls (lv_sub hl [1, 0] rfl)

set_option maxHeartbeats 4000000 in
theorem c_X5_reads (hT : RT tp tq tn) (p0 : 0 ≤ pt) (p1 : pt ≤ tn) : MV (S := Int) E l yX5_reads cX5_reads 1 (rmk 2 46) (wM E a (mm, kp, wa, (iv (ik)), fd, gf, tp, (iv (tn)), (iv (tk)), (iv (bg)), (iv (pt)), (iv (vl)), (iv (bd)), bt, sz, cl)) [.ref (a 0)] (fun u => CV u (tV tq tn pt)) (fun u => wM E a (mm, kp, wa, (iv (ik)), fd, gf, tp, (iv (tn)), (iv (tK tq tn pt)), (iv (tS tq tn pt)), (iv (tE tq tn pt)), (iv (u)), (iv (bd)), bt, sz, cl)) := by
  refine goV (S := Int) (post := fun u => CV u (tV tq tn pt)) (ws' := fun u => wM E a (mm, kp, wa, (iv (ik)), fd, gf, tp, (iv (tn)), (iv (tK tq tn pt)), (iv (tS tq tn pt)), (iv (tE tq tn pt)), (iv (u)), (iv (bd)), bt, sz, cl)) (by decide) (Nat.le_of_ble_eq_true rfl) ?_
  intro pp e s m below meth c ls args Q ret X h hl
  have hl : lv_has ls 1 [(0, .ref (a 0))] := hl
  have t0 := hT.1
  have t1 := hT.2.1
  have L0 : ∀ (fuel_ : Nat) (k : Int), (pt ≤ k) → (k ≤ tn) → (tS tq tn pt = run isBl tq tn k) → tn - k < (fuel_ : Int) → ∀ (H : Heap) (locs : List Loc), St E (wM E a (mm, kp, wa, (iv (ik)), fd, gf, tp, (iv (tn)), (iv (tk)), (iv (bg)), (iv (pt)), (iv (vl)), (iv (bd)), bt, sz, cl)) s H locs (wM E a (mm, kp, wa, (iv (ik)), fd, gf, tp, (iv (tn)), (iv (tk)), (iv (bg)), (iv (k)), (iv (vl)), (iv (bd)), bt, sz, cl)) → ∀ ls : Array Slot, lv_has ls 1 [(0, .ref (a 0))] → W pp l e (rmk 2 46) s m args below meth c H locs 0 0 Q (F0 m 0 ls []) := by
    intro fuel_
    induction fuel_ with
    | zero =>
      intro k k0 k1 hs9 hn
      exfalso; omega
    | succ fuel_ ih =>
      intro k k0 k1 hs9 hn H locs h ls hl
      refine lv_aload_n X.1 X.2.1 dX5_reads_0 rfl (lv_at hl 0 rfl) ?_
      refine lv_aload_n X.1 X.2.1 dX5_reads_1 rfl (lv_at hl 0 rfl) ?_
      refine z_get X h 4 0 10 rfl inX5 rfl (by decide) fl_X5_164 rfl dX5_reads_2 ?_
      refine z_bipush X (by decide) dX5_reads_5 ?_
      refine z_bipush X (by decide) dX5_reads_7 ?_
      refine z_pi (run_V (rest := []) X h (c_X5_isByte (k := k) hT (by omega) (by omega) ⟨by decide, by decide⟩ ⟨by decide, by decide⟩) mi_X5_isByte ml_X5_170 ⟨Nat.le_of_ble_eq_true rfl, Nat.le_of_ble_eq_true rfl⟩ ⟨rfl, rfl⟩ (Seg.rfl' _) 4 0 rfl rfl rfl rfl hl.1 rfl (Nat.le_of_ble_eq_true rfl) ⟨Nat.zero_le _, Nat.zero_le _⟩ dX5_reads_9) ?_
      refine z_ifb_eq (tgt := 28) X dX5_reads_12 (by decide) (fun c_12 => ?_) (fun c_12 => ?_)
      · have hs : tS tq tn pt = k := by rw [hs9]; exact run_stop (fun q => by have := isBl_i.mp q.2; omega)
        refine lv_aload_n X.1 X.2.1 dX5_reads_28 rfl (lv_at hl 0 rfl) ?_
        refine lv_aload_n X.1 X.2.1 dX5_reads_29 rfl (lv_at hl 0 rfl) ?_
        refine z_get X h 4 0 10 rfl inX5 rfl (by decide) fl_X5_164 rfl dX5_reads_30 ?_
        refine z_put X h 4 0 9 rfl inX5 tyX5 tyX5_ok nmX5 rfl (by decide) fl_X5_161 rfl rfl rfl (Nat.le_of_ble_eq_true rfl) dX5_reads_33 (fun H locs h => ?_)
        have h : St E _ s H locs (wM E a (mm, kp, wa, (iv (ik)), fd, gf, tp, (iv (tn)), (iv (tk)), (iv (k)), (iv (k)), (iv (vl)), (iv (bd)), bt, sz, cl)) := h
        refine lv_aload_n X.1 X.2.1 dX5_reads_36 rfl (lv_at hl 0 rfl) ?_
        refine z_iconst X dX5_reads_37 ?_
        refine z_put X h 4 0 11 rfl inX5 tyX5 tyX5_ok nmX5 rfl (by decide) fl_X5_174 rfl rfl rfl (Nat.le_of_ble_eq_true rfl) dX5_reads_38 (fun H locs h => ?_)
        have h : St E _ s H locs (wM E a (mm, kp, wa, (iv (ik)), fd, gf, tp, (iv (tn)), (iv (tk)), (iv (k)), (iv (k)), (iv (0)), (iv (bd)), bt, sz, cl)) := h
        refine lv_aload_n X.1 X.2.1 dX5_reads_41 rfl (lv_at hl 0 rfl) ?_
        refine z_get X h 4 0 10 rfl inX5 rfl (by decide) fl_X5_164 rfl dX5_reads_42 ?_
        refine lv_aload_n X.1 X.2.1 dX5_reads_45 rfl (lv_at hl 0 rfl) ?_
        refine z_get X h 4 0 7 rfl inX5 rfl (by decide) fl_X5_154 rfl dX5_reads_46 ?_
        refine z_ic_ne (tgt := 61) X ⟨by omega, by omega⟩ ⟨by omega, by omega⟩ dX5_reads_49 (by decide) (fun c_49 => ?_) (fun c_49 => ?_)
        · have tk9 := hT.2.2 k (by omega) (by omega)
          refine lv_aload_n X.1 X.2.1 dX5_reads_61 rfl (lv_at hl 0 rfl) ?_
          refine lv_aload_n X.1 X.2.1 dX5_reads_62 rfl (lv_at hl 0 rfl) ?_
          refine z_get X h 4 0 10 rfl inX5 rfl (by decide) fl_X5_164 rfl dX5_reads_63 ?_
          refine z_bipush X (by decide) dX5_reads_66 ?_
          refine z_bipush X (by decide) dX5_reads_68 ?_
          refine z_pi (run_V (rest := []) X h (c_X5_isByte (k := k) hT (by omega) (by omega) ⟨by decide, by decide⟩ ⟨by decide, by decide⟩) mi_X5_isByte ml_X5_170 ⟨Nat.le_of_ble_eq_true rfl, Nat.le_of_ble_eq_true rfl⟩ ⟨rfl, rfl⟩ (Seg.rfl' _) 4 0 rfl rfl rfl rfl hl.1 rfl (Nat.le_of_ble_eq_true rfl) ⟨Nat.zero_le _, Nat.zero_le _⟩ dX5_reads_70) ?_
          refine z_ifb_eq (tgt := 115) X dX5_reads_73 (by decide) (fun c_73 => ?_) (fun c_73 => ?_)
          · refine lv_aload_n X.1 X.2.1 dX5_reads_115 rfl (lv_at hl 0 rfl) ?_
            refine lv_aload_n X.1 X.2.1 dX5_reads_116 rfl (lv_at hl 0 rfl) ?_
            refine z_get X h 4 0 10 rfl inX5 rfl (by decide) fl_X5_164 rfl dX5_reads_117 ?_
            refine z_bipush X (by decide) dX5_reads_120 ?_
            refine z_bipush X (by decide) dX5_reads_122 ?_
            refine z_pi (run_V (rest := []) X h (c_X5_isByte (k := k) hT (by omega) (by omega) ⟨by decide, by decide⟩ ⟨by decide, by decide⟩) mi_X5_isByte ml_X5_170 ⟨Nat.le_of_ble_eq_true rfl, Nat.le_of_ble_eq_true rfl⟩ ⟨rfl, rfl⟩ (Seg.rfl' _) 4 0 rfl rfl rfl rfl hl.1 rfl (Nat.le_of_ble_eq_true rfl) ⟨Nat.zero_le _, Nat.zero_le _⟩ dX5_reads_124) ?_
            refine z_ifb_eq (tgt := 208) X dX5_reads_127 (by decide) (fun c_127 => ?_) (fun c_127 => ?_)
            · refine lv_aload_n X.1 X.2.1 dX5_reads_208 rfl (lv_at hl 0 rfl) ?_
              refine lv_aload_n X.1 X.2.1 dX5_reads_209 rfl (lv_at hl 0 rfl) ?_
              refine lv_aload_n X.1 X.2.1 dX5_reads_210 rfl (lv_at hl 0 rfl) ?_
              refine z_get X h 4 0 10 rfl inX5 rfl (by decide) fl_X5_164 rfl dX5_reads_211 ?_
              refine z_bipush X (by decide) dX5_reads_214 ?_
              refine z_bipush X (by decide) dX5_reads_216 ?_
              refine z_pi (run_V (rest := [.ref (a 0)]) X h (c_X5_isByte (k := k) hT (by omega) (by omega) ⟨by decide, by decide⟩ ⟨by decide, by decide⟩) mi_X5_isByte ml_X5_170 ⟨Nat.le_of_ble_eq_true rfl, Nat.le_of_ble_eq_true rfl⟩ ⟨rfl, rfl⟩ (Seg.rfl' _) 4 0 rfl rfl rfl rfl hl.1 rfl (Nat.le_of_ble_eq_true rfl) ⟨Nat.zero_le _, Nat.zero_le _⟩ dX5_reads_218) ?_
              refine z_ifb_eq (tgt := 229) X dX5_reads_221 (by decide) (fun c_221 => ?_) (fun c_221 => ?_)
              · refine z_bipush X (by decide) dX5_reads_229 ?_
                refine z_put X h 4 0 8 rfl inX5 tyX5 tyX5_ok nmX5 rfl (by decide) fl_X5_177 rfl rfl rfl (Nat.le_of_ble_eq_true rfl) dX5_reads_231 (fun H locs h => ?_)
                have h : St E _ s H locs (wM E a (mm, kp, wa, (iv (ik)), fd, gf, tp, (iv (tn)), (iv (23)), (iv (k)), (iv (k)), (iv (0)), (iv (bd)), bt, sz, cl)) := h
                refine lv_aload_n X.1 X.2.1 dX5_reads_234 rfl (lv_at hl 0 rfl) ?_
                refine lv_dup X.1 X.2.1 dX5_reads_235 rfl ?_
                refine z_get X h 4 0 10 rfl inX5 rfl (by decide) fl_X5_164 rfl dX5_reads_236 ?_
                refine z_iconst X dX5_reads_239 ?_
                refine z_iadd X dX5_reads_240 ?_
                refine z_put X h 4 0 10 rfl inX5 tyX5 tyX5_ok nmX5 rfl (by decide) fl_X5_164 rfl rfl rfl (Nat.le_of_ble_eq_true rfl) dX5_reads_241 (fun H locs h => ?_)
                have h : St E _ s H locs (wM E a (mm, kp, wa, (iv (ik)), fd, gf, tp, (iv (tn)), (iv (23)), (iv (k)), (iv (k + 1)), (iv (0)), (iv (bd)), bt, sz, cl)) := h
                have tw := tok_oth hs (by omega) (fun q => by have := isLt_i.mp q; omega) (fun q => by have := isDg_i.mp q; omega)
                rw [if_neg (by omega)] at tw
                exact ret _ _ _ _ (0) (by rw [tw.1, tw.2.1, hs]; exact h) (by rw [tw.2.2]; exact ⟨by omega, by omega, fun _ => rfl, fun q => absurd q (by omega)⟩) dX5_reads_244
              · refine z_bipush X (by decide) dX5_reads_224 ?_
                refine lv_goto (tgt := 231) X.1 X.2.1 dX5_reads_226 (by decide) ?_
                refine z_put X h 4 0 8 rfl inX5 tyX5 tyX5_ok nmX5 rfl (by decide) fl_X5_177 rfl rfl rfl (Nat.le_of_ble_eq_true rfl) dX5_reads_231 (fun H locs h => ?_)
                have h : St E _ s H locs (wM E a (mm, kp, wa, (iv (ik)), fd, gf, tp, (iv (tn)), (iv (21)), (iv (k)), (iv (k)), (iv (0)), (iv (bd)), bt, sz, cl)) := h
                refine lv_aload_n X.1 X.2.1 dX5_reads_234 rfl (lv_at hl 0 rfl) ?_
                refine lv_dup X.1 X.2.1 dX5_reads_235 rfl ?_
                refine z_get X h 4 0 10 rfl inX5 rfl (by decide) fl_X5_164 rfl dX5_reads_236 ?_
                refine z_iconst X dX5_reads_239 ?_
                refine z_iadd X dX5_reads_240 ?_
                refine z_put X h 4 0 10 rfl inX5 tyX5 tyX5_ok nmX5 rfl (by decide) fl_X5_164 rfl rfl rfl (Nat.le_of_ble_eq_true rfl) dX5_reads_241 (fun H locs h => ?_)
                have h : St E _ s H locs (wM E a (mm, kp, wa, (iv (ik)), fd, gf, tp, (iv (tn)), (iv (21)), (iv (k)), (iv (k + 1)), (iv (0)), (iv (bd)), bt, sz, cl)) := h
                have tw := tok_oth hs (by omega) (fun q => by have := isLt_i.mp q; omega) (fun q => by have := isDg_i.mp q; omega)
                rw [if_pos (by omega)] at tw
                exact ret _ _ _ _ (0) (by rw [tw.1, tw.2.1, hs]; exact h) (by rw [tw.2.2]; exact ⟨by omega, by omega, fun _ => rfl, fun q => absurd q (by omega)⟩) dX5_reads_244
            · have L130 : ∀ (fuel_ : Nat) (j : Int) (v : Int), (k ≤ j) → (j ≤ tn) → (run isDg tq tn k = run isDg tq tn j) → (CV v (nmk tq k (j - k).toNat)) → tn - j < (fuel_ : Int) → ∀ (H : Heap) (locs : List Loc), St E (wM E a (mm, kp, wa, (iv (ik)), fd, gf, tp, (iv (tn)), (iv (tk)), (iv (bg)), (iv (pt)), (iv (vl)), (iv (bd)), bt, sz, cl)) s H locs (wM E a (mm, kp, wa, (iv (ik)), fd, gf, tp, (iv (tn)), (iv (tk)), (iv (k)), (iv (j)), (iv (v)), (iv (bd)), bt, sz, cl)) → ∀ ls : Array Slot, lv_has ls 1 [(0, .ref (a 0))] → W pp l e (rmk 2 46) s m args below meth c H locs 0 0 Q (F0 m 130 ls []) := by
                intro fuel_
                induction fuel_ with
                | zero =>
                  intro j v j0 j1 hj9 hv9 hn
                  exfalso; omega
                | succ fuel_ ih =>
                  intro j v j0 j1 hj9 hv9 hn H locs h ls hl
                  have vr := hv9.1
                  have vr2 := hv9.2.1
                  refine lv_aload_n X.1 X.2.1 dX5_reads_130 rfl (lv_at hl 0 rfl) ?_
                  refine lv_aload_n X.1 X.2.1 dX5_reads_131 rfl (lv_at hl 0 rfl) ?_
                  refine z_get X h 4 0 10 rfl inX5 rfl (by decide) fl_X5_164 rfl dX5_reads_132 ?_
                  refine z_bipush X (by decide) dX5_reads_135 ?_
                  refine z_bipush X (by decide) dX5_reads_137 ?_
                  refine z_pi (run_V (rest := []) X h (c_X5_isByte (k := j) hT (by omega) (by omega) ⟨by decide, by decide⟩ ⟨by decide, by decide⟩) mi_X5_isByte ml_X5_170 ⟨Nat.le_of_ble_eq_true rfl, Nat.le_of_ble_eq_true rfl⟩ ⟨rfl, rfl⟩ (Seg.rfl' _) 4 0 rfl rfl rfl rfl hl.1 rfl (Nat.le_of_ble_eq_true rfl) ⟨Nat.zero_le _, Nat.zero_le _⟩ dX5_reads_139) ?_
                  refine z_ifb_eq (tgt := 199) X dX5_reads_142 (by decide) (fun c_142 => ?_) (fun c_142 => ?_)
                  · have hj : run isDg tq tn k = j := by rw [hj9]; exact run_stop (fun q => by have := isDg_i.mp q.2; omega)
                    have tw := tok_num hs (by omega) (fun q => by have := isLt_i.mp q; omega) (isDg_i.mpr (by omega))
                    rw [hj] at tw
                    refine lv_aload_n X.1 X.2.1 dX5_reads_199 rfl (lv_at hl 0 rfl) ?_
                    refine z_bipush X (by decide) dX5_reads_200 ?_
                    refine z_put X h 4 0 8 rfl inX5 tyX5 tyX5_ok nmX5 rfl (by decide) fl_X5_177 rfl rfl rfl (Nat.le_of_ble_eq_true rfl) dX5_reads_202 (fun H locs h => ?_)
                    have h : St E _ s H locs (wM E a (mm, kp, wa, (iv (ik)), fd, gf, tp, (iv (tn)), (iv (20)), (iv (k)), (iv (j)), (iv (v)), (iv (bd)), bt, sz, cl)) := h
                    refine lv_goto (tgt := 244) X.1 X.2.1 dX5_reads_205 (by decide) ?_
                    exact ret _ _ _ _ (v) (by rw [tw.1, tw.2.1, hs]; exact h) (by rw [tw.2.2]; exact hv9) dX5_reads_244
                  · have tj9 := hT.2.2 j (by omega) (by omega)
                    refine lv_aload_n X.1 X.2.1 dX5_reads_145 rfl (lv_at hl 0 rfl) ?_
                    refine lv_aload_n X.1 X.2.1 dX5_reads_146 rfl (lv_at hl 0 rfl) ?_
                    refine z_get X h 4 0 11 rfl inX5 rfl (by decide) fl_X5_174 rfl dX5_reads_147 ?_
                    refine z_sipush X (by decide) dX5_reads_150 ?_
                    refine z_ic_le (tgt := 163) X ⟨by omega, by omega⟩ ⟨by decide, by decide⟩ dX5_reads_153 (by decide) (fun c_153 => ?_) (fun c_153 => ?_)
                    · refine z_bipush X (by decide) dX5_reads_163 ?_
                      refine lv_aload_n X.1 X.2.1 dX5_reads_165 rfl (lv_at hl 0 rfl) ?_
                      refine z_get X h 4 0 11 rfl inX5 rfl (by decide) fl_X5_174 rfl dX5_reads_166 ?_
                      refine z_imul X dX5_reads_169 ?_
                      refine lv_aload_n X.1 X.2.1 dX5_reads_170 rfl (lv_at hl 0 rfl) ?_
                      refine z_get X h 4 0 6 rfl inX5 rfl (by decide) fl_X5_25 rfl dX5_reads_171 ?_
                      refine lv_aload_n X.1 X.2.1 dX5_reads_174 rfl (lv_at hl 0 rfl) ?_
                      refine z_get X h 4 0 10 rfl inX5 rfl (by decide) fl_X5_164 rfl dX5_reads_175 ?_
                      refine z_iald (v := tq j) X h 6 rfl (by omega) (by omega) (by decide) (hT.2.2 j (by omega) (by omega)).1 dX5_reads_178 ?_
                      refine z_iadd X dX5_reads_179 ?_
                      refine z_bipush X (by decide) dX5_reads_180 ?_
                      refine z_isub X dX5_reads_182 ?_
                      refine z_put X h 4 0 11 rfl inX5 tyX5 tyX5_ok nmX5 rfl (by decide) fl_X5_174 rfl rfl rfl (Nat.le_of_ble_eq_true rfl) dX5_reads_183 (fun H locs h => ?_)
                      have h : St E _ s H locs (wM E a (mm, kp, wa, (iv (ik)), fd, gf, tp, (iv (tn)), (iv (tk)), (iv (k)), (iv (j)), (iv (10 * v + (tq j) - 48)), (iv (bd)), bt, sz, cl)) := h
                      refine lv_aload_n X.1 X.2.1 dX5_reads_186 rfl (lv_at hl 0 rfl) ?_
                      refine lv_dup X.1 X.2.1 dX5_reads_187 rfl ?_
                      refine z_get X h 4 0 10 rfl inX5 rfl (by decide) fl_X5_164 rfl dX5_reads_188 ?_
                      refine z_iconst X dX5_reads_191 ?_
                      refine z_iadd X dX5_reads_192 ?_
                      refine z_put X h 4 0 10 rfl inX5 tyX5 tyX5_ok nmX5 rfl (by decide) fl_X5_164 rfl rfl rfl (Nat.le_of_ble_eq_true rfl) dX5_reads_193 (fun H locs h => ?_)
                      have h : St E _ s H locs (wM E a (mm, kp, wa, (iv (ik)), fd, gf, tp, (iv (tn)), (iv (tk)), (iv (k)), (iv (j + 1)), (iv (10 * v + (tq j) - 48)), (iv (bd)), bt, sz, cl)) := h
                      refine lv_goto (tgt := 130) X.1 X.2.1 dX5_reads_196 (by decide) ?_
                      exact ih (j + 1) (10 * v + (tq j) - 48) (by omega) (by omega) (by rw [hj9]; exact run_step (by omega) (isDg_i.mpr (by omega))) (by have q := CV_step hv9 (c := tq j) (by omega) (by omega); rw [nmk_s (by omega)]; rw [if_neg (by omega : ¬ 999 < v)] at q; exact q) (by omega) _ _ h ls (lv_sub hl [0] rfl)
                    · refine lv_aload_n X.1 X.2.1 dX5_reads_156 rfl (lv_at hl 0 rfl) ?_
                      refine z_get X h 4 0 11 rfl inX5 rfl (by decide) fl_X5_174 rfl dX5_reads_157 ?_
                      refine lv_goto (tgt := 183) X.1 X.2.1 dX5_reads_160 (by decide) ?_
                      refine z_put X h 4 0 11 rfl inX5 tyX5 tyX5_ok nmX5 rfl (by decide) fl_X5_174 rfl rfl rfl (Nat.le_of_ble_eq_true rfl) dX5_reads_183 (fun H locs h => ?_)
                      have h : St E _ s H locs (wM E a (mm, kp, wa, (iv (ik)), fd, gf, tp, (iv (tn)), (iv (tk)), (iv (k)), (iv (j)), (iv (v)), (iv (bd)), bt, sz, cl)) := h
                      refine lv_aload_n X.1 X.2.1 dX5_reads_186 rfl (lv_at hl 0 rfl) ?_
                      refine lv_dup X.1 X.2.1 dX5_reads_187 rfl ?_
                      refine z_get X h 4 0 10 rfl inX5 rfl (by decide) fl_X5_164 rfl dX5_reads_188 ?_
                      refine z_iconst X dX5_reads_191 ?_
                      refine z_iadd X dX5_reads_192 ?_
                      refine z_put X h 4 0 10 rfl inX5 tyX5 tyX5_ok nmX5 rfl (by decide) fl_X5_164 rfl rfl rfl (Nat.le_of_ble_eq_true rfl) dX5_reads_193 (fun H locs h => ?_)
                      have h : St E _ s H locs (wM E a (mm, kp, wa, (iv (ik)), fd, gf, tp, (iv (tn)), (iv (tk)), (iv (k)), (iv (j + 1)), (iv (v)), (iv (bd)), bt, sz, cl)) := h
                      refine lv_goto (tgt := 130) X.1 X.2.1 dX5_reads_196 (by decide) ?_
                      exact ih (j + 1) (v) (by omega) (by omega) (by rw [hj9]; exact run_step (by omega) (isDg_i.mpr (by omega))) (by have q := CV_step hv9 (c := tq j) (by omega) (by omega); rw [nmk_s (by omega)]; rw [if_pos (by omega)] at q; exact q) (by omega) _ _ h ls (lv_sub hl [0] rfl)
              exact L130 ((tn - (k) : Int).toNat + 1) (k) (0) (by omega) (by omega) (rfl) (by rw [show (k - k).toNat = 0 by omega]; exact ⟨by omega, by omega, fun _ => rfl, fun q => absurd q (by omega)⟩) (by omega) _ _ h ls (lv_sub hl [0] rfl)
          · have L76 : ∀ (fuel_ : Nat) (j : Int), (k ≤ j) → (j ≤ tn) → (run isLt tq tn k = run isLt tq tn j) → (∀ q, k ≤ q → q < j → tq q ≠ 0) → tn - j < (fuel_ : Int) → ∀ (H : Heap) (locs : List Loc), St E (wM E a (mm, kp, wa, (iv (ik)), fd, gf, tp, (iv (tn)), (iv (tk)), (iv (bg)), (iv (pt)), (iv (vl)), (iv (bd)), bt, sz, cl)) s H locs (wM E a (mm, kp, wa, (iv (ik)), fd, gf, tp, (iv (tn)), (iv (tk)), (iv (k)), (iv (j)), (iv (0)), (iv (bd)), bt, sz, cl)) → ∀ ls : Array Slot, lv_has ls 1 [(0, .ref (a 0))] → W pp l e (rmk 2 46) s m args below meth c H locs 0 0 Q (F0 m 76 ls []) := by
              intro fuel_
              induction fuel_ with
              | zero =>
                intro j j0 j1 hj9 hl9 hn
                exfalso; omega
              | succ fuel_ ih =>
                intro j j0 j1 hj9 hl9 hn H locs h ls hl
                refine lv_aload_n X.1 X.2.1 dX5_reads_76 rfl (lv_at hl 0 rfl) ?_
                refine lv_aload_n X.1 X.2.1 dX5_reads_77 rfl (lv_at hl 0 rfl) ?_
                refine z_get X h 4 0 10 rfl inX5 rfl (by decide) fl_X5_164 rfl dX5_reads_78 ?_
                refine z_bipush X (by decide) dX5_reads_81 ?_
                refine z_bipush X (by decide) dX5_reads_83 ?_
                refine z_pi (run_V (rest := []) X h (c_X5_isByte (k := j) hT (by omega) (by omega) ⟨by decide, by decide⟩ ⟨by decide, by decide⟩) mi_X5_isByte ml_X5_170 ⟨Nat.le_of_ble_eq_true rfl, Nat.le_of_ble_eq_true rfl⟩ ⟨rfl, rfl⟩ (Seg.rfl' _) 4 0 rfl rfl rfl rfl hl.1 rfl (Nat.le_of_ble_eq_true rfl) ⟨Nat.zero_le _, Nat.zero_le _⟩ dX5_reads_85) ?_
                refine z_ifb_eq (tgt := 104) X dX5_reads_88 (by decide) (fun c_88 => ?_) (fun c_88 => ?_)
                · have hj : run isLt tq tn k = j := by rw [hj9]; exact run_stop (fun q => by have := isLt_i.mp q.2; omega)
                  have tw := tok_word hs (by omega) (isLt_i.mpr (by omega))
                  rw [hj] at tw
                  refine lv_aload_n X.1 X.2.1 dX5_reads_104 rfl (lv_at hl 0 rfl) ?_
                  refine lv_aload_n X.1 X.2.1 dX5_reads_105 rfl (lv_at hl 0 rfl) ?_
                  refine z_pi (run_V (rest := [.ref (a 0)]) X h (c_X5_wordHere (bg := k) (pt := j) hT (by omega) (by omega) (by omega) hl9) mi_X5_wordHere ml_X5_180 ⟨Nat.le_of_ble_eq_true rfl, Nat.le_of_ble_eq_true rfl⟩ ⟨rfl, rfl⟩ (Seg.rfl' _) 4 0 rfl rfl rfl rfl hl.1 rfl (Nat.le_of_ble_eq_true rfl) ⟨Nat.zero_le _, Nat.zero_le _⟩ dX5_reads_106) ?_
                  refine z_put X h 4 0 8 rfl inX5 tyX5 tyX5_ok nmX5 rfl (by decide) fl_X5_177 rfl rfl rfl (Nat.le_of_ble_eq_true rfl) dX5_reads_109 (fun H locs h => ?_)
                  have h : St E _ s H locs (wM E a (mm, kp, wa, (iv (ik)), fd, gf, tp, (iv (tn)), (iv (wrd tq k j)), (iv (k)), (iv (j)), (iv (0)), (iv (bd)), bt, sz, cl)) := h
                  refine lv_goto (tgt := 244) X.1 X.2.1 dX5_reads_112 (by decide) ?_
                  exact ret _ _ _ _ (0) (by rw [tw.1, tw.2.1, hs]; exact h) (by rw [tw.2.2]; exact ⟨by omega, by omega, fun _ => rfl, fun q => absurd q (by omega)⟩) dX5_reads_244
                · refine lv_aload_n X.1 X.2.1 dX5_reads_91 rfl (lv_at hl 0 rfl) ?_
                  refine lv_dup X.1 X.2.1 dX5_reads_92 rfl ?_
                  refine z_get X h 4 0 10 rfl inX5 rfl (by decide) fl_X5_164 rfl dX5_reads_93 ?_
                  refine z_iconst X dX5_reads_96 ?_
                  refine z_iadd X dX5_reads_97 ?_
                  refine z_put X h 4 0 10 rfl inX5 tyX5 tyX5_ok nmX5 rfl (by decide) fl_X5_164 rfl rfl rfl (Nat.le_of_ble_eq_true rfl) dX5_reads_98 (fun H locs h => ?_)
                  have h : St E _ s H locs (wM E a (mm, kp, wa, (iv (ik)), fd, gf, tp, (iv (tn)), (iv (tk)), (iv (k)), (iv (j + 1)), (iv (0)), (iv (bd)), bt, sz, cl)) := h
                  refine lv_goto (tgt := 76) X.1 X.2.1 dX5_reads_101 (by decide) ?_
                  exact ih (j + 1) (by omega) (by omega) (by rw [hj9]; exact run_step (by omega) (isLt_i.mpr (by omega))) (fun q q0 q1 => by
                                                by_cases eq : q = j
                                                · subst eq; omega
                                                · exact hl9 q q0 (by omega)) (by omega) _ _ h ls (lv_sub hl [0] rfl)
            exact L76 ((tn - (k) : Int).toNat + 1) (k) (by omega) (by omega) (rfl) (fun q q0 q1 => absurd q1 (by omega)) (by omega) _ _ h ls (lv_sub hl [0] rfl)
        · refine lv_aload_n X.1 X.2.1 dX5_reads_52 rfl (lv_at hl 0 rfl) ?_
          refine z_bipush X (by decide) dX5_reads_53 ?_
          refine z_put X h 4 0 8 rfl inX5 tyX5 tyX5_ok nmX5 rfl (by decide) fl_X5_177 rfl rfl rfl (Nat.le_of_ble_eq_true rfl) dX5_reads_55 (fun H locs h => ?_)
          have h : St E _ s H locs (wM E a (mm, kp, wa, (iv (ik)), fd, gf, tp, (iv (tn)), (iv (22)), (iv (k)), (iv (k)), (iv (0)), (iv (bd)), bt, sz, cl)) := h
          refine lv_goto (tgt := 244) X.1 X.2.1 dX5_reads_58 (by decide) ?_
          have tw := tok_over hs (by omega)
          exact ret _ _ _ _ (0) (by rw [tw.1, tw.2.1, hs]; exact h) (by rw [tw.2.2]; exact ⟨by omega, by omega, fun _ => rfl, fun q => absurd q (by omega)⟩) dX5_reads_244
      · refine lv_aload_n X.1 X.2.1 dX5_reads_15 rfl (lv_at hl 0 rfl) ?_
        refine lv_dup X.1 X.2.1 dX5_reads_16 rfl ?_
        refine z_get X h 4 0 10 rfl inX5 rfl (by decide) fl_X5_164 rfl dX5_reads_17 ?_
        refine z_iconst X dX5_reads_20 ?_
        refine z_iadd X dX5_reads_21 ?_
        refine z_put X h 4 0 10 rfl inX5 tyX5 tyX5_ok nmX5 rfl (by decide) fl_X5_164 rfl rfl rfl (Nat.le_of_ble_eq_true rfl) dX5_reads_22 (fun H locs h => ?_)
        have h : St E _ s H locs (wM E a (mm, kp, wa, (iv (ik)), fd, gf, tp, (iv (tn)), (iv (tk)), (iv (bg)), (iv (k + 1)), (iv (vl)), (iv (bd)), bt, sz, cl)) := h
        refine lv_goto (tgt := 0) X.1 X.2.1 dX5_reads_25 (by decide) ?_
        exact ih (k + 1) (by omega) (by omega) (by rw [hs9]; exact run_step (by omega) (isBl_i.mpr (by omega))) (by omega) _ _ h ls (lv_sub hl [0] rfl)
  exact L0 ((tn - (pt) : Int).toNat + 1) (pt) (by omega) (by omega) (rfl) (by omega) _ _ h ls (lv_sub hl [0] rfl)
