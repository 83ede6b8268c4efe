variable {E : EV} {l : Launch} {x : Nat → Nat} {tp : Nat → Int32} {tq : Int → Int} {tn pt ke so st_ en_ : Int} {e1 e2 e3 e4 : Int32}
set_option maxHeartbeats 4000000 in
theorem c_X2_isWord (hT : RT tp tq tn) {i9 : Nat} (hi9 : i9 < 10) (rs : r32 so) (s0 : 0 ≤ st_) (s1 : st_ ≤ en_) (s2 : en_ ≤ tn) : MP E l yX2_isWord cX2_isWord 3 (some FieldType.boolean) (rmk 5 106) (wX E x ((iv (tn))) ((iv (so))) ((iv (st_))) ((iv (en_))) ((e4)) tp ++ []) [.ref (x 0), .ref (eK E i9)] (bz (so = 1 ∧ wEq tq (wI i9) st_ en_ = true)) := by
  refine goB (by decide) (Nat.le_of_ble_eq_true rfl) ?_
  intro pp e s m below meth c ls args Q ret X h hl
  have hl : lv_has ls 3 [(0, .ref (x 0)), (1, .ref (eK E i9))] := hl
  have t0 := hT.1
  have t1 := hT.2.1
  have hl9 := str_len ⟨i9, hi9⟩
  have wl9 := wI_len0 ⟨i9, hi9⟩
  dsimp only at hl9 wl9
  refine lv_aload_n X.1 X.2.1 dX2_isWord_0 rfl (lv_at hl 0 rfl) ?_
  refine z_get X h 2 0 2 rfl inX2 rfl (by decide) fl_X2_19 rfl dX2_isWord_1 ?_
  refine z_iconst X dX2_isWord_4 ?_
  refine z_ic_ne (tgt := 24) X rs ⟨by decide, by decide⟩ dX2_isWord_5 (by decide) (fun c_5 => ?_) (fun c_5 => ?_)
  · refine z_iconst X dX2_isWord_24 ?_
    exact ret _ _ _ (bz_f (fun q => by have q2 := wEq_l q.2; first | omega | (have q3 := eqk_get q2.2 i (by omega) (by omega); omega))).symm dX2_isWord_25
  · refine lv_aload_n X.1 X.2.1 dX2_isWord_8 rfl (lv_at hl 0 rfl) ?_
    refine z_get X h 2 0 4 rfl inX2 rfl (by decide) fl_X2_25 rfl dX2_isWord_9 ?_
    refine lv_aload_n X.1 X.2.1 dX2_isWord_12 rfl (lv_at hl 0 rfl) ?_
    refine z_get X h 2 0 3 rfl inX2 rfl (by decide) fl_X2_22 rfl dX2_isWord_13 ?_
    refine z_isub X dX2_isWord_16 ?_
    refine lv_aload_n X.1 X.2.1 dX2_isWord_17 rfl (lv_at hl 1 rfl) ?_
    refine z_pi (run_VK (rest := [.int (iv (en_ - st_))]) X h (c_J0_length_8abf5 hi9) mi_J0_length_8abf5 ml_X2_88 ⟨Nat.le_of_ble_eq_true rfl, Nat.le_of_ble_eq_true rfl⟩ ⟨rfl, rfl⟩ (Seg.nil _) hi9 rfl hl.1 rfl (Nat.le_of_ble_eq_true rfl) ⟨Nat.zero_le _, Nat.zero_le _⟩ dX2_isWord_18) ?_
    refine z_ic_eq (tgt := 26) X ⟨by omega, by omega⟩ ⟨by omega, by omega⟩ dX2_isWord_21 (by decide) (fun c_21 => ?_) (fun c_21 => ?_)
    · refine z_iconst X dX2_isWord_26 ?_
      refine lv_istore_n (lv' := [(2, .int (iv (0))), (0, .ref (x 0)), (1, .ref (eK E i9))]) X.1 X.2.1 dX2_isWord_27 rfl hl (by decide) rfl (fun ls hl => ?_)
      have L28 : ∀ (fuel_ : Nat) (i : Int), (0 ≤ i) → (i ≤ (strL.getD i9 0 : Nat)) → (eqk tq (wI i9) st_ i.toNat = true) → ((strL.getD i9 0 : Nat) : Int) - i < (fuel_ : Int) → ∀ ls : Array Slot, lv_has ls 3 [(0, .ref (x 0)), (1, .ref (eK E i9)), (2, .int (iv (i)))] → W pp l e (rmk 5 106) s m args below meth c s.heap [] 0 0 Q (F0 m 28 ls []) := by
        intro fuel_
        induction fuel_ with
        | zero =>
          intro i i0 i1 hq9 hn
          exfalso; omega
        | succ fuel_ ih_28 =>
          intro i i0 i1 hq9 hn ls hl
          refine lv_iload_n X.1 X.2.1 dX2_isWord_28 rfl (lv_at hl 2 rfl) ?_
          refine lv_aload_n X.1 X.2.1 dX2_isWord_29 rfl (lv_at hl 1 rfl) ?_
          refine z_pi (run_VK (rest := [.int (iv (i))]) X h (c_J0_length_8abf5 hi9) mi_J0_length_8abf5 ml_X2_88 ⟨Nat.le_of_ble_eq_true rfl, Nat.le_of_ble_eq_true rfl⟩ ⟨rfl, rfl⟩ (Seg.nil _) hi9 rfl hl.1 rfl (Nat.le_of_ble_eq_true rfl) ⟨Nat.zero_le _, Nat.zero_le _⟩ dX2_isWord_30) ?_
          refine z_ic_ge (tgt := 63) X ⟨by omega, by omega⟩ ⟨by omega, by omega⟩ dX2_isWord_33 (by decide) (fun c_33 => ?_) (fun c_33 => ?_)
          · refine z_iconst X dX2_isWord_63 ?_
            exact ret _ _ _ (bz_t ⟨by omega, wEq_y (by omega) (by rw [show wlen (wI i9) = i by omega]; exact hq9)⟩).symm dX2_isWord_64
          · have tk9 := hT.2.2 (st_ + i) (by omega) (by omega)
            refine lv_aload_n X.1 X.2.1 dX2_isWord_36 rfl (lv_at hl 0 rfl) ?_
            refine z_get X h 2 0 1 rfl inX2 rfl (by decide) fl_X2_15 rfl dX2_isWord_37 ?_
            refine lv_aload_n X.1 X.2.1 dX2_isWord_40 rfl (lv_at hl 0 rfl) ?_
            refine z_get X h 2 0 3 rfl inX2 rfl (by decide) fl_X2_22 rfl dX2_isWord_41 ?_
            refine lv_iload_n X.1 X.2.1 dX2_isWord_44 rfl (lv_at hl 2 rfl) ?_
            refine z_iadd X dX2_isWord_45 ?_
            refine z_iald (v := tq (st_ + i)) X h 1 rfl (by omega) (by omega) (by decide) (hT.2.2 (st_ + i) (by omega) (by omega)).1 dX2_isWord_46 ?_
            refine lv_aload_n X.1 X.2.1 dX2_isWord_47 rfl (lv_at hl 1 rfl) ?_
            refine lv_iload_n X.1 X.2.1 dX2_isWord_48 rfl (lv_at hl 2 rfl) ?_
            have ce := chr_nm hi9 (z := i) (by omega) (by omega)
            have nb9 := names_b (7 * wI i9 + i) (by omega) (by omega)
            refine z_pi (run_VK (rest := [.int (iv (tq (st_ + i)))]) X h (c_J0_charAt_5068e (j9 := i) hi9 (by omega) (by omega)) mi_J0_charAt_5068e ml_X2_93 ⟨Nat.le_of_ble_eq_true rfl, Nat.le_of_ble_eq_true rfl⟩ ⟨rfl, rfl⟩ (Seg.nil _) hi9 rfl hl.1 rfl (Nat.le_of_ble_eq_true rfl) ⟨Nat.zero_le _, Nat.zero_le _⟩ dX2_isWord_49) ?_
            refine z_ic_eq (tgt := 57) X ⟨by omega, by omega⟩ ⟨by omega, by omega⟩ dX2_isWord_52 (by decide) (fun c_52 => ?_) (fun c_52 => ?_)
            · refine z_iinc (k := 2) (lv' := [(2, .int (iv (i + 1))), (0, .ref (x 0)), (1, .ref (eK E i9))]) X dX2_isWord_57 hl rfl (by decide) rfl (fun ls hl => ?_)
              refine lv_goto (tgt := 28) X.1 X.2.1 dX2_isWord_60 (by decide) ?_
              exact ih_28 (i + 1) (by omega) (by omega) (eqk_y i0 hq9 (by omega)) (by omega) ls (lv_sub hl [1, 2, 0] rfl)
            · refine z_iconst X dX2_isWord_55 ?_
              exact ret _ _ _ (bz_f (fun q => by have q2 := wEq_l q.2; first | omega | (have q3 := eqk_get q2.2 i (by omega) (by omega); omega))).symm dX2_isWord_56
      exact L28 ((((strL.getD i9 0 : Nat) : Int) - (0) : Int).toNat + 1) (0) (by omega) (by omega) (rfl) (by omega) ls (lv_sub hl [1, 2, 0] rfl)
    · refine z_iconst X dX2_isWord_24 ?_
      exact ret _ _ _ (bz_f (fun q => by have q2 := wEq_l q.2; first | omega | (have q3 := eqk_get q2.2 i (by omega) (by omega); omega))).symm dX2_isWord_25

set_option maxHeartbeats 4000000 in
theorem c_X2_isNumberTo {so nv mx : Int} (rs : r32 so) (rn : so = 2 → r32 nv) (rm_ : r32 mx) {u9 : Int32} (hu : so = 2 → u9 = iv nv) : MP E l yX2_isNumberTo cX2_isNumberTo 2 (some FieldType.boolean) (rmk 0 0) (wX E x ((iv (tn))) ((iv (so))) ((e2)) ((e3)) ((u9)) tp ++ []) [.ref (x 0), .int (iv (mx))] (bz (so = 2 ∧ nv ≤ mx)) := by
  refine goB (by decide) (Nat.le_of_ble_eq_true rfl) ?_
  intro pp e s m below meth c ls args Q ret X h hl
  have hl : lv_has ls 2 [(0, .ref (x 0)), (1, .int (iv (mx)))] := hl
  refine lv_aload_n X.1 X.2.1 dX2_isNumberTo_0 rfl (lv_at hl 0 rfl) ?_
  refine z_get X h 2 0 2 rfl inX2 rfl (by decide) fl_X2_19 rfl dX2_isNumberTo_1 ?_
  refine z_iconst X dX2_isNumberTo_4 ?_
  refine z_ic_ne (tgt := 20) X rs ⟨by decide, by decide⟩ dX2_isNumberTo_5 (by decide) (fun c_5 => ?_) (fun c_5 => ?_)
  · refine z_iconst X dX2_isNumberTo_20 ?_
    exact ret _ _ _ ((bz_f (by omega)).symm) dX2_isNumberTo_21
  · refine lv_aload_n X.1 X.2.1 dX2_isNumberTo_8 rfl (lv_at hl 0 rfl) ?_
    refine z_get X h 2 0 5 rfl inX2 rfl (by decide) fl_X2_28 rfl dX2_isNumberTo_9 ?_
    refine W.eq (g2 := F0 m 12 ls [.int (iv (nv))]) (by rw [hu (by omega)]) ?_
    refine lv_iload_n X.1 X.2.1 dX2_isNumberTo_12 rfl (lv_at hl 1 rfl) ?_
    refine z_ic_gt (tgt := 20) X (rn (by omega)) rm_ dX2_isNumberTo_13 (by decide) (fun c_13 => ?_) (fun c_13 => ?_)
    · refine z_iconst X dX2_isNumberTo_20 ?_
      exact ret _ _ _ ((bz_f (by omega)).symm) dX2_isNumberTo_21
    · refine z_iconst X dX2_isNumberTo_16 ?_
      refine lv_goto (tgt := 21) X.1 X.2.1 dX2_isNumberTo_17 (by decide) ?_
      exact ret _ _ _ ((bz_t (by omega)).symm) dX2_isNumberTo_21
