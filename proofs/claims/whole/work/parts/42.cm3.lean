variable {E : EV} {l : Launch} {a : Nat → Nat} {xs xi xk xc xl xr xb yl yr : Nat → Int32} {A : Es}
set_option maxHeartbeats 4000000 in
theorem c_X1_passHour (hR : RS (xs, xi, xk, xc, xl, xr, xb, yl, yr) A) (hI : IA A) (hh : hr A < 1000000) : MV (S := Sa) E l yX1_passHour cX1_passHour 3 (rmk 3 67) (wS E a ((iv (hr A))) ((iv (pe A))) (xs, xi, xk, xc, xl, xr, xb, yl, yr)) [.ref (a 0)] (fun u => RS u (step A)) (fun u => wS E a (iv (hr (step A))) (iv (pe (step A))) u) := by
  refine goV (S := Sa) (post := fun u => RS u (step A)) (ws' := fun u => wS E a (iv (hr (step A))) (iv (pe (step A))) u) (by decide) (Nat.le_of_ble_eq_true rfl) ?_
  intro pp e s m below meth c ls args Q ret X h hl
  have hl : lv_has ls 3 [(0, .ref (a 0))] := hl
  have n8 := hI.n8
  have n0 := hI.n0
  have h0 := hI.h0
  refine z_iconst X dX1_passHour_0 ?_
  refine lv_istore_n (lv' := [(1, .int (iv (0))), (0, .ref (a 0))]) X.1 X.2.1 dX1_passHour_1 rfl hl (by decide) rfl (fun ls hl => ?_)
  have L2 : ∀ (fuel_ : Nat) (i : Int) (ul : Nat → Int32) (ur : Nat → Int32), (0 ≤ i) → (i ≤ pe A) → (∀ q, 0 ≤ q → q < i → ul q.toNat = iv (gv A q 0)) → (∀ q, 0 ≤ q → q < i → ur q.toNat = iv (gv A q 1)) → pe A - i < (fuel_ : Int) → ∀ (H : Heap) (locs : List Loc), St E (wS E a ((iv (hr A))) ((iv (pe A))) (xs, xi, xk, xc, xl, xr, xb, yl, yr)) s H locs (wS E a ((iv (hr A))) ((iv (pe A))) (xs, xi, xk, xc, xl, xr, xb, ul, ur)) → ∀ ls : Array Slot, lv_has ls 3 [(0, .ref (a 0)), (1, .int (iv (i)))] → W pp l e (rmk 3 67) s m args below meth c H locs 0 0 Q (F0 m 2 ls []) := by
    intro fuel_
    induction fuel_ with
    | zero =>
      intro i ul ur i0 i1 hul hur hn
      exfalso; omega
    | succ fuel_ ih =>
      intro i ul ur i0 i1 hul hur hn H locs h ls hl
      have hRu : RS (xs, xi, xk, xc, xl, xr, xb, ul, ur) A := RS_scr hR
      refine lv_iload_n X.1 X.2.1 dX1_passHour_2 rfl (lv_at hl 1 rfl) ?_
      refine lv_aload_n X.1 X.2.1 dX1_passHour_3 rfl (lv_at hl 0 rfl) ?_
      refine z_get X h 1 0 1 rfl inX1 rfl (by decide) fl_X1_15 rfl dX1_passHour_4 ?_
      refine z_ic_ge (tgt := 38) X ⟨by omega, by omega⟩ ⟨by omega, by omega⟩ dX1_passHour_7 (by decide) (fun c_7 => ?_) (fun c_7 => ?_)
      · refine z_iconst X dX1_passHour_38 ?_
        refine lv_istore_n (lv' := [(1, .int (iv (0))), (0, .ref (a 0))]) X.1 X.2.1 dX1_passHour_39 rfl hl (by decide) rfl (fun ls hl => ?_)
        have hl9 : ∀ q, 0 ≤ q → q < pe A → ul q.toNat = iv (gv A q 0) := fun q a b => hul q a (by omega)
        have hr9 : ∀ q, 0 ≤ q → q < pe A → ur q.toNat = iv (gv A q 1) := fun q a b => hur q a (by omega)
        have L40 : ∀ (fuel_ : Nat) (k : Int) (vl : Nat → Int32) (vr : Nat → Int32) (vb : Nat → Int32), (0 ≤ k) → (k ≤ pe A) → (RS (xs, xi, xk, xc, vl, vr, vb, ul, ur) (mid A (2 * k))) → pe A - k < (fuel_ : Int) → ∀ (H : Heap) (locs : List Loc), St E (wS E a ((iv (hr A))) ((iv (pe A))) (xs, xi, xk, xc, xl, xr, xb, yl, yr)) s H locs (wS E a ((iv (hr A))) ((iv (pe A))) (xs, xi, xk, xc, vl, vr, vb, ul, ur)) → ∀ ls : Array Slot, lv_has ls 3 [(0, .ref (a 0)), (1, .int (iv (k)))] → W pp l e (rmk 3 67) s m args below meth c H locs 0 0 Q (F0 m 40 ls []) := by
          intro fuel_
          induction fuel_ with
          | zero =>
            intro k vl vr vb k0 k1 hv hn
            exfalso; omega
          | succ fuel_ ih =>
            intro k vl vr vb k0 k1 hv hn H locs h ls hl
            have pm : pe (mid A (2 * k)) = pe A := rfl
            have gr0 := gv_rng hI k 0
            have gr1 := gv_rng hI k 1
            have m01 := mid_01 A (2 * k) k
            have m234 := mid_234 (A := A) (k := 2 * k) (p := k) rfl
            have fdr : 0 ≤ fdO (mid A (2 * k)) k ∧ fdO (mid A (2 * k)) k ≤ 2 := fade_rng
            refine lv_iload_n X.1 X.2.1 dX1_passHour_40 rfl (lv_at hl 1 rfl) ?_
            refine lv_aload_n X.1 X.2.1 dX1_passHour_41 rfl (lv_at hl 0 rfl) ?_
            refine z_get X h 1 0 1 rfl inX1 rfl (by decide) fl_X1_15 rfl dX1_passHour_42 ?_
            refine z_ic_ge (tgt := 138) X ⟨by omega, by omega⟩ ⟨by omega, by omega⟩ dX1_passHour_45 (by decide) (fun c_45 => ?_) (fun c_45 => ?_)
            · refine lv_aload_n X.1 X.2.1 dX1_passHour_138 rfl (lv_at hl 0 rfl) ?_
              refine lv_dup X.1 X.2.1 dX1_passHour_139 rfl ?_
              refine z_get X h 1 0 0 rfl inX1 rfl (by decide) fl_X1_9 rfl dX1_passHour_140 ?_
              refine z_iconst X dX1_passHour_143 ?_
              refine z_iadd X dX1_passHour_144 ?_
              refine z_put X h 1 0 0 rfl inX1 tyX1 tyX1_ok nmX1 rfl (by decide) fl_X1_9 rfl rfl rfl (Nat.le_of_ble_eq_true rfl) dX1_passHour_145 (fun H locs h => ?_)
              have h := stS_hour h
              have h : St E _ s H locs (wS E a ((iv (hr A + 1))) ((iv (pe A))) (xs, xi, xk, xc, vl, vr, vb, ul, ur)) := h
              exact ret _ _ _ _ ((xs, xi, xk, xc, vl, vr, vb, ul, ur)) h (RS_me n0 (by rw [show k = pe A by omega] at hv; exact hv)) dX1_passHour_148
            · refine lv_aload_n X.1 X.2.1 dX1_passHour_48 rfl (lv_at hl 0 rfl) ?_
              refine lv_iload_n X.1 X.2.1 dX1_passHour_49 rfl (lv_at hl 1 rfl) ?_
              refine z_pi (run_V (rest := []) X h (c_X1_sits (p := k) hv (mid_IA hI (2 * k)) (by omega) (by omega)) mi_X1_sits ml_X1_66 ⟨Nat.le_of_ble_eq_true rfl, Nat.le_of_ble_eq_true rfl⟩ ⟨rfl, rfl⟩ (Seg.rfl' _) 1 0 rfl rfl rfl rfl hl.1 rfl (Nat.le_of_ble_eq_true rfl) ⟨Nat.zero_le _, Nat.zero_le _⟩ dX1_passHour_50) ?_
              refine z_ifb_eq (tgt := 132) X dX1_passHour_53 (by decide) (fun c_53 => ?_) (fun c_53 => ?_)
              · have hn9 : ¬ 0 ≤ pr A 1 k := by rw [← m01.2]; exact c_53
                refine z_iinc (k := 1) (lv' := [(1, .int (iv (k + 1))), (0, .ref (a 0))]) X dX1_passHour_132 hl rfl (by decide) rfl (fun ls hl => ?_)
                refine lv_goto (tgt := 40) X.1 X.2.1 dX1_passHour_135 (by decide) ?_
                exact ih (k + 1) (vl) (vr) (vb) (by omega) (by omega) (RS_mn hv n0 hn9) (by omega) _ _ h ls (lv_sub hl [1, 0] rfl)
              · have hc9 : 0 ≤ pr A 1 k := by rw [← m01.2]; exact c_53
                have qk := hI.gP (p := k) (by omega) (by omega)
                refine lv_aload_n X.1 X.2.1 dX1_passHour_56 rfl (lv_at hl 0 rfl) ?_
                refine lv_iload_n X.1 X.2.1 dX1_passHour_57 rfl (lv_at hl 1 rfl) ?_
                refine z_pi (run_V (rest := []) X h (c_X1_fadesOf (p := k) hv (mid_IA hI (2 * k)) (show hr (mid A (2 * k)) < 1000000 from hh) (by omega) (by omega)) mi_X1_fadesOf ml_X1_112 ⟨Nat.le_of_ble_eq_true rfl, Nat.le_of_ble_eq_true rfl⟩ ⟨rfl, rfl⟩ (Seg.rfl' _) 1 0 rfl rfl rfl rfl hl.1 rfl (Nat.le_of_ble_eq_true rfl) ⟨Nat.zero_le _, Nat.zero_le _⟩ dX1_passHour_58) ?_
                refine lv_istore_n (lv' := [(2, .int (iv (fdO (mid A (2 * k)) k))), (0, .ref (a 0)), (1, .int (iv (k)))]) X.1 X.2.1 dX1_passHour_61 rfl hl (by decide) rfl (fun ls hl => ?_)
                refine lv_aload_n X.1 X.2.1 dX1_passHour_62 rfl (lv_at hl 1 rfl) ?_
                refine z_get X h 1 0 6 rfl inX1 rfl (by decide) fl_X1_31 rfl dX1_passHour_63 ?_
                refine lv_iload_n X.1 X.2.1 dX1_passHour_66 rfl (lv_at hl 2 rfl) ?_
                refine lv_aload_n X.1 X.2.1 dX1_passHour_67 rfl (lv_at hl 1 rfl) ?_
                refine lv_iload_n X.1 X.2.1 dX1_passHour_68 rfl (lv_at hl 2 rfl) ?_
                refine lv_aload_n X.1 X.2.1 dX1_passHour_69 rfl (lv_at hl 1 rfl) ?_
                refine z_get X h 1 0 6 rfl inX1 rfl (by decide) fl_X1_31 rfl dX1_passHour_70 ?_
                refine lv_iload_n X.1 X.2.1 dX1_passHour_73 rfl (lv_at hl 2 rfl) ?_
                refine z_iald (v := pr (mid A (2 * k)) 2 k) X h 5 rfl (by omega) (by omega) (by decide) (hv.2.2.2.2.1 k (by omega) (by omega)) dX1_passHour_74 ?_
                refine lv_aload_n X.1 X.2.1 dX1_passHour_75 rfl (lv_at hl 1 rfl) ?_
                refine z_get X h 1 0 9 rfl inX1 rfl (by decide) fl_X1_40 rfl dX1_passHour_76 ?_
                refine lv_iload_n X.1 X.2.1 dX1_passHour_79 rfl (lv_at hl 2 rfl) ?_
                refine z_iald (v := gv A k 0) X h 8 rfl (by omega) (by omega) (by decide) (hl9 k (by omega) (by omega)) dX1_passHour_80 ?_
                refine lv_iload_n X.1 X.2.1 dX1_passHour_81 rfl (lv_at hl 0 rfl) ?_
                refine z_pi (run_V (rest := [.int (iv (k)), .ref (a 5)]) X h (c_X1_browned (p := k) (b := pr (mid A (2 * k)) 2 k) (gi := gv A k 0) (f := fdO (mid A (2 * k)) k) hv (mid_IA hI (2 * k)) (by omega) (by omega) (by omega) (by omega) (by omega) (by omega) (by omega) (by omega)) mi_X1_browned ml_X1_115 ⟨Nat.le_of_ble_eq_true rfl, Nat.le_of_ble_eq_true rfl⟩ ⟨rfl, rfl⟩ (Seg.rfl' _) 1 0 rfl rfl rfl rfl hl.1 rfl (Nat.le_of_ble_eq_true rfl) ⟨Nat.zero_le _, Nat.zero_le _⟩ dX1_passHour_82) ?_
                refine z_iast X h 5 rfl (by omega) (by omega) (by decide) dX1_passHour_85 (fun H locs h => ?_)
                have h := stS_lefts h
                have h : St E _ s H locs (wS E a ((iv (hr A))) ((iv (pe A))) (xs, xi, xk, xc, (upd vl (k : Int).toNat (iv (held (pr (mid A (2 * k)) 2 k + take (pr (mid A (2 * k)) 0 k) (gv A k 0) - (fdO (mid A (2 * k)) k)) 0 200))), vr, vb, ul, ur)) := h
                obtain ⟨B1, eB1⟩ : ∃ B, B = pu (mid A (2 * k)) 2 k (held (pr (mid A (2 * k)) 2 k + take (pr (mid A (2 * k)) 0 k) (gv A k 0) - (fdO (mid A (2 * k)) k)) 0 200) := ⟨_, rfl⟩
                have hB1 : RS (xs, xi, xk, xc, (upd vl (k : Int).toNat (iv (held (pr (mid A (2 * k)) 2 k + take (pr (mid A (2 * k)) 0 k) (gv A k 0) - (fdO (mid A (2 * k)) k)) 0 200))), vr, vb, ul, ur) B1 := by rw [eB1]; exact RS_le hv (mid_IA hI (2 * k)).n0 k0
                have iB1 : IA B1 := by rw [eB1]; exact IA_pu (mid_IA hI (2 * k)) k0 (by omega) (Or.inr (Or.inl ⟨by omega, held_rng (by omega)⟩))
                have pB1 : pe B1 = pe A := by rw [eB1]; first | rfl | exact pB0
                have qB1 : hr B1 = hr A := by rw [eB1]; first | rfl | exact qB0
                have h : St E (wS E a ((iv (hr A))) ((iv (pe A))) (xs, xi, xk, xc, xl, xr, xb, yl, yr)) s H locs (wS E a ((iv (hr B1))) ((iv (pe B1))) (xs, xi, xk, xc, (upd vl (k : Int).toNat (iv (held (pr (mid A (2 * k)) 2 k + take (pr (mid A (2 * k)) 0 k) (gv A k 0) - (fdO (mid A (2 * k)) k)) 0 200))), vr, vb, ul, ur)) := by rw [eB1]; exact h
                have n2 : held (pr (mid A (2 * k)) 2 k + take (pr (mid A (2 * k)) 0 k) (gv A k 0) - (fdO (mid A (2 * k)) k)) 0 200 = nside A k 0 := by rw [m234.1, m01.1, mid_fd]; rfl
                have e10 : pr B1 0 k = pr A 0 k := by rw [eB1, pu_at, if_neg (by omega)]; exact m01.1
                have e13 : pr B1 3 k = pr A 3 k := by rw [eB1, pu_at, if_neg (by omega)]; exact m234.2.1
                have e14 : pr B1 4 k = pr A 4 k := by rw [eB1, pu_at, if_neg (by omega)]; exact m234.2.2
                refine lv_aload_n X.1 X.2.1 dX1_passHour_86 rfl (lv_at hl 1 rfl) ?_
                refine z_get X h 1 0 7 rfl inX1 rfl (by decide) fl_X1_34 rfl dX1_passHour_87 ?_
                refine lv_iload_n X.1 X.2.1 dX1_passHour_90 rfl (lv_at hl 2 rfl) ?_
                refine lv_aload_n X.1 X.2.1 dX1_passHour_91 rfl (lv_at hl 1 rfl) ?_
                refine lv_iload_n X.1 X.2.1 dX1_passHour_92 rfl (lv_at hl 2 rfl) ?_
                refine lv_aload_n X.1 X.2.1 dX1_passHour_93 rfl (lv_at hl 1 rfl) ?_
                refine z_get X h 1 0 7 rfl inX1 rfl (by decide) fl_X1_34 rfl dX1_passHour_94 ?_
                refine lv_iload_n X.1 X.2.1 dX1_passHour_97 rfl (lv_at hl 2 rfl) ?_
                refine z_iald (v := pr B1 3 k) X h 6 rfl (by omega) (by omega) (by decide) (hB1.2.2.2.2.2.1 k (by omega) (by omega)) dX1_passHour_98 ?_
                refine lv_aload_n X.1 X.2.1 dX1_passHour_99 rfl (lv_at hl 1 rfl) ?_
                refine z_get X h 1 0 10 rfl inX1 rfl (by decide) fl_X1_43 rfl dX1_passHour_100 ?_
                refine lv_iload_n X.1 X.2.1 dX1_passHour_103 rfl (lv_at hl 2 rfl) ?_
                refine z_iald (v := gv A k 1) X h 9 rfl (by omega) (by omega) (by decide) (hr9 k (by omega) (by omega)) dX1_passHour_104 ?_
                refine lv_iload_n X.1 X.2.1 dX1_passHour_105 rfl (lv_at hl 0 rfl) ?_
                refine z_pi (run_V (rest := [.int (iv (k)), .ref (a 6)]) X h (c_X1_browned (p := k) (b := pr B1 3 k) (gi := gv A k 1) (f := fdO (mid A (2 * k)) k) hB1 iB1 (by omega) (by omega) (by omega) (by omega) (by omega) (by omega) (by omega) (by omega)) mi_X1_browned ml_X1_115 ⟨Nat.le_of_ble_eq_true rfl, Nat.le_of_ble_eq_true rfl⟩ ⟨rfl, rfl⟩ (Seg.rfl' _) 1 0 rfl rfl rfl rfl hl.1 rfl (Nat.le_of_ble_eq_true rfl) ⟨Nat.zero_le _, Nat.zero_le _⟩ dX1_passHour_106) ?_
                refine z_iast X h 6 rfl (by omega) (by omega) (by decide) dX1_passHour_109 (fun H locs h => ?_)
                have h := stS_rights h
                have h : St E _ s H locs (wS E a ((iv (hr B1))) ((iv (pe B1))) (xs, xi, xk, xc, (upd vl (k : Int).toNat (iv (held (pr (mid A (2 * k)) 2 k + take (pr (mid A (2 * k)) 0 k) (gv A k 0) - (fdO (mid A (2 * k)) k)) 0 200))), (upd vr (k : Int).toNat (iv (held (pr B1 3 k + take (pr B1 0 k) (gv A k 1) - (fdO (mid A (2 * k)) k)) 0 200))), vb, ul, ur)) := h
                obtain ⟨B2, eB2⟩ : ∃ B, B = pu B1 3 k (held (pr B1 3 k + take (pr B1 0 k) (gv A k 1) - (fdO (mid A (2 * k)) k)) 0 200) := ⟨_, rfl⟩
                have hB2 : RS (xs, xi, xk, xc, (upd vl (k : Int).toNat (iv (held (pr (mid A (2 * k)) 2 k + take (pr (mid A (2 * k)) 0 k) (gv A k 0) - (fdO (mid A (2 * k)) k)) 0 200))), (upd vr (k : Int).toNat (iv (held (pr B1 3 k + take (pr B1 0 k) (gv A k 1) - (fdO (mid A (2 * k)) k)) 0 200))), vb, ul, ur) B2 := by rw [eB2]; exact RS_ri hB1 iB1.n0 k0
                have iB2 : IA B2 := by rw [eB2]; exact IA_pu iB1 k0 (by omega) (Or.inr (Or.inl ⟨by omega, held_rng (by omega)⟩))
                have pB2 : pe B2 = pe A := by rw [eB2]; first | rfl | exact pB1
                have qB2 : hr B2 = hr A := by rw [eB2]; first | rfl | exact qB1
                have h : St E (wS E a ((iv (hr A))) ((iv (pe A))) (xs, xi, xk, xc, xl, xr, xb, yl, yr)) s H locs (wS E a ((iv (hr B2))) ((iv (pe B2))) (xs, xi, xk, xc, (upd vl (k : Int).toNat (iv (held (pr (mid A (2 * k)) 2 k + take (pr (mid A (2 * k)) 0 k) (gv A k 0) - (fdO (mid A (2 * k)) k)) 0 200))), (upd vr (k : Int).toNat (iv (held (pr B1 3 k + take (pr B1 0 k) (gv A k 1) - (fdO (mid A (2 * k)) k)) 0 200))), vb, ul, ur)) := by rw [eB2]; exact h
                have n3 : held (pr B1 3 k + take (pr B1 0 k) (gv A k 1) - (fdO (mid A (2 * k)) k)) 0 200 = nside A k 1 := by rw [e13, e10, mid_fd]; rfl
                have e20 : pr B2 0 k = pr A 0 k := by rw [eB2, pu_at, if_neg (by omega)]; exact e10
                have e24 : pr B2 4 k = pr A 4 k := by rw [eB2, pu_at, if_neg (by omega)]; exact e14
                refine lv_aload_n X.1 X.2.1 dX1_passHour_110 rfl (lv_at hl 1 rfl) ?_
                refine lv_iload_n X.1 X.2.1 dX1_passHour_111 rfl (lv_at hl 2 rfl) ?_
                refine lv_aload_n X.1 X.2.1 dX1_passHour_112 rfl (lv_at hl 1 rfl) ?_
                refine z_get X h 1 0 9 rfl inX1 rfl (by decide) fl_X1_40 rfl dX1_passHour_113 ?_
                refine lv_iload_n X.1 X.2.1 dX1_passHour_116 rfl (lv_at hl 2 rfl) ?_
                refine z_iald (v := gv A k 0) X h 8 rfl (by omega) (by omega) (by decide) (hl9 k (by omega) (by omega)) dX1_passHour_117 ?_
                refine z_av h (run_V (rest := []) X h (c_X1_burn (p := k) (gi := (gv A k 0)) hB2 iB2 (by omega) (by first | omega | (show k < pe A; omega)) (by omega) (by omega)) mi_X1_burn ml_X1_118 ⟨Nat.le_of_ble_eq_true rfl, Nat.le_of_ble_eq_true rfl⟩ ⟨rfl, rfl⟩ (Seg.rfl' _) 1 0 rfl rfl rfl rfl hl.1 rfl (Nat.le_of_ble_eq_true rfl) ⟨Nat.zero_le _, Nat.zero_le _⟩ dX1_passHour_118) (fun _ => wS_map _ _ _ _ _ _ _ _) (fun zb1 H locs hp h => ?_)
                have h : St E _ s H locs (wS E a ((iv (hr B2))) ((iv (pe B2))) (xs, xi, xk, xc, (upd vl (k : Int).toNat (iv (held (pr (mid A (2 * k)) 2 k + take (pr (mid A (2 * k)) 0 k) (gv A k 0) - (fdO (mid A (2 * k)) k)) 0 200))), (upd vr (k : Int).toNat (iv (held (pr B1 3 k + take (pr B1 0 k) (gv A k 1) - (fdO (mid A (2 * k)) k)) 0 200))), zb1, ul, ur)) := h
                have hR1 : RS (xs, xi, xk, xc, (upd vl (k : Int).toNat (iv (held (pr (mid A (2 * k)) 2 k + take (pr (mid A (2 * k)) 0 k) (gv A k 0) - (fdO (mid A (2 * k)) k)) 0 200))), (upd vr (k : Int).toNat (iv (held (pr B1 3 k + take (pr B1 0 k) (gv A k 1) - (fdO (mid A (2 * k)) k)) 0 200))), zb1, ul, ur) (pu B2 4 k (bn1 (pr B2 0 k) (gv A k 0) (pr B2 4 k))) := hp
                have hI1 : IA (pu B2 4 k (bn1 (pr B2 0 k) (gv A k 0) (pr B2 4 k))) := IA_pu iB2 (by omega) (by first | omega | (show k < pe A; omega)) (Or.inr (Or.inr (Or.inl ⟨rfl, bn1_rng⟩)))
                obtain ⟨B3, eB3⟩ : ∃ B, B = (pu B2 4 k (bn1 (pr B2 0 k) (gv A k 0) (pr B2 4 k))) := ⟨_, rfl⟩
                have hB3 : RS (xs, xi, xk, xc, (upd vl (k : Int).toNat (iv (held (pr (mid A (2 * k)) 2 k + take (pr (mid A (2 * k)) 0 k) (gv A k 0) - (fdO (mid A (2 * k)) k)) 0 200))), (upd vr (k : Int).toNat (iv (held (pr B1 3 k + take (pr B1 0 k) (gv A k 1) - (fdO (mid A (2 * k)) k)) 0 200))), zb1, ul, ur) B3 := by rw [eB3]; exact hR1
                have iB3 : IA B3 := by rw [eB3]; exact hI1
                have pB3 : pe B3 = pe A := by rw [eB3]; exact pB2
                have qB3 : hr B3 = hr A := by rw [eB3]; exact qB2
                have h : St E (wS E a ((iv (hr A))) ((iv (pe A))) (xs, xi, xk, xc, xl, xr, xb, yl, yr)) s H locs (wS E a ((iv (hr B3))) ((iv (pe B3))) (xs, xi, xk, xc, (upd vl (k : Int).toNat (iv (held (pr (mid A (2 * k)) 2 k + take (pr (mid A (2 * k)) 0 k) (gv A k 0) - (fdO (mid A (2 * k)) k)) 0 200))), (upd vr (k : Int).toNat (iv (held (pr B1 3 k + take (pr B1 0 k) (gv A k 1) - (fdO (mid A (2 * k)) k)) 0 200))), zb1, ul, ur)) := by rw [eB3]; exact h
                have e30 : pr B3 0 k = pr A 0 k := by rw [eB3, pu_at, if_neg (by omega)]; exact e20
                have e34 : pr B3 4 k = bn1 (pr A 0 k) (gv A k 0) (pr A 4 k) := by rw [eB3, pu_at, if_pos ⟨rfl, rfl⟩, e20, e24]
                have n4 : bn1 (pr B3 0 k) (gv A k 1) (pr B3 4 k) = nburn A k := by rw [e30, e34]; rfl
                refine lv_aload_n X.1 X.2.1 dX1_passHour_121 rfl (lv_at hl 1 rfl) ?_
                refine lv_iload_n X.1 X.2.1 dX1_passHour_122 rfl (lv_at hl 2 rfl) ?_
                refine lv_aload_n X.1 X.2.1 dX1_passHour_123 rfl (lv_at hl 1 rfl) ?_
                refine z_get X h 1 0 10 rfl inX1 rfl (by decide) fl_X1_43 rfl dX1_passHour_124 ?_
                refine lv_iload_n X.1 X.2.1 dX1_passHour_127 rfl (lv_at hl 2 rfl) ?_
                refine z_iald (v := gv A k 1) X h 9 rfl (by omega) (by omega) (by decide) (hr9 k (by omega) (by omega)) dX1_passHour_128 ?_
                refine z_av h (run_V (rest := []) X h (c_X1_burn (p := k) (gi := (gv A k 1)) hB3 iB3 (by omega) (by first | omega | (show k < pe A; omega)) (by omega) (by omega)) mi_X1_burn ml_X1_118 ⟨Nat.le_of_ble_eq_true rfl, Nat.le_of_ble_eq_true rfl⟩ ⟨rfl, rfl⟩ (Seg.rfl' _) 1 0 rfl rfl rfl rfl hl.1 rfl (Nat.le_of_ble_eq_true rfl) ⟨Nat.zero_le _, Nat.zero_le _⟩ dX1_passHour_129) (fun _ => wS_map _ _ _ _ _ _ _ _) (fun zb2 H locs hp h => ?_)
                have h : St E _ s H locs (wS E a ((iv (hr B3))) ((iv (pe B3))) (xs, xi, xk, xc, (upd vl (k : Int).toNat (iv (held (pr (mid A (2 * k)) 2 k + take (pr (mid A (2 * k)) 0 k) (gv A k 0) - (fdO (mid A (2 * k)) k)) 0 200))), (upd vr (k : Int).toNat (iv (held (pr B1 3 k + take (pr B1 0 k) (gv A k 1) - (fdO (mid A (2 * k)) k)) 0 200))), zb2, ul, ur)) := h
                have hR2 : RS (xs, xi, xk, xc, (upd vl (k : Int).toNat (iv (held (pr (mid A (2 * k)) 2 k + take (pr (mid A (2 * k)) 0 k) (gv A k 0) - (fdO (mid A (2 * k)) k)) 0 200))), (upd vr (k : Int).toNat (iv (held (pr B1 3 k + take (pr B1 0 k) (gv A k 1) - (fdO (mid A (2 * k)) k)) 0 200))), zb2, ul, ur) (pu B3 4 k (bn1 (pr B3 0 k) (gv A k 1) (pr B3 4 k))) := hp
                have hI2 : IA (pu B3 4 k (bn1 (pr B3 0 k) (gv A k 1) (pr B3 4 k))) := IA_pu iB3 (by omega) (by first | omega | (show k < pe A; omega)) (Or.inr (Or.inr (Or.inl ⟨rfl, bn1_rng⟩)))
                have h : St E (wS E a ((iv (hr A))) ((iv (pe A))) (xs, xi, xk, xc, xl, xr, xb, yl, yr)) s H locs (wS E a ((iv (hr A))) ((iv (pe A))) (xs, xi, xk, xc, (upd vl (k : Int).toNat (iv (held (pr (mid A (2 * k)) 2 k + take (pr (mid A (2 * k)) 0 k) (gv A k 0) - (fdO (mid A (2 * k)) k)) 0 200))), (upd vr (k : Int).toNat (iv (held (pr B1 3 k + take (pr B1 0 k) (gv A k 1) - (fdO (mid A (2 * k)) k)) 0 200))), zb2, ul, ur)) := by rw [qB3, pB3] at h; exact h
                refine z_iinc (k := 2) (lv' := [(1, .int (iv (k + 1))), (2, .int (iv (fdO (mid A (2 * k)) k))), (0, .ref (a 0))]) X dX1_passHour_132 hl rfl (by decide) rfl (fun ls hl => ?_)
                refine lv_goto (tgt := 40) X.1 X.2.1 dX1_passHour_135 (by decide) ?_
                exact ih (k + 1) ((upd vl (k : Int).toNat (iv (held (pr (mid A (2 * k)) 2 k + take (pr (mid A (2 * k)) 0 k) (gv A k 0) - (fdO (mid A (2 * k)) k)) 0 200)))) ((upd vr (k : Int).toNat (iv (held (pr B1 3 k + take (pr B1 0 k) (gv A k 1) - (fdO (mid A (2 * k)) k)) 0 200)))) (zb2) (by omega) (by omega) (by subst eB3 eB2 eB1; exact RS_ms (p := k) n0 hc9 hR2 n2 n3 n4) (by omega) _ _ h ls (lv_sub hl [2, 0] rfl)
        exact L40 ((pe A - (0) : Int).toNat + 1) (0) (xl) (xr) (xb) (by omega) (by omega) (RS_m0 hRu n0) (by omega) _ _ h ls (lv_sub hl [1, 0] rfl)
      · refine lv_aload_n X.1 X.2.1 dX1_passHour_10 rfl (lv_at hl 0 rfl) ?_
        refine z_get X h 1 0 9 rfl inX1 rfl (by decide) fl_X1_40 rfl dX1_passHour_11 ?_
        refine lv_iload_n X.1 X.2.1 dX1_passHour_14 rfl (lv_at hl 1 rfl) ?_
        refine lv_aload_n X.1 X.2.1 dX1_passHour_15 rfl (lv_at hl 0 rfl) ?_
        refine lv_iload_n X.1 X.2.1 dX1_passHour_16 rfl (lv_at hl 1 rfl) ?_
        refine z_pi (run_V (rest := [.int (iv (i)), .ref (a 8)]) X h (c_X1_givenLeft (p := i) hRu hI hh (by omega) (by omega)) mi_X1_givenLeft ml_X1_106 ⟨Nat.le_of_ble_eq_true rfl, Nat.le_of_ble_eq_true rfl⟩ ⟨rfl, rfl⟩ (Seg.rfl' _) 1 0 rfl rfl rfl rfl hl.1 rfl (Nat.le_of_ble_eq_true rfl) ⟨Nat.zero_le _, Nat.zero_le _⟩ dX1_passHour_17) ?_
        refine z_iast X h 8 rfl (by omega) (by omega) (by decide) dX1_passHour_20 (fun H locs h => ?_)
        have h := stS_fromLeft h
        have h : St E _ s H locs (wS E a ((iv (hr A))) ((iv (pe A))) (xs, xi, xk, xc, xl, xr, xb, (upd ul (i : Int).toNat (iv (gv A i 0))), ur)) := h
        have hRv : RS (xs, xi, xk, xc, xl, xr, xb, (upd ul (i : Int).toNat (iv (gv A i 0))), ur) A := RS_scr hR
        refine lv_aload_n X.1 X.2.1 dX1_passHour_21 rfl (lv_at hl 0 rfl) ?_
        refine z_get X h 1 0 10 rfl inX1 rfl (by decide) fl_X1_43 rfl dX1_passHour_22 ?_
        refine lv_iload_n X.1 X.2.1 dX1_passHour_25 rfl (lv_at hl 1 rfl) ?_
        refine lv_aload_n X.1 X.2.1 dX1_passHour_26 rfl (lv_at hl 0 rfl) ?_
        refine lv_iload_n X.1 X.2.1 dX1_passHour_27 rfl (lv_at hl 1 rfl) ?_
        refine z_pi (run_V (rest := [.int (iv (i)), .ref (a 9)]) X h (c_X1_givenRight (p := i) hRv hI hh (by omega) (by omega)) mi_X1_givenRight ml_X1_109 ⟨Nat.le_of_ble_eq_true rfl, Nat.le_of_ble_eq_true rfl⟩ ⟨rfl, rfl⟩ (Seg.rfl' _) 1 0 rfl rfl rfl rfl hl.1 rfl (Nat.le_of_ble_eq_true rfl) ⟨Nat.zero_le _, Nat.zero_le _⟩ dX1_passHour_28) ?_
        refine z_iast X h 9 rfl (by omega) (by omega) (by decide) dX1_passHour_31 (fun H locs h => ?_)
        have h := stS_fromRight h
        have h : St E _ s H locs (wS E a ((iv (hr A))) ((iv (pe A))) (xs, xi, xk, xc, xl, xr, xb, (upd ul (i : Int).toNat (iv (gv A i 0))), (upd ur (i : Int).toNat (iv (gv A i 1))))) := h
        refine z_iinc (k := 1) (lv' := [(1, .int (iv (i + 1))), (0, .ref (a 0))]) X dX1_passHour_32 hl rfl (by decide) rfl (fun ls hl => ?_)
        refine lv_goto (tgt := 2) X.1 X.2.1 dX1_passHour_35 (by decide) ?_
        exact ih (i + 1) ((upd ul (i : Int).toNat (iv (gv A i 0)))) ((upd ur (i : Int).toNat (iv (gv A i 1)))) (by omega) (by omega) (gf_step i0 hul) (gf_step i0 hur) (by omega) _ _ h ls (lv_sub hl [1, 0] rfl)
  exact L2 ((pe A - (0) : Int).toNat + 1) (0) (yl) (yr) (by omega) (by omega) (fun q a b => absurd b (by omega)) (fun q a b => absurd b (by omega)) (by omega) _ _ h ls (lv_sub hl [1, 0] rfl)

set_option maxHeartbeats 4000000 in
theorem c_X1_goOn (hR : RS (xs, xi, xk, xc, xl, xr, xb, yl, yr) A) (hI : IA A) {k : Int} (k0 : 0 ≤ k) (k1 : k ≤ 1000) (hh : hr A + k < 1000000) : MV (S := Sa) E l yX1_goOn cX1_goOn 3 (rmk 4 89) (wS E a ((iv (hr A))) ((iv (pe A))) (xs, xi, xk, xc, xl, xr, xb, yl, yr)) [.ref (a 0), .int (iv (k))] (fun u => RS u (stepn A k.toNat)) (fun u => wS E a (iv (hr (stepn A k.toNat))) (iv (pe (stepn A k.toNat))) u) := by
  refine goV (S := Sa) (post := fun u => RS u (stepn A k.toNat)) (ws' := fun u => wS E a (iv (hr (stepn A k.toNat))) (iv (pe (stepn A k.toNat))) u) (by decide) (Nat.le_of_ble_eq_true rfl) ?_
  intro pp e s m below meth c ls args Q ret X h hl
  have hl : lv_has ls 3 [(0, .ref (a 0)), (1, .int (iv (k)))] := hl
  refine z_iconst X dX1_goOn_0 ?_
  refine lv_istore_n (lv' := [(2, .int (iv (0))), (0, .ref (a 0)), (1, .int (iv (k)))]) X.1 X.2.1 dX1_goOn_1 rfl hl (by decide) rfl (fun ls hl => ?_)
  have L2 : ∀ (fuel_ : Nat) (i : Int) (g1 : Nat → Int32) (g2 : Nat → Int32) (g3 : Nat → Int32) (g4 : Nat → Int32) (g5 : Nat → Int32) (g6 : Nat → Int32) (g7 : Nat → Int32) (g8 : Nat → Int32) (g9 : Nat → Int32), (0 ≤ i) → (i ≤ k) → (RS (g1, g2, g3, g4, g5, g6, g7, g8, g9) (stepn A i.toNat)) → k - i < (fuel_ : Int) → ∀ (H : Heap) (locs : List Loc), St E (wS E a ((iv (hr A))) ((iv (pe A))) (xs, xi, xk, xc, xl, xr, xb, yl, yr)) s H locs (wS E a ((iv (hr (stepn A i.toNat)))) ((iv (pe (stepn A i.toNat)))) (g1, g2, g3, g4, g5, g6, g7, g8, g9)) → ∀ ls : Array Slot, lv_has ls 3 [(0, .ref (a 0)), (1, .int (iv (k))), (2, .int (iv (i)))] → W pp l e (rmk 4 89) s m args below meth c H locs 0 0 Q (F0 m 2 ls []) := by
    intro fuel_
    induction fuel_ with
    | zero =>
      intro i g1 g2 g3 g4 g5 g6 g7 g8 g9 i0 i1 hv hn
      exfalso; omega
    | succ fuel_ ih =>
      intro i g1 g2 g3 g4 g5 g6 g7 g8 g9 i0 i1 hv hn H locs h ls hl
      refine lv_iload_n X.1 X.2.1 dX1_goOn_2 rfl (lv_at hl 2 rfl) ?_
      refine lv_iload_n X.1 X.2.1 dX1_goOn_3 rfl (lv_at hl 1 rfl) ?_
      refine z_ic_ge (tgt := 17) X ⟨by omega, by omega⟩ ⟨by omega, by omega⟩ dX1_goOn_4 (by decide) (fun c_4 => ?_) (fun c_4 => ?_)
      · have ik : i = k := by omega
        subst ik
        exact ret _ _ _ _ (g1, g2, g3, g4, g5, g6, g7, g8, g9) h hv dX1_goOn_17
      · refine lv_aload_n X.1 X.2.1 dX1_goOn_7 rfl (lv_at hl 0 rfl) ?_
        refine z_av h (run_V (rest := []) X h (c_X1_passHour hv (stepn_IA hI i.toNat) (show hr (stepn A i.toNat) < 1000000 by rw [stepn_hr]; omega)) mi_X1_passHour ml_X1_103 ⟨Nat.le_of_ble_eq_true rfl, Nat.le_of_ble_eq_true rfl⟩ ⟨rfl, rfl⟩ (Seg.rfl' _) 1 0 rfl rfl rfl rfl hl.1 rfl (Nat.le_of_ble_eq_true rfl) ⟨Nat.zero_le _, Nat.zero_le _⟩ dX1_goOn_8) (fun _ => wS_map _ _ _ _ _ _ _ _) (fun u H locs hp h => ?_)
        obtain ⟨z0_1, z1_1, z2_1, z3_1, z4_1, z5_1, z6_1, z7_1, z8_1⟩ := u
        have h : St E _ s H locs (wS E a ((iv (hr (step (stepn A i.toNat))))) ((iv (pe (step (stepn A i.toNat))))) (z0_1, z1_1, z2_1, z3_1, z4_1, z5_1, z6_1, z7_1, z8_1)) := h
        have hR1 : RS (z0_1, z1_1, z2_1, z3_1, z4_1, z5_1, z6_1, z7_1, z8_1) (step (stepn A i.toNat)) := hp
        have h : St E (wS E a ((iv (hr A))) ((iv (pe A))) (xs, xi, xk, xc, xl, xr, xb, yl, yr)) s H locs (wS E a ((iv (hr (stepn A (i + 1).toNat)))) ((iv (pe (stepn A (i + 1).toNat)))) (z0_1, z1_1, z2_1, z3_1, z4_1, z5_1, z6_1, z7_1, z8_1)) := by rw [tn1 i0]; exact h
        refine z_iinc (k := 2) (lv' := [(2, .int (iv (i + 1))), (0, .ref (a 0)), (1, .int (iv (k)))]) X dX1_goOn_11 hl rfl (by decide) rfl (fun ls hl => ?_)
        refine lv_goto (tgt := 2) X.1 X.2.1 dX1_goOn_14 (by decide) ?_
        exact ih (i + 1) (z0_1) (z1_1) (z2_1) (z3_1) (z4_1) (z5_1) (z6_1) (z7_1) (z8_1) (by omega) (by omega) (by rw [tn1 i0]; exact hR1) (by omega) _ _ h ls (lv_sub hl [1, 2, 0] rfl)
  exact L2 ((k - (0) : Int).toNat + 1) (0) (xs) (xi) (xk) (xc) (xl) (xr) (xb) (yl) (yr) (by omega) (by omega) (hR) (by omega) _ _ h ls (lv_sub hl [1, 2, 0] rfl)
