variable {E : EV} {l : Launch} {a : Nat → Nat} {mm kp wa fd gf tp bt sz : Nat → Int32} {cl : Nat → Int64} {ik tn tk bg pt vl bd : Int} {A : Es} {K : Es} {ph tq bq sq : Int → Int} {cq : Int → Int → Int64}
set_option maxHeartbeats 4000000 in
theorem c_X5_esplanade (hR : RM mm A) (hI : IA A) (hT : RT tp tq tn) : MI (S := (Nat → Int32) × (Nat → Int32) × Int × Int × Int × Int × Int) E l yX5_esplanade cX5_esplanade 2 (some FieldType.int) (rmk 7 158) (wM E a (mm, kp, wa, (iv (ik)), fd, gf, tp, (iv (tn)), (iv (tk)), (iv (bg)), (iv (pt)), (iv (vl)), (iv (bd)), bt, sz, cl)) [.ref (a 0)] (fun r u => r = iv (q_esp tq tn A).1 ∧ RM u.1 (q_esp tq tn A).2 ∧ IA (q_esp tq tn A).2 ∧ hr (q_esp tq tn A).2 = hr A) (fun u => wM E a (u.1, kp, u.2.1, (iv (ik)), fd, gf, tp, (iv (0)), (iv (u.2.2.1)), (iv (u.2.2.2.1)), (iv (u.2.2.2.2.1)), (iv (u.2.2.2.2.2.1)), (iv (u.2.2.2.2.2.2)), bt, sz, cl)) := by
  refine goI (S := (Nat → Int32) × (Nat → Int32) × Int × Int × Int × Int × Int) (post := fun r u => r = iv (q_esp tq tn A).1 ∧ RM u.1 (q_esp tq tn A).2 ∧ IA (q_esp tq tn A).2 ∧ hr (q_esp tq tn A).2 = hr A) (ws' := fun u => wM E a (u.1, kp, u.2.1, (iv (ik)), fd, gf, tp, (iv (0)), (iv (u.2.2.1)), (iv (u.2.2.2.1)), (iv (u.2.2.2.2.1)), (iv (u.2.2.2.2.2.1)), (iv (u.2.2.2.2.2.2)), bt, sz, cl)) (by decide) (Nat.le_of_ble_eq_true rfl) ?_
  intro pp e s m below meth c ls args Q ret X h hl
  have hl : lv_has ls 2 [(0, .ref (a 0))] := hl
  have t0 := hT.1
  have t1 := hT.2.1
  have n8 := hI.n8
  have n0 := hI.n0
  refine lv_aload_n X.1 X.2.1 dX5_esplanade_0 rfl (lv_at hl 0 rfl) ?_
  refine z_av h (run_V (rest := []) X h (c_X5_thinks) mi_X5_thinks ml_X5_139 ⟨Nat.le_of_ble_eq_true rfl, Nat.le_of_ble_eq_true rfl⟩ ⟨rfl, rfl⟩ (Seg.rfl' _) 4 0 rfl rfl rfl rfl hl.1 rfl (Nat.le_of_ble_eq_true rfl) ⟨Nat.zero_le _, Nat.zero_le _⟩ dX5_esplanade_1) (fun _ => wM_map _ _ _ _) (fun wa1 H locs hw1 h => ?_)
  have h : St E _ s H locs (wM E a (mm, kp, wa1, (iv (ik)), fd, gf, tp, (iv (tn)), (iv (tk)), (iv (bg)), (iv (pt)), (iv (vl)), (iv (bd)), bt, sz, cl)) := h
  have hT1 := RM_eq hR hI.n8 hw1
  refine lv_aload_n X.1 X.2.1 dX5_esplanade_4 rfl (lv_at hl 0 rfl) ?_
  refine z_iconst X dX5_esplanade_5 ?_
  refine z_put X h 4 0 10 rfl inX5 tyX5 tyX5_ok nmX5 rfl (by decide) fl_X5_164 rfl rfl rfl (Nat.le_of_ble_eq_true rfl) dX5_esplanade_6 (fun H locs h => ?_)
  have h := stM_at h
  have h : St E _ s H locs (wM E a (mm, kp, wa1, (iv (ik)), fd, gf, tp, (iv (tn)), (iv (tk)), (iv (bg)), (iv (0)), (iv (vl)), (iv (bd)), bt, sz, cl)) := h
  refine lv_aload_n X.1 X.2.1 dX5_esplanade_9 rfl (lv_at hl 0 rfl) ?_
  refine z_iconst X dX5_esplanade_10 ?_
  refine z_put X h 4 0 12 rfl inX5 tyX5 tyX5_ok nmX5 rfl (by decide) fl_X5_183 rfl (by decide) (by decide) (Nat.le_of_ble_eq_true rfl) dX5_esplanade_11 (fun H locs h => ?_)
  have h := stM_bad h
  have h : St E _ s H locs (wM E a (mm, kp, wa1, (iv (ik)), fd, gf, tp, (iv (tn)), (iv (tk)), (iv (bg)), (iv (0)), (iv (vl)), (iv (0)), bt, sz, cl)) := h
  refine lv_aload_n X.1 X.2.1 dX5_esplanade_14 rfl (lv_at hl 0 rfl) ?_
  refine z_av h (run_V (rest := []) X h (c_X5_reads (pt := 0) hT (by omega) (by omega)) mi_X5_reads ml_X5_187 ⟨Nat.le_of_ble_eq_true rfl, Nat.le_of_ble_eq_true rfl⟩ ⟨rfl, rfl⟩ (Seg.rfl' _) 4 0 rfl rfl rfl rfl hl.1 rfl (Nat.le_of_ble_eq_true rfl) ⟨Nat.zero_le _, Nat.zero_le _⟩ dX5_esplanade_15) (fun _ => wM_map _ _ _ _) (fun v2 H locs cv2 h => ?_)
  have h : St E _ s H locs (wM E a (mm, kp, wa1, (iv (ik)), fd, gf, tp, (iv (tn)), (iv (tK tq tn 0)), (iv (tS tq tn 0)), (iv (tE tq tn 0)), (iv (v2)), (iv (0)), bt, sz, cl)) := h
  have tr2 := tok_rng tq (tn := tn) (i := 0) (by omega) (by omega)
  have cr2 := cv2.1
  have cq2 := cv2.2.1
  have cn2 := CV_nn cv2
  refine lv_aload_n X.1 X.2.1 dX5_esplanade_18 rfl (lv_at hl 0 rfl) ?_
  refine z_av h (run_V (rest := []) X h (c_X5_item (i := 0) hR hI hT (by omega) (by omega) cv2) mi_X5_item ml_X5_206 ⟨Nat.le_of_ble_eq_true rfl, Nat.le_of_ble_eq_true rfl⟩ ⟨rfl, rfl⟩ (Seg.rfl' _) 4 0 rfl rfl rfl rfl hl.1 rfl (Nat.le_of_ble_eq_true rfl) ⟨Nat.zero_le _, Nat.zero_le _⟩ dX5_esplanade_19) (fun _ => wM_map _ _ _ _) (fun u3 H locs hp3 h => ?_)
  obtain ⟨T3, eT3⟩ : ∃ T, T = itm tq tn A 0 := ⟨_, rfl⟩
  rw [← eT3] at h hp3
  have h : St E _ s H locs (wM E a (u3.1, kp, wa1, (iv (ik)), fd, gf, tp, (iv (tn)), (iv (tK tq tn T3.2.2)), (iv (tS tq tn T3.2.2)), (iv (tE tq tn T3.2.2)), (iv (u3.2)), (iv (btb T3.1)), bt, sz, cl)) := h
  have iq3 := hp3.2.2.2.2.1
  have ir3 := hp3.2.2.2.2.2.1
  have is3 := hp3.2.2.2.2.2.2
  refine z_iconst X dX5_esplanade_22 ?_
  refine lv_istore_n (lv' := [(1, .int (iv (1))), (0, .ref (a 0))]) X.1 X.2.1 dX5_esplanade_23 rfl hl (by decide) rfl (fun ls hl => ?_)
  have L24 : ∀ (fuel_ : Nat) (f : Nat) (B1 : Es) (ok : Bool) (A1 : Es) (j : Int) (v : Int) (it : Int) (mx : Nat → Int32), ((f : Int) + it = 130) → (1 ≤ it) → (ok = true → 2 * it - 1 ≤ j) → (RM mx A1) → (IA A1) → (hr A1 = hr A) → (CV v (tV tq tn j)) → (0 ≤ j) → (j ≤ tn) → (prs tq tn 130 A 0 1 = aft tq tn f B1 (ok, A1, j) it) → 130 - it < (fuel_ : Int) → ∀ (H : Heap) (locs : List Loc), St E (wM E a (mm, kp, wa, (iv (ik)), fd, gf, tp, (iv (tn)), (iv (tk)), (iv (bg)), (iv (pt)), (iv (vl)), (iv (bd)), bt, sz, cl)) s H locs (wM E a (mx, kp, wa1, (iv (ik)), fd, gf, tp, (iv (tn)), (iv (tK tq tn j)), (iv (tS tq tn j)), (iv (tE tq tn j)), (iv (v)), (iv (btb ok)), bt, sz, cl)) → ∀ ls : Array Slot, lv_has ls 2 [(0, .ref (a 0)), (1, .int (iv (it)))] → W pp l e (rmk 7 158) s m args below meth c H locs 0 0 Q (F0 m 24 ls []) := by
    intro fuel_
    induction fuel_ with
    | zero =>
      intro f B1 ok A1 j v it mx f0 it0 i2_ hR1 hI1 hh1 cvj j0 j1 hP9 hn
      exfalso; omega
    | succ fuel_ ih =>
      intro f B1 ok A1 j v it mx f0 it0 i2_ hR1 hI1 hh1 cvj j0 j1 hP9 hn H locs h ls hl
      have trj := tok_rng tq (tn := tn) (i := j) (by omega) (by omega)
      have crj := cvj.1
      have cqj := cvj.2.1
      have cnj := CV_nn cvj
      refine lv_aload_n X.1 X.2.1 dX5_esplanade_24 rfl (lv_at hl 0 rfl) ?_
      cases ok with
      | true =>
        have h : St E _ s H locs (wM E a (mx, kp, wa1, (iv (ik)), fd, gf, tp, (iv (tn)), (iv (tK tq tn j)), (iv (tS tq tn j)), (iv (tE tq tn j)), (iv (v)), (iv (0)), bt, sz, cl)) := h
        have okf : (∀ Q : Prop, (true = true → Q) → (true = true → Q)) := fun _ q => q
        refine z_bipush X (by decide) dX5_esplanade_25 ?_
        by_cases cpx : tK tq tn j = 21
        · have cp4 := cpx
          refine z_ai h (run_V (rest := []) X h (c_X5_passes_y (i := j) (wd := 21) hT (by omega) (by omega) cvj ⟨by decide, by decide⟩ cp4) mi_X5_passes ml_X5_190 ⟨Nat.le_of_ble_eq_true rfl, Nat.le_of_ble_eq_true rfl⟩ ⟨rfl, rfl⟩ (Seg.rfl' _) 4 0 rfl rfl rfl rfl hl.1 rfl (Nat.le_of_ble_eq_true rfl) ⟨Nat.zero_le _, Nat.zero_le _⟩ dX5_esplanade_27) (fun _ => wM_map _ _ _ _) (fun r v4 H locs hp h => ?_)
          obtain ⟨rfl, cv4⟩ := hp
          have h : St E _ s H locs (wM E a (mx, kp, wa1, (iv (ik)), fd, gf, tp, (iv (tn)), (iv (tK tq tn (tE tq tn j))), (iv (tS tq tn (tE tq tn j))), (iv (tE tq tn (tE tq tn j))), (iv (v4)), (iv (0)), bt, sz, cl)) := h
          have tr4 := tok_rng tq (tn := tn) (i := (tE tq tn j)) (by omega) (by omega)
          have cr4 := cv4.1
          have cq4 := cv4.2.1
          have cn4 := CV_nn cv4
          refine z_if_eq (tgt := 43) X ⟨by decide, by decide⟩ dX5_esplanade_30 (by decide) (fun c_30 => ?_) (fun c_30 => ?_)
          · exact absurd c_30 (by decide)
          · refine lv_aload_n X.1 X.2.1 dX5_esplanade_33 rfl (lv_at hl 0 rfl) ?_
            refine z_av h (run_V (rest := []) X h (c_X5_item (i := (tE tq tn j)) hR1 hI1 hT (by omega) (by omega) cv4) mi_X5_item ml_X5_206 ⟨Nat.le_of_ble_eq_true rfl, Nat.le_of_ble_eq_true rfl⟩ ⟨rfl, rfl⟩ (Seg.rfl' _) 4 0 rfl rfl rfl rfl hl.1 rfl (Nat.le_of_ble_eq_true rfl) ⟨Nat.zero_le _, Nat.zero_le _⟩ dX5_esplanade_34) (fun _ => wM_map _ _ _ _) (fun u5 H locs hp5 h => ?_)
            obtain ⟨T5, eT5⟩ : ∃ T, T = itm tq tn A1 (tE tq tn j) := ⟨_, rfl⟩
            rw [← eT5] at h hp5
            have h : St E _ s H locs (wM E a (u5.1, kp, wa1, (iv (ik)), fd, gf, tp, (iv (tn)), (iv (tK tq tn T5.2.2)), (iv (tS tq tn T5.2.2)), (iv (tE tq tn T5.2.2)), (iv (u5.2)), (iv (btb T5.1)), bt, sz, cl)) := h
            have iq5 := hp5.2.2.2.2.1
            have ir5 := hp5.2.2.2.2.2.1
            have is5 := hp5.2.2.2.2.2.2
            refine z_iinc (k := 1) (lv' := [(1, .int (iv (it + 1))), (0, .ref (a 0))]) X dX5_esplanade_37 hl rfl (by decide) rfl (fun ls hl => ?_)
            refine lv_goto (tgt := 24) X.1 X.2.1 dX5_esplanade_40 (by decide) ?_
            exact ih (f - 1) (A1) ((T5).1) ((T5).2.1) ((T5).2.2) (u5.2) (it + 1) (u5.1) (by have i2 := i2_ rfl; omega) (by omega) (fun q => by have := iq5 q; have := i2_ rfl; omega) (hp5.1) (hp5.2.1) (by rw [hp5.2.2.1]; exact hh1) (hp5.2.2.2.1) (by omega) (hp5.2.2.2.2.2.2) (by rw [eT5]; exact hP9.trans (aft_s (by have i2 := i2_ rfl; omega) (by omega))) (by omega) _ _ h ls (lv_sub hl [1, 0] rfl)
        · have cp6 := cpx
          refine z_pi (run_V (rest := []) X h (c_X5_passes_n (i := j) (wd := 21) hT (by omega) (by omega) cvj ⟨by decide, by decide⟩ cp6) mi_X5_passes ml_X5_190 ⟨Nat.le_of_ble_eq_true rfl, Nat.le_of_ble_eq_true rfl⟩ ⟨rfl, rfl⟩ (Seg.rfl' _) 4 0 rfl rfl rfl rfl hl.1 rfl (Nat.le_of_ble_eq_true rfl) ⟨Nat.zero_le _, Nat.zero_le _⟩ dX5_esplanade_27) ?_
          refine z_ifb_eq (tgt := 43) X dX5_esplanade_30 (by decide) (fun c_30 => ?_) (fun c_30 => ?_)
          · refine lv_aload_n X.1 X.2.1 dX5_esplanade_43 rfl (lv_at hl 0 rfl) ?_
            refine lv_aload_n X.1 X.2.1 dX5_esplanade_44 rfl (lv_at hl 0 rfl) ?_
            refine z_get X h 4 0 12 rfl inX5 rfl (by decide) fl_X5_183 rfl dX5_esplanade_45 ?_
            refine z_if_ne (tgt := 60) X ⟨by decide, by decide⟩ dX5_esplanade_48 (by decide) (fun c_48 => ?_) (fun c_48 => ?_)
            · exact absurd c_48 (by decide)
            · refine lv_aload_n X.1 X.2.1 dX5_esplanade_51 rfl (lv_at hl 0 rfl) ?_
              refine z_get X h 4 0 8 rfl inX5 rfl (by decide) fl_X5_177 rfl dX5_esplanade_52 ?_
              refine z_bipush X (by decide) dX5_esplanade_55 ?_
              refine z_ic_eq (tgt := 64) X ⟨by omega, by omega⟩ ⟨by decide, by decide⟩ dX5_esplanade_57 (by decide) (fun c_57 => ?_) (fun c_57 => ?_)
              · refine z_iconst X dX5_esplanade_64 ?_
                refine z_put X h 4 0 12 rfl inX5 tyX5 tyX5_ok nmX5 rfl (by decide) fl_X5_183 rfl (by decide) (by decide) (Nat.le_of_ble_eq_true rfl) dX5_esplanade_65 (fun H locs h => ?_)
                have h := stM_bad h
                have h : St E _ s H locs (wM E a (mx, kp, wa1, (iv (ik)), fd, gf, tp, (iv (tn)), (iv (tK tq tn j)), (iv (tS tq tn j)), (iv (tE tq tn j)), (iv (v)), (iv (0)), bt, sz, cl)) := h
                refine lv_aload_n X.1 X.2.1 dX5_esplanade_68 rfl (lv_at hl 0 rfl) ?_
                refine z_iconst X dX5_esplanade_69 ?_
                refine z_put X h 4 0 7 rfl inX5 tyX5 tyX5_ok nmX5 rfl (by decide) fl_X5_154 rfl rfl rfl (Nat.le_of_ble_eq_true rfl) dX5_esplanade_70 (fun H locs h => ?_)
                have h := stM_taped h
                have h : St E _ s H locs (wM E a (mx, kp, wa1, (iv (ik)), fd, gf, tp, (iv (0)), (iv (tK tq tn j)), (iv (tS tq tn j)), (iv (tE tq tn j)), (iv (v)), (iv (0)), bt, sz, cl)) := h
                refine lv_aload_n X.1 X.2.1 dX5_esplanade_73 rfl (lv_at hl 0 rfl) ?_
                refine z_get X h 4 0 12 rfl inX5 rfl (by decide) fl_X5_183 rfl dX5_esplanade_74 ?_
                refine z_if_ne (tgt := 82) X ⟨by decide, by decide⟩ dX5_esplanade_77 (by decide) (fun c_77 => ?_) (fun c_77 => ?_)
                · exact absurd c_77 (by decide)
                · refine lv_iload_n X.1 X.2.1 dX5_esplanade_80 rfl (lv_at hl 1 rfl) ?_
                  have e9 : prs tq tn 130 A 0 1 = (true, A1, it) := hP9.trans (aft_ok (by omega))
                  have eq9 : q_esp tq tn A = (it, A1) := esp_y e9
                  exact ret _ _ _ _ _ (mx, wa1, tK tq tn j, tS tq tn j, tE tq tn j, v, 0) h (by rw [eq9]; exact ⟨rfl, hR1, hI1, hh1⟩) dX5_esplanade_81
              · refine z_iconst X dX5_esplanade_60 ?_
                refine lv_goto (tgt := 65) X.1 X.2.1 dX5_esplanade_61 (by decide) ?_
                refine z_put X h 4 0 12 rfl inX5 tyX5 tyX5_ok nmX5 rfl (by decide) fl_X5_183 rfl (by decide) (by decide) (Nat.le_of_ble_eq_true rfl) dX5_esplanade_65 (fun H locs h => ?_)
                have h := stM_bad h
                have h : St E _ s H locs (wM E a (mx, kp, wa1, (iv (ik)), fd, gf, tp, (iv (tn)), (iv (tK tq tn j)), (iv (tS tq tn j)), (iv (tE tq tn j)), (iv (v)), (iv (1)), bt, sz, cl)) := h
                refine lv_aload_n X.1 X.2.1 dX5_esplanade_68 rfl (lv_at hl 0 rfl) ?_
                refine z_iconst X dX5_esplanade_69 ?_
                refine z_put X h 4 0 7 rfl inX5 tyX5 tyX5_ok nmX5 rfl (by decide) fl_X5_154 rfl rfl rfl (Nat.le_of_ble_eq_true rfl) dX5_esplanade_70 (fun H locs h => ?_)
                have h := stM_taped h
                have h : St E _ s H locs (wM E a (mx, kp, wa1, (iv (ik)), fd, gf, tp, (iv (0)), (iv (tK tq tn j)), (iv (tS tq tn j)), (iv (tE tq tn j)), (iv (v)), (iv (1)), bt, sz, cl)) := h
                refine lv_aload_n X.1 X.2.1 dX5_esplanade_73 rfl (lv_at hl 0 rfl) ?_
                refine z_get X h 4 0 12 rfl inX5 rfl (by decide) fl_X5_183 rfl dX5_esplanade_74 ?_
                refine z_if_ne (tgt := 82) X ⟨by decide, by decide⟩ dX5_esplanade_77 (by decide) (fun c_77 => ?_) (fun c_77 => ?_)
                · refine lv_aload_n X.1 X.2.1 dX5_esplanade_82 rfl (lv_at hl 0 rfl) ?_
                  refine z_av h (run_V (rest := []) X h (c_X5_putsBack) mi_X5_putsBack ml_X5_142 ⟨Nat.le_of_ble_eq_true rfl, Nat.le_of_ble_eq_true rfl⟩ ⟨rfl, rfl⟩ (Seg.rfl' _) 4 0 rfl rfl rfl rfl hl.1 rfl (Nat.le_of_ble_eq_true rfl) ⟨Nat.zero_le _, Nat.zero_le _⟩ dX5_esplanade_83) (fun _ => wM_map _ _ _ _) (fun mb7 H locs hb7 h => ?_)
                  have h : St E _ s H locs (wM E a (mb7, kp, wa1, (iv (ik)), fd, gf, tp, (iv (0)), (iv (tK tq tn j)), (iv (tS tq tn j)), (iv (tE tq tn j)), (iv (v)), (iv (1)), bt, sz, cl)) := h
                  have hR7 := RM_eq hT1 hI.n8 hb7
                  refine z_iconst X dX5_esplanade_86 ?_
                  refine lv_aload_n X.1 X.2.1 dX5_esplanade_87 rfl (lv_at hl 0 rfl) ?_
                  refine z_get X h 4 0 9 rfl inX5 rfl (by decide) fl_X5_161 rfl dX5_esplanade_88 ?_
                  refine z_isub X dX5_esplanade_91 ?_
                  have e9 : prs tq tn 130 A 0 1 = (false, B1, tS tq tn j) := hP9.trans (aft_no (by omega) (by omega))
                  have eq9 : q_esp tq tn A = (-1 - tS tq tn j, A) := esp_n e9
                  exact ret _ _ _ _ _ (mb7, wa1, tK tq tn j, tS tq tn j, tE tq tn j, v, 1) h (by rw [eq9]; exact ⟨rfl, hR7, hI, rfl⟩) dX5_esplanade_92
                · exact absurd c_77 (by decide)
          · exact c_30.elim
      | false =>
        have h : St E _ s H locs (wM E a (mx, kp, wa1, (iv (ik)), fd, gf, tp, (iv (tn)), (iv (tK tq tn j)), (iv (tS tq tn j)), (iv (tE tq tn j)), (iv (v)), (iv (1)), bt, sz, cl)) := h
        have okf : (∀ Q : Prop, (false = true → Q) → (false = true → Q)) := fun _ q => q
        refine z_bipush X (by decide) dX5_esplanade_25 ?_
        refine z_pi (run_V (rest := []) X h (c_X5_passes_b (i := j) (wd := 21) hT (by omega) (by omega) cvj ⟨by decide, by decide⟩) mi_X5_passes ml_X5_190 ⟨Nat.le_of_ble_eq_true rfl, Nat.le_of_ble_eq_true rfl⟩ ⟨rfl, rfl⟩ (Seg.rfl' _) 4 0 rfl rfl rfl rfl hl.1 rfl (Nat.le_of_ble_eq_true rfl) ⟨Nat.zero_le _, Nat.zero_le _⟩ dX5_esplanade_27) ?_
        refine z_ifb_eq (tgt := 43) X dX5_esplanade_30 (by decide) (fun c_30 => ?_) (fun c_30 => ?_)
        · refine lv_aload_n X.1 X.2.1 dX5_esplanade_43 rfl (lv_at hl 0 rfl) ?_
          refine lv_aload_n X.1 X.2.1 dX5_esplanade_44 rfl (lv_at hl 0 rfl) ?_
          refine z_get X h 4 0 12 rfl inX5 rfl (by decide) fl_X5_183 rfl dX5_esplanade_45 ?_
          refine z_if_ne (tgt := 60) X ⟨by decide, by decide⟩ dX5_esplanade_48 (by decide) (fun c_48 => ?_) (fun c_48 => ?_)
          · refine z_iconst X dX5_esplanade_60 ?_
            refine lv_goto (tgt := 65) X.1 X.2.1 dX5_esplanade_61 (by decide) ?_
            refine z_put X h 4 0 12 rfl inX5 tyX5 tyX5_ok nmX5 rfl (by decide) fl_X5_183 rfl (by decide) (by decide) (Nat.le_of_ble_eq_true rfl) dX5_esplanade_65 (fun H locs h => ?_)
            have h := stM_bad h
            have h : St E _ s H locs (wM E a (mx, kp, wa1, (iv (ik)), fd, gf, tp, (iv (tn)), (iv (tK tq tn j)), (iv (tS tq tn j)), (iv (tE tq tn j)), (iv (v)), (iv (1)), bt, sz, cl)) := h
            refine lv_aload_n X.1 X.2.1 dX5_esplanade_68 rfl (lv_at hl 0 rfl) ?_
            refine z_iconst X dX5_esplanade_69 ?_
            refine z_put X h 4 0 7 rfl inX5 tyX5 tyX5_ok nmX5 rfl (by decide) fl_X5_154 rfl rfl rfl (Nat.le_of_ble_eq_true rfl) dX5_esplanade_70 (fun H locs h => ?_)
            have h := stM_taped h
            have h : St E _ s H locs (wM E a (mx, kp, wa1, (iv (ik)), fd, gf, tp, (iv (0)), (iv (tK tq tn j)), (iv (tS tq tn j)), (iv (tE tq tn j)), (iv (v)), (iv (1)), bt, sz, cl)) := h
            refine lv_aload_n X.1 X.2.1 dX5_esplanade_73 rfl (lv_at hl 0 rfl) ?_
            refine z_get X h 4 0 12 rfl inX5 rfl (by decide) fl_X5_183 rfl dX5_esplanade_74 ?_
            refine z_if_ne (tgt := 82) X ⟨by decide, by decide⟩ dX5_esplanade_77 (by decide) (fun c_77 => ?_) (fun c_77 => ?_)
            · refine lv_aload_n X.1 X.2.1 dX5_esplanade_82 rfl (lv_at hl 0 rfl) ?_
              refine z_av h (run_V (rest := []) X h (c_X5_putsBack) mi_X5_putsBack ml_X5_142 ⟨Nat.le_of_ble_eq_true rfl, Nat.le_of_ble_eq_true rfl⟩ ⟨rfl, rfl⟩ (Seg.rfl' _) 4 0 rfl rfl rfl rfl hl.1 rfl (Nat.le_of_ble_eq_true rfl) ⟨Nat.zero_le _, Nat.zero_le _⟩ dX5_esplanade_83) (fun _ => wM_map _ _ _ _) (fun mb8 H locs hb8 h => ?_)
              have h : St E _ s H locs (wM E a (mb8, kp, wa1, (iv (ik)), fd, gf, tp, (iv (0)), (iv (tK tq tn j)), (iv (tS tq tn j)), (iv (tE tq tn j)), (iv (v)), (iv (1)), bt, sz, cl)) := h
              have hR8 := RM_eq hT1 hI.n8 hb8
              refine z_iconst X dX5_esplanade_86 ?_
              refine lv_aload_n X.1 X.2.1 dX5_esplanade_87 rfl (lv_at hl 0 rfl) ?_
              refine z_get X h 4 0 9 rfl inX5 rfl (by decide) fl_X5_161 rfl dX5_esplanade_88 ?_
              refine z_isub X dX5_esplanade_91 ?_
              have e9 : prs tq tn 130 A 0 1 = (false, B1, tS tq tn j) := hP9.trans aft_f
              have eq9 : q_esp tq tn A = (-1 - tS tq tn j, A) := esp_n e9
              exact ret _ _ _ _ _ (mb8, wa1, tK tq tn j, tS tq tn j, tE tq tn j, v, 1) h (by rw [eq9]; exact ⟨rfl, hR8, hI, rfl⟩) dX5_esplanade_92
            · exact absurd c_77 (by decide)
          · exact absurd c_48 (by decide)
        · exact c_30.elim
  exact L24 ((130 - (1) : Int).toNat + 1) (129) (A) ((T3).1) ((T3).2.1) ((T3).2.2) (u3.2) (1) (u3.1) (by omega) (by omega) (fun q => by have := iq3 q; omega) (hp3.1) (hp3.2.1) (hp3.2.2.1) (hp3.2.2.2.1) (by omega) (hp3.2.2.2.2.2.2) (by rw [eT3]; exact aft_0 tq tn A) (by omega) _ _ h ls (lv_sub hl [1, 0] rfl)
