variable {p : Program} {l : Launch} {e : Env} {s : State} {m : MethodId} {args : Array Value} {below : List Frame} {meth : Method} {c : Code} {H : Heap} {locs : List Loc} {cells slots : Nat} {Q : State → Prop} {ls : Array Slot} {E : EV} {A0 : Nat → Prop} {b0 L : Nat} {xz : Nat → Int32} {a k b t x am : Nat → Nat} {q : Nat → Nat → Nat} {u : Tc} {v : Mc} {S : Sg} {i : Int}
set_option maxHeartbeats 4000000 in
theorem law_brown (X : Cx p s m meth c args RL cL_law 4 (some .boolean)) (hX : va_X b0 L xz s s.heap) (hbl : b0 < s.heap.size) (hbA : ¬ A0 b0) (hL : L ≤ 3072) (hcs : cells ≤ 600000 ∧ slots ≤ 7302250) (h : SN E A0 s H locs (wT E a k b t x q u ++ wM E am v)) (hC : RepC u S) (hM : RepM v S) (i0 : 0 ≤ i) (i1 : i + 6 ≤ L) (hl : lv_has ls 4 [(3, .int (iv (i))), (2, .ref (am 0)), (1, .ref (a 0)), (0, .ref (b0))])
    (kk : ∀ (H1 : Heap) (locs1 : List Loc) (u1 : Tc) (v1 : Mc) (S1 : Sg), SN E A0 s H1 locs1 (wT E a k b t x q u1 ++ wM E am v1) → RepC u1 S1 → RepM v1 S1 → W p l e room_1 s m args below meth c H1 locs1 cells slots Q (F0 m 1291 ls [])) : W p l e room_1 s m args below meth c H locs cells slots Q (F0 m 568 ls []) := by
  obtain ⟨A, K, ik, ph, tq, tn, bq, sq, cq⟩ := S
  obtain ⟨⟨v0, fd⟩, ⟨hk, nk, k1, k2, k3, k4, k5, k6, k7, k8, k9⟩, ⟨hb, nb, xs, xi, xk, xc, xl, xr, xb, yl, yr⟩, ⟨ht, nt, t1, t2, t3, t4, t5, t6, t7, t8, t9⟩, ⟨z0, e1, e2, e3, e4, tp⟩, ⟨w0, y0, c0⟩, ⟨w1, y1, c1⟩, ⟨w2, y2, c2⟩, ⟨w3, y3, c3⟩⟩ := u
  obtain ⟨mm, kp, wa, m4, fm, gf, tm, m8, m9, m10, m11, m12, m13, bt, sz, cl⟩ := v
  have z_ : v0 = iv (ik) := hC.2.1.1
  subst z_
  have z_ : hb = iv (hr A) := hC.1.1
  subst z_
  have z_ : nb = iv (pe A) := hC.1.2.1
  subst z_
  have z_ : z0 = iv (tn) := hC.2.2.2.1.1
  subst z_
  have z_ : w0 = iv (bq 0) := hC.2.2.2.2.2.1.1
  subst z_
  have z_ : y0 = iv (sq 0) := hC.2.2.2.2.2.1.2.1
  subst z_
  have z_ : w1 = iv (bq 1) := hC.2.2.2.2.2.2.1.1
  subst z_
  have z_ : y1 = iv (sq 1) := hC.2.2.2.2.2.2.1.2.1
  subst z_
  have z_ : w2 = iv (bq 2) := hC.2.2.2.2.2.2.2.1.1
  subst z_
  have z_ : y2 = iv (sq 2) := hC.2.2.2.2.2.2.2.1.2.1
  subst z_
  have z_ : w3 = iv (bq 3) := hC.2.2.2.2.2.2.2.2.1
  subst z_
  have z_ : y3 = iv (sq 3) := hC.2.2.2.2.2.2.2.2.2.1
  subst z_
  have z_ : m4 = iv (ik) := hM.2.1.1
  subst z_
  have z_ : m8 = iv (tn) := hM.2.2.2.1.1
  subst z_
  obtain ⟨tk, -, rfl⟩ := iv_ex m9
  obtain ⟨bg, -, rfl⟩ := iv_ex m10
  obtain ⟨pt, -, rfl⟩ := iv_ex m11
  obtain ⟨vl, -, rfl⟩ := iv_ex m12
  obtain ⟨bd, -, rfl⟩ := iv_ex m13
  have hC : RepC (((iv (ik)), fd), ((hk), (nk), (k1, k2, k3, k4, k5, k6, k7, k8, k9)), ((iv (hr A)), (iv (pe A)), (xs, xi, xk, xc, xl, xr, xb, yl, yr)), ((ht), (nt), (t1, t2, t3, t4, t5, t6, t7, t8, t9)), ((iv (tn)), (e1), (e2), (e3), (e4), tp), ((iv (bq 0)), (iv (sq 0)), c0), ((iv (bq 1)), (iv (sq 1)), c1), ((iv (bq 2)), (iv (sq 2)), c2), ((iv (bq 3)), (iv (sq 3)), c3)) (A, K, ik, ph, tq, tn, bq, sq, cq) := hC
  have hM : RepM (mm, kp, wa, (iv (ik)), fm, gf, tm, (iv (tn)), (iv (tk)), (iv (bg)), (iv (pt)), (iv (vl)), (iv (bd)), bt, sz, cl) (A, K, ik, ph, tq, tn, bq, sq, cq) := hM
  have h : SN E A0 s H locs ([] ++ ((wO E a k b t x q ((iv (ik))) fd ++ (wS E k ((hk)) ((nk)) (k1, k2, k3, k4, k5, k6, k7, k8, k9) ++ (wS E b ((iv (hr A))) ((iv (pe A))) (xs, xi, xk, xc, xl, xr, xb, yl, yr) ++ (wS E t ((ht)) ((nt)) (t1, t2, t3, t4, t5, t6, t7, t8, t9) ++ (wX E x ((iv (tn))) ((e1)) ((e2)) ((e3)) ((e4)) tp ++ (wH E (q 0) ((iv (bq 0))) ((iv (sq 0))) c0 ++ (wH E (q 1) ((iv (bq 1))) ((iv (sq 1))) c1 ++ (wH E (q 2) ((iv (bq 2))) ((iv (sq 2))) c2 ++ (wH E (q 3) ((iv (bq 3))) ((iv (sq 3))) c3 ++ []))))))))) ++ wM E am (mm, kp, wa, (iv (ik)), fm, gf, tm, (iv (tn)), (iv (tk)), (iv (bg)), (iv (pt)), (iv (vl)), (iv (bd)), bt, sz, cl))) := h
  refine lv_aload_n X.1 X.2.1 dL_law_568 rfl (lv_at hl 2 rfl) ?_
  refine lv_aload_n X.1 X.2.1 dL_law_569 rfl (lv_at hl 3 rfl) ?_
  refine lv_iload_n X.1 X.2.1 dL_law_570 rfl (lv_at hl 0 rfl) ?_
  refine z_iconst X dL_law_571 ?_
  refine z_iadd X dL_law_572 ?_
  refine l_sld X hX hbl hbA hL h (by omega) (by omega) dL_law_573 ?_
  refine lv_aload_n X.1 X.2.1 dL_law_574 rfl (lv_at hl 3 rfl) ?_
  refine lv_iload_n X.1 X.2.1 dL_law_575 rfl (lv_at hl 0 rfl) ?_
  refine z_iconst X dL_law_576 ?_
  refine z_iadd X dL_law_577 ?_
  refine l_sld X hX hbl hbA hL h (by omega) (by omega) dL_law_578 ?_
  refine n_wi h (run_Vn (rest := []) X h (c_X4_brown (px := sc xz (i + 1)) (pv := sc xz (i + 2)) hC (r32_sc _ _) (r32_sc _ _)) mi_X4_brown ml_L_64 ⟨(Nat.le_of_ble_eq_true rfl), (Nat.le_of_ble_eq_true rfl)⟩ ⟨rfl, rfl⟩ (Seg.mk' _ _) 3 0 rfl rfl rfl rfl hl.1 rfl (Nat.le_of_ble_eq_true rfl) hcs dL_law_579) (fun _ => wT_map _ _ _ _ _ _ _ _ (((iv (ik)), fd), ((hk), (nk), (k1, k2, k3, k4, k5, k6, k7, k8, k9)), ((iv (hr A)), (iv (pe A)), (xs, xi, xk, xc, xl, xr, xb, yl, yr)), ((ht), (nt), (t1, t2, t3, t4, t5, t6, t7, t8, t9)), ((iv (tn)), (e1), (e2), (e3), (e4), tp), ((iv (bq 0)), (iv (sq 0)), c0), ((iv (bq 1)), (iv (sq 1)), c1), ((iv (bq 2)), (iv (sq 2)), c2), ((iv (bq 3)), (iv (sq 3)), c3))) (fun r1 u1 H locs hp1 h => ?_)
  obtain ⟨rfl, hC1⟩ := hp1
  have h : SN E A0 s H locs (wT E a k b t x q u1 ++ wM E am (mm, kp, wa, (iv (ik)), fm, gf, tm, (iv (tn)), (iv (tk)), (iv (bg)), (iv (pt)), (iv (vl)), (iv (bd)), bt, sz, cl)) := h
  have h := sn_nil h
  refine lv_aload_n X.1 X.2.1 dL_law_582 rfl (lv_at hl 1 rfl) ?_
  refine lv_aload_n X.1 X.2.1 dL_law_583 rfl (lv_at hl 3 rfl) ?_
  refine lv_iload_n X.1 X.2.1 dL_law_584 rfl (lv_at hl 0 rfl) ?_
  refine z_iconst X dL_law_585 ?_
  refine z_iadd X dL_law_586 ?_
  refine l_sld X hX hbl hbA hL h (by omega) (by omega) dL_law_587 ?_
  refine lv_aload_n X.1 X.2.1 dL_law_588 rfl (lv_at hl 3 rfl) ?_
  refine lv_iload_n X.1 X.2.1 dL_law_589 rfl (lv_at hl 0 rfl) ?_
  refine z_iconst X dL_law_590 ?_
  refine z_iadd X dL_law_591 ?_
  refine l_sld X hX hbl hbA hL h (by omega) (by omega) dL_law_592 ?_
  refine n_wi h (run_Vn (rest := [.int (iv _)]) X h (c_X5_brown (x := sc xz (i + 1)) (v := sc xz (i + 2)) hM (r32_sc _ _) (r32_sc _ _)) mi_X5_brown ml_L_67 ⟨(Nat.le_of_ble_eq_true rfl), (Nat.le_of_ble_eq_true rfl)⟩ ⟨rfl, rfl⟩ (Seg.mk' _ _) 4 43 rfl rfl rfl rfl hl.1 rfl (Nat.le_of_ble_eq_true rfl) hcs dL_law_593) (fun _ => wM_map _ _ _ _) (fun r2 u2 H locs hp2 h => ?_)
  obtain ⟨rfl, hM1⟩ := hp2
  have h := sn_lin h
  exact lv_icmp_eq (tgt := 1291) X.1 X.2.1 dL_law_596 (by decide) (fun _ => kk _ _ _ _ _ h hC1 hM1) (fun z => absurd rfl z)

set_option maxHeartbeats 4000000 in
theorem law_burns (X : Cx p s m meth c args RL cL_law 4 (some .boolean)) (hX : va_X b0 L xz s s.heap) (hbl : b0 < s.heap.size) (hbA : ¬ A0 b0) (hL : L ≤ 3072) (hcs : cells ≤ 600000 ∧ slots ≤ 7302250) (h : SN E A0 s H locs (wT E a k b t x q u ++ wM E am v)) (hC : RepC u S) (hM : RepM v S) (i0 : 0 ≤ i) (i1 : i + 6 ≤ L) (hl : lv_has ls 4 [(3, .int (iv (i))), (2, .ref (am 0)), (1, .ref (a 0)), (0, .ref (b0))])
    (kk : ∀ (H1 : Heap) (locs1 : List Loc) (u1 : Tc) (v1 : Mc) (S1 : Sg), SN E A0 s H1 locs1 (wT E a k b t x q u1 ++ wM E am v1) → RepC u1 S1 → RepM v1 S1 → W p l e room_1 s m args below meth c H1 locs1 cells slots Q (F0 m 1291 ls [])) : W p l e room_1 s m args below meth c H locs cells slots Q (F0 m 601 ls []) := by
  obtain ⟨A, K, ik, ph, tq, tn, bq, sq, cq⟩ := S
  obtain ⟨⟨v0, fd⟩, ⟨hk, nk, k1, k2, k3, k4, k5, k6, k7, k8, k9⟩, ⟨hb, nb, xs, xi, xk, xc, xl, xr, xb, yl, yr⟩, ⟨ht, nt, t1, t2, t3, t4, t5, t6, t7, t8, t9⟩, ⟨z0, e1, e2, e3, e4, tp⟩, ⟨w0, y0, c0⟩, ⟨w1, y1, c1⟩, ⟨w2, y2, c2⟩, ⟨w3, y3, c3⟩⟩ := u
  obtain ⟨mm, kp, wa, m4, fm, gf, tm, m8, m9, m10, m11, m12, m13, bt, sz, cl⟩ := v
  have z_ : v0 = iv (ik) := hC.2.1.1
  subst z_
  have z_ : hb = iv (hr A) := hC.1.1
  subst z_
  have z_ : nb = iv (pe A) := hC.1.2.1
  subst z_
  have z_ : z0 = iv (tn) := hC.2.2.2.1.1
  subst z_
  have z_ : w0 = iv (bq 0) := hC.2.2.2.2.2.1.1
  subst z_
  have z_ : y0 = iv (sq 0) := hC.2.2.2.2.2.1.2.1
  subst z_
  have z_ : w1 = iv (bq 1) := hC.2.2.2.2.2.2.1.1
  subst z_
  have z_ : y1 = iv (sq 1) := hC.2.2.2.2.2.2.1.2.1
  subst z_
  have z_ : w2 = iv (bq 2) := hC.2.2.2.2.2.2.2.1.1
  subst z_
  have z_ : y2 = iv (sq 2) := hC.2.2.2.2.2.2.2.1.2.1
  subst z_
  have z_ : w3 = iv (bq 3) := hC.2.2.2.2.2.2.2.2.1
  subst z_
  have z_ : y3 = iv (sq 3) := hC.2.2.2.2.2.2.2.2.2.1
  subst z_
  have z_ : m4 = iv (ik) := hM.2.1.1
  subst z_
  have z_ : m8 = iv (tn) := hM.2.2.2.1.1
  subst z_
  obtain ⟨tk, -, rfl⟩ := iv_ex m9
  obtain ⟨bg, -, rfl⟩ := iv_ex m10
  obtain ⟨pt, -, rfl⟩ := iv_ex m11
  obtain ⟨vl, -, rfl⟩ := iv_ex m12
  obtain ⟨bd, -, rfl⟩ := iv_ex m13
  have hC : RepC (((iv (ik)), fd), ((hk), (nk), (k1, k2, k3, k4, k5, k6, k7, k8, k9)), ((iv (hr A)), (iv (pe A)), (xs, xi, xk, xc, xl, xr, xb, yl, yr)), ((ht), (nt), (t1, t2, t3, t4, t5, t6, t7, t8, t9)), ((iv (tn)), (e1), (e2), (e3), (e4), tp), ((iv (bq 0)), (iv (sq 0)), c0), ((iv (bq 1)), (iv (sq 1)), c1), ((iv (bq 2)), (iv (sq 2)), c2), ((iv (bq 3)), (iv (sq 3)), c3)) (A, K, ik, ph, tq, tn, bq, sq, cq) := hC
  have hM : RepM (mm, kp, wa, (iv (ik)), fm, gf, tm, (iv (tn)), (iv (tk)), (iv (bg)), (iv (pt)), (iv (vl)), (iv (bd)), bt, sz, cl) (A, K, ik, ph, tq, tn, bq, sq, cq) := hM
  have h : SN E A0 s H locs ([] ++ ((wO E a k b t x q ((iv (ik))) fd ++ (wS E k ((hk)) ((nk)) (k1, k2, k3, k4, k5, k6, k7, k8, k9) ++ (wS E b ((iv (hr A))) ((iv (pe A))) (xs, xi, xk, xc, xl, xr, xb, yl, yr) ++ (wS E t ((ht)) ((nt)) (t1, t2, t3, t4, t5, t6, t7, t8, t9) ++ (wX E x ((iv (tn))) ((e1)) ((e2)) ((e3)) ((e4)) tp ++ (wH E (q 0) ((iv (bq 0))) ((iv (sq 0))) c0 ++ (wH E (q 1) ((iv (bq 1))) ((iv (sq 1))) c1 ++ (wH E (q 2) ((iv (bq 2))) ((iv (sq 2))) c2 ++ (wH E (q 3) ((iv (bq 3))) ((iv (sq 3))) c3 ++ []))))))))) ++ wM E am (mm, kp, wa, (iv (ik)), fm, gf, tm, (iv (tn)), (iv (tk)), (iv (bg)), (iv (pt)), (iv (vl)), (iv (bd)), bt, sz, cl))) := h
  refine lv_aload_n X.1 X.2.1 dL_law_601 rfl (lv_at hl 2 rfl) ?_
  refine lv_aload_n X.1 X.2.1 dL_law_602 rfl (lv_at hl 3 rfl) ?_
  refine lv_iload_n X.1 X.2.1 dL_law_603 rfl (lv_at hl 0 rfl) ?_
  refine z_iconst X dL_law_604 ?_
  refine z_iadd X dL_law_605 ?_
  refine l_sld X hX hbl hbA hL h (by omega) (by omega) dL_law_606 ?_
  refine n_wi h (run_Vn (rest := []) X h (c_X4_burns (px := sc xz (i + 1)) hC (r32_sc _ _)) mi_X4_burns ml_L_68 ⟨(Nat.le_of_ble_eq_true rfl), (Nat.le_of_ble_eq_true rfl)⟩ ⟨rfl, rfl⟩ (Seg.mk' _ _) 3 0 rfl rfl rfl rfl hl.1 rfl (Nat.le_of_ble_eq_true rfl) hcs dL_law_607) (fun _ => wT_map _ _ _ _ _ _ _ _ (((iv (ik)), fd), ((hk), (nk), (k1, k2, k3, k4, k5, k6, k7, k8, k9)), ((iv (hr A)), (iv (pe A)), (xs, xi, xk, xc, xl, xr, xb, yl, yr)), ((ht), (nt), (t1, t2, t3, t4, t5, t6, t7, t8, t9)), ((iv (tn)), (e1), (e2), (e3), (e4), tp), ((iv (bq 0)), (iv (sq 0)), c0), ((iv (bq 1)), (iv (sq 1)), c1), ((iv (bq 2)), (iv (sq 2)), c2), ((iv (bq 3)), (iv (sq 3)), c3))) (fun r1 u1 H locs hp1 h => ?_)
  obtain ⟨rfl, hC1⟩ := hp1
  have h : SN E A0 s H locs (wT E a k b t x q u1 ++ wM E am (mm, kp, wa, (iv (ik)), fm, gf, tm, (iv (tn)), (iv (tk)), (iv (bg)), (iv (pt)), (iv (vl)), (iv (bd)), bt, sz, cl)) := h
  have h := sn_nil h
  refine lv_aload_n X.1 X.2.1 dL_law_610 rfl (lv_at hl 1 rfl) ?_
  refine lv_aload_n X.1 X.2.1 dL_law_611 rfl (lv_at hl 3 rfl) ?_
  refine lv_iload_n X.1 X.2.1 dL_law_612 rfl (lv_at hl 0 rfl) ?_
  refine z_iconst X dL_law_613 ?_
  refine z_iadd X dL_law_614 ?_
  refine l_sld X hX hbl hbA hL h (by omega) (by omega) dL_law_615 ?_
  refine n_wi h (run_Vn (rest := [.int (iv _)]) X h (c_X5_burns (x := sc xz (i + 1)) hM (r32_sc _ _)) mi_X5_burns ml_L_71 ⟨(Nat.le_of_ble_eq_true rfl), (Nat.le_of_ble_eq_true rfl)⟩ ⟨rfl, rfl⟩ (Seg.mk' _ _) 4 43 rfl rfl rfl rfl hl.1 rfl (Nat.le_of_ble_eq_true rfl) hcs dL_law_616) (fun _ => wM_map _ _ _ _) (fun r2 u2 H locs hp2 h => ?_)
  obtain ⟨rfl, hM1⟩ := hp2
  have h := sn_lin h
  exact lv_icmp_eq (tgt := 1291) X.1 X.2.1 dL_law_619 (by decide) (fun _ => kk _ _ _ _ _ h hC1 hM1) (fun z => absurd rfl z)

set_option maxHeartbeats 4000000 in
theorem law_even (X : Cx p s m meth c args RL cL_law 4 (some .boolean)) (hX : va_X b0 L xz s s.heap) (hbl : b0 < s.heap.size) (hbA : ¬ A0 b0) (hL : L ≤ 3072) (hcs : cells ≤ 600000 ∧ slots ≤ 7302250) (h : SN E A0 s H locs (wT E a k b t x q u ++ wM E am v)) (hC : RepC u S) (hM : RepM v S) (i0 : 0 ≤ i) (i1 : i + 6 ≤ L) (hl : lv_has ls 4 [(3, .int (iv (i))), (2, .ref (am 0)), (1, .ref (a 0)), (0, .ref (b0))])
    (kk : ∀ (H1 : Heap) (locs1 : List Loc) (u1 : Tc) (v1 : Mc) (S1 : Sg), SN E A0 s H1 locs1 (wT E a k b t x q u1 ++ wM E am v1) → RepC u1 S1 → RepM v1 S1 → W p l e room_1 s m args below meth c H1 locs1 cells slots Q (F0 m 1291 ls [])) : W p l e room_1 s m args below meth c H locs cells slots Q (F0 m 624 ls []) := by
  obtain ⟨A, K, ik, ph, tq, tn, bq, sq, cq⟩ := S
  obtain ⟨⟨v0, fd⟩, ⟨hk, nk, k1, k2, k3, k4, k5, k6, k7, k8, k9⟩, ⟨hb, nb, xs, xi, xk, xc, xl, xr, xb, yl, yr⟩, ⟨ht, nt, t1, t2, t3, t4, t5, t6, t7, t8, t9⟩, ⟨z0, e1, e2, e3, e4, tp⟩, ⟨w0, y0, c0⟩, ⟨w1, y1, c1⟩, ⟨w2, y2, c2⟩, ⟨w3, y3, c3⟩⟩ := u
  obtain ⟨mm, kp, wa, m4, fm, gf, tm, m8, m9, m10, m11, m12, m13, bt, sz, cl⟩ := v
  have z_ : v0 = iv (ik) := hC.2.1.1
  subst z_
  have z_ : hb = iv (hr A) := hC.1.1
  subst z_
  have z_ : nb = iv (pe A) := hC.1.2.1
  subst z_
  have z_ : z0 = iv (tn) := hC.2.2.2.1.1
  subst z_
  have z_ : w0 = iv (bq 0) := hC.2.2.2.2.2.1.1
  subst z_
  have z_ : y0 = iv (sq 0) := hC.2.2.2.2.2.1.2.1
  subst z_
  have z_ : w1 = iv (bq 1) := hC.2.2.2.2.2.2.1.1
  subst z_
  have z_ : y1 = iv (sq 1) := hC.2.2.2.2.2.2.1.2.1
  subst z_
  have z_ : w2 = iv (bq 2) := hC.2.2.2.2.2.2.2.1.1
  subst z_
  have z_ : y2 = iv (sq 2) := hC.2.2.2.2.2.2.2.1.2.1
  subst z_
  have z_ : w3 = iv (bq 3) := hC.2.2.2.2.2.2.2.2.1
  subst z_
  have z_ : y3 = iv (sq 3) := hC.2.2.2.2.2.2.2.2.2.1
  subst z_
  have z_ : m4 = iv (ik) := hM.2.1.1
  subst z_
  have z_ : m8 = iv (tn) := hM.2.2.2.1.1
  subst z_
  obtain ⟨tk, -, rfl⟩ := iv_ex m9
  obtain ⟨bg, -, rfl⟩ := iv_ex m10
  obtain ⟨pt, -, rfl⟩ := iv_ex m11
  obtain ⟨vl, -, rfl⟩ := iv_ex m12
  obtain ⟨bd, -, rfl⟩ := iv_ex m13
  have hC : RepC (((iv (ik)), fd), ((hk), (nk), (k1, k2, k3, k4, k5, k6, k7, k8, k9)), ((iv (hr A)), (iv (pe A)), (xs, xi, xk, xc, xl, xr, xb, yl, yr)), ((ht), (nt), (t1, t2, t3, t4, t5, t6, t7, t8, t9)), ((iv (tn)), (e1), (e2), (e3), (e4), tp), ((iv (bq 0)), (iv (sq 0)), c0), ((iv (bq 1)), (iv (sq 1)), c1), ((iv (bq 2)), (iv (sq 2)), c2), ((iv (bq 3)), (iv (sq 3)), c3)) (A, K, ik, ph, tq, tn, bq, sq, cq) := hC
  have hM : RepM (mm, kp, wa, (iv (ik)), fm, gf, tm, (iv (tn)), (iv (tk)), (iv (bg)), (iv (pt)), (iv (vl)), (iv (bd)), bt, sz, cl) (A, K, ik, ph, tq, tn, bq, sq, cq) := hM
  have h : SN E A0 s H locs ([] ++ ((wO E a k b t x q ((iv (ik))) fd ++ (wS E k ((hk)) ((nk)) (k1, k2, k3, k4, k5, k6, k7, k8, k9) ++ (wS E b ((iv (hr A))) ((iv (pe A))) (xs, xi, xk, xc, xl, xr, xb, yl, yr) ++ (wS E t ((ht)) ((nt)) (t1, t2, t3, t4, t5, t6, t7, t8, t9) ++ (wX E x ((iv (tn))) ((e1)) ((e2)) ((e3)) ((e4)) tp ++ (wH E (q 0) ((iv (bq 0))) ((iv (sq 0))) c0 ++ (wH E (q 1) ((iv (bq 1))) ((iv (sq 1))) c1 ++ (wH E (q 2) ((iv (bq 2))) ((iv (sq 2))) c2 ++ (wH E (q 3) ((iv (bq 3))) ((iv (sq 3))) c3 ++ []))))))))) ++ wM E am (mm, kp, wa, (iv (ik)), fm, gf, tm, (iv (tn)), (iv (tk)), (iv (bg)), (iv (pt)), (iv (vl)), (iv (bd)), bt, sz, cl))) := h
  refine lv_aload_n X.1 X.2.1 dL_law_624 rfl (lv_at hl 2 rfl) ?_
  refine lv_aload_n X.1 X.2.1 dL_law_625 rfl (lv_at hl 3 rfl) ?_
  refine lv_iload_n X.1 X.2.1 dL_law_626 rfl (lv_at hl 0 rfl) ?_
  refine z_iconst X dL_law_627 ?_
  refine z_iadd X dL_law_628 ?_
  refine l_sld X hX hbl hbA hL h (by omega) (by omega) dL_law_629 ?_
  refine n_wi h (run_Vn (rest := []) X h (c_X4_even (px := sc xz (i + 1)) hC (r32_sc _ _)) mi_X4_even ml_L_72 ⟨(Nat.le_of_ble_eq_true rfl), (Nat.le_of_ble_eq_true rfl)⟩ ⟨rfl, rfl⟩ (Seg.mk' _ _) 3 0 rfl rfl rfl rfl hl.1 rfl (Nat.le_of_ble_eq_true rfl) hcs dL_law_630) (fun _ => wT_map _ _ _ _ _ _ _ _ (((iv (ik)), fd), ((hk), (nk), (k1, k2, k3, k4, k5, k6, k7, k8, k9)), ((iv (hr A)), (iv (pe A)), (xs, xi, xk, xc, xl, xr, xb, yl, yr)), ((ht), (nt), (t1, t2, t3, t4, t5, t6, t7, t8, t9)), ((iv (tn)), (e1), (e2), (e3), (e4), tp), ((iv (bq 0)), (iv (sq 0)), c0), ((iv (bq 1)), (iv (sq 1)), c1), ((iv (bq 2)), (iv (sq 2)), c2), ((iv (bq 3)), (iv (sq 3)), c3))) (fun r1 u1 H locs hp1 h => ?_)
  obtain ⟨rfl, hC1⟩ := hp1
  have h : SN E A0 s H locs (wT E a k b t x q u1 ++ wM E am (mm, kp, wa, (iv (ik)), fm, gf, tm, (iv (tn)), (iv (tk)), (iv (bg)), (iv (pt)), (iv (vl)), (iv (bd)), bt, sz, cl)) := h
  have h := sn_nil h
  refine lv_aload_n X.1 X.2.1 dL_law_633 rfl (lv_at hl 1 rfl) ?_
  refine lv_aload_n X.1 X.2.1 dL_law_634 rfl (lv_at hl 3 rfl) ?_
  refine lv_iload_n X.1 X.2.1 dL_law_635 rfl (lv_at hl 0 rfl) ?_
  refine z_iconst X dL_law_636 ?_
  refine z_iadd X dL_law_637 ?_
  refine l_sld X hX hbl hbA hL h (by omega) (by omega) dL_law_638 ?_
  refine n_wi h (run_Vn (rest := [.int (iv _)]) X h (c_X5_even (x := sc xz (i + 1)) hM (r32_sc _ _)) mi_X5_even ml_L_75 ⟨(Nat.le_of_ble_eq_true rfl), (Nat.le_of_ble_eq_true rfl)⟩ ⟨rfl, rfl⟩ (Seg.mk' _ _) 4 43 rfl rfl rfl rfl hl.1 rfl (Nat.le_of_ble_eq_true rfl) hcs dL_law_639) (fun _ => wM_map _ _ _ _) (fun r2 u2 H locs hp2 h => ?_)
  obtain ⟨rfl, hM1⟩ := hp2
  have h := sn_lin h
  exact lv_icmp_eq (tgt := 1291) X.1 X.2.1 dL_law_642 (by decide) (fun _ => kk _ _ _ _ _ h hC1 hM1) (fun z => absurd rfl z)

set_option maxHeartbeats 4000000 in
theorem law_where (X : Cx p s m meth c args RL cL_law 4 (some .boolean)) (hX : va_X b0 L xz s s.heap) (hbl : b0 < s.heap.size) (hbA : ¬ A0 b0) (hL : L ≤ 3072) (hcs : cells ≤ 600000 ∧ slots ≤ 7302250) (h : SN E A0 s H locs (wT E a k b t x q u ++ wM E am v)) (hC : RepC u S) (hM : RepM v S) (i0 : 0 ≤ i) (i1 : i + 6 ≤ L) (hl : lv_has ls 4 [(3, .int (iv (i))), (2, .ref (am 0)), (1, .ref (a 0)), (0, .ref (b0))])
    (kk : ∀ (H1 : Heap) (locs1 : List Loc) (u1 : Tc) (v1 : Mc) (S1 : Sg), SN E A0 s H1 locs1 (wT E a k b t x q u1 ++ wM E am v1) → RepC u1 S1 → RepM v1 S1 → W p l e room_1 s m args below meth c H1 locs1 cells slots Q (F0 m 1291 ls [])) : W p l e room_1 s m args below meth c H locs cells slots Q (F0 m 647 ls []) := by
  obtain ⟨A, K, ik, ph, tq, tn, bq, sq, cq⟩ := S
  obtain ⟨⟨v0, fd⟩, ⟨hk, nk, k1, k2, k3, k4, k5, k6, k7, k8, k9⟩, ⟨hb, nb, xs, xi, xk, xc, xl, xr, xb, yl, yr⟩, ⟨ht, nt, t1, t2, t3, t4, t5, t6, t7, t8, t9⟩, ⟨z0, e1, e2, e3, e4, tp⟩, ⟨w0, y0, c0⟩, ⟨w1, y1, c1⟩, ⟨w2, y2, c2⟩, ⟨w3, y3, c3⟩⟩ := u
  obtain ⟨mm, kp, wa, m4, fm, gf, tm, m8, m9, m10, m11, m12, m13, bt, sz, cl⟩ := v
  have z_ : v0 = iv (ik) := hC.2.1.1
  subst z_
  have z_ : hb = iv (hr A) := hC.1.1
  subst z_
  have z_ : nb = iv (pe A) := hC.1.2.1
  subst z_
  have z_ : z0 = iv (tn) := hC.2.2.2.1.1
  subst z_
  have z_ : w0 = iv (bq 0) := hC.2.2.2.2.2.1.1
  subst z_
  have z_ : y0 = iv (sq 0) := hC.2.2.2.2.2.1.2.1
  subst z_
  have z_ : w1 = iv (bq 1) := hC.2.2.2.2.2.2.1.1
  subst z_
  have z_ : y1 = iv (sq 1) := hC.2.2.2.2.2.2.1.2.1
  subst z_
  have z_ : w2 = iv (bq 2) := hC.2.2.2.2.2.2.2.1.1
  subst z_
  have z_ : y2 = iv (sq 2) := hC.2.2.2.2.2.2.2.1.2.1
  subst z_
  have z_ : w3 = iv (bq 3) := hC.2.2.2.2.2.2.2.2.1
  subst z_
  have z_ : y3 = iv (sq 3) := hC.2.2.2.2.2.2.2.2.2.1
  subst z_
  have z_ : m4 = iv (ik) := hM.2.1.1
  subst z_
  have z_ : m8 = iv (tn) := hM.2.2.2.1.1
  subst z_
  obtain ⟨tk, -, rfl⟩ := iv_ex m9
  obtain ⟨bg, -, rfl⟩ := iv_ex m10
  obtain ⟨pt, -, rfl⟩ := iv_ex m11
  obtain ⟨vl, -, rfl⟩ := iv_ex m12
  obtain ⟨bd, -, rfl⟩ := iv_ex m13
  have hC : RepC (((iv (ik)), fd), ((hk), (nk), (k1, k2, k3, k4, k5, k6, k7, k8, k9)), ((iv (hr A)), (iv (pe A)), (xs, xi, xk, xc, xl, xr, xb, yl, yr)), ((ht), (nt), (t1, t2, t3, t4, t5, t6, t7, t8, t9)), ((iv (tn)), (e1), (e2), (e3), (e4), tp), ((iv (bq 0)), (iv (sq 0)), c0), ((iv (bq 1)), (iv (sq 1)), c1), ((iv (bq 2)), (iv (sq 2)), c2), ((iv (bq 3)), (iv (sq 3)), c3)) (A, K, ik, ph, tq, tn, bq, sq, cq) := hC
  have hM : RepM (mm, kp, wa, (iv (ik)), fm, gf, tm, (iv (tn)), (iv (tk)), (iv (bg)), (iv (pt)), (iv (vl)), (iv (bd)), bt, sz, cl) (A, K, ik, ph, tq, tn, bq, sq, cq) := hM
  have h : SN E A0 s H locs ([] ++ ((wO E a k b t x q ((iv (ik))) fd ++ (wS E k ((hk)) ((nk)) (k1, k2, k3, k4, k5, k6, k7, k8, k9) ++ (wS E b ((iv (hr A))) ((iv (pe A))) (xs, xi, xk, xc, xl, xr, xb, yl, yr) ++ (wS E t ((ht)) ((nt)) (t1, t2, t3, t4, t5, t6, t7, t8, t9) ++ (wX E x ((iv (tn))) ((e1)) ((e2)) ((e3)) ((e4)) tp ++ (wH E (q 0) ((iv (bq 0))) ((iv (sq 0))) c0 ++ (wH E (q 1) ((iv (bq 1))) ((iv (sq 1))) c1 ++ (wH E (q 2) ((iv (bq 2))) ((iv (sq 2))) c2 ++ (wH E (q 3) ((iv (bq 3))) ((iv (sq 3))) c3 ++ []))))))))) ++ wM E am (mm, kp, wa, (iv (ik)), fm, gf, tm, (iv (tn)), (iv (tk)), (iv (bg)), (iv (pt)), (iv (vl)), (iv (bd)), bt, sz, cl))) := h
  refine lv_aload_n X.1 X.2.1 dL_law_647 rfl (lv_at hl 2 rfl) ?_
  refine lv_aload_n X.1 X.2.1 dL_law_648 rfl (lv_at hl 3 rfl) ?_
  refine lv_iload_n X.1 X.2.1 dL_law_649 rfl (lv_at hl 0 rfl) ?_
  refine z_iconst X dL_law_650 ?_
  refine z_iadd X dL_law_651 ?_
  refine l_sld X hX hbl hbA hL h (by omega) (by omega) dL_law_652 ?_
  refine lv_aload_n X.1 X.2.1 dL_law_653 rfl (lv_at hl 3 rfl) ?_
  refine lv_iload_n X.1 X.2.1 dL_law_654 rfl (lv_at hl 0 rfl) ?_
  refine z_iconst X dL_law_655 ?_
  refine z_iadd X dL_law_656 ?_
  refine l_sld X hX hbl hbA hL h (by omega) (by omega) dL_law_657 ?_
  refine n_wi h (run_Vn (rest := []) X h (c_X4_where (px := sc xz (i + 1)) (pn := sc xz (i + 2)) hC (r32_sc _ _) (r32_sc _ _)) mi_X4_where ml_L_76 ⟨(Nat.le_of_ble_eq_true rfl), (Nat.le_of_ble_eq_true rfl)⟩ ⟨rfl, rfl⟩ (Seg.mk' _ _) 3 0 rfl rfl rfl rfl hl.1 rfl (Nat.le_of_ble_eq_true rfl) hcs dL_law_658) (fun _ => wT_map _ _ _ _ _ _ _ _ (((iv (ik)), fd), ((hk), (nk), (k1, k2, k3, k4, k5, k6, k7, k8, k9)), ((iv (hr A)), (iv (pe A)), (xs, xi, xk, xc, xl, xr, xb, yl, yr)), ((ht), (nt), (t1, t2, t3, t4, t5, t6, t7, t8, t9)), ((iv (tn)), (e1), (e2), (e3), (e4), tp), ((iv (bq 0)), (iv (sq 0)), c0), ((iv (bq 1)), (iv (sq 1)), c1), ((iv (bq 2)), (iv (sq 2)), c2), ((iv (bq 3)), (iv (sq 3)), c3))) (fun r1 u1 H locs hp1 h => ?_)
  obtain ⟨rfl, hC1⟩ := hp1
  have h : SN E A0 s H locs (wT E a k b t x q u1 ++ wM E am (mm, kp, wa, (iv (ik)), fm, gf, tm, (iv (tn)), (iv (tk)), (iv (bg)), (iv (pt)), (iv (vl)), (iv (bd)), bt, sz, cl)) := h
  have h := sn_nil h
  refine lv_aload_n X.1 X.2.1 dL_law_661 rfl (lv_at hl 1 rfl) ?_
  refine lv_aload_n X.1 X.2.1 dL_law_662 rfl (lv_at hl 3 rfl) ?_
  refine lv_iload_n X.1 X.2.1 dL_law_663 rfl (lv_at hl 0 rfl) ?_
  refine z_iconst X dL_law_664 ?_
  refine z_iadd X dL_law_665 ?_
  refine l_sld X hX hbl hbA hL h (by omega) (by omega) dL_law_666 ?_
  refine lv_aload_n X.1 X.2.1 dL_law_667 rfl (lv_at hl 3 rfl) ?_
  refine lv_iload_n X.1 X.2.1 dL_law_668 rfl (lv_at hl 0 rfl) ?_
  refine z_iconst X dL_law_669 ?_
  refine z_iadd X dL_law_670 ?_
  refine l_sld X hX hbl hbA hL h (by omega) (by omega) dL_law_671 ?_
  refine n_wi h (run_Vn (rest := [.int (iv _)]) X h (c_X5_where (x := sc xz (i + 1)) (n := sc xz (i + 2)) hM (r32_sc _ _) (r32_sc _ _)) mi_X5_where ml_L_79 ⟨(Nat.le_of_ble_eq_true rfl), (Nat.le_of_ble_eq_true rfl)⟩ ⟨rfl, rfl⟩ (Seg.mk' _ _) 4 43 rfl rfl rfl rfl hl.1 rfl (Nat.le_of_ble_eq_true rfl) hcs dL_law_672) (fun _ => wM_map _ _ _ _) (fun r2 u2 H locs hp2 h => ?_)
  obtain ⟨rfl, hM1⟩ := hp2
  have h := sn_lin h
  exact lv_icmp_eq (tgt := 1291) X.1 X.2.1 dL_law_675 (by decide) (fun _ => kk _ _ _ _ _ h hC1 hM1) (fun z => absurd rfl z)

set_option maxHeartbeats 4000000 in
theorem law_change (X : Cx p s m meth c args RL cL_law 4 (some .boolean)) (hX : va_X b0 L xz s s.heap) (hbl : b0 < s.heap.size) (hbA : ¬ A0 b0) (hL : L ≤ 3072) (hcs : cells ≤ 600000 ∧ slots ≤ 7302250) (h : SN E A0 s H locs (wT E a k b t x q u ++ wM E am v)) (hC : RepC u S) (hM : RepM v S) (i0 : 0 ≤ i) (i1 : i + 6 ≤ L) (hl : lv_has ls 4 [(3, .int (iv (i))), (2, .ref (am 0)), (1, .ref (a 0)), (0, .ref (b0))])
    (kk : ∀ (H1 : Heap) (locs1 : List Loc) (u1 : Tc) (v1 : Mc) (S1 : Sg), SN E A0 s H1 locs1 (wT E a k b t x q u1 ++ wM E am v1) → RepC u1 S1 → RepM v1 S1 → W p l e room_1 s m args below meth c H1 locs1 cells slots Q (F0 m 1291 ls [])) : W p l e room_1 s m args below meth c H locs cells slots Q (F0 m 680 ls []) := by
  obtain ⟨A, K, ik, ph, tq, tn, bq, sq, cq⟩ := S
  obtain ⟨⟨v0, fd⟩, ⟨hk, nk, k1, k2, k3, k4, k5, k6, k7, k8, k9⟩, ⟨hb, nb, xs, xi, xk, xc, xl, xr, xb, yl, yr⟩, ⟨ht, nt, t1, t2, t3, t4, t5, t6, t7, t8, t9⟩, ⟨z0, e1, e2, e3, e4, tp⟩, ⟨w0, y0, c0⟩, ⟨w1, y1, c1⟩, ⟨w2, y2, c2⟩, ⟨w3, y3, c3⟩⟩ := u
  obtain ⟨mm, kp, wa, m4, fm, gf, tm, m8, m9, m10, m11, m12, m13, bt, sz, cl⟩ := v
  have z_ : v0 = iv (ik) := hC.2.1.1
  subst z_
  have z_ : hb = iv (hr A) := hC.1.1
  subst z_
  have z_ : nb = iv (pe A) := hC.1.2.1
  subst z_
  have z_ : z0 = iv (tn) := hC.2.2.2.1.1
  subst z_
  have z_ : w0 = iv (bq 0) := hC.2.2.2.2.2.1.1
  subst z_
  have z_ : y0 = iv (sq 0) := hC.2.2.2.2.2.1.2.1
  subst z_
  have z_ : w1 = iv (bq 1) := hC.2.2.2.2.2.2.1.1
  subst z_
  have z_ : y1 = iv (sq 1) := hC.2.2.2.2.2.2.1.2.1
  subst z_
  have z_ : w2 = iv (bq 2) := hC.2.2.2.2.2.2.2.1.1
  subst z_
  have z_ : y2 = iv (sq 2) := hC.2.2.2.2.2.2.2.1.2.1
  subst z_
  have z_ : w3 = iv (bq 3) := hC.2.2.2.2.2.2.2.2.1
  subst z_
  have z_ : y3 = iv (sq 3) := hC.2.2.2.2.2.2.2.2.2.1
  subst z_
  have z_ : m4 = iv (ik) := hM.2.1.1
  subst z_
  have z_ : m8 = iv (tn) := hM.2.2.2.1.1
  subst z_
  obtain ⟨tk, -, rfl⟩ := iv_ex m9
  obtain ⟨bg, -, rfl⟩ := iv_ex m10
  obtain ⟨pt, -, rfl⟩ := iv_ex m11
  obtain ⟨vl, -, rfl⟩ := iv_ex m12
  obtain ⟨bd, -, rfl⟩ := iv_ex m13
  have hC : RepC (((iv (ik)), fd), ((hk), (nk), (k1, k2, k3, k4, k5, k6, k7, k8, k9)), ((iv (hr A)), (iv (pe A)), (xs, xi, xk, xc, xl, xr, xb, yl, yr)), ((ht), (nt), (t1, t2, t3, t4, t5, t6, t7, t8, t9)), ((iv (tn)), (e1), (e2), (e3), (e4), tp), ((iv (bq 0)), (iv (sq 0)), c0), ((iv (bq 1)), (iv (sq 1)), c1), ((iv (bq 2)), (iv (sq 2)), c2), ((iv (bq 3)), (iv (sq 3)), c3)) (A, K, ik, ph, tq, tn, bq, sq, cq) := hC
  have hM : RepM (mm, kp, wa, (iv (ik)), fm, gf, tm, (iv (tn)), (iv (tk)), (iv (bg)), (iv (pt)), (iv (vl)), (iv (bd)), bt, sz, cl) (A, K, ik, ph, tq, tn, bq, sq, cq) := hM
  have h : SN E A0 s H locs ([] ++ ((wO E a k b t x q ((iv (ik))) fd ++ (wS E k ((hk)) ((nk)) (k1, k2, k3, k4, k5, k6, k7, k8, k9) ++ (wS E b ((iv (hr A))) ((iv (pe A))) (xs, xi, xk, xc, xl, xr, xb, yl, yr) ++ (wS E t ((ht)) ((nt)) (t1, t2, t3, t4, t5, t6, t7, t8, t9) ++ (wX E x ((iv (tn))) ((e1)) ((e2)) ((e3)) ((e4)) tp ++ (wH E (q 0) ((iv (bq 0))) ((iv (sq 0))) c0 ++ (wH E (q 1) ((iv (bq 1))) ((iv (sq 1))) c1 ++ (wH E (q 2) ((iv (bq 2))) ((iv (sq 2))) c2 ++ (wH E (q 3) ((iv (bq 3))) ((iv (sq 3))) c3 ++ []))))))))) ++ wM E am (mm, kp, wa, (iv (ik)), fm, gf, tm, (iv (tn)), (iv (tk)), (iv (bg)), (iv (pt)), (iv (vl)), (iv (bd)), bt, sz, cl))) := h
  refine lv_aload_n X.1 X.2.1 dL_law_680 rfl (lv_at hl 2 rfl) ?_
  refine lv_aload_n X.1 X.2.1 dL_law_681 rfl (lv_at hl 3 rfl) ?_
  refine lv_iload_n X.1 X.2.1 dL_law_682 rfl (lv_at hl 0 rfl) ?_
  refine z_iconst X dL_law_683 ?_
  refine z_iadd X dL_law_684 ?_
  refine l_sld X hX hbl hbA hL h (by omega) (by omega) dL_law_685 ?_
  refine lv_aload_n X.1 X.2.1 dL_law_686 rfl (lv_at hl 3 rfl) ?_
  refine lv_iload_n X.1 X.2.1 dL_law_687 rfl (lv_at hl 0 rfl) ?_
  refine z_iconst X dL_law_688 ?_
  refine z_iadd X dL_law_689 ?_
  refine l_sld X hX hbl hbA hL h (by omega) (by omega) dL_law_690 ?_
  refine n_wi h (run_Vn (rest := []) X h (c_X4_change (px := sc xz (i + 1)) (pn := sc xz (i + 2)) hC (r32_sc _ _) (r32_sc _ _)) mi_X4_change ml_L_80 ⟨(Nat.le_of_ble_eq_true rfl), (Nat.le_of_ble_eq_true rfl)⟩ ⟨rfl, rfl⟩ (Seg.mk' _ _) 3 0 rfl rfl rfl rfl hl.1 rfl (Nat.le_of_ble_eq_true rfl) hcs dL_law_691) (fun _ => wT_map _ _ _ _ _ _ _ _ (((iv (ik)), fd), ((hk), (nk), (k1, k2, k3, k4, k5, k6, k7, k8, k9)), ((iv (hr A)), (iv (pe A)), (xs, xi, xk, xc, xl, xr, xb, yl, yr)), ((ht), (nt), (t1, t2, t3, t4, t5, t6, t7, t8, t9)), ((iv (tn)), (e1), (e2), (e3), (e4), tp), ((iv (bq 0)), (iv (sq 0)), c0), ((iv (bq 1)), (iv (sq 1)), c1), ((iv (bq 2)), (iv (sq 2)), c2), ((iv (bq 3)), (iv (sq 3)), c3))) (fun r1 u1 H locs hp1 h => ?_)
  obtain ⟨rfl, hC1⟩ := hp1
  have h : SN E A0 s H locs (wT E a k b t x q u1 ++ wM E am (mm, kp, wa, (iv (ik)), fm, gf, tm, (iv (tn)), (iv (tk)), (iv (bg)), (iv (pt)), (iv (vl)), (iv (bd)), bt, sz, cl)) := h
  have h := sn_nil h
  refine lv_aload_n X.1 X.2.1 dL_law_694 rfl (lv_at hl 1 rfl) ?_
  refine lv_aload_n X.1 X.2.1 dL_law_695 rfl (lv_at hl 3 rfl) ?_
  refine lv_iload_n X.1 X.2.1 dL_law_696 rfl (lv_at hl 0 rfl) ?_
  refine z_iconst X dL_law_697 ?_
  refine z_iadd X dL_law_698 ?_
  refine l_sld X hX hbl hbA hL h (by omega) (by omega) dL_law_699 ?_
  refine lv_aload_n X.1 X.2.1 dL_law_700 rfl (lv_at hl 3 rfl) ?_
  refine lv_iload_n X.1 X.2.1 dL_law_701 rfl (lv_at hl 0 rfl) ?_
  refine z_iconst X dL_law_702 ?_
  refine z_iadd X dL_law_703 ?_
  refine l_sld X hX hbl hbA hL h (by omega) (by omega) dL_law_704 ?_
  refine n_wi h (run_Vn (rest := [.int (iv _)]) X h (c_X5_change (x := sc xz (i + 1)) (n := sc xz (i + 2)) hM (r32_sc _ _) (r32_sc _ _)) mi_X5_change ml_L_83 ⟨(Nat.le_of_ble_eq_true rfl), (Nat.le_of_ble_eq_true rfl)⟩ ⟨rfl, rfl⟩ (Seg.mk' _ _) 4 43 rfl rfl rfl rfl hl.1 rfl (Nat.le_of_ble_eq_true rfl) hcs dL_law_705) (fun _ => wM_map _ _ _ _) (fun r2 u2 H locs hp2 h => ?_)
  obtain ⟨rfl, hM1⟩ := hp2
  have h := sn_lin h
  exact lv_icmp_eq (tgt := 1291) X.1 X.2.1 dL_law_708 (by decide) (fun _ => kk _ _ _ _ _ h hC1 hM1) (fun z => absurd rfl z)

set_option maxHeartbeats 4000000 in
theorem law_kind (X : Cx p s m meth c args RL cL_law 4 (some .boolean)) (hX : va_X b0 L xz s s.heap) (hbl : b0 < s.heap.size) (hbA : ¬ A0 b0) (hL : L ≤ 3072) (hcs : cells ≤ 600000 ∧ slots ≤ 7302250) (h : SN E A0 s H locs (wT E a k b t x q u ++ wM E am v)) (hC : RepC u S) (hM : RepM v S) (i0 : 0 ≤ i) (i1 : i + 6 ≤ L) (hl : lv_has ls 4 [(3, .int (iv (i))), (2, .ref (am 0)), (1, .ref (a 0)), (0, .ref (b0))])
    (kk : ∀ (H1 : Heap) (locs1 : List Loc) (u1 : Tc) (v1 : Mc) (S1 : Sg), SN E A0 s H1 locs1 (wT E a k b t x q u1 ++ wM E am v1) → RepC u1 S1 → RepM v1 S1 → W p l e room_1 s m args below meth c H1 locs1 cells slots Q (F0 m 1291 ls [])) : W p l e room_1 s m args below meth c H locs cells slots Q (F0 m 713 ls []) := by
  obtain ⟨A, K, ik, ph, tq, tn, bq, sq, cq⟩ := S
  obtain ⟨⟨v0, fd⟩, ⟨hk, nk, k1, k2, k3, k4, k5, k6, k7, k8, k9⟩, ⟨hb, nb, xs, xi, xk, xc, xl, xr, xb, yl, yr⟩, ⟨ht, nt, t1, t2, t3, t4, t5, t6, t7, t8, t9⟩, ⟨z0, e1, e2, e3, e4, tp⟩, ⟨w0, y0, c0⟩, ⟨w1, y1, c1⟩, ⟨w2, y2, c2⟩, ⟨w3, y3, c3⟩⟩ := u
  obtain ⟨mm, kp, wa, m4, fm, gf, tm, m8, m9, m10, m11, m12, m13, bt, sz, cl⟩ := v
  have z_ : v0 = iv (ik) := hC.2.1.1
  subst z_
  have z_ : hb = iv (hr A) := hC.1.1
  subst z_
  have z_ : nb = iv (pe A) := hC.1.2.1
  subst z_
  have z_ : z0 = iv (tn) := hC.2.2.2.1.1
  subst z_
  have z_ : w0 = iv (bq 0) := hC.2.2.2.2.2.1.1
  subst z_
  have z_ : y0 = iv (sq 0) := hC.2.2.2.2.2.1.2.1
  subst z_
  have z_ : w1 = iv (bq 1) := hC.2.2.2.2.2.2.1.1
  subst z_
  have z_ : y1 = iv (sq 1) := hC.2.2.2.2.2.2.1.2.1
  subst z_
  have z_ : w2 = iv (bq 2) := hC.2.2.2.2.2.2.2.1.1
  subst z_
  have z_ : y2 = iv (sq 2) := hC.2.2.2.2.2.2.2.1.2.1
  subst z_
  have z_ : w3 = iv (bq 3) := hC.2.2.2.2.2.2.2.2.1
  subst z_
  have z_ : y3 = iv (sq 3) := hC.2.2.2.2.2.2.2.2.2.1
  subst z_
  have z_ : m4 = iv (ik) := hM.2.1.1
  subst z_
  have z_ : m8 = iv (tn) := hM.2.2.2.1.1
  subst z_
  obtain ⟨tk, -, rfl⟩ := iv_ex m9
  obtain ⟨bg, -, rfl⟩ := iv_ex m10
  obtain ⟨pt, -, rfl⟩ := iv_ex m11
  obtain ⟨vl, -, rfl⟩ := iv_ex m12
  obtain ⟨bd, -, rfl⟩ := iv_ex m13
  have hC : RepC (((iv (ik)), fd), ((hk), (nk), (k1, k2, k3, k4, k5, k6, k7, k8, k9)), ((iv (hr A)), (iv (pe A)), (xs, xi, xk, xc, xl, xr, xb, yl, yr)), ((ht), (nt), (t1, t2, t3, t4, t5, t6, t7, t8, t9)), ((iv (tn)), (e1), (e2), (e3), (e4), tp), ((iv (bq 0)), (iv (sq 0)), c0), ((iv (bq 1)), (iv (sq 1)), c1), ((iv (bq 2)), (iv (sq 2)), c2), ((iv (bq 3)), (iv (sq 3)), c3)) (A, K, ik, ph, tq, tn, bq, sq, cq) := hC
  have hM : RepM (mm, kp, wa, (iv (ik)), fm, gf, tm, (iv (tn)), (iv (tk)), (iv (bg)), (iv (pt)), (iv (vl)), (iv (bd)), bt, sz, cl) (A, K, ik, ph, tq, tn, bq, sq, cq) := hM
  have h : SN E A0 s H locs ([] ++ ((wO E a k b t x q ((iv (ik))) fd ++ (wS E k ((hk)) ((nk)) (k1, k2, k3, k4, k5, k6, k7, k8, k9) ++ (wS E b ((iv (hr A))) ((iv (pe A))) (xs, xi, xk, xc, xl, xr, xb, yl, yr) ++ (wS E t ((ht)) ((nt)) (t1, t2, t3, t4, t5, t6, t7, t8, t9) ++ (wX E x ((iv (tn))) ((e1)) ((e2)) ((e3)) ((e4)) tp ++ (wH E (q 0) ((iv (bq 0))) ((iv (sq 0))) c0 ++ (wH E (q 1) ((iv (bq 1))) ((iv (sq 1))) c1 ++ (wH E (q 2) ((iv (bq 2))) ((iv (sq 2))) c2 ++ (wH E (q 3) ((iv (bq 3))) ((iv (sq 3))) c3 ++ []))))))))) ++ wM E am (mm, kp, wa, (iv (ik)), fm, gf, tm, (iv (tn)), (iv (tk)), (iv (bg)), (iv (pt)), (iv (vl)), (iv (bd)), bt, sz, cl))) := h
  refine lv_aload_n X.1 X.2.1 dL_law_713 rfl (lv_at hl 2 rfl) ?_
  refine lv_aload_n X.1 X.2.1 dL_law_714 rfl (lv_at hl 3 rfl) ?_
  refine lv_iload_n X.1 X.2.1 dL_law_715 rfl (lv_at hl 0 rfl) ?_
  refine z_iconst X dL_law_716 ?_
  refine z_iadd X dL_law_717 ?_
  refine l_sld X hX hbl hbA hL h (by omega) (by omega) dL_law_718 ?_
  refine lv_aload_n X.1 X.2.1 dL_law_719 rfl (lv_at hl 3 rfl) ?_
  refine lv_iload_n X.1 X.2.1 dL_law_720 rfl (lv_at hl 0 rfl) ?_
  refine z_iconst X dL_law_721 ?_
  refine z_iadd X dL_law_722 ?_
  refine l_sld X hX hbl hbA hL h (by omega) (by omega) dL_law_723 ?_
  refine n_wi h (run_Vn (rest := []) X h (c_X4_kind (px := sc xz (i + 1)) (pn := sc xz (i + 2)) hC (r32_sc _ _) (r32_sc _ _)) mi_X4_kind ml_L_84 ⟨(Nat.le_of_ble_eq_true rfl), (Nat.le_of_ble_eq_true rfl)⟩ ⟨rfl, rfl⟩ (Seg.mk' _ _) 3 0 rfl rfl rfl rfl hl.1 rfl (Nat.le_of_ble_eq_true rfl) hcs dL_law_724) (fun _ => wT_map _ _ _ _ _ _ _ _ (((iv (ik)), fd), ((hk), (nk), (k1, k2, k3, k4, k5, k6, k7, k8, k9)), ((iv (hr A)), (iv (pe A)), (xs, xi, xk, xc, xl, xr, xb, yl, yr)), ((ht), (nt), (t1, t2, t3, t4, t5, t6, t7, t8, t9)), ((iv (tn)), (e1), (e2), (e3), (e4), tp), ((iv (bq 0)), (iv (sq 0)), c0), ((iv (bq 1)), (iv (sq 1)), c1), ((iv (bq 2)), (iv (sq 2)), c2), ((iv (bq 3)), (iv (sq 3)), c3))) (fun r1 u1 H locs hp1 h => ?_)
  obtain ⟨rfl, hC1⟩ := hp1
  have h : SN E A0 s H locs (wT E a k b t x q u1 ++ wM E am (mm, kp, wa, (iv (ik)), fm, gf, tm, (iv (tn)), (iv (tk)), (iv (bg)), (iv (pt)), (iv (vl)), (iv (bd)), bt, sz, cl)) := h
  have h := sn_nil h
  refine lv_aload_n X.1 X.2.1 dL_law_727 rfl (lv_at hl 1 rfl) ?_
  refine lv_aload_n X.1 X.2.1 dL_law_728 rfl (lv_at hl 3 rfl) ?_
  refine lv_iload_n X.1 X.2.1 dL_law_729 rfl (lv_at hl 0 rfl) ?_
  refine z_iconst X dL_law_730 ?_
  refine z_iadd X dL_law_731 ?_
  refine l_sld X hX hbl hbA hL h (by omega) (by omega) dL_law_732 ?_
  refine lv_aload_n X.1 X.2.1 dL_law_733 rfl (lv_at hl 3 rfl) ?_
  refine lv_iload_n X.1 X.2.1 dL_law_734 rfl (lv_at hl 0 rfl) ?_
  refine z_iconst X dL_law_735 ?_
  refine z_iadd X dL_law_736 ?_
  refine l_sld X hX hbl hbA hL h (by omega) (by omega) dL_law_737 ?_
  refine n_wi h (run_Vn (rest := [.int (iv _)]) X h (c_X5_kind (x := sc xz (i + 1)) (n := sc xz (i + 2)) hM (r32_sc _ _) (r32_sc _ _)) mi_X5_kind ml_L_87 ⟨(Nat.le_of_ble_eq_true rfl), (Nat.le_of_ble_eq_true rfl)⟩ ⟨rfl, rfl⟩ (Seg.mk' _ _) 4 43 rfl rfl rfl rfl hl.1 rfl (Nat.le_of_ble_eq_true rfl) hcs dL_law_738) (fun _ => wM_map _ _ _ _) (fun r2 u2 H locs hp2 h => ?_)
  obtain ⟨rfl, hM1⟩ := hp2
  have h := sn_lin h
  exact lv_icmp_eq (tgt := 1291) X.1 X.2.1 dL_law_741 (by decide) (fun _ => kk _ _ _ _ _ h hC1 hM1) (fun z => absurd rfl z)

set_option maxHeartbeats 4000000 in
theorem law_send (X : Cx p s m meth c args RL cL_law 4 (some .boolean)) (hX : va_X b0 L xz s s.heap) (hbl : b0 < s.heap.size) (hbA : ¬ A0 b0) (hL : L ≤ 3072) (hcs : cells ≤ 600000 ∧ slots ≤ 7302250) (h : SN E A0 s H locs (wT E a k b t x q u ++ wM E am v)) (hC : RepC u S) (hM : RepM v S) (i0 : 0 ≤ i) (i1 : i + 6 ≤ L) (hl : lv_has ls 4 [(3, .int (iv (i))), (2, .ref (am 0)), (1, .ref (a 0)), (0, .ref (b0))])
    (kk : ∀ (H1 : Heap) (locs1 : List Loc) (u1 : Tc) (v1 : Mc) (S1 : Sg), SN E A0 s H1 locs1 (wT E a k b t x q u1 ++ wM E am v1) → RepC u1 S1 → RepM v1 S1 → W p l e room_1 s m args below meth c H1 locs1 cells slots Q (F0 m 1291 ls [])) : W p l e room_1 s m args below meth c H locs cells slots Q (F0 m 746 ls []) := by
  obtain ⟨A, K, ik, ph, tq, tn, bq, sq, cq⟩ := S
  obtain ⟨⟨v0, fd⟩, ⟨hk, nk, k1, k2, k3, k4, k5, k6, k7, k8, k9⟩, ⟨hb, nb, xs, xi, xk, xc, xl, xr, xb, yl, yr⟩, ⟨ht, nt, t1, t2, t3, t4, t5, t6, t7, t8, t9⟩, ⟨z0, e1, e2, e3, e4, tp⟩, ⟨w0, y0, c0⟩, ⟨w1, y1, c1⟩, ⟨w2, y2, c2⟩, ⟨w3, y3, c3⟩⟩ := u
  obtain ⟨mm, kp, wa, m4, fm, gf, tm, m8, m9, m10, m11, m12, m13, bt, sz, cl⟩ := v
  have z_ : v0 = iv (ik) := hC.2.1.1
  subst z_
  have z_ : hb = iv (hr A) := hC.1.1
  subst z_
  have z_ : nb = iv (pe A) := hC.1.2.1
  subst z_
  have z_ : z0 = iv (tn) := hC.2.2.2.1.1
  subst z_
  have z_ : w0 = iv (bq 0) := hC.2.2.2.2.2.1.1
  subst z_
  have z_ : y0 = iv (sq 0) := hC.2.2.2.2.2.1.2.1
  subst z_
  have z_ : w1 = iv (bq 1) := hC.2.2.2.2.2.2.1.1
  subst z_
  have z_ : y1 = iv (sq 1) := hC.2.2.2.2.2.2.1.2.1
  subst z_
  have z_ : w2 = iv (bq 2) := hC.2.2.2.2.2.2.2.1.1
  subst z_
  have z_ : y2 = iv (sq 2) := hC.2.2.2.2.2.2.2.1.2.1
  subst z_
  have z_ : w3 = iv (bq 3) := hC.2.2.2.2.2.2.2.2.1
  subst z_
  have z_ : y3 = iv (sq 3) := hC.2.2.2.2.2.2.2.2.2.1
  subst z_
  have z_ : m4 = iv (ik) := hM.2.1.1
  subst z_
  have z_ : m8 = iv (tn) := hM.2.2.2.1.1
  subst z_
  obtain ⟨tk, -, rfl⟩ := iv_ex m9
  obtain ⟨bg, -, rfl⟩ := iv_ex m10
  obtain ⟨pt, -, rfl⟩ := iv_ex m11
  obtain ⟨vl, -, rfl⟩ := iv_ex m12
  obtain ⟨bd, -, rfl⟩ := iv_ex m13
  have hC : RepC (((iv (ik)), fd), ((hk), (nk), (k1, k2, k3, k4, k5, k6, k7, k8, k9)), ((iv (hr A)), (iv (pe A)), (xs, xi, xk, xc, xl, xr, xb, yl, yr)), ((ht), (nt), (t1, t2, t3, t4, t5, t6, t7, t8, t9)), ((iv (tn)), (e1), (e2), (e3), (e4), tp), ((iv (bq 0)), (iv (sq 0)), c0), ((iv (bq 1)), (iv (sq 1)), c1), ((iv (bq 2)), (iv (sq 2)), c2), ((iv (bq 3)), (iv (sq 3)), c3)) (A, K, ik, ph, tq, tn, bq, sq, cq) := hC
  have hM : RepM (mm, kp, wa, (iv (ik)), fm, gf, tm, (iv (tn)), (iv (tk)), (iv (bg)), (iv (pt)), (iv (vl)), (iv (bd)), bt, sz, cl) (A, K, ik, ph, tq, tn, bq, sq, cq) := hM
  have h : SN E A0 s H locs ([] ++ ((wO E a k b t x q ((iv (ik))) fd ++ (wS E k ((hk)) ((nk)) (k1, k2, k3, k4, k5, k6, k7, k8, k9) ++ (wS E b ((iv (hr A))) ((iv (pe A))) (xs, xi, xk, xc, xl, xr, xb, yl, yr) ++ (wS E t ((ht)) ((nt)) (t1, t2, t3, t4, t5, t6, t7, t8, t9) ++ (wX E x ((iv (tn))) ((e1)) ((e2)) ((e3)) ((e4)) tp ++ (wH E (q 0) ((iv (bq 0))) ((iv (sq 0))) c0 ++ (wH E (q 1) ((iv (bq 1))) ((iv (sq 1))) c1 ++ (wH E (q 2) ((iv (bq 2))) ((iv (sq 2))) c2 ++ (wH E (q 3) ((iv (bq 3))) ((iv (sq 3))) c3 ++ []))))))))) ++ wM E am (mm, kp, wa, (iv (ik)), fm, gf, tm, (iv (tn)), (iv (tk)), (iv (bg)), (iv (pt)), (iv (vl)), (iv (bd)), bt, sz, cl))) := h
  refine lv_aload_n X.1 X.2.1 dL_law_746 rfl (lv_at hl 2 rfl) ?_
  refine lv_aload_n X.1 X.2.1 dL_law_747 rfl (lv_at hl 3 rfl) ?_
  refine lv_iload_n X.1 X.2.1 dL_law_748 rfl (lv_at hl 0 rfl) ?_
  refine z_iconst X dL_law_749 ?_
  refine z_iadd X dL_law_750 ?_
  refine l_sld X hX hbl hbA hL h (by omega) (by omega) dL_law_751 ?_
  refine n_wi h (run_Vn (rest := []) X h (c_X4_send (pn := sc xz (i + 1)) hC (r32_sc _ _)) mi_X4_send ml_L_88 ⟨(Nat.le_of_ble_eq_true rfl), (Nat.le_of_ble_eq_true rfl)⟩ ⟨rfl, rfl⟩ (Seg.mk' _ _) 3 0 rfl rfl rfl rfl hl.1 rfl (Nat.le_of_ble_eq_true rfl) hcs dL_law_752) (fun _ => wT_map _ _ _ _ _ _ _ _ (((iv (ik)), fd), ((hk), (nk), (k1, k2, k3, k4, k5, k6, k7, k8, k9)), ((iv (hr A)), (iv (pe A)), (xs, xi, xk, xc, xl, xr, xb, yl, yr)), ((ht), (nt), (t1, t2, t3, t4, t5, t6, t7, t8, t9)), ((iv (tn)), (e1), (e2), (e3), (e4), tp), ((iv (bq 0)), (iv (sq 0)), c0), ((iv (bq 1)), (iv (sq 1)), c1), ((iv (bq 2)), (iv (sq 2)), c2), ((iv (bq 3)), (iv (sq 3)), c3))) (fun r1 u1 H locs hp1 h => ?_)
  obtain ⟨rfl, hC1⟩ := hp1
  have h : SN E A0 s H locs (wT E a k b t x q u1 ++ wM E am (mm, kp, wa, (iv (ik)), fm, gf, tm, (iv (tn)), (iv (tk)), (iv (bg)), (iv (pt)), (iv (vl)), (iv (bd)), bt, sz, cl)) := h
  have h := sn_nil h
  refine lv_aload_n X.1 X.2.1 dL_law_755 rfl (lv_at hl 1 rfl) ?_
  refine lv_aload_n X.1 X.2.1 dL_law_756 rfl (lv_at hl 3 rfl) ?_
  refine lv_iload_n X.1 X.2.1 dL_law_757 rfl (lv_at hl 0 rfl) ?_
  refine z_iconst X dL_law_758 ?_
  refine z_iadd X dL_law_759 ?_
  refine l_sld X hX hbl hbA hL h (by omega) (by omega) dL_law_760 ?_
  refine n_wi h (run_Vn (rest := [.int (iv _)]) X h (c_X5_send (n := sc xz (i + 1)) hM (r32_sc _ _)) mi_X5_send ml_L_91 ⟨(Nat.le_of_ble_eq_true rfl), (Nat.le_of_ble_eq_true rfl)⟩ ⟨rfl, rfl⟩ (Seg.mk' _ _) 4 43 rfl rfl rfl rfl hl.1 rfl (Nat.le_of_ble_eq_true rfl) hcs dL_law_761) (fun _ => wM_map _ _ _ _) (fun r2 u2 H locs hp2 h => ?_)
  obtain ⟨rfl, hM1⟩ := hp2
  have h := sn_lin h
  exact lv_icmp_eq (tgt := 1291) X.1 X.2.1 dL_law_764 (by decide) (fun _ => kk _ _ _ _ _ h hC1 hM1) (fun z => absurd rfl z)

set_option maxHeartbeats 4000000 in
theorem law_cloud (X : Cx p s m meth c args RL cL_law 4 (some .boolean)) (hX : va_X b0 L xz s s.heap) (hbl : b0 < s.heap.size) (hbA : ¬ A0 b0) (hL : L ≤ 3072) (hcs : cells ≤ 600000 ∧ slots ≤ 7302250) (h : SN E A0 s H locs (wT E a k b t x q u ++ wM E am v)) (hC : RepC u S) (hM : RepM v S) (i0 : 0 ≤ i) (i1 : i + 6 ≤ L) (hl : lv_has ls 4 [(3, .int (iv (i))), (2, .ref (am 0)), (1, .ref (a 0)), (0, .ref (b0))])
    (kk : ∀ (H1 : Heap) (locs1 : List Loc) (u1 : Tc) (v1 : Mc) (S1 : Sg), SN E A0 s H1 locs1 (wT E a k b t x q u1 ++ wM E am v1) → RepC u1 S1 → RepM v1 S1 → W p l e room_1 s m args below meth c H1 locs1 cells slots Q (F0 m 1291 ls [])) : W p l e room_1 s m args below meth c H locs cells slots Q (F0 m 769 ls []) := by
  obtain ⟨A, K, ik, ph, tq, tn, bq, sq, cq⟩ := S
  obtain ⟨⟨v0, fd⟩, ⟨hk, nk, k1, k2, k3, k4, k5, k6, k7, k8, k9⟩, ⟨hb, nb, xs, xi, xk, xc, xl, xr, xb, yl, yr⟩, ⟨ht, nt, t1, t2, t3, t4, t5, t6, t7, t8, t9⟩, ⟨z0, e1, e2, e3, e4, tp⟩, ⟨w0, y0, c0⟩, ⟨w1, y1, c1⟩, ⟨w2, y2, c2⟩, ⟨w3, y3, c3⟩⟩ := u
  obtain ⟨mm, kp, wa, m4, fm, gf, tm, m8, m9, m10, m11, m12, m13, bt, sz, cl⟩ := v
  have z_ : v0 = iv (ik) := hC.2.1.1
  subst z_
  have z_ : hb = iv (hr A) := hC.1.1
  subst z_
  have z_ : nb = iv (pe A) := hC.1.2.1
  subst z_
  have z_ : z0 = iv (tn) := hC.2.2.2.1.1
  subst z_
  have z_ : w0 = iv (bq 0) := hC.2.2.2.2.2.1.1
  subst z_
  have z_ : y0 = iv (sq 0) := hC.2.2.2.2.2.1.2.1
  subst z_
  have z_ : w1 = iv (bq 1) := hC.2.2.2.2.2.2.1.1
  subst z_
  have z_ : y1 = iv (sq 1) := hC.2.2.2.2.2.2.1.2.1
  subst z_
  have z_ : w2 = iv (bq 2) := hC.2.2.2.2.2.2.2.1.1
  subst z_
  have z_ : y2 = iv (sq 2) := hC.2.2.2.2.2.2.2.1.2.1
  subst z_
  have z_ : w3 = iv (bq 3) := hC.2.2.2.2.2.2.2.2.1
  subst z_
  have z_ : y3 = iv (sq 3) := hC.2.2.2.2.2.2.2.2.2.1
  subst z_
  have z_ : m4 = iv (ik) := hM.2.1.1
  subst z_
  have z_ : m8 = iv (tn) := hM.2.2.2.1.1
  subst z_
  obtain ⟨tk, -, rfl⟩ := iv_ex m9
  obtain ⟨bg, -, rfl⟩ := iv_ex m10
  obtain ⟨pt, -, rfl⟩ := iv_ex m11
  obtain ⟨vl, -, rfl⟩ := iv_ex m12
  obtain ⟨bd, -, rfl⟩ := iv_ex m13
  have hC : RepC (((iv (ik)), fd), ((hk), (nk), (k1, k2, k3, k4, k5, k6, k7, k8, k9)), ((iv (hr A)), (iv (pe A)), (xs, xi, xk, xc, xl, xr, xb, yl, yr)), ((ht), (nt), (t1, t2, t3, t4, t5, t6, t7, t8, t9)), ((iv (tn)), (e1), (e2), (e3), (e4), tp), ((iv (bq 0)), (iv (sq 0)), c0), ((iv (bq 1)), (iv (sq 1)), c1), ((iv (bq 2)), (iv (sq 2)), c2), ((iv (bq 3)), (iv (sq 3)), c3)) (A, K, ik, ph, tq, tn, bq, sq, cq) := hC
  have hM : RepM (mm, kp, wa, (iv (ik)), fm, gf, tm, (iv (tn)), (iv (tk)), (iv (bg)), (iv (pt)), (iv (vl)), (iv (bd)), bt, sz, cl) (A, K, ik, ph, tq, tn, bq, sq, cq) := hM
  have h : SN E A0 s H locs ([] ++ ((wO E a k b t x q ((iv (ik))) fd ++ (wS E k ((hk)) ((nk)) (k1, k2, k3, k4, k5, k6, k7, k8, k9) ++ (wS E b ((iv (hr A))) ((iv (pe A))) (xs, xi, xk, xc, xl, xr, xb, yl, yr) ++ (wS E t ((ht)) ((nt)) (t1, t2, t3, t4, t5, t6, t7, t8, t9) ++ (wX E x ((iv (tn))) ((e1)) ((e2)) ((e3)) ((e4)) tp ++ (wH E (q 0) ((iv (bq 0))) ((iv (sq 0))) c0 ++ (wH E (q 1) ((iv (bq 1))) ((iv (sq 1))) c1 ++ (wH E (q 2) ((iv (bq 2))) ((iv (sq 2))) c2 ++ (wH E (q 3) ((iv (bq 3))) ((iv (sq 3))) c3 ++ []))))))))) ++ wM E am (mm, kp, wa, (iv (ik)), fm, gf, tm, (iv (tn)), (iv (tk)), (iv (bg)), (iv (pt)), (iv (vl)), (iv (bd)), bt, sz, cl))) := h
  refine lv_aload_n X.1 X.2.1 dL_law_769 rfl (lv_at hl 2 rfl) ?_
  refine lv_aload_n X.1 X.2.1 dL_law_770 rfl (lv_at hl 3 rfl) ?_
  refine lv_iload_n X.1 X.2.1 dL_law_771 rfl (lv_at hl 0 rfl) ?_
  refine z_iconst X dL_law_772 ?_
  refine z_iadd X dL_law_773 ?_
  refine l_sld X hX hbl hbA hL h (by omega) (by omega) dL_law_774 ?_
  refine n_wi h (run_Vn (rest := []) X h (c_X4_cloud (pn := sc xz (i + 1)) hC (r32_sc _ _)) mi_X4_cloud ml_L_92 ⟨(Nat.le_of_ble_eq_true rfl), (Nat.le_of_ble_eq_true rfl)⟩ ⟨rfl, rfl⟩ (Seg.mk' _ _) 3 0 rfl rfl rfl rfl hl.1 rfl (Nat.le_of_ble_eq_true rfl) hcs dL_law_775) (fun _ => wT_map _ _ _ _ _ _ _ _ (((iv (ik)), fd), ((hk), (nk), (k1, k2, k3, k4, k5, k6, k7, k8, k9)), ((iv (hr A)), (iv (pe A)), (xs, xi, xk, xc, xl, xr, xb, yl, yr)), ((ht), (nt), (t1, t2, t3, t4, t5, t6, t7, t8, t9)), ((iv (tn)), (e1), (e2), (e3), (e4), tp), ((iv (bq 0)), (iv (sq 0)), c0), ((iv (bq 1)), (iv (sq 1)), c1), ((iv (bq 2)), (iv (sq 2)), c2), ((iv (bq 3)), (iv (sq 3)), c3))) (fun r1 u1 H locs hp1 h => ?_)
  obtain ⟨rfl, hC1⟩ := hp1
  have h : SN E A0 s H locs (wT E a k b t x q u1 ++ wM E am (mm, kp, wa, (iv (ik)), fm, gf, tm, (iv (tn)), (iv (tk)), (iv (bg)), (iv (pt)), (iv (vl)), (iv (bd)), bt, sz, cl)) := h
  have h := sn_nil h
  refine lv_aload_n X.1 X.2.1 dL_law_778 rfl (lv_at hl 1 rfl) ?_
  refine lv_aload_n X.1 X.2.1 dL_law_779 rfl (lv_at hl 3 rfl) ?_
  refine lv_iload_n X.1 X.2.1 dL_law_780 rfl (lv_at hl 0 rfl) ?_
  refine z_iconst X dL_law_781 ?_
  refine z_iadd X dL_law_782 ?_
  refine l_sld X hX hbl hbA hL h (by omega) (by omega) dL_law_783 ?_
  refine n_wi h (run_Vn (rest := [.int (iv _)]) X h (c_X5_cloud (n := sc xz (i + 1)) hM (r32_sc _ _)) mi_X5_cloud ml_L_95 ⟨(Nat.le_of_ble_eq_true rfl), (Nat.le_of_ble_eq_true rfl)⟩ ⟨rfl, rfl⟩ (Seg.mk' _ _) 4 43 rfl rfl rfl rfl hl.1 rfl (Nat.le_of_ble_eq_true rfl) hcs dL_law_784) (fun _ => wM_map _ _ _ _) (fun r2 u2 H locs hp2 h => ?_)
  obtain ⟨rfl, hM1⟩ := hp2
  have h := sn_lin h
  exact lv_icmp_eq (tgt := 1291) X.1 X.2.1 dL_law_787 (by decide) (fun _ => kk _ _ _ _ _ h hC1 hM1) (fun z => absurd rfl z)

set_option maxHeartbeats 4000000 in
theorem law_enough (X : Cx p s m meth c args RL cL_law 4 (some .boolean)) (hX : va_X b0 L xz s s.heap) (hbl : b0 < s.heap.size) (hbA : ¬ A0 b0) (hL : L ≤ 3072) (hcs : cells ≤ 600000 ∧ slots ≤ 7302250) (h : SN E A0 s H locs (wT E a k b t x q u ++ wM E am v)) (hC : RepC u S) (hM : RepM v S) (i0 : 0 ≤ i) (i1 : i + 6 ≤ L) (hl : lv_has ls 4 [(3, .int (iv (i))), (2, .ref (am 0)), (1, .ref (a 0)), (0, .ref (b0))])
    (kk : ∀ (H1 : Heap) (locs1 : List Loc) (u1 : Tc) (v1 : Mc) (S1 : Sg), SN E A0 s H1 locs1 (wT E a k b t x q u1 ++ wM E am v1) → RepC u1 S1 → RepM v1 S1 → W p l e room_1 s m args below meth c H1 locs1 cells slots Q (F0 m 1291 ls [])) : W p l e room_1 s m args below meth c H locs cells slots Q (F0 m 792 ls []) := by
  obtain ⟨A, K, ik, ph, tq, tn, bq, sq, cq⟩ := S
  obtain ⟨⟨v0, fd⟩, ⟨hk, nk, k1, k2, k3, k4, k5, k6, k7, k8, k9⟩, ⟨hb, nb, xs, xi, xk, xc, xl, xr, xb, yl, yr⟩, ⟨ht, nt, t1, t2, t3, t4, t5, t6, t7, t8, t9⟩, ⟨z0, e1, e2, e3, e4, tp⟩, ⟨w0, y0, c0⟩, ⟨w1, y1, c1⟩, ⟨w2, y2, c2⟩, ⟨w3, y3, c3⟩⟩ := u
  obtain ⟨mm, kp, wa, m4, fm, gf, tm, m8, m9, m10, m11, m12, m13, bt, sz, cl⟩ := v
  have z_ : v0 = iv (ik) := hC.2.1.1
  subst z_
  have z_ : hb = iv (hr A) := hC.1.1
  subst z_
  have z_ : nb = iv (pe A) := hC.1.2.1
  subst z_
  have z_ : z0 = iv (tn) := hC.2.2.2.1.1
  subst z_
  have z_ : w0 = iv (bq 0) := hC.2.2.2.2.2.1.1
  subst z_
  have z_ : y0 = iv (sq 0) := hC.2.2.2.2.2.1.2.1
  subst z_
  have z_ : w1 = iv (bq 1) := hC.2.2.2.2.2.2.1.1
  subst z_
  have z_ : y1 = iv (sq 1) := hC.2.2.2.2.2.2.1.2.1
  subst z_
  have z_ : w2 = iv (bq 2) := hC.2.2.2.2.2.2.2.1.1
  subst z_
  have z_ : y2 = iv (sq 2) := hC.2.2.2.2.2.2.2.1.2.1
  subst z_
  have z_ : w3 = iv (bq 3) := hC.2.2.2.2.2.2.2.2.1
  subst z_
  have z_ : y3 = iv (sq 3) := hC.2.2.2.2.2.2.2.2.2.1
  subst z_
  have z_ : m4 = iv (ik) := hM.2.1.1
  subst z_
  have z_ : m8 = iv (tn) := hM.2.2.2.1.1
  subst z_
  obtain ⟨tk, -, rfl⟩ := iv_ex m9
  obtain ⟨bg, -, rfl⟩ := iv_ex m10
  obtain ⟨pt, -, rfl⟩ := iv_ex m11
  obtain ⟨vl, -, rfl⟩ := iv_ex m12
  obtain ⟨bd, -, rfl⟩ := iv_ex m13
  have hC : RepC (((iv (ik)), fd), ((hk), (nk), (k1, k2, k3, k4, k5, k6, k7, k8, k9)), ((iv (hr A)), (iv (pe A)), (xs, xi, xk, xc, xl, xr, xb, yl, yr)), ((ht), (nt), (t1, t2, t3, t4, t5, t6, t7, t8, t9)), ((iv (tn)), (e1), (e2), (e3), (e4), tp), ((iv (bq 0)), (iv (sq 0)), c0), ((iv (bq 1)), (iv (sq 1)), c1), ((iv (bq 2)), (iv (sq 2)), c2), ((iv (bq 3)), (iv (sq 3)), c3)) (A, K, ik, ph, tq, tn, bq, sq, cq) := hC
  have hM : RepM (mm, kp, wa, (iv (ik)), fm, gf, tm, (iv (tn)), (iv (tk)), (iv (bg)), (iv (pt)), (iv (vl)), (iv (bd)), bt, sz, cl) (A, K, ik, ph, tq, tn, bq, sq, cq) := hM
  have h : SN E A0 s H locs ([] ++ ((wO E a k b t x q ((iv (ik))) fd ++ (wS E k ((hk)) ((nk)) (k1, k2, k3, k4, k5, k6, k7, k8, k9) ++ (wS E b ((iv (hr A))) ((iv (pe A))) (xs, xi, xk, xc, xl, xr, xb, yl, yr) ++ (wS E t ((ht)) ((nt)) (t1, t2, t3, t4, t5, t6, t7, t8, t9) ++ (wX E x ((iv (tn))) ((e1)) ((e2)) ((e3)) ((e4)) tp ++ (wH E (q 0) ((iv (bq 0))) ((iv (sq 0))) c0 ++ (wH E (q 1) ((iv (bq 1))) ((iv (sq 1))) c1 ++ (wH E (q 2) ((iv (bq 2))) ((iv (sq 2))) c2 ++ (wH E (q 3) ((iv (bq 3))) ((iv (sq 3))) c3 ++ []))))))))) ++ wM E am (mm, kp, wa, (iv (ik)), fm, gf, tm, (iv (tn)), (iv (tk)), (iv (bg)), (iv (pt)), (iv (vl)), (iv (bd)), bt, sz, cl))) := h
  refine lv_aload_n X.1 X.2.1 dL_law_792 rfl (lv_at hl 2 rfl) ?_
  refine lv_aload_n X.1 X.2.1 dL_law_793 rfl (lv_at hl 3 rfl) ?_
  refine lv_iload_n X.1 X.2.1 dL_law_794 rfl (lv_at hl 0 rfl) ?_
  refine z_iconst X dL_law_795 ?_
  refine z_iadd X dL_law_796 ?_
  refine l_sld X hX hbl hbA hL h (by omega) (by omega) dL_law_797 ?_
  refine lv_aload_n X.1 X.2.1 dL_law_798 rfl (lv_at hl 3 rfl) ?_
  refine lv_iload_n X.1 X.2.1 dL_law_799 rfl (lv_at hl 0 rfl) ?_
  refine z_iconst X dL_law_800 ?_
  refine z_iadd X dL_law_801 ?_
  refine l_sld X hX hbl hbA hL h (by omega) (by omega) dL_law_802 ?_
  refine lv_aload_n X.1 X.2.1 dL_law_803 rfl (lv_at hl 3 rfl) ?_
  refine lv_iload_n X.1 X.2.1 dL_law_804 rfl (lv_at hl 0 rfl) ?_
  refine z_iconst X dL_law_805 ?_
  refine z_iadd X dL_law_806 ?_
  refine l_sld X hX hbl hbA hL h (by omega) (by omega) dL_law_807 ?_
  refine lv_aload_n X.1 X.2.1 dL_law_808 rfl (lv_at hl 3 rfl) ?_
  refine lv_iload_n X.1 X.2.1 dL_law_809 rfl (lv_at hl 0 rfl) ?_
  refine z_iconst X dL_law_810 ?_
  refine z_iadd X dL_law_811 ?_
  refine l_sld X hX hbl hbA hL h (by omega) (by omega) dL_law_812 ?_
  refine n_wi h (run_Vn (rest := []) X h (c_X4_enough (px := sc xz (i + 1)) (po := sc xz (i + 2)) (pn := sc xz (i + 3)) (pv := sc xz (i + 4)) hC (r32_sc _ _) (r32_sc _ _) (r32_sc _ _) (r32_sc _ _)) mi_X4_enough ml_L_96 ⟨(Nat.le_of_ble_eq_true rfl), (Nat.le_of_ble_eq_true rfl)⟩ ⟨rfl, rfl⟩ (Seg.mk' _ _) 3 0 rfl rfl rfl rfl hl.1 rfl (Nat.le_of_ble_eq_true rfl) hcs dL_law_813) (fun _ => wT_map _ _ _ _ _ _ _ _ (((iv (ik)), fd), ((hk), (nk), (k1, k2, k3, k4, k5, k6, k7, k8, k9)), ((iv (hr A)), (iv (pe A)), (xs, xi, xk, xc, xl, xr, xb, yl, yr)), ((ht), (nt), (t1, t2, t3, t4, t5, t6, t7, t8, t9)), ((iv (tn)), (e1), (e2), (e3), (e4), tp), ((iv (bq 0)), (iv (sq 0)), c0), ((iv (bq 1)), (iv (sq 1)), c1), ((iv (bq 2)), (iv (sq 2)), c2), ((iv (bq 3)), (iv (sq 3)), c3))) (fun r1 u1 H locs hp1 h => ?_)
  obtain ⟨rfl, hC1⟩ := hp1
  have h : SN E A0 s H locs (wT E a k b t x q u1 ++ wM E am (mm, kp, wa, (iv (ik)), fm, gf, tm, (iv (tn)), (iv (tk)), (iv (bg)), (iv (pt)), (iv (vl)), (iv (bd)), bt, sz, cl)) := h
  have h := sn_nil h
  refine lv_aload_n X.1 X.2.1 dL_law_816 rfl (lv_at hl 1 rfl) ?_
  refine lv_aload_n X.1 X.2.1 dL_law_817 rfl (lv_at hl 3 rfl) ?_
  refine lv_iload_n X.1 X.2.1 dL_law_818 rfl (lv_at hl 0 rfl) ?_
  refine z_iconst X dL_law_819 ?_
  refine z_iadd X dL_law_820 ?_
  refine l_sld X hX hbl hbA hL h (by omega) (by omega) dL_law_821 ?_
  refine lv_aload_n X.1 X.2.1 dL_law_822 rfl (lv_at hl 3 rfl) ?_
  refine lv_iload_n X.1 X.2.1 dL_law_823 rfl (lv_at hl 0 rfl) ?_
  refine z_iconst X dL_law_824 ?_
  refine z_iadd X dL_law_825 ?_
  refine l_sld X hX hbl hbA hL h (by omega) (by omega) dL_law_826 ?_
  refine lv_aload_n X.1 X.2.1 dL_law_827 rfl (lv_at hl 3 rfl) ?_
  refine lv_iload_n X.1 X.2.1 dL_law_828 rfl (lv_at hl 0 rfl) ?_
  refine z_iconst X dL_law_829 ?_
  refine z_iadd X dL_law_830 ?_
  refine l_sld X hX hbl hbA hL h (by omega) (by omega) dL_law_831 ?_
  refine lv_aload_n X.1 X.2.1 dL_law_832 rfl (lv_at hl 3 rfl) ?_
  refine lv_iload_n X.1 X.2.1 dL_law_833 rfl (lv_at hl 0 rfl) ?_
  refine z_iconst X dL_law_834 ?_
  refine z_iadd X dL_law_835 ?_
  refine l_sld X hX hbl hbA hL h (by omega) (by omega) dL_law_836 ?_
  refine n_wi h (run_Vn (rest := [.int (iv _)]) X h (c_X5_enough (x := sc xz (i + 1)) (o := sc xz (i + 2)) (n := sc xz (i + 3)) (v := sc xz (i + 4)) hM (r32_sc _ _) (r32_sc _ _) (r32_sc _ _) (r32_sc _ _)) mi_X5_enough ml_L_100 ⟨(Nat.le_of_ble_eq_true rfl), (Nat.le_of_ble_eq_true rfl)⟩ ⟨rfl, rfl⟩ (Seg.mk' _ _) 4 43 rfl rfl rfl rfl hl.1 rfl (Nat.le_of_ble_eq_true rfl) hcs dL_law_837) (fun _ => wM_map _ _ _ _) (fun r2 u2 H locs hp2 h => ?_)
  obtain ⟨rfl, hM1⟩ := hp2
  have h := sn_lin h
  exact lv_icmp_eq (tgt := 1291) X.1 X.2.1 dL_law_840 (by decide) (fun _ => kk _ _ _ _ _ h hC1 hM1) (fun z => absurd rfl z)

set_option maxHeartbeats 4000000 in
theorem law_brownest (X : Cx p s m meth c args RL cL_law 4 (some .boolean)) (hX : va_X b0 L xz s s.heap) (hbl : b0 < s.heap.size) (hbA : ¬ A0 b0) (hL : L ≤ 3072) (hcs : cells ≤ 600000 ∧ slots ≤ 7302250) (h : SN E A0 s H locs (wT E a k b t x q u ++ wM E am v)) (hC : RepC u S) (hM : RepM v S) (i0 : 0 ≤ i) (i1 : i + 6 ≤ L) (hl : lv_has ls 4 [(3, .int (iv (i))), (2, .ref (am 0)), (1, .ref (a 0)), (0, .ref (b0))])
    (kk : ∀ (H1 : Heap) (locs1 : List Loc) (u1 : Tc) (v1 : Mc) (S1 : Sg), SN E A0 s H1 locs1 (wT E a k b t x q u1 ++ wM E am v1) → RepC u1 S1 → RepM v1 S1 → W p l e room_1 s m args below meth c H1 locs1 cells slots Q (F0 m 1291 ls [])) : W p l e room_1 s m args below meth c H locs cells slots Q (F0 m 845 ls []) := by
  obtain ⟨A, K, ik, ph, tq, tn, bq, sq, cq⟩ := S
  obtain ⟨⟨v0, fd⟩, ⟨hk, nk, k1, k2, k3, k4, k5, k6, k7, k8, k9⟩, ⟨hb, nb, xs, xi, xk, xc, xl, xr, xb, yl, yr⟩, ⟨ht, nt, t1, t2, t3, t4, t5, t6, t7, t8, t9⟩, ⟨z0, e1, e2, e3, e4, tp⟩, ⟨w0, y0, c0⟩, ⟨w1, y1, c1⟩, ⟨w2, y2, c2⟩, ⟨w3, y3, c3⟩⟩ := u
  obtain ⟨mm, kp, wa, m4, fm, gf, tm, m8, m9, m10, m11, m12, m13, bt, sz, cl⟩ := v
  have z_ : v0 = iv (ik) := hC.2.1.1
  subst z_
  have z_ : hb = iv (hr A) := hC.1.1
  subst z_
  have z_ : nb = iv (pe A) := hC.1.2.1
  subst z_
  have z_ : z0 = iv (tn) := hC.2.2.2.1.1
  subst z_
  have z_ : w0 = iv (bq 0) := hC.2.2.2.2.2.1.1
  subst z_
  have z_ : y0 = iv (sq 0) := hC.2.2.2.2.2.1.2.1
  subst z_
  have z_ : w1 = iv (bq 1) := hC.2.2.2.2.2.2.1.1
  subst z_
  have z_ : y1 = iv (sq 1) := hC.2.2.2.2.2.2.1.2.1
  subst z_
  have z_ : w2 = iv (bq 2) := hC.2.2.2.2.2.2.2.1.1
  subst z_
  have z_ : y2 = iv (sq 2) := hC.2.2.2.2.2.2.2.1.2.1
  subst z_
  have z_ : w3 = iv (bq 3) := hC.2.2.2.2.2.2.2.2.1
  subst z_
  have z_ : y3 = iv (sq 3) := hC.2.2.2.2.2.2.2.2.2.1
  subst z_
  have z_ : m4 = iv (ik) := hM.2.1.1
  subst z_
  have z_ : m8 = iv (tn) := hM.2.2.2.1.1
  subst z_
  obtain ⟨tk, -, rfl⟩ := iv_ex m9
  obtain ⟨bg, -, rfl⟩ := iv_ex m10
  obtain ⟨pt, -, rfl⟩ := iv_ex m11
  obtain ⟨vl, -, rfl⟩ := iv_ex m12
  obtain ⟨bd, -, rfl⟩ := iv_ex m13
  have hC : RepC (((iv (ik)), fd), ((hk), (nk), (k1, k2, k3, k4, k5, k6, k7, k8, k9)), ((iv (hr A)), (iv (pe A)), (xs, xi, xk, xc, xl, xr, xb, yl, yr)), ((ht), (nt), (t1, t2, t3, t4, t5, t6, t7, t8, t9)), ((iv (tn)), (e1), (e2), (e3), (e4), tp), ((iv (bq 0)), (iv (sq 0)), c0), ((iv (bq 1)), (iv (sq 1)), c1), ((iv (bq 2)), (iv (sq 2)), c2), ((iv (bq 3)), (iv (sq 3)), c3)) (A, K, ik, ph, tq, tn, bq, sq, cq) := hC
  have hM : RepM (mm, kp, wa, (iv (ik)), fm, gf, tm, (iv (tn)), (iv (tk)), (iv (bg)), (iv (pt)), (iv (vl)), (iv (bd)), bt, sz, cl) (A, K, ik, ph, tq, tn, bq, sq, cq) := hM
  have h : SN E A0 s H locs ([] ++ ((wO E a k b t x q ((iv (ik))) fd ++ (wS E k ((hk)) ((nk)) (k1, k2, k3, k4, k5, k6, k7, k8, k9) ++ (wS E b ((iv (hr A))) ((iv (pe A))) (xs, xi, xk, xc, xl, xr, xb, yl, yr) ++ (wS E t ((ht)) ((nt)) (t1, t2, t3, t4, t5, t6, t7, t8, t9) ++ (wX E x ((iv (tn))) ((e1)) ((e2)) ((e3)) ((e4)) tp ++ (wH E (q 0) ((iv (bq 0))) ((iv (sq 0))) c0 ++ (wH E (q 1) ((iv (bq 1))) ((iv (sq 1))) c1 ++ (wH E (q 2) ((iv (bq 2))) ((iv (sq 2))) c2 ++ (wH E (q 3) ((iv (bq 3))) ((iv (sq 3))) c3 ++ []))))))))) ++ wM E am (mm, kp, wa, (iv (ik)), fm, gf, tm, (iv (tn)), (iv (tk)), (iv (bg)), (iv (pt)), (iv (vl)), (iv (bd)), bt, sz, cl))) := h
  refine lv_aload_n X.1 X.2.1 dL_law_845 rfl (lv_at hl 2 rfl) ?_
  refine lv_aload_n X.1 X.2.1 dL_law_846 rfl (lv_at hl 3 rfl) ?_
  refine lv_iload_n X.1 X.2.1 dL_law_847 rfl (lv_at hl 0 rfl) ?_
  refine z_iconst X dL_law_848 ?_
  refine z_iadd X dL_law_849 ?_
  refine l_sld X hX hbl hbA hL h (by omega) (by omega) dL_law_850 ?_
  refine n_wi h (run_Vn (rest := []) X h (c_X4_brownest (pn := sc xz (i + 1)) hC (r32_sc _ _)) mi_X4_brownest ml_L_101 ⟨(Nat.le_of_ble_eq_true rfl), (Nat.le_of_ble_eq_true rfl)⟩ ⟨rfl, rfl⟩ (Seg.mk' _ _) 3 0 rfl rfl rfl rfl hl.1 rfl (Nat.le_of_ble_eq_true rfl) hcs dL_law_851) (fun _ => wT_map _ _ _ _ _ _ _ _ (((iv (ik)), fd), ((hk), (nk), (k1, k2, k3, k4, k5, k6, k7, k8, k9)), ((iv (hr A)), (iv (pe A)), (xs, xi, xk, xc, xl, xr, xb, yl, yr)), ((ht), (nt), (t1, t2, t3, t4, t5, t6, t7, t8, t9)), ((iv (tn)), (e1), (e2), (e3), (e4), tp), ((iv (bq 0)), (iv (sq 0)), c0), ((iv (bq 1)), (iv (sq 1)), c1), ((iv (bq 2)), (iv (sq 2)), c2), ((iv (bq 3)), (iv (sq 3)), c3))) (fun r1 u1 H locs hp1 h => ?_)
  obtain ⟨rfl, hC1⟩ := hp1
  have h : SN E A0 s H locs (wT E a k b t x q u1 ++ wM E am (mm, kp, wa, (iv (ik)), fm, gf, tm, (iv (tn)), (iv (tk)), (iv (bg)), (iv (pt)), (iv (vl)), (iv (bd)), bt, sz, cl)) := h
  have h := sn_nil h
  refine lv_aload_n X.1 X.2.1 dL_law_854 rfl (lv_at hl 1 rfl) ?_
  refine lv_aload_n X.1 X.2.1 dL_law_855 rfl (lv_at hl 3 rfl) ?_
  refine lv_iload_n X.1 X.2.1 dL_law_856 rfl (lv_at hl 0 rfl) ?_
  refine z_iconst X dL_law_857 ?_
  refine z_iadd X dL_law_858 ?_
  refine l_sld X hX hbl hbA hL h (by omega) (by omega) dL_law_859 ?_
  refine n_wi h (run_Vn (rest := [.int (iv _)]) X h (c_X5_brownest (n := sc xz (i + 1)) hM (r32_sc _ _)) mi_X5_brownest ml_L_104 ⟨(Nat.le_of_ble_eq_true rfl), (Nat.le_of_ble_eq_true rfl)⟩ ⟨rfl, rfl⟩ (Seg.mk' _ _) 4 43 rfl rfl rfl rfl hl.1 rfl (Nat.le_of_ble_eq_true rfl) hcs dL_law_860) (fun _ => wM_map _ _ _ _) (fun r2 u2 H locs hp2 h => ?_)
  obtain ⟨rfl, hM1⟩ := hp2
  have h := sn_lin h
  exact lv_icmp_eq (tgt := 1291) X.1 X.2.1 dL_law_863 (by decide) (fun _ => kk _ _ _ _ _ h hC1 hM1) (fun z => absurd rfl z)

set_option maxHeartbeats 4000000 in
theorem law_feed (X : Cx p s m meth c args RL cL_law 4 (some .boolean)) (hX : va_X b0 L xz s s.heap) (hbl : b0 < s.heap.size) (hbA : ¬ A0 b0) (hL : L ≤ 3072) (hcs : cells ≤ 600000 ∧ slots ≤ 7302250) (h : SN E A0 s H locs (wT E a k b t x q u ++ wM E am v)) (hC : RepC u S) (hM : RepM v S) (i0 : 0 ≤ i) (i1 : i + 6 ≤ L) (hl : lv_has ls 4 [(3, .int (iv (i))), (2, .ref (am 0)), (1, .ref (a 0)), (0, .ref (b0))])
    (kk : ∀ (H1 : Heap) (locs1 : List Loc) (u1 : Tc) (v1 : Mc) (S1 : Sg), SN E A0 s H1 locs1 (wT E a k b t x q u1 ++ wM E am v1) → RepC u1 S1 → RepM v1 S1 → W p l e room_1 s m args below meth c H1 locs1 cells slots Q (F0 m 1291 ls [])) : W p l e room_1 s m args below meth c H locs cells slots Q (F0 m 868 ls []) := by
  obtain ⟨A, K, ik, ph, tq, tn, bq, sq, cq⟩ := S
  obtain ⟨⟨v0, fd⟩, ⟨hk, nk, k1, k2, k3, k4, k5, k6, k7, k8, k9⟩, ⟨hb, nb, xs, xi, xk, xc, xl, xr, xb, yl, yr⟩, ⟨ht, nt, t1, t2, t3, t4, t5, t6, t7, t8, t9⟩, ⟨z0, e1, e2, e3, e4, tp⟩, ⟨w0, y0, c0⟩, ⟨w1, y1, c1⟩, ⟨w2, y2, c2⟩, ⟨w3, y3, c3⟩⟩ := u
  obtain ⟨mm, kp, wa, m4, fm, gf, tm, m8, m9, m10, m11, m12, m13, bt, sz, cl⟩ := v
  have z_ : v0 = iv (ik) := hC.2.1.1
  subst z_
  have z_ : hb = iv (hr A) := hC.1.1
  subst z_
  have z_ : nb = iv (pe A) := hC.1.2.1
  subst z_
  have z_ : z0 = iv (tn) := hC.2.2.2.1.1
  subst z_
  have z_ : w0 = iv (bq 0) := hC.2.2.2.2.2.1.1
  subst z_
  have z_ : y0 = iv (sq 0) := hC.2.2.2.2.2.1.2.1
  subst z_
  have z_ : w1 = iv (bq 1) := hC.2.2.2.2.2.2.1.1
  subst z_
  have z_ : y1 = iv (sq 1) := hC.2.2.2.2.2.2.1.2.1
  subst z_
  have z_ : w2 = iv (bq 2) := hC.2.2.2.2.2.2.2.1.1
  subst z_
  have z_ : y2 = iv (sq 2) := hC.2.2.2.2.2.2.2.1.2.1
  subst z_
  have z_ : w3 = iv (bq 3) := hC.2.2.2.2.2.2.2.2.1
  subst z_
  have z_ : y3 = iv (sq 3) := hC.2.2.2.2.2.2.2.2.2.1
  subst z_
  have z_ : m4 = iv (ik) := hM.2.1.1
  subst z_
  have z_ : m8 = iv (tn) := hM.2.2.2.1.1
  subst z_
  obtain ⟨tk, -, rfl⟩ := iv_ex m9
  obtain ⟨bg, -, rfl⟩ := iv_ex m10
  obtain ⟨pt, -, rfl⟩ := iv_ex m11
  obtain ⟨vl, -, rfl⟩ := iv_ex m12
  obtain ⟨bd, -, rfl⟩ := iv_ex m13
  have hC : RepC (((iv (ik)), fd), ((hk), (nk), (k1, k2, k3, k4, k5, k6, k7, k8, k9)), ((iv (hr A)), (iv (pe A)), (xs, xi, xk, xc, xl, xr, xb, yl, yr)), ((ht), (nt), (t1, t2, t3, t4, t5, t6, t7, t8, t9)), ((iv (tn)), (e1), (e2), (e3), (e4), tp), ((iv (bq 0)), (iv (sq 0)), c0), ((iv (bq 1)), (iv (sq 1)), c1), ((iv (bq 2)), (iv (sq 2)), c2), ((iv (bq 3)), (iv (sq 3)), c3)) (A, K, ik, ph, tq, tn, bq, sq, cq) := hC
  have hM : RepM (mm, kp, wa, (iv (ik)), fm, gf, tm, (iv (tn)), (iv (tk)), (iv (bg)), (iv (pt)), (iv (vl)), (iv (bd)), bt, sz, cl) (A, K, ik, ph, tq, tn, bq, sq, cq) := hM
  have h : SN E A0 s H locs ([] ++ ((wO E a k b t x q ((iv (ik))) fd ++ (wS E k ((hk)) ((nk)) (k1, k2, k3, k4, k5, k6, k7, k8, k9) ++ (wS E b ((iv (hr A))) ((iv (pe A))) (xs, xi, xk, xc, xl, xr, xb, yl, yr) ++ (wS E t ((ht)) ((nt)) (t1, t2, t3, t4, t5, t6, t7, t8, t9) ++ (wX E x ((iv (tn))) ((e1)) ((e2)) ((e3)) ((e4)) tp ++ (wH E (q 0) ((iv (bq 0))) ((iv (sq 0))) c0 ++ (wH E (q 1) ((iv (bq 1))) ((iv (sq 1))) c1 ++ (wH E (q 2) ((iv (bq 2))) ((iv (sq 2))) c2 ++ (wH E (q 3) ((iv (bq 3))) ((iv (sq 3))) c3 ++ []))))))))) ++ wM E am (mm, kp, wa, (iv (ik)), fm, gf, tm, (iv (tn)), (iv (tk)), (iv (bg)), (iv (pt)), (iv (vl)), (iv (bd)), bt, sz, cl))) := h
  refine lv_aload_n X.1 X.2.1 dL_law_868 rfl (lv_at hl 2 rfl) ?_
  refine lv_aload_n X.1 X.2.1 dL_law_869 rfl (lv_at hl 3 rfl) ?_
  refine lv_iload_n X.1 X.2.1 dL_law_870 rfl (lv_at hl 0 rfl) ?_
  refine z_iconst X dL_law_871 ?_
  refine z_iadd X dL_law_872 ?_
  refine l_sld X hX hbl hbA hL h (by omega) (by omega) dL_law_873 ?_
  refine lv_aload_n X.1 X.2.1 dL_law_874 rfl (lv_at hl 3 rfl) ?_
  refine lv_iload_n X.1 X.2.1 dL_law_875 rfl (lv_at hl 0 rfl) ?_
  refine z_iconst X dL_law_876 ?_
  refine z_iadd X dL_law_877 ?_
  refine l_sld X hX hbl hbA hL h (by omega) (by omega) dL_law_878 ?_
  refine n_wi h (run_Vn (rest := []) X h (c_X4_feed (pb := sc xz (i + 1)) (pn := sc xz (i + 2)) hC (r32_sc _ _) (r32_sc _ _)) mi_X4_feed ml_L_105 ⟨(Nat.le_of_ble_eq_true rfl), (Nat.le_of_ble_eq_true rfl)⟩ ⟨rfl, rfl⟩ (Seg.mk' _ _) 3 0 rfl rfl rfl rfl hl.1 rfl (Nat.le_of_ble_eq_true rfl) hcs dL_law_879) (fun _ => wT_map _ _ _ _ _ _ _ _ (((iv (ik)), fd), ((hk), (nk), (k1, k2, k3, k4, k5, k6, k7, k8, k9)), ((iv (hr A)), (iv (pe A)), (xs, xi, xk, xc, xl, xr, xb, yl, yr)), ((ht), (nt), (t1, t2, t3, t4, t5, t6, t7, t8, t9)), ((iv (tn)), (e1), (e2), (e3), (e4), tp), ((iv (bq 0)), (iv (sq 0)), c0), ((iv (bq 1)), (iv (sq 1)), c1), ((iv (bq 2)), (iv (sq 2)), c2), ((iv (bq 3)), (iv (sq 3)), c3))) (fun r1 u1 H locs hp1 h => ?_)
  obtain ⟨rfl, hC1⟩ := hp1
  have h : SN E A0 s H locs (wT E a k b t x q u1 ++ wM E am (mm, kp, wa, (iv (ik)), fm, gf, tm, (iv (tn)), (iv (tk)), (iv (bg)), (iv (pt)), (iv (vl)), (iv (bd)), bt, sz, cl)) := h
  have h := sn_nil h
  refine lv_aload_n X.1 X.2.1 dL_law_882 rfl (lv_at hl 1 rfl) ?_
  refine lv_aload_n X.1 X.2.1 dL_law_883 rfl (lv_at hl 3 rfl) ?_
  refine lv_iload_n X.1 X.2.1 dL_law_884 rfl (lv_at hl 0 rfl) ?_
  refine z_iconst X dL_law_885 ?_
  refine z_iadd X dL_law_886 ?_
  refine l_sld X hX hbl hbA hL h (by omega) (by omega) dL_law_887 ?_
  refine lv_aload_n X.1 X.2.1 dL_law_888 rfl (lv_at hl 3 rfl) ?_
  refine lv_iload_n X.1 X.2.1 dL_law_889 rfl (lv_at hl 0 rfl) ?_
  refine z_iconst X dL_law_890 ?_
  refine z_iadd X dL_law_891 ?_
  refine l_sld X hX hbl hbA hL h (by omega) (by omega) dL_law_892 ?_
  refine n_wi h (run_Vn (rest := [.int (iv _)]) X h (c_X5_feed (b := sc xz (i + 1)) (n := sc xz (i + 2)) hM (r32_sc _ _) (r32_sc _ _)) mi_X5_feed ml_L_108 ⟨(Nat.le_of_ble_eq_true rfl), (Nat.le_of_ble_eq_true rfl)⟩ ⟨rfl, rfl⟩ (Seg.mk' _ _) 4 43 rfl rfl rfl rfl hl.1 rfl (Nat.le_of_ble_eq_true rfl) hcs dL_law_893) (fun _ => wM_map _ _ _ _) (fun r2 u2 H locs hp2 h => ?_)
  obtain ⟨rfl, hM1⟩ := hp2
  have h := sn_lin h
  exact lv_icmp_eq (tgt := 1291) X.1 X.2.1 dL_law_896 (by decide) (fun _ => kk _ _ _ _ _ h hC1 hM1) (fun z => absurd rfl z)

set_option maxHeartbeats 4000000 in
theorem law_wipe (X : Cx p s m meth c args RL cL_law 4 (some .boolean)) (hX : va_X b0 L xz s s.heap) (hbl : b0 < s.heap.size) (hbA : ¬ A0 b0) (hL : L ≤ 3072) (hcs : cells ≤ 600000 ∧ slots ≤ 7302250) (h : SN E A0 s H locs (wT E a k b t x q u ++ wM E am v)) (hC : RepC u S) (hM : RepM v S) (i0 : 0 ≤ i) (i1 : i + 6 ≤ L) (hl : lv_has ls 4 [(3, .int (iv (i))), (2, .ref (am 0)), (1, .ref (a 0)), (0, .ref (b0))])
    (kk : ∀ (H1 : Heap) (locs1 : List Loc) (u1 : Tc) (v1 : Mc) (S1 : Sg), SN E A0 s H1 locs1 (wT E a k b t x q u1 ++ wM E am v1) → RepC u1 S1 → RepM v1 S1 → W p l e room_1 s m args below meth c H1 locs1 cells slots Q (F0 m 1291 ls [])) : W p l e room_1 s m args below meth c H locs cells slots Q (F0 m 901 ls []) := by
  obtain ⟨A, K, ik, ph, tq, tn, bq, sq, cq⟩ := S
  obtain ⟨⟨v0, fd⟩, ⟨hk, nk, k1, k2, k3, k4, k5, k6, k7, k8, k9⟩, ⟨hb, nb, xs, xi, xk, xc, xl, xr, xb, yl, yr⟩, ⟨ht, nt, t1, t2, t3, t4, t5, t6, t7, t8, t9⟩, ⟨z0, e1, e2, e3, e4, tp⟩, ⟨w0, y0, c0⟩, ⟨w1, y1, c1⟩, ⟨w2, y2, c2⟩, ⟨w3, y3, c3⟩⟩ := u
  obtain ⟨mm, kp, wa, m4, fm, gf, tm, m8, m9, m10, m11, m12, m13, bt, sz, cl⟩ := v
  have z_ : v0 = iv (ik) := hC.2.1.1
  subst z_
  have z_ : hb = iv (hr A) := hC.1.1
  subst z_
  have z_ : nb = iv (pe A) := hC.1.2.1
  subst z_
  have z_ : z0 = iv (tn) := hC.2.2.2.1.1
  subst z_
  have z_ : w0 = iv (bq 0) := hC.2.2.2.2.2.1.1
  subst z_
  have z_ : y0 = iv (sq 0) := hC.2.2.2.2.2.1.2.1
  subst z_
  have z_ : w1 = iv (bq 1) := hC.2.2.2.2.2.2.1.1
  subst z_
  have z_ : y1 = iv (sq 1) := hC.2.2.2.2.2.2.1.2.1
  subst z_
  have z_ : w2 = iv (bq 2) := hC.2.2.2.2.2.2.2.1.1
  subst z_
  have z_ : y2 = iv (sq 2) := hC.2.2.2.2.2.2.2.1.2.1
  subst z_
  have z_ : w3 = iv (bq 3) := hC.2.2.2.2.2.2.2.2.1
  subst z_
  have z_ : y3 = iv (sq 3) := hC.2.2.2.2.2.2.2.2.2.1
  subst z_
  have z_ : m4 = iv (ik) := hM.2.1.1
  subst z_
  have z_ : m8 = iv (tn) := hM.2.2.2.1.1
  subst z_
  obtain ⟨tk, -, rfl⟩ := iv_ex m9
  obtain ⟨bg, -, rfl⟩ := iv_ex m10
  obtain ⟨pt, -, rfl⟩ := iv_ex m11
  obtain ⟨vl, -, rfl⟩ := iv_ex m12
  obtain ⟨bd, -, rfl⟩ := iv_ex m13
  have hC : RepC (((iv (ik)), fd), ((hk), (nk), (k1, k2, k3, k4, k5, k6, k7, k8, k9)), ((iv (hr A)), (iv (pe A)), (xs, xi, xk, xc, xl, xr, xb, yl, yr)), ((ht), (nt), (t1, t2, t3, t4, t5, t6, t7, t8, t9)), ((iv (tn)), (e1), (e2), (e3), (e4), tp), ((iv (bq 0)), (iv (sq 0)), c0), ((iv (bq 1)), (iv (sq 1)), c1), ((iv (bq 2)), (iv (sq 2)), c2), ((iv (bq 3)), (iv (sq 3)), c3)) (A, K, ik, ph, tq, tn, bq, sq, cq) := hC
  have hM : RepM (mm, kp, wa, (iv (ik)), fm, gf, tm, (iv (tn)), (iv (tk)), (iv (bg)), (iv (pt)), (iv (vl)), (iv (bd)), bt, sz, cl) (A, K, ik, ph, tq, tn, bq, sq, cq) := hM
  have h : SN E A0 s H locs ([] ++ ((wO E a k b t x q ((iv (ik))) fd ++ (wS E k ((hk)) ((nk)) (k1, k2, k3, k4, k5, k6, k7, k8, k9) ++ (wS E b ((iv (hr A))) ((iv (pe A))) (xs, xi, xk, xc, xl, xr, xb, yl, yr) ++ (wS E t ((ht)) ((nt)) (t1, t2, t3, t4, t5, t6, t7, t8, t9) ++ (wX E x ((iv (tn))) ((e1)) ((e2)) ((e3)) ((e4)) tp ++ (wH E (q 0) ((iv (bq 0))) ((iv (sq 0))) c0 ++ (wH E (q 1) ((iv (bq 1))) ((iv (sq 1))) c1 ++ (wH E (q 2) ((iv (bq 2))) ((iv (sq 2))) c2 ++ (wH E (q 3) ((iv (bq 3))) ((iv (sq 3))) c3 ++ []))))))))) ++ wM E am (mm, kp, wa, (iv (ik)), fm, gf, tm, (iv (tn)), (iv (tk)), (iv (bg)), (iv (pt)), (iv (vl)), (iv (bd)), bt, sz, cl))) := h
  refine lv_aload_n X.1 X.2.1 dL_law_901 rfl (lv_at hl 2 rfl) ?_
  refine n_wi h (run_Vn (rest := []) X h (c_X4_wipe  hC ) mi_X4_wipe ml_L_109 ⟨(Nat.le_of_ble_eq_true rfl), (Nat.le_of_ble_eq_true rfl)⟩ ⟨rfl, rfl⟩ (Seg.mk' _ _) 3 0 rfl rfl rfl rfl hl.1 rfl (Nat.le_of_ble_eq_true rfl) hcs dL_law_902) (fun _ => wT_map _ _ _ _ _ _ _ _ (((iv (ik)), fd), ((hk), (nk), (k1, k2, k3, k4, k5, k6, k7, k8, k9)), ((iv (hr A)), (iv (pe A)), (xs, xi, xk, xc, xl, xr, xb, yl, yr)), ((ht), (nt), (t1, t2, t3, t4, t5, t6, t7, t8, t9)), ((iv (tn)), (e1), (e2), (e3), (e4), tp), ((iv (bq 0)), (iv (sq 0)), c0), ((iv (bq 1)), (iv (sq 1)), c1), ((iv (bq 2)), (iv (sq 2)), c2), ((iv (bq 3)), (iv (sq 3)), c3))) (fun r1 u1 H locs hp1 h => ?_)
  obtain ⟨rfl, hC1⟩ := hp1
  have h : SN E A0 s H locs (wT E a k b t x q u1 ++ wM E am (mm, kp, wa, (iv (ik)), fm, gf, tm, (iv (tn)), (iv (tk)), (iv (bg)), (iv (pt)), (iv (vl)), (iv (bd)), bt, sz, cl)) := h
  have h := sn_nil h
  refine lv_aload_n X.1 X.2.1 dL_law_905 rfl (lv_at hl 1 rfl) ?_
  refine n_wi h (run_Vn (rest := [.int (iv _)]) X h (c_X5_wipe  hM ) mi_X5_wipe ml_L_113 ⟨(Nat.le_of_ble_eq_true rfl), (Nat.le_of_ble_eq_true rfl)⟩ ⟨rfl, rfl⟩ (Seg.mk' _ _) 4 43 rfl rfl rfl rfl hl.1 rfl (Nat.le_of_ble_eq_true rfl) hcs dL_law_906) (fun _ => wM_map _ _ _ _) (fun r2 u2 H locs hp2 h => ?_)
  obtain ⟨rfl, hM1⟩ := hp2
  have h := sn_lin h
  exact lv_icmp_eq (tgt := 1291) X.1 X.2.1 dL_law_909 (by decide) (fun _ => kk _ _ _ _ _ h hC1 hM1) (fun z => absurd rfl z)
