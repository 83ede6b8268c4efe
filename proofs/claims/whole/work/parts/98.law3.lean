variable {p : Program} {l : Launch} {e : Env} {s : State} {m : MethodId} {args : Array Value} {below : List Frame} {meth : Method} {c : Code} {H : Heap} {locs : List Loc} {cells slots : Nat} {Q : State → Prop} {ls : Array Slot} {E : EV} {A0 : Nat → Prop} {b0 L : Nat} {xz : Nat → Int32} {a k b t x am : Nat → Nat} {q : Nat → Nat → Nat} {u : Tc} {v : Mc} {S : Sg} {i : Int}
set_option maxHeartbeats 4000000 in
theorem law_esplanade (X : Cx p s m meth c args RL cL_law 4 (some .boolean)) (hX : va_X b0 L xz s s.heap) (hbl : b0 < s.heap.size) (hbA : ¬ A0 b0) (hL : L ≤ 3072) (hcs : cells ≤ 600000 ∧ slots ≤ 7302250) (h : SN E A0 s H locs (wT E a k b t x q u ++ wM E am v)) (hC : RepC u S) (hM : RepM v S) (i0 : 0 ≤ i) (i1 : i + 6 ≤ L) (hl : lv_has ls 4 [(3, .int (iv (i))), (2, .ref (am 0)), (1, .ref (a 0)), (0, .ref (b0))])
    (kk : ∀ (H1 : Heap) (locs1 : List Loc) (u1 : Tc) (v1 : Mc) (S1 : Sg), SN E A0 s H1 locs1 (wT E a k b t x q u1 ++ wM E am v1) → RepC u1 S1 → RepM v1 S1 → W p l e room_1 s m args below meth c H1 locs1 cells slots Q (F0 m 1291 ls [])) : W p l e room_1 s m args below meth c H locs cells slots Q (F0 m 914 ls []) := by
  obtain ⟨A, K, ik, ph, tq, tn, bq, sq, cq⟩ := S
  obtain ⟨⟨v0, fd⟩, ⟨hk, nk, k1, k2, k3, k4, k5, k6, k7, k8, k9⟩, ⟨hb, nb, xs, xi, xk, xc, xl, xr, xb, yl, yr⟩, ⟨ht, nt, t1, t2, t3, t4, t5, t6, t7, t8, t9⟩, ⟨z0, e1, e2, e3, e4, tp⟩, ⟨w0, y0, c0⟩, ⟨w1, y1, c1⟩, ⟨w2, y2, c2⟩, ⟨w3, y3, c3⟩⟩ := u
  obtain ⟨mm, kp, wa, m4, fm, gf, tm, m8, m9, m10, m11, m12, m13, bt, sz, cl⟩ := v
  have z_ : v0 = iv (ik) := hC.2.1.1
  subst z_
  have z_ : hb = iv (hr A) := hC.1.1
  subst z_
  have z_ : nb = iv (pe A) := hC.1.2.1
  subst z_
  have z_ : z0 = iv (tn) := hC.2.2.2.1.1
  subst z_
  have z_ : w0 = iv (bq 0) := hC.2.2.2.2.2.1.1
  subst z_
  have z_ : y0 = iv (sq 0) := hC.2.2.2.2.2.1.2.1
  subst z_
  have z_ : w1 = iv (bq 1) := hC.2.2.2.2.2.2.1.1
  subst z_
  have z_ : y1 = iv (sq 1) := hC.2.2.2.2.2.2.1.2.1
  subst z_
  have z_ : w2 = iv (bq 2) := hC.2.2.2.2.2.2.2.1.1
  subst z_
  have z_ : y2 = iv (sq 2) := hC.2.2.2.2.2.2.2.1.2.1
  subst z_
  have z_ : w3 = iv (bq 3) := hC.2.2.2.2.2.2.2.2.1
  subst z_
  have z_ : y3 = iv (sq 3) := hC.2.2.2.2.2.2.2.2.2.1
  subst z_
  have z_ : m4 = iv (ik) := hM.2.1.1
  subst z_
  have z_ : m8 = iv (tn) := hM.2.2.2.1.1
  subst z_
  obtain ⟨tk, -, rfl⟩ := iv_ex m9
  obtain ⟨bg, -, rfl⟩ := iv_ex m10
  obtain ⟨pt, -, rfl⟩ := iv_ex m11
  obtain ⟨vl, -, rfl⟩ := iv_ex m12
  obtain ⟨bd, -, rfl⟩ := iv_ex m13
  have hC : RepC (((iv (ik)), fd), ((hk), (nk), (k1, k2, k3, k4, k5, k6, k7, k8, k9)), ((iv (hr A)), (iv (pe A)), (xs, xi, xk, xc, xl, xr, xb, yl, yr)), ((ht), (nt), (t1, t2, t3, t4, t5, t6, t7, t8, t9)), ((iv (tn)), (e1), (e2), (e3), (e4), tp), ((iv (bq 0)), (iv (sq 0)), c0), ((iv (bq 1)), (iv (sq 1)), c1), ((iv (bq 2)), (iv (sq 2)), c2), ((iv (bq 3)), (iv (sq 3)), c3)) (A, K, ik, ph, tq, tn, bq, sq, cq) := hC
  have hM : RepM (mm, kp, wa, (iv (ik)), fm, gf, tm, (iv (tn)), (iv (tk)), (iv (bg)), (iv (pt)), (iv (vl)), (iv (bd)), bt, sz, cl) (A, K, ik, ph, tq, tn, bq, sq, cq) := hM
  have h : SN E A0 s H locs ([] ++ ((wO E a k b t x q ((iv (ik))) fd ++ (wS E k ((hk)) ((nk)) (k1, k2, k3, k4, k5, k6, k7, k8, k9) ++ (wS E b ((iv (hr A))) ((iv (pe A))) (xs, xi, xk, xc, xl, xr, xb, yl, yr) ++ (wS E t ((ht)) ((nt)) (t1, t2, t3, t4, t5, t6, t7, t8, t9) ++ (wX E x ((iv (tn))) ((e1)) ((e2)) ((e3)) ((e4)) tp ++ (wH E (q 0) ((iv (bq 0))) ((iv (sq 0))) c0 ++ (wH E (q 1) ((iv (bq 1))) ((iv (sq 1))) c1 ++ (wH E (q 2) ((iv (bq 2))) ((iv (sq 2))) c2 ++ (wH E (q 3) ((iv (bq 3))) ((iv (sq 3))) c3 ++ []))))))))) ++ wM E am (mm, kp, wa, (iv (ik)), fm, gf, tm, (iv (tn)), (iv (tk)), (iv (bg)), (iv (pt)), (iv (vl)), (iv (bd)), bt, sz, cl))) := h
  refine lv_aload_n X.1 X.2.1 dL_law_914 rfl (lv_at hl 2 rfl) ?_
  refine n_wi h (run_Vn (rest := []) X h (c_X4_esplanade  hC ) mi_X4_esplanade ml_L_114 ⟨(Nat.le_of_ble_eq_true rfl), (Nat.le_of_ble_eq_true rfl)⟩ ⟨rfl, rfl⟩ (Seg.mk' _ _) 3 0 rfl rfl rfl rfl hl.1 rfl (Nat.le_of_ble_eq_true rfl) hcs dL_law_915) (fun _ => wT_map _ _ _ _ _ _ _ _ (((iv (ik)), fd), ((hk), (nk), (k1, k2, k3, k4, k5, k6, k7, k8, k9)), ((iv (hr A)), (iv (pe A)), (xs, xi, xk, xc, xl, xr, xb, yl, yr)), ((ht), (nt), (t1, t2, t3, t4, t5, t6, t7, t8, t9)), ((iv (tn)), (e1), (e2), (e3), (e4), tp), ((iv (bq 0)), (iv (sq 0)), c0), ((iv (bq 1)), (iv (sq 1)), c1), ((iv (bq 2)), (iv (sq 2)), c2), ((iv (bq 3)), (iv (sq 3)), c3))) (fun r1 u1 H locs hp1 h => ?_)
  obtain ⟨rfl, hC1⟩ := hp1
  have h : SN E A0 s H locs (wT E a k b t x q u1 ++ wM E am (mm, kp, wa, (iv (ik)), fm, gf, tm, (iv (tn)), (iv (tk)), (iv (bg)), (iv (pt)), (iv (vl)), (iv (bd)), bt, sz, cl)) := h
  have h := sn_nil h
  refine lv_aload_n X.1 X.2.1 dL_law_918 rfl (lv_at hl 1 rfl) ?_
  refine n_wi h (run_Vn (rest := [.int (iv _)]) X h (c_X5_esplanade hM.1.1 hM.1.2.1 (⟨hM.2.2.2.1.2.1, hM.2.2.2.1.2.2.1, hM.2.2.2.1.2.2.2⟩ : RT tm tq tn)) mi_X5_esplanade ml_L_117 ⟨(Nat.le_of_ble_eq_true rfl), (Nat.le_of_ble_eq_true rfl)⟩ ⟨rfl, rfl⟩ (Seg.mk' _ _) 4 43 rfl rfl rfl rfl hl.1 rfl (Nat.le_of_ble_eq_true rfl) hcs dL_law_919) (fun _ => wM_map _ _ _ _) (fun r2 u2 H locs hp2 h => ?_)
  obtain ⟨rfl, hq1, hq2, hq3⟩ := hp2
  have h := sn_lin h
  have hh9 : hr A ≤ 99999 := hM.1.2.2
  have hM1 : RepM (u2.1, kp, u2.2.1, (iv (ik)), fm, gf, tm, (iv (0)), (iv (u2.2.2.1)), (iv (u2.2.2.2.1)), (iv (u2.2.2.2.2.1)), (iv (u2.2.2.2.2.2.1)), (iv (u2.2.2.2.2.2.2)), bt, sz, cl) ((q_esp tq tn A).2, K, ik, ph, tq, 0, bq, sq, cq) := ⟨⟨hq1, hq2, (by rw [hq3]; exact hh9)⟩, hM.2.1, hM.2.2.1, ⟨rfl, (show (0 : Int) ≤ 0 by decide), (show (0 : Int) ≤ 120 by decide), fun i a b => absurd b (show ¬ i < 0 by omega)⟩, hM.2.2.2.2⟩
  exact lv_icmp_eq (tgt := 1291) X.1 X.2.1 dL_law_922 (by decide) (fun _ => kk _ _ _ _ _ h hC1 hM1) (fun z => absurd rfl z)

set_option maxHeartbeats 4000000 in
theorem law_sheet (X : Cx p s m meth c args RL cL_law 4 (some .boolean)) (hX : va_X b0 L xz s s.heap) (hbl : b0 < s.heap.size) (hbA : ¬ A0 b0) (hL : L ≤ 3072) (hcs : cells ≤ 600000 ∧ slots ≤ 7302250) (h : SN E A0 s H locs (wT E a k b t x q u ++ wM E am v)) (hC : RepC u S) (hM : RepM v S) (i0 : 0 ≤ i) (i1 : i + 6 ≤ L) (hl : lv_has ls 4 [(3, .int (iv (i))), (2, .ref (am 0)), (1, .ref (a 0)), (0, .ref (b0))])
    (kk : ∀ (H1 : Heap) (locs1 : List Loc) (u1 : Tc) (v1 : Mc) (S1 : Sg), SN E A0 s H1 locs1 (wT E a k b t x q u1 ++ wM E am v1) → RepC u1 S1 → RepM v1 S1 → W p l e room_1 s m args below meth c H1 locs1 cells slots Q (F0 m 1291 ls [])) : W p l e room_1 s m args below meth c H locs cells slots Q (F0 m 927 ls []) := by
  obtain ⟨A, K, ik, ph, tq, tn, bq, sq, cq⟩ := S
  obtain ⟨⟨v0, fd⟩, ⟨hk, nk, k1, k2, k3, k4, k5, k6, k7, k8, k9⟩, ⟨hb, nb, xs, xi, xk, xc, xl, xr, xb, yl, yr⟩, ⟨ht, nt, t1, t2, t3, t4, t5, t6, t7, t8, t9⟩, ⟨z0, e1, e2, e3, e4, tp⟩, ⟨w0, y0, c0⟩, ⟨w1, y1, c1⟩, ⟨w2, y2, c2⟩, ⟨w3, y3, c3⟩⟩ := u
  obtain ⟨mm, kp, wa, m4, fm, gf, tm, m8, m9, m10, m11, m12, m13, bt, sz, cl⟩ := v
  have z_ : v0 = iv (ik) := hC.2.1.1
  subst z_
  have z_ : hb = iv (hr A) := hC.1.1
  subst z_
  have z_ : nb = iv (pe A) := hC.1.2.1
  subst z_
  have z_ : z0 = iv (tn) := hC.2.2.2.1.1
  subst z_
  have z_ : w0 = iv (bq 0) := hC.2.2.2.2.2.1.1
  subst z_
  have z_ : y0 = iv (sq 0) := hC.2.2.2.2.2.1.2.1
  subst z_
  have z_ : w1 = iv (bq 1) := hC.2.2.2.2.2.2.1.1
  subst z_
  have z_ : y1 = iv (sq 1) := hC.2.2.2.2.2.2.1.2.1
  subst z_
  have z_ : w2 = iv (bq 2) := hC.2.2.2.2.2.2.2.1.1
  subst z_
  have z_ : y2 = iv (sq 2) := hC.2.2.2.2.2.2.2.1.2.1
  subst z_
  have z_ : w3 = iv (bq 3) := hC.2.2.2.2.2.2.2.2.1
  subst z_
  have z_ : y3 = iv (sq 3) := hC.2.2.2.2.2.2.2.2.2.1
  subst z_
  have z_ : m4 = iv (ik) := hM.2.1.1
  subst z_
  have z_ : m8 = iv (tn) := hM.2.2.2.1.1
  subst z_
  obtain ⟨tk, -, rfl⟩ := iv_ex m9
  obtain ⟨bg, -, rfl⟩ := iv_ex m10
  obtain ⟨pt, -, rfl⟩ := iv_ex m11
  obtain ⟨vl, -, rfl⟩ := iv_ex m12
  obtain ⟨bd, -, rfl⟩ := iv_ex m13
  have hC : RepC (((iv (ik)), fd), ((hk), (nk), (k1, k2, k3, k4, k5, k6, k7, k8, k9)), ((iv (hr A)), (iv (pe A)), (xs, xi, xk, xc, xl, xr, xb, yl, yr)), ((ht), (nt), (t1, t2, t3, t4, t5, t6, t7, t8, t9)), ((iv (tn)), (e1), (e2), (e3), (e4), tp), ((iv (bq 0)), (iv (sq 0)), c0), ((iv (bq 1)), (iv (sq 1)), c1), ((iv (bq 2)), (iv (sq 2)), c2), ((iv (bq 3)), (iv (sq 3)), c3)) (A, K, ik, ph, tq, tn, bq, sq, cq) := hC
  have hM : RepM (mm, kp, wa, (iv (ik)), fm, gf, tm, (iv (tn)), (iv (tk)), (iv (bg)), (iv (pt)), (iv (vl)), (iv (bd)), bt, sz, cl) (A, K, ik, ph, tq, tn, bq, sq, cq) := hM
  have h : SN E A0 s H locs ([] ++ ((wO E a k b t x q ((iv (ik))) fd ++ (wS E k ((hk)) ((nk)) (k1, k2, k3, k4, k5, k6, k7, k8, k9) ++ (wS E b ((iv (hr A))) ((iv (pe A))) (xs, xi, xk, xc, xl, xr, xb, yl, yr) ++ (wS E t ((ht)) ((nt)) (t1, t2, t3, t4, t5, t6, t7, t8, t9) ++ (wX E x ((iv (tn))) ((e1)) ((e2)) ((e3)) ((e4)) tp ++ (wH E (q 0) ((iv (bq 0))) ((iv (sq 0))) c0 ++ (wH E (q 1) ((iv (bq 1))) ((iv (sq 1))) c1 ++ (wH E (q 2) ((iv (bq 2))) ((iv (sq 2))) c2 ++ (wH E (q 3) ((iv (bq 3))) ((iv (sq 3))) c3 ++ []))))))))) ++ wM E am (mm, kp, wa, (iv (ik)), fm, gf, tm, (iv (tn)), (iv (tk)), (iv (bg)), (iv (pt)), (iv (vl)), (iv (bd)), bt, sz, cl))) := h
  refine lv_aload_n X.1 X.2.1 dL_law_927 rfl (lv_at hl 2 rfl) ?_
  refine lv_aload_n X.1 X.2.1 dL_law_928 rfl (lv_at hl 3 rfl) ?_
  refine lv_iload_n X.1 X.2.1 dL_law_929 rfl (lv_at hl 0 rfl) ?_
  refine z_iconst X dL_law_930 ?_
  refine z_iadd X dL_law_931 ?_
  refine l_sld X hX hbl hbA hL h (by omega) (by omega) dL_law_932 ?_
  refine lv_aload_n X.1 X.2.1 dL_law_933 rfl (lv_at hl 3 rfl) ?_
  refine lv_iload_n X.1 X.2.1 dL_law_934 rfl (lv_at hl 0 rfl) ?_
  refine z_iconst X dL_law_935 ?_
  refine z_iadd X dL_law_936 ?_
  refine l_sld X hX hbl hbA hL h (by omega) (by omega) dL_law_937 ?_
  refine lv_aload_n X.1 X.2.1 dL_law_938 rfl (lv_at hl 3 rfl) ?_
  refine lv_iload_n X.1 X.2.1 dL_law_939 rfl (lv_at hl 0 rfl) ?_
  refine z_iconst X dL_law_940 ?_
  refine z_iadd X dL_law_941 ?_
  refine l_sld X hX hbl hbA hL h (by omega) (by omega) dL_law_942 ?_
  refine n_wi h (run_Vn (rest := []) X h (c_X4_sheet (ps := sc xz (i + 1)) (pb := sc xz (i + 2)) (pn := sc xz (i + 3)) hC (r32_sc _ _) (r32_sc _ _) (r32_sc _ _)) mi_X4_sheet ml_L_118 ⟨(Nat.le_of_ble_eq_true rfl), (Nat.le_of_ble_eq_true rfl)⟩ ⟨rfl, rfl⟩ (Seg.mk' _ _) 3 0 rfl rfl rfl rfl hl.1 rfl (Nat.le_of_ble_eq_true rfl) hcs dL_law_943) (fun _ => wT_map _ _ _ _ _ _ _ _ (((iv (ik)), fd), ((hk), (nk), (k1, k2, k3, k4, k5, k6, k7, k8, k9)), ((iv (hr A)), (iv (pe A)), (xs, xi, xk, xc, xl, xr, xb, yl, yr)), ((ht), (nt), (t1, t2, t3, t4, t5, t6, t7, t8, t9)), ((iv (tn)), (e1), (e2), (e3), (e4), tp), ((iv (bq 0)), (iv (sq 0)), c0), ((iv (bq 1)), (iv (sq 1)), c1), ((iv (bq 2)), (iv (sq 2)), c2), ((iv (bq 3)), (iv (sq 3)), c3))) (fun r1 u1 H locs hp1 h => ?_)
  obtain ⟨rfl, hC1⟩ := hp1
  have h : SN E A0 s H locs (wT E a k b t x q u1 ++ wM E am (mm, kp, wa, (iv (ik)), fm, gf, tm, (iv (tn)), (iv (tk)), (iv (bg)), (iv (pt)), (iv (vl)), (iv (bd)), bt, sz, cl)) := h
  have h := sn_nil h
  refine lv_aload_n X.1 X.2.1 dL_law_946 rfl (lv_at hl 1 rfl) ?_
  refine lv_aload_n X.1 X.2.1 dL_law_947 rfl (lv_at hl 3 rfl) ?_
  refine lv_iload_n X.1 X.2.1 dL_law_948 rfl (lv_at hl 0 rfl) ?_
  refine z_iconst X dL_law_949 ?_
  refine z_iadd X dL_law_950 ?_
  refine l_sld X hX hbl hbA hL h (by omega) (by omega) dL_law_951 ?_
  refine lv_aload_n X.1 X.2.1 dL_law_952 rfl (lv_at hl 3 rfl) ?_
  refine lv_iload_n X.1 X.2.1 dL_law_953 rfl (lv_at hl 0 rfl) ?_
  refine z_iconst X dL_law_954 ?_
  refine z_iadd X dL_law_955 ?_
  refine l_sld X hX hbl hbA hL h (by omega) (by omega) dL_law_956 ?_
  refine lv_aload_n X.1 X.2.1 dL_law_957 rfl (lv_at hl 3 rfl) ?_
  refine lv_iload_n X.1 X.2.1 dL_law_958 rfl (lv_at hl 0 rfl) ?_
  refine z_iconst X dL_law_959 ?_
  refine z_iadd X dL_law_960 ?_
  refine l_sld X hX hbl hbA hL h (by omega) (by omega) dL_law_961 ?_
  refine n_wi h (run_Vn (rest := [.int (iv _)]) X h (c_X5_sheet (sh := sc xz (i + 1)) (b := sc xz (i + 2)) (n := sc xz (i + 3)) hM (r32_sc _ _) (r32_sc _ _) (r32_sc _ _)) mi_X5_sheet ml_L_121 ⟨(Nat.le_of_ble_eq_true rfl), (Nat.le_of_ble_eq_true rfl)⟩ ⟨rfl, rfl⟩ (Seg.mk' _ _) 4 43 rfl rfl rfl rfl hl.1 rfl (Nat.le_of_ble_eq_true rfl) hcs dL_law_962) (fun _ => wM_map _ _ _ _) (fun r2 u2 H locs hp2 h => ?_)
  obtain ⟨rfl, hM1⟩ := hp2
  have h := sn_lin h
  exact lv_icmp_eq (tgt := 1291) X.1 X.2.1 dL_law_965 (by decide) (fun _ => kk _ _ _ _ _ h hC1 hM1) (fun z => absurd rfl z)

set_option maxHeartbeats 4000000 in
theorem law_write (X : Cx p s m meth c args RL cL_law 4 (some .boolean)) (hX : va_X b0 L xz s s.heap) (hbl : b0 < s.heap.size) (hbA : ¬ A0 b0) (hL : L ≤ 3072) (hcs : cells ≤ 600000 ∧ slots ≤ 7302250) (h : SN E A0 s H locs (wT E a k b t x q u ++ wM E am v)) (hC : RepC u S) (hM : RepM v S) (i0 : 0 ≤ i) (i1 : i + 6 ≤ L) (hl : lv_has ls 4 [(3, .int (iv (i))), (2, .ref (am 0)), (1, .ref (a 0)), (0, .ref (b0))])
    (kk : ∀ (H1 : Heap) (locs1 : List Loc) (u1 : Tc) (v1 : Mc) (S1 : Sg), SN E A0 s H1 locs1 (wT E a k b t x q u1 ++ wM E am v1) → RepC u1 S1 → RepM v1 S1 → W p l e room_1 s m args below meth c H1 locs1 cells slots Q (F0 m 1291 ls [])) : W p l e room_1 s m args below meth c H locs cells slots Q (F0 m 970 ls []) := by
  obtain ⟨A, K, ik, ph, tq, tn, bq, sq, cq⟩ := S
  obtain ⟨⟨v0, fd⟩, ⟨hk, nk, k1, k2, k3, k4, k5, k6, k7, k8, k9⟩, ⟨hb, nb, xs, xi, xk, xc, xl, xr, xb, yl, yr⟩, ⟨ht, nt, t1, t2, t3, t4, t5, t6, t7, t8, t9⟩, ⟨z0, e1, e2, e3, e4, tp⟩, ⟨w0, y0, c0⟩, ⟨w1, y1, c1⟩, ⟨w2, y2, c2⟩, ⟨w3, y3, c3⟩⟩ := u
  obtain ⟨mm, kp, wa, m4, fm, gf, tm, m8, m9, m10, m11, m12, m13, bt, sz, cl⟩ := v
  have z_ : v0 = iv (ik) := hC.2.1.1
  subst z_
  have z_ : hb = iv (hr A) := hC.1.1
  subst z_
  have z_ : nb = iv (pe A) := hC.1.2.1
  subst z_
  have z_ : z0 = iv (tn) := hC.2.2.2.1.1
  subst z_
  have z_ : w0 = iv (bq 0) := hC.2.2.2.2.2.1.1
  subst z_
  have z_ : y0 = iv (sq 0) := hC.2.2.2.2.2.1.2.1
  subst z_
  have z_ : w1 = iv (bq 1) := hC.2.2.2.2.2.2.1.1
  subst z_
  have z_ : y1 = iv (sq 1) := hC.2.2.2.2.2.2.1.2.1
  subst z_
  have z_ : w2 = iv (bq 2) := hC.2.2.2.2.2.2.2.1.1
  subst z_
  have z_ : y2 = iv (sq 2) := hC.2.2.2.2.2.2.2.1.2.1
  subst z_
  have z_ : w3 = iv (bq 3) := hC.2.2.2.2.2.2.2.2.1
  subst z_
  have z_ : y3 = iv (sq 3) := hC.2.2.2.2.2.2.2.2.2.1
  subst z_
  have z_ : m4 = iv (ik) := hM.2.1.1
  subst z_
  have z_ : m8 = iv (tn) := hM.2.2.2.1.1
  subst z_
  obtain ⟨tk, -, rfl⟩ := iv_ex m9
  obtain ⟨bg, -, rfl⟩ := iv_ex m10
  obtain ⟨pt, -, rfl⟩ := iv_ex m11
  obtain ⟨vl, -, rfl⟩ := iv_ex m12
  obtain ⟨bd, -, rfl⟩ := iv_ex m13
  have hC : RepC (((iv (ik)), fd), ((hk), (nk), (k1, k2, k3, k4, k5, k6, k7, k8, k9)), ((iv (hr A)), (iv (pe A)), (xs, xi, xk, xc, xl, xr, xb, yl, yr)), ((ht), (nt), (t1, t2, t3, t4, t5, t6, t7, t8, t9)), ((iv (tn)), (e1), (e2), (e3), (e4), tp), ((iv (bq 0)), (iv (sq 0)), c0), ((iv (bq 1)), (iv (sq 1)), c1), ((iv (bq 2)), (iv (sq 2)), c2), ((iv (bq 3)), (iv (sq 3)), c3)) (A, K, ik, ph, tq, tn, bq, sq, cq) := hC
  have hM : RepM (mm, kp, wa, (iv (ik)), fm, gf, tm, (iv (tn)), (iv (tk)), (iv (bg)), (iv (pt)), (iv (vl)), (iv (bd)), bt, sz, cl) (A, K, ik, ph, tq, tn, bq, sq, cq) := hM
  have h : SN E A0 s H locs ([] ++ ((wO E a k b t x q ((iv (ik))) fd ++ (wS E k ((hk)) ((nk)) (k1, k2, k3, k4, k5, k6, k7, k8, k9) ++ (wS E b ((iv (hr A))) ((iv (pe A))) (xs, xi, xk, xc, xl, xr, xb, yl, yr) ++ (wS E t ((ht)) ((nt)) (t1, t2, t3, t4, t5, t6, t7, t8, t9) ++ (wX E x ((iv (tn))) ((e1)) ((e2)) ((e3)) ((e4)) tp ++ (wH E (q 0) ((iv (bq 0))) ((iv (sq 0))) c0 ++ (wH E (q 1) ((iv (bq 1))) ((iv (sq 1))) c1 ++ (wH E (q 2) ((iv (bq 2))) ((iv (sq 2))) c2 ++ (wH E (q 3) ((iv (bq 3))) ((iv (sq 3))) c3 ++ []))))))))) ++ wM E am (mm, kp, wa, (iv (ik)), fm, gf, tm, (iv (tn)), (iv (tk)), (iv (bg)), (iv (pt)), (iv (vl)), (iv (bd)), bt, sz, cl))) := h
  refine lv_aload_n X.1 X.2.1 dL_law_970 rfl (lv_at hl 2 rfl) ?_
  refine lv_aload_n X.1 X.2.1 dL_law_971 rfl (lv_at hl 3 rfl) ?_
  refine lv_iload_n X.1 X.2.1 dL_law_972 rfl (lv_at hl 0 rfl) ?_
  refine z_iconst X dL_law_973 ?_
  refine z_iadd X dL_law_974 ?_
  refine l_sld X hX hbl hbA hL h (by omega) (by omega) dL_law_975 ?_
  refine lv_aload_n X.1 X.2.1 dL_law_976 rfl (lv_at hl 3 rfl) ?_
  refine lv_iload_n X.1 X.2.1 dL_law_977 rfl (lv_at hl 0 rfl) ?_
  refine z_iconst X dL_law_978 ?_
  refine z_iadd X dL_law_979 ?_
  refine l_sld X hX hbl hbA hL h (by omega) (by omega) dL_law_980 ?_
  refine lv_aload_n X.1 X.2.1 dL_law_981 rfl (lv_at hl 3 rfl) ?_
  refine lv_iload_n X.1 X.2.1 dL_law_982 rfl (lv_at hl 0 rfl) ?_
  refine z_iconst X dL_law_983 ?_
  refine z_iadd X dL_law_984 ?_
  refine l_sld X hX hbl hbA hL h (by omega) (by omega) dL_law_985 ?_
  refine lv_i2l (v := (iv (sc xz (i + 3))).toInt64) X.1 X.2.1 dL_law_986 rfl ?_
  refine z_bipush X (by decide) dL_law_987 ?_
  refine lv_lshl (v := ((iv (sc xz (i + 3))).toInt64) <<< ((iv (32)).toInt64 &&& 63)) X.1 X.2.1 dL_law_989 rfl ?_
  refine lv_aload_n X.1 X.2.1 dL_law_990 rfl (lv_at hl 3 rfl) ?_
  refine lv_iload_n X.1 X.2.1 dL_law_991 rfl (lv_at hl 0 rfl) ?_
  refine z_iconst X dL_law_992 ?_
  refine z_iadd X dL_law_993 ?_
  refine l_sld X hX hbl hbA hL h (by omega) (by omega) dL_law_994 ?_
  refine lv_i2l (v := (iv (sc xz (i + 4))).toInt64) X.1 X.2.1 dL_law_995 rfl ?_
  refine lv_ldc2 (v := 4294967295) X.1 X.2.1 X.2.2.2.1 (X.2.2.2.2.1 _ ct_L_122) dL_law_996 ?_
  refine lv_land X.1 X.2.1 dL_law_999 ?_
  refine lv_lor X.1 X.2.1 dL_law_1000 ?_
  refine n_wl h (run_Vn (rest := []) X h (c_X4_write (ps := sc xz (i + 1)) (pi := sc xz (i + 2)) (pv := (((iv (sc xz (i + 3))).toInt64) <<< ((iv (32)).toInt64 &&& 63)) ||| (((iv (sc xz (i + 4))).toInt64) &&& (4294967295))) hC (r32_sc _ _) (r32_sc _ _)) mi_X4_write ml_L_124 ⟨(Nat.le_of_ble_eq_true rfl), (Nat.le_of_ble_eq_true rfl)⟩ ⟨rfl, rfl⟩ (Seg.mk' _ _) 3 0 rfl rfl rfl rfl hl.1 rfl (Nat.le_of_ble_eq_true rfl) hcs dL_law_1001) (fun _ => wT_map _ _ _ _ _ _ _ _ (((iv (ik)), fd), ((hk), (nk), (k1, k2, k3, k4, k5, k6, k7, k8, k9)), ((iv (hr A)), (iv (pe A)), (xs, xi, xk, xc, xl, xr, xb, yl, yr)), ((ht), (nt), (t1, t2, t3, t4, t5, t6, t7, t8, t9)), ((iv (tn)), (e1), (e2), (e3), (e4), tp), ((iv (bq 0)), (iv (sq 0)), c0), ((iv (bq 1)), (iv (sq 1)), c1), ((iv (bq 2)), (iv (sq 2)), c2), ((iv (bq 3)), (iv (sq 3)), c3))) (fun r1 u1 H locs hp1 h => ?_)
  obtain ⟨rfl, hC1⟩ := hp1
  have h : SN E A0 s H locs (wT E a k b t x q u1 ++ wM E am (mm, kp, wa, (iv (ik)), fm, gf, tm, (iv (tn)), (iv (tk)), (iv (bg)), (iv (pt)), (iv (vl)), (iv (bd)), bt, sz, cl)) := h
  have h := sn_nil h
  refine lv_aload_n X.1 X.2.1 dL_law_1004 rfl (lv_at hl 1 rfl) ?_
  refine lv_aload_n X.1 X.2.1 dL_law_1005 rfl (lv_at hl 3 rfl) ?_
  refine lv_iload_n X.1 X.2.1 dL_law_1006 rfl (lv_at hl 0 rfl) ?_
  refine z_iconst X dL_law_1007 ?_
  refine z_iadd X dL_law_1008 ?_
  refine l_sld X hX hbl hbA hL h (by omega) (by omega) dL_law_1009 ?_
  refine lv_aload_n X.1 X.2.1 dL_law_1010 rfl (lv_at hl 3 rfl) ?_
  refine lv_iload_n X.1 X.2.1 dL_law_1011 rfl (lv_at hl 0 rfl) ?_
  refine z_iconst X dL_law_1012 ?_
  refine z_iadd X dL_law_1013 ?_
  refine l_sld X hX hbl hbA hL h (by omega) (by omega) dL_law_1014 ?_
  refine lv_aload_n X.1 X.2.1 dL_law_1015 rfl (lv_at hl 3 rfl) ?_
  refine lv_iload_n X.1 X.2.1 dL_law_1016 rfl (lv_at hl 0 rfl) ?_
  refine z_iconst X dL_law_1017 ?_
  refine z_iadd X dL_law_1018 ?_
  refine l_sld X hX hbl hbA hL h (by omega) (by omega) dL_law_1019 ?_
  refine lv_i2l (v := (iv (sc xz (i + 3))).toInt64) X.1 X.2.1 dL_law_1020 rfl ?_
  refine z_bipush X (by decide) dL_law_1021 ?_
  refine lv_lshl (v := ((iv (sc xz (i + 3))).toInt64) <<< ((iv (32)).toInt64 &&& 63)) X.1 X.2.1 dL_law_1023 rfl ?_
  refine lv_aload_n X.1 X.2.1 dL_law_1024 rfl (lv_at hl 3 rfl) ?_
  refine lv_iload_n X.1 X.2.1 dL_law_1025 rfl (lv_at hl 0 rfl) ?_
  refine z_iconst X dL_law_1026 ?_
  refine z_iadd X dL_law_1027 ?_
  refine l_sld X hX hbl hbA hL h (by omega) (by omega) dL_law_1028 ?_
  refine lv_i2l (v := (iv (sc xz (i + 4))).toInt64) X.1 X.2.1 dL_law_1029 rfl ?_
  refine lv_ldc2 (v := 4294967295) X.1 X.2.1 X.2.2.2.1 (X.2.2.2.2.1 _ ct_L_122) dL_law_1030 ?_
  refine lv_land X.1 X.2.1 dL_law_1033 ?_
  refine lv_lor X.1 X.2.1 dL_law_1034 ?_
  refine n_wl h (run_Vn (rest := [.long _]) X h (c_X5_write (sh := sc xz (i + 1)) (i := sc xz (i + 2)) (v := (((iv (sc xz (i + 3))).toInt64) <<< ((iv (32)).toInt64 &&& 63)) ||| (((iv (sc xz (i + 4))).toInt64) &&& (4294967295))) hM (r32_sc _ _) (r32_sc _ _)) mi_X5_write ml_L_128 ⟨(Nat.le_of_ble_eq_true rfl), (Nat.le_of_ble_eq_true rfl)⟩ ⟨rfl, rfl⟩ (Seg.mk' _ _) 4 43 rfl rfl rfl rfl hl.1 rfl (Nat.le_of_ble_eq_true rfl) hcs dL_law_1035) (fun _ => wM_map _ _ _ _) (fun r2 u2 H locs hp2 h => ?_)
  obtain ⟨rfl, hM1⟩ := hp2
  have h := sn_lin h
  refine z_lcmp X rfl rfl dL_law_1038 ?_
  exact z_ifc_eq (tgt := 1291) X dL_law_1039 (by decide) (fun _ => kk _ _ _ _ _ h hC1 hM1) (fun z => absurd rfl z)

set_option maxHeartbeats 4000000 in
theorem law_copy (X : Cx p s m meth c args RL cL_law 4 (some .boolean)) (hX : va_X b0 L xz s s.heap) (hbl : b0 < s.heap.size) (hbA : ¬ A0 b0) (hL : L ≤ 3072) (hcs : cells ≤ 600000 ∧ slots ≤ 7302250) (h : SN E A0 s H locs (wT E a k b t x q u ++ wM E am v)) (hC : RepC u S) (hM : RepM v S) (i0 : 0 ≤ i) (i1 : i + 6 ≤ L) (hl : lv_has ls 4 [(3, .int (iv (i))), (2, .ref (am 0)), (1, .ref (a 0)), (0, .ref (b0))])
    (kk : ∀ (H1 : Heap) (locs1 : List Loc) (u1 : Tc) (v1 : Mc) (S1 : Sg), SN E A0 s H1 locs1 (wT E a k b t x q u1 ++ wM E am v1) → RepC u1 S1 → RepM v1 S1 → W p l e room_1 s m args below meth c H1 locs1 cells slots Q (F0 m 1291 ls [])) : W p l e room_1 s m args below meth c H locs cells slots Q (F0 m 1044 ls []) := by
  obtain ⟨A, K, ik, ph, tq, tn, bq, sq, cq⟩ := S
  obtain ⟨⟨v0, fd⟩, ⟨hk, nk, k1, k2, k3, k4, k5, k6, k7, k8, k9⟩, ⟨hb, nb, xs, xi, xk, xc, xl, xr, xb, yl, yr⟩, ⟨ht, nt, t1, t2, t3, t4, t5, t6, t7, t8, t9⟩, ⟨z0, e1, e2, e3, e4, tp⟩, ⟨w0, y0, c0⟩, ⟨w1, y1, c1⟩, ⟨w2, y2, c2⟩, ⟨w3, y3, c3⟩⟩ := u
  obtain ⟨mm, kp, wa, m4, fm, gf, tm, m8, m9, m10, m11, m12, m13, bt, sz, cl⟩ := v
  have z_ : v0 = iv (ik) := hC.2.1.1
  subst z_
  have z_ : hb = iv (hr A) := hC.1.1
  subst z_
  have z_ : nb = iv (pe A) := hC.1.2.1
  subst z_
  have z_ : z0 = iv (tn) := hC.2.2.2.1.1
  subst z_
  have z_ : w0 = iv (bq 0) := hC.2.2.2.2.2.1.1
  subst z_
  have z_ : y0 = iv (sq 0) := hC.2.2.2.2.2.1.2.1
  subst z_
  have z_ : w1 = iv (bq 1) := hC.2.2.2.2.2.2.1.1
  subst z_
  have z_ : y1 = iv (sq 1) := hC.2.2.2.2.2.2.1.2.1
  subst z_
  have z_ : w2 = iv (bq 2) := hC.2.2.2.2.2.2.2.1.1
  subst z_
  have z_ : y2 = iv (sq 2) := hC.2.2.2.2.2.2.2.1.2.1
  subst z_
  have z_ : w3 = iv (bq 3) := hC.2.2.2.2.2.2.2.2.1
  subst z_
  have z_ : y3 = iv (sq 3) := hC.2.2.2.2.2.2.2.2.2.1
  subst z_
  have z_ : m4 = iv (ik) := hM.2.1.1
  subst z_
  have z_ : m8 = iv (tn) := hM.2.2.2.1.1
  subst z_
  obtain ⟨tk, -, rfl⟩ := iv_ex m9
  obtain ⟨bg, -, rfl⟩ := iv_ex m10
  obtain ⟨pt, -, rfl⟩ := iv_ex m11
  obtain ⟨vl, -, rfl⟩ := iv_ex m12
  obtain ⟨bd, -, rfl⟩ := iv_ex m13
  have hC : RepC (((iv (ik)), fd), ((hk), (nk), (k1, k2, k3, k4, k5, k6, k7, k8, k9)), ((iv (hr A)), (iv (pe A)), (xs, xi, xk, xc, xl, xr, xb, yl, yr)), ((ht), (nt), (t1, t2, t3, t4, t5, t6, t7, t8, t9)), ((iv (tn)), (e1), (e2), (e3), (e4), tp), ((iv (bq 0)), (iv (sq 0)), c0), ((iv (bq 1)), (iv (sq 1)), c1), ((iv (bq 2)), (iv (sq 2)), c2), ((iv (bq 3)), (iv (sq 3)), c3)) (A, K, ik, ph, tq, tn, bq, sq, cq) := hC
  have hM : RepM (mm, kp, wa, (iv (ik)), fm, gf, tm, (iv (tn)), (iv (tk)), (iv (bg)), (iv (pt)), (iv (vl)), (iv (bd)), bt, sz, cl) (A, K, ik, ph, tq, tn, bq, sq, cq) := hM
  have h : SN E A0 s H locs ([] ++ ((wO E a k b t x q ((iv (ik))) fd ++ (wS E k ((hk)) ((nk)) (k1, k2, k3, k4, k5, k6, k7, k8, k9) ++ (wS E b ((iv (hr A))) ((iv (pe A))) (xs, xi, xk, xc, xl, xr, xb, yl, yr) ++ (wS E t ((ht)) ((nt)) (t1, t2, t3, t4, t5, t6, t7, t8, t9) ++ (wX E x ((iv (tn))) ((e1)) ((e2)) ((e3)) ((e4)) tp ++ (wH E (q 0) ((iv (bq 0))) ((iv (sq 0))) c0 ++ (wH E (q 1) ((iv (bq 1))) ((iv (sq 1))) c1 ++ (wH E (q 2) ((iv (bq 2))) ((iv (sq 2))) c2 ++ (wH E (q 3) ((iv (bq 3))) ((iv (sq 3))) c3 ++ []))))))))) ++ wM E am (mm, kp, wa, (iv (ik)), fm, gf, tm, (iv (tn)), (iv (tk)), (iv (bg)), (iv (pt)), (iv (vl)), (iv (bd)), bt, sz, cl))) := h
  refine lv_aload_n X.1 X.2.1 dL_law_1044 rfl (lv_at hl 2 rfl) ?_
  refine lv_aload_n X.1 X.2.1 dL_law_1045 rfl (lv_at hl 3 rfl) ?_
  refine lv_iload_n X.1 X.2.1 dL_law_1046 rfl (lv_at hl 0 rfl) ?_
  refine z_iconst X dL_law_1047 ?_
  refine z_iadd X dL_law_1048 ?_
  refine l_sld X hX hbl hbA hL h (by omega) (by omega) dL_law_1049 ?_
  refine lv_aload_n X.1 X.2.1 dL_law_1050 rfl (lv_at hl 3 rfl) ?_
  refine lv_iload_n X.1 X.2.1 dL_law_1051 rfl (lv_at hl 0 rfl) ?_
  refine z_iconst X dL_law_1052 ?_
  refine z_iadd X dL_law_1053 ?_
  refine l_sld X hX hbl hbA hL h (by omega) (by omega) dL_law_1054 ?_
  refine lv_aload_n X.1 X.2.1 dL_law_1055 rfl (lv_at hl 3 rfl) ?_
  refine lv_iload_n X.1 X.2.1 dL_law_1056 rfl (lv_at hl 0 rfl) ?_
  refine z_iconst X dL_law_1057 ?_
  refine z_iadd X dL_law_1058 ?_
  refine l_sld X hX hbl hbA hL h (by omega) (by omega) dL_law_1059 ?_
  refine lv_aload_n X.1 X.2.1 dL_law_1060 rfl (lv_at hl 3 rfl) ?_
  refine lv_iload_n X.1 X.2.1 dL_law_1061 rfl (lv_at hl 0 rfl) ?_
  refine z_iconst X dL_law_1062 ?_
  refine z_iadd X dL_law_1063 ?_
  refine l_sld X hX hbl hbA hL h (by omega) (by omega) dL_law_1064 ?_
  refine lv_aload_n X.1 X.2.1 dL_law_1065 rfl (lv_at hl 3 rfl) ?_
  refine lv_iload_n X.1 X.2.1 dL_law_1066 rfl (lv_at hl 0 rfl) ?_
  refine z_iconst X dL_law_1067 ?_
  refine z_iadd X dL_law_1068 ?_
  refine l_sld X hX hbl hbA hL h (by omega) (by omega) dL_law_1069 ?_
  refine n_wi h (run_Vn (rest := []) X h (c_X4_copy (ps := sc xz (i + 1)) (pf := sc xz (i + 2)) (pt := sc xz (i + 3)) (po := sc xz (i + 4)) (pn := sc xz (i + 5)) hC (r32_sc _ _) (r32_sc _ _) (r32_sc _ _) (r32_sc _ _) (r32_sc _ _)) mi_X4_copy ml_L_129 ⟨(Nat.le_of_ble_eq_true rfl), (Nat.le_of_ble_eq_true rfl)⟩ ⟨rfl, rfl⟩ (Seg.mk' _ _) 3 0 rfl rfl rfl rfl hl.1 rfl (Nat.le_of_ble_eq_true rfl) hcs dL_law_1070) (fun _ => wT_map _ _ _ _ _ _ _ _ (((iv (ik)), fd), ((hk), (nk), (k1, k2, k3, k4, k5, k6, k7, k8, k9)), ((iv (hr A)), (iv (pe A)), (xs, xi, xk, xc, xl, xr, xb, yl, yr)), ((ht), (nt), (t1, t2, t3, t4, t5, t6, t7, t8, t9)), ((iv (tn)), (e1), (e2), (e3), (e4), tp), ((iv (bq 0)), (iv (sq 0)), c0), ((iv (bq 1)), (iv (sq 1)), c1), ((iv (bq 2)), (iv (sq 2)), c2), ((iv (bq 3)), (iv (sq 3)), c3))) (fun r1 u1 H locs hp1 h => ?_)
  obtain ⟨rfl, hC1⟩ := hp1
  have h : SN E A0 s H locs (wT E a k b t x q u1 ++ wM E am (mm, kp, wa, (iv (ik)), fm, gf, tm, (iv (tn)), (iv (tk)), (iv (bg)), (iv (pt)), (iv (vl)), (iv (bd)), bt, sz, cl)) := h
  have h := sn_nil h
  refine lv_aload_n X.1 X.2.1 dL_law_1073 rfl (lv_at hl 1 rfl) ?_
  refine lv_aload_n X.1 X.2.1 dL_law_1074 rfl (lv_at hl 3 rfl) ?_
  refine lv_iload_n X.1 X.2.1 dL_law_1075 rfl (lv_at hl 0 rfl) ?_
  refine z_iconst X dL_law_1076 ?_
  refine z_iadd X dL_law_1077 ?_
  refine l_sld X hX hbl hbA hL h (by omega) (by omega) dL_law_1078 ?_
  refine lv_aload_n X.1 X.2.1 dL_law_1079 rfl (lv_at hl 3 rfl) ?_
  refine lv_iload_n X.1 X.2.1 dL_law_1080 rfl (lv_at hl 0 rfl) ?_
  refine z_iconst X dL_law_1081 ?_
  refine z_iadd X dL_law_1082 ?_
  refine l_sld X hX hbl hbA hL h (by omega) (by omega) dL_law_1083 ?_
  refine lv_aload_n X.1 X.2.1 dL_law_1084 rfl (lv_at hl 3 rfl) ?_
  refine lv_iload_n X.1 X.2.1 dL_law_1085 rfl (lv_at hl 0 rfl) ?_
  refine z_iconst X dL_law_1086 ?_
  refine z_iadd X dL_law_1087 ?_
  refine l_sld X hX hbl hbA hL h (by omega) (by omega) dL_law_1088 ?_
  refine lv_aload_n X.1 X.2.1 dL_law_1089 rfl (lv_at hl 3 rfl) ?_
  refine lv_iload_n X.1 X.2.1 dL_law_1090 rfl (lv_at hl 0 rfl) ?_
  refine z_iconst X dL_law_1091 ?_
  refine z_iadd X dL_law_1092 ?_
  refine l_sld X hX hbl hbA hL h (by omega) (by omega) dL_law_1093 ?_
  refine lv_aload_n X.1 X.2.1 dL_law_1094 rfl (lv_at hl 3 rfl) ?_
  refine lv_iload_n X.1 X.2.1 dL_law_1095 rfl (lv_at hl 0 rfl) ?_
  refine z_iconst X dL_law_1096 ?_
  refine z_iadd X dL_law_1097 ?_
  refine l_sld X hX hbl hbA hL h (by omega) (by omega) dL_law_1098 ?_
  refine n_wi h (run_Vn (rest := [.int (iv _)]) X h (c_X5_copy (sh := sc xz (i + 1)) (fr := sc xz (i + 2)) (th := sc xz (i + 3)) (to := sc xz (i + 4)) (n := sc xz (i + 5)) hM (r32_sc _ _) (r32_sc _ _) (r32_sc _ _) (r32_sc _ _) (r32_sc _ _)) mi_X5_copy ml_L_133 ⟨(Nat.le_of_ble_eq_true rfl), (Nat.le_of_ble_eq_true rfl)⟩ ⟨rfl, rfl⟩ (Seg.mk' _ _) 4 43 rfl rfl rfl rfl hl.1 rfl (Nat.le_of_ble_eq_true rfl) hcs dL_law_1099) (fun _ => wM_map _ _ _ _) (fun r2 u2 H locs hp2 h => ?_)
  obtain ⟨rfl, hM1⟩ := hp2
  have h := sn_lin h
  exact lv_icmp_eq (tgt := 1291) X.1 X.2.1 dL_law_1102 (by decide) (fun _ => kk _ _ _ _ _ h hC1 hM1) (fun z => absurd rfl z)

set_option maxHeartbeats 4000000 in
theorem law_lays (X : Cx p s m meth c args RL cL_law 4 (some .boolean)) (hX : va_X b0 L xz s s.heap) (hbl : b0 < s.heap.size) (hbA : ¬ A0 b0) (hL : L ≤ 3072) (hcs : cells ≤ 600000 ∧ slots ≤ 7302250) (h : SN E A0 s H locs (wT E a k b t x q u ++ wM E am v)) (hC : RepC u S) (hM : RepM v S) (i0 : 0 ≤ i) (i1 : i + 6 ≤ L) (hl : lv_has ls 4 [(3, .int (iv (i))), (2, .ref (am 0)), (1, .ref (a 0)), (0, .ref (b0))])
    (kk : ∀ (H1 : Heap) (locs1 : List Loc) (u1 : Tc) (v1 : Mc) (S1 : Sg), SN E A0 s H1 locs1 (wT E a k b t x q u1 ++ wM E am v1) → RepC u1 S1 → RepM v1 S1 → W p l e room_1 s m args below meth c H1 locs1 cells slots Q (F0 m 1291 ls [])) : W p l e room_1 s m args below meth c H locs cells slots Q (F0 m 1107 ls []) := by
  obtain ⟨A, K, ik, ph, tq, tn, bq, sq, cq⟩ := S
  obtain ⟨⟨v0, fd⟩, ⟨hk, nk, k1, k2, k3, k4, k5, k6, k7, k8, k9⟩, ⟨hb, nb, xs, xi, xk, xc, xl, xr, xb, yl, yr⟩, ⟨ht, nt, t1, t2, t3, t4, t5, t6, t7, t8, t9⟩, ⟨z0, e1, e2, e3, e4, tp⟩, ⟨w0, y0, c0⟩, ⟨w1, y1, c1⟩, ⟨w2, y2, c2⟩, ⟨w3, y3, c3⟩⟩ := u
  obtain ⟨mm, kp, wa, m4, fm, gf, tm, m8, m9, m10, m11, m12, m13, bt, sz, cl⟩ := v
  have z_ : v0 = iv (ik) := hC.2.1.1
  subst z_
  have z_ : hb = iv (hr A) := hC.1.1
  subst z_
  have z_ : nb = iv (pe A) := hC.1.2.1
  subst z_
  have z_ : z0 = iv (tn) := hC.2.2.2.1.1
  subst z_
  have z_ : w0 = iv (bq 0) := hC.2.2.2.2.2.1.1
  subst z_
  have z_ : y0 = iv (sq 0) := hC.2.2.2.2.2.1.2.1
  subst z_
  have z_ : w1 = iv (bq 1) := hC.2.2.2.2.2.2.1.1
  subst z_
  have z_ : y1 = iv (sq 1) := hC.2.2.2.2.2.2.1.2.1
  subst z_
  have z_ : w2 = iv (bq 2) := hC.2.2.2.2.2.2.2.1.1
  subst z_
  have z_ : y2 = iv (sq 2) := hC.2.2.2.2.2.2.2.1.2.1
  subst z_
  have z_ : w3 = iv (bq 3) := hC.2.2.2.2.2.2.2.2.1
  subst z_
  have z_ : y3 = iv (sq 3) := hC.2.2.2.2.2.2.2.2.2.1
  subst z_
  have z_ : m4 = iv (ik) := hM.2.1.1
  subst z_
  have z_ : m8 = iv (tn) := hM.2.2.2.1.1
  subst z_
  obtain ⟨tk, -, rfl⟩ := iv_ex m9
  obtain ⟨bg, -, rfl⟩ := iv_ex m10
  obtain ⟨pt, -, rfl⟩ := iv_ex m11
  obtain ⟨vl, -, rfl⟩ := iv_ex m12
  obtain ⟨bd, -, rfl⟩ := iv_ex m13
  have hC : RepC (((iv (ik)), fd), ((hk), (nk), (k1, k2, k3, k4, k5, k6, k7, k8, k9)), ((iv (hr A)), (iv (pe A)), (xs, xi, xk, xc, xl, xr, xb, yl, yr)), ((ht), (nt), (t1, t2, t3, t4, t5, t6, t7, t8, t9)), ((iv (tn)), (e1), (e2), (e3), (e4), tp), ((iv (bq 0)), (iv (sq 0)), c0), ((iv (bq 1)), (iv (sq 1)), c1), ((iv (bq 2)), (iv (sq 2)), c2), ((iv (bq 3)), (iv (sq 3)), c3)) (A, K, ik, ph, tq, tn, bq, sq, cq) := hC
  have hM : RepM (mm, kp, wa, (iv (ik)), fm, gf, tm, (iv (tn)), (iv (tk)), (iv (bg)), (iv (pt)), (iv (vl)), (iv (bd)), bt, sz, cl) (A, K, ik, ph, tq, tn, bq, sq, cq) := hM
  have h : SN E A0 s H locs ([] ++ ((wO E a k b t x q ((iv (ik))) fd ++ (wS E k ((hk)) ((nk)) (k1, k2, k3, k4, k5, k6, k7, k8, k9) ++ (wS E b ((iv (hr A))) ((iv (pe A))) (xs, xi, xk, xc, xl, xr, xb, yl, yr) ++ (wS E t ((ht)) ((nt)) (t1, t2, t3, t4, t5, t6, t7, t8, t9) ++ (wX E x ((iv (tn))) ((e1)) ((e2)) ((e3)) ((e4)) tp ++ (wH E (q 0) ((iv (bq 0))) ((iv (sq 0))) c0 ++ (wH E (q 1) ((iv (bq 1))) ((iv (sq 1))) c1 ++ (wH E (q 2) ((iv (bq 2))) ((iv (sq 2))) c2 ++ (wH E (q 3) ((iv (bq 3))) ((iv (sq 3))) c3 ++ []))))))))) ++ wM E am (mm, kp, wa, (iv (ik)), fm, gf, tm, (iv (tn)), (iv (tk)), (iv (bg)), (iv (pt)), (iv (vl)), (iv (bd)), bt, sz, cl))) := h
  refine lv_aload_n X.1 X.2.1 dL_law_1107 rfl (lv_at hl 2 rfl) ?_
  refine lv_aload_n X.1 X.2.1 dL_law_1108 rfl (lv_at hl 3 rfl) ?_
  refine lv_iload_n X.1 X.2.1 dL_law_1109 rfl (lv_at hl 0 rfl) ?_
  refine z_iconst X dL_law_1110 ?_
  refine z_iadd X dL_law_1111 ?_
  refine l_sld X hX hbl hbA hL h (by omega) (by omega) dL_law_1112 ?_
  refine n_wi h (run_Vn (rest := []) X h (c_X4_lays (ps := sc xz (i + 1)) hC (r32_sc _ _)) mi_X4_lays ml_L_134 ⟨(Nat.le_of_ble_eq_true rfl), (Nat.le_of_ble_eq_true rfl)⟩ ⟨rfl, rfl⟩ (Seg.mk' _ _) 3 0 rfl rfl rfl rfl hl.1 rfl (Nat.le_of_ble_eq_true rfl) hcs dL_law_1113) (fun _ => wT_map _ _ _ _ _ _ _ _ (((iv (ik)), fd), ((hk), (nk), (k1, k2, k3, k4, k5, k6, k7, k8, k9)), ((iv (hr A)), (iv (pe A)), (xs, xi, xk, xc, xl, xr, xb, yl, yr)), ((ht), (nt), (t1, t2, t3, t4, t5, t6, t7, t8, t9)), ((iv (tn)), (e1), (e2), (e3), (e4), tp), ((iv (bq 0)), (iv (sq 0)), c0), ((iv (bq 1)), (iv (sq 1)), c1), ((iv (bq 2)), (iv (sq 2)), c2), ((iv (bq 3)), (iv (sq 3)), c3))) (fun r1 u1 H locs hp1 h => ?_)
  obtain ⟨rfl, hC1⟩ := hp1
  have h : SN E A0 s H locs (wT E a k b t x q u1 ++ wM E am (mm, kp, wa, (iv (ik)), fm, gf, tm, (iv (tn)), (iv (tk)), (iv (bg)), (iv (pt)), (iv (vl)), (iv (bd)), bt, sz, cl)) := h
  have h := sn_nil h
  refine lv_aload_n X.1 X.2.1 dL_law_1116 rfl (lv_at hl 1 rfl) ?_
  refine lv_aload_n X.1 X.2.1 dL_law_1117 rfl (lv_at hl 3 rfl) ?_
  refine lv_iload_n X.1 X.2.1 dL_law_1118 rfl (lv_at hl 0 rfl) ?_
  refine z_iconst X dL_law_1119 ?_
  refine z_iadd X dL_law_1120 ?_
  refine l_sld X hX hbl hbA hL h (by omega) (by omega) dL_law_1121 ?_
  refine n_wi h (run_Vn (rest := [.int (iv _)]) X h (c_X5_lays (sh := sc xz (i + 1)) hM (r32_sc _ _)) mi_X5_lays ml_L_137 ⟨(Nat.le_of_ble_eq_true rfl), (Nat.le_of_ble_eq_true rfl)⟩ ⟨rfl, rfl⟩ (Seg.mk' _ _) 4 43 rfl rfl rfl rfl hl.1 rfl (Nat.le_of_ble_eq_true rfl) hcs dL_law_1122) (fun _ => wM_map _ _ _ _) (fun r2 u2 H locs hp2 h => ?_)
  obtain ⟨rfl, hM1⟩ := hp2
  have h := sn_lin h
  exact lv_icmp_eq (tgt := 1291) X.1 X.2.1 dL_law_1125 (by decide) (fun _ => kk _ _ _ _ _ h hC1 hM1) (fun z => absurd rfl z)

set_option maxHeartbeats 4000000 in
theorem law_book (X : Cx p s m meth c args RL cL_law 4 (some .boolean)) (hX : va_X b0 L xz s s.heap) (hbl : b0 < s.heap.size) (hbA : ¬ A0 b0) (hL : L ≤ 3072) (hcs : cells ≤ 600000 ∧ slots ≤ 7302250) (h : SN E A0 s H locs (wT E a k b t x q u ++ wM E am v)) (hC : RepC u S) (hM : RepM v S) (i0 : 0 ≤ i) (i1 : i + 6 ≤ L) (hl : lv_has ls 4 [(3, .int (iv (i))), (2, .ref (am 0)), (1, .ref (a 0)), (0, .ref (b0))])
    (kk : ∀ (H1 : Heap) (locs1 : List Loc) (u1 : Tc) (v1 : Mc) (S1 : Sg), SN E A0 s H1 locs1 (wT E a k b t x q u1 ++ wM E am v1) → RepC u1 S1 → RepM v1 S1 → W p l e room_1 s m args below meth c H1 locs1 cells slots Q (F0 m 1291 ls [])) : W p l e room_1 s m args below meth c H locs cells slots Q (F0 m 1130 ls []) := by
  obtain ⟨A, K, ik, ph, tq, tn, bq, sq, cq⟩ := S
  obtain ⟨⟨v0, fd⟩, ⟨hk, nk, k1, k2, k3, k4, k5, k6, k7, k8, k9⟩, ⟨hb, nb, xs, xi, xk, xc, xl, xr, xb, yl, yr⟩, ⟨ht, nt, t1, t2, t3, t4, t5, t6, t7, t8, t9⟩, ⟨z0, e1, e2, e3, e4, tp⟩, ⟨w0, y0, c0⟩, ⟨w1, y1, c1⟩, ⟨w2, y2, c2⟩, ⟨w3, y3, c3⟩⟩ := u
  obtain ⟨mm, kp, wa, m4, fm, gf, tm, m8, m9, m10, m11, m12, m13, bt, sz, cl⟩ := v
  have z_ : v0 = iv (ik) := hC.2.1.1
  subst z_
  have z_ : hb = iv (hr A) := hC.1.1
  subst z_
  have z_ : nb = iv (pe A) := hC.1.2.1
  subst z_
  have z_ : z0 = iv (tn) := hC.2.2.2.1.1
  subst z_
  have z_ : w0 = iv (bq 0) := hC.2.2.2.2.2.1.1
  subst z_
  have z_ : y0 = iv (sq 0) := hC.2.2.2.2.2.1.2.1
  subst z_
  have z_ : w1 = iv (bq 1) := hC.2.2.2.2.2.2.1.1
  subst z_
  have z_ : y1 = iv (sq 1) := hC.2.2.2.2.2.2.1.2.1
  subst z_
  have z_ : w2 = iv (bq 2) := hC.2.2.2.2.2.2.2.1.1
  subst z_
  have z_ : y2 = iv (sq 2) := hC.2.2.2.2.2.2.2.1.2.1
  subst z_
  have z_ : w3 = iv (bq 3) := hC.2.2.2.2.2.2.2.2.1
  subst z_
  have z_ : y3 = iv (sq 3) := hC.2.2.2.2.2.2.2.2.2.1
  subst z_
  have z_ : m4 = iv (ik) := hM.2.1.1
  subst z_
  have z_ : m8 = iv (tn) := hM.2.2.2.1.1
  subst z_
  obtain ⟨tk, -, rfl⟩ := iv_ex m9
  obtain ⟨bg, -, rfl⟩ := iv_ex m10
  obtain ⟨pt, -, rfl⟩ := iv_ex m11
  obtain ⟨vl, -, rfl⟩ := iv_ex m12
  obtain ⟨bd, -, rfl⟩ := iv_ex m13
  have hC : RepC (((iv (ik)), fd), ((hk), (nk), (k1, k2, k3, k4, k5, k6, k7, k8, k9)), ((iv (hr A)), (iv (pe A)), (xs, xi, xk, xc, xl, xr, xb, yl, yr)), ((ht), (nt), (t1, t2, t3, t4, t5, t6, t7, t8, t9)), ((iv (tn)), (e1), (e2), (e3), (e4), tp), ((iv (bq 0)), (iv (sq 0)), c0), ((iv (bq 1)), (iv (sq 1)), c1), ((iv (bq 2)), (iv (sq 2)), c2), ((iv (bq 3)), (iv (sq 3)), c3)) (A, K, ik, ph, tq, tn, bq, sq, cq) := hC
  have hM : RepM (mm, kp, wa, (iv (ik)), fm, gf, tm, (iv (tn)), (iv (tk)), (iv (bg)), (iv (pt)), (iv (vl)), (iv (bd)), bt, sz, cl) (A, K, ik, ph, tq, tn, bq, sq, cq) := hM
  have h : SN E A0 s H locs ([] ++ ((wO E a k b t x q ((iv (ik))) fd ++ (wS E k ((hk)) ((nk)) (k1, k2, k3, k4, k5, k6, k7, k8, k9) ++ (wS E b ((iv (hr A))) ((iv (pe A))) (xs, xi, xk, xc, xl, xr, xb, yl, yr) ++ (wS E t ((ht)) ((nt)) (t1, t2, t3, t4, t5, t6, t7, t8, t9) ++ (wX E x ((iv (tn))) ((e1)) ((e2)) ((e3)) ((e4)) tp ++ (wH E (q 0) ((iv (bq 0))) ((iv (sq 0))) c0 ++ (wH E (q 1) ((iv (bq 1))) ((iv (sq 1))) c1 ++ (wH E (q 2) ((iv (bq 2))) ((iv (sq 2))) c2 ++ (wH E (q 3) ((iv (bq 3))) ((iv (sq 3))) c3 ++ []))))))))) ++ wM E am (mm, kp, wa, (iv (ik)), fm, gf, tm, (iv (tn)), (iv (tk)), (iv (bg)), (iv (pt)), (iv (vl)), (iv (bd)), bt, sz, cl))) := h
  refine lv_aload_n X.1 X.2.1 dL_law_1130 rfl (lv_at hl 2 rfl) ?_
  refine lv_aload_n X.1 X.2.1 dL_law_1131 rfl (lv_at hl 3 rfl) ?_
  refine lv_iload_n X.1 X.2.1 dL_law_1132 rfl (lv_at hl 0 rfl) ?_
  refine z_iconst X dL_law_1133 ?_
  refine z_iadd X dL_law_1134 ?_
  refine l_sld X hX hbl hbA hL h (by omega) (by omega) dL_law_1135 ?_
  refine lv_aload_n X.1 X.2.1 dL_law_1136 rfl (lv_at hl 3 rfl) ?_
  refine lv_iload_n X.1 X.2.1 dL_law_1137 rfl (lv_at hl 0 rfl) ?_
  refine z_iconst X dL_law_1138 ?_
  refine z_iadd X dL_law_1139 ?_
  refine l_sld X hX hbl hbA hL h (by omega) (by omega) dL_law_1140 ?_
  refine n_wi h (run_Vn (rest := []) X h (c_X4_book (ps := sc xz (i + 1)) (pz := sc xz (i + 2)) hC (r32_sc _ _) (r32_sc _ _)) mi_X4_book ml_L_138 ⟨(Nat.le_of_ble_eq_true rfl), (Nat.le_of_ble_eq_true rfl)⟩ ⟨rfl, rfl⟩ (Seg.mk' _ _) 3 0 rfl rfl rfl rfl hl.1 rfl (Nat.le_of_ble_eq_true rfl) hcs dL_law_1141) (fun _ => wT_map _ _ _ _ _ _ _ _ (((iv (ik)), fd), ((hk), (nk), (k1, k2, k3, k4, k5, k6, k7, k8, k9)), ((iv (hr A)), (iv (pe A)), (xs, xi, xk, xc, xl, xr, xb, yl, yr)), ((ht), (nt), (t1, t2, t3, t4, t5, t6, t7, t8, t9)), ((iv (tn)), (e1), (e2), (e3), (e4), tp), ((iv (bq 0)), (iv (sq 0)), c0), ((iv (bq 1)), (iv (sq 1)), c1), ((iv (bq 2)), (iv (sq 2)), c2), ((iv (bq 3)), (iv (sq 3)), c3))) (fun r1 u1 H locs hp1 h => ?_)
  obtain ⟨rfl, hC1⟩ := hp1
  have h : SN E A0 s H locs (wT E a k b t x q u1 ++ wM E am (mm, kp, wa, (iv (ik)), fm, gf, tm, (iv (tn)), (iv (tk)), (iv (bg)), (iv (pt)), (iv (vl)), (iv (bd)), bt, sz, cl)) := h
  have h := sn_nil h
  refine lv_aload_n X.1 X.2.1 dL_law_1144 rfl (lv_at hl 1 rfl) ?_
  refine lv_aload_n X.1 X.2.1 dL_law_1145 rfl (lv_at hl 3 rfl) ?_
  refine lv_iload_n X.1 X.2.1 dL_law_1146 rfl (lv_at hl 0 rfl) ?_
  refine z_iconst X dL_law_1147 ?_
  refine z_iadd X dL_law_1148 ?_
  refine l_sld X hX hbl hbA hL h (by omega) (by omega) dL_law_1149 ?_
  refine lv_aload_n X.1 X.2.1 dL_law_1150 rfl (lv_at hl 3 rfl) ?_
  refine lv_iload_n X.1 X.2.1 dL_law_1151 rfl (lv_at hl 0 rfl) ?_
  refine z_iconst X dL_law_1152 ?_
  refine z_iadd X dL_law_1153 ?_
  refine l_sld X hX hbl hbA hL h (by omega) (by omega) dL_law_1154 ?_
  refine n_wi h (run_Vn (rest := [.int (iv _)]) X h (c_X5_book (sh := sc xz (i + 1)) (p := sc xz (i + 2)) hM (r32_sc _ _) (r32_sc _ _)) mi_X5_book ml_L_141 ⟨(Nat.le_of_ble_eq_true rfl), (Nat.le_of_ble_eq_true rfl)⟩ ⟨rfl, rfl⟩ (Seg.mk' _ _) 4 43 rfl rfl rfl rfl hl.1 rfl (Nat.le_of_ble_eq_true rfl) hcs dL_law_1155) (fun _ => wM_map _ _ _ _) (fun r2 u2 H locs hp2 h => ?_)
  obtain ⟨rfl, hM1⟩ := hp2
  have h := sn_lin h
  exact lv_icmp_eq (tgt := 1291) X.1 X.2.1 dL_law_1158 (by decide) (fun _ => kk _ _ _ _ _ h hC1 hM1) (fun z => absurd rfl z)

set_option maxHeartbeats 4000000 in
theorem law_read (X : Cx p s m meth c args RL cL_law 4 (some .boolean)) (hX : va_X b0 L xz s s.heap) (hbl : b0 < s.heap.size) (hbA : ¬ A0 b0) (hL : L ≤ 3072) (hcs : cells ≤ 600000 ∧ slots ≤ 7302250) (h : SN E A0 s H locs (wT E a k b t x q u ++ wM E am v)) (hC : RepC u S) (hM : RepM v S) (i0 : 0 ≤ i) (i1 : i + 6 ≤ L) (hl : lv_has ls 4 [(3, .int (iv (i))), (2, .ref (am 0)), (1, .ref (a 0)), (0, .ref (b0))])
    (kk : ∀ (H1 : Heap) (locs1 : List Loc) (u1 : Tc) (v1 : Mc) (S1 : Sg), SN E A0 s H1 locs1 (wT E a k b t x q u1 ++ wM E am v1) → RepC u1 S1 → RepM v1 S1 → W p l e room_1 s m args below meth c H1 locs1 cells slots Q (F0 m 1291 ls [])) : W p l e room_1 s m args below meth c H locs cells slots Q (F0 m 1163 ls []) := by
  obtain ⟨A, K, ik, ph, tq, tn, bq, sq, cq⟩ := S
  obtain ⟨⟨v0, fd⟩, ⟨hk, nk, k1, k2, k3, k4, k5, k6, k7, k8, k9⟩, ⟨hb, nb, xs, xi, xk, xc, xl, xr, xb, yl, yr⟩, ⟨ht, nt, t1, t2, t3, t4, t5, t6, t7, t8, t9⟩, ⟨z0, e1, e2, e3, e4, tp⟩, ⟨w0, y0, c0⟩, ⟨w1, y1, c1⟩, ⟨w2, y2, c2⟩, ⟨w3, y3, c3⟩⟩ := u
  obtain ⟨mm, kp, wa, m4, fm, gf, tm, m8, m9, m10, m11, m12, m13, bt, sz, cl⟩ := v
  have z_ : v0 = iv (ik) := hC.2.1.1
  subst z_
  have z_ : hb = iv (hr A) := hC.1.1
  subst z_
  have z_ : nb = iv (pe A) := hC.1.2.1
  subst z_
  have z_ : z0 = iv (tn) := hC.2.2.2.1.1
  subst z_
  have z_ : w0 = iv (bq 0) := hC.2.2.2.2.2.1.1
  subst z_
  have z_ : y0 = iv (sq 0) := hC.2.2.2.2.2.1.2.1
  subst z_
  have z_ : w1 = iv (bq 1) := hC.2.2.2.2.2.2.1.1
  subst z_
  have z_ : y1 = iv (sq 1) := hC.2.2.2.2.2.2.1.2.1
  subst z_
  have z_ : w2 = iv (bq 2) := hC.2.2.2.2.2.2.2.1.1
  subst z_
  have z_ : y2 = iv (sq 2) := hC.2.2.2.2.2.2.2.1.2.1
  subst z_
  have z_ : w3 = iv (bq 3) := hC.2.2.2.2.2.2.2.2.1
  subst z_
  have z_ : y3 = iv (sq 3) := hC.2.2.2.2.2.2.2.2.2.1
  subst z_
  have z_ : m4 = iv (ik) := hM.2.1.1
  subst z_
  have z_ : m8 = iv (tn) := hM.2.2.2.1.1
  subst z_
  obtain ⟨tk, -, rfl⟩ := iv_ex m9
  obtain ⟨bg, -, rfl⟩ := iv_ex m10
  obtain ⟨pt, -, rfl⟩ := iv_ex m11
  obtain ⟨vl, -, rfl⟩ := iv_ex m12
  obtain ⟨bd, -, rfl⟩ := iv_ex m13
  have hC : RepC (((iv (ik)), fd), ((hk), (nk), (k1, k2, k3, k4, k5, k6, k7, k8, k9)), ((iv (hr A)), (iv (pe A)), (xs, xi, xk, xc, xl, xr, xb, yl, yr)), ((ht), (nt), (t1, t2, t3, t4, t5, t6, t7, t8, t9)), ((iv (tn)), (e1), (e2), (e3), (e4), tp), ((iv (bq 0)), (iv (sq 0)), c0), ((iv (bq 1)), (iv (sq 1)), c1), ((iv (bq 2)), (iv (sq 2)), c2), ((iv (bq 3)), (iv (sq 3)), c3)) (A, K, ik, ph, tq, tn, bq, sq, cq) := hC
  have hM : RepM (mm, kp, wa, (iv (ik)), fm, gf, tm, (iv (tn)), (iv (tk)), (iv (bg)), (iv (pt)), (iv (vl)), (iv (bd)), bt, sz, cl) (A, K, ik, ph, tq, tn, bq, sq, cq) := hM
  have h : SN E A0 s H locs ([] ++ ((wO E a k b t x q ((iv (ik))) fd ++ (wS E k ((hk)) ((nk)) (k1, k2, k3, k4, k5, k6, k7, k8, k9) ++ (wS E b ((iv (hr A))) ((iv (pe A))) (xs, xi, xk, xc, xl, xr, xb, yl, yr) ++ (wS E t ((ht)) ((nt)) (t1, t2, t3, t4, t5, t6, t7, t8, t9) ++ (wX E x ((iv (tn))) ((e1)) ((e2)) ((e3)) ((e4)) tp ++ (wH E (q 0) ((iv (bq 0))) ((iv (sq 0))) c0 ++ (wH E (q 1) ((iv (bq 1))) ((iv (sq 1))) c1 ++ (wH E (q 2) ((iv (bq 2))) ((iv (sq 2))) c2 ++ (wH E (q 3) ((iv (bq 3))) ((iv (sq 3))) c3 ++ []))))))))) ++ wM E am (mm, kp, wa, (iv (ik)), fm, gf, tm, (iv (tn)), (iv (tk)), (iv (bg)), (iv (pt)), (iv (vl)), (iv (bd)), bt, sz, cl))) := h
  refine lv_aload_n X.1 X.2.1 dL_law_1163 rfl (lv_at hl 2 rfl) ?_
  refine lv_aload_n X.1 X.2.1 dL_law_1164 rfl (lv_at hl 3 rfl) ?_
  refine lv_iload_n X.1 X.2.1 dL_law_1165 rfl (lv_at hl 0 rfl) ?_
  refine z_iconst X dL_law_1166 ?_
  refine z_iadd X dL_law_1167 ?_
  refine l_sld X hX hbl hbA hL h (by omega) (by omega) dL_law_1168 ?_
  refine lv_aload_n X.1 X.2.1 dL_law_1169 rfl (lv_at hl 3 rfl) ?_
  refine lv_iload_n X.1 X.2.1 dL_law_1170 rfl (lv_at hl 0 rfl) ?_
  refine z_iconst X dL_law_1171 ?_
  refine z_iadd X dL_law_1172 ?_
  refine l_sld X hX hbl hbA hL h (by omega) (by omega) dL_law_1173 ?_
  refine lv_aload_n X.1 X.2.1 dL_law_1174 rfl (lv_at hl 3 rfl) ?_
  refine lv_iload_n X.1 X.2.1 dL_law_1175 rfl (lv_at hl 0 rfl) ?_
  refine z_iconst X dL_law_1176 ?_
  refine z_iadd X dL_law_1177 ?_
  refine l_sld X hX hbl hbA hL h (by omega) (by omega) dL_law_1178 ?_
  refine n_wi h (run_Vn (rest := []) X h (c_X4_read (ps := sc xz (i + 1)) (px := sc xz (i + 2)) (po := sc xz (i + 3)) hC (r32_sc _ _) (r32_sc _ _) (r32_sc _ _)) mi_X4_read ml_L_142 ⟨(Nat.le_of_ble_eq_true rfl), (Nat.le_of_ble_eq_true rfl)⟩ ⟨rfl, rfl⟩ (Seg.mk' _ _) 3 0 rfl rfl rfl rfl hl.1 rfl (Nat.le_of_ble_eq_true rfl) hcs dL_law_1179) (fun _ => wT_map _ _ _ _ _ _ _ _ (((iv (ik)), fd), ((hk), (nk), (k1, k2, k3, k4, k5, k6, k7, k8, k9)), ((iv (hr A)), (iv (pe A)), (xs, xi, xk, xc, xl, xr, xb, yl, yr)), ((ht), (nt), (t1, t2, t3, t4, t5, t6, t7, t8, t9)), ((iv (tn)), (e1), (e2), (e3), (e4), tp), ((iv (bq 0)), (iv (sq 0)), c0), ((iv (bq 1)), (iv (sq 1)), c1), ((iv (bq 2)), (iv (sq 2)), c2), ((iv (bq 3)), (iv (sq 3)), c3))) (fun r1 u1 H locs hp1 h => ?_)
  obtain ⟨rfl, hC1⟩ := hp1
  have h : SN E A0 s H locs (wT E a k b t x q u1 ++ wM E am (mm, kp, wa, (iv (ik)), fm, gf, tm, (iv (tn)), (iv (tk)), (iv (bg)), (iv (pt)), (iv (vl)), (iv (bd)), bt, sz, cl)) := h
  have h := sn_nil h
  refine lv_aload_n X.1 X.2.1 dL_law_1182 rfl (lv_at hl 1 rfl) ?_
  refine lv_aload_n X.1 X.2.1 dL_law_1183 rfl (lv_at hl 3 rfl) ?_
  refine lv_iload_n X.1 X.2.1 dL_law_1184 rfl (lv_at hl 0 rfl) ?_
  refine z_iconst X dL_law_1185 ?_
  refine z_iadd X dL_law_1186 ?_
  refine l_sld X hX hbl hbA hL h (by omega) (by omega) dL_law_1187 ?_
  refine lv_aload_n X.1 X.2.1 dL_law_1188 rfl (lv_at hl 3 rfl) ?_
  refine lv_iload_n X.1 X.2.1 dL_law_1189 rfl (lv_at hl 0 rfl) ?_
  refine z_iconst X dL_law_1190 ?_
  refine z_iadd X dL_law_1191 ?_
  refine l_sld X hX hbl hbA hL h (by omega) (by omega) dL_law_1192 ?_
  refine lv_aload_n X.1 X.2.1 dL_law_1193 rfl (lv_at hl 3 rfl) ?_
  refine lv_iload_n X.1 X.2.1 dL_law_1194 rfl (lv_at hl 0 rfl) ?_
  refine z_iconst X dL_law_1195 ?_
  refine z_iadd X dL_law_1196 ?_
  refine l_sld X hX hbl hbA hL h (by omega) (by omega) dL_law_1197 ?_
  refine n_wi h (run_Vn (rest := [.int (iv _)]) X h (c_X5_read (sh := sc xz (i + 1)) (x := sc xz (i + 2)) (o := sc xz (i + 3)) hM (r32_sc _ _) (r32_sc _ _) (r32_sc _ _)) mi_X5_read ml_L_145 ⟨(Nat.le_of_ble_eq_true rfl), (Nat.le_of_ble_eq_true rfl)⟩ ⟨rfl, rfl⟩ (Seg.mk' _ _) 4 43 rfl rfl rfl rfl hl.1 rfl (Nat.le_of_ble_eq_true rfl) hcs dL_law_1198) (fun _ => wM_map _ _ _ _) (fun r2 u2 H locs hp2 h => ?_)
  obtain ⟨rfl, hM1⟩ := hp2
  have h := sn_lin h
  exact lv_icmp_eq (tgt := 1291) X.1 X.2.1 dL_law_1201 (by decide) (fun _ => kk _ _ _ _ _ h hC1 hM1) (fun z => absurd rfl z)

set_option maxHeartbeats 4000000 in
theorem law_image (X : Cx p s m meth c args RL cL_law 4 (some .boolean)) (hX : va_X b0 L xz s s.heap) (hbl : b0 < s.heap.size) (hbA : ¬ A0 b0) (hL : L ≤ 3072) (hcs : cells ≤ 600000 ∧ slots ≤ 7302250) (h : SN E A0 s H locs (wT E a k b t x q u ++ wM E am v)) (hC : RepC u S) (hM : RepM v S) (i0 : 0 ≤ i) (i1 : i + 6 ≤ L) (hl : lv_has ls 4 [(3, .int (iv (i))), (2, .ref (am 0)), (1, .ref (a 0)), (0, .ref (b0))])
    (kk : ∀ (H1 : Heap) (locs1 : List Loc) (u1 : Tc) (v1 : Mc) (S1 : Sg), SN E A0 s H1 locs1 (wT E a k b t x q u1 ++ wM E am v1) → RepC u1 S1 → RepM v1 S1 → W p l e room_1 s m args below meth c H1 locs1 cells slots Q (F0 m 1291 ls [])) : W p l e room_1 s m args below meth c H locs cells slots Q (F0 m 1206 ls []) := by
  obtain ⟨A, K, ik, ph, tq, tn, bq, sq, cq⟩ := S
  obtain ⟨⟨v0, fd⟩, ⟨hk, nk, k1, k2, k3, k4, k5, k6, k7, k8, k9⟩, ⟨hb, nb, xs, xi, xk, xc, xl, xr, xb, yl, yr⟩, ⟨ht, nt, t1, t2, t3, t4, t5, t6, t7, t8, t9⟩, ⟨z0, e1, e2, e3, e4, tp⟩, ⟨w0, y0, c0⟩, ⟨w1, y1, c1⟩, ⟨w2, y2, c2⟩, ⟨w3, y3, c3⟩⟩ := u
  obtain ⟨mm, kp, wa, m4, fm, gf, tm, m8, m9, m10, m11, m12, m13, bt, sz, cl⟩ := v
  have z_ : v0 = iv (ik) := hC.2.1.1
  subst z_
  have z_ : hb = iv (hr A) := hC.1.1
  subst z_
  have z_ : nb = iv (pe A) := hC.1.2.1
  subst z_
  have z_ : z0 = iv (tn) := hC.2.2.2.1.1
  subst z_
  have z_ : w0 = iv (bq 0) := hC.2.2.2.2.2.1.1
  subst z_
  have z_ : y0 = iv (sq 0) := hC.2.2.2.2.2.1.2.1
  subst z_
  have z_ : w1 = iv (bq 1) := hC.2.2.2.2.2.2.1.1
  subst z_
  have z_ : y1 = iv (sq 1) := hC.2.2.2.2.2.2.1.2.1
  subst z_
  have z_ : w2 = iv (bq 2) := hC.2.2.2.2.2.2.2.1.1
  subst z_
  have z_ : y2 = iv (sq 2) := hC.2.2.2.2.2.2.2.1.2.1
  subst z_
  have z_ : w3 = iv (bq 3) := hC.2.2.2.2.2.2.2.2.1
  subst z_
  have z_ : y3 = iv (sq 3) := hC.2.2.2.2.2.2.2.2.2.1
  subst z_
  have z_ : m4 = iv (ik) := hM.2.1.1
  subst z_
  have z_ : m8 = iv (tn) := hM.2.2.2.1.1
  subst z_
  obtain ⟨tk, -, rfl⟩ := iv_ex m9
  obtain ⟨bg, -, rfl⟩ := iv_ex m10
  obtain ⟨pt, -, rfl⟩ := iv_ex m11
  obtain ⟨vl, -, rfl⟩ := iv_ex m12
  obtain ⟨bd, -, rfl⟩ := iv_ex m13
  have hC : RepC (((iv (ik)), fd), ((hk), (nk), (k1, k2, k3, k4, k5, k6, k7, k8, k9)), ((iv (hr A)), (iv (pe A)), (xs, xi, xk, xc, xl, xr, xb, yl, yr)), ((ht), (nt), (t1, t2, t3, t4, t5, t6, t7, t8, t9)), ((iv (tn)), (e1), (e2), (e3), (e4), tp), ((iv (bq 0)), (iv (sq 0)), c0), ((iv (bq 1)), (iv (sq 1)), c1), ((iv (bq 2)), (iv (sq 2)), c2), ((iv (bq 3)), (iv (sq 3)), c3)) (A, K, ik, ph, tq, tn, bq, sq, cq) := hC
  have hM : RepM (mm, kp, wa, (iv (ik)), fm, gf, tm, (iv (tn)), (iv (tk)), (iv (bg)), (iv (pt)), (iv (vl)), (iv (bd)), bt, sz, cl) (A, K, ik, ph, tq, tn, bq, sq, cq) := hM
  have h : SN E A0 s H locs ([] ++ ((wO E a k b t x q ((iv (ik))) fd ++ (wS E k ((hk)) ((nk)) (k1, k2, k3, k4, k5, k6, k7, k8, k9) ++ (wS E b ((iv (hr A))) ((iv (pe A))) (xs, xi, xk, xc, xl, xr, xb, yl, yr) ++ (wS E t ((ht)) ((nt)) (t1, t2, t3, t4, t5, t6, t7, t8, t9) ++ (wX E x ((iv (tn))) ((e1)) ((e2)) ((e3)) ((e4)) tp ++ (wH E (q 0) ((iv (bq 0))) ((iv (sq 0))) c0 ++ (wH E (q 1) ((iv (bq 1))) ((iv (sq 1))) c1 ++ (wH E (q 2) ((iv (bq 2))) ((iv (sq 2))) c2 ++ (wH E (q 3) ((iv (bq 3))) ((iv (sq 3))) c3 ++ []))))))))) ++ wM E am (mm, kp, wa, (iv (ik)), fm, gf, tm, (iv (tn)), (iv (tk)), (iv (bg)), (iv (pt)), (iv (vl)), (iv (bd)), bt, sz, cl))) := h
  refine lv_aload_n X.1 X.2.1 dL_law_1206 rfl (lv_at hl 2 rfl) ?_
  refine n_wi h (run_Vn (rest := []) X h (c_X4_image  hC ) mi_X4_image ml_L_146 ⟨(Nat.le_of_ble_eq_true rfl), (Nat.le_of_ble_eq_true rfl)⟩ ⟨rfl, rfl⟩ (Seg.mk' _ _) 3 0 rfl rfl rfl rfl hl.1 rfl (Nat.le_of_ble_eq_true rfl) hcs dL_law_1207) (fun _ => wT_map _ _ _ _ _ _ _ _ (((iv (ik)), fd), ((hk), (nk), (k1, k2, k3, k4, k5, k6, k7, k8, k9)), ((iv (hr A)), (iv (pe A)), (xs, xi, xk, xc, xl, xr, xb, yl, yr)), ((ht), (nt), (t1, t2, t3, t4, t5, t6, t7, t8, t9)), ((iv (tn)), (e1), (e2), (e3), (e4), tp), ((iv (bq 0)), (iv (sq 0)), c0), ((iv (bq 1)), (iv (sq 1)), c1), ((iv (bq 2)), (iv (sq 2)), c2), ((iv (bq 3)), (iv (sq 3)), c3))) (fun r1 u1 H locs hp1 h => ?_)
  obtain ⟨rfl, hC1⟩ := hp1
  have h : SN E A0 s H locs (wT E a k b t x q u1 ++ wM E am (mm, kp, wa, (iv (ik)), fm, gf, tm, (iv (tn)), (iv (tk)), (iv (bg)), (iv (pt)), (iv (vl)), (iv (bd)), bt, sz, cl)) := h
  have h := sn_nil h
  refine lv_aload_n X.1 X.2.1 dL_law_1210 rfl (lv_at hl 1 rfl) ?_
  refine n_wi h (run_Vn (rest := [.int (iv _)]) X h (c_X5_image  hM ) mi_X5_image ml_L_149 ⟨(Nat.le_of_ble_eq_true rfl), (Nat.le_of_ble_eq_true rfl)⟩ ⟨rfl, rfl⟩ (Seg.mk' _ _) 4 43 rfl rfl rfl rfl hl.1 rfl (Nat.le_of_ble_eq_true rfl) hcs dL_law_1211) (fun _ => wM_map _ _ _ _) (fun r2 u2 H locs hp2 h => ?_)
  obtain ⟨rfl, hM1⟩ := hp2
  have h := sn_lin h
  exact lv_icmp_eq (tgt := 1291) X.1 X.2.1 dL_law_1214 (by decide) (fun _ => kk _ _ _ _ _ h hC1 hM1) (fun z => absurd rfl z)

set_option maxHeartbeats 4000000 in
theorem law_undo (X : Cx p s m meth c args RL cL_law 4 (some .boolean)) (hX : va_X b0 L xz s s.heap) (hbl : b0 < s.heap.size) (hbA : ¬ A0 b0) (hL : L ≤ 3072) (hcs : cells ≤ 600000 ∧ slots ≤ 7302250) (h : SN E A0 s H locs (wT E a k b t x q u ++ wM E am v)) (hC : RepC u S) (hM : RepM v S) (i0 : 0 ≤ i) (i1 : i + 6 ≤ L) (hl : lv_has ls 4 [(3, .int (iv (i))), (2, .ref (am 0)), (1, .ref (a 0)), (0, .ref (b0))])
    (kk : ∀ (H1 : Heap) (locs1 : List Loc) (u1 : Tc) (v1 : Mc) (S1 : Sg), SN E A0 s H1 locs1 (wT E a k b t x q u1 ++ wM E am v1) → RepC u1 S1 → RepM v1 S1 → W p l e room_1 s m args below meth c H1 locs1 cells slots Q (F0 m 1291 ls [])) : W p l e room_1 s m args below meth c H locs cells slots Q (F0 m 1219 ls []) := by
  obtain ⟨A, K, ik, ph, tq, tn, bq, sq, cq⟩ := S
  obtain ⟨⟨v0, fd⟩, ⟨hk, nk, k1, k2, k3, k4, k5, k6, k7, k8, k9⟩, ⟨hb, nb, xs, xi, xk, xc, xl, xr, xb, yl, yr⟩, ⟨ht, nt, t1, t2, t3, t4, t5, t6, t7, t8, t9⟩, ⟨z0, e1, e2, e3, e4, tp⟩, ⟨w0, y0, c0⟩, ⟨w1, y1, c1⟩, ⟨w2, y2, c2⟩, ⟨w3, y3, c3⟩⟩ := u
  obtain ⟨mm, kp, wa, m4, fm, gf, tm, m8, m9, m10, m11, m12, m13, bt, sz, cl⟩ := v
  have z_ : v0 = iv (ik) := hC.2.1.1
  subst z_
  have z_ : hb = iv (hr A) := hC.1.1
  subst z_
  have z_ : nb = iv (pe A) := hC.1.2.1
  subst z_
  have z_ : z0 = iv (tn) := hC.2.2.2.1.1
  subst z_
  have z_ : w0 = iv (bq 0) := hC.2.2.2.2.2.1.1
  subst z_
  have z_ : y0 = iv (sq 0) := hC.2.2.2.2.2.1.2.1
  subst z_
  have z_ : w1 = iv (bq 1) := hC.2.2.2.2.2.2.1.1
  subst z_
  have z_ : y1 = iv (sq 1) := hC.2.2.2.2.2.2.1.2.1
  subst z_
  have z_ : w2 = iv (bq 2) := hC.2.2.2.2.2.2.2.1.1
  subst z_
  have z_ : y2 = iv (sq 2) := hC.2.2.2.2.2.2.2.1.2.1
  subst z_
  have z_ : w3 = iv (bq 3) := hC.2.2.2.2.2.2.2.2.1
  subst z_
  have z_ : y3 = iv (sq 3) := hC.2.2.2.2.2.2.2.2.2.1
  subst z_
  have z_ : m4 = iv (ik) := hM.2.1.1
  subst z_
  have z_ : m8 = iv (tn) := hM.2.2.2.1.1
  subst z_
  obtain ⟨tk, -, rfl⟩ := iv_ex m9
  obtain ⟨bg, -, rfl⟩ := iv_ex m10
  obtain ⟨pt, -, rfl⟩ := iv_ex m11
  obtain ⟨vl, -, rfl⟩ := iv_ex m12
  obtain ⟨bd, -, rfl⟩ := iv_ex m13
  have hC : RepC (((iv (ik)), fd), ((hk), (nk), (k1, k2, k3, k4, k5, k6, k7, k8, k9)), ((iv (hr A)), (iv (pe A)), (xs, xi, xk, xc, xl, xr, xb, yl, yr)), ((ht), (nt), (t1, t2, t3, t4, t5, t6, t7, t8, t9)), ((iv (tn)), (e1), (e2), (e3), (e4), tp), ((iv (bq 0)), (iv (sq 0)), c0), ((iv (bq 1)), (iv (sq 1)), c1), ((iv (bq 2)), (iv (sq 2)), c2), ((iv (bq 3)), (iv (sq 3)), c3)) (A, K, ik, ph, tq, tn, bq, sq, cq) := hC
  have hM : RepM (mm, kp, wa, (iv (ik)), fm, gf, tm, (iv (tn)), (iv (tk)), (iv (bg)), (iv (pt)), (iv (vl)), (iv (bd)), bt, sz, cl) (A, K, ik, ph, tq, tn, bq, sq, cq) := hM
  have h : SN E A0 s H locs ([] ++ ((wO E a k b t x q ((iv (ik))) fd ++ (wS E k ((hk)) ((nk)) (k1, k2, k3, k4, k5, k6, k7, k8, k9) ++ (wS E b ((iv (hr A))) ((iv (pe A))) (xs, xi, xk, xc, xl, xr, xb, yl, yr) ++ (wS E t ((ht)) ((nt)) (t1, t2, t3, t4, t5, t6, t7, t8, t9) ++ (wX E x ((iv (tn))) ((e1)) ((e2)) ((e3)) ((e4)) tp ++ (wH E (q 0) ((iv (bq 0))) ((iv (sq 0))) c0 ++ (wH E (q 1) ((iv (bq 1))) ((iv (sq 1))) c1 ++ (wH E (q 2) ((iv (bq 2))) ((iv (sq 2))) c2 ++ (wH E (q 3) ((iv (bq 3))) ((iv (sq 3))) c3 ++ []))))))))) ++ wM E am (mm, kp, wa, (iv (ik)), fm, gf, tm, (iv (tn)), (iv (tk)), (iv (bg)), (iv (pt)), (iv (vl)), (iv (bd)), bt, sz, cl))) := h
  refine lv_aload_n X.1 X.2.1 dL_law_1219 rfl (lv_at hl 2 rfl) ?_
  refine n_wi h (run_Vn (rest := []) X h (c_X4_undo  hC ) mi_X4_undo ml_L_150 ⟨(Nat.le_of_ble_eq_true rfl), (Nat.le_of_ble_eq_true rfl)⟩ ⟨rfl, rfl⟩ (Seg.mk' _ _) 3 0 rfl rfl rfl rfl hl.1 rfl (Nat.le_of_ble_eq_true rfl) hcs dL_law_1220) (fun _ => wT_map _ _ _ _ _ _ _ _ (((iv (ik)), fd), ((hk), (nk), (k1, k2, k3, k4, k5, k6, k7, k8, k9)), ((iv (hr A)), (iv (pe A)), (xs, xi, xk, xc, xl, xr, xb, yl, yr)), ((ht), (nt), (t1, t2, t3, t4, t5, t6, t7, t8, t9)), ((iv (tn)), (e1), (e2), (e3), (e4), tp), ((iv (bq 0)), (iv (sq 0)), c0), ((iv (bq 1)), (iv (sq 1)), c1), ((iv (bq 2)), (iv (sq 2)), c2), ((iv (bq 3)), (iv (sq 3)), c3))) (fun r1 u1 H locs hp1 h => ?_)
  obtain ⟨rfl, hC1⟩ := hp1
  have h : SN E A0 s H locs (wT E a k b t x q u1 ++ wM E am (mm, kp, wa, (iv (ik)), fm, gf, tm, (iv (tn)), (iv (tk)), (iv (bg)), (iv (pt)), (iv (vl)), (iv (bd)), bt, sz, cl)) := h
  have h := sn_nil h
  refine lv_aload_n X.1 X.2.1 dL_law_1223 rfl (lv_at hl 1 rfl) ?_
  refine n_wi h (run_Vn (rest := [.int (iv _)]) X h (c_X5_undo  hM ) mi_X5_undo ml_L_153 ⟨(Nat.le_of_ble_eq_true rfl), (Nat.le_of_ble_eq_true rfl)⟩ ⟨rfl, rfl⟩ (Seg.mk' _ _) 4 43 rfl rfl rfl rfl hl.1 rfl (Nat.le_of_ble_eq_true rfl) hcs dL_law_1224) (fun _ => wM_map _ _ _ _) (fun r2 u2 H locs hp2 h => ?_)
  obtain ⟨rfl, hM1⟩ := hp2
  have h := sn_lin h
  exact lv_icmp_eq (tgt := 1291) X.1 X.2.1 dL_law_1227 (by decide) (fun _ => kk _ _ _ _ _ h hC1 hM1) (fun z => absurd rfl z)

set_option maxHeartbeats 4000000 in
theorem law_tear (X : Cx p s m meth c args RL cL_law 4 (some .boolean)) (hX : va_X b0 L xz s s.heap) (hbl : b0 < s.heap.size) (hbA : ¬ A0 b0) (hL : L ≤ 3072) (hcs : cells ≤ 600000 ∧ slots ≤ 7302250) (h : SN E A0 s H locs (wT E a k b t x q u ++ wM E am v)) (hC : RepC u S) (hM : RepM v S) (i0 : 0 ≤ i) (i1 : i + 6 ≤ L) (hl : lv_has ls 4 [(3, .int (iv (i))), (2, .ref (am 0)), (1, .ref (a 0)), (0, .ref (b0))])
    (kk : ∀ (H1 : Heap) (locs1 : List Loc) (u1 : Tc) (v1 : Mc) (S1 : Sg), SN E A0 s H1 locs1 (wT E a k b t x q u1 ++ wM E am v1) → RepC u1 S1 → RepM v1 S1 → W p l e room_1 s m args below meth c H1 locs1 cells slots Q (F0 m 1291 ls [])) : W p l e room_1 s m args below meth c H locs cells slots Q (F0 m 1232 ls []) := by
  obtain ⟨A, K, ik, ph, tq, tn, bq, sq, cq⟩ := S
  obtain ⟨⟨v0, fd⟩, ⟨hk, nk, k1, k2, k3, k4, k5, k6, k7, k8, k9⟩, ⟨hb, nb, xs, xi, xk, xc, xl, xr, xb, yl, yr⟩, ⟨ht, nt, t1, t2, t3, t4, t5, t6, t7, t8, t9⟩, ⟨z0, e1, e2, e3, e4, tp⟩, ⟨w0, y0, c0⟩, ⟨w1, y1, c1⟩, ⟨w2, y2, c2⟩, ⟨w3, y3, c3⟩⟩ := u
  obtain ⟨mm, kp, wa, m4, fm, gf, tm, m8, m9, m10, m11, m12, m13, bt, sz, cl⟩ := v
  have z_ : v0 = iv (ik) := hC.2.1.1
  subst z_
  have z_ : hb = iv (hr A) := hC.1.1
  subst z_
  have z_ : nb = iv (pe A) := hC.1.2.1
  subst z_
  have z_ : z0 = iv (tn) := hC.2.2.2.1.1
  subst z_
  have z_ : w0 = iv (bq 0) := hC.2.2.2.2.2.1.1
  subst z_
  have z_ : y0 = iv (sq 0) := hC.2.2.2.2.2.1.2.1
  subst z_
  have z_ : w1 = iv (bq 1) := hC.2.2.2.2.2.2.1.1
  subst z_
  have z_ : y1 = iv (sq 1) := hC.2.2.2.2.2.2.1.2.1
  subst z_
  have z_ : w2 = iv (bq 2) := hC.2.2.2.2.2.2.2.1.1
  subst z_
  have z_ : y2 = iv (sq 2) := hC.2.2.2.2.2.2.2.1.2.1
  subst z_
  have z_ : w3 = iv (bq 3) := hC.2.2.2.2.2.2.2.2.1
  subst z_
  have z_ : y3 = iv (sq 3) := hC.2.2.2.2.2.2.2.2.2.1
  subst z_
  have z_ : m4 = iv (ik) := hM.2.1.1
  subst z_
  have z_ : m8 = iv (tn) := hM.2.2.2.1.1
  subst z_
  obtain ⟨tk, -, rfl⟩ := iv_ex m9
  obtain ⟨bg, -, rfl⟩ := iv_ex m10
  obtain ⟨pt, -, rfl⟩ := iv_ex m11
  obtain ⟨vl, -, rfl⟩ := iv_ex m12
  obtain ⟨bd, -, rfl⟩ := iv_ex m13
  have hC : RepC (((iv (ik)), fd), ((hk), (nk), (k1, k2, k3, k4, k5, k6, k7, k8, k9)), ((iv (hr A)), (iv (pe A)), (xs, xi, xk, xc, xl, xr, xb, yl, yr)), ((ht), (nt), (t1, t2, t3, t4, t5, t6, t7, t8, t9)), ((iv (tn)), (e1), (e2), (e3), (e4), tp), ((iv (bq 0)), (iv (sq 0)), c0), ((iv (bq 1)), (iv (sq 1)), c1), ((iv (bq 2)), (iv (sq 2)), c2), ((iv (bq 3)), (iv (sq 3)), c3)) (A, K, ik, ph, tq, tn, bq, sq, cq) := hC
  have hM : RepM (mm, kp, wa, (iv (ik)), fm, gf, tm, (iv (tn)), (iv (tk)), (iv (bg)), (iv (pt)), (iv (vl)), (iv (bd)), bt, sz, cl) (A, K, ik, ph, tq, tn, bq, sq, cq) := hM
  have h : SN E A0 s H locs ([] ++ ((wO E a k b t x q ((iv (ik))) fd ++ (wS E k ((hk)) ((nk)) (k1, k2, k3, k4, k5, k6, k7, k8, k9) ++ (wS E b ((iv (hr A))) ((iv (pe A))) (xs, xi, xk, xc, xl, xr, xb, yl, yr) ++ (wS E t ((ht)) ((nt)) (t1, t2, t3, t4, t5, t6, t7, t8, t9) ++ (wX E x ((iv (tn))) ((e1)) ((e2)) ((e3)) ((e4)) tp ++ (wH E (q 0) ((iv (bq 0))) ((iv (sq 0))) c0 ++ (wH E (q 1) ((iv (bq 1))) ((iv (sq 1))) c1 ++ (wH E (q 2) ((iv (bq 2))) ((iv (sq 2))) c2 ++ (wH E (q 3) ((iv (bq 3))) ((iv (sq 3))) c3 ++ []))))))))) ++ wM E am (mm, kp, wa, (iv (ik)), fm, gf, tm, (iv (tn)), (iv (tk)), (iv (bg)), (iv (pt)), (iv (vl)), (iv (bd)), bt, sz, cl))) := h
  refine lv_aload_n X.1 X.2.1 dL_law_1232 rfl (lv_at hl 2 rfl) ?_
  refine n_wi h (run_Vn (rest := []) X h (c_X4_tear  hC ) mi_X4_tear ml_L_154 ⟨(Nat.le_of_ble_eq_true rfl), (Nat.le_of_ble_eq_true rfl)⟩ ⟨rfl, rfl⟩ (Seg.mk' _ _) 3 0 rfl rfl rfl rfl hl.1 rfl (Nat.le_of_ble_eq_true rfl) hcs dL_law_1233) (fun _ => wT_map _ _ _ _ _ _ _ _ (((iv (ik)), fd), ((hk), (nk), (k1, k2, k3, k4, k5, k6, k7, k8, k9)), ((iv (hr A)), (iv (pe A)), (xs, xi, xk, xc, xl, xr, xb, yl, yr)), ((ht), (nt), (t1, t2, t3, t4, t5, t6, t7, t8, t9)), ((iv (tn)), (e1), (e2), (e3), (e4), tp), ((iv (bq 0)), (iv (sq 0)), c0), ((iv (bq 1)), (iv (sq 1)), c1), ((iv (bq 2)), (iv (sq 2)), c2), ((iv (bq 3)), (iv (sq 3)), c3))) (fun r1 u1 H locs hp1 h => ?_)
  obtain ⟨rfl, hC1⟩ := hp1
  have h : SN E A0 s H locs (wT E a k b t x q u1 ++ wM E am (mm, kp, wa, (iv (ik)), fm, gf, tm, (iv (tn)), (iv (tk)), (iv (bg)), (iv (pt)), (iv (vl)), (iv (bd)), bt, sz, cl)) := h
  have h := sn_nil h
  refine lv_aload_n X.1 X.2.1 dL_law_1236 rfl (lv_at hl 1 rfl) ?_
  refine n_wi h (run_Vn (rest := [.int (iv _)]) X h (c_X5_tear  hM ) mi_X5_tear ml_L_157 ⟨(Nat.le_of_ble_eq_true rfl), (Nat.le_of_ble_eq_true rfl)⟩ ⟨rfl, rfl⟩ (Seg.mk' _ _) 4 43 rfl rfl rfl rfl hl.1 rfl (Nat.le_of_ble_eq_true rfl) hcs dL_law_1237) (fun _ => wM_map _ _ _ _) (fun r2 u2 H locs hp2 h => ?_)
  obtain ⟨rfl, hM1⟩ := hp2
  have h := sn_lin h
  exact lv_icmp_eq (tgt := 1291) X.1 X.2.1 dL_law_1240 (by decide) (fun _ => kk _ _ _ _ _ h hC1 hM1) (fun z => absurd rfl z)

set_option maxHeartbeats 4000000 in
theorem law_count (X : Cx p s m meth c args RL cL_law 4 (some .boolean)) (hX : va_X b0 L xz s s.heap) (hbl : b0 < s.heap.size) (hbA : ¬ A0 b0) (hL : L ≤ 3072) (hcs : cells ≤ 600000 ∧ slots ≤ 7302250) (h : SN E A0 s H locs (wT E a k b t x q u ++ wM E am v)) (hC : RepC u S) (hM : RepM v S) (i0 : 0 ≤ i) (i1 : i + 6 ≤ L) (hl : lv_has ls 4 [(3, .int (iv (i))), (2, .ref (am 0)), (1, .ref (a 0)), (0, .ref (b0))])
    (kk : ∀ (H1 : Heap) (locs1 : List Loc) (u1 : Tc) (v1 : Mc) (S1 : Sg), SN E A0 s H1 locs1 (wT E a k b t x q u1 ++ wM E am v1) → RepC u1 S1 → RepM v1 S1 → W p l e room_1 s m args below meth c H1 locs1 cells slots Q (F0 m 1291 ls [])) : W p l e room_1 s m args below meth c H locs cells slots Q (F0 m 1245 ls []) := by
  obtain ⟨A, K, ik, ph, tq, tn, bq, sq, cq⟩ := S
  obtain ⟨⟨v0, fd⟩, ⟨hk, nk, k1, k2, k3, k4, k5, k6, k7, k8, k9⟩, ⟨hb, nb, xs, xi, xk, xc, xl, xr, xb, yl, yr⟩, ⟨ht, nt, t1, t2, t3, t4, t5, t6, t7, t8, t9⟩, ⟨z0, e1, e2, e3, e4, tp⟩, ⟨w0, y0, c0⟩, ⟨w1, y1, c1⟩, ⟨w2, y2, c2⟩, ⟨w3, y3, c3⟩⟩ := u
  obtain ⟨mm, kp, wa, m4, fm, gf, tm, m8, m9, m10, m11, m12, m13, bt, sz, cl⟩ := v
  have z_ : v0 = iv (ik) := hC.2.1.1
  subst z_
  have z_ : hb = iv (hr A) := hC.1.1
  subst z_
  have z_ : nb = iv (pe A) := hC.1.2.1
  subst z_
  have z_ : z0 = iv (tn) := hC.2.2.2.1.1
  subst z_
  have z_ : w0 = iv (bq 0) := hC.2.2.2.2.2.1.1
  subst z_
  have z_ : y0 = iv (sq 0) := hC.2.2.2.2.2.1.2.1
  subst z_
  have z_ : w1 = iv (bq 1) := hC.2.2.2.2.2.2.1.1
  subst z_
  have z_ : y1 = iv (sq 1) := hC.2.2.2.2.2.2.1.2.1
  subst z_
  have z_ : w2 = iv (bq 2) := hC.2.2.2.2.2.2.2.1.1
  subst z_
  have z_ : y2 = iv (sq 2) := hC.2.2.2.2.2.2.2.1.2.1
  subst z_
  have z_ : w3 = iv (bq 3) := hC.2.2.2.2.2.2.2.2.1
  subst z_
  have z_ : y3 = iv (sq 3) := hC.2.2.2.2.2.2.2.2.2.1
  subst z_
  have z_ : m4 = iv (ik) := hM.2.1.1
  subst z_
  have z_ : m8 = iv (tn) := hM.2.2.2.1.1
  subst z_
  obtain ⟨tk, -, rfl⟩ := iv_ex m9
  obtain ⟨bg, -, rfl⟩ := iv_ex m10
  obtain ⟨pt, -, rfl⟩ := iv_ex m11
  obtain ⟨vl, -, rfl⟩ := iv_ex m12
  obtain ⟨bd, -, rfl⟩ := iv_ex m13
  have hC : RepC (((iv (ik)), fd), ((hk), (nk), (k1, k2, k3, k4, k5, k6, k7, k8, k9)), ((iv (hr A)), (iv (pe A)), (xs, xi, xk, xc, xl, xr, xb, yl, yr)), ((ht), (nt), (t1, t2, t3, t4, t5, t6, t7, t8, t9)), ((iv (tn)), (e1), (e2), (e3), (e4), tp), ((iv (bq 0)), (iv (sq 0)), c0), ((iv (bq 1)), (iv (sq 1)), c1), ((iv (bq 2)), (iv (sq 2)), c2), ((iv (bq 3)), (iv (sq 3)), c3)) (A, K, ik, ph, tq, tn, bq, sq, cq) := hC
  have hM : RepM (mm, kp, wa, (iv (ik)), fm, gf, tm, (iv (tn)), (iv (tk)), (iv (bg)), (iv (pt)), (iv (vl)), (iv (bd)), bt, sz, cl) (A, K, ik, ph, tq, tn, bq, sq, cq) := hM
  have h : SN E A0 s H locs ([] ++ ((wO E a k b t x q ((iv (ik))) fd ++ (wS E k ((hk)) ((nk)) (k1, k2, k3, k4, k5, k6, k7, k8, k9) ++ (wS E b ((iv (hr A))) ((iv (pe A))) (xs, xi, xk, xc, xl, xr, xb, yl, yr) ++ (wS E t ((ht)) ((nt)) (t1, t2, t3, t4, t5, t6, t7, t8, t9) ++ (wX E x ((iv (tn))) ((e1)) ((e2)) ((e3)) ((e4)) tp ++ (wH E (q 0) ((iv (bq 0))) ((iv (sq 0))) c0 ++ (wH E (q 1) ((iv (bq 1))) ((iv (sq 1))) c1 ++ (wH E (q 2) ((iv (bq 2))) ((iv (sq 2))) c2 ++ (wH E (q 3) ((iv (bq 3))) ((iv (sq 3))) c3 ++ []))))))))) ++ wM E am (mm, kp, wa, (iv (ik)), fm, gf, tm, (iv (tn)), (iv (tk)), (iv (bg)), (iv (pt)), (iv (vl)), (iv (bd)), bt, sz, cl))) := h
  refine lv_aload_n X.1 X.2.1 dL_law_1245 rfl (lv_at hl 2 rfl) ?_
  refine lv_aload_n X.1 X.2.1 dL_law_1246 rfl (lv_at hl 3 rfl) ?_
  refine lv_iload_n X.1 X.2.1 dL_law_1247 rfl (lv_at hl 0 rfl) ?_
  refine z_iconst X dL_law_1248 ?_
  refine z_iadd X dL_law_1249 ?_
  refine l_sld X hX hbl hbA hL h (by omega) (by omega) dL_law_1250 ?_
  refine n_wi h (run_Vn (rest := []) X h (c_X4_count (pw := sc xz (i + 1)) hC (r32_sc _ _)) mi_X4_count ml_L_158 ⟨(Nat.le_of_ble_eq_true rfl), (Nat.le_of_ble_eq_true rfl)⟩ ⟨rfl, rfl⟩ (Seg.mk' _ _) 3 0 rfl rfl rfl rfl hl.1 rfl (Nat.le_of_ble_eq_true rfl) hcs dL_law_1251) (fun _ => wT_map _ _ _ _ _ _ _ _ (((iv (ik)), fd), ((hk), (nk), (k1, k2, k3, k4, k5, k6, k7, k8, k9)), ((iv (hr A)), (iv (pe A)), (xs, xi, xk, xc, xl, xr, xb, yl, yr)), ((ht), (nt), (t1, t2, t3, t4, t5, t6, t7, t8, t9)), ((iv (tn)), (e1), (e2), (e3), (e4), tp), ((iv (bq 0)), (iv (sq 0)), c0), ((iv (bq 1)), (iv (sq 1)), c1), ((iv (bq 2)), (iv (sq 2)), c2), ((iv (bq 3)), (iv (sq 3)), c3))) (fun r1 u1 H locs hp1 h => ?_)
  obtain ⟨rfl, hC1⟩ := hp1
  have h : SN E A0 s H locs (wT E a k b t x q u1 ++ wM E am (mm, kp, wa, (iv (ik)), fm, gf, tm, (iv (tn)), (iv (tk)), (iv (bg)), (iv (pt)), (iv (vl)), (iv (bd)), bt, sz, cl)) := h
  have h := sn_nil h
  refine lv_aload_n X.1 X.2.1 dL_law_1254 rfl (lv_at hl 1 rfl) ?_
  refine lv_aload_n X.1 X.2.1 dL_law_1255 rfl (lv_at hl 3 rfl) ?_
  refine lv_iload_n X.1 X.2.1 dL_law_1256 rfl (lv_at hl 0 rfl) ?_
  refine z_iconst X dL_law_1257 ?_
  refine z_iadd X dL_law_1258 ?_
  refine l_sld X hX hbl hbA hL h (by omega) (by omega) dL_law_1259 ?_
  refine n_wi h (run_Vn (rest := [.int (iv _)]) X h (c_X5_count (w := sc xz (i + 1)) hM (r32_sc _ _)) mi_X5_count ml_L_161 ⟨(Nat.le_of_ble_eq_true rfl), (Nat.le_of_ble_eq_true rfl)⟩ ⟨rfl, rfl⟩ (Seg.mk' _ _) 4 43 rfl rfl rfl rfl hl.1 rfl (Nat.le_of_ble_eq_true rfl) hcs dL_law_1260) (fun _ => wM_map _ _ _ _) (fun r2 u2 H locs hp2 h => ?_)
  obtain ⟨rfl, hM1⟩ := hp2
  have h := sn_lin h
  exact lv_icmp_eq (tgt := 1291) X.1 X.2.1 dL_law_1263 (by decide) (fun _ => kk _ _ _ _ _ h hC1 hM1) (fun z => absurd rfl z)

set_option maxHeartbeats 4000000 in
theorem law_status (X : Cx p s m meth c args RL cL_law 4 (some .boolean)) (hX : va_X b0 L xz s s.heap) (hbl : b0 < s.heap.size) (hbA : ¬ A0 b0) (hL : L ≤ 3072) (hcs : cells ≤ 600000 ∧ slots ≤ 7302250) (h : SN E A0 s H locs (wT E a k b t x q u ++ wM E am v)) (hC : RepC u S) (hM : RepM v S) (i0 : 0 ≤ i) (i1 : i + 6 ≤ L) (hl : lv_has ls 4 [(3, .int (iv (i))), (2, .ref (am 0)), (1, .ref (a 0)), (0, .ref (b0))])
    (kk : ∀ (H1 : Heap) (locs1 : List Loc) (u1 : Tc) (v1 : Mc) (S1 : Sg), SN E A0 s H1 locs1 (wT E a k b t x q u1 ++ wM E am v1) → RepC u1 S1 → RepM v1 S1 → W p l e room_1 s m args below meth c H1 locs1 cells slots Q (F0 m 1291 ls [])) : W p l e room_1 s m args below meth c H locs cells slots Q (F0 m 1268 ls []) := by
  obtain ⟨A, K, ik, ph, tq, tn, bq, sq, cq⟩ := S
  obtain ⟨⟨v0, fd⟩, ⟨hk, nk, k1, k2, k3, k4, k5, k6, k7, k8, k9⟩, ⟨hb, nb, xs, xi, xk, xc, xl, xr, xb, yl, yr⟩, ⟨ht, nt, t1, t2, t3, t4, t5, t6, t7, t8, t9⟩, ⟨z0, e1, e2, e3, e4, tp⟩, ⟨w0, y0, c0⟩, ⟨w1, y1, c1⟩, ⟨w2, y2, c2⟩, ⟨w3, y3, c3⟩⟩ := u
  obtain ⟨mm, kp, wa, m4, fm, gf, tm, m8, m9, m10, m11, m12, m13, bt, sz, cl⟩ := v
  have z_ : v0 = iv (ik) := hC.2.1.1
  subst z_
  have z_ : hb = iv (hr A) := hC.1.1
  subst z_
  have z_ : nb = iv (pe A) := hC.1.2.1
  subst z_
  have z_ : z0 = iv (tn) := hC.2.2.2.1.1
  subst z_
  have z_ : w0 = iv (bq 0) := hC.2.2.2.2.2.1.1
  subst z_
  have z_ : y0 = iv (sq 0) := hC.2.2.2.2.2.1.2.1
  subst z_
  have z_ : w1 = iv (bq 1) := hC.2.2.2.2.2.2.1.1
  subst z_
  have z_ : y1 = iv (sq 1) := hC.2.2.2.2.2.2.1.2.1
  subst z_
  have z_ : w2 = iv (bq 2) := hC.2.2.2.2.2.2.2.1.1
  subst z_
  have z_ : y2 = iv (sq 2) := hC.2.2.2.2.2.2.2.1.2.1
  subst z_
  have z_ : w3 = iv (bq 3) := hC.2.2.2.2.2.2.2.2.1
  subst z_
  have z_ : y3 = iv (sq 3) := hC.2.2.2.2.2.2.2.2.2.1
  subst z_
  have z_ : m4 = iv (ik) := hM.2.1.1
  subst z_
  have z_ : m8 = iv (tn) := hM.2.2.2.1.1
  subst z_
  obtain ⟨tk, -, rfl⟩ := iv_ex m9
  obtain ⟨bg, -, rfl⟩ := iv_ex m10
  obtain ⟨pt, -, rfl⟩ := iv_ex m11
  obtain ⟨vl, -, rfl⟩ := iv_ex m12
  obtain ⟨bd, -, rfl⟩ := iv_ex m13
  have hC : RepC (((iv (ik)), fd), ((hk), (nk), (k1, k2, k3, k4, k5, k6, k7, k8, k9)), ((iv (hr A)), (iv (pe A)), (xs, xi, xk, xc, xl, xr, xb, yl, yr)), ((ht), (nt), (t1, t2, t3, t4, t5, t6, t7, t8, t9)), ((iv (tn)), (e1), (e2), (e3), (e4), tp), ((iv (bq 0)), (iv (sq 0)), c0), ((iv (bq 1)), (iv (sq 1)), c1), ((iv (bq 2)), (iv (sq 2)), c2), ((iv (bq 3)), (iv (sq 3)), c3)) (A, K, ik, ph, tq, tn, bq, sq, cq) := hC
  have hM : RepM (mm, kp, wa, (iv (ik)), fm, gf, tm, (iv (tn)), (iv (tk)), (iv (bg)), (iv (pt)), (iv (vl)), (iv (bd)), bt, sz, cl) (A, K, ik, ph, tq, tn, bq, sq, cq) := hM
  have h : SN E A0 s H locs ([] ++ ((wO E a k b t x q ((iv (ik))) fd ++ (wS E k ((hk)) ((nk)) (k1, k2, k3, k4, k5, k6, k7, k8, k9) ++ (wS E b ((iv (hr A))) ((iv (pe A))) (xs, xi, xk, xc, xl, xr, xb, yl, yr) ++ (wS E t ((ht)) ((nt)) (t1, t2, t3, t4, t5, t6, t7, t8, t9) ++ (wX E x ((iv (tn))) ((e1)) ((e2)) ((e3)) ((e4)) tp ++ (wH E (q 0) ((iv (bq 0))) ((iv (sq 0))) c0 ++ (wH E (q 1) ((iv (bq 1))) ((iv (sq 1))) c1 ++ (wH E (q 2) ((iv (bq 2))) ((iv (sq 2))) c2 ++ (wH E (q 3) ((iv (bq 3))) ((iv (sq 3))) c3 ++ []))))))))) ++ wM E am (mm, kp, wa, (iv (ik)), fm, gf, tm, (iv (tn)), (iv (tk)), (iv (bg)), (iv (pt)), (iv (vl)), (iv (bd)), bt, sz, cl))) := h
  refine lv_aload_n X.1 X.2.1 dL_law_1268 rfl (lv_at hl 2 rfl) ?_
  refine lv_aload_n X.1 X.2.1 dL_law_1269 rfl (lv_at hl 3 rfl) ?_
  refine lv_iload_n X.1 X.2.1 dL_law_1270 rfl (lv_at hl 0 rfl) ?_
  refine z_iconst X dL_law_1271 ?_
  refine z_iadd X dL_law_1272 ?_
  refine l_sld X hX hbl hbA hL h (by omega) (by omega) dL_law_1273 ?_
  refine n_wi h (run_Vn (rest := []) X h (c_X4_status (pw := sc xz (i + 1)) hC (r32_sc _ _)) mi_X4_status ml_L_162 ⟨(Nat.le_of_ble_eq_true rfl), (Nat.le_of_ble_eq_true rfl)⟩ ⟨rfl, rfl⟩ (Seg.mk' _ _) 3 0 rfl rfl rfl rfl hl.1 rfl (Nat.le_of_ble_eq_true rfl) hcs dL_law_1274) (fun _ => wT_map _ _ _ _ _ _ _ _ (((iv (ik)), fd), ((hk), (nk), (k1, k2, k3, k4, k5, k6, k7, k8, k9)), ((iv (hr A)), (iv (pe A)), (xs, xi, xk, xc, xl, xr, xb, yl, yr)), ((ht), (nt), (t1, t2, t3, t4, t5, t6, t7, t8, t9)), ((iv (tn)), (e1), (e2), (e3), (e4), tp), ((iv (bq 0)), (iv (sq 0)), c0), ((iv (bq 1)), (iv (sq 1)), c1), ((iv (bq 2)), (iv (sq 2)), c2), ((iv (bq 3)), (iv (sq 3)), c3))) (fun r1 u1 H locs hp1 h => ?_)
  obtain ⟨rfl, hC1⟩ := hp1
  have h : SN E A0 s H locs (wT E a k b t x q u1 ++ wM E am (mm, kp, wa, (iv (ik)), fm, gf, tm, (iv (tn)), (iv (tk)), (iv (bg)), (iv (pt)), (iv (vl)), (iv (bd)), bt, sz, cl)) := h
  have h := sn_nil h
  refine lv_aload_n X.1 X.2.1 dL_law_1277 rfl (lv_at hl 1 rfl) ?_
  refine lv_aload_n X.1 X.2.1 dL_law_1278 rfl (lv_at hl 3 rfl) ?_
  refine lv_iload_n X.1 X.2.1 dL_law_1279 rfl (lv_at hl 0 rfl) ?_
  refine z_iconst X dL_law_1280 ?_
  refine z_iadd X dL_law_1281 ?_
  refine l_sld X hX hbl hbA hL h (by omega) (by omega) dL_law_1282 ?_
  refine n_wi h (run_Vn (rest := [.int (iv _)]) X h (c_X5_status (w := sc xz (i + 1)) hM (r32_sc _ _)) mi_X5_status ml_L_165 ⟨(Nat.le_of_ble_eq_true rfl), (Nat.le_of_ble_eq_true rfl)⟩ ⟨rfl, rfl⟩ (Seg.mk' _ _) 4 43 rfl rfl rfl rfl hl.1 rfl (Nat.le_of_ble_eq_true rfl) hcs dL_law_1283) (fun _ => wM_map _ _ _ _) (fun r2 u2 H locs hp2 h => ?_)
  obtain ⟨rfl, hM1⟩ := hp2
  have h := sn_lin h
  exact lv_icmp_eq (tgt := 1291) X.1 X.2.1 dL_law_1286 (by decide) (fun _ => kk _ _ _ _ _ h hC1 hM1) (fun z => absurd rfl z)
