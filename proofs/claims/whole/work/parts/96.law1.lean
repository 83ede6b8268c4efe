variable {p : Program} {l : Launch} {e : Env} {s : State} {m : MethodId} {args : Array Value} {below : List Frame} {meth : Method} {c : Code} {H : Heap} {locs : List Loc} {cells slots : Nat} {Q : State → Prop} {ls : Array Slot} {E : EV} {A0 : Nat → Prop} {b0 L : Nat} {xz : Nat → Int32} {a k b t x am : Nat → Nat} {q : Nat → Nat → Nat} {u : Tc} {v : Mc} {S : Sg} {i : Int}
set_option maxHeartbeats 4000000 in
theorem law_sun (X : Cx p s m meth c args RL cL_law 4 (some .boolean)) (hX : va_X b0 L xz s s.heap) (hbl : b0 < s.heap.size) (hbA : ¬ A0 b0) (hL : L ≤ 3072) (hcs : cells ≤ 600000 ∧ slots ≤ 7302250) (h : SN E A0 s H locs (wT E a k b t x q u ++ wM E am v)) (hC : RepC u S) (hM : RepM v S) (i0 : 0 ≤ i) (i1 : i + 6 ≤ L) (hl : lv_has ls 4 [(3, .int (iv (i))), (2, .ref (am 0)), (1, .ref (a 0)), (0, .ref (b0))])
    (kk : ∀ (H1 : Heap) (locs1 : List Loc) (u1 : Tc) (v1 : Mc) (S1 : Sg), SN E A0 s H1 locs1 (wT E a k b t x q u1 ++ wM E am v1) → RepC u1 S1 → RepM v1 S1 → W p l e room_1 s m args below meth c H1 locs1 cells slots Q (F0 m 1291 ls [])) : W p l e room_1 s m args below meth c H locs cells slots Q (F0 m 192 ls []) := by
  obtain ⟨A, K, ik, ph, tq, tn, bq, sq, cq⟩ := S
  obtain ⟨⟨v0, fd⟩, ⟨hk, nk, k1, k2, k3, k4, k5, k6, k7, k8, k9⟩, ⟨hb, nb, xs, xi, xk, xc, xl, xr, xb, yl, yr⟩, ⟨ht, nt, t1, t2, t3, t4, t5, t6, t7, t8, t9⟩, ⟨z0, e1, e2, e3, e4, tp⟩, ⟨w0, y0, c0⟩, ⟨w1, y1, c1⟩, ⟨w2, y2, c2⟩, ⟨w3, y3, c3⟩⟩ := u
  obtain ⟨mm, kp, wa, m4, fm, gf, tm, m8, m9, m10, m11, m12, m13, bt, sz, cl⟩ := v
  have z_ : v0 = iv (ik) := hC.2.1.1
  subst z_
  have z_ : hb = iv (hr A) := hC.1.1
  subst z_
  have z_ : nb = iv (pe A) := hC.1.2.1
  subst z_
  have z_ : z0 = iv (tn) := hC.2.2.2.1.1
  subst z_
  have z_ : w0 = iv (bq 0) := hC.2.2.2.2.2.1.1
  subst z_
  have z_ : y0 = iv (sq 0) := hC.2.2.2.2.2.1.2.1
  subst z_
  have z_ : w1 = iv (bq 1) := hC.2.2.2.2.2.2.1.1
  subst z_
  have z_ : y1 = iv (sq 1) := hC.2.2.2.2.2.2.1.2.1
  subst z_
  have z_ : w2 = iv (bq 2) := hC.2.2.2.2.2.2.2.1.1
  subst z_
  have z_ : y2 = iv (sq 2) := hC.2.2.2.2.2.2.2.1.2.1
  subst z_
  have z_ : w3 = iv (bq 3) := hC.2.2.2.2.2.2.2.2.1
  subst z_
  have z_ : y3 = iv (sq 3) := hC.2.2.2.2.2.2.2.2.2.1
  subst z_
  have z_ : m4 = iv (ik) := hM.2.1.1
  subst z_
  have z_ : m8 = iv (tn) := hM.2.2.2.1.1
  subst z_
  obtain ⟨tk, -, rfl⟩ := iv_ex m9
  obtain ⟨bg, -, rfl⟩ := iv_ex m10
  obtain ⟨pt, -, rfl⟩ := iv_ex m11
  obtain ⟨vl, -, rfl⟩ := iv_ex m12
  obtain ⟨bd, -, rfl⟩ := iv_ex m13
  have hC : RepC (((iv (ik)), fd), ((hk), (nk), (k1, k2, k3, k4, k5, k6, k7, k8, k9)), ((iv (hr A)), (iv (pe A)), (xs, xi, xk, xc, xl, xr, xb, yl, yr)), ((ht), (nt), (t1, t2, t3, t4, t5, t6, t7, t8, t9)), ((iv (tn)), (e1), (e2), (e3), (e4), tp), ((iv (bq 0)), (iv (sq 0)), c0), ((iv (bq 1)), (iv (sq 1)), c1), ((iv (bq 2)), (iv (sq 2)), c2), ((iv (bq 3)), (iv (sq 3)), c3)) (A, K, ik, ph, tq, tn, bq, sq, cq) := hC
  have hM : RepM (mm, kp, wa, (iv (ik)), fm, gf, tm, (iv (tn)), (iv (tk)), (iv (bg)), (iv (pt)), (iv (vl)), (iv (bd)), bt, sz, cl) (A, K, ik, ph, tq, tn, bq, sq, cq) := hM
  have h : SN E A0 s H locs ([] ++ ((wO E a k b t x q ((iv (ik))) fd ++ (wS E k ((hk)) ((nk)) (k1, k2, k3, k4, k5, k6, k7, k8, k9) ++ (wS E b ((iv (hr A))) ((iv (pe A))) (xs, xi, xk, xc, xl, xr, xb, yl, yr) ++ (wS E t ((ht)) ((nt)) (t1, t2, t3, t4, t5, t6, t7, t8, t9) ++ (wX E x ((iv (tn))) ((e1)) ((e2)) ((e3)) ((e4)) tp ++ (wH E (q 0) ((iv (bq 0))) ((iv (sq 0))) c0 ++ (wH E (q 1) ((iv (bq 1))) ((iv (sq 1))) c1 ++ (wH E (q 2) ((iv (bq 2))) ((iv (sq 2))) c2 ++ (wH E (q 3) ((iv (bq 3))) ((iv (sq 3))) c3 ++ []))))))))) ++ wM E am (mm, kp, wa, (iv (ik)), fm, gf, tm, (iv (tn)), (iv (tk)), (iv (bg)), (iv (pt)), (iv (vl)), (iv (bd)), bt, sz, cl))) := h
  refine lv_aload_n X.1 X.2.1 dL_law_192 rfl (lv_at hl 2 rfl) ?_
  refine lv_aload_n X.1 X.2.1 dL_law_193 rfl (lv_at hl 3 rfl) ?_
  refine lv_iload_n X.1 X.2.1 dL_law_194 rfl (lv_at hl 0 rfl) ?_
  refine z_iconst X dL_law_195 ?_
  refine z_iadd X dL_law_196 ?_
  refine l_sld X hX hbl hbA hL h (by omega) (by omega) dL_law_197 ?_
  refine lv_aload_n X.1 X.2.1 dL_law_198 rfl (lv_at hl 3 rfl) ?_
  refine lv_iload_n X.1 X.2.1 dL_law_199 rfl (lv_at hl 0 rfl) ?_
  refine z_iconst X dL_law_200 ?_
  refine z_iadd X dL_law_201 ?_
  refine l_sld X hX hbl hbA hL h (by omega) (by omega) dL_law_202 ?_
  refine n_wi h (run_Vn (rest := []) X h (c_X4_sun (px := sc xz (i + 1)) (pv := sc xz (i + 2)) hC (r32_sc _ _) (r32_sc _ _)) mi_X4_sun ml_L_13 ⟨(Nat.le_of_ble_eq_true rfl), (Nat.le_of_ble_eq_true rfl)⟩ ⟨rfl, rfl⟩ (Seg.mk' _ _) 3 0 rfl rfl rfl rfl hl.1 rfl (Nat.le_of_ble_eq_true rfl) hcs dL_law_203) (fun _ => wT_map _ _ _ _ _ _ _ _ (((iv (ik)), fd), ((hk), (nk), (k1, k2, k3, k4, k5, k6, k7, k8, k9)), ((iv (hr A)), (iv (pe A)), (xs, xi, xk, xc, xl, xr, xb, yl, yr)), ((ht), (nt), (t1, t2, t3, t4, t5, t6, t7, t8, t9)), ((iv (tn)), (e1), (e2), (e3), (e4), tp), ((iv (bq 0)), (iv (sq 0)), c0), ((iv (bq 1)), (iv (sq 1)), c1), ((iv (bq 2)), (iv (sq 2)), c2), ((iv (bq 3)), (iv (sq 3)), c3))) (fun r1 u1 H locs hp1 h => ?_)
  obtain ⟨rfl, hC1⟩ := hp1
  have h : SN E A0 s H locs (wT E a k b t x q u1 ++ wM E am (mm, kp, wa, (iv (ik)), fm, gf, tm, (iv (tn)), (iv (tk)), (iv (bg)), (iv (pt)), (iv (vl)), (iv (bd)), bt, sz, cl)) := h
  have h := sn_nil h
  refine lv_aload_n X.1 X.2.1 dL_law_206 rfl (lv_at hl 1 rfl) ?_
  refine lv_aload_n X.1 X.2.1 dL_law_207 rfl (lv_at hl 3 rfl) ?_
  refine lv_iload_n X.1 X.2.1 dL_law_208 rfl (lv_at hl 0 rfl) ?_
  refine z_iconst X dL_law_209 ?_
  refine z_iadd X dL_law_210 ?_
  refine l_sld X hX hbl hbA hL h (by omega) (by omega) dL_law_211 ?_
  refine lv_aload_n X.1 X.2.1 dL_law_212 rfl (lv_at hl 3 rfl) ?_
  refine lv_iload_n X.1 X.2.1 dL_law_213 rfl (lv_at hl 0 rfl) ?_
  refine z_iconst X dL_law_214 ?_
  refine z_iadd X dL_law_215 ?_
  refine l_sld X hX hbl hbA hL h (by omega) (by omega) dL_law_216 ?_
  refine n_wi h (run_Vn (rest := [.int (iv _)]) X h (c_X5_sun (x := sc xz (i + 1)) (v := sc xz (i + 2)) hM (r32_sc _ _) (r32_sc _ _)) mi_X5_sun ml_L_17 ⟨(Nat.le_of_ble_eq_true rfl), (Nat.le_of_ble_eq_true rfl)⟩ ⟨rfl, rfl⟩ (Seg.mk' _ _) 4 43 rfl rfl rfl rfl hl.1 rfl (Nat.le_of_ble_eq_true rfl) hcs dL_law_217) (fun _ => wM_map _ _ _ _) (fun r2 u2 H locs hp2 h => ?_)
  obtain ⟨rfl, hM1⟩ := hp2
  have h := sn_lin h
  exact lv_icmp_eq (tgt := 1291) X.1 X.2.1 dL_law_220 (by decide) (fun _ => kk _ _ _ _ _ h hC1 hM1) (fun z => absurd rfl z)

set_option maxHeartbeats 4000000 in
theorem law_chair (X : Cx p s m meth c args RL cL_law 4 (some .boolean)) (hX : va_X b0 L xz s s.heap) (hbl : b0 < s.heap.size) (hbA : ¬ A0 b0) (hL : L ≤ 3072) (hcs : cells ≤ 600000 ∧ slots ≤ 7302250) (h : SN E A0 s H locs (wT E a k b t x q u ++ wM E am v)) (hC : RepC u S) (hM : RepM v S) (i0 : 0 ≤ i) (i1 : i + 6 ≤ L) (hl : lv_has ls 4 [(3, .int (iv (i))), (2, .ref (am 0)), (1, .ref (a 0)), (0, .ref (b0))])
    (kk : ∀ (H1 : Heap) (locs1 : List Loc) (u1 : Tc) (v1 : Mc) (S1 : Sg), SN E A0 s H1 locs1 (wT E a k b t x q u1 ++ wM E am v1) → RepC u1 S1 → RepM v1 S1 → W p l e room_1 s m args below meth c H1 locs1 cells slots Q (F0 m 1291 ls [])) : W p l e room_1 s m args below meth c H locs cells slots Q (F0 m 225 ls []) := by
  obtain ⟨A, K, ik, ph, tq, tn, bq, sq, cq⟩ := S
  obtain ⟨⟨v0, fd⟩, ⟨hk, nk, k1, k2, k3, k4, k5, k6, k7, k8, k9⟩, ⟨hb, nb, xs, xi, xk, xc, xl, xr, xb, yl, yr⟩, ⟨ht, nt, t1, t2, t3, t4, t5, t6, t7, t8, t9⟩, ⟨z0, e1, e2, e3, e4, tp⟩, ⟨w0, y0, c0⟩, ⟨w1, y1, c1⟩, ⟨w2, y2, c2⟩, ⟨w3, y3, c3⟩⟩ := u
  obtain ⟨mm, kp, wa, m4, fm, gf, tm, m8, m9, m10, m11, m12, m13, bt, sz, cl⟩ := v
  have z_ : v0 = iv (ik) := hC.2.1.1
  subst z_
  have z_ : hb = iv (hr A) := hC.1.1
  subst z_
  have z_ : nb = iv (pe A) := hC.1.2.1
  subst z_
  have z_ : z0 = iv (tn) := hC.2.2.2.1.1
  subst z_
  have z_ : w0 = iv (bq 0) := hC.2.2.2.2.2.1.1
  subst z_
  have z_ : y0 = iv (sq 0) := hC.2.2.2.2.2.1.2.1
  subst z_
  have z_ : w1 = iv (bq 1) := hC.2.2.2.2.2.2.1.1
  subst z_
  have z_ : y1 = iv (sq 1) := hC.2.2.2.2.2.2.1.2.1
  subst z_
  have z_ : w2 = iv (bq 2) := hC.2.2.2.2.2.2.2.1.1
  subst z_
  have z_ : y2 = iv (sq 2) := hC.2.2.2.2.2.2.2.1.2.1
  subst z_
  have z_ : w3 = iv (bq 3) := hC.2.2.2.2.2.2.2.2.1
  subst z_
  have z_ : y3 = iv (sq 3) := hC.2.2.2.2.2.2.2.2.2.1
  subst z_
  have z_ : m4 = iv (ik) := hM.2.1.1
  subst z_
  have z_ : m8 = iv (tn) := hM.2.2.2.1.1
  subst z_
  obtain ⟨tk, -, rfl⟩ := iv_ex m9
  obtain ⟨bg, -, rfl⟩ := iv_ex m10
  obtain ⟨pt, -, rfl⟩ := iv_ex m11
  obtain ⟨vl, -, rfl⟩ := iv_ex m12
  obtain ⟨bd, -, rfl⟩ := iv_ex m13
  have hC : RepC (((iv (ik)), fd), ((hk), (nk), (k1, k2, k3, k4, k5, k6, k7, k8, k9)), ((iv (hr A)), (iv (pe A)), (xs, xi, xk, xc, xl, xr, xb, yl, yr)), ((ht), (nt), (t1, t2, t3, t4, t5, t6, t7, t8, t9)), ((iv (tn)), (e1), (e2), (e3), (e4), tp), ((iv (bq 0)), (iv (sq 0)), c0), ((iv (bq 1)), (iv (sq 1)), c1), ((iv (bq 2)), (iv (sq 2)), c2), ((iv (bq 3)), (iv (sq 3)), c3)) (A, K, ik, ph, tq, tn, bq, sq, cq) := hC
  have hM : RepM (mm, kp, wa, (iv (ik)), fm, gf, tm, (iv (tn)), (iv (tk)), (iv (bg)), (iv (pt)), (iv (vl)), (iv (bd)), bt, sz, cl) (A, K, ik, ph, tq, tn, bq, sq, cq) := hM
  have h : SN E A0 s H locs ([] ++ ((wO E a k b t x q ((iv (ik))) fd ++ (wS E k ((hk)) ((nk)) (k1, k2, k3, k4, k5, k6, k7, k8, k9) ++ (wS E b ((iv (hr A))) ((iv (pe A))) (xs, xi, xk, xc, xl, xr, xb, yl, yr) ++ (wS E t ((ht)) ((nt)) (t1, t2, t3, t4, t5, t6, t7, t8, t9) ++ (wX E x ((iv (tn))) ((e1)) ((e2)) ((e3)) ((e4)) tp ++ (wH E (q 0) ((iv (bq 0))) ((iv (sq 0))) c0 ++ (wH E (q 1) ((iv (bq 1))) ((iv (sq 1))) c1 ++ (wH E (q 2) ((iv (bq 2))) ((iv (sq 2))) c2 ++ (wH E (q 3) ((iv (bq 3))) ((iv (sq 3))) c3 ++ []))))))))) ++ wM E am (mm, kp, wa, (iv (ik)), fm, gf, tm, (iv (tn)), (iv (tk)), (iv (bg)), (iv (pt)), (iv (vl)), (iv (bd)), bt, sz, cl))) := h
  refine lv_aload_n X.1 X.2.1 dL_law_225 rfl (lv_at hl 2 rfl) ?_
  refine lv_aload_n X.1 X.2.1 dL_law_226 rfl (lv_at hl 3 rfl) ?_
  refine lv_iload_n X.1 X.2.1 dL_law_227 rfl (lv_at hl 0 rfl) ?_
  refine z_iconst X dL_law_228 ?_
  refine z_iadd X dL_law_229 ?_
  refine l_sld X hX hbl hbA hL h (by omega) (by omega) dL_law_230 ?_
  refine n_wi h (run_Vn (rest := []) X h (c_X4_chair (px := sc xz (i + 1)) hC (r32_sc _ _)) mi_X4_chair ml_L_18 ⟨(Nat.le_of_ble_eq_true rfl), (Nat.le_of_ble_eq_true rfl)⟩ ⟨rfl, rfl⟩ (Seg.mk' _ _) 3 0 rfl rfl rfl rfl hl.1 rfl (Nat.le_of_ble_eq_true rfl) hcs dL_law_231) (fun _ => wT_map _ _ _ _ _ _ _ _ (((iv (ik)), fd), ((hk), (nk), (k1, k2, k3, k4, k5, k6, k7, k8, k9)), ((iv (hr A)), (iv (pe A)), (xs, xi, xk, xc, xl, xr, xb, yl, yr)), ((ht), (nt), (t1, t2, t3, t4, t5, t6, t7, t8, t9)), ((iv (tn)), (e1), (e2), (e3), (e4), tp), ((iv (bq 0)), (iv (sq 0)), c0), ((iv (bq 1)), (iv (sq 1)), c1), ((iv (bq 2)), (iv (sq 2)), c2), ((iv (bq 3)), (iv (sq 3)), c3))) (fun r1 u1 H locs hp1 h => ?_)
  obtain ⟨rfl, hC1⟩ := hp1
  have h : SN E A0 s H locs (wT E a k b t x q u1 ++ wM E am (mm, kp, wa, (iv (ik)), fm, gf, tm, (iv (tn)), (iv (tk)), (iv (bg)), (iv (pt)), (iv (vl)), (iv (bd)), bt, sz, cl)) := h
  have h := sn_nil h
  refine lv_aload_n X.1 X.2.1 dL_law_234 rfl (lv_at hl 1 rfl) ?_
  refine lv_aload_n X.1 X.2.1 dL_law_235 rfl (lv_at hl 3 rfl) ?_
  refine lv_iload_n X.1 X.2.1 dL_law_236 rfl (lv_at hl 0 rfl) ?_
  refine z_iconst X dL_law_237 ?_
  refine z_iadd X dL_law_238 ?_
  refine l_sld X hX hbl hbA hL h (by omega) (by omega) dL_law_239 ?_
  refine n_wi h (run_Vn (rest := [.int (iv _)]) X h (c_X5_chair (x := sc xz (i + 1)) hM (r32_sc _ _)) mi_X5_chair ml_L_22 ⟨(Nat.le_of_ble_eq_true rfl), (Nat.le_of_ble_eq_true rfl)⟩ ⟨rfl, rfl⟩ (Seg.mk' _ _) 4 43 rfl rfl rfl rfl hl.1 rfl (Nat.le_of_ble_eq_true rfl) hcs dL_law_240) (fun _ => wM_map _ _ _ _) (fun r2 u2 H locs hp2 h => ?_)
  obtain ⟨rfl, hM1⟩ := hp2
  have h := sn_lin h
  exact lv_icmp_eq (tgt := 1291) X.1 X.2.1 dL_law_243 (by decide) (fun _ => kk _ _ _ _ _ h hC1 hM1) (fun z => absurd rfl z)

set_option maxHeartbeats 4000000 in
theorem law_now (X : Cx p s m meth c args RL cL_law 4 (some .boolean)) (hX : va_X b0 L xz s s.heap) (hbl : b0 < s.heap.size) (hbA : ¬ A0 b0) (hL : L ≤ 3072) (hcs : cells ≤ 600000 ∧ slots ≤ 7302250) (h : SN E A0 s H locs (wT E a k b t x q u ++ wM E am v)) (hC : RepC u S) (hM : RepM v S) (i0 : 0 ≤ i) (i1 : i + 6 ≤ L) (hl : lv_has ls 4 [(3, .int (iv (i))), (2, .ref (am 0)), (1, .ref (a 0)), (0, .ref (b0))])
    (kk : ∀ (H1 : Heap) (locs1 : List Loc) (u1 : Tc) (v1 : Mc) (S1 : Sg), SN E A0 s H1 locs1 (wT E a k b t x q u1 ++ wM E am v1) → RepC u1 S1 → RepM v1 S1 → W p l e room_1 s m args below meth c H1 locs1 cells slots Q (F0 m 1291 ls [])) : W p l e room_1 s m args below meth c H locs cells slots Q (F0 m 248 ls []) := by
  obtain ⟨A, K, ik, ph, tq, tn, bq, sq, cq⟩ := S
  obtain ⟨⟨v0, fd⟩, ⟨hk, nk, k1, k2, k3, k4, k5, k6, k7, k8, k9⟩, ⟨hb, nb, xs, xi, xk, xc, xl, xr, xb, yl, yr⟩, ⟨ht, nt, t1, t2, t3, t4, t5, t6, t7, t8, t9⟩, ⟨z0, e1, e2, e3, e4, tp⟩, ⟨w0, y0, c0⟩, ⟨w1, y1, c1⟩, ⟨w2, y2, c2⟩, ⟨w3, y3, c3⟩⟩ := u
  obtain ⟨mm, kp, wa, m4, fm, gf, tm, m8, m9, m10, m11, m12, m13, bt, sz, cl⟩ := v
  have z_ : v0 = iv (ik) := hC.2.1.1
  subst z_
  have z_ : hb = iv (hr A) := hC.1.1
  subst z_
  have z_ : nb = iv (pe A) := hC.1.2.1
  subst z_
  have z_ : z0 = iv (tn) := hC.2.2.2.1.1
  subst z_
  have z_ : w0 = iv (bq 0) := hC.2.2.2.2.2.1.1
  subst z_
  have z_ : y0 = iv (sq 0) := hC.2.2.2.2.2.1.2.1
  subst z_
  have z_ : w1 = iv (bq 1) := hC.2.2.2.2.2.2.1.1
  subst z_
  have z_ : y1 = iv (sq 1) := hC.2.2.2.2.2.2.1.2.1
  subst z_
  have z_ : w2 = iv (bq 2) := hC.2.2.2.2.2.2.2.1.1
  subst z_
  have z_ : y2 = iv (sq 2) := hC.2.2.2.2.2.2.2.1.2.1
  subst z_
  have z_ : w3 = iv (bq 3) := hC.2.2.2.2.2.2.2.2.1
  subst z_
  have z_ : y3 = iv (sq 3) := hC.2.2.2.2.2.2.2.2.2.1
  subst z_
  have z_ : m4 = iv (ik) := hM.2.1.1
  subst z_
  have z_ : m8 = iv (tn) := hM.2.2.2.1.1
  subst z_
  obtain ⟨tk, -, rfl⟩ := iv_ex m9
  obtain ⟨bg, -, rfl⟩ := iv_ex m10
  obtain ⟨pt, -, rfl⟩ := iv_ex m11
  obtain ⟨vl, -, rfl⟩ := iv_ex m12
  obtain ⟨bd, -, rfl⟩ := iv_ex m13
  have hC : RepC (((iv (ik)), fd), ((hk), (nk), (k1, k2, k3, k4, k5, k6, k7, k8, k9)), ((iv (hr A)), (iv (pe A)), (xs, xi, xk, xc, xl, xr, xb, yl, yr)), ((ht), (nt), (t1, t2, t3, t4, t5, t6, t7, t8, t9)), ((iv (tn)), (e1), (e2), (e3), (e4), tp), ((iv (bq 0)), (iv (sq 0)), c0), ((iv (bq 1)), (iv (sq 1)), c1), ((iv (bq 2)), (iv (sq 2)), c2), ((iv (bq 3)), (iv (sq 3)), c3)) (A, K, ik, ph, tq, tn, bq, sq, cq) := hC
  have hM : RepM (mm, kp, wa, (iv (ik)), fm, gf, tm, (iv (tn)), (iv (tk)), (iv (bg)), (iv (pt)), (iv (vl)), (iv (bd)), bt, sz, cl) (A, K, ik, ph, tq, tn, bq, sq, cq) := hM
  have h : SN E A0 s H locs ([] ++ ((wO E a k b t x q ((iv (ik))) fd ++ (wS E k ((hk)) ((nk)) (k1, k2, k3, k4, k5, k6, k7, k8, k9) ++ (wS E b ((iv (hr A))) ((iv (pe A))) (xs, xi, xk, xc, xl, xr, xb, yl, yr) ++ (wS E t ((ht)) ((nt)) (t1, t2, t3, t4, t5, t6, t7, t8, t9) ++ (wX E x ((iv (tn))) ((e1)) ((e2)) ((e3)) ((e4)) tp ++ (wH E (q 0) ((iv (bq 0))) ((iv (sq 0))) c0 ++ (wH E (q 1) ((iv (bq 1))) ((iv (sq 1))) c1 ++ (wH E (q 2) ((iv (bq 2))) ((iv (sq 2))) c2 ++ (wH E (q 3) ((iv (bq 3))) ((iv (sq 3))) c3 ++ []))))))))) ++ wM E am (mm, kp, wa, (iv (ik)), fm, gf, tm, (iv (tn)), (iv (tk)), (iv (bg)), (iv (pt)), (iv (vl)), (iv (bd)), bt, sz, cl))) := h
  refine lv_aload_n X.1 X.2.1 dL_law_248 rfl (lv_at hl 2 rfl) ?_
  refine lv_aload_n X.1 X.2.1 dL_law_249 rfl (lv_at hl 3 rfl) ?_
  refine lv_iload_n X.1 X.2.1 dL_law_250 rfl (lv_at hl 0 rfl) ?_
  refine z_iconst X dL_law_251 ?_
  refine z_iadd X dL_law_252 ?_
  refine l_sld X hX hbl hbA hL h (by omega) (by omega) dL_law_253 ?_
  refine n_wi h (run_Vn (rest := []) X h (c_X4_now (pw := sc xz (i + 1)) hC (r32_sc _ _)) mi_X4_now ml_L_23 ⟨(Nat.le_of_ble_eq_true rfl), (Nat.le_of_ble_eq_true rfl)⟩ ⟨rfl, rfl⟩ (Seg.mk' _ _) 3 0 rfl rfl rfl rfl hl.1 rfl (Nat.le_of_ble_eq_true rfl) hcs dL_law_254) (fun _ => wT_map _ _ _ _ _ _ _ _ (((iv (ik)), fd), ((hk), (nk), (k1, k2, k3, k4, k5, k6, k7, k8, k9)), ((iv (hr A)), (iv (pe A)), (xs, xi, xk, xc, xl, xr, xb, yl, yr)), ((ht), (nt), (t1, t2, t3, t4, t5, t6, t7, t8, t9)), ((iv (tn)), (e1), (e2), (e3), (e4), tp), ((iv (bq 0)), (iv (sq 0)), c0), ((iv (bq 1)), (iv (sq 1)), c1), ((iv (bq 2)), (iv (sq 2)), c2), ((iv (bq 3)), (iv (sq 3)), c3))) (fun r1 u1 H locs hp1 h => ?_)
  obtain ⟨rfl, hC1⟩ := hp1
  have h : SN E A0 s H locs (wT E a k b t x q u1 ++ wM E am (mm, kp, wa, (iv (ik)), fm, gf, tm, (iv (tn)), (iv (tk)), (iv (bg)), (iv (pt)), (iv (vl)), (iv (bd)), bt, sz, cl)) := h
  have h := sn_nil h
  refine lv_aload_n X.1 X.2.1 dL_law_257 rfl (lv_at hl 1 rfl) ?_
  refine lv_aload_n X.1 X.2.1 dL_law_258 rfl (lv_at hl 3 rfl) ?_
  refine lv_iload_n X.1 X.2.1 dL_law_259 rfl (lv_at hl 0 rfl) ?_
  refine z_iconst X dL_law_260 ?_
  refine z_iadd X dL_law_261 ?_
  refine l_sld X hX hbl hbA hL h (by omega) (by omega) dL_law_262 ?_
  refine n_wi h (run_Vn (rest := [.int (iv _)]) X h (c_X5_now (w := sc xz (i + 1)) hM (r32_sc _ _)) mi_X5_now ml_L_26 ⟨(Nat.le_of_ble_eq_true rfl), (Nat.le_of_ble_eq_true rfl)⟩ ⟨rfl, rfl⟩ (Seg.mk' _ _) 4 43 rfl rfl rfl rfl hl.1 rfl (Nat.le_of_ble_eq_true rfl) hcs dL_law_263) (fun _ => wM_map _ _ _ _) (fun r2 u2 H locs hp2 h => ?_)
  obtain ⟨rfl, hM1⟩ := hp2
  have h := sn_lin h
  exact lv_icmp_eq (tgt := 1291) X.1 X.2.1 dL_law_266 (by decide) (fun _ => kk _ _ _ _ _ h hC1 hM1) (fun z => absurd rfl z)

set_option maxHeartbeats 4000000 in
theorem law_person (X : Cx p s m meth c args RL cL_law 4 (some .boolean)) (hX : va_X b0 L xz s s.heap) (hbl : b0 < s.heap.size) (hbA : ¬ A0 b0) (hL : L ≤ 3072) (hcs : cells ≤ 600000 ∧ slots ≤ 7302250) (h : SN E A0 s H locs (wT E a k b t x q u ++ wM E am v)) (hC : RepC u S) (hM : RepM v S) (i0 : 0 ≤ i) (i1 : i + 6 ≤ L) (hl : lv_has ls 4 [(3, .int (iv (i))), (2, .ref (am 0)), (1, .ref (a 0)), (0, .ref (b0))])
    (kk : ∀ (H1 : Heap) (locs1 : List Loc) (u1 : Tc) (v1 : Mc) (S1 : Sg), SN E A0 s H1 locs1 (wT E a k b t x q u1 ++ wM E am v1) → RepC u1 S1 → RepM v1 S1 → W p l e room_1 s m args below meth c H1 locs1 cells slots Q (F0 m 1291 ls [])) : W p l e room_1 s m args below meth c H locs cells slots Q (F0 m 271 ls []) := by
  obtain ⟨A, K, ik, ph, tq, tn, bq, sq, cq⟩ := S
  obtain ⟨⟨v0, fd⟩, ⟨hk, nk, k1, k2, k3, k4, k5, k6, k7, k8, k9⟩, ⟨hb, nb, xs, xi, xk, xc, xl, xr, xb, yl, yr⟩, ⟨ht, nt, t1, t2, t3, t4, t5, t6, t7, t8, t9⟩, ⟨z0, e1, e2, e3, e4, tp⟩, ⟨w0, y0, c0⟩, ⟨w1, y1, c1⟩, ⟨w2, y2, c2⟩, ⟨w3, y3, c3⟩⟩ := u
  obtain ⟨mm, kp, wa, m4, fm, gf, tm, m8, m9, m10, m11, m12, m13, bt, sz, cl⟩ := v
  have z_ : v0 = iv (ik) := hC.2.1.1
  subst z_
  have z_ : hb = iv (hr A) := hC.1.1
  subst z_
  have z_ : nb = iv (pe A) := hC.1.2.1
  subst z_
  have z_ : z0 = iv (tn) := hC.2.2.2.1.1
  subst z_
  have z_ : w0 = iv (bq 0) := hC.2.2.2.2.2.1.1
  subst z_
  have z_ : y0 = iv (sq 0) := hC.2.2.2.2.2.1.2.1
  subst z_
  have z_ : w1 = iv (bq 1) := hC.2.2.2.2.2.2.1.1
  subst z_
  have z_ : y1 = iv (sq 1) := hC.2.2.2.2.2.2.1.2.1
  subst z_
  have z_ : w2 = iv (bq 2) := hC.2.2.2.2.2.2.2.1.1
  subst z_
  have z_ : y2 = iv (sq 2) := hC.2.2.2.2.2.2.2.1.2.1
  subst z_
  have z_ : w3 = iv (bq 3) := hC.2.2.2.2.2.2.2.2.1
  subst z_
  have z_ : y3 = iv (sq 3) := hC.2.2.2.2.2.2.2.2.2.1
  subst z_
  have z_ : m4 = iv (ik) := hM.2.1.1
  subst z_
  have z_ : m8 = iv (tn) := hM.2.2.2.1.1
  subst z_
  obtain ⟨tk, -, rfl⟩ := iv_ex m9
  obtain ⟨bg, -, rfl⟩ := iv_ex m10
  obtain ⟨pt, -, rfl⟩ := iv_ex m11
  obtain ⟨vl, -, rfl⟩ := iv_ex m12
  obtain ⟨bd, -, rfl⟩ := iv_ex m13
  have hC : RepC (((iv (ik)), fd), ((hk), (nk), (k1, k2, k3, k4, k5, k6, k7, k8, k9)), ((iv (hr A)), (iv (pe A)), (xs, xi, xk, xc, xl, xr, xb, yl, yr)), ((ht), (nt), (t1, t2, t3, t4, t5, t6, t7, t8, t9)), ((iv (tn)), (e1), (e2), (e3), (e4), tp), ((iv (bq 0)), (iv (sq 0)), c0), ((iv (bq 1)), (iv (sq 1)), c1), ((iv (bq 2)), (iv (sq 2)), c2), ((iv (bq 3)), (iv (sq 3)), c3)) (A, K, ik, ph, tq, tn, bq, sq, cq) := hC
  have hM : RepM (mm, kp, wa, (iv (ik)), fm, gf, tm, (iv (tn)), (iv (tk)), (iv (bg)), (iv (pt)), (iv (vl)), (iv (bd)), bt, sz, cl) (A, K, ik, ph, tq, tn, bq, sq, cq) := hM
  have h : SN E A0 s H locs ([] ++ ((wO E a k b t x q ((iv (ik))) fd ++ (wS E k ((hk)) ((nk)) (k1, k2, k3, k4, k5, k6, k7, k8, k9) ++ (wS E b ((iv (hr A))) ((iv (pe A))) (xs, xi, xk, xc, xl, xr, xb, yl, yr) ++ (wS E t ((ht)) ((nt)) (t1, t2, t3, t4, t5, t6, t7, t8, t9) ++ (wX E x ((iv (tn))) ((e1)) ((e2)) ((e3)) ((e4)) tp ++ (wH E (q 0) ((iv (bq 0))) ((iv (sq 0))) c0 ++ (wH E (q 1) ((iv (bq 1))) ((iv (sq 1))) c1 ++ (wH E (q 2) ((iv (bq 2))) ((iv (sq 2))) c2 ++ (wH E (q 3) ((iv (bq 3))) ((iv (sq 3))) c3 ++ []))))))))) ++ wM E am (mm, kp, wa, (iv (ik)), fm, gf, tm, (iv (tn)), (iv (tk)), (iv (bg)), (iv (pt)), (iv (vl)), (iv (bd)), bt, sz, cl))) := h
  refine lv_aload_n X.1 X.2.1 dL_law_271 rfl (lv_at hl 2 rfl) ?_
  refine lv_aload_n X.1 X.2.1 dL_law_272 rfl (lv_at hl 3 rfl) ?_
  refine lv_iload_n X.1 X.2.1 dL_law_273 rfl (lv_at hl 0 rfl) ?_
  refine z_iconst X dL_law_274 ?_
  refine z_iadd X dL_law_275 ?_
  refine l_sld X hX hbl hbA hL h (by omega) (by omega) dL_law_276 ?_
  refine n_wi h (run_Vn (rest := []) X h (c_X4_person (pk := sc xz (i + 1)) hC (r32_sc _ _)) mi_X4_person ml_L_27 ⟨(Nat.le_of_ble_eq_true rfl), (Nat.le_of_ble_eq_true rfl)⟩ ⟨rfl, rfl⟩ (Seg.mk' _ _) 3 0 rfl rfl rfl rfl hl.1 rfl (Nat.le_of_ble_eq_true rfl) hcs dL_law_277) (fun _ => wT_map _ _ _ _ _ _ _ _ (((iv (ik)), fd), ((hk), (nk), (k1, k2, k3, k4, k5, k6, k7, k8, k9)), ((iv (hr A)), (iv (pe A)), (xs, xi, xk, xc, xl, xr, xb, yl, yr)), ((ht), (nt), (t1, t2, t3, t4, t5, t6, t7, t8, t9)), ((iv (tn)), (e1), (e2), (e3), (e4), tp), ((iv (bq 0)), (iv (sq 0)), c0), ((iv (bq 1)), (iv (sq 1)), c1), ((iv (bq 2)), (iv (sq 2)), c2), ((iv (bq 3)), (iv (sq 3)), c3))) (fun r1 u1 H locs hp1 h => ?_)
  obtain ⟨rfl, hC1⟩ := hp1
  have h : SN E A0 s H locs (wT E a k b t x q u1 ++ wM E am (mm, kp, wa, (iv (ik)), fm, gf, tm, (iv (tn)), (iv (tk)), (iv (bg)), (iv (pt)), (iv (vl)), (iv (bd)), bt, sz, cl)) := h
  have h := sn_nil h
  refine lv_aload_n X.1 X.2.1 dL_law_280 rfl (lv_at hl 1 rfl) ?_
  refine lv_aload_n X.1 X.2.1 dL_law_281 rfl (lv_at hl 3 rfl) ?_
  refine lv_iload_n X.1 X.2.1 dL_law_282 rfl (lv_at hl 0 rfl) ?_
  refine z_iconst X dL_law_283 ?_
  refine z_iadd X dL_law_284 ?_
  refine l_sld X hX hbl hbA hL h (by omega) (by omega) dL_law_285 ?_
  refine n_wi h (run_Vn (rest := [.int (iv _)]) X h (c_X5_person (k := sc xz (i + 1)) hM (r32_sc _ _)) mi_X5_person ml_L_30 ⟨(Nat.le_of_ble_eq_true rfl), (Nat.le_of_ble_eq_true rfl)⟩ ⟨rfl, rfl⟩ (Seg.mk' _ _) 4 43 rfl rfl rfl rfl hl.1 rfl (Nat.le_of_ble_eq_true rfl) hcs dL_law_286) (fun _ => wM_map _ _ _ _) (fun r2 u2 H locs hp2 h => ?_)
  obtain ⟨rfl, hM1⟩ := hp2
  have h := sn_lin h
  exact lv_icmp_eq (tgt := 1291) X.1 X.2.1 dL_law_289 (by decide) (fun _ => kk _ _ _ _ _ h hC1 hM1) (fun z => absurd rfl z)

set_option maxHeartbeats 4000000 in
theorem law_of (X : Cx p s m meth c args RL cL_law 4 (some .boolean)) (hX : va_X b0 L xz s s.heap) (hbl : b0 < s.heap.size) (hbA : ¬ A0 b0) (hL : L ≤ 3072) (hcs : cells ≤ 600000 ∧ slots ≤ 7302250) (h : SN E A0 s H locs (wT E a k b t x q u ++ wM E am v)) (hC : RepC u S) (hM : RepM v S) (i0 : 0 ≤ i) (i1 : i + 6 ≤ L) (hl : lv_has ls 4 [(3, .int (iv (i))), (2, .ref (am 0)), (1, .ref (a 0)), (0, .ref (b0))])
    (kk : ∀ (H1 : Heap) (locs1 : List Loc) (u1 : Tc) (v1 : Mc) (S1 : Sg), SN E A0 s H1 locs1 (wT E a k b t x q u1 ++ wM E am v1) → RepC u1 S1 → RepM v1 S1 → W p l e room_1 s m args below meth c H1 locs1 cells slots Q (F0 m 1291 ls [])) : W p l e room_1 s m args below meth c H locs cells slots Q (F0 m 294 ls []) := by
  obtain ⟨A, K, ik, ph, tq, tn, bq, sq, cq⟩ := S
  obtain ⟨⟨v0, fd⟩, ⟨hk, nk, k1, k2, k3, k4, k5, k6, k7, k8, k9⟩, ⟨hb, nb, xs, xi, xk, xc, xl, xr, xb, yl, yr⟩, ⟨ht, nt, t1, t2, t3, t4, t5, t6, t7, t8, t9⟩, ⟨z0, e1, e2, e3, e4, tp⟩, ⟨w0, y0, c0⟩, ⟨w1, y1, c1⟩, ⟨w2, y2, c2⟩, ⟨w3, y3, c3⟩⟩ := u
  obtain ⟨mm, kp, wa, m4, fm, gf, tm, m8, m9, m10, m11, m12, m13, bt, sz, cl⟩ := v
  have z_ : v0 = iv (ik) := hC.2.1.1
  subst z_
  have z_ : hb = iv (hr A) := hC.1.1
  subst z_
  have z_ : nb = iv (pe A) := hC.1.2.1
  subst z_
  have z_ : z0 = iv (tn) := hC.2.2.2.1.1
  subst z_
  have z_ : w0 = iv (bq 0) := hC.2.2.2.2.2.1.1
  subst z_
  have z_ : y0 = iv (sq 0) := hC.2.2.2.2.2.1.2.1
  subst z_
  have z_ : w1 = iv (bq 1) := hC.2.2.2.2.2.2.1.1
  subst z_
  have z_ : y1 = iv (sq 1) := hC.2.2.2.2.2.2.1.2.1
  subst z_
  have z_ : w2 = iv (bq 2) := hC.2.2.2.2.2.2.2.1.1
  subst z_
  have z_ : y2 = iv (sq 2) := hC.2.2.2.2.2.2.2.1.2.1
  subst z_
  have z_ : w3 = iv (bq 3) := hC.2.2.2.2.2.2.2.2.1
  subst z_
  have z_ : y3 = iv (sq 3) := hC.2.2.2.2.2.2.2.2.2.1
  subst z_
  have z_ : m4 = iv (ik) := hM.2.1.1
  subst z_
  have z_ : m8 = iv (tn) := hM.2.2.2.1.1
  subst z_
  obtain ⟨tk, -, rfl⟩ := iv_ex m9
  obtain ⟨bg, -, rfl⟩ := iv_ex m10
  obtain ⟨pt, -, rfl⟩ := iv_ex m11
  obtain ⟨vl, -, rfl⟩ := iv_ex m12
  obtain ⟨bd, -, rfl⟩ := iv_ex m13
  have hC : RepC (((iv (ik)), fd), ((hk), (nk), (k1, k2, k3, k4, k5, k6, k7, k8, k9)), ((iv (hr A)), (iv (pe A)), (xs, xi, xk, xc, xl, xr, xb, yl, yr)), ((ht), (nt), (t1, t2, t3, t4, t5, t6, t7, t8, t9)), ((iv (tn)), (e1), (e2), (e3), (e4), tp), ((iv (bq 0)), (iv (sq 0)), c0), ((iv (bq 1)), (iv (sq 1)), c1), ((iv (bq 2)), (iv (sq 2)), c2), ((iv (bq 3)), (iv (sq 3)), c3)) (A, K, ik, ph, tq, tn, bq, sq, cq) := hC
  have hM : RepM (mm, kp, wa, (iv (ik)), fm, gf, tm, (iv (tn)), (iv (tk)), (iv (bg)), (iv (pt)), (iv (vl)), (iv (bd)), bt, sz, cl) (A, K, ik, ph, tq, tn, bq, sq, cq) := hM
  have h : SN E A0 s H locs ([] ++ ((wO E a k b t x q ((iv (ik))) fd ++ (wS E k ((hk)) ((nk)) (k1, k2, k3, k4, k5, k6, k7, k8, k9) ++ (wS E b ((iv (hr A))) ((iv (pe A))) (xs, xi, xk, xc, xl, xr, xb, yl, yr) ++ (wS E t ((ht)) ((nt)) (t1, t2, t3, t4, t5, t6, t7, t8, t9) ++ (wX E x ((iv (tn))) ((e1)) ((e2)) ((e3)) ((e4)) tp ++ (wH E (q 0) ((iv (bq 0))) ((iv (sq 0))) c0 ++ (wH E (q 1) ((iv (bq 1))) ((iv (sq 1))) c1 ++ (wH E (q 2) ((iv (bq 2))) ((iv (sq 2))) c2 ++ (wH E (q 3) ((iv (bq 3))) ((iv (sq 3))) c3 ++ []))))))))) ++ wM E am (mm, kp, wa, (iv (ik)), fm, gf, tm, (iv (tn)), (iv (tk)), (iv (bg)), (iv (pt)), (iv (vl)), (iv (bd)), bt, sz, cl))) := h
  refine lv_aload_n X.1 X.2.1 dL_law_294 rfl (lv_at hl 2 rfl) ?_
  refine lv_aload_n X.1 X.2.1 dL_law_295 rfl (lv_at hl 3 rfl) ?_
  refine lv_iload_n X.1 X.2.1 dL_law_296 rfl (lv_at hl 0 rfl) ?_
  refine z_iconst X dL_law_297 ?_
  refine z_iadd X dL_law_298 ?_
  refine l_sld X hX hbl hbA hL h (by omega) (by omega) dL_law_299 ?_
  refine lv_aload_n X.1 X.2.1 dL_law_300 rfl (lv_at hl 3 rfl) ?_
  refine lv_iload_n X.1 X.2.1 dL_law_301 rfl (lv_at hl 0 rfl) ?_
  refine z_iconst X dL_law_302 ?_
  refine z_iadd X dL_law_303 ?_
  refine l_sld X hX hbl hbA hL h (by omega) (by omega) dL_law_304 ?_
  refine n_wi h (run_Vn (rest := []) X h (c_X4_of (px := sc xz (i + 1)) (pw := sc xz (i + 2)) hC (r32_sc _ _) (r32_sc _ _)) mi_X4_of ml_L_31 ⟨(Nat.le_of_ble_eq_true rfl), (Nat.le_of_ble_eq_true rfl)⟩ ⟨rfl, rfl⟩ (Seg.mk' _ _) 3 0 rfl rfl rfl rfl hl.1 rfl (Nat.le_of_ble_eq_true rfl) hcs dL_law_305) (fun _ => wT_map _ _ _ _ _ _ _ _ (((iv (ik)), fd), ((hk), (nk), (k1, k2, k3, k4, k5, k6, k7, k8, k9)), ((iv (hr A)), (iv (pe A)), (xs, xi, xk, xc, xl, xr, xb, yl, yr)), ((ht), (nt), (t1, t2, t3, t4, t5, t6, t7, t8, t9)), ((iv (tn)), (e1), (e2), (e3), (e4), tp), ((iv (bq 0)), (iv (sq 0)), c0), ((iv (bq 1)), (iv (sq 1)), c1), ((iv (bq 2)), (iv (sq 2)), c2), ((iv (bq 3)), (iv (sq 3)), c3))) (fun r1 u1 H locs hp1 h => ?_)
  obtain ⟨rfl, hC1⟩ := hp1
  have h : SN E A0 s H locs (wT E a k b t x q u1 ++ wM E am (mm, kp, wa, (iv (ik)), fm, gf, tm, (iv (tn)), (iv (tk)), (iv (bg)), (iv (pt)), (iv (vl)), (iv (bd)), bt, sz, cl)) := h
  have h := sn_nil h
  refine lv_aload_n X.1 X.2.1 dL_law_308 rfl (lv_at hl 1 rfl) ?_
  refine lv_aload_n X.1 X.2.1 dL_law_309 rfl (lv_at hl 3 rfl) ?_
  refine lv_iload_n X.1 X.2.1 dL_law_310 rfl (lv_at hl 0 rfl) ?_
  refine z_iconst X dL_law_311 ?_
  refine z_iadd X dL_law_312 ?_
  refine l_sld X hX hbl hbA hL h (by omega) (by omega) dL_law_313 ?_
  refine lv_aload_n X.1 X.2.1 dL_law_314 rfl (lv_at hl 3 rfl) ?_
  refine lv_iload_n X.1 X.2.1 dL_law_315 rfl (lv_at hl 0 rfl) ?_
  refine z_iconst X dL_law_316 ?_
  refine z_iadd X dL_law_317 ?_
  refine l_sld X hX hbl hbA hL h (by omega) (by omega) dL_law_318 ?_
  refine n_wi h (run_Vn (rest := [.int (iv _)]) X h (c_X5_of (x := sc xz (i + 1)) (w := sc xz (i + 2)) hM (r32_sc _ _) (r32_sc _ _)) mi_X5_of ml_L_34 ⟨(Nat.le_of_ble_eq_true rfl), (Nat.le_of_ble_eq_true rfl)⟩ ⟨rfl, rfl⟩ (Seg.mk' _ _) 4 43 rfl rfl rfl rfl hl.1 rfl (Nat.le_of_ble_eq_true rfl) hcs dL_law_319) (fun _ => wM_map _ _ _ _) (fun r2 u2 H locs hp2 h => ?_)
  obtain ⟨rfl, hM1⟩ := hp2
  have h := sn_lin h
  exact lv_icmp_eq (tgt := 1291) X.1 X.2.1 dL_law_322 (by decide) (fun _ => kk _ _ _ _ _ h hC1 hM1) (fun z => absurd rfl z)

set_option maxHeartbeats 4000000 in
theorem law_set (X : Cx p s m meth c args RL cL_law 4 (some .boolean)) (hX : va_X b0 L xz s s.heap) (hbl : b0 < s.heap.size) (hbA : ¬ A0 b0) (hL : L ≤ 3072) (hcs : cells ≤ 600000 ∧ slots ≤ 7302250) (h : SN E A0 s H locs (wT E a k b t x q u ++ wM E am v)) (hC : RepC u S) (hM : RepM v S) (i0 : 0 ≤ i) (i1 : i + 6 ≤ L) (hl : lv_has ls 4 [(3, .int (iv (i))), (2, .ref (am 0)), (1, .ref (a 0)), (0, .ref (b0))])
    (kk : ∀ (H1 : Heap) (locs1 : List Loc) (u1 : Tc) (v1 : Mc) (S1 : Sg), SN E A0 s H1 locs1 (wT E a k b t x q u1 ++ wM E am v1) → RepC u1 S1 → RepM v1 S1 → W p l e room_1 s m args below meth c H1 locs1 cells slots Q (F0 m 1291 ls [])) : W p l e room_1 s m args below meth c H locs cells slots Q (F0 m 327 ls []) := by
  obtain ⟨A, K, ik, ph, tq, tn, bq, sq, cq⟩ := S
  obtain ⟨⟨v0, fd⟩, ⟨hk, nk, k1, k2, k3, k4, k5, k6, k7, k8, k9⟩, ⟨hb, nb, xs, xi, xk, xc, xl, xr, xb, yl, yr⟩, ⟨ht, nt, t1, t2, t3, t4, t5, t6, t7, t8, t9⟩, ⟨z0, e1, e2, e3, e4, tp⟩, ⟨w0, y0, c0⟩, ⟨w1, y1, c1⟩, ⟨w2, y2, c2⟩, ⟨w3, y3, c3⟩⟩ := u
  obtain ⟨mm, kp, wa, m4, fm, gf, tm, m8, m9, m10, m11, m12, m13, bt, sz, cl⟩ := v
  have z_ : v0 = iv (ik) := hC.2.1.1
  subst z_
  have z_ : hb = iv (hr A) := hC.1.1
  subst z_
  have z_ : nb = iv (pe A) := hC.1.2.1
  subst z_
  have z_ : z0 = iv (tn) := hC.2.2.2.1.1
  subst z_
  have z_ : w0 = iv (bq 0) := hC.2.2.2.2.2.1.1
  subst z_
  have z_ : y0 = iv (sq 0) := hC.2.2.2.2.2.1.2.1
  subst z_
  have z_ : w1 = iv (bq 1) := hC.2.2.2.2.2.2.1.1
  subst z_
  have z_ : y1 = iv (sq 1) := hC.2.2.2.2.2.2.1.2.1
  subst z_
  have z_ : w2 = iv (bq 2) := hC.2.2.2.2.2.2.2.1.1
  subst z_
  have z_ : y2 = iv (sq 2) := hC.2.2.2.2.2.2.2.1.2.1
  subst z_
  have z_ : w3 = iv (bq 3) := hC.2.2.2.2.2.2.2.2.1
  subst z_
  have z_ : y3 = iv (sq 3) := hC.2.2.2.2.2.2.2.2.2.1
  subst z_
  have z_ : m4 = iv (ik) := hM.2.1.1
  subst z_
  have z_ : m8 = iv (tn) := hM.2.2.2.1.1
  subst z_
  obtain ⟨tk, -, rfl⟩ := iv_ex m9
  obtain ⟨bg, -, rfl⟩ := iv_ex m10
  obtain ⟨pt, -, rfl⟩ := iv_ex m11
  obtain ⟨vl, -, rfl⟩ := iv_ex m12
  obtain ⟨bd, -, rfl⟩ := iv_ex m13
  have hC : RepC (((iv (ik)), fd), ((hk), (nk), (k1, k2, k3, k4, k5, k6, k7, k8, k9)), ((iv (hr A)), (iv (pe A)), (xs, xi, xk, xc, xl, xr, xb, yl, yr)), ((ht), (nt), (t1, t2, t3, t4, t5, t6, t7, t8, t9)), ((iv (tn)), (e1), (e2), (e3), (e4), tp), ((iv (bq 0)), (iv (sq 0)), c0), ((iv (bq 1)), (iv (sq 1)), c1), ((iv (bq 2)), (iv (sq 2)), c2), ((iv (bq 3)), (iv (sq 3)), c3)) (A, K, ik, ph, tq, tn, bq, sq, cq) := hC
  have hM : RepM (mm, kp, wa, (iv (ik)), fm, gf, tm, (iv (tn)), (iv (tk)), (iv (bg)), (iv (pt)), (iv (vl)), (iv (bd)), bt, sz, cl) (A, K, ik, ph, tq, tn, bq, sq, cq) := hM
  have h : SN E A0 s H locs ([] ++ ((wO E a k b t x q ((iv (ik))) fd ++ (wS E k ((hk)) ((nk)) (k1, k2, k3, k4, k5, k6, k7, k8, k9) ++ (wS E b ((iv (hr A))) ((iv (pe A))) (xs, xi, xk, xc, xl, xr, xb, yl, yr) ++ (wS E t ((ht)) ((nt)) (t1, t2, t3, t4, t5, t6, t7, t8, t9) ++ (wX E x ((iv (tn))) ((e1)) ((e2)) ((e3)) ((e4)) tp ++ (wH E (q 0) ((iv (bq 0))) ((iv (sq 0))) c0 ++ (wH E (q 1) ((iv (bq 1))) ((iv (sq 1))) c1 ++ (wH E (q 2) ((iv (bq 2))) ((iv (sq 2))) c2 ++ (wH E (q 3) ((iv (bq 3))) ((iv (sq 3))) c3 ++ []))))))))) ++ wM E am (mm, kp, wa, (iv (ik)), fm, gf, tm, (iv (tn)), (iv (tk)), (iv (bg)), (iv (pt)), (iv (vl)), (iv (bd)), bt, sz, cl))) := h
  refine lv_aload_n X.1 X.2.1 dL_law_327 rfl (lv_at hl 2 rfl) ?_
  refine lv_aload_n X.1 X.2.1 dL_law_328 rfl (lv_at hl 3 rfl) ?_
  refine lv_iload_n X.1 X.2.1 dL_law_329 rfl (lv_at hl 0 rfl) ?_
  refine z_iconst X dL_law_330 ?_
  refine z_iadd X dL_law_331 ?_
  refine l_sld X hX hbl hbA hL h (by omega) (by omega) dL_law_332 ?_
  refine lv_aload_n X.1 X.2.1 dL_law_333 rfl (lv_at hl 3 rfl) ?_
  refine lv_iload_n X.1 X.2.1 dL_law_334 rfl (lv_at hl 0 rfl) ?_
  refine z_iconst X dL_law_335 ?_
  refine z_iadd X dL_law_336 ?_
  refine l_sld X hX hbl hbA hL h (by omega) (by omega) dL_law_337 ?_
  refine lv_aload_n X.1 X.2.1 dL_law_338 rfl (lv_at hl 3 rfl) ?_
  refine lv_iload_n X.1 X.2.1 dL_law_339 rfl (lv_at hl 0 rfl) ?_
  refine z_iconst X dL_law_340 ?_
  refine z_iadd X dL_law_341 ?_
  refine l_sld X hX hbl hbA hL h (by omega) (by omega) dL_law_342 ?_
  refine n_wi h (run_Vn (rest := []) X h (c_X4_set (px := sc xz (i + 1)) (pw := sc xz (i + 2)) (pv := sc xz (i + 3)) hC (r32_sc _ _) (r32_sc _ _) (r32_sc _ _)) mi_X4_set ml_L_35 ⟨(Nat.le_of_ble_eq_true rfl), (Nat.le_of_ble_eq_true rfl)⟩ ⟨rfl, rfl⟩ (Seg.mk' _ _) 3 0 rfl rfl rfl rfl hl.1 rfl (Nat.le_of_ble_eq_true rfl) hcs dL_law_343) (fun _ => wT_map _ _ _ _ _ _ _ _ (((iv (ik)), fd), ((hk), (nk), (k1, k2, k3, k4, k5, k6, k7, k8, k9)), ((iv (hr A)), (iv (pe A)), (xs, xi, xk, xc, xl, xr, xb, yl, yr)), ((ht), (nt), (t1, t2, t3, t4, t5, t6, t7, t8, t9)), ((iv (tn)), (e1), (e2), (e3), (e4), tp), ((iv (bq 0)), (iv (sq 0)), c0), ((iv (bq 1)), (iv (sq 1)), c1), ((iv (bq 2)), (iv (sq 2)), c2), ((iv (bq 3)), (iv (sq 3)), c3))) (fun r1 u1 H locs hp1 h => ?_)
  obtain ⟨rfl, hC1⟩ := hp1
  have h : SN E A0 s H locs (wT E a k b t x q u1 ++ wM E am (mm, kp, wa, (iv (ik)), fm, gf, tm, (iv (tn)), (iv (tk)), (iv (bg)), (iv (pt)), (iv (vl)), (iv (bd)), bt, sz, cl)) := h
  have h := sn_nil h
  refine lv_aload_n X.1 X.2.1 dL_law_346 rfl (lv_at hl 1 rfl) ?_
  refine lv_aload_n X.1 X.2.1 dL_law_347 rfl (lv_at hl 3 rfl) ?_
  refine lv_iload_n X.1 X.2.1 dL_law_348 rfl (lv_at hl 0 rfl) ?_
  refine z_iconst X dL_law_349 ?_
  refine z_iadd X dL_law_350 ?_
  refine l_sld X hX hbl hbA hL h (by omega) (by omega) dL_law_351 ?_
  refine lv_aload_n X.1 X.2.1 dL_law_352 rfl (lv_at hl 3 rfl) ?_
  refine lv_iload_n X.1 X.2.1 dL_law_353 rfl (lv_at hl 0 rfl) ?_
  refine z_iconst X dL_law_354 ?_
  refine z_iadd X dL_law_355 ?_
  refine l_sld X hX hbl hbA hL h (by omega) (by omega) dL_law_356 ?_
  refine lv_aload_n X.1 X.2.1 dL_law_357 rfl (lv_at hl 3 rfl) ?_
  refine lv_iload_n X.1 X.2.1 dL_law_358 rfl (lv_at hl 0 rfl) ?_
  refine z_iconst X dL_law_359 ?_
  refine z_iadd X dL_law_360 ?_
  refine l_sld X hX hbl hbA hL h (by omega) (by omega) dL_law_361 ?_
  refine n_wi h (run_Vn (rest := [.int (iv _)]) X h (c_X5_set (x := sc xz (i + 1)) (w := sc xz (i + 2)) (v := sc xz (i + 3)) hM (r32_sc _ _) (r32_sc _ _) (r32_sc _ _)) mi_X5_set ml_L_39 ⟨(Nat.le_of_ble_eq_true rfl), (Nat.le_of_ble_eq_true rfl)⟩ ⟨rfl, rfl⟩ (Seg.mk' _ _) 4 43 rfl rfl rfl rfl hl.1 rfl (Nat.le_of_ble_eq_true rfl) hcs dL_law_362) (fun _ => wM_map _ _ _ _) (fun r2 u2 H locs hp2 h => ?_)
  obtain ⟨rfl, hM1⟩ := hp2
  have h := sn_lin h
  exact lv_icmp_eq (tgt := 1291) X.1 X.2.1 dL_law_365 (by decide) (fun _ => kk _ _ _ _ _ h hC1 hM1) (fun z => absurd rfl z)

set_option maxHeartbeats 4000000 in
theorem law_turn (X : Cx p s m meth c args RL cL_law 4 (some .boolean)) (hX : va_X b0 L xz s s.heap) (hbl : b0 < s.heap.size) (hbA : ¬ A0 b0) (hL : L ≤ 3072) (hcs : cells ≤ 600000 ∧ slots ≤ 7302250) (h : SN E A0 s H locs (wT E a k b t x q u ++ wM E am v)) (hC : RepC u S) (hM : RepM v S) (i0 : 0 ≤ i) (i1 : i + 6 ≤ L) (hl : lv_has ls 4 [(3, .int (iv (i))), (2, .ref (am 0)), (1, .ref (a 0)), (0, .ref (b0))])
    (kk : ∀ (H1 : Heap) (locs1 : List Loc) (u1 : Tc) (v1 : Mc) (S1 : Sg), SN E A0 s H1 locs1 (wT E a k b t x q u1 ++ wM E am v1) → RepC u1 S1 → RepM v1 S1 → W p l e room_1 s m args below meth c H1 locs1 cells slots Q (F0 m 1291 ls [])) : W p l e room_1 s m args below meth c H locs cells slots Q (F0 m 370 ls []) := by
  obtain ⟨A, K, ik, ph, tq, tn, bq, sq, cq⟩ := S
  obtain ⟨⟨v0, fd⟩, ⟨hk, nk, k1, k2, k3, k4, k5, k6, k7, k8, k9⟩, ⟨hb, nb, xs, xi, xk, xc, xl, xr, xb, yl, yr⟩, ⟨ht, nt, t1, t2, t3, t4, t5, t6, t7, t8, t9⟩, ⟨z0, e1, e2, e3, e4, tp⟩, ⟨w0, y0, c0⟩, ⟨w1, y1, c1⟩, ⟨w2, y2, c2⟩, ⟨w3, y3, c3⟩⟩ := u
  obtain ⟨mm, kp, wa, m4, fm, gf, tm, m8, m9, m10, m11, m12, m13, bt, sz, cl⟩ := v
  have z_ : v0 = iv (ik) := hC.2.1.1
  subst z_
  have z_ : hb = iv (hr A) := hC.1.1
  subst z_
  have z_ : nb = iv (pe A) := hC.1.2.1
  subst z_
  have z_ : z0 = iv (tn) := hC.2.2.2.1.1
  subst z_
  have z_ : w0 = iv (bq 0) := hC.2.2.2.2.2.1.1
  subst z_
  have z_ : y0 = iv (sq 0) := hC.2.2.2.2.2.1.2.1
  subst z_
  have z_ : w1 = iv (bq 1) := hC.2.2.2.2.2.2.1.1
  subst z_
  have z_ : y1 = iv (sq 1) := hC.2.2.2.2.2.2.1.2.1
  subst z_
  have z_ : w2 = iv (bq 2) := hC.2.2.2.2.2.2.2.1.1
  subst z_
  have z_ : y2 = iv (sq 2) := hC.2.2.2.2.2.2.2.1.2.1
  subst z_
  have z_ : w3 = iv (bq 3) := hC.2.2.2.2.2.2.2.2.1
  subst z_
  have z_ : y3 = iv (sq 3) := hC.2.2.2.2.2.2.2.2.2.1
  subst z_
  have z_ : m4 = iv (ik) := hM.2.1.1
  subst z_
  have z_ : m8 = iv (tn) := hM.2.2.2.1.1
  subst z_
  obtain ⟨tk, -, rfl⟩ := iv_ex m9
  obtain ⟨bg, -, rfl⟩ := iv_ex m10
  obtain ⟨pt, -, rfl⟩ := iv_ex m11
  obtain ⟨vl, -, rfl⟩ := iv_ex m12
  obtain ⟨bd, -, rfl⟩ := iv_ex m13
  have hC : RepC (((iv (ik)), fd), ((hk), (nk), (k1, k2, k3, k4, k5, k6, k7, k8, k9)), ((iv (hr A)), (iv (pe A)), (xs, xi, xk, xc, xl, xr, xb, yl, yr)), ((ht), (nt), (t1, t2, t3, t4, t5, t6, t7, t8, t9)), ((iv (tn)), (e1), (e2), (e3), (e4), tp), ((iv (bq 0)), (iv (sq 0)), c0), ((iv (bq 1)), (iv (sq 1)), c1), ((iv (bq 2)), (iv (sq 2)), c2), ((iv (bq 3)), (iv (sq 3)), c3)) (A, K, ik, ph, tq, tn, bq, sq, cq) := hC
  have hM : RepM (mm, kp, wa, (iv (ik)), fm, gf, tm, (iv (tn)), (iv (tk)), (iv (bg)), (iv (pt)), (iv (vl)), (iv (bd)), bt, sz, cl) (A, K, ik, ph, tq, tn, bq, sq, cq) := hM
  have h : SN E A0 s H locs ([] ++ ((wO E a k b t x q ((iv (ik))) fd ++ (wS E k ((hk)) ((nk)) (k1, k2, k3, k4, k5, k6, k7, k8, k9) ++ (wS E b ((iv (hr A))) ((iv (pe A))) (xs, xi, xk, xc, xl, xr, xb, yl, yr) ++ (wS E t ((ht)) ((nt)) (t1, t2, t3, t4, t5, t6, t7, t8, t9) ++ (wX E x ((iv (tn))) ((e1)) ((e2)) ((e3)) ((e4)) tp ++ (wH E (q 0) ((iv (bq 0))) ((iv (sq 0))) c0 ++ (wH E (q 1) ((iv (bq 1))) ((iv (sq 1))) c1 ++ (wH E (q 2) ((iv (bq 2))) ((iv (sq 2))) c2 ++ (wH E (q 3) ((iv (bq 3))) ((iv (sq 3))) c3 ++ []))))))))) ++ wM E am (mm, kp, wa, (iv (ik)), fm, gf, tm, (iv (tn)), (iv (tk)), (iv (bg)), (iv (pt)), (iv (vl)), (iv (bd)), bt, sz, cl))) := h
  refine lv_aload_n X.1 X.2.1 dL_law_370 rfl (lv_at hl 2 rfl) ?_
  refine lv_aload_n X.1 X.2.1 dL_law_371 rfl (lv_at hl 3 rfl) ?_
  refine lv_iload_n X.1 X.2.1 dL_law_372 rfl (lv_at hl 0 rfl) ?_
  refine z_iconst X dL_law_373 ?_
  refine z_iadd X dL_law_374 ?_
  refine l_sld X hX hbl hbA hL h (by omega) (by omega) dL_law_375 ?_
  refine lv_aload_n X.1 X.2.1 dL_law_376 rfl (lv_at hl 3 rfl) ?_
  refine lv_iload_n X.1 X.2.1 dL_law_377 rfl (lv_at hl 0 rfl) ?_
  refine z_iconst X dL_law_378 ?_
  refine z_iadd X dL_law_379 ?_
  refine l_sld X hX hbl hbA hL h (by omega) (by omega) dL_law_380 ?_
  refine n_wi h (run_Vn (rest := []) X h (c_X4_turn (px := sc xz (i + 1)) (pk := sc xz (i + 2)) hC (r32_sc _ _) (r32_sc _ _)) mi_X4_turn ml_L_40 ⟨(Nat.le_of_ble_eq_true rfl), (Nat.le_of_ble_eq_true rfl)⟩ ⟨rfl, rfl⟩ (Seg.mk' _ _) 3 0 rfl rfl rfl rfl hl.1 rfl (Nat.le_of_ble_eq_true rfl) hcs dL_law_381) (fun _ => wT_map _ _ _ _ _ _ _ _ (((iv (ik)), fd), ((hk), (nk), (k1, k2, k3, k4, k5, k6, k7, k8, k9)), ((iv (hr A)), (iv (pe A)), (xs, xi, xk, xc, xl, xr, xb, yl, yr)), ((ht), (nt), (t1, t2, t3, t4, t5, t6, t7, t8, t9)), ((iv (tn)), (e1), (e2), (e3), (e4), tp), ((iv (bq 0)), (iv (sq 0)), c0), ((iv (bq 1)), (iv (sq 1)), c1), ((iv (bq 2)), (iv (sq 2)), c2), ((iv (bq 3)), (iv (sq 3)), c3))) (fun r1 u1 H locs hp1 h => ?_)
  obtain ⟨rfl, hC1⟩ := hp1
  have h : SN E A0 s H locs (wT E a k b t x q u1 ++ wM E am (mm, kp, wa, (iv (ik)), fm, gf, tm, (iv (tn)), (iv (tk)), (iv (bg)), (iv (pt)), (iv (vl)), (iv (bd)), bt, sz, cl)) := h
  have h := sn_nil h
  refine lv_aload_n X.1 X.2.1 dL_law_384 rfl (lv_at hl 1 rfl) ?_
  refine lv_aload_n X.1 X.2.1 dL_law_385 rfl (lv_at hl 3 rfl) ?_
  refine lv_iload_n X.1 X.2.1 dL_law_386 rfl (lv_at hl 0 rfl) ?_
  refine z_iconst X dL_law_387 ?_
  refine z_iadd X dL_law_388 ?_
  refine l_sld X hX hbl hbA hL h (by omega) (by omega) dL_law_389 ?_
  refine lv_aload_n X.1 X.2.1 dL_law_390 rfl (lv_at hl 3 rfl) ?_
  refine lv_iload_n X.1 X.2.1 dL_law_391 rfl (lv_at hl 0 rfl) ?_
  refine z_iconst X dL_law_392 ?_
  refine z_iadd X dL_law_393 ?_
  refine l_sld X hX hbl hbA hL h (by omega) (by omega) dL_law_394 ?_
  refine n_wi h (run_Vn (rest := [.int (iv _)]) X h (c_X5_turn (x := sc xz (i + 1)) (k := sc xz (i + 2)) hM (r32_sc _ _) (r32_sc _ _)) mi_X5_turn ml_L_43 ⟨(Nat.le_of_ble_eq_true rfl), (Nat.le_of_ble_eq_true rfl)⟩ ⟨rfl, rfl⟩ (Seg.mk' _ _) 4 43 rfl rfl rfl rfl hl.1 rfl (Nat.le_of_ble_eq_true rfl) hcs dL_law_395) (fun _ => wM_map _ _ _ _) (fun r2 u2 H locs hp2 h => ?_)
  obtain ⟨rfl, hM1⟩ := hp2
  have h := sn_lin h
  exact lv_icmp_eq (tgt := 1291) X.1 X.2.1 dL_law_398 (by decide) (fun _ => kk _ _ _ _ _ h hC1 hM1) (fun z => absurd rfl z)

set_option maxHeartbeats 4000000 in
theorem law_as (X : Cx p s m meth c args RL cL_law 4 (some .boolean)) (hX : va_X b0 L xz s s.heap) (hbl : b0 < s.heap.size) (hbA : ¬ A0 b0) (hL : L ≤ 3072) (hcs : cells ≤ 600000 ∧ slots ≤ 7302250) (h : SN E A0 s H locs (wT E a k b t x q u ++ wM E am v)) (hC : RepC u S) (hM : RepM v S) (i0 : 0 ≤ i) (i1 : i + 6 ≤ L) (hl : lv_has ls 4 [(3, .int (iv (i))), (2, .ref (am 0)), (1, .ref (a 0)), (0, .ref (b0))])
    (kk : ∀ (H1 : Heap) (locs1 : List Loc) (u1 : Tc) (v1 : Mc) (S1 : Sg), SN E A0 s H1 locs1 (wT E a k b t x q u1 ++ wM E am v1) → RepC u1 S1 → RepM v1 S1 → W p l e room_1 s m args below meth c H1 locs1 cells slots Q (F0 m 1291 ls [])) : W p l e room_1 s m args below meth c H locs cells slots Q (F0 m 403 ls []) := by
  obtain ⟨A, K, ik, ph, tq, tn, bq, sq, cq⟩ := S
  obtain ⟨⟨v0, fd⟩, ⟨hk, nk, k1, k2, k3, k4, k5, k6, k7, k8, k9⟩, ⟨hb, nb, xs, xi, xk, xc, xl, xr, xb, yl, yr⟩, ⟨ht, nt, t1, t2, t3, t4, t5, t6, t7, t8, t9⟩, ⟨z0, e1, e2, e3, e4, tp⟩, ⟨w0, y0, c0⟩, ⟨w1, y1, c1⟩, ⟨w2, y2, c2⟩, ⟨w3, y3, c3⟩⟩ := u
  obtain ⟨mm, kp, wa, m4, fm, gf, tm, m8, m9, m10, m11, m12, m13, bt, sz, cl⟩ := v
  have z_ : v0 = iv (ik) := hC.2.1.1
  subst z_
  have z_ : hb = iv (hr A) := hC.1.1
  subst z_
  have z_ : nb = iv (pe A) := hC.1.2.1
  subst z_
  have z_ : z0 = iv (tn) := hC.2.2.2.1.1
  subst z_
  have z_ : w0 = iv (bq 0) := hC.2.2.2.2.2.1.1
  subst z_
  have z_ : y0 = iv (sq 0) := hC.2.2.2.2.2.1.2.1
  subst z_
  have z_ : w1 = iv (bq 1) := hC.2.2.2.2.2.2.1.1
  subst z_
  have z_ : y1 = iv (sq 1) := hC.2.2.2.2.2.2.1.2.1
  subst z_
  have z_ : w2 = iv (bq 2) := hC.2.2.2.2.2.2.2.1.1
  subst z_
  have z_ : y2 = iv (sq 2) := hC.2.2.2.2.2.2.2.1.2.1
  subst z_
  have z_ : w3 = iv (bq 3) := hC.2.2.2.2.2.2.2.2.1
  subst z_
  have z_ : y3 = iv (sq 3) := hC.2.2.2.2.2.2.2.2.2.1
  subst z_
  have z_ : m4 = iv (ik) := hM.2.1.1
  subst z_
  have z_ : m8 = iv (tn) := hM.2.2.2.1.1
  subst z_
  obtain ⟨tk, -, rfl⟩ := iv_ex m9
  obtain ⟨bg, -, rfl⟩ := iv_ex m10
  obtain ⟨pt, -, rfl⟩ := iv_ex m11
  obtain ⟨vl, -, rfl⟩ := iv_ex m12
  obtain ⟨bd, -, rfl⟩ := iv_ex m13
  have hC : RepC (((iv (ik)), fd), ((hk), (nk), (k1, k2, k3, k4, k5, k6, k7, k8, k9)), ((iv (hr A)), (iv (pe A)), (xs, xi, xk, xc, xl, xr, xb, yl, yr)), ((ht), (nt), (t1, t2, t3, t4, t5, t6, t7, t8, t9)), ((iv (tn)), (e1), (e2), (e3), (e4), tp), ((iv (bq 0)), (iv (sq 0)), c0), ((iv (bq 1)), (iv (sq 1)), c1), ((iv (bq 2)), (iv (sq 2)), c2), ((iv (bq 3)), (iv (sq 3)), c3)) (A, K, ik, ph, tq, tn, bq, sq, cq) := hC
  have hM : RepM (mm, kp, wa, (iv (ik)), fm, gf, tm, (iv (tn)), (iv (tk)), (iv (bg)), (iv (pt)), (iv (vl)), (iv (bd)), bt, sz, cl) (A, K, ik, ph, tq, tn, bq, sq, cq) := hM
  have h : SN E A0 s H locs ([] ++ ((wO E a k b t x q ((iv (ik))) fd ++ (wS E k ((hk)) ((nk)) (k1, k2, k3, k4, k5, k6, k7, k8, k9) ++ (wS E b ((iv (hr A))) ((iv (pe A))) (xs, xi, xk, xc, xl, xr, xb, yl, yr) ++ (wS E t ((ht)) ((nt)) (t1, t2, t3, t4, t5, t6, t7, t8, t9) ++ (wX E x ((iv (tn))) ((e1)) ((e2)) ((e3)) ((e4)) tp ++ (wH E (q 0) ((iv (bq 0))) ((iv (sq 0))) c0 ++ (wH E (q 1) ((iv (bq 1))) ((iv (sq 1))) c1 ++ (wH E (q 2) ((iv (bq 2))) ((iv (sq 2))) c2 ++ (wH E (q 3) ((iv (bq 3))) ((iv (sq 3))) c3 ++ []))))))))) ++ wM E am (mm, kp, wa, (iv (ik)), fm, gf, tm, (iv (tn)), (iv (tk)), (iv (bg)), (iv (pt)), (iv (vl)), (iv (bd)), bt, sz, cl))) := h
  refine lv_aload_n X.1 X.2.1 dL_law_403 rfl (lv_at hl 2 rfl) ?_
  refine lv_aload_n X.1 X.2.1 dL_law_404 rfl (lv_at hl 3 rfl) ?_
  refine lv_iload_n X.1 X.2.1 dL_law_405 rfl (lv_at hl 0 rfl) ?_
  refine z_iconst X dL_law_406 ?_
  refine z_iadd X dL_law_407 ?_
  refine l_sld X hX hbl hbA hL h (by omega) (by omega) dL_law_408 ?_
  refine lv_aload_n X.1 X.2.1 dL_law_409 rfl (lv_at hl 3 rfl) ?_
  refine lv_iload_n X.1 X.2.1 dL_law_410 rfl (lv_at hl 0 rfl) ?_
  refine z_iconst X dL_law_411 ?_
  refine z_iadd X dL_law_412 ?_
  refine l_sld X hX hbl hbA hL h (by omega) (by omega) dL_law_413 ?_
  refine n_wi h (run_Vn (rest := []) X h (c_X4_as (px := sc xz (i + 1)) (pk := sc xz (i + 2)) hC (r32_sc _ _) (r32_sc _ _)) mi_X4_as ml_L_44 ⟨(Nat.le_of_ble_eq_true rfl), (Nat.le_of_ble_eq_true rfl)⟩ ⟨rfl, rfl⟩ (Seg.mk' _ _) 3 0 rfl rfl rfl rfl hl.1 rfl (Nat.le_of_ble_eq_true rfl) hcs dL_law_414) (fun _ => wT_map _ _ _ _ _ _ _ _ (((iv (ik)), fd), ((hk), (nk), (k1, k2, k3, k4, k5, k6, k7, k8, k9)), ((iv (hr A)), (iv (pe A)), (xs, xi, xk, xc, xl, xr, xb, yl, yr)), ((ht), (nt), (t1, t2, t3, t4, t5, t6, t7, t8, t9)), ((iv (tn)), (e1), (e2), (e3), (e4), tp), ((iv (bq 0)), (iv (sq 0)), c0), ((iv (bq 1)), (iv (sq 1)), c1), ((iv (bq 2)), (iv (sq 2)), c2), ((iv (bq 3)), (iv (sq 3)), c3))) (fun r1 u1 H locs hp1 h => ?_)
  obtain ⟨rfl, hC1⟩ := hp1
  have h : SN E A0 s H locs (wT E a k b t x q u1 ++ wM E am (mm, kp, wa, (iv (ik)), fm, gf, tm, (iv (tn)), (iv (tk)), (iv (bg)), (iv (pt)), (iv (vl)), (iv (bd)), bt, sz, cl)) := h
  have h := sn_nil h
  refine lv_aload_n X.1 X.2.1 dL_law_417 rfl (lv_at hl 1 rfl) ?_
  refine lv_aload_n X.1 X.2.1 dL_law_418 rfl (lv_at hl 3 rfl) ?_
  refine lv_iload_n X.1 X.2.1 dL_law_419 rfl (lv_at hl 0 rfl) ?_
  refine z_iconst X dL_law_420 ?_
  refine z_iadd X dL_law_421 ?_
  refine l_sld X hX hbl hbA hL h (by omega) (by omega) dL_law_422 ?_
  refine lv_aload_n X.1 X.2.1 dL_law_423 rfl (lv_at hl 3 rfl) ?_
  refine lv_iload_n X.1 X.2.1 dL_law_424 rfl (lv_at hl 0 rfl) ?_
  refine z_iconst X dL_law_425 ?_
  refine z_iadd X dL_law_426 ?_
  refine l_sld X hX hbl hbA hL h (by omega) (by omega) dL_law_427 ?_
  refine n_wi h (run_Vn (rest := [.int (iv _)]) X h (c_X5_as (x := sc xz (i + 1)) (k := sc xz (i + 2)) hM (r32_sc _ _) (r32_sc _ _)) mi_X5_as ml_L_47 ⟨(Nat.le_of_ble_eq_true rfl), (Nat.le_of_ble_eq_true rfl)⟩ ⟨rfl, rfl⟩ (Seg.mk' _ _) 4 43 rfl rfl rfl rfl hl.1 rfl (Nat.le_of_ble_eq_true rfl) hcs dL_law_428) (fun _ => wM_map _ _ _ _) (fun r2 u2 H locs hp2 h => ?_)
  obtain ⟨rfl, hM1⟩ := hp2
  have h := sn_lin h
  exact lv_icmp_eq (tgt := 1291) X.1 X.2.1 dL_law_431 (by decide) (fun _ => kk _ _ _ _ _ h hC1 hM1) (fun z => absurd rfl z)

set_option maxHeartbeats 4000000 in
theorem law_sit (X : Cx p s m meth c args RL cL_law 4 (some .boolean)) (hX : va_X b0 L xz s s.heap) (hbl : b0 < s.heap.size) (hbA : ¬ A0 b0) (hL : L ≤ 3072) (hcs : cells ≤ 600000 ∧ slots ≤ 7302250) (h : SN E A0 s H locs (wT E a k b t x q u ++ wM E am v)) (hC : RepC u S) (hM : RepM v S) (i0 : 0 ≤ i) (i1 : i + 6 ≤ L) (hl : lv_has ls 4 [(3, .int (iv (i))), (2, .ref (am 0)), (1, .ref (a 0)), (0, .ref (b0))])
    (kk : ∀ (H1 : Heap) (locs1 : List Loc) (u1 : Tc) (v1 : Mc) (S1 : Sg), SN E A0 s H1 locs1 (wT E a k b t x q u1 ++ wM E am v1) → RepC u1 S1 → RepM v1 S1 → W p l e room_1 s m args below meth c H1 locs1 cells slots Q (F0 m 1291 ls [])) : W p l e room_1 s m args below meth c H locs cells slots Q (F0 m 436 ls []) := by
  obtain ⟨A, K, ik, ph, tq, tn, bq, sq, cq⟩ := S
  obtain ⟨⟨v0, fd⟩, ⟨hk, nk, k1, k2, k3, k4, k5, k6, k7, k8, k9⟩, ⟨hb, nb, xs, xi, xk, xc, xl, xr, xb, yl, yr⟩, ⟨ht, nt, t1, t2, t3, t4, t5, t6, t7, t8, t9⟩, ⟨z0, e1, e2, e3, e4, tp⟩, ⟨w0, y0, c0⟩, ⟨w1, y1, c1⟩, ⟨w2, y2, c2⟩, ⟨w3, y3, c3⟩⟩ := u
  obtain ⟨mm, kp, wa, m4, fm, gf, tm, m8, m9, m10, m11, m12, m13, bt, sz, cl⟩ := v
  have z_ : v0 = iv (ik) := hC.2.1.1
  subst z_
  have z_ : hb = iv (hr A) := hC.1.1
  subst z_
  have z_ : nb = iv (pe A) := hC.1.2.1
  subst z_
  have z_ : z0 = iv (tn) := hC.2.2.2.1.1
  subst z_
  have z_ : w0 = iv (bq 0) := hC.2.2.2.2.2.1.1
  subst z_
  have z_ : y0 = iv (sq 0) := hC.2.2.2.2.2.1.2.1
  subst z_
  have z_ : w1 = iv (bq 1) := hC.2.2.2.2.2.2.1.1
  subst z_
  have z_ : y1 = iv (sq 1) := hC.2.2.2.2.2.2.1.2.1
  subst z_
  have z_ : w2 = iv (bq 2) := hC.2.2.2.2.2.2.2.1.1
  subst z_
  have z_ : y2 = iv (sq 2) := hC.2.2.2.2.2.2.2.1.2.1
  subst z_
  have z_ : w3 = iv (bq 3) := hC.2.2.2.2.2.2.2.2.1
  subst z_
  have z_ : y3 = iv (sq 3) := hC.2.2.2.2.2.2.2.2.2.1
  subst z_
  have z_ : m4 = iv (ik) := hM.2.1.1
  subst z_
  have z_ : m8 = iv (tn) := hM.2.2.2.1.1
  subst z_
  obtain ⟨tk, -, rfl⟩ := iv_ex m9
  obtain ⟨bg, -, rfl⟩ := iv_ex m10
  obtain ⟨pt, -, rfl⟩ := iv_ex m11
  obtain ⟨vl, -, rfl⟩ := iv_ex m12
  obtain ⟨bd, -, rfl⟩ := iv_ex m13
  have hC : RepC (((iv (ik)), fd), ((hk), (nk), (k1, k2, k3, k4, k5, k6, k7, k8, k9)), ((iv (hr A)), (iv (pe A)), (xs, xi, xk, xc, xl, xr, xb, yl, yr)), ((ht), (nt), (t1, t2, t3, t4, t5, t6, t7, t8, t9)), ((iv (tn)), (e1), (e2), (e3), (e4), tp), ((iv (bq 0)), (iv (sq 0)), c0), ((iv (bq 1)), (iv (sq 1)), c1), ((iv (bq 2)), (iv (sq 2)), c2), ((iv (bq 3)), (iv (sq 3)), c3)) (A, K, ik, ph, tq, tn, bq, sq, cq) := hC
  have hM : RepM (mm, kp, wa, (iv (ik)), fm, gf, tm, (iv (tn)), (iv (tk)), (iv (bg)), (iv (pt)), (iv (vl)), (iv (bd)), bt, sz, cl) (A, K, ik, ph, tq, tn, bq, sq, cq) := hM
  have h : SN E A0 s H locs ([] ++ ((wO E a k b t x q ((iv (ik))) fd ++ (wS E k ((hk)) ((nk)) (k1, k2, k3, k4, k5, k6, k7, k8, k9) ++ (wS E b ((iv (hr A))) ((iv (pe A))) (xs, xi, xk, xc, xl, xr, xb, yl, yr) ++ (wS E t ((ht)) ((nt)) (t1, t2, t3, t4, t5, t6, t7, t8, t9) ++ (wX E x ((iv (tn))) ((e1)) ((e2)) ((e3)) ((e4)) tp ++ (wH E (q 0) ((iv (bq 0))) ((iv (sq 0))) c0 ++ (wH E (q 1) ((iv (bq 1))) ((iv (sq 1))) c1 ++ (wH E (q 2) ((iv (bq 2))) ((iv (sq 2))) c2 ++ (wH E (q 3) ((iv (bq 3))) ((iv (sq 3))) c3 ++ []))))))))) ++ wM E am (mm, kp, wa, (iv (ik)), fm, gf, tm, (iv (tn)), (iv (tk)), (iv (bg)), (iv (pt)), (iv (vl)), (iv (bd)), bt, sz, cl))) := h
  refine lv_aload_n X.1 X.2.1 dL_law_436 rfl (lv_at hl 2 rfl) ?_
  refine lv_aload_n X.1 X.2.1 dL_law_437 rfl (lv_at hl 3 rfl) ?_
  refine lv_iload_n X.1 X.2.1 dL_law_438 rfl (lv_at hl 0 rfl) ?_
  refine z_iconst X dL_law_439 ?_
  refine z_iadd X dL_law_440 ?_
  refine l_sld X hX hbl hbA hL h (by omega) (by omega) dL_law_441 ?_
  refine lv_aload_n X.1 X.2.1 dL_law_442 rfl (lv_at hl 3 rfl) ?_
  refine lv_iload_n X.1 X.2.1 dL_law_443 rfl (lv_at hl 0 rfl) ?_
  refine z_iconst X dL_law_444 ?_
  refine z_iadd X dL_law_445 ?_
  refine l_sld X hX hbl hbA hL h (by omega) (by omega) dL_law_446 ?_
  refine n_wi h (run_Vn (rest := []) X h (c_X4_sit (px := sc xz (i + 1)) (pc := sc xz (i + 2)) hC (r32_sc _ _) (r32_sc _ _)) mi_X4_sit ml_L_48 ⟨(Nat.le_of_ble_eq_true rfl), (Nat.le_of_ble_eq_true rfl)⟩ ⟨rfl, rfl⟩ (Seg.mk' _ _) 3 0 rfl rfl rfl rfl hl.1 rfl (Nat.le_of_ble_eq_true rfl) hcs dL_law_447) (fun _ => wT_map _ _ _ _ _ _ _ _ (((iv (ik)), fd), ((hk), (nk), (k1, k2, k3, k4, k5, k6, k7, k8, k9)), ((iv (hr A)), (iv (pe A)), (xs, xi, xk, xc, xl, xr, xb, yl, yr)), ((ht), (nt), (t1, t2, t3, t4, t5, t6, t7, t8, t9)), ((iv (tn)), (e1), (e2), (e3), (e4), tp), ((iv (bq 0)), (iv (sq 0)), c0), ((iv (bq 1)), (iv (sq 1)), c1), ((iv (bq 2)), (iv (sq 2)), c2), ((iv (bq 3)), (iv (sq 3)), c3))) (fun r1 u1 H locs hp1 h => ?_)
  obtain ⟨rfl, hC1⟩ := hp1
  have h : SN E A0 s H locs (wT E a k b t x q u1 ++ wM E am (mm, kp, wa, (iv (ik)), fm, gf, tm, (iv (tn)), (iv (tk)), (iv (bg)), (iv (pt)), (iv (vl)), (iv (bd)), bt, sz, cl)) := h
  have h := sn_nil h
  refine lv_aload_n X.1 X.2.1 dL_law_450 rfl (lv_at hl 1 rfl) ?_
  refine lv_aload_n X.1 X.2.1 dL_law_451 rfl (lv_at hl 3 rfl) ?_
  refine lv_iload_n X.1 X.2.1 dL_law_452 rfl (lv_at hl 0 rfl) ?_
  refine z_iconst X dL_law_453 ?_
  refine z_iadd X dL_law_454 ?_
  refine l_sld X hX hbl hbA hL h (by omega) (by omega) dL_law_455 ?_
  refine lv_aload_n X.1 X.2.1 dL_law_456 rfl (lv_at hl 3 rfl) ?_
  refine lv_iload_n X.1 X.2.1 dL_law_457 rfl (lv_at hl 0 rfl) ?_
  refine z_iconst X dL_law_458 ?_
  refine z_iadd X dL_law_459 ?_
  refine l_sld X hX hbl hbA hL h (by omega) (by omega) dL_law_460 ?_
  refine n_wi h (run_Vn (rest := [.int (iv _)]) X h (c_X5_sit (x := sc xz (i + 1)) (ch := sc xz (i + 2)) hM (r32_sc _ _) (r32_sc _ _)) mi_X5_sit ml_L_51 ⟨(Nat.le_of_ble_eq_true rfl), (Nat.le_of_ble_eq_true rfl)⟩ ⟨rfl, rfl⟩ (Seg.mk' _ _) 4 43 rfl rfl rfl rfl hl.1 rfl (Nat.le_of_ble_eq_true rfl) hcs dL_law_461) (fun _ => wM_map _ _ _ _) (fun r2 u2 H locs hp2 h => ?_)
  obtain ⟨rfl, hM1⟩ := hp2
  have h := sn_lin h
  exact lv_icmp_eq (tgt := 1291) X.1 X.2.1 dL_law_464 (by decide) (fun _ => kk _ _ _ _ _ h hC1 hM1) (fun z => absurd rfl z)

set_option maxHeartbeats 4000000 in
theorem law_given (X : Cx p s m meth c args RL cL_law 4 (some .boolean)) (hX : va_X b0 L xz s s.heap) (hbl : b0 < s.heap.size) (hbA : ¬ A0 b0) (hL : L ≤ 3072) (hcs : cells ≤ 600000 ∧ slots ≤ 7302250) (h : SN E A0 s H locs (wT E a k b t x q u ++ wM E am v)) (hC : RepC u S) (hM : RepM v S) (i0 : 0 ≤ i) (i1 : i + 6 ≤ L) (hl : lv_has ls 4 [(3, .int (iv (i))), (2, .ref (am 0)), (1, .ref (a 0)), (0, .ref (b0))])
    (kk : ∀ (H1 : Heap) (locs1 : List Loc) (u1 : Tc) (v1 : Mc) (S1 : Sg), SN E A0 s H1 locs1 (wT E a k b t x q u1 ++ wM E am v1) → RepC u1 S1 → RepM v1 S1 → W p l e room_1 s m args below meth c H1 locs1 cells slots Q (F0 m 1291 ls [])) : W p l e room_1 s m args below meth c H locs cells slots Q (F0 m 469 ls []) := by
  obtain ⟨A, K, ik, ph, tq, tn, bq, sq, cq⟩ := S
  obtain ⟨⟨v0, fd⟩, ⟨hk, nk, k1, k2, k3, k4, k5, k6, k7, k8, k9⟩, ⟨hb, nb, xs, xi, xk, xc, xl, xr, xb, yl, yr⟩, ⟨ht, nt, t1, t2, t3, t4, t5, t6, t7, t8, t9⟩, ⟨z0, e1, e2, e3, e4, tp⟩, ⟨w0, y0, c0⟩, ⟨w1, y1, c1⟩, ⟨w2, y2, c2⟩, ⟨w3, y3, c3⟩⟩ := u
  obtain ⟨mm, kp, wa, m4, fm, gf, tm, m8, m9, m10, m11, m12, m13, bt, sz, cl⟩ := v
  have z_ : v0 = iv (ik) := hC.2.1.1
  subst z_
  have z_ : hb = iv (hr A) := hC.1.1
  subst z_
  have z_ : nb = iv (pe A) := hC.1.2.1
  subst z_
  have z_ : z0 = iv (tn) := hC.2.2.2.1.1
  subst z_
  have z_ : w0 = iv (bq 0) := hC.2.2.2.2.2.1.1
  subst z_
  have z_ : y0 = iv (sq 0) := hC.2.2.2.2.2.1.2.1
  subst z_
  have z_ : w1 = iv (bq 1) := hC.2.2.2.2.2.2.1.1
  subst z_
  have z_ : y1 = iv (sq 1) := hC.2.2.2.2.2.2.1.2.1
  subst z_
  have z_ : w2 = iv (bq 2) := hC.2.2.2.2.2.2.2.1.1
  subst z_
  have z_ : y2 = iv (sq 2) := hC.2.2.2.2.2.2.2.1.2.1
  subst z_
  have z_ : w3 = iv (bq 3) := hC.2.2.2.2.2.2.2.2.1
  subst z_
  have z_ : y3 = iv (sq 3) := hC.2.2.2.2.2.2.2.2.2.1
  subst z_
  have z_ : m4 = iv (ik) := hM.2.1.1
  subst z_
  have z_ : m8 = iv (tn) := hM.2.2.2.1.1
  subst z_
  obtain ⟨tk, -, rfl⟩ := iv_ex m9
  obtain ⟨bg, -, rfl⟩ := iv_ex m10
  obtain ⟨pt, -, rfl⟩ := iv_ex m11
  obtain ⟨vl, -, rfl⟩ := iv_ex m12
  obtain ⟨bd, -, rfl⟩ := iv_ex m13
  have hC : RepC (((iv (ik)), fd), ((hk), (nk), (k1, k2, k3, k4, k5, k6, k7, k8, k9)), ((iv (hr A)), (iv (pe A)), (xs, xi, xk, xc, xl, xr, xb, yl, yr)), ((ht), (nt), (t1, t2, t3, t4, t5, t6, t7, t8, t9)), ((iv (tn)), (e1), (e2), (e3), (e4), tp), ((iv (bq 0)), (iv (sq 0)), c0), ((iv (bq 1)), (iv (sq 1)), c1), ((iv (bq 2)), (iv (sq 2)), c2), ((iv (bq 3)), (iv (sq 3)), c3)) (A, K, ik, ph, tq, tn, bq, sq, cq) := hC
  have hM : RepM (mm, kp, wa, (iv (ik)), fm, gf, tm, (iv (tn)), (iv (tk)), (iv (bg)), (iv (pt)), (iv (vl)), (iv (bd)), bt, sz, cl) (A, K, ik, ph, tq, tn, bq, sq, cq) := hM
  have h : SN E A0 s H locs ([] ++ ((wO E a k b t x q ((iv (ik))) fd ++ (wS E k ((hk)) ((nk)) (k1, k2, k3, k4, k5, k6, k7, k8, k9) ++ (wS E b ((iv (hr A))) ((iv (pe A))) (xs, xi, xk, xc, xl, xr, xb, yl, yr) ++ (wS E t ((ht)) ((nt)) (t1, t2, t3, t4, t5, t6, t7, t8, t9) ++ (wX E x ((iv (tn))) ((e1)) ((e2)) ((e3)) ((e4)) tp ++ (wH E (q 0) ((iv (bq 0))) ((iv (sq 0))) c0 ++ (wH E (q 1) ((iv (bq 1))) ((iv (sq 1))) c1 ++ (wH E (q 2) ((iv (bq 2))) ((iv (sq 2))) c2 ++ (wH E (q 3) ((iv (bq 3))) ((iv (sq 3))) c3 ++ []))))))))) ++ wM E am (mm, kp, wa, (iv (ik)), fm, gf, tm, (iv (tn)), (iv (tk)), (iv (bg)), (iv (pt)), (iv (vl)), (iv (bd)), bt, sz, cl))) := h
  refine lv_aload_n X.1 X.2.1 dL_law_469 rfl (lv_at hl 2 rfl) ?_
  refine lv_aload_n X.1 X.2.1 dL_law_470 rfl (lv_at hl 3 rfl) ?_
  refine lv_iload_n X.1 X.2.1 dL_law_471 rfl (lv_at hl 0 rfl) ?_
  refine z_iconst X dL_law_472 ?_
  refine z_iadd X dL_law_473 ?_
  refine l_sld X hX hbl hbA hL h (by omega) (by omega) dL_law_474 ?_
  refine lv_aload_n X.1 X.2.1 dL_law_475 rfl (lv_at hl 3 rfl) ?_
  refine lv_iload_n X.1 X.2.1 dL_law_476 rfl (lv_at hl 0 rfl) ?_
  refine z_iconst X dL_law_477 ?_
  refine z_iadd X dL_law_478 ?_
  refine l_sld X hX hbl hbA hL h (by omega) (by omega) dL_law_479 ?_
  refine n_wi h (run_Vn (rest := []) X h (c_X4_given (px := sc xz (i + 1)) (pd := sc xz (i + 2)) hC (r32_sc _ _) (r32_sc _ _)) mi_X4_given ml_L_52 ⟨(Nat.le_of_ble_eq_true rfl), (Nat.le_of_ble_eq_true rfl)⟩ ⟨rfl, rfl⟩ (Seg.mk' _ _) 3 0 rfl rfl rfl rfl hl.1 rfl (Nat.le_of_ble_eq_true rfl) hcs dL_law_480) (fun _ => wT_map _ _ _ _ _ _ _ _ (((iv (ik)), fd), ((hk), (nk), (k1, k2, k3, k4, k5, k6, k7, k8, k9)), ((iv (hr A)), (iv (pe A)), (xs, xi, xk, xc, xl, xr, xb, yl, yr)), ((ht), (nt), (t1, t2, t3, t4, t5, t6, t7, t8, t9)), ((iv (tn)), (e1), (e2), (e3), (e4), tp), ((iv (bq 0)), (iv (sq 0)), c0), ((iv (bq 1)), (iv (sq 1)), c1), ((iv (bq 2)), (iv (sq 2)), c2), ((iv (bq 3)), (iv (sq 3)), c3))) (fun r1 u1 H locs hp1 h => ?_)
  obtain ⟨rfl, hC1⟩ := hp1
  have h : SN E A0 s H locs (wT E a k b t x q u1 ++ wM E am (mm, kp, wa, (iv (ik)), fm, gf, tm, (iv (tn)), (iv (tk)), (iv (bg)), (iv (pt)), (iv (vl)), (iv (bd)), bt, sz, cl)) := h
  have h := sn_nil h
  refine lv_aload_n X.1 X.2.1 dL_law_483 rfl (lv_at hl 1 rfl) ?_
  refine lv_aload_n X.1 X.2.1 dL_law_484 rfl (lv_at hl 3 rfl) ?_
  refine lv_iload_n X.1 X.2.1 dL_law_485 rfl (lv_at hl 0 rfl) ?_
  refine z_iconst X dL_law_486 ?_
  refine z_iadd X dL_law_487 ?_
  refine l_sld X hX hbl hbA hL h (by omega) (by omega) dL_law_488 ?_
  refine lv_aload_n X.1 X.2.1 dL_law_489 rfl (lv_at hl 3 rfl) ?_
  refine lv_iload_n X.1 X.2.1 dL_law_490 rfl (lv_at hl 0 rfl) ?_
  refine z_iconst X dL_law_491 ?_
  refine z_iadd X dL_law_492 ?_
  refine l_sld X hX hbl hbA hL h (by omega) (by omega) dL_law_493 ?_
  refine n_wi h (run_Vn (rest := [.int (iv _)]) X h (c_X5_given (x := sc xz (i + 1)) (d := sc xz (i + 2)) hM (r32_sc _ _) (r32_sc _ _)) mi_X5_given ml_L_55 ⟨(Nat.le_of_ble_eq_true rfl), (Nat.le_of_ble_eq_true rfl)⟩ ⟨rfl, rfl⟩ (Seg.mk' _ _) 4 43 rfl rfl rfl rfl hl.1 rfl (Nat.le_of_ble_eq_true rfl) hcs dL_law_494) (fun _ => wM_map _ _ _ _) (fun r2 u2 H locs hp2 h => ?_)
  obtain ⟨rfl, hM1⟩ := hp2
  have h := sn_lin h
  exact lv_icmp_eq (tgt := 1291) X.1 X.2.1 dL_law_497 (by decide) (fun _ => kk _ _ _ _ _ h hC1 hM1) (fun z => absurd rfl z)

set_option maxHeartbeats 4000000 in
theorem law_hours (X : Cx p s m meth c args RL cL_law 4 (some .boolean)) (hX : va_X b0 L xz s s.heap) (hbl : b0 < s.heap.size) (hbA : ¬ A0 b0) (hL : L ≤ 3072) (hcs : cells ≤ 600000 ∧ slots ≤ 7302250) (h : SN E A0 s H locs (wT E a k b t x q u ++ wM E am v)) (hC : RepC u S) (hM : RepM v S) (i0 : 0 ≤ i) (i1 : i + 6 ≤ L) (hl : lv_has ls 4 [(3, .int (iv (i))), (2, .ref (am 0)), (1, .ref (a 0)), (0, .ref (b0))])
    (kk : ∀ (H1 : Heap) (locs1 : List Loc) (u1 : Tc) (v1 : Mc) (S1 : Sg), SN E A0 s H1 locs1 (wT E a k b t x q u1 ++ wM E am v1) → RepC u1 S1 → RepM v1 S1 → W p l e room_1 s m args below meth c H1 locs1 cells slots Q (F0 m 1291 ls [])) : W p l e room_1 s m args below meth c H locs cells slots Q (F0 m 502 ls []) := by
  obtain ⟨A, K, ik, ph, tq, tn, bq, sq, cq⟩ := S
  obtain ⟨⟨v0, fd⟩, ⟨hk, nk, k1, k2, k3, k4, k5, k6, k7, k8, k9⟩, ⟨hb, nb, xs, xi, xk, xc, xl, xr, xb, yl, yr⟩, ⟨ht, nt, t1, t2, t3, t4, t5, t6, t7, t8, t9⟩, ⟨z0, e1, e2, e3, e4, tp⟩, ⟨w0, y0, c0⟩, ⟨w1, y1, c1⟩, ⟨w2, y2, c2⟩, ⟨w3, y3, c3⟩⟩ := u
  obtain ⟨mm, kp, wa, m4, fm, gf, tm, m8, m9, m10, m11, m12, m13, bt, sz, cl⟩ := v
  have z_ : v0 = iv (ik) := hC.2.1.1
  subst z_
  have z_ : hb = iv (hr A) := hC.1.1
  subst z_
  have z_ : nb = iv (pe A) := hC.1.2.1
  subst z_
  have z_ : z0 = iv (tn) := hC.2.2.2.1.1
  subst z_
  have z_ : w0 = iv (bq 0) := hC.2.2.2.2.2.1.1
  subst z_
  have z_ : y0 = iv (sq 0) := hC.2.2.2.2.2.1.2.1
  subst z_
  have z_ : w1 = iv (bq 1) := hC.2.2.2.2.2.2.1.1
  subst z_
  have z_ : y1 = iv (sq 1) := hC.2.2.2.2.2.2.1.2.1
  subst z_
  have z_ : w2 = iv (bq 2) := hC.2.2.2.2.2.2.2.1.1
  subst z_
  have z_ : y2 = iv (sq 2) := hC.2.2.2.2.2.2.2.1.2.1
  subst z_
  have z_ : w3 = iv (bq 3) := hC.2.2.2.2.2.2.2.2.1
  subst z_
  have z_ : y3 = iv (sq 3) := hC.2.2.2.2.2.2.2.2.2.1
  subst z_
  have z_ : m4 = iv (ik) := hM.2.1.1
  subst z_
  have z_ : m8 = iv (tn) := hM.2.2.2.1.1
  subst z_
  obtain ⟨tk, -, rfl⟩ := iv_ex m9
  obtain ⟨bg, -, rfl⟩ := iv_ex m10
  obtain ⟨pt, -, rfl⟩ := iv_ex m11
  obtain ⟨vl, -, rfl⟩ := iv_ex m12
  obtain ⟨bd, -, rfl⟩ := iv_ex m13
  have hC : RepC (((iv (ik)), fd), ((hk), (nk), (k1, k2, k3, k4, k5, k6, k7, k8, k9)), ((iv (hr A)), (iv (pe A)), (xs, xi, xk, xc, xl, xr, xb, yl, yr)), ((ht), (nt), (t1, t2, t3, t4, t5, t6, t7, t8, t9)), ((iv (tn)), (e1), (e2), (e3), (e4), tp), ((iv (bq 0)), (iv (sq 0)), c0), ((iv (bq 1)), (iv (sq 1)), c1), ((iv (bq 2)), (iv (sq 2)), c2), ((iv (bq 3)), (iv (sq 3)), c3)) (A, K, ik, ph, tq, tn, bq, sq, cq) := hC
  have hM : RepM (mm, kp, wa, (iv (ik)), fm, gf, tm, (iv (tn)), (iv (tk)), (iv (bg)), (iv (pt)), (iv (vl)), (iv (bd)), bt, sz, cl) (A, K, ik, ph, tq, tn, bq, sq, cq) := hM
  have h : SN E A0 s H locs ([] ++ ((wO E a k b t x q ((iv (ik))) fd ++ (wS E k ((hk)) ((nk)) (k1, k2, k3, k4, k5, k6, k7, k8, k9) ++ (wS E b ((iv (hr A))) ((iv (pe A))) (xs, xi, xk, xc, xl, xr, xb, yl, yr) ++ (wS E t ((ht)) ((nt)) (t1, t2, t3, t4, t5, t6, t7, t8, t9) ++ (wX E x ((iv (tn))) ((e1)) ((e2)) ((e3)) ((e4)) tp ++ (wH E (q 0) ((iv (bq 0))) ((iv (sq 0))) c0 ++ (wH E (q 1) ((iv (bq 1))) ((iv (sq 1))) c1 ++ (wH E (q 2) ((iv (bq 2))) ((iv (sq 2))) c2 ++ (wH E (q 3) ((iv (bq 3))) ((iv (sq 3))) c3 ++ []))))))))) ++ wM E am (mm, kp, wa, (iv (ik)), fm, gf, tm, (iv (tn)), (iv (tk)), (iv (bg)), (iv (pt)), (iv (vl)), (iv (bd)), bt, sz, cl))) := h
  refine lv_aload_n X.1 X.2.1 dL_law_502 rfl (lv_at hl 2 rfl) ?_
  refine lv_aload_n X.1 X.2.1 dL_law_503 rfl (lv_at hl 3 rfl) ?_
  refine lv_iload_n X.1 X.2.1 dL_law_504 rfl (lv_at hl 0 rfl) ?_
  refine z_iconst X dL_law_505 ?_
  refine z_iadd X dL_law_506 ?_
  refine l_sld X hX hbl hbA hL h (by omega) (by omega) dL_law_507 ?_
  refine n_wi h (run_Vn (rest := []) X h (c_X4_hours (pn := sc xz (i + 1)) hC (r32_sc _ _)) mi_X4_hours ml_L_56 ⟨(Nat.le_of_ble_eq_true rfl), (Nat.le_of_ble_eq_true rfl)⟩ ⟨rfl, rfl⟩ (Seg.mk' _ _) 3 0 rfl rfl rfl rfl hl.1 rfl (Nat.le_of_ble_eq_true rfl) hcs dL_law_508) (fun _ => wT_map _ _ _ _ _ _ _ _ (((iv (ik)), fd), ((hk), (nk), (k1, k2, k3, k4, k5, k6, k7, k8, k9)), ((iv (hr A)), (iv (pe A)), (xs, xi, xk, xc, xl, xr, xb, yl, yr)), ((ht), (nt), (t1, t2, t3, t4, t5, t6, t7, t8, t9)), ((iv (tn)), (e1), (e2), (e3), (e4), tp), ((iv (bq 0)), (iv (sq 0)), c0), ((iv (bq 1)), (iv (sq 1)), c1), ((iv (bq 2)), (iv (sq 2)), c2), ((iv (bq 3)), (iv (sq 3)), c3))) (fun r1 u1 H locs hp1 h => ?_)
  obtain ⟨rfl, hC1⟩ := hp1
  have h : SN E A0 s H locs (wT E a k b t x q u1 ++ wM E am (mm, kp, wa, (iv (ik)), fm, gf, tm, (iv (tn)), (iv (tk)), (iv (bg)), (iv (pt)), (iv (vl)), (iv (bd)), bt, sz, cl)) := h
  have h := sn_nil h
  refine lv_aload_n X.1 X.2.1 dL_law_511 rfl (lv_at hl 1 rfl) ?_
  refine lv_aload_n X.1 X.2.1 dL_law_512 rfl (lv_at hl 3 rfl) ?_
  refine lv_iload_n X.1 X.2.1 dL_law_513 rfl (lv_at hl 0 rfl) ?_
  refine z_iconst X dL_law_514 ?_
  refine z_iadd X dL_law_515 ?_
  refine l_sld X hX hbl hbA hL h (by omega) (by omega) dL_law_516 ?_
  refine n_wi h (run_Vn (rest := [.int (iv _)]) X h (c_X5_hours (n := sc xz (i + 1)) hM (r32_sc _ _)) mi_X5_hours ml_L_59 ⟨(Nat.le_of_ble_eq_true rfl), (Nat.le_of_ble_eq_true rfl)⟩ ⟨rfl, rfl⟩ (Seg.mk' _ _) 4 43 rfl rfl rfl rfl hl.1 rfl (Nat.le_of_ble_eq_true rfl) hcs dL_law_517) (fun _ => wM_map _ _ _ _) (fun r2 u2 H locs hp2 h => ?_)
  obtain ⟨rfl, hM1⟩ := hp2
  have h := sn_lin h
  exact lv_icmp_eq (tgt := 1291) X.1 X.2.1 dL_law_520 (by decide) (fun _ => kk _ _ _ _ _ h hC1 hM1) (fun z => absurd rfl z)

set_option maxHeartbeats 4000000 in
theorem law_on (X : Cx p s m meth c args RL cL_law 4 (some .boolean)) (hX : va_X b0 L xz s s.heap) (hbl : b0 < s.heap.size) (hbA : ¬ A0 b0) (hL : L ≤ 3072) (hcs : cells ≤ 600000 ∧ slots ≤ 7302250) (h : SN E A0 s H locs (wT E a k b t x q u ++ wM E am v)) (hC : RepC u S) (hM : RepM v S) (i0 : 0 ≤ i) (i1 : i + 6 ≤ L) (hl : lv_has ls 4 [(3, .int (iv (i))), (2, .ref (am 0)), (1, .ref (a 0)), (0, .ref (b0))])
    (kk : ∀ (H1 : Heap) (locs1 : List Loc) (u1 : Tc) (v1 : Mc) (S1 : Sg), SN E A0 s H1 locs1 (wT E a k b t x q u1 ++ wM E am v1) → RepC u1 S1 → RepM v1 S1 → W p l e room_1 s m args below meth c H1 locs1 cells slots Q (F0 m 1291 ls [])) : W p l e room_1 s m args below meth c H locs cells slots Q (F0 m 525 ls []) := by
  obtain ⟨A, K, ik, ph, tq, tn, bq, sq, cq⟩ := S
  obtain ⟨⟨v0, fd⟩, ⟨hk, nk, k1, k2, k3, k4, k5, k6, k7, k8, k9⟩, ⟨hb, nb, xs, xi, xk, xc, xl, xr, xb, yl, yr⟩, ⟨ht, nt, t1, t2, t3, t4, t5, t6, t7, t8, t9⟩, ⟨z0, e1, e2, e3, e4, tp⟩, ⟨w0, y0, c0⟩, ⟨w1, y1, c1⟩, ⟨w2, y2, c2⟩, ⟨w3, y3, c3⟩⟩ := u
  obtain ⟨mm, kp, wa, m4, fm, gf, tm, m8, m9, m10, m11, m12, m13, bt, sz, cl⟩ := v
  have z_ : v0 = iv (ik) := hC.2.1.1
  subst z_
  have z_ : hb = iv (hr A) := hC.1.1
  subst z_
  have z_ : nb = iv (pe A) := hC.1.2.1
  subst z_
  have z_ : z0 = iv (tn) := hC.2.2.2.1.1
  subst z_
  have z_ : w0 = iv (bq 0) := hC.2.2.2.2.2.1.1
  subst z_
  have z_ : y0 = iv (sq 0) := hC.2.2.2.2.2.1.2.1
  subst z_
  have z_ : w1 = iv (bq 1) := hC.2.2.2.2.2.2.1.1
  subst z_
  have z_ : y1 = iv (sq 1) := hC.2.2.2.2.2.2.1.2.1
  subst z_
  have z_ : w2 = iv (bq 2) := hC.2.2.2.2.2.2.2.1.1
  subst z_
  have z_ : y2 = iv (sq 2) := hC.2.2.2.2.2.2.2.1.2.1
  subst z_
  have z_ : w3 = iv (bq 3) := hC.2.2.2.2.2.2.2.2.1
  subst z_
  have z_ : y3 = iv (sq 3) := hC.2.2.2.2.2.2.2.2.2.1
  subst z_
  have z_ : m4 = iv (ik) := hM.2.1.1
  subst z_
  have z_ : m8 = iv (tn) := hM.2.2.2.1.1
  subst z_
  obtain ⟨tk, -, rfl⟩ := iv_ex m9
  obtain ⟨bg, -, rfl⟩ := iv_ex m10
  obtain ⟨pt, -, rfl⟩ := iv_ex m11
  obtain ⟨vl, -, rfl⟩ := iv_ex m12
  obtain ⟨bd, -, rfl⟩ := iv_ex m13
  have hC : RepC (((iv (ik)), fd), ((hk), (nk), (k1, k2, k3, k4, k5, k6, k7, k8, k9)), ((iv (hr A)), (iv (pe A)), (xs, xi, xk, xc, xl, xr, xb, yl, yr)), ((ht), (nt), (t1, t2, t3, t4, t5, t6, t7, t8, t9)), ((iv (tn)), (e1), (e2), (e3), (e4), tp), ((iv (bq 0)), (iv (sq 0)), c0), ((iv (bq 1)), (iv (sq 1)), c1), ((iv (bq 2)), (iv (sq 2)), c2), ((iv (bq 3)), (iv (sq 3)), c3)) (A, K, ik, ph, tq, tn, bq, sq, cq) := hC
  have hM : RepM (mm, kp, wa, (iv (ik)), fm, gf, tm, (iv (tn)), (iv (tk)), (iv (bg)), (iv (pt)), (iv (vl)), (iv (bd)), bt, sz, cl) (A, K, ik, ph, tq, tn, bq, sq, cq) := hM
  have h : SN E A0 s H locs ([] ++ ((wO E a k b t x q ((iv (ik))) fd ++ (wS E k ((hk)) ((nk)) (k1, k2, k3, k4, k5, k6, k7, k8, k9) ++ (wS E b ((iv (hr A))) ((iv (pe A))) (xs, xi, xk, xc, xl, xr, xb, yl, yr) ++ (wS E t ((ht)) ((nt)) (t1, t2, t3, t4, t5, t6, t7, t8, t9) ++ (wX E x ((iv (tn))) ((e1)) ((e2)) ((e3)) ((e4)) tp ++ (wH E (q 0) ((iv (bq 0))) ((iv (sq 0))) c0 ++ (wH E (q 1) ((iv (bq 1))) ((iv (sq 1))) c1 ++ (wH E (q 2) ((iv (bq 2))) ((iv (sq 2))) c2 ++ (wH E (q 3) ((iv (bq 3))) ((iv (sq 3))) c3 ++ []))))))))) ++ wM E am (mm, kp, wa, (iv (ik)), fm, gf, tm, (iv (tn)), (iv (tk)), (iv (bg)), (iv (pt)), (iv (vl)), (iv (bd)), bt, sz, cl))) := h
  refine lv_aload_n X.1 X.2.1 dL_law_525 rfl (lv_at hl 2 rfl) ?_
  refine lv_aload_n X.1 X.2.1 dL_law_526 rfl (lv_at hl 3 rfl) ?_
  refine lv_iload_n X.1 X.2.1 dL_law_527 rfl (lv_at hl 0 rfl) ?_
  refine z_iconst X dL_law_528 ?_
  refine z_iadd X dL_law_529 ?_
  refine l_sld X hX hbl hbA hL h (by omega) (by omega) dL_law_530 ?_
  refine lv_aload_n X.1 X.2.1 dL_law_531 rfl (lv_at hl 3 rfl) ?_
  refine lv_iload_n X.1 X.2.1 dL_law_532 rfl (lv_at hl 0 rfl) ?_
  refine z_iconst X dL_law_533 ?_
  refine z_iadd X dL_law_534 ?_
  refine l_sld X hX hbl hbA hL h (by omega) (by omega) dL_law_535 ?_
  refine lv_aload_n X.1 X.2.1 dL_law_536 rfl (lv_at hl 3 rfl) ?_
  refine lv_iload_n X.1 X.2.1 dL_law_537 rfl (lv_at hl 0 rfl) ?_
  refine z_iconst X dL_law_538 ?_
  refine z_iadd X dL_law_539 ?_
  refine l_sld X hX hbl hbA hL h (by omega) (by omega) dL_law_540 ?_
  refine n_wi h (run_Vn (rest := []) X h (c_X4_on (px := sc xz (i + 1)) (pn := sc xz (i + 2)) (pw := sc xz (i + 3)) hC (r32_sc _ _) (r32_sc _ _) (r32_sc _ _)) mi_X4_on ml_L_60 ⟨(Nat.le_of_ble_eq_true rfl), (Nat.le_of_ble_eq_true rfl)⟩ ⟨rfl, rfl⟩ (Seg.mk' _ _) 3 0 rfl rfl rfl rfl hl.1 rfl (Nat.le_of_ble_eq_true rfl) hcs dL_law_541) (fun _ => wT_map _ _ _ _ _ _ _ _ (((iv (ik)), fd), ((hk), (nk), (k1, k2, k3, k4, k5, k6, k7, k8, k9)), ((iv (hr A)), (iv (pe A)), (xs, xi, xk, xc, xl, xr, xb, yl, yr)), ((ht), (nt), (t1, t2, t3, t4, t5, t6, t7, t8, t9)), ((iv (tn)), (e1), (e2), (e3), (e4), tp), ((iv (bq 0)), (iv (sq 0)), c0), ((iv (bq 1)), (iv (sq 1)), c1), ((iv (bq 2)), (iv (sq 2)), c2), ((iv (bq 3)), (iv (sq 3)), c3))) (fun r1 u1 H locs hp1 h => ?_)
  obtain ⟨rfl, hC1⟩ := hp1
  have h : SN E A0 s H locs (wT E a k b t x q u1 ++ wM E am (mm, kp, wa, (iv (ik)), fm, gf, tm, (iv (tn)), (iv (tk)), (iv (bg)), (iv (pt)), (iv (vl)), (iv (bd)), bt, sz, cl)) := h
  have h := sn_nil h
  refine lv_aload_n X.1 X.2.1 dL_law_544 rfl (lv_at hl 1 rfl) ?_
  refine lv_aload_n X.1 X.2.1 dL_law_545 rfl (lv_at hl 3 rfl) ?_
  refine lv_iload_n X.1 X.2.1 dL_law_546 rfl (lv_at hl 0 rfl) ?_
  refine z_iconst X dL_law_547 ?_
  refine z_iadd X dL_law_548 ?_
  refine l_sld X hX hbl hbA hL h (by omega) (by omega) dL_law_549 ?_
  refine lv_aload_n X.1 X.2.1 dL_law_550 rfl (lv_at hl 3 rfl) ?_
  refine lv_iload_n X.1 X.2.1 dL_law_551 rfl (lv_at hl 0 rfl) ?_
  refine z_iconst X dL_law_552 ?_
  refine z_iadd X dL_law_553 ?_
  refine l_sld X hX hbl hbA hL h (by omega) (by omega) dL_law_554 ?_
  refine lv_aload_n X.1 X.2.1 dL_law_555 rfl (lv_at hl 3 rfl) ?_
  refine lv_iload_n X.1 X.2.1 dL_law_556 rfl (lv_at hl 0 rfl) ?_
  refine z_iconst X dL_law_557 ?_
  refine z_iadd X dL_law_558 ?_
  refine l_sld X hX hbl hbA hL h (by omega) (by omega) dL_law_559 ?_
  refine n_wi h (run_Vn (rest := [.int (iv _)]) X h (c_X5_on (x := sc xz (i + 1)) (n := sc xz (i + 2)) (w := sc xz (i + 3)) hM (r32_sc _ _) (r32_sc _ _) (r32_sc _ _)) mi_X5_on ml_L_63 ⟨(Nat.le_of_ble_eq_true rfl), (Nat.le_of_ble_eq_true rfl)⟩ ⟨rfl, rfl⟩ (Seg.mk' _ _) 4 43 rfl rfl rfl rfl hl.1 rfl (Nat.le_of_ble_eq_true rfl) hcs dL_law_560) (fun _ => wM_map _ _ _ _) (fun r2 u2 H locs hp2 h => ?_)
  obtain ⟨rfl, hM1⟩ := hp2
  have h := sn_lin h
  exact lv_icmp_eq (tgt := 1291) X.1 X.2.1 dL_law_563 (by decide) (fun _ => kk _ _ _ _ _ h hC1 hM1) (fun z => absurd rfl z)
