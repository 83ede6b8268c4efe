variable {E : EV} {l : Launch} {a b : Nat → Nat} {xs xi xk xc xl xr xb yl yr zs zi zk zc zl zr zb wl wr : Nat → Int32} {B : Es} {h9 n9 : Int32}
set_option maxHeartbeats 4000000 in
theorem c_X1_become1 (hB : RS (zs, zi, zk, zc, zl, zr, zb, wl, wr) B) (n8 : pe B ≤ 8) : MV (S := Sa) E l yX1_become cX1_become 2 (rmk 1 24) (wS E a ((h9)) ((n9)) (xs, xi, xk, xc, xl, xr, xb, yl, yr) ++ (wS E b ((iv (hr B))) ((iv (pe B))) (zs, zi, zk, zc, zl, zr, zb, wl, wr) ++ [])) [.ref (a 0), .ref (b 0)] (fun u => RS u B) (fun u => wS E a (iv (hr B)) (iv (pe B)) u ++ (wS E b ((iv (hr B))) ((iv (pe B))) (zs, zi, zk, zc, zl, zr, zb, wl, wr) ++ [])) := by
  refine goV (S := Sa) (post := fun u => RS u B) (ws' := fun u => wS E a (iv (hr B)) (iv (pe B)) u ++ (wS E b ((iv (hr B))) ((iv (pe B))) (zs, zi, zk, zc, zl, zr, zb, wl, wr) ++ [])) (by decide) (Nat.le_of_ble_eq_true rfl) ?_
  intro pp e s m below meth c ls args Q ret X h hl
  have hl : lv_has ls 2 [(0, .ref (a 0)), (1, .ref (b 0))] := hl
  refine lv_aload_n X.1 X.2.1 dX1_become_0 rfl (lv_at hl 0 rfl) ?_
  refine lv_aload_n X.1 X.2.1 dX1_become_1 rfl (lv_at hl 1 rfl) ?_
  refine z_get X h 1 10 0 rfl inX1 rfl (by decide) fl_X1_9 rfl dX1_become_2 ?_
  refine s_put X (st_nil h) 1 0 0 rfl inX1 tyX1 tyX1_ok nmX1 rfl (by decide) fl_X1_9 rfl rfl rfl (Nat.le_of_ble_eq_true rfl) dX1_become_5 (fun H locs h => ?_)
  have h := (st_lin (st_eq wS_hour h))
  have h : St E _ s H locs (wS E a ((iv (hr B))) ((n9)) (xs, xi, xk, xc, xl, xr, xb, yl, yr) ++ (wS E b ((iv (hr B))) ((iv (pe B))) (zs, zi, zk, zc, zl, zr, zb, wl, wr) ++ [])) := h
  refine lv_aload_n X.1 X.2.1 dX1_become_8 rfl (lv_at hl 0 rfl) ?_
  refine lv_aload_n X.1 X.2.1 dX1_become_9 rfl (lv_at hl 1 rfl) ?_
  refine z_get X h 1 10 1 rfl inX1 rfl (by decide) fl_X1_15 rfl dX1_become_10 ?_
  refine s_put X (st_nil h) 1 0 1 rfl inX1 tyX1 tyX1_ok nmX1 rfl (by decide) fl_X1_15 rfl rfl rfl (Nat.le_of_ble_eq_true rfl) dX1_become_13 (fun H locs h => ?_)
  have h := (st_lin (st_eq wS_people h))
  have h : St E _ s H locs (wS E a ((iv (hr B))) ((iv (pe B))) (xs, xi, xk, xc, xl, xr, xb, yl, yr) ++ (wS E b ((iv (hr B))) ((iv (pe B))) (zs, zi, zk, zc, zl, zr, zb, wl, wr) ++ [])) := h
  refine lv_aload_n X.1 X.2.1 dX1_become_16 rfl (lv_at hl 1 rfl) ?_
  refine z_get X h 1 10 2 rfl inX1 rfl (by decide) fl_X1_18 rfl dX1_become_17 ?_
  refine z_iconst X dX1_become_20 ?_
  refine lv_aload_n X.1 X.2.1 dX1_become_21 rfl (lv_at hl 0 rfl) ?_
  refine z_get X h 1 0 2 rfl inX1 rfl (by decide) fl_X1_18 rfl dX1_become_22 ?_
  refine z_iconst X dX1_become_25 ?_
  refine z_bipush X (by decide) dX1_become_26 ?_
  refine s_copyi X (st_nil h) rfl 11 1 rfl rfl ml_X1_52 (by omega) (by omega) (by omega) (by omega) (by omega) (by decide) (by decide) hl.1 (Nat.le_of_ble_eq_true rfl) (Nat.le_of_ble_eq_true rfl) dX1_become_28 (fun H locs h => ?_)
  have h := (st_lin (st_eq wS_suns h))
  have h : St E _ s H locs (wS E a ((iv (hr B))) ((iv (pe B))) ((va_cpy zs xs (0 : Int).toNat (0 : Int).toNat (10 : Int).toNat), xi, xk, xc, xl, xr, xb, yl, yr) ++ (wS E b ((iv (hr B))) ((iv (pe B))) (zs, zi, zk, zc, zl, zr, zb, wl, wr) ++ [])) := h
  refine lv_aload_n X.1 X.2.1 dX1_become_31 rfl (lv_at hl 1 rfl) ?_
  refine z_get X h 1 10 3 rfl inX1 rfl (by decide) fl_X1_22 rfl dX1_become_32 ?_
  refine z_iconst X dX1_become_35 ?_
  refine lv_aload_n X.1 X.2.1 dX1_become_36 rfl (lv_at hl 0 rfl) ?_
  refine z_get X h 1 0 3 rfl inX1 rfl (by decide) fl_X1_22 rfl dX1_become_37 ?_
  refine z_iconst X dX1_become_40 ?_
  refine z_bipush X (by decide) dX1_become_41 ?_
  refine s_copyi X (st_nil h) rfl 12 2 rfl rfl ml_X1_52 (by omega) (by omega) (by omega) (by omega) (by omega) (by decide) (by decide) hl.1 (Nat.le_of_ble_eq_true rfl) (Nat.le_of_ble_eq_true rfl) dX1_become_43 (fun H locs h => ?_)
  have h := (st_lin (st_eq wS_sitters h))
  have h : St E _ s H locs (wS E a ((iv (hr B))) ((iv (pe B))) ((va_cpy zs xs (0 : Int).toNat (0 : Int).toNat (10 : Int).toNat), (va_cpy zi xi (0 : Int).toNat (0 : Int).toNat (10 : Int).toNat), xk, xc, xl, xr, xb, yl, yr) ++ (wS E b ((iv (hr B))) ((iv (pe B))) (zs, zi, zk, zc, zl, zr, zb, wl, wr) ++ [])) := h
  refine lv_aload_n X.1 X.2.1 dX1_become_46 rfl (lv_at hl 1 rfl) ?_
  refine z_get X h 1 10 4 rfl inX1 rfl (by decide) fl_X1_25 rfl dX1_become_47 ?_
  refine z_iconst X dX1_become_50 ?_
  refine lv_aload_n X.1 X.2.1 dX1_become_51 rfl (lv_at hl 0 rfl) ?_
  refine z_get X h 1 0 4 rfl inX1 rfl (by decide) fl_X1_25 rfl dX1_become_52 ?_
  refine z_iconst X dX1_become_55 ?_
  refine z_bipush X (by decide) dX1_become_56 ?_
  refine s_copyi X (st_nil h) rfl 13 3 rfl rfl ml_X1_52 (by omega) (by omega) (by omega) (by omega) (by omega) (by decide) (by decide) hl.1 (Nat.le_of_ble_eq_true rfl) (Nat.le_of_ble_eq_true rfl) dX1_become_58 (fun H locs h => ?_)
  have h := (st_lin (st_eq wS_kinds h))
  have h : St E _ s H locs (wS E a ((iv (hr B))) ((iv (pe B))) ((va_cpy zs xs (0 : Int).toNat (0 : Int).toNat (10 : Int).toNat), (va_cpy zi xi (0 : Int).toNat (0 : Int).toNat (10 : Int).toNat), (va_cpy zk xk (0 : Int).toNat (0 : Int).toNat (8 : Int).toNat), xc, xl, xr, xb, yl, yr) ++ (wS E b ((iv (hr B))) ((iv (pe B))) (zs, zi, zk, zc, zl, zr, zb, wl, wr) ++ [])) := h
  refine lv_aload_n X.1 X.2.1 dX1_become_61 rfl (lv_at hl 1 rfl) ?_
  refine z_get X h 1 10 5 rfl inX1 rfl (by decide) fl_X1_28 rfl dX1_become_62 ?_
  refine z_iconst X dX1_become_65 ?_
  refine lv_aload_n X.1 X.2.1 dX1_become_66 rfl (lv_at hl 0 rfl) ?_
  refine z_get X h 1 0 5 rfl inX1 rfl (by decide) fl_X1_28 rfl dX1_become_67 ?_
  refine z_iconst X dX1_become_70 ?_
  refine z_bipush X (by decide) dX1_become_71 ?_
  refine s_copyi X (st_nil h) rfl 14 4 rfl rfl ml_X1_52 (by omega) (by omega) (by omega) (by omega) (by omega) (by decide) (by decide) hl.1 (Nat.le_of_ble_eq_true rfl) (Nat.le_of_ble_eq_true rfl) dX1_become_73 (fun H locs h => ?_)
  have h := (st_lin (st_eq wS_chairs h))
  have h : St E _ s H locs (wS E a ((iv (hr B))) ((iv (pe B))) ((va_cpy zs xs (0 : Int).toNat (0 : Int).toNat (10 : Int).toNat), (va_cpy zi xi (0 : Int).toNat (0 : Int).toNat (10 : Int).toNat), (va_cpy zk xk (0 : Int).toNat (0 : Int).toNat (8 : Int).toNat), (va_cpy zc xc (0 : Int).toNat (0 : Int).toNat (8 : Int).toNat), xl, xr, xb, yl, yr) ++ (wS E b ((iv (hr B))) ((iv (pe B))) (zs, zi, zk, zc, zl, zr, zb, wl, wr) ++ [])) := h
  refine lv_aload_n X.1 X.2.1 dX1_become_76 rfl (lv_at hl 1 rfl) ?_
  refine z_get X h 1 10 6 rfl inX1 rfl (by decide) fl_X1_31 rfl dX1_become_77 ?_
  refine z_iconst X dX1_become_80 ?_
  refine lv_aload_n X.1 X.2.1 dX1_become_81 rfl (lv_at hl 0 rfl) ?_
  refine z_get X h 1 0 6 rfl inX1 rfl (by decide) fl_X1_31 rfl dX1_become_82 ?_
  refine z_iconst X dX1_become_85 ?_
  refine z_bipush X (by decide) dX1_become_86 ?_
  refine s_copyi X (st_nil h) rfl 15 5 rfl rfl ml_X1_52 (by omega) (by omega) (by omega) (by omega) (by omega) (by decide) (by decide) hl.1 (Nat.le_of_ble_eq_true rfl) (Nat.le_of_ble_eq_true rfl) dX1_become_88 (fun H locs h => ?_)
  have h := (st_lin (st_eq wS_lefts h))
  have h : St E _ s H locs (wS E a ((iv (hr B))) ((iv (pe B))) ((va_cpy zs xs (0 : Int).toNat (0 : Int).toNat (10 : Int).toNat), (va_cpy zi xi (0 : Int).toNat (0 : Int).toNat (10 : Int).toNat), (va_cpy zk xk (0 : Int).toNat (0 : Int).toNat (8 : Int).toNat), (va_cpy zc xc (0 : Int).toNat (0 : Int).toNat (8 : Int).toNat), (va_cpy zl xl (0 : Int).toNat (0 : Int).toNat (8 : Int).toNat), xr, xb, yl, yr) ++ (wS E b ((iv (hr B))) ((iv (pe B))) (zs, zi, zk, zc, zl, zr, zb, wl, wr) ++ [])) := h
  refine lv_aload_n X.1 X.2.1 dX1_become_91 rfl (lv_at hl 1 rfl) ?_
  refine z_get X h 1 10 7 rfl inX1 rfl (by decide) fl_X1_34 rfl dX1_become_92 ?_
  refine z_iconst X dX1_become_95 ?_
  refine lv_aload_n X.1 X.2.1 dX1_become_96 rfl (lv_at hl 0 rfl) ?_
  refine z_get X h 1 0 7 rfl inX1 rfl (by decide) fl_X1_34 rfl dX1_become_97 ?_
  refine z_iconst X dX1_become_100 ?_
  refine z_bipush X (by decide) dX1_become_101 ?_
  refine s_copyi X (st_nil h) rfl 16 6 rfl rfl ml_X1_52 (by omega) (by omega) (by omega) (by omega) (by omega) (by decide) (by decide) hl.1 (Nat.le_of_ble_eq_true rfl) (Nat.le_of_ble_eq_true rfl) dX1_become_103 (fun H locs h => ?_)
  have h := (st_lin (st_eq wS_rights h))
  have h : St E _ s H locs (wS E a ((iv (hr B))) ((iv (pe B))) ((va_cpy zs xs (0 : Int).toNat (0 : Int).toNat (10 : Int).toNat), (va_cpy zi xi (0 : Int).toNat (0 : Int).toNat (10 : Int).toNat), (va_cpy zk xk (0 : Int).toNat (0 : Int).toNat (8 : Int).toNat), (va_cpy zc xc (0 : Int).toNat (0 : Int).toNat (8 : Int).toNat), (va_cpy zl xl (0 : Int).toNat (0 : Int).toNat (8 : Int).toNat), (va_cpy zr xr (0 : Int).toNat (0 : Int).toNat (8 : Int).toNat), xb, yl, yr) ++ (wS E b ((iv (hr B))) ((iv (pe B))) (zs, zi, zk, zc, zl, zr, zb, wl, wr) ++ [])) := h
  refine lv_aload_n X.1 X.2.1 dX1_become_106 rfl (lv_at hl 1 rfl) ?_
  refine z_get X h 1 10 8 rfl inX1 rfl (by decide) fl_X1_37 rfl dX1_become_107 ?_
  refine z_iconst X dX1_become_110 ?_
  refine lv_aload_n X.1 X.2.1 dX1_become_111 rfl (lv_at hl 0 rfl) ?_
  refine z_get X h 1 0 8 rfl inX1 rfl (by decide) fl_X1_37 rfl dX1_become_112 ?_
  refine z_iconst X dX1_become_115 ?_
  refine z_bipush X (by decide) dX1_become_116 ?_
  refine s_copyi X (st_nil h) rfl 17 7 rfl rfl ml_X1_52 (by omega) (by omega) (by omega) (by omega) (by omega) (by decide) (by decide) hl.1 (Nat.le_of_ble_eq_true rfl) (Nat.le_of_ble_eq_true rfl) dX1_become_118 (fun H locs h => ?_)
  have h := (st_lin (st_eq wS_burnts h))
  have h : St E _ s H locs (wS E a ((iv (hr B))) ((iv (pe B))) ((va_cpy zs xs (0 : Int).toNat (0 : Int).toNat (10 : Int).toNat), (va_cpy zi xi (0 : Int).toNat (0 : Int).toNat (10 : Int).toNat), (va_cpy zk xk (0 : Int).toNat (0 : Int).toNat (8 : Int).toNat), (va_cpy zc xc (0 : Int).toNat (0 : Int).toNat (8 : Int).toNat), (va_cpy zl xl (0 : Int).toNat (0 : Int).toNat (8 : Int).toNat), (va_cpy zr xr (0 : Int).toNat (0 : Int).toNat (8 : Int).toNat), (va_cpy zb xb (0 : Int).toNat (0 : Int).toNat (8 : Int).toNat), yl, yr) ++ (wS E b ((iv (hr B))) ((iv (pe B))) (zs, zi, zk, zc, zl, zr, zb, wl, wr) ++ [])) := h
  exact ret _ _ _ _ (((va_cpy zs xs (0 : Int).toNat (0 : Int).toNat (10 : Int).toNat), (va_cpy zi xi (0 : Int).toNat (0 : Int).toNat (10 : Int).toNat), (va_cpy zk xk (0 : Int).toNat (0 : Int).toNat (8 : Int).toNat), (va_cpy zc xc (0 : Int).toNat (0 : Int).toNat (8 : Int).toNat), (va_cpy zl xl (0 : Int).toNat (0 : Int).toNat (8 : Int).toNat), (va_cpy zr xr (0 : Int).toNat (0 : Int).toNat (8 : Int).toNat), (va_cpy zb xb (0 : Int).toNat (0 : Int).toNat (8 : Int).toNat), yl, yr)) h (RS_cpy hB n8) dX1_become_121

set_option maxHeartbeats 4000000 in
theorem c_X1_become2 (hB : RS (zs, zi, zk, zc, zl, zr, zb, wl, wr) B) (n8 : pe B ≤ 8) : MV (S := Sa) E l yX1_become cX1_become 2 (rmk 1 24) (wS E b ((iv (hr B))) ((iv (pe B))) (zs, zi, zk, zc, zl, zr, zb, wl, wr) ++ (wS E a ((h9)) ((n9)) (xs, xi, xk, xc, xl, xr, xb, yl, yr) ++ [])) [.ref (a 0), .ref (b 0)] (fun u => RS u B) (fun u => wS E b ((iv (hr B))) ((iv (pe B))) (zs, zi, zk, zc, zl, zr, zb, wl, wr) ++ (wS E a (iv (hr B)) (iv (pe B)) u ++ [])) := by
  refine goV (S := Sa) (post := fun u => RS u B) (ws' := fun u => wS E b ((iv (hr B))) ((iv (pe B))) (zs, zi, zk, zc, zl, zr, zb, wl, wr) ++ (wS E a (iv (hr B)) (iv (pe B)) u ++ [])) (by decide) (Nat.le_of_ble_eq_true rfl) ?_
  intro pp e s m below meth c ls args Q ret X h hl
  have hl : lv_has ls 2 [(0, .ref (a 0)), (1, .ref (b 0))] := hl
  refine lv_aload_n X.1 X.2.1 dX1_become_0 rfl (lv_at hl 0 rfl) ?_
  refine lv_aload_n X.1 X.2.1 dX1_become_1 rfl (lv_at hl 1 rfl) ?_
  refine z_get X h 1 0 0 rfl inX1 rfl (by decide) fl_X1_9 rfl dX1_become_2 ?_
  refine s_put X (st_in (st_nil h)) 1 0 0 rfl inX1 tyX1 tyX1_ok nmX1 rfl (by decide) fl_X1_9 rfl rfl rfl (Nat.le_of_ble_eq_true rfl) dX1_become_5 (fun H locs h => ?_)
  have h := (st_lin (st_out (st_eq wS_hour h)))
  have h : St E _ s H locs (wS E b ((iv (hr B))) ((iv (pe B))) (zs, zi, zk, zc, zl, zr, zb, wl, wr) ++ (wS E a ((iv (hr B))) ((n9)) (xs, xi, xk, xc, xl, xr, xb, yl, yr) ++ [])) := h
  refine lv_aload_n X.1 X.2.1 dX1_become_8 rfl (lv_at hl 0 rfl) ?_
  refine lv_aload_n X.1 X.2.1 dX1_become_9 rfl (lv_at hl 1 rfl) ?_
  refine z_get X h 1 0 1 rfl inX1 rfl (by decide) fl_X1_15 rfl dX1_become_10 ?_
  refine s_put X (st_in (st_nil h)) 1 0 1 rfl inX1 tyX1 tyX1_ok nmX1 rfl (by decide) fl_X1_15 rfl rfl rfl (Nat.le_of_ble_eq_true rfl) dX1_become_13 (fun H locs h => ?_)
  have h := (st_lin (st_out (st_eq wS_people h)))
  have h : St E _ s H locs (wS E b ((iv (hr B))) ((iv (pe B))) (zs, zi, zk, zc, zl, zr, zb, wl, wr) ++ (wS E a ((iv (hr B))) ((iv (pe B))) (xs, xi, xk, xc, xl, xr, xb, yl, yr) ++ [])) := h
  refine lv_aload_n X.1 X.2.1 dX1_become_16 rfl (lv_at hl 1 rfl) ?_
  refine z_get X h 1 0 2 rfl inX1 rfl (by decide) fl_X1_18 rfl dX1_become_17 ?_
  refine z_iconst X dX1_become_20 ?_
  refine lv_aload_n X.1 X.2.1 dX1_become_21 rfl (lv_at hl 0 rfl) ?_
  refine z_get X h 1 10 2 rfl inX1 rfl (by decide) fl_X1_18 rfl dX1_become_22 ?_
  refine z_iconst X dX1_become_25 ?_
  refine z_bipush X (by decide) dX1_become_26 ?_
  refine s_copyi X (st_in (st_nil h)) rfl 1 1 rfl rfl ml_X1_52 (by omega) (by omega) (by omega) (by omega) (by omega) (by decide) (by decide) hl.1 (Nat.le_of_ble_eq_true rfl) (Nat.le_of_ble_eq_true rfl) dX1_become_28 (fun H locs h => ?_)
  have h := (st_lin (st_out (st_eq wS_suns h)))
  have h : St E _ s H locs (wS E b ((iv (hr B))) ((iv (pe B))) (zs, zi, zk, zc, zl, zr, zb, wl, wr) ++ (wS E a ((iv (hr B))) ((iv (pe B))) ((va_cpy zs xs (0 : Int).toNat (0 : Int).toNat (10 : Int).toNat), xi, xk, xc, xl, xr, xb, yl, yr) ++ [])) := h
  refine lv_aload_n X.1 X.2.1 dX1_become_31 rfl (lv_at hl 1 rfl) ?_
  refine z_get X h 1 0 3 rfl inX1 rfl (by decide) fl_X1_22 rfl dX1_become_32 ?_
  refine z_iconst X dX1_become_35 ?_
  refine lv_aload_n X.1 X.2.1 dX1_become_36 rfl (lv_at hl 0 rfl) ?_
  refine z_get X h 1 10 3 rfl inX1 rfl (by decide) fl_X1_22 rfl dX1_become_37 ?_
  refine z_iconst X dX1_become_40 ?_
  refine z_bipush X (by decide) dX1_become_41 ?_
  refine s_copyi X (st_in (st_nil h)) rfl 2 2 rfl rfl ml_X1_52 (by omega) (by omega) (by omega) (by omega) (by omega) (by decide) (by decide) hl.1 (Nat.le_of_ble_eq_true rfl) (Nat.le_of_ble_eq_true rfl) dX1_become_43 (fun H locs h => ?_)
  have h := (st_lin (st_out (st_eq wS_sitters h)))
  have h : St E _ s H locs (wS E b ((iv (hr B))) ((iv (pe B))) (zs, zi, zk, zc, zl, zr, zb, wl, wr) ++ (wS E a ((iv (hr B))) ((iv (pe B))) ((va_cpy zs xs (0 : Int).toNat (0 : Int).toNat (10 : Int).toNat), (va_cpy zi xi (0 : Int).toNat (0 : Int).toNat (10 : Int).toNat), xk, xc, xl, xr, xb, yl, yr) ++ [])) := h
  refine lv_aload_n X.1 X.2.1 dX1_become_46 rfl (lv_at hl 1 rfl) ?_
  refine z_get X h 1 0 4 rfl inX1 rfl (by decide) fl_X1_25 rfl dX1_become_47 ?_
  refine z_iconst X dX1_become_50 ?_
  refine lv_aload_n X.1 X.2.1 dX1_become_51 rfl (lv_at hl 0 rfl) ?_
  refine z_get X h 1 10 4 rfl inX1 rfl (by decide) fl_X1_25 rfl dX1_become_52 ?_
  refine z_iconst X dX1_become_55 ?_
  refine z_bipush X (by decide) dX1_become_56 ?_
  refine s_copyi X (st_in (st_nil h)) rfl 3 3 rfl rfl ml_X1_52 (by omega) (by omega) (by omega) (by omega) (by omega) (by decide) (by decide) hl.1 (Nat.le_of_ble_eq_true rfl) (Nat.le_of_ble_eq_true rfl) dX1_become_58 (fun H locs h => ?_)
  have h := (st_lin (st_out (st_eq wS_kinds h)))
  have h : St E _ s H locs (wS E b ((iv (hr B))) ((iv (pe B))) (zs, zi, zk, zc, zl, zr, zb, wl, wr) ++ (wS E a ((iv (hr B))) ((iv (pe B))) ((va_cpy zs xs (0 : Int).toNat (0 : Int).toNat (10 : Int).toNat), (va_cpy zi xi (0 : Int).toNat (0 : Int).toNat (10 : Int).toNat), (va_cpy zk xk (0 : Int).toNat (0 : Int).toNat (8 : Int).toNat), xc, xl, xr, xb, yl, yr) ++ [])) := h
  refine lv_aload_n X.1 X.2.1 dX1_become_61 rfl (lv_at hl 1 rfl) ?_
  refine z_get X h 1 0 5 rfl inX1 rfl (by decide) fl_X1_28 rfl dX1_become_62 ?_
  refine z_iconst X dX1_become_65 ?_
  refine lv_aload_n X.1 X.2.1 dX1_become_66 rfl (lv_at hl 0 rfl) ?_
  refine z_get X h 1 10 5 rfl inX1 rfl (by decide) fl_X1_28 rfl dX1_become_67 ?_
  refine z_iconst X dX1_become_70 ?_
  refine z_bipush X (by decide) dX1_become_71 ?_
  refine s_copyi X (st_in (st_nil h)) rfl 4 4 rfl rfl ml_X1_52 (by omega) (by omega) (by omega) (by omega) (by omega) (by decide) (by decide) hl.1 (Nat.le_of_ble_eq_true rfl) (Nat.le_of_ble_eq_true rfl) dX1_become_73 (fun H locs h => ?_)
  have h := (st_lin (st_out (st_eq wS_chairs h)))
  have h : St E _ s H locs (wS E b ((iv (hr B))) ((iv (pe B))) (zs, zi, zk, zc, zl, zr, zb, wl, wr) ++ (wS E a ((iv (hr B))) ((iv (pe B))) ((va_cpy zs xs (0 : Int).toNat (0 : Int).toNat (10 : Int).toNat), (va_cpy zi xi (0 : Int).toNat (0 : Int).toNat (10 : Int).toNat), (va_cpy zk xk (0 : Int).toNat (0 : Int).toNat (8 : Int).toNat), (va_cpy zc xc (0 : Int).toNat (0 : Int).toNat (8 : Int).toNat), xl, xr, xb, yl, yr) ++ [])) := h
  refine lv_aload_n X.1 X.2.1 dX1_become_76 rfl (lv_at hl 1 rfl) ?_
  refine z_get X h 1 0 6 rfl inX1 rfl (by decide) fl_X1_31 rfl dX1_become_77 ?_
  refine z_iconst X dX1_become_80 ?_
  refine lv_aload_n X.1 X.2.1 dX1_become_81 rfl (lv_at hl 0 rfl) ?_
  refine z_get X h 1 10 6 rfl inX1 rfl (by decide) fl_X1_31 rfl dX1_become_82 ?_
  refine z_iconst X dX1_become_85 ?_
  refine z_bipush X (by decide) dX1_become_86 ?_
  refine s_copyi X (st_in (st_nil h)) rfl 5 5 rfl rfl ml_X1_52 (by omega) (by omega) (by omega) (by omega) (by omega) (by decide) (by decide) hl.1 (Nat.le_of_ble_eq_true rfl) (Nat.le_of_ble_eq_true rfl) dX1_become_88 (fun H locs h => ?_)
  have h := (st_lin (st_out (st_eq wS_lefts h)))
  have h : St E _ s H locs (wS E b ((iv (hr B))) ((iv (pe B))) (zs, zi, zk, zc, zl, zr, zb, wl, wr) ++ (wS E a ((iv (hr B))) ((iv (pe B))) ((va_cpy zs xs (0 : Int).toNat (0 : Int).toNat (10 : Int).toNat), (va_cpy zi xi (0 : Int).toNat (0 : Int).toNat (10 : Int).toNat), (va_cpy zk xk (0 : Int).toNat (0 : Int).toNat (8 : Int).toNat), (va_cpy zc xc (0 : Int).toNat (0 : Int).toNat (8 : Int).toNat), (va_cpy zl xl (0 : Int).toNat (0 : Int).toNat (8 : Int).toNat), xr, xb, yl, yr) ++ [])) := h
  refine lv_aload_n X.1 X.2.1 dX1_become_91 rfl (lv_at hl 1 rfl) ?_
  refine z_get X h 1 0 7 rfl inX1 rfl (by decide) fl_X1_34 rfl dX1_become_92 ?_
  refine z_iconst X dX1_become_95 ?_
  refine lv_aload_n X.1 X.2.1 dX1_become_96 rfl (lv_at hl 0 rfl) ?_
  refine z_get X h 1 10 7 rfl inX1 rfl (by decide) fl_X1_34 rfl dX1_become_97 ?_
  refine z_iconst X dX1_become_100 ?_
  refine z_bipush X (by decide) dX1_become_101 ?_
  refine s_copyi X (st_in (st_nil h)) rfl 6 6 rfl rfl ml_X1_52 (by omega) (by omega) (by omega) (by omega) (by omega) (by decide) (by decide) hl.1 (Nat.le_of_ble_eq_true rfl) (Nat.le_of_ble_eq_true rfl) dX1_become_103 (fun H locs h => ?_)
  have h := (st_lin (st_out (st_eq wS_rights h)))
  have h : St E _ s H locs (wS E b ((iv (hr B))) ((iv (pe B))) (zs, zi, zk, zc, zl, zr, zb, wl, wr) ++ (wS E a ((iv (hr B))) ((iv (pe B))) ((va_cpy zs xs (0 : Int).toNat (0 : Int).toNat (10 : Int).toNat), (va_cpy zi xi (0 : Int).toNat (0 : Int).toNat (10 : Int).toNat), (va_cpy zk xk (0 : Int).toNat (0 : Int).toNat (8 : Int).toNat), (va_cpy zc xc (0 : Int).toNat (0 : Int).toNat (8 : Int).toNat), (va_cpy zl xl (0 : Int).toNat (0 : Int).toNat (8 : Int).toNat), (va_cpy zr xr (0 : Int).toNat (0 : Int).toNat (8 : Int).toNat), xb, yl, yr) ++ [])) := h
  refine lv_aload_n X.1 X.2.1 dX1_become_106 rfl (lv_at hl 1 rfl) ?_
  refine z_get X h 1 0 8 rfl inX1 rfl (by decide) fl_X1_37 rfl dX1_become_107 ?_
  refine z_iconst X dX1_become_110 ?_
  refine lv_aload_n X.1 X.2.1 dX1_become_111 rfl (lv_at hl 0 rfl) ?_
  refine z_get X h 1 10 8 rfl inX1 rfl (by decide) fl_X1_37 rfl dX1_become_112 ?_
  refine z_iconst X dX1_become_115 ?_
  refine z_bipush X (by decide) dX1_become_116 ?_
  refine s_copyi X (st_in (st_nil h)) rfl 7 7 rfl rfl ml_X1_52 (by omega) (by omega) (by omega) (by omega) (by omega) (by decide) (by decide) hl.1 (Nat.le_of_ble_eq_true rfl) (Nat.le_of_ble_eq_true rfl) dX1_become_118 (fun H locs h => ?_)
  have h := (st_lin (st_out (st_eq wS_burnts h)))
  have h : St E _ s H locs (wS E b ((iv (hr B))) ((iv (pe B))) (zs, zi, zk, zc, zl, zr, zb, wl, wr) ++ (wS E a ((iv (hr B))) ((iv (pe B))) ((va_cpy zs xs (0 : Int).toNat (0 : Int).toNat (10 : Int).toNat), (va_cpy zi xi (0 : Int).toNat (0 : Int).toNat (10 : Int).toNat), (va_cpy zk xk (0 : Int).toNat (0 : Int).toNat (8 : Int).toNat), (va_cpy zc xc (0 : Int).toNat (0 : Int).toNat (8 : Int).toNat), (va_cpy zl xl (0 : Int).toNat (0 : Int).toNat (8 : Int).toNat), (va_cpy zr xr (0 : Int).toNat (0 : Int).toNat (8 : Int).toNat), (va_cpy zb xb (0 : Int).toNat (0 : Int).toNat (8 : Int).toNat), yl, yr) ++ [])) := h
  exact ret _ _ _ _ (((va_cpy zs xs (0 : Int).toNat (0 : Int).toNat (10 : Int).toNat), (va_cpy zi xi (0 : Int).toNat (0 : Int).toNat (10 : Int).toNat), (va_cpy zk xk (0 : Int).toNat (0 : Int).toNat (8 : Int).toNat), (va_cpy zc xc (0 : Int).toNat (0 : Int).toNat (8 : Int).toNat), (va_cpy zl xl (0 : Int).toNat (0 : Int).toNat (8 : Int).toNat), (va_cpy zr xr (0 : Int).toNat (0 : Int).toNat (8 : Int).toNat), (va_cpy zb xb (0 : Int).toNat (0 : Int).toNat (8 : Int).toNat), yl, yr)) h (RS_cpy hB n8) dX1_become_121
