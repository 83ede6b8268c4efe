variable {E : EV} {l : Launch} {h0 : Nat}
theorem st_in2 {A : Nat → Prop} {s : State} {H : Heap} {locs : List Loc} {P B C D : va_W} (h : SN E A s H locs (P ++ ((B ++ C) ++ D))) : SN E A s H locs (P ++ (B ++ (C ++ D))) := by rw [List.append_assoc] at h; exact h

set_option maxHeartbeats 4000000 in
theorem c_X4_init : MN (S := (Nat → Nat) × (Nat → Nat) × (Nat → Nat) × (Nat → Nat) × (Nat → Nat) × (Nat → Nat → Nat) × Tc) E l GX yX4_init cX4_init 2 (rmc 2 44 42 570) 42 570 ([(h0, .inr (3, [.null, .null, .null, .null, .null, .null, .int (iv (0))]))]) [.ref (h0)] (fun u => u.1 0 = h0 ∧ RepC u.2.2.2.2.2.2 Sg0) (fun u => wT E u.1 u.2.1 u.2.2.1 u.2.2.2.1 u.2.2.2.2.1 u.2.2.2.2.2.1 u.2.2.2.2.2.2) := by
  refine goN (S := (Nat → Nat) × (Nat → Nat) × (Nat → Nat) × (Nat → Nat) × (Nat → Nat) × (Nat → Nat → Nat) × Tc) (post := fun u => u.1 0 = h0 ∧ RepC u.2.2.2.2.2.2 Sg0) (ws' := fun u => wT E u.1 u.2.1 u.2.2.1 u.2.2.2.1 u.2.2.2.2.1 u.2.2.2.2.2.1 u.2.2.2.2.2.2) (by decide) rfl (Nat.le_of_ble_eq_true rfl) ?_
  intro A pp e s m below meth c ls args Q ret X hin hG h hl
  have hl : lv_has ls 2 [(0, .ref (h0))] := hl
  refine lv_aload_n X.1 X.2.1 dX4_init_0 rfl (lv_at hl 0 rfl) ?_
  refine n_obj X hl.1 ml_X4_1 (Nat.le_of_ble_eq_true rfl) (Nat.le_of_ble_eq_true rfl) dX4_init_1 ?_
  have h : SN E A s _ _ ([(h0, .inr (3, [.null, .null, .null, .null, .null, .null, .int (iv (0))]))] ++ ([])) := h
  refine lv_aload_n X.1 X.2.1 dX4_init_4 rfl (lv_at hl 0 rfl) ?_
  refine n_new (fs := [.int (iv (0)), .int (iv (0)), .null, .null, .null, .null, .null, .null, .null, .null, .null]) X h 1 rfl inX1 tyX1 tyX1_ok cl_X4_7 it_X1 in_X1 (fun j hj => by rcases (show j = 0 ∨ j = 1 ∨ j = 2 ∨ j = 3 ∨ j = 4 ∨ j = 5 ∨ j = 6 ∨ j = 7 ∨ j = 8 ∨ j = 9 ∨ j = 10 by omega) with rfl | rfl | rfl | rfl | rfl | rfl | rfl | rfl | rfl | rfl | rfl <;> rfl) (Nat.le_of_ble_eq_true rfl) (Nat.le_of_ble_eq_true rfl) dX4_init_5 (fun q5 H h => ?_)
  have h : SN E A s _ _ (([(h0, .inr (3, [.null, .null, .null, .null, .null, .null, .int (iv (0))]))] ++ ([])) ++ [(q5, .inr (1, [.int (iv (0)), .int (iv (0)), .null, .null, .null, .null, .null, .null, .null, .null, .null]))]) := h
  refine lv_dup X.1 X.2.1 dX4_init_8 rfl ?_
  refine n_init (rest := [.ref (q5), .ref (h0)]) X h c_X1_init (fun _ _ _ _ _ => trivial) (fun _ _ => trivial) co_X1_init im_X1_init in_X1 (by decide +kernel) ml_X4_9 ⟨(Nat.le_of_ble_eq_true rfl), (Nat.le_of_ble_eq_true rfl)⟩ ⟨rfl, rfl⟩ hl.1 (Nat.le_of_ble_eq_true rfl) ⟨(Nat.le_of_ble_eq_true rfl), (Nat.le_of_ble_eq_true rfl)⟩ dX4_init_9 (fun u12 H locs hp hN => ?_)
  obtain ⟨b, Gb⟩ := u12
  obtain ⟨hp, hRb⟩ := hp
  have hp : b 0 = q5 := hp
  subst hp
  have h := sn_asc hN
  have h : SN E A s _ _ ([(h0, .inr (3, [.null, .null, .null, .null, .null, .null, .int (iv (0))]))] ++ (([]) ++ wS E b (iv (0)) (iv (0)) Gb)) := h
  refine n_putF0 X hin 3 0 h rfl inX4 tyX4 tyX4_ok nmX4 (by decide) fl_X4_10 rfl rfl rfl rfl (Nat.le_of_ble_eq_true rfl) dX4_init_12 (fun H locs h => ?_)
  have h : SN E A s _ _ ([(h0, .inr (3, [.ref (b 0), .null, .null, .null, .null, .null, .int (iv (0))]))] ++ (([]) ++ wS E b (iv (0)) (iv (0)) Gb)) := h
  refine lv_aload_n X.1 X.2.1 dX4_init_15 rfl (lv_at hl 0 rfl) ?_
  refine n_new (fs := [.int (iv (0)), .int (iv (0)), .null, .null, .null, .null, .null, .null, .null, .null, .null]) X h 1 rfl inX1 tyX1 tyX1_ok cl_X4_7 it_X1 in_X1 (fun j hj => by rcases (show j = 0 ∨ j = 1 ∨ j = 2 ∨ j = 3 ∨ j = 4 ∨ j = 5 ∨ j = 6 ∨ j = 7 ∨ j = 8 ∨ j = 9 ∨ j = 10 by omega) with rfl | rfl | rfl | rfl | rfl | rfl | rfl | rfl | rfl | rfl | rfl <;> rfl) (Nat.le_of_ble_eq_true rfl) (Nat.le_of_ble_eq_true rfl) dX4_init_16 (fun q16 H h => ?_)
  have h : SN E A s _ _ (([(h0, .inr (3, [.ref (b 0), .null, .null, .null, .null, .null, .int (iv (0))]))] ++ (([]) ++ wS E b (iv (0)) (iv (0)) Gb)) ++ [(q16, .inr (1, [.int (iv (0)), .int (iv (0)), .null, .null, .null, .null, .null, .null, .null, .null, .null]))]) := h
  refine lv_dup X.1 X.2.1 dX4_init_19 rfl ?_
  refine n_init (rest := [.ref (q16), .ref (h0)]) X h c_X1_init (fun _ _ _ _ _ => trivial) (fun _ _ => trivial) co_X1_init im_X1_init in_X1 (by decide +kernel) ml_X4_9 ⟨(Nat.le_of_ble_eq_true rfl), (Nat.le_of_ble_eq_true rfl)⟩ ⟨rfl, rfl⟩ hl.1 (Nat.le_of_ble_eq_true rfl) ⟨(Nat.le_of_ble_eq_true rfl), (Nat.le_of_ble_eq_true rfl)⟩ dX4_init_20 (fun u23 H locs hp hN => ?_)
  obtain ⟨t, Gt⟩ := u23
  obtain ⟨hp, hRt⟩ := hp
  have hp : t 0 = q16 := hp
  subst hp
  have h := sn_asc hN
  have h : SN E A s _ _ ([(h0, .inr (3, [.ref (b 0), .null, .null, .null, .null, .null, .int (iv (0))]))] ++ ((([]) ++ wS E b (iv (0)) (iv (0)) Gb) ++ wS E t (iv (0)) (iv (0)) Gt)) := h
  refine n_putF0 X hin 3 1 h rfl inX4 tyX4 tyX4_ok nmX4 (by decide) fl_X4_16 rfl rfl rfl rfl (Nat.le_of_ble_eq_true rfl) dX4_init_23 (fun H locs h => ?_)
  have h : SN E A s _ _ ([(h0, .inr (3, [.ref (b 0), .ref (t 0), .null, .null, .null, .null, .int (iv (0))]))] ++ ((([]) ++ wS E b (iv (0)) (iv (0)) Gb) ++ wS E t (iv (0)) (iv (0)) Gt)) := h
  refine lv_aload_n X.1 X.2.1 dX4_init_26 rfl (lv_at hl 0 rfl) ?_
  refine n_new (fs := [.int (iv (0)), .int (iv (0)), .null, .null, .null, .null, .null, .null, .null, .null, .null]) X h 1 rfl inX1 tyX1 tyX1_ok cl_X4_7 it_X1 in_X1 (fun j hj => by rcases (show j = 0 ∨ j = 1 ∨ j = 2 ∨ j = 3 ∨ j = 4 ∨ j = 5 ∨ j = 6 ∨ j = 7 ∨ j = 8 ∨ j = 9 ∨ j = 10 by omega) with rfl | rfl | rfl | rfl | rfl | rfl | rfl | rfl | rfl | rfl | rfl <;> rfl) (Nat.le_of_ble_eq_true rfl) (Nat.le_of_ble_eq_true rfl) dX4_init_27 (fun q27 H h => ?_)
  have h : SN E A s _ _ (([(h0, .inr (3, [.ref (b 0), .ref (t 0), .null, .null, .null, .null, .int (iv (0))]))] ++ ((([]) ++ wS E b (iv (0)) (iv (0)) Gb) ++ wS E t (iv (0)) (iv (0)) Gt)) ++ [(q27, .inr (1, [.int (iv (0)), .int (iv (0)), .null, .null, .null, .null, .null, .null, .null, .null, .null]))]) := h
  refine lv_dup X.1 X.2.1 dX4_init_30 rfl ?_
  refine n_init (rest := [.ref (q27), .ref (h0)]) X h c_X1_init (fun _ _ _ _ _ => trivial) (fun _ _ => trivial) co_X1_init im_X1_init in_X1 (by decide +kernel) ml_X4_9 ⟨(Nat.le_of_ble_eq_true rfl), (Nat.le_of_ble_eq_true rfl)⟩ ⟨rfl, rfl⟩ hl.1 (Nat.le_of_ble_eq_true rfl) ⟨(Nat.le_of_ble_eq_true rfl), (Nat.le_of_ble_eq_true rfl)⟩ dX4_init_31 (fun u34 H locs hp hN => ?_)
  obtain ⟨k, Gk⟩ := u34
  obtain ⟨hp, hRk⟩ := hp
  have hp : k 0 = q27 := hp
  subst hp
  have h := sn_asc hN
  have h : SN E A s _ _ ([(h0, .inr (3, [.ref (b 0), .ref (t 0), .null, .null, .null, .null, .int (iv (0))]))] ++ (((([]) ++ wS E b (iv (0)) (iv (0)) Gb) ++ wS E t (iv (0)) (iv (0)) Gt) ++ wS E k (iv (0)) (iv (0)) Gk)) := h
  refine n_putF0 X hin 3 2 h rfl inX4 tyX4 tyX4_ok nmX4 (by decide) fl_X4_19 rfl rfl rfl rfl (Nat.le_of_ble_eq_true rfl) dX4_init_34 (fun H locs h => ?_)
  have h : SN E A s _ _ ([(h0, .inr (3, [.ref (b 0), .ref (t 0), .ref (k 0), .null, .null, .null, .int (iv (0))]))] ++ (((([]) ++ wS E b (iv (0)) (iv (0)) Gb) ++ wS E t (iv (0)) (iv (0)) Gt) ++ wS E k (iv (0)) (iv (0)) Gk)) := h
  refine lv_aload_n X.1 X.2.1 dX4_init_37 rfl (lv_at hl 0 rfl) ?_
  refine n_new (fs := [.int (iv (0)), .null, .int (iv (0)), .int (iv (0)), .int (iv (0)), .int (iv (0))]) X h 2 rfl inX2 tyX2 tyX2_ok cl_X4_22 it_X2 in_X2 (fun j hj => by rcases (show j = 0 ∨ j = 1 ∨ j = 2 ∨ j = 3 ∨ j = 4 ∨ j = 5 by omega) with rfl | rfl | rfl | rfl | rfl | rfl <;> rfl) (Nat.le_of_ble_eq_true rfl) (Nat.le_of_ble_eq_true rfl) dX4_init_38 (fun q38 H h => ?_)
  have h : SN E A s _ _ (([(h0, .inr (3, [.ref (b 0), .ref (t 0), .ref (k 0), .null, .null, .null, .int (iv (0))]))] ++ (((([]) ++ wS E b (iv (0)) (iv (0)) Gb) ++ wS E t (iv (0)) (iv (0)) Gt) ++ wS E k (iv (0)) (iv (0)) Gk)) ++ [(q38, .inr (2, [.int (iv (0)), .null, .int (iv (0)), .int (iv (0)), .int (iv (0)), .int (iv (0))]))]) := h
  refine lv_dup X.1 X.2.1 dX4_init_41 rfl ?_
  refine n_initN (rest := [.ref (q38), .ref (h0)]) X h c_X2_init (fun _ _ _ _ _ => trivial) (fun _ _ => trivial) co_X2_init im_X2_init in_X2 (by decide +kernel) hG.1 ⟨(Nat.le_of_ble_eq_true rfl), (Nat.le_of_ble_eq_true rfl)⟩ ⟨rfl, rfl⟩ hl.1 (Nat.le_of_ble_eq_true rfl) ⟨(Nat.le_of_ble_eq_true rfl), (Nat.le_of_ble_eq_true rfl)⟩ dX4_init_42 (fun u45 H locs hp hN => ?_)
  obtain ⟨x, rfl⟩ : ∃ z, z = u45 := ⟨_, rfl⟩
  have hp : x 0 = q38 := hp
  subst hp
  have h := sn_asc hN
  have h : SN E A s _ _ ([(h0, .inr (3, [.ref (b 0), .ref (t 0), .ref (k 0), .null, .null, .null, .int (iv (0))]))] ++ ((((([]) ++ wS E b (iv (0)) (iv (0)) Gb) ++ wS E t (iv (0)) (iv (0)) Gt) ++ wS E k (iv (0)) (iv (0)) Gk) ++ wX E x (iv (0)) (iv (0)) (iv (0)) (iv (0)) (iv (0)) (fun _ => 0))) := h
  refine n_putF0 X hin 3 3 h rfl inX4 tyX4 tyX4_ok nmX4 (by decide) fl_X4_25 rfl rfl rfl rfl (Nat.le_of_ble_eq_true rfl) dX4_init_45 (fun H locs h => ?_)
  have h : SN E A s _ _ ([(h0, .inr (3, [.ref (b 0), .ref (t 0), .ref (k 0), .ref (x 0), .null, .null, .int (iv (0))]))] ++ ((((([]) ++ wS E b (iv (0)) (iv (0)) Gb) ++ wS E t (iv (0)) (iv (0)) Gt) ++ wS E k (iv (0)) (iv (0)) Gk) ++ wX E x (iv (0)) (iv (0)) (iv (0)) (iv (0)) (iv (0)) (fun _ => 0))) := h
  refine lv_aload_n X.1 X.2.1 dX4_init_48 rfl (lv_at hl 0 rfl) ?_
  refine z_iconst X dX4_init_49 ?_
  refine n_newq (N := 4) X h cl_X4_29 hG.2.2 rfl (by decide) (Nat.le_of_ble_eq_true rfl) (Nat.le_of_ble_eq_true rfl) (Nat.le_of_ble_eq_true rfl) dX4_init_50 (fun q50 H h => ?_)
  have h := sn_asc h
  have h : SN E A s _ _ ([(h0, .inr (3, [.ref (b 0), .ref (t 0), .ref (k 0), .ref (x 0), .null, .null, .int (iv (0))]))] ++ (((((([]) ++ wS E b (iv (0)) (iv (0)) Gb) ++ wS E t (iv (0)) (iv (0)) Gt) ++ wS E k (iv (0)) (iv (0)) Gk) ++ wX E x (iv (0)) (iv (0)) (iv (0)) (iv (0)) (iv (0)) (fun _ => 0)) ++ [(q50, .inl (eS E, 4, .inr (.inr (.inr (.inr (fun _ => none))))))])) := h
  refine n_putF0 X hin 3 4 h rfl inX4 tyX4 tyX4_ok nmX4 (by decide) fl_X4_31 rfl rfl rfl rfl (Nat.le_of_ble_eq_true rfl) dX4_init_53 (fun H locs h => ?_)
  have h : SN E A s _ _ ([(h0, .inr (3, [.ref (b 0), .ref (t 0), .ref (k 0), .ref (x 0), .ref (q50), .null, .int (iv (0))]))] ++ (((((([]) ++ wS E b (iv (0)) (iv (0)) Gb) ++ wS E t (iv (0)) (iv (0)) Gt) ++ wS E k (iv (0)) (iv (0)) Gk) ++ wX E x (iv (0)) (iv (0)) (iv (0)) (iv (0)) (iv (0)) (fun _ => 0)) ++ [(q50, .inl (eS E, 4, .inr (.inr (.inr (.inr (fun _ => none))))))])) := h
  refine lv_aload_n X.1 X.2.1 dX4_init_56 rfl (lv_at hl 0 rfl) ?_
  refine z_bipush X (by decide) dX4_init_57 ?_
  refine n_newi (N := 7) X h rfl (by decide) (Nat.le_of_ble_eq_true rfl) (Nat.le_of_ble_eq_true rfl) (Nat.le_of_ble_eq_true rfl) dX4_init_59 (fun q59 H h => ?_)
  have h := sn_asc h
  have h : SN E A s _ _ ([(h0, .inr (3, [.ref (b 0), .ref (t 0), .ref (k 0), .ref (x 0), .ref (q50), .null, .int (iv (0))]))] ++ ((((((([]) ++ wS E b (iv (0)) (iv (0)) Gb) ++ wS E t (iv (0)) (iv (0)) Gt) ++ wS E k (iv (0)) (iv (0)) Gk) ++ wX E x (iv (0)) (iv (0)) (iv (0)) (iv (0)) (iv (0)) (fun _ => 0)) ++ [(q50, .inl (eS E, 4, .inr (.inr (.inr (.inr (fun _ => none))))))]) ++ [(q59, .inl (eI E, 7, .inl (fun _ => 0)))])) := h
  refine n_putF0 X hin 3 5 h rfl inX4 tyX4 tyX4_ok nmX4 (by decide) fl_X4_35 rfl rfl rfl rfl (Nat.le_of_ble_eq_true rfl) dX4_init_61 (fun H locs h => ?_)
  have h : SN E A s _ _ ([(h0, .inr (3, [.ref (b 0), .ref (t 0), .ref (k 0), .ref (x 0), .ref (q50), .ref (q59), .int (iv (0))]))] ++ ((((((([]) ++ wS E b (iv (0)) (iv (0)) Gb) ++ wS E t (iv (0)) (iv (0)) Gt) ++ wS E k (iv (0)) (iv (0)) Gk) ++ wX E x (iv (0)) (iv (0)) (iv (0)) (iv (0)) (iv (0)) (fun _ => 0)) ++ [(q50, .inl (eS E, 4, .inr (.inr (.inr (.inr (fun _ => none))))))]) ++ [(q59, .inl (eI E, 7, .inl (fun _ => 0)))])) := h
  refine lv_aload_n X.1 X.2.1 dX4_init_64 rfl (lv_at hl 0 rfl) ?_
  refine z_iconst X dX4_init_65 ?_
  refine n_put0 X 3 6 h rfl inX4 tyX4 tyX4_ok nmX4 (by decide) fl_X4_39 rfl (by decide) (by decide) (Nat.le_of_ble_eq_true rfl) dX4_init_66 (fun H locs h => ?_)
  have h : SN E A s _ _ ([(h0, .inr (3, [.ref (b 0), .ref (t 0), .ref (k 0), .ref (x 0), .ref (q50), .ref (q59), .int (iv (0))]))] ++ ((((((([]) ++ wS E b (iv (0)) (iv (0)) Gb) ++ wS E t (iv (0)) (iv (0)) Gt) ++ wS E k (iv (0)) (iv (0)) Gk) ++ wX E x (iv (0)) (iv (0)) (iv (0)) (iv (0)) (iv (0)) (fun _ => 0)) ++ [(q50, .inl (eS E, 4, .inr (.inr (.inr (.inr (fun _ => none))))))]) ++ [(q59, .inl (eI E, 7, .inl (fun _ => 0)))])) := h
  refine z_iconst X dX4_init_69 ?_
  refine lv_istore_n (lv' := [(1, .int (iv (0))), (0, .ref (h0))]) X.1 X.2.1 dX4_init_70 rfl hl (by decide) rfl (fun ls hl => ?_)
  have h := sn_T h
  have h : SN E A s _ _ ([(h0, .inr (3, [.ref (b 0), .ref (t 0), .ref (k 0), .ref (x 0), .ref (q50), .ref (q59), .int (iv (0))]))] ++ ([(q50, .inl (eS E, 4, .inr (.inr (.inr (.inr (fun _ => none))))))] ++ ([(q59, .inl (eI E, 7, .inl (fun _ => 0)))] ++ (wS E k (iv (0)) (iv (0)) Gk ++ (wS E b (iv (0)) (iv (0)) Gb ++ (wS E t (iv (0)) (iv (0)) Gt ++ (wX E x (iv (0)) (iv (0)) (iv (0)) (iv (0)) (iv (0)) (fun _ => 0) ++ []))))))) := h
  refine lv_iload_n X.1 X.2.1 dX4_init_71 rfl (lv_at hl 0 rfl) ?_
  refine z_iconst X dX4_init_72 ?_
  refine z_ic_ge (tgt := 95) X ⟨by decide, by decide⟩ ⟨by decide, by decide⟩ dX4_init_73 (by decide) (fun c_73 => ?_) (fun c_73 => ?_)
  · exact absurd c_73 (by decide)
  · refine lv_aload_n X.1 X.2.1 dX4_init_76 rfl (lv_at hl 1 rfl) ?_
    refine n_get X h 3 0 4 rfl inX4 rfl (by decide) fl_X4_31 rfl dX4_init_77 ?_
    refine lv_iload_n X.1 X.2.1 dX4_init_80 rfl (lv_at hl 0 rfl) ?_
    refine n_new (fs := [.int (iv (0)), .int (iv (0)), .null]) X h 0 rfl inX0 tyX0 tyX0_ok cl_X4_29 it_X0 in_X0 (fun j hj => by rcases (show j = 0 ∨ j = 1 ∨ j = 2 by omega) with rfl | rfl | rfl <;> rfl) (Nat.le_of_ble_eq_true rfl) (Nat.le_of_ble_eq_true rfl) dX4_init_81 (fun q810 H h => ?_)
    have h : SN E A s _ _ (([(h0, .inr (3, [.ref (b 0), .ref (t 0), .ref (k 0), .ref (x 0), .ref (q50), .ref (q59), .int (iv (0))]))] ++ ([(q50, .inl (eS E, 4, .inr (.inr (.inr (.inr (fun _ => none))))))] ++ ([(q59, .inl (eI E, 7, .inl (fun _ => 0)))] ++ (wS E k (iv (0)) (iv (0)) Gk ++ (wS E b (iv (0)) (iv (0)) Gb ++ (wS E t (iv (0)) (iv (0)) Gt ++ (wX E x (iv (0)) (iv (0)) (iv (0)) (iv (0)) (iv (0)) (fun _ => 0) ++ []))))))) ++ [(q810, .inr (0, [.int (iv (0)), .int (iv (0)), .null]))]) := h
    refine lv_dup X.1 X.2.1 dX4_init_84 rfl ?_
    refine n_initN (rest := [.ref (q810), .int (iv (0)), .ref (q50)]) X h c_X0_init (fun _ _ _ _ _ => trivial) (fun _ _ => trivial) co_X0_init im_X0_init in_X0 (by decide +kernel) hG.2.1 ⟨(Nat.le_of_ble_eq_true rfl), (Nat.le_of_ble_eq_true rfl)⟩ ⟨rfl, rfl⟩ hl.1 (Nat.le_of_ble_eq_true rfl) ⟨(Nat.le_of_ble_eq_true rfl), (Nat.le_of_ble_eq_true rfl)⟩ dX4_init_85 (fun u88 H locs hp hN => ?_)
    obtain ⟨g0, rfl⟩ : ∃ z, z = u88 := ⟨_, rfl⟩
    have hp : g0 0 = q810 := hp
    subst hp
    have h := sn_asc hN
    have h := st_in2 h
    have h : SN E A s _ _ ([(h0, .inr (3, [.ref (b 0), .ref (t 0), .ref (k 0), .ref (x 0), .ref (q50), .ref (q59), .int (iv (0))]))] ++ ([(q50, .inl (eS E, 4, .inr (.inr (.inr (.inr (fun _ => none))))))] ++ (([(q59, .inl (eI E, 7, .inl (fun _ => 0)))] ++ (wS E k (iv (0)) (iv (0)) Gk ++ (wS E b (iv (0)) (iv (0)) Gb ++ (wS E t (iv (0)) (iv (0)) Gt ++ (wX E x (iv (0)) (iv (0)) (iv (0)) (iv (0)) (iv (0)) (fun _ => 0) ++ []))))) ++ wH E g0 (iv (0)) (iv (0)) (fun _ => 0)))) := h
    refine n_astq0 X 35 h rfl (by decide) (by decide) (by decide) dX4_init_88 (fun H locs h => ?_)
    have h : SN E A s _ _ ([(h0, .inr (3, [.ref (b 0), .ref (t 0), .ref (k 0), .ref (x 0), .ref (q50), .ref (q59), .int (iv (0))]))] ++ ([(q50, .inl (eS E, 4, .inr (.inr (.inr (.inr (va_up (fun _ => none) (0 : Int).toNat (some (g0 0))))))))] ++ (([(q59, .inl (eI E, 7, .inl (fun _ => 0)))] ++ (wS E k (iv (0)) (iv (0)) Gk ++ (wS E b (iv (0)) (iv (0)) Gb ++ (wS E t (iv (0)) (iv (0)) Gt ++ (wX E x (iv (0)) (iv (0)) (iv (0)) (iv (0)) (iv (0)) (fun _ => 0) ++ []))))) ++ wH E g0 (iv (0)) (iv (0)) (fun _ => 0)))) := h
    refine z_iinc (k := 0) (lv' := [(1, .int (iv (1))), (0, .ref (h0))]) X dX4_init_89 hl rfl (by decide) rfl (fun ls hl => ?_)
    refine lv_goto (tgt := 71) X.1 X.2.1 dX4_init_92 (by decide) ?_
    refine lv_iload_n X.1 X.2.1 dX4_init_71 rfl (lv_at hl 0 rfl) ?_
    refine z_iconst X dX4_init_72 ?_
    refine z_ic_ge (tgt := 95) X ⟨by decide, by decide⟩ ⟨by decide, by decide⟩ dX4_init_73 (by decide) (fun c_73 => ?_) (fun c_73 => ?_)
    · exact absurd c_73 (by decide)
    · refine lv_aload_n X.1 X.2.1 dX4_init_76 rfl (lv_at hl 1 rfl) ?_
      refine n_get X h 3 0 4 rfl inX4 rfl (by decide) fl_X4_31 rfl dX4_init_77 ?_
      refine lv_iload_n X.1 X.2.1 dX4_init_80 rfl (lv_at hl 0 rfl) ?_
      refine n_new (fs := [.int (iv (0)), .int (iv (0)), .null]) X h 0 rfl inX0 tyX0 tyX0_ok cl_X4_29 it_X0 in_X0 (fun j hj => by rcases (show j = 0 ∨ j = 1 ∨ j = 2 by omega) with rfl | rfl | rfl <;> rfl) (Nat.le_of_ble_eq_true rfl) (Nat.le_of_ble_eq_true rfl) dX4_init_81 (fun q811 H h => ?_)
      have h : SN E A s _ _ (([(h0, .inr (3, [.ref (b 0), .ref (t 0), .ref (k 0), .ref (x 0), .ref (q50), .ref (q59), .int (iv (0))]))] ++ ([(q50, .inl (eS E, 4, .inr (.inr (.inr (.inr (va_up (fun _ => none) (0 : Int).toNat (some (g0 0))))))))] ++ (([(q59, .inl (eI E, 7, .inl (fun _ => 0)))] ++ (wS E k (iv (0)) (iv (0)) Gk ++ (wS E b (iv (0)) (iv (0)) Gb ++ (wS E t (iv (0)) (iv (0)) Gt ++ (wX E x (iv (0)) (iv (0)) (iv (0)) (iv (0)) (iv (0)) (fun _ => 0) ++ []))))) ++ wH E g0 (iv (0)) (iv (0)) (fun _ => 0)))) ++ [(q811, .inr (0, [.int (iv (0)), .int (iv (0)), .null]))]) := h
      refine lv_dup X.1 X.2.1 dX4_init_84 rfl ?_
      refine n_initN (rest := [.ref (q811), .int (iv (1)), .ref (q50)]) X h c_X0_init (fun _ _ _ _ _ => trivial) (fun _ _ => trivial) co_X0_init im_X0_init in_X0 (by decide +kernel) hG.2.1 ⟨(Nat.le_of_ble_eq_true rfl), (Nat.le_of_ble_eq_true rfl)⟩ ⟨rfl, rfl⟩ hl.1 (Nat.le_of_ble_eq_true rfl) ⟨(Nat.le_of_ble_eq_true rfl), (Nat.le_of_ble_eq_true rfl)⟩ dX4_init_85 (fun u88 H locs hp hN => ?_)
      obtain ⟨g1, rfl⟩ : ∃ z, z = u88 := ⟨_, rfl⟩
      have hp : g1 0 = q811 := hp
      subst hp
      have h := sn_asc hN
      have h := st_in2 h
      have h : SN E A s _ _ ([(h0, .inr (3, [.ref (b 0), .ref (t 0), .ref (k 0), .ref (x 0), .ref (q50), .ref (q59), .int (iv (0))]))] ++ ([(q50, .inl (eS E, 4, .inr (.inr (.inr (.inr (va_up (fun _ => none) (0 : Int).toNat (some (g0 0))))))))] ++ ((([(q59, .inl (eI E, 7, .inl (fun _ => 0)))] ++ (wS E k (iv (0)) (iv (0)) Gk ++ (wS E b (iv (0)) (iv (0)) Gb ++ (wS E t (iv (0)) (iv (0)) Gt ++ (wX E x (iv (0)) (iv (0)) (iv (0)) (iv (0)) (iv (0)) (fun _ => 0) ++ []))))) ++ wH E g0 (iv (0)) (iv (0)) (fun _ => 0)) ++ wH E g1 (iv (0)) (iv (0)) (fun _ => 0)))) := h
      refine n_astq0 X 37 h rfl (by decide) (by decide) (by decide) dX4_init_88 (fun H locs h => ?_)
      have h : SN E A s _ _ ([(h0, .inr (3, [.ref (b 0), .ref (t 0), .ref (k 0), .ref (x 0), .ref (q50), .ref (q59), .int (iv (0))]))] ++ ([(q50, .inl (eS E, 4, .inr (.inr (.inr (.inr (va_up (va_up (fun _ => none) (0 : Int).toNat (some (g0 0))) (1 : Int).toNat (some (g1 0))))))))] ++ ((([(q59, .inl (eI E, 7, .inl (fun _ => 0)))] ++ (wS E k (iv (0)) (iv (0)) Gk ++ (wS E b (iv (0)) (iv (0)) Gb ++ (wS E t (iv (0)) (iv (0)) Gt ++ (wX E x (iv (0)) (iv (0)) (iv (0)) (iv (0)) (iv (0)) (fun _ => 0) ++ []))))) ++ wH E g0 (iv (0)) (iv (0)) (fun _ => 0)) ++ wH E g1 (iv (0)) (iv (0)) (fun _ => 0)))) := h
      refine z_iinc (k := 0) (lv' := [(1, .int (iv (2))), (0, .ref (h0))]) X dX4_init_89 hl rfl (by decide) rfl (fun ls hl => ?_)
      refine lv_goto (tgt := 71) X.1 X.2.1 dX4_init_92 (by decide) ?_
      refine lv_iload_n X.1 X.2.1 dX4_init_71 rfl (lv_at hl 0 rfl) ?_
      refine z_iconst X dX4_init_72 ?_
      refine z_ic_ge (tgt := 95) X ⟨by decide, by decide⟩ ⟨by decide, by decide⟩ dX4_init_73 (by decide) (fun c_73 => ?_) (fun c_73 => ?_)
      · exact absurd c_73 (by decide)
      · refine lv_aload_n X.1 X.2.1 dX4_init_76 rfl (lv_at hl 1 rfl) ?_
        refine n_get X h 3 0 4 rfl inX4 rfl (by decide) fl_X4_31 rfl dX4_init_77 ?_
        refine lv_iload_n X.1 X.2.1 dX4_init_80 rfl (lv_at hl 0 rfl) ?_
        refine n_new (fs := [.int (iv (0)), .int (iv (0)), .null]) X h 0 rfl inX0 tyX0 tyX0_ok cl_X4_29 it_X0 in_X0 (fun j hj => by rcases (show j = 0 ∨ j = 1 ∨ j = 2 by omega) with rfl | rfl | rfl <;> rfl) (Nat.le_of_ble_eq_true rfl) (Nat.le_of_ble_eq_true rfl) dX4_init_81 (fun q812 H h => ?_)
        have h : SN E A s _ _ (([(h0, .inr (3, [.ref (b 0), .ref (t 0), .ref (k 0), .ref (x 0), .ref (q50), .ref (q59), .int (iv (0))]))] ++ ([(q50, .inl (eS E, 4, .inr (.inr (.inr (.inr (va_up (va_up (fun _ => none) (0 : Int).toNat (some (g0 0))) (1 : Int).toNat (some (g1 0))))))))] ++ ((([(q59, .inl (eI E, 7, .inl (fun _ => 0)))] ++ (wS E k (iv (0)) (iv (0)) Gk ++ (wS E b (iv (0)) (iv (0)) Gb ++ (wS E t (iv (0)) (iv (0)) Gt ++ (wX E x (iv (0)) (iv (0)) (iv (0)) (iv (0)) (iv (0)) (fun _ => 0) ++ []))))) ++ wH E g0 (iv (0)) (iv (0)) (fun _ => 0)) ++ wH E g1 (iv (0)) (iv (0)) (fun _ => 0)))) ++ [(q812, .inr (0, [.int (iv (0)), .int (iv (0)), .null]))]) := h
        refine lv_dup X.1 X.2.1 dX4_init_84 rfl ?_
        refine n_initN (rest := [.ref (q812), .int (iv (2)), .ref (q50)]) X h c_X0_init (fun _ _ _ _ _ => trivial) (fun _ _ => trivial) co_X0_init im_X0_init in_X0 (by decide +kernel) hG.2.1 ⟨(Nat.le_of_ble_eq_true rfl), (Nat.le_of_ble_eq_true rfl)⟩ ⟨rfl, rfl⟩ hl.1 (Nat.le_of_ble_eq_true rfl) ⟨(Nat.le_of_ble_eq_true rfl), (Nat.le_of_ble_eq_true rfl)⟩ dX4_init_85 (fun u88 H locs hp hN => ?_)
        obtain ⟨g2, rfl⟩ : ∃ z, z = u88 := ⟨_, rfl⟩
        have hp : g2 0 = q812 := hp
        subst hp
        have h := sn_asc hN
        have h := st_in2 h
        have h : SN E A s _ _ ([(h0, .inr (3, [.ref (b 0), .ref (t 0), .ref (k 0), .ref (x 0), .ref (q50), .ref (q59), .int (iv (0))]))] ++ ([(q50, .inl (eS E, 4, .inr (.inr (.inr (.inr (va_up (va_up (fun _ => none) (0 : Int).toNat (some (g0 0))) (1 : Int).toNat (some (g1 0))))))))] ++ (((([(q59, .inl (eI E, 7, .inl (fun _ => 0)))] ++ (wS E k (iv (0)) (iv (0)) Gk ++ (wS E b (iv (0)) (iv (0)) Gb ++ (wS E t (iv (0)) (iv (0)) Gt ++ (wX E x (iv (0)) (iv (0)) (iv (0)) (iv (0)) (iv (0)) (fun _ => 0) ++ []))))) ++ wH E g0 (iv (0)) (iv (0)) (fun _ => 0)) ++ wH E g1 (iv (0)) (iv (0)) (fun _ => 0)) ++ wH E g2 (iv (0)) (iv (0)) (fun _ => 0)))) := h
        refine n_astq0 X 39 h rfl (by decide) (by decide) (by decide) dX4_init_88 (fun H locs h => ?_)
        have h : SN E A s _ _ ([(h0, .inr (3, [.ref (b 0), .ref (t 0), .ref (k 0), .ref (x 0), .ref (q50), .ref (q59), .int (iv (0))]))] ++ ([(q50, .inl (eS E, 4, .inr (.inr (.inr (.inr (va_up (va_up (va_up (fun _ => none) (0 : Int).toNat (some (g0 0))) (1 : Int).toNat (some (g1 0))) (2 : Int).toNat (some (g2 0))))))))] ++ (((([(q59, .inl (eI E, 7, .inl (fun _ => 0)))] ++ (wS E k (iv (0)) (iv (0)) Gk ++ (wS E b (iv (0)) (iv (0)) Gb ++ (wS E t (iv (0)) (iv (0)) Gt ++ (wX E x (iv (0)) (iv (0)) (iv (0)) (iv (0)) (iv (0)) (fun _ => 0) ++ []))))) ++ wH E g0 (iv (0)) (iv (0)) (fun _ => 0)) ++ wH E g1 (iv (0)) (iv (0)) (fun _ => 0)) ++ wH E g2 (iv (0)) (iv (0)) (fun _ => 0)))) := h
        refine z_iinc (k := 0) (lv' := [(1, .int (iv (3))), (0, .ref (h0))]) X dX4_init_89 hl rfl (by decide) rfl (fun ls hl => ?_)
        refine lv_goto (tgt := 71) X.1 X.2.1 dX4_init_92 (by decide) ?_
        refine lv_iload_n X.1 X.2.1 dX4_init_71 rfl (lv_at hl 0 rfl) ?_
        refine z_iconst X dX4_init_72 ?_
        refine z_ic_ge (tgt := 95) X ⟨by decide, by decide⟩ ⟨by decide, by decide⟩ dX4_init_73 (by decide) (fun c_73 => ?_) (fun c_73 => ?_)
        · exact absurd c_73 (by decide)
        · refine lv_aload_n X.1 X.2.1 dX4_init_76 rfl (lv_at hl 1 rfl) ?_
          refine n_get X h 3 0 4 rfl inX4 rfl (by decide) fl_X4_31 rfl dX4_init_77 ?_
          refine lv_iload_n X.1 X.2.1 dX4_init_80 rfl (lv_at hl 0 rfl) ?_
          refine n_new (fs := [.int (iv (0)), .int (iv (0)), .null]) X h 0 rfl inX0 tyX0 tyX0_ok cl_X4_29 it_X0 in_X0 (fun j hj => by rcases (show j = 0 ∨ j = 1 ∨ j = 2 by omega) with rfl | rfl | rfl <;> rfl) (Nat.le_of_ble_eq_true rfl) (Nat.le_of_ble_eq_true rfl) dX4_init_81 (fun q813 H h => ?_)
          have h : SN E A s _ _ (([(h0, .inr (3, [.ref (b 0), .ref (t 0), .ref (k 0), .ref (x 0), .ref (q50), .ref (q59), .int (iv (0))]))] ++ ([(q50, .inl (eS E, 4, .inr (.inr (.inr (.inr (va_up (va_up (va_up (fun _ => none) (0 : Int).toNat (some (g0 0))) (1 : Int).toNat (some (g1 0))) (2 : Int).toNat (some (g2 0))))))))] ++ (((([(q59, .inl (eI E, 7, .inl (fun _ => 0)))] ++ (wS E k (iv (0)) (iv (0)) Gk ++ (wS E b (iv (0)) (iv (0)) Gb ++ (wS E t (iv (0)) (iv (0)) Gt ++ (wX E x (iv (0)) (iv (0)) (iv (0)) (iv (0)) (iv (0)) (fun _ => 0) ++ []))))) ++ wH E g0 (iv (0)) (iv (0)) (fun _ => 0)) ++ wH E g1 (iv (0)) (iv (0)) (fun _ => 0)) ++ wH E g2 (iv (0)) (iv (0)) (fun _ => 0)))) ++ [(q813, .inr (0, [.int (iv (0)), .int (iv (0)), .null]))]) := h
          refine lv_dup X.1 X.2.1 dX4_init_84 rfl ?_
          refine n_initN (rest := [.ref (q813), .int (iv (3)), .ref (q50)]) X h c_X0_init (fun _ _ _ _ _ => trivial) (fun _ _ => trivial) co_X0_init im_X0_init in_X0 (by decide +kernel) hG.2.1 ⟨(Nat.le_of_ble_eq_true rfl), (Nat.le_of_ble_eq_true rfl)⟩ ⟨rfl, rfl⟩ hl.1 (Nat.le_of_ble_eq_true rfl) ⟨(Nat.le_of_ble_eq_true rfl), (Nat.le_of_ble_eq_true rfl)⟩ dX4_init_85 (fun u88 H locs hp hN => ?_)
          obtain ⟨g3, rfl⟩ : ∃ z, z = u88 := ⟨_, rfl⟩
          have hp : g3 0 = q813 := hp
          subst hp
          have h := sn_asc hN
          have h := st_in2 h
          have h : SN E A s _ _ ([(h0, .inr (3, [.ref (b 0), .ref (t 0), .ref (k 0), .ref (x 0), .ref (q50), .ref (q59), .int (iv (0))]))] ++ ([(q50, .inl (eS E, 4, .inr (.inr (.inr (.inr (va_up (va_up (va_up (fun _ => none) (0 : Int).toNat (some (g0 0))) (1 : Int).toNat (some (g1 0))) (2 : Int).toNat (some (g2 0))))))))] ++ ((((([(q59, .inl (eI E, 7, .inl (fun _ => 0)))] ++ (wS E k (iv (0)) (iv (0)) Gk ++ (wS E b (iv (0)) (iv (0)) Gb ++ (wS E t (iv (0)) (iv (0)) Gt ++ (wX E x (iv (0)) (iv (0)) (iv (0)) (iv (0)) (iv (0)) (fun _ => 0) ++ []))))) ++ wH E g0 (iv (0)) (iv (0)) (fun _ => 0)) ++ wH E g1 (iv (0)) (iv (0)) (fun _ => 0)) ++ wH E g2 (iv (0)) (iv (0)) (fun _ => 0)) ++ wH E g3 (iv (0)) (iv (0)) (fun _ => 0)))) := h
          refine n_astq0 X 41 h rfl (by decide) (by decide) (by decide) dX4_init_88 (fun H locs h => ?_)
          have h : SN E A s _ _ ([(h0, .inr (3, [.ref (b 0), .ref (t 0), .ref (k 0), .ref (x 0), .ref (q50), .ref (q59), .int (iv (0))]))] ++ ([(q50, .inl (eS E, 4, .inr (.inr (.inr (.inr (va_up (va_up (va_up (va_up (fun _ => none) (0 : Int).toNat (some (g0 0))) (1 : Int).toNat (some (g1 0))) (2 : Int).toNat (some (g2 0))) (3 : Int).toNat (some (g3 0))))))))] ++ ((((([(q59, .inl (eI E, 7, .inl (fun _ => 0)))] ++ (wS E k (iv (0)) (iv (0)) Gk ++ (wS E b (iv (0)) (iv (0)) Gb ++ (wS E t (iv (0)) (iv (0)) Gt ++ (wX E x (iv (0)) (iv (0)) (iv (0)) (iv (0)) (iv (0)) (fun _ => 0) ++ []))))) ++ wH E g0 (iv (0)) (iv (0)) (fun _ => 0)) ++ wH E g1 (iv (0)) (iv (0)) (fun _ => 0)) ++ wH E g2 (iv (0)) (iv (0)) (fun _ => 0)) ++ wH E g3 (iv (0)) (iv (0)) (fun _ => 0)))) := h
          refine z_iinc (k := 0) (lv' := [(1, .int (iv (4))), (0, .ref (h0))]) X dX4_init_89 hl rfl (by decide) rfl (fun ls hl => ?_)
          refine lv_goto (tgt := 71) X.1 X.2.1 dX4_init_92 (by decide) ?_
          refine lv_iload_n X.1 X.2.1 dX4_init_71 rfl (lv_at hl 0 rfl) ?_
          refine z_iconst X dX4_init_72 ?_
          refine z_ic_ge (tgt := 95) X ⟨by decide, by decide⟩ ⟨by decide, by decide⟩ dX4_init_73 (by decide) (fun c_73 => ?_) (fun c_73 => ?_)
          · have h := sn_ref (g := fun j => some (([g0, g1, g2, g3] : List (Nat → Nat)).getD j (fun _ => 0) 0)) h (fun j hj => by rcases (show j = 0 ∨ j = 1 ∨ j = 2 ∨ j = 3 by omega) with rfl | rfl | rfl | rfl <;> rfl)
            have h := fin_T h
            exact ret _ _ _ _ ((fun j => [h0, q50, q59].getD j 0), k, b, t, x, (fun j => ([g0, g1, g2, g3] : List (Nat → Nat)).getD j (fun _ => 0)), ((iv (0), fun _ => 0), (iv (0), iv (0), Gk), (iv (0), iv (0), Gb), (iv (0), iv (0), Gt), (iv (0), iv (0), iv (0), iv (0), iv (0), fun _ => 0), (iv (0), iv (0), fun _ => 0), (iv (0), iv (0), fun _ => 0), (iv (0), iv (0), fun _ => 0), (iv (0), iv (0), fun _ => 0))) h ⟨rfl, RepC_0 hRb⟩ dX4_init_95
          · exact absurd c_73 (by decide)
