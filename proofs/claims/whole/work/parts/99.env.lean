theorem lwm_1 {w : Cond} (h : w ∈ tables_1_1) : w ∈ lw_tbl := List.mem_append_right _ (List.mem_append_left _ h)
theorem lwm_2 {w : Cond} (h : w ∈ tables_1_2) : w ∈ lw_tbl := List.mem_append_right _ (List.mem_append_right _ (List.mem_append_left _ h))
theorem lwm_3 {w : Cond} (h : w ∈ tables_1_3) : w ∈ lw_tbl := List.mem_append_right _ (List.mem_append_right _ (List.mem_append_right _ (List.mem_append_left _ h)))
theorem lwm_4 {w : Cond} (h : w ∈ tables_1_4) : w ∈ lw_tbl := List.mem_append_right _ (List.mem_append_right _ (List.mem_append_right _ (List.mem_append_right _ (List.mem_append_left _ h))))
theorem wn_24 : Cond.methodLinkNest RX4 24 yX2_init RX4 ∈ lw_tbl := lwm_1 (List.mem_of_getElem? (i := 80) (by decide +kernel))
theorem wn_ov : Cond.arrayOver (.object RX0) ∈ lw_tbl := lwm_1 (List.mem_of_getElem? (i := 105) (by decide +kernel))
theorem wn_43 : Cond.methodLinkNest RX4 43 yX0_init RX4 ∈ lw_tbl := lwm_1 (List.mem_of_getElem? (i := 107) (by decide +kernel))
theorem wn_70 : Cond.methodLinkNest RX1 70 yX4_within RX4 ∈ lw_tbl := lwm_1 (List.mem_of_getElem? (i := 235) (by decide +kernel))
theorem wn_9 : Cond.methodLinkNest RX3 9 yX4_isKind RX4 ∈ lw_tbl := lwm_2 (List.mem_of_getElem? (i := 19) (by decide +kernel))
theorem wl_A : Cond.laysStatic RX3 "ABOVE" "[I" ∈ lw_tbl := lwm_2 (List.mem_of_getElem? (i := 21) (by decide +kernel))
theorem wl_C : Cond.laysStatic RJ0 "COMPACT_STRINGS" "Z" ∈ lw_tbl := lwm_2 (List.mem_of_getElem? (i := 212) (by decide +kernel))
theorem wl_S : Cond.laysStatic RJ3 "SIOOBE_FORMATTER" "Ljava/util/function/BiFunction;" ∈ lw_tbl := lwm_2 (List.mem_of_getElem? (i := 228) (by decide +kernel))
theorem wl_N : Cond.laysStatic RX5 "NAMES" "[I" ∈ lw_tbl := lwm_4 (List.mem_of_getElem? (i := 199) (by decide +kernel))
theorem ws_0 : Cond.stringRef RX2 38 "sun" ∈ lw_tbl := lwm_2 (List.mem_of_getElem? (i := 198) (by decide +kernel))
theorem ws_1 : Cond.stringRef RX2 47 "goes" ∈ lw_tbl := lwm_3 (List.mem_of_getElem? (i := 19) (by decide +kernel))
theorem ws_2 : Cond.stringRef RX2 111 "guest" ∈ lw_tbl := lwm_3 (List.mem_of_getElem? (i := 37) (by decide +kernel))
theorem ws_3 : Cond.stringRef RX2 101 "colonel" ∈ lw_tbl := lwm_3 (List.mem_of_getElem? (i := 32) (by decide +kernel))
theorem ws_4 : Cond.stringRef RX2 103 "invalid" ∈ lw_tbl := lwm_3 (List.mem_of_getElem? (i := 33) (by decide +kernel))
theorem ws_5 : Cond.stringRef RX2 105 "bore" ∈ lw_tbl := lwm_3 (List.mem_of_getElem? (i := 34) (by decide +kernel))
theorem ws_6 : Cond.stringRef RX2 107 "lover" ∈ lw_tbl := lwm_3 (List.mem_of_getElem? (i := 35) (by decide +kernel))
theorem ws_7 : Cond.stringRef RX2 109 "fake" ∈ lw_tbl := lwm_3 (List.mem_of_getElem? (i := 36) (by decide +kernel))
theorem ws_8 : Cond.stringRef RX2 65 "brown" ∈ lw_tbl := lwm_3 (List.mem_of_getElem? (i := 42) (by decide +kernel))
theorem ws_9 : Cond.stringRef RX2 75 "on" ∈ lw_tbl := lwm_3 (List.mem_of_getElem? (i := 44) (by decide +kernel))
def FL : List Cond := flatC (Jvm.Cond.and given_1 narrow_1)
def tmS (i : Nat) : Term := .string RX2 (strs.getD i (0, "")).1
def tmV (i : Nat) : Term := .field (tmS i) "java/lang/String" "value" "[B"
theorem fl_ex : ∀ i : Fin 10, Cond.exactly (tmS i.val) "java/lang/String" ∈ FL := by decide +kernel
theorem fl_co : ∀ i : Fin 10, Cond.eq (.field (tmS i.val) "java/lang/String" "coder" "B") (.int 0) ∈ FL := by decide +kernel
theorem fl_ar : ∀ i : Fin 10, Cond.arrayOf (tmV i.val) .byte ∈ FL := by decide +kernel
theorem fl_le : ∀ i : Fin 10, Cond.eq (.length (tmV i.val)) (.int (Int32.ofNat (strL.getD i.val 0))) ∈ FL := by decide +kernel
theorem fl_el : ∀ i : Fin 10, ∀ j : Fin 7, j.val < strL.getD i.val 0 → Cond.eq (.elem (tmV i.val) (.int (Int32.ofNat j.val))) (.int ((strB.getD i.val []).getD j.val 0)) ∈ FL := by decide +kernel
theorem fl_ne : ∀ i j : Fin 10, i ≠ j → Cond.not (Cond.eq (tmS i.val) (tmS j.val)) ∈ FL ∨ Cond.not (Cond.eq (tmS j.val) (tmS i.val)) ∈ FL := by decide +kernel
theorem fl_ln : ∀ i : Fin 10, strL.getD i.val 0 ≤ 7 := by decide +kernel
theorem fl_Aa : Cond.arrayOf (.static RX3 "ABOVE" "[I") .int ∈ FL := by decide +kernel
theorem fl_Al : Cond.eq (.length (.static RX3 "ABOVE" "[I")) (.int (Int32.ofNat 6)) ∈ FL := by decide +kernel
theorem fl_Ae : ∀ j : Fin 6, Cond.eq (.elem (.static RX3 "ABOVE" "[I") (.int (Int32.ofNat j.val))) (.int (([-1, 0, 0, 0, 2, 1] : List Int32).getD j.val 0)) ∈ FL := by decide +kernel
theorem fl_Na : Cond.arrayOf (.static RX5 "NAMES" "[I") .int ∈ FL := by decide +kernel
theorem fl_Nl : Cond.eq (.length (.static RX5 "NAMES" "[I")) (.int (Int32.ofNat 70)) ∈ FL := by decide +kernel
theorem fl_Ne : ∀ j : Fin 70, Cond.eq (.elem (.static RX5 "NAMES" "[I") (.int (Int32.ofNat j.val))) (.int (namesL.getD j.val 0)) ∈ FL := by decide +kernel
theorem fl_C : Cond.eq (.static RJ0 "COMPACT_STRINGS" "Z") (.int 1) ∈ FL := by decide +kernel
theorem fl_S : Cond.isRef (.static RJ3 "SIOOBE_FORMATTER" "Ljava/util/function/BiFunction;") ∈ FL := by decide +kernel
theorem arr_of {s : State} {cA comp : ClassId} {kA : Class} {ty : FieldType} (h2 : s.vm.classes[cA]? = some kA) (h3 : kA.kind = .array comp ty) : ArrOfT s cA ty := fun n z => ⟨fun k h => (by cases h), kA, h2, comp, h3⟩
/-- the tables and the heap at the start -/
theorem env_E {args : Array Value} {s : State} (hts : ∀ w ∈ lw_tbl, w.before args s = true) (hgv : (Jvm.Cond.and given_1 narrow_1).before args s = true) : ∃ E : EV, eZ E = s.heap.size ∧ KK E s ∧ HH E s s.heap ∧ GX s := by
  have hf : ∀ w ∈ FL, w.before args s = true := flat_of_before _ hgv
  have htb : ∀ w ∈ tb, w.before args s = true := fun w hw => hts w (List.mem_filter.mp hw).1
  have hA : ∀ a : Nat, a < s.heap.size → ¬ (fun q : Nat => s.heap.size ≤ q) a := fun a h => Nat.not_le.mpr h
  obtain ⟨c0, i0, hK0⟩ := u_known (C := RX0) (T := TX0) (N := 3) (n := 3) htb inX0 (htb _ it_X0)
  obtain ⟨c1, i1, hK1⟩ := u_known (C := RX1) (T := TX1) (N := 11) (n := 11) htb inX1 (htb _ it_X1)
  obtain ⟨c2, i2, hK2⟩ := u_known (C := RX2) (T := TX2) (N := 6) (n := 6) htb inX2 (htb _ it_X2)
  obtain ⟨c4, i4, hK4⟩ := u_known (C := RX4) (T := TX4) (N := 7) (n := 7) htb inX4 (htb _ it_X4)
  obtain ⟨c5, i5, hK5⟩ := u_known (C := RX5) (T := TX5) (N := 16) (n := 16) htb inX5 (htb _ it_X5)
  obtain ⟨cI, kI, mI, hI1, hI2, hI3⟩ := Cond.arrayClass_spec (htb _ ac_77)
  obtain ⟨cJ, kJ, mJ, hJ1, hJ2, hJ3⟩ := Cond.arrayClass_spec (htb _ ac_124)
  obtain ⟨mS, cS, kS, hS1, -, hS3, hS4, hS5⟩ := Cond.arrayOver_spec (hts _ wn_ov)
  obtain ⟨adK, adV, hvS, hvR⟩ := vk_Sof (args := args) (s := s) (N := 10) (tm := tmS) (len := strL) (byt := strB) (A := fun q => s.heap.size ≤ q) (fun i hi => Nat.lt_of_le_of_lt (fl_ln ⟨i, hi⟩) (by decide)) (fun i hi => hf _ (fl_ex ⟨i, hi⟩)) (fun i hi => hf _ (fl_co ⟨i, hi⟩)) (fun i hi => hf _ (fl_ar ⟨i, hi⟩)) (fun i hi => hf _ (fl_le ⟨i, hi⟩)) (fun i hi j hj => hf _ (fl_el ⟨i, hi⟩ ⟨j, Nat.lt_of_lt_of_le hj (fl_ln ⟨i, hi⟩)⟩ hj)) (fun i j hi hj hij => (fl_ne ⟨i, hi⟩ ⟨j, hj⟩ (fun q => hij (congrArg Fin.val q))).elim (fun z => Or.inl (hf _ z)) (fun z => Or.inr (hf _ z))) hA
  obtain ⟨tA, eA, hTA⟩ := va_Tof (args := args) (s := s) (tm := .static RX3 "ABOVE" "[I") (ty := .int) (N := 6) (f := aboveF) (A := fun q => s.heap.size ≤ q) (by decide) (hf _ fl_Aa) (va_eqt (hf _ fl_Al)) (fun j hj => va_eqt (hf _ (fl_Ae ⟨j, hj⟩))) hA
  obtain ⟨tN, eN, hTN⟩ := va_Tof (args := args) (s := s) (tm := .static RX5 "NAMES" "[I") (ty := .int) (N := 70) (f := namesF) (A := fun q => s.heap.size ≤ q) (by decide) (hf _ fl_Na) (va_eqt (hf _ fl_Nl)) (fun j hj => va_eqt (hf _ (fl_Ne ⟨j, hj⟩))) hA
  refine ⟨((fun k => if k = 0 then c0 else if k = 1 then c1 else if k = 2 then c2 else if k = 3 then c4 else c5, fun k => if k = 0 then i0 else if k = 1 then i1 else if k = 2 then i2 else if k = 3 then i4 else i5), (cI, cJ, cS), (s.heap.size, tA, tN), adK, adV), rfl, ⟨⟨?_, ?_⟩, va_Nw.of rfl (hts _ wn_70), va_Nw.of rfl (hts _ wn_9), ?_⟩, ⟨va_Zof (hts _ wl_A) (htb _ in_X3) eA hA, hTA, va_Zof (hts _ wl_N) (htb _ in_X5) eN hA, hTN, va_Zof (hts _ wl_C) (htb _ in_J0) (va_eqi (hf _ fl_C)) hA, va_Zqof (hts _ wl_S) (htb _ in_J3) (hf _ fl_S) hA, hvS⟩, ⟨va_Nw.of rfl (hts _ wn_24), va_Nw.of rfl (hts _ wn_43), va_AO.of (hts _ wn_ov)⟩⟩
  · intro k q hq
    match k, hq with
    | 0, hq => cases hq; exact hK0
    | 1, hq => cases hq; exact hK1
    | 2, hq => cases hq; exact hK2
    | 3, hq => cases hq; exact hK4
    | 4, hq => cases hq; exact hK5
    | k + 5, hq => simp [classes] at hq
  · intro k q hq
    match k, hq with
    | 0, hq => cases hq; exact ⟨arr_of hI2 hI3, hI1⟩
    | 1, hq => cases hq; exact ⟨arr_of hJ2 hJ3, hJ1⟩
    | 2, hq => cases hq; exact ⟨arr_of hS3 hS4, ⟨kS, mS, hS3, hS4, hS1, hS5⟩⟩
    | k + 3, hq => simp [tys] at hq
  · intro i q hq
    match i, hq with
    | 0, hq => cases hq; exact vk_R.of (hts _ ws_0) (hvR 0 (by decide))
    | 1, hq => cases hq; exact vk_R.of (hts _ ws_1) (hvR 1 (by decide))
    | 2, hq => cases hq; exact vk_R.of (hts _ ws_2) (hvR 2 (by decide))
    | 3, hq => cases hq; exact vk_R.of (hts _ ws_3) (hvR 3 (by decide))
    | 4, hq => cases hq; exact vk_R.of (hts _ ws_4) (hvR 4 (by decide))
    | 5, hq => cases hq; exact vk_R.of (hts _ ws_5) (hvR 5 (by decide))
    | 6, hq => cases hq; exact vk_R.of (hts _ ws_6) (hvR 6 (by decide))
    | 7, hq => cases hq; exact vk_R.of (hts _ ws_7) (hvR 7 (by decide))
    | 8, hq => cases hq; exact vk_R.of (hts _ ws_8) (hvR 8 (by decide))
    | 9, hq => cases hq; exact vk_R.of (hts _ ws_9) (hvR 9 (by decide))
    | k + 10, hq => simp [strs] at hq
