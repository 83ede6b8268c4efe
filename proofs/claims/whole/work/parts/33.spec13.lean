theorem aft_e (tq : Int → Int) (tn : Int) (f : Nat) (B : Es) (T : Bool × Es × Int) (n : Int) : aft tq tn f B T n = aft tq tn f B (T.1, T.2.1, T.2.2) n := rfl
theorem aft_0 (tq : Int → Int) (tn : Int) (A : Es) : prs tq tn 130 A 0 1 = aft tq tn 129 A ((itm tq tn A 0).1, (itm tq tn A 0).2.1, (itm tq tn A 0).2.2) 1 := (prs_s tq tn 129 A 0 1).trans (aft_e tq tn 129 A _ 1)
theorem aft_s {tq : Int → Int} {tn : Int} {f : Nat} {B A1 : Es} {j n : Int} (hf : 0 < f) (hk : tK tq tn j = 21) : aft tq tn f B (true, A1, j) n = aft tq tn (f - 1) A1 ((itm tq tn A1 (tE tq tn j)).1, (itm tq tn A1 (tE tq tn j)).2.1, (itm tq tn A1 (tE tq tn j)).2.2) (n + 1) := by
  obtain ⟨f1, rfl⟩ : ∃ f1, f = f1 + 1 := ⟨f - 1, by omega⟩
  rw [show f1 + 1 - 1 = f1 by omega, ← aft_e, ← prs_s]
  conv => lhs; unfold aft
  rw [if_pos rfl]
  show (if tK tq tn j = 22 then _ else if tK tq tn j = 21 then _ else _) = _
  rw [if_neg (by omega), if_pos hk]
theorem aft_ok {tq : Int → Int} {tn : Int} {f : Nat} {B A1 : Es} {j n : Int} (hk : tK tq tn j = 22) : aft tq tn f B (true, A1, j) n = (true, A1, n) := by
  unfold aft
  rw [if_pos rfl]
  show (if tK tq tn j = 22 then _ else if tK tq tn j = 21 then _ else _) = _
  rw [if_pos hk]
theorem aft_no {tq : Int → Int} {tn : Int} {f : Nat} {B A1 : Es} {j n : Int} (h1 : tK tq tn j ≠ 22) (h2 : tK tq tn j ≠ 21) : aft tq tn f B (true, A1, j) n = (false, B, tS tq tn j) := by
  unfold aft
  rw [if_pos rfl]
  show (if tK tq tn j = 22 then _ else if tK tq tn j = 21 then _ else _) = _
  rw [if_neg h1, if_neg h2]
theorem aft_f {tq : Int → Int} {tn : Int} {f : Nat} {B A1 : Es} {j n : Int} : aft tq tn f B (false, A1, j) n = (false, B, tS tq tn j) := by
  unfold aft
  rw [if_neg (show ¬ false = true by decide)]
theorem esp_y {tq : Int → Int} {tn : Int} {A A1 : Es} {n : Int} (h : prs tq tn 130 A 0 1 = (true, A1, n)) : q_esp tq tn A = (n, A1) := by
  unfold q_esp; rw [h, if_pos rfl]
theorem esp_n {tq : Int → Int} {tn : Int} {A B : Es} {n : Int} (h : prs tq tn 130 A 0 1 = (false, B, n)) : q_esp tq tn A = (-1 - n, A) := by
  unfold q_esp; rw [h, if_neg (show ¬ false = true by decide)]
section
variable {E : EV} {a : Nat → Nat} {ws0 : va_W} {s : State} {H : Heap} {locs : List Loc} {x1 : Nat → Int32} {x2 : Nat → Int32} {x3 : Nat → Int32} {x4 : Int32} {x5 : Nat → Int32} {x6 : Nat → Int32} {x7 : Nat → Int32} {x8 : Int32} {x9 : Int32} {x10 : Int32} {x11 : Int32} {x12 : Int32} {x13 : Int32} {x14 : Nat → Int32} {x15 : Nat → Int32} {x16 : Nat → Int64} {y : Int32}
theorem stM_isKept (h : St E ws0 s H locs ((wM E a (x1, x2, x3, x4, x5, x6, x7, x8, x9, x10, x11, x12, x13, x14, x15, x16)).set 0 (a 0, .inr (4, [.ref (a 1), .ref (a 2), .ref (a 3), .int x4, .ref (a 4), .ref (a 5), .ref (a 6), .int x8, .int x9, .int x10, .int x11, .int x12, .int x13, .ref (a 7), .ref (a 8), .ref (a 9)].set 3 (.int y))))) : St E ws0 s H locs (wM E a (x1, x2, x3, y, x5, x6, x7, x8, x9, x10, x11, x12, x13, x14, x15, x16)) := h
theorem stM_taped (h : St E ws0 s H locs ((wM E a (x1, x2, x3, x4, x5, x6, x7, x8, x9, x10, x11, x12, x13, x14, x15, x16)).set 0 (a 0, .inr (4, [.ref (a 1), .ref (a 2), .ref (a 3), .int x4, .ref (a 4), .ref (a 5), .ref (a 6), .int x8, .int x9, .int x10, .int x11, .int x12, .int x13, .ref (a 7), .ref (a 8), .ref (a 9)].set 7 (.int y))))) : St E ws0 s H locs (wM E a (x1, x2, x3, x4, x5, x6, x7, y, x9, x10, x11, x12, x13, x14, x15, x16)) := h
theorem stM_token (h : St E ws0 s H locs ((wM E a (x1, x2, x3, x4, x5, x6, x7, x8, x9, x10, x11, x12, x13, x14, x15, x16)).set 0 (a 0, .inr (4, [.ref (a 1), .ref (a 2), .ref (a 3), .int x4, .ref (a 4), .ref (a 5), .ref (a 6), .int x8, .int x9, .int x10, .int x11, .int x12, .int x13, .ref (a 7), .ref (a 8), .ref (a 9)].set 8 (.int y))))) : St E ws0 s H locs (wM E a (x1, x2, x3, x4, x5, x6, x7, x8, y, x10, x11, x12, x13, x14, x15, x16)) := h
theorem stM_begin (h : St E ws0 s H locs ((wM E a (x1, x2, x3, x4, x5, x6, x7, x8, x9, x10, x11, x12, x13, x14, x15, x16)).set 0 (a 0, .inr (4, [.ref (a 1), .ref (a 2), .ref (a 3), .int x4, .ref (a 4), .ref (a 5), .ref (a 6), .int x8, .int x9, .int x10, .int x11, .int x12, .int x13, .ref (a 7), .ref (a 8), .ref (a 9)].set 9 (.int y))))) : St E ws0 s H locs (wM E a (x1, x2, x3, x4, x5, x6, x7, x8, x9, y, x11, x12, x13, x14, x15, x16)) := h
theorem stM_at (h : St E ws0 s H locs ((wM E a (x1, x2, x3, x4, x5, x6, x7, x8, x9, x10, x11, x12, x13, x14, x15, x16)).set 0 (a 0, .inr (4, [.ref (a 1), .ref (a 2), .ref (a 3), .int x4, .ref (a 4), .ref (a 5), .ref (a 6), .int x8, .int x9, .int x10, .int x11, .int x12, .int x13, .ref (a 7), .ref (a 8), .ref (a 9)].set 10 (.int y))))) : St E ws0 s H locs (wM E a (x1, x2, x3, x4, x5, x6, x7, x8, x9, x10, y, x12, x13, x14, x15, x16)) := h
theorem stM_value (h : St E ws0 s H locs ((wM E a (x1, x2, x3, x4, x5, x6, x7, x8, x9, x10, x11, x12, x13, x14, x15, x16)).set 0 (a 0, .inr (4, [.ref (a 1), .ref (a 2), .ref (a 3), .int x4, .ref (a 4), .ref (a 5), .ref (a 6), .int x8, .int x9, .int x10, .int x11, .int x12, .int x13, .ref (a 7), .ref (a 8), .ref (a 9)].set 11 (.int y))))) : St E ws0 s H locs (wM E a (x1, x2, x3, x4, x5, x6, x7, x8, x9, x10, x11, y, x13, x14, x15, x16)) := h
theorem stM_bad (h : St E ws0 s H locs ((wM E a (x1, x2, x3, x4, x5, x6, x7, x8, x9, x10, x11, x12, x13, x14, x15, x16)).set 0 (a 0, .inr (4, [.ref (a 1), .ref (a 2), .ref (a 3), .int x4, .ref (a 4), .ref (a 5), .ref (a 6), .int x8, .int x9, .int x10, .int x11, .int x12, .int x13, .ref (a 7), .ref (a 8), .ref (a 9)].set 12 (.int y))))) : St E ws0 s H locs (wM E a (x1, x2, x3, x4, x5, x6, x7, x8, x9, x10, x11, x12, y, x14, x15, x16)) := h
end
