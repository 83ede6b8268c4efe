/-! ===== the class: pieces of its world ===== -/
def wX (E : EV) (x : Nat → Nat) (v1 v2 v3 v4 v5 : Int32) (f : Nat → Int32) : va_W := [(x 0, .inr (2, [.int v1, .ref (x 1), .int v2, .int v3, .int v4, .int v5])), (x 1, .inl (eI E, 120, .inl f))]
def wH (E : EV) (x : Nat → Nat) (v1 v2 : Int32) (f : Nat → Int64) : va_W := [(x 0, .inr (0, [.int v1, .int v2, .ref (x 1)])), (x 1, .inl (eJ E, 40, .inr (.inl f)))]
def wO (E : EV) (a k b t x : Nat → Nat) (q : Nat → Nat → Nat) (v1 : Int32) (f : Nat → Int32) : va_W := [(a 0, .inr (3, [.ref (b 0), .ref (t 0), .ref (k 0), .ref (x 0), .ref (a 1), .ref (a 2), .int v1])), (a 1, .inl (eS E, 4, .inr (.inr (.inr (.inr (fun j => some (q j 0))))))), (a 2, .inl (eI E, 7, .inl f))]
theorem wX_map (E : EV) (x : Nat → Nat) (v1 v2 v3 v4 v5 u1 u2 u3 u4 u5 : Int32) (f g : Nat → Int32) : (wX E x v1 v2 v3 v4 v5 f).map Prod.fst = (wX E x u1 u2 u3 u4 u5 g).map Prod.fst := rfl
theorem wH_map (E : EV) (x : Nat → Nat) (v1 v2 u1 u2 : Int32) (f g : Nat → Int64) : (wH E x v1 v2 f).map Prod.fst = (wH E x u1 u2 g).map Prod.fst := rfl
theorem wO_map (E : EV) (a k b t x : Nat → Nat) (q : Nat → Nat → Nat) (v1 u1 : Int32) (f g : Nat → Int32) : (wO E a k b t x q v1 f).map Prod.fst = (wO E a k b t x q u1 g).map Prod.fst := rfl
theorem map_app {A B A' B' : va_W} (h : A.map Prod.fst = A'.map Prod.fst) (h2 : B.map Prod.fst = B'.map Prod.fst) : (A ++ B).map Prod.fst = (A' ++ B').map Prod.fst := by rw [List.map_append, List.map_append, h, h2]
section
variable {E : EV} {a k b t x : Nat → Nat} {q : Nat → Nat → Nat} {hh nn hh2 v1 v2 v3 v4 v5 : Int32} {x1 x2 x3 x4 x5 x6 x7 x8 x9 y f : Nat → Int32} {fl yl : Nat → Int64}
theorem wS_suns : (wS E a hh nn (x1, x2, x3, x4, x5, x6, x7, x8, x9)).set 1 (a 1, .inl (eI E, 10, .inl y)) = wS E a hh nn (y, x2, x3, x4, x5, x6, x7, x8, x9) := rfl
theorem wS_sitters : (wS E a hh nn (x1, x2, x3, x4, x5, x6, x7, x8, x9)).set 2 (a 2, .inl (eI E, 10, .inl y)) = wS E a hh nn (x1, y, x3, x4, x5, x6, x7, x8, x9) := rfl
theorem wS_kinds : (wS E a hh nn (x1, x2, x3, x4, x5, x6, x7, x8, x9)).set 3 (a 3, .inl (eI E, 8, .inl y)) = wS E a hh nn (x1, x2, y, x4, x5, x6, x7, x8, x9) := rfl
theorem wS_chairs : (wS E a hh nn (x1, x2, x3, x4, x5, x6, x7, x8, x9)).set 4 (a 4, .inl (eI E, 8, .inl y)) = wS E a hh nn (x1, x2, x3, y, x5, x6, x7, x8, x9) := rfl
theorem wS_lefts : (wS E a hh nn (x1, x2, x3, x4, x5, x6, x7, x8, x9)).set 5 (a 5, .inl (eI E, 8, .inl y)) = wS E a hh nn (x1, x2, x3, x4, y, x6, x7, x8, x9) := rfl
theorem wS_rights : (wS E a hh nn (x1, x2, x3, x4, x5, x6, x7, x8, x9)).set 6 (a 6, .inl (eI E, 8, .inl y)) = wS E a hh nn (x1, x2, x3, x4, x5, y, x7, x8, x9) := rfl
theorem wS_burnts : (wS E a hh nn (x1, x2, x3, x4, x5, x6, x7, x8, x9)).set 7 (a 7, .inl (eI E, 8, .inl y)) = wS E a hh nn (x1, x2, x3, x4, x5, x6, y, x8, x9) := rfl
theorem wS_fromLeft : (wS E a hh nn (x1, x2, x3, x4, x5, x6, x7, x8, x9)).set 8 (a 8, .inl (eI E, 8, .inl y)) = wS E a hh nn (x1, x2, x3, x4, x5, x6, x7, y, x9) := rfl
theorem wS_fromRight : (wS E a hh nn (x1, x2, x3, x4, x5, x6, x7, x8, x9)).set 9 (a 9, .inl (eI E, 8, .inl y)) = wS E a hh nn (x1, x2, x3, x4, x5, x6, x7, x8, y) := rfl
theorem wS_hour : (wS E a hh nn (x1, x2, x3, x4, x5, x6, x7, x8, x9)).set 0 (a 0, .inr (1, [.int hh, .int nn, .ref (a 1), .ref (a 2), .ref (a 3), .ref (a 4), .ref (a 5), .ref (a 6), .ref (a 7), .ref (a 8), .ref (a 9)].set 0 (.int hh2))) = wS E a hh2 nn (x1, x2, x3, x4, x5, x6, x7, x8, x9) := rfl
theorem wS_people : (wS E a hh nn (x1, x2, x3, x4, x5, x6, x7, x8, x9)).set 0 (a 0, .inr (1, [.int hh, .int nn, .ref (a 1), .ref (a 2), .ref (a 3), .ref (a 4), .ref (a 5), .ref (a 6), .ref (a 7), .ref (a 8), .ref (a 9)].set 1 (.int hh2))) = wS E a hh hh2 (x1, x2, x3, x4, x5, x6, x7, x8, x9) := rfl
theorem wX_size : (wX E x v1 v2 v3 v4 v5 f).set 0 (x 0, .inr (2, [.int v1, .ref (x 1), .int v2, .int v3, .int v4, .int v5].set 0 (.int hh))) = wX E x hh v2 v3 v4 v5 f := rfl
theorem wX_sort : (wX E x v1 v2 v3 v4 v5 f).set 0 (x 0, .inr (2, [.int v1, .ref (x 1), .int v2, .int v3, .int v4, .int v5].set 2 (.int hh))) = wX E x v1 hh v3 v4 v5 f := rfl
theorem wX_start : (wX E x v1 v2 v3 v4 v5 f).set 0 (x 0, .inr (2, [.int v1, .ref (x 1), .int v2, .int v3, .int v4, .int v5].set 3 (.int hh))) = wX E x v1 v2 hh v4 v5 f := rfl
theorem wX_end : (wX E x v1 v2 v3 v4 v5 f).set 0 (x 0, .inr (2, [.int v1, .ref (x 1), .int v2, .int v3, .int v4, .int v5].set 4 (.int hh))) = wX E x v1 v2 v3 hh v5 f := rfl
theorem wX_number : (wX E x v1 v2 v3 v4 v5 f).set 0 (x 0, .inr (2, [.int v1, .ref (x 1), .int v2, .int v3, .int v4, .int v5].set 5 (.int hh))) = wX E x v1 v2 v3 v4 hh f := rfl
theorem wX_tape : (wX E x v1 v2 v3 v4 v5 f).set 1 (x 1, .inl (eI E, 120, .inl y)) = wX E x v1 v2 v3 v4 v5 y := rfl
theorem wH_bits : (wH E x v1 v2 fl).set 0 (x 0, .inr (0, [.int v1, .int v2, .ref (x 1)].set 0 (.int hh))) = wH E x hh v2 fl := rfl
theorem wH_size : (wH E x v1 v2 fl).set 0 (x 0, .inr (0, [.int v1, .int v2, .ref (x 1)].set 1 (.int hh))) = wH E x v1 hh fl := rfl
theorem wH_numbers : (wH E x v1 v2 fl).set 1 (x 1, .inl (eJ E, 40, .inr (.inl yl))) = wH E x v1 v2 yl := rfl
theorem wO_keeps : (wO E a k b t x q v1 f).set 0 (a 0, .inr (3, [.ref (b 0), .ref (t 0), .ref (k 0), .ref (x 0), .ref (a 1), .ref (a 2), .int v1].set 6 (.int hh))) = wO E a k b t x q hh f := rfl
theorem wO_findings : (wO E a k b t x q v1 f).set 2 (a 2, .inl (eI E, 7, .inl y)) = wO E a k b t x q v1 y := rfl
end
section
variable {E : EV} {ws0 : va_W} {s : State} {H : Heap} {locs : List Loc} {P A B C : va_W}
theorem st_pair (h : St E ws0 s H locs (P ++ (A ++ (B ++ C)))) : St E ws0 s H locs (P ++ ((A ++ (B ++ [])) ++ C)) := by rw [List.append_nil, List.append_assoc]; exact h
theorem st_riap (h : St E ws0 s H locs (P ++ ((A ++ (B ++ [])) ++ C))) : St E ws0 s H locs (P ++ (A ++ (B ++ C))) := by rw [List.append_nil, List.append_assoc] at h; exact h
theorem st_eq {A A' : va_W} (e : A = A') (h : St E ws0 s H locs (P ++ (A ++ B))) : St E ws0 s H locs (P ++ (A' ++ B)) := by rw [← e]; exact h
end
theorem cpy_at {α : Type} (f g : Nat → α) (n k : Nat) (h : k < n) : va_cpy f g 0 0 n k = f k := by
  unfold va_cpy
  rw [if_pos ⟨Nat.zero_le _, by omega⟩, Nat.zero_add, Nat.sub_zero]
theorem RS_cpy {x1 x2 x3 x4 x5 x6 x7 x8 x9 y1 y2 y3 y4 y5 y6 y7 y8 y9 : Nat → Int32} {B : Es} (h : RS (x1, x2, x3, x4, x5, x6, x7, x8, x9) B) (n8 : pe B ≤ 8) : RS (va_cpy x1 y1 (0 : Int).toNat (0 : Int).toNat (10 : Int).toNat, va_cpy x2 y2 (0 : Int).toNat (0 : Int).toNat (10 : Int).toNat, va_cpy x3 y3 (0 : Int).toNat (0 : Int).toNat (8 : Int).toNat, va_cpy x4 y4 (0 : Int).toNat (0 : Int).toNat (8 : Int).toNat, va_cpy x5 y5 (0 : Int).toNat (0 : Int).toNat (8 : Int).toNat, va_cpy x6 y6 (0 : Int).toNat (0 : Int).toNat (8 : Int).toNat, va_cpy x7 y7 (0 : Int).toNat (0 : Int).toNat (8 : Int).toNat, y8, y9) B := by
  have k : ∀ (x y : Nat → Int32) (w : Int), RP x B w → RP (va_cpy x y (0 : Int).toNat (0 : Int).toNat (8 : Int).toNat) B w := fun x y w q p p0 p1 => by
    have e := cpy_at x y 8 p.toNat (by omega)
    exact e.trans (q p p0 p1)
  exact ⟨fun i i0 i1 => (cpy_at x1 y1 10 i.toNat (by omega)).trans (h.1 i i0 i1), fun i i0 i1 => (cpy_at x2 y2 10 i.toNat (by omega)).trans (h.2.1 i i0 i1), k _ _ _ h.2.2.1, k _ _ _ h.2.2.2.1, k _ _ _ h.2.2.2.2.1, k _ _ _ h.2.2.2.2.2.1, k _ _ _ h.2.2.2.2.2.2⟩
