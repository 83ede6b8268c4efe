section
variable {E : EV} {ws0 : va_W} {s : State} {H : Heap} {locs : List Loc} {P A B C : va_W}
theorem st_sing (h : St E ws0 s H locs (P ++ (A ++ B))) : St E ws0 s H locs (P ++ ((A ++ []) ++ B)) := by rw [List.append_nil]; exact h
theorem st_gnis (h : St E ws0 s H locs (P ++ ((A ++ []) ++ B))) : St E ws0 s H locs (P ++ (A ++ B)) := by rw [List.append_nil] at h; exact h
end
abbrev Ac : Type := Int32 × Int32 × Sa
abbrev Hc : Type := Int32 × Int32 × (Nat → Int64)
abbrev Tc : Type := (Int32 × (Nat → Int32)) × Ac × Ac × Ac × (Int32 × Int32 × Int32 × Int32 × Int32 × (Nat → Int32)) × Hc × Hc × Hc × Hc
def wT (E : EV) (a k b t x : Nat → Nat) (q : Nat → Nat → Nat) (u : Tc) : va_W := wO E a k b t x q u.1.1 u.1.2 ++ (wS E k u.2.1.1 u.2.1.2.1 u.2.1.2.2 ++ (wS E b u.2.2.1.1 u.2.2.1.2.1 u.2.2.1.2.2 ++ (wS E t u.2.2.2.1.1 u.2.2.2.1.2.1 u.2.2.2.1.2.2 ++ (wX E x u.2.2.2.2.1.1 u.2.2.2.2.1.2.1 u.2.2.2.2.1.2.2.1 u.2.2.2.2.1.2.2.2.1 u.2.2.2.2.1.2.2.2.2.1 u.2.2.2.2.1.2.2.2.2.2 ++
  (wH E (q 0) u.2.2.2.2.2.1.1 u.2.2.2.2.2.1.2.1 u.2.2.2.2.2.1.2.2 ++ (wH E (q 1) u.2.2.2.2.2.2.1.1 u.2.2.2.2.2.2.1.2.1 u.2.2.2.2.2.2.1.2.2 ++ (wH E (q 2) u.2.2.2.2.2.2.2.1.1 u.2.2.2.2.2.2.2.1.2.1 u.2.2.2.2.2.2.2.1.2.2 ++ (wH E (q 3) u.2.2.2.2.2.2.2.2.1 u.2.2.2.2.2.2.2.2.2.1 u.2.2.2.2.2.2.2.2.2.2 ++ []))))))))
def RepA (u : Ac) (A : Es) : Prop := u.1 = iv (hr A) ∧ u.2.1 = iv (pe A) ∧ RS u.2.2 A ∧ IA A ∧ hr A ≤ 99999
def RepH (u : Hc) (bq sq : Int → Int) (cq : Int → Int → Int64) (j : Int) : Prop := u.1 = iv (bq j) ∧ u.2.1 = iv (sq j) ∧ ∀ k, 0 ≤ k → k < 40 → u.2.2 k.toNat = cq j k
def RepC (u : Tc) (S : Sg) : Prop := RepA u.2.2.1 S.1 ∧ (u.1.1 = iv S.2.2.1 ∧ (S.2.2.1 = 0 ∨ S.2.2.1 = 1) ∧ (S.2.2.1 = 1 → RepA u.2.1 S.2.1)) ∧ RF 7 u.1.2 S.2.2.2.1 ∧ RepT u.2.2.2.2.1.2.2.2.2.2 u.2.2.2.2.1.1 S.2.2.2.2.1 S.2.2.2.2.2.1 ∧
  okB S.2.2.2.2.2.2.1 S.2.2.2.2.2.2.2.1 ∧ RepH u.2.2.2.2.2.1 S.2.2.2.2.2.2.1 S.2.2.2.2.2.2.2.1 S.2.2.2.2.2.2.2.2 0 ∧ RepH u.2.2.2.2.2.2.1 S.2.2.2.2.2.2.1 S.2.2.2.2.2.2.2.1 S.2.2.2.2.2.2.2.2 1 ∧ RepH u.2.2.2.2.2.2.2.1 S.2.2.2.2.2.2.1 S.2.2.2.2.2.2.2.1 S.2.2.2.2.2.2.2.2 2 ∧ RepH u.2.2.2.2.2.2.2.2 S.2.2.2.2.2.2.1 S.2.2.2.2.2.2.2.1 S.2.2.2.2.2.2.2.2 3
