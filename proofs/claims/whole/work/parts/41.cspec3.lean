theorem gf_step {u : Nat → Int32} {f : Int → Int} {i : Int} (i0 : 0 ≤ i) (h : ∀ q, 0 ≤ q → q < i → u q.toNat = iv (f q)) : ∀ q, 0 ≤ q → q < i + 1 → upd u i.toNat (iv (f i)) q.toNat = iv (f q) := by
  intro q q0 q1
  by_cases e : q = i
  · subst e; rw [upd_eq]
  · rw [upd_ne (by omega)]; exact h q q0 (by omega)
