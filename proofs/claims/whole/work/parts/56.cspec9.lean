theorem fl_step {u : Nat → Int64} {x : Int64} {i : Int} (i0 : 0 ≤ i) (h : ∀ j : Nat, (j : Int) < i → u j = x) : ∀ j : Nat, (j : Int) < i + 1 → vp_updL u i.toNat x j = x := by
  intro j hj
  unfold vp_updL
  split
  · rfl
  · exact h j (by omega)
