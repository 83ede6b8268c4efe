theorem stk_lt (f : Int → Int) (w : Int) (w0 : 0 ≤ w) : ∀ n : Nat, (n : Int) ≤ w → stk f w n = 0
  | 0, _ => rfl
  | n + 1, h => by
    rw [stk, if_neg (by omega), Int.add_zero]
    exact stk_lt f w w0 n (by omega)
theorem stk_ge (f : Int → Int) (w : Int) (w0 : 0 ≤ w) : ∀ n : Nat, w < (n : Int) → stk f w n = f w
  | 0, h => absurd h (by omega)
  | n + 1, h => by
    by_cases e : w = n
    · rw [stk, if_pos (by omega), stk_lt f w w0 n (by omega), e]; omega
    · rw [stk, if_neg (by omega), Int.add_zero]
      exact stk_ge f w w0 n (by omega)
theorem stk_one {f : Int → Int} {w : Int} (w0 : 0 ≤ w) (w1 : w < 7) : stk f w 7 = f w := stk_ge f w w0 7 (by omega)
