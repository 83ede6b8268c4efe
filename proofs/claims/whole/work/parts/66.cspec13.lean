def sortT (tq : Int → Int) (tn i : Int) : Int := if tn ≤ tS tq tn i then 0 else if isLt (tq (tS tq tn i)) = true then 1 else if isDg (tq (tS tq tn i)) = true then 2 else if tq (tS tq tn i) = 59 then 3 else 4
theorem nmk_rng (tq : Int → Int) (s : Int) : ∀ n : Nat, (∀ k, s ≤ k → k < s + n → 48 ≤ tq k) → 0 ≤ nmk tq s n ∧ nmk tq s n ≤ 1000
  | 0, _ => by unfold nmk; omega
  | n + 1, h => by
    have h1 := nmk_rng tq s n (fun k a b => h k a (by omega))
    have h2 := h (s + n) (by omega) (by omega)
    unfold nmk
    split <;> omega
theorem sort_0 {tq : Int → Int} {tn i s : Int} (hs : tS tq tn i = s) (h : tn ≤ s) : sortT tq tn i = 0 := by unfold sortT; rw [hs, if_pos h]
theorem sort_1 {tq : Int → Int} {tn i s : Int} (hs : tS tq tn i = s) (h : s < tn) (h2 : isLt (tq s) = true) : sortT tq tn i = 1 := by unfold sortT; rw [hs, if_neg (by omega), if_pos h2]
theorem sort_2 {tq : Int → Int} {tn i s : Int} (hs : tS tq tn i = s) (h : s < tn) (h2 : ¬ isLt (tq s) = true) (h3 : isDg (tq s) = true) : sortT tq tn i = 2 := by unfold sortT; rw [hs, if_neg (by omega), if_neg h2, if_pos h3]
theorem sort_3 {tq : Int → Int} {tn i s : Int} (hs : tS tq tn i = s) (h : s < tn) (h2 : ¬ isLt (tq s) = true) (h3 : ¬ isDg (tq s) = true) : sortT tq tn i = if tq s = 59 then 3 else 4 := by unfold sortT; rw [hs, if_neg (by omega), if_neg h2, if_neg h3]
