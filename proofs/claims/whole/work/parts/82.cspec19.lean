theorem sort_20 {tq : Int → Int} {tn i : Int} : sortT tq tn i = 2 ↔ tK tq tn i = 20 := by
  unfold sortT tK
  by_cases a : tn ≤ tS tq tn i
  · simp only [if_pos a]; omega
  · simp only [if_neg a]
    by_cases b : isLt (tq (tS tq tn i)) = true
    · simp only [if_pos b]
      have := wrdk_rng tq (tS tq tn i) (run isLt tq tn (tS tq tn i)) 10 0 (by omega) (by omega)
      unfold wrd
      omega
    · simp only [if_neg b]
      by_cases c : isDg (tq (tS tq tn i)) = true
      · simp only [if_pos c]
      · simp only [if_neg c]
        split <;> omega
theorem sort_rng (tq : Int → Int) (tn i : Int) : 0 ≤ sortT tq tn i ∧ sortT tq tn i ≤ 4 := by
  unfold sortT
  repeat' split
  all_goals omega
theorem sort_22 {tq : Int → Int} {tn i : Int} : sortT tq tn i = 0 ↔ tK tq tn i = 22 := by
  unfold sortT tK
  by_cases a : tn ≤ tS tq tn i
  · simp only [if_pos a]
  · simp only [if_neg a]
    by_cases b : isLt (tq (tS tq tn i)) = true
    · simp only [if_pos b]
      have := wrdk_rng tq (tS tq tn i) (run isLt tq tn (tS tq tn i)) 10 0 (by omega) (by omega)
      unfold wrd
      omega
    · simp only [if_neg b]
      by_cases c : isDg (tq (tS tq tn i)) = true
      · simp only [if_pos c]; omega
      · simp only [if_neg c]
        split <;> omega
theorem sort_21 {tq : Int → Int} {tn i : Int} : sortT tq tn i = 3 ↔ tK tq tn i = 21 := by
  unfold sortT tK
  by_cases a : tn ≤ tS tq tn i
  · simp only [if_pos a]; omega
  · simp only [if_neg a]
    by_cases b : isLt (tq (tS tq tn i)) = true
    · simp only [if_pos b]
      have := wrdk_rng tq (tS tq tn i) (run isLt tq tn (tS tq tn i)) 10 0 (by omega) (by omega)
      unfold wrd
      omega
    · simp only [if_neg b]
      by_cases c : isDg (tq (tS tq tn i)) = true
      · simp only [if_pos c]; omega
      · simp only [if_neg c]
        split <;> omega
theorem tV_le (tq : Int → Int) {tn i : Int} (h : i ≤ tn) : 0 ≤ tV tq tn i ∧ tV tq tn i ≤ 1000 := by
  unfold tV
  split
  · omega
  · split
    · omega
    · split
      · refine nmk_rng tq _ _ (fun k a b => ?_)
        have := run_rng isDg tq (i := tS tq tn i) (tn := tn) (by omega)
        have q := runf_all isDg tq tn (tn - tS tq tn i).toNat (tS tq tn i) k a (by unfold run at b; unfold run at this; omega)
        have := isDg_i.mp q
        omega
      · omega
