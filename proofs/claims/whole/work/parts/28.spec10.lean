def RT (f : Nat → Int32) (tq : Int → Int) (tn : Int) : Prop := 0 ≤ tn ∧ tn ≤ 120 ∧ ∀ i, 0 ≤ i → i < tn → f i.toNat = iv (tq i) ∧ 0 ≤ tq i ∧ tq i ≤ 255
theorem eqk_y {tq : Int → Int} {w s i : Int} (i0 : 0 ≤ i) (h : eqk tq w s i.toNat = true) (h2 : namesZ (7 * w + i) = tq (s + i)) : eqk tq w s (i + 1).toNat = true := by
  rw [tn1 i0]; unfold eqk; rw [h, tnc i0]; simp [h2]
theorem eqk_n {tq : Int → Int} {w s i : Int} (i0 : 0 ≤ i) (h2 : ¬ namesZ (7 * w + i) = tq (s + i)) : ¬ eqk tq w s (i + 1).toNat = true := by
  rw [tn1 i0]; unfold eqk; rw [tnc i0]; simp [h2]
theorem eqk_le {tq : Int → Int} {w s : Int} : ∀ {n k : Nat}, eqk tq w s (k + n) = true → eqk tq w s k = true
  | 0, _, h => h
  | n + 1, k, h => by
    have h : (eqk tq w s (k + n) && _) = true := h
    simp only [Bool.and_eq_true] at h
    exact eqk_le h.1
theorem eqk_mono {tq : Int → Int} {w s i n : Int} (i0 : 0 ≤ i) (h : i ≤ n) (h2 : eqk tq w s n.toNat = true) : eqk tq w s i.toNat = true := by
  refine eqk_le (n := n.toNat - i.toNat) ?_
  rwa [show i.toNat + (n.toNat - i.toNat) = n.toNat by omega]
theorem tok_over {tq : Int → Int} {tn i s : Int} (hs : tS tq tn i = s) (h : tn ≤ s) : tK tq tn i = 22 ∧ tE tq tn i = s ∧ tV tq tn i = 0 := by
  unfold tK tE tV; rw [hs]; simp only [if_pos h, and_self]
theorem tok_word {tq : Int → Int} {tn i s : Int} (hs : tS tq tn i = s) (h : s < tn) (h2 : isLt (tq s) = true) : tK tq tn i = wrd tq s (run isLt tq tn s) ∧ tE tq tn i = run isLt tq tn s ∧ tV tq tn i = 0 := by
  unfold tK tE tV; rw [hs]; simp only [if_neg (show ¬ tn ≤ s by omega), if_pos h2, and_self]
theorem tok_num {tq : Int → Int} {tn i s : Int} (hs : tS tq tn i = s) (h : s < tn) (h2 : ¬ isLt (tq s) = true) (h3 : isDg (tq s) = true) : tK tq tn i = 20 ∧ tE tq tn i = run isDg tq tn s ∧ tV tq tn i = nmk tq s (run isDg tq tn s - s).toNat := by
  unfold tK tE tV; rw [hs]; simp only [if_neg (show ¬ tn ≤ s by omega), if_neg h2, if_pos h3, and_self]
theorem tok_oth {tq : Int → Int} {tn i s : Int} (hs : tS tq tn i = s) (h : s < tn) (h2 : ¬ isLt (tq s) = true) (h3 : ¬ isDg (tq s) = true) : tK tq tn i = (if tq s = 59 then 21 else 23) ∧ tE tq tn i = s + 1 ∧ tV tq tn i = 0 := by
  unfold tK tE tV; rw [hs]; simp only [if_neg (show ¬ tn ≤ s by omega), if_neg h2, if_neg h3, and_self]
theorem isLt_i {c : Int} : isLt c = true ↔ (97 ≤ c ∧ c ≤ 122) := by simp [isLt]
theorem isDg_i {c : Int} : isDg c = true ↔ (48 ≤ c ∧ c ≤ 57) := by simp [isDg]
theorem isBl_i {c : Int} : isBl c = true ↔ (32 ≤ c ∧ c ≤ 32) := by simp [isBl]
theorem CV_step {x v c : Int} (h : CV x v) (hc : 48 ≤ c) (hc2 : c ≤ 57) : CV (if 999 < x then x else 10 * x + c - 48) (if 1000 < 10 * v + c - 48 then 1000 else 10 * v + c - 48) := by
  obtain ⟨h0, h1, h2, h3⟩ := h
  by_cases q : x ≤ 999
  · rw [if_neg (by omega), h2 q]
    refine ⟨by omega, by omega, fun a => ?_, fun a => ?_⟩
    · rw [if_neg (by omega)]
    · by_cases z : 1000 < 10 * x + c - 48
      · rw [if_pos z]
      · rw [if_neg z]; omega
  · rw [if_pos (by omega), h3 (by omega)]
    refine ⟨by omega, by omega, fun a => by omega, fun a => ?_⟩
    rw [if_pos (by omega)]
theorem nmk_s {tq : Int → Int} {s i : Int} (h : s ≤ i) : nmk tq s (i + 1 - s).toNat = if 1000 < 10 * nmk tq s (i - s).toNat + tq i - 48 then 1000 else 10 * nmk tq s (i - s).toNat + tq i - 48 := by
  rw [show (i + 1 - s).toNat = (i - s).toNat + 1 by omega, nmk, show s + (((i - s).toNat : Nat) : Int) = i by omega]
theorem names_b0 : ∀ k : Fin 70, 0 ≤ namesZ (k.val : Int) ∧ namesZ (k.val : Int) ≤ 255 := by decide +kernel
theorem names_b (k : Int) (h0 : 0 ≤ k) (h1 : k < 70) : 0 ≤ namesZ k ∧ namesZ k ≤ 255 := by
  have h := names_b0 ⟨k.toNat, by omega⟩
  simpa [tnc h0] using h
