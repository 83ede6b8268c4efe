theorem nm_dist : ∀ w v : Fin 10, w ≠ v → wlen (w.val : Int) ≠ wlen (v.val : Int) ∨ ∃ k : Fin 7, (k.val : Int) < wlen (w.val : Int) ∧ namesZ (7 * (w.val : Int) + (k.val : Int)) ≠ namesZ (7 * (v.val : Int) + (k.val : Int)) := by decide +kernel
theorem wEq_one {tq : Int → Int} {w v s e : Int} (w0 : 0 ≤ w) (w1 : w < 10) (v0 : 0 ≤ v) (v1 : v < 10) (h : wEq tq w s e = true) (h2 : wEq tq v s e = true) : w = v := by
  apply Classical.byContradiction
  intro hne
  have a := wEq_l h
  have b := wEq_l h2
  have d := nm_dist ⟨w.toNat, by omega⟩ ⟨v.toNat, by omega⟩ (fun q => hne (by have := congrArg Fin.val q; dsimp only at this; omega))
  simp only [tnc w0, tnc v0] at d
  rcases d with d | ⟨k, d1, d2⟩
  · omega
  · have c1 := eqk_get a.2 (k.val : Int) (by omega) (by omega)
    have c2 := eqk_get b.2 (k.val : Int) (by omega) (by omega)
    rw [c1, c2] at d2
    exact d2 rfl
theorem wrdk_is {tq : Int → Int} {s e w : Int} (w0 : 0 ≤ w) (w1 : w < 10) (h : wEq tq w s e = true) : ∀ (f : Nat) (v : Int), 0 ≤ v → v ≤ w → w < v + f → v + f ≤ 10 → wrdk tq s e f v = w
  | 0, v, _, a, b, _ => absurd b (by omega)
  | f + 1, v, v0, a, b, c => by
    unfold wrdk
    by_cases q : wEq tq v s e = true
    · rw [if_pos q]; exact wEq_one v0 (by omega) w0 w1 q h
    · rw [if_neg q]
      by_cases e1 : v = w
      · rw [e1] at q; exact absurd h q
      · exact wrdk_is w0 w1 h f (v + 1) (by omega) (by omega) (by omega) (by omega)
theorem wrdk_eq {tq : Int → Int} {s e : Int} : ∀ (f : Nat) (v w : Int), w < 10 → wrdk tq s e f v = w → wEq tq w s e = true
  | 0, v, w, a, b => by unfold wrdk at b; omega
  | f + 1, v, w, a, b => by
    unfold wrdk at b
    by_cases q : wEq tq v s e = true
    · rw [if_pos q] at b; rw [← b]; exact q
    · rw [if_neg q] at b; exact wrdk_eq f (v + 1) w a b
theorem tK_w {tq : Int → Int} {tn i w : Int} (w0 : 0 ≤ w) (w1 : w < 10) : (sortT tq tn i = 1 ∧ wEq tq w (tS tq tn i) (tE tq tn i) = true) ↔ tK tq tn i = w := by
  unfold sortT tE tK
  by_cases a : tn ≤ tS tq tn i
  · simp only [if_pos a]; constructor <;> intro q <;> omega
  · simp only [if_neg a]
    by_cases b : isLt (tq (tS tq tn i)) = true
    · simp only [if_pos b]
      constructor
      · rintro ⟨_, q⟩
        exact wrdk_is w0 w1 q 10 0 (by omega) (by omega) (by omega) (by omega)
      · intro q
        exact ⟨trivial, wrdk_eq 10 0 w w1 q⟩
    · simp only [if_neg b]
      by_cases c : isDg (tq (tS tq tn i)) = true
      · simp only [if_pos c]; constructor <;> intro q <;> omega
      · simp only [if_neg c]
        constructor
        · intro q; exfalso; have := q.1; split at this <;> omega
        · intro q; exfalso; split at q <;> omega
