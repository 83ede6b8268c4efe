theorem knd_c (tq : Int → Int) (tn J : Int) (t0 : 0 ≤ tK tq tn J) : (knd (sortT tq tn J) tq (tS tq tn J) (tE tq tn J) = tK tq tn J ∧ tK tq tn J ≤ 5) ∨ (knd (sortT tq tn J) tq (tS tq tn J) (tE tq tn J) = -1 ∧ 5 < tK tq tn J) := by
  have e0 := tK_w (tq := tq) (tn := tn) (i := J) (w := 0) (by decide) (by decide)
  have e1 := tK_w (tq := tq) (tn := tn) (i := J) (w := 1) (by decide) (by decide)
  have e2 := tK_w (tq := tq) (tn := tn) (i := J) (w := 2) (by decide) (by decide)
  have e3 := tK_w (tq := tq) (tn := tn) (i := J) (w := 3) (by decide) (by decide)
  have e4 := tK_w (tq := tq) (tn := tn) (i := J) (w := 4) (by decide) (by decide)
  have e5 := tK_w (tq := tq) (tn := tn) (i := J) (w := 5) (by decide) (by decide)
  unfold knd
  simp only [show wI 2 = 0 from rfl, show wI 3 = 1 from rfl, show wI 4 = 2 from rfl, show wI 5 = 3 from rfl, show wI 6 = 4 from rfl, show wI 7 = 5 from rfl, e0, e1, e2, e3, e4, e5]
  by_cases h0 : tK tq tn J = 0
  · rw [if_pos h0]; omega
  rw [if_neg h0]
  by_cases h1 : tK tq tn J = 1
  · rw [if_pos h1]; omega
  rw [if_neg h1]
  by_cases h2 : tK tq tn J = 2
  · rw [if_pos h2]; omega
  rw [if_neg h2]
  by_cases h3 : tK tq tn J = 3
  · rw [if_pos h3]; omega
  rw [if_neg h3]
  by_cases h4 : tK tq tn J = 4
  · rw [if_pos h4]; omega
  rw [if_neg h4]
  by_cases h5 : tK tq tn J = 5
  · rw [if_pos h5]; omega
  rw [if_neg h5]
  omega
theorem prs_p {tq : Int → Int} {tn : Int} {g : Nat} {A : Es} {i n : Int} (hg : 0 < g) : prs tq tn g A i n = aft tq tn (g - 1) A (itm tq tn A i) n := by
  obtain ⟨f, rfl⟩ : ∃ f, g = f + 1 := ⟨g - 1, by omega⟩
  exact prs_s tq tn f A i n
theorem aft_21 {tq : Int → Int} {tn : Int} {f : Nat} {B A1 : Es} {j n : Int} (hk : tK tq tn j = 21) : aft tq tn f B (true, A1, j) n = prs tq tn f A1 (tE tq tn j) (n + 1) := by
  unfold aft
  rw [if_pos rfl]
  show (if tK tq tn j = 22 then _ else if tK tq tn j = 21 then _ else _) = _
  rw [if_neg (by omega), if_pos hk]
