theorem isb_y {c : Int → Int64} {A : Es} {p i : Int} (i0 : 0 ≤ i) (h : isb c A p i.toNat = true) (h2 : (c i).toInt = brn (stepn A i.toNat) p) : isb c A p (i + 1).toNat = true := by
  rw [tn1 i0]; unfold isb; rw [h, tnc i0]; simp [h2]
theorem isb_n {c : Int → Int64} {A : Es} {p i : Int} (i0 : 0 ≤ i) (h2 : (c i).toInt ≠ brn (stepn A i.toNat) p) : isb c A p (i + 1).toNat = false := by
  rw [tn1 i0]; unfold isb; rw [tnc i0]; simp [h2]
theorem isb_end {c : Int → Int64} {A : Es} {p i n : Int} (i0 : 0 ≤ i) (h : i ≤ n) (hb : isb c A p i.toNat = false) : isb c A p n.toNat = false := by
  have := isb_mono hb (n.toNat - i.toNat)
  rwa [show i.toNat + (n.toNat - i.toNat) = n.toNat by omega] at this
theorem bz0 {P : Prop} [Decidable P] (h : bz P = 0) : ¬ P := fun q => by rw [bz_t q] at h; cases h
theorem bz1 {P : Prop} [Decidable P] (h : bz P ≠ 0) : P := Classical.byContradiction fun q => h (bz_f q)
theorem cntk_y {b : Int → Bool} {i : Int} (i0 : 0 ≤ i) (h : b i = true) : cntk b (i + 1).toNat = cntk b i.toNat + 1 := by rw [tn1 i0, cntk, tnc i0, if_pos h]
theorem cntk_n {b : Int → Bool} {i : Int} (i0 : 0 ≤ i) (h : ¬ b i = true) : cntk b (i + 1).toNat = cntk b i.toNat + 0 := by rw [tn1 i0, cntk, tnc i0, if_neg h]
theorem RM_pp {A : Es} (h : IA A) {x o j : Int} (x0 : 0 ≤ x) (x1 : x < pe A) (o0 : 0 ≤ o) (o1 : o < pe A) (j0 : 0 ≤ j) (j1 : j < 36) : IA (pu (pu A 0 x (j / 6)) 0 o (j % 6)) :=
  IA_pu (IA_pu h x0 x1 (Or.inl ⟨rfl, by omega, by omega⟩)) o0 o1 (Or.inl ⟨rfl, by omega, by omega⟩)
theorem isb_fin {c : Int → Int64} {A : Es} {p i n : Int} (i0 : 0 ≤ i) (h : i ≤ n) (hx : i = n ∨ bz (isb c A p i.toNat = true) = 0) : bz (isb c A p i.toNat = true) = bz (isb c A p n.toNat = true) := by
  rcases hx with rfl | hx
  · rfl
  · have h1 := bz0 hx
    rw [bz_f h1, bz_f (by rw [isb_end i0 h (by simpa using h1)]; decide)]
