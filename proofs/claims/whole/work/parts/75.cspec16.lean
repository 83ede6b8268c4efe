def wI (i : Nat) : Int := ([8, 9, 0, 1, 2, 3, 4, 5, 6, 7] : List Int).getD i 0
theorem chr_nm0 : ∀ i : Fin 10, ∀ k : Fin 7, k.val < strL.getD i.val 0 → (chr9 i.val (k.val : Int)).toInt = namesZ (7 * wI i.val + (k.val : Int)) := by decide +kernel
theorem wI_len0 : ∀ i : Fin 10, wlen (wI i.val) = (strL.getD i.val 0 : Nat) ∧ 0 ≤ wI i.val ∧ wI i.val < 10 := by decide +kernel
theorem chr_nm {i : Nat} (hi : i < 10) {z : Int} (z0 : 0 ≤ z) (z1 : z < (strL.getD i 0 : Nat)) : (chr9 i z).toInt = namesZ (7 * wI i + z) := by
  have hl := str_len ⟨i, hi⟩
  have h := chr_nm0 ⟨i, hi⟩ ⟨z.toNat, by dsimp only at hl; omega⟩ (by dsimp only; omega)
  simpa [tnc z0] using h
theorem wEq_y {tq : Int → Int} {w s e : Int} (h1 : e - s = wlen w) (h2 : eqk tq w s (wlen w).toNat = true) : wEq tq w s e = true := by
  unfold wEq; simp [h1, h2]
theorem wEq_l {tq : Int → Int} {w s e : Int} (h : wEq tq w s e = true) : e - s = wlen w ∧ eqk tq w s (wlen w).toNat = true := by
  unfold wEq at h; simpa using h
