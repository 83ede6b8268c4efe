def chr9 (i : Nat) (z : Int) : Int32 := (((strB.getD i []).getD z.toNat 0 &&& iv 255).toUInt32 % 65536).toInt32
theorem chr_nar : ∀ i : Fin 10, ∀ z : Fin 7, narrow .char (.int (chr9 i.val (z.val : Int))) = .int (chr9 i.val (z.val : Int)) := by decide +kernel
theorem str_len : ∀ i : Fin 10, strL.getD i.val 0 ≤ 7 := by decide +kernel
theorem chr_n {i : Nat} (hi : i < 10) {z : Int} (z0 : 0 ≤ z) (z1 : z < (strL.getD i 0 : Nat)) : narrow .char (.int (iv (chr9 i z).toInt)) = .int (iv (chr9 i z).toInt) := by
  have hl := str_len ⟨i, hi⟩
  have h := chr_nar ⟨i, hi⟩ ⟨z.toNat, by dsimp only at hl; omega⟩
  rw [iv_of]
  simpa [tnc z0] using h
