theorem shr0 (x : Int32) : x >>> (iv 0 &&& 31) = x := by
  rw [show (iv 0 &&& 31 : Int32) = 0 by decide]
  simp
