/-! ===== the law ===== -/
def sc (xs : Nat → Int32) (z : Int) : Int := (xs z.toNat).toInt
theorem r32_toInt (x : Int32) : r32 x.toInt := by
  have h1 := Int32.le_toInt x
  have h2 := Int32.toInt_lt x
  constructor <;> omega
theorem r32_sc (xs : Nat → Int32) (z : Int) : r32 (sc xs z) := r32_toInt _
theorem iv_sc (xs : Nat → Int32) (z : Int) : xs z.toNat = iv (sc xs z) := (iv_of _).symm
theorem wT_map (E : EV) (a k b t x : Nat → Nat) (q : Nat → Nat → Nat) (u w : Tc) : (wT E a k b t x q u).map Prod.fst = (wT E a k b t x q w).map Prod.fst := rfl
section ZW
variable {p : Program} {l : Launch} {e : Env} {R : Room} {s : State} {m : MethodId} {args : Array Value} {below : List Frame} {meth : Method} {c : Code} {H : Heap} {locs : List Loc} {cells slots : Nat} {Q : State → Prop}
variable {own : String} {cc : ByteArray} {nL : Nat} {rt : Option FieldType} {pc : Nat} {ls : Array Slot} {rest st : List Value} {E : EV} {A : Nat → Prop} {ws P B : va_W}
theorem sn_nil (h : SN E A s H locs (P ++ B)) : SN E A s H locs (P ++ (B ++ [])) := by rw [List.append_nil]; exact h
theorem sn_lin (h : SN E A s H locs (P ++ (B ++ []))) : SN E A s H locs (P ++ B) := by rw [List.append_nil] at h; exact h
theorem sn_z (h : SN E A s H locs (P ++ B)) : SN E A s H locs ([] ++ (P ++ B)) := h
theorem sn_zz (h : SN E A s H locs ([] ++ (P ++ B))) : SN E A s H locs (P ++ B) := h
theorem l_sld (X : Cx p s m meth c args own cc nL rt) {b0 L : Nat} {xs : Nat → Int32} (hX : va_X b0 L xs s s.heap) (hbl : b0 < s.heap.size) (hbA : ¬ A b0) (hL : L ≤ 3072) (h : SN E A s H locs ws) {z : Int} (h0 : 0 ≤ z) (h1 : z < L) (d : decode cc pc = .ok (.iaload, 1))
    (kk : W p l e R s m args below meth c H locs cells slots Q (F0 m (pc + 1) ls (.int (iv (sc xs z)) :: rest))) : W p l e R s m args below meth c H locs cells slots Q (F0 m pc ls (.int (iv z) :: .ref b0 :: rest)) := by
  refine va_sld X.1 X.2.1 hX hbl hbA h.2.1 (iv_in h0 h1 (by omega)) d ?_
  rw [iv_clamp ⟨by omega, by omega⟩, iv_sc xs z]
  exact kk
theorem l_slen (X : Cx p s m meth c args own cc nL rt) {b0 L : Nat} {xs : Nat → Int32} (hX : va_X b0 L xs s s.heap) (hbl : b0 < s.heap.size) (hbA : ¬ A b0) (h : SN E A s H locs ws) (d : decode cc pc = .ok (.arraylength, 1))
    (kk : W p l e R s m args below meth c H locs cells slots Q (F0 m (pc + 1) ls (.int (iv (L : Int)) :: rest))) : W p l e R s m args below meth c H locs cells slots Q (F0 m pc ls (.ref b0 :: rest)) :=
  va_slen X.1 X.2.1 hX hbl hbA h.2.1 d kk
end ZW
