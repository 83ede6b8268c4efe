section ZS
variable {p : Program} {l : Launch} {e : Env} {R : Room} {s : State} {m : MethodId} {args : Array Value} {below : List Frame} {meth : Method} {c : Code} {H : Heap} {locs : List Loc} {cells slots : Nat} {Q : State → Prop}
variable {own : String} {cc : ByteArray} {nL : Nat} {rt : Option FieldType} {pc : Nat} {ls : Array Slot} {rest : List Value} {E : EV} {ws0 ws : va_W}
theorem St.nar (h : St E ws0 s H locs ws) : ∀ q, inW ws0 q → eZ E ≤ q := fun _ ⟨k, _, hk⟩ => h.2.2.2.1.2 k _ hk
theorem z_getN (X : Cx p s m meth c args RX5 cc nL rt) (h : St E ws0 s H locs ws) (d : decode cc pc = .ok (.getstatic 158, 3)) (k : W p l e R s m args below meth c H locs cells slots Q (F0 m (pc + 3) ls (.ref (eN E) :: rest))) : W p l e R s m args below meth c H locs cells slots Q (F0 m pc ls rest) :=
  va_gets X.1 X.2.1 (h.2.2.2.2.2.2.2.1.narrow h.nar) h.2.1 X.2.2.2.1 (X.2.2.2.2.1 _ fl_X5_158) (fun _ q => q) d k
theorem z_getA (X : Cx p s m meth c args RX3 cc nL rt) (h : St E ws0 s H locs ws) (d : decode cc pc = .ok (.getstatic 13, 3)) (k : W p l e R s m args below meth c H locs cells slots Q (F0 m (pc + 3) ls (.ref (eA E) :: rest))) : W p l e R s m args below meth c H locs cells slots Q (F0 m pc ls rest) :=
  va_gets X.1 X.2.1 (h.2.2.2.2.2.1.narrow h.nar) h.2.1 X.2.2.2.1 (X.2.2.2.2.1 _ fl_X3_13) (fun _ q => q) d k
theorem z_nald (X : Cx p s m meth c args own cc nL rt) (h : St E ws0 s H locs ws) {z : Int} (h0 : 0 ≤ z) (h1 : z < 70) (d : decode cc pc = .ok (.iaload, 1)) (k : W p l e R s m args below meth c H locs cells slots Q (F0 m (pc + 1) ls (.int (iv (namesZ z)) :: rest))) : W p l e R s m args below meth c H locs cells slots Q (F0 m pc ls (.int (iv z) :: .ref (eN E) :: rest)) := by
  refine va_ti X.1 X.2.1 (h.2.2.2.2.2.2.2.2.1.narrow h.nar) h.2.1 (iv_in h0 h1 (by decide)) (v := .int (iv (namesZ z))) ?_ d k
  rw [iv_clamp ⟨by omega, by omega⟩]
  unfold namesF namesZ
  rw [iv_of]
def aboveZ (j : Int) : Int := ([-1, 0, 0, 0, 2, 1] : List Int).getD j.toNat 0
theorem above_z : ∀ k : Fin 6, aboveF k.val = .int (iv (aboveZ (k.val : Int))) := by
  intro k
  unfold aboveF
  congr 1
  revert k
  decide +kernel
theorem z_aald (X : Cx p s m meth c args own cc nL rt) (h : St E ws0 s H locs ws) {z : Int} (h0 : 0 ≤ z) (h1 : z < 6) (d : decode cc pc = .ok (.iaload, 1)) (k : W p l e R s m args below meth c H locs cells slots Q (F0 m (pc + 1) ls (.int (iv (aboveZ z)) :: rest))) : W p l e R s m args below meth c H locs cells slots Q (F0 m pc ls (.int (iv z) :: .ref (eA E) :: rest)) := by
  refine va_ti X.1 X.2.1 (h.2.2.2.2.2.2.1.narrow h.nar) h.2.1 (iv_in h0 h1 (by decide)) (v := .int (iv (aboveZ z))) ?_ d k
  rw [iv_clamp ⟨by omega, by omega⟩]
  have := above_z ⟨z.toNat, by omega⟩
  simpa [tnc h0] using this
end ZS
