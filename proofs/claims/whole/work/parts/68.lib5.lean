section GT
variable {l : Launch} {E : EV} {y : MethodName} {bytes : ByteArray} {maxL : Nat} {rm : Room} {ws : va_W} {av : List Value}
theorem goT {ty : FieldType} {z : Int} (hn : narrow ty (.int (iv z)) = .int (iv z)) (hy : plainName y.cls = true) (hav : (lg_sl av).length ≤ maxL)
    (body : ∀ (p : Program) (e : Env) (s : State) (m : MethodId) (below : List Frame) (meth : Method) (c : Code) (ls : Array Slot) (args : Array Value) (Q : State → Prop),
      (∀ (pc : Nat) (ls : Array Slot) (z' : Int), z' = z → decode bytes pc = .ok (.ireturn, 1) → W p l e rm s m args below meth c s.heap [] 0 0 Q (F0 m pc ls [.int (iv z')])) →
      Cx p s m meth c args y.cls bytes maxL (some ty) → St E ws s s.heap [] ws → lv_has ls maxL (lv_args 0 av) → W p l e rm s m args below meth c s.heap [] 0 0 Q (F0 m 0 ls [])) :
    MP E l y bytes maxL (some ty) rm ws av z :=
  Met.go hy hav (fun p e s m below meth c ls X h hl => body p e s m below meth c ls _ _ (fun pc ls z' hz d => W.zret X.1 X.2.1 X.2.2.2.2.2.1 (by rw [hz]; exact hn) (fun t ht _ => ⟨_, rfl, by rw [hz], ht⟩) (fun q hq => by cases hq) d X.2.2.2.2.2.2) X h hl)
end GT
section ZST
variable {p : Program} {l : Launch} {e : Env} {R : Room} {s : State} {m : MethodId} {args : Array Value} {below : List Frame} {meth : Method} {c : Code} {H : Heap} {locs : List Loc} {cells slots : Nat} {Q : State → Prop}
variable {own : String} {cc : ByteArray} {nL : Nat} {rt : Option FieldType} {pc : Nat} {ls : Array Slot} {rest : List Value} {E : EV} {ws0 ws : va_W}
theorem St.str (h : St E ws0 s H locs ws) : vk_S 10 strL strB (eK E) (eV E) (inW ws0) s s.heap := h.2.2.2.2.2.2.2.2.2.2.2.narrow h.nar
theorem z_compact (X : Cx p s m meth c args RJ0 cc nL rt) (h : St E ws0 s H locs ws) (d : decode cc pc = .ok (.getstatic 38, 3)) (k : W p l e R s m args below meth c H locs cells slots Q (F0 m (pc + 3) ls (.int (iv 1) :: rest))) : W p l e R s m args below meth c H locs cells slots Q (F0 m pc ls rest) :=
  va_gets X.1 X.2.1 (h.2.2.2.2.2.2.2.2.2.1.narrow h.nar) h.2.1 X.2.2.2.1 (X.2.2.2.2.1 _ fl_J0_38) (fun _ q => q) d k
theorem z_sval (X : Cx p s m meth c args RJ0 cc nL rt) (h : St E ws0 s H locs ws) {i : Nat} (hi : i < 10) (d : decode cc pc = .ok (.getfield 9, 3)) (k : W p l e R s m args below meth c H locs cells slots Q (F0 m (pc + 3) ls (.ref (eV E i) :: rest))) : W p l e R s m args below meth c H locs cells slots Q (F0 m pc ls (.ref (eK E i) :: rest)) :=
  vk_getf X.1 X.2.1 ((h.str.1 i hi).2.2.1) h.2.1 X.2.2.2.1 (X.2.2.2.2.1 _ fl_J0_9) (fun _ q => q) d k
theorem z_scod (X : Cx p s m meth c args RJ0 cc nL rt) (h : St E ws0 s H locs ws) {i : Nat} (hi : i < 10) (d : decode cc pc = .ok (.getfield 15, 3)) (k : W p l e R s m args below meth c H locs cells slots Q (F0 m (pc + 3) ls (.int (iv 0) :: rest))) : W p l e R s m args below meth c H locs cells slots Q (F0 m pc ls (.ref (eK E i) :: rest)) :=
  vk_getf X.1 X.2.1 ((h.str.1 i hi).2.1) h.2.1 X.2.2.2.1 (X.2.2.2.2.1 _ fl_J0_15) (fun _ q => q) d k
theorem z_slen (X : Cx p s m meth c args own cc nL rt) (h : St E ws0 s H locs ws) {i : Nat} (hi : i < 10) (d : decode cc pc = .ok (.arraylength, 1)) (k : W p l e R s m args below meth c H locs cells slots Q (F0 m (pc + 1) ls (.int (iv ((strL.getD i 0 : Nat) : Int)) :: rest))) : W p l e R s m args below meth c H locs cells slots Q (F0 m pc ls (.ref (eV E i) :: rest)) :=
  va_tlen X.1 X.2.1 ((h.str.1 i hi).2.2.2) h.2.1 (Int32.ofInt_eq_ofNat.symm) d k
theorem z_sbyt (X : Cx p s m meth c args own cc nL rt) (h : St E ws0 s H locs ws) {i : Nat} (hi : i < 10) {z : Int} (h0 : 0 ≤ z) (h1 : z < (strL.getD i 0 : Nat)) (hs : ((strL.getD i 0 : Nat) : Int) < 2147483648) (d : decode cc pc = .ok (.baload, 1)) (k : W p l e R s m args below meth c H locs cells slots Q (F0 m (pc + 1) ls (.int ((strB.getD i []).getD z.toNat 0) :: rest))) : W p l e R s m args below meth c H locs cells slots Q (F0 m pc ls (.int (iv z) :: .ref (eV E i) :: rest)) := by
  refine va_tb X.1 X.2.1 ((h.str.1 i hi).2.2.2) h.2.1 (iv_in h0 h1 hs) (v := .int ((strB.getD i []).getD z.toNat 0)) ?_ d k
  rw [iv_clamp ⟨by omega, by omega⟩]
end ZST
