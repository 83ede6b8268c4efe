section GQ
variable {l : Launch} {E : EV} {y : MethodName} {bytes : ByteArray} {maxL : Nat} {rm : Room} {ws : va_W} {av : List Value}
theorem goPQ {x : Option Nat} {C : String} (hy : plainName y.cls = true) (hav : (lg_sl av).length ≤ maxL)
    (body : ∀ (p : Program) (e : Env) (s : State) (m : MethodId) (below : List Frame) (meth : Method) (c : Code) (ls : Array Slot) (args : Array Value) (Q : State → Prop),
      (∀ (pc : Nat) (ls : Array Slot), decode bytes pc = .ok (.areturn, 1) → W p l e rm s m args below meth c s.heap [] 0 0 Q (F0 m pc ls [va_rf x])) →
      Cx p s m meth c args y.cls bytes maxL (some (.object C)) → St E ws s s.heap [] ws → lv_has ls maxL (lv_args 0 av) → W p l e rm s m args below meth c s.heap [] 0 0 Q (F0 m 0 ls [])) :
    MPQ E l y bytes maxL (some (.object C)) rm ws av x :=
  Met.go hy hav (fun p e s m below meth c ls X h hl => body p e s m below meth c ls _ _ (fun pc ls d => W.aret X.1 X.2.1 X.2.2.2.2.2.1 (Or.inl ⟨_, rfl⟩) (va_rf_or x) (fun t ht _ => ⟨_, rfl, rfl, ht⟩) (fun q hq => by cases hq) d X.2.2.2.2.2.2) X h hl)
end GQ
section ZQ
variable {p : Program} {l : Launch} {e : Env} {R : Room} {s : State} {m : MethodId} {args : Array Value} {below : List Frame} {meth : Method} {c : Code} {H : Heap} {locs : List Loc} {cells slots : Nat} {Q : State → Prop}
variable {own : String} {cc : ByteArray} {nL : Nat} {rt : Option FieldType} {pc : Nat} {ls : Array Slot} {rest : List Value} {E : EV} {ws0 ws P A B : va_W}
theorem z_aldq (X : Cx p s m meth c args own cc nL rt) (h : St E ws0 s H locs ws) (q0 : Nat) {a n : Nat} {f : Nat → Option Nat} {z : Int} (ha : ws[q0]? = some (a, .inl (eS E, n, .inr (.inr (.inr (.inr f)))))) (h0 : 0 ≤ z) (h1 : z < n) (hn : (n : Int) < 2147483648) (d : decode cc pc = .ok (.aaload, 1))
    (kk : W p l e R s m args below meth c H locs cells slots Q (F0 m (pc + 1) ls (va_rf (f z.toNat) :: rest))) : W p l e R s m args below meth c H locs cells slots Q (F0 m pc ls (.int (iv z) :: .ref a :: rest)) := by
  refine va_aldq X.1 X.2.1 h.2.2.2.2.1.1 h.1 q0 2 ha rfl (iv_in h0 h1 hn) d ?_
  rw [iv_clamp ⟨by omega, by omega⟩]
  exact kk
theorem z_alenJ (X : Cx p s m meth c args own cc nL rt) (h : St E ws0 s H locs ws) (q0 : Nat) {a n : Nat} {f : Nat → Int64} (ha : ws[q0]? = some (a, .inl (eJ E, n, .inr (.inl f)))) (d : decode cc pc = .ok (.arraylength, 1))
    (kk : W p l e R s m args below meth c H locs cells slots Q (F0 m (pc + 1) ls (.int (iv (n : Int)) :: rest))) : W p l e R s m args below meth c H locs cells slots Q (F0 m pc ls (.ref a :: rest)) :=
  va_alen X.1 X.2.1 h.2.2.2.2.1.1 h.1 q0 1 ha rfl (Int32.ofInt_eq_ofNat.symm) d kk
theorem z_alenI (X : Cx p s m meth c args own cc nL rt) (h : St E ws0 s H locs ws) (q0 : Nat) {a n : Nat} {f : Nat → Int32} (ha : ws[q0]? = some (a, .inl (eI E, n, .inl f))) (d : decode cc pc = .ok (.arraylength, 1))
    (kk : W p l e R s m args below meth c H locs cells slots Q (F0 m (pc + 1) ls (.int (iv (n : Int)) :: rest))) : W p l e R s m args below meth c H locs cells slots Q (F0 m pc ls (.ref a :: rest)) :=
  va_alen X.1 X.2.1 h.2.2.2.2.1.1 h.1 q0 0 ha rfl (Int32.ofInt_eq_ofNat.symm) d kk
theorem s_copyl (X : Cx p s m meth c args own cc nL rt) {ws : va_W} (h : St E ws0 s H locs ws) (hw : ws = P ++ (A ++ B)) (q0 q : Nat) {a a0 n0 n1 index : Nat} {f g : Nat → Int64} {sp dp n : Int} (ha0 : ws[q0]? = some (a0, .inl (eJ E, n0, .inr (.inl f)))) (ha1 : A[q]? = some (a, .inl (eJ E, n1, .inr (.inl g)))) (hlink : Cond.methodLink own index arraycopyName ∈ tb) (h1 : 0 ≤ sp) (h2 : 0 ≤ dp) (h3 : 0 ≤ n) (h4 : sp + n ≤ n0) (h5 : dp + n ≤ n1) (hn0 : (n0 : Int) < 2147483648) (hn1 : (n1 : Int) < 2147483648) (hml : ls.size = nL) (hfr : 1 ≤ R.frames) (hlo : (rest.map fun v => v.category).sum + (nativeFrameWords "java/lang/System" "arraycopy" 5 + 11) ≤ R.locals) (d : decode cc pc = .ok (.invokestatic index, 3))
    (kk : ∀ (H1 : Heap) (locs1 : List Loc), St E ws0 s H1 locs1 (P ++ (A.set q (a, .inl (eJ E, n1, .inr (.inl (va_cpy f g sp.toNat dp.toNat n.toNat)))) ++ B)) → W p l e R s m args below meth c H1 locs1 cells slots Q (F0 m (pc + 3) ls rest)) : W p l e R s m args below meth c H locs cells slots Q (F0 m pc ls (.int (iv n) :: .int (iv dp) :: .ref a :: .int (iv sp) :: .ref a0 :: rest)) := by
  subst hw
  exact z_copyl X h q0 (P.length + q) ha0 (seg_get ha1) hlink h1 h2 h3 h4 h5 hn0 hn1 hml hfr hlo d (fun H1 locs1 h1 => kk H1 locs1 (by rw [seg_set ha1] at h1; exact h1))
end ZQ
