section ZCP
variable {p : Program} {l : Launch} {e : Env} {R : Room} {s : State} {m : MethodId} {args : Array Value} {below : List Frame} {meth : Method} {c : Code} {H : Heap} {locs : List Loc} {cells slots : Nat} {Q : State → Prop}
variable {own : String} {cc : ByteArray} {nL : Nat} {rt : Option FieldType} {pc : Nat} {ls : Array Slot} {rest : List Value} {E : EV} {ws0 ws : va_W}
theorem iv_nneg {z : Int} (h0 : 0 ≤ z) (h1 : z < 2147483648) : ¬ iv z < 0 := by
  intro h
  have := Int32.lt_iff_toInt_lt.mp h
  rw [iv_toInt ⟨by omega, h1⟩] at this
  have e : (0 : Int32).toInt = 0 := rfl
  omega
theorem z_copyi (X : Cx p s m meth c args own cc nL rt) (h : St E ws0 s H locs ws) (q0 q1 : Nat) {a a0 n0 n1 index : Nat} {f g : Nat → Int32} {sp dp n : Int} (ha0 : ws[q0]? = some (a0, .inl (eI E, n0, .inl f))) (ha1 : ws[q1]? = some (a, .inl (eI E, n1, .inl g))) (hlink : Cond.methodLink own index arraycopyName ∈ tb) (h1 : 0 ≤ sp) (h2 : 0 ≤ dp) (h3 : 0 ≤ n) (h4 : sp + n ≤ n0) (h5 : dp + n ≤ n1) (hn0 : (n0 : Int) < 2147483648) (hn1 : (n1 : Int) < 2147483648) (hml : ls.size = nL) (hfr : 1 ≤ R.frames) (hlo : (rest.map fun v => v.category).sum + (nativeFrameWords "java/lang/System" "arraycopy" 5 + 11) ≤ R.locals) (d : decode cc pc = .ok (.invokestatic index, 3))
    (kk : ∀ (H1 : Heap) (locs1 : List Loc), St E ws0 s H1 locs1 (ws.set q1 (a, .inl (eI E, n1, .inl (va_cpy f g sp.toNat dp.toNat n.toNat)))) → W p l e R s m args below meth c H1 locs1 cells slots Q (F0 m (pc + 3) ls rest)) : W p l e R s m args below meth c H locs cells slots Q (F0 m pc ls (.int (iv n) :: .int (iv dp) :: .ref a :: .int (iv sp) :: .ref a0 :: rest)) := by
  have e1 := iv_clamp (z := sp) ⟨by omega, by omega⟩
  have e2 := iv_clamp (z := dp) ⟨by omega, by omega⟩
  have e3 := iv_clamp (z := n) ⟨by omega, by omega⟩
  refine va_copyi X.1 X.2.1 (X.2.2.1.trans hml.symm) X.2.2.2.1 (X.2.2.2.2.1 _ hlink) (X.2.2.2.2.1 _ na_arraycopy) (X.2.2.2.2.1 _ st_arraycopy) (X.2.2.2.2.1 _ in_J10) h.2.2.2.2.1.1 h.1 h.dw h.2.1 q0 q1 0 0 ha0 ha1 rfl rfl rfl (iv_nneg h1 (by omega)) (iv_nneg h2 (by omega)) (iv_nneg h3 (by omega)) (by rw [e1, e3]; omega) (by rw [e2, e3]; omega) (fun _ _ => rfl) hfr hlo d (fun H1 locs1 hP hD hS => ?_)
  rw [e1, e2, e3] at hP
  exact kk H1 locs1 ⟨hP, hS, (set_map ha1).trans h.2.2.1, h.2.2.2⟩
theorem z_copyl (X : Cx p s m meth c args own cc nL rt) (h : St E ws0 s H locs ws) (q0 q1 : Nat) {a a0 n0 n1 index : Nat} {f g : Nat → Int64} {sp dp n : Int} (ha0 : ws[q0]? = some (a0, .inl (eJ E, n0, .inr (.inl f)))) (ha1 : ws[q1]? = some (a, .inl (eJ E, n1, .inr (.inl g)))) (hlink : Cond.methodLink own index arraycopyName ∈ tb) (h1 : 0 ≤ sp) (h2 : 0 ≤ dp) (h3 : 0 ≤ n) (h4 : sp + n ≤ n0) (h5 : dp + n ≤ n1) (hn0 : (n0 : Int) < 2147483648) (hn1 : (n1 : Int) < 2147483648) (hml : ls.size = nL) (hfr : 1 ≤ R.frames) (hlo : (rest.map fun v => v.category).sum + (nativeFrameWords "java/lang/System" "arraycopy" 5 + 11) ≤ R.locals) (d : decode cc pc = .ok (.invokestatic index, 3))
    (kk : ∀ (H1 : Heap) (locs1 : List Loc), St E ws0 s H1 locs1 (ws.set q1 (a, .inl (eJ E, n1, .inr (.inl (va_cpy f g sp.toNat dp.toNat n.toNat))))) → W p l e R s m args below meth c H1 locs1 cells slots Q (F0 m (pc + 3) ls rest)) : W p l e R s m args below meth c H locs cells slots Q (F0 m pc ls (.int (iv n) :: .int (iv dp) :: .ref a :: .int (iv sp) :: .ref a0 :: rest)) := by
  have e1 := iv_clamp (z := sp) ⟨by omega, by omega⟩
  have e2 := iv_clamp (z := dp) ⟨by omega, by omega⟩
  have e3 := iv_clamp (z := n) ⟨by omega, by omega⟩
  refine va_copyl X.1 X.2.1 (X.2.2.1.trans hml.symm) X.2.2.2.1 (X.2.2.2.2.1 _ hlink) (X.2.2.2.2.1 _ na_arraycopy) (X.2.2.2.2.1 _ st_arraycopy) (X.2.2.2.2.1 _ in_J10) h.2.2.2.2.1.1 h.1 h.dw h.2.1 q0 q1 1 1 ha0 ha1 rfl rfl rfl (iv_nneg h1 (by omega)) (iv_nneg h2 (by omega)) (iv_nneg h3 (by omega)) (by rw [e1, e3]; omega) (by rw [e2, e3]; omega) (fun _ _ => rfl) hfr hlo d (fun H1 locs1 hP hD hS => ?_)
  rw [e1, e2, e3] at hP
  exact kk H1 locs1 ⟨hP, hS, (set_map ha1).trans h.2.2.1, h.2.2.2⟩
end ZCP
/-! worlds in pieces -/
section SEG
variable {E : EV} {ws0 : va_W} {s : State} {H : Heap} {locs : List Loc} {P A B C : va_W}
theorem st_in (h : St E ws0 s H locs (P ++ (A ++ B))) : St E ws0 s H locs ((P ++ A) ++ B) := by rw [List.append_assoc]; exact h
theorem st_out (h : St E ws0 s H locs ((P ++ A) ++ B)) : St E ws0 s H locs (P ++ (A ++ B)) := by rw [List.append_assoc] at h; exact h
theorem st_two (h : St E ws0 s H locs (P ++ (A ++ (B ++ C)))) : St E ws0 s H locs (P ++ ((A ++ B) ++ C)) := by rw [List.append_assoc]; exact h
theorem st_one (h : St E ws0 s H locs (P ++ ((A ++ B) ++ C))) : St E ws0 s H locs (P ++ (A ++ (B ++ C))) := by rw [List.append_assoc] at h; exact h
theorem st_end (h : St E ws0 s H locs (P ++ A)) : St E ws0 s H locs (P ++ (A ++ [])) := by rw [List.append_nil]; exact h
theorem st_dne (h : St E ws0 s H locs (P ++ (A ++ []))) : St E ws0 s H locs (P ++ A) := by rw [List.append_nil] at h; exact h
theorem st_nil (h : St E ws0 s H locs A) : St E ws0 s H locs ([] ++ A) := h
theorem st_lin (h : St E ws0 s H locs ([] ++ A)) : St E ws0 s H locs A := h
theorem seg_get {q : Nat} {x : Nat × va_E} (h : A[q]? = some x) : (P ++ (A ++ B))[P.length + q]? = some x := by
  have hq : q < A.length := (List.getElem?_eq_some_iff.mp h).1
  rw [List.getElem?_append_right (by omega), List.getElem?_append_left (by omega), show P.length + q - P.length = q by omega]
  exact h
theorem seg_set {q : Nat} {x y : Nat × va_E} (h : A[q]? = some x) : (P ++ (A ++ B)).set (P.length + q) y = P ++ (A.set q y ++ B) := by
  have hq : q < A.length := (List.getElem?_eq_some_iff.mp h).1
  rw [List.set_append_right _ _ (by omega), show P.length + q - P.length = q by omega, List.set_append_left _ _ hq]
end SEG
section ZSG
variable {p : Program} {l : Launch} {e : Env} {R : Room} {s : State} {m : MethodId} {args : Array Value} {below : List Frame} {meth : Method} {c : Code} {H : Heap} {locs : List Loc} {cells slots : Nat} {Q : State → Prop}
variable {own : String} {cc : ByteArray} {nL : Nat} {rt : Option FieldType} {pc : Nat} {ls : Array Slot} {rest : List Value} {E : EV} {ws0 P A B : va_W}
theorem s_iast (X : Cx p s m meth c args own cc nL rt) (h : St E ws0 s H locs (P ++ (A ++ B))) (q : Nat) {a n : Nat} {f : Nat → Int32} {z : Int} {v : Int32} (ha : A[q]? = some (a, .inl (eI E, n, .inl f))) (h0 : 0 ≤ z) (h1 : z < n) (hn : (n : Int) < 2147483648) (d : decode cc pc = .ok (.iastore, 1))
    (kk : ∀ (H1 : Heap) (locs1 : List Loc), St E ws0 s H1 locs1 (P ++ (A.set q (a, .inl (eI E, n, .inl (upd f z.toNat v))) ++ B)) → W p l e R s m args below meth c H1 locs1 cells slots Q (F0 m (pc + 1) ls rest)) : W p l e R s m args below meth c H locs cells slots Q (F0 m pc ls (.int v :: .int (iv z) :: .ref a :: rest)) :=
  z_iast X h (P.length + q) (seg_get ha) h0 h1 hn d (fun H1 locs1 h1 => kk H1 locs1 (by rw [seg_set ha] at h1; exact h1))
theorem s_last (X : Cx p s m meth c args own cc nL rt) (h : St E ws0 s H locs (P ++ (A ++ B))) (q : Nat) {a n : Nat} {f : Nat → Int64} {z : Int} {v : Int64} (ha : A[q]? = some (a, .inl (eJ E, n, .inr (.inl f)))) (h0 : 0 ≤ z) (h1 : z < n) (hn : (n : Int) < 2147483648) (d : decode cc pc = .ok (.lastore, 1))
    (kk : ∀ (H1 : Heap) (locs1 : List Loc), St E ws0 s H1 locs1 (P ++ (A.set q (a, .inl (eJ E, n, .inr (.inl (vp_updL f z.toNat v)))) ++ B)) → W p l e R s m args below meth c H1 locs1 cells slots Q (F0 m (pc + 1) ls rest)) : W p l e R s m args below meth c H locs cells slots Q (F0 m pc ls (.long v :: .int (iv z) :: .ref a :: rest)) :=
  z_last X h (P.length + q) (seg_get ha) h0 h1 hn d (fun H1 locs1 h1 => kk H1 locs1 (by rw [seg_set ha] at h1; exact h1))
theorem s_put (X : Cx p s m meth c args own cc nL rt) (h : St E ws0 s H locs (P ++ (A ++ B))) (ci q k : Nat) {C : String} {T : u_T} {N index : Nat} (hc : classes[ci]? = some (C, T, N)) (hin : ∀ w ∈ u_ws C T N, w ∈ tb) (ty0 : Nat → FieldType) (hty : ∀ k, k < N → parseFieldDescriptor (T k).2.2.1 = some (ty0 k)) (hnm : ∀ a, a < N → ∀ b, b < N → a ≠ b → (T a).2.1 ≠ (T b).2.1) {a : Nat} {fs : List Value} (he : A[q]? = some (a, .inr (ci, fs))) (hk : k < N) (hl : Cond.fieldLink own index (T k).1 (T k).2.1 (T k).2.2.1 ∈ tb) (hfin : (T k).2.2.2 = false) {v : Value} (hn : narrow (ty0 k) v = v) (hfit : fits (ty0 k) v = true) (hlen : k < fs.length) (d : decode cc pc = .ok (.putfield index, 3))
    (kk : ∀ (H1 : Heap) (locs1 : List Loc), St E ws0 s H1 locs1 (P ++ (A.set q (a, .inr (ci, fs.set k v)) ++ B)) → W p l e R s m args below meth c H1 locs1 cells slots Q (F0 m (pc + 3) ls rest)) : W p l e R s m args below meth c H locs cells slots Q (F0 m pc ls (v :: .ref a :: rest)) :=
  z_put X h ci (P.length + q) k hc hin ty0 hty hnm (seg_get he) hk hl hfin hn hfit hlen d (fun H1 locs1 h1 => kk H1 locs1 (by rw [seg_set he] at h1; exact h1))
/-- copying into a piece, from anywhere -/
theorem s_copyi (X : Cx p s m meth c args own cc nL rt) {ws : va_W} (h : St E ws0 s H locs ws) (hw : ws = P ++ (A ++ B)) (q0 q : Nat) {a a0 n0 n1 index : Nat} {f g : Nat → Int32} {sp dp n : Int} (ha0 : ws[q0]? = some (a0, .inl (eI E, n0, .inl f))) (ha1 : A[q]? = some (a, .inl (eI E, n1, .inl g))) (hlink : Cond.methodLink own index arraycopyName ∈ tb) (h1 : 0 ≤ sp) (h2 : 0 ≤ dp) (h3 : 0 ≤ n) (h4 : sp + n ≤ n0) (h5 : dp + n ≤ n1) (hn0 : (n0 : Int) < 2147483648) (hn1 : (n1 : Int) < 2147483648) (hml : ls.size = nL) (hfr : 1 ≤ R.frames) (hlo : (rest.map fun v => v.category).sum + (nativeFrameWords "java/lang/System" "arraycopy" 5 + 11) ≤ R.locals) (d : decode cc pc = .ok (.invokestatic index, 3))
    (kk : ∀ (H1 : Heap) (locs1 : List Loc), St E ws0 s H1 locs1 (P ++ (A.set q (a, .inl (eI E, n1, .inl (va_cpy f g sp.toNat dp.toNat n.toNat))) ++ B)) → W p l e R s m args below meth c H1 locs1 cells slots Q (F0 m (pc + 3) ls rest)) : W p l e R s m args below meth c H locs cells slots Q (F0 m pc ls (.int (iv n) :: .int (iv dp) :: .ref a :: .int (iv sp) :: .ref a0 :: rest)) := by
  subst hw
  exact z_copyi X h q0 (P.length + q) ha0 (seg_get ha1) hlink h1 h2 h3 h4 h5 hn0 hn1 hml hfr hlo d (fun H1 locs1 h1 => kk H1 locs1 (by rw [seg_set ha1] at h1; exact h1))
end ZSG
