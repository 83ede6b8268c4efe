/-! ===== beginnings of walks: the end as a rule ===== -/
section GO
variable {l : Launch} {E : EV} {y : MethodName} {bytes : ByteArray} {maxL : Nat} {rm : Room} {ws : va_W} {av : List Value}
theorem goP {z : Int} (hy : plainName y.cls = true) (hav : (lg_sl av).length ≤ maxL)
    (body : ∀ (p : Program) (e : Env) (s : State) (m : MethodId) (below : List Frame) (meth : Method) (c : Code) (ls : Array Slot) (args : Array Value) (Q : State → Prop),
      (∀ (pc : Nat) (ls : Array Slot) (z' : Int), z' = z → decode bytes pc = .ok (.ireturn, 1) → W p l e rm s m args below meth c s.heap [] 0 0 Q (F0 m pc ls [.int (iv z')])) →
      Cx p s m meth c args y.cls bytes maxL (some .int) → St E ws s s.heap [] ws → lv_has ls maxL (lv_args 0 av) → W p l e rm s m args below meth c s.heap [] 0 0 Q (F0 m 0 ls [])) :
    MP E l y bytes maxL (some .int) rm ws av z :=
  Met.go hy hav (fun p e s m below meth c ls X h hl => body p e s m below meth c ls _ _ (fun pc ls z' hz d => z_ret X hz d) X h hl)
theorem goB {P : Prop} [Decidable P] (hy : plainName y.cls = true) (hav : (lg_sl av).length ≤ maxL)
    (body : ∀ (p : Program) (e : Env) (s : State) (m : MethodId) (below : List Frame) (meth : Method) (c : Code) (ls : Array Slot) (args : Array Value) (Q : State → Prop),
      (∀ (pc : Nat) (ls : Array Slot) (z' : Int), z' = bz P → decode bytes pc = .ok (.ireturn, 1) → W p l e rm s m args below meth c s.heap [] 0 0 Q (F0 m pc ls [.int (iv z')])) →
      Cx p s m meth c args y.cls bytes maxL (some .boolean) → St E ws s s.heap [] ws → lv_has ls maxL (lv_args 0 av) → W p l e rm s m args below meth c s.heap [] 0 0 Q (F0 m 0 ls [])) :
    MP E l y bytes maxL (some .boolean) rm ws av (bz P) :=
  Met.go hy hav (fun p e s m below meth c ls X h hl => body p e s m below meth c ls _ _ (fun pc ls z' hz d => z_retb X (by rw [hz]; exact bz_c) hz d) X h hl)
theorem goPL {x : Int64} (hy : plainName y.cls = true) (hav : (lg_sl av).length ≤ maxL)
    (body : ∀ (p : Program) (e : Env) (s : State) (m : MethodId) (below : List Frame) (meth : Method) (c : Code) (ls : Array Slot) (args : Array Value) (Q : State → Prop),
      (∀ (pc : Nat) (ls : Array Slot) (x' : Int64), x' = x → decode bytes pc = .ok (.lreturn, 1) → W p l e rm s m args below meth c s.heap [] 0 0 Q (F0 m pc ls [.long x'])) →
      Cx p s m meth c args y.cls bytes maxL (some .long) → St E ws s s.heap [] ws → lv_has ls maxL (lv_args 0 av) → W p l e rm s m args below meth c s.heap [] 0 0 Q (F0 m 0 ls [])) :
    MPL E l y bytes maxL (some .long) rm ws av x :=
  Met.go hy hav (fun p e s m below meth c ls X h hl => body p e s m below meth c ls _ _ (fun pc ls x' hz d => W.lret X.1 X.2.1 X.2.2.2.2.2.1 (fun t ht _ => ⟨_, rfl, hz, ht⟩) (fun q hq => by cases hq) d X.2.2.2.2.2.2) X h hl)
theorem goI {S : Type} {post : Int32 → S → Prop} {ws' : S → va_W} (hy : plainName y.cls = true) (hav : (lg_sl av).length ≤ maxL)
    (body : ∀ (p : Program) (e : Env) (s : State) (m : MethodId) (below : List Frame) (meth : Method) (c : Code) (ls : Array Slot) (args : Array Value) (Q : State → Prop),
      (∀ (H : Heap) (locs : List Loc) (pc : Nat) (ls : Array Slot) (v : Int32) (u : S), St E ws s H locs (ws' u) → post v u → decode bytes pc = .ok (.ireturn, 1) → W p l e rm s m args below meth c H locs 0 0 Q (F0 m pc ls [.int v])) →
      Cx p s m meth c args y.cls bytes maxL (some .int) → St E ws s s.heap [] ws → lv_has ls maxL (lv_args 0 av) → W p l e rm s m args below meth c s.heap [] 0 0 Q (F0 m 0 ls [])) :
    MI E l y bytes maxL (some .int) rm ws av post ws' :=
  Met.go hy hav (fun p e s m below meth c ls X h hl => body p e s m below meth c ls _ _ (fun H locs pc ls v u h1 hp d => z_retI X h1 u hp rfl d) X h hl)
theorem goZ {S : Type} {post : Int32 → S → Prop} {ws' : S → va_W} (hy : plainName y.cls = true) (hav : (lg_sl av).length ≤ maxL)
    (body : ∀ (p : Program) (e : Env) (s : State) (m : MethodId) (below : List Frame) (meth : Method) (c : Code) (ls : Array Slot) (args : Array Value) (Q : State → Prop),
      (∀ (H : Heap) (locs : List Loc) (pc : Nat) (ls : Array Slot) (z : Int) (u : S), St E ws s H locs (ws' u) → (z = 0 ∨ z = 1) → post (iv z) u → decode bytes pc = .ok (.ireturn, 1) → W p l e rm s m args below meth c H locs 0 0 Q (F0 m pc ls [.int (iv z)])) →
      Cx p s m meth c args y.cls bytes maxL (some .boolean) → St E ws s s.heap [] ws → lv_has ls maxL (lv_args 0 av) → W p l e rm s m args below meth c s.heap [] 0 0 Q (F0 m 0 ls [])) :
    MI E l y bytes maxL (some .boolean) rm ws av post ws' :=
  Met.go hy hav (fun p e s m below meth c ls X h hl => body p e s m below meth c ls _ _ (fun H locs pc ls z u h1 hz hp d => z_retZ X h1 hz u hp rfl d) X h hl)
theorem goV {S : Type} {post : S → Prop} {ws' : S → va_W} (hy : plainName y.cls = true) (hav : (lg_sl av).length ≤ maxL)
    (body : ∀ (p : Program) (e : Env) (s : State) (m : MethodId) (below : List Frame) (meth : Method) (c : Code) (ls : Array Slot) (args : Array Value) (Q : State → Prop),
      (∀ (H : Heap) (locs : List Loc) (pc : Nat) (ls : Array Slot) (u : S), St E ws s H locs (ws' u) → post u → decode bytes pc = .ok (.return_, 1) → W p l e rm s m args below meth c H locs 0 0 Q (F0 m pc ls [])) →
      Cx p s m meth c args y.cls bytes maxL none → St E ws s s.heap [] ws → lv_has ls maxL (lv_args 0 av) → W p l e rm s m args below meth c s.heap [] 0 0 Q (F0 m 0 ls [])) :
    MV E l y bytes maxL rm ws av post ws' :=
  Met.go hy hav (fun p e s m below meth c ls X h hl => body p e s m below meth c ls _ _ (fun H locs pc ls u h1 hp d => z_retV X h1 u hp rfl d) X h hl)
theorem goIL {S : Type} {post : Int64 → S → Prop} {ws' : S → va_W} (hy : plainName y.cls = true) (hav : (lg_sl av).length ≤ maxL)
    (body : ∀ (p : Program) (e : Env) (s : State) (m : MethodId) (below : List Frame) (meth : Method) (c : Code) (ls : Array Slot) (args : Array Value) (Q : State → Prop),
      (∀ (H : Heap) (locs : List Loc) (pc : Nat) (ls : Array Slot) (v : Int64) (u : S), St E ws s H locs (ws' u) → post v u → decode bytes pc = .ok (.lreturn, 1) → W p l e rm s m args below meth c H locs 0 0 Q (F0 m pc ls [.long v])) →
      Cx p s m meth c args y.cls bytes maxL (some .long) → St E ws s s.heap [] ws → lv_has ls maxL (lv_args 0 av) → W p l e rm s m args below meth c s.heap [] 0 0 Q (F0 m 0 ls [])) :
    MIL E l y bytes maxL (some .long) rm ws av post ws' :=
  Met.go hy hav (fun p e s m below meth c ls X h hl => body p e s m below meth c ls _ _ (fun H locs pc ls v u h1 hp d => W.lret X.1 X.2.1 X.2.2.2.2.2.1 (fun t ht _ => ⟨⟨_, u, rfl, hp, by show va_P _ _ (ws' u) t.heap; rw [ht]; exact h1.1⟩, h1.2.1.F ht⟩) h1.2.1.2.2 d X.2.2.2.2.2.2) X h hl)
end GO
/-! ===== longs compared; Math; booleans in fields ===== -/
def cmpz (a b : Int) : Int := if b < a then 1 else if a = b then 0 else -1
theorem cmpz_r (a b : Int) : r32 (cmpz a b) := by unfold cmpz r32; repeat' split
                                                  all_goals omega
theorem lg_cmpz (x y : Int64) : lg_cmp x y = iv (cmpz x.toInt y.toInt) := by
  unfold lg_cmp cmpz
  by_cases h1 : x > y
  · rw [if_pos h1, if_pos (Int64.lt_iff_toInt_lt.mp h1)]; decide
  · rw [if_neg h1, if_neg (fun q => h1 (Int64.lt_iff_toInt_lt.mpr q))]
    by_cases h2 : x = y
    · rw [if_pos h2, if_pos (by rw [h2])]; decide
    · rw [if_neg h2, if_neg (fun q => h2 (Int64.toInt_inj.mp q))]; decide
theorem i64_iv {z : Int} (h : r32 z) : (iv z).toInt64.toInt = z := by rw [Int32.toInt_toInt64, iv_toInt h]
theorem fit_bz {P : Prop} [Decidable P] : fits .boolean (.int (iv (bz P))) = true := by
  rcases (bz_c (P := P)) with h | h <;> rw [h] <;> decide
section ZM
variable {p : Program} {l : Launch} {e : Env} {R : Room} {s : State} {m : MethodId} {args : Array Value} {below : List Frame} {meth : Method} {c : Code} {H : Heap} {locs : List Loc} {cells slots : Nat} {Q : State → Prop}
variable {own : String} {cc : ByteArray} {nL : Nat} {rt : Option FieldType} {pc : Nat} {ls : Array Slot} {rest : List Value}
theorem z_lcmp (X : Cx p s m meth c args own cc nL rt) {x y : Int64} {a b : Int} (ha : x.toInt = a) (hb : y.toInt = b) (d : decode cc pc = .ok (.lcmp, 1)) (k : W p l e R s m args below meth c H locs cells slots Q (F0 m (pc + 1) ls (.int (iv (cmpz a b)) :: rest))) : W p l e R s m args below meth c H locs cells slots Q (F0 m pc ls (.long y :: .long x :: rest)) := by
  refine W.lcmp X.1 X.2.1 d ?_
  rw [lg_cmpz, ha, hb]
  exact k
theorem z_ifc_lt (X : Cx p s m meth c args own cc nL rt) {a b : Int} {off : Int} {tgt : Nat} (d : decode cc pc = .ok (.ifCond .lt off, 3)) (ht : (pc : Int) + off = (tgt : Int)) (kt : a < b → W p l e R s m args below meth c H locs cells slots Q (F0 m tgt ls rest)) (kf : b ≤ a → W p l e R s m args below meth c H locs cells slots Q (F0 m (pc + 3) ls rest)) : W p l e R s m args below meth c H locs cells slots Q (F0 m pc ls (.int (iv (cmpz a b)) :: rest)) :=
  z_if_lt X (cmpz_r a b) d ht (fun h => kt (by unfold cmpz at h; split at h; omega; split at h <;> omega)) (fun h => kf (by unfold cmpz at h; split at h; omega; split at h <;> omega))
theorem z_ifc_gt (X : Cx p s m meth c args own cc nL rt) {a b : Int} {off : Int} {tgt : Nat} (d : decode cc pc = .ok (.ifCond .gt off, 3)) (ht : (pc : Int) + off = (tgt : Int)) (kt : b < a → W p l e R s m args below meth c H locs cells slots Q (F0 m tgt ls rest)) (kf : a ≤ b → W p l e R s m args below meth c H locs cells slots Q (F0 m (pc + 3) ls rest)) : W p l e R s m args below meth c H locs cells slots Q (F0 m pc ls (.int (iv (cmpz a b)) :: rest)) :=
  z_if_gt X (cmpz_r a b) d ht (fun h => kt (by unfold cmpz at h; split at h; omega; split at h <;> omega)) (fun h => kf (by unfold cmpz at h; split at h; omega; split at h <;> omega))
theorem z_ifc_ne (X : Cx p s m meth c args own cc nL rt) {a b : Int} {off : Int} {tgt : Nat} (d : decode cc pc = .ok (.ifCond .ne off, 3)) (ht : (pc : Int) + off = (tgt : Int)) (kt : a ≠ b → W p l e R s m args below meth c H locs cells slots Q (F0 m tgt ls rest)) (kf : a = b → W p l e R s m args below meth c H locs cells slots Q (F0 m (pc + 3) ls rest)) : W p l e R s m args below meth c H locs cells slots Q (F0 m pc ls (.int (iv (cmpz a b)) :: rest)) :=
  z_if_ne X (cmpz_r a b) d ht (fun h => kt (by unfold cmpz at h; split at h; omega; split at h <;> omega)) (fun h => kf (by unfold cmpz at h; split at h; omega; split at h <;> omega))
theorem z_ifc_eq (X : Cx p s m meth c args own cc nL rt) {a b : Int} {off : Int} {tgt : Nat} (d : decode cc pc = .ok (.ifCond .eq off, 3)) (ht : (pc : Int) + off = (tgt : Int)) (kt : a = b → W p l e R s m args below meth c H locs cells slots Q (F0 m tgt ls rest)) (kf : a ≠ b → W p l e R s m args below meth c H locs cells slots Q (F0 m (pc + 3) ls rest)) : W p l e R s m args below meth c H locs cells slots Q (F0 m pc ls (.int (iv (cmpz a b)) :: rest)) :=
  z_if_eq X (cmpz_r a b) d ht (fun h => kt (by unfold cmpz at h; split at h; omega; split at h <;> omega)) (fun h => kf (by unfold cmpz at h; split at h; omega; split at h <;> omega))
theorem iv_if {P : Prop} [Decidable P] {x y : Int} : (if P then iv x else iv y) = iv (if P then x else y) := by split <;> rfl
theorem z_mmax (X : Cx p s m meth c args own cc nL rt) {a b : Int} {idx : Nat} (ra : r32 a) (rb : r32 b) (lk : Cond.methodLink own idx Lib.Math.max.name ∈ tb) (hf : 1 ≤ R.frames) (hl : (rest.map fun v => v.category).sum + 13 ≤ R.locals) (hc : cells ≤ R.cells) (hs : slots ≤ R.slots) (hz : ls.size = nL) (d : decode cc pc = .ok (.invokestatic idx, 3)) (k : W p l e R s m args below meth c H locs cells slots Q (F0 m (pc + 3) ls (.int (iv (if a < b then b else a)) :: rest))) : W p l e R s m args below meth c H locs cells slots Q (F0 m pc ls (.int (iv b) :: .int (iv a) :: rest)) := by
  refine va_mmax X.1 X.2.1 (by rw [X.2.2.1, hz]) X.2.2.2.1 (X.2.2.2.2.1 _ lk) (X.2.2.2.2.1 _ st_max) (X.2.2.2.2.1 _ in_J9) (X.2.2.2.2.1 _ co_max) hf hl hc hs d ?_
  simp only [iv_lt ra rb, iv_if]
  exact k
theorem z_mmin (X : Cx p s m meth c args own cc nL rt) {a b : Int} {idx : Nat} (ra : r32 a) (rb : r32 b) (lk : Cond.methodLink own idx Lib.Math.min.name ∈ tb) (hf : 1 ≤ R.frames) (hl : (rest.map fun v => v.category).sum + 13 ≤ R.locals) (hc : cells ≤ R.cells) (hs : slots ≤ R.slots) (hz : ls.size = nL) (d : decode cc pc = .ok (.invokestatic idx, 3)) (k : W p l e R s m args below meth c H locs cells slots Q (F0 m (pc + 3) ls (.int (iv (if b < a then b else a)) :: rest))) : W p l e R s m args below meth c H locs cells slots Q (F0 m pc ls (.int (iv b) :: .int (iv a) :: rest)) := by
  refine va_mmin X.1 X.2.1 (by rw [X.2.2.1, hz]) X.2.2.2.1 (X.2.2.2.2.1 _ lk) (X.2.2.2.2.1 _ st_min) (X.2.2.2.2.1 _ in_J9) (X.2.2.2.2.1 _ co_min) hf hl hc hs d ?_
  simp only [iv_lt rb ra, iv_if]
  exact k
theorem z_mabs (X : Cx p s m meth c args own cc nL rt) {a : Int} {idx : Nat} (ra : r32 a) (lk : Cond.methodLink own idx Lib.Math.abs.name ∈ tb) (hf : 1 ≤ R.frames) (hl : (rest.map fun v => v.category).sum + 13 ≤ R.locals) (hc : cells ≤ R.cells) (hs : slots ≤ R.slots) (hz : ls.size = nL) (d : decode cc pc = .ok (.invokestatic idx, 3)) (k : W p l e R s m args below meth c H locs cells slots Q (F0 m (pc + 3) ls (.int (iv (if 0 ≤ a then a else 0 - a)) :: rest))) : W p l e R s m args below meth c H locs cells slots Q (F0 m pc ls (.int (iv a) :: rest)) := by
  refine va_mabs X.1 X.2.1 (by rw [X.2.2.1, hz]) X.2.2.2.1 (X.2.2.2.2.1 _ lk) (X.2.2.2.2.1 _ st_abs) (X.2.2.2.2.1 _ in_J9) (X.2.2.2.2.1 _ co_abs) hf hl hc hs d ?_
  have e : (if 0 ≤ iv a then iv a else 0 - iv a) = iv (if 0 ≤ a then a else 0 - a) := by
    rw [← iv_0]; simp only [iv_le r32_0 ra, iv_sub, iv_if]
  rw [e]
  exact k
variable {E : EV} {ws0 ws : va_W}
theorem z_laldv (X : Cx p s m meth c args own cc nL rt) (h : St E ws0 s H locs ws) (q0 : Nat) {a n : Nat} {f : Nat → Int64} {z : Int} {v : Int64} (ha : ws[q0]? = some (a, .inl (eJ E, n, .inr (.inl f)))) (h0 : 0 ≤ z) (h1 : z < n) (hn : (n : Int) < 2147483648) (hv : f z.toNat = v) (d : decode cc pc = .ok (.laload, 1))
    (kk : W p l e R s m args below meth c H locs cells slots Q (F0 m (pc + 1) ls (.long v :: rest))) : W p l e R s m args below meth c H locs cells slots Q (F0 m pc ls (.int (iv z) :: .ref a :: rest)) := by
  subst hv
  exact z_lald X h q0 ha h0 h1 hn d kk
end ZM
