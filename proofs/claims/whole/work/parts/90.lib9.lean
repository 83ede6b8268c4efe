/-! ===== where cells are made: constructors, the law ===== -/
abbrev rmc (f n k z : Nat) : Room := { frames := f, cells := k, slots := z, locals := n }
/-- A: what may be changed -/
def SN (E : EV) (A : Nat → Prop) (s : State) (H : Heap) (locs : List Loc) (ws : va_W) : Prop :=
  va_P (eD E) classes ws H ∧ va_S A s.heap H locs ∧ va_D A ws ∧ (∀ q, A q → eZ E ≤ q) ∧ (∀ q, s.heap.size ≤ q → A q) ∧ KK E s ∧ HH E s s.heap
theorem SN.hh {E : EV} {A : Nat → Prop} {s : State} {H : Heap} {locs : List Loc} {ws : va_W} (h : SN E A s H locs ws) : HH E s H :=
  h.2.2.2.2.2.2.kept (fun a h1 h2 => h.2.1.2.1 a h1 (fun q => h2 (h.2.2.2.1 a q)))
theorem SN.d {E : EV} {A : Nat → Prop} {s : State} {H : Heap} {locs : List Loc} {ws : va_W} (h : SN E A s H locs ws) : va_D (fun q => eZ E ≤ q) ws := ⟨h.2.2.1.1, fun k q hk => h.2.2.2.1 _ (h.2.2.1.2 k q hk)⟩
theorem SN.z {E : EV} {A : Nat → Prop} {s : State} {H : Heap} {locs : List Loc} {ws : va_W} (h : SN E A s H locs ws) : eZ E ≤ H.size := h.2.2.2.1 _ (h.2.2.2.2.1 _ h.2.1.1)
theorem SN.to {E : EV} {A : Nat → Prop} {s : State} {H H1 : Heap} {locs locs1 : List Loc} {ws ws1 : va_W} (h : SN E A s H locs ws) (hP : va_P (eD E) classes ws1 H1) (hD : va_D A ws1) (hS : va_S A s.heap H1 locs1) : SN E A s H1 locs1 ws1 := ⟨hP, hS, hD, h.2.2.2⟩
theorem SN.sub {E : EV} {A : Nat → Prop} {s : State} {H : Heap} {locs : List Loc} {ws ws' : va_W} (h : SN E A s H locs ws) (hn : (ws'.map Prod.fst).Nodup) (hs : ∀ q ∈ ws', q ∈ ws) : SN E A s H locs ws' :=
  h.to (vaP_mem.mpr (fun q hq => vaP_mem.mp h.1 q (hs q hq))) (vaD_mem.mpr ⟨hn, fun q hq => (vaD_mem.mp h.2.2.1).2 q (hs q hq)⟩) h.2.1
theorem SN.perm {E : EV} {A : Nat → Prop} {s : State} {H : Heap} {locs : List Loc} {ws ws' : va_W} (h : SN E A s H locs ws) (hp : ws'.Perm ws) : SN E A s H locs ws' :=
  h.sub (by rw [(hp.map Prod.fst).nodup_iff]; exact (vaD_mem.mp h.2.2.1).1) (fun q hq => hp.mem_iff.mp hq)
def PreN (E : EV) (G : State → Prop) (sz : Nat) (ws : va_W) (av : List Value) : Array Value → State → Prop := fun v U => Pre E ws av v U ∧ U.heap.size = sz ∧ G U
def MN {S : Type} (E : EV) (l : Launch) (G : State → Prop) (y : MethodName) (bytes : ByteArray) (maxL : Nat) (rm : Room) (mc ms : Nat) (ws : va_W) (av : List Value) (post : S → Prop) (ws' : S → va_W) : Prop :=
  ∀ sz, eZ E ≤ sz → Met l y (wz y bytes maxL none) rm (PreN E G sz ws av) (va_Qv post (fun u t => va_P (eD E) classes (ws' u) t.heap ∧ va_D (va_A ws sz) (ws' u)) (va_A ws sz)) mc ms (va_A ws sz)
theorem goN {S : Type} {E : EV} {l : Launch} {G : State → Prop} {y : MethodName} {bytes : ByteArray} {maxL : Nat} {rm : Room} {mc ms : Nat} {ws : va_W} {av : List Value} {post : S → Prop} {ws' : S → va_W} (hy : plainName y.cls = true) (hyn : y.name = "<init>") (hav : (lg_sl av).length ≤ maxL)
    (body : ∀ (A : Nat → Prop) (p : Program) (e : Env) (s : State) (m : MethodId) (below : List Frame) (meth : Method) (c : Code) (ls : Array Slot) (args : Array Value) (Q : State → Prop),
      (∀ (H : Heap) (locs : List Loc) (pc : Nat) (ls : Array Slot) (u : S), SN E A s H locs (ws' u) → post u → decode bytes pc = .ok (.return_, 1) → W p l e rm s m args below meth c H locs mc ms Q (F0 m pc ls [])) →
      Cx p s m meth c args y.cls bytes maxL none → meth.name = "<init>" → G s → SN E A s s.heap [] ws → lv_has ls maxL (lv_args 0 av) → W p l e rm s m args below meth c s.heap [] 0 0 Q (F0 m 0 ls [])) :
    MN E l G y bytes maxL rm mc ms ws av post ws' := by
  intro sz hsz
  refine Met.ofW (cc := bytes) (maxL := maxL) (ret := none) hy rfl ?_
  intro p e s m args below meth c s₁ B hml hv
  obtain ⟨⟨rfl, hP, hD, hK, hH⟩, rfl, hG⟩ := hv
  have hts := atoms_spec (ws := wz y bytes maxL none) B.pre
  rw [lg_entry_eq]
  have X : Cx p s m meth c av.toArray y.cls bytes maxL none := ⟨B.exec, B.bytes, hml, findClass_of_methodNamed B.named, fun w hw => hts w (List.mem_cons_of_mem _ hw), B.returns, B.notSynchronized⟩
  refine body (va_A ws s.heap.size) p e s m below meth c _ _ _ (fun H locs pc ls u h hp d => ?_) X ((name_of_methodNamed B.named B.method).1.trans hyn) hG ⟨hP, va_S.rf, ⟨hD.1, fun k q hk => Or.inl ⟨k, q.2, hk⟩⟩, fun q hq => ?_, fun q hq => Or.inr hq, hK, hH⟩ (lv_entry av hav)
  · exact W.vret X.1 X.2.1 X.2.2.2.2.2.1 (fun t ht _ => ⟨⟨u, rfl, hp, ⟨by rw [ht]; exact h.1, h.2.2.1⟩⟩, h.2.1.F ht⟩) h.2.1.2.2 d X.2.2.2.2.2.2
  · rcases hq with ⟨k, e, hk⟩ | hq
    · exact hD.2 k (q, e) hk
    · omega
section ZN
variable {p : Program} {l : Launch} {e : Env} {R : Room} {s : State} {m : MethodId} {args : Array Value} {below : List Frame} {meth : Method} {c : Code} {H : Heap} {locs : List Loc} {cells slots : Nat} {Q : State → Prop}
variable {own : String} {cc : ByteArray} {nL : Nat} {rt : Option FieldType} {pc : Nat} {ls : Array Slot} {rest st : List Value} {E : EV} {A : Nat → Prop} {ws : va_W}
theorem n_get (X : Cx p s m meth c args own cc nL rt) (h : SN E A s H locs ws) (ci q0 k : Nat) {C : String} {T : u_T} {N index : Nat} (hc : classes[ci]? = some (C, T, N)) (hin : ∀ w ∈ u_ws C T N, w ∈ tb) {a : Nat} {fs : List Value} (he : ws[q0]? = some (a, .inr (ci, fs))) (hk : k < N) (hl : Cond.fieldLink own index (T k).1 (T k).2.1 (T k).2.2.1 ∈ tb) {v : Value} (hv : fs[k]? = some v) (d : decode cc pc = .ok (.getfield index, 3))
    (kk : W p l e R s m args below meth c H locs cells slots Q (F0 m (pc + 3) ls (v :: rest))) : W p l e R s m args below meth c H locs cells slots Q (F0 m pc ls (.ref a :: rest)) :=
  va_get (D := eD E) (ci := ci) X.1 X.2.1 X.2.2.2.2.1 hin X.2.2.2.1 h.2.2.2.2.2.1.1 h.1 q0 he hc k hk (X.2.2.2.2.1 _ hl) (fun _ h9 => h9) hv d kk
theorem n_put (X : Cx p s m meth c args own cc nL rt) (h : SN E A s H locs ws) (ci q0 k : Nat) {C : String} {T : u_T} {N index : Nat} (hc : classes[ci]? = some (C, T, N)) (hin : ∀ w ∈ u_ws C T N, w ∈ tb) (ty0 : Nat → FieldType) (hty : ∀ k, k < N → parseFieldDescriptor (T k).2.2.1 = some (ty0 k)) (hnm : ∀ a, a < N → ∀ b, b < N → a ≠ b → (T a).2.1 ≠ (T b).2.1) {a : Nat} {fs : List Value} (he : ws[q0]? = some (a, .inr (ci, fs))) (hk : k < N) (hl : Cond.fieldLink own index (T k).1 (T k).2.1 (T k).2.2.1 ∈ tb) (hfin : (T k).2.2.2 = false) {v : Value} (hn : narrow (ty0 k) v = v) (hfit : fits (ty0 k) v = true) (hlen : k < fs.length) (d : decode cc pc = .ok (.putfield index, 3))
    (kk : ∀ (H1 : Heap) (locs1 : List Loc), SN E A s H1 locs1 (ws.set q0 (a, .inr (ci, fs.set k v))) → W p l e R s m args below meth c H1 locs1 cells slots Q (F0 m (pc + 3) ls rest)) : W p l e R s m args below meth c H locs cells slots Q (F0 m pc ls (v :: .ref a :: rest)) :=
  va_put (D := eD E) (ci := ci) X.1 X.2.1 X.2.2.2.2.1 hin ty0 hty hnm X.2.2.2.1 h.2.2.2.2.2.1.1 h.1 h.2.2.1 h.2.1 q0 he hc k hk (X.2.2.2.2.1 _ hl) (fun _ h9 => h9) hfin (hty k hk) hn hfit hlen d (fun H1 locs1 hP hD hS => kk H1 locs1 (h.to hP hD hS))
theorem n_putF (X : Cx p s m meth c args own cc nL rt) (hi : meth.name = "<init>") (h : SN E A s H locs ws) (ci q0 k : Nat) {C : String} {T : u_T} {N index : Nat} (hc : classes[ci]? = some (C, T, N)) (hin : ∀ w ∈ u_ws C T N, w ∈ tb) (ty0 : Nat → FieldType) (hty : ∀ k, k < N → parseFieldDescriptor (T k).2.2.1 = some (ty0 k)) (hnm : ∀ a, a < N → ∀ b, b < N → a ≠ b → (T a).2.1 ≠ (T b).2.1) {a : Nat} {fs : List Value} (he : ws[q0]? = some (a, .inr (ci, fs))) (hk : k < N) (hl : Cond.fieldLink own index (T k).1 (T k).2.1 (T k).2.2.1 ∈ tb) (hfin : (T k).2.2.2 = true) (ho : (T k).1 = own) {v : Value} (hn : narrow (ty0 k) v = v) (hfit : fits (ty0 k) v = true) (hlen : k < fs.length) (d : decode cc pc = .ok (.putfield index, 3))
    (kk : ∀ (H1 : Heap) (locs1 : List Loc), SN E A s H1 locs1 (ws.set q0 (a, .inr (ci, fs.set k v))) → W p l e R s m args below meth c H1 locs1 cells slots Q (F0 m (pc + 3) ls rest)) : W p l e R s m args below meth c H locs cells slots Q (F0 m pc ls (v :: .ref a :: rest)) :=
  va_putF (D := eD E) (ci := ci) X.1 X.2.1 X.2.2.2.2.1 hin ty0 hty hnm X.2.2.2.1 h.2.2.2.2.2.1.1 h.1 h.2.2.1 h.2.1 q0 he hc k hk (X.2.2.2.2.1 _ hl) (fun _ h9 => h9) hfin hi ho (hty k hk) hn hfit hlen d (fun H1 locs1 hP hD hS => kk H1 locs1 (h.to hP hD hS))
theorem n_iast (X : Cx p s m meth c args own cc nL rt) (h : SN E A s H locs ws) (q0 : Nat) {a n : Nat} {f : Nat → Int32} {z : Int} {v : Int32} (ha : ws[q0]? = some (a, .inl (eI E, n, .inl f))) (h0 : 0 ≤ z) (h1 : z < n) (hn : (n : Int) < 2147483648) (d : decode cc pc = .ok (.iastore, 1))
    (kk : ∀ (H1 : Heap) (locs1 : List Loc), SN E A s H1 locs1 (ws.set q0 (a, .inl (eI E, n, .inl (upd f z.toNat v)))) → W p l e R s m args below meth c H1 locs1 cells slots Q (F0 m (pc + 1) ls rest)) : W p l e R s m args below meth c H locs cells slots Q (F0 m pc ls (.int v :: .int (iv z) :: .ref a :: rest)) := by
  refine va_iast X.1 X.2.1 h.2.2.2.2.2.1.1 h.1 h.2.2.1 h.2.1 q0 0 ha rfl (iv_in h0 h1 hn) d (fun H1 locs1 hP hD hS => ?_)
  rw [iv_clamp ⟨by omega, by omega⟩] at hP hD
  exact kk H1 locs1 (h.to hP hD hS)
theorem n_iald (X : Cx p s m meth c args own cc nL rt) (h : SN E A s H locs ws) (q0 : Nat) {a n : Nat} {f : Nat → Int32} {z v : Int} (ha : ws[q0]? = some (a, .inl (eI E, n, .inl f))) (h0 : 0 ≤ z) (h1 : z < n) (hn : (n : Int) < 2147483648) (hv : f z.toNat = iv v) (d : decode cc pc = .ok (.iaload, 1))
    (kk : W p l e R s m args below meth c H locs cells slots Q (F0 m (pc + 1) ls (.int (iv v) :: rest))) : W p l e R s m args below meth c H locs cells slots Q (F0 m pc ls (.int (iv z) :: .ref a :: rest)) := by
  refine va_iald X.1 X.2.1 h.2.2.2.2.2.1.1 h.1 q0 0 ha rfl (iv_in h0 h1 hn) d ?_
  rw [iv_clamp ⟨by omega, by omega⟩, hv]
  exact kk
theorem n_newi (X : Cx p s m meth c args own cc nL rt) (h : SN E A s H locs ws) {z : Int} {N : Nat} (hz : (iv z).toNatClampNeg = N) (hz0 : ¬ iv z < 0) (hN : N * 4 ≤ 536870912) (hcells : cells + 1 ≤ R.cells) (hslots : slots + N ≤ R.slots) (d : decode cc pc = .ok (.newarray .int, 2))
    (kk : ∀ (q : Nat) (H1 : Heap), SN E A s H1 locs (ws ++ [(q, .inl (eI E, N, .inl (fun _ => 0)))]) → W p l e R s m args below meth c H1 locs (cells + 1) (slots + N) Q (F0 m (pc + 2) ls (.ref q :: rest))) : W p l e R s m args below meth c H locs cells slots Q (F0 m pc ls (.int (iv z) :: rest)) := by
  refine va_newa (D := eD E) (atype := .int) (a0 := (N, .inl (fun _ => 0))) X.1 X.2.1 (X.2.2.2.2.1 _ ac_77) rfl h.2.2.2.2.2.1.1 h.1 h.2.2.1 h.2.1 h.2.2.2.2.1 (fun _ => rfl) hz0 hz hN hcells hslots d (fun q cA H1 hK hP hD hS => ?_)
  have e1 := (hK.2 3 (cA, .int) rfl).2
  have e2 := (h.2.2.2.2.2.1.1.2 0 (eI E, .int) rfl).2
  have e3 : cA = eI E := Option.some.inj (e1.symm.trans e2)
  subst e3
  exact kk q H1 (h.to hP hD hS)
theorem n_newl (X : Cx p s m meth c args own cc nL rt) (h : SN E A s H locs ws) {z : Int} {N : Nat} (hz : (iv z).toNatClampNeg = N) (hz0 : ¬ iv z < 0) (hN : N * 8 ≤ 536870912) (hcells : cells + 1 ≤ R.cells) (hslots : slots + N ≤ R.slots) (d : decode cc pc = .ok (.newarray .long, 2))
    (kk : ∀ (q : Nat) (H1 : Heap), SN E A s H1 locs (ws ++ [(q, .inl (eJ E, N, .inr (.inl (fun _ => 0))))]) → W p l e R s m args below meth c H1 locs (cells + 1) (slots + N) Q (F0 m (pc + 2) ls (.ref q :: rest))) : W p l e R s m args below meth c H locs cells slots Q (F0 m pc ls (.int (iv z) :: rest)) := by
  refine va_newa (D := eD E) (atype := .long) (a0 := (N, .inr (.inl (fun _ => 0)))) X.1 X.2.1 (X.2.2.2.2.1 _ ac_124) rfl h.2.2.2.2.2.1.1 h.1 h.2.2.1 h.2.1 h.2.2.2.2.1 (fun _ => rfl) hz0 hz hN hcells hslots d (fun q cA H1 hK hP hD hS => ?_)
  have e1 := (hK.2 3 (cA, .long) rfl).2
  have e2 := (h.2.2.2.2.2.1.1.2 1 (eJ E, .long) rfl).2
  have e3 : cA = eJ E := Option.some.inj (e1.symm.trans e2)
  subst e3
  exact kk q H1 (h.to hP hD hS)
theorem n_newq (X : Cx p s m meth c args own cc nL rt) (h : SN E A s H locs ws) {index : Nat} (hcl : Cond.classLink own index RX0 ∈ tb) (hov : va_AO RX0 s) {z : Int} {N : Nat} (hz : (iv z).toNatClampNeg = N) (hz0 : ¬ iv z < 0) (hN : N * 4 ≤ 536870912) (hcells : cells + 1 ≤ R.cells) (hslots : slots + N ≤ R.slots) (d : decode cc pc = .ok (.anewarray index, 3))
    (kk : ∀ (q : Nat) (H1 : Heap), SN E A s H1 locs (ws ++ [(q, .inl (eS E, N, .inr (.inr (.inr (.inr (fun _ => none))))))]) → W p l e R s m args below meth c H1 locs (cells + 1) (slots + N) Q (F0 m (pc + 3) ls (.ref q :: rest))) : W p l e R s m args below meth c H locs cells slots Q (F0 m pc ls (.int (iv z) :: rest)) := by
  refine va_newq (D := eD E) X.1 X.2.1 X.2.2.2.1 (X.2.2.2.2.1 _ hcl) hov h.2.2.2.2.2.1.1 h.1 h.2.2.1 h.2.1 h.2.2.2.2.1 hz0 hz hN hcells hslots d (fun q cA H1 hK hP hD hS => ?_)
  obtain ⟨kA, comp, -, -, -, e1⟩ := (hK.2 3 (cA, .object RX0) rfl).2
  obtain ⟨kA', comp', -, -, -, e2⟩ := (h.2.2.2.2.2.1.1.2 2 (eS E, .object RX0) rfl).2
  have e3 : cA = eS E := Option.some.inj (e1.symm.trans e2)
  subst e3
  exact kk q H1 (h.to hP hD hS)
theorem n_astq (X : Cx p s m meth c args own cc nL rt) (h : SN E A s H locs ws) (q0 qk : Nat) {a v n : Nat} {vs : List Value} {f : Nat → Option Nat} {z : Int} (ha : ws[q0]? = some (a, .inl (eS E, n, .inr (.inr (.inr (.inr f)))))) (hv : ws[qk]? = some (v, .inr (0, vs))) (h0 : 0 ≤ z) (h1 : z < n) (hn : (n : Int) < 2147483648) (d : decode cc pc = .ok (.aastore, 1))
    (kk : ∀ (H1 : Heap) (locs1 : List Loc), SN E A s H1 locs1 (ws.set q0 (a, .inl (eS E, n, .inr (.inr (.inr (.inr (va_up f z.toNat (some v)))))))) → W p l e R s m args below meth c H1 locs1 cells slots Q (F0 m (pc + 1) ls rest)) : W p l e R s m args below meth c H locs cells slots Q (F0 m pc ls (.ref v :: .int (iv z) :: .ref a :: rest)) := by
  refine va_astq (D := eD E) (r := (RX0, TX0, 3)) X.1 X.2.1 h.2.2.2.2.2.1.1 h.1 h.2.2.1 h.2.1 q0 2 qk 0 ha rfl hv rfl (iv_in h0 h1 hn) d (fun H1 locs1 hP hD hS => ?_)
  rw [iv_clamp ⟨by omega, by omega⟩] at hP hD
  exact kk H1 locs1 (h.to hP hD hS)
theorem n_new (X : Cx p s m meth c args own cc nL rt) (h : SN E A s H locs ws) (ci : Nat) {C : String} {T : u_T} {N index : Nat} (hc : classes[ci]? = some (C, T, N)) (hin : ∀ w ∈ u_ws C T N, w ∈ tb) (ty0 : Nat → FieldType) (hty : ∀ k, k < N → parseFieldDescriptor (T k).2.2.1 = some (ty0 k)) (hcl : Cond.classLink own index C ∈ tb) (hit : Cond.instantiable C N ∈ tb) (hini : Cond.initialized C ∈ tb) {fs : List Value} (hfs : ∀ j, j < N → defaultValue (ty0 j) = vp_V fs j) (hcells : cells + 1 ≤ R.cells) (hslots : slots + N ≤ R.slots) (d : decode cc pc = .ok (.new index, 3))
    (kk : ∀ (q : Nat) (H1 : Heap), SN E A s H1 locs (ws ++ [(q, .inr (ci, fs))]) → W p l e R s m args below meth c H1 locs (cells + 1) (slots + N) Q (F0 m (pc + 3) ls (.ref q :: rest))) : W p l e R s m args below meth c H locs cells slots Q (F0 m pc ls rest) :=
  va_new (D := eD E) X.1 X.2.1 X.2.2.2.2.1 hin ty0 hty X.2.2.2.1 (X.2.2.2.2.1 _ hcl) (X.2.2.2.2.1 _ hit) (X.2.2.2.2.1 _ hini) h.2.2.2.2.2.1.1 h.1 h.2.2.1 h.2.1 h.2.2.2.2.1 hc hfs hcells hslots d (fun q H1 hP hD hS => kk q H1 (h.to hP hD hS))
theorem n_obj (X : Cx p s m meth c args own cc nL rt) (hs : ls.size = nL) {idx a : Nat} (lk : Cond.methodLink own idx objectInit ∈ tb) (hf : 1 ≤ R.frames) (hlo : 2 * (F0 m pc ls [.ref a]).monitorRoom + (([] : List Value).map fun v => v.category).sum + 12 ≤ R.locals) (d : decode cc pc = .ok (.invokespecial idx, 3)) (kk : W p l e R s m args below meth c H locs cells slots Q (F0 m (pc + 3) ls [])) : W p l e R s m args below meth c H locs cells slots Q (F0 m pc ls [.ref a]) :=
  W.objInit X.1 X.2.1 X.2.2.2.1 (X.2.2.2.2.1 _ lk) (X.2.2.2.2.1 _ im_O_init) (X.2.2.2.2.1 _ co_O_init) rfl (by rw [X.2.2.1]; exact hs) rfl d hf hlo kk
/-! calls -/
theorem pre_N (h : SN E A s H locs ws) {wc : va_W} (sg : Seg wc ws) {av : List Value} : ∀ U : State, U.heap = H → s.WarmedH U.vm → Pre E wc av av.toArray U := fun U hU hW => ⟨rfl, by rw [hU]; exact sg.p h.1, sg.d h.d, KK.warm hW h.2.2.2.2.2.1, by rw [hU]; exact HH.moved hW.alike h.hh⟩
variable {y : MethodName} {C : String} {bytes : ByteArray} {maxL n idx : Nat} {ret : Option FieldType} {rm : Room} {wc : va_W} {b : Nat} {As : List Value}
theorem run_Vn (X : Cx p s m meth c args own cc nL rt) (h : SN E A s H locs ws) {Qc : Array Value → State → Outcome → State → Prop} {free : Addr → Prop} (hM : Met l y (wz y bytes maxL ret) rm (Pre E wc (.ref b :: As)) Qc 0 0 free) (mi : MInf y C bytes maxL ret n) (lk : Cond.methodLink own idx y ∈ tb) (hR : rm.frames + 1 ≤ R.frames ∧ 8 + (maxL + 11) + rm.locals ≤ R.locals) (hrm : rm.cells = 0 ∧ rm.slots = 0) (sg : Seg wc ws)
    (ci q0 : Nat) {q : vw_C} {fs : List Value} (hq : classes[ci]? = some q) (hqC : q.1 = C) (he : ws[q0]? = some (b, .inr (ci, fs))) (hn : As.length = n) (hl : ls.size = nL) (hst : st = As.reverse ++ .ref b :: rest) (hW : (rest.map fun v => v.category).sum ≤ 8) (hc : cells ≤ R.cells ∧ slots ≤ R.slots) (d : decode cc pc = .ok (.invokevirtual idx, 3)) :
    va_Run p l e R s m args below meth c H locs cells slots 0 0 (F0 m pc ls st) rest (Qc (Value.ref b :: As).toArray) free := by
  subst hqC
  exact va_runV (Ts := tb) (As := As) (rest := rest) ⟨X.1, X.2.1, X.2.2.1, X.2.2.2.1, X.2.2.2.2.1⟩ hM (cwV n X.2.2.2.2.1 (good_V mi lk) rfl hrm.1 hrm.2 mi.2.2.2.2 hR) ⟨Pre.blind E wc _, va_recv h.2.2.2.2.2.1.1 h.1 hq he, pre_N h sg⟩ rfl hn hl hst (lv_room (ls := ls) hW) d hc
theorem run_Sn (X : Cx p s m meth c args own cc nL rt) (h : SN E A s H locs ws) {Qc : Array Value → State → Outcome → State → Prop} {free : Addr → Prop} (hM : Met l y (wz y bytes maxL ret) rm (Pre E wc As) Qc 0 0 free) (mi : MInfS y bytes maxL ret n) (lk : Cond.methodLink own idx y ∈ tb) (hR : rm.frames + 1 ≤ R.frames ∧ 8 + (maxL + 11) + rm.locals ≤ R.locals) (hrm : rm.cells = 0 ∧ rm.slots = 0) (sg : Seg wc ws)
    (hn : As.length = n) (hl : ls.size = nL) (hst : st = As.reverse ++ rest) (hW : (rest.map fun v => v.category).sum ≤ 8) (hc : cells ≤ R.cells ∧ slots ≤ R.slots) (d : decode cc pc = .ok (.invokestatic idx, 3)) :
    va_Run p l e R s m args below meth c H locs cells slots 0 0 (F0 m pc ls st) rest (Qc As.toArray) free :=
  va_runS (Ts := tb) (As := As) (rest := rest) ⟨X.1, X.2.1, X.2.2.1, X.2.2.2.1, X.2.2.2.2.1⟩ hM ⟨callB_of n X.2.2.2.2.1 (good_S mi.1) rfl hrm.1 hrm.2 (X.2.2.2.2.1 _ mi.2.2.1) (X.2.2.2.2.1 _ lk) mi.2.2.2 hR, X.2.2.2.2.1 _ mi.2.1⟩ ⟨Pre.blind E wc _, pre_N h sg⟩ rfl hn hl hst (lv_room (ls := ls) hW) d hc
theorem sn_seg {Xs Ys w1 : va_W} {H1 : Heap} {locs1 : List Loc} (h : SN E A s H locs (Xs ++ (wc ++ Ys))) (hm : w1.map Prod.fst = wc.map Prod.fst) (hP1 : va_P (eD E) classes w1 H1) (hk : ∀ q : Nat, q < H.size → ¬ inW wc q → H1[q]? = H[q]?) (hS : va_S A s.heap H1 locs1) : SN E A s H1 locs1 (Xs ++ (w1 ++ Ys)) :=
  h.to (seg_join h.1 h.2.2.1 hk hP1) (vaD_same (by rw [List.map_append, List.map_append, List.map_append, List.map_append, hm]) h.2.2.1) hS
theorem sn_in {Xs Ys : va_W} (h : SN E A s H locs (Xs ++ (wc ++ Ys))) {q : Nat} (hq : inW wc q) : A q := by
  obtain ⟨k, e, hk⟩ := hq
  exact (vaD_mem.mp h.2.2.1).2 (q, e) (by simp [List.mem_of_getElem? hk])
theorem n_wi {S : Type} {post : Int32 → S → Prop} {wc' : S → va_W} {a : Array Value} {Xs Ys : va_W} (h : SN E A s H locs (Xs ++ (wc ++ Ys))) (hr : va_Run p l e R s m args below meth c H locs cells slots 0 0 (F0 m pc ls st) rest (va_Qi post (fun u t => va_P (eD E) classes (wc' u) t.heap) (inW wc) a) (inW wc)) (hm : ∀ u, (wc' u).map Prod.fst = wc.map Prod.fst)
    (kk : ∀ (r : Int32) (u : S) (H1 : Heap) (locs1 : List Loc), post r u → SN E A s H1 locs1 (Xs ++ (wc' u ++ Ys)) → W p l e R s m args below meth c H1 locs1 cells slots Q (F0 m (pc + 3) ls (.int r :: rest))) : W p l e R s m args below meth c H locs cells slots Q (F0 m pc ls st) :=
  va_calli hr h.2.1 (fun _ _ z => sn_in h z) (fun _ z => sn_in h z) (fun r u t H1 locs1 ht _ hp hB _ hk hS => kk r u H1 locs1 hp (sn_seg h (hm u) (by rw [← ht]; exact hB) hk hS))
theorem n_wl {S : Type} {post : Int64 → S → Prop} {wc' : S → va_W} {a : Array Value} {Xs Ys : va_W} (h : SN E A s H locs (Xs ++ (wc ++ Ys))) (hr : va_Run p l e R s m args below meth c H locs cells slots 0 0 (F0 m pc ls st) rest (va_Ql post (fun u t => va_P (eD E) classes (wc' u) t.heap) (inW wc) a) (inW wc)) (hm : ∀ u, (wc' u).map Prod.fst = wc.map Prod.fst)
    (kk : ∀ (r : Int64) (u : S) (H1 : Heap) (locs1 : List Loc), post r u → SN E A s H1 locs1 (Xs ++ (wc' u ++ Ys)) → W p l e R s m args below meth c H1 locs1 cells slots Q (F0 m (pc + 3) ls (.long r :: rest))) : W p l e R s m args below meth c H locs cells slots Q (F0 m pc ls st) :=
  va_calll hr h.2.1 (fun _ _ z => sn_in h z) (fun _ z => sn_in h z) (fun r u t H1 locs1 ht _ hp hB _ hk hS => kk r u H1 locs1 hp (sn_seg h (hm u) (by rw [← ht]; exact hB) hk hS))
theorem n_wv {S : Type} {post : S → Prop} {wc' : S → va_W} {a : Array Value} {Xs Ys : va_W} (h : SN E A s H locs (Xs ++ (wc ++ Ys))) (hr : va_Run p l e R s m args below meth c H locs cells slots 0 0 (F0 m pc ls st) rest (va_Qv post (fun u t => va_P (eD E) classes (wc' u) t.heap) (inW wc) a) (inW wc)) (hm : ∀ u, (wc' u).map Prod.fst = wc.map Prod.fst)
    (kk : ∀ (u : S) (H1 : Heap) (locs1 : List Loc), post u → SN E A s H1 locs1 (Xs ++ (wc' u ++ Ys)) → W p l e R s m args below meth c H1 locs1 cells slots Q (F0 m (pc + 3) ls rest)) : W p l e R s m args below meth c H locs cells slots Q (F0 m pc ls st) :=
  va_callv hr h.2.1 (fun _ _ z => sn_in h z) (fun _ z => sn_in h z) (fun u t H1 locs1 ht _ hp hB _ hk hS => kk u H1 locs1 hp (sn_seg h (hm u) (by rw [← ht]; exact hB) hk hS))
/-! constructors called -/
theorem sn_join {Xs w1 : va_W} {H1 : Heap} {locs1 : List Loc} (h : SN E A s H locs (Xs ++ wc)) (hk : ∀ q : Nat, q < H.size → ¬ va_A wc H.size q → H1[q]? = H[q]?) (hP1 : va_P (eD E) classes w1 H1) (hD1 : va_D (va_A wc H.size) w1) (hS : va_S A s.heap H1 locs1) : SN E A s H1 locs1 (Xs ++ w1) := by
  have hP := vaP_mem.mp h.1
  have hD := vaD_mem.mp h.2.2.1
  have hn := hD.1
  rw [List.map_append, List.nodup_append] at hn
  have hP1' := vaP_mem.mp hP1
  have hD1' := vaD_mem.mp hD1
  have key : ∀ q ∈ Xs, ¬ va_A wc H.size q.1 := by
    intro q hq hA
    rcases hA with ⟨k, e, hk⟩ | hz
    · exact hn.2.2 q.1 (List.mem_map_of_mem hq) q.1 (List.mem_map.mpr ⟨(q.1, e), List.mem_of_getElem? hk, rfl⟩) rfl
    · have := (hP q (by simp [hq])).lt
      omega
  refine h.to (vaP_mem.mpr (fun q hq => ?_)) (vaD_mem.mpr ⟨?_, fun q hq => ?_⟩) hS
  · rcases List.mem_append.mp hq with hx | hx
    · have ha := hP q (by simp [hx])
      exact ha.kept (hk q.1 ha.lt (key q hx))
    · exact hP1' q hx
  · rw [List.map_append, List.nodup_append]
    refine ⟨hn.1, hD1'.1, fun a ha b hb hab => ?_⟩
    obtain ⟨qa, ha1, rfl⟩ := List.mem_map.mp ha
    obtain ⟨qb, hb1, hb2⟩ := List.mem_map.mp hb
    refine key qa ha1 ?_
    rw [hab, ← hb2]
    exact hD1'.2 qb hb1
  · rcases List.mem_append.mp hq with hx | hx
    · exact hD.2 q (by simp [hx])
    · rcases hD1'.2 q hx with ⟨k, e, hk⟩ | hz
      · exact hD.2 (q.1, e) (by simp [List.mem_of_getElem? hk])
      · exact h.2.2.2.2.1 _ (Nat.le_trans h.2.1.1 hz)
theorem sn_free {Xs : va_W} (h : SN E A s H locs (Xs ++ wc)) {q : Nat} (hq : va_A wc H.size q) : A q := by
  rcases hq with ⟨k, e, hk⟩ | hz
  · exact (vaD_mem.mp h.2.2.1).2 (q, e) (by simp [List.mem_of_getElem? hk])
  · exact h.2.2.2.2.1 _ (Nat.le_trans h.2.1.1 hz)
theorem PreN.blind {G : State → Prop} {sz : Nat} {av : List Value} (hG : ∀ (U : State) (g : JFrame) (mk : MethodId) (a : Array Value), G U → G (U.calling g mk a)) : FrameBlind (PreN E G sz wc av) := fun a U g mk h => ⟨Pre.blind E wc av a U g mk h.1, h.2.1, hG U g mk a h.2.2⟩
theorem n_init {S : Type} {G : State → Prop} {mc ms : Nat} {post : S → Prop} {ws' : S → va_W} {Xs : va_W} (X : Cx p s m meth c args own cc nL rt) (h : SN E A s H locs (Xs ++ wc)) (hM : MN E l G y bytes maxL rm mc ms wc [.ref b] post ws') (hGb : ∀ (U : State) (g : JFrame) (mk : MethodId) (a : Array Value), G U → G (U.calling g mk a)) (hGw : ∀ U : State, s.WarmedH U.vm → G U)
    (hco : Cond.code y bytes maxL none ∈ tb) (him : Cond.instanceMethod y ∈ tb) (hini : Cond.initialized y.cls ∈ tb) (hy : y.name = "<init>" ∧ y.cls ≠ "java/lang/invoke/MethodHandle" ∧ y.cls ≠ "java/lang/invoke/VarHandle" ∧ (parseMethodDescriptor y.desc).map (fun d => d.parameters.length) = some 0) (lk : Cond.methodLink own idx y ∈ tb) (hR : rm.frames + 1 ≤ R.frames ∧ 8 + (maxL + 11) + rm.locals ≤ R.locals) (hrm : rm.cells = mc ∧ rm.slots = ms)
    (hl : ls.size = nL) (hW : (rest.map fun v => v.category).sum ≤ 8) (hc : cells + mc ≤ R.cells ∧ slots + ms ≤ R.slots) (d : decode cc pc = .ok (.invokespecial idx, 3))
    (kk : ∀ (u : S) (H1 : Heap) (locs1 : List Loc), post u → SN E A s H1 locs1 (Xs ++ ws' u) → W p l e R s m args below meth c H1 locs1 (cells + mc) (slots + ms) Q (F0 m (pc + 3) ls rest)) : W p l e R s m args below meth c H locs cells slots Q (F0 m pc ls (.ref b :: rest)) :=
  va_callv (va_runI (Ts := tb) (As := []) (rest := rest) ⟨X.1, X.2.1, X.2.2.1, X.2.2.2.1, X.2.2.2.2.1⟩ (hM H.size h.z) (cwI 0 X.2.2.2.2.1 (good_S hco) rfl hrm.1 hrm.2 (X.2.2.2.2.1 _ hini) (X.2.2.2.2.1 _ lk) (X.2.2.2.2.1 _ him) hy.1 hy.2 hR) ⟨PreN.blind hGb, fun U hU hWm => ⟨pre_N h ⟨Xs, [], by simp⟩ U hU hWm, by rw [hU], hGw U hWm⟩⟩ rfl rfl hl rfl (lv_room (ls := ls) hW) d hc) h.2.1 (fun _ _ z => sn_free h z) (fun _ z => sn_free h z) (fun u t H1 locs1 ht _ hp hB _ hk hS => kk u H1 locs1 hp (sn_join h hk (by rw [← ht]; exact hB.1) hB.2 hS))
theorem n_initN {S : Type} {G : State → Prop} {mc ms : Nat} {post : S → Prop} {ws' : S → va_W} {Xs : va_W} {host : String} (X : Cx p s m meth c args own cc nL rt) (h : SN E A s H locs (Xs ++ wc)) (hM : MN E l G y bytes maxL rm mc ms wc [.ref b] post ws') (hGb : ∀ (U : State) (g : JFrame) (mk : MethodId) (a : Array Value), G U → G (U.calling g mk a)) (hGw : ∀ U : State, s.WarmedH U.vm → G U)
    (hco : Cond.code y bytes maxL none ∈ tb) (him : Cond.instanceMethod y ∈ tb) (hini : Cond.initialized y.cls ∈ tb) (hy : y.name = "<init>" ∧ y.cls ≠ "java/lang/invoke/MethodHandle" ∧ y.cls ≠ "java/lang/invoke/VarHandle" ∧ (parseMethodDescriptor y.desc).map (fun d => d.parameters.length) = some 0) (lk : va_Nw (.methodLinkNest own idx y host) s) (hR : rm.frames + 1 ≤ R.frames ∧ 8 + (maxL + 11) + rm.locals ≤ R.locals) (hrm : rm.cells = mc ∧ rm.slots = ms)
    (hl : ls.size = nL) (hW : (rest.map fun v => v.category).sum ≤ 8) (hc : cells + mc ≤ R.cells ∧ slots + ms ≤ R.slots) (d : decode cc pc = .ok (.invokespecial idx, 3))
    (kk : ∀ (u : S) (H1 : Heap) (locs1 : List Loc), post u → SN E A s H1 locs1 (Xs ++ ws' u) → W p l e R s m args below meth c H1 locs1 (cells + mc) (slots + ms) Q (F0 m (pc + 3) ls rest)) : W p l e R s m args below meth c H locs cells slots Q (F0 m pc ls (.ref b :: rest)) :=
  va_callv (va_runIN (Ts := tb) (As := []) (rest := rest) ⟨X.1, X.2.1, X.2.2.1, X.2.2.2.1, X.2.2.2.2.1⟩ (hM H.size h.z) ⟨va_cnB 0 X.2.2.2.2.1 (good_S hco) rfl hrm.1 hrm.2 lk (X.2.2.2.2.1 _ hini) hy.2 hR, hy.1, X.2.2.2.2.1 _ him⟩ ⟨PreN.blind hGb, fun U hU hWm => ⟨pre_N h ⟨Xs, [], by simp⟩ U hU hWm, by rw [hU], hGw U hWm⟩⟩ rfl rfl hl rfl (lv_room (ls := ls) hW) d hc) h.2.1 (fun _ _ z => sn_free h z) (fun _ z => sn_free h z) (fun u t H1 locs1 ht _ hp hB _ hk hS => kk u H1 locs1 hp (sn_join h hk (by rw [← ht]; exact hB.1) hB.2 hS))
end ZN
