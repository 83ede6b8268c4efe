def Sv9 : Array Value → State → Outcome → State → Prop := fun _ st o t => o = .returned none ∧ t.heap = st.heap
def MPV (E : EV) (l : Launch) (y : MethodName) (bytes : ByteArray) (maxL : Nat) (rm : Room) (ws : va_W) (av : List Value) : Prop := Met l y (wz y bytes maxL none) rm (Pre E ws av) Sv9 0 0 (fun _ => False)
section GPV
variable {l : Launch} {E : EV} {y : MethodName} {bytes : ByteArray} {maxL : Nat} {rm : Room} {ws : va_W} {av : List Value}
theorem goPV (hy : plainName y.cls = true) (hav : (lg_sl av).length ≤ maxL)
    (body : ∀ (p : Program) (e : Env) (s : State) (m : MethodId) (below : List Frame) (meth : Method) (c : Code) (ls : Array Slot) (args : Array Value) (Q : State → Prop),
      (∀ (pc : Nat) (ls : Array Slot), decode bytes pc = .ok (.return_, 1) → W p l e rm s m args below meth c s.heap [] 0 0 Q (F0 m pc ls [])) →
      Cx p s m meth c args y.cls bytes maxL none → St E ws s s.heap [] ws → lv_has ls maxL (lv_args 0 av) → W p l e rm s m args below meth c s.heap [] 0 0 Q (F0 m 0 ls [])) :
    MPV E l y bytes maxL rm ws av :=
  Met.go hy hav (fun p e s m below meth c ls X h hl => body p e s m below meth c ls _ _ (fun pc ls d => W.vret X.1 X.2.1 X.2.2.2.2.2.1 (fun t ht _ => ⟨rfl, ht⟩) (fun q hq => by cases hq) d X.2.2.2.2.2.2) X h hl)
end GPV
section ZPV
variable {p : Program} {l : Launch} {e : Env} {R : Room} {s : State} {m : MethodId} {args : Array Value} {below : List Frame} {meth : Method} {c : Code} {H : Heap} {locs : List Loc} {cells slots : Nat} {Q : State → Prop}
variable {pc : Nat} {ls : Array Slot} {rest st : List Value}
theorem z_pv {a : Array Value} (hr : va_Run p l e R s m args below meth c H locs cells slots 0 0 (F0 m pc ls st) rest (Sv9 a) (fun _ => False)) (kk : W p l e R s m args below meth c H locs cells slots Q (F0 m (pc + 3) ls rest)) : W p l e R s m args below meth c H locs cells slots Q (F0 m pc ls st) := by
  intro T hT X
  obtain ⟨v, st₀, t, T', L, h0, X', hL, e1, ⟨hv, hh⟩, stp⟩ := hr.run T hT X
  cases hv
  obtain ⟨t2, a1, b1⟩ := kk T' (by rw [e1, hh, h0]) (Stand.forget X' (fun q h => (hL q h).elim))
  exact ⟨t2, stp _ a1, b1⟩
end ZPV
