section ZLS
variable {p : Program} {l : Launch} {e : Env} {R : Room} {s : State} {m : MethodId} {args : Array Value} {below : List Frame} {meth : Method} {c : Code} {H : Heap} {locs : List Loc} {cells slots : Nat} {Q : State → Prop}
variable {cc : ByteArray} {nL : Nat} {rt : Option FieldType} {pc : Nat} {ls : Array Slot} {rest : List Value} {E : EV} {ws0 ws : va_W}
theorem z_ldcS (X : Cx p s m meth c args RX2 cc nL rt) (h : St E ws0 s H locs ws) (i : Nat) {idx : Nat} {tx : String} (hq : strs[i]? = some (idx, tx)) (d : decode cc pc = .ok (.ldc idx, 2)) (k : W p l e R s m args below meth c H locs cells slots Q (F0 m (pc + 2) ls (.ref (eK E i) :: rest))) : W p l e R s m args below meth c H locs cells slots Q (F0 m pc ls rest) :=
  va_ldcS X.1 X.2.1 X.2.2.2.1 (h.2.2.2.2.1.2.2.2 i _ hq) d k
end ZLS
