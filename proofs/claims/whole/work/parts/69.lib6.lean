section ZCK
variable {p : Program} {l : Launch} {e : Env} {R : Room} {s : State} {m : MethodId} {args : Array Value} {below : List Frame} {meth : Method} {c : Code} {H : Heap} {locs : List Loc} {cells slots : Nat} {Q : State → Prop}
variable {own : String} {cc : ByteArray} {nL : Nat} {rt : Option FieldType} {pc : Nat} {ls : Array Slot} {rest st : List Value} {E : EV} {ws0 ws : va_W}
variable {y : MethodName} {bytes : ByteArray} {maxL n idx : Nat} {ret : Option FieldType} {rm : Room} {wc : va_W} {As : List Value}
theorem run_VK (X : Cx p s m meth c args own cc nL rt) (h : St E ws0 s H locs ws) {Qc : Array Value → State → Outcome → State → Prop} {free : Addr → Prop} {i : Nat} (hM : Met l y (wz y bytes maxL ret) rm (Pre E wc (.ref (eK E i) :: As)) Qc 0 0 free) (mi : MInf y RJ0 bytes maxL ret n) (lk : Cond.methodLink own idx y ∈ tb) (hR : rm.frames + 1 ≤ R.frames ∧ 8 + (maxL + 11) + rm.locals ≤ R.locals) (hrm : rm.cells = 0 ∧ rm.slots = 0) (sg : Seg wc ws)
    (hi : i < 10) (hn : As.length = n) (hl : ls.size = nL) (hst : st = As.reverse ++ .ref (eK E i) :: rest) (hW : (rest.map fun v => v.category).sum ≤ 8) (hc : cells ≤ R.cells ∧ slots ≤ R.slots) (d : decode cc pc = .ok (.invokevirtual idx, 3)) :
    va_Run p l e R s m args below meth c H locs cells slots 0 0 (F0 m pc ls st) rest (Qc (Value.ref (eK E i) :: As).toArray) free :=
  va_runV (Ts := tb) (As := As) (rest := rest) ⟨X.1, X.2.1, X.2.2.1, X.2.2.2.1, X.2.2.2.2.1⟩ hM (cwV n X.2.2.2.2.1 (good_V mi lk) rfl hrm.1 hrm.2 mi.2.2.2.2 hR) ⟨Pre.blind E wc _, vk_recv h.str hi h.2.1, pre_S h sg⟩ rfl hn hl hst (lv_room (ls := ls) hW) d hc
end ZCK
