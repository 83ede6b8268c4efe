/-! ===== calls ===== -/
def Seg (wc ws : va_W) : Prop := ∃ Xs Ys : va_W, ws = Xs ++ (wc ++ Ys)
theorem Seg.rfl' (ws : va_W) : Seg ws ws := ⟨[], [], by simp⟩
theorem Seg.nil (ws : va_W) : Seg [] ws := ⟨[], ws, by simp⟩
theorem Seg.mk' {wc : va_W} (Xs Ys : va_W) : Seg wc (Xs ++ (wc ++ Ys)) := ⟨Xs, Ys, rfl⟩
theorem vaP_mem {D : va_G} {cl : List vw_C} {ws : va_W} {H : Heap} : va_P D cl ws H ↔ ∀ q ∈ ws, va_at D cl q H := by
  constructor
  · intro h q hq
    obtain ⟨k, hk⟩ := List.getElem?_of_mem hq
    exact h k q hk
  · intro h k q hk
    exact h q (List.mem_of_getElem? hk)
theorem vaD_mem {A : Nat → Prop} {ws : va_W} : va_D A ws ↔ (ws.map Prod.fst).Nodup ∧ ∀ q ∈ ws, A q.1 := by
  constructor
  · intro h
    refine ⟨?_, fun q hq => ?_⟩
    · rw [List.nodup_iff_pairwise_ne, List.pairwise_iff_getElem]
      intro i j hi hj hij he
      have hi' : i < ws.length := by simpa using hi
      have hj' : j < ws.length := by simpa using hj
      rw [List.getElem_map, List.getElem_map] at he
      have := h.1 i j _ _ (List.getElem?_eq_getElem hi') (List.getElem?_eq_getElem hj') he
      omega
    · obtain ⟨k, hk⟩ := List.getElem?_of_mem hq
      exact h.2 k q hk
  · intro h
    refine ⟨fun i j p q hi hj hpq => ?_, fun k q hk => h.2 q (List.mem_of_getElem? hk)⟩
    have hn := h.1
    rw [List.nodup_iff_pairwise_ne, List.pairwise_iff_getElem] at hn
    obtain ⟨hli, ei⟩ := List.getElem?_eq_some_iff.mp hi
    obtain ⟨hlj, ej⟩ := List.getElem?_eq_some_iff.mp hj
    rcases Nat.lt_trichotomy i j with h1 | h1 | h1
    · exact absurd (by rw [List.getElem_map, List.getElem_map, ei, ej]; exact hpq) (hn i j (by simpa using hli) (by simpa using hlj) h1)
    · exact h1
    · exact absurd (by rw [List.getElem_map, List.getElem_map, ei, ej]; exact hpq.symm) (hn j i (by simpa using hlj) (by simpa using hli) h1)
theorem Seg.p {D : va_G} {cl : List vw_C} {wc ws : va_W} {H : Heap} (hs : Seg wc ws) (h : va_P D cl ws H) : va_P D cl wc H := by
  obtain ⟨Xs, Ys, rfl⟩ := hs
  rw [vaP_mem] at h ⊢
  exact fun q hq => h q (by simp [hq])
theorem Seg.d {A : Nat → Prop} {wc ws : va_W} (hs : Seg wc ws) (h : va_D A ws) : va_D A wc := by
  obtain ⟨Xs, Ys, rfl⟩ := hs
  rw [vaD_mem] at h ⊢
  refine ⟨?_, fun q hq => h.2 q (by simp [hq])⟩
  have h1 := h.1
  rw [List.map_append, List.map_append, List.nodup_append] at h1
  have h2 := h1.2.1
  rw [List.nodup_append] at h2
  exact h2.1
theorem Seg.inW {wc ws ws0 : va_W} (hs : Seg wc ws) (hm : ws.map Prod.fst = ws0.map Prod.fst) {q : Nat} (h : inW wc q) : inW ws0 q := by
  obtain ⟨Xs, Ys, rfl⟩ := hs
  rw [← inW_same hm, inW_map]
  rw [inW_map] at h
  simp [h]
/-- behind a call: the segment anew, the rest as it was -/
theorem seg_join {A : Nat → Prop} {D : va_G} {cl : List vw_C} {Xs Ys wc w1 : va_W} {H H1 : Heap} (hP : va_P D cl (Xs ++ (wc ++ Ys)) H) (hD : va_D A (Xs ++ (wc ++ Ys))) (hk : ∀ q : Nat, q < H.size → ¬ inW wc q → H1[q]? = H[q]?) (hP1 : va_P D cl w1 H1) : va_P D cl (Xs ++ (w1 ++ Ys)) H1 := by
  rw [vaP_mem] at hP hP1 ⊢
  rw [vaD_mem] at hD
  have hn := hD.1
  rw [List.map_append, List.map_append, List.nodup_append] at hn
  have hn2 := hn.2.1
  rw [List.nodup_append] at hn2
  intro q hq
  rcases List.mem_append.mp hq with h | h
  · have ha := hP q (by simp [h])
    refine ha.kept (hk q.1 ha.lt (fun hw => ?_))
    rw [inW_map] at hw
    exact hn.2.2 q.1 (List.mem_map_of_mem h) q.1 (by simp only [List.mem_append]; exact Or.inl hw) rfl
  · rcases List.mem_append.mp h with h | h
    · exact hP1 q h
    · have ha := hP q (by simp [h])
      refine ha.kept (hk q.1 ha.lt (fun hw => ?_))
      rw [inW_map] at hw
      exact hn2.2.2 q.1 hw q.1 (List.mem_map_of_mem h) rfl
theorem good_V {own : String} {idx : Nat} {y : MethodName} {C : String} {bytes : ByteArray} {maxL : Nat} {ret : Option FieldType} {n : Nat} (mi : MInf y C bytes maxL ret n) (lk : Cond.methodLink own idx y ∈ tb) : GoodIn tb (wsV own idx C y (wz y bytes maxL ret)) := by
  intro w hw
  simp only [wsV, wz, List.mem_append, List.mem_cons, List.not_mem_nil, or_false] at hw
  have h : w ∈ tb := by
    rcases hw with (rfl | rfl | rfl | rfl) | (rfl | h)
    · exact lk
    · exact mi.2.1
    · exact mi.2.2.1
    · exact mi.2.2.2.1
    · exact mi.1
    · exact h
  exact ⟨h, tb_good h⟩
theorem good_S {y : MethodName} {bytes : ByteArray} {maxL : Nat} {ret : Option FieldType} (hc : Cond.code y bytes maxL ret ∈ tb) : GoodIn tb (wz y bytes maxL ret) := by
  intro w hw
  rcases List.mem_cons.mp hw with rfl | h
  · exact ⟨hc, tb_good hc⟩
  · exact ⟨h, tb_good h⟩
section ZC
variable {p : Program} {l : Launch} {e : Env} {R : Room} {s : State} {m : MethodId} {args : Array Value} {below : List Frame} {meth : Method} {c : Code} {H : Heap} {locs : List Loc} {cells slots : Nat} {Q : State → Prop}
variable {own : String} {cc : ByteArray} {nL : Nat} {rt : Option FieldType} {pc : Nat} {ls : Array Slot} {rest st : List Value} {E : EV} {ws0 ws : va_W}
variable {y : MethodName} {C : String} {bytes : ByteArray} {maxL n idx : Nat} {ret : Option FieldType} {rm : Room} {wc : va_W} {b : Nat} {As : List Value}
theorem pre_S (h : St E ws0 s H locs ws) (sg : Seg wc ws) {av : List Value} : ∀ U : State, U.heap = H → s.WarmedH U.vm → Pre E wc av av.toArray U := fun U hU hW => ⟨rfl, by rw [hU]; exact sg.p h.1, sg.d h.d, KK.warm hW h.2.2.2.2.1, by rw [hU]; exact HH.moved hW.alike h.hh⟩
theorem run_V (X : Cx p s m meth c args own cc nL rt) (h : St E ws0 s H locs ws) {Qc : Array Value → State → Outcome → State → Prop} {free : Addr → Prop} (hM : Met l y (wz y bytes maxL ret) rm (Pre E wc (.ref b :: As)) Qc 0 0 free) (mi : MInf y C bytes maxL ret n) (lk : Cond.methodLink own idx y ∈ tb) (hR : rm.frames + 1 ≤ R.frames ∧ 8 + (maxL + 11) + rm.locals ≤ R.locals) (hrm : rm.cells = 0 ∧ rm.slots = 0) (sg : Seg wc ws)
    (ci q0 : Nat) {q : vw_C} {fs : List Value} (hq : classes[ci]? = some q) (hqC : q.1 = C) (he : ws[q0]? = some (b, .inr (ci, fs))) (hn : As.length = n) (hl : ls.size = nL) (hst : st = As.reverse ++ .ref b :: rest) (hW : (rest.map fun v => v.category).sum ≤ 8) (hc : cells ≤ R.cells ∧ slots ≤ R.slots) (d : decode cc pc = .ok (.invokevirtual idx, 3)) :
    va_Run p l e R s m args below meth c H locs cells slots 0 0 (F0 m pc ls st) rest (Qc (Value.ref b :: As).toArray) free := by
  subst hqC
  exact va_runV (Ts := tb) (As := As) (rest := rest) ⟨X.1, X.2.1, X.2.2.1, X.2.2.2.1, X.2.2.2.2.1⟩ hM (cwV n X.2.2.2.2.1 (good_V mi lk) rfl hrm.1 hrm.2 mi.2.2.2.2 hR) ⟨Pre.blind E wc _, va_recv h.2.2.2.2.1.1 h.1 hq he, pre_S h sg⟩ rfl hn hl hst (lv_room (ls := ls) hW) d hc
theorem run_S (X : Cx p s m meth c args own cc nL rt) (h : St E ws0 s H locs ws) {Qc : Array Value → State → Outcome → State → Prop} {free : Addr → Prop} (hM : Met l y (wz y bytes maxL ret) rm (Pre E wc As) Qc 0 0 free) (mi : MInfS y bytes maxL ret n) (lk : Cond.methodLink own idx y ∈ tb) (hR : rm.frames + 1 ≤ R.frames ∧ 8 + (maxL + 11) + rm.locals ≤ R.locals) (hrm : rm.cells = 0 ∧ rm.slots = 0) (sg : Seg wc ws)
    (hn : As.length = n) (hl : ls.size = nL) (hst : st = As.reverse ++ rest) (hW : (rest.map fun v => v.category).sum ≤ 8) (hc : cells ≤ R.cells ∧ slots ≤ R.slots) (d : decode cc pc = .ok (.invokestatic idx, 3)) :
    va_Run p l e R s m args below meth c H locs cells slots 0 0 (F0 m pc ls st) rest (Qc As.toArray) free :=
  va_runS (Ts := tb) (As := As) (rest := rest) ⟨X.1, X.2.1, X.2.2.1, X.2.2.2.1, X.2.2.2.2.1⟩ hM ⟨callB_of n X.2.2.2.2.1 (good_S mi.1) rfl hrm.1 hrm.2 (X.2.2.2.2.1 _ mi.2.2.1) (X.2.2.2.2.1 _ lk) mi.2.2.2 hR, X.2.2.2.2.1 _ mi.2.1⟩ ⟨Pre.blind E wc _, pre_S h sg⟩ rfl hn hl hst (lv_room (ls := ls) hW) d hc
theorem run_N (X : Cx p s m meth c args own cc nL rt) (h : St E ws0 s H locs ws) {Qc : Array Value → State → Outcome → State → Prop} {free : Addr → Prop} (hM : Met l y (wz y bytes maxL ret) rm (Pre E wc As) Qc 0 0 free) (mi : MInfS y bytes maxL ret n) {host : String} (lk : va_Nw (.methodLinkNest own idx y host) s) (hR : rm.frames + 1 ≤ R.frames ∧ 8 + (maxL + 11) + rm.locals ≤ R.locals) (hrm : rm.cells = 0 ∧ rm.slots = 0) (sg : Seg wc ws)
    (hn : As.length = n) (hl : ls.size = nL) (hst : st = As.reverse ++ rest) (hW : (rest.map fun v => v.category).sum ≤ 8) (hc : cells ≤ R.cells ∧ slots ≤ R.slots) (d : decode cc pc = .ok (.invokestatic idx, 3)) :
    va_Run p l e R s m args below meth c H locs cells slots 0 0 (F0 m pc ls st) rest (Qc As.toArray) free :=
  va_runSN (Ts := tb) (As := As) (rest := rest) ⟨X.1, X.2.1, X.2.2.1, X.2.2.2.1, X.2.2.2.2.1⟩ hM ⟨va_cnB n X.2.2.2.2.1 (good_S mi.1) rfl hrm.1 hrm.2 lk (X.2.2.2.2.1 _ mi.2.2.1) mi.2.2.2 hR, X.2.2.2.2.1 _ mi.2.1, trivial⟩ ⟨Pre.blind E wc _, pre_S h sg⟩ rfl hn hl hst (lv_room (ls := ls) hW) d hc
/-! reading calls -/
theorem z_pi {a : Array Value} {z : Int} (hr : va_Run p l e R s m args below meth c H locs cells slots 0 0 (F0 m pc ls st) rest (vp_Si (fun r => r = iv z) a) (fun _ => False)) (kk : W p l e R s m args below meth c H locs cells slots Q (F0 m (pc + 3) ls (.int (iv z) :: rest))) : W p l e R s m args below meth c H locs cells slots Q (F0 m pc ls st) :=
  vp_callSi hr.run (fun r h => by subst h; exact kk)
theorem z_pl {a : Array Value} {x : Int64} (hr : va_Run p l e R s m args below meth c H locs cells slots 0 0 (F0 m pc ls st) rest (vp_Sl (fun r => r = x) a) (fun _ => False)) (kk : W p l e R s m args below meth c H locs cells slots Q (F0 m (pc + 3) ls (.long x :: rest))) : W p l e R s m args below meth c H locs cells slots Q (F0 m pc ls st) :=
  vp_callSl hr.run (fun r h => by subst h; exact kk)
theorem z_pq {a : Array Value} {x : Option Nat} (hr : va_Run p l e R s m args below meth c H locs cells slots 0 0 (F0 m pc ls st) rest (va_Sq (fun r => r = x) a) (fun _ => False)) (kk : W p l e R s m args below meth c H locs cells slots Q (F0 m (pc + 3) ls (va_rf x :: rest))) : W p l e R s m args below meth c H locs cells slots Q (F0 m pc ls st) :=
  va_csq hr.run (fun r h => by subst h; exact kk)
/-! writing calls, on a segment -/
theorem st_seg {Xs Ys w1 : va_W} {H1 : Heap} {locs1 : List Loc} (h : St E ws0 s H locs (Xs ++ (wc ++ Ys))) (hm : w1.map Prod.fst = wc.map Prod.fst) (hP1 : va_P (eD E) classes w1 H1) (hk : ∀ q : Nat, q < H.size → ¬ inW wc q → H1[q]? = H[q]?) (hS : va_S (inW ws0) s.heap H1 locs1) : St E ws0 s H1 locs1 (Xs ++ (w1 ++ Ys)) :=
  ⟨seg_join h.1 h.d hk hP1, hS, by rw [← h.2.2.1, List.map_append, List.map_append, List.map_append, List.map_append, hm], h.2.2.2⟩
theorem z_wi {S : Type} {post : Int32 → S → Prop} {wc' : S → va_W} {a : Array Value} {Xs Ys : va_W} (h : St E ws0 s H locs (Xs ++ (wc ++ Ys))) (hr : va_Run p l e R s m args below meth c H locs cells slots 0 0 (F0 m pc ls st) rest (va_Qi post (fun u t => va_P (eD E) classes (wc' u) t.heap) (inW wc) a) (inW wc)) (hm : ∀ u, (wc' u).map Prod.fst = wc.map Prod.fst)
    (kk : ∀ (r : Int32) (u : S) (H1 : Heap) (locs1 : List Loc), post r u → St E ws0 s H1 locs1 (Xs ++ (wc' u ++ Ys)) → W p l e R s m args below meth c H1 locs1 cells slots Q (F0 m (pc + 3) ls (.int r :: rest))) : W p l e R s m args below meth c H locs cells slots Q (F0 m pc ls st) :=
  va_calli hr h.2.1 (fun _ _ z => (Seg.mk' Xs Ys).inW h.2.2.1 z) (fun _ z => (Seg.mk' Xs Ys).inW h.2.2.1 z) (fun r u t H1 locs1 ht _ hp hB _ hk hS => kk r u H1 locs1 hp (st_seg h (hm u) (by rw [← ht]; exact hB) hk hS))
theorem z_wl {S : Type} {post : Int64 → S → Prop} {wc' : S → va_W} {a : Array Value} {Xs Ys : va_W} (h : St E ws0 s H locs (Xs ++ (wc ++ Ys))) (hr : va_Run p l e R s m args below meth c H locs cells slots 0 0 (F0 m pc ls st) rest (va_Ql post (fun u t => va_P (eD E) classes (wc' u) t.heap) (inW wc) a) (inW wc)) (hm : ∀ u, (wc' u).map Prod.fst = wc.map Prod.fst)
    (kk : ∀ (r : Int64) (u : S) (H1 : Heap) (locs1 : List Loc), post r u → St E ws0 s H1 locs1 (Xs ++ (wc' u ++ Ys)) → W p l e R s m args below meth c H1 locs1 cells slots Q (F0 m (pc + 3) ls (.long r :: rest))) : W p l e R s m args below meth c H locs cells slots Q (F0 m pc ls st) :=
  va_calll hr h.2.1 (fun _ _ z => (Seg.mk' Xs Ys).inW h.2.2.1 z) (fun _ z => (Seg.mk' Xs Ys).inW h.2.2.1 z) (fun r u t H1 locs1 ht _ hp hB _ hk hS => kk r u H1 locs1 hp (st_seg h (hm u) (by rw [← ht]; exact hB) hk hS))
theorem z_wv {S : Type} {post : S → Prop} {wc' : S → va_W} {a : Array Value} {Xs Ys : va_W} (h : St E ws0 s H locs (Xs ++ (wc ++ Ys))) (hr : va_Run p l e R s m args below meth c H locs cells slots 0 0 (F0 m pc ls st) rest (va_Qv post (fun u t => va_P (eD E) classes (wc' u) t.heap) (inW wc) a) (inW wc)) (hm : ∀ u, (wc' u).map Prod.fst = wc.map Prod.fst)
    (kk : ∀ (u : S) (H1 : Heap) (locs1 : List Loc), post u → St E ws0 s H1 locs1 (Xs ++ (wc' u ++ Ys)) → W p l e R s m args below meth c H1 locs1 cells slots Q (F0 m (pc + 3) ls rest)) : W p l e R s m args below meth c H locs cells slots Q (F0 m pc ls st) :=
  va_callv hr h.2.1 (fun _ _ z => (Seg.mk' Xs Ys).inW h.2.2.1 z) (fun _ z => (Seg.mk' Xs Ys).inW h.2.2.1 z) (fun u t H1 locs1 ht _ hp hB _ hk hS => kk u H1 locs1 hp (st_seg h (hm u) (by rw [← ht]; exact hB) hk hS))
/-! writing calls, on the whole world -/
theorem seg_all (w : va_W) : [] ++ (w ++ []) = w := by simp
theorem z_ai {S : Type} {post : Int32 → S → Prop} {wc' : S → va_W} {a : Array Value} (h : St E ws0 s H locs wc) (hr : va_Run p l e R s m args below meth c H locs cells slots 0 0 (F0 m pc ls st) rest (va_Qi post (fun u t => va_P (eD E) classes (wc' u) t.heap) (inW wc) a) (inW wc)) (hm : ∀ u, (wc' u).map Prod.fst = wc.map Prod.fst)
    (kk : ∀ (r : Int32) (u : S) (H1 : Heap) (locs1 : List Loc), post r u → St E ws0 s H1 locs1 (wc' u) → W p l e R s m args below meth c H1 locs1 cells slots Q (F0 m (pc + 3) ls (.int r :: rest))) : W p l e R s m args below meth c H locs cells slots Q (F0 m pc ls st) :=
  z_wi (Xs := []) (Ys := []) (by rw [seg_all]; exact h) hr hm (fun r u H1 locs1 hp h1 => kk r u H1 locs1 hp (by rw [seg_all] at h1; exact h1))
theorem z_al {S : Type} {post : Int64 → S → Prop} {wc' : S → va_W} {a : Array Value} (h : St E ws0 s H locs wc) (hr : va_Run p l e R s m args below meth c H locs cells slots 0 0 (F0 m pc ls st) rest (va_Ql post (fun u t => va_P (eD E) classes (wc' u) t.heap) (inW wc) a) (inW wc)) (hm : ∀ u, (wc' u).map Prod.fst = wc.map Prod.fst)
    (kk : ∀ (r : Int64) (u : S) (H1 : Heap) (locs1 : List Loc), post r u → St E ws0 s H1 locs1 (wc' u) → W p l e R s m args below meth c H1 locs1 cells slots Q (F0 m (pc + 3) ls (.long r :: rest))) : W p l e R s m args below meth c H locs cells slots Q (F0 m pc ls st) :=
  z_wl (Xs := []) (Ys := []) (by rw [seg_all]; exact h) hr hm (fun r u H1 locs1 hp h1 => kk r u H1 locs1 hp (by rw [seg_all] at h1; exact h1))
theorem z_av {S : Type} {post : S → Prop} {wc' : S → va_W} {a : Array Value} (h : St E ws0 s H locs wc) (hr : va_Run p l e R s m args below meth c H locs cells slots 0 0 (F0 m pc ls st) rest (va_Qv post (fun u t => va_P (eD E) classes (wc' u) t.heap) (inW wc) a) (inW wc)) (hm : ∀ u, (wc' u).map Prod.fst = wc.map Prod.fst)
    (kk : ∀ (u : S) (H1 : Heap) (locs1 : List Loc), post u → St E ws0 s H1 locs1 (wc' u) → W p l e R s m args below meth c H1 locs1 cells slots Q (F0 m (pc + 3) ls rest)) : W p l e R s m args below meth c H locs cells slots Q (F0 m pc ls st) :=
  z_wv (Xs := []) (Ys := []) (by rw [seg_all]; exact h) hr hm (fun u H1 locs1 hp h1 => kk u H1 locs1 hp (by rw [seg_all] at h1; exact h1))
end ZC
