/-! ===== numbers: Int on the machine's ints ===== -/
def iv (z : Int) : Int32 := Int32.ofInt z
def r32 (z : Int) : Prop := -2147483648 ≤ z ∧ z < 2147483648
theorem iv_bmod {z : Int} (h1 : -2147483648 ≤ z) (h2 : z < 2147483648) : z.bmod (2 ^ 32) = z := by
  rw [Int.bmod_eq_of_le (by omega) (by omega)]
theorem iv_toInt {z : Int} (h : r32 z) : (iv z).toInt = z := by
  unfold iv; rw [Int32.toInt_ofInt]; exact iv_bmod h.1 h.2
theorem iv_of (x : Int32) : iv x.toInt = x := Int32.ofInt_toInt x
theorem r32_of (x : Int32) : r32 x.toInt := by
  have h1 := Int32.le_toInt x
  have h2 := Int32.toInt_lt x
  constructor <;> omega
theorem iv_ex (x : Int32) : ∃ z : Int, r32 z ∧ x = iv z := ⟨x.toInt, r32_of x, (iv_of x).symm⟩
theorem iv_add (a b : Int) : iv a + iv b = iv (a + b) := (Int32.ofInt_add a b).symm
theorem iv_sub (a b : Int) : iv a - iv b = iv (a - b) := (Int32.ofInt_sub a b).symm
theorem iv_mul (a b : Int) : iv a * iv b = iv (a * b) := (Int32.ofInt_mul a b).symm
theorem iv_0 : iv 0 = 0 := by decide
theorem iv_1 : iv 1 = 1 := by decide
theorem iv_eq {a b : Int} (ha : r32 a) (hb : r32 b) : iv a = iv b ↔ a = b := by
  rw [← Int32.toInt_inj, iv_toInt ha, iv_toInt hb]
theorem iv_lt {a b : Int} (ha : r32 a) (hb : r32 b) : iv a < iv b ↔ a < b := by
  rw [Int32.lt_iff_toInt_lt, iv_toInt ha, iv_toInt hb]
theorem iv_le {a b : Int} (ha : r32 a) (hb : r32 b) : iv a ≤ iv b ↔ a ≤ b := by
  rw [Int32.le_iff_toInt_le, iv_toInt ha, iv_toInt hb]
theorem iv_div {a b : Int} (ha : 0 ≤ a) (ha2 : r32 a) (hb : 0 < b) (hb2 : r32 b) : iv a / iv b = iv (a / b) := by
  apply Int32.toInt_inj.mp
  have h1 : 0 ≤ a / b := Int.ediv_nonneg ha (Int.le_of_lt hb)
  have h2 : a / b ≤ a := Int.ediv_le_self b ha
  rw [lg_idiv_nonneg (by rw [iv_toInt ha2]; exact ha) (by rw [iv_toInt hb2]; exact hb), iv_toInt ha2, iv_toInt hb2, iv_toInt ⟨by omega, by have := ha2.2; omega⟩]
theorem iv_rem {a b : Int} (ha : 0 ≤ a) (ha2 : r32 a) (hb : 0 < b) (hb2 : r32 b) : iv a - iv a / iv b * iv b = iv (a % b) := by
  rw [iv_div ha ha2 hb hb2, iv_mul, iv_sub]
  congr 1
  have := Int.emod_add_mul_ediv a b
  have e : a / b * b = b * (a / b) := Int.mul_comm _ _
  omega
theorem iv_clamp {z : Int} (h : r32 z) : (iv z).toNatClampNeg = z.toNat := by
  show (iv z).toInt.toNat = z.toNat
  rw [iv_toInt h]
theorem iv_in {z : Int} {n : Nat} (h0 : 0 ≤ z) (h1 : z < n) (hn : (n : Int) < 2147483648) : vp_in (iv z) n := by
  rw [vp_in_iff, iv_toInt ⟨by omega, by omega⟩]; exact ⟨h0, h1⟩
def bz (P : Prop) [Decidable P] : Int := if P then 1 else 0
theorem bz_t {P : Prop} [Decidable P] (h : P) : bz P = 1 := if_pos h
theorem bz_f {P : Prop} [Decidable P] (h : ¬ P) : bz P = 0 := if_neg h
theorem bz_c {P : Prop} [Decidable P] : bz P = 0 ∨ bz P = 1 := by unfold bz; split <;> simp
theorem bz_eq {P Q : Prop} [Decidable P] [Decidable Q] (h : P ↔ Q) : bz P = bz Q := by unfold bz; simp only [h]
/-! ===== the world's words ===== -/
abbrev classes : List vw_C := [(RX0, TX0, 3), (RX1, TX1, 11), (RX2, TX2, 6), (RX4, TX4, 7), (RX5, TX5, 16)]
abbrev EV : Type := va_G × (ClassId × ClassId × ClassId) × (Nat × Nat × Nat) × (Nat → Nat) × (Nat → Nat)
abbrev eD (E : EV) : va_G := E.1
abbrev eI (E : EV) : ClassId := E.2.1.1
abbrev eJ (E : EV) : ClassId := E.2.1.2.1
abbrev eS (E : EV) : ClassId := E.2.1.2.2
abbrev eZ (E : EV) : Nat := E.2.2.1.1
abbrev eA (E : EV) : Nat := E.2.2.1.2.1
abbrev eN (E : EV) : Nat := E.2.2.1.2.2
abbrev eK (E : EV) : Nat → Nat := E.2.2.2.1
abbrev eV (E : EV) : Nat → Nat := E.2.2.2.2
abbrev tys (E : EV) : List (ClassId × FieldType) := [(eI E, .int), (eJ E, .long), (eS E, .object RX0)]
def strs : List (Nat × String) := [(38, "sun"), (47, "goes"), (111, "guest"), (101, "colonel"), (103, "invalid"), (105, "bore"), (107, "lover"), (109, "fake"), (65, "brown"), (75, "on")]
def strL : List Nat := strs.map (fun q => q.2.length)
def strB : List (List Int32) := strs.map (fun q => q.2.toList.map (fun ch => nI ch.toNat))
/-- what the vm's tables say, all along -/
def KK (E : EV) (U : State) : Prop := va_K (eD E) classes (tys E) U ∧ va_Nw (.methodLinkNest RX1 70 yX4_within RX4) U ∧ va_Nw (.methodLinkNest RX3 9 yX4_isKind RX4) U ∧ ∀ (i : Nat) (q : Nat × String), strs[i]? = some q → vk_R RX2 q.1 q.2 (eK E i) U
def aboveF : Nat → Value := fun j => .int (([-1, 0, 0, 0, 2, 1] : List Int32).getD j 0)
def namesL : List Int32 := [103, 117, 101, 115, 116, 0, 0, 99, 111, 108, 111, 110, 101, 108, 105, 110, 118, 97, 108, 105, 100, 98, 111, 114, 101, 0, 0, 0, 108, 111, 118, 101, 114, 0, 0, 102, 97, 107, 101, 0, 0, 0, 98, 114, 111, 119, 110, 0, 0, 111, 110, 0, 0, 0, 0, 0, 115, 117, 110, 0, 0, 0, 0, 103, 111, 101, 115, 0, 0, 0]
def namesF : Nat → Value := fun j => .int (namesL.getD j 0)
/-- what lies in the heap below the law's own cells, all along -/
def HH (E : EV) (U : State) (H : Heap) : Prop :=
  va_Z RX3 "ABOVE" "[I" (.ref (eA E)) (fun q => eZ E ≤ q) U H ∧ va_T .int (eA E) 6 aboveF (fun q => eZ E ≤ q) U H ∧
  va_Z RX5 "NAMES" "[I" (.ref (eN E)) (fun q => eZ E ≤ q) U H ∧ va_T .int (eN E) 70 namesF (fun q => eZ E ≤ q) U H ∧
  va_Z RJ0 "COMPACT_STRINGS" "Z" (.int 1) (fun q => eZ E ≤ q) U H ∧ va_Zq RJ3 "SIOOBE_FORMATTER" "Ljava/util/function/BiFunction;" (fun q => eZ E ≤ q) U H ∧
  vk_S 10 strL strB (eK E) (eV E) (fun q => eZ E ≤ q) U H
theorem KK.warm {E : EV} {s U : State} (hW : s.WarmedH U.vm) (h : KK E s) : KK E U := ⟨va_K.moved hW.alike h.1, va_Nw.warmM hW h.2.1, va_Nw.warmM hW h.2.2.1, fun i q hq => vk_R.warm hW (h.2.2.2 i q hq)⟩
theorem KK.same {E : EV} {s U : State} (hv : U.vm = s.vm) (h : KK E s) : KK E U := ⟨va_K.moved (by rw [hv]; exact Vm.Alike.refl _) h.1, va_Nw.same rfl hv.symm h.2.1, va_Nw.same rfl hv.symm h.2.2.1, fun i q hq => vk_R.same hv (h.2.2.2 i q hq)⟩
theorem HH.moved {E : EV} {u U : State} {H : Heap} (hvm : u.vm.Alike U.vm) (h : HH E u H) : HH E U H :=
  ⟨h.1.moved hvm, h.2.1.moved hvm, h.2.2.1.moved hvm, h.2.2.2.1.moved hvm, h.2.2.2.2.1.moved hvm, h.2.2.2.2.2.1.moved hvm, h.2.2.2.2.2.2.moved hvm⟩
theorem HH.kept {E : EV} {U : State} {H H1 : Heap} (h : HH E U H) (hq : ∀ a : Nat, a < H.size → ¬ eZ E ≤ a → H1[a]? = H[a]?) : HH E U H1 :=
  ⟨h.1.kept hq, h.2.1.kept hq, h.2.2.1.kept hq, h.2.2.2.1.kept hq, h.2.2.2.2.1.kept hq, h.2.2.2.2.2.1.kept hq, h.2.2.2.2.2.2.kept hq⟩
def inW (ws : va_W) (q : Nat) : Prop := ∃ (k : Nat) (e : va_E), ws[k]? = some (q, e)
theorem inW_map {ws : va_W} {q : Nat} : inW ws q ↔ q ∈ ws.map Prod.fst := by
  constructor
  · rintro ⟨k, e, h⟩
    exact List.mem_map.mpr ⟨(q, e), List.mem_of_getElem? h, rfl⟩
  · intro h
    obtain ⟨⟨a, e⟩, h1, h2⟩ := List.mem_map.mp h
    obtain ⟨k, hk⟩ := List.getElem?_of_mem h1
    exact ⟨k, e, by rw [hk]; cases h2; rfl⟩
theorem inW_same {ws ws' : va_W} (h : ws'.map Prod.fst = ws.map Prod.fst) {q : Nat} : inW ws' q ↔ inW ws q := by
  rw [inW_map, inW_map, h]
theorem map_at {ws ws' : va_W} (h : ws'.map Prod.fst = ws.map Prod.fst) {k : Nat} {q : Nat × va_E} (hk : ws'[k]? = some q) : ∃ e, ws[k]? = some (q.1, e) := by
  have h1 : (ws'.map Prod.fst)[k]? = some q.1 := by rw [List.getElem?_map, hk]; rfl
  rw [h, List.getElem?_map] at h1
  cases hw : ws[k]? with
  | none => rw [hw] at h1; cases h1
  | some x =>
    rw [hw] at h1
    obtain ⟨a, e⟩ := x
    have h2 : a = q.1 := Option.some.inj h1
    subst h2
    exact ⟨e, rfl⟩
theorem vaD_same {A : Nat → Prop} {ws ws' : va_W} (h : ws'.map Prod.fst = ws.map Prod.fst) (hD : va_D A ws) : va_D A ws' := by
  refine ⟨fun i j p q hi hj hpq => ?_, fun k q hk => ?_⟩
  · obtain ⟨e1, h1⟩ := map_at h hi
    obtain ⟨e2, h2⟩ := map_at h hj
    exact hD.1 i j _ _ h1 h2 hpq
  · obtain ⟨e1, h1⟩ := map_at h hk
    exact hD.2 k (q.1, e1) h1
/-- before a call -/
def Pre (E : EV) (ws : va_W) (av : List Value) : Array Value → State → Prop := fun v U => v = av.toArray ∧ va_P (eD E) classes ws U.heap ∧ va_D (fun q => eZ E ≤ q) ws ∧ KK E U ∧ HH E U U.heap
theorem Pre.blind (E : EV) (ws : va_W) (av : List Value) : FrameBlind (Pre E ws av) := fun _ U _ _ h => ⟨h.1, h.2.1, h.2.2.1, KK.same rfl h.2.2.2.1, HH.moved (u := U) (Vm.Alike.refl _) h.2.2.2.2⟩
/-- where a walk stands -/
def St (E : EV) (ws0 : va_W) (s : State) (H : Heap) (locs : List Loc) (ws : va_W) : Prop :=
  va_P (eD E) classes ws H ∧ va_S (inW ws0) s.heap H locs ∧ ws.map Prod.fst = ws0.map Prod.fst ∧ va_D (fun q => eZ E ≤ q) ws0 ∧ KK E s ∧ HH E s s.heap
theorem St.hh {E : EV} {ws0 : va_W} {s : State} {H : Heap} {locs : List Loc} {ws : va_W} (h : St E ws0 s H locs ws) : HH E s H :=
  h.2.2.2.2.2.kept (fun a h1 h2 => h.2.1.2.1 a h1 (fun ⟨k, e, hk⟩ => h2 (h.2.2.2.1.2 k _ hk)))
theorem St.d {E : EV} {ws0 : va_W} {s : State} {H : Heap} {locs : List Loc} {ws : va_W} (h : St E ws0 s H locs ws) : va_D (fun q => eZ E ≤ q) ws := vaD_same h.2.2.1 h.2.2.2.1
theorem St.dw {E : EV} {ws0 : va_W} {s : State} {H : Heap} {locs : List Loc} {ws : va_W} (h : St E ws0 s H locs ws) : va_D (inW ws0) ws := by
  refine ⟨h.d.1, fun k q hk => ?_⟩
  obtain ⟨e, he⟩ := map_at h.2.2.1 hk
  exact ⟨k, e, he⟩
/-- the method that runs -/
def Cx (p : Program) (s : State) (m : MethodId) (meth : Method) (c : Code) (args : Array Value) (own : String) (cc : ByteArray) (nL : Nat) (rt : Option FieldType) : Prop :=
  p.tables.exec = Jvm.exec ∧ c.code = cc ∧ c.maxLocals = nL ∧ s.vm.findClass own = some m.cls ∧ (∀ w ∈ tb, w.before args s = true) ∧ meth.sig.returnType = rt ∧ meth.locks = false
def MInf (y : MethodName) (C : String) (bytes : ByteArray) (maxL : Nat) (ret : Option FieldType) (n : Nat) : Prop := Cond.code y bytes maxL ret ∈ tb ∧ Cond.instanceMethod y ∈ tb ∧ Cond.selects C y y ∈ tb ∧ Cond.initialized C ∈ tb ∧ (y.cls = C ∧ y.cls ≠ "java/lang/invoke/MethodHandle" ∧ y.cls ≠ "java/lang/invoke/VarHandle" ∧ (parseMethodDescriptor y.desc).map (fun d => d.parameters.length) = some n)
def MInfS (y : MethodName) (bytes : ByteArray) (maxL : Nat) (ret : Option FieldType) (n : Nat) : Prop := Cond.code y bytes maxL ret ∈ tb ∧ Cond.static y ∈ tb ∧ Cond.initialized y.cls ∈ tb ∧ (y.cls ≠ "java/lang/invoke/MethodHandle" ∧ y.cls ≠ "java/lang/invoke/VarHandle" ∧ (parseMethodDescriptor y.desc).map (fun d => d.parameters.length) = some n)
/-! ===== contracts ===== -/
abbrev wz (y : MethodName) (bytes : ByteArray) (maxL : Nat) (ret : Option FieldType) : List Cond := Cond.code y bytes maxL ret :: tb
abbrev rmk (f n : Nat) : Room := { frames := f, cells := 0, slots := 0, locals := n }
/-- reads alone: an int -/
def MP (E : EV) (l : Launch) (y : MethodName) (bytes : ByteArray) (maxL : Nat) (ret : Option FieldType) (rm : Room) (ws : va_W) (av : List Value) (z : Int) : Prop := Met l y (wz y bytes maxL ret) rm (Pre E ws av) (vp_Si (fun r => r = iv z)) 0 0 (fun _ => False)
/-- reads alone: a long -/
def MPL (E : EV) (l : Launch) (y : MethodName) (bytes : ByteArray) (maxL : Nat) (ret : Option FieldType) (rm : Room) (ws : va_W) (av : List Value) (x : Int64) : Prop := Met l y (wz y bytes maxL ret) rm (Pre E ws av) (vp_Sl (fun r => r = x)) 0 0 (fun _ => False)
/-- reads alone: a reference or null -/
def MPQ (E : EV) (l : Launch) (y : MethodName) (bytes : ByteArray) (maxL : Nat) (ret : Option FieldType) (rm : Room) (ws : va_W) (av : List Value) (x : Option Nat) : Prop := Met l y (wz y bytes maxL ret) rm (Pre E ws av) (va_Sq (fun r => r = x)) 0 0 (fun _ => False)
/-- writes: an int, nothing, a long -/
def MI {S : Type} (E : EV) (l : Launch) (y : MethodName) (bytes : ByteArray) (maxL : Nat) (ret : Option FieldType) (rm : Room) (ws : va_W) (av : List Value) (post : Int32 → S → Prop) (ws' : S → va_W) : Prop := Met l y (wz y bytes maxL ret) rm (Pre E ws av) (va_Qi post (fun u t => va_P (eD E) classes (ws' u) t.heap) (inW ws)) 0 0 (inW ws)
def MV {S : Type} (E : EV) (l : Launch) (y : MethodName) (bytes : ByteArray) (maxL : Nat) (rm : Room) (ws : va_W) (av : List Value) (post : S → Prop) (ws' : S → va_W) : Prop := Met l y (wz y bytes maxL none) rm (Pre E ws av) (va_Qv post (fun u t => va_P (eD E) classes (ws' u) t.heap) (inW ws)) 0 0 (inW ws)
def MIL {S : Type} (E : EV) (l : Launch) (y : MethodName) (bytes : ByteArray) (maxL : Nat) (ret : Option FieldType) (rm : Room) (ws : va_W) (av : List Value) (post : Int64 → S → Prop) (ws' : S → va_W) : Prop := Met l y (wz y bytes maxL ret) rm (Pre E ws av) (va_Ql post (fun u t => va_P (eD E) classes (ws' u) t.heap) (inW ws)) 0 0 (inW ws)
theorem Met.go {l : Launch} {E : EV} {y : MethodName} {bytes : ByteArray} {maxL : Nat} {ret : Option FieldType} {rm : Room} {ws : va_W} {av : List Value} {Qc : Array Value → State → Outcome → State → Prop} {free : Addr → Prop} (hy : plainName y.cls = true) (hav : (lg_sl av).length ≤ maxL)
    (body : ∀ (p : Program) (e : Env) (s : State) (m : MethodId) (below : List Frame) (meth : Method) (c : Code) (ls : Array Slot), Cx p s m meth c av.toArray y.cls bytes maxL ret → St E ws s s.heap [] ws → lv_has ls maxL (lv_args 0 av) → W p l e rm s m av.toArray below meth c s.heap [] 0 0 (MQ below Qc av.toArray s 0 0 free) (F0 m 0 ls [])) :
    Met l y (wz y bytes maxL ret) rm (Pre E ws av) Qc 0 0 free := by
  refine Met.ofW (cc := bytes) (maxL := maxL) (ret := ret) hy rfl ?_
  intro p e s m args below meth c s₁ B hml hv
  obtain ⟨rfl, hP, hD, hK, hH⟩ := hv
  have hts := atoms_spec (ws := wz y bytes maxL ret) B.pre
  rw [lg_entry_eq]
  exact body p e s m below meth c _ ⟨B.exec, B.bytes, hml, findClass_of_methodNamed B.named, fun w hw => hts w (List.mem_cons_of_mem _ hw), B.returns, B.notSynchronized⟩ ⟨hP, va_S.rf, rfl, hD, hK, hH⟩ (lv_entry av hav)
section ZL
variable {p : Program} {l : Launch} {e : Env} {R : Room} {s : State} {m : MethodId} {args : Array Value} {below : List Frame} {meth : Method} {c : Code} {H : Heap} {locs : List Loc} {cells slots : Nat} {Q : State → Prop}
variable {own : String} {cc : ByteArray} {nL : Nat} {rt : Option FieldType} {pc : Nat} {ls : Array Slot} {rest : List Value} {E : EV} {ws0 ws : va_W}
/-! returns -/
theorem z_ret (X : Cx p s m meth c args own cc nL (some .int)) {z z' : Int} (h : z' = z) (d : decode cc pc = .ok (.ireturn, 1)) : W p l e R s m args below meth c s.heap [] cells slots (MQ below (vp_Si (fun r => r = iv z)) args s cells slots (fun _ => False)) (F0 m pc ls [.int (iv z')]) :=
  W.iret X.1 X.2.1 X.2.2.2.2.2.1 (fun t ht _ => ⟨_, rfl, by rw [h], ht⟩) (fun q hq => by cases hq) d X.2.2.2.2.2.2
theorem nar_bz {P : Prop} [Decidable P] : narrow .boolean (.int (iv (bz P))) = .int (iv (bz P)) := by
  rcases (bz_c (P := P)) with h | h <;> rw [h] <;> decide
theorem z_retb (X : Cx p s m meth c args own cc nL (some .boolean)) {z z' : Int} (hb : z' = 0 ∨ z' = 1) (h : z' = z) (d : decode cc pc = .ok (.ireturn, 1)) : W p l e R s m args below meth c s.heap [] cells slots (MQ below (vp_Si (fun r => r = iv z)) args s cells slots (fun _ => False)) (F0 m pc ls [.int (iv z')]) :=
  W.zret X.1 X.2.1 X.2.2.2.2.2.1 (by rcases hb with q | q <;> rw [q] <;> decide) (fun t ht _ => ⟨_, rfl, by rw [h], ht⟩) (fun q hq => by cases hq) d X.2.2.2.2.2.2
theorem z_retI {S : Type} {post : Int32 → S → Prop} {ws' : S → va_W} (X : Cx p s m meth c args own cc nL (some .int)) (h : St E ws0 s H locs ws) {v : Int32} (u : S) (hp : post v u) (hw : ws' u = ws) (d : decode cc pc = .ok (.ireturn, 1)) : W p l e R s m args below meth c H locs cells slots (MQ below (va_Qi post (fun u t => va_P (eD E) classes (ws' u) t.heap) (inW ws0)) args s cells slots (inW ws0)) (F0 m pc ls [.int v]) :=
  W.iret X.1 X.2.1 X.2.2.2.2.2.1 (fun t ht _ => ⟨⟨_, u, rfl, hp, by show va_P _ _ (ws' u) t.heap; rw [ht, hw]; exact h.1⟩, h.2.1.F ht⟩) h.2.1.2.2 d X.2.2.2.2.2.2
theorem z_retZ {S : Type} {post : Int32 → S → Prop} {ws' : S → va_W} (X : Cx p s m meth c args own cc nL (some .boolean)) (h : St E ws0 s H locs ws) {z' : Int} (hb : z' = 0 ∨ z' = 1) (u : S) (hp : post (iv z') u) (hw : ws' u = ws) (d : decode cc pc = .ok (.ireturn, 1)) : W p l e R s m args below meth c H locs cells slots (MQ below (va_Qi post (fun u t => va_P (eD E) classes (ws' u) t.heap) (inW ws0)) args s cells slots (inW ws0)) (F0 m pc ls [.int (iv z')]) :=
  W.zret X.1 X.2.1 X.2.2.2.2.2.1 (by rcases hb with q | q <;> rw [q] <;> decide) (fun t ht _ => ⟨⟨_, u, rfl, hp, by show va_P _ _ (ws' u) t.heap; rw [ht, hw]; exact h.1⟩, h.2.1.F ht⟩) h.2.1.2.2 d X.2.2.2.2.2.2
theorem z_retV {S : Type} {post : S → Prop} {ws' : S → va_W} (X : Cx p s m meth c args own cc nL none) (h : St E ws0 s H locs ws) (u : S) (hp : post u) (hw : ws' u = ws) (d : decode cc pc = .ok (.return_, 1)) : W p l e R s m args below meth c H locs cells slots (MQ below (va_Qv post (fun u t => va_P (eD E) classes (ws' u) t.heap) (inW ws0)) args s cells slots (inW ws0)) (F0 m pc ls []) :=
  W.vret X.1 X.2.1 X.2.2.2.2.2.1 (fun t ht _ => ⟨⟨u, rfl, hp, by show va_P _ _ (ws' u) t.heap; rw [ht, hw]; exact h.1⟩, h.2.1.F ht⟩) h.2.1.2.2 d X.2.2.2.2.2.2
/-! constants and arithmetic -/
theorem z_iconst (X : Cx p s m meth c args own cc nL rt) {n : Int} (d : decode cc pc = .ok (.iconst n, 1)) (k : W p l e R s m args below meth c H locs cells slots Q (F0 m (pc + 1) ls (.int (iv n) :: rest))) : W p l e R s m args below meth c H locs cells slots Q (F0 m pc ls rest) := lv_iconst X.1 X.2.1 d rfl k
theorem z_bipush (X : Cx p s m meth c args own cc nL rt) {n : Int} (hn : (Int8.ofInt n).toInt32 = iv n) (d : decode cc pc = .ok (.bipush n, 2)) (k : W p l e R s m args below meth c H locs cells slots Q (F0 m (pc + 2) ls (.int (iv n) :: rest))) : W p l e R s m args below meth c H locs cells slots Q (F0 m pc ls rest) := lv_bipush X.1 X.2.1 d hn k
theorem z_sipush (X : Cx p s m meth c args own cc nL rt) {n : Int} (hn : (Int16.ofInt n).toInt32 = iv n) (d : decode cc pc = .ok (.sipush n, 3)) (k : W p l e R s m args below meth c H locs cells slots Q (F0 m (pc + 3) ls (.int (iv n) :: rest))) : W p l e R s m args below meth c H locs cells slots Q (F0 m pc ls rest) := lv_sipush X.1 X.2.1 d hn k
theorem z_ldc (X : Cx p s m meth c args own cc nL rt) {z : Int} {index : Nat} {v : Int32} (hc : Cond.constant own index v ∈ tb) (hv : v = iv z) (d : decode cc pc = .ok (.ldc index, 2)) (k : W p l e R s m args below meth c H locs cells slots Q (F0 m (pc + 2) ls (.int (iv z) :: rest))) : W p l e R s m args below meth c H locs cells slots Q (F0 m pc ls rest) := lv_ldc X.1 X.2.1 X.2.2.2.1 (X.2.2.2.2.1 _ hc) d (hv ▸ k)
theorem z_iadd (X : Cx p s m meth c args own cc nL rt) {a b : Int} (d : decode cc pc = .ok (.iadd, 1)) (k : W p l e R s m args below meth c H locs cells slots Q (F0 m (pc + 1) ls (.int (iv (a + b)) :: rest))) : W p l e R s m args below meth c H locs cells slots Q (F0 m pc ls (.int (iv b) :: .int (iv a) :: rest)) := lv_iadd X.1 X.2.1 d ((iv_add a b).symm ▸ k)
theorem z_isub (X : Cx p s m meth c args own cc nL rt) {a b : Int} (d : decode cc pc = .ok (.isub, 1)) (k : W p l e R s m args below meth c H locs cells slots Q (F0 m (pc + 1) ls (.int (iv (a - b)) :: rest))) : W p l e R s m args below meth c H locs cells slots Q (F0 m pc ls (.int (iv b) :: .int (iv a) :: rest)) := lv_isub X.1 X.2.1 d ((iv_sub a b).symm ▸ k)
theorem z_imul (X : Cx p s m meth c args own cc nL rt) {a b : Int} (d : decode cc pc = .ok (.imul, 1)) (k : W p l e R s m args below meth c H locs cells slots Q (F0 m (pc + 1) ls (.int (iv (a * b)) :: rest))) : W p l e R s m args below meth c H locs cells slots Q (F0 m pc ls (.int (iv b) :: .int (iv a) :: rest)) := lv_imul X.1 X.2.1 d ((iv_mul a b).symm ▸ k)
theorem z_ne0 {b : Int} (hb : 0 < b) (hb2 : b < 2147483648) : ¬ iv b = 0 := by
  rw [← iv_0, iv_eq ⟨by omega, by omega⟩ ⟨by omega, by omega⟩]; omega
theorem z_idiv (X : Cx p s m meth c args own cc nL rt) {a b : Int} (ha : 0 ≤ a) (ha2 : a < 2147483648) (hb : 0 < b) (hb2 : b < 2147483648) (d : decode cc pc = .ok (.idiv, 1)) (k : W p l e R s m args below meth c H locs cells slots Q (F0 m (pc + 1) ls (.int (iv (a / b)) :: rest))) : W p l e R s m args below meth c H locs cells slots Q (F0 m pc ls (.int (iv b) :: .int (iv a) :: rest)) := lv_idiv X.1 X.2.1 d (z_ne0 hb hb2) ((iv_div ha ⟨by omega, ha2⟩ hb ⟨by omega, hb2⟩).symm ▸ k)
theorem z_irem (X : Cx p s m meth c args own cc nL rt) {a b : Int} (ha : 0 ≤ a) (ha2 : a < 2147483648) (hb : 0 < b) (hb2 : b < 2147483648) (d : decode cc pc = .ok (.irem, 1)) (k : W p l e R s m args below meth c H locs cells slots Q (F0 m (pc + 1) ls (.int (iv (a % b)) :: rest))) : W p l e R s m args below meth c H locs cells slots Q (F0 m pc ls (.int (iv b) :: .int (iv a) :: rest)) := lv_irem X.1 X.2.1 d (z_ne0 hb hb2) ((iv_rem ha ⟨by omega, ha2⟩ hb ⟨by omega, hb2⟩).symm ▸ k)
theorem z_iinc (X : Cx p s m meth c args own cc nL rt) {i k : Nat} {n a : Int} {lv lv' : List (Nat × Value)} (d : decode cc pc = .ok (.iinc i n, 3)) (h : lv_has ls nL lv) (hk : lv[k]? = some (i, .int (iv a))) (hn : i < nL) (hl : (i, Value.int (iv (a + n))) :: lv.filter (fun q => !(q.1 == i) && !(q.1 + 1 == i && q.2.category == 2)) = lv')
    (kk : ∀ ls' : Array Slot, lv_has ls' nL lv' → W p l e R s m args below meth c H locs cells slots Q (F0 m (pc + 3) ls' rest)) : W p l e R s m args below meth c H locs cells slots Q (F0 m pc ls rest) := lv_iinc (v := iv (a + n)) X.1 X.2.1 d h hk (iv_add a n) hn hl kk
/-! branches -/
theorem z_if_eq (X : Cx p s m meth c args own cc nL rt) {a : Int} {off : Int} {tgt : Nat} (ra : r32 a) (d : decode cc pc = .ok (.ifCond .eq off, 3)) (ht : (pc : Int) + off = (tgt : Int)) (kt : a = 0 → W p l e R s m args below meth c H locs cells slots Q (F0 m tgt ls rest)) (kf : a ≠ 0 → W p l e R s m args below meth c H locs cells slots Q (F0 m (pc + 3) ls rest)) : W p l e R s m args below meth c H locs cells slots Q (F0 m pc ls (.int (iv a) :: rest)) :=
  lv_if_eq X.1 X.2.1 d ht (fun h => kt ((iv_eq ra (by constructor <;> decide)).mp (h.trans iv_0.symm))) (fun h => kf (fun q => h (by rw [q]; exact iv_0)))
theorem z_if_ne (X : Cx p s m meth c args own cc nL rt) {a : Int} {off : Int} {tgt : Nat} (ra : r32 a) (d : decode cc pc = .ok (.ifCond .ne off, 3)) (ht : (pc : Int) + off = (tgt : Int)) (kt : a ≠ 0 → W p l e R s m args below meth c H locs cells slots Q (F0 m tgt ls rest)) (kf : a = 0 → W p l e R s m args below meth c H locs cells slots Q (F0 m (pc + 3) ls rest)) : W p l e R s m args below meth c H locs cells slots Q (F0 m pc ls (.int (iv a) :: rest)) :=
  lv_if_ne X.1 X.2.1 d ht (fun h => kt (fun q => h (by rw [q]; exact iv_0))) (fun h => kf ((iv_eq ra (by constructor <;> decide)).mp (h.trans iv_0.symm)))
theorem z_ifb_eq (X : Cx p s m meth c args own cc nL rt) {P : Prop} [Decidable P] {off : Int} {tgt : Nat} (d : decode cc pc = .ok (.ifCond .eq off, 3)) (ht : (pc : Int) + off = (tgt : Int)) (kt : ¬ P → W p l e R s m args below meth c H locs cells slots Q (F0 m tgt ls rest)) (kf : P → W p l e R s m args below meth c H locs cells slots Q (F0 m (pc + 3) ls rest)) : W p l e R s m args below meth c H locs cells slots Q (F0 m pc ls (.int (iv (bz P)) :: rest)) :=
  z_if_eq X (by rcases (bz_c (P := P)) with h | h <;> rw [h] <;> constructor <;> decide) d ht (fun h => kt (fun q => by rw [bz_t q] at h; cases h)) (fun h => kf (Classical.byContradiction fun q => h (bz_f q)))
theorem z_ifb_ne (X : Cx p s m meth c args own cc nL rt) {P : Prop} [Decidable P] {off : Int} {tgt : Nat} (d : decode cc pc = .ok (.ifCond .ne off, 3)) (ht : (pc : Int) + off = (tgt : Int)) (kt : P → W p l e R s m args below meth c H locs cells slots Q (F0 m tgt ls rest)) (kf : ¬ P → W p l e R s m args below meth c H locs cells slots Q (F0 m (pc + 3) ls rest)) : W p l e R s m args below meth c H locs cells slots Q (F0 m pc ls (.int (iv (bz P)) :: rest)) :=
  z_if_ne X (by rcases (bz_c (P := P)) with h | h <;> rw [h] <;> constructor <;> decide) d ht (fun h => kt (Classical.byContradiction fun q => h (bz_f q))) (fun h => kf (fun q => by rw [bz_t q] at h; cases h))
theorem r32_0 : r32 0 := by constructor <;> decide
theorem z_if_lt (X : Cx p s m meth c args own cc nL rt) {a : Int} {off : Int} {tgt : Nat} (ra : r32 a) (d : decode cc pc = .ok (.ifCond .lt off, 3)) (ht : (pc : Int) + off = (tgt : Int)) (kt : a < 0 → W p l e R s m args below meth c H locs cells slots Q (F0 m tgt ls rest)) (kf : 0 ≤ a → W p l e R s m args below meth c H locs cells slots Q (F0 m (pc + 3) ls rest)) : W p l e R s m args below meth c H locs cells slots Q (F0 m pc ls (.int (iv a) :: rest)) :=
  lv_if_lt X.1 X.2.1 d ht (fun h => kt (by rw [← iv_0, iv_lt ra r32_0] at h; exact h)) (fun h => kf (by rw [← iv_0, iv_lt ra r32_0] at h; omega))
theorem z_if_ge (X : Cx p s m meth c args own cc nL rt) {a : Int} {off : Int} {tgt : Nat} (ra : r32 a) (d : decode cc pc = .ok (.ifCond .ge off, 3)) (ht : (pc : Int) + off = (tgt : Int)) (kt : 0 ≤ a → W p l e R s m args below meth c H locs cells slots Q (F0 m tgt ls rest)) (kf : a < 0 → W p l e R s m args below meth c H locs cells slots Q (F0 m (pc + 3) ls rest)) : W p l e R s m args below meth c H locs cells slots Q (F0 m pc ls (.int (iv a) :: rest)) :=
  lv_if_ge X.1 X.2.1 d ht (fun h => kt (by rw [← iv_0, iv_le r32_0 ra] at h; exact h)) (fun h => kf (by rw [← iv_0, iv_le r32_0 ra] at h; omega))
theorem z_if_gt (X : Cx p s m meth c args own cc nL rt) {a : Int} {off : Int} {tgt : Nat} (ra : r32 a) (d : decode cc pc = .ok (.ifCond .gt off, 3)) (ht : (pc : Int) + off = (tgt : Int)) (kt : 0 < a → W p l e R s m args below meth c H locs cells slots Q (F0 m tgt ls rest)) (kf : a ≤ 0 → W p l e R s m args below meth c H locs cells slots Q (F0 m (pc + 3) ls rest)) : W p l e R s m args below meth c H locs cells slots Q (F0 m pc ls (.int (iv a) :: rest)) :=
  lv_if_gt X.1 X.2.1 d ht (fun h => kt (by rw [← iv_0, iv_lt r32_0 ra] at h; exact h)) (fun h => kf (by rw [← iv_0, iv_lt r32_0 ra] at h; omega))
theorem z_if_le (X : Cx p s m meth c args own cc nL rt) {a : Int} {off : Int} {tgt : Nat} (ra : r32 a) (d : decode cc pc = .ok (.ifCond .le off, 3)) (ht : (pc : Int) + off = (tgt : Int)) (kt : a ≤ 0 → W p l e R s m args below meth c H locs cells slots Q (F0 m tgt ls rest)) (kf : 0 < a → W p l e R s m args below meth c H locs cells slots Q (F0 m (pc + 3) ls rest)) : W p l e R s m args below meth c H locs cells slots Q (F0 m pc ls (.int (iv a) :: rest)) :=
  lv_if_le X.1 X.2.1 d ht (fun h => kt (by rw [← iv_0, iv_le ra r32_0] at h; exact h)) (fun h => kf (by rw [← iv_0, iv_le ra r32_0] at h; omega))
theorem z_ic_eq (X : Cx p s m meth c args own cc nL rt) {a b : Int} {off : Int} {tgt : Nat} (ra : r32 a) (rb : r32 b) (d : decode cc pc = .ok (.if_icmp .eq off, 3)) (ht : (pc : Int) + off = (tgt : Int)) (kt : a = b → W p l e R s m args below meth c H locs cells slots Q (F0 m tgt ls rest)) (kf : a ≠ b → W p l e R s m args below meth c H locs cells slots Q (F0 m (pc + 3) ls rest)) : W p l e R s m args below meth c H locs cells slots Q (F0 m pc ls (.int (iv b) :: .int (iv a) :: rest)) :=
  lv_icmp_eq X.1 X.2.1 d ht (fun h => kt ((iv_eq ra rb).mp h)) (fun h => kf (fun q => h (by rw [q])))
theorem z_ic_ne (X : Cx p s m meth c args own cc nL rt) {a b : Int} {off : Int} {tgt : Nat} (ra : r32 a) (rb : r32 b) (d : decode cc pc = .ok (.if_icmp .ne off, 3)) (ht : (pc : Int) + off = (tgt : Int)) (kt : a ≠ b → W p l e R s m args below meth c H locs cells slots Q (F0 m tgt ls rest)) (kf : a = b → W p l e R s m args below meth c H locs cells slots Q (F0 m (pc + 3) ls rest)) : W p l e R s m args below meth c H locs cells slots Q (F0 m pc ls (.int (iv b) :: .int (iv a) :: rest)) :=
  lv_icmp_ne X.1 X.2.1 d ht (fun h => kt (fun q => h (by rw [q]))) (fun h => kf ((iv_eq ra rb).mp h))
theorem z_ic_lt (X : Cx p s m meth c args own cc nL rt) {a b : Int} {off : Int} {tgt : Nat} (ra : r32 a) (rb : r32 b) (d : decode cc pc = .ok (.if_icmp .lt off, 3)) (ht : (pc : Int) + off = (tgt : Int)) (kt : a < b → W p l e R s m args below meth c H locs cells slots Q (F0 m tgt ls rest)) (kf : b ≤ a → W p l e R s m args below meth c H locs cells slots Q (F0 m (pc + 3) ls rest)) : W p l e R s m args below meth c H locs cells slots Q (F0 m pc ls (.int (iv b) :: .int (iv a) :: rest)) :=
  lv_icmp_lt X.1 X.2.1 d ht (fun h => kt ((iv_lt ra rb).mp h)) (fun h => kf (by rw [iv_lt ra rb] at h; omega))
theorem z_ic_ge (X : Cx p s m meth c args own cc nL rt) {a b : Int} {off : Int} {tgt : Nat} (ra : r32 a) (rb : r32 b) (d : decode cc pc = .ok (.if_icmp .ge off, 3)) (ht : (pc : Int) + off = (tgt : Int)) (kt : b ≤ a → W p l e R s m args below meth c H locs cells slots Q (F0 m tgt ls rest)) (kf : a < b → W p l e R s m args below meth c H locs cells slots Q (F0 m (pc + 3) ls rest)) : W p l e R s m args below meth c H locs cells slots Q (F0 m pc ls (.int (iv b) :: .int (iv a) :: rest)) :=
  lv_icmp_ge X.1 X.2.1 d ht (fun h => kt ((iv_le rb ra).mp h)) (fun h => kf (by rw [iv_le rb ra] at h; omega))
theorem z_ic_gt (X : Cx p s m meth c args own cc nL rt) {a b : Int} {off : Int} {tgt : Nat} (ra : r32 a) (rb : r32 b) (d : decode cc pc = .ok (.if_icmp .gt off, 3)) (ht : (pc : Int) + off = (tgt : Int)) (kt : b < a → W p l e R s m args below meth c H locs cells slots Q (F0 m tgt ls rest)) (kf : a ≤ b → W p l e R s m args below meth c H locs cells slots Q (F0 m (pc + 3) ls rest)) : W p l e R s m args below meth c H locs cells slots Q (F0 m pc ls (.int (iv b) :: .int (iv a) :: rest)) :=
  lv_icmp_gt X.1 X.2.1 d ht (fun h => kt ((iv_lt rb ra).mp h)) (fun h => kf (by rw [iv_lt rb ra] at h; omega))
theorem z_ic_le (X : Cx p s m meth c args own cc nL rt) {a b : Int} {off : Int} {tgt : Nat} (ra : r32 a) (rb : r32 b) (d : decode cc pc = .ok (.if_icmp .le off, 3)) (ht : (pc : Int) + off = (tgt : Int)) (kt : a ≤ b → W p l e R s m args below meth c H locs cells slots Q (F0 m tgt ls rest)) (kf : b < a → W p l e R s m args below meth c H locs cells slots Q (F0 m (pc + 3) ls rest)) : W p l e R s m args below meth c H locs cells slots Q (F0 m pc ls (.int (iv b) :: .int (iv a) :: rest)) :=
  lv_icmp_le X.1 X.2.1 d ht (fun h => kt ((iv_le ra rb).mp h)) (fun h => kf (by rw [iv_le ra rb] at h; omega))
theorem z_tabIn (X : Cx p s m meth c args own cc nL rt) {a : Int} (j : Int) {dflt lo hi off : Int} {offs : Array Int} {len tgt : Nat} (hj : a = j) (rj : r32 j) (h1 : ¬ j < lo) (h2 : ¬ hi < j) (d : decode cc pc = .ok (.tableswitch dflt lo hi offs, len)) (ho : offs[(j - lo).toNat]? = some off) (ht : (pc : Int) + off = (tgt : Int)) (k : W p l e R s m args below meth c H locs cells slots Q (F0 m tgt ls rest)) : W p l e R s m args below meth c H locs cells slots Q (F0 m pc ls (.int (iv a) :: rest)) := by
  subst hj
  exact lv_tableIn X.1 X.2.1 d (by rw [iv_toInt rj]; exact h1) (by rw [iv_toInt rj]; exact h2) (by rw [iv_toInt rj]; exact ho) ht k
theorem z_tabOut (X : Cx p s m meth c args own cc nL rt) {a : Int} {dflt lo hi : Int} {offs : Array Int} {len tgt : Nat} (ra : r32 a) (h : a < lo ∨ hi < a) (d : decode cc pc = .ok (.tableswitch dflt lo hi offs, len)) (ht : (pc : Int) + dflt = (tgt : Int)) (k : W p l e R s m args below meth c H locs cells slots Q (F0 m tgt ls rest)) : W p l e R s m args below meth c H locs cells slots Q (F0 m pc ls (.int (iv a) :: rest)) :=
  lv_tableOut X.1 X.2.1 d (by rw [iv_toInt ra]; exact h) ht k
/-! fields and arrays -/
theorem z_get (X : Cx p s m meth c args own cc nL rt) (h : St E ws0 s H locs ws) (ci q0 k : Nat) {C : String} {T : u_T} {N index : Nat} (hc : classes[ci]? = some (C, T, N)) (hin : ∀ w ∈ u_ws C T N, w ∈ tb) {a : Nat} {fs : List Value} (he : ws[q0]? = some (a, .inr (ci, fs))) (hk : k < N) (hl : Cond.fieldLink own index (T k).1 (T k).2.1 (T k).2.2.1 ∈ tb) {v : Value} (hv : fs[k]? = some v) (d : decode cc pc = .ok (.getfield index, 3))
    (kk : W p l e R s m args below meth c H locs cells slots Q (F0 m (pc + 3) ls (v :: rest))) : W p l e R s m args below meth c H locs cells slots Q (F0 m pc ls (.ref a :: rest)) :=
  va_get (D := eD E) (ci := ci) X.1 X.2.1 X.2.2.2.2.1 hin X.2.2.2.1 h.2.2.2.2.1.1 h.1 q0 he hc k hk (X.2.2.2.2.1 _ hl) (fun _ h9 => h9) hv d kk
theorem z_put (X : Cx p s m meth c args own cc nL rt) (h : St E ws0 s H locs ws) (ci q0 k : Nat) {C : String} {T : u_T} {N index : Nat} (hc : classes[ci]? = some (C, T, N)) (hin : ∀ w ∈ u_ws C T N, w ∈ tb) (ty0 : Nat → FieldType) (hty : ∀ k, k < N → parseFieldDescriptor (T k).2.2.1 = some (ty0 k)) (hnm : ∀ a, a < N → ∀ b, b < N → a ≠ b → (T a).2.1 ≠ (T b).2.1) {a : Nat} {fs : List Value} (he : ws[q0]? = some (a, .inr (ci, fs))) (hk : k < N) (hl : Cond.fieldLink own index (T k).1 (T k).2.1 (T k).2.2.1 ∈ tb) (hfin : (T k).2.2.2 = false) {v : Value} (hn : narrow (ty0 k) v = v) (hfit : fits (ty0 k) v = true) (hlen : k < fs.length) (d : decode cc pc = .ok (.putfield index, 3))
    (kk : ∀ (H1 : Heap) (locs1 : List Loc), St E ws0 s H1 locs1 (ws.set q0 (a, .inr (ci, fs.set k v))) → W p l e R s m args below meth c H1 locs1 cells slots Q (F0 m (pc + 3) ls rest)) : W p l e R s m args below meth c H locs cells slots Q (F0 m pc ls (v :: .ref a :: rest)) :=
  va_put (D := eD E) (ci := ci) X.1 X.2.1 X.2.2.2.2.1 hin ty0 hty hnm X.2.2.2.1 h.2.2.2.2.1.1 h.1 h.dw h.2.1 q0 he hc k hk (X.2.2.2.2.1 _ hl) (fun _ h9 => h9) hfin (hty k hk) hn hfit hlen d (fun H1 locs1 hP hD hS => kk H1 locs1 ⟨hP, hS, by
    rw [← h.2.2.1]
    apply List.ext_getElem?
    intro i
    rw [List.getElem?_map, List.getElem?_map, List.getElem?_set]
    split
    · next hi =>
      subst hi
      split
      · rw [he]; rfl
      · next hn => rw [List.getElem?_eq_none (by omega)]
    · rfl, h.2.2.2⟩)
theorem set_map {ws : va_W} {q0 a : Nat} {e0 e1 : va_E} (he : ws[q0]? = some (a, e0)) : (ws.set q0 (a, e1)).map Prod.fst = ws.map Prod.fst := by
  apply List.ext_getElem?
  intro i
  rw [List.getElem?_map, List.getElem?_map, List.getElem?_set]
  split
  · next hi =>
    subst hi
    split
    · rw [he]; rfl
    · next hn => rw [List.getElem?_eq_none (by omega)]
  · rfl
theorem z_iald (X : Cx p s m meth c args own cc nL rt) (h : St E ws0 s H locs ws) (q0 : Nat) {a n : Nat} {f : Nat → Int32} {z v : Int} (ha : ws[q0]? = some (a, .inl (eI E, n, .inl f))) (h0 : 0 ≤ z) (h1 : z < n) (hn : (n : Int) < 2147483648) (hv : f z.toNat = iv v) (d : decode cc pc = .ok (.iaload, 1))
    (kk : W p l e R s m args below meth c H locs cells slots Q (F0 m (pc + 1) ls (.int (iv v) :: rest))) : W p l e R s m args below meth c H locs cells slots Q (F0 m pc ls (.int (iv z) :: .ref a :: rest)) := by
  refine va_iald X.1 X.2.1 h.2.2.2.2.1.1 h.1 q0 0 ha rfl (iv_in h0 h1 hn) d ?_
  rw [iv_clamp ⟨by omega, by omega⟩, hv]
  exact kk
theorem z_iast (X : Cx p s m meth c args own cc nL rt) (h : St E ws0 s H locs ws) (q0 : Nat) {a n : Nat} {f : Nat → Int32} {z : Int} {v : Int32} (ha : ws[q0]? = some (a, .inl (eI E, n, .inl f))) (h0 : 0 ≤ z) (h1 : z < n) (hn : (n : Int) < 2147483648) (d : decode cc pc = .ok (.iastore, 1))
    (kk : ∀ (H1 : Heap) (locs1 : List Loc), St E ws0 s H1 locs1 (ws.set q0 (a, .inl (eI E, n, .inl (upd f z.toNat v)))) → W p l e R s m args below meth c H1 locs1 cells slots Q (F0 m (pc + 1) ls rest)) : W p l e R s m args below meth c H locs cells slots Q (F0 m pc ls (.int v :: .int (iv z) :: .ref a :: rest)) := by
  refine va_iast X.1 X.2.1 h.2.2.2.2.1.1 h.1 h.dw h.2.1 q0 0 ha rfl (iv_in h0 h1 hn) d (fun H1 locs1 hP hD hS => ?_)
  rw [iv_clamp ⟨by omega, by omega⟩] at hP
  exact kk H1 locs1 ⟨hP, hS, (set_map ha).trans h.2.2.1, h.2.2.2⟩
theorem z_lald (X : Cx p s m meth c args own cc nL rt) (h : St E ws0 s H locs ws) (q0 : Nat) {a n : Nat} {f : Nat → Int64} {z : Int} (ha : ws[q0]? = some (a, .inl (eJ E, n, .inr (.inl f)))) (h0 : 0 ≤ z) (h1 : z < n) (hn : (n : Int) < 2147483648) (d : decode cc pc = .ok (.laload, 1))
    (kk : W p l e R s m args below meth c H locs cells slots Q (F0 m (pc + 1) ls (.long (f z.toNat) :: rest))) : W p l e R s m args below meth c H locs cells slots Q (F0 m pc ls (.int (iv z) :: .ref a :: rest)) := by
  refine va_lald X.1 X.2.1 h.2.2.2.2.1.1 h.1 q0 1 ha rfl (iv_in h0 h1 hn) d ?_
  rw [iv_clamp ⟨by omega, by omega⟩]
  exact kk
theorem z_last (X : Cx p s m meth c args own cc nL rt) (h : St E ws0 s H locs ws) (q0 : Nat) {a n : Nat} {f : Nat → Int64} {z : Int} {v : Int64} (ha : ws[q0]? = some (a, .inl (eJ E, n, .inr (.inl f)))) (h0 : 0 ≤ z) (h1 : z < n) (hn : (n : Int) < 2147483648) (d : decode cc pc = .ok (.lastore, 1))
    (kk : ∀ (H1 : Heap) (locs1 : List Loc), St E ws0 s H1 locs1 (ws.set q0 (a, .inl (eJ E, n, .inr (.inl (vp_updL f z.toNat v))))) → W p l e R s m args below meth c H1 locs1 cells slots Q (F0 m (pc + 1) ls rest)) : W p l e R s m args below meth c H locs cells slots Q (F0 m pc ls (.long v :: .int (iv z) :: .ref a :: rest)) := by
  refine va_last X.1 X.2.1 h.2.2.2.2.1.1 h.1 h.dw h.2.1 q0 1 ha rfl (iv_in h0 h1 hn) d (fun H1 locs1 hP hD hS => ?_)
  rw [iv_clamp ⟨by omega, by omega⟩] at hP
  exact kk H1 locs1 ⟨hP, hS, (set_map ha).trans h.2.2.1, h.2.2.2⟩
end ZL
