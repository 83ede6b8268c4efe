section
variable {E : EV} {a : Nat → Nat} {ws0 : va_W} {s : State} {H : Heap} {locs : List Loc} {hh nn hh2 : Int32} {x1 x2 x3 x4 x5 x6 x7 x8 x9 y : Nat → Int32}
theorem stS_suns (h : St E ws0 s H locs ((wS E a hh nn (x1, x2, x3, x4, x5, x6, x7, x8, x9)).set 1 (a 1, .inl (eI E, 10, .inl y)))) : St E ws0 s H locs (wS E a hh nn (y, x2, x3, x4, x5, x6, x7, x8, x9)) := h
theorem stS_sitters (h : St E ws0 s H locs ((wS E a hh nn (x1, x2, x3, x4, x5, x6, x7, x8, x9)).set 2 (a 2, .inl (eI E, 10, .inl y)))) : St E ws0 s H locs (wS E a hh nn (x1, y, x3, x4, x5, x6, x7, x8, x9)) := h
theorem stS_kinds (h : St E ws0 s H locs ((wS E a hh nn (x1, x2, x3, x4, x5, x6, x7, x8, x9)).set 3 (a 3, .inl (eI E, 8, .inl y)))) : St E ws0 s H locs (wS E a hh nn (x1, x2, y, x4, x5, x6, x7, x8, x9)) := h
theorem stS_chairs (h : St E ws0 s H locs ((wS E a hh nn (x1, x2, x3, x4, x5, x6, x7, x8, x9)).set 4 (a 4, .inl (eI E, 8, .inl y)))) : St E ws0 s H locs (wS E a hh nn (x1, x2, x3, y, x5, x6, x7, x8, x9)) := h
theorem stS_lefts (h : St E ws0 s H locs ((wS E a hh nn (x1, x2, x3, x4, x5, x6, x7, x8, x9)).set 5 (a 5, .inl (eI E, 8, .inl y)))) : St E ws0 s H locs (wS E a hh nn (x1, x2, x3, x4, y, x6, x7, x8, x9)) := h
theorem stS_rights (h : St E ws0 s H locs ((wS E a hh nn (x1, x2, x3, x4, x5, x6, x7, x8, x9)).set 6 (a 6, .inl (eI E, 8, .inl y)))) : St E ws0 s H locs (wS E a hh nn (x1, x2, x3, x4, x5, y, x7, x8, x9)) := h
theorem stS_burnts (h : St E ws0 s H locs ((wS E a hh nn (x1, x2, x3, x4, x5, x6, x7, x8, x9)).set 7 (a 7, .inl (eI E, 8, .inl y)))) : St E ws0 s H locs (wS E a hh nn (x1, x2, x3, x4, x5, x6, y, x8, x9)) := h
theorem stS_fromLeft (h : St E ws0 s H locs ((wS E a hh nn (x1, x2, x3, x4, x5, x6, x7, x8, x9)).set 8 (a 8, .inl (eI E, 8, .inl y)))) : St E ws0 s H locs (wS E a hh nn (x1, x2, x3, x4, x5, x6, x7, y, x9)) := h
theorem stS_fromRight (h : St E ws0 s H locs ((wS E a hh nn (x1, x2, x3, x4, x5, x6, x7, x8, x9)).set 9 (a 9, .inl (eI E, 8, .inl y)))) : St E ws0 s H locs (wS E a hh nn (x1, x2, x3, x4, x5, x6, x7, x8, y)) := h
theorem stS_hour (h : St E ws0 s H locs ((wS E a hh nn (x1, x2, x3, x4, x5, x6, x7, x8, x9)).set 0 (a 0, .inr (1, [.int hh, .int nn, .ref (a 1), .ref (a 2), .ref (a 3), .ref (a 4), .ref (a 5), .ref (a 6), .ref (a 7), .ref (a 8), .ref (a 9)].set 0 (.int hh2))))) : St E ws0 s H locs (wS E a hh2 nn (x1, x2, x3, x4, x5, x6, x7, x8, x9)) := h
theorem stS_people (h : St E ws0 s H locs ((wS E a hh nn (x1, x2, x3, x4, x5, x6, x7, x8, x9)).set 0 (a 0, .inr (1, [.int hh, .int nn, .ref (a 1), .ref (a 2), .ref (a 3), .ref (a 4), .ref (a 5), .ref (a 6), .ref (a 7), .ref (a 8), .ref (a 9)].set 1 (.int hh2))))) : St E ws0 s H locs (wS E a hh hh2 (x1, x2, x3, x4, x5, x6, x7, x8, x9)) := h
end
theorem RS_congr {G : Sa} {A B : Es} (h : RS G A) (hn : pe A = pe B) (n0 : 0 ≤ pe A) (hs : ∀ i, 0 ≤ i → i < 10 → sn A i = sn B i) (hp : ∀ w p, 0 ≤ w → w < 5 → 0 ≤ p → p < pe A → pr A w p = pr B w p) : RS G B := by
  have k : ∀ w, 0 ≤ w → w < 5 → ∀ f, RP f A w → RP f B w := fun w w0 w1 f q p p0 p1 => by rw [← hp w p w0 w1 p0 (by omega)]; exact q p p0 (by omega)
  refine ⟨fun i i0 i1 => by rw [← hs i i0 i1]; exact h.1 i i0 i1, fun c c0 c1 => ?_, k 0 (by omega) (by omega) _ h.2.2.1, k 1 (by omega) (by omega) _ h.2.2.2.1, k 2 (by omega) (by omega) _ h.2.2.2.2.1, k 3 (by omega) (by omega) _ h.2.2.2.2.2.1, k 4 (by omega) (by omega) _ h.2.2.2.2.2.2⟩
  rw [← onC_cong c hn n0 (fun p p0 p1 => hp 1 p (by omega) (by omega) p0 p1)]
  exact h.2.1 c c0 c1
theorem onC_nwc {A : Es} (n0 : 0 ≤ pe A) {k b c : Int} (c0 : 0 ≤ c) : onC (nw A k b) c = onC A c := by
  unfold onC
  show onk (nw A k b) c (pe A + 1).toNat = _
  rw [tn1 n0, onk]
  rw [if_neg (by rw [nw_at, tnc n0, if_pos rfl, if_neg (by omega), if_pos rfl]; omega)]
  exact onk_cong (A := nw A k b) (B := A) c (pe A).toNat (fun p p0 p1 => by rw [nw_at, if_neg (by omega)])
theorem RP_nw {f : Nat → Int32} {A : Es} {k b w v : Int} (h : RP f A w) (hv : v = (if w = 0 then k else if w = 1 then -1 else if w = 4 then 0 else b)) : RP (upd f (pe A).toNat (iv v)) (nw A k b) w := by
  intro q q0 q1
  have q1 : q < pe A + 1 := q1
  rw [nw_at]
  by_cases e : q = pe A
  · rw [if_pos e, ← hv, e, upd_eq]
  · rw [if_neg e, upd_ne (by omega)]; exact h q q0 (by omega)
section
variable {x1 x2 x3 x4 x5 x6 x7 x8 x9 : Nat → Int32} {A : Es}
theorem RS_add (h : RS (x1, x2, x3, x4, x5, x6, x7, x8, x9) A) (n0 : 0 ≤ pe A) {k b : Int} : RS (x1, x2, upd x3 (pe A).toNat (iv k), upd x4 (pe A).toNat (iv (-1)), upd x5 (pe A).toNat (iv b), upd x6 (pe A).toNat (iv b), upd x7 (pe A).toNat (iv 0), x8, x9) (nw A k b) :=
  ⟨h.1, fun c c0 c1 => by rw [onC_nwc n0 c0]; exact h.2.1 c c0 c1, RP_nw h.2.2.1 rfl, RP_nw h.2.2.2.1 rfl, RP_nw h.2.2.2.2.1 rfl, RP_nw h.2.2.2.2.2.1 rfl, RP_nw h.2.2.2.2.2.2 rfl⟩
theorem RS_seat (h : RS (x1, x2, x3, x4, x5, x6, x7, x8, x9) A) (hI : IA A) {p c : Int} (p0 : 0 ≤ p) (p1 : p < pe A) (c1 : -1 ≤ c) (c9 : c ≤ 9) (hf : c < 0 ∨ onC A c < 0 ∨ onC A c = p) {y : Nat → Int32} (hy : ∀ d, 0 ≤ d → d < 10 → y d.toNat = iv (if d = c then p else if d = pr A 1 p then -1 else onC A d)) : RS (x1, y, x3, upd x4 p.toNat (iv c), x5, x6, x7, x8, x9) (pu A 1 p c) :=
  ⟨h.1, fun d d0 d1 => by rw [onC_pu hI p0 p1 c1 c9 hf d d0]; exact hy d d0 d1, RP_oth h.2.2.1 (by omega), RP_upd h.2.2.2.1 p0, RP_oth h.2.2.2.2.1 (by omega), RP_oth h.2.2.2.2.2.1 (by omega), RP_oth h.2.2.2.2.2.2 (by omega)⟩
end
theorem sea_1 {x : Nat → Int32} {f : Int → Int} {c ch p : Int} (c0 : 0 ≤ c) (h0 : 0 ≤ ch) (hx : ∀ d, 0 ≤ d → d < 10 → x d.toNat = iv (f d)) : ∀ d, 0 ≤ d → d < 10 → upd (upd x ch.toNat (iv (-1))) c.toNat (iv p) d.toNat = iv (if d = c then p else if d = ch then -1 else f d) := by
  intro d d0 d1
  by_cases e : d = c
  · rw [if_pos e, e, upd_eq]
  · rw [if_neg e, upd_ne (by omega)]
    by_cases e2 : d = ch
    · rw [if_pos e2, e2, upd_eq]
    · rw [if_neg e2, upd_ne (by omega)]; exact hx d d0 d1
theorem sea_2 {x : Nat → Int32} {f : Int → Int} {c ch p : Int} (c0 : 0 ≤ c) (h0 : ch < 0) (hx : ∀ d, 0 ≤ d → d < 10 → x d.toNat = iv (f d)) : ∀ d, 0 ≤ d → d < 10 → upd x c.toNat (iv p) d.toNat = iv (if d = c then p else if d = ch then -1 else f d) := by
  intro d d0 d1
  by_cases e : d = c
  · rw [if_pos e, e, upd_eq]
  · rw [if_neg e, upd_ne (by omega), if_neg (by omega)]; exact hx d d0 d1
theorem sea_3 {x : Nat → Int32} {f : Int → Int} {c ch p : Int} (c0 : c < 0) (h0 : 0 ≤ ch) (hx : ∀ d, 0 ≤ d → d < 10 → x d.toNat = iv (f d)) : ∀ d, 0 ≤ d → d < 10 → upd x ch.toNat (iv (-1)) d.toNat = iv (if d = c then p else if d = ch then -1 else f d) := by
  intro d d0 d1
  rw [if_neg (by omega)]
  by_cases e2 : d = ch
  · rw [if_pos e2, e2, upd_eq]
  · rw [if_neg e2, upd_ne (by omega)]; exact hx d d0 d1
theorem sea_4 {x : Nat → Int32} {f : Int → Int} {c ch p : Int} (c0 : c < 0) (h0 : ch < 0) (hx : ∀ d, 0 ≤ d → d < 10 → x d.toNat = iv (f d)) : ∀ d, 0 ≤ d → d < 10 → x d.toNat = iv (if d = c then p else if d = ch then -1 else f d) := by
  intro d d0 d1
  rw [if_neg (by omega), if_neg (by omega)]; exact hx d d0 d1
theorem RS_b0 {G : Sa} {A : Es} (h : RS G A) (n0 : 0 ≤ pe A) {p v : Int} (hv : v = pr A 4 p) : RS G (pu A 4 p v) := by
  refine RS_congr h rfl n0 (fun _ _ _ => rfl) (fun w q _ _ _ _ => ?_)
  rw [pu_at]
  split
  · next z => rw [hv, z.1, z.2]
  · rfl
theorem RS_swap {G : Sa} {A : Es} (n0 : 0 ≤ pe A) {p q x : Int} (hpq : p ≠ q) (h : RS G (pu (pu (pu A 1 p x) 1 q (pr A 1 p)) 1 p (pr A 1 q))) : RS G (sw A p q) := by
  refine RS_congr h rfl n0 (fun _ _ _ => rfl) (fun w r _ _ _ _ => ?_)
  unfold sw
  simp only [pu_at]
  by_cases e : r = p
  · subst e
    by_cases e2 : w = 1
    · simp [e2, hpq]
    · simp [e2]
  · simp [e]
/-- two sides more -/
theorem mid_two {A : Es} {p : Int} (hc : 0 ≤ pr A 1 p) {x : Int} {w q : Int} (w0 : 0 ≤ w) (w1 : w < 5) :
    pr (pu (pu (pu (pu (mid A (2 * p)) 2 p (nside A p 0)) 3 p (nside A p 1)) 4 p x) 4 p (nburn A p)) w q = pr (mid A (2 * (p + 1))) w q := by
  simp only [pu_at, mid_at]
  by_cases hq : q = p
  · subst hq
    unfold midv
    simp only [if_pos hc]
    rcases (show w = 0 ∨ w = 1 ∨ w = 2 ∨ w = 3 ∨ w = 4 by omega) with rfl | rfl | rfl | rfl | rfl
    · simp
    · simp
    · simp; omega
    · simp; omega
    · simp; omega
  · simp only [hq, and_false, if_false]
    unfold midv
    simp only [show (2 * q < 2 * p ↔ 2 * q < 2 * (p + 1)) by omega, show (2 * q + 1 < 2 * p ↔ 2 * q + 1 < 2 * (p + 1)) by omega]
theorem mid_not2 {A : Es} {p : Int} (hc : ¬ 0 ≤ pr A 1 p) {w q : Int} : pr (mid A (2 * p)) w q = pr (mid A (2 * (p + 1))) w q := by
  rw [mid_at, mid_at]
  unfold midv
  by_cases hq : q = p
  · subst hq; rw [if_neg hc, if_neg hc]
  · simp only [show (2 * q < 2 * p ↔ 2 * q < 2 * (p + 1)) by omega, show (2 * q + 1 < 2 * p ↔ 2 * q + 1 < 2 * (p + 1)) by omega]
theorem RS_m0 {G : Sa} {A : Es} (h : RS G A) (n0 : 0 ≤ pe A) : RS G (mid A 0) := RS_congr h rfl n0 (fun _ _ _ => rfl) (fun w q _ _ q0 _ => (mid_0 A q0).symm)
theorem RS_mn {G : Sa} {A : Es} {p : Int} (h : RS G (mid A (2 * p))) (n0 : 0 ≤ pe A) (hc : ¬ 0 ≤ pr A 1 p) : RS G (mid A (2 * (p + 1))) := RS_congr h rfl n0 (fun _ _ _ => rfl) (fun w q _ _ _ _ => mid_not2 hc)
theorem RS_ms {G : Sa} {A : Es} {p x2 x3 x y : Int} (n0 : 0 ≤ pe A) (hc : 0 ≤ pr A 1 p) (h : RS G (pu (pu (pu (pu (mid A (2 * p)) 2 p x2) 3 p x3) 4 p x) 4 p y)) (e2 : x2 = nside A p 0) (e3 : x3 = nside A p 1) (ey : y = nburn A p) : RS G (mid A (2 * (p + 1))) := by
  subst e2 e3 ey
  exact RS_congr h rfl n0 (fun _ _ _ => rfl) (fun w q w0 w1 _ _ => mid_two hc w0 w1)
theorem RS_me {G : Sa} {A : Es} (n0 : 0 ≤ pe A) (h : RS G (mid A (2 * pe A))) : RS G (step A) := by
  refine RS_congr h rfl n0 (fun _ _ _ => rfl) (fun w p w0 w1 p0 p1 => ?_)
  have p1 : p < pe A := p1
  rw [mid_at, step_at]
  unfold midv
  rw [if_pos (by omega : 2 * p < 2 * pe A), if_pos (by omega : 2 * p + 1 < 2 * pe A), if_pos (by omega : 2 * p + 1 < 2 * pe A)]
theorem mid_234 {A : Es} {k p : Int} (hk : k = 2 * p) : pr (mid A k) 2 p = pr A 2 p ∧ pr (mid A k) 3 p = pr A 3 p ∧ pr (mid A k) 4 p = pr A 4 p := by
  subst hk
  simp only [mid_at]
  unfold midv
  by_cases hc : 0 ≤ pr A 1 p
  · simp only [if_pos hc]
    refine ⟨?_, ?_, ?_⟩
    · simp
    · simp; omega
    · simp; omega
  · simp [if_neg hc]
