/-! ===== the class: a shore ===== -/
abbrev Sa : Type := (Nat → Int32) × (Nat → Int32) × (Nat → Int32) × (Nat → Int32) × (Nat → Int32) × (Nat → Int32) × (Nat → Int32) × (Nat → Int32) × (Nat → Int32)
def wS (E : EV) (a : Nat → Nat) (h n : Int32) (G : Sa) : va_W := [(a 0, .inr (1, [.int h, .int n, .ref (a 1), .ref (a 2), .ref (a 3), .ref (a 4), .ref (a 5), .ref (a 6), .ref (a 7), .ref (a 8), .ref (a 9)])),
  (a 1, .inl (eI E, 10, .inl G.1)), (a 2, .inl (eI E, 10, .inl G.2.1)), (a 3, .inl (eI E, 8, .inl G.2.2.1)), (a 4, .inl (eI E, 8, .inl G.2.2.2.1)), (a 5, .inl (eI E, 8, .inl G.2.2.2.2.1)), (a 6, .inl (eI E, 8, .inl G.2.2.2.2.2.1)), (a 7, .inl (eI E, 8, .inl G.2.2.2.2.2.2.1)), (a 8, .inl (eI E, 8, .inl G.2.2.2.2.2.2.2.1)), (a 9, .inl (eI E, 8, .inl G.2.2.2.2.2.2.2.2))]
theorem wS_map (E : EV) (a : Nat → Nat) (h n h' n' : Int32) (G G' : Sa) : (wS E a h n G).map Prod.fst = (wS E a h' n' G').map Prod.fst := rfl
def RP (f : Nat → Int32) (A : Es) (w : Int) : Prop := ∀ p, 0 ≤ p → p < pe A → f p.toNat = iv (pr A w p)
def RS (G : Sa) (A : Es) : Prop := (∀ i, 0 ≤ i → i < 10 → G.1 i.toNat = iv (sn A i)) ∧ (∀ c, 0 ≤ c → c < 10 → G.2.1 c.toNat = iv (onC A c)) ∧ RP G.2.2.1 A 0 ∧ RP G.2.2.2.1 A 1 ∧ RP G.2.2.2.2.1 A 2 ∧ RP G.2.2.2.2.2.1 A 3 ∧ RP G.2.2.2.2.2.2.1 A 4
theorem onk_cong {A B : Es} (c : Int) : ∀ k : Nat, (∀ p, 0 ≤ p → p < (k : Int) → pr A 1 p = pr B 1 p) → onk A c k = onk B c k
  | 0, _ => rfl
  | k + 1, h => by
    unfold onk
    rw [h k (by omega) (by omega), onk_cong c k (fun p p0 p1 => h p p0 (by omega))]
theorem onC_cong {A B : Es} (c : Int) (hn : pe A = pe B) (n0 : 0 ≤ pe A) (h : ∀ p, 0 ≤ p → p < pe A → pr A 1 p = pr B 1 p) : onC A c = onC B c := by
  unfold onC
  rw [← hn]
  exact onk_cong c _ (fun p p0 p1 => h p p0 (by omega))
theorem onk_spec (A : Es) (c : Int) : ∀ k : Nat, (0 ≤ onk A c k ∧ onk A c k < k ∧ pr A 1 (onk A c k) = c) ∨ (onk A c k = -1 ∧ ∀ p, 0 ≤ p → p < (k : Int) → pr A 1 p ≠ c)
  | 0 => Or.inr ⟨rfl, fun p a b => absurd b (by omega)⟩
  | k + 1 => by
    unfold onk
    split
    · next q => left; exact ⟨by omega, by omega, q⟩
    · next q =>
      rcases onk_spec A c k with h | h
      · left; exact ⟨h.1, by omega, h.2.2⟩
      · right; refine ⟨h.1, fun p p0 p1 => ?_⟩
        by_cases e : p = k
        · rw [e]; exact q
        · exact h.2 p p0 (by omega)
theorem onC_spec (A : Es) (n0 : 0 ≤ pe A) (c : Int) : (0 ≤ onC A c ∧ onC A c < pe A ∧ pr A 1 (onC A c) = c) ∨ (onC A c = -1 ∧ ∀ p, 0 ≤ p → p < pe A → pr A 1 p ≠ c) := by
  have h := onk_spec A c (pe A).toNat
  unfold onC
  rw [show (((pe A).toNat : Nat) : Int) = pe A by omega] at h
  exact h
theorem onC_eq {A : Es} (h : IA A) {c p : Int} (c0 : 0 ≤ c) (p0 : 0 ≤ p) (p1 : p < pe A) (hp : pr A 1 p = c) : onC A c = p := by
  rcases onC_spec A h.n0 c with q | q
  · apply Classical.byContradiction
    intro e
    exact h.2.2.2.2.2 p (onC A c) p0 p1 q.1 q.2.1 (fun z => e z.symm) (by omega) (by rw [hp, q.2.2])
  · exact absurd hp (q.2 p p0 p1)
theorem onC_none {A : Es} (n0 : 0 ≤ pe A) {c : Int} (h : ∀ p, 0 ≤ p → p < pe A → pr A 1 p ≠ c) : onC A c = -1 := by
  rcases onC_spec A n0 c with q | q
  · exact absurd q.2.2 (h _ q.1 q.2.1)
  · exact q.1
/-- onC after one is seated -/
theorem onC_pu {A : Es} (h : IA A) {p c : Int} (p0 : 0 ≤ p) (p1 : p < pe A) (c1 : -1 ≤ c) (c9 : c ≤ 9) (hf : c < 0 ∨ onC A c < 0 ∨ onC A c = p) (d : Int) (d0 : 0 ≤ d) : onC (pu A 1 p c) d = if d = c then p else if d = pr A 1 p then -1 else onC A d := by
  have hi := IA_sit h p0 p1 c1 c9 hf
  by_cases e : d = c
  · rw [if_pos e]
    exact onC_eq hi d0 p0 p1 (by rw [pu_at, if_pos ⟨rfl, rfl⟩]; exact e.symm)
  · rw [if_neg e]
    by_cases e2 : d = pr A 1 p
    · rw [if_pos e2]
      refine onC_none hi.n0 (fun q q0 q1 => ?_)
      rw [pu_at]
      by_cases e3 : q = p
      · rw [if_pos ⟨rfl, e3⟩]; exact fun z => e z.symm
      · rw [if_neg (fun z => e3 z.2), e2]
        have := h.2.2.2.2.2 p q p0 p1 q0 q1 (fun z => e3 z.symm) (by omega)
        exact fun z => this z.symm
    · rw [if_neg e2]
      rcases onC_spec A h.n0 d with q | q
      · refine onC_eq hi d0 q.1 q.2.1 ?_
        rw [pu_at, if_neg (fun z => ?_)]
        · exact q.2.2
        · have := q.2.2; rw [z.2] at this; exact e2 this.symm
      · rw [q.1]
        refine onC_none hi.n0 (fun r r0 r1 => ?_)
        rw [pu_at]
        by_cases e3 : r = p
        · rw [if_pos ⟨rfl, e3⟩]; exact fun z => e z.symm
        · rw [if_neg (fun z => e3 z.2)]; exact q.2 r r0 r1
theorem RP_upd {f : Nat → Int32} {A : Es} {w p v : Int} (h : RP f A w) (p0 : 0 ≤ p) : RP (upd f p.toNat (iv v)) (pu A w p v) w := by
  intro q q0 q1
  rw [pu_at]
  by_cases e : q = p
  · rw [if_pos ⟨rfl, e⟩, e, upd_eq]
  · rw [if_neg (fun z => e z.2), upd_ne (by omega)]; exact h q q0 q1
theorem RP_oth {f : Nat → Int32} {A : Es} {w w' p v : Int} (h : RP f A w) (hw : w ≠ w') : RP f (pu A w' p v) w := by
  intro q q0 q1
  rw [pu_at, if_neg (fun z => hw z.1)]
  exact h q q0 q1
theorem onC_oth {A : Es} (n0 : 0 ≤ pe A) {w p v c : Int} (hw : w ≠ 1) : onC (pu A w p v) c = onC A c := onC_cong c rfl n0 (fun q _ _ => by rw [pu_at, if_neg (fun z => hw z.1.symm)])
section
variable {x1 x2 x3 x4 x5 x6 x7 x8 x9 : Nat → Int32} {A : Es}
theorem RS_su (h : RS (x1, x2, x3, x4, x5, x6, x7, x8, x9) A) {i v : Int} (i0 : 0 ≤ i) : RS (upd x1 i.toNat (iv v), x2, x3, x4, x5, x6, x7, x8, x9) (su A i v) := by
  refine ⟨fun j j0 j1 => ?_, fun c c0 c1 => (h.2.1 c c0 c1).trans (congrArg iv (onk_cong c _ (fun _ _ _ => rfl))), h.2.2⟩
  show upd x1 i.toNat (iv v) j.toNat = iv (if j = i then v else sn A j)
  by_cases e : j = i
  · rw [if_pos e, e, upd_eq]
  · rw [if_neg e, upd_ne (by omega)]; exact h.1 j j0 j1
theorem RS_ki (h : RS (x1, x2, x3, x4, x5, x6, x7, x8, x9) A) (n0 : 0 ≤ pe A) {p v : Int} (p0 : 0 ≤ p) : RS (x1, x2, upd x3 p.toNat (iv v), x4, x5, x6, x7, x8, x9) (pu A 0 p v) :=
  ⟨h.1, fun c c0 c1 => by rw [onC_oth n0 (by omega)]; exact h.2.1 c c0 c1, RP_upd h.2.2.1 p0, RP_oth h.2.2.2.1 (by omega), RP_oth h.2.2.2.2.1 (by omega), RP_oth h.2.2.2.2.2.1 (by omega), RP_oth h.2.2.2.2.2.2 (by omega)⟩
theorem RS_le (h : RS (x1, x2, x3, x4, x5, x6, x7, x8, x9) A) (n0 : 0 ≤ pe A) {p v : Int} (p0 : 0 ≤ p) : RS (x1, x2, x3, x4, upd x5 p.toNat (iv v), x6, x7, x8, x9) (pu A 2 p v) :=
  ⟨h.1, fun c c0 c1 => by rw [onC_oth n0 (by omega)]; exact h.2.1 c c0 c1, RP_oth h.2.2.1 (by omega), RP_oth h.2.2.2.1 (by omega), RP_upd h.2.2.2.2.1 p0, RP_oth h.2.2.2.2.2.1 (by omega), RP_oth h.2.2.2.2.2.2 (by omega)⟩
theorem RS_ri (h : RS (x1, x2, x3, x4, x5, x6, x7, x8, x9) A) (n0 : 0 ≤ pe A) {p v : Int} (p0 : 0 ≤ p) : RS (x1, x2, x3, x4, x5, upd x6 p.toNat (iv v), x7, x8, x9) (pu A 3 p v) :=
  ⟨h.1, fun c c0 c1 => by rw [onC_oth n0 (by omega)]; exact h.2.1 c c0 c1, RP_oth h.2.2.1 (by omega), RP_oth h.2.2.2.1 (by omega), RP_oth h.2.2.2.2.1 (by omega), RP_upd h.2.2.2.2.2.1 p0, RP_oth h.2.2.2.2.2.2 (by omega)⟩
theorem RS_bu (h : RS (x1, x2, x3, x4, x5, x6, x7, x8, x9) A) (n0 : 0 ≤ pe A) {p v : Int} (p0 : 0 ≤ p) : RS (x1, x2, x3, x4, x5, x6, upd x7 p.toNat (iv v), x8, x9) (pu A 4 p v) :=
  ⟨h.1, fun c c0 c1 => by rw [onC_oth n0 (by omega)]; exact h.2.1 c c0 c1, RP_oth h.2.2.1 (by omega), RP_oth h.2.2.2.1 (by omega), RP_oth h.2.2.2.2.1 (by omega), RP_oth h.2.2.2.2.2.1 (by omega), RP_upd h.2.2.2.2.2.2 p0⟩
theorem RS_scr (h : RS (x1, x2, x3, x4, x5, x6, x7, x8, x9) A) {y8 y9 : Nat → Int32} : RS (x1, x2, x3, x4, x5, x6, x7, y8, y9) A := h
end
theorem bor0 (x : Int32) : x ||| iv 0 = x := by
  rw [show iv 0 = 0 from rfl]
  simp
def sum2 (A : Es) : Nat → Int
  | 0 => 0
  | k + 1 => sum2 A k + brn A (k : Int)
theorem sum2_eq (A : Es) : ∀ k : Nat, sum2 A k = sumk A 2 k + sumk A 3 k
  | 0 => rfl
  | k + 1 => by
    unfold sum2 sumk
    rw [sum2_eq A k]
    unfold brn
    omega
