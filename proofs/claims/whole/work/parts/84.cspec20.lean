def pn_item (tq : Int → Int) (tn : Int) (A : Es) (k i : Int) : Bool × Es × Int :=
  if tK tq tn i = 6 then (if tK tq tn (tE tq tn i) = 20 ∧ tV tq tn (tE tq tn i) ≤ 200 then on_item tq tn A k (tV tq tn (tE tq tn i)) (tE tq tn (tE tq tn i)) else (false, A, tE tq tn i)) else on_item tq tn A k 20 i
theorem p_pn (tq : Int → Int) (tn : Int) (A : Es) (i : Int) : p_item tq tn A i = if pe A = 8 then (false, A, i) else pn_item tq tn A (tK tq tn i) (tE tq tn i) := rfl
theorem pu_nw (A : Es) (k b c : Int) : pu (nw A k b) 1 (pe A) c = nwc A k b c := by
  unfold pu nwc
  refine Prod.ext rfl (Prod.ext rfl (Prod.ext rfl ?_))
  funext w p
  show (if w = 1 ∧ p = pe A then c else if p = pe A then (if w = 0 then k else if w = 1 then -1 else if w = 4 then 0 else b) else pr A w p) = _
  by_cases h1 : p = pe A
  · by_cases h2 : w = 1
    · subst h1; subst h2; simp
    · simp [h1, h2]
  · simp [h1]
theorem onC_free {A : Es} (hI : IA A) {k b c : Int} (c0 : 0 ≤ c) : (onC (nw A k b) c < 0 ∨ onC (nw A k b) c = pe A) ↔ onC A c < 0 := by
  rw [onC_nwc (c := c) hI.n0 c0]
  have := onC_rng hI c
  have n0 := hI.n0
  omega
theorem RS_nwc0 {G : Sa} {A : Es} {k b : Int} (h : RS G (nw A k b)) : RS G (nwc A k b (-1)) := h
theorem IA_nwc0 {A : Es} {k b : Int} (h : IA (nw A k b)) : IA (nwc A k b (-1)) := h
theorem RS_nwc1 {G : Sa} {A : Es} {k b c : Int} (h : RS G (pu (nw A k b) 1 (pe A) c)) : RS G (nwc A k b c) := by rw [← pu_nw]; exact h
theorem IA_nwc1 {A : Es} {k b c : Int} (h : IA (pu (nw A k b) 1 (pe A) c)) : IA (nwc A k b c) := by rw [← pu_nw]; exact h
