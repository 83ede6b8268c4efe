/-! ===== the whole of what is kept ===== -/
abbrev Sg : Type := Es × Es × Int × (Int → Int) × (Int → Int) × Int × (Int → Int) × (Int → Int) × (Int → Int → Int64)
def RepE (f : Nat → Int32) (A : Es) : Prop := RM f A ∧ IA A ∧ hr A ≤ 99999
def RepK (f : Nat → Int32) (v : Int32) (K : Es) (ik : Int) : Prop := v = iv ik ∧ (ik = 0 ∨ ik = 1) ∧ (ik = 1 → RepE f K)
def RepT (f : Nat → Int32) (v : Int32) (tq : Int → Int) (tn : Int) : Prop := v = iv tn ∧ 0 ≤ tn ∧ tn ≤ 120 ∧ ∀ i, 0 ≤ i → i < tn → f i.toNat = iv (tq i) ∧ 0 ≤ tq i ∧ tq i ≤ 255
def okB (bq sq : Int → Int) : Prop := (∀ i, 0 ≤ i → i < 4 → bq i = 0 ∨ bq i = 8 ∨ bq i = 16 ∨ bq i = 64) ∧ ∀ i, 0 ≤ i → i < 4 → 0 ≤ sq i ∧ sq i ≤ 40
def RepB (bt sz : Nat → Int32) (cl : Nat → Int64) (bq sq : Int → Int) (cq : Int → Int → Int64) : Prop := RF 4 bt bq ∧ RF 4 sz sq ∧ okB bq sq ∧ ∀ s k, 0 ≤ s → s < 4 → 0 ≤ k → k < 40 → cl (40 * s + k).toNat = cq s k
def RepM (G : Mc) (S : Sg) : Prop := RepE G.1 S.1 ∧ RepK G.2.1 G.2.2.2.1 S.2.1 S.2.2.1 ∧ RF 7 G.2.2.2.2.1 S.2.2.2.1 ∧ RepT G.2.2.2.2.2.2.1 G.2.2.2.2.2.2.2.1 S.2.2.2.2.1 S.2.2.2.2.2.1 ∧ RepB G.2.2.2.2.2.2.2.2.2.2.2.2.2.1 G.2.2.2.2.2.2.2.2.2.2.2.2.2.2.1 G.2.2.2.2.2.2.2.2.2.2.2.2.2.2.2 S.2.2.2.2.2.2.1 S.2.2.2.2.2.2.2.1 S.2.2.2.2.2.2.2.2
theorem mostk_y {may : Int → Bool} {val : Int → Int} {i w : Int} (i0 : 0 ≤ i) (hw : (mostk may val i.toNat).2 = w) (h : may i = true) (h2 : w < val i) : mostk may val (i + 1).toNat = (i, val i) := by
  rw [tn1 i0, mostk, tnc i0, if_pos ⟨h, by rw [hw]; exact h2⟩]
theorem mostk_n {may : Int → Bool} {val : Int → Int} {i w : Int} (i0 : 0 ≤ i) (hw : (mostk may val i.toNat).2 = w) (h : may i = true → val i ≤ w) : mostk may val (i + 1).toNat = mostk may val i.toNat := by
  rw [tn1 i0, mostk, tnc i0, if_neg (fun q => by have := h q.1; rw [hw] at q; omega)]
theorem leastk_y {may : Int → Bool} {val : Int → Int} {i b w : Int} (i0 : 0 ≤ i) (hm : leastk may val i.toNat = (b, w)) (h : may i = true) (h2 : b < 0 ∨ val i < w) : leastk may val (i + 1).toNat = (i, val i) := by
  rw [tn1 i0, leastk, tnc i0, if_pos ⟨h, by rw [hm]; exact h2⟩]
theorem leastk_n {may : Int → Bool} {val : Int → Int} {i b w : Int} (i0 : 0 ≤ i) (hm : leastk may val i.toNat = (b, w)) (h : may i = true → ¬ (b < 0 ∨ val i < w)) : leastk may val (i + 1).toNat = leastk may val i.toNat := by
  rw [tn1 i0, leastk, tnc i0, if_neg (fun q => h q.1 (by rw [hm] at q; exact q.2))]
theorem freeB_t {A : Es} {x c : Int} (h : onC A c < 0 ∨ onC A c = x) : freeB A x c = true := by simp [freeB, h]
theorem freeB_i {A : Es} {x c : Int} : freeB A x c = true ↔ (onC A c < 0 ∨ onC A c = x) := by simp [freeB]
theorem sw_IA {A : Es} (h : IA A) {x o : Int} (x0 : 0 ≤ x) (x1 : x < pe A) (o0 : 0 ≤ o) (o1 : o < pe A) (hxo : o ≠ x) (sx : 0 ≤ pr A 1 x) (so : 0 ≤ pr A 1 o) : IA (sw A x o) := by
  have at1 : ∀ w p, pr (sw A x o) w p = if w = 1 ∧ p = o then pr A 1 x else if w = 1 ∧ p = x then pr A 1 o else pr A w p := fun w p => rfl
  obtain ⟨h1, h2, h3, h4, h5, h6⟩ := h
  refine ⟨h1, h2, h3, h4, fun p p0 p1 => ?_, fun p q p0 p1 q0 q1 hpq hc => ?_⟩
  · have a := h5 p p0 p1
    have b := h5 x x0 x1
    have c := h5 o o0 o1
    simp only [at1]
    by_cases e1 : p = o
    · subst e1; simp; omega
    · by_cases e2 : p = x
      · subst e2; simp [e1]; omega
      · simp [e1, e2]; omega
  · have p1 : p < pe A := p1
    have q1 : q < pe A := q1
    simp only [at1, true_and] at hc ⊢
    have k := fun r t r0 r1 t0 t1 => h6 r t r0 r1 t0 t1
    by_cases e1 : p = o
    · subst e1
      rw [if_pos rfl] at hc ⊢
      rw [if_neg (fun e => hpq e.symm)]
      by_cases e2 : q = x
      · subst e2
        rw [if_pos rfl]
        exact k q p q0 q1 p0 p1 (fun e => hpq e.symm) sx
      · rw [if_neg e2]
        exact k x q x0 x1 q0 q1 (fun e => e2 e.symm) sx
    · rw [if_neg e1] at hc ⊢
      by_cases e2 : p = x
      · subst e2
        rw [if_pos rfl] at hc ⊢
        by_cases e3 : q = o
        · subst e3
          rw [if_pos rfl]
          exact k q p q0 q1 p0 p1 (fun e => hpq e.symm) so
        · rw [if_neg e3, if_neg (fun e => hpq e.symm)]
          exact k o q o0 o1 q0 q1 (fun e => e3 e.symm) so
      · rw [if_neg e2] at hc ⊢
        by_cases e3 : q = o
        · subst e3
          rw [if_pos rfl]
          exact k p x p0 p1 x0 x1 e2 hc
        · rw [if_neg e3]
          by_cases e4 : q = x
          · subst e4
            rw [if_pos rfl]
            exact k p o p0 p1 o0 o1 e1 hc
          · rw [if_neg e4]
            exact k p q p0 p1 q0 q1 hpq hc
theorem brnn_rng {A : Es} (h : IA A) (n : Nat) {p : Int} (h0 : 0 ≤ p) (h1 : p < pe A) : 0 ≤ brn (stepn A n) p ∧ brn (stepn A n) p ≤ 400 := brn_rng (stepn_IA h n) h0 (by rw [stepn_pe]; exact h1)
theorem vWhere_rng {A : Es} (h : IA A) {x n c : Int} (x0 : 0 ≤ x) (x1 : x < pe A) (c0 : 0 ≤ c) (c1 : c < 10) (hf : freeB A x c = true) : 0 ≤ vWhere A x n c ∧ vWhere A x n c ≤ 800 := by
  have := brnn_rng (IA_sit h x0 x1 (by omega) (by omega) (Or.inr (freeB_i.mp hf))) n.toNat x0 x1
  unfold vWhere
  omega
theorem vChange_rng {A : Es} (h : IA A) {x n o : Int} (x0 : 0 ≤ x) (x1 : x < pe A) (sx : 0 ≤ pr A 1 x) (o0 : 0 ≤ o) (o1 : o < pe A) (hf : mChange A x o = true) : 0 ≤ vChange A x n o ∧ vChange A x n o ≤ 800 := by
  have hf : o ≠ x ∧ 0 ≤ pr A 1 o := by simpa [mChange] using hf
  have hs := sw_IA h x0 x1 o0 o1 hf.1 sx hf.2
  have a := brnn_rng hs n.toNat x0 x1
  have b := brnn_rng hs n.toNat o0 o1
  unfold vChange
  omega
theorem vKind_rng {A : Es} (h : IA A) {x n k : Int} (x0 : 0 ≤ x) (x1 : x < pe A) (k0 : 0 ≤ k) (k1 : k < 6) : 0 ≤ vKind A x n k ∧ vKind A x n k ≤ 800 := by
  have := brnn_rng (IA_pu h x0 x1 (Or.inl ⟨rfl, k0, (by omega : k ≤ 5)⟩)) n.toNat x0 x1
  unfold vKind
  omega
theorem IA_goes {A : Es} (h : IA A) {p : Int} (p0 : 0 ≤ p) (p1 : p < pe A) : IA (pu A 1 p (-1)) := IA_pu h p0 p1 (Or.inr (Or.inr (Or.inr ⟨rfl, by omega, by omega, Or.inl (by omega)⟩)))
theorem vSend_rng {A : Es} (h : IA A) {n p : Int} (p0 : 0 ≤ p) (p1 : p < pe A) : 0 ≤ vSend A n p ∧ vSend A n p ≤ 1000000 := by
  have := sums_rng (stepn_IA (IA_goes h p0 p1) n.toNat) (w := 4) (by omega)
  unfold vSend
  omega
theorem allB_rng {A : Es} (h : IA A) : 0 ≤ allB A ∧ allB A ≤ 160000 := by
  have a := sums_rng h (w := 2) (by omega)
  have b := sums_rng h (w := 3) (by omega)
  unfold allB
  omega
theorem vCloud_rng {A : Es} (h : IA A) {n k : Int} : 0 ≤ vCloud A n k ∧ vCloud A n k ≤ 1000000 := by
  have := allB_rng (stepn_IA (IA_su h (i := k) (v := 0) (by omega) (by omega)) n.toNat)
  unfold vCloud
  omega
theorem vBest_rng {A : Es} (h : IA A) {n p : Int} (p0 : 0 ≤ p) (p1 : p < pe A) : 0 ≤ vBest A n p ∧ vBest A n p ≤ 800 := by
  have := brnn_rng h n.toNat p0 p1
  unfold vBest
  omega
