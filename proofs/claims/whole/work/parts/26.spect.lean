/-! ===== THE TEXT: tokens from a place on ===== -/
def isLt (c : Int) : Bool := decide (97 ≤ c ∧ c ≤ 122)
def isDg (c : Int) : Bool := decide (48 ≤ c ∧ c ≤ 57)
def isBl (c : Int) : Bool := decide (32 ≤ c ∧ c ≤ 32)
def runf (P : Int → Bool) (tq : Int → Int) (tn : Int) : Nat → Int → Int
  | 0, i => i
  | f + 1, i => if i < tn ∧ P (tq i) = true then runf P tq tn f (i + 1) else i
def run (P : Int → Bool) (tq : Int → Int) (tn i : Int) : Int := runf P tq tn (tn - i).toNat i
theorem run_step {P : Int → Bool} {tq : Int → Int} {tn i : Int} (h : i < tn) (h2 : P (tq i) = true) : run P tq tn i = run P tq tn (i + 1) := by
  unfold run
  rw [show (tn - i).toNat = (tn - (i + 1)).toNat + 1 by omega, runf, if_pos ⟨h, h2⟩]
theorem run_stop {P : Int → Bool} {tq : Int → Int} {tn i : Int} (h : ¬ (i < tn ∧ P (tq i) = true)) : run P tq tn i = i := by
  unfold run
  cases hn : (tn - i).toNat with
  | zero => rfl
  | succ n => rw [runf, if_neg h]
theorem runf_rng (P : Int → Bool) (tq : Int → Int) (tn : Int) : ∀ (f : Nat) (i : Int), i ≤ tn → i ≤ runf P tq tn f i ∧ runf P tq tn f i ≤ tn
  | 0, i, h => ⟨Int.le_refl _, h⟩
  | f + 1, i, h => by
    unfold runf
    split
    · next q => have := runf_rng P tq tn f (i + 1) (by omega); omega
    · omega
theorem run_rng (P : Int → Bool) (tq : Int → Int) {tn i : Int} (h : i ≤ tn) : i ≤ run P tq tn i ∧ run P tq tn i ≤ tn := runf_rng P tq tn _ i h
def wlen (w : Int) : Int := ([5, 7, 7, 4, 5, 4, 5, 2, 3, 4] : List Int).getD w.toNat 0
def namesZ (j : Int) : Int := (namesL.getD j.toNat 0).toInt
def eqk (tq : Int → Int) (w s : Int) : Nat → Bool
  | 0 => true
  | k + 1 => eqk tq w s k && decide (namesZ (7 * w + (k : Int)) = tq (s + (k : Int)))
def wEq (tq : Int → Int) (w s e : Int) : Bool := decide (e - s = wlen w) && eqk tq w s (wlen w).toNat
def wrdk (tq : Int → Int) (s e : Int) : Nat → Int → Int
  | 0, _ => 23
  | f + 1, w => if wEq tq w s e = true then w else wrdk tq s e f (w + 1)
def wrd (tq : Int → Int) (s e : Int) : Int := wrdk tq s e 10 0
theorem wrdk_rng (tq : Int → Int) (s e : Int) : ∀ (f : Nat) (w : Int), 0 ≤ w → w + (f : Int) ≤ 10 → (0 ≤ wrdk tq s e f w ∧ wrdk tq s e f w ≤ 9) ∨ wrdk tq s e f w = 23
  | 0, w, _, _ => Or.inr rfl
  | f + 1, w, h0, h1 => by
    unfold wrdk
    split
    · left; omega
    · exact wrdk_rng tq s e f (w + 1) (by omega) (by omega)
def tS (tq : Int → Int) (tn i : Int) : Int := run isBl tq tn i
def tE (tq : Int → Int) (tn i : Int) : Int := if tn ≤ tS tq tn i then tS tq tn i else if isLt (tq (tS tq tn i)) = true then run isLt tq tn (tS tq tn i) else if isDg (tq (tS tq tn i)) = true then run isDg tq tn (tS tq tn i) else tS tq tn i + 1
def tK (tq : Int → Int) (tn i : Int) : Int := if tn ≤ tS tq tn i then 22 else if isLt (tq (tS tq tn i)) = true then wrd tq (tS tq tn i) (run isLt tq tn (tS tq tn i)) else if isDg (tq (tS tq tn i)) = true then 20 else if tq (tS tq tn i) = 59 then 21 else 23
def nmk (tq : Int → Int) (s : Int) : Nat → Int
  | 0 => 0
  | k + 1 => if 1000 < 10 * nmk tq s k + tq (s + (k : Int)) - 48 then 1000 else 10 * nmk tq s k + tq (s + (k : Int)) - 48
def tV (tq : Int → Int) (tn i : Int) : Int := if tn ≤ tS tq tn i then 0 else if isLt (tq (tS tq tn i)) = true then 0 else if isDg (tq (tS tq tn i)) = true then nmk tq (tS tq tn i) (run isDg tq tn (tS tq tn i) - tS tq tn i).toNat else 0
/-- the reference's number, held otherwise -/
def CV (x v : Int) : Prop := 0 ≤ x ∧ x ≤ 9999 ∧ (x ≤ 999 → v = x) ∧ (999 < x → v = 1000)
theorem tok_rng (tq : Int → Int) {tn i : Int} (i0 : 0 ≤ i) (h : i ≤ tn) : i ≤ tS tq tn i ∧ tS tq tn i ≤ tn ∧ tS tq tn i ≤ tE tq tn i ∧ tE tq tn i ≤ tn ∧ 0 ≤ tK tq tn i ∧ tK tq tn i ≤ 23 ∧ (tK tq tn i = 22 ∨ tS tq tn i < tE tq tn i) := by
  have h1 := run_rng isBl tq h
  have h2 : i ≤ tS tq tn i ∧ tS tq tn i ≤ tn := h1
  have hw := wrdk_rng tq (tS tq tn i) (run isLt tq tn (tS tq tn i)) 10 0 (by omega) (by omega)
  refine ⟨h2.1, h2.2, ?_⟩
  unfold tE tK
  by_cases a : tn ≤ tS tq tn i
  · rw [if_pos a, if_pos a]; exact ⟨Int.le_refl _, h2.2, by omega, by omega, Or.inl rfl⟩
  · rw [if_neg a, if_neg a]
    by_cases b : isLt (tq (tS tq tn i)) = true
    · simp only [if_pos b]
      have h3 := run_rng isLt tq (i := tS tq tn i + 1) (tn := tn) (by omega)
      rw [← run_step (by omega) b] at h3
      unfold wrd
      omega
    · simp only [if_neg b]
      by_cases c : isDg (tq (tS tq tn i)) = true
      · simp only [if_pos c]
        have h3 := run_rng isDg tq (i := tS tq tn i + 1) (tn := tn) (by omega)
        rw [← run_step (by omega) c] at h3
        omega
      · simp only [if_neg c]
        split <;> omega
/-! items -/
def on_item (tq : Int → Int) (tn : Int) (A : Es) (k b i : Int) : Bool × Es × Int :=
  if tK tq tn i = 7 then (if tK tq tn (tE tq tn i) = 20 ∧ tV tq tn (tE tq tn i) ≤ 9 ∧ onC A (tV tq tn (tE tq tn i)) < 0 then (true, nwc A k b (tV tq tn (tE tq tn i)), tE tq tn (tE tq tn i)) else (false, A, tE tq tn i)) else (true, nwc A k b (-1), i)
def p_item (tq : Int → Int) (tn : Int) (A : Es) (i : Int) : Bool × Es × Int :=
  if pe A = 8 then (false, A, i) else if tK tq tn (tE tq tn i) = 6 then (if tK tq tn (tE tq tn (tE tq tn i)) = 20 ∧ tV tq tn (tE tq tn (tE tq tn i)) ≤ 200 then on_item tq tn A (tK tq tn i) (tV tq tn (tE tq tn (tE tq tn i))) (tE tq tn (tE tq tn (tE tq tn i))) else (false, A, tE tq tn (tE tq tn i))) else on_item tq tn A (tK tq tn i) 20 (tE tq tn i)
def s_item (tq : Int → Int) (tn : Int) (A : Es) (i : Int) : Bool × Es × Int :=
  if tK tq tn i = 20 ∧ tV tq tn i ≤ 9 then (if tK tq tn (tE tq tn i) = 20 ∧ tV tq tn (tE tq tn i) ≤ 9 then (true, su A (tV tq tn i) (tV tq tn (tE tq tn i)), tE tq tn (tE tq tn i)) else (false, A, tE tq tn i)) else (false, A, i)
def g_item (tq : Int → Int) (tn : Int) (A : Es) (i : Int) : Bool × Es × Int :=
  if tK tq tn i = 20 ∧ tV tq tn i ≤ pe A - 1 then (true, pu A 1 (tV tq tn i) (-1), tE tq tn i) else (false, A, i)
def itm (tq : Int → Int) (tn : Int) (A : Es) (i : Int) : Bool × Es × Int :=
  if tK tq tn i ≤ 5 then p_item tq tn A i else if tK tq tn i = 8 then s_item tq tn A (tE tq tn i) else if tK tq tn i = 9 then g_item tq tn A (tE tq tn i) else (false, A, i)
/-- from an item on: whether it reads, what there is then, how many items or the place of the fault -/
def prs (tq : Int → Int) (tn : Int) : Nat → Es → Int → Int → Bool × Es × Int
  | 0, A, i, _ => (false, A, tS tq tn i)
  | f + 1, A, i, n => if (itm tq tn A i).1 = true then (if tK tq tn (itm tq tn A i).2.2 = 22 then (true, (itm tq tn A i).2.1, n) else if tK tq tn (itm tq tn A i).2.2 = 21 then prs tq tn f (itm tq tn A i).2.1 (tE tq tn (itm tq tn A i).2.2) (n + 1) else (false, A, tS tq tn (itm tq tn A i).2.2)) else (false, A, tS tq tn (itm tq tn A i).2.2)
def q_esp (tq : Int → Int) (tn : Int) (A : Es) : Int × Es := if (prs tq tn 130 A 0 1).1 = true then ((prs tq tn 130 A 0 1).2.2, (prs tq tn 130 A 0 1).2.1) else (-1 - (prs tq tn 130 A 0 1).2.2, A)
def btb (b : Bool) : Int := if b = true then 0 else 1
theorem CV_le {x v m : Int} (h : CV x v) (hm : m ≤ 999) : x ≤ m ↔ v ≤ m := by
  obtain ⟨h0, h1, h2, h3⟩ := h
  by_cases q : x ≤ 999
  · rw [h2 q]
  · rw [h3 (by omega)]; omega
theorem CV_eq {x v m : Int} (h : CV x v) (hm : m ≤ 999) (hx : x ≤ m) : v = x := h.2.2.1 (by omega)
theorem CV_nn {x v : Int} (h : CV x v) : 0 ≤ v ∧ v ≤ 1000 := by
  obtain ⟨h0, h1, h2, h3⟩ := h
  by_cases q : x ≤ 999
  · rw [h2 q]; omega
  · rw [h3 (by omega)]; omega
/-! names -/
theorem names_0 : ∀ w : Fin 10, ∀ k : Fin 7, (namesZ (7 * (w.val : Int) + (k.val : Int)) = 0) ↔ wlen (w.val : Int) ≤ (k.val : Int) := by decide +kernel
theorem wlen_rng : ∀ w : Fin 10, 2 ≤ wlen (w.val : Int) ∧ wlen (w.val : Int) ≤ 7 := by decide +kernel
theorem names_z {w k : Int} (w0 : 0 ≤ w) (w1 : w < 10) (k0 : 0 ≤ k) (k1 : k < 7) : namesZ (7 * w + k) = 0 ↔ wlen w ≤ k := by
  have h := names_0 ⟨w.toNat, by omega⟩ ⟨k.toNat, by omega⟩
  simpa [tnc w0, tnc k0] using h
theorem wlen_r {w : Int} (w0 : 0 ≤ w) (w1 : w < 10) : 2 ≤ wlen w ∧ wlen w ≤ 7 := by
  have h := wlen_rng ⟨w.toNat, by omega⟩
  simpa [tnc w0] using h
theorem eqk_get {tq : Int → Int} {w s : Int} : ∀ {n : Nat}, eqk tq w s n = true → ∀ k : Int, 0 ≤ k → k < n → namesZ (7 * w + k) = tq (s + k)
  | 0, _, k, _, h => absurd h (by omega)
  | n + 1, h, k, k0, k1 => by
    unfold eqk at h
    simp only [Bool.and_eq_true, decide_eq_true_eq] at h
    by_cases e : k = n
    · rw [e]; exact h.2
    · exact eqk_get h.1 k k0 (by omega)
theorem name_iff {tq : Int → Int} {w s e : Int} (w0 : 0 ≤ w) (w1 : w < 10) (he : s ≤ e) (hl : ∀ k, s ≤ k → k < e → tq k ≠ 0) : (((e - s ≤ 7 ∧ (e - s = 7 ∨ namesZ (7 * w + (e - s)) = 0)) ∧ eqk tq w s (e - s).toNat = true) ↔ wEq tq w s e = true) := by
  have hr := wlen_r w0 w1
  unfold wEq
  simp only [Bool.and_eq_true, decide_eq_true_eq]
  constructor
  · rintro ⟨⟨h1, h2⟩, h3⟩
    have e1 : e - s = wlen w := by
      have a : wlen w ≤ e - s := by
        rcases h2 with h2 | h2
        · omega
        · by_cases h7 : e - s = 7
          · omega
          · exact (names_z w0 w1 (by omega) (by omega)).mp h2
      have b : ¬ wlen w < e - s := fun hb => by
        have q := eqk_get h3 (wlen w) (by omega) (by omega)
        have z := (names_z w0 w1 (k := wlen w) (by omega) (by omega)).mpr (Int.le_refl _)
        rw [z] at q
        exact hl (s + wlen w) (by omega) (by omega) q.symm
      omega
    rw [← e1]
    exact ⟨rfl, h3⟩
  · rintro ⟨h1, h2⟩
    rw [h1]
    refine ⟨⟨hr.2, ?_⟩, h2⟩
    by_cases h7 : wlen w = 7
    · exact Or.inl h7
    · exact Or.inr ((names_z w0 w1 (by omega) (by omega)).mpr (Int.le_refl _))
