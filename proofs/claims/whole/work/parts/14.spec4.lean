/-! ===== steps of the reference's own ===== -/
def nwc (A : Es) (k b c : Int) : Es := (hr A, pe A + 1, sn A, fun w p => if p = pe A then (if w = 0 then k else if w = 1 then c else if w = 4 then 0 else b) else pr A w p)
theorem nwc_at (A : Es) (k b c w p : Int) : pr (nwc A k b c) w p = if p = pe A then (if w = 0 then k else if w = 1 then c else if w = 4 then 0 else b) else pr A w p := rfl
theorem nw_nwc (A : Es) (k b : Int) : nw A k b = nwc A k b (-1) := rfl
def inc1 (f : Nat → Int32) (A : Es) : Es := (hr A, pe A + 1, sn A, fun w p => if p = pe A then (f (12 + 5 * p + w).toNat).toInt else pr A w p)
theorem RM_inc {f : Nat → Int32} {A : Es} (h : RM f A) (n0 : 0 ≤ pe A) : RM (upd f (1 : Int).toNat (iv (pe A + 1))) (inc1 f A) := by
  refine ⟨?_, upd_eq, fun i i0 i1 => ?_, fun w p a0 a1 b0 b1 => ?_⟩
  · rw [upd_ne (by decide)]; exact h.1
  · rw [upd_ne (by show ¬ _ = 1; omega)]; exact h.2.2.1 i i0 i1
  · rw [upd_ne (by show ¬ _ = 1; omega)]
    show _ = iv (if p = pe A then (f (12 + 5 * p + w).toNat).toInt else pr A w p)
    have b1 : p < pe A + 1 := b1
    split
    · exact (iv_of _).symm
    · exact h.2.2.2 w p a0 a1 b0 (by omega)
theorem RM_nwc {u f : Nat → Int32} {A : Es} {k b c : Int} (n0 : 0 ≤ pe A) (h : RM u (pu (pu (pu (pu (pu (inc1 f A) 0 (pe A) k) 1 (pe A) c) 2 (pe A) b) 3 (pe A) b) 4 (pe A) 0)) : RM u (nwc A k b c) := by
  refine RM_congr h rfl rfl (fun _ _ _ => rfl) (fun w p w0 w1 p0 p1 => ?_)
  rw [pu_at, pu_at, pu_at, pu_at, pu_at, nwc_at]
  show _ = _
  by_cases hp : p = pe A
  · subst hp
    rcases (show w = 0 ∨ w = 1 ∨ w = 2 ∨ w = 3 ∨ w = 4 by omega) with rfl | rfl | rfl | rfl | rfl <;> simp
  · simp only [hp, and_false, if_false]
    show (if p = pe A then _ else _) = _
    rw [if_neg hp]
/-- an hour, as far as k sides are through -/
def midv (A : Es) (k w p : Int) : Int := if 0 ≤ pr A 1 p then (if w = 2 then (if 2 * p < k then nside A p 0 else pr A 2 p) else if w = 3 then (if 2 * p + 1 < k then nside A p 1 else pr A 3 p) else if w = 4 then (if 2 * p + 1 < k then nburn A p else if 2 * p < k then bn1 (pr A 0 p) (gv A p 0) (pr A 4 p) else pr A 4 p) else pr A w p) else pr A w p
def mid (A : Es) (k : Int) : Es := (hr A, pe A, sn A, midv A k)
theorem mid_at (A : Es) (k w p : Int) : pr (mid A k) w p = midv A k w p := rfl
theorem mid_01 (A : Es) (k p : Int) : pr (mid A k) 0 p = pr A 0 p ∧ pr (mid A k) 1 p = pr A 1 p := by
  rw [mid_at, mid_at]; unfold midv; constructor <;> (split <;> simp)
theorem onk_congr {A B : Es} (h : ∀ p, pr A 1 p = pr B 1 p) (c : Int) : ∀ k : Nat, onk A c k = onk B c k
  | 0 => rfl
  | k + 1 => by unfold onk; rw [h, onk_congr h c k]
theorem nb_congr {A B : Es} (hn : pe A = pe B) (h : ∀ p, pr A 1 p = pr B 1 p) (p d : Int) : nb A p d = nb B p d := by
  unfold nb onC; rw [h, hn, onk_congr h]
theorem fdO_congr {A B : Es} (h0 : hr A = hr B) (hs : sn A = sn B) (hn : pe A = pe B) (h : ∀ p, pr A 1 p = pr B 1 p) {p : Int} (hk : pr A 0 p = pr B 0 p) : fdO A p = fdO B p := by
  unfold fdO sunN; simp only [nb_congr hn h, hk, h0, hs]
theorem mid_fd (A : Es) (k p : Int) : fdO (mid A k) p = fdO A p := fdO_congr (A := mid A k) (B := A) rfl rfl rfl (fun q => (mid_01 A k q).2) (mid_01 A k p).1
theorem bn1_rng {k g b : Int} : 0 ≤ bn1 k g b ∧ bn1 k g b ≤ 9999 := held_rng (by omega)
theorem nside_rng (A : Es) (p d : Int) : 0 ≤ nside A p d ∧ nside A p d ≤ 200 := held_rng (by omega)
theorem mid_IA {A : Es} (h : IA A) (k : Int) : IA (mid A k) := by
  obtain ⟨h1, h2, h3, h4, h5, h6⟩ := h
  refine ⟨h1, h2, h3, h4, fun p p0 p1 => ?_, fun p q p0 p1 q0 q1 hpq hc => ?_⟩
  · have := h5 p p0 p1
    have e := mid_01 A k p
    rw [e.1, e.2, mid_at, mid_at, mid_at]
    have n0 := nside_rng A p 0
    have n1 := nside_rng A p 1
    have n2 : 0 ≤ nburn A p ∧ nburn A p ≤ 9999 := bn1_rng
    have n3 := bn1_rng (k := pr A 0 p) (g := gv A p 0) (b := pr A 4 p)
    unfold midv
    refine ⟨this.1, this.2.1, this.2.2.1, this.2.2.2.1, ?_⟩
    by_cases hc : 0 ≤ pr A 1 p
    · simp only [if_pos hc]
      simp only [if_true, show ¬ (3 : Int) = 2 by decide, show ¬ (4 : Int) = 2 by decide, show ¬ (4 : Int) = 3 by decide, if_false]
      refine ⟨?_, ?_, ?_, ?_, ?_, ?_⟩ <;> (repeat' split) <;> omega
    · simp only [if_neg hc]; omega
  · rw [(mid_01 A k p).2] at hc ⊢
    rw [(mid_01 A k q).2]
    exact h6 p q p0 p1 q0 q1 hpq hc
theorem mid_0 (A : Es) {w p : Int} (p0 : 0 ≤ p) : pr (mid A 0) w p = pr A w p := by
  rw [mid_at]; unfold midv
  split
  · rw [if_neg (by omega : ¬ 2 * p < 0), if_neg (by omega : ¬ 2 * p + 1 < 0)]
    rw [if_neg (by omega : ¬ 2 * p + 1 < 0), if_neg (by omega : ¬ 2 * p < 0)]
    split
    · next h => rw [h]
    · split
      · next h => rw [h]
      · split
        · next h => rw [h]
        · rfl
  · rfl
theorem mid_end {f : Nat → Int32} {A : Es} (h : RM f (mid A (2 * pe A))) : RM (upd f (0 : Int).toNat (iv (hr A + 1))) (step A) := by
  refine RM_congr (RM_hr h (v := hr A + 1)) rfl rfl (fun _ _ _ => rfl) (fun w p w0 w1 p0 p1 => ?_)
  show pr (mid A (2 * pe A)) w p = _
  have p1 : p < pe A := p1
  rw [mid_at, step_at]
  unfold midv
  rw [if_pos (by omega : 2 * p < 2 * pe A), if_pos (by omega : 2 * p + 1 < 2 * pe A), if_pos (by omega : 2 * p + 1 < 2 * pe A)]
/-- one side more, of one that sits -/
theorem mid_sit {A : Es} {k p d : Int} (hk : k = 2 * p + d) (d0 : 0 ≤ d) (d1 : d ≤ 1) (hc : 0 ≤ pr A 1 p) {w q : Int} (w0 : 0 ≤ w) (w1 : w < 5) :
    pr (pu (pu (mid A k) (2 + d) p (nside A p d)) 4 p (bn1 (pr A 0 p) (gv A p d) (pr (mid A k) 4 p))) w q = pr (mid A (k + 1)) w q := by
  rw [pu_at, pu_at, mid_at, mid_at, mid_at]
  by_cases hq : q = p
  · subst hq
    unfold midv
    simp only [if_pos hc]
    rcases (show d = 0 ∨ d = 1 by omega) with rfl | rfl
    · rcases (show w = 0 ∨ w = 1 ∨ w = 2 ∨ w = 3 ∨ w = 4 by omega) with rfl | rfl | rfl | rfl | rfl
      · simp
      · simp
      · simp; omega
      · simp
        rw [if_neg (by omega), if_neg (by omega)]
      · simp
        rw [if_neg (by omega), if_neg (by omega), if_neg (by omega), if_pos (by omega)]
    · rcases (show w = 0 ∨ w = 1 ∨ w = 2 ∨ w = 3 ∨ w = 4 by omega) with rfl | rfl | rfl | rfl | rfl
      · simp
      · simp
      · simp
        rw [if_pos (by omega), if_pos (by omega)]
      · simp; omega
      · simp
        rw [if_neg (by omega), if_pos (by omega), if_pos (by omega)]
        rfl
  · simp only [hq, and_false, if_false]
    unfold midv
    simp only [show (2 * q < k ↔ 2 * q < k + 1) by omega, show (2 * q + 1 < k ↔ 2 * q + 1 < k + 1) by omega]
theorem mid_not {A : Es} {k p d : Int} (hk : k = 2 * p + d) (d0 : 0 ≤ d) (d1 : d ≤ 1) (hc : ¬ 0 ≤ pr A 1 p) {w q : Int} : pr (mid A k) w q = pr (mid A (k + 1)) w q := by
  rw [mid_at, mid_at]
  unfold midv
  by_cases hq : q = p
  · subst hq; rw [if_neg hc, if_neg hc]
  · simp only [show (2 * q < k ↔ 2 * q < k + 1) by omega, show (2 * q + 1 < k ↔ 2 * q + 1 < k + 1) by omega]
