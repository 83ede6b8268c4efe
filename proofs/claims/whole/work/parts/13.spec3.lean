/-! ===== what each call answers and does: the one mathematical value ===== -/
def bump (f : Int → Int) (k : Int) : Int → Int := fun j => if j = k then f j + 1 else f j
def fz (k : Int) : Int := -1000000001 - k
abbrev T3 : Type := Int × Es × (Int → Int)
def bad3 (A : Es) (f : Int → Int) (k : Int) : T3 := (fz k, A, bump f k)
abbrev isP (A : Es) (x : Int) : Prop := 0 ≤ x ∧ x < pe A
def q_sun (A : Es) (f : Int → Int) (x v : Int) : T3 := if (0 ≤ x ∧ x ≤ 9) ∧ (0 ≤ v ∧ v ≤ 9) then (sn A x, su A x v, f) else bad3 A f 0
def q_chair (A : Es) (f : Int → Int) (x : Int) : T3 := if 0 ≤ x ∧ x ≤ 9 then (onC A x, A, f) else bad3 A f 0
def q_now (A : Es) (f : Int → Int) (w : Int) : T3 := if w = 0 then (hr A, A, f) else if w = 1 then (hr A % 10, A, f) else if w = 2 then (sunN A, A, f) else if w = 3 then (setS A, A, f) else if w = 4 then (setE A, A, f) else if w = 5 then (allB A, A, f) else if w = 6 then (sums A 4, A, f) else bad3 A f 0
def q_person (A : Es) (f : Int → Int) (k : Int) : T3 := if ¬ (0 ≤ k ∧ k ≤ 5) then bad3 A f 0 else if pe A = 8 then bad3 A f 1 else (pe A, nw A k 20, f)
def q_of (A : Es) (f : Int → Int) (x w : Int) : T3 := if ¬ (isP A x ∧ 0 ≤ w ∧ w ≤ 8) then bad3 A f 0 else if w = 5 then (fdO A x, A, f) else if w = 6 then (burnF (pr A 0 x), A, f) else if w = 7 then (nb A x (-1), A, f) else if w = 8 then (nb A x 1, A, f) else (pr A w x, A, f)
def q_set (A : Es) (f : Int → Int) (x w v : Int) : T3 := if isP A x ∧ (2 ≤ w ∧ w ≤ 4) ∧ (0 ≤ v ∧ v ≤ (if w = 4 then 9999 else 200)) then (pr A w x, pu A w x v, f) else bad3 A f 0
def q_turn (A : Es) (f : Int → Int) (x k : Int) : T3 := if isP A x ∧ (0 ≤ k ∧ k ≤ 5) then (pr A 0 x, pu A 0 x k, f) else bad3 A f 0
def q_as (A : Es) (f : Int → Int) (x k : Int) : T3 := if ¬ (isP A x ∧ (0 ≤ k ∧ k ≤ 5)) then bad3 A f 0 else if k = 0 ∨ k = pr A 0 x ∨ (k = 2 ∧ pr A 0 x = 4) ∨ (k = 1 ∧ pr A 0 x = 5) then (brn A x, A, f) else bad3 A f 2
def q_sit (A : Es) (f : Int → Int) (x c : Int) : T3 := if ¬ (isP A x ∧ (-1 ≤ c ∧ c ≤ 9)) then bad3 A f 0 else if c < 0 ∨ onC A c < 0 ∨ onC A c = x then (pr A 1 x, pu A 1 x c, f) else bad3 A f 4
def q_given (A : Es) (f : Int → Int) (x d : Int) : T3 := if isP A x ∧ (0 ≤ d ∧ d ≤ 1) then (gv A x d, A, f) else bad3 A f 0
def q_hours (A : Es) (f : Int → Int) (n : Int) : T3 := if ¬ (1 ≤ n ∧ n ≤ 100) then bad3 A f 0 else if 99999 < hr A + n then bad3 A f 4 else (allB (stepn A n.toNat), stepn A n.toNat, f)
def q_on (A : Es) (f : Int → Int) (x n w : Int) : T3 := if isP A x ∧ (0 ≤ n ∧ n ≤ 200) ∧ (0 ≤ w ∧ w ≤ 2) then (pr (stepn A n.toNat) (2 + w) x, A, f) else bad3 A f 0
/-- the first from k on with P, of so many; else the one behind them -/
def fnd (P : Nat → Bool) (k : Nat) : Nat → Nat
  | 0 => k
  | n + 1 => if P k = true then k else fnd P (k + 1) n
def pBrown (A : Es) (x v : Int) (n : Nat) : Bool := decide (v ≤ brn (stepn A n) x)
def pBurns (A : Es) (x : Int) (n : Nat) : Bool := decide (pr (stepn A n) 4 x ≠ pr A 4 x)
def pEven (A : Es) (x : Int) (n : Nat) : Bool := evB (stepn A n) x
def pEnough (A : Es) (x o n v : Int) (k : Nat) : Bool := decide (v ≤ brn (stepn (pu A 2 x (k : Int)) n.toNat) o)
def q_brown (A : Es) (f : Int → Int) (x v : Int) : T3 := if ¬ (isP A x ∧ (0 ≤ v ∧ v ≤ 400)) then bad3 A f 0 else if 200 < fnd (pBrown A x v) 0 201 then bad3 A f 3 else ((fnd (pBrown A x v) 0 201 : Nat), A, f)
def q_burns (A : Es) (f : Int → Int) (x : Int) : T3 := if ¬ isP A x then bad3 A f 0 else if 200 < fnd (pBurns A x) 1 200 then bad3 A f 3 else ((fnd (pBurns A x) 1 200 : Nat), A, f)
def q_even (A : Es) (f : Int → Int) (x : Int) : T3 := if ¬ isP A x then bad3 A f 0 else if 200 < fnd (pEven A x) 0 201 then bad3 A f 3 else ((fnd (pEven A x) 0 201 : Nat), A, f)
/-- the most, of several the least: of the first k, those that may -/
def mostk (may : Int → Bool) (val : Int → Int) : Nat → Int × Int
  | 0 => (-1, -1)
  | k + 1 => if may (k : Int) = true ∧ (mostk may val k).2 < val (k : Int) then ((k : Int), val (k : Int)) else mostk may val k
def leastk (may : Int → Bool) (val : Int → Int) : Nat → Int × Int
  | 0 => (-1, 0)
  | k + 1 => if may (k : Int) = true ∧ ((leastk may val k).1 < 0 ∨ val (k : Int) < (leastk may val k).2) then ((k : Int), val (k : Int)) else leastk may val k
def orN (A : Es) (f : Int → Int) (b : Int) : T3 := if b < 0 then bad3 A f 3 else (b, A, f)
def sw (A : Es) (x o : Int) : Es := pu (pu A 1 x (pr A 1 o)) 1 o (pr A 1 x)
def freeB (A : Es) (x c : Int) : Bool := decide (onC A c < 0 ∨ onC A c = x)
def vWhere (A : Es) (x n c : Int) : Int := brn (stepn (pu A 1 x c) n.toNat) x
def mChange (A : Es) (x o : Int) : Bool := decide (o ≠ x ∧ 0 ≤ pr A 1 o)
def vChange (A : Es) (x n o : Int) : Int := brn (stepn (sw A x o) n.toNat) x + brn (stepn (sw A x o) n.toNat) o
def vKind (A : Es) (x n k : Int) : Int := brn (stepn (pu A 0 x k) n.toNat) x
def vSend (A : Es) (n p : Int) : Int := sums (stepn (pu A 1 p (-1)) n.toNat) 4
def vCloud (A : Es) (n k : Int) : Int := allB (stepn (su A k 0) n.toNat)
def vBest (A : Es) (n p : Int) : Int := brn (stepn A n.toNat) p
def tt1 (_ : Int) : Bool := true
def q_where (A : Es) (f : Int → Int) (x n : Int) : T3 := if ¬ (isP A x ∧ (1 ≤ n ∧ n ≤ 60)) then bad3 A f 0 else ((mostk (freeB A x) (vWhere A x n) 10).1, A, f)
def q_change (A : Es) (f : Int → Int) (x n : Int) : T3 := if ¬ (isP A x ∧ (1 ≤ n ∧ n ≤ 60)) then bad3 A f 0 else if pr A 1 x < 0 then bad3 A f 4 else orN A f (mostk (mChange A x) (vChange A x n) (pe A).toNat).1
def q_kind (A : Es) (f : Int → Int) (x n : Int) : T3 := if ¬ (isP A x ∧ (1 ≤ n ∧ n ≤ 60)) then bad3 A f 0 else ((mostk tt1 (vKind A x n) 6).1, A, f)
def q_send (A : Es) (f : Int → Int) (n : Int) : T3 := if ¬ (1 ≤ n ∧ n ≤ 60) then bad3 A f 0 else orN A f (leastk (sitB A) (vSend A n) (pe A).toNat).1
def q_cloud (A : Es) (f : Int → Int) (n : Int) : T3 := if ¬ (1 ≤ n ∧ n ≤ 60) then bad3 A f 0 else ((leastk tt1 (vCloud A n) 10).1, A, f)
def q_enough (A : Es) (f : Int → Int) (x o n v : Int) : T3 := if ¬ (((0 ≤ x ∧ x < pe A) ∧ (0 ≤ o ∧ o < pe A) ∧ x ≠ o) ∧ (1 ≤ n ∧ n ≤ 60) ∧ (0 ≤ v ∧ v ≤ 400)) then bad3 A f 0 else if 200 < fnd (pEnough A x o n v) 0 201 then bad3 A f 3 else ((fnd (pEnough A x o n v) 0 201 : Nat), A, f)
def q_brownest (A : Es) (f : Int → Int) (n : Int) : T3 := if ¬ (0 ≤ n ∧ n ≤ 200) then bad3 A f 0 else orN A f (mostk tt1 (vBest A n) (pe A).toNat).1
theorem fnd_le (P : Nat → Bool) : ∀ (n k : Nat), k ≤ fnd P k n ∧ fnd P k n ≤ k + n
  | 0, k => by simp [fnd]
  | n + 1, k => by
    have := fnd_le P n (k + 1)
    unfold fnd
    split <;> omega
theorem fnd_yes {P : Nat → Bool} {n k : Nat} (h : P k = true) : fnd P k (n + 1) = k := by unfold fnd; rw [if_pos h]
theorem fnd_no {P : Nat → Bool} {n k : Nat} (h : ¬ P k = true) : fnd P k (n + 1) = fnd P (k + 1) n := by conv => lhs; unfold fnd; rw [if_neg h]
theorem mostk_rng {may : Int → Bool} {val : Int → Int} : ∀ k : Nat, (∀ j : Int, 0 ≤ j → j < k → may j = true → 0 ≤ val j ∧ val j ≤ 800) → -1 ≤ (mostk may val k).1 ∧ (mostk may val k).1 < k + 1 ∧ -1 ≤ (mostk may val k).2 ∧ (mostk may val k).2 ≤ 800 ∧ ((mostk may val k).1 = -1 ∨ (mostk may val k).1 < k)
  | 0, _ => by simp [mostk]
  | k + 1, h => by
    have ih := mostk_rng k (fun j h0 h1 => h j h0 (by omega))
    unfold mostk
    split
    · next q => have := h (k : Int) (by omega) (by omega) q.1; dsimp only; omega
    · omega
theorem leastk_rng {may : Int → Bool} {val : Int → Int} : ∀ k : Nat, (∀ j : Int, 0 ≤ j → j < k → may j = true → 0 ≤ val j ∧ val j ≤ 1000000) → -1 ≤ (leastk may val k).1 ∧ (leastk may val k).1 < k + 1 ∧ 0 ≤ (leastk may val k).2 ∧ (leastk may val k).2 ≤ 1000000 ∧ ((leastk may val k).1 = -1 ∨ (leastk may val k).1 < k)
  | 0, _ => by simp [leastk]
  | k + 1, h => by
    have ih := leastk_rng k (fun j h0 h1 => h j h0 (by omega))
    unfold leastk
    split
    · next q => have := h (k : Int) (by omega) (by omega) q.1; dsimp only; omega
    · omega
/-! ===== pictures ===== -/
theorem pu_at (A : Es) (w p v w' p' : Int) : pr (pu A w p v) w' p' = if w' = w ∧ p' = p then v else pr A w' p' := rfl
theorem su_at (A : Es) (i v j : Int) : sn (su A i v) j = if j = i then v else sn A j := rfl
theorem nw_at (A : Es) (k b w p : Int) : pr (nw A k b) w p = if p = pe A then (if w = 0 then k else if w = 1 then -1 else if w = 4 then 0 else b) else pr A w p := rfl
theorem step_at (A : Es) (w p : Int) : pr (step A) w p = if 0 ≤ pr A 1 p then (if w = 2 then nside A p 0 else if w = 3 then nside A p 1 else if w = 4 then nburn A p else pr A w p) else pr A w p := rfl
def RF (n : Int) (f : Nat → Int32) (g : Int → Int) : Prop := ∀ i : Int, 0 ≤ i → i < n → f i.toNat = iv (g i)
theorem tn_ne {i j : Int} (hi : 0 ≤ i) (hj : 0 ≤ j) (h : i ≠ j) : ¬ i.toNat = j.toNat := by omega
theorem RF_bump {n : Int} {f : Nat → Int32} {g : Int → Int} {k : Int} (h : RF n f g) (k0 : 0 ≤ k) : RF n (upd f k.toNat (iv (g k + 1))) (bump g k) := by
  intro i i0 i1
  unfold upd bump
  by_cases hk : i = k
  · subst hk; rw [if_pos rfl, if_pos rfl]
  · rw [if_neg (tn_ne i0 k0 hk), if_neg hk]; exact h i i0 i1
theorem upd_ne {f : Nat → Int32} {k j : Nat} {x : Int32} (h : j ≠ k) : upd f k x j = f j := if_neg h
theorem upd_eq {f : Nat → Int32} {k : Nat} {x : Int32} : upd f k x k = x := if_pos rfl
theorem RM_pu {f : Nat → Int32} {A : Es} (h : RM f A) {w p v : Int} (w0 : 0 ≤ w) (w1 : w < 5) (p0 : 0 ≤ p) (p1 : p < pe A) : RM (upd f (12 + 5 * p + w).toNat (iv v)) (pu A w p v) := by
  refine ⟨?_, ?_, fun i i0 i1 => ?_, fun w' p' a0 a1 b0 b1 => ?_⟩
  · rw [upd_ne (by omega)]; exact h.1
  · rw [upd_ne (by omega)]; exact h.2.1
  · rw [upd_ne (by omega)]; exact h.2.2.1 i i0 i1
  · by_cases hq : w' = w ∧ p' = p
    · obtain ⟨rfl, rfl⟩ := hq
      rw [upd_eq, pu_at, if_pos ⟨rfl, rfl⟩]
    · rw [upd_ne (by omega)]
      show _ = iv (if w' = w ∧ p' = p then v else pr A w' p')
      rw [if_neg hq]
      exact h.2.2.2 w' p' a0 a1 b0 b1
theorem RM_su {f : Nat → Int32} {A : Es} (h : RM f A) {i v : Int} (i0 : 0 ≤ i) (i1 : i < 10) : RM (upd f (2 + i).toNat (iv v)) (su A i v) := by
  refine ⟨?_, ?_, fun j j0 j1 => ?_, fun w' p' a0 a1 b0 b1 => ?_⟩
  · rw [upd_ne (by omega)]; exact h.1
  · rw [upd_ne (by omega)]; exact h.2.1
  · show _ = iv (if j = i then v else sn A j)
    by_cases hq : j = i
    · subst hq; rw [upd_eq, if_pos rfl]
    · rw [upd_ne (by omega), if_neg hq]; exact h.2.2.1 j j0 j1
  · rw [upd_ne (by omega)]; exact h.2.2.2 w' p' a0 a1 b0 b1
theorem RM_hr {f : Nat → Int32} {A : Es} (h : RM f A) {v : Int} : RM (upd f (0 : Int).toNat (iv v)) (v, A.2) := by
  refine ⟨upd_eq, ?_, fun j j0 j1 => ?_, fun w' p' a0 a1 b0 b1 => ?_⟩
  · rw [upd_ne (by decide)]; exact h.2.1
  · rw [upd_ne (by show ¬ _ = 0; omega)]; exact h.2.2.1 j j0 j1
  · rw [upd_ne (by show ¬ _ = 0; omega)]; exact h.2.2.2 w' p' a0 a1 b0 b1
theorem RM_congr {f : Nat → Int32} {A B : Es} (h : RM f A) (e1 : hr A = hr B) (e2 : pe A = pe B) (e3 : ∀ i, 0 ≤ i → i < 10 → sn A i = sn B i) (e4 : ∀ w p, 0 ≤ w → w < 5 → 0 ≤ p → p < pe A → pr A w p = pr B w p) : RM f B :=
  ⟨by rw [← e1]; exact h.1, by rw [← e2]; exact h.2.1, fun i i0 i1 => by rw [← e3 i i0 i1]; exact h.2.2.1 i i0 i1, fun w p a0 a1 b0 b1 => by rw [← e4 w p a0 a1 b0 (by rw [e2]; exact b1)]; exact h.2.2.2 w p a0 a1 b0 (by rw [e2]; exact b1)⟩
def EQ52 (u f : Nat → Int32) : Prop := ∀ j : Nat, j < 52 → u j = f j
theorem RM_eq {u f : Nat → Int32} {A : Es} (h : RM f A) (n8 : pe A ≤ 8) (e : EQ52 u f) : RM u A :=
  ⟨by rw [e 0 (by decide)]; exact h.1, by rw [e 1 (by decide)]; exact h.2.1, fun i i0 i1 => by rw [e _ (by omega)]; exact h.2.2.1 i i0 i1, fun w p a0 a1 b0 b1 => by rw [e _ (by omega)]; exact h.2.2.2 w p a0 a1 b0 b1⟩
theorem EQ52.trans {a b c : Nat → Int32} (h : EQ52 a b) (h2 : EQ52 b c) : EQ52 a c := fun j hj => (h j hj).trans (h2 j hj)
theorem IA_pu {A : Es} (h : IA A) {w p v : Int} (p0 : 0 ≤ p) (p1 : p < pe A) (hw : (w = 0 ∧ 0 ≤ v ∧ v ≤ 5) ∨ ((w = 2 ∨ w = 3) ∧ 0 ≤ v ∧ v ≤ 200) ∨ (w = 4 ∧ 0 ≤ v ∧ v ≤ 9999) ∨ (w = 1 ∧ -1 ≤ v ∧ v ≤ 9 ∧ (v < 0 ∨ ∀ q, 0 ≤ q → q < pe A → q ≠ p → pr A 1 q ≠ v))) : IA (pu A w p v) := by
  obtain ⟨h1, h2, h3, h4, h5, h6⟩ := h
  refine ⟨h1, h2, h3, h4, fun q q0 q1 => ?_, fun q r q0 q1 r0 r1 hqr hc => ?_⟩
  · have := h5 q q0 q1
    have := h5 p p0 p1
    simp only [pu_at]
    by_cases hq : q = p
    · subst hq
      rcases hw with ⟨rfl, a⟩ | ⟨rfl | rfl, a⟩ | ⟨rfl, a⟩ | ⟨rfl, a⟩ <;> simp <;> omega
    · simp [hq]; omega
  · simp only [pu_at] at hc ⊢
    have k := h6 q r q0 q1 r0 r1 hqr
    by_cases h1w : w = 1
    · subst h1w
      simp only [true_and] at hc ⊢
      rcases hw with ⟨h, _⟩ | ⟨h | h, _⟩ | ⟨h, _⟩ | ⟨_, _, _, a⟩ <;> try omega
      by_cases hq : q = p
      · subst hq
        rw [if_pos rfl] at hc ⊢
        rw [if_neg (fun e => hqr e.symm)]
        rcases a with a | a
        · omega
        · exact fun e => a r r0 r1 (fun e => hqr e.symm) e.symm
      · rw [if_neg hq] at hc ⊢
        by_cases hr : r = p
        · subst hr
          rw [if_pos rfl]
          rcases a with a | a
          · omega
          · exact a q q0 q1 hq
        · rw [if_neg hr]; exact k hc
    · rw [if_neg (by omega)] at hc
      rw [if_neg (by omega), if_neg (by omega)]
      exact k hc
theorem IA_su {A : Es} (h : IA A) {i v : Int} (v0 : 0 ≤ v) (v1 : v ≤ 9) : IA (su A i v) := by
  obtain ⟨h1, h2, h3, h4, h5, h6⟩ := h
  refine ⟨h1, h2, h3, fun j j0 j1 => ?_, h5, h6⟩
  simp only [su_at]
  split
  · omega
  · exact h4 j j0 j1
theorem IA_nw {A : Es} (h : IA A) {k b : Int} (n8 : pe A < 8) (k0 : 0 ≤ k) (k1 : k ≤ 5) (b0 : 0 ≤ b) (b1 : b ≤ 200) : IA (nw A k b) := by
  obtain ⟨h1, h2, h3, h4, h5, h6⟩ := h
  refine ⟨h1, by show 0 ≤ pe A + 1; omega, by show pe A + 1 ≤ 8; omega, h4, fun q q0 q1 => ?_, fun q r q0 q1 r0 r1 hqr hc => ?_⟩
  · have q1 : q < pe A + 1 := q1
    simp only [nw_at]
    by_cases hq : q = pe A
    · simp [hq]; omega
    · have := h5 q q0 (by omega)
      simp [hq]; omega
  · have q1 : q < pe A + 1 := q1
    have r1 : r < pe A + 1 := r1
    simp only [nw_at] at hc ⊢
    by_cases hq : q = pe A
    · simp [hq] at hc
    · simp [hq] at hc ⊢
      by_cases hr : r = pe A
      · simp [hr]; omega
      · simp [hr]; exact h6 q r q0 (by omega) r0 (by omega) hqr hc
/-- who sits on a chair, by the chairs alone -/
theorem onk_in {A : Es} {c : Int} : ∀ k : Nat, 0 ≤ onk A c k → pr A 1 (onk A c k) = c
  | 0, h => by simp [onk] at h
  | k + 1, h => by
    unfold onk at h ⊢
    split
    · next q => exact q
    · next q => rw [if_neg q] at h; exact onk_in k h
theorem onk_no {A : Es} {c : Int} : ∀ k : Nat, onk A c k < 0 → ∀ j : Int, 0 ≤ j → j < k → pr A 1 j ≠ c
  | 0, _, j, _, _ => by omega
  | k + 1, h, j, j0, j1 => by
    unfold onk at h
    split at h
    · omega
    · next q =>
      by_cases hj : j = k
      · subst hj; exact q
      · exact onk_no k h j j0 (by omega)
theorem onC_in {A : Es} {c : Int} (h : 0 ≤ onC A c) : pr A 1 (onC A c) = c := onk_in _ h
theorem onC_no {A : Es} (hI : IA A) {c : Int} (h : onC A c < 0) {j : Int} (j0 : 0 ≤ j) (j1 : j < pe A) : pr A 1 j ≠ c := onk_no _ h j j0 (by have := hI.n0; omega)
/-- a free chair may be taken -/
theorem IA_sit {A : Es} (h : IA A) {p c : Int} (p0 : 0 ≤ p) (p1 : p < pe A) (c0 : -1 ≤ c) (c1 : c ≤ 9) (hf : c < 0 ∨ onC A c < 0 ∨ onC A c = p) : IA (pu A 1 p c) := by
  refine IA_pu h p0 p1 (Or.inr (Or.inr (Or.inr ⟨rfl, c0, c1, ?_⟩)))
  rcases hf with hf | hf | hf
  · exact Or.inl hf
  · exact Or.inr (fun q q0 q1 _ => onC_no h hf q0 q1)
  · by_cases hc : c < 0
    · exact Or.inl hc
    · refine Or.inr (fun q q0 q1 hq e => ?_)
      have e2 : pr A 1 p = c := by rw [← hf]; exact onC_in (by omega)
      exact h.2.2.2.2.2 p q p0 p1 q0 q1 (fun e => hq e.symm) (by omega) (by rw [e, e2])
