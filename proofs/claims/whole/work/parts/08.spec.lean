/-! ===== the esplanade: hour, people, sun, what one is (0 kind, 1 chair, 2 left, 3 right, 4 burnt) ===== -/
abbrev Es : Type := Int × Int × (Int → Int) × (Int → Int → Int)
abbrev hr (A : Es) : Int := A.1
abbrev pe (A : Es) : Int := A.2.1
abbrev sn (A : Es) : Int → Int := A.2.2.1
abbrev pr (A : Es) : Int → Int → Int := A.2.2.2
def pu (A : Es) (w p v : Int) : Es := (hr A, pe A, sn A, fun w' p' => if w' = w ∧ p' = p then v else pr A w' p')
def su (A : Es) (i v : Int) : Es := (hr A, pe A, fun j => if j = i then v else sn A j, pr A)
def nw (A : Es) (k b : Int) : Es := (hr A, pe A + 1, sn A, fun w p => if p = pe A then (if w = 0 then k else if w = 1 then -1 else if w = 4 then 0 else b) else pr A w p)
/-- what holds of every esplanade -/
def IA (A : Es) : Prop := 0 ≤ hr A ∧ 0 ≤ pe A ∧ pe A ≤ 8 ∧ (∀ i, 0 ≤ i → i < 10 → 0 ≤ sn A i ∧ sn A i ≤ 9) ∧
  (∀ p, 0 ≤ p → p < pe A → 0 ≤ pr A 0 p ∧ pr A 0 p ≤ 5 ∧ -1 ≤ pr A 1 p ∧ pr A 1 p ≤ 9 ∧ 0 ≤ pr A 2 p ∧ pr A 2 p ≤ 200 ∧ 0 ≤ pr A 3 p ∧ pr A 3 p ≤ 200 ∧ 0 ≤ pr A 4 p ∧ pr A 4 p ≤ 9999) ∧
  (∀ p q, 0 ≤ p → p < pe A → 0 ≤ q → q < pe A → p ≠ q → 0 ≤ pr A 1 p → pr A 1 p ≠ pr A 1 q)
theorem IA.h0 {A : Es} (h : IA A) : 0 ≤ hr A := h.1
theorem IA.n0 {A : Es} (h : IA A) : 0 ≤ pe A := h.2.1
theorem IA.n8 {A : Es} (h : IA A) : pe A ≤ 8 := h.2.2.1
theorem IA.gS {A : Es} (h : IA A) {i : Int} (h0 : 0 ≤ i) (h1 : i < 10) : 0 ≤ sn A i ∧ sn A i ≤ 9 := h.2.2.2.1 i h0 h1
theorem IA.gP {A : Es} (h : IA A) {p : Int} (h0 : 0 ≤ p) (h1 : p < pe A) : 0 ≤ pr A 0 p ∧ pr A 0 p ≤ 5 ∧ -1 ≤ pr A 1 p ∧ pr A 1 p ≤ 9 ∧ 0 ≤ pr A 2 p ∧ pr A 2 p ≤ 200 ∧ 0 ≤ pr A 3 p ∧ pr A 3 p ≤ 200 ∧ 0 ≤ pr A 4 p ∧ pr A 4 p ≤ 9999 := h.2.2.2.2.1 p h0 h1
theorem IA.gP9 {A : Es} (h : IA A) {w p : Int} (w0 : 0 ≤ w) (w1 : w < 5) (h0 : 0 ≤ p) (h1 : p < pe A) : -1 ≤ pr A w p ∧ pr A w p ≤ 9999 := by
  have := h.gP h0 h1
  rcases (show w = 0 ∨ w = 1 ∨ w = 2 ∨ w = 3 ∨ w = 4 by omega) with rfl | rfl | rfl | rfl | rfl <;> omega
/-- who sits on a chair, of the first k -/
def onk (A : Es) (c : Int) : Nat → Int
  | 0 => -1
  | k + 1 => if pr A 1 (k : Int) = c then (k : Int) else onk A c k
def onC (A : Es) (c : Int) : Int := onk A c (pe A).toNat
theorem onk_rng (A : Es) (c : Int) : ∀ k : Nat, -1 ≤ onk A c k ∧ onk A c k < (k : Int) ∨ (k = 0 ∧ onk A c k = -1)
  | 0 => Or.inr ⟨rfl, rfl⟩
  | k + 1 => by
    have ih := onk_rng A c k
    left
    unfold onk
    split <;> omega
theorem onC_rng {A : Es} (h : IA A) (c : Int) : -1 ≤ onC A c ∧ onC A c < 8 ∧ (onC A c < pe A ∨ onC A c = -1) := by
  have h1 := onk_rng A c (pe A).toNat
  have h2 := h.n0
  have h3 := h.n8
  unfold onC
  omega
def sunN (A : Es) : Int := sn A (hr A % 10)
theorem sunN_rng {A : Es} (h : IA A) : 0 ≤ sunN A ∧ sunN A ≤ 9   := h.gS (by have := h.h0; omega) (by omega)
/-- who is beside one -/
def nb (A : Es) (p d : Int) : Int := if 0 ≤ pr A 1 p ∧ 0 ≤ pr A 1 p + d ∧ pr A 1 p + d ≤ 9 then onC A (pr A 1 p + d) else -1
theorem nb_rng {A : Es} (h : IA A) (p d : Int) : -1 ≤ nb A p d ∧ nb A p d < 8 ∧ (nb A p d < pe A ∨ nb A p d = -1) := by
  have h1 := onC_rng h (pr A 1 p + d)
  unfold nb
  split <;> omega
def glow (k b s t : Int) : Int := if s = 0 then 0 else if k = 1 then b / 20 * s / 9 + 3 else if k = 2 then b / 20 * s / 9 / 2 else if k = 3 then 9 else if k = 4 then (if t = 4 then 2 * (b / 20 * s / 9 / 2) else b / 20 * s / 9 / 2) else if k = 5 then (if 1 < b / 20 * s / 9 then b / 20 * s / 9 - 1 else 0) else b / 20 * s / 9
def take (k g : Int) : Int := if k = 1 then g / 2 else if k = 2 ∨ k = 4 then (if 0 < g then g + 1 else 0) else if k = 3 then 0 else if k = 5 then (if 0 < g then g / 2 + 2 else 0) else g
def fade (k s : Int) (b : Prop) [Decidable b] : Int := if k = 1 then 0 else if k = 2 then 1 else if k = 4 then (if b then 0 else 1) else if k = 5 then 2 else if s = 0 then 1 else 0
def burnF (k : Int) : Int := if k = 1 then 40 else if k = 2 ∨ k = 4 then 8 else if k = 5 then 20 else 12
theorem mul_rng {x y a b : Int} (h0 : 0 ≤ x) (h1 : x ≤ a) (h2 : 0 ≤ y) (h3 : y ≤ b) : 0 ≤ x * y ∧ x * y ≤ a * b := ⟨Int.mul_nonneg h0 h2, Int.mul_le_mul h1 h3 h2 (Int.le_trans h0 h1)⟩
theorem guest_rng {b s : Int} (h0 : 0 ≤ b) (h1 : b ≤ 200) (h2 : 0 ≤ s) (h3 : s ≤ 9) : 0 ≤ b / 20 * s ∧ b / 20 * s ≤ 90 := mul_rng (a := 10) (b := 9) (by omega) (by omega) h2 h3
theorem glow_rng {k b s t : Int} (h0 : 0 ≤ b) (h1 : b ≤ 200) (h2 : 0 ≤ s) (h3 : s ≤ 9) : 0 ≤ glow k b s t ∧ glow k b s t ≤ 13 := by
  have := guest_rng h0 h1 h2 h3
  unfold glow
  repeat' split
  all_goals omega
def gvq (A : Es) (p q w : Int) : Int := if q < 0 then 0 else glow (pr A 0 q) (pr A w q) (sunN A) (pr A 0 p)
def gv (A : Es) (p side : Int) : Int := if side = 0 then gvq A p (nb A p (-1)) 3 else gvq A p (nb A p 1) 2
theorem gvq_rng {A : Es} (h : IA A) (p d w : Int) (hw : w = 3 ∨ w = 2) : 0 ≤ gvq A p (nb A p d) w ∧ gvq A p (nb A p d) w ≤ 13 := by
  have h1 := nb_rng h p d
  have h2 := sunN_rng h
  unfold gvq
  split
  · omega
  · have h3 := h.gP (p := nb A p d) (by omega) (by omega)
    rcases hw with rfl | rfl <;> exact glow_rng (by omega) (by omega) h2.1 h2.2
theorem gv_rng {A : Es} (h : IA A) (p side : Int) : 0 ≤ gv A p side ∧ gv A p side ≤ 13 := by
  unfold gv
  split <;> exact gvq_rng h p _ _ (by omega)
def fdO (A : Es) (p : Int) : Int := fade (pr A 0 p) (sunN A) (0 ≤ nb A p (-1) ∧ 0 ≤ nb A p 1)
theorem fade_rng {k s : Int} {b : Prop} [Decidable b] : 0 ≤ fade k s b ∧ fade k s b ≤ 2 := by
  unfold fade
  repeat' split
  all_goals omega
theorem take_rng {k g : Int} (h0 : 0 ≤ g) (h1 : g ≤ 13) : 0 ≤ take k g ∧ take k g ≤ 14 := by
  unfold take
  repeat' split
  all_goals omega
theorem burnF_rng (k : Int) : 8 ≤ burnF k ∧ burnF k ≤ 40 := by
  unfold burnF
  repeat' split
  all_goals omega
def held (v lo hi : Int) : Int := if v < lo then lo else if hi < v then hi else v
def nside (A : Es) (p side : Int) : Int := held (pr A (2 + side) p + take (pr A 0 p) (gv A p side) - fdO A p) 0 200
def bn1 (k g b : Int) : Int := held (b + (if burnF k ≤ g then 1 else 0)) 0 9999
def nburn (A : Es) (p : Int) : Int := bn1 (pr A 0 p) (gv A p 1) (bn1 (pr A 0 p) (gv A p 0) (pr A 4 p))
/-- an hour -/
def step (A : Es) : Es := (hr A + 1, pe A, sn A, fun w p => if 0 ≤ pr A 1 p then (if w = 2 then nside A p 0 else if w = 3 then nside A p 1 else if w = 4 then nburn A p else pr A w p) else pr A w p)
def stepn (A : Es) : Nat → Es
  | 0 => A
  | k + 1 => step (stepn A k)
theorem held_rng {v lo hi : Int} (h : lo ≤ hi) : lo ≤ held v lo hi ∧ held v lo hi ≤ hi := by
  unfold held
  repeat' split
  all_goals omega
theorem step_IA {A : Es} (h : IA A) : IA (step A) := by
  obtain ⟨h1, h2, h3, h4, h5, h6⟩ := h
  refine ⟨by show 0 ≤ hr A + 1; omega, h2, h3, h4, fun p p0 p1 => ?_, fun p q p0 p1 q0 q1 hpq hc => ?_⟩
  · have := h5 p p0 p1
    by_cases hc : 0 ≤ pr A 1 p
    · have n0 : 0 ≤ nside A p 0 ∧ nside A p 0 ≤ 200 := held_rng (by omega)
      have n1 : 0 ≤ nside A p 1 ∧ nside A p 1 ≤ 200 := held_rng (by omega)
      have n2 : 0 ≤ nburn A p ∧ nburn A p ≤ 9999 := held_rng (by omega)
      have e : pr (step A) 0 p = pr A 0 p ∧ pr (step A) 1 p = pr A 1 p ∧ pr (step A) 2 p = nside A p 0 ∧ pr (step A) 3 p = nside A p 1 ∧ pr (step A) 4 p = nburn A p := by simp [step, pr, hc]
      omega
    · have e : ∀ w, pr (step A) w p = pr A w p := fun w => by simp [step, pr, hc]
      simp only [e]
      omega
  · have e : ∀ r, pr (step A) 1 r = pr A 1 r := fun r => by simp [step, pr]
    rw [e] at hc
    rw [e, e]
    exact h6 p q p0 p1 q0 q1 hpq hc
theorem stepn_IA {A : Es} (h : IA A) : ∀ n : Nat, IA (stepn A n)
  | 0 => h
  | n + 1 => step_IA (stepn_IA h n)
theorem stepn_pe (A : Es) : ∀ n : Nat, pe (stepn A n) = pe A
  | 0 => rfl
  | n + 1 => stepn_pe A n
theorem stepn_hr (A : Es) : ∀ n : Nat, hr (stepn A n) = hr A + n
  | 0 => by simp [stepn]
  | n + 1 => by
    have := stepn_hr A n
    show hr (stepn A n) + 1 = _
    rw [this]
    omega
def brn (A : Es) (p : Int) : Int := pr A 2 p + pr A 3 p
theorem brn_rng {A : Es} (h : IA A) {p : Int} (h0 : 0 ≤ p) (h1 : p < pe A) : 0 ≤ brn A p ∧ brn A p ≤ 400 := by
  have := h.gP h0 h1
  unfold brn
  omega
/-! ===== the reference's picture of it ===== -/
def RM (f : Nat → Int32) (A : Es) : Prop := f 0 = iv (hr A) ∧ f 1 = iv (pe A) ∧ (∀ i : Int, 0 ≤ i → i < 10 → f (2 + i).toNat = iv (sn A i)) ∧ ∀ w p : Int, 0 ≤ w → w < 5 → 0 ≤ p → p < pe A → f (12 + 5 * p + w).toNat = iv (pr A w p)
abbrev Mc : Type := (Nat → Int32) × (Nat → Int32) × (Nat → Int32) × Int32 × (Nat → Int32) × (Nat → Int32) × (Nat → Int32) × Int32 × Int32 × Int32 × Int32 × Int32 × Int32 × (Nat → Int32) × (Nat → Int32) × (Nat → Int64)
def wM (E : EV) (a : Nat → Nat) (G : Mc) : va_W := [(a 0, .inr (4, [.ref (a 1), .ref (a 2), .ref (a 3), .int G.2.2.2.1, .ref (a 4), .ref (a 5), .ref (a 6), .int G.2.2.2.2.2.2.2.1, .int G.2.2.2.2.2.2.2.2.1, .int G.2.2.2.2.2.2.2.2.2.1, .int G.2.2.2.2.2.2.2.2.2.2.1, .int G.2.2.2.2.2.2.2.2.2.2.2.1, .int G.2.2.2.2.2.2.2.2.2.2.2.2.1, .ref (a 7), .ref (a 8), .ref (a 9)])),
  (a 1, .inl (eI E, 52, .inl G.1)), (a 2, .inl (eI E, 52, .inl G.2.1)), (a 3, .inl (eI E, 52, .inl G.2.2.1)), (a 4, .inl (eI E, 7, .inl G.2.2.2.2.1)), (a 5, .inl (eI E, 16, .inl G.2.2.2.2.2.1)), (a 6, .inl (eI E, 120, .inl G.2.2.2.2.2.2.1)), (a 7, .inl (eI E, 4, .inl G.2.2.2.2.2.2.2.2.2.2.2.2.2.1)), (a 8, .inl (eI E, 4, .inl G.2.2.2.2.2.2.2.2.2.2.2.2.2.2.1)), (a 9, .inl (eJ E, 160, .inr (.inl G.2.2.2.2.2.2.2.2.2.2.2.2.2.2.2)))]
theorem wM_map (E : EV) (a : Nat → Nat) (G G' : Mc) : (wM E a G).map Prod.fst = (wM E a G').map Prod.fst := rfl
