/-! ===== one who is browner makes no other less brown ===== -/
def LE (A B : Es) : Prop := hr A = hr B ∧ pe A = pe B ∧ sn A = sn B ∧ (∀ p, pr A 0 p = pr B 0 p) ∧ (∀ p, pr A 1 p = pr B 1 p) ∧ ∀ p, 0 ≤ p → p < pe A → pr A 2 p ≤ pr B 2 p ∧ pr A 3 p ≤ pr B 3 p
theorem guest_mono {b b' s : Int} (h : b ≤ b') (s0 : 0 ≤ s) : b / 20 * s / 9 ≤ b' / 20 * s / 9 := by
  have h1 : b / 20 ≤ b' / 20 := by omega
  have h2 := Int.mul_le_mul_of_nonneg_right h1 s0
  omega
theorem glow_mono {k b b' s t : Int} (h : b ≤ b') (s0 : 0 ≤ s) : glow k b s t ≤ glow k b' s t := by
  have h1 := guest_mono h s0
  unfold glow
  repeat' split
  all_goals omega
theorem take_mono {k g g' : Int} (h : g ≤ g') (g0 : 0 ≤ g) : take k g ≤ take k g' := by
  unfold take
  repeat' split
  all_goals omega
theorem held_mono {v v' lo hi : Int} (h : v ≤ v') (hl : lo ≤ hi) : held v lo hi ≤ held v' lo hi := by
  unfold held
  repeat' split
  all_goals omega
theorem LE.nb9 {A B : Es} (h : LE A B) (p d : Int) : nb A p d = nb B p d := nb_congr h.2.1 h.2.2.2.2.1 p d
theorem LE.sun9 {A B : Es} (h : LE A B) : sunN A = sunN B := by unfold sunN; rw [h.1, h.2.2.1]
theorem LE.fd {A B : Es} (h : LE A B) (p : Int) : fdO A p = fdO B p := fdO_congr h.1 h.2.2.1 h.2.1 h.2.2.2.2.1 (h.2.2.2.1 p)
theorem LE.gvq9 {A B : Es} (h : LE A B) (hA : IA A) (p d w : Int) (hw : w = 3 ∨ w = 2) : gvq A p (nb A p d) w ≤ gvq B p (nb B p d) w := by
  have hn := nb_rng hA p d
  rw [← h.nb9]
  unfold gvq
  split
  · omega
  · rw [← h.2.2.2.1, ← h.2.2.2.1, ← h.sun9]
    have q := h.2.2.2.2.2 (nb A p d) (by omega) (by omega)
    exact glow_mono (by rcases hw with rfl | rfl <;> omega) (sunN_rng hA).1
theorem LE.gv9 {A B : Es} (h : LE A B) (hA : IA A) (p d : Int) : gv A p d ≤ gv B p d := by
  unfold gv
  split
  · exact h.gvq9 hA p (-1) 3 (Or.inl rfl)
  · exact h.gvq9 hA p 1 2 (Or.inr rfl)
theorem LE.side {A B : Es} (h : LE A B) (hA : IA A) {p d : Int} (p0 : 0 ≤ p) (p1 : p < pe A) (d2 : d = 0 ∨ d = 1) : nside A p d ≤ nside B p d := by
  unfold nside
  rw [← h.fd, ← h.2.2.2.1]
  have t := take_mono (k := pr A 0 p) (h.gv9 hA p d) (gv_rng hA p d).1
  have q := h.2.2.2.2.2 p p0 p1
  refine held_mono ?_ (by omega)
  rcases d2 with rfl | rfl
  · rw [show (2 : Int) + 0 = 2 from rfl]; omega
  · rw [show (2 : Int) + 1 = 3 from rfl]; omega
theorem LE.step9 {A B : Es} (h : LE A B) (hA : IA A) : LE (step A) (step B) := by
  have e0 : ∀ (X : Es) p, pr (step X) 0 p = pr X 0 p := fun X p => by rw [step_at]; split <;> rfl
  have e1 : ∀ (X : Es) p, pr (step X) 1 p = pr X 1 p := fun X p => by rw [step_at]; split <;> rfl
  refine ⟨congrArg (· + 1) h.1, h.2.1, h.2.2.1, fun p => by rw [e0, e0]; exact h.2.2.2.1 p, fun p => by rw [e1, e1]; exact h.2.2.2.2.1 p, fun p p0 p1 => ?_⟩
  have p1 : p < pe A := p1
  rw [step_at, step_at, step_at, step_at, ← h.2.2.2.2.1]
  by_cases c : 0 ≤ pr A 1 p
  · simp only [if_pos c]
    exact ⟨h.side hA p0 p1 (Or.inl rfl), h.side hA p0 p1 (Or.inr rfl)⟩
  · simp only [if_neg c]
    exact h.2.2.2.2.2 p p0 p1
theorem LE.stepn9 {A B : Es} (h : LE A B) (hA : IA A) : ∀ n : Nat, LE (stepn A n) (stepn B n)
  | 0 => h
  | n + 1 => (LE.stepn9 h hA n).step9 (stepn_IA hA n)
theorem LE_pu (A : Es) {x k k' : Int} (h : k ≤ k') : LE (pu A 2 x k) (pu A 2 x k') := by
  refine ⟨rfl, rfl, rfl, fun p => ?_, fun p => ?_, fun p p0 p1 => ?_⟩
  · rw [pu_at, pu_at, if_neg (by omega), if_neg (by omega)]
  · rw [pu_at, pu_at, if_neg (by omega), if_neg (by omega)]
  · simp only [pu_at]
    by_cases e : p = x
    · simp [e]; exact h
    · simp [e]
theorem en_mono {A : Es} (hI : IA A) {x o n k k' : Int} (x0 : 0 ≤ x) (x1 : x < pe A) (o0 : 0 ≤ o) (o1 : o < pe A) (h0 : 0 ≤ k) (h : k ≤ k') (h1 : k' ≤ 200) : brn (stepn (pu A 2 x k) n.toNat) o ≤ brn (stepn (pu A 2 x k') n.toNat) o := by
  have hA : IA (pu A 2 x k) := IA_pu hI x0 x1 (Or.inr (Or.inl ⟨Or.inl rfl, by omega, by omega⟩))
  have q := (LE.stepn9 (LE_pu A (x := x) h) hA n.toNat).2.2.2.2.2 o o0 (by rw [stepn_pe]; exact o1)
  unfold brn
  omega
theorem fnd_min {P : Nat → Bool} : ∀ {n k h : Nat}, k ≤ h → h < k + n → (∀ j, k ≤ j → j < h → ¬ P j = true) → P h = true → fnd P k n = h
  | 0, k, h, a, b, _, _ => absurd b (by omega)
  | n + 1, k, h, a, b, hn, hp => by
    by_cases e : k = h
    · rw [e]; exact fnd_yes hp
    · rw [fnd_no (hn k (Nat.le_refl _) (by omega))]
      exact fnd_min (by omega) (by omega) (fun j a1 b1 => hn j (by omega) b1) hp
theorem fnd_none {P : Nat → Bool} : ∀ {n k : Nat}, (∀ j, k ≤ j → j < k + n → ¬ P j = true) → fnd P k n = k + n
  | 0, k, _ => rfl
  | n + 1, k, hn => by
    rw [fnd_no (hn k (Nat.le_refl _) (by omega)), fnd_none (fun j a b => hn j (by omega) (by omega))]
    omega
