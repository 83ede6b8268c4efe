theorem bn1_mono {k g b : Int} (h0 : 0 ≤ b) (h1 : b ≤ 9999) : b ≤ bn1 k g b := by
  unfold bn1 held
  (repeat' split) <;> omega
theorem burnt_step {A : Es} (h : IA A) {p : Int} (p0 : 0 ≤ p) (p1 : p < pe A) : pr A 4 p ≤ pr (step A) 4 p := by
  have q := h.gP p0 p1
  rw [step_at]
  split
  · rw [if_neg (by omega), if_neg (by omega), if_pos rfl]
    unfold nburn
    have b1 := bn1_mono (k := pr A 0 p) (g := gv A p 0) (b := pr A 4 p) (by omega) (by omega)
    have b2 := bn1_rng (k := pr A 0 p) (g := gv A p 0) (b := pr A 4 p)
    have b3 := bn1_mono (k := pr A 0 p) (g := gv A p 1) (b := bn1 (pr A 0 p) (gv A p 0) (pr A 4 p)) (by omega) (by omega)
    omega
  · omega
theorem burnt_mono {A : Es} (h : IA A) {p : Int} (p0 : 0 ≤ p) (p1 : p < pe A) : ∀ n : Nat, pr A 4 p ≤ pr (stepn A n) 4 p
  | 0 => Int.le_refl _
  | n + 1 => by
    have h1 := burnt_mono h p0 p1 n
    have h2 := burnt_step (stepn_IA h n) p0 (by rw [stepn_pe]; exact p1)
    exact Int.le_trans h1 h2
