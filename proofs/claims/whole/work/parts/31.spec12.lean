theorem runf_all (P : Int → Bool) (tq : Int → Int) (tn : Int) : ∀ (f : Nat) (i k : Int), i ≤ k → k < runf P tq tn f i → P (tq k) = true
  | 0, i, k, h, h2 => absurd h2 (by unfold runf; omega)
  | f + 1, i, k, h, h2 => by
    unfold runf at h2
    split at h2
    · next q =>
      by_cases e : k = i
      · rw [e]; exact q.2
      · exact runf_all P tq tn f (i + 1) k (by omega) h2
    · omega
theorem nmk_nn (tq : Int → Int) (s : Int) : ∀ n : Nat, (∀ k, s ≤ k → k < s + n → 48 ≤ tq k) → 0 ≤ nmk tq s n
  | 0, _ => Int.le_refl _
  | n + 1, h => by
    have h1 := nmk_nn tq s n (fun k a b => h k a (by omega))
    have h2 := h (s + n) (by omega) (by omega)
    unfold nmk
    split <;> omega
theorem tV_nn (tq : Int → Int) {tn i : Int} (h : i ≤ tn) : 0 ≤ tV tq tn i := by
  unfold tV
  split
  · omega
  · split
    · omega
    · split
      · refine nmk_nn tq _ _ (fun k a b => ?_)
        have := run_rng isDg tq (i := tS tq tn i) (tn := tn) (by omega)
        have q := runf_all isDg tq tn (tn - tS tq tn i).toNat (tS tq tn i) k a (by unfold run at b; unfold run at this; omega)
        have := isDg_i.mp q
        omega
      · omega
