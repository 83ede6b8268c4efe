theorem RepH_cp {b z b2 z2 : Int32} {c c2 : Nat → Int64} {bq sq : Int → Int} {cq : Int → Int → Int64} {s t a d n : Int} (h : RepH (b, z, c) bq sq cq s) (h2 : RepH (b2, z2, c2) bq sq cq t) (a0 : 0 ≤ a) (d0 : 0 ≤ d) (n0 : 0 ≤ n) (an : a + n ≤ 40) : RepH (b2, z2, va_cpy c c2 a.toNat d.toNat n.toNat) bq sq (cpy cq s a t d 0 n) t := by
  refine ⟨h2.1, h2.2.1, fun k k0 k1 => ?_⟩
  show va_cpy c c2 a.toNat d.toNat n.toNat k.toNat = _
  unfold va_cpy cpy
  by_cases e : d ≤ k ∧ k < d + n
  · rw [if_pos (by omega), if_pos ⟨rfl, by omega, by omega⟩]
    have := h.2.2 (a + (k - d)) (by omega) (by omega)
    rw [show (a + (k - d)).toNat = a.toNat + (k.toNat - d.toNat) by omega] at this
    exact this
  · rw [if_neg (by omega), if_neg (fun q => e ⟨by omega, by omega⟩)]; exact h2.2.2 k k0 k1
theorem RepH_cn {u : Hc} {bq sq : Int → Int} {cq : Int → Int → Int64} {s t a d n r : Int} (h : RepH u bq sq cq r) (e : r ≠ t) : RepH u bq sq (cpy cq s a t d 0 n) r :=
  RepH_cong h rfl rfl (fun k _ _ => by unfold cpy; rw [if_neg (fun z => e z.1)])
theorem bk_step {A : Es} {bq : Int → Int} {cq : Int → Int → Int64} {s p i : Int} {c : Nat → Int64} (i0 : 0 ≤ i) (h : ∀ k, 0 ≤ k → k < 40 → c k.toNat = bookq A bq cq s p i s k) : ∀ k, 0 ≤ k → k < 40 → vp_updL c i.toNat (cut (bq s) ((iv (brn (stepn A i.toNat) p)).toInt64)) k.toNat = bookq A bq cq s p (i + 1) s k := by
  intro k k0 k1
  rw [← bookq_s i0]
  unfold vp_updL fu2
  by_cases e : k = i
  · rw [if_pos (by rw [e]), if_pos ⟨rfl, e⟩]
  · rw [if_neg (by omega), if_neg (fun z => e z.2)]; exact h k k0 k1
theorem RepH_bn {u : Hc} {A : Es} {bq sq : Int → Int} {cq : Int → Int → Int64} {s p n r : Int} (h : RepH u bq sq cq r) (e : r ≠ s) : RepH u bq sq (bookq A bq cq s p n) r :=
  RepH_cong h rfl rfl (fun k _ _ => by unfold bookq; rw [if_neg (fun z => e z.1)])
theorem bk_0 {A : Es} {bq : Int → Int} {cq : Int → Int → Int64} {s p : Int} {b z : Int32} {c : Nat → Int64} {sq : Int → Int} (h : RepH (b, z, c) bq sq cq s) : ∀ k, 0 ≤ k → k < 40 → c k.toNat = bookq A bq cq s p 0 s k := by
  intro k k0 k1
  unfold bookq
  rw [if_neg (by omega)]
  exact h.2.2 k k0 k1
