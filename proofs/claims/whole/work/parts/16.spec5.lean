theorem mid_side {A : Es} {k p d : Int} (hk : k = 2 * p + d) (d0 : 0 ≤ d) (d1 : d ≤ 1) : pr (mid A k) (2 + d) p = pr A (2 + d) p := by
  rw [mid_at]; unfold midv
  split
  · rcases (show d = 0 ∨ d = 1 by omega) with rfl | rfl
    · rw [if_pos (by decide), if_neg (by omega)]; rfl
    · rw [if_neg (by decide), if_pos (by decide), if_neg (by omega)]; rfl
  · rfl
theorem goes_sit {u : Nat → Int32} {A : Es} {k p d : Int} (hk : k = 2 * p + d) (d0 : 0 ≤ d) (d1 : d ≤ 1) (hc : 0 ≤ pr A 1 p)
    (h : RM u (pu (pu (mid A k) (2 + d) p (held (pr (mid A k) (2 + d) p + take (pr (mid A k) 0 p) (gv A p d) - fdO (mid A k) p) 0 200)) 4 p (bn1 (pr (mid A k) 0 p) (gv A p d) (pr (mid A k) 4 p)))) : RM u (mid A (k + 1)) := by
  rw [mid_side hk d0 d1, (mid_01 A k p).1, mid_fd] at h
  exact RM_congr h rfl rfl (fun _ _ _ => rfl) (fun w q w0 w1 _ _ => mid_sit hk d0 d1 hc w0 w1)
theorem goes_not {u : Nat → Int32} {A : Es} {k p d : Int} (hk : k = 2 * p + d) (d0 : 0 ≤ d) (d1 : d ≤ 1) (hc : ¬ 0 ≤ pr A 1 p) (h : RM u (mid A k)) : RM u (mid A (k + 1)) :=
  RM_congr h rfl rfl (fun _ _ _ => rfl) (fun w q _ _ _ _ => mid_not hk d0 d1 hc)
theorem goes_0 {u : Nat → Int32} {A : Es} (h : RM u A) : RM u (mid A 0) := RM_congr h rfl rfl (fun _ _ _ => rfl) (fun w q _ _ q0 _ => (mid_0 A q0).symm)
