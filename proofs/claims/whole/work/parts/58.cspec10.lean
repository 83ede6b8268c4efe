theorem RepH_cong {u : Hc} {bq sq bq' sq' : Int → Int} {cq cq' : Int → Int → Int64} {t : Int} (h : RepH u bq sq cq t) (e1 : bq t = bq' t) (e2 : sq t = sq' t) (e3 : ∀ k, 0 ≤ k → k < 40 → cq t k = cq' t k) : RepH u bq' sq' cq' t :=
  ⟨by rw [← e1]; exact h.1, by rw [← e2]; exact h.2.1, fun k k0 k1 => by rw [← e3 k k0 k1]; exact h.2.2 k k0 k1⟩
theorem RepH_ne {u : Hc} {bq sq : Int → Int} {cq : Int → Int → Int64} {t s i : Int} {v : Int64} (h : RepH u bq sq cq t) (e : t ≠ s) : RepH u bq sq (fu2 cq s i v) t :=
  RepH_cong h rfl rfl (fun k _ _ => by unfold fu2; rw [if_neg (fun z => e z.1)])
theorem RepH_up {b z : Int32} {c : Nat → Int64} {bq sq : Int → Int} {cq : Int → Int → Int64} {s i : Int} {v : Int64} (h : RepH (b, z, c) bq sq cq s) (i0 : 0 ≤ i) : RepH (b, z, vp_updL c i.toNat v) bq sq (fu2 cq s i v) s := by
  refine ⟨h.1, h.2.1, fun k k0 k1 => ?_⟩
  show vp_updL c i.toNat v k.toNat = _
  unfold vp_updL fu2
  by_cases e : k = i
  · rw [if_pos (by rw [e]), if_pos ⟨rfl, e⟩]
  · rw [if_neg (by omega), if_neg (fun z => e z.2)]; exact h.2.2 k k0 k1
theorem RepH_nw {bq sq : Int → Int} {cq : Int → Int → Int64} {s b n : Int} {c : Nat → Int64} (h : ∀ j : Nat, j < 40 → c j = 0) : RepH (iv b, iv n, c) (fu bq s b) (fu sq s n) (fun t j => if t = s then 0 else cq t j) s :=
  ⟨by unfold fu; rw [if_pos rfl], by unfold fu; rw [if_pos rfl], fun k k0 k1 => by show c k.toNat = if s = s then 0 else cq s k; rw [if_pos rfl]; exact h k.toNat (by omega)⟩
theorem RepH_nn {u : Hc} {bq sq : Int → Int} {cq : Int → Int → Int64} {t s b n : Int} (h : RepH u bq sq cq t) (e : t ≠ s) : RepH u (fu bq s b) (fu sq s n) (fun t j => if t = s then 0 else cq t j) t :=
  RepH_cong h (by unfold fu; rw [if_neg e]) (by unfold fu; rw [if_neg e]) (fun k _ _ => by show cq t k = if t = s then 0 else cq t k; rw [if_neg e])
