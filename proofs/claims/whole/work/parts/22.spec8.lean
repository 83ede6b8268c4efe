theorem cpy_src {cq : Int → Int → Int64} {s a t b lo hi j : Int} (j0 : 0 ≤ j) (h : j < 40) (hn : ¬ (s = t ∧ b + lo ≤ a + j ∧ a + j < b + hi)) : cpy cq s a t b lo hi s (a + j) = cq s (a + j) := by unfold cpy; rw [if_neg hn]
theorem cpy_up {cq : Int → Int → Int64} {s a t b i u j : Int} (i0 : 0 ≤ i) : fu2 (cpy cq s a t b 0 i) t (b + i) (cq s (a + i)) u j = cpy cq s a t b 0 (i + 1) u j := by
  unfold fu2 cpy
  by_cases h : u = t ∧ j = b + i
  · obtain ⟨rfl, rfl⟩ := h
    rw [if_pos ⟨rfl, rfl⟩, if_pos ⟨rfl, by omega, by omega⟩, show a + (b + i - b) = a + i by omega]
  · rw [if_neg h]
    by_cases h2 : u = t ∧ b + 0 ≤ j ∧ j < b + i
    · rw [if_pos h2, if_pos (by omega)]
    · rw [if_neg h2, if_neg (by omega)]
theorem cpy_down {cq : Int → Int → Int64} {s a t b i n u j : Int} (h9 : i < n) : fu2 (cpy cq s a t b (i + 1) n) t (b + i) (cq s (a + i)) u j = cpy cq s a t b i n u j := by
  unfold fu2 cpy
  by_cases h : u = t ∧ j = b + i
  · obtain ⟨rfl, rfl⟩ := h
    rw [if_pos ⟨rfl, rfl⟩, if_pos ⟨rfl, by omega, by omega⟩, show a + (b + i - b) = a + i by omega]
  · rw [if_neg h]
    by_cases h2 : u = t ∧ b + (i + 1) ≤ j ∧ j < b + n
    · rw [if_pos h2, if_pos (by omega)]
    · rw [if_neg h2, if_neg (by omega)]
theorem bookq_s {A : Es} {bq : Int → Int} {cq : Int → Int → Int64} {s p i t j : Int} (i0 : 0 ≤ i) : fu2 (bookq A bq cq s p i) s i (cut (bq s) (iv (brn (stepn A i.toNat) p)).toInt64) t j = bookq A bq cq s p (i + 1) t j := by
  unfold fu2 bookq bookC
  by_cases h : t = s ∧ j = i
  · obtain ⟨rfl, rfl⟩ := h
    rw [if_pos ⟨rfl, rfl⟩, if_pos ⟨rfl, i0, by omega⟩]
  · rw [if_neg h]
    by_cases h2 : t = s ∧ 0 ≤ j ∧ j < i
    · rw [if_pos h2, if_pos (by omega)]
    · rw [if_neg h2, if_neg (by omega)]
theorem zro_s {cq : Int → Int → Int64} {s i t j : Int} : fu2 (fun t j => if t = s ∧ j < i then 0 else cq t j) s i 0 t j = if t = s ∧ j < i + 1 then 0 else cq t j := by
  unfold fu2
  by_cases h : t = s ∧ j = i
  · rw [if_pos h, if_pos (by omega)]
  · rw [if_neg h]
    show (if t = s ∧ j < i then 0 else cq t j) = _
    by_cases h2 : t = s ∧ j < i
    · rw [if_pos h2, if_pos (by omega)]
    · rw [if_neg h2, if_neg (by omega)]
