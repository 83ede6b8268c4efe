def Es0 : Es := (0, 0, fun i => (3 * i) % 10, fun _ _ => 0)
def Sg0 : Sg := (Es0, Es0, 0, fun _ => 0, fun _ => 0, 0, fun _ => 0, fun _ => 0, fun _ _ => 0)
theorem IA_0 : IA Es0 := by
  refine ⟨by decide, by decide, by decide, fun i h0 h1 => ?_, fun p h0 h1 => ?_, fun p q h0 h1 => ?_⟩
  · show 0 ≤ (3 * i) % 10 ∧ (3 * i) % 10 ≤ 9
    omega
  · have h1 : p < 0 := h1
    omega
  · have h1 : p < 0 := h1
    omega
theorem fl_stepI {i : Int} {cv : Nat → Int32} {x9 : Int32} (i0 : 0 ≤ i) (hc : ∀ j : Nat, (j : Int) < i → cv j = x9) : ∀ j : Nat, (j : Int) < i + 1 → upd cv i.toNat x9 j = x9 := by
  intro j hj
  unfold upd
  split
  · rfl
  · exact hc j (by omega)
theorem RS_0 {G : Sa} (h1 : ∀ i : Int, 0 ≤ i → i < 10 → G.1 i.toNat = iv ((3 * i) % 10)) (h2 : ∀ j : Nat, j < 10 → G.2.1 j = iv (-1)) : RS G Es0 := by
  refine ⟨h1, fun c c0 c1 => h2 _ (by omega), ?_, ?_, ?_, ?_, ?_⟩ <;> exact fun p p0 p1 => absurd p1 (show ¬ p < 0 by omega)
theorem sun_step {i : Int} {f : Nat → Int32} (i0 : 0 ≤ i) (hc : ∀ j : Int, 0 ≤ j → j < i → f j.toNat = iv ((3 * j) % 10)) : ∀ j : Int, 0 ≤ j → j < i + 1 → upd f i.toNat (iv ((3 * i) % 10)) j.toNat = iv ((3 * j) % 10) := by
  intro j j0 j1
  unfold upd
  split
  · next e => rw [show j = i by omega]
  · exact hc j j0 (by omega)
theorem sunM_step {i : Int} {f : Nat → Int32} (i0 : 0 ≤ i) (hc : f 0 = iv 0 ∧ f 1 = iv 0 ∧ ∀ j : Int, 0 ≤ j → j < i → f (2 + j).toNat = iv ((3 * j) % 10)) : upd f (2 + i).toNat (iv ((3 * i) % 10)) 0 = iv 0 ∧ upd f (2 + i).toNat (iv ((3 * i) % 10)) 1 = iv 0 ∧ ∀ j : Int, 0 ≤ j → j < i + 1 → upd f (2 + i).toNat (iv ((3 * i) % 10)) (2 + j).toNat = iv ((3 * j) % 10) := by
  refine ⟨?_, ?_, fun j j0 j1 => ?_⟩
  · unfold upd; rw [if_neg (by omega)]; exact hc.1
  · unfold upd; rw [if_neg (by omega)]; exact hc.2.1
  · unfold upd
    split
    · next e => rw [show j = i by omega]
    · exact hc.2.2 j j0 (by omega)
theorem RepM_0 {f : Nat → Int32} (hc : f 0 = iv 0 ∧ f 1 = iv 0 ∧ ∀ j : Int, 0 ≤ j → j < 10 → f (2 + j).toNat = iv ((3 * j) % 10)) : RepM (f, fun _ => 0, fun _ => 0, iv 0, fun _ => 0, fun _ => 0, fun _ => 0, iv 0, iv 0, iv 0, iv 0, iv 0, iv 0, fun _ => 0, fun _ => 0, fun _ => 0) Sg0 := by
  refine ⟨⟨⟨hc.1, hc.2.1, hc.2.2, fun w p _ _ p0 p1 => absurd p1 (show ¬ p < 0 by omega)⟩, IA_0, by decide⟩, ⟨rfl, Or.inl rfl, fun q => absurd q (by decide)⟩, fun i _ _ => rfl, ⟨rfl, by decide, by decide, fun i i0 i1 => absurd i1 (show ¬ i < 0 by omega)⟩, fun i _ _ => rfl, fun i _ _ => rfl, ⟨fun i _ _ => Or.inl rfl, fun i _ _ => ⟨(show (0 : Int) ≤ 0 by decide), (show (0 : Int) ≤ 40 by decide)⟩⟩, fun s k _ _ _ _ => rfl⟩
theorem RepC_0 {kp tr : Ac} {G : Sa} {e1 e2 e3 e4 : Int32} {f : Nat → Int32} (hR : RS G Es0) : RepC ((iv 0, fun _ => 0), kp, (iv 0, iv 0, G), tr, (iv 0, e1, e2, e3, e4, f), (iv 0, iv 0, fun _ => 0), (iv 0, iv 0, fun _ => 0), (iv 0, iv 0, fun _ => 0), (iv 0, iv 0, fun _ => 0)) Sg0 :=
  ⟨⟨rfl, rfl, hR, IA_0, by decide⟩, ⟨rfl, Or.inl rfl, fun q => absurd q (by decide)⟩, fun i _ _ => rfl, ⟨rfl, by decide, by decide, fun i i0 i1 => absurd i1 (show ¬ i < 0 by omega)⟩, ⟨fun i _ _ => Or.inl rfl, fun i _ _ => ⟨(show (0 : Int) ≤ 0 by decide), (show (0 : Int) ≤ 40 by decide)⟩⟩, ⟨rfl, rfl, fun _ _ _ => rfl⟩, ⟨rfl, rfl, fun _ _ _ => rfl⟩, ⟨rfl, rfl, fun _ _ _ => rfl⟩, ⟨rfl, rfl, fun _ _ _ => rfl⟩⟩
