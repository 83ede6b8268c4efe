theorem IA_nwc {A : Es} (h : IA A) {k b c : Int} (n8 : pe A < 8) (k0 : 0 ≤ k) (k1 : k ≤ 5) (b0 : 0 ≤ b) (b1 : b ≤ 200) (c0 : -1 ≤ c) (c1 : c ≤ 9) (hc : c < 0 ∨ onC A c < 0) : IA (nwc A k b c) := by
  have hi := h
  obtain ⟨h1, h2, h3, h4, h5, h6⟩ := h
  refine ⟨h1, by show 0 ≤ pe A + 1; omega, by show pe A + 1 ≤ 8; omega, h4, fun q q0 q1 => ?_, fun q r q0 q1 r0 r1 hqr hq => ?_⟩
  · have q1 : q < pe A + 1 := q1
    simp only [nwc_at]
    by_cases hq : q = pe A
    · simp [hq]; omega
    · have := h5 q q0 (by omega)
      simp [hq]; omega
  · have q1 : q < pe A + 1 := q1
    have r1 : r < pe A + 1 := r1
    simp only [nwc_at] at hq ⊢
    by_cases e1 : q = pe A
    · by_cases e2 : r = pe A
      · omega
      · simp [e1] at hq
        simp [e1, e2]
        rcases hc with hc | hc
        · omega
        · exact fun e => onC_no hi hc r0 (by omega) e.symm
    · by_cases e2 : r = pe A
      · simp [e1] at hq
        simp [e1, e2]
        rcases hc with hc | hc
        · omega
        · exact onC_no hi hc q0 (by omega)
      · simp [e1] at hq
        simp [e1, e2]
        exact h6 q r q0 (by omega) r0 (by omega) hqr hq
def aft (tq : Int → Int) (tn : Int) (f : Nat) (B : Es) (T : Bool × Es × Int) (n : Int) : Bool × Es × Int := if T.1 = true then (if tK tq tn T.2.2 = 22 then (true, T.2.1, n) else if tK tq tn T.2.2 = 21 then prs tq tn f T.2.1 (tE tq tn T.2.2) (n + 1) else (false, B, tS tq tn T.2.2)) else (false, B, tS tq tn T.2.2)
theorem prs_s (tq : Int → Int) (tn : Int) (f : Nat) (A : Es) (i n : Int) : prs tq tn (f + 1) A i n = aft tq tn f A (itm tq tn A i) n := rfl
theorem tok_22 {tq : Int → Int} {tn i : Int} (i0 : 0 ≤ i) (h : i ≤ tn) (hk : tK tq tn i ≠ 22) : i < tE tq tn i := by
  have := tok_rng tq i0 h
  omega
