/-! ===== sheets, images, counts ===== -/
def fu (f : Int → Int) (i v : Int) : Int → Int := fun j => if j = i then v else f j
def fu2 (c : Int → Int → Int64) (s i : Int) (v : Int64) : Int → Int → Int64 := fun t j => if t = s ∧ j = i then v else c t j
def cut (b : Int) (v : Int64) : Int64 := if b = 8 then v.toInt32.toInt8.toInt32.toInt64 else if b = 16 then v.toInt32.toInt16.toInt32.toInt64 else v
def nth (bq : Int → Int) (s : Int) : Int := if ¬ (0 ≤ s ∧ s ≤ 3) then -1000000001 else if bq s = 0 then -1000000006 else 0
theorem nth_c (bq : Int → Int) (s : Int) : (nth bq s = -1000000001 ∧ ¬ (0 ≤ s ∧ s ≤ 3)) ∨ (nth bq s = -1000000006 ∧ (0 ≤ s ∧ s ≤ 3) ∧ bq s = 0) ∨ (nth bq s = 0 ∧ (0 ≤ s ∧ s ≤ 3) ∧ bq s ≠ 0) := by
  unfold nth
  by_cases h : 0 ≤ s ∧ s ≤ 3
  · by_cases h2 : bq s = 0
    · right; left; rw [if_neg (by omega), if_pos h2]; exact ⟨rfl, h, h2⟩
    · right; right; rw [if_neg (by omega), if_neg h2]; exact ⟨rfl, h, h2⟩
  · left; rw [if_pos h]; exact ⟨rfl, h⟩
def q_sheet (bq sq : Int → Int) (cq : Int → Int → Int64) (f : Int → Int) (s b n : Int) : Int × (Int → Int) × (Int → Int) × (Int → Int → Int64) × (Int → Int) :=
  if ¬ ((0 ≤ s ∧ s ≤ 3) ∧ (b = 0 ∨ b = 8 ∨ b = 16 ∨ b = 64)) then (fz 0, bq, sq, cq, bump f 0) else if n < 0 then (fz 6, bq, sq, cq, bump f 6) else if 40 < n then (fz 0, bq, sq, cq, bump f 0)
  else (if b = 0 then 0 else n, fu bq s b, fu sq s (if b = 0 then 0 else n), fun t j => if t = s then 0 else cq t j, f)
def q_write (bq sq : Int → Int) (cq : Int → Int → Int64) (f : Int → Int) (s i : Int) (v : Int64) : Int64 × (Int → Int → Int64) × (Int → Int) :=
  if ¬ (0 ≤ s ∧ s ≤ 3) then ((iv (-1000000001)).toInt64, cq, bump f 0) else if bq s = 0 then ((iv (-1000000006)).toInt64, cq, bump f 5) else if ¬ (0 ≤ i ∧ i ≤ sq s - 1) then ((iv (-1000000001)).toInt64, cq, bump f 0) else (cq s i, fu2 cq s i (cut (bq s) v), f)
def cpy (cq : Int → Int → Int64) (s a t b lo hi : Int) : Int → Int → Int64 := fun u j => if u = t ∧ b + lo ≤ j ∧ j < b + hi then cq s (a + (j - b)) else cq u j
def q_copy (bq sq : Int → Int) (cq : Int → Int → Int64) (f : Int → Int) (s a t b n : Int) : Int × (Int → Int → Int64) × (Int → Int) :=
  if ¬ ((0 ≤ s ∧ s ≤ 3) ∧ (0 ≤ t ∧ t ≤ 3)) then (fz 0, cq, bump f 0) else if bq s = 0 ∨ bq t = 0 then (fz 5, cq, bump f 5) else if bq s ≠ bq t then (fz 2, cq, bump f 2) else if ¬ (0 ≤ n ∧ 0 ≤ a ∧ 0 ≤ b ∧ n ≤ sq s - a ∧ n ≤ sq t - b) then (fz 0, cq, bump f 0) else (n, cpy cq s a t b 0 n, f)
def ncp (bq sq : Int → Int) (s a t b n : Int) : Int := if ¬ ((0 ≤ s ∧ s ≤ 3) ∧ (0 ≤ t ∧ t ≤ 3)) then -1000000001 else if bq s = 0 ∨ bq t = 0 then -1000000006 else if bq s ≠ bq t then -1000000003 else if ¬ (0 ≤ n ∧ 0 ≤ a ∧ 0 ≤ b ∧ n ≤ sq s - a ∧ n ≤ sq t - b) then -1000000001 else 0
def layk (c : Int → Int64) (A : Es) : Nat → Es × Int
  | 0 => (A, 0)
  | k + 1 => if 0 ≤ (c (k : Int)).toInt ∧ (c (k : Int)).toInt ≤ 9 then (su (layk c A k).1 (k : Int) (c (k : Int)).toInt, (layk c A k).2 + 1) else layk c A k
def min10 (n : Int) : Int := if n < 10 then n else 10
def q_lays (A : Es) (bq sq : Int → Int) (cq : Int → Int → Int64) (f : Int → Int) (s : Int) : T3 := if ¬ (0 ≤ s ∧ s ≤ 3) then bad3 A f 0 else if bq s = 0 then bad3 A f 5 else ((layk (cq s) A (min10 (sq s)).toNat).2, (layk (cq s) A (min10 (sq s)).toNat).1, f)
def bookC (A : Es) (b p k : Int) : Int64 := cut b (iv (brn (stepn A k.toNat) p)).toInt64
def bookq (A : Es) (bq : Int → Int) (cq : Int → Int → Int64) (s p n : Int) : Int → Int → Int64 := fun t j => if t = s ∧ 0 ≤ j ∧ j < n then bookC A (bq s) p j else cq t j
def q_book (A : Es) (bq sq : Int → Int) (cq : Int → Int → Int64) (f : Int → Int) (s p : Int) : Int × (Int → Int → Int64) × (Int → Int) := if ¬ (0 ≤ s ∧ s ≤ 3) then (fz 0, cq, bump f 0) else if bq s = 0 then (fz 5, cq, bump f 5) else if ¬ isP A p then (fz 0, cq, bump f 0) else (sq s, bookq A bq cq s p (sq s), f)
def isb (c : Int → Int64) (A : Es) (p : Int) : Nat → Bool
  | 0 => true
  | k + 1 => isb c A p k && decide ((c (k : Int)).toInt = brn (stepn A k) p)
theorem isb_mono {c : Int → Int64} {A : Es} {p : Int} {k : Nat} (h : isb c A p k = false) : ∀ n, isb c A p (k + n) = false
  | 0 => h
  | n + 1 => by show (isb c A p (k + n) && _) = false; rw [isb_mono h n]; rfl
def pairB (A : Es) (cq : Int → Int → Int64) (sq : Int → Int) (s x o j : Int) : Bool := isb (cq s) (pu (pu A 0 x (j / 6)) 0 o (j % 6)) x (sq s).toNat
def q_read (A : Es) (bq sq : Int → Int) (cq : Int → Int → Int64) (f : Int → Int) (s x o : Int) : Int × (Int → Int) := if ¬ (0 ≤ s ∧ s ≤ 3) then (fz 0, bump f 0) else if bq s = 0 then (fz 5, bump f 5) else if ¬ ((0 ≤ x ∧ x < pe A) ∧ (0 ≤ o ∧ o < pe A) ∧ x ≠ o) then (fz 0, bump f 0) else (cntk (pairB A cq sq s x o) 36, f)
def q_undo (A K : Es) (ik : Int) (f : Int → Int) : T3 := if ik = 0 then bad3 A f 3 else (pe K, K, f)
def q_count (A : Es) (tn : Int) (f : Int → Int) (w : Int) : Int × (Int → Int) := if w = 0 then (pe A, f) else if w = 1 then (tn, f) else if w = 2 then (cntS A, f) else if w = 3 then (allS A, f) else (fz 0, bump f 0)
def stk (f : Int → Int) (w : Int) : Nat → Int
  | 0 => 0
  | k + 1 => stk f w k + (if w < 0 ∨ w = (k : Int) then f (k : Int) else 0)
def q_status (f : Int → Int) (w : Int) : Int × (Int → Int) := if ¬ (-1 ≤ w ∧ w ≤ 6) then (fz 0, bump f 0) else (stk f w 7, f)
def byt (b k : Int) : Int := b / (if k = 0 then 1 else if k = 1 then 256 else if k = 2 then 65536 else 16777216) % 256
def fedq (tq : Int → Int) (tn b n : Int) : Int → Int := fun i => if tn ≤ i then byt b (n - 1 - (i - tn)) else tq i
def q_feed (tq : Int → Int) (tn : Int) (f : Int → Int) (b n : Int) : Int × (Int → Int) × Int × (Int → Int) := if ¬ (1 ≤ n ∧ n ≤ 4) then (fz 0, tq, tn, bump f 0) else if 120 < tn + n then (fz 1, tq, tn, bump f 1) else (tn + n, fedq tq tn b n, tn + n, f)
theorem RF_fu {n : Int} {f : Nat → Int32} {g : Int → Int} {k v : Int} (h : RF n f g) (k0 : 0 ≤ k) : RF n (upd f k.toNat (iv v)) (fu g k v) := by
  intro i i0 i1
  unfold upd fu
  by_cases hk : i = k
  · subst hk; rw [if_pos rfl, if_pos rfl]
  · rw [if_neg (tn_ne i0 k0 hk), if_neg hk]; exact h i i0 i1
def CL (c : Nat → Int64) (q : Int → Int → Int64) : Prop := ∀ s k, 0 ≤ s → s < 4 → 0 ≤ k → k < 40 → c (40 * s + k).toNat = q s k
theorem CL_congr {c : Nat → Int64} {p q : Int → Int → Int64} (h : CL c p) (e : ∀ s k, 0 ≤ s → s < 4 → 0 ≤ k → k < 40 → p s k = q s k) : CL c q := fun s k s0 s1 k0 k1 => (h s k s0 s1 k0 k1).trans (e s k s0 s1 k0 k1)
theorem CL_upd {c : Nat → Int64} {q : Int → Int → Int64} (h : CL c q) {s k : Int} {v : Int64} (s0 : 0 ≤ s) (s1 : s < 4) (k0 : 0 ≤ k) (k1 : k < 40) : CL (vp_updL c (40 * s + k).toNat v) (fu2 q s k v) := by
  intro t j t0 t1 j0 j1
  unfold vp_updL fu2
  by_cases hq : t = s ∧ j = k
  · obtain ⟨rfl, rfl⟩ := hq; rw [if_pos rfl, if_pos ⟨rfl, rfl⟩]
  · rw [if_neg (by omega), if_neg hq]; exact h t j t0 t1 j0 j1
theorem okB_fu {bq sq : Int → Int} (h : okB bq sq) {s b n : Int} (hb : b = 0 ∨ b = 8 ∨ b = 16 ∨ b = 64) (n0 : 0 ≤ n) (n1 : n ≤ 40) : okB (fu bq s b) (fu sq s n) := by
  refine ⟨fun i i0 i1 => ?_, fun i i0 i1 => ?_⟩
  · unfold fu; split
    · exact hb
    · exact h.1 i i0 i1
  · unfold fu; split
    · exact ⟨n0, n1⟩
    · exact h.2 i i0 i1
theorem i64_small {x : Int64} (h0 : -2147483648 ≤ x.toInt) (h1 : x.toInt < 2147483648) : x.toInt32 = iv x.toInt := by
  apply Int32.toInt_inj.mp
  rw [iv_toInt ⟨h0, h1⟩]
  exact Jvm.Kit.i32_of_i64 (by omega) (by omega)
theorem su_pe (A : Es) (i v : Int) : pe (su A i v) = pe A := rfl
theorem layk_pe (c : Int → Int64) (A : Es) : ∀ k : Nat, pe (layk c A k).1 = pe A ∧ hr (layk c A k).1 = hr A
  | 0 => ⟨rfl, rfl⟩
  | k + 1 => by
    unfold layk
    split
    · exact layk_pe c A k
    · exact layk_pe c A k
theorem layk_IA {c : Int → Int64} {A : Es} (h : IA A) : ∀ k : Nat, IA (layk c A k).1
  | 0 => h
  | k + 1 => by
    unfold layk
    split
    · next q => exact IA_su (layk_IA h k) q.1 q.2
    · exact layk_IA h k
theorem layk_n (c : Int → Int64) (A : Es) : ∀ k : Nat, 0 ≤ (layk c A k).2 ∧ (layk c A k).2 ≤ (k : Int)
  | 0 => by simp [layk]
  | k + 1 => by
    have := layk_n c A k
    unfold layk
    split
    · dsimp only; omega
    · omega
theorem layk_y {c : Int → Int64} {A : Es} {i : Int} (i0 : 0 ≤ i) (h : 0 ≤ (c i).toInt ∧ (c i).toInt ≤ 9) : layk c A (i + 1).toNat = (su (layk c A i.toNat).1 i (c i).toInt, (layk c A i.toNat).2 + 1) := by
  rw [tn1 i0, layk, tnc i0, if_pos h]
theorem layk_no {c : Int → Int64} {A : Es} {i : Int} (i0 : 0 ≤ i) (h : ¬ (0 ≤ (c i).toInt ∧ (c i).toInt ≤ 9)) : layk c A (i + 1).toNat = layk c A i.toNat := by
  rw [tn1 i0, layk, tnc i0, if_neg h]
theorem and255 (x : Int32) : x &&& iv 255 = iv (x.toInt % 256) := by
  have h := pk_and x (m := iv 255) 8 (by decide)
  rw [h]
  apply Int32.toInt_inj.mp
  have hx := x.toBitVec.isLt
  have hy : x.toInt = x.toBitVec.toInt := rfl
  rw [nI_toInt (by omega), iv_toInt ⟨by omega, by omega⟩, hy, BitVec.toInt_eq_toNat_cond]
  split <;> omega
theorem byt_rng (b k : Int) : 0 ≤ byt b k ∧ byt b k ≤ 255 := by unfold byt; omega
theorem byt_shr {b : Int} (hb : r32 b) : ∀ k : Int, 0 ≤ k → k < 4 → ((iv b) >>> (iv (8 * k) &&& 31)) &&& iv 255 = iv (byt b k) := by
  intro k k0 k1
  have key : ∀ (s : Int32) (j : Nat), (s.toBitVec.smod 32).toNat = j → (iv b >>> s).toInt = b >>> j := fun s j hs => by rw [pk_shr _ s j hs, iv_toInt hb]
  rw [and255]
  congr 1
  unfold byt
  rcases (show k = 0 ∨ k = 1 ∨ k = 2 ∨ k = 3 by omega) with rfl | rfl | rfl | rfl
  · rw [key _ 0 (by decide)]; simp
  · rw [key _ 8 (by decide), Int.shiftRight_eq_div_pow]; simp
  · rw [key _ 16 (by decide), Int.shiftRight_eq_div_pow]; simp
  · rw [key _ 24 (by decide), Int.shiftRight_eq_div_pow]; simp
theorem byt_ushr {b : Int} (hb : r32 b) : ∀ k : Int, 0 ≤ k → k < 4 → (((iv b).toUInt32 >>> ((iv (8 * k)).toUInt32 &&& Int32.toUInt32 31)).toInt32) &&& iv 255 = iv (byt b k) := by
  intro k k0 k1
  have hn : (iv b).toInt = b := iv_toInt hb
  have hy : (iv b).toInt = (iv b).toBitVec.toInt := rfl
  have hx := (iv b).toBitVec.isLt
  rw [hy, BitVec.toInt_eq_toNat_cond] at hn
  have key : ∀ (s : Int32) (j : Nat), ((s.toUInt32 &&& Int32.toUInt32 31).toBitVec % 32).toNat = j → ((iv b).toUInt32 >>> (s.toUInt32 &&& Int32.toUInt32 31)).toInt32.toBitVec.toNat = (iv b).toBitVec.toNat / 2 ^ j := fun s j hs => pk_ushr _ s j hs
  have h255 := pk_and (((iv b).toUInt32 >>> ((iv (8 * k)).toUInt32 &&& Int32.toUInt32 31)).toInt32) (m := iv 255) 8 (by decide)
  rw [h255]
  apply Int32.toInt_inj.mp
  have br := byt_rng b k
  rw [nI_toInt (by omega), iv_toInt ⟨by omega, by omega⟩]
  unfold byt
  rcases (show k = 0 ∨ k = 1 ∨ k = 2 ∨ k = 3 by omega) with rfl | rfl | rfl | rfl
  · rw [key _ 0 (by decide)]; split at hn <;> simp <;> omega
  · rw [key _ 8 (by decide)]; split at hn <;> simp <;> omega
  · rw [key _ 16 (by decide)]; split at hn <;> simp <;> omega
  · rw [key _ 24 (by decide)]; split at hn <;> simp <;> omega
