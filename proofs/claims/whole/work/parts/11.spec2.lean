def sumk (A : Es) (w : Int) : Nat → Int
  | 0 => 0
  | k + 1 => sumk A w k + pr A w (k : Int)
def sums (A : Es) (w : Int) : Int := sumk A w (pe A).toNat
def allB (A : Es) : Int := sums A 2 + sums A 3
theorem sumk_rng {A : Es} (h : IA A) {w : Int} (w2 : w = 2 ∨ w = 3 ∨ w = 4) : ∀ k : Nat, (k : Int) ≤ pe A → 0 ≤ sumk A w k ∧ sumk A w k ≤ 9999 * (k : Int)
  | 0, _ => by simp [sumk]
  | k + 1, hk => by
    have ih := sumk_rng h w2 k (by omega)
    have q := h.gP (p := (k : Int)) (by omega) (by omega)
    have e : 0 ≤ pr A w (k : Int) ∧ pr A w (k : Int) ≤ 9999 := by rcases w2 with rfl | rfl | rfl <;> omega
    unfold sumk
    omega
theorem sums_rng {A : Es} (h : IA A) {w : Int} (w2 : w = 2 ∨ w = 3 ∨ w = 4) : 0 ≤ sums A w ∧ sums A w ≤ 80000 := by
  have := sumk_rng h w2 (pe A).toNat (by have := h.n0; omega)
  have := h.n8
  unfold sums
  omega
def bset (b : Int → Bool) : Nat → Int32
  | 0 => iv 0
  | k + 1 => bset b k ||| (if b (k : Int) = true then iv 1 <<< (iv (k : Int) &&& 31) else iv 0)
def sitB (A : Es) (p : Int) : Bool := decide (0 ≤ pr A 1 p)
def evB (A : Es) (p : Int) : Bool := decide (-5 ≤ pr A 2 p - pr A 3 p ∧ pr A 2 p - pr A 3 p ≤ 5)
def setS (A : Es) : Int := (bset (sitB A) (pe A).toNat).toInt
def setE (A : Es) : Int := (bset (evB A) (pe A).toNat).toInt
def cntk (b : Int → Bool) : Nat → Int
  | 0 => 0
  | k + 1 => cntk b k + (if b (k : Int) = true then 1 else 0)
def cntS (A : Es) : Int := cntk (sitB A) (pe A).toNat
theorem cntk_rng (b : Int → Bool) : ∀ k : Nat, 0 ≤ cntk b k ∧ cntk b k ≤ (k : Int)
  | 0 => by simp [cntk]
  | k + 1 => by
    have := cntk_rng b k
    unfold cntk
    split <;> omega
def sunk (A : Es) : Nat → Int
  | 0 => 0
  | k + 1 => sunk A k + sn A (k : Int)
def allS (A : Es) : Int := sunk A 10
def free (A : Es) (c p : Int) : Prop := onC A c < 0 ∨ onC A c = p
theorem tn1 {i : Int} (h : 0 ≤ i) : (i + 1).toNat = i.toNat + 1 := by omega
theorem tnc {i : Int} (h : 0 ≤ i) : ((i.toNat : Nat) : Int) = i := by omega
