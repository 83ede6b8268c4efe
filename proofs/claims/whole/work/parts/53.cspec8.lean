def us9 (x k : Int32) : Int32 := (x.toUInt32 >>> (k.toUInt32 &&& Int32.toUInt32 31)).toInt32
def bc1 (x : Int32) : Int32 := x - (us9 x (iv 1) &&& 1431655765)
def bc2 (x : Int32) : Int32 := (x &&& 858993459) + (us9 x (iv 2) &&& 858993459)
def bc3 (x : Int32) : Int32 := (x + us9 x (iv 4)) &&& 252645135
def bc4 (x : Int32) : Int32 := x + us9 x (iv 8)
def bc5 (x : Int32) : Int32 := x + us9 x (iv 16)
def bcx (x : Int32) : Int32 := bc5 (bc4 (bc3 (bc2 (bc1 x)))) &&& iv 63
def bsl (l : List Bool) : Int32 := l.zipIdx.foldl (fun a q => a ||| (if q.1 = true then iv 1 <<< (iv (q.2 : Int) &&& 31) else iv 0)) (iv 0)
def cnl (l : List Bool) : Int := l.foldl (fun a b => a + (if b = true then 1 else 0)) 0
theorem bc_8 : ∀ b0 b1 b2 b3 b4 b5 b6 b7 : Bool, bcx (bsl [b0, b1, b2, b3, b4, b5, b6, b7]) = iv (cnl [b0, b1, b2, b3, b4, b5, b6, b7]) := by decide +kernel
theorem bset_cong {b d : Int → Bool} : ∀ n : Nat, (∀ k : Int, 0 ≤ k → k < n → b k = d k) → bset b n = bset d n
  | 0, _ => rfl
  | n + 1, h => by
    rw [bset, bset, h n (by omega) (by omega), bset_cong n (fun k k0 k1 => h k k0 (by omega))]
theorem cntk_cong {b d : Int → Bool} : ∀ n : Nat, (∀ k : Int, 0 ≤ k → k < n → b k = d k) → cntk b n = cntk d n
  | 0, _ => rfl
  | n + 1, h => by
    rw [cntk, cntk, h n (by omega) (by omega), cntk_cong n (fun k k0 k1 => h k k0 (by omega))]
theorem bset_more {b : Int → Bool} {n : Nat} : ∀ m : Nat, (∀ k : Int, (n : Int) ≤ k → k < n + m → b k = false) → bset b (n + m) = bset b n
  | 0, _ => rfl
  | m + 1, h => by
    show bset b (n + m + 1) = _
    rw [bset, h ((n + m : Nat) : Int) (by omega) (by omega), if_neg (by decide), bor0]
    exact bset_more m (fun k k0 k1 => h k k0 (by omega))
theorem cntk_more {b : Int → Bool} {n : Nat} : ∀ m : Nat, (∀ k : Int, (n : Int) ≤ k → k < n + m → b k = false) → cntk b (n + m) = cntk b n
  | 0, _ => rfl
  | m + 1, h => by
    show cntk b (n + m + 1) = _
    rw [cntk, h ((n + m : Nat) : Int) (by omega) (by omega), if_neg (by decide), Int.add_zero]
    exact cntk_more m (fun k k0 k1 => h k k0 (by omega))
theorem bc_cnt (b : Int → Bool) (n : Nat) (hn : n ≤ 8) : bcx (bset b n) = iv (cntk b n) := by
  let d : Int → Bool := fun k => if k < n then b k else false
  have e1 : bset b n = bset d 8 := by
    rw [show (8 : Nat) = n + (8 - n) by omega, bset_more (b := d) (8 - n) (fun k k0 k1 => if_neg (by omega))]
    exact bset_cong n (fun k k0 k1 => (if_pos k1).symm)
  have e2 : cntk b n = cntk d 8 := by
    rw [show (8 : Nat) = n + (8 - n) by omega, cntk_more (b := d) (8 - n) (fun k k0 k1 => if_neg (by omega))]
    exact cntk_cong n (fun k k0 k1 => (if_pos k1).symm)
  rw [e1, e2]
  exact bc_8 (d 0) (d 1) (d 2) (d 3) (d 4) (d 5) (d 6) (d 7)
