/-! numbers that stay small -/
theorem nI_m (a b : Nat) : nI a * nI b = nI (a * b) := (Int32.ofNat_mul a b).symm
theorem nI_d {a b : Nat} (ha : a < 2 ^ 31) (hb : b < 2 ^ 31) : nI a / nI b = nI (a / b) := by
  have h1 : nI b ≠ -1 := nI_m1 hb
  apply Int32.toInt_inj.mp
  rw [Int32.toInt_div_of_ne_right _ _ h1, nI_toInt ha, nI_toInt hb, nI_toInt (Nat.lt_of_le_of_lt (Nat.div_le_self a b) ha)]
  exact (Int.ofNat_tdiv a b).symm
theorem nI_r {a b : Nat} (ha : a < 2 ^ 31) (hb : b < 2 ^ 31) : nI a - nI a / nI b * nI b = nI (a % b) := by
  rw [nI_d ha hb, nI_m]
  have h : nI a = nI (a % b) + nI (a / b * b) := by
    rw [nI_add, Nat.mul_comm, Nat.mod_add_div]
  rw [h]
  exact Int32.add_sub_cancel _ _
theorem nI_bas : (10000000 : Int32) = nI 10000000 := by decide +kernel
theorem nI_far : farK = nI 1000000000 := by decide +kernel
/-- the value of a row: its length and its digits, the first of them 1 -/
def digs : List Nat → Nat → Nat
  | [], d => d
  | x :: xs, d => digs xs (d * 10 + x)
theorem digs_app : ∀ (xs : List Nat) (x d : Nat), digs (xs ++ [x]) d = digs xs d * 10 + x
  | [], _, _ => rfl
  | y :: ys, x, d => digs_app ys x (d * 10 + y)
theorem row_len {v len num : Nat} (hv : v < 1000000000) (hl : len < 10) (hn : num < 10) (hd : v % 10000000 < 1000000) (hL : v / 10000000 < 60) : (nI v / 10000000 + nI len) * 10000000 + ((nI v - nI v / 10000000 * 10000000) * 10 + nI num) = nI ((v / 10000000 + len) * 10000000 + (v % 10000000 * 10 + num)) := by
  rw [nI_bas, nI_r (by omega) (by decide), nI_d (by omega) (by decide), nI_add, nI_m, show (10 : Int32) = nI 10 by decide, nI_m, nI_add, nI_add]
