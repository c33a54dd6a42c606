/-! ===== Rows: numberOf ===== -/
/-- the digit i of k over m, from the lowest -/
def dgt (m k i : Nat) : Nat := k / m ^ i % m
def usN (m k : Nat) : Nat → Nat
  | 0 => 0
  | i + 1 => usN m k i ||| 2 ^ dgt m k i
def loN (m k : Nat) : Nat → Nat
  | 0 => 0
  | i + 1 => loN m k i + dgt m k i * 10 ^ i
def nuF (m k n : Nat) : Nat → Nat → Int
  | 0, _ => (loN m k n : Int)
  | f + 1, i => if (usN m k i).testBit (dgt m k i) = true then -1 else nuF m k n f (i + 1)
theorem usN_lt {m k : Nat} (h0 : 0 < m) (hm : m ≤ 5) : ∀ i, usN m k i < 32
  | 0 => by simp [usN]
  | i + 1 => by
    have h1 := usN_lt (k := k) h0 hm i
    have h2 : dgt m k i < m := Nat.mod_lt _ h0
    have h3 : 2 ^ dgt m k i < 2 ^ 5 := Nat.pow_lt_pow_right (by omega) (by omega)
    exact Nat.or_lt_two_pow (n := 5) h1 h3

