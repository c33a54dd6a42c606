/-! ===== bits ===== -/
theorem bI_sl : ∀ n, n < 32 → ((nI n &&& 31).toBitVec.smod 32).toNat = n := by decide +kernel
theorem bI_and (a b : Nat) : nI a &&& nI b = nI (a &&& b) := by
  apply Int32.toBitVec_inj.mp
  show BitVec.ofNat 32 a &&& BitVec.ofNat 32 b = BitVec.ofNat 32 (a &&& b)
  apply BitVec.eq_of_getLsbD_eq
  intro i hi
  simp [BitVec.getLsbD_ofNat, hi]
theorem bI_or (a b : Nat) : nI a ||| nI b = nI (a ||| b) := by
  apply Int32.toBitVec_inj.mp
  show BitVec.ofNat 32 a ||| BitVec.ofNat 32 b = BitVec.ofNat 32 (a ||| b)
  apply BitVec.eq_of_getLsbD_eq
  intro i hi
  simp [BitVec.getLsbD_ofNat, hi]
theorem bI_xor (a b : Nat) : nI a ^^^ nI b = nI (a ^^^ b) := by
  apply Int32.toBitVec_inj.mp
  show BitVec.ofNat 32 a ^^^ BitVec.ofNat 32 b = BitVec.ofNat 32 (a ^^^ b)
  apply BitVec.eq_of_getLsbD_eq
  intro i hi
  simp [BitVec.getLsbD_ofNat, hi]
theorem xand_nn {a b : Nat} (ha : a < 2147483648) : xand (a : Int) (b : Int) = ((a &&& b : Nat) : Int) := by
  unfold xand
  rw [oI_nat, oI_nat]
  show (nI a &&& nI b).toInt = _
  rw [bI_and, nI_toInt (Nat.lt_of_le_of_lt Nat.and_le_left (by omega))]
theorem xor_lt {a b : Nat} (ha : a < 2147483648) (hb : b < 2147483648) : a ||| b < 2147483648 := Nat.or_lt_two_pow (n := 31) ha hb
theorem xor_nn {a b : Nat} (ha : a < 2147483648) (hb : b < 2147483648) : xor' (a : Int) (b : Int) = ((a ||| b : Nat) : Int) := by
  unfold xor'
  rw [oI_nat, oI_nat]
  show (nI a ||| nI b).toInt = _
  rw [bI_or, nI_toInt (xor_lt ha hb)]
theorem xxor_nn {a b : Nat} (ha : a < 2147483648) (hb : b < 2147483648) : xxor (a : Int) (b : Int) = ((a ^^^ b : Nat) : Int) := by
  unfold xxor
  rw [oI_nat, oI_nat]
  show (nI a ^^^ nI b).toInt = _
  rw [bI_xor, nI_toInt (Nat.xor_lt_two_pow (n := 31) ha hb)]
theorem xshl_nn {a k : Nat} (hk : k < 32) (h : a * 2 ^ k < 2147483648) : xshl (a : Int) (k : Int) = ((a * 2 ^ k : Nat) : Int) := by
  unfold xshl
  rw [oI_nat, oI_nat]
  show (nI a <<< (nI k &&& 31)).toInt = _
  rw [pk_shlN (nI k &&& 31) k (bI_sl k hk) (by omega), nI_toInt (by omega)]
theorem xshr_nn {a k : Nat} (hk : k < 32) (h : a < 2147483648) : xshr (a : Int) (k : Int) = ((a / 2 ^ k : Nat) : Int) := by
  unfold xshr
  rw [oI_nat, oI_nat]
  show (nI a >>> (nI k &&& 31)).toInt = _
  rw [pk_shrN (by omega) (nI k &&& 31) k (bI_sl k hk), nI_toInt (Nat.lt_of_le_of_lt (Nat.div_le_self _ _) (by omega))]
theorem pw_lt {k n : Nat} (h : k < n) (hn : n ≤ 31) : 2 ^ k < 2147483648 := by
  have : 2 ^ k < 2 ^ 31 := Nat.pow_lt_pow_right (by omega) (by omega)
  simpa using this
theorem xshl_1 {k : Nat} (hk : k < 31) : xshl 1 (k : Int) = ((2 ^ k : Nat) : Int) := by
  have h := xshl_nn (a := 1) (k := k) (by omega) (by rw [Nat.one_mul]; exact pw_lt hk (by omega))
  rw [Nat.one_mul] at h
  exact h
theorem xand_m1 {a : Nat} (ha : a < 2147483648) : xand (a : Int) 1 = ((a % 2 : Nat) : Int) := by
  have h := xand_nn (a := a) (b := 1) ha
  rw [Nat.and_one_is_mod] at h
  exact h
theorem xand_m7 {a : Nat} (ha : a < 2147483648) : xand (a : Int) 7 = ((a % 8 : Nat) : Int) := by
  have h := xand_nn (a := a) (b := 7) ha
  rw [show (7 : Nat) = 2 ^ 3 - 1 by rfl, Nat.and_two_pow_sub_one_eq_mod] at h
  exact h
/-- s >> k & 1 -/
theorem xbit {a k : Nat} (hk : k < 32) (ha : a < 2147483648) : xand (xshr (a : Int) (k : Int)) 1 = (if a.testBit k then 1 else 0) := by
  rw [xshr_nn hk ha, xand_m1 (Nat.lt_of_le_of_lt (Nat.div_le_self _ _) ha)]
  have h : a.testBit k = decide (a / 2 ^ k % 2 = 1) := Nat.testBit_eq_decide_div_mod_eq
  rw [h]
  by_cases e : a / 2 ^ k % 2 = 1
  · rw [e]; simp
  · have : a / 2 ^ k % 2 = 0 := by omega
    rw [this]; simp
theorem nS (j : Nat) : (j : Int) + 1 = ((j + 1 : Nat) : Int) := rfl
theorem wN {j : Nat} (h : j < 2147483648) : wi (j : Int) = (j : Int) := wi_id (by omega) (by omega)
theorem w0 : wi 0 = 0 := rfl
theorem w1 : wi 1 = 1 := rfl
theorem w2 : wi 2 = 2 := rfl
theorem w3 : wi 3 = 3 := rfl
theorem w4 : wi 4 = 4 := rfl
theorem w5 : wi 5 = 5 := rfl
theorem wm1 : wi (-1) = -1 := rfl
theorem tN (j : Nat) : (j : Int).toNat = j := rfl
theorem t0 : (0 : Int).toNat = 0 := rfl
theorem wi_01 (p : Prop) [Decidable p] : wi (if p then 1 else 0) = if p then 1 else 0 := by
  by_cases h : p
  · rw [if_pos h]; rfl
  · rw [if_neg h]; rfl
theorem if10 (p : Prop) [Decidable p] : ((if p then (1 : Int) else 0) = 0) = ¬ p := by
  by_cases h : p
  · rw [if_pos h]; simp [h]
  · rw [if_neg h]; simp [h]
/-- f holds from i on, k times -/
def fa (f : Nat → Bool) : Nat → Nat → Bool
  | 0, _ => true
  | k + 1, i => f i && fa f k (i + 1)
theorem fa_s {f : Nat → Bool} {n i : Nat} (h : i < n) : fa f (n - i) i = (f i && fa f (n - (i + 1)) (i + 1)) := by
  rw [show n - i = (n - (i + 1)) + 1 by omega, fa]
theorem fa_e {f : Nat → Bool} {n : Nat} : fa f (n - n) n = true := by rw [Nat.sub_self, fa]
theorem fa_iff {f : Nat → Bool} : ∀ (k i : Nat), fa f k i = true ↔ ∀ j, i ≤ j → j < i + k → f j = true
  | 0, i => by simp [fa]; intro j h1 h2; omega
  | k + 1, i => by
    rw [fa, Bool.and_eq_true, fa_iff k (i + 1)]
    constructor
    · rintro ⟨h1, h2⟩ j h3 h4
      rcases Nat.lt_or_ge i j with h | h
      · exact h2 j (by omega) (by omega)
      · rw [show j = i by omega]; exact h1
    · intro h
      exact ⟨h i (by omega) (by omega), fun j h1 h2 => h j (by omega) (by omega)⟩
/-- the bits below n at which p holds -/
def bts (p : Nat → Bool) : Nat → Nat
  | 0 => 0
  | i + 1 => if p i then bts p i ||| 2 ^ i else bts p i
theorem bts_lt (p : Nat → Bool) : ∀ n, bts p n < 2 ^ n
  | 0 => by simp [bts]
  | n + 1 => by
    have h := bts_lt p n
    have h2 : 2 ^ (n + 1) = 2 * 2 ^ n := by rw [Nat.pow_succ]; omega
    unfold bts
    split
    · exact Nat.or_lt_two_pow (by omega) (Nat.pow_lt_pow_right (by omega) (by omega))
    · omega
theorem bts_bit (p : Nat → Bool) : ∀ n i, (bts p n).testBit i = (decide (i < n) && p i)
  | 0, i => by simp [bts]
  | n + 1, i => by
    have ih := bts_bit p n i
    unfold bts
    by_cases h : p n = true
    · rw [if_pos h, Nat.testBit_or, ih, Nat.testBit_two_pow]
      by_cases e : n = i
      · subst e; simp [h]
      · by_cases e2 : i < n
        · simp [e2, e, show i < n + 1 by omega]
        · simp [e2, e, show ¬ i < n + 1 by omega]
    · rw [if_neg h, ih]
      by_cases e : i = n
      · subst e; simp [h]
      · by_cases e2 : i < n
        · simp [e2, show i < n + 1 by omega]
        · simp [e2, show ¬ i < n + 1 by omega]
/-! ===== gates ===== -/
abbrev Gt : Type := Nat × Nat × Int
def gz : Gt := (0, 0, 0)
/-- its lines, as bits -/
def gm (q : Gt) : Nat := if q.1 < 3 then 2 ^ q.2.1 else 2 ^ q.2.1 ||| 2 ^ q.2.2.toNat
/-- a gate on n lines -/
def vG (n : Nat) (q : Gt) : Prop := q.1 ≤ 5 ∧ q.2.1 < n ∧ (q.1 = 0 → 0 ≤ q.2.2 ∧ q.2.2 < 8) ∧ (q.1 = 1 ∨ q.1 = 2 → q.2.2 = -1) ∧ (3 ≤ q.1 → 0 ≤ q.2.2 ∧ q.2.2 < n ∧ q.2.2 ≠ q.2.1)
def gA (c : List Gt) (j : Nat) : Gt := c.getD j gz
def okC (n : Nat) (c : List Gt) : Prop := ∀ q, q ∈ c → vG n q
theorem okC.at {n : Nat} {c : List Gt} (h : okC n c) {j : Nat} (hj : j < c.length) : vG n (gA c j) := by
  have e : gA c j = c[j] := by simp [gA, hj]
  rw [e]
  exact h _ (List.getElem_mem hj)
/-- the class's row of gates at g holds the gates c -/
def HG (σ : Mem) (g : Nat) (c : List Gt) : Prop := σ.1 g 6 = (c.length : Int) ∧ ∀ j, j < c.length → σ.1 (g + 1) j = ((gA c j).1 : Int) ∧ σ.1 (g + 2) j = ((gA c j).2.1 : Int) ∧ σ.1 (g + 3) j = (gA c j).2.2 ∧ σ.1 (g + 4) j = (gm (gA c j) : Int)
theorem gm_lt {n : Nat} {q : Gt} (h : vG n q) (hn : n ≤ 5) : gm q < 32 := by
  obtain ⟨h1, h2, h3, h4, h5⟩ := h
  unfold gm
  have e1 : 2 ^ q.2.1 < 2 ^ 5 := Nat.pow_lt_pow_right (by omega) (by omega)
  split
  · omega
  · have h6 := h5 (by omega)
    have e2 : 2 ^ q.2.2.toNat < 2 ^ 5 := Nat.pow_lt_pow_right (by omega) (by omega)
    exact Nat.or_lt_two_pow (n := 5) e1 e2
