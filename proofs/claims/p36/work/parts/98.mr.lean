/-! ===== gates that may change places: as vectors ===== -/
def clN (k a b t : Nat) (W : Vc) (r : Nat) : Q4 :=
  if k = 0 then (if r.testBit a = true then tuQ t (W r) else W r)
  else if k = 1 then (if r.testBit a = true then sbQ (W (r ^^^ 2 ^ a)) (W r) else adQ (W r) (W (r ^^^ 2 ^ a)))
  else if k = 2 then W (r ^^^ 2 ^ a)
  else if k = 3 then (if r.testBit a = true then W (r ^^^ 2 ^ b) else W r)
  else if k = 4 then (if r.testBit a = true ∧ r.testBit b = true then tuQ 4 (W r) else W r)
  else (if r.testBit a = r.testBit b then W r else W ((r ^^^ 2 ^ a) ^^^ 2 ^ b))
theorem clW_N (q : Gt) (W : Vc) : clW q W = clN q.1 q.2.1 q.2.2.toNat q.2.2.toNat W := rfl
theorem tu_ad (p q : Q4) : ∀ k, tuQ k (adQ p q) = adQ (tuQ k p) (tuQ k q)
  | 0 => rfl
  | k + 1 => by
    rw [tuQ, tu_ad p q k]
    refine q4_ext ?_ ?_ ?_ ?_ <;> simp only [tuQ, tu1, adQ] <;> omega
theorem tu_sb (p q : Q4) : ∀ k, tuQ k (sbQ p q) = sbQ (tuQ k p) (tuQ k q)
  | 0 => rfl
  | k + 1 => by
    rw [tuQ, tu_sb p q k]
    refine q4_ext ?_ ?_ ?_ ?_ <;> simp only [tuQ, tu1, sbQ] <;> omega
theorem tu_add (q : Q4) (j : Nat) : ∀ k, tuQ k (tuQ j q) = tuQ (k + j) q
  | 0 => by rw [Nat.zero_add]; rfl
  | k + 1 => by
    rw [show k + 1 + j = (k + j) + 1 by omega]
    show tu1 (tuQ k (tuQ j q)) = tu1 (tuQ (k + j) q)
    rw [tu_add q j k]
theorem tu_c (q : Q4) (j k : Nat) : tuQ k (tuQ j q) = tuQ j (tuQ k q) := by rw [tu_add, tu_add, Nat.add_comm]
section CO
variable {a b a' b' t t' x : Nat} {W : Vc}
theorem co00 : clN 0 a b t (clN 0 a' b' t' W) x = clN 0 a' b' t' (clN 0 a b t W) x := by
  simp only [clN, if_true]
  by_cases h1 : x.testBit a = true
  · by_cases h2 : x.testBit a' = true
    · simp only [h1, h2, if_true]; exact tu_c _ _ _
    · simp [h1, h2]
  · by_cases h2 : x.testBit a' = true
    · simp [h1, h2]
    · simp [h1, h2]
theorem co01 (h : a ≠ a') : clN 0 a b t (clN 1 a' b' t' W) x = clN 1 a' b' t' (clN 0 a b t W) x := by
  simp only [clN, if_true, show (1 : Nat) ≠ 0 by decide, if_false, tb_xn (Ne.symm h)]
  by_cases h1 : x.testBit a = true
  · by_cases h2 : x.testBit a' = true
    · simp only [h1, h2, if_true]; exact tu_sb _ _ _
    · simp only [h1, h2, if_true]; exact tu_ad _ _ _
  · by_cases h2 : x.testBit a' = true
    · simp [h1, h2]
    · simp [h1, h2]
theorem co02 (h : a ≠ a') : clN 0 a b t (clN 2 a' b' t' W) x = clN 2 a' b' t' (clN 0 a b t W) x := by
  simp only [clN, if_true, show (2 : Nat) ≠ 0 by decide, show (2 : Nat) ≠ 1 by decide, if_false, tb_xn (Ne.symm h)]
theorem co03 (h : a ≠ b') : clN 0 a b t (clN 3 a' b' t' W) x = clN 3 a' b' t' (clN 0 a b t W) x := by
  simp only [clN, if_true, show (3 : Nat) ≠ 0 by decide, show (3 : Nat) ≠ 1 by decide, show (3 : Nat) ≠ 2 by decide, if_false, tb_xn (Ne.symm h)]
  by_cases h1 : x.testBit a = true <;> by_cases h2 : x.testBit a' = true <;> simp [h1, h2]
theorem co04 : clN 0 a b t (clN 4 a' b' t' W) x = clN 4 a' b' t' (clN 0 a b t W) x := by
  simp only [clN, if_true, show (4 : Nat) ≠ 0 by decide, show (4 : Nat) ≠ 1 by decide, show (4 : Nat) ≠ 2 by decide, show (4 : Nat) ≠ 3 by decide, if_false]
  by_cases h1 : x.testBit a = true
  · by_cases h2 : x.testBit a' = true ∧ x.testBit b' = true
    · rw [if_pos h1, if_pos h2, if_pos h2, if_pos h1]; exact tu_c _ _ _
    · rw [if_pos h1, if_neg h2, if_neg h2, if_pos h1]
  · rw [if_neg h1, if_neg h1]
theorem co11 (h : a ≠ a') : clN 1 a b t (clN 1 a' b' t' W) x = clN 1 a' b' t' (clN 1 a b t W) x := by
  simp only [clN, if_true, show (1 : Nat) ≠ 0 by decide, if_false, tb_xn (Ne.symm h), tb_xn h, x_c (r := x) (a := a) (b := a')]
  by_cases h1 : x.testBit a = true <;> by_cases h2 : x.testBit a' = true <;> simp only [h1, h2, if_true] <;> refine q4_ext ?_ ?_ ?_ ?_ <;> simp [adQ, sbQ] <;> omega
theorem co12 (h : a ≠ a') : clN 1 a b t (clN 2 a' b' t' W) x = clN 2 a' b' t' (clN 1 a b t W) x := by
  simp only [clN, if_true, show (1 : Nat) ≠ 0 by decide, show (2 : Nat) ≠ 0 by decide, show (2 : Nat) ≠ 1 by decide, if_false, tb_xn (Ne.symm h), x_c (r := x) (a := a) (b := a')]
theorem co13 (h : a ≠ a') (h' : a ≠ b') : clN 1 a b t (clN 3 a' b' t' W) x = clN 3 a' b' t' (clN 1 a b t W) x := by
  simp only [clN, if_true, show (1 : Nat) ≠ 0 by decide, show (3 : Nat) ≠ 0 by decide, show (3 : Nat) ≠ 1 by decide, show (3 : Nat) ≠ 2 by decide, if_false, tb_xn h, tb_xn (Ne.symm h'), x_c (r := x) (a := a) (b := b')]
  by_cases h1 : x.testBit a = true <;> by_cases h2 : x.testBit a' = true <;> simp [h1, h2]
theorem co14 (h : a ≠ a') (h' : a ≠ b') : clN 1 a b t (clN 4 a' b' t' W) x = clN 4 a' b' t' (clN 1 a b t W) x := by
  simp only [clN, if_true, show (1 : Nat) ≠ 0 by decide, show (4 : Nat) ≠ 0 by decide, show (4 : Nat) ≠ 1 by decide, show (4 : Nat) ≠ 2 by decide, show (4 : Nat) ≠ 3 by decide, if_false, tb_xn h, tb_xn h']
  by_cases h1 : x.testBit a = true <;> by_cases h2 : x.testBit a' = true ∧ x.testBit b' = true <;> simp only [h1, h2, if_true, if_false, and_self] <;> first | rfl | exact (tu_sb _ _ _).symm | exact (tu_ad _ _ _).symm
theorem co22 : clN 2 a b t (clN 2 a' b' t' W) x = clN 2 a' b' t' (clN 2 a b t W) x := by
  simp only [clN, if_true, show (2 : Nat) ≠ 0 by decide, show (2 : Nat) ≠ 1 by decide, if_false, x_c (r := x) (a := a) (b := a')]
theorem co23 (h : a ≠ a') : clN 2 a b t (clN 3 a' b' t' W) x = clN 3 a' b' t' (clN 2 a b t W) x := by
  simp only [clN, if_true, show (2 : Nat) ≠ 0 by decide, show (2 : Nat) ≠ 1 by decide, show (3 : Nat) ≠ 0 by decide, show (3 : Nat) ≠ 1 by decide, show (3 : Nat) ≠ 2 by decide, if_false, tb_xn h, x_c (r := x) (a := a) (b := b')]
theorem co24 (h : a ≠ a') (h' : a ≠ b') : clN 2 a b t (clN 4 a' b' t' W) x = clN 4 a' b' t' (clN 2 a b t W) x := by
  simp only [clN, if_true, show (2 : Nat) ≠ 0 by decide, show (2 : Nat) ≠ 1 by decide, show (4 : Nat) ≠ 0 by decide, show (4 : Nat) ≠ 1 by decide, show (4 : Nat) ≠ 2 by decide, show (4 : Nat) ≠ 3 by decide, if_false, tb_xn h, tb_xn h']
theorem co33 (h : a ≠ b') (h' : b ≠ a') : clN 3 a b t (clN 3 a' b' t' W) x = clN 3 a' b' t' (clN 3 a b t W) x := by
  simp only [clN, if_true, show (3 : Nat) ≠ 0 by decide, show (3 : Nat) ≠ 1 by decide, show (3 : Nat) ≠ 2 by decide, if_false, tb_xn (Ne.symm h), tb_xn h', x_c (r := x) (a := b) (b := b')]
  by_cases h1 : x.testBit a = true <;> by_cases h2 : x.testBit a' = true <;> simp [h1, h2]
theorem co34 (h : b ≠ a') (h' : b ≠ b') : clN 3 a b t (clN 4 a' b' t' W) x = clN 4 a' b' t' (clN 3 a b t W) x := by
  simp only [clN, if_true, show (3 : Nat) ≠ 0 by decide, show (3 : Nat) ≠ 1 by decide, show (3 : Nat) ≠ 2 by decide, show (4 : Nat) ≠ 0 by decide, show (4 : Nat) ≠ 1 by decide, show (4 : Nat) ≠ 2 by decide, show (4 : Nat) ≠ 3 by decide, if_false, tb_xn h, tb_xn h']
  by_cases h1 : x.testBit a = true <;> by_cases h2 : x.testBit a' = true ∧ x.testBit b' = true <;> simp [h1, h2]
theorem co44 : clN 4 a b t (clN 4 a' b' t' W) x = clN 4 a' b' t' (clN 4 a b t W) x := by
  simp only [clN, if_true, show (4 : Nat) ≠ 0 by decide, show (4 : Nat) ≠ 1 by decide, show (4 : Nat) ≠ 2 by decide, show (4 : Nat) ≠ 3 by decide, if_false]
  by_cases h1 : x.testBit a = true ∧ x.testBit b = true <;> by_cases h2 : x.testBit a' = true ∧ x.testBit b' = true <;> simp only [h1, h2, if_true, if_false, and_self] <;> first | rfl | exact tu_c _ _ _
end CO
