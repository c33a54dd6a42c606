/-! ===== doCommute: those that may ===== -/
section CP
variable {a b a' b' t t' x : Nat} {W : Vc} {k k' : Nat}
theorem co_le (hk : k ≤ k') (h4 : k' ≤ 4) (v w : Int) (haa : a = a' → man (k, a, v) a = man (k', a', w) a) (hab : 3 ≤ k' → a = b' → man (k, a, v) a = man (k', a', w) a) (hba : 3 ≤ k → b = a' → man (k, a, v) b = man (k', a', w) b) (hbb : 3 ≤ k → 3 ≤ k' → b = b' → man (k, a, v) b = man (k', a', w) b) (hd : 3 ≤ k → b ≠ a) (hd' : 3 ≤ k' → b' ≠ a') : clN k a b t (clN k' a' b' t' W) x = clN k' a' b' t' (clN k a b t W) x := by
  rcases (show k = 0 ∨ k = 1 ∨ k = 2 ∨ k = 3 ∨ k = 4 by omega) with rfl | rfl | rfl | rfl | rfl <;> rcases (show k' = 0 ∨ k' = 1 ∨ k' = 2 ∨ k' = 3 ∨ k' = 4 by omega) with rfl | rfl | rfl | rfl | rfl <;> (try omega)
  · exact co00
  · exact co01 (fun e => by have := haa e; simp [man] at this)
  · exact co02 (fun e => by have := haa e; simp [man] at this)
  · exact co03 (fun e => by have := hab (by omega) e; have h2 := hd' (by omega); subst e; simp [man, Ne.symm h2] at this)
  · exact co04
  · by_cases e : a = a'
    · subst e; rfl
    · exact co11 e
  · exact co12 (fun e => by have := haa e; simp [man] at this)
  · exact co13 (fun e => by have := haa e; simp [man, e] at this) (fun e => by have := hab (by omega) e; have h2 := hd' (by omega); subst e; simp [man, Ne.symm h2] at this)
  · exact co14 (fun e => by have := haa e; simp [man] at this) (fun e => by have := hab (by omega) e; simp [man] at this)
  · exact co22
  · exact co23 (fun e => by have := haa e; simp [man, e] at this)
  · exact co24 (fun e => by have := haa e; simp [man] at this) (fun e => by have := hab (by omega) e; simp [man] at this)
  · exact co33 (fun e => by have := hab (by omega) e; have h2 := hd' (by omega); subst e; simp [man, Ne.symm h2] at this) (fun e => by have := hba (by omega) e; have h2 := hd (by omega); subst e; simp [man, Ne.symm h2] at this)
  · exact co34 (fun e => by have := hba (by omega) e; have h2 := hd (by omega); subst e; simp [man, Ne.symm h2] at this) (fun e => by have := hbb (by omega) (by omega) e; have h2 := hd (by omega); subst e; simp [man, Ne.symm h2] at this)
  · exact co44
theorem co5 (h5 : k ≤ 5) (haa : a ≠ a') (hab : a ≠ b') (hba : 3 ≤ k → b ≠ a') (hbb : 3 ≤ k → b ≠ b') : clN k a b t (clN 5 a' b' t' W) x = clN 5 a' b' t' (clN k a b t W) x := by
  have e5 : ∀ (V : Vc) (y : Nat), clN 5 a' b' t' V y = if y.testBit a' = y.testBit b' then V y else V ((y ^^^ 2 ^ a') ^^^ 2 ^ b') := fun V y => rfl
  have c1 : ((x ^^^ 2 ^ a') ^^^ 2 ^ b') ^^^ 2 ^ a = ((x ^^^ 2 ^ a) ^^^ 2 ^ a') ^^^ 2 ^ b' := by rw [x_c (r := x ^^^ 2 ^ a') (a := b') (b := a), x_c (r := x) (a := a') (b := a)]
  have c2 : ((x ^^^ 2 ^ a') ^^^ 2 ^ b') ^^^ 2 ^ b = ((x ^^^ 2 ^ b) ^^^ 2 ^ a') ^^^ 2 ^ b' := by rw [x_c (r := x ^^^ 2 ^ a') (a := b') (b := b), x_c (r := x) (a := a') (b := b)]
  have ta : ((x ^^^ 2 ^ a') ^^^ 2 ^ b').testBit a = x.testBit a := by rw [tb_xn (Ne.symm hab), tb_xn (Ne.symm haa)]
  have tb : 3 ≤ k → ((x ^^^ 2 ^ a') ^^^ 2 ^ b').testBit b = x.testBit b := fun h => by rw [tb_xn (Ne.symm (hbb h)), tb_xn (Ne.symm (hba h))]
  have f1 : (x ^^^ 2 ^ a).testBit a' = x.testBit a' := tb_xn haa
  have f2 : (x ^^^ 2 ^ a).testBit b' = x.testBit b' := tb_xn hab
  have f3 : 3 ≤ k → (x ^^^ 2 ^ b).testBit a' = x.testBit a' := fun h => tb_xn (hba h)
  have f4 : 3 ≤ k → (x ^^^ 2 ^ b).testBit b' = x.testBit b' := fun h => tb_xn (hbb h)
  by_cases hx : x.testBit a' = x.testBit b'
  · rw [e5, if_pos hx]
    rcases (show k = 0 ∨ k = 1 ∨ k = 2 ∨ k = 3 ∨ k = 4 ∨ k = 5 by omega) with rfl | rfl | rfl | rfl | rfl | rfl
    · simp [clN, hx]
    · simp [clN, hx, f1, f2]
    · simp [clN, hx, f1, f2]
    · simp [clN, hx, f3 (by omega), f4 (by omega)]
    · simp [clN, hx]
    · have g1 : ((x ^^^ 2 ^ a) ^^^ 2 ^ b).testBit a' = x.testBit a' := by rw [tb_xn (hba (by omega)), f1]
      have g2 : ((x ^^^ 2 ^ a) ^^^ 2 ^ b).testBit b' = x.testBit b' := by rw [tb_xn (hbb (by omega)), f2]
      simp [clN, hx, g1, g2]
  · rw [e5, if_neg hx]
    rcases (show k = 0 ∨ k = 1 ∨ k = 2 ∨ k = 3 ∨ k = 4 ∨ k = 5 by omega) with rfl | rfl | rfl | rfl | rfl | rfl
    · simp only [clN, if_true, ta, hx, if_false, show (5 : Nat) ≠ 0 by decide, show (5 : Nat) ≠ 1 by decide, show (5 : Nat) ≠ 2 by decide, show (5 : Nat) ≠ 3 by decide, show (5 : Nat) ≠ 4 by decide]
    · simp only [clN, if_true, ta, hx, f1, f2, c1, if_false, show (1 : Nat) ≠ 0 by decide, show (5 : Nat) ≠ 0 by decide, show (5 : Nat) ≠ 1 by decide, show (5 : Nat) ≠ 2 by decide, show (5 : Nat) ≠ 3 by decide, show (5 : Nat) ≠ 4 by decide]
    · simp only [clN, if_true, ta, hx, f1, f2, c1, if_false, show (2 : Nat) ≠ 0 by decide, show (2 : Nat) ≠ 1 by decide, show (5 : Nat) ≠ 0 by decide, show (5 : Nat) ≠ 1 by decide, show (5 : Nat) ≠ 2 by decide, show (5 : Nat) ≠ 3 by decide, show (5 : Nat) ≠ 4 by decide]
    · simp only [clN, if_true, ta, hx, f3 (by omega), f4 (by omega), c2, if_false, show (3 : Nat) ≠ 0 by decide, show (3 : Nat) ≠ 1 by decide, show (3 : Nat) ≠ 2 by decide, show (5 : Nat) ≠ 0 by decide, show (5 : Nat) ≠ 1 by decide, show (5 : Nat) ≠ 2 by decide, show (5 : Nat) ≠ 3 by decide, show (5 : Nat) ≠ 4 by decide]
    · simp only [clN, if_true, ta, tb (by omega), hx, if_false, show (4 : Nat) ≠ 0 by decide, show (4 : Nat) ≠ 1 by decide, show (4 : Nat) ≠ 2 by decide, show (4 : Nat) ≠ 3 by decide, show (5 : Nat) ≠ 0 by decide, show (5 : Nat) ≠ 1 by decide, show (5 : Nat) ≠ 2 by decide, show (5 : Nat) ≠ 3 by decide, show (5 : Nat) ≠ 4 by decide]
    · have g1 : ((x ^^^ 2 ^ a) ^^^ 2 ^ b).testBit a' = x.testBit a' := by rw [tb_xn (hba (by omega)), f1]
      have g2 : ((x ^^^ 2 ^ a) ^^^ 2 ^ b).testBit b' = x.testBit b' := by rw [tb_xn (hbb (by omega)), f2]
      have c3 : (((x ^^^ 2 ^ a') ^^^ 2 ^ b') ^^^ 2 ^ a) ^^^ 2 ^ b = (((x ^^^ 2 ^ a) ^^^ 2 ^ b) ^^^ 2 ^ a') ^^^ 2 ^ b' := by
        rw [c1, x_c (r := (x ^^^ 2 ^ a) ^^^ 2 ^ a') (a := b') (b := b), x_c (r := x ^^^ 2 ^ a) (a := a') (b := b)]
      simp only [clN, if_true, ta, tb (by omega), hx, g1, g2, c3, if_false, show (5 : Nat) ≠ 0 by decide, show (5 : Nat) ≠ 1 by decide, show (5 : Nat) ≠ 2 by decide, show (5 : Nat) ≠ 3 by decide, show (5 : Nat) ≠ 4 by decide]
theorem cl5_s : clN 5 a b t W x = clN 5 b a t' W x := by
  simp only [clN, show (5 : Nat) ≠ 0 by decide, show (5 : Nat) ≠ 1 by decide, show (5 : Nat) ≠ 2 by decide, show (5 : Nat) ≠ 3 by decide, show (5 : Nat) ≠ 4 by decide, if_false, x_c (r := x) (a := b) (b := a)]
  by_cases h : x.testBit a = x.testBit b
  · rw [if_pos h, if_pos h.symm]
  · rw [if_neg h, if_neg (fun z => h z.symm)]
theorem co45 (hd : a ≠ b) : clN 4 a b t (clN 5 a b t' W) x = clN 5 a b t' (clN 4 a b t W) x := by
  have g1 : ((x ^^^ 2 ^ a) ^^^ 2 ^ b).testBit a = !x.testBit a := by rw [tb_xn (Ne.symm hd), tb_xs]
  have g2 : ((x ^^^ 2 ^ a) ^^^ 2 ^ b).testBit b = !x.testBit b := by rw [tb_xs, tb_xn hd]
  simp only [clN, show (5 : Nat) ≠ 0 by decide, show (5 : Nat) ≠ 1 by decide, show (5 : Nat) ≠ 2 by decide, show (5 : Nat) ≠ 3 by decide, show (5 : Nat) ≠ 4 by decide, show (4 : Nat) ≠ 0 by decide, show (4 : Nat) ≠ 1 by decide, show (4 : Nat) ≠ 2 by decide, show (4 : Nat) ≠ 3 by decide, if_false, if_true, g1, g2]
  cases h1 : x.testBit a <;> cases h2 : x.testBit b <;> simp
end CP
