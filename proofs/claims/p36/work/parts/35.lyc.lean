/-! ===== Layout: its code ===== -/
theorem xand_7 (z : Int) : ∃ t : Nat, t < 8 ∧ xand z 7 = (t : Int) := by
  refine ⟨((Int32.ofInt z).toBitVec &&& 7#32).toNat, ?_, ?_⟩
  · rw [BitVec.toNat_and]
    exact Nat.lt_of_le_of_lt Nat.and_le_right (by decide)
  · unfold xand
    have h : ((Int32.ofInt z).toBitVec &&& 7#32).toNat < 8 := by
      rw [BitVec.toNat_and]
      exact Nat.lt_of_le_of_lt Nat.and_le_right (by decide)
    show ((Int32.ofInt z).toBitVec &&& 7#32).toInt = _
    rw [BitVec.toInt_eq_toNat_of_lt (by omega)]
theorem or_8 {a t : Nat} (h : t < 8) : a * 8 ||| t = a * 8 + t := by
  have e := Nat.shiftLeft_add_eq_or_of_lt (i := 3) (b := t) (by omega) a
  rw [Nat.shiftLeft_eq] at e
  exact e.symm
/-- three bits of a cell -/
def c7 (z : Int) : Nat := (xand z 7).toNat
theorem c7_eq (z : Int) : xand z 7 = (c7 z : Int) ∧ c7 z < 8 := by
  obtain ⟨t, h1, h2⟩ := xand_7 z
  unfold c7
  rw [h2, tN]
  exact ⟨rfl, h1⟩
theorem c7_n {a : Nat} (h : a < 8) : c7 (a : Int) = a := by
  unfold c7
  have e := xand_nn (a := a) (b := 7) (by omega)
  rw [show ((7 : Nat) : Int) = 7 from rfl] at e
  rw [e, tN, Nat.and_two_pow_sub_one_eq_mod a 3, Nat.mod_eq_of_lt h]
/-- the code of cells -/
def cdS (f : Nat → Int) : Nat → Nat
  | 0 => 0
  | i + 1 => cdS f i * 8 + c7 (f i)
theorem cdS_lt (f : Nat → Int) : ∀ i, cdS f i < 8 ^ i
  | 0 => by simp [cdS]
  | i + 1 => by
    have h1 := cdS_lt f i
    have h2 := (c7_eq (f i)).2
    rw [cdS, Nat.pow_succ]
    omega
theorem cdS_inj {f g : Nat → Int} : ∀ i, cdS f i = cdS g i → ∀ x, x < i → c7 (f x) = c7 (g x)
  | 0, _, x, hx => by omega
  | i + 1, h, x, hx => by
    have h2 := (c7_eq (f i)).2
    have h3 := (c7_eq (g i)).2
    rw [cdS, cdS] at h
    by_cases e : x = i
    · subst e; omega
    · exact cdS_inj i (by omega) x (by omega)
section LYC
variable {sh : Shp} {d l n m : Nat} {σ : Mem} {P : Nat → Nat} {z : Nat}
end LYC
