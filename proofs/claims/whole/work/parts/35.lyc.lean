/-! ===== Layout: its code ===== -/
theorem xand_7 (z : Int) : ∃ t : Nat, t < 8 ∧ xand z 7 = (t : Int) := by
  refine ⟨((Int32.ofInt z).toBitVec &&& 7#32).toNat, ?_, ?_⟩
  · rw [BitVec.toNat_and]
    exact Nat.lt_of_le_of_lt Nat.and_le_right (by decide)
  · unfold xand
    have h : ((Int32.ofInt z).toBitVec &&& 7#32).toNat < 8 := by
      rw [BitVec.toNat_and]
      exact Nat.lt_of_le_of_lt Nat.and_le_right (by decide)
    show ((Int32.ofInt z).toBitVec &&& 7#32).toInt = _
    rw [BitVec.toInt_eq_toNat_of_lt (by omega)]
theorem or_8 {a t : Nat} (h : t < 8) : a * 8 ||| t = a * 8 + t := by
  have e := Nat.shiftLeft_add_eq_or_of_lt (i := 3) (b := t) (by omega) a
  rw [Nat.shiftLeft_eq] at e
  exact e.symm
/-- three bits of a cell -/
def c7 (z : Int) : Nat := (xand z 7).toNat
theorem c7_eq (z : Int) : xand z 7 = (c7 z : Int) ∧ c7 z < 8 := by
  obtain ⟨t, h1, h2⟩ := xand_7 z
  unfold c7
  rw [h2, tN]
  exact ⟨rfl, h1⟩
theorem c7_n {a : Nat} (h : a < 8) : c7 (a : Int) = a := by
  unfold c7
  have e := xand_nn (a := a) (b := 7) (by omega)
  rw [show ((7 : Nat) : Int) = 7 from rfl] at e
  rw [e, tN, Nat.and_two_pow_sub_one_eq_mod a 3, Nat.mod_eq_of_lt h]
/-- the code of cells -/
def cdS (f : Nat → Int) : Nat → Nat
  | 0 => 0
  | i + 1 => cdS f i * 8 + c7 (f i)
theorem cdS_lt (f : Nat → Int) : ∀ i, cdS f i < 8 ^ i
  | 0 => by simp [cdS]
  | i + 1 => by
    have h1 := cdS_lt f i
    have h2 := (c7_eq (f i)).2
    rw [cdS, Nat.pow_succ]
    omega
theorem cdS_inj {f g : Nat → Int} : ∀ i, cdS f i = cdS g i → ∀ x, x < i → c7 (f x) = c7 (g x)
  | 0, _, x, hx => by omega
  | i + 1, h, x, hx => by
    have h2 := (c7_eq (f i)).2
    have h3 := (c7_eq (g i)).2
    rw [cdS, cdS] at h
    by_cases e : x = i
    · subst e; omega
    · exact cdS_inj i (by omega) x (by omega)
section LYC
variable {sh : Shp} {d l n m : Nat} {σ : Mem} {P : Nat → Nat} {z : Nat}
theorem Y84 (hs : lyS sh l) : run sh (d + 1) 84 [mR l] σ = some (some (mI (cdS (σ.1 (l + 1)) 4 : Int)), σ) := by
  obtain ⟨ho, r0, r1, k1, k2, l1, l2, hw⟩ := id hs
  have L := for_up (fun i => ev sh (d + 1) 84 4 [some (mR (l)), some (mI ((cdS (σ.1 (l + 1)) i : Nat) : Int)), some (mI ((i : Nat) : Int))] [] (σ)) (4) (fun i hi => by
    show ev sh (d + 1) 84 4 [some (mR (l)), some (mI ((cdS (σ.1 (l + 1)) i : Nat) : Int)), some (mI ((i : Nat) : Int))] [] (σ) = ev sh (d + 1) 84 4 [some (mR (l)), some (mI ((cdS (σ.1 (l + 1)) (i + 1) : Nat) : Int)), some (mI (((i + 1) : Nat) : Int))] [] (σ)
    have hc := cdS_lt (σ.1 (l + 1)) i
    have h8 : 8 ^ i ≤ 8 ^ 3 := Nat.pow_le_pow_right (by omega) (by omega)
    have x8 := xshl_nn (a := cdS (σ.1 (l + 1)) i) (k := 3) (by omega) (by omega)
    rw [show ((3 : Nat) : Int) = 3 from rfl, show 2 ^ 3 = 8 from rfl] at x8
    have c8 := c7_eq (σ.1 (l + 1) i)
    have o8 := xor_nn (a := cdS (σ.1 (l + 1)) i * 8) (b := c7 (σ.1 (l + 1) i)) (by omega) (by omega)
    rw [or_8 c8.2] at o8
    rw [e84_4]
    simp (disch := first | assumption | omega | (simp (disch := omega) only [wN, w0, w1]; omega)) only [e84_0, e84_1, e84_2, e84_3, e84_5, e84_6, e84_9, e84_10, e84_11, e84_12, e84_13, e84_16, e84_17, e84_18, e84_20, e84_21, e84_22, e84_23, e84_26, e84_29, e84_30, kl_I, kl_R, kl_N, kl_L, oSm, oNn, Option.bind_some, wN, if_pos, if_neg, nS, tN, t0, w0, w1, w2, w3, w4, w5, wm1, upA_ne, upA_same, if_true, if_false, r0, l1, x8, c8.1, o8, cdS]) 0 (Nat.zero_le _)
  simp (disch := first | assumption | omega | (simp (disch := omega) only [wN, w0, w1]; omega)) only [e84_0, e84_1, e84_2, e84_3, e84_5, e84_6, e84_9, e84_10, e84_11, e84_12, e84_13, e84_16, e84_17, e84_18, e84_20, e84_21, e84_22, e84_23, e84_26, e84_29, e84_30, kl_I, kl_R, kl_N, kl_L, oSm, oNn, Option.bind_some, wN, if_pos, if_neg, nS, tN, t0, w0, w1, w2, w3, w4, w5, wm1, upA_ne, upA_same, if_true, if_false, q84]
  refine L.trans ?_
  show ev sh (d + 1) 84 4 [some (mR (l)), some (mI ((cdS (σ.1 (l + 1)) 4 : Nat) : Int)), some (mI ((4 : Nat) : Int))] [] σ = _
  rw [e84_4]
  simp (disch := first | assumption | omega | (simp (disch := omega) only [wN, w0, w1]; omega)) only [e84_0, e84_1, e84_2, e84_3, e84_5, e84_6, e84_9, e84_10, e84_11, e84_12, e84_13, e84_16, e84_17, e84_18, e84_20, e84_21, e84_22, e84_23, e84_26, e84_29, e84_30, kl_I, kl_R, kl_N, kl_L, oSm, oNn, Option.bind_some, wN, if_pos, if_neg, nS, tN, t0, w0, w1, w2, w3, w4, w5, wm1, upA_ne, upA_same, if_true, if_false]
end LYC

