/-! ===== the law's numbers drawn, a gate drawn ===== -/
section PD0
variable {sh : Shp} {d kk ρ : Nat} {σ : Mem}
/-- the next state, what it answers -/
def zN (z : Int) : Int := xxor (z * 1103515245 + 12345) (xushr (z * 1103515245 + 12345) 15)
def zA (z : Int) : Int := xushr (zN z) 9
theorem up1_up1 (f : Nat → Int) (i : Nat) (u v : Int) : up1 (up1 f i u) i v = up1 f i v := by
  funext j; unfold up1; split <;> rfl
theorem zA_r (z : Int) : ∃ n : Nat, zA z = (n : Int) ∧ n < 8388608 := by
  refine ⟨((Int32.ofInt (zN z)).toUInt32 >>> ((Int32.ofInt 9).toUInt32 &&& Int32.toUInt32 31)).toNat, ?_, ?_⟩
  · show ((Int32.ofInt (zN z)).toUInt32 >>> ((Int32.ofInt 9).toUInt32 &&& Int32.toUInt32 31)).toInt32.toInt = _
    have e : ((Int32.ofInt (zN z)).toUInt32 >>> ((Int32.ofInt 9).toUInt32 &&& Int32.toUInt32 31)).toNat < 8388608 := by
      rw [UInt32.toNat_shiftRight]
      show (Int32.ofInt (zN z)).toUInt32.toNat >>> 9 < _
      rw [Nat.shiftRight_eq_div_pow]
      have := (Int32.ofInt (zN z)).toUInt32.toNat_lt
      omega
    generalize ((Int32.ofInt (zN z)).toUInt32 >>> ((Int32.ofInt 9).toUInt32 &&& Int32.toUInt32 31)) = u at e ⊢
    show u.toBitVec.toInt = _
    rw [BitVec.toInt_eq_toNat_of_lt (by show 2 * u.toNat < _; omega)]
    rfl
  · rw [UInt32.toNat_shiftRight]
    show (Int32.ofInt (zN z)).toUInt32.toNat >>> 9 < _
    rw [Nat.shiftRight_eq_div_pow]
    have := (Int32.ofInt (zN z)).toUInt32.toNat_lt
    omega
theorem B164 (hk : skd sh ρ = 0) (hl : sln sh ρ = 1) (hw : ρ < sh.1) : prun d 164 [mR ρ] (sh, σ, kk) = some (some (mI (zA (σ.1 ρ 0))), (sh, (upA σ.1 ρ (up1 (σ.1 ρ) 0 (zN (σ.1 ρ 0))), σ.2), kk)) := by
  have w1' : wi ((1 : Nat) : Int) = 1 := rfl
  simp (disch := first | assumption | omega | (simp (disch := omega) only [wN, w0, w1]; omega)) only [e164_0, e164_1, e164_2, e164_3, e164_4, e164_5, e164_7, e164_8, e164_11, e164_12, e164_13, e164_14, e164_15, e164_16, e164_17, e164_18, e164_19, e164_20, e164_22, e164_23, e164_24, e164_25, e164_26, e164_27, e164_28, e164_30, e164_31, kl_I, kl_R, kl_N, kl_L, oSm, oNn, Option.bind_some, wN, if_pos, if_neg, nS, tN, t0, w0, w1, w2, w3, w4, w5, wm1, upA_ne, upA_same, if_true, if_false, Bool.false_eq_true, q164, hl, w1', up1_same, upA_upA, up1_up1]
  rfl
end PD0

