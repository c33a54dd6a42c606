/-! ===== Rows: numberOf ===== -/
/-- the digit i of k over m, from the lowest -/
def dgt (m k i : Nat) : Nat := k / m ^ i % m
def usN (m k : Nat) : Nat → Nat
  | 0 => 0
  | i + 1 => usN m k i ||| 2 ^ dgt m k i
def loN (m k : Nat) : Nat → Nat
  | 0 => 0
  | i + 1 => loN m k i + dgt m k i * 10 ^ i
def nuF (m k n : Nat) : Nat → Nat → Int
  | 0, _ => (loN m k n : Int)
  | f + 1, i => if (usN m k i).testBit (dgt m k i) = true then -1 else nuF m k n f (i + 1)
theorem usN_lt {m k : Nat} (h0 : 0 < m) (hm : m ≤ 5) : ∀ i, usN m k i < 32
  | 0 => by simp [usN]
  | i + 1 => by
    have h1 := usN_lt (k := k) h0 hm i
    have h2 : dgt m k i < m := Nat.mod_lt _ h0
    have h3 : 2 ^ dgt m k i < 2 ^ 5 := Nat.pow_lt_pow_right (by omega) (by omega)
    exact Nat.or_lt_two_pow (n := 5) h1 h3
section NUM
variable {sh : Shp} {d n m k : Nat} {σ : Mem}
theorem R99 (h0 : 0 < m) (hm : m ≤ 5) (hn : n ≤ 4) (hk : k < 1000) : run sh (d + 1) 99 [mI (k : Int), mI (n : Int), mI (m : Int)] σ = some (some (mI (nuF m k n (n - 0) 0)), σ) := by
  have G := for_P (n) (fun i => ∀ v8 : Option MV, ev sh (d + 1) 99 14 [some (mI ((k : Nat) : Int)), some (mI ((n : Nat) : Int)), some (mI ((m : Nat) : Int)), some (mI ((usN m k i : Nat) : Int)), some (mI ((loN m k i : Nat) : Int)), some (mI ((10 ^ i : Nat) : Int)), some (mI ((k / m ^ i : Nat) : Int)), some (mI ((i : Nat) : Int)), v8] [] (σ) = some (some (mI (nuF m k n (n - i) i)), σ)) (by
    intro v8
    show ev sh (d + 1) 99 14 [some (mI ((k : Nat) : Int)), some (mI ((n : Nat) : Int)), some (mI ((m : Nat) : Int)), some (mI ((usN m k (n) : Nat) : Int)), some (mI ((loN m k (n) : Nat) : Int)), some (mI ((10 ^ (n) : Nat) : Int)), some (mI ((k / m ^ (n) : Nat) : Int)), some (mI (((n) : Nat) : Int)), v8] [] (σ) = some (some (mI (nuF m k n (n - (n)) (n))), σ)
    rw [e99_14, Nat.sub_self, nuF]
    simp (disch := first | assumption | omega | (simp (disch := omega) only [wN, w0, w1]; omega)) only [e99_0, e99_1, e99_2, e99_3, e99_5, e99_6, e99_8, e99_9, e99_11, e99_12, e99_16, e99_17, e99_20, e99_21, e99_24, e99_26, e99_27, e99_28, e99_30, e99_31, e99_33, e99_34, e99_35, e99_36, e99_39, e99_40, e99_41, e99_42, e99_43, e99_45, e99_46, e99_47, e99_48, e99_50, e99_52, e99_54, e99_55, e99_56, e99_58, e99_60, e99_62, e99_63, e99_65, e99_67, e99_68, e99_69, e99_71, e99_74, e99_77, e99_79, kl_I, kl_R, kl_N, kl_L, oSm, oNn, Option.bind_some, wN, if_pos, if_neg, nS, tN, t0, w0, w1, w2, w3, w4, w5, wm1, upA_ne, upA_same, if_true, if_false]) (fun i hi ih => by
    replace ih : ∀ v8 : Option MV, ev sh (d + 1) 99 14 [some (mI ((k : Nat) : Int)), some (mI ((n : Nat) : Int)), some (mI ((m : Nat) : Int)), some (mI ((usN m k (i + 1) : Nat) : Int)), some (mI ((loN m k (i + 1) : Nat) : Int)), some (mI ((10 ^ (i + 1) : Nat) : Int)), some (mI ((k / m ^ (i + 1) : Nat) : Int)), some (mI (((i + 1) : Nat) : Int)), v8] [] (σ) = some (some (mI (nuF m k n (n - (i + 1)) (i + 1))), σ) := ih
    intro v8
    show ev sh (d + 1) 99 14 [some (mI ((k : Nat) : Int)), some (mI ((n : Nat) : Int)), some (mI ((m : Nat) : Int)), some (mI ((usN m k i : Nat) : Int)), some (mI ((loN m k i : Nat) : Int)), some (mI ((10 ^ i : Nat) : Int)), some (mI ((k / m ^ i : Nat) : Int)), some (mI ((i : Nat) : Int)), v8] [] (σ) = some (some (mI (nuF m k n (n - i) i)), σ)
    have hd : dgt m k i < m := Nat.mod_lt _ h0
    have hu := usN_lt (k := k) h0 hm i
    have h2 : 2 ^ dgt m k i < 2 ^ 5 := Nat.pow_lt_pow_right (by omega) (by omega)
    have hq : k / m ^ i ≤ k := Nat.div_le_self _ _
    have e1 : k / m ^ i % m = dgt m k i := rfl
    have e2 : k / m ^ i / m = k / m ^ (i + 1) := by rw [Nat.div_div_eq_div_mul, Nat.pow_succ]
    have e3 : (loN m k i : Int) + (dgt m k i : Int) * ((10 ^ i : Nat) : Int) = (loN m k (i + 1) : Int) := by
      rw [loN, Int.natCast_add, Int.natCast_mul]
    have e4 : ((10 ^ i : Nat) : Int) * 10 = ((10 ^ (i + 1) : Nat) : Int) := by
      rw [Nat.pow_succ, Int.natCast_mul]; rfl
    have xr := xrem_nn (a := k / m ^ i) (b := m) (by omega) (by omega)
    have xd := xdiv_nn (a := k / m ^ i) (b := m) (by omega) (by omega)
    have xo := xor_nn (a := usN m k i) (b := 2 ^ dgt m k i) (by omega) (by omega)
    have xs := xshl_1 (k := dgt m k i) (by omega)
    have xb := xbit (a := usN m k i) (k := dgt m k i) (by omega) (by omega)
    have hz : ¬ wi (m : Int) = 0 := by rw [wN (by omega)]; omega
    have hf : n - i = (n - (i + 1)) + 1 := by omega
    rw [e1] at xr
    rw [e2] at xd
    rw [e99_14, hf, nuF]
    by_cases h : (usN m k i).testBit (dgt m k i) = true
    · simp (disch := first | assumption | omega | (simp (disch := omega) only [wN, w0, w1]; omega)) only [e99_0, e99_1, e99_2, e99_3, e99_5, e99_6, e99_8, e99_9, e99_11, e99_12, e99_16, e99_17, e99_20, e99_21, e99_24, e99_26, e99_27, e99_28, e99_30, e99_31, e99_33, e99_34, e99_35, e99_36, e99_39, e99_40, e99_41, e99_42, e99_43, e99_45, e99_46, e99_47, e99_48, e99_50, e99_52, e99_54, e99_55, e99_56, e99_58, e99_60, e99_62, e99_63, e99_65, e99_67, e99_68, e99_69, e99_71, e99_74, e99_77, e99_79, kl_I, kl_R, kl_N, kl_L, oSm, oNn, Option.bind_some, wN, if_pos, if_neg, nS, tN, t0, w0, w1, w2, w3, w4, w5, wm1, upA_ne, upA_same, if_true, if_false, xr, xd, xo, xs, xb, h, e3, e4, wi_01, if10]
    · simp (disch := first | assumption | omega | (simp (disch := omega) only [wN, w0, w1]; omega)) only [e99_0, e99_1, e99_2, e99_3, e99_5, e99_6, e99_8, e99_9, e99_11, e99_12, e99_16, e99_17, e99_20, e99_21, e99_24, e99_26, e99_27, e99_28, e99_30, e99_31, e99_33, e99_34, e99_35, e99_36, e99_39, e99_40, e99_41, e99_42, e99_43, e99_45, e99_46, e99_47, e99_48, e99_50, e99_52, e99_54, e99_55, e99_56, e99_58, e99_60, e99_62, e99_63, e99_65, e99_67, e99_68, e99_69, e99_71, e99_74, e99_77, e99_79, kl_I, kl_R, kl_N, kl_L, oSm, oNn, Option.bind_some, wN, if_pos, if_neg, nS, tN, t0, w0, w1, w2, w3, w4, w5, wm1, upA_ne, upA_same, if_true, if_false, xr, xd, xo, xs, xb, h, e3, e4, wi_01, if10]
      exact ih _) 0 (Nat.zero_le _)
  simp (disch := first | assumption | omega | (simp (disch := omega) only [wN, w0, w1]; omega)) only [e99_0, e99_1, e99_2, e99_3, e99_5, e99_6, e99_8, e99_9, e99_11, e99_12, e99_16, e99_17, e99_20, e99_21, e99_24, e99_26, e99_27, e99_28, e99_30, e99_31, e99_33, e99_34, e99_35, e99_36, e99_39, e99_40, e99_41, e99_42, e99_43, e99_45, e99_46, e99_47, e99_48, e99_50, e99_52, e99_54, e99_55, e99_56, e99_58, e99_60, e99_62, e99_63, e99_65, e99_67, e99_68, e99_69, e99_71, e99_74, e99_77, e99_79, kl_I, kl_R, kl_N, kl_L, oSm, oNn, Option.bind_some, wN, if_pos, if_neg, nS, tN, t0, w0, w1, w2, w3, w4, w5, wm1, upA_ne, upA_same, if_true, if_false, q99]
  have G0 := G none
  rw [show k / m ^ 0 = k by simp] at G0
  exact G0
end NUM
