/-! ===== the reference: small ones ===== -/
section MA
variable {sh : Shp} {d t g n : Nat} {σ : Mem} {a : AX} {z w v u : Int} {c : List Gt}
theorem E164 (hz : i32 z) (hw : i32 w) (hv : i32 v) : run sh d 164 [mI z, mI w, mI v] σ = some (some (mI (if w ≤ z ∧ z ≤ v then 1 else 0)), σ) := by
  have wz := hz.w
  have ww := hw.w
  have wv := hv.w
  by_cases h1 : w ≤ z
  · by_cases h2 : z ≤ v
    · simp (disch := first | assumption | omega | (simp (disch := omega) only [wN, w0, w1]; omega)) only [e164_0, e164_1, e164_2, e164_5, e164_6, e164_7, e164_10, e164_11, e164_14, e164_15, kl_I, kl_R, kl_N, kl_L, oSm, oNn, Option.bind_some, wN, if_pos, if_neg, nS, tN, t0, w0, w1, w2, w3, w4, w5, wm1, upA_ne, upA_same, if_true, if_false, Bool.false_eq_true, q164, wz, ww, wv]
    · simp (disch := first | assumption | omega | (simp (disch := omega) only [wN, w0, w1]; omega)) only [e164_0, e164_1, e164_2, e164_5, e164_6, e164_7, e164_10, e164_11, e164_14, e164_15, kl_I, kl_R, kl_N, kl_L, oSm, oNn, Option.bind_some, wN, if_pos, if_neg, nS, tN, t0, w0, w1, w2, w3, w4, w5, wm1, upA_ne, upA_same, if_true, if_false, Bool.false_eq_true, q164, wz, ww, wv]
  · simp (disch := first | assumption | omega | (simp (disch := omega) only [wN, w0, w1]; omega)) only [e164_0, e164_1, e164_2, e164_5, e164_6, e164_7, e164_10, e164_11, e164_14, e164_15, kl_I, kl_R, kl_N, kl_L, oSm, oNn, Option.bind_some, wN, if_pos, if_neg, nS, tN, t0, w0, w1, w2, w3, w4, w5, wm1, upA_ne, upA_same, if_true, if_false, Bool.false_eq_true, q164, wz, ww, wv]
theorem E165 (hz : i32 z) (hw : i32 w) : run sh d 165 [mI z, mI w] σ = some (some (mI (min z w)), σ) := by
  have wz := hz.w
  have ww := hw.w
  by_cases h1 : z < w
  · rw [Int.min_eq_left (by omega)]
    simp (disch := first | assumption | omega | (simp (disch := omega) only [wN, w0, w1]; omega)) only [e165_0, e165_1, e165_2, e165_5, e165_6, e165_9, e165_10, kl_I, kl_R, kl_N, kl_L, oSm, oNn, Option.bind_some, wN, if_pos, if_neg, nS, tN, t0, w0, w1, w2, w3, w4, w5, wm1, upA_ne, upA_same, if_true, if_false, Bool.false_eq_true, q165, wz, ww]
  · rw [Int.min_eq_right (by omega)]
    simp (disch := first | assumption | omega | (simp (disch := omega) only [wN, w0, w1]; omega)) only [e165_0, e165_1, e165_2, e165_5, e165_6, e165_9, e165_10, kl_I, kl_R, kl_N, kl_L, oSm, oNn, Option.bind_some, wN, if_pos, if_neg, nS, tN, t0, w0, w1, w2, w3, w4, w5, wm1, upA_ne, upA_same, if_true, if_false, Bool.false_eq_true, q165, wz, ww]
theorem E166 (hz : i32 z) (hw : i32 w) : run sh d 166 [mI z, mI w] σ = some (some (mI (max z w)), σ) := by
  have wz := hz.w
  have ww := hw.w
  by_cases h1 : w < z
  · rw [Int.max_eq_left (by omega)]
    simp (disch := first | assumption | omega | (simp (disch := omega) only [wN, w0, w1]; omega)) only [e166_0, e166_1, e166_2, e166_5, e166_6, e166_9, e166_10, kl_I, kl_R, kl_N, kl_L, oSm, oNn, Option.bind_some, wN, if_pos, if_neg, nS, tN, t0, w0, w1, w2, w3, w4, w5, wm1, upA_ne, upA_same, if_true, if_false, Bool.false_eq_true, q166, wz, ww]
  · rw [Int.max_eq_right (by omega)]
    simp (disch := first | assumption | omega | (simp (disch := omega) only [wN, w0, w1]; omega)) only [e166_0, e166_1, e166_2, e166_5, e166_6, e166_9, e166_10, kl_I, kl_R, kl_N, kl_L, oSm, oNn, Option.bind_some, wN, if_pos, if_neg, nS, tN, t0, w0, w1, w2, w3, w4, w5, wm1, upA_ne, upA_same, if_true, if_false, Bool.false_eq_true, q166, wz, ww]
theorem E165n {p q : Nat} (hp : p < 2147483648) (hq : q < 2147483648) : run sh d 165 [mI (p : Int), mI (q : Int)] σ = some (some (mI ((min p q : Nat) : Int)), σ) := by
  have e : min (p : Int) (q : Int) = ((min p q : Nat) : Int) := by omega
  rw [E165 ⟨by omega, by omega⟩ ⟨by omega, by omega⟩, e]
theorem E166n {p q : Nat} (hp : p < 2147483648) (hq : q < 2147483648) : run sh d 166 [mI (p : Int), mI (q : Int)] σ = some (some (mI ((max p q : Nat) : Int)), σ) := by
  have e : max (p : Int) (q : Int) = ((max p q : Nat) : Int) := by omega
  rw [E166 ⟨by omega, by omega⟩ ⟨by omega, by omega⟩, e]
theorem E167 {b k : Nat} (hb : b < 2147483648) (hk : k < 32) : run sh d 167 [mI (b : Int), mI (k : Int)] σ = some (some (mI (bi (b.testBit k))), σ) := by
  have xb := xbit (a := b) (k := k) hk hb
  by_cases h : b.testBit k = true
  · simp (disch := first | assumption | omega | (simp (disch := omega) only [wN, w0, w1]; omega)) only [e167_0, e167_1, e167_2, e167_3, e167_4, e167_5, e167_6, e167_9, e167_10, e167_13, e167_14, kl_I, kl_R, kl_N, kl_L, oSm, oNn, Option.bind_some, wN, if_pos, if_neg, nS, tN, t0, w0, w1, w2, w3, w4, w5, wm1, upA_ne, upA_same, if_true, if_false, Bool.false_eq_true, q167, xb, h]
    rfl
  · simp (disch := first | assumption | omega | (simp (disch := omega) only [wN, w0, w1]; omega)) only [e167_0, e167_1, e167_2, e167_3, e167_4, e167_5, e167_6, e167_9, e167_10, e167_13, e167_14, kl_I, kl_R, kl_N, kl_L, oSm, oNn, Option.bind_some, wN, if_pos, if_neg, nS, tN, t0, w0, w1, w2, w3, w4, w5, wm1, upA_ne, upA_same, if_true, if_false, Bool.false_eq_true, q167, xb, h]
    simp [h]
theorem pcD_cl {D : Nat} (h : D ≠ 0) (n : Nat) (hD : D < 2 ^ n) : pcD (D &&& (D - 1)) n + 1 = pcD D n := by
  have h2 : ∃ k, D.testBit k = true ∧ ∀ j, j < k → D.testBit j = false := by
    have hex : ∃ k, D.testBit k = true := Nat.exists_testBit_of_ne_zero h
    obtain ⟨k, hk⟩ := hex
    induction k using Nat.strongRecOn with
    | ind k ih =>
      by_cases hj : ∃ j, j < k ∧ D.testBit j = true
      · obtain ⟨j, h1, h2⟩ := hj
        exact ih j h1 h2
      · refine ⟨k, hk, fun j hj2 => ?_⟩
        cases hb : D.testBit j with
        | false => rfl
        | true => exact absurd ⟨j, hj2, hb⟩ hj
  obtain ⟨k, hk, hl⟩ := h2
  have e1 : D = 2 ^ k * (2 * (D / 2 ^ (k + 1)) + 1) := by
    have hm : D % 2 ^ k = 0 := by
      apply Nat.eq_of_testBit_eq
      intro j
      rw [Nat.testBit_mod_two_pow, Nat.zero_testBit]
      by_cases hj : j < k
      · rw [hl j hj]; simp
      · simp [hj]
    have hb : D / 2 ^ k % 2 = 1 := by
      have := hk
      rw [Nat.testBit_eq_decide_div_mod_eq, decide_eq_true_eq] at this
      exact this
    have h3 : D / 2 ^ k = 2 * (D / 2 ^ (k + 1)) + 1 := by
      rw [Nat.pow_succ, ← Nat.div_div_eq_div_mul]
      omega
    have h4 := Nat.div_add_mod D (2 ^ k)
    rw [hm, h3, Nat.add_zero] at h4
    exact h4.symm
  have e2 : D &&& (D - 1) = 2 ^ k * (2 * (D / 2 ^ (k + 1))) := by
    generalize D / 2 ^ (k + 1) = Q at e1
    have hp : 0 < 2 ^ k := Nat.two_pow_pos k
    have e3 : D - 1 = 2 ^ k * (2 * Q) + (2 ^ k - 1) := by
      rw [e1, Nat.mul_add, Nat.mul_one]; omega
    rw [e3]
    have e4 : D = 2 ^ k * (2 * Q + 1) + 0 := e1
    rw [e4, and_fld k hp (by omega), Nat.zero_and, Nat.add_zero]
    congr 1
    have h5 := and_fld (b := 1) (d := 0) (a := Q) (c := Q) 1 (by omega) (by omega)
    have h5' : (2 * Q + 1) &&& (2 * Q) = 2 * (Q &&& Q) + (1 &&& 0) := h5
    rw [h5', Nat.and_self]; rfl
  have e3 : D = (D &&& (D - 1)) ||| 2 ^ k := by
    have e0 : 2 ^ k * (2 * (D / 2 ^ (k + 1))) = D / 2 ^ (k + 1) * 2 ^ (k + 1) := by
      generalize D / 2 ^ (k + 1) = Q
      rw [Nat.pow_succ, ← Nat.mul_assoc, Nat.mul_comm]
    have h6 : 2 ^ k * (2 * (D / 2 ^ (k + 1))) ||| 2 ^ k = 2 ^ k * (2 * (D / 2 ^ (k + 1))) + 2 ^ k := by
      rw [e0]
      exact or_add (k + 1) (Nat.pow_lt_pow_right (by omega) (by omega))
    rw [e2, h6]
    rw [Nat.mul_add, Nat.mul_one] at e1
    exact e1
  have hb : (D &&& (D - 1)).testBit k = false := by
    rw [e2, Nat.testBit_two_pow_mul]
    simp
  have hkn : k < n := by
    rcases Nat.lt_or_ge k n with q | q
    · exact q
    · rw [Nat.testBit_lt_two_pow (Nat.lt_of_lt_of_le hD (Nat.pow_le_pow_right (by omega) q))] at hk
      cases hk
  have h7 := pcD_or hb n hkn
  rw [← e3] at h7
  exact h7.symm
/-- sizeOf -/
theorem E168 {b : Nat} (hb : b < 1073741824) : run sh d 168 [mI (b : Int)] σ = some (some (mI (pcD b 30 : Int)), σ) := by
  have key : ∀ (k D m : Nat), pcD D 30 = k → D < 1073741824 → m + k < 1000 → ev sh d 168 4 [some (mI ((b : Nat) : Int)), some (mI ((m : Nat) : Int)), some (mI ((D : Nat) : Int))] [] σ = some (some (mI ((m + k : Nat) : Int)), σ) := by
    intro k
    induction k with
    | zero =>
      intro D m h1 h2 h3
      have h0 : D = 0 := by
        rcases Nat.eq_zero_or_pos D with q | q
        · exact q
        · have := pcD_cl (D := D) (by omega) 30 h2
          omega
      subst h0
      rw [e168_4]
      simp (disch := first | assumption | omega | (simp (disch := omega) only [wN, w0, w1]; omega)) only [e168_0, e168_1, e168_2, e168_3, e168_5, e168_8, e168_9, e168_10, e168_11, e168_12, e168_13, e168_14, e168_15, e168_16, e168_17, e168_18, e168_21, e168_22, kl_I, kl_R, kl_N, kl_L, oSm, oNn, Option.bind_some, wN, if_pos, if_neg, nS, tN, t0, w0, w1, w2, w3, w4, w5, wm1, upA_ne, upA_same, if_true, if_false, Bool.false_eq_true]
      rfl
    | succ k ih =>
      intro D m h1 h2 h3
      have hne : D ≠ 0 := by
        intro q
        subst q
        have : ∀ j, pcD 0 j = 0 := fun j => by
          induction j with
          | zero => rfl
          | succ j ih2 =>
            show cnt _ j + _ = 0
            unfold pcD at ih2
            rw [ih2]; simp
        rw [this] at h1
        omega
      have hc := pcD_cl hne 30 h2
      have hle : D &&& (D - 1) ≤ D := Nat.and_le_left
      have e1 : (D : Int) - 1 = ((D - 1 : Nat) : Int) := by omega
      have x1 := xand_nn (a := D) (b := D - 1) (by omega)
      have ih2 := ih (D &&& (D - 1)) (m + 1) (by omega) (by omega) (by omega)
      rw [e168_4]
      simp (disch := first | assumption | omega | (simp (disch := omega) only [wN, w0, w1]; omega)) only [e168_0, e168_1, e168_2, e168_3, e168_5, e168_8, e168_9, e168_10, e168_11, e168_12, e168_13, e168_14, e168_15, e168_16, e168_17, e168_18, e168_21, e168_22, kl_I, kl_R, kl_N, kl_L, oSm, oNn, Option.bind_some, wN, if_pos, if_neg, nS, tN, t0, w0, w1, w2, w3, w4, w5, wm1, upA_ne, upA_same, if_true, if_false, Bool.false_eq_true, e1, x1]
      rw [show m + (k + 1) = m + 1 + k by omega]
      exact ih2
  have h30 := pcD_le b 30
  have k0 := key (pcD b 30) b 0 rfl hb (by omega)
  rw [Nat.zero_add] at k0
  simp (disch := first | assumption | omega | (simp (disch := omega) only [wN, w0, w1]; omega)) only [e168_0, e168_1, e168_2, e168_3, e168_5, e168_8, e168_9, e168_10, e168_11, e168_12, e168_13, e168_14, e168_15, e168_16, e168_17, e168_18, e168_21, e168_22, kl_I, kl_R, kl_N, kl_L, oSm, oNn, Option.bind_some, wN, if_pos, if_neg, nS, tN, t0, w0, w1, w2, w3, w4, w5, wm1, upA_ne, upA_same, if_true, if_false, Bool.false_eq_true, q168]
  exact k0
end MA

