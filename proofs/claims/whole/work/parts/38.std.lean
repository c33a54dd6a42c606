/-! ===== State: drawn ===== -/
section STD
variable {sh : Shp} {d s cap : Nat} {σ : Mem} {z : Int} {x : Nat}
/-- the number drawn next -/
def drN (x : Nat) : Nat := (25173 * x + 13849) % 65536
theorem S103 (hs : stS sh s cap) (hx : σ.1 s 4 = (x : Int)) (hx2 : x < 65536) : run sh (d + 1) 103 [mR s, mI z] σ = some (some (mI (if 0 < wi z then xrem (drN x : Int) z else 0)), (upA σ.1 s (up1 (σ.1 s) 4 (drN x : Int)), σ.2)) := by
  have ho := hs.1
  have e : xand (25173 * (x : Int) + 13849) 65535 = (drN x : Int) := by
    have h := xand_nn (a := 25173 * x + 13849) (b := 65535) (by omega)
    rw [Nat.and_two_pow_sub_one_eq_mod _ 16] at h
    exact h
  by_cases h : 0 < wi z
  · have hz : ¬ wi z = 0 := by omega
    simp (disch := first | assumption | omega | (simp (disch := omega) only [wN, w0, w1]; omega)) only [e103_0, e103_1, e103_4, e103_5, e103_8, e103_9, e103_12, e103_13, e103_15, e103_16, e103_19, e103_20, e103_23, e103_24, e103_27, e103_28, e103_29, e103_32, e103_33, kl_I, kl_R, kl_N, kl_L, oSm, oNn, Option.bind_some, wN, if_pos, if_neg, nS, tN, t0, w0, w1, w2, w3, w4, w5, wm1, upA_ne, upA_same, if_true, if_false, q103, hx, e, up1_same]
  · simp (disch := first | assumption | omega | (simp (disch := omega) only [wN, w0, w1]; omega)) only [e103_0, e103_1, e103_4, e103_5, e103_8, e103_9, e103_12, e103_13, e103_15, e103_16, e103_19, e103_20, e103_23, e103_24, e103_27, e103_28, e103_29, e103_32, e103_33, kl_I, kl_R, kl_N, kl_L, oSm, oNn, Option.bind_some, wN, if_pos, if_neg, nS, tN, t0, w0, w1, w2, w3, w4, w5, wm1, upA_ne, upA_same, if_true, if_false, q103, hx, e, up1_same]
end STD

