/-! ===== Rows ===== -/
/-- rows at r: numbers at r + 1 -/
def rwS (sh : Shp) (r cap : Nat) : Prop := ob sh 7 2 r ∧ skd sh (r + 1) = 0 ∧ sln sh (r + 1) = cap ∧ r + 1 < sh.1 ∧ srf sh r 0 = r + 1
/-- the rows hold the numbers L, in this order -/
def HR (σ : Mem) (r : Nat) (L : List Nat) : Prop := σ.1 r 1 = (L.length : Int) ∧ ∀ j, j < L.length → σ.1 (r + 1) j = (L.getD j 0 : Int)
section ROW
variable {sh : Shp} {d r cap j : Nat} {σ : Mem} {L : List Nat}
theorem R100 (hs : rwS sh r cap) (hR : HR σ r L) (hL : L.length ≤ cap) (hc : cap ≤ 120) (hj : j < L.length) : run sh (d + 1) 100 [mR r, mI (j : Int)] σ = some (some (mI (L.getD j 0 : Int)), σ) := by
  obtain ⟨ho, k1, l1, hw, r0⟩ := id hs
  have h1 := hR.1
  have h2 := hR.2 j hj
  simp (disch := first | assumption | omega | (simp (disch := omega) only [wN, w0, w1]; omega)) only [e100_0, e100_1, e100_2, e100_5, e100_8, e100_9, e100_12, e100_13, e100_16, e100_19, e100_20, kl_I, kl_R, kl_N, kl_L, oSm, oNn, Option.bind_some, wN, if_pos, if_neg, nS, tN, t0, w0, w1, w2, w3, w4, w5, wm1, upA_ne, upA_same, if_true, if_false, Bool.false_eq_true, q100, r0, h1, h2, K93n k1 l1 (by omega) (show j < cap by omega)]
end ROW
