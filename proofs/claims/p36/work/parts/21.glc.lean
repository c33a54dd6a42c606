/-! ===== GateList over the gates that it holds ===== -/
section GLC
variable {sh : Shp} {d g cap n : Nat} {σ : Mem} {c : List Gt} {j : Nat}
theorem L46 (hg : glS sh g cap) (hG : HG σ g c) (hc : c.length ≤ cap) (hb : cap ≤ 100) (hj : j < c.length) : run sh d 46 [mR g, mI (j : Int)] σ = some (some (mI ((gA c j).1 : Int)), σ) := by
  rw [K46 hg hG.1 hc hb, wN (by omega), if_pos (by omega), tN, (hG.2 j hj).1]
theorem L47 (hg : glS sh g cap) (hG : HG σ g c) (hc : c.length ≤ cap) (hb : cap ≤ 100) (hj : j < c.length) : run sh d 47 [mR g, mI (j : Int)] σ = some (some (mI ((gA c j).2.1 : Int)), σ) := by
  rw [K47 hg hG.1 hc hb, wN (by omega), if_pos (by omega), tN, (hG.2 j hj).2.1]
theorem L48 (hg : glS sh g cap) (hG : HG σ g c) (hc : c.length ≤ cap) (hb : cap ≤ 100) (hj : j < c.length) : run sh d 48 [mR g, mI (j : Int)] σ = some (some (mI (gA c j).2.2), σ) := by
  rw [K48 hg hG.1 hc hb, wN (by omega), if_pos (by omega), tN, (hG.2 j hj).2.2.1]
theorem L51 (hg : glS sh g cap) (hG : HG σ g c) (hc : c.length ≤ cap) (hb : cap ≤ 100) (hj : j < c.length) : run sh (d + 1) 51 [mR g, mI (j : Int)] σ = some (some (mI (gm (gA c j) : Int)), σ) := by
  rw [K51 hg hG.1 hc hb, wN (by omega), if_pos (by omega), tN, (hG.2 j hj).2.2.2]
theorem L50 (hg : glS sh g cap) (hG : HG σ g c) (hc : c.length ≤ cap) (hb : cap ≤ 100) (hj : j < c.length) (hv : okC n c) : run sh d 50 [mR g, mI (j : Int)] σ = some (some (mI (if 3 ≤ (gA c j).1 then 1 else 0)), σ) := by
  have h5 := (hv.at hj).1
  rw [K50 hg hG.1 hc hb, wN (by omega), tN, (hG.2 j hj).1, wN (by omega)]
  by_cases h : 3 ≤ (gA c j).1
  · rw [if_pos h, if_pos (by omega)]
  · rw [if_neg h, if_neg (by omega)]
/-- countOfKind -/
def cnK (c : List Gt) (k : Nat) : Nat → Nat
  | 0 => 0
  | i + 1 => cnK c k i + (if (gA c i).1 = k then 1 else 0)
theorem L54 {k : Nat} (hg : glS sh g cap) (hG : HG σ g c) (hc : c.length ≤ cap) (hb : cap ≤ 100) (hv : okC n c) (hk : k ≤ 5) : run sh (d + 2) 54 [mR g, mI (k : Int)] σ = some (some (mI (cnK c k c.length : Int)), σ) := by
  have ho := hg.1
  have hn := hG.1
  have F := for_up (fun i => ev sh (d + 2) 54 4 [some (mR g), some (mI (k : Int)), some (mI (cnK c k i : Int)), some (mI (i : Int))] [] σ) c.length (fun i hi => by
    show ev sh (d + 2) 54 4 [some (mR g), some (mI (k : Int)), some (mI (cnK c k i : Int)), some (mI (i : Int))] [] σ = ev sh (d + 2) 54 4 [some (mR g), some (mI (k : Int)), some (mI (cnK c k (i + 1) : Int)), some (mI ((i + 1 : Nat) : Int))] [] σ
    have h5 := (hv.at hi).1
    rw [e54_4]
    simp (disch := first | assumption | omega) only [e54_0, e54_1, e54_2, e54_3, e54_5, e54_6, e54_9, e54_12, e54_13, e54_14, e54_15, e54_18, e54_19, e54_22, e54_23, e54_26, e54_27, e54_28, e54_29, e54_32, e54_35, e54_36, kl_I, kl_R, kl_N, kl_L, oSm, oNn, Option.bind_some, wN, if_pos, if_neg, nS, tN, t0, w0, w1, w2, w3, w4, w5, wm1, upA_ne, upA_same, hn, L46 hg hG hc hb hi, wN, if_pos, if_neg, nS]
    by_cases h : (gA c i).1 = k
    · simp (disch := omega) only [cnK, if_pos]
    · simp (disch := omega) only [cnK, if_neg]
      rfl) 0 (Nat.zero_le _)
  simp only [q54, e54_0, e54_1, e54_2, e54_3, kl_I, kl_R, kl_N, kl_L, oSm, oNn, Option.bind_some, wN, if_pos, if_neg, nS, tN, t0, w0, w1, w2, w3, w4, w5, wm1, upA_ne, upA_same]
  refine F.trans ?_
  show ev sh (d + 2) 54 4 [some (mR g), some (mI (k : Int)), some (mI (cnK c k c.length : Int)), some (mI (c.length : Int))] [] σ = _
  rw [e54_4]
  simp (disch := first | assumption | omega) only [e54_0, e54_1, e54_2, e54_3, e54_5, e54_6, e54_9, e54_12, e54_13, e54_14, e54_15, e54_18, e54_19, e54_22, e54_23, e54_26, e54_27, e54_28, e54_29, e54_32, e54_35, e54_36, kl_I, kl_R, kl_N, kl_L, oSm, oNn, Option.bind_some, wN, if_pos, if_neg, nS, tN, t0, w0, w1, w2, w3, w4, w5, wm1, upA_ne, upA_same, hn, wN, if_pos, if_neg]
end GLC
