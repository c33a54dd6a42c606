/-! ===== GateList: dropped ===== -/
def dropA (x n : Nat) (f : Nat → Int) : Nat → Int := fun j => if x ≤ j ∧ j < x + (n - x - 1) then f (x + 1 + (j - x)) else f j
theorem dropA_at {x n j : Nat} {f : Nat → Int} (h : j < n - 1) : dropA x n f j = if j < x then f j else f (j + 1) := by
  unfold dropA
  by_cases h1 : j < x
  · rw [if_neg (by omega), if_pos h1]
  · rw [if_pos (by omega), if_neg h1, show x + 1 + (j - x) = j + 1 by omega]
theorem gA_erase {c : List Gt} {x j : Nat} : gA (c.eraseIdx x) j = if j < x then gA c j else gA c (j + 1) := by
  unfold gA
  rw [List.getD_eq_getElem?_getD, List.getElem?_eraseIdx]
  by_cases h : j < x
  · rw [if_pos h, if_pos h, List.getD_eq_getElem?_getD]
  · rw [if_neg h, if_neg h, List.getD_eq_getElem?_getD]
section GLE
variable {sh : Shp} {d g cap n : Nat} {σ : Mem} {c : List Gt} {x y : Nat}
theorem L72 (hg : glS sh g cap) (hG : HG σ g c) (hc : c.length ≤ cap) (hb : cap ≤ 100) (hx : x < c.length) : End (run sh (d + 1) 72 [mR g, mI (x : Int)] σ) (fun r σ' => r = none ∧ HG σ' g (c.eraseIdx x) ∧ frG g σ σ') := by
  obtain ⟨ho, r0, r1, r2, r3, r4, r5, k1, k2, k3, k4, k5, k6, l1, l2, l3, l4, l5, l6, w6⟩ := id hg
  have hn := hG.1
  have eb : (c.length : Int) - (x : Int) - 1 = ((c.length - x - 1 : Nat) : Int) := by omega
  simp (disch := first | assumption | omega | (simp (disch := omega) only [wN, w0, w1]; omega)) only [e72_0, e72_1, e72_2, e72_5, e72_8, e72_9, e72_12, e72_13, e72_14, e72_15, e72_16, e72_17, e72_18, e72_21, e72_22, e72_23, e72_24, e72_25, e72_28, e72_29, e72_30, e72_33, e72_34, e72_37, e72_38, e72_39, e72_40, e72_41, e72_44, e72_45, e72_46, e72_49, e72_50, e72_53, e72_54, e72_55, e72_56, e72_57, e72_60, e72_61, e72_62, e72_65, e72_66, e72_69, e72_70, e72_71, e72_72, e72_73, e72_76, e72_77, e72_78, e72_81, e72_82I, e72_82R, e72_83, e72_86, e72_87, e72_88, e72_91, kl_I, kl_R, kl_N, kl_L, oSm, oNn, Option.bind_some, wN, if_pos, if_neg, nS, tN, t0, w0, w1, w2, w3, w4, w5, wm1, upA_ne, upA_same, q72, K45 hg hn hc hb, hn, eb, r0, r1, r2, r3]
  refine End.of rfl ⟨rfl, ⟨?_, fun j hj => ?_⟩, ⟨fun a ha => ?_, rfl⟩⟩
  · simp only [upA_same, up1_same, List.length_eraseIdx, if_pos hx]
    omega
  · rw [List.length_eraseIdx, if_pos hx] at hj
    have e : ∀ f : Nat → Int, (if x ≤ j ∧ j < x + (c.length - x - 1) then f (x + 1 + (j - x)) else f j) = if j < x then f j else f (j + 1) := fun f => dropA_at (n := c.length) hj
    simp (disch := omega) only [upA_ne, upA_same, e, gA_erase]
    by_cases h : j < x
    · rw [if_pos h, if_pos h, if_pos h, if_pos h, if_pos h]
      exact hG.2 j (by omega)
    · rw [if_neg h, if_neg h, if_neg h, if_neg h, if_neg h]
      exact hG.2 (j + 1) (by omega)
  · simp (disch := omega) only [upA_ne]
/-- alike, but for a turn's eighths -/
def alB (q r : Gt) : Bool := decide (q.1 = r.1) && (decide (gm q = gm r) && (decide (¬ q.1 = 3) || decide (q.2.1 = r.2.1)))
theorem L69 (hg : glS sh g cap) (hG : HG σ g c) (hc : c.length ≤ cap) (hb : cap ≤ 100) (hv : okC n c) (hn5 : n ≤ 5) (hx : x < c.length) (hy : y < c.length) : run sh (d + 1) 69 [mR g, mI (x : Int), mI (y : Int)] σ = some (some (mI (bi (alB (gA c x) (gA c y)))), σ) := by
  have ho := hg.1
  have m1 : gm (gA c x) < 32 := gm_lt (hv.at hx) hn5
  have m2 : gm (gA c y) < 32 := gm_lt (hv.at hy) hn5
  have q1 := (hv.at hx).1
  have q2 := (hv.at hy).1
  have f1 := (hv.at hx).2.1
  have f2 := (hv.at hy).2.1
  simp (disch := first | assumption | omega | (simp (disch := omega) only [wN, w0, w1]; omega)) only [e69_0, e69_1, e69_2, e69_5, e69_6, e69_7, e69_10, e69_13, e69_14, e69_15, e69_18, e69_19, e69_20, e69_23, e69_26, e69_27, e69_28, e69_29, e69_30, e69_33, e69_34, e69_37, e69_38, e69_39, e69_42, e69_43, e69_44, e69_47, e69_50, e69_51, e69_54, e69_55, kl_I, kl_R, kl_N, kl_L, oSm, oNn, Option.bind_some, wN, if_pos, if_neg, nS, tN, t0, w0, w1, w2, w3, w4, w5, wm1, upA_ne, upA_same, q69, L46 hg hG hc hb hx, L46 hg hG hc hb hy, L51 hg hG hc hb hx, L51 hg hG hc hb hy, L47 hg hG hc hb hx, L47 hg hG hc hb hy, e01]
  unfold alB
  by_cases h1 : (gA c x).1 = (gA c y).1
  · by_cases h2 : gm (gA c x) = gm (gA c y)
    · by_cases h3 : (gA c x).1 = 3
      · by_cases h4 : (gA c x).2.1 = (gA c y).2.1
        · simp [h1, h2, h4]
        · have h5 : (gA c y).1 = 3 := by omega
          simp [h1, h2, h4, h5]
      · have h5 : ¬ (gA c y).1 = 3 := by omega
        have h6 : ¬ ((gA c y).1 : Int) = 3 := by omega
        simp [h1, h2, h5, h6]
    · simp [h1, h2]
  · simp [h1]
/-- all between x and y commute with y -/
def fbB (c : List Gt) (x y : Nat) : Bool := fa (fun k => cmB (gA c k) (gA c y)) (y - (x + 1)) (x + 1)
theorem L70 (hg : glS sh g cap) (hG : HG σ g c) (hc : c.length ≤ cap) (hb : cap ≤ 100) (hv : okC n c) (hn5 : n ≤ 5) (hx : x < y) (hy : y < c.length) : run sh (d + 2) 70 [mR g, mI (x : Int), mI (y : Int)] σ = some (some (mI (bi (fbB c x y))), σ) := by
  have ho := hg.1
  have F : ∀ i, i ≤ y → x < i → ev sh (d + 2) 70 4 [some (mR (g)), some (mI ((x : Nat) : Int)), some (mI ((y : Nat) : Int)), some (mI ((i : Nat) : Int))] [] σ = some (some (mI (bi (fa (fun k => cmB (gA c k) (gA c y)) (y - i) i))), σ) := for_P y (fun i => x < i → ev sh (d + 2) 70 4 [some (mR (g)), some (mI ((x : Nat) : Int)), some (mI ((y : Nat) : Int)), some (mI ((i : Nat) : Int))] [] σ = some (some (mI (bi (fa (fun k => cmB (gA c k) (gA c y)) (y - i) i))), σ)) (by
    intro _
    rw [fa_e, e70_4]
    simp (disch := first | assumption | omega | (simp (disch := omega) only [wN, w0, w1]; omega)) only [e70_0, e70_1, e70_2, e70_3, e70_5, e70_6, e70_9, e70_10, e70_11, e70_12, e70_15, e70_18, e70_19, e70_20, e70_23, e70_26, e70_27, kl_I, kl_R, kl_N, kl_L, oSm, oNn, Option.bind_some, wN, if_pos, if_neg, nS, tN, t0, w0, w1, w2, w3, w4, w5, wm1, upA_ne, upA_same]
    rfl) (fun i hi ih h => by
    rw [e70_4, fa_s hi]
    simp (disch := first | assumption | omega | (simp (disch := omega) only [wN, w0, w1]; omega)) only [e70_0, e70_1, e70_2, e70_3, e70_5, e70_6, e70_9, e70_10, e70_11, e70_12, e70_15, e70_18, e70_19, e70_20, e70_23, e70_26, e70_27, kl_I, kl_R, kl_N, kl_L, oSm, oNn, Option.bind_some, wN, if_pos, if_neg, nS, tN, t0, w0, w1, w2, w3, w4, w5, wm1, upA_ne, upA_same, L59 hg hG hc hb hv hn5 (Nat.lt_trans hi hy) hy, wi_01, if10]
    rw [ih (by omega)]
    cases cmB (gA c i) (gA c y) <;> simp)
  simp (disch := first | assumption | omega | (simp (disch := omega) only [wN, w0, w1]; omega)) only [e70_0, e70_1, e70_2, e70_3, e70_5, e70_6, e70_9, e70_10, e70_11, e70_12, e70_15, e70_18, e70_19, e70_20, e70_23, e70_26, e70_27, kl_I, kl_R, kl_N, kl_L, oSm, oNn, Option.bind_some, wN, if_pos, if_neg, nS, tN, t0, w0, w1, w2, w3, w4, w5, wm1, upA_ne, upA_same, q70]
  exact F (x + 1) (by omega) (by omega)
end GLE

