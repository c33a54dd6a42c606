/-! ===== GateList: which may change places ===== -/
theorem vG.r {n : Nat} {q : Gt} (h : vG n q) (hn : n ≤ 5) : -1 ≤ q.2.2 ∧ q.2.2 < 8 := by
  obtain ⟨h1, h2, h3, h4, h5⟩ := h
  rcases Nat.lt_or_ge q.1 3 with h | h
  · rcases (show q.1 = 0 ∨ (q.1 = 1 ∨ q.1 = 2) by omega) with h | h
    · have := h3 h; omega
    · have := h4 h; omega
  · have := h5 h; omega
def idB (q : Gt) : Bool := decide (q.1 = 0) && decide (q.2.2 = 0)
/-- how a gate (no w) takes one of its lines -/
def man (q : Gt) (l : Nat) : Nat := if q.1 = 0 then 4 else if q.1 = 4 then 4 else if q.1 = 3 then (if q.2.1 = l then 4 else 2) else if q.1 = 2 then 2 else 1
def mn1 (q r : Gt) (l : Nat) : Bool := !((gm q &&& gm r).testBit l) || decide (man q l = man r l)
def cmB (q r : Gt) : Bool :=
  if gm q &&& gm r = 0 ∨ idB q = true ∨ idB r = true then true
  else if q.1 = 5 ∨ r.1 = 5 then decide (4 ≤ q.1 ∧ 4 ≤ r.1 ∧ gm q = gm r)
  else fa (mn1 q r) 4 0
section GLM
variable {sh : Shp} {d g cap n : Nat} {σ : Mem} {c : List Gt} {i j : Nat}
theorem L57 (hg : glS sh g cap) (hG : HG σ g c) (hc : c.length ≤ cap) (hb : cap ≤ 100) (hv : okC n c) (hn5 : n ≤ 5) (hj : j < c.length) : run sh (d + 1) 57 [mR g, mI (j : Int)] σ = some (some (mI (if idB (gA c j) = true then 1 else 0)), σ) := by
  have ho := hg.1
  have h5 := (hv.at hj).1
  have hr := (hv.at hj).r hn5
  have hw : wi (gA c j).2.2 = (gA c j).2.2 := wi_id (by omega) (by omega)
  simp (disch := first | assumption | omega | (simp (disch := omega) only [wN, w0, w1]; omega)) only [e57_0, e57_1, e57_2, e57_5, e57_8, e57_9, e57_10, e57_13, e57_16, e57_17, e57_20, e57_21, kl_I, kl_R, kl_N, kl_L, oSm, oNn, Option.bind_some, wN, if_pos, if_neg, nS, tN, t0, w0, w1, w2, w3, w4, w5, wm1, upA_ne, upA_same, if_true, if_false, Bool.false_eq_true, q57, L46 hg hG hc hb hj, L48 hg hG hc hb hj, hw]
  by_cases h1 : (gA c j).1 = 0
  · by_cases h2 : (gA c j).2.2 = 0
    · simp [h1, h2, idB]
    · simp [h1, h2, idB]
  · simp [h1, idB]
theorem L58 {l : Nat} (hg : glS sh g cap) (hG : HG σ g c) (hc : c.length ≤ cap) (hb : cap ≤ 100) (hv : okC n c) (hn5 : n ≤ 5) (hj : j < c.length) (hl : l < 5) : run sh (d + 1) 58 [mR g, mI (j : Int), mI (l : Int)] σ = some (some (mI (man (gA c j) l : Int)), σ) := by
  have ho := hg.1
  have h5 := (hv.at hj).1
  have h6 := (hv.at hj).2.1
  simp (disch := first | assumption | omega | (simp (disch := omega) only [wN, w0, w1]; omega)) only [e58_0, e58_1, e58_2, e58_40, e58_41, e58_42, e58_43, e58_44, e58_47, e58_48, e58_51, e58_52, e58_55, e58_56, e58_57, e58_58, e58_59, e58_60, kl_I, kl_R, kl_N, kl_L, oSm, oNn, Option.bind_some, wN, if_pos, if_neg, nS, tN, t0, w0, w1, w2, w3, w4, w5, wm1, upA_ne, upA_same, if_true, if_false, Bool.false_eq_true, q58, L46 hg hG hc hb hj]
  rcases (show (gA c j).1 = 0 ∨ (gA c j).1 = 1 ∨ (gA c j).1 = 2 ∨ (gA c j).1 = 3 ∨ (gA c j).1 = 4 ∨ (gA c j).1 = 5 by omega) with h | h | h | h | h | h
  · rw [e58_5_0 (by rw [h]; rfl)]
    simp (disch := first | assumption | omega | (simp (disch := omega) only [wN, w0, w1]; omega)) only [e58_0, e58_1, e58_2, e58_40, e58_41, e58_42, e58_43, e58_44, e58_47, e58_48, e58_51, e58_52, e58_55, e58_56, e58_57, e58_58, e58_59, e58_60, kl_I, kl_R, kl_N, kl_L, oSm, oNn, Option.bind_some, wN, if_pos, if_neg, nS, tN, t0, w0, w1, w2, w3, w4, w5, wm1, upA_ne, upA_same, if_true, if_false, Bool.false_eq_true]
    simp [man, h]
  · rw [e58_5_1 (by rw [h]; rfl)]
    simp (disch := first | assumption | omega | (simp (disch := omega) only [wN, w0, w1]; omega)) only [e58_0, e58_1, e58_2, e58_40, e58_41, e58_42, e58_43, e58_44, e58_47, e58_48, e58_51, e58_52, e58_55, e58_56, e58_57, e58_58, e58_59, e58_60, kl_I, kl_R, kl_N, kl_L, oSm, oNn, Option.bind_some, wN, if_pos, if_neg, nS, tN, t0, w0, w1, w2, w3, w4, w5, wm1, upA_ne, upA_same, if_true, if_false, Bool.false_eq_true]
    simp [man, h]
  · rw [e58_5_2 (by rw [h]; rfl)]
    simp (disch := first | assumption | omega | (simp (disch := omega) only [wN, w0, w1]; omega)) only [e58_0, e58_1, e58_2, e58_40, e58_41, e58_42, e58_43, e58_44, e58_47, e58_48, e58_51, e58_52, e58_55, e58_56, e58_57, e58_58, e58_59, e58_60, kl_I, kl_R, kl_N, kl_L, oSm, oNn, Option.bind_some, wN, if_pos, if_neg, nS, tN, t0, w0, w1, w2, w3, w4, w5, wm1, upA_ne, upA_same, if_true, if_false, Bool.false_eq_true]
    simp [man, h]
  · rw [e58_5_3 (by rw [h]; rfl)]
    simp (disch := first | assumption | omega | (simp (disch := omega) only [wN, w0, w1]; omega)) only [e58_0, e58_1, e58_2, e58_40, e58_41, e58_42, e58_43, e58_44, e58_47, e58_48, e58_51, e58_52, e58_55, e58_56, e58_57, e58_58, e58_59, e58_60, kl_I, kl_R, kl_N, kl_L, oSm, oNn, Option.bind_some, wN, if_pos, if_neg, nS, tN, t0, w0, w1, w2, w3, w4, w5, wm1, upA_ne, upA_same, if_true, if_false, Bool.false_eq_true, L47 hg hG hc hb hj]
    by_cases hq : (gA c j).2.1 = l
    · simp [man, h, hq]
    · simp [man, h, hq]; omega
  · rw [e58_5_4 (by rw [h]; rfl)]
    simp (disch := first | assumption | omega | (simp (disch := omega) only [wN, w0, w1]; omega)) only [e58_0, e58_1, e58_2, e58_40, e58_41, e58_42, e58_43, e58_44, e58_47, e58_48, e58_51, e58_52, e58_55, e58_56, e58_57, e58_58, e58_59, e58_60, kl_I, kl_R, kl_N, kl_L, oSm, oNn, Option.bind_some, wN, if_pos, if_neg, nS, tN, t0, w0, w1, w2, w3, w4, w5, wm1, upA_ne, upA_same, if_true, if_false, Bool.false_eq_true]
    simp [man, h]
  · rw [e58_5_d (by rw [h, wN (by omega)]; omega)]
    simp (disch := first | assumption | omega | (simp (disch := omega) only [wN, w0, w1]; omega)) only [e58_0, e58_1, e58_2, e58_40, e58_41, e58_42, e58_43, e58_44, e58_47, e58_48, e58_51, e58_52, e58_55, e58_56, e58_57, e58_58, e58_59, e58_60, kl_I, kl_R, kl_N, kl_L, oSm, oNn, Option.bind_some, wN, if_pos, if_neg, nS, tN, t0, w0, w1, w2, w3, w4, w5, wm1, upA_ne, upA_same, if_true, if_false, Bool.false_eq_true]
    simp [man, h]
end GLM
