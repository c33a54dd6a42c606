/-! ===== GateList: which may change places ===== -/
theorem vG.r {n : Nat} {q : Gt} (h : vG n q) (hn : n ≤ 5) : -1 ≤ q.2.2 ∧ q.2.2 < 8 := by
  obtain ⟨h1, h2, h3, h4, h5⟩ := h
  rcases Nat.lt_or_ge q.1 3 with h | h
  · rcases (show q.1 = 0 ∨ (q.1 = 1 ∨ q.1 = 2) by omega) with h | h
    · have := h3 h; omega
    · have := h4 h; omega
  · have := h5 h; omega
def idB (q : Gt) : Bool := decide (q.1 = 0) && decide (q.2.2 = 0)
/-- how a gate (no w) takes one of its lines -/
def man (q : Gt) (l : Nat) : Nat := if q.1 = 0 then 4 else if q.1 = 4 then 4 else if q.1 = 3 then (if q.2.1 = l then 4 else 2) else if q.1 = 2 then 2 else 1
def mn1 (q r : Gt) (l : Nat) : Bool := !((gm q &&& gm r).testBit l) || decide (man q l = man r l)
def cmB (q r : Gt) : Bool :=
  if gm q &&& gm r = 0 ∨ idB q = true ∨ idB r = true then true
  else if q.1 = 5 ∨ r.1 = 5 then decide (4 ≤ q.1 ∧ 4 ≤ r.1 ∧ gm q = gm r)
  else fa (mn1 q r) 4 0
section GLM
variable {sh : Shp} {d g cap n : Nat} {σ : Mem} {c : List Gt} {i j : Nat}
theorem L57 (hg : glS sh g cap) (hG : HG σ g c) (hc : c.length ≤ cap) (hb : cap ≤ 100) (hv : okC n c) (hn5 : n ≤ 5) (hj : j < c.length) : run sh d 57 [mR g, mI (j : Int)] σ = some (some (mI (if idB (gA c j) = true then 1 else 0)), σ) := by
  obtain ⟨ho, r0, r1, r2, r3, r4, r5, k1, k2, k3, k4, k5, k6, l1, l2, l3, l4, l5, l6, w6⟩ := id hg
  have hn := hG.1
  obtain ⟨g1, g2, g3, g4⟩ := hG.2 j hj
  have h5 := (hv.at hj).1
  have hr := (hv.at hj).r hn5
  have hw : wi (gA c j).2.2 = (gA c j).2.2 := wi_id (by omega) (by omega)
  simp (disch := first | assumption | omega) only [e57_0, e57_1, e57_4, e57_5, e57_6, e57_9, e57_12, e57_13, e57_14, e57_17, e57_18, e57_21, e57_22, e57_25, e57_26, e57_27, e57_30, e57_31, e57_34, e57_35, e57_36, e57_39, e57_40, e57_43, e57_44, kl_I, kl_R, kl_N, kl_L, oSm, oNn, Option.bind_some, wN, if_pos, if_neg, nS, tN, t0, w0, w1, w2, w3, w4, w5, wm1, upA_ne, upA_same, q57, hn, r0, r2, l1, l3, g1, g3, hw]
  by_cases h1 : (gA c j).1 = 0
  · by_cases h2 : (gA c j).2.2 = 0
    · simp [h1, h2, idB]
    · simp [h1, h2, idB]
  · simp [h1, idB]
theorem L58 {l : Nat} (hg : glS sh g cap) (hG : HG σ g c) (hc : c.length ≤ cap) (hb : cap ≤ 100) (hv : okC n c) (hn5 : n ≤ 5) (hj : j < c.length) (hl : l < 5) : run sh d 58 [mR g, mI (j : Int), mI (l : Int)] σ = some (some (mI (man (gA c j) l : Int)), σ) := by
  obtain ⟨ho, r0, r1, r2, r3, r4, r5, k1, k2, k3, k4, k5, k6, l1, l2, l3, l4, l5, l6, w6⟩ := id hg
  have hn := hG.1
  obtain ⟨g1, g2, g3, g4⟩ := hG.2 j hj
  have h5 := (hv.at hj).1
  have h6 := (hv.at hj).2.1
  simp (disch := first | assumption | omega) only [e58_0, e58_1, e58_4, e58_5, e58_6, e58_9, e58_12, e58_13, e58_14, e58_17, e58_18, e58_21, e58_22, e58_23, e58_24, e58_27, e58_28, e58_64, e58_65, e58_66, e58_67, e58_70, e58_71, e58_72, e58_73, e58_76, e58_77, e58_80, e58_81, e58_82, e58_83, e58_84, e58_85, kl_I, kl_R, kl_N, kl_L, oSm, oNn, Option.bind_some, wN, if_pos, if_neg, nS, tN, t0, w0, w1, w2, w3, w4, w5, wm1, upA_ne, upA_same, q58, hn, r0, r1, l1, l2, g1, g2]
  rcases (show (gA c j).1 = 0 ∨ (gA c j).1 = 1 ∨ (gA c j).1 = 2 ∨ (gA c j).1 = 3 ∨ (gA c j).1 = 4 ∨ (gA c j).1 = 5 by omega) with h | h | h | h | h | h
  · rw [e58_29_0 (by rw [h]; rfl)]
    simp (disch := first | assumption | omega) only [e58_0, e58_1, e58_4, e58_5, e58_6, e58_9, e58_12, e58_13, e58_14, e58_17, e58_18, e58_21, e58_22, e58_23, e58_24, e58_27, e58_28, e58_64, e58_65, e58_66, e58_67, e58_70, e58_71, e58_72, e58_73, e58_76, e58_77, e58_80, e58_81, e58_82, e58_83, e58_84, e58_85, kl_I, kl_R, kl_N, kl_L, oSm, oNn, Option.bind_some, wN, if_pos, if_neg, nS, tN, t0, w0, w1, w2, w3, w4, w5, wm1, upA_ne, upA_same]
    simp [man, h]
  · rw [e58_29_1 (by rw [h]; rfl)]
    simp (disch := first | assumption | omega) only [e58_0, e58_1, e58_4, e58_5, e58_6, e58_9, e58_12, e58_13, e58_14, e58_17, e58_18, e58_21, e58_22, e58_23, e58_24, e58_27, e58_28, e58_64, e58_65, e58_66, e58_67, e58_70, e58_71, e58_72, e58_73, e58_76, e58_77, e58_80, e58_81, e58_82, e58_83, e58_84, e58_85, kl_I, kl_R, kl_N, kl_L, oSm, oNn, Option.bind_some, wN, if_pos, if_neg, nS, tN, t0, w0, w1, w2, w3, w4, w5, wm1, upA_ne, upA_same]
    simp [man, h]
  · rw [e58_29_2 (by rw [h]; rfl)]
    simp (disch := first | assumption | omega) only [e58_0, e58_1, e58_4, e58_5, e58_6, e58_9, e58_12, e58_13, e58_14, e58_17, e58_18, e58_21, e58_22, e58_23, e58_24, e58_27, e58_28, e58_64, e58_65, e58_66, e58_67, e58_70, e58_71, e58_72, e58_73, e58_76, e58_77, e58_80, e58_81, e58_82, e58_83, e58_84, e58_85, kl_I, kl_R, kl_N, kl_L, oSm, oNn, Option.bind_some, wN, if_pos, if_neg, nS, tN, t0, w0, w1, w2, w3, w4, w5, wm1, upA_ne, upA_same]
    simp [man, h]
  · rw [e58_29_3 (by rw [h]; rfl)]
    simp (disch := first | assumption | omega) only [e58_0, e58_1, e58_4, e58_5, e58_6, e58_9, e58_12, e58_13, e58_14, e58_17, e58_18, e58_21, e58_22, e58_23, e58_24, e58_27, e58_28, e58_64, e58_65, e58_66, e58_67, e58_70, e58_71, e58_72, e58_73, e58_76, e58_77, e58_80, e58_81, e58_82, e58_83, e58_84, e58_85, kl_I, kl_R, kl_N, kl_L, oSm, oNn, Option.bind_some, wN, if_pos, if_neg, nS, tN, t0, w0, w1, w2, w3, w4, w5, wm1, upA_ne, upA_same, r1, l2, g2, hn]
    by_cases hq : (gA c j).2.1 = l
    · simp [man, h, hq]
    · simp [man, h, hq]; omega
  · rw [e58_29_4 (by rw [h]; rfl)]
    simp (disch := first | assumption | omega) only [e58_0, e58_1, e58_4, e58_5, e58_6, e58_9, e58_12, e58_13, e58_14, e58_17, e58_18, e58_21, e58_22, e58_23, e58_24, e58_27, e58_28, e58_64, e58_65, e58_66, e58_67, e58_70, e58_71, e58_72, e58_73, e58_76, e58_77, e58_80, e58_81, e58_82, e58_83, e58_84, e58_85, kl_I, kl_R, kl_N, kl_L, oSm, oNn, Option.bind_some, wN, if_pos, if_neg, nS, tN, t0, w0, w1, w2, w3, w4, w5, wm1, upA_ne, upA_same]
    simp [man, h]
  · rw [e58_29_d (by rw [h, wN (by omega)]; omega)]
    simp (disch := first | assumption | omega) only [e58_0, e58_1, e58_4, e58_5, e58_6, e58_9, e58_12, e58_13, e58_14, e58_17, e58_18, e58_21, e58_22, e58_23, e58_24, e58_27, e58_28, e58_64, e58_65, e58_66, e58_67, e58_70, e58_71, e58_72, e58_73, e58_76, e58_77, e58_80, e58_81, e58_82, e58_83, e58_84, e58_85, kl_I, kl_R, kl_N, kl_L, oSm, oNn, Option.bind_some, wN, if_pos, if_neg, nS, tN, t0, w0, w1, w2, w3, w4, w5, wm1, upA_ne, upA_same]
    simp [man, h]
end GLM

