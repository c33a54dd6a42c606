/-! ===== GateList: reads ===== -/
section GLR
variable {sh : Shp} {d g cap n : Nat} {σ : Mem} {i : Int}
theorem K45 (hg : glS sh g cap) (hn : σ.1 g 6 = (n : Int)) (hc : n ≤ cap) (hb : cap ≤ 100) : run sh d 45 [mR g, mI i] σ = some (some (mI (if 0 ≤ wi i ∧ wi i < n then 1 else 0)), σ) := by
  obtain ⟨ho, r0, r1, r2, r3, r4, r5, k1, k2, k3, k4, k5, k6, l1, l2, l3, l4, l5, l6, w6⟩ := hg
  have w : wi (n : Int) = n := wi_id (by omega) (by omega)
  have wc : wi (cap : Int) = cap := wi_id (by omega) (by omega)
  simp (disch := first | assumption | omega) only [q45, e45_0, e45_1, e45_4, e45_5, e45_6, e45_9, e45_12, e45_13, e45_14, e45_17, e45_18, e45_21, e45_22, e45_25, e45_26, kl_I, kl_R, kl_N, kl_L, oSm, oNn, Option.bind_some, wN, if_pos, if_neg, nS, tN, t0, w0, w1, w2, w3, w4, w5, wm1, upA_ne, upA_same, hn, r0, l1, w, wc]
  repeat' split
  all_goals first | rfl | omega
theorem K46 (hg : glS sh g cap) (hn : σ.1 g 6 = (n : Int)) (hc : n ≤ cap) (hb : cap ≤ 100) : run sh d 46 [mR g, mI i] σ = some (some (mI (if 0 ≤ wi i ∧ wi i < n then σ.1 (g + 1) (wi i).toNat else -1)), σ) := by
  obtain ⟨ho, r0, r1, r2, r3, r4, r5, k1, k2, k3, k4, k5, k6, l1, l2, l3, l4, l5, l6, w6⟩ := hg
  have w : wi (n : Int) = n := wi_id (by omega) (by omega)
  have wc : wi (cap : Int) = cap := wi_id (by omega) (by omega)
  simp (disch := first | assumption | omega) only [q46, e46_0, e46_1, e46_4, e46_5, e46_6, e46_9, e46_12, e46_13, e46_14, e46_17, e46_18, e46_21, e46_22, e46_25, e46_26, e46_27, e46_30, e46_31, kl_I, kl_R, kl_N, kl_L, oSm, oNn, Option.bind_some, wN, if_pos, if_neg, nS, tN, t0, w0, w1, w2, w3, w4, w5, wm1, upA_ne, upA_same, hn, r0, l1, w, wc]
  repeat' split
  all_goals first | rfl | omega
theorem K47 (hg : glS sh g cap) (hn : σ.1 g 6 = (n : Int)) (hc : n ≤ cap) (hb : cap ≤ 100) : run sh d 47 [mR g, mI i] σ = some (some (mI (if 0 ≤ wi i ∧ wi i < n then σ.1 (g + 2) (wi i).toNat else -1)), σ) := by
  obtain ⟨ho, r0, r1, r2, r3, r4, r5, k1, k2, k3, k4, k5, k6, l1, l2, l3, l4, l5, l6, w6⟩ := hg
  have w : wi (n : Int) = n := wi_id (by omega) (by omega)
  have wc : wi (cap : Int) = cap := wi_id (by omega) (by omega)
  simp (disch := first | assumption | omega) only [q47, e47_0, e47_1, e47_4, e47_5, e47_6, e47_9, e47_12, e47_13, e47_14, e47_17, e47_18, e47_21, e47_22, e47_25, e47_26, e47_27, e47_30, e47_31, kl_I, kl_R, kl_N, kl_L, oSm, oNn, Option.bind_some, wN, if_pos, if_neg, nS, tN, t0, w0, w1, w2, w3, w4, w5, wm1, upA_ne, upA_same, hn, r1, l2, w, wc]
  repeat' split
  all_goals first | rfl | omega
theorem K48 (hg : glS sh g cap) (hn : σ.1 g 6 = (n : Int)) (hc : n ≤ cap) (hb : cap ≤ 100) : run sh d 48 [mR g, mI i] σ = some (some (mI (if 0 ≤ wi i ∧ wi i < n then σ.1 (g + 3) (wi i).toNat else -1)), σ) := by
  obtain ⟨ho, r0, r1, r2, r3, r4, r5, k1, k2, k3, k4, k5, k6, l1, l2, l3, l4, l5, l6, w6⟩ := hg
  have w : wi (n : Int) = n := wi_id (by omega) (by omega)
  have wc : wi (cap : Int) = cap := wi_id (by omega) (by omega)
  simp (disch := first | assumption | omega) only [q48, e48_0, e48_1, e48_4, e48_5, e48_6, e48_9, e48_12, e48_13, e48_14, e48_17, e48_18, e48_21, e48_22, e48_25, e48_26, e48_27, e48_30, e48_31, kl_I, kl_R, kl_N, kl_L, oSm, oNn, Option.bind_some, wN, if_pos, if_neg, nS, tN, t0, w0, w1, w2, w3, w4, w5, wm1, upA_ne, upA_same, hn, r2, l3, w, wc]
  repeat' split
  all_goals first | rfl | omega
theorem K50 (hg : glS sh g cap) (hn : σ.1 g 6 = (n : Int)) (hc : n ≤ cap) (hb : cap ≤ 100) : run sh d 50 [mR g, mI i] σ = some (some (mI (if (0 ≤ wi i ∧ wi i < n) ∧ 3 ≤ wi (σ.1 (g + 1) (wi i).toNat) then 1 else 0)), σ) := by
  obtain ⟨ho, r0, r1, r2, r3, r4, r5, k1, k2, k3, k4, k5, k6, l1, l2, l3, l4, l5, l6, w6⟩ := hg
  have w : wi (n : Int) = n := wi_id (by omega) (by omega)
  have wc : wi (cap : Int) = cap := wi_id (by omega) (by omega)
  have w3 : wi (3 : Int) = 3 := wi_id (by omega) (by omega)
  simp (disch := first | assumption | omega) only [q50, e50_0, e50_1, e50_4, e50_5, e50_6, e50_9, e50_12, e50_13, e50_14, e50_17, e50_18, e50_21, e50_22, e50_25, e50_26, e50_27, e50_28, e50_31, e50_32, e50_35, e50_36, kl_I, kl_R, kl_N, kl_L, oSm, oNn, Option.bind_some, wN, if_pos, if_neg, nS, tN, t0, w0, w1, w2, w3, w4, w5, wm1, upA_ne, upA_same, hn, r0, l1, w, wc, w3]
  repeat' split
  all_goals first | rfl | omega
theorem K51 (hg : glS sh g cap) (hn : σ.1 g 6 = (n : Int)) (hc : n ≤ cap) (hb : cap ≤ 100) : run sh (d + 1) 51 [mR g, mI i] σ = some (some (mI (if 0 ≤ wi i ∧ wi i < n then σ.1 (g + 4) (wi i).toNat else 0)), σ) := by
  obtain ⟨ho, r0, r1, r2, r3, r4, r5, k1, k2, k3, k4, k5, k6, l1, l2, l3, l4, l5, l6, w6⟩ := id hg
  have w : wi (n : Int) = n := wi_id (by omega) (by omega)
  have wc : wi (cap : Int) = cap := wi_id (by omega) (by omega)
  simp (disch := first | assumption | omega) only [q51, e51_0, e51_1, e51_2, e51_5, e51_8, e51_9, e51_12, e51_13, e51_16, e51_19, e51_20, kl_I, kl_R, kl_N, kl_L, oSm, oNn, Option.bind_some, wN, if_pos, if_neg, nS, tN, t0, w0, w1, w2, w3, w4, w5, wm1, upA_ne, upA_same, if_true, if_false, Bool.false_eq_true, hn, r3, w, wc, K45 hg hn hc hb, K93 k4 l4 (show cap ≤ 5000 by omega), wi_01, if10]
  repeat' split
  all_goals first | rfl | omega
theorem K52 {k f t : Int} (hg : glS sh g cap) (hn : σ.1 g 6 = (n : Int)) (hc : n < cap) (hb : cap ≤ 100) : run sh (d + 1) 52 [mR g, mI k, mI f, mI t] σ = some (none, (upA (upA (upA (upA (upA σ.1 (g + 1) (up1 (σ.1 (g + 1)) n k)) (g + 2) (up1 (σ.1 (g + 2)) n f)) (g + 3) (up1 (σ.1 (g + 3)) n t)) (g + 4) (up1 (σ.1 (g + 4)) n (if wi k < 3 then xshl 1 f else xor' (xshl 1 f) (xshl 1 t)))) g (up1 (σ.1 g) 6 (n + 1)), σ.2)) := by
  obtain ⟨ho, r0, r1, r2, r3, r4, r5, k1, k2, k3, k4, k5, k6, l1, l2, l3, l4, l5, l6, w6⟩ := hg
  have w : wi (n : Int) = n := wi_id (by omega) (by omega)
  have wc : wi (cap : Int) = cap := wi_id (by omega) (by omega)
  have w3 : wi (3 : Int) = 3 := wi_id (by omega) (by omega)
  have h5k : cap ≤ 5000 := by omega
  simp (disch := first | assumption | omega) only [q52, e52_0, e52_1, e52_4, e52_5, e52_8, e52_9, e52_12, e52_13, e52_16, e52_17, e52_20, e52_21, e52_24, e52_25, e52_28, e52_29, e52_32, e52_33, e52_36, e52_37, e52_40, e52_41, e52_44, e52_45, e52_48, e52_49, e52_52, e52_53, e52_56, e52_57, e52_58, e52_61, e52_62, e52_63, e52_64, e52_65, e52_66, e52_67, e52_68, e52_71, e52_72, e52_73, e52_74, e52_77, e52_78I, e52_78R, e52_79, e52_82, e52_83, e52_84, e52_87, kl_I, kl_R, kl_N, kl_L, oSm, oNn, Option.bind_some, wN, if_pos, if_neg, nS, tN, t0, w0, w1, w2, w3, w4, w5, wm1, upA_ne, upA_same, if_true, if_false, Bool.false_eq_true, hn, r0, r1, r2, r3, l1, l2, l3, l4, w, wc, w3, upA_ne, Int.toNat_natCast, if_neg, if_pos, K289n k1 l1 h5k (show g + 1 < sh.1 by omega) hc, K289n k2 l2 h5k (show g + 2 < sh.1 by omega) hc, K289n k3 l3 h5k (show g + 3 < sh.1 by omega) hc, K289n k4 l4 h5k (show g + 4 < sh.1 by omega) hc]
  split <;> simp (disch := first | assumption | omega) only [upA_ne, hn]
end GLR
