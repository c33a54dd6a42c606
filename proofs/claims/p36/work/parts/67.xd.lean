/-! ===== seed, gateIs, ahead, count, spend, shorter, urgent, lasts ===== -/
section XD
variable {sh : Shp} {d : Nat} {σ : Mem} {a : AX} {z w v : Int}
theorem X125 (hX : XS sh) (h : InvX sh σ a) (hz : i32 z) (hw' : i32 w) : End (run sh (d + 6) 125 [mR 0, mI z, mI w] σ) (fun r σ' => r = some (mI (aGateIs a z w)) ∧ InvX sh σ' a) := by
  obtain ⟨ho, s0, s1, s3, s4, s5, s6, s7, s8, s9, s10, s11, s12, s13, hnow, hkep, htap, k43, l43, hspg, hspb, htri, hrow, hcol, hkc, k69, l69, hrou, hfin, hsh, hR⟩ := id hX
  obtain ⟨so, u1, u2, u3, sg, sb, sl⟩ := id hnow
  have sgo := sg.1
  have sbo := sb.1
  have slo := sl.1
  have tpo := htap.1
  have spgo := hspg.1
  have spbo := hspb.1
  have trio := htri.1
  have rowo := hrow.1
  have colo := hcol.1
  have kco := hkc.1
  have rouo := hrou.1
  have fino := hfin.1
  have kpo := hkep.1
  obtain ⟨⟨n, c, m, E, P, x⟩, K, B, s, T⟩ := a
  obtain ⟨⟨hS, hoS⟩, hik, hKp, hTp, h140, hTm, hT1⟩ := id h
  replace hS : HS σ 1 n c m E P (x : Int) := hS
  replace hoS : okZ n c m E P x := hoS
  replace hTp : HP σ 41 B s := hTp
  replace h140 : s ≤ 140 := h140
  replace hTm : HT sh σ 43 T := hTm
  replace hik : σ.1 0 2 = bi K.isSome := hik
  obtain ⟨hS0, hSG, hSB, hSF, hSL, hSx⟩ := id hS
  obtain ⟨n1, n4', c30, hv, m2, m5, E10, hvE, hPk, x16⟩ := id hoS
  have wz := hz.w
  have ww := hw'.w
  have e45 := K45 (d := d + 5) (i := z) sg hSG.1 c30 (by omega)
  rw [wz] at e45
  show End _ (fun r σ' => r = some (mI (aGateIs ((n, c, m, E, P, x), K, B, s, T) z w)) ∧ _)
  unfold aGateIs
  simp only
  by_cases h1 : z < 0 ∨ (c.length : Int) ≤ z
  · rw [if_neg (by omega)] at e45
    rw [if_pos (by omega)]
    simp (disch := first | assumption | omega | (simp (disch := omega) only [wN, w0, w1]; omega)) only [e125_0, e125_1, e125_4, e125_7, e125_8, e125_11, e125_14, e125_15, e125_18, e125_19, e125_20, e125_23, e125_24, e125_25, e125_26, e125_27, e125_30, e125_31, e125_34, e125_37, e125_38, e125_39, e125_42, e125_45, e125_46, e125_49, e125_52, e125_53, e125_54, e125_55, e125_58, e125_59, e125_62, e125_63, e125_66, kl_I, kl_R, kl_N, kl_L, oSm, oNn, Option.bind_some, wN, if_pos, if_neg, nS, tN, t0, w0, w1, w2, w3, w4, w5, wm1, upA_ne, upA_same, if_true, if_false, Bool.false_eq_true, q125, s0, u1, e45]
    exact End.of rfl ⟨rfl, h⟩
  · rw [if_pos (by omega)] at e45
    by_cases h2 : w < 0
    · rw [if_pos (by omega)]
      simp (disch := first | assumption | omega | (simp (disch := omega) only [wN, w0, w1]; omega)) only [e125_0, e125_1, e125_4, e125_7, e125_8, e125_11, e125_14, e125_15, e125_18, e125_19, e125_20, e125_23, e125_24, e125_25, e125_26, e125_27, e125_30, e125_31, e125_34, e125_37, e125_38, e125_39, e125_42, e125_45, e125_46, e125_49, e125_52, e125_53, e125_54, e125_55, e125_58, e125_59, e125_62, e125_63, e125_66, kl_I, kl_R, kl_N, kl_L, oSm, oNn, Option.bind_some, wN, if_pos, if_neg, nS, tN, t0, w0, w1, w2, w3, w4, w5, wm1, upA_ne, upA_same, if_true, if_false, Bool.false_eq_true, q125, s0, u1, e45, ww]
      exact End.of rfl ⟨rfl, h⟩
    · by_cases h3 : 5 < w
      · rw [if_pos (by omega)]
        simp (disch := first | assumption | omega | (simp (disch := omega) only [wN, w0, w1]; omega)) only [e125_0, e125_1, e125_4, e125_7, e125_8, e125_11, e125_14, e125_15, e125_18, e125_19, e125_20, e125_23, e125_24, e125_25, e125_26, e125_27, e125_30, e125_31, e125_34, e125_37, e125_38, e125_39, e125_42, e125_45, e125_46, e125_49, e125_52, e125_53, e125_54, e125_55, e125_58, e125_59, e125_62, e125_63, e125_66, kl_I, kl_R, kl_N, kl_L, oSm, oNn, Option.bind_some, wN, if_pos, if_neg, nS, tN, t0, w0, w1, w2, w3, w4, w5, wm1, upA_ne, upA_same, if_true, if_false, Bool.false_eq_true, q125, s0, u1, e45, ww]
        exact End.of rfl ⟨rfl, h⟩
      · rw [if_neg (by omega)]
        obtain ⟨k, rfl⟩ : ∃ k : Nat, z = (k : Int) := ⟨z.toNat, by omega⟩
        obtain ⟨q, rfl⟩ : ∃ q : Nat, w = (q : Int) := ⟨w.toNat, by omega⟩
        simp only [Int.toNat_natCast]
        by_cases h4 : (q : Int) < 4
        · rw [if_pos h4]
          simp (disch := first | assumption | omega | (simp (disch := omega) only [wN, w0, w1]; omega)) only [e125_0, e125_1, e125_4, e125_7, e125_8, e125_11, e125_14, e125_15, e125_18, e125_19, e125_20, e125_23, e125_24, e125_25, e125_26, e125_27, e125_30, e125_31, e125_34, e125_37, e125_38, e125_39, e125_42, e125_45, e125_46, e125_49, e125_52, e125_53, e125_54, e125_55, e125_58, e125_59, e125_62, e125_63, e125_66, kl_I, kl_R, kl_N, kl_L, oSm, oNn, Option.bind_some, wN, if_pos, if_neg, nS, tN, t0, w0, w1, w2, w3, w4, w5, wm1, upA_ne, upA_same, if_true, if_false, Bool.false_eq_true, q125, s0, u1, e45, ww, L49 (d := d + 3) sg hSG c30 (by omega) hv (by omega) (show k < c.length by omega) (show q < 4 by omega)]
          exact End.of rfl ⟨rfl, h⟩
        · rw [if_neg h4]
          have e65 := fun lo => L65 (d := d) (lo := lo) sg hSG c30 (by omega) hv (by omega) (show k < c.length by omega) h.2.2.2.2.2.2 hR (by omega)
          have hI : ∀ F, InvX sh (upA σ.1 7 F, σ.2) ((n, c, m, E, P, x), K, B, s, T) := fun F => h.g (frI.up (by omega)) (by omega)
          rcases (show q = 4 ∨ q = 5 by omega) with rfl | rfl
          · have e65 : run sh (d + 5) 65 [mR 2, mI (k : Int), mI 0] σ = _ := e65 false
            simp (disch := first | assumption | omega | (simp (disch := omega) only [wN, w0, w1]; omega)) only [e125_0, e125_1, e125_4, e125_7, e125_8, e125_11, e125_14, e125_15, e125_18, e125_19, e125_20, e125_23, e125_24, e125_25, e125_26, e125_27, e125_30, e125_31, e125_34, e125_37, e125_38, e125_39, e125_42, e125_45, e125_46, e125_49, e125_52, e125_53, e125_54, e125_55, e125_58, e125_59, e125_62, e125_63, e125_66, kl_I, kl_R, kl_N, kl_L, oSm, oNn, Option.bind_some, wN, if_pos, if_neg, nS, tN, t0, w0, w1, w2, w3, w4, w5, wm1, upA_ne, upA_same, if_true, if_false, Bool.false_eq_true, q125, s0, u1, e45, ww, e65]
            exact End.of rfl ⟨rfl, hI _⟩
          · have e65 : run sh (d + 5) 65 [mR 2, mI (k : Int), mI 1] σ = _ := e65 true
            simp (disch := first | assumption | omega | (simp (disch := omega) only [wN, w0, w1]; omega)) only [e125_0, e125_1, e125_4, e125_7, e125_8, e125_11, e125_14, e125_15, e125_18, e125_19, e125_20, e125_23, e125_24, e125_25, e125_26, e125_27, e125_30, e125_31, e125_34, e125_37, e125_38, e125_39, e125_42, e125_45, e125_46, e125_49, e125_52, e125_53, e125_54, e125_55, e125_58, e125_59, e125_62, e125_63, e125_66, kl_I, kl_R, kl_N, kl_L, oSm, oNn, Option.bind_some, wN, if_pos, if_neg, nS, tN, t0, w0, w1, w2, w3, w4, w5, wm1, upA_ne, upA_same, if_true, if_false, Bool.false_eq_true, q125, s0, u1, e45, ww, e65]
            exact End.of rfl ⟨rfl, hI _⟩
theorem X126 (hX : XS sh) (h : InvX sh σ a) (hz : i32 z) (hw' : i32 w) : End (run sh (d + 5) 126 [mR 0, mI z, mI w] σ) (fun r σ' => r = some (mI (aAhead a z w)) ∧ InvX sh σ' a) := by
  obtain ⟨ho, s0, s1, s3, s4, s5, s6, s7, s8, s9, s10, s11, s12, s13, hnow, hkep, htap, k43, l43, hspg, hspb, htri, hrow, hcol, hkc, k69, l69, hrou, hfin, hsh, hR⟩ := id hX
  obtain ⟨so, u1, u2, u3, sg, sb, sl⟩ := id hnow
  have sgo := sg.1
  have sbo := sb.1
  have slo := sl.1
  have tpo := htap.1
  have spgo := hspg.1
  have spbo := hspb.1
  have trio := htri.1
  have rowo := hrow.1
  have colo := hcol.1
  have kco := hkc.1
  have rouo := hrou.1
  have fino := hfin.1
  have kpo := hkep.1
  obtain ⟨⟨n, c, m, E, P, x⟩, K, B, s, T⟩ := a
  obtain ⟨⟨hS, hoS⟩, hik, hKp, hTp, h140, hTm, hT1⟩ := id h
  replace hS : HS σ 1 n c m E P (x : Int) := hS
  replace hoS : okZ n c m E P x := hoS
  replace hTp : HP σ 41 B s := hTp
  replace h140 : s ≤ 140 := h140
  replace hTm : HT sh σ 43 T := hTm
  replace hik : σ.1 0 2 = bi K.isSome := hik
  obtain ⟨hS0, hSG, hSB, hSF, hSL, hSx⟩ := id hS
  obtain ⟨n1, n4', c30, hv, m2, m5, E10, hvE, hPk, x16⟩ := id hoS
  have wz := hz.w
  have ww := hw'.w
  have e45 := K45 (d := d + 4) (i := z) sg hSG.1 c30 (by omega)
  rw [wz] at e45
  show End _ (fun r σ' => r = some (mI (aAhead ((n, c, m, E, P, x), K, B, s, T) z w)) ∧ _)
  unfold aAhead
  simp only
  by_cases h1 : z < 0 ∨ (c.length : Int) ≤ z
  · rw [if_neg (by omega)] at e45
    rw [if_pos (by omega)]
    simp (disch := first | assumption | omega | (simp (disch := omega) only [wN, w0, w1]; omega)) only [e126_0, e126_1, e126_4, e126_7, e126_8, e126_11, e126_14, e126_15, e126_18, e126_19, e126_20, e126_23, e126_24, e126_25, e126_26, e126_27, e126_30, e126_31, e126_34, e126_37, e126_38, e126_41, e126_42, e126_43, e126_46, e126_49, e126_50, e126_51, e126_54, e126_55, e126_58, e126_59, e126_60, e126_63, e126_66, e126_67, e126_70, e126_71, e126_74, kl_I, kl_R, kl_N, kl_L, oSm, oNn, Option.bind_some, wN, if_pos, if_neg, nS, tN, t0, w0, w1, w2, w3, w4, w5, wm1, upA_ne, upA_same, if_true, if_false, Bool.false_eq_true, q126, s0, u1, e45]
    exact End.of rfl ⟨rfl, h⟩
  · rw [if_pos (by omega)] at e45
    by_cases h2 : w < 0
    · rw [if_pos (by omega)]
      simp (disch := first | assumption | omega | (simp (disch := omega) only [wN, w0, w1]; omega)) only [e126_0, e126_1, e126_4, e126_7, e126_8, e126_11, e126_14, e126_15, e126_18, e126_19, e126_20, e126_23, e126_24, e126_25, e126_26, e126_27, e126_30, e126_31, e126_34, e126_37, e126_38, e126_41, e126_42, e126_43, e126_46, e126_49, e126_50, e126_51, e126_54, e126_55, e126_58, e126_59, e126_60, e126_63, e126_66, e126_67, e126_70, e126_71, e126_74, kl_I, kl_R, kl_N, kl_L, oSm, oNn, Option.bind_some, wN, if_pos, if_neg, nS, tN, t0, w0, w1, w2, w3, w4, w5, wm1, upA_ne, upA_same, if_true, if_false, Bool.false_eq_true, q126, s0, s11, u1, e45, ww, wz]
      exact End.of rfl ⟨rfl, h⟩
    · by_cases h3 : 2 < w
      · rw [if_pos (by omega)]
        simp (disch := first | assumption | omega | (simp (disch := omega) only [wN, w0, w1]; omega)) only [e126_0, e126_1, e126_4, e126_7, e126_8, e126_11, e126_14, e126_15, e126_18, e126_19, e126_20, e126_23, e126_24, e126_25, e126_26, e126_27, e126_30, e126_31, e126_34, e126_37, e126_38, e126_41, e126_42, e126_43, e126_46, e126_49, e126_50, e126_51, e126_54, e126_55, e126_58, e126_59, e126_60, e126_63, e126_66, e126_67, e126_70, e126_71, e126_74, kl_I, kl_R, kl_N, kl_L, oSm, oNn, Option.bind_some, wN, if_pos, if_neg, nS, tN, t0, w0, w1, w2, w3, w4, w5, wm1, upA_ne, upA_same, if_true, if_false, Bool.false_eq_true, q126, s0, s11, u1, e45, ww, wz]
        exact End.of rfl ⟨rfl, h⟩
      · rw [if_neg (by omega)]
        obtain ⟨k, rfl⟩ : ∃ k : Nat, z = (k : Int) := ⟨z.toNat, by omega⟩
        simp only [Int.toNat_natCast]
        by_cases h4 : w = 2
        · rw [if_pos h4]
          simp (disch := first | assumption | omega | (simp (disch := omega) only [wN, w0, w1]; omega)) only [e126_0, e126_1, e126_4, e126_7, e126_8, e126_11, e126_14, e126_15, e126_18, e126_19, e126_20, e126_23, e126_24, e126_25, e126_26, e126_27, e126_30, e126_31, e126_34, e126_37, e126_38, e126_41, e126_42, e126_43, e126_46, e126_49, e126_50, e126_51, e126_54, e126_55, e126_58, e126_59, e126_60, e126_63, e126_66, e126_67, e126_70, e126_71, e126_74, kl_I, kl_R, kl_N, kl_L, oSm, oNn, Option.bind_some, wN, if_pos, if_neg, nS, tN, t0, w0, w1, w2, w3, w4, w5, wm1, upA_ne, upA_same, if_true, if_false, Bool.false_eq_true, q126, s0, s11, u1, e45, ww, wz, L60 (d := d + 1) sg hSG c30 (by omega) hv (by omega) (show k < c.length by omega) (by omega)]
          exact End.of rfl ⟨rfl, h⟩
        · rw [if_neg h4]
          have e62 := fun lo => L62 (d := d) (lo := lo) (a := 69) sg hSG c30 (by omega) hv (by omega) (by omega) (by omega) k69 (by omega) (by omega) (by omega)
          have hI : ∀ F, InvX sh (upA σ.1 69 F, σ.2) ((n, c, m, E, P, x), K, B, s, T) := fun F => h.B (frI.B (frI.up (x := 69) (y := 69) (by omega))) (by omega) (by omega)
          rcases (show w = 0 ∨ w = 1 by omega) with rfl | rfl
          · have e62 : run sh (d + 4) 62 [mR 2, mI 0, mR 69] σ = _ := e62 false
            simp (disch := first | assumption | omega | (simp (disch := omega) only [wN, w0, w1]; omega)) only [e126_0, e126_1, e126_4, e126_7, e126_8, e126_11, e126_14, e126_15, e126_18, e126_19, e126_20, e126_23, e126_24, e126_25, e126_26, e126_27, e126_30, e126_31, e126_34, e126_37, e126_38, e126_41, e126_42, e126_43, e126_46, e126_49, e126_50, e126_51, e126_54, e126_55, e126_58, e126_59, e126_60, e126_63, e126_66, e126_67, e126_70, e126_71, e126_74, kl_I, kl_R, kl_N, kl_L, oSm, oNn, Option.bind_some, wN, if_pos, if_neg, nS, tN, t0, w0, w1, w2, w3, w4, w5, wm1, upA_ne, upA_same, if_true, if_false, Bool.false_eq_true, q126, s0, s11, u1, e45, ww, wz, K93n k69 l69 (show 30 ≤ 5000 by omega) (show k < 30 by omega), e62, ahM]
            exact End.of rfl ⟨rfl, hI _⟩
          · have e62 : run sh (d + 4) 62 [mR 2, mI 1, mR 69] σ = _ := e62 true
            simp (disch := first | assumption | omega | (simp (disch := omega) only [wN, w0, w1]; omega)) only [e126_0, e126_1, e126_4, e126_7, e126_8, e126_11, e126_14, e126_15, e126_18, e126_19, e126_20, e126_23, e126_24, e126_25, e126_26, e126_27, e126_30, e126_31, e126_34, e126_37, e126_38, e126_41, e126_42, e126_43, e126_46, e126_49, e126_50, e126_51, e126_54, e126_55, e126_58, e126_59, e126_60, e126_63, e126_66, e126_67, e126_70, e126_71, e126_74, kl_I, kl_R, kl_N, kl_L, oSm, oNn, Option.bind_some, wN, if_pos, if_neg, nS, tN, t0, w0, w1, w2, w3, w4, w5, wm1, upA_ne, upA_same, if_true, if_false, Bool.false_eq_true, q126, s0, s11, u1, e45, ww, wz, K93n k69 l69 (show 30 ≤ 5000 by omega) (show k < 30 by omega), e62, ahM]
            exact End.of rfl ⟨rfl, hI _⟩
theorem X162 (hX : XS sh) (h : InvX sh σ a) (hw' : i32 w) : run sh (d + 1) 162 [mR 0, mI w] σ = some (some (mI (aCount a w)), σ) := by
  obtain ⟨ho, s0, s1, s3, s4, s5, s6, s7, s8, s9, s10, s11, s12, s13, hnow, hkep, htap, k43, l43, hspg, hspb, htri, hrow, hcol, hkc, k69, l69, hrou, hfin, hsh, hR⟩ := id hX
  obtain ⟨so, u1, u2, u3, sg, sb, sl⟩ := id hnow
  have sgo := sg.1
  have sbo := sb.1
  have slo := sl.1
  have tpo := htap.1
  have spgo := hspg.1
  have spbo := hspb.1
  have trio := htri.1
  have rowo := hrow.1
  have colo := hcol.1
  have kco := hkc.1
  have rouo := hrou.1
  have fino := hfin.1
  have kpo := hkep.1
  obtain ⟨⟨n, c, m, E, P, x⟩, K, B, s, T⟩ := a
  obtain ⟨⟨hS, hoS⟩, hik, hKp, hTp, h140, hTm, hT1⟩ := id h
  replace hS : HS σ 1 n c m E P (x : Int) := hS
  replace hoS : okZ n c m E P x := hoS
  replace hTp : HP σ 41 B s := hTp
  replace h140 : s ≤ 140 := h140
  replace hTm : HT sh σ 43 T := hTm
  replace hik : σ.1 0 2 = bi K.isSome := hik
  obtain ⟨hS0, hSG, hSB, hSF, hSL, hSx⟩ := id hS
  obtain ⟨n1, n4', c30, hv, m2, m5, E10, hvE, hPk, x16⟩ := id hoS
  have ww := hw'.w
  have e1 := hSG.1
  have e2 := hTp.1
  show _ = some (some (mI (aCount ((n, c, m, E, P, x), K, B, s, T) w)), σ)
  unfold aCount
  simp only
  by_cases h0 : w = 0
  · subst h0
    simp (disch := first | assumption | omega | (simp (disch := omega) only [wN, w0, w1]; omega)) only [e162_0, e162_32, e162_33, e162_36, e162_39, e162_42, e162_43, e162_44, e162_47, e162_50, e162_51, e162_52, e162_55, e162_58, e162_59, e162_60, e162_63, e162_66, e162_67, e162_68, kl_I, kl_R, kl_N, kl_L, oSm, oNn, Option.bind_some, wN, if_pos, if_neg, nS, tN, t0, w0, w1, w2, w3, w4, w5, wm1, upA_ne, upA_same, if_true, if_false, Bool.false_eq_true, q162]
    rw [e162_1_0 rfl]
    simp (disch := first | assumption | omega | (simp (disch := omega) only [wN, w0, w1]; omega)) only [e162_0, e162_32, e162_33, e162_36, e162_39, e162_42, e162_43, e162_44, e162_47, e162_50, e162_51, e162_52, e162_55, e162_58, e162_59, e162_60, e162_63, e162_66, e162_67, e162_68, kl_I, kl_R, kl_N, kl_L, oSm, oNn, Option.bind_some, wN, if_pos, if_neg, nS, tN, t0, w0, w1, w2, w3, w4, w5, wm1, upA_ne, upA_same, if_true, if_false, Bool.false_eq_true, s0, u1, e1]
  · by_cases h1 : w = 1
    · subst h1
      simp (disch := first | assumption | omega | (simp (disch := omega) only [wN, w0, w1]; omega)) only [e162_0, e162_32, e162_33, e162_36, e162_39, e162_42, e162_43, e162_44, e162_47, e162_50, e162_51, e162_52, e162_55, e162_58, e162_59, e162_60, e162_63, e162_66, e162_67, e162_68, kl_I, kl_R, kl_N, kl_L, oSm, oNn, Option.bind_some, wN, if_pos, if_neg, nS, tN, t0, w0, w1, w2, w3, w4, w5, wm1, upA_ne, upA_same, if_true, if_false, Bool.false_eq_true, q162]
      rw [e162_1_1 rfl]
      simp (disch := first | assumption | omega | (simp (disch := omega) only [wN, w0, w1]; omega)) only [e162_0, e162_32, e162_33, e162_36, e162_39, e162_42, e162_43, e162_44, e162_47, e162_50, e162_51, e162_52, e162_55, e162_58, e162_59, e162_60, e162_63, e162_66, e162_67, e162_68, kl_I, kl_R, kl_N, kl_L, oSm, oNn, Option.bind_some, wN, if_pos, if_neg, nS, tN, t0, w0, w1, w2, w3, w4, w5, wm1, upA_ne, upA_same, if_true, if_false, Bool.false_eq_true, s0, hS0]
    · by_cases h2 : w = 2
      · subst h2
        simp (disch := first | assumption | omega | (simp (disch := omega) only [wN, w0, w1]; omega)) only [e162_0, e162_32, e162_33, e162_36, e162_39, e162_42, e162_43, e162_44, e162_47, e162_50, e162_51, e162_52, e162_55, e162_58, e162_59, e162_60, e162_63, e162_66, e162_67, e162_68, kl_I, kl_R, kl_N, kl_L, oSm, oNn, Option.bind_some, wN, if_pos, if_neg, nS, tN, t0, w0, w1, w2, w3, w4, w5, wm1, upA_ne, upA_same, if_true, if_false, Bool.false_eq_true, q162]
        rw [e162_1_2 rfl]
        simp (disch := first | assumption | omega | (simp (disch := omega) only [wN, w0, w1]; omega)) only [e162_0, e162_32, e162_33, e162_36, e162_39, e162_42, e162_43, e162_44, e162_47, e162_50, e162_51, e162_52, e162_55, e162_58, e162_59, e162_60, e162_63, e162_66, e162_67, e162_68, kl_I, kl_R, kl_N, kl_L, oSm, oNn, Option.bind_some, wN, if_pos, if_neg, nS, tN, t0, w0, w1, w2, w3, w4, w5, wm1, upA_ne, upA_same, if_true, if_false, Bool.false_eq_true, s3, e2]
      · by_cases h3 : w = 3
        · subst h3
          simp (disch := first | assumption | omega | (simp (disch := omega) only [wN, w0, w1]; omega)) only [e162_0, e162_32, e162_33, e162_36, e162_39, e162_42, e162_43, e162_44, e162_47, e162_50, e162_51, e162_52, e162_55, e162_58, e162_59, e162_60, e162_63, e162_66, e162_67, e162_68, kl_I, kl_R, kl_N, kl_L, oSm, oNn, Option.bind_some, wN, if_pos, if_neg, nS, tN, t0, w0, w1, w2, w3, w4, w5, wm1, upA_ne, upA_same, if_true, if_false, Bool.false_eq_true, q162]
          rw [e162_1_3 rfl]
          simp (disch := first | assumption | omega | (simp (disch := omega) only [wN, w0, w1]; omega)) only [e162_0, e162_32, e162_33, e162_36, e162_39, e162_42, e162_43, e162_44, e162_47, e162_50, e162_51, e162_52, e162_55, e162_58, e162_59, e162_60, e162_63, e162_66, e162_67, e162_68, kl_I, kl_R, kl_N, kl_L, oSm, oNn, Option.bind_some, wN, if_pos, if_neg, nS, tN, t0, w0, w1, w2, w3, w4, w5, wm1, upA_ne, upA_same, if_true, if_false, Bool.false_eq_true, s0, hSx]
        · simp (disch := first | assumption | omega | (simp (disch := omega) only [wN, w0, w1]; omega)) only [e162_0, e162_32, e162_33, e162_36, e162_39, e162_42, e162_43, e162_44, e162_47, e162_50, e162_51, e162_52, e162_55, e162_58, e162_59, e162_60, e162_63, e162_66, e162_67, e162_68, kl_I, kl_R, kl_N, kl_L, oSm, oNn, Option.bind_some, wN, if_pos, if_neg, nS, tN, t0, w0, w1, w2, w3, w4, w5, wm1, upA_ne, upA_same, if_true, if_false, Bool.false_eq_true, q162]
          rw [e162_1_d (by rw [ww]; omega)]
          simp (disch := first | assumption | omega | (simp (disch := omega) only [wN, w0, w1]; omega)) only [e162_0, e162_32, e162_33, e162_36, e162_39, e162_42, e162_43, e162_44, e162_47, e162_50, e162_51, e162_52, e162_55, e162_58, e162_59, e162_60, e162_63, e162_66, e162_67, e162_68, kl_I, kl_R, kl_N, kl_L, oSm, oNn, Option.bind_some, wN, if_pos, if_neg, nS, tN, t0, w0, w1, w2, w3, w4, w5, wm1, upA_ne, upA_same, if_true, if_false, Bool.false_eq_true]
theorem X129 (hX : XS sh) (h : InvX sh σ a) : End (run sh (d + 6) 129 [mR 0] σ) (fun r σ' => r = some (mI (aShorter a).1) ∧ InvX sh σ' (aShorter a).2) := by
  obtain ⟨ho, s0, s1, s3, s4, s5, s6, s7, s8, s9, s10, s11, s12, s13, hnow, hkep, htap, k43, l43, hspg, hspb, htri, hrow, hcol, hkc, k69, l69, hrou, hfin, hsh, hR⟩ := id hX
  obtain ⟨so, u1, u2, u3, sg, sb, sl⟩ := id hnow
  have sgo := sg.1
  have sbo := sb.1
  have slo := sl.1
  have tpo := htap.1
  have spgo := hspg.1
  have spbo := hspb.1
  have trio := htri.1
  have rowo := hrow.1
  have colo := hcol.1
  have kco := hkc.1
  have rouo := hrou.1
  have fino := hfin.1
  have kpo := hkep.1
  obtain ⟨⟨n, c, m, E, P, x⟩, K, B, s, T⟩ := a
  obtain ⟨⟨hS, hoS⟩, hik, hKp, hTp, h140, hTm, hT1⟩ := id h
  replace hS : HS σ 1 n c m E P (x : Int) := hS
  replace hoS : okZ n c m E P x := hoS
  replace hTp : HP σ 41 B s := hTp
  replace h140 : s ≤ 140 := h140
  replace hTm : HT sh σ 43 T := hTm
  replace hik : σ.1 0 2 = bi K.isSome := hik
  obtain ⟨hS0, hSG, hSB, hSF, hSL, hSx⟩ := id hS
  obtain ⟨n1, n4', c30, hv, m2, m5, E10, hvE, hPk, x16⟩ := id hoS
  obtain ⟨r, σ1, a1, a2, a3, a4⟩ := L68 (d := d + 1) sg hSG c30 (by omega) hv (show n ≤ 5 by omega)
  have f1 := frG.I a4
  have ok := shS_ok hv
  rw [a2] at a1
  simp (disch := first | assumption | omega | (simp (disch := omega) only [wN, w0, w1]; omega)) only [e129_0, e129_1, e129_4, e129_7, e129_10, kl_I, kl_R, kl_N, kl_L, oSm, oNn, Option.bind_some, wN, if_pos, if_neg, nS, tN, t0, w0, w1, w2, w3, w4, w5, wm1, upA_ne, upA_same, if_true, if_false, Bool.false_eq_true, q129, s0, u1, a1]
  refine End.of rfl ⟨rfl, h.now (fun b hb => f1.1 b (by omega)) ⟨⟨?_, a3, hSB.fr f1 (by omega), hSF.fr f1 (by omega), hSL.fr f1 (by omega), ?_⟩, ⟨n1, n4', ?_, ok.1, m2, m5, E10, hvE, hPk, x16⟩⟩⟩
  · rw [f1.1 1 (by omega)]; exact hS0
  · rw [f1.1 1 (by omega)]; exact hSx
  · show (shS c).2.length ≤ 30
    omega
theorem X130 (hX : XS sh) (h : InvX sh σ a) : End (run sh (d + 6) 130 [mR 0] σ) (fun r σ' => r = some (mI (aShortest a).1) ∧ InvX sh σ' (aShortest a).2) := by
  obtain ⟨ho, s0, s1, s3, s4, s5, s6, s7, s8, s9, s10, s11, s12, s13, hnow, hkep, htap, k43, l43, hspg, hspb, htri, hrow, hcol, hkc, k69, l69, hrou, hfin, hsh, hR⟩ := id hX
  obtain ⟨so, u1, u2, u3, sg, sb, sl⟩ := id hnow
  have sgo := sg.1
  have sbo := sb.1
  have slo := sl.1
  have tpo := htap.1
  have spgo := hspg.1
  have spbo := hspb.1
  have trio := htri.1
  have rowo := hrow.1
  have colo := hcol.1
  have kco := hkc.1
  have rouo := hrou.1
  have fino := hfin.1
  have kpo := hkep.1
  obtain ⟨⟨n, c, m, E, P, x⟩, K, B, s, T⟩ := a
  obtain ⟨⟨hS, hoS⟩, hik, hKp, hTp, h140, hTm, hT1⟩ := id h
  replace hS : HS σ 1 n c m E P (x : Int) := hS
  replace hoS : okZ n c m E P x := hoS
  replace hTp : HP σ 41 B s := hTp
  replace h140 : s ≤ 140 := h140
  replace hTm : HT sh σ 43 T := hTm
  replace hik : σ.1 0 2 = bi K.isSome := hik
  obtain ⟨hS0, hSG, hSB, hSF, hSL, hSx⟩ := id hS
  obtain ⟨n1, n4', c30, hv, m2, m5, E10, hvE, hPk, x16⟩ := id hoS
  obtain ⟨r, σ1, a1, a2, a3, a4⟩ := L67 (d := d) sg hSG c30 (by omega) hv (show n ≤ 5 by omega)
  have f1 := frG.I a4
  have ok := shN_ok c.length hv
  rw [a2] at a1
  simp (disch := first | assumption | omega | (simp (disch := omega) only [wN, w0, w1]; omega)) only [e130_0, e130_1, e130_4, e130_7, e130_10, kl_I, kl_R, kl_N, kl_L, oSm, oNn, Option.bind_some, wN, if_pos, if_neg, nS, tN, t0, w0, w1, w2, w3, w4, w5, wm1, upA_ne, upA_same, if_true, if_false, Bool.false_eq_true, q130, s0, u1, a1]
  refine End.of rfl ⟨rfl, h.now (fun b hb => f1.1 b (by omega)) ⟨⟨?_, a3, hSB.fr f1 (by omega), hSF.fr f1 (by omega), hSL.fr f1 (by omega), ?_⟩, ⟨n1, n4', ?_, ok.1, m2, m5, E10, hvE, hPk, x16⟩⟩⟩
  · rw [f1.1 1 (by omega)]; exact hS0
  · rw [f1.1 1 (by omega)]; exact hSx
  · show (shN c.length c).length ≤ 30
    omega
def aUrgent (a : AX) (w : Int) : Int := if w = 0 ∨ w = 1 then (bts (ugB (decide (w = 1)) a.2.2.2.2 a.1.2.1) a.1.2.1.length : Int) else -1
end XD
