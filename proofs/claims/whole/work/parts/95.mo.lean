/-! ===== the reference: amplitude, chance, spread ===== -/
section MO
variable {sh : Shp} {d p s t g n : Nat} {σ : Mem} {W : Vc} {z w v : Int} {a : AX}
theorem M206 (hM : MS sh) (h : InvM sh σ a) (hz : i32 z) (hw : i32 w) (hv' : i32 v) : End (run sh (d + 3) 206 [mR 124, mI z, mI w, mI v] σ) (fun r σ' => r = some (mL (aAmp a z w v)) ∧ InvM sh σ' a) := by
  have hI := h
  have mo := hM.1
  have m160 := hM.2.1
  obtain ⟨ra29, rk29, rl29⟩ := ms29 hM
  obtain ⟨⟨n, c, m, E, P, x⟩, K, B, s, T⟩ := a
  obtain ⟨⟨hG, hN, hMp, hEl, hx0, hE, hP, hoS⟩, hik, hKp, hTp, h140, hTm⟩ := id h
  replace hG : HGm σ 0 c := hG
  replace hN : σ.1 124 8 = (n : Int) := hN
  replace hMp : σ.1 124 9 = (m : Int) := hMp
  replace hEl : σ.1 124 10 = (E.length : Int) := hEl
  replace hx0 : σ.1 124 11 = (x : Int) := hx0
  replace hE : HEm σ 127 128 E := hE
  replace hP : ∀ y, y < n → σ.1 129 y = (P y : Int) := hP
  replace hoS : okZ n c m E P x := hoS
  replace hTp : HPm σ B s := hTp
  replace h140 : s ≤ 140 := h140
  replace hTm : HT sh σ 157 T := hTm
  replace hik : σ.1 124 16 = bi K.isSome := hik
  obtain ⟨n1, n4', c30, hv, m2, m5, E10, hvE, hPk, x16⟩ := id hoS
  have wv := hv'.w
  have h16 : 2 ^ n ≤ 2 ^ 4 := Nat.pow_le_pow_right (by omega) n4'
  have ez := M205 (sh := sh) (d := d + 1) hN hM n4' hz
  have ew := M205 (sh := sh) (d := d + 1) hN hM n4' hw
  have ev4 := E164 (sh := sh) (d := d + 2) (σ := σ) (z := v) (w := 0) (v := 4) hv' ⟨by omega, by omega⟩ ⟨by omega, by omega⟩
  show End _ (fun r σ' => r = some (mL (aAmp ((n, c, m, E, P, x), K, B, s, T) z w v)) ∧ _)
  unfold aAmp
  simp only
  by_cases h1 : z < 0 ∨ ((2 ^ n : Nat) : Int) ≤ z
  · rw [if_pos h1] at ez
    rw [if_pos (by omega)]
    simp (disch := first | assumption | omega | (simp (disch := omega) only [wN, w0, w1]; omega)) only [e206_0, e206_1, e206_2, e206_5, e206_8, e206_9, e206_10, e206_13, e206_16, e206_17, e206_18, e206_19, e206_22, e206_25, e206_28, e206_29, e206_30, e206_31, e206_32, e206_35, e206_36, e206_37, e206_40, e206_41, e206_44, e206_45, e206_48, e206_49, e206_52, e206_53, e206_54, e206_55, e206_56, e206_57, e206_58, kl_I, kl_R, kl_N, kl_L, oSm, oNn, Option.bind_some, wN, if_pos, if_neg, nS, tN, t0, w0, w1, w2, w3, w4, w5, wm1, upA_ne, upA_same, if_true, if_false, Bool.false_eq_true, q206, ez]
    exact End.of rfl ⟨rfl, hI⟩
  · rw [if_neg h1] at ez
    by_cases h2 : w < 0 ∨ ((2 ^ n : Nat) : Int) ≤ w
    · rw [if_pos h2] at ew
      rw [if_pos (by omega)]
      simp (disch := first | assumption | omega | (simp (disch := omega) only [wN, w0, w1]; omega)) only [e206_0, e206_1, e206_2, e206_5, e206_8, e206_9, e206_10, e206_13, e206_16, e206_17, e206_18, e206_19, e206_22, e206_25, e206_28, e206_29, e206_30, e206_31, e206_32, e206_35, e206_36, e206_37, e206_40, e206_41, e206_44, e206_45, e206_48, e206_49, e206_52, e206_53, e206_54, e206_55, e206_56, e206_57, e206_58, kl_I, kl_R, kl_N, kl_L, oSm, oNn, Option.bind_some, wN, if_pos, if_neg, nS, tN, t0, w0, w1, w2, w3, w4, w5, wm1, upA_ne, upA_same, if_true, if_false, Bool.false_eq_true, q206, ez, ew]
      exact End.of rfl ⟨rfl, hI⟩
    · rw [if_neg h2] at ew
      by_cases h3 : v < 0 ∨ 4 < v
      · rw [if_pos (by omega)]
        rw [if_neg (by omega)] at ev4
        simp (disch := first | assumption | omega | (simp (disch := omega) only [wN, w0, w1]; omega)) only [e206_0, e206_1, e206_2, e206_5, e206_8, e206_9, e206_10, e206_13, e206_16, e206_17, e206_18, e206_19, e206_22, e206_25, e206_28, e206_29, e206_30, e206_31, e206_32, e206_35, e206_36, e206_37, e206_40, e206_41, e206_44, e206_45, e206_48, e206_49, e206_52, e206_53, e206_54, e206_55, e206_56, e206_57, e206_58, kl_I, kl_R, kl_N, kl_L, oSm, oNn, Option.bind_some, wN, if_pos, if_neg, nS, tN, t0, w0, w1, w2, w3, w4, w5, wm1, upA_ne, upA_same, if_true, if_false, Bool.false_eq_true, q206, ez, ew, ev4]
        exact End.of rfl ⟨rfl, hI⟩
      · rw [if_neg (by omega)]
        rw [if_pos (by omega)] at ev4
        obtain ⟨zz, rfl⟩ : ∃ k : Nat, z = (k : Int) := ⟨z.toNat, by omega⟩
        obtain ⟨t, rfl⟩ : ∃ k : Nat, w = (k : Int) := ⟨w.toNat, by omega⟩
        obtain ⟨r, σ1, a1, rfl, a3, a4, a5⟩ := M204 (d := d) (s := zz) (z := 0) hM hG (by omega) c30 hv hN n4' (by omega) rfl
        have hI1 := hI.W a5 (by omega) (by omega) (by omega)
        simp only [Int.toNat_natCast]
        by_cases h5 : v = 4
        · rw [if_pos h5]
          have hlt := amV_le c zz
          have wpw : wi ((amV c zz).2 : Int) = ((amV c zz).2 : Int) := wN (by omega)
          simp (disch := first | assumption | omega | (simp (disch := omega) only [wN, w0, w1]; omega)) only [e206_0, e206_1, e206_2, e206_5, e206_8, e206_9, e206_10, e206_13, e206_16, e206_17, e206_18, e206_19, e206_22, e206_25, e206_28, e206_29, e206_30, e206_31, e206_32, e206_35, e206_36, e206_37, e206_40, e206_41, e206_44, e206_45, e206_48, e206_49, e206_52, e206_53, e206_54, e206_55, e206_56, e206_57, e206_58, kl_I, kl_R, kl_N, kl_L, oSm, oNn, Option.bind_some, wN, if_pos, if_neg, nS, tN, t0, w0, w1, w2, w3, w4, w5, wm1, upA_ne, upA_same, if_true, if_false, Bool.false_eq_true, q206, ez, ew, ev4, wv, ra29, rl29, a1, a4, wpw]
          exact End.of rfl ⟨rfl, hI1⟩
        · rw [if_neg h5]
          obtain ⟨q, rfl⟩ : ∃ k : Nat, v = (k : Int) := ⟨v.toNat, by omega⟩
          have g1 := a3.at (show t < 16 by omega) (show q < 4 by omega)
          simp only [Int.toNat_natCast]
          simp (disch := first | assumption | omega | (simp (disch := omega) only [wN, w0, w1]; omega)) only [e206_0, e206_1, e206_2, e206_5, e206_8, e206_9, e206_10, e206_13, e206_16, e206_17, e206_18, e206_19, e206_22, e206_25, e206_28, e206_29, e206_30, e206_31, e206_32, e206_35, e206_36, e206_37, e206_40, e206_41, e206_44, e206_45, e206_48, e206_49, e206_52, e206_53, e206_54, e206_55, e206_56, e206_57, e206_58, kl_I, kl_R, kl_N, kl_L, oSm, oNn, Option.bind_some, wN, if_pos, if_neg, nS, tN, t0, w0, w1, w2, w3, w4, w5, wm1, upA_ne, upA_same, if_true, if_false, Bool.false_eq_true, q206, ez, ew, ev4, wv, ra29, rl29, a1, n4, ← Int.natCast_add, g1]
          exact End.of rfl ⟨rfl, hI1⟩
theorem M207 (hM : MS sh) (h : InvM sh σ a) (hz : i32 z) (hw : i32 w) (hv' : i32 v) : End (run sh (d + 3) 207 [mR 124, mI z, mI w, mI v] σ) (fun r σ' => r = some (mL (aCha a z w v)) ∧ InvM sh σ' a) := by
  have hI := h
  have mo := hM.1
  have m160 := hM.2.1
  obtain ⟨ra29, rk29, rl29⟩ := ms29 hM
  obtain ⟨⟨n, c, m, E, P, x⟩, K, B, s, T⟩ := a
  obtain ⟨⟨hG, hN, hMp, hEl, hx0, hE, hP, hoS⟩, hik, hKp, hTp, h140, hTm⟩ := id h
  replace hG : HGm σ 0 c := hG
  replace hN : σ.1 124 8 = (n : Int) := hN
  replace hMp : σ.1 124 9 = (m : Int) := hMp
  replace hEl : σ.1 124 10 = (E.length : Int) := hEl
  replace hx0 : σ.1 124 11 = (x : Int) := hx0
  replace hE : HEm σ 127 128 E := hE
  replace hP : ∀ y, y < n → σ.1 129 y = (P y : Int) := hP
  replace hoS : okZ n c m E P x := hoS
  replace hTp : HPm σ B s := hTp
  replace h140 : s ≤ 140 := h140
  replace hTm : HT sh σ 157 T := hTm
  replace hik : σ.1 124 16 = bi K.isSome := hik
  obtain ⟨n1, n4', c30, hv, m2, m5, E10, hvE, hPk, x16⟩ := id hoS
  have wv := hv'.w
  have h16 : 2 ^ n ≤ 2 ^ 4 := Nat.pow_le_pow_right (by omega) n4'
  have ez := M205 (sh := sh) (d := d + 1) hN hM n4' hz
  have ew := M205 (sh := sh) (d := d + 1) hN hM n4' hw
  have ev4 := E164 (sh := sh) (d := d + 2) (σ := σ) (z := v) (w := 0) (v := 2) hv' ⟨by omega, by omega⟩ ⟨by omega, by omega⟩
  show End _ (fun r σ' => r = some (mL (aCha ((n, c, m, E, P, x), K, B, s, T) z w v)) ∧ _)
  unfold aCha
  simp only
  by_cases h1 : z < 0 ∨ ((2 ^ n : Nat) : Int) ≤ z
  · rw [if_pos h1] at ez
    rw [if_pos (by omega)]
    simp (disch := first | assumption | omega | (simp (disch := omega) only [wN, w0, w1]; omega)) only [e207_0, e207_1, e207_2, e207_5, e207_8, e207_9, e207_10, e207_13, e207_16, e207_17, e207_18, e207_19, e207_22, e207_25, e207_28, e207_29, e207_30, e207_31, e207_32, e207_35, e207_36, e207_39, e207_40, e207_41, e207_42, e207_43, e207_45, e207_46, e207_49, e207_50, e207_51, e207_52, e207_53, e207_54, e207_55, e207_57, e207_58, e207_61, e207_62, e207_63, e207_64, e207_65, e207_66, e207_67, e207_69, e207_70, e207_73, e207_74, e207_75, e207_76, e207_77, e207_78, e207_79, e207_81, e207_82, e207_85, e207_87, e207_89, e207_90, e207_92, e207_94, e207_95, e207_96, e207_98, e207_100, e207_101, e207_102, e207_104, e207_106, e207_107, e207_108, e207_111, e207_112, e207_113, e207_116, e207_118, e207_120, e207_121, e207_123, e207_125, e207_126, e207_127, e207_129, e207_131, e207_132, e207_133, e207_135, e207_137, e207_138, e207_139, e207_142, e207_143, e207_146, e207_147, kl_I, kl_R, kl_N, kl_L, oSm, oNn, Option.bind_some, wN, if_pos, if_neg, nS, tN, t0, w0, w1, w2, w3, w4, w5, wm1, upA_ne, upA_same, if_true, if_false, Bool.false_eq_true, q207, ez]
    exact End.of rfl ⟨rfl, hI⟩
  · rw [if_neg h1] at ez
    by_cases h2 : w < 0 ∨ ((2 ^ n : Nat) : Int) ≤ w
    · rw [if_pos h2] at ew
      rw [if_pos (by omega)]
      simp (disch := first | assumption | omega | (simp (disch := omega) only [wN, w0, w1]; omega)) only [e207_0, e207_1, e207_2, e207_5, e207_8, e207_9, e207_10, e207_13, e207_16, e207_17, e207_18, e207_19, e207_22, e207_25, e207_28, e207_29, e207_30, e207_31, e207_32, e207_35, e207_36, e207_39, e207_40, e207_41, e207_42, e207_43, e207_45, e207_46, e207_49, e207_50, e207_51, e207_52, e207_53, e207_54, e207_55, e207_57, e207_58, e207_61, e207_62, e207_63, e207_64, e207_65, e207_66, e207_67, e207_69, e207_70, e207_73, e207_74, e207_75, e207_76, e207_77, e207_78, e207_79, e207_81, e207_82, e207_85, e207_87, e207_89, e207_90, e207_92, e207_94, e207_95, e207_96, e207_98, e207_100, e207_101, e207_102, e207_104, e207_106, e207_107, e207_108, e207_111, e207_112, e207_113, e207_116, e207_118, e207_120, e207_121, e207_123, e207_125, e207_126, e207_127, e207_129, e207_131, e207_132, e207_133, e207_135, e207_137, e207_138, e207_139, e207_142, e207_143, e207_146, e207_147, kl_I, kl_R, kl_N, kl_L, oSm, oNn, Option.bind_some, wN, if_pos, if_neg, nS, tN, t0, w0, w1, w2, w3, w4, w5, wm1, upA_ne, upA_same, if_true, if_false, Bool.false_eq_true, q207, ez, ew]
      exact End.of rfl ⟨rfl, hI⟩
    · rw [if_neg h2] at ew
      by_cases h3 : v < 0 ∨ 2 < v
      · rw [if_pos (by omega)]
        rw [if_neg (by omega)] at ev4
        simp (disch := first | assumption | omega | (simp (disch := omega) only [wN, w0, w1]; omega)) only [e207_0, e207_1, e207_2, e207_5, e207_8, e207_9, e207_10, e207_13, e207_16, e207_17, e207_18, e207_19, e207_22, e207_25, e207_28, e207_29, e207_30, e207_31, e207_32, e207_35, e207_36, e207_39, e207_40, e207_41, e207_42, e207_43, e207_45, e207_46, e207_49, e207_50, e207_51, e207_52, e207_53, e207_54, e207_55, e207_57, e207_58, e207_61, e207_62, e207_63, e207_64, e207_65, e207_66, e207_67, e207_69, e207_70, e207_73, e207_74, e207_75, e207_76, e207_77, e207_78, e207_79, e207_81, e207_82, e207_85, e207_87, e207_89, e207_90, e207_92, e207_94, e207_95, e207_96, e207_98, e207_100, e207_101, e207_102, e207_104, e207_106, e207_107, e207_108, e207_111, e207_112, e207_113, e207_116, e207_118, e207_120, e207_121, e207_123, e207_125, e207_126, e207_127, e207_129, e207_131, e207_132, e207_133, e207_135, e207_137, e207_138, e207_139, e207_142, e207_143, e207_146, e207_147, kl_I, kl_R, kl_N, kl_L, oSm, oNn, Option.bind_some, wN, if_pos, if_neg, nS, tN, t0, w0, w1, w2, w3, w4, w5, wm1, upA_ne, upA_same, if_true, if_false, Bool.false_eq_true, q207, ez, ew, ev4]
        exact End.of rfl ⟨rfl, hI⟩
      · rw [if_neg (by omega)]
        rw [if_pos (by omega)] at ev4
        obtain ⟨zz, rfl⟩ : ∃ k : Nat, z = (k : Int) := ⟨z.toNat, by omega⟩
        obtain ⟨t, rfl⟩ : ∃ k : Nat, w = (k : Int) := ⟨w.toNat, by omega⟩
        obtain ⟨r, σ1, a1, rfl, a3, a4, a5⟩ := M204 (d := d) (s := zz) (z := 0) hM hG (by omega) c30 hv hN n4' (by omega) rfl
        have hI1 := hI.W a5 (by omega) (by omega) (by omega)
        obtain ⟨g0, g1, g2, g3⟩ := a3 t (by omega)
        simp only [Int.toNat_natCast]
        by_cases h5 : v = 2
        · rw [if_pos h5]
          have hlt := amV_le c zz
          have wpw : wi ((amV c zz).2 : Int) = ((amV c zz).2 : Int) := wN (by omega)
          simp (disch := first | assumption | omega | (simp (disch := omega) only [wN, w0, w1]; omega)) only [e207_0, e207_1, e207_2, e207_5, e207_8, e207_9, e207_10, e207_13, e207_16, e207_17, e207_18, e207_19, e207_22, e207_25, e207_28, e207_29, e207_30, e207_31, e207_32, e207_35, e207_36, e207_39, e207_40, e207_41, e207_42, e207_43, e207_45, e207_46, e207_49, e207_50, e207_51, e207_52, e207_53, e207_54, e207_55, e207_57, e207_58, e207_61, e207_62, e207_63, e207_64, e207_65, e207_66, e207_67, e207_69, e207_70, e207_73, e207_74, e207_75, e207_76, e207_77, e207_78, e207_79, e207_81, e207_82, e207_85, e207_87, e207_89, e207_90, e207_92, e207_94, e207_95, e207_96, e207_98, e207_100, e207_101, e207_102, e207_104, e207_106, e207_107, e207_108, e207_111, e207_112, e207_113, e207_116, e207_118, e207_120, e207_121, e207_123, e207_125, e207_126, e207_127, e207_129, e207_131, e207_132, e207_133, e207_135, e207_137, e207_138, e207_139, e207_142, e207_143, e207_146, e207_147, kl_I, kl_R, kl_N, kl_L, oSm, oNn, Option.bind_some, wN, if_pos, if_neg, nS, tN, t0, w0, w1, w2, w3, w4, w5, wm1, upA_ne, upA_same, if_true, if_false, Bool.false_eq_true, q207, ez, ew, ev4, wv, ra29, rl29, a1, a4, wpw, n4, nS2, nS3, g0, g1, g2, g3]
          exact End.of rfl ⟨rfl, hI1⟩
        · rw [if_neg h5]
          rcases (show v = 0 ∨ v = 1 by omega) with rfl | rfl
          · simp (disch := first | assumption | omega | (simp (disch := omega) only [wN, w0, w1]; omega)) only [e207_0, e207_1, e207_2, e207_5, e207_8, e207_9, e207_10, e207_13, e207_16, e207_17, e207_18, e207_19, e207_22, e207_25, e207_28, e207_29, e207_30, e207_31, e207_32, e207_35, e207_36, e207_39, e207_40, e207_41, e207_42, e207_43, e207_45, e207_46, e207_49, e207_50, e207_51, e207_52, e207_53, e207_54, e207_55, e207_57, e207_58, e207_61, e207_62, e207_63, e207_64, e207_65, e207_66, e207_67, e207_69, e207_70, e207_73, e207_74, e207_75, e207_76, e207_77, e207_78, e207_79, e207_81, e207_82, e207_85, e207_87, e207_89, e207_90, e207_92, e207_94, e207_95, e207_96, e207_98, e207_100, e207_101, e207_102, e207_104, e207_106, e207_107, e207_108, e207_111, e207_112, e207_113, e207_116, e207_118, e207_120, e207_121, e207_123, e207_125, e207_126, e207_127, e207_129, e207_131, e207_132, e207_133, e207_135, e207_137, e207_138, e207_139, e207_142, e207_143, e207_146, e207_147, kl_I, kl_R, kl_N, kl_L, oSm, oNn, Option.bind_some, wN, if_pos, if_neg, nS, tN, t0, w0, w1, w2, w3, w4, w5, wm1, upA_ne, upA_same, if_true, if_false, Bool.false_eq_true, q207, ez, ew, ev4, wv, ra29, rl29, a1, n4, nS2, nS3, g0, g1, g2, g3]
            exact End.of rfl ⟨rfl, hI1⟩
          · simp (disch := first | assumption | omega | (simp (disch := omega) only [wN, w0, w1]; omega)) only [e207_0, e207_1, e207_2, e207_5, e207_8, e207_9, e207_10, e207_13, e207_16, e207_17, e207_18, e207_19, e207_22, e207_25, e207_28, e207_29, e207_30, e207_31, e207_32, e207_35, e207_36, e207_39, e207_40, e207_41, e207_42, e207_43, e207_45, e207_46, e207_49, e207_50, e207_51, e207_52, e207_53, e207_54, e207_55, e207_57, e207_58, e207_61, e207_62, e207_63, e207_64, e207_65, e207_66, e207_67, e207_69, e207_70, e207_73, e207_74, e207_75, e207_76, e207_77, e207_78, e207_79, e207_81, e207_82, e207_85, e207_87, e207_89, e207_90, e207_92, e207_94, e207_95, e207_96, e207_98, e207_100, e207_101, e207_102, e207_104, e207_106, e207_107, e207_108, e207_111, e207_112, e207_113, e207_116, e207_118, e207_120, e207_121, e207_123, e207_125, e207_126, e207_127, e207_129, e207_131, e207_132, e207_133, e207_135, e207_137, e207_138, e207_139, e207_142, e207_143, e207_146, e207_147, kl_I, kl_R, kl_N, kl_L, oSm, oNn, Option.bind_some, wN, if_pos, if_neg, nS, tN, t0, w0, w1, w2, w3, w4, w5, wm1, upA_ne, upA_same, if_true, if_false, Bool.false_eq_true, q207, ez, ew, ev4, wv, ra29, rl29, a1, n4, nS2, nS3, g0, g1, g2, g3]
            exact End.of rfl ⟨rfl, hI1⟩
theorem M208 (hM : MS sh) (hV : HV σ 137 W) (hb : bdW 1073741824 W) (ht : t < 16) : run sh d 208 [mR 124, mI (t : Int)] σ = some (some (mI (if W t = qz then 0 else 1)), σ) := by
  have mo := hM.1
  have m160 := hM.2.1
  obtain ⟨ra29, rk29, rl29⟩ := ms29 hM
  obtain ⟨g0, g1, g2, g3⟩ := hV t ht
  have bb := hb t
  simp only [bdQ] at bb
  have l0 := lcmp_w (x := (W t).1) (y := 0) (by omega) (by omega)
  have l1 := lcmp_w (x := (W t).2.1) (y := 0) (by omega) (by omega)
  have l2 := lcmp_w (x := (W t).2.2.1) (y := 0) (by omega) (by omega)
  have l3 := lcmp_w (x := (W t).2.2.2) (y := 0) (by omega) (by omega)
  have c0 : lcmp' 0 0 = 0 := by decide
  by_cases h0 : (W t).1 = 0
  · by_cases h1 : (W t).2.1 = 0
    · by_cases h2 : (W t).2.2.1 = 0
      · by_cases h3 : (W t).2.2.2 = 0
        · have e : W t = qz := q4_ext h0 h1 h2 h3
          clear l0 l1 l2 l3
          rw [if_pos e]
          simp (disch := first | assumption | omega | (simp (disch := omega) only [wN, w0, w1]; omega)) only [e208_0, e208_1, e208_4, e208_5, e208_6, e208_7, e208_8, e208_9, e208_10, e208_13, e208_14, e208_17, e208_18, e208_19, e208_20, e208_21, e208_22, e208_23, e208_24, e208_25, e208_28, e208_29, e208_32, e208_33, e208_34, e208_35, e208_36, e208_37, e208_38, e208_39, e208_40, e208_43, e208_44, e208_47, e208_48, e208_49, e208_50, e208_51, e208_52, e208_53, e208_54, e208_55, e208_58, e208_59, e208_62, e208_63, kl_I, kl_R, kl_N, kl_L, oSm, oNn, Option.bind_some, wN, if_pos, if_neg, nS, tN, t0, w0, w1, w2, w3, w4, w5, wm1, upA_ne, upA_same, if_true, if_false, Bool.false_eq_true, q208, ra29, rl29, n4, nS2, nS3, g0, g1, g2, g3, h0, h1, h2, h3, c0]
        · have e : ¬ W t = qz := fun z => h3 (by rw [z]; rfl)
          have n3 : ¬ wi (lcmp' (W t).2.2.2 0) = 0 := fun z => h3 (l3.mp z)
          clear l0 l1 l2 l3
          rw [if_neg e]
          simp (disch := first | assumption | omega | (simp (disch := omega) only [wN, w0, w1]; omega)) only [e208_0, e208_1, e208_4, e208_5, e208_6, e208_7, e208_8, e208_9, e208_10, e208_13, e208_14, e208_17, e208_18, e208_19, e208_20, e208_21, e208_22, e208_23, e208_24, e208_25, e208_28, e208_29, e208_32, e208_33, e208_34, e208_35, e208_36, e208_37, e208_38, e208_39, e208_40, e208_43, e208_44, e208_47, e208_48, e208_49, e208_50, e208_51, e208_52, e208_53, e208_54, e208_55, e208_58, e208_59, e208_62, e208_63, kl_I, kl_R, kl_N, kl_L, oSm, oNn, Option.bind_some, wN, if_pos, if_neg, nS, tN, t0, w0, w1, w2, w3, w4, w5, wm1, upA_ne, upA_same, if_true, if_false, Bool.false_eq_true, q208, ra29, rl29, n4, nS2, nS3, g0, g1, g2, g3, h0, h1, h2, c0]
      · have e : ¬ W t = qz := fun z => h2 (by rw [z]; rfl)
        have n3 : ¬ wi (lcmp' (W t).2.2.1 0) = 0 := fun z => h2 (l2.mp z)
        clear l0 l1 l2 l3
        rw [if_neg e]
        simp (disch := first | assumption | omega | (simp (disch := omega) only [wN, w0, w1]; omega)) only [e208_0, e208_1, e208_4, e208_5, e208_6, e208_7, e208_8, e208_9, e208_10, e208_13, e208_14, e208_17, e208_18, e208_19, e208_20, e208_21, e208_22, e208_23, e208_24, e208_25, e208_28, e208_29, e208_32, e208_33, e208_34, e208_35, e208_36, e208_37, e208_38, e208_39, e208_40, e208_43, e208_44, e208_47, e208_48, e208_49, e208_50, e208_51, e208_52, e208_53, e208_54, e208_55, e208_58, e208_59, e208_62, e208_63, kl_I, kl_R, kl_N, kl_L, oSm, oNn, Option.bind_some, wN, if_pos, if_neg, nS, tN, t0, w0, w1, w2, w3, w4, w5, wm1, upA_ne, upA_same, if_true, if_false, Bool.false_eq_true, q208, ra29, rl29, n4, nS2, nS3, g0, g1, g2, g3, h0, h1, c0]
    · have e : ¬ W t = qz := fun z => h1 (by rw [z]; rfl)
      have n3 : ¬ wi (lcmp' (W t).2.1 0) = 0 := fun z => h1 (l1.mp z)
      clear l0 l1 l2 l3
      rw [if_neg e]
      simp (disch := first | assumption | omega | (simp (disch := omega) only [wN, w0, w1]; omega)) only [e208_0, e208_1, e208_4, e208_5, e208_6, e208_7, e208_8, e208_9, e208_10, e208_13, e208_14, e208_17, e208_18, e208_19, e208_20, e208_21, e208_22, e208_23, e208_24, e208_25, e208_28, e208_29, e208_32, e208_33, e208_34, e208_35, e208_36, e208_37, e208_38, e208_39, e208_40, e208_43, e208_44, e208_47, e208_48, e208_49, e208_50, e208_51, e208_52, e208_53, e208_54, e208_55, e208_58, e208_59, e208_62, e208_63, kl_I, kl_R, kl_N, kl_L, oSm, oNn, Option.bind_some, wN, if_pos, if_neg, nS, tN, t0, w0, w1, w2, w3, w4, w5, wm1, upA_ne, upA_same, if_true, if_false, Bool.false_eq_true, q208, ra29, rl29, n4, nS2, nS3, g0, g1, g2, g3, h0, c0]
  · have e : ¬ W t = qz := fun z => h0 (by rw [z]; rfl)
    have n3 : ¬ wi (lcmp' (W t).1 0) = 0 := fun z => h0 (l0.mp z)
    clear l0 l1 l2 l3
    rw [if_neg e]
    simp (disch := first | assumption | omega | (simp (disch := omega) only [wN, w0, w1]; omega)) only [e208_0, e208_1, e208_4, e208_5, e208_6, e208_7, e208_8, e208_9, e208_10, e208_13, e208_14, e208_17, e208_18, e208_19, e208_20, e208_21, e208_22, e208_23, e208_24, e208_25, e208_28, e208_29, e208_32, e208_33, e208_34, e208_35, e208_36, e208_37, e208_38, e208_39, e208_40, e208_43, e208_44, e208_47, e208_48, e208_49, e208_50, e208_51, e208_52, e208_53, e208_54, e208_55, e208_58, e208_59, e208_62, e208_63, kl_I, kl_R, kl_N, kl_L, oSm, oNn, Option.bind_some, wN, if_pos, if_neg, nS, tN, t0, w0, w1, w2, w3, w4, w5, wm1, upA_ne, upA_same, if_true, if_false, Bool.false_eq_true, q208, ra29, rl29, n4, nS2, nS3, g0, g1, g2, g3, c0]
theorem cnt_ext {f : Nat → Bool} {N : Nat} : ∀ k, (∀ i, N ≤ i → f i = false) → cnt f (N + k) = cnt f N
  | 0, _ => rfl
  | k + 1, h => by
    have e : f (N.add k) = false := h (N + k) (by omega)
    show cnt f (N + k) + _ = _
    rw [cnt_ext k h, e]
    simp
theorem M209 (hM : MS sh) (h : InvM sh σ a) (hz : i32 z) : End (run sh (d + 3) 209 [mR 124, mI z] σ) (fun r σ' => r = some (mI (aSpr a z)) ∧ InvM sh σ' a) := by
  have hI := h
  have mo := hM.1
  have m160 := hM.2.1
  obtain ⟨ra29, rk29, rl29⟩ := ms29 hM
  obtain ⟨⟨n, c, m, E, P, x⟩, K, B, s, T⟩ := a
  obtain ⟨⟨hG, hN, hMp, hEl, hx0, hE, hP, hoS⟩, hik, hKp, hTp, h140, hTm⟩ := id h
  replace hG : HGm σ 0 c := hG
  replace hN : σ.1 124 8 = (n : Int) := hN
  replace hMp : σ.1 124 9 = (m : Int) := hMp
  replace hEl : σ.1 124 10 = (E.length : Int) := hEl
  replace hx0 : σ.1 124 11 = (x : Int) := hx0
  replace hE : HEm σ 127 128 E := hE
  replace hP : ∀ y, y < n → σ.1 129 y = (P y : Int) := hP
  replace hoS : okZ n c m E P x := hoS
  replace hTp : HPm σ B s := hTp
  replace h140 : s ≤ 140 := h140
  replace hTm : HT sh σ 157 T := hTm
  replace hik : σ.1 124 16 = bi K.isSome := hik
  obtain ⟨n1, n4', c30, hv, m2, m5, E10, hvE, hPk, x16⟩ := id hoS
  have h16 : 2 ^ n ≤ 2 ^ 4 := Nat.pow_le_pow_right (by omega) n4'
  have ez := M205 (sh := sh) (d := d + 1) hN hM n4' hz
  show End _ (fun r σ' => r = some (mI (aSpr ((n, c, m, E, P, x), K, B, s, T) z)) ∧ _)
  unfold aSpr
  simp only
  by_cases h1 : z < 0 ∨ ((2 ^ n : Nat) : Int) ≤ z
  · rw [if_pos h1] at ez
    rw [if_pos h1]
    simp (disch := first | assumption | omega | (simp (disch := omega) only [wN, w0, w1]; omega)) only [e209_0, e209_1, e209_2, e209_5, e209_8, e209_9, e209_10, e209_11, e209_12, e209_13, e209_16, e209_17, e209_18, e209_19, e209_20, e209_21, e209_23, e209_26, e209_27, e209_28, e209_31, e209_34, e209_35, e209_36, e209_37, e209_38, e209_41, e209_44, e209_45, kl_I, kl_R, kl_N, kl_L, oSm, oNn, Option.bind_some, wN, if_pos, if_neg, nS, tN, t0, w0, w1, w2, w3, w4, w5, wm1, upA_ne, upA_same, if_true, if_false, Bool.false_eq_true, q209, ez]
    exact End.of rfl ⟨rfl, hI⟩
  · rw [if_neg h1] at ez
    rw [if_neg h1]
    obtain ⟨zz, rfl⟩ : ∃ k : Nat, z = (k : Int) := ⟨z.toNat, by omega⟩
    obtain ⟨r, σ1, a1, rfl, a3, a4, a5⟩ := M204 (d := d) (s := zz) (z := 0) hM hG (by omega) c30 hv hN n4' (by omega) rfl
    have hI1 := hI.W a5 (by omega) (by omega) (by omega)
    have hb := amV_bd (s := zz) c30
    have hsp := amV_sp hv (show zz < 2 ^ n by omega)
    simp only [Int.toNat_natCast]
    have w16 : wi 16 = 16 := rfl
    have e16 : cnt (fun s => decide ((amV c zz).1 s ≠ qz)) 16 = cnt (fun s => decide ((amV c zz).1 s ≠ qz)) (2 ^ n) := by
      have := cnt_ext (f := fun s => decide ((amV c zz).1 s ≠ qz)) (N := 2 ^ n) (16 - 2 ^ n) (fun i hi => by simp [hsp i hi])
      rw [show 2 ^ n + (16 - 2 ^ n) = 16 by omega] at this
      exact this
    have F := for_up (fun i => ev sh (d + 3) 209 20 [some (mR (124)), some (mI ((zz : Nat) : Int)), some (mI ((cnt (fun s => decide ((amV c zz).1 s ≠ qz)) i : Nat) : Int)), some (mI ((i : Nat) : Int))] [] (σ1)) (16) (fun i hi => by
      show ev sh (d + 3) 209 20 [some (mR (124)), some (mI ((zz : Nat) : Int)), some (mI ((cnt (fun s => decide ((amV c zz).1 s ≠ qz)) i : Nat) : Int)), some (mI ((i : Nat) : Int))] [] (σ1) = ev sh (d + 3) 209 20 [some (mR (124)), some (mI ((zz : Nat) : Int)), some (mI ((cnt (fun s => decide ((amV c zz).1 s ≠ qz)) (i + 1) : Nat) : Int)), some (mI (((i + 1) : Nat) : Int))] [] (σ1)
      have e8 := M208 (d := d + 2) hM a3 hb hi
      rw [e209_20]
      by_cases e : (amV c zz).1 i = qz
      · rw [if_pos e] at e8
        simp (disch := first | assumption | omega | (simp (disch := omega) only [wN, w0, w1]; omega)) only [e209_0, e209_1, e209_2, e209_5, e209_8, e209_9, e209_10, e209_11, e209_12, e209_13, e209_16, e209_17, e209_18, e209_19, e209_21, e209_23, e209_26, e209_27, e209_28, e209_31, e209_34, e209_35, e209_36, e209_37, e209_38, e209_41, e209_44, e209_45, kl_I, kl_R, kl_N, kl_L, oSm, oNn, Option.bind_some, wN, if_pos, if_neg, nS, tN, t0, w0, w1, w2, w3, w4, w5, wm1, upA_ne, upA_same, if_true, if_false, Bool.false_eq_true, e8, w16]
        simp [cnt, e]
      · rw [if_neg e] at e8
        simp (disch := first | assumption | omega | (simp (disch := omega) only [wN, w0, w1]; omega)) only [e209_0, e209_1, e209_2, e209_5, e209_8, e209_9, e209_10, e209_11, e209_12, e209_13, e209_16, e209_17, e209_18, e209_19, e209_21, e209_23, e209_26, e209_27, e209_28, e209_31, e209_34, e209_35, e209_36, e209_37, e209_38, e209_41, e209_44, e209_45, kl_I, kl_R, kl_N, kl_L, oSm, oNn, Option.bind_some, wN, if_pos, if_neg, nS, tN, t0, w0, w1, w2, w3, w4, w5, wm1, upA_ne, upA_same, if_true, if_false, Bool.false_eq_true, e8, w16]
        simp [cnt, e]) 0 (Nat.zero_le _)
    simp (disch := first | assumption | omega | (simp (disch := omega) only [wN, w0, w1]; omega)) only [e209_0, e209_1, e209_2, e209_5, e209_8, e209_9, e209_10, e209_11, e209_12, e209_13, e209_16, e209_17, e209_18, e209_19, e209_21, e209_23, e209_26, e209_27, e209_28, e209_31, e209_34, e209_35, e209_36, e209_37, e209_38, e209_41, e209_44, e209_45, kl_I, kl_R, kl_N, kl_L, oSm, oNn, Option.bind_some, wN, if_pos, if_neg, nS, tN, t0, w0, w1, w2, w3, w4, w5, wm1, upA_ne, upA_same, if_true, if_false, Bool.false_eq_true, q209, ez, a1]
    refine End.cg F ?_
    rw [e209_20]
    simp (disch := first | assumption | omega | (simp (disch := omega) only [wN, w0, w1]; omega)) only [e209_0, e209_1, e209_2, e209_5, e209_8, e209_9, e209_10, e209_11, e209_12, e209_13, e209_16, e209_17, e209_18, e209_19, e209_21, e209_23, e209_26, e209_27, e209_28, e209_31, e209_34, e209_35, e209_36, e209_37, e209_38, e209_41, e209_44, e209_45, kl_I, kl_R, kl_N, kl_L, oSm, oNn, Option.bind_some, wN, if_pos, if_neg, nS, tN, t0, w0, w1, w2, w3, w4, w5, wm1, upA_ne, upA_same, if_true, if_false, Bool.false_eq_true, w16]
    rw [e16]
    exact End.of rfl ⟨rfl, hI1⟩
end MO

