/-! ===== the reference: gateIs ===== -/
section NB
variable {sh : Shp} {d : Nat} {σ : Mem} {z w : Int} {a : AX}
theorem M214 (hM : MS sh) (h : InvM sh σ a) (hz : i32 z) (hw : i32 w) : End (run sh (d + 4) 214 [mR 124, mI z, mI w] σ) (fun r σ' => r = some (mI (aGateIs a z w)) ∧ InvM sh σ' a) := by
  have hI := h
  have mo := hM.1
  have m160 := hM.2.1
  obtain ⟨ra1, rk1, rl1⟩ := ms1 hM
  obtain ⟨ra34, rk34, rl34⟩ := ms34 hM
  obtain ⟨ra35, rk35, rl35⟩ := ms35 hM
  obtain ⟨⟨n, c, m, E, P, x⟩, K, B, s, T⟩ := a
  obtain ⟨⟨hG, hN, hMp, hEl, hx0, hE, hP, hoS⟩, hik, hKp, hTp, h140, hTm⟩ := id h
  replace hG : HGm σ 0 c := hG
  replace hN : σ.1 124 8 = (n : Int) := hN
  replace hMp : σ.1 124 9 = (m : Int) := hMp
  replace hEl : σ.1 124 10 = (E.length : Int) := hEl
  replace hx0 : σ.1 124 11 = (x : Int) := hx0
  replace hE : HEm σ 127 128 E := hE
  replace hP : ∀ y, y < n → σ.1 129 y = (P y : Int) := hP
  replace hoS : okZ n c m E P x := hoS
  replace hTp : HPm σ B s := hTp
  replace h140 : s ≤ 140 := h140
  replace hTm : HT sh σ 157 T := hTm
  replace hik : σ.1 124 16 = bi K.isSome := hik
  obtain ⟨n1, n4', c30, hv, m2, m5, E10, hvE, hPk, x16⟩ := id hoS
  have ww := hw.w
  have eg := M190 (sh := sh) (d := d + 2) hM hG c30 hz
  have ei := E164 (sh := sh) (d := d + 3) (σ := σ) (z := w) (w := 0) (v := 5) hw ⟨by omega, by omega⟩ ⟨by omega, by omega⟩
  show End _ (fun r σ' => r = some (mI (aGateIs ((n, c, m, E, P, x), K, B, s, T) z w)) ∧ _)
  unfold aGateIs
  simp only
  by_cases h1 : z < 0 ∨ (c.length : Int) ≤ z
  · rw [if_neg (by omega)] at eg
    rw [if_pos (by omega)]
    simp (disch := first | assumption | omega | (simp (disch := omega) only [wN, w0, w1]; omega)) only [e214_0, e214_1, e214_2, e214_5, e214_8, e214_9, e214_10, e214_11, e214_14, e214_17, e214_18, e214_19, e214_20, e214_21, e214_22, e214_23, e214_26, e214_27, e214_28, e214_29, e214_32, e214_33, e214_34, e214_37, e214_38_d, e214_38_0, e214_38_1, e214_38_2, e214_38_3, e214_38_4, e214_72, e214_73, e214_74, e214_75, e214_76, e214_77, e214_78, e214_81, e214_82, e214_83, e214_84, e214_87, e214_88, e214_89, e214_90, e214_91, e214_94, e214_97, e214_99, e214_100, e214_101, e214_104, e214_105, e214_106, e214_107, e214_108, e214_111, e214_114, e214_116, e214_117, e214_118, e214_121, e214_122, e214_123, e214_124, e214_125, e214_128, e214_129, e214_130, kl_I, kl_R, kl_N, kl_L, oSm, oNn, Option.bind_some, wN, if_pos, if_neg, nS, tN, t0, w0, w1, w2, w3, w4, w5, wm1, upA_ne, upA_same, if_true, if_false, Bool.false_eq_true, q214, eg]
    exact End.of rfl ⟨rfl, hI⟩
  · rw [if_pos (by omega)] at eg
    by_cases h2 : w < 0 ∨ 5 < w
    · rw [if_neg (by omega)] at ei
      rw [if_pos (by omega)]
      simp (disch := first | assumption | omega | (simp (disch := omega) only [wN, w0, w1]; omega)) only [e214_0, e214_1, e214_2, e214_5, e214_8, e214_9, e214_10, e214_11, e214_14, e214_17, e214_18, e214_19, e214_20, e214_21, e214_22, e214_23, e214_26, e214_27, e214_28, e214_29, e214_32, e214_33, e214_34, e214_37, e214_38_d, e214_38_0, e214_38_1, e214_38_2, e214_38_3, e214_38_4, e214_72, e214_73, e214_74, e214_75, e214_76, e214_77, e214_78, e214_81, e214_82, e214_83, e214_84, e214_87, e214_88, e214_89, e214_90, e214_91, e214_94, e214_97, e214_99, e214_100, e214_101, e214_104, e214_105, e214_106, e214_107, e214_108, e214_111, e214_114, e214_116, e214_117, e214_118, e214_121, e214_122, e214_123, e214_124, e214_125, e214_128, e214_129, e214_130, kl_I, kl_R, kl_N, kl_L, oSm, oNn, Option.bind_some, wN, if_pos, if_neg, nS, tN, t0, w0, w1, w2, w3, w4, w5, wm1, upA_ne, upA_same, if_true, if_false, Bool.false_eq_true, q214, eg, ei]
      exact End.of rfl ⟨rfl, hI⟩
    · rw [if_pos (by omega)] at ei
      rw [if_neg (by omega)]
      obtain ⟨k, rfl⟩ : ∃ k : Nat, z = (k : Int) := ⟨z.toNat, by omega⟩
      have hk : k < c.length := by omega
      have wk : wi (k : Int) = (k : Int) := wN (by omega)
      have hk5 := (hv.at hk).1
      have o0 := of0 (d := d + 3) (z := 0) hM hG (by omega) c30 hk rfl
      have o1 := of1 (d := d + 3) (z := 0) hM hG (by omega) c30 hk rfl
      have o2 := of2 (d := d + 3) (z := 0) hM hG (by omega) c30 hk rfl
      have o3 := of3 (d := d + 3) (z := 0) hM hG (by omega) c30 hk rfl
      obtain ⟨r, σ1, a1, rfl, a3, a4⟩ := M211 (d := d) (z := 0) hM hG (by omega) c30 hv hN n4' rfl
      have hI1 := hI.W a4 (by omega) (by omega) (by omega)
      obtain ⟨_, _, g1, g2⟩ := a3 k hk
      rw [Nat.add_comm] at g1 g2
      simp only [Int.toNat_natCast]
      rcases (show w = 0 ∨ w = 1 ∨ w = 2 ∨ w = 3 ∨ w = 4 ∨ w = 5 by omega) with rfl | rfl | rfl | rfl | rfl | rfl
      · simp (disch := first | assumption | omega | (simp (disch := omega) only [wN, w0, w1]; omega)) only [e214_0, e214_1, e214_2, e214_5, e214_8, e214_9, e214_10, e214_11, e214_14, e214_17, e214_18, e214_19, e214_20, e214_21, e214_22, e214_23, e214_26, e214_27, e214_28, e214_29, e214_32, e214_33, e214_34, e214_37, e214_38_d, e214_38_0, e214_38_1, e214_38_2, e214_38_3, e214_38_4, e214_72, e214_73, e214_74, e214_75, e214_76, e214_77, e214_78, e214_81, e214_82, e214_83, e214_84, e214_87, e214_88, e214_89, e214_90, e214_91, e214_94, e214_97, e214_99, e214_100, e214_101, e214_104, e214_105, e214_106, e214_107, e214_108, e214_111, e214_114, e214_116, e214_117, e214_118, e214_121, e214_122, e214_123, e214_124, e214_125, e214_128, e214_129, e214_130, kl_I, kl_R, kl_N, kl_L, oSm, oNn, Option.bind_some, wN, if_pos, if_neg, nS, tN, t0, w0, w1, w2, w3, w4, w5, wm1, upA_ne, upA_same, if_true, if_false, Bool.false_eq_true, q214, eg, ei, o0]
        exact End.of rfl ⟨rfl, hI⟩
      · simp (disch := first | assumption | omega | (simp (disch := omega) only [wN, w0, w1]; omega)) only [e214_0, e214_1, e214_2, e214_5, e214_8, e214_9, e214_10, e214_11, e214_14, e214_17, e214_18, e214_19, e214_20, e214_21, e214_22, e214_23, e214_26, e214_27, e214_28, e214_29, e214_32, e214_33, e214_34, e214_37, e214_38_d, e214_38_0, e214_38_1, e214_38_2, e214_38_3, e214_38_4, e214_72, e214_73, e214_74, e214_75, e214_76, e214_77, e214_78, e214_81, e214_82, e214_83, e214_84, e214_87, e214_88, e214_89, e214_90, e214_91, e214_94, e214_97, e214_99, e214_100, e214_101, e214_104, e214_105, e214_106, e214_107, e214_108, e214_111, e214_114, e214_116, e214_117, e214_118, e214_121, e214_122, e214_123, e214_124, e214_125, e214_128, e214_129, e214_130, kl_I, kl_R, kl_N, kl_L, oSm, oNn, Option.bind_some, wN, if_pos, if_neg, nS, tN, t0, w0, w1, w2, w3, w4, w5, wm1, upA_ne, upA_same, if_true, if_false, Bool.false_eq_true, q214, eg, ei, o0, o1]
        exact End.of rfl ⟨rfl, hI⟩
      · by_cases e : (gA c k).1 < 3
        · simp (disch := first | assumption | omega | (simp (disch := omega) only [wN, w0, w1]; omega)) only [e214_0, e214_1, e214_2, e214_5, e214_8, e214_9, e214_10, e214_11, e214_14, e214_17, e214_18, e214_19, e214_20, e214_21, e214_22, e214_23, e214_26, e214_27, e214_28, e214_29, e214_32, e214_33, e214_34, e214_37, e214_38_d, e214_38_0, e214_38_1, e214_38_2, e214_38_3, e214_38_4, e214_72, e214_73, e214_74, e214_75, e214_76, e214_77, e214_78, e214_81, e214_82, e214_83, e214_84, e214_87, e214_88, e214_89, e214_90, e214_91, e214_94, e214_97, e214_99, e214_100, e214_101, e214_104, e214_105, e214_106, e214_107, e214_108, e214_111, e214_114, e214_116, e214_117, e214_118, e214_121, e214_122, e214_123, e214_124, e214_125, e214_128, e214_129, e214_130, kl_I, kl_R, kl_N, kl_L, oSm, oNn, Option.bind_some, wN, if_pos, if_neg, nS, tN, t0, w0, w1, w2, w3, w4, w5, wm1, upA_ne, upA_same, if_true, if_false, Bool.false_eq_true, q214, eg, ei, o0]
          exact End.of rfl ⟨by simp [paS]; omega, hI⟩
        · rw [rb, if_neg e] at o2
          simp (disch := first | assumption | omega | (simp (disch := omega) only [wN, w0, w1]; omega)) only [e214_0, e214_1, e214_2, e214_5, e214_8, e214_9, e214_10, e214_11, e214_14, e214_17, e214_18, e214_19, e214_20, e214_21, e214_22, e214_23, e214_26, e214_27, e214_28, e214_29, e214_32, e214_33, e214_34, e214_37, e214_38_d, e214_38_0, e214_38_1, e214_38_2, e214_38_3, e214_38_4, e214_72, e214_73, e214_74, e214_75, e214_76, e214_77, e214_78, e214_81, e214_82, e214_83, e214_84, e214_87, e214_88, e214_89, e214_90, e214_91, e214_94, e214_97, e214_99, e214_100, e214_101, e214_104, e214_105, e214_106, e214_107, e214_108, e214_111, e214_114, e214_116, e214_117, e214_118, e214_121, e214_122, e214_123, e214_124, e214_125, e214_128, e214_129, e214_130, kl_I, kl_R, kl_N, kl_L, oSm, oNn, Option.bind_some, wN, if_pos, if_neg, nS, tN, t0, w0, w1, w2, w3, w4, w5, wm1, upA_ne, upA_same, if_true, if_false, Bool.false_eq_true, q214, eg, ei, o0, o2]
          exact End.of rfl ⟨by simp [paS]; omega, hI⟩
      · by_cases e : (gA c k).1 = 0
        · rw [rk, if_pos e] at o3
          simp (disch := first | assumption | omega | (simp (disch := omega) only [wN, w0, w1]; omega)) only [e214_0, e214_1, e214_2, e214_5, e214_8, e214_9, e214_10, e214_11, e214_14, e214_17, e214_18, e214_19, e214_20, e214_21, e214_22, e214_23, e214_26, e214_27, e214_28, e214_29, e214_32, e214_33, e214_34, e214_37, e214_38_d, e214_38_0, e214_38_1, e214_38_2, e214_38_3, e214_38_4, e214_72, e214_73, e214_74, e214_75, e214_76, e214_77, e214_78, e214_81, e214_82, e214_83, e214_84, e214_87, e214_88, e214_89, e214_90, e214_91, e214_94, e214_97, e214_99, e214_100, e214_101, e214_104, e214_105, e214_106, e214_107, e214_108, e214_111, e214_114, e214_116, e214_117, e214_118, e214_121, e214_122, e214_123, e214_124, e214_125, e214_128, e214_129, e214_130, kl_I, kl_R, kl_N, kl_L, oSm, oNn, Option.bind_some, wN, if_pos, if_neg, nS, tN, t0, w0, w1, w2, w3, w4, w5, wm1, upA_ne, upA_same, if_true, if_false, Bool.false_eq_true, q214, eg, ei, o0, o3]
          exact End.of rfl ⟨by simp [paS, e], hI⟩
        · simp (disch := first | assumption | omega | (simp (disch := omega) only [wN, w0, w1]; omega)) only [e214_0, e214_1, e214_2, e214_5, e214_8, e214_9, e214_10, e214_11, e214_14, e214_17, e214_18, e214_19, e214_20, e214_21, e214_22, e214_23, e214_26, e214_27, e214_28, e214_29, e214_32, e214_33, e214_34, e214_37, e214_38_d, e214_38_0, e214_38_1, e214_38_2, e214_38_3, e214_38_4, e214_72, e214_73, e214_74, e214_75, e214_76, e214_77, e214_78, e214_81, e214_82, e214_83, e214_84, e214_87, e214_88, e214_89, e214_90, e214_91, e214_94, e214_97, e214_99, e214_100, e214_101, e214_104, e214_105, e214_106, e214_107, e214_108, e214_111, e214_114, e214_116, e214_117, e214_118, e214_121, e214_122, e214_123, e214_124, e214_125, e214_128, e214_129, e214_130, kl_I, kl_R, kl_N, kl_L, oSm, oNn, Option.bind_some, wN, if_pos, if_neg, nS, tN, t0, w0, w1, w2, w3, w4, w5, wm1, upA_ne, upA_same, if_true, if_false, Bool.false_eq_true, q214, eg, ei, o0]
          exact End.of rfl ⟨by simp [paS, e], hI⟩
      · simp (disch := first | assumption | omega | (simp (disch := omega) only [wN, w0, w1]; omega)) only [e214_0, e214_1, e214_2, e214_5, e214_8, e214_9, e214_10, e214_11, e214_14, e214_17, e214_18, e214_19, e214_20, e214_21, e214_22, e214_23, e214_26, e214_27, e214_28, e214_29, e214_32, e214_33, e214_34, e214_37, e214_38_d, e214_38_0, e214_38_1, e214_38_2, e214_38_3, e214_38_4, e214_72, e214_73, e214_74, e214_75, e214_76, e214_77, e214_78, e214_81, e214_82, e214_83, e214_84, e214_87, e214_88, e214_89, e214_90, e214_91, e214_94, e214_97, e214_99, e214_100, e214_101, e214_104, e214_105, e214_106, e214_107, e214_108, e214_111, e214_114, e214_116, e214_117, e214_118, e214_121, e214_122, e214_123, e214_124, e214_125, e214_128, e214_129, e214_130, kl_I, kl_R, kl_N, kl_L, oSm, oNn, Option.bind_some, wN, if_pos, if_neg, nS, tN, t0, w0, w1, w2, w3, w4, w5, wm1, upA_ne, upA_same, if_true, if_false, Bool.false_eq_true, q214, eg, ei, o0, a1, ra34, rl34, ra35, rl35, g1, g2]
        exact End.of rfl ⟨rfl, hI1⟩
      · simp (disch := first | assumption | omega | (simp (disch := omega) only [wN, w0, w1]; omega)) only [e214_0, e214_1, e214_2, e214_5, e214_8, e214_9, e214_10, e214_11, e214_14, e214_17, e214_18, e214_19, e214_20, e214_21, e214_22, e214_23, e214_26, e214_27, e214_28, e214_29, e214_32, e214_33, e214_34, e214_37, e214_38_d, e214_38_0, e214_38_1, e214_38_2, e214_38_3, e214_38_4, e214_72, e214_73, e214_74, e214_75, e214_76, e214_77, e214_78, e214_81, e214_82, e214_83, e214_84, e214_87, e214_88, e214_89, e214_90, e214_91, e214_94, e214_97, e214_99, e214_100, e214_101, e214_104, e214_105, e214_106, e214_107, e214_108, e214_111, e214_114, e214_116, e214_117, e214_118, e214_121, e214_122, e214_123, e214_124, e214_125, e214_128, e214_129, e214_130, kl_I, kl_R, kl_N, kl_L, oSm, oNn, Option.bind_some, wN, if_pos, if_neg, nS, tN, t0, w0, w1, w2, w3, w4, w5, wm1, upA_ne, upA_same, if_true, if_false, Bool.false_eq_true, q214, eg, ei, o0, a1, ra34, rl34, ra35, rl35, g1, g2]
        exact End.of rfl ⟨rfl, hI1⟩
end NB

