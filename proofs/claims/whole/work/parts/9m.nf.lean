/-! ===== the reference: afterAll, circuitIs ===== -/
section NF
variable {sh : Shp} {d t g h n : Nat} {σ : Mem} {z w : Int} {c : List Gt} {a : AX}
theorem mxx_en (lo : Bool) (c : List Gt) (k : Nat) : mxx (fun y => 1 + bgS lo (fun _ => 1) c y) k = mxx (enS lo (fun _ => 1) c) k := mxx_congr k (fun h _ => Nat.add_comm _ _)
theorem M212a (hM : MS sh) (hA : HAh σ c c.length) (hc : c.length ≤ 30) : run sh (d + 1) 212 [mR 124, mR 141, mI (c.length : Int)] σ = some (some (mI (mxx (enS false (fun _ => 1) c) c.length : Int)), σ) := by
  have mo := hM.1
  have m160 := hM.2.1
  obtain ⟨ra34, rk34, rl34⟩ := ms34 hM
  have b := bg_le false c
  rw [← mxx_en]
  exact M212 hM rk34 (by omega) (by omega) (by omega) (fun y hy => (hA y hy).2.2.1) (fun y hy => by have := b y; omega)
theorem M212b (hM : MS sh) (hA : HAh σ c c.length) (hc : c.length ≤ 30) : run sh (d + 1) 212 [mR 124, mR 142, mI (c.length : Int)] σ = some (some (mI (mxx (enS true (fun _ => 1) c) c.length : Int)), σ) := by
  have mo := hM.1
  have m160 := hM.2.1
  obtain ⟨ra35, rk35, rl35⟩ := ms35 hM
  have b := bg_le true c
  rw [← mxx_en]
  exact M212 hM rk35 (by omega) (by omega) (by omega) (fun y hy => (hA y hy).2.2.2) (fun y hy => by have := b y; omega)
theorem M224 {dp : Bool} (hM : MS sh) (h : InvM sh σ a) : End (run sh (d + 6) 224 [mR 124, mI (bi dp)] σ) (fun r σ' => r = some (mI (if dp = true then (mxx (enS false (fun _ => 1) (saS a.1.2.1)) (saS a.1.2.1).length : Int) else ((saS a.1.2.1).length : Int))) ∧ InvM sh σ' a) := by
  have hI := h
  have mo := hM.1
  have m160 := hM.2.1
  obtain ⟨ra1, rk1, rl1⟩ := ms1 hM
  obtain ⟨ra34, rk34, rl34⟩ := ms34 hM
  obtain ⟨⟨n, c, m, E, P, x⟩, K, B, s, T⟩ := a
  obtain ⟨⟨hG, hN, hMp, hEl, hx0, hE, hP, hoS⟩, hik, hKp, hTp, h140, hTm⟩ := id h
  replace hG : HGm σ 0 c := hG
  replace hN : σ.1 124 8 = (n : Int) := hN
  replace hMp : σ.1 124 9 = (m : Int) := hMp
  replace hEl : σ.1 124 10 = (E.length : Int) := hEl
  replace hx0 : σ.1 124 11 = (x : Int) := hx0
  replace hE : HEm σ 127 128 E := hE
  replace hP : ∀ y, y < n → σ.1 129 y = (P y : Int) := hP
  replace hoS : okZ n c m E P x := hoS
  replace hTp : HPm σ B s := hTp
  replace h140 : s ≤ 140 := h140
  replace hTm : HT sh σ 157 T := hTm
  replace hik : σ.1 124 16 = bi K.isSome := hik
  obtain ⟨n1, n4', c30, hv, m2, m5, E10, hvE, hPk, x16⟩ := id hoS
  obtain ⟨r, σ1, a1, rfl, a2, a3, a4, a5⟩ := M172 (d := d + 5) (t := 0) (u := 2) (z := 0) (w := 2) hM hG c30 (by omega) (by omega) (by omega) rfl rfl
  have hN1 : σ1.1 124 8 = (n : Int) := by rw [a3.2 8 (by omega)]; exact hN
  obtain ⟨r, σ2, b1, rfl, b2, b3⟩ := M220 (d := d) (t := 2) (z := 2) hM a2 (by omega) c30 hv hN1 n4' rfl
  have ok := shN_ok c.length hv
  have l2 : (saS c).length ≤ 30 := by have := ok.2; show (shN c.length c).length ≤ 30; omega
  have hk : KM σ σ2 := KM.tr ⟨fun i _ => a3.2 i (by omega), fun i hi => a5 i (by omega), fun i hi => a4 i (by omega), fun a p q => (a3.1 a (by omega) (by omega)).1, (a3.1 157 (by omega) (by omega)).1⟩ b3.K
  have hl := b2.1
  have u2n : (2 : Int).toNat = 2 := rfl
  show End _ (fun r σ' => r = some (mI (if dp = true then (mxx (enS false (fun _ => 1) (saS c)) (saS c).length : Int) else ((saS c).length : Int))) ∧ _)
  cases dp with
  | false =>
    show End (run sh (d + 6) 224 [mR 124, mI 0] σ) _
    simp (disch := first | assumption | omega | (simp (disch := omega) only [wN, w0, w1]; omega)) only [e224_0, e224_1, e224_2, e224_3, e224_6, e224_7, e224_8, e224_11, e224_12, e224_13, e224_16, e224_17, e224_20, e224_21, e224_22, e224_23, e224_24, e224_25, e224_28, e224_29, e224_30, e224_33, e224_34, e224_37, e224_38, e224_39, e224_42, kl_I, kl_R, kl_N, kl_L, oSm, oNn, Option.bind_some, wN, if_pos, if_neg, nS, tN, t0, w0, w1, w2, w3, w4, w5, wm1, upA_ne, upA_same, if_true, if_false, Bool.false_eq_true, q224, a1, b1, ra1, rl1, u2n, hl]
    exact End.of rfl ⟨rfl, hI.k hk⟩
  | true =>
    show End (run sh (d + 6) 224 [mR 124, mI 1] σ) _
    have hN2 : σ2.1 124 8 = (n : Int) := by rw [b3.1 124 (by omega) (by omega) (by omega) (by omega)]; exact hN1
    obtain ⟨r, σ3, c1, rfl, c2, c3⟩ := M211 (d := d + 2) (t := 2) (z := 2) hM b2 (by omega) l2 ok.1 hN2 n4' rfl
    have e := M212a (d := d + 4) hM c2 l2
    have hl3 : σ3.1 126 2 = ((saS c).length : Int) := by rw [(c3.1 126 (by omega) (by omega)).1]; exact hl
    simp (disch := first | assumption | omega | (simp (disch := omega) only [wN, w0, w1]; omega)) only [e224_0, e224_1, e224_2, e224_3, e224_6, e224_7, e224_8, e224_11, e224_12, e224_13, e224_16, e224_17, e224_20, e224_21, e224_22, e224_23, e224_24, e224_25, e224_28, e224_29, e224_30, e224_33, e224_34, e224_37, e224_38, e224_39, e224_42, kl_I, kl_R, kl_N, kl_L, oSm, oNn, Option.bind_some, wN, if_pos, if_neg, nS, tN, t0, w0, w1, w2, w3, w4, w5, wm1, upA_ne, upA_same, if_true, if_false, Bool.false_eq_true, q224, a1, b1, ra1, rl1, ra34, rl34, c1, u2n, hl3, e]
    exact End.of rfl ⟨rfl, hI.k (hk.tr (c3.K (by omega) (by omega) (by omega)))⟩
theorem M225 (hM : MS sh) (h : InvM sh σ a) (hw' : i32 w) : End (run sh (d + 7) 225 [mR 124, mI w] σ) (fun r σ' => r = some (mI (aCircIs a w)) ∧ InvM sh σ' a) := by
  have hI := h
  have mo := hM.1
  have m160 := hM.2.1
  obtain ⟨ra1, rk1, rl1⟩ := ms1 hM
  obtain ⟨ra34, rk34, rl34⟩ := ms34 hM
  obtain ⟨ra35, rk35, rl35⟩ := ms35 hM
  obtain ⟨⟨n, c, m, E, P, x⟩, K, B, s, T⟩ := a
  obtain ⟨⟨hG, hN, hMp, hEl, hx0, hE, hP, hoS⟩, hik, hKp, hTp, h140, hTm⟩ := id h
  replace hG : HGm σ 0 c := hG
  replace hN : σ.1 124 8 = (n : Int) := hN
  replace hMp : σ.1 124 9 = (m : Int) := hMp
  replace hEl : σ.1 124 10 = (E.length : Int) := hEl
  replace hx0 : σ.1 124 11 = (x : Int) := hx0
  replace hE : HEm σ 127 128 E := hE
  replace hP : ∀ y, y < n → σ.1 129 y = (P y : Int) := hP
  replace hoS : okZ n c m E P x := hoS
  replace hTp : HPm σ B s := hTp
  replace h140 : s ≤ 140 := h140
  replace hTm : HT sh σ 157 T := hTm
  replace hik : σ.1 124 16 = bi K.isSome := hik
  obtain ⟨n1, n4', c30, hv, m2, m5, E10, hvE, hPk, x16⟩ := id hoS
  have ww := hw'.w
  have hl := hG.1
  have i1 := E164 (sh := sh) (d := d + 6) (σ := σ) (z := w) (w := 10) (v := 15) hw' ⟨by omega, by omega⟩ ⟨by omega, by omega⟩
  have i2 := E164 (sh := sh) (d := d + 6) (σ := σ) (z := w) (w := 20) (v := 19 + (n : Int)) hw' ⟨by omega, by omega⟩ ⟨by omega, by omega⟩
  have i3 := E164 (sh := sh) (d := d + 6) (σ := σ) (z := w) (w := 30) (v := 29 + (n : Int)) hw' ⟨by omega, by omega⟩ ⟨by omega, by omega⟩
  show End _ (fun r σ' => r = some (mI (if 0 ≤ w ∧ w < 7 then aIs6 c w else aHas n c w)) ∧ _)
  by_cases h1 : 10 ≤ w ∧ w ≤ 15
  · rw [if_pos h1] at i1
    rw [if_neg (by omega), aHas, if_pos (by omega)]
    have e := M223a (d := d + 3) (k := (w - 10).toNat) (z := w) hM hG c30 hv n4' (by omega) (by omega)
    simp (disch := first | assumption | omega | (simp (disch := omega) only [wN, w0, w1]; omega)) only [e225_0, e225_1, e225_3, e225_5, e225_8, e225_11, e225_12, e225_14, e225_16, e225_17, e225_20, e225_21, e225_24, e225_27, e225_28, e225_30, e225_32, e225_33, e225_36, e225_37, e225_40, e225_43, e225_44, e225_45, e225_48, e225_49, e225_50_d, e225_50_0, e225_50_1, e225_50_2, e225_50_3, e225_50_4, e225_50_5, e225_50_6, e225_92, e225_93, e225_96, e225_97, e225_98, e225_99, e225_100, e225_101, e225_104, e225_105, e225_106, e225_107, e225_110, e225_111, e225_114, e225_117, e225_118, e225_121, e225_122, e225_125, e225_126, e225_127, e225_130, e225_131, e225_132, e225_133, e225_136, e225_137, e225_138, e225_139, e225_140, e225_143, e225_144, e225_147, e225_148, e225_149, e225_150, e225_153, e225_154, e225_155, e225_156, e225_159, e225_160, e225_161, kl_I, kl_R, kl_N, kl_L, oSm, oNn, Option.bind_some, wN, if_pos, if_neg, nS, tN, t0, w0, w1, w2, w3, w4, w5, wm1, upA_ne, upA_same, if_true, if_false, Bool.false_eq_true, q225, i1, e]
    exact End.of rfl ⟨rfl, hI⟩
  · rw [if_neg h1] at i1
    by_cases h2 : 20 ≤ w ∧ w ≤ 19 + (n : Int)
    · rw [if_pos h2] at i2
      rw [if_neg (by omega), aHas, if_neg (by omega), if_pos (by omega)]
      have e := M223b (d := d + 3) (l := (w - 20).toNat) (z := w) hM hG c30 hv n4' (by omega) (by omega)
      simp (disch := first | assumption | omega | (simp (disch := omega) only [wN, w0, w1]; omega)) only [e225_0, e225_1, e225_3, e225_5, e225_8, e225_11, e225_12, e225_14, e225_16, e225_17, e225_20, e225_21, e225_24, e225_27, e225_28, e225_30, e225_32, e225_33, e225_36, e225_37, e225_40, e225_43, e225_44, e225_45, e225_48, e225_49, e225_50_d, e225_50_0, e225_50_1, e225_50_2, e225_50_3, e225_50_4, e225_50_5, e225_50_6, e225_92, e225_93, e225_96, e225_97, e225_98, e225_99, e225_100, e225_101, e225_104, e225_105, e225_106, e225_107, e225_110, e225_111, e225_114, e225_117, e225_118, e225_121, e225_122, e225_125, e225_126, e225_127, e225_130, e225_131, e225_132, e225_133, e225_136, e225_137, e225_138, e225_139, e225_140, e225_143, e225_144, e225_147, e225_148, e225_149, e225_150, e225_153, e225_154, e225_155, e225_156, e225_159, e225_160, e225_161, kl_I, kl_R, kl_N, kl_L, oSm, oNn, Option.bind_some, wN, if_pos, if_neg, nS, tN, t0, w0, w1, w2, w3, w4, w5, wm1, upA_ne, upA_same, if_true, if_false, Bool.false_eq_true, q225, i1, hN, i2, e]
      exact End.of rfl ⟨rfl, hI⟩
    · rw [if_neg h2] at i2
      by_cases h3 : 30 ≤ w ∧ w ≤ 29 + (n : Int)
      · rw [if_pos h3] at i3
        rw [if_neg (by omega), aHas, if_neg (by omega), if_neg (by omega), if_pos (by omega)]
        have e := M223c (d := d + 3) (l := (w - 30).toNat) (z := w) hM hG c30 hv n4' (by omega) (by omega)
        simp (disch := first | assumption | omega | (simp (disch := omega) only [wN, w0, w1]; omega)) only [e225_0, e225_1, e225_3, e225_5, e225_8, e225_11, e225_12, e225_14, e225_16, e225_17, e225_20, e225_21, e225_24, e225_27, e225_28, e225_30, e225_32, e225_33, e225_36, e225_37, e225_40, e225_43, e225_44, e225_45, e225_48, e225_49, e225_50_d, e225_50_0, e225_50_1, e225_50_2, e225_50_3, e225_50_4, e225_50_5, e225_50_6, e225_92, e225_93, e225_96, e225_97, e225_98, e225_99, e225_100, e225_101, e225_104, e225_105, e225_106, e225_107, e225_110, e225_111, e225_114, e225_117, e225_118, e225_121, e225_122, e225_125, e225_126, e225_127, e225_130, e225_131, e225_132, e225_133, e225_136, e225_137, e225_138, e225_139, e225_140, e225_143, e225_144, e225_147, e225_148, e225_149, e225_150, e225_153, e225_154, e225_155, e225_156, e225_159, e225_160, e225_161, kl_I, kl_R, kl_N, kl_L, oSm, oNn, Option.bind_some, wN, if_pos, if_neg, nS, tN, t0, w0, w1, w2, w3, w4, w5, wm1, upA_ne, upA_same, if_true, if_false, Bool.false_eq_true, q225, i1, hN, i2, i3, e]
        exact End.of rfl ⟨rfl, hI⟩
      · rw [if_neg h3] at i3
        by_cases h4 : 0 ≤ w ∧ w < 7
        · rw [if_pos h4]
          obtain ⟨r, σ1, a1, rfl, a3, a4⟩ := M211 (d := d + 3) (z := 0) hM hG (by omega) c30 hv hN n4' rfl
          have hI1 := hI.W a4 (by omega) (by omega) (by omega)
          have hl1 : σ1.1 126 0 = (c.length : Int) := by rw [(a4.1 126 (by omega) (by omega)).1]; exact hl
          have m1 := M212a (d := d + 5) hM a3 c30
          have m2 := M212b (d := d + 5) hM a3 c30
          rcases (show w = 0 ∨ w = 1 ∨ w = 2 ∨ w = 3 ∨ w = 4 ∨ w = 5 ∨ w = 6 by omega) with rfl | rfl | rfl | rfl | rfl | rfl | rfl
          · simp (disch := first | assumption | omega | (simp (disch := omega) only [wN, w0, w1]; omega)) only [e225_0, e225_1, e225_3, e225_5, e225_8, e225_11, e225_12, e225_14, e225_16, e225_17, e225_20, e225_21, e225_24, e225_27, e225_28, e225_30, e225_32, e225_33, e225_36, e225_37, e225_40, e225_43, e225_44, e225_45, e225_48, e225_49, e225_50_d, e225_50_0, e225_50_1, e225_50_2, e225_50_3, e225_50_4, e225_50_5, e225_50_6, e225_92, e225_93, e225_96, e225_97, e225_98, e225_99, e225_100, e225_101, e225_104, e225_105, e225_106, e225_107, e225_110, e225_111, e225_114, e225_117, e225_118, e225_121, e225_122, e225_125, e225_126, e225_127, e225_130, e225_131, e225_132, e225_133, e225_136, e225_137, e225_138, e225_139, e225_140, e225_143, e225_144, e225_147, e225_148, e225_149, e225_150, e225_153, e225_154, e225_155, e225_156, e225_159, e225_160, e225_161, kl_I, kl_R, kl_N, kl_L, oSm, oNn, Option.bind_some, wN, if_pos, if_neg, nS, tN, t0, w0, w1, w2, w3, w4, w5, wm1, upA_ne, upA_same, if_true, if_false, Bool.false_eq_true, q225, i1, hN, i2, i3, ra1, rl1, hl]
            exact End.of rfl ⟨rfl, hI⟩
          · simp (disch := first | assumption | omega | (simp (disch := omega) only [wN, w0, w1]; omega)) only [e225_0, e225_1, e225_3, e225_5, e225_8, e225_11, e225_12, e225_14, e225_16, e225_17, e225_20, e225_21, e225_24, e225_27, e225_28, e225_30, e225_32, e225_33, e225_36, e225_37, e225_40, e225_43, e225_44, e225_45, e225_48, e225_49, e225_50_d, e225_50_0, e225_50_1, e225_50_2, e225_50_3, e225_50_4, e225_50_5, e225_50_6, e225_92, e225_93, e225_96, e225_97, e225_98, e225_99, e225_100, e225_101, e225_104, e225_105, e225_106, e225_107, e225_110, e225_111, e225_114, e225_117, e225_118, e225_121, e225_122, e225_125, e225_126, e225_127, e225_130, e225_131, e225_132, e225_133, e225_136, e225_137, e225_138, e225_139, e225_140, e225_143, e225_144, e225_147, e225_148, e225_149, e225_150, e225_153, e225_154, e225_155, e225_156, e225_159, e225_160, e225_161, kl_I, kl_R, kl_N, kl_L, oSm, oNn, Option.bind_some, wN, if_pos, if_neg, nS, tN, t0, w0, w1, w2, w3, w4, w5, wm1, upA_ne, upA_same, if_true, if_false, Bool.false_eq_true, q225, i1, hN, i2, i3, ra1, rl1, ra34, rl34, ra35, rl35, a1, hl1, m1]
            exact End.of rfl ⟨rfl, hI1⟩
          · simp (disch := first | assumption | omega | (simp (disch := omega) only [wN, w0, w1]; omega)) only [e225_0, e225_1, e225_3, e225_5, e225_8, e225_11, e225_12, e225_14, e225_16, e225_17, e225_20, e225_21, e225_24, e225_27, e225_28, e225_30, e225_32, e225_33, e225_36, e225_37, e225_40, e225_43, e225_44, e225_45, e225_48, e225_49, e225_50_d, e225_50_0, e225_50_1, e225_50_2, e225_50_3, e225_50_4, e225_50_5, e225_50_6, e225_92, e225_93, e225_96, e225_97, e225_98, e225_99, e225_100, e225_101, e225_104, e225_105, e225_106, e225_107, e225_110, e225_111, e225_114, e225_117, e225_118, e225_121, e225_122, e225_125, e225_126, e225_127, e225_130, e225_131, e225_132, e225_133, e225_136, e225_137, e225_138, e225_139, e225_140, e225_143, e225_144, e225_147, e225_148, e225_149, e225_150, e225_153, e225_154, e225_155, e225_156, e225_159, e225_160, e225_161, kl_I, kl_R, kl_N, kl_L, oSm, oNn, Option.bind_some, wN, if_pos, if_neg, nS, tN, t0, w0, w1, w2, w3, w4, w5, wm1, upA_ne, upA_same, if_true, if_false, Bool.false_eq_true, q225, i1, hN, i2, i3, ra1, rl1, ra34, rl34, ra35, rl35, a1, hl1, m2]
            exact End.of rfl ⟨rfl, hI1⟩
          · have e := M223d (d := d + 3) (σ := σ) hM hG c30 hv n4'
            simp (disch := first | assumption | omega | (simp (disch := omega) only [wN, w0, w1]; omega)) only [e225_0, e225_1, e225_3, e225_5, e225_8, e225_11, e225_12, e225_14, e225_16, e225_17, e225_20, e225_21, e225_24, e225_27, e225_28, e225_30, e225_32, e225_33, e225_36, e225_37, e225_40, e225_43, e225_44, e225_45, e225_48, e225_49, e225_50_d, e225_50_0, e225_50_1, e225_50_2, e225_50_3, e225_50_4, e225_50_5, e225_50_6, e225_92, e225_93, e225_96, e225_97, e225_98, e225_99, e225_100, e225_101, e225_104, e225_105, e225_106, e225_107, e225_110, e225_111, e225_114, e225_117, e225_118, e225_121, e225_122, e225_125, e225_126, e225_127, e225_130, e225_131, e225_132, e225_133, e225_136, e225_137, e225_138, e225_139, e225_140, e225_143, e225_144, e225_147, e225_148, e225_149, e225_150, e225_153, e225_154, e225_155, e225_156, e225_159, e225_160, e225_161, kl_I, kl_R, kl_N, kl_L, oSm, oNn, Option.bind_some, wN, if_pos, if_neg, nS, tN, t0, w0, w1, w2, w3, w4, w5, wm1, upA_ne, upA_same, if_true, if_false, Bool.false_eq_true, q225, i1, hN, i2, i3, e]
            exact End.of rfl ⟨rfl, hI⟩
          · obtain ⟨r, σ2, b1, rfl, b3, b4, b5⟩ := M204 (d := d + 4) (s := 0) (z := 0) hM hG (by omega) c30 hv hN n4' (Nat.two_pow_pos n) rfl
            replace b1 : run sh (d + 6) 204 [mR 124, mI 0, mI 0] σ = some (none, σ2) := b1
            simp (disch := first | assumption | omega | (simp (disch := omega) only [wN, w0, w1]; omega)) only [e225_0, e225_1, e225_3, e225_5, e225_8, e225_11, e225_12, e225_14, e225_16, e225_17, e225_20, e225_21, e225_24, e225_27, e225_28, e225_30, e225_32, e225_33, e225_36, e225_37, e225_40, e225_43, e225_44, e225_45, e225_48, e225_49, e225_50_d, e225_50_0, e225_50_1, e225_50_2, e225_50_3, e225_50_4, e225_50_5, e225_50_6, e225_92, e225_93, e225_96, e225_97, e225_98, e225_99, e225_100, e225_101, e225_104, e225_105, e225_106, e225_107, e225_110, e225_111, e225_114, e225_117, e225_118, e225_121, e225_122, e225_125, e225_126, e225_127, e225_130, e225_131, e225_132, e225_133, e225_136, e225_137, e225_138, e225_139, e225_140, e225_143, e225_144, e225_147, e225_148, e225_149, e225_150, e225_153, e225_154, e225_155, e225_156, e225_159, e225_160, e225_161, kl_I, kl_R, kl_N, kl_L, oSm, oNn, Option.bind_some, wN, if_pos, if_neg, nS, tN, t0, w0, w1, w2, w3, w4, w5, wm1, upA_ne, upA_same, if_true, if_false, Bool.false_eq_true, q225, i1, hN, i2, i3, b1, b4]
            exact End.of rfl ⟨rfl, hI.W b5 (by omega) (by omega) (by omega)⟩
          · obtain ⟨r, σ2, b1, rfl, b3⟩ := M224 (d := d) (dp := false) hM hI
            replace b1 : run sh (d + 6) 224 [mR 124, mI 0] σ = some (some (mI ((saS c).length : Int)), σ2) := b1
            simp (disch := first | assumption | omega | (simp (disch := omega) only [wN, w0, w1]; omega)) only [e225_0, e225_1, e225_3, e225_5, e225_8, e225_11, e225_12, e225_14, e225_16, e225_17, e225_20, e225_21, e225_24, e225_27, e225_28, e225_30, e225_32, e225_33, e225_36, e225_37, e225_40, e225_43, e225_44, e225_45, e225_48, e225_49, e225_50_d, e225_50_0, e225_50_1, e225_50_2, e225_50_3, e225_50_4, e225_50_5, e225_50_6, e225_92, e225_93, e225_96, e225_97, e225_98, e225_99, e225_100, e225_101, e225_104, e225_105, e225_106, e225_107, e225_110, e225_111, e225_114, e225_117, e225_118, e225_121, e225_122, e225_125, e225_126, e225_127, e225_130, e225_131, e225_132, e225_133, e225_136, e225_137, e225_138, e225_139, e225_140, e225_143, e225_144, e225_147, e225_148, e225_149, e225_150, e225_153, e225_154, e225_155, e225_156, e225_159, e225_160, e225_161, kl_I, kl_R, kl_N, kl_L, oSm, oNn, Option.bind_some, wN, if_pos, if_neg, nS, tN, t0, w0, w1, w2, w3, w4, w5, wm1, upA_ne, upA_same, if_true, if_false, Bool.false_eq_true, q225, i1, hN, i2, i3, b1]
            exact End.of rfl ⟨rfl, b3⟩
          · obtain ⟨r, σ2, b1, rfl, b3⟩ := M224 (d := d) (dp := true) hM hI
            replace b1 : run sh (d + 6) 224 [mR 124, mI 1] σ = some (some (mI (mxx (enS false (fun _ => 1) (saS c)) (saS c).length : Int)), σ2) := b1
            simp (disch := first | assumption | omega | (simp (disch := omega) only [wN, w0, w1]; omega)) only [e225_0, e225_1, e225_3, e225_5, e225_8, e225_11, e225_12, e225_14, e225_16, e225_17, e225_20, e225_21, e225_24, e225_27, e225_28, e225_30, e225_32, e225_33, e225_36, e225_37, e225_40, e225_43, e225_44, e225_45, e225_48, e225_49, e225_50_d, e225_50_0, e225_50_1, e225_50_2, e225_50_3, e225_50_4, e225_50_5, e225_50_6, e225_92, e225_93, e225_96, e225_97, e225_98, e225_99, e225_100, e225_101, e225_104, e225_105, e225_106, e225_107, e225_110, e225_111, e225_114, e225_117, e225_118, e225_121, e225_122, e225_125, e225_126, e225_127, e225_130, e225_131, e225_132, e225_133, e225_136, e225_137, e225_138, e225_139, e225_140, e225_143, e225_144, e225_147, e225_148, e225_149, e225_150, e225_153, e225_154, e225_155, e225_156, e225_159, e225_160, e225_161, kl_I, kl_R, kl_N, kl_L, oSm, oNn, Option.bind_some, wN, if_pos, if_neg, nS, tN, t0, w0, w1, w2, w3, w4, w5, wm1, upA_ne, upA_same, if_true, if_false, Bool.false_eq_true, q225, i1, hN, i2, i3, b1]
            exact End.of rfl ⟨rfl, b3⟩
        · rw [if_neg h4, aHas, if_neg (by omega), if_neg (by omega), if_neg (by omega)]
          simp (disch := first | assumption | omega | (simp (disch := omega) only [wN, w0, w1]; omega)) only [e225_0, e225_1, e225_3, e225_5, e225_8, e225_11, e225_12, e225_14, e225_16, e225_17, e225_20, e225_21, e225_24, e225_27, e225_28, e225_30, e225_32, e225_33, e225_36, e225_37, e225_40, e225_43, e225_44, e225_45, e225_48, e225_49, e225_50_d, e225_50_0, e225_50_1, e225_50_2, e225_50_3, e225_50_4, e225_50_5, e225_50_6, e225_92, e225_93, e225_96, e225_97, e225_98, e225_99, e225_100, e225_101, e225_104, e225_105, e225_106, e225_107, e225_110, e225_111, e225_114, e225_117, e225_118, e225_121, e225_122, e225_125, e225_126, e225_127, e225_130, e225_131, e225_132, e225_133, e225_136, e225_137, e225_138, e225_139, e225_140, e225_143, e225_144, e225_147, e225_148, e225_149, e225_150, e225_153, e225_154, e225_155, e225_156, e225_159, e225_160, e225_161, kl_I, kl_R, kl_N, kl_L, oSm, oNn, Option.bind_some, wN, if_pos, if_neg, nS, tN, t0, w0, w1, w2, w3, w4, w5, wm1, upA_ne, upA_same, if_true, if_false, Bool.false_eq_true, q225, i1, hN, i2, i3]
          exact End.of rfl ⟨rfl, hI⟩
end NF

