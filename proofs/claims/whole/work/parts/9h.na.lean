/-! ===== the reference: ahead ===== -/
section NA
variable {sh : Shp} {d : Nat} {σ : Mem} {z w : Int} {a : AX}
theorem M213 (hM : MS sh) (h : InvM sh σ a) (hz : i32 z) (hw : i32 w) : End (run sh (d + 4) 213 [mR 124, mI z, mI w] σ) (fun r σ' => r = some (mI (aAhead a z w)) ∧ InvM sh σ' a) := by
  have hI := h
  have mo := hM.1
  have m160 := hM.2.1
  obtain ⟨ra1, rk1, rl1⟩ := ms1 hM
  obtain ⟨ra32, rk32, rl32⟩ := ms32 hM
  obtain ⟨ra33, rk33, rl33⟩ := ms33 hM
  obtain ⟨⟨n, c, m, E, P, x⟩, K, B, s, T⟩ := a
  obtain ⟨⟨hG, hN, hMp, hEl, hx0, hE, hP, hoS⟩, hik, hKp, hTp, h140, hTm⟩ := id h
  replace hG : HGm σ 0 c := hG
  replace hN : σ.1 124 8 = (n : Int) := hN
  replace hMp : σ.1 124 9 = (m : Int) := hMp
  replace hEl : σ.1 124 10 = (E.length : Int) := hEl
  replace hx0 : σ.1 124 11 = (x : Int) := hx0
  replace hE : HEm σ 127 128 E := hE
  replace hP : ∀ y, y < n → σ.1 129 y = (P y : Int) := hP
  replace hoS : okZ n c m E P x := hoS
  replace hTp : HPm σ B s := hTp
  replace h140 : s ≤ 140 := h140
  replace hTm : HT sh σ 157 T := hTm
  replace hik : σ.1 124 16 = bi K.isSome := hik
  obtain ⟨n1, n4', c30, hv, m2, m5, E10, hvE, hPk, x16⟩ := id hoS
  have ww := hw.w
  have eg := M190 (sh := sh) (d := d + 2) hM hG c30 hz
  have ei := E164 (sh := sh) (d := d + 3) (σ := σ) (z := w) (w := 0) (v := 2) hw ⟨by omega, by omega⟩ ⟨by omega, by omega⟩
  show End _ (fun r σ' => r = some (mI (aAhead ((n, c, m, E, P, x), K, B, s, T) z w)) ∧ _)
  unfold aAhead
  simp only
  by_cases h1 : z < 0 ∨ (c.length : Int) ≤ z
  · rw [if_neg (by omega)] at eg
    rw [if_pos (by omega)]
    simp (disch := first | assumption | omega | (simp (disch := omega) only [wN, w0, w1]; omega)) only [e213_0, e213_1, e213_2, e213_5, e213_8, e213_9, e213_10, e213_11, e213_14, e213_17, e213_18, e213_19, e213_20, e213_21, e213_24, e213_25, e213_26, e213_29, e213_30, e213_33, e213_34, e213_37, e213_38, e213_39, e213_42, e213_43, e213_46, e213_47, e213_48, e213_49, e213_50, e213_51, e213_52, e213_54, e213_56, e213_57, e213_60, e213_61, e213_62, e213_65, e213_66, e213_67, e213_68, e213_70, e213_73, e213_76, e213_77, e213_78, e213_80, e213_81, e213_82, e213_83, e213_86, e213_89, e213_90, kl_I, kl_R, kl_N, kl_L, oSm, oNn, Option.bind_some, wN, if_pos, if_neg, nS, tN, t0, w0, w1, w2, w3, w4, w5, wm1, upA_ne, upA_same, if_true, if_false, Bool.false_eq_true, q213, eg]
    exact End.of rfl ⟨rfl, hI⟩
  · rw [if_pos (by omega)] at eg
    by_cases h2 : w < 0 ∨ 2 < w
    · rw [if_neg (by omega)] at ei
      rw [if_pos (by omega)]
      simp (disch := first | assumption | omega | (simp (disch := omega) only [wN, w0, w1]; omega)) only [e213_0, e213_1, e213_2, e213_5, e213_8, e213_9, e213_10, e213_11, e213_14, e213_17, e213_18, e213_19, e213_20, e213_21, e213_24, e213_25, e213_26, e213_29, e213_30, e213_33, e213_34, e213_37, e213_38, e213_39, e213_42, e213_43, e213_46, e213_47, e213_48, e213_49, e213_50, e213_51, e213_52, e213_54, e213_56, e213_57, e213_60, e213_61, e213_62, e213_65, e213_66, e213_67, e213_68, e213_70, e213_73, e213_76, e213_77, e213_78, e213_80, e213_81, e213_82, e213_83, e213_86, e213_89, e213_90, kl_I, kl_R, kl_N, kl_L, oSm, oNn, Option.bind_some, wN, if_pos, if_neg, nS, tN, t0, w0, w1, w2, w3, w4, w5, wm1, upA_ne, upA_same, if_true, if_false, Bool.false_eq_true, q213, eg, ei]
      exact End.of rfl ⟨rfl, hI⟩
    · rw [if_pos (by omega)] at ei
      rw [if_neg (by omega)]
      obtain ⟨k, rfl⟩ : ∃ k : Nat, z = (k : Int) := ⟨z.toNat, by omega⟩
      have hk : k < c.length := by omega
      have wk : wi (k : Int) = (k : Int) := wN (by omega)
      obtain ⟨r, σ1, a1, rfl, a3, a4⟩ := M211 (d := d) (z := 0) hM hG (by omega) c30 hv hN n4' rfl
      have hI1 := hI.W a4 (by omega) (by omega) (by omega)
      obtain ⟨g1, g2, _⟩ := a3 k hk
      simp only [Int.toNat_natCast]
      by_cases h4 : w = 2
      · rw [if_pos h4]
        subst h4
        have c31 : 2 ^ c.length ≤ 2147483648 := p31 (by omega)
        have L := for_P (c.length) (fun i => ∀ (σ2 : Mem), (frW 137 142 1 0 σ σ2) → End (ev sh (d + 4) 213 54 [some (mR (124)), some (mI ((k : Nat) : Int)), some (mI (2)), some (mI ((bts (fun y => cmB (gA c k) (gA c y)) i : Nat) : Int)), some (mI ((i : Nat) : Int))] [] σ2) (fun r σ' => r = some (mI (bts (fun y => cmB (gA c k) (gA c y)) c.length : Int)) ∧ InvM sh σ' ((n, c, m, E, P, x), K, B, s, T))) (by
          intro σ2  hp
          replace hp : frW 137 142 1 0 σ σ2 := hp
          show End (ev sh (d + 4) 213 54 [some (mR (124)), some (mI ((k : Nat) : Int)), some (mI (2)), some (mI ((bts (fun y => cmB (gA c k) (gA c y)) (c.length) : Nat) : Int)), some (mI (((c.length) : Nat) : Int))] [] σ2) (fun r σ' => r = some (mI (bts (fun y => cmB (gA c k) (gA c y)) c.length : Int)) ∧ InvM sh σ' ((n, c, m, E, P, x), K, B, s, T))
          have hl : σ2.1 126 0 = (c.length : Int) := by rw [(hp.1 126 (by omega) (by omega)).1]; exact hG.1
          rw [e213_54]
          simp (disch := first | assumption | omega | (simp (disch := omega) only [wN, w0, w1]; omega)) only [e213_0, e213_1, e213_2, e213_5, e213_8, e213_9, e213_10, e213_11, e213_14, e213_17, e213_18, e213_19, e213_20, e213_21, e213_24, e213_25, e213_26, e213_29, e213_30, e213_33, e213_34, e213_37, e213_38, e213_39, e213_42, e213_43, e213_46, e213_47, e213_48, e213_49, e213_50, e213_51, e213_52, e213_56, e213_57, e213_60, e213_61, e213_62, e213_65, e213_66, e213_67, e213_68, e213_70, e213_73, e213_76, e213_77, e213_78, e213_80, e213_81, e213_82, e213_83, e213_86, e213_89, e213_90, kl_I, kl_R, kl_N, kl_L, oSm, oNn, Option.bind_some, wN, if_pos, if_neg, nS, tN, t0, w0, w1, w2, w3, w4, w5, wm1, upA_ne, upA_same, if_true, if_false, Bool.false_eq_true, ra1, rl1, hl]
          exact End.of rfl ⟨rfl, hI.W hp (by omega) (by omega) (by omega)⟩) (fun i hi ih => by
          replace ih : ∀ (σ2 : Mem), (frW 137 142 1 0 σ σ2) → End (ev sh (d + 4) 213 54 [some (mR (124)), some (mI ((k : Nat) : Int)), some (mI (2)), some (mI ((bts (fun y => cmB (gA c k) (gA c y)) (i + 1) : Nat) : Int)), some (mI (((i + 1) : Nat) : Int))] [] σ2) (fun r σ' => r = some (mI (bts (fun y => cmB (gA c k) (gA c y)) c.length : Int)) ∧ InvM sh σ' ((n, c, m, E, P, x), K, B, s, T)) := ih
          intro σ2  hp
          replace hp : frW 137 142 1 0 σ σ2 := hp
          show End (ev sh (d + 4) 213 54 [some (mR (124)), some (mI ((k : Nat) : Int)), some (mI (2)), some (mI ((bts (fun y => cmB (gA c k) (gA c y)) i : Nat) : Int)), some (mI ((i : Nat) : Int))] [] σ2) (fun r σ' => r = some (mI (bts (fun y => cmB (gA c k) (gA c y)) c.length : Int)) ∧ InvM sh σ' ((n, c, m, E, P, x), K, B, s, T))
          have hG2 : HGm σ2 0 c := hG.k (by rw [(hp.1 126 (by omega) (by omega)).1]) (fun _ _ _ => by rw [(hp.1 125 (by omega) (by omega)).1])
          have hN2 : σ2.1 124 8 = (n : Int) := by rw [hp.2 8 (by omega)]; exact hN
          have hl := hG2.1
          obtain ⟨r, σ3, b1, rfl, b3⟩ := M210c (d := d + 1) (z := 0) hM hG2 (by omega) c30 hv hN2 n4' hk hi rfl
          have xs := xshl_1 (k := i) (by omega)
          have lb := bts_lt (fun y => cmB (gA c k) (gA c y)) i
          have li : 2 ^ i < 2147483648 := Nat.lt_of_lt_of_le (Nat.pow_lt_pow_right (by omega) (show i < 31 by omega)) (p31 (Nat.le_refl 31))
          have x2 := xor_nn (a := bts (fun y => cmB (gA c k) (gA c y)) i) (b := 2 ^ i) (by omega) li
          have ih2 := fun σ3 q => ih σ3 q
          rw [show bts (fun y => cmB (gA c k) (gA c y)) (i + 1) = if cmB (gA c k) (gA c i) = true then bts (fun y => cmB (gA c k) (gA c y)) i ||| 2 ^ i else bts (fun y => cmB (gA c k) (gA c y)) i from rfl] at ih
          clear ih2
          rw [e213_54]
          by_cases hc : cmB (gA c k) (gA c i) = true
          · rw [if_pos hc] at b1 ih
            simp (disch := first | assumption | omega | (simp (disch := omega) only [wN, w0, w1]; omega)) only [e213_0, e213_1, e213_2, e213_5, e213_8, e213_9, e213_10, e213_11, e213_14, e213_17, e213_18, e213_19, e213_20, e213_21, e213_24, e213_25, e213_26, e213_29, e213_30, e213_33, e213_34, e213_37, e213_38, e213_39, e213_42, e213_43, e213_46, e213_47, e213_48, e213_49, e213_50, e213_51, e213_52, e213_56, e213_57, e213_60, e213_61, e213_62, e213_65, e213_66, e213_67, e213_68, e213_70, e213_73, e213_76, e213_77, e213_78, e213_80, e213_81, e213_82, e213_83, e213_86, e213_89, e213_90, kl_I, kl_R, kl_N, kl_L, oSm, oNn, Option.bind_some, wN, if_pos, if_neg, nS, tN, t0, w0, w1, w2, w3, w4, w5, wm1, upA_ne, upA_same, if_true, if_false, Bool.false_eq_true, ra1, rl1, hl, b1, xs, x2]
            exact ih _ (hp.tr (b3.w (by omega) (by omega) (by omega) (by omega)))
          · rw [if_neg hc] at b1 ih
            simp (disch := first | assumption | omega | (simp (disch := omega) only [wN, w0, w1]; omega)) only [e213_0, e213_1, e213_2, e213_5, e213_8, e213_9, e213_10, e213_11, e213_14, e213_17, e213_18, e213_19, e213_20, e213_21, e213_24, e213_25, e213_26, e213_29, e213_30, e213_33, e213_34, e213_37, e213_38, e213_39, e213_42, e213_43, e213_46, e213_47, e213_48, e213_49, e213_50, e213_51, e213_52, e213_56, e213_57, e213_60, e213_61, e213_62, e213_65, e213_66, e213_67, e213_68, e213_70, e213_73, e213_76, e213_77, e213_78, e213_80, e213_81, e213_82, e213_83, e213_86, e213_89, e213_90, kl_I, kl_R, kl_N, kl_L, oSm, oNn, Option.bind_some, wN, if_pos, if_neg, nS, tN, t0, w0, w1, w2, w3, w4, w5, wm1, upA_ne, upA_same, if_true, if_false, Bool.false_eq_true, ra1, rl1, hl, b1]
            exact ih _ (hp.tr (b3.w (by omega) (by omega) (by omega) (by omega)))) 0 (Nat.zero_le _)
        simp (disch := first | assumption | omega | (simp (disch := omega) only [wN, w0, w1]; omega)) only [e213_0, e213_1, e213_2, e213_5, e213_8, e213_9, e213_10, e213_11, e213_14, e213_17, e213_18, e213_19, e213_20, e213_21, e213_24, e213_25, e213_26, e213_29, e213_30, e213_33, e213_34, e213_37, e213_38, e213_39, e213_42, e213_43, e213_46, e213_47, e213_48, e213_49, e213_50, e213_51, e213_52, e213_56, e213_57, e213_60, e213_61, e213_62, e213_65, e213_66, e213_67, e213_68, e213_70, e213_73, e213_76, e213_77, e213_78, e213_80, e213_81, e213_82, e213_83, e213_86, e213_89, e213_90, kl_I, kl_R, kl_N, kl_L, oSm, oNn, Option.bind_some, wN, if_pos, if_neg, nS, tN, t0, w0, w1, w2, w3, w4, w5, wm1, upA_ne, upA_same, if_true, if_false, Bool.false_eq_true, q213, eg, ei, a1]
        exact L _ a4
      · rw [if_neg h4]
        rcases (show w = 0 ∨ w = 1 by omega) with rfl | rfl
        · simp (disch := first | assumption | omega | (simp (disch := omega) only [wN, w0, w1]; omega)) only [e213_0, e213_1, e213_2, e213_5, e213_8, e213_9, e213_10, e213_11, e213_14, e213_17, e213_18, e213_19, e213_20, e213_21, e213_24, e213_25, e213_26, e213_29, e213_30, e213_33, e213_34, e213_37, e213_38, e213_39, e213_42, e213_43, e213_46, e213_47, e213_48, e213_49, e213_50, e213_51, e213_52, e213_56, e213_57, e213_60, e213_61, e213_62, e213_65, e213_66, e213_67, e213_68, e213_70, e213_73, e213_76, e213_77, e213_78, e213_80, e213_81, e213_82, e213_83, e213_86, e213_89, e213_90, kl_I, kl_R, kl_N, kl_L, oSm, oNn, Option.bind_some, wN, if_pos, if_neg, nS, tN, t0, w0, w1, w2, w3, w4, w5, wm1, upA_ne, upA_same, if_true, if_false, Bool.false_eq_true, q213, eg, ei, a1, ra32, rl32, ra33, rl33, g1, g2]
          exact End.of rfl ⟨rfl, hI1⟩
        · simp (disch := first | assumption | omega | (simp (disch := omega) only [wN, w0, w1]; omega)) only [e213_0, e213_1, e213_2, e213_5, e213_8, e213_9, e213_10, e213_11, e213_14, e213_17, e213_18, e213_19, e213_20, e213_21, e213_24, e213_25, e213_26, e213_29, e213_30, e213_33, e213_34, e213_37, e213_38, e213_39, e213_42, e213_43, e213_46, e213_47, e213_48, e213_49, e213_50, e213_51, e213_52, e213_56, e213_57, e213_60, e213_61, e213_62, e213_65, e213_66, e213_67, e213_68, e213_70, e213_73, e213_76, e213_77, e213_78, e213_80, e213_81, e213_82, e213_83, e213_86, e213_89, e213_90, kl_I, kl_R, kl_N, kl_L, oSm, oNn, Option.bind_some, wN, if_pos, if_neg, nS, tN, t0, w0, w1, w2, w3, w4, w5, wm1, upA_ne, upA_same, if_true, if_false, Bool.false_eq_true, q213, eg, ei, a1, ra32, rl32, ra33, rl33, g1, g2]
          exact End.of rfl ⟨rfl, hI1⟩
end NA

