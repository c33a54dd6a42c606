/-! ===== route, routed, bestLook, lasts ===== -/
section XK
variable {sh : Shp} {d : Nat} {σ : Mem} {a : AX} {z w v i : Int}
theorem frR0_lt : frR0 a z = -3 ∧ a.1.2.2.1 < a.1.1 ∨ frR0 a z = -6 ∧ ¬ a.1.2.2.1 < a.1.1 ∧ (rtA a z).2 = false ∨ frR0 a z = 0 ∧ ¬ a.1.2.2.1 < a.1.1 ∧ (rtA a z).2 = true := by
  unfold frR0
  by_cases h : a.1.2.2.1 < a.1.1
  · rw [if_pos h]; exact Or.inl ⟨rfl, h⟩
  · rw [if_neg h]
    cases hq : (rtA a z).2 with
    | true => exact Or.inr (Or.inr ⟨rfl, h, rfl⟩)
    | false => exact Or.inr (Or.inl ⟨rfl, h, rfl⟩)
theorem stL_len {x : RS} : (stL x).length = x.2.1.2.2.length := by simp [stL]
/-- what a route that was found tells -/
theorem ro_ok (hX : XS sh) (h : InvX sh σ a) (hr : HRx σ 70 a.1.1 a.1.2.2.1 a.1.2.1 a.1.2.2.2.1 (ahS (decide (10 ≤ z)) a.1.2.1) (rtA a z).1 ∧ okR a.1.1 a.1.2.2.1 a.1.2.1 (rtA a z).1 ∧ okC a.1.2.2.1 (stL (rtA a z).1)) : σ.1 70 4 = ((rtA a z).1.2.2 : Int) ∧ HG σ 92 (stL (rtA a z).1) ∧ (stL (rtA a z).1).length ≤ 70 ∧ (rtA a z).1.2.2 ≤ 40 ∧ HSt σ 70 (rtA a z).1.2.1.2.2 ∧ HL σ 88 a.1.1 (rtA a z).1.1 ∧ okP a.1.1 a.1.2.2.1 (rtA a z).1.1 := by
  obtain ⟨⟨⟨hK, hM, hW, hSt⟩, hn⟩, ⟨o1, o2, o3, o4, o5, o6⟩, hC⟩ := hr
  have := pcD_le (rtA a z).1.2.1.1 a.1.2.1.length
  have c30 : a.1.2.1.length ≤ 30 := h.1.2.2.2.1
  exact ⟨hn, hSt.1, by rw [stL_len]; omega, o4, hSt, hM.1, o1⟩
theorem X150 (hX : XS sh) (h : InvX sh σ a) (hz : i32 z) (hw' : i32 w) : End (run sh (d + 7) 150 [mR 0, mI z, mI w] σ) (fun r σ' => r = some (mI (aRoute a z w)) ∧ InvX sh σ' a) := by
  have e148 := X148 (sh := sh) (d := d + 5) (σ := σ) hz
  have e121 := X121 (d := d + 5) (z := w - 10) hX h
  obtain ⟨ho, -, -, -, -, -, -, -, -, -, -, -, s12, -, -, -, -, -, -, -, -, -, -, -, -, -, -, hrou, -, hsh, hR⟩ := id hX
  obtain ⟨pro, p0, p1, p2, p3, pcr, pgl, -, -, -, -, -⟩ := id hrou
  obtain ⟨pco, -, -, pc2, -, -, -, pl, -, -, -⟩ := id pcr
  have pgo := pgl.1
  have plo := pl.1
  have ww := hw'.w
  have hn4 : a.1.1 ≤ 4 := h.1.2.2.1
  have hm5 : a.1.2.2.1 ≤ 5 := h.1.2.2.2.2.2.2.1
  have c10 : (0 ≤ wi (w - 10) ∧ wi (w - 10) < (a.1.1 : Int)) ↔ (10 ≤ w ∧ w < 10 + a.1.1) := wi_sub (k := 10) hw' (by omega) (by omega)
  unfold aRoute
  by_cases h1 : lkB z = false
  · rw [if_pos (Or.inl h1)]
    rw [h1] at e148
    have e148 : run sh (d + 6) 148 [mI z] σ = some (some (mI 0), σ) := e148
    simp (disch := first | assumption | omega | (simp (disch := omega) only [wN, w0, w1]; omega)) only [e150_0, e150_1, e150_4, e150_7, e150_8, e150_9, e150_11, e150_12, e150_15, e150_18, e150_19, e150_22, e150_23, e150_24, e150_27, e150_28, e150_29, e150_30, e150_31, e150_34, e150_35, e150_36, e150_39, e150_40, e150_41, e150_42_d, e150_42_0, e150_42_1, e150_42_2, e150_68, e150_69, e150_72, e150_75, e150_76, e150_77, e150_80, e150_83, e150_86, e150_87, e150_88, e150_91, e150_94, e150_97, e150_98, e150_101, e150_102, e150_103, e150_106, e150_109, e150_112, e150_113, e150_115, e150_116, e150_119, kl_I, kl_R, kl_N, kl_L, oSm, oNn, Option.bind_some, wN, if_pos, if_neg, nS, tN, t0, w0, w1, w2, w3, w4, w5, wm1, upA_ne, upA_same, if_true, if_false, Bool.false_eq_true, q150, e148]
    exact End.of rfl ⟨rfl, h⟩
  · have h1t : lkB z = true := by simpa using h1
    rw [h1t] at e148
    have e148 : run sh (d + 6) 148 [mI z] σ = some (some (mI 1), σ) := e148
    by_cases h2 : ¬(10 ≤ w ∧ w < 10 + a.1.1) ∧ (w < 0 ∨ 2 < w)
    · rw [if_pos (Or.inr h2)]
      rw [if_neg (fun q => h2.1 (c10.mp q))] at e121
      by_cases h3 : w < 0
      · simp (disch := first | assumption | omega | (simp (disch := omega) only [wN, w0, w1]; omega)) only [e150_0, e150_1, e150_4, e150_7, e150_8, e150_9, e150_11, e150_12, e150_15, e150_18, e150_19, e150_22, e150_23, e150_24, e150_27, e150_28, e150_29, e150_30, e150_31, e150_34, e150_35, e150_36, e150_39, e150_40, e150_41, e150_42_d, e150_42_0, e150_42_1, e150_42_2, e150_68, e150_69, e150_72, e150_75, e150_76, e150_77, e150_80, e150_83, e150_86, e150_87, e150_88, e150_91, e150_94, e150_97, e150_98, e150_101, e150_102, e150_103, e150_106, e150_109, e150_112, e150_113, e150_115, e150_116, e150_119, kl_I, kl_R, kl_N, kl_L, oSm, oNn, Option.bind_some, wN, if_pos, if_neg, nS, tN, t0, w0, w1, w2, w3, w4, w5, wm1, upA_ne, upA_same, if_true, if_false, Bool.false_eq_true, q150, e148, e121, ww]
        exact End.of rfl ⟨rfl, h⟩
      · have h3' : 2 < w := by omega
        clear h2
        simp (disch := first | assumption | omega | (simp (disch := omega) only [wN, w0, w1]; omega)) only [e150_0, e150_1, e150_4, e150_7, e150_8, e150_9, e150_11, e150_12, e150_15, e150_18, e150_19, e150_22, e150_23, e150_24, e150_27, e150_28, e150_29, e150_30, e150_31, e150_34, e150_35, e150_36, e150_39, e150_40, e150_41, e150_42_d, e150_42_0, e150_42_1, e150_42_2, e150_68, e150_69, e150_72, e150_75, e150_76, e150_77, e150_80, e150_83, e150_86, e150_87, e150_88, e150_91, e150_94, e150_97, e150_98, e150_101, e150_102, e150_103, e150_106, e150_109, e150_112, e150_113, e150_115, e150_116, e150_119, kl_I, kl_R, kl_N, kl_L, oSm, oNn, Option.bind_some, wN, if_pos, if_neg, nS, tN, t0, w0, w1, w2, w3, w4, w5, wm1, upA_ne, upA_same, if_true, if_false, Bool.false_eq_true, q150, e148, e121, ww]
        exact End.of rfl ⟨rfl, h⟩
    · rw [if_neg (fun q => by rcases q with q | q; exact h1 q; exact h2 q)]
      obtain ⟨r, σ1, a1, a2, a3, a4⟩ := X149 (d := d) hX h hz h1t
      rw [a2] at a1
      have pre : run sh (d + 7) 150 [mR 0, mI z, mI w] σ = ev sh (d + 7) 150 35 [some (mR (0)), some (mI (z)), some (mI (w)), some (mI (frR0 a z))] [] σ1 := by
        by_cases h3 : 10 ≤ w ∧ w < 10 + a.1.1
        · rw [if_pos (c10.mpr h3)] at e121
          simp (disch := first | assumption | omega | (simp (disch := omega) only [wN, w0, w1]; omega)) only [e150_0, e150_1, e150_4, e150_7, e150_8, e150_9, e150_11, e150_12, e150_15, e150_18, e150_19, e150_22, e150_23, e150_24, e150_27, e150_28, e150_29, e150_30, e150_31, e150_34, e150_36, e150_39, e150_40, e150_41, e150_42_d, e150_42_0, e150_42_1, e150_42_2, e150_68, e150_69, e150_72, e150_75, e150_76, e150_77, e150_80, e150_83, e150_86, e150_87, e150_88, e150_91, e150_94, e150_97, e150_98, e150_101, e150_102, e150_103, e150_106, e150_109, e150_112, e150_113, e150_115, e150_116, e150_119, kl_I, kl_R, kl_N, kl_L, oSm, oNn, Option.bind_some, wN, if_pos, if_neg, nS, tN, t0, w0, w1, w2, w3, w4, w5, wm1, upA_ne, upA_same, if_true, if_false, Bool.false_eq_true, q150, e148, e121, a1]
        · rw [if_neg (fun q => h3 (c10.mp q))] at e121
          have g1 : 0 ≤ w := by omega
          have g2 : w ≤ 2 := by omega
          simp (disch := first | assumption | omega | (simp (disch := omega) only [wN, w0, w1]; omega)) only [e150_0, e150_1, e150_4, e150_7, e150_8, e150_9, e150_11, e150_12, e150_15, e150_18, e150_19, e150_22, e150_23, e150_24, e150_27, e150_28, e150_29, e150_30, e150_31, e150_34, e150_36, e150_39, e150_40, e150_41, e150_42_d, e150_42_0, e150_42_1, e150_42_2, e150_68, e150_69, e150_72, e150_75, e150_76, e150_77, e150_80, e150_83, e150_86, e150_87, e150_88, e150_91, e150_94, e150_97, e150_98, e150_101, e150_102, e150_103, e150_106, e150_109, e150_112, e150_113, e150_115, e150_116, e150_119, kl_I, kl_R, kl_N, kl_L, oSm, oNn, Option.bind_some, wN, if_pos, if_neg, nS, tN, t0, w0, w1, w2, w3, w4, w5, wm1, upA_ne, upA_same, if_true, if_false, Bool.false_eq_true, q150, e148, e121, ww, a1]
      rw [pre]
      have w3 : wi (-3) = -3 := rfl
      have w6 : wi (-6) = -6 := rfl
      rcases frR0_lt (a := a) (z := z) with ⟨e, g⟩ | ⟨e, g, g2⟩ | ⟨e, g, g2⟩
      · rw [e, if_pos g]
        simp (disch := first | assumption | omega | (simp (disch := omega) only [wN, w0, w1]; omega)) only [e150_0, e150_1, e150_4, e150_7, e150_8, e150_9, e150_11, e150_12, e150_15, e150_18, e150_19, e150_22, e150_23, e150_24, e150_27, e150_28, e150_29, e150_30, e150_31, e150_34, e150_35, e150_36, e150_39, e150_40, e150_41, e150_42_d, e150_42_0, e150_42_1, e150_42_2, e150_68, e150_69, e150_72, e150_75, e150_76, e150_77, e150_80, e150_83, e150_86, e150_87, e150_88, e150_91, e150_94, e150_97, e150_98, e150_101, e150_102, e150_103, e150_106, e150_109, e150_112, e150_113, e150_115, e150_116, e150_119, kl_I, kl_R, kl_N, kl_L, oSm, oNn, Option.bind_some, wN, if_pos, if_neg, nS, tN, t0, w0, w1, w2, w3, w4, w5, wm1, upA_ne, upA_same, if_true, if_false, Bool.false_eq_true, w3]
        exact End.of rfl ⟨rfl, a3⟩
      · rw [e, if_neg g, if_pos g2]
        simp (disch := first | assumption | omega | (simp (disch := omega) only [wN, w0, w1]; omega)) only [e150_0, e150_1, e150_4, e150_7, e150_8, e150_9, e150_11, e150_12, e150_15, e150_18, e150_19, e150_22, e150_23, e150_24, e150_27, e150_28, e150_29, e150_30, e150_31, e150_34, e150_35, e150_36, e150_39, e150_40, e150_41, e150_42_d, e150_42_0, e150_42_1, e150_42_2, e150_68, e150_69, e150_72, e150_75, e150_76, e150_77, e150_80, e150_83, e150_86, e150_87, e150_88, e150_91, e150_94, e150_97, e150_98, e150_101, e150_102, e150_103, e150_106, e150_109, e150_112, e150_113, e150_115, e150_116, e150_119, kl_I, kl_R, kl_N, kl_L, oSm, oNn, Option.bind_some, wN, if_pos, if_neg, nS, tN, t0, w0, w1, w2, w3, w4, w5, wm1, upA_ne, upA_same, if_true, if_false, Bool.false_eq_true, w6]
        exact End.of rfl ⟨rfl, a3⟩
      · rw [e, if_neg g, if_neg (by rw [g2]; simp)]
        obtain ⟨b1, b2, b3, b4, b5, b6, b7⟩ := ro_ok hX a3 (a4 g g2)
        have hone : HT sh σ1 sh.1 (fun _ => 1) := a3.2.2.2.2.2.2
        have hl := b2.1
        by_cases k0 : w = 0
        · subst k0
          simp (disch := first | assumption | omega | (simp (disch := omega) only [wN, w0, w1]; omega)) only [e150_0, e150_1, e150_4, e150_7, e150_8, e150_9, e150_11, e150_12, e150_15, e150_18, e150_19, e150_22, e150_23, e150_24, e150_27, e150_28, e150_29, e150_30, e150_31, e150_34, e150_35, e150_36, e150_39, e150_40, e150_41, e150_68, e150_69, e150_72, e150_75, e150_76, e150_77, e150_80, e150_83, e150_86, e150_87, e150_88, e150_91, e150_94, e150_97, e150_98, e150_101, e150_102, e150_103, e150_106, e150_109, e150_112, e150_113, e150_115, e150_116, e150_119, kl_I, kl_R, kl_N, kl_L, oSm, oNn, Option.bind_some, wN, if_pos, if_neg, nS, tN, t0, w0, w1, w2, w3, w4, w5, wm1, upA_ne, upA_same, if_true, if_false, Bool.false_eq_true]
          rw [e150_42_0 rfl]
          simp (disch := first | assumption | omega | (simp (disch := omega) only [wN, w0, w1]; omega)) only [e150_0, e150_1, e150_4, e150_7, e150_8, e150_9, e150_11, e150_12, e150_15, e150_18, e150_19, e150_22, e150_23, e150_24, e150_27, e150_28, e150_29, e150_30, e150_31, e150_34, e150_35, e150_36, e150_39, e150_40, e150_41, e150_68, e150_69, e150_72, e150_75, e150_76, e150_77, e150_80, e150_83, e150_86, e150_87, e150_88, e150_91, e150_94, e150_97, e150_98, e150_101, e150_102, e150_103, e150_106, e150_109, e150_112, e150_113, e150_115, e150_116, e150_119, kl_I, kl_R, kl_N, kl_L, oSm, oNn, Option.bind_some, wN, if_pos, if_neg, nS, tN, t0, w0, w1, w2, w3, w4, w5, wm1, upA_ne, upA_same, if_true, if_false, Bool.false_eq_true, s12, b1]
          exact End.of rfl ⟨rfl, a3⟩
        · rw [if_neg k0]
          by_cases k1 : w = 1
          · subst k1
            simp (disch := first | assumption | omega | (simp (disch := omega) only [wN, w0, w1]; omega)) only [e150_0, e150_1, e150_4, e150_7, e150_8, e150_9, e150_11, e150_12, e150_15, e150_18, e150_19, e150_22, e150_23, e150_24, e150_27, e150_28, e150_29, e150_30, e150_31, e150_34, e150_35, e150_36, e150_39, e150_40, e150_41, e150_68, e150_69, e150_72, e150_75, e150_76, e150_77, e150_80, e150_83, e150_86, e150_87, e150_88, e150_91, e150_94, e150_97, e150_98, e150_101, e150_102, e150_103, e150_106, e150_109, e150_112, e150_113, e150_115, e150_116, e150_119, kl_I, kl_R, kl_N, kl_L, oSm, oNn, Option.bind_some, wN, if_pos, if_neg, nS, tN, t0, w0, w1, w2, w3, w4, w5, wm1, upA_ne, upA_same, if_true, if_false, Bool.false_eq_true]
            rw [e150_42_1 rfl]
            simp (disch := first | assumption | omega | (simp (disch := omega) only [wN, w0, w1]; omega)) only [e150_0, e150_1, e150_4, e150_7, e150_8, e150_9, e150_11, e150_12, e150_15, e150_18, e150_19, e150_22, e150_23, e150_24, e150_27, e150_28, e150_29, e150_30, e150_31, e150_34, e150_35, e150_36, e150_39, e150_40, e150_41, e150_68, e150_69, e150_72, e150_75, e150_76, e150_77, e150_80, e150_83, e150_86, e150_87, e150_88, e150_91, e150_94, e150_97, e150_98, e150_101, e150_102, e150_103, e150_106, e150_109, e150_112, e150_113, e150_115, e150_116, e150_119, kl_I, kl_R, kl_N, kl_L, oSm, oNn, Option.bind_some, wN, if_pos, if_neg, nS, tN, t0, w0, w1, w2, w3, w4, w5, wm1, upA_ne, upA_same, if_true, if_false, Bool.false_eq_true, s12, p1, hl]
            exact End.of rfl ⟨rfl, a3⟩
          · rw [if_neg k1]
            by_cases k2 : w = 2
            · subst k2
              have e64 : run sh (d + 6) 64 [mR 92, mR sh.1, mI 0] σ1 = _ := L64 (d := d + 2) (lo := false) pgl b2 b3 (by omega) (a4 g g2).2.2 hm5 hone (by omega)
              simp (disch := first | assumption | omega | (simp (disch := omega) only [wN, w0, w1]; omega)) only [e150_0, e150_1, e150_4, e150_7, e150_8, e150_9, e150_11, e150_12, e150_15, e150_18, e150_19, e150_22, e150_23, e150_24, e150_27, e150_28, e150_29, e150_30, e150_31, e150_34, e150_35, e150_36, e150_39, e150_40, e150_41, e150_68, e150_69, e150_72, e150_75, e150_76, e150_77, e150_80, e150_83, e150_86, e150_87, e150_88, e150_91, e150_94, e150_97, e150_98, e150_101, e150_102, e150_103, e150_106, e150_109, e150_112, e150_113, e150_115, e150_116, e150_119, kl_I, kl_R, kl_N, kl_L, oSm, oNn, Option.bind_some, wN, if_pos, if_neg, nS, tN, t0, w0, w1, w2, w3, w4, w5, wm1, upA_ne, upA_same, if_true, if_false, Bool.false_eq_true]
              rw [e150_42_2 rfl]
              simp (disch := first | assumption | omega | (simp (disch := omega) only [wN, w0, w1]; omega)) only [e150_0, e150_1, e150_4, e150_7, e150_8, e150_9, e150_11, e150_12, e150_15, e150_18, e150_19, e150_22, e150_23, e150_24, e150_27, e150_28, e150_29, e150_30, e150_31, e150_34, e150_35, e150_36, e150_39, e150_40, e150_41, e150_68, e150_69, e150_72, e150_75, e150_76, e150_77, e150_80, e150_83, e150_86, e150_87, e150_88, e150_91, e150_94, e150_97, e150_98, e150_101, e150_102, e150_103, e150_106, e150_109, e150_112, e150_113, e150_115, e150_116, e150_119, kl_I, kl_R, kl_N, kl_L, oSm, oNn, Option.bind_some, wN, if_pos, if_neg, nS, tN, t0, w0, w1, w2, w3, w4, w5, wm1, upA_ne, upA_same, if_true, if_false, Bool.false_eq_true, s12, p1, hR, e64]
              exact End.of rfl ⟨rfl, a3.B (frI.B (frI.up (x := 70) (y := 100) (by omega))) (by omega) (by omega)⟩
            · rw [if_neg k2]
              obtain ⟨k, hk⟩ : ∃ k : Nat, w - 10 = (k : Int) := ⟨(w - 10).toNat, by omega⟩
              have e77 := Y77 (d := d + 5) pl b6 hn4 (show k < a.1.1 by omega)
              rw [hk, tN]
              simp (disch := first | assumption | omega | (simp (disch := omega) only [wN, w0, w1]; omega)) only [e150_0, e150_1, e150_4, e150_7, e150_8, e150_9, e150_11, e150_12, e150_15, e150_18, e150_19, e150_22, e150_23, e150_24, e150_27, e150_28, e150_29, e150_30, e150_31, e150_34, e150_35, e150_36, e150_39, e150_40, e150_41, e150_68, e150_69, e150_72, e150_75, e150_76, e150_77, e150_80, e150_83, e150_86, e150_87, e150_88, e150_91, e150_94, e150_97, e150_98, e150_101, e150_102, e150_103, e150_106, e150_109, e150_112, e150_113, e150_115, e150_116, e150_119, kl_I, kl_R, kl_N, kl_L, oSm, oNn, Option.bind_some, wN, if_pos, if_neg, nS, tN, t0, w0, w1, w2, w3, w4, w5, wm1, upA_ne, upA_same, if_true, if_false, Bool.false_eq_true, ww]
              rw [e150_42_d (by rw [ww]; omega)]
              simp (disch := first | assumption | omega | (simp (disch := omega) only [wN, w0, w1]; omega)) only [e150_0, e150_1, e150_4, e150_7, e150_8, e150_9, e150_11, e150_12, e150_15, e150_18, e150_19, e150_22, e150_23, e150_24, e150_27, e150_28, e150_29, e150_30, e150_31, e150_34, e150_35, e150_36, e150_39, e150_40, e150_41, e150_68, e150_69, e150_72, e150_75, e150_76, e150_77, e150_80, e150_83, e150_86, e150_87, e150_88, e150_91, e150_94, e150_97, e150_98, e150_101, e150_102, e150_103, e150_106, e150_109, e150_112, e150_113, e150_115, e150_116, e150_119, kl_I, kl_R, kl_N, kl_L, oSm, oNn, Option.bind_some, wN, if_pos, if_neg, nS, tN, t0, w0, w1, w2, w3, w4, w5, wm1, upA_ne, upA_same, if_true, if_false, Bool.false_eq_true, s12, p0, pc2, hk, e77]
              exact End.of rfl ⟨rfl, a3⟩
theorem X151 (hX : XS sh) (h : InvX sh σ a) (hz : i32 z) (hi' : i32 i) (hw' : i32 w) : End (run sh (d + 7) 151 [mR 0, mI z, mI i, mI w] σ) (fun r σ' => r = some (mI (aRouted a z i w)) ∧ InvX sh σ' a) := by
  have e148 := X148 (sh := sh) (d := d + 5) (σ := σ) hz
  obtain ⟨ho, -, -, -, -, -, -, -, -, -, -, -, s12, -, -, -, -, -, -, -, -, -, -, -, -, -, -, hrou, -, hsh, hR⟩ := id hX
  obtain ⟨pro, p0, p1, p2, p3, pcr, pgl, -, -, -, -, -⟩ := id hrou
  have pgo := pgl.1
  have ww := hw'.w
  have wii := hi'.w
  have hm5 : a.1.2.2.1 ≤ 5 := h.1.2.2.2.2.2.2.1
  unfold aRouted
  by_cases h1 : lkB z = false
  · rw [if_pos (Or.inl h1)]
    rw [h1] at e148
    have e148 : run sh (d + 6) 148 [mI z] σ = some (some (mI 0), σ) := e148
    simp (disch := first | assumption | omega | (simp (disch := omega) only [wN, w0, w1]; omega)) only [e151_0, e151_1, e151_4, e151_7, e151_8, e151_11, e151_12, e151_15, e151_16, e151_17, e151_20, e151_21, e151_22, e151_23, e151_24, e151_27, e151_29, e151_31, e151_34, e151_36, e151_37, e151_38, e151_41, e151_44, e151_45, e151_48, e151_51, e151_53, e151_54, e151_55, e151_56, e151_59, e151_60, e151_63, e151_64, e151_67, e151_70, e151_71, e151_74, e151_75, e151_76, e151_77, e151_80, e151_83, e151_84, e151_85, e151_88, kl_I, kl_R, kl_N, kl_L, oSm, oNn, Option.bind_some, wN, if_pos, if_neg, nS, tN, t0, w0, w1, w2, w3, w4, w5, wm1, upA_ne, upA_same, if_true, if_false, Bool.false_eq_true, q151, e148]
    exact End.of rfl ⟨rfl, h⟩
  · have h1t : lkB z = true := by simpa using h1
    rw [h1t] at e148
    have e148 : run sh (d + 6) 148 [mI z] σ = some (some (mI 1), σ) := e148
    by_cases h2 : i < 0
    · rw [if_pos (by omega)]
      simp (disch := first | assumption | omega | (simp (disch := omega) only [wN, w0, w1]; omega)) only [e151_0, e151_1, e151_4, e151_7, e151_8, e151_11, e151_12, e151_15, e151_16, e151_17, e151_20, e151_21, e151_22, e151_23, e151_24, e151_27, e151_29, e151_31, e151_34, e151_36, e151_37, e151_38, e151_41, e151_44, e151_45, e151_48, e151_51, e151_53, e151_54, e151_55, e151_56, e151_59, e151_60, e151_63, e151_64, e151_67, e151_70, e151_71, e151_74, e151_75, e151_76, e151_77, e151_80, e151_83, e151_84, e151_85, e151_88, kl_I, kl_R, kl_N, kl_L, oSm, oNn, Option.bind_some, wN, if_pos, if_neg, nS, tN, t0, w0, w1, w2, w3, w4, w5, wm1, upA_ne, upA_same, if_true, if_false, Bool.false_eq_true, q151, e148, wii]
      exact End.of rfl ⟨rfl, h⟩
    · by_cases h3 : w < 0
      · rw [if_pos (by omega)]
        simp (disch := first | assumption | omega | (simp (disch := omega) only [wN, w0, w1]; omega)) only [e151_0, e151_1, e151_4, e151_7, e151_8, e151_11, e151_12, e151_15, e151_16, e151_17, e151_20, e151_21, e151_22, e151_23, e151_24, e151_27, e151_29, e151_31, e151_34, e151_36, e151_37, e151_38, e151_41, e151_44, e151_45, e151_48, e151_51, e151_53, e151_54, e151_55, e151_56, e151_59, e151_60, e151_63, e151_64, e151_67, e151_70, e151_71, e151_74, e151_75, e151_76, e151_77, e151_80, e151_83, e151_84, e151_85, e151_88, kl_I, kl_R, kl_N, kl_L, oSm, oNn, Option.bind_some, wN, if_pos, if_neg, nS, tN, t0, w0, w1, w2, w3, w4, w5, wm1, upA_ne, upA_same, if_true, if_false, Bool.false_eq_true, q151, e148, wii, ww]
        exact End.of rfl ⟨rfl, h⟩
      · by_cases h4 : 4 < w
        · rw [if_pos (by omega)]
          simp (disch := first | assumption | omega | (simp (disch := omega) only [wN, w0, w1]; omega)) only [e151_0, e151_1, e151_4, e151_7, e151_8, e151_11, e151_12, e151_15, e151_16, e151_17, e151_20, e151_21, e151_22, e151_23, e151_24, e151_27, e151_29, e151_31, e151_34, e151_36, e151_37, e151_38, e151_41, e151_44, e151_45, e151_48, e151_51, e151_53, e151_54, e151_55, e151_56, e151_59, e151_60, e151_63, e151_64, e151_67, e151_70, e151_71, e151_74, e151_75, e151_76, e151_77, e151_80, e151_83, e151_84, e151_85, e151_88, kl_I, kl_R, kl_N, kl_L, oSm, oNn, Option.bind_some, wN, if_pos, if_neg, nS, tN, t0, w0, w1, w2, w3, w4, w5, wm1, upA_ne, upA_same, if_true, if_false, Bool.false_eq_true, q151, e148, wii, ww]
          exact End.of rfl ⟨rfl, h⟩
        · rw [if_neg (fun q => by rcases q with q | q | q | q; exact h1 q; exact h2 q; exact h3 q; exact h4 q)]
          obtain ⟨r, σ1, a1, a2, a3, a4⟩ := X149 (d := d) hX h hz h1t
          rw [a2] at a1
          have w3 : wi (-3) = -3 := rfl
          have w6 : wi (-6) = -6 := rfl
          rcases frR0_lt (a := a) (z := z) with ⟨e, g⟩ | ⟨e, g, g2⟩ | ⟨e, g, g2⟩
          · rw [if_pos g]
            rw [e] at a1
            simp (disch := first | assumption | omega | (simp (disch := omega) only [wN, w0, w1]; omega)) only [e151_0, e151_1, e151_4, e151_7, e151_8, e151_11, e151_12, e151_15, e151_16, e151_17, e151_20, e151_21, e151_22, e151_23, e151_24, e151_27, e151_29, e151_31, e151_34, e151_36, e151_37, e151_38, e151_41, e151_44, e151_45, e151_48, e151_51, e151_53, e151_54, e151_55, e151_56, e151_59, e151_60, e151_63, e151_64, e151_67, e151_70, e151_71, e151_74, e151_75, e151_76, e151_77, e151_80, e151_83, e151_84, e151_85, e151_88, kl_I, kl_R, kl_N, kl_L, oSm, oNn, Option.bind_some, wN, if_pos, if_neg, nS, tN, t0, w0, w1, w2, w3, w4, w5, wm1, upA_ne, upA_same, if_true, if_false, Bool.false_eq_true, q151, e148, wii, ww, a1, w3]
            exact End.of rfl ⟨rfl, a3⟩
          · rw [if_neg g, if_pos g2]
            rw [e] at a1
            simp (disch := first | assumption | omega | (simp (disch := omega) only [wN, w0, w1]; omega)) only [e151_0, e151_1, e151_4, e151_7, e151_8, e151_11, e151_12, e151_15, e151_16, e151_17, e151_20, e151_21, e151_22, e151_23, e151_24, e151_27, e151_29, e151_31, e151_34, e151_36, e151_37, e151_38, e151_41, e151_44, e151_45, e151_48, e151_51, e151_53, e151_54, e151_55, e151_56, e151_59, e151_60, e151_63, e151_64, e151_67, e151_70, e151_71, e151_74, e151_75, e151_76, e151_77, e151_80, e151_83, e151_84, e151_85, e151_88, kl_I, kl_R, kl_N, kl_L, oSm, oNn, Option.bind_some, wN, if_pos, if_neg, nS, tN, t0, w0, w1, w2, w3, w4, w5, wm1, upA_ne, upA_same, if_true, if_false, Bool.false_eq_true, q151, e148, wii, ww, a1, w6]
            exact End.of rfl ⟨rfl, a3⟩
          · rw [if_neg g, if_neg (by rw [g2]; simp)]
            rw [e] at a1
            obtain ⟨b1, b2, b3, b4, b5, b6, b7⟩ := ro_ok hX a3 (a4 g g2)
            obtain ⟨k, rfl⟩ : ∃ k : Nat, i = (k : Int) := ⟨i.toNat, by omega⟩
            obtain ⟨q, rfl⟩ : ∃ k : Nat, w = (k : Int) := ⟨w.toNat, by omega⟩
            simp only [Int.toNat_natCast]
            have e45 := K45 (d := d + 6) (i := (k : Int)) pgl b2.1 b3 (by omega)
            rw [wii] at e45
            by_cases g3 : ((stL (rtA a z).1).length : Int) ≤ (k : Int)
            · rw [if_neg (by omega)] at e45
              rw [if_pos g3]
              simp (disch := first | assumption | omega | (simp (disch := omega) only [wN, w0, w1]; omega)) only [e151_0, e151_1, e151_4, e151_7, e151_8, e151_11, e151_12, e151_15, e151_16, e151_17, e151_20, e151_21, e151_22, e151_23, e151_24, e151_27, e151_29, e151_31, e151_34, e151_36, e151_37, e151_38, e151_41, e151_44, e151_45, e151_48, e151_51, e151_53, e151_54, e151_55, e151_56, e151_59, e151_60, e151_63, e151_64, e151_67, e151_70, e151_71, e151_74, e151_75, e151_76, e151_77, e151_80, e151_83, e151_84, e151_85, e151_88, kl_I, kl_R, kl_N, kl_L, oSm, oNn, Option.bind_some, wN, if_pos, if_neg, nS, tN, t0, w0, w1, w2, w3, w4, w5, wm1, upA_ne, upA_same, if_true, if_false, Bool.false_eq_true, q151, e148, wii, ww, a1, s12, p1, e45]
              exact End.of rfl ⟨rfl, a3⟩
            · rw [if_pos (by omega)] at e45
              rw [if_neg g3]
              have hkl : k < (rtA a z).1.2.1.2.2.length := by rw [← stL_len]; omega
              have h70 : (rtA a z).1.2.1.2.2.length ≤ 70 := by rw [← stL_len]; exact b3
              by_cases g4 : (q : Int) = 4
              · rw [if_pos g4]
                have e87 := Z87 (d := d + 5) hrou b5 hkl h70
                have hb : bi (sA (rtA a z).1.2.1.2.2 k).2 = 0 ∨ bi (sA (rtA a z).1.2.1.2.2 k).2 = 1 := by cases (sA (rtA a z).1.2.1.2.2 k).2 <;> simp [bi]
                generalize bi (sA (rtA a z).1.2.1.2.2 k).2 = bb at e87 hb ⊢
                rcases hb with rfl | rfl
                · simp (disch := first | assumption | omega | (simp (disch := omega) only [wN, w0, w1]; omega)) only [e151_0, e151_1, e151_4, e151_7, e151_8, e151_11, e151_12, e151_15, e151_16, e151_17, e151_20, e151_21, e151_22, e151_23, e151_24, e151_27, e151_29, e151_31, e151_34, e151_36, e151_37, e151_38, e151_41, e151_44, e151_45, e151_48, e151_51, e151_53, e151_54, e151_55, e151_56, e151_59, e151_60, e151_63, e151_64, e151_67, e151_70, e151_71, e151_74, e151_75, e151_76, e151_77, e151_80, e151_83, e151_84, e151_85, e151_88, kl_I, kl_R, kl_N, kl_L, oSm, oNn, Option.bind_some, wN, if_pos, if_neg, nS, tN, t0, w0, w1, w2, w3, w4, w5, wm1, upA_ne, upA_same, if_true, if_false, Bool.false_eq_true, q151, e148, wii, ww, a1, s12, p1, e45, e87]
                  exact End.of rfl ⟨rfl, a3⟩
                · simp (disch := first | assumption | omega | (simp (disch := omega) only [wN, w0, w1]; omega)) only [e151_0, e151_1, e151_4, e151_7, e151_8, e151_11, e151_12, e151_15, e151_16, e151_17, e151_20, e151_21, e151_22, e151_23, e151_24, e151_27, e151_29, e151_31, e151_34, e151_36, e151_37, e151_38, e151_41, e151_44, e151_45, e151_48, e151_51, e151_53, e151_54, e151_55, e151_56, e151_59, e151_60, e151_63, e151_64, e151_67, e151_70, e151_71, e151_74, e151_75, e151_76, e151_77, e151_80, e151_83, e151_84, e151_85, e151_88, kl_I, kl_R, kl_N, kl_L, oSm, oNn, Option.bind_some, wN, if_pos, if_neg, nS, tN, t0, w0, w1, w2, w3, w4, w5, wm1, upA_ne, upA_same, if_true, if_false, Bool.false_eq_true, q151, e148, wii, ww, a1, s12, p1, e45, e87]
                  exact End.of rfl ⟨rfl, a3⟩
              · rw [if_neg g4]
                have e49 := L49 (d := d + 4) pgl b2 b3 (by omega) (a4 g g2).2.2 hm5 (show k < (stL (rtA a z).1).length by omega) (show q < 4 by omega)
                simp (disch := first | assumption | omega | (simp (disch := omega) only [wN, w0, w1]; omega)) only [e151_0, e151_1, e151_4, e151_7, e151_8, e151_11, e151_12, e151_15, e151_16, e151_17, e151_20, e151_21, e151_22, e151_23, e151_24, e151_27, e151_29, e151_31, e151_34, e151_36, e151_37, e151_38, e151_41, e151_44, e151_45, e151_48, e151_51, e151_53, e151_54, e151_55, e151_56, e151_59, e151_60, e151_63, e151_64, e151_67, e151_70, e151_71, e151_74, e151_75, e151_76, e151_77, e151_80, e151_83, e151_84, e151_85, e151_88, kl_I, kl_R, kl_N, kl_L, oSm, oNn, Option.bind_some, wN, if_pos, if_neg, nS, tN, t0, w0, w1, w2, w3, w4, w5, wm1, upA_ne, upA_same, if_true, if_false, Bool.false_eq_true, q151, e148, wii, ww, a1, s12, p1, e45, e49]
                exact End.of rfl ⟨rfl, a3⟩
end XK

