/-! ===== boardIs, far, place, layout, good ===== -/
def aBIs (a : AX) (w : Int) : Int :=
  if w = 0 then (a.1.2.2.1 : Int) else if w = 1 then (a.1.2.2.2.1.length : Int) else if w = 2 then (grS (farE a.1.2.2.2.1) a.1.2.2.1 : Int) else if w = 3 then (if grS (farE a.1.2.2.2.1) a.1.2.2.1 < 99 then 1 else 0)
  else if 10 ≤ w ∧ w < 10 + a.1.2.2.2.1.length then ((eA a.1.2.2.2.1 (w - 10).toNat).1 : Int) else if 20 ≤ w ∧ w < 20 + a.1.2.2.2.1.length then ((eA a.1.2.2.2.1 (w - 20).toNat).2 : Int)
  else if 30 ≤ w ∧ w < 30 + a.1.2.2.1 then (cnt (fun j => decide ((eA a.1.2.2.2.1 j).1 = (w - 30).toNat ∨ (eA a.1.2.2.2.1 j).2 = (w - 30).toNat)) a.1.2.2.2.1.length : Int) else -1
def aFar (a : AX) (p q : Int) : Int := if (0 ≤ p ∧ p < a.1.2.2.1) ∧ 0 ≤ q ∧ q < a.1.2.2.1 then (farE a.1.2.2.2.1 p.toNat q.toNat : Int) else -1
def aPlace (a : AX) (l p : Int) : Int × AX := if ¬(0 ≤ l ∧ l < a.1.1) ∨ ¬(0 ≤ p ∧ p < a.1.2.2.1) ∨ a.1.2.2.1 < a.1.1 then (0, a) else (1, ((a.1.1, a.1.2.1, a.1.2.2.1, a.1.2.2.2.1, swP (a.1.2.2.2.2.1 l.toNat) p.toNat a.1.2.2.2.2.1, a.1.2.2.2.2.2), a.2))
def aLay (a : AX) (w : Int) : Int :=
  if ¬(0 ≤ w ∧ w < a.1.1) ∧ ¬(10 ≤ w ∧ w < 10 + a.1.2.2.1) ∧ w ≠ 20 ∧ w ≠ 21 then -1 else if a.1.2.2.1 < a.1.1 then -3
  else if 0 ≤ w ∧ w < a.1.1 then (a.1.2.2.2.2.1 w.toNat : Int) else if 10 ≤ w ∧ w < 10 + a.1.2.2.1 then (if laS a.1.2.2.2.2.1 (w - 10).toNat a.1.1 = -1 then -2 else laS a.1.2.2.2.2.1 (w - 10).toNat a.1.1)
  else if w = 20 then (if gdB (farE a.1.2.2.2.1) a.1.2.2.2.2.1 a.1.2.1 (a.1.2.1.length - 0) 0 = true then 1 else 0) else ovS (farE a.1.2.2.2.1) a.1.2.2.2.2.1 a.1.2.1 a.1.2.1.length
def gdR (n m : Nat) (c : List Gt) (E : List Ed) (i : Nat) : Bool := gdB (farE E) (pOf n ((rwL n m).getD i 0)) c (c.length - 0) 0
/-- the least of all layouts below i, and the first that has it -/
def neS (n m : Nat) (c : List Gt) (E : List Ed) : Nat → Int × Int
  | 0 => (1000000000, -2)
  | i + 1 => if ovS (farE E) (pOf n ((rwL n m).getD i 0)) c c.length < (neS n m c E i).1 then (ovS (farE E) (pOf n ((rwL n m).getD i 0)) c c.length, ((rwL n m).getD i 0 : Int)) else neS n m c E i
def opL (L : List Nat) : Option Nat → Int
  | none => -2
  | some i => (L.getD i 0 : Int)
def aGood (a : AX) (w : Int) : Int :=
  if w < 0 ∨ 3 < w then -1 else if a.1.2.2.1 < a.1.1 then -3
  else if w = 0 then (cnt (gdR a.1.1 a.1.2.2.1 a.1.2.1 a.1.2.2.2.1) (rwL a.1.1 a.1.2.2.1).length : Int)
  else if w = 1 then opL (rwL a.1.1 a.1.2.2.1) (fst1 (gdR a.1.1 a.1.2.2.1 a.1.2.1 a.1.2.2.2.1) ((rwL a.1.1 a.1.2.2.1).length - 0) 0)
  else if w = 2 then (neS a.1.1 a.1.2.2.1 a.1.2.1 a.1.2.2.2.1 (rwL a.1.1 a.1.2.2.1).length).1 else (neS a.1.1 a.1.2.2.1 a.1.2.1 a.1.2.2.2.1 (rwL a.1.1 a.1.2.2.1).length).2
theorem ovS_r {F : Nat → Nat → Nat} {P : Nat → Nat} {c : List Gt} {E : List Ed} (hF : F = farE E) : ∀ i : Nat, -(i : Int) ≤ ovS F P c i ∧ ovS F P c i ≤ 98 * (i : Int)
  | 0 => by simp [ovS]
  | i + 1 => by
    have ih := ovS_r (P := P) (c := c) hF i
    rw [ovS]
    split
    · have := farE_le E (P (gA c i).2.1) (P (gA c i).2.2.toNat)
      rw [hF] at ih ⊢
      omega
    · omega
section XI
variable {sh : Shp} {d : Nat} {σ : Mem} {a : AX} {z w v : Int}
theorem X140 (hX : XS sh) (h : InvX sh σ a) (hw' : i32 w) : run sh (d + 4) 140 [mR 0, mI w] σ = some (some (mI (aBIs a w)), σ) := by
  obtain ⟨ho, s0, s1, s3, s4, s5, s6, s7, s8, s9, s10, s11, s12, s13, hnow, hkep, htap, k43, l43, hspg, hspb, htri, hrow, hcol, hkc, k69, l69, hrou, hfin, hsh, hR⟩ := id hX
  obtain ⟨so, u1, u2, u3, sg, sb, sl⟩ := id hnow
  have sgo := sg.1
  have sbo := sb.1
  have slo := sl.1
  have tpo := htap.1
  have spgo := hspg.1
  have spbo := hspb.1
  have trio := htri.1
  have rowo := hrow.1
  have colo := hcol.1
  have kco := hkc.1
  have rouo := hrou.1
  have fino := hfin.1
  have kpo := hkep.1
  obtain ⟨⟨n, c, m, E, P, x⟩, K, B, s, T⟩ := a
  obtain ⟨⟨hS, hoS⟩, hik, hKp, hTp, h140, hTm, hT1⟩ := id h
  replace hS : HS σ 1 n c m E P (x : Int) := hS
  replace hoS : okZ n c m E P x := hoS
  replace hTp : HP σ 41 B s := hTp
  replace h140 : s ≤ 140 := h140
  replace hTm : HT sh σ 43 T := hTm
  replace hik : σ.1 0 2 = bi K.isSome := hik
  obtain ⟨hS0, hSG, hSB, hSF, hSL, hSx⟩ := id hS
  obtain ⟨n1, n4', c30, hv, m2, m5, E10, hvE, hPk, x16⟩ := id hoS
  have ww := hw'.w
  have e1 := hSB.1
  have e2 := hSB.2.1
  show _ = some (some (mI (aBIs ((n, c, m, E, P, x), K, B, s, T) w)), σ)
  unfold aBIs
  simp only
  have m11 := M11w (d := d + 1) sb hSB hSF m5
  have gr : grS (farE E) m ≤ 99 := mxx_le m (fun q hq => mxx_le q (fun r hr => farE_le _ _ _))
  have w99 : wi 99 = 99 := rfl
  by_cases h0 : w = 0
  · subst h0
    simp (disch := first | assumption | omega | (simp (disch := omega) only [wN, w0, w1]; omega)) only [e140_0, e140_1, e140_4, e140_7, e140_8, e140_40, e140_41, e140_44, e140_45, e140_46, e140_49, e140_50, e140_51, e140_54, e140_55, e140_56, e140_59, e140_61, e140_64, e140_65, e140_68, e140_69, e140_70, e140_71, e140_72, e140_74, e140_75, e140_78, e140_81, e140_82, e140_83, e140_85, e140_86, e140_89, e140_90, e140_91, e140_92, e140_94, e140_95, e140_98, e140_101, e140_102, e140_103, e140_105, e140_106, e140_109, e140_110, e140_111, e140_112, e140_114, e140_115, e140_118, e140_121, e140_122, e140_123, e140_125, e140_126, e140_129, e140_132, e140_133, kl_I, kl_R, kl_N, kl_L, oSm, oNn, Option.bind_some, wN, if_pos, if_neg, nS, tN, t0, w0, w1, w2, w3, w4, w5, wm1, upA_ne, upA_same, if_true, if_false, Bool.false_eq_true, q140, s0, u2]
    rw [e140_9_0 rfl]
    simp (disch := first | assumption | omega | (simp (disch := omega) only [wN, w0, w1]; omega)) only [e140_0, e140_1, e140_4, e140_7, e140_8, e140_40, e140_41, e140_44, e140_45, e140_46, e140_49, e140_50, e140_51, e140_54, e140_55, e140_56, e140_59, e140_61, e140_64, e140_65, e140_68, e140_69, e140_70, e140_71, e140_72, e140_74, e140_75, e140_78, e140_81, e140_82, e140_83, e140_85, e140_86, e140_89, e140_90, e140_91, e140_92, e140_94, e140_95, e140_98, e140_101, e140_102, e140_103, e140_105, e140_106, e140_109, e140_110, e140_111, e140_112, e140_114, e140_115, e140_118, e140_121, e140_122, e140_123, e140_125, e140_126, e140_129, e140_132, e140_133, kl_I, kl_R, kl_N, kl_L, oSm, oNn, Option.bind_some, wN, if_pos, if_neg, nS, tN, t0, w0, w1, w2, w3, w4, w5, wm1, upA_ne, upA_same, if_true, if_false, Bool.false_eq_true, e1]
  · rw [if_neg h0]
    by_cases h1 : w = 1
    · subst h1
      simp (disch := first | assumption | omega | (simp (disch := omega) only [wN, w0, w1]; omega)) only [e140_0, e140_1, e140_4, e140_7, e140_8, e140_40, e140_41, e140_44, e140_45, e140_46, e140_49, e140_50, e140_51, e140_54, e140_55, e140_56, e140_59, e140_61, e140_64, e140_65, e140_68, e140_69, e140_70, e140_71, e140_72, e140_74, e140_75, e140_78, e140_81, e140_82, e140_83, e140_85, e140_86, e140_89, e140_90, e140_91, e140_92, e140_94, e140_95, e140_98, e140_101, e140_102, e140_103, e140_105, e140_106, e140_109, e140_110, e140_111, e140_112, e140_114, e140_115, e140_118, e140_121, e140_122, e140_123, e140_125, e140_126, e140_129, e140_132, e140_133, kl_I, kl_R, kl_N, kl_L, oSm, oNn, Option.bind_some, wN, if_pos, if_neg, nS, tN, t0, w0, w1, w2, w3, w4, w5, wm1, upA_ne, upA_same, if_true, if_false, Bool.false_eq_true, q140, s0, u2]
      rw [e140_9_1 rfl]
      simp (disch := first | assumption | omega | (simp (disch := omega) only [wN, w0, w1]; omega)) only [e140_0, e140_1, e140_4, e140_7, e140_8, e140_40, e140_41, e140_44, e140_45, e140_46, e140_49, e140_50, e140_51, e140_54, e140_55, e140_56, e140_59, e140_61, e140_64, e140_65, e140_68, e140_69, e140_70, e140_71, e140_72, e140_74, e140_75, e140_78, e140_81, e140_82, e140_83, e140_85, e140_86, e140_89, e140_90, e140_91, e140_92, e140_94, e140_95, e140_98, e140_101, e140_102, e140_103, e140_105, e140_106, e140_109, e140_110, e140_111, e140_112, e140_114, e140_115, e140_118, e140_121, e140_122, e140_123, e140_125, e140_126, e140_129, e140_132, e140_133, kl_I, kl_R, kl_N, kl_L, oSm, oNn, Option.bind_some, wN, if_pos, if_neg, nS, tN, t0, w0, w1, w2, w3, w4, w5, wm1, upA_ne, upA_same, if_true, if_false, Bool.false_eq_true, e2]
    · rw [if_neg h1]
      by_cases h2 : w = 2
      · subst h2
        simp (disch := first | assumption | omega | (simp (disch := omega) only [wN, w0, w1]; omega)) only [e140_0, e140_1, e140_4, e140_7, e140_8, e140_40, e140_41, e140_44, e140_45, e140_46, e140_49, e140_50, e140_51, e140_54, e140_55, e140_56, e140_59, e140_61, e140_64, e140_65, e140_68, e140_69, e140_70, e140_71, e140_72, e140_74, e140_75, e140_78, e140_81, e140_82, e140_83, e140_85, e140_86, e140_89, e140_90, e140_91, e140_92, e140_94, e140_95, e140_98, e140_101, e140_102, e140_103, e140_105, e140_106, e140_109, e140_110, e140_111, e140_112, e140_114, e140_115, e140_118, e140_121, e140_122, e140_123, e140_125, e140_126, e140_129, e140_132, e140_133, kl_I, kl_R, kl_N, kl_L, oSm, oNn, Option.bind_some, wN, if_pos, if_neg, nS, tN, t0, w0, w1, w2, w3, w4, w5, wm1, upA_ne, upA_same, if_true, if_false, Bool.false_eq_true, q140, s0, u2]
        rw [e140_9_2 rfl]
        simp (disch := first | assumption | omega | (simp (disch := omega) only [wN, w0, w1]; omega)) only [e140_0, e140_1, e140_4, e140_7, e140_8, e140_40, e140_41, e140_44, e140_45, e140_46, e140_49, e140_50, e140_51, e140_54, e140_55, e140_56, e140_59, e140_61, e140_64, e140_65, e140_68, e140_69, e140_70, e140_71, e140_72, e140_74, e140_75, e140_78, e140_81, e140_82, e140_83, e140_85, e140_86, e140_89, e140_90, e140_91, e140_92, e140_94, e140_95, e140_98, e140_101, e140_102, e140_103, e140_105, e140_106, e140_109, e140_110, e140_111, e140_112, e140_114, e140_115, e140_118, e140_121, e140_122, e140_123, e140_125, e140_126, e140_129, e140_132, e140_133, kl_I, kl_R, kl_N, kl_L, oSm, oNn, Option.bind_some, wN, if_pos, if_neg, nS, tN, t0, w0, w1, w2, w3, w4, w5, wm1, upA_ne, upA_same, if_true, if_false, Bool.false_eq_true, m11]
      · rw [if_neg h2]
        by_cases h3 : w = 3
        · subst h3
          simp (disch := first | assumption | omega | (simp (disch := omega) only [wN, w0, w1]; omega)) only [e140_0, e140_1, e140_4, e140_7, e140_8, e140_40, e140_41, e140_44, e140_45, e140_46, e140_49, e140_50, e140_51, e140_54, e140_55, e140_56, e140_59, e140_61, e140_64, e140_65, e140_68, e140_69, e140_70, e140_71, e140_72, e140_74, e140_75, e140_78, e140_81, e140_82, e140_83, e140_85, e140_86, e140_89, e140_90, e140_91, e140_92, e140_94, e140_95, e140_98, e140_101, e140_102, e140_103, e140_105, e140_106, e140_109, e140_110, e140_111, e140_112, e140_114, e140_115, e140_118, e140_121, e140_122, e140_123, e140_125, e140_126, e140_129, e140_132, e140_133, kl_I, kl_R, kl_N, kl_L, oSm, oNn, Option.bind_some, wN, if_pos, if_neg, nS, tN, t0, w0, w1, w2, w3, w4, w5, wm1, upA_ne, upA_same, if_true, if_false, Bool.false_eq_true, q140, s0, u2]
          rw [e140_9_3 rfl]
          by_cases hg : grS (farE E) m < 99
          · simp (disch := first | assumption | omega | (simp (disch := omega) only [wN, w0, w1]; omega)) only [e140_0, e140_1, e140_4, e140_7, e140_8, e140_40, e140_41, e140_44, e140_45, e140_46, e140_49, e140_50, e140_51, e140_54, e140_55, e140_56, e140_59, e140_61, e140_64, e140_65, e140_68, e140_69, e140_70, e140_71, e140_72, e140_74, e140_75, e140_78, e140_81, e140_82, e140_83, e140_85, e140_86, e140_89, e140_90, e140_91, e140_92, e140_94, e140_95, e140_98, e140_101, e140_102, e140_103, e140_105, e140_106, e140_109, e140_110, e140_111, e140_112, e140_114, e140_115, e140_118, e140_121, e140_122, e140_123, e140_125, e140_126, e140_129, e140_132, e140_133, kl_I, kl_R, kl_N, kl_L, oSm, oNn, Option.bind_some, wN, if_pos, if_neg, nS, tN, t0, w0, w1, w2, w3, w4, w5, wm1, upA_ne, upA_same, if_true, if_false, Bool.false_eq_true, m11, w99]
          · simp (disch := first | assumption | omega | (simp (disch := omega) only [wN, w0, w1]; omega)) only [e140_0, e140_1, e140_4, e140_7, e140_8, e140_40, e140_41, e140_44, e140_45, e140_46, e140_49, e140_50, e140_51, e140_54, e140_55, e140_56, e140_59, e140_61, e140_64, e140_65, e140_68, e140_69, e140_70, e140_71, e140_72, e140_74, e140_75, e140_78, e140_81, e140_82, e140_83, e140_85, e140_86, e140_89, e140_90, e140_91, e140_92, e140_94, e140_95, e140_98, e140_101, e140_102, e140_103, e140_105, e140_106, e140_109, e140_110, e140_111, e140_112, e140_114, e140_115, e140_118, e140_121, e140_122, e140_123, e140_125, e140_126, e140_129, e140_132, e140_133, kl_I, kl_R, kl_N, kl_L, oSm, oNn, Option.bind_some, wN, if_pos, if_neg, nS, tN, t0, w0, w1, w2, w3, w4, w5, wm1, upA_ne, upA_same, if_true, if_false, Bool.false_eq_true, m11, w99]
        · rw [if_neg h3]
          simp (disch := first | assumption | omega | (simp (disch := omega) only [wN, w0, w1]; omega)) only [e140_0, e140_1, e140_4, e140_7, e140_8, e140_40, e140_41, e140_44, e140_45, e140_46, e140_49, e140_50, e140_51, e140_54, e140_55, e140_56, e140_59, e140_61, e140_64, e140_65, e140_68, e140_69, e140_70, e140_71, e140_72, e140_74, e140_75, e140_78, e140_81, e140_82, e140_83, e140_85, e140_86, e140_89, e140_90, e140_91, e140_92, e140_94, e140_95, e140_98, e140_101, e140_102, e140_103, e140_105, e140_106, e140_109, e140_110, e140_111, e140_112, e140_114, e140_115, e140_118, e140_121, e140_122, e140_123, e140_125, e140_126, e140_129, e140_132, e140_133, kl_I, kl_R, kl_N, kl_L, oSm, oNn, Option.bind_some, wN, if_pos, if_neg, nS, tN, t0, w0, w1, w2, w3, w4, w5, wm1, upA_ne, upA_same, if_true, if_false, Bool.false_eq_true, q140, s0, u2]
          rw [e140_9_d (by rw [ww]; omega)]
          have c10 : (0 ≤ wi (w - 10) ∧ wi (w - 10) < (E.length : Int)) ↔ (10 ≤ w ∧ w < 10 + E.length) := wi_sub (k := 10) hw' (by omega) (by omega)
          have c20 : (0 ≤ wi (w - 20) ∧ wi (w - 20) < (E.length : Int)) ↔ (20 ≤ w ∧ w < 20 + E.length) := wi_sub (k := 20) hw' (by omega) (by omega)
          have c30' : (0 ≤ wi (w - 30) ∧ wi (w - 30) < (m : Int)) ↔ (30 ≤ w ∧ w < 30 + m) := wi_sub (k := 30) hw' (by omega) (by omega)
          have k10 := M2 (d := d + 2) (z := w - 10) sb hSB E10
          have k20 := M2 (d := d + 2) (z := w - 20) sb hSB E10
          have k30 := M1 (d := d + 2) (z := w - 30) sb hSB m5
          by_cases g1 : 10 ≤ w ∧ w < 10 + E.length
          · rw [if_pos (c10.mpr g1)] at k10
            have k3 := M3 (d := d + 1) (z := w - 10) sb hSB E10
            rw [if_pos (c10.mpr g1), show wi (w - 10) = w - 10 from wi_sub2 (k := 10) hw' g1.1] at k3
            rw [if_pos g1]
            simp (disch := first | assumption | omega | (simp (disch := omega) only [wN, w0, w1]; omega)) only [e140_0, e140_1, e140_4, e140_7, e140_8, e140_40, e140_41, e140_44, e140_45, e140_46, e140_49, e140_50, e140_51, e140_54, e140_55, e140_56, e140_59, e140_61, e140_64, e140_65, e140_68, e140_69, e140_70, e140_71, e140_72, e140_74, e140_75, e140_78, e140_81, e140_82, e140_83, e140_85, e140_86, e140_89, e140_90, e140_91, e140_92, e140_94, e140_95, e140_98, e140_101, e140_102, e140_103, e140_105, e140_106, e140_109, e140_110, e140_111, e140_112, e140_114, e140_115, e140_118, e140_121, e140_122, e140_123, e140_125, e140_126, e140_129, e140_132, e140_133, kl_I, kl_R, kl_N, kl_L, oSm, oNn, Option.bind_some, wN, if_pos, if_neg, nS, tN, t0, w0, w1, w2, w3, w4, w5, wm1, upA_ne, upA_same, if_true, if_false, Bool.false_eq_true, k10, k3]
          · rw [if_neg (fun q => g1 (c10.mp q))] at k10
            rw [if_neg g1]
            by_cases g2 : 20 ≤ w ∧ w < 20 + E.length
            · rw [if_pos (c20.mpr g2)] at k20
              have k4 := M4 (d := d + 1) (z := w - 20) sb hSB E10
              rw [if_pos (c20.mpr g2), show wi (w - 20) = w - 20 from wi_sub2 (k := 20) hw' g2.1] at k4
              rw [if_pos g2]
              simp (disch := first | assumption | omega | (simp (disch := omega) only [wN, w0, w1]; omega)) only [e140_0, e140_1, e140_4, e140_7, e140_8, e140_40, e140_41, e140_44, e140_45, e140_46, e140_49, e140_50, e140_51, e140_54, e140_55, e140_56, e140_59, e140_61, e140_64, e140_65, e140_68, e140_69, e140_70, e140_71, e140_72, e140_74, e140_75, e140_78, e140_81, e140_82, e140_83, e140_85, e140_86, e140_89, e140_90, e140_91, e140_92, e140_94, e140_95, e140_98, e140_101, e140_102, e140_103, e140_105, e140_106, e140_109, e140_110, e140_111, e140_112, e140_114, e140_115, e140_118, e140_121, e140_122, e140_123, e140_125, e140_126, e140_129, e140_132, e140_133, kl_I, kl_R, kl_N, kl_L, oSm, oNn, Option.bind_some, wN, if_pos, if_neg, nS, tN, t0, w0, w1, w2, w3, w4, w5, wm1, upA_ne, upA_same, if_true, if_false, Bool.false_eq_true, k10, k20, k4]
            · rw [if_neg (fun q => g2 (c20.mp q))] at k20
              rw [if_neg g2]
              by_cases g3 : 30 ≤ w ∧ w < 30 + m
              · rw [if_pos (c30'.mpr g3)] at k30
                rw [if_pos g3]
                obtain ⟨k, hk⟩ : ∃ k : Nat, w - 30 = (k : Int) := ⟨(w - 30).toNat, by omega⟩
                have k7 := M7 (d := d) (p := k) sb hSB E10 (by omega) hvE m5
                rw [hk] at k30
                rw [hk, tN]
                simp (disch := first | assumption | omega | (simp (disch := omega) only [wN, w0, w1]; omega)) only [e140_0, e140_1, e140_4, e140_7, e140_8, e140_40, e140_41, e140_44, e140_45, e140_46, e140_49, e140_50, e140_51, e140_54, e140_55, e140_56, e140_59, e140_61, e140_64, e140_65, e140_68, e140_69, e140_70, e140_71, e140_72, e140_74, e140_75, e140_78, e140_81, e140_82, e140_83, e140_85, e140_86, e140_89, e140_90, e140_91, e140_92, e140_94, e140_95, e140_98, e140_101, e140_102, e140_103, e140_105, e140_106, e140_109, e140_110, e140_111, e140_112, e140_114, e140_115, e140_118, e140_121, e140_122, e140_123, e140_125, e140_126, e140_129, e140_132, e140_133, kl_I, kl_R, kl_N, kl_L, oSm, oNn, Option.bind_some, wN, if_pos, if_neg, nS, tN, t0, w0, w1, w2, w3, w4, w5, wm1, upA_ne, upA_same, if_true, if_false, Bool.false_eq_true, k10, k20, hk, k30, k7]
              · rw [if_neg (fun q => g3 (c30'.mp q))] at k30
                rw [if_neg g3]
                simp (disch := first | assumption | omega | (simp (disch := omega) only [wN, w0, w1]; omega)) only [e140_0, e140_1, e140_4, e140_7, e140_8, e140_40, e140_41, e140_44, e140_45, e140_46, e140_49, e140_50, e140_51, e140_54, e140_55, e140_56, e140_59, e140_61, e140_64, e140_65, e140_68, e140_69, e140_70, e140_71, e140_72, e140_74, e140_75, e140_78, e140_81, e140_82, e140_83, e140_85, e140_86, e140_89, e140_90, e140_91, e140_92, e140_94, e140_95, e140_98, e140_101, e140_102, e140_103, e140_105, e140_106, e140_109, e140_110, e140_111, e140_112, e140_114, e140_115, e140_118, e140_121, e140_122, e140_123, e140_125, e140_126, e140_129, e140_132, e140_133, kl_I, kl_R, kl_N, kl_L, oSm, oNn, Option.bind_some, wN, if_pos, if_neg, nS, tN, t0, w0, w1, w2, w3, w4, w5, wm1, upA_ne, upA_same, if_true, if_false, Bool.false_eq_true, k10, k20, k30]
theorem X141 (hX : XS sh) (h : InvX sh σ a) (hz : i32 z) (hw' : i32 w) : run sh (d + 2) 141 [mR 0, mI z, mI w] σ = some (some (mI (aFar a z w)), σ) := by
  obtain ⟨ho, s0, s1, s3, s4, s5, s6, s7, s8, s9, s10, s11, s12, s13, hnow, hkep, htap, k43, l43, hspg, hspb, htri, hrow, hcol, hkc, k69, l69, hrou, hfin, hsh, hR⟩ := id hX
  obtain ⟨so, u1, u2, u3, sg, sb, sl⟩ := id hnow
  have sgo := sg.1
  have sbo := sb.1
  have slo := sl.1
  have tpo := htap.1
  have spgo := hspg.1
  have spbo := hspb.1
  have trio := htri.1
  have rowo := hrow.1
  have colo := hcol.1
  have kco := hkc.1
  have rouo := hrou.1
  have fino := hfin.1
  have kpo := hkep.1
  obtain ⟨⟨n, c, m, E, P, x⟩, K, B, s, T⟩ := a
  obtain ⟨⟨hS, hoS⟩, hik, hKp, hTp, h140, hTm, hT1⟩ := id h
  replace hS : HS σ 1 n c m E P (x : Int) := hS
  replace hoS : okZ n c m E P x := hoS
  replace hTp : HP σ 41 B s := hTp
  replace h140 : s ≤ 140 := h140
  replace hTm : HT sh σ 43 T := hTm
  replace hik : σ.1 0 2 = bi K.isSome := hik
  obtain ⟨hS0, hSG, hSB, hSF, hSL, hSx⟩ := id hS
  obtain ⟨n1, n4', c30, hv, m2, m5, E10, hvE, hPk, x16⟩ := id hoS
  have wz := hz.w
  have ww := hw'.w
  show _ = some (some (mI (aFar ((n, c, m, E, P, x), K, B, s, T) z w)), σ)
  unfold aFar
  simp only
  have k1' := M1 (d := d) (z := z) sb hSB m5
  have k2' := M1 (d := d) (z := w) sb hSB m5
  have k10 := M10w (d := d) (z := z) (w := w) sb hSB hSF m5
  rw [wz] at k1' k10
  rw [ww] at k2' k10
  by_cases g1 : 0 ≤ z ∧ z < m
  · rw [if_pos g1] at k1'
    by_cases g2 : 0 ≤ w ∧ w < m
    · rw [if_pos g2] at k2'
      rw [if_pos ⟨g1, g2⟩] at k10 ⊢
      simp (disch := first | assumption | omega | (simp (disch := omega) only [wN, w0, w1]; omega)) only [e141_0, e141_1, e141_4, e141_7, e141_8, e141_11, e141_14, e141_15, e141_18, e141_21, e141_22, e141_25, e141_28, e141_29, e141_32, e141_35, e141_36, e141_37, e141_40, e141_43, e141_44, kl_I, kl_R, kl_N, kl_L, oSm, oNn, Option.bind_some, wN, if_pos, if_neg, nS, tN, t0, w0, w1, w2, w3, w4, w5, wm1, upA_ne, upA_same, if_true, if_false, Bool.false_eq_true, q141, s0, u2, k1', k2', k10]
    · rw [if_neg g2] at k2'
      rw [if_neg (fun q => g2 q.2)]
      simp (disch := first | assumption | omega | (simp (disch := omega) only [wN, w0, w1]; omega)) only [e141_0, e141_1, e141_4, e141_7, e141_8, e141_11, e141_14, e141_15, e141_18, e141_21, e141_22, e141_25, e141_28, e141_29, e141_32, e141_35, e141_36, e141_37, e141_40, e141_43, e141_44, kl_I, kl_R, kl_N, kl_L, oSm, oNn, Option.bind_some, wN, if_pos, if_neg, nS, tN, t0, w0, w1, w2, w3, w4, w5, wm1, upA_ne, upA_same, if_true, if_false, Bool.false_eq_true, q141, s0, u2, k1', k2']
  · rw [if_neg g1] at k1'
    rw [if_neg (fun q => g1 q.1)]
    simp (disch := first | assumption | omega | (simp (disch := omega) only [wN, w0, w1]; omega)) only [e141_0, e141_1, e141_4, e141_7, e141_8, e141_11, e141_14, e141_15, e141_18, e141_21, e141_22, e141_25, e141_28, e141_29, e141_32, e141_35, e141_36, e141_37, e141_40, e141_43, e141_44, kl_I, kl_R, kl_N, kl_L, oSm, oNn, Option.bind_some, wN, if_pos, if_neg, nS, tN, t0, w0, w1, w2, w3, w4, w5, wm1, upA_ne, upA_same, if_true, if_false, Bool.false_eq_true, q141, s0, u2, k1']
theorem X143 (hX : XS sh) (h : InvX sh σ a) (hz : i32 z) (hw' : i32 w) : End (run sh (d + 3) 143 [mR 0, mI z, mI w] σ) (fun r σ' => r = some (mI (aPlace a z w).1) ∧ InvX sh σ' (aPlace a z w).2) := by
  have e121 := X121 (d := d + 1) (z := z) hX h
  have e142 := X142 (d := d + 1) hX h
  obtain ⟨ho, s0, s1, s3, s4, s5, s6, s7, s8, s9, s10, s11, s12, s13, hnow, hkep, htap, k43, l43, hspg, hspb, htri, hrow, hcol, hkc, k69, l69, hrou, hfin, hsh, hR⟩ := id hX
  obtain ⟨so, u1, u2, u3, sg, sb, sl⟩ := id hnow
  have sgo := sg.1
  have sbo := sb.1
  have slo := sl.1
  have tpo := htap.1
  have spgo := hspg.1
  have spbo := hspb.1
  have trio := htri.1
  have rowo := hrow.1
  have colo := hcol.1
  have kco := hkc.1
  have rouo := hrou.1
  have fino := hfin.1
  have kpo := hkep.1
  obtain ⟨⟨n, c, m, E, P, x⟩, K, B, s, T⟩ := a
  obtain ⟨⟨hS, hoS⟩, hik, hKp, hTp, h140, hTm, hT1⟩ := id h
  replace hS : HS σ 1 n c m E P (x : Int) := hS
  replace hoS : okZ n c m E P x := hoS
  replace hTp : HP σ 41 B s := hTp
  replace h140 : s ≤ 140 := h140
  replace hTm : HT sh σ 43 T := hTm
  replace hik : σ.1 0 2 = bi K.isSome := hik
  obtain ⟨hS0, hSG, hSB, hSF, hSL, hSx⟩ := id hS
  obtain ⟨n1, n4', c30, hv, m2, m5, E10, hvE, hPk, x16⟩ := id hoS
  have wz := hz.w
  have ww := hw'.w
  replace e121 : run sh (d + 2) 121 [mR 0, mI z] σ = some (some (mI (if 0 ≤ wi z ∧ wi z < n then 1 else 0)), σ) := e121
  replace e142 : run sh (d + 2) 142 [mR 0] σ = some (some (mI (if m < n then 1 else 0)), σ) := e142
  have k2' := M1 (d := d + 1) (z := w) sb hSB m5
  rw [wz] at e121
  rw [ww] at k2'
  unfold aPlace
  by_cases g1 : 0 ≤ z ∧ z < n
  · rw [if_pos g1] at e121
    by_cases g2 : 0 ≤ w ∧ w < m
    · rw [if_pos g2] at k2'
      by_cases g3 : m < n
      · rw [if_pos g3] at e142
        rw [if_pos (Or.inr (Or.inr g3))]
        simp (disch := first | assumption | omega | (simp (disch := omega) only [wN, w0, w1]; omega)) only [e143_0, e143_1, e143_2, e143_5, e143_8, e143_9, e143_12, e143_15, e143_16, e143_19, e143_22, e143_23, e143_26, e143_29, e143_30, e143_31, e143_32, e143_35, e143_38, e143_39, e143_42, e143_45, e143_46, e143_49, e143_50, e143_53, e143_54, kl_I, kl_R, kl_N, kl_L, oSm, oNn, Option.bind_some, wN, if_pos, if_neg, nS, tN, t0, w0, w1, w2, w3, w4, w5, wm1, upA_ne, upA_same, if_true, if_false, Bool.false_eq_true, q143, s0, u2, e121, k2', e142]
        exact End.of rfl ⟨rfl, h⟩
      · rw [if_neg g3] at e142
        rw [if_neg (by simp only; omega)]
        obtain ⟨l, rfl⟩ : ∃ k : Nat, z = (k : Int) := ⟨z.toNat, by omega⟩
        obtain ⟨q, rfl⟩ : ∃ k : Nat, w = (k : Int) := ⟨w.toNat, by omega⟩
        have hP := hPk (by omega)
        have hl5 := hP.1 l (by omega)
        obtain ⟨r, σ1, a1, rfl, a3, f1⟩ := Y79 (d := d) sl hSL hP n4' m5 (show P l < m by omega) (show q < m by omega)
        simp (disch := first | assumption | omega | (simp (disch := omega) only [wN, w0, w1]; omega)) only [e143_0, e143_1, e143_2, e143_5, e143_8, e143_9, e143_12, e143_15, e143_16, e143_19, e143_22, e143_23, e143_26, e143_29, e143_30, e143_31, e143_32, e143_35, e143_38, e143_39, e143_42, e143_45, e143_46, e143_49, e143_50, e143_53, e143_54, kl_I, kl_R, kl_N, kl_L, oSm, oNn, Option.bind_some, wN, if_pos, if_neg, nS, tN, t0, w0, w1, w2, w3, w4, w5, wm1, upA_ne, upA_same, if_true, if_false, Bool.false_eq_true, q143, s0, u2, u3, e121, k2', e142, Y77 sl hSL n4' (show l < n by omega), a1]
        refine End.of rfl ⟨rfl, h.now (fun b hb => f1.1 b (by omega)) ⟨⟨?_, hSG.frI f1 (by omega), hSB.fr f1 (by omega), hSF.fr f1 (by omega), a3, ?_⟩, ⟨n1, n4', c30, hv, m2, m5, E10, hvE, fun _ => hP.sw hl5 (show q < m by omega), x16⟩⟩⟩
        · rw [f1.1 1 (by omega)]; exact hS0
        · rw [f1.1 1 (by omega)]; exact hSx
    · rw [if_neg g2] at k2'
      rw [if_pos (Or.inr (Or.inl g2))]
      simp (disch := first | assumption | omega | (simp (disch := omega) only [wN, w0, w1]; omega)) only [e143_0, e143_1, e143_2, e143_5, e143_8, e143_9, e143_12, e143_15, e143_16, e143_19, e143_22, e143_23, e143_26, e143_29, e143_30, e143_31, e143_32, e143_35, e143_38, e143_39, e143_42, e143_45, e143_46, e143_49, e143_50, e143_53, e143_54, kl_I, kl_R, kl_N, kl_L, oSm, oNn, Option.bind_some, wN, if_pos, if_neg, nS, tN, t0, w0, w1, w2, w3, w4, w5, wm1, upA_ne, upA_same, if_true, if_false, Bool.false_eq_true, q143, s0, u2, e121, k2']
      exact End.of rfl ⟨rfl, h⟩
  · rw [if_neg g1] at e121
    rw [if_pos (Or.inl g1)]
    simp (disch := first | assumption | omega | (simp (disch := omega) only [wN, w0, w1]; omega)) only [e143_0, e143_1, e143_2, e143_5, e143_8, e143_9, e143_12, e143_15, e143_16, e143_19, e143_22, e143_23, e143_26, e143_29, e143_30, e143_31, e143_32, e143_35, e143_38, e143_39, e143_42, e143_45, e143_46, e143_49, e143_50, e143_53, e143_54, kl_I, kl_R, kl_N, kl_L, oSm, oNn, Option.bind_some, wN, if_pos, if_neg, nS, tN, t0, w0, w1, w2, w3, w4, w5, wm1, upA_ne, upA_same, if_true, if_false, Bool.false_eq_true, q143, e121]
    exact End.of rfl ⟨rfl, h⟩
theorem X144 (hX : XS sh) (h : InvX sh σ a) (hw' : i32 w) : run sh (d + 5) 144 [mR 0, mI w] σ = some (some (mI (aLay a w)), σ) := by
  have e121 := X121 (d := d + 3) (z := w) hX h
  have e142 := X142 (d := d + 3) hX h
  obtain ⟨ho, s0, s1, s3, s4, s5, s6, s7, s8, s9, s10, s11, s12, s13, hnow, hkep, htap, k43, l43, hspg, hspb, htri, hrow, hcol, hkc, k69, l69, hrou, hfin, hsh, hR⟩ := id hX
  obtain ⟨so, u1, u2, u3, sg, sb, sl⟩ := id hnow
  have sgo := sg.1
  have sbo := sb.1
  have slo := sl.1
  have tpo := htap.1
  have spgo := hspg.1
  have spbo := hspb.1
  have trio := htri.1
  have rowo := hrow.1
  have colo := hcol.1
  have kco := hkc.1
  have rouo := hrou.1
  have fino := hfin.1
  have kpo := hkep.1
  obtain ⟨⟨n, c, m, E, P, x⟩, K, B, s, T⟩ := a
  obtain ⟨⟨hS, hoS⟩, hik, hKp, hTp, h140, hTm, hT1⟩ := id h
  replace hS : HS σ 1 n c m E P (x : Int) := hS
  replace hoS : okZ n c m E P x := hoS
  replace hTp : HP σ 41 B s := hTp
  replace h140 : s ≤ 140 := h140
  replace hTm : HT sh σ 43 T := hTm
  replace hik : σ.1 0 2 = bi K.isSome := hik
  obtain ⟨hS0, hSG, hSB, hSF, hSL, hSx⟩ := id hS
  obtain ⟨n1, n4', c30, hv, m2, m5, E10, hvE, hPk, x16⟩ := id hoS
  have ww := hw'.w
  have w20 : wi 20 = 20 := rfl
  have w21 : wi 21 = 21 := rfl
  replace e121 : run sh (d + 4) 121 [mR 0, mI w] σ = some (some (mI (if 0 ≤ wi w ∧ wi w < n then 1 else 0)), σ) := e121
  replace e142 : run sh (d + 4) 142 [mR 0] σ = some (some (mI (if m < n then 1 else 0)), σ) := e142
  have k10 := M1 (d := d + 3) (z := w - 10) sb hSB m5
  have c10 : (0 ≤ wi (w - 10) ∧ wi (w - 10) < (m : Int)) ↔ (10 ≤ w ∧ w < 10 + m) := wi_sub (k := 10) hw' (by omega) (by omega)
  rw [ww] at e121
  show _ = some (some (mI (aLay ((n, c, m, E, P, x), K, B, s, T) w)), σ)
  unfold aLay
  simp only
  by_cases g1 : 0 ≤ w ∧ w < n
  · rw [if_pos g1] at e121
    rw [if_neg (fun q => q.1 g1)]
    rw [if_neg (fun q => absurd (c10.mp q) (by omega))] at k10
    by_cases g3 : m < n
    · rw [if_pos g3] at e142 ⊢
      simp (disch := first | assumption | omega | (simp (disch := omega) only [wN, w0, w1]; omega)) only [e144_0, e144_1, e144_4, e144_7, e144_8, e144_10, e144_11, e144_14, e144_15, e144_16, e144_17, e144_20, e144_23, e144_24, e144_27, e144_28, e144_30, e144_33, e144_34, e144_36, e144_39, e144_40, e144_41, e144_42, e144_45, e144_48, e144_50, e144_51, e144_52, e144_53, e144_56, e144_59, e144_60, e144_63, e144_66, e144_67, e144_70, e144_71, e144_72, e144_75, e144_76, e144_79, e144_82, e144_83, e144_85, e144_86, e144_89, e144_90, e144_91, e144_92, e144_95, e144_97, e144_100, e144_101, e144_102, e144_103, e144_105, e144_108, e144_109, e144_112, e144_115, e144_116, e144_119, e144_122, e144_123, e144_126, e144_129, e144_132, e144_135, e144_136, e144_139, e144_140, e144_141, e144_142, e144_145, e144_148, e144_149, e144_152, e144_155, e144_156, e144_159, e144_162, e144_165, kl_I, kl_R, kl_N, kl_L, oSm, oNn, Option.bind_some, wN, if_pos, if_neg, nS, tN, t0, w0, w1, w2, w3, w4, w5, wm1, upA_ne, upA_same, if_true, if_false, Bool.false_eq_true, q144, s0, u2, k10, e121, e142]
    · rw [if_neg g3] at e142 ⊢
      rw [if_pos g1]
      obtain ⟨l, rfl⟩ : ∃ k : Nat, w = (k : Int) := ⟨w.toNat, by omega⟩
      simp (disch := first | assumption | omega | (simp (disch := omega) only [wN, w0, w1]; omega)) only [e144_0, e144_1, e144_4, e144_7, e144_8, e144_10, e144_11, e144_14, e144_15, e144_16, e144_17, e144_20, e144_23, e144_24, e144_27, e144_28, e144_30, e144_33, e144_34, e144_36, e144_39, e144_40, e144_41, e144_42, e144_45, e144_48, e144_50, e144_51, e144_52, e144_53, e144_56, e144_59, e144_60, e144_63, e144_66, e144_67, e144_70, e144_71, e144_72, e144_75, e144_76, e144_79, e144_82, e144_83, e144_85, e144_86, e144_89, e144_90, e144_91, e144_92, e144_95, e144_97, e144_100, e144_101, e144_102, e144_103, e144_105, e144_108, e144_109, e144_112, e144_115, e144_116, e144_119, e144_122, e144_123, e144_126, e144_129, e144_132, e144_135, e144_136, e144_139, e144_140, e144_141, e144_142, e144_145, e144_148, e144_149, e144_152, e144_155, e144_156, e144_159, e144_162, e144_165, kl_I, kl_R, kl_N, kl_L, oSm, oNn, Option.bind_some, wN, if_pos, if_neg, nS, tN, t0, w0, w1, w2, w3, w4, w5, wm1, upA_ne, upA_same, if_true, if_false, Bool.false_eq_true, q144, s0, u2, u3, k10, e121, e142, Y77 sl hSL n4' (show l < n by omega)]
  · rw [if_neg g1] at e121
    by_cases g2 : 10 ≤ w ∧ w < 10 + m
    · rw [if_pos (c10.mpr g2)] at k10
      rw [if_neg (fun q => q.2.1 g2)]
      by_cases g3 : m < n
      · rw [if_pos g3] at e142 ⊢
        simp (disch := first | assumption | omega | (simp (disch := omega) only [wN, w0, w1]; omega)) only [e144_0, e144_1, e144_4, e144_7, e144_8, e144_10, e144_11, e144_14, e144_15, e144_16, e144_17, e144_20, e144_23, e144_24, e144_27, e144_28, e144_30, e144_33, e144_34, e144_36, e144_39, e144_40, e144_41, e144_42, e144_45, e144_48, e144_50, e144_51, e144_52, e144_53, e144_56, e144_59, e144_60, e144_63, e144_66, e144_67, e144_70, e144_71, e144_72, e144_75, e144_76, e144_79, e144_82, e144_83, e144_85, e144_86, e144_89, e144_90, e144_91, e144_92, e144_95, e144_97, e144_100, e144_101, e144_102, e144_103, e144_105, e144_108, e144_109, e144_112, e144_115, e144_116, e144_119, e144_122, e144_123, e144_126, e144_129, e144_132, e144_135, e144_136, e144_139, e144_140, e144_141, e144_142, e144_145, e144_148, e144_149, e144_152, e144_155, e144_156, e144_159, e144_162, e144_165, kl_I, kl_R, kl_N, kl_L, oSm, oNn, Option.bind_some, wN, if_pos, if_neg, nS, tN, t0, w0, w1, w2, w3, w4, w5, wm1, upA_ne, upA_same, if_true, if_false, Bool.false_eq_true, q144, s0, u2, k10, e121, e142]
      · rw [if_neg g3] at e142 ⊢
        rw [if_neg g1, if_pos g2]
        obtain ⟨k, hk⟩ : ∃ k : Nat, w - 10 = (k : Int) := ⟨(w - 10).toNat, by omega⟩
        have e78 := N78 (d := d + 3) sl hSL (show k < 5 by omega)
        rw [hk] at k10
        rw [hk, tN]
        rcases laS_cases P k n with ⟨hc1, -⟩ | ⟨y, hy1, hy2, -⟩
        · rw [hc1] at e78 ⊢
          simp (disch := first | assumption | omega | (simp (disch := omega) only [wN, w0, w1]; omega)) only [e144_0, e144_1, e144_4, e144_7, e144_8, e144_10, e144_11, e144_14, e144_15, e144_16, e144_17, e144_20, e144_23, e144_24, e144_27, e144_28, e144_30, e144_33, e144_34, e144_36, e144_39, e144_40, e144_41, e144_42, e144_45, e144_48, e144_50, e144_51, e144_52, e144_53, e144_56, e144_59, e144_60, e144_63, e144_66, e144_67, e144_70, e144_71, e144_72, e144_75, e144_76, e144_79, e144_82, e144_83, e144_85, e144_86, e144_89, e144_90, e144_91, e144_92, e144_95, e144_97, e144_100, e144_101, e144_102, e144_103, e144_105, e144_108, e144_109, e144_112, e144_115, e144_116, e144_119, e144_122, e144_123, e144_126, e144_129, e144_132, e144_135, e144_136, e144_139, e144_140, e144_141, e144_142, e144_145, e144_148, e144_149, e144_152, e144_155, e144_156, e144_159, e144_162, e144_165, kl_I, kl_R, kl_N, kl_L, oSm, oNn, Option.bind_some, wN, if_pos, if_neg, nS, tN, t0, w0, w1, w2, w3, w4, w5, wm1, upA_ne, upA_same, if_true, if_false, Bool.false_eq_true, q144, s0, u2, u3, hk, k10, e121, e142, e78]
        · rw [hy2] at e78 ⊢
          rw [if_neg (by omega)]
          simp (disch := first | assumption | omega | (simp (disch := omega) only [wN, w0, w1]; omega)) only [e144_0, e144_1, e144_4, e144_7, e144_8, e144_10, e144_11, e144_14, e144_15, e144_16, e144_17, e144_20, e144_23, e144_24, e144_27, e144_28, e144_30, e144_33, e144_34, e144_36, e144_39, e144_40, e144_41, e144_42, e144_45, e144_48, e144_50, e144_51, e144_52, e144_53, e144_56, e144_59, e144_60, e144_63, e144_66, e144_67, e144_70, e144_71, e144_72, e144_75, e144_76, e144_79, e144_82, e144_83, e144_85, e144_86, e144_89, e144_90, e144_91, e144_92, e144_95, e144_97, e144_100, e144_101, e144_102, e144_103, e144_105, e144_108, e144_109, e144_112, e144_115, e144_116, e144_119, e144_122, e144_123, e144_126, e144_129, e144_132, e144_135, e144_136, e144_139, e144_140, e144_141, e144_142, e144_145, e144_148, e144_149, e144_152, e144_155, e144_156, e144_159, e144_162, e144_165, kl_I, kl_R, kl_N, kl_L, oSm, oNn, Option.bind_some, wN, if_pos, if_neg, nS, tN, t0, w0, w1, w2, w3, w4, w5, wm1, upA_ne, upA_same, if_true, if_false, Bool.false_eq_true, q144, s0, u2, u3, hk, k10, e121, e142, e78]
    · rw [if_neg (fun q => g2 (c10.mp q))] at k10
      by_cases g4 : w = 20
      · rw [if_neg (fun q => q.2.2.1 g4)]
        by_cases g3 : m < n
        · rw [if_pos g3] at e142 ⊢
          simp (disch := first | assumption | omega | (simp (disch := omega) only [wN, w0, w1]; omega)) only [e144_0, e144_1, e144_4, e144_7, e144_8, e144_10, e144_11, e144_14, e144_15, e144_16, e144_17, e144_20, e144_23, e144_24, e144_27, e144_28, e144_30, e144_33, e144_34, e144_36, e144_39, e144_40, e144_41, e144_42, e144_45, e144_48, e144_50, e144_51, e144_52, e144_53, e144_56, e144_59, e144_60, e144_63, e144_66, e144_67, e144_70, e144_71, e144_72, e144_75, e144_76, e144_79, e144_82, e144_83, e144_85, e144_86, e144_89, e144_90, e144_91, e144_92, e144_95, e144_97, e144_100, e144_101, e144_102, e144_103, e144_105, e144_108, e144_109, e144_112, e144_115, e144_116, e144_119, e144_122, e144_123, e144_126, e144_129, e144_132, e144_135, e144_136, e144_139, e144_140, e144_141, e144_142, e144_145, e144_148, e144_149, e144_152, e144_155, e144_156, e144_159, e144_162, e144_165, kl_I, kl_R, kl_N, kl_L, oSm, oNn, Option.bind_some, wN, if_pos, if_neg, nS, tN, t0, w0, w1, w2, w3, w4, w5, wm1, upA_ne, upA_same, if_true, if_false, Bool.false_eq_true, q144, s0, u2, k10, e121, ww, w20, e142]
        · rw [if_neg g3] at e142 ⊢
          rw [if_neg g1, if_neg g2, if_pos g4]
          have e82 := Y82 (d := d + 1) sl hSL (hPk (by omega)) n4' m5 sb hSB hSF sg hSG c30 (by omega) hv
          by_cases g5 : gdB (farE E) P c (c.length - 0) 0 = true
          · rw [if_pos g5] at e82 ⊢
            simp (disch := first | assumption | omega | (simp (disch := omega) only [wN, w0, w1]; omega)) only [e144_0, e144_1, e144_4, e144_7, e144_8, e144_10, e144_11, e144_14, e144_15, e144_16, e144_17, e144_20, e144_23, e144_24, e144_27, e144_28, e144_30, e144_33, e144_34, e144_36, e144_39, e144_40, e144_41, e144_42, e144_45, e144_48, e144_50, e144_51, e144_52, e144_53, e144_56, e144_59, e144_60, e144_63, e144_66, e144_67, e144_70, e144_71, e144_72, e144_75, e144_76, e144_79, e144_82, e144_83, e144_85, e144_86, e144_89, e144_90, e144_91, e144_92, e144_95, e144_97, e144_100, e144_101, e144_102, e144_103, e144_105, e144_108, e144_109, e144_112, e144_115, e144_116, e144_119, e144_122, e144_123, e144_126, e144_129, e144_132, e144_135, e144_136, e144_139, e144_140, e144_141, e144_142, e144_145, e144_148, e144_149, e144_152, e144_155, e144_156, e144_159, e144_162, e144_165, kl_I, kl_R, kl_N, kl_L, oSm, oNn, Option.bind_some, wN, if_pos, if_neg, nS, tN, t0, w0, w1, w2, w3, w4, w5, wm1, upA_ne, upA_same, if_true, if_false, Bool.false_eq_true, q144, s0, u1, u2, u3, k10, e121, ww, w20, e142, e82]
          · rw [if_neg g5] at e82 ⊢
            simp (disch := first | assumption | omega | (simp (disch := omega) only [wN, w0, w1]; omega)) only [e144_0, e144_1, e144_4, e144_7, e144_8, e144_10, e144_11, e144_14, e144_15, e144_16, e144_17, e144_20, e144_23, e144_24, e144_27, e144_28, e144_30, e144_33, e144_34, e144_36, e144_39, e144_40, e144_41, e144_42, e144_45, e144_48, e144_50, e144_51, e144_52, e144_53, e144_56, e144_59, e144_60, e144_63, e144_66, e144_67, e144_70, e144_71, e144_72, e144_75, e144_76, e144_79, e144_82, e144_83, e144_85, e144_86, e144_89, e144_90, e144_91, e144_92, e144_95, e144_97, e144_100, e144_101, e144_102, e144_103, e144_105, e144_108, e144_109, e144_112, e144_115, e144_116, e144_119, e144_122, e144_123, e144_126, e144_129, e144_132, e144_135, e144_136, e144_139, e144_140, e144_141, e144_142, e144_145, e144_148, e144_149, e144_152, e144_155, e144_156, e144_159, e144_162, e144_165, kl_I, kl_R, kl_N, kl_L, oSm, oNn, Option.bind_some, wN, if_pos, if_neg, nS, tN, t0, w0, w1, w2, w3, w4, w5, wm1, upA_ne, upA_same, if_true, if_false, Bool.false_eq_true, q144, s0, u1, u2, u3, k10, e121, ww, w20, e142, e82]
      · by_cases g6 : w = 21
        · rw [if_neg (fun q => q.2.2.2 g6)]
          by_cases g3 : m < n
          · rw [if_pos g3] at e142 ⊢
            simp (disch := first | assumption | omega | (simp (disch := omega) only [wN, w0, w1]; omega)) only [e144_0, e144_1, e144_4, e144_7, e144_8, e144_10, e144_11, e144_14, e144_15, e144_16, e144_17, e144_20, e144_23, e144_24, e144_27, e144_28, e144_30, e144_33, e144_34, e144_36, e144_39, e144_40, e144_41, e144_42, e144_45, e144_48, e144_50, e144_51, e144_52, e144_53, e144_56, e144_59, e144_60, e144_63, e144_66, e144_67, e144_70, e144_71, e144_72, e144_75, e144_76, e144_79, e144_82, e144_83, e144_85, e144_86, e144_89, e144_90, e144_91, e144_92, e144_95, e144_97, e144_100, e144_101, e144_102, e144_103, e144_105, e144_108, e144_109, e144_112, e144_115, e144_116, e144_119, e144_122, e144_123, e144_126, e144_129, e144_132, e144_135, e144_136, e144_139, e144_140, e144_141, e144_142, e144_145, e144_148, e144_149, e144_152, e144_155, e144_156, e144_159, e144_162, e144_165, kl_I, kl_R, kl_N, kl_L, oSm, oNn, Option.bind_some, wN, if_pos, if_neg, nS, tN, t0, w0, w1, w2, w3, w4, w5, wm1, upA_ne, upA_same, if_true, if_false, Bool.false_eq_true, q144, s0, u2, k10, e121, ww, w20, w21, e142]
          · rw [if_neg g3] at e142 ⊢
            rw [if_neg g1, if_neg g2, if_neg g4]
            have e83 := Y83 (d := d + 1) sl hSL (hPk (by omega)) n4' m5 sb hSB hSF sg hSG c30 (by omega) hv
            simp (disch := first | assumption | omega | (simp (disch := omega) only [wN, w0, w1]; omega)) only [e144_0, e144_1, e144_4, e144_7, e144_8, e144_10, e144_11, e144_14, e144_15, e144_16, e144_17, e144_20, e144_23, e144_24, e144_27, e144_28, e144_30, e144_33, e144_34, e144_36, e144_39, e144_40, e144_41, e144_42, e144_45, e144_48, e144_50, e144_51, e144_52, e144_53, e144_56, e144_59, e144_60, e144_63, e144_66, e144_67, e144_70, e144_71, e144_72, e144_75, e144_76, e144_79, e144_82, e144_83, e144_85, e144_86, e144_89, e144_90, e144_91, e144_92, e144_95, e144_97, e144_100, e144_101, e144_102, e144_103, e144_105, e144_108, e144_109, e144_112, e144_115, e144_116, e144_119, e144_122, e144_123, e144_126, e144_129, e144_132, e144_135, e144_136, e144_139, e144_140, e144_141, e144_142, e144_145, e144_148, e144_149, e144_152, e144_155, e144_156, e144_159, e144_162, e144_165, kl_I, kl_R, kl_N, kl_L, oSm, oNn, Option.bind_some, wN, if_pos, if_neg, nS, tN, t0, w0, w1, w2, w3, w4, w5, wm1, upA_ne, upA_same, if_true, if_false, Bool.false_eq_true, q144, s0, u1, u2, u3, k10, e121, ww, w20, w21, e142, e83]
        · rw [if_pos ⟨g1, g2, g4, g6⟩]
          simp (disch := first | assumption | omega | (simp (disch := omega) only [wN, w0, w1]; omega)) only [e144_0, e144_1, e144_4, e144_7, e144_8, e144_10, e144_11, e144_14, e144_15, e144_16, e144_17, e144_20, e144_23, e144_24, e144_27, e144_28, e144_30, e144_33, e144_34, e144_36, e144_39, e144_40, e144_41, e144_42, e144_45, e144_48, e144_50, e144_51, e144_52, e144_53, e144_56, e144_59, e144_60, e144_63, e144_66, e144_67, e144_70, e144_71, e144_72, e144_75, e144_76, e144_79, e144_82, e144_83, e144_85, e144_86, e144_89, e144_90, e144_91, e144_92, e144_95, e144_97, e144_100, e144_101, e144_102, e144_103, e144_105, e144_108, e144_109, e144_112, e144_115, e144_116, e144_119, e144_122, e144_123, e144_126, e144_129, e144_132, e144_135, e144_136, e144_139, e144_140, e144_141, e144_142, e144_145, e144_148, e144_149, e144_152, e144_155, e144_156, e144_159, e144_162, e144_165, kl_I, kl_R, kl_N, kl_L, oSm, oNn, Option.bind_some, wN, if_pos, if_neg, nS, tN, t0, w0, w1, w2, w3, w4, w5, wm1, upA_ne, upA_same, if_true, if_false, Bool.false_eq_true, q144, s0, u2, k10, e121, ww, w20, w21]
theorem X146 {lo : Bool} (hX : XS sh) (h : InvX sh σ a) (hnm : a.1.1 ≤ a.1.2.2.1) (hR9 : HR σ 63 (rwL a.1.1 a.1.2.2.1)) : End (run sh (d + 4) 146 [mR 0, mI (bi lo)] σ) (fun r σ' => r = some (mI (if lo = true then opL (rwL a.1.1 a.1.2.2.1) (fst1 (gdR a.1.1 a.1.2.2.1 a.1.2.1 a.1.2.2.2.1) ((rwL a.1.1 a.1.2.2.1).length - 0) 0) else (cnt (gdR a.1.1 a.1.2.2.1 a.1.2.1 a.1.2.2.2.1) (rwL a.1.1 a.1.2.2.1).length : Int))) ∧ InvX sh σ' a) := by
  obtain ⟨ho, s0, s1, s3, s4, s5, s6, s7, s8, s9, s10, s11, s12, s13, hnow, hkep, htap, k43, l43, hspg, hspb, htri, hrow, hcol, hkc, k69, l69, hrou, hfin, hsh, hR⟩ := id hX
  obtain ⟨so, u1, u2, u3, sg, sb, sl⟩ := id hnow
  have sgo := sg.1
  have sbo := sb.1
  have slo := sl.1
  have tpo := htap.1
  have spgo := hspg.1
  have spbo := hspb.1
  have trio := htri.1
  have rowo := hrow.1
  have colo := hcol.1
  have kco := hkc.1
  have rouo := hrou.1
  have fino := hfin.1
  have kpo := hkep.1
  obtain ⟨⟨n, c, m, E, P, x⟩, K, B, s, T⟩ := a
  obtain ⟨⟨hS, hoS⟩, hik, hKp, hTp, h140, hTm, hT1⟩ := id h
  replace hS : HS σ 1 n c m E P (x : Int) := hS
  replace hoS : okZ n c m E P x := hoS
  replace hTp : HP σ 41 B s := hTp
  replace h140 : s ≤ 140 := h140
  replace hTm : HT sh σ 43 T := hTm
  replace hik : σ.1 0 2 = bi K.isSome := hik
  obtain ⟨hS0, hSG, hSB, hSF, hSL, hSx⟩ := id hS
  obtain ⟨n1, n4', c30, hv, m2, m5, E10, hvE, hPk, x16⟩ := id hoS
  replace hnm : n ≤ m := hnm
  replace hR9 : HR σ 63 (rwL n m) := hR9
  have rl := rwL_le n (by omega) m (by omega)
  show End _ (fun r σ' => r = some (mI (if lo = true then opL (rwL n m) (fst1 (gdR n m c E) ((rwL n m).length - 0) 0) else (cnt (gdR n m c E) (rwL n m).length : Int))) ∧ _)
  have step : ∀ (σ1 : Mem) (i : Nat), InvX sh σ1 ((n, c, m, E, P, x), K, B, s, T) → HR σ1 63 (rwL n m) → i < (rwL n m).length → ∃ σ2, run sh (d + 3) 75 [mR 60, mI ((rwL n m).getD i 0 : Int), mI (n : Int)] σ1 = some (none, σ2) ∧ InvX sh σ2 ((n, c, m, E, P, x), K, B, s, T) ∧ HR σ2 63 (rwL n m) ∧ run sh (d + 3) 82 [mR 60, mR 2, mR 9] σ2 = some (some (mI (if gdR n m c E i = true then 1 else 0)), σ2) := by
    intro σ1 i h1 h2 hi
    obtain ⟨o1, o2⟩ := rwL_ok (n := n) (m := m) n4' m5 hi
    obtain ⟨rb, σ4, b1, rfl, b3, b4⟩ := Y75 (d := d + 1) (σ := σ1) htri o2 n4' (by omega)
    rw [o1] at b1
    have hI4 := h1.B (b4.B.w (x' := 44) (y' := 64) (by omega) (by omega)) (by omega) (by omega)
    have hS4 : HS σ4 1 n c m E P (x : Int) := hI4.1.1
    exact ⟨σ4, b1, hI4, h2.fr b4.B (by omega), Y82 (d := d) htri b3 o2 n4' m5 sb hS4.2.2.1 hS4.2.2.2.1 sg hS4.2.1 c30 (by omega) hv⟩
  have L := for_P ((rwL n m).length) (fun i => ∀ (σ1 : Mem), (InvX sh σ1 ((n, c, m, E, P, x), K, B, s, T) ∧ HR σ1 63 (rwL n m) ∧ (lo = true → fst1 (gdR n m c E) ((rwL n m).length - i) i = fst1 (gdR n m c E) ((rwL n m).length - 0) 0)) → End (ev sh (d + 4) 146 4 [some (mR (0)), some (mI (bi lo)), some (mI ((cnt (gdR n m c E) i : Nat) : Int)), some (mI ((i : Nat) : Int))] [] σ1) (fun r σ' => r = some (mI (if lo = true then opL (rwL n m) (fst1 (gdR n m c E) ((rwL n m).length - 0) 0) else (cnt (gdR n m c E) (rwL n m).length : Int))) ∧ InvX sh σ' ((n, c, m, E, P, x), K, B, s, T))) (by
    intro σ1  hp
    replace hp : InvX sh σ1 ((n, c, m, E, P, x), K, B, s, T) ∧ HR σ1 63 (rwL n m) ∧ (lo = true → fst1 (gdR n m c E) ((rwL n m).length - ((rwL n m).length)) ((rwL n m).length) = fst1 (gdR n m c E) ((rwL n m).length - 0) 0) := hp
    show End (ev sh (d + 4) 146 4 [some (mR (0)), some (mI (bi lo)), some (mI ((cnt (gdR n m c E) ((rwL n m).length) : Nat) : Int)), some (mI ((((rwL n m).length) : Nat) : Int))] [] σ1) (fun r σ' => r = some (mI (if lo = true then opL (rwL n m) (fst1 (gdR n m c E) ((rwL n m).length - 0) 0) else (cnt (gdR n m c E) (rwL n m).length : Int))) ∧ InvX sh σ' ((n, c, m, E, P, x), K, B, s, T))
    have hl := hp.2.1.1
    rw [e146_4]
    cases lo with
    | true =>
      have e := hp.2.2 rfl
      rw [fst1_e] at e
      rw [← e]
      have b1 : bi true = 1 := rfl
      simp (disch := first | assumption | omega | (simp (disch := omega) only [wN, w0, w1]; omega)) only [e146_0, e146_1, e146_2, e146_3, e146_5, e146_6, e146_9, e146_12, e146_15, e146_16, e146_19, e146_20, e146_23, e146_24, e146_27, e146_28, e146_31, e146_34, e146_37, e146_38, e146_41, e146_42, e146_45, e146_48, e146_49, e146_52, e146_55, e146_58, e146_61, e146_62, e146_65, e146_66, e146_69, e146_70, e146_73, e146_74, e146_77, e146_80, e146_83, e146_84, e146_87, e146_89, e146_92, e146_93, kl_I, kl_R, kl_N, kl_L, oSm, oNn, Option.bind_some, wN, if_pos, if_neg, nS, tN, t0, w0, w1, w2, w3, w4, w5, wm1, upA_ne, upA_same, if_true, if_false, Bool.false_eq_true, s8, hl, b1]
      exact End.of rfl ⟨rfl, hp.1⟩
    | false =>
      have b1 : bi false = 0 := rfl
      simp (disch := first | assumption | omega | (simp (disch := omega) only [wN, w0, w1]; omega)) only [e146_0, e146_1, e146_2, e146_3, e146_5, e146_6, e146_9, e146_12, e146_15, e146_16, e146_19, e146_20, e146_23, e146_24, e146_27, e146_28, e146_31, e146_34, e146_37, e146_38, e146_41, e146_42, e146_45, e146_48, e146_49, e146_52, e146_55, e146_58, e146_61, e146_62, e146_65, e146_66, e146_69, e146_70, e146_73, e146_74, e146_77, e146_80, e146_83, e146_84, e146_87, e146_89, e146_92, e146_93, kl_I, kl_R, kl_N, kl_L, oSm, oNn, Option.bind_some, wN, if_pos, if_neg, nS, tN, t0, w0, w1, w2, w3, w4, w5, wm1, upA_ne, upA_same, if_true, if_false, Bool.false_eq_true, s8, hl, b1]
      exact End.of rfl ⟨rfl, hp.1⟩) (fun i hi ih => by
    replace ih : ∀ (σ1 : Mem), (InvX sh σ1 ((n, c, m, E, P, x), K, B, s, T) ∧ HR σ1 63 (rwL n m) ∧ (lo = true → fst1 (gdR n m c E) ((rwL n m).length - (i + 1)) (i + 1) = fst1 (gdR n m c E) ((rwL n m).length - 0) 0)) → End (ev sh (d + 4) 146 4 [some (mR (0)), some (mI (bi lo)), some (mI ((cnt (gdR n m c E) (i + 1) : Nat) : Int)), some (mI (((i + 1) : Nat) : Int))] [] σ1) (fun r σ' => r = some (mI (if lo = true then opL (rwL n m) (fst1 (gdR n m c E) ((rwL n m).length - 0) 0) else (cnt (gdR n m c E) (rwL n m).length : Int))) ∧ InvX sh σ' ((n, c, m, E, P, x), K, B, s, T)) := ih
    intro σ1  hp
    replace hp : InvX sh σ1 ((n, c, m, E, P, x), K, B, s, T) ∧ HR σ1 63 (rwL n m) ∧ (lo = true → fst1 (gdR n m c E) ((rwL n m).length - i) i = fst1 (gdR n m c E) ((rwL n m).length - 0) 0) := hp
    show End (ev sh (d + 4) 146 4 [some (mR (0)), some (mI (bi lo)), some (mI ((cnt (gdR n m c E) i : Nat) : Int)), some (mI ((i : Nat) : Int))] [] σ1) (fun r σ' => r = some (mI (if lo = true then opL (rwL n m) (fst1 (gdR n m c E) ((rwL n m).length - 0) 0) else (cnt (gdR n m c E) (rwL n m).length : Int))) ∧ InvX sh σ' ((n, c, m, E, P, x), K, B, s, T))
    have hl := hp.2.1.1
    have hN1 : σ1.1 1 0 = (n : Int) := hp.1.1.1.1
    have e100 := R100 (d := d + 2) (j := i) hrow hp.2.1 (by omega) (by omega) hi
    obtain ⟨σ2, a1, a2, a3, a4⟩ := step σ1 i hp.1 hp.2.1 hi
    have e100' := R100 (d := d + 2) (j := i) hrow a3 (by omega) (by omega) hi
    rw [e146_4]
    by_cases hg : gdR n m c E i = true
    · rw [if_pos hg] at a4
      have ec : cnt (gdR n m c E) (i + 1) = cnt (gdR n m c E) i + 1 := by rw [cnt, if_pos hg]
      rw [ec] at ih
      cases lo with
      | true =>
        have e := hp.2.2 rfl
        rw [fst1_s hi, if_pos hg] at e
        have b1 : bi true = 1 := rfl
        rw [← e]
        simp (disch := first | assumption | omega | (simp (disch := omega) only [wN, w0, w1]; omega)) only [e146_0, e146_1, e146_2, e146_3, e146_5, e146_6, e146_9, e146_12, e146_15, e146_16, e146_19, e146_20, e146_23, e146_24, e146_27, e146_28, e146_31, e146_34, e146_37, e146_38, e146_41, e146_42, e146_45, e146_48, e146_49, e146_52, e146_55, e146_58, e146_61, e146_62, e146_65, e146_66, e146_69, e146_70, e146_73, e146_74, e146_77, e146_80, e146_83, e146_84, e146_87, e146_89, e146_92, e146_93, kl_I, kl_R, kl_N, kl_L, oSm, oNn, Option.bind_some, wN, if_pos, if_neg, nS, tN, t0, w0, w1, w2, w3, w4, w5, wm1, upA_ne, upA_same, if_true, if_false, Bool.false_eq_true, s0, s7, s8, u1, u2, hl, hN1, e100, a1, a4, b1, e100']
        exact End.of rfl ⟨rfl, a2⟩
      | false =>
        have b1 : bi false = 0 := rfl
        simp (disch := first | assumption | omega | (simp (disch := omega) only [wN, w0, w1]; omega)) only [e146_0, e146_1, e146_2, e146_3, e146_5, e146_6, e146_9, e146_12, e146_15, e146_16, e146_19, e146_20, e146_23, e146_24, e146_27, e146_28, e146_31, e146_34, e146_37, e146_38, e146_41, e146_42, e146_45, e146_48, e146_49, e146_52, e146_55, e146_58, e146_61, e146_62, e146_65, e146_66, e146_69, e146_70, e146_73, e146_74, e146_77, e146_80, e146_83, e146_84, e146_87, e146_89, e146_92, e146_93, kl_I, kl_R, kl_N, kl_L, oSm, oNn, Option.bind_some, wN, if_pos, if_neg, nS, tN, t0, w0, w1, w2, w3, w4, w5, wm1, upA_ne, upA_same, if_true, if_false, Bool.false_eq_true, s0, s7, s8, u1, u2, hl, hN1, e100, a1, a4, b1]
        exact ih _ ⟨a2, a3, fun q => by cases q⟩
    · rw [if_neg hg] at a4
      have ec : cnt (gdR n m c E) (i + 1) = cnt (gdR n m c E) i := by rw [cnt, if_neg hg]; rfl
      rw [ec] at ih
      simp (disch := first | assumption | omega | (simp (disch := omega) only [wN, w0, w1]; omega)) only [e146_0, e146_1, e146_2, e146_3, e146_5, e146_6, e146_9, e146_12, e146_15, e146_16, e146_19, e146_20, e146_23, e146_24, e146_27, e146_28, e146_31, e146_34, e146_37, e146_38, e146_41, e146_42, e146_45, e146_48, e146_49, e146_52, e146_55, e146_58, e146_61, e146_62, e146_65, e146_66, e146_69, e146_70, e146_73, e146_74, e146_77, e146_80, e146_83, e146_84, e146_87, e146_89, e146_92, e146_93, kl_I, kl_R, kl_N, kl_L, oSm, oNn, Option.bind_some, wN, if_pos, if_neg, nS, tN, t0, w0, w1, w2, w3, w4, w5, wm1, upA_ne, upA_same, if_true, if_false, Bool.false_eq_true, s0, s7, s8, u1, u2, hl, hN1, e100, a1, a4]
      refine ih _ ⟨a2, a3, fun q => ?_⟩
      have e := hp.2.2 q
      rw [fst1_s hi, if_neg hg] at e
      exact e) 0 (Nat.zero_le _)
  simp (disch := first | assumption | omega | (simp (disch := omega) only [wN, w0, w1]; omega)) only [e146_0, e146_1, e146_2, e146_3, e146_5, e146_6, e146_9, e146_12, e146_15, e146_16, e146_19, e146_20, e146_23, e146_24, e146_27, e146_28, e146_31, e146_34, e146_37, e146_38, e146_41, e146_42, e146_45, e146_48, e146_49, e146_52, e146_55, e146_58, e146_61, e146_62, e146_65, e146_66, e146_69, e146_70, e146_73, e146_74, e146_77, e146_80, e146_83, e146_84, e146_87, e146_89, e146_92, e146_93, kl_I, kl_R, kl_N, kl_L, oSm, oNn, Option.bind_some, wN, if_pos, if_neg, nS, tN, t0, w0, w1, w2, w3, w4, w5, wm1, upA_ne, upA_same, if_true, if_false, Bool.false_eq_true, q146]
  exact L σ ⟨h, hR9, fun _ => rfl⟩
theorem X147 {lo : Bool} (hX : XS sh) (h : InvX sh σ a) (hnm : a.1.1 ≤ a.1.2.2.1) (hR9 : HR σ 63 (rwL a.1.1 a.1.2.2.1)) : End (run sh (d + 4) 147 [mR 0, mI (bi lo)] σ) (fun r σ' => r = some (mI (if lo = true then (neS a.1.1 a.1.2.2.1 a.1.2.1 a.1.2.2.2.1 (rwL a.1.1 a.1.2.2.1).length).2 else (neS a.1.1 a.1.2.2.1 a.1.2.1 a.1.2.2.2.1 (rwL a.1.1 a.1.2.2.1).length).1)) ∧ InvX sh σ' a) := by
  obtain ⟨ho, s0, s1, s3, s4, s5, s6, s7, s8, s9, s10, s11, s12, s13, hnow, hkep, htap, k43, l43, hspg, hspb, htri, hrow, hcol, hkc, k69, l69, hrou, hfin, hsh, hR⟩ := id hX
  obtain ⟨so, u1, u2, u3, sg, sb, sl⟩ := id hnow
  have sgo := sg.1
  have sbo := sb.1
  have slo := sl.1
  have tpo := htap.1
  have spgo := hspg.1
  have spbo := hspb.1
  have trio := htri.1
  have rowo := hrow.1
  have colo := hcol.1
  have kco := hkc.1
  have rouo := hrou.1
  have fino := hfin.1
  have kpo := hkep.1
  obtain ⟨⟨n, c, m, E, P, x⟩, K, B, s, T⟩ := a
  obtain ⟨⟨hS, hoS⟩, hik, hKp, hTp, h140, hTm, hT1⟩ := id h
  replace hS : HS σ 1 n c m E P (x : Int) := hS
  replace hoS : okZ n c m E P x := hoS
  replace hTp : HP σ 41 B s := hTp
  replace h140 : s ≤ 140 := h140
  replace hTm : HT sh σ 43 T := hTm
  replace hik : σ.1 0 2 = bi K.isSome := hik
  obtain ⟨hS0, hSG, hSB, hSF, hSL, hSx⟩ := id hS
  obtain ⟨n1, n4', c30, hv, m2, m5, E10, hvE, hPk, x16⟩ := id hoS
  replace hnm : n ≤ m := hnm
  replace hR9 : HR σ 63 (rwL n m) := hR9
  have rl := rwL_le n (by omega) m (by omega)
  show End _ (fun r σ' => r = some (mI (if lo = true then (neS n m c E (rwL n m).length).2 else (neS n m c E (rwL n m).length).1)) ∧ _)
  have step : ∀ (σ1 : Mem) (i : Nat), InvX sh σ1 ((n, c, m, E, P, x), K, B, s, T) → HR σ1 63 (rwL n m) → i < (rwL n m).length → ∃ σ2, run sh (d + 3) 75 [mR 60, mI ((rwL n m).getD i 0 : Int), mI (n : Int)] σ1 = some (none, σ2) ∧ InvX sh σ2 ((n, c, m, E, P, x), K, B, s, T) ∧ HR σ2 63 (rwL n m) ∧ run sh (d + 3) 83 [mR 60, mR 2, mR 9] σ2 = some (some (mI (ovS (farE E) (pOf n ((rwL n m).getD i 0)) c c.length)), σ2) := by
    intro σ1 i h1 h2 hi
    obtain ⟨o1, o2⟩ := rwL_ok (n := n) (m := m) n4' m5 hi
    obtain ⟨rb, σ4, b1, rfl, b3, b4⟩ := Y75 (d := d + 1) (σ := σ1) htri o2 n4' (by omega)
    rw [o1] at b1
    have hI4 := h1.B (b4.B.w (x' := 44) (y' := 64) (by omega) (by omega)) (by omega) (by omega)
    have hS4 : HS σ4 1 n c m E P (x : Int) := hI4.1.1
    exact ⟨σ4, b1, hI4, h2.fr b4.B (by omega), Y83 (d := d) htri b3 o2 n4' m5 sb hS4.2.2.1 hS4.2.2.2.1 sg hS4.2.1 c30 (by omega) hv⟩
  have neR : ∀ i, i ≤ (rwL n m).length → -30 ≤ (neS n m c E i).1 ∧ (neS n m c E i).1 ≤ 1000000000 := by
    intro i
    induction i with
    | zero => intro _; rw [neS]; simp only; omega
    | succ i ih =>
      intro hi
      have := ih (by omega)
      have := ovS_r (P := pOf n ((rwL n m).getD i 0)) (c := c) (E := E) rfl c.length
      rw [neS]
      split
      · simp only; omega
      · omega
  have L := for_P ((rwL n m).length) (fun i => ∀ (σ1 : Mem) (v5 : Option MV), (InvX sh σ1 ((n, c, m, E, P, x), K, B, s, T) ∧ HR σ1 63 (rwL n m)) → End (ev sh (d + 4) 147 10 [some (mR (0)), some (mI (bi lo)), some (mI ((neS n m c E i).1)), some (mI ((neS n m c E i).2)), some (mI ((i : Nat) : Int)), v5] [] σ1) (fun r σ' => r = some (mI (if lo = true then (neS n m c E (rwL n m).length).2 else (neS n m c E (rwL n m).length).1)) ∧ InvX sh σ' ((n, c, m, E, P, x), K, B, s, T))) (by
    intro σ1 v5 hp
    replace hp : InvX sh σ1 ((n, c, m, E, P, x), K, B, s, T) ∧ HR σ1 63 (rwL n m) := hp
    show End (ev sh (d + 4) 147 10 [some (mR (0)), some (mI (bi lo)), some (mI ((neS n m c E ((rwL n m).length)).1)), some (mI ((neS n m c E ((rwL n m).length)).2)), some (mI ((((rwL n m).length) : Nat) : Int)), v5] [] σ1) (fun r σ' => r = some (mI (if lo = true then (neS n m c E (rwL n m).length).2 else (neS n m c E (rwL n m).length).1)) ∧ InvX sh σ' ((n, c, m, E, P, x), K, B, s, T))
    have hl := hp.2.1
    rw [e147_10]
    cases lo with
    | true =>
      have b1 : bi true = 1 := rfl
      simp (disch := first | assumption | omega | (simp (disch := omega) only [wN, w0, w1]; omega)) only [e147_0, e147_3, e147_4, e147_6, e147_7, e147_8, e147_12, e147_13, e147_16, e147_19, e147_22, e147_23, e147_26, e147_27, e147_30, e147_32, e147_35, e147_36, e147_39, e147_42, e147_45, e147_46, e147_49, e147_50, e147_53, e147_56, e147_57, e147_60, e147_63, e147_66, e147_68, e147_70, e147_71, e147_74, e147_76, e147_77, e147_78, e147_81, e147_83, e147_86, e147_87, e147_90, e147_93, e147_94, e147_97, e147_98, e147_101, e147_102, kl_I, kl_R, kl_N, kl_L, oSm, oNn, Option.bind_some, wN, if_pos, if_neg, nS, tN, t0, w0, w1, w2, w3, w4, w5, wm1, upA_ne, upA_same, if_true, if_false, Bool.false_eq_true, s8, hl, b1]
      exact End.of rfl ⟨rfl, hp.1⟩
    | false =>
      have b1 : bi false = 0 := rfl
      simp (disch := first | assumption | omega | (simp (disch := omega) only [wN, w0, w1]; omega)) only [e147_0, e147_3, e147_4, e147_6, e147_7, e147_8, e147_12, e147_13, e147_16, e147_19, e147_22, e147_23, e147_26, e147_27, e147_30, e147_32, e147_35, e147_36, e147_39, e147_42, e147_45, e147_46, e147_49, e147_50, e147_53, e147_56, e147_57, e147_60, e147_63, e147_66, e147_68, e147_70, e147_71, e147_74, e147_76, e147_77, e147_78, e147_81, e147_83, e147_86, e147_87, e147_90, e147_93, e147_94, e147_97, e147_98, e147_101, e147_102, kl_I, kl_R, kl_N, kl_L, oSm, oNn, Option.bind_some, wN, if_pos, if_neg, nS, tN, t0, w0, w1, w2, w3, w4, w5, wm1, upA_ne, upA_same, if_true, if_false, Bool.false_eq_true, s8, hl, b1]
      exact End.of rfl ⟨rfl, hp.1⟩) (fun i hi ih => by
    replace ih : ∀ (σ1 : Mem) (v5 : Option MV), (InvX sh σ1 ((n, c, m, E, P, x), K, B, s, T) ∧ HR σ1 63 (rwL n m)) → End (ev sh (d + 4) 147 10 [some (mR (0)), some (mI (bi lo)), some (mI ((neS n m c E (i + 1)).1)), some (mI ((neS n m c E (i + 1)).2)), some (mI (((i + 1) : Nat) : Int)), v5] [] σ1) (fun r σ' => r = some (mI (if lo = true then (neS n m c E (rwL n m).length).2 else (neS n m c E (rwL n m).length).1)) ∧ InvX sh σ' ((n, c, m, E, P, x), K, B, s, T)) := ih
    intro σ1 v5 hp
    replace hp : InvX sh σ1 ((n, c, m, E, P, x), K, B, s, T) ∧ HR σ1 63 (rwL n m) := hp
    show End (ev sh (d + 4) 147 10 [some (mR (0)), some (mI (bi lo)), some (mI ((neS n m c E i).1)), some (mI ((neS n m c E i).2)), some (mI ((i : Nat) : Int)), v5] [] σ1) (fun r σ' => r = some (mI (if lo = true then (neS n m c E (rwL n m).length).2 else (neS n m c E (rwL n m).length).1)) ∧ InvX sh σ' ((n, c, m, E, P, x), K, B, s, T))
    have hl := hp.2.1
    have hN1 : σ1.1 1 0 = (n : Int) := hp.1.1.1.1
    have e100 := R100 (d := d + 2) (j := i) hrow hp.2 (by omega) (by omega) hi
    obtain ⟨σ2, a1, a2, a3, a4⟩ := step σ1 i hp.1 hp.2 hi
    have e100' := R100 (d := d + 2) (j := i) hrow a3 (by omega) (by omega) hi
    have r1 := neR i (by omega)
    have r2 := ovS_r (P := pOf n ((rwL n m).getD i 0)) (c := c) (E := E) rfl c.length
    have w1' : wi (neS n m c E i).1 = (neS n m c E i).1 := wi_id (by omega) (by omega)
    have w2' : wi (ovS (farE E) (pOf n ((rwL n m).getD i 0)) c c.length) = ovS (farE E) (pOf n ((rwL n m).getD i 0)) c c.length := wi_id (by omega) (by omega)
    rw [e147_10]
    by_cases hg : ovS (farE E) (pOf n ((rwL n m).getD i 0)) c c.length < (neS n m c E i).1
    · have en : neS n m c E (i + 1) = (ovS (farE E) (pOf n ((rwL n m).getD i 0)) c c.length, ((rwL n m).getD i 0 : Int)) := by rw [neS, if_pos hg]
      rw [en] at ih
      simp (disch := first | assumption | omega | (simp (disch := omega) only [wN, w0, w1]; omega)) only [e147_0, e147_3, e147_4, e147_6, e147_7, e147_8, e147_12, e147_13, e147_16, e147_19, e147_22, e147_23, e147_26, e147_27, e147_30, e147_32, e147_35, e147_36, e147_39, e147_42, e147_45, e147_46, e147_49, e147_50, e147_53, e147_56, e147_57, e147_60, e147_63, e147_66, e147_68, e147_70, e147_71, e147_74, e147_76, e147_77, e147_78, e147_81, e147_83, e147_86, e147_87, e147_90, e147_93, e147_94, e147_97, e147_98, e147_101, e147_102, kl_I, kl_R, kl_N, kl_L, oSm, oNn, Option.bind_some, wN, if_pos, if_neg, nS, tN, t0, w0, w1, w2, w3, w4, w5, wm1, upA_ne, upA_same, if_true, if_false, Bool.false_eq_true, s0, s7, s8, u1, u2, hl, hN1, e100, a1, a4, w1', w2', e100']
      exact ih _ _ ⟨a2, a3⟩
    · have en : neS n m c E (i + 1) = neS n m c E i := by rw [neS, if_neg hg]
      rw [en] at ih
      simp (disch := first | assumption | omega | (simp (disch := omega) only [wN, w0, w1]; omega)) only [e147_0, e147_3, e147_4, e147_6, e147_7, e147_8, e147_12, e147_13, e147_16, e147_19, e147_22, e147_23, e147_26, e147_27, e147_30, e147_32, e147_35, e147_36, e147_39, e147_42, e147_45, e147_46, e147_49, e147_50, e147_53, e147_56, e147_57, e147_60, e147_63, e147_66, e147_68, e147_70, e147_71, e147_74, e147_76, e147_77, e147_78, e147_81, e147_83, e147_86, e147_87, e147_90, e147_93, e147_94, e147_97, e147_98, e147_101, e147_102, kl_I, kl_R, kl_N, kl_L, oSm, oNn, Option.bind_some, wN, if_pos, if_neg, nS, tN, t0, w0, w1, w2, w3, w4, w5, wm1, upA_ne, upA_same, if_true, if_false, Bool.false_eq_true, s0, s7, s8, u1, u2, hl, hN1, e100, a1, a4, w1', w2']
      exact ih _ _ ⟨a2, a3⟩) 0 (Nat.zero_le _)
  simp (disch := first | assumption | omega | (simp (disch := omega) only [wN, w0, w1]; omega)) only [e147_0, e147_3, e147_4, e147_6, e147_7, e147_8, e147_12, e147_13, e147_16, e147_19, e147_22, e147_23, e147_26, e147_27, e147_30, e147_32, e147_35, e147_36, e147_39, e147_42, e147_45, e147_46, e147_49, e147_50, e147_53, e147_56, e147_57, e147_60, e147_63, e147_66, e147_68, e147_70, e147_71, e147_74, e147_76, e147_77, e147_78, e147_81, e147_83, e147_86, e147_87, e147_90, e147_93, e147_94, e147_97, e147_98, e147_101, e147_102, kl_I, kl_R, kl_N, kl_L, oSm, oNn, Option.bind_some, wN, if_pos, if_neg, nS, tN, t0, w0, w1, w2, w3, w4, w5, wm1, upA_ne, upA_same, if_true, if_false, Bool.false_eq_true, q147]
  exact L σ none ⟨h, hR9⟩
theorem X145 (hX : XS sh) (h : InvX sh σ a) (hw' : i32 w) : End (run sh (d + 5) 145 [mR 0, mI w] σ) (fun r σ' => r = some (mI (aGood a w)) ∧ InvX sh σ' a) := by
  have e142 := X142 (d := d + 3) hX h
  have h0 := h
  obtain ⟨ho, s0, s1, s3, s4, s5, s6, s7, s8, s9, s10, s11, s12, s13, hnow, hkep, htap, k43, l43, hspg, hspb, htri, hrow, hcol, hkc, k69, l69, hrou, hfin, hsh, hR⟩ := id hX
  obtain ⟨so, u1, u2, u3, sg, sb, sl⟩ := id hnow
  have sgo := sg.1
  have sbo := sb.1
  have slo := sl.1
  have tpo := htap.1
  have spgo := hspg.1
  have spbo := hspb.1
  have trio := htri.1
  have rowo := hrow.1
  have colo := hcol.1
  have kco := hkc.1
  have rouo := hrou.1
  have fino := hfin.1
  have kpo := hkep.1
  obtain ⟨⟨n, c, m, E, P, x⟩, K, B, s, T⟩ := a
  obtain ⟨⟨hS, hoS⟩, hik, hKp, hTp, h140, hTm, hT1⟩ := id h
  replace hS : HS σ 1 n c m E P (x : Int) := hS
  replace hoS : okZ n c m E P x := hoS
  replace hTp : HP σ 41 B s := hTp
  replace h140 : s ≤ 140 := h140
  replace hTm : HT sh σ 43 T := hTm
  replace hik : σ.1 0 2 = bi K.isSome := hik
  obtain ⟨hS0, hSG, hSB, hSF, hSL, hSx⟩ := id hS
  obtain ⟨n1, n4', c30, hv, m2, m5, E10, hvE, hPk, x16⟩ := id hoS
  have ww := hw'.w
  have hm0 := hSB.1
  replace e142 : run sh (d + 4) 142 [mR 0] σ = some (some (mI (if m < n then 1 else 0)), σ) := e142
  show End _ (fun r σ' => r = some (mI (aGood ((n, c, m, E, P, x), K, B, s, T) w)) ∧ _)
  unfold aGood
  simp only
  by_cases h1 : w < 0
  · rw [if_pos (Or.inl h1)]
    simp (disch := first | assumption | omega | (simp (disch := omega) only [wN, w0, w1]; omega)) only [e145_0, e145_1, e145_4, e145_5, e145_6, e145_9, e145_10, e145_11, e145_12, e145_15, e145_18, e145_20, e145_21, e145_22, e145_25, e145_26, e145_29, e145_32, e145_33, e145_36, e145_39, e145_42, e145_45, e145_46, e145_47, e145_50, e145_51, e145_52, e145_53, e145_56, e145_57, e145_60, e145_61, e145_64, e145_67, e145_68, e145_69, e145_70, e145_73, e145_74, e145_77, e145_78, e145_81, kl_I, kl_R, kl_N, kl_L, oSm, oNn, Option.bind_some, wN, if_pos, if_neg, nS, tN, t0, w0, w1, w2, w3, w4, w5, wm1, upA_ne, upA_same, if_true, if_false, Bool.false_eq_true, q145, ww]
    exact End.of rfl ⟨rfl, h⟩
  · by_cases h2 : 3 < w
    · rw [if_pos (Or.inr h2)]
      simp (disch := first | assumption | omega | (simp (disch := omega) only [wN, w0, w1]; omega)) only [e145_0, e145_1, e145_4, e145_5, e145_6, e145_9, e145_10, e145_11, e145_12, e145_15, e145_18, e145_20, e145_21, e145_22, e145_25, e145_26, e145_29, e145_32, e145_33, e145_36, e145_39, e145_42, e145_45, e145_46, e145_47, e145_50, e145_51, e145_52, e145_53, e145_56, e145_57, e145_60, e145_61, e145_64, e145_67, e145_68, e145_69, e145_70, e145_73, e145_74, e145_77, e145_78, e145_81, kl_I, kl_R, kl_N, kl_L, oSm, oNn, Option.bind_some, wN, if_pos, if_neg, nS, tN, t0, w0, w1, w2, w3, w4, w5, wm1, upA_ne, upA_same, if_true, if_false, Bool.false_eq_true, q145, ww]
      exact End.of rfl ⟨rfl, h⟩
    · rw [if_neg (by omega)]
      by_cases h3 : m < n
      · rw [if_pos h3] at e142 ⊢
        simp (disch := first | assumption | omega | (simp (disch := omega) only [wN, w0, w1]; omega)) only [e145_0, e145_1, e145_4, e145_5, e145_6, e145_9, e145_10, e145_11, e145_12, e145_15, e145_18, e145_20, e145_21, e145_22, e145_25, e145_26, e145_29, e145_32, e145_33, e145_36, e145_39, e145_42, e145_45, e145_46, e145_47, e145_50, e145_51, e145_52, e145_53, e145_56, e145_57, e145_60, e145_61, e145_64, e145_67, e145_68, e145_69, e145_70, e145_73, e145_74, e145_77, e145_78, e145_81, kl_I, kl_R, kl_N, kl_L, oSm, oNn, Option.bind_some, wN, if_pos, if_neg, nS, tN, t0, w0, w1, w2, w3, w4, w5, wm1, upA_ne, upA_same, if_true, if_false, Bool.false_eq_true, q145, ww, e142]
        exact End.of rfl ⟨rfl, h⟩
      · rw [if_neg h3] at e142 ⊢
        obtain ⟨r, σ1, a1, rfl, a3, a4⟩ := R98 (d := d + 2) (n := n) (m := m) (σ := σ) hrow (by omega) (by omega) n4'
        have hI1 := h.B a4.B (by omega) (by omega)
        rcases (show w = 0 ∨ w = 1 ∨ w = 2 ∨ w = 3 by omega) with rfl | rfl | rfl | rfl
        · obtain ⟨r, σ2, b1, b2, b3⟩ := X146 (d := d) (lo := false) hX hI1 (show n ≤ m by omega) a3
          have b1 : run sh (d + 4) 146 [mR 0, mI 0] σ1 = some (r, σ2) := b1
          rw [b2] at b1
          simp (disch := first | assumption | omega | (simp (disch := omega) only [wN, w0, w1]; omega)) only [e145_0, e145_1, e145_4, e145_5, e145_6, e145_9, e145_10, e145_11, e145_12, e145_15, e145_18, e145_20, e145_21, e145_22, e145_25, e145_26, e145_29, e145_32, e145_33, e145_36, e145_39, e145_42, e145_45, e145_46, e145_47, e145_50, e145_51, e145_52, e145_53, e145_56, e145_57, e145_60, e145_61, e145_64, e145_67, e145_68, e145_69, e145_70, e145_73, e145_74, e145_77, e145_78, e145_81, kl_I, kl_R, kl_N, kl_L, oSm, oNn, Option.bind_some, wN, if_pos, if_neg, nS, tN, t0, w0, w1, w2, w3, w4, w5, wm1, upA_ne, upA_same, if_true, if_false, Bool.false_eq_true, q145, e142, s0, s8, u2, hS0, hm0, a1, b1]
          exact End.of rfl ⟨rfl, b3⟩
        · obtain ⟨r, σ2, b1, b2, b3⟩ := X146 (d := d) (lo := true) hX hI1 (show n ≤ m by omega) a3
          have b1 : run sh (d + 4) 146 [mR 0, mI 1] σ1 = some (r, σ2) := b1
          rw [b2] at b1
          simp (disch := first | assumption | omega | (simp (disch := omega) only [wN, w0, w1]; omega)) only [e145_0, e145_1, e145_4, e145_5, e145_6, e145_9, e145_10, e145_11, e145_12, e145_15, e145_18, e145_20, e145_21, e145_22, e145_25, e145_26, e145_29, e145_32, e145_33, e145_36, e145_39, e145_42, e145_45, e145_46, e145_47, e145_50, e145_51, e145_52, e145_53, e145_56, e145_57, e145_60, e145_61, e145_64, e145_67, e145_68, e145_69, e145_70, e145_73, e145_74, e145_77, e145_78, e145_81, kl_I, kl_R, kl_N, kl_L, oSm, oNn, Option.bind_some, wN, if_pos, if_neg, nS, tN, t0, w0, w1, w2, w3, w4, w5, wm1, upA_ne, upA_same, if_true, if_false, Bool.false_eq_true, q145, e142, s0, s8, u2, hS0, hm0, a1, b1]
          exact End.of rfl ⟨rfl, b3⟩
        · obtain ⟨r, σ2, b1, b2, b3⟩ := X147 (d := d) (lo := false) hX hI1 (show n ≤ m by omega) a3
          have b1 : run sh (d + 4) 147 [mR 0, mI 0] σ1 = some (r, σ2) := b1
          rw [b2] at b1
          simp (disch := first | assumption | omega | (simp (disch := omega) only [wN, w0, w1]; omega)) only [e145_0, e145_1, e145_4, e145_5, e145_6, e145_9, e145_10, e145_11, e145_12, e145_15, e145_18, e145_20, e145_21, e145_22, e145_25, e145_26, e145_29, e145_32, e145_33, e145_36, e145_39, e145_42, e145_45, e145_46, e145_47, e145_50, e145_51, e145_52, e145_53, e145_56, e145_57, e145_60, e145_61, e145_64, e145_67, e145_68, e145_69, e145_70, e145_73, e145_74, e145_77, e145_78, e145_81, kl_I, kl_R, kl_N, kl_L, oSm, oNn, Option.bind_some, wN, if_pos, if_neg, nS, tN, t0, w0, w1, w2, w3, w4, w5, wm1, upA_ne, upA_same, if_true, if_false, Bool.false_eq_true, q145, e142, s0, s8, u2, hS0, hm0, a1, b1]
          exact End.of rfl ⟨rfl, b3⟩
        · obtain ⟨r, σ2, b1, b2, b3⟩ := X147 (d := d) (lo := true) hX hI1 (show n ≤ m by omega) a3
          have b1 : run sh (d + 4) 147 [mR 0, mI 1] σ1 = some (r, σ2) := b1
          rw [b2] at b1
          simp (disch := first | assumption | omega | (simp (disch := omega) only [wN, w0, w1]; omega)) only [e145_0, e145_1, e145_4, e145_5, e145_6, e145_9, e145_10, e145_11, e145_12, e145_15, e145_18, e145_20, e145_21, e145_22, e145_25, e145_26, e145_29, e145_32, e145_33, e145_36, e145_39, e145_42, e145_45, e145_46, e145_47, e145_50, e145_51, e145_52, e145_53, e145_56, e145_57, e145_60, e145_61, e145_64, e145_67, e145_68, e145_69, e145_70, e145_73, e145_74, e145_77, e145_78, e145_81, kl_I, kl_R, kl_N, kl_L, oSm, oNn, Option.bind_some, wN, if_pos, if_neg, nS, tN, t0, w0, w1, w2, w3, w4, w5, wm1, upA_ne, upA_same, if_true, if_false, Bool.false_eq_true, q145, e142, s0, s8, u2, hS0, hm0, a1, b1]
          exact End.of rfl ⟨rfl, b3⟩
end XI

