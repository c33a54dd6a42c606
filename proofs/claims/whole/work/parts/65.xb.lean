/-! ===== circuit, board, check, gate, draws, seed ===== -/
def aCirc (a : AX) (z : Int) : Int × AX :=
  if z < 0 ∨ 120 < z ∨ (a.2.2.2.1 : Int) < z then (-1, a)
  else if (rdC a.2.2.1 z.toNat a.1.1).1 < 0 then ((rdC a.2.2.1 z.toNat a.1.1).1, (a.1, a.2.1, a.2.2.1, 0, a.2.2.2.2))
  else (((rdC a.2.2.1 z.toNat a.1.1).2.length : Int), ((a.1.1, (rdC a.2.2.1 z.toNat a.1.1).2, a.1.2.2), a.2.1, a.2.2.1, 0, a.2.2.2.2))
def aBoard (a : AX) (z : Int) : Int × AX :=
  if z < 1 ∨ 60 < z ∨ (a.2.2.2.1 : Int) < z then (-1, a)
  else if (rdB a.2.2.1 z.toNat).1 < 0 then ((rdB a.2.2.1 z.toNat).1, (a.1, a.2.1, a.2.2.1, 0, a.2.2.2.2))
  else (((rdB a.2.2.1 z.toNat).2.2.length : Int), ((a.1.1, a.1.2.1, (rdB a.2.2.1 z.toNat).2.1, (rdB a.2.2.1 z.toNat).2.2, fun y => y, a.1.2.2.2.2.2), a.2.1, a.2.2.1, 0, a.2.2.2.2))
def igB (n : Nat) (k p q : Int) : Bool := decide (0 ≤ k ∧ k < 6 ∧ 0 ≤ p ∧ p < n) && (if k = 0 then decide (0 ≤ q ∧ q < 8) else if k < 3 then decide (q = -1) else decide (0 ≤ q ∧ q < n ∧ p ≠ q))
def aGate (a : AX) (k p q : Int) : Int × AX :=
  if igB a.1.1 k p q = false then (-1, a) else if 30 ≤ a.1.2.1.length then (-3, a) else ((a.1.2.1.length : Int), ((a.1.1, a.1.2.1 ++ [(k.toNat, p.toNat, q)], a.1.2.2), a.2))
def aSeed (a : AX) (z : Int) : Int × AX := if z < 0 ∨ 65535 < z then (0, a) else (1, ((a.1.1, a.1.2.1, a.1.2.2.1, a.1.2.2.2.1, a.1.2.2.2.2.1, z.toNat), a.2))
def cbB (B : Nat → Nat) (c : List Gt) (i : Nat) : Bool := !decide (i < c.length ∧ B i = (gA c i).1)
def opI : Option Nat → Int
  | none => -1
  | some i => (i : Int)
def aCheck (a : AX) (z : Int) : Int × AX :=
  if z < 0 ∨ 30 < z ∨ (a.2.2.2.1 : Int) < z then (-2, a) else (opI (fst1 (cbB a.2.2.1 a.1.2.1) (z.toNat - 0) 0), (a.1, a.2.1, a.2.2.1, 0, a.2.2.2.2))
theorem rdG_r (B : Nat → Nat) (s n i : Nat) : -6003 - (i : Int) ≤ (rdG B s n i).1 ∧ (rdG B s n i).1 ≤ (s : Int) := by
  have r1 := rdD_r B s (i + 1) 0 (n : Int) (Int.le_refl _)
  have r8 := rdD_r B s (i + 1) 0 8 (Int.le_refl _)
  have r3 := rdD_r B s (i + 3) 0 (n : Int) (Int.le_refl _)
  unfold rdG
  by_cases hk : kdB (byB B s i) = 0
  · rw [hk]
    repeat' split
    all_goals simp only
    all_goals omega
  · simp only [hk, if_false]
    repeat' split
    all_goals simp only
    all_goals omega
theorem rdL_r (B : Nat → Nat) (s n : Nat) : ∀ f i c, i ≤ s + 1 → -6100 - (s : Int) ≤ (rdL B s n f i c).1
  | 0, i, c, h => by rw [rdL]; simp only; omega
  | f + 1, i, c, h => by
    have h1 := rdG_r B s n i
    rw [rdL]
    repeat' split
    · simp only; omega
    · simp only; omega
    · simp only; omega
    · exact rdL_r B s n f _ _ (by omega)
theorem rdC_r (B : Nat → Nat) (s n : Nat) : -6100 - (s : Int) ≤ (rdC B s n).1 := by
  unfold rdC
  split
  · simp only; omega
  · exact rdL_r B s n 30 0 [] (by omega)
section XB
variable {sh : Shp} {d : Nat} {σ : Mem} {a : AX} {z w v : Int}
theorem HP.sz {t s s' : Nat} {B : Nat → Nat} (h : HP σ t B s) : HP (upA σ.1 t (up1 (σ.1 t) 1 (s' : Int)), σ.2) t B s' := by
  refine ⟨?_, fun j hj => ?_⟩
  · show upA _ _ _ _ _ = _
    rw [upA_same, up1_same]
  · show upA _ _ _ _ _ = _ ∧ _
    rw [upA_ne (by omega)]; exact h.2 j hj
theorem X116 (hX : XS sh) (h : InvX sh σ a) (hz : i32 z) : End (run sh (d + 9) 116 [mR 0, mI z] σ) (fun r σ' => r = some (mI (aCirc a z).1) ∧ InvX sh σ' (aCirc a z).2) := by
  obtain ⟨ho, s0, s1, s3, s4, s5, s6, s7, s8, s9, s10, s11, s12, s13, hnow, hkep, htap, k43, l43, hspg, hspb, htri, hrow, hcol, hkc, k69, l69, hrou, hfin, hsh, hR⟩ := id hX
  obtain ⟨so, u1, u2, u3, sg, sb, sl⟩ := id hnow
  have sgo := sg.1
  have sbo := sb.1
  have slo := sl.1
  have tpo := htap.1
  have spgo := hspg.1
  have spbo := hspb.1
  have trio := htri.1
  have rowo := hrow.1
  have colo := hcol.1
  have kco := hkc.1
  have rouo := hrou.1
  have fino := hfin.1
  have kpo := hkep.1
  obtain ⟨⟨n, c, m, E, P, x⟩, K, B, s, T⟩ := a
  obtain ⟨⟨hS, hoS⟩, hik, hKp, hTp, h140, hTm, hT1⟩ := id h
  replace hS : HS σ 1 n c m E P (x : Int) := hS
  replace hoS : okZ n c m E P x := hoS
  replace hTp : HP σ 41 B s := hTp
  replace h140 : s ≤ 140 := h140
  replace hTm : HT sh σ 43 T := hTm
  replace hik : σ.1 0 2 = bi K.isSome := hik
  obtain ⟨hS0, hSG, hSB, hSF, hSL, hSx⟩ := id hS
  obtain ⟨n1, n4', c30, hv, m2, m5, E10, hvE, hPk, x16⟩ := id hoS
  have hw := hz.w
  have hl := hTp.1
  have w120 : wi 120 = 120 := rfl
  have ws : wi (s : Int) = (s : Int) := wN (by omega)
  unfold aCirc
  by_cases h1 : z < 0 ∨ 120 < z ∨ (s : Int) < z
  · rw [if_pos h1]
    rcases (show z < 0 ∨ (0 ≤ z ∧ 120 < z) ∨ (0 ≤ z ∧ z ≤ 120 ∧ (s : Int) < z) by omega) with g | g | g
    · simp (disch := first | assumption | omega | (simp (disch := omega) only [wN, w0, w1]; omega)) only [e116_0, e116_1, e116_4, e116_5, e116_7, e116_10, e116_11, e116_12, e116_15, e116_18, e116_21, e116_22, e116_23, e116_24, e116_27, e116_28, e116_31, e116_32, e116_35, e116_36, e116_39, e116_42, e116_43, e116_46, e116_49, e116_50, e116_51, e116_54, e116_55, e116_58, e116_59, e116_62, e116_63, e116_64, e116_65, e116_68, e116_71, e116_72, e116_75, e116_78, e116_79, e116_82, e116_85, e116_88, kl_I, kl_R, kl_N, kl_L, oSm, oNn, Option.bind_some, wN, if_pos, if_neg, nS, tN, t0, w0, w1, w2, w3, w4, w5, wm1, upA_ne, upA_same, if_true, if_false, Bool.false_eq_true, q116, hw]
      exact End.of rfl ⟨rfl, h⟩
    · simp (disch := first | assumption | omega | (simp (disch := omega) only [wN, w0, w1]; omega)) only [e116_0, e116_1, e116_4, e116_5, e116_7, e116_10, e116_11, e116_12, e116_15, e116_18, e116_21, e116_22, e116_23, e116_24, e116_27, e116_28, e116_31, e116_32, e116_35, e116_36, e116_39, e116_42, e116_43, e116_46, e116_49, e116_50, e116_51, e116_54, e116_55, e116_58, e116_59, e116_62, e116_63, e116_64, e116_65, e116_68, e116_71, e116_72, e116_75, e116_78, e116_79, e116_82, e116_85, e116_88, kl_I, kl_R, kl_N, kl_L, oSm, oNn, Option.bind_some, wN, if_pos, if_neg, nS, tN, t0, w0, w1, w2, w3, w4, w5, wm1, upA_ne, upA_same, if_true, if_false, Bool.false_eq_true, q116, hw, w120]
      exact End.of rfl ⟨rfl, h⟩
    · simp (disch := first | assumption | omega | (simp (disch := omega) only [wN, w0, w1]; omega)) only [e116_0, e116_1, e116_4, e116_5, e116_7, e116_10, e116_11, e116_12, e116_15, e116_18, e116_21, e116_22, e116_23, e116_24, e116_27, e116_28, e116_31, e116_32, e116_35, e116_36, e116_39, e116_42, e116_43, e116_46, e116_49, e116_50, e116_51, e116_54, e116_55, e116_58, e116_59, e116_62, e116_63, e116_64, e116_65, e116_68, e116_71, e116_72, e116_75, e116_78, e116_79, e116_82, e116_85, e116_88, kl_I, kl_R, kl_N, kl_L, oSm, oNn, Option.bind_some, wN, if_pos, if_neg, nS, tN, t0, w0, w1, w2, w3, w4, w5, wm1, upA_ne, upA_same, if_true, if_false, Bool.false_eq_true, q116, hw, w120, s3, hl, ws]
      exact End.of rfl ⟨rfl, h⟩
  · rw [if_neg h1]
    obtain ⟨k, rfl⟩ : ∃ k : Nat, z = (k : Int) := ⟨z.toNat, by omega⟩
    simp only [Int.toNat_natCast]
    have hP1 := hTp.sz (s' := k)
    have f1 : frI 41 41 σ (upA σ.1 41 (up1 (σ.1 41) 1 (k : Int)), σ.2) := frI.up (by omega)
    obtain ⟨r, σ1, a1, a2, a3, a4, a5⟩ := T109 (d := d) (n := n) htap hP1 (show k ≤ 140 by omega) hR hspg (Nat.le_refl _) (by omega) n4' (by omega)
    have f2 := frG.I a5
    have hS01 : (upA σ.1 41 (up1 (σ.1 41) 1 (k : Int))) 1 0 = (n : Int) := by rw [upA_ne (by omega)]; exact hS0
    have hP2 : HP σ1 41 B k := hP1.fr f2 (by omega)
    have hP3 : HP (upA σ1.1 41 (up1 (σ1.1 41) 1 0), σ1.2) 41 B 0 := hP2.sz (s' := 0)
    have f3 : frI 41 41 σ1 (upA σ1.1 41 (up1 (σ1.1 41) 1 0), σ1.2) := frI.up (by omega)
    have hI : InvX sh (upA σ1.1 41 (up1 (σ1.1 41) 1 0), σ1.2) ((n, c, m, E, P, x), K, B, 0, T) := h.tap (fun b hb => by rw [f3.1 b (by omega), f2.1 b (by omega), f1.1 b (by omega)]) hP3 (by omega)
    rw [a2] at a1
    have rlo := rdC_r B k n
    have wr : wi (rdC B k n).1 = (rdC B k n).1 := wi_id (by omega) (by omega)
    by_cases g : (rdC B k n).1 < 0
    · rw [if_pos g]
      simp (disch := first | assumption | omega | (simp (disch := omega) only [wN, w0, w1]; omega)) only [e116_0, e116_1, e116_4, e116_5, e116_7, e116_10, e116_11, e116_12, e116_15, e116_18, e116_21, e116_22, e116_23, e116_24, e116_27, e116_28, e116_31, e116_32, e116_35, e116_36, e116_39, e116_42, e116_43, e116_46, e116_49, e116_50, e116_51, e116_54, e116_55, e116_58, e116_59, e116_62, e116_63, e116_64, e116_65, e116_68, e116_71, e116_72, e116_75, e116_78, e116_79, e116_82, e116_85, e116_88, kl_I, kl_R, kl_N, kl_L, oSm, oNn, Option.bind_some, wN, if_pos, if_neg, nS, tN, t0, w0, w1, w2, w3, w4, w5, wm1, upA_ne, upA_same, if_true, if_false, Bool.false_eq_true, q116, hw, w120, s0, s3, s5, u1, hl, hS01, a1, wr]
      exact End.of rfl ⟨rfl, hI⟩
    · rw [if_neg g]
      have g0 : (rdC B k n).1 = 0 := by omega
      obtain ⟨b1, b2, b3⟩ := a4 g0
      rw [g0] at a1
      obtain ⟨r, σ2, e1, rfl, e3, e4⟩ := L53 (d := d + 6) (n := n) sg hspg (by omega) (b1.frI f3 (by omega)) b3 b3 (by omega) (by omega) (show n ≤ 5 by omega) b2
      have f4 := frG.I e4
      have e5 := e3.1
      simp (disch := first | assumption | omega | (simp (disch := omega) only [wN, w0, w1]; omega)) only [e116_0, e116_1, e116_4, e116_5, e116_7, e116_10, e116_11, e116_12, e116_15, e116_18, e116_21, e116_22, e116_23, e116_24, e116_27, e116_28, e116_31, e116_32, e116_35, e116_36, e116_39, e116_42, e116_43, e116_46, e116_49, e116_50, e116_51, e116_54, e116_55, e116_58, e116_59, e116_62, e116_63, e116_64, e116_65, e116_68, e116_71, e116_72, e116_75, e116_78, e116_79, e116_82, e116_85, e116_88, kl_I, kl_R, kl_N, kl_L, oSm, oNn, Option.bind_some, wN, if_pos, if_neg, nS, tN, t0, w0, w1, w2, w3, w4, w5, wm1, upA_ne, upA_same, if_true, if_false, Bool.false_eq_true, q116, hw, w120, s0, s3, s5, u1, hl, hS01, a1, e1, e5]
      refine End.of rfl ⟨rfl, hI.now (fun b hb => f4.1 b (by omega)) ⟨⟨?_, e3, ?_, ?_, ?_, ?_⟩, ⟨n1, n4', b3, b2, m2, m5, E10, hvE, hPk, x16⟩⟩⟩
      · rw [f4.1 1 (by omega), f3.1 1 (by omega), f2.1 1 (by omega)]; exact hS01
      · exact (((hSB.fr f1 (by omega)).fr f2 (by omega)).fr f3 (by omega)).fr f4 (by omega)
      · exact (((hSF.fr f1 (by omega)).fr f2 (by omega)).fr f3 (by omega)).fr f4 (by omega)
      · exact (((hSL.fr f1 (by omega)).fr f2 (by omega)).fr f3 (by omega)).fr f4 (by omega)
      · rw [f4.1 1 (by omega), f3.1 1 (by omega), f2.1 1 (by omega), f1.1 1 (by omega)]; exact hSx
theorem rdF_r (B : Nat → Nat) (s m : Nat) : ∀ f i E, i ≤ s + 4 → -6100 - (s : Int) ≤ (rdF B s m f i E).1
  | 0, i, E, h => by rw [rdF]; simp only; omega
  | f + 1, i, E, h => by
    have h1 : -6003 - (i : Int) ≤ (rdE B s m i E).1 := by
      have r1 := (rdD_r B s (i + 1) 0 (m : Int) (Int.le_refl _)).2
      have r3 := (rdD_r B s (i + 3) 0 (m : Int) (Int.le_refl _)).2
      unfold rdE
      repeat' split
      all_goals simp only
      all_goals omega
    rw [rdF]
    split
    · simp only; omega
    · split
      · omega
      · exact rdF_r B s m f _ _ (by omega)
theorem rdB_r (B : Nat → Nat) (s : Nat) : -6100 - (s : Int) ≤ (rdB B s).1 := by
  have r1 := (rdD_r B s 0 2 6 (by omega)).2
  unfold rdB
  split
  · simp only; omega
  · exact rdF_r B s _ 40 1 [] (by omega)
theorem X117 (hX : XS sh) (h : InvX sh σ a) (hz : i32 z) : End (run sh (d + 9) 117 [mR 0, mI z] σ) (fun r σ' => r = some (mI (aBoard a z).1) ∧ InvX sh σ' (aBoard a z).2) := by
  obtain ⟨ho, s0, s1, s3, s4, s5, s6, s7, s8, s9, s10, s11, s12, s13, hnow, hkep, htap, k43, l43, hspg, hspb, htri, hrow, hcol, hkc, k69, l69, hrou, hfin, hsh, hR⟩ := id hX
  obtain ⟨so, u1, u2, u3, sg, sb, sl⟩ := id hnow
  have sgo := sg.1
  have sbo := sb.1
  have slo := sl.1
  have tpo := htap.1
  have spgo := hspg.1
  have spbo := hspb.1
  have trio := htri.1
  have rowo := hrow.1
  have colo := hcol.1
  have kco := hkc.1
  have rouo := hrou.1
  have fino := hfin.1
  have kpo := hkep.1
  obtain ⟨⟨n, c, m, E, P, x⟩, K, B, s, T⟩ := a
  obtain ⟨⟨hS, hoS⟩, hik, hKp, hTp, h140, hTm, hT1⟩ := id h
  replace hS : HS σ 1 n c m E P (x : Int) := hS
  replace hoS : okZ n c m E P x := hoS
  replace hTp : HP σ 41 B s := hTp
  replace h140 : s ≤ 140 := h140
  replace hTm : HT sh σ 43 T := hTm
  replace hik : σ.1 0 2 = bi K.isSome := hik
  obtain ⟨hS0, hSG, hSB, hSF, hSL, hSx⟩ := id hS
  obtain ⟨n1, n4', c30, hv, m2, m5, E10, hvE, hPk, x16⟩ := id hoS
  have hw := hz.w
  have hl := hTp.1
  have w60 : wi 60 = 60 := rfl
  have ws : wi (s : Int) = (s : Int) := wN (by omega)
  unfold aBoard
  by_cases h1 : z < 1 ∨ 60 < z ∨ (s : Int) < z
  · rw [if_pos h1]
    rcases (show z < 1 ∨ (1 ≤ z ∧ 60 < z) ∨ (1 ≤ z ∧ z ≤ 60 ∧ (s : Int) < z) by omega) with g | g | g
    · simp (disch := first | assumption | omega | (simp (disch := omega) only [wN, w0, w1]; omega)) only [e117_0, e117_1, e117_2, e117_5, e117_6, e117_8, e117_11, e117_12, e117_13, e117_16, e117_19, e117_22, e117_23, e117_24, e117_25, e117_28, e117_29, e117_32, e117_33, e117_36, e117_37, e117_40, e117_43, e117_44, e117_45, e117_48, e117_49, e117_52, e117_53, e117_56, e117_57, e117_58, e117_59, e117_62, e117_65, e117_66, e117_69, e117_72, e117_73, e117_76, e117_79, e117_80, e117_83, e117_86, e117_87, e117_90, e117_93, e117_96, e117_97, e117_100, e117_103, e117_106, kl_I, kl_R, kl_N, kl_L, oSm, oNn, Option.bind_some, wN, if_pos, if_neg, nS, tN, t0, w0, w1, w2, w3, w4, w5, wm1, upA_ne, upA_same, if_true, if_false, Bool.false_eq_true, q117, hw]
      exact End.of rfl ⟨rfl, h⟩
    · simp (disch := first | assumption | omega | (simp (disch := omega) only [wN, w0, w1]; omega)) only [e117_0, e117_1, e117_2, e117_5, e117_6, e117_8, e117_11, e117_12, e117_13, e117_16, e117_19, e117_22, e117_23, e117_24, e117_25, e117_28, e117_29, e117_32, e117_33, e117_36, e117_37, e117_40, e117_43, e117_44, e117_45, e117_48, e117_49, e117_52, e117_53, e117_56, e117_57, e117_58, e117_59, e117_62, e117_65, e117_66, e117_69, e117_72, e117_73, e117_76, e117_79, e117_80, e117_83, e117_86, e117_87, e117_90, e117_93, e117_96, e117_97, e117_100, e117_103, e117_106, kl_I, kl_R, kl_N, kl_L, oSm, oNn, Option.bind_some, wN, if_pos, if_neg, nS, tN, t0, w0, w1, w2, w3, w4, w5, wm1, upA_ne, upA_same, if_true, if_false, Bool.false_eq_true, q117, hw, w60]
      exact End.of rfl ⟨rfl, h⟩
    · simp (disch := first | assumption | omega | (simp (disch := omega) only [wN, w0, w1]; omega)) only [e117_0, e117_1, e117_2, e117_5, e117_6, e117_8, e117_11, e117_12, e117_13, e117_16, e117_19, e117_22, e117_23, e117_24, e117_25, e117_28, e117_29, e117_32, e117_33, e117_36, e117_37, e117_40, e117_43, e117_44, e117_45, e117_48, e117_49, e117_52, e117_53, e117_56, e117_57, e117_58, e117_59, e117_62, e117_65, e117_66, e117_69, e117_72, e117_73, e117_76, e117_79, e117_80, e117_83, e117_86, e117_87, e117_90, e117_93, e117_96, e117_97, e117_100, e117_103, e117_106, kl_I, kl_R, kl_N, kl_L, oSm, oNn, Option.bind_some, wN, if_pos, if_neg, nS, tN, t0, w0, w1, w2, w3, w4, w5, wm1, upA_ne, upA_same, if_true, if_false, Bool.false_eq_true, q117, hw, w60, s3, hl, ws]
      exact End.of rfl ⟨rfl, h⟩
  · rw [if_neg h1]
    obtain ⟨k, rfl⟩ : ∃ k : Nat, z = (k : Int) := ⟨z.toNat, by omega⟩
    simp only [Int.toNat_natCast]
    have hP1 := hTp.sz (s' := k)
    have f1 : frI 41 41 σ (upA σ.1 41 (up1 (σ.1 41) 1 (k : Int)), σ.2) := frI.up (by omega)
    obtain ⟨r, σ1, a1, a2, a3, a4, f2⟩ := T111 (d := d + 3) htap hP1 (show k ≤ 140 by omega) hspb (by omega)
    have hP2 : HP σ1 41 B k := hP1.fr f2 (by omega)
    have hP3 : HP (upA σ1.1 41 (up1 (σ1.1 41) 1 0), σ1.2) 41 B 0 := hP2.sz (s' := 0)
    have f3 : frI 41 41 σ1 (upA σ1.1 41 (up1 (σ1.1 41) 1 0), σ1.2) := frI.up (by omega)
    have hI : InvX sh (upA σ1.1 41 (up1 (σ1.1 41) 1 0), σ1.2) ((n, c, m, E, P, x), K, B, 0, T) := h.tap (fun b hb => by rw [f3.1 b (by omega), f2.1 b (by omega), f1.1 b (by omega)]) hP3 (by omega)
    rw [a2] at a1
    have rlo := rdB_r B k
    have wr : wi (rdB B k).1 = (rdB B k).1 := wi_id (by omega) (by omega)
    by_cases g : (rdB B k).1 < 0
    · rw [if_pos g]
      simp (disch := first | assumption | omega | (simp (disch := omega) only [wN, w0, w1]; omega)) only [e117_0, e117_1, e117_2, e117_5, e117_6, e117_8, e117_11, e117_12, e117_13, e117_16, e117_19, e117_22, e117_23, e117_24, e117_25, e117_28, e117_29, e117_32, e117_33, e117_36, e117_37, e117_40, e117_43, e117_44, e117_45, e117_48, e117_49, e117_52, e117_53, e117_56, e117_57, e117_58, e117_59, e117_62, e117_65, e117_66, e117_69, e117_72, e117_73, e117_76, e117_79, e117_80, e117_83, e117_86, e117_87, e117_90, e117_93, e117_96, e117_97, e117_100, e117_103, e117_106, kl_I, kl_R, kl_N, kl_L, oSm, oNn, Option.bind_some, wN, if_pos, if_neg, nS, tN, t0, w0, w1, w2, w3, w4, w5, wm1, upA_ne, upA_same, if_true, if_false, Bool.false_eq_true, q117, hw, w60, s3, s6, hl, ws, a1, wr]
      exact End.of rfl ⟨rfl, hI⟩
    · rw [if_neg g]
      have g0 : (rdB B k).1 = 0 := by omega
      obtain ⟨b1, b2, b3, b4, b5⟩ := a4 g0
      rw [g0] at a1
      generalize (rdB B k).2.1 = m' at b1 b2 b4 b5 ⊢
      generalize (rdB B k).2.2 = E' at b1 b2 b3 ⊢
      obtain ⟨r, σ2, e1, rfl, e3, e4, e5⟩ := M9 (d := d + 4) hspb (b1.fr f3 (by omega)) b3 b5 b2
      obtain ⟨r, σ3, g1, rfl, g3, g4, g5⟩ := M8w (d := d + 5) sb hspb (by omega) e3 e4.W b3 b5 b2
      obtain ⟨r, σ4, i1, rfl, i3, i4⟩ := Y74 (d := d + 7) (σ := σ3) sl n4'
      have hn3 : σ3.1 1 0 = (n : Int) := by rw [g5.1 1 (by omega), e5.1 1 (by omega), f3.1 1 (by omega), f2.1 1 (by omega), f1.1 1 (by omega)]; exact hS0
      have hB4 := g3.fr i4 (by omega)
      have hl4 := hB4.2.1
      simp (disch := first | assumption | omega | (simp (disch := omega) only [wN, w0, w1]; omega)) only [e117_0, e117_1, e117_2, e117_5, e117_6, e117_8, e117_11, e117_12, e117_13, e117_16, e117_19, e117_22, e117_23, e117_24, e117_25, e117_28, e117_29, e117_32, e117_33, e117_36, e117_37, e117_40, e117_43, e117_44, e117_45, e117_48, e117_49, e117_52, e117_53, e117_56, e117_57, e117_58, e117_59, e117_62, e117_65, e117_66, e117_69, e117_72, e117_73, e117_76, e117_79, e117_80, e117_83, e117_86, e117_87, e117_90, e117_93, e117_96, e117_97, e117_100, e117_103, e117_106, kl_I, kl_R, kl_N, kl_L, oSm, oNn, Option.bind_some, wN, if_pos, if_neg, nS, tN, t0, w0, w1, w2, w3, w4, w5, wm1, upA_ne, upA_same, if_true, if_false, Bool.false_eq_true, q117, hw, w60, s0, s3, s6, u2, u3, hl, ws, a1, e1, g1, hn3, i1, hl4]
      refine End.of rfl ⟨rfl, hI.now (fun b hb => by rw [i4.1 b (by omega), g5.1 b (by omega), e5.1 b (by omega)]) ⟨⟨?_, ?_, hB4, g4.fr i4 (by omega), i3, ?_⟩, ⟨n1, n4', c30, hv, b4, b5, b3, b2, fun hh => okP_id hh, x16⟩⟩⟩
      · rw [i4.1 1 (by omega)]; exact hn3
      · exact (((((hSG.frI f1 (by omega)).frI f2 (by omega)).frI f3 (by omega)).frI e5 (by omega)).frI g5 (by omega)).frI i4 (by omega)
      · rw [i4.1 1 (by omega), g5.1 1 (by omega), e5.1 1 (by omega), f3.1 1 (by omega), f2.1 1 (by omega), f1.1 1 (by omega)]; exact hSx
theorem X118 (hX : XS sh) (h : InvX sh σ a) (hz : i32 z) : End (run sh (d + 2) 118 [mR 0, mI z] σ) (fun r σ' => r = some (mI (aCheck a z).1) ∧ InvX sh σ' (aCheck a z).2) := by
  obtain ⟨ho, s0, s1, s3, s4, s5, s6, s7, s8, s9, s10, s11, s12, s13, hnow, hkep, htap, k43, l43, hspg, hspb, htri, hrow, hcol, hkc, k69, l69, hrou, hfin, hsh, hR⟩ := id hX
  obtain ⟨so, u1, u2, u3, sg, sb, sl⟩ := id hnow
  have sgo := sg.1
  have sbo := sb.1
  have slo := sl.1
  have tpo := htap.1
  have spgo := hspg.1
  have spbo := hspb.1
  have trio := htri.1
  have rowo := hrow.1
  have colo := hcol.1
  have kco := hkc.1
  have rouo := hrou.1
  have fino := hfin.1
  have kpo := hkep.1
  obtain ⟨⟨n, c, m, E, P, x⟩, K, B, s, T⟩ := a
  obtain ⟨⟨hS, hoS⟩, hik, hKp, hTp, h140, hTm, hT1⟩ := id h
  replace hS : HS σ 1 n c m E P (x : Int) := hS
  replace hoS : okZ n c m E P x := hoS
  replace hTp : HP σ 41 B s := hTp
  replace h140 : s ≤ 140 := h140
  replace hTm : HT sh σ 43 T := hTm
  replace hik : σ.1 0 2 = bi K.isSome := hik
  obtain ⟨hS0, hSG, hSB, hSF, hSL, hSx⟩ := id hS
  obtain ⟨n1, n4', c30, hv, m2, m5, E10, hvE, hPk, x16⟩ := id hoS
  have hw := hz.w
  have hl := hTp.1
  have w30 : wi 30 = 30 := rfl
  have ws : wi (s : Int) = (s : Int) := wN (by omega)
  unfold aCheck
  by_cases h1 : z < 0 ∨ 30 < z ∨ (s : Int) < z
  · rw [if_pos h1]
    rcases (show z < 0 ∨ (0 ≤ z ∧ 30 < z) ∨ (0 ≤ z ∧ z ≤ 30 ∧ (s : Int) < z) by omega) with g | g | g
    · simp (disch := first | assumption | omega | (simp (disch := omega) only [wN, w0, w1]; omega)) only [e118_0, e118_1, e118_4, e118_5, e118_7, e118_10, e118_11, e118_12, e118_15, e118_18, e118_21, e118_23, e118_24, e118_25, e118_26, e118_27, e118_28, e118_29, e118_30, e118_33, e118_34, e118_37, e118_38, e118_41, e118_42, e118_45, e118_48, e118_49, e118_52, e118_55, e118_58, e118_61, e118_64, e118_65, e118_68, e118_69, e118_72, e118_73, e118_74, e118_77, e118_78, e118_81, e118_82, kl_I, kl_R, kl_N, kl_L, oSm, oNn, Option.bind_some, wN, if_pos, if_neg, nS, tN, t0, w0, w1, w2, w3, w4, w5, wm1, upA_ne, upA_same, if_true, if_false, Bool.false_eq_true, q118, hw]
      exact End.of rfl ⟨rfl, h⟩
    · simp (disch := first | assumption | omega | (simp (disch := omega) only [wN, w0, w1]; omega)) only [e118_0, e118_1, e118_4, e118_5, e118_7, e118_10, e118_11, e118_12, e118_15, e118_18, e118_21, e118_23, e118_24, e118_25, e118_26, e118_27, e118_28, e118_29, e118_30, e118_33, e118_34, e118_37, e118_38, e118_41, e118_42, e118_45, e118_48, e118_49, e118_52, e118_55, e118_58, e118_61, e118_64, e118_65, e118_68, e118_69, e118_72, e118_73, e118_74, e118_77, e118_78, e118_81, e118_82, kl_I, kl_R, kl_N, kl_L, oSm, oNn, Option.bind_some, wN, if_pos, if_neg, nS, tN, t0, w0, w1, w2, w3, w4, w5, wm1, upA_ne, upA_same, if_true, if_false, Bool.false_eq_true, q118, hw, w30]
      exact End.of rfl ⟨rfl, h⟩
    · simp (disch := first | assumption | omega | (simp (disch := omega) only [wN, w0, w1]; omega)) only [e118_0, e118_1, e118_4, e118_5, e118_7, e118_10, e118_11, e118_12, e118_15, e118_18, e118_21, e118_23, e118_24, e118_25, e118_26, e118_27, e118_28, e118_29, e118_30, e118_33, e118_34, e118_37, e118_38, e118_41, e118_42, e118_45, e118_48, e118_49, e118_52, e118_55, e118_58, e118_61, e118_64, e118_65, e118_68, e118_69, e118_72, e118_73, e118_74, e118_77, e118_78, e118_81, e118_82, kl_I, kl_R, kl_N, kl_L, oSm, oNn, Option.bind_some, wN, if_pos, if_neg, nS, tN, t0, w0, w1, w2, w3, w4, w5, wm1, upA_ne, upA_same, if_true, if_false, Bool.false_eq_true, q118, hw, w30, s3, hl, ws]
      exact End.of rfl ⟨rfl, h⟩
  · rw [if_neg h1]
    obtain ⟨k, rfl⟩ : ∃ k : Nat, z = (k : Int) := ⟨z.toNat, by omega⟩
    simp only [Int.toNat_natCast]
    have f1 : frI 41 41 σ (upA σ.1 41 (up1 (σ.1 41) 1 0), σ.2) := frI.up (by omega)
    have hI : InvX sh (upA σ.1 41 (up1 (σ.1 41) 1 0), σ.2) ((n, c, m, E, P, x), K, B, 0, T) := h.tap (fun b hb => f1.1 b (by omega)) (hTp.sz (s' := 0)) (by omega)
    have L := for_dn (fun i => ev sh (d + 2) 118 28 [some (mR (0)), some (mI ((k : Nat) : Int)), some (mI ((i : Nat) : Int)), some (mI ((i : Nat) : Int))] [] (σ)) (fun i => some (some (mI (opI (fst1 (cbB B c) (k - i) i))), (upA σ.1 41 (up1 (σ.1 41) 1 0), σ.2))) (k) (by
      show ev sh (d + 2) 118 28 [some (mR (0)), some (mI ((k : Nat) : Int)), some (mI (((k) : Nat) : Int)), some (mI (((k) : Nat) : Int))] [] (σ) = some (some (mI (opI (fst1 (cbB B c) (k - (k)) (k)))), (upA σ.1 41 (up1 (σ.1 41) 1 0), σ.2))
      rw [fst1_e, e118_28]
      simp (disch := first | assumption | omega | (simp (disch := omega) only [wN, w0, w1]; omega)) only [e118_0, e118_1, e118_4, e118_5, e118_7, e118_10, e118_11, e118_12, e118_15, e118_18, e118_21, e118_23, e118_24, e118_25, e118_26, e118_27, e118_29, e118_30, e118_33, e118_34, e118_37, e118_38, e118_41, e118_42, e118_45, e118_48, e118_49, e118_52, e118_55, e118_58, e118_61, e118_64, e118_65, e118_68, e118_69, e118_72, e118_73, e118_74, e118_77, e118_78, e118_81, e118_82, kl_I, kl_R, kl_N, kl_L, oSm, oNn, Option.bind_some, wN, if_pos, if_neg, nS, tN, t0, w0, w1, w2, w3, w4, w5, wm1, upA_ne, upA_same, if_true, if_false, Bool.false_eq_true, s3]
      rfl) (fun i hi ih => by
      replace ih : ev sh (d + 2) 118 28 [some (mR (0)), some (mI ((k : Nat) : Int)), some (mI (((i + 1) : Nat) : Int)), some (mI (((i + 1) : Nat) : Int))] [] (σ) = some (some (mI (opI (fst1 (cbB B c) (k - (i + 1)) (i + 1)))), (upA σ.1 41 (up1 (σ.1 41) 1 0), σ.2)) := ih
      show ev sh (d + 2) 118 28 [some (mR (0)), some (mI ((k : Nat) : Int)), some (mI ((i : Nat) : Int)), some (mI ((i : Nat) : Int))] [] (σ) = some (some (mI (opI (fst1 (cbB B c) (k - i) i))), (upA σ.1 41 (up1 (σ.1 41) 1 0), σ.2))
      have hB := hTp.2 i (by omega)
      have e106 := T106 (d := d) htap hTp h140 (show i < 1000 by omega)
      rw [byB, if_pos (by omega)] at e106
      have e46 := K46 (d := d + 1) (i := (i : Int)) sg hSG.1 c30 (by omega)
      rw [wN (by omega), tN] at e46
      rw [e118_28, fst1_s hi]
      by_cases g1 : i < c.length
      · rw [if_pos (by omega), (hSG.2 i g1).1] at e46
        have hk5 := (hv.at g1).1
        by_cases g2 : B i = (gA c i).1
        · have hb : cbB B c i = false := by simp [cbB, g1, g2]
          rw [g2] at e106
          simp (disch := first | assumption | omega | (simp (disch := omega) only [wN, w0, w1]; omega)) only [e118_0, e118_1, e118_4, e118_5, e118_7, e118_10, e118_11, e118_12, e118_15, e118_18, e118_21, e118_23, e118_24, e118_25, e118_26, e118_27, e118_29, e118_30, e118_33, e118_34, e118_37, e118_38, e118_41, e118_42, e118_45, e118_48, e118_49, e118_52, e118_55, e118_58, e118_61, e118_64, e118_65, e118_68, e118_69, e118_72, e118_73, e118_74, e118_77, e118_78, e118_81, e118_82, kl_I, kl_R, kl_N, kl_L, oSm, oNn, Option.bind_some, wN, if_pos, if_neg, nS, tN, t0, w0, w1, w2, w3, w4, w5, wm1, upA_ne, upA_same, if_true, if_false, Bool.false_eq_true, s0, s3, u1, e106, e46]
          rw [ih, hb]
          rfl
        · have hb : cbB B c i = true := by simp [cbB, g2]
          have g2' : ¬ (B i : Int) = ((gA c i).1 : Int) := fun e => g2 (by omega)
          simp (disch := first | assumption | omega | (simp (disch := omega) only [wN, w0, w1]; omega)) only [e118_0, e118_1, e118_4, e118_5, e118_7, e118_10, e118_11, e118_12, e118_15, e118_18, e118_21, e118_23, e118_24, e118_25, e118_26, e118_27, e118_29, e118_30, e118_33, e118_34, e118_37, e118_38, e118_41, e118_42, e118_45, e118_48, e118_49, e118_52, e118_55, e118_58, e118_61, e118_64, e118_65, e118_68, e118_69, e118_72, e118_73, e118_74, e118_77, e118_78, e118_81, e118_82, kl_I, kl_R, kl_N, kl_L, oSm, oNn, Option.bind_some, wN, if_pos, if_neg, nS, tN, t0, w0, w1, w2, w3, w4, w5, wm1, upA_ne, upA_same, if_true, if_false, Bool.false_eq_true, s0, s3, u1, e106, e46]
          rfl
      · rw [if_neg (by omega)] at e46
        have hb : cbB B c i = true := by simp [cbB, g1]
        simp (disch := first | assumption | omega | (simp (disch := omega) only [wN, w0, w1]; omega)) only [e118_0, e118_1, e118_4, e118_5, e118_7, e118_10, e118_11, e118_12, e118_15, e118_18, e118_21, e118_23, e118_24, e118_25, e118_26, e118_27, e118_29, e118_30, e118_33, e118_34, e118_37, e118_38, e118_41, e118_42, e118_45, e118_48, e118_49, e118_52, e118_55, e118_58, e118_61, e118_64, e118_65, e118_68, e118_69, e118_72, e118_73, e118_74, e118_77, e118_78, e118_81, e118_82, kl_I, kl_R, kl_N, kl_L, oSm, oNn, Option.bind_some, wN, if_pos, if_neg, nS, tN, t0, w0, w1, w2, w3, w4, w5, wm1, upA_ne, upA_same, if_true, if_false, Bool.false_eq_true, s0, s3, u1, e106, e46]
        rfl) 0 (Nat.zero_le _)
    simp (disch := first | assumption | omega | (simp (disch := omega) only [wN, w0, w1]; omega)) only [e118_0, e118_1, e118_4, e118_5, e118_7, e118_10, e118_11, e118_12, e118_15, e118_18, e118_21, e118_23, e118_24, e118_25, e118_26, e118_27, e118_29, e118_30, e118_33, e118_34, e118_37, e118_38, e118_41, e118_42, e118_45, e118_48, e118_49, e118_52, e118_55, e118_58, e118_61, e118_64, e118_65, e118_68, e118_69, e118_72, e118_73, e118_74, e118_77, e118_78, e118_81, e118_82, kl_I, kl_R, kl_N, kl_L, oSm, oNn, Option.bind_some, wN, if_pos, if_neg, nS, tN, t0, w0, w1, w2, w3, w4, w5, wm1, upA_ne, upA_same, if_true, if_false, Bool.false_eq_true, q118, hw, w30, s3, hl, ws]
    exact End.of L ⟨rfl, hI⟩
end XB

