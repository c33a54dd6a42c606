/-! ===== circuit, board, check, gate, draws, seed ===== -/
def aCirc (a : AX) (z : Int) : Int × AX :=
  if z < 0 ∨ 120 < z ∨ (a.2.2.2.1 : Int) < z then (-1, a)
  else if (rdC a.2.2.1 z.toNat a.1.1).1 < 0 then ((rdC a.2.2.1 z.toNat a.1.1).1, (a.1, a.2.1, a.2.2.1, 0, a.2.2.2.2))
  else (((rdC a.2.2.1 z.toNat a.1.1).2.length : Int), ((a.1.1, (rdC a.2.2.1 z.toNat a.1.1).2, a.1.2.2), a.2.1, a.2.2.1, 0, a.2.2.2.2))
def aBoard (a : AX) (z : Int) : Int × AX :=
  if z < 1 ∨ 60 < z ∨ (a.2.2.2.1 : Int) < z then (-1, a)
  else if (rdB a.2.2.1 z.toNat).1 < 0 then ((rdB a.2.2.1 z.toNat).1, (a.1, a.2.1, a.2.2.1, 0, a.2.2.2.2))
  else (((rdB a.2.2.1 z.toNat).2.2.length : Int), ((a.1.1, a.1.2.1, (rdB a.2.2.1 z.toNat).2.1, (rdB a.2.2.1 z.toNat).2.2, fun y => y, a.1.2.2.2.2.2), a.2.1, a.2.2.1, 0, a.2.2.2.2))
def igB (n : Nat) (k p q : Int) : Bool := decide (0 ≤ k ∧ k < 6 ∧ 0 ≤ p ∧ p < n) && (if k = 0 then decide (0 ≤ q ∧ q < 8) else if k < 3 then decide (q = -1) else decide (0 ≤ q ∧ q < n ∧ p ≠ q))
def aGate (a : AX) (k p q : Int) : Int × AX :=
  if igB a.1.1 k p q = false then (-1, a) else if 30 ≤ a.1.2.1.length then (-3, a) else ((a.1.2.1.length : Int), ((a.1.1, a.1.2.1 ++ [(k.toNat, p.toNat, q)], a.1.2.2), a.2))
def aSeed (a : AX) (z : Int) : Int × AX := if z < 0 ∨ 65535 < z then (0, a) else (1, ((a.1.1, a.1.2.1, a.1.2.2.1, a.1.2.2.2.1, a.1.2.2.2.2.1, z.toNat), a.2))
def cbB (B : Nat → Nat) (c : List Gt) (i : Nat) : Bool := !decide (i < c.length ∧ B i = (gA c i).1)
def opI : Option Nat → Int
  | none => -1
  | some i => (i : Int)
def aCheck (a : AX) (z : Int) : Int × AX :=
  if z < 0 ∨ 30 < z ∨ (a.2.2.2.1 : Int) < z then (-2, a) else (opI (fst1 (cbB a.2.2.1 a.1.2.1) (z.toNat - 0) 0), (a.1, a.2.1, a.2.2.1, 0, a.2.2.2.2))
theorem rdG_r (B : Nat → Nat) (s n i : Nat) : -6003 - (i : Int) ≤ (rdG B s n i).1 ∧ (rdG B s n i).1 ≤ (s : Int) := by
  have r1 := rdD_r B s (i + 1) 0 (n : Int) (Int.le_refl _)
  have r8 := rdD_r B s (i + 1) 0 8 (Int.le_refl _)
  have r3 := rdD_r B s (i + 3) 0 (n : Int) (Int.le_refl _)
  unfold rdG
  by_cases hk : kdB (byB B s i) = 0
  · rw [hk]
    repeat' split
    all_goals simp only
    all_goals omega
  · simp only [hk, if_false]
    repeat' split
    all_goals simp only
    all_goals omega
theorem rdL_r (B : Nat → Nat) (s n : Nat) : ∀ f i c, i ≤ s + 1 → -6100 - (s : Int) ≤ (rdL B s n f i c).1
  | 0, i, c, h => by rw [rdL]; simp only; omega
  | f + 1, i, c, h => by
    have h1 := rdG_r B s n i
    rw [rdL]
    repeat' split
    · simp only; omega
    · simp only; omega
    · simp only; omega
    · exact rdL_r B s n f _ _ (by omega)
theorem rdC_r (B : Nat → Nat) (s n : Nat) : -6100 - (s : Int) ≤ (rdC B s n).1 := by
  unfold rdC
  split
  · simp only; omega
  · exact rdL_r B s n 30 0 [] (by omega)
section XB
variable {sh : Shp} {d : Nat} {σ : Mem} {a : AX} {z w v : Int}
theorem HP.sz {t s s' : Nat} {B : Nat → Nat} (h : HP σ t B s) : HP (upA σ.1 t (up1 (σ.1 t) 1 (s' : Int)), σ.2) t B s' := by
  refine ⟨?_, fun j hj => ?_⟩
  · show upA _ _ _ _ _ = _
    rw [upA_same, up1_same]
  · show upA _ _ _ _ _ = _ ∧ _
    rw [upA_ne (by omega)]; exact h.2 j hj
theorem X116 (hX : XS sh) (h : InvX sh σ a) (hz : i32 z) : End (run sh (d + 9) 116 [mR 0, mI z] σ) (fun r σ' => r = some (mI (aCirc a z).1) ∧ InvX sh σ' (aCirc a z).2) := by
  obtain ⟨ho, s0, s1, s3, s4, s5, s6, s7, s8, s9, s10, s11, s12, s13, hnow, hkep, htap, k43, l43, hspg, hspb, htri, hrow, hcol, hkc, k69, l69, hrou, hfin, hsh, hR⟩ := id hX
  obtain ⟨so, u1, u2, u3, sg, sb, sl⟩ := id hnow
  have sgo := sg.1
  have sbo := sb.1
  have slo := sl.1
  have tpo := htap.1
  have spgo := hspg.1
  have spbo := hspb.1
  have trio := htri.1
  have rowo := hrow.1
  have colo := hcol.1
  have kco := hkc.1
  have rouo := hrou.1
  have fino := hfin.1
  have kpo := hkep.1
  obtain ⟨⟨n, c, m, E, P, x⟩, K, B, s, T⟩ := a
  obtain ⟨⟨hS, hoS⟩, hik, hKp, hTp, h140, hTm, hT1⟩ := id h
  replace hS : HS σ 1 n c m E P (x : Int) := hS
  replace hoS : okZ n c m E P x := hoS
  replace hTp : HP σ 41 B s := hTp
  replace h140 : s ≤ 140 := h140
  replace hTm : HT sh σ 43 T := hTm
  replace hik : σ.1 0 2 = bi K.isSome := hik
  obtain ⟨hS0, hSG, hSB, hSF, hSL, hSx⟩ := id hS
  obtain ⟨n1, n4', c30, hv, m2, m5, E10, hvE, hPk, x16⟩ := id hoS
  have hw := hz.w
  have hl := hTp.1
  have w120 : wi 120 = 120 := rfl
  have ws : wi (s : Int) = (s : Int) := wN (by omega)
  unfold aCirc
  by_cases h1 : z < 0 ∨ 120 < z ∨ (s : Int) < z
  · rw [if_pos h1]
    rcases (show z < 0 ∨ (0 ≤ z ∧ 120 < z) ∨ (0 ≤ z ∧ z ≤ 120 ∧ (s : Int) < z) by omega) with g | g | g
    · simp (disch := first | assumption | omega | (simp (disch := omega) only [wN, w0, w1]; omega)) only [e116_0, e116_1, e116_4, e116_5, e116_7, e116_10, e116_11, e116_12, e116_15, e116_18, e116_21, e116_22, e116_23, e116_24, e116_27, e116_28, e116_31, e116_32, e116_35, e116_36, e116_39, e116_42, e116_43, e116_46, e116_49, e116_50, e116_51, e116_54, e116_55, e116_58, e116_59, e116_62, e116_63, e116_64, e116_65, e116_68, e116_71, e116_72, e116_75, e116_78, e116_79, e116_82, e116_85, e116_88, kl_I, kl_R, kl_N, kl_L, oSm, oNn, Option.bind_some, wN, if_pos, if_neg, nS, tN, t0, w0, w1, w2, w3, w4, w5, wm1, upA_ne, upA_same, if_true, if_false, Bool.false_eq_true, q116, hw]
      exact End.of rfl ⟨rfl, h⟩
    · simp (disch := first | assumption | omega | (simp (disch := omega) only [wN, w0, w1]; omega)) only [e116_0, e116_1, e116_4, e116_5, e116_7, e116_10, e116_11, e116_12, e116_15, e116_18, e116_21, e116_22, e116_23, e116_24, e116_27, e116_28, e116_31, e116_32, e116_35, e116_36, e116_39, e116_42, e116_43, e116_46, e116_49, e116_50, e116_51, e116_54, e116_55, e116_58, e116_59, e116_62, e116_63, e116_64, e116_65, e116_68, e116_71, e116_72, e116_75, e116_78, e116_79, e116_82, e116_85, e116_88, kl_I, kl_R, kl_N, kl_L, oSm, oNn, Option.bind_some, wN, if_pos, if_neg, nS, tN, t0, w0, w1, w2, w3, w4, w5, wm1, upA_ne, upA_same, if_true, if_false, Bool.false_eq_true, q116, hw, w120]
      exact End.of rfl ⟨rfl, h⟩
    · simp (disch := first | assumption | omega | (simp (disch := omega) only [wN, w0, w1]; omega)) only [e116_0, e116_1, e116_4, e116_5, e116_7, e116_10, e116_11, e116_12, e116_15, e116_18, e116_21, e116_22, e116_23, e116_24, e116_27, e116_28, e116_31, e116_32, e116_35, e116_36, e116_39, e116_42, e116_43, e116_46, e116_49, e116_50, e116_51, e116_54, e116_55, e116_58, e116_59, e116_62, e116_63, e116_64, e116_65, e116_68, e116_71, e116_72, e116_75, e116_78, e116_79, e116_82, e116_85, e116_88, kl_I, kl_R, kl_N, kl_L, oSm, oNn, Option.bind_some, wN, if_pos, if_neg, nS, tN, t0, w0, w1, w2, w3, w4, w5, wm1, upA_ne, upA_same, if_true, if_false, Bool.false_eq_true, q116, hw, w120, s3, hl, ws]
      exact End.of rfl ⟨rfl, h⟩
  · rw [if_neg h1]
    obtain ⟨k, rfl⟩ : ∃ k : Nat, z = (k : Int) := ⟨z.toNat, by omega⟩
    simp only [Int.toNat_natCast]
    have hP1 := hTp.sz (s' := k)
    have f1 : frI 41 41 σ (upA σ.1 41 (up1 (σ.1 41) 1 (k : Int)), σ.2) := frI.up (by omega)
    obtain ⟨r, σ1, a1, a2, a3, a4, a5⟩ := T109 (d := d) (n := n) htap hP1 (show k ≤ 140 by omega) hR hspg (Nat.le_refl _) (by omega) n4' (by omega)
    have f2 := frG.I a5
    have hS01 : (upA σ.1 41 (up1 (σ.1 41) 1 (k : Int))) 1 0 = (n : Int) := by rw [upA_ne (by omega)]; exact hS0
    have hP2 : HP σ1 41 B k := hP1.fr f2 (by omega)
    have hP3 : HP (upA σ1.1 41 (up1 (σ1.1 41) 1 0), σ1.2) 41 B 0 := hP2.sz (s' := 0)
    have f3 : frI 41 41 σ1 (upA σ1.1 41 (up1 (σ1.1 41) 1 0), σ1.2) := frI.up (by omega)
    have hI : InvX sh (upA σ1.1 41 (up1 (σ1.1 41) 1 0), σ1.2) ((n, c, m, E, P, x), K, B, 0, T) := h.tap (fun b hb => by rw [f3.1 b (by omega), f2.1 b (by omega), f1.1 b (by omega)]) hP3 (by omega)
    rw [a2] at a1
    have rlo := rdC_r B k n
    have wr : wi (rdC B k n).1 = (rdC B k n).1 := wi_id (by omega) (by omega)
    by_cases g : (rdC B k n).1 < 0
    · rw [if_pos g]
      simp (disch := first | assumption | omega | (simp (disch := omega) only [wN, w0, w1]; omega)) only [e116_0, e116_1, e116_4, e116_5, e116_7, e116_10, e116_11, e116_12, e116_15, e116_18, e116_21, e116_22, e116_23, e116_24, e116_27, e116_28, e116_31, e116_32, e116_35, e116_36, e116_39, e116_42, e116_43, e116_46, e116_49, e116_50, e116_51, e116_54, e116_55, e116_58, e116_59, e116_62, e116_63, e116_64, e116_65, e116_68, e116_71, e116_72, e116_75, e116_78, e116_79, e116_82, e116_85, e116_88, kl_I, kl_R, kl_N, kl_L, oSm, oNn, Option.bind_some, wN, if_pos, if_neg, nS, tN, t0, w0, w1, w2, w3, w4, w5, wm1, upA_ne, upA_same, if_true, if_false, Bool.false_eq_true, q116, hw, w120, s0, s3, s5, u1, hl, hS01, a1, wr]
      exact End.of rfl ⟨rfl, hI⟩
    · rw [if_neg g]
      have g0 : (rdC B k n).1 = 0 := by omega
      obtain ⟨b1, b2, b3⟩ := a4 g0
      rw [g0] at a1
      obtain ⟨r, σ2, e1, rfl, e3, e4⟩ := L53 (d := d + 6) (n := n) sg hspg (by omega) (b1.frI f3 (by omega)) b3 b3 (by omega) (by omega) (show n ≤ 5 by omega) b2
      have f4 := frG.I e4
      have e5 := e3.1
      simp (disch := first | assumption | omega | (simp (disch := omega) only [wN, w0, w1]; omega)) only [e116_0, e116_1, e116_4, e116_5, e116_7, e116_10, e116_11, e116_12, e116_15, e116_18, e116_21, e116_22, e116_23, e116_24, e116_27, e116_28, e116_31, e116_32, e116_35, e116_36, e116_39, e116_42, e116_43, e116_46, e116_49, e116_50, e116_51, e116_54, e116_55, e116_58, e116_59, e116_62, e116_63, e116_64, e116_65, e116_68, e116_71, e116_72, e116_75, e116_78, e116_79, e116_82, e116_85, e116_88, kl_I, kl_R, kl_N, kl_L, oSm, oNn, Option.bind_some, wN, if_pos, if_neg, nS, tN, t0, w0, w1, w2, w3, w4, w5, wm1, upA_ne, upA_same, if_true, if_false, Bool.false_eq_true, q116, hw, w120, s0, s3, s5, u1, hl, hS01, a1, e1, e5]
      refine End.of rfl ⟨rfl, hI.now (fun b hb => f4.1 b (by omega)) ⟨⟨?_, e3, ?_, ?_, ?_, ?_⟩, ⟨n1, n4', b3, b2, m2, m5, E10, hvE, hPk, x16⟩⟩⟩
      · rw [f4.1 1 (by omega), f3.1 1 (by omega), f2.1 1 (by omega)]; exact hS01
      · exact (((hSB.fr f1 (by omega)).fr f2 (by omega)).fr f3 (by omega)).fr f4 (by omega)
      · exact (((hSF.fr f1 (by omega)).fr f2 (by omega)).fr f3 (by omega)).fr f4 (by omega)
      · exact (((hSL.fr f1 (by omega)).fr f2 (by omega)).fr f3 (by omega)).fr f4 (by omega)
      · rw [f4.1 1 (by omega), f3.1 1 (by omega), f2.1 1 (by omega), f1.1 1 (by omega)]; exact hSx
theorem rdF_r (B : Nat → Nat) (s m : Nat) : ∀ f i E, i ≤ s + 4 → -6100 - (s : Int) ≤ (rdF B s m f i E).1
  | 0, i, E, h => by rw [rdF]; simp only; omega
  | f + 1, i, E, h => by
    have h1 : -6003 - (i : Int) ≤ (rdE B s m i E).1 := by
      have r1 := (rdD_r B s (i + 1) 0 (m : Int) (Int.le_refl _)).2
      have r3 := (rdD_r B s (i + 3) 0 (m : Int) (Int.le_refl _)).2
      unfold rdE
      repeat' split
      all_goals simp only
      all_goals omega
    rw [rdF]
    split
    · simp only; omega
    · split
      · omega
      · exact rdF_r B s m f _ _ (by omega)
theorem rdB_r (B : Nat → Nat) (s : Nat) : -6100 - (s : Int) ≤ (rdB B s).1 := by
  have r1 := (rdD_r B s 0 2 6 (by omega)).2
  unfold rdB
  split
  · simp only; omega
  · exact rdF_r B s _ 40 1 [] (by omega)
end XB
