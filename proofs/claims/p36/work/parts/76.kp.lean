/-! ===== keep, undo ===== -/
def aKeep (a : AX) : Int × AX := ((a.1.2.1.length : Int), (a.1, some a.1, a.2.2))
def aUndo (a : AX) : Int × AX := match a.2.1 with
  | none => (0, a)
  | some S => (1, (S, a.2))
section XK
variable {sh : Shp} {d : Nat} {σ : Mem} {a : AX}
theorem X160 (hX : XS sh) (h : InvX sh σ a) : End (run sh (d + 5) 160 [mR 0] σ) (fun r σ' => r = some (mI (aKeep a).1) ∧ InvX sh σ' (aKeep a).2) := by
  obtain ⟨ho, s0, s1, s3, s4, s5, s6, s7, s8, s9, s10, s11, s12, s13, hnow, hkep, htap, k43, l43, hspg, hspb, htri, hrow, hcol, hkc, k69, l69, hrou, hfin, hsh, hR⟩ := id hX
  obtain ⟨so, u1, u2, u3, sg, sb, sl⟩ := id hnow
  have sgo := sg.1
  have sbo := sb.1
  have slo := sl.1
  have tpo := htap.1
  have spgo := hspg.1
  have spbo := hspb.1
  have trio := htri.1
  have rowo := hrow.1
  have colo := hcol.1
  have kco := hkc.1
  have rouo := hrou.1
  have fino := hfin.1
  have kpo := hkep.1
  obtain ⟨⟨n, c, m, E, P, x⟩, K, B, s, T⟩ := a
  obtain ⟨⟨hS, hoS⟩, hik, hKp, hTp, h140, hTm, hT1⟩ := id h
  replace hS : HS σ 1 n c m E P (x : Int) := hS
  replace hoS : okZ n c m E P x := hoS
  replace hTp : HP σ 41 B s := hTp
  replace h140 : s ≤ 140 := h140
  replace hTm : HT sh σ 43 T := hTm
  replace hik : σ.1 0 2 = bi K.isSome := hik
  obtain ⟨hS0, hSG, hSB, hSF, hSL, hSx⟩ := id hS
  obtain ⟨n1, n4', c30, hv, m2, m5, E10, hvE, hPk, x16⟩ := id hoS
  obtain ⟨r, σ1, a1, rfl, a3, f1⟩ := S102 (d := d) hkep hnow (by omega) hS n4' c30 c30 (by omega) (by omega) hv E10 m5 hvE
  have f2 : frI 0 0 σ1 (upA σ1.1 0 (up1 (σ1.1 0) 2 1), σ1.2) := frI.up (by omega)
  have hl : σ1.1 (1 + 1) 6 = (c.length : Int) := by rw [f1.1 (1 + 1) (by omega)]; exact hSG.1
  simp (disch := first | assumption | omega | (simp (disch := omega) only [wN, w0, w1]; omega)) only [e160_0, e160_1, e160_4, e160_5, e160_8, e160_11, e160_12, e160_13, e160_16, e160_17, e160_20, e160_23, e160_26, kl_I, kl_R, kl_N, kl_L, oSm, oNn, Option.bind_some, wN, if_pos, if_neg, nS, tN, t0, w0, w1, w2, w3, w4, w5, wm1, upA_ne, upA_same, if_true, if_false, Bool.false_eq_true, q160, s0, s1, u1, a1, hl]
  have hkS : HSo (upA σ1.1 0 (up1 (σ1.1 0) 2 1), σ1.2) 21 (n, c, m, E, P, x) := HSo.k (σ := σ1) ⟨a3, hoS⟩ (fun b b1 b2 b3 b4 => f2.1 b (by omega))
  have fk : ∀ b, b ≠ 0 → (b < 21 ∨ 40 < b) → (upA σ1.1 0 (up1 (σ1.1 0) 2 1)) b = σ.1 b := fun b b1 b2 => by rw [upA_ne b1]; exact f1.1 b (by omega)
  obtain ⟨i1, i2, i3, i4, i5, i6, i7⟩ := id h
  have hI : InvX sh (upA σ1.1 0 (up1 (σ1.1 0) 2 1), σ1.2) (aKeep ((n, c, m, E, P, x), K, B, s, T)).2 := by
    refine ⟨i1.k (fun b b1 b2 b3 b4 => fk b (by omega) (by omega)), ?_, fun S hS' => ?_, i4.k (fk 41 (by omega) (by omega)) (fk 42 (by omega) (by omega)), i5, i6.k (fk 43 (by omega) (by omega)), i7.k (fk 1000000 (by omega) (by omega))⟩
    · simp (disch := omega) only [upA_same, up1_same]
      rfl
    · cases hS'
      exact hkS
  exact End.of rfl ⟨rfl, hI⟩
theorem X161 (hX : XS sh) (h : InvX sh σ a) : End (run sh (d + 5) 161 [mR 0] σ) (fun r σ' => r = some (mI (aUndo a).1) ∧ InvX sh σ' (aUndo a).2) := by
  have hik := h.2.1
  obtain ⟨ho, s0, s1, s3, s4, s5, s6, s7, s8, s9, s10, s11, s12, s13, hnow, hkep, htap, k43, l43, hspg, hspb, htri, hrow, hcol, hkc, k69, l69, hrou, hfin, hsh, hR⟩ := id hX
  obtain ⟨so, u1, u2, u3, sg, sb, sl⟩ := id hnow
  have sgo := sg.1
  have sbo := sb.1
  have slo := sl.1
  have tpo := htap.1
  have spgo := hspg.1
  have spbo := hspb.1
  have trio := htri.1
  have rowo := hrow.1
  have colo := hcol.1
  have kco := hkc.1
  have rouo := hrou.1
  have fino := hfin.1
  have kpo := hkep.1
  unfold aUndo
  cases hK : a.2.1 with
  | none =>
    rw [hK] at hik
    have hik : σ.1 0 2 = 0 := hik
    simp (disch := first | assumption | omega | (simp (disch := omega) only [wN, w0, w1]; omega)) only [e161_0, e161_1, e161_4, e161_7, e161_8, e161_9, e161_10, e161_13, e161_14, e161_17, e161_20, e161_21, kl_I, kl_R, kl_N, kl_L, oSm, oNn, Option.bind_some, wN, if_pos, if_neg, nS, tN, t0, w0, w1, w2, w3, w4, w5, wm1, upA_ne, upA_same, if_true, if_false, Bool.false_eq_true, q161, hik]
    exact End.of rfl ⟨rfl, h⟩
  | some S =>
    rw [hK] at hik
    have hik : σ.1 0 2 = 1 := hik
    obtain ⟨k1, k2⟩ := h.2.2.1 S hK
    obtain ⟨n, c, m, E, P, x⟩ := S
    have k1 : HS σ 21 n c m E P (x : Int) := k1
    obtain ⟨n1, n4', c30, hv, m2, m5, E10, hvE, hPk, x16⟩ := (show okZ n c m E P x from k2)
    obtain ⟨r, σ1, a1, rfl, a3, f1⟩ := S102 (d := d) hnow hkep (by omega) k1 n4' c30 c30 (by omega) (by omega) hv E10 m5 hvE
    simp (disch := first | assumption | omega | (simp (disch := omega) only [wN, w0, w1]; omega)) only [e161_0, e161_1, e161_4, e161_7, e161_8, e161_9, e161_10, e161_13, e161_14, e161_17, e161_20, e161_21, kl_I, kl_R, kl_N, kl_L, oSm, oNn, Option.bind_some, wN, if_pos, if_neg, nS, tN, t0, w0, w1, w2, w3, w4, w5, wm1, upA_ne, upA_same, if_true, if_false, Bool.false_eq_true, q161, hik, s0, s1, a1]
    exact End.of rfl ⟨rfl, h.now (fun b hb => f1.1 b (by omega)) ⟨a3, k2⟩⟩
end XK
