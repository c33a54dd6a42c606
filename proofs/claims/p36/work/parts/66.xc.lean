/-! ===== gate, draws, seed, gateIs, ahead, count, spend, shorter ===== -/
/-- a gate that is drawn: it, and the number drawn last -/
def drK (n x : Nat) : Nat := drN x % (if n = 1 then 3 else 6)
def drA (n x : Nat) : Nat := drN (drN x) % n
def drG (n x : Nat) : Gt × Nat :=
  if drK n x = 0 then ((0, drA n x, ((drN (drN (drN x)) % 8 : Nat) : Int)), drN (drN (drN x)))
  else if 3 ≤ drK n x then ((drK n x, drA n x, (((if drA n x + 1 + drN (drN (drN x)) % (n - 1) < n then drA n x + 1 + drN (drN (drN x)) % (n - 1) else drA n x + 1 + drN (drN (drN x)) % (n - 1) - n) : Nat) : Int)), drN (drN (drN x)))
  else ((drK n x, drA n x, -1), drN (drN x))
def drC (n : Nat) : Nat → List Gt × Nat → List Gt × Nat
  | 0, q => q
  | k + 1, q => ((drC n k q).1 ++ [(drG n (drC n k q).2).1], (drG n (drC n k q).2).2)
def aDraws (a : AX) (z : Int) : Int × AX :=
  if z < 1 ∨ 10 < z then (-1, a) else if 30 < (a.1.2.1.length : Int) + z then (-3, a)
  else (((drC a.1.1 z.toNat (a.1.2.1, a.1.2.2.2.2.2)).1.length : Int), ((a.1.1, (drC a.1.1 z.toNat (a.1.2.1, a.1.2.2.2.2.2)).1, a.1.2.2.1, a.1.2.2.2.1, a.1.2.2.2.2.1, (drC a.1.1 z.toNat (a.1.2.1, a.1.2.2.2.2.2)).2), a.2))
theorem drN_lt (x : Nat) : drN x < 65536 := Nat.mod_lt _ (by decide)
theorem drG_ok {n x : Nat} (h1 : 1 ≤ n) (h4 : n ≤ 4) : vG n (drG n x).1 ∧ (drG n x).2 < 65536 := by
  have hA : drA n x < n := Nat.mod_lt _ (by omega)
  have hK : drK n x ≤ 5 ∧ (n = 1 → drK n x < 3) := by
    unfold drK
    by_cases h : n = 1
    · rw [if_pos h]; have := Nat.mod_lt (drN x) (show 3 > 0 by decide); omega
    · rw [if_neg h]; have := Nat.mod_lt (drN x) (show 6 > 0 by decide); omega
  have b1 := drN_lt (drN x)
  have b2 := drN_lt (drN (drN x))
  have m8 : drN (drN (drN x)) % 8 < 8 := Nat.mod_lt _ (by decide)
  unfold drG
  by_cases h0 : drK n x = 0
  · rw [if_pos h0]
    exact ⟨⟨by simp, hA, fun _ => by simp only; omega, fun h => by simp at h, fun h => by simp at h⟩, b2⟩
  · rw [if_neg h0]
    by_cases h3 : 3 ≤ drK n x
    · rw [if_pos h3]
      have hn : 2 ≤ n := by
        rcases (show n = 1 ∨ 2 ≤ n by omega) with e | e
        · have := hK.2 e; omega
        · exact e
      have mm : drN (drN (drN x)) % (n - 1) < n - 1 := Nat.mod_lt _ (by omega)
      refine ⟨⟨hK.1, hA, fun h => by simp only at h; omega, fun h => by simp only at h; omega, fun _ => ?_⟩, b2⟩
      simp only
      split <;> omega
    · rw [if_neg h3]
      exact ⟨⟨hK.1, hA, fun h => by simp only at h; omega, fun _ => rfl, fun h => by simp only at h; omega⟩, b1⟩
theorem drC_ok {n : Nat} {c : List Gt} {x : Nat} (h1 : 1 ≤ n) (h4 : n ≤ 4) (hv : okC n c) (hx : x < 65536) : ∀ k, okC n (drC n k (c, x)).1 ∧ (drC n k (c, x)).2 < 65536 ∧ (drC n k (c, x)).1.length = c.length + k
  | 0 => ⟨hv, hx, rfl⟩
  | k + 1 => by
    have ⟨i1, i2, i3⟩ := drC_ok h1 h4 hv hx k
    have g := drG_ok (x := (drC n k (c, x)).2) h1 h4
    generalize hq : drC n k (c, x) = q at i1 i2 i3 g
    have e : drC n (k + 1) (c, x) = (q.1 ++ [(drG n q.2).1], (drG n q.2).2) := by rw [drC, hq]
    rw [e]
    generalize drG n q.2 = r at g ⊢
    refine ⟨i1.app g.1, g.2, ?_⟩
    show (q.1 ++ [r.1]).length = _
    rw [List.length_append, i3]
    rfl
def opN (b : Bool) : Int := if b = true then 1 else 0
def aGateIs (a : AX) (g w : Int) : Int :=
  if g < 0 ∨ (a.1.2.1.length : Int) ≤ g ∨ w < 0 ∨ 5 < w then -1
  else if w < 4 then paS (gA a.1.2.1 g.toNat) w.toNat else ((bgS (decide (w = 5)) (fun _ => 1) a.1.2.1 g.toNat + 1 : Nat) : Int)
def aAhead (a : AX) (g w : Int) : Int :=
  if g < 0 ∨ (a.1.2.1.length : Int) ≤ g ∨ w < 0 ∨ 2 < w then -1
  else if w = 2 then (bts (fun h => cmB (gA a.1.2.1 g.toNat) (gA a.1.2.1 h)) a.1.2.1.length : Int) else (ahS (decide (w = 1)) a.1.2.1 g.toNat : Int)
def aCount (a : AX) (w : Int) : Int := if w = 0 then (a.1.2.1.length : Int) else if w = 1 then (a.1.1 : Int) else if w = 2 then (a.2.2.2.1 : Int) else if w = 3 then (a.1.2.2.2.2.2 : Int) else -1
def aSpend (a : AX) (k t : Int) : Int × AX := if k < 0 ∨ 6 ≤ k ∨ t < 1 ∨ 20 < t then (0, a) else (1, (a.1, a.2.1, a.2.2.1, a.2.2.2.1, fun j => if j = k.toNat then t.toNat else a.2.2.2.2 j))
def aShorter (a : AX) : Int × AX := (((shS a.1.2.1).1 : Int), ((a.1.1, (shS a.1.2.1).2, a.1.2.2), a.2))
def aShortest (a : AX) : Int × AX := (((a.1.2.1.length - (saS a.1.2.1).length : Nat) : Int), ((a.1.1, saS a.1.2.1, a.1.2.2), a.2))
section XC
variable {sh : Shp} {d : Nat} {σ : Mem} {a : AX} {z w v : Int}
theorem X120 (hX : XS sh) (h : InvX sh σ a) (hz : i32 z) (hw : i32 w) (hv : i32 v) : run sh (d + 2) 120 [mR 0, mI z, mI w, mI v] σ = some (some (mI (bi (igB a.1.1 z w v))), σ) := by
  have wz := hz.w
  have ww := hw.w
  have wv := hv.w
  have w6 : wi 6 = 6 := rfl
  have w8 : wi 8 = 8 := rfl
  have l1 := X121 (d := d) (z := w) hX h
  have l2 := X121 (d := d) (z := v) hX h
  rw [ww] at l1
  rw [wv] at l2
  have ho := hX.1
  generalize a.1.1 = n at *
  unfold igB
  by_cases h1 : z < 0
  · simp (disch := first | assumption | omega | (simp (disch := omega) only [wN, w0, w1]; omega)) only [e120_0, e120_1, e120_4, e120_5, e120_7, e120_10, e120_11, e120_12, e120_15, e120_18, e120_19, e120_20, e120_21, e120_24, e120_25, e120_28, e120_29, e120_31, e120_34, e120_35, e120_38, e120_39, e120_40, e120_41, e120_42, e120_45, e120_46, e120_47, e120_50, e120_51, e120_54, e120_55, e120_56, e120_57, e120_58, e120_61, e120_64, e120_65, e120_66, e120_69, e120_70, e120_73, e120_74, kl_I, kl_R, kl_N, kl_L, oSm, oNn, Option.bind_some, wN, if_pos, if_neg, nS, tN, t0, w0, w1, w2, w3, w4, w5, wm1, upA_ne, upA_same, if_true, if_false, Bool.false_eq_true, q120, wz]
    simp [show ¬ 0 ≤ z by omega]
  · by_cases h2 : z < 6
    · by_cases h3 : 0 ≤ w ∧ w < n
      · rw [if_pos h3] at l1
        by_cases h4 : z = 0
        · by_cases h5 : v < 0
          · simp (disch := first | assumption | omega | (simp (disch := omega) only [wN, w0, w1]; omega)) only [e120_0, e120_1, e120_4, e120_5, e120_7, e120_10, e120_11, e120_12, e120_15, e120_18, e120_19, e120_20, e120_21, e120_24, e120_25, e120_28, e120_29, e120_31, e120_34, e120_35, e120_38, e120_39, e120_40, e120_41, e120_42, e120_45, e120_46, e120_47, e120_50, e120_51, e120_54, e120_55, e120_56, e120_57, e120_58, e120_61, e120_64, e120_65, e120_66, e120_69, e120_70, e120_73, e120_74, kl_I, kl_R, kl_N, kl_L, oSm, oNn, Option.bind_some, wN, if_pos, if_neg, nS, tN, t0, w0, w1, w2, w3, w4, w5, wm1, upA_ne, upA_same, if_true, if_false, Bool.false_eq_true, q120, wz, wv, w6, l1]
            simp [h4, show ¬ 0 ≤ v by omega]
          · by_cases h6 : v < 8
            · simp (disch := first | assumption | omega | (simp (disch := omega) only [wN, w0, w1]; omega)) only [e120_0, e120_1, e120_4, e120_5, e120_7, e120_10, e120_11, e120_12, e120_15, e120_18, e120_19, e120_20, e120_21, e120_24, e120_25, e120_28, e120_29, e120_31, e120_34, e120_35, e120_38, e120_39, e120_40, e120_41, e120_42, e120_45, e120_46, e120_47, e120_50, e120_51, e120_54, e120_55, e120_56, e120_57, e120_58, e120_61, e120_64, e120_65, e120_66, e120_69, e120_70, e120_73, e120_74, kl_I, kl_R, kl_N, kl_L, oSm, oNn, Option.bind_some, wN, if_pos, if_neg, nS, tN, t0, w0, w1, w2, w3, w4, w5, wm1, upA_ne, upA_same, if_true, if_false, Bool.false_eq_true, q120, wz, wv, w6, w8, l1]
              simp [h4, h3.1, h3.2, h6, show 0 ≤ v by omega]
            · simp (disch := first | assumption | omega | (simp (disch := omega) only [wN, w0, w1]; omega)) only [e120_0, e120_1, e120_4, e120_5, e120_7, e120_10, e120_11, e120_12, e120_15, e120_18, e120_19, e120_20, e120_21, e120_24, e120_25, e120_28, e120_29, e120_31, e120_34, e120_35, e120_38, e120_39, e120_40, e120_41, e120_42, e120_45, e120_46, e120_47, e120_50, e120_51, e120_54, e120_55, e120_56, e120_57, e120_58, e120_61, e120_64, e120_65, e120_66, e120_69, e120_70, e120_73, e120_74, kl_I, kl_R, kl_N, kl_L, oSm, oNn, Option.bind_some, wN, if_pos, if_neg, nS, tN, t0, w0, w1, w2, w3, w4, w5, wm1, upA_ne, upA_same, if_true, if_false, Bool.false_eq_true, q120, wz, wv, w6, w8, l1]
              simp [h4, h6]
        · by_cases h5 : z < 3
          · by_cases h6 : v = -1
            · simp (disch := first | assumption | omega | (simp (disch := omega) only [wN, w0, w1]; omega)) only [e120_0, e120_1, e120_4, e120_5, e120_7, e120_10, e120_11, e120_12, e120_15, e120_18, e120_19, e120_20, e120_21, e120_24, e120_25, e120_28, e120_29, e120_31, e120_34, e120_35, e120_38, e120_39, e120_40, e120_41, e120_42, e120_45, e120_46, e120_47, e120_50, e120_51, e120_54, e120_55, e120_56, e120_57, e120_58, e120_61, e120_64, e120_65, e120_66, e120_69, e120_70, e120_73, e120_74, kl_I, kl_R, kl_N, kl_L, oSm, oNn, Option.bind_some, wN, if_pos, if_neg, nS, tN, t0, w0, w1, w2, w3, w4, w5, wm1, upA_ne, upA_same, if_true, if_false, Bool.false_eq_true, q120, wz, wv, w6, l1]
              simp [h4, h3.1, h3.2, h5, h6, h2, show 0 ≤ z by omega]
            · simp (disch := first | assumption | omega | (simp (disch := omega) only [wN, w0, w1]; omega)) only [e120_0, e120_1, e120_4, e120_5, e120_7, e120_10, e120_11, e120_12, e120_15, e120_18, e120_19, e120_20, e120_21, e120_24, e120_25, e120_28, e120_29, e120_31, e120_34, e120_35, e120_38, e120_39, e120_40, e120_41, e120_42, e120_45, e120_46, e120_47, e120_50, e120_51, e120_54, e120_55, e120_56, e120_57, e120_58, e120_61, e120_64, e120_65, e120_66, e120_69, e120_70, e120_73, e120_74, kl_I, kl_R, kl_N, kl_L, oSm, oNn, Option.bind_some, wN, if_pos, if_neg, nS, tN, t0, w0, w1, w2, w3, w4, w5, wm1, upA_ne, upA_same, if_true, if_false, Bool.false_eq_true, q120, wz, wv, w6, l1]
              simp [h4, h5, h6]
          · by_cases h6 : 0 ≤ v ∧ v < n
            · rw [if_pos h6] at l2
              by_cases h7 : w = v
              · simp (disch := first | assumption | omega | (simp (disch := omega) only [wN, w0, w1]; omega)) only [e120_0, e120_1, e120_4, e120_5, e120_7, e120_10, e120_11, e120_12, e120_15, e120_18, e120_19, e120_20, e120_21, e120_24, e120_25, e120_28, e120_29, e120_31, e120_34, e120_35, e120_38, e120_39, e120_40, e120_41, e120_42, e120_45, e120_46, e120_47, e120_50, e120_51, e120_54, e120_55, e120_56, e120_57, e120_58, e120_61, e120_64, e120_65, e120_66, e120_69, e120_70, e120_73, e120_74, kl_I, kl_R, kl_N, kl_L, oSm, oNn, Option.bind_some, wN, if_pos, if_neg, nS, tN, t0, w0, w1, w2, w3, w4, w5, wm1, upA_ne, upA_same, if_true, if_false, Bool.false_eq_true, q120, wz, ww, wv, w6, l1, l2]
                simp [h4, h5, h7]
              · simp (disch := first | assumption | omega | (simp (disch := omega) only [wN, w0, w1]; omega)) only [e120_0, e120_1, e120_4, e120_5, e120_7, e120_10, e120_11, e120_12, e120_15, e120_18, e120_19, e120_20, e120_21, e120_24, e120_25, e120_28, e120_29, e120_31, e120_34, e120_35, e120_38, e120_39, e120_40, e120_41, e120_42, e120_45, e120_46, e120_47, e120_50, e120_51, e120_54, e120_55, e120_56, e120_57, e120_58, e120_61, e120_64, e120_65, e120_66, e120_69, e120_70, e120_73, e120_74, kl_I, kl_R, kl_N, kl_L, oSm, oNn, Option.bind_some, wN, if_pos, if_neg, nS, tN, t0, w0, w1, w2, w3, w4, w5, wm1, upA_ne, upA_same, if_true, if_false, Bool.false_eq_true, q120, wz, ww, wv, w6, l1, l2]
                simp [h4, h5, h7, h3.1, h3.2, h6.1, h6.2, h2, show 0 ≤ z by omega]
            · rw [if_neg h6] at l2
              simp (disch := first | assumption | omega | (simp (disch := omega) only [wN, w0, w1]; omega)) only [e120_0, e120_1, e120_4, e120_5, e120_7, e120_10, e120_11, e120_12, e120_15, e120_18, e120_19, e120_20, e120_21, e120_24, e120_25, e120_28, e120_29, e120_31, e120_34, e120_35, e120_38, e120_39, e120_40, e120_41, e120_42, e120_45, e120_46, e120_47, e120_50, e120_51, e120_54, e120_55, e120_56, e120_57, e120_58, e120_61, e120_64, e120_65, e120_66, e120_69, e120_70, e120_73, e120_74, kl_I, kl_R, kl_N, kl_L, oSm, oNn, Option.bind_some, wN, if_pos, if_neg, nS, tN, t0, w0, w1, w2, w3, w4, w5, wm1, upA_ne, upA_same, if_true, if_false, Bool.false_eq_true, q120, wz, ww, wv, w6, l1, l2]
              rw [decide_eq_false (show ¬ (0 ≤ v ∧ v < (n : Int) ∧ w ≠ v) by omega), Bool.and_false]
              rfl
      · rw [if_neg h3] at l1
        simp (disch := first | assumption | omega | (simp (disch := omega) only [wN, w0, w1]; omega)) only [e120_0, e120_1, e120_4, e120_5, e120_7, e120_10, e120_11, e120_12, e120_15, e120_18, e120_19, e120_20, e120_21, e120_24, e120_25, e120_28, e120_29, e120_31, e120_34, e120_35, e120_38, e120_39, e120_40, e120_41, e120_42, e120_45, e120_46, e120_47, e120_50, e120_51, e120_54, e120_55, e120_56, e120_57, e120_58, e120_61, e120_64, e120_65, e120_66, e120_69, e120_70, e120_73, e120_74, kl_I, kl_R, kl_N, kl_L, oSm, oNn, Option.bind_some, wN, if_pos, if_neg, nS, tN, t0, w0, w1, w2, w3, w4, w5, wm1, upA_ne, upA_same, if_true, if_false, Bool.false_eq_true, q120, wz, w6, l1]
        rw [decide_eq_false (show ¬ (0 ≤ z ∧ z < 6 ∧ 0 ≤ w ∧ w < (n : Int)) by omega), Bool.false_and]
        rfl
    · simp (disch := first | assumption | omega | (simp (disch := omega) only [wN, w0, w1]; omega)) only [e120_0, e120_1, e120_4, e120_5, e120_7, e120_10, e120_11, e120_12, e120_15, e120_18, e120_19, e120_20, e120_21, e120_24, e120_25, e120_28, e120_29, e120_31, e120_34, e120_35, e120_38, e120_39, e120_40, e120_41, e120_42, e120_45, e120_46, e120_47, e120_50, e120_51, e120_54, e120_55, e120_56, e120_57, e120_58, e120_61, e120_64, e120_65, e120_66, e120_69, e120_70, e120_73, e120_74, kl_I, kl_R, kl_N, kl_L, oSm, oNn, Option.bind_some, wN, if_pos, if_neg, nS, tN, t0, w0, w1, w2, w3, w4, w5, wm1, upA_ne, upA_same, if_true, if_false, Bool.false_eq_true, q120, wz, w6]
      rw [decide_eq_false (show ¬ (0 ≤ z ∧ z < 6 ∧ 0 ≤ w ∧ w < (n : Int)) by omega), Bool.false_and]
      rfl
theorem igB_v {n : Nat} {k p q : Int} (h : igB n k p q = true) : vG n (k.toNat, p.toNat, q) ∧ 0 ≤ k ∧ 0 ≤ p := by
  unfold igB at h
  rw [Bool.and_eq_true, decide_eq_true_eq] at h
  obtain ⟨h1, h2⟩ := h
  refine ⟨⟨by simp only; omega, by simp only; omega, fun e => ?_, fun e => ?_, fun e => ?_⟩, by omega, by omega⟩
  · simp only at e ⊢
    rw [if_pos (by omega), decide_eq_true_eq] at h2
    exact h2
  · simp only at e ⊢
    rw [if_neg (by omega), if_pos (by omega), decide_eq_true_eq] at h2
    exact h2
  · simp only at e ⊢
    rw [if_neg (by omega), if_neg (by omega), decide_eq_true_eq] at h2
    omega
theorem X119 (hX : XS sh) (h : InvX sh σ a) (hz : i32 z) (hw : i32 w) (hv' : i32 v) : End (run sh (d + 3) 119 [mR 0, mI z, mI w, mI v] σ) (fun r σ' => r = some (mI (aGate a z w v).1) ∧ InvX sh σ' (aGate a z w v).2) := by
  have e120 := X120 (d := d) hX h hz hw hv'
  obtain ⟨ho, s0, s1, s3, s4, s5, s6, s7, s8, s9, s10, s11, s12, s13, hnow, hkep, htap, k43, l43, hspg, hspb, htri, hrow, hcol, hkc, k69, l69, hrou, hfin, hsh, hR⟩ := id hX
  obtain ⟨so, u1, u2, u3, sg, sb, sl⟩ := id hnow
  have sgo := sg.1
  have sbo := sb.1
  have slo := sl.1
  have tpo := htap.1
  have spgo := hspg.1
  have spbo := hspb.1
  have trio := htri.1
  have rowo := hrow.1
  have colo := hcol.1
  have kco := hkc.1
  have rouo := hrou.1
  have fino := hfin.1
  have kpo := hkep.1
  obtain ⟨⟨n, c, m, E, P, x⟩, K, B, s, T⟩ := a
  obtain ⟨⟨hS, hoS⟩, hik, hKp, hTp, h140, hTm, hT1⟩ := id h
  replace hS : HS σ 1 n c m E P (x : Int) := hS
  replace hoS : okZ n c m E P x := hoS
  replace hTp : HP σ 41 B s := hTp
  replace h140 : s ≤ 140 := h140
  replace hTm : HT sh σ 43 T := hTm
  replace hik : σ.1 0 2 = bi K.isSome := hik
  obtain ⟨hS0, hSG, hSB, hSF, hSL, hSx⟩ := id hS
  obtain ⟨n1, n4', c30, hv, m2, m5, E10, hvE, hPk, x16⟩ := id hoS
  have hl := hSG.1
  have w30 : wi 30 = 30 := rfl
  replace e120 : run sh (d + 2) 120 [mR 0, mI z, mI w, mI v] σ = some (some (mI (bi (igB n z w v))), σ) := e120
  unfold aGate
  by_cases h1 : igB n z w v = false
  · rw [if_pos h1]
    rw [h1] at e120
    replace e120 : run sh (d + 2) 120 [mR 0, mI z, mI w, mI v] σ = some (some (mI 0), σ) := e120
    simp (disch := first | assumption | omega | (simp (disch := omega) only [wN, w0, w1]; omega)) only [e119_0, e119_1, e119_2, e119_3, e119_4, e119_7, e119_10, e119_11, e119_12, e119_13, e119_16, e119_19, e119_22, e119_24, e119_27, e119_29, e119_30, e119_31, e119_34, e119_37, e119_38, e119_39, e119_40, e119_43, e119_44, e119_47, e119_50, e119_53, e119_54, e119_55, kl_I, kl_R, kl_N, kl_L, oSm, oNn, Option.bind_some, wN, if_pos, if_neg, nS, tN, t0, w0, w1, w2, w3, w4, w5, wm1, upA_ne, upA_same, if_true, if_false, Bool.false_eq_true, q119, e120]
    exact End.of rfl ⟨rfl, h⟩
  · rw [if_neg h1]
    have h2 : igB n z w v = true := by simpa using h1
    obtain ⟨g1, g2, g3⟩ := igB_v h2
    rw [h2] at e120
    replace e120 : run sh (d + 2) 120 [mR 0, mI z, mI w, mI v] σ = some (some (mI 1), σ) := e120
    by_cases h3 : 30 ≤ c.length
    · rw [if_pos h3]
      simp (disch := first | assumption | omega | (simp (disch := omega) only [wN, w0, w1]; omega)) only [e119_0, e119_1, e119_2, e119_3, e119_4, e119_7, e119_10, e119_11, e119_12, e119_13, e119_16, e119_19, e119_22, e119_24, e119_27, e119_29, e119_30, e119_31, e119_34, e119_37, e119_38, e119_39, e119_40, e119_43, e119_44, e119_47, e119_50, e119_53, e119_54, e119_55, kl_I, kl_R, kl_N, kl_L, oSm, oNn, Option.bind_some, wN, if_pos, if_neg, nS, tN, t0, w0, w1, w2, w3, w4, w5, wm1, upA_ne, upA_same, if_true, if_false, Bool.false_eq_true, q119, e120, s0, u1, hl, w30]
      exact End.of rfl ⟨rfl, h⟩
    · rw [if_neg h3]
      obtain ⟨r, σ1, a1, rfl, a3, a4⟩ := L52 (d := d + 1) sg hSG (show c.length < 30 by omega) (by omega) (show n ≤ 5 by omega) g1
      simp only at a1
      rw [show ((z.toNat : Nat) : Int) = z by omega, show ((w.toNat : Nat) : Int) = w by omega] at a1
      have f1 := frG.I a4
      have hl2 := a3.1
      have e1 : ((c ++ [(z.toNat, w.toNat, v)]).length : Int) - 1 = (c.length : Int) := by simp
      simp (disch := first | assumption | omega | (simp (disch := omega) only [wN, w0, w1]; omega)) only [e119_0, e119_1, e119_2, e119_3, e119_4, e119_7, e119_10, e119_11, e119_12, e119_13, e119_16, e119_19, e119_22, e119_24, e119_27, e119_29, e119_30, e119_31, e119_34, e119_37, e119_38, e119_39, e119_40, e119_43, e119_44, e119_47, e119_50, e119_53, e119_54, e119_55, kl_I, kl_R, kl_N, kl_L, oSm, oNn, Option.bind_some, wN, if_pos, if_neg, nS, tN, t0, w0, w1, w2, w3, w4, w5, wm1, upA_ne, upA_same, if_true, if_false, Bool.false_eq_true, q119, e120, s0, u1, hl, w30, a1, hl2, e1]
      refine End.of rfl ⟨rfl, h.now (fun b hb => f1.1 b (by omega)) ⟨⟨?_, a3, hSB.fr f1 (by omega), hSF.fr f1 (by omega), hSL.fr f1 (by omega), ?_⟩, ⟨n1, n4', ?_, hv.app g1, m2, m5, E10, hvE, hPk, x16⟩⟩⟩
      · rw [f1.1 1 (by omega)]; exact hS0
      · rw [f1.1 1 (by omega)]; exact hSx
      · show (c ++ _).length ≤ 30
        rw [List.length_append]
        simp only [List.length_cons, List.length_nil]
        omega
theorem X52 {q : Gt} (hX : XS sh) (h : InvX sh σ a) (hq : vG a.1.1 q) (h30 : a.1.2.1.length < 30) : End (run sh (d + 1) 52 [mR 2, mI (q.1 : Int), mI (q.2.1 : Int), mI q.2.2] σ) (fun r σ' => r = none ∧ InvX sh σ' ((a.1.1, a.1.2.1 ++ [q], a.1.2.2), a.2)) := by
  obtain ⟨ho, s0, s1, s3, s4, s5, s6, s7, s8, s9, s10, s11, s12, s13, hnow, hkep, htap, k43, l43, hspg, hspb, htri, hrow, hcol, hkc, k69, l69, hrou, hfin, hsh, hR⟩ := id hX
  obtain ⟨so, u1, u2, u3, sg, sb, sl⟩ := id hnow
  have sgo := sg.1
  have sbo := sb.1
  have slo := sl.1
  have tpo := htap.1
  have spgo := hspg.1
  have spbo := hspb.1
  have trio := htri.1
  have rowo := hrow.1
  have colo := hcol.1
  have kco := hkc.1
  have rouo := hrou.1
  have fino := hfin.1
  have kpo := hkep.1
  obtain ⟨⟨n, c, m, E, P, x⟩, K, B, s, T⟩ := a
  obtain ⟨⟨hS, hoS⟩, hik, hKp, hTp, h140, hTm, hT1⟩ := id h
  replace hS : HS σ 1 n c m E P (x : Int) := hS
  replace hoS : okZ n c m E P x := hoS
  replace hTp : HP σ 41 B s := hTp
  replace h140 : s ≤ 140 := h140
  replace hTm : HT sh σ 43 T := hTm
  replace hik : σ.1 0 2 = bi K.isSome := hik
  obtain ⟨hS0, hSG, hSB, hSF, hSL, hSx⟩ := id hS
  obtain ⟨n1, n4', c30, hv, m2, m5, E10, hvE, hPk, x16⟩ := id hoS
  replace h30 : c.length < 30 := h30
  obtain ⟨r, σ1, a1, rfl, a3, a4⟩ := L52 (d := d) sg hSG (show c.length < 30 by omega) (by omega) (show n ≤ 5 by omega) hq
  have f1 := frG.I a4
  refine End.of a1 ⟨rfl, h.now (fun b hb => f1.1 b (by omega)) ⟨⟨?_, a3, hSB.fr f1 (by omega), hSF.fr f1 (by omega), hSL.fr f1 (by omega), ?_⟩, ⟨n1, n4', ?_, hv.app hq, m2, m5, E10, hvE, hPk, x16⟩⟩⟩
  · rw [f1.1 1 (by omega)]; exact hS0
  · rw [f1.1 1 (by omega)]; exact hSx
  · show (c ++ _).length ≤ 30
    simp only [List.length_append, List.length_cons, List.length_nil]
    omega
end XC
