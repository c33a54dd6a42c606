/-! ===== the reference: feed, reading ===== -/
section MF
variable {sh : Shp} {d t g n : Nat} {σ : Mem} {a : AX} {z w v u lo : Int} {c : List Gt} {B : Nat → Nat} {L p : Nat}
theorem M176 {z1 z2 z3 z4 z5 : Int} (hM : MS sh) (h : InvM sh σ a) : End (run sh (d + 1) 176 [mR 124, mI z1, mI z2, mI z3, mI z4, mI z5] σ) (fun r σ' => r = some (mI (aFeed a z1 z2 z3 z4 z5).1) ∧ InvM sh σ' (aFeed a z1 z2 z3 z4 z5).2) := by
  have h00 := h
  have mo := hM.1
  have m160 := hM.2.1
  obtain ⟨⟨n, c, m, E, P, x⟩, K, B, s, T⟩ := a
  obtain ⟨⟨hG, hN, hMp, hEl, hx0, hE, hP, hoS⟩, hik, hKp, hTp, h140, hTm⟩ := id h
  replace hG : HGm σ 0 c := hG
  replace hN : σ.1 124 8 = (n : Int) := hN
  replace hMp : σ.1 124 9 = (m : Int) := hMp
  replace hEl : σ.1 124 10 = (E.length : Int) := hEl
  replace hx0 : σ.1 124 11 = (x : Int) := hx0
  replace hE : HEm σ 127 128 E := hE
  replace hP : ∀ y, y < n → σ.1 129 y = (P y : Int) := hP
  replace hoS : okZ n c m E P x := hoS
  replace hTp : HPm σ B s := hTp
  replace h140 : s ≤ 140 := h140
  replace hTm : HT sh σ 157 T := hTm
  replace hik : σ.1 124 16 = bi K.isSome := hik
  obtain ⟨n1, n4', c30, hv, m2, m5, E10, hvE, hPk, x16⟩ := id hoS
  have hl := hTp.1
  have e20 : (s : Int) + 20 = ((s + 20 : Nat) : Int) := rfl
  have w140 : wi 140 = 140 := rfl
  unfold aFeed
  by_cases h1 : 120 < s
  · rw [if_pos h1]
    simp (disch := first | assumption | omega | (simp (disch := omega) only [wN, w0, w1]; omega)) only [e176_0, e176_1, e176_4, e176_6, e176_7, e176_10, e176_13, e176_14, e176_15, e176_16, e176_17, e176_20, e176_21, e176_22, e176_25, e176_26, e176_27, e176_30, e176_31, e176_33, e176_36, e176_37, e176_39, e176_42, e176_43, e176_46, kl_I, kl_R, kl_N, kl_L, oSm, oNn, Option.bind_some, wN, if_pos, if_neg, nS, tN, t0, w0, w1, w2, w3, w4, w5, wm1, upA_ne, upA_same, if_true, if_false, Bool.false_eq_true, q176, hl, e20, w140]
    exact End.of rfl ⟨rfl, h⟩
  · rw [if_neg h1]
    obtain ⟨r1, σ1, a1, rfl, p1, q1', f1⟩ := M175 (d := d) (z := z1) hM hTp.2 hl (by omega)
    obtain ⟨r2, σ2, a2, rfl, p2, q2', f2⟩ := M175 (d := d) (z := z2) hM p1 q1' (by omega)
    obtain ⟨r3, σ3, a3, rfl, p3, q3', f3⟩ := M175 (d := d) (z := z3) hM p2 q2' (by omega)
    obtain ⟨r4, σ4, a4, rfl, p4, q4', f4⟩ := M175 (d := d) (z := z4) hM p3 q3' (by omega)
    obtain ⟨r5, σ5, a5, rfl, p5, q5', f5⟩ := M175 (d := d) (z := z5) hM p4 q4' (by omega)
    have ff := (((f1.tr f2).tr f3).tr f4).tr f5
    simp (disch := first | assumption | omega | (simp (disch := omega) only [wN, w0, w1]; omega)) only [e176_0, e176_1, e176_4, e176_6, e176_7, e176_10, e176_13, e176_14, e176_15, e176_16, e176_17, e176_20, e176_21, e176_22, e176_25, e176_26, e176_27, e176_30, e176_31, e176_33, e176_36, e176_37, e176_39, e176_42, e176_43, e176_46, kl_I, kl_R, kl_N, kl_L, oSm, oNn, Option.bind_some, wN, if_pos, if_neg, nS, tN, t0, w0, w1, w2, w3, w4, w5, wm1, upA_ne, upA_same, if_true, if_false, Bool.false_eq_true, q176, hl, e20, w140, a1, a2, a3, a4, a5, q5']
    exact End.of rfl ⟨rfl, h00.tap (fun b b1 b2 b3 b4 => (ff.1 b (by omega) (by omega)).1) (fun i hi => ff.2 i (by omega)) ⟨q5', p5⟩ (by omega)⟩
/-- the reference reads: bytes B, L of them, the next at p -/
def HQ (σ : Mem) (B : Nat → Nat) (L p : Nat) : Prop := HBy σ B ∧ σ.1 124 22 = (p : Int) ∧ σ.1 124 23 = (L : Int)
theorem M177 (hM : MS sh) (hq : HQ σ B L p) (hL : L ≤ 140) (hp : p < 1000) : run sh d 177 [mR 124] σ = some (some (mI (byB B L p)), σ) := by
  have mo := hM.1
  have m160 := hM.2.1
  obtain ⟨ra17, rk17, rl17⟩ := ms17 hM
  obtain ⟨h1, h2, h3⟩ := hq
  unfold byB
  by_cases h : p < L
  · have hb := (h1 p (by omega)).1
    simp (disch := first | assumption | omega | (simp (disch := omega) only [wN, w0, w1]; omega)) only [e177_0, e177_1, e177_4, e177_5, e177_8, e177_11, e177_12, e177_15, e177_16, e177_19, e177_20, e177_23, e177_24, e177_27, e177_28, kl_I, kl_R, kl_N, kl_L, oSm, oNn, Option.bind_some, wN, if_pos, if_neg, nS, tN, t0, w0, w1, w2, w3, w4, w5, wm1, upA_ne, upA_same, if_true, if_false, Bool.false_eq_true, q177, h2, h3, ra17, rl17, hb]
  · simp (disch := first | assumption | omega | (simp (disch := omega) only [wN, w0, w1]; omega)) only [e177_0, e177_1, e177_4, e177_5, e177_8, e177_11, e177_12, e177_15, e177_16, e177_19, e177_20, e177_23, e177_24, e177_27, e177_28, kl_I, kl_R, kl_N, kl_L, oSm, oNn, Option.bind_some, wN, if_pos, if_neg, nS, tN, t0, w0, w1, w2, w3, w4, w5, wm1, upA_ne, upA_same, if_true, if_false, Bool.false_eq_true, q177, h2, h3]
theorem M178 (hM : MS sh) : run sh d 178 [mR 124, mI z, mI w] σ = some (some (mI 0), (upA σ.1 124 (up1 (σ.1 124) 24 (-1000 * z - w)), σ.2)) := by
  have mo := hM.1
  simp (disch := first | assumption | omega | (simp (disch := omega) only [wN, w0, w1]; omega)) only [e178_0, e178_1, e178_4, e178_5, e178_6, e178_7, e178_8, e178_11, e178_12, kl_I, kl_R, kl_N, kl_L, oSm, oNn, Option.bind_some, wN, if_pos, if_neg, nS, tN, t0, w0, w1, w2, w3, w4, w5, wm1, upA_ne, upA_same, if_true, if_false, Bool.false_eq_true, q178]
/-- what comes of a sign, a digit: told, where it stands then; or the fault -/
def poS (σ : Mem) (B : Nat → Nat) (L p : Nat) (ok : Prop) (f : Int) (r : Option MV) (σ' : Mem) : Prop := (ok ∧ r = some (mI 1) ∧ HQ σ' B L (p + 1) ∧ frW 1 0 22 25 σ σ') ∨ (¬ ok ∧ r = some (mI 0) ∧ σ'.1 124 24 = f ∧ frW 1 0 24 24 σ σ')
theorem HQ.up {i : Nat} (h : HQ σ B L p) (hi : 23 < i) : HQ (upA σ.1 124 (up1 (σ.1 124) i z), σ.2) B L p := by
  obtain ⟨h1, h2, h3⟩ := h
  refine ⟨fun j hj => ?_, ?_, ?_⟩
  · simp (disch := omega) only [upA_ne]; exact h1 j hj
  · simp (disch := omega) only [upA_same, up1_ne]; exact h2
  · simp (disch := omega) only [upA_same, up1_ne]; exact h3
theorem HQ.st {p' : Nat} (h : HQ σ B L p) : HQ (upA σ.1 124 (up1 (σ.1 124) 22 (p' : Int)), σ.2) B L p' := by
  obtain ⟨h1, h2, h3⟩ := h
  refine ⟨fun j hj => ?_, ?_, ?_⟩
  · simp (disch := omega) only [upA_ne]; exact h1 j hj
  · simp (disch := omega) only [upA_same, up1_same]
  · simp (disch := omega) only [upA_same, up1_ne]; exact h3
theorem M179 (hM : MS sh) (hq : HQ σ B L p) (hL : L ≤ 140) (hp : p < 900) (hz : 0 ≤ z ∧ z < 256) : End (run sh (d + 1) 179 [mR 124, mI z] σ) (poS σ B L p (byB B L p = z) (-1000 * 1 - (p : Int))) := by
  have mo := hM.1
  have e7 := M177 (d := d) hM hq hL (show p < 1000 by omega)
  have hb := byB_r hL (fun j hj => (hq.1 j hj).2) p
  have wb : wi (byB B L p) = byB B L p := wi_id (by omega) (by omega)
  have wz : wi z = z := wi_id (by omega) (by omega)
  have h2 := hq.2.1
  by_cases h : byB B L p = z
  · simp (disch := first | assumption | omega | (simp (disch := omega) only [wN, w0, w1]; omega)) only [e179_0, e179_1, e179_4, e179_5, e179_8, e179_9, e179_10, e179_11, e179_14, e179_17, e179_18, e179_19, e179_20, e179_23, e179_24, e179_25, e179_28, e179_29, kl_I, kl_R, kl_N, kl_L, oSm, oNn, Option.bind_some, wN, if_pos, if_neg, nS, tN, t0, w0, w1, w2, w3, w4, w5, wm1, upA_ne, upA_same, if_true, if_false, Bool.false_eq_true, q179, e7, wb, wz, h2]
    exact End.of rfl (Or.inl ⟨h, rfl, hq.st, frW.f (by omega)⟩)
  · simp (disch := first | assumption | omega | (simp (disch := omega) only [wN, w0, w1]; omega)) only [e179_0, e179_1, e179_4, e179_5, e179_8, e179_9, e179_10, e179_11, e179_14, e179_17, e179_18, e179_19, e179_20, e179_23, e179_24, e179_25, e179_28, e179_29, kl_I, kl_R, kl_N, kl_L, oSm, oNn, Option.bind_some, wN, if_pos, if_neg, nS, tN, t0, w0, w1, w2, w3, w4, w5, wm1, upA_ne, upA_same, if_true, if_false, Bool.false_eq_true, q179, e7, wb, wz, h2, M178 hM]
    refine End.of rfl (Or.inr ⟨h, rfl, ?_, frW.f (by omega)⟩)
    simp (disch := omega) only [upA_same, up1_same]
theorem M180 {hi : Int} (hM : MS sh) (hq : HQ σ B L p) (hL : L ≤ 140) (hp : p < 900) (hlo : 0 ≤ lo ∧ lo < 10) (hhi : -1 ≤ hi ∧ hi < 9) : End (run sh (d + 1) 180 [mR 124, mI lo, mI hi] σ) (fun r σ' => poS σ B L p (0 ≤ rdD B L p lo (hi + 1)) (rdD B L p lo (hi + 1)) r σ' ∧ (0 ≤ rdD B L p lo (hi + 1) → σ'.1 124 25 = rdD B L p lo (hi + 1))) := by
  have mo := hM.1
  have e7 := M177 (d := d) hM hq hL (show p < 1000 by omega)
  have hb := byB_r hL (fun j hj => (hq.1 j hj).2) p
  have h2 := hq.2.1
  have e1 := E164 (sh := sh) (d := d) (σ := σ) (z := byB B L p) (w := 48) (v := 57) ⟨by omega, by omega⟩ ⟨by omega, by omega⟩ ⟨by omega, by omega⟩
  have e2 := E164 (sh := sh) (d := d) (σ := σ) (z := byB B L p - 48) (w := lo) (v := hi) ⟨by omega, by omega⟩ ⟨by omega, by omega⟩ ⟨by omega, by omega⟩
  unfold rdD
  by_cases g1 : byB B L p < 48 ∨ 57 < byB B L p
  · rw [if_neg (by omega)] at e1
    rw [if_pos g1]
    simp (disch := first | assumption | omega | (simp (disch := omega) only [wN, w0, w1]; omega)) only [e180_0, e180_1, e180_4, e180_6, e180_8, e180_11, e180_14, e180_15, e180_16, e180_17, e180_20, e180_23, e180_24, e180_25, e180_28, e180_30, e180_31, e180_32, e180_33, e180_36, e180_39, e180_40, e180_41, e180_42, e180_45, e180_48, e180_49, e180_50, e180_51, e180_54, e180_56, e180_57, e180_60, e180_61, e180_62, e180_65, e180_66, e180_67, e180_70, e180_71, kl_I, kl_R, kl_N, kl_L, oSm, oNn, Option.bind_some, wN, if_pos, if_neg, nS, tN, t0, w0, w1, w2, w3, w4, w5, wm1, upA_ne, upA_same, if_true, if_false, Bool.false_eq_true, q180, e7, e1, h2, M178 hM]
    refine End.of rfl ⟨Or.inr ⟨by omega, rfl, ?_, frW.f (by omega)⟩, fun z => by omega⟩
    simp (disch := omega) only [upA_same, up1_same]
  · rw [if_pos (by omega)] at e1
    rw [if_neg g1]
    by_cases g2 : lo ≤ byB B L p - 48 ∧ byB B L p - 48 < hi + 1
    · rw [if_pos (by omega)] at e2
      rw [if_pos g2]
      simp (disch := first | assumption | omega | (simp (disch := omega) only [wN, w0, w1]; omega)) only [e180_0, e180_1, e180_4, e180_6, e180_8, e180_11, e180_14, e180_15, e180_16, e180_17, e180_20, e180_23, e180_24, e180_25, e180_28, e180_30, e180_31, e180_32, e180_33, e180_36, e180_39, e180_40, e180_41, e180_42, e180_45, e180_48, e180_49, e180_50, e180_51, e180_54, e180_56, e180_57, e180_60, e180_61, e180_62, e180_65, e180_66, e180_67, e180_70, e180_71, kl_I, kl_R, kl_N, kl_L, oSm, oNn, Option.bind_some, wN, if_pos, if_neg, nS, tN, t0, w0, w1, w2, w3, w4, w5, wm1, upA_ne, upA_same, if_true, if_false, Bool.false_eq_true, q180, e7, e1, e2, h2, up1_ne, upA_upA]
      have f3 := (frW.f (x := 1) (y := 0) (u := 22) (v := 25) (σ := σ) (i := 25) (z := byB B L p - 48) (by omega)).tr (frW.f (i := 22) (z := ((p + 1 : Nat) : Int)) (by omega))
      have hq3 := (hq.up (i := 25) (z := byB B L p - 48) (by omega)).st (p' := p + 1)
      simp only [upA_same, upA_upA] at f3 hq3
      refine End.of rfl ⟨Or.inl ⟨by omega, rfl, hq3, f3⟩, fun _ => ?_⟩
      simp (disch := omega) only [upA_same, up1_same, up1_ne]
    · rw [if_neg (by omega)] at e2
      rw [if_neg g2]
      simp (disch := first | assumption | omega | (simp (disch := omega) only [wN, w0, w1]; omega)) only [e180_0, e180_1, e180_4, e180_6, e180_8, e180_11, e180_14, e180_15, e180_16, e180_17, e180_20, e180_23, e180_24, e180_25, e180_28, e180_30, e180_31, e180_32, e180_33, e180_36, e180_39, e180_40, e180_41, e180_42, e180_45, e180_48, e180_49, e180_50, e180_51, e180_54, e180_56, e180_57, e180_60, e180_61, e180_62, e180_65, e180_66, e180_67, e180_70, e180_71, kl_I, kl_R, kl_N, kl_L, oSm, oNn, Option.bind_some, wN, if_pos, if_neg, nS, tN, t0, w0, w1, w2, w3, w4, w5, wm1, upA_ne, upA_same, if_true, if_false, Bool.false_eq_true, q180, e7, e1, e2, h2, M178 hM]
      refine End.of rfl ⟨Or.inr ⟨by omega, rfl, ?_, frW.f (by omega)⟩, fun z => by omega⟩
      simp (disch := omega) only [upA_same, up1_same]
/-- the gates read so far -/
def HNg (σ : Mem) (c : List Gt) : Prop := σ.1 124 26 = (c.length : Int) ∧ ∀ g, g < c.length → σ.1 134 (4 * g) = ((gA c g).1 : Int) ∧ σ.1 134 (4 * g + 1) = ((gA c g).2.1 : Int) ∧ σ.1 134 (4 * g + 2) = rb (gA c g) ∧ σ.1 134 (4 * g + 3) = rk (gA c g)
theorem M181 (hz : -1 ≤ z ∧ z < 256) : run sh d 181 [mI z] σ = some (some (mI (kdB z)), σ) := by
  have wz : wi z = z := wi_id (by omega) (by omega)
  have k114 : wi 114 = 114 := rfl
  have k104 : wi 104 = 104 := rfl
  have k120 : wi 120 = 120 := rfl
  have k99 : wi 99 = 99 := rfl
  have k100 : wi 100 = 100 := rfl
  have k119 : wi 119 = 119 := rfl
  unfold kdB
  by_cases h1 : z = 114
  · simp (disch := first | assumption | omega | (simp (disch := omega) only [wN, w0, w1]; omega)) only [e181_0, e181_1, e181_3, e181_6, e181_7, e181_10, e181_11, e181_13, e181_16, e181_17, e181_20, e181_21, e181_23, e181_26, e181_27, e181_30, e181_31, e181_33, e181_36, e181_37, e181_40, e181_41, e181_43, e181_46, e181_47, e181_50, e181_51, e181_53, e181_56, e181_57, e181_60, e181_61, kl_I, kl_R, kl_N, kl_L, oSm, oNn, Option.bind_some, wN, if_pos, if_neg, nS, tN, t0, w0, w1, w2, w3, w4, w5, wm1, upA_ne, upA_same, if_true, if_false, Bool.false_eq_true, q181, wz, k114]
  · by_cases h2 : z = 104
    · simp (disch := first | assumption | omega | (simp (disch := omega) only [wN, w0, w1]; omega)) only [e181_0, e181_1, e181_3, e181_6, e181_7, e181_10, e181_11, e181_13, e181_16, e181_17, e181_20, e181_21, e181_23, e181_26, e181_27, e181_30, e181_31, e181_33, e181_36, e181_37, e181_40, e181_41, e181_43, e181_46, e181_47, e181_50, e181_51, e181_53, e181_56, e181_57, e181_60, e181_61, kl_I, kl_R, kl_N, kl_L, oSm, oNn, Option.bind_some, wN, if_pos, if_neg, nS, tN, t0, w0, w1, w2, w3, w4, w5, wm1, upA_ne, upA_same, if_true, if_false, Bool.false_eq_true, q181, wz, k114, k104]
    · by_cases h3 : z = 120
      · simp (disch := first | assumption | omega | (simp (disch := omega) only [wN, w0, w1]; omega)) only [e181_0, e181_1, e181_3, e181_6, e181_7, e181_10, e181_11, e181_13, e181_16, e181_17, e181_20, e181_21, e181_23, e181_26, e181_27, e181_30, e181_31, e181_33, e181_36, e181_37, e181_40, e181_41, e181_43, e181_46, e181_47, e181_50, e181_51, e181_53, e181_56, e181_57, e181_60, e181_61, kl_I, kl_R, kl_N, kl_L, oSm, oNn, Option.bind_some, wN, if_pos, if_neg, nS, tN, t0, w0, w1, w2, w3, w4, w5, wm1, upA_ne, upA_same, if_true, if_false, Bool.false_eq_true, q181, wz, k114, k104, k120]
      · by_cases h4 : z = 99
        · simp (disch := first | assumption | omega | (simp (disch := omega) only [wN, w0, w1]; omega)) only [e181_0, e181_1, e181_3, e181_6, e181_7, e181_10, e181_11, e181_13, e181_16, e181_17, e181_20, e181_21, e181_23, e181_26, e181_27, e181_30, e181_31, e181_33, e181_36, e181_37, e181_40, e181_41, e181_43, e181_46, e181_47, e181_50, e181_51, e181_53, e181_56, e181_57, e181_60, e181_61, kl_I, kl_R, kl_N, kl_L, oSm, oNn, Option.bind_some, wN, if_pos, if_neg, nS, tN, t0, w0, w1, w2, w3, w4, w5, wm1, upA_ne, upA_same, if_true, if_false, Bool.false_eq_true, q181, wz, k114, k104, k120, k99]
        · by_cases h5 : z = 100
          · simp (disch := first | assumption | omega | (simp (disch := omega) only [wN, w0, w1]; omega)) only [e181_0, e181_1, e181_3, e181_6, e181_7, e181_10, e181_11, e181_13, e181_16, e181_17, e181_20, e181_21, e181_23, e181_26, e181_27, e181_30, e181_31, e181_33, e181_36, e181_37, e181_40, e181_41, e181_43, e181_46, e181_47, e181_50, e181_51, e181_53, e181_56, e181_57, e181_60, e181_61, kl_I, kl_R, kl_N, kl_L, oSm, oNn, Option.bind_some, wN, if_pos, if_neg, nS, tN, t0, w0, w1, w2, w3, w4, w5, wm1, upA_ne, upA_same, if_true, if_false, Bool.false_eq_true, q181, wz, k114, k104, k120, k99, k100]
          · by_cases h6 : z = 119
            · simp (disch := first | assumption | omega | (simp (disch := omega) only [wN, w0, w1]; omega)) only [e181_0, e181_1, e181_3, e181_6, e181_7, e181_10, e181_11, e181_13, e181_16, e181_17, e181_20, e181_21, e181_23, e181_26, e181_27, e181_30, e181_31, e181_33, e181_36, e181_37, e181_40, e181_41, e181_43, e181_46, e181_47, e181_50, e181_51, e181_53, e181_56, e181_57, e181_60, e181_61, kl_I, kl_R, kl_N, kl_L, oSm, oNn, Option.bind_some, wN, if_pos, if_neg, nS, tN, t0, w0, w1, w2, w3, w4, w5, wm1, upA_ne, upA_same, if_true, if_false, Bool.false_eq_true, q181, wz, k114, k104, k120, k99, k100, k119]
            · simp (disch := first | assumption | omega | (simp (disch := omega) only [wN, w0, w1]; omega)) only [e181_0, e181_1, e181_3, e181_6, e181_7, e181_10, e181_11, e181_13, e181_16, e181_17, e181_20, e181_21, e181_23, e181_26, e181_27, e181_30, e181_31, e181_33, e181_36, e181_37, e181_40, e181_41, e181_43, e181_46, e181_47, e181_50, e181_51, e181_53, e181_56, e181_57, e181_60, e181_61, kl_I, kl_R, kl_N, kl_L, oSm, oNn, Option.bind_some, wN, if_pos, if_neg, nS, tN, t0, w0, w1, w2, w3, w4, w5, wm1, upA_ne, upA_same, if_true, if_false, Bool.false_eq_true, q181, wz, k114, k104, k120, k99, k100, k119]
theorem HNg.fr {x y u' v' : Nat} {σ' : Mem} (h : HNg σ c) (hf : frW x y u' v' σ σ') (h1 : 134 < x ∨ y < 134) (h2 : 26 < u' ∨ v' < 26) : HNg σ' c := by
  refine ⟨by rw [hf.2 26 (by omega)]; exact h.1, fun g hg => ?_⟩
  rw [(hf.1 134 (by omega) (by omega)).1]; exact h.2 g hg
end MF

