/-! ===== the reference: layouts ===== -/
def laI (sh : Shp) (q : Nat) : Prop := skd sh q = 0 ∧ sln sh q = 4
def HLm (σ : Mem) (q n : Nat) (P : Nat → Nat) : Prop := ∀ y, y < n → σ.1 q y = (P y : Int)
section NL
variable {sh : Shp} {d m n q p g : Nat} {σ : Mem} {E : List Ed} {a : AX} {z w : Int} {c : List Gt} {P : Nat → Nat}
theorem M237 (hM : MS sh) (hG : HGm σ 0 c) (hc : c.length ≤ 30) (hv : okC n c) (hF : HFm σ m (farE E)) (hm : m ≤ 5) (hq : laI sh q) (hL : HLm σ q n P) (hP : okP n m P) (hn : n ≤ 4) (hg : g < c.length) (h3 : 3 ≤ (gA c g).1) : run sh (d + 1) 237 [mR 124, mI (g : Int), mR q] σ = some (some (mI (farE E (P (gA c g).2.1) (P (gA c g).2.2.toNat) : Int)), σ) := by
  have mo := hM.1
  have m160 := hM.2.1
  obtain ⟨ra39, rk39, rl39⟩ := ms39 hM
  obtain ⟨k1, l1⟩ := hq
  have a1 := of1 (d := d) (z := 0) hM hG (by omega) hc hg rfl
  have a2 := of2 (d := d) (z := 0) hM hG (by omega) hc hg rfl
  obtain ⟨u1, u2, u3, u4, u5⟩ := hv.at hg
  have u6 := u5 h3
  obtain ⟨y, hy⟩ : ∃ y : Nat, (gA c g).2.2 = (y : Int) := ⟨(gA c g).2.2.toNat, by omega⟩
  rw [rb, if_neg (by omega), hy] at a2
  rw [hy, Int.toNat_natCast]
  rw [hy] at u6
  have g1 := hL _ u2
  have g2 := hL y (by omega)
  have f1 := (hF (P (gA c g).2.1) (hP.1 _ u2) (P y) (hP.1 _ (by omega))).1
  have p1 := hP.1 _ u2
  have p2 := hP.1 y (by omega)
  simp (disch := first | assumption | omega | (simp (disch := omega) only [wN, w0, w1]; omega)) only [e237_0, e237_1, e237_4, e237_6, e237_7, e237_8, e237_9, e237_10, e237_11, e237_14, e237_15, e237_16, e237_17, e237_18, e237_19, e237_20, e237_21, e237_24, e237_25, e237_26, e237_27, kl_I, kl_R, kl_N, kl_L, oSm, oNn, Option.bind_some, wN, if_pos, if_neg, nS, tN, t0, w0, w1, w2, w3, w4, w5, wm1, upA_ne, upA_same, if_true, if_false, Bool.false_eq_true, q237, ra39, rl39, a1, a2, g1, g2, n6, ← Int.natCast_add, f1]
theorem M238 (hM : MS sh) (hG : HGm σ 0 c) (hc : c.length ≤ 30) (hv : okC n c) (hF : HFm σ m (farE E)) (hm : m ≤ 5) (hq : laI sh q) (hL : HLm σ q n P) (hP : okP n m P) (hn : n ≤ 4) : run sh (d + 2) 238 [mR 124, mR q] σ = some (some (mI (if gdB (farE E) P c (c.length - 0) 0 = true then 1 else 0)), σ) := by
  have mo := hM.1
  have m160 := hM.2.1
  obtain ⟨ra1, rk1, rl1⟩ := ms1 hM
  have hl := hG.1
  have F := for_dn (fun i => ev sh (d + 2) 238 2 [some (mR (124)), some (mR (q)), some (mI ((i : Nat) : Int))] [] (σ)) (fun i => some (some (mI (if gdB (farE E) P c (c.length - i) i = true then 1 else 0)), σ)) (c.length) (by
    show ev sh (d + 2) 238 2 [some (mR (124)), some (mR (q)), some (mI (((c.length) : Nat) : Int))] [] (σ) = some (some (mI (if gdB (farE E) P c (c.length - (c.length)) (c.length) = true then 1 else 0)), σ)
    unfold gdB
    rw [fa_e, e238_2]
    simp (disch := first | assumption | omega | (simp (disch := omega) only [wN, w0, w1]; omega)) only [e238_0, e238_1, e238_3, e238_4, e238_7, e238_8, e238_9, e238_12, e238_13, e238_14, e238_15, e238_18, e238_21, e238_22, e238_23, e238_24, e238_27, e238_28, e238_31, e238_32, e238_33, e238_36, e238_39, e238_40, kl_I, kl_R, kl_N, kl_L, oSm, oNn, Option.bind_some, wN, if_pos, if_neg, nS, tN, t0, w0, w1, w2, w3, w4, w5, wm1, upA_ne, upA_same, if_true, if_false, Bool.false_eq_true, ra1, rl1, hl]) (fun i hi ih => by
    replace ih : ev sh (d + 2) 238 2 [some (mR (124)), some (mR (q)), some (mI (((i + 1) : Nat) : Int))] [] (σ) = some (some (mI (if gdB (farE E) P c (c.length - (i + 1)) (i + 1) = true then 1 else 0)), σ) := ih
    show ev sh (d + 2) 238 2 [some (mR (124)), some (mR (q)), some (mI ((i : Nat) : Int))] [] (σ) = some (some (mI (if gdB (farE E) P c (c.length - i) i = true then 1 else 0)), σ)
    have a3 := E173 (d := d) (z := 0) hM hG (by omega) hc hv hi rfl
    unfold gdB at ih ⊢
    rw [fa_s hi, e238_2]
    by_cases h3 : 3 ≤ (gA c i).1
    · rw [if_pos h3] at a3
      have a7 := M237 (d := d) hM hG hc hv hF hm hq hL hP hn hi h3
      have b := farE_le E (P (gA c i).2.1) (P (gA c i).2.2.toNat)
      by_cases e : farE E (P (gA c i).2.1) (P (gA c i).2.2.toNat) = 1
      · rw [e] at a7
        simp (disch := first | assumption | omega | (simp (disch := omega) only [wN, w0, w1]; omega)) only [e238_0, e238_1, e238_3, e238_4, e238_7, e238_8, e238_9, e238_12, e238_13, e238_14, e238_15, e238_18, e238_21, e238_22, e238_23, e238_24, e238_27, e238_28, e238_31, e238_32, e238_33, e238_36, e238_39, e238_40, kl_I, kl_R, kl_N, kl_L, oSm, oNn, Option.bind_some, wN, if_pos, if_neg, nS, tN, t0, w0, w1, w2, w3, w4, w5, wm1, upA_ne, upA_same, if_true, if_false, Bool.false_eq_true, ra1, rl1, hl, a3, a7]
        refine ih.trans ?_
        simp [e]
      · simp (disch := first | assumption | omega | (simp (disch := omega) only [wN, w0, w1]; omega)) only [e238_0, e238_1, e238_3, e238_4, e238_7, e238_8, e238_9, e238_12, e238_13, e238_14, e238_15, e238_18, e238_21, e238_22, e238_23, e238_24, e238_27, e238_28, e238_31, e238_32, e238_33, e238_36, e238_39, e238_40, kl_I, kl_R, kl_N, kl_L, oSm, oNn, Option.bind_some, wN, if_pos, if_neg, nS, tN, t0, w0, w1, w2, w3, w4, w5, wm1, upA_ne, upA_same, if_true, if_false, Bool.false_eq_true, ra1, rl1, hl, a3, a7]
        simp [e, h3]
    · rw [if_neg h3] at a3
      simp (disch := first | assumption | omega | (simp (disch := omega) only [wN, w0, w1]; omega)) only [e238_0, e238_1, e238_3, e238_4, e238_7, e238_8, e238_9, e238_12, e238_13, e238_14, e238_15, e238_18, e238_21, e238_22, e238_23, e238_24, e238_27, e238_28, e238_31, e238_32, e238_33, e238_36, e238_39, e238_40, kl_I, kl_R, kl_N, kl_L, oSm, oNn, Option.bind_some, wN, if_pos, if_neg, nS, tN, t0, w0, w1, w2, w3, w4, w5, wm1, upA_ne, upA_same, if_true, if_false, Bool.false_eq_true, ra1, rl1, hl, a3]
      refine ih.trans ?_
      simp [h3]) 0 (Nat.zero_le _)
  simp (disch := first | assumption | omega | (simp (disch := omega) only [wN, w0, w1]; omega)) only [e238_0, e238_1, e238_3, e238_4, e238_7, e238_8, e238_9, e238_12, e238_13, e238_14, e238_15, e238_18, e238_21, e238_22, e238_23, e238_24, e238_27, e238_28, e238_31, e238_32, e238_33, e238_36, e238_39, e238_40, kl_I, kl_R, kl_N, kl_L, oSm, oNn, Option.bind_some, wN, if_pos, if_neg, nS, tN, t0, w0, w1, w2, w3, w4, w5, wm1, upA_ne, upA_same, if_true, if_false, Bool.false_eq_true, q238]
  exact F
theorem M239 (hM : MS sh) (hG : HGm σ 0 c) (hc : c.length ≤ 30) (hv : okC n c) (hF : HFm σ m (farE E)) (hm : m ≤ 5) (hq : laI sh q) (hL : HLm σ q n P) (hP : okP n m P) (hn : n ≤ 4) : run sh (d + 2) 239 [mR 124, mR q] σ = some (some (mI (ovS (farE E) P c c.length)), σ) := by
  have mo := hM.1
  have m160 := hM.2.1
  obtain ⟨ra1, rk1, rl1⟩ := ms1 hM
  have hl := hG.1
  have F := for_up (fun i => ev sh (d + 2) 239 4 [some (mR (124)), some (mR (q)), some (mI (ovS (farE E) P c i)), some (mI ((i : Nat) : Int))] [] (σ)) (c.length) (fun i hi => by
    show ev sh (d + 2) 239 4 [some (mR (124)), some (mR (q)), some (mI (ovS (farE E) P c i)), some (mI ((i : Nat) : Int))] [] (σ) = ev sh (d + 2) 239 4 [some (mR (124)), some (mR (q)), some (mI (ovS (farE E) P c (i + 1))), some (mI (((i + 1) : Nat) : Int))] [] (σ)
    have a3 := E173 (d := d) (z := 0) hM hG (by omega) hc hv hi rfl
    have b := ovS_r (P := P) (c := c) (E := E) rfl i
    rw [e239_4, ovS]
    by_cases h3 : 3 ≤ (gA c i).1
    · rw [if_pos h3] at a3
      rw [if_pos h3]
      have a7 := M237 (d := d) hM hG hc hv hF hm hq hL hP hn hi h3
      simp (disch := first | assumption | omega | (simp (disch := omega) only [wN, w0, w1]; omega)) only [e239_0, e239_1, e239_2, e239_3, e239_5, e239_6, e239_9, e239_10, e239_11, e239_14, e239_15, e239_16, e239_17, e239_20, e239_23, e239_24, e239_25, e239_26, e239_27, e239_30, e239_31, e239_32, e239_33, e239_34, e239_37, e239_40, e239_41, kl_I, kl_R, kl_N, kl_L, oSm, oNn, Option.bind_some, wN, if_pos, if_neg, nS, tN, t0, w0, w1, w2, w3, w4, w5, wm1, upA_ne, upA_same, if_true, if_false, Bool.false_eq_true, ra1, rl1, hl, a3, a7, Int.add_sub_assoc]
    · rw [if_neg h3] at a3
      rw [if_neg h3]
      simp (disch := first | assumption | omega | (simp (disch := omega) only [wN, w0, w1]; omega)) only [e239_0, e239_1, e239_2, e239_3, e239_5, e239_6, e239_9, e239_10, e239_11, e239_14, e239_15, e239_16, e239_17, e239_20, e239_23, e239_24, e239_25, e239_26, e239_27, e239_30, e239_31, e239_32, e239_33, e239_34, e239_37, e239_40, e239_41, kl_I, kl_R, kl_N, kl_L, oSm, oNn, Option.bind_some, wN, if_pos, if_neg, nS, tN, t0, w0, w1, w2, w3, w4, w5, wm1, upA_ne, upA_same, if_true, if_false, Bool.false_eq_true, ra1, rl1, hl, a3, Int.add_zero]) 0 (Nat.zero_le _)
  simp (disch := first | assumption | omega | (simp (disch := omega) only [wN, w0, w1]; omega)) only [e239_0, e239_1, e239_2, e239_3, e239_5, e239_6, e239_9, e239_10, e239_11, e239_14, e239_15, e239_16, e239_17, e239_20, e239_23, e239_24, e239_25, e239_26, e239_27, e239_30, e239_31, e239_32, e239_33, e239_34, e239_37, e239_40, e239_41, kl_I, kl_R, kl_N, kl_L, oSm, oNn, Option.bind_some, wN, if_pos, if_neg, nS, tN, t0, w0, w1, w2, w3, w4, w5, wm1, upA_ne, upA_same, if_true, if_false, Bool.false_eq_true, q239]
  refine F.trans ?_
  show ev sh (d + 2) 239 4 [some (mR (124)), some (mR (q)), some (mI (ovS (farE E) P c c.length)), some (mI ((c.length : Nat) : Int))] [] σ = _
  rw [e239_4]
  simp (disch := first | assumption | omega | (simp (disch := omega) only [wN, w0, w1]; omega)) only [e239_0, e239_1, e239_2, e239_3, e239_5, e239_6, e239_9, e239_10, e239_11, e239_14, e239_15, e239_16, e239_17, e239_20, e239_23, e239_24, e239_25, e239_26, e239_27, e239_30, e239_31, e239_32, e239_33, e239_34, e239_37, e239_40, e239_41, kl_I, kl_R, kl_N, kl_L, oSm, oNn, Option.bind_some, wN, if_pos, if_neg, nS, tN, t0, w0, w1, w2, w3, w4, w5, wm1, upA_ne, upA_same, if_true, if_false, Bool.false_eq_true, ra1, rl1, hl]
theorem M240 (hM : MS sh) (hN : σ.1 124 8 = (n : Int)) (hn : n ≤ 4) (hL : HLm σ 129 n P) (hP : okP n m P) (hm : m ≤ 5) (hp : p < 100) : run sh d 240 [mR 124, mI (p : Int)] σ = some (some (mI (if laS P p n = -1 then -2 else laS P p n)), σ) := by
  have mo := hM.1
  have m160 := hM.2.1
  obtain ⟨ra4, rk4, rl4⟩ := ms4 hM
  rcases laS_cases P p n with ⟨e1, e2⟩ | ⟨x, hx, e1, e2⟩
  · rw [if_pos e1]
    have F := for_up (fun i => ev sh d 240 2 [some (mR (124)), some (mI ((p : Nat) : Int)), some (mI ((i : Nat) : Int))] [] (σ)) (n) (fun i hi => by
      show ev sh d 240 2 [some (mR (124)), some (mI ((p : Nat) : Int)), some (mI ((i : Nat) : Int))] [] (σ) = ev sh d 240 2 [some (mR (124)), some (mI ((p : Nat) : Int)), some (mI (((i + 1) : Nat) : Int))] [] (σ)
      have g1 := hL i hi
      have g2 := hP.1 i hi
      have g3 := e2 i hi
      rw [e240_2]
      simp (disch := first | assumption | omega | (simp (disch := omega) only [wN, w0, w1]; omega)) only [e240_0, e240_1, e240_3, e240_4, e240_7, e240_10, e240_11, e240_14, e240_15, e240_16, e240_17, e240_20, e240_21, e240_22, e240_25, e240_28, e240_30, kl_I, kl_R, kl_N, kl_L, oSm, oNn, Option.bind_some, wN, if_pos, if_neg, nS, tN, t0, w0, w1, w2, w3, w4, w5, wm1, upA_ne, upA_same, if_true, if_false, Bool.false_eq_true, hN, ra4, rl4, g1]) 0 (Nat.zero_le _)
    simp (disch := first | assumption | omega | (simp (disch := omega) only [wN, w0, w1]; omega)) only [e240_0, e240_1, e240_3, e240_4, e240_7, e240_10, e240_11, e240_14, e240_15, e240_16, e240_17, e240_20, e240_21, e240_22, e240_25, e240_28, e240_30, kl_I, kl_R, kl_N, kl_L, oSm, oNn, Option.bind_some, wN, if_pos, if_neg, nS, tN, t0, w0, w1, w2, w3, w4, w5, wm1, upA_ne, upA_same, if_true, if_false, Bool.false_eq_true, q240]
    refine F.trans ?_
    rw [e240_2]
    simp (disch := first | assumption | omega | (simp (disch := omega) only [wN, w0, w1]; omega)) only [e240_0, e240_1, e240_3, e240_4, e240_7, e240_10, e240_11, e240_14, e240_15, e240_16, e240_17, e240_20, e240_21, e240_22, e240_25, e240_28, e240_30, kl_I, kl_R, kl_N, kl_L, oSm, oNn, Option.bind_some, wN, if_pos, if_neg, nS, tN, t0, w0, w1, w2, w3, w4, w5, wm1, upA_ne, upA_same, if_true, if_false, Bool.false_eq_true, hN]
  · rw [e1, if_neg (by omega)]
    have F := for_up (fun i => ev sh d 240 2 [some (mR (124)), some (mI ((p : Nat) : Int)), some (mI ((i : Nat) : Int))] [] (σ)) (x) (fun i hi => by
      show ev sh d 240 2 [some (mR (124)), some (mI ((p : Nat) : Int)), some (mI ((i : Nat) : Int))] [] (σ) = ev sh d 240 2 [some (mR (124)), some (mI ((p : Nat) : Int)), some (mI (((i + 1) : Nat) : Int))] [] (σ)
      have g1 := hL i (by omega)
      have g2 := hP.1 i (by omega)
      have g3 : P i ≠ p := fun q => by
        have := hP.2 i x (by omega) hx (by omega)
        omega
      rw [e240_2]
      simp (disch := first | assumption | omega | (simp (disch := omega) only [wN, w0, w1]; omega)) only [e240_0, e240_1, e240_3, e240_4, e240_7, e240_10, e240_11, e240_14, e240_15, e240_16, e240_17, e240_20, e240_21, e240_22, e240_25, e240_28, e240_30, kl_I, kl_R, kl_N, kl_L, oSm, oNn, Option.bind_some, wN, if_pos, if_neg, nS, tN, t0, w0, w1, w2, w3, w4, w5, wm1, upA_ne, upA_same, if_true, if_false, Bool.false_eq_true, hN, ra4, rl4, g1]) 0 (Nat.zero_le _)
    have g1 := hL x hx
    rw [e2] at g1
    simp (disch := first | assumption | omega | (simp (disch := omega) only [wN, w0, w1]; omega)) only [e240_0, e240_1, e240_3, e240_4, e240_7, e240_10, e240_11, e240_14, e240_15, e240_16, e240_17, e240_20, e240_21, e240_22, e240_25, e240_28, e240_30, kl_I, kl_R, kl_N, kl_L, oSm, oNn, Option.bind_some, wN, if_pos, if_neg, nS, tN, t0, w0, w1, w2, w3, w4, w5, wm1, upA_ne, upA_same, if_true, if_false, Bool.false_eq_true, q240]
    refine F.trans ?_
    rw [e240_2]
    simp (disch := first | assumption | omega | (simp (disch := omega) only [wN, w0, w1]; omega)) only [e240_0, e240_1, e240_3, e240_4, e240_7, e240_10, e240_11, e240_14, e240_15, e240_16, e240_17, e240_20, e240_21, e240_22, e240_25, e240_28, e240_30, kl_I, kl_R, kl_N, kl_L, oSm, oNn, Option.bind_some, wN, if_pos, if_neg, nS, tN, t0, w0, w1, w2, w3, w4, w5, wm1, upA_ne, upA_same, if_true, if_false, Bool.false_eq_true, hN, ra4, rl4, g1]
theorem M241 (hM : MS sh) (h : InvM sh σ a) (hw' : i32 w) : End (run sh (d + 3) 241 [mR 124, mI w] σ) (fun r σ' => r = some (mI (aLay a w)) ∧ InvM sh σ' a) := by
  have hI := h
  have mo := hM.1
  have m160 := hM.2.1
  obtain ⟨ra4, rk4, rl4⟩ := ms4 hM
  obtain ⟨⟨n, c, m, E, P, x⟩, K, B, s, T⟩ := a
  obtain ⟨⟨hG, hN, hMp, hEl, hx0, hE, hP, hoS⟩, hik, hKp, hTp, h140, hTm⟩ := id h
  replace hG : HGm σ 0 c := hG
  replace hN : σ.1 124 8 = (n : Int) := hN
  replace hMp : σ.1 124 9 = (m : Int) := hMp
  replace hEl : σ.1 124 10 = (E.length : Int) := hEl
  replace hx0 : σ.1 124 11 = (x : Int) := hx0
  replace hE : HEm σ 127 128 E := hE
  replace hP : ∀ y, y < n → σ.1 129 y = (P y : Int) := hP
  replace hoS : okZ n c m E P x := hoS
  replace hTp : HPm σ B s := hTp
  replace h140 : s ≤ 140 := h140
  replace hTm : HT sh σ 157 T := hTm
  replace hik : σ.1 124 16 = bi K.isSome := hik
  obtain ⟨n1, n4', c30, hv, m2, m5, E10, hvE, hPk, x16⟩ := id hoS
  have ww := hw'.w
  have w20 : wi 20 = 20 := rfl
  have w21 : wi 21 = 21 := rfl
  have i1 := E164 (sh := sh) (d := d + 2) (σ := σ) (z := w) (w := 0) (v := (n : Int) - 1) hw' ⟨by omega, by omega⟩ ⟨by omega, by omega⟩
  have i2 := E164 (sh := sh) (d := d + 2) (σ := σ) (z := w) (w := 10) (v := 9 + (m : Int)) hw' ⟨by omega, by omega⟩ ⟨by omega, by omega⟩
  unfold aLay
  simp only
  have pre : (¬(0 ≤ w ∧ w < n) ∧ ¬(10 ≤ w ∧ w < 10 + m) ∧ w ≠ 20 ∧ w ≠ 21) ∧ run sh (d + 3) 241 [mR 124, mI w] σ = some (some (mI (-1)), σ) ∨ ¬(¬(0 ≤ w ∧ w < n) ∧ ¬(10 ≤ w ∧ w < 10 + m) ∧ w ≠ 20 ∧ w ≠ 21) ∧ run sh (d + 3) 241 [mR 124, mI w] σ = ev sh (d + 3) 241 54 [some (mR (124)), some (mI (w)), some (mI (1))] [] σ := by
    by_cases h1 : 0 ≤ w ∧ w ≤ (n : Int) - 1
    · rw [if_pos h1] at i1
      right
      refine ⟨by omega, ?_⟩
      simp (disch := first | assumption | omega | (simp (disch := omega) only [wN, w0, w1]; omega)) only [e241_0, e241_1, e241_2, e241_3, e241_6, e241_7, e241_8, e241_11, e241_14, e241_15, e241_17, e241_19, e241_20, e241_23, e241_24, e241_27, e241_30, e241_31, e241_33, e241_36, e241_37, e241_39, e241_42, e241_43, e241_46, e241_47, e241_48, e241_49, e241_52, e241_53, e241_55, e241_58, e241_59, e241_62, e241_65, e241_67, e241_68, e241_69, e241_72, e241_73, e241_74, e241_77, e241_78, e241_81, e241_82, e241_83, e241_84, e241_85, e241_87, e241_90, e241_91, e241_92, e241_94, e241_95, e241_98, e241_101, e241_102, e241_104, e241_107, e241_108, e241_109, e241_112, e241_115, e241_118, e241_119, e241_122, e241_123, e241_126, e241_127, e241_128, e241_131, e241_134, kl_I, kl_R, kl_N, kl_L, oSm, oNn, Option.bind_some, wN, if_pos, if_neg, nS, tN, t0, w0, w1, w2, w3, w4, w5, wm1, upA_ne, upA_same, if_true, if_false, Bool.false_eq_true, q241, hN, i1]
    · rw [if_neg h1] at i1
      by_cases h2 : 10 ≤ w ∧ w ≤ 9 + (m : Int)
      · rw [if_pos h2] at i2
        right
        refine ⟨by omega, ?_⟩
        simp (disch := first | assumption | omega | (simp (disch := omega) only [wN, w0, w1]; omega)) only [e241_0, e241_1, e241_2, e241_3, e241_6, e241_7, e241_8, e241_11, e241_14, e241_15, e241_17, e241_19, e241_20, e241_23, e241_24, e241_27, e241_30, e241_31, e241_33, e241_36, e241_37, e241_39, e241_42, e241_43, e241_46, e241_47, e241_48, e241_49, e241_52, e241_53, e241_55, e241_58, e241_59, e241_62, e241_65, e241_67, e241_68, e241_69, e241_72, e241_73, e241_74, e241_77, e241_78, e241_81, e241_82, e241_83, e241_84, e241_85, e241_87, e241_90, e241_91, e241_92, e241_94, e241_95, e241_98, e241_101, e241_102, e241_104, e241_107, e241_108, e241_109, e241_112, e241_115, e241_118, e241_119, e241_122, e241_123, e241_126, e241_127, e241_128, e241_131, e241_134, kl_I, kl_R, kl_N, kl_L, oSm, oNn, Option.bind_some, wN, if_pos, if_neg, nS, tN, t0, w0, w1, w2, w3, w4, w5, wm1, upA_ne, upA_same, if_true, if_false, Bool.false_eq_true, q241, hN, hMp, i1, i2]
      · rw [if_neg h2] at i2
        by_cases h3 : w = 20
        · right
          refine ⟨by omega, ?_⟩
          simp (disch := first | assumption | omega | (simp (disch := omega) only [wN, w0, w1]; omega)) only [e241_0, e241_1, e241_2, e241_3, e241_6, e241_7, e241_8, e241_11, e241_14, e241_15, e241_17, e241_19, e241_20, e241_23, e241_24, e241_27, e241_30, e241_31, e241_33, e241_36, e241_37, e241_39, e241_42, e241_43, e241_46, e241_47, e241_48, e241_49, e241_52, e241_53, e241_55, e241_58, e241_59, e241_62, e241_65, e241_67, e241_68, e241_69, e241_72, e241_73, e241_74, e241_77, e241_78, e241_81, e241_82, e241_83, e241_84, e241_85, e241_87, e241_90, e241_91, e241_92, e241_94, e241_95, e241_98, e241_101, e241_102, e241_104, e241_107, e241_108, e241_109, e241_112, e241_115, e241_118, e241_119, e241_122, e241_123, e241_126, e241_127, e241_128, e241_131, e241_134, kl_I, kl_R, kl_N, kl_L, oSm, oNn, Option.bind_some, wN, if_pos, if_neg, nS, tN, t0, w0, w1, w2, w3, w4, w5, wm1, upA_ne, upA_same, if_true, if_false, Bool.false_eq_true, q241, hN, hMp, i1, i2, ww, w20]
        · by_cases h4 : w = 21
          · right
            refine ⟨by omega, ?_⟩
            simp (disch := first | assumption | omega | (simp (disch := omega) only [wN, w0, w1]; omega)) only [e241_0, e241_1, e241_2, e241_3, e241_6, e241_7, e241_8, e241_11, e241_14, e241_15, e241_17, e241_19, e241_20, e241_23, e241_24, e241_27, e241_30, e241_31, e241_33, e241_36, e241_37, e241_39, e241_42, e241_43, e241_46, e241_47, e241_48, e241_49, e241_52, e241_53, e241_55, e241_58, e241_59, e241_62, e241_65, e241_67, e241_68, e241_69, e241_72, e241_73, e241_74, e241_77, e241_78, e241_81, e241_82, e241_83, e241_84, e241_85, e241_87, e241_90, e241_91, e241_92, e241_94, e241_95, e241_98, e241_101, e241_102, e241_104, e241_107, e241_108, e241_109, e241_112, e241_115, e241_118, e241_119, e241_122, e241_123, e241_126, e241_127, e241_128, e241_131, e241_134, kl_I, kl_R, kl_N, kl_L, oSm, oNn, Option.bind_some, wN, if_pos, if_neg, nS, tN, t0, w0, w1, w2, w3, w4, w5, wm1, upA_ne, upA_same, if_true, if_false, Bool.false_eq_true, q241, hN, hMp, i1, i2, ww, w20, w21]
          · left
            refine ⟨by omega, ?_⟩
            simp (disch := first | assumption | omega | (simp (disch := omega) only [wN, w0, w1]; omega)) only [e241_0, e241_1, e241_2, e241_3, e241_6, e241_7, e241_8, e241_11, e241_14, e241_15, e241_17, e241_19, e241_20, e241_23, e241_24, e241_27, e241_30, e241_31, e241_33, e241_36, e241_37, e241_39, e241_42, e241_43, e241_46, e241_47, e241_48, e241_49, e241_52, e241_53, e241_55, e241_58, e241_59, e241_62, e241_65, e241_67, e241_68, e241_69, e241_72, e241_73, e241_74, e241_77, e241_78, e241_81, e241_82, e241_83, e241_84, e241_85, e241_87, e241_90, e241_91, e241_92, e241_94, e241_95, e241_98, e241_101, e241_102, e241_104, e241_107, e241_108, e241_109, e241_112, e241_115, e241_118, e241_119, e241_122, e241_123, e241_126, e241_127, e241_128, e241_131, e241_134, kl_I, kl_R, kl_N, kl_L, oSm, oNn, Option.bind_some, wN, if_pos, if_neg, nS, tN, t0, w0, w1, w2, w3, w4, w5, wm1, upA_ne, upA_same, if_true, if_false, Bool.false_eq_true, q241, hN, hMp, i1, i2, ww, w20, w21]
  rcases pre with ⟨g1, g2⟩ | ⟨g1, g2⟩
  · rw [if_pos g1]
    exact End.of g2 ⟨rfl, hI⟩
  · rw [if_neg g1]
    refine End.cg g2 ?_
    clear i1 i2 g2
    rw [e241_54]
    by_cases hmn : m < n
    · rw [if_pos hmn]
      simp (disch := first | assumption | omega | (simp (disch := omega) only [wN, w0, w1]; omega)) only [e241_0, e241_1, e241_2, e241_3, e241_6, e241_7, e241_8, e241_11, e241_14, e241_15, e241_17, e241_19, e241_20, e241_23, e241_24, e241_27, e241_30, e241_31, e241_33, e241_36, e241_37, e241_39, e241_42, e241_43, e241_46, e241_47, e241_48, e241_49, e241_52, e241_53, e241_55, e241_58, e241_59, e241_62, e241_65, e241_67, e241_68, e241_69, e241_72, e241_73, e241_74, e241_77, e241_78, e241_81, e241_82, e241_83, e241_84, e241_85, e241_87, e241_90, e241_91, e241_92, e241_94, e241_95, e241_98, e241_101, e241_102, e241_104, e241_107, e241_108, e241_109, e241_112, e241_115, e241_118, e241_119, e241_122, e241_123, e241_126, e241_127, e241_128, e241_131, e241_134, kl_I, kl_R, kl_N, kl_L, oSm, oNn, Option.bind_some, wN, if_pos, if_neg, nS, tN, t0, w0, w1, w2, w3, w4, w5, wm1, upA_ne, upA_same, if_true, if_false, Bool.false_eq_true, hN, hMp]
      exact End.of rfl ⟨rfl, hI⟩
    · rw [if_neg hmn]
      obtain ⟨r, σ1, a1, rfl, a2, a3⟩ := M232 (d := d + 1) hM hMp hEl hE hvE m5 E10
      have hI1 := hI.W a3 (by omega) (by omega) (by omega)
      obtain ⟨⟨hG1, hN1, hMp1, hEl1, hx1, hE1, hP1, hoS1⟩, _⟩ := id hI1
      replace hG1 : HGm σ1 0 c := hG1
      replace hN1 : σ1.1 124 8 = (n : Int) := hN1
      replace hP1 : HLm σ1 129 n P := hP1
      have hPk2 := hPk (by omega)
      have hq : laI sh 129 := ⟨rk4, rl4⟩
      by_cases h1 : 0 ≤ w ∧ w < n
      · rw [if_pos h1]
        obtain ⟨k, rfl⟩ : ∃ k : Nat, w = (k : Int) := ⟨w.toNat, by omega⟩
        have g := hP1 k (by omega)
        simp (disch := first | assumption | omega | (simp (disch := omega) only [wN, w0, w1]; omega)) only [e241_0, e241_1, e241_2, e241_3, e241_6, e241_7, e241_8, e241_11, e241_14, e241_15, e241_17, e241_19, e241_20, e241_23, e241_24, e241_27, e241_30, e241_31, e241_33, e241_36, e241_37, e241_39, e241_42, e241_43, e241_46, e241_47, e241_48, e241_49, e241_52, e241_53, e241_55, e241_58, e241_59, e241_62, e241_65, e241_67, e241_68, e241_69, e241_72, e241_73, e241_74, e241_77, e241_78, e241_81, e241_82, e241_83, e241_84, e241_85, e241_87, e241_90, e241_91, e241_92, e241_94, e241_95, e241_98, e241_101, e241_102, e241_104, e241_107, e241_108, e241_109, e241_112, e241_115, e241_118, e241_119, e241_122, e241_123, e241_126, e241_127, e241_128, e241_131, e241_134, kl_I, kl_R, kl_N, kl_L, oSm, oNn, Option.bind_some, wN, if_pos, if_neg, nS, tN, t0, w0, w1, w2, w3, w4, w5, wm1, upA_ne, upA_same, if_true, if_false, Bool.false_eq_true, hN, hMp, a1, ra4, rl4, g]
        exact End.of rfl ⟨by simp, hI1⟩
      · rw [if_neg h1]
        by_cases h2 : 10 ≤ w ∧ w < 10 + m
        · rw [if_pos h2]
          obtain ⟨k, hk⟩ : ∃ k : Nat, w - 10 = (k : Int) := ⟨(w - 10).toNat, by omega⟩
          have e := M240 (d := d + 2) (p := k) hM hN1 n4' hP1 hPk2 m5 (by omega)
          rw [hk, Int.toNat_natCast]
          simp (disch := first | assumption | omega | (simp (disch := omega) only [wN, w0, w1]; omega)) only [e241_0, e241_1, e241_2, e241_3, e241_6, e241_7, e241_8, e241_11, e241_14, e241_15, e241_17, e241_19, e241_20, e241_23, e241_24, e241_27, e241_30, e241_31, e241_33, e241_36, e241_37, e241_39, e241_42, e241_43, e241_46, e241_47, e241_48, e241_49, e241_52, e241_53, e241_55, e241_58, e241_59, e241_62, e241_65, e241_67, e241_68, e241_69, e241_72, e241_73, e241_74, e241_77, e241_78, e241_81, e241_82, e241_83, e241_84, e241_85, e241_87, e241_90, e241_91, e241_92, e241_94, e241_95, e241_98, e241_101, e241_102, e241_104, e241_107, e241_108, e241_109, e241_112, e241_115, e241_118, e241_119, e241_122, e241_123, e241_126, e241_127, e241_128, e241_131, e241_134, kl_I, kl_R, kl_N, kl_L, oSm, oNn, Option.bind_some, wN, if_pos, if_neg, nS, tN, t0, w0, w1, w2, w3, w4, w5, wm1, upA_ne, upA_same, if_true, if_false, Bool.false_eq_true, hN, hMp, a1, ww, w20, hk, e]
          exact End.of rfl ⟨rfl, hI1⟩
        · rw [if_neg h2]
          rcases (show w = 20 ∨ w = 21 by omega) with rfl | rfl
          · have e := M238 (d := d) hM hG1 c30 hv a2 m5 hq hP1 hPk2 n4'
            rw [if_pos rfl]
            by_cases g : gdB (farE E) P c (c.length - 0) 0 = true
            · rw [if_pos g] at e
              rw [if_pos g]
              simp (disch := first | assumption | omega | (simp (disch := omega) only [wN, w0, w1]; omega)) only [e241_0, e241_1, e241_2, e241_3, e241_6, e241_7, e241_8, e241_11, e241_14, e241_15, e241_17, e241_19, e241_20, e241_23, e241_24, e241_27, e241_30, e241_31, e241_33, e241_36, e241_37, e241_39, e241_42, e241_43, e241_46, e241_47, e241_48, e241_49, e241_52, e241_53, e241_55, e241_58, e241_59, e241_62, e241_65, e241_67, e241_68, e241_69, e241_72, e241_73, e241_74, e241_77, e241_78, e241_81, e241_82, e241_83, e241_84, e241_85, e241_87, e241_90, e241_91, e241_92, e241_94, e241_95, e241_98, e241_101, e241_102, e241_104, e241_107, e241_108, e241_109, e241_112, e241_115, e241_118, e241_119, e241_122, e241_123, e241_126, e241_127, e241_128, e241_131, e241_134, kl_I, kl_R, kl_N, kl_L, oSm, oNn, Option.bind_some, wN, if_pos, if_neg, nS, tN, t0, w0, w1, w2, w3, w4, w5, wm1, upA_ne, upA_same, if_true, if_false, Bool.false_eq_true, hN, hMp, a1, w20, e, ra4, rl4]
              exact End.of rfl ⟨rfl, hI1⟩
            · rw [if_neg g] at e
              rw [if_neg g]
              simp (disch := first | assumption | omega | (simp (disch := omega) only [wN, w0, w1]; omega)) only [e241_0, e241_1, e241_2, e241_3, e241_6, e241_7, e241_8, e241_11, e241_14, e241_15, e241_17, e241_19, e241_20, e241_23, e241_24, e241_27, e241_30, e241_31, e241_33, e241_36, e241_37, e241_39, e241_42, e241_43, e241_46, e241_47, e241_48, e241_49, e241_52, e241_53, e241_55, e241_58, e241_59, e241_62, e241_65, e241_67, e241_68, e241_69, e241_72, e241_73, e241_74, e241_77, e241_78, e241_81, e241_82, e241_83, e241_84, e241_85, e241_87, e241_90, e241_91, e241_92, e241_94, e241_95, e241_98, e241_101, e241_102, e241_104, e241_107, e241_108, e241_109, e241_112, e241_115, e241_118, e241_119, e241_122, e241_123, e241_126, e241_127, e241_128, e241_131, e241_134, kl_I, kl_R, kl_N, kl_L, oSm, oNn, Option.bind_some, wN, if_pos, if_neg, nS, tN, t0, w0, w1, w2, w3, w4, w5, wm1, upA_ne, upA_same, if_true, if_false, Bool.false_eq_true, hN, hMp, a1, w20, e, ra4, rl4]
              exact End.of rfl ⟨rfl, hI1⟩
          · have e := M239 (d := d) hM hG1 c30 hv a2 m5 hq hP1 hPk2 n4'
            rw [if_neg (by omega)]
            simp (disch := first | assumption | omega | (simp (disch := omega) only [wN, w0, w1]; omega)) only [e241_0, e241_1, e241_2, e241_3, e241_6, e241_7, e241_8, e241_11, e241_14, e241_15, e241_17, e241_19, e241_20, e241_23, e241_24, e241_27, e241_30, e241_31, e241_33, e241_36, e241_37, e241_39, e241_42, e241_43, e241_46, e241_47, e241_48, e241_49, e241_52, e241_53, e241_55, e241_58, e241_59, e241_62, e241_65, e241_67, e241_68, e241_69, e241_72, e241_73, e241_74, e241_77, e241_78, e241_81, e241_82, e241_83, e241_84, e241_85, e241_87, e241_90, e241_91, e241_92, e241_94, e241_95, e241_98, e241_101, e241_102, e241_104, e241_107, e241_108, e241_109, e241_112, e241_115, e241_118, e241_119, e241_122, e241_123, e241_126, e241_127, e241_128, e241_131, e241_134, kl_I, kl_R, kl_N, kl_L, oSm, oNn, Option.bind_some, wN, if_pos, if_neg, nS, tN, t0, w0, w1, w2, w3, w4, w5, wm1, upA_ne, upA_same, if_true, if_false, Bool.false_eq_true, hN, hMp, a1, w20, w21, e, ra4, rl4]
            exact End.of rfl ⟨rfl, hI1⟩
end NL

