/-! ===== the reference: greatestFar, edgesAt, boardIs, far ===== -/
theorem gr_all {F : Nat → Nat → Nat} (hs : ∀ p q, F p q = F q p) (h0 : ∀ p, F p p = 0) (m : Nat) : mxx (fun t => mxx (F t) m) m = grS F m := by
  apply Nat.le_antisymm
  · refine mxx_le m fun p hp => mxx_le m fun q hq => ?_
    unfold grS
    rcases Nat.lt_trichotomy p q with h | h | h
    · rw [hs]
      exact Nat.le_trans (mxx_ge (f := F q) q p h) (mxx_ge (f := fun t => mxx (F t) t) m q hq)
    · rw [h, h0]; exact Nat.zero_le _
    · exact Nat.le_trans (mxx_ge (f := F p) p q h) (mxx_ge (f := fun t => mxx (F t) t) m p hp)
  · unfold grS
    refine mxx_le m fun p hp => mxx_le p fun q hq => ?_
    exact Nat.le_trans (mxx_ge (f := F p) m q (by omega)) (mxx_ge (f := fun t => mxx (F t) m) m p hp)
theorem farE_0 (E : List Ed) (p : Nat) : farE E p p = 0 := fwK_d (f0_d E) 5 p
section NK
variable {sh : Shp} {d m x : Nat} {σ : Mem} {E : List Ed} {a : AX} {z w : Int}
theorem M233 (hM : MS sh) (hMp : σ.1 124 9 = (m : Int)) (hm : m ≤ 5) (hF : HFm σ m (farE E)) : run sh (d + 1) 233 [mR 124] σ = some (some (mI (grS (farE E) m : Int)), σ) := by
  have mo := hM.1
  have m160 := hM.2.1
  obtain ⟨ra39, rk39, rl39⟩ := ms39 hM
  have b1 : ∀ k i, mxx (farE E k) i ≤ 99 := fun k i => mxx_le i fun q _ => farE_le E k q
  have b2 : ∀ i, mxx (fun t => mxx (farE E t) m) i ≤ 99 := fun i => mxx_le i fun q _ => b1 q m
  have L := for_P (m) (fun i => ∀ v3 : Option MV, ev sh (d + 1) 233 4 [some (mR (124)), some (mI ((mxx (fun t => mxx (farE E t) m) i : Nat) : Int)), some (mI ((i : Nat) : Int)), v3] [] (σ) = some (some (mI (grS (farE E) m : Int)), σ)) (by
    intro v3
    show ev sh (d + 1) 233 4 [some (mR (124)), some (mI ((mxx (fun t => mxx (farE E t) m) (m) : Nat) : Int)), some (mI (((m) : Nat) : Int)), v3] [] (σ) = some (some (mI (grS (farE E) m : Int)), σ)
    rw [e233_4]
    simp (disch := first | assumption | omega | (simp (disch := omega) only [wN, w0, w1]; omega)) only [e233_0, e233_1, e233_2, e233_3, e233_5, e233_6, e233_9, e233_12, e233_13, e233_15, e233_16, e233_19, e233_22, e233_23, e233_24, e233_27, e233_29, e233_30, e233_31, e233_32, e233_33, e233_34, e233_37, e233_38, e233_41, e233_44, e233_47, e233_50, e233_51, kl_I, kl_R, kl_N, kl_L, oSm, oNn, Option.bind_some, wN, if_pos, if_neg, nS, tN, t0, w0, w1, w2, w3, w4, w5, wm1, upA_ne, upA_same, if_true, if_false, Bool.false_eq_true, hMp]
    rw [gr_all (farE_sy E) (farE_0 E)]) (fun i hi ih => by
    replace ih : ∀ v3 : Option MV, ev sh (d + 1) 233 4 [some (mR (124)), some (mI ((mxx (fun t => mxx (farE E t) m) (i + 1) : Nat) : Int)), some (mI (((i + 1) : Nat) : Int)), v3] [] (σ) = some (some (mI (grS (farE E) m : Int)), σ) := ih
    intro v3
    show ev sh (d + 1) 233 4 [some (mR (124)), some (mI ((mxx (fun t => mxx (farE E t) m) i : Nat) : Int)), some (mI ((i : Nat) : Int)), v3] [] (σ) = some (some (mI (grS (farE E) m : Int)), σ)
    have hi0 := hi
    have I := for_up (fun j => ev sh (d + 1) 233 14 [some (mR (124)), some (mI ((max (mxx (fun t => mxx (farE E t) m) i) (mxx (farE E i) j) : Nat) : Int)), some (mI ((i : Nat) : Int)), some (mI ((j : Nat) : Int))] [] (σ)) (m) (fun j hi => by
      show ev sh (d + 1) 233 14 [some (mR (124)), some (mI ((max (mxx (fun t => mxx (farE E t) m) i) (mxx (farE E i) j) : Nat) : Int)), some (mI ((i : Nat) : Int)), some (mI ((j : Nat) : Int))] [] (σ) = ev sh (d + 1) 233 14 [some (mR (124)), some (mI ((max (mxx (fun t => mxx (farE E t) m) i) (mxx (farE E i) (j + 1)) : Nat) : Int)), some (mI ((i : Nat) : Int)), some (mI (((j + 1) : Nat) : Int))] [] (σ)
      have g1 := (hF i hi0 j hi).1
      have f1 := b1 i j
      have f2 := b2 i
      have f3 := farE_le E i j
      have e6 := E166n (sh := sh) (d := d) (σ := σ) (p := max (mxx (fun t => mxx (farE E t) m) i) (mxx (farE E i) j)) (q := farE E i j) (by omega) (by omega)
      have em : max (max (mxx (fun t => mxx (farE E t) m) i) (mxx (farE E i) j)) (farE E i j) = max (mxx (fun t => mxx (farE E t) m) i) (mxx (farE E i) (j + 1)) := by
        rw [show mxx (farE E i) (j + 1) = max (mxx (farE E i) j) (farE E i j) from rfl]
        omega
      rw [em] at e6
      rw [e233_14]
      simp (disch := first | assumption | omega | (simp (disch := omega) only [wN, w0, w1]; omega)) only [e233_0, e233_1, e233_2, e233_3, e233_5, e233_6, e233_9, e233_12, e233_13, e233_15, e233_16, e233_19, e233_22, e233_23, e233_24, e233_27, e233_29, e233_30, e233_31, e233_32, e233_33, e233_34, e233_37, e233_38, e233_41, e233_44, e233_47, e233_50, e233_51, kl_I, kl_R, kl_N, kl_L, oSm, oNn, Option.bind_some, wN, if_pos, if_neg, nS, tN, t0, w0, w1, w2, w3, w4, w5, wm1, upA_ne, upA_same, if_true, if_false, Bool.false_eq_true, hMp, ra39, rl39, n6, ← Int.natCast_add, g1, e6]) 0 (Nat.zero_le _)
    have e0 : max (mxx (fun t => mxx (farE E t) m) i) (mxx (farE E i) 0) = mxx (fun t => mxx (farE E t) m) i := Nat.max_eq_left (Nat.zero_le _)
    rw [e0] at I
    rw [e233_4]
    simp (disch := first | assumption | omega | (simp (disch := omega) only [wN, w0, w1]; omega)) only [e233_0, e233_1, e233_2, e233_3, e233_5, e233_6, e233_9, e233_12, e233_13, e233_15, e233_16, e233_19, e233_22, e233_23, e233_24, e233_27, e233_29, e233_30, e233_31, e233_32, e233_33, e233_34, e233_37, e233_38, e233_41, e233_44, e233_47, e233_50, e233_51, kl_I, kl_R, kl_N, kl_L, oSm, oNn, Option.bind_some, wN, if_pos, if_neg, nS, tN, t0, w0, w1, w2, w3, w4, w5, wm1, upA_ne, upA_same, if_true, if_false, Bool.false_eq_true, hMp]
    refine I.trans ?_
    have e1 : max (mxx (fun t => mxx (farE E t) m) i) (mxx (farE E i) m) = mxx (fun t => mxx (farE E t) m) (i + 1) := rfl
    show ev sh (d + 1) 233 14 [some (mR (124)), some (mI ((max (mxx (fun t => mxx (farE E t) m) i) (mxx (farE E i) m) : Nat) : Int)), some (mI ((i : Nat) : Int)), some (mI ((m : Nat) : Int))] [] σ = _
    rw [e1, e233_14]
    simp (disch := first | assumption | omega | (simp (disch := omega) only [wN, w0, w1]; omega)) only [e233_0, e233_1, e233_2, e233_3, e233_5, e233_6, e233_9, e233_12, e233_13, e233_15, e233_16, e233_19, e233_22, e233_23, e233_24, e233_27, e233_29, e233_30, e233_31, e233_32, e233_33, e233_34, e233_37, e233_38, e233_41, e233_44, e233_47, e233_50, e233_51, kl_I, kl_R, kl_N, kl_L, oSm, oNn, Option.bind_some, wN, if_pos, if_neg, nS, tN, t0, w0, w1, w2, w3, w4, w5, wm1, upA_ne, upA_same, if_true, if_false, Bool.false_eq_true, hMp]
    exact ih _) 0 (Nat.zero_le _)
  simp (disch := first | assumption | omega | (simp (disch := omega) only [wN, w0, w1]; omega)) only [e233_0, e233_1, e233_2, e233_3, e233_5, e233_6, e233_9, e233_12, e233_13, e233_14, e233_15, e233_16, e233_19, e233_22, e233_23, e233_24, e233_27, e233_29, e233_30, e233_31, e233_32, e233_33, e233_34, e233_37, e233_38, e233_41, e233_44, e233_47, e233_50, e233_51, kl_I, kl_R, kl_N, kl_L, oSm, oNn, Option.bind_some, wN, if_pos, if_neg, nS, tN, t0, w0, w1, w2, w3, w4, w5, wm1, upA_ne, upA_same, if_true, if_false, Bool.false_eq_true, q233]
  exact L _
theorem M234 (hM : MS sh) (hEl : σ.1 124 10 = (E.length : Int)) (hE : HEm σ 127 128 E) (hv : okE m E) (hm : m ≤ 5) (h10 : E.length ≤ 10) (hx : x < 100) : run sh d 234 [mR 124, mI (x : Int)] σ = some (some (mI (cnt (fun j => decide ((eA E j).1 = x ∨ (eA E j).2 = x)) E.length : Int)), σ) := by
  have mo := hM.1
  have m160 := hM.2.1
  obtain ⟨ra2, rk2, rl2⟩ := ms2 hM
  obtain ⟨ra3, rk3, rl3⟩ := ms3 hM
  have F := for_up (fun i => ev sh d 234 4 [some (mR (124)), some (mI ((x : Nat) : Int)), some (mI ((cnt (fun j => decide ((eA E j).1 = x ∨ (eA E j).2 = x)) i : Nat) : Int)), some (mI ((i : Nat) : Int))] [] (σ)) (E.length) (fun i hi => by
    show ev sh d 234 4 [some (mR (124)), some (mI ((x : Nat) : Int)), some (mI ((cnt (fun j => decide ((eA E j).1 = x ∨ (eA E j).2 = x)) i : Nat) : Int)), some (mI ((i : Nat) : Int))] [] (σ) = ev sh d 234 4 [some (mR (124)), some (mI ((x : Nat) : Int)), some (mI ((cnt (fun j => decide ((eA E j).1 = x ∨ (eA E j).2 = x)) (i + 1) : Nat) : Int)), some (mI (((i + 1) : Nat) : Int))] [] (σ)
    obtain ⟨g1, g2⟩ := hE i hi
    have k := hv.at hi
    have b := cnt_le (fun j => decide ((eA E j).1 = x ∨ (eA E j).2 = x)) i
    have es : cnt (fun j => decide ((eA E j).1 = x ∨ (eA E j).2 = x)) (i + 1) = cnt (fun j => decide ((eA E j).1 = x ∨ (eA E j).2 = x)) i + if decide ((eA E i).1 = x ∨ (eA E i).2 = x) = true then 1 else 0 := rfl
    rw [e234_4, es]
    by_cases e1 : (eA E i).1 = x
    · rw [if_pos (decide_eq_true (Or.inl e1))]
      rw [e1] at g1
      simp (disch := first | assumption | omega | (simp (disch := omega) only [wN, w0, w1]; omega)) only [e234_0, e234_1, e234_2, e234_3, e234_5, e234_6, e234_9, e234_12, e234_13, e234_16, e234_17, e234_18, e234_19, e234_22, e234_23, e234_26, e234_27, e234_28, e234_29, e234_32, e234_33, e234_34, e234_35, e234_36, e234_39, e234_42, e234_43, kl_I, kl_R, kl_N, kl_L, oSm, oNn, Option.bind_some, wN, if_pos, if_neg, nS, tN, t0, w0, w1, w2, w3, w4, w5, wm1, upA_ne, upA_same, if_true, if_false, Bool.false_eq_true, hEl, ra2, rl2, ra3, rl3, g1]
    · by_cases e2 : (eA E i).2 = x
      · rw [if_pos (decide_eq_true (Or.inr e2))]
        rw [e2] at g2
        simp (disch := first | assumption | omega | (simp (disch := omega) only [wN, w0, w1]; omega)) only [e234_0, e234_1, e234_2, e234_3, e234_5, e234_6, e234_9, e234_12, e234_13, e234_16, e234_17, e234_18, e234_19, e234_22, e234_23, e234_26, e234_27, e234_28, e234_29, e234_32, e234_33, e234_34, e234_35, e234_36, e234_39, e234_42, e234_43, kl_I, kl_R, kl_N, kl_L, oSm, oNn, Option.bind_some, wN, if_pos, if_neg, nS, tN, t0, w0, w1, w2, w3, w4, w5, wm1, upA_ne, upA_same, if_true, if_false, Bool.false_eq_true, hEl, ra2, rl2, ra3, rl3, g1, g2]
      · rw [if_neg (by simp [e1, e2])]
        simp (disch := first | assumption | omega | (simp (disch := omega) only [wN, w0, w1]; omega)) only [e234_0, e234_1, e234_2, e234_3, e234_5, e234_6, e234_9, e234_12, e234_13, e234_16, e234_17, e234_18, e234_19, e234_22, e234_23, e234_26, e234_27, e234_28, e234_29, e234_32, e234_33, e234_34, e234_35, e234_36, e234_39, e234_42, e234_43, kl_I, kl_R, kl_N, kl_L, oSm, oNn, Option.bind_some, wN, if_pos, if_neg, nS, tN, t0, w0, w1, w2, w3, w4, w5, wm1, upA_ne, upA_same, if_true, if_false, Bool.false_eq_true, hEl, ra2, rl2, ra3, rl3, g1, g2, Nat.add_zero]) 0 (Nat.zero_le _)
  have b := cnt_le (fun j => decide ((eA E j).1 = x ∨ (eA E j).2 = x)) E.length
  simp (disch := first | assumption | omega | (simp (disch := omega) only [wN, w0, w1]; omega)) only [e234_0, e234_1, e234_2, e234_3, e234_5, e234_6, e234_9, e234_12, e234_13, e234_16, e234_17, e234_18, e234_19, e234_22, e234_23, e234_26, e234_27, e234_28, e234_29, e234_32, e234_33, e234_34, e234_35, e234_36, e234_39, e234_42, e234_43, kl_I, kl_R, kl_N, kl_L, oSm, oNn, Option.bind_some, wN, if_pos, if_neg, nS, tN, t0, w0, w1, w2, w3, w4, w5, wm1, upA_ne, upA_same, if_true, if_false, Bool.false_eq_true, q234]
  refine F.trans ?_
  show ev sh d 234 4 [some (mR (124)), some (mI ((x : Nat) : Int)), some (mI ((cnt (fun j => decide ((eA E j).1 = x ∨ (eA E j).2 = x)) E.length : Nat) : Int)), some (mI ((E.length : Nat) : Int))] [] σ = _
  rw [e234_4]
  simp (disch := first | assumption | omega | (simp (disch := omega) only [wN, w0, w1]; omega)) only [e234_0, e234_1, e234_2, e234_3, e234_5, e234_6, e234_9, e234_12, e234_13, e234_16, e234_17, e234_18, e234_19, e234_22, e234_23, e234_26, e234_27, e234_28, e234_29, e234_32, e234_33, e234_34, e234_35, e234_36, e234_39, e234_42, e234_43, kl_I, kl_R, kl_N, kl_L, oSm, oNn, Option.bind_some, wN, if_pos, if_neg, nS, tN, t0, w0, w1, w2, w3, w4, w5, wm1, upA_ne, upA_same, if_true, if_false, Bool.false_eq_true, hEl]
theorem M235 (hM : MS sh) (h : InvM sh σ a) (hw' : i32 w) : End (run sh (d + 2) 235 [mR 124, mI w] σ) (fun r σ' => r = some (mI (aBIs a w)) ∧ InvM sh σ' a) := by
  have hI := h
  have mo := hM.1
  have m160 := hM.2.1
  obtain ⟨ra2, rk2, rl2⟩ := ms2 hM
  obtain ⟨ra3, rk3, rl3⟩ := ms3 hM
  obtain ⟨⟨n, c, m, E, P, x⟩, K, B, s, T⟩ := a
  obtain ⟨⟨hG, hN, hMp, hEl, hx0, hE, hP, hoS⟩, hik, hKp, hTp, h140, hTm⟩ := id h
  replace hG : HGm σ 0 c := hG
  replace hN : σ.1 124 8 = (n : Int) := hN
  replace hMp : σ.1 124 9 = (m : Int) := hMp
  replace hEl : σ.1 124 10 = (E.length : Int) := hEl
  replace hx0 : σ.1 124 11 = (x : Int) := hx0
  replace hE : HEm σ 127 128 E := hE
  replace hP : ∀ y, y < n → σ.1 129 y = (P y : Int) := hP
  replace hoS : okZ n c m E P x := hoS
  replace hTp : HPm σ B s := hTp
  replace h140 : s ≤ 140 := h140
  replace hTm : HT sh σ 157 T := hTm
  replace hik : σ.1 124 16 = bi K.isSome := hik
  obtain ⟨n1, n4', c30, hv, m2, m5, E10, hvE, hPk, x16⟩ := id hoS
  have ww := hw'.w
  have i1 := E164 (sh := sh) (d := d + 1) (σ := σ) (z := w) (w := 10) (v := 9 + (E.length : Int)) hw' ⟨by omega, by omega⟩ ⟨by omega, by omega⟩
  have i2 := E164 (sh := sh) (d := d + 1) (σ := σ) (z := w) (w := 20) (v := 19 + (E.length : Int)) hw' ⟨by omega, by omega⟩ ⟨by omega, by omega⟩
  have i3 := E164 (sh := sh) (d := d + 1) (σ := σ) (z := w) (w := 30) (v := 29 + (m : Int)) hw' ⟨by omega, by omega⟩ ⟨by omega, by omega⟩
  unfold aBIs
  simp only
  by_cases h1 : 10 ≤ w ∧ w ≤ 9 + (E.length : Int)
  · rw [if_pos h1] at i1
    rw [if_neg (by omega), if_neg (by omega), if_neg (by omega), if_neg (by omega), if_pos (by omega)]
    obtain ⟨k, hk⟩ : ∃ k : Nat, w - 10 = (k : Int) := ⟨(w - 10).toNat, by omega⟩
    have g1 := (hE k (by omega)).1
    simp (disch := first | assumption | omega | (simp (disch := omega) only [wN, w0, w1]; omega)) only [e235_0, e235_1, e235_3, e235_5, e235_6, e235_9, e235_10, e235_13, e235_16, e235_17, e235_20, e235_21, e235_23, e235_24, e235_25, e235_26, e235_27, e235_29, e235_31, e235_32, e235_35, e235_36, e235_39, e235_42, e235_43, e235_46, e235_47, e235_49, e235_50, e235_51, e235_52, e235_53, e235_55, e235_57, e235_58, e235_61, e235_62, e235_65, e235_68, e235_69, e235_70, e235_72, e235_73, e235_76, e235_77, e235_78, e235_81, e235_82_d, e235_82_0, e235_82_1, e235_82_2, e235_82_3, e235_112, e235_113, e235_116, e235_117, e235_118, e235_121, e235_122, e235_123, e235_126, e235_127, e235_128, e235_131, e235_133, e235_136, e235_137, e235_140, e235_141, e235_142, e235_143, kl_I, kl_R, kl_N, kl_L, oSm, oNn, Option.bind_some, wN, if_pos, if_neg, nS, tN, t0, w0, w1, w2, w3, w4, w5, wm1, upA_ne, upA_same, if_true, if_false, Bool.false_eq_true, q235, hEl, i1, ra2, rl2, hk, g1]
    exact End.of rfl ⟨by simp, hI⟩
  · rw [if_neg h1] at i1
    by_cases h2 : 20 ≤ w ∧ w ≤ 19 + (E.length : Int)
    · rw [if_pos h2] at i2
      rw [if_neg (by omega), if_neg (by omega), if_neg (by omega), if_neg (by omega), if_neg (by omega), if_pos (by omega)]
      obtain ⟨k, hk⟩ : ∃ k : Nat, w - 20 = (k : Int) := ⟨(w - 20).toNat, by omega⟩
      have g1 := (hE k (by omega)).2
      simp (disch := first | assumption | omega | (simp (disch := omega) only [wN, w0, w1]; omega)) only [e235_0, e235_1, e235_3, e235_5, e235_6, e235_9, e235_10, e235_13, e235_16, e235_17, e235_20, e235_21, e235_23, e235_24, e235_25, e235_26, e235_27, e235_29, e235_31, e235_32, e235_35, e235_36, e235_39, e235_42, e235_43, e235_46, e235_47, e235_49, e235_50, e235_51, e235_52, e235_53, e235_55, e235_57, e235_58, e235_61, e235_62, e235_65, e235_68, e235_69, e235_70, e235_72, e235_73, e235_76, e235_77, e235_78, e235_81, e235_82_d, e235_82_0, e235_82_1, e235_82_2, e235_82_3, e235_112, e235_113, e235_116, e235_117, e235_118, e235_121, e235_122, e235_123, e235_126, e235_127, e235_128, e235_131, e235_133, e235_136, e235_137, e235_140, e235_141, e235_142, e235_143, kl_I, kl_R, kl_N, kl_L, oSm, oNn, Option.bind_some, wN, if_pos, if_neg, nS, tN, t0, w0, w1, w2, w3, w4, w5, wm1, upA_ne, upA_same, if_true, if_false, Bool.false_eq_true, q235, hEl, i1, i2, ra3, rl3, hk, g1]
      exact End.of rfl ⟨by simp, hI⟩
    · rw [if_neg h2] at i2
      by_cases h3 : 30 ≤ w ∧ w ≤ 29 + (m : Int)
      · rw [if_pos h3] at i3
        rw [if_neg (by omega), if_neg (by omega), if_neg (by omega), if_neg (by omega), if_neg (by omega), if_neg (by omega), if_pos (by omega)]
        obtain ⟨k, hk⟩ : ∃ k : Nat, w - 30 = (k : Int) := ⟨(w - 30).toNat, by omega⟩
        have e := M234 (d := d + 1) (x := k) hM hEl hE hvE m5 E10 (by omega)
        simp (disch := first | assumption | omega | (simp (disch := omega) only [wN, w0, w1]; omega)) only [e235_0, e235_1, e235_3, e235_5, e235_6, e235_9, e235_10, e235_13, e235_16, e235_17, e235_20, e235_21, e235_23, e235_24, e235_25, e235_26, e235_27, e235_29, e235_31, e235_32, e235_35, e235_36, e235_39, e235_42, e235_43, e235_46, e235_47, e235_49, e235_50, e235_51, e235_52, e235_53, e235_55, e235_57, e235_58, e235_61, e235_62, e235_65, e235_68, e235_69, e235_70, e235_72, e235_73, e235_76, e235_77, e235_78, e235_81, e235_82_d, e235_82_0, e235_82_1, e235_82_2, e235_82_3, e235_112, e235_113, e235_116, e235_117, e235_118, e235_121, e235_122, e235_123, e235_126, e235_127, e235_128, e235_131, e235_133, e235_136, e235_137, e235_140, e235_141, e235_142, e235_143, kl_I, kl_R, kl_N, kl_L, oSm, oNn, Option.bind_some, wN, if_pos, if_neg, nS, tN, t0, w0, w1, w2, w3, w4, w5, wm1, upA_ne, upA_same, if_true, if_false, Bool.false_eq_true, q235, hEl, hMp, i1, i2, i3, hk, e]
        exact End.of rfl ⟨by simp, hI⟩
      · rw [if_neg h3] at i3
        obtain ⟨r, σ1, a1, rfl, a2, a3⟩ := M232 (d := d) hM hMp hEl hE hvE m5 E10
        have hI1 := hI.W a3 (by omega) (by omega) (by omega)
        have hMp1 : σ1.1 124 9 = (m : Int) := by rw [a3.2 9 (by omega)]; exact hMp
        have hEl1 : σ1.1 124 10 = (E.length : Int) := by rw [a3.2 10 (by omega)]; exact hEl
        have e := M233 (d := d) hM hMp1 m5 a2
        have gl : grS (farE E) m ≤ 99 := by
          unfold grS
          exact mxx_le m fun p _ => mxx_le p fun q _ => farE_le E p q
        by_cases g0 : w = 0
        · subst g0
          simp (disch := first | assumption | omega | (simp (disch := omega) only [wN, w0, w1]; omega)) only [e235_0, e235_1, e235_3, e235_5, e235_6, e235_9, e235_10, e235_13, e235_16, e235_17, e235_20, e235_21, e235_23, e235_24, e235_25, e235_26, e235_27, e235_29, e235_31, e235_32, e235_35, e235_36, e235_39, e235_42, e235_43, e235_46, e235_47, e235_49, e235_50, e235_51, e235_52, e235_53, e235_55, e235_57, e235_58, e235_61, e235_62, e235_65, e235_68, e235_69, e235_70, e235_72, e235_73, e235_76, e235_77, e235_78, e235_81, e235_82_d, e235_82_0, e235_82_1, e235_82_2, e235_82_3, e235_112, e235_113, e235_116, e235_117, e235_118, e235_121, e235_122, e235_123, e235_126, e235_127, e235_128, e235_131, e235_133, e235_136, e235_137, e235_140, e235_141, e235_142, e235_143, kl_I, kl_R, kl_N, kl_L, oSm, oNn, Option.bind_some, wN, if_pos, if_neg, nS, tN, t0, w0, w1, w2, w3, w4, w5, wm1, upA_ne, upA_same, if_true, if_false, Bool.false_eq_true, q235, hEl, hMp, i1, i2, i3, a1, hMp1]
          exact End.of rfl ⟨rfl, hI1⟩
        · by_cases g1 : w = 1
          · subst g1
            simp (disch := first | assumption | omega | (simp (disch := omega) only [wN, w0, w1]; omega)) only [e235_0, e235_1, e235_3, e235_5, e235_6, e235_9, e235_10, e235_13, e235_16, e235_17, e235_20, e235_21, e235_23, e235_24, e235_25, e235_26, e235_27, e235_29, e235_31, e235_32, e235_35, e235_36, e235_39, e235_42, e235_43, e235_46, e235_47, e235_49, e235_50, e235_51, e235_52, e235_53, e235_55, e235_57, e235_58, e235_61, e235_62, e235_65, e235_68, e235_69, e235_70, e235_72, e235_73, e235_76, e235_77, e235_78, e235_81, e235_82_d, e235_82_0, e235_82_1, e235_82_2, e235_82_3, e235_112, e235_113, e235_116, e235_117, e235_118, e235_121, e235_122, e235_123, e235_126, e235_127, e235_128, e235_131, e235_133, e235_136, e235_137, e235_140, e235_141, e235_142, e235_143, kl_I, kl_R, kl_N, kl_L, oSm, oNn, Option.bind_some, wN, if_pos, if_neg, nS, tN, t0, w0, w1, w2, w3, w4, w5, wm1, upA_ne, upA_same, if_true, if_false, Bool.false_eq_true, q235, hEl, hMp, i1, i2, i3, a1, hEl1]
            exact End.of rfl ⟨rfl, hI1⟩
          · by_cases g2 : w = 2
            · subst g2
              simp (disch := first | assumption | omega | (simp (disch := omega) only [wN, w0, w1]; omega)) only [e235_0, e235_1, e235_3, e235_5, e235_6, e235_9, e235_10, e235_13, e235_16, e235_17, e235_20, e235_21, e235_23, e235_24, e235_25, e235_26, e235_27, e235_29, e235_31, e235_32, e235_35, e235_36, e235_39, e235_42, e235_43, e235_46, e235_47, e235_49, e235_50, e235_51, e235_52, e235_53, e235_55, e235_57, e235_58, e235_61, e235_62, e235_65, e235_68, e235_69, e235_70, e235_72, e235_73, e235_76, e235_77, e235_78, e235_81, e235_82_d, e235_82_0, e235_82_1, e235_82_2, e235_82_3, e235_112, e235_113, e235_116, e235_117, e235_118, e235_121, e235_122, e235_123, e235_126, e235_127, e235_128, e235_131, e235_133, e235_136, e235_137, e235_140, e235_141, e235_142, e235_143, kl_I, kl_R, kl_N, kl_L, oSm, oNn, Option.bind_some, wN, if_pos, if_neg, nS, tN, t0, w0, w1, w2, w3, w4, w5, wm1, upA_ne, upA_same, if_true, if_false, Bool.false_eq_true, q235, hEl, hMp, i1, i2, i3, a1, e]
              exact End.of rfl ⟨rfl, hI1⟩
            · by_cases g3 : w = 3
              · subst g3
                have w99 : wi 99 = 99 := rfl
                by_cases g : grS (farE E) m < 99
                · simp (disch := first | assumption | omega | (simp (disch := omega) only [wN, w0, w1]; omega)) only [e235_0, e235_1, e235_3, e235_5, e235_6, e235_9, e235_10, e235_13, e235_16, e235_17, e235_20, e235_21, e235_23, e235_24, e235_25, e235_26, e235_27, e235_29, e235_31, e235_32, e235_35, e235_36, e235_39, e235_42, e235_43, e235_46, e235_47, e235_49, e235_50, e235_51, e235_52, e235_53, e235_55, e235_57, e235_58, e235_61, e235_62, e235_65, e235_68, e235_69, e235_70, e235_72, e235_73, e235_76, e235_77, e235_78, e235_81, e235_82_d, e235_82_0, e235_82_1, e235_82_2, e235_82_3, e235_112, e235_113, e235_116, e235_117, e235_118, e235_121, e235_122, e235_123, e235_126, e235_127, e235_128, e235_131, e235_133, e235_136, e235_137, e235_140, e235_141, e235_142, e235_143, kl_I, kl_R, kl_N, kl_L, oSm, oNn, Option.bind_some, wN, if_pos, if_neg, nS, tN, t0, w0, w1, w2, w3, w4, w5, wm1, upA_ne, upA_same, if_true, if_false, Bool.false_eq_true, q235, hEl, hMp, i1, i2, i3, a1, e, w99]
                  exact End.of rfl ⟨by simp [g], hI1⟩
                · simp (disch := first | assumption | omega | (simp (disch := omega) only [wN, w0, w1]; omega)) only [e235_0, e235_1, e235_3, e235_5, e235_6, e235_9, e235_10, e235_13, e235_16, e235_17, e235_20, e235_21, e235_23, e235_24, e235_25, e235_26, e235_27, e235_29, e235_31, e235_32, e235_35, e235_36, e235_39, e235_42, e235_43, e235_46, e235_47, e235_49, e235_50, e235_51, e235_52, e235_53, e235_55, e235_57, e235_58, e235_61, e235_62, e235_65, e235_68, e235_69, e235_70, e235_72, e235_73, e235_76, e235_77, e235_78, e235_81, e235_82_d, e235_82_0, e235_82_1, e235_82_2, e235_82_3, e235_112, e235_113, e235_116, e235_117, e235_118, e235_121, e235_122, e235_123, e235_126, e235_127, e235_128, e235_131, e235_133, e235_136, e235_137, e235_140, e235_141, e235_142, e235_143, kl_I, kl_R, kl_N, kl_L, oSm, oNn, Option.bind_some, wN, if_pos, if_neg, nS, tN, t0, w0, w1, w2, w3, w4, w5, wm1, upA_ne, upA_same, if_true, if_false, Bool.false_eq_true, q235, hEl, hMp, i1, i2, i3, a1, e, w99]
                  exact End.of rfl ⟨by simp [g], hI1⟩
              · rw [if_neg g0, if_neg g1, if_neg g2, if_neg g3, if_neg (by omega), if_neg (by omega), if_neg (by omega)]
                simp (disch := first | assumption | omega | (simp (disch := omega) only [wN, w0, w1]; omega)) only [e235_0, e235_1, e235_3, e235_5, e235_6, e235_9, e235_10, e235_13, e235_16, e235_17, e235_20, e235_21, e235_23, e235_24, e235_25, e235_26, e235_27, e235_29, e235_31, e235_32, e235_35, e235_36, e235_39, e235_42, e235_43, e235_46, e235_47, e235_49, e235_50, e235_51, e235_52, e235_53, e235_55, e235_57, e235_58, e235_61, e235_62, e235_65, e235_68, e235_69, e235_70, e235_72, e235_73, e235_76, e235_77, e235_78, e235_81, e235_82_d, e235_82_0, e235_82_1, e235_82_2, e235_82_3, e235_112, e235_113, e235_116, e235_117, e235_118, e235_121, e235_122, e235_123, e235_126, e235_127, e235_128, e235_131, e235_133, e235_136, e235_137, e235_140, e235_141, e235_142, e235_143, kl_I, kl_R, kl_N, kl_L, oSm, oNn, Option.bind_some, wN, if_pos, if_neg, nS, tN, t0, w0, w1, w2, w3, w4, w5, wm1, upA_ne, upA_same, if_true, if_false, Bool.false_eq_true, q235, hEl, hMp, i1, i2, i3, a1]
                exact End.of rfl ⟨rfl, hI1⟩
theorem M236 (hM : MS sh) (h : InvM sh σ a) (hz : i32 z) (hw' : i32 w) : End (run sh (d + 2) 236 [mR 124, mI z, mI w] σ) (fun r σ' => r = some (mI (aFar a z w)) ∧ InvM sh σ' a) := by
  have hI := h
  have mo := hM.1
  have m160 := hM.2.1
  obtain ⟨ra39, rk39, rl39⟩ := ms39 hM
  obtain ⟨⟨n, c, m, E, P, x⟩, K, B, s, T⟩ := a
  obtain ⟨⟨hG, hN, hMp, hEl, hx0, hE, hP, hoS⟩, hik, hKp, hTp, h140, hTm⟩ := id h
  replace hG : HGm σ 0 c := hG
  replace hN : σ.1 124 8 = (n : Int) := hN
  replace hMp : σ.1 124 9 = (m : Int) := hMp
  replace hEl : σ.1 124 10 = (E.length : Int) := hEl
  replace hx0 : σ.1 124 11 = (x : Int) := hx0
  replace hE : HEm σ 127 128 E := hE
  replace hP : ∀ y, y < n → σ.1 129 y = (P y : Int) := hP
  replace hoS : okZ n c m E P x := hoS
  replace hTp : HPm σ B s := hTp
  replace h140 : s ≤ 140 := h140
  replace hTm : HT sh σ 157 T := hTm
  replace hik : σ.1 124 16 = bi K.isSome := hik
  obtain ⟨n1, n4', c30, hv, m2, m5, E10, hvE, hPk, x16⟩ := id hoS
  have p1 := M189 (d := d) hM hMp m5 hz
  have p2 := M189 (d := d) hM hMp m5 hw'
  unfold aFar
  simp only
  by_cases h1 : 0 ≤ z ∧ z < m
  · rw [if_pos h1] at p1
    by_cases h2 : 0 ≤ w ∧ w < m
    · rw [if_pos h2] at p2
      rw [if_pos ⟨h1, h2⟩]
      obtain ⟨r, σ1, a1, rfl, a2, a3⟩ := M232 (d := d) hM hMp hEl hE hvE m5 E10
      have hI1 := hI.W a3 (by omega) (by omega) (by omega)
      obtain ⟨k, rfl⟩ : ∃ k : Nat, z = (k : Int) := ⟨z.toNat, by omega⟩
      obtain ⟨l, rfl⟩ : ∃ l : Nat, w = (l : Int) := ⟨w.toNat, by omega⟩
      have g := (a2 k (by omega) l (by omega)).1
      simp (disch := first | assumption | omega | (simp (disch := omega) only [wN, w0, w1]; omega)) only [e236_0, e236_1, e236_2, e236_5, e236_8, e236_9, e236_10, e236_13, e236_16, e236_17, e236_18, e236_19, e236_22, e236_23, e236_26, e236_28, e236_29, e236_30, e236_31, e236_32, e236_33, kl_I, kl_R, kl_N, kl_L, oSm, oNn, Option.bind_some, wN, if_pos, if_neg, nS, tN, t0, w0, w1, w2, w3, w4, w5, wm1, upA_ne, upA_same, if_true, if_false, Bool.false_eq_true, q236, p1, p2, a1, ra39, rl39, n6, ← Int.natCast_add, g]
      exact End.of rfl ⟨by simp, hI1⟩
    · rw [if_neg h2] at p2
      rw [if_neg (fun q => h2 q.2)]
      simp (disch := first | assumption | omega | (simp (disch := omega) only [wN, w0, w1]; omega)) only [e236_0, e236_1, e236_2, e236_5, e236_8, e236_9, e236_10, e236_13, e236_16, e236_17, e236_18, e236_19, e236_22, e236_23, e236_26, e236_28, e236_29, e236_30, e236_31, e236_32, e236_33, kl_I, kl_R, kl_N, kl_L, oSm, oNn, Option.bind_some, wN, if_pos, if_neg, nS, tN, t0, w0, w1, w2, w3, w4, w5, wm1, upA_ne, upA_same, if_true, if_false, Bool.false_eq_true, q236, p1, p2]
      exact End.of rfl ⟨rfl, hI⟩
  · rw [if_neg h1] at p1
    rw [if_neg (fun q => h1 q.1)]
    simp (disch := first | assumption | omega | (simp (disch := omega) only [wN, w0, w1]; omega)) only [e236_0, e236_1, e236_2, e236_5, e236_8, e236_9, e236_10, e236_13, e236_16, e236_17, e236_18, e236_19, e236_22, e236_23, e236_26, e236_28, e236_29, e236_30, e236_31, e236_32, e236_33, kl_I, kl_R, kl_N, kl_L, oSm, oNn, Option.bind_some, wN, if_pos, if_neg, nS, tN, t0, w0, w1, w2, w3, w4, w5, wm1, upA_ne, upA_same, if_true, if_false, Bool.false_eq_true, q236, p1]
    exact End.of rfl ⟨rfl, hI⟩
end NK

