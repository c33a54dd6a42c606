/-! ===== the reference: lasts, urgent ===== -/
section OD
variable {sh : Shp} {d m n : Nat} {σ : Mem} {E : List Ed} {a : AX} {z w late : Int} {c : List Gt} {lo : Bool} {T : Nat → Nat}
theorem M274 (hM : MS sh) (hR : RC σ n m c E (ahS lo c)) (hTm : HT sh σ 157 T) (hc : c.length ≤ 30) (hv : okC n c) (hl2 : -1 ≤ late ∧ late < 30) : End (run sh (d + 1) 274 [mR 124, mI late] σ) (fun r σ' => r = some (mI (mxx (ltS lo T c late) c.length : Int)) ∧ frW 158 158 1 0 σ σ') := by
  have mo := hM.1
  have m160 := hM.2.1
  obtain ⟨ra1, rk1, rl1⟩ := ms1 hM
  obtain ⟨ra45, rk45, rl45⟩ := ms45 hM
  obtain ⟨ra56, rk56, rl56⟩ := ms56 hM
  obtain ⟨ra57, rk57, rl57⟩ := ms57 hM
  have wl := wi_id (z := late) (by omega) (by omega)
  have hT : ∀ k, k ≤ 5 → T k ≤ 20 := fun k hk => (hTm.2.2 k hk).2
  have lb := fun g => ltS_le (lo := lo) (late := late) hT hv g
  let G := fun (r : Option MV) (σ' : Mem) => r = some (mI (mxx (ltS lo T c late) c.length : Int)) ∧ frW 158 158 1 0 σ σ'
  have L := for_P (c.length) (fun i => ∀ (σ1 : Mem) (v4 v5 : Option MV), ((∀ y, y < i → σ1.1 158 y = (ltS lo T c late y : Int)) ∧ frW 158 158 1 0 σ σ1) → End (ev sh (d + 1) 274 4 [some (mR (124)), some (mI (late)), some (mI ((mxx (ltS lo T c late) i : Nat) : Int)), some (mI ((i : Nat) : Int)), v4, v5] [] σ1) (G)) (by
    intro σ1 v4 v5 hp
    replace hp : (∀ y, y < (c.length) → σ1.1 158 y = (ltS lo T c late y : Int)) ∧ frW 158 158 1 0 σ σ1 := hp
    show End (ev sh (d + 1) 274 4 [some (mR (124)), some (mI (late)), some (mI ((mxx (ltS lo T c late) (c.length) : Nat) : Int)), some (mI (((c.length) : Nat) : Int)), v4, v5] [] σ1) (G)
    have hl := (hR.W hp.2 (by omega) (by omega)).1.1
    rw [e274_4]
    simp (disch := first | assumption | omega | (simp (disch := omega) only [wN, w0, w1]; omega)) only [e274_0, e274_1, e274_2, e274_3, e274_5, e274_6, e274_9, e274_10, e274_11, e274_14, e274_15, e274_16, e274_19, e274_20, e274_23, e274_24, e274_26, e274_27, e274_31, e274_32, e274_35, e274_36, e274_39, e274_40, e274_41, e274_43, e274_46, e274_49, e274_51, e274_52, e274_55, e274_57, e274_58, e274_59, e274_60, e274_63, e274_64, e274_67, e274_68, e274_69, e274_72, e274_74, e274_77, e274_80, e274_81, e274_84, e274_85, e274_87, e274_88, e274_91, e274_92, e274_93, e274_94, e274_95, e274_98, e274_99, e274_100, e274_101, e274_102, e274_103, e274_106, e274_107, e274_108, e274_111, e274_112, e274_115, e274_118, e274_119, kl_I, kl_R, kl_N, kl_L, oSm, oNn, Option.bind_some, wN, if_pos, if_neg, nS, tN, t0, w0, w1, w2, w3, w4, w5, wm1, upA_ne, upA_same, if_true, if_false, Bool.false_eq_true, ra1, rl1, hl]
    exact End.of rfl ⟨rfl, hp.2⟩) (fun i hi ih => by
    replace ih : ∀ (σ1 : Mem) (v4 v5 : Option MV), ((∀ y, y < (i + 1) → σ1.1 158 y = (ltS lo T c late y : Int)) ∧ frW 158 158 1 0 σ σ1) → End (ev sh (d + 1) 274 4 [some (mR (124)), some (mI (late)), some (mI ((mxx (ltS lo T c late) (i + 1) : Nat) : Int)), some (mI (((i + 1) : Nat) : Int)), v4, v5] [] σ1) (G) := ih
    intro σ1 v4 v5 hp
    replace hp : (∀ y, y < i → σ1.1 158 y = (ltS lo T c late y : Int)) ∧ frW 158 158 1 0 σ σ1 := hp
    show End (ev sh (d + 1) 274 4 [some (mR (124)), some (mI (late)), some (mI ((mxx (ltS lo T c late) i : Nat) : Int)), some (mI ((i : Nat) : Int)), v4, v5] [] σ1) (G)
    obtain ⟨q1, q2⟩ := hp
    have hR1 := hR.W q2 (by omega) (by omega)
    have hl := hR1.1.1
    have hi0 := hi
    obtain ⟨a1, a2⟩ := hR1.2.2.1 i hi
    have o0 := of0 (d := d) (z := 0) hM hR1.1 (by omega) hc hi rfl
    have u1 := (hv.at hi).1
    have ai := D30 a2 (by omega)
    have t1 : σ1.1 157 (gA c i).1 = (T (gA c i).1 : Int) := by rw [(q2.1 157 (by omega) (by omega)).1]; exact (hTm.2.2 _ u1).1
    have tb := hT _ u1
    have d2 : dl late i ≤ 1 := by unfold dl; split <;> omega
    have bm : ∀ j, j ≤ i → max (dl late i) (mxx (ltF lo c late i (ltS lo T c late)) j) ≤ 1000 := fun j hj => by
      have : mxx (ltF lo c late i (ltS lo T c late)) j ≤ 1000 := mxx_le j fun h hh => by
        unfold ltF
        split
        · have := lb h (by omega); omega
        · omega
      omega
    have I := for_P (i) (fun j => ∀ (σ2 : Mem), (σ2 = σ1) → End (ev sh (d + 1) 274 29 [some (mR (124)), some (mI (late)), some (mI ((mxx (ltS lo T c late) i : Nat) : Int)), some (mI ((i : Nat) : Int)), some (mI ((max (dl late i) (mxx (ltF lo c late i (ltS lo T c late)) j) : Nat) : Int)), some (mI ((j : Nat) : Int))] [] σ2) (G)) (by
      intro σ2  hp
      replace hp : σ2 = σ1 := hp
      show End (ev sh (d + 1) 274 29 [some (mR (124)), some (mI (late)), some (mI ((mxx (ltS lo T c late) i : Nat) : Int)), some (mI ((i : Nat) : Int)), some (mI ((max (dl late i) (mxx (ltF lo c late i (ltS lo T c late)) (i)) : Nat) : Int)), some (mI (((i) : Nat) : Int))] [] σ2) (G)
      subst hp
      have es := ltS_eq lo T c late i
      have bi' := bm i (Nat.le_refl _)
      have li := lb i hi0
      have mi : mxx (ltS lo T c late) i ≤ 1000 := mxx_le i fun h hh => by have := lb h (by omega); omega
      have e6 := fun σ => E166n (sh := sh) (d := d) (σ := σ) (p := mxx (ltS lo T c late) i) (q := ltS lo T c late i) (by omega) (by omega)
      have mm : max (mxx (ltS lo T c late) i) (ltS lo T c late i) = mxx (ltS lo T c late) (i + 1) := rfl
      rw [mm] at e6
      have en : ((max (dl late i) (mxx (ltF lo c late i (ltS lo T c late)) i) : Nat) : Int) + (T (gA c i).1 : Int) = (ltS lo T c late i : Int) := by omega
      rw [e274_29]
      simp (disch := first | assumption | omega | (simp (disch := omega) only [wN, w0, w1]; omega)) only [e274_0, e274_1, e274_2, e274_3, e274_5, e274_6, e274_9, e274_10, e274_11, e274_14, e274_15, e274_16, e274_19, e274_20, e274_23, e274_24, e274_26, e274_27, e274_31, e274_32, e274_35, e274_36, e274_39, e274_40, e274_41, e274_43, e274_46, e274_49, e274_51, e274_52, e274_55, e274_57, e274_58, e274_59, e274_60, e274_63, e274_64, e274_67, e274_68, e274_69, e274_72, e274_74, e274_77, e274_80, e274_81, e274_84, e274_85, e274_87, e274_88, e274_91, e274_92, e274_93, e274_94, e274_95, e274_98, e274_99, e274_100, e274_101, e274_102, e274_103, e274_106, e274_107, e274_108, e274_111, e274_112, e274_115, e274_118, e274_119, kl_I, kl_R, kl_N, kl_L, oSm, oNn, Option.bind_some, wN, if_pos, if_neg, nS, tN, t0, w0, w1, w2, w3, w4, w5, wm1, upA_ne, upA_same, if_true, if_false, Bool.false_eq_true, ra57, rl57, ra56, rl56, o0, t1, en, up1_same, e6]
      refine ih _ _ _ ⟨fun y hy => ?_, q2.tr (frW.a (a := 158) (by omega) (by omega))⟩
      simp (disch := omega) only [upA_same]
      by_cases q : y = i
      · rw [q, up1_same]
      · rw [up1_ne q]; exact q1 y (by omega)) (fun j hi ih => by
      replace ih : ∀ (σ2 : Mem), (σ2 = σ1) → End (ev sh (d + 1) 274 29 [some (mR (124)), some (mI (late)), some (mI ((mxx (ltS lo T c late) i : Nat) : Int)), some (mI ((i : Nat) : Int)), some (mI ((max (dl late i) (mxx (ltF lo c late i (ltS lo T c late)) (j + 1)) : Nat) : Int)), some (mI (((j + 1) : Nat) : Int))] [] σ2) (G) := ih
      intro σ2  hp
      replace hp : σ2 = σ1 := hp
      show End (ev sh (d + 1) 274 29 [some (mR (124)), some (mI (late)), some (mI ((mxx (ltS lo T c late) i : Nat) : Int)), some (mI ((i : Nat) : Int)), some (mI ((max (dl late i) (mxx (ltF lo c late i (ltS lo T c late)) j) : Nat) : Int)), some (mI ((j : Nat) : Int))] [] σ2) (G)
      subst hp
      have hb := E167 (sh := sh) (d := d) (σ := σ2) (b := ahS lo c i) (k := j) (by omega) (by omega)
      have g1 := q1 j hi
      have lj := lb j (by omega)
      have bj := bm j (by omega)
      have em : max (max (dl late i) (mxx (ltF lo c late i (ltS lo T c late)) j)) (ltF lo c late i (ltS lo T c late) j) = max (dl late i) (mxx (ltF lo c late i (ltS lo T c late)) (j + 1)) := by
        rw [show mxx (ltF lo c late i (ltS lo T c late)) (j + 1) = max (mxx (ltF lo c late i (ltS lo T c late)) j) (ltF lo c late i (ltS lo T c late) j) from rfl]
        omega
      rw [e274_29]
      by_cases e : (ahS lo c i).testBit j = true
      · rw [e] at hb
        replace hb : run sh d 167 [mI (ahS lo c i : Int), mI (j : Int)] σ2 = some (some (mI 1), σ2) := hb
        have ef : ltF lo c late i (ltS lo T c late) j = ltS lo T c late j + dl late i := by rw [ltF, if_pos e]
        rw [ef] at em
        have e6 := E166n (sh := sh) (d := d) (σ := σ2) (p := max (dl late i) (mxx (ltF lo c late i (ltS lo T c late)) j)) (q := ltS lo T c late j + dl late i) (by omega) (by omega)
        rw [em] at e6
        by_cases hd : (i : Int) = late
        · have dd : dl late i = 1 := if_pos hd
          have en : (ltS lo T c late j : Int) + 1 = ((ltS lo T c late j + dl late i : Nat) : Int) := by rw [dd]; rfl
          have hd' : wi (i : Int) = wi late := by rw [hd]
          rw [hd'] at *
          simp (disch := first | assumption | omega | (simp (disch := omega) only [wN, w0, w1]; omega)) only [e274_0, e274_1, e274_2, e274_3, e274_5, e274_6, e274_9, e274_10, e274_11, e274_14, e274_15, e274_16, e274_19, e274_20, e274_23, e274_24, e274_26, e274_27, e274_31, e274_32, e274_35, e274_36, e274_39, e274_40, e274_41, e274_43, e274_46, e274_49, e274_51, e274_52, e274_55, e274_57, e274_58, e274_59, e274_60, e274_63, e274_64, e274_67, e274_68, e274_69, e274_72, e274_74, e274_77, e274_80, e274_81, e274_84, e274_85, e274_87, e274_88, e274_91, e274_92, e274_93, e274_94, e274_95, e274_98, e274_99, e274_100, e274_101, e274_102, e274_103, e274_106, e274_107, e274_108, e274_111, e274_112, e274_115, e274_118, e274_119, kl_I, kl_R, kl_N, kl_L, oSm, oNn, Option.bind_some, wN, if_pos, if_neg, nS, tN, t0, w0, w1, w2, w3, w4, w5, wm1, upA_ne, upA_same, if_true, if_false, Bool.false_eq_true, ra57, rl57, ra45, rl45, a1, hb, g1, hd', en, e6]
          exact ih _ rfl
        · have dd : dl late i = 0 := if_neg hd
          have en : (ltS lo T c late j : Int) + 0 = ((ltS lo T c late j + dl late i : Nat) : Int) := by rw [dd]; rfl
          have hd' : ¬ wi (i : Int) = wi late := by rw [wl, wN (by omega)]; exact hd
          simp (disch := first | assumption | omega | (simp (disch := omega) only [wN, w0, w1]; omega)) only [e274_0, e274_1, e274_2, e274_3, e274_5, e274_6, e274_9, e274_10, e274_11, e274_14, e274_15, e274_16, e274_19, e274_20, e274_23, e274_24, e274_26, e274_27, e274_31, e274_32, e274_35, e274_36, e274_39, e274_40, e274_41, e274_43, e274_46, e274_49, e274_51, e274_52, e274_55, e274_57, e274_58, e274_59, e274_60, e274_63, e274_64, e274_67, e274_68, e274_69, e274_72, e274_74, e274_77, e274_80, e274_81, e274_84, e274_85, e274_87, e274_88, e274_91, e274_92, e274_93, e274_94, e274_95, e274_98, e274_99, e274_100, e274_101, e274_102, e274_103, e274_106, e274_107, e274_108, e274_111, e274_112, e274_115, e274_118, e274_119, kl_I, kl_R, kl_N, kl_L, oSm, oNn, Option.bind_some, wN, if_pos, if_neg, nS, tN, t0, w0, w1, w2, w3, w4, w5, wm1, upA_ne, upA_same, if_true, if_false, Bool.false_eq_true, ra57, rl57, ra45, rl45, a1, hb, g1, en, e6]
          exact ih _ rfl
      · have e' : (ahS lo c i).testBit j = false := by simpa using e
        rw [e'] at hb
        replace hb : run sh d 167 [mI (ahS lo c i : Int), mI (j : Int)] σ2 = some (some (mI 0), σ2) := hb
        have ef : ltF lo c late i (ltS lo T c late) j = 0 := by rw [ltF, if_neg e]
        rw [ef, Nat.max_zero] at em
        rw [← em] at ih
        simp (disch := first | assumption | omega | (simp (disch := omega) only [wN, w0, w1]; omega)) only [e274_0, e274_1, e274_2, e274_3, e274_5, e274_6, e274_9, e274_10, e274_11, e274_14, e274_15, e274_16, e274_19, e274_20, e274_23, e274_24, e274_26, e274_27, e274_31, e274_32, e274_35, e274_36, e274_39, e274_40, e274_41, e274_43, e274_46, e274_49, e274_51, e274_52, e274_55, e274_57, e274_58, e274_59, e274_60, e274_63, e274_64, e274_67, e274_68, e274_69, e274_72, e274_74, e274_77, e274_80, e274_81, e274_84, e274_85, e274_87, e274_88, e274_91, e274_92, e274_93, e274_94, e274_95, e274_98, e274_99, e274_100, e274_101, e274_102, e274_103, e274_106, e274_107, e274_108, e274_111, e274_112, e274_115, e274_118, e274_119, kl_I, kl_R, kl_N, kl_L, oSm, oNn, Option.bind_some, wN, if_pos, if_neg, nS, tN, t0, w0, w1, w2, w3, w4, w5, wm1, upA_ne, upA_same, if_true, if_false, Bool.false_eq_true, ra45, rl45, a1, hb]
        exact ih _ rfl) 0 (Nat.zero_le _)
    have I0 := I σ1 rfl
    rw [show max (dl late i) (mxx (ltF lo c late i (ltS lo T c late)) 0) = dl late i from Nat.max_zero _] at I0
    rw [e274_4]
    by_cases hd : (i : Int) = late
    · have dd : dl late i = 1 := if_pos hd
      have hd' : wi (i : Int) = wi late := by rw [hd]
      rw [dd] at I0
      simp (disch := first | assumption | omega | (simp (disch := omega) only [wN, w0, w1]; omega)) only [e274_0, e274_1, e274_2, e274_3, e274_5, e274_6, e274_9, e274_10, e274_11, e274_14, e274_15, e274_16, e274_19, e274_20, e274_23, e274_24, e274_26, e274_27, e274_31, e274_32, e274_35, e274_36, e274_39, e274_40, e274_41, e274_43, e274_46, e274_49, e274_51, e274_52, e274_55, e274_57, e274_58, e274_59, e274_60, e274_63, e274_64, e274_67, e274_68, e274_69, e274_72, e274_74, e274_77, e274_80, e274_81, e274_84, e274_85, e274_87, e274_88, e274_91, e274_92, e274_93, e274_94, e274_95, e274_98, e274_99, e274_100, e274_101, e274_102, e274_103, e274_106, e274_107, e274_108, e274_111, e274_112, e274_115, e274_118, e274_119, kl_I, kl_R, kl_N, kl_L, oSm, oNn, Option.bind_some, wN, if_pos, if_neg, nS, tN, t0, w0, w1, w2, w3, w4, w5, wm1, upA_ne, upA_same, if_true, if_false, Bool.false_eq_true, ra1, rl1, hl, hd']
      exact I0
    · have dd : dl late i = 0 := if_neg hd
      have hd' : ¬ wi (i : Int) = wi late := by rw [wl, wN (by omega)]; exact hd
      rw [dd] at I0
      simp (disch := first | assumption | omega | (simp (disch := omega) only [wN, w0, w1]; omega)) only [e274_0, e274_1, e274_2, e274_3, e274_5, e274_6, e274_9, e274_10, e274_11, e274_14, e274_15, e274_16, e274_19, e274_20, e274_23, e274_24, e274_26, e274_27, e274_31, e274_32, e274_35, e274_36, e274_39, e274_40, e274_41, e274_43, e274_46, e274_49, e274_51, e274_52, e274_55, e274_57, e274_58, e274_59, e274_60, e274_63, e274_64, e274_67, e274_68, e274_69, e274_72, e274_74, e274_77, e274_80, e274_81, e274_84, e274_85, e274_87, e274_88, e274_91, e274_92, e274_93, e274_94, e274_95, e274_98, e274_99, e274_100, e274_101, e274_102, e274_103, e274_106, e274_107, e274_108, e274_111, e274_112, e274_115, e274_118, e274_119, kl_I, kl_R, kl_N, kl_L, oSm, oNn, Option.bind_some, wN, if_pos, if_neg, nS, tN, t0, w0, w1, w2, w3, w4, w5, wm1, upA_ne, upA_same, if_true, if_false, Bool.false_eq_true, ra1, rl1, hl]
      exact I0) 0 (Nat.zero_le _)
  simp (disch := first | assumption | omega | (simp (disch := omega) only [wN, w0, w1]; omega)) only [e274_0, e274_1, e274_2, e274_3, e274_5, e274_6, e274_9, e274_10, e274_11, e274_14, e274_15, e274_16, e274_19, e274_20, e274_23, e274_24, e274_26, e274_27, e274_31, e274_32, e274_35, e274_36, e274_39, e274_40, e274_41, e274_43, e274_46, e274_49, e274_51, e274_52, e274_55, e274_57, e274_58, e274_59, e274_60, e274_63, e274_64, e274_67, e274_68, e274_69, e274_72, e274_74, e274_77, e274_80, e274_81, e274_84, e274_85, e274_87, e274_88, e274_91, e274_92, e274_93, e274_94, e274_95, e274_98, e274_99, e274_100, e274_101, e274_102, e274_103, e274_106, e274_107, e274_108, e274_111, e274_112, e274_115, e274_118, e274_119, kl_I, kl_R, kl_N, kl_L, oSm, oNn, Option.bind_some, wN, if_pos, if_neg, nS, tN, t0, w0, w1, w2, w3, w4, w5, wm1, upA_ne, upA_same, if_true, if_false, Bool.false_eq_true, q274]
  exact L σ _ _ ⟨fun y hy => by omega, frW.rf⟩
theorem M276 (hM : MS sh) (h : InvM sh σ a) (hw' : i32 w) (hz : i32 z) : End (run sh (d + 7) 276 [mR 124, mI w, mI z] σ) (fun r σ' => r = some (mI (aLasts a w z)) ∧ InvM sh σ' a) := by
  have hI := h
  have mo := hM.1
  obtain ⟨⟨n, c, m, E, P, x⟩, K, B, s, T⟩ := a
  obtain ⟨⟨hG, hN, hMp, hEl, hx0, hE, hP, hoS⟩, hik, hKp, hTp, h140, hTm⟩ := id h
  replace hG : HGm σ 0 c := hG
  replace hN : σ.1 124 8 = (n : Int) := hN
  replace hMp : σ.1 124 9 = (m : Int) := hMp
  replace hEl : σ.1 124 10 = (E.length : Int) := hEl
  replace hx0 : σ.1 124 11 = (x : Int) := hx0
  replace hE : HEm σ 127 128 E := hE
  replace hP : ∀ y, y < n → σ.1 129 y = (P y : Int) := hP
  replace hoS : okZ n c m E P x := hoS
  replace hTp : HPm σ B s := hTp
  replace h140 : s ≤ 140 := h140
  replace hTm : HT sh σ 157 T := hTm
  replace hik : σ.1 124 16 = bi K.isSome := hik
  obtain ⟨n1, n4', c30, hv, m2, m5, E10, hvE, hPk, x16⟩ := id hoS
  have ww := hw'.w
  have ei := E164 (sh := sh) (d := d + 6) (σ := σ) (z := w) (w := 0) (v := 2) hw' ⟨by omega, by omega⟩ ⟨by omega, by omega⟩
  have e0 := M259 (sh := sh) (d := d + 5) (σ := σ) hz
  have wm1 : wi (-1) = -1 := rfl
  unfold aLasts
  simp only
  by_cases h1 : 0 ≤ w ∧ w ≤ 2
  · rw [if_pos h1] at ei
    by_cases h2 : w = 2
    · subst h2
      rw [if_neg (by omega)]
      by_cases hlk : lkB z = true
      · rw [hlk] at e0
        replace e0 : run sh (d + 6) 259 [mI z] σ = some (some (mI 1), σ) := e0
        rw [if_neg (fun q => q.elim (fun q => q rfl) (fun q => by rw [hlk] at q; cases q))]
        by_cases hmn : m < n
        · rw [if_pos hmn]
          simp (disch := first | assumption | omega | (simp (disch := omega) only [wN, w0, w1]; omega)) only [e276_0, e276_1, e276_2, e276_3, e276_6, e276_9, e276_10, e276_11, e276_14, e276_15, e276_18, e276_21, e276_22, e276_23, e276_24, e276_25, e276_28, e276_29, e276_30, e276_31, e276_34, e276_35, e276_38, e276_39, e276_42, e276_43, e276_44, e276_47, e276_48, e276_49, e276_52, e276_53, e276_56, e276_59, e276_61, e276_62, e276_63, e276_64, e276_67, e276_70, e276_71, e276_74, e276_77, e276_79, kl_I, kl_R, kl_N, kl_L, oSm, oNn, Option.bind_some, wN, if_pos, if_neg, nS, tN, t0, w0, w1, w2, w3, w4, w5, wm1, upA_ne, upA_same, if_true, if_false, Bool.false_eq_true, q276, ei, e0, hN, hMp]
          exact End.of rfl ⟨rfl, hI⟩
        · rw [if_neg hmn]
          obtain ⟨r, σ1, a1, rfl, hI1, po⟩ := M257 (d := d) hM hI hlk hmn
          have ok := rt_ok (a := ((n, c, m, E, P, x), K, B, s, T)) (z := z) hoS hmn
          unfold poM at po
          generalize hR : rtA ((n, c, m, E, P, x), K, B, s, T) z = R at *
          obtain ⟨y, f⟩ := R
          simp only at *
          cases f with
          | false =>
            replace a1 : run sh (d + 6) 257 [mR 124, mI z] σ = some (some (mI 0), σ1) := a1
            simp (disch := first | assumption | omega | (simp (disch := omega) only [wN, w0, w1]; omega)) only [e276_0, e276_1, e276_2, e276_3, e276_6, e276_9, e276_10, e276_11, e276_14, e276_15, e276_18, e276_21, e276_22, e276_23, e276_24, e276_25, e276_28, e276_29, e276_30, e276_31, e276_34, e276_35, e276_38, e276_39, e276_42, e276_43, e276_44, e276_47, e276_48, e276_49, e276_52, e276_53, e276_56, e276_59, e276_61, e276_62, e276_63, e276_64, e276_67, e276_70, e276_71, e276_74, e276_77, e276_79, kl_I, kl_R, kl_N, kl_L, oSm, oNn, Option.bind_some, wN, if_pos, if_neg, nS, tN, t0, w0, w1, w2, w3, w4, w5, wm1, upA_ne, upA_same, if_true, if_false, Bool.false_eq_true, q276, ei, e0, hN, hMp, a1]
            exact End.of rfl ⟨rfl, hI1⟩
          | true =>
            replace a1 : run sh (d + 6) 257 [mR 124, mI z] σ = some (some (mI 1), σ1) := a1
            obtain ⟨hV, k47⟩ := po rfl
            have ln := rt_len ok.1 c30
            have hTm1 : HT sh σ1 157 T := hI1.2.2.2.2.2
            obtain ⟨r, σ2, b1, rfl, b2⟩ := M275 (d := d + 5) hM hTm1 hV ok.2.1 m5 ln.1
            rw [if_neg (by simp)]
            simp (disch := first | assumption | omega | (simp (disch := omega) only [wN, w0, w1]; omega)) only [e276_0, e276_1, e276_2, e276_3, e276_6, e276_9, e276_10, e276_11, e276_14, e276_15, e276_18, e276_21, e276_22, e276_23, e276_24, e276_25, e276_28, e276_29, e276_30, e276_31, e276_34, e276_35, e276_38, e276_39, e276_42, e276_43, e276_44, e276_47, e276_48, e276_49, e276_52, e276_53, e276_56, e276_59, e276_61, e276_62, e276_63, e276_64, e276_67, e276_70, e276_71, e276_74, e276_77, e276_79, kl_I, kl_R, kl_N, kl_L, oSm, oNn, Option.bind_some, wN, if_pos, if_neg, nS, tN, t0, w0, w1, w2, w3, w4, w5, wm1, upA_ne, upA_same, if_true, if_false, Bool.false_eq_true, q276, ei, e0, hN, hMp, a1, b1]
            exact End.of rfl ⟨rfl, hI1.W b2 (by omega) (by omega) (by omega)⟩
      · have hlk' : lkB z = false := by simpa using hlk
        rw [hlk'] at e0
        replace e0 : run sh (d + 6) 259 [mI z] σ = some (some (mI 0), σ) := e0
        rw [if_pos (Or.inr hlk')]
        simp (disch := first | assumption | omega | (simp (disch := omega) only [wN, w0, w1]; omega)) only [e276_0, e276_1, e276_2, e276_3, e276_6, e276_9, e276_10, e276_11, e276_14, e276_15, e276_18, e276_21, e276_22, e276_23, e276_24, e276_25, e276_28, e276_29, e276_30, e276_31, e276_34, e276_35, e276_38, e276_39, e276_42, e276_43, e276_44, e276_47, e276_48, e276_49, e276_52, e276_53, e276_56, e276_59, e276_61, e276_62, e276_63, e276_64, e276_67, e276_70, e276_71, e276_74, e276_77, e276_79, kl_I, kl_R, kl_N, kl_L, oSm, oNn, Option.bind_some, wN, if_pos, if_neg, nS, tN, t0, w0, w1, w2, w3, w4, w5, wm1, upA_ne, upA_same, if_true, if_false, Bool.false_eq_true, q276, ei, e0]
        exact End.of rfl ⟨rfl, hI⟩
    · rw [if_pos (by omega)]
      obtain ⟨r, σ1, a1, rfl, a2, a3⟩ := M244 (d := d + 2) (lo := decide (w = 1)) hM hG c30 hv hN n4' hMp hEl hE hvE m5 E10
      have hI1 := hI.W a3 (by omega) (by omega) (by omega)
      obtain ⟨r, σ2, b1, rfl, b2⟩ := M274 (d := d + 5) (late := -1) hM a2 hI1.2.2.2.2.2 c30 hv ⟨by omega, by omega⟩
      rw [lt_all] at b1
      have hI2 := hI1.W b2 (by omega) (by omega) (by omega)
      rcases (show w = 0 ∨ w = 1 by omega) with rfl | rfl
      · replace a1 : run sh (d + 6) 244 [mR 124, mI 0] σ = some (none, σ1) := a1
        simp (disch := first | assumption | omega | (simp (disch := omega) only [wN, w0, w1]; omega)) only [e276_0, e276_1, e276_2, e276_3, e276_6, e276_9, e276_10, e276_11, e276_14, e276_15, e276_18, e276_21, e276_22, e276_23, e276_24, e276_25, e276_28, e276_29, e276_30, e276_31, e276_34, e276_35, e276_38, e276_39, e276_42, e276_43, e276_44, e276_47, e276_48, e276_49, e276_52, e276_53, e276_56, e276_59, e276_61, e276_62, e276_63, e276_64, e276_67, e276_70, e276_71, e276_74, e276_77, e276_79, kl_I, kl_R, kl_N, kl_L, oSm, oNn, Option.bind_some, wN, if_pos, if_neg, nS, tN, t0, w0, w1, w2, w3, w4, w5, wm1, upA_ne, upA_same, if_true, if_false, Bool.false_eq_true, q276, ei, a1, b1]
        exact End.of rfl ⟨rfl, hI2⟩
      · replace a1 : run sh (d + 6) 244 [mR 124, mI 1] σ = some (none, σ1) := a1
        simp (disch := first | assumption | omega | (simp (disch := omega) only [wN, w0, w1]; omega)) only [e276_0, e276_1, e276_2, e276_3, e276_6, e276_9, e276_10, e276_11, e276_14, e276_15, e276_18, e276_21, e276_22, e276_23, e276_24, e276_25, e276_28, e276_29, e276_30, e276_31, e276_34, e276_35, e276_38, e276_39, e276_42, e276_43, e276_44, e276_47, e276_48, e276_49, e276_52, e276_53, e276_56, e276_59, e276_61, e276_62, e276_63, e276_64, e276_67, e276_70, e276_71, e276_74, e276_77, e276_79, kl_I, kl_R, kl_N, kl_L, oSm, oNn, Option.bind_some, wN, if_pos, if_neg, nS, tN, t0, w0, w1, w2, w3, w4, w5, wm1, upA_ne, upA_same, if_true, if_false, Bool.false_eq_true, q276, ei, a1, b1]
        exact End.of rfl ⟨rfl, hI2⟩
  · rw [if_neg h1] at ei
    rw [if_neg (by omega), if_pos (Or.inl (by omega))]
    simp (disch := first | assumption | omega | (simp (disch := omega) only [wN, w0, w1]; omega)) only [e276_0, e276_1, e276_2, e276_3, e276_6, e276_9, e276_10, e276_11, e276_14, e276_15, e276_18, e276_21, e276_22, e276_23, e276_24, e276_25, e276_28, e276_29, e276_30, e276_31, e276_34, e276_35, e276_38, e276_39, e276_42, e276_43, e276_44, e276_47, e276_48, e276_49, e276_52, e276_53, e276_56, e276_59, e276_61, e276_62, e276_63, e276_64, e276_67, e276_70, e276_71, e276_74, e276_77, e276_79, kl_I, kl_R, kl_N, kl_L, oSm, oNn, Option.bind_some, wN, if_pos, if_neg, nS, tN, t0, w0, w1, w2, w3, w4, w5, wm1, upA_ne, upA_same, if_true, if_false, Bool.false_eq_true, q276, ei]
    exact End.of rfl ⟨rfl, hI⟩
theorem M277 (hM : MS sh) (h : InvM sh σ a) (hw' : i32 w) : End (run sh (d + 5) 277 [mR 124, mI w] σ) (fun r σ' => r = some (mI (aUrgent a w)) ∧ InvM sh σ' a) := by
  have hI := h
  have mo := hM.1
  have m160 := hM.2.1
  obtain ⟨ra1, rk1, rl1⟩ := ms1 hM
  obtain ⟨⟨n, c, m, E, P, x⟩, K, B, s, T⟩ := a
  obtain ⟨⟨hG, hN, hMp, hEl, hx0, hE, hP, hoS⟩, hik, hKp, hTp, h140, hTm⟩ := id h
  replace hG : HGm σ 0 c := hG
  replace hN : σ.1 124 8 = (n : Int) := hN
  replace hMp : σ.1 124 9 = (m : Int) := hMp
  replace hEl : σ.1 124 10 = (E.length : Int) := hEl
  replace hx0 : σ.1 124 11 = (x : Int) := hx0
  replace hE : HEm σ 127 128 E := hE
  replace hP : ∀ y, y < n → σ.1 129 y = (P y : Int) := hP
  replace hoS : okZ n c m E P x := hoS
  replace hTp : HPm σ B s := hTp
  replace h140 : s ≤ 140 := h140
  replace hTm : HT sh σ 157 T := hTm
  replace hik : σ.1 124 16 = bi K.isSome := hik
  obtain ⟨n1, n4', c30, hv, m2, m5, E10, hvE, hPk, x16⟩ := id hoS
  have ww := hw'.w
  have ei := E164 (sh := sh) (d := d + 4) (σ := σ) (z := w) (w := 0) (v := 1) hw' ⟨by omega, by omega⟩ ⟨by omega, by omega⟩
  unfold aUrgent
  simp only
  by_cases h1 : 0 ≤ w ∧ w ≤ 1
  · rw [if_pos h1] at ei
    rw [if_pos (by omega)]
    obtain ⟨r, σ1, a1, rfl, a2, a3⟩ := M244 (d := d) (lo := decide (w = 1)) hM hG c30 hv hN n4' hMp hEl hE hvE m5 E10
    have hI1 := hI.W a3 (by omega) (by omega) (by omega)
    have hTm1 : HT sh σ1 157 T := hI1.2.2.2.2.2
    obtain ⟨r, σ2, b1, rfl, b2⟩ := M274 (d := d + 3) (late := -1) hM a2 hTm1 c30 hv ⟨by omega, by omega⟩
    rw [lt_all] at b1
    generalize hlo : decide (w = 1) = lo at *
    have hT : ∀ k, k ≤ 5 → T k ≤ 20 := fun k hk => (hTm1.2.2 k hk).2
    have mb : ∀ late, mxx (ltS lo T c late) c.length ≤ 1000 := fun late => mxx_le _ fun g hg => by
      have := ltS_le (lo := lo) (late := late) hT hv g hg; omega
    have mb0 := mb (-1)
    rw [lt_all] at mb0
    have L := for_P (c.length) (fun i => ∀ (σ3 : Mem), (frW 158 158 1 0 σ1 σ3) → End (ev sh (d + 5) 277 36 [some (mR (124)), some (mI (w)), some (mI ((mxx (enS lo T c) c.length : Nat) : Int)), some (mI ((bts (ugB lo T c) i : Nat) : Int)), some (mI ((i : Nat) : Int))] [] σ3) (fun r σ' => r = some (mI (bts (ugB lo T c) c.length : Int)) ∧ InvM sh σ' ((n, c, m, E, P, x), K, B, s, T))) (by
      intro σ3  hp
      replace hp : frW 158 158 1 0 σ1 σ3 := hp
      show End (ev sh (d + 5) 277 36 [some (mR (124)), some (mI (w)), some (mI ((mxx (enS lo T c) c.length : Nat) : Int)), some (mI ((bts (ugB lo T c) (c.length) : Nat) : Int)), some (mI (((c.length) : Nat) : Int))] [] σ3) (fun r σ' => r = some (mI (bts (ugB lo T c) c.length : Int)) ∧ InvM sh σ' ((n, c, m, E, P, x), K, B, s, T))
      have hl := (a2.W hp (by omega) (by omega)).1.1
      rw [e277_36]
      simp (disch := first | assumption | omega | (simp (disch := omega) only [wN, w0, w1]; omega)) only [e277_0, e277_1, e277_2, e277_3, e277_6, e277_9, e277_10, e277_11, e277_12, e277_13, e277_14, e277_17, e277_18, e277_21, e277_22, e277_25, e277_26, e277_27, e277_30, e277_31, e277_32, e277_33, e277_34, e277_38, e277_39, e277_42, e277_43, e277_44, e277_47, e277_48, e277_50, e277_53, e277_54, e277_57, e277_58, e277_59, e277_61, e277_62, e277_63, e277_64, e277_67, e277_70, e277_71, kl_I, kl_R, kl_N, kl_L, oSm, oNn, Option.bind_some, wN, if_pos, if_neg, nS, tN, t0, w0, w1, w2, w3, w4, w5, wm1, upA_ne, upA_same, if_true, if_false, Bool.false_eq_true, ra1, rl1, hl]
      exact End.of rfl ⟨rfl, hI1.W hp (by omega) (by omega) (by omega)⟩) (fun i hi ih => by
      replace ih : ∀ (σ3 : Mem), (frW 158 158 1 0 σ1 σ3) → End (ev sh (d + 5) 277 36 [some (mR (124)), some (mI (w)), some (mI ((mxx (enS lo T c) c.length : Nat) : Int)), some (mI ((bts (ugB lo T c) (i + 1) : Nat) : Int)), some (mI (((i + 1) : Nat) : Int))] [] σ3) (fun r σ' => r = some (mI (bts (ugB lo T c) c.length : Int)) ∧ InvM sh σ' ((n, c, m, E, P, x), K, B, s, T)) := ih
      intro σ3  hp
      replace hp : frW 158 158 1 0 σ1 σ3 := hp
      show End (ev sh (d + 5) 277 36 [some (mR (124)), some (mI (w)), some (mI ((mxx (enS lo T c) c.length : Nat) : Int)), some (mI ((bts (ugB lo T c) i : Nat) : Int)), some (mI ((i : Nat) : Int))] [] σ3) (fun r σ' => r = some (mI (bts (ugB lo T c) c.length : Int)) ∧ InvM sh σ' ((n, c, m, E, P, x), K, B, s, T))
      have hR3 := a2.W hp (by omega) (by omega)
      have hl := hR3.1.1
      have hTm3 : HT sh σ3 157 T := hTm1.k (hp.1 157 (by omega) (by omega)).1
      obtain ⟨r, σ4, c1, rfl, c2⟩ := M274 (d := d + 3) (late := (i : Int)) hM hR3 hTm3 c30 hv ⟨by omega, by omega⟩
      have mbi := mb (i : Int)
      have ug := lt_ug (lo := lo) (T := T) hi
      have bl := bts_lt (ugB lo T c) i
      have pi : 2 ^ i < 2147483648 := Nat.lt_of_lt_of_le (Nat.pow_lt_pow_right (by omega) (show i < 31 by omega)) (p31 (Nat.le_refl 31))
      have xs := xshl_1 (k := i) (by omega)
      have x2 := xor_nn (a := bts (ugB lo T c) i) (b := 2 ^ i) (by omega) pi
      rw [show bts (ugB lo T c) (i + 1) = if ugB lo T c i = true then bts (ugB lo T c) i ||| 2 ^ i else bts (ugB lo T c) i from rfl] at ih
      have hp2 := hp.tr c2
      generalize mxx (ltS lo T c (i : Int)) c.length = M1 at *
      generalize mxx (enS lo T c) c.length = M0 at *
      rw [e277_36]
      by_cases e : ugB lo T c i = true
      · have g := ug.mpr e
        rw [if_pos e] at ih
        clear ug
        simp (disch := first | assumption | omega | (simp (disch := omega) only [wN, w0, w1]; omega)) only [e277_0, e277_1, e277_2, e277_3, e277_6, e277_9, e277_10, e277_11, e277_12, e277_13, e277_14, e277_17, e277_18, e277_21, e277_22, e277_25, e277_26, e277_27, e277_30, e277_31, e277_32, e277_33, e277_34, e277_38, e277_39, e277_42, e277_43, e277_44, e277_47, e277_48, e277_50, e277_53, e277_54, e277_57, e277_58, e277_59, e277_61, e277_62, e277_63, e277_64, e277_67, e277_70, e277_71, kl_I, kl_R, kl_N, kl_L, oSm, oNn, Option.bind_some, wN, if_pos, if_neg, nS, tN, t0, w0, w1, w2, w3, w4, w5, wm1, upA_ne, upA_same, if_true, if_false, Bool.false_eq_true, ra1, rl1, hl, c1, xs, x2]
        exact ih _ hp2
      · have g : ¬ M0 < M1 := fun q => e (ug.mp q)
        rw [if_neg e] at ih
        clear ug
        simp (disch := first | assumption | omega | (simp (disch := omega) only [wN, w0, w1]; omega)) only [e277_0, e277_1, e277_2, e277_3, e277_6, e277_9, e277_10, e277_11, e277_12, e277_13, e277_14, e277_17, e277_18, e277_21, e277_22, e277_25, e277_26, e277_27, e277_30, e277_31, e277_32, e277_33, e277_34, e277_38, e277_39, e277_42, e277_43, e277_44, e277_47, e277_48, e277_50, e277_53, e277_54, e277_57, e277_58, e277_59, e277_61, e277_62, e277_63, e277_64, e277_67, e277_70, e277_71, kl_I, kl_R, kl_N, kl_L, oSm, oNn, Option.bind_some, wN, if_pos, if_neg, nS, tN, t0, w0, w1, w2, w3, w4, w5, wm1, upA_ne, upA_same, if_true, if_false, Bool.false_eq_true, ra1, rl1, hl, c1]
        exact ih _ hp2) 0 (Nat.zero_le _)
    have L0 := L σ2 b2
    rcases (show w = 0 ∨ w = 1 by omega) with rfl | rfl
    · replace hlo : false = lo := hlo
      subst hlo
      replace a1 : run sh (d + 4) 244 [mR 124, mI 0] σ = some (none, σ1) := a1
      simp (disch := first | assumption | omega | (simp (disch := omega) only [wN, w0, w1]; omega)) only [e277_0, e277_1, e277_2, e277_3, e277_6, e277_9, e277_10, e277_11, e277_12, e277_13, e277_14, e277_17, e277_18, e277_21, e277_22, e277_25, e277_26, e277_27, e277_30, e277_31, e277_32, e277_33, e277_34, e277_38, e277_39, e277_42, e277_43, e277_44, e277_47, e277_48, e277_50, e277_53, e277_54, e277_57, e277_58, e277_59, e277_61, e277_62, e277_63, e277_64, e277_67, e277_70, e277_71, kl_I, kl_R, kl_N, kl_L, oSm, oNn, Option.bind_some, wN, if_pos, if_neg, nS, tN, t0, w0, w1, w2, w3, w4, w5, wm1, upA_ne, upA_same, if_true, if_false, Bool.false_eq_true, q277, ei, a1, b1]
      exact L0
    · replace hlo : true = lo := hlo
      subst hlo
      replace a1 : run sh (d + 4) 244 [mR 124, mI 1] σ = some (none, σ1) := a1
      simp (disch := first | assumption | omega | (simp (disch := omega) only [wN, w0, w1]; omega)) only [e277_0, e277_1, e277_2, e277_3, e277_6, e277_9, e277_10, e277_11, e277_12, e277_13, e277_14, e277_17, e277_18, e277_21, e277_22, e277_25, e277_26, e277_27, e277_30, e277_31, e277_32, e277_33, e277_34, e277_38, e277_39, e277_42, e277_43, e277_44, e277_47, e277_48, e277_50, e277_53, e277_54, e277_57, e277_58, e277_59, e277_61, e277_62, e277_63, e277_64, e277_67, e277_70, e277_71, kl_I, kl_R, kl_N, kl_L, oSm, oNn, Option.bind_some, wN, if_pos, if_neg, nS, tN, t0, w0, w1, w2, w3, w4, w5, wm1, upA_ne, upA_same, if_true, if_false, Bool.false_eq_true, q277, ei, a1, b1]
      exact L0
  · rw [if_neg h1] at ei
    rw [if_neg (by omega)]
    simp (disch := first | assumption | omega | (simp (disch := omega) only [wN, w0, w1]; omega)) only [e277_0, e277_1, e277_2, e277_3, e277_6, e277_9, e277_10, e277_11, e277_12, e277_13, e277_14, e277_17, e277_18, e277_21, e277_22, e277_25, e277_26, e277_27, e277_30, e277_31, e277_32, e277_33, e277_34, e277_38, e277_39, e277_42, e277_43, e277_44, e277_47, e277_48, e277_50, e277_53, e277_54, e277_57, e277_58, e277_59, e277_61, e277_62, e277_63, e277_64, e277_67, e277_70, e277_71, kl_I, kl_R, kl_N, kl_L, oSm, oNn, Option.bind_some, wN, if_pos, if_neg, nS, tN, t0, w0, w1, w2, w3, w4, w5, wm1, upA_ne, upA_same, if_true, if_false, Bool.false_eq_true, q277, ei]
    exact End.of rfl ⟨rfl, hI⟩
end OD

