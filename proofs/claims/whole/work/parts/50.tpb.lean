/-! ===== Tape: a board, bytes written ===== -/
section TPB
variable {sh : Shp} {d t g cap s n i b m : Nat} {σ : Mem} {B : Nat → Nat} {c : List Gt} {E : List Ed}
def poE (B : Nat → Nat) (s m i b : Nat) (E : List Ed) (σ : Mem) (r : Option MV) (σ' : Mem) : Prop := r = some (mI (rdE B s m i E).1) ∧ HB σ' b m (rdE B s m i E).2 ∧ okE m (rdE B s m i E).2 ∧ (rdE B s m i E).2.length ≤ 10 ∧ (rdE B s m i E).1 ≤ 0 ∧ -8000 < (rdE B s m i E).1 ∧ frI b (b + 2) σ σ'
theorem okE.app {q : Ed} (h : okE m E) (hq : q.1 < q.2 ∧ q.2 < m) : okE m (E ++ [q]) := by
  intro x hx
  rcases List.mem_append.mp hx with h1 | h1
  · exact h x h1
  · rw [List.mem_singleton.mp h1]; exact hq
theorem T112 (hs : tpS sh t) (hP : HP σ t B s) (h1 : s ≤ 140) (hi : i < 500) (hbS : bdS sh b) (hB : HB σ b m E) (hE : E.length ≤ 10) (hv : okE m E) (hm : m ≤ 5) (hap : t + 1 < b ∨ b + 8 < t) : End (run sh (d + 4) 112 [mR t, mI (i : Int), mR b] σ) (poE B s m i b E σ) := by
  have ho := hs.1
  have hbo := hbS.1
  have hb0 := hB.1
  have hb1 := hB.2.1
  have e0 := T106 (d := d + 2) hs hP h1 (show i < 1000 by omega)
  have e2 := T106 (d := d + 2) hs hP h1 (show i + 2 < 1000 by omega)
  have d1 := T108 (d := d + 1) hs hP h1 (show i + 1 < 1000 by omega) (lo := 0) (bd := (m : Int)) (by omega) (by omega)
  have d3 := T108 (d := d + 1) hs hP h1 (show i + 3 < 1000 by omega) (lo := 0) (bd := (m : Int)) (by omega) (by omega)
  have b0 := byB_r h1 (fun j hj => (hP.2 j hj).2) i
  have b2 := byB_r h1 (fun j hj => (hP.2 j hj).2) (i + 2)
  have wb0 : wi (byB B s i) = byB B s i := wi_id (by omega) (by omega)
  have wb2 : wi (byB B s (i + 2)) = byB B s (i + 2) := wi_id (by omega) (by omega)
  have w59 : wi 59 = 59 := rfl
  have w45 : wi 45 = 45 := rfl
  have w10 : wi 10 = 10 := rfl
  have q1 : ∀ j, j < 1000 → wi (rdD B s j 0 (m : Int)) = rdD B s j 0 (m : Int) := by
    intro j hj
    have := rdD_r B s j 0 (m : Int) (Int.le_refl _)
    exact wi_id (by omega) (by omega)
  have wd1 := q1 (i + 1) (by omega)
  have wd3 := q1 (i + 3) (by omega)
  clear q1
  have fail : ∀ {v : Int}, rdE B s m i E = (v, E) → v ≤ 0 → -8000 < v → poE B s m i b E σ (some (mI v)) σ := by
    intro v hv2 h0 h8
    unfold poE
    rw [hv2]
    exact ⟨rfl, hB, hv, hE, h0, h8, frI.rf⟩
  by_cases f0 : byB B s i = 59
  · by_cases f1 : E.length = 10
    · have er : rdE B s m i E = (-1000 * 4 - ((i + 1 : Nat) : Int), E) := by rw [rdE, if_neg (by omega), if_pos f1]
      simp (disch := first | assumption | omega | (simp (disch := omega) only [wN, w0, w1]; omega)) only [e112_0, e112_1, e112_2, e112_5, e112_7, e112_10, e112_11, e112_12, e112_15, e112_16, e112_17, e112_20, e112_22, e112_25, e112_26, e112_27, e112_28, e112_29, e112_32, e112_33, e112_34, e112_35, e112_36, e112_37, e112_38, e112_39, e112_42, e112_45, e112_46, e112_47, e112_50, e112_51, e112_52, e112_53, e112_54, e112_55, e112_56, e112_59, e112_61, e112_64, e112_65, e112_66, e112_67, e112_68, e112_71, e112_72, e112_73, e112_74, e112_75, e112_76, e112_77, e112_78, e112_81, e112_84, e112_86, e112_88, e112_91, e112_93, e112_94, e112_95, e112_97, e112_100, e112_101, e112_102, e112_104, e112_107, e112_110, e112_112, e112_113, e112_114, e112_115, e112_118, e112_119, e112_120, e112_121, e112_123, e112_126, e112_127, kl_I, kl_R, kl_N, kl_L, oSm, oNn, Option.bind_some, wN, if_pos, if_neg, nS, tN, t0, w0, w1, w2, w3, w4, w5, wm1, upA_ne, upA_same, if_true, if_false, Bool.false_eq_true, q112, e0, f0, w59, hb1, w10, T107]
      exact End.of rfl (fail er (by omega) (by omega))
    · by_cases f2 : rdD B s (i + 1) 0 (m : Int) < 0
      · have er : rdE B s m i E = (rdD B s (i + 1) 0 (m : Int), E) := by rw [rdE, if_neg (by omega), if_neg f1, if_pos f2]
        simp (disch := first | assumption | omega | (simp (disch := omega) only [wN, w0, w1]; omega)) only [e112_0, e112_1, e112_2, e112_5, e112_7, e112_10, e112_11, e112_12, e112_15, e112_16, e112_17, e112_20, e112_22, e112_25, e112_26, e112_27, e112_28, e112_29, e112_32, e112_33, e112_34, e112_35, e112_36, e112_37, e112_38, e112_39, e112_42, e112_45, e112_46, e112_47, e112_50, e112_51, e112_52, e112_53, e112_54, e112_55, e112_56, e112_59, e112_61, e112_64, e112_65, e112_66, e112_67, e112_68, e112_71, e112_72, e112_73, e112_74, e112_75, e112_76, e112_77, e112_78, e112_81, e112_84, e112_86, e112_88, e112_91, e112_93, e112_94, e112_95, e112_97, e112_100, e112_101, e112_102, e112_104, e112_107, e112_110, e112_112, e112_113, e112_114, e112_115, e112_118, e112_119, e112_120, e112_121, e112_123, e112_126, e112_127, kl_I, kl_R, kl_N, kl_L, oSm, oNn, Option.bind_some, wN, if_pos, if_neg, nS, tN, t0, w0, w1, w2, w3, w4, w5, wm1, upA_ne, upA_same, if_true, if_false, Bool.false_eq_true, q112, e0, f0, w59, hb0, hb1, w10, d1, wd1]
        have r1 := (rdD_r B s (i + 1) 0 (m : Int) (Int.le_refl _)).2
        exact End.of rfl (fail er (by omega) (by omega))
      · by_cases f3 : byB B s (i + 2) = 45
        · by_cases f4 : rdD B s (i + 3) 0 (m : Int) < 0
          · have er : rdE B s m i E = (rdD B s (i + 3) 0 (m : Int), E) := by rw [rdE, if_neg (by omega), if_neg f1, if_neg f2, if_neg (by omega), if_pos f4]
            simp (disch := first | assumption | omega | (simp (disch := omega) only [wN, w0, w1]; omega)) only [e112_0, e112_1, e112_2, e112_5, e112_7, e112_10, e112_11, e112_12, e112_15, e112_16, e112_17, e112_20, e112_22, e112_25, e112_26, e112_27, e112_28, e112_29, e112_32, e112_33, e112_34, e112_35, e112_36, e112_37, e112_38, e112_39, e112_42, e112_45, e112_46, e112_47, e112_50, e112_51, e112_52, e112_53, e112_54, e112_55, e112_56, e112_59, e112_61, e112_64, e112_65, e112_66, e112_67, e112_68, e112_71, e112_72, e112_73, e112_74, e112_75, e112_76, e112_77, e112_78, e112_81, e112_84, e112_86, e112_88, e112_91, e112_93, e112_94, e112_95, e112_97, e112_100, e112_101, e112_102, e112_104, e112_107, e112_110, e112_112, e112_113, e112_114, e112_115, e112_118, e112_119, e112_120, e112_121, e112_123, e112_126, e112_127, kl_I, kl_R, kl_N, kl_L, oSm, oNn, Option.bind_some, wN, if_pos, if_neg, nS, tN, t0, w0, w1, w2, w3, w4, w5, wm1, upA_ne, upA_same, if_true, if_false, Bool.false_eq_true, q112, e0, f0, w59, hb0, hb1, w10, d1, wd1, nS2, nS3, e2, f3, w45, d3, wd3]
            have r3 := (rdD_r B s (i + 3) 0 (m : Int) (Int.le_refl _)).2
            exact End.of rfl (fail er (by omega) (by omega))
          · have r1 := (rdD_r B s (i + 1) 0 (m : Int) (Int.le_refl _)).1 (by omega)
            have r3 := (rdD_r B s (i + 3) 0 (m : Int) (Int.le_refl _)).1 (by omega)
            obtain ⟨x, hx⟩ : ∃ x : Nat, rdD B s (i + 1) 0 (m : Int) = (x : Int) := ⟨(rdD B s (i + 1) 0 (m : Int)).toNat, by omega⟩
            obtain ⟨y, hy⟩ : ∃ y : Nat, rdD B s (i + 3) 0 (m : Int) = (y : Int) := ⟨(rdD B s (i + 3) 0 (m : Int)).toNat, by omega⟩
            have er0 : rdE B s m i E = if (x : Int) = (y : Int) ∨ ¬ njB E x y E.length 0 = true then (-1000 * 6 - ((i + 3 : Nat) : Int), E) else (0, E ++ [(min x y, max x y)]) := by
              rw [rdE, if_neg (by omega), if_neg f1, if_neg f2, if_neg (by omega), if_neg f4, hx, hy, tN, tN]
            rw [hx] at d1 r1
            rw [hy] at d3 r3
            have m6 := M6 (d := d) (σ := σ) (p := x) (q := y) hbS hB hE (by omega) (by omega) hv hm
            rw [Nat.sub_zero] at m6
            by_cases f5 : x = y
            · have er : rdE B s m i E = (-1000 * 6 - ((i + 3 : Nat) : Int), E) := by rw [er0, if_pos (Or.inl (by omega))]
              simp (disch := first | assumption | omega | (simp (disch := omega) only [wN, w0, w1]; omega)) only [e112_0, e112_1, e112_2, e112_5, e112_7, e112_10, e112_11, e112_12, e112_15, e112_16, e112_17, e112_20, e112_22, e112_25, e112_26, e112_27, e112_28, e112_29, e112_32, e112_33, e112_34, e112_35, e112_36, e112_37, e112_38, e112_39, e112_42, e112_45, e112_46, e112_47, e112_50, e112_51, e112_52, e112_53, e112_54, e112_55, e112_56, e112_59, e112_61, e112_64, e112_65, e112_66, e112_67, e112_68, e112_71, e112_72, e112_73, e112_74, e112_75, e112_76, e112_77, e112_78, e112_81, e112_84, e112_86, e112_88, e112_91, e112_93, e112_94, e112_95, e112_97, e112_100, e112_101, e112_102, e112_104, e112_107, e112_110, e112_112, e112_113, e112_114, e112_115, e112_118, e112_119, e112_120, e112_121, e112_123, e112_126, e112_127, kl_I, kl_R, kl_N, kl_L, oSm, oNn, Option.bind_some, wN, if_pos, if_neg, nS, tN, t0, w0, w1, w2, w3, w4, w5, wm1, upA_ne, upA_same, if_true, if_false, Bool.false_eq_true, q112, e0, f0, w59, hb0, hb1, w10, d1, nS2, nS3, e2, f3, w45, d3, T107]
              exact End.of rfl (fail er (by omega) (by omega))
            · by_cases f6 : njB E x y E.length 0 = true
              · have er : rdE B s m i E = (0, E ++ [(min x y, max x y)]) := by rw [er0, if_neg (by simp only [f6, not_true_eq_false, or_false]; omega)]
                rw [if_pos f6] at m6
                obtain ⟨r, σ1, a1, rfl, a3, a4⟩ := M5 (d := d + 1) hbS hB (show E.length < 10 by omega) (show x < 5 by omega) (show y < 5 by omega)
                simp (disch := first | assumption | omega | (simp (disch := omega) only [wN, w0, w1]; omega)) only [e112_0, e112_1, e112_2, e112_5, e112_7, e112_10, e112_11, e112_12, e112_15, e112_16, e112_17, e112_20, e112_22, e112_25, e112_26, e112_27, e112_28, e112_29, e112_32, e112_33, e112_34, e112_35, e112_36, e112_37, e112_38, e112_39, e112_42, e112_45, e112_46, e112_47, e112_50, e112_51, e112_52, e112_53, e112_54, e112_55, e112_56, e112_59, e112_61, e112_64, e112_65, e112_66, e112_67, e112_68, e112_71, e112_72, e112_73, e112_74, e112_75, e112_76, e112_77, e112_78, e112_81, e112_84, e112_86, e112_88, e112_91, e112_93, e112_94, e112_95, e112_97, e112_100, e112_101, e112_102, e112_104, e112_107, e112_110, e112_112, e112_113, e112_114, e112_115, e112_118, e112_119, e112_120, e112_121, e112_123, e112_126, e112_127, kl_I, kl_R, kl_N, kl_L, oSm, oNn, Option.bind_some, wN, if_pos, if_neg, nS, tN, t0, w0, w1, w2, w3, w4, w5, wm1, upA_ne, upA_same, if_true, if_false, Bool.false_eq_true, q112, e0, f0, w59, hb0, hb1, w10, d1, nS2, nS3, e2, f3, w45, d3, m6, a1]
                refine End.of rfl ?_
                unfold poE
                rw [er]
                exact ⟨rfl, a3, hv.app ⟨by simp only; omega, by simp only; omega⟩, by simp; omega, by simp only; omega, by simp only; omega, a4⟩
              · have er : rdE B s m i E = (-1000 * 6 - ((i + 3 : Nat) : Int), E) := by rw [er0, if_pos (Or.inr f6)]
                rw [if_neg f6] at m6
                simp (disch := first | assumption | omega | (simp (disch := omega) only [wN, w0, w1]; omega)) only [e112_0, e112_1, e112_2, e112_5, e112_7, e112_10, e112_11, e112_12, e112_15, e112_16, e112_17, e112_20, e112_22, e112_25, e112_26, e112_27, e112_28, e112_29, e112_32, e112_33, e112_34, e112_35, e112_36, e112_37, e112_38, e112_39, e112_42, e112_45, e112_46, e112_47, e112_50, e112_51, e112_52, e112_53, e112_54, e112_55, e112_56, e112_59, e112_61, e112_64, e112_65, e112_66, e112_67, e112_68, e112_71, e112_72, e112_73, e112_74, e112_75, e112_76, e112_77, e112_78, e112_81, e112_84, e112_86, e112_88, e112_91, e112_93, e112_94, e112_95, e112_97, e112_100, e112_101, e112_102, e112_104, e112_107, e112_110, e112_112, e112_113, e112_114, e112_115, e112_118, e112_119, e112_120, e112_121, e112_123, e112_126, e112_127, kl_I, kl_R, kl_N, kl_L, oSm, oNn, Option.bind_some, wN, if_pos, if_neg, nS, tN, t0, w0, w1, w2, w3, w4, w5, wm1, upA_ne, upA_same, if_true, if_false, Bool.false_eq_true, q112, e0, f0, w59, hb0, hb1, w10, d1, nS2, nS3, e2, f3, w45, d3, m6, T107]
                exact End.of rfl (fail er (by omega) (by omega))
        · have er : rdE B s m i E = (-1000 * 1 - ((i + 2 : Nat) : Int), E) := by rw [rdE, if_neg (by omega), if_neg f1, if_neg f2, if_pos f3]
          simp (disch := first | assumption | omega | (simp (disch := omega) only [wN, w0, w1]; omega)) only [e112_0, e112_1, e112_2, e112_5, e112_7, e112_10, e112_11, e112_12, e112_15, e112_16, e112_17, e112_20, e112_22, e112_25, e112_26, e112_27, e112_28, e112_29, e112_32, e112_33, e112_34, e112_35, e112_36, e112_37, e112_38, e112_39, e112_42, e112_45, e112_46, e112_47, e112_50, e112_51, e112_52, e112_53, e112_54, e112_55, e112_56, e112_59, e112_61, e112_64, e112_65, e112_66, e112_67, e112_68, e112_71, e112_72, e112_73, e112_74, e112_75, e112_76, e112_77, e112_78, e112_81, e112_84, e112_86, e112_88, e112_91, e112_93, e112_94, e112_95, e112_97, e112_100, e112_101, e112_102, e112_104, e112_107, e112_110, e112_112, e112_113, e112_114, e112_115, e112_118, e112_119, e112_120, e112_121, e112_123, e112_126, e112_127, kl_I, kl_R, kl_N, kl_L, oSm, oNn, Option.bind_some, wN, if_pos, if_neg, nS, tN, t0, w0, w1, w2, w3, w4, w5, wm1, upA_ne, upA_same, if_true, if_false, Bool.false_eq_true, q112, e0, f0, w59, hb0, hb1, w10, d1, wd1, nS2, nS3, e2, wb2, w45, T107]
          exact End.of rfl (fail er (by omega) (by omega))
  · have er : rdE B s m i E = (-1000 * 1 - (i : Int), E) := by rw [rdE, if_pos f0]
    simp (disch := first | assumption | omega | (simp (disch := omega) only [wN, w0, w1]; omega)) only [e112_0, e112_1, e112_2, e112_5, e112_7, e112_10, e112_11, e112_12, e112_15, e112_16, e112_17, e112_20, e112_22, e112_25, e112_26, e112_27, e112_28, e112_29, e112_32, e112_33, e112_34, e112_35, e112_36, e112_37, e112_38, e112_39, e112_42, e112_45, e112_46, e112_47, e112_50, e112_51, e112_52, e112_53, e112_54, e112_55, e112_56, e112_59, e112_61, e112_64, e112_65, e112_66, e112_67, e112_68, e112_71, e112_72, e112_73, e112_74, e112_75, e112_76, e112_77, e112_78, e112_81, e112_84, e112_86, e112_88, e112_91, e112_93, e112_94, e112_95, e112_97, e112_100, e112_101, e112_102, e112_104, e112_107, e112_110, e112_112, e112_113, e112_114, e112_115, e112_118, e112_119, e112_120, e112_121, e112_123, e112_126, e112_127, kl_I, kl_R, kl_N, kl_L, oSm, oNn, Option.bind_some, wN, if_pos, if_neg, nS, tN, t0, w0, w1, w2, w3, w4, w5, wm1, upA_ne, upA_same, if_true, if_false, Bool.false_eq_true, q112, e0, wb0, w59, T107]
    exact End.of rfl (fail er (by omega) (by omega))
theorem T111 (hs : tpS sh t) (hP : HP σ t B s) (h1 : s ≤ 140) (hbS : bdS sh b) (hap : t + 1 < b ∨ b + 8 < t) : End (run sh (d + 5) 111 [mR t, mR b] σ) (fun r σ' => r = some (mI (rdB B s).1) ∧ (rdB B s).1 ≤ 0 ∧ ((rdB B s).1 = 0 → HB σ' b (rdB B s).2.1 (rdB B s).2.2 ∧ okE (rdB B s).2.1 (rdB B s).2.2 ∧ (rdB B s).2.2.length ≤ 10 ∧ 2 ≤ (rdB B s).2.1 ∧ (rdB B s).2.1 ≤ 5) ∧ frI b (b + 2) σ σ') := by
  have ho := hs.1
  have hbo := hbS.1
  have hsz := hP.1
  have d0 := T108 (d := d + 2) (i := 0) hs hP h1 (by omega) (lo := 2) (bd := 6) (by omega) (by omega)
  have d0 : run sh (d + 3 + 1) 108 [mR t, mI 0, mI 2, mI 6] σ = some (some (mI (rdD B s 0 2 6)), σ) := d0
  have r0 := rdD_r B s 0 2 6 (by omega)
  have wd : wi (rdD B s 0 2 6) = rdD B s 0 2 6 := wi_id (by omega) (by omega)
  by_cases f1 : rdD B s 0 2 6 < 0
  · have er : rdB B s = (rdD B s 0 2 6, 0, []) := by rw [rdB, if_pos f1]
    rw [er]
    simp (disch := first | assumption | omega | (simp (disch := omega) only [wN, w0, w1]; omega)) only [e111_0, e111_1, e111_2, e111_3, e111_5, e111_8, e111_9, e111_10, e111_13, e111_14, e111_15, e111_16, e111_17, e111_20, e111_21, e111_22, e111_25, e111_26, e111_27, e111_28, e111_29, e111_32, e111_35, e111_36, e111_37, e111_38, e111_41, e111_43, e111_45, e111_48, e111_50, e111_51, e111_54, e111_57, e111_58, kl_I, kl_R, kl_N, kl_L, oSm, oNn, Option.bind_some, wN, if_pos, if_neg, nS, tN, t0, w0, w1, w2, w3, w4, w5, wm1, upA_ne, upA_same, if_true, if_false, Bool.false_eq_true, q111, d0, wd]
    exact End.of rfl ⟨rfl, by omega, fun h => by omega, frI.rf⟩
  · have r1 := r0.1 (by omega)
    clear r0
    obtain ⟨m, hm⟩ : ∃ m : Nat, rdD B s 0 2 6 = (m : Int) := ⟨(rdD B s 0 2 6).toNat, by omega⟩
    have er : rdB B s = ((rdF B s m 40 1 []).1, m, (rdF B s m 40 1 []).2) := by rw [rdB, if_neg f1, hm, tN]
    rw [er]
    rw [hm] at d0 r1
    clear wd f1
    have nS4' : ∀ j : Nat, ((1 + 4 * j : Nat) : Int) + 4 = ((1 + 4 * (j + 1) : Nat) : Int) := fun j => rfl
    have L := for_P (40) (fun k => ∀ (σ1 : Mem) (v4 : Option MV), ((∃ E1 : List Ed, rdF B s m (40 - k) (1 + 4 * k) E1 = rdF B s m 40 1 [] ∧ HB σ1 b m E1 ∧ okE m E1 ∧ E1.length ≤ 10) ∧ frI b (b + 2) σ σ1) → End (ev sh (d + 5) 111 27 [some (mR (t)), some (mR (b)), some (mI ((m : Nat) : Int)), some (mI ((1 + 4 * k : Nat) : Int)), v4] [] σ1) (fun r σ' => r = some (mI (rdF B s m 40 1 []).1) ∧ (rdF B s m 40 1 []).1 ≤ 0 ∧ ((rdF B s m 40 1 []).1 = 0 → HB σ' b m (rdF B s m 40 1 []).2 ∧ okE m (rdF B s m 40 1 []).2 ∧ (rdF B s m 40 1 []).2.length ≤ 10 ∧ 2 ≤ m ∧ m ≤ 5) ∧ frI b (b + 2) σ σ')) (by
      intro σ1 v4 hp
      replace hp : (∃ E1 : List Ed, rdF B s m (40 - (40)) (1 + 4 * (40)) E1 = rdF B s m 40 1 [] ∧ HB σ1 b m E1 ∧ okE m E1 ∧ E1.length ≤ 10) ∧ frI b (b + 2) σ σ1 := hp
      show End (ev sh (d + 5) 111 27 [some (mR (t)), some (mR (b)), some (mI ((m : Nat) : Int)), some (mI ((1 + 4 * (40) : Nat) : Int)), v4] [] σ1) (fun r σ' => r = some (mI (rdF B s m 40 1 []).1) ∧ (rdF B s m 40 1 []).1 ≤ 0 ∧ ((rdF B s m 40 1 []).1 = 0 → HB σ' b m (rdF B s m 40 1 []).2 ∧ okE m (rdF B s m 40 1 []).2 ∧ (rdF B s m 40 1 []).2.length ≤ 10 ∧ 2 ≤ m ∧ m ≤ 5) ∧ frI b (b + 2) σ σ')
      obtain ⟨⟨E1, e1, hB1, hv1, hl1⟩, hf⟩ := hp
      have hsz1 : σ1.1 t 1 = (s : Int) := by rw [hf.1 t (by omega)]; exact hsz
      rw [Nat.sub_self, rdF] at e1
      rw [e111_27, ← e1]
      simp (disch := first | assumption | omega | (simp (disch := omega) only [wN, w0, w1]; omega)) only [e111_0, e111_1, e111_2, e111_3, e111_5, e111_8, e111_9, e111_10, e111_13, e111_14, e111_15, e111_16, e111_17, e111_20, e111_21, e111_22, e111_25, e111_26, e111_28, e111_29, e111_32, e111_35, e111_36, e111_37, e111_38, e111_41, e111_43, e111_45, e111_48, e111_50, e111_51, e111_54, e111_57, e111_58, kl_I, kl_R, kl_N, kl_L, oSm, oNn, Option.bind_some, wN, if_pos, if_neg, nS, tN, t0, w0, w1, w2, w3, w4, w5, wm1, upA_ne, upA_same, if_true, if_false, Bool.false_eq_true, hsz1]
      exact End.of rfl ⟨rfl, by omega, fun _ => ⟨hB1, hv1, hl1, by omega, by omega⟩, hf⟩) (fun k hi ih => by
      replace ih : ∀ (σ1 : Mem) (v4 : Option MV), ((∃ E1 : List Ed, rdF B s m (40 - (k + 1)) (1 + 4 * (k + 1)) E1 = rdF B s m 40 1 [] ∧ HB σ1 b m E1 ∧ okE m E1 ∧ E1.length ≤ 10) ∧ frI b (b + 2) σ σ1) → End (ev sh (d + 5) 111 27 [some (mR (t)), some (mR (b)), some (mI ((m : Nat) : Int)), some (mI ((1 + 4 * (k + 1) : Nat) : Int)), v4] [] σ1) (fun r σ' => r = some (mI (rdF B s m 40 1 []).1) ∧ (rdF B s m 40 1 []).1 ≤ 0 ∧ ((rdF B s m 40 1 []).1 = 0 → HB σ' b m (rdF B s m 40 1 []).2 ∧ okE m (rdF B s m 40 1 []).2 ∧ (rdF B s m 40 1 []).2.length ≤ 10 ∧ 2 ≤ m ∧ m ≤ 5) ∧ frI b (b + 2) σ σ') := ih
      intro σ1 v4 hp
      replace hp : (∃ E1 : List Ed, rdF B s m (40 - k) (1 + 4 * k) E1 = rdF B s m 40 1 [] ∧ HB σ1 b m E1 ∧ okE m E1 ∧ E1.length ≤ 10) ∧ frI b (b + 2) σ σ1 := hp
      show End (ev sh (d + 5) 111 27 [some (mR (t)), some (mR (b)), some (mI ((m : Nat) : Int)), some (mI ((1 + 4 * k : Nat) : Int)), v4] [] σ1) (fun r σ' => r = some (mI (rdF B s m 40 1 []).1) ∧ (rdF B s m 40 1 []).1 ≤ 0 ∧ ((rdF B s m 40 1 []).1 = 0 → HB σ' b m (rdF B s m 40 1 []).2 ∧ okE m (rdF B s m 40 1 []).2 ∧ (rdF B s m 40 1 []).2.length ≤ 10 ∧ 2 ≤ m ∧ m ≤ 5) ∧ frI b (b + 2) σ σ')
      obtain ⟨⟨E1, e1, hB1, hv1, hl1⟩, hf⟩ := hp
      have hsz1 : σ1.1 t 1 = (s : Int) := by rw [hf.1 t (by omega)]; exact hsz
      have hP1 : HP σ1 t B s := hP.fr hf (by omega)
      rw [show 40 - k = (40 - (k + 1)) + 1 by omega, rdF] at e1
      by_cases f2 : s ≤ 1 + 4 * k
      · rw [if_pos f2] at e1
        rw [e111_27, ← e1]
        simp (disch := first | assumption | omega | (simp (disch := omega) only [wN, w0, w1]; omega)) only [e111_0, e111_1, e111_2, e111_3, e111_5, e111_8, e111_9, e111_10, e111_13, e111_14, e111_15, e111_16, e111_17, e111_20, e111_21, e111_22, e111_25, e111_26, e111_28, e111_29, e111_32, e111_35, e111_36, e111_37, e111_38, e111_41, e111_43, e111_45, e111_48, e111_50, e111_51, e111_54, e111_57, e111_58, kl_I, kl_R, kl_N, kl_L, oSm, oNn, Option.bind_some, wN, if_pos, if_neg, nS, tN, t0, w0, w1, w2, w3, w4, w5, wm1, upA_ne, upA_same, if_true, if_false, Bool.false_eq_true, hsz1]
        exact End.of rfl ⟨rfl, by omega, fun _ => ⟨hB1, hv1, hl1, by omega, by omega⟩, hf⟩
      · rw [if_neg f2] at e1
        obtain ⟨r, σ2, a1, a2, a3, a4, a5, a6, a7, a8⟩ := T112 (d := d) (i := 1 + 4 * k) hs hP1 h1 (by omega) hbS hB1 hl1 hv1 (by omega) hap
        rw [a2] at a1
        have wv : wi (rdE B s m (1 + 4 * k) E1).1 = (rdE B s m (1 + 4 * k) E1).1 := wi_id (by omega) (by omega)
        by_cases f3 : (rdE B s m (1 + 4 * k) E1).1 < 0
        · rw [if_pos f3] at e1
          rw [e111_27, ← e1]
          simp (disch := first | assumption | omega | (simp (disch := omega) only [wN, w0, w1]; omega)) only [e111_0, e111_1, e111_2, e111_3, e111_5, e111_8, e111_9, e111_10, e111_13, e111_14, e111_15, e111_16, e111_17, e111_20, e111_21, e111_22, e111_25, e111_26, e111_28, e111_29, e111_32, e111_35, e111_36, e111_37, e111_38, e111_41, e111_43, e111_45, e111_48, e111_50, e111_51, e111_54, e111_57, e111_58, kl_I, kl_R, kl_N, kl_L, oSm, oNn, Option.bind_some, wN, if_pos, if_neg, nS, tN, t0, w0, w1, w2, w3, w4, w5, wm1, upA_ne, upA_same, if_true, if_false, Bool.false_eq_true, hsz1, a1, wv]
          exact End.of rfl ⟨rfl, by omega, fun h => by omega, hf.tr a8⟩
        · rw [if_neg f3] at e1
          rw [e111_27]
          simp (disch := first | assumption | omega | (simp (disch := omega) only [wN, w0, w1]; omega)) only [e111_0, e111_1, e111_2, e111_3, e111_5, e111_8, e111_9, e111_10, e111_13, e111_14, e111_15, e111_16, e111_17, e111_20, e111_21, e111_22, e111_25, e111_26, e111_28, e111_29, e111_32, e111_35, e111_36, e111_37, e111_38, e111_41, e111_43, e111_45, e111_48, e111_50, e111_51, e111_54, e111_57, e111_58, kl_I, kl_R, kl_N, kl_L, oSm, oNn, Option.bind_some, wN, if_pos, if_neg, nS, tN, t0, w0, w1, w2, w3, w4, w5, wm1, upA_ne, upA_same, if_true, if_false, Bool.false_eq_true, hsz1, a1, wv, nS4']
          exact ih _ _ ⟨⟨_, by rw [show 1 + 4 * (k + 1) = 1 + 4 * k + 4 by omega]; exact e1, a3, a4, a5⟩, hf.tr a8⟩) 0 (Nat.zero_le _)
    have f0 : frI b (b + 2) σ (upA σ.1 b (up1 (up1 (σ.1 b) 0 (m : Int)) 1 0), σ.2) := frI.up (by omega)
    simp (disch := first | assumption | omega | (simp (disch := omega) only [wN, w0, w1]; omega)) only [e111_0, e111_1, e111_2, e111_3, e111_5, e111_8, e111_9, e111_10, e111_13, e111_14, e111_15, e111_16, e111_17, e111_20, e111_21, e111_22, e111_25, e111_26, e111_28, e111_29, e111_32, e111_35, e111_36, e111_37, e111_38, e111_41, e111_43, e111_45, e111_48, e111_50, e111_51, e111_54, e111_57, e111_58, kl_I, kl_R, kl_N, kl_L, oSm, oNn, Option.bind_some, wN, if_pos, if_neg, nS, tN, t0, w0, w1, w2, w3, w4, w5, wm1, upA_ne, upA_same, if_true, if_false, Bool.false_eq_true, q111, d0, upA_upA]
    refine L _ none ⟨⟨[], rfl, ⟨?_, ?_, fun j hj => absurd hj (Nat.not_lt_zero _)⟩, fun q hq => by simp at hq, by simp⟩, f0⟩
    · show upA _ _ _ _ _ = _
      rw [upA_same, up1_ne (by omega), up1_same]
    · show upA _ _ _ _ _ = _
      rw [upA_same, up1_same]; rfl
/-- the byte of z above 8 k bits -/
def bzN (z : Int) (k : Nat) : Nat := (xand (xshr z ((8 * k : Nat) : Int)) 255).toNat
theorem xand_255 (x : Int) : ∃ n : Nat, n < 256 ∧ xand x 255 = (n : Int) := by
  have h : ((Int32.ofInt x).toBitVec &&& 255#32).toNat < 256 := by
    rw [BitVec.toNat_and]
    exact Nat.lt_of_le_of_lt Nat.and_le_right (by decide)
  refine ⟨((Int32.ofInt x).toBitVec &&& 255#32).toNat, h, ?_⟩
  show ((Int32.ofInt x).toBitVec &&& 255#32).toInt = _
  rw [BitVec.toInt_eq_toNat_of_lt (by omega)]
theorem bzN_r (z : Int) (k : Nat) : bzN z k < 256 ∧ xand (xshr z ((8 * k : Nat) : Int)) 255 = (bzN z k : Int) := by
  obtain ⟨n, h1, h2⟩ := xand_255 (xshr z ((8 * k : Nat) : Int))
  unfold bzN
  rw [h2, tN]
  exact ⟨h1, rfl⟩
/-- i of the four bytes of z come behind s of them -/
def bzi (B : Nat → Nat) (s : Nat) (z : Int) (i : Nat) : Nat → Nat := fun j => if s ≤ j ∧ j < s + i then bzN z (3 - (j - s)) else B j
theorem bzi_s {B : Nat → Nat} {s i j : Nat} {z : Int} : bzi B s z (i + 1) j = if j = s + i then bzN z (3 - i) else bzi B s z i j := by
  unfold bzi
  by_cases e : j = s + i
  · subst e; rw [if_pos (by omega), if_pos rfl, show s + i - s = i by omega]
  · rw [if_neg e]
    by_cases h : s ≤ j ∧ j < s + i
    · rw [if_pos (by omega), if_pos h]
    · rw [if_neg (by omega), if_neg h]
theorem bzi_0 {B : Nat → Nat} {s : Nat} {z : Int} : bzi B s z 0 = B := funext fun j => by unfold bzi; rw [if_neg (by omega)]
theorem T105 (hs : tpS sh t) (hP : HP σ t B s) (h1 : s + 4 ≤ 140) {z : Int} : End (run sh (d + 1) 105 [mR t, mI z] σ) (fun r σ' => r = none ∧ HP σ' t (bzi B s z 4) (s + 4) ∧ frI t (t + 1) σ σ') := by
  obtain ⟨ho, r0, k1, l1, hw⟩ := id hs
  have w140 : wi ((140 : Nat) : Int) = 140 := rfl
  have L := for_P (4) (fun i => ∀ (σ1 : Mem), (HP σ1 t (bzi B s z i) (s + i) ∧ frI t (t + 1) σ σ1) → End (ev sh (d + 1) 105 3 [some (mR (t)), some (mI (z)), some (mI (24 - 8 * (i : Int)))] [] σ1) (fun r σ' => r = none ∧ HP σ' t (bzi B s z 4) (s + 4) ∧ frI t (t + 1) σ σ')) (by
    intro σ1  hp
    replace hp : HP σ1 t (bzi B s z (4)) (s + (4)) ∧ frI t (t + 1) σ σ1 := hp
    show End (ev sh (d + 1) 105 3 [some (mR (t)), some (mI (z)), some (mI (24 - 8 * ((4) : Int)))] [] σ1) (fun r σ' => r = none ∧ HP σ' t (bzi B s z 4) (s + 4) ∧ frI t (t + 1) σ σ')
    have wm : wi (24 - 8 * ((4 : Nat) : Int)) = -8 := rfl
    rw [e105_3]
    simp (disch := first | assumption | omega | (simp (disch := omega) only [wN, w0, w1]; omega)) only [e105_0, e105_2, e105_4, e105_7, e105_8, e105_11, e105_12, e105_15, e105_16, e105_17, e105_18, e105_21, e105_22, e105_25, e105_26I, e105_26R, e105_27, e105_30, e105_31, e105_32, e105_35, e105_38, e105_41, kl_I, kl_R, kl_N, kl_L, oSm, oNn, Option.bind_some, wN, if_pos, if_neg, nS, tN, t0, w0, w1, w2, w3, w4, w5, wm1, upA_ne, upA_same, if_true, if_false, Bool.false_eq_true, wm]
    exact End.of rfl ⟨rfl, hp⟩) (fun i hi ih => by
    replace ih : ∀ (σ1 : Mem), (HP σ1 t (bzi B s z (i + 1)) (s + (i + 1)) ∧ frI t (t + 1) σ σ1) → End (ev sh (d + 1) 105 3 [some (mR (t)), some (mI (z)), some (mI (24 - 8 * ((i + 1) : Int)))] [] σ1) (fun r σ' => r = none ∧ HP σ' t (bzi B s z 4) (s + 4) ∧ frI t (t + 1) σ σ') := ih
    intro σ1  hp
    replace hp : HP σ1 t (bzi B s z i) (s + i) ∧ frI t (t + 1) σ σ1 := hp
    show End (ev sh (d + 1) 105 3 [some (mR (t)), some (mI (z)), some (mI (24 - 8 * (i : Int)))] [] σ1) (fun r σ' => r = none ∧ HP σ' t (bzi B s z 4) (s + 4) ∧ frI t (t + 1) σ σ')
    have hl := hp.1.1
    have wm : wi (24 - 8 * (i : Int)) = 24 - 8 * (i : Int) := wi_id (by omega) (by omega)
    have wl' : wi ((s + i : Nat) : Int) = ((s + i : Nat) : Int) := wN (by omega)
    have bb := bzN_r z (3 - i)
    have b3 : xand (xshr z (24 - 8 * (i : Int))) 255 = (bzN z (3 - i) : Int) := by
      rw [← bb.2, show ((8 * (3 - i) : Nat) : Int) = 24 - 8 * (i : Int) by omega]
    have a1 : 24 - 8 * (i : Int) + -8 = 24 - 8 * ((i + 1 : Nat) : Int) := by omega
    rw [e105_3]
    simp (disch := first | assumption | omega | (simp (disch := omega) only [wN, w0, w1]; omega)) only [e105_0, e105_2, e105_4, e105_7, e105_8, e105_11, e105_12, e105_15, e105_16, e105_17, e105_18, e105_21, e105_22, e105_25, e105_26I, e105_26R, e105_27, e105_30, e105_31, e105_32, e105_35, e105_38, e105_41, kl_I, kl_R, kl_N, kl_L, oSm, oNn, Option.bind_some, wN, if_pos, if_neg, nS, tN, t0, w0, w1, w2, w3, w4, w5, wm1, upA_ne, upA_same, if_true, if_false, Bool.false_eq_true, hl, r0, K289n k1 l1 (by omega) hw (show s + i < 140 by omega), wm, a1, b3, up1_same, up1_ne, upA_upA]
    refine ih _ ⟨⟨?_, fun j hj => ?_⟩, hp.2.tr ⟨fun a ha => ?_, rfl⟩⟩
    · simp (disch := omega) only [upA_same, upA_ne, up1_same]
      rfl
    · have h0 := hp.1.2 j hj
      simp (disch := omega) only [upA_same, upA_ne]
      rw [bzi_s]
      by_cases e0 : j = s + i
      · subst e0
        rw [up1_same, if_pos rfl]
        exact ⟨rfl, bb.1⟩
      · rw [up1_ne e0, if_neg e0]
        exact h0
    · simp (disch := omega) only [upA_ne]) 0 (Nat.zero_le _)
  simp (disch := first | assumption | omega | (simp (disch := omega) only [wN, w0, w1]; omega)) only [e105_0, e105_2, e105_4, e105_7, e105_8, e105_11, e105_12, e105_15, e105_16, e105_17, e105_18, e105_21, e105_22, e105_25, e105_26I, e105_26R, e105_27, e105_30, e105_31, e105_32, e105_35, e105_38, e105_41, kl_I, kl_R, kl_N, kl_L, oSm, oNn, Option.bind_some, wN, if_pos, if_neg, nS, tN, t0, w0, w1, w2, w3, w4, w5, wm1, upA_ne, upA_same, if_true, if_false, Bool.false_eq_true, q105]
  exact L σ ⟨by rw [bzi_0]; exact hP, frI.rf⟩
end TPB

