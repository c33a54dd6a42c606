/-! ===== the reference: board, whole ===== -/
section MK
variable {sh : Shp} {d t g n m i : Nat} {σ : Mem} {a : AX} {z w v u lo : Int} {E : List Ed} {B : Nat → Nat} {L p q : Nat}
def poF (σ : Mem) (m : Nat) (r : Int × List Ed) (b : Int) (σ' : Mem) : Prop := frW 135 136 22 28 σ σ' ∧ σ'.1 124 27 = σ.1 124 27 ∧ ((b = 1 ∧ r.1 = 0 ∧ HNe σ' r.2 ∧ okE m r.2 ∧ r.2.length ≤ 10) ∨ (b = 0 ∧ r.1 < 0 ∧ σ'.1 124 24 = r.1))
theorem M186a (hM : MS sh) (hL : L ≤ 140) (hm2 : 2 ≤ m) (hm : m ≤ 5) : ∀ (f : Nat) (E : List Ed) (σ : Mem) (i : Nat), L ≤ i + 4 * f → HQ σ B L i → i < 500 → HNe σ E → okE m E → E.length ≤ 10 → σ.1 124 27 = (m : Int) → ∃ b σ', ev sh (d + 3) 186 50 [some (mR (124)), some (mI ((L : Nat) : Int)), some (mI (1)), none] [] σ = ev sh (d + 3) 186 90 [some (mR (124)), some (mI ((L : Nat) : Int)), some (mI (b)), none] [] σ' ∧ poF σ m (rdF B L m f i E) b σ' := by
  intro f
  have mo := hM.1
  induction f with
  | zero =>
    intro E σ i hf hq hi hN hv hE hm0
    obtain ⟨q1', q2', q3'⟩ := id hq
    refine ⟨1, σ, ?_, frW.rf, rfl, Or.inl ⟨rfl, rfl, hN, hv, hE⟩⟩
    rw [e186_50]
    simp (disch := first | assumption | omega | (simp (disch := omega) only [wN, w0, w1]; omega)) only [e186_0, e186_1, e186_2, e186_4, e186_7, e186_10, e186_11, e186_12, e186_15, e186_18, e186_19, e186_20, e186_21, e186_22, e186_25, e186_26, e186_27, e186_30, e186_31, e186_32, e186_35, e186_36, e186_37, e186_38, e186_41, e186_42, e186_43, e186_44, e186_47, e186_51, e186_54, e186_55, e186_58, e186_59, e186_62, e186_65, e186_66, e186_68, e186_71, e186_74, e186_75, e186_78, e186_81, e186_82, e186_85, e186_86, e186_87, e186_91, e186_92, e186_95, e186_96, e186_99, e186_100, e186_103, e186_104, e186_105, e186_106, e186_109, e186_112, e186_113, e186_114, e186_117, e186_120, e186_121, e186_122, e186_123, e186_125, e186_128, e186_129, e186_132, e186_133, e186_134, e186_137, e186_138, e186_139, e186_140, e186_141, e186_144, e186_145, e186_146, e186_149, e186_150, e186_151, e186_152, e186_155, e186_158, e186_159, e186_162, e186_163, e186_166, kl_I, kl_R, kl_N, kl_L, oSm, oNn, Option.bind_some, wN, if_pos, if_neg, nS, tN, t0, w0, w1, w2, w3, w4, w5, wm1, upA_ne, upA_same, if_true, if_false, Bool.false_eq_true, q2', q3']
  | succ f ih =>
    intro E σ i hf hq hi hN hv hE hm0
    obtain ⟨q1', q2', q3'⟩ := id hq
    by_cases h : L ≤ i
    · refine ⟨1, σ, ?_, frW.rf, rfl, ?_⟩
      · rw [e186_50]
        simp (disch := first | assumption | omega | (simp (disch := omega) only [wN, w0, w1]; omega)) only [e186_0, e186_1, e186_2, e186_4, e186_7, e186_10, e186_11, e186_12, e186_15, e186_18, e186_19, e186_20, e186_21, e186_22, e186_25, e186_26, e186_27, e186_30, e186_31, e186_32, e186_35, e186_36, e186_37, e186_38, e186_41, e186_42, e186_43, e186_44, e186_47, e186_51, e186_54, e186_55, e186_58, e186_59, e186_62, e186_65, e186_66, e186_68, e186_71, e186_74, e186_75, e186_78, e186_81, e186_82, e186_85, e186_86, e186_87, e186_91, e186_92, e186_95, e186_96, e186_99, e186_100, e186_103, e186_104, e186_105, e186_106, e186_109, e186_112, e186_113, e186_114, e186_117, e186_120, e186_121, e186_122, e186_123, e186_125, e186_128, e186_129, e186_132, e186_133, e186_134, e186_137, e186_138, e186_139, e186_140, e186_141, e186_144, e186_145, e186_146, e186_149, e186_150, e186_151, e186_152, e186_155, e186_158, e186_159, e186_162, e186_163, e186_166, kl_I, kl_R, kl_N, kl_L, oSm, oNn, Option.bind_some, wN, if_pos, if_neg, nS, tN, t0, w0, w1, w2, w3, w4, w5, wm1, upA_ne, upA_same, if_true, if_false, Bool.false_eq_true, q2', q3']
      · rw [rdF, if_pos h]
        exact Or.inl ⟨rfl, rfl, hN, hv, hE⟩
    · obtain ⟨r, σ1, i1, i2⟩ := M179 (d := d + 1) (z := 59) hM hq hL (by omega) (by omega)
      rw [rdF, if_neg h]
      rcases i2 with ⟨j1, rfl, j3, j4⟩ | ⟨j1, rfl, j3, j4⟩
      · have N1 := hN.fr j4 (by omega) (by omega)
        have m1 : σ1.1 124 27 = (m : Int) := by rw [j4.2 27 (by omega)]; exact hm0
        obtain ⟨r2, σ2, k1, k2, k2', k3⟩ := M185 (d := d) hM j3 hL (by omega) N1 hE hv m1 hm2 hm j1
        have f2 : frW 135 136 22 28 σ σ2 := (j4.w (by omega) (by omega) (by omega) (by omega)).tr k2
        have m2 : σ2.1 124 27 = σ.1 124 27 := by rw [k2', m1, hm0]
        rcases k3 with ⟨g1, rfl, g3⟩ | ⟨g1, rfl, g4, g5, g6, g7⟩
        · rw [if_pos g1]
          refine ⟨0, σ2, ?_, f2, m2, Or.inr ⟨rfl, g1, g3⟩⟩
          rw [e186_50]
          simp (disch := first | assumption | omega | (simp (disch := omega) only [wN, w0, w1]; omega)) only [e186_0, e186_1, e186_2, e186_4, e186_7, e186_10, e186_11, e186_12, e186_15, e186_18, e186_19, e186_20, e186_21, e186_22, e186_25, e186_26, e186_27, e186_30, e186_31, e186_32, e186_35, e186_36, e186_37, e186_38, e186_41, e186_42, e186_43, e186_44, e186_47, e186_51, e186_54, e186_55, e186_58, e186_59, e186_62, e186_65, e186_66, e186_68, e186_71, e186_74, e186_75, e186_78, e186_81, e186_82, e186_85, e186_86, e186_87, e186_91, e186_92, e186_95, e186_96, e186_99, e186_100, e186_103, e186_104, e186_105, e186_106, e186_109, e186_112, e186_113, e186_114, e186_117, e186_120, e186_121, e186_122, e186_123, e186_125, e186_128, e186_129, e186_132, e186_133, e186_134, e186_137, e186_138, e186_139, e186_140, e186_141, e186_144, e186_145, e186_146, e186_149, e186_150, e186_151, e186_152, e186_155, e186_158, e186_159, e186_162, e186_163, e186_166, kl_I, kl_R, kl_N, kl_L, oSm, oNn, Option.bind_some, wN, if_pos, if_neg, nS, tN, t0, w0, w1, w2, w3, w4, w5, wm1, upA_ne, upA_same, if_true, if_false, Bool.false_eq_true, q2', q3', i1, k1]
          rw [e186_50]
          simp (disch := first | assumption | omega | (simp (disch := omega) only [wN, w0, w1]; omega)) only [e186_0, e186_1, e186_2, e186_4, e186_7, e186_10, e186_11, e186_12, e186_15, e186_18, e186_19, e186_20, e186_21, e186_22, e186_25, e186_26, e186_27, e186_30, e186_31, e186_32, e186_35, e186_36, e186_37, e186_38, e186_41, e186_42, e186_43, e186_44, e186_47, e186_51, e186_54, e186_55, e186_58, e186_59, e186_62, e186_65, e186_66, e186_68, e186_71, e186_74, e186_75, e186_78, e186_81, e186_82, e186_85, e186_86, e186_87, e186_91, e186_92, e186_95, e186_96, e186_99, e186_100, e186_103, e186_104, e186_105, e186_106, e186_109, e186_112, e186_113, e186_114, e186_117, e186_120, e186_121, e186_122, e186_123, e186_125, e186_128, e186_129, e186_132, e186_133, e186_134, e186_137, e186_138, e186_139, e186_140, e186_141, e186_144, e186_145, e186_146, e186_149, e186_150, e186_151, e186_152, e186_155, e186_158, e186_159, e186_162, e186_163, e186_166, kl_I, kl_R, kl_N, kl_L, oSm, oNn, Option.bind_some, wN, if_pos, if_neg, nS, tN, t0, w0, w1, w2, w3, w4, w5, wm1, upA_ne, upA_same, if_true, if_false, Bool.false_eq_true]
        · rw [if_neg (by omega)]
          obtain ⟨b, σ', u1', u2', u3', u4'⟩ := ih _ σ2 (i + 4) (by omega) g4 (by omega) g5 g6 g7 (by rw [m2]; exact hm0)
          refine ⟨b, σ', ?_, f2.tr u2', by rw [u3', m2], u4'⟩
          rw [← u1', e186_50]
          simp (disch := first | assumption | omega | (simp (disch := omega) only [wN, w0, w1]; omega)) only [e186_0, e186_1, e186_2, e186_4, e186_7, e186_10, e186_11, e186_12, e186_15, e186_18, e186_19, e186_20, e186_21, e186_22, e186_25, e186_26, e186_27, e186_30, e186_31, e186_32, e186_35, e186_36, e186_37, e186_38, e186_41, e186_42, e186_43, e186_44, e186_47, e186_51, e186_54, e186_55, e186_58, e186_59, e186_62, e186_65, e186_66, e186_68, e186_71, e186_74, e186_75, e186_78, e186_81, e186_82, e186_85, e186_86, e186_87, e186_91, e186_92, e186_95, e186_96, e186_99, e186_100, e186_103, e186_104, e186_105, e186_106, e186_109, e186_112, e186_113, e186_114, e186_117, e186_120, e186_121, e186_122, e186_123, e186_125, e186_128, e186_129, e186_132, e186_133, e186_134, e186_137, e186_138, e186_139, e186_140, e186_141, e186_144, e186_145, e186_146, e186_149, e186_150, e186_151, e186_152, e186_155, e186_158, e186_159, e186_162, e186_163, e186_166, kl_I, kl_R, kl_N, kl_L, oSm, oNn, Option.bind_some, wN, if_pos, if_neg, nS, tN, t0, w0, w1, w2, w3, w4, w5, wm1, upA_ne, upA_same, if_true, if_false, Bool.false_eq_true, q2', q3', i1, k1]
      · have er : (rdE B L m i E) = (-1000 * 1 - (i : Int), E) := by rw [rdE, if_pos j1]
        rw [er]
        simp only
        rw [if_pos (by omega)]
        refine ⟨0, σ1, ?_, j4.w (by omega) (by omega) (by omega) (by omega), by rw [j4.2 27 (by omega)], Or.inr ⟨rfl, by simp only; omega, j3⟩⟩
        rw [e186_50]
        simp (disch := first | assumption | omega | (simp (disch := omega) only [wN, w0, w1]; omega)) only [e186_0, e186_1, e186_2, e186_4, e186_7, e186_10, e186_11, e186_12, e186_15, e186_18, e186_19, e186_20, e186_21, e186_22, e186_25, e186_26, e186_27, e186_30, e186_31, e186_32, e186_35, e186_36, e186_37, e186_38, e186_41, e186_42, e186_43, e186_44, e186_47, e186_51, e186_54, e186_55, e186_58, e186_59, e186_62, e186_65, e186_66, e186_68, e186_71, e186_74, e186_75, e186_78, e186_81, e186_82, e186_85, e186_86, e186_87, e186_91, e186_92, e186_95, e186_96, e186_99, e186_100, e186_103, e186_104, e186_105, e186_106, e186_109, e186_112, e186_113, e186_114, e186_117, e186_120, e186_121, e186_122, e186_123, e186_125, e186_128, e186_129, e186_132, e186_133, e186_134, e186_137, e186_138, e186_139, e186_140, e186_141, e186_144, e186_145, e186_146, e186_149, e186_150, e186_151, e186_152, e186_155, e186_158, e186_159, e186_162, e186_163, e186_166, kl_I, kl_R, kl_N, kl_L, oSm, oNn, Option.bind_some, wN, if_pos, if_neg, nS, tN, t0, w0, w1, w2, w3, w4, w5, wm1, upA_ne, upA_same, if_true, if_false, Bool.false_eq_true, q2', q3', i1]
        rw [e186_50]
        simp (disch := first | assumption | omega | (simp (disch := omega) only [wN, w0, w1]; omega)) only [e186_0, e186_1, e186_2, e186_4, e186_7, e186_10, e186_11, e186_12, e186_15, e186_18, e186_19, e186_20, e186_21, e186_22, e186_25, e186_26, e186_27, e186_30, e186_31, e186_32, e186_35, e186_36, e186_37, e186_38, e186_41, e186_42, e186_43, e186_44, e186_47, e186_51, e186_54, e186_55, e186_58, e186_59, e186_62, e186_65, e186_66, e186_68, e186_71, e186_74, e186_75, e186_78, e186_81, e186_82, e186_85, e186_86, e186_87, e186_91, e186_92, e186_95, e186_96, e186_99, e186_100, e186_103, e186_104, e186_105, e186_106, e186_109, e186_112, e186_113, e186_114, e186_117, e186_120, e186_121, e186_122, e186_123, e186_125, e186_128, e186_129, e186_132, e186_133, e186_134, e186_137, e186_138, e186_139, e186_140, e186_141, e186_144, e186_145, e186_146, e186_149, e186_150, e186_151, e186_152, e186_155, e186_158, e186_159, e186_162, e186_163, e186_166, kl_I, kl_R, kl_N, kl_L, oSm, oNn, Option.bind_some, wN, if_pos, if_neg, nS, tN, t0, w0, w1, w2, w3, w4, w5, wm1, upA_ne, upA_same, if_true, if_false, Bool.false_eq_true]
theorem cpE2 (hM : MS sh) : ∃ σ1, (∀ j, j < 10 → σ1.1 127 j = σ.1 135 j ∧ σ1.1 128 j = σ.1 136 j) ∧ frW 127 128 1 0 σ σ1 ∧ (ev sh d 186 122 [some (mR (124)), some (mI ((L : Nat) : Int)), some (mI (1)), some (mI ((0 : Nat) : Int))] [] σ) = ev sh d 186 158 [some (mR (124)), some (mI ((L : Nat) : Int)), some (mI (1)), some (mI ((10 : Nat) : Int))] [] σ1 := by
  have mo := hM.1
  have m160 := hM.2.1
  obtain ⟨ra2, rk2, rl2⟩ := ms2 hM
  obtain ⟨ra3, rk3, rl3⟩ := ms3 hM
  obtain ⟨ra19, rk19, rl19⟩ := ms19 hM
  obtain ⟨ra20, rk20, rl20⟩ := ms20 hM
  have w10 : wi 10 = 10 := rfl
  have key : ∀ t : Nat, t ≤ 10 → ∀ σ1 : Mem, (∀ j, j < 10 - t → σ1.1 127 j = σ.1 135 j ∧ σ1.1 128 j = σ.1 136 j) → frW 127 128 1 0 σ σ1 → ∃ σ2, (∀ j, j < 10 → σ2.1 127 j = σ.1 135 j ∧ σ2.1 128 j = σ.1 136 j) ∧ frW 127 128 1 0 σ σ2 ∧ (ev sh d 186 122 [some (mR (124)), some (mI ((L : Nat) : Int)), some (mI (1)), some (mI ((10 - t : Nat) : Int))] [] σ1) = ev sh d 186 158 [some (mR (124)), some (mI ((L : Nat) : Int)), some (mI (1)), some (mI ((10 : Nat) : Int))] [] σ2 := by
    intro t
    induction t with
    | zero =>
      intro _ σ1 h1 h2
      refine ⟨σ1, h1, h2, ?_⟩
      rw [Nat.sub_zero, e186_122]
      simp (disch := first | assumption | omega | (simp (disch := omega) only [wN, w0, w1]; omega)) only [e186_0, e186_1, e186_2, e186_4, e186_7, e186_10, e186_11, e186_12, e186_15, e186_18, e186_19, e186_20, e186_21, e186_22, e186_25, e186_26, e186_27, e186_30, e186_31, e186_32, e186_35, e186_36, e186_37, e186_38, e186_41, e186_42, e186_43, e186_44, e186_47, e186_51, e186_54, e186_55, e186_58, e186_59, e186_62, e186_65, e186_66, e186_68, e186_71, e186_74, e186_75, e186_78, e186_81, e186_82, e186_85, e186_86, e186_87, e186_90, e186_91, e186_92, e186_95, e186_96, e186_99, e186_100, e186_103, e186_104, e186_105, e186_106, e186_109, e186_112, e186_113, e186_114, e186_117, e186_120, e186_121, e186_123, e186_125, e186_128, e186_129, e186_132, e186_133, e186_134, e186_137, e186_138, e186_139, e186_140, e186_141, e186_144, e186_145, e186_146, e186_149, e186_150, e186_151, e186_152, e186_155, e186_159, e186_162, e186_163, e186_166, kl_I, kl_R, kl_N, kl_L, oSm, oNn, Option.bind_some, wN, if_pos, if_neg, nS, tN, t0, w0, w1, w2, w3, w4, w5, wm1, upA_ne, upA_same, if_true, if_false, Bool.false_eq_true, w10]
    | succ t ih =>
      intro ht σ1 h1 h2
      obtain ⟨i, hi⟩ : ∃ i, 10 - (t + 1) = i := ⟨_, rfl⟩
      have hi2 : 10 - t = i + 1 := by omega
      rw [hi] at h1 ⊢
      rw [hi2] at ih
      have e1 : σ1.1 135 = σ.1 135 := (h2.1 135 (by omega) (by omega)).1
      have e2 : σ1.1 136 = σ.1 136 := (h2.1 136 (by omega) (by omega)).1
      have f1 : frW 127 128 1 0 σ1 (upA σ1.1 127 (up1 (σ1.1 127) i (σ1.1 135 i)), σ1.2) := frW.a (by omega) (by omega)
      have f2 : frW 127 128 1 0 (upA σ1.1 127 (up1 (σ1.1 127) i (σ1.1 135 i)), σ1.2) (upA (upA σ1.1 127 (up1 (σ1.1 127) i (σ1.1 135 i))) 128 (up1 (σ1.1 128) i (σ1.1 136 i)), σ1.2) := frW.a (by omega) (by omega)
      obtain ⟨σ2, g1, g2, g3⟩ := ih (by omega) (upA (upA σ1.1 127 (up1 (σ1.1 127) i (σ1.1 135 i))) 128 (up1 (σ1.1 128) i (σ1.1 136 i)), σ1.2) (fun j hj => by
        simp (disch := omega) only [upA_same, upA_ne]
        by_cases e : j = i
        · subst e
          simp only [up1_same, e1, e2]
          exact ⟨trivial, trivial⟩
        · rw [up1_ne e, up1_ne e]; exact h1 j (by omega)) ((h2.tr f1).tr f2)
      refine ⟨σ2, g1, g2, ?_⟩
      rw [← g3, e186_122]
      simp (disch := first | assumption | omega | (simp (disch := omega) only [wN, w0, w1]; omega)) only [e186_0, e186_1, e186_2, e186_4, e186_7, e186_10, e186_11, e186_12, e186_15, e186_18, e186_19, e186_20, e186_21, e186_22, e186_25, e186_26, e186_27, e186_30, e186_31, e186_32, e186_35, e186_36, e186_37, e186_38, e186_41, e186_42, e186_43, e186_44, e186_47, e186_51, e186_54, e186_55, e186_58, e186_59, e186_62, e186_65, e186_66, e186_68, e186_71, e186_74, e186_75, e186_78, e186_81, e186_82, e186_85, e186_86, e186_87, e186_90, e186_91, e186_92, e186_95, e186_96, e186_99, e186_100, e186_103, e186_104, e186_105, e186_106, e186_109, e186_112, e186_113, e186_114, e186_117, e186_120, e186_121, e186_123, e186_125, e186_128, e186_129, e186_132, e186_133, e186_134, e186_137, e186_138, e186_139, e186_140, e186_141, e186_144, e186_145, e186_146, e186_149, e186_150, e186_151, e186_152, e186_155, e186_159, e186_162, e186_163, e186_166, kl_I, kl_R, kl_N, kl_L, oSm, oNn, Option.bind_some, wN, if_pos, if_neg, nS, tN, t0, w0, w1, w2, w3, w4, w5, wm1, upA_ne, upA_same, if_true, if_false, Bool.false_eq_true, w10, ra2, rl2, ra3, rl3, ra19, rl19, ra20, rl20]
  obtain ⟨σ2, g1, g2, g3⟩ := key 10 (Nat.le_refl _) σ (fun j hj => by omega) frW.rf
  exact ⟨σ2, g1, g2, g3⟩
theorem M186 (hM : MS sh) (h : InvM sh σ a) (hz : i32 z) : End (run sh (d + 4) 186 [mR 124, mI z] σ) (fun r σ' => r = some (mI (aBoard a z).1) ∧ InvM sh σ' (aBoard a z).2) := by
  have h00 := h
  have mo := hM.1
  have m160 := hM.2.1
  obtain ⟨ra2, rk2, rl2⟩ := ms2 hM
  obtain ⟨ra3, rk3, rl3⟩ := ms3 hM
  obtain ⟨ra19, rk19, rl19⟩ := ms19 hM
  obtain ⟨ra20, rk20, rl20⟩ := ms20 hM
  obtain ⟨⟨n, c, m, E, P, x⟩, K, B, s, T⟩ := a
  obtain ⟨⟨hG, hN, hMp, hEl, hx0, hE, hP, hoS⟩, hik, hKp, hTp, h140, hTm⟩ := id h
  replace hG : HGm σ 0 c := hG
  replace hN : σ.1 124 8 = (n : Int) := hN
  replace hMp : σ.1 124 9 = (m : Int) := hMp
  replace hEl : σ.1 124 10 = (E.length : Int) := hEl
  replace hx0 : σ.1 124 11 = (x : Int) := hx0
  replace hE : HEm σ 127 128 E := hE
  replace hP : ∀ y, y < n → σ.1 129 y = (P y : Int) := hP
  replace hoS : okZ n c m E P x := hoS
  replace hTp : HPm σ B s := hTp
  replace h140 : s ≤ 140 := h140
  replace hTm : HT sh σ 157 T := hTm
  replace hik : σ.1 124 16 = bi K.isSome := hik
  obtain ⟨n1, n4', c30, hv, m2, m5, E10, hvE, hPk, x16⟩ := id hoS
  have hw := hz.w
  have hl := hTp.1
  have e := E164 (sh := sh) (d := d + 3) (σ := σ) (z := z) (w := 1) (v := 60) hz ⟨by omega, by omega⟩ ⟨by omega, by omega⟩
  have ws : wi (s : Int) = (s : Int) := wN (by omega)
  unfold aBoard
  by_cases h1 : z < 1 ∨ 60 < z
  · rw [if_pos (by simp only; omega)]
    rw [if_neg (by omega)] at e
    simp (disch := first | assumption | omega | (simp (disch := omega) only [wN, w0, w1]; omega)) only [e186_0, e186_1, e186_2, e186_4, e186_7, e186_10, e186_11, e186_12, e186_15, e186_18, e186_19, e186_20, e186_21, e186_22, e186_25, e186_26, e186_27, e186_30, e186_31, e186_32, e186_35, e186_36, e186_37, e186_38, e186_41, e186_42, e186_43, e186_44, e186_47, e186_51, e186_54, e186_55, e186_58, e186_59, e186_62, e186_65, e186_66, e186_68, e186_71, e186_74, e186_75, e186_78, e186_81, e186_82, e186_85, e186_86, e186_87, e186_90, e186_91, e186_92, e186_95, e186_96, e186_99, e186_100, e186_103, e186_104, e186_105, e186_106, e186_109, e186_112, e186_113, e186_114, e186_117, e186_120, e186_121, e186_123, e186_125, e186_128, e186_129, e186_132, e186_133, e186_134, e186_137, e186_138, e186_139, e186_140, e186_141, e186_144, e186_145, e186_146, e186_149, e186_150, e186_151, e186_152, e186_155, e186_158, e186_159, e186_162, e186_163, e186_166, kl_I, kl_R, kl_N, kl_L, oSm, oNn, Option.bind_some, wN, if_pos, if_neg, nS, tN, t0, w0, w1, w2, w3, w4, w5, wm1, upA_ne, upA_same, if_true, if_false, Bool.false_eq_true, q186, e]
    exact End.of rfl ⟨rfl, h⟩
  · rw [if_pos (by omega)] at e
    by_cases h2 : (s : Int) < z
    · rw [if_pos (by simp only; omega)]
      simp (disch := first | assumption | omega | (simp (disch := omega) only [wN, w0, w1]; omega)) only [e186_0, e186_1, e186_2, e186_4, e186_7, e186_10, e186_11, e186_12, e186_15, e186_18, e186_19, e186_20, e186_21, e186_22, e186_25, e186_26, e186_27, e186_30, e186_31, e186_32, e186_35, e186_36, e186_37, e186_38, e186_41, e186_42, e186_43, e186_44, e186_47, e186_51, e186_54, e186_55, e186_58, e186_59, e186_62, e186_65, e186_66, e186_68, e186_71, e186_74, e186_75, e186_78, e186_81, e186_82, e186_85, e186_86, e186_87, e186_90, e186_91, e186_92, e186_95, e186_96, e186_99, e186_100, e186_103, e186_104, e186_105, e186_106, e186_109, e186_112, e186_113, e186_114, e186_117, e186_120, e186_121, e186_123, e186_125, e186_128, e186_129, e186_132, e186_133, e186_134, e186_137, e186_138, e186_139, e186_140, e186_141, e186_144, e186_145, e186_146, e186_149, e186_150, e186_151, e186_152, e186_155, e186_158, e186_159, e186_162, e186_163, e186_166, kl_I, kl_R, kl_N, kl_L, oSm, oNn, Option.bind_some, wN, if_pos, if_neg, nS, tN, t0, w0, w1, w2, w3, w4, w5, wm1, upA_ne, upA_same, if_true, if_false, Bool.false_eq_true, q186, e, hw, hl, ws]
      exact End.of rfl ⟨rfl, h⟩
    · rw [if_neg (by simp only; omega)]
      obtain ⟨k, rfl⟩ : ∃ k : Nat, z = (k : Int) := ⟨z.toNat, by omega⟩
      simp only [Int.toNat_natCast]
      have f0 : frW 135 136 22 28 σ (upA σ.1 124 (up1 (up1 (up1 (σ.1 124) 22 0) 23 (k : Int)) 28 0), σ.2) := ⟨fun b _ hb => ⟨upA_ne hb, rfl⟩, fun i hi => by
        simp (disch := omega) only [upA_same, up1_ne]⟩
      have q0 : HQ (upA σ.1 124 (up1 (up1 (up1 (σ.1 124) 22 0) 23 (k : Int)) 28 0), σ.2) B k 0 := by
        refine ⟨fun j hj => ?_, ?_, ?_⟩
        · simp (disch := omega) only [upA_ne]; exact hTp.2 j hj
        · simp (disch := omega) only [upA_same, up1_ne, up1_same]; rfl
        · simp (disch := omega) only [upA_same, up1_ne, up1_same]
      have N0 : HNe (upA σ.1 124 (up1 (up1 (up1 (σ.1 124) 22 0) 23 (k : Int)) 28 0), σ.2) [] := by
        refine ⟨?_, fun j hj => absurd hj (Nat.not_lt_zero _)⟩
        simp (disch := omega) only [upA_same, up1_same]; rfl
      generalize hσ0 : (upA σ.1 124 (up1 (up1 (up1 (σ.1 124) 22 0) 23 (k : Int)) 28 0), σ.2) = σ0 at f0 q0 N0
      obtain ⟨r, σ1, a1, a2, a3⟩ := M180 (d := d + 2) (lo := 2) (hi := 5) hM q0 (show k ≤ 140 by omega) (by omega) (by omega) (by omega)
      have rd : ∃ b σ', run sh (d + 4) 186 [mR 124, mI (k : Int)] σ = ev sh (d + 4) 186 90 [some (mR (124)), some (mI ((k : Nat) : Int)), some (mI (b)), none] [] σ' ∧ frW 135 136 22 28 σ σ' ∧ ((b = 1 ∧ (rdB B k).1 = 0 ∧ HNe σ' (rdB B k).2.2 ∧ okE (rdB B k).2.1 (rdB B k).2.2 ∧ (rdB B k).2.2.length ≤ 10 ∧ σ'.1 124 27 = ((rdB B k).2.1 : Int) ∧ 2 ≤ (rdB B k).2.1 ∧ (rdB B k).2.1 ≤ 5) ∨ (b = 0 ∧ (rdB B k).1 < 0 ∧ σ'.1 124 24 = (rdB B k).1)) := by
        rcases a2 with ⟨b1, rfl, b3, b4⟩ | ⟨b1, rfl, b3, b4⟩
        · have b1 : 0 ≤ rdD B k 0 2 6 := b1
          have a3 : σ1.1 124 25 = rdD B k 0 2 6 := a3 b1
          have r1 := (rdD_r B k 0 2 6 (by omega)).1 b1
          obtain ⟨m', hm'⟩ : ∃ m' : Nat, rdD B k 0 2 6 = (m' : Int) := ⟨(rdD B k 0 2 6).toNat, by omega⟩
          rw [hm'] at a3 r1
          have er : rdB B k = ((rdF B k m' 40 1 []).1, m', (rdF B k m' 40 1 []).2) := by rw [rdB, if_neg (by omega), hm', tN]
          have q1 : HQ (upA σ1.1 124 (up1 (σ1.1 124) 27 (m' : Int)), σ1.2) B k 1 := HQ.up b3 (by omega)
          have f1 : frW 1 0 27 27 σ1 (upA σ1.1 124 (up1 (σ1.1 124) 27 (m' : Int)), σ1.2) := frW.f (by omega)
          have N1 := (N0.fr b4 (by omega) (by omega)).fr f1 (by omega) (by omega)
          have m1 : (upA σ1.1 124 (up1 (σ1.1 124) 27 (m' : Int)), σ1.2).1 124 27 = (m' : Int) := by simp (disch := omega) only [upA_same, up1_same]
          obtain ⟨b, σ', p1, p2, p3, p4⟩ := M186a (d := d + 1) (L := k) hM (by omega) (show 2 ≤ m' by omega) (by omega) 40 [] _ 1 (by omega) q1 (by omega) N1 (fun q hq => by simp at hq) (by simp) m1
          refine ⟨b, σ', ?_, (f0.tr (b4.w (by omega) (by omega) (by omega) (by omega))).tr ((f1.w (by omega) (by omega) (by omega) (by omega)).tr p2), ?_⟩
          · rw [← p1]
            simp (disch := first | assumption | omega | (simp (disch := omega) only [wN, w0, w1]; omega)) only [e186_0, e186_1, e186_2, e186_4, e186_7, e186_10, e186_11, e186_12, e186_15, e186_18, e186_19, e186_20, e186_21, e186_22, e186_25, e186_26, e186_27, e186_30, e186_31, e186_32, e186_35, e186_36, e186_37, e186_38, e186_41, e186_42, e186_43, e186_44, e186_47, e186_51, e186_54, e186_55, e186_58, e186_59, e186_62, e186_65, e186_66, e186_68, e186_71, e186_74, e186_75, e186_78, e186_81, e186_82, e186_85, e186_86, e186_87, e186_90, e186_91, e186_92, e186_95, e186_96, e186_99, e186_100, e186_103, e186_104, e186_105, e186_106, e186_109, e186_112, e186_113, e186_114, e186_117, e186_120, e186_121, e186_123, e186_125, e186_128, e186_129, e186_132, e186_133, e186_134, e186_137, e186_138, e186_139, e186_140, e186_141, e186_144, e186_145, e186_146, e186_149, e186_150, e186_151, e186_152, e186_155, e186_158, e186_159, e186_162, e186_163, e186_166, kl_I, kl_R, kl_N, kl_L, oSm, oNn, Option.bind_some, wN, if_pos, if_neg, nS, tN, t0, w0, w1, w2, w3, w4, w5, wm1, upA_ne, upA_same, if_true, if_false, Bool.false_eq_true, q186, e, hw, hl, ws, upA_upA, hσ0, a1, a3]
          · rw [er]
            rcases p4 with ⟨c1, c2, c3, c4, c5⟩ | ⟨c1, c2, c3⟩
            · exact Or.inl ⟨c1, c2, c3, c4, c5, by rw [p3]; exact m1, by simp only; omega, by simp only; omega⟩
            · exact Or.inr ⟨c1, c2, c3⟩
        · have b1 : rdD B k 0 2 6 < 0 := Int.not_le.mp b1
          have b3 : σ1.1 124 24 = rdD B k 0 2 6 := b3
          have er : rdB B k = (rdD B k 0 2 6, 0, []) := by rw [rdB, if_pos b1]
          refine ⟨0, (upA σ1.1 124 (up1 (σ1.1 124) 27 (σ1.1 124 25)), σ1.2), ?_, (f0.tr (b4.w (by omega) (by omega) (by omega) (by omega))).tr (frW.f (by omega)), Or.inr ⟨rfl, by rw [er]; exact b1, ?_⟩⟩
          · simp (disch := first | assumption | omega | (simp (disch := omega) only [wN, w0, w1]; omega)) only [e186_0, e186_1, e186_2, e186_4, e186_7, e186_10, e186_11, e186_12, e186_15, e186_18, e186_19, e186_20, e186_21, e186_22, e186_25, e186_26, e186_27, e186_30, e186_31, e186_32, e186_35, e186_36, e186_37, e186_38, e186_41, e186_42, e186_43, e186_44, e186_47, e186_51, e186_54, e186_55, e186_58, e186_59, e186_62, e186_65, e186_66, e186_68, e186_71, e186_74, e186_75, e186_78, e186_81, e186_82, e186_85, e186_86, e186_87, e186_91, e186_92, e186_95, e186_96, e186_99, e186_100, e186_103, e186_104, e186_105, e186_106, e186_109, e186_112, e186_113, e186_114, e186_117, e186_120, e186_121, e186_123, e186_125, e186_128, e186_129, e186_132, e186_133, e186_134, e186_137, e186_138, e186_139, e186_140, e186_141, e186_144, e186_145, e186_146, e186_149, e186_150, e186_151, e186_152, e186_155, e186_158, e186_159, e186_162, e186_163, e186_166, kl_I, kl_R, kl_N, kl_L, oSm, oNn, Option.bind_some, wN, if_pos, if_neg, nS, tN, t0, w0, w1, w2, w3, w4, w5, wm1, upA_ne, upA_same, if_true, if_false, Bool.false_eq_true, q186, e, hw, hl, ws, upA_upA, hσ0, a1]
            rw [e186_50]
            simp (disch := first | assumption | omega | (simp (disch := omega) only [wN, w0, w1]; omega)) only [e186_0, e186_1, e186_2, e186_4, e186_7, e186_10, e186_11, e186_12, e186_15, e186_18, e186_19, e186_20, e186_21, e186_22, e186_25, e186_26, e186_27, e186_30, e186_31, e186_32, e186_35, e186_36, e186_37, e186_38, e186_41, e186_42, e186_43, e186_44, e186_47, e186_51, e186_54, e186_55, e186_58, e186_59, e186_62, e186_65, e186_66, e186_68, e186_71, e186_74, e186_75, e186_78, e186_81, e186_82, e186_85, e186_86, e186_87, e186_91, e186_92, e186_95, e186_96, e186_99, e186_100, e186_103, e186_104, e186_105, e186_106, e186_109, e186_112, e186_113, e186_114, e186_117, e186_120, e186_121, e186_123, e186_125, e186_128, e186_129, e186_132, e186_133, e186_134, e186_137, e186_138, e186_139, e186_140, e186_141, e186_144, e186_145, e186_146, e186_149, e186_150, e186_151, e186_152, e186_155, e186_158, e186_159, e186_162, e186_163, e186_166, kl_I, kl_R, kl_N, kl_L, oSm, oNn, Option.bind_some, wN, if_pos, if_neg, nS, tN, t0, w0, w1, w2, w3, w4, w5, wm1, upA_ne, upA_same, if_true, if_false, Bool.false_eq_true]
          · rw [er]
            simp (disch := omega) only [upA_same, up1_ne]
            exact b3
      clear a1 a2 a3 q0 N0 f0 hσ0
      obtain ⟨b, σ2, p1, f1, p3⟩ := rd
      rw [p1]
      have hB1 : HBy σ2 B := fun j hj => by rw [(f1.1 133 (by omega) (by omega)).1]; exact hTp.2 j hj
      have f2 : frW 1 0 21 21 σ2 (upA σ2.1 124 (up1 (σ2.1 124) 21 0), σ2.2) := frW.f (by omega)
      have hI : InvM sh (upA σ2.1 124 (up1 (σ2.1 124) 21 0), σ2.2) ((n, c, m, E, P, x), K, B, 0, T) := by
        refine h00.tap (fun b b1 b2 b3 b4 => ?_) (fun i hi => ?_) ⟨?_, fun j hj => ?_⟩ (by omega)
        · rw [(f2.1 b (by omega) (by omega)).1, (f1.1 b (by omega) (by omega)).1]
        · rw [f2.2 i (by omega), f1.2 i (by omega)]
        · simp (disch := omega) only [upA_same, up1_same]; rfl
        · simp (disch := omega) only [upA_ne]; exact hB1 j hj
      rcases p3 with ⟨rfl, r1, r2, r3, r4, r5, r6, r7⟩ | ⟨rfl, r1, r2⟩
      · rw [if_neg (by omega)]
        generalize (rdB B k).2.1 = m' at r3 r5 r6 r7 ⊢
        generalize (rdB B k).2.2 = E' at r2 r3 r4 ⊢
        have h28 := r2.1
        have f3 : frW 1 0 9 10 (upA σ2.1 124 (up1 (σ2.1 124) 21 0), σ2.2) (upA σ2.1 124 (up1 (up1 (up1 (σ2.1 124) 21 0) 9 (m' : Int)) 10 (E'.length : Int)), σ2.2) := ⟨fun b _ hb => ⟨by simp (disch := omega) only [upA_ne], rfl⟩, fun i hi => by
          simp (disch := omega) only [upA_same, up1_ne]⟩
        obtain ⟨σ3, o1, o2, o3⟩ := cpE2 (d := d + 4) (L := k) (σ := (upA σ2.1 124 (up1 (up1 (up1 (σ2.1 124) 21 0) 9 (m' : Int)) 10 (E'.length : Int)), σ2.2)) hM
        obtain ⟨r, σ4, i1, rfl, i3, i4⟩ := E169 (d := d + 3) (σ := σ3) hM
        have k124 : ∀ i, σ4.1 124 i = (upA σ2.1 124 (up1 (up1 (up1 (σ2.1 124) 21 0) 9 (m' : Int)) 10 (E'.length : Int)), σ2.2).1 124 i := fun i => by rw [i4.2 i (by omega), o2.2 i (by omega)]
        have h10 : σ4.1 124 10 = (E'.length : Int) := by
          rw [k124]
          simp (disch := omega) only [upA_same, up1_same]
        simp (disch := first | assumption | omega | (simp (disch := omega) only [wN, w0, w1]; omega)) only [e186_0, e186_1, e186_2, e186_4, e186_7, e186_10, e186_11, e186_12, e186_15, e186_18, e186_19, e186_20, e186_21, e186_22, e186_25, e186_26, e186_27, e186_30, e186_31, e186_32, e186_35, e186_36, e186_37, e186_38, e186_41, e186_42, e186_43, e186_44, e186_47, e186_51, e186_54, e186_55, e186_58, e186_59, e186_62, e186_65, e186_66, e186_68, e186_71, e186_74, e186_75, e186_78, e186_81, e186_82, e186_85, e186_86, e186_87, e186_90, e186_91, e186_92, e186_95, e186_96, e186_99, e186_100, e186_103, e186_104, e186_105, e186_106, e186_109, e186_112, e186_113, e186_114, e186_117, e186_120, e186_121, e186_123, e186_125, e186_128, e186_129, e186_132, e186_133, e186_134, e186_137, e186_138, e186_139, e186_140, e186_141, e186_144, e186_145, e186_146, e186_149, e186_150, e186_151, e186_152, e186_155, e186_159, e186_162, e186_163, e186_166, kl_I, kl_R, kl_N, kl_L, oSm, oNn, Option.bind_some, wN, if_pos, if_neg, nS, tN, t0, w0, w1, w2, w3, w4, w5, wm1, upA_ne, upA_same, if_true, if_false, Bool.false_eq_true, r5, h28, up1_ne, upA_upA]
        refine End.cg o3 ?_
        simp (disch := first | assumption | omega | (simp (disch := omega) only [wN, w0, w1]; omega)) only [e186_0, e186_1, e186_2, e186_4, e186_7, e186_10, e186_11, e186_12, e186_15, e186_18, e186_19, e186_20, e186_21, e186_22, e186_25, e186_26, e186_27, e186_30, e186_31, e186_32, e186_35, e186_36, e186_37, e186_38, e186_41, e186_42, e186_43, e186_44, e186_47, e186_51, e186_54, e186_55, e186_58, e186_59, e186_62, e186_65, e186_66, e186_68, e186_71, e186_74, e186_75, e186_78, e186_81, e186_82, e186_85, e186_86, e186_87, e186_90, e186_91, e186_92, e186_95, e186_96, e186_99, e186_100, e186_103, e186_104, e186_105, e186_106, e186_109, e186_112, e186_113, e186_114, e186_117, e186_120, e186_121, e186_123, e186_125, e186_128, e186_129, e186_132, e186_133, e186_134, e186_137, e186_138, e186_139, e186_140, e186_141, e186_144, e186_145, e186_146, e186_149, e186_150, e186_151, e186_152, e186_155, e186_158, e186_159, e186_162, e186_163, e186_166, kl_I, kl_R, kl_N, kl_L, oSm, oNn, Option.bind_some, wN, if_pos, if_neg, nS, tN, t0, w0, w1, w2, w3, w4, w5, wm1, upA_ne, upA_same, if_true, if_false, Bool.false_eq_true, i1, h10]
        refine End.of rfl ⟨rfl, ?_⟩
        have ka : ∀ b, 125 ≤ b → b ≠ 127 → b ≠ 128 → b ≠ 129 → σ4.1 b = (upA σ2.1 124 (up1 (σ2.1 124) 21 0), σ2.2).1 b := fun b b1 b2 b3 b4 => by
          rw [(i4.1 b (by omega) (by omega)).1, (o2.1 b (by omega) (by omega)).1, (f3.1 b (by omega) (by omega)).1]
        have kf : ∀ i, i ≠ 9 → i ≠ 10 → σ4.1 124 i = (upA σ2.1 124 (up1 (σ2.1 124) 21 0), σ2.2).1 124 i := fun i j1 j2 => by rw [k124 i, f3.2 i (by omega)]
        obtain ⟨g1, g2, g3, g4, g5, g6, g7, g8⟩ := hI.1
        refine hI.now ⟨g1.k (by rw [ka 126 (by omega) (by omega) (by omega) (by omega)]) (fun i _ _ => by rw [ka 125 (by omega) (by omega) (by omega) (by omega)]), by rw [kf 8 (by omega) (by omega)]; exact g2, ?_, h10, by rw [kf 11 (by omega) (by omega)]; exact g5, fun j hj => ?_, fun y hy => i3 y (Nat.lt_of_lt_of_le hy n4'), ⟨n1, n4', c30, hv, r6, r7, r4, r3, fun hh => okP_id hh, x16⟩⟩ (fun i i1 i2 => kf i (by omega) (by omega)) (fun i i1 i2 => by rw [ka 125 (by omega) (by omega) (by omega) (by omega)]) (by rw [ka 126 (by omega) (by omega) (by omega) (by omega)]) (fun b b1 b2 => ka b (by omega) (by omega) (by omega) (by omega)) (ka 157 (by omega) (by omega) (by omega) (by omega))
        · rw [k124]
          simp (disch := omega) only [upA_same, up1_same, up1_ne]
        · rw [(i4.1 127 (by omega) (by omega)).1, (i4.1 (127 + 1) (by omega) (by omega)).1]
          have hj : j < E'.length := hj
          obtain ⟨v1, v2⟩ := o1 j (by omega)
          have := r2.2 j hj
          rw [v1]
          show _ ∧ σ3.1 128 j = _
          rw [v2]
          simp (disch := omega) only [upA_ne]
          exact this
      · rw [if_pos r1]
        simp (disch := first | assumption | omega | (simp (disch := omega) only [wN, w0, w1]; omega)) only [e186_0, e186_1, e186_2, e186_4, e186_7, e186_10, e186_11, e186_12, e186_15, e186_18, e186_19, e186_20, e186_21, e186_22, e186_25, e186_26, e186_27, e186_30, e186_31, e186_32, e186_35, e186_36, e186_37, e186_38, e186_41, e186_42, e186_43, e186_44, e186_47, e186_51, e186_54, e186_55, e186_58, e186_59, e186_62, e186_65, e186_66, e186_68, e186_71, e186_74, e186_75, e186_78, e186_81, e186_82, e186_85, e186_86, e186_87, e186_90, e186_91, e186_92, e186_95, e186_96, e186_99, e186_100, e186_103, e186_104, e186_105, e186_106, e186_109, e186_112, e186_113, e186_114, e186_117, e186_120, e186_121, e186_123, e186_125, e186_128, e186_129, e186_132, e186_133, e186_134, e186_137, e186_138, e186_139, e186_140, e186_141, e186_144, e186_145, e186_146, e186_149, e186_150, e186_151, e186_152, e186_155, e186_158, e186_159, e186_162, e186_163, e186_166, kl_I, kl_R, kl_N, kl_L, oSm, oNn, Option.bind_some, wN, if_pos, if_neg, nS, tN, t0, w0, w1, w2, w3, w4, w5, wm1, upA_ne, upA_same, if_true, if_false, Bool.false_eq_true, r2, up1_ne]
        exact End.of rfl ⟨rfl, hI⟩
end MK

