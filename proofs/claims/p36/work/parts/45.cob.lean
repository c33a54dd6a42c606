/-! ===== Column in M: a gate at all states ===== -/
theorem and_p {s a : Nat} : s &&& 2 ^ a = if s.testBit a = true then 2 ^ a else 0 := by
  apply Nat.eq_of_testBit_eq
  intro j
  rw [Nat.testBit_and, Nat.testBit_two_pow]
  by_cases h : s.testBit a = true
  · rw [if_pos h, Nat.testBit_two_pow]
    by_cases e : a = j
    · subst e; simp [h]
    · simp [e]
  · rw [if_neg h, Nat.zero_testBit]
    by_cases e : a = j
    · subst e; simp [h]
    · simp [e]
/-- the second line's mask, of a gate of two lines -/
def twM (q : Gt) : Nat := if 3 ≤ q.1 then 2 ^ q.2.2.toNat else 0
section COB
variable {sh : Shp} {d c n : Nat} {σ : Mem} {W : Vc} {q : Gt} {pw : Nat}
set_option maxRecDepth 100000 in
theorem C15 (hs : coS sh c) (hV : HV σ (c + 1) W) (hN : σ.1 c 1 = ((2 ^ n : Nat) : Int)) (hn : n ≤ 4) (hq : vG n q) (hpw : σ.1 c 2 = (pw : Int)) : End (run sh (d + 2) 15 [mR c, mI (q.1 : Int), mI (q.2.1 : Int), mI q.2.2] σ) (fun r σ' => r = none ∧ HV σ' (c + 1) (doW q (2 ^ n) W) ∧ σ'.1 = upA σ.1 c (up1 (σ.1 c) 2 ((pw + ktH q : Nat) : Int)) ∧ ∀ a, a ≠ c + 1 → σ'.2 a = σ.2 a) := by
  obtain ⟨ho, r0, k1, l1, hw⟩ := id hs
  have v1 := hq.1
  have v2 := hq.2.1
  have v5 := hq.2.2.2.2
  have h16 : 2 ^ n ≤ 2 ^ 4 := Nat.pow_le_pow_right (by omega) hn
  have p1 : 2 ^ q.2.1 < 2 ^ n := Nat.pow_lt_pow_right (by omega) v2
  have p1' : 0 < 2 ^ q.2.1 := Nat.two_pow_pos _
  have A := for_P (2 ^ n) (fun s => ∀ (σ1 : Mem) (v7 v8 : Option MV), (HV σ1 (c + 1) (doW q s W) ∧ frL (c + 1) σ σ1) → End (ev sh (d + 2) 15 22 [some (mR (c)), some (mI ((q.1 : Nat) : Int)), some (mI ((q.2.1 : Nat) : Int)), some (mI (q.2.2)), some (mI ((2 ^ q.2.1 : Nat) : Int)), some (mI ((twM q : Nat) : Int)), some (mI ((s : Nat) : Int)), v7, v8] [] σ1) (fun r σ' => r = none ∧ HV σ' (c + 1) (doW q (2 ^ n) W) ∧ σ'.1 = upA σ.1 c (up1 (σ.1 c) 2 ((pw + ktH q : Nat) : Int)) ∧ ∀ a, a ≠ c + 1 → σ'.2 a = σ.2 a)) (by
    intro σ1 v7 v8 hp
    replace hp : HV σ1 (c + 1) (doW q (2 ^ n) W) ∧ frL (c + 1) σ σ1 := hp
    show End (ev sh (d + 2) 15 22 [some (mR (c)), some (mI ((q.1 : Nat) : Int)), some (mI ((q.2.1 : Nat) : Int)), some (mI (q.2.2)), some (mI ((2 ^ q.2.1 : Nat) : Int)), some (mI ((twM q : Nat) : Int)), some (mI (((2 ^ n) : Nat) : Int)), v7, v8] [] σ1) (fun r σ' => r = none ∧ HV σ' (c + 1) (doW q (2 ^ n) W) ∧ σ'.1 = upA σ.1 c (up1 (σ.1 c) 2 ((pw + ktH q : Nat) : Int)) ∧ ∀ a, a ≠ c + 1 → σ'.2 a = σ.2 a)
    have hN1 : σ1.1 c 1 = ((2 ^ n : Nat) : Int) := by rw [hp.2.1]; exact hN
    have hp1 : σ1.1 c 2 = (pw : Int) := by rw [hp.2.1]; exact hpw
    rw [e15_22]
    by_cases h : q.1 = 1
    · have e : (pw : Int) + 1 = ((pw + ktH q : Nat) : Int) := by rw [ktH, if_pos h]; rfl
      simp (disch := first | assumption | omega | (simp (disch := omega) only [wN, w0, w1]; omega)) only [e15_0, e15_1, e15_2, e15_3, e15_5, e15_6, e15_7, e15_10, e15_11, e15_12, e15_13, e15_16, e15_17, e15_19, e15_20, e15_24, e15_25, e15_28, e15_31, e15_33, e15_35, e15_36, e15_39, e15_40, e15_43, e15_44, e15_46, e15_48, e15_50, e15_51, e15_54, e15_55, e15_58, e15_59, e15_61, e15_62, e15_65, e15_67, e15_70, e15_71, e15_73, e15_74, e15_77, e15_80, e15_81, e15_82, e15_85, e15_87, e15_90, e15_91, e15_93, e15_95, e15_97, e15_98, e15_101, e15_104, e15_105, e15_106, e15_109, e15_111, e15_114, e15_115, e15_117, e15_119, e15_121, e15_122, e15_125, e15_128, e15_129, e15_130, e15_133, e15_135, e15_138, e15_140, e15_143, e15_144, e15_146, e15_148, e15_150, e15_151, e15_154, e15_157, e15_158, e15_159, e15_162, e15_164, e15_167, e15_169, e15_172, e15_173, e15_175, e15_176, e15_179, e15_182, e15_183, e15_184, e15_187, e15_189, e15_192, e15_194, e15_197, e15_198, e15_200, e15_202, e15_204, e15_205, e15_207, e15_208, e15_211, e15_214, e15_217, e15_218I, e15_218R, e15_219, e15_222, e15_223, e15_224, e15_227, e15_228, e15_231, e15_232, e15_233, e15_236, kl_I, kl_R, kl_N, kl_L, oSm, oNn, Option.bind_some, wN, if_pos, if_neg, nS, tN, t0, w0, w1, w2, w3, w4, w5, wm1, upA_ne, upA_same, if_true, if_false, hN1, hp1]
      refine End.of rfl ⟨rfl, hp.1, ?_, hp.2.2⟩
      show upA _ _ _ = _
      rw [hp.2.1, ktH, if_pos h]
    · simp (disch := first | assumption | omega | (simp (disch := omega) only [wN, w0, w1]; omega)) only [e15_0, e15_1, e15_2, e15_3, e15_5, e15_6, e15_7, e15_10, e15_11, e15_12, e15_13, e15_16, e15_17, e15_19, e15_20, e15_24, e15_25, e15_28, e15_31, e15_33, e15_35, e15_36, e15_39, e15_40, e15_43, e15_44, e15_46, e15_48, e15_50, e15_51, e15_54, e15_55, e15_58, e15_59, e15_61, e15_62, e15_65, e15_67, e15_70, e15_71, e15_73, e15_74, e15_77, e15_80, e15_81, e15_82, e15_85, e15_87, e15_90, e15_91, e15_93, e15_95, e15_97, e15_98, e15_101, e15_104, e15_105, e15_106, e15_109, e15_111, e15_114, e15_115, e15_117, e15_119, e15_121, e15_122, e15_125, e15_128, e15_129, e15_130, e15_133, e15_135, e15_138, e15_140, e15_143, e15_144, e15_146, e15_148, e15_150, e15_151, e15_154, e15_157, e15_158, e15_159, e15_162, e15_164, e15_167, e15_169, e15_172, e15_173, e15_175, e15_176, e15_179, e15_182, e15_183, e15_184, e15_187, e15_189, e15_192, e15_194, e15_197, e15_198, e15_200, e15_202, e15_204, e15_205, e15_207, e15_208, e15_211, e15_214, e15_217, e15_218I, e15_218R, e15_219, e15_222, e15_223, e15_224, e15_227, e15_228, e15_231, e15_232, e15_233, e15_236, kl_I, kl_R, kl_N, kl_L, oSm, oNn, Option.bind_some, wN, if_pos, if_neg, nS, tN, t0, w0, w1, w2, w3, w4, w5, wm1, upA_ne, upA_same, if_true, if_false, hN1, hp1]
      refine End.of rfl ⟨rfl, hp.1, ?_, hp.2.2⟩
      show upA _ _ _ = _
      rw [hp.2.1, ktH, if_neg h, Int.add_zero, Nat.add_zero]) (fun s hi ih => by
    replace ih : ∀ (σ1 : Mem) (v7 v8 : Option MV), (HV σ1 (c + 1) (doW q (s + 1) W) ∧ frL (c + 1) σ σ1) → End (ev sh (d + 2) 15 22 [some (mR (c)), some (mI ((q.1 : Nat) : Int)), some (mI ((q.2.1 : Nat) : Int)), some (mI (q.2.2)), some (mI ((2 ^ q.2.1 : Nat) : Int)), some (mI ((twM q : Nat) : Int)), some (mI (((s + 1) : Nat) : Int)), v7, v8] [] σ1) (fun r σ' => r = none ∧ HV σ' (c + 1) (doW q (2 ^ n) W) ∧ σ'.1 = upA σ.1 c (up1 (σ.1 c) 2 ((pw + ktH q : Nat) : Int)) ∧ ∀ a, a ≠ c + 1 → σ'.2 a = σ.2 a) := ih
    intro σ1 v7 v8 hp
    replace hp : HV σ1 (c + 1) (doW q s W) ∧ frL (c + 1) σ σ1 := hp
    show End (ev sh (d + 2) 15 22 [some (mR (c)), some (mI ((q.1 : Nat) : Int)), some (mI ((q.2.1 : Nat) : Int)), some (mI (q.2.2)), some (mI ((2 ^ q.2.1 : Nat) : Int)), some (mI ((twM q : Nat) : Int)), some (mI ((s : Nat) : Int)), v7, v8] [] σ1) (fun r σ' => r = none ∧ HV σ' (c + 1) (doW q (2 ^ n) W) ∧ σ'.1 = upA σ.1 c (up1 (σ.1 c) 2 ((pw + ktH q : Nat) : Int)) ∧ ∀ a, a ≠ c + 1 → σ'.2 a = σ.2 a)
    have hN1 : σ1.1 c 1 = ((2 ^ n : Nat) : Int) := by rw [hp.2.1]; exact hN
    have x1 := xand_nn (a := s) (b := 2 ^ q.2.1) (by omega)
    have x2 := xand_nn (a := s) (b := twM q) (by omega)
    have x3 := xor_nn (a := s) (b := 2 ^ q.2.1) (by omega) (by omega)
    rw [and_p] at x1
    have go : ∀ {σ2 : Mem} (v7 v8 : Option MV), HV σ2 (c + 1) (stW q s (doW q s W)) → frL (c + 1) σ1 σ2 → End (ev sh (d + 2) 15 22 [some (mR (c)), some (mI ((q.1 : Nat) : Int)), some (mI ((q.2.1 : Nat) : Int)), some (mI (q.2.2)), some (mI ((2 ^ q.2.1 : Nat) : Int)), some (mI ((twM q : Nat) : Int)), some (mI ((s + 1 : Nat) : Int)), v7, v8] [] σ2) (fun r σ' => r = none ∧ HV σ' (c + 1) (doW q (2 ^ n) W) ∧ σ'.1 = upA σ.1 c (up1 (σ.1 c) 2 ((pw + ktH q : Nat) : Int)) ∧ ∀ a, a ≠ c + 1 → σ'.2 a = σ.2 a) := fun v7 v8 h1 h2 => ih _ v7 v8 ⟨h1, hp.2.tr h2⟩
    rcases (show q.1 = 0 ∨ q.1 = 1 ∨ q.1 = 2 ∨ q.1 = 3 ∨ q.1 = 4 ∨ q.1 = 5 by omega) with h | h | h | h | h | h
    · have tw0 : twM q = 0 := by rw [twM, if_neg (by omega)]
      have x2 : xand (s : Int) (twM q : Int) = 0 := by rw [x2, tw0, Nat.and_zero]; rfl
      by_cases b1 : s.testBit q.2.1 = true
      · rw [if_pos b1] at x1
        obtain ⟨r, σ2, f1, rfl, f3, f4⟩ := C16 (d := d) hs hp.1 (show s < 16 by omega) (show q.2.2.toNat < 8 by have := hq.2.2.1 h; omega)
        rw [show ((q.2.2.toNat : Nat) : Int) = q.2.2 by have := hq.2.2.1 h; omega] at f1
        rw [e15_22]
        simp (disch := first | assumption | omega | (simp (disch := omega) only [wN, w0, w1]; omega)) only [e15_0, e15_1, e15_2, e15_3, e15_5, e15_6, e15_7, e15_10, e15_11, e15_12, e15_13, e15_16, e15_17, e15_19, e15_20, e15_24, e15_25, e15_28, e15_31, e15_33, e15_35, e15_36, e15_39, e15_40, e15_43, e15_44, e15_46, e15_48, e15_50, e15_51, e15_54, e15_55, e15_58, e15_59, e15_61, e15_62, e15_65, e15_67, e15_70, e15_71, e15_73, e15_74, e15_77, e15_80, e15_81, e15_82, e15_85, e15_87, e15_90, e15_91, e15_93, e15_95, e15_97, e15_98, e15_101, e15_104, e15_105, e15_106, e15_109, e15_111, e15_114, e15_115, e15_117, e15_119, e15_121, e15_122, e15_125, e15_128, e15_129, e15_130, e15_133, e15_135, e15_138, e15_140, e15_143, e15_144, e15_146, e15_148, e15_150, e15_151, e15_154, e15_157, e15_158, e15_159, e15_162, e15_164, e15_167, e15_169, e15_172, e15_173, e15_175, e15_176, e15_179, e15_182, e15_183, e15_184, e15_187, e15_189, e15_192, e15_194, e15_197, e15_198, e15_200, e15_202, e15_204, e15_205, e15_207, e15_208, e15_211, e15_214, e15_217, e15_218I, e15_218R, e15_219, e15_222, e15_223, e15_224, e15_227, e15_228, e15_231, e15_232, e15_233, e15_236, kl_I, kl_R, kl_N, kl_L, oSm, oNn, Option.bind_some, wN, if_pos, if_neg, nS, tN, t0, w0, w1, w2, w3, w4, w5, wm1, upA_ne, upA_same, if_true, if_false, hN1, x1, x2, f1, Int.natCast_zero]
        refine go _ _ ?_ f4
        rw [stW, if_pos h, if_pos b1]; exact f3
      · rw [if_neg b1] at x1
        rw [e15_22]
        simp (disch := first | assumption | omega | (simp (disch := omega) only [wN, w0, w1]; omega)) only [e15_0, e15_1, e15_2, e15_3, e15_5, e15_6, e15_7, e15_10, e15_11, e15_12, e15_13, e15_16, e15_17, e15_19, e15_20, e15_24, e15_25, e15_28, e15_31, e15_33, e15_35, e15_36, e15_39, e15_40, e15_43, e15_44, e15_46, e15_48, e15_50, e15_51, e15_54, e15_55, e15_58, e15_59, e15_61, e15_62, e15_65, e15_67, e15_70, e15_71, e15_73, e15_74, e15_77, e15_80, e15_81, e15_82, e15_85, e15_87, e15_90, e15_91, e15_93, e15_95, e15_97, e15_98, e15_101, e15_104, e15_105, e15_106, e15_109, e15_111, e15_114, e15_115, e15_117, e15_119, e15_121, e15_122, e15_125, e15_128, e15_129, e15_130, e15_133, e15_135, e15_138, e15_140, e15_143, e15_144, e15_146, e15_148, e15_150, e15_151, e15_154, e15_157, e15_158, e15_159, e15_162, e15_164, e15_167, e15_169, e15_172, e15_173, e15_175, e15_176, e15_179, e15_182, e15_183, e15_184, e15_187, e15_189, e15_192, e15_194, e15_197, e15_198, e15_200, e15_202, e15_204, e15_205, e15_207, e15_208, e15_211, e15_214, e15_217, e15_218I, e15_218R, e15_219, e15_222, e15_223, e15_224, e15_227, e15_228, e15_231, e15_232, e15_233, e15_236, kl_I, kl_R, kl_N, kl_L, oSm, oNn, Option.bind_some, wN, if_pos, if_neg, nS, tN, t0, w0, w1, w2, w3, w4, w5, wm1, upA_ne, upA_same, if_true, if_false, hN1, x1, x2, Int.natCast_zero]
        refine go _ _ ?_ frL.rf
        rw [stW, if_pos h, if_neg b1]; exact hp.1
    · have tw0 : twM q = 0 := by rw [twM, if_neg (by omega)]
      have x2 : xand (s : Int) (twM q : Int) = 0 := by rw [x2, tw0, Nat.and_zero]; rfl
      by_cases b1 : s.testBit q.2.1 = true
      · rw [if_pos b1] at x1
        rw [e15_22]
        simp (disch := first | assumption | omega | (simp (disch := omega) only [wN, w0, w1]; omega)) only [e15_0, e15_1, e15_2, e15_3, e15_5, e15_6, e15_7, e15_10, e15_11, e15_12, e15_13, e15_16, e15_17, e15_19, e15_20, e15_24, e15_25, e15_28, e15_31, e15_33, e15_35, e15_36, e15_39, e15_40, e15_43, e15_44, e15_46, e15_48, e15_50, e15_51, e15_54, e15_55, e15_58, e15_59, e15_61, e15_62, e15_65, e15_67, e15_70, e15_71, e15_73, e15_74, e15_77, e15_80, e15_81, e15_82, e15_85, e15_87, e15_90, e15_91, e15_93, e15_95, e15_97, e15_98, e15_101, e15_104, e15_105, e15_106, e15_109, e15_111, e15_114, e15_115, e15_117, e15_119, e15_121, e15_122, e15_125, e15_128, e15_129, e15_130, e15_133, e15_135, e15_138, e15_140, e15_143, e15_144, e15_146, e15_148, e15_150, e15_151, e15_154, e15_157, e15_158, e15_159, e15_162, e15_164, e15_167, e15_169, e15_172, e15_173, e15_175, e15_176, e15_179, e15_182, e15_183, e15_184, e15_187, e15_189, e15_192, e15_194, e15_197, e15_198, e15_200, e15_202, e15_204, e15_205, e15_207, e15_208, e15_211, e15_214, e15_217, e15_218I, e15_218R, e15_219, e15_222, e15_223, e15_224, e15_227, e15_228, e15_231, e15_232, e15_233, e15_236, kl_I, kl_R, kl_N, kl_L, oSm, oNn, Option.bind_some, wN, if_pos, if_neg, nS, tN, t0, w0, w1, w2, w3, w4, w5, wm1, upA_ne, upA_same, if_true, if_false, hN1, x1, x2, Int.natCast_zero]
        refine go _ _ ?_ frL.rf
        rw [stW, if_neg (by omega), if_pos h, if_pos b1]; exact hp.1
      · rw [if_neg b1] at x1
        have hx : s ||| 2 ^ q.2.1 < 2 ^ n := Nat.or_lt_two_pow hi p1
        obtain ⟨r, σ2, f1, rfl, f3, f4⟩ := C17 (d := d) hs hp.1 hN1 h16 hi hx (by rw [or_x b1]; exact Ne.symm x_ne)
        rw [e15_22]
        simp (disch := first | assumption | omega | (simp (disch := omega) only [wN, w0, w1]; omega)) only [e15_0, e15_1, e15_2, e15_3, e15_5, e15_6, e15_7, e15_10, e15_11, e15_12, e15_13, e15_16, e15_17, e15_19, e15_20, e15_24, e15_25, e15_28, e15_31, e15_33, e15_35, e15_36, e15_39, e15_40, e15_43, e15_44, e15_46, e15_48, e15_50, e15_51, e15_54, e15_55, e15_58, e15_59, e15_61, e15_62, e15_65, e15_67, e15_70, e15_71, e15_73, e15_74, e15_77, e15_80, e15_81, e15_82, e15_85, e15_87, e15_90, e15_91, e15_93, e15_95, e15_97, e15_98, e15_101, e15_104, e15_105, e15_106, e15_109, e15_111, e15_114, e15_115, e15_117, e15_119, e15_121, e15_122, e15_125, e15_128, e15_129, e15_130, e15_133, e15_135, e15_138, e15_140, e15_143, e15_144, e15_146, e15_148, e15_150, e15_151, e15_154, e15_157, e15_158, e15_159, e15_162, e15_164, e15_167, e15_169, e15_172, e15_173, e15_175, e15_176, e15_179, e15_182, e15_183, e15_184, e15_187, e15_189, e15_192, e15_194, e15_197, e15_198, e15_200, e15_202, e15_204, e15_205, e15_207, e15_208, e15_211, e15_214, e15_217, e15_218I, e15_218R, e15_219, e15_222, e15_223, e15_224, e15_227, e15_228, e15_231, e15_232, e15_233, e15_236, kl_I, kl_R, kl_N, kl_L, oSm, oNn, Option.bind_some, wN, if_pos, if_neg, nS, tN, t0, w0, w1, w2, w3, w4, w5, wm1, upA_ne, upA_same, if_true, if_false, hN1, x1, x2, x3, f1, Int.natCast_zero]
        refine go _ _ ?_ f4
        rw [stW, if_neg (by omega), if_pos h, if_neg b1]; exact f3
    · have tw0 : twM q = 0 := by rw [twM, if_neg (by omega)]
      have x2 : xand (s : Int) (twM q : Int) = 0 := by rw [x2, tw0, Nat.and_zero]; rfl
      by_cases b1 : s.testBit q.2.1 = true
      · rw [if_pos b1] at x1
        rw [e15_22]
        simp (disch := first | assumption | omega | (simp (disch := omega) only [wN, w0, w1]; omega)) only [e15_0, e15_1, e15_2, e15_3, e15_5, e15_6, e15_7, e15_10, e15_11, e15_12, e15_13, e15_16, e15_17, e15_19, e15_20, e15_24, e15_25, e15_28, e15_31, e15_33, e15_35, e15_36, e15_39, e15_40, e15_43, e15_44, e15_46, e15_48, e15_50, e15_51, e15_54, e15_55, e15_58, e15_59, e15_61, e15_62, e15_65, e15_67, e15_70, e15_71, e15_73, e15_74, e15_77, e15_80, e15_81, e15_82, e15_85, e15_87, e15_90, e15_91, e15_93, e15_95, e15_97, e15_98, e15_101, e15_104, e15_105, e15_106, e15_109, e15_111, e15_114, e15_115, e15_117, e15_119, e15_121, e15_122, e15_125, e15_128, e15_129, e15_130, e15_133, e15_135, e15_138, e15_140, e15_143, e15_144, e15_146, e15_148, e15_150, e15_151, e15_154, e15_157, e15_158, e15_159, e15_162, e15_164, e15_167, e15_169, e15_172, e15_173, e15_175, e15_176, e15_179, e15_182, e15_183, e15_184, e15_187, e15_189, e15_192, e15_194, e15_197, e15_198, e15_200, e15_202, e15_204, e15_205, e15_207, e15_208, e15_211, e15_214, e15_217, e15_218I, e15_218R, e15_219, e15_222, e15_223, e15_224, e15_227, e15_228, e15_231, e15_232, e15_233, e15_236, kl_I, kl_R, kl_N, kl_L, oSm, oNn, Option.bind_some, wN, if_pos, if_neg, nS, tN, t0, w0, w1, w2, w3, w4, w5, wm1, upA_ne, upA_same, if_true, if_false, hN1, x1, x2, Int.natCast_zero]
        refine go _ _ ?_ frL.rf
        rw [stW, if_neg (by omega), if_neg (by omega), if_pos h, if_pos b1]; exact hp.1
      · rw [if_neg b1] at x1
        have hx : s ||| 2 ^ q.2.1 < 2 ^ n := Nat.or_lt_two_pow hi p1
        obtain ⟨r, σ2, f1, rfl, f3, f4⟩ := C18 (d := d) hs hp.1 hN1 h16 hi hx (by rw [or_x b1]; exact Ne.symm x_ne)
        rw [e15_22]
        simp (disch := first | assumption | omega | (simp (disch := omega) only [wN, w0, w1]; omega)) only [e15_0, e15_1, e15_2, e15_3, e15_5, e15_6, e15_7, e15_10, e15_11, e15_12, e15_13, e15_16, e15_17, e15_19, e15_20, e15_24, e15_25, e15_28, e15_31, e15_33, e15_35, e15_36, e15_39, e15_40, e15_43, e15_44, e15_46, e15_48, e15_50, e15_51, e15_54, e15_55, e15_58, e15_59, e15_61, e15_62, e15_65, e15_67, e15_70, e15_71, e15_73, e15_74, e15_77, e15_80, e15_81, e15_82, e15_85, e15_87, e15_90, e15_91, e15_93, e15_95, e15_97, e15_98, e15_101, e15_104, e15_105, e15_106, e15_109, e15_111, e15_114, e15_115, e15_117, e15_119, e15_121, e15_122, e15_125, e15_128, e15_129, e15_130, e15_133, e15_135, e15_138, e15_140, e15_143, e15_144, e15_146, e15_148, e15_150, e15_151, e15_154, e15_157, e15_158, e15_159, e15_162, e15_164, e15_167, e15_169, e15_172, e15_173, e15_175, e15_176, e15_179, e15_182, e15_183, e15_184, e15_187, e15_189, e15_192, e15_194, e15_197, e15_198, e15_200, e15_202, e15_204, e15_205, e15_207, e15_208, e15_211, e15_214, e15_217, e15_218I, e15_218R, e15_219, e15_222, e15_223, e15_224, e15_227, e15_228, e15_231, e15_232, e15_233, e15_236, kl_I, kl_R, kl_N, kl_L, oSm, oNn, Option.bind_some, wN, if_pos, if_neg, nS, tN, t0, w0, w1, w2, w3, w4, w5, wm1, upA_ne, upA_same, if_true, if_false, hN1, x1, x2, x3, f1, Int.natCast_zero]
        refine go _ _ ?_ f4
        rw [stW, if_neg (by omega), if_neg (by omega), if_pos h, if_neg b1]; exact f3
    all_goals
      have v6 := v5 (by omega)
      have tw0 : twM q = 2 ^ q.2.2.toNat := by rw [twM, if_pos (by omega)]
      have p2 : 2 ^ q.2.2.toNat < 2 ^ n := Nat.pow_lt_pow_right (by omega) (by omega)
      have p2' : 0 < 2 ^ q.2.2.toNat := Nat.two_pow_pos _
      have hd := hq.d (by omega)
      have x2 : xand (s : Int) (twM q : Int) = ((if s.testBit q.2.2.toNat = true then 2 ^ q.2.2.toNat else 0 : Nat) : Int) := by rw [x2, tw0, and_p]
      have x4 := xor_nn (a := s) (b := twM q) (by omega) (by omega)
      rw [show s ||| twM q = s ||| 2 ^ q.2.2.toNat by rw [tw0]] at x4
      have x5 := xxor_nn (a := s) (b := 2 ^ q.2.1) (by omega)
      have hx5 := x_lt hi v2
      have x6 := xxor_nn (a := s ^^^ 2 ^ q.2.1) (b := twM q) (by omega)
      rw [show (s ^^^ 2 ^ q.2.1) ^^^ twM q = (s ^^^ 2 ^ q.2.1) ^^^ 2 ^ q.2.2.toNat by rw [tw0]] at x6
    · by_cases b1 : s.testBit q.2.1 = true ∧ ¬ s.testBit q.2.2.toNat = true
      · rw [if_pos b1.1] at x1
        rw [if_neg b1.2] at x2
        have hx : s ||| 2 ^ q.2.2.toNat < 2 ^ n := Nat.or_lt_two_pow hi p2
        obtain ⟨r, σ2, f1, rfl, f3, f4⟩ := C18 (d := d) hs hp.1 hN1 h16 hi hx (by rw [or_x b1.2]; exact Ne.symm x_ne)
        rw [e15_22]
        simp (disch := first | assumption | omega | (simp (disch := omega) only [wN, w0, w1]; omega)) only [e15_0, e15_1, e15_2, e15_3, e15_5, e15_6, e15_7, e15_10, e15_11, e15_12, e15_13, e15_16, e15_17, e15_19, e15_20, e15_24, e15_25, e15_28, e15_31, e15_33, e15_35, e15_36, e15_39, e15_40, e15_43, e15_44, e15_46, e15_48, e15_50, e15_51, e15_54, e15_55, e15_58, e15_59, e15_61, e15_62, e15_65, e15_67, e15_70, e15_71, e15_73, e15_74, e15_77, e15_80, e15_81, e15_82, e15_85, e15_87, e15_90, e15_91, e15_93, e15_95, e15_97, e15_98, e15_101, e15_104, e15_105, e15_106, e15_109, e15_111, e15_114, e15_115, e15_117, e15_119, e15_121, e15_122, e15_125, e15_128, e15_129, e15_130, e15_133, e15_135, e15_138, e15_140, e15_143, e15_144, e15_146, e15_148, e15_150, e15_151, e15_154, e15_157, e15_158, e15_159, e15_162, e15_164, e15_167, e15_169, e15_172, e15_173, e15_175, e15_176, e15_179, e15_182, e15_183, e15_184, e15_187, e15_189, e15_192, e15_194, e15_197, e15_198, e15_200, e15_202, e15_204, e15_205, e15_207, e15_208, e15_211, e15_214, e15_217, e15_218I, e15_218R, e15_219, e15_222, e15_223, e15_224, e15_227, e15_228, e15_231, e15_232, e15_233, e15_236, kl_I, kl_R, kl_N, kl_L, oSm, oNn, Option.bind_some, wN, if_pos, if_neg, nS, tN, t0, w0, w1, w2, w3, w4, w5, wm1, upA_ne, upA_same, if_true, if_false, hN1, x1, x2, x4, f1, Int.natCast_zero]
        refine go _ _ ?_ f4
        rw [stW, if_neg (by omega), if_neg (by omega), if_neg (by omega), if_pos h, if_pos b1]; exact f3
      · have e : stW q s (doW q s W) = doW q s W := by rw [stW, if_neg (by omega), if_neg (by omega), if_neg (by omega), if_pos h, if_neg b1]
        by_cases c1 : s.testBit q.2.1 = true
        · have c2 : s.testBit q.2.2.toNat = true := by simpa [c1] using b1
          rw [if_pos c1] at x1
          rw [if_pos c2] at x2
          rw [e15_22]
          simp (disch := first | assumption | omega | (simp (disch := omega) only [wN, w0, w1]; omega)) only [e15_0, e15_1, e15_2, e15_3, e15_5, e15_6, e15_7, e15_10, e15_11, e15_12, e15_13, e15_16, e15_17, e15_19, e15_20, e15_24, e15_25, e15_28, e15_31, e15_33, e15_35, e15_36, e15_39, e15_40, e15_43, e15_44, e15_46, e15_48, e15_50, e15_51, e15_54, e15_55, e15_58, e15_59, e15_61, e15_62, e15_65, e15_67, e15_70, e15_71, e15_73, e15_74, e15_77, e15_80, e15_81, e15_82, e15_85, e15_87, e15_90, e15_91, e15_93, e15_95, e15_97, e15_98, e15_101, e15_104, e15_105, e15_106, e15_109, e15_111, e15_114, e15_115, e15_117, e15_119, e15_121, e15_122, e15_125, e15_128, e15_129, e15_130, e15_133, e15_135, e15_138, e15_140, e15_143, e15_144, e15_146, e15_148, e15_150, e15_151, e15_154, e15_157, e15_158, e15_159, e15_162, e15_164, e15_167, e15_169, e15_172, e15_173, e15_175, e15_176, e15_179, e15_182, e15_183, e15_184, e15_187, e15_189, e15_192, e15_194, e15_197, e15_198, e15_200, e15_202, e15_204, e15_205, e15_207, e15_208, e15_211, e15_214, e15_217, e15_218I, e15_218R, e15_219, e15_222, e15_223, e15_224, e15_227, e15_228, e15_231, e15_232, e15_233, e15_236, kl_I, kl_R, kl_N, kl_L, oSm, oNn, Option.bind_some, wN, if_pos, if_neg, nS, tN, t0, w0, w1, w2, w3, w4, w5, wm1, upA_ne, upA_same, if_true, if_false, hN1, x1, x2, Int.natCast_zero]
          exact go _ _ (by rw [e]; exact hp.1) frL.rf
        · rw [if_neg c1] at x1
          by_cases c2 : s.testBit q.2.2.toNat = true
          · rw [if_pos c2] at x2
            rw [e15_22]
            simp (disch := first | assumption | omega | (simp (disch := omega) only [wN, w0, w1]; omega)) only [e15_0, e15_1, e15_2, e15_3, e15_5, e15_6, e15_7, e15_10, e15_11, e15_12, e15_13, e15_16, e15_17, e15_19, e15_20, e15_24, e15_25, e15_28, e15_31, e15_33, e15_35, e15_36, e15_39, e15_40, e15_43, e15_44, e15_46, e15_48, e15_50, e15_51, e15_54, e15_55, e15_58, e15_59, e15_61, e15_62, e15_65, e15_67, e15_70, e15_71, e15_73, e15_74, e15_77, e15_80, e15_81, e15_82, e15_85, e15_87, e15_90, e15_91, e15_93, e15_95, e15_97, e15_98, e15_101, e15_104, e15_105, e15_106, e15_109, e15_111, e15_114, e15_115, e15_117, e15_119, e15_121, e15_122, e15_125, e15_128, e15_129, e15_130, e15_133, e15_135, e15_138, e15_140, e15_143, e15_144, e15_146, e15_148, e15_150, e15_151, e15_154, e15_157, e15_158, e15_159, e15_162, e15_164, e15_167, e15_169, e15_172, e15_173, e15_175, e15_176, e15_179, e15_182, e15_183, e15_184, e15_187, e15_189, e15_192, e15_194, e15_197, e15_198, e15_200, e15_202, e15_204, e15_205, e15_207, e15_208, e15_211, e15_214, e15_217, e15_218I, e15_218R, e15_219, e15_222, e15_223, e15_224, e15_227, e15_228, e15_231, e15_232, e15_233, e15_236, kl_I, kl_R, kl_N, kl_L, oSm, oNn, Option.bind_some, wN, if_pos, if_neg, nS, tN, t0, w0, w1, w2, w3, w4, w5, wm1, upA_ne, upA_same, if_true, if_false, hN1, x1, x2, Int.natCast_zero]
            exact go _ _ (by rw [e]; exact hp.1) frL.rf
          · rw [if_neg c2] at x2
            rw [e15_22]
            simp (disch := first | assumption | omega | (simp (disch := omega) only [wN, w0, w1]; omega)) only [e15_0, e15_1, e15_2, e15_3, e15_5, e15_6, e15_7, e15_10, e15_11, e15_12, e15_13, e15_16, e15_17, e15_19, e15_20, e15_24, e15_25, e15_28, e15_31, e15_33, e15_35, e15_36, e15_39, e15_40, e15_43, e15_44, e15_46, e15_48, e15_50, e15_51, e15_54, e15_55, e15_58, e15_59, e15_61, e15_62, e15_65, e15_67, e15_70, e15_71, e15_73, e15_74, e15_77, e15_80, e15_81, e15_82, e15_85, e15_87, e15_90, e15_91, e15_93, e15_95, e15_97, e15_98, e15_101, e15_104, e15_105, e15_106, e15_109, e15_111, e15_114, e15_115, e15_117, e15_119, e15_121, e15_122, e15_125, e15_128, e15_129, e15_130, e15_133, e15_135, e15_138, e15_140, e15_143, e15_144, e15_146, e15_148, e15_150, e15_151, e15_154, e15_157, e15_158, e15_159, e15_162, e15_164, e15_167, e15_169, e15_172, e15_173, e15_175, e15_176, e15_179, e15_182, e15_183, e15_184, e15_187, e15_189, e15_192, e15_194, e15_197, e15_198, e15_200, e15_202, e15_204, e15_205, e15_207, e15_208, e15_211, e15_214, e15_217, e15_218I, e15_218R, e15_219, e15_222, e15_223, e15_224, e15_227, e15_228, e15_231, e15_232, e15_233, e15_236, kl_I, kl_R, kl_N, kl_L, oSm, oNn, Option.bind_some, wN, if_pos, if_neg, nS, tN, t0, w0, w1, w2, w3, w4, w5, wm1, upA_ne, upA_same, if_true, if_false, hN1, x1, x2, Int.natCast_zero]
            exact go _ _ (by rw [e]; exact hp.1) frL.rf
    · by_cases b1 : s.testBit q.2.1 = true ∧ s.testBit q.2.2.toNat = true
      · rw [if_pos b1.1] at x1
        rw [if_pos b1.2] at x2
        obtain ⟨r, σ2, f1, rfl, f3, f4⟩ := C16 (d := d) (k := 4) hs hp.1 (show s < 16 by omega) (by omega)
        rw [show ((4 : Nat) : Int) = 4 from rfl] at f1
        rw [e15_22]
        simp (disch := first | assumption | omega | (simp (disch := omega) only [wN, w0, w1]; omega)) only [e15_0, e15_1, e15_2, e15_3, e15_5, e15_6, e15_7, e15_10, e15_11, e15_12, e15_13, e15_16, e15_17, e15_19, e15_20, e15_24, e15_25, e15_28, e15_31, e15_33, e15_35, e15_36, e15_39, e15_40, e15_43, e15_44, e15_46, e15_48, e15_50, e15_51, e15_54, e15_55, e15_58, e15_59, e15_61, e15_62, e15_65, e15_67, e15_70, e15_71, e15_73, e15_74, e15_77, e15_80, e15_81, e15_82, e15_85, e15_87, e15_90, e15_91, e15_93, e15_95, e15_97, e15_98, e15_101, e15_104, e15_105, e15_106, e15_109, e15_111, e15_114, e15_115, e15_117, e15_119, e15_121, e15_122, e15_125, e15_128, e15_129, e15_130, e15_133, e15_135, e15_138, e15_140, e15_143, e15_144, e15_146, e15_148, e15_150, e15_151, e15_154, e15_157, e15_158, e15_159, e15_162, e15_164, e15_167, e15_169, e15_172, e15_173, e15_175, e15_176, e15_179, e15_182, e15_183, e15_184, e15_187, e15_189, e15_192, e15_194, e15_197, e15_198, e15_200, e15_202, e15_204, e15_205, e15_207, e15_208, e15_211, e15_214, e15_217, e15_218I, e15_218R, e15_219, e15_222, e15_223, e15_224, e15_227, e15_228, e15_231, e15_232, e15_233, e15_236, kl_I, kl_R, kl_N, kl_L, oSm, oNn, Option.bind_some, wN, if_pos, if_neg, nS, tN, t0, w0, w1, w2, w3, w4, w5, wm1, upA_ne, upA_same, if_true, if_false, hN1, x1, x2, f1, Int.natCast_zero]
        refine go _ _ ?_ f4
        rw [stW, if_neg (by omega), if_neg (by omega), if_neg (by omega), if_neg (by omega), if_pos h, if_pos b1]; exact f3
      · have e : stW q s (doW q s W) = doW q s W := by rw [stW, if_neg (by omega), if_neg (by omega), if_neg (by omega), if_neg (by omega), if_pos h, if_neg b1]
        by_cases c1 : s.testBit q.2.1 = true
        · have c2 : ¬ s.testBit q.2.2.toNat = true := fun z => b1 ⟨c1, z⟩
          rw [if_pos c1] at x1
          rw [if_neg c2] at x2
          rw [e15_22]
          simp (disch := first | assumption | omega | (simp (disch := omega) only [wN, w0, w1]; omega)) only [e15_0, e15_1, e15_2, e15_3, e15_5, e15_6, e15_7, e15_10, e15_11, e15_12, e15_13, e15_16, e15_17, e15_19, e15_20, e15_24, e15_25, e15_28, e15_31, e15_33, e15_35, e15_36, e15_39, e15_40, e15_43, e15_44, e15_46, e15_48, e15_50, e15_51, e15_54, e15_55, e15_58, e15_59, e15_61, e15_62, e15_65, e15_67, e15_70, e15_71, e15_73, e15_74, e15_77, e15_80, e15_81, e15_82, e15_85, e15_87, e15_90, e15_91, e15_93, e15_95, e15_97, e15_98, e15_101, e15_104, e15_105, e15_106, e15_109, e15_111, e15_114, e15_115, e15_117, e15_119, e15_121, e15_122, e15_125, e15_128, e15_129, e15_130, e15_133, e15_135, e15_138, e15_140, e15_143, e15_144, e15_146, e15_148, e15_150, e15_151, e15_154, e15_157, e15_158, e15_159, e15_162, e15_164, e15_167, e15_169, e15_172, e15_173, e15_175, e15_176, e15_179, e15_182, e15_183, e15_184, e15_187, e15_189, e15_192, e15_194, e15_197, e15_198, e15_200, e15_202, e15_204, e15_205, e15_207, e15_208, e15_211, e15_214, e15_217, e15_218I, e15_218R, e15_219, e15_222, e15_223, e15_224, e15_227, e15_228, e15_231, e15_232, e15_233, e15_236, kl_I, kl_R, kl_N, kl_L, oSm, oNn, Option.bind_some, wN, if_pos, if_neg, nS, tN, t0, w0, w1, w2, w3, w4, w5, wm1, upA_ne, upA_same, if_true, if_false, hN1, x1, x2, Int.natCast_zero]
          exact go _ _ (by rw [e]; exact hp.1) frL.rf
        · rw [if_neg c1] at x1
          by_cases c2 : s.testBit q.2.2.toNat = true
          · rw [if_pos c2] at x2
            rw [e15_22]
            simp (disch := first | assumption | omega | (simp (disch := omega) only [wN, w0, w1]; omega)) only [e15_0, e15_1, e15_2, e15_3, e15_5, e15_6, e15_7, e15_10, e15_11, e15_12, e15_13, e15_16, e15_17, e15_19, e15_20, e15_24, e15_25, e15_28, e15_31, e15_33, e15_35, e15_36, e15_39, e15_40, e15_43, e15_44, e15_46, e15_48, e15_50, e15_51, e15_54, e15_55, e15_58, e15_59, e15_61, e15_62, e15_65, e15_67, e15_70, e15_71, e15_73, e15_74, e15_77, e15_80, e15_81, e15_82, e15_85, e15_87, e15_90, e15_91, e15_93, e15_95, e15_97, e15_98, e15_101, e15_104, e15_105, e15_106, e15_109, e15_111, e15_114, e15_115, e15_117, e15_119, e15_121, e15_122, e15_125, e15_128, e15_129, e15_130, e15_133, e15_135, e15_138, e15_140, e15_143, e15_144, e15_146, e15_148, e15_150, e15_151, e15_154, e15_157, e15_158, e15_159, e15_162, e15_164, e15_167, e15_169, e15_172, e15_173, e15_175, e15_176, e15_179, e15_182, e15_183, e15_184, e15_187, e15_189, e15_192, e15_194, e15_197, e15_198, e15_200, e15_202, e15_204, e15_205, e15_207, e15_208, e15_211, e15_214, e15_217, e15_218I, e15_218R, e15_219, e15_222, e15_223, e15_224, e15_227, e15_228, e15_231, e15_232, e15_233, e15_236, kl_I, kl_R, kl_N, kl_L, oSm, oNn, Option.bind_some, wN, if_pos, if_neg, nS, tN, t0, w0, w1, w2, w3, w4, w5, wm1, upA_ne, upA_same, if_true, if_false, hN1, x1, x2, Int.natCast_zero]
            exact go _ _ (by rw [e]; exact hp.1) frL.rf
          · rw [if_neg c2] at x2
            rw [e15_22]
            simp (disch := first | assumption | omega | (simp (disch := omega) only [wN, w0, w1]; omega)) only [e15_0, e15_1, e15_2, e15_3, e15_5, e15_6, e15_7, e15_10, e15_11, e15_12, e15_13, e15_16, e15_17, e15_19, e15_20, e15_24, e15_25, e15_28, e15_31, e15_33, e15_35, e15_36, e15_39, e15_40, e15_43, e15_44, e15_46, e15_48, e15_50, e15_51, e15_54, e15_55, e15_58, e15_59, e15_61, e15_62, e15_65, e15_67, e15_70, e15_71, e15_73, e15_74, e15_77, e15_80, e15_81, e15_82, e15_85, e15_87, e15_90, e15_91, e15_93, e15_95, e15_97, e15_98, e15_101, e15_104, e15_105, e15_106, e15_109, e15_111, e15_114, e15_115, e15_117, e15_119, e15_121, e15_122, e15_125, e15_128, e15_129, e15_130, e15_133, e15_135, e15_138, e15_140, e15_143, e15_144, e15_146, e15_148, e15_150, e15_151, e15_154, e15_157, e15_158, e15_159, e15_162, e15_164, e15_167, e15_169, e15_172, e15_173, e15_175, e15_176, e15_179, e15_182, e15_183, e15_184, e15_187, e15_189, e15_192, e15_194, e15_197, e15_198, e15_200, e15_202, e15_204, e15_205, e15_207, e15_208, e15_211, e15_214, e15_217, e15_218I, e15_218R, e15_219, e15_222, e15_223, e15_224, e15_227, e15_228, e15_231, e15_232, e15_233, e15_236, kl_I, kl_R, kl_N, kl_L, oSm, oNn, Option.bind_some, wN, if_pos, if_neg, nS, tN, t0, w0, w1, w2, w3, w4, w5, wm1, upA_ne, upA_same, if_true, if_false, hN1, x1, x2, Int.natCast_zero]
            exact go _ _ (by rw [e]; exact hp.1) frL.rf
    · by_cases b1 : s.testBit q.2.1 = true ∧ ¬ s.testBit q.2.2.toNat = true
      · rw [if_pos b1.1] at x1
        rw [if_neg b1.2] at x2
        have hx : (s ^^^ 2 ^ q.2.1) ^^^ 2 ^ q.2.2.toNat < 2 ^ n := x_lt hx5 (by omega)
        obtain ⟨r, σ2, f1, rfl, f3, f4⟩ := C18 (d := d) hs hp.1 hN1 h16 hi hx (Ne.symm (xx_ne (Ne.symm hd)))
        rw [e15_22]
        simp (disch := first | assumption | omega | (simp (disch := omega) only [wN, w0, w1]; omega)) only [e15_0, e15_1, e15_2, e15_3, e15_5, e15_6, e15_7, e15_10, e15_11, e15_12, e15_13, e15_16, e15_17, e15_19, e15_20, e15_24, e15_25, e15_28, e15_31, e15_33, e15_35, e15_36, e15_39, e15_40, e15_43, e15_44, e15_46, e15_48, e15_50, e15_51, e15_54, e15_55, e15_58, e15_59, e15_61, e15_62, e15_65, e15_67, e15_70, e15_71, e15_73, e15_74, e15_77, e15_80, e15_81, e15_82, e15_85, e15_87, e15_90, e15_91, e15_93, e15_95, e15_97, e15_98, e15_101, e15_104, e15_105, e15_106, e15_109, e15_111, e15_114, e15_115, e15_117, e15_119, e15_121, e15_122, e15_125, e15_128, e15_129, e15_130, e15_133, e15_135, e15_138, e15_140, e15_143, e15_144, e15_146, e15_148, e15_150, e15_151, e15_154, e15_157, e15_158, e15_159, e15_162, e15_164, e15_167, e15_169, e15_172, e15_173, e15_175, e15_176, e15_179, e15_182, e15_183, e15_184, e15_187, e15_189, e15_192, e15_194, e15_197, e15_198, e15_200, e15_202, e15_204, e15_205, e15_207, e15_208, e15_211, e15_214, e15_217, e15_218I, e15_218R, e15_219, e15_222, e15_223, e15_224, e15_227, e15_228, e15_231, e15_232, e15_233, e15_236, kl_I, kl_R, kl_N, kl_L, oSm, oNn, Option.bind_some, wN, if_pos, if_neg, nS, tN, t0, w0, w1, w2, w3, w4, w5, wm1, upA_ne, upA_same, if_true, if_false, hN1, x1, x2, x5, x6, f1, Int.natCast_zero]
        refine go _ _ ?_ f4
        rw [stW, if_neg (by omega), if_neg (by omega), if_neg (by omega), if_neg (by omega), if_neg (by omega), if_pos b1]; exact f3
      · have e : stW q s (doW q s W) = doW q s W := by rw [stW, if_neg (by omega), if_neg (by omega), if_neg (by omega), if_neg (by omega), if_neg (by omega), if_neg b1]
        by_cases c1 : s.testBit q.2.1 = true
        · have c2 : s.testBit q.2.2.toNat = true := by simpa [c1] using b1
          rw [if_pos c1] at x1
          rw [if_pos c2] at x2
          rw [e15_22]
          simp (disch := first | assumption | omega | (simp (disch := omega) only [wN, w0, w1]; omega)) only [e15_0, e15_1, e15_2, e15_3, e15_5, e15_6, e15_7, e15_10, e15_11, e15_12, e15_13, e15_16, e15_17, e15_19, e15_20, e15_24, e15_25, e15_28, e15_31, e15_33, e15_35, e15_36, e15_39, e15_40, e15_43, e15_44, e15_46, e15_48, e15_50, e15_51, e15_54, e15_55, e15_58, e15_59, e15_61, e15_62, e15_65, e15_67, e15_70, e15_71, e15_73, e15_74, e15_77, e15_80, e15_81, e15_82, e15_85, e15_87, e15_90, e15_91, e15_93, e15_95, e15_97, e15_98, e15_101, e15_104, e15_105, e15_106, e15_109, e15_111, e15_114, e15_115, e15_117, e15_119, e15_121, e15_122, e15_125, e15_128, e15_129, e15_130, e15_133, e15_135, e15_138, e15_140, e15_143, e15_144, e15_146, e15_148, e15_150, e15_151, e15_154, e15_157, e15_158, e15_159, e15_162, e15_164, e15_167, e15_169, e15_172, e15_173, e15_175, e15_176, e15_179, e15_182, e15_183, e15_184, e15_187, e15_189, e15_192, e15_194, e15_197, e15_198, e15_200, e15_202, e15_204, e15_205, e15_207, e15_208, e15_211, e15_214, e15_217, e15_218I, e15_218R, e15_219, e15_222, e15_223, e15_224, e15_227, e15_228, e15_231, e15_232, e15_233, e15_236, kl_I, kl_R, kl_N, kl_L, oSm, oNn, Option.bind_some, wN, if_pos, if_neg, nS, tN, t0, w0, w1, w2, w3, w4, w5, wm1, upA_ne, upA_same, if_true, if_false, hN1, x1, x2, Int.natCast_zero]
          exact go _ _ (by rw [e]; exact hp.1) frL.rf
        · rw [if_neg c1] at x1
          by_cases c2 : s.testBit q.2.2.toNat = true
          · rw [if_pos c2] at x2
            rw [e15_22]
            simp (disch := first | assumption | omega | (simp (disch := omega) only [wN, w0, w1]; omega)) only [e15_0, e15_1, e15_2, e15_3, e15_5, e15_6, e15_7, e15_10, e15_11, e15_12, e15_13, e15_16, e15_17, e15_19, e15_20, e15_24, e15_25, e15_28, e15_31, e15_33, e15_35, e15_36, e15_39, e15_40, e15_43, e15_44, e15_46, e15_48, e15_50, e15_51, e15_54, e15_55, e15_58, e15_59, e15_61, e15_62, e15_65, e15_67, e15_70, e15_71, e15_73, e15_74, e15_77, e15_80, e15_81, e15_82, e15_85, e15_87, e15_90, e15_91, e15_93, e15_95, e15_97, e15_98, e15_101, e15_104, e15_105, e15_106, e15_109, e15_111, e15_114, e15_115, e15_117, e15_119, e15_121, e15_122, e15_125, e15_128, e15_129, e15_130, e15_133, e15_135, e15_138, e15_140, e15_143, e15_144, e15_146, e15_148, e15_150, e15_151, e15_154, e15_157, e15_158, e15_159, e15_162, e15_164, e15_167, e15_169, e15_172, e15_173, e15_175, e15_176, e15_179, e15_182, e15_183, e15_184, e15_187, e15_189, e15_192, e15_194, e15_197, e15_198, e15_200, e15_202, e15_204, e15_205, e15_207, e15_208, e15_211, e15_214, e15_217, e15_218I, e15_218R, e15_219, e15_222, e15_223, e15_224, e15_227, e15_228, e15_231, e15_232, e15_233, e15_236, kl_I, kl_R, kl_N, kl_L, oSm, oNn, Option.bind_some, wN, if_pos, if_neg, nS, tN, t0, w0, w1, w2, w3, w4, w5, wm1, upA_ne, upA_same, if_true, if_false, hN1, x1, x2, Int.natCast_zero]
            exact go _ _ (by rw [e]; exact hp.1) frL.rf
          · rw [if_neg c2] at x2
            rw [e15_22]
            simp (disch := first | assumption | omega | (simp (disch := omega) only [wN, w0, w1]; omega)) only [e15_0, e15_1, e15_2, e15_3, e15_5, e15_6, e15_7, e15_10, e15_11, e15_12, e15_13, e15_16, e15_17, e15_19, e15_20, e15_24, e15_25, e15_28, e15_31, e15_33, e15_35, e15_36, e15_39, e15_40, e15_43, e15_44, e15_46, e15_48, e15_50, e15_51, e15_54, e15_55, e15_58, e15_59, e15_61, e15_62, e15_65, e15_67, e15_70, e15_71, e15_73, e15_74, e15_77, e15_80, e15_81, e15_82, e15_85, e15_87, e15_90, e15_91, e15_93, e15_95, e15_97, e15_98, e15_101, e15_104, e15_105, e15_106, e15_109, e15_111, e15_114, e15_115, e15_117, e15_119, e15_121, e15_122, e15_125, e15_128, e15_129, e15_130, e15_133, e15_135, e15_138, e15_140, e15_143, e15_144, e15_146, e15_148, e15_150, e15_151, e15_154, e15_157, e15_158, e15_159, e15_162, e15_164, e15_167, e15_169, e15_172, e15_173, e15_175, e15_176, e15_179, e15_182, e15_183, e15_184, e15_187, e15_189, e15_192, e15_194, e15_197, e15_198, e15_200, e15_202, e15_204, e15_205, e15_207, e15_208, e15_211, e15_214, e15_217, e15_218I, e15_218R, e15_219, e15_222, e15_223, e15_224, e15_227, e15_228, e15_231, e15_232, e15_233, e15_236, kl_I, kl_R, kl_N, kl_L, oSm, oNn, Option.bind_some, wN, if_pos, if_neg, nS, tN, t0, w0, w1, w2, w3, w4, w5, wm1, upA_ne, upA_same, if_true, if_false, hN1, x1, x2, Int.natCast_zero]
            exact go _ _ (by rw [e]; exact hp.1) frL.rf) 0 (Nat.zero_le _)
  have A0 := A σ none none ⟨hV, frL.rf⟩
  have x1 := xshl_1 (k := q.2.1) (by omega)
  by_cases h : 3 ≤ q.1
  · have v6 := v5 h
    obtain ⟨b, hb⟩ : ∃ b : Nat, q.2.2 = (b : Int) := ⟨q.2.2.toNat, by omega⟩
    have x2 := xshl_1 (k := b) (by omega)
    have e2 : twM q = 2 ^ b := by rw [twM, if_pos h, hb, tN]
    rw [hb] at A0 ⊢
    rw [e2] at A0
    simp (disch := first | assumption | omega | (simp (disch := omega) only [wN, w0, w1]; omega)) only [e15_0, e15_1, e15_2, e15_3, e15_5, e15_6, e15_7, e15_10, e15_11, e15_12, e15_13, e15_16, e15_17, e15_19, e15_20, e15_24, e15_25, e15_28, e15_31, e15_33, e15_35, e15_36, e15_39, e15_40, e15_43, e15_44, e15_46, e15_48, e15_50, e15_51, e15_54, e15_55, e15_58, e15_59, e15_61, e15_62, e15_65, e15_67, e15_70, e15_71, e15_73, e15_74, e15_77, e15_80, e15_81, e15_82, e15_85, e15_87, e15_90, e15_91, e15_93, e15_95, e15_97, e15_98, e15_101, e15_104, e15_105, e15_106, e15_109, e15_111, e15_114, e15_115, e15_117, e15_119, e15_121, e15_122, e15_125, e15_128, e15_129, e15_130, e15_133, e15_135, e15_138, e15_140, e15_143, e15_144, e15_146, e15_148, e15_150, e15_151, e15_154, e15_157, e15_158, e15_159, e15_162, e15_164, e15_167, e15_169, e15_172, e15_173, e15_175, e15_176, e15_179, e15_182, e15_183, e15_184, e15_187, e15_189, e15_192, e15_194, e15_197, e15_198, e15_200, e15_202, e15_204, e15_205, e15_207, e15_208, e15_211, e15_214, e15_217, e15_218I, e15_218R, e15_219, e15_222, e15_223, e15_224, e15_227, e15_228, e15_231, e15_232, e15_233, e15_236, kl_I, kl_R, kl_N, kl_L, oSm, oNn, Option.bind_some, wN, if_pos, if_neg, nS, tN, t0, w0, w1, w2, w3, w4, w5, wm1, upA_ne, upA_same, if_true, if_false, q15, x1, x2]
    exact A0
  · have e2 : twM q = 0 := by rw [twM, if_neg h]
    rw [e2] at A0
    simp (disch := first | assumption | omega | (simp (disch := omega) only [wN, w0, w1]; omega)) only [e15_0, e15_1, e15_2, e15_3, e15_5, e15_6, e15_7, e15_10, e15_11, e15_12, e15_13, e15_16, e15_17, e15_19, e15_20, e15_24, e15_25, e15_28, e15_31, e15_33, e15_35, e15_36, e15_39, e15_40, e15_43, e15_44, e15_46, e15_48, e15_50, e15_51, e15_54, e15_55, e15_58, e15_59, e15_61, e15_62, e15_65, e15_67, e15_70, e15_71, e15_73, e15_74, e15_77, e15_80, e15_81, e15_82, e15_85, e15_87, e15_90, e15_91, e15_93, e15_95, e15_97, e15_98, e15_101, e15_104, e15_105, e15_106, e15_109, e15_111, e15_114, e15_115, e15_117, e15_119, e15_121, e15_122, e15_125, e15_128, e15_129, e15_130, e15_133, e15_135, e15_138, e15_140, e15_143, e15_144, e15_146, e15_148, e15_150, e15_151, e15_154, e15_157, e15_158, e15_159, e15_162, e15_164, e15_167, e15_169, e15_172, e15_173, e15_175, e15_176, e15_179, e15_182, e15_183, e15_184, e15_187, e15_189, e15_192, e15_194, e15_197, e15_198, e15_200, e15_202, e15_204, e15_205, e15_207, e15_208, e15_211, e15_214, e15_217, e15_218I, e15_218R, e15_219, e15_222, e15_223, e15_224, e15_227, e15_228, e15_231, e15_232, e15_233, e15_236, kl_I, kl_R, kl_N, kl_L, oSm, oNn, Option.bind_some, wN, if_pos, if_neg, nS, tN, t0, w0, w1, w2, w3, w4, w5, wm1, upA_ne, upA_same, if_true, if_false, q15, x1]
    exact A0
end COB
