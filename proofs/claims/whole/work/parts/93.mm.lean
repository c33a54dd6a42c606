/-! ===== the reference: does ===== -/
section MM
variable {sh : Shp} {d p s t g n : Nat} {σ : Mem} {W : Vc} {c : List Gt} {z : Int}
theorem or_xx {a b : Nat} (h : a ≠ b) : 2 ^ a ||| 2 ^ b = 2 ^ a ^^^ 2 ^ b := or_x (by rw [Nat.testBit_two_pow]; simp [h])
set_option maxRecDepth 100000 in
theorem M200 (hM : MS sh) (hL : laR sh p) (hV : HV σ p W) (hG : HGm σ t c) (ht : t < 3) (hc : c.length ≤ 30) (hv : okC n c) (hg : g < c.length) (hN : σ.1 124 8 = (n : Int)) (hn : n ≤ 4) (hz : z = (t : Int)) : End (run sh (d + 1) 200 [mR 124, mI z, mI (g : Int), mR p] σ) (fun r σ' => r = none ∧ HV σ' p (doW (gA c g) (2 ^ n) W) ∧ frL p σ σ') := by
  have mo := hM.1
  have m160 := hM.2.1
  obtain ⟨ra0, rk0, rl0⟩ := ms0 hM
  have hL2 := hL
  have o0 := of0 (d := d) hM hG ht hc hg hz
  have o1 := of1 (d := d) hM hG ht hc hg hz
  have o2 := of2 (d := d) hM hG ht hc hg hz
  have hq := hv.at hg
  generalize eq : gA c g = q at hq o0 o1 o2
  have v1 := hq.1
  have v2 := hq.2.1
  have v3 := hq.2.2.1
  have v5 := hq.2.2.2.2
  have h16 : 2 ^ n ≤ 2 ^ 4 := Nat.pow_le_pow_right (by omega) hn
  have p0 : 0 < 2 ^ n := Nat.two_pow_pos _
  have p1 : 2 ^ q.2.1 < 2 ^ n := Nat.pow_lt_pow_right (by omega) v2
  have p1' : 0 < 2 ^ q.2.1 := Nat.two_pow_pos _
  have xn := xshl_1 (k := n) (by omega)
  have xa := xshl_1 (k := q.2.1) (by omega)
  have A := for_P (2 ^ n) (fun s => ∀ (σ1 : Mem) (v8 : Option MV), (HV σ1 p (doW q s W) ∧ frL p σ σ1) → End (ev sh (d + 1) 200 30 [some (mR (124)), some (mI (z)), some (mI ((g : Nat) : Int)), some (mR (p)), some (mI ((q.1 : Nat) : Int)), some (mI ((q.2.1 : Nat) : Int)), some (mI (rb q)), some (mI ((s : Nat) : Int)), v8] [] σ1) (fun r σ' => r = none ∧ HV σ' p (doW q (2 ^ n) W) ∧ frL p σ σ')) (by
    intro σ1 v8 hp
    replace hp : HV σ1 p (doW q (2 ^ n) W) ∧ frL p σ σ1 := hp
    show End (ev sh (d + 1) 200 30 [some (mR (124)), some (mI (z)), some (mI ((g : Nat) : Int)), some (mR (p)), some (mI ((q.1 : Nat) : Int)), some (mI ((q.2.1 : Nat) : Int)), some (mI (rb q)), some (mI (((2 ^ n) : Nat) : Int)), v8] [] σ1) (fun r σ' => r = none ∧ HV σ' p (doW q (2 ^ n) W) ∧ frL p σ σ')
    have hN1 : σ1.1 124 8 = (n : Int) := by rw [hp.2.1]; exact hN
    rw [e200_30]
    simp (disch := first | assumption | omega | (simp (disch := omega) only [wN, w0, w1]; omega)) only [e200_0, e200_1, e200_2, e200_3, e200_4, e200_7, e200_9, e200_10, e200_11, e200_12, e200_13, e200_16, e200_18, e200_19, e200_20, e200_21, e200_22, e200_25, e200_27, e200_28, e200_32, e200_33, e200_34, e200_37, e200_38, e200_41, e200_43, e200_45, e200_48, e200_50, e200_52, e200_55, e200_57, e200_60, e200_61, e200_62, e200_64, e200_65, e200_66, e200_67, e200_68, e200_71, e200_74, e200_76, e200_77, e200_80, e200_82, e200_85, e200_86, e200_88, e200_90, e200_91, e200_93, e200_94, e200_95, e200_98, e200_100, e200_101, e200_104, e200_106, e200_109, e200_110, e200_112, e200_114, e200_115, e200_117, e200_118, e200_119, e200_122, e200_124, e200_125, e200_128, e200_130, e200_133, e200_135, e200_137, e200_140, e200_143, e200_144, e200_146, e200_148, e200_149, e200_151, e200_152, e200_153, e200_156, e200_158, e200_159, e200_162, e200_164, e200_167, e200_169, e200_171, e200_174, e200_177, e200_178, e200_179, e200_181, e200_182, e200_185, e200_187, e200_188, e200_191, e200_193, e200_196, e200_198, e200_200, e200_203, e200_206, e200_207, e200_209, e200_211, e200_213, e200_215, e200_218, e200_219, e200_222, e200_225, e200_228, kl_I, kl_R, kl_N, kl_L, oSm, oNn, Option.bind_some, wN, if_pos, if_neg, nS, tN, t0, w0, w1, w2, w3, w4, w5, wm1, upA_ne, upA_same, if_true, if_false, Bool.false_eq_true, hN1, xn]
    exact End.of rfl ⟨rfl, hp⟩) (fun s hi ih => by
    replace ih : ∀ (σ1 : Mem) (v8 : Option MV), (HV σ1 p (doW q (s + 1) W) ∧ frL p σ σ1) → End (ev sh (d + 1) 200 30 [some (mR (124)), some (mI (z)), some (mI ((g : Nat) : Int)), some (mR (p)), some (mI ((q.1 : Nat) : Int)), some (mI ((q.2.1 : Nat) : Int)), some (mI (rb q)), some (mI (((s + 1) : Nat) : Int)), v8] [] σ1) (fun r σ' => r = none ∧ HV σ' p (doW q (2 ^ n) W) ∧ frL p σ σ') := ih
    intro σ1 v8 hp
    replace hp : HV σ1 p (doW q s W) ∧ frL p σ σ1 := hp
    show End (ev sh (d + 1) 200 30 [some (mR (124)), some (mI (z)), some (mI ((g : Nat) : Int)), some (mR (p)), some (mI ((q.1 : Nat) : Int)), some (mI ((q.2.1 : Nat) : Int)), some (mI (rb q)), some (mI ((s : Nat) : Int)), v8] [] σ1) (fun r σ' => r = none ∧ HV σ' p (doW q (2 ^ n) W) ∧ frL p σ σ')
    have hN1 : σ1.1 124 8 = (n : Int) := by rw [hp.2.1]; exact hN
    have hG1 : HGm σ1 t c := hG.k (by rw [hp.2.1]) (fun _ _ _ => by rw [hp.2.1])
    have go : ∀ {σ2 : Mem} (v8 : Option MV), HV σ2 p (stW q s (doW q s W)) → frL p σ1 σ2 → End (ev sh (d + 1) 200 30 [some (mR (124)), some (mI (z)), some (mI ((g : Nat) : Int)), some (mR (p)), some (mI ((q.1 : Nat) : Int)), some (mI ((q.2.1 : Nat) : Int)), some (mI (rb q)), some (mI ((s + 1 : Nat) : Int)), v8] [] σ2) (fun r σ' => r = none ∧ HV σ' p (doW q (2 ^ n) W) ∧ frL p σ σ') := fun v8 h1 h2 => ih _ v8 ⟨h1, hp.2.tr h2⟩
    have b1 := E167 (sh := sh) (d := d) (σ := σ1) (b := s) (k := q.2.1) (by omega) (by omega)
    have x3 := xor_nn (a := s) (b := 2 ^ q.2.1) (by omega) (by omega)
    have hx : s ||| 2 ^ q.2.1 < 2 ^ n := Nat.or_lt_two_pow hi p1
    have t1 : s.testBit q.2.1 = true → bi (s.testBit q.2.1) = 1 := fun h => by rw [h]; rfl
    have f1 : ¬ s.testBit q.2.1 = true → bi (s.testBit q.2.1) = 0 := fun h => by rw [Bool.eq_false_iff.mpr h]; rfl
    by_cases c1 : s.testBit q.2.1 = true
    all_goals
      first
      | rw [t1 c1] at b1
      | rw [f1 c1] at b1
      clear t1 f1
    · rcases (show q.1 = 0 ∨ q.1 = 1 ∨ q.1 = 2 ∨ 3 ≤ q.1 by omega) with h | h | h | h
      · obtain ⟨r, σ2, f1, rfl, f3, f4⟩ := M197 (d := d) (k := q.2.2.toNat) hM hL hp.1 (show s < 16 by omega) (by have := v3 h; omega)
        rw [show ((q.2.2.toNat : Nat) : Int) = q.2.2 by have := v3 h; omega] at f1
        have o3 := of3 (d := d) hM hG1 ht hc hg hz
        rw [eq, rk, if_pos h] at o3
        clear v3 v5
        rw [e200_30]
        simp (disch := first | assumption | omega | (simp (disch := omega) only [wN, w0, w1]; omega)) only [e200_0, e200_1, e200_2, e200_3, e200_4, e200_7, e200_9, e200_10, e200_11, e200_12, e200_13, e200_16, e200_18, e200_19, e200_20, e200_21, e200_22, e200_25, e200_27, e200_28, e200_32, e200_33, e200_34, e200_37, e200_38, e200_41, e200_43, e200_45, e200_48, e200_50, e200_52, e200_55, e200_57, e200_60, e200_61, e200_62, e200_64, e200_65, e200_66, e200_67, e200_68, e200_71, e200_74, e200_76, e200_77, e200_80, e200_82, e200_85, e200_86, e200_88, e200_90, e200_91, e200_93, e200_94, e200_95, e200_98, e200_100, e200_101, e200_104, e200_106, e200_109, e200_110, e200_112, e200_114, e200_115, e200_117, e200_118, e200_119, e200_122, e200_124, e200_125, e200_128, e200_130, e200_133, e200_135, e200_137, e200_140, e200_143, e200_144, e200_146, e200_148, e200_149, e200_151, e200_152, e200_153, e200_156, e200_158, e200_159, e200_162, e200_164, e200_167, e200_169, e200_171, e200_174, e200_177, e200_178, e200_179, e200_181, e200_182, e200_185, e200_187, e200_188, e200_191, e200_193, e200_196, e200_198, e200_200, e200_203, e200_206, e200_207, e200_209, e200_211, e200_213, e200_215, e200_218, e200_219, e200_222, e200_225, e200_228, kl_I, kl_R, kl_N, kl_L, oSm, oNn, Option.bind_some, wN, if_pos, if_neg, nS, tN, t0, w0, w1, w2, w3, w4, w5, wm1, upA_ne, upA_same, if_true, if_false, Bool.false_eq_true, hN1, xn, b1, o3, f1]
        refine go _ ?_ f4
        rw [stW, if_pos h, if_pos c1]; exact f3
      · clear v3 v5
        rw [e200_30]
        simp (disch := first | assumption | omega | (simp (disch := omega) only [wN, w0, w1]; omega)) only [e200_0, e200_1, e200_2, e200_3, e200_4, e200_7, e200_9, e200_10, e200_11, e200_12, e200_13, e200_16, e200_18, e200_19, e200_20, e200_21, e200_22, e200_25, e200_27, e200_28, e200_32, e200_33, e200_34, e200_37, e200_38, e200_41, e200_43, e200_45, e200_48, e200_50, e200_52, e200_55, e200_57, e200_60, e200_61, e200_62, e200_64, e200_65, e200_66, e200_67, e200_68, e200_71, e200_74, e200_76, e200_77, e200_80, e200_82, e200_85, e200_86, e200_88, e200_90, e200_91, e200_93, e200_94, e200_95, e200_98, e200_100, e200_101, e200_104, e200_106, e200_109, e200_110, e200_112, e200_114, e200_115, e200_117, e200_118, e200_119, e200_122, e200_124, e200_125, e200_128, e200_130, e200_133, e200_135, e200_137, e200_140, e200_143, e200_144, e200_146, e200_148, e200_149, e200_151, e200_152, e200_153, e200_156, e200_158, e200_159, e200_162, e200_164, e200_167, e200_169, e200_171, e200_174, e200_177, e200_178, e200_179, e200_181, e200_182, e200_185, e200_187, e200_188, e200_191, e200_193, e200_196, e200_198, e200_200, e200_203, e200_206, e200_207, e200_209, e200_211, e200_213, e200_215, e200_218, e200_219, e200_222, e200_225, e200_228, kl_I, kl_R, kl_N, kl_L, oSm, oNn, Option.bind_some, wN, if_pos, if_neg, nS, tN, t0, w0, w1, w2, w3, w4, w5, wm1, upA_ne, upA_same, if_true, if_false, Bool.false_eq_true, hN1, xn, b1]
        refine go _ ?_ frL.rf
        rw [stW, if_neg (by omega), if_pos h, if_pos c1]; exact hp.1
      · clear v3 v5
        rw [e200_30]
        simp (disch := first | assumption | omega | (simp (disch := omega) only [wN, w0, w1]; omega)) only [e200_0, e200_1, e200_2, e200_3, e200_4, e200_7, e200_9, e200_10, e200_11, e200_12, e200_13, e200_16, e200_18, e200_19, e200_20, e200_21, e200_22, e200_25, e200_27, e200_28, e200_32, e200_33, e200_34, e200_37, e200_38, e200_41, e200_43, e200_45, e200_48, e200_50, e200_52, e200_55, e200_57, e200_60, e200_61, e200_62, e200_64, e200_65, e200_66, e200_67, e200_68, e200_71, e200_74, e200_76, e200_77, e200_80, e200_82, e200_85, e200_86, e200_88, e200_90, e200_91, e200_93, e200_94, e200_95, e200_98, e200_100, e200_101, e200_104, e200_106, e200_109, e200_110, e200_112, e200_114, e200_115, e200_117, e200_118, e200_119, e200_122, e200_124, e200_125, e200_128, e200_130, e200_133, e200_135, e200_137, e200_140, e200_143, e200_144, e200_146, e200_148, e200_149, e200_151, e200_152, e200_153, e200_156, e200_158, e200_159, e200_162, e200_164, e200_167, e200_169, e200_171, e200_174, e200_177, e200_178, e200_179, e200_181, e200_182, e200_185, e200_187, e200_188, e200_191, e200_193, e200_196, e200_198, e200_200, e200_203, e200_206, e200_207, e200_209, e200_211, e200_213, e200_215, e200_218, e200_219, e200_222, e200_225, e200_228, kl_I, kl_R, kl_N, kl_L, oSm, oNn, Option.bind_some, wN, if_pos, if_neg, nS, tN, t0, w0, w1, w2, w3, w4, w5, wm1, upA_ne, upA_same, if_true, if_false, Bool.false_eq_true, hN1, xn, b1]
        refine go _ ?_ frL.rf
        rw [stW, if_neg (by omega), if_neg (by omega), if_pos h, if_pos c1]; exact hp.1
      · have v6 := v5 h
        have hd := hq.d h
        clear v3 v5
        obtain ⟨b, hb⟩ : ∃ b : Nat, b = q.2.2.toNat := ⟨_, rfl⟩
        have erb : rb q = (b : Int) := by rw [rb, if_neg (by omega)]; omega
        rw [← hb] at hd
        have p2 : 2 ^ b < 2 ^ n := Nat.pow_lt_pow_right (by omega) (by omega)
        have p2' : 0 < 2 ^ b := Nat.two_pow_pos _
        have xb := xshl_1 (k := b) (by omega)
        have b2 := E167 (sh := sh) (d := d) (σ := σ1) (b := s) (k := b) (by omega) (by omega)
        have x4 := xor_nn (a := s) (b := 2 ^ b) (by omega) (by omega)
        have hx4 : s ||| 2 ^ b < 2 ^ n := Nat.or_lt_two_pow hi p2
        have x5 := M196 (sh := sh) (d := d) (σ := σ1) (a := q.2.1) (b := b) (by omega) (by omega)
        have hab : 2 ^ q.2.1 ||| 2 ^ b < 2 ^ n := Nat.or_lt_two_pow p1 p2
        have x6 := xxor_nn (a := s) (b := 2 ^ q.2.1 ||| 2 ^ b) (by omega)
        have ex : s ^^^ (2 ^ q.2.1 ||| 2 ^ b) = (s ^^^ 2 ^ q.2.1) ^^^ 2 ^ b := by rw [or_xx (Ne.symm hd), Nat.xor_assoc]
        have hx6 : (s ^^^ 2 ^ q.2.1) ^^^ 2 ^ b < 2 ^ n := x_lt (x_lt hi v2) (by omega)
        rw [ex] at x6
        by_cases c2 : s.testBit b = true
        · rw [c2] at b2
          have b2 : run sh d 167 [mI (s : Int), mI (b : Int)] σ1 = some (some (mI 1), σ1) := b2
          rcases (show q.1 = 3 ∨ q.1 = 4 ∨ q.1 = 5 by omega) with h | h | h
          · rw [e200_30, erb]
            rw [erb] at go
            simp (disch := first | assumption | omega | (simp (disch := omega) only [wN, w0, w1]; omega)) only [e200_0, e200_1, e200_2, e200_3, e200_4, e200_7, e200_9, e200_10, e200_11, e200_12, e200_13, e200_16, e200_18, e200_19, e200_20, e200_21, e200_22, e200_25, e200_27, e200_28, e200_32, e200_33, e200_34, e200_37, e200_38, e200_41, e200_43, e200_45, e200_48, e200_50, e200_52, e200_55, e200_57, e200_60, e200_61, e200_62, e200_64, e200_65, e200_66, e200_67, e200_68, e200_71, e200_74, e200_76, e200_77, e200_80, e200_82, e200_85, e200_86, e200_88, e200_90, e200_91, e200_93, e200_94, e200_95, e200_98, e200_100, e200_101, e200_104, e200_106, e200_109, e200_110, e200_112, e200_114, e200_115, e200_117, e200_118, e200_119, e200_122, e200_124, e200_125, e200_128, e200_130, e200_133, e200_135, e200_137, e200_140, e200_143, e200_144, e200_146, e200_148, e200_149, e200_151, e200_152, e200_153, e200_156, e200_158, e200_159, e200_162, e200_164, e200_167, e200_169, e200_171, e200_174, e200_177, e200_178, e200_179, e200_181, e200_182, e200_185, e200_187, e200_188, e200_191, e200_193, e200_196, e200_198, e200_200, e200_203, e200_206, e200_207, e200_209, e200_211, e200_213, e200_215, e200_218, e200_219, e200_222, e200_225, e200_228, kl_I, kl_R, kl_N, kl_L, oSm, oNn, Option.bind_some, wN, if_pos, if_neg, nS, tN, t0, w0, w1, w2, w3, w4, w5, wm1, upA_ne, upA_same, if_true, if_false, Bool.false_eq_true, hN1, xn, b1, b2]
            refine go _ ?_ frL.rf
            rw [stW, if_neg (by omega), if_neg (by omega), if_neg (by omega), if_pos h, ← hb, if_neg (fun z => z.2 c2)]; exact hp.1
          · obtain ⟨r, σ2, f1, rfl, f3, f4⟩ := M197 (d := d) (k := 4) hM hL hp.1 (show s < 16 by omega) (by omega)
            rw [show ((4 : Nat) : Int) = 4 from rfl] at f1
            rw [e200_30, erb]
            rw [erb] at go
            simp (disch := first | assumption | omega | (simp (disch := omega) only [wN, w0, w1]; omega)) only [e200_0, e200_1, e200_2, e200_3, e200_4, e200_7, e200_9, e200_10, e200_11, e200_12, e200_13, e200_16, e200_18, e200_19, e200_20, e200_21, e200_22, e200_25, e200_27, e200_28, e200_32, e200_33, e200_34, e200_37, e200_38, e200_41, e200_43, e200_45, e200_48, e200_50, e200_52, e200_55, e200_57, e200_60, e200_61, e200_62, e200_64, e200_65, e200_66, e200_67, e200_68, e200_71, e200_74, e200_76, e200_77, e200_80, e200_82, e200_85, e200_86, e200_88, e200_90, e200_91, e200_93, e200_94, e200_95, e200_98, e200_100, e200_101, e200_104, e200_106, e200_109, e200_110, e200_112, e200_114, e200_115, e200_117, e200_118, e200_119, e200_122, e200_124, e200_125, e200_128, e200_130, e200_133, e200_135, e200_137, e200_140, e200_143, e200_144, e200_146, e200_148, e200_149, e200_151, e200_152, e200_153, e200_156, e200_158, e200_159, e200_162, e200_164, e200_167, e200_169, e200_171, e200_174, e200_177, e200_178, e200_179, e200_181, e200_182, e200_185, e200_187, e200_188, e200_191, e200_193, e200_196, e200_198, e200_200, e200_203, e200_206, e200_207, e200_209, e200_211, e200_213, e200_215, e200_218, e200_219, e200_222, e200_225, e200_228, kl_I, kl_R, kl_N, kl_L, oSm, oNn, Option.bind_some, wN, if_pos, if_neg, nS, tN, t0, w0, w1, w2, w3, w4, w5, wm1, upA_ne, upA_same, if_true, if_false, Bool.false_eq_true, hN1, xn, b1, b2, f1]
            refine go _ ?_ f4
            rw [stW, if_neg (by omega), if_neg (by omega), if_neg (by omega), if_neg (by omega), if_pos h, ← hb, if_pos ⟨c1, c2⟩]; exact f3
          · rw [e200_30, erb]
            rw [erb] at go
            simp (disch := first | assumption | omega | (simp (disch := omega) only [wN, w0, w1]; omega)) only [e200_0, e200_1, e200_2, e200_3, e200_4, e200_7, e200_9, e200_10, e200_11, e200_12, e200_13, e200_16, e200_18, e200_19, e200_20, e200_21, e200_22, e200_25, e200_27, e200_28, e200_32, e200_33, e200_34, e200_37, e200_38, e200_41, e200_43, e200_45, e200_48, e200_50, e200_52, e200_55, e200_57, e200_60, e200_61, e200_62, e200_64, e200_65, e200_66, e200_67, e200_68, e200_71, e200_74, e200_76, e200_77, e200_80, e200_82, e200_85, e200_86, e200_88, e200_90, e200_91, e200_93, e200_94, e200_95, e200_98, e200_100, e200_101, e200_104, e200_106, e200_109, e200_110, e200_112, e200_114, e200_115, e200_117, e200_118, e200_119, e200_122, e200_124, e200_125, e200_128, e200_130, e200_133, e200_135, e200_137, e200_140, e200_143, e200_144, e200_146, e200_148, e200_149, e200_151, e200_152, e200_153, e200_156, e200_158, e200_159, e200_162, e200_164, e200_167, e200_169, e200_171, e200_174, e200_177, e200_178, e200_179, e200_181, e200_182, e200_185, e200_187, e200_188, e200_191, e200_193, e200_196, e200_198, e200_200, e200_203, e200_206, e200_207, e200_209, e200_211, e200_213, e200_215, e200_218, e200_219, e200_222, e200_225, e200_228, kl_I, kl_R, kl_N, kl_L, oSm, oNn, Option.bind_some, wN, if_pos, if_neg, nS, tN, t0, w0, w1, w2, w3, w4, w5, wm1, upA_ne, upA_same, if_true, if_false, Bool.false_eq_true, hN1, xn, b1, b2]
            refine go _ ?_ frL.rf
            rw [stW, if_neg (by omega), if_neg (by omega), if_neg (by omega), if_neg (by omega), if_neg (by omega), ← hb, if_neg (fun z => z.2 c2)]; exact hp.1
        · rw [Bool.eq_false_iff.mpr c2] at b2
          have b2 : run sh d 167 [mI (s : Int), mI (b : Int)] σ1 = some (some (mI 0), σ1) := b2
          rcases (show q.1 = 3 ∨ q.1 = 4 ∨ q.1 = 5 by omega) with h | h | h
          · obtain ⟨r, σ2, f1, rfl, f3, f4⟩ := M198 (d := d) hL hp.1 (show s < 16 by omega) (show s ||| 2 ^ b < 16 by omega) (by rw [or_x c2]; exact Ne.symm x_ne)
            rw [e200_30, erb]
            rw [erb] at go
            simp (disch := first | assumption | omega | (simp (disch := omega) only [wN, w0, w1]; omega)) only [e200_0, e200_1, e200_2, e200_3, e200_4, e200_7, e200_9, e200_10, e200_11, e200_12, e200_13, e200_16, e200_18, e200_19, e200_20, e200_21, e200_22, e200_25, e200_27, e200_28, e200_32, e200_33, e200_34, e200_37, e200_38, e200_41, e200_43, e200_45, e200_48, e200_50, e200_52, e200_55, e200_57, e200_60, e200_61, e200_62, e200_64, e200_65, e200_66, e200_67, e200_68, e200_71, e200_74, e200_76, e200_77, e200_80, e200_82, e200_85, e200_86, e200_88, e200_90, e200_91, e200_93, e200_94, e200_95, e200_98, e200_100, e200_101, e200_104, e200_106, e200_109, e200_110, e200_112, e200_114, e200_115, e200_117, e200_118, e200_119, e200_122, e200_124, e200_125, e200_128, e200_130, e200_133, e200_135, e200_137, e200_140, e200_143, e200_144, e200_146, e200_148, e200_149, e200_151, e200_152, e200_153, e200_156, e200_158, e200_159, e200_162, e200_164, e200_167, e200_169, e200_171, e200_174, e200_177, e200_178, e200_179, e200_181, e200_182, e200_185, e200_187, e200_188, e200_191, e200_193, e200_196, e200_198, e200_200, e200_203, e200_206, e200_207, e200_209, e200_211, e200_213, e200_215, e200_218, e200_219, e200_222, e200_225, e200_228, kl_I, kl_R, kl_N, kl_L, oSm, oNn, Option.bind_some, wN, if_pos, if_neg, nS, tN, t0, w0, w1, w2, w3, w4, w5, wm1, upA_ne, upA_same, if_true, if_false, Bool.false_eq_true, hN1, xn, xb, x4, b1, b2, f1]
            refine go _ ?_ f4
            rw [stW, if_neg (by omega), if_neg (by omega), if_neg (by omega), if_pos h, ← hb, if_pos ⟨c1, c2⟩]; exact f3
          · rw [e200_30, erb]
            rw [erb] at go
            simp (disch := first | assumption | omega | (simp (disch := omega) only [wN, w0, w1]; omega)) only [e200_0, e200_1, e200_2, e200_3, e200_4, e200_7, e200_9, e200_10, e200_11, e200_12, e200_13, e200_16, e200_18, e200_19, e200_20, e200_21, e200_22, e200_25, e200_27, e200_28, e200_32, e200_33, e200_34, e200_37, e200_38, e200_41, e200_43, e200_45, e200_48, e200_50, e200_52, e200_55, e200_57, e200_60, e200_61, e200_62, e200_64, e200_65, e200_66, e200_67, e200_68, e200_71, e200_74, e200_76, e200_77, e200_80, e200_82, e200_85, e200_86, e200_88, e200_90, e200_91, e200_93, e200_94, e200_95, e200_98, e200_100, e200_101, e200_104, e200_106, e200_109, e200_110, e200_112, e200_114, e200_115, e200_117, e200_118, e200_119, e200_122, e200_124, e200_125, e200_128, e200_130, e200_133, e200_135, e200_137, e200_140, e200_143, e200_144, e200_146, e200_148, e200_149, e200_151, e200_152, e200_153, e200_156, e200_158, e200_159, e200_162, e200_164, e200_167, e200_169, e200_171, e200_174, e200_177, e200_178, e200_179, e200_181, e200_182, e200_185, e200_187, e200_188, e200_191, e200_193, e200_196, e200_198, e200_200, e200_203, e200_206, e200_207, e200_209, e200_211, e200_213, e200_215, e200_218, e200_219, e200_222, e200_225, e200_228, kl_I, kl_R, kl_N, kl_L, oSm, oNn, Option.bind_some, wN, if_pos, if_neg, nS, tN, t0, w0, w1, w2, w3, w4, w5, wm1, upA_ne, upA_same, if_true, if_false, Bool.false_eq_true, hN1, xn, b1, b2]
            refine go _ ?_ frL.rf
            rw [stW, if_neg (by omega), if_neg (by omega), if_neg (by omega), if_neg (by omega), if_pos h, ← hb, if_neg (fun z => c2 z.2)]; exact hp.1
          · obtain ⟨r, σ2, f1, rfl, f3, f4⟩ := M198 (d := d) hL hp.1 (show s < 16 by omega) (show (s ^^^ 2 ^ q.2.1) ^^^ 2 ^ b < 16 by omega) (Ne.symm (xx_ne (Ne.symm hd)))
            rw [e200_30, erb]
            rw [erb] at go
            simp (disch := first | assumption | omega | (simp (disch := omega) only [wN, w0, w1]; omega)) only [e200_0, e200_1, e200_2, e200_3, e200_4, e200_7, e200_9, e200_10, e200_11, e200_12, e200_13, e200_16, e200_18, e200_19, e200_20, e200_21, e200_22, e200_25, e200_27, e200_28, e200_32, e200_33, e200_34, e200_37, e200_38, e200_41, e200_43, e200_45, e200_48, e200_50, e200_52, e200_55, e200_57, e200_60, e200_61, e200_62, e200_64, e200_65, e200_66, e200_67, e200_68, e200_71, e200_74, e200_76, e200_77, e200_80, e200_82, e200_85, e200_86, e200_88, e200_90, e200_91, e200_93, e200_94, e200_95, e200_98, e200_100, e200_101, e200_104, e200_106, e200_109, e200_110, e200_112, e200_114, e200_115, e200_117, e200_118, e200_119, e200_122, e200_124, e200_125, e200_128, e200_130, e200_133, e200_135, e200_137, e200_140, e200_143, e200_144, e200_146, e200_148, e200_149, e200_151, e200_152, e200_153, e200_156, e200_158, e200_159, e200_162, e200_164, e200_167, e200_169, e200_171, e200_174, e200_177, e200_178, e200_179, e200_181, e200_182, e200_185, e200_187, e200_188, e200_191, e200_193, e200_196, e200_198, e200_200, e200_203, e200_206, e200_207, e200_209, e200_211, e200_213, e200_215, e200_218, e200_219, e200_222, e200_225, e200_228, kl_I, kl_R, kl_N, kl_L, oSm, oNn, Option.bind_some, wN, if_pos, if_neg, nS, tN, t0, w0, w1, w2, w3, w4, w5, wm1, upA_ne, upA_same, if_true, if_false, Bool.false_eq_true, hN1, xn, b1, b2, x5, x6, f1]
            refine go _ ?_ f4
            rw [stW, if_neg (by omega), if_neg (by omega), if_neg (by omega), if_neg (by omega), if_neg (by omega), ← hb, if_pos ⟨c1, c2⟩]; exact f3
    · rcases (show q.1 = 0 ∨ q.1 = 1 ∨ q.1 = 2 ∨ 3 ≤ q.1 by omega) with h | h | h | h
      · clear v3 v5
        rw [e200_30]
        simp (disch := first | assumption | omega | (simp (disch := omega) only [wN, w0, w1]; omega)) only [e200_0, e200_1, e200_2, e200_3, e200_4, e200_7, e200_9, e200_10, e200_11, e200_12, e200_13, e200_16, e200_18, e200_19, e200_20, e200_21, e200_22, e200_25, e200_27, e200_28, e200_32, e200_33, e200_34, e200_37, e200_38, e200_41, e200_43, e200_45, e200_48, e200_50, e200_52, e200_55, e200_57, e200_60, e200_61, e200_62, e200_64, e200_65, e200_66, e200_67, e200_68, e200_71, e200_74, e200_76, e200_77, e200_80, e200_82, e200_85, e200_86, e200_88, e200_90, e200_91, e200_93, e200_94, e200_95, e200_98, e200_100, e200_101, e200_104, e200_106, e200_109, e200_110, e200_112, e200_114, e200_115, e200_117, e200_118, e200_119, e200_122, e200_124, e200_125, e200_128, e200_130, e200_133, e200_135, e200_137, e200_140, e200_143, e200_144, e200_146, e200_148, e200_149, e200_151, e200_152, e200_153, e200_156, e200_158, e200_159, e200_162, e200_164, e200_167, e200_169, e200_171, e200_174, e200_177, e200_178, e200_179, e200_181, e200_182, e200_185, e200_187, e200_188, e200_191, e200_193, e200_196, e200_198, e200_200, e200_203, e200_206, e200_207, e200_209, e200_211, e200_213, e200_215, e200_218, e200_219, e200_222, e200_225, e200_228, kl_I, kl_R, kl_N, kl_L, oSm, oNn, Option.bind_some, wN, if_pos, if_neg, nS, tN, t0, w0, w1, w2, w3, w4, w5, wm1, upA_ne, upA_same, if_true, if_false, Bool.false_eq_true, hN1, xn, b1]
        refine go _ ?_ frL.rf
        rw [stW, if_pos h, if_neg c1]; exact hp.1
      · obtain ⟨r, σ2, f1, rfl, f3, f4⟩ := M199 (d := d) hL hp.1 (show s < 16 by omega) (show s ||| 2 ^ q.2.1 < 16 by omega) (by rw [or_x c1]; exact Ne.symm x_ne)
        clear v3 v5
        rw [e200_30]
        simp (disch := first | assumption | omega | (simp (disch := omega) only [wN, w0, w1]; omega)) only [e200_0, e200_1, e200_2, e200_3, e200_4, e200_7, e200_9, e200_10, e200_11, e200_12, e200_13, e200_16, e200_18, e200_19, e200_20, e200_21, e200_22, e200_25, e200_27, e200_28, e200_32, e200_33, e200_34, e200_37, e200_38, e200_41, e200_43, e200_45, e200_48, e200_50, e200_52, e200_55, e200_57, e200_60, e200_61, e200_62, e200_64, e200_65, e200_66, e200_67, e200_68, e200_71, e200_74, e200_76, e200_77, e200_80, e200_82, e200_85, e200_86, e200_88, e200_90, e200_91, e200_93, e200_94, e200_95, e200_98, e200_100, e200_101, e200_104, e200_106, e200_109, e200_110, e200_112, e200_114, e200_115, e200_117, e200_118, e200_119, e200_122, e200_124, e200_125, e200_128, e200_130, e200_133, e200_135, e200_137, e200_140, e200_143, e200_144, e200_146, e200_148, e200_149, e200_151, e200_152, e200_153, e200_156, e200_158, e200_159, e200_162, e200_164, e200_167, e200_169, e200_171, e200_174, e200_177, e200_178, e200_179, e200_181, e200_182, e200_185, e200_187, e200_188, e200_191, e200_193, e200_196, e200_198, e200_200, e200_203, e200_206, e200_207, e200_209, e200_211, e200_213, e200_215, e200_218, e200_219, e200_222, e200_225, e200_228, kl_I, kl_R, kl_N, kl_L, oSm, oNn, Option.bind_some, wN, if_pos, if_neg, nS, tN, t0, w0, w1, w2, w3, w4, w5, wm1, upA_ne, upA_same, if_true, if_false, Bool.false_eq_true, hN1, xn, xa, x3, b1, f1]
        refine go _ ?_ f4
        rw [stW, if_neg (by omega), if_pos h, if_neg c1]; exact f3
      · obtain ⟨r, σ2, f1, rfl, f3, f4⟩ := M198 (d := d) hL hp.1 (show s < 16 by omega) (show s ||| 2 ^ q.2.1 < 16 by omega) (by rw [or_x c1]; exact Ne.symm x_ne)
        clear v3 v5
        rw [e200_30]
        simp (disch := first | assumption | omega | (simp (disch := omega) only [wN, w0, w1]; omega)) only [e200_0, e200_1, e200_2, e200_3, e200_4, e200_7, e200_9, e200_10, e200_11, e200_12, e200_13, e200_16, e200_18, e200_19, e200_20, e200_21, e200_22, e200_25, e200_27, e200_28, e200_32, e200_33, e200_34, e200_37, e200_38, e200_41, e200_43, e200_45, e200_48, e200_50, e200_52, e200_55, e200_57, e200_60, e200_61, e200_62, e200_64, e200_65, e200_66, e200_67, e200_68, e200_71, e200_74, e200_76, e200_77, e200_80, e200_82, e200_85, e200_86, e200_88, e200_90, e200_91, e200_93, e200_94, e200_95, e200_98, e200_100, e200_101, e200_104, e200_106, e200_109, e200_110, e200_112, e200_114, e200_115, e200_117, e200_118, e200_119, e200_122, e200_124, e200_125, e200_128, e200_130, e200_133, e200_135, e200_137, e200_140, e200_143, e200_144, e200_146, e200_148, e200_149, e200_151, e200_152, e200_153, e200_156, e200_158, e200_159, e200_162, e200_164, e200_167, e200_169, e200_171, e200_174, e200_177, e200_178, e200_179, e200_181, e200_182, e200_185, e200_187, e200_188, e200_191, e200_193, e200_196, e200_198, e200_200, e200_203, e200_206, e200_207, e200_209, e200_211, e200_213, e200_215, e200_218, e200_219, e200_222, e200_225, e200_228, kl_I, kl_R, kl_N, kl_L, oSm, oNn, Option.bind_some, wN, if_pos, if_neg, nS, tN, t0, w0, w1, w2, w3, w4, w5, wm1, upA_ne, upA_same, if_true, if_false, Bool.false_eq_true, hN1, xn, xa, x3, b1, f1]
        refine go _ ?_ f4
        rw [stW, if_neg (by omega), if_neg (by omega), if_pos h, if_neg c1]; exact f3
      · have es : stW q s (doW q s W) = doW q s W := by
          rw [stW, if_neg (by omega), if_neg (by omega), if_neg (by omega)]
          split
          · rw [if_neg (fun z => c1 z.1)]
          · split
            · rw [if_neg (fun z => c1 z.1)]
            · rw [if_neg (fun z => c1 z.1)]
        clear v3 v5
        rw [e200_30]
        rcases (show q.1 = 3 ∨ q.1 = 4 ∨ q.1 = 5 by omega) with h | h | h
        all_goals
          simp (disch := first | assumption | omega | (simp (disch := omega) only [wN, w0, w1]; omega)) only [e200_0, e200_1, e200_2, e200_3, e200_4, e200_7, e200_9, e200_10, e200_11, e200_12, e200_13, e200_16, e200_18, e200_19, e200_20, e200_21, e200_22, e200_25, e200_27, e200_28, e200_32, e200_33, e200_34, e200_37, e200_38, e200_41, e200_43, e200_45, e200_48, e200_50, e200_52, e200_55, e200_57, e200_60, e200_61, e200_62, e200_64, e200_65, e200_66, e200_67, e200_68, e200_71, e200_74, e200_76, e200_77, e200_80, e200_82, e200_85, e200_86, e200_88, e200_90, e200_91, e200_93, e200_94, e200_95, e200_98, e200_100, e200_101, e200_104, e200_106, e200_109, e200_110, e200_112, e200_114, e200_115, e200_117, e200_118, e200_119, e200_122, e200_124, e200_125, e200_128, e200_130, e200_133, e200_135, e200_137, e200_140, e200_143, e200_144, e200_146, e200_148, e200_149, e200_151, e200_152, e200_153, e200_156, e200_158, e200_159, e200_162, e200_164, e200_167, e200_169, e200_171, e200_174, e200_177, e200_178, e200_179, e200_181, e200_182, e200_185, e200_187, e200_188, e200_191, e200_193, e200_196, e200_198, e200_200, e200_203, e200_206, e200_207, e200_209, e200_211, e200_213, e200_215, e200_218, e200_219, e200_222, e200_225, e200_228, kl_I, kl_R, kl_N, kl_L, oSm, oNn, Option.bind_some, wN, if_pos, if_neg, nS, tN, t0, w0, w1, w2, w3, w4, w5, wm1, upA_ne, upA_same, if_true, if_false, Bool.false_eq_true, hN1, xn, b1]
          exact go _ (by rw [es]; exact hp.1) frL.rf) 0 (Nat.zero_le _)
  simp (disch := first | assumption | omega | (simp (disch := omega) only [wN, w0, w1]; omega)) only [e200_0, e200_1, e200_2, e200_3, e200_4, e200_7, e200_9, e200_10, e200_11, e200_12, e200_13, e200_16, e200_18, e200_19, e200_20, e200_21, e200_22, e200_25, e200_27, e200_28, e200_32, e200_33, e200_34, e200_37, e200_38, e200_41, e200_43, e200_45, e200_48, e200_50, e200_52, e200_55, e200_57, e200_60, e200_61, e200_62, e200_64, e200_65, e200_66, e200_67, e200_68, e200_71, e200_74, e200_76, e200_77, e200_80, e200_82, e200_85, e200_86, e200_88, e200_90, e200_91, e200_93, e200_94, e200_95, e200_98, e200_100, e200_101, e200_104, e200_106, e200_109, e200_110, e200_112, e200_114, e200_115, e200_117, e200_118, e200_119, e200_122, e200_124, e200_125, e200_128, e200_130, e200_133, e200_135, e200_137, e200_140, e200_143, e200_144, e200_146, e200_148, e200_149, e200_151, e200_152, e200_153, e200_156, e200_158, e200_159, e200_162, e200_164, e200_167, e200_169, e200_171, e200_174, e200_177, e200_178, e200_179, e200_181, e200_182, e200_185, e200_187, e200_188, e200_191, e200_193, e200_196, e200_198, e200_200, e200_203, e200_206, e200_207, e200_209, e200_211, e200_213, e200_215, e200_218, e200_219, e200_222, e200_225, e200_228, kl_I, kl_R, kl_N, kl_L, oSm, oNn, Option.bind_some, wN, if_pos, if_neg, nS, tN, t0, w0, w1, w2, w3, w4, w5, wm1, upA_ne, upA_same, if_true, if_false, Bool.false_eq_true, q200, o0, o1, o2]
  exact A σ _ ⟨hV, frL.rf⟩
end MM

