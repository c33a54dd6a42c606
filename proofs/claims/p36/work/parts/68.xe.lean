/-! ===== circuitIs, amplitude, chance, spread ===== -/
def aIs6 (c : List Gt) (w : Int) : Int :=
  if w = 0 then (c.length : Int) else if w = 1 then (mxx (enS false (fun _ => 1) c) c.length : Int) else if w = 2 then (mxx (enS true (fun _ => 1) c) c.length : Int)
  else if w = 3 then (cnK c 3 c.length : Int) + (cnK c 4 c.length : Int) + (cnK c 5 c.length : Int) else if w = 4 then ((amV c 0).2 : Int) else if w = 5 then ((saS c).length : Int) else (mxx (enS false (fun _ => 1) (saS c)) (saS c).length : Int)
def aHas (n : Nat) (c : List Gt) (w : Int) : Int :=
  if 10 ≤ w ∧ w < 16 then (cnK c (w - 10).toNat c.length : Int) else if 20 ≤ w ∧ w < 20 + n then ((sum' (tuF c (w - 20).toNat) c.length % 8 : Nat) : Int)
  else if 30 ≤ w ∧ w < 30 + n then (cnt (fun x => (gm (gA c x)).testBit (w - 30).toNat) c.length : Int) else -1
def aCircIs (a : AX) (w : Int) : Int := if 0 ≤ w ∧ w < 7 then aIs6 a.1.2.1 w else aHas a.1.1 a.1.2.1 w
def aAmp (a : AX) (z w v : Int) : Int := if z < 0 ∨ ((2 ^ a.1.1 : Nat) : Int) ≤ z ∨ w < 0 ∨ ((2 ^ a.1.1 : Nat) : Int) ≤ w ∨ v < 0 ∨ 4 < v then -1000000000000000000 else if v = 4 then ((amV a.1.2.1 z.toNat).2 : Int) else prt ((amV a.1.2.1 z.toNat).1 w.toNat) v.toNat
def chQ (q : Q4) (v : Int) : Int := if v = 0 then q.1 * q.1 + q.2.1 * q.2.1 + q.2.2.1 * q.2.2.1 + q.2.2.2 * q.2.2.2 else q.1 * q.2.1 + q.2.1 * q.2.2.1 + q.2.2.1 * q.2.2.2 - q.2.2.2 * q.1
def aCha (a : AX) (z w v : Int) : Int := if z < 0 ∨ ((2 ^ a.1.1 : Nat) : Int) ≤ z ∨ w < 0 ∨ ((2 ^ a.1.1 : Nat) : Int) ≤ w ∨ v < 0 ∨ 2 < v then -1000000000000000000 else if v = 2 then ((amV a.1.2.1 z.toNat).2 : Int) else chQ ((amV a.1.2.1 z.toNat).1 w.toNat) v
def aSpr (a : AX) (z : Int) : Int := if z < 0 ∨ ((2 ^ a.1.1 : Nat) : Int) ≤ z then -1 else (cnt (fun s => decide ((amV a.1.2.1 z.toNat).1 s ≠ qz)) (2 ^ a.1.1) : Int)
theorem noV_le : ∀ p (W : Vc), (noV p W).2 ≤ p
  | 0, W => Nat.le_refl _
  | p + 1, W => by
    rw [noV]
    split
    · have := noV_le p (leW W); omega
    · exact Nat.le_refl _
theorem fdR_le (c : List Gt) (W : Vc) : ∀ i, (fdR c i W).2 ≤ i
  | 0 => Nat.le_refl _
  | i + 1 => by
    have h9 := noV_le ((fdR c i W).2 + ktH (gA c i)) (clW (gA c i) (fdR c i W).1)
    have h1 := fdR_le c W i
    have : ktH (gA c i) ≤ 1 := by unfold ktH; split <;> omega
    rw [fdR]
    omega
theorem amV_le (c : List Gt) (s : Nat) : (amV c s).2 ≤ c.length := fdR_le c _ _
section XE
variable {sh : Shp} {d : Nat} {σ : Mem} {a : AX} {z w v : Int}
theorem X127 (hX : XS sh) (h : InvX sh σ a) (hw' : i32 w) : End (run sh (d + 6) 127 [mR 0, mI w] σ) (fun r σ' => r = some (mI (aCircIs a w)) ∧ InvX sh σ' a) := by
  have hI121 := fun (d : Nat) (z : Int) => X121 (d := d) (z := z) hX h
  obtain ⟨ho, s0, s1, s3, s4, s5, s6, s7, s8, s9, s10, s11, s12, s13, hnow, hkep, htap, k43, l43, hspg, hspb, htri, hrow, hcol, hkc, k69, l69, hrou, hfin, hsh, hR⟩ := id hX
  obtain ⟨so, u1, u2, u3, sg, sb, sl⟩ := id hnow
  have sgo := sg.1
  have sbo := sb.1
  have slo := sl.1
  have tpo := htap.1
  have spgo := hspg.1
  have spbo := hspb.1
  have trio := htri.1
  have rowo := hrow.1
  have colo := hcol.1
  have kco := hkc.1
  have rouo := hrou.1
  have fino := hfin.1
  have kpo := hkep.1
  obtain ⟨⟨n, c, m, E, P, x⟩, K, B, s, T⟩ := a
  obtain ⟨⟨hS, hoS⟩, hik, hKp, hTp, h140, hTm, hT1⟩ := id h
  replace hS : HS σ 1 n c m E P (x : Int) := hS
  replace hoS : okZ n c m E P x := hoS
  replace hTp : HP σ 41 B s := hTp
  replace h140 : s ≤ 140 := h140
  replace hTm : HT sh σ 43 T := hTm
  replace hik : σ.1 0 2 = bi K.isSome := hik
  obtain ⟨hS0, hSG, hSB, hSF, hSL, hSx⟩ := id hS
  obtain ⟨n1, n4', c30, hv, m2, m5, E10, hvE, hPk, x16⟩ := id hoS
  have ww := hw'.w
  have hone : HT sh σ 1000000 (fun _ => 1) := h.2.2.2.2.2.2
  have hl := hSG.1
  replace hI121 : ∀ (d : Nat) (z : Int), run sh (d + 1) 121 [mR 0, mI z] σ = some (some (mI (if 0 ≤ wi z ∧ wi z < n then 1 else 0)), σ) := hI121
  show End _ (fun r σ' => r = some (mI (aCircIs ((n, c, m, E, P, x), K, B, s, T) w)) ∧ _)
  unfold aCircIs
  simp only
  have hg7 : ∀ F, InvX sh (upA σ.1 7 F, σ.2) ((n, c, m, E, P, x), K, B, s, T) := fun F => h.g (frI.up (by omega)) (by omega)
  by_cases h7 : 0 ≤ w ∧ w < 7
  · rw [if_pos h7]
    unfold aIs6
    rcases (show w = 0 ∨ w = 1 ∨ w = 2 ∨ w = 3 ∨ w = 4 ∨ w = 5 ∨ w = 6 by omega) with rfl | rfl | rfl | rfl | rfl | rfl | rfl
    · simp (disch := first | assumption | omega | (simp (disch := omega) only [wN, w0, w1]; omega)) only [e127_0, e127_1, e127_4, e127_7, e127_8, e127_52, e127_53, e127_56, e127_57, e127_58, e127_61, e127_62, e127_65, e127_66, e127_67, e127_70, e127_71, e127_74, e127_75, e127_76, e127_77, e127_80, e127_81, e127_82, e127_85, e127_86, e127_87, e127_88, e127_91, e127_92, e127_93, e127_94, e127_97, e127_98, e127_99, e127_102, e127_105, e127_106, e127_109, e127_110, e127_113, e127_116, e127_117, e127_118, e127_121, e127_122, e127_125, e127_126, e127_129, e127_132, e127_133, e127_134, e127_137, e127_140, e127_141, e127_142, e127_145, e127_146, e127_149, e127_150, e127_153, e127_156, e127_157, e127_158, e127_161, e127_164, e127_165, e127_168, e127_169, e127_170, e127_171, e127_174, kl_I, kl_R, kl_N, kl_L, oSm, oNn, Option.bind_some, wN, if_pos, if_neg, nS, tN, t0, w0, w1, w2, w3, w4, w5, wm1, upA_ne, upA_same, if_true, if_false, Bool.false_eq_true, q127, s0, u1]
      rw [e127_9_0 rfl]
      simp (disch := first | assumption | omega | (simp (disch := omega) only [wN, w0, w1]; omega)) only [e127_0, e127_1, e127_4, e127_7, e127_8, e127_52, e127_53, e127_56, e127_57, e127_58, e127_61, e127_62, e127_65, e127_66, e127_67, e127_70, e127_71, e127_74, e127_75, e127_76, e127_77, e127_80, e127_81, e127_82, e127_85, e127_86, e127_87, e127_88, e127_91, e127_92, e127_93, e127_94, e127_97, e127_98, e127_99, e127_102, e127_105, e127_106, e127_109, e127_110, e127_113, e127_116, e127_117, e127_118, e127_121, e127_122, e127_125, e127_126, e127_129, e127_132, e127_133, e127_134, e127_137, e127_140, e127_141, e127_142, e127_145, e127_146, e127_149, e127_150, e127_153, e127_156, e127_157, e127_158, e127_161, e127_164, e127_165, e127_168, e127_169, e127_170, e127_171, e127_174, kl_I, kl_R, kl_N, kl_L, oSm, oNn, Option.bind_some, wN, if_pos, if_neg, nS, tN, t0, w0, w1, w2, w3, w4, w5, wm1, upA_ne, upA_same, if_true, if_false, Bool.false_eq_true, hl]
      exact End.of rfl ⟨rfl, h⟩
    · have e64 : run sh (d + 5) 64 [mR 2, mR 1000000, mI 0] σ = _ := L64 (d := d + 1) (lo := false) sg hSG c30 (by omega) hv (by omega) hone (by omega)
      simp (disch := first | assumption | omega | (simp (disch := omega) only [wN, w0, w1]; omega)) only [e127_0, e127_1, e127_4, e127_7, e127_8, e127_52, e127_53, e127_56, e127_57, e127_58, e127_61, e127_62, e127_65, e127_66, e127_67, e127_70, e127_71, e127_74, e127_75, e127_76, e127_77, e127_80, e127_81, e127_82, e127_85, e127_86, e127_87, e127_88, e127_91, e127_92, e127_93, e127_94, e127_97, e127_98, e127_99, e127_102, e127_105, e127_106, e127_109, e127_110, e127_113, e127_116, e127_117, e127_118, e127_121, e127_122, e127_125, e127_126, e127_129, e127_132, e127_133, e127_134, e127_137, e127_140, e127_141, e127_142, e127_145, e127_146, e127_149, e127_150, e127_153, e127_156, e127_157, e127_158, e127_161, e127_164, e127_165, e127_168, e127_169, e127_170, e127_171, e127_174, kl_I, kl_R, kl_N, kl_L, oSm, oNn, Option.bind_some, wN, if_pos, if_neg, nS, tN, t0, w0, w1, w2, w3, w4, w5, wm1, upA_ne, upA_same, if_true, if_false, Bool.false_eq_true, q127, s0, u1]
      rw [e127_9_1 rfl]
      simp (disch := first | assumption | omega | (simp (disch := omega) only [wN, w0, w1]; omega)) only [e127_0, e127_1, e127_4, e127_7, e127_8, e127_52, e127_53, e127_56, e127_57, e127_58, e127_61, e127_62, e127_65, e127_66, e127_67, e127_70, e127_71, e127_74, e127_75, e127_76, e127_77, e127_80, e127_81, e127_82, e127_85, e127_86, e127_87, e127_88, e127_91, e127_92, e127_93, e127_94, e127_97, e127_98, e127_99, e127_102, e127_105, e127_106, e127_109, e127_110, e127_113, e127_116, e127_117, e127_118, e127_121, e127_122, e127_125, e127_126, e127_129, e127_132, e127_133, e127_134, e127_137, e127_140, e127_141, e127_142, e127_145, e127_146, e127_149, e127_150, e127_153, e127_156, e127_157, e127_158, e127_161, e127_164, e127_165, e127_168, e127_169, e127_170, e127_171, e127_174, kl_I, kl_R, kl_N, kl_L, oSm, oNn, Option.bind_some, wN, if_pos, if_neg, nS, tN, t0, w0, w1, w2, w3, w4, w5, wm1, upA_ne, upA_same, if_true, if_false, Bool.false_eq_true, hR, e64]
      exact End.of rfl ⟨rfl, hg7 _⟩
    · have e64 : run sh (d + 5) 64 [mR 2, mR 1000000, mI 1] σ = _ := L64 (d := d + 1) (lo := true) sg hSG c30 (by omega) hv (by omega) hone (by omega)
      simp (disch := first | assumption | omega | (simp (disch := omega) only [wN, w0, w1]; omega)) only [e127_0, e127_1, e127_4, e127_7, e127_8, e127_52, e127_53, e127_56, e127_57, e127_58, e127_61, e127_62, e127_65, e127_66, e127_67, e127_70, e127_71, e127_74, e127_75, e127_76, e127_77, e127_80, e127_81, e127_82, e127_85, e127_86, e127_87, e127_88, e127_91, e127_92, e127_93, e127_94, e127_97, e127_98, e127_99, e127_102, e127_105, e127_106, e127_109, e127_110, e127_113, e127_116, e127_117, e127_118, e127_121, e127_122, e127_125, e127_126, e127_129, e127_132, e127_133, e127_134, e127_137, e127_140, e127_141, e127_142, e127_145, e127_146, e127_149, e127_150, e127_153, e127_156, e127_157, e127_158, e127_161, e127_164, e127_165, e127_168, e127_169, e127_170, e127_171, e127_174, kl_I, kl_R, kl_N, kl_L, oSm, oNn, Option.bind_some, wN, if_pos, if_neg, nS, tN, t0, w0, w1, w2, w3, w4, w5, wm1, upA_ne, upA_same, if_true, if_false, Bool.false_eq_true, q127, s0, u1]
      rw [e127_9_2 rfl]
      simp (disch := first | assumption | omega | (simp (disch := omega) only [wN, w0, w1]; omega)) only [e127_0, e127_1, e127_4, e127_7, e127_8, e127_52, e127_53, e127_56, e127_57, e127_58, e127_61, e127_62, e127_65, e127_66, e127_67, e127_70, e127_71, e127_74, e127_75, e127_76, e127_77, e127_80, e127_81, e127_82, e127_85, e127_86, e127_87, e127_88, e127_91, e127_92, e127_93, e127_94, e127_97, e127_98, e127_99, e127_102, e127_105, e127_106, e127_109, e127_110, e127_113, e127_116, e127_117, e127_118, e127_121, e127_122, e127_125, e127_126, e127_129, e127_132, e127_133, e127_134, e127_137, e127_140, e127_141, e127_142, e127_145, e127_146, e127_149, e127_150, e127_153, e127_156, e127_157, e127_158, e127_161, e127_164, e127_165, e127_168, e127_169, e127_170, e127_171, e127_174, kl_I, kl_R, kl_N, kl_L, oSm, oNn, Option.bind_some, wN, if_pos, if_neg, nS, tN, t0, w0, w1, w2, w3, w4, w5, wm1, upA_ne, upA_same, if_true, if_false, Bool.false_eq_true, hR, e64]
      exact End.of rfl ⟨rfl, hg7 _⟩
    · have k3 : run sh (d + 5) 54 [mR 2, mI 3] σ = _ := L54 (d := d + 3) (k := 3) sg hSG c30 (by omega) hv (by omega)
      have k4 : run sh (d + 5) 54 [mR 2, mI 4] σ = _ := L54 (d := d + 3) (k := 4) sg hSG c30 (by omega) hv (by omega)
      have k5 : run sh (d + 5) 54 [mR 2, mI 5] σ = _ := L54 (d := d + 3) (k := 5) sg hSG c30 (by omega) hv (by omega)
      simp (disch := first | assumption | omega | (simp (disch := omega) only [wN, w0, w1]; omega)) only [e127_0, e127_1, e127_4, e127_7, e127_8, e127_52, e127_53, e127_56, e127_57, e127_58, e127_61, e127_62, e127_65, e127_66, e127_67, e127_70, e127_71, e127_74, e127_75, e127_76, e127_77, e127_80, e127_81, e127_82, e127_85, e127_86, e127_87, e127_88, e127_91, e127_92, e127_93, e127_94, e127_97, e127_98, e127_99, e127_102, e127_105, e127_106, e127_109, e127_110, e127_113, e127_116, e127_117, e127_118, e127_121, e127_122, e127_125, e127_126, e127_129, e127_132, e127_133, e127_134, e127_137, e127_140, e127_141, e127_142, e127_145, e127_146, e127_149, e127_150, e127_153, e127_156, e127_157, e127_158, e127_161, e127_164, e127_165, e127_168, e127_169, e127_170, e127_171, e127_174, kl_I, kl_R, kl_N, kl_L, oSm, oNn, Option.bind_some, wN, if_pos, if_neg, nS, tN, t0, w0, w1, w2, w3, w4, w5, wm1, upA_ne, upA_same, if_true, if_false, Bool.false_eq_true, q127, s0, u1]
      rw [e127_9_3 rfl]
      simp (disch := first | assumption | omega | (simp (disch := omega) only [wN, w0, w1]; omega)) only [e127_0, e127_1, e127_4, e127_7, e127_8, e127_52, e127_53, e127_56, e127_57, e127_58, e127_61, e127_62, e127_65, e127_66, e127_67, e127_70, e127_71, e127_74, e127_75, e127_76, e127_77, e127_80, e127_81, e127_82, e127_85, e127_86, e127_87, e127_88, e127_91, e127_92, e127_93, e127_94, e127_97, e127_98, e127_99, e127_102, e127_105, e127_106, e127_109, e127_110, e127_113, e127_116, e127_117, e127_118, e127_121, e127_122, e127_125, e127_126, e127_129, e127_132, e127_133, e127_134, e127_137, e127_140, e127_141, e127_142, e127_145, e127_146, e127_149, e127_150, e127_153, e127_156, e127_157, e127_158, e127_161, e127_164, e127_165, e127_168, e127_169, e127_170, e127_171, e127_174, kl_I, kl_R, kl_N, kl_L, oSm, oNn, Option.bind_some, wN, if_pos, if_neg, nS, tN, t0, w0, w1, w2, w3, w4, w5, wm1, upA_ne, upA_same, if_true, if_false, Bool.false_eq_true, k3, k4, k5]
      exact End.of rfl ⟨rfl, h⟩
    · obtain ⟨r, σ1, a1, rfl, a3, a4⟩ := C13 (d := d + 2) (s := 0) hcol sg hSG c30 (by omega) hv n4' c30 (by omega) (Nat.two_pow_pos _)
      have a1 : run sh (d + 5) 13 [mR 65, mR 2, mI (n : Int), mI 0] σ = some (none, σ1) := a1
      have e2 := a3.2.2
      simp (disch := first | assumption | omega | (simp (disch := omega) only [wN, w0, w1]; omega)) only [e127_0, e127_1, e127_4, e127_7, e127_8, e127_52, e127_53, e127_56, e127_57, e127_58, e127_61, e127_62, e127_65, e127_66, e127_67, e127_70, e127_71, e127_74, e127_75, e127_76, e127_77, e127_80, e127_81, e127_82, e127_85, e127_86, e127_87, e127_88, e127_91, e127_92, e127_93, e127_94, e127_97, e127_98, e127_99, e127_102, e127_105, e127_106, e127_109, e127_110, e127_113, e127_116, e127_117, e127_118, e127_121, e127_122, e127_125, e127_126, e127_129, e127_132, e127_133, e127_134, e127_137, e127_140, e127_141, e127_142, e127_145, e127_146, e127_149, e127_150, e127_153, e127_156, e127_157, e127_158, e127_161, e127_164, e127_165, e127_168, e127_169, e127_170, e127_171, e127_174, kl_I, kl_R, kl_N, kl_L, oSm, oNn, Option.bind_some, wN, if_pos, if_neg, nS, tN, t0, w0, w1, w2, w3, w4, w5, wm1, upA_ne, upA_same, if_true, if_false, Bool.false_eq_true, q127, s0, u1]
      rw [e127_9_4 rfl]
      simp (disch := first | assumption | omega | (simp (disch := omega) only [wN, w0, w1]; omega)) only [e127_0, e127_1, e127_4, e127_7, e127_8, e127_52, e127_53, e127_56, e127_57, e127_58, e127_61, e127_62, e127_65, e127_66, e127_67, e127_70, e127_71, e127_74, e127_75, e127_76, e127_77, e127_80, e127_81, e127_82, e127_85, e127_86, e127_87, e127_88, e127_91, e127_92, e127_93, e127_94, e127_97, e127_98, e127_99, e127_102, e127_105, e127_106, e127_109, e127_110, e127_113, e127_116, e127_117, e127_118, e127_121, e127_122, e127_125, e127_126, e127_129, e127_132, e127_133, e127_134, e127_137, e127_140, e127_141, e127_142, e127_145, e127_146, e127_149, e127_150, e127_153, e127_156, e127_157, e127_158, e127_161, e127_164, e127_165, e127_168, e127_169, e127_170, e127_171, e127_174, kl_I, kl_R, kl_N, kl_L, oSm, oNn, Option.bind_some, wN, if_pos, if_neg, nS, tN, t0, w0, w1, w2, w3, w4, w5, wm1, upA_ne, upA_same, if_true, if_false, Bool.false_eq_true, s0, s9, hS0, a1, e2]
      exact End.of rfl ⟨rfl, h.B a4 (by omega) (by omega)⟩
    · obtain ⟨r, σ1, a1, rfl, a3, a4⟩ := L53 (d := d + 3) hspg sg (by omega) hSG c30 c30 (by omega) (by omega) (show n ≤ 5 by omega) hv
      obtain ⟨r, σ2, b1, b2, b3, b4⟩ := L67 (d := d) hspg a3 c30 (by omega) hv (show n ≤ 5 by omega)
      have e2 := b3.1
      rw [b2] at b1
      simp (disch := first | assumption | omega | (simp (disch := omega) only [wN, w0, w1]; omega)) only [e127_0, e127_1, e127_4, e127_7, e127_8, e127_52, e127_53, e127_56, e127_57, e127_58, e127_61, e127_62, e127_65, e127_66, e127_67, e127_70, e127_71, e127_74, e127_75, e127_76, e127_77, e127_80, e127_81, e127_82, e127_85, e127_86, e127_87, e127_88, e127_91, e127_92, e127_93, e127_94, e127_97, e127_98, e127_99, e127_102, e127_105, e127_106, e127_109, e127_110, e127_113, e127_116, e127_117, e127_118, e127_121, e127_122, e127_125, e127_126, e127_129, e127_132, e127_133, e127_134, e127_137, e127_140, e127_141, e127_142, e127_145, e127_146, e127_149, e127_150, e127_153, e127_156, e127_157, e127_158, e127_161, e127_164, e127_165, e127_168, e127_169, e127_170, e127_171, e127_174, kl_I, kl_R, kl_N, kl_L, oSm, oNn, Option.bind_some, wN, if_pos, if_neg, nS, tN, t0, w0, w1, w2, w3, w4, w5, wm1, upA_ne, upA_same, if_true, if_false, Bool.false_eq_true, q127, s0, u1]
      rw [e127_9_5 rfl]
      simp (disch := first | assumption | omega | (simp (disch := omega) only [wN, w0, w1]; omega)) only [e127_0, e127_1, e127_4, e127_7, e127_8, e127_52, e127_53, e127_56, e127_57, e127_58, e127_61, e127_62, e127_65, e127_66, e127_67, e127_70, e127_71, e127_74, e127_75, e127_76, e127_77, e127_80, e127_81, e127_82, e127_85, e127_86, e127_87, e127_88, e127_91, e127_92, e127_93, e127_94, e127_97, e127_98, e127_99, e127_102, e127_105, e127_106, e127_109, e127_110, e127_113, e127_116, e127_117, e127_118, e127_121, e127_122, e127_125, e127_126, e127_129, e127_132, e127_133, e127_134, e127_137, e127_140, e127_141, e127_142, e127_145, e127_146, e127_149, e127_150, e127_153, e127_156, e127_157, e127_158, e127_161, e127_164, e127_165, e127_168, e127_169, e127_170, e127_171, e127_174, kl_I, kl_R, kl_N, kl_L, oSm, oNn, Option.bind_some, wN, if_pos, if_neg, nS, tN, t0, w0, w1, w2, w3, w4, w5, wm1, upA_ne, upA_same, if_true, if_false, Bool.false_eq_true, s5, a1, b1, e2]
      exact End.of rfl ⟨rfl, h.B ((frG.I a4).B.tr (frG.I b4).B) (by omega) (by omega)⟩
    · obtain ⟨r, σ1, a1, rfl, a3, a4⟩ := L53 (d := d + 3) hspg sg (by omega) hSG c30 c30 (by omega) (by omega) (show n ≤ 5 by omega) hv
      obtain ⟨r, σ2, b1, b2, b3, b4⟩ := L67 (d := d) hspg a3 c30 (by omega) hv (show n ≤ 5 by omega)
      have ok := shN_ok c.length hv
      have ok2 : (saS c).length ≤ c.length := ok.2
      rw [b2] at b1
      have hone2 : HT sh σ2 1000000 (fun _ => 1) := hone.k (by rw [(frG.I b4).1 _ (by omega), (frG.I a4).1 _ (by omega)])
      have e64 : run sh (d + 5) 64 [mR 44, mR 1000000, mI 0] σ2 = _ := L64 (d := d + 1) (lo := false) hspg b3 (by omega) (by omega) ok.1 (by omega) hone2 (by omega)
      simp (disch := first | assumption | omega | (simp (disch := omega) only [wN, w0, w1]; omega)) only [e127_0, e127_1, e127_4, e127_7, e127_8, e127_52, e127_53, e127_56, e127_57, e127_58, e127_61, e127_62, e127_65, e127_66, e127_67, e127_70, e127_71, e127_74, e127_75, e127_76, e127_77, e127_80, e127_81, e127_82, e127_85, e127_86, e127_87, e127_88, e127_91, e127_92, e127_93, e127_94, e127_97, e127_98, e127_99, e127_102, e127_105, e127_106, e127_109, e127_110, e127_113, e127_116, e127_117, e127_118, e127_121, e127_122, e127_125, e127_126, e127_129, e127_132, e127_133, e127_134, e127_137, e127_140, e127_141, e127_142, e127_145, e127_146, e127_149, e127_150, e127_153, e127_156, e127_157, e127_158, e127_161, e127_164, e127_165, e127_168, e127_169, e127_170, e127_171, e127_174, kl_I, kl_R, kl_N, kl_L, oSm, oNn, Option.bind_some, wN, if_pos, if_neg, nS, tN, t0, w0, w1, w2, w3, w4, w5, wm1, upA_ne, upA_same, if_true, if_false, Bool.false_eq_true, q127, s0, u1]
      rw [e127_9_6 rfl]
      simp (disch := first | assumption | omega | (simp (disch := omega) only [wN, w0, w1]; omega)) only [e127_0, e127_1, e127_4, e127_7, e127_8, e127_52, e127_53, e127_56, e127_57, e127_58, e127_61, e127_62, e127_65, e127_66, e127_67, e127_70, e127_71, e127_74, e127_75, e127_76, e127_77, e127_80, e127_81, e127_82, e127_85, e127_86, e127_87, e127_88, e127_91, e127_92, e127_93, e127_94, e127_97, e127_98, e127_99, e127_102, e127_105, e127_106, e127_109, e127_110, e127_113, e127_116, e127_117, e127_118, e127_121, e127_122, e127_125, e127_126, e127_129, e127_132, e127_133, e127_134, e127_137, e127_140, e127_141, e127_142, e127_145, e127_146, e127_149, e127_150, e127_153, e127_156, e127_157, e127_158, e127_161, e127_164, e127_165, e127_168, e127_169, e127_170, e127_171, e127_174, kl_I, kl_R, kl_N, kl_L, oSm, oNn, Option.bind_some, wN, if_pos, if_neg, nS, tN, t0, w0, w1, w2, w3, w4, w5, wm1, upA_ne, upA_same, if_true, if_false, Bool.false_eq_true, s5, hR, a1, b1, e64]
      exact End.of rfl ⟨rfl, h.B (((frG.I a4).B.w (by omega) (by omega)).tr (((frG.I b4).B.w (by omega) (by omega)).tr (frI.B (frI.up (x := 44) (y := 50) (by omega))))) (by omega) (by omega)⟩
  · rw [if_neg h7]
    simp (disch := first | assumption | omega | (simp (disch := omega) only [wN, w0, w1]; omega)) only [e127_0, e127_1, e127_4, e127_7, e127_8, e127_52, e127_53, e127_56, e127_57, e127_58, e127_61, e127_62, e127_65, e127_66, e127_67, e127_70, e127_71, e127_74, e127_75, e127_76, e127_77, e127_80, e127_81, e127_82, e127_85, e127_86, e127_87, e127_88, e127_91, e127_92, e127_93, e127_94, e127_97, e127_98, e127_99, e127_102, e127_105, e127_106, e127_109, e127_110, e127_113, e127_116, e127_117, e127_118, e127_121, e127_122, e127_125, e127_126, e127_129, e127_132, e127_133, e127_134, e127_137, e127_140, e127_141, e127_142, e127_145, e127_146, e127_149, e127_150, e127_153, e127_156, e127_157, e127_158, e127_161, e127_164, e127_165, e127_168, e127_169, e127_170, e127_171, e127_174, kl_I, kl_R, kl_N, kl_L, oSm, oNn, Option.bind_some, wN, if_pos, if_neg, nS, tN, t0, w0, w1, w2, w3, w4, w5, wm1, upA_ne, upA_same, if_true, if_false, Bool.false_eq_true, q127, s0, u1]
    rw [e127_9_d (by rw [ww]; omega)]
    have m10 : w - 10 = w - ((10 : Nat) : Int) := rfl
    have m20 : w - 20 = w - ((20 : Nat) : Int) := rfl
    have m30 : w - 30 = w - ((30 : Nat) : Int) := rfl
    have w10 : wi 10 = 10 := rfl
    have w16 : wi 16 = 16 := rfl
    unfold aHas
    have e20 := hI121 (d + 3) (w - 20)
    have e30 := hI121 (d + 3) (w - 30)
    have c20 : (0 ≤ wi (w - 20) ∧ wi (w - 20) < (n : Int)) ↔ (20 ≤ w ∧ w < 20 + n) := wi_sub (k := 20) hw' (by omega) (by omega)
    have c30' : (0 ≤ wi (w - 30) ∧ wi (w - 30) < (n : Int)) ↔ (30 ≤ w ∧ w < 30 + n) := wi_sub (k := 30) hw' (by omega) (by omega)
    by_cases h1 : 10 ≤ w ∧ w < 16
    · rw [if_pos h1]
      obtain ⟨k, hk⟩ : ∃ k : Nat, w - 10 = (k : Int) := ⟨(w - 10).toNat, by omega⟩
      have e54 := L54 (d := d + 2) (k := k) sg hSG c30 (by omega) hv (by omega)
      rw [hk, tN]
      simp (disch := first | assumption | omega | (simp (disch := omega) only [wN, w0, w1]; omega)) only [e127_0, e127_1, e127_4, e127_7, e127_8, e127_52, e127_53, e127_56, e127_57, e127_58, e127_61, e127_62, e127_65, e127_66, e127_67, e127_70, e127_71, e127_74, e127_75, e127_76, e127_77, e127_80, e127_81, e127_82, e127_85, e127_86, e127_87, e127_88, e127_91, e127_92, e127_93, e127_94, e127_97, e127_98, e127_99, e127_102, e127_105, e127_106, e127_109, e127_110, e127_113, e127_116, e127_117, e127_118, e127_121, e127_122, e127_125, e127_126, e127_129, e127_132, e127_133, e127_134, e127_137, e127_140, e127_141, e127_142, e127_145, e127_146, e127_149, e127_150, e127_153, e127_156, e127_157, e127_158, e127_161, e127_164, e127_165, e127_168, e127_169, e127_170, e127_171, e127_174, e128_0, e128_1, e128_3, e128_6, e128_7, e128_9, e128_12, e128_13, e128_16, e128_19, e128_20, e128_22, e128_23, e128_26, e128_27, e128_28, e128_29, e128_31, e128_32, e128_35, e128_38, e128_39, e128_42, e128_45, e128_46, e128_48, e128_49, e128_52, e128_53, e128_54, e128_55, e128_57, e128_58, e128_61, e128_64, e128_65, e128_68, e128_71, e128_72, e128_74, e128_75, e128_78, e128_79, e128_80, kl_I, kl_R, kl_N, kl_L, oSm, oNn, Option.bind_some, wN, if_pos, if_neg, nS, tN, t0, w0, w1, w2, w3, w4, w5, wm1, upA_ne, upA_same, if_true, if_false, Bool.false_eq_true, q128, ww, w10, w16, s0, u1, hk, e54]
      exact End.of rfl ⟨rfl, h⟩
    · rw [if_neg h1]
      by_cases h2 : 20 ≤ w ∧ w < 20 + n
      · rw [if_pos h2]
        rw [if_pos (c20.mpr h2)] at e20
        obtain ⟨k, hk⟩ : ∃ k : Nat, w - 20 = (k : Int) := ⟨(w - 20).toNat, by omega⟩
        have e56 := L56 (d := d + 2) (l := k) sg hSG c30 (by omega) hv (by omega) (by omega)
        rw [hk] at e20
        rw [hk, tN]
        simp (disch := first | assumption | omega | (simp (disch := omega) only [wN, w0, w1]; omega)) only [e127_0, e127_1, e127_4, e127_7, e127_8, e127_52, e127_53, e127_56, e127_57, e127_58, e127_61, e127_62, e127_65, e127_66, e127_67, e127_70, e127_71, e127_74, e127_75, e127_76, e127_77, e127_80, e127_81, e127_82, e127_85, e127_86, e127_87, e127_88, e127_91, e127_92, e127_93, e127_94, e127_97, e127_98, e127_99, e127_102, e127_105, e127_106, e127_109, e127_110, e127_113, e127_116, e127_117, e127_118, e127_121, e127_122, e127_125, e127_126, e127_129, e127_132, e127_133, e127_134, e127_137, e127_140, e127_141, e127_142, e127_145, e127_146, e127_149, e127_150, e127_153, e127_156, e127_157, e127_158, e127_161, e127_164, e127_165, e127_168, e127_169, e127_170, e127_171, e127_174, e128_0, e128_1, e128_3, e128_6, e128_7, e128_9, e128_12, e128_13, e128_16, e128_19, e128_20, e128_22, e128_23, e128_26, e128_27, e128_28, e128_29, e128_31, e128_32, e128_35, e128_38, e128_39, e128_42, e128_45, e128_46, e128_48, e128_49, e128_52, e128_53, e128_54, e128_55, e128_57, e128_58, e128_61, e128_64, e128_65, e128_68, e128_71, e128_72, e128_74, e128_75, e128_78, e128_79, e128_80, kl_I, kl_R, kl_N, kl_L, oSm, oNn, Option.bind_some, wN, if_pos, if_neg, nS, tN, t0, w0, w1, w2, w3, w4, w5, wm1, upA_ne, upA_same, if_true, if_false, Bool.false_eq_true, q128, ww, w10, w16, s0, u1, hk, e20, e56]
        exact End.of rfl ⟨rfl, h⟩
      · rw [if_neg h2]
        rw [if_neg (fun q => h2 (c20.mp q))] at e20
        by_cases h3 : 30 ≤ w ∧ w < 30 + n
        · rw [if_pos h3]
          rw [if_pos (c30'.mpr h3)] at e30
          obtain ⟨k, hk⟩ : ∃ k : Nat, w - 30 = (k : Int) := ⟨(w - 30).toNat, by omega⟩
          have e55 := L55 (d := d + 2) (l := k) sg hSG c30 (by omega) hv (by omega) (by omega)
          rw [hk] at e30
          rw [hk, tN]
          simp (disch := first | assumption | omega | (simp (disch := omega) only [wN, w0, w1]; omega)) only [e127_0, e127_1, e127_4, e127_7, e127_8, e127_52, e127_53, e127_56, e127_57, e127_58, e127_61, e127_62, e127_65, e127_66, e127_67, e127_70, e127_71, e127_74, e127_75, e127_76, e127_77, e127_80, e127_81, e127_82, e127_85, e127_86, e127_87, e127_88, e127_91, e127_92, e127_93, e127_94, e127_97, e127_98, e127_99, e127_102, e127_105, e127_106, e127_109, e127_110, e127_113, e127_116, e127_117, e127_118, e127_121, e127_122, e127_125, e127_126, e127_129, e127_132, e127_133, e127_134, e127_137, e127_140, e127_141, e127_142, e127_145, e127_146, e127_149, e127_150, e127_153, e127_156, e127_157, e127_158, e127_161, e127_164, e127_165, e127_168, e127_169, e127_170, e127_171, e127_174, e128_0, e128_1, e128_3, e128_6, e128_7, e128_9, e128_12, e128_13, e128_16, e128_19, e128_20, e128_22, e128_23, e128_26, e128_27, e128_28, e128_29, e128_31, e128_32, e128_35, e128_38, e128_39, e128_42, e128_45, e128_46, e128_48, e128_49, e128_52, e128_53, e128_54, e128_55, e128_57, e128_58, e128_61, e128_64, e128_65, e128_68, e128_71, e128_72, e128_74, e128_75, e128_78, e128_79, e128_80, kl_I, kl_R, kl_N, kl_L, oSm, oNn, Option.bind_some, wN, if_pos, if_neg, nS, tN, t0, w0, w1, w2, w3, w4, w5, wm1, upA_ne, upA_same, if_true, if_false, Bool.false_eq_true, q128, ww, w10, w16, s0, u1, e20, hk, e30, e55]
          exact End.of rfl ⟨rfl, h⟩
        · rw [if_neg h3]
          rw [if_neg (fun q => h3 (c30'.mp q))] at e30
          rcases (show w < 10 ∨ (10 ≤ w ∧ 16 ≤ w) by omega) with g | g
          · simp (disch := first | assumption | omega | (simp (disch := omega) only [wN, w0, w1]; omega)) only [e127_0, e127_1, e127_4, e127_7, e127_8, e127_52, e127_53, e127_56, e127_57, e127_58, e127_61, e127_62, e127_65, e127_66, e127_67, e127_70, e127_71, e127_74, e127_75, e127_76, e127_77, e127_80, e127_81, e127_82, e127_85, e127_86, e127_87, e127_88, e127_91, e127_92, e127_93, e127_94, e127_97, e127_98, e127_99, e127_102, e127_105, e127_106, e127_109, e127_110, e127_113, e127_116, e127_117, e127_118, e127_121, e127_122, e127_125, e127_126, e127_129, e127_132, e127_133, e127_134, e127_137, e127_140, e127_141, e127_142, e127_145, e127_146, e127_149, e127_150, e127_153, e127_156, e127_157, e127_158, e127_161, e127_164, e127_165, e127_168, e127_169, e127_170, e127_171, e127_174, e128_0, e128_1, e128_3, e128_6, e128_7, e128_9, e128_12, e128_13, e128_16, e128_19, e128_20, e128_22, e128_23, e128_26, e128_27, e128_28, e128_29, e128_31, e128_32, e128_35, e128_38, e128_39, e128_42, e128_45, e128_46, e128_48, e128_49, e128_52, e128_53, e128_54, e128_55, e128_57, e128_58, e128_61, e128_64, e128_65, e128_68, e128_71, e128_72, e128_74, e128_75, e128_78, e128_79, e128_80, kl_I, kl_R, kl_N, kl_L, oSm, oNn, Option.bind_some, wN, if_pos, if_neg, nS, tN, t0, w0, w1, w2, w3, w4, w5, wm1, upA_ne, upA_same, if_true, if_false, Bool.false_eq_true, q128, ww, w10, w16, s0, u1, e20, e30]
            exact End.of rfl ⟨rfl, h⟩
          · simp (disch := first | assumption | omega | (simp (disch := omega) only [wN, w0, w1]; omega)) only [e127_0, e127_1, e127_4, e127_7, e127_8, e127_52, e127_53, e127_56, e127_57, e127_58, e127_61, e127_62, e127_65, e127_66, e127_67, e127_70, e127_71, e127_74, e127_75, e127_76, e127_77, e127_80, e127_81, e127_82, e127_85, e127_86, e127_87, e127_88, e127_91, e127_92, e127_93, e127_94, e127_97, e127_98, e127_99, e127_102, e127_105, e127_106, e127_109, e127_110, e127_113, e127_116, e127_117, e127_118, e127_121, e127_122, e127_125, e127_126, e127_129, e127_132, e127_133, e127_134, e127_137, e127_140, e127_141, e127_142, e127_145, e127_146, e127_149, e127_150, e127_153, e127_156, e127_157, e127_158, e127_161, e127_164, e127_165, e127_168, e127_169, e127_170, e127_171, e127_174, e128_0, e128_1, e128_3, e128_6, e128_7, e128_9, e128_12, e128_13, e128_16, e128_19, e128_20, e128_22, e128_23, e128_26, e128_27, e128_28, e128_29, e128_31, e128_32, e128_35, e128_38, e128_39, e128_42, e128_45, e128_46, e128_48, e128_49, e128_52, e128_53, e128_54, e128_55, e128_57, e128_58, e128_61, e128_64, e128_65, e128_68, e128_71, e128_72, e128_74, e128_75, e128_78, e128_79, e128_80, kl_I, kl_R, kl_N, kl_L, oSm, oNn, Option.bind_some, wN, if_pos, if_neg, nS, tN, t0, w0, w1, w2, w3, w4, w5, wm1, upA_ne, upA_same, if_true, if_false, Bool.false_eq_true, q128, ww, w10, w16, s0, u1, e20, e30]
            exact End.of rfl ⟨rfl, h⟩
theorem X131 (hX : XS sh) (h : InvX sh σ a) (hz : i32 z) : run sh (d + 1) 131 [mR 0, mI z] σ = some (some (mI (if z < 0 ∨ ((2 ^ a.1.1 : Nat) : Int) ≤ z then 0 else 1)), σ) := by
  obtain ⟨ho, s0, s1, s3, s4, s5, s6, s7, s8, s9, s10, s11, s12, s13, hnow, hkep, htap, k43, l43, hspg, hspb, htri, hrow, hcol, hkc, k69, l69, hrou, hfin, hsh, hR⟩ := id hX
  obtain ⟨so, u1, u2, u3, sg, sb, sl⟩ := id hnow
  have sgo := sg.1
  have sbo := sb.1
  have slo := sl.1
  have tpo := htap.1
  have spgo := hspg.1
  have spbo := hspb.1
  have trio := htri.1
  have rowo := hrow.1
  have colo := hcol.1
  have kco := hkc.1
  have rouo := hrou.1
  have fino := hfin.1
  have kpo := hkep.1
  obtain ⟨⟨n, c, m, E, P, x⟩, K, B, s, T⟩ := a
  obtain ⟨⟨hS, hoS⟩, hik, hKp, hTp, h140, hTm, hT1⟩ := id h
  replace hS : HS σ 1 n c m E P (x : Int) := hS
  replace hoS : okZ n c m E P x := hoS
  replace hTp : HP σ 41 B s := hTp
  replace h140 : s ≤ 140 := h140
  replace hTm : HT sh σ 43 T := hTm
  replace hik : σ.1 0 2 = bi K.isSome := hik
  obtain ⟨hS0, hSG, hSB, hSF, hSL, hSx⟩ := id hS
  obtain ⟨n1, n4', c30, hv, m2, m5, E10, hvE, hPk, x16⟩ := id hoS
  have wz := hz.w
  have x1 := xshl_1 (k := n) (by omega)
  have h16 : 2 ^ n ≤ 2 ^ 4 := Nat.pow_le_pow_right (by omega) n4'
  have e : wi ((2 ^ n : Nat) : Int) = ((2 ^ n : Nat) : Int) := wN (by omega)
  show _ = some (some (mI (if z < 0 ∨ ((2 ^ n : Nat) : Int) ≤ z then 0 else 1)), σ)
  by_cases h1 : z < 0
  · simp (disch := first | assumption | omega | (simp (disch := omega) only [wN, w0, w1]; omega)) only [e131_0, e131_1, e131_4, e131_5, e131_6, e131_7, e131_10, e131_13, e131_14, e131_17, e131_18, e131_21, e131_22, kl_I, kl_R, kl_N, kl_L, oSm, oNn, Option.bind_some, wN, if_pos, if_neg, nS, tN, t0, w0, w1, w2, w3, w4, w5, wm1, upA_ne, upA_same, if_true, if_false, Bool.false_eq_true, q131, wz]
  · by_cases h2 : z < ((2 ^ n : Nat) : Int)
    · simp (disch := first | assumption | omega | (simp (disch := omega) only [wN, w0, w1]; omega)) only [e131_0, e131_1, e131_4, e131_5, e131_6, e131_7, e131_10, e131_13, e131_14, e131_17, e131_18, e131_21, e131_22, kl_I, kl_R, kl_N, kl_L, oSm, oNn, Option.bind_some, wN, if_pos, if_neg, nS, tN, t0, w0, w1, w2, w3, w4, w5, wm1, upA_ne, upA_same, if_true, if_false, Bool.false_eq_true, q131, wz, s0, hS0, x1, e]
    · simp (disch := first | assumption | omega | (simp (disch := omega) only [wN, w0, w1]; omega)) only [e131_0, e131_1, e131_4, e131_5, e131_6, e131_7, e131_10, e131_13, e131_14, e131_17, e131_18, e131_21, e131_22, kl_I, kl_R, kl_N, kl_L, oSm, oNn, Option.bind_some, wN, if_pos, if_neg, nS, tN, t0, w0, w1, w2, w3, w4, w5, wm1, upA_ne, upA_same, if_true, if_false, Bool.false_eq_true, q131, wz, s0, hS0, x1, e]
theorem X132 (hX : XS sh) (h : InvX sh σ a) (hz : i32 z) (hw' : i32 w) (hv' : i32 v) : End (run sh (d + 4) 132 [mR 0, mI z, mI w, mI v] σ) (fun r σ' => r = some (mL (aAmp a z w v)) ∧ InvX sh σ' a) := by
  have ez := X131 (d := d + 2) hX h hz
  have ew := X131 (d := d + 2) hX h hw'
  obtain ⟨ho, s0, s1, s3, s4, s5, s6, s7, s8, s9, s10, s11, s12, s13, hnow, hkep, htap, k43, l43, hspg, hspb, htri, hrow, hcol, hkc, k69, l69, hrou, hfin, hsh, hR⟩ := id hX
  obtain ⟨so, u1, u2, u3, sg, sb, sl⟩ := id hnow
  have sgo := sg.1
  have sbo := sb.1
  have slo := sl.1
  have tpo := htap.1
  have spgo := hspg.1
  have spbo := hspb.1
  have trio := htri.1
  have rowo := hrow.1
  have colo := hcol.1
  have kco := hkc.1
  have rouo := hrou.1
  have fino := hfin.1
  have kpo := hkep.1
  obtain ⟨⟨n, c, m, E, P, x⟩, K, B, s, T⟩ := a
  obtain ⟨⟨hS, hoS⟩, hik, hKp, hTp, h140, hTm, hT1⟩ := id h
  replace hS : HS σ 1 n c m E P (x : Int) := hS
  replace hoS : okZ n c m E P x := hoS
  replace hTp : HP σ 41 B s := hTp
  replace h140 : s ≤ 140 := h140
  replace hTm : HT sh σ 43 T := hTm
  replace hik : σ.1 0 2 = bi K.isSome := hik
  obtain ⟨hS0, hSG, hSB, hSF, hSL, hSx⟩ := id hS
  obtain ⟨n1, n4', c30, hv, m2, m5, E10, hvE, hPk, x16⟩ := id hoS
  have wv := hv'.w
  have h16 : 2 ^ n ≤ 2 ^ 4 := Nat.pow_le_pow_right (by omega) n4'
  replace ez : run sh (d + 3) 131 [mR 0, mI z] σ = some (some (mI (if z < 0 ∨ ((2 ^ n : Nat) : Int) ≤ z then 0 else 1)), σ) := ez
  replace ew : run sh (d + 3) 131 [mR 0, mI w] σ = some (some (mI (if w < 0 ∨ ((2 ^ n : Nat) : Int) ≤ w then 0 else 1)), σ) := ew
  show End _ (fun r σ' => r = some (mL (aAmp ((n, c, m, E, P, x), K, B, s, T) z w v)) ∧ _)
  unfold aAmp
  simp only
  by_cases h1 : z < 0 ∨ ((2 ^ n : Nat) : Int) ≤ z
  · rw [if_pos h1] at ez
    rw [if_pos (by omega)]
    simp (disch := first | assumption | omega | (simp (disch := omega) only [wN, w0, w1]; omega)) only [e132_0, e132_1, e132_2, e132_5, e132_8, e132_9, e132_10, e132_13, e132_16, e132_17, e132_20, e132_21, e132_22, e132_25, e132_28, e132_29, e132_30, e132_33, e132_34, e132_37, e132_40, e132_41, e132_44, e132_47, e132_48, e132_51, e132_52, e132_53, e132_56, e132_57, e132_60, e132_63, e132_64, e132_67, e132_68, e132_71, e132_72, e132_73, e132_76, kl_I, kl_R, kl_N, kl_L, oSm, oNn, Option.bind_some, wN, if_pos, if_neg, nS, tN, t0, w0, w1, w2, w3, w4, w5, wm1, upA_ne, upA_same, if_true, if_false, Bool.false_eq_true, q132, ez]
    exact End.of rfl ⟨rfl, h⟩
  · rw [if_neg h1] at ez
    by_cases h2 : w < 0 ∨ ((2 ^ n : Nat) : Int) ≤ w
    · rw [if_pos h2] at ew
      rw [if_pos (by omega)]
      simp (disch := first | assumption | omega | (simp (disch := omega) only [wN, w0, w1]; omega)) only [e132_0, e132_1, e132_2, e132_5, e132_8, e132_9, e132_10, e132_13, e132_16, e132_17, e132_20, e132_21, e132_22, e132_25, e132_28, e132_29, e132_30, e132_33, e132_34, e132_37, e132_40, e132_41, e132_44, e132_47, e132_48, e132_51, e132_52, e132_53, e132_56, e132_57, e132_60, e132_63, e132_64, e132_67, e132_68, e132_71, e132_72, e132_73, e132_76, kl_I, kl_R, kl_N, kl_L, oSm, oNn, Option.bind_some, wN, if_pos, if_neg, nS, tN, t0, w0, w1, w2, w3, w4, w5, wm1, upA_ne, upA_same, if_true, if_false, Bool.false_eq_true, q132, ez, ew]
      exact End.of rfl ⟨rfl, h⟩
    · rw [if_neg h2] at ew
      by_cases h3 : v < 0
      · rw [if_pos (by omega)]
        simp (disch := first | assumption | omega | (simp (disch := omega) only [wN, w0, w1]; omega)) only [e132_0, e132_1, e132_2, e132_5, e132_8, e132_9, e132_10, e132_13, e132_16, e132_17, e132_20, e132_21, e132_22, e132_25, e132_28, e132_29, e132_30, e132_33, e132_34, e132_37, e132_40, e132_41, e132_44, e132_47, e132_48, e132_51, e132_52, e132_53, e132_56, e132_57, e132_60, e132_63, e132_64, e132_67, e132_68, e132_71, e132_72, e132_73, e132_76, kl_I, kl_R, kl_N, kl_L, oSm, oNn, Option.bind_some, wN, if_pos, if_neg, nS, tN, t0, w0, w1, w2, w3, w4, w5, wm1, upA_ne, upA_same, if_true, if_false, Bool.false_eq_true, q132, ez, ew, wv]
        exact End.of rfl ⟨rfl, h⟩
      · by_cases h4 : 4 < v
        · rw [if_pos (by omega)]
          simp (disch := first | assumption | omega | (simp (disch := omega) only [wN, w0, w1]; omega)) only [e132_0, e132_1, e132_2, e132_5, e132_8, e132_9, e132_10, e132_13, e132_16, e132_17, e132_20, e132_21, e132_22, e132_25, e132_28, e132_29, e132_30, e132_33, e132_34, e132_37, e132_40, e132_41, e132_44, e132_47, e132_48, e132_51, e132_52, e132_53, e132_56, e132_57, e132_60, e132_63, e132_64, e132_67, e132_68, e132_71, e132_72, e132_73, e132_76, kl_I, kl_R, kl_N, kl_L, oSm, oNn, Option.bind_some, wN, if_pos, if_neg, nS, tN, t0, w0, w1, w2, w3, w4, w5, wm1, upA_ne, upA_same, if_true, if_false, Bool.false_eq_true, q132, ez, ew, wv]
          exact End.of rfl ⟨rfl, h⟩
        · rw [if_neg (by omega)]
          obtain ⟨zz, rfl⟩ : ∃ k : Nat, z = (k : Int) := ⟨z.toNat, by omega⟩
          obtain ⟨t, rfl⟩ : ∃ k : Nat, w = (k : Int) := ⟨w.toNat, by omega⟩
          obtain ⟨r, σ1, a1, rfl, a3, a4⟩ := C13 (d := d) (s := zz) hcol sg hSG c30 (by omega) hv n4' c30 (by omega) (by omega)
          have hI := h.B a4 (by omega) (by omega)
          simp only [Int.toNat_natCast]
          by_cases h5 : v = 4
          · rw [if_pos h5]
            have e2 := a3.2.2
            have hlt := amV_le c zz
            have wpw : wi ((amV c zz).2 : Int) = ((amV c zz).2 : Int) := wN (by omega)
            simp (disch := first | assumption | omega | (simp (disch := omega) only [wN, w0, w1]; omega)) only [e132_0, e132_1, e132_2, e132_5, e132_8, e132_9, e132_10, e132_13, e132_16, e132_17, e132_20, e132_21, e132_22, e132_25, e132_28, e132_29, e132_30, e132_33, e132_34, e132_37, e132_40, e132_41, e132_44, e132_47, e132_48, e132_51, e132_52, e132_53, e132_56, e132_57, e132_60, e132_63, e132_64, e132_67, e132_68, e132_71, e132_72, e132_73, e132_76, kl_I, kl_R, kl_N, kl_L, oSm, oNn, Option.bind_some, wN, if_pos, if_neg, nS, tN, t0, w0, w1, w2, w3, w4, w5, wm1, upA_ne, upA_same, if_true, if_false, Bool.false_eq_true, q132, ez, ew, wv, s0, s9, u1, hS0, a1, e2, wpw]
            exact End.of rfl ⟨rfl, hI⟩
          · rw [if_neg h5]
            obtain ⟨q, rfl⟩ : ∃ k : Nat, v = (k : Int) := ⟨v.toNat, by omega⟩
            have e14 := C14 (d := d + 2) (i := q) hcol a3.1 a3.2.1 (by omega) (show t < 2 ^ n by omega) (by omega)
            simp only [Int.toNat_natCast]
            simp (disch := first | assumption | omega | (simp (disch := omega) only [wN, w0, w1]; omega)) only [e132_0, e132_1, e132_2, e132_5, e132_8, e132_9, e132_10, e132_13, e132_16, e132_17, e132_20, e132_21, e132_22, e132_25, e132_28, e132_29, e132_30, e132_33, e132_34, e132_37, e132_40, e132_41, e132_44, e132_47, e132_48, e132_51, e132_52, e132_53, e132_56, e132_57, e132_60, e132_63, e132_64, e132_67, e132_68, e132_71, e132_72, e132_73, e132_76, kl_I, kl_R, kl_N, kl_L, oSm, oNn, Option.bind_some, wN, if_pos, if_neg, nS, tN, t0, w0, w1, w2, w3, w4, w5, wm1, upA_ne, upA_same, if_true, if_false, Bool.false_eq_true, q132, ez, ew, wv, s0, s9, u1, hS0, a1, e14]
            exact End.of rfl ⟨rfl, hI⟩
theorem X133 (hX : XS sh) (h : InvX sh σ a) (hz : i32 z) (hw' : i32 w) (hv' : i32 v) : End (run sh (d + 4) 133 [mR 0, mI z, mI w, mI v] σ) (fun r σ' => r = some (mL (aCha a z w v)) ∧ InvX sh σ' a) := by
  have ez := X131 (d := d + 2) hX h hz
  have ew := X131 (d := d + 2) hX h hw'
  obtain ⟨ho, s0, s1, s3, s4, s5, s6, s7, s8, s9, s10, s11, s12, s13, hnow, hkep, htap, k43, l43, hspg, hspb, htri, hrow, hcol, hkc, k69, l69, hrou, hfin, hsh, hR⟩ := id hX
  obtain ⟨so, u1, u2, u3, sg, sb, sl⟩ := id hnow
  have sgo := sg.1
  have sbo := sb.1
  have slo := sl.1
  have tpo := htap.1
  have spgo := hspg.1
  have spbo := hspb.1
  have trio := htri.1
  have rowo := hrow.1
  have colo := hcol.1
  have kco := hkc.1
  have rouo := hrou.1
  have fino := hfin.1
  have kpo := hkep.1
  obtain ⟨⟨n, c, m, E, P, x⟩, K, B, s, T⟩ := a
  obtain ⟨⟨hS, hoS⟩, hik, hKp, hTp, h140, hTm, hT1⟩ := id h
  replace hS : HS σ 1 n c m E P (x : Int) := hS
  replace hoS : okZ n c m E P x := hoS
  replace hTp : HP σ 41 B s := hTp
  replace h140 : s ≤ 140 := h140
  replace hTm : HT sh σ 43 T := hTm
  replace hik : σ.1 0 2 = bi K.isSome := hik
  obtain ⟨hS0, hSG, hSB, hSF, hSL, hSx⟩ := id hS
  obtain ⟨n1, n4', c30, hv, m2, m5, E10, hvE, hPk, x16⟩ := id hoS
  have wv := hv'.w
  have h16 : 2 ^ n ≤ 2 ^ 4 := Nat.pow_le_pow_right (by omega) n4'
  replace ez : run sh (d + 3) 131 [mR 0, mI z] σ = some (some (mI (if z < 0 ∨ ((2 ^ n : Nat) : Int) ≤ z then 0 else 1)), σ) := ez
  replace ew : run sh (d + 3) 131 [mR 0, mI w] σ = some (some (mI (if w < 0 ∨ ((2 ^ n : Nat) : Int) ≤ w then 0 else 1)), σ) := ew
  show End _ (fun r σ' => r = some (mL (aCha ((n, c, m, E, P, x), K, B, s, T) z w v)) ∧ _)
  unfold aCha
  simp only
  by_cases h1 : z < 0 ∨ ((2 ^ n : Nat) : Int) ≤ z
  · rw [if_pos h1] at ez
    rw [if_pos (by omega)]
    simp (disch := first | assumption | omega | (simp (disch := omega) only [wN, w0, w1]; omega)) only [e133_0, e133_1, e133_2, e133_5, e133_8, e133_9, e133_10, e133_13, e133_16, e133_17, e133_20, e133_21, e133_22, e133_25, e133_28, e133_29, e133_30, e133_33, e133_34, e133_37, e133_40, e133_41, e133_44, e133_47, e133_48, e133_51, e133_52, e133_53, e133_56, e133_57, e133_60, e133_63, e133_64, e133_65, e133_66, e133_69, e133_70, e133_71, e133_74, e133_76, e133_77, e133_80, e133_81, e133_82, e133_85, e133_87, e133_88, e133_91, e133_92, e133_93, e133_96, e133_98, e133_99, e133_102, e133_103, e133_104, e133_107, e133_109, e133_110, e133_113, e133_115, e133_117, e133_118, e133_120, e133_122, e133_123, e133_124, e133_126, e133_128, e133_129, e133_130, e133_132, e133_134, e133_135, e133_136, e133_139, e133_141, e133_143, e133_144, e133_146, e133_148, e133_149, e133_150, e133_152, e133_154, e133_155, e133_156, e133_158, e133_160, e133_161, e133_162, kl_I, kl_R, kl_N, kl_L, oSm, oNn, Option.bind_some, wN, if_pos, if_neg, nS, tN, t0, w0, w1, w2, w3, w4, w5, wm1, upA_ne, upA_same, if_true, if_false, Bool.false_eq_true, q133, ez]
    exact End.of rfl ⟨rfl, h⟩
  · rw [if_neg h1] at ez
    by_cases h2 : w < 0 ∨ ((2 ^ n : Nat) : Int) ≤ w
    · rw [if_pos h2] at ew
      rw [if_pos (by omega)]
      simp (disch := first | assumption | omega | (simp (disch := omega) only [wN, w0, w1]; omega)) only [e133_0, e133_1, e133_2, e133_5, e133_8, e133_9, e133_10, e133_13, e133_16, e133_17, e133_20, e133_21, e133_22, e133_25, e133_28, e133_29, e133_30, e133_33, e133_34, e133_37, e133_40, e133_41, e133_44, e133_47, e133_48, e133_51, e133_52, e133_53, e133_56, e133_57, e133_60, e133_63, e133_64, e133_65, e133_66, e133_69, e133_70, e133_71, e133_74, e133_76, e133_77, e133_80, e133_81, e133_82, e133_85, e133_87, e133_88, e133_91, e133_92, e133_93, e133_96, e133_98, e133_99, e133_102, e133_103, e133_104, e133_107, e133_109, e133_110, e133_113, e133_115, e133_117, e133_118, e133_120, e133_122, e133_123, e133_124, e133_126, e133_128, e133_129, e133_130, e133_132, e133_134, e133_135, e133_136, e133_139, e133_141, e133_143, e133_144, e133_146, e133_148, e133_149, e133_150, e133_152, e133_154, e133_155, e133_156, e133_158, e133_160, e133_161, e133_162, kl_I, kl_R, kl_N, kl_L, oSm, oNn, Option.bind_some, wN, if_pos, if_neg, nS, tN, t0, w0, w1, w2, w3, w4, w5, wm1, upA_ne, upA_same, if_true, if_false, Bool.false_eq_true, q133, ez, ew]
      exact End.of rfl ⟨rfl, h⟩
    · rw [if_neg h2] at ew
      by_cases h3 : v < 0
      · rw [if_pos (by omega)]
        simp (disch := first | assumption | omega | (simp (disch := omega) only [wN, w0, w1]; omega)) only [e133_0, e133_1, e133_2, e133_5, e133_8, e133_9, e133_10, e133_13, e133_16, e133_17, e133_20, e133_21, e133_22, e133_25, e133_28, e133_29, e133_30, e133_33, e133_34, e133_37, e133_40, e133_41, e133_44, e133_47, e133_48, e133_51, e133_52, e133_53, e133_56, e133_57, e133_60, e133_63, e133_64, e133_65, e133_66, e133_69, e133_70, e133_71, e133_74, e133_76, e133_77, e133_80, e133_81, e133_82, e133_85, e133_87, e133_88, e133_91, e133_92, e133_93, e133_96, e133_98, e133_99, e133_102, e133_103, e133_104, e133_107, e133_109, e133_110, e133_113, e133_115, e133_117, e133_118, e133_120, e133_122, e133_123, e133_124, e133_126, e133_128, e133_129, e133_130, e133_132, e133_134, e133_135, e133_136, e133_139, e133_141, e133_143, e133_144, e133_146, e133_148, e133_149, e133_150, e133_152, e133_154, e133_155, e133_156, e133_158, e133_160, e133_161, e133_162, kl_I, kl_R, kl_N, kl_L, oSm, oNn, Option.bind_some, wN, if_pos, if_neg, nS, tN, t0, w0, w1, w2, w3, w4, w5, wm1, upA_ne, upA_same, if_true, if_false, Bool.false_eq_true, q133, ez, ew, wv]
        exact End.of rfl ⟨rfl, h⟩
      · by_cases h4 : 2 < v
        · rw [if_pos (by omega)]
          simp (disch := first | assumption | omega | (simp (disch := omega) only [wN, w0, w1]; omega)) only [e133_0, e133_1, e133_2, e133_5, e133_8, e133_9, e133_10, e133_13, e133_16, e133_17, e133_20, e133_21, e133_22, e133_25, e133_28, e133_29, e133_30, e133_33, e133_34, e133_37, e133_40, e133_41, e133_44, e133_47, e133_48, e133_51, e133_52, e133_53, e133_56, e133_57, e133_60, e133_63, e133_64, e133_65, e133_66, e133_69, e133_70, e133_71, e133_74, e133_76, e133_77, e133_80, e133_81, e133_82, e133_85, e133_87, e133_88, e133_91, e133_92, e133_93, e133_96, e133_98, e133_99, e133_102, e133_103, e133_104, e133_107, e133_109, e133_110, e133_113, e133_115, e133_117, e133_118, e133_120, e133_122, e133_123, e133_124, e133_126, e133_128, e133_129, e133_130, e133_132, e133_134, e133_135, e133_136, e133_139, e133_141, e133_143, e133_144, e133_146, e133_148, e133_149, e133_150, e133_152, e133_154, e133_155, e133_156, e133_158, e133_160, e133_161, e133_162, kl_I, kl_R, kl_N, kl_L, oSm, oNn, Option.bind_some, wN, if_pos, if_neg, nS, tN, t0, w0, w1, w2, w3, w4, w5, wm1, upA_ne, upA_same, if_true, if_false, Bool.false_eq_true, q133, ez, ew, wv]
          exact End.of rfl ⟨rfl, h⟩
        · rw [if_neg (by omega)]
          obtain ⟨zz, rfl⟩ : ∃ k : Nat, z = (k : Int) := ⟨z.toNat, by omega⟩
          obtain ⟨t, rfl⟩ : ∃ k : Nat, w = (k : Int) := ⟨w.toNat, by omega⟩
          obtain ⟨r, σ1, a1, rfl, a3, a4⟩ := C13 (d := d) (s := zz) hcol sg hSG c30 (by omega) hv n4' c30 (by omega) (by omega)
          have hI := h.B a4 (by omega) (by omega)
          simp only [Int.toNat_natCast]
          by_cases h5 : v = 2
          · rw [if_pos h5]
            have e2 := a3.2.2
            have hlt := amV_le c zz
            have wpw : wi ((amV c zz).2 : Int) = ((amV c zz).2 : Int) := wN (by omega)
            simp (disch := first | assumption | omega | (simp (disch := omega) only [wN, w0, w1]; omega)) only [e133_0, e133_1, e133_2, e133_5, e133_8, e133_9, e133_10, e133_13, e133_16, e133_17, e133_20, e133_21, e133_22, e133_25, e133_28, e133_29, e133_30, e133_33, e133_34, e133_37, e133_40, e133_41, e133_44, e133_47, e133_48, e133_51, e133_52, e133_53, e133_56, e133_57, e133_60, e133_63, e133_64, e133_65, e133_66, e133_69, e133_70, e133_71, e133_74, e133_76, e133_77, e133_80, e133_81, e133_82, e133_85, e133_87, e133_88, e133_91, e133_92, e133_93, e133_96, e133_98, e133_99, e133_102, e133_103, e133_104, e133_107, e133_109, e133_110, e133_113, e133_115, e133_117, e133_118, e133_120, e133_122, e133_123, e133_124, e133_126, e133_128, e133_129, e133_130, e133_132, e133_134, e133_135, e133_136, e133_139, e133_141, e133_143, e133_144, e133_146, e133_148, e133_149, e133_150, e133_152, e133_154, e133_155, e133_156, e133_158, e133_160, e133_161, e133_162, kl_I, kl_R, kl_N, kl_L, oSm, oNn, Option.bind_some, wN, if_pos, if_neg, nS, tN, t0, w0, w1, w2, w3, w4, w5, wm1, upA_ne, upA_same, if_true, if_false, Bool.false_eq_true, q133, ez, ew, wv, s0, s9, u1, hS0, a1, e2, wpw]
            exact End.of rfl ⟨rfl, hI⟩
          · rw [if_neg h5]
            have p0 := C14z (d := d + 2) (z := 0) (i := 0) hcol a3.1 a3.2.1 (by omega) (show t < 2 ^ n by omega) (by omega) rfl
            have p1 := C14z (d := d + 2) (z := 1) (i := 1) hcol a3.1 a3.2.1 (by omega) (show t < 2 ^ n by omega) (by omega) rfl
            have p2 := C14z (d := d + 2) (z := 2) (i := 2) hcol a3.1 a3.2.1 (by omega) (show t < 2 ^ n by omega) (by omega) rfl
            have p3 := C14z (d := d + 2) (z := 3) (i := 3) hcol a3.1 a3.2.1 (by omega) (show t < 2 ^ n by omega) (by omega) rfl
            rcases (show v = 0 ∨ v = 1 by omega) with rfl | rfl
            · simp (disch := first | assumption | omega | (simp (disch := omega) only [wN, w0, w1]; omega)) only [e133_0, e133_1, e133_2, e133_5, e133_8, e133_9, e133_10, e133_13, e133_16, e133_17, e133_20, e133_21, e133_22, e133_25, e133_28, e133_29, e133_30, e133_33, e133_34, e133_37, e133_40, e133_41, e133_44, e133_47, e133_48, e133_51, e133_52, e133_53, e133_56, e133_57, e133_60, e133_63, e133_64, e133_65, e133_66, e133_69, e133_70, e133_71, e133_74, e133_76, e133_77, e133_80, e133_81, e133_82, e133_85, e133_87, e133_88, e133_91, e133_92, e133_93, e133_96, e133_98, e133_99, e133_102, e133_103, e133_104, e133_107, e133_109, e133_110, e133_113, e133_115, e133_117, e133_118, e133_120, e133_122, e133_123, e133_124, e133_126, e133_128, e133_129, e133_130, e133_132, e133_134, e133_135, e133_136, e133_139, e133_141, e133_143, e133_144, e133_146, e133_148, e133_149, e133_150, e133_152, e133_154, e133_155, e133_156, e133_158, e133_160, e133_161, e133_162, kl_I, kl_R, kl_N, kl_L, oSm, oNn, Option.bind_some, wN, if_pos, if_neg, nS, tN, t0, w0, w1, w2, w3, w4, w5, wm1, upA_ne, upA_same, if_true, if_false, Bool.false_eq_true, q133, ez, ew, wv, s0, s9, u1, hS0, a1, p0, p1, p2, p3]
              exact End.of rfl ⟨rfl, hI⟩
            · simp (disch := first | assumption | omega | (simp (disch := omega) only [wN, w0, w1]; omega)) only [e133_0, e133_1, e133_2, e133_5, e133_8, e133_9, e133_10, e133_13, e133_16, e133_17, e133_20, e133_21, e133_22, e133_25, e133_28, e133_29, e133_30, e133_33, e133_34, e133_37, e133_40, e133_41, e133_44, e133_47, e133_48, e133_51, e133_52, e133_53, e133_56, e133_57, e133_60, e133_63, e133_64, e133_65, e133_66, e133_69, e133_70, e133_71, e133_74, e133_76, e133_77, e133_80, e133_81, e133_82, e133_85, e133_87, e133_88, e133_91, e133_92, e133_93, e133_96, e133_98, e133_99, e133_102, e133_103, e133_104, e133_107, e133_109, e133_110, e133_113, e133_115, e133_117, e133_118, e133_120, e133_122, e133_123, e133_124, e133_126, e133_128, e133_129, e133_130, e133_132, e133_134, e133_135, e133_136, e133_139, e133_141, e133_143, e133_144, e133_146, e133_148, e133_149, e133_150, e133_152, e133_154, e133_155, e133_156, e133_158, e133_160, e133_161, e133_162, kl_I, kl_R, kl_N, kl_L, oSm, oNn, Option.bind_some, wN, if_pos, if_neg, nS, tN, t0, w0, w1, w2, w3, w4, w5, wm1, upA_ne, upA_same, if_true, if_false, Bool.false_eq_true, q133, ez, ew, wv, s0, s9, u1, hS0, a1, p0, p1, p2, p3]
              exact End.of rfl ⟨rfl, hI⟩
theorem X134 (hX : XS sh) (h : InvX sh σ a) (hz : i32 z) : End (run sh (d + 4) 134 [mR 0, mI z] σ) (fun r σ' => r = some (mI (aSpr a z)) ∧ InvX sh σ' a) := by
  have ez := X131 (d := d + 2) hX h hz
  obtain ⟨ho, s0, s1, s3, s4, s5, s6, s7, s8, s9, s10, s11, s12, s13, hnow, hkep, htap, k43, l43, hspg, hspb, htri, hrow, hcol, hkc, k69, l69, hrou, hfin, hsh, hR⟩ := id hX
  obtain ⟨so, u1, u2, u3, sg, sb, sl⟩ := id hnow
  have sgo := sg.1
  have sbo := sb.1
  have slo := sl.1
  have tpo := htap.1
  have spgo := hspg.1
  have spbo := hspb.1
  have trio := htri.1
  have rowo := hrow.1
  have colo := hcol.1
  have kco := hkc.1
  have rouo := hrou.1
  have fino := hfin.1
  have kpo := hkep.1
  obtain ⟨⟨n, c, m, E, P, x⟩, K, B, s, T⟩ := a
  obtain ⟨⟨hS, hoS⟩, hik, hKp, hTp, h140, hTm, hT1⟩ := id h
  replace hS : HS σ 1 n c m E P (x : Int) := hS
  replace hoS : okZ n c m E P x := hoS
  replace hTp : HP σ 41 B s := hTp
  replace h140 : s ≤ 140 := h140
  replace hTm : HT sh σ 43 T := hTm
  replace hik : σ.1 0 2 = bi K.isSome := hik
  obtain ⟨hS0, hSG, hSB, hSF, hSL, hSx⟩ := id hS
  obtain ⟨n1, n4', c30, hv, m2, m5, E10, hvE, hPk, x16⟩ := id hoS
  have h16 : 2 ^ n ≤ 2 ^ 4 := Nat.pow_le_pow_right (by omega) n4'
  replace ez : run sh (d + 3) 131 [mR 0, mI z] σ = some (some (mI (if z < 0 ∨ ((2 ^ n : Nat) : Int) ≤ z then 0 else 1)), σ) := ez
  show End _ (fun r σ' => r = some (mI (aSpr ((n, c, m, E, P, x), K, B, s, T) z)) ∧ _)
  unfold aSpr
  simp only
  by_cases h1 : z < 0 ∨ ((2 ^ n : Nat) : Int) ≤ z
  · rw [if_pos h1] at ez
    rw [if_pos h1]
    simp (disch := first | assumption | omega | (simp (disch := omega) only [wN, w0, w1]; omega)) only [e134_0, e134_1, e134_2, e134_5, e134_8, e134_9, e134_10, e134_11, e134_14, e134_15, e134_18, e134_21, e134_22, e134_25, e134_28, e134_29, e134_32, e134_33, e134_36, e134_39, kl_I, kl_R, kl_N, kl_L, oSm, oNn, Option.bind_some, wN, if_pos, if_neg, nS, tN, t0, w0, w1, w2, w3, w4, w5, wm1, upA_ne, upA_same, if_true, if_false, Bool.false_eq_true, q134, ez]
    exact End.of rfl ⟨rfl, h⟩
  · rw [if_neg h1] at ez
    rw [if_neg h1]
    obtain ⟨zz, rfl⟩ : ∃ k : Nat, z = (k : Int) := ⟨z.toNat, by omega⟩
    obtain ⟨r, σ1, a1, rfl, a3, a4⟩ := C13 (d := d) (s := zz) hcol sg hSG c30 (by omega) hv n4' c30 (by omega) (by omega)
    have hI := h.B a4 (by omega) (by omega)
    have e22 := C22 (d := d + 1) hcol a3.1 a3.2.1 (by omega) (amV_bd c30)
    simp only [Int.toNat_natCast]
    simp (disch := first | assumption | omega | (simp (disch := omega) only [wN, w0, w1]; omega)) only [e134_0, e134_1, e134_2, e134_5, e134_8, e134_9, e134_10, e134_11, e134_14, e134_15, e134_18, e134_21, e134_22, e134_25, e134_28, e134_29, e134_32, e134_33, e134_36, e134_39, kl_I, kl_R, kl_N, kl_L, oSm, oNn, Option.bind_some, wN, if_pos, if_neg, nS, tN, t0, w0, w1, w2, w3, w4, w5, wm1, upA_ne, upA_same, if_true, if_false, Bool.false_eq_true, q134, ez, s0, s9, u1, hS0, a1, e22]
    exact End.of rfl ⟨rfl, hI⟩
end XE
