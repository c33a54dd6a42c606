/-! ===== the reference: how far ===== -/
theorem n6 (j : Nat) : (6 : Int) * (j : Int) = ((6 * j : Nat) : Int) := (Int.natCast_mul 6 j).symm
/-- the rows of distances hold F, of places below m -/
def HFm (σ : Mem) (m : Nat) (F : Nat → Nat → Nat) : Prop := ∀ p, p < m → ∀ q, q < m → σ.1 145 (6 * p + q) = (F p q : Int) ∧ F p q ≤ 99
theorem HFm.set {σ : Mem} {m i j : Nat} {F G : Nat → Nat → Nat} {v : Int} {τ : Nat → Nat → Int} (h : HFm σ m F) (hm : m ≤ 5) (hi : i < m) (hj : j < m) (hv : v = (G i j : Int)) (hG : G i j ≤ 99) (hO : ∀ p q, p < m → q < m → ¬(p = i ∧ q = j) → G p q = F p q) : HFm (upA σ.1 145 (up1 (σ.1 145) (6 * i + j) v), τ) m G := fun p hp q hq => by
  simp (disch := omega) only [upA_same]
  by_cases e : p = i ∧ q = j
  · obtain ⟨e1, e2⟩ := e
    subst e1 e2
    rw [up1_same]
    exact ⟨hv, hG⟩
  · rw [up1_ne (by omega), hO p q hp hq e]
    exact h p hp q hq
def f0k (E : List Ed) (k : Nat) : Nat → Nat → Nat := fun p q => if p = q then 0 else if njB E p q k 0 = true then 99 else 1
theorem f0k_s {E : List Ed} {m k p q : Nat} (hv : okE m E) (hk : k < E.length) : f0k E (k + 1) p q = if (p = (eA E k).1 ∧ q = (eA E k).2) ∨ (p = (eA E k).2 ∧ q = (eA E k).1) then 1 else f0k E k p q := by
  have h := hv.at hk
  have e1 : njB E p q (k + 1) 0 = (njB E p q k 0 && !jn1 E p q k) := fa_1 k
  unfold f0k
  rw [e1]
  unfold jn1
  by_cases e : p = q
  · rw [if_pos e, if_pos e, if_neg (by omega)]
  · rw [if_neg e, if_neg e]
    by_cases g : (p = (eA E k).1 ∧ q = (eA E k).2) ∨ (p = (eA E k).2 ∧ q = (eA E k).1)
    · rw [if_pos g, if_neg]
      rw [decide_eq_true (by omega)]
      simp
    · rw [if_neg g, decide_eq_false (by omega)]
      simp
/-- places from m on are out of reach -/
theorem fw_out {E : List Ed} {m : Nat} (hv : okE m E) : ∀ k p r, (p < m ∧ m ≤ r ∨ r < m ∧ m ≤ p) → 99 ≤ fwK 5 k (f0 E) p r := by
  intro k
  induction k with
  | zero =>
    intro p r h
    show 99 ≤ f0 E p r
    unfold f0
    rw [if_neg (by omega), if_pos]
    · exact Nat.le_refl _
    · exact (fa_iff _ _).mpr fun j _ hj => by
        have := hv.at (show j < E.length by omega)
        unfold jn1
        rw [decide_eq_false (by omega)]
        rfl
  | succ k ih =>
    intro p r h
    rw [fwK_s (f0_d E)]
    have h1 := ih p r h
    split
    · by_cases g : k < m
      · rcases h with h | h
        · have := ih k r (Or.inl ⟨g, h.2⟩)
          omega
        · have := ih p k (Or.inr ⟨g, h.2⟩)
          omega
      · rcases h with h | h
        · have := ih p k (Or.inl ⟨h.1, by omega⟩)
          omega
        · have := ih k r (Or.inr ⟨h.1, by omega⟩)
          omega
    · exact h1
theorem fw_m5 {E : List Ed} {m : Nat} (hm : m ≤ 5) : ∀ k, k ≤ m → ∀ p q, p < m → q < m → fwK m k (f0 E) p q = fwK 5 k (f0 E) p q := by
  intro k
  induction k with
  | zero => intro _ p q _ _; rfl
  | succ k ih =>
    intro hk p q hp hq
    rw [fwK_s (f0_d E), fwK_s (f0_d E), if_pos ⟨hp, hq⟩, if_pos ⟨by omega, by omega⟩, ih (by omega) p q hp hq, ih (by omega) p k hp (by omega), ih (by omega) k q (by omega) hq]
theorem fw_far {E : List Ed} {m : Nat} (hv : okE m E) (hm : m ≤ 5) {p q : Nat} (hp : p < m) (hq : q < m) : fwK m m (f0 E) p q = farE E p q := by
  have key : ∀ j, m + j ≤ 5 → fwK 5 (m + j) (f0 E) p q = fwK 5 m (f0 E) p q := by
    intro j
    induction j with
    | zero => intro _; rfl
    | succ j ih =>
      intro hj
      rw [← Nat.add_assoc, fwK_s (f0_d E), if_pos ⟨by omega, by omega⟩, ih (by omega)]
      have a := fw_out hv (m + j) p (m + j) (Or.inl ⟨hp, by omega⟩)
      have b := fwK_le (N := 5) (f0_d E) m p q
      have c := f0_le E p q
      omega
  rw [fw_m5 hm m (Nat.le_refl _) p q hp hq, ← key (5 - m) (by omega), show m + (5 - m) = 5 by omega]
  rfl
theorem f0_f0k (E : List Ed) : f0k E E.length = f0 E := rfl
section NJ
variable {sh : Shp} {d m : Nat} {σ : Mem} {E : List Ed}
theorem HEm.W {σ' : Mem} {x y u v l h : Nat} (hE : HEm σ l h E) (hf : frW x y u v σ σ') (h1 : l ≠ 124 ∧ (l < x ∨ y < l)) (h2 : h ≠ 124 ∧ (h < x ∨ y < h)) : HEm σ' l h E := fun j hj => by
  rw [(hf.1 l h1.2 h1.1).1, (hf.1 h h2.2 h2.1).1]; exact hE j hj
theorem M232 (hM : MS sh) (hMp : σ.1 124 9 = (m : Int)) (hEl : σ.1 124 10 = (E.length : Int)) (hE : HEm σ 127 128 E) (hv : okE m E) (hm : m ≤ 5) (h10 : E.length ≤ 10) : End (run sh (d + 1) 232 [mR 124] σ) (fun r σ' => r = none ∧ HFm σ' m (farE E) ∧ frW 145 145 1 0 σ σ') := by
  have mo := hM.1
  have m160 := hM.2.1
  obtain ⟨ra2, rk2, rl2⟩ := ms2 hM
  obtain ⟨ra3, rk3, rl3⟩ := ms3 hM
  obtain ⟨ra39, rk39, rl39⟩ := ms39 hM
  let G := fun (r : Option MV) (σ' : Mem) => r = none ∧ HFm σ' m (farE E) ∧ frW 145 145 1 0 σ σ'
  -- the third part
  have C : ∀ σ1 v2 v3, HFm σ1 m (f0 E) → frW 145 145 1 0 σ σ1 → End (ev sh (d + 1) 232 116 [some (mR (124)), some (mI ((0 : Nat) : Int)), v2, v3] [] σ1) G := by
    intro σ1 v2 v3 hF hf
    have L := for_P (m) (fun i => ∀ (σ2 : Mem) (v2 v3 : Option MV), (HFm σ2 m (fwK m i (f0 E)) ∧ frW 145 145 1 0 σ σ2) → End (ev sh (d + 1) 232 116 [some (mR (124)), some (mI ((i : Nat) : Int)), v2, v3] [] σ2) (G)) (by
      intro σ2 v2 v3 hp
      replace hp : HFm σ2 m (fwK m (m) (f0 E)) ∧ frW 145 145 1 0 σ σ2 := hp
      show End (ev sh (d + 1) 232 116 [some (mR (124)), some (mI (((m) : Nat) : Int)), v2, v3] [] σ2) (G)
      have hm1 : σ2.1 124 9 = (m : Int) := by rw [hp.2.2 9 (by omega)]; exact hMp
      rw [e232_116]
      simp (disch := first | assumption | omega | (simp (disch := omega) only [wN, w0, w1]; omega)) only [e232_0, e232_1, e232_2, e232_3, e232_4, e232_7, e232_10, e232_11, e232_12, e232_13, e232_14, e232_17, e232_20, e232_21, e232_24, e232_26, e232_27, e232_28, e232_29, e232_30, e232_31, e232_32, e232_35, e232_36, e232_39, e232_41, e232_42, e232_45, e232_48, e232_51, e232_54, e232_55, e232_56, e232_57, e232_58, e232_61, e232_64, e232_65, e232_68, e232_70, e232_71, e232_74, e232_75, e232_76, e232_77, e232_78, e232_81, e232_82, e232_83, e232_84, e232_85, e232_86, e232_87, e232_90, e232_92, e232_93, e232_96, e232_97, e232_98, e232_99, e232_100, e232_103, e232_104, e232_105, e232_106, e232_107, e232_108, e232_111, e232_114, e232_115, e232_117, e232_118, e232_121, e232_124, e232_125, e232_127, e232_128, e232_131, e232_134, e232_135, e232_137, e232_138, e232_141, e232_144, e232_145, e232_148, e232_150, e232_151, e232_152, e232_153, e232_154, e232_155, e232_158, e232_160, e232_161, e232_162, e232_163, e232_164, e232_165, e232_166, e232_169, e232_171, e232_172, e232_173, e232_174, e232_175, e232_176, e232_177, e232_180, e232_182, e232_183, e232_184, e232_185, e232_186, e232_187, e232_188, e232_191, e232_192, e232_195, e232_198, e232_201, e232_204, e232_207, e232_210, kl_I, kl_R, kl_N, kl_L, oSm, oNn, Option.bind_some, wN, if_pos, if_neg, nS, tN, t0, w0, w1, w2, w3, w4, w5, wm1, upA_ne, upA_same, if_true, if_false, Bool.false_eq_true, hm1]
      refine End.of rfl ⟨rfl, fun p h1 q h2 => ?_, hp.2⟩
      rw [← fw_far hv hm h1 h2]
      exact hp.1 p h1 q h2) (fun i hi ih => by
      replace ih : ∀ (σ2 : Mem) (v2 v3 : Option MV), (HFm σ2 m (fwK m (i + 1) (f0 E)) ∧ frW 145 145 1 0 σ σ2) → End (ev sh (d + 1) 232 116 [some (mR (124)), some (mI (((i + 1) : Nat) : Int)), v2, v3] [] σ2) (G) := ih
      intro σ2 v2 v3 hp
      replace hp : HFm σ2 m (fwK m i (f0 E)) ∧ frW 145 145 1 0 σ σ2 := hp
      show End (ev sh (d + 1) 232 116 [some (mR (124)), some (mI ((i : Nat) : Int)), v2, v3] [] σ2) (G)
      have hm1 : σ2.1 124 9 = (m : Int) := by rw [hp.2.2 9 (by omega)]; exact hMp
      have hi0 := hi
      have L2 := for_P (m) (fun j => ∀ (σ3 : Mem) (v3 : Option MV), (HFm σ3 m (fwI m i j (fwK m i (f0 E))) ∧ frW 145 145 1 0 σ σ3) → End (ev sh (d + 1) 232 126 [some (mR (124)), some (mI ((i : Nat) : Int)), some (mI ((j : Nat) : Int)), v3] [] σ3) (G)) (by
        intro σ3 v3 hp
        replace hp : HFm σ3 m (fwI m i (m) (fwK m i (f0 E))) ∧ frW 145 145 1 0 σ σ3 := hp
        show End (ev sh (d + 1) 232 126 [some (mR (124)), some (mI ((i : Nat) : Int)), some (mI (((m) : Nat) : Int)), v3] [] σ3) (G)
        have hm1 : σ3.1 124 9 = (m : Int) := by rw [hp.2.2 9 (by omega)]; exact hMp
        rw [e232_126]
        simp (disch := first | assumption | omega | (simp (disch := omega) only [wN, w0, w1]; omega)) only [e232_0, e232_1, e232_2, e232_3, e232_4, e232_7, e232_10, e232_11, e232_12, e232_13, e232_14, e232_17, e232_20, e232_21, e232_24, e232_26, e232_27, e232_28, e232_29, e232_30, e232_31, e232_32, e232_35, e232_36, e232_39, e232_41, e232_42, e232_45, e232_48, e232_51, e232_54, e232_55, e232_56, e232_57, e232_58, e232_61, e232_64, e232_65, e232_68, e232_70, e232_71, e232_74, e232_75, e232_76, e232_77, e232_78, e232_81, e232_82, e232_83, e232_84, e232_85, e232_86, e232_87, e232_90, e232_92, e232_93, e232_96, e232_97, e232_98, e232_99, e232_100, e232_103, e232_104, e232_105, e232_106, e232_107, e232_108, e232_111, e232_114, e232_115, e232_117, e232_118, e232_121, e232_124, e232_125, e232_127, e232_128, e232_131, e232_134, e232_135, e232_137, e232_138, e232_141, e232_144, e232_145, e232_148, e232_150, e232_151, e232_152, e232_153, e232_154, e232_155, e232_158, e232_160, e232_161, e232_162, e232_163, e232_164, e232_165, e232_166, e232_169, e232_171, e232_172, e232_173, e232_174, e232_175, e232_176, e232_177, e232_180, e232_182, e232_183, e232_184, e232_185, e232_186, e232_187, e232_188, e232_191, e232_192, e232_195, e232_198, e232_201, e232_204, e232_207, e232_210, kl_I, kl_R, kl_N, kl_L, oSm, oNn, Option.bind_some, wN, if_pos, if_neg, nS, tN, t0, w0, w1, w2, w3, w4, w5, wm1, upA_ne, upA_same, if_true, if_false, Bool.false_eq_true, hm1]
        exact ih _ _ _ hp) (fun j hi ih => by
        replace ih : ∀ (σ3 : Mem) (v3 : Option MV), (HFm σ3 m (fwI m i (j + 1) (fwK m i (f0 E))) ∧ frW 145 145 1 0 σ σ3) → End (ev sh (d + 1) 232 126 [some (mR (124)), some (mI ((i : Nat) : Int)), some (mI (((j + 1) : Nat) : Int)), v3] [] σ3) (G) := ih
        intro σ3 v3 hp
        replace hp : HFm σ3 m (fwI m i j (fwK m i (f0 E))) ∧ frW 145 145 1 0 σ σ3 := hp
        show End (ev sh (d + 1) 232 126 [some (mR (124)), some (mI ((i : Nat) : Int)), some (mI ((j : Nat) : Int)), v3] [] σ3) (G)
        have hm1 : σ3.1 124 9 = (m : Int) := by rw [hp.2.2 9 (by omega)]; exact hMp
        have hj0 := hi
        have L3 := for_P (m) (fun k => ∀ (σ4 : Mem), (HFm σ4 m (fwJ i j k (fwI m i j (fwK m i (f0 E)))) ∧ frW 145 145 1 0 σ σ4) → End (ev sh (d + 1) 232 136 [some (mR (124)), some (mI ((i : Nat) : Int)), some (mI ((j : Nat) : Int)), some (mI ((k : Nat) : Int))] [] σ4) (G)) (by
          intro σ4  hp
          replace hp : HFm σ4 m (fwJ i j (m) (fwI m i j (fwK m i (f0 E)))) ∧ frW 145 145 1 0 σ σ4 := hp
          show End (ev sh (d + 1) 232 136 [some (mR (124)), some (mI ((i : Nat) : Int)), some (mI ((j : Nat) : Int)), some (mI (((m) : Nat) : Int))] [] σ4) (G)
          have hm1 : σ4.1 124 9 = (m : Int) := by rw [hp.2.2 9 (by omega)]; exact hMp
          rw [e232_136]
          simp (disch := first | assumption | omega | (simp (disch := omega) only [wN, w0, w1]; omega)) only [e232_0, e232_1, e232_2, e232_3, e232_4, e232_7, e232_10, e232_11, e232_12, e232_13, e232_14, e232_17, e232_20, e232_21, e232_24, e232_26, e232_27, e232_28, e232_29, e232_30, e232_31, e232_32, e232_35, e232_36, e232_39, e232_41, e232_42, e232_45, e232_48, e232_51, e232_54, e232_55, e232_56, e232_57, e232_58, e232_61, e232_64, e232_65, e232_68, e232_70, e232_71, e232_74, e232_75, e232_76, e232_77, e232_78, e232_81, e232_82, e232_83, e232_84, e232_85, e232_86, e232_87, e232_90, e232_92, e232_93, e232_96, e232_97, e232_98, e232_99, e232_100, e232_103, e232_104, e232_105, e232_106, e232_107, e232_108, e232_111, e232_114, e232_115, e232_117, e232_118, e232_121, e232_124, e232_125, e232_127, e232_128, e232_131, e232_134, e232_135, e232_137, e232_138, e232_141, e232_144, e232_145, e232_148, e232_150, e232_151, e232_152, e232_153, e232_154, e232_155, e232_158, e232_160, e232_161, e232_162, e232_163, e232_164, e232_165, e232_166, e232_169, e232_171, e232_172, e232_173, e232_174, e232_175, e232_176, e232_177, e232_180, e232_182, e232_183, e232_184, e232_185, e232_186, e232_187, e232_188, e232_191, e232_192, e232_195, e232_198, e232_201, e232_204, e232_207, e232_210, kl_I, kl_R, kl_N, kl_L, oSm, oNn, Option.bind_some, wN, if_pos, if_neg, nS, tN, t0, w0, w1, w2, w3, w4, w5, wm1, upA_ne, upA_same, if_true, if_false, Bool.false_eq_true, hm1]
          exact ih _ _ hp) (fun k hi ih => by
          replace ih : ∀ (σ4 : Mem), (HFm σ4 m (fwJ i j (k + 1) (fwI m i j (fwK m i (f0 E)))) ∧ frW 145 145 1 0 σ σ4) → End (ev sh (d + 1) 232 136 [some (mR (124)), some (mI ((i : Nat) : Int)), some (mI ((j : Nat) : Int)), some (mI (((k + 1) : Nat) : Int))] [] σ4) (G) := ih
          intro σ4  hp
          replace hp : HFm σ4 m (fwJ i j k (fwI m i j (fwK m i (f0 E)))) ∧ frW 145 145 1 0 σ σ4 := hp
          show End (ev sh (d + 1) 232 136 [some (mR (124)), some (mI ((i : Nat) : Int)), some (mI ((j : Nat) : Int)), some (mI ((k : Nat) : Int))] [] σ4) (G)
          have hm1 : σ4.1 124 9 = (m : Int) := by rw [hp.2.2 9 (by omega)]; exact hMp
          have g1 := hp.1 j hj0 k hi
          have g2 := hp.1 j hj0 i hi0
          have g3 := hp.1 i hi0 k hi
          have es : fwJ i j (k + 1) (fwI m i j (fwK m i (f0 E))) = fw1 i j k (fwJ i j k (fwI m i j (fwK m i (f0 E)))) := rfl
          rw [es] at ih
          have hp1 := hp.1
          generalize fwJ i j k (fwI m i j (fwK m i (f0 E))) = F at *
          have e5 := E165n (sh := sh) (d := d) (σ := σ4) (p := F j k) (q := F j i + F i k) (by omega) (by omega)
          rw [Int.natCast_add] at e5
          have g10 := g1.1
          have g20 := g2.1
          have g30 := g3.1
          rw [e232_136]
          simp (disch := first | assumption | omega | (simp (disch := omega) only [wN, w0, w1]; omega)) only [e232_0, e232_1, e232_2, e232_3, e232_4, e232_7, e232_10, e232_11, e232_12, e232_13, e232_14, e232_17, e232_20, e232_21, e232_24, e232_26, e232_27, e232_28, e232_29, e232_30, e232_31, e232_32, e232_35, e232_36, e232_39, e232_41, e232_42, e232_45, e232_48, e232_51, e232_54, e232_55, e232_56, e232_57, e232_58, e232_61, e232_64, e232_65, e232_68, e232_70, e232_71, e232_74, e232_75, e232_76, e232_77, e232_78, e232_81, e232_82, e232_83, e232_84, e232_85, e232_86, e232_87, e232_90, e232_92, e232_93, e232_96, e232_97, e232_98, e232_99, e232_100, e232_103, e232_104, e232_105, e232_106, e232_107, e232_108, e232_111, e232_114, e232_115, e232_117, e232_118, e232_121, e232_124, e232_125, e232_127, e232_128, e232_131, e232_134, e232_135, e232_137, e232_138, e232_141, e232_144, e232_145, e232_148, e232_150, e232_151, e232_152, e232_153, e232_154, e232_155, e232_158, e232_160, e232_161, e232_162, e232_163, e232_164, e232_165, e232_166, e232_169, e232_171, e232_172, e232_173, e232_174, e232_175, e232_176, e232_177, e232_180, e232_182, e232_183, e232_184, e232_185, e232_186, e232_187, e232_188, e232_191, e232_192, e232_195, e232_198, e232_201, e232_204, e232_207, e232_210, kl_I, kl_R, kl_N, kl_L, oSm, oNn, Option.bind_some, wN, if_pos, if_neg, nS, tN, t0, w0, w1, w2, w3, w4, w5, wm1, upA_ne, upA_same, if_true, if_false, Bool.false_eq_true, hm1, ra39, rl39, n6, ← Int.natCast_add, g10, g20, g30]
          rw [Int.natCast_add, e5]
          simp (disch := first | assumption | omega | (simp (disch := omega) only [wN, w0, w1]; omega)) only [e232_0, e232_1, e232_2, e232_3, e232_4, e232_7, e232_10, e232_11, e232_12, e232_13, e232_14, e232_17, e232_20, e232_21, e232_24, e232_26, e232_27, e232_28, e232_29, e232_30, e232_31, e232_32, e232_35, e232_36, e232_39, e232_41, e232_42, e232_45, e232_48, e232_51, e232_54, e232_55, e232_56, e232_57, e232_58, e232_61, e232_64, e232_65, e232_68, e232_70, e232_71, e232_74, e232_75, e232_76, e232_77, e232_78, e232_81, e232_82, e232_83, e232_84, e232_85, e232_86, e232_87, e232_90, e232_92, e232_93, e232_96, e232_97, e232_98, e232_99, e232_100, e232_103, e232_104, e232_105, e232_106, e232_107, e232_108, e232_111, e232_114, e232_115, e232_117, e232_118, e232_121, e232_124, e232_125, e232_127, e232_128, e232_131, e232_134, e232_135, e232_137, e232_138, e232_141, e232_144, e232_145, e232_148, e232_150, e232_151, e232_152, e232_153, e232_154, e232_155, e232_158, e232_160, e232_161, e232_162, e232_163, e232_164, e232_165, e232_166, e232_169, e232_171, e232_172, e232_173, e232_174, e232_175, e232_176, e232_177, e232_180, e232_182, e232_183, e232_184, e232_185, e232_186, e232_187, e232_188, e232_191, e232_192, e232_195, e232_198, e232_201, e232_204, e232_207, e232_210, kl_I, kl_R, kl_N, kl_L, oSm, oNn, Option.bind_some, wN, if_pos, if_neg, nS, tN, t0, w0, w1, w2, w3, w4, w5, wm1, upA_ne, upA_same, if_true, if_false, Bool.false_eq_true, hm1, ra39, rl39, n6, ← Int.natCast_add]
          refine ih _ ⟨hp1.set hm hj0 hi ?_ ?_ (fun p q _ _ h => ?_), hp.2.tr (frW.a (by omega) (by omega))⟩
          · rw [fw1, if_pos ⟨rfl, rfl⟩]
          · rw [fw1, if_pos ⟨rfl, rfl⟩]; omega
          · rw [fw1, if_neg h]) 0 (Nat.zero_le _)
        rw [e232_126]
        simp (disch := first | assumption | omega | (simp (disch := omega) only [wN, w0, w1]; omega)) only [e232_0, e232_1, e232_2, e232_3, e232_4, e232_7, e232_10, e232_11, e232_12, e232_13, e232_14, e232_17, e232_20, e232_21, e232_24, e232_26, e232_27, e232_28, e232_29, e232_30, e232_31, e232_32, e232_35, e232_36, e232_39, e232_41, e232_42, e232_45, e232_48, e232_51, e232_54, e232_55, e232_56, e232_57, e232_58, e232_61, e232_64, e232_65, e232_68, e232_70, e232_71, e232_74, e232_75, e232_76, e232_77, e232_78, e232_81, e232_82, e232_83, e232_84, e232_85, e232_86, e232_87, e232_90, e232_92, e232_93, e232_96, e232_97, e232_98, e232_99, e232_100, e232_103, e232_104, e232_105, e232_106, e232_107, e232_108, e232_111, e232_114, e232_115, e232_117, e232_118, e232_121, e232_124, e232_125, e232_127, e232_128, e232_131, e232_134, e232_135, e232_137, e232_138, e232_141, e232_144, e232_145, e232_148, e232_150, e232_151, e232_152, e232_153, e232_154, e232_155, e232_158, e232_160, e232_161, e232_162, e232_163, e232_164, e232_165, e232_166, e232_169, e232_171, e232_172, e232_173, e232_174, e232_175, e232_176, e232_177, e232_180, e232_182, e232_183, e232_184, e232_185, e232_186, e232_187, e232_188, e232_191, e232_192, e232_195, e232_198, e232_201, e232_204, e232_207, e232_210, kl_I, kl_R, kl_N, kl_L, oSm, oNn, Option.bind_some, wN, if_pos, if_neg, nS, tN, t0, w0, w1, w2, w3, w4, w5, wm1, upA_ne, upA_same, if_true, if_false, Bool.false_eq_true, hm1]
        exact L3 _ hp) 0 (Nat.zero_le _)
      rw [e232_116]
      simp (disch := first | assumption | omega | (simp (disch := omega) only [wN, w0, w1]; omega)) only [e232_0, e232_1, e232_2, e232_3, e232_4, e232_7, e232_10, e232_11, e232_12, e232_13, e232_14, e232_17, e232_20, e232_21, e232_24, e232_26, e232_27, e232_28, e232_29, e232_30, e232_31, e232_32, e232_35, e232_36, e232_39, e232_41, e232_42, e232_45, e232_48, e232_51, e232_54, e232_55, e232_56, e232_57, e232_58, e232_61, e232_64, e232_65, e232_68, e232_70, e232_71, e232_74, e232_75, e232_76, e232_77, e232_78, e232_81, e232_82, e232_83, e232_84, e232_85, e232_86, e232_87, e232_90, e232_92, e232_93, e232_96, e232_97, e232_98, e232_99, e232_100, e232_103, e232_104, e232_105, e232_106, e232_107, e232_108, e232_111, e232_114, e232_115, e232_117, e232_118, e232_121, e232_124, e232_125, e232_127, e232_128, e232_131, e232_134, e232_135, e232_137, e232_138, e232_141, e232_144, e232_145, e232_148, e232_150, e232_151, e232_152, e232_153, e232_154, e232_155, e232_158, e232_160, e232_161, e232_162, e232_163, e232_164, e232_165, e232_166, e232_169, e232_171, e232_172, e232_173, e232_174, e232_175, e232_176, e232_177, e232_180, e232_182, e232_183, e232_184, e232_185, e232_186, e232_187, e232_188, e232_191, e232_192, e232_195, e232_198, e232_201, e232_204, e232_207, e232_210, kl_I, kl_R, kl_N, kl_L, oSm, oNn, Option.bind_some, wN, if_pos, if_neg, nS, tN, t0, w0, w1, w2, w3, w4, w5, wm1, upA_ne, upA_same, if_true, if_false, Bool.false_eq_true, hm1]
      exact L2 _ _ hp) 0 (Nat.zero_le _)
    exact L _ _ _ ⟨hF, hf⟩
  -- the edges
  have Bb : ∀ σ1 v2 v3, HFm σ1 m (f0k E 0) → frW 145 145 1 0 σ σ1 → End (ev sh (d + 1) 232 56 [some (mR (124)), some (mI ((0 : Nat) : Int)), v2, v3] [] σ1) G := by
    intro σ1 v2 v3 hF hf
    have L := for_P (E.length) (fun i => ∀ (σ2 : Mem) (v2 v3 : Option MV), (HFm σ2 m (f0k E i) ∧ frW 145 145 1 0 σ σ2) → End (ev sh (d + 1) 232 56 [some (mR (124)), some (mI ((i : Nat) : Int)), v2, v3] [] σ2) (G)) (by
      intro σ2 v2 v3 hp
      replace hp : HFm σ2 m (f0k E (E.length)) ∧ frW 145 145 1 0 σ σ2 := hp
      show End (ev sh (d + 1) 232 56 [some (mR (124)), some (mI (((E.length) : Nat) : Int)), v2, v3] [] σ2) (G)
      have hm1 : σ2.1 124 10 = (E.length : Int) := by rw [hp.2.2 10 (by omega)]; exact hEl
      rw [e232_56]
      simp (disch := first | assumption | omega | (simp (disch := omega) only [wN, w0, w1]; omega)) only [e232_0, e232_1, e232_2, e232_3, e232_4, e232_7, e232_10, e232_11, e232_12, e232_13, e232_14, e232_17, e232_20, e232_21, e232_24, e232_26, e232_27, e232_28, e232_29, e232_30, e232_31, e232_32, e232_35, e232_36, e232_39, e232_41, e232_42, e232_45, e232_48, e232_51, e232_54, e232_55, e232_57, e232_58, e232_61, e232_64, e232_65, e232_68, e232_70, e232_71, e232_74, e232_75, e232_76, e232_77, e232_78, e232_81, e232_82, e232_83, e232_84, e232_85, e232_86, e232_87, e232_90, e232_92, e232_93, e232_96, e232_97, e232_98, e232_99, e232_100, e232_103, e232_104, e232_105, e232_106, e232_107, e232_108, e232_111, e232_114, e232_115, e232_117, e232_118, e232_121, e232_124, e232_125, e232_126, e232_127, e232_128, e232_131, e232_134, e232_135, e232_136, e232_137, e232_138, e232_141, e232_144, e232_145, e232_148, e232_150, e232_151, e232_152, e232_153, e232_154, e232_155, e232_158, e232_160, e232_161, e232_162, e232_163, e232_164, e232_165, e232_166, e232_169, e232_171, e232_172, e232_173, e232_174, e232_175, e232_176, e232_177, e232_180, e232_182, e232_183, e232_184, e232_185, e232_186, e232_187, e232_188, e232_191, e232_192, e232_195, e232_198, e232_201, e232_204, e232_207, e232_210, kl_I, kl_R, kl_N, kl_L, oSm, oNn, Option.bind_some, wN, if_pos, if_neg, nS, tN, t0, w0, w1, w2, w3, w4, w5, wm1, upA_ne, upA_same, if_true, if_false, Bool.false_eq_true, hm1]
      exact C _ _ _ hp.1 hp.2) (fun i hi ih => by
      replace ih : ∀ (σ2 : Mem) (v2 v3 : Option MV), (HFm σ2 m (f0k E (i + 1)) ∧ frW 145 145 1 0 σ σ2) → End (ev sh (d + 1) 232 56 [some (mR (124)), some (mI (((i + 1) : Nat) : Int)), v2, v3] [] σ2) (G) := ih
      intro σ2 v2 v3 hp
      replace hp : HFm σ2 m (f0k E i) ∧ frW 145 145 1 0 σ σ2 := hp
      show End (ev sh (d + 1) 232 56 [some (mR (124)), some (mI ((i : Nat) : Int)), v2, v3] [] σ2) (G)
      have hm1 : σ2.1 124 10 = (E.length : Int) := by rw [hp.2.2 10 (by omega)]; exact hEl
      obtain ⟨g1, g2⟩ := hE i hi
      have k1 : σ2.1 127 i = ((eA E i).1 : Int) := by rw [(hp.2.1 127 (by omega) (by omega)).1]; exact g1
      have k2 : σ2.1 128 i = ((eA E i).2 : Int) := by rw [(hp.2.1 128 (by omega) (by omega)).1]; exact g2
      have hv2 := hv.at hi
      rw [e232_56]
      simp (disch := first | assumption | omega | (simp (disch := omega) only [wN, w0, w1]; omega)) only [e232_0, e232_1, e232_2, e232_3, e232_4, e232_7, e232_10, e232_11, e232_12, e232_13, e232_14, e232_17, e232_20, e232_21, e232_24, e232_26, e232_27, e232_28, e232_29, e232_30, e232_31, e232_32, e232_35, e232_36, e232_39, e232_41, e232_42, e232_45, e232_48, e232_51, e232_54, e232_55, e232_57, e232_58, e232_61, e232_64, e232_65, e232_68, e232_70, e232_71, e232_74, e232_75, e232_76, e232_77, e232_78, e232_81, e232_82, e232_83, e232_84, e232_85, e232_86, e232_87, e232_90, e232_92, e232_93, e232_96, e232_97, e232_98, e232_99, e232_100, e232_103, e232_104, e232_105, e232_106, e232_107, e232_108, e232_111, e232_114, e232_115, e232_117, e232_118, e232_121, e232_124, e232_125, e232_126, e232_127, e232_128, e232_131, e232_134, e232_135, e232_136, e232_137, e232_138, e232_141, e232_144, e232_145, e232_148, e232_150, e232_151, e232_152, e232_153, e232_154, e232_155, e232_158, e232_160, e232_161, e232_162, e232_163, e232_164, e232_165, e232_166, e232_169, e232_171, e232_172, e232_173, e232_174, e232_175, e232_176, e232_177, e232_180, e232_182, e232_183, e232_184, e232_185, e232_186, e232_187, e232_188, e232_191, e232_192, e232_195, e232_198, e232_201, e232_204, e232_207, e232_210, kl_I, kl_R, kl_N, kl_L, oSm, oNn, Option.bind_some, wN, if_pos, if_neg, nS, tN, t0, w0, w1, w2, w3, w4, w5, wm1, upA_ne, upA_same, if_true, if_false, Bool.false_eq_true, hm1, ra2, rl2, ra3, rl3, ra39, rl39, n6, ← Int.natCast_add, k1, k2]
      refine ih _ _ _ ⟨?_, (hp.2.tr (frW.a (by omega) (by omega))).tr (frW.a (by omega) (by omega))⟩
      have s1 : HFm (upA σ2.1 145 (up1 (σ2.1 145) (6 * (eA E i).1 + (eA E i).2) 1), σ2.2) m (fun p q => if p = (eA E i).1 ∧ q = (eA E i).2 then 1 else f0k E i p q) := by
        refine hp.1.set hm (by omega) (by omega) ?_ ?_ (fun p q _ _ h => ?_)
        · simp
        · simp
        · show (if _ then _ else _) = _
          rw [if_neg h]
      refine s1.set hm (by omega) (by omega) ?_ ?_ (fun p q _ _ h => ?_)
      · rw [f0k_s hv hi, if_pos (Or.inr ⟨rfl, rfl⟩)]; rfl
      · rw [f0k_s hv hi, if_pos (Or.inr ⟨rfl, rfl⟩)]; omega
      · rw [f0k_s hv hi]
        show _ = (if _ then _ else _)
        by_cases g : p = (eA E i).1 ∧ q = (eA E i).2
        · rw [if_pos (Or.inl g), if_pos g]
        · rw [if_neg (by omega), if_neg g]) 0 (Nat.zero_le _)
    exact L _ _ _ ⟨hF, hf⟩
  have L := for_P (m) (fun i => ∀ (σ2 : Mem) (v2 v3 : Option MV), ((∀ p, p < i → ∀ q, q < m → σ2.1 145 (6 * p + q) = (f0k E 0 p q : Int)) ∧ frW 145 145 1 0 σ σ2) → End (ev sh (d + 1) 232 2 [some (mR (124)), some (mI ((i : Nat) : Int)), v2, v3] [] σ2) (G)) (by
    intro σ2 v2 v3 hp
    replace hp : (∀ p, p < (m) → ∀ q, q < m → σ2.1 145 (6 * p + q) = (f0k E 0 p q : Int)) ∧ frW 145 145 1 0 σ σ2 := hp
    show End (ev sh (d + 1) 232 2 [some (mR (124)), some (mI (((m) : Nat) : Int)), v2, v3] [] σ2) (G)
    have hm1 : σ2.1 124 9 = (m : Int) := by rw [hp.2.2 9 (by omega)]; exact hMp
    rw [e232_2]
    simp (disch := first | assumption | omega | (simp (disch := omega) only [wN, w0, w1]; omega)) only [e232_0, e232_1, e232_3, e232_4, e232_7, e232_10, e232_11, e232_13, e232_14, e232_17, e232_20, e232_21, e232_24, e232_26, e232_27, e232_28, e232_29, e232_30, e232_31, e232_32, e232_35, e232_36, e232_39, e232_41, e232_42, e232_45, e232_48, e232_51, e232_54, e232_55, e232_57, e232_58, e232_61, e232_64, e232_65, e232_68, e232_70, e232_71, e232_74, e232_75, e232_76, e232_77, e232_78, e232_81, e232_82, e232_83, e232_84, e232_85, e232_86, e232_87, e232_90, e232_92, e232_93, e232_96, e232_97, e232_98, e232_99, e232_100, e232_103, e232_104, e232_105, e232_106, e232_107, e232_108, e232_111, e232_114, e232_115, e232_116, e232_117, e232_118, e232_121, e232_124, e232_125, e232_126, e232_127, e232_128, e232_131, e232_134, e232_135, e232_136, e232_137, e232_138, e232_141, e232_144, e232_145, e232_148, e232_150, e232_151, e232_152, e232_153, e232_154, e232_155, e232_158, e232_160, e232_161, e232_162, e232_163, e232_164, e232_165, e232_166, e232_169, e232_171, e232_172, e232_173, e232_174, e232_175, e232_176, e232_177, e232_180, e232_182, e232_183, e232_184, e232_185, e232_186, e232_187, e232_188, e232_191, e232_192, e232_195, e232_198, e232_201, e232_204, e232_207, e232_210, kl_I, kl_R, kl_N, kl_L, oSm, oNn, Option.bind_some, wN, if_pos, if_neg, nS, tN, t0, w0, w1, w2, w3, w4, w5, wm1, upA_ne, upA_same, if_true, if_false, Bool.false_eq_true, hm1]
    refine Bb _ _ _ (fun p h1 q h2 => ⟨hp.1 p h1 q h2, ?_⟩) hp.2
    unfold f0k
    split
    · omega
    · split <;> omega) (fun i hi ih => by
    replace ih : ∀ (σ2 : Mem) (v2 v3 : Option MV), ((∀ p, p < (i + 1) → ∀ q, q < m → σ2.1 145 (6 * p + q) = (f0k E 0 p q : Int)) ∧ frW 145 145 1 0 σ σ2) → End (ev sh (d + 1) 232 2 [some (mR (124)), some (mI (((i + 1) : Nat) : Int)), v2, v3] [] σ2) (G) := ih
    intro σ2 v2 v3 hp
    replace hp : (∀ p, p < i → ∀ q, q < m → σ2.1 145 (6 * p + q) = (f0k E 0 p q : Int)) ∧ frW 145 145 1 0 σ σ2 := hp
    show End (ev sh (d + 1) 232 2 [some (mR (124)), some (mI ((i : Nat) : Int)), v2, v3] [] σ2) (G)
    have hm1 : σ2.1 124 9 = (m : Int) := by rw [hp.2.2 9 (by omega)]; exact hMp
    have hi0 := hi
    have L2 := for_P (m) (fun j => ∀ (σ3 : Mem) (v3 : Option MV), ((∀ p, p < i → ∀ q, q < m → σ3.1 145 (6 * p + q) = (f0k E 0 p q : Int)) ∧ (∀ q, q < j → σ3.1 145 (6 * i + q) = (f0k E 0 i q : Int)) ∧ frW 145 145 1 0 σ σ3) → End (ev sh (d + 1) 232 12 [some (mR (124)), some (mI ((i : Nat) : Int)), some (mI ((j : Nat) : Int)), v3] [] σ3) (G)) (by
      intro σ3 v3 hp
      replace hp : (∀ p, p < i → ∀ q, q < m → σ3.1 145 (6 * p + q) = (f0k E 0 p q : Int)) ∧ (∀ q, q < (m) → σ3.1 145 (6 * i + q) = (f0k E 0 i q : Int)) ∧ frW 145 145 1 0 σ σ3 := hp
      show End (ev sh (d + 1) 232 12 [some (mR (124)), some (mI ((i : Nat) : Int)), some (mI (((m) : Nat) : Int)), v3] [] σ3) (G)
      obtain ⟨e1, e2, e3⟩ := hp
      have hm1 : σ3.1 124 9 = (m : Int) := by rw [e3.2 9 (by omega)]; exact hMp
      rw [e232_12]
      simp (disch := first | assumption | omega | (simp (disch := omega) only [wN, w0, w1]; omega)) only [e232_0, e232_1, e232_3, e232_4, e232_7, e232_10, e232_11, e232_13, e232_14, e232_17, e232_20, e232_21, e232_24, e232_26, e232_27, e232_28, e232_29, e232_30, e232_31, e232_32, e232_35, e232_36, e232_39, e232_41, e232_42, e232_45, e232_48, e232_51, e232_54, e232_55, e232_57, e232_58, e232_61, e232_64, e232_65, e232_68, e232_70, e232_71, e232_74, e232_75, e232_76, e232_77, e232_78, e232_81, e232_82, e232_83, e232_84, e232_85, e232_86, e232_87, e232_90, e232_92, e232_93, e232_96, e232_97, e232_98, e232_99, e232_100, e232_103, e232_104, e232_105, e232_106, e232_107, e232_108, e232_111, e232_114, e232_115, e232_116, e232_117, e232_118, e232_121, e232_124, e232_125, e232_126, e232_127, e232_128, e232_131, e232_134, e232_135, e232_136, e232_137, e232_138, e232_141, e232_144, e232_145, e232_148, e232_150, e232_151, e232_152, e232_153, e232_154, e232_155, e232_158, e232_160, e232_161, e232_162, e232_163, e232_164, e232_165, e232_166, e232_169, e232_171, e232_172, e232_173, e232_174, e232_175, e232_176, e232_177, e232_180, e232_182, e232_183, e232_184, e232_185, e232_186, e232_187, e232_188, e232_191, e232_192, e232_195, e232_198, e232_201, e232_204, e232_207, e232_210, kl_I, kl_R, kl_N, kl_L, oSm, oNn, Option.bind_some, wN, if_pos, if_neg, nS, tN, t0, w0, w1, w2, w3, w4, w5, wm1, upA_ne, upA_same, if_true, if_false, Bool.false_eq_true, hm1]
      refine ih _ _ _ ⟨fun p h1 q h2 => ?_, e3⟩
      by_cases e : p = i
      · rw [e]; exact e2 q h2
      · exact e1 p (by omega) q h2) (fun j hi ih => by
      replace ih : ∀ (σ3 : Mem) (v3 : Option MV), ((∀ p, p < i → ∀ q, q < m → σ3.1 145 (6 * p + q) = (f0k E 0 p q : Int)) ∧ (∀ q, q < (j + 1) → σ3.1 145 (6 * i + q) = (f0k E 0 i q : Int)) ∧ frW 145 145 1 0 σ σ3) → End (ev sh (d + 1) 232 12 [some (mR (124)), some (mI ((i : Nat) : Int)), some (mI (((j + 1) : Nat) : Int)), v3] [] σ3) (G) := ih
      intro σ3 v3 hp
      replace hp : (∀ p, p < i → ∀ q, q < m → σ3.1 145 (6 * p + q) = (f0k E 0 p q : Int)) ∧ (∀ q, q < j → σ3.1 145 (6 * i + q) = (f0k E 0 i q : Int)) ∧ frW 145 145 1 0 σ σ3 := hp
      show End (ev sh (d + 1) 232 12 [some (mR (124)), some (mI ((i : Nat) : Int)), some (mI ((j : Nat) : Int)), v3] [] σ3) (G)
      obtain ⟨e1, e2, e3⟩ := hp
      have hm1 : σ3.1 124 9 = (m : Int) := by rw [e3.2 9 (by omega)]; exact hMp
      have fin : ∀ v : Int, v = (f0k E 0 i j : Int) → End (ev sh (d + 1) 232 12 [some (mR (124)), some (mI ((i : Nat) : Int)), some (mI ((j + 1 : Nat) : Int)), v3] [] (upA σ3.1 145 (up1 (σ3.1 145) (6 * i + j) v), σ3.2)) G := fun v hv0 => by
        refine ih _ _ ⟨fun p h1 q h2 => ?_, fun q h2 => ?_, e3.tr (frW.a (by omega) (by omega))⟩
        · simp (disch := omega) only [upA_same, up1_ne]
          exact e1 p h1 q h2
        · simp (disch := omega) only [upA_same]
          by_cases e : q = j
          · subst e
            rw [up1_same]; exact hv0
          · rw [up1_ne (by omega)]
            exact e2 q (by omega)
      rw [e232_12]
      by_cases e : i = j
      · subst e
        have w99 : wi 99 = 99 := rfl
        simp (disch := first | assumption | omega | (simp (disch := omega) only [wN, w0, w1]; omega)) only [e232_0, e232_1, e232_3, e232_4, e232_7, e232_10, e232_11, e232_13, e232_14, e232_17, e232_20, e232_21, e232_24, e232_26, e232_27, e232_28, e232_29, e232_30, e232_31, e232_32, e232_35, e232_36, e232_39, e232_41, e232_42, e232_45, e232_48, e232_51, e232_54, e232_55, e232_57, e232_58, e232_61, e232_64, e232_65, e232_68, e232_70, e232_71, e232_74, e232_75, e232_76, e232_77, e232_78, e232_81, e232_82, e232_83, e232_84, e232_85, e232_86, e232_87, e232_90, e232_92, e232_93, e232_96, e232_97, e232_98, e232_99, e232_100, e232_103, e232_104, e232_105, e232_106, e232_107, e232_108, e232_111, e232_114, e232_115, e232_116, e232_117, e232_118, e232_121, e232_124, e232_125, e232_126, e232_127, e232_128, e232_131, e232_134, e232_135, e232_136, e232_137, e232_138, e232_141, e232_144, e232_145, e232_148, e232_150, e232_151, e232_152, e232_153, e232_154, e232_155, e232_158, e232_160, e232_161, e232_162, e232_163, e232_164, e232_165, e232_166, e232_169, e232_171, e232_172, e232_173, e232_174, e232_175, e232_176, e232_177, e232_180, e232_182, e232_183, e232_184, e232_185, e232_186, e232_187, e232_188, e232_191, e232_192, e232_195, e232_198, e232_201, e232_204, e232_207, e232_210, kl_I, kl_R, kl_N, kl_L, oSm, oNn, Option.bind_some, wN, if_pos, if_neg, nS, tN, t0, w0, w1, w2, w3, w4, w5, wm1, upA_ne, upA_same, if_true, if_false, Bool.false_eq_true, hm1, ra39, rl39, n6, ← Int.natCast_add]
        exact fin _ (by simp [f0k])
      · simp (disch := first | assumption | omega | (simp (disch := omega) only [wN, w0, w1]; omega)) only [e232_0, e232_1, e232_3, e232_4, e232_7, e232_10, e232_11, e232_13, e232_14, e232_17, e232_20, e232_21, e232_24, e232_26, e232_27, e232_28, e232_29, e232_30, e232_31, e232_32, e232_35, e232_36, e232_39, e232_41, e232_42, e232_45, e232_48, e232_51, e232_54, e232_55, e232_57, e232_58, e232_61, e232_64, e232_65, e232_68, e232_70, e232_71, e232_74, e232_75, e232_76, e232_77, e232_78, e232_81, e232_82, e232_83, e232_84, e232_85, e232_86, e232_87, e232_90, e232_92, e232_93, e232_96, e232_97, e232_98, e232_99, e232_100, e232_103, e232_104, e232_105, e232_106, e232_107, e232_108, e232_111, e232_114, e232_115, e232_116, e232_117, e232_118, e232_121, e232_124, e232_125, e232_126, e232_127, e232_128, e232_131, e232_134, e232_135, e232_136, e232_137, e232_138, e232_141, e232_144, e232_145, e232_148, e232_150, e232_151, e232_152, e232_153, e232_154, e232_155, e232_158, e232_160, e232_161, e232_162, e232_163, e232_164, e232_165, e232_166, e232_169, e232_171, e232_172, e232_173, e232_174, e232_175, e232_176, e232_177, e232_180, e232_182, e232_183, e232_184, e232_185, e232_186, e232_187, e232_188, e232_191, e232_192, e232_195, e232_198, e232_201, e232_204, e232_207, e232_210, kl_I, kl_R, kl_N, kl_L, oSm, oNn, Option.bind_some, wN, if_pos, if_neg, nS, tN, t0, w0, w1, w2, w3, w4, w5, wm1, upA_ne, upA_same, if_true, if_false, Bool.false_eq_true, hm1, ra39, rl39, n6, ← Int.natCast_add]
        exact fin _ (by simp [f0k, e, njB, fa])) 0 (Nat.zero_le _)
    rw [e232_2]
    simp (disch := first | assumption | omega | (simp (disch := omega) only [wN, w0, w1]; omega)) only [e232_0, e232_1, e232_3, e232_4, e232_7, e232_10, e232_11, e232_13, e232_14, e232_17, e232_20, e232_21, e232_24, e232_26, e232_27, e232_28, e232_29, e232_30, e232_31, e232_32, e232_35, e232_36, e232_39, e232_41, e232_42, e232_45, e232_48, e232_51, e232_54, e232_55, e232_57, e232_58, e232_61, e232_64, e232_65, e232_68, e232_70, e232_71, e232_74, e232_75, e232_76, e232_77, e232_78, e232_81, e232_82, e232_83, e232_84, e232_85, e232_86, e232_87, e232_90, e232_92, e232_93, e232_96, e232_97, e232_98, e232_99, e232_100, e232_103, e232_104, e232_105, e232_106, e232_107, e232_108, e232_111, e232_114, e232_115, e232_116, e232_117, e232_118, e232_121, e232_124, e232_125, e232_126, e232_127, e232_128, e232_131, e232_134, e232_135, e232_136, e232_137, e232_138, e232_141, e232_144, e232_145, e232_148, e232_150, e232_151, e232_152, e232_153, e232_154, e232_155, e232_158, e232_160, e232_161, e232_162, e232_163, e232_164, e232_165, e232_166, e232_169, e232_171, e232_172, e232_173, e232_174, e232_175, e232_176, e232_177, e232_180, e232_182, e232_183, e232_184, e232_185, e232_186, e232_187, e232_188, e232_191, e232_192, e232_195, e232_198, e232_201, e232_204, e232_207, e232_210, kl_I, kl_R, kl_N, kl_L, oSm, oNn, Option.bind_some, wN, if_pos, if_neg, nS, tN, t0, w0, w1, w2, w3, w4, w5, wm1, upA_ne, upA_same, if_true, if_false, Bool.false_eq_true, hm1]
    exact L2 _ _ ⟨hp.1, fun q hq => by omega, hp.2⟩) 0 (Nat.zero_le _)
  simp (disch := first | assumption | omega | (simp (disch := omega) only [wN, w0, w1]; omega)) only [e232_0, e232_1, e232_3, e232_4, e232_7, e232_10, e232_11, e232_13, e232_14, e232_17, e232_20, e232_21, e232_24, e232_26, e232_27, e232_28, e232_29, e232_30, e232_31, e232_32, e232_35, e232_36, e232_39, e232_41, e232_42, e232_45, e232_48, e232_51, e232_54, e232_55, e232_57, e232_58, e232_61, e232_64, e232_65, e232_68, e232_70, e232_71, e232_74, e232_75, e232_76, e232_77, e232_78, e232_81, e232_82, e232_83, e232_84, e232_85, e232_86, e232_87, e232_90, e232_92, e232_93, e232_96, e232_97, e232_98, e232_99, e232_100, e232_103, e232_104, e232_105, e232_106, e232_107, e232_108, e232_111, e232_114, e232_115, e232_116, e232_117, e232_118, e232_121, e232_124, e232_125, e232_126, e232_127, e232_128, e232_131, e232_134, e232_135, e232_136, e232_137, e232_138, e232_141, e232_144, e232_145, e232_148, e232_150, e232_151, e232_152, e232_153, e232_154, e232_155, e232_158, e232_160, e232_161, e232_162, e232_163, e232_164, e232_165, e232_166, e232_169, e232_171, e232_172, e232_173, e232_174, e232_175, e232_176, e232_177, e232_180, e232_182, e232_183, e232_184, e232_185, e232_186, e232_187, e232_188, e232_191, e232_192, e232_195, e232_198, e232_201, e232_204, e232_207, e232_210, kl_I, kl_R, kl_N, kl_L, oSm, oNn, Option.bind_some, wN, if_pos, if_neg, nS, tN, t0, w0, w1, w2, w3, w4, w5, wm1, upA_ne, upA_same, if_true, if_false, Bool.false_eq_true, q232]
  exact L _ _ _ ⟨fun p hp => by omega, frW.rf⟩
end NJ

