/-! ===== the reference: routes ===== -/
theorem pc_all {D k : Nat} (h : D < 2 ^ k) (hk : k ≤ 30) : pcD D 30 < k ↔ D ≠ 2 ^ k - 1 := by
  have e : pcD D 30 = pcD D k := by
    have := pcD_30 h (30 - k)
    rw [show k + (30 - k) = 30 by omega] at this
    exact this
  rw [e]
  have key : ∀ j, pcD D j = j ↔ ∀ i, i < j → D.testBit i = true := by
    intro j
    induction j with
    | zero => exact ⟨fun _ i hi => by omega, fun _ => rfl⟩
    | succ j ih =>
      have es : pcD D (j + 1) = pcD D j + if D.testBit j = true then 1 else 0 := rfl
      have le := pcD_le D j
      rw [es]
      by_cases q : D.testBit j = true
      · rw [if_pos q]
        constructor
        · intro h i hi
          by_cases g : i = j
          · rw [g]; exact q
          · exact ih.mp (by omega) i (by omega)
        · intro h
          have := ih.mpr (fun i hi => h i (by omega))
          omega
      · rw [if_neg q]
        constructor
        · intro h; omega
        · intro h; exact absurd (h j (by omega)) q
  have le := pcD_le D k
  constructor
  · intro h1 h2
    have : pcD D k = k := (key k).mpr fun i hi => by
      rw [h2, Nat.testBit_two_pow_sub_one]
      simp [hi]
    omega
  · intro h1
    have : pcD D k ≠ k := fun h2 => h1 (by
      have h3 := (key k).mp h2
      apply Nat.eq_of_testBit_eq
      intro i
      rw [Nat.testBit_two_pow_sub_one]
      by_cases hi : i < k
      · rw [h3 i hi]; simp [hi]
      · rw [Nat.testBit_lt_two_pow (Nat.lt_of_lt_of_le h (Nat.pow_le_pow_right (by omega) (by omega)))]; simp [hi])
    omega
section NS
variable {sh : Shp} {d m n look : Nat} {σ : Mem} {E : List Ed} {a : AX} {z w : Int} {c : List Gt} {P A : Nat → Nat} {b : Bool} {x : RS}
theorem chR_r {F : Nat → Nat → Nat} : chR F c E A look x = -1 ∨ ∃ k : Nat, k < E.length ∧ chR F c E A look x = (k : Int) := (beS_r E.length).1
theorem ruR_okR {F : Nat → Nat → Nat} (hv : okE m E) : ∀ t (x : RS), okR n m c x → okR n m c (ruR F c E A look t x).1
  | 0, x, h => h
  | t + 1, x, h => by
    rw [ruR]
    split
    · exact h.dd
    · split
      · exact h.dd
      · rename_i q1 q2
        rcases chR_r (F := F) (c := c) (E := E) (A := A) (look := look) (x := ddR F c A x) with e | ⟨k, hk, e⟩
        · exact absurd (Or.inl e) q2
        · rw [e]
          refine ruR_okR hv t _ ((h.dd (F := F) (A := A)).sw hv (by simpa using hk) ?_)
          have h4 := h.2.2.2.1
          have : x.2.2 ≠ 40 := fun q => q2 (Or.inr q)
          show x.2.2 < 40
          omega
theorem M257l (hM : MS sh) (hc : c.length ≤ 30) (hv : okC n c) (hn : n ≤ 4) (hm : m ≤ 5) (hvE : okE m E) (h10 : E.length ≤ 10) (hlook : look ≤ 5) (hA : ∀ g, g < c.length → A g < 2 ^ g) : ∀ (t : Nat) (x : RS) (σ1 : Mem) (v3 : Option MV), x.2.2 + t = 41 → okR n m c x → RC σ1 n m c E A → RV true σ1 n (ddR (farE E) c A x).1 (ddR (farE E) c A x).2.1 → σ1.1 124 47 = (x.2.2 : Int) →
    End (ev sh (d + 5) 257 95 [some (mR (124)), some (mI (z)), some (mI ((look : Nat) : Int)), v3] [] σ1) (fun r σ' => r = some (mI (bi (ruR (farE E) c E A look t x).2)) ∧ ((ruR (farE E) c E A look t x).2 = true → RV true σ' n (ruR (farE E) c E A look t x).1.1 (ruR (farE E) c E A look t x).1.2.1 ∧ σ'.1 124 47 = ((ruR (farE E) c E A look t x).1.2.2 : Int)) ∧ frW 147 150 46 50 σ1 σ') := by
  have mo := hM.1
  have m160 := hM.2.1
  obtain ⟨ra1, rk1, rl1⟩ := ms1 hM
  obtain ⟨ra2, rk2, rl2⟩ := ms2 hM
  obtain ⟨ra3, rk3, rl3⟩ := ms3 hM
  obtain ⟨ra41, rk41, rl41⟩ := ms41 hM
  obtain ⟨ra43, rk43, rl43⟩ := ms43 hM
  intro t
  induction t with
  | zero =>
    intro x σ1 v3 h1 h2
    have := h2.2.2.2.1
    omega
  | succ t ih =>
    intro x σ1 v3 h1 h2 hR hV h47
    have hy := h2.dd (F := farE E) (A := A)
    have hsw : (ddR (farE E) c A x).2.2 = x.2.2 := rfl
    have hdn : (ddR (farE E) c A x).2.1.1 = daD (farE E) c A x.1 x.2.1.1 c.length := rrA_D _ _ _ _ _ _
    have two := op_two (F := farE E) (c := c) (A := A) (P := x.1) (D := x.2.1.1) hA c.length (Nat.le_refl _)
    rw [← hdn] at two
    rw [ruR]
    generalize hY : ddR (farE E) c A x = y at *
    obtain ⟨okp, dlt, slen, s40, w40, wsw⟩ := id hy
    obtain ⟨v1, v2, v4, v5, v6, v7⟩ := id hV
    have hl := hR.1.1
    have s8 := E168 (sh := sh) (d := d + 4) (σ := σ1) (b := y.2.1.1) (D30 dlt hc)
    have pa := pc_all dlt hc
    rw [e257_95]
    by_cases e1 : y.2.1.1 = 2 ^ c.length - 1
    · rw [if_pos e1]
      have p2 : ¬ pcD y.2.1.1 30 < c.length := fun q => (pa.mp q) e1
      have p3 := pcD_le y.2.1.1 30
      simp (disch := first | assumption | omega | (simp (disch := omega) only [wN, w0, w1]; omega)) only [e257_0, e257_1, e257_2, e257_3, e257_6, e257_7, e257_10, e257_11, e257_14, e257_15, e257_17, e257_18, e257_19, e257_20, e257_21, e257_24, e257_25, e257_26, e257_29, e257_30, e257_31, e257_34, e257_35, e257_36, e257_37, e257_38, e257_41, e257_42, e257_45, e257_46, e257_47, e257_48, e257_51, e257_54, e257_55, e257_58, e257_59, e257_60, e257_63, e257_64, e257_65, e257_68, e257_71, e257_72, e257_73, e257_74, e257_75, e257_78, e257_79, e257_82, e257_83, e257_84, e257_85, e257_88, e257_91, e257_92, e257_96, e257_99, e257_102, e257_103, e257_106, e257_107, e257_108, e257_111, e257_112, e257_113, e257_116, e257_117, e257_120, e257_121, e257_122, e257_123, e257_126, e257_127, e257_130, e257_132, e257_135, e257_136, e257_137, e257_138, e257_139, e257_142, e257_143, e257_144, e257_147, e257_148, e257_149, e257_150, e257_153, e257_154, e257_155, e257_156, e257_159, e257_160, e257_161, e257_162, e257_163, e257_166, e257_167, e257_170, e257_171, e257_174, e257_175, e257_176, e257_177, e257_180, e257_181, e257_182, e257_185, e257_186, e257_189, e257_190, e257_193, e257_194, e257_195, e257_196, e257_199, e257_200, e257_203, e257_204, e257_205, e257_206, e257_207, e257_208, e257_209, e257_210, e257_213, e257_214, e257_217, e257_218, e257_219, e257_220, e257_223, e257_224, e257_227, e257_228, e257_229, e257_230, e257_231, e257_232, e257_233, e257_234, e257_237, e257_240, e257_241, kl_I, kl_R, kl_N, kl_L, oSm, oNn, Option.bind_some, wN, if_pos, if_neg, nS, tN, t0, w0, w1, w2, w3, w4, w5, wm1, upA_ne, upA_same, if_true, if_false, Bool.false_eq_true, v4, s8, ra1, rl1, hl]
      exact End.of rfl ⟨rfl, fun _ => ⟨hV, by rw [hsw]; exact h47⟩, frW.rf⟩
    · rw [if_neg e1]
      have p2 : pcD y.2.1.1 30 < c.length := pa.mpr e1
      obtain ⟨r, σ2, a1, rfl, a49, a50, af⟩ := M251 (d := d + 2) (look := look) hM hR hc hv v4 dlt hlook
      have hR2 := hR.W af (by omega) (by omega)
      have hV2 := hV.W af (by omega) (by omega)
      have frl : frR c A y < 2 ^ c.length := bts_lt _ _
      have nxl : nxR c A look y < 2 ^ c.length := (nxS_lt _ _ _ _).1
      have f2 : ∀ g, g < c.length → (frR c A y).testBit g = true → 3 ≤ (gA c g).1 := fun g hg q => (two g hg (bts_tb q).2).1
      have n2 : ∀ g, g < c.length → (nxR c A look y).testBit g = true → 3 ≤ (gA c g).1 := fun g hg q => (nxS_two c _ look _ g q).2.1
      have hW2 : ∀ p, p < 5 → σ2.1 149 p = (y.2.1.2.1 p : Int) ∧ y.2.1.2.1 p ≤ 40 := fun p hp => ⟨hV2.2.2.2.1 rfl p hp, w40 p hp⟩
      obtain ⟨r, σ3, b1, rfl, bf⟩ := M256 (d := d) hM hR2 hc hv hn hm hvE h10 hV2.1 hV2.2.1 okp a49 a50 frl nxl f2 n2 hW2
      replace b1 : run sh (d + 4) 256 [mR 124] σ2 = some (some (mI (chR (farE E) c E A look y)), σ3) := b1
      have f13 : frW 147 150 46 50 σ1 σ3 := (af.w (by omega) (by omega) (by omega) (by omega)).tr (bf.w (by omega) (by omega) (by omega) (by omega))
      have hR3 := hR2.W bf (by omega) (by omega)
      have hV3 := hV2.W bf (by omega) (by omega)
      have k47 : σ3.1 124 47 = (x.2.2 : Int) := by rw [bf.2 47 (by omega), af.2 47 (by omega)]; exact h47
      have w40' : wi 40 = 40 := rfl
      rcases chR_r (F := farE E) (c := c) (E := E) (A := A) (look := look) (x := y) with e2 | ⟨k, hk, e2⟩
      · rw [if_pos (Or.inl e2)]
        rw [e2] at b1
        simp (disch := first | assumption | omega | (simp (disch := omega) only [wN, w0, w1]; omega)) only [e257_0, e257_1, e257_2, e257_3, e257_6, e257_7, e257_10, e257_11, e257_14, e257_15, e257_17, e257_18, e257_19, e257_20, e257_21, e257_24, e257_25, e257_26, e257_29, e257_30, e257_31, e257_34, e257_35, e257_36, e257_37, e257_38, e257_41, e257_42, e257_45, e257_46, e257_47, e257_48, e257_51, e257_54, e257_55, e257_58, e257_59, e257_60, e257_63, e257_64, e257_65, e257_68, e257_71, e257_72, e257_73, e257_74, e257_75, e257_78, e257_79, e257_82, e257_83, e257_84, e257_85, e257_88, e257_91, e257_92, e257_96, e257_99, e257_102, e257_103, e257_106, e257_107, e257_108, e257_111, e257_112, e257_113, e257_116, e257_117, e257_120, e257_121, e257_122, e257_123, e257_126, e257_127, e257_130, e257_132, e257_135, e257_136, e257_137, e257_138, e257_139, e257_142, e257_143, e257_144, e257_147, e257_148, e257_149, e257_150, e257_153, e257_154, e257_155, e257_156, e257_159, e257_160, e257_161, e257_162, e257_163, e257_166, e257_167, e257_170, e257_171, e257_174, e257_175, e257_176, e257_177, e257_180, e257_181, e257_182, e257_185, e257_186, e257_189, e257_190, e257_193, e257_194, e257_195, e257_196, e257_199, e257_200, e257_203, e257_204, e257_205, e257_206, e257_207, e257_208, e257_209, e257_210, e257_213, e257_214, e257_217, e257_218, e257_219, e257_220, e257_223, e257_224, e257_227, e257_228, e257_229, e257_230, e257_231, e257_232, e257_233, e257_234, e257_237, e257_240, e257_241, kl_I, kl_R, kl_N, kl_L, oSm, oNn, Option.bind_some, wN, if_pos, if_neg, nS, tN, t0, w0, w1, w2, w3, w4, w5, wm1, upA_ne, upA_same, if_true, if_false, Bool.false_eq_true, v4, s8, ra1, rl1, hl, a1, b1]
        exact End.of rfl ⟨rfl, fun q => (by cases q), f13⟩
      · by_cases e3 : x.2.2 = 40
        · rw [if_pos (Or.inr e3)]
          rw [e2] at b1
          rw [e3] at k47
          simp (disch := first | assumption | omega | (simp (disch := omega) only [wN, w0, w1]; omega)) only [e257_0, e257_1, e257_2, e257_3, e257_6, e257_7, e257_10, e257_11, e257_14, e257_15, e257_17, e257_18, e257_19, e257_20, e257_21, e257_24, e257_25, e257_26, e257_29, e257_30, e257_31, e257_34, e257_35, e257_36, e257_37, e257_38, e257_41, e257_42, e257_45, e257_46, e257_47, e257_48, e257_51, e257_54, e257_55, e257_58, e257_59, e257_60, e257_63, e257_64, e257_65, e257_68, e257_71, e257_72, e257_73, e257_74, e257_75, e257_78, e257_79, e257_82, e257_83, e257_84, e257_85, e257_88, e257_91, e257_92, e257_96, e257_99, e257_102, e257_103, e257_106, e257_107, e257_108, e257_111, e257_112, e257_113, e257_116, e257_117, e257_120, e257_121, e257_122, e257_123, e257_126, e257_127, e257_130, e257_132, e257_135, e257_136, e257_137, e257_138, e257_139, e257_142, e257_143, e257_144, e257_147, e257_148, e257_149, e257_150, e257_153, e257_154, e257_155, e257_156, e257_159, e257_160, e257_161, e257_162, e257_163, e257_166, e257_167, e257_170, e257_171, e257_174, e257_175, e257_176, e257_177, e257_180, e257_181, e257_182, e257_185, e257_186, e257_189, e257_190, e257_193, e257_194, e257_195, e257_196, e257_199, e257_200, e257_203, e257_204, e257_205, e257_206, e257_207, e257_208, e257_209, e257_210, e257_213, e257_214, e257_217, e257_218, e257_219, e257_220, e257_223, e257_224, e257_227, e257_228, e257_229, e257_230, e257_231, e257_232, e257_233, e257_234, e257_237, e257_240, e257_241, kl_I, kl_R, kl_N, kl_L, oSm, oNn, Option.bind_some, wN, if_pos, if_neg, nS, tN, t0, w0, w1, w2, w3, w4, w5, wm1, upA_ne, upA_same, if_true, if_false, Bool.false_eq_true, v4, s8, ra1, rl1, hl, a1, b1, k47, w40']
          exact End.of rfl ⟨rfl, fun q => (by cases q), f13⟩
        · rw [if_neg (by rintro (q | q); · rw [q] at e2; omega
                         · exact e3 q)]
          rw [e2] at b1 ⊢
          rw [Int.toNat_natCast]
          have hke := hvE.at hk
          obtain ⟨g1, g2⟩ := hR3.2.2.2.1 k hk
          have cl : ∀ l, l < 4 → -1 ≤ σ3.1 147 l ∧ σ3.1 147 l < 5 := fun l hl => by
            by_cases q : l < n
            · have := hV3.1 l q
              have := okp.1 l q
              omega
            · have := hV3.2.1 l (by omega) hl
              omega
          -- the step is told
          have k46 : (upA σ3.1 124 (up1 (σ3.1 124) 47 ((x.2.2 + 1 : Nat) : Int))) 124 46 = (y.2.1.2.2.length : Int) := by
            simp (disch := omega) only [upA_same, up1_ne]
            exact hV3.2.2.2.2.1
          have pl := pcD_le y.2.1.1 c.length
          obtain ⟨σ4, c1, c2, c3, c4, c5, c6, c7, c8⟩ := M245 (d := d + 4) (σ := (upA σ3.1 124 (up1 (σ3.1 124) 47 ((x.2.2 + 1 : Nat) : Int)), σ3.2)) (k := 5) (p := ((eA E k).1 : Int)) (q := ((eA E k).2 : Int)) (u := -1) (sw := true) hM k46 (by omega)
          have wb : bi true = 1 := rfl
          rw [wb] at c1
          have f34 : frW 147 150 46 50 σ3 σ4 := (frW.f (i := 47) (by omega)).tr (c8.w (by omega) (by omega) (by omega) (by omega))
          have k147 : σ4.1 147 = σ3.1 147 := by
            rw [(c8.1 147 (by omega) (by omega)).1]
            simp (disch := omega) only [upA_ne]
          have k149 : σ4.1 149 = σ3.1 149 := by
            rw [(c8.1 149 (by omega) (by omega)).1]
            simp (disch := omega) only [upA_ne]
          have g3 : σ4.1 127 k = ((eA E k).1 : Int) := by rw [(f34.1 127 (by omega) (by omega)).1]; exact g1
          have g4 : σ4.1 128 k = ((eA E k).2 : Int) := by rw [(f34.1 128 (by omega) (by omega)).1]; exact g2
          obtain ⟨σ5, s1, s2, s3, s4⟩ := M252 (d := d + 4) (σ := σ4) (q := 147) (y1 := (eA E k).1) (y2 := (eA E k).2) rk41 rl41 (by omega) (by omega) (by omega) (fun l hl => by rw [k147]; exact cl l hl)
          have f45 : frW 147 147 1 0 σ4 σ5 := ⟨fun b hb _ => ⟨s3 b (by omega), by rw [s4]⟩, fun i _ => by rw [s3 124 (by omega)]⟩
          have g5 : σ5.1 127 k = ((eA E k).1 : Int) := by rw [s3 127 (by omega)]; exact g3
          have g6 : σ5.1 128 k = ((eA E k).2 : Int) := by rw [s3 128 (by omega)]; exact g4
          have w1 : σ5.1 149 (eA E k).1 = (y.2.1.2.1 (eA E k).1 : Int) := by rw [s3 149 (by omega), k149]; exact hV3.2.2.2.1 rfl _ (by omega)
          have w2 : σ5.1 149 (eA E k).2 = (y.2.1.2.1 (eA E k).2 : Int) := by rw [s3 149 (by omega), k149]; exact hV3.2.2.2.1 rfl _ (by omega)
          have hne : (eA E k).2 ≠ (eA E k).1 := by omega
          obtain ⟨σ6, h6⟩ : ∃ s : Mem, s = (upA (upA σ5.1 149 (up1 (σ5.1 149) (eA E k).1 ((y.2.1.2.1 (eA E k).1 + 1 : Nat) : Int))) 149 (up1 (up1 (σ5.1 149) (eA E k).1 ((y.2.1.2.1 (eA E k).1 + 1 : Nat) : Int)) (eA E k).2 ((y.2.1.2.1 (eA E k).2 + 1 : Nat) : Int)), σ5.2) := ⟨_, rfl⟩
          have f56 : frW 149 149 1 0 σ5 σ6 := by
            rw [h6]
            exact (frW.a (a := 149) (by omega) (by omega)).tr (frW.a (a := 149) (by omega) (by omega))
          have f36 : frW 147 150 46 50 σ3 σ6 := (f34.tr (f45.w (by omega) (by omega) (by omega) (by omega))).tr (f56.w (by omega) (by omega) (by omega) (by omega))
          have hR6 := hR3.W f36 (by omega) (by omega)
          have hsv := hy.sw hvE (e := k) hk (by rw [hsw]; omega)
          have hV6 : RV true σ6 n (swR E k y).1 (swR E k y).2.1 := by
            refine hV3.st (s := ((5, (eA E k).1, ((eA E k).2 : Int)), true)) (fun j hj => ?_) ?_ ?_ ?_ (fun _ p hp => ?_) (fun q hq => ?_) (fun l p q => ?_)
            · rw [(f56.1 150 (by omega) (by omega)).1, s3 150 (by omega), c6 j hj]
              simp (disch := omega) only [upA_ne]
            · have q150 : σ6.1 150 = σ4.1 150 := by rw [(f56.1 150 (by omega) (by omega)).1, s3 150 (by omega)]
              unfold stC
              rw [q150]
              exact ⟨c2, c3, c4, c5⟩
            · rw [f56.2 46 (by omega), f45.2 46 (by omega)]; exact c7
            · rw [f56.2 48 (by omega), f45.2 48 (by omega), c8.2 48 (by omega)]
              simp (disch := omega) only [upA_same, up1_ne]
              exact hV3.2.2.1
            · have q149 : σ6.1 149 = up1 (up1 (σ5.1 149) (eA E k).1 ((y.2.1.2.1 (eA E k).1 + 1 : Nat) : Int)) (eA E k).2 ((y.2.1.2.1 (eA E k).2 + 1 : Nat) : Int) := by
                rw [h6]
                simp (disch := omega) only [upA_same]
              have q5 : σ5.1 149 p = (y.2.1.2.1 p : Int) := by rw [s3 149 (by omega), k149]; exact hV3.2.2.2.1 rfl _ hp
              rw [q149]
              show _ = ((upw (upw y.2.1.2.1 (eA E k).1) (eA E k).2 p : Nat) : Int)
              unfold upw
              by_cases e5 : p = (eA E k).2
              · rw [e5, up1_same, if_pos rfl, if_neg hne]
              · rw [up1_ne e5, if_neg e5]
                by_cases e6 : p = (eA E k).1
                · rw [e6, up1_same, if_pos rfl]
                · rw [up1_ne e6, if_neg e6]; exact q5
            · rw [(f56.1 147 (by omega) (by omega)).1, s2 q (by omega), k147, hV3.1 q hq]
              show _ = ((swP (eA E k).1 (eA E k).2 y.1 q : Nat) : Int)
              unfold swP
              by_cases x1 : y.1 q = (eA E k).1
              · rw [if_pos x1, if_pos (by rw [x1])]
              · rw [if_neg x1, if_neg (by omega)]
                by_cases x2 : y.1 q = (eA E k).2
                · rw [if_pos x2, if_pos (by rw [x2])]
                · rw [if_neg x2, if_neg (by omega)]
            · rw [(f56.1 147 (by omega) (by omega)).1, s2 l q, k147, hV3.2.1 l p q, if_neg (by omega), if_neg (by omega)]
          obtain ⟨r, σ7, t1, rfl, t2, t3, t4⟩ := M250 (d := d) (x := (swR E k y).2.1) hM hc hv hn hm hsv.1 hsv.2.1 (by have := hsv.2.2.1; have := hsv.2.2.2.1; omega) hR6 hV6
          have k477 : σ7.1 124 47 = ((swR E k y).2.2 : Int) := by
            rw [t4, f56.2 47 (by omega), f45.2 47 (by omega), c8.2 47 (by omega)]
            simp (disch := omega) only [upA_same, up1_same]
            show _ = ((y.2.2 + 1 : Nat) : Int)
            rw [hsw]
          have fin := ih (swR E k y) σ7 (some (mI (k : Int))) (by show y.2.2 + 1 + t = 41; omega) hsv (hR6.W t3 (by omega) (by omega)) t2 k477
          rw [h6] at t1
          simp (disch := first | assumption | omega | (simp (disch := omega) only [wN, w0, w1]; omega)) only [e257_0, e257_1, e257_2, e257_3, e257_6, e257_7, e257_10, e257_11, e257_14, e257_15, e257_17, e257_18, e257_19, e257_20, e257_21, e257_24, e257_25, e257_26, e257_29, e257_30, e257_31, e257_34, e257_35, e257_36, e257_37, e257_38, e257_41, e257_42, e257_45, e257_46, e257_47, e257_48, e257_51, e257_54, e257_55, e257_58, e257_59, e257_60, e257_63, e257_64, e257_65, e257_68, e257_71, e257_72, e257_73, e257_74, e257_75, e257_78, e257_79, e257_82, e257_83, e257_84, e257_85, e257_88, e257_91, e257_92, e257_96, e257_99, e257_102, e257_103, e257_106, e257_107, e257_108, e257_111, e257_112, e257_113, e257_116, e257_117, e257_120, e257_121, e257_122, e257_123, e257_126, e257_127, e257_130, e257_132, e257_135, e257_136, e257_137, e257_138, e257_139, e257_142, e257_143, e257_144, e257_147, e257_148, e257_149, e257_150, e257_153, e257_154, e257_155, e257_156, e257_159, e257_160, e257_161, e257_162, e257_163, e257_166, e257_167, e257_170, e257_171, e257_174, e257_175, e257_176, e257_177, e257_180, e257_181, e257_182, e257_185, e257_186, e257_189, e257_190, e257_193, e257_194, e257_195, e257_196, e257_199, e257_200, e257_203, e257_204, e257_205, e257_206, e257_207, e257_208, e257_209, e257_210, e257_213, e257_214, e257_217, e257_218, e257_219, e257_220, e257_223, e257_224, e257_227, e257_228, e257_229, e257_230, e257_231, e257_232, e257_233, e257_234, e257_237, e257_240, e257_241, kl_I, kl_R, kl_N, kl_L, oSm, oNn, Option.bind_some, wN, if_pos, if_neg, nS, tN, t0, w0, w1, w2, w3, w4, w5, wm1, upA_ne, upA_same, if_true, if_false, Bool.false_eq_true, v4, s8, ra1, rl1, hl, a1, b1, k47, w40', ra2, rl2, ra3, rl3, ra41, rl41, ra43, rl43, g1, g2, c1, g3, g4, s1, g5, g6, w1, w2, up1_ne, t1]
          exact fin.imp fun r σ' q => ⟨q.1, q.2.1, f13.tr (f36.tr ((t3.w (by omega) (by omega) (by omega) (by omega)).tr q.2.2))⟩
end NS

