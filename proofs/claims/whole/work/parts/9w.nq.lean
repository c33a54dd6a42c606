/-! ===== the reference: front, costs ===== -/
theorem nx_cnt (c : List Gt) (T look : Nat) : ∀ g, g ≤ 30 → pcD (nxS c T look g).1 30 = (nxS c T look g).2
  | 0, _ => by
    show pcD 0 30 = 0
    decide
  | g + 1, h => by
    have ih := nx_cnt c T look g (by omega)
    rw [nxS]
    split
    · have hb : (nxS c T look g).1.testBit g = false := Nat.testBit_lt_two_pow (nxS_lt c T look g).1
      rw [pcD_or hb 30 (by omega), ih]
    · exact ih
theorem pl_bit {c : List Gt} {P : Nat → Nat} {S p : Nat} : ∀ k, (plS c P S k).testBit p = true ↔ ∃ g, g < k ∧ S.testBit g = true ∧ (P (gA c g).2.1 = p ∨ P (gA c g).2.2.toNat = p)
  | 0 => by simp [plS]
  | k + 1 => by
    have ih := pl_bit (c := c) (P := P) (S := S) (p := p) k
    rw [plS]
    by_cases h : S.testBit k = true
    · rw [if_pos h, Nat.testBit_or, Nat.testBit_or, Bool.or_eq_true, Bool.or_eq_true, ih, Nat.testBit_two_pow, Nat.testBit_two_pow, decide_eq_true_eq, decide_eq_true_eq]
      constructor
      · rintro ((⟨g, h1, h2, h3⟩ | q) | q)
        · exact ⟨g, by omega, h2, h3⟩
        · exact ⟨k, by omega, h, Or.inl q⟩
        · exact ⟨k, by omega, h, Or.inr q⟩
      · rintro ⟨g, h1, h2, h3⟩
        by_cases e : g = k
        · rw [e] at h3
          rcases h3 with q | q
          · exact Or.inl (Or.inr q)
          · exact Or.inr q
        · exact Or.inl (Or.inl ⟨g, by omega, h2, h3⟩)
    · rw [if_neg h, ih]
      constructor
      · rintro ⟨g, h1, h2, h3⟩
        exact ⟨g, by omega, h2, h3⟩
      · rintro ⟨g, h1, h2, h3⟩
        by_cases e : g = k
        · rw [e] at h2; exact absurd h2 h
        · exact ⟨g, by omega, h2, h3⟩
section NQ
variable {sh : Shp} {d m n g : Nat} {σ : Mem} {E : List Ed} {a : AX} {z w : Int} {c : List Gt} {P A : Nat → Nat} {b : Bool} {x : Nat × (Nat → Nat) × List Sp}
theorem M251 {D look : Nat} (hM : MS sh) (hR : RC σ n m c E A) (hc : c.length ≤ 30) (hv : okC n c) (hD : σ.1 124 48 = (D : Int)) (hD2 : D < 2 ^ c.length) (hlook : look ≤ 5) : End (run sh (d + 2) 251 [mR 124, mI (look : Int)] σ) (fun r σ' => r = none ∧ σ'.1 124 49 = (bts (opB A D) c.length : Int) ∧ σ'.1 124 50 = ((nxS c (bts (opB A D) c.length ||| D) look c.length).1 : Int) ∧ frW 1 0 49 50 σ σ') := by
  have mo := hM.1
  have m160 := hM.2.1
  obtain ⟨ra1, rk1, rl1⟩ := ms1 hM
  have p30 : ∀ i, i ≤ c.length → 2 ^ i ≤ 1073741824 := fun i hi => by
    have : 2 ^ i ≤ 2 ^ 30 := Nat.pow_le_pow_right (by omega) (by omega)
    omega
  have dg := D30 hD2 hc
  let G := fun (r : Option MV) (σ' : Mem) => r = none ∧ σ'.1 124 49 = (bts (opB A D) c.length : Int) ∧ σ'.1 124 50 = ((nxS c (bts (opB A D) c.length ||| D) look c.length).1 : Int) ∧ frW 1 0 49 50 σ σ'
  have B2 : ∀ σ1, σ1.1 124 49 = (bts (opB A D) c.length : Int) → σ1.1 124 50 = 0 → frW 1 0 49 50 σ σ1 → End (ev sh (d + 2) 251 50 [some (mR (124)), some (mI ((look : Nat) : Int)), some (mI ((0 : Nat) : Int))] [] σ1) G := by
    intro σ1 h49 h50 hf
    have fl := bts_lt (opB A D) c.length
    generalize hfr : bts (opB A D) c.length = fr at *
    have fg := D30 fl hc
    have xo := xor_nn (a := D) (b := fr) (by omega) (by omega)
    rw [Nat.or_comm] at xo
    have tl : fr ||| D < 1073741824 := Nat.or_lt_two_pow (n := 30) (by omega) (by omega)
    have L := for_P (c.length) (fun i => ∀ (σ2 : Mem), (σ2.1 124 50 = ((nxS c (fr ||| D) look i).1 : Int) ∧ σ2.1 124 49 = (fr : Int) ∧ frW 1 0 49 50 σ σ2) → End (ev sh (d + 2) 251 50 [some (mR (124)), some (mI ((look : Nat) : Int)), some (mI ((i : Nat) : Int))] [] σ2) (G)) (by
      intro σ2  hp
      replace hp : σ2.1 124 50 = ((nxS c (fr ||| D) look (c.length)).1 : Int) ∧ σ2.1 124 49 = (fr : Int) ∧ frW 1 0 49 50 σ σ2 := hp
      show End (ev sh (d + 2) 251 50 [some (mR (124)), some (mI ((look : Nat) : Int)), some (mI (((c.length) : Nat) : Int))] [] σ2) (G)
      have hR2 := hR.W hp.2.2 (by omega) (by omega)
      have hl := hR2.1.1
      rw [e251_50]
      simp (disch := first | assumption | omega | (simp (disch := omega) only [wN, w0, w1]; omega)) only [e251_0, e251_1, e251_2, e251_5, e251_6, e251_7, e251_10, e251_11, e251_13, e251_14, e251_17, e251_18, e251_19, e251_22, e251_23, e251_24, e251_27, e251_30, e251_31, e251_32, e251_35, e251_36, e251_37, e251_38, e251_39, e251_42, e251_45, e251_48, e251_49, e251_51, e251_52, e251_55, e251_56, e251_57, e251_60, e251_61, e251_64, e251_65, e251_68, e251_69, e251_70, e251_73, e251_76, e251_77, e251_78, e251_79, e251_82, e251_85, e251_86, e251_89, e251_92, e251_93, e251_96, e251_97, e251_98, e251_101, e251_102, e251_103, e251_104, e251_105, e251_108, e251_111, e251_114, kl_I, kl_R, kl_N, kl_L, oSm, oNn, Option.bind_some, wN, if_pos, if_neg, nS, tN, t0, w0, w1, w2, w3, w4, w5, wm1, upA_ne, upA_same, if_true, if_false, Bool.false_eq_true, ra1, rl1, hl]
      refine End.of rfl ⟨rfl, ?_, ?_, hp.2.2⟩
      · rw [hfr]; exact hp.2.1
      · rw [hfr]; exact hp.1) (fun i hi ih => by
      replace ih : ∀ (σ2 : Mem), (σ2.1 124 50 = ((nxS c (fr ||| D) look (i + 1)).1 : Int) ∧ σ2.1 124 49 = (fr : Int) ∧ frW 1 0 49 50 σ σ2) → End (ev sh (d + 2) 251 50 [some (mR (124)), some (mI ((look : Nat) : Int)), some (mI (((i + 1) : Nat) : Int))] [] σ2) (G) := ih
      intro σ2  hp
      replace hp : σ2.1 124 50 = ((nxS c (fr ||| D) look i).1 : Int) ∧ σ2.1 124 49 = (fr : Int) ∧ frW 1 0 49 50 σ σ2 := hp
      show End (ev sh (d + 2) 251 50 [some (mR (124)), some (mI ((look : Nat) : Int)), some (mI ((i : Nat) : Int))] [] σ2) (G)
      obtain ⟨q1, q2, q3⟩ := hp
      have hR2 := hR.W q3 (by omega) (by omega)
      have hl := hR2.1.1
      have hD3 : σ2.1 124 48 = (D : Int) := by rw [q3.2 48 (by omega)]; exact hD
      have hb := E167 (sh := sh) (d := d + 1) (σ := σ2) (b := fr ||| D) (k := i) (by omega) (by omega)
      have a3 := E173 (d := d) (z := 0) hM hR2.1 (by omega) hc hv hi rfl
      have nl := nxS_lt c (fr ||| D) look i
      have nc := nx_cnt c (fr ||| D) look i (by omega)
      have pi := p30 i (by omega)
      have s8 := E168 (sh := sh) (d := d + 1) (σ := σ2) (b := (nxS c (fr ||| D) look i).1) (by omega)
      rw [nc] at s8
      have xs := xshl_1 (k := i) (by omega)
      have x2 := xor_nn (a := (nxS c (fr ||| D) look i).1) (b := 2 ^ i) (by omega) (by omega)
      rw [nxS] at ih
      generalize hNx : nxS c (fr ||| D) look i = nx at *
      obtain ⟨nb, nn⟩ := nx
      simp only at *
      rw [e251_50]
      by_cases e1 : (fr ||| D).testBit i = true
      · rw [e1] at hb
        replace hb : run sh (d + 1) 167 [mI ((fr ||| D : Nat) : Int), mI (i : Int)] σ2 = some (some (mI 1), σ2) := hb
        rw [if_neg (fun q => q.2.1 e1)] at ih
        simp (disch := first | assumption | omega | (simp (disch := omega) only [wN, w0, w1]; omega)) only [e251_0, e251_1, e251_2, e251_5, e251_6, e251_7, e251_10, e251_11, e251_13, e251_14, e251_17, e251_18, e251_19, e251_22, e251_23, e251_24, e251_27, e251_30, e251_31, e251_32, e251_35, e251_36, e251_37, e251_38, e251_39, e251_42, e251_45, e251_48, e251_49, e251_51, e251_52, e251_55, e251_56, e251_57, e251_60, e251_61, e251_64, e251_65, e251_68, e251_69, e251_70, e251_73, e251_76, e251_77, e251_78, e251_79, e251_82, e251_85, e251_86, e251_89, e251_92, e251_93, e251_96, e251_97, e251_98, e251_101, e251_102, e251_103, e251_104, e251_105, e251_108, e251_111, e251_114, kl_I, kl_R, kl_N, kl_L, oSm, oNn, Option.bind_some, wN, if_pos, if_neg, nS, tN, t0, w0, w1, w2, w3, w4, w5, wm1, upA_ne, upA_same, if_true, if_false, Bool.false_eq_true, ra1, rl1, hl, hD3, q2, xo, hb]
        exact ih _ ⟨q1, q2, q3⟩
      · have e1' : (fr ||| D).testBit i = false := by simpa using e1
        rw [e1'] at hb
        replace hb : run sh (d + 1) 167 [mI ((fr ||| D : Nat) : Int), mI (i : Int)] σ2 = some (some (mI 0), σ2) := hb
        by_cases e2 : 3 ≤ (gA c i).1
        · rw [if_pos e2] at a3
          by_cases e3 : nn < look
          · rw [if_pos ⟨e3, e1, e2⟩] at ih
            simp (disch := first | assumption | omega | (simp (disch := omega) only [wN, w0, w1]; omega)) only [e251_0, e251_1, e251_2, e251_5, e251_6, e251_7, e251_10, e251_11, e251_13, e251_14, e251_17, e251_18, e251_19, e251_22, e251_23, e251_24, e251_27, e251_30, e251_31, e251_32, e251_35, e251_36, e251_37, e251_38, e251_39, e251_42, e251_45, e251_48, e251_49, e251_51, e251_52, e251_55, e251_56, e251_57, e251_60, e251_61, e251_64, e251_65, e251_68, e251_69, e251_70, e251_73, e251_76, e251_77, e251_78, e251_79, e251_82, e251_85, e251_86, e251_89, e251_92, e251_93, e251_96, e251_97, e251_98, e251_101, e251_102, e251_103, e251_104, e251_105, e251_108, e251_111, e251_114, kl_I, kl_R, kl_N, kl_L, oSm, oNn, Option.bind_some, wN, if_pos, if_neg, nS, tN, t0, w0, w1, w2, w3, w4, w5, wm1, upA_ne, upA_same, if_true, if_false, Bool.false_eq_true, ra1, rl1, hl, hD3, q2, xo, hb, a3, q1, s8, xs, x2]
            refine ih _ ⟨?_, ?_, q3.tr (frW.f (by omega))⟩
            · simp (disch := omega) only [upA_same, up1_same]
            · simp (disch := omega) only [upA_same, up1_ne]; exact q2
          · rw [if_neg (fun q => e3 q.1)] at ih
            simp (disch := first | assumption | omega | (simp (disch := omega) only [wN, w0, w1]; omega)) only [e251_0, e251_1, e251_2, e251_5, e251_6, e251_7, e251_10, e251_11, e251_13, e251_14, e251_17, e251_18, e251_19, e251_22, e251_23, e251_24, e251_27, e251_30, e251_31, e251_32, e251_35, e251_36, e251_37, e251_38, e251_39, e251_42, e251_45, e251_48, e251_49, e251_51, e251_52, e251_55, e251_56, e251_57, e251_60, e251_61, e251_64, e251_65, e251_68, e251_69, e251_70, e251_73, e251_76, e251_77, e251_78, e251_79, e251_82, e251_85, e251_86, e251_89, e251_92, e251_93, e251_96, e251_97, e251_98, e251_101, e251_102, e251_103, e251_104, e251_105, e251_108, e251_111, e251_114, kl_I, kl_R, kl_N, kl_L, oSm, oNn, Option.bind_some, wN, if_pos, if_neg, nS, tN, t0, w0, w1, w2, w3, w4, w5, wm1, upA_ne, upA_same, if_true, if_false, Bool.false_eq_true, ra1, rl1, hl, hD3, q2, xo, hb, a3, q1, s8]
            exact ih _ ⟨q1, q2, q3⟩
        · rw [if_neg e2] at a3
          rw [if_neg (fun q => e2 q.2.2)] at ih
          simp (disch := first | assumption | omega | (simp (disch := omega) only [wN, w0, w1]; omega)) only [e251_0, e251_1, e251_2, e251_5, e251_6, e251_7, e251_10, e251_11, e251_13, e251_14, e251_17, e251_18, e251_19, e251_22, e251_23, e251_24, e251_27, e251_30, e251_31, e251_32, e251_35, e251_36, e251_37, e251_38, e251_39, e251_42, e251_45, e251_48, e251_49, e251_51, e251_52, e251_55, e251_56, e251_57, e251_60, e251_61, e251_64, e251_65, e251_68, e251_69, e251_70, e251_73, e251_76, e251_77, e251_78, e251_79, e251_82, e251_85, e251_86, e251_89, e251_92, e251_93, e251_96, e251_97, e251_98, e251_101, e251_102, e251_103, e251_104, e251_105, e251_108, e251_111, e251_114, kl_I, kl_R, kl_N, kl_L, oSm, oNn, Option.bind_some, wN, if_pos, if_neg, nS, tN, t0, w0, w1, w2, w3, w4, w5, wm1, upA_ne, upA_same, if_true, if_false, Bool.false_eq_true, ra1, rl1, hl, hD3, q2, xo, hb, a3]
          exact ih _ ⟨q1, q2, q3⟩) 0 (Nat.zero_le _)
    exact L _ ⟨h50, h49, hf⟩
  have L := for_P (c.length) (fun i => ∀ (σ2 : Mem), (σ2.1 124 49 = (bts (opB A D) i : Int) ∧ σ2.1 124 50 = 0 ∧ frW 1 0 49 50 σ σ2) → End (ev sh (d + 2) 251 12 [some (mR (124)), some (mI ((look : Nat) : Int)), some (mI ((i : Nat) : Int))] [] σ2) (G)) (by
    intro σ2  hp
    replace hp : σ2.1 124 49 = (bts (opB A D) (c.length) : Int) ∧ σ2.1 124 50 = 0 ∧ frW 1 0 49 50 σ σ2 := hp
    show End (ev sh (d + 2) 251 12 [some (mR (124)), some (mI ((look : Nat) : Int)), some (mI (((c.length) : Nat) : Int))] [] σ2) (G)
    have hR2 := hR.W hp.2.2 (by omega) (by omega)
    have hl := hR2.1.1
    rw [e251_12]
    simp (disch := first | assumption | omega | (simp (disch := omega) only [wN, w0, w1]; omega)) only [e251_0, e251_1, e251_2, e251_5, e251_6, e251_7, e251_10, e251_11, e251_13, e251_14, e251_17, e251_18, e251_19, e251_22, e251_23, e251_24, e251_27, e251_30, e251_31, e251_32, e251_35, e251_36, e251_37, e251_38, e251_39, e251_42, e251_45, e251_48, e251_49, e251_51, e251_52, e251_55, e251_56, e251_57, e251_60, e251_61, e251_64, e251_65, e251_68, e251_69, e251_70, e251_73, e251_76, e251_77, e251_78, e251_79, e251_82, e251_85, e251_86, e251_89, e251_92, e251_93, e251_96, e251_97, e251_98, e251_101, e251_102, e251_103, e251_104, e251_105, e251_108, e251_111, e251_114, kl_I, kl_R, kl_N, kl_L, oSm, oNn, Option.bind_some, wN, if_pos, if_neg, nS, tN, t0, w0, w1, w2, w3, w4, w5, wm1, upA_ne, upA_same, if_true, if_false, Bool.false_eq_true, ra1, rl1, hl]
    exact B2 _ hp.1 hp.2.1 hp.2.2) (fun i hi ih => by
    replace ih : ∀ (σ2 : Mem), (σ2.1 124 49 = (bts (opB A D) (i + 1) : Int) ∧ σ2.1 124 50 = 0 ∧ frW 1 0 49 50 σ σ2) → End (ev sh (d + 2) 251 12 [some (mR (124)), some (mI ((look : Nat) : Int)), some (mI (((i + 1) : Nat) : Int))] [] σ2) (G) := ih
    intro σ2  hp
    replace hp : σ2.1 124 49 = (bts (opB A D) i : Int) ∧ σ2.1 124 50 = 0 ∧ frW 1 0 49 50 σ σ2 := hp
    show End (ev sh (d + 2) 251 12 [some (mR (124)), some (mI ((look : Nat) : Int)), some (mI ((i : Nat) : Int))] [] σ2) (G)
    obtain ⟨q1, q2, q3⟩ := hp
    have hR2 := hR.W q3 (by omega) (by omega)
    have hl := hR2.1.1
    have hD3 : σ2.1 124 48 = (D : Int) := by rw [q3.2 48 (by omega)]; exact hD
    have b1 := M246 (d := d) hM hR2 hc hD3 hD2 hi
    have bl := bts_lt (opB A D) i
    have pi := p30 i (by omega)
    have xs := xshl_1 (k := i) (by omega)
    have x2 := xor_nn (a := bts (opB A D) i) (b := 2 ^ i) (by omega) (by omega)
    rw [show bts (opB A D) (i + 1) = if opB A D i = true then bts (opB A D) i ||| 2 ^ i else bts (opB A D) i from rfl] at ih
    rw [e251_12]
    by_cases e : opB A D i = true
    · rw [e] at b1
      replace b1 : run sh (d + 1) 246 [mR 124, mI (i : Int)] σ2 = some (some (mI 1), σ2) := b1
      rw [if_pos e] at ih
      simp (disch := first | assumption | omega | (simp (disch := omega) only [wN, w0, w1]; omega)) only [e251_0, e251_1, e251_2, e251_5, e251_6, e251_7, e251_10, e251_11, e251_13, e251_14, e251_17, e251_18, e251_19, e251_22, e251_23, e251_24, e251_27, e251_30, e251_31, e251_32, e251_35, e251_36, e251_37, e251_38, e251_39, e251_42, e251_45, e251_48, e251_49, e251_51, e251_52, e251_55, e251_56, e251_57, e251_60, e251_61, e251_64, e251_65, e251_68, e251_69, e251_70, e251_73, e251_76, e251_77, e251_78, e251_79, e251_82, e251_85, e251_86, e251_89, e251_92, e251_93, e251_96, e251_97, e251_98, e251_101, e251_102, e251_103, e251_104, e251_105, e251_108, e251_111, e251_114, kl_I, kl_R, kl_N, kl_L, oSm, oNn, Option.bind_some, wN, if_pos, if_neg, nS, tN, t0, w0, w1, w2, w3, w4, w5, wm1, upA_ne, upA_same, if_true, if_false, Bool.false_eq_true, ra1, rl1, hl, b1, q1, xs, x2]
      refine ih _ ⟨?_, ?_, q3.tr (frW.f (by omega))⟩
      · simp (disch := omega) only [upA_same, up1_same]
      · simp (disch := omega) only [upA_same, up1_ne]; exact q2
    · have e' : opB A D i = false := by simpa using e
      rw [e'] at b1
      replace b1 : run sh (d + 1) 246 [mR 124, mI (i : Int)] σ2 = some (some (mI 0), σ2) := b1
      rw [if_neg e] at ih
      simp (disch := first | assumption | omega | (simp (disch := omega) only [wN, w0, w1]; omega)) only [e251_0, e251_1, e251_2, e251_5, e251_6, e251_7, e251_10, e251_11, e251_13, e251_14, e251_17, e251_18, e251_19, e251_22, e251_23, e251_24, e251_27, e251_30, e251_31, e251_32, e251_35, e251_36, e251_37, e251_38, e251_39, e251_42, e251_45, e251_48, e251_49, e251_51, e251_52, e251_55, e251_56, e251_57, e251_60, e251_61, e251_64, e251_65, e251_68, e251_69, e251_70, e251_73, e251_76, e251_77, e251_78, e251_79, e251_82, e251_85, e251_86, e251_89, e251_92, e251_93, e251_96, e251_97, e251_98, e251_101, e251_102, e251_103, e251_104, e251_105, e251_108, e251_111, e251_114, kl_I, kl_R, kl_N, kl_L, oSm, oNn, Option.bind_some, wN, if_pos, if_neg, nS, tN, t0, w0, w1, w2, w3, w4, w5, wm1, upA_ne, upA_same, if_true, if_false, Bool.false_eq_true, ra1, rl1, hl, b1]
      exact ih _ ⟨q1, q2, q3⟩) 0 (Nat.zero_le _)
  simp (disch := first | assumption | omega | (simp (disch := omega) only [wN, w0, w1]; omega)) only [e251_0, e251_1, e251_2, e251_5, e251_6, e251_7, e251_10, e251_11, e251_13, e251_14, e251_17, e251_18, e251_19, e251_22, e251_23, e251_24, e251_27, e251_30, e251_31, e251_32, e251_35, e251_36, e251_37, e251_38, e251_39, e251_42, e251_45, e251_48, e251_49, e251_51, e251_52, e251_55, e251_56, e251_57, e251_60, e251_61, e251_64, e251_65, e251_68, e251_69, e251_70, e251_73, e251_76, e251_77, e251_78, e251_79, e251_82, e251_85, e251_86, e251_89, e251_92, e251_93, e251_96, e251_97, e251_98, e251_101, e251_102, e251_103, e251_104, e251_105, e251_108, e251_111, e251_114, kl_I, kl_R, kl_N, kl_L, oSm, oNn, Option.bind_some, wN, if_pos, if_neg, nS, tN, t0, w0, w1, w2, w3, w4, w5, wm1, upA_ne, upA_same, if_true, if_false, Bool.false_eq_true, q251]
  refine L _ ⟨?_, ?_, (frW.f (i := 49) (by omega)).tr (frW.f (i := 50) (by omega))⟩
  · simp (disch := omega) only [upA_same, up1_ne, up1_same]; rfl
  · simp (disch := omega) only [upA_same, up1_same]
/-- what stands at two places is exchanged -/
theorem M252 {q y1 y2 : Nat} (hk : skd sh q = 0) (hl : sln sh q = 4) (hw : q < sh.1) (h1 : y1 < 5) (h2 : y2 < 5) (hc : ∀ l, l < 4 → -1 ≤ σ.1 q l ∧ σ.1 q l < 5) : ∃ σ', run sh d 252 [mR q, mI (y1 : Int), mI (y2 : Int)] σ = some (none, σ') ∧ (∀ l, l < 4 → σ'.1 q l = if σ.1 q l = (y1 : Int) then (y2 : Int) else if σ.1 q l = (y2 : Int) then (y1 : Int) else σ.1 q l) ∧ (∀ a, a ≠ q → σ'.1 a = σ.1 a) ∧ σ'.2 = σ.2 := by
  have K : End (run sh d 252 [mR q, mI (y1 : Int), mI (y2 : Int)] σ) (fun r σ' => r = none ∧ (∀ l, l < 4 → σ'.1 q l = if σ.1 q l = (y1 : Int) then (y2 : Int) else if σ.1 q l = (y2 : Int) then (y1 : Int) else σ.1 q l) ∧ (∀ a, a ≠ q → σ'.1 a = σ.1 a) ∧ σ'.2 = σ.2) := by
    have L := for_P (4) (fun i => ∀ (σ1 : Mem), ((∀ l, l < i → σ1.1 q l = if σ.1 q l = (y1 : Int) then (y2 : Int) else if σ.1 q l = (y2 : Int) then (y1 : Int) else σ.1 q l) ∧ (∀ l, i ≤ l → σ1.1 q l = σ.1 q l) ∧ (∀ a, a ≠ q → σ1.1 a = σ.1 a) ∧ σ1.2 = σ.2) → End (ev sh d 252 2 [some (mR (q)), some (mI ((y1 : Nat) : Int)), some (mI ((y2 : Nat) : Int)), some (mI ((i : Nat) : Int))] [] σ1) (fun r σ' => r = none ∧ (∀ l, l < 4 → σ'.1 q l = if σ.1 q l = (y1 : Int) then (y2 : Int) else if σ.1 q l = (y2 : Int) then (y1 : Int) else σ.1 q l) ∧ (∀ a, a ≠ q → σ'.1 a = σ.1 a) ∧ σ'.2 = σ.2)) (by
      intro σ1  hp
      replace hp : (∀ l, l < (4) → σ1.1 q l = if σ.1 q l = (y1 : Int) then (y2 : Int) else if σ.1 q l = (y2 : Int) then (y1 : Int) else σ.1 q l) ∧ (∀ l, (4) ≤ l → σ1.1 q l = σ.1 q l) ∧ (∀ a, a ≠ q → σ1.1 a = σ.1 a) ∧ σ1.2 = σ.2 := hp
      show End (ev sh d 252 2 [some (mR (q)), some (mI ((y1 : Nat) : Int)), some (mI ((y2 : Nat) : Int)), some (mI (((4) : Nat) : Int))] [] σ1) (fun r σ' => r = none ∧ (∀ l, l < 4 → σ'.1 q l = if σ.1 q l = (y1 : Int) then (y2 : Int) else if σ.1 q l = (y2 : Int) then (y1 : Int) else σ.1 q l) ∧ (∀ a, a ≠ q → σ'.1 a = σ.1 a) ∧ σ'.2 = σ.2)
      rw [e252_2]
      simp (disch := first | assumption | omega | (simp (disch := omega) only [wN, w0, w1]; omega)) only [e252_0, e252_1, e252_3, e252_4, e252_7, e252_8, e252_9, e252_10, e252_11, e252_14, e252_15, e252_16, e252_17, e252_18, e252_21, e252_22, e252_23, e252_24, e252_25, e252_28, e252_29, e252_30, e252_31, e252_32, e252_35, e252_38, kl_I, kl_R, kl_N, kl_L, oSm, oNn, Option.bind_some, wN, if_pos, if_neg, nS, tN, t0, w0, w1, w2, w3, w4, w5, wm1, upA_ne, upA_same, if_true, if_false, Bool.false_eq_true]
      exact End.of rfl ⟨rfl, hp.1, hp.2.2⟩) (fun i hi ih => by
      replace ih : ∀ (σ1 : Mem), ((∀ l, l < (i + 1) → σ1.1 q l = if σ.1 q l = (y1 : Int) then (y2 : Int) else if σ.1 q l = (y2 : Int) then (y1 : Int) else σ.1 q l) ∧ (∀ l, (i + 1) ≤ l → σ1.1 q l = σ.1 q l) ∧ (∀ a, a ≠ q → σ1.1 a = σ.1 a) ∧ σ1.2 = σ.2) → End (ev sh d 252 2 [some (mR (q)), some (mI ((y1 : Nat) : Int)), some (mI ((y2 : Nat) : Int)), some (mI (((i + 1) : Nat) : Int))] [] σ1) (fun r σ' => r = none ∧ (∀ l, l < 4 → σ'.1 q l = if σ.1 q l = (y1 : Int) then (y2 : Int) else if σ.1 q l = (y2 : Int) then (y1 : Int) else σ.1 q l) ∧ (∀ a, a ≠ q → σ'.1 a = σ.1 a) ∧ σ'.2 = σ.2) := ih
      intro σ1  hp
      replace hp : (∀ l, l < i → σ1.1 q l = if σ.1 q l = (y1 : Int) then (y2 : Int) else if σ.1 q l = (y2 : Int) then (y1 : Int) else σ.1 q l) ∧ (∀ l, i ≤ l → σ1.1 q l = σ.1 q l) ∧ (∀ a, a ≠ q → σ1.1 a = σ.1 a) ∧ σ1.2 = σ.2 := hp
      show End (ev sh d 252 2 [some (mR (q)), some (mI ((y1 : Nat) : Int)), some (mI ((y2 : Nat) : Int)), some (mI ((i : Nat) : Int))] [] σ1) (fun r σ' => r = none ∧ (∀ l, l < 4 → σ'.1 q l = if σ.1 q l = (y1 : Int) then (y2 : Int) else if σ.1 q l = (y2 : Int) then (y1 : Int) else σ.1 q l) ∧ (∀ a, a ≠ q → σ'.1 a = σ.1 a) ∧ σ'.2 = σ.2)
      obtain ⟨p1, p2, p3, p4⟩ := hp
      have g := p2 i (Nat.le_refl _)
      have gc := hc i hi
      have gw := wi_id (z := σ.1 q i) (by omega) (by omega)
      have fin : ∀ v : Int, v = (if σ.1 q i = (y1 : Int) then (y2 : Int) else if σ.1 q i = (y2 : Int) then (y1 : Int) else σ.1 q i) → End (ev sh d 252 2 [some (mR (q)), some (mI ((y1 : Nat) : Int)), some (mI ((y2 : Nat) : Int)), some (mI ((i + 1 : Nat) : Int))] [] (upA σ1.1 q (up1 (σ1.1 q) i v), σ1.2)) (fun r σ' => r = none ∧ (∀ l, l < 4 → σ'.1 q l = if σ.1 q l = (y1 : Int) then (y2 : Int) else if σ.1 q l = (y2 : Int) then (y1 : Int) else σ.1 q l) ∧ (∀ a, a ≠ q → σ'.1 a = σ.1 a) ∧ σ'.2 = σ.2) := fun v hv => by
        refine ih _ ⟨fun l hl => ?_, fun l hl => ?_, fun a ha => ?_, p4⟩
        · simp (disch := omega) only [upA_same]
          by_cases e : l = i
          · subst e; rw [up1_same]; exact hv
          · rw [up1_ne e]; exact p1 l (by omega)
        · simp (disch := omega) only [upA_same, up1_ne]
          exact p2 l (by omega)
        · simp (disch := omega) only [upA_ne]
          exact p3 a ha
      rw [e252_2]
      by_cases e1 : σ.1 q i = (y1 : Int)
      · rw [if_pos e1] at fin
        rw [e1] at g gw
        simp (disch := first | assumption | omega | (simp (disch := omega) only [wN, w0, w1]; omega)) only [e252_0, e252_1, e252_3, e252_4, e252_7, e252_8, e252_9, e252_10, e252_11, e252_14, e252_15, e252_16, e252_17, e252_18, e252_21, e252_22, e252_23, e252_24, e252_25, e252_28, e252_29, e252_30, e252_31, e252_32, e252_35, e252_38, kl_I, kl_R, kl_N, kl_L, oSm, oNn, Option.bind_some, wN, if_pos, if_neg, nS, tN, t0, w0, w1, w2, w3, w4, w5, wm1, upA_ne, upA_same, if_true, if_false, Bool.false_eq_true, hl, g, gw]
        exact fin _ rfl
      · rw [if_neg e1] at fin
        by_cases e2 : σ.1 q i = (y2 : Int)
        · rw [if_pos e2] at fin
          rw [e2] at g gw e1
          simp (disch := first | assumption | omega | (simp (disch := omega) only [wN, w0, w1]; omega)) only [e252_0, e252_1, e252_3, e252_4, e252_7, e252_8, e252_9, e252_10, e252_11, e252_14, e252_15, e252_16, e252_17, e252_18, e252_21, e252_22, e252_23, e252_24, e252_25, e252_28, e252_29, e252_30, e252_31, e252_32, e252_35, e252_38, kl_I, kl_R, kl_N, kl_L, oSm, oNn, Option.bind_some, wN, if_pos, if_neg, nS, tN, t0, w0, w1, w2, w3, w4, w5, wm1, upA_ne, upA_same, if_true, if_false, Bool.false_eq_true, hl, g, gw]
          exact fin _ rfl
        · rw [if_neg e2] at fin
          simp (disch := first | assumption | omega | (simp (disch := omega) only [wN, w0, w1]; omega)) only [e252_0, e252_1, e252_3, e252_4, e252_7, e252_8, e252_9, e252_10, e252_11, e252_14, e252_15, e252_16, e252_17, e252_18, e252_21, e252_22, e252_23, e252_24, e252_25, e252_28, e252_29, e252_30, e252_31, e252_32, e252_35, e252_38, kl_I, kl_R, kl_N, kl_L, oSm, oNn, Option.bind_some, wN, if_pos, if_neg, nS, tN, t0, w0, w1, w2, w3, w4, w5, wm1, upA_ne, upA_same, if_true, if_false, Bool.false_eq_true, hl, g, gw]
          refine ih _ ⟨fun l hl => ?_, fun l hl => p2 l (by omega), p3, p4⟩
          by_cases e : l = i
          · subst e; rw [if_neg e1, if_neg e2]; exact g
          · exact p1 l (by omega)) 0 (Nat.zero_le _)
    simp (disch := first | assumption | omega | (simp (disch := omega) only [wN, w0, w1]; omega)) only [e252_0, e252_1, e252_3, e252_4, e252_7, e252_8, e252_9, e252_10, e252_11, e252_14, e252_15, e252_16, e252_17, e252_18, e252_21, e252_22, e252_23, e252_24, e252_25, e252_28, e252_29, e252_30, e252_31, e252_32, e252_35, e252_38, kl_I, kl_R, kl_N, kl_L, oSm, oNn, Option.bind_some, wN, if_pos, if_neg, nS, tN, t0, w0, w1, w2, w3, w4, w5, wm1, upA_ne, upA_same, if_true, if_false, Bool.false_eq_true, q252]
    exact L σ ⟨fun l hl => by omega, fun _ _ => rfl, fun _ _ => rfl, rfl⟩
  obtain ⟨r, σ', e1, rfl, e2⟩ := K
  exact ⟨σ', e1, e2⟩
theorem M253 {S : Nat} {Q : Nat → Nat} (hM : MS sh) (hR : RC σ n m c E A) (hc : c.length ≤ 30) (hv : okC n c) (hn : n ≤ 4) (hm : m ≤ 5) (hL : HLm σ 148 n Q) (hQ : okP n m Q) (hS : S < 2 ^ c.length) (h2 : ∀ g, g < c.length → S.testBit g = true → 3 ≤ (gA c g).1) : run sh (d + 2) 253 [mR 124, mI (S : Int)] σ = some (some (mI (faS (farE E) c Q S c.length : Int)), σ) := by
  have mo := hM.1
  have m160 := hM.2.1
  obtain ⟨ra1, rk1, rl1⟩ := ms1 hM
  obtain ⟨ra42, rk42, rl42⟩ := ms42 hM
  have hl := hR.1.1
  have hla : laI sh 148 := ⟨rk42, rl42⟩
  have bd := faS_le (F := farE E) (S := S) (fun p _ q _ => farE_le E p q) hQ hm hv h2
  have F := for_up (fun i => ev sh (d + 2) 253 4 [some (mR (124)), some (mI ((S : Nat) : Int)), some (mI ((faS (farE E) c Q S i : Nat) : Int)), some (mI ((i : Nat) : Int))] [] (σ)) (c.length) (fun i hi => by
    show ev sh (d + 2) 253 4 [some (mR (124)), some (mI ((S : Nat) : Int)), some (mI ((faS (farE E) c Q S i : Nat) : Int)), some (mI ((i : Nat) : Int))] [] (σ) = ev sh (d + 2) 253 4 [some (mR (124)), some (mI ((S : Nat) : Int)), some (mI ((faS (farE E) c Q S (i + 1) : Nat) : Int)), some (mI (((i + 1) : Nat) : Int))] [] (σ)
    have hb := E167 (sh := sh) (d := d + 1) (σ := σ) (b := S) (k := i) (by have := D30 hS hc; omega) (by omega)
    have b := bd i (by omega)
    rw [e253_4, faS]
    by_cases e : S.testBit i = true
    · rw [e] at hb
      replace hb : run sh (d + 1) 167 [mI (S : Int), mI (i : Int)] σ = some (some (mI 1), σ) := hb
      have a7 := M237 (d := d) hM hR.1 hc hv hR.2.1 hm hla hL hQ hn hi (h2 i hi e)
      rw [if_pos e]
      simp (disch := first | assumption | omega | (simp (disch := omega) only [wN, w0, w1]; omega)) only [e253_0, e253_1, e253_2, e253_3, e253_5, e253_6, e253_9, e253_10, e253_11, e253_14, e253_15, e253_16, e253_19, e253_22, e253_23, e253_24, e253_25, e253_26, e253_29, e253_32, e253_33, e253_34, e253_37, e253_40, e253_41, kl_I, kl_R, kl_N, kl_L, oSm, oNn, Option.bind_some, wN, if_pos, if_neg, nS, tN, t0, w0, w1, w2, w3, w4, w5, wm1, upA_ne, upA_same, if_true, if_false, Bool.false_eq_true, ra1, rl1, hl, hb, ra42, rl42, a7, ← Int.natCast_add]
    · have e' : S.testBit i = false := by simpa using e
      rw [e'] at hb
      replace hb : run sh (d + 1) 167 [mI (S : Int), mI (i : Int)] σ = some (some (mI 0), σ) := hb
      rw [if_neg e]
      simp (disch := first | assumption | omega | (simp (disch := omega) only [wN, w0, w1]; omega)) only [e253_0, e253_1, e253_2, e253_3, e253_5, e253_6, e253_9, e253_10, e253_11, e253_14, e253_15, e253_16, e253_19, e253_22, e253_23, e253_24, e253_25, e253_26, e253_29, e253_32, e253_33, e253_34, e253_37, e253_40, e253_41, kl_I, kl_R, kl_N, kl_L, oSm, oNn, Option.bind_some, wN, if_pos, if_neg, nS, tN, t0, w0, w1, w2, w3, w4, w5, wm1, upA_ne, upA_same, if_true, if_false, Bool.false_eq_true, ra1, rl1, hl, hb, Nat.add_zero]) 0 (Nat.zero_le _)
  simp (disch := first | assumption | omega | (simp (disch := omega) only [wN, w0, w1]; omega)) only [e253_0, e253_1, e253_2, e253_3, e253_5, e253_6, e253_9, e253_10, e253_11, e253_14, e253_15, e253_16, e253_19, e253_22, e253_23, e253_24, e253_25, e253_26, e253_29, e253_32, e253_33, e253_34, e253_37, e253_40, e253_41, kl_I, kl_R, kl_N, kl_L, oSm, oNn, Option.bind_some, wN, if_pos, if_neg, nS, tN, t0, w0, w1, w2, w3, w4, w5, wm1, upA_ne, upA_same, if_true, if_false, Bool.false_eq_true, q253]
  refine F.trans ?_
  show ev sh (d + 2) 253 4 [some (mR (124)), some (mI ((S : Nat) : Int)), some (mI ((faS (farE E) c Q S c.length : Nat) : Int)), some (mI ((c.length : Nat) : Int))] [] σ = _
  rw [e253_4]
  simp (disch := first | assumption | omega | (simp (disch := omega) only [wN, w0, w1]; omega)) only [e253_0, e253_1, e253_2, e253_3, e253_5, e253_6, e253_9, e253_10, e253_11, e253_14, e253_15, e253_16, e253_19, e253_22, e253_23, e253_24, e253_25, e253_26, e253_29, e253_32, e253_33, e253_34, e253_37, e253_40, e253_41, kl_I, kl_R, kl_N, kl_L, oSm, oNn, Option.bind_some, wN, if_pos, if_neg, nS, tN, t0, w0, w1, w2, w3, w4, w5, wm1, upA_ne, upA_same, if_true, if_false, Bool.false_eq_true, ra1, rl1, hl]
theorem M254 {S p : Nat} (hM : MS sh) (hR : RC σ n m c E A) (hc : c.length ≤ 30) (hv : okC n c) (hn : n ≤ 4) (hm : m ≤ 5) (hL : HLm σ 147 n P) (hP : okP n m P) (hF : σ.1 124 49 = (S : Int)) (hS : S < 2 ^ c.length) (h2 : ∀ g, g < c.length → S.testBit g = true → 3 ≤ (gA c g).1) (hp5 : p < 5) : run sh (d + 1) 254 [mR 124, mI (p : Int)] σ = some (some (mI (bi ((plS c P S c.length).testBit p))), σ) := by
  have mo := hM.1
  have m160 := hM.2.1
  obtain ⟨ra1, rk1, rl1⟩ := ms1 hM
  obtain ⟨ra41, rk41, rl41⟩ := ms41 hM
  have hl := hR.1.1
  have key := pl_bit (c := c) (P := P) (S := S) (p := p) c.length
  have stp : ∀ g, g < c.length → S.testBit g = true → ∃ y : Nat, (gA c g).2.2 = (y : Int) ∧ y < n ∧ (gA c g).2.1 < n ∧ ¬ (gA c g).1 < 3 := fun g hg h => by
    obtain ⟨u1, u2, u3, u4, u5⟩ := hv.at hg
    have h3 := h2 g hg h
    have := u5 h3
    exact ⟨(gA c g).2.2.toNat, by omega, by omega, u2, by omega⟩
  by_cases q : (plS c P S c.length).testBit p = true
  · obtain ⟨g0, ex⟩ := key.mp q
    -- the first such gate
    have hf : ∃ g, g < c.length ∧ (S.testBit g = true ∧ (P (gA c g).2.1 = p ∨ P (gA c g).2.2.toNat = p)) ∧ ∀ y, y < g → ¬ (S.testBit y = true ∧ (P (gA c y).2.1 = p ∨ P (gA c y).2.2.toNat = p)) := by
      have : ∀ g, g < c.length → (S.testBit g = true ∧ (P (gA c g).2.1 = p ∨ P (gA c g).2.2.toNat = p)) → ∃ g, g < c.length ∧ (S.testBit g = true ∧ (P (gA c g).2.1 = p ∨ P (gA c g).2.2.toNat = p)) ∧ ∀ y, y < g → ¬ (S.testBit y = true ∧ (P (gA c y).2.1 = p ∨ P (gA c y).2.2.toNat = p)) := by
        intro g
        induction g using Nat.strongRecOn with
        | ind g ih =>
          intro h1 h2
          by_cases e : ∃ y, y < g ∧ (S.testBit y = true ∧ (P (gA c y).2.1 = p ∨ P (gA c y).2.2.toNat = p))
          · obtain ⟨y, hy, hh⟩ := e
            exact ih y hy (by omega) hh
          · exact ⟨g, h1, h2, fun y hy hh => e ⟨y, hy, hh⟩⟩
      exact this g0 ex.1 ⟨ex.2.1, ex.2.2⟩
    obtain ⟨g, hg, hh, hno⟩ := hf
    have F := for_up (fun i => ev sh (d + 1) 254 2 [some (mR (124)), some (mI ((p : Nat) : Int)), some (mI ((i : Nat) : Int))] [] (σ)) (g) (fun i hi => by
      show ev sh (d + 1) 254 2 [some (mR (124)), some (mI ((p : Nat) : Int)), some (mI ((i : Nat) : Int))] [] (σ) = ev sh (d + 1) 254 2 [some (mR (124)), some (mI ((p : Nat) : Int)), some (mI (((i + 1) : Nat) : Int))] [] (σ)
      have hb := E167 (sh := sh) (d := d) (σ := σ) (b := S) (k := i) (by have := D30 hS hc; omega) (by omega)
      have hn0 := hno i hi
      rw [e254_2]
      by_cases e : S.testBit i = true
      · rw [e] at hb
        replace hb : run sh d 167 [mI (S : Int), mI (i : Int)] σ = some (some (mI 1), σ) := hb
        obtain ⟨y, hy, y1, y2, y3⟩ := stp i (by omega) e
        have o1 := of1 (d := d) (z := 0) hM hR.1 (by omega) hc (by omega : i < c.length) rfl
        have o2 := of2 (d := d) (z := 0) hM hR.1 (by omega) hc (by omega : i < c.length) rfl
        rw [rb, if_neg y3, hy] at o2
        rw [hy, Int.toNat_natCast] at hn0
        have t1 := hL _ y2
        have t2 := hL _ y1
        have l1 := hP.1 _ y2
        have l2 := hP.1 _ y1
        have x1 : ¬ P (gA c i).2.1 = p := fun q => hn0 ⟨e, Or.inl q⟩
        have x2 : ¬ P y = p := fun q => hn0 ⟨e, Or.inr q⟩
        simp (disch := first | assumption | omega | (simp (disch := omega) only [wN, w0, w1]; omega)) only [e254_0, e254_1, e254_3, e254_4, e254_7, e254_8, e254_9, e254_12, e254_13, e254_16, e254_17, e254_20, e254_23, e254_24, e254_27, e254_28, e254_29, e254_30, e254_31, e254_34, e254_35, e254_36, e254_39, e254_40, e254_43, e254_44, e254_45, e254_46, e254_47, e254_50, e254_51, e254_52, e254_55, e254_56, e254_57, e254_60, e254_63, e254_64, kl_I, kl_R, kl_N, kl_L, oSm, oNn, Option.bind_some, wN, if_pos, if_neg, nS, tN, t0, w0, w1, w2, w3, w4, w5, wm1, upA_ne, upA_same, if_true, if_false, Bool.false_eq_true, ra1, rl1, hl, hF, hb, ra41, rl41, o1, o2, t1, t2]
      · have e' : S.testBit i = false := by simpa using e
        rw [e'] at hb
        replace hb : run sh d 167 [mI (S : Int), mI (i : Int)] σ = some (some (mI 0), σ) := hb
        simp (disch := first | assumption | omega | (simp (disch := omega) only [wN, w0, w1]; omega)) only [e254_0, e254_1, e254_3, e254_4, e254_7, e254_8, e254_9, e254_12, e254_13, e254_16, e254_17, e254_20, e254_23, e254_24, e254_27, e254_28, e254_29, e254_30, e254_31, e254_34, e254_35, e254_36, e254_39, e254_40, e254_43, e254_44, e254_45, e254_46, e254_47, e254_50, e254_51, e254_52, e254_55, e254_56, e254_57, e254_60, e254_63, e254_64, kl_I, kl_R, kl_N, kl_L, oSm, oNn, Option.bind_some, wN, if_pos, if_neg, nS, tN, t0, w0, w1, w2, w3, w4, w5, wm1, upA_ne, upA_same, if_true, if_false, Bool.false_eq_true, ra1, rl1, hl, hF, hb]) 0 (Nat.zero_le _)
    have hb := E167 (sh := sh) (d := d) (σ := σ) (b := S) (k := g) (by have := D30 hS hc; omega) (by omega)
    rw [hh.1] at hb
    replace hb : run sh d 167 [mI (S : Int), mI (g : Int)] σ = some (some (mI 1), σ) := hb
    obtain ⟨y, hy, y1, y2, y3⟩ := stp g hg hh.1
    have o1 := of1 (d := d) (z := 0) hM hR.1 (by omega) hc hg rfl
    have o2 := of2 (d := d) (z := 0) hM hR.1 (by omega) hc hg rfl
    rw [rb, if_neg y3, hy] at o2
    have hh2 := hh.2
    rw [hy, Int.toNat_natCast] at hh2
    have t1 := hL _ y2
    have t2 := hL _ y1
    have l1 := hP.1 _ y2
    have l2 := hP.1 _ y1
    rw [q]
    simp (disch := first | assumption | omega | (simp (disch := omega) only [wN, w0, w1]; omega)) only [e254_0, e254_1, e254_3, e254_4, e254_7, e254_8, e254_9, e254_12, e254_13, e254_16, e254_17, e254_20, e254_23, e254_24, e254_27, e254_28, e254_29, e254_30, e254_31, e254_34, e254_35, e254_36, e254_39, e254_40, e254_43, e254_44, e254_45, e254_46, e254_47, e254_50, e254_51, e254_52, e254_55, e254_56, e254_57, e254_60, e254_63, e254_64, kl_I, kl_R, kl_N, kl_L, oSm, oNn, Option.bind_some, wN, if_pos, if_neg, nS, tN, t0, w0, w1, w2, w3, w4, w5, wm1, upA_ne, upA_same, if_true, if_false, Bool.false_eq_true, q254]
    refine F.trans ?_
    rw [e254_2]
    by_cases x1 : P (gA c g).2.1 = p
    · rw [x1] at t1
      simp (disch := first | assumption | omega | (simp (disch := omega) only [wN, w0, w1]; omega)) only [e254_0, e254_1, e254_3, e254_4, e254_7, e254_8, e254_9, e254_12, e254_13, e254_16, e254_17, e254_20, e254_23, e254_24, e254_27, e254_28, e254_29, e254_30, e254_31, e254_34, e254_35, e254_36, e254_39, e254_40, e254_43, e254_44, e254_45, e254_46, e254_47, e254_50, e254_51, e254_52, e254_55, e254_56, e254_57, e254_60, e254_63, e254_64, kl_I, kl_R, kl_N, kl_L, oSm, oNn, Option.bind_some, wN, if_pos, if_neg, nS, tN, t0, w0, w1, w2, w3, w4, w5, wm1, upA_ne, upA_same, if_true, if_false, Bool.false_eq_true, ra1, rl1, hl, hF, hb, ra41, rl41, o1, o2, t1]
      rfl
    · have x2 := hh2.resolve_left x1
      rw [x2] at t2
      simp (disch := first | assumption | omega | (simp (disch := omega) only [wN, w0, w1]; omega)) only [e254_0, e254_1, e254_3, e254_4, e254_7, e254_8, e254_9, e254_12, e254_13, e254_16, e254_17, e254_20, e254_23, e254_24, e254_27, e254_28, e254_29, e254_30, e254_31, e254_34, e254_35, e254_36, e254_39, e254_40, e254_43, e254_44, e254_45, e254_46, e254_47, e254_50, e254_51, e254_52, e254_55, e254_56, e254_57, e254_60, e254_63, e254_64, kl_I, kl_R, kl_N, kl_L, oSm, oNn, Option.bind_some, wN, if_pos, if_neg, nS, tN, t0, w0, w1, w2, w3, w4, w5, wm1, upA_ne, upA_same, if_true, if_false, Bool.false_eq_true, ra1, rl1, hl, hF, hb, ra41, rl41, o1, o2, t1, t2]
      rfl
  · have q' : (plS c P S c.length).testBit p = false := by simpa using q
    have hno : ∀ y, y < c.length → ¬ (S.testBit y = true ∧ (P (gA c y).2.1 = p ∨ P (gA c y).2.2.toNat = p)) := fun y hy hh => q (key.mpr ⟨y, hy, hh.1, hh.2⟩)
    rw [q']
    have F := for_up (fun i => ev sh (d + 1) 254 2 [some (mR (124)), some (mI ((p : Nat) : Int)), some (mI ((i : Nat) : Int))] [] (σ)) (c.length) (fun i hi => by
      show ev sh (d + 1) 254 2 [some (mR (124)), some (mI ((p : Nat) : Int)), some (mI ((i : Nat) : Int))] [] (σ) = ev sh (d + 1) 254 2 [some (mR (124)), some (mI ((p : Nat) : Int)), some (mI (((i + 1) : Nat) : Int))] [] (σ)
      have hb := E167 (sh := sh) (d := d) (σ := σ) (b := S) (k := i) (by have := D30 hS hc; omega) (by omega)
      have hn0 := hno i hi
      rw [e254_2]
      by_cases e : S.testBit i = true
      · rw [e] at hb
        replace hb : run sh d 167 [mI (S : Int), mI (i : Int)] σ = some (some (mI 1), σ) := hb
        obtain ⟨y, hy, y1, y2, y3⟩ := stp i (by omega) e
        have o1 := of1 (d := d) (z := 0) hM hR.1 (by omega) hc (by omega : i < c.length) rfl
        have o2 := of2 (d := d) (z := 0) hM hR.1 (by omega) hc (by omega : i < c.length) rfl
        rw [rb, if_neg y3, hy] at o2
        rw [hy, Int.toNat_natCast] at hn0
        have t1 := hL _ y2
        have t2 := hL _ y1
        have l1 := hP.1 _ y2
        have l2 := hP.1 _ y1
        have x1 : ¬ P (gA c i).2.1 = p := fun q => hn0 ⟨e, Or.inl q⟩
        have x2 : ¬ P y = p := fun q => hn0 ⟨e, Or.inr q⟩
        simp (disch := first | assumption | omega | (simp (disch := omega) only [wN, w0, w1]; omega)) only [e254_0, e254_1, e254_3, e254_4, e254_7, e254_8, e254_9, e254_12, e254_13, e254_16, e254_17, e254_20, e254_23, e254_24, e254_27, e254_28, e254_29, e254_30, e254_31, e254_34, e254_35, e254_36, e254_39, e254_40, e254_43, e254_44, e254_45, e254_46, e254_47, e254_50, e254_51, e254_52, e254_55, e254_56, e254_57, e254_60, e254_63, e254_64, kl_I, kl_R, kl_N, kl_L, oSm, oNn, Option.bind_some, wN, if_pos, if_neg, nS, tN, t0, w0, w1, w2, w3, w4, w5, wm1, upA_ne, upA_same, if_true, if_false, Bool.false_eq_true, ra1, rl1, hl, hF, hb, ra41, rl41, o1, o2, t1, t2]
      · have e' : S.testBit i = false := by simpa using e
        rw [e'] at hb
        replace hb : run sh d 167 [mI (S : Int), mI (i : Int)] σ = some (some (mI 0), σ) := hb
        simp (disch := first | assumption | omega | (simp (disch := omega) only [wN, w0, w1]; omega)) only [e254_0, e254_1, e254_3, e254_4, e254_7, e254_8, e254_9, e254_12, e254_13, e254_16, e254_17, e254_20, e254_23, e254_24, e254_27, e254_28, e254_29, e254_30, e254_31, e254_34, e254_35, e254_36, e254_39, e254_40, e254_43, e254_44, e254_45, e254_46, e254_47, e254_50, e254_51, e254_52, e254_55, e254_56, e254_57, e254_60, e254_63, e254_64, kl_I, kl_R, kl_N, kl_L, oSm, oNn, Option.bind_some, wN, if_pos, if_neg, nS, tN, t0, w0, w1, w2, w3, w4, w5, wm1, upA_ne, upA_same, if_true, if_false, Bool.false_eq_true, ra1, rl1, hl, hF, hb]) 0 (Nat.zero_le _)
    simp (disch := first | assumption | omega | (simp (disch := omega) only [wN, w0, w1]; omega)) only [e254_0, e254_1, e254_3, e254_4, e254_7, e254_8, e254_9, e254_12, e254_13, e254_16, e254_17, e254_20, e254_23, e254_24, e254_27, e254_28, e254_29, e254_30, e254_31, e254_34, e254_35, e254_36, e254_39, e254_40, e254_43, e254_44, e254_45, e254_46, e254_47, e254_50, e254_51, e254_52, e254_55, e254_56, e254_57, e254_60, e254_63, e254_64, kl_I, kl_R, kl_N, kl_L, oSm, oNn, Option.bind_some, wN, if_pos, if_neg, nS, tN, t0, w0, w1, w2, w3, w4, w5, wm1, upA_ne, upA_same, if_true, if_false, Bool.false_eq_true, q254]
    refine F.trans ?_
    rw [e254_2]
    simp (disch := first | assumption | omega | (simp (disch := omega) only [wN, w0, w1]; omega)) only [e254_0, e254_1, e254_3, e254_4, e254_7, e254_8, e254_9, e254_12, e254_13, e254_16, e254_17, e254_20, e254_23, e254_24, e254_27, e254_28, e254_29, e254_30, e254_31, e254_34, e254_35, e254_36, e254_39, e254_40, e254_43, e254_44, e254_45, e254_46, e254_47, e254_50, e254_51, e254_52, e254_55, e254_56, e254_57, e254_60, e254_63, e254_64, kl_I, kl_R, kl_N, kl_L, oSm, oNn, Option.bind_some, wN, if_pos, if_neg, nS, tN, t0, w0, w1, w2, w3, w4, w5, wm1, upA_ne, upA_same, if_true, if_false, Bool.false_eq_true, ra1, rl1, hl]
    rfl
end NQ

