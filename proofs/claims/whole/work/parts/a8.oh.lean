/-! ===== the reference: isEnough ===== -/
/-- from edge e on, a swap by which all can be done -/
def exC (F : Nat → Nat → Nat) (n : Nat) (c : List Gt) (E : List Ed) (A : Nat → Nat) (l : Nat) (P : Nat → Nat) (D : Nat) (last : Int) (e : Nat) : Bool := decide ((e : Int) = last) || nlB n P (eA E e) || !pB F n c E A l (swP (eA E e).1 (eA E e).2 P) (daD F c A (swP (eA E e).1 (eA E e).2 P) D c.length) (lsI D (daD F c A (swP (eA E e).1 (eA E e).2 P) D c.length) e)
/-- a floor goes on from edge e -/
def pBe (F : Nat → Nat → Nat) (n : Nat) (c : List Gt) (E : List Ed) (A : Nat → Nat) : Nat → (Nat → Nat) → Nat → Int → Nat → Bool
  | 0, _, D, _, _ => decide (D = 2 ^ c.length - 1)
  | l + 1, P, D, last, e => decide (D = 2 ^ c.length - 1) || (!tfB F c P D (l + 1) && !fa (exC F n c E A l P D last) (E.length - e) e)
theorem pBe_0 {F : Nat → Nat → Nat} {n : Nat} {c : List Gt} {E : List Ed} {A : Nat → Nat} {l : Nat} {P : Nat → Nat} {D : Nat} {last : Int} : pBe F n c E A l P D last 0 = pB F n c E A l P D last := by
  cases l <;> rfl
section OH
variable {sh : Shp} {d m n g f : Nat} {σ : Mem} {E : List Ed} {a : AX} {z w : Int} {c : List Gt} {P A : Nat → Nat} {b : Bool} {x : Nat × (Nat → Nat) × List Sp} {D l : Nat}
/-- where a floor stands -/
def FLe (σ : Mem) (f n : Nat) (P : Nat → Nat) (D : Nat) (last : Int) (e : Nat) : Prop := FLo σ f n P D ∧ σ.1 153 f = (e : Int) ∧ (0 < f → σ.1 155 f = last)
theorem FLe.lw {g : Nat} {σ σ' : Mem} {last : Int} {e : Nat} (h : FLe σ f n P D last e) (hl : lwF g σ σ') (hf : f < g) : FLe σ' f n P D last e := by
  obtain ⟨a1, _, a3, _⟩ := hl f hf
  exact ⟨h.1.lw hl hf, by rw [a1]; exact h.2.1, fun q => by rw [a3]; exact h.2.2 q⟩
theorem pc_full (hD : D < 2 ^ c.length) (hc : c.length ≤ 30) (h : D = 2 ^ c.length - 1) : pcD D 30 = c.length := by
  have a : ¬ pcD D 30 < c.length := fun q => ((pc_all hD hc).mp q) h
  have b := pcD_30 hD (30 - c.length)
  rw [show c.length + (30 - c.length) = 30 by omega] at b
  have := pcD_le D c.length
  omega
theorem M267l (hM : MS sh) (hc : c.length ≤ 30) (hv : okC n c) (hn : n ≤ 4) (hm : m ≤ 5) (hvE : okE m E) (h10 : E.length ≤ 10) (M : Nat) (hmo : M ≤ 6) : ∀ (l f : Nat), f + l = M → ∀ (k e : Nat), e + k = E.length → ∀ (σ : Mem) (P : Nat → Nat) (D : Nat) (last : Int) (v3 : Option MV), RC σ n m c E A → FLe σ f n P D last e → okP n m P → D < 2 ^ c.length → (f = 0 → last = -1) → -1 ≤ last ∧ last < 10 →
    ∃ σ' v', frN σ σ' ∧ lwF f σ σ' ∧ ev sh (d + 5) 267 9 [some (mR (124)), some (mI ((M : Nat) : Int)), some (mI ((f : Nat) : Int)), v3] [] σ = if pBe (farE E) n c E A l P D last e = true then some (some (mI 1), σ') else ev sh (d + 5) 267 9 [some (mR (124)), some (mI ((M : Nat) : Int)), some (mI ((f : Int) - 1)), v'] [] σ' := by
  have mo := hM.1
  have m160 := hM.2.1
  obtain ⟨ra1, rk1, rl1⟩ := ms1 hM
  obtain ⟨ra2, rk2, rl2⟩ := ms2 hM
  obtain ⟨ra3, rk3, rl3⟩ := ms3 hM
  obtain ⟨ra41, rk41, rl41⟩ := ms41 hM
  obtain ⟨ra52, rk52, rl52⟩ := ms52 hM
  obtain ⟨ra53, rk53, rl53⟩ := ms53 hM
  obtain ⟨ra54, rk54, rl54⟩ := ms54 hM
  intro l
  induction l with
  | zero =>
    intro f hf k e he σ P D last v3 hR hF hP hD hf0 hlr
    obtain ⟨r, σ1, a1, rfl, aV, af⟩ := M264 (d := d + 4) hM hF.1 (by omega) hn
    have hR1 := hR.W af (by omega) (by omega)
    have hl := hR1.1.1
    have k48 : σ1.1 124 48 = (D : Int) := aV.2.2.1
    have s8 := E168 (sh := sh) (d := d + 4) (σ := σ1) (b := D) (D30 hD hc)
    have pa := pc_all hD hc
    have p3 := pcD_le D 30
    have hEl := hR1.2.2.2.2.1
    have k153 : σ1.1 153 f = (e : Int) := by rw [(af.1 153 (by omega) (by omega)).1]; exact hF.2.1
    have hfr : frN σ σ1 := af.N (by omega) (by omega) (by omega) (by omega) (by omega)
    have hlw : lwF f σ σ1 := lwF.W af (by omega)
    refine ⟨σ1, v3, hfr, hlw, ?_⟩
    rw [pBe, e267_9]
    by_cases hfull : D = 2 ^ c.length - 1
    · have p2 := pc_full hD hc hfull
      rw [if_pos (decide_eq_true hfull)]
      rw [p2] at s8
      simp (disch := first | assumption | omega | (simp (disch := omega) only [wN, w0, w1]; omega)) only [e267_0, e267_1, e267_2, e267_3, e267_6, e267_7, e267_8, e267_10, e267_13, e267_14, e267_15, e267_18, e267_19, e267_22, e267_25, e267_26, e267_29, e267_30, e267_31, e267_34, e267_35, e267_36, e267_37, e267_40, e267_41, e267_42, e267_43, e267_46, e267_49, e267_50, e267_51, e267_52, e267_53, e267_56, e267_59, e267_60, e267_61, e267_64, e267_65, e267_66, e267_67, e267_68, e267_71, e267_72, e267_75, e267_76, e267_77, e267_78, e267_79, e267_82, e267_83, e267_84, e267_85, e267_86, e267_87, e267_88, e267_89, e267_90, e267_93, e267_96, e267_99, e267_100, e267_103, e267_104, e267_107, e267_108, e267_109, e267_110, e267_113, e267_114, e267_115, e267_118, e267_119, e267_122, e267_123, e267_124, e267_125, e267_126, e267_127, e267_128, e267_131, e267_132, e267_135, e267_136, e267_137, e267_140, e267_141, e267_144, e267_145, e267_146, e267_147, e267_148, e267_151, e267_152, e267_155, e267_156, e267_157, e267_160, e267_161, kl_I, kl_R, kl_N, kl_L, oSm, oNn, Option.bind_some, wN, if_pos, if_neg, nS, tN, t0, w0, w1, w2, w3, w4, w5, wm1, upA_ne, upA_same, if_true, if_false, Bool.false_eq_true, a1, k48, s8, ra1, rl1, hl]
    · have p2 : pcD D 30 < c.length := pa.mpr hfull
      rw [if_neg (by simp [hfull])]
      have q1 : (M : Int) - (f : Int) = 0 := by omega
      have q2 : f = M := by omega
      by_cases he2 : e = E.length
      · simp (disch := first | assumption | omega | (simp (disch := omega) only [wN, w0, w1]; omega)) only [e267_0, e267_1, e267_2, e267_3, e267_6, e267_7, e267_8, e267_10, e267_13, e267_14, e267_15, e267_18, e267_19, e267_22, e267_25, e267_26, e267_29, e267_30, e267_31, e267_34, e267_35, e267_36, e267_37, e267_40, e267_41, e267_42, e267_43, e267_46, e267_49, e267_50, e267_51, e267_52, e267_53, e267_56, e267_59, e267_60, e267_61, e267_64, e267_65, e267_66, e267_67, e267_68, e267_71, e267_72, e267_75, e267_76, e267_77, e267_78, e267_79, e267_82, e267_83, e267_84, e267_85, e267_86, e267_87, e267_88, e267_89, e267_90, e267_93, e267_96, e267_99, e267_100, e267_103, e267_104, e267_107, e267_108, e267_109, e267_110, e267_113, e267_114, e267_115, e267_118, e267_119, e267_122, e267_123, e267_124, e267_125, e267_126, e267_127, e267_128, e267_131, e267_132, e267_135, e267_136, e267_137, e267_140, e267_141, e267_144, e267_145, e267_146, e267_147, e267_148, e267_151, e267_152, e267_155, e267_156, e267_157, e267_160, e267_161, kl_I, kl_R, kl_N, kl_L, oSm, oNn, Option.bind_some, wN, if_pos, if_neg, nS, tN, t0, w0, w1, w2, w3, w4, w5, wm1, upA_ne, upA_same, if_true, if_false, Bool.false_eq_true, a1, k48, s8, ra1, rl1, hl, ra52, rl52, k153, hEl]
      · have t1 := M263 (d := d + 2) (l := 0) hM hR1 hc hv hn hm aV.1 hP k48 hD (by omega)
        generalize tfB (farE E) c P D 0 = tf at *
        cases tf with
        | true =>
          replace t1 : run sh (d + 4) 263 [mR 124, mI 0] σ1 = some (some (mI 1), σ1) := t1
          simp (disch := first | assumption | omega | (simp (disch := omega) only [wN, w0, w1]; omega)) only [e267_0, e267_1, e267_2, e267_3, e267_6, e267_7, e267_8, e267_10, e267_13, e267_14, e267_15, e267_18, e267_19, e267_22, e267_25, e267_26, e267_29, e267_30, e267_31, e267_34, e267_35, e267_36, e267_37, e267_40, e267_41, e267_42, e267_43, e267_46, e267_49, e267_50, e267_51, e267_52, e267_53, e267_56, e267_59, e267_60, e267_61, e267_64, e267_65, e267_66, e267_67, e267_68, e267_71, e267_72, e267_75, e267_76, e267_77, e267_78, e267_79, e267_82, e267_83, e267_84, e267_85, e267_86, e267_87, e267_88, e267_89, e267_90, e267_93, e267_96, e267_99, e267_100, e267_103, e267_104, e267_107, e267_108, e267_109, e267_110, e267_113, e267_114, e267_115, e267_118, e267_119, e267_122, e267_123, e267_124, e267_125, e267_126, e267_127, e267_128, e267_131, e267_132, e267_135, e267_136, e267_137, e267_140, e267_141, e267_144, e267_145, e267_146, e267_147, e267_148, e267_151, e267_152, e267_155, e267_156, e267_157, e267_160, e267_161, kl_I, kl_R, kl_N, kl_L, oSm, oNn, Option.bind_some, wN, if_pos, if_neg, nS, tN, t0, w0, w1, w2, w3, w4, w5, wm1, upA_ne, upA_same, if_true, if_false, Bool.false_eq_true, a1, k48, s8, ra1, rl1, hl, ra52, rl52, k153, hEl, q1, t1]
        | false =>
          replace t1 : run sh (d + 4) 263 [mR 124, mI 0] σ1 = some (some (mI 0), σ1) := t1
          simp (disch := first | assumption | omega | (simp (disch := omega) only [wN, w0, w1]; omega)) only [e267_0, e267_1, e267_2, e267_3, e267_6, e267_7, e267_8, e267_10, e267_13, e267_14, e267_15, e267_18, e267_19, e267_22, e267_25, e267_26, e267_29, e267_30, e267_31, e267_34, e267_35, e267_36, e267_37, e267_40, e267_41, e267_42, e267_43, e267_46, e267_49, e267_50, e267_51, e267_52, e267_53, e267_56, e267_59, e267_60, e267_61, e267_64, e267_65, e267_66, e267_67, e267_68, e267_71, e267_72, e267_75, e267_76, e267_77, e267_78, e267_79, e267_82, e267_83, e267_84, e267_85, e267_86, e267_87, e267_88, e267_89, e267_90, e267_93, e267_96, e267_99, e267_100, e267_103, e267_104, e267_107, e267_108, e267_109, e267_110, e267_113, e267_114, e267_115, e267_118, e267_119, e267_122, e267_123, e267_124, e267_125, e267_126, e267_127, e267_128, e267_131, e267_132, e267_135, e267_136, e267_137, e267_140, e267_141, e267_144, e267_145, e267_146, e267_147, e267_148, e267_151, e267_152, e267_155, e267_156, e267_157, e267_160, e267_161, kl_I, kl_R, kl_N, kl_L, oSm, oNn, Option.bind_some, wN, if_pos, if_neg, nS, tN, t0, w0, w1, w2, w3, w4, w5, wm1, upA_ne, upA_same, if_true, if_false, Bool.false_eq_true, a1, k48, s8, ra1, rl1, hl, ra52, rl52, k153, hEl, q1, t1]
  | succ l ih =>
    intro f hf k
    induction k with
    | zero =>
      intro e he σ P D last v3 hR hF hP hD hf0 hlr
      obtain ⟨r, σ1, a1, rfl, aV, af⟩ := M264 (d := d + 4) hM hF.1 (by omega) hn
      have hR1 := hR.W af (by omega) (by omega)
      have hl := hR1.1.1
      have k48 : σ1.1 124 48 = (D : Int) := aV.2.2.1
      have s8 := E168 (sh := sh) (d := d + 4) (σ := σ1) (b := D) (D30 hD hc)
      have pa := pc_all hD hc
      have p3 := pcD_le D 30
      have hEl := hR1.2.2.2.2.1
      have k153 : σ1.1 153 f = (e : Int) := by rw [(af.1 153 (by omega) (by omega)).1]; exact hF.2.1
      have hfr : frN σ σ1 := af.N (by omega) (by omega) (by omega) (by omega) (by omega)
      have hlw : lwF f σ σ1 := lwF.W af (by omega)
      refine ⟨σ1, v3, hfr, hlw, ?_⟩
      rw [pBe, e267_9]
      by_cases hfull : D = 2 ^ c.length - 1
      · have p2 := pc_full hD hc hfull
        rw [if_pos (by simp [hfull])]
        rw [p2] at s8
        simp (disch := first | assumption | omega | (simp (disch := omega) only [wN, w0, w1]; omega)) only [e267_0, e267_1, e267_2, e267_3, e267_6, e267_7, e267_8, e267_10, e267_13, e267_14, e267_15, e267_18, e267_19, e267_22, e267_25, e267_26, e267_29, e267_30, e267_31, e267_34, e267_35, e267_36, e267_37, e267_40, e267_41, e267_42, e267_43, e267_46, e267_49, e267_50, e267_51, e267_52, e267_53, e267_56, e267_59, e267_60, e267_61, e267_64, e267_65, e267_66, e267_67, e267_68, e267_71, e267_72, e267_75, e267_76, e267_77, e267_78, e267_79, e267_82, e267_83, e267_84, e267_85, e267_86, e267_87, e267_88, e267_89, e267_90, e267_93, e267_96, e267_99, e267_100, e267_103, e267_104, e267_107, e267_108, e267_109, e267_110, e267_113, e267_114, e267_115, e267_118, e267_119, e267_122, e267_123, e267_124, e267_125, e267_126, e267_127, e267_128, e267_131, e267_132, e267_135, e267_136, e267_137, e267_140, e267_141, e267_144, e267_145, e267_146, e267_147, e267_148, e267_151, e267_152, e267_155, e267_156, e267_157, e267_160, e267_161, kl_I, kl_R, kl_N, kl_L, oSm, oNn, Option.bind_some, wN, if_pos, if_neg, nS, tN, t0, w0, w1, w2, w3, w4, w5, wm1, upA_ne, upA_same, if_true, if_false, Bool.false_eq_true, a1, k48, s8, ra1, rl1, hl]
      · have p2 : pcD D 30 < c.length := pa.mpr hfull
        have he2 : e = E.length := by omega
        rw [if_neg (by rw [he2, Nat.sub_self, fa]; simp [hfull])]
        simp (disch := first | assumption | omega | (simp (disch := omega) only [wN, w0, w1]; omega)) only [e267_0, e267_1, e267_2, e267_3, e267_6, e267_7, e267_8, e267_10, e267_13, e267_14, e267_15, e267_18, e267_19, e267_22, e267_25, e267_26, e267_29, e267_30, e267_31, e267_34, e267_35, e267_36, e267_37, e267_40, e267_41, e267_42, e267_43, e267_46, e267_49, e267_50, e267_51, e267_52, e267_53, e267_56, e267_59, e267_60, e267_61, e267_64, e267_65, e267_66, e267_67, e267_68, e267_71, e267_72, e267_75, e267_76, e267_77, e267_78, e267_79, e267_82, e267_83, e267_84, e267_85, e267_86, e267_87, e267_88, e267_89, e267_90, e267_93, e267_96, e267_99, e267_100, e267_103, e267_104, e267_107, e267_108, e267_109, e267_110, e267_113, e267_114, e267_115, e267_118, e267_119, e267_122, e267_123, e267_124, e267_125, e267_126, e267_127, e267_128, e267_131, e267_132, e267_135, e267_136, e267_137, e267_140, e267_141, e267_144, e267_145, e267_146, e267_147, e267_148, e267_151, e267_152, e267_155, e267_156, e267_157, e267_160, e267_161, kl_I, kl_R, kl_N, kl_L, oSm, oNn, Option.bind_some, wN, if_pos, if_neg, nS, tN, t0, w0, w1, w2, w3, w4, w5, wm1, upA_ne, upA_same, if_true, if_false, Bool.false_eq_true, a1, k48, s8, ra1, rl1, hl, ra52, rl52, k153, hEl]
    | succ k ihk =>
      intro e he σ P D last v3 hR hF hP hD hf0 hlr
      have hA : ∀ g, g < c.length → A g < 2 ^ g := fun g hg => (hR.2.2.1 g hg).2
      obtain ⟨r, σ1, a1, rfl, aV, af⟩ := M264 (d := d + 4) hM hF.1 (by omega) hn
      have hR1 := hR.W af (by omega) (by omega)
      have hl := hR1.1.1
      have k48 : σ1.1 124 48 = (D : Int) := aV.2.2.1
      have s8 := E168 (sh := sh) (d := d + 4) (σ := σ1) (b := D) (D30 hD hc)
      have pa := pc_all hD hc
      have p3 := pcD_le D 30
      have hEl := hR1.2.2.2.2.1
      have k153 : σ1.1 153 f = (e : Int) := by rw [(af.1 153 (by omega) (by omega)).1]; exact hF.2.1
      have hfr : frN σ σ1 := af.N (by omega) (by omega) (by omega) (by omega) (by omega)
      have hlw : lwF f σ σ1 := lwF.W af (by omega)
      by_cases hfull : D = 2 ^ c.length - 1
      · refine ⟨σ1, v3, hfr, hlw, ?_⟩
        rw [pBe, e267_9]
        have p2 := pc_full hD hc hfull
        rw [if_pos (by simp [hfull])]
        rw [p2] at s8
        simp (disch := first | assumption | omega | (simp (disch := omega) only [wN, w0, w1]; omega)) only [e267_0, e267_1, e267_2, e267_3, e267_6, e267_7, e267_8, e267_10, e267_13, e267_14, e267_15, e267_18, e267_19, e267_22, e267_25, e267_26, e267_29, e267_30, e267_31, e267_34, e267_35, e267_36, e267_37, e267_40, e267_41, e267_42, e267_43, e267_46, e267_49, e267_50, e267_51, e267_52, e267_53, e267_56, e267_59, e267_60, e267_61, e267_64, e267_65, e267_66, e267_67, e267_68, e267_71, e267_72, e267_75, e267_76, e267_77, e267_78, e267_79, e267_82, e267_83, e267_84, e267_85, e267_86, e267_87, e267_88, e267_89, e267_90, e267_93, e267_96, e267_99, e267_100, e267_103, e267_104, e267_107, e267_108, e267_109, e267_110, e267_113, e267_114, e267_115, e267_118, e267_119, e267_122, e267_123, e267_124, e267_125, e267_126, e267_127, e267_128, e267_131, e267_132, e267_135, e267_136, e267_137, e267_140, e267_141, e267_144, e267_145, e267_146, e267_147, e267_148, e267_151, e267_152, e267_155, e267_156, e267_157, e267_160, e267_161, kl_I, kl_R, kl_N, kl_L, oSm, oNn, Option.bind_some, wN, if_pos, if_neg, nS, tN, t0, w0, w1, w2, w3, w4, w5, wm1, upA_ne, upA_same, if_true, if_false, Bool.false_eq_true, a1, k48, s8, ra1, rl1, hl]
      · have p2 : pcD D 30 < c.length := pa.mpr hfull
        have q1 : (M : Int) - (f : Int) = ((l + 1 : Nat) : Int) := by omega
        have t1 := M263 (d := d + 2) (l := l + 1) hM hR1 hc hv hn hm aV.1 hP k48 hD (by omega)
        by_cases htf : tfB (farE E) c P D (l + 1) = true
        · refine ⟨σ1, v3, hfr, hlw, ?_⟩
          rw [pBe, e267_9]
          rw [htf] at t1
          replace t1 : run sh (d + 4) 263 [mR 124, mI ((l + 1 : Nat) : Int)] σ1 = some (some (mI 1), σ1) := t1
          rw [if_neg (by rw [htf]; simp [hfull])]
          simp (disch := first | assumption | omega | (simp (disch := omega) only [wN, w0, w1]; omega)) only [e267_0, e267_1, e267_2, e267_3, e267_6, e267_7, e267_8, e267_10, e267_13, e267_14, e267_15, e267_18, e267_19, e267_22, e267_25, e267_26, e267_29, e267_30, e267_31, e267_34, e267_35, e267_36, e267_37, e267_40, e267_41, e267_42, e267_43, e267_46, e267_49, e267_50, e267_51, e267_52, e267_53, e267_56, e267_59, e267_60, e267_61, e267_64, e267_65, e267_66, e267_67, e267_68, e267_71, e267_72, e267_75, e267_76, e267_77, e267_78, e267_79, e267_82, e267_83, e267_84, e267_85, e267_86, e267_87, e267_88, e267_89, e267_90, e267_93, e267_96, e267_99, e267_100, e267_103, e267_104, e267_107, e267_108, e267_109, e267_110, e267_113, e267_114, e267_115, e267_118, e267_119, e267_122, e267_123, e267_124, e267_125, e267_126, e267_127, e267_128, e267_131, e267_132, e267_135, e267_136, e267_137, e267_140, e267_141, e267_144, e267_145, e267_146, e267_147, e267_148, e267_151, e267_152, e267_155, e267_156, e267_157, e267_160, e267_161, kl_I, kl_R, kl_N, kl_L, oSm, oNn, Option.bind_some, wN, if_pos, if_neg, nS, tN, t0, w0, w1, w2, w3, w4, w5, wm1, upA_ne, upA_same, if_true, if_false, Bool.false_eq_true, a1, k48, s8, ra1, rl1, hl, ra52, rl52, k153, hEl, q1, t1]
        · have htf' : tfB (farE E) c P D (l + 1) = false := by simpa using htf
          rw [htf'] at t1
          replace t1 : run sh (d + 4) 263 [mR 124, mI ((l + 1 : Nat) : Int)] σ1 = some (some (mI 0), σ1) := t1
          have hel : e < E.length := by omega
          have hfM : ¬ f = M := by omega
          have pe : ∀ v, exC (farE E) n c E A l P D last e = v → pBe (farE E) n c E A (l + 1) P D last e = if v = true then pBe (farE E) n c E A (l + 1) P D last (e + 1) else true := fun v hv => by
            rw [pBe, fa_s hel, hv, htf', decide_eq_false hfull]
            cases v with
            | true => rw [if_pos rfl, pBe, htf', decide_eq_false hfull, Bool.true_and]
            | false => rw [if_neg (by simp)]; rfl
          obtain ⟨σ2, h2⟩ : ∃ s : Mem, s = (upA σ1.1 153 (up1 (σ1.1 153) f ((e + 1 : Nat) : Int)), σ1.2) := ⟨_, rfl⟩
          have f12 : frW 153 153 1 0 σ1 σ2 := by rw [h2]; exact frW.a (a := 153) (by omega) (by omega)
          have l12 : lwF f σ1 σ2 := fun j hj => by
            rw [h2]
            simp (disch := omega) only [upA_same, upA_ne, up1_ne]
            exact ⟨trivial, trivial, trivial, fun _ _ => trivial⟩
          have f02 : frN σ σ2 := hfr.tr (f12.N (by omega) (by omega) (by omega) (by omega) (by omega))
          have l02 : lwF f σ σ2 := hlw.tr l12 (Nat.le_refl _)
          have hR2 := hR.N f02
          have F2 : FLe σ2 f n P D last (e + 1) := by
            have q4 : σ2.1 154 = σ.1 154 := by rw [(f12.1 154 (by omega) (by omega)).1, (af.1 154 (by omega) (by omega)).1]
            have q6 : σ2.1 156 = σ.1 156 := by rw [(f12.1 156 (by omega) (by omega)).1, (af.1 156 (by omega) (by omega)).1]
            have q5 : σ2.1 155 = σ.1 155 := by rw [(f12.1 155 (by omega) (by omega)).1, (af.1 155 (by omega) (by omega)).1]
            refine ⟨⟨by rw [q4]; exact hF.1.1, fun y hy => by rw [q6]; exact hF.1.2 y hy⟩, ?_, fun q => by rw [q5]; exact hF.2.2 q⟩
            rw [h2]
            simp (disch := omega) only [upA_same, up1_same]
          have k147 : σ2.1 147 = σ1.1 147 := (f12.1 147 (by omega) (by omega)).1
          have hL2 : HLm σ2 147 n P := fun y hy => by rw [k147]; exact aV.1 y hy
          have i1 := M266 (d := d + 4) (σ := σ2) (f := f) (e := e) (last := last) hM hR2 hvE h10 hn hm hL2 hP (by omega) hel hf0 F2.2.2 hlr
          by_cases hid : (decide ((e : Int) = last) || nlB n P (eA E e)) = true
          · obtain ⟨σ', v', r1, r2, r3⟩ := ihk (e + 1) (by omega) σ2 P D last (some (mI (e : Int))) hR2 F2 hP hD hf0 hlr
            refine ⟨σ', v', f02.tr r1, l02.tr r2 (Nat.le_refl _), ?_⟩
            rw [pe true (by unfold exC; rw [hid]; rfl), if_pos rfl, ← r3, e267_9]
            rw [hid] at i1
            replace i1 : run sh (d + 4) 266 [mR 124, mI (f : Int), mI (e : Int)] σ2 = some (some (mI 1), σ2) := i1
            rw [h2] at i1
            rw [h2]
            simp (disch := first | assumption | omega | (simp (disch := omega) only [wN, w0, w1]; omega)) only [e267_0, e267_1, e267_2, e267_3, e267_6, e267_7, e267_8, e267_10, e267_13, e267_14, e267_15, e267_18, e267_19, e267_22, e267_25, e267_26, e267_29, e267_30, e267_31, e267_34, e267_35, e267_36, e267_37, e267_40, e267_41, e267_42, e267_43, e267_46, e267_49, e267_50, e267_51, e267_52, e267_53, e267_56, e267_59, e267_60, e267_61, e267_64, e267_65, e267_66, e267_67, e267_68, e267_71, e267_72, e267_75, e267_76, e267_77, e267_78, e267_79, e267_82, e267_83, e267_84, e267_85, e267_86, e267_87, e267_88, e267_89, e267_90, e267_93, e267_96, e267_99, e267_100, e267_103, e267_104, e267_107, e267_108, e267_109, e267_110, e267_113, e267_114, e267_115, e267_118, e267_119, e267_122, e267_123, e267_124, e267_125, e267_126, e267_127, e267_128, e267_131, e267_132, e267_135, e267_136, e267_137, e267_140, e267_141, e267_144, e267_145, e267_146, e267_147, e267_148, e267_151, e267_152, e267_155, e267_156, e267_157, e267_160, e267_161, kl_I, kl_R, kl_N, kl_L, oSm, oNn, Option.bind_some, wN, if_pos, if_neg, nS, tN, t0, w0, w1, w2, w3, w4, w5, wm1, upA_ne, upA_same, if_true, if_false, Bool.false_eq_true, a1, k48, s8, ra1, rl1, hl, ra52, rl52, k153, hEl, q1, t1, i1]
          · have hid' : (decide ((e : Int) = last) || nlB n P (eA E e)) = false := by simpa using hid
            have hke := hvE.at hel
            obtain ⟨g1, g2⟩ := hR1.2.2.2.1 e hel
            have cl : ∀ y, y < 4 → -1 ≤ σ2.1 147 y ∧ σ2.1 147 y < 5 := fun y hy => by
              rw [k147]
              by_cases q : y < n
              · have := aV.1 y q
                have := hP.1 y q
                omega
              · have := aV.2.1 y (by omega) hy
                omega
            obtain ⟨σ3, s1, s2, s3, s4⟩ := M252 (d := d + 4) (σ := σ2) (q := 147) (y1 := (eA E e).1) (y2 := (eA E e).2) rk41 rl41 (by omega) (by omega) (by omega) cl
            have f23 : frW 147 147 1 0 σ2 σ3 := ⟨fun b hb _ => ⟨s3 b (by omega), by rw [s4]⟩, fun i _ => by rw [s3 124 (by omega)]⟩
            have hP3 : okP n m (swP (eA E e).1 (eA E e).2 P) := hP.sw (by omega) (by omega)
            have hV3 : RV false σ3 n (swP (eA E e).1 (eA E e).2 P) (D, (fun _ => 0), []) := by
              refine ⟨fun q hq => ?_, fun y p q => ?_, ?_, fun q => (by cases q), ?_, fun j hj => (by cases hj)⟩
              · rw [s2 q (by omega), k147, aV.1 q hq]
                unfold swP
                by_cases x1 : P q = (eA E e).1
                · rw [if_pos x1, if_pos (by rw [x1])]
                · rw [if_neg x1, if_neg (by omega)]
                  by_cases x2 : P q = (eA E e).2
                  · rw [if_pos x2, if_pos (by rw [x2])]
                  · rw [if_neg x2, if_neg (by omega)]
              · rw [s2 y q, k147, aV.2.1 y p q, if_neg (by omega), if_neg (by omega)]
              · rw [f23.2 48 (by omega), f12.2 48 (by omega)]; exact k48
              · rw [f23.2 46 (by omega), f12.2 46 (by omega)]; exact aV.2.2.2.2.1
            have hR3 := hR2.W f23 (by omega) (by omega)
            obtain ⟨r, σ4, b1, rfl, b2, b3, _⟩ := M250 (d := d) (x := (D, (fun _ => 0), [])) hM hc hv hn hm hP3 hD (by simp only [List.length_nil]; omega) hR3 hV3
            have hR4 := hR3.W b3 (by omega) (by omega)
            obtain ⟨r, σ5, c1, rfl, c2, c3, c4, c5, c6⟩ := M265 (d := d + 4) (f := f + 1) hM b2 (by omega) hn
            have dEq : (rrA (farE E) c A (swP (eA E e).1 (eA E e).2 P) c.length (D, (fun _ => 0), [])).1 = daD (farE E) c A (swP (eA E e).1 (eA E e).2 P) D c.length := rrA_D _ _ _ _ _ _
            rw [dEq] at c2
            have b248 : σ4.1 124 48 = _ := b2.2.2.1
            rw [dEq] at b248
            have exE : exC (farE E) n c E A l P D last e = !pB (farE E) n c E A l (swP (eA E e).1 (eA E e).2 P) (daD (farE E) c A (swP (eA E e).1 (eA E e).2 P) D c.length) (lsI D (daD (farE E) c A (swP (eA E e).1 (eA E e).2 P) D c.length) e) := by
              unfold exC; rw [hid', Bool.false_or]
            have dlt : daD (farE E) c A (swP (eA E e).1 (eA E e).2 P) D c.length < 2 ^ c.length := daD_lt hD _ (Nat.le_refl _)
            generalize daD (farE E) c A (swP (eA E e).1 (eA E e).2 P) D c.length = D' at *
            have k548 : σ5.1 124 48 = (D' : Int) := by rw [c5.2 48 (by omega)]; exact b248
            have l25 : lwF (f + 1) σ2 σ5 := (lwF.W f23 (by omega)).tr ((lwF.W b3 (by omega)).tr c4 (Nat.le_refl _)) (Nat.le_refl _)
            have k5154 : σ5.1 154 f = (D : Int) := by rw [(l25 f (by omega)).2.1]; exact F2.1.1
            obtain ⟨σ6, h6⟩ : ∃ s : Mem, s = (upA σ5.1 155 (up1 (σ5.1 155) (f + 1) (lsI D D' e)), σ5.2) := ⟨_, rfl⟩
            have f56 : frW 155 155 1 0 σ5 σ6 := by rw [h6]; exact frW.a (a := 155) (by omega) (by omega)
            have l56 : lwF (f + 1) σ5 σ6 := fun j hj => by
              rw [h6]
              simp (disch := omega) only [upA_same, upA_ne, up1_ne]
              exact ⟨trivial, trivial, trivial, fun _ _ => trivial⟩
            have l26 : lwF (f + 1) σ2 σ6 := l25.tr l56 (Nat.le_refl _)
            have f26 : frN σ2 σ6 := (f23.N (by omega) (by omega) (by omega) (by omega) (by omega)).tr ((b3.N (by omega) (by omega) (by omega) (by omega) (by omega)).tr ((c5.N (by omega) (by omega) (by omega) (by omega) (by omega)).tr (f56.N (by omega) (by omega) (by omega) (by omega) (by omega))))
            have hR6 := hR2.N f26
            have F6 : FLe σ6 (f + 1) n (swP (eA E e).1 (eA E e).2 P) D' (lsI D D' e) 0 := by
              have q4 : σ6.1 154 = σ5.1 154 := (f56.1 154 (by omega) (by omega)).1
              have q6 : σ6.1 156 = σ5.1 156 := (f56.1 156 (by omega) (by omega)).1
              have q3 : σ6.1 153 = σ5.1 153 := (f56.1 153 (by omega) (by omega)).1
              refine ⟨⟨by rw [q4]; exact c2.1, fun y hy => by rw [q6]; exact c2.2 y hy⟩, by rw [q3]; exact c3, fun _ => ?_⟩
              rw [h6]
              simp (disch := omega) only [upA_same, up1_same]
            have lr : -1 ≤ lsI D D' e ∧ lsI D D' e < 10 := by
              unfold lsI
              split <;> omega
            obtain ⟨σ7, v7, r1, r2, r3⟩ := ih (f + 1) (by omega) E.length 0 (by omega) σ6 (swP (eA E e).1 (eA E e).2 P) D' (lsI D D' e) (some (mI (e : Int))) hR6 F6 hP3 dlt (fun q => by omega) lr
            rw [pBe_0] at r3
            have f07 : frN σ σ7 := f02.tr (f26.tr r1)
            have l27 : lwF (f + 1) σ2 σ7 := l26.tr r2 (Nat.le_refl _)
            have l27' : lwF f σ2 σ7 := fun j hj => l27 j (by omega)
            have qf : ((f + 1 : Nat) : Int) - 1 = (f : Int) := by omega
            rw [hid'] at i1
            replace i1 : run sh (d + 4) 266 [mR 124, mI (f : Int), mI (e : Int)] σ2 = some (some (mI 0), σ2) := i1
            -- up to the floor above
            have up : ev sh (d + 5) 267 9 [some (mR (124)), some (mI ((M : Nat) : Int)), some (mI ((f : Nat) : Int)), v3] [] σ = ev sh (d + 5) 267 9 [some (mR (124)), some (mI ((M : Nat) : Int)), some (mI ((f + 1 : Nat) : Int)), some (mI ((e : Nat) : Int))] [] σ6 := by
              rw [h6, e267_9]
              unfold lsI
              rw [h2] at i1 s1
              by_cases hDD : D' = D
              · rw [if_pos hDD]
                rw [hDD] at k548
                simp (disch := first | assumption | omega | (simp (disch := omega) only [wN, w0, w1]; omega)) only [e267_0, e267_1, e267_2, e267_3, e267_6, e267_7, e267_8, e267_10, e267_13, e267_14, e267_15, e267_18, e267_19, e267_22, e267_25, e267_26, e267_29, e267_30, e267_31, e267_34, e267_35, e267_36, e267_37, e267_40, e267_41, e267_42, e267_43, e267_46, e267_49, e267_50, e267_51, e267_52, e267_53, e267_56, e267_59, e267_60, e267_61, e267_64, e267_65, e267_66, e267_67, e267_68, e267_71, e267_72, e267_75, e267_76, e267_77, e267_78, e267_79, e267_82, e267_83, e267_84, e267_85, e267_86, e267_87, e267_88, e267_89, e267_90, e267_93, e267_96, e267_99, e267_100, e267_103, e267_104, e267_107, e267_108, e267_109, e267_110, e267_113, e267_114, e267_115, e267_118, e267_119, e267_122, e267_123, e267_124, e267_125, e267_126, e267_127, e267_128, e267_131, e267_132, e267_135, e267_136, e267_137, e267_140, e267_141, e267_144, e267_145, e267_146, e267_147, e267_148, e267_151, e267_152, e267_155, e267_156, e267_157, e267_160, e267_161, kl_I, kl_R, kl_N, kl_L, oSm, oNn, Option.bind_some, wN, if_pos, if_neg, nS, tN, t0, w0, w1, w2, w3, w4, w5, wm1, upA_ne, upA_same, if_true, if_false, Bool.false_eq_true, a1, k48, s8, ra1, rl1, hl, ra52, rl52, k153, hEl, q1, t1, i1, ra41, rl41, ra2, rl2, ra3, rl3, g1, g2, s1, b1, c1, k548, ra53, rl53, ra54, rl54, qf, k5154]
              · rw [if_neg hDD]
                have D3 := D30 dlt hc
                have D4 := D30 hD hc
                simp (disch := first | assumption | omega | (simp (disch := omega) only [wN, w0, w1]; omega)) only [e267_0, e267_1, e267_2, e267_3, e267_6, e267_7, e267_8, e267_10, e267_13, e267_14, e267_15, e267_18, e267_19, e267_22, e267_25, e267_26, e267_29, e267_30, e267_31, e267_34, e267_35, e267_36, e267_37, e267_40, e267_41, e267_42, e267_43, e267_46, e267_49, e267_50, e267_51, e267_52, e267_53, e267_56, e267_59, e267_60, e267_61, e267_64, e267_65, e267_66, e267_67, e267_68, e267_71, e267_72, e267_75, e267_76, e267_77, e267_78, e267_79, e267_82, e267_83, e267_84, e267_85, e267_86, e267_87, e267_88, e267_89, e267_90, e267_93, e267_96, e267_99, e267_100, e267_103, e267_104, e267_107, e267_108, e267_109, e267_110, e267_113, e267_114, e267_115, e267_118, e267_119, e267_122, e267_123, e267_124, e267_125, e267_126, e267_127, e267_128, e267_131, e267_132, e267_135, e267_136, e267_137, e267_140, e267_141, e267_144, e267_145, e267_146, e267_147, e267_148, e267_151, e267_152, e267_155, e267_156, e267_157, e267_160, e267_161, kl_I, kl_R, kl_N, kl_L, oSm, oNn, Option.bind_some, wN, if_pos, if_neg, nS, tN, t0, w0, w1, w2, w3, w4, w5, wm1, upA_ne, upA_same, if_true, if_false, Bool.false_eq_true, a1, k48, s8, ra1, rl1, hl, ra52, rl52, k153, hEl, q1, t1, i1, ra41, rl41, ra2, rl2, ra3, rl3, g1, g2, s1, b1, c1, k548, ra53, rl53, ra54, rl54, qf, k5154]
            rw [qf] at r3
            by_cases hpb : pB (farE E) n c E A l (swP (eA E e).1 (eA E e).2 P) D' (lsI D D' e) = true
            · refine ⟨σ7, v7, f07, l02.tr l27' (Nat.le_refl _), ?_⟩
              rw [if_pos hpb] at r3
              have pe' := pe false (by rw [exE, hpb]; rfl)
              rw [if_neg (by simp)] at pe'
              rw [pe', if_pos rfl, up, r3]
            · rw [if_neg hpb] at r3
              have F7 : FLe σ7 f n P D last (e + 1) := F2.lw l27 (by omega)
              obtain ⟨σ', v', t2, t3, t4⟩ := ihk (e + 1) (by omega) σ7 P D last v7 (hR.N f07) F7 hP hD hf0 hlr
              refine ⟨σ', v', f07.tr t2, (l02.tr l27' (Nat.le_refl _)).tr t3 (Nat.le_refl _), ?_⟩
              have hpb' : pB (farE E) n c E A l (swP (eA E e).1 (eA E e).2 P) D' (lsI D D' e) = false := by simpa using hpb
              rw [pe true (by rw [exE, hpb']; rfl), if_pos rfl, up, r3, t4]
end OH

