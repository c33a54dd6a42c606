/-! ===== the reference: board ===== -/
section MJ
variable {sh : Shp} {d t g n m i : Nat} {σ : Mem} {a : AX} {z w v u lo : Int} {E : List Ed} {B : Nat → Nat} {L p q : Nat}
def HNe (σ : Mem) (E : List Ed) : Prop := σ.1 124 28 = (E.length : Int) ∧ HEm σ 135 136 E
theorem HNe.fr {x y u' v' : Nat} {σ' : Mem} (h : HNe σ E) (hf : frW x y u' v' σ σ') (h1 : 136 < x ∨ y < 135) (h2 : 28 < u' ∨ v' < 28) : HNe σ' E := by
  refine ⟨by rw [hf.2 28 (by omega)]; exact h.1, fun j hj => ?_⟩
  rw [(hf.1 135 (by omega) (by omega)).1, (hf.1 136 (by omega) (by omega)).1]; exact h.2 j hj
theorem M184 (hM : MS sh) (hN : HNe σ E) (hE : E.length ≤ 10) (hp : p < 10) (hq : q < 10) (hv : okE m E) (hm : m ≤ 5) : run sh (d + 1) 184 [mR 124, mI (p : Int), mI (q : Int)] σ = some (some (mI (if njB E p q (E.length - 0) 0 = true then 1 else 0)), σ) := by
  have mo := hM.1
  have m160 := hM.2.1
  obtain ⟨ra19, rk19, rl19⟩ := ms19 hM
  obtain ⟨ra20, rk20, rl20⟩ := ms20 hM
  have hl := hN.1
  have e1 := E165n (sh := sh) (d := d) (σ := σ) (p := p) (q := q) (by omega) (by omega)
  have e2 := E166n (sh := sh) (d := d) (σ := σ) (p := p) (q := q) (by omega) (by omega)
  have F := for_dn (fun i => ev sh (d + 1) 184 2 [some (mR (124)), some (mI ((p : Nat) : Int)), some (mI ((q : Nat) : Int)), some (mI ((i : Nat) : Int))] [] (σ)) (fun i => some (some (mI (if njB E p q (E.length - i) i = true then 1 else 0)), σ)) (E.length) (by
    show ev sh (d + 1) 184 2 [some (mR (124)), some (mI ((p : Nat) : Int)), some (mI ((q : Nat) : Int)), some (mI (((E.length) : Nat) : Int))] [] (σ) = some (some (mI (if njB E p q (E.length - (E.length)) (E.length) = true then 1 else 0)), σ)
    unfold njB
    rw [fa_e, e184_2]
    simp (disch := first | assumption | omega | (simp (disch := omega) only [wN, w0, w1]; omega)) only [e184_0, e184_1, e184_3, e184_4, e184_7, e184_10, e184_11, e184_14, e184_15, e184_16, e184_17, e184_18, e184_21, e184_24, e184_25, e184_28, e184_29, e184_30, e184_31, e184_32, e184_35, e184_38, e184_39, e184_40, e184_43, e184_46, e184_47, kl_I, kl_R, kl_N, kl_L, oSm, oNn, Option.bind_some, wN, if_pos, if_neg, nS, tN, t0, w0, w1, w2, w3, w4, w5, wm1, upA_ne, upA_same, if_true, if_false, Bool.false_eq_true, hl]) (fun i hi ih => by
    replace ih : ev sh (d + 1) 184 2 [some (mR (124)), some (mI ((p : Nat) : Int)), some (mI ((q : Nat) : Int)), some (mI (((i + 1) : Nat) : Int))] [] (σ) = some (some (mI (if njB E p q (E.length - (i + 1)) (i + 1) = true then 1 else 0)), σ) := ih
    show ev sh (d + 1) 184 2 [some (mR (124)), some (mI ((p : Nat) : Int)), some (mI ((q : Nat) : Int)), some (mI ((i : Nat) : Int))] [] (σ) = some (some (mI (if njB E p q (E.length - i) i = true then 1 else 0)), σ)
    have h5 := hv.at hi
    obtain ⟨c1, c2⟩ := hN.2 i hi
    unfold njB at ih ⊢
    rw [e184_2, fa_s hi]
    by_cases h1 : (eA E i).1 = min p q
    · have h1' : ((eA E i).1 : Int) = ((min p q : Nat) : Int) := by rw [h1]
      by_cases h2 : (eA E i).2 = max p q
      · have h2' : ((eA E i).2 : Int) = ((max p q : Nat) : Int) := by rw [h2]
        simp (disch := first | assumption | omega | (simp (disch := omega) only [wN, w0, w1]; omega)) only [e184_0, e184_1, e184_3, e184_4, e184_7, e184_10, e184_11, e184_14, e184_15, e184_16, e184_17, e184_18, e184_21, e184_24, e184_25, e184_28, e184_29, e184_30, e184_31, e184_32, e184_35, e184_38, e184_39, e184_40, e184_43, e184_46, e184_47, kl_I, kl_R, kl_N, kl_L, oSm, oNn, Option.bind_some, wN, if_pos, if_neg, nS, tN, t0, w0, w1, w2, w3, w4, w5, wm1, upA_ne, upA_same, if_true, if_false, Bool.false_eq_true, hl, ra19, rl19, ra20, rl20, c1, c2, e1, e2]
        simp [h1, h2, jn1]
      · have h2' : ¬ ((eA E i).2 : Int) = ((max p q : Nat) : Int) := fun z => h2 (by omega)
        simp (disch := first | assumption | omega | (simp (disch := omega) only [wN, w0, w1]; omega)) only [e184_0, e184_1, e184_3, e184_4, e184_7, e184_10, e184_11, e184_14, e184_15, e184_16, e184_17, e184_18, e184_21, e184_24, e184_25, e184_28, e184_29, e184_30, e184_31, e184_32, e184_35, e184_38, e184_39, e184_40, e184_43, e184_46, e184_47, kl_I, kl_R, kl_N, kl_L, oSm, oNn, Option.bind_some, wN, if_pos, if_neg, nS, tN, t0, w0, w1, w2, w3, w4, w5, wm1, upA_ne, upA_same, if_true, if_false, Bool.false_eq_true, hl, ra19, rl19, ra20, rl20, c1, c2, e1, e2]
        rw [ih]
        simp [h2, jn1]
    · have h1' : ¬ ((eA E i).1 : Int) = ((min p q : Nat) : Int) := fun z => h1 (by omega)
      simp (disch := first | assumption | omega | (simp (disch := omega) only [wN, w0, w1]; omega)) only [e184_0, e184_1, e184_3, e184_4, e184_7, e184_10, e184_11, e184_14, e184_15, e184_16, e184_17, e184_18, e184_21, e184_24, e184_25, e184_28, e184_29, e184_30, e184_31, e184_32, e184_35, e184_38, e184_39, e184_40, e184_43, e184_46, e184_47, kl_I, kl_R, kl_N, kl_L, oSm, oNn, Option.bind_some, wN, if_pos, if_neg, nS, tN, t0, w0, w1, w2, w3, w4, w5, wm1, upA_ne, upA_same, if_true, if_false, Bool.false_eq_true, hl, ra19, rl19, ra20, rl20, c1, c2, e1, e2]
      rw [ih]
      simp [h1, jn1]) 0 (Nat.zero_le _)
  simp (disch := first | assumption | omega | (simp (disch := omega) only [wN, w0, w1]; omega)) only [e184_0, e184_1, e184_3, e184_4, e184_7, e184_10, e184_11, e184_14, e184_15, e184_16, e184_17, e184_18, e184_21, e184_24, e184_25, e184_28, e184_29, e184_30, e184_31, e184_32, e184_35, e184_38, e184_39, e184_40, e184_43, e184_46, e184_47, kl_I, kl_R, kl_N, kl_L, oSm, oNn, Option.bind_some, wN, if_pos, if_neg, nS, tN, t0, w0, w1, w2, w3, w4, w5, wm1, upA_ne, upA_same, if_true, if_false, Bool.false_eq_true, q184]
  exact F
def poRE (σ : Mem) (B : Nat → Nat) (L m i : Nat) (E : List Ed) (r : Option MV) (σ' : Mem) : Prop := frW 135 136 22 28 σ σ' ∧ σ'.1 124 27 = σ.1 124 27 ∧
  (((rdE B L m i E).1 < 0 ∧ r = some (mI 0) ∧ σ'.1 124 24 = (rdE B L m i E).1) ∨ ((rdE B L m i E).1 = 0 ∧ r = some (mI 1) ∧ HQ σ' B L (i + 4) ∧ HNe σ' (rdE B L m i E).2 ∧ okE m (rdE B L m i E).2 ∧ (rdE B L m i E).2.length ≤ 10))
theorem M185 (hM : MS sh) (hq : HQ σ B L (i + 1)) (hL : L ≤ 140) (hi : i < 500) (hN : HNe σ E) (hE : E.length ≤ 10) (hv : okE m E) (hm0 : σ.1 124 27 = (m : Int)) (hm2 : 2 ≤ m) (hm : m ≤ 5) (h59 : byB B L i = 59) : End (run sh (d + 2) 185 [mR 124] σ) (poRE σ B L m i E) := by
  have mo := hM.1
  have m160 := hM.2.1
  obtain ⟨ra19, rk19, rl19⟩ := ms19 hM
  obtain ⟨ra20, rk20, rl20⟩ := ms20 hM
  have hl := hN.1
  have w10 : wi 10 = 10 := rfl
  have h22 := hq.2.1
  have em : (m : Int) - 1 + 1 = (m : Int) := by omega
  by_cases hfull : E.length = 10
  · have er : (rdE B L m i E).1 = -1000 * 4 - ((i + 1 : Nat) : Int) := by rw [rdE, if_neg (fun z => z h59), if_pos hfull]
    simp (disch := first | assumption | omega | (simp (disch := omega) only [wN, w0, w1]; omega)) only [e185_0, e185_1, e185_4, e185_6, e185_9, e185_10, e185_11, e185_12, e185_15, e185_18, e185_19, e185_20, e185_21, e185_22, e185_25, e185_26, e185_27, e185_30, e185_33, e185_34, e185_35, e185_36, e185_39, e185_40, e185_41, e185_43, e185_46, e185_49, e185_50, e185_51, e185_52, e185_55, e185_56, e185_57, e185_60, e185_63, e185_64, e185_65, e185_66, e185_69, e185_70, e185_73, e185_74, e185_75, e185_76, e185_79, e185_82, e185_85, e185_86, e185_88, e185_89, e185_92, e185_93, e185_94, e185_97, e185_98, e185_99, e185_102, e185_103, e185_106, e185_107, e185_108, e185_111, e185_114, e185_115, e185_116, e185_119, e185_120, e185_123, e185_124, e185_125, e185_128, e185_131, e185_132, e185_133, e185_134, e185_137, e185_138, e185_139, e185_142, e185_143, kl_I, kl_R, kl_N, kl_L, oSm, oNn, Option.bind_some, wN, if_pos, if_neg, nS, tN, t0, w0, w1, w2, w3, w4, w5, wm1, upA_ne, upA_same, if_true, if_false, Bool.false_eq_true, q185, hl, w10, h22, M178 hM]
    refine End.of rfl ⟨frW.f (by omega), by simp (disch := omega) only [upA_same, up1_ne], Or.inl ⟨by omega, rfl, ?_⟩⟩
    simp (disch := omega) only [upA_same, up1_same]
    rw [er]
  · obtain ⟨r, σ1, a1, a2, a3⟩ := M180 (d := d) (lo := 0) (hi := (m : Int) - 1) hM hq hL (by omega) (by omega) (by omega)
    rw [em] at a2 a3
    rcases a2 with ⟨b1, rfl, b3, b4⟩ | ⟨b1, rfl, b3, b4⟩
    · have a3 := a3 b1
      have r1 := (rdD_r B L (i + 1) 0 (m : Int) (Int.le_refl _)).1 b1
      have hn1 : ¬ rdD B L (i + 1) 0 (m : Int) < 0 := by omega
      obtain ⟨x, hx⟩ : ∃ x : Nat, rdD B L (i + 1) 0 (m : Int) = (x : Int) := ⟨(rdD B L (i + 1) 0 (m : Int)).toNat, by omega⟩
      rw [hx] at a3 r1
      have m1 : σ1.1 124 27 = (m : Int) := by rw [b4.2 27 (by omega)]; exact hm0
      obtain ⟨r2, σ2, i1, i2⟩ := M179 (d := d) (z := 45) hM b3 hL (by omega) (by omega)
      rcases i2 with ⟨j1, rfl, j3, j4⟩ | ⟨j1, rfl, j3, j4⟩
      · have m2 : σ2.1 124 27 = (m : Int) := by rw [j4.2 27 (by omega)]; exact m1
        obtain ⟨r3, σ3, o1, o2, o3⟩ := M180 (d := d) (lo := 0) (hi := (m : Int) - 1) hM j3 hL (by omega) (by omega) (by omega)
        rw [em] at o2 o3
        have f13 : frW 135 136 22 28 σ σ3 ∨ True := Or.inr trivial
        rcases o2 with ⟨b5, rfl, b7, b8⟩ | ⟨b5, rfl, b7, b8⟩
        · have o3 : σ3.1 124 25 = rdD B L (i + 3) 0 (m : Int) := o3 b5
          have r3 := (rdD_r B L (i + 3) 0 (m : Int) (Int.le_refl _)).1 b5
          have b7 : HQ σ3 B L (i + 4) := b7
          obtain ⟨y, hy⟩ : ∃ y : Nat, rdD B L (i + 3) 0 (m : Int) = (y : Int) := ⟨(rdD B L (i + 3) 0 (m : Int)).toNat, by omega⟩
          rw [hy] at o3 r3
          have f3 : frW 135 136 22 28 σ σ3 := ((b4.w (by omega) (by omega) (by omega) (by omega)).tr (j4.w (by omega) (by omega) (by omega) (by omega))).tr (b8.w (by omega) (by omega) (by omega) (by omega))
          have N3 : HNe σ3 E := ((hN.fr b4 (by omega) (by omega)).fr j4 (by omega) (by omega)).fr b8 (by omega) (by omega)
          have m3 : σ3.1 124 27 = (m : Int) := by rw [b8.2 27 (by omega)]; exact m2
          have h22' : σ3.1 124 22 = ((i + 4 : Nat) : Int) := b7.2.1
          have ep : ((i + 4 : Nat) : Int) - 1 = ((i + 3 : Nat) : Int) := by omega
          have hl3 := N3.1
          have er0 : rdE B L m i E = if (x : Int) = (y : Int) ∨ ¬ njB E x y E.length 0 = true then (-1000 * 6 - ((i + 3 : Nat) : Int), E) else (0, E ++ [(min x y, max x y)]) := by
            rw [rdE, if_neg (fun z => z h59), if_neg hfull, if_neg hn1, if_neg (fun z => z j1), if_neg (show ¬ rdD B L (i + 3) 0 (m : Int) < 0 by omega), hx, hy, tN, tN]
          have e184 := M184 (d := d) (p := x) (q := y) hM N3 hE (by omega) (by omega) hv hm
          rw [Nat.sub_zero] at e184
          by_cases g1 : x = y
          · have er : (rdE B L m i E).1 = -1000 * 6 - ((i + 3 : Nat) : Int) := by rw [er0, if_pos (Or.inl (by omega))]
            simp (disch := first | assumption | omega | (simp (disch := omega) only [wN, w0, w1]; omega)) only [e185_0, e185_1, e185_4, e185_6, e185_9, e185_10, e185_11, e185_12, e185_15, e185_18, e185_19, e185_20, e185_21, e185_22, e185_25, e185_26, e185_27, e185_30, e185_33, e185_34, e185_35, e185_36, e185_39, e185_40, e185_41, e185_43, e185_46, e185_49, e185_50, e185_51, e185_52, e185_55, e185_56, e185_57, e185_60, e185_63, e185_64, e185_65, e185_66, e185_69, e185_70, e185_73, e185_74, e185_75, e185_76, e185_79, e185_82, e185_85, e185_86, e185_88, e185_89, e185_92, e185_93, e185_94, e185_97, e185_98, e185_99, e185_102, e185_103, e185_106, e185_107, e185_108, e185_111, e185_114, e185_115, e185_116, e185_119, e185_120, e185_123, e185_124, e185_125, e185_128, e185_131, e185_132, e185_133, e185_134, e185_137, e185_138, e185_139, e185_142, e185_143, kl_I, kl_R, kl_N, kl_L, oSm, oNn, Option.bind_some, wN, if_pos, if_neg, nS, tN, t0, w0, w1, w2, w3, w4, w5, wm1, upA_ne, upA_same, if_true, if_false, Bool.false_eq_true, q185, hl, w10, hm0, a1, a3, i1, m2, o1, o3, h22', ep, M178 hM]
            refine End.of rfl ⟨f3.tr (frW.f (by omega)), by simp (disch := omega) only [upA_same, up1_ne]; rw [m3, hm0], Or.inl ⟨by omega, rfl, ?_⟩⟩
            simp (disch := omega) only [upA_same, up1_same]
            rw [er]
          · by_cases g2 : njB E x y E.length 0 = true
            · rw [if_pos g2] at e184
              have er : rdE B L m i E = (0, E ++ [(min x y, max x y)]) := by rw [er0, if_neg (by simp only [g2, not_true_eq_false, or_false]; omega)]
              have e165 := E165n (sh := sh) (d := d + 1) (σ := σ3) (p := x) (q := y) (by omega) (by omega)
              have hlt : E.length < 10 := by omega
              have f4 : frW 135 136 22 28 σ3 (upA σ3.1 135 (up1 (σ3.1 135) E.length ((min x y : Nat) : Int)), σ3.2) := frW.a (by omega) (by omega)
              have hl4 : (upA σ3.1 135 (up1 (σ3.1 135) E.length ((min x y : Nat) : Int))) 124 28 = (E.length : Int) := by rw [upA_ne (by omega)]; exact hl3
              have e166 := fun τ => E166n (sh := sh) (d := d + 1) (σ := τ) (p := x) (q := y) (by omega) (by omega)
              simp (disch := first | assumption | omega | (simp (disch := omega) only [wN, w0, w1]; omega)) only [e185_0, e185_1, e185_4, e185_6, e185_9, e185_10, e185_11, e185_12, e185_15, e185_18, e185_19, e185_20, e185_21, e185_22, e185_25, e185_26, e185_27, e185_30, e185_33, e185_34, e185_35, e185_36, e185_39, e185_40, e185_41, e185_43, e185_46, e185_49, e185_50, e185_51, e185_52, e185_55, e185_56, e185_57, e185_60, e185_63, e185_64, e185_65, e185_66, e185_69, e185_70, e185_73, e185_74, e185_75, e185_76, e185_79, e185_82, e185_85, e185_86, e185_88, e185_89, e185_92, e185_93, e185_94, e185_97, e185_98, e185_99, e185_102, e185_103, e185_106, e185_107, e185_108, e185_111, e185_114, e185_115, e185_116, e185_119, e185_120, e185_123, e185_124, e185_125, e185_128, e185_131, e185_132, e185_133, e185_134, e185_137, e185_138, e185_139, e185_142, e185_143, kl_I, kl_R, kl_N, kl_L, oSm, oNn, Option.bind_some, wN, if_pos, if_neg, nS, tN, t0, w0, w1, w2, w3, w4, w5, wm1, upA_ne, upA_same, if_true, if_false, Bool.false_eq_true, q185, hl, w10, hm0, a1, a3, i1, m2, o1, o3, e184, ra19, rl19, ra20, rl20, hl3, e165, e166, hl4]
              refine End.of rfl ⟨?_, ?_, Or.inr ⟨by rw [er], rfl, ?_, ?_, ?_, ?_⟩⟩
              · have f5 : frW 135 136 22 28 (upA σ3.1 135 (up1 (σ3.1 135) E.length ((min x y : Nat) : Int)), σ3.2) (upA (upA σ3.1 135 (up1 (σ3.1 135) E.length ((min x y : Nat) : Int))) 136 (up1 (σ3.1 136) E.length ((max x y : Nat) : Int)), σ3.2) := frW.a (by omega) (by omega)
                have f6 : frW 135 136 22 28 (upA (upA σ3.1 135 (up1 (σ3.1 135) E.length ((min x y : Nat) : Int))) 136 (up1 (σ3.1 136) E.length ((max x y : Nat) : Int)), σ3.2) (upA (upA (upA σ3.1 135 (up1 (σ3.1 135) E.length ((min x y : Nat) : Int))) 136 (up1 (σ3.1 136) E.length ((max x y : Nat) : Int))) 124 (up1 ((upA (upA σ3.1 135 (up1 (σ3.1 135) E.length ((min x y : Nat) : Int))) 136 (up1 (σ3.1 136) E.length ((max x y : Nat) : Int))) 124) 28 ((E.length + 1 : Nat) : Int)), σ3.2) := frW.f (by omega)
                simp (disch := omega) only [upA_ne] at f6
                exact ((f3.tr f4).tr f5).tr f6
              · simp (disch := omega) only [upA_same, up1_ne]
                rw [m3, hm0]
              · obtain ⟨z1, z2, z3⟩ := b7
                refine ⟨fun j hj => ?_, ?_, ?_⟩
                · simp (disch := omega) only [upA_ne]; exact z1 j hj
                · simp (disch := omega) only [upA_same, up1_ne]; exact z2
                · simp (disch := omega) only [upA_same, up1_ne]; exact z3
              · rw [er]
                refine ⟨?_, fun j hj => ?_⟩
                · simp (disch := omega) only [upA_same, up1_same]
                  simp
                · simp (disch := omega) only [upA_same, upA_ne]
                  by_cases e : j = E.length
                  · subst e
                    rw [eA_n]
                    simp only [up1_same]
                    exact ⟨trivial, trivial⟩
                  · have hj2 : j < E.length := by simp at hj; omega
                    rw [eA_l hj2, up1_ne e, up1_ne e]
                    exact N3.2 j hj2
              · rw [er]
                exact hv.app ⟨by simp only; omega, by simp only; omega⟩
              · rw [er]
                show (E ++ _).length ≤ 10
                rw [List.length_append]
                simp only [List.length_cons, List.length_nil]
                omega
            · rw [if_neg g2] at e184
              have er : (rdE B L m i E).1 = -1000 * 6 - ((i + 3 : Nat) : Int) := by rw [er0, if_pos (Or.inr g2)]
              simp (disch := first | assumption | omega | (simp (disch := omega) only [wN, w0, w1]; omega)) only [e185_0, e185_1, e185_4, e185_6, e185_9, e185_10, e185_11, e185_12, e185_15, e185_18, e185_19, e185_20, e185_21, e185_22, e185_25, e185_26, e185_27, e185_30, e185_33, e185_34, e185_35, e185_36, e185_39, e185_40, e185_41, e185_43, e185_46, e185_49, e185_50, e185_51, e185_52, e185_55, e185_56, e185_57, e185_60, e185_63, e185_64, e185_65, e185_66, e185_69, e185_70, e185_73, e185_74, e185_75, e185_76, e185_79, e185_82, e185_85, e185_86, e185_88, e185_89, e185_92, e185_93, e185_94, e185_97, e185_98, e185_99, e185_102, e185_103, e185_106, e185_107, e185_108, e185_111, e185_114, e185_115, e185_116, e185_119, e185_120, e185_123, e185_124, e185_125, e185_128, e185_131, e185_132, e185_133, e185_134, e185_137, e185_138, e185_139, e185_142, e185_143, kl_I, kl_R, kl_N, kl_L, oSm, oNn, Option.bind_some, wN, if_pos, if_neg, nS, tN, t0, w0, w1, w2, w3, w4, w5, wm1, upA_ne, upA_same, if_true, if_false, Bool.false_eq_true, q185, hl, w10, hm0, a1, a3, i1, m2, o1, o3, e184, h22', ep, M178 hM]
              refine End.of rfl ⟨f3.tr (frW.f (by omega)), by simp (disch := omega) only [upA_same, up1_ne]; rw [m3, hm0], Or.inl ⟨by omega, rfl, ?_⟩⟩
              simp (disch := omega) only [upA_same, up1_same]
              rw [er]
        · have er : (rdE B L m i E).1 = rdD B L (i + 3) 0 (m : Int) := by rw [rdE, if_neg (fun z => z h59), if_neg hfull, if_neg hn1, if_neg (fun z => z j1), if_pos (Int.not_le.mp b5)]
          simp (disch := first | assumption | omega | (simp (disch := omega) only [wN, w0, w1]; omega)) only [e185_0, e185_1, e185_4, e185_6, e185_9, e185_10, e185_11, e185_12, e185_15, e185_18, e185_19, e185_20, e185_21, e185_22, e185_25, e185_26, e185_27, e185_30, e185_33, e185_34, e185_35, e185_36, e185_39, e185_40, e185_41, e185_43, e185_46, e185_49, e185_50, e185_51, e185_52, e185_55, e185_56, e185_57, e185_60, e185_63, e185_64, e185_65, e185_66, e185_69, e185_70, e185_73, e185_74, e185_75, e185_76, e185_79, e185_82, e185_85, e185_86, e185_88, e185_89, e185_92, e185_93, e185_94, e185_97, e185_98, e185_99, e185_102, e185_103, e185_106, e185_107, e185_108, e185_111, e185_114, e185_115, e185_116, e185_119, e185_120, e185_123, e185_124, e185_125, e185_128, e185_131, e185_132, e185_133, e185_134, e185_137, e185_138, e185_139, e185_142, e185_143, kl_I, kl_R, kl_N, kl_L, oSm, oNn, Option.bind_some, wN, if_pos, if_neg, nS, tN, t0, w0, w1, w2, w3, w4, w5, wm1, upA_ne, upA_same, if_true, if_false, Bool.false_eq_true, q185, hl, w10, hm0, a1, a3, i1, m2, o1]
          refine End.of rfl ⟨((b4.w (by omega) (by omega) (by omega) (by omega)).tr (j4.w (by omega) (by omega) (by omega) (by omega))).tr (b8.w (by omega) (by omega) (by omega) (by omega)), by rw [b8.2 27 (by omega), m2, hm0], Or.inl ⟨by rw [er]; exact Int.not_le.mp b5, rfl, by rw [er]; exact b7⟩⟩
      · have er : (rdE B L m i E).1 = -1000 * 1 - ((i + 2 : Nat) : Int) := by rw [rdE, if_neg (fun z => z h59), if_neg hfull, if_neg hn1, if_pos j1]
        simp (disch := first | assumption | omega | (simp (disch := omega) only [wN, w0, w1]; omega)) only [e185_0, e185_1, e185_4, e185_6, e185_9, e185_10, e185_11, e185_12, e185_15, e185_18, e185_19, e185_20, e185_21, e185_22, e185_25, e185_26, e185_27, e185_30, e185_33, e185_34, e185_35, e185_36, e185_39, e185_40, e185_41, e185_43, e185_46, e185_49, e185_50, e185_51, e185_52, e185_55, e185_56, e185_57, e185_60, e185_63, e185_64, e185_65, e185_66, e185_69, e185_70, e185_73, e185_74, e185_75, e185_76, e185_79, e185_82, e185_85, e185_86, e185_88, e185_89, e185_92, e185_93, e185_94, e185_97, e185_98, e185_99, e185_102, e185_103, e185_106, e185_107, e185_108, e185_111, e185_114, e185_115, e185_116, e185_119, e185_120, e185_123, e185_124, e185_125, e185_128, e185_131, e185_132, e185_133, e185_134, e185_137, e185_138, e185_139, e185_142, e185_143, kl_I, kl_R, kl_N, kl_L, oSm, oNn, Option.bind_some, wN, if_pos, if_neg, nS, tN, t0, w0, w1, w2, w3, w4, w5, wm1, upA_ne, upA_same, if_true, if_false, Bool.false_eq_true, q185, hl, w10, hm0, a1, a3, i1]
        refine End.of rfl ⟨(b4.w (by omega) (by omega) (by omega) (by omega)).tr (j4.w (by omega) (by omega) (by omega) (by omega)), by rw [j4.2 27 (by omega), m1, hm0], Or.inl ⟨by omega, rfl, by rw [er]; exact j3⟩⟩
    · have er : (rdE B L m i E).1 = rdD B L (i + 1) 0 (m : Int) := by rw [rdE, if_neg (fun z => z h59), if_neg hfull, if_pos (Int.not_le.mp b1)]
      simp (disch := first | assumption | omega | (simp (disch := omega) only [wN, w0, w1]; omega)) only [e185_0, e185_1, e185_4, e185_6, e185_9, e185_10, e185_11, e185_12, e185_15, e185_18, e185_19, e185_20, e185_21, e185_22, e185_25, e185_26, e185_27, e185_30, e185_33, e185_34, e185_35, e185_36, e185_39, e185_40, e185_41, e185_43, e185_46, e185_49, e185_50, e185_51, e185_52, e185_55, e185_56, e185_57, e185_60, e185_63, e185_64, e185_65, e185_66, e185_69, e185_70, e185_73, e185_74, e185_75, e185_76, e185_79, e185_82, e185_85, e185_86, e185_88, e185_89, e185_92, e185_93, e185_94, e185_97, e185_98, e185_99, e185_102, e185_103, e185_106, e185_107, e185_108, e185_111, e185_114, e185_115, e185_116, e185_119, e185_120, e185_123, e185_124, e185_125, e185_128, e185_131, e185_132, e185_133, e185_134, e185_137, e185_138, e185_139, e185_142, e185_143, kl_I, kl_R, kl_N, kl_L, oSm, oNn, Option.bind_some, wN, if_pos, if_neg, nS, tN, t0, w0, w1, w2, w3, w4, w5, wm1, upA_ne, upA_same, if_true, if_false, Bool.false_eq_true, q185, hl, w10, hm0, a1]
      refine End.of rfl ⟨b4.w (by omega) (by omega) (by omega) (by omega), by rw [b4.2 27 (by omega)], Or.inl ⟨by rw [er]; exact Int.not_le.mp b1, rfl, by rw [er]; exact b3⟩⟩
end MJ

