/-! ===== the reference: circuit ===== -/
section MH
variable {sh : Shp} {d t g n : Nat} {σ : Mem} {a : AX} {z w v u lo : Int} {c : List Gt} {B : Nat → Nat} {L p : Nat}
/-- what is read behind a gate -/
def rdK (B : Nat → Nat) (L n p : Nat) (c : List Gt) : Int × List Gt := if p = L then (0, c) else if byB B L p ≠ 59 then (-1000 * 1 - (p : Int), c) else rdL B L n (30 - c.length) (p + 1) c
theorem rdL_g {f i e : Nat} {q : Gt} (hf : 30 - c.length = f + 1) (hv : rdG B L n i = ((e : Int), q)) : rdL B L n (30 - c.length) i c = rdK B L n e (c ++ [q]) := by
  have e1 : 30 - (c ++ [q]).length = f := by rw [List.length_append]; simp only [List.length_cons, List.length_nil]; omega
  rw [hf, rdL, hv, rdK, e1]
  simp only
  rw [if_neg (by omega)]
  by_cases h : e = L
  · rw [if_pos (by omega), if_pos h]
  · rw [if_neg (by omega), if_neg h, tN]
theorem rdG_e {i : Nat} (h : 0 ≤ (rdG B L n i).1) : rdG B L n i = (((rdG B L n i).1.toNat : Int), (rdG B L n i).2) := by
  rw [show (((rdG B L n i).1.toNat : Nat) : Int) = (rdG B L n i).1 by omega]
/-- where reading comes to an end -/
def poC (σ : Mem) (n : Nat) (r : Int × List Gt) (b : Int) (σ' : Mem) : Prop := frW 134 134 22 26 σ σ' ∧ ((b = 1 ∧ r.1 = 0 ∧ HNg σ' r.2 ∧ okC n r.2 ∧ r.2.length ≤ 30) ∨ (b = 0 ∧ r.1 < 0 ∧ σ'.1 124 24 = r.1))
theorem M183a (hM : MS sh) (hL : L ≤ 140) (hn1 : 1 ≤ n) (hn : n ≤ 4) : ∀ (t : Nat) (c : List Gt) (σ : Mem) (p : Nat), c.length + t = 30 → HQ σ B L p → p ≤ L → HNg σ c → okC n c → σ.1 124 8 = (n : Int) → ∃ b σ', ev sh (d + 3) 183 52 [some (mR (124)), some (mI ((L : Nat) : Int)), some (mI (1)), none] [] σ = ev sh (d + 3) 183 92 [some (mR (124)), some (mI ((L : Nat) : Int)), some (mI (b)), none] [] σ' ∧ poC σ n (rdK B L n p c) b σ' := by
  intro t
  have mo := hM.1
  induction t with
  | zero =>
    intro c σ p hc hq hpL hN hv hn0
    obtain ⟨q1', q2', q3'⟩ := id hq
    by_cases h : p = L
    · refine ⟨1, σ, ?_, frW.rf, Or.inl ⟨rfl, ?_, ?_, ?_, ?_⟩⟩
      · rw [e183_52]
        simp (disch := first | assumption | omega | (simp (disch := omega) only [wN, w0, w1]; omega)) only [e183_0, e183_1, e183_2, e183_4, e183_7, e183_10, e183_11, e183_12, e183_15, e183_18, e183_19, e183_20, e183_21, e183_22, e183_25, e183_26, e183_27, e183_30, e183_31, e183_32, e183_35, e183_36, e183_39, e183_40, e183_43, e183_46, e183_47, e183_50, e183_51, e183_53, e183_56, e183_57, e183_60, e183_61, e183_64, e183_67, e183_68, e183_70, e183_73, e183_76, e183_77, e183_80, e183_83, e183_84, e183_87, e183_88, e183_89, e183_93, e183_94, e183_97, e183_98, e183_101, e183_102, e183_105, e183_106, e183_107, e183_110, e183_111, e183_112, e183_115, e183_116, e183_117, e183_118, e183_119, e183_121, e183_124, e183_125, e183_128, e183_129, e183_130, e183_133, e183_134, e183_135, e183_136, e183_139, e183_142, e183_143, e183_146, kl_I, kl_R, kl_N, kl_L, oSm, oNn, Option.bind_some, wN, if_pos, if_neg, nS, tN, t0, w0, w1, w2, w3, w4, w5, wm1, upA_ne, upA_same, if_true, if_false, Bool.false_eq_true, q2', q3']
      all_goals rw [rdK, if_pos h]
      · exact hN
      · exact hv
      · simp only; omega
    · obtain ⟨r, σ1, i1, i2⟩ := M179 (d := d + 1) (z := 59) hM hq hL (by omega) (by omega)
      rcases i2 with ⟨j1, rfl, j3, j4⟩ | ⟨j1, rfl, j3, j4⟩
      · have N1 := hN.fr j4 (by omega) (by omega)
        have n1 : σ1.1 124 8 = (n : Int) := by rw [j4.2 8 (by omega)]; exact hn0
        obtain ⟨r2, σ2, k1, k2, k3⟩ := M182 (d := d) hM j3 hL (by omega) N1 (by omega) n1 hn1 hn
        rcases k3 with ⟨g1, rfl, g3⟩ | ⟨g1, -⟩ | ⟨g1, -⟩
        · refine ⟨0, σ2, ?_, (j4.w (by omega) (by omega) (by omega) (by omega)).tr k2, Or.inr ⟨rfl, ?_, ?_⟩⟩
          · rw [e183_52]
            simp (disch := first | assumption | omega | (simp (disch := omega) only [wN, w0, w1]; omega)) only [e183_0, e183_1, e183_2, e183_4, e183_7, e183_10, e183_11, e183_12, e183_15, e183_18, e183_19, e183_20, e183_21, e183_22, e183_25, e183_26, e183_27, e183_30, e183_31, e183_32, e183_35, e183_36, e183_39, e183_40, e183_43, e183_46, e183_47, e183_50, e183_51, e183_53, e183_56, e183_57, e183_60, e183_61, e183_64, e183_67, e183_68, e183_70, e183_73, e183_76, e183_77, e183_80, e183_83, e183_84, e183_87, e183_88, e183_89, e183_93, e183_94, e183_97, e183_98, e183_101, e183_102, e183_105, e183_106, e183_107, e183_110, e183_111, e183_112, e183_115, e183_116, e183_117, e183_118, e183_119, e183_121, e183_124, e183_125, e183_128, e183_129, e183_130, e183_133, e183_134, e183_135, e183_136, e183_139, e183_142, e183_143, e183_146, kl_I, kl_R, kl_N, kl_L, oSm, oNn, Option.bind_some, wN, if_pos, if_neg, nS, tN, t0, w0, w1, w2, w3, w4, w5, wm1, upA_ne, upA_same, if_true, if_false, Bool.false_eq_true, q2', q3', i1, k1]
            rw [e183_52]
            simp (disch := first | assumption | omega | (simp (disch := omega) only [wN, w0, w1]; omega)) only [e183_0, e183_1, e183_2, e183_4, e183_7, e183_10, e183_11, e183_12, e183_15, e183_18, e183_19, e183_20, e183_21, e183_22, e183_25, e183_26, e183_27, e183_30, e183_31, e183_32, e183_35, e183_36, e183_39, e183_40, e183_43, e183_46, e183_47, e183_50, e183_51, e183_53, e183_56, e183_57, e183_60, e183_61, e183_64, e183_67, e183_68, e183_70, e183_73, e183_76, e183_77, e183_80, e183_83, e183_84, e183_87, e183_88, e183_89, e183_93, e183_94, e183_97, e183_98, e183_101, e183_102, e183_105, e183_106, e183_107, e183_110, e183_111, e183_112, e183_115, e183_116, e183_117, e183_118, e183_119, e183_121, e183_124, e183_125, e183_128, e183_129, e183_130, e183_133, e183_134, e183_135, e183_136, e183_139, e183_142, e183_143, e183_146, kl_I, kl_R, kl_N, kl_L, oSm, oNn, Option.bind_some, wN, if_pos, if_neg, nS, tN, t0, w0, w1, w2, w3, w4, w5, wm1, upA_ne, upA_same, if_true, if_false, Bool.false_eq_true]
          all_goals rw [rdK, if_neg h, if_neg (fun z => z j1), show 30 - c.length = 0 by omega, rdL]
          · simp only; omega
          · exact g3
        · omega
        · omega
      · refine ⟨0, σ1, ?_, j4.w (by omega) (by omega) (by omega) (by omega), Or.inr ⟨rfl, ?_, ?_⟩⟩
        · rw [e183_52]
          simp (disch := first | assumption | omega | (simp (disch := omega) only [wN, w0, w1]; omega)) only [e183_0, e183_1, e183_2, e183_4, e183_7, e183_10, e183_11, e183_12, e183_15, e183_18, e183_19, e183_20, e183_21, e183_22, e183_25, e183_26, e183_27, e183_30, e183_31, e183_32, e183_35, e183_36, e183_39, e183_40, e183_43, e183_46, e183_47, e183_50, e183_51, e183_53, e183_56, e183_57, e183_60, e183_61, e183_64, e183_67, e183_68, e183_70, e183_73, e183_76, e183_77, e183_80, e183_83, e183_84, e183_87, e183_88, e183_89, e183_93, e183_94, e183_97, e183_98, e183_101, e183_102, e183_105, e183_106, e183_107, e183_110, e183_111, e183_112, e183_115, e183_116, e183_117, e183_118, e183_119, e183_121, e183_124, e183_125, e183_128, e183_129, e183_130, e183_133, e183_134, e183_135, e183_136, e183_139, e183_142, e183_143, e183_146, kl_I, kl_R, kl_N, kl_L, oSm, oNn, Option.bind_some, wN, if_pos, if_neg, nS, tN, t0, w0, w1, w2, w3, w4, w5, wm1, upA_ne, upA_same, if_true, if_false, Bool.false_eq_true, q2', q3', i1]
          rw [e183_52]
          simp (disch := first | assumption | omega | (simp (disch := omega) only [wN, w0, w1]; omega)) only [e183_0, e183_1, e183_2, e183_4, e183_7, e183_10, e183_11, e183_12, e183_15, e183_18, e183_19, e183_20, e183_21, e183_22, e183_25, e183_26, e183_27, e183_30, e183_31, e183_32, e183_35, e183_36, e183_39, e183_40, e183_43, e183_46, e183_47, e183_50, e183_51, e183_53, e183_56, e183_57, e183_60, e183_61, e183_64, e183_67, e183_68, e183_70, e183_73, e183_76, e183_77, e183_80, e183_83, e183_84, e183_87, e183_88, e183_89, e183_93, e183_94, e183_97, e183_98, e183_101, e183_102, e183_105, e183_106, e183_107, e183_110, e183_111, e183_112, e183_115, e183_116, e183_117, e183_118, e183_119, e183_121, e183_124, e183_125, e183_128, e183_129, e183_130, e183_133, e183_134, e183_135, e183_136, e183_139, e183_142, e183_143, e183_146, kl_I, kl_R, kl_N, kl_L, oSm, oNn, Option.bind_some, wN, if_pos, if_neg, nS, tN, t0, w0, w1, w2, w3, w4, w5, wm1, upA_ne, upA_same, if_true, if_false, Bool.false_eq_true]
        all_goals rw [rdK, if_neg h, if_pos j1]
        · simp only; omega
        · exact j3
  | succ t ih =>
    intro c σ p hc hq hpL hN hv hn0
    obtain ⟨q1', q2', q3'⟩ := id hq
    by_cases h : p = L
    · refine ⟨1, σ, ?_, frW.rf, Or.inl ⟨rfl, ?_, ?_, ?_, ?_⟩⟩
      · rw [e183_52]
        simp (disch := first | assumption | omega | (simp (disch := omega) only [wN, w0, w1]; omega)) only [e183_0, e183_1, e183_2, e183_4, e183_7, e183_10, e183_11, e183_12, e183_15, e183_18, e183_19, e183_20, e183_21, e183_22, e183_25, e183_26, e183_27, e183_30, e183_31, e183_32, e183_35, e183_36, e183_39, e183_40, e183_43, e183_46, e183_47, e183_50, e183_51, e183_53, e183_56, e183_57, e183_60, e183_61, e183_64, e183_67, e183_68, e183_70, e183_73, e183_76, e183_77, e183_80, e183_83, e183_84, e183_87, e183_88, e183_89, e183_93, e183_94, e183_97, e183_98, e183_101, e183_102, e183_105, e183_106, e183_107, e183_110, e183_111, e183_112, e183_115, e183_116, e183_117, e183_118, e183_119, e183_121, e183_124, e183_125, e183_128, e183_129, e183_130, e183_133, e183_134, e183_135, e183_136, e183_139, e183_142, e183_143, e183_146, kl_I, kl_R, kl_N, kl_L, oSm, oNn, Option.bind_some, wN, if_pos, if_neg, nS, tN, t0, w0, w1, w2, w3, w4, w5, wm1, upA_ne, upA_same, if_true, if_false, Bool.false_eq_true, q2', q3']
      all_goals rw [rdK, if_pos h]
      · exact hN
      · exact hv
      · simp only; omega
    · obtain ⟨r, σ1, i1, i2⟩ := M179 (d := d + 1) (z := 59) hM hq hL (by omega) (by omega)
      rcases i2 with ⟨j1, rfl, j3, j4⟩ | ⟨j1, rfl, j3, j4⟩
      · have N1 := hN.fr j4 (by omega) (by omega)
        have n1 : σ1.1 124 8 = (n : Int) := by rw [j4.2 8 (by omega)]; exact hn0
        obtain ⟨r2, σ2, k1, k2, k3⟩ := M182 (d := d) hM j3 hL (by omega) N1 (by omega) n1 hn1 hn
        have f2 : frW 134 134 22 26 σ σ2 := (j4.w (by omega) (by omega) (by omega) (by omega)).tr k2
        have ef : 30 - c.length = t + 1 := by omega
        rcases k3 with ⟨g1, -⟩ | ⟨g1, g2, rfl, g3⟩ | ⟨g1, g2, rfl, g4, g5, g6, g7, g8⟩
        · omega
        · refine ⟨0, σ2, ?_, f2, Or.inr ⟨rfl, ?_, ?_⟩⟩
          · rw [e183_52]
            simp (disch := first | assumption | omega | (simp (disch := omega) only [wN, w0, w1]; omega)) only [e183_0, e183_1, e183_2, e183_4, e183_7, e183_10, e183_11, e183_12, e183_15, e183_18, e183_19, e183_20, e183_21, e183_22, e183_25, e183_26, e183_27, e183_30, e183_31, e183_32, e183_35, e183_36, e183_39, e183_40, e183_43, e183_46, e183_47, e183_50, e183_51, e183_53, e183_56, e183_57, e183_60, e183_61, e183_64, e183_67, e183_68, e183_70, e183_73, e183_76, e183_77, e183_80, e183_83, e183_84, e183_87, e183_88, e183_89, e183_93, e183_94, e183_97, e183_98, e183_101, e183_102, e183_105, e183_106, e183_107, e183_110, e183_111, e183_112, e183_115, e183_116, e183_117, e183_118, e183_119, e183_121, e183_124, e183_125, e183_128, e183_129, e183_130, e183_133, e183_134, e183_135, e183_136, e183_139, e183_142, e183_143, e183_146, kl_I, kl_R, kl_N, kl_L, oSm, oNn, Option.bind_some, wN, if_pos, if_neg, nS, tN, t0, w0, w1, w2, w3, w4, w5, wm1, upA_ne, upA_same, if_true, if_false, Bool.false_eq_true, q2', q3', i1, k1]
            rw [e183_52]
            simp (disch := first | assumption | omega | (simp (disch := omega) only [wN, w0, w1]; omega)) only [e183_0, e183_1, e183_2, e183_4, e183_7, e183_10, e183_11, e183_12, e183_15, e183_18, e183_19, e183_20, e183_21, e183_22, e183_25, e183_26, e183_27, e183_30, e183_31, e183_32, e183_35, e183_36, e183_39, e183_40, e183_43, e183_46, e183_47, e183_50, e183_51, e183_53, e183_56, e183_57, e183_60, e183_61, e183_64, e183_67, e183_68, e183_70, e183_73, e183_76, e183_77, e183_80, e183_83, e183_84, e183_87, e183_88, e183_89, e183_93, e183_94, e183_97, e183_98, e183_101, e183_102, e183_105, e183_106, e183_107, e183_110, e183_111, e183_112, e183_115, e183_116, e183_117, e183_118, e183_119, e183_121, e183_124, e183_125, e183_128, e183_129, e183_130, e183_133, e183_134, e183_135, e183_136, e183_139, e183_142, e183_143, e183_146, kl_I, kl_R, kl_N, kl_L, oSm, oNn, Option.bind_some, wN, if_pos, if_neg, nS, tN, t0, w0, w1, w2, w3, w4, w5, wm1, upA_ne, upA_same, if_true, if_false, Bool.false_eq_true]
          all_goals rw [rdK, if_neg h, if_neg (fun z => z j1), ef, rdL, if_pos g2]
          · exact g2
          · exact g3
        · have n2 : σ2.1 124 8 = (n : Int) := by rw [k2.2 8 (by omega)]; exact n1
          obtain ⟨b, σ', u1', u2'⟩ := ih (c ++ [(rdG B L n (p + 1)).2]) σ2 _ (by rw [List.length_append]; simp only [List.length_cons, List.length_nil]; omega) g4 (by omega) g5 (hv.app g6) n2
          refine ⟨b, σ', ?_, f2.tr u2'.1, ?_⟩
          · rw [← u1', e183_52]
            simp (disch := first | assumption | omega | (simp (disch := omega) only [wN, w0, w1]; omega)) only [e183_0, e183_1, e183_2, e183_4, e183_7, e183_10, e183_11, e183_12, e183_15, e183_18, e183_19, e183_20, e183_21, e183_22, e183_25, e183_26, e183_27, e183_30, e183_31, e183_32, e183_35, e183_36, e183_39, e183_40, e183_43, e183_46, e183_47, e183_50, e183_51, e183_53, e183_56, e183_57, e183_60, e183_61, e183_64, e183_67, e183_68, e183_70, e183_73, e183_76, e183_77, e183_80, e183_83, e183_84, e183_87, e183_88, e183_89, e183_93, e183_94, e183_97, e183_98, e183_101, e183_102, e183_105, e183_106, e183_107, e183_110, e183_111, e183_112, e183_115, e183_116, e183_117, e183_118, e183_119, e183_121, e183_124, e183_125, e183_128, e183_129, e183_130, e183_133, e183_134, e183_135, e183_136, e183_139, e183_142, e183_143, e183_146, kl_I, kl_R, kl_N, kl_L, oSm, oNn, Option.bind_some, wN, if_pos, if_neg, nS, tN, t0, w0, w1, w2, w3, w4, w5, wm1, upA_ne, upA_same, if_true, if_false, Bool.false_eq_true, q2', q3', i1, k1]
          · have e : rdK B L n p c = rdK B L n (rdG B L n (p + 1)).1.toNat (c ++ [(rdG B L n (p + 1)).2]) := by
              rw [rdK, if_neg h, if_neg (fun z => z j1)]
              exact rdL_g ef (rdG_e g2)
            rw [e]
            exact u2'.2
      · refine ⟨0, σ1, ?_, j4.w (by omega) (by omega) (by omega) (by omega), Or.inr ⟨rfl, ?_, ?_⟩⟩
        · rw [e183_52]
          simp (disch := first | assumption | omega | (simp (disch := omega) only [wN, w0, w1]; omega)) only [e183_0, e183_1, e183_2, e183_4, e183_7, e183_10, e183_11, e183_12, e183_15, e183_18, e183_19, e183_20, e183_21, e183_22, e183_25, e183_26, e183_27, e183_30, e183_31, e183_32, e183_35, e183_36, e183_39, e183_40, e183_43, e183_46, e183_47, e183_50, e183_51, e183_53, e183_56, e183_57, e183_60, e183_61, e183_64, e183_67, e183_68, e183_70, e183_73, e183_76, e183_77, e183_80, e183_83, e183_84, e183_87, e183_88, e183_89, e183_93, e183_94, e183_97, e183_98, e183_101, e183_102, e183_105, e183_106, e183_107, e183_110, e183_111, e183_112, e183_115, e183_116, e183_117, e183_118, e183_119, e183_121, e183_124, e183_125, e183_128, e183_129, e183_130, e183_133, e183_134, e183_135, e183_136, e183_139, e183_142, e183_143, e183_146, kl_I, kl_R, kl_N, kl_L, oSm, oNn, Option.bind_some, wN, if_pos, if_neg, nS, tN, t0, w0, w1, w2, w3, w4, w5, wm1, upA_ne, upA_same, if_true, if_false, Bool.false_eq_true, q2', q3', i1]
          rw [e183_52]
          simp (disch := first | assumption | omega | (simp (disch := omega) only [wN, w0, w1]; omega)) only [e183_0, e183_1, e183_2, e183_4, e183_7, e183_10, e183_11, e183_12, e183_15, e183_18, e183_19, e183_20, e183_21, e183_22, e183_25, e183_26, e183_27, e183_30, e183_31, e183_32, e183_35, e183_36, e183_39, e183_40, e183_43, e183_46, e183_47, e183_50, e183_51, e183_53, e183_56, e183_57, e183_60, e183_61, e183_64, e183_67, e183_68, e183_70, e183_73, e183_76, e183_77, e183_80, e183_83, e183_84, e183_87, e183_88, e183_89, e183_93, e183_94, e183_97, e183_98, e183_101, e183_102, e183_105, e183_106, e183_107, e183_110, e183_111, e183_112, e183_115, e183_116, e183_117, e183_118, e183_119, e183_121, e183_124, e183_125, e183_128, e183_129, e183_130, e183_133, e183_134, e183_135, e183_136, e183_139, e183_142, e183_143, e183_146, kl_I, kl_R, kl_N, kl_L, oSm, oNn, Option.bind_some, wN, if_pos, if_neg, nS, tN, t0, w0, w1, w2, w3, w4, w5, wm1, upA_ne, upA_same, if_true, if_false, Bool.false_eq_true]
        all_goals rw [rdK, if_neg h, if_pos j1]
        · simp only; omega
        · exact j3
end MH

