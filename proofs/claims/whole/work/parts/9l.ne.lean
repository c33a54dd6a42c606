/-! ===== the reference: shorter, shortest, counts ===== -/
section NE
variable {sh : Shp} {d t g h n : Nat} {σ : Mem} {z : Int} {c : List Gt} {a : AX}
theorem InvM.S {σ' : Mem} {c' : List Gt} {S : SB} (h : InvM sh σ a) (hf : frS 0 σ σ') (hG : HGm σ' 0 c') (hv : okC a.1.1 c') (h30 : c'.length ≤ 30) (hS : S = (a.1.1, c', a.1.2.2)) : InvM sh σ' (S, a.2) := by
  obtain ⟨⟨n, c, m, E, P, x⟩, K, B, s, T⟩ := a
  subst hS
  obtain ⟨k1, k2, k3, k4, k5, k6, k7, k8⟩ := id h.1
  obtain ⟨n1, n4', c30, hv0, m2, m5, E10, hvE, hPk, x16⟩ := (show okZ n c m E P x from k8)
  have h124 := hf.1 124 (by omega) (by omega) (by omega) (by omega)
  have hb : ∀ b, 127 ≤ b → b ≤ 136 → σ'.1 b = σ.1 b := fun b p q => hf.1 b (by omega) (by omega) (by omega) (by omega)
  refine h.now ⟨hG, by rw [h124]; exact k2, by rw [h124]; exact k3, by rw [h124]; exact k4, by rw [h124]; exact k5, fun j hj => ?_, fun y hy => ?_, ⟨n1, n4', h30, hv, m2, m5, E10, hvE, hPk, x16⟩⟩ (fun i _ _ => by rw [h124]) (fun i p1 p2 => hf.2.2 i (by omega)) (hf.2.1 1 (by omega)) (fun b p1 p2 => hb b (by omega) (by omega)) (hf.1 157 (by omega) (by omega) (by omega) (by omega))
  · rw [hb 127 (by omega) (by omega), hb 128 (by omega) (by omega)]; exact k6 j hj
  · rw [hb 129 (by omega) (by omega)]; exact k7 y hy
theorem frS.K {σ' : Mem} (hf : frS 2 σ σ') : KM σ σ' := ⟨fun i _ => by rw [hf.1 124 (by omega) (by omega) (by omega) (by omega)], fun i hi => hf.2.2 i (by omega), fun i hi => hf.2.1 i (by omega), fun a p q => hf.1 a (by omega) (by omega) (by omega) (by omega), hf.1 157 (by omega) (by omega) (by omega) (by omega)⟩
theorem M221 (hM : MS sh) (h : InvM sh σ a) : End (run sh (d + 5) 221 [mR 124] σ) (fun r σ' => r = some (mI (aShorter a).1) ∧ InvM sh σ' (aShorter a).2) := by
  have hI := h
  have mo := hM.1
  obtain ⟨⟨n, c, m, E, P, x⟩, K, B, s, T⟩ := a
  obtain ⟨⟨hG, hN, hMp, hEl, hx0, hE, hP, hoS⟩, hik, hKp, hTp, h140, hTm⟩ := id h
  replace hG : HGm σ 0 c := hG
  replace hN : σ.1 124 8 = (n : Int) := hN
  replace hMp : σ.1 124 9 = (m : Int) := hMp
  replace hEl : σ.1 124 10 = (E.length : Int) := hEl
  replace hx0 : σ.1 124 11 = (x : Int) := hx0
  replace hE : HEm σ 127 128 E := hE
  replace hP : ∀ y, y < n → σ.1 129 y = (P y : Int) := hP
  replace hoS : okZ n c m E P x := hoS
  replace hTp : HPm σ B s := hTp
  replace h140 : s ≤ 140 := h140
  replace hTm : HT sh σ 157 T := hTm
  replace hik : σ.1 124 16 = bi K.isSome := hik
  obtain ⟨n1, n4', c30, hv, m2, m5, E10, hvE, hPk, x16⟩ := id hoS
  obtain ⟨r, σ2, a1, rfl, a3, a4⟩ := M219 (d := d) (z := 0) hM hG (by omega) c30 hv hN n4' rfl
  have ok := shS_ok hv
  simp (disch := first | assumption | omega | (simp (disch := omega) only [wN, w0, w1]; omega)) only [e221_0, e221_1, e221_2, e221_5, kl_I, kl_R, kl_N, kl_L, oSm, oNn, Option.bind_some, wN, if_pos, if_neg, nS, tN, t0, w0, w1, w2, w3, w4, w5, wm1, upA_ne, upA_same, if_true, if_false, Bool.false_eq_true, q221, a1]
  exact End.of rfl ⟨rfl, hI.S a4 a3 ok.1 (by omega) rfl⟩
theorem M222 (hM : MS sh) (h : InvM sh σ a) : End (run sh (d + 6) 222 [mR 124] σ) (fun r σ' => r = some (mI (aShortest a).1) ∧ InvM sh σ' (aShortest a).2) := by
  have hI := h
  have mo := hM.1
  obtain ⟨⟨n, c, m, E, P, x⟩, K, B, s, T⟩ := a
  obtain ⟨⟨hG, hN, hMp, hEl, hx0, hE, hP, hoS⟩, hik, hKp, hTp, h140, hTm⟩ := id h
  replace hG : HGm σ 0 c := hG
  replace hN : σ.1 124 8 = (n : Int) := hN
  replace hMp : σ.1 124 9 = (m : Int) := hMp
  replace hEl : σ.1 124 10 = (E.length : Int) := hEl
  replace hx0 : σ.1 124 11 = (x : Int) := hx0
  replace hE : HEm σ 127 128 E := hE
  replace hP : ∀ y, y < n → σ.1 129 y = (P y : Int) := hP
  replace hoS : okZ n c m E P x := hoS
  replace hTp : HPm σ B s := hTp
  replace h140 : s ≤ 140 := h140
  replace hTm : HT sh σ 157 T := hTm
  replace hik : σ.1 124 16 = bi K.isSome := hik
  obtain ⟨n1, n4', c30, hv, m2, m5, E10, hvE, hPk, x16⟩ := id hoS
  obtain ⟨r, σ2, a1, rfl, a3, a4⟩ := M220 (d := d) (z := 0) hM hG (by omega) c30 hv hN n4' rfl
  have ok := shN_ok c.length hv
  simp (disch := first | assumption | omega | (simp (disch := omega) only [wN, w0, w1]; omega)) only [e222_0, e222_1, e222_2, e222_5, kl_I, kl_R, kl_N, kl_L, oSm, oNn, Option.bind_some, wN, if_pos, if_neg, nS, tN, t0, w0, w1, w2, w3, w4, w5, wm1, upA_ne, upA_same, if_true, if_false, Bool.false_eq_true, q222, a1]
  exact End.of rfl ⟨rfl, hI.S a4 a3 ok.1 (by have := ok.2; show (shN c.length c).length ≤ 30; omega) rfl⟩
theorem in_1 {σ : Mem} {z w v : Int} (hz : i32 z) (hw : i32 w) (hv : i32 v) (h : w ≤ z ∧ z ≤ v) : run sh d 164 [mI z, mI w, mI v] σ = some (some (mI 1), σ) := by
  rw [E164 hz hw hv, if_pos h]
theorem in_0 {σ : Mem} {z w v : Int} (hz : i32 z) (hw : i32 w) (hv : i32 v) (h : ¬ (w ≤ z ∧ z ≤ v)) : run sh d 164 [mI z, mI w, mI v] σ = some (some (mI 0), σ) := by
  rw [E164 hz hw hv, if_neg h]
theorem i32_n {k : Nat} (h : k < 1000000) : i32 (k : Int) := ⟨by omega, by omega⟩
/-- gates of a kind -/
theorem M223a {k : Nat} (hM : MS sh) (hG : HGm σ 0 c) (hc : c.length ≤ 30) (hv : okC n c) (hn : n ≤ 4) (hk : k ≤ 5) (hz : z = 10 + (k : Int)) : run sh (d + 3) 223 [mR 124, mI z] σ = some (some (mI (cnK c k c.length : Int)), σ) := by
  have mo := hM.1
  have m160 := hM.2.1
  obtain ⟨ra1, rk1, rl1⟩ := ms1 hM
  have hl := hG.1
  have zi : i32 z := ⟨by omega, by omega⟩
  have wz := zi.w
  have n1 := fun σ => in_1 (sh := sh) (d := d + 2) (σ := σ) (w := 10) (v := 15) zi ⟨by omega, by omega⟩ ⟨by omega, by omega⟩ (by omega)
  have n2 := fun σ => in_0 (sh := sh) (d := d + 2) (σ := σ) (w := 20) (v := 23) zi ⟨by omega, by omega⟩ ⟨by omega, by omega⟩ (by omega)
  have q1 : z - 10 = (k : Int) := by omega
  have w30 : wi 30 = 30 := rfl
  have w3 : wi 3 = 3 := rfl
  have bd : ∀ i, cnK c k i ≤ i := by
    intro i
    induction i with
    | zero => exact Nat.le_refl _
    | succ i ih =>
      rw [cnK]
      split <;> omega
  have F := for_up (fun i => ev sh (d + 3) 223 4 [some (mR (124)), some (mI (z)), some (mI ((cnK c k i : Nat) : Int)), some (mI ((i : Nat) : Int))] [] (σ)) (c.length) (fun i hi => by
    show ev sh (d + 3) 223 4 [some (mR (124)), some (mI (z)), some (mI ((cnK c k i : Nat) : Int)), some (mI ((i : Nat) : Int))] [] (σ) = ev sh (d + 3) 223 4 [some (mR (124)), some (mI (z)), some (mI ((cnK c k (i + 1) : Nat) : Int)), some (mI (((i + 1) : Nat) : Int))] [] (σ)
    have a0 := of0 (d := d + 2) (z := 0) hM hG (by omega) hc hi rfl
    have k5 := (hv.at hi).1
    have b := bd i
    rw [e223_4, cnK]
    by_cases e : (gA c i).1 = k
    · rw [if_pos e]
      rw [e] at a0
      simp (disch := first | assumption | omega | (simp (disch := omega) only [wN, w0, w1]; omega)) only [e223_0, e223_1, e223_2, e223_3, e223_5, e223_6, e223_9, e223_10, e223_11, e223_14, e223_15, e223_17, e223_19, e223_22, e223_25, e223_26, e223_27, e223_28, e223_29, e223_32, e223_33, e223_35, e223_36, e223_39, e223_40, e223_41, e223_42, e223_43, e223_44, e223_46, e223_48, e223_51, e223_54, e223_55, e223_56, e223_57, e223_58, e223_61, e223_64, e223_65, e223_66, e223_67, e223_68, e223_71, e223_72, e223_74, e223_75, e223_78, e223_79, e223_80, e223_81, e223_82, e223_83, e223_86, e223_87, e223_88, e223_89, e223_91, e223_94, e223_95, e223_96, e223_97, e223_100, e223_101, e223_103, e223_104, e223_107, e223_110, e223_111, e223_112, e223_113, e223_114, e223_115, e223_116, e223_119, e223_120, e223_121, e223_122, e223_125, e223_128, e223_129, e223_130, e223_131, e223_132, e223_135, e223_138, e223_139, e223_141, e223_143, e223_146, e223_149, e223_150, e223_152, e223_153, e223_156, e223_157, kl_I, kl_R, kl_N, kl_L, oSm, oNn, Option.bind_some, wN, if_pos, if_neg, nS, tN, t0, w0, w1, w2, w3, w4, w5, wm1, upA_ne, upA_same, if_true, if_false, Bool.false_eq_true, ra1, rl1, hl, n1, n2, a0, q1, w30, w3, wz]
    · rw [if_neg e]
      simp (disch := first | assumption | omega | (simp (disch := omega) only [wN, w0, w1]; omega)) only [e223_0, e223_1, e223_2, e223_3, e223_5, e223_6, e223_9, e223_10, e223_11, e223_14, e223_15, e223_17, e223_19, e223_22, e223_25, e223_26, e223_27, e223_28, e223_29, e223_32, e223_33, e223_35, e223_36, e223_39, e223_40, e223_41, e223_42, e223_43, e223_44, e223_46, e223_48, e223_51, e223_54, e223_55, e223_56, e223_57, e223_58, e223_61, e223_64, e223_65, e223_66, e223_67, e223_68, e223_71, e223_72, e223_74, e223_75, e223_78, e223_79, e223_80, e223_81, e223_82, e223_83, e223_86, e223_87, e223_88, e223_89, e223_91, e223_94, e223_95, e223_96, e223_97, e223_100, e223_101, e223_103, e223_104, e223_107, e223_110, e223_111, e223_112, e223_113, e223_114, e223_115, e223_116, e223_119, e223_120, e223_121, e223_122, e223_125, e223_128, e223_129, e223_130, e223_131, e223_132, e223_135, e223_138, e223_139, e223_141, e223_143, e223_146, e223_149, e223_150, e223_152, e223_153, e223_156, e223_157, kl_I, kl_R, kl_N, kl_L, oSm, oNn, Option.bind_some, wN, if_pos, if_neg, nS, tN, t0, w0, w1, w2, w3, w4, w5, wm1, upA_ne, upA_same, if_true, if_false, Bool.false_eq_true, ra1, rl1, hl, n1, n2, a0, q1, w30, w3, wz, Nat.add_zero]) 0 (Nat.zero_le _)
  have b := bd c.length
  simp (disch := first | assumption | omega | (simp (disch := omega) only [wN, w0, w1]; omega)) only [e223_0, e223_1, e223_2, e223_3, e223_5, e223_6, e223_9, e223_10, e223_11, e223_14, e223_15, e223_17, e223_19, e223_22, e223_25, e223_26, e223_27, e223_28, e223_29, e223_32, e223_33, e223_35, e223_36, e223_39, e223_40, e223_41, e223_42, e223_43, e223_44, e223_46, e223_48, e223_51, e223_54, e223_55, e223_56, e223_57, e223_58, e223_61, e223_64, e223_65, e223_66, e223_67, e223_68, e223_71, e223_72, e223_74, e223_75, e223_78, e223_79, e223_80, e223_81, e223_82, e223_83, e223_86, e223_87, e223_88, e223_89, e223_91, e223_94, e223_95, e223_96, e223_97, e223_100, e223_101, e223_103, e223_104, e223_107, e223_110, e223_111, e223_112, e223_113, e223_114, e223_115, e223_116, e223_119, e223_120, e223_121, e223_122, e223_125, e223_128, e223_129, e223_130, e223_131, e223_132, e223_135, e223_138, e223_139, e223_141, e223_143, e223_146, e223_149, e223_150, e223_152, e223_153, e223_156, e223_157, kl_I, kl_R, kl_N, kl_L, oSm, oNn, Option.bind_some, wN, if_pos, if_neg, nS, tN, t0, w0, w1, w2, w3, w4, w5, wm1, upA_ne, upA_same, if_true, if_false, Bool.false_eq_true, q223]
  refine F.trans ?_
  show ev sh (d + 3) 223 4 [some (mR (124)), some (mI (z)), some (mI ((cnK c k c.length : Nat) : Int)), some (mI ((c.length : Nat) : Int))] [] σ = _
  rw [e223_4]
  simp (disch := first | assumption | omega | (simp (disch := omega) only [wN, w0, w1]; omega)) only [e223_0, e223_1, e223_2, e223_3, e223_5, e223_6, e223_9, e223_10, e223_11, e223_14, e223_15, e223_17, e223_19, e223_22, e223_25, e223_26, e223_27, e223_28, e223_29, e223_32, e223_33, e223_35, e223_36, e223_39, e223_40, e223_41, e223_42, e223_43, e223_44, e223_46, e223_48, e223_51, e223_54, e223_55, e223_56, e223_57, e223_58, e223_61, e223_64, e223_65, e223_66, e223_67, e223_68, e223_71, e223_72, e223_74, e223_75, e223_78, e223_79, e223_80, e223_81, e223_82, e223_83, e223_86, e223_87, e223_88, e223_89, e223_91, e223_94, e223_95, e223_96, e223_97, e223_100, e223_101, e223_103, e223_104, e223_107, e223_110, e223_111, e223_112, e223_113, e223_114, e223_115, e223_116, e223_119, e223_120, e223_121, e223_122, e223_125, e223_128, e223_129, e223_130, e223_131, e223_132, e223_135, e223_138, e223_139, e223_141, e223_143, e223_146, e223_149, e223_150, e223_152, e223_153, e223_156, e223_157, kl_I, kl_R, kl_N, kl_L, oSm, oNn, Option.bind_some, wN, if_pos, if_neg, nS, tN, t0, w0, w1, w2, w3, w4, w5, wm1, upA_ne, upA_same, if_true, if_false, Bool.false_eq_true, ra1, rl1, hl, n2]
/-- turns on a line -/
theorem M223b {l : Nat} (hM : MS sh) (hG : HGm σ 0 c) (hc : c.length ≤ 30) (hv : okC n c) (hn : n ≤ 4) (hl4 : l < 4) (hz : z = 20 + (l : Int)) : run sh (d + 3) 223 [mR 124, mI z] σ = some (some (mI ((sum' (tuF c l) c.length % 8 : Nat) : Int)), σ) := by
  have mo := hM.1
  have m160 := hM.2.1
  obtain ⟨ra1, rk1, rl1⟩ := ms1 hM
  have hl := hG.1
  have zi : i32 z := ⟨by omega, by omega⟩
  have wz := zi.w
  have n1 := fun σ => in_0 (sh := sh) (d := d + 2) (σ := σ) (w := 10) (v := 15) zi ⟨by omega, by omega⟩ ⟨by omega, by omega⟩ (by omega)
  have n2 := fun σ => in_1 (sh := sh) (d := d + 2) (σ := σ) (w := 20) (v := 23) zi ⟨by omega, by omega⟩ ⟨by omega, by omega⟩ (by omega)
  have q1 : z - 20 = (l : Int) := by omega
  have w30 : wi 30 = 30 := rfl
  have w3 : wi 3 = 3 := rfl
  have t8 : ∀ y, y < c.length → tuF c l y ≤ 7 := fun y hy => by
    unfold tuF
    split
    · rename_i q
      have := (hv.at hy).2.2.1 q.1
      omega
    · omega
  have F := for_up (fun i => ev sh (d + 3) 223 4 [some (mR (124)), some (mI (z)), some (mI ((sum' (tuF c l) i : Nat) : Int)), some (mI ((i : Nat) : Int))] [] (σ)) (c.length) (fun i hi => by
    show ev sh (d + 3) 223 4 [some (mR (124)), some (mI (z)), some (mI ((sum' (tuF c l) i : Nat) : Int)), some (mI ((i : Nat) : Int))] [] (σ) = ev sh (d + 3) 223 4 [some (mR (124)), some (mI (z)), some (mI ((sum' (tuF c l) (i + 1) : Nat) : Int)), some (mI (((i + 1) : Nat) : Int))] [] (σ)
    have a0 := of0 (d := d + 2) (z := 0) hM hG (by omega) hc hi rfl
    have a1 := of1 (d := d + 2) (z := 0) hM hG (by omega) hc hi rfl
    have a3 := of3 (d := d + 2) (z := 0) hM hG (by omega) hc hi rfl
    have k5 := (hv.at hi).1
    have k4 := (hv.at hi).2.1
    have b := sum_le (f := tuF c l) (k := 7) i (fun y hy => t8 y (by omega))
    have es : sum' (tuF c l) (i + 1) = sum' (tuF c l) i + tuF c l i := rfl
    rw [e223_4, es]
    by_cases e : (gA c i).1 = 0
    · by_cases e2 : (gA c i).2.1 = l
      · have et : tuF c l i = (gA c i).2.2.toNat := by rw [tuF, if_pos ⟨e, e2⟩]
        have e7 := (hv.at hi).2.2.1 e
        rw [rk, if_pos e, show (gA c i).2.2 = ((tuF c l i : Nat) : Int) by rw [et]; omega] at a3
        rw [e] at a0
        rw [e2] at a1
        simp (disch := first | assumption | omega | (simp (disch := omega) only [wN, w0, w1]; omega)) only [e223_0, e223_1, e223_2, e223_3, e223_5, e223_6, e223_9, e223_10, e223_11, e223_14, e223_15, e223_17, e223_19, e223_22, e223_25, e223_26, e223_27, e223_28, e223_29, e223_32, e223_33, e223_35, e223_36, e223_39, e223_40, e223_41, e223_42, e223_43, e223_44, e223_46, e223_48, e223_51, e223_54, e223_55, e223_56, e223_57, e223_58, e223_61, e223_64, e223_65, e223_66, e223_67, e223_68, e223_71, e223_72, e223_74, e223_75, e223_78, e223_79, e223_80, e223_81, e223_82, e223_83, e223_86, e223_87, e223_88, e223_89, e223_91, e223_94, e223_95, e223_96, e223_97, e223_100, e223_101, e223_103, e223_104, e223_107, e223_110, e223_111, e223_112, e223_113, e223_114, e223_115, e223_116, e223_119, e223_120, e223_121, e223_122, e223_125, e223_128, e223_129, e223_130, e223_131, e223_132, e223_135, e223_138, e223_139, e223_141, e223_143, e223_146, e223_149, e223_150, e223_152, e223_153, e223_156, e223_157, kl_I, kl_R, kl_N, kl_L, oSm, oNn, Option.bind_some, wN, if_pos, if_neg, nS, tN, t0, w0, w1, w2, w3, w4, w5, wm1, upA_ne, upA_same, if_true, if_false, Bool.false_eq_true, ra1, rl1, hl, n1, n2, a0, a1, a3, q1, w30, w3, wz, ← Int.natCast_add]
      · have et : tuF c l i = 0 := by rw [tuF, if_neg (fun q => e2 q.2)]
        rw [e] at a0
        simp (disch := first | assumption | omega | (simp (disch := omega) only [wN, w0, w1]; omega)) only [e223_0, e223_1, e223_2, e223_3, e223_5, e223_6, e223_9, e223_10, e223_11, e223_14, e223_15, e223_17, e223_19, e223_22, e223_25, e223_26, e223_27, e223_28, e223_29, e223_32, e223_33, e223_35, e223_36, e223_39, e223_40, e223_41, e223_42, e223_43, e223_44, e223_46, e223_48, e223_51, e223_54, e223_55, e223_56, e223_57, e223_58, e223_61, e223_64, e223_65, e223_66, e223_67, e223_68, e223_71, e223_72, e223_74, e223_75, e223_78, e223_79, e223_80, e223_81, e223_82, e223_83, e223_86, e223_87, e223_88, e223_89, e223_91, e223_94, e223_95, e223_96, e223_97, e223_100, e223_101, e223_103, e223_104, e223_107, e223_110, e223_111, e223_112, e223_113, e223_114, e223_115, e223_116, e223_119, e223_120, e223_121, e223_122, e223_125, e223_128, e223_129, e223_130, e223_131, e223_132, e223_135, e223_138, e223_139, e223_141, e223_143, e223_146, e223_149, e223_150, e223_152, e223_153, e223_156, e223_157, kl_I, kl_R, kl_N, kl_L, oSm, oNn, Option.bind_some, wN, if_pos, if_neg, nS, tN, t0, w0, w1, w2, w3, w4, w5, wm1, upA_ne, upA_same, if_true, if_false, Bool.false_eq_true, ra1, rl1, hl, n1, n2, a0, a1, q1, w30, w3, wz, et, Nat.add_zero]
    · have et : tuF c l i = 0 := by rw [tuF, if_neg (fun q => e q.1)]
      simp (disch := first | assumption | omega | (simp (disch := omega) only [wN, w0, w1]; omega)) only [e223_0, e223_1, e223_2, e223_3, e223_5, e223_6, e223_9, e223_10, e223_11, e223_14, e223_15, e223_17, e223_19, e223_22, e223_25, e223_26, e223_27, e223_28, e223_29, e223_32, e223_33, e223_35, e223_36, e223_39, e223_40, e223_41, e223_42, e223_43, e223_44, e223_46, e223_48, e223_51, e223_54, e223_55, e223_56, e223_57, e223_58, e223_61, e223_64, e223_65, e223_66, e223_67, e223_68, e223_71, e223_72, e223_74, e223_75, e223_78, e223_79, e223_80, e223_81, e223_82, e223_83, e223_86, e223_87, e223_88, e223_89, e223_91, e223_94, e223_95, e223_96, e223_97, e223_100, e223_101, e223_103, e223_104, e223_107, e223_110, e223_111, e223_112, e223_113, e223_114, e223_115, e223_116, e223_119, e223_120, e223_121, e223_122, e223_125, e223_128, e223_129, e223_130, e223_131, e223_132, e223_135, e223_138, e223_139, e223_141, e223_143, e223_146, e223_149, e223_150, e223_152, e223_153, e223_156, e223_157, kl_I, kl_R, kl_N, kl_L, oSm, oNn, Option.bind_some, wN, if_pos, if_neg, nS, tN, t0, w0, w1, w2, w3, w4, w5, wm1, upA_ne, upA_same, if_true, if_false, Bool.false_eq_true, ra1, rl1, hl, n1, n2, a0, q1, w30, w3, wz, et, Nat.add_zero]) 0 (Nat.zero_le _)
  have b := sum_le (f := tuF c l) (k := 7) c.length t8
  have x8 := xrem_nn (a := sum' (tuF c l) c.length) (b := 8) (by omega) (by omega)
  replace x8 : xrem (sum' (tuF c l) c.length : Int) 8 = _ := x8
  have w8 : wi 8 = 8 := rfl
  simp (disch := first | assumption | omega | (simp (disch := omega) only [wN, w0, w1]; omega)) only [e223_0, e223_1, e223_2, e223_3, e223_5, e223_6, e223_9, e223_10, e223_11, e223_14, e223_15, e223_17, e223_19, e223_22, e223_25, e223_26, e223_27, e223_28, e223_29, e223_32, e223_33, e223_35, e223_36, e223_39, e223_40, e223_41, e223_42, e223_43, e223_44, e223_46, e223_48, e223_51, e223_54, e223_55, e223_56, e223_57, e223_58, e223_61, e223_64, e223_65, e223_66, e223_67, e223_68, e223_71, e223_72, e223_74, e223_75, e223_78, e223_79, e223_80, e223_81, e223_82, e223_83, e223_86, e223_87, e223_88, e223_89, e223_91, e223_94, e223_95, e223_96, e223_97, e223_100, e223_101, e223_103, e223_104, e223_107, e223_110, e223_111, e223_112, e223_113, e223_114, e223_115, e223_116, e223_119, e223_120, e223_121, e223_122, e223_125, e223_128, e223_129, e223_130, e223_131, e223_132, e223_135, e223_138, e223_139, e223_141, e223_143, e223_146, e223_149, e223_150, e223_152, e223_153, e223_156, e223_157, kl_I, kl_R, kl_N, kl_L, oSm, oNn, Option.bind_some, wN, if_pos, if_neg, nS, tN, t0, w0, w1, w2, w3, w4, w5, wm1, upA_ne, upA_same, if_true, if_false, Bool.false_eq_true, q223]
  refine F.trans ?_
  show ev sh (d + 3) 223 4 [some (mR (124)), some (mI (z)), some (mI ((sum' (tuF c l) c.length : Nat) : Int)), some (mI ((c.length : Nat) : Int))] [] σ = _
  rw [e223_4]
  simp (disch := first | assumption | omega | (simp (disch := omega) only [wN, w0, w1]; omega)) only [e223_0, e223_1, e223_2, e223_3, e223_5, e223_6, e223_9, e223_10, e223_11, e223_14, e223_15, e223_17, e223_19, e223_22, e223_25, e223_26, e223_27, e223_28, e223_29, e223_32, e223_33, e223_35, e223_36, e223_39, e223_40, e223_41, e223_42, e223_43, e223_44, e223_46, e223_48, e223_51, e223_54, e223_55, e223_56, e223_57, e223_58, e223_61, e223_64, e223_65, e223_66, e223_67, e223_68, e223_71, e223_72, e223_74, e223_75, e223_78, e223_79, e223_80, e223_81, e223_82, e223_83, e223_86, e223_87, e223_88, e223_89, e223_91, e223_94, e223_95, e223_96, e223_97, e223_100, e223_101, e223_103, e223_104, e223_107, e223_110, e223_111, e223_112, e223_113, e223_114, e223_115, e223_116, e223_119, e223_120, e223_121, e223_122, e223_125, e223_128, e223_129, e223_130, e223_131, e223_132, e223_135, e223_138, e223_139, e223_141, e223_143, e223_146, e223_149, e223_150, e223_152, e223_153, e223_156, e223_157, kl_I, kl_R, kl_N, kl_L, oSm, oNn, Option.bind_some, wN, if_pos, if_neg, nS, tN, t0, w0, w1, w2, w3, w4, w5, wm1, upA_ne, upA_same, if_true, if_false, Bool.false_eq_true, ra1, rl1, hl, n2, x8, w8]
/-- gates on a line -/
theorem M223c {l : Nat} (hM : MS sh) (hG : HGm σ 0 c) (hc : c.length ≤ 30) (hv : okC n c) (hn : n ≤ 4) (hl4 : l < 4) (hz : z = 30 + (l : Int)) : run sh (d + 3) 223 [mR 124, mI z] σ = some (some (mI (cnt (fun x => (gm (gA c x)).testBit l) c.length : Int)), σ) := by
  have mo := hM.1
  have m160 := hM.2.1
  obtain ⟨ra1, rk1, rl1⟩ := ms1 hM
  have hl := hG.1
  have zi : i32 z := ⟨by omega, by omega⟩
  have wz := zi.w
  have n1 := fun σ => in_0 (sh := sh) (d := d + 2) (σ := σ) (w := 10) (v := 15) zi ⟨by omega, by omega⟩ ⟨by omega, by omega⟩ (by omega)
  have n2 := fun σ => in_0 (sh := sh) (d := d + 2) (σ := σ) (w := 20) (v := 23) zi ⟨by omega, by omega⟩ ⟨by omega, by omega⟩ (by omega)
  have q1 : z - 30 = (l : Int) := by omega
  have w30 : wi 30 = 30 := rfl
  have w3 : wi 3 = 3 := rfl
  have F := for_up (fun i => ev sh (d + 3) 223 4 [some (mR (124)), some (mI (z)), some (mI ((cnt (fun x => (gm (gA c x)).testBit l) i : Nat) : Int)), some (mI ((i : Nat) : Int))] [] (σ)) (c.length) (fun i hi => by
    show ev sh (d + 3) 223 4 [some (mR (124)), some (mI (z)), some (mI ((cnt (fun x => (gm (gA c x)).testBit l) i : Nat) : Int)), some (mI ((i : Nat) : Int))] [] (σ) = ev sh (d + 3) 223 4 [some (mR (124)), some (mI (z)), some (mI ((cnt (fun x => (gm (gA c x)).testBit l) (i + 1) : Nat) : Int)), some (mI (((i + 1) : Nat) : Int))] [] (σ)
    have a4 := E174 (d := d) (z := 0) hM hG (by omega) hc hv (by omega) hi rfl
    have gi := gm_lt (hv.at hi) (by omega)
    have hb := E167 (sh := sh) (d := d + 2) (σ := σ) (b := gm (gA c i)) (k := l) (by omega) (by omega)
    have b := cnt_le (fun x => (gm (gA c x)).testBit l) i
    have es : cnt (fun x => (gm (gA c x)).testBit l) (i + 1) = cnt (fun x => (gm (gA c x)).testBit l) i + if (gm (gA c i)).testBit l = true then 1 else 0 := rfl
    rw [e223_4, es]
    by_cases e : (gm (gA c i)).testBit l = true
    · rw [if_pos e]
      rw [e] at hb
      replace hb : run sh (d + 2) 167 [mI (gm (gA c i) : Int), mI (l : Int)] σ = some (some (mI 1), σ) := hb
      simp (disch := first | assumption | omega | (simp (disch := omega) only [wN, w0, w1]; omega)) only [e223_0, e223_1, e223_2, e223_3, e223_5, e223_6, e223_9, e223_10, e223_11, e223_14, e223_15, e223_17, e223_19, e223_22, e223_25, e223_26, e223_27, e223_28, e223_29, e223_32, e223_33, e223_35, e223_36, e223_39, e223_40, e223_41, e223_42, e223_43, e223_44, e223_46, e223_48, e223_51, e223_54, e223_55, e223_56, e223_57, e223_58, e223_61, e223_64, e223_65, e223_66, e223_67, e223_68, e223_71, e223_72, e223_74, e223_75, e223_78, e223_79, e223_80, e223_81, e223_82, e223_83, e223_86, e223_87, e223_88, e223_89, e223_91, e223_94, e223_95, e223_96, e223_97, e223_100, e223_101, e223_103, e223_104, e223_107, e223_110, e223_111, e223_112, e223_113, e223_114, e223_115, e223_116, e223_119, e223_120, e223_121, e223_122, e223_125, e223_128, e223_129, e223_130, e223_131, e223_132, e223_135, e223_138, e223_139, e223_141, e223_143, e223_146, e223_149, e223_150, e223_152, e223_153, e223_156, e223_157, kl_I, kl_R, kl_N, kl_L, oSm, oNn, Option.bind_some, wN, if_pos, if_neg, nS, tN, t0, w0, w1, w2, w3, w4, w5, wm1, upA_ne, upA_same, if_true, if_false, Bool.false_eq_true, ra1, rl1, hl, n1, n2, a4, hb, q1, w30, w3, wz]
    · rw [if_neg e]
      have e' : (gm (gA c i)).testBit l = false := by simpa using e
      rw [e'] at hb
      replace hb : run sh (d + 2) 167 [mI (gm (gA c i) : Int), mI (l : Int)] σ = some (some (mI 0), σ) := hb
      simp (disch := first | assumption | omega | (simp (disch := omega) only [wN, w0, w1]; omega)) only [e223_0, e223_1, e223_2, e223_3, e223_5, e223_6, e223_9, e223_10, e223_11, e223_14, e223_15, e223_17, e223_19, e223_22, e223_25, e223_26, e223_27, e223_28, e223_29, e223_32, e223_33, e223_35, e223_36, e223_39, e223_40, e223_41, e223_42, e223_43, e223_44, e223_46, e223_48, e223_51, e223_54, e223_55, e223_56, e223_57, e223_58, e223_61, e223_64, e223_65, e223_66, e223_67, e223_68, e223_71, e223_72, e223_74, e223_75, e223_78, e223_79, e223_80, e223_81, e223_82, e223_83, e223_86, e223_87, e223_88, e223_89, e223_91, e223_94, e223_95, e223_96, e223_97, e223_100, e223_101, e223_103, e223_104, e223_107, e223_110, e223_111, e223_112, e223_113, e223_114, e223_115, e223_116, e223_119, e223_120, e223_121, e223_122, e223_125, e223_128, e223_129, e223_130, e223_131, e223_132, e223_135, e223_138, e223_139, e223_141, e223_143, e223_146, e223_149, e223_150, e223_152, e223_153, e223_156, e223_157, kl_I, kl_R, kl_N, kl_L, oSm, oNn, Option.bind_some, wN, if_pos, if_neg, nS, tN, t0, w0, w1, w2, w3, w4, w5, wm1, upA_ne, upA_same, if_true, if_false, Bool.false_eq_true, ra1, rl1, hl, n1, n2, a4, hb, q1, w30, w3, wz, Nat.add_zero]) 0 (Nat.zero_le _)
  have b := cnt_le (fun x => (gm (gA c x)).testBit l) c.length
  simp (disch := first | assumption | omega | (simp (disch := omega) only [wN, w0, w1]; omega)) only [e223_0, e223_1, e223_2, e223_3, e223_5, e223_6, e223_9, e223_10, e223_11, e223_14, e223_15, e223_17, e223_19, e223_22, e223_25, e223_26, e223_27, e223_28, e223_29, e223_32, e223_33, e223_35, e223_36, e223_39, e223_40, e223_41, e223_42, e223_43, e223_44, e223_46, e223_48, e223_51, e223_54, e223_55, e223_56, e223_57, e223_58, e223_61, e223_64, e223_65, e223_66, e223_67, e223_68, e223_71, e223_72, e223_74, e223_75, e223_78, e223_79, e223_80, e223_81, e223_82, e223_83, e223_86, e223_87, e223_88, e223_89, e223_91, e223_94, e223_95, e223_96, e223_97, e223_100, e223_101, e223_103, e223_104, e223_107, e223_110, e223_111, e223_112, e223_113, e223_114, e223_115, e223_116, e223_119, e223_120, e223_121, e223_122, e223_125, e223_128, e223_129, e223_130, e223_131, e223_132, e223_135, e223_138, e223_139, e223_141, e223_143, e223_146, e223_149, e223_150, e223_152, e223_153, e223_156, e223_157, kl_I, kl_R, kl_N, kl_L, oSm, oNn, Option.bind_some, wN, if_pos, if_neg, nS, tN, t0, w0, w1, w2, w3, w4, w5, wm1, upA_ne, upA_same, if_true, if_false, Bool.false_eq_true, q223]
  refine F.trans ?_
  show ev sh (d + 3) 223 4 [some (mR (124)), some (mI (z)), some (mI ((cnt (fun x => (gm (gA c x)).testBit l) c.length : Nat) : Int)), some (mI ((c.length : Nat) : Int))] [] σ = _
  rw [e223_4]
  simp (disch := first | assumption | omega | (simp (disch := omega) only [wN, w0, w1]; omega)) only [e223_0, e223_1, e223_2, e223_3, e223_5, e223_6, e223_9, e223_10, e223_11, e223_14, e223_15, e223_17, e223_19, e223_22, e223_25, e223_26, e223_27, e223_28, e223_29, e223_32, e223_33, e223_35, e223_36, e223_39, e223_40, e223_41, e223_42, e223_43, e223_44, e223_46, e223_48, e223_51, e223_54, e223_55, e223_56, e223_57, e223_58, e223_61, e223_64, e223_65, e223_66, e223_67, e223_68, e223_71, e223_72, e223_74, e223_75, e223_78, e223_79, e223_80, e223_81, e223_82, e223_83, e223_86, e223_87, e223_88, e223_89, e223_91, e223_94, e223_95, e223_96, e223_97, e223_100, e223_101, e223_103, e223_104, e223_107, e223_110, e223_111, e223_112, e223_113, e223_114, e223_115, e223_116, e223_119, e223_120, e223_121, e223_122, e223_125, e223_128, e223_129, e223_130, e223_131, e223_132, e223_135, e223_138, e223_139, e223_141, e223_143, e223_146, e223_149, e223_150, e223_152, e223_153, e223_156, e223_157, kl_I, kl_R, kl_N, kl_L, oSm, oNn, Option.bind_some, wN, if_pos, if_neg, nS, tN, t0, w0, w1, w2, w3, w4, w5, wm1, upA_ne, upA_same, if_true, if_false, Bool.false_eq_true, ra1, rl1, hl, n2]
/-- gates of two lines -/
theorem M223d (hM : MS sh) (hG : HGm σ 0 c) (hc : c.length ≤ 30) (hv : okC n c) (hn : n ≤ 4) : run sh (d + 3) 223 [mR 124, mI 3] σ = some (some (mI ((cnK c 3 c.length : Int) + (cnK c 4 c.length : Int) + (cnK c 5 c.length : Int))), σ) := by
  have mo := hM.1
  have m160 := hM.2.1
  obtain ⟨ra1, rk1, rl1⟩ := ms1 hM
  have hl := hG.1
  have zi : i32 3 := ⟨by omega, by omega⟩
  have n1 := fun σ => in_0 (sh := sh) (d := d + 2) (σ := σ) (w := 10) (v := 15) zi ⟨by omega, by omega⟩ ⟨by omega, by omega⟩ (by omega)
  have n2 := fun σ => in_0 (sh := sh) (d := d + 2) (σ := σ) (w := 20) (v := 23) zi ⟨by omega, by omega⟩ ⟨by omega, by omega⟩ (by omega)
  have w30 : wi 30 = 30 := rfl
  have w3 : wi 3 = 3 := rfl
  have F := for_up (fun i => ev sh (d + 3) 223 4 [some (mR (124)), some (mI (3)), some (mI ((cnt (fun x => decide (3 ≤ (gA c x).1)) i : Nat) : Int)), some (mI ((i : Nat) : Int))] [] (σ)) (c.length) (fun i hi => by
    show ev sh (d + 3) 223 4 [some (mR (124)), some (mI (3)), some (mI ((cnt (fun x => decide (3 ≤ (gA c x).1)) i : Nat) : Int)), some (mI ((i : Nat) : Int))] [] (σ) = ev sh (d + 3) 223 4 [some (mR (124)), some (mI (3)), some (mI ((cnt (fun x => decide (3 ≤ (gA c x).1)) (i + 1) : Nat) : Int)), some (mI (((i + 1) : Nat) : Int))] [] (σ)
    have a4 := E173 (d := d + 1) (z := 0) hM hG (by omega) hc hv hi rfl
    have b := cnt_le (fun x => decide (3 ≤ (gA c x).1)) i
    have es : cnt (fun x => decide (3 ≤ (gA c x).1)) (i + 1) = cnt (fun x => decide (3 ≤ (gA c x).1)) i + if decide (3 ≤ (gA c i).1) = true then 1 else 0 := rfl
    rw [e223_4, es]
    by_cases e : 3 ≤ (gA c i).1
    · rw [if_pos (decide_eq_true e)]
      rw [if_pos e] at a4
      simp (disch := first | assumption | omega | (simp (disch := omega) only [wN, w0, w1]; omega)) only [e223_0, e223_1, e223_2, e223_3, e223_5, e223_6, e223_9, e223_10, e223_11, e223_14, e223_15, e223_17, e223_19, e223_22, e223_25, e223_26, e223_27, e223_28, e223_29, e223_32, e223_33, e223_35, e223_36, e223_39, e223_40, e223_41, e223_42, e223_43, e223_44, e223_46, e223_48, e223_51, e223_54, e223_55, e223_56, e223_57, e223_58, e223_61, e223_64, e223_65, e223_66, e223_67, e223_68, e223_71, e223_72, e223_74, e223_75, e223_78, e223_79, e223_80, e223_81, e223_82, e223_83, e223_86, e223_87, e223_88, e223_89, e223_91, e223_94, e223_95, e223_96, e223_97, e223_100, e223_101, e223_103, e223_104, e223_107, e223_110, e223_111, e223_112, e223_113, e223_114, e223_115, e223_116, e223_119, e223_120, e223_121, e223_122, e223_125, e223_128, e223_129, e223_130, e223_131, e223_132, e223_135, e223_138, e223_139, e223_141, e223_143, e223_146, e223_149, e223_150, e223_152, e223_153, e223_156, e223_157, kl_I, kl_R, kl_N, kl_L, oSm, oNn, Option.bind_some, wN, if_pos, if_neg, nS, tN, t0, w0, w1, w2, w3, w4, w5, wm1, upA_ne, upA_same, if_true, if_false, Bool.false_eq_true, ra1, rl1, hl, n1, n2, a4, w30, w3]
    · rw [if_neg (by simp [e])]
      rw [if_neg e] at a4
      simp (disch := first | assumption | omega | (simp (disch := omega) only [wN, w0, w1]; omega)) only [e223_0, e223_1, e223_2, e223_3, e223_5, e223_6, e223_9, e223_10, e223_11, e223_14, e223_15, e223_17, e223_19, e223_22, e223_25, e223_26, e223_27, e223_28, e223_29, e223_32, e223_33, e223_35, e223_36, e223_39, e223_40, e223_41, e223_42, e223_43, e223_44, e223_46, e223_48, e223_51, e223_54, e223_55, e223_56, e223_57, e223_58, e223_61, e223_64, e223_65, e223_66, e223_67, e223_68, e223_71, e223_72, e223_74, e223_75, e223_78, e223_79, e223_80, e223_81, e223_82, e223_83, e223_86, e223_87, e223_88, e223_89, e223_91, e223_94, e223_95, e223_96, e223_97, e223_100, e223_101, e223_103, e223_104, e223_107, e223_110, e223_111, e223_112, e223_113, e223_114, e223_115, e223_116, e223_119, e223_120, e223_121, e223_122, e223_125, e223_128, e223_129, e223_130, e223_131, e223_132, e223_135, e223_138, e223_139, e223_141, e223_143, e223_146, e223_149, e223_150, e223_152, e223_153, e223_156, e223_157, kl_I, kl_R, kl_N, kl_L, oSm, oNn, Option.bind_some, wN, if_pos, if_neg, nS, tN, t0, w0, w1, w2, w3, w4, w5, wm1, upA_ne, upA_same, if_true, if_false, Bool.false_eq_true, ra1, rl1, hl, n1, n2, a4, w30, w3, Nat.add_zero]) 0 (Nat.zero_le _)
  have b := cnt_le (fun x => decide (3 ≤ (gA c x).1)) c.length
  have es : ∀ k, k ≤ c.length → cnt (fun x => decide (3 ≤ (gA c x).1)) k = cnK c 3 k + cnK c 4 k + cnK c 5 k := by
    intro k
    induction k with
    | zero => intro _; rfl
    | succ k ih =>
      intro hk
      have k5 := (hv.at (show k < c.length by omega)).1
      rw [cnt, cnK, cnK, cnK, ih (by omega)]
      rcases (show (gA c k).1 = 0 ∨ (gA c k).1 = 1 ∨ (gA c k).1 = 2 ∨ (gA c k).1 = 3 ∨ (gA c k).1 = 4 ∨ (gA c k).1 = 5 by omega) with e | e | e | e | e | e <;> rw [e] <;> simp <;> omega
  simp (disch := first | assumption | omega | (simp (disch := omega) only [wN, w0, w1]; omega)) only [e223_0, e223_1, e223_2, e223_3, e223_5, e223_6, e223_9, e223_10, e223_11, e223_14, e223_15, e223_17, e223_19, e223_22, e223_25, e223_26, e223_27, e223_28, e223_29, e223_32, e223_33, e223_35, e223_36, e223_39, e223_40, e223_41, e223_42, e223_43, e223_44, e223_46, e223_48, e223_51, e223_54, e223_55, e223_56, e223_57, e223_58, e223_61, e223_64, e223_65, e223_66, e223_67, e223_68, e223_71, e223_72, e223_74, e223_75, e223_78, e223_79, e223_80, e223_81, e223_82, e223_83, e223_86, e223_87, e223_88, e223_89, e223_91, e223_94, e223_95, e223_96, e223_97, e223_100, e223_101, e223_103, e223_104, e223_107, e223_110, e223_111, e223_112, e223_113, e223_114, e223_115, e223_116, e223_119, e223_120, e223_121, e223_122, e223_125, e223_128, e223_129, e223_130, e223_131, e223_132, e223_135, e223_138, e223_139, e223_141, e223_143, e223_146, e223_149, e223_150, e223_152, e223_153, e223_156, e223_157, kl_I, kl_R, kl_N, kl_L, oSm, oNn, Option.bind_some, wN, if_pos, if_neg, nS, tN, t0, w0, w1, w2, w3, w4, w5, wm1, upA_ne, upA_same, if_true, if_false, Bool.false_eq_true, q223]
  refine F.trans ?_
  show ev sh (d + 3) 223 4 [some (mR (124)), some (mI (3)), some (mI ((cnt (fun x => decide (3 ≤ (gA c x).1)) c.length : Nat) : Int)), some (mI ((c.length : Nat) : Int))] [] σ = _
  rw [e223_4]
  simp (disch := first | assumption | omega | (simp (disch := omega) only [wN, w0, w1]; omega)) only [e223_0, e223_1, e223_2, e223_3, e223_5, e223_6, e223_9, e223_10, e223_11, e223_14, e223_15, e223_17, e223_19, e223_22, e223_25, e223_26, e223_27, e223_28, e223_29, e223_32, e223_33, e223_35, e223_36, e223_39, e223_40, e223_41, e223_42, e223_43, e223_44, e223_46, e223_48, e223_51, e223_54, e223_55, e223_56, e223_57, e223_58, e223_61, e223_64, e223_65, e223_66, e223_67, e223_68, e223_71, e223_72, e223_74, e223_75, e223_78, e223_79, e223_80, e223_81, e223_82, e223_83, e223_86, e223_87, e223_88, e223_89, e223_91, e223_94, e223_95, e223_96, e223_97, e223_100, e223_101, e223_103, e223_104, e223_107, e223_110, e223_111, e223_112, e223_113, e223_114, e223_115, e223_116, e223_119, e223_120, e223_121, e223_122, e223_125, e223_128, e223_129, e223_130, e223_131, e223_132, e223_135, e223_138, e223_139, e223_141, e223_143, e223_146, e223_149, e223_150, e223_152, e223_153, e223_156, e223_157, kl_I, kl_R, kl_N, kl_L, oSm, oNn, Option.bind_some, wN, if_pos, if_neg, nS, tN, t0, w0, w1, w2, w3, w4, w5, wm1, upA_ne, upA_same, if_true, if_false, Bool.false_eq_true, ra1, rl1, hl, n2]
  rw [es _ (Nat.le_refl _)]
  rfl
end NE

