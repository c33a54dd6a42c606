/-! ===== the reference: circuit, whole ===== -/
section MIa
variable {sh : Shp} {d t g n : Nat} {σ : Mem} {a : AX} {z w v u lo : Int} {c : List Gt} {B : Nat → Nat} {L p : Nat}
/-- the gates read are laid down -/
theorem cpG (hM : MS sh) {k0 : Option MV} {q : Int} (hNm : σ.1 124 26 = q) : End (ev sh d 183 118 [some (mR (124)), some (mI ((L : Nat) : Int)), some (mI (1)), some (mI ((0 : Nat) : Int))] [] σ) (fun r σ' => r = some (mI q) ∧ (∀ j, j < 120 → σ'.1 125 j = σ.1 134 j) ∧ (∀ j, 120 ≤ j → σ'.1 125 j = σ.1 125 j) ∧ frW 125 125 1 0 σ σ') := by
  have mo := hM.1
  have m160 := hM.2.1
  obtain ⟨ra0, rk0, rl0⟩ := ms0 hM
  obtain ⟨ra18, rk18, rl18⟩ := ms18 hM
  have w120 : wi 120 = 120 := rfl
  have C := for_P (120) (fun i => ∀ (σ1 : Mem), ((∀ j, j < i → σ1.1 125 j = σ.1 134 j) ∧ (∀ j, i ≤ j → σ1.1 125 j = σ.1 125 j) ∧ frW 125 125 1 0 σ σ1) → End (ev sh d 183 118 [some (mR (124)), some (mI ((L : Nat) : Int)), some (mI (1)), some (mI ((i : Nat) : Int))] [] σ1) (fun r σ' => r = some (mI q) ∧ (∀ j, j < 120 → σ'.1 125 j = σ.1 134 j) ∧ (∀ j, 120 ≤ j → σ'.1 125 j = σ.1 125 j) ∧ frW 125 125 1 0 σ σ')) (by
    intro σ1  hp
    replace hp : (∀ j, j < (120) → σ1.1 125 j = σ.1 134 j) ∧ (∀ j, (120) ≤ j → σ1.1 125 j = σ.1 125 j) ∧ frW 125 125 1 0 σ σ1 := hp
    show End (ev sh d 183 118 [some (mR (124)), some (mI ((L : Nat) : Int)), some (mI (1)), some (mI (((120) : Nat) : Int))] [] σ1) (fun r σ' => r = some (mI q) ∧ (∀ j, j < 120 → σ'.1 125 j = σ.1 134 j) ∧ (∀ j, 120 ≤ j → σ'.1 125 j = σ.1 125 j) ∧ frW 125 125 1 0 σ σ')
    have h26 : σ1.1 124 26 = q := by rw [hp.2.2.2 26 (by omega)]; exact hNm
    rw [e183_118]
    simp (disch := first | assumption | omega | (simp (disch := omega) only [wN, w0, w1]; omega)) only [e183_0, e183_1, e183_2, e183_4, e183_7, e183_10, e183_11, e183_12, e183_15, e183_18, e183_19, e183_20, e183_21, e183_22, e183_25, e183_26, e183_27, e183_30, e183_31, e183_32, e183_35, e183_36, e183_39, e183_40, e183_43, e183_46, e183_47, e183_50, e183_51, e183_53, e183_56, e183_57, e183_60, e183_61, e183_64, e183_67, e183_68, e183_70, e183_73, e183_76, e183_77, e183_80, e183_83, e183_84, e183_87, e183_88, e183_89, e183_92, e183_93, e183_94, e183_97, e183_98, e183_101, e183_102, e183_105, e183_106, e183_107, e183_110, e183_111, e183_112, e183_115, e183_116, e183_117, e183_119, e183_121, e183_124, e183_125, e183_128, e183_129, e183_130, e183_133, e183_134, e183_135, e183_136, e183_139, e183_142, e183_143, e183_146, kl_I, kl_R, kl_N, kl_L, oSm, oNn, Option.bind_some, wN, if_pos, if_neg, nS, tN, t0, w0, w1, w2, w3, w4, w5, wm1, upA_ne, upA_same, if_true, if_false, Bool.false_eq_true, w120, h26]
    exact End.of rfl ⟨rfl, hp⟩) (fun i hi ih => by
    replace ih : ∀ (σ1 : Mem), ((∀ j, j < (i + 1) → σ1.1 125 j = σ.1 134 j) ∧ (∀ j, (i + 1) ≤ j → σ1.1 125 j = σ.1 125 j) ∧ frW 125 125 1 0 σ σ1) → End (ev sh d 183 118 [some (mR (124)), some (mI ((L : Nat) : Int)), some (mI (1)), some (mI (((i + 1) : Nat) : Int))] [] σ1) (fun r σ' => r = some (mI q) ∧ (∀ j, j < 120 → σ'.1 125 j = σ.1 134 j) ∧ (∀ j, 120 ≤ j → σ'.1 125 j = σ.1 125 j) ∧ frW 125 125 1 0 σ σ') := ih
    intro σ1  hp
    replace hp : (∀ j, j < i → σ1.1 125 j = σ.1 134 j) ∧ (∀ j, i ≤ j → σ1.1 125 j = σ.1 125 j) ∧ frW 125 125 1 0 σ σ1 := hp
    show End (ev sh d 183 118 [some (mR (124)), some (mI ((L : Nat) : Int)), some (mI (1)), some (mI ((i : Nat) : Int))] [] σ1) (fun r σ' => r = some (mI q) ∧ (∀ j, j < 120 → σ'.1 125 j = σ.1 134 j) ∧ (∀ j, 120 ≤ j → σ'.1 125 j = σ.1 125 j) ∧ frW 125 125 1 0 σ σ')
    have e2 : σ1.1 134 i = σ.1 134 i := by rw [(hp.2.2.1 134 (by omega) (by omega)).1]
    rw [e183_118]
    simp (disch := first | assumption | omega | (simp (disch := omega) only [wN, w0, w1]; omega)) only [e183_0, e183_1, e183_2, e183_4, e183_7, e183_10, e183_11, e183_12, e183_15, e183_18, e183_19, e183_20, e183_21, e183_22, e183_25, e183_26, e183_27, e183_30, e183_31, e183_32, e183_35, e183_36, e183_39, e183_40, e183_43, e183_46, e183_47, e183_50, e183_51, e183_53, e183_56, e183_57, e183_60, e183_61, e183_64, e183_67, e183_68, e183_70, e183_73, e183_76, e183_77, e183_80, e183_83, e183_84, e183_87, e183_88, e183_89, e183_92, e183_93, e183_94, e183_97, e183_98, e183_101, e183_102, e183_105, e183_106, e183_107, e183_110, e183_111, e183_112, e183_115, e183_116, e183_117, e183_119, e183_121, e183_124, e183_125, e183_128, e183_129, e183_130, e183_133, e183_134, e183_135, e183_136, e183_139, e183_142, e183_143, e183_146, kl_I, kl_R, kl_N, kl_L, oSm, oNn, Option.bind_some, wN, if_pos, if_neg, nS, tN, t0, w0, w1, w2, w3, w4, w5, wm1, upA_ne, upA_same, if_true, if_false, Bool.false_eq_true, w120, ra0, rl0, ra18, rl18, e2]
    refine ih _ ⟨fun j hj => ?_, fun j hj => ?_, hp.2.2.tr (frW.a (by omega) (by omega))⟩
    · simp only [upA_same]
      by_cases e : j = i
      · subst e; rw [up1_same]
      · rw [up1_ne e]; exact hp.1 j (by omega)
    · simp only [upA_same]
      rw [up1_ne (by omega)]; exact hp.2.1 j (by omega)) 0 (Nat.zero_le _)
  exact C σ ⟨fun j hj => by omega, fun j _ => rfl, frW.rf⟩
theorem rdL0 (f n : Nat) (h : L ≠ 0) : rdC B L n = rdL B L n (30 - ([] : List Gt).length) 0 [] := by rw [rdC, if_neg h]; rfl
theorem M183 (hM : MS sh) (h : InvM sh σ a) (hz : i32 z) : End (run sh (d + 4) 183 [mR 124, mI z] σ) (fun r σ' => r = some (mI (aCirc a z).1) ∧ InvM sh σ' (aCirc a z).2) := by
  have h00 := h
  have mo := hM.1
  have m160 := hM.2.1
  obtain ⟨ra0, rk0, rl0⟩ := ms0 hM
  obtain ⟨ra1, rk1, rl1⟩ := ms1 hM
  obtain ⟨ra18, rk18, rl18⟩ := ms18 hM
  obtain ⟨⟨n, c, m, E, P, x⟩, K, B, s, T⟩ := a
  obtain ⟨⟨hG, hN, hMp, hEl, hx0, hE, hP, hoS⟩, hik, hKp, hTp, h140, hTm⟩ := id h
  replace hG : HGm σ 0 c := hG
  replace hN : σ.1 124 8 = (n : Int) := hN
  replace hMp : σ.1 124 9 = (m : Int) := hMp
  replace hEl : σ.1 124 10 = (E.length : Int) := hEl
  replace hx0 : σ.1 124 11 = (x : Int) := hx0
  replace hE : HEm σ 127 128 E := hE
  replace hP : ∀ y, y < n → σ.1 129 y = (P y : Int) := hP
  replace hoS : okZ n c m E P x := hoS
  replace hTp : HPm σ B s := hTp
  replace h140 : s ≤ 140 := h140
  replace hTm : HT sh σ 157 T := hTm
  replace hik : σ.1 124 16 = bi K.isSome := hik
  obtain ⟨n1, n4', c30, hv, m2, m5, E10, hvE, hPk, x16⟩ := id hoS
  have hw := hz.w
  have hl := hTp.1
  have e := E164 (sh := sh) (d := d + 3) (σ := σ) (z := z) (w := 0) (v := 120) hz ⟨by omega, by omega⟩ ⟨by omega, by omega⟩
  have ws : wi (s : Int) = (s : Int) := wN (by omega)
  unfold aCirc
  by_cases h1 : z < 0 ∨ 120 < z
  · rw [if_pos (by simp only; omega)]
    rw [if_neg (by omega)] at e
    simp (disch := first | assumption | omega | (simp (disch := omega) only [wN, w0, w1]; omega)) only [e183_0, e183_1, e183_2, e183_4, e183_7, e183_10, e183_11, e183_12, e183_15, e183_18, e183_19, e183_20, e183_21, e183_22, e183_25, e183_26, e183_27, e183_30, e183_31, e183_32, e183_35, e183_36, e183_39, e183_40, e183_43, e183_46, e183_47, e183_50, e183_51, e183_53, e183_56, e183_57, e183_60, e183_61, e183_64, e183_67, e183_68, e183_70, e183_73, e183_76, e183_77, e183_80, e183_83, e183_84, e183_87, e183_88, e183_89, e183_92, e183_93, e183_94, e183_97, e183_98, e183_101, e183_102, e183_105, e183_106, e183_107, e183_110, e183_111, e183_112, e183_115, e183_116, e183_117, e183_119, e183_121, e183_124, e183_125, e183_128, e183_129, e183_130, e183_133, e183_134, e183_135, e183_136, e183_139, e183_142, e183_143, e183_146, kl_I, kl_R, kl_N, kl_L, oSm, oNn, Option.bind_some, wN, if_pos, if_neg, nS, tN, t0, w0, w1, w2, w3, w4, w5, wm1, upA_ne, upA_same, if_true, if_false, Bool.false_eq_true, q183, e]
    exact End.of rfl ⟨rfl, h⟩
  · rw [if_pos (by omega)] at e
    by_cases h2 : (s : Int) < z
    · rw [if_pos (by simp only; omega)]
      simp (disch := first | assumption | omega | (simp (disch := omega) only [wN, w0, w1]; omega)) only [e183_0, e183_1, e183_2, e183_4, e183_7, e183_10, e183_11, e183_12, e183_15, e183_18, e183_19, e183_20, e183_21, e183_22, e183_25, e183_26, e183_27, e183_30, e183_31, e183_32, e183_35, e183_36, e183_39, e183_40, e183_43, e183_46, e183_47, e183_50, e183_51, e183_53, e183_56, e183_57, e183_60, e183_61, e183_64, e183_67, e183_68, e183_70, e183_73, e183_76, e183_77, e183_80, e183_83, e183_84, e183_87, e183_88, e183_89, e183_92, e183_93, e183_94, e183_97, e183_98, e183_101, e183_102, e183_105, e183_106, e183_107, e183_110, e183_111, e183_112, e183_115, e183_116, e183_117, e183_119, e183_121, e183_124, e183_125, e183_128, e183_129, e183_130, e183_133, e183_134, e183_135, e183_136, e183_139, e183_142, e183_143, e183_146, kl_I, kl_R, kl_N, kl_L, oSm, oNn, Option.bind_some, wN, if_pos, if_neg, nS, tN, t0, w0, w1, w2, w3, w4, w5, wm1, upA_ne, upA_same, if_true, if_false, Bool.false_eq_true, q183, e, hw, hl, ws]
      exact End.of rfl ⟨rfl, h⟩
    · rw [if_neg (by simp only; omega)]
      obtain ⟨k, rfl⟩ : ∃ k : Nat, z = (k : Int) := ⟨z.toNat, by omega⟩
      simp only [Int.toNat_natCast]
      -- begun
      have f0 : frW 134 134 22 26 σ (upA σ.1 124 (up1 (up1 (up1 (σ.1 124) 22 0) 23 (k : Int)) 26 0), σ.2) := ⟨fun b _ hb => ⟨upA_ne hb, rfl⟩, fun i hi => by
        simp (disch := omega) only [upA_same, up1_ne]⟩
      have q0 : HQ (upA σ.1 124 (up1 (up1 (up1 (σ.1 124) 22 0) 23 (k : Int)) 26 0), σ.2) B k 0 := by
        refine ⟨fun j hj => ?_, ?_, ?_⟩
        · simp (disch := omega) only [upA_ne]; exact hTp.2 j hj
        · simp (disch := omega) only [upA_same, up1_ne, up1_same]; rfl
        · simp (disch := omega) only [upA_same, up1_ne, up1_same]
      have N0 : HNg (upA σ.1 124 (up1 (up1 (up1 (σ.1 124) 22 0) 23 (k : Int)) 26 0), σ.2) [] := by
        refine ⟨?_, fun j hj => absurd hj (Nat.not_lt_zero _)⟩
        simp (disch := omega) only [upA_same, up1_same]; rfl
      generalize hσ0 : (upA σ.1 124 (up1 (up1 (up1 (σ.1 124) 22 0) 23 (k : Int)) 26 0), σ.2) = σ0 at f0 q0 N0
      have n0 : σ0.1 124 8 = (n : Int) := by rw [f0.2 8 (by omega)]; exact hN
      -- read
      have rd : ∃ b σ', run sh (d + 4) 183 [mR 124, mI (k : Int)] σ = ev sh (d + 4) 183 92 [some (mR (124)), some (mI ((k : Nat) : Int)), some (mI (b)), none] [] σ' ∧ poC σ n (rdC B k n) b σ' := by
        by_cases hk0 : k = 0
        · obtain ⟨b, σ', p1, p2⟩ := M183a (d := d + 1) (L := k) hM (by omega) n1 n4' 30 [] σ0 0 rfl q0 (by omega) N0 (fun q hq => by simp at hq) n0
          refine ⟨b, σ', ?_, f0.tr p2.1, ?_⟩
          · rw [← p1]
            simp (disch := first | assumption | omega | (simp (disch := omega) only [wN, w0, w1]; omega)) only [e183_0, e183_1, e183_2, e183_4, e183_7, e183_10, e183_11, e183_12, e183_15, e183_18, e183_19, e183_20, e183_21, e183_22, e183_25, e183_26, e183_27, e183_30, e183_31, e183_32, e183_35, e183_36, e183_39, e183_40, e183_43, e183_46, e183_47, e183_50, e183_51, e183_53, e183_56, e183_57, e183_60, e183_61, e183_64, e183_67, e183_68, e183_70, e183_73, e183_76, e183_77, e183_80, e183_83, e183_84, e183_87, e183_88, e183_89, e183_92, e183_93, e183_94, e183_97, e183_98, e183_101, e183_102, e183_105, e183_106, e183_107, e183_110, e183_111, e183_112, e183_115, e183_116, e183_117, e183_119, e183_121, e183_124, e183_125, e183_128, e183_129, e183_130, e183_133, e183_134, e183_135, e183_136, e183_139, e183_142, e183_143, e183_146, kl_I, kl_R, kl_N, kl_L, oSm, oNn, Option.bind_some, wN, if_pos, if_neg, nS, tN, t0, w0, w1, w2, w3, w4, w5, wm1, upA_ne, upA_same, if_true, if_false, Bool.false_eq_true, q183, e, hw, hl, ws, upA_upA, hσ0]
          · have er : rdC B k n = rdK B k n 0 [] := by rw [rdC, if_pos hk0, rdK, if_pos hk0.symm]
            rw [er]; exact p2.2
        · obtain ⟨r2, σ2, k1, k2, k3⟩ := M182 (d := d + 1) hM q0 (show k ≤ 140 by omega) (by omega) N0 (by simp) n0 n1 n4'
          rcases k3 with ⟨g1, -⟩ | ⟨g1, g2, rfl, g3⟩ | ⟨g1, g2, rfl, g4, g5, g6, g7, g8⟩
          · simp at g1
          · refine ⟨0, σ2, ?_, f0.tr k2, Or.inr ⟨rfl, ?_, ?_⟩⟩
            · simp (disch := first | assumption | omega | (simp (disch := omega) only [wN, w0, w1]; omega)) only [e183_0, e183_1, e183_2, e183_4, e183_7, e183_10, e183_11, e183_12, e183_15, e183_18, e183_19, e183_20, e183_21, e183_22, e183_25, e183_26, e183_27, e183_30, e183_31, e183_32, e183_35, e183_36, e183_39, e183_40, e183_43, e183_46, e183_47, e183_50, e183_51, e183_53, e183_56, e183_57, e183_60, e183_61, e183_64, e183_67, e183_68, e183_70, e183_73, e183_76, e183_77, e183_80, e183_83, e183_84, e183_87, e183_88, e183_89, e183_93, e183_94, e183_97, e183_98, e183_101, e183_102, e183_105, e183_106, e183_107, e183_110, e183_111, e183_112, e183_115, e183_116, e183_117, e183_119, e183_121, e183_124, e183_125, e183_128, e183_129, e183_130, e183_133, e183_134, e183_135, e183_136, e183_139, e183_142, e183_143, e183_146, kl_I, kl_R, kl_N, kl_L, oSm, oNn, Option.bind_some, wN, if_pos, if_neg, nS, tN, t0, w0, w1, w2, w3, w4, w5, wm1, upA_ne, upA_same, if_true, if_false, Bool.false_eq_true, q183, e, hw, hl, ws, upA_upA, hσ0, k1]
              rw [e183_52]
              simp (disch := first | assumption | omega | (simp (disch := omega) only [wN, w0, w1]; omega)) only [e183_0, e183_1, e183_2, e183_4, e183_7, e183_10, e183_11, e183_12, e183_15, e183_18, e183_19, e183_20, e183_21, e183_22, e183_25, e183_26, e183_27, e183_30, e183_31, e183_32, e183_35, e183_36, e183_39, e183_40, e183_43, e183_46, e183_47, e183_50, e183_51, e183_53, e183_56, e183_57, e183_60, e183_61, e183_64, e183_67, e183_68, e183_70, e183_73, e183_76, e183_77, e183_80, e183_83, e183_84, e183_87, e183_88, e183_89, e183_93, e183_94, e183_97, e183_98, e183_101, e183_102, e183_105, e183_106, e183_107, e183_110, e183_111, e183_112, e183_115, e183_116, e183_117, e183_119, e183_121, e183_124, e183_125, e183_128, e183_129, e183_130, e183_133, e183_134, e183_135, e183_136, e183_139, e183_142, e183_143, e183_146, kl_I, kl_R, kl_N, kl_L, oSm, oNn, Option.bind_some, wN, if_pos, if_neg, nS, tN, t0, w0, w1, w2, w3, w4, w5, wm1, upA_ne, upA_same, if_true, if_false, Bool.false_eq_true]
            all_goals rw [rdL0 0 n hk0, show 30 - ([] : List Gt).length = 29 + 1 from rfl, rdL, if_pos g2]
            · exact g2
            · exact g3
          · have n2 : σ2.1 124 8 = (n : Int) := by rw [k2.2 8 (by omega)]; exact n0
            obtain ⟨b, σ', p1, p2⟩ := M183a (d := d + 1) (L := k) hM (by omega) n1 n4' 29 ([] ++ [(rdG B k n 0).2]) σ2 _ rfl g4 (by omega) g5 (okC.app (fun q hq => by simp at hq) g6) n2
            refine ⟨b, σ', ?_, (f0.tr k2).tr p2.1, ?_⟩
            · rw [← p1]
              simp (disch := first | assumption | omega | (simp (disch := omega) only [wN, w0, w1]; omega)) only [e183_0, e183_1, e183_2, e183_4, e183_7, e183_10, e183_11, e183_12, e183_15, e183_18, e183_19, e183_20, e183_21, e183_22, e183_25, e183_26, e183_27, e183_30, e183_31, e183_32, e183_35, e183_36, e183_39, e183_40, e183_43, e183_46, e183_47, e183_50, e183_51, e183_53, e183_56, e183_57, e183_60, e183_61, e183_64, e183_67, e183_68, e183_70, e183_73, e183_76, e183_77, e183_80, e183_83, e183_84, e183_87, e183_88, e183_89, e183_92, e183_93, e183_94, e183_97, e183_98, e183_101, e183_102, e183_105, e183_106, e183_107, e183_110, e183_111, e183_112, e183_115, e183_116, e183_117, e183_119, e183_121, e183_124, e183_125, e183_128, e183_129, e183_130, e183_133, e183_134, e183_135, e183_136, e183_139, e183_142, e183_143, e183_146, kl_I, kl_R, kl_N, kl_L, oSm, oNn, Option.bind_some, wN, if_pos, if_neg, nS, tN, t0, w0, w1, w2, w3, w4, w5, wm1, upA_ne, upA_same, if_true, if_false, Bool.false_eq_true, q183, e, hw, hl, ws, upA_upA, hσ0, k1]
            · rw [rdL0 0 n hk0, rdL_g (f := 29) rfl (rdG_e g2)]
              exact p2.2
      obtain ⟨b, σ1, p1, f1, p3⟩ := rd
      rw [p1]
      have hB1 : HBy σ1 B := fun j hj => by rw [(f1.1 133 (by omega) (by omega)).1]; exact hTp.2 j hj
      have f2 : frW 1 0 21 21 σ1 (upA σ1.1 124 (up1 (σ1.1 124) 21 0), σ1.2) := frW.f (by omega)
      have hI : InvM sh (upA σ1.1 124 (up1 (σ1.1 124) 21 0), σ1.2) ((n, c, m, E, P, x), K, B, 0, T) := by
        refine h00.tap (fun b b1 b2 b3 b4 => ?_) (fun i hi => ?_) ⟨?_, fun j hj => ?_⟩ (by omega)
        · rw [(f2.1 b (by omega) (by omega)).1, (f1.1 b (by omega) (by omega)).1]
        · rw [f2.2 i (by omega), f1.2 i (by omega)]
        · simp (disch := omega) only [upA_same, up1_same]; rfl
        · simp (disch := omega) only [upA_ne]; exact hB1 j hj
      rcases p3 with ⟨rfl, r1, r2, r3, r4⟩ | ⟨rfl, r1, r2⟩
      · rw [if_neg (by omega)]
        have h26 : σ1.1 124 26 = ((rdC B k n).2.length : Int) := r2.1
        have f3 : frW 126 126 1 0 (upA σ1.1 124 (up1 (σ1.1 124) 21 0), σ1.2) (upA (upA σ1.1 124 (up1 (σ1.1 124) 21 0)) 126 (up1 (σ1.1 126) 0 ((rdC B k n).2.length : Int)), σ1.2) := frW.a (by omega) (by omega)
        obtain ⟨r, σ3, o1, o2, o3, o4, o5⟩ := cpG (d := d + 4) (L := k) (k0 := none) (σ := (upA (upA σ1.1 124 (up1 (σ1.1 124) 21 0)) 126 (up1 (σ1.1 126) 0 ((rdC B k n).2.length : Int)), σ1.2)) hM (q := ((rdC B k n).2.length : Int)) (by simp (disch := omega) only [upA_ne, upA_same, up1_ne]; exact h26)
        rw [o2] at o1
        simp (disch := first | assumption | omega | (simp (disch := omega) only [wN, w0, w1]; omega)) only [e183_0, e183_1, e183_2, e183_4, e183_7, e183_10, e183_11, e183_12, e183_15, e183_18, e183_19, e183_20, e183_21, e183_22, e183_25, e183_26, e183_27, e183_30, e183_31, e183_32, e183_35, e183_36, e183_39, e183_40, e183_43, e183_46, e183_47, e183_50, e183_51, e183_53, e183_56, e183_57, e183_60, e183_61, e183_64, e183_67, e183_68, e183_70, e183_73, e183_76, e183_77, e183_80, e183_83, e183_84, e183_87, e183_88, e183_89, e183_92, e183_93, e183_94, e183_97, e183_98, e183_101, e183_102, e183_105, e183_106, e183_107, e183_110, e183_111, e183_112, e183_115, e183_116, e183_117, e183_119, e183_121, e183_124, e183_125, e183_128, e183_129, e183_130, e183_133, e183_134, e183_135, e183_136, e183_139, e183_142, e183_143, e183_146, kl_I, kl_R, kl_N, kl_L, oSm, oNn, Option.bind_some, wN, if_pos, if_neg, nS, tN, t0, w0, w1, w2, w3, w4, w5, wm1, upA_ne, upA_same, if_true, if_false, Bool.false_eq_true, ra1, rl1, h26, up1_ne]
        have o1 : ev sh (d + 4) 183 118 [some (mR (124)), some (mI ((k : Nat) : Int)), some (mI (1)), some (mI ((0 : Nat) : Int))] [] _ = _ := o1
        refine End.of o1 ⟨rfl, ?_⟩
        have c34 : ∀ j, j < 120 → σ3.1 125 j = σ1.1 134 j := fun j hj => by
          rw [o3 j hj]
          simp (disch := omega) only [upA_ne]
        have k124 : ∀ i, σ3.1 124 i = (upA σ1.1 124 (up1 (σ1.1 124) 21 0), σ1.2).1 124 i := fun i => by rw [o5.2 i (by omega), f3.2 i (by omega)]
        have k126 : σ3.1 126 = up1 (σ1.1 126) 0 ((rdC B k n).2.length : Int) := by
          rw [(o5.1 126 (by omega) (by omega)).1]
          simp only [upA_same]
        have ka : ∀ b, 127 ≤ b → b ≠ 134 → σ3.1 b = σ.1 b := fun b b1 b2 => by
          rw [(o5.1 b (by omega) (by omega)).1, (f3.1 b (by omega) (by omega)).1, (f2.1 b (by omega) (by omega)).1, (f1.1 b (by omega) (by omega)).1]
        have k124' : ∀ i, i < 21 → σ3.1 124 i = σ.1 124 i := fun i hi => by rw [k124 i, f2.2 i (by omega), f1.2 i (by omega)]
        refine hI.now ⟨⟨by rw [k126, up1_same], fun g hg => ?_⟩, by rw [k124' _ (by omega)]; exact hN, by rw [k124' _ (by omega)]; exact hMp, by rw [k124' _ (by omega)]; exact hEl, by rw [k124' _ (by omega)]; exact hx0, fun j hj => by rw [ka 127 (by omega) (by omega), ka (127 + 1) (by omega) (by omega)]; exact hE j hj, fun y hy => by rw [ka 129 (by omega) (by omega)]; exact hP y hy, ⟨n1, n4', r4, r3, m2, m5, E10, hvE, hPk, x16⟩⟩ (fun i i1 i2 => k124 i) (fun i i1 i2 => ?_) ?_ (fun b b1 b2 => ?_) ?_
        · rw [Nat.mul_zero, Nat.zero_add, c34 _ (by simp only at hg; omega), c34 _ (by simp only at hg; omega), c34 _ (by simp only at hg; omega), c34 _ (by simp only at hg; omega)]
          exact r2.2 g hg
        · rw [o4 i i1]
          simp (disch := omega) only [upA_ne]
        · rw [k126, up1_ne (by omega)]
          simp (disch := omega) only [upA_ne]
        · rw [ka b (by omega) (by omega)]
          simp (disch := omega) only [upA_ne]
          rw [(f1.1 b (by omega) (by omega)).1]
        · rw [ka 157 (by omega) (by omega)]
          simp (disch := omega) only [upA_ne]
          rw [(f1.1 157 (by omega) (by omega)).1]
      · rw [if_pos r1]
        simp (disch := first | assumption | omega | (simp (disch := omega) only [wN, w0, w1]; omega)) only [e183_0, e183_1, e183_2, e183_4, e183_7, e183_10, e183_11, e183_12, e183_15, e183_18, e183_19, e183_20, e183_21, e183_22, e183_25, e183_26, e183_27, e183_30, e183_31, e183_32, e183_35, e183_36, e183_39, e183_40, e183_43, e183_46, e183_47, e183_50, e183_51, e183_53, e183_56, e183_57, e183_60, e183_61, e183_64, e183_67, e183_68, e183_70, e183_73, e183_76, e183_77, e183_80, e183_83, e183_84, e183_87, e183_88, e183_89, e183_92, e183_93, e183_94, e183_97, e183_98, e183_101, e183_102, e183_105, e183_106, e183_107, e183_110, e183_111, e183_112, e183_115, e183_116, e183_117, e183_119, e183_121, e183_124, e183_125, e183_128, e183_129, e183_130, e183_133, e183_134, e183_135, e183_136, e183_139, e183_142, e183_143, e183_146, kl_I, kl_R, kl_N, kl_L, oSm, oNn, Option.bind_some, wN, if_pos, if_neg, nS, tN, t0, w0, w1, w2, w3, w4, w5, wm1, upA_ne, upA_same, if_true, if_false, Bool.false_eq_true, r2, up1_ne]
        exact End.of rfl ⟨rfl, hI⟩
end MIa

