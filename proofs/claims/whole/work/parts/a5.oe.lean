/-! ===== the reference: keep, undo, check ===== -/
section OE
variable {sh : Shp} {d : Nat} {σ : Mem} {z w : Int} {a : AX}
theorem HEm.c {σ' : Mem} {l h l' h' : Nat} {E : List Ed} (hE : HEm σ l h E) (h10 : E.length ≤ 10) (h1 : ∀ j, j < 10 → σ'.1 l' j = σ.1 l j) (h2 : ∀ j, j < 10 → σ'.1 h' j = σ.1 h j) : HEm σ' l' h' E := fun j hj => by
  rw [h1 j (by omega), h2 j (by omega)]; exact hE j hj
theorem M279 (hM : MS sh) (h : InvM sh σ a) : End (run sh (d + 1) 279 [mR 124] σ) (fun r σ' => r = some (mI (aKeep a).1) ∧ InvM sh σ' (aKeep a).2) := by
  have hI := h
  have mo := hM.1
  have m160 := hM.2.1
  obtain ⟨ra1, rk1, rl1⟩ := ms1 hM
  obtain ⟨ra2, rk2, rl2⟩ := ms2 hM
  obtain ⟨ra3, rk3, rl3⟩ := ms3 hM
  obtain ⟨ra4, rk4, rl4⟩ := ms4 hM
  obtain ⟨ra5, rk5, rl5⟩ := ms5 hM
  obtain ⟨ra6, rk6, rl6⟩ := ms6 hM
  obtain ⟨ra7, rk7, rl7⟩ := ms7 hM
  obtain ⟨⟨n, c, m, E, P, x⟩, K, B, s, T⟩ := a
  obtain ⟨⟨hG, hN, hMp, hEl, hx0, hE, hP, hoS⟩, hik, hKp, hTp, h140, hTm⟩ := id h
  replace hG : HGm σ 0 c := hG
  replace hN : σ.1 124 8 = (n : Int) := hN
  replace hMp : σ.1 124 9 = (m : Int) := hMp
  replace hEl : σ.1 124 10 = (E.length : Int) := hEl
  replace hx0 : σ.1 124 11 = (x : Int) := hx0
  replace hE : HEm σ 127 128 E := hE
  replace hP : ∀ y, y < n → σ.1 129 y = (P y : Int) := hP
  replace hoS : okZ n c m E P x := hoS
  replace hTp : HPm σ B s := hTp
  replace h140 : s ≤ 140 := h140
  replace hTm : HT sh σ 157 T := hTm
  replace hik : σ.1 124 16 = bi K.isSome := hik
  obtain ⟨n1, n4', c30, hv, m2, m5, E10, hvE, hPk, x16⟩ := id hoS
  obtain ⟨σ0, h0⟩ : ∃ s : Mem, s = (upA σ.1 124 (up1 (σ.1 124) 16 1), σ.2) := ⟨_, rfl⟩
  have h0a : ∀ b, b ≠ 124 → σ0.1 b = σ.1 b := fun b hb => by rw [h0]; simp (disch := omega) only [upA_ne]
  have h0b : σ0.1 124 = up1 (σ.1 124) 16 1 := by rw [h0]; simp (disch := omega) only [upA_same]
  have hG0 : HGm σ0 0 c := hG.k (by rw [h0a 126 (by omega)]) (fun i _ _ => by rw [h0a 125 (by omega)])
  obtain ⟨r, σ1, a1, rfl, a2, a3, a4, a5⟩ := M172 (d := d) (t := 0) (u := 1) (z := 0) (w := 1) (σ := σ0) hM hG0 c30 (by omega) (by omega) (by omega) rfl rfl
  replace a1 : run sh d 172 [mR 124, mI 0, mI 1] (upA σ.1 124 (up1 (σ.1 124) 16 1), σ.2) = some (none, σ1) := by rw [← h0]; exact a1
  have g124 : ∀ i, σ1.1 124 i = up1 (σ.1 124) 16 1 i := fun i => by
    rw [a3.2 i (by omega), h0b]
  have gb : ∀ b, 127 ≤ b → σ1.1 b = σ.1 b := fun b hb => by
    rw [(a3.1 b (by omega) (by omega)).1, h0a b (by omega)]
  have k8 : σ1.1 124 8 = (n : Int) := by rw [g124, up1_ne (by omega)]; exact hN
  have k9 : σ1.1 124 9 = (m : Int) := by rw [g124, up1_ne (by omega)]; exact hMp
  have k10 : σ1.1 124 10 = (E.length : Int) := by rw [g124, up1_ne (by omega)]; exact hEl
  have k11 : σ1.1 124 11 = (x : Int) := by rw [g124, up1_ne (by omega)]; exact hx0
  let f4 := up1 (up1 (up1 (up1 (σ1.1 124) 12 (n : Int)) 13 (m : Int)) 14 (E.length : Int)) 15 (x : Int)
  let G := fun (r : Option MV) (σ' : Mem) => r = some (mI (c.length : Int)) ∧ InvM sh σ' ((n, c, m, E, P, x), some (n, c, m, E, P, x), B, s, T)
  have hl1 : σ1.1 126 0 = (c.length : Int) := by
    rw [a4 0 (by omega)]
    exact hG0.1
  have fin : ∀ σ2, σ2.1 124 = f4 → (∀ j, j < 10 → σ2.1 130 j = σ.1 127 j ∧ σ2.1 131 j = σ.1 128 j) → (∀ l, l < 4 → σ2.1 132 l = σ.1 129 l) → (∀ b, b ≠ 124 → b ≠ 130 → b ≠ 131 → b ≠ 132 → σ2.1 b = σ1.1 b) → InvM sh σ2 ((n, c, m, E, P, x), some (n, c, m, E, P, x), B, s, T) := by
    intro σ2 h124 he hp ho
    have q : ∀ i, i < 12 ∨ 15 < i → σ2.1 124 i = up1 (σ.1 124) 16 1 i := fun i hi => by
      rw [h124, ← g124]
      show up1 _ _ _ _ = _
      simp (disch := omega) only [up1_ne]
    have k26 := ho 126 (by omega) (by omega) (by omega) (by omega)
    have k25 := ho 125 (by omega) (by omega) (by omega) (by omega)
    have g0 : ∀ i, i < 120 → σ2.1 125 i = σ.1 125 i := fun i hi => by
      rw [k25, a5 i (by omega), h0a 125 (by omega)]
    refine ⟨⟨hG.k (by rw [k26, a4 0 (by omega), h0a 126 (by omega)]) (fun i _ hi => g0 i (by omega)), ?_, ?_, ?_, ?_, ?_, ?_, hoS⟩, ?_, fun S hS => ?_, ⟨?_, fun j hj => ?_⟩, h140, hTm.k ?_⟩
    · rw [q 8 (by omega), up1_ne (by omega)]; exact hN
    · rw [q 9 (by omega), up1_ne (by omega)]; exact hMp
    · rw [q 10 (by omega), up1_ne (by omega)]; exact hEl
    · rw [q 11 (by omega), up1_ne (by omega)]; exact hx0
    · exact hE.c E10 (fun j hj => by rw [ho 127 (by omega) (by omega) (by omega) (by omega), gb 127 (by omega)]) (fun j hj => by rw [ho 128 (by omega) (by omega) (by omega) (by omega), gb 128 (by omega)])
    · intro y hy
      rw [ho 129 (by omega) (by omega) (by omega) (by omega), gb 129 (by omega)]; exact hP y hy
    · rw [q 16 (by omega), up1_same]; rfl
    · injection hS with hS
      subst hS
      refine ⟨a2.k (by rw [k26]) (fun i _ _ => by rw [k25]), ?_, ?_, ?_, ?_, ?_, ?_, hoS⟩
      · rw [h124]; show up1 _ _ _ _ = _; simp (disch := omega) only [up1_ne, up1_same]
      · rw [h124]; show up1 _ _ _ _ = _; simp (disch := omega) only [up1_ne, up1_same]
      · rw [h124]; show up1 _ _ _ _ = _; simp (disch := omega) only [up1_ne, up1_same]
      · rw [h124]; show up1 _ _ _ _ = _; simp (disch := omega) only [up1_ne, up1_same]
      · exact hE.c E10 (fun j hj => (he j hj).1) (fun j hj => (he j hj).2)
      · intro y hy
        have hy' : y < n := hy
        rw [hp y (by omega)]; exact hP y hy
    · rw [q 21 (by omega), up1_ne (by omega)]; exact hTp.1
    · rw [ho 133 (by omega) (by omega) (by omega) (by omega), gb 133 (by omega)]; exact hTp.2 j hj
    · rw [ho 157 (by omega) (by omega) (by omega) (by omega), gb 157 (by omega)]
  have Q2 : ∀ σ2, σ2.1 124 = f4 → (∀ j, j < 10 → σ2.1 130 j = σ.1 127 j ∧ σ2.1 131 j = σ.1 128 j) → (∀ b, b ≠ 124 → b ≠ 130 → b ≠ 131 → b ≠ 132 → σ2.1 b = σ1.1 b) → End (ev sh (d + 1) 279 83 [some (mR (124)), some (mI ((0 : Nat) : Int))] [] σ2) G := by
    intro σ2 h124 he ho
    have L := for_P (4) (fun i => ∀ (σ3 : Mem), ((∀ l, l < i → σ3.1 132 l = σ.1 129 l) ∧ (∀ b, b ≠ 132 → σ3.1 b = σ2.1 b)) → End (ev sh (d + 1) 279 83 [some (mR (124)), some (mI ((i : Nat) : Int))] [] σ3) (G)) (by
      intro σ3  hp
      replace hp : (∀ l, l < (4) → σ3.1 132 l = σ.1 129 l) ∧ (∀ b, b ≠ 132 → σ3.1 b = σ2.1 b) := hp
      show End (ev sh (d + 1) 279 83 [some (mR (124)), some (mI (((4) : Nat) : Int))] [] σ3) (G)
      have hl : σ3.1 126 0 = (c.length : Int) := by rw [hp.2 126 (by omega), ho 126 (by omega) (by omega) (by omega) (by omega)]; exact hl1
      rw [e279_83]
      simp (disch := first | assumption | omega | (simp (disch := omega) only [wN, w0, w1]; omega)) only [e279_0, e279_1, e279_2, e279_5, e279_6, e279_7, e279_8, e279_11, e279_12, e279_13, e279_16, e279_19, e279_20, e279_21, e279_24, e279_27, e279_28, e279_29, e279_32, e279_35, e279_36, e279_37, e279_40, e279_43, e279_44, e279_46, e279_48, e279_51, e279_52, e279_55, e279_56, e279_57, e279_60, e279_61, e279_62, e279_63, e279_64, e279_67, e279_68, e279_69, e279_72, e279_73, e279_74, e279_75, e279_78, e279_81, e279_82, e279_84, e279_85, e279_88, e279_89, e279_92, e279_93, e279_94, e279_97, e279_98, e279_99, e279_100, e279_103, e279_106, e279_107, e279_110, e279_111, e279_112, kl_I, kl_R, kl_N, kl_L, oSm, oNn, Option.bind_some, wN, if_pos, if_neg, nS, tN, t0, w0, w1, w2, w3, w4, w5, wm1, upA_ne, upA_same, if_true, if_false, Bool.false_eq_true, ra1, rl1, hl]
      exact End.of rfl ⟨rfl, fin σ3 (by rw [hp.2 124 (by omega)]; exact h124) (fun j hj => by rw [hp.2 130 (by omega), hp.2 131 (by omega)]; exact he j hj) hp.1 (fun b p q r t => by rw [hp.2 b t]; exact ho b p q r t)⟩) (fun i hi ih => by
      replace ih : ∀ (σ3 : Mem), ((∀ l, l < (i + 1) → σ3.1 132 l = σ.1 129 l) ∧ (∀ b, b ≠ 132 → σ3.1 b = σ2.1 b)) → End (ev sh (d + 1) 279 83 [some (mR (124)), some (mI (((i + 1) : Nat) : Int))] [] σ3) (G) := ih
      intro σ3  hp
      replace hp : (∀ l, l < i → σ3.1 132 l = σ.1 129 l) ∧ (∀ b, b ≠ 132 → σ3.1 b = σ2.1 b) := hp
      show End (ev sh (d + 1) 279 83 [some (mR (124)), some (mI ((i : Nat) : Int))] [] σ3) (G)
      have g : σ3.1 129 i = σ.1 129 i := by rw [hp.2 129 (by omega), ho 129 (by omega) (by omega) (by omega) (by omega), gb 129 (by omega)]
      rw [e279_83]
      simp (disch := first | assumption | omega | (simp (disch := omega) only [wN, w0, w1]; omega)) only [e279_0, e279_1, e279_2, e279_5, e279_6, e279_7, e279_8, e279_11, e279_12, e279_13, e279_16, e279_19, e279_20, e279_21, e279_24, e279_27, e279_28, e279_29, e279_32, e279_35, e279_36, e279_37, e279_40, e279_43, e279_44, e279_46, e279_48, e279_51, e279_52, e279_55, e279_56, e279_57, e279_60, e279_61, e279_62, e279_63, e279_64, e279_67, e279_68, e279_69, e279_72, e279_73, e279_74, e279_75, e279_78, e279_81, e279_82, e279_84, e279_85, e279_88, e279_89, e279_92, e279_93, e279_94, e279_97, e279_98, e279_99, e279_100, e279_103, e279_106, e279_107, e279_110, e279_111, e279_112, kl_I, kl_R, kl_N, kl_L, oSm, oNn, Option.bind_some, wN, if_pos, if_neg, nS, tN, t0, w0, w1, w2, w3, w4, w5, wm1, upA_ne, upA_same, if_true, if_false, Bool.false_eq_true, ra4, rl4, ra7, rl7, g]
      refine ih _ ⟨fun l hl => ?_, fun b hb => ?_⟩
      · simp (disch := omega) only [upA_same]
        by_cases q : l = i
        · rw [q, up1_same]
        · rw [up1_ne q]; exact hp.1 l (by omega)
      · simp (disch := omega) only [upA_ne]
        exact hp.2 b hb) 0 (Nat.zero_le _)
    exact L σ2 ⟨fun l hl => by omega, fun _ _ => rfl⟩
  have L := for_P (10) (fun i => ∀ (σ2 : Mem), ((∀ j, j < i → σ2.1 130 j = σ.1 127 j ∧ σ2.1 131 j = σ.1 128 j) ∧ σ2.1 124 = f4 ∧ (∀ b, b ≠ 124 → b ≠ 130 → b ≠ 131 → σ2.1 b = σ1.1 b)) → End (ev sh (d + 1) 279 45 [some (mR (124)), some (mI ((i : Nat) : Int))] [] σ2) (G)) (by
    intro σ2  hp
    replace hp : (∀ j, j < (10) → σ2.1 130 j = σ.1 127 j ∧ σ2.1 131 j = σ.1 128 j) ∧ σ2.1 124 = f4 ∧ (∀ b, b ≠ 124 → b ≠ 130 → b ≠ 131 → σ2.1 b = σ1.1 b) := hp
    show End (ev sh (d + 1) 279 45 [some (mR (124)), some (mI (((10) : Nat) : Int))] [] σ2) (G)
    rw [e279_45]
    have w10 : wi 10 = 10 := rfl
    simp (disch := first | assumption | omega | (simp (disch := omega) only [wN, w0, w1]; omega)) only [e279_0, e279_1, e279_2, e279_5, e279_6, e279_7, e279_8, e279_11, e279_12, e279_13, e279_16, e279_19, e279_20, e279_21, e279_24, e279_27, e279_28, e279_29, e279_32, e279_35, e279_36, e279_37, e279_40, e279_43, e279_44, e279_46, e279_48, e279_51, e279_52, e279_55, e279_56, e279_57, e279_60, e279_61, e279_62, e279_63, e279_64, e279_67, e279_68, e279_69, e279_72, e279_73, e279_74, e279_75, e279_78, e279_81, e279_82, e279_84, e279_85, e279_88, e279_89, e279_92, e279_93, e279_94, e279_97, e279_98, e279_99, e279_100, e279_103, e279_106, e279_107, e279_110, e279_111, e279_112, kl_I, kl_R, kl_N, kl_L, oSm, oNn, Option.bind_some, wN, if_pos, if_neg, nS, tN, t0, w0, w1, w2, w3, w4, w5, wm1, upA_ne, upA_same, if_true, if_false, Bool.false_eq_true, w10]
    exact Q2 σ2 hp.2.1 hp.1 (fun b p q r t => hp.2.2 b p q r)) (fun i hi ih => by
    replace ih : ∀ (σ2 : Mem), ((∀ j, j < (i + 1) → σ2.1 130 j = σ.1 127 j ∧ σ2.1 131 j = σ.1 128 j) ∧ σ2.1 124 = f4 ∧ (∀ b, b ≠ 124 → b ≠ 130 → b ≠ 131 → σ2.1 b = σ1.1 b)) → End (ev sh (d + 1) 279 45 [some (mR (124)), some (mI (((i + 1) : Nat) : Int))] [] σ2) (G) := ih
    intro σ2  hp
    replace hp : (∀ j, j < i → σ2.1 130 j = σ.1 127 j ∧ σ2.1 131 j = σ.1 128 j) ∧ σ2.1 124 = f4 ∧ (∀ b, b ≠ 124 → b ≠ 130 → b ≠ 131 → σ2.1 b = σ1.1 b) := hp
    show End (ev sh (d + 1) 279 45 [some (mR (124)), some (mI ((i : Nat) : Int))] [] σ2) (G)
    have w10 : wi 10 = 10 := rfl
    have g1 : σ2.1 127 i = σ.1 127 i := by rw [hp.2.2 127 (by omega) (by omega) (by omega), gb 127 (by omega)]
    have g2 : σ2.1 128 i = σ.1 128 i := by rw [hp.2.2 128 (by omega) (by omega) (by omega), gb 128 (by omega)]
    rw [e279_45]
    simp (disch := first | assumption | omega | (simp (disch := omega) only [wN, w0, w1]; omega)) only [e279_0, e279_1, e279_2, e279_5, e279_6, e279_7, e279_8, e279_11, e279_12, e279_13, e279_16, e279_19, e279_20, e279_21, e279_24, e279_27, e279_28, e279_29, e279_32, e279_35, e279_36, e279_37, e279_40, e279_43, e279_44, e279_46, e279_48, e279_51, e279_52, e279_55, e279_56, e279_57, e279_60, e279_61, e279_62, e279_63, e279_64, e279_67, e279_68, e279_69, e279_72, e279_73, e279_74, e279_75, e279_78, e279_81, e279_82, e279_84, e279_85, e279_88, e279_89, e279_92, e279_93, e279_94, e279_97, e279_98, e279_99, e279_100, e279_103, e279_106, e279_107, e279_110, e279_111, e279_112, kl_I, kl_R, kl_N, kl_L, oSm, oNn, Option.bind_some, wN, if_pos, if_neg, nS, tN, t0, w0, w1, w2, w3, w4, w5, wm1, upA_ne, upA_same, if_true, if_false, Bool.false_eq_true, w10, ra2, rl2, ra3, rl3, ra5, rl5, ra6, rl6, g1, g2]
    refine ih _ ⟨fun j hj => ?_, ?_, fun b p q r => ?_⟩
    · simp (disch := omega) only [upA_same, upA_ne]
      by_cases q : j = i
      · rw [q, up1_same, up1_same]; exact ⟨rfl, rfl⟩
      · rw [up1_ne q, up1_ne q]; exact hp.1 j (by omega)
    · simp (disch := omega) only [upA_ne]; exact hp.2.1
    · simp (disch := omega) only [upA_ne]; exact hp.2.2 b p q r) 0 (Nat.zero_le _)
  have L0 := L (upA σ1.1 124 f4, σ1.2) ⟨fun j hj => by omega, by simp (disch := omega) only [upA_same], fun b p _ _ => by simp (disch := omega) only [upA_ne]⟩
  simp (disch := first | assumption | omega | (simp (disch := omega) only [wN, w0, w1]; omega)) only [e279_0, e279_1, e279_2, e279_5, e279_6, e279_7, e279_8, e279_11, e279_12, e279_13, e279_16, e279_19, e279_20, e279_21, e279_24, e279_27, e279_28, e279_29, e279_32, e279_35, e279_36, e279_37, e279_40, e279_43, e279_44, e279_46, e279_48, e279_51, e279_52, e279_55, e279_56, e279_57, e279_60, e279_61, e279_62, e279_63, e279_64, e279_67, e279_68, e279_69, e279_72, e279_73, e279_74, e279_75, e279_78, e279_81, e279_82, e279_84, e279_85, e279_88, e279_89, e279_92, e279_93, e279_94, e279_97, e279_98, e279_99, e279_100, e279_103, e279_106, e279_107, e279_110, e279_111, e279_112, kl_I, kl_R, kl_N, kl_L, oSm, oNn, Option.bind_some, wN, if_pos, if_neg, nS, tN, t0, w0, w1, w2, w3, w4, w5, wm1, upA_ne, upA_same, if_true, if_false, Bool.false_eq_true, q279, a1, k8, k9, k10, k11, upA_upA, up1_ne]
  exact L0
theorem M280 (hM : MS sh) (h : InvM sh σ a) : End (run sh (d + 1) 280 [mR 124] σ) (fun r σ' => r = some (mI (aUndo a).1) ∧ InvM sh σ' (aUndo a).2) := by
  have hI := h
  have mo := hM.1
  have m160 := hM.2.1
  obtain ⟨ra2, rk2, rl2⟩ := ms2 hM
  obtain ⟨ra3, rk3, rl3⟩ := ms3 hM
  obtain ⟨ra4, rk4, rl4⟩ := ms4 hM
  obtain ⟨ra5, rk5, rl5⟩ := ms5 hM
  obtain ⟨ra6, rk6, rl6⟩ := ms6 hM
  obtain ⟨ra7, rk7, rl7⟩ := ms7 hM
  obtain ⟨⟨n, c, m, E, P, x⟩, K, B, s, T⟩ := a
  obtain ⟨⟨hG, hN, hMp, hEl, hx0, hE, hP, hoS⟩, hik, hKp, hTp, h140, hTm⟩ := id h
  replace hG : HGm σ 0 c := hG
  replace hN : σ.1 124 8 = (n : Int) := hN
  replace hMp : σ.1 124 9 = (m : Int) := hMp
  replace hEl : σ.1 124 10 = (E.length : Int) := hEl
  replace hx0 : σ.1 124 11 = (x : Int) := hx0
  replace hE : HEm σ 127 128 E := hE
  replace hP : ∀ y, y < n → σ.1 129 y = (P y : Int) := hP
  replace hoS : okZ n c m E P x := hoS
  replace hTp : HPm σ B s := hTp
  replace h140 : s ≤ 140 := h140
  replace hTm : HT sh σ 157 T := hTm
  replace hik : σ.1 124 16 = bi K.isSome := hik
  obtain ⟨n1, n4', c30, hv, m2, m5, E10, hvE, hPk, x16⟩ := id hoS
  unfold aUndo
  simp only
  cases K with
  | none =>
    replace hik : σ.1 124 16 = 0 := hik
    simp (disch := first | assumption | omega | (simp (disch := omega) only [wN, w0, w1]; omega)) only [e280_0, e280_1, e280_4, e280_7, e280_8, e280_9, e280_10, e280_11, e280_12, e280_15, e280_16, e280_17, e280_20, e280_23, e280_24, e280_25, e280_28, e280_31, e280_32, e280_33, e280_36, e280_39, e280_40, e280_41, e280_44, e280_47, e280_48, e280_50, e280_52, e280_55, e280_56, e280_59, e280_60, e280_61, e280_64, e280_65, e280_66, e280_67, e280_68, e280_71, e280_72, e280_73, e280_76, e280_77, e280_78, e280_79, e280_82, e280_85, e280_86, e280_88, e280_89, e280_92, e280_93, e280_96, e280_97, e280_98, e280_101, e280_102, e280_103, e280_104, e280_107, e280_110, e280_111, kl_I, kl_R, kl_N, kl_L, oSm, oNn, Option.bind_some, wN, if_pos, if_neg, nS, tN, t0, w0, w1, w2, w3, w4, w5, wm1, upA_ne, upA_same, if_true, if_false, Bool.false_eq_true, q280, hik]
    exact End.of rfl ⟨rfl, hI⟩
  | some S =>
    replace hik : σ.1 124 16 = 1 := hik
    obtain ⟨n', c', m', E', P', x'⟩ := S
    obtain ⟨kG, kN, kM, kE, kx, kEd, kP, kok⟩ := id (hKp _ rfl)
    replace kG : HGm σ 1 c' := kG
    replace kN : σ.1 124 12 = (n' : Int) := kN
    replace kM : σ.1 124 13 = (m' : Int) := kM
    replace kE : σ.1 124 14 = (E'.length : Int) := kE
    replace kx : σ.1 124 15 = (x' : Int) := kx
    replace kEd : HEm σ 130 131 E' := kEd
    replace kP : ∀ y, y < n' → σ.1 132 y = (P' y : Int) := kP
    obtain ⟨o1, o4, o30, ov, om2, om5, oE10, ovE, oPk, ox⟩ := (show okZ n' c' m' E' P' x' from kok)
    obtain ⟨r, σ1, a1, rfl, a2, a3, a4, a5⟩ := M172 (d := d) (t := 1) (u := 0) (z := 1) (w := 0) hM kG o30 (by omega) (by omega) (by omega) rfl rfl
    have g124 : ∀ i, σ1.1 124 i = σ.1 124 i := fun i => a3.2 i (by omega)
    have gb : ∀ b, 127 ≤ b → σ1.1 b = σ.1 b := fun b hb => (a3.1 b (by omega) (by omega)).1
    have k12 := g124 12
    have k13 := g124 13
    have k14 := g124 14
    have k15 := g124 15
    rw [kN] at k12
    rw [kM] at k13
    rw [kE] at k14
    rw [kx] at k15
    let f4 := up1 (up1 (up1 (up1 (σ1.1 124) 8 (n' : Int)) 9 (m' : Int)) 10 (E'.length : Int)) 11 (x' : Int)
    let G := fun (r : Option MV) (σ' : Mem) => r = some (mI 1) ∧ InvM sh σ' ((n', c', m', E', P', x'), some (n', c', m', E', P', x'), B, s, T)
    have fin : ∀ σ2, σ2.1 124 = f4 → (∀ j, j < 10 → σ2.1 127 j = σ.1 130 j ∧ σ2.1 128 j = σ.1 131 j) → (∀ l, l < 4 → σ2.1 129 l = σ.1 132 l) → (∀ b, b ≠ 124 → b ≠ 127 → b ≠ 128 → b ≠ 129 → σ2.1 b = σ1.1 b) → InvM sh σ2 ((n', c', m', E', P', x'), some (n', c', m', E', P', x'), B, s, T) := by
      intro σ2 h124 he hp ho
      have q : ∀ i, i < 8 ∨ 11 < i → σ2.1 124 i = σ.1 124 i := fun i hi => by
        rw [h124, ← g124]
        show up1 _ _ _ _ = _
        simp (disch := omega) only [up1_ne]
      have k26 := ho 126 (by omega) (by omega) (by omega) (by omega)
      have k25 := ho 125 (by omega) (by omega) (by omega) (by omega)
      refine ⟨⟨a2.k (by rw [k26]) (fun i _ _ => by rw [k25]), ?_, ?_, ?_, ?_, ?_, ?_, kok⟩, ?_, fun S hS => ?_, ⟨?_, fun j hj => ?_⟩, h140, hTm.k ?_⟩
      · rw [h124]; show up1 _ _ _ _ = _; simp (disch := omega) only [up1_ne, up1_same]
      · rw [h124]; show up1 _ _ _ _ = _; simp (disch := omega) only [up1_ne, up1_same]
      · rw [h124]; show up1 _ _ _ _ = _; simp (disch := omega) only [up1_ne, up1_same]
      · rw [h124]; show up1 _ _ _ _ = _; simp (disch := omega) only [up1_ne, up1_same]
      · exact kEd.c oE10 (fun j hj => (he j hj).1) (fun j hj => (he j hj).2)
      · intro y hy
        have hy' : y < n' := hy
        rw [hp y (by omega)]; exact kP y hy
      · rw [q 16 (by omega)]; exact hik
      · injection hS with hS
        subst hS
        refine ⟨kG.k (by rw [k26, a4 1 (by omega)]) (fun i p _ => by rw [k25, a5 i (by omega)]), ?_, ?_, ?_, ?_, ?_, ?_, kok⟩
        · rw [q 12 (by omega)]; exact kN
        · rw [q 13 (by omega)]; exact kM
        · rw [q 14 (by omega)]; exact kE
        · rw [q 15 (by omega)]; exact kx
        · exact kEd.c oE10 (fun j hj => by rw [ho 130 (by omega) (by omega) (by omega) (by omega), gb 130 (by omega)]) (fun j hj => by rw [ho 131 (by omega) (by omega) (by omega) (by omega), gb 131 (by omega)])
        · intro y hy
          rw [ho 132 (by omega) (by omega) (by omega) (by omega), gb 132 (by omega)]; exact kP y hy
      · rw [q 21 (by omega)]; exact hTp.1
      · rw [ho 133 (by omega) (by omega) (by omega) (by omega), gb 133 (by omega)]; exact hTp.2 j hj
      · rw [ho 157 (by omega) (by omega) (by omega) (by omega), gb 157 (by omega)]
    have Q2 : ∀ σ2, σ2.1 124 = f4 → (∀ j, j < 10 → σ2.1 127 j = σ.1 130 j ∧ σ2.1 128 j = σ.1 131 j) → (∀ b, b ≠ 124 → b ≠ 127 → b ≠ 128 → b ≠ 129 → σ2.1 b = σ1.1 b) → End (ev sh (d + 1) 280 87 [some (mR (124)), some (mI ((0 : Nat) : Int))] [] σ2) G := by
      intro σ2 h124 he ho
      have L := for_P (4) (fun i => ∀ (σ3 : Mem), ((∀ l, l < i → σ3.1 129 l = σ.1 132 l) ∧ (∀ b, b ≠ 129 → σ3.1 b = σ2.1 b)) → End (ev sh (d + 1) 280 87 [some (mR (124)), some (mI ((i : Nat) : Int))] [] σ3) (G)) (by
        intro σ3  hp
        replace hp : (∀ l, l < (4) → σ3.1 129 l = σ.1 132 l) ∧ (∀ b, b ≠ 129 → σ3.1 b = σ2.1 b) := hp
        show End (ev sh (d + 1) 280 87 [some (mR (124)), some (mI (((4) : Nat) : Int))] [] σ3) (G)
        rw [e280_87]
        simp (disch := first | assumption | omega | (simp (disch := omega) only [wN, w0, w1]; omega)) only [e280_0, e280_1, e280_4, e280_7, e280_8, e280_9, e280_10, e280_11, e280_12, e280_15, e280_16, e280_17, e280_20, e280_23, e280_24, e280_25, e280_28, e280_31, e280_32, e280_33, e280_36, e280_39, e280_40, e280_41, e280_44, e280_47, e280_48, e280_50, e280_52, e280_55, e280_56, e280_59, e280_60, e280_61, e280_64, e280_65, e280_66, e280_67, e280_68, e280_71, e280_72, e280_73, e280_76, e280_77, e280_78, e280_79, e280_82, e280_85, e280_86, e280_88, e280_89, e280_92, e280_93, e280_96, e280_97, e280_98, e280_101, e280_102, e280_103, e280_104, e280_107, e280_110, e280_111, kl_I, kl_R, kl_N, kl_L, oSm, oNn, Option.bind_some, wN, if_pos, if_neg, nS, tN, t0, w0, w1, w2, w3, w4, w5, wm1, upA_ne, upA_same, if_true, if_false, Bool.false_eq_true]
        exact End.of rfl ⟨rfl, fin σ3 (by rw [hp.2 124 (by omega)]; exact h124) (fun j hj => by rw [hp.2 127 (by omega), hp.2 128 (by omega)]; exact he j hj) hp.1 (fun b p q r t => by rw [hp.2 b t]; exact ho b p q r t)⟩) (fun i hi ih => by
        replace ih : ∀ (σ3 : Mem), ((∀ l, l < (i + 1) → σ3.1 129 l = σ.1 132 l) ∧ (∀ b, b ≠ 129 → σ3.1 b = σ2.1 b)) → End (ev sh (d + 1) 280 87 [some (mR (124)), some (mI (((i + 1) : Nat) : Int))] [] σ3) (G) := ih
        intro σ3  hp
        replace hp : (∀ l, l < i → σ3.1 129 l = σ.1 132 l) ∧ (∀ b, b ≠ 129 → σ3.1 b = σ2.1 b) := hp
        show End (ev sh (d + 1) 280 87 [some (mR (124)), some (mI ((i : Nat) : Int))] [] σ3) (G)
        have g : σ3.1 132 i = σ.1 132 i := by rw [hp.2 132 (by omega), ho 132 (by omega) (by omega) (by omega) (by omega), gb 132 (by omega)]
        rw [e280_87]
        simp (disch := first | assumption | omega | (simp (disch := omega) only [wN, w0, w1]; omega)) only [e280_0, e280_1, e280_4, e280_7, e280_8, e280_9, e280_10, e280_11, e280_12, e280_15, e280_16, e280_17, e280_20, e280_23, e280_24, e280_25, e280_28, e280_31, e280_32, e280_33, e280_36, e280_39, e280_40, e280_41, e280_44, e280_47, e280_48, e280_50, e280_52, e280_55, e280_56, e280_59, e280_60, e280_61, e280_64, e280_65, e280_66, e280_67, e280_68, e280_71, e280_72, e280_73, e280_76, e280_77, e280_78, e280_79, e280_82, e280_85, e280_86, e280_88, e280_89, e280_92, e280_93, e280_96, e280_97, e280_98, e280_101, e280_102, e280_103, e280_104, e280_107, e280_110, e280_111, kl_I, kl_R, kl_N, kl_L, oSm, oNn, Option.bind_some, wN, if_pos, if_neg, nS, tN, t0, w0, w1, w2, w3, w4, w5, wm1, upA_ne, upA_same, if_true, if_false, Bool.false_eq_true, ra4, rl4, ra7, rl7, g]
        refine ih _ ⟨fun l hl => ?_, fun b hb => ?_⟩
        · simp (disch := omega) only [upA_same]
          by_cases q : l = i
          · rw [q, up1_same]
          · rw [up1_ne q]; exact hp.1 l (by omega)
        · simp (disch := omega) only [upA_ne]
          exact hp.2 b hb) 0 (Nat.zero_le _)
      exact L σ2 ⟨fun l hl => by omega, fun _ _ => rfl⟩
    have L := for_P (10) (fun i => ∀ (σ2 : Mem), ((∀ j, j < i → σ2.1 127 j = σ.1 130 j ∧ σ2.1 128 j = σ.1 131 j) ∧ σ2.1 124 = f4 ∧ (∀ b, b ≠ 124 → b ≠ 127 → b ≠ 128 → σ2.1 b = σ1.1 b)) → End (ev sh (d + 1) 280 49 [some (mR (124)), some (mI ((i : Nat) : Int))] [] σ2) (G)) (by
      intro σ2  hp
      replace hp : (∀ j, j < (10) → σ2.1 127 j = σ.1 130 j ∧ σ2.1 128 j = σ.1 131 j) ∧ σ2.1 124 = f4 ∧ (∀ b, b ≠ 124 → b ≠ 127 → b ≠ 128 → σ2.1 b = σ1.1 b) := hp
      show End (ev sh (d + 1) 280 49 [some (mR (124)), some (mI (((10) : Nat) : Int))] [] σ2) (G)
      rw [e280_49]
      have w10 : wi 10 = 10 := rfl
      simp (disch := first | assumption | omega | (simp (disch := omega) only [wN, w0, w1]; omega)) only [e280_0, e280_1, e280_4, e280_7, e280_8, e280_9, e280_10, e280_11, e280_12, e280_15, e280_16, e280_17, e280_20, e280_23, e280_24, e280_25, e280_28, e280_31, e280_32, e280_33, e280_36, e280_39, e280_40, e280_41, e280_44, e280_47, e280_48, e280_50, e280_52, e280_55, e280_56, e280_59, e280_60, e280_61, e280_64, e280_65, e280_66, e280_67, e280_68, e280_71, e280_72, e280_73, e280_76, e280_77, e280_78, e280_79, e280_82, e280_85, e280_86, e280_88, e280_89, e280_92, e280_93, e280_96, e280_97, e280_98, e280_101, e280_102, e280_103, e280_104, e280_107, e280_110, e280_111, kl_I, kl_R, kl_N, kl_L, oSm, oNn, Option.bind_some, wN, if_pos, if_neg, nS, tN, t0, w0, w1, w2, w3, w4, w5, wm1, upA_ne, upA_same, if_true, if_false, Bool.false_eq_true, w10]
      exact Q2 σ2 hp.2.1 hp.1 (fun b p q r t => hp.2.2 b p q r)) (fun i hi ih => by
      replace ih : ∀ (σ2 : Mem), ((∀ j, j < (i + 1) → σ2.1 127 j = σ.1 130 j ∧ σ2.1 128 j = σ.1 131 j) ∧ σ2.1 124 = f4 ∧ (∀ b, b ≠ 124 → b ≠ 127 → b ≠ 128 → σ2.1 b = σ1.1 b)) → End (ev sh (d + 1) 280 49 [some (mR (124)), some (mI (((i + 1) : Nat) : Int))] [] σ2) (G) := ih
      intro σ2  hp
      replace hp : (∀ j, j < i → σ2.1 127 j = σ.1 130 j ∧ σ2.1 128 j = σ.1 131 j) ∧ σ2.1 124 = f4 ∧ (∀ b, b ≠ 124 → b ≠ 127 → b ≠ 128 → σ2.1 b = σ1.1 b) := hp
      show End (ev sh (d + 1) 280 49 [some (mR (124)), some (mI ((i : Nat) : Int))] [] σ2) (G)
      have w10 : wi 10 = 10 := rfl
      have g1 : σ2.1 130 i = σ.1 130 i := by rw [hp.2.2 130 (by omega) (by omega) (by omega), gb 130 (by omega)]
      have g2 : σ2.1 131 i = σ.1 131 i := by rw [hp.2.2 131 (by omega) (by omega) (by omega), gb 131 (by omega)]
      rw [e280_49]
      simp (disch := first | assumption | omega | (simp (disch := omega) only [wN, w0, w1]; omega)) only [e280_0, e280_1, e280_4, e280_7, e280_8, e280_9, e280_10, e280_11, e280_12, e280_15, e280_16, e280_17, e280_20, e280_23, e280_24, e280_25, e280_28, e280_31, e280_32, e280_33, e280_36, e280_39, e280_40, e280_41, e280_44, e280_47, e280_48, e280_50, e280_52, e280_55, e280_56, e280_59, e280_60, e280_61, e280_64, e280_65, e280_66, e280_67, e280_68, e280_71, e280_72, e280_73, e280_76, e280_77, e280_78, e280_79, e280_82, e280_85, e280_86, e280_88, e280_89, e280_92, e280_93, e280_96, e280_97, e280_98, e280_101, e280_102, e280_103, e280_104, e280_107, e280_110, e280_111, kl_I, kl_R, kl_N, kl_L, oSm, oNn, Option.bind_some, wN, if_pos, if_neg, nS, tN, t0, w0, w1, w2, w3, w4, w5, wm1, upA_ne, upA_same, if_true, if_false, Bool.false_eq_true, w10, ra2, rl2, ra3, rl3, ra5, rl5, ra6, rl6, g1, g2]
      refine ih _ ⟨fun j hj => ?_, ?_, fun b p q r => ?_⟩
      · simp (disch := omega) only [upA_same, upA_ne]
        by_cases q : j = i
        · rw [q, up1_same, up1_same]; exact ⟨rfl, rfl⟩
        · rw [up1_ne q, up1_ne q]; exact hp.1 j (by omega)
      · simp (disch := omega) only [upA_ne]; exact hp.2.1
      · simp (disch := omega) only [upA_ne]; exact hp.2.2 b p q r) 0 (Nat.zero_le _)
    have L0 := L (upA σ1.1 124 f4, σ1.2) ⟨fun j hj => by omega, by simp (disch := omega) only [upA_same], fun b p _ _ => by simp (disch := omega) only [upA_ne]⟩
    simp (disch := first | assumption | omega | (simp (disch := omega) only [wN, w0, w1]; omega)) only [e280_0, e280_1, e280_4, e280_7, e280_8, e280_9, e280_10, e280_11, e280_12, e280_15, e280_16, e280_17, e280_20, e280_23, e280_24, e280_25, e280_28, e280_31, e280_32, e280_33, e280_36, e280_39, e280_40, e280_41, e280_44, e280_47, e280_48, e280_50, e280_52, e280_55, e280_56, e280_59, e280_60, e280_61, e280_64, e280_65, e280_66, e280_67, e280_68, e280_71, e280_72, e280_73, e280_76, e280_77, e280_78, e280_79, e280_82, e280_85, e280_86, e280_88, e280_89, e280_92, e280_93, e280_96, e280_97, e280_98, e280_101, e280_102, e280_103, e280_104, e280_107, e280_110, e280_111, kl_I, kl_R, kl_N, kl_L, oSm, oNn, Option.bind_some, wN, if_pos, if_neg, nS, tN, t0, w0, w1, w2, w3, w4, w5, wm1, upA_ne, upA_same, if_true, if_false, Bool.false_eq_true, q280, hik, a1, k12, k13, k14, k15, upA_upA, up1_ne]
    exact L0
theorem M281 (hM : MS sh) (h : InvM sh σ a) (hz : i32 z) : End (run sh (d + 1) 281 [mR 124, mI z] σ) (fun r σ' => r = some (mI (aCheck a z).1) ∧ InvM sh σ' (aCheck a z).2) := by
  have hI := h
  have mo := hM.1
  have m160 := hM.2.1
  obtain ⟨ra1, rk1, rl1⟩ := ms1 hM
  obtain ⟨ra17, rk17, rl17⟩ := ms17 hM
  obtain ⟨⟨n, c, m, E, P, x⟩, K, B, s, T⟩ := a
  obtain ⟨⟨hG, hN, hMp, hEl, hx0, hE, hP, hoS⟩, hik, hKp, hTp, h140, hTm⟩ := id h
  replace hG : HGm σ 0 c := hG
  replace hN : σ.1 124 8 = (n : Int) := hN
  replace hMp : σ.1 124 9 = (m : Int) := hMp
  replace hEl : σ.1 124 10 = (E.length : Int) := hEl
  replace hx0 : σ.1 124 11 = (x : Int) := hx0
  replace hE : HEm σ 127 128 E := hE
  replace hP : ∀ y, y < n → σ.1 129 y = (P y : Int) := hP
  replace hoS : okZ n c m E P x := hoS
  replace hTp : HPm σ B s := hTp
  replace h140 : s ≤ 140 := h140
  replace hTm : HT sh σ 157 T := hTm
  replace hik : σ.1 124 16 = bi K.isSome := hik
  obtain ⟨n1, n4', c30, hv, m2, m5, E10, hvE, hPk, x16⟩ := id hoS
  have wz := hz.w
  have ei := E164 (sh := sh) (d := d) (σ := σ) (z := z) (w := 0) (v := 30) hz ⟨by omega, by omega⟩ ⟨by omega, by omega⟩
  have k21 : σ.1 124 21 = (s : Int) := hTp.1
  unfold aCheck
  simp only
  by_cases h1 : 0 ≤ z ∧ z ≤ 30
  · rw [if_pos h1] at ei
    by_cases h2 : (s : Int) < z
    · rw [if_pos (by omega)]
      simp (disch := first | assumption | omega | (simp (disch := omega) only [wN, w0, w1]; omega)) only [e281_0, e281_1, e281_2, e281_4, e281_7, e281_10, e281_11, e281_12, e281_15, e281_18, e281_20, e281_21, e281_22, e281_23, e281_24, e281_25, e281_26, e281_28, e281_31, e281_32, e281_33, e281_36, e281_37, e281_38, e281_41, e281_42, e281_45, e281_46, e281_47, e281_50, e281_51, e281_52, e281_53, e281_54, e281_55, e281_58, e281_61, e281_62, e281_63, e281_66, e281_69, e281_70, e281_71, e281_74, e281_75, kl_I, kl_R, kl_N, kl_L, oSm, oNn, Option.bind_some, wN, if_pos, if_neg, nS, tN, t0, w0, w1, w2, w3, w4, w5, wm1, upA_ne, upA_same, if_true, if_false, Bool.false_eq_true, q281, ei, k21, wz]
      exact End.of rfl ⟨rfl, hI⟩
    · rw [if_neg (by omega)]
      obtain ⟨k, rfl⟩ : ∃ k : Nat, z = (k : Int) := ⟨z.toNat, by omega⟩
      rw [Int.toNat_natCast]
      have hl := hG.1
      have L := for_P (k) (fun j => ∀ (σ1 : Mem), (σ1 = σ) → End (ev sh (d + 1) 281 27 [some (mR (124)), some (mI ((k : Nat) : Int)), some (mI (opI (fst1 (cbB B c) j (k - j)))), some (mI ((k : Int) - 1 - (j : Int)))] [] σ1) (fun r σ' => r = some (mI (opI (fst1 (cbB B c) (k - 0) 0))) ∧ InvM sh σ' ((n, c, m, E, P, x), K, B, 0, T))) (by
        intro σ1  hp
        replace hp : σ1 = σ := hp
        show End (ev sh (d + 1) 281 27 [some (mR (124)), some (mI ((k : Nat) : Int)), some (mI (opI (fst1 (cbB B c) (k) (k - (k))))), some (mI ((k : Int) - 1 - ((k) : Int)))] [] σ1) (fun r σ' => r = some (mI (opI (fst1 (cbB B c) (k - 0) 0))) ∧ InvM sh σ' ((n, c, m, E, P, x), K, B, 0, T))
        subst hp
        have q1 : (k : Int) - 1 - (k : Int) = -1 := by omega
        rw [q1, Nat.sub_self, e281_27]
        simp (disch := first | assumption | omega | (simp (disch := omega) only [wN, w0, w1]; omega)) only [e281_0, e281_1, e281_2, e281_4, e281_7, e281_10, e281_11, e281_12, e281_15, e281_18, e281_20, e281_21, e281_22, e281_23, e281_24, e281_25, e281_26, e281_28, e281_31, e281_32, e281_33, e281_36, e281_37, e281_38, e281_41, e281_42, e281_45, e281_46, e281_47, e281_50, e281_51, e281_52, e281_53, e281_54, e281_55, e281_58, e281_61, e281_62, e281_63, e281_66, e281_69, e281_70, e281_71, e281_74, e281_75, kl_I, kl_R, kl_N, kl_L, oSm, oNn, Option.bind_some, wN, if_pos, if_neg, nS, tN, t0, w0, w1, w2, w3, w4, w5, wm1, upA_ne, upA_same, if_true, if_false, Bool.false_eq_true]
        refine End.of rfl ⟨rfl, ⟨⟨hG.k (by simp (disch := omega) only [upA_ne]) (fun _ _ _ => by simp (disch := omega) only [upA_ne]), ?_, ?_, ?_, ?_, fun j hj => ?_, fun y hy => ?_, hoS⟩, ?_, fun S hS => ?_, ⟨?_, fun j hj => ?_⟩, Nat.zero_le _, hTm.k ?_⟩⟩
        · simp (disch := omega) only [upA_same, up1_ne]; exact hN
        · simp (disch := omega) only [upA_same, up1_ne]; exact hMp
        · simp (disch := omega) only [upA_same, up1_ne]; exact hEl
        · simp (disch := omega) only [upA_same, up1_ne]; exact hx0
        · simp (disch := omega) only [upA_ne]; exact hE j hj
        · simp (disch := omega) only [upA_ne]; exact hP y hy
        · simp (disch := omega) only [upA_same, up1_ne]; exact hik
        · obtain ⟨k1, k2, k3, k4, k5, k6, k7, k8⟩ := hKp S hS
          refine ⟨k1.k (by simp (disch := omega) only [upA_ne]) (fun _ _ _ => by simp (disch := omega) only [upA_ne]), ?_, ?_, ?_, ?_, fun j hj => ?_, fun y hy => ?_, k8⟩
          · simp (disch := omega) only [upA_same, up1_ne]; exact k2
          · simp (disch := omega) only [upA_same, up1_ne]; exact k3
          · simp (disch := omega) only [upA_same, up1_ne]; exact k4
          · simp (disch := omega) only [upA_same, up1_ne]; exact k5
          · simp (disch := omega) only [upA_ne]; exact k6 j hj
          · simp (disch := omega) only [upA_ne]; exact k7 y hy
        · simp (disch := omega) only [upA_same, up1_same]; rfl
        · simp (disch := omega) only [upA_ne]; exact hTp.2 j hj
        · simp (disch := omega) only [upA_ne]) (fun j hi ih => by
        replace ih : ∀ (σ1 : Mem), (σ1 = σ) → End (ev sh (d + 1) 281 27 [some (mR (124)), some (mI ((k : Nat) : Int)), some (mI (opI (fst1 (cbB B c) (j + 1) (k - (j + 1))))), some (mI ((k : Int) - 1 - ((j + 1) : Int)))] [] σ1) (fun r σ' => r = some (mI (opI (fst1 (cbB B c) (k - 0) 0))) ∧ InvM sh σ' ((n, c, m, E, P, x), K, B, 0, T)) := ih
        intro σ1  hp
        replace hp : σ1 = σ := hp
        show End (ev sh (d + 1) 281 27 [some (mR (124)), some (mI ((k : Nat) : Int)), some (mI (opI (fst1 (cbB B c) j (k - j)))), some (mI ((k : Int) - 1 - (j : Int)))] [] σ1) (fun r σ' => r = some (mI (opI (fst1 (cbB B c) (k - 0) 0))) ∧ InvM sh σ' ((n, c, m, E, P, x), K, B, 0, T))
        subst hp
        have q1 : (k : Int) - 1 - (j : Int) = ((k - (j + 1) : Nat) : Int) := by omega
        have q2 : ((k - (j + 1) : Nat) : Int) + -1 = (k : Int) - 1 - ((j + 1 : Nat) : Int) := by omega
        have es : fst1 (cbB B c) (j + 1) (k - (j + 1)) = if cbB B c (k - (j + 1)) = true then some (k - (j + 1)) else fst1 (cbB B c) j (k - j) := by
          rw [fst1, show k - (j + 1) + 1 = k - j by omega]
        obtain ⟨t1, t2⟩ := hTp.2 (k - (j + 1)) (by omega)
        rw [es] at ih
        rw [q1, e281_27]
        by_cases hg : k - (j + 1) < c.length
        · have o0 := of0 (d := d) (z := 0) hM hG (by omega) c30 hg rfl
          have k5 := (hv.at hg).1
          by_cases e : B (k - (j + 1)) = (gA c (k - (j + 1))).1
          · rw [if_neg (show ¬ cbB B c (k - (j + 1)) = true by unfold cbB; simp [hg, e])] at ih
            rw [e] at t1
            simp (disch := first | assumption | omega | (simp (disch := omega) only [wN, w0, w1]; omega)) only [e281_0, e281_1, e281_2, e281_4, e281_7, e281_10, e281_11, e281_12, e281_15, e281_18, e281_20, e281_21, e281_22, e281_23, e281_24, e281_25, e281_26, e281_28, e281_31, e281_32, e281_33, e281_36, e281_37, e281_38, e281_41, e281_42, e281_45, e281_46, e281_47, e281_50, e281_51, e281_52, e281_53, e281_54, e281_55, e281_58, e281_61, e281_62, e281_63, e281_66, e281_69, e281_70, e281_71, e281_74, e281_75, kl_I, kl_R, kl_N, kl_L, oSm, oNn, Option.bind_some, wN, if_pos, if_neg, nS, tN, t0, w0, w1, w2, w3, w4, w5, wm1, upA_ne, upA_same, if_true, if_false, Bool.false_eq_true, ra1, rl1, hl, ra17, rl17, t1, o0, q2]
            exact ih _ rfl
          · rw [if_pos (show cbB B c (k - (j + 1)) = true by unfold cbB; simp [e])] at ih
            simp (disch := first | assumption | omega | (simp (disch := omega) only [wN, w0, w1]; omega)) only [e281_0, e281_1, e281_2, e281_4, e281_7, e281_10, e281_11, e281_12, e281_15, e281_18, e281_20, e281_21, e281_22, e281_23, e281_24, e281_25, e281_26, e281_28, e281_31, e281_32, e281_33, e281_36, e281_37, e281_38, e281_41, e281_42, e281_45, e281_46, e281_47, e281_50, e281_51, e281_52, e281_53, e281_54, e281_55, e281_58, e281_61, e281_62, e281_63, e281_66, e281_69, e281_70, e281_71, e281_74, e281_75, kl_I, kl_R, kl_N, kl_L, oSm, oNn, Option.bind_some, wN, if_pos, if_neg, nS, tN, t0, w0, w1, w2, w3, w4, w5, wm1, upA_ne, upA_same, if_true, if_false, Bool.false_eq_true, ra1, rl1, hl, ra17, rl17, t1, o0, q2]
            exact ih _ rfl
        · rw [if_pos (show cbB B c (k - (j + 1)) = true by unfold cbB; simp [hg])] at ih
          simp (disch := first | assumption | omega | (simp (disch := omega) only [wN, w0, w1]; omega)) only [e281_0, e281_1, e281_2, e281_4, e281_7, e281_10, e281_11, e281_12, e281_15, e281_18, e281_20, e281_21, e281_22, e281_23, e281_24, e281_25, e281_26, e281_28, e281_31, e281_32, e281_33, e281_36, e281_37, e281_38, e281_41, e281_42, e281_45, e281_46, e281_47, e281_50, e281_51, e281_52, e281_53, e281_54, e281_55, e281_58, e281_61, e281_62, e281_63, e281_66, e281_69, e281_70, e281_71, e281_74, e281_75, kl_I, kl_R, kl_N, kl_L, oSm, oNn, Option.bind_some, wN, if_pos, if_neg, nS, tN, t0, w0, w1, w2, w3, w4, w5, wm1, upA_ne, upA_same, if_true, if_false, Bool.false_eq_true, ra1, rl1, hl, q2]
          exact ih _ rfl) 0 (Nat.zero_le _)
      have L0 := L σ rfl
      rw [show ((k : Int) - 1 - ((0 : Nat) : Int)) = (k : Int) - 1 by omega] at L0
      simp (disch := first | assumption | omega | (simp (disch := omega) only [wN, w0, w1]; omega)) only [e281_0, e281_1, e281_2, e281_4, e281_7, e281_10, e281_11, e281_12, e281_15, e281_18, e281_20, e281_21, e281_22, e281_23, e281_24, e281_25, e281_26, e281_28, e281_31, e281_32, e281_33, e281_36, e281_37, e281_38, e281_41, e281_42, e281_45, e281_46, e281_47, e281_50, e281_51, e281_52, e281_53, e281_54, e281_55, e281_58, e281_61, e281_62, e281_63, e281_66, e281_69, e281_70, e281_71, e281_74, e281_75, kl_I, kl_R, kl_N, kl_L, oSm, oNn, Option.bind_some, wN, if_pos, if_neg, nS, tN, t0, w0, w1, w2, w3, w4, w5, wm1, upA_ne, upA_same, if_true, if_false, Bool.false_eq_true, q281, ei, k21, wz]
      exact L0
  · rw [if_neg h1] at ei
    rw [if_pos (by omega)]
    simp (disch := first | assumption | omega | (simp (disch := omega) only [wN, w0, w1]; omega)) only [e281_0, e281_1, e281_2, e281_4, e281_7, e281_10, e281_11, e281_12, e281_15, e281_18, e281_20, e281_21, e281_22, e281_23, e281_24, e281_25, e281_26, e281_28, e281_31, e281_32, e281_33, e281_36, e281_37, e281_38, e281_41, e281_42, e281_45, e281_46, e281_47, e281_50, e281_51, e281_52, e281_53, e281_54, e281_55, e281_58, e281_61, e281_62, e281_63, e281_66, e281_69, e281_70, e281_71, e281_74, e281_75, kl_I, kl_R, kl_N, kl_L, oSm, oNn, Option.bind_some, wN, if_pos, if_neg, nS, tN, t0, w0, w1, w2, w3, w4, w5, wm1, upA_ne, upA_same, if_true, if_false, Bool.false_eq_true, q281, ei]
    exact End.of rfl ⟨rfl, hI⟩
end OE

