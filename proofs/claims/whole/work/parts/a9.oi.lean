/-! ===== the reference: fewest ===== -/
theorem vT_pre {n m k : Nat} : ∀ j, ∃ R, vT n m (k + j) = vT n m k ++ R
  | 0 => ⟨[], by rw [List.append_nil]; rfl⟩
  | j + 1 => by
    obtain ⟨R, h⟩ := vT_pre (n := n) (m := m) (k := k) j
    rw [← Nat.add_assoc, vT]
    split
    · exact ⟨R ++ [k + j], by rw [h, List.append_assoc]⟩
    · exact ⟨R, h⟩
section OI
variable {sh : Shp} {d m n g f : Nat} {σ : Mem} {E : List Ed} {a : AX} {z w : Int} {c : List Gt} {P A : Nat → Nat} {D l q : Nat} {lo : Bool}
theorem M267 {M : Nat} (hM : MS sh) (hc : c.length ≤ 30) (hv : okC n c) (hn : n ≤ 4) (hm : m ≤ 5) (hvE : okE m E) (h10 : E.length ≤ 10) (hmo : M ≤ 6) (hR : RC σ n m c E A) (hF : FLo σ 0 n P D) (hP : okP n m P) (hD : D < 2 ^ c.length) : End (run sh (d + 5) 267 [mR 124, mI (M : Int)] σ) (fun r σ' => r = some (mI (bi (pB (farE E) n c E A M P D (-1)))) ∧ frN σ σ') := by
  have mo := hM.1
  have m160 := hM.2.1
  obtain ⟨ra52, rk52, rl52⟩ := ms52 hM
  obtain ⟨σ1, h1⟩ : ∃ s : Mem, s = (upA σ.1 153 (up1 (σ.1 153) 0 0), σ.2) := ⟨_, rfl⟩
  have f1 : frW 153 153 1 0 σ σ1 := by rw [h1]; exact frW.a (a := 153) (by omega) (by omega)
  have F1 : FLe σ1 0 n P D (-1) 0 := by
    have q4 : σ1.1 154 = σ.1 154 := (f1.1 154 (by omega) (by omega)).1
    have q6 : σ1.1 156 = σ.1 156 := (f1.1 156 (by omega) (by omega)).1
    refine ⟨⟨by rw [q4]; exact hF.1, fun y hy => by rw [q6]; exact hF.2 y hy⟩, ?_, fun q => by omega⟩
    rw [h1]
    simp (disch := omega) only [upA_same, up1_same]; rfl
  obtain ⟨σ2, v', r1, r2, r3⟩ := M267l (d := d) hM hc hv hn hm hvE h10 M hmo M 0 (by omega) E.length 0 (by omega) σ1 P D (-1) none (hR.W f1 (by omega) (by omega)) F1 hP hD (fun _ => rfl) ⟨by omega, by omega⟩
  rw [pBe_0] at r3
  have fr := (f1.N (by omega) (by omega) (by omega) (by omega) (by omega)).tr r1
  have st : run sh (d + 5) 267 [mR 124, mI (M : Int)] σ = ev sh (d + 5) 267 9 [some (mR (124)), some (mI ((M : Nat) : Int)), some (mI ((0 : Nat) : Int)), none] [] σ1 := by
    rw [h1]
    simp (disch := first | assumption | omega | (simp (disch := omega) only [wN, w0, w1]; omega)) only [e267_0, e267_1, e267_2, e267_3, e267_6, e267_7, e267_8, e267_10, e267_13, e267_14, e267_15, e267_18, e267_19, e267_22, e267_25, e267_26, e267_29, e267_30, e267_31, e267_34, e267_35, e267_36, e267_37, e267_40, e267_41, e267_42, e267_43, e267_46, e267_49, e267_50, e267_51, e267_52, e267_53, e267_56, e267_59, e267_60, e267_61, e267_64, e267_65, e267_66, e267_67, e267_68, e267_71, e267_72, e267_75, e267_76, e267_77, e267_78, e267_79, e267_82, e267_83, e267_84, e267_85, e267_86, e267_87, e267_88, e267_89, e267_90, e267_93, e267_96, e267_99, e267_100, e267_103, e267_104, e267_107, e267_108, e267_109, e267_110, e267_113, e267_114, e267_115, e267_118, e267_119, e267_122, e267_123, e267_124, e267_125, e267_126, e267_127, e267_128, e267_131, e267_132, e267_135, e267_136, e267_137, e267_140, e267_141, e267_144, e267_145, e267_146, e267_147, e267_148, e267_151, e267_152, e267_155, e267_156, e267_157, e267_160, e267_161, kl_I, kl_R, kl_N, kl_L, oSm, oNn, Option.bind_some, wN, if_pos, if_neg, nS, tN, t0, w0, w1, w2, w3, w4, w5, wm1, upA_ne, upA_same, if_true, if_false, Bool.false_eq_true, q267, ra52, rl52]
    rfl
  rw [st, r3]
  by_cases h : pB (farE E) n c E A M P D (-1) = true
  · rw [if_pos h, h]
    exact End.of rfl ⟨rfl, fr⟩
  · have h' : pB (farE E) n c E A M P D (-1) = false := by simpa using h
    rw [if_neg h, h']
    have e0 : ((0 : Nat) : Int) - 1 = -1 := rfl
    rw [e0, e267_9]
    simp (disch := first | assumption | omega | (simp (disch := omega) only [wN, w0, w1]; omega)) only [e267_0, e267_1, e267_2, e267_3, e267_6, e267_7, e267_8, e267_10, e267_13, e267_14, e267_15, e267_18, e267_19, e267_22, e267_25, e267_26, e267_29, e267_30, e267_31, e267_34, e267_35, e267_36, e267_37, e267_40, e267_41, e267_42, e267_43, e267_46, e267_49, e267_50, e267_51, e267_52, e267_53, e267_56, e267_59, e267_60, e267_61, e267_64, e267_65, e267_66, e267_67, e267_68, e267_71, e267_72, e267_75, e267_76, e267_77, e267_78, e267_79, e267_82, e267_83, e267_84, e267_85, e267_86, e267_87, e267_88, e267_89, e267_90, e267_93, e267_96, e267_99, e267_100, e267_103, e267_104, e267_107, e267_108, e267_109, e267_110, e267_113, e267_114, e267_115, e267_118, e267_119, e267_122, e267_123, e267_124, e267_125, e267_126, e267_127, e267_128, e267_131, e267_132, e267_135, e267_136, e267_137, e267_140, e267_141, e267_144, e267_145, e267_146, e267_147, e267_148, e267_151, e267_152, e267_155, e267_156, e267_157, e267_160, e267_161, kl_I, kl_R, kl_N, kl_L, oSm, oNn, Option.bind_some, wN, if_pos, if_neg, nS, tN, t0, w0, w1, w2, w3, w4, w5, wm1, upA_ne, upA_same, if_true, if_false, Bool.false_eq_true]
    exact End.of rfl ⟨rfl, fr⟩
theorem M268 {M : Nat} (hM : MS sh) (hc : c.length ≤ 30) (hv : okC n c) (hn : n ≤ 4) (hm : m ≤ 5) (hvE : okE m E) (h10 : E.length ≤ 10) (hmo : M ≤ 6) (hR : RC σ n m c E A) (hq : laI sh q) (hq2 : q < 147) (hL : HLm σ q n P) (hP : okP n m P) (hq3 : q ≠ 124) : End (run sh (d + 6) 268 [mR 124, mR q, mI (M : Int)] σ) (fun r σ' => r = some (mI (bi (caB (farE E) c E A M P 0))) ∧ frN σ σ') := by
  have mo := hM.1
  have m160 := hM.2.1
  obtain ⟨ra41, rk41, rl41⟩ := ms41 hM
  obtain ⟨kq, lq⟩ := hq
  have hA : ∀ g, g < c.length → A g < 2 ^ g := fun g hg => (hR.2.2.1 g hg).2
  have cp : ∀ x, x < n → P x = P x := fun _ _ => rfl
  have L := for_P (4) (fun i => ∀ (σ1 : Mem), ((∀ l, l < i → σ1.1 147 l = stI n P l) ∧ σ1.1 124 48 = 0 ∧ σ1.1 124 46 = 0 ∧ frW 147 147 46 48 σ σ1) → End (ev sh (d + 6) 268 12 [some (mR (124)), some (mR (q)), some (mI ((M : Nat) : Int)), some (mI ((i : Nat) : Int))] [] σ1) (fun r σ' => r = some (mI (bi (caB (farE E) c E A M P 0))) ∧ frN σ σ')) (by
    intro σ1  hp
    replace hp : (∀ l, l < (4) → σ1.1 147 l = stI n P l) ∧ σ1.1 124 48 = 0 ∧ σ1.1 124 46 = 0 ∧ frW 147 147 46 48 σ σ1 := hp
    show End (ev sh (d + 6) 268 12 [some (mR (124)), some (mR (q)), some (mI ((M : Nat) : Int)), some (mI (((4) : Nat) : Int))] [] σ1) (fun r σ' => r = some (mI (bi (caB (farE E) c E A M P 0))) ∧ frN σ σ')
    obtain ⟨p1, p2, p3, p4⟩ := hp
    have hR1 := hR.W p4 (by omega) (by omega)
    have hV1 : RV false σ1 n P (0, (fun _ => 0), []) := by
      refine ⟨fun y hy => ?_, fun l p q => ?_, p2, fun q => (by cases q), p3, fun j hj => (by cases hj)⟩
      · rw [p1 y (by omega), stI, if_pos hy]
      · rw [p1 l q, stI, if_neg (by omega)]
    obtain ⟨r, σ2, a1, rfl, a2, a3, _⟩ := M250 (d := d + 1) (x := (0, (fun _ => 0), [])) hM hc hv hn hm hP (Nat.two_pow_pos _) (by simp only [List.length_nil]; omega) hR1 hV1
    obtain ⟨r, σ3, b1, rfl, b2, b3, b4, b5, b6⟩ := M265 (d := d + 5) (f := 0) hM a2 (by omega) hn
    have dEq : (rrA (farE E) c A P c.length (0, (fun _ => 0), [])).1 = daD (farE E) c A P 0 c.length := rrA_D _ _ _ _ _ _
    rw [dEq] at b2
    replace b1 : run sh (d + 5) 265 [mR 124, mI 0] σ2 = some (none, σ3) := b1
    have dlt : daD (farE E) c A P 0 c.length < 2 ^ c.length := daD_lt (Nat.two_pow_pos _) _ (Nat.le_refl _)
    have f3 : frN σ σ3 := (p4.N (by omega) (by omega) (by omega) (by omega) (by omega)).tr ((a3.N (by omega) (by omega) (by omega) (by omega) (by omega)).tr (b5.N (by omega) (by omega) (by omega) (by omega) (by omega)))
    obtain ⟨r, σ4, c1, rfl, c2⟩ := M267 (d := d) (M := M) hM hc hv hn hm hvE h10 hmo (hR.N f3) b2 hP dlt
    rw [pB_eq hv hvE hm hA hP dlt (daD_id hA), caB_da hA] at c1
    rw [e268_12]
    cases hcb : caB (farE E) c E A M P 0 with
    | true =>
      rw [hcb] at c1
      replace c1 : run sh (d + 5) 267 [mR 124, mI (M : Int)] σ3 = some (some (mI 1), σ4) := c1
      simp (disch := first | assumption | omega | (simp (disch := omega) only [wN, w0, w1]; omega)) only [e268_0, e268_1, e268_2, e268_5, e268_6, e268_7, e268_10, e268_11, e268_13, e268_14, e268_17, e268_18, e268_21, e268_22, e268_23, e268_24, e268_27, e268_30, e268_31, e268_32, e268_33, e268_36, e268_37, e268_38, e268_41, e268_44, e268_45, e268_48, e268_49, e268_50, e268_53, e268_54, e268_55, e268_58, kl_I, kl_R, kl_N, kl_L, oSm, oNn, Option.bind_some, wN, if_pos, if_neg, nS, tN, t0, w0, w1, w2, w3, w4, w5, wm1, upA_ne, upA_same, if_true, if_false, Bool.false_eq_true, a1, b1, c1]
      exact End.of rfl ⟨rfl, f3.tr c2⟩
    | false =>
      rw [hcb] at c1
      replace c1 : run sh (d + 5) 267 [mR 124, mI (M : Int)] σ3 = some (some (mI 0), σ4) := c1
      simp (disch := first | assumption | omega | (simp (disch := omega) only [wN, w0, w1]; omega)) only [e268_0, e268_1, e268_2, e268_5, e268_6, e268_7, e268_10, e268_11, e268_13, e268_14, e268_17, e268_18, e268_21, e268_22, e268_23, e268_24, e268_27, e268_30, e268_31, e268_32, e268_33, e268_36, e268_37, e268_38, e268_41, e268_44, e268_45, e268_48, e268_49, e268_50, e268_53, e268_54, e268_55, e268_58, kl_I, kl_R, kl_N, kl_L, oSm, oNn, Option.bind_some, wN, if_pos, if_neg, nS, tN, t0, w0, w1, w2, w3, w4, w5, wm1, upA_ne, upA_same, if_true, if_false, Bool.false_eq_true, a1, b1, c1]
      exact End.of rfl ⟨rfl, f3.tr c2⟩) (fun i hi ih => by
    replace ih : ∀ (σ1 : Mem), ((∀ l, l < (i + 1) → σ1.1 147 l = stI n P l) ∧ σ1.1 124 48 = 0 ∧ σ1.1 124 46 = 0 ∧ frW 147 147 46 48 σ σ1) → End (ev sh (d + 6) 268 12 [some (mR (124)), some (mR (q)), some (mI ((M : Nat) : Int)), some (mI (((i + 1) : Nat) : Int))] [] σ1) (fun r σ' => r = some (mI (bi (caB (farE E) c E A M P 0))) ∧ frN σ σ') := ih
    intro σ1  hp
    replace hp : (∀ l, l < i → σ1.1 147 l = stI n P l) ∧ σ1.1 124 48 = 0 ∧ σ1.1 124 46 = 0 ∧ frW 147 147 46 48 σ σ1 := hp
    show End (ev sh (d + 6) 268 12 [some (mR (124)), some (mR (q)), some (mI ((M : Nat) : Int)), some (mI ((i : Nat) : Int))] [] σ1) (fun r σ' => r = some (mI (bi (caB (farE E) c E A M P 0))) ∧ frN σ σ')
    obtain ⟨p1, p2, p3, p4⟩ := hp
    have hN1 : σ1.1 124 8 = (n : Int) := (hR.W p4 (by omega) (by omega)).2.2.2.2.2
    have fin : ∀ v : Int, v = stI n P i → End (ev sh (d + 6) 268 12 [some (mR (124)), some (mR (q)), some (mI ((M : Nat) : Int)), some (mI ((i + 1 : Nat) : Int))] [] (upA σ1.1 147 (up1 (σ1.1 147) i v), σ1.2)) (fun r σ' => r = some (mI (bi (caB (farE E) c E A M P 0))) ∧ frN σ σ') := fun v hv0 => by
      refine ih _ ⟨fun l hl => ?_, ?_, ?_, p4.tr (frW.a (a := 147) (by omega) (by omega))⟩
      · simp (disch := omega) only [upA_same]
        by_cases q : l = i
        · rw [q, up1_same]; exact hv0
        · rw [up1_ne q]; exact p1 l (by omega)
      · simp (disch := omega) only [upA_ne]; exact p2
      · simp (disch := omega) only [upA_ne]; exact p3
    rw [e268_12]
    by_cases hin : i < n
    · have g : σ1.1 q i = (P i : Int) := by rw [(p4.1 q (by omega) hq3).1]; exact hL i hin
      simp (disch := first | assumption | omega | (simp (disch := omega) only [wN, w0, w1]; omega)) only [e268_0, e268_1, e268_2, e268_5, e268_6, e268_7, e268_10, e268_11, e268_13, e268_14, e268_17, e268_18, e268_21, e268_22, e268_23, e268_24, e268_27, e268_30, e268_31, e268_32, e268_33, e268_36, e268_37, e268_38, e268_41, e268_44, e268_45, e268_48, e268_49, e268_50, e268_53, e268_54, e268_55, e268_58, kl_I, kl_R, kl_N, kl_L, oSm, oNn, Option.bind_some, wN, if_pos, if_neg, nS, tN, t0, w0, w1, w2, w3, w4, w5, wm1, upA_ne, upA_same, if_true, if_false, Bool.false_eq_true, ra41, rl41, hN1, lq, g]
      exact fin _ (by rw [stI, if_pos hin])
    · simp (disch := first | assumption | omega | (simp (disch := omega) only [wN, w0, w1]; omega)) only [e268_0, e268_1, e268_2, e268_5, e268_6, e268_7, e268_10, e268_11, e268_13, e268_14, e268_17, e268_18, e268_21, e268_22, e268_23, e268_24, e268_27, e268_30, e268_31, e268_32, e268_33, e268_36, e268_37, e268_38, e268_41, e268_44, e268_45, e268_48, e268_49, e268_50, e268_53, e268_54, e268_55, e268_58, kl_I, kl_R, kl_N, kl_L, oSm, oNn, Option.bind_some, wN, if_pos, if_neg, nS, tN, t0, w0, w1, w2, w3, w4, w5, wm1, upA_ne, upA_same, if_true, if_false, Bool.false_eq_true, ra41, rl41, hN1]
      exact fin _ (by rw [stI, if_neg hin])) 0 (Nat.zero_le _)
  simp (disch := first | assumption | omega | (simp (disch := omega) only [wN, w0, w1]; omega)) only [e268_0, e268_1, e268_2, e268_5, e268_6, e268_7, e268_10, e268_11, e268_13, e268_14, e268_17, e268_18, e268_21, e268_22, e268_23, e268_24, e268_27, e268_30, e268_31, e268_32, e268_33, e268_36, e268_37, e268_38, e268_41, e268_44, e268_45, e268_48, e268_49, e268_50, e268_53, e268_54, e268_55, e268_58, kl_I, kl_R, kl_N, kl_L, oSm, oNn, Option.bind_some, wN, if_pos, if_neg, nS, tN, t0, w0, w1, w2, w3, w4, w5, wm1, upA_ne, upA_same, if_true, if_false, Bool.false_eq_true, q268, upA_upA]
  refine L _ ⟨fun l hl => by omega, ?_, ?_, ⟨fun b hb h4 => ⟨?_, rfl⟩, fun i hi => ?_⟩⟩
  · simp (disch := omega) only [upA_same, up1_ne, up1_same]
  · simp (disch := omega) only [upA_same, up1_same]
  · simp (disch := omega) only [upA_ne]
  · simp (disch := omega) only [upA_same, up1_ne]
theorem M269 (hM : MS sh) (h : InvM sh σ a) (hmn : ¬ a.1.2.2.1 < a.1.1) : End (run sh (d + 7) 269 [mR 124, mI (bi lo)] σ) (fun r σ' => r = some (mI (fwI' a lo)) ∧ InvM sh σ' a) := by
  have hI := h
  have mo := hM.1
  have m160 := hM.2.1
  obtain ⟨ra4, rk4, rl4⟩ := ms4 hM
  obtain ⟨⟨n, c, m, E, P, x⟩, K, B, s, T⟩ := a
  obtain ⟨⟨hG, hN, hMp, hEl, hx0, hE, hP, hoS⟩, hik, hKp, hTp, h140, hTm⟩ := id h
  replace hG : HGm σ 0 c := hG
  replace hN : σ.1 124 8 = (n : Int) := hN
  replace hMp : σ.1 124 9 = (m : Int) := hMp
  replace hEl : σ.1 124 10 = (E.length : Int) := hEl
  replace hx0 : σ.1 124 11 = (x : Int) := hx0
  replace hE : HEm σ 127 128 E := hE
  replace hP : ∀ y, y < n → σ.1 129 y = (P y : Int) := hP
  replace hoS : okZ n c m E P x := hoS
  replace hTp : HPm σ B s := hTp
  replace h140 : s ≤ 140 := h140
  replace hTm : HT sh σ 157 T := hTm
  replace hik : σ.1 124 16 = bi K.isSome := hik
  obtain ⟨n1, n4', c30, hv, m2, m5, E10, hvE, hPk, x16⟩ := id hoS
  have hP2 := hPk (by show n ≤ m; have : ¬ m < n := hmn; omega)
  obtain ⟨r, σ1, a1, rfl, a2, a3⟩ := M244 (d := d + 2) (lo := lo) hM hG c30 hv hN n4' hMp hEl hE hvE m5 E10
  have w6' : wi 6 = 6 := rfl
  show End _ (fun r σ' => r = some (mI (opM (fst1 (fun l => caB (farE E) c E (ahS lo c) l P 0) (7 - 0) 0))) ∧ InvM sh σ' ((n, c, m, E, P, x), K, B, s, T))
  have L := for_P (7) (fun i => ∀ (σ2 : Mem), ((∀ y, y < i → caB (farE E) c E (ahS lo c) y P 0 = false) ∧ frN σ1 σ2) → End (ev sh (d + 7) 269 7 [some (mR (124)), some (mI (bi lo)), some (mI ((i : Nat) : Int))] [] σ2) (fun r σ' => r = some (mI (opM (fst1 (fun l => caB (farE E) c E (ahS lo c) l P 0) (7 - 0) 0))) ∧ InvM sh σ' ((n, c, m, E, P, x), K, B, s, T))) (by
    intro σ2  hp
    replace hp : (∀ y, y < (7) → caB (farE E) c E (ahS lo c) y P 0 = false) ∧ frN σ1 σ2 := hp
    show End (ev sh (d + 7) 269 7 [some (mR (124)), some (mI (bi lo)), some (mI (((7) : Nat) : Int))] [] σ2) (fun r σ' => r = some (mI (opM (fst1 (fun l => caB (farE E) c E (ahS lo c) l P 0) (7 - 0) 0))) ∧ InvM sh σ' ((n, c, m, E, P, x), K, B, s, T))
    rw [fst1_no fun y _ g => hp.1 y (by omega), e269_7]
    have w7' : wi 7 = 7 := rfl
    simp (disch := first | assumption | omega | (simp (disch := omega) only [wN, w0, w1]; omega)) only [e269_0, e269_1, e269_2, e269_5, e269_6, e269_8, e269_10, e269_13, e269_14, e269_15, e269_18, e269_19, e269_22, e269_25, e269_26, e269_27, e269_30, e269_33, e269_35, kl_I, kl_R, kl_N, kl_L, oSm, oNn, Option.bind_some, wN, if_pos, if_neg, nS, tN, t0, w0, w1, w2, w3, w4, w5, wm1, upA_ne, upA_same, if_true, if_false, Bool.false_eq_true, w6', w7']
    exact End.of rfl ⟨rfl, (hI.W a3 (by omega) (by omega) (by omega)).W hp.2.1 (by omega) (by omega) (by omega)⟩) (fun i hi ih => by
    replace ih : ∀ (σ2 : Mem), ((∀ y, y < (i + 1) → caB (farE E) c E (ahS lo c) y P 0 = false) ∧ frN σ1 σ2) → End (ev sh (d + 7) 269 7 [some (mR (124)), some (mI (bi lo)), some (mI (((i + 1) : Nat) : Int))] [] σ2) (fun r σ' => r = some (mI (opM (fst1 (fun l => caB (farE E) c E (ahS lo c) l P 0) (7 - 0) 0))) ∧ InvM sh σ' ((n, c, m, E, P, x), K, B, s, T)) := ih
    intro σ2  hp
    replace hp : (∀ y, y < i → caB (farE E) c E (ahS lo c) y P 0 = false) ∧ frN σ1 σ2 := hp
    show End (ev sh (d + 7) 269 7 [some (mR (124)), some (mI (bi lo)), some (mI ((i : Nat) : Int))] [] σ2) (fun r σ' => r = some (mI (opM (fst1 (fun l => caB (farE E) c E (ahS lo c) l P 0) (7 - 0) 0))) ∧ InvM sh σ' ((n, c, m, E, P, x), K, B, s, T))
    obtain ⟨p1, p2⟩ := hp
    have f2 : frW 137 156 46 50 σ σ2 := (a3.w (by omega) (by omega) (by omega) (by omega)).tr (p2.1.w (by omega) (by omega) (by omega) (by omega))
    have hP' : HLm σ2 129 n P := fun y hy => by rw [(f2.1 129 (by omega) (by omega)).1]; exact hP y hy
    obtain ⟨r, σ3, b1, rfl, b2⟩ := M268 (d := d) (M := i) (q := 129) hM c30 hv n4' m5 hvE E10 (by omega) (a2.N p2) ⟨rk4, rl4⟩ (by omega) hP' hP2 (by omega)
    rw [e269_7]
    by_cases e : caB (farE E) c E (ahS lo c) i P 0 = true
    · rw [e] at b1
      replace b1 : run sh (d + 6) 268 [mR 124, mR 129, mI (i : Int)] σ2 = some (some (mI 1), σ3) := b1
      rw [fst1_at (x := i) (by omega) (by omega) (fun y _ g => p1 y g) e]
      simp (disch := first | assumption | omega | (simp (disch := omega) only [wN, w0, w1]; omega)) only [e269_0, e269_1, e269_2, e269_5, e269_6, e269_8, e269_10, e269_13, e269_14, e269_15, e269_18, e269_19, e269_22, e269_25, e269_26, e269_27, e269_30, e269_33, e269_35, kl_I, kl_R, kl_N, kl_L, oSm, oNn, Option.bind_some, wN, if_pos, if_neg, nS, tN, t0, w0, w1, w2, w3, w4, w5, wm1, upA_ne, upA_same, if_true, if_false, Bool.false_eq_true, w6', ra4, rl4, b1]
      exact End.of rfl ⟨rfl, hI.W (f2.tr (b2.1.w (by omega) (by omega) (by omega) (by omega))) (by omega) (by omega) (by omega)⟩
    · have e' : caB (farE E) c E (ahS lo c) i P 0 = false := by simpa using e
      rw [e'] at b1
      replace b1 : run sh (d + 6) 268 [mR 124, mR 129, mI (i : Int)] σ2 = some (some (mI 0), σ3) := b1
      simp (disch := first | assumption | omega | (simp (disch := omega) only [wN, w0, w1]; omega)) only [e269_0, e269_1, e269_2, e269_5, e269_6, e269_8, e269_10, e269_13, e269_14, e269_15, e269_18, e269_19, e269_22, e269_25, e269_26, e269_27, e269_30, e269_33, e269_35, kl_I, kl_R, kl_N, kl_L, oSm, oNn, Option.bind_some, wN, if_pos, if_neg, nS, tN, t0, w0, w1, w2, w3, w4, w5, wm1, upA_ne, upA_same, if_true, if_false, Bool.false_eq_true, w6', ra4, rl4, b1]
      refine ih _ ⟨fun y hy => ?_, p2.tr b2⟩
      by_cases g : y = i
      · rw [g]; exact e'
      · exact p1 y (by omega)) 0 (Nat.zero_le _)
  simp (disch := first | assumption | omega | (simp (disch := omega) only [wN, w0, w1]; omega)) only [e269_0, e269_1, e269_2, e269_5, e269_6, e269_8, e269_10, e269_13, e269_14, e269_15, e269_18, e269_19, e269_22, e269_25, e269_26, e269_27, e269_30, e269_33, e269_35, kl_I, kl_R, kl_N, kl_L, oSm, oNn, Option.bind_some, wN, if_pos, if_neg, nS, tN, t0, w0, w1, w2, w3, w4, w5, wm1, upA_ne, upA_same, if_true, if_false, Bool.false_eq_true, q269, a1]
  exact L _ ⟨fun y hy => by omega, frN.rf⟩
theorem M270 (hM : MS sh) (h : InvM sh σ a) : End (run sh (d + 8) 270 [mR 124] σ) (fun r σ' => r = some (mI (aFewest a)) ∧ InvM sh σ' a) := by
  have hI := h
  have mo := hM.1
  obtain ⟨⟨n, c, m, E, P, x⟩, K, B, s, T⟩ := a
  obtain ⟨⟨hG, hN, hMp, hEl, hx0, hE, hP, hoS⟩, hik, hKp, hTp, h140, hTm⟩ := id h
  replace hG : HGm σ 0 c := hG
  replace hN : σ.1 124 8 = (n : Int) := hN
  replace hMp : σ.1 124 9 = (m : Int) := hMp
  replace hEl : σ.1 124 10 = (E.length : Int) := hEl
  replace hx0 : σ.1 124 11 = (x : Int) := hx0
  replace hE : HEm σ 127 128 E := hE
  replace hP : ∀ y, y < n → σ.1 129 y = (P y : Int) := hP
  replace hoS : okZ n c m E P x := hoS
  replace hTp : HPm σ B s := hTp
  replace h140 : s ≤ 140 := h140
  replace hTm : HT sh σ 157 T := hTm
  replace hik : σ.1 124 16 = bi K.isSome := hik
  obtain ⟨n1, n4', c30, hv, m2, m5, E10, hvE, hPk, x16⟩ := id hoS
  unfold aFewest
  simp only
  by_cases hmn : m < n
  · rw [if_pos hmn]
    simp (disch := first | assumption | omega | (simp (disch := omega) only [wN, w0, w1]; omega)) only [e270_0, e270_1, e270_4, e270_5, e270_8, e270_11, e270_13, e270_16, e270_17, e270_18, e270_21, kl_I, kl_R, kl_N, kl_L, oSm, oNn, Option.bind_some, wN, if_pos, if_neg, nS, tN, t0, w0, w1, w2, w3, w4, w5, wm1, upA_ne, upA_same, if_true, if_false, Bool.false_eq_true, q270, hN, hMp]
    exact End.of rfl ⟨rfl, hI⟩
  · rw [if_neg hmn]
    obtain ⟨r, σ1, a1, rfl, a2⟩ := M269 (d := d) (lo := false) hM hI hmn
    replace a1 : run sh (d + 7) 269 [mR 124, mI 0] σ = _ := a1
    simp (disch := first | assumption | omega | (simp (disch := omega) only [wN, w0, w1]; omega)) only [e270_0, e270_1, e270_4, e270_5, e270_8, e270_11, e270_13, e270_16, e270_17, e270_18, e270_21, kl_I, kl_R, kl_N, kl_L, oSm, oNn, Option.bind_some, wN, if_pos, if_neg, nS, tN, t0, w0, w1, w2, w3, w4, w5, wm1, upA_ne, upA_same, if_true, if_false, Bool.false_eq_true, q270, hN, hMp, a1]
    exact End.of rfl ⟨rfl, a2⟩
end OI

