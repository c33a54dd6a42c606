/-! ===== the reference: route, routed, bestLook ===== -/
theorem rt_ok {a : AX} {z : Int} (h : okB a.1) (hmn : ¬ a.1.2.2.1 < a.1.1) : okR a.1.1 a.1.2.2.1 a.1.2.1 (rtA a z).1 ∧ okC a.1.2.2.1 (stL (rtA a z).1) ∧ swK (rtA a z).1.2.1.2.2 := by
  obtain ⟨⟨n, c, m, E, P, x⟩, K, B, s, T⟩ := a
  obtain ⟨n1, n4', c30, hv, m2, m5, E10, hvE, hPk, x16⟩ := (show okZ n c m E P x from h)
  have hP2 := hPk (by show n ≤ m; have : ¬ m < n := hmn; omega)
  have o0 := okR_0 (c := c) hP2
  exact ⟨ruR_okR hvE _ _ o0, ruR_ok hv hvE _ _ o0 (fun q hq => by cases hq), ruR_swK _ _ (fun q hq => by cases hq)⟩
theorem rt_len {n m : Nat} {c : List Gt} {x : RS} (h : okR n m c x) (c30 : c.length ≤ 30) : x.2.1.2.2.length ≤ 70 ∧ x.2.2 ≤ 40 := by
  have h1 := h.2.2.1
  have h2 := h.2.2.2.1
  have := pcD_le x.2.1.1 c.length
  omega
theorem sA_mem {S : List Sp} {j : Nat} (h : j < S.length) : sA S j ∈ S := by
  have e : sA S j = S[j] := by simp [sA, List.getD, h]
  rw [e]; exact List.getElem_mem h
section OC
variable {sh : Shp} {d : Nat} {σ : Mem} {a : AX} {z w i : Int}
theorem M260 (hM : MS sh) (h : InvM sh σ a) (hz : i32 z) (hw' : i32 w) : End (run sh (d + 7) 260 [mR 124, mI z, mI w] σ) (fun r σ' => r = some (mI (aRoute a z w)) ∧ InvM sh σ' a) := by
  have hI := h
  have mo := hM.1
  have m160 := hM.2.1
  obtain ⟨ra41, rk41, rl41⟩ := ms41 hM
  obtain ⟨⟨n, c, m, E, P, x⟩, K, B, s, T⟩ := a
  obtain ⟨⟨hG, hN, hMp, hEl, hx0, hE, hP, hoS⟩, hik, hKp, hTp, h140, hTm⟩ := id h
  replace hG : HGm σ 0 c := hG
  replace hN : σ.1 124 8 = (n : Int) := hN
  replace hMp : σ.1 124 9 = (m : Int) := hMp
  replace hEl : σ.1 124 10 = (E.length : Int) := hEl
  replace hx0 : σ.1 124 11 = (x : Int) := hx0
  replace hE : HEm σ 127 128 E := hE
  replace hP : ∀ y, y < n → σ.1 129 y = (P y : Int) := hP
  replace hoS : okZ n c m E P x := hoS
  replace hTp : HPm σ B s := hTp
  replace h140 : s ≤ 140 := h140
  replace hTm : HT sh σ 157 T := hTm
  replace hik : σ.1 124 16 = bi K.isSome := hik
  obtain ⟨n1, n4', c30, hv, m2, m5, E10, hvE, hPk, x16⟩ := id hoS
  have ww := hw'.w
  have e0 := M259 (sh := sh) (d := d + 5) (σ := σ) hz
  have i1 := E164 (sh := sh) (d := d + 6) (σ := σ) (z := w) (w := 0) (v := 2) hw' ⟨by omega, by omega⟩ ⟨by omega, by omega⟩
  have i2 := E164 (sh := sh) (d := d + 6) (σ := σ) (z := w) (w := 10) (v := 9 + (n : Int)) hw' ⟨by omega, by omega⟩ ⟨by omega, by omega⟩
  unfold aRoute
  simp only
  have pre : (lkB z = false ∨ (¬(10 ≤ w ∧ w < 10 + (n : Int)) ∧ (w < 0 ∨ 2 < w))) ∧ run sh (d + 7) 260 [mR 124, mI z, mI w] σ = some (some (mI (-1)), σ) ∨ ¬(lkB z = false ∨ (¬(10 ≤ w ∧ w < 10 + (n : Int)) ∧ (w < 0 ∨ 2 < w))) ∧ run sh (d + 7) 260 [mR 124, mI z, mI w] σ = ev sh (d + 7) 260 34 [some (mR (124)), some (mI (z)), some (mI (w))] [] σ := by
    by_cases hlk : lkB z = true
    · rw [hlk] at e0
      replace e0 : run sh (d + 6) 259 [mI z] σ = some (some (mI 1), σ) := e0
      by_cases h1 : 0 ≤ w ∧ w ≤ 2
      · rw [if_pos h1] at i1
        right
        refine ⟨fun q => q.elim (fun q => by rw [hlk] at q; cases q) (fun q => by omega), ?_⟩
        simp (disch := first | assumption | omega | (simp (disch := omega) only [wN, w0, w1]; omega)) only [e260_0, e260_1, e260_4, e260_7, e260_8, e260_9, e260_10, e260_13, e260_16, e260_17, e260_19, e260_21, e260_22, e260_25, e260_26, e260_29, e260_32, e260_33, e260_35, e260_38, e260_39, e260_42, e260_45, e260_47, e260_48, e260_49, e260_50, e260_53, e260_56, e260_58, e260_59, e260_60, e260_63, e260_64, e260_67, e260_70, e260_71, e260_72, e260_75, e260_76, e260_79, e260_82, e260_83, e260_84, e260_87, e260_88, e260_91, e260_94, e260_95, e260_98, e260_99, e260_101, e260_102, e260_103, kl_I, kl_R, kl_N, kl_L, oSm, oNn, Option.bind_some, wN, if_pos, if_neg, nS, tN, t0, w0, w1, w2, w3, w4, w5, wm1, upA_ne, upA_same, if_true, if_false, Bool.false_eq_true, q260, e0, i1]
      · rw [if_neg h1] at i1
        by_cases h2 : 10 ≤ w ∧ w ≤ 9 + (n : Int)
        · rw [if_pos h2] at i2
          right
          refine ⟨fun q => q.elim (fun q => by rw [hlk] at q; cases q) (fun q => by omega), ?_⟩
          simp (disch := first | assumption | omega | (simp (disch := omega) only [wN, w0, w1]; omega)) only [e260_0, e260_1, e260_4, e260_7, e260_8, e260_9, e260_10, e260_13, e260_16, e260_17, e260_19, e260_21, e260_22, e260_25, e260_26, e260_29, e260_32, e260_33, e260_35, e260_38, e260_39, e260_42, e260_45, e260_47, e260_48, e260_49, e260_50, e260_53, e260_56, e260_58, e260_59, e260_60, e260_63, e260_64, e260_67, e260_70, e260_71, e260_72, e260_75, e260_76, e260_79, e260_82, e260_83, e260_84, e260_87, e260_88, e260_91, e260_94, e260_95, e260_98, e260_99, e260_101, e260_102, e260_103, kl_I, kl_R, kl_N, kl_L, oSm, oNn, Option.bind_some, wN, if_pos, if_neg, nS, tN, t0, w0, w1, w2, w3, w4, w5, wm1, upA_ne, upA_same, if_true, if_false, Bool.false_eq_true, q260, e0, i1, hN, i2]
        · rw [if_neg h2] at i2
          left
          refine ⟨Or.inr (by omega), ?_⟩
          simp (disch := first | assumption | omega | (simp (disch := omega) only [wN, w0, w1]; omega)) only [e260_0, e260_1, e260_4, e260_7, e260_8, e260_9, e260_10, e260_13, e260_16, e260_17, e260_19, e260_21, e260_22, e260_25, e260_26, e260_29, e260_32, e260_33, e260_35, e260_38, e260_39, e260_42, e260_45, e260_47, e260_48, e260_49, e260_50, e260_53, e260_56, e260_58, e260_59, e260_60, e260_63, e260_64, e260_67, e260_70, e260_71, e260_72, e260_75, e260_76, e260_79, e260_82, e260_83, e260_84, e260_87, e260_88, e260_91, e260_94, e260_95, e260_98, e260_99, e260_101, e260_102, e260_103, kl_I, kl_R, kl_N, kl_L, oSm, oNn, Option.bind_some, wN, if_pos, if_neg, nS, tN, t0, w0, w1, w2, w3, w4, w5, wm1, upA_ne, upA_same, if_true, if_false, Bool.false_eq_true, q260, e0, i1, hN, i2]
    · have hlk' : lkB z = false := by simpa using hlk
      rw [hlk'] at e0
      replace e0 : run sh (d + 6) 259 [mI z] σ = some (some (mI 0), σ) := e0
      left
      refine ⟨Or.inl hlk', ?_⟩
      simp (disch := first | assumption | omega | (simp (disch := omega) only [wN, w0, w1]; omega)) only [e260_0, e260_1, e260_4, e260_7, e260_8, e260_9, e260_10, e260_13, e260_16, e260_17, e260_19, e260_21, e260_22, e260_25, e260_26, e260_29, e260_32, e260_33, e260_35, e260_38, e260_39, e260_42, e260_45, e260_47, e260_48, e260_49, e260_50, e260_53, e260_56, e260_58, e260_59, e260_60, e260_63, e260_64, e260_67, e260_70, e260_71, e260_72, e260_75, e260_76, e260_79, e260_82, e260_83, e260_84, e260_87, e260_88, e260_91, e260_94, e260_95, e260_98, e260_99, e260_101, e260_102, e260_103, kl_I, kl_R, kl_N, kl_L, oSm, oNn, Option.bind_some, wN, if_pos, if_neg, nS, tN, t0, w0, w1, w2, w3, w4, w5, wm1, upA_ne, upA_same, if_true, if_false, Bool.false_eq_true, q260, e0]
  rcases pre with ⟨g1, g2⟩ | ⟨g1, g2⟩
  · rw [if_pos g1]
    exact End.of g2 ⟨rfl, hI⟩
  · rw [if_neg g1]
    refine End.cg g2 ?_
    clear i1 i2 g2 e0
    have hlk : lkB z = true := by
      cases q : lkB z with
      | true => rfl
      | false => exact absurd (Or.inl q) g1
    rw [e260_34]
    by_cases hmn : m < n
    · rw [if_pos hmn]
      simp (disch := first | assumption | omega | (simp (disch := omega) only [wN, w0, w1]; omega)) only [e260_0, e260_1, e260_4, e260_7, e260_8, e260_9, e260_10, e260_13, e260_16, e260_17, e260_19, e260_21, e260_22, e260_25, e260_26, e260_29, e260_32, e260_33, e260_35, e260_38, e260_39, e260_42, e260_45, e260_47, e260_48, e260_49, e260_50, e260_53, e260_56, e260_58, e260_59, e260_60, e260_63, e260_64, e260_67, e260_70, e260_71, e260_72, e260_75, e260_76, e260_79, e260_82, e260_83, e260_84, e260_87, e260_88, e260_91, e260_94, e260_95, e260_98, e260_99, e260_101, e260_102, e260_103, kl_I, kl_R, kl_N, kl_L, oSm, oNn, Option.bind_some, wN, if_pos, if_neg, nS, tN, t0, w0, w1, w2, w3, w4, w5, wm1, upA_ne, upA_same, if_true, if_false, Bool.false_eq_true, hN, hMp]
      exact End.of rfl ⟨rfl, hI⟩
    · rw [if_neg hmn]
      obtain ⟨r, σ1, a1, rfl, hI1, po⟩ := M257 (d := d) hM hI hlk hmn
      have ok := rt_ok (a := ((n, c, m, E, P, x), K, B, s, T)) (z := z) hoS hmn
      unfold poM at po
      have hwc : ¬ (¬(10 ≤ w ∧ w < 10 + (n : Int)) ∧ (w < 0 ∨ 2 < w)) := fun q => g1 (Or.inr q)
      generalize hR : rtA ((n, c, m, E, P, x), K, B, s, T) z = R at *
      obtain ⟨y, f⟩ := R
      simp only at *
      cases f with
      | false =>
        replace a1 : run sh (d + 6) 257 [mR 124, mI z] σ = some (some (mI 0), σ1) := a1
        simp (disch := first | assumption | omega | (simp (disch := omega) only [wN, w0, w1]; omega)) only [e260_0, e260_1, e260_4, e260_7, e260_8, e260_9, e260_10, e260_13, e260_16, e260_17, e260_19, e260_21, e260_22, e260_25, e260_26, e260_29, e260_32, e260_33, e260_35, e260_38, e260_39, e260_42, e260_45, e260_47, e260_48, e260_49, e260_50, e260_53, e260_56, e260_58, e260_59, e260_60, e260_63, e260_64, e260_67, e260_70, e260_71, e260_72, e260_75, e260_76, e260_79, e260_82, e260_83, e260_84, e260_87, e260_88, e260_91, e260_94, e260_95, e260_98, e260_99, e260_101, e260_102, e260_103, kl_I, kl_R, kl_N, kl_L, oSm, oNn, Option.bind_some, wN, if_pos, if_neg, nS, tN, t0, w0, w1, w2, w3, w4, w5, wm1, upA_ne, upA_same, if_true, if_false, Bool.false_eq_true, hN, hMp, a1]
        exact End.of rfl ⟨rfl, hI1⟩
      | true =>
        replace a1 : run sh (d + 6) 257 [mR 124, mI z] σ = some (some (mI 1), σ1) := a1
        obtain ⟨hV, k47⟩ := po rfl
        have ln := rt_len ok.1 c30
        have sl : (stL y).length = y.2.1.2.2.length := stL_len
        rw [if_neg (by simp)]
        by_cases w0' : w = 0
        · subst w0'
          simp (disch := first | assumption | omega | (simp (disch := omega) only [wN, w0, w1]; omega)) only [e260_0, e260_1, e260_4, e260_7, e260_8, e260_9, e260_10, e260_13, e260_16, e260_17, e260_19, e260_21, e260_22, e260_25, e260_26, e260_29, e260_32, e260_33, e260_35, e260_38, e260_39, e260_42, e260_45, e260_47, e260_48, e260_49, e260_50, e260_53, e260_56, e260_58, e260_59, e260_60, e260_63, e260_64, e260_67, e260_70, e260_71, e260_72, e260_75, e260_76, e260_79, e260_82, e260_83, e260_84, e260_87, e260_88, e260_91, e260_94, e260_95, e260_98, e260_99, e260_101, e260_102, e260_103, kl_I, kl_R, kl_N, kl_L, oSm, oNn, Option.bind_some, wN, if_pos, if_neg, nS, tN, t0, w0, w1, w2, w3, w4, w5, wm1, upA_ne, upA_same, if_true, if_false, Bool.false_eq_true, hN, hMp, a1, k47]
          exact End.of rfl ⟨rfl, hI1⟩
        · rw [if_neg w0']
          by_cases w1' : w = 1
          · subst w1'
            have k46 := hV.2.2.2.2.1
            simp (disch := first | assumption | omega | (simp (disch := omega) only [wN, w0, w1]; omega)) only [e260_0, e260_1, e260_4, e260_7, e260_8, e260_9, e260_10, e260_13, e260_16, e260_17, e260_19, e260_21, e260_22, e260_25, e260_26, e260_29, e260_32, e260_33, e260_35, e260_38, e260_39, e260_42, e260_45, e260_47, e260_48, e260_49, e260_50, e260_53, e260_56, e260_58, e260_59, e260_60, e260_63, e260_64, e260_67, e260_70, e260_71, e260_72, e260_75, e260_76, e260_79, e260_82, e260_83, e260_84, e260_87, e260_88, e260_91, e260_94, e260_95, e260_98, e260_99, e260_101, e260_102, e260_103, kl_I, kl_R, kl_N, kl_L, oSm, oNn, Option.bind_some, wN, if_pos, if_neg, nS, tN, t0, w0, w1, w2, w3, w4, w5, wm1, upA_ne, upA_same, if_true, if_false, Bool.false_eq_true, hN, hMp, a1, k46]
            exact End.of rfl ⟨by rw [sl], hI1⟩
          · rw [if_neg w1']
            by_cases w2' : w = 2
            · subst w2'
              obtain ⟨r, σ2, b1, rfl, b2⟩ := M258 (d := d + 5) hM hV ok.2.1 m5 ln.1
              simp (disch := first | assumption | omega | (simp (disch := omega) only [wN, w0, w1]; omega)) only [e260_0, e260_1, e260_4, e260_7, e260_8, e260_9, e260_10, e260_13, e260_16, e260_17, e260_19, e260_21, e260_22, e260_25, e260_26, e260_29, e260_32, e260_33, e260_35, e260_38, e260_39, e260_42, e260_45, e260_47, e260_48, e260_49, e260_50, e260_53, e260_56, e260_58, e260_59, e260_60, e260_63, e260_64, e260_67, e260_70, e260_71, e260_72, e260_75, e260_76, e260_79, e260_82, e260_83, e260_84, e260_87, e260_88, e260_91, e260_94, e260_95, e260_98, e260_99, e260_101, e260_102, e260_103, kl_I, kl_R, kl_N, kl_L, oSm, oNn, Option.bind_some, wN, if_pos, if_neg, nS, tN, t0, w0, w1, w2, w3, w4, w5, wm1, upA_ne, upA_same, if_true, if_false, Bool.false_eq_true, hN, hMp, a1, b1]
              exact End.of rfl ⟨rfl, hI1.W b2 (by omega) (by omega) (by omega)⟩
            · rw [if_neg w2']
              obtain ⟨k, hk⟩ : ∃ k : Nat, w - 10 = (k : Int) := ⟨(w - 10).toNat, by omega⟩
              have g := hV.1 k (by omega)
              simp (disch := first | assumption | omega | (simp (disch := omega) only [wN, w0, w1]; omega)) only [e260_0, e260_1, e260_4, e260_7, e260_8, e260_9, e260_10, e260_13, e260_16, e260_17, e260_19, e260_21, e260_22, e260_25, e260_26, e260_29, e260_32, e260_33, e260_35, e260_38, e260_39, e260_42, e260_45, e260_47, e260_48, e260_49, e260_50, e260_53, e260_56, e260_58, e260_59, e260_60, e260_63, e260_64, e260_67, e260_70, e260_71, e260_72, e260_75, e260_76, e260_79, e260_82, e260_83, e260_84, e260_87, e260_88, e260_91, e260_94, e260_95, e260_98, e260_99, e260_101, e260_102, e260_103, kl_I, kl_R, kl_N, kl_L, oSm, oNn, Option.bind_some, wN, if_pos, if_neg, nS, tN, t0, w0, w1, w2, w3, w4, w5, wm1, upA_ne, upA_same, if_true, if_false, Bool.false_eq_true, hN, hMp, a1, ww, hk, ra41, rl41, g]
              exact End.of rfl ⟨by simp, hI1⟩
theorem M261 (hM : MS sh) (h : InvM sh σ a) (hz : i32 z) (hi' : i32 i) (hw' : i32 w) : End (run sh (d + 7) 261 [mR 124, mI z, mI i, mI w] σ) (fun r σ' => r = some (mI (aRouted a z i w)) ∧ InvM sh σ' a) := by
  have hI := h
  have mo := hM.1
  have m160 := hM.2.1
  obtain ⟨ra44, rk44, rl44⟩ := ms44 hM
  obtain ⟨⟨n, c, m, E, P, x⟩, K, B, s, T⟩ := a
  obtain ⟨⟨hG, hN, hMp, hEl, hx0, hE, hP, hoS⟩, hik, hKp, hTp, h140, hTm⟩ := id h
  replace hG : HGm σ 0 c := hG
  replace hN : σ.1 124 8 = (n : Int) := hN
  replace hMp : σ.1 124 9 = (m : Int) := hMp
  replace hEl : σ.1 124 10 = (E.length : Int) := hEl
  replace hx0 : σ.1 124 11 = (x : Int) := hx0
  replace hE : HEm σ 127 128 E := hE
  replace hP : ∀ y, y < n → σ.1 129 y = (P y : Int) := hP
  replace hoS : okZ n c m E P x := hoS
  replace hTp : HPm σ B s := hTp
  replace h140 : s ≤ 140 := h140
  replace hTm : HT sh σ 157 T := hTm
  replace hik : σ.1 124 16 = bi K.isSome := hik
  obtain ⟨n1, n4', c30, hv, m2, m5, E10, hvE, hPk, x16⟩ := id hoS
  have ww := hw'.w
  have wi' := hi'.w
  have e0 := M259 (sh := sh) (d := d + 5) (σ := σ) hz
  have i1 := E164 (sh := sh) (d := d + 6) (σ := σ) (z := w) (w := 0) (v := 4) hw' ⟨by omega, by omega⟩ ⟨by omega, by omega⟩
  unfold aRouted
  simp only
  have pre : (lkB z = false ∨ i < 0 ∨ w < 0 ∨ 4 < w) ∧ run sh (d + 7) 261 [mR 124, mI z, mI i, mI w] σ = some (some (mI (-1)), σ) ∨ ¬(lkB z = false ∨ i < 0 ∨ w < 0 ∨ 4 < w) ∧ run sh (d + 7) 261 [mR 124, mI z, mI i, mI w] σ = ev sh (d + 7) 261 22 [some (mR (124)), some (mI (z)), some (mI (i)), some (mI (w)), none, none] [] σ := by
    by_cases hlk : lkB z = true
    · rw [hlk] at e0
      replace e0 : run sh (d + 6) 259 [mI z] σ = some (some (mI 1), σ) := e0
      by_cases hi0 : i < 0
      · left
        refine ⟨Or.inr (Or.inl hi0), ?_⟩
        simp (disch := first | assumption | omega | (simp (disch := omega) only [wN, w0, w1]; omega)) only [e261_0, e261_1, e261_4, e261_7, e261_8, e261_11, e261_12, e261_13, e261_14, e261_17, e261_20, e261_21, e261_23, e261_26, e261_27, e261_30, e261_33, e261_35, e261_36, e261_37, e261_38, e261_41, e261_44, e261_46, e261_47, e261_48, e261_49, e261_52, e261_55, e261_57, e261_58, e261_59, e261_62, e261_63, e261_64, e261_65, e261_66, e261_68, e261_69, e261_72, e261_73, e261_74, e261_75, e261_76, e261_77, e261_78, e261_80, e261_81_d, e261_81_0, e261_81_1, e261_81_2, e261_81_3, e261_112, e261_114, e261_115, e261_116, e261_119, e261_120, e261_121, e261_122, e261_123, e261_124, e261_125, e261_126, e261_128, e261_129, e261_132, e261_134, e261_137, e261_139, e261_140, e261_142, e261_145, e261_146, e261_149, e261_150, e261_151, e261_152, e261_153, e261_154, e261_155, e261_158, e261_160, e261_161, e261_162, e261_165, e261_166, e261_167, e261_168, e261_169, e261_170, e261_171, e261_172, e261_175, e261_176, e261_179, e261_180, kl_I, kl_R, kl_N, kl_L, oSm, oNn, Option.bind_some, wN, if_pos, if_neg, nS, tN, t0, w0, w1, w2, w3, w4, w5, wm1, upA_ne, upA_same, if_true, if_false, Bool.false_eq_true, q261, e0, wi']
      · by_cases h1 : 0 ≤ w ∧ w ≤ 4
        · rw [if_pos h1] at i1
          right
          refine ⟨fun q => q.elim (fun q => by rw [hlk] at q; cases q) (fun q => by omega), ?_⟩
          simp (disch := first | assumption | omega | (simp (disch := omega) only [wN, w0, w1]; omega)) only [e261_0, e261_1, e261_4, e261_7, e261_8, e261_11, e261_12, e261_13, e261_14, e261_17, e261_20, e261_21, e261_23, e261_26, e261_27, e261_30, e261_33, e261_35, e261_36, e261_37, e261_38, e261_41, e261_44, e261_46, e261_47, e261_48, e261_49, e261_52, e261_55, e261_57, e261_58, e261_59, e261_62, e261_63, e261_64, e261_65, e261_66, e261_68, e261_69, e261_72, e261_73, e261_74, e261_75, e261_76, e261_77, e261_78, e261_80, e261_81_d, e261_81_0, e261_81_1, e261_81_2, e261_81_3, e261_112, e261_114, e261_115, e261_116, e261_119, e261_120, e261_121, e261_122, e261_123, e261_124, e261_125, e261_126, e261_128, e261_129, e261_132, e261_134, e261_137, e261_139, e261_140, e261_142, e261_145, e261_146, e261_149, e261_150, e261_151, e261_152, e261_153, e261_154, e261_155, e261_158, e261_160, e261_161, e261_162, e261_165, e261_166, e261_167, e261_168, e261_169, e261_170, e261_171, e261_172, e261_175, e261_176, e261_179, e261_180, kl_I, kl_R, kl_N, kl_L, oSm, oNn, Option.bind_some, wN, if_pos, if_neg, nS, tN, t0, w0, w1, w2, w3, w4, w5, wm1, upA_ne, upA_same, if_true, if_false, Bool.false_eq_true, q261, e0, wi', i1]
        · rw [if_neg h1] at i1
          left
          refine ⟨Or.inr (Or.inr (by omega)), ?_⟩
          simp (disch := first | assumption | omega | (simp (disch := omega) only [wN, w0, w1]; omega)) only [e261_0, e261_1, e261_4, e261_7, e261_8, e261_11, e261_12, e261_13, e261_14, e261_17, e261_20, e261_21, e261_23, e261_26, e261_27, e261_30, e261_33, e261_35, e261_36, e261_37, e261_38, e261_41, e261_44, e261_46, e261_47, e261_48, e261_49, e261_52, e261_55, e261_57, e261_58, e261_59, e261_62, e261_63, e261_64, e261_65, e261_66, e261_68, e261_69, e261_72, e261_73, e261_74, e261_75, e261_76, e261_77, e261_78, e261_80, e261_81_d, e261_81_0, e261_81_1, e261_81_2, e261_81_3, e261_112, e261_114, e261_115, e261_116, e261_119, e261_120, e261_121, e261_122, e261_123, e261_124, e261_125, e261_126, e261_128, e261_129, e261_132, e261_134, e261_137, e261_139, e261_140, e261_142, e261_145, e261_146, e261_149, e261_150, e261_151, e261_152, e261_153, e261_154, e261_155, e261_158, e261_160, e261_161, e261_162, e261_165, e261_166, e261_167, e261_168, e261_169, e261_170, e261_171, e261_172, e261_175, e261_176, e261_179, e261_180, kl_I, kl_R, kl_N, kl_L, oSm, oNn, Option.bind_some, wN, if_pos, if_neg, nS, tN, t0, w0, w1, w2, w3, w4, w5, wm1, upA_ne, upA_same, if_true, if_false, Bool.false_eq_true, q261, e0, wi', i1]
    · have hlk' : lkB z = false := by simpa using hlk
      rw [hlk'] at e0
      replace e0 : run sh (d + 6) 259 [mI z] σ = some (some (mI 0), σ) := e0
      left
      refine ⟨Or.inl hlk', ?_⟩
      simp (disch := first | assumption | omega | (simp (disch := omega) only [wN, w0, w1]; omega)) only [e261_0, e261_1, e261_4, e261_7, e261_8, e261_11, e261_12, e261_13, e261_14, e261_17, e261_20, e261_21, e261_23, e261_26, e261_27, e261_30, e261_33, e261_35, e261_36, e261_37, e261_38, e261_41, e261_44, e261_46, e261_47, e261_48, e261_49, e261_52, e261_55, e261_57, e261_58, e261_59, e261_62, e261_63, e261_64, e261_65, e261_66, e261_68, e261_69, e261_72, e261_73, e261_74, e261_75, e261_76, e261_77, e261_78, e261_80, e261_81_d, e261_81_0, e261_81_1, e261_81_2, e261_81_3, e261_112, e261_114, e261_115, e261_116, e261_119, e261_120, e261_121, e261_122, e261_123, e261_124, e261_125, e261_126, e261_128, e261_129, e261_132, e261_134, e261_137, e261_139, e261_140, e261_142, e261_145, e261_146, e261_149, e261_150, e261_151, e261_152, e261_153, e261_154, e261_155, e261_158, e261_160, e261_161, e261_162, e261_165, e261_166, e261_167, e261_168, e261_169, e261_170, e261_171, e261_172, e261_175, e261_176, e261_179, e261_180, kl_I, kl_R, kl_N, kl_L, oSm, oNn, Option.bind_some, wN, if_pos, if_neg, nS, tN, t0, w0, w1, w2, w3, w4, w5, wm1, upA_ne, upA_same, if_true, if_false, Bool.false_eq_true, q261, e0]
  rcases pre with ⟨g1, g2⟩ | ⟨g1, g2⟩
  · rw [if_pos g1]
    exact End.of g2 ⟨rfl, hI⟩
  · rw [if_neg g1]
    refine End.cg g2 ?_
    clear i1 g2 e0
    have hlk : lkB z = true := by
      cases q : lkB z with
      | true => rfl
      | false => exact absurd (Or.inl q) g1
    have hi0 : 0 ≤ i := by
      rcases Int.lt_or_le i 0 with q | q
      · exact absurd (Or.inr (Or.inl q)) g1
      · exact q
    have hw4 : 0 ≤ w ∧ w ≤ 4 := by
      constructor
      · rcases Int.lt_or_le w 0 with q | q
        · exact absurd (Or.inr (Or.inr (Or.inl q))) g1
        · exact q
      · rcases Int.lt_or_le 4 w with q | q
        · exact absurd (Or.inr (Or.inr (Or.inr q))) g1
        · exact q
    rw [e261_22]
    by_cases hmn : m < n
    · rw [if_pos hmn]
      simp (disch := first | assumption | omega | (simp (disch := omega) only [wN, w0, w1]; omega)) only [e261_0, e261_1, e261_4, e261_7, e261_8, e261_11, e261_12, e261_13, e261_14, e261_17, e261_20, e261_21, e261_23, e261_26, e261_27, e261_30, e261_33, e261_35, e261_36, e261_37, e261_38, e261_41, e261_44, e261_46, e261_47, e261_48, e261_49, e261_52, e261_55, e261_57, e261_58, e261_59, e261_62, e261_63, e261_64, e261_65, e261_66, e261_68, e261_69, e261_72, e261_73, e261_74, e261_75, e261_76, e261_77, e261_78, e261_80, e261_81_d, e261_81_0, e261_81_1, e261_81_2, e261_81_3, e261_112, e261_114, e261_115, e261_116, e261_119, e261_120, e261_121, e261_122, e261_123, e261_124, e261_125, e261_126, e261_128, e261_129, e261_132, e261_134, e261_137, e261_139, e261_140, e261_142, e261_145, e261_146, e261_149, e261_150, e261_151, e261_152, e261_153, e261_154, e261_155, e261_158, e261_160, e261_161, e261_162, e261_165, e261_166, e261_167, e261_168, e261_169, e261_170, e261_171, e261_172, e261_175, e261_176, e261_179, e261_180, kl_I, kl_R, kl_N, kl_L, oSm, oNn, Option.bind_some, wN, if_pos, if_neg, nS, tN, t0, w0, w1, w2, w3, w4, w5, wm1, upA_ne, upA_same, if_true, if_false, Bool.false_eq_true, hN, hMp]
      exact End.of rfl ⟨rfl, hI⟩
    · rw [if_neg hmn]
      obtain ⟨r, σ1, a1, rfl, hI1, po⟩ := M257 (d := d) hM hI hlk hmn
      have ok := rt_ok (a := ((n, c, m, E, P, x), K, B, s, T)) (z := z) hoS hmn
      unfold poM at po
      generalize hR : rtA ((n, c, m, E, P, x), K, B, s, T) z = R at *
      obtain ⟨y, f⟩ := R
      simp only at *
      cases f with
      | false =>
        replace a1 : run sh (d + 6) 257 [mR 124, mI z] σ = some (some (mI 0), σ1) := a1
        simp (disch := first | assumption | omega | (simp (disch := omega) only [wN, w0, w1]; omega)) only [e261_0, e261_1, e261_4, e261_7, e261_8, e261_11, e261_12, e261_13, e261_14, e261_17, e261_20, e261_21, e261_23, e261_26, e261_27, e261_30, e261_33, e261_35, e261_36, e261_37, e261_38, e261_41, e261_44, e261_46, e261_47, e261_48, e261_49, e261_52, e261_55, e261_57, e261_58, e261_59, e261_62, e261_63, e261_64, e261_65, e261_66, e261_68, e261_69, e261_72, e261_73, e261_74, e261_75, e261_76, e261_77, e261_78, e261_80, e261_81_d, e261_81_0, e261_81_1, e261_81_2, e261_81_3, e261_112, e261_114, e261_115, e261_116, e261_119, e261_120, e261_121, e261_122, e261_123, e261_124, e261_125, e261_126, e261_128, e261_129, e261_132, e261_134, e261_137, e261_139, e261_140, e261_142, e261_145, e261_146, e261_149, e261_150, e261_151, e261_152, e261_153, e261_154, e261_155, e261_158, e261_160, e261_161, e261_162, e261_165, e261_166, e261_167, e261_168, e261_169, e261_170, e261_171, e261_172, e261_175, e261_176, e261_179, e261_180, kl_I, kl_R, kl_N, kl_L, oSm, oNn, Option.bind_some, wN, if_pos, if_neg, nS, tN, t0, w0, w1, w2, w3, w4, w5, wm1, upA_ne, upA_same, if_true, if_false, Bool.false_eq_true, hN, hMp, a1]
        exact End.of rfl ⟨rfl, hI1⟩
      | true =>
        replace a1 : run sh (d + 6) 257 [mR 124, mI z] σ = some (some (mI 1), σ1) := a1
        obtain ⟨hV, k47⟩ := po rfl
        have ln := rt_len ok.1 c30
        have sl : (stL y).length = y.2.1.2.2.length := stL_len
        have k46 := hV.2.2.2.2.1
        rw [if_neg (by simp)]
        by_cases hil : ((stL y).length : Int) ≤ i
        · rw [if_pos hil]
          simp (disch := first | assumption | omega | (simp (disch := omega) only [wN, w0, w1]; omega)) only [e261_0, e261_1, e261_4, e261_7, e261_8, e261_11, e261_12, e261_13, e261_14, e261_17, e261_20, e261_21, e261_23, e261_26, e261_27, e261_30, e261_33, e261_35, e261_36, e261_37, e261_38, e261_41, e261_44, e261_46, e261_47, e261_48, e261_49, e261_52, e261_55, e261_57, e261_58, e261_59, e261_62, e261_63, e261_64, e261_65, e261_66, e261_68, e261_69, e261_72, e261_73, e261_74, e261_75, e261_76, e261_77, e261_78, e261_80, e261_81_d, e261_81_0, e261_81_1, e261_81_2, e261_81_3, e261_112, e261_114, e261_115, e261_116, e261_119, e261_120, e261_121, e261_122, e261_123, e261_124, e261_125, e261_126, e261_128, e261_129, e261_132, e261_134, e261_137, e261_139, e261_140, e261_142, e261_145, e261_146, e261_149, e261_150, e261_151, e261_152, e261_153, e261_154, e261_155, e261_158, e261_160, e261_161, e261_162, e261_165, e261_166, e261_167, e261_168, e261_169, e261_170, e261_171, e261_172, e261_175, e261_176, e261_179, e261_180, kl_I, kl_R, kl_N, kl_L, oSm, oNn, Option.bind_some, wN, if_pos, if_neg, nS, tN, t0, w0, w1, w2, w3, w4, w5, wm1, upA_ne, upA_same, if_true, if_false, Bool.false_eq_true, hN, hMp, a1, wi', k46]
          exact End.of rfl ⟨rfl, hI1⟩
        · rw [if_neg hil]
          obtain ⟨k, rfl⟩ : ∃ k : Nat, i = (k : Int) := ⟨i.toNat, by omega⟩
          have hk : k < y.2.1.2.2.length := by omega
          obtain ⟨s0, s1, s2, s3⟩ := hV.2.2.2.2.2 k hk
          have ga : gA (stL y) k = (sA y.2.1.2.2 k).1 := gA_map _ _
          obtain ⟨u1, u2, u3, u4, u5⟩ := ok.2.1.at (j := k) (by omega)
          have sk := ok.2.2 _ (sA_mem hk)
          rw [← ga] at s0 s1 s2 s3 sk
          simp only [Int.toNat_natCast]
          generalize gA (stL y) k = q at *
          generalize (sA y.2.1.2.2 k).2 = sw at *
          rcases (show w = 0 ∨ w = 1 ∨ w = 2 ∨ w = 3 ∨ w = 4 by omega) with rfl | rfl | rfl | rfl | rfl
          · simp (disch := first | assumption | omega | (simp (disch := omega) only [wN, w0, w1]; omega)) only [e261_0, e261_1, e261_4, e261_7, e261_8, e261_11, e261_12, e261_13, e261_14, e261_17, e261_20, e261_21, e261_23, e261_26, e261_27, e261_30, e261_33, e261_35, e261_36, e261_37, e261_38, e261_41, e261_44, e261_46, e261_47, e261_48, e261_49, e261_52, e261_55, e261_57, e261_58, e261_59, e261_62, e261_63, e261_64, e261_65, e261_66, e261_68, e261_69, e261_72, e261_73, e261_74, e261_75, e261_76, e261_77, e261_78, e261_80, e261_81_d, e261_81_0, e261_81_1, e261_81_2, e261_81_3, e261_112, e261_114, e261_115, e261_116, e261_119, e261_120, e261_121, e261_122, e261_123, e261_124, e261_125, e261_126, e261_128, e261_129, e261_132, e261_134, e261_137, e261_139, e261_140, e261_142, e261_145, e261_146, e261_149, e261_150, e261_151, e261_152, e261_153, e261_154, e261_155, e261_158, e261_160, e261_161, e261_162, e261_165, e261_166, e261_167, e261_168, e261_169, e261_170, e261_171, e261_172, e261_175, e261_176, e261_179, e261_180, kl_I, kl_R, kl_N, kl_L, oSm, oNn, Option.bind_some, wN, if_pos, if_neg, nS, tN, t0, w0, w1, w2, w3, w4, w5, wm1, upA_ne, upA_same, if_true, if_false, Bool.false_eq_true, hN, hMp, a1, wi', k46, ra44, rl44, n4, ← Int.natCast_add, nS2, s0, s2]
            exact End.of rfl ⟨rfl, hI1⟩
          · simp (disch := first | assumption | omega | (simp (disch := omega) only [wN, w0, w1]; omega)) only [e261_0, e261_1, e261_4, e261_7, e261_8, e261_11, e261_12, e261_13, e261_14, e261_17, e261_20, e261_21, e261_23, e261_26, e261_27, e261_30, e261_33, e261_35, e261_36, e261_37, e261_38, e261_41, e261_44, e261_46, e261_47, e261_48, e261_49, e261_52, e261_55, e261_57, e261_58, e261_59, e261_62, e261_63, e261_64, e261_65, e261_66, e261_68, e261_69, e261_72, e261_73, e261_74, e261_75, e261_76, e261_77, e261_78, e261_80, e261_81_d, e261_81_0, e261_81_1, e261_81_2, e261_81_3, e261_112, e261_114, e261_115, e261_116, e261_119, e261_120, e261_121, e261_122, e261_123, e261_124, e261_125, e261_126, e261_128, e261_129, e261_132, e261_134, e261_137, e261_139, e261_140, e261_142, e261_145, e261_146, e261_149, e261_150, e261_151, e261_152, e261_153, e261_154, e261_155, e261_158, e261_160, e261_161, e261_162, e261_165, e261_166, e261_167, e261_168, e261_169, e261_170, e261_171, e261_172, e261_175, e261_176, e261_179, e261_180, kl_I, kl_R, kl_N, kl_L, oSm, oNn, Option.bind_some, wN, if_pos, if_neg, nS, tN, t0, w0, w1, w2, w3, w4, w5, wm1, upA_ne, upA_same, if_true, if_false, Bool.false_eq_true, hN, hMp, a1, wi', k46, ra44, rl44, n4, ← Int.natCast_add, nS2, s0, s2, s1]
            exact End.of rfl ⟨rfl, hI1⟩
          · rw [rb] at s2
            by_cases q3 : q.1 < 3
            · rw [if_pos q3] at s2
              simp (disch := first | assumption | omega | (simp (disch := omega) only [wN, w0, w1]; omega)) only [e261_0, e261_1, e261_4, e261_7, e261_8, e261_11, e261_12, e261_13, e261_14, e261_17, e261_20, e261_21, e261_23, e261_26, e261_27, e261_30, e261_33, e261_35, e261_36, e261_37, e261_38, e261_41, e261_44, e261_46, e261_47, e261_48, e261_49, e261_52, e261_55, e261_57, e261_58, e261_59, e261_62, e261_63, e261_64, e261_65, e261_66, e261_68, e261_69, e261_72, e261_73, e261_74, e261_75, e261_76, e261_77, e261_78, e261_80, e261_81_d, e261_81_0, e261_81_1, e261_81_2, e261_81_3, e261_112, e261_114, e261_115, e261_116, e261_119, e261_120, e261_121, e261_122, e261_123, e261_124, e261_125, e261_126, e261_128, e261_129, e261_132, e261_134, e261_137, e261_139, e261_140, e261_142, e261_145, e261_146, e261_149, e261_150, e261_151, e261_152, e261_153, e261_154, e261_155, e261_158, e261_160, e261_161, e261_162, e261_165, e261_166, e261_167, e261_168, e261_169, e261_170, e261_171, e261_172, e261_175, e261_176, e261_179, e261_180, kl_I, kl_R, kl_N, kl_L, oSm, oNn, Option.bind_some, wN, if_pos, if_neg, nS, tN, t0, w0, w1, w2, w3, w4, w5, wm1, upA_ne, upA_same, if_true, if_false, Bool.false_eq_true, hN, hMp, a1, wi', k46, ra44, rl44, n4, ← Int.natCast_add, nS2, s0, s2]
              exact End.of rfl ⟨by simp [paS]; omega, hI1⟩
            · rw [if_neg q3] at s2
              have q5 := u5 (by omega)
              have wq := wi_id (z := q.2.2) (by omega) (by omega)
              have qn : ¬ q.2.2 = -1 := by omega
              simp (disch := first | assumption | omega | (simp (disch := omega) only [wN, w0, w1]; omega)) only [e261_0, e261_1, e261_4, e261_7, e261_8, e261_11, e261_12, e261_13, e261_14, e261_17, e261_20, e261_21, e261_23, e261_26, e261_27, e261_30, e261_33, e261_35, e261_36, e261_37, e261_38, e261_41, e261_44, e261_46, e261_47, e261_48, e261_49, e261_52, e261_55, e261_57, e261_58, e261_59, e261_62, e261_63, e261_64, e261_65, e261_66, e261_68, e261_69, e261_72, e261_73, e261_74, e261_75, e261_76, e261_77, e261_78, e261_80, e261_81_d, e261_81_0, e261_81_1, e261_81_2, e261_81_3, e261_112, e261_114, e261_115, e261_116, e261_119, e261_120, e261_121, e261_122, e261_123, e261_124, e261_125, e261_126, e261_128, e261_129, e261_132, e261_134, e261_137, e261_139, e261_140, e261_142, e261_145, e261_146, e261_149, e261_150, e261_151, e261_152, e261_153, e261_154, e261_155, e261_158, e261_160, e261_161, e261_162, e261_165, e261_166, e261_167, e261_168, e261_169, e261_170, e261_171, e261_172, e261_175, e261_176, e261_179, e261_180, kl_I, kl_R, kl_N, kl_L, oSm, oNn, Option.bind_some, wN, if_pos, if_neg, nS, tN, t0, w0, w1, w2, w3, w4, w5, wm1, upA_ne, upA_same, if_true, if_false, Bool.false_eq_true, hN, hMp, a1, wi', k46, ra44, rl44, n4, ← Int.natCast_add, nS2, s0, s2, wq]
              exact End.of rfl ⟨by simp [paS]; omega, hI1⟩
          · by_cases q0 : q.1 = 0
            · have s3' : σ1.1 150 (4 * k + 3) = q.2.2 := by
                rw [s3]
                cases sw with
                | true => have := sk rfl; omega
                | false => show rk q = _; rw [rk, if_pos q0]
              rw [q0] at s0
              simp (disch := first | assumption | omega | (simp (disch := omega) only [wN, w0, w1]; omega)) only [e261_0, e261_1, e261_4, e261_7, e261_8, e261_11, e261_12, e261_13, e261_14, e261_17, e261_20, e261_21, e261_23, e261_26, e261_27, e261_30, e261_33, e261_35, e261_36, e261_37, e261_38, e261_41, e261_44, e261_46, e261_47, e261_48, e261_49, e261_52, e261_55, e261_57, e261_58, e261_59, e261_62, e261_63, e261_64, e261_65, e261_66, e261_68, e261_69, e261_72, e261_73, e261_74, e261_75, e261_76, e261_77, e261_78, e261_80, e261_81_d, e261_81_0, e261_81_1, e261_81_2, e261_81_3, e261_112, e261_114, e261_115, e261_116, e261_119, e261_120, e261_121, e261_122, e261_123, e261_124, e261_125, e261_126, e261_128, e261_129, e261_132, e261_134, e261_137, e261_139, e261_140, e261_142, e261_145, e261_146, e261_149, e261_150, e261_151, e261_152, e261_153, e261_154, e261_155, e261_158, e261_160, e261_161, e261_162, e261_165, e261_166, e261_167, e261_168, e261_169, e261_170, e261_171, e261_172, e261_175, e261_176, e261_179, e261_180, kl_I, kl_R, kl_N, kl_L, oSm, oNn, Option.bind_some, wN, if_pos, if_neg, nS, tN, t0, w0, w1, w2, w3, w4, w5, wm1, upA_ne, upA_same, if_true, if_false, Bool.false_eq_true, hN, hMp, a1, wi', k46, ra44, rl44, n4, ← Int.natCast_add, nS2, nS3, s0, s2, s3']
              exact End.of rfl ⟨by simp [paS, q0], hI1⟩
            · simp (disch := first | assumption | omega | (simp (disch := omega) only [wN, w0, w1]; omega)) only [e261_0, e261_1, e261_4, e261_7, e261_8, e261_11, e261_12, e261_13, e261_14, e261_17, e261_20, e261_21, e261_23, e261_26, e261_27, e261_30, e261_33, e261_35, e261_36, e261_37, e261_38, e261_41, e261_44, e261_46, e261_47, e261_48, e261_49, e261_52, e261_55, e261_57, e261_58, e261_59, e261_62, e261_63, e261_64, e261_65, e261_66, e261_68, e261_69, e261_72, e261_73, e261_74, e261_75, e261_76, e261_77, e261_78, e261_80, e261_81_d, e261_81_0, e261_81_1, e261_81_2, e261_81_3, e261_112, e261_114, e261_115, e261_116, e261_119, e261_120, e261_121, e261_122, e261_123, e261_124, e261_125, e261_126, e261_128, e261_129, e261_132, e261_134, e261_137, e261_139, e261_140, e261_142, e261_145, e261_146, e261_149, e261_150, e261_151, e261_152, e261_153, e261_154, e261_155, e261_158, e261_160, e261_161, e261_162, e261_165, e261_166, e261_167, e261_168, e261_169, e261_170, e261_171, e261_172, e261_175, e261_176, e261_179, e261_180, kl_I, kl_R, kl_N, kl_L, oSm, oNn, Option.bind_some, wN, if_pos, if_neg, nS, tN, t0, w0, w1, w2, w3, w4, w5, wm1, upA_ne, upA_same, if_true, if_false, Bool.false_eq_true, hN, hMp, a1, wi', k46, ra44, rl44, n4, ← Int.natCast_add, nS2, nS3, s0, s2]
              exact End.of rfl ⟨by simp [paS, q0], hI1⟩
          · cases sw with
            | true =>
              replace s3 : σ1.1 150 (4 * k + 3) = -1 := s3
              simp (disch := first | assumption | omega | (simp (disch := omega) only [wN, w0, w1]; omega)) only [e261_0, e261_1, e261_4, e261_7, e261_8, e261_11, e261_12, e261_13, e261_14, e261_17, e261_20, e261_21, e261_23, e261_26, e261_27, e261_30, e261_33, e261_35, e261_36, e261_37, e261_38, e261_41, e261_44, e261_46, e261_47, e261_48, e261_49, e261_52, e261_55, e261_57, e261_58, e261_59, e261_62, e261_63, e261_64, e261_65, e261_66, e261_68, e261_69, e261_72, e261_73, e261_74, e261_75, e261_76, e261_77, e261_78, e261_80, e261_81_d, e261_81_0, e261_81_1, e261_81_2, e261_81_3, e261_112, e261_114, e261_115, e261_116, e261_119, e261_120, e261_121, e261_122, e261_123, e261_124, e261_125, e261_126, e261_128, e261_129, e261_132, e261_134, e261_137, e261_139, e261_140, e261_142, e261_145, e261_146, e261_149, e261_150, e261_151, e261_152, e261_153, e261_154, e261_155, e261_158, e261_160, e261_161, e261_162, e261_165, e261_166, e261_167, e261_168, e261_169, e261_170, e261_171, e261_172, e261_175, e261_176, e261_179, e261_180, kl_I, kl_R, kl_N, kl_L, oSm, oNn, Option.bind_some, wN, if_pos, if_neg, nS, tN, t0, w0, w1, w2, w3, w4, w5, wm1, upA_ne, upA_same, if_true, if_false, Bool.false_eq_true, hN, hMp, a1, wi', k46, ra44, rl44, n4, ← Int.natCast_add, nS2, nS3, s0, s2, s3]
              exact End.of rfl ⟨rfl, hI1⟩
            | false =>
              replace s3 : σ1.1 150 (4 * k + 3) = rk q := s3
              have r0 : 0 ≤ rk q ∧ rk q < 8 := by
                rw [rk]
                split
                · rename_i g; exact u3 g
                · omega
              have wr := wi_id (z := rk q) (by omega) (by omega)
              have rn : ¬ rk q = -1 := by omega
              simp (disch := first | assumption | omega | (simp (disch := omega) only [wN, w0, w1]; omega)) only [e261_0, e261_1, e261_4, e261_7, e261_8, e261_11, e261_12, e261_13, e261_14, e261_17, e261_20, e261_21, e261_23, e261_26, e261_27, e261_30, e261_33, e261_35, e261_36, e261_37, e261_38, e261_41, e261_44, e261_46, e261_47, e261_48, e261_49, e261_52, e261_55, e261_57, e261_58, e261_59, e261_62, e261_63, e261_64, e261_65, e261_66, e261_68, e261_69, e261_72, e261_73, e261_74, e261_75, e261_76, e261_77, e261_78, e261_80, e261_81_d, e261_81_0, e261_81_1, e261_81_2, e261_81_3, e261_112, e261_114, e261_115, e261_116, e261_119, e261_120, e261_121, e261_122, e261_123, e261_124, e261_125, e261_126, e261_128, e261_129, e261_132, e261_134, e261_137, e261_139, e261_140, e261_142, e261_145, e261_146, e261_149, e261_150, e261_151, e261_152, e261_153, e261_154, e261_155, e261_158, e261_160, e261_161, e261_162, e261_165, e261_166, e261_167, e261_168, e261_169, e261_170, e261_171, e261_172, e261_175, e261_176, e261_179, e261_180, kl_I, kl_R, kl_N, kl_L, oSm, oNn, Option.bind_some, wN, if_pos, if_neg, nS, tN, t0, w0, w1, w2, w3, w4, w5, wm1, upA_ne, upA_same, if_true, if_false, Bool.false_eq_true, hN, hMp, a1, wi', k46, ra44, rl44, n4, ← Int.natCast_add, nS2, nS3, s0, s2, s3, wr]
              exact End.of rfl ⟨rfl, hI1⟩
theorem M262 (hM : MS sh) (h : InvM sh σ a) (hw' : i32 w) : End (run sh (d + 7) 262 [mR 124, mI w] σ) (fun r σ' => r = some (mI (aBest a w)) ∧ InvM sh σ' a) := by
  have hI := h
  have mo := hM.1
  have m160 := hM.2.1
  obtain ⟨⟨n, c, m, E, P, x⟩, K, B, s, T⟩ := a
  obtain ⟨⟨hG, hN, hMp, hEl, hx0, hE, hP, hoS⟩, hik, hKp, hTp, h140, hTm⟩ := id h
  replace hG : HGm σ 0 c := hG
  replace hN : σ.1 124 8 = (n : Int) := hN
  replace hMp : σ.1 124 9 = (m : Int) := hMp
  replace hEl : σ.1 124 10 = (E.length : Int) := hEl
  replace hx0 : σ.1 124 11 = (x : Int) := hx0
  replace hE : HEm σ 127 128 E := hE
  replace hP : ∀ y, y < n → σ.1 129 y = (P y : Int) := hP
  replace hoS : okZ n c m E P x := hoS
  replace hTp : HPm σ B s := hTp
  replace h140 : s ≤ 140 := h140
  replace hTm : HT sh σ 157 T := hTm
  replace hik : σ.1 124 16 = bi K.isSome := hik
  obtain ⟨n1, n4', c30, hv, m2, m5, E10, hvE, hPk, x16⟩ := id hoS
  have ww := hw'.w
  have ei := E164 (sh := sh) (d := d + 6) (σ := σ) (z := w) (w := 0) (v := 3) hw' ⟨by omega, by omega⟩ ⟨by omega, by omega⟩
  have wF : wi 1000000000 = 1000000000 := rfl
  unfold aBest
  simp only
  by_cases h1 : w < 0 ∨ 3 < w
  · rw [if_pos h1]
    rw [if_neg (by omega)] at ei
    simp (disch := first | assumption | omega | (simp (disch := omega) only [wN, w0, w1]; omega)) only [e262_0, e262_1, e262_2, e262_3, e262_6, e262_9, e262_10, e262_11, e262_12, e262_15, e262_16, e262_19, e262_22, e262_24, e262_25, e262_27, e262_28, e262_31, e262_32, e262_33, e262_34, e262_37, e262_38, e262_41, e262_43, e262_45, e262_47, e262_51, e262_53, e262_55, e262_56, e262_59, e262_60, e262_62, e262_65, e262_68, e262_69, e262_72, e262_73, e262_76, e262_79, e262_81, e262_82, e262_83, e262_86, e262_87, e262_90, e262_93, e262_94, e262_97, e262_98, e262_99, e262_100, e262_103, e262_104, e262_107, e262_108, kl_I, kl_R, kl_N, kl_L, oSm, oNn, Option.bind_some, wN, if_pos, if_neg, nS, tN, t0, w0, w1, w2, w3, w4, w5, wm1, upA_ne, upA_same, if_true, if_false, Bool.false_eq_true, q262, ei]
    exact End.of rfl ⟨rfl, hI⟩
  · rw [if_neg h1]
    rw [if_pos (by omega)] at ei
    by_cases hmn : m < n
    · rw [if_pos hmn]
      simp (disch := first | assumption | omega | (simp (disch := omega) only [wN, w0, w1]; omega)) only [e262_0, e262_1, e262_2, e262_3, e262_6, e262_9, e262_10, e262_11, e262_12, e262_15, e262_16, e262_19, e262_22, e262_24, e262_25, e262_27, e262_28, e262_31, e262_32, e262_33, e262_34, e262_37, e262_38, e262_41, e262_43, e262_45, e262_47, e262_51, e262_53, e262_55, e262_56, e262_59, e262_60, e262_62, e262_65, e262_68, e262_69, e262_72, e262_73, e262_76, e262_79, e262_81, e262_82, e262_83, e262_86, e262_87, e262_90, e262_93, e262_94, e262_97, e262_98, e262_99, e262_100, e262_103, e262_104, e262_107, e262_108, kl_I, kl_R, kl_N, kl_L, oSm, oNn, Option.bind_some, wN, if_pos, if_neg, nS, tN, t0, w0, w1, w2, w3, w4, w5, wm1, upA_ne, upA_same, if_true, if_false, Bool.false_eq_true, q262, ei, hN, hMp]
      exact End.of rfl ⟨rfl, hI⟩
    · rw [if_neg hmn]
      generalize hfd : (if w < 2 then (0 : Nat) else 10) = f at *
      have hf : f = 0 ∨ f = 10 := by subst hfd; split <;> omega
      have bb : ∀ j, j ≤ 6 → ((beL ((n, c, m, E, P, x), K, B, s, T) f j).2 = -2 ∨ 0 ≤ (beL ((n, c, m, E, P, x), K, B, s, T) f j).2 ∧ (beL ((n, c, m, E, P, x), K, B, s, T) f j).2 < 20) ∧ 0 ≤ (beL ((n, c, m, E, P, x), K, B, s, T) f j).1 ∧ (beL ((n, c, m, E, P, x), K, B, s, T) f j).1 ≤ 1000000000 := by
        intro j
        induction j with
        | zero => intro _; exact ⟨Or.inl rfl, by show (0 : Int) ≤ 1000000000; omega, by show (1000000000 : Int) ≤ 1000000000; omega⟩
        | succ j ih =>
          intro hj
          have ih := ih (by omega)
          rw [beL]
          split
          · have ok := rt_ok (a := ((n, c, m, E, P, x), K, B, s, T)) (z := ((f + j : Nat) : Int)) hoS hmn
            have ln := rt_len ok.1 c30
            refine ⟨Or.inr ⟨?_, ?_⟩, ?_, ?_⟩ <;> simp only <;> omega
          · exact ih
      have L := for_P (6) (fun i => ∀ (σ1 : Mem), (InvM sh σ1 ((n, c, m, E, P, x), K, B, s, T)) → End (ev sh (d + 7) 262 49 [some (mR (124)), some (mI (w)), some (mI ((beL ((n, c, m, E, P, x), K, B, s, T) f i).2)), some (mI ((beL ((n, c, m, E, P, x), K, B, s, T) f i).1)), some (mI ((f : Nat) : Int)), some (mI ((f + i : Nat) : Int))] [] σ1) (fun r σ' => r = some (mI (if (beL ((n, c, m, E, P, x), K, B, s, T) f 6).2 = -2 ∨ w % 2 = 0 then (beL ((n, c, m, E, P, x), K, B, s, T) f 6).2 else (beL ((n, c, m, E, P, x), K, B, s, T) f 6).1)) ∧ InvM sh σ' ((n, c, m, E, P, x), K, B, s, T))) (by
        intro σ1  hp
        replace hp : InvM sh σ1 ((n, c, m, E, P, x), K, B, s, T) := hp
        show End (ev sh (d + 7) 262 49 [some (mR (124)), some (mI (w)), some (mI ((beL ((n, c, m, E, P, x), K, B, s, T) f (6)).2)), some (mI ((beL ((n, c, m, E, P, x), K, B, s, T) f (6)).1)), some (mI ((f : Nat) : Int)), some (mI ((f + (6) : Nat) : Int))] [] σ1) (fun r σ' => r = some (mI (if (beL ((n, c, m, E, P, x), K, B, s, T) f 6).2 = -2 ∨ w % 2 = 0 then (beL ((n, c, m, E, P, x), K, B, s, T) f 6).2 else (beL ((n, c, m, E, P, x), K, B, s, T) f 6).1)) ∧ InvM sh σ' ((n, c, m, E, P, x), K, B, s, T))
        have b6 := bb 6 (Nat.le_refl _)
        generalize beL ((n, c, m, E, P, x), K, B, s, T) f 6 = be at *
        obtain ⟨ls, bs⟩ := be
        simp only at *
        have e6 : (f : Int) + 6 = ((f + 6 : Nat) : Int) := rfl
        have wb := wi_id (z := bs) (by omega) (by omega)
        have x2 : xrem w 2 = ((w.toNat % 2 : Nat) : Int) := by
          have := xrem_nn (a := w.toNat) (b := 2) (by omega) (by omega)
          rw [show ((w.toNat : Nat) : Int) = w by omega] at this
          exact this
        have w2' : wi 2 = 2 := rfl
        have mo2 : w.toNat % 2 < 2 := Nat.mod_lt _ (by omega)
        rw [e262_49]
        by_cases g : bs = -2
        · rw [if_pos (Or.inl g)]
          rw [g] at wb
          subst g
          simp (disch := first | assumption | omega | (simp (disch := omega) only [wN, w0, w1]; omega)) only [e262_0, e262_1, e262_2, e262_3, e262_6, e262_9, e262_10, e262_11, e262_12, e262_15, e262_16, e262_19, e262_22, e262_24, e262_25, e262_27, e262_28, e262_31, e262_32, e262_33, e262_34, e262_37, e262_38, e262_41, e262_43, e262_45, e262_47, e262_51, e262_53, e262_55, e262_56, e262_59, e262_60, e262_62, e262_65, e262_68, e262_69, e262_72, e262_73, e262_76, e262_79, e262_81, e262_82, e262_83, e262_86, e262_87, e262_90, e262_93, e262_94, e262_97, e262_98, e262_99, e262_100, e262_103, e262_104, e262_107, e262_108, kl_I, kl_R, kl_N, kl_L, oSm, oNn, Option.bind_some, wN, if_pos, if_neg, nS, tN, t0, w0, w1, w2, w3, w4, w5, wm1, upA_ne, upA_same, if_true, if_false, Bool.false_eq_true, e6, wb]
          exact End.of rfl ⟨rfl, hp⟩
        · by_cases g2 : w % 2 = 0
          · rw [if_pos (Or.inr g2)]
            have m0 : w.toNat % 2 = 0 := by omega
            rw [m0] at x2
            simp (disch := first | assumption | omega | (simp (disch := omega) only [wN, w0, w1]; omega)) only [e262_0, e262_1, e262_2, e262_3, e262_6, e262_9, e262_10, e262_11, e262_12, e262_15, e262_16, e262_19, e262_22, e262_24, e262_25, e262_27, e262_28, e262_31, e262_32, e262_33, e262_34, e262_37, e262_38, e262_41, e262_43, e262_45, e262_47, e262_51, e262_53, e262_55, e262_56, e262_59, e262_60, e262_62, e262_65, e262_68, e262_69, e262_72, e262_73, e262_76, e262_79, e262_81, e262_82, e262_83, e262_86, e262_87, e262_90, e262_93, e262_94, e262_97, e262_98, e262_99, e262_100, e262_103, e262_104, e262_107, e262_108, kl_I, kl_R, kl_N, kl_L, oSm, oNn, Option.bind_some, wN, if_pos, if_neg, nS, tN, t0, w0, w1, w2, w3, w4, w5, wm1, upA_ne, upA_same, if_true, if_false, Bool.false_eq_true, e6, wb, x2, w2']
            exact End.of rfl ⟨rfl, hp⟩
          · rw [if_neg (by omega)]
            have m0 : w.toNat % 2 = 1 := by omega
            rw [m0] at x2
            simp (disch := first | assumption | omega | (simp (disch := omega) only [wN, w0, w1]; omega)) only [e262_0, e262_1, e262_2, e262_3, e262_6, e262_9, e262_10, e262_11, e262_12, e262_15, e262_16, e262_19, e262_22, e262_24, e262_25, e262_27, e262_28, e262_31, e262_32, e262_33, e262_34, e262_37, e262_38, e262_41, e262_43, e262_45, e262_47, e262_51, e262_53, e262_55, e262_56, e262_59, e262_60, e262_62, e262_65, e262_68, e262_69, e262_72, e262_73, e262_76, e262_79, e262_81, e262_82, e262_83, e262_86, e262_87, e262_90, e262_93, e262_94, e262_97, e262_98, e262_99, e262_100, e262_103, e262_104, e262_107, e262_108, kl_I, kl_R, kl_N, kl_L, oSm, oNn, Option.bind_some, wN, if_pos, if_neg, nS, tN, t0, w0, w1, w2, w3, w4, w5, wm1, upA_ne, upA_same, if_true, if_false, Bool.false_eq_true, e6, wb, x2, w2']
            exact End.of rfl ⟨rfl, hp⟩) (fun i hi ih => by
        replace ih : ∀ (σ1 : Mem), (InvM sh σ1 ((n, c, m, E, P, x), K, B, s, T)) → End (ev sh (d + 7) 262 49 [some (mR (124)), some (mI (w)), some (mI ((beL ((n, c, m, E, P, x), K, B, s, T) f (i + 1)).2)), some (mI ((beL ((n, c, m, E, P, x), K, B, s, T) f (i + 1)).1)), some (mI ((f : Nat) : Int)), some (mI ((f + (i + 1) : Nat) : Int))] [] σ1) (fun r σ' => r = some (mI (if (beL ((n, c, m, E, P, x), K, B, s, T) f 6).2 = -2 ∨ w % 2 = 0 then (beL ((n, c, m, E, P, x), K, B, s, T) f 6).2 else (beL ((n, c, m, E, P, x), K, B, s, T) f 6).1)) ∧ InvM sh σ' ((n, c, m, E, P, x), K, B, s, T)) := ih
        intro σ1  hp
        replace hp : InvM sh σ1 ((n, c, m, E, P, x), K, B, s, T) := hp
        show End (ev sh (d + 7) 262 49 [some (mR (124)), some (mI (w)), some (mI ((beL ((n, c, m, E, P, x), K, B, s, T) f i).2)), some (mI ((beL ((n, c, m, E, P, x), K, B, s, T) f i).1)), some (mI ((f : Nat) : Int)), some (mI ((f + i : Nat) : Int))] [] σ1) (fun r σ' => r = some (mI (if (beL ((n, c, m, E, P, x), K, B, s, T) f 6).2 = -2 ∨ w % 2 = 0 then (beL ((n, c, m, E, P, x), K, B, s, T) f 6).2 else (beL ((n, c, m, E, P, x), K, B, s, T) f 6).1)) ∧ InvM sh σ' ((n, c, m, E, P, x), K, B, s, T))
        have b6 := bb i (by omega)
        have hlk : lkB ((f + i : Nat) : Int) = true := decide_eq_true (by omega)
        obtain ⟨r, σ2, a1, rfl, hI2, po⟩ := M257 (d := d) hM hp hlk hmn
        have ok := rt_ok (a := ((n, c, m, E, P, x), K, B, s, T)) (z := ((f + i : Nat) : Int)) hoS hmn
        have ln := rt_len ok.1 c30
        have e6 : (f : Int) + 6 = ((f + 6 : Nat) : Int) := rfl
        unfold poM at po
        rw [beL] at ih
        generalize hR : rtA ((n, c, m, E, P, x), K, B, s, T) ((f + i : Nat) : Int) = R at *
        obtain ⟨y, fl⟩ := R
        generalize beL ((n, c, m, E, P, x), K, B, s, T) f i = be at *
        obtain ⟨ls, bs⟩ := be
        simp only at *
        have wb := wi_id (z := ls) (by omega) (by omega)
        rw [e262_49]
        cases fl with
        | false =>
          replace a1 : run sh (d + 6) 257 [mR 124, mI ((f + i : Nat) : Int)] σ1 = some (some (mI 0), σ2) := a1
          rw [if_neg (fun q => by cases q.1)] at ih
          simp (disch := first | assumption | omega | (simp (disch := omega) only [wN, w0, w1]; omega)) only [e262_0, e262_1, e262_2, e262_3, e262_6, e262_9, e262_10, e262_11, e262_12, e262_15, e262_16, e262_19, e262_22, e262_24, e262_25, e262_27, e262_28, e262_31, e262_32, e262_33, e262_34, e262_37, e262_38, e262_41, e262_43, e262_45, e262_47, e262_51, e262_53, e262_55, e262_56, e262_59, e262_60, e262_62, e262_65, e262_68, e262_69, e262_72, e262_73, e262_76, e262_79, e262_81, e262_82, e262_83, e262_86, e262_87, e262_90, e262_93, e262_94, e262_97, e262_98, e262_99, e262_100, e262_103, e262_104, e262_107, e262_108, kl_I, kl_R, kl_N, kl_L, oSm, oNn, Option.bind_some, wN, if_pos, if_neg, nS, tN, t0, w0, w1, w2, w3, w4, w5, wm1, upA_ne, upA_same, if_true, if_false, Bool.false_eq_true, e6, a1]
          exact ih _ hI2
        | true =>
          replace a1 : run sh (d + 6) 257 [mR 124, mI ((f + i : Nat) : Int)] σ1 = some (some (mI 1), σ2) := a1
          obtain ⟨hV, k47⟩ := po rfl
          by_cases g : (y.2.2 : Int) < ls
          · rw [if_pos ⟨rfl, g⟩] at ih
            simp (disch := first | assumption | omega | (simp (disch := omega) only [wN, w0, w1]; omega)) only [e262_0, e262_1, e262_2, e262_3, e262_6, e262_9, e262_10, e262_11, e262_12, e262_15, e262_16, e262_19, e262_22, e262_24, e262_25, e262_27, e262_28, e262_31, e262_32, e262_33, e262_34, e262_37, e262_38, e262_41, e262_43, e262_45, e262_47, e262_51, e262_53, e262_55, e262_56, e262_59, e262_60, e262_62, e262_65, e262_68, e262_69, e262_72, e262_73, e262_76, e262_79, e262_81, e262_82, e262_83, e262_86, e262_87, e262_90, e262_93, e262_94, e262_97, e262_98, e262_99, e262_100, e262_103, e262_104, e262_107, e262_108, kl_I, kl_R, kl_N, kl_L, oSm, oNn, Option.bind_some, wN, if_pos, if_neg, nS, tN, t0, w0, w1, w2, w3, w4, w5, wm1, upA_ne, upA_same, if_true, if_false, Bool.false_eq_true, e6, a1, k47, wb]
            exact ih _ hI2
          · rw [if_neg (fun q => g q.2)] at ih
            simp (disch := first | assumption | omega | (simp (disch := omega) only [wN, w0, w1]; omega)) only [e262_0, e262_1, e262_2, e262_3, e262_6, e262_9, e262_10, e262_11, e262_12, e262_15, e262_16, e262_19, e262_22, e262_24, e262_25, e262_27, e262_28, e262_31, e262_32, e262_33, e262_34, e262_37, e262_38, e262_41, e262_43, e262_45, e262_47, e262_51, e262_53, e262_55, e262_56, e262_59, e262_60, e262_62, e262_65, e262_68, e262_69, e262_72, e262_73, e262_76, e262_79, e262_81, e262_82, e262_83, e262_86, e262_87, e262_90, e262_93, e262_94, e262_97, e262_98, e262_99, e262_100, e262_103, e262_104, e262_107, e262_108, kl_I, kl_R, kl_N, kl_L, oSm, oNn, Option.bind_some, wN, if_pos, if_neg, nS, tN, t0, w0, w1, w2, w3, w4, w5, wm1, upA_ne, upA_same, if_true, if_false, Bool.false_eq_true, e6, a1, k47, wb]
            exact ih _ hI2) 0 (Nat.zero_le _)
      have L0 := L σ hI
      rw [Nat.add_zero] at L0
      by_cases hw2 : w < 2
      · rw [if_pos hw2] at hfd
        subst hfd
        simp (disch := first | assumption | omega | (simp (disch := omega) only [wN, w0, w1]; omega)) only [e262_0, e262_1, e262_2, e262_3, e262_6, e262_9, e262_10, e262_11, e262_12, e262_15, e262_16, e262_19, e262_22, e262_24, e262_25, e262_27, e262_28, e262_31, e262_32, e262_33, e262_34, e262_37, e262_38, e262_41, e262_43, e262_45, e262_47, e262_51, e262_53, e262_55, e262_56, e262_59, e262_60, e262_62, e262_65, e262_68, e262_69, e262_72, e262_73, e262_76, e262_79, e262_81, e262_82, e262_83, e262_86, e262_87, e262_90, e262_93, e262_94, e262_97, e262_98, e262_99, e262_100, e262_103, e262_104, e262_107, e262_108, kl_I, kl_R, kl_N, kl_L, oSm, oNn, Option.bind_some, wN, if_pos, if_neg, nS, tN, t0, w0, w1, w2, w3, w4, w5, wm1, upA_ne, upA_same, if_true, if_false, Bool.false_eq_true, q262, ei, hN, hMp, ww]
        exact L0
      · rw [if_neg hw2] at hfd
        subst hfd
        simp (disch := first | assumption | omega | (simp (disch := omega) only [wN, w0, w1]; omega)) only [e262_0, e262_1, e262_2, e262_3, e262_6, e262_9, e262_10, e262_11, e262_12, e262_15, e262_16, e262_19, e262_22, e262_24, e262_25, e262_27, e262_28, e262_31, e262_32, e262_33, e262_34, e262_37, e262_38, e262_41, e262_43, e262_45, e262_47, e262_51, e262_53, e262_55, e262_56, e262_59, e262_60, e262_62, e262_65, e262_68, e262_69, e262_72, e262_73, e262_76, e262_79, e262_81, e262_82, e262_83, e262_86, e262_87, e262_90, e262_93, e262_94, e262_97, e262_98, e262_99, e262_100, e262_103, e262_104, e262_107, e262_108, kl_I, kl_R, kl_N, kl_L, oSm, oNn, Option.bind_some, wN, if_pos, if_neg, nS, tN, t0, w0, w1, w2, w3, w4, w5, wm1, upA_ne, upA_same, if_true, if_false, Bool.false_eq_true, q262, ei, hN, hMp, ww]
        exact L0
end OC

