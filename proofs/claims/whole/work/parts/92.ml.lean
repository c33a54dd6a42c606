/-! ===== the reference: rows of amplitudes ===== -/
def laR (sh : Shp) (p : Nat) : Prop := skd sh p = 3 ∧ sln sh p = 64 ∧ p < sh.1
section ML
variable {sh : Shp} {d p s t k : Nat} {σ : Mem} {W : Vc}
theorem M196 {a b : Nat} (ha : a < 5) (hb : b < 5) : run sh d 196 [mI (a : Int), mI (b : Int)] σ = some (some (mI ((2 ^ a ||| 2 ^ b : Nat) : Int)), σ) := by
  have x1 := xshl_1 (k := a) (by omega)
  have x2 := xshl_1 (k := b) (by omega)
  have p1 : 2 ^ a ≤ 2 ^ 4 := Nat.pow_le_pow_right (by omega) (by omega)
  have p2 : 2 ^ b ≤ 2 ^ 4 := Nat.pow_le_pow_right (by omega) (by omega)
  have x3 := xor_nn (a := 2 ^ a) (b := 2 ^ b) (by omega) (by omega)
  simp (disch := first | assumption | omega | (simp (disch := omega) only [wN, w0, w1]; omega)) only [e196_0, e196_1, e196_2, e196_3, e196_4, e196_5, e196_6, e196_7, kl_I, kl_R, kl_N, kl_L, oSm, oNn, Option.bind_some, wN, if_pos, if_neg, nS, tN, t0, w0, w1, w2, w3, w4, w5, wm1, upA_ne, upA_same, if_true, if_false, Bool.false_eq_true, q196, x1, x2, x3]
theorem M197 (hM : MS sh) (hL : laR sh p) (hV : HV σ p W) (h16 : s < 16) (hk : k < 8) : End (run sh d 197 [mR 124, mR p, mI (s : Int), mI (k : Int)] σ) (fun r σ' => r = none ∧ HV σ' p (upQ W s (tuQ k (W s))) ∧ frL p σ σ') := by
  obtain ⟨k1, l1, hw⟩ := id hL
  have T := for_P (k) (fun i => ∀ (σ1 : Mem) (v6 v7 : Option MV), (HV σ1 p (upQ W s (tuQ i (W s))) ∧ frL p σ σ1) → End (ev sh d 197 8 [some (mR (124)), some (mR (p)), some (mI ((s : Nat) : Int)), some (mI ((k : Nat) : Int)), some (mI ((4 * s : Nat) : Int)), some (mI ((i : Nat) : Int)), v6, v7] [] σ1) (fun r σ' => r = none ∧ HV σ' p (upQ W s (tuQ k (W s))) ∧ frL p σ σ')) (by
    intro σ1 v6 v7 hp
    replace hp : HV σ1 p (upQ W s (tuQ (k) (W s))) ∧ frL p σ σ1 := hp
    show End (ev sh d 197 8 [some (mR (124)), some (mR (p)), some (mI ((s : Nat) : Int)), some (mI ((k : Nat) : Int)), some (mI ((4 * s : Nat) : Int)), some (mI (((k) : Nat) : Int)), v6, v7] [] σ1) (fun r σ' => r = none ∧ HV σ' p (upQ W s (tuQ k (W s))) ∧ frL p σ σ')
    rw [e197_8]
    simp (disch := first | assumption | omega | (simp (disch := omega) only [wN, w0, w1]; omega)) only [e197_0, e197_1, e197_2, e197_3, e197_5, e197_6, e197_10, e197_11, e197_14, e197_15, e197_17, e197_18, e197_19, e197_20, e197_22, e197_23, e197_25, e197_26, e197_27, e197_28, e197_30, e197_31, e197_32, e197_33, e197_34, e197_35, e197_37, e197_38, e197_39, e197_40, e197_42, e197_43, e197_44, e197_45, e197_46, e197_47, e197_49, e197_50, e197_51, e197_52, e197_54, e197_55, e197_56, e197_57, e197_59, e197_61, e197_62, e197_63, e197_66, e197_69, kl_I, kl_R, kl_N, kl_L, oSm, oNn, Option.bind_some, wN, if_pos, if_neg, nS, tN, t0, w0, w1, w2, w3, w4, w5, wm1, upA_ne, upA_same, if_true, if_false, Bool.false_eq_true]
    exact End.of rfl ⟨rfl, hp⟩) (fun i hi ih => by
    replace ih : ∀ (σ1 : Mem) (v6 v7 : Option MV), (HV σ1 p (upQ W s (tuQ (i + 1) (W s))) ∧ frL p σ σ1) → End (ev sh d 197 8 [some (mR (124)), some (mR (p)), some (mI ((s : Nat) : Int)), some (mI ((k : Nat) : Int)), some (mI ((4 * s : Nat) : Int)), some (mI (((i + 1) : Nat) : Int)), v6, v7] [] σ1) (fun r σ' => r = none ∧ HV σ' p (upQ W s (tuQ k (W s))) ∧ frL p σ σ') := ih
    intro σ1 v6 v7 hp
    replace hp : HV σ1 p (upQ W s (tuQ i (W s))) ∧ frL p σ σ1 := hp
    show End (ev sh d 197 8 [some (mR (124)), some (mR (p)), some (mI ((s : Nat) : Int)), some (mI ((k : Nat) : Int)), some (mI ((4 * s : Nat) : Int)), some (mI ((i : Nat) : Int)), v6, v7] [] σ1) (fun r σ' => r = none ∧ HV σ' p (upQ W s (tuQ k (W s))) ∧ frL p σ σ')
    have g := hp.1 s h16
    rw [upQ_same] at g
    obtain ⟨g0, g1, g2, g3⟩ := g
    rw [e197_8]
    simp (disch := first | assumption | omega | (simp (disch := omega) only [wN, w0, w1]; omega)) only [e197_0, e197_1, e197_2, e197_3, e197_5, e197_6, e197_10, e197_11, e197_14, e197_15, e197_17, e197_18, e197_19, e197_20, e197_22, e197_23, e197_25, e197_26, e197_27, e197_28, e197_30, e197_31, e197_32, e197_33, e197_34, e197_35, e197_37, e197_38, e197_39, e197_40, e197_42, e197_43, e197_44, e197_45, e197_46, e197_47, e197_49, e197_50, e197_51, e197_52, e197_54, e197_55, e197_56, e197_57, e197_59, e197_61, e197_62, e197_63, e197_66, e197_69, kl_I, kl_R, kl_N, kl_L, oSm, oNn, Option.bind_some, wN, if_pos, if_neg, nS, tN, t0, w0, w1, w2, w3, w4, w5, wm1, upA_ne, upA_same, if_true, if_false, Bool.false_eq_true, l1, nS2, nS3, g0, g1, g2, g3, up1_ne, upA_upA]
    refine ih _ _ _ ⟨?_, hp.2.tr frL.up⟩
    have e : upQ W s (tuQ (i + 1) (W s)) = upQ (upQ W s (tuQ i (W s))) s (tu1 (tuQ i (W s))) := by
      funext r
      simp only [upQ_if, tuQ]
      split <;> rfl
    rw [e]
    refine hp.1.put ?_ ?_ ?_ ?_ (fun x hx => ?_)
    all_goals simp (disch := omega) only [upA_same, up1_same, up1_ne]
    all_goals rfl) 0 (Nat.zero_le _)
  have e0 : upQ W s (tuQ 0 (W s)) = W := by
    funext r
    simp only [upQ_if, tuQ]
    split
    · rename_i h; rw [h]
    · rfl
  simp (disch := first | assumption | omega | (simp (disch := omega) only [wN, w0, w1]; omega)) only [e197_0, e197_1, e197_2, e197_3, e197_5, e197_6, e197_10, e197_11, e197_14, e197_15, e197_17, e197_18, e197_19, e197_20, e197_22, e197_23, e197_25, e197_26, e197_27, e197_28, e197_30, e197_31, e197_32, e197_33, e197_34, e197_35, e197_37, e197_38, e197_39, e197_40, e197_42, e197_43, e197_44, e197_45, e197_46, e197_47, e197_49, e197_50, e197_51, e197_52, e197_54, e197_55, e197_56, e197_57, e197_59, e197_61, e197_62, e197_63, e197_66, e197_69, kl_I, kl_R, kl_N, kl_L, oSm, oNn, Option.bind_some, wN, if_pos, if_neg, nS, tN, t0, w0, w1, w2, w3, w4, w5, wm1, upA_ne, upA_same, if_true, if_false, Bool.false_eq_true, q197, n4]
  exact T σ _ _ ⟨by rw [e0]; exact hV, frL.rf⟩
theorem M199 (hL : laR sh p) (hV : HV σ p W) (hs1 : s < 16) (ht : t < 16) (hst : s ≠ t) : End (run sh d 199 [mR p, mI (s : Int), mI (t : Int)] σ) (fun r σ' => r = none ∧ HV σ' p (mxW s t W) ∧ frL p σ σ') := by
  obtain ⟨k1, l1, hw⟩ := id hL
  have L := for_P (4) (fun i => ∀ (σ1 : Mem) (v4 v5 v6 v7 : Option MV), ((∀ x, x < i → σ1.2 p (4 * s + x) = prt (adQ (W s) (W t)) x ∧ σ1.2 p (4 * t + x) = prt (sbQ (W s) (W t)) x) ∧ (∀ k, (k < 4 * s ∨ 4 * s + i ≤ k) → (k < 4 * t ∨ 4 * t + i ≤ k) → σ1.2 p k = σ.2 p k) ∧ frL p σ σ1) → End (ev sh d 199 2 [some (mR (p)), some (mI ((s : Nat) : Int)), some (mI ((t : Nat) : Int)), some (mI ((i : Nat) : Int)), v4, v5, v6, v7] [] σ1) (fun r σ' => r = none ∧ HV σ' p (mxW s t W) ∧ frL p σ σ')) (by
    intro σ1 v4 v5 v6 v7 hp
    replace hp : (∀ x, x < (4) → σ1.2 p (4 * s + x) = prt (adQ (W s) (W t)) x ∧ σ1.2 p (4 * t + x) = prt (sbQ (W s) (W t)) x) ∧ (∀ k, (k < 4 * s ∨ 4 * s + (4) ≤ k) → (k < 4 * t ∨ 4 * t + (4) ≤ k) → σ1.2 p k = σ.2 p k) ∧ frL p σ σ1 := hp
    show End (ev sh d 199 2 [some (mR (p)), some (mI ((s : Nat) : Int)), some (mI ((t : Nat) : Int)), some (mI (((4) : Nat) : Int)), v4, v5, v6, v7] [] σ1) (fun r σ' => r = none ∧ HV σ' p (mxW s t W) ∧ frL p σ σ')
    rw [e199_2]
    simp (disch := first | assumption | omega | (simp (disch := omega) only [wN, w0, w1]; omega)) only [e199_0, e199_1, e199_3, e199_4, e199_7, e199_8, e199_9, e199_10, e199_11, e199_12, e199_13, e199_14, e199_16, e199_17, e199_18, e199_19, e199_20, e199_21, e199_22, e199_23, e199_25, e199_26, e199_27, e199_28, e199_29, e199_30, e199_31, e199_33, e199_35, e199_36, e199_37, e199_38, e199_39, e199_40, e199_41, e199_42, e199_43, e199_45, e199_47, e199_48, e199_49, e199_52, e199_55, kl_I, kl_R, kl_N, kl_L, oSm, oNn, Option.bind_some, wN, if_pos, if_neg, nS, tN, t0, w0, w1, w2, w3, w4, w5, wm1, upA_ne, upA_same, if_true, if_false, Bool.false_eq_true]
    refine End.of rfl ⟨rfl, HV.of fun r hr i hi => ?_, hp.2.2⟩
    rw [mxW_if]
    by_cases e : r = t
    · subst e
      rw [if_pos rfl]; exact (hp.1 i hi).2
    · rw [if_neg e]
      by_cases e2 : r = s
      · subst e2
        rw [if_pos rfl]; exact (hp.1 i hi).1
      · rw [if_neg e2, hp.2.1 _ (by omega) (by omega)]
        exact hV.at hr hi) (fun i hi ih => by
    replace ih : ∀ (σ1 : Mem) (v4 v5 v6 v7 : Option MV), ((∀ x, x < (i + 1) → σ1.2 p (4 * s + x) = prt (adQ (W s) (W t)) x ∧ σ1.2 p (4 * t + x) = prt (sbQ (W s) (W t)) x) ∧ (∀ k, (k < 4 * s ∨ 4 * s + (i + 1) ≤ k) → (k < 4 * t ∨ 4 * t + (i + 1) ≤ k) → σ1.2 p k = σ.2 p k) ∧ frL p σ σ1) → End (ev sh d 199 2 [some (mR (p)), some (mI ((s : Nat) : Int)), some (mI ((t : Nat) : Int)), some (mI (((i + 1) : Nat) : Int)), v4, v5, v6, v7] [] σ1) (fun r σ' => r = none ∧ HV σ' p (mxW s t W) ∧ frL p σ σ') := ih
    intro σ1 v4 v5 v6 v7 hp
    replace hp : (∀ x, x < i → σ1.2 p (4 * s + x) = prt (adQ (W s) (W t)) x ∧ σ1.2 p (4 * t + x) = prt (sbQ (W s) (W t)) x) ∧ (∀ k, (k < 4 * s ∨ 4 * s + i ≤ k) → (k < 4 * t ∨ 4 * t + i ≤ k) → σ1.2 p k = σ.2 p k) ∧ frL p σ σ1 := hp
    show End (ev sh d 199 2 [some (mR (p)), some (mI ((s : Nat) : Int)), some (mI ((t : Nat) : Int)), some (mI ((i : Nat) : Int)), v4, v5, v6, v7] [] σ1) (fun r σ' => r = none ∧ HV σ' p (mxW s t W) ∧ frL p σ σ')
    have g1 := (hp.2.1 (4 * s + i) (by omega) (by omega)).trans (hV.at hs1 hi)
    have g2 := (hp.2.1 (4 * t + i) (by omega) (by omega)).trans (hV.at ht hi)
    rw [e199_2]
    simp (disch := first | assumption | omega | (simp (disch := omega) only [wN, w0, w1]; omega)) only [e199_0, e199_1, e199_3, e199_4, e199_7, e199_8, e199_9, e199_10, e199_11, e199_12, e199_13, e199_14, e199_16, e199_17, e199_18, e199_19, e199_20, e199_21, e199_22, e199_23, e199_25, e199_26, e199_27, e199_28, e199_29, e199_30, e199_31, e199_33, e199_35, e199_36, e199_37, e199_38, e199_39, e199_40, e199_41, e199_42, e199_43, e199_45, e199_47, e199_48, e199_49, e199_52, e199_55, kl_I, kl_R, kl_N, kl_L, oSm, oNn, Option.bind_some, wN, if_pos, if_neg, nS, tN, t0, w0, w1, w2, w3, w4, w5, wm1, upA_ne, upA_same, if_true, if_false, Bool.false_eq_true, l1, n4, ← Int.natCast_add, g1, g2, up1_ne, upA_upA]
    refine ih _ _ _ _ _ ⟨fun x hx => ?_, fun k hk1 hk2 => ?_, hp.2.2.tr frL.up⟩
    · by_cases e : x = i
      · subst e
        constructor
        · show upA _ _ _ _ _ = _
          rw [upA_same, up1_ne (by omega), up1_same, prt_ad]
        · show upA _ _ _ _ _ = _
          rw [upA_same, up1_same, prt_sb]
      · have h := hp.1 x (by omega)
        constructor
        · show upA _ _ _ _ _ = _
          rw [upA_same, up1_ne (by omega), up1_ne (by omega)]; exact h.1
        · show upA _ _ _ _ _ = _
          rw [upA_same, up1_ne (by omega), up1_ne (by omega)]; exact h.2
    · show upA _ _ _ _ _ = _
      rw [upA_same, up1_ne (by omega), up1_ne (by omega)]
      exact hp.2.1 k (by omega) (by omega)) 0 (Nat.zero_le _)
  simp (disch := first | assumption | omega | (simp (disch := omega) only [wN, w0, w1]; omega)) only [e199_0, e199_1, e199_3, e199_4, e199_7, e199_8, e199_9, e199_10, e199_11, e199_12, e199_13, e199_14, e199_16, e199_17, e199_18, e199_19, e199_20, e199_21, e199_22, e199_23, e199_25, e199_26, e199_27, e199_28, e199_29, e199_30, e199_31, e199_33, e199_35, e199_36, e199_37, e199_38, e199_39, e199_40, e199_41, e199_42, e199_43, e199_45, e199_47, e199_48, e199_49, e199_52, e199_55, kl_I, kl_R, kl_N, kl_L, oSm, oNn, Option.bind_some, wN, if_pos, if_neg, nS, tN, t0, w0, w1, w2, w3, w4, w5, wm1, upA_ne, upA_same, if_true, if_false, Bool.false_eq_true, q199]
  exact L σ _ _ _ _ ⟨fun x hx => by omega, fun _ _ _ => rfl, frL.rf⟩
theorem M198 (hL : laR sh p) (hV : HV σ p W) (hs1 : s < 16) (ht : t < 16) (hst : s ≠ t) : End (run sh d 198 [mR p, mI (s : Int), mI (t : Int)] σ) (fun r σ' => r = none ∧ HV σ' p (exW s t W) ∧ frL p σ σ') := by
  obtain ⟨k1, l1, hw⟩ := id hL
  have L := for_P (4) (fun i => ∀ (σ1 : Mem) (v4 v5 : Option MV), ((∀ x, x < i → σ1.2 p (4 * s + x) = prt (W t) x ∧ σ1.2 p (4 * t + x) = prt (W s) x) ∧ (∀ k, (k < 4 * s ∨ 4 * s + i ≤ k) → (k < 4 * t ∨ 4 * t + i ≤ k) → σ1.2 p k = σ.2 p k) ∧ frL p σ σ1) → End (ev sh d 198 2 [some (mR (p)), some (mI ((s : Nat) : Int)), some (mI ((t : Nat) : Int)), some (mI ((i : Nat) : Int)), v4, v5] [] σ1) (fun r σ' => r = none ∧ HV σ' p (exW s t W) ∧ frL p σ σ')) (by
    intro σ1 v4 v5 hp
    replace hp : (∀ x, x < (4) → σ1.2 p (4 * s + x) = prt (W t) x ∧ σ1.2 p (4 * t + x) = prt (W s) x) ∧ (∀ k, (k < 4 * s ∨ 4 * s + (4) ≤ k) → (k < 4 * t ∨ 4 * t + (4) ≤ k) → σ1.2 p k = σ.2 p k) ∧ frL p σ σ1 := hp
    show End (ev sh d 198 2 [some (mR (p)), some (mI ((s : Nat) : Int)), some (mI ((t : Nat) : Int)), some (mI (((4) : Nat) : Int)), v4, v5] [] σ1) (fun r σ' => r = none ∧ HV σ' p (exW s t W) ∧ frL p σ σ')
    rw [e198_2]
    simp (disch := first | assumption | omega | (simp (disch := omega) only [wN, w0, w1]; omega)) only [e198_0, e198_1, e198_3, e198_4, e198_7, e198_8, e198_9, e198_10, e198_11, e198_12, e198_13, e198_14, e198_16, e198_17, e198_18, e198_19, e198_20, e198_21, e198_22, e198_23, e198_24, e198_25, e198_26, e198_27, e198_28, e198_29, e198_30, e198_31, e198_32, e198_33, e198_34, e198_35, e198_36, e198_38, e198_39, e198_42, e198_45, kl_I, kl_R, kl_N, kl_L, oSm, oNn, Option.bind_some, wN, if_pos, if_neg, nS, tN, t0, w0, w1, w2, w3, w4, w5, wm1, upA_ne, upA_same, if_true, if_false, Bool.false_eq_true]
    refine End.of rfl ⟨rfl, HV.of fun r hr i hi => ?_, hp.2.2⟩
    rw [exW_if]
    by_cases e : r = t
    · subst e
      rw [if_pos rfl]; exact (hp.1 i hi).2
    · rw [if_neg e]
      by_cases e2 : r = s
      · subst e2
        rw [if_pos rfl]; exact (hp.1 i hi).1
      · rw [if_neg e2, hp.2.1 _ (by omega) (by omega)]
        exact hV.at hr hi) (fun i hi ih => by
    replace ih : ∀ (σ1 : Mem) (v4 v5 : Option MV), ((∀ x, x < (i + 1) → σ1.2 p (4 * s + x) = prt (W t) x ∧ σ1.2 p (4 * t + x) = prt (W s) x) ∧ (∀ k, (k < 4 * s ∨ 4 * s + (i + 1) ≤ k) → (k < 4 * t ∨ 4 * t + (i + 1) ≤ k) → σ1.2 p k = σ.2 p k) ∧ frL p σ σ1) → End (ev sh d 198 2 [some (mR (p)), some (mI ((s : Nat) : Int)), some (mI ((t : Nat) : Int)), some (mI (((i + 1) : Nat) : Int)), v4, v5] [] σ1) (fun r σ' => r = none ∧ HV σ' p (exW s t W) ∧ frL p σ σ') := ih
    intro σ1 v4 v5 hp
    replace hp : (∀ x, x < i → σ1.2 p (4 * s + x) = prt (W t) x ∧ σ1.2 p (4 * t + x) = prt (W s) x) ∧ (∀ k, (k < 4 * s ∨ 4 * s + i ≤ k) → (k < 4 * t ∨ 4 * t + i ≤ k) → σ1.2 p k = σ.2 p k) ∧ frL p σ σ1 := hp
    show End (ev sh d 198 2 [some (mR (p)), some (mI ((s : Nat) : Int)), some (mI ((t : Nat) : Int)), some (mI ((i : Nat) : Int)), v4, v5] [] σ1) (fun r σ' => r = none ∧ HV σ' p (exW s t W) ∧ frL p σ σ')
    have g1 := (hp.2.1 (4 * s + i) (by omega) (by omega)).trans (hV.at hs1 hi)
    have g2 := (hp.2.1 (4 * t + i) (by omega) (by omega)).trans (hV.at ht hi)
    rw [e198_2]
    simp (disch := first | assumption | omega | (simp (disch := omega) only [wN, w0, w1]; omega)) only [e198_0, e198_1, e198_3, e198_4, e198_7, e198_8, e198_9, e198_10, e198_11, e198_12, e198_13, e198_14, e198_16, e198_17, e198_18, e198_19, e198_20, e198_21, e198_22, e198_23, e198_24, e198_25, e198_26, e198_27, e198_28, e198_29, e198_30, e198_31, e198_32, e198_33, e198_34, e198_35, e198_36, e198_38, e198_39, e198_42, e198_45, kl_I, kl_R, kl_N, kl_L, oSm, oNn, Option.bind_some, wN, if_pos, if_neg, nS, tN, t0, w0, w1, w2, w3, w4, w5, wm1, upA_ne, upA_same, if_true, if_false, Bool.false_eq_true, l1, n4, ← Int.natCast_add, g1, g2, up1_ne, upA_upA]
    refine ih _ _ _ ⟨fun x hx => ?_, fun k hk1 hk2 => ?_, hp.2.2.tr frL.up⟩
    · by_cases e : x = i
      · subst e
        constructor
        · show upA _ _ _ _ _ = _
          rw [upA_same, up1_ne (by omega), up1_same]
        · show upA _ _ _ _ _ = _
          rw [upA_same, up1_same]
      · have h := hp.1 x (by omega)
        constructor
        · show upA _ _ _ _ _ = _
          rw [upA_same, up1_ne (by omega), up1_ne (by omega)]; exact h.1
        · show upA _ _ _ _ _ = _
          rw [upA_same, up1_ne (by omega), up1_ne (by omega)]; exact h.2
    · show upA _ _ _ _ _ = _
      rw [upA_same, up1_ne (by omega), up1_ne (by omega)]
      exact hp.2.1 k (by omega) (by omega)) 0 (Nat.zero_le _)
  simp (disch := first | assumption | omega | (simp (disch := omega) only [wN, w0, w1]; omega)) only [e198_0, e198_1, e198_3, e198_4, e198_7, e198_8, e198_9, e198_10, e198_11, e198_12, e198_13, e198_14, e198_16, e198_17, e198_18, e198_19, e198_20, e198_21, e198_22, e198_23, e198_24, e198_25, e198_26, e198_27, e198_28, e198_29, e198_30, e198_31, e198_32, e198_33, e198_34, e198_35, e198_36, e198_38, e198_39, e198_42, e198_45, kl_I, kl_R, kl_N, kl_L, oSm, oNn, Option.bind_some, wN, if_pos, if_neg, nS, tN, t0, w0, w1, w2, w3, w4, w5, wm1, upA_ne, upA_same, if_true, if_false, Bool.false_eq_true, q198]
  exact L σ _ _ ⟨fun x hx => by omega, fun _ _ _ => rfl, frL.rf⟩
/-- begins: the one state s -/
theorem M201 (hL : laR sh p) (hs1 : s < 16) : End (run sh d 201 [mR p, mI (s : Int)] σ) (fun r σ' => r = none ∧ HV σ' p (e1W s) ∧ frL p σ σ') := by
  obtain ⟨k1, l1, hw⟩ := id hL
  have w64 : wi 64 = 64 := rfl
  have L := for_P (64) (fun i => ∀ (σ1 : Mem), ((∀ x, x < i → σ1.2 p x = 0) ∧ frL p σ σ1) → End (ev sh d 201 2 [some (mR (p)), some (mI ((s : Nat) : Int)), some (mI ((i : Nat) : Int))] [] σ1) (fun r σ' => r = none ∧ HV σ' p (e1W s) ∧ frL p σ σ')) (by
    intro σ1  hp
    replace hp : (∀ x, x < (64) → σ1.2 p x = 0) ∧ frL p σ σ1 := hp
    show End (ev sh d 201 2 [some (mR (p)), some (mI ((s : Nat) : Int)), some (mI (((64) : Nat) : Int))] [] σ1) (fun r σ' => r = none ∧ HV σ' p (e1W s) ∧ frL p σ σ')
    rw [e201_2]
    simp (disch := first | assumption | omega | (simp (disch := omega) only [wN, w0, w1]; omega)) only [e201_0, e201_1, e201_3, e201_5, e201_8, e201_9, e201_10, e201_11, e201_12, e201_15, e201_18, e201_19, e201_20, e201_21, e201_22, e201_23, e201_24, kl_I, kl_R, kl_N, kl_L, oSm, oNn, Option.bind_some, wN, if_pos, if_neg, nS, tN, t0, w0, w1, w2, w3, w4, w5, wm1, upA_ne, upA_same, if_true, if_false, Bool.false_eq_true, l1, n4, w64]
    refine End.of rfl ⟨rfl, ?_, hp.2.tr frL.up⟩
    have e : e1W s = upQ (fun _ => qz) s qo := rfl
    rw [e]
    refine HV.put (σ := σ1) (fun r hr => ⟨hp.1 _ (by omega), hp.1 _ (by omega), hp.1 _ (by omega), hp.1 _ (by omega)⟩) ?_ ?_ ?_ ?_ (fun x hx => ?_)
    · simp (disch := omega) only [upA_same, up1_same, up1_ne]; rfl
    · simp (disch := omega) only [upA_same, up1_same, up1_ne]; exact hp.1 _ (by omega)
    · simp (disch := omega) only [upA_same, up1_same, up1_ne]; exact hp.1 _ (by omega)
    · simp (disch := omega) only [upA_same, up1_same, up1_ne]; exact hp.1 _ (by omega)
    · simp (disch := omega) only [upA_same, up1_same, up1_ne]) (fun i hi ih => by
    replace ih : ∀ (σ1 : Mem), ((∀ x, x < (i + 1) → σ1.2 p x = 0) ∧ frL p σ σ1) → End (ev sh d 201 2 [some (mR (p)), some (mI ((s : Nat) : Int)), some (mI (((i + 1) : Nat) : Int))] [] σ1) (fun r σ' => r = none ∧ HV σ' p (e1W s) ∧ frL p σ σ') := ih
    intro σ1  hp
    replace hp : (∀ x, x < i → σ1.2 p x = 0) ∧ frL p σ σ1 := hp
    show End (ev sh d 201 2 [some (mR (p)), some (mI ((s : Nat) : Int)), some (mI ((i : Nat) : Int))] [] σ1) (fun r σ' => r = none ∧ HV σ' p (e1W s) ∧ frL p σ σ')
    rw [e201_2]
    simp (disch := first | assumption | omega | (simp (disch := omega) only [wN, w0, w1]; omega)) only [e201_0, e201_1, e201_3, e201_5, e201_8, e201_9, e201_10, e201_11, e201_12, e201_15, e201_18, e201_19, e201_20, e201_21, e201_22, e201_23, e201_24, kl_I, kl_R, kl_N, kl_L, oSm, oNn, Option.bind_some, wN, if_pos, if_neg, nS, tN, t0, w0, w1, w2, w3, w4, w5, wm1, upA_ne, upA_same, if_true, if_false, Bool.false_eq_true, l1, w64]
    refine ih _ ⟨fun x hx => ?_, hp.2.tr frL.up⟩
    show upA _ _ _ _ _ = _
    rw [upA_same]
    by_cases h : x = i
    · rw [h, up1_same]
    · rw [up1_ne h]; exact hp.1 x (by omega)) 0 (Nat.zero_le _)
  simp (disch := first | assumption | omega | (simp (disch := omega) only [wN, w0, w1]; omega)) only [e201_0, e201_1, e201_3, e201_5, e201_8, e201_9, e201_10, e201_11, e201_12, e201_15, e201_18, e201_19, e201_20, e201_21, e201_22, e201_23, e201_24, kl_I, kl_R, kl_N, kl_L, oSm, oNn, Option.bind_some, wN, if_pos, if_neg, nS, tN, t0, w0, w1, w2, w3, w4, w5, wm1, upA_ne, upA_same, if_true, if_false, Bool.false_eq_true, q201]
  exact L σ ⟨fun x hx => by omega, frL.rf⟩
theorem M202 (hL : laR sh p) (hV : HV σ p W) : run sh d 202 [mR p] σ = some (some (mI (if evW W = true then 1 else 0)), σ) := by
  obtain ⟨k1, l1, hw⟩ := id hL
  have w16 : wi 16 = 16 := rfl
  have F := for_dn (fun i => ev sh d 202 2 [some (mR (p)), some (mI ((i : Nat) : Int))] [] (σ)) (fun i => some (some (mI (if fa (fun s => evQ (W s)) (16 - i) i = true then 1 else 0)), σ)) (16) (by
    show ev sh d 202 2 [some (mR (p)), some (mI (((16) : Nat) : Int))] [] (σ) = some (some (mI (if fa (fun s => evQ (W s)) (16 - (16)) (16) = true then 1 else 0)), σ)
    rw [fa_e, e202_2]
    simp (disch := first | assumption | omega | (simp (disch := omega) only [wN, w0, w1]; omega)) only [e202_0, e202_1, e202_3, e202_5, e202_8, e202_9, e202_10, e202_11, e202_12, e202_13, e202_14, e202_15, e202_16, e202_17, e202_18, e202_19, e202_20, e202_21, e202_22, e202_23, e202_24, e202_25, e202_26, e202_27, e202_30, e202_31, e202_32, e202_33, e202_34, e202_35, e202_36, e202_37, e202_38, e202_39, e202_40, e202_41, e202_42, e202_43, e202_44, e202_45, e202_46, e202_47, e202_50, e202_51, e202_52, e202_55, e202_58, e202_59, kl_I, kl_R, kl_N, kl_L, oSm, oNn, Option.bind_some, wN, if_pos, if_neg, nS, tN, t0, w0, w1, w2, w3, w4, w5, wm1, upA_ne, upA_same, if_true, if_false, Bool.false_eq_true, w16]) (fun i hi ih => by
    replace ih : ev sh d 202 2 [some (mR (p)), some (mI (((i + 1) : Nat) : Int))] [] (σ) = some (some (mI (if fa (fun s => evQ (W s)) (16 - (i + 1)) (i + 1) = true then 1 else 0)), σ) := ih
    show ev sh d 202 2 [some (mR (p)), some (mI ((i : Nat) : Int))] [] (σ) = some (some (mI (if fa (fun s => evQ (W s)) (16 - i) i = true then 1 else 0)), σ)
    obtain ⟨g0, g1, g2, g3⟩ := hV i hi
    rw [e202_2, fa_s hi]
    by_cases h1 : ((W i).2.1 - (W i).2.2.2) % 2 = 0
    · by_cases h2 : ((W i).1 + (W i).2.2.1) % 2 = 0
      · have e : evQ (W i) = true := by
          simp only [evQ, Bool.and_eq_true, decide_eq_true_eq]
          exact ⟨by omega, h1⟩
        have c0 : lcmp' 0 0 = 0 := by decide
        simp (disch := first | assumption | omega | (simp (disch := omega) only [wN, w0, w1]; omega)) only [e202_0, e202_1, e202_3, e202_5, e202_8, e202_9, e202_10, e202_11, e202_12, e202_13, e202_14, e202_15, e202_16, e202_17, e202_18, e202_19, e202_20, e202_21, e202_22, e202_23, e202_24, e202_25, e202_26, e202_27, e202_30, e202_31, e202_32, e202_33, e202_34, e202_35, e202_36, e202_37, e202_38, e202_39, e202_40, e202_41, e202_42, e202_43, e202_44, e202_45, e202_46, e202_47, e202_50, e202_51, e202_52, e202_55, e202_58, e202_59, kl_I, kl_R, kl_N, kl_L, oSm, oNn, Option.bind_some, wN, if_pos, if_neg, nS, tN, t0, w0, w1, w2, w3, w4, w5, wm1, upA_ne, upA_same, if_true, if_false, Bool.false_eq_true, l1, n4, nS2, nS3, w16, g0, g1, g2, g3, land_1, h1, h2, c0]
        rw [ih]
        simp [e]
      · have e : evQ (W i) = false := by
          have h3 : ¬ ((W i).1 - (W i).2.2.1) % 2 = 0 := by omega
          simp [evQ, h3]
        have h2' : ((W i).1 + (W i).2.2.1) % 2 = 1 := by omega
        have c0 : lcmp' 0 0 = 0 := by decide
        have c1 : lcmp' 1 0 = 1 := by decide
        simp (disch := first | assumption | omega | (simp (disch := omega) only [wN, w0, w1]; omega)) only [e202_0, e202_1, e202_3, e202_5, e202_8, e202_9, e202_10, e202_11, e202_12, e202_13, e202_14, e202_15, e202_16, e202_17, e202_18, e202_19, e202_20, e202_21, e202_22, e202_23, e202_24, e202_25, e202_26, e202_27, e202_30, e202_31, e202_32, e202_33, e202_34, e202_35, e202_36, e202_37, e202_38, e202_39, e202_40, e202_41, e202_42, e202_43, e202_44, e202_45, e202_46, e202_47, e202_50, e202_51, e202_52, e202_55, e202_58, e202_59, kl_I, kl_R, kl_N, kl_L, oSm, oNn, Option.bind_some, wN, if_pos, if_neg, nS, tN, t0, w0, w1, w2, w3, w4, w5, wm1, upA_ne, upA_same, if_true, if_false, Bool.false_eq_true, l1, n4, nS2, nS3, w16, g0, g1, g2, g3, land_1, h1, h2', c0, c1]
        simp [e]
    · have e : evQ (W i) = false := by simp [evQ, h1]
      have h1' : ((W i).2.1 - (W i).2.2.2) % 2 = 1 := by omega
      have c1 : lcmp' 1 0 = 1 := by decide
      simp (disch := first | assumption | omega | (simp (disch := omega) only [wN, w0, w1]; omega)) only [e202_0, e202_1, e202_3, e202_5, e202_8, e202_9, e202_10, e202_11, e202_12, e202_13, e202_14, e202_15, e202_16, e202_17, e202_18, e202_19, e202_20, e202_21, e202_22, e202_23, e202_24, e202_25, e202_26, e202_27, e202_30, e202_31, e202_32, e202_33, e202_34, e202_35, e202_36, e202_37, e202_38, e202_39, e202_40, e202_41, e202_42, e202_43, e202_44, e202_45, e202_46, e202_47, e202_50, e202_51, e202_52, e202_55, e202_58, e202_59, kl_I, kl_R, kl_N, kl_L, oSm, oNn, Option.bind_some, wN, if_pos, if_neg, nS, tN, t0, w0, w1, w2, w3, w4, w5, wm1, upA_ne, upA_same, if_true, if_false, Bool.false_eq_true, l1, n4, nS2, nS3, w16, g0, g1, g2, g3, land_1, h1', c1]
      simp [e]) 0 (Nat.zero_le _)
  simp (disch := first | assumption | omega | (simp (disch := omega) only [wN, w0, w1]; omega)) only [e202_0, e202_1, e202_3, e202_5, e202_8, e202_9, e202_10, e202_11, e202_12, e202_13, e202_14, e202_15, e202_16, e202_17, e202_18, e202_19, e202_20, e202_21, e202_22, e202_23, e202_24, e202_25, e202_26, e202_27, e202_30, e202_31, e202_32, e202_33, e202_34, e202_35, e202_36, e202_37, e202_38, e202_39, e202_40, e202_41, e202_42, e202_43, e202_44, e202_45, e202_46, e202_47, e202_50, e202_51, e202_52, e202_55, e202_58, e202_59, kl_I, kl_R, kl_N, kl_L, oSm, oNn, Option.bind_some, wN, if_pos, if_neg, nS, tN, t0, w0, w1, w2, w3, w4, w5, wm1, upA_ne, upA_same, if_true, if_false, Bool.false_eq_true, q202]
  exact F
theorem M203 (hL : laR sh p) (hV : HV σ p W) (hb : bdW 1073741824 W) (he : evW W = true) : End (run sh d 203 [mR p] σ) (fun r σ' => r = none ∧ HV σ' p (leW W) ∧ frL p σ σ') := by
  obtain ⟨k1, l1, hw⟩ := id hL
  have w16 : wi 16 = 16 := rfl
  have y2 : ¬ wl 2 = 0 := by decide
  have L := for_P (16) (fun i => ∀ (σ1 : Mem) (v2 v3 v4 v5 v6 v7 v8 v9 : Option MV), (HV σ1 p (leM W i) ∧ frL p σ σ1) → End (ev sh d 203 2 [some (mR (p)), some (mI ((i : Nat) : Int)), v2, v3, v4, v5, v6, v7, v8, v9] [] σ1) (fun r σ' => r = none ∧ HV σ' p (leW W) ∧ frL p σ σ')) (by
    intro σ1 v2 v3 v4 v5 v6 v7 v8 v9 hp
    replace hp : HV σ1 p (leM W (16)) ∧ frL p σ σ1 := hp
    show End (ev sh d 203 2 [some (mR (p)), some (mI (((16) : Nat) : Int)), v2, v3, v4, v5, v6, v7, v8, v9] [] σ1) (fun r σ' => r = none ∧ HV σ' p (leW W) ∧ frL p σ σ')
    rw [e203_2]
    simp (disch := first | assumption | omega | (simp (disch := omega) only [wN, w0, w1]; omega)) only [e203_0, e203_1, e203_3, e203_5, e203_8, e203_9, e203_10, e203_11, e203_12, e203_13, e203_14, e203_15, e203_16, e203_17, e203_18, e203_19, e203_20, e203_21, e203_23, e203_24, e203_25, e203_26, e203_27, e203_28, e203_29, e203_30, e203_32, e203_33, e203_34, e203_35, e203_36, e203_37, e203_38, e203_39, e203_41, e203_42, e203_43, e203_44, e203_45, e203_47, e203_49, e203_50, e203_53, e203_54, e203_55, e203_56, e203_57, e203_58, e203_59, e203_60, e203_61, e203_62, e203_64, e203_65, e203_68, e203_69, e203_70, e203_71, e203_72, e203_73, e203_74, e203_75, e203_76, e203_78, e203_80, e203_81, e203_84, e203_85, e203_86, e203_87, e203_88, e203_89, e203_90, e203_91, e203_92, e203_94, e203_95, e203_96, e203_99, e203_100, e203_101, e203_104, e203_107, kl_I, kl_R, kl_N, kl_L, oSm, oNn, Option.bind_some, wN, if_pos, if_neg, nS, tN, t0, w0, w1, w2, w3, w4, w5, wm1, upA_ne, upA_same, if_true, if_false, Bool.false_eq_true, w16]
    refine End.of rfl ⟨rfl, hp.1.c (fun s hs => ?_), hp.2⟩
    rw [leM, if_pos hs]; rfl) (fun i hi ih => by
    replace ih : ∀ (σ1 : Mem) (v2 v3 v4 v5 v6 v7 v8 v9 : Option MV), (HV σ1 p (leM W (i + 1)) ∧ frL p σ σ1) → End (ev sh d 203 2 [some (mR (p)), some (mI (((i + 1) : Nat) : Int)), v2, v3, v4, v5, v6, v7, v8, v9] [] σ1) (fun r σ' => r = none ∧ HV σ' p (leW W) ∧ frL p σ σ') := ih
    intro σ1 v2 v3 v4 v5 v6 v7 v8 v9 hp
    replace hp : HV σ1 p (leM W i) ∧ frL p σ σ1 := hp
    show End (ev sh d 203 2 [some (mR (p)), some (mI ((i : Nat) : Int)), v2, v3, v4, v5, v6, v7, v8, v9] [] σ1) (fun r σ' => r = none ∧ HV σ' p (leW W) ∧ frL p σ σ')
    obtain ⟨g0, g1, g2, g3⟩ := hp.1 i hi
    have eM : leM W i i = W i := if_neg (Nat.lt_irrefl i)
    rw [eM] at g0 g1 g2 g3
    have ee := (fa_iff 16 0).mp he i (by omega) (by omega)
    simp only [evQ, Bool.and_eq_true, decide_eq_true_eq] at ee
    have bb := hb i
    simp only [bdQ] at bb
    have d1 := ldiv_2 (x := (W i).2.1 - (W i).2.2.2) (by omega) (by omega)
    have d2 := ldiv_2 (x := (W i).1 + (W i).2.2.1) (by omega) (by omega)
    have d3 := ldiv_2 (x := (W i).2.1 + (W i).2.2.2) (by omega) (by omega)
    have d4 := ldiv_2 (x := (W i).2.2.1 - (W i).1) (by omega) (by omega)
    rw [e203_2]
    simp (disch := first | assumption | omega | (simp (disch := omega) only [wN, w0, w1]; omega)) only [e203_0, e203_1, e203_3, e203_5, e203_8, e203_9, e203_10, e203_11, e203_12, e203_13, e203_14, e203_15, e203_16, e203_17, e203_18, e203_19, e203_20, e203_21, e203_23, e203_24, e203_25, e203_26, e203_27, e203_28, e203_29, e203_30, e203_32, e203_33, e203_34, e203_35, e203_36, e203_37, e203_38, e203_39, e203_41, e203_42, e203_43, e203_44, e203_45, e203_47, e203_49, e203_50, e203_53, e203_54, e203_55, e203_56, e203_57, e203_58, e203_59, e203_60, e203_61, e203_62, e203_64, e203_65, e203_68, e203_69, e203_70, e203_71, e203_72, e203_73, e203_74, e203_75, e203_76, e203_78, e203_80, e203_81, e203_84, e203_85, e203_86, e203_87, e203_88, e203_89, e203_90, e203_91, e203_92, e203_94, e203_95, e203_96, e203_99, e203_100, e203_101, e203_104, e203_107, kl_I, kl_R, kl_N, kl_L, oSm, oNn, Option.bind_some, wN, if_pos, if_neg, nS, tN, t0, w0, w1, w2, w3, w4, w5, wm1, upA_ne, upA_same, if_true, if_false, Bool.false_eq_true, l1, n4, nS2, nS3, w16, g0, g1, g2, g3, d1, d2, d3, d4, upA_upA]
    refine ih _ _ _ _ _ _ _ _ _ ⟨?_, hp.2.tr frL.up⟩
    rw [leM_s]
    refine hp.1.put ?_ ?_ ?_ ?_ (fun x hx => ?_)
    all_goals simp (disch := omega) only [upA_same, up1_same, up1_ne]
    all_goals rfl) 0 (Nat.zero_le _)
  simp (disch := first | assumption | omega | (simp (disch := omega) only [wN, w0, w1]; omega)) only [e203_0, e203_1, e203_3, e203_5, e203_8, e203_9, e203_10, e203_11, e203_12, e203_13, e203_14, e203_15, e203_16, e203_17, e203_18, e203_19, e203_20, e203_21, e203_23, e203_24, e203_25, e203_26, e203_27, e203_28, e203_29, e203_30, e203_32, e203_33, e203_34, e203_35, e203_36, e203_37, e203_38, e203_39, e203_41, e203_42, e203_43, e203_44, e203_45, e203_47, e203_49, e203_50, e203_53, e203_54, e203_55, e203_56, e203_57, e203_58, e203_59, e203_60, e203_61, e203_62, e203_64, e203_65, e203_68, e203_69, e203_70, e203_71, e203_72, e203_73, e203_74, e203_75, e203_76, e203_78, e203_80, e203_81, e203_84, e203_85, e203_86, e203_87, e203_88, e203_89, e203_90, e203_91, e203_92, e203_94, e203_95, e203_96, e203_99, e203_100, e203_101, e203_104, e203_107, kl_I, kl_R, kl_N, kl_L, oSm, oNn, Option.bind_some, wN, if_pos, if_neg, nS, tN, t0, w0, w1, w2, w3, w4, w5, wm1, upA_ne, upA_same, if_true, if_false, Bool.false_eq_true, q203]
  refine L σ _ _ _ _ _ _ _ _ ⟨hV.c (fun s hs => ?_), frL.rf⟩
  rw [leM, if_neg (by omega)]
end ML

