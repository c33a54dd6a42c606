/-! ===== Board: writes ===== -/
/-- nothing but what lies from x to y has changed -/
def frI (x y : Nat) (σ σ' : Mem) : Prop := (∀ a, (a < x ∨ y < a) → σ'.1 a = σ.1 a) ∧ σ'.2 = σ.2
theorem frI.rf {x y : Nat} {σ : Mem} : frI x y σ σ := ⟨fun _ _ => rfl, rfl⟩
theorem frI.tr {x y : Nat} {σ σ1 σ2 : Mem} (h : frI x y σ σ1) (h2 : frI x y σ1 σ2) : frI x y σ σ2 := ⟨fun a ha => (h2.1 a ha).trans (h.1 a ha), h2.2.trans h.2⟩
theorem frI.w {x y x' y' : Nat} {σ σ' : Mem} (h : frI x y σ σ') (hx : x' ≤ x) (hy : y ≤ y') : frI x' y' σ σ' := ⟨fun a ha => h.1 a (by omega), h.2⟩
theorem frI.up {x y a : Nat} {σ : Mem} {g : Nat → Int} (h : x ≤ a ∧ a ≤ y) : frI x y σ (upA σ.1 a g, σ.2) := ⟨fun b hb => upA_ne (by omega), rfl⟩
theorem HB.fr {x y b m : Nat} {σ σ' : Mem} {E : List Ed} (h : HB σ b m E) (hf : frI x y σ σ') (ho : b + 2 < x ∨ y < b) : HB σ' b m E := by
  obtain ⟨h1, h2, h3⟩ := h
  refine ⟨by rw [hf.1 _ (by omega)]; exact h1, by rw [hf.1 _ (by omega)]; exact h2, fun j hj => ?_⟩
  rw [hf.1 _ (by omega), hf.1 _ (by omega)]
  exact h3 j hj
theorem HF.fr {x y b : Nat} {σ σ' : Mem} {F : Nat → Nat → Nat} (h : HF σ b F) (hf : frI x y σ σ') (ho : b + 8 < x ∨ y < b + 4) : HF σ' b F := by
  intro p hp q hq
  rw [hf.1 _ (by omega)]
  exact h p hp q hq
theorem HW.fr {x y b m : Nat} {σ σ' : Mem} {F : Nat → Nat → Nat} (h : HW σ b m F) (hf : frI x y σ σ') (ho : b + 8 < x ∨ y < b + 4) : HW σ' b m F := by
  obtain ⟨G, h1, h2⟩ := h
  exact ⟨G, h1.fr hf ho, h2⟩
theorem eA_l {c e : List Ed} {j : Nat} (h : j < c.length) : eA (c ++ e) j = eA c j := by simp [eA, List.getElem?_append_left h]
theorem eA_n {c : List Ed} {q : Ed} : eA (c ++ [q]) c.length = q := by simp [eA]
theorem eA_s {c : List Ed} {i : Nat} (h : i < c.length) : c.take i ++ [eA c i] = c.take (i + 1) := by
  rw [List.take_succ_eq_append_getElem h]
  simp [eA, h]
section BDW
variable {sh : Shp} {d b o m : Nat} {σ : Mem} {E : List Ed} {x y : Nat} {F : Nat → Nat → Nat}
theorem M5 (hs : bdS sh b) (hB : HB σ b m E) (hE : E.length < 10) (hx : x < 5) (hy : y < 5) : End (run sh (d + 2) 5 [mR b, mI (x : Int), mI (y : Int)] σ) (fun r σ' => r = none ∧ HB σ' b m (E ++ [(min x y, max x y)]) ∧ frI b (b + 2) σ σ') := by
  obtain ⟨ho, r2, r3, r4, k1, k2, k3, l1, l2, l3, hw, hf⟩ := id hs
  have w10 : wi (10 : Int) = 10 := rfl
  have hl := hB.2.1
  simp (disch := first | assumption | omega | (simp (disch := omega) only [wN, w0, w1]; omega)) only [e5_0, e5_1, e5_4, e5_6, e5_9, e5_10, e5_13, e5_14, e5_17, e5_18, e5_19, e5_22, e5_25, e5_26, e5_29, e5_30, e5_33, e5_34, e5_35, e5_38, e5_41, e5_42I, e5_42R, e5_43, e5_46, e5_47, e5_48, e5_51, kl_I, kl_R, kl_N, kl_L, oSm, oNn, Option.bind_some, wN, if_pos, if_neg, nS, tN, t0, w0, w1, w2, w3, w4, w5, wm1, upA_ne, upA_same, if_true, if_false, Bool.false_eq_true, q5, hl, r2, r3, w10, mmn_nn, mmx_nn, up1_same, K289n k1 l1 (by omega) (show b + 1 < sh.1 by omega) hE, K289n k2 l2 (by omega) (show b + 2 < sh.1 by omega) hE]
  refine End.of rfl ⟨rfl, ⟨?_, ?_, fun j hj => ?_⟩, ⟨fun a ha => ?_, rfl⟩⟩
  · simp (disch := omega) only [upA_ne, upA_same, up1_ne]
    exact hB.1
  · simp (disch := omega) only [upA_ne, upA_same, up1_same, List.length_append, List.length_cons, List.length_nil]
  · by_cases h : j = E.length
    · subst h
      rw [eA_n]
      simp (disch := omega) only [upA_ne, upA_same, up1_same]
      exact ⟨trivial, trivial⟩
    · have h2 : j < E.length := by simp at hj; omega
      rw [eA_l h2]
      simp (disch := omega) only [upA_ne, upA_same, up1_ne]
      exact hB.2.2 j h2
  · simp (disch := omega) only [upA_ne]
theorem M8 (hs : bdS sh b) (hs2 : bdS sh o) (hap : o + 8 < b ∨ b + 8 < o) (hB : HB σ o m E) (hF : HF σ o F) (hE : E.length ≤ 10) (hm : m ≤ 5) (hv : okE m E) : End (run sh (d + 3) 8 [mR b, mR o] σ) (fun r σ' => r = none ∧ HB σ' b m E ∧ HF σ' b F ∧ frI b (b + 8) σ σ') := by
  obtain ⟨ho, r2, r3, r4, k1, k2, k3, l1, l2, l3, hw, hf⟩ := id hs
  obtain ⟨ho2, s2, s3, s4, k21, k22, k23, l21, l22, l23, hw2, hf2⟩ := id hs2
  have L3 := for_P (5) (fun i => ∀ (σ1 : Mem) (v3 : Option MV), (HB σ1 b m E ∧ frI b (b + 8) σ σ1 ∧ ∀ p, p < i → ∀ q, q < 5 → σ1.1 (b + 4 + p) q = (F p q : Int)) → End (ev sh (d + 3) 8 45 [some (mR (b)), some (mR (o)), some (mI ((i : Nat) : Int)), v3] [] σ1) (fun r σ' => r = none ∧ HB σ' b m E ∧ HF σ' b F ∧ frI b (b + 8) σ σ')) (by
    intro σ1 v3 hp
    replace hp : HB σ1 b m E ∧ frI b (b + 8) σ σ1 ∧ ∀ p, p < (5) → ∀ q, q < 5 → σ1.1 (b + 4 + p) q = (F p q : Int) := hp
    show End (ev sh (d + 3) 8 45 [some (mR (b)), some (mR (o)), some (mI (((5) : Nat) : Int)), v3] [] σ1) (fun r σ' => r = none ∧ HB σ' b m E ∧ HF σ' b F ∧ frI b (b + 8) σ σ')
    rw [e8_45]
    simp (disch := first | assumption | omega | (simp (disch := omega) only [wN, w0, w1]; omega)) only [e8_0, e8_1, e8_2, e8_5, e8_8, e8_9, e8_10, e8_13, e8_14, e8_15, e8_16, e8_17, e8_20, e8_23, e8_24, e8_25, e8_26, e8_29, e8_30, e8_31, e8_34, e8_37, e8_40, e8_43, e8_44, e8_46, e8_47, e8_50, e8_51, e8_53, e8_54, e8_57, e8_58, e8_61, e8_62, e8_63, e8_64, e8_65, e8_68, e8_69, e8_70, e8_71, e8_72, e8_73, e8_76, e8_79, e8_82, e8_85, kl_I, kl_R, kl_N, kl_L, oSm, oNn, Option.bind_some, wN, if_pos, if_neg, nS, tN, t0, w0, w1, w2, w3, w4, w5, wm1, upA_ne, upA_same, if_true, if_false]
    refine End.of rfl ⟨rfl, hp.1, fun p hp1 q hq => ⟨hp.2.2 p hp1 q hq, (hF p hp1 q hq).2⟩, hp.2.1⟩) (fun i hi ih => by
    replace ih : ∀ (σ1 : Mem) (v3 : Option MV), (HB σ1 b m E ∧ frI b (b + 8) σ σ1 ∧ ∀ p, p < (i + 1) → ∀ q, q < 5 → σ1.1 (b + 4 + p) q = (F p q : Int)) → End (ev sh (d + 3) 8 45 [some (mR (b)), some (mR (o)), some (mI (((i + 1) : Nat) : Int)), v3] [] σ1) (fun r σ' => r = none ∧ HB σ' b m E ∧ HF σ' b F ∧ frI b (b + 8) σ σ') := ih
    intro σ1 v3 hp
    replace hp : HB σ1 b m E ∧ frI b (b + 8) σ σ1 ∧ ∀ p, p < i → ∀ q, q < 5 → σ1.1 (b + 4 + p) q = (F p q : Int) := hp
    show End (ev sh (d + 3) 8 45 [some (mR (b)), some (mR (o)), some (mI ((i : Nat) : Int)), v3] [] σ1) (fun r σ' => r = none ∧ HB σ' b m E ∧ HF σ' b F ∧ frI b (b + 8) σ σ')
    have hi' := hi
    obtain ⟨f1, f2, f3⟩ := hf i hi
    obtain ⟨g1, g2, g3⟩ := hf2 i hi
    have L4 := for_P (5) (fun j => ∀ (σ2 : Mem), (HB σ2 b m E ∧ frI b (b + 8) σ σ2 ∧ ∀ p q, q < 5 → (p < i ∨ p = i ∧ q < j) → σ2.1 (b + 4 + p) q = (F p q : Int)) → End (ev sh (d + 3) 8 52 [some (mR (b)), some (mR (o)), some (mI ((i : Nat) : Int)), some (mI ((j : Nat) : Int))] [] σ2) (fun r σ' => r = none ∧ HB σ' b m E ∧ HF σ' b F ∧ frI b (b + 8) σ σ')) (by
      intro σ2  hp
      replace hp : HB σ2 b m E ∧ frI b (b + 8) σ σ2 ∧ ∀ p q, q < 5 → (p < i ∨ p = i ∧ q < (5)) → σ2.1 (b + 4 + p) q = (F p q : Int) := hp
      show End (ev sh (d + 3) 8 52 [some (mR (b)), some (mR (o)), some (mI ((i : Nat) : Int)), some (mI (((5) : Nat) : Int))] [] σ2) (fun r σ' => r = none ∧ HB σ' b m E ∧ HF σ' b F ∧ frI b (b + 8) σ σ')
      rw [e8_52]
      simp (disch := first | assumption | omega | (simp (disch := omega) only [wN, w0, w1]; omega)) only [e8_0, e8_1, e8_2, e8_5, e8_8, e8_9, e8_10, e8_13, e8_14, e8_15, e8_16, e8_17, e8_20, e8_23, e8_24, e8_25, e8_26, e8_29, e8_30, e8_31, e8_34, e8_37, e8_40, e8_43, e8_44, e8_46, e8_47, e8_50, e8_51, e8_53, e8_54, e8_57, e8_58, e8_61, e8_62, e8_63, e8_64, e8_65, e8_68, e8_69, e8_70, e8_71, e8_72, e8_73, e8_76, e8_79, e8_82, e8_85, kl_I, kl_R, kl_N, kl_L, oSm, oNn, Option.bind_some, wN, if_pos, if_neg, nS, tN, t0, w0, w1, w2, w3, w4, w5, wm1, upA_ne, upA_same, if_true, if_false]
      exact ih σ2 _ ⟨hp.1, hp.2.1, fun p hp1 q hq => hp.2.2 p q hq (by omega)⟩) (fun j hi ih => by
      replace ih : ∀ (σ2 : Mem), (HB σ2 b m E ∧ frI b (b + 8) σ σ2 ∧ ∀ p q, q < 5 → (p < i ∨ p = i ∧ q < (j + 1)) → σ2.1 (b + 4 + p) q = (F p q : Int)) → End (ev sh (d + 3) 8 52 [some (mR (b)), some (mR (o)), some (mI ((i : Nat) : Int)), some (mI (((j + 1) : Nat) : Int))] [] σ2) (fun r σ' => r = none ∧ HB σ' b m E ∧ HF σ' b F ∧ frI b (b + 8) σ σ') := ih
      intro σ2  hp
      replace hp : HB σ2 b m E ∧ frI b (b + 8) σ σ2 ∧ ∀ p q, q < 5 → (p < i ∨ p = i ∧ q < j) → σ2.1 (b + 4 + p) q = (F p q : Int) := hp
      show End (ev sh (d + 3) 8 52 [some (mR (b)), some (mR (o)), some (mI ((i : Nat) : Int)), some (mI ((j : Nat) : Int))] [] σ2) (fun r σ' => r = none ∧ HB σ' b m E ∧ HF σ' b F ∧ frI b (b + 8) σ σ')
      have hv := (hF.fr hp.2.1 (by omega) i hi' j hi).1
      rw [e8_52]
      simp (disch := first | assumption | omega | (simp (disch := omega) only [wN, w0, w1]; omega)) only [e8_0, e8_1, e8_2, e8_5, e8_8, e8_9, e8_10, e8_13, e8_14, e8_15, e8_16, e8_17, e8_20, e8_23, e8_24, e8_25, e8_26, e8_29, e8_30, e8_31, e8_34, e8_37, e8_40, e8_43, e8_44, e8_46, e8_47, e8_50, e8_51, e8_53, e8_54, e8_57, e8_58, e8_61, e8_62, e8_63, e8_64, e8_65, e8_68, e8_69, e8_70, e8_71, e8_72, e8_73, e8_76, e8_79, e8_82, e8_85, kl_I, kl_R, kl_N, kl_L, oSm, oNn, Option.bind_some, wN, if_pos, if_neg, nS, tN, t0, w0, w1, w2, w3, w4, w5, wm1, upA_ne, upA_same, if_true, if_false, r4, s4, f1, f2, f3, g1, g2, g3, l3, l23, hv]
      refine ih _ ⟨hp.1.fr (frI.up (x := b + 4) (y := b + 8) (by omega)) (by omega), hp.2.1.tr (frI.up (by omega)), fun p q hq hc => ?_⟩
      by_cases e : p = i
      · subst e
        show upA _ _ _ _ _ = _
        rw [upA_same]
        by_cases e2 : q = j
        · subst e2; rw [up1_same]
        · rw [up1_ne e2]; exact hp.2.2 p q hq (by omega)
      · show upA _ _ _ _ _ = _
        rw [upA_ne (by omega)]; exact hp.2.2 p q hq (by omega)) 0 (Nat.zero_le _)
    rw [e8_45]
    simp (disch := first | assumption | omega | (simp (disch := omega) only [wN, w0, w1]; omega)) only [e8_0, e8_1, e8_2, e8_5, e8_8, e8_9, e8_10, e8_13, e8_14, e8_15, e8_16, e8_17, e8_20, e8_23, e8_24, e8_25, e8_26, e8_29, e8_30, e8_31, e8_34, e8_37, e8_40, e8_43, e8_44, e8_46, e8_47, e8_50, e8_51, e8_53, e8_54, e8_57, e8_58, e8_61, e8_62, e8_63, e8_64, e8_65, e8_68, e8_69, e8_70, e8_71, e8_72, e8_73, e8_76, e8_79, e8_82, e8_85, kl_I, kl_R, kl_N, kl_L, oSm, oNn, Option.bind_some, wN, if_pos, if_neg, nS, tN, t0, w0, w1, w2, w3, w4, w5, wm1, upA_ne, upA_same, if_true, if_false]
    exact L4 σ1 ⟨hp.1, hp.2.1, fun p q hq hc => hp.2.2 p (by omega) q hq⟩) 0 (Nat.zero_le _)
  have L2 := for_P (E.length) (fun i => ∀ (σ1 : Mem), (HB σ1 b m (E.take i) ∧ frI b (b + 2) σ σ1) → End (ev sh (d + 3) 8 15 [some (mR (b)), some (mR (o)), some (mI ((i : Nat) : Int)), none] [] σ1) (fun r σ' => r = none ∧ HB σ' b m E ∧ HF σ' b F ∧ frI b (b + 8) σ σ')) (by
    intro σ1  hp
    replace hp : HB σ1 b m (E.take (E.length)) ∧ frI b (b + 2) σ σ1 := hp
    show End (ev sh (d + 3) 8 15 [some (mR (b)), some (mR (o)), some (mI (((E.length) : Nat) : Int)), none] [] σ1) (fun r σ' => r = none ∧ HB σ' b m E ∧ HF σ' b F ∧ frI b (b + 8) σ σ')
    have hn := (hB.fr hp.2 (by omega)).2.1
    rw [e8_15]
    simp (disch := first | assumption | omega | (simp (disch := omega) only [wN, w0, w1]; omega)) only [e8_0, e8_1, e8_2, e8_5, e8_8, e8_9, e8_10, e8_13, e8_14, e8_16, e8_17, e8_20, e8_23, e8_24, e8_25, e8_26, e8_29, e8_30, e8_31, e8_34, e8_37, e8_40, e8_43, e8_44, e8_46, e8_47, e8_50, e8_51, e8_53, e8_54, e8_57, e8_58, e8_61, e8_62, e8_63, e8_64, e8_65, e8_68, e8_69, e8_70, e8_71, e8_72, e8_73, e8_76, e8_79, e8_82, e8_85, kl_I, kl_R, kl_N, kl_L, oSm, oNn, Option.bind_some, wN, if_pos, if_neg, nS, tN, t0, w0, w1, w2, w3, w4, w5, wm1, upA_ne, upA_same, if_true, if_false, hn]
    have h1 := hp.1
    rw [List.take_length] at h1
    exact L3 σ1 none ⟨h1, hp.2.w (by omega) (by omega), fun p hp1 => by omega⟩) (fun i hi ih => by
    replace ih : ∀ (σ1 : Mem), (HB σ1 b m (E.take (i + 1)) ∧ frI b (b + 2) σ σ1) → End (ev sh (d + 3) 8 15 [some (mR (b)), some (mR (o)), some (mI (((i + 1) : Nat) : Int)), none] [] σ1) (fun r σ' => r = none ∧ HB σ' b m E ∧ HF σ' b F ∧ frI b (b + 8) σ σ') := ih
    intro σ1  hp
    replace hp : HB σ1 b m (E.take i) ∧ frI b (b + 2) σ σ1 := hp
    show End (ev sh (d + 3) 8 15 [some (mR (b)), some (mR (o)), some (mI ((i : Nat) : Int)), none] [] σ1) (fun r σ' => r = none ∧ HB σ' b m E ∧ HF σ' b F ∧ frI b (b + 8) σ σ')
    have hB1 := hB.fr hp.2 (by omega)
    have hn := hB1.2.1
    have hl : (E.take i).length = i := by rw [List.length_take]; omega
    have h5 := hv.at hi
    obtain ⟨r, σ2, h1, rfl, h3, h4⟩ := M5 (d := d) (x := (eA E i).1) (y := (eA E i).2) hs hp.1 (by omega) (by omega) (by omega)
    rw [e8_15]
    simp (disch := first | assumption | omega | (simp (disch := omega) only [wN, w0, w1]; omega)) only [e8_0, e8_1, e8_2, e8_5, e8_8, e8_9, e8_10, e8_13, e8_14, e8_16, e8_17, e8_20, e8_23, e8_24, e8_25, e8_26, e8_29, e8_30, e8_31, e8_34, e8_37, e8_40, e8_43, e8_44, e8_46, e8_47, e8_50, e8_51, e8_53, e8_54, e8_57, e8_58, e8_61, e8_62, e8_63, e8_64, e8_65, e8_68, e8_69, e8_70, e8_71, e8_72, e8_73, e8_76, e8_79, e8_82, e8_85, kl_I, kl_R, kl_N, kl_L, oSm, oNn, Option.bind_some, wN, if_pos, if_neg, nS, tN, t0, w0, w1, w2, w3, w4, w5, wm1, upA_ne, upA_same, if_true, if_false, hn, N3 hs2 hB1 hE hi, N4 hs2 hB1 hE hi, h1]
    refine ih σ2 ⟨?_, hp.2.tr h4⟩
    rw [show (min (eA E i).1 (eA E i).2, max (eA E i).1 (eA E i).2) = eA E i by
      rw [Nat.min_eq_left (by omega), Nat.max_eq_right (by omega)], eA_s hi] at h3
    exact h3) 0 (Nat.zero_le _)
  simp (disch := first | assumption | omega | (simp (disch := omega) only [wN, w0, w1]; omega)) only [e8_0, e8_1, e8_2, e8_5, e8_8, e8_9, e8_10, e8_13, e8_14, e8_16, e8_17, e8_20, e8_23, e8_24, e8_25, e8_26, e8_29, e8_30, e8_31, e8_34, e8_37, e8_40, e8_43, e8_44, e8_46, e8_47, e8_50, e8_51, e8_53, e8_54, e8_57, e8_58, e8_61, e8_62, e8_63, e8_64, e8_65, e8_68, e8_69, e8_70, e8_71, e8_72, e8_73, e8_76, e8_79, e8_82, e8_85, kl_I, kl_R, kl_N, kl_L, oSm, oNn, Option.bind_some, wN, if_pos, if_neg, nS, tN, t0, w0, w1, w2, w3, w4, w5, wm1, upA_ne, upA_same, if_true, if_false, q8, hB.1]
  refine L2 _ ⟨⟨?_, ?_, fun j hj => ?_⟩, ⟨fun a ha => ?_, rfl⟩⟩
  · simp (disch := omega) only [upA_same, up1_ne, up1_same, upA_upA]
  · simp (disch := omega) only [upA_same, up1_ne, up1_same, upA_upA]
    simp
  · simp at hj
  · simp (disch := omega) only [upA_ne]
end BDW
/-! measure -/
def fw1 (k i j : Nat) (F : Nat → Nat → Nat) : Nat → Nat → Nat := fun p q => if p = i ∧ q = j then min (F i j) (F i k + F k j) else F p q
def fwJ (k i : Nat) : Nat → (Nat → Nat → Nat) → Nat → Nat → Nat
  | 0, F => F
  | n + 1, F => fw1 k i n (fwJ k i n F)
def fwI (m k : Nat) : Nat → (Nat → Nat → Nat) → Nat → Nat → Nat
  | 0, F => F
  | n + 1, F => fwJ k n m (fwI m k n F)
def fwK (m : Nat) : Nat → (Nat → Nat → Nat) → Nat → Nat → Nat
  | 0, F => F
  | n + 1, F => fwI m n m (fwK m n F)
def f0 (E : List Ed) : Nat → Nat → Nat := fun p q => if p = q then 0 else if njB E p q E.length 0 = true then 99 else 1
/-- how far from place to place -/
def farE (E : List Ed) : Nat → Nat → Nat := fwK 5 5 (f0 E)
section BDM
variable {sh : Shp} {d b m : Nat} {σ : Mem} {E : List Ed} {F : Nat → Nat → Nat} {k i j : Nat} {v : Int} {G : Nat → Nat → Nat}
theorem HF.set (h : HF σ b F) (hi : i < 5) (hj : j < 5) (hv : v = (G i j : Int)) (hG : G i j ≤ 99) (hO : ∀ p q, ¬(p = i ∧ q = j) → G p q = F p q) : HF (upA σ.1 (b + 4 + i) (up1 (σ.1 (b + 4 + i)) j v), σ.2) b G := by
  intro p hp q hq
  by_cases e : p = i ∧ q = j
  · obtain ⟨rfl, rfl⟩ := e
    refine ⟨?_, hG⟩
    show upA _ _ _ _ _ = _
    rw [upA_same, up1_same, hv]
  · rw [hO p q e]
    refine ⟨?_, (h p hp q hq).2⟩
    show upA _ _ _ _ _ = _
    by_cases e1 : p = i
    · subst e1
      rw [upA_same, up1_ne (fun e2 => e ⟨rfl, e2⟩)]
      exact (h p hp q hq).1
    · rw [upA_ne (by omega)]
      exact (h p hp q hq).1
theorem M8w {o : Nat} (hs : bdS sh b) (hs2 : bdS sh o) (hap : o + 8 < b ∨ b + 8 < o) (hB : HB σ o m E) (hF : HW σ o m F) (hE : E.length ≤ 10) (hm : m ≤ 5) (hv : okE m E) : End (run sh (d + 3) 8 [mR b, mR o] σ) (fun r σ' => r = none ∧ HB σ' b m E ∧ HW σ' b m F ∧ frI b (b + 8) σ σ') := by
  obtain ⟨G, h1, h2⟩ := hF
  obtain ⟨r, σ1, e1, e2, e3, e4, e5⟩ := M8 (d := d) hs hs2 hap hB h1 hE hm hv
  exact ⟨r, σ1, e1, e2, e3, ⟨G, e4, h2⟩, e5⟩
end BDM
