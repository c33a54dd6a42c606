/-! ===== Finder: what failed ===== -/
/-- a finder at f: its course at f + 1, what failed at f + 22 -/
def fnS (sh : Shp) (f : Nat) : Prop := ob sh 3 2 f ∧ srf sh f 0 = f + 1 ∧ srf sh f 1 = f + 22 ∧ crS sh (f + 1) ∧ skd sh (f + 22) = 3 ∧ sln sh (f + 22) = 2048 ∧ f + 22 < sh.1
def cdP (n : Nat) (P : Nat → Nat) (u : Nat → Int) : Nat := cdS (fun x => if x < n then (P x : Int) else u x) 4
theorem cdS_cg {f g : Nat → Int} : ∀ i, (∀ x, x < i → f x = g x) → cdS f i = cdS g i
  | 0, _ => rfl
  | i + 1, h => by rw [cdS, cdS, cdS_cg i (fun x hx => h x (by omega)), h i (by omega)]
theorem cdP_lt (n : Nat) (P : Nat → Nat) (u : Nat → Int) : cdP n P u < 4096 := cdS_lt _ 4
theorem cdP_inj {n m : Nat} {P P' : Nat → Nat} {u : Nat → Int} (hn : n ≤ 4) (hm : m ≤ 5) (hP : okP n m P) (hP' : okP n m P') (h : cdP n P u = cdP n P' u) : ∀ x, x < n → P x = P' x := by
  intro x hx
  have e := cdS_inj 4 h x (by omega)
  simp only [hx, if_true] at e
  have h1 := hP.1 x hx
  have h2 := hP'.1 x hx
  rw [c7_n (by omega), c7_n (by omega)] at e
  exact e
/-- all that is written there failed -/
def tbO (τ : Nat → Int) (n m : Nat) (c : List Gt) (E : List Ed) (A : Nat → Nat) (u : Nat → Int) : Prop := ∀ i, i < 2048 → τ i = 0 ∨ ∃ (P' : Nat → Nat) (D' l' : Nat), okP n m P' ∧ D' < 1073741824 ∧ l' ≤ 6 ∧ τ i = (((cdP n P' u * 1073741824 + D') * 8 + l' : Nat) : Int) ∧ caB (farE E) c E A l' P' D' = false
theorem lcmp_lt {x y : Int} (hx : -4611686018427387904 ≤ x ∧ x ≤ 4611686018427387904) (hy : -4611686018427387904 ≤ y ∧ y ≤ 4611686018427387904) : wi (lcmp' x y) < 0 ↔ x < y := by
  have e1 : wl x = x := wl_id (by omega) (by omega)
  have e2 : wl y = y := wl_id (by omega) (by omega)
  unfold lcmp'
  rw [e1, e2]
  by_cases h : x < y
  · rw [if_pos h]; exact ⟨fun _ => h, fun _ => by decide⟩
  · rw [if_neg h]
    constructor
    · intro z
      exfalso
      split at z <;> exact absurd z (by decide)
    · intro z; exact absurd z h
theorem lcmp_gt {x y : Int} (hx : -4611686018427387904 ≤ x ∧ x ≤ 4611686018427387904) (hy : -4611686018427387904 ≤ y ∧ y ≤ 4611686018427387904) : 0 < wi (lcmp' x y) ↔ y < x := by
  have e1 : wl x = x := wl_id (by omega) (by omega)
  have e2 : wl y = y := wl_id (by omega) (by omega)
  unfold lcmp'
  rw [e1, e2]
  by_cases h : x < y
  · rw [if_pos h]; exact ⟨fun z => absurd z (by decide), fun z => by omega⟩
  · rw [if_neg h]
    by_cases h2 : x = y
    · rw [if_pos h2]; exact ⟨fun z => absurd z (by decide), fun z => by omega⟩
    · rw [if_neg h2]; exact ⟨fun _ => by omega, fun _ => by decide⟩
section FND
variable {sh : Shp} {d f n m l D : Nat} {σ : Mem} {c : List Gt} {E : List Ed} {A P : Nat → Nat} {u : Nat → Int}
theorem V40 (hs : fnS sh f) (hM : HKm σ (f + 1) n P D) (hn : n ≤ 4) (hu : ∀ x, n ≤ x → σ.1 (f + 19) x = u x) (hD : D < 1073741824) : run sh (d + 2) 40 [mR f] σ = some (some (mL ((cdP n P u * 1073741824 + D : Nat) : Int)), σ) := by
  obtain ⟨ho, r0, r1, hcr, k1, l1, hw⟩ := id hs
  obtain ⟨hco, c0, c1, c2, c3, hcg, hcB, hcL, ck, cl, cw⟩ := id hcr
  have hlo := hcL.1
  have hd := hM.2
  have e84 := Y84 (d := d) (σ := σ) hcL
  have ec : cdS (σ.1 (f + 1 + 17 + 1)) 4 = cdP n P u := by
    refine cdS_cg 4 (fun x hx => ?_)
    by_cases h : x < n
    · rw [if_pos h]; exact hM.1.1 x h
    · rw [if_neg h]; exact hu x (by omega)
  rw [ec] at e84
  have hc := cdP_lt n P u
  have w1 : wi (cdP n P u : Int) = (cdP n P u : Int) := wN (by omega)
  have w2 : wi (D : Int) = (D : Int) := wN (by omega)
  have x1 := lshl_30 hc
  have x2 := lor_nn (a := cdP n P u * 1073741824) (b := D) (by omega) (by omega)
  rw [show cdP n P u * 1073741824 ||| D = cdP n P u * 1073741824 + D from or_add 30 hD] at x2
  simp (disch := first | assumption | omega | (simp (disch := omega) only [wN, w0, w1]; omega)) only [e40_0, e40_1, e40_4, e40_7, e40_10, e40_11, e40_13, e40_14, e40_15, e40_18, e40_21, e40_22, e40_23, kl_I, kl_R, kl_N, kl_L, oSm, oNn, Option.bind_some, wN, if_pos, if_neg, nS, tN, t0, w0, w1, w2, w3, w4, w5, wm1, upA_ne, upA_same, if_true, if_false, Bool.false_eq_true, q40, r0, c2, hd, e84, w1, w2, x1, x2]
theorem V41 (z : Int) : run sh (d + 1) 41 [mL z] σ = some (some (mI (lushr' (z * -7046029254386353131) 53)), σ) := by
  simp (disch := first | assumption | omega | (simp (disch := omega) only [wN, w0, w1]; omega)) only [e41_0, e41_1, e41_4, e41_5, e41_7, e41_8, e41_9, kl_I, kl_R, kl_N, kl_L, oSm, oNn, Option.bind_some, wN, if_pos, if_neg, nS, tN, t0, w0, w1, w2, w3, w4, w5, wm1, upA_ne, upA_same, if_true, if_false, Bool.false_eq_true, q41]
theorem V42 (hs : fnS sh f) (hM : HKm σ (f + 1) n P D) (hk : okK n m c E) (hP : okP n m P) (hu : ∀ x, n ≤ x → σ.1 (f + 19) x = u x) (hD : D < 1073741824) (hT : tbO (σ.2 (f + 22)) n m c E A u) (hl : 1 ≤ l) (hl6 : l ≤ 6) : ∃ b : Bool, run sh (d + 3) 42 [mR f, mI (l : Int)] σ = some (some (mI (bi b)), σ) ∧ (b = true → caB (farE E) c E A l P D = false) := by
  obtain ⟨ho, r0, r1, hcr, k1, l1, hw⟩ := id hs
  obtain ⟨hn, hm, hE, h30, hv, hvE⟩ := id hk
  have e40 := V40 (d := d) hs hM hn hu hD
  have hc := cdP_lt n P u
  have w2048 : wi ((2048 : Nat) : Int) = 2048 := rfl
  generalize hkey : cdP n P u * 1073741824 + D = key at e40
  have hkb : key < 4398046511104 := by omega
  have e41 := V41 (sh := sh) (d := d + 1) (σ := σ) (key : Int)
  generalize lushr' ((key : Int) * -7046029254386353131) 53 = z at e41
  by_cases hz0 : wi z < 0
  · refine ⟨false, ?_, fun h => by cases h⟩
    simp (disch := first | assumption | omega | (simp (disch := omega) only [wN, w0, w1]; omega)) only [e42_0, e42_1, e42_4, e42_5, e42_6, e42_9, e42_11, e42_13, e42_16, e42_18, e42_19, e42_22, e42_23, e42_26, e42_27, e42_28, e42_29, e42_32, e42_34, e42_35, e42_36, e42_37, e42_38, e42_39, e42_42, e42_43, e42_46, e42_48, e42_49, e42_52, e42_53, e42_54, e42_55, e42_56, e42_59, e42_60, e42_63, e42_64, kl_I, kl_R, kl_N, kl_L, oSm, oNn, Option.bind_some, wN, if_pos, if_neg, nS, tN, t0, w0, w1, w2, w3, w4, w5, wm1, upA_ne, upA_same, if_true, if_false, Bool.false_eq_true, q42, e40, e41]
    rfl
  · by_cases hz1 : wi z < 2048
    · have hwl : wi (l : Int) = (l : Int) := wN (by omega)
      rcases hT (wi z).toNat (by omega) with h0 | ⟨P', D', l', hP', hD', hl', hv', hf'⟩
      · refine ⟨false, ?_, fun h => by cases h⟩
        have x1 : lushr' 0 3 = 0 := by decide +kernel
        have x2 : land' 0 7 = 0 := by decide +kernel
        have x3 := lcmp_lt (x := 0) (y := (l : Int)) (by omega) (by omega)
        have x4 : wi (lcmp' 0 (l : Int)) < 0 := x3.mpr (by omega)
        by_cases hk0 : wi (lcmp' 0 (key : Int)) = 0
        · simp (disch := first | assumption | omega | (simp (disch := omega) only [wN, w0, w1]; omega)) only [e42_0, e42_1, e42_4, e42_5, e42_6, e42_9, e42_11, e42_13, e42_16, e42_18, e42_19, e42_22, e42_23, e42_26, e42_27, e42_28, e42_29, e42_32, e42_34, e42_35, e42_36, e42_37, e42_38, e42_39, e42_42, e42_43, e42_46, e42_48, e42_49, e42_52, e42_53, e42_54, e42_55, e42_56, e42_59, e42_60, e42_63, e42_64, kl_I, kl_R, kl_N, kl_L, oSm, oNn, Option.bind_some, wN, if_pos, if_neg, nS, tN, t0, w0, w1, w2, w3, w4, w5, wm1, upA_ne, upA_same, if_true, if_false, Bool.false_eq_true, q42, e40, e41, r1, l1, w2048, h0, x1, x2, hwl]
          rfl
        · simp (disch := first | assumption | omega | (simp (disch := omega) only [wN, w0, w1]; omega)) only [e42_0, e42_1, e42_4, e42_5, e42_6, e42_9, e42_11, e42_13, e42_16, e42_18, e42_19, e42_22, e42_23, e42_26, e42_27, e42_28, e42_29, e42_32, e42_34, e42_35, e42_36, e42_37, e42_38, e42_39, e42_42, e42_43, e42_46, e42_48, e42_49, e42_52, e42_53, e42_54, e42_55, e42_56, e42_59, e42_60, e42_63, e42_64, kl_I, kl_R, kl_N, kl_L, oSm, oNn, Option.bind_some, wN, if_pos, if_neg, nS, tN, t0, w0, w1, w2, w3, w4, w5, wm1, upA_ne, upA_same, if_true, if_false, Bool.false_eq_true, q42, e40, e41, r1, l1, w2048, h0, x1, x2, hwl]
          rfl
      · have hc' := cdP_lt n P' u
        generalize hkey' : cdP n P' u * 1073741824 + D' = key' at hv'
        have x1 := lushr_nn (a := key' * 8 + l') (by omega)
        have x2 := land_7 (a := key' * 8 + l') (by omega)
        rw [show (key' * 8 + l') / 8 = key' by omega] at x1
        rw [show (key' * 8 + l') % 8 = l' by omega] at x2
        have y1 := lcmp_w (x := (key' : Int)) (y := (key : Int)) (by omega) (by omega)
        have y2 := lcmp_lt (x := (l' : Int)) (y := (l : Int)) (by omega) (by omega)
        by_cases g1 : key' = key
        · have g1' := y1.mpr (by omega)
          by_cases g2 : l' < l
          · have g2' := y2.mpr (by omega)
            refine ⟨false, ?_, fun h => by cases h⟩
            simp (disch := first | assumption | omega | (simp (disch := omega) only [wN, w0, w1]; omega)) only [e42_0, e42_1, e42_4, e42_5, e42_6, e42_9, e42_11, e42_13, e42_16, e42_18, e42_19, e42_22, e42_23, e42_26, e42_27, e42_28, e42_29, e42_32, e42_34, e42_35, e42_36, e42_37, e42_38, e42_39, e42_42, e42_43, e42_46, e42_48, e42_49, e42_52, e42_53, e42_54, e42_55, e42_56, e42_59, e42_60, e42_63, e42_64, kl_I, kl_R, kl_N, kl_L, oSm, oNn, Option.bind_some, wN, if_pos, if_neg, nS, tN, t0, w0, w1, w2, w3, w4, w5, wm1, upA_ne, upA_same, if_true, if_false, Bool.false_eq_true, q42, e40, e41, r1, l1, w2048, hv', x1, x2, hwl]
            rfl
          · have g2' : ¬ wi (lcmp' (l' : Int) (l : Int)) < 0 := fun h => g2 (by have := y2.mp h; omega)
            refine ⟨true, ?_, fun _ => ?_⟩
            · simp (disch := first | assumption | omega | (simp (disch := omega) only [wN, w0, w1]; omega)) only [e42_0, e42_1, e42_4, e42_5, e42_6, e42_9, e42_11, e42_13, e42_16, e42_18, e42_19, e42_22, e42_23, e42_26, e42_27, e42_28, e42_29, e42_32, e42_34, e42_35, e42_36, e42_37, e42_38, e42_39, e42_42, e42_43, e42_46, e42_48, e42_49, e42_52, e42_53, e42_54, e42_55, e42_56, e42_59, e42_60, e42_63, e42_64, kl_I, kl_R, kl_N, kl_L, oSm, oNn, Option.bind_some, wN, if_pos, if_neg, nS, tN, t0, w0, w1, w2, w3, w4, w5, wm1, upA_ne, upA_same, if_true, if_false, Bool.false_eq_true, q42, e40, e41, r1, l1, w2048, hv', x1, x2, hwl]
              rfl
            · have eD : D' = D := by omega
              have eP : cdP n P' u = cdP n P u := by omega
              have hcg := cdP_inj hn hm hP' hP eP
              cases hcb : caB (farE E) c E A l P D with
              | false => rfl
              | true =>
                have h1 := caB_le (show l ≤ l' by omega) hcb
                rw [← caB_cg hv l' P' P D hcg, ← eD, hf'] at h1
                cases h1
        · have g1' : ¬ wi (lcmp' (key' : Int) (key : Int)) = 0 := fun h => g1 (by have := y1.mp h; omega)
          refine ⟨false, ?_, fun h => by cases h⟩
          simp (disch := first | assumption | omega | (simp (disch := omega) only [wN, w0, w1]; omega)) only [e42_0, e42_1, e42_4, e42_5, e42_6, e42_9, e42_11, e42_13, e42_16, e42_18, e42_19, e42_22, e42_23, e42_26, e42_27, e42_28, e42_29, e42_32, e42_34, e42_35, e42_36, e42_37, e42_38, e42_39, e42_42, e42_43, e42_46, e42_48, e42_49, e42_52, e42_53, e42_54, e42_55, e42_56, e42_59, e42_60, e42_63, e42_64, kl_I, kl_R, kl_N, kl_L, oSm, oNn, Option.bind_some, wN, if_pos, if_neg, nS, tN, t0, w0, w1, w2, w3, w4, w5, wm1, upA_ne, upA_same, if_true, if_false, Bool.false_eq_true, q42, e40, e41, r1, l1, w2048, hv', x1, x2, hwl]
          rfl
    · refine ⟨false, ?_, fun h => by cases h⟩
      simp (disch := first | assumption | omega | (simp (disch := omega) only [wN, w0, w1]; omega)) only [e42_0, e42_1, e42_4, e42_5, e42_6, e42_9, e42_11, e42_13, e42_16, e42_18, e42_19, e42_22, e42_23, e42_26, e42_27, e42_28, e42_29, e42_32, e42_34, e42_35, e42_36, e42_37, e42_38, e42_39, e42_42, e42_43, e42_46, e42_48, e42_49, e42_52, e42_53, e42_54, e42_55, e42_56, e42_59, e42_60, e42_63, e42_64, kl_I, kl_R, kl_N, kl_L, oSm, oNn, Option.bind_some, wN, if_pos, if_neg, nS, tN, t0, w0, w1, w2, w3, w4, w5, wm1, upA_ne, upA_same, if_true, if_false, Bool.false_eq_true, q42, e40, e41, r1, l1, w2048]
      rfl
theorem V43 (hs : fnS sh f) (hM : HKm σ (f + 1) n P D) (hk : okK n m c E) (hP : okP n m P) (hu : ∀ x, n ≤ x → σ.1 (f + 19) x = u x) (hD : D < 1073741824) (hT : tbO (σ.2 (f + 22)) n m c E A u) (hl : 1 ≤ l) (hl6 : l ≤ 6) (hf : caB (farE E) c E A l P D = false) : End (run sh (d + 3) 43 [mR f, mI (l : Int)] σ) (fun r σ' => r = none ∧ tbO (σ'.2 (f + 22)) n m c E A u ∧ frL (f + 22) σ σ') := by
  obtain ⟨ho, r0, r1, hcr, k1, l1, hw⟩ := id hs
  obtain ⟨hn, hm, hE, h30, hv, hvE⟩ := id hk
  have e40 := V40 (d := d) hs hM hn hu hD
  have hc := cdP_lt n P u
  have w2048 : wi ((2048 : Nat) : Int) = 2048 := rfl
  have e41 := V41 (sh := sh) (d := d + 1) (σ := σ) ((cdP n P u * 1073741824 + D : Nat) : Int)
  generalize lushr' (((cdP n P u * 1073741824 + D : Nat) : Int) * -7046029254386353131) 53 = z at e41
  have hwl : wi (l : Int) = (l : Int) := wN (by omega)
  have x1 := lshl_3 (a := cdP n P u * 1073741824 + D) (by omega)
  have x2 := lor_nn (a := (cdP n P u * 1073741824 + D) * 8) (b := l) (by omega) (by omega)
  rw [show (cdP n P u * 1073741824 + D) * 8 ||| l = (cdP n P u * 1073741824 + D) * 8 + l from or_add 3 (by omega)] at x2
  by_cases hz0 : wi z < 0
  · simp (disch := first | assumption | omega | (simp (disch := omega) only [wN, w0, w1]; omega)) only [e43_0, e43_1, e43_4, e43_5, e43_6, e43_9, e43_11, e43_13, e43_16, e43_18, e43_19, e43_22, e43_23, e43_26, e43_27, e43_28, e43_31, e43_33, e43_34, e43_37, e43_38, e43_39, e43_40, e43_41, e43_44, e43_45, e43_48, e43_50, e43_51, e43_52, e43_53, e43_54, e43_55, e43_56, e43_57, kl_I, kl_R, kl_N, kl_L, oSm, oNn, Option.bind_some, wN, if_pos, if_neg, nS, tN, t0, w0, w1, w2, w3, w4, w5, wm1, upA_ne, upA_same, if_true, if_false, Bool.false_eq_true, q43, e40, e41]
    exact End.of rfl ⟨rfl, hT, frL.rf⟩
  · by_cases hz1 : wi z < 2048
    · by_cases hg : 0 < wi (lcmp' (land' (σ.2 (f + 22) (wi z).toNat) 7) (l : Int))
      · simp (disch := first | assumption | omega | (simp (disch := omega) only [wN, w0, w1]; omega)) only [e43_0, e43_1, e43_4, e43_5, e43_6, e43_9, e43_11, e43_13, e43_16, e43_18, e43_19, e43_22, e43_23, e43_26, e43_27, e43_28, e43_31, e43_33, e43_34, e43_37, e43_38, e43_39, e43_40, e43_41, e43_44, e43_45, e43_48, e43_50, e43_51, e43_52, e43_53, e43_54, e43_55, e43_56, e43_57, kl_I, kl_R, kl_N, kl_L, oSm, oNn, Option.bind_some, wN, if_pos, if_neg, nS, tN, t0, w0, w1, w2, w3, w4, w5, wm1, upA_ne, upA_same, if_true, if_false, Bool.false_eq_true, q43, e40, e41, r1, l1, w2048, hwl]
        exact End.of rfl ⟨rfl, hT, frL.rf⟩
      · simp (disch := first | assumption | omega | (simp (disch := omega) only [wN, w0, w1]; omega)) only [e43_0, e43_1, e43_4, e43_5, e43_6, e43_9, e43_11, e43_13, e43_16, e43_18, e43_19, e43_22, e43_23, e43_26, e43_27, e43_28, e43_31, e43_33, e43_34, e43_37, e43_38, e43_39, e43_40, e43_41, e43_44, e43_45, e43_48, e43_50, e43_51, e43_52, e43_53, e43_54, e43_55, e43_56, e43_57, kl_I, kl_R, kl_N, kl_L, oSm, oNn, Option.bind_some, wN, if_pos, if_neg, nS, tN, t0, w0, w1, w2, w3, w4, w5, wm1, upA_ne, upA_same, if_true, if_false, Bool.false_eq_true, q43, e40, e41, r1, l1, w2048, hwl, x1, x2]
        refine End.of rfl ⟨rfl, fun i hi => ?_, frL.up⟩
        simp only [upA_same]
        by_cases e : i = (wi z).toNat
        · subst e
          simp only [up1_same]
          exact Or.inr ⟨P, D, l, hP, hD, hl6, rfl, hf⟩
        · simp only [up1_ne e]; exact hT i hi
    · simp (disch := first | assumption | omega | (simp (disch := omega) only [wN, w0, w1]; omega)) only [e43_0, e43_1, e43_4, e43_5, e43_6, e43_9, e43_11, e43_13, e43_16, e43_18, e43_19, e43_22, e43_23, e43_26, e43_27, e43_28, e43_31, e43_33, e43_34, e43_37, e43_38, e43_39, e43_40, e43_41, e43_44, e43_45, e43_48, e43_50, e43_51, e43_52, e43_53, e43_54, e43_55, e43_56, e43_57, kl_I, kl_R, kl_N, kl_L, oSm, oNn, Option.bind_some, wN, if_pos, if_neg, nS, tN, t0, w0, w1, w2, w3, w4, w5, wm1, upA_ne, upA_same, if_true, if_false, Bool.false_eq_true, q43, e40, e41, r1, l1, w2048]
      exact End.of rfl ⟨rfl, hT, frL.rf⟩
end FND

