/-! ===== Board: reads ===== -/
/-- a board at b -/
def bdS (sh : Shp) (b : Nat) : Prop := ob sh 0 5 b ∧ srf sh b 2 = b + 1 ∧ srf sh b 3 = b + 2 ∧ srf sh b 4 = b + 3 ∧ skd sh (b + 1) = 0 ∧ skd sh (b + 2) = 0 ∧ skd sh (b + 3) = 4 ∧ sln sh (b + 1) = 10 ∧ sln sh (b + 2) = 10 ∧ sln sh (b + 3) = 5 ∧ b + 8 < sh.1 ∧ ∀ p, p < 5 → srf sh (b + 3) p = b + 4 + p ∧ skd sh (b + 4 + p) = 0 ∧ sln sh (b + 4 + p) = 5
abbrev Ed : Type := Nat × Nat
def eA (E : List Ed) (j : Nat) : Ed := E.getD j (0, 0)
/-- edges of a board of m places: the lower place first -/
def okE (m : Nat) (E : List Ed) : Prop := ∀ q, q ∈ E → q.1 < q.2 ∧ q.2 < m
theorem okE.at {m : Nat} {E : List Ed} (h : okE m E) {j : Nat} (hj : j < E.length) : (eA E j).1 < (eA E j).2 ∧ (eA E j).2 < m := by
  have e : eA E j = E[j] := by simp [eA, hj]
  rw [e]
  exact h _ (List.getElem_mem hj)
def HB (σ : Mem) (b m : Nat) (E : List Ed) : Prop := σ.1 b 0 = (m : Int) ∧ σ.1 b 1 = (E.length : Int) ∧ ∀ j, j < E.length → σ.1 (b + 1) j = ((eA E j).1 : Int) ∧ σ.1 (b + 2) j = ((eA E j).2 : Int)
def HF (σ : Mem) (b : Nat) (F : Nat → Nat → Nat) : Prop := ∀ p, p < 5 → ∀ q, q < 5 → σ.1 (b + 4 + p) q = (F p q : Int) ∧ F p q ≤ 99
/-- the same of the places below m alone: what a board holds that was never measured -/
def HW (σ : Mem) (b m : Nat) (F : Nat → Nat → Nat) : Prop := ∃ G, HF σ b G ∧ ∀ p, p < m → ∀ q, q < m → G p q = F p q
theorem HF.W {σ : Mem} {b m : Nat} {F : Nat → Nat → Nat} (h : HF σ b F) : HW σ b m F := ⟨F, h, fun _ _ _ _ => rfl⟩
theorem HW.le {σ : Mem} {b m p q : Nat} {F : Nat → Nat → Nat} (h : HW σ b m F) (hm : m ≤ 5) (hp : p < m) (hq : q < m) : F p q ≤ 99 := by
  obtain ⟨G, h1, h2⟩ := h
  rw [← h2 p hp q hq]
  exact (h1 p (by omega) q (by omega)).2
section BDR
variable {sh : Shp} {d b m : Nat} {σ : Mem} {E : List Ed} {z w : Int} {j p q : Nat} {F : Nat → Nat → Nat}
theorem M1 (hs : bdS sh b) (hB : HB σ b m E) (hm : m ≤ 5) : run sh (d + 1) 1 [mR b, mI z] σ = some (some (mI (if 0 ≤ wi z ∧ wi z < m then 1 else 0)), σ) := by
  obtain ⟨ho, r2, r3, r4, k1, k2, k3, l1, l2, l3, hw, hf⟩ := id hs
  simp (disch := first | assumption | omega | (simp (disch := omega) only [wN, w0, w1]; omega)) only [e1_0, e1_1, e1_4, e1_5, e1_6, e1_9, e1_12, e1_13, e1_16, e1_17, kl_I, kl_R, kl_N, kl_L, oSm, oNn, Option.bind_some, wN, if_pos, if_neg, nS, tN, t0, w0, w1, w2, w3, w4, w5, wm1, upA_ne, upA_same, if_true, if_false, q1, hB.1]
  repeat' split
  all_goals first | rfl | omega
theorem M2 (hs : bdS sh b) (hB : HB σ b m E) (hE : E.length ≤ 10) : run sh (d + 1) 2 [mR b, mI z] σ = some (some (mI (if 0 ≤ wi z ∧ wi z < E.length then 1 else 0)), σ) := by
  obtain ⟨ho, r2, r3, r4, k1, k2, k3, l1, l2, l3, hw, hf⟩ := id hs
  simp (disch := first | assumption | omega | (simp (disch := omega) only [wN, w0, w1]; omega)) only [e2_0, e2_1, e2_4, e2_5, e2_6, e2_9, e2_12, e2_13, e2_16, e2_17, kl_I, kl_R, kl_N, kl_L, oSm, oNn, Option.bind_some, wN, if_pos, if_neg, nS, tN, t0, w0, w1, w2, w3, w4, w5, wm1, upA_ne, upA_same, if_true, if_false, Bool.false_eq_true, q2, hB.2.1]
  repeat' split
  all_goals first | rfl | omega
theorem M3 (hs : bdS sh b) (hB : HB σ b m E) (hE : E.length ≤ 10) : run sh (d + 2) 3 [mR b, mI z] σ = some (some (mI (if 0 ≤ wi z ∧ wi z < E.length then (eA E (wi z).toNat).1 else -1)), σ) := by
  obtain ⟨ho, r2, r3, r4, k1, k2, k3, l1, l2, l3, hw, hf⟩ := id hs
  by_cases h : 0 ≤ wi z ∧ wi z < E.length
  · have := (hB.2.2 (wi z).toNat (by omega)).1
    simp (disch := first | assumption | omega | (simp (disch := omega) only [wN, w0, w1]; omega)) only [e3_0, e3_1, e3_2, e3_5, e3_8, e3_9, e3_12, e3_13, e3_16, e3_19, e3_20, kl_I, kl_R, kl_N, kl_L, oSm, oNn, Option.bind_some, wN, if_pos, if_neg, nS, tN, t0, w0, w1, w2, w3, w4, w5, wm1, upA_ne, upA_same, if_true, if_false, Bool.false_eq_true, q3, M2 hs hB hE, r2, K93 k1 l1 (by omega), this]
  · simp (disch := first | assumption | omega | (simp (disch := omega) only [wN, w0, w1]; omega)) only [e3_0, e3_1, e3_2, e3_5, e3_8, e3_9, e3_12, e3_13, e3_16, e3_19, e3_20, kl_I, kl_R, kl_N, kl_L, oSm, oNn, Option.bind_some, wN, if_pos, if_neg, nS, tN, t0, w0, w1, w2, w3, w4, w5, wm1, upA_ne, upA_same, if_true, if_false, Bool.false_eq_true, q3, M2 hs hB hE, r2]
theorem M4 (hs : bdS sh b) (hB : HB σ b m E) (hE : E.length ≤ 10) : run sh (d + 2) 4 [mR b, mI z] σ = some (some (mI (if 0 ≤ wi z ∧ wi z < E.length then (eA E (wi z).toNat).2 else -1)), σ) := by
  obtain ⟨ho, r2, r3, r4, k1, k2, k3, l1, l2, l3, hw, hf⟩ := id hs
  by_cases h : 0 ≤ wi z ∧ wi z < E.length
  · have := (hB.2.2 (wi z).toNat (by omega)).2
    simp (disch := first | assumption | omega | (simp (disch := omega) only [wN, w0, w1]; omega)) only [e4_0, e4_1, e4_2, e4_5, e4_8, e4_9, e4_12, e4_13, e4_16, e4_19, e4_20, kl_I, kl_R, kl_N, kl_L, oSm, oNn, Option.bind_some, wN, if_pos, if_neg, nS, tN, t0, w0, w1, w2, w3, w4, w5, wm1, upA_ne, upA_same, if_true, if_false, Bool.false_eq_true, q4, M2 hs hB hE, r3, K93 k2 l2 (by omega), this]
  · simp (disch := first | assumption | omega | (simp (disch := omega) only [wN, w0, w1]; omega)) only [e4_0, e4_1, e4_2, e4_5, e4_8, e4_9, e4_12, e4_13, e4_16, e4_19, e4_20, kl_I, kl_R, kl_N, kl_L, oSm, oNn, Option.bind_some, wN, if_pos, if_neg, nS, tN, t0, w0, w1, w2, w3, w4, w5, wm1, upA_ne, upA_same, if_true, if_false, Bool.false_eq_true, q4, M2 hs hB hE, r3]
theorem N3 (hs : bdS sh b) (hB : HB σ b m E) (hE : E.length ≤ 10) (hj : j < E.length) : run sh (d + 2) 3 [mR b, mI (j : Int)] σ = some (some (mI ((eA E j).1 : Int)), σ) := by
  rw [M3 hs hB hE, wN (by omega), if_pos (by omega), tN]
theorem N4 (hs : bdS sh b) (hB : HB σ b m E) (hE : E.length ≤ 10) (hj : j < E.length) : run sh (d + 2) 4 [mR b, mI (j : Int)] σ = some (some (mI ((eA E j).2 : Int)), σ) := by
  rw [M4 hs hB hE, wN (by omega), if_pos (by omega), tN]
theorem M10 (hs : bdS sh b) (hB : HB σ b m E) (hF : HF σ b F) (hm : m ≤ 5) : run sh (d + 1) 10 [mR b, mI z, mI w] σ = some (some (mI (if (0 ≤ wi z ∧ wi z < m) ∧ 0 ≤ wi w ∧ wi w < m then (F (wi z).toNat (wi w).toNat : Int) else 99)), σ) := by
  obtain ⟨ho, r2, r3, r4, k1, k2, k3, l1, l2, l3, hw, hf⟩ := id hs
  by_cases h : (0 ≤ wi z ∧ wi z < m) ∧ 0 ≤ wi w ∧ wi w < m
  · obtain ⟨f1, f2, f3⟩ := hf (wi z).toNat (by omega)
    have := (hF (wi z).toNat (by omega) (wi w).toNat (by omega)).1
    simp (disch := first | assumption | omega | (simp (disch := omega) only [wN, w0, w1]; omega)) only [e10_0, e10_1, e10_4, e10_5, e10_8, e10_9, e10_10, e10_13, e10_16, e10_17, e10_18, e10_21, e10_24, e10_25, e10_28, e10_29, e10_30, e10_31, e10_34, e10_35, e10_36, e10_39, e10_40, e10_41, e10_44, e10_45, e10_48, e10_49, e10_50, e10_51, e10_52, e10_55, e10_57, kl_I, kl_R, kl_N, kl_L, oSm, oNn, Option.bind_some, wN, if_pos, if_neg, nS, tN, t0, w0, w1, w2, w3, w4, w5, wm1, upA_ne, upA_same, if_true, if_false, q10, hB.1, r4, l3, f1, f3, this]
  · rw [if_neg h]
    by_cases h1 : wi z < 0
    · simp (disch := first | assumption | omega | (simp (disch := omega) only [wN, w0, w1]; omega)) only [e10_0, e10_1, e10_4, e10_5, e10_8, e10_9, e10_10, e10_13, e10_16, e10_17, e10_18, e10_21, e10_24, e10_25, e10_28, e10_29, e10_30, e10_31, e10_34, e10_35, e10_36, e10_39, e10_40, e10_41, e10_44, e10_45, e10_48, e10_49, e10_50, e10_51, e10_52, e10_55, e10_57, kl_I, kl_R, kl_N, kl_L, oSm, oNn, Option.bind_some, wN, if_pos, if_neg, nS, tN, t0, w0, w1, w2, w3, w4, w5, wm1, upA_ne, upA_same, if_true, if_false, q10, hB.1]
    · by_cases h2 : wi w < 0
      · simp (disch := first | assumption | omega | (simp (disch := omega) only [wN, w0, w1]; omega)) only [e10_0, e10_1, e10_4, e10_5, e10_8, e10_9, e10_10, e10_13, e10_16, e10_17, e10_18, e10_21, e10_24, e10_25, e10_28, e10_29, e10_30, e10_31, e10_34, e10_35, e10_36, e10_39, e10_40, e10_41, e10_44, e10_45, e10_48, e10_49, e10_50, e10_51, e10_52, e10_55, e10_57, kl_I, kl_R, kl_N, kl_L, oSm, oNn, Option.bind_some, wN, if_pos, if_neg, nS, tN, t0, w0, w1, w2, w3, w4, w5, wm1, upA_ne, upA_same, if_true, if_false, q10, hB.1]
      · by_cases h3 : wi z < m
        · simp (disch := first | assumption | omega | (simp (disch := omega) only [wN, w0, w1]; omega)) only [e10_0, e10_1, e10_4, e10_5, e10_8, e10_9, e10_10, e10_13, e10_16, e10_17, e10_18, e10_21, e10_24, e10_25, e10_28, e10_29, e10_30, e10_31, e10_34, e10_35, e10_36, e10_39, e10_40, e10_41, e10_44, e10_45, e10_48, e10_49, e10_50, e10_51, e10_52, e10_55, e10_57, kl_I, kl_R, kl_N, kl_L, oSm, oNn, Option.bind_some, wN, if_pos, if_neg, nS, tN, t0, w0, w1, w2, w3, w4, w5, wm1, upA_ne, upA_same, if_true, if_false, q10, hB.1]
        · simp (disch := first | assumption | omega | (simp (disch := omega) only [wN, w0, w1]; omega)) only [e10_0, e10_1, e10_4, e10_5, e10_8, e10_9, e10_10, e10_13, e10_16, e10_17, e10_18, e10_21, e10_24, e10_25, e10_28, e10_29, e10_30, e10_31, e10_34, e10_35, e10_36, e10_39, e10_40, e10_41, e10_44, e10_45, e10_48, e10_49, e10_50, e10_51, e10_52, e10_55, e10_57, kl_I, kl_R, kl_N, kl_L, oSm, oNn, Option.bind_some, wN, if_pos, if_neg, nS, tN, t0, w0, w1, w2, w3, w4, w5, wm1, upA_ne, upA_same, if_true, if_false, q10, hB.1]
theorem N10 (hs : bdS sh b) (hB : HB σ b m E) (hF : HF σ b F) (hm : m ≤ 5) (hp : p < m) (hq : q < m) : run sh (d + 1) 10 [mR b, mI (p : Int), mI (q : Int)] σ = some (some (mI (F p q : Int)), σ) := by
  rw [M10 hs hB hF hm, wN (by omega), wN (by omega), if_pos (by omega), tN, tN]
/-- the greatest of the lower half -/
def grS (F : Nat → Nat → Nat) (m : Nat) : Nat := mxx (fun t => mxx (F t) t) m
def jn1 (E : List Ed) (p q j : Nat) : Bool := decide ((eA E j).1 = min p q ∧ (eA E j).2 = max p q)
/-- no edge from j on, k looked at, joins p and q -/
def njB (E : List Ed) (p q : Nat) : Nat → Nat → Bool := fa (fun t => !(jn1 E p q t))
theorem M6 (hs : bdS sh b) (hB : HB σ b m E) (hE : E.length ≤ 10) (hp : p < 5) (hq : q < 5) (ho5 : okE m E) (hm : m ≤ 5) : run sh (d + 3) 6 [mR b, mI (p : Int), mI (q : Int)] σ = some (some (mI (if njB E p q (E.length - 0) 0 = true then 0 else 1)), σ) := by
  have ho := hs.1
  have hl := hB.2.1
  have F := for_dn (fun i => ev sh (d + 3) 6 2 [some (mR (b)), some (mI ((p : Nat) : Int)), some (mI ((q : Nat) : Int)), some (mI ((i : Nat) : Int))] [] (σ)) (fun i => some (some (mI (if njB E p q (E.length - i) i = true then 0 else 1)), σ)) (E.length) (by
    show ev sh (d + 3) 6 2 [some (mR (b)), some (mI ((p : Nat) : Int)), some (mI ((q : Nat) : Int)), some (mI (((E.length) : Nat) : Int))] [] (σ) = some (some (mI (if njB E p q (E.length - (E.length)) (E.length) = true then 0 else 1)), σ)
    unfold njB
    rw [fa_e, e6_2]
    simp (disch := first | assumption | omega | (simp (disch := omega) only [wN, w0, w1]; omega)) only [e6_0, e6_1, e6_3, e6_4, e6_7, e6_10, e6_11, e6_12, e6_15, e6_16, e6_17, e6_20, e6_23, e6_24, e6_25, e6_28, e6_29, e6_30, e6_33, e6_36, e6_37, e6_38, e6_41, e6_44, e6_45, kl_I, kl_R, kl_N, kl_L, oSm, oNn, Option.bind_some, wN, if_pos, if_neg, nS, tN, t0, w0, w1, w2, w3, w4, w5, wm1, upA_ne, upA_same, if_true, if_false, hl]) (fun i hi ih => by
    replace ih : ev sh (d + 3) 6 2 [some (mR (b)), some (mI ((p : Nat) : Int)), some (mI ((q : Nat) : Int)), some (mI (((i + 1) : Nat) : Int))] [] (σ) = some (some (mI (if njB E p q (E.length - (i + 1)) (i + 1) = true then 0 else 1)), σ) := ih
    show ev sh (d + 3) 6 2 [some (mR (b)), some (mI ((p : Nat) : Int)), some (mI ((q : Nat) : Int)), some (mI ((i : Nat) : Int))] [] (σ) = some (some (mI (if njB E p q (E.length - i) i = true then 0 else 1)), σ)
    have h5 := ho5.at hi
    unfold njB at ih ⊢
    rw [e6_2, fa_s hi]
    simp (disch := first | assumption | omega | (simp (disch := omega) only [wN, w0, w1]; omega)) only [e6_0, e6_1, e6_3, e6_4, e6_7, e6_10, e6_11, e6_12, e6_15, e6_16, e6_17, e6_20, e6_23, e6_24, e6_25, e6_28, e6_29, e6_30, e6_33, e6_36, e6_37, e6_38, e6_41, e6_44, e6_45, kl_I, kl_R, kl_N, kl_L, oSm, oNn, Option.bind_some, wN, if_pos, if_neg, nS, tN, t0, w0, w1, w2, w3, w4, w5, wm1, upA_ne, upA_same, if_true, if_false, hl, N3 hs hB hE hi, N4 hs hB hE hi, mmn_nn, mmx_nn, e01]
    by_cases h1 : (eA E i).1 = min p q
    · by_cases h2 : (eA E i).2 = max p q
      · simp [h1, h2, jn1]
      · rw [if_pos h1, if_neg h2, ih]
        simp [h2, jn1]
    · rw [if_neg h1, ih]
      simp [h1, jn1]) 0 (Nat.zero_le _)
  simp (disch := first | assumption | omega | (simp (disch := omega) only [wN, w0, w1]; omega)) only [e6_0, e6_1, e6_3, e6_4, e6_7, e6_10, e6_11, e6_12, e6_15, e6_16, e6_17, e6_20, e6_23, e6_24, e6_25, e6_28, e6_29, e6_30, e6_33, e6_36, e6_37, e6_38, e6_41, e6_44, e6_45, kl_I, kl_R, kl_N, kl_L, oSm, oNn, Option.bind_some, wN, if_pos, if_neg, nS, tN, t0, w0, w1, w2, w3, w4, w5, wm1, upA_ne, upA_same, if_true, if_false, q6]
  exact F
theorem M7 (hs : bdS sh b) (hB : HB σ b m E) (hE : E.length ≤ 10) (hp : p < 5) (ho5 : okE m E) (hm : m ≤ 5) : run sh (d + 3) 7 [mR b, mI (p : Int)] σ = some (some (mI (cnt (fun j => decide ((eA E j).1 = p ∨ (eA E j).2 = p)) E.length : Int)), σ) := by
  have ho := hs.1
  have hl := hB.2.1
  have F := for_up (fun i => ev sh (d + 3) 7 4 [some (mR (b)), some (mI ((p : Nat) : Int)), some (mI ((cnt (fun j => decide ((eA E j).1 = p ∨ (eA E j).2 = p)) i : Nat) : Int)), some (mI ((i : Nat) : Int))] [] (σ)) (E.length) (fun i hi => by
    show ev sh (d + 3) 7 4 [some (mR (b)), some (mI ((p : Nat) : Int)), some (mI ((cnt (fun j => decide ((eA E j).1 = p ∨ (eA E j).2 = p)) i : Nat) : Int)), some (mI ((i : Nat) : Int))] [] (σ) = ev sh (d + 3) 7 4 [some (mR (b)), some (mI ((p : Nat) : Int)), some (mI ((cnt (fun j => decide ((eA E j).1 = p ∨ (eA E j).2 = p)) (i + 1) : Nat) : Int)), some (mI (((i + 1) : Nat) : Int))] [] (σ)
    have h5 := ho5.at hi
    rw [e7_4]
    simp (disch := first | assumption | omega | (simp (disch := omega) only [wN, w0, w1]; omega)) only [e7_0, e7_1, e7_2, e7_3, e7_5, e7_6, e7_9, e7_12, e7_13, e7_14, e7_15, e7_18, e7_19, e7_22, e7_23, e7_24, e7_27, e7_28, e7_31, e7_32, e7_35, e7_36, e7_37, e7_38, e7_41, e7_44, e7_45, kl_I, kl_R, kl_N, kl_L, oSm, oNn, Option.bind_some, wN, if_pos, if_neg, nS, tN, t0, w0, w1, w2, w3, w4, w5, wm1, upA_ne, upA_same, if_true, if_false, hl, N3 hs hB hE hi, N4 hs hB hE hi, e01]
    by_cases h1 : (eA E i).1 = p
    · simp [h1, cnt]
    · by_cases h2 : (eA E i).2 = p
      · simp [h1, h2, cnt]
      · simp [h1, h2, cnt]) 0 (Nat.zero_le _)
  simp (disch := first | assumption | omega | (simp (disch := omega) only [wN, w0, w1]; omega)) only [e7_0, e7_1, e7_2, e7_3, e7_5, e7_6, e7_9, e7_12, e7_13, e7_14, e7_15, e7_18, e7_19, e7_22, e7_23, e7_24, e7_27, e7_28, e7_31, e7_32, e7_35, e7_36, e7_37, e7_38, e7_41, e7_44, e7_45, kl_I, kl_R, kl_N, kl_L, oSm, oNn, Option.bind_some, wN, if_pos, if_neg, nS, tN, t0, w0, w1, w2, w3, w4, w5, wm1, upA_ne, upA_same, if_true, if_false, q7]
  refine F.trans ?_
  show ev sh (d + 3) 7 4 [some (mR (b)), some (mI ((p : Nat) : Int)), some (mI ((cnt (fun j => decide ((eA E j).1 = p ∨ (eA E j).2 = p)) E.length : Nat) : Int)), some (mI ((E.length : Nat) : Int))] [] σ = _
  rw [e7_4]
  simp (disch := first | assumption | omega | (simp (disch := omega) only [wN, w0, w1]; omega)) only [e7_0, e7_1, e7_2, e7_3, e7_5, e7_6, e7_9, e7_12, e7_13, e7_14, e7_15, e7_18, e7_19, e7_22, e7_23, e7_24, e7_27, e7_28, e7_31, e7_32, e7_35, e7_36, e7_37, e7_38, e7_41, e7_44, e7_45, kl_I, kl_R, kl_N, kl_L, oSm, oNn, Option.bind_some, wN, if_pos, if_neg, nS, tN, t0, w0, w1, w2, w3, w4, w5, wm1, upA_ne, upA_same, if_true, if_false, hl]
theorem M11 (hs : bdS sh b) (hB : HB σ b m E) (hF : HF σ b F) (hm : m ≤ 5) : run sh (d + 2) 11 [mR b] σ = some (some (mI (grS F m : Int)), σ) := by
  have ho := hs.1
  have hb0 := hB.1
  have hF9 : ∀ p, p < 5 → ∀ q, q < 5 → F p q ≤ 99 := fun p hp q hq => (hF p hp q hq).2
  have hc9 : ∀ p, p < 5 → mxx (F p) p ≤ 99 := fun p hp => mxx_le p (fun q hq => hF9 p hp q (by omega))
  have G := for_P (m) (fun p => ∀ v3 : Option MV, ev sh (d + 2) 11 4 [some (mR (b)), some (mI ((grS F p : Nat) : Int)), some (mI ((p : Nat) : Int)), v3] [] (σ) = some (some (mI (grS F m : Int)), σ)) (by
    intro v3
    show ev sh (d + 2) 11 4 [some (mR (b)), some (mI ((grS F (m) : Nat) : Int)), some (mI (((m) : Nat) : Int)), v3] [] (σ) = some (some (mI (grS F m : Int)), σ)
    rw [e11_4]
    simp (disch := first | assumption | omega | (simp (disch := omega) only [wN, w0, w1]; omega)) only [e11_0, e11_1, e11_2, e11_3, e11_5, e11_6, e11_9, e11_12, e11_13, e11_15, e11_16, e11_19, e11_20, e11_21, e11_22, e11_23, e11_26, e11_29, e11_30, e11_33, e11_36, e11_39, e11_42, e11_43, kl_I, kl_R, kl_N, kl_L, oSm, oNn, Option.bind_some, wN, if_pos, if_neg, nS, tN, t0, w0, w1, w2, w3, w4, w5, wm1, upA_ne, upA_same, if_true, if_false, hb0]) (fun p hi ih => by
    replace ih : ∀ v3 : Option MV, ev sh (d + 2) 11 4 [some (mR (b)), some (mI ((grS F (p + 1) : Nat) : Int)), some (mI (((p + 1) : Nat) : Int)), v3] [] (σ) = some (some (mI (grS F m : Int)), σ) := ih
    intro v3
    show ev sh (d + 2) 11 4 [some (mR (b)), some (mI ((grS F p : Nat) : Int)), some (mI ((p : Nat) : Int)), v3] [] (σ) = some (some (mI (grS F m : Int)), σ)
    have hi' := hi
    have b1 : grS F p ≤ 99 := mxx_le p (fun x hx => hc9 x (by omega))
    have I := for_P (p) (fun q => ev sh (d + 2) 11 14 [some (mR (b)), some (mI ((max (grS F p) (mxx (F p) q) : Nat) : Int)), some (mI ((p : Nat) : Int)), some (mI ((q : Nat) : Int))] [] (σ) = some (some (mI (grS F m : Int)), σ)) (by
      show ev sh (d + 2) 11 14 [some (mR (b)), some (mI ((max (grS F p) (mxx (F p) (p)) : Nat) : Int)), some (mI ((p : Nat) : Int)), some (mI (((p) : Nat) : Int))] [] (σ) = some (some (mI (grS F m : Int)), σ)
      rw [e11_14]
      simp (disch := first | assumption | omega | (simp (disch := omega) only [wN, w0, w1]; omega)) only [e11_0, e11_1, e11_2, e11_3, e11_5, e11_6, e11_9, e11_12, e11_13, e11_15, e11_16, e11_19, e11_20, e11_21, e11_22, e11_23, e11_26, e11_29, e11_30, e11_33, e11_36, e11_39, e11_42, e11_43, kl_I, kl_R, kl_N, kl_L, oSm, oNn, Option.bind_some, wN, if_pos, if_neg, nS, tN, t0, w0, w1, w2, w3, w4, w5, wm1, upA_ne, upA_same, if_true, if_false]
      exact ih _) (fun q hi ih => by
      replace ih : ev sh (d + 2) 11 14 [some (mR (b)), some (mI ((max (grS F p) (mxx (F p) (q + 1)) : Nat) : Int)), some (mI ((p : Nat) : Int)), some (mI (((q + 1) : Nat) : Int))] [] (σ) = some (some (mI (grS F m : Int)), σ) := ih
      show ev sh (d + 2) 11 14 [some (mR (b)), some (mI ((max (grS F p) (mxx (F p) q) : Nat) : Int)), some (mI ((p : Nat) : Int)), some (mI ((q : Nat) : Int))] [] (σ) = some (some (mI (grS F m : Int)), σ)
      have b2 : mxx (F p) q ≤ 99 := mxx_le q (fun x hx => hF9 p (by omega) x (by omega))
      have b3 := hF9 p (by omega) q (by omega)
      have b4 : max (grS F p) (mxx (F p) q) ≤ 99 := Nat.max_le.mpr ⟨b1, b2⟩
      rw [e11_14]
      simp (disch := first | assumption | omega | (simp (disch := omega) only [wN, w0, w1]; omega)) only [e11_0, e11_1, e11_2, e11_3, e11_5, e11_6, e11_9, e11_12, e11_13, e11_15, e11_16, e11_19, e11_20, e11_21, e11_22, e11_23, e11_26, e11_29, e11_30, e11_33, e11_36, e11_39, e11_42, e11_43, kl_I, kl_R, kl_N, kl_L, oSm, oNn, Option.bind_some, wN, if_pos, if_neg, nS, tN, t0, w0, w1, w2, w3, w4, w5, wm1, upA_ne, upA_same, if_true, if_false, N10 hs hB hF hm hi' (Nat.lt_trans hi hi'), mmx_nn, Nat.max_assoc]
      exact ih) 0 (Nat.zero_le _)
    rw [e11_4]
    simp (disch := first | assumption | omega | (simp (disch := omega) only [wN, w0, w1]; omega)) only [e11_0, e11_1, e11_2, e11_3, e11_5, e11_6, e11_9, e11_12, e11_13, e11_15, e11_16, e11_19, e11_20, e11_21, e11_22, e11_23, e11_26, e11_29, e11_30, e11_33, e11_36, e11_39, e11_42, e11_43, kl_I, kl_R, kl_N, kl_L, oSm, oNn, Option.bind_some, wN, if_pos, if_neg, nS, tN, t0, w0, w1, w2, w3, w4, w5, wm1, upA_ne, upA_same, if_true, if_false, hb0]
    have I0 := I
    rw [show max (grS F p) (mxx (F p) 0) = grS F p by simp [mxx]] at I0
    exact I0) 0 (Nat.zero_le _)
  simp (disch := first | assumption | omega | (simp (disch := omega) only [wN, w0, w1]; omega)) only [e11_0, e11_1, e11_2, e11_3, e11_5, e11_6, e11_9, e11_12, e11_13, e11_15, e11_16, e11_19, e11_20, e11_21, e11_22, e11_23, e11_26, e11_29, e11_30, e11_33, e11_36, e11_39, e11_42, e11_43, kl_I, kl_R, kl_N, kl_L, oSm, oNn, Option.bind_some, wN, if_pos, if_neg, nS, tN, t0, w0, w1, w2, w3, w4, w5, wm1, upA_ne, upA_same, if_true, if_false, q11]
  exact G none
theorem M10w (hs : bdS sh b) (hB : HB σ b m E) (hF : HW σ b m F) (hm : m ≤ 5) : run sh (d + 1) 10 [mR b, mI z, mI w] σ = some (some (mI (if (0 ≤ wi z ∧ wi z < m) ∧ 0 ≤ wi w ∧ wi w < m then (F (wi z).toNat (wi w).toNat : Int) else 99)), σ) := by
  obtain ⟨G, h1, h2⟩ := hF
  rw [M10 hs hB h1 hm]
  by_cases h : (0 ≤ wi z ∧ wi z < m) ∧ 0 ≤ wi w ∧ wi w < m
  · rw [if_pos h, if_pos h, h2 _ (by omega) _ (by omega)]
  · rw [if_neg h, if_neg h]
theorem N10w (hs : bdS sh b) (hB : HB σ b m E) (hF : HW σ b m F) (hm : m ≤ 5) (hp : p < m) (hq : q < m) : run sh (d + 1) 10 [mR b, mI (p : Int), mI (q : Int)] σ = some (some (mI (F p q : Int)), σ) := by
  obtain ⟨G, h1, h2⟩ := hF
  rw [N10 hs hB h1 hm hp hq, h2 p hp q hq]
theorem mxx_eq {f g : Nat → Nat} : ∀ n, (∀ x, x < n → f x = g x) → mxx f n = mxx g n
  | 0, _ => rfl
  | n + 1, h => by rw [mxx, mxx, mxx_eq n (fun x hx => h x (by omega)), h n (by omega)]
theorem M11w (hs : bdS sh b) (hB : HB σ b m E) (hF : HW σ b m F) (hm : m ≤ 5) : run sh (d + 2) 11 [mR b] σ = some (some (mI (grS F m : Int)), σ) := by
  obtain ⟨G, h1, h2⟩ := hF
  rw [M11 hs hB h1 hm]
  have : grS G m = grS F m := mxx_eq m (fun t ht => mxx_eq t (fun q hq => h2 t ht q (by omega)))
  rw [this]
end BDR
