/-! ===== GateList: dropped ===== -/
def dropA (x n : Nat) (f : Nat → Int) : Nat → Int := fun j => if x ≤ j ∧ j < x + (n - x - 1) then f (x + 1 + (j - x)) else f j
theorem dropA_at {x n j : Nat} {f : Nat → Int} (h : j < n - 1) : dropA x n f j = if j < x then f j else f (j + 1) := by
  unfold dropA
  by_cases h1 : j < x
  · rw [if_neg (by omega), if_pos h1]
  · rw [if_pos (by omega), if_neg h1, show x + 1 + (j - x) = j + 1 by omega]
theorem gA_erase {c : List Gt} {x j : Nat} : gA (c.eraseIdx x) j = if j < x then gA c j else gA c (j + 1) := by
  unfold gA
  rw [List.getD_eq_getElem?_getD, List.getElem?_eraseIdx]
  by_cases h : j < x
  · rw [if_pos h, if_pos h, List.getD_eq_getElem?_getD]
  · rw [if_neg h, if_neg h, List.getD_eq_getElem?_getD]
section GLE
variable {sh : Shp} {d g cap n : Nat} {σ : Mem} {c : List Gt} {x y : Nat}
def dshA (c : List Gt) (x i : Nat) : Nat → Gt := fun j => if x ≤ j ∧ j + 1 < i then gA c (j + 1) else gA c j
/-- gates at g as F tells them, n of them -/
def HF4 (σ : Mem) (g n : Nat) (F : Nat → Gt) : Prop := σ.1 g 6 = (n : Int) ∧ ∀ j, j < n → σ.1 (g + 1) j = ((F j).1 : Int) ∧ σ.1 (g + 2) j = ((F j).2.1 : Int) ∧ σ.1 (g + 3) j = (F j).2.2 ∧ σ.1 (g + 4) j = (gm (F j) : Int)
theorem L72 (hg : glS sh g cap) (hG : HG σ g c) (hc : c.length ≤ cap) (hb : cap ≤ 100) (hx : x < c.length) : End (run sh (d + 2) 72 [mR g, mI (x : Int)] σ) (fun r σ' => r = none ∧ HG σ' g (c.eraseIdx x) ∧ frG g σ σ') := by
  obtain ⟨ho, r0, r1, r2, r3, r4, r5, k1, k2, k3, k4, k5, k6, l1, l2, l3, l4, l5, l6, w6⟩ := id hg
  have hn := hG.1
  have h5k : cap ≤ 5000 := by omega
  have F : ∀ i, i ≤ c.length → x < i → ∀ σ1 : Mem, HF4 σ1 g c.length (dshA c x i) ∧ frG g σ σ1 → End (ev sh (d + 2) 72 4 [some (mR (g)), some (mI ((x : Nat) : Int)), some (mI ((i : Nat) : Int))] [] σ1) (fun r σ' => r = none ∧ HG σ' g (c.eraseIdx x) ∧ frG g σ σ') := for_P c.length (fun i => x < i → ∀ σ1 : Mem, HF4 σ1 g c.length (dshA c x i) ∧ frG g σ σ1 → End (ev sh (d + 2) 72 4 [some (mR (g)), some (mI ((x : Nat) : Int)), some (mI ((i : Nat) : Int))] [] σ1) (fun r σ' => r = none ∧ HG σ' g (c.eraseIdx x) ∧ frG g σ σ')) (by
    intro _ σ1 hp
    obtain ⟨⟨hn1, hF⟩, hf⟩ := hp
    have eb : (c.length : Int) - 1 = ((c.length - 1 : Nat) : Int) := by omega
    rw [e72_4]
    simp (disch := first | assumption | omega | (simp (disch := omega) only [wN, w0, w1]; omega)) only [e72_0, e72_1, e72_2, e72_3, e72_5, e72_6, e72_9, e72_12, e72_13, e72_16, e72_17, e72_18, e72_19, e72_20, e72_21, e72_24, e72_27, e72_28, e72_31, e72_32, e72_33, e72_34, e72_35, e72_36, e72_39, e72_42, e72_43, e72_46, e72_47, e72_48, e72_49, e72_50, e72_51, e72_54, e72_57, e72_58, e72_61, e72_62, e72_63, e72_64, e72_65, e72_66, e72_69, e72_72, e72_75, e72_78, e72_79I, e72_79R, e72_80, e72_83, e72_84, e72_85, e72_88, kl_I, kl_R, kl_N, kl_L, oSm, oNn, Option.bind_some, wN, if_pos, if_neg, nS, tN, t0, w0, w1, w2, w3, w4, w5, wm1, upA_ne, upA_same, if_true, if_false, Bool.false_eq_true, hn1, eb]
    refine End.of rfl ⟨rfl, ⟨?_, fun j hj => ?_⟩, hf.tr ⟨fun a ha => ?_, rfl⟩⟩
    · simp only [upA_same, up1_same, List.length_eraseIdx, if_pos hx]
    · rw [List.length_eraseIdx, if_pos hx] at hj
      have e : gA (c.eraseIdx x) j = dshA c x c.length j := by
        rw [gA_erase]
        unfold dshA
        by_cases h : j < x
        · rw [if_pos h, if_neg (by omega)]
        · rw [if_neg h, if_pos (by omega)]
      rw [e]
      simp (disch := omega) only [upA_ne]
      exact hF j (by omega)
    · simp (disch := omega) only [upA_ne]) (fun i hi ih hxi σ1 hp => by
    obtain ⟨⟨hn1, hF⟩, hf⟩ := hp
    have ei : (i : Int) - 1 = ((i - 1 : Nat) : Int) := by omega
    have ed : dshA c x i i = gA c i := if_neg (by omega)
    obtain ⟨f1, f2, f3, f4⟩ := hF i hi
    rw [ed] at f1 f2 f3 f4
    have hi1 : i - 1 < cap := by omega
    have a1 := K46 (d := d + 1) (i := (i : Int)) hg hn1 hc hb
    have hn2 : ∀ X, ((upA σ1.1 (g + 1) X, σ1.2) : Mem).1 g 6 = (c.length : Int) := fun X => by
      show upA σ1.1 (g + 1) X g 6 = _
      rw [upA_ne (by omega)]; exact hn1
    have a2 := fun X => K47 (d := d + 1) (i := (i : Int)) (σ := (upA σ1.1 (g + 1) X, σ1.2)) hg (hn2 X) hc hb
    have hn3 : ∀ X Y, ((upA (upA σ1.1 (g + 1) X) (g + 2) Y, σ1.2) : Mem).1 g 6 = (c.length : Int) := fun X Y => by
      show upA (upA σ1.1 (g + 1) X) (g + 2) Y g 6 = _
      rw [upA_ne (by omega)]; exact hn2 X
    have a3 := fun X Y => K48 (d := d + 1) (i := (i : Int)) (σ := (upA (upA σ1.1 (g + 1) X) (g + 2) Y, σ1.2)) hg (hn3 X Y) hc hb
    have hn4 : ∀ X Y Z, ((upA (upA (upA σ1.1 (g + 1) X) (g + 2) Y) (g + 3) Z, σ1.2) : Mem).1 g 6 = (c.length : Int) := fun X Y Z => by
      show upA (upA (upA σ1.1 (g + 1) X) (g + 2) Y) (g + 3) Z g 6 = _
      rw [upA_ne (by omega)]; exact hn3 X Y
    have a4 := fun X Y Z => K51 (d := d) (i := (i : Int)) (σ := (upA (upA (upA σ1.1 (g + 1) X) (g + 2) Y) (g + 3) Z, σ1.2)) hg (hn4 X Y Z) hc hb
    have wiN : wi (i : Int) = (i : Int) := wN (by omega)
    have ci : 0 ≤ (i : Int) ∧ (i : Int) < (c.length : Int) := by omega
    simp only [wiN, if_pos ci, tN] at a1 a2 a3 a4
    simp (disch := omega) only [upA_ne] at a2 a3 a4
    rw [f1] at a1
    simp only [f2] at a2
    simp only [f3] at a3
    simp only [f4] at a4
    rw [e72_4]
    simp (disch := first | assumption | omega | (simp (disch := omega) only [wN, w0, w1]; omega)) only [e72_0, e72_1, e72_2, e72_3, e72_5, e72_6, e72_9, e72_12, e72_13, e72_16, e72_17, e72_18, e72_19, e72_20, e72_21, e72_24, e72_27, e72_28, e72_31, e72_32, e72_33, e72_34, e72_35, e72_36, e72_39, e72_42, e72_43, e72_46, e72_47, e72_48, e72_49, e72_50, e72_51, e72_54, e72_57, e72_58, e72_61, e72_62, e72_63, e72_64, e72_65, e72_66, e72_69, e72_72, e72_75, e72_78, e72_79I, e72_79R, e72_80, e72_83, e72_84, e72_85, e72_88, kl_I, kl_R, kl_N, kl_L, oSm, oNn, Option.bind_some, wN, if_pos, if_neg, nS, tN, t0, w0, w1, w2, w3, w4, w5, wm1, upA_ne, upA_same, if_true, if_false, Bool.false_eq_true, hn1, r0, r1, r2, r3, ei, a1, a2, a3, a4, K289n k1 l1 h5k (show g + 1 < sh.1 by omega) hi1, K289n k2 l2 h5k (show g + 2 < sh.1 by omega) hi1, K289n k3 l3 h5k (show g + 3 < sh.1 by omega) hi1, K289n k4 l4 h5k (show g + 4 < sh.1 by omega) hi1]
    refine ih (by omega) _ ⟨⟨?_, fun j hj => ?_⟩, hf.tr ⟨fun a ha => ?_, rfl⟩⟩
    · show upA _ _ _ g 6 = _
      simp (disch := omega) only [upA_ne]
      exact hn1
    · obtain ⟨g1, g2, g3, g4⟩ := hF j hj
      show upA _ _ _ (g + 1) j = _ ∧ upA _ _ _ (g + 2) j = _ ∧ upA _ _ _ (g + 3) j = _ ∧ upA _ _ _ (g + 4) j = _
      simp (disch := omega) only [upA_ne, upA_same]
      by_cases e : j = i - 1
      · have ej : dshA c x (i + 1) j = gA c i := by
          unfold dshA
          rw [if_pos (by omega), show j + 1 = i by omega]
        subst e
        simp only [up1_same, ej]
        exact ⟨trivial, trivial, trivial, trivial⟩
      · have ej : dshA c x (i + 1) j = dshA c x i j := by
          unfold dshA
          by_cases h : x ≤ j ∧ j + 1 < i
          · rw [if_pos h, if_pos (by omega)]
          · rw [if_neg h, if_neg (by omega)]
        simp only [up1_ne e, ej]
        exact ⟨g1, g2, g3, g4⟩
    · show upA _ _ _ a = _
      simp (disch := omega) only [upA_ne])
  simp (disch := first | assumption | omega | (simp (disch := omega) only [wN, w0, w1]; omega)) only [e72_0, e72_1, e72_2, e72_3, e72_5, e72_6, e72_9, e72_12, e72_13, e72_16, e72_17, e72_18, e72_19, e72_20, e72_21, e72_24, e72_27, e72_28, e72_31, e72_32, e72_33, e72_34, e72_35, e72_36, e72_39, e72_42, e72_43, e72_46, e72_47, e72_48, e72_49, e72_50, e72_51, e72_54, e72_57, e72_58, e72_61, e72_62, e72_63, e72_64, e72_65, e72_66, e72_69, e72_72, e72_75, e72_78, e72_79I, e72_79R, e72_80, e72_83, e72_84, e72_85, e72_88, kl_I, kl_R, kl_N, kl_L, oSm, oNn, Option.bind_some, wN, if_pos, if_neg, nS, tN, t0, w0, w1, w2, w3, w4, w5, wm1, upA_ne, upA_same, if_true, if_false, Bool.false_eq_true, q72]
  refine F (x + 1) (by omega) (by omega) σ ⟨⟨hn, fun j hj => ?_⟩, frG.rf⟩
  have ej : dshA c x (x + 1) j = gA c j := if_neg (by omega)
  rw [ej]
  exact hG.2 j hj
/-- alike, but for a turn's eighths -/
def alB (q r : Gt) : Bool := decide (q.1 = r.1) && (decide (gm q = gm r) && (decide (¬ q.1 = 3) || decide (q.2.1 = r.2.1)))
theorem L69 (hg : glS sh g cap) (hG : HG σ g c) (hc : c.length ≤ cap) (hb : cap ≤ 100) (hv : okC n c) (hn5 : n ≤ 5) (hx : x < c.length) (hy : y < c.length) : run sh (d + 2) 69 [mR g, mI (x : Int), mI (y : Int)] σ = some (some (mI (bi (alB (gA c x) (gA c y)))), σ) := by
  have ho := hg.1
  have m1 : gm (gA c x) < 32 := gm_lt (hv.at hx) hn5
  have m2 : gm (gA c y) < 32 := gm_lt (hv.at hy) hn5
  have q1 := (hv.at hx).1
  have q2 := (hv.at hy).1
  have f1 := (hv.at hx).2.1
  have f2 := (hv.at hy).2.1
  simp (disch := first | assumption | omega | (simp (disch := omega) only [wN, w0, w1]; omega)) only [e69_0, e69_1, e69_2, e69_5, e69_6, e69_7, e69_10, e69_13, e69_14, e69_15, e69_18, e69_19, e69_20, e69_23, e69_26, e69_27, e69_28, e69_29, e69_30, e69_33, e69_34, e69_37, e69_38, e69_39, e69_42, e69_43, e69_44, e69_47, e69_50, e69_51, e69_54, e69_55, kl_I, kl_R, kl_N, kl_L, oSm, oNn, Option.bind_some, wN, if_pos, if_neg, nS, tN, t0, w0, w1, w2, w3, w4, w5, wm1, upA_ne, upA_same, q69, L46 hg hG hc hb hx, L46 hg hG hc hb hy, L51 hg hG hc hb hx, L51 hg hG hc hb hy, L47 hg hG hc hb hx, L47 hg hG hc hb hy, e01]
  unfold alB
  by_cases h1 : (gA c x).1 = (gA c y).1
  · by_cases h2 : gm (gA c x) = gm (gA c y)
    · by_cases h3 : (gA c x).1 = 3
      · by_cases h4 : (gA c x).2.1 = (gA c y).2.1
        · simp [h1, h2, h4]
        · have h5 : (gA c y).1 = 3 := by omega
          simp [h1, h2, h4, h5]
      · have h5 : ¬ (gA c y).1 = 3 := by omega
        have h6 : ¬ ((gA c y).1 : Int) = 3 := by omega
        simp [h1, h2, h5, h6]
    · simp [h1, h2]
  · simp [h1]
/-- all between x and y commute with y -/
def fbB (c : List Gt) (x y : Nat) : Bool := fa (fun k => cmB (gA c k) (gA c y)) (y - (x + 1)) (x + 1)
theorem L70 (hg : glS sh g cap) (hG : HG σ g c) (hc : c.length ≤ cap) (hb : cap ≤ 100) (hv : okC n c) (hn5 : n ≤ 5) (hx : x < y) (hy : y < c.length) : run sh (d + 3) 70 [mR g, mI (x : Int), mI (y : Int)] σ = some (some (mI (bi (fbB c x y))), σ) := by
  have ho := hg.1
  have F : ∀ i, i ≤ y → x < i → ev sh (d + 3) 70 4 [some (mR (g)), some (mI ((x : Nat) : Int)), some (mI ((y : Nat) : Int)), some (mI ((i : Nat) : Int))] [] σ = some (some (mI (bi (fa (fun k => cmB (gA c k) (gA c y)) (y - i) i))), σ) := for_P y (fun i => x < i → ev sh (d + 3) 70 4 [some (mR (g)), some (mI ((x : Nat) : Int)), some (mI ((y : Nat) : Int)), some (mI ((i : Nat) : Int))] [] σ = some (some (mI (bi (fa (fun k => cmB (gA c k) (gA c y)) (y - i) i))), σ)) (by
    intro _
    rw [fa_e, e70_4]
    simp (disch := first | assumption | omega | (simp (disch := omega) only [wN, w0, w1]; omega)) only [e70_0, e70_1, e70_2, e70_3, e70_5, e70_6, e70_9, e70_10, e70_11, e70_12, e70_15, e70_18, e70_19, e70_20, e70_23, e70_26, e70_27, kl_I, kl_R, kl_N, kl_L, oSm, oNn, Option.bind_some, wN, if_pos, if_neg, nS, tN, t0, w0, w1, w2, w3, w4, w5, wm1, upA_ne, upA_same]
    rfl) (fun i hi ih h => by
    rw [e70_4, fa_s hi]
    simp (disch := first | assumption | omega | (simp (disch := omega) only [wN, w0, w1]; omega)) only [e70_0, e70_1, e70_2, e70_3, e70_5, e70_6, e70_9, e70_10, e70_11, e70_12, e70_15, e70_18, e70_19, e70_20, e70_23, e70_26, e70_27, kl_I, kl_R, kl_N, kl_L, oSm, oNn, Option.bind_some, wN, if_pos, if_neg, nS, tN, t0, w0, w1, w2, w3, w4, w5, wm1, upA_ne, upA_same, L59 hg hG hc hb hv hn5 (Nat.lt_trans hi hy) hy, wi_01, if10]
    rw [ih (by omega)]
    cases cmB (gA c i) (gA c y) <;> simp)
  simp (disch := first | assumption | omega | (simp (disch := omega) only [wN, w0, w1]; omega)) only [e70_0, e70_1, e70_2, e70_3, e70_5, e70_6, e70_9, e70_10, e70_11, e70_12, e70_15, e70_18, e70_19, e70_20, e70_23, e70_26, e70_27, kl_I, kl_R, kl_N, kl_L, oSm, oNn, Option.bind_some, wN, if_pos, if_neg, nS, tN, t0, w0, w1, w2, w3, w4, w5, wm1, upA_ne, upA_same, q70]
  exact F (x + 1) (by omega) (by omega)
end GLE
