/-! ===== the reference: gates, one by one ===== -/
theorem n120 (t : Nat) : (120 : Int) * (t : Int) = ((120 * t : Nat) : Int) := (Int.natCast_mul 120 t).symm
theorem ifI {p q : Prop} [Decidable p] [Decidable q] (h : p ↔ q) : (if p then (1 : Int) else 0) = if q then 1 else 0 := by
  by_cases hp : p
  · rw [if_pos hp, if_pos (h.mp hp)]
  · rw [if_neg hp, if_neg (fun z => hp (h.mpr z))]
section MB
variable {sh : Shp} {d t g n : Nat} {σ : Mem} {a : AX} {z w v u : Int} {c : List Gt}
theorem of0 (hM : MS sh) (hG : HGm σ t c) (ht : t < 3) (hc : c.length ≤ 30) (hg : g < c.length) (hz : z = (t : Int)) : run sh d 170 [mR 124, mI z, mI (g : Int), mI 0] σ = some (some (mI ((gA c g).1 : Int)), σ) := by
  have mo := hM.1
  have m160 := hM.2.1
  obtain ⟨ra0, rk0, rl0⟩ := ms0 hM
  subst hz
  have h1 := (hG.2 g hg).1
  simp (disch := first | assumption | omega | (simp (disch := omega) only [wN, w0, w1]; omega)) only [e170_0, e170_1, e170_4, e170_6, e170_7, e170_8, e170_9, e170_10, e170_11, e170_12, e170_13, e170_14, e170_15, kl_I, kl_R, kl_N, kl_L, oSm, oNn, Option.bind_some, wN, if_pos, if_neg, nS, tN, t0, w0, w1, w2, w3, w4, w5, wm1, upA_ne, upA_same, if_true, if_false, Bool.false_eq_true, q170, ra0, rl0, n120, n4, ← Int.natCast_add, Int.add_zero, h1]
theorem of1 (hM : MS sh) (hG : HGm σ t c) (ht : t < 3) (hc : c.length ≤ 30) (hg : g < c.length) (hz : z = (t : Int)) : run sh d 170 [mR 124, mI z, mI (g : Int), mI 1] σ = some (some (mI ((gA c g).2.1 : Int)), σ) := by
  have mo := hM.1
  have m160 := hM.2.1
  obtain ⟨ra0, rk0, rl0⟩ := ms0 hM
  subst hz
  have h1 := (hG.2 g hg).2.1
  simp (disch := first | assumption | omega | (simp (disch := omega) only [wN, w0, w1]; omega)) only [e170_0, e170_1, e170_4, e170_6, e170_7, e170_8, e170_9, e170_10, e170_11, e170_12, e170_13, e170_14, e170_15, kl_I, kl_R, kl_N, kl_L, oSm, oNn, Option.bind_some, wN, if_pos, if_neg, nS, tN, t0, w0, w1, w2, w3, w4, w5, wm1, upA_ne, upA_same, if_true, if_false, Bool.false_eq_true, q170, ra0, rl0, n120, n4, ← Int.natCast_add, h1]
theorem of2 (hM : MS sh) (hG : HGm σ t c) (ht : t < 3) (hc : c.length ≤ 30) (hg : g < c.length) (hz : z = (t : Int)) : run sh d 170 [mR 124, mI z, mI (g : Int), mI 2] σ = some (some (mI (rb (gA c g))), σ) := by
  have mo := hM.1
  have m160 := hM.2.1
  obtain ⟨ra0, rk0, rl0⟩ := ms0 hM
  subst hz
  have h1 := (hG.2 g hg).2.2.1
  simp (disch := first | assumption | omega | (simp (disch := omega) only [wN, w0, w1]; omega)) only [e170_0, e170_1, e170_4, e170_6, e170_7, e170_8, e170_9, e170_10, e170_11, e170_12, e170_13, e170_14, e170_15, kl_I, kl_R, kl_N, kl_L, oSm, oNn, Option.bind_some, wN, if_pos, if_neg, nS, tN, t0, w0, w1, w2, w3, w4, w5, wm1, upA_ne, upA_same, if_true, if_false, Bool.false_eq_true, q170, ra0, rl0, n120, n4, ← Int.natCast_add, nS2, h1]
theorem of3 (hM : MS sh) (hG : HGm σ t c) (ht : t < 3) (hc : c.length ≤ 30) (hg : g < c.length) (hz : z = (t : Int)) : run sh d 170 [mR 124, mI z, mI (g : Int), mI 3] σ = some (some (mI (rk (gA c g))), σ) := by
  have mo := hM.1
  have m160 := hM.2.1
  obtain ⟨ra0, rk0, rl0⟩ := ms0 hM
  subst hz
  have h1 := (hG.2 g hg).2.2.2
  simp (disch := first | assumption | omega | (simp (disch := omega) only [wN, w0, w1]; omega)) only [e170_0, e170_1, e170_4, e170_6, e170_7, e170_8, e170_9, e170_10, e170_11, e170_12, e170_13, e170_14, e170_15, kl_I, kl_R, kl_N, kl_L, oSm, oNn, Option.bind_some, wN, if_pos, if_neg, nS, tN, t0, w0, w1, w2, w3, w4, w5, wm1, upA_ne, upA_same, if_true, if_false, Bool.false_eq_true, q170, ra0, rl0, n120, n4, ← Int.natCast_add, nS3, h1]
theorem E173 (hM : MS sh) (hG : HGm σ t c) (ht : t < 3) (hc : c.length ≤ 30) (hv : okC n c) (hg : g < c.length) (hz : z = (t : Int)) : run sh (d + 1) 173 [mR 124, mI z, mI (g : Int)] σ = some (some (mI (if 3 ≤ (gA c g).1 then 1 else 0)), σ) := by
  have mo := hM.1
  have k5 := (hv.at hg).1
  by_cases h : 3 ≤ (gA c g).1
  · simp (disch := first | assumption | omega | (simp (disch := omega) only [wN, w0, w1]; omega)) only [e173_0, e173_1, e173_2, e173_3, e173_4, e173_7, e173_8, e173_11, e173_12, e173_15, e173_16, kl_I, kl_R, kl_N, kl_L, oSm, oNn, Option.bind_some, wN, if_pos, if_neg, nS, tN, t0, w0, w1, w2, w3, w4, w5, wm1, upA_ne, upA_same, if_true, if_false, Bool.false_eq_true, q173, of0 hM hG ht hc hg hz]
  · simp (disch := first | assumption | omega | (simp (disch := omega) only [wN, w0, w1]; omega)) only [e173_0, e173_1, e173_2, e173_3, e173_4, e173_7, e173_8, e173_11, e173_12, e173_15, e173_16, kl_I, kl_R, kl_N, kl_L, oSm, oNn, Option.bind_some, wN, if_pos, if_neg, nS, tN, t0, w0, w1, w2, w3, w4, w5, wm1, upA_ne, upA_same, if_true, if_false, Bool.false_eq_true, q173, of0 hM hG ht hc hg hz]
theorem E174 (hM : MS sh) (hG : HGm σ t c) (ht : t < 3) (hc : c.length ≤ 30) (hv : okC n c) (hn : n ≤ 5) (hg : g < c.length) (hz : z = (t : Int)) : run sh (d + 2) 174 [mR 124, mI z, mI (g : Int)] σ = some (some (mI (gm (gA c g) : Int)), σ) := by
  have mo := hM.1
  have v := hv.at hg
  have v2 := v.2.1
  have x1 := xshl_1 (k := (gA c g).2.1) (by omega)
  by_cases h : 3 ≤ (gA c g).1
  · have v5 := v.2.2.2.2 h
    obtain ⟨q, hq⟩ : ∃ q : Nat, (gA c g).2.2 = (q : Int) := ⟨(gA c g).2.2.toNat, by omega⟩
    have x2 := xshl_1 (k := q) (by omega)
    have x3 := xor_nn (a := 2 ^ (gA c g).2.1) (b := 2 ^ q) (pw_lt (n := 31) (by omega) (by omega)) (pw_lt (n := 31) (by omega) (by omega))
    have er : rb (gA c g) = (q : Int) := by rw [rb, if_neg (by omega), hq]
    have eg : gm (gA c g) = 2 ^ (gA c g).2.1 ||| 2 ^ q := by rw [gm, if_neg (by omega), hq, tN]
    simp (disch := first | assumption | omega | (simp (disch := omega) only [wN, w0, w1]; omega)) only [e174_0, e174_1, e174_2, e174_3, e174_6, e174_9, e174_10, e174_11, e174_12, e174_13, e174_14, e174_17, e174_18, e174_19, e174_20, e174_21, e174_22, e174_23, e174_26, e174_27, e174_28, e174_31, e174_32, e174_33, e174_34, e174_35, e174_36, e174_39, e174_40, kl_I, kl_R, kl_N, kl_L, oSm, oNn, Option.bind_some, wN, if_pos, if_neg, nS, tN, t0, w0, w1, w2, w3, w4, w5, wm1, upA_ne, upA_same, if_true, if_false, Bool.false_eq_true, q174, E173 hM hG ht hc hv hg hz, of1 hM hG ht hc hg hz, of2 hM hG ht hc hg hz, x1, er, x2, x3, eg]
  · have eg : gm (gA c g) = 2 ^ (gA c g).2.1 := by rw [gm, if_pos (by omega)]
    simp (disch := first | assumption | omega | (simp (disch := omega) only [wN, w0, w1]; omega)) only [e174_0, e174_1, e174_2, e174_3, e174_6, e174_9, e174_10, e174_11, e174_12, e174_13, e174_14, e174_17, e174_18, e174_19, e174_20, e174_21, e174_22, e174_23, e174_26, e174_27, e174_28, e174_31, e174_32, e174_33, e174_34, e174_35, e174_36, e174_39, e174_40, kl_I, kl_R, kl_N, kl_L, oSm, oNn, Option.bind_some, wN, if_pos, if_neg, nS, tN, t0, w0, w1, w2, w3, w4, w5, wm1, upA_ne, upA_same, if_true, if_false, Bool.false_eq_true, q174, E173 hM hG ht hc hv hg hz, of1 hM hG ht hc hg hz, x1, eg]
theorem E169 (hM : MS sh) : End (run sh d 169 [mR 124] σ) (fun r σ' => r = none ∧ (∀ y, y < 4 → σ'.1 129 y = (y : Int)) ∧ frW 129 129 1 0 σ σ') := by
  have mo := hM.1
  have m160 := hM.2.1
  obtain ⟨ra4, rk4, rl4⟩ := ms4 hM
  have L := for_P (4) (fun i => ∀ (σ1 : Mem), ((∀ y, y < i → σ1.1 129 y = (fun q : Nat => (q : Int)) y) ∧ frW 129 129 1 0 σ σ1) → End (ev sh d 169 2 [some (mR (124)), some (mI ((i : Nat) : Int))] [] σ1) (fun r σ' => r = none ∧ (∀ y, y < 4 → σ'.1 129 y = (y : Int)) ∧ frW 129 129 1 0 σ σ')) (by
    intro σ1  hp
    replace hp : (∀ y, y < (4) → σ1.1 129 y = (fun q : Nat => (q : Int)) y) ∧ frW 129 129 1 0 σ σ1 := hp
    show End (ev sh d 169 2 [some (mR (124)), some (mI (((4) : Nat) : Int))] [] σ1) (fun r σ' => r = none ∧ (∀ y, y < 4 → σ'.1 129 y = (y : Int)) ∧ frW 129 129 1 0 σ σ')
    rw [e169_2]
    simp (disch := first | assumption | omega | (simp (disch := omega) only [wN, w0, w1]; omega)) only [e169_0, e169_1, e169_3, e169_4, e169_7, e169_8, e169_11, e169_12, e169_13, e169_14, e169_17, e169_20, kl_I, kl_R, kl_N, kl_L, oSm, oNn, Option.bind_some, wN, if_pos, if_neg, nS, tN, t0, w0, w1, w2, w3, w4, w5, wm1, upA_ne, upA_same, if_true, if_false, Bool.false_eq_true]
    exact End.of rfl ⟨rfl, hp⟩) (fun i hi ih => by
    replace ih : ∀ (σ1 : Mem), ((∀ y, y < (i + 1) → σ1.1 129 y = (fun q : Nat => (q : Int)) y) ∧ frW 129 129 1 0 σ σ1) → End (ev sh d 169 2 [some (mR (124)), some (mI (((i + 1) : Nat) : Int))] [] σ1) (fun r σ' => r = none ∧ (∀ y, y < 4 → σ'.1 129 y = (y : Int)) ∧ frW 129 129 1 0 σ σ') := ih
    intro σ1  hp
    replace hp : (∀ y, y < i → σ1.1 129 y = (fun q : Nat => (q : Int)) y) ∧ frW 129 129 1 0 σ σ1 := hp
    show End (ev sh d 169 2 [some (mR (124)), some (mI ((i : Nat) : Int))] [] σ1) (fun r σ' => r = none ∧ (∀ y, y < 4 → σ'.1 129 y = (y : Int)) ∧ frW 129 129 1 0 σ σ')
    rw [e169_2]
    simp (disch := first | assumption | omega | (simp (disch := omega) only [wN, w0, w1]; omega)) only [e169_0, e169_1, e169_3, e169_4, e169_7, e169_8, e169_11, e169_12, e169_13, e169_14, e169_17, e169_20, kl_I, kl_R, kl_N, kl_L, oSm, oNn, Option.bind_some, wN, if_pos, if_neg, nS, tN, t0, w0, w1, w2, w3, w4, w5, wm1, upA_ne, upA_same, if_true, if_false, Bool.false_eq_true, ra4, rl4]
    exact ih _ ⟨fil1 hp.1 rfl, hp.2.tr (frW.a (by omega) (by omega))⟩) 0 (Nat.zero_le _)
  simp (disch := first | assumption | omega | (simp (disch := omega) only [wN, w0, w1]; omega)) only [e169_0, e169_1, e169_3, e169_4, e169_7, e169_8, e169_11, e169_12, e169_13, e169_14, e169_17, e169_20, kl_I, kl_R, kl_N, kl_L, oSm, oNn, Option.bind_some, wN, if_pos, if_neg, nS, tN, t0, w0, w1, w2, w3, w4, w5, wm1, upA_ne, upA_same, if_true, if_false, Bool.false_eq_true, q169]
  exact L σ ⟨fun y hy => by omega, frW.rf⟩
/-- a gate is laid into slot t at g -/
theorem E171 (hM : MS sh) (ht : t < 3) (hg : g < 30) {k p q r : Int} (hz : z = (t : Int)) : ∃ σ', run sh d 171 [mR 124, mI z, mI (g : Int), mI k, mI p, mI q, mI r] σ = some (none, σ') ∧ σ'.1 125 (120 * t + 4 * g) = k ∧ σ'.1 125 (120 * t + 4 * g + 1) = p ∧ σ'.1 125 (120 * t + 4 * g + 2) = q ∧ σ'.1 125 (120 * t + 4 * g + 3) = r ∧ (∀ i, (i < 120 * t + 4 * g ∨ 120 * t + 4 * g + 3 < i) → σ'.1 125 i = σ.1 125 i) ∧ frW 125 125 1 0 σ σ' := by
  have mo := hM.1
  have m160 := hM.2.1
  obtain ⟨ra0, rk0, rl0⟩ := ms0 hM
  subst hz
  simp (disch := first | assumption | omega | (simp (disch := omega) only [wN, w0, w1]; omega)) only [e171_0, e171_2, e171_3, e171_4, e171_5, e171_6, e171_7, e171_8, e171_10, e171_11, e171_14, e171_16, e171_17, e171_18, e171_19, e171_22, e171_24, e171_25, e171_26, e171_28, e171_29, e171_30, e171_33, e171_35, e171_36, e171_37, e171_39, e171_40, e171_41, e171_44, e171_46, e171_47, e171_48, e171_50, e171_51, kl_I, kl_R, kl_N, kl_L, oSm, oNn, Option.bind_some, wN, if_pos, if_neg, nS, tN, t0, w0, w1, w2, w3, w4, w5, wm1, upA_ne, upA_same, if_true, if_false, Bool.false_eq_true, q171, ra0, rl0, n120, n4, ← Int.natCast_add, nS2, nS3, upA_upA]
  refine ⟨_, rfl, ?_, ?_, ?_, ?_, fun i hi => ?_, frW.a (by omega) (by omega)⟩
  all_goals simp (disch := omega) only [upA_same, up1_same, up1_ne]
theorem M188 (hM : MS sh) (hn : σ.1 124 8 = (n : Int)) (h1 : 1 ≤ n) (h4 : n ≤ 4) (hz : i32 z) : run sh (d + 1) 188 [mR 124, mI z] σ = some (some (mI (if 0 ≤ z ∧ z < n then 1 else 0)), σ) := by
  have mo := hM.1
  have e := E164 (sh := sh) (d := d) (σ := σ) (z := z) (w := 0) (v := (n : Int) - 1) hz ⟨by omega, by omega⟩ ⟨by omega, by omega⟩
  rw [show (if 0 ≤ z ∧ z ≤ (n : Int) - 1 then (1 : Int) else 0) = if 0 ≤ z ∧ z < (n : Int) then 1 else 0 from ifI (by omega)] at e
  have hb := b01 (0 ≤ z ∧ z < (n : Int))
  generalize (if 0 ≤ z ∧ z < (n : Int) then (1 : Int) else 0) = bb at e hb ⊢
  rcases hb with rfl | rfl
  · simp (disch := first | assumption | omega | (simp (disch := omega) only [wN, w0, w1]; omega)) only [e188_0, e188_1, e188_2, e188_3, e188_6, e188_7, e188_8, e188_11, kl_I, kl_R, kl_N, kl_L, oSm, oNn, Option.bind_some, wN, if_pos, if_neg, nS, tN, t0, w0, w1, w2, w3, w4, w5, wm1, upA_ne, upA_same, if_true, if_false, Bool.false_eq_true, q188, hn, e]
  · simp (disch := first | assumption | omega | (simp (disch := omega) only [wN, w0, w1]; omega)) only [e188_0, e188_1, e188_2, e188_3, e188_6, e188_7, e188_8, e188_11, kl_I, kl_R, kl_N, kl_L, oSm, oNn, Option.bind_some, wN, if_pos, if_neg, nS, tN, t0, w0, w1, w2, w3, w4, w5, wm1, upA_ne, upA_same, if_true, if_false, Bool.false_eq_true, q188, hn, e]
theorem M189 {m : Nat} (hM : MS sh) (hn : σ.1 124 9 = (m : Int)) (h4 : m ≤ 5) (hz : i32 z) : run sh (d + 1) 189 [mR 124, mI z] σ = some (some (mI (if 0 ≤ z ∧ z < m then 1 else 0)), σ) := by
  have mo := hM.1
  have e := E164 (sh := sh) (d := d) (σ := σ) (z := z) (w := 0) (v := (m : Int) - 1) hz ⟨by omega, by omega⟩ ⟨by omega, by omega⟩
  rw [show (if 0 ≤ z ∧ z ≤ (m : Int) - 1 then (1 : Int) else 0) = if 0 ≤ z ∧ z < (m : Int) then 1 else 0 from ifI (by omega)] at e
  have hb := b01 (0 ≤ z ∧ z < (m : Int))
  generalize (if 0 ≤ z ∧ z < (m : Int) then (1 : Int) else 0) = bb at e hb ⊢
  rcases hb with rfl | rfl
  · simp (disch := first | assumption | omega | (simp (disch := omega) only [wN, w0, w1]; omega)) only [e189_0, e189_1, e189_2, e189_3, e189_6, e189_7, e189_8, e189_11, kl_I, kl_R, kl_N, kl_L, oSm, oNn, Option.bind_some, wN, if_pos, if_neg, nS, tN, t0, w0, w1, w2, w3, w4, w5, wm1, upA_ne, upA_same, if_true, if_false, Bool.false_eq_true, q189, hn, e]
  · simp (disch := first | assumption | omega | (simp (disch := omega) only [wN, w0, w1]; omega)) only [e189_0, e189_1, e189_2, e189_3, e189_6, e189_7, e189_8, e189_11, kl_I, kl_R, kl_N, kl_L, oSm, oNn, Option.bind_some, wN, if_pos, if_neg, nS, tN, t0, w0, w1, w2, w3, w4, w5, wm1, upA_ne, upA_same, if_true, if_false, Bool.false_eq_true, q189, hn, e]
theorem M190 (hM : MS sh) (hG : HGm σ 0 c) (hc : c.length ≤ 30) (hz : i32 z) : run sh (d + 1) 190 [mR 124, mI z] σ = some (some (mI (if 0 ≤ z ∧ z < c.length then 1 else 0)), σ) := by
  have mo := hM.1
  have m160 := hM.2.1
  obtain ⟨ra1, rk1, rl1⟩ := ms1 hM
  have hn := hG.1
  have e := E164 (sh := sh) (d := d) (σ := σ) (z := z) (w := 0) (v := (c.length : Int) - 1) hz ⟨by omega, by omega⟩ ⟨by omega, by omega⟩
  rw [show (if 0 ≤ z ∧ z ≤ (c.length : Int) - 1 then (1 : Int) else 0) = if 0 ≤ z ∧ z < (c.length : Int) then 1 else 0 from ifI (by omega)] at e
  have hb := b01 (0 ≤ z ∧ z < (c.length : Int))
  generalize (if 0 ≤ z ∧ z < (c.length : Int) then (1 : Int) else 0) = bb at e hb ⊢
  rcases hb with rfl | rfl
  · simp (disch := first | assumption | omega | (simp (disch := omega) only [wN, w0, w1]; omega)) only [e190_0, e190_1, e190_2, e190_3, e190_6, e190_7, e190_8, e190_9, e190_10, e190_13, kl_I, kl_R, kl_N, kl_L, oSm, oNn, Option.bind_some, wN, if_pos, if_neg, nS, tN, t0, w0, w1, w2, w3, w4, w5, wm1, upA_ne, upA_same, if_true, if_false, Bool.false_eq_true, q190, ra1, rl1, hn, e]
  · simp (disch := first | assumption | omega | (simp (disch := omega) only [wN, w0, w1]; omega)) only [e190_0, e190_1, e190_2, e190_3, e190_6, e190_7, e190_8, e190_9, e190_10, e190_13, kl_I, kl_R, kl_N, kl_L, oSm, oNn, Option.bind_some, wN, if_pos, if_neg, nS, tN, t0, w0, w1, w2, w3, w4, w5, wm1, upA_ne, upA_same, if_true, if_false, Bool.false_eq_true, q190, ra1, rl1, hn, e]
end MB

