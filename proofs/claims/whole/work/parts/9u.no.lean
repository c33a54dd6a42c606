/-! ===== the reference: routes, gates that are done ===== -/
/-- what stays while a route is looked for -/
def RC (σ : Mem) (n m : Nat) (c : List Gt) (E : List Ed) (A : Nat → Nat) : Prop := HGm σ 0 c ∧ HFm σ m (farE E) ∧ (∀ y, y < c.length → σ.1 151 y = (A y : Int) ∧ A y < 2 ^ y) ∧ HEm σ 127 128 E ∧ σ.1 124 10 = (E.length : Int) ∧ σ.1 124 8 = (n : Int)
def stC (σ : Mem) (j : Nat) (s : Sp) : Prop := σ.1 150 (4 * j) = (s.1.1 : Int) ∧ σ.1 150 (4 * j + 1) = (s.1.2.1 : Int) ∧ σ.1 150 (4 * j + 2) = rb s.1 ∧ σ.1 150 (4 * j + 3) = if s.2 = true then -1 else rk s.1
/-- where it stands: lines, done, wear (if b), steps -/
def RV (b : Bool) (σ : Mem) (n : Nat) (P : Nat → Nat) (x : Nat × (Nat → Nat) × List Sp) : Prop := HLm σ 147 n P ∧ (∀ l, n ≤ l → l < 4 → σ.1 147 l = -1) ∧ σ.1 124 48 = (x.1 : Int) ∧ (b = true → ∀ p, p < 5 → σ.1 149 p = (x.2.1 p : Int)) ∧ σ.1 124 46 = (x.2.2.length : Int) ∧ ∀ j, j < x.2.2.length → stC σ j (sA x.2.2 j)
section NO
variable {sh : Shp} {d m n g : Nat} {σ : Mem} {E : List Ed} {a : AX} {z w : Int} {c : List Gt} {P A : Nat → Nat} {b : Bool} {x : Nat × (Nat → Nat) × List Sp}
theorem RC.W {σ' : Mem} {x y u v : Nat} (h : RC σ n m c E A) (hf : frW x y u v σ σ') (hx : 146 ≤ x ∧ y ≤ 150 ∨ 152 ≤ x ∧ y ≠ 124 ∨ y < x) (hu : 11 ≤ u ∨ v < u) : RC σ' n m c E A := by
  obtain ⟨h1, h2, h3, h4, h5, h6⟩ := h
  refine ⟨h1.Wf hf (by omega), h2.W hf (by omega), fun y hy => ?_, h4.W hf (by omega) (by omega), by rw [hf.2 10 (by omega)]; exact h5, by rw [hf.2 8 (by omega)]; exact h6⟩
  rw [(hf.1 151 (by omega) (by omega)).1]
  exact h3 y hy
theorem RV.W {σ' : Mem} {xx y u v : Nat} (h : RV b σ n P x) (hf : frW xx y u v σ σ') (hx : y < 147 ∨ 150 < xx ∨ (xx = 148 ∧ y = 148) ∨ y < xx) (hu : 48 < u ∨ v < u) : RV b σ' n P x := by
  obtain ⟨h1, h2, h3, h4, h5, h6⟩ := h
  refine ⟨fun y hy => ?_, fun l p q => ?_, by rw [hf.2 48 (by omega)]; exact h3, fun q p hp => ?_, by rw [hf.2 46 (by omega)]; exact h5, fun j hj => ?_⟩
  · rw [(hf.1 147 (by omega) (by omega)).1]; exact h1 y hy
  · rw [(hf.1 147 (by omega) (by omega)).1]; exact h2 l p q
  · rw [(hf.1 149 (by omega) (by omega)).1]; exact h4 q p hp
  · unfold stC
    rw [(hf.1 150 (by omega) (by omega)).1]; exact h6 j hj
theorem M244 {lo : Bool} (hM : MS sh) (hG : HGm σ 0 c) (hc : c.length ≤ 30) (hv : okC n c) (hN : σ.1 124 8 = (n : Int)) (hn : n ≤ 4) (hMp : σ.1 124 9 = (m : Int)) (hEl : σ.1 124 10 = (E.length : Int)) (hE : HEm σ 127 128 E) (hvE : okE m E) (hm : m ≤ 5) (h10 : E.length ≤ 10) : End (run sh (d + 4) 244 [mR 124, mI (bi lo)] σ) (fun r σ' => r = none ∧ RC σ' n m c E (ahS lo c) ∧ frW 137 151 1 0 σ σ') := by
  have mo := hM.1
  have m160 := hM.2.1
  obtain ⟨ra1, rk1, rl1⟩ := ms1 hM
  obtain ⟨ra32, rk32, rl32⟩ := ms32 hM
  obtain ⟨ra33, rk33, rl33⟩ := ms33 hM
  obtain ⟨ra45, rk45, rl45⟩ := ms45 hM
  obtain ⟨r, σ1, a1, rfl, a2, a3⟩ := M232 (d := d + 2) hM hMp hEl hE hvE hm h10
  have hG1 := hG.Wf a3 (by omega)
  obtain ⟨r, σ2, b1, rfl, b2, b3⟩ := M211 (d := d) (t := 0) (z := 0) hM hG1 (by omega) hc hv (by rw [a3.2 8 (by omega)]; exact hN) hn rfl
  have f2 : frW 137 151 1 0 σ σ2 := (a3.w (by omega) (by omega) (by omega) (by omega)).tr (b3.w (by omega) (by omega) (by omega) (by omega))
  have hF2 := a2.W b3 (by omega)
  have L := for_P (c.length) (fun i => ∀ (σ3 : Mem), ((∀ y, y < i → σ3.1 151 y = (ahS lo c y : Int)) ∧ frW 151 151 1 0 σ2 σ3) → End (ev sh (d + 4) 244 11 [some (mR (124)), some (mI (bi lo)), some (mI ((i : Nat) : Int))] [] σ3) (fun r σ' => r = none ∧ RC σ' n m c E (ahS lo c) ∧ frW 137 151 1 0 σ σ')) (by
    intro σ3  hp
    replace hp : (∀ y, y < (c.length) → σ3.1 151 y = (ahS lo c y : Int)) ∧ frW 151 151 1 0 σ2 σ3 := hp
    show End (ev sh (d + 4) 244 11 [some (mR (124)), some (mI (bi lo)), some (mI (((c.length) : Nat) : Int))] [] σ3) (fun r σ' => r = none ∧ RC σ' n m c E (ahS lo c) ∧ frW 137 151 1 0 σ σ')
    have f3 : frW 137 151 1 0 σ σ3 := f2.tr (hp.2.w (by omega) (by omega) (by omega) (by omega))
    have hG3 := hG.Wf f3 (by omega)
    have hl := hG3.1
    rw [e244_11]
    simp (disch := first | assumption | omega | (simp (disch := omega) only [wN, w0, w1]; omega)) only [e244_0, e244_1, e244_4, e244_5, e244_6, e244_9, e244_10, e244_12, e244_13, e244_16, e244_17, e244_18, e244_21, e244_22, e244_25, e244_26, e244_27, e244_30, e244_31, e244_34, e244_35, e244_36, e244_39, e244_40, e244_43, e244_44, e244_45, e244_46, e244_49, e244_52, kl_I, kl_R, kl_N, kl_L, oSm, oNn, Option.bind_some, wN, if_pos, if_neg, nS, tN, t0, w0, w1, w2, w3, w4, w5, wm1, upA_ne, upA_same, if_true, if_false, Bool.false_eq_true, ra1, rl1, hl]
    refine End.of rfl ⟨rfl, ⟨hG3, hF2.W hp.2 (by omega), fun y hy => ⟨hp.1 y hy, ahS_lt lo c y⟩, hE.W f3 (by omega) (by omega), by rw [f3.2 10 (by omega)]; exact hEl, by rw [f3.2 8 (by omega)]; exact hN⟩, f3⟩) (fun i hi ih => by
    replace ih : ∀ (σ3 : Mem), ((∀ y, y < (i + 1) → σ3.1 151 y = (ahS lo c y : Int)) ∧ frW 151 151 1 0 σ2 σ3) → End (ev sh (d + 4) 244 11 [some (mR (124)), some (mI (bi lo)), some (mI (((i + 1) : Nat) : Int))] [] σ3) (fun r σ' => r = none ∧ RC σ' n m c E (ahS lo c) ∧ frW 137 151 1 0 σ σ') := ih
    intro σ3  hp
    replace hp : (∀ y, y < i → σ3.1 151 y = (ahS lo c y : Int)) ∧ frW 151 151 1 0 σ2 σ3 := hp
    show End (ev sh (d + 4) 244 11 [some (mR (124)), some (mI (bi lo)), some (mI ((i : Nat) : Int))] [] σ3) (fun r σ' => r = none ∧ RC σ' n m c E (ahS lo c) ∧ frW 137 151 1 0 σ σ')
    have hl : σ3.1 126 0 = (c.length : Int) := by rw [(hp.2.1 126 (by omega) (by omega)).1]; exact (hG1.Wf b3 (by omega)).1
    obtain ⟨g1, g2, _⟩ := b2 i hi
    have k1 : σ3.1 139 i = (ahS false c i : Int) := by rw [(hp.2.1 139 (by omega) (by omega)).1]; exact g1
    have k2 : σ3.1 140 i = (ahS true c i : Int) := by rw [(hp.2.1 140 (by omega) (by omega)).1]; exact g2
    have fin : ∀ v : Int, v = (ahS lo c i : Int) → ∀ y, y < i + 1 → upA σ3.1 151 (up1 (σ3.1 151) i v) 151 y = (ahS lo c y : Int) := fun v hv0 y hy => by
      rw [upA_same]
      by_cases e : y = i
      · rw [e, up1_same]; exact hv0
      · rw [up1_ne e]; exact hp.1 y (by omega)
    rw [e244_11]
    cases lo with
    | false =>
      have wb : wi (bi false) = 0 := rfl
      simp (disch := first | assumption | omega | (simp (disch := omega) only [wN, w0, w1]; omega)) only [e244_0, e244_1, e244_4, e244_5, e244_6, e244_9, e244_10, e244_12, e244_13, e244_16, e244_17, e244_18, e244_21, e244_22, e244_25, e244_26, e244_27, e244_30, e244_31, e244_34, e244_35, e244_36, e244_39, e244_40, e244_43, e244_44, e244_45, e244_46, e244_49, e244_52, kl_I, kl_R, kl_N, kl_L, oSm, oNn, Option.bind_some, wN, if_pos, if_neg, nS, tN, t0, w0, w1, w2, w3, w4, w5, wm1, upA_ne, upA_same, if_true, if_false, Bool.false_eq_true, ra1, rl1, hl, ra32, rl32, ra33, rl33, ra45, rl45, k1, wb]
      exact ih _ ⟨fin _ rfl, hp.2.tr (frW.a (by omega) (by omega))⟩
    | true =>
      have wb : wi (bi true) = 1 := rfl
      have wb' : wi (bi true) ≠ 0 := by decide
      simp (disch := first | assumption | omega | (simp (disch := omega) only [wN, w0, w1]; omega)) only [e244_0, e244_1, e244_4, e244_5, e244_6, e244_9, e244_10, e244_12, e244_13, e244_16, e244_17, e244_18, e244_21, e244_22, e244_25, e244_26, e244_27, e244_30, e244_31, e244_34, e244_35, e244_36, e244_39, e244_40, e244_43, e244_44, e244_45, e244_46, e244_49, e244_52, kl_I, kl_R, kl_N, kl_L, oSm, oNn, Option.bind_some, wN, if_pos, if_neg, nS, tN, t0, w0, w1, w2, w3, w4, w5, wm1, upA_ne, upA_same, if_true, if_false, Bool.false_eq_true, ra1, rl1, hl, ra32, rl32, ra33, rl33, ra45, rl45, k2, wb]
      exact ih _ ⟨fin _ rfl, hp.2.tr (frW.a (by omega) (by omega))⟩) 0 (Nat.zero_le _)
  simp (disch := first | assumption | omega | (simp (disch := omega) only [wN, w0, w1]; omega)) only [e244_0, e244_1, e244_4, e244_5, e244_6, e244_9, e244_10, e244_12, e244_13, e244_16, e244_17, e244_18, e244_21, e244_22, e244_25, e244_26, e244_27, e244_30, e244_31, e244_34, e244_35, e244_36, e244_39, e244_40, e244_43, e244_44, e244_45, e244_46, e244_49, e244_52, kl_I, kl_R, kl_N, kl_L, oSm, oNn, Option.bind_some, wN, if_pos, if_neg, nS, tN, t0, w0, w1, w2, w3, w4, w5, wm1, upA_ne, upA_same, if_true, if_false, Bool.false_eq_true, q244, a1, b1]
  exact L _ ⟨fun y hy => by omega, frW.rf⟩
/-- a step is told -/
theorem M245 {r : Nat} {k p q u : Int} {sw : Bool} (hM : MS sh) (hr : σ.1 124 46 = (r : Int)) (h80 : r < 80) : ∃ σ', run sh d 245 [mR 124, mI k, mI p, mI q, mI u, mI (bi sw)] σ = some (none, σ') ∧ σ'.1 150 (4 * r) = k ∧ σ'.1 150 (4 * r + 1) = p ∧ σ'.1 150 (4 * r + 2) = q ∧ (σ'.1 150 (4 * r + 3) = if sw = true then -1 else u) ∧ (∀ i, i < 4 * r → σ'.1 150 i = σ.1 150 i) ∧ σ'.1 124 46 = ((r + 1 : Nat) : Int) ∧ frW 150 150 46 46 σ σ' := by
  have mo := hM.1
  have m160 := hM.2.1
  obtain ⟨ra44, rk44, rl44⟩ := ms44 hM
  cases sw with
  | true =>
    have wb : wi (bi true) = 1 := rfl
    simp (disch := first | assumption | omega | (simp (disch := omega) only [wN, w0, w1]; omega)) only [e245_0, e245_1, e245_2, e245_5, e245_6, e245_8, e245_9, e245_12, e245_14, e245_15, e245_16, e245_17, e245_20, e245_22, e245_23, e245_24, e245_25, e245_26, e245_27, e245_30, e245_32, e245_33, e245_34, e245_35, e245_36, e245_37, e245_40, e245_42, e245_43, e245_44, e245_46, e245_47, e245_50, e245_51, e245_54, e245_56, e245_57, e245_58, e245_59, e245_62, e245_63, e245_64, e245_67, kl_I, kl_R, kl_N, kl_L, oSm, oNn, Option.bind_some, wN, if_pos, if_neg, nS, tN, t0, w0, w1, w2, w3, w4, w5, wm1, upA_ne, upA_same, if_true, if_false, Bool.false_eq_true, q245, ra44, rl44, n4, nS2, nS3, hr, upA_upA, wb]
    refine ⟨_, rfl, ?_, ?_, ?_, ?_, fun i hi => ?_, ?_, ⟨fun b hb h4 => ⟨?_, rfl⟩, fun i hi => ?_⟩⟩
    all_goals simp (disch := omega) only [upA_same, upA_ne, up1_same, up1_ne]
  | false =>
    have wb : wi (bi false) = 0 := rfl
    simp (disch := first | assumption | omega | (simp (disch := omega) only [wN, w0, w1]; omega)) only [e245_0, e245_1, e245_2, e245_5, e245_6, e245_8, e245_9, e245_12, e245_14, e245_15, e245_16, e245_17, e245_20, e245_22, e245_23, e245_24, e245_25, e245_26, e245_27, e245_30, e245_32, e245_33, e245_34, e245_35, e245_36, e245_37, e245_40, e245_42, e245_43, e245_44, e245_46, e245_47, e245_50, e245_51, e245_54, e245_56, e245_57, e245_58, e245_59, e245_62, e245_63, e245_64, e245_67, kl_I, kl_R, kl_N, kl_L, oSm, oNn, Option.bind_some, wN, if_pos, if_neg, nS, tN, t0, w0, w1, w2, w3, w4, w5, wm1, upA_ne, upA_same, if_true, if_false, Bool.false_eq_true, q245, ra44, rl44, n4, nS2, nS3, hr, upA_upA, wb]
    refine ⟨_, rfl, ?_, ?_, ?_, ?_, fun i hi => ?_, ?_, ⟨fun b hb h4 => ⟨?_, rfl⟩, fun i hi => ?_⟩⟩
    all_goals simp (disch := omega) only [upA_same, upA_ne, up1_same, up1_ne]
theorem D30 {D k : Nat} (h : D < 2 ^ k) (hk : k ≤ 30) : D < 1073741824 := by
  have : 2 ^ k ≤ 2 ^ 30 := Nat.pow_le_pow_right (by omega) hk
  omega
theorem M246 {D : Nat} (hM : MS sh) (hR : RC σ n m c E A) (hc : c.length ≤ 30) (hD : σ.1 124 48 = (D : Int)) (hD2 : D < 2 ^ c.length) (hg : g < c.length) : run sh (d + 1) 246 [mR 124, mI (g : Int)] σ = some (some (mI (bi (opB A D g))), σ) := by
  have mo := hM.1
  have m160 := hM.2.1
  obtain ⟨ra45, rk45, rl45⟩ := ms45 hM
  obtain ⟨h1, h2, h3, _⟩ := hR
  obtain ⟨g1, g2⟩ := h3 g hg
  have hb := E167 (sh := sh) (d := d) (σ := σ) (b := D) (k := g) (by have := D30 hD2 hc; omega) (by omega)
  have ag := D30 g2 (by omega)
  have dg := D30 hD2 hc
  have xs := xsb (A := A g) (D := D) (by omega) (by omega)
  unfold opB
  by_cases e : D.testBit g = true
  · rw [e] at hb
    replace hb : run sh d 167 [mI (D : Int), mI (g : Int)] σ = some (some (mI 1), σ) := hb
    simp (disch := first | assumption | omega | (simp (disch := omega) only [wN, w0, w1]; omega)) only [e246_0, e246_1, e246_4, e246_5, e246_8, e246_11, e246_12, e246_15, e246_16, e246_17, e246_18, e246_21, e246_22, e246_23, e246_24, e246_27, e246_28, e246_31, e246_32, kl_I, kl_R, kl_N, kl_L, oSm, oNn, Option.bind_some, wN, if_pos, if_neg, nS, tN, t0, w0, w1, w2, w3, w4, w5, wm1, upA_ne, upA_same, if_true, if_false, Bool.false_eq_true, q246, hD, hb]
    simp [e]
  · have e' : D.testBit g = false := by simpa using e
    rw [e'] at hb
    replace hb : run sh d 167 [mI (D : Int), mI (g : Int)] σ = some (some (mI 0), σ) := hb
    by_cases f : sbB (A g) D = true
    · have x0 : wi (xand (A g : Int) (xxor (D : Int) (-1))) = 0 := by rw [xs]; exact f
      simp (disch := first | assumption | omega | (simp (disch := omega) only [wN, w0, w1]; omega)) only [e246_0, e246_1, e246_4, e246_5, e246_8, e246_11, e246_12, e246_15, e246_16, e246_17, e246_18, e246_21, e246_22, e246_23, e246_24, e246_27, e246_28, e246_31, e246_32, kl_I, kl_R, kl_N, kl_L, oSm, oNn, Option.bind_some, wN, if_pos, if_neg, nS, tN, t0, w0, w1, w2, w3, w4, w5, wm1, upA_ne, upA_same, if_true, if_false, Bool.false_eq_true, q246, hD, hb, ra45, rl45, g1, x0]
      simp [e', f]
    · have x0 : ¬ wi (xand (A g : Int) (xxor (D : Int) (-1))) = 0 := by rw [xs]; exact f
      simp (disch := first | assumption | omega | (simp (disch := omega) only [wN, w0, w1]; omega)) only [e246_0, e246_1, e246_4, e246_5, e246_8, e246_11, e246_12, e246_15, e246_16, e246_17, e246_18, e246_21, e246_22, e246_23, e246_24, e246_27, e246_28, e246_31, e246_32, kl_I, kl_R, kl_N, kl_L, oSm, oNn, Option.bind_some, wN, if_pos, if_neg, nS, tN, t0, w0, w1, w2, w3, w4, w5, wm1, upA_ne, upA_same, if_true, if_false, Bool.false_eq_true, q246, hD, hb, ra45, rl45, g1, x0]
      simp [f]
theorem M247 (hM : MS sh) (hR : RC σ n m c E A) (hc : c.length ≤ 30) (hv : okC n c) (hn : n ≤ 4) (hm : m ≤ 5) (hL : HLm σ 147 n P) (hP : okP n m P) (hg : g < c.length) : run sh (d + 2) 247 [mR 124, mI (g : Int)] σ = some (some (mI (bi (fiB (farE E) P (gA c g)))), σ) := by
  have mo := hM.1
  have m160 := hM.2.1
  obtain ⟨ra41, rk41, rl41⟩ := ms41 hM
  obtain ⟨h1, h2, h3, _⟩ := hR
  have a3 := E173 (d := d) (z := 0) hM h1 (by omega) hc hv hg rfl
  have hla : laI sh 147 := ⟨rk41, rl41⟩
  unfold fiB
  by_cases e : 3 ≤ (gA c g).1
  · rw [if_pos e] at a3
    have a7 := M237 (d := d) hM h1 hc hv h2 hm hla hL hP hn hg e
    have b := farE_le E (P (gA c g).2.1) (P (gA c g).2.2.toNat)
    by_cases f : farE E (P (gA c g).2.1) (P (gA c g).2.2.toNat) = 1
    · rw [f] at a7
      simp (disch := first | assumption | omega | (simp (disch := omega) only [wN, w0, w1]; omega)) only [e247_0, e247_1, e247_2, e247_3, e247_6, e247_9, e247_10, e247_11, e247_12, e247_15, e247_18, e247_19, e247_22, e247_23, e247_26, e247_27, kl_I, kl_R, kl_N, kl_L, oSm, oNn, Option.bind_some, wN, if_pos, if_neg, nS, tN, t0, w0, w1, w2, w3, w4, w5, wm1, upA_ne, upA_same, if_true, if_false, Bool.false_eq_true, q247, a3, ra41, rl41, a7]
      simp [f]
    · simp (disch := first | assumption | omega | (simp (disch := omega) only [wN, w0, w1]; omega)) only [e247_0, e247_1, e247_2, e247_3, e247_6, e247_9, e247_10, e247_11, e247_12, e247_15, e247_18, e247_19, e247_22, e247_23, e247_26, e247_27, kl_I, kl_R, kl_N, kl_L, oSm, oNn, Option.bind_some, wN, if_pos, if_neg, nS, tN, t0, w0, w1, w2, w3, w4, w5, wm1, upA_ne, upA_same, if_true, if_false, Bool.false_eq_true, q247, a3, ra41, rl41, a7]
      simp [f, e]
  · rw [if_neg e] at a3
    simp (disch := first | assumption | omega | (simp (disch := omega) only [wN, w0, w1]; omega)) only [e247_0, e247_1, e247_2, e247_3, e247_6, e247_9, e247_10, e247_11, e247_12, e247_15, e247_18, e247_19, e247_22, e247_23, e247_26, e247_27, kl_I, kl_R, kl_N, kl_L, oSm, oNn, Option.bind_some, wN, if_pos, if_neg, nS, tN, t0, w0, w1, w2, w3, w4, w5, wm1, upA_ne, upA_same, if_true, if_false, Bool.false_eq_true, q247, a3]
    simp [e]
theorem M249 {D : Nat} (hM : MS sh) (hR : RC σ n m c E A) (hc : c.length ≤ 30) (hv : okC n c) (hn : n ≤ 4) (hm : m ≤ 5) (hL : HLm σ 147 n P) (hP : okP n m P) (hD : σ.1 124 48 = (D : Int)) (hD2 : D < 2 ^ c.length) : run sh (d + 3) 249 [mR 124] σ = some (some (mI (opI (fst1 (dbB (farE E) c A P D) (c.length - 0) 0))), σ) := by
  have mo := hM.1
  have m160 := hM.2.1
  obtain ⟨ra1, rk1, rl1⟩ := ms1 hM
  have hl := hR.1.1
  have F := for_dn (fun i => ev sh (d + 3) 249 2 [some (mR (124)), some (mI ((i : Nat) : Int))] [] (σ)) (fun i => some (some (mI (opI (fst1 (dbB (farE E) c A P D) (c.length - i) i))), σ)) (c.length) (by
    show ev sh (d + 3) 249 2 [some (mR (124)), some (mI (((c.length) : Nat) : Int))] [] (σ) = some (some (mI (opI (fst1 (dbB (farE E) c A P D) (c.length - (c.length)) (c.length)))), σ)
    rw [fst1_e, e249_2]
    simp (disch := first | assumption | omega | (simp (disch := omega) only [wN, w0, w1]; omega)) only [e249_0, e249_1, e249_3, e249_4, e249_7, e249_8, e249_9, e249_12, e249_13, e249_14, e249_17, e249_20, e249_21, e249_22, e249_25, e249_28, e249_29, e249_30, e249_33, e249_36, e249_37, kl_I, kl_R, kl_N, kl_L, oSm, oNn, Option.bind_some, wN, if_pos, if_neg, nS, tN, t0, w0, w1, w2, w3, w4, w5, wm1, upA_ne, upA_same, if_true, if_false, Bool.false_eq_true, ra1, rl1, hl]
    rfl) (fun i hi ih => by
    replace ih : ev sh (d + 3) 249 2 [some (mR (124)), some (mI (((i + 1) : Nat) : Int))] [] (σ) = some (some (mI (opI (fst1 (dbB (farE E) c A P D) (c.length - (i + 1)) (i + 1)))), σ) := ih
    show ev sh (d + 3) 249 2 [some (mR (124)), some (mI ((i : Nat) : Int))] [] (σ) = some (some (mI (opI (fst1 (dbB (farE E) c A P D) (c.length - i) i))), σ)
    have b1 := M246 (d := d + 1) hM hR hc hD hD2 hi
    have b2 := M247 (d := d) hM hR hc hv hn hm hL hP hi
    rw [fst1_s hi, e249_2]
    by_cases e : opB A D i = true
    · rw [e] at b1
      replace b1 : run sh (d + 2) 246 [mR 124, mI (i : Int)] σ = some (some (mI 1), σ) := b1
      by_cases f : fiB (farE E) P (gA c i) = true
      · rw [f] at b2
        replace b2 : run sh (d + 2) 247 [mR 124, mI (i : Int)] σ = some (some (mI 1), σ) := b2
        rw [if_pos (show dbB (farE E) c A P D i = true by unfold dbB; rw [e, f]; rfl)]
        simp (disch := first | assumption | omega | (simp (disch := omega) only [wN, w0, w1]; omega)) only [e249_0, e249_1, e249_3, e249_4, e249_7, e249_8, e249_9, e249_12, e249_13, e249_14, e249_17, e249_20, e249_21, e249_22, e249_25, e249_28, e249_29, e249_30, e249_33, e249_36, e249_37, kl_I, kl_R, kl_N, kl_L, oSm, oNn, Option.bind_some, wN, if_pos, if_neg, nS, tN, t0, w0, w1, w2, w3, w4, w5, wm1, upA_ne, upA_same, if_true, if_false, Bool.false_eq_true, ra1, rl1, hl, b1, b2]
        rfl
      · have f' : fiB (farE E) P (gA c i) = false := by simpa using f
        rw [f'] at b2
        replace b2 : run sh (d + 2) 247 [mR 124, mI (i : Int)] σ = some (some (mI 0), σ) := b2
        rw [if_neg (show ¬ dbB (farE E) c A P D i = true by unfold dbB; rw [f']; simp)]
        simp (disch := first | assumption | omega | (simp (disch := omega) only [wN, w0, w1]; omega)) only [e249_0, e249_1, e249_3, e249_4, e249_7, e249_8, e249_9, e249_12, e249_13, e249_14, e249_17, e249_20, e249_21, e249_22, e249_25, e249_28, e249_29, e249_30, e249_33, e249_36, e249_37, kl_I, kl_R, kl_N, kl_L, oSm, oNn, Option.bind_some, wN, if_pos, if_neg, nS, tN, t0, w0, w1, w2, w3, w4, w5, wm1, upA_ne, upA_same, if_true, if_false, Bool.false_eq_true, ra1, rl1, hl, b1, b2]
        exact ih
    · have e' : opB A D i = false := by simpa using e
      rw [e'] at b1
      replace b1 : run sh (d + 2) 246 [mR 124, mI (i : Int)] σ = some (some (mI 0), σ) := b1
      rw [if_neg (show ¬ dbB (farE E) c A P D i = true by unfold dbB; rw [e']; simp)]
      simp (disch := first | assumption | omega | (simp (disch := omega) only [wN, w0, w1]; omega)) only [e249_0, e249_1, e249_3, e249_4, e249_7, e249_8, e249_9, e249_12, e249_13, e249_14, e249_17, e249_20, e249_21, e249_22, e249_25, e249_28, e249_29, e249_30, e249_33, e249_36, e249_37, kl_I, kl_R, kl_N, kl_L, oSm, oNn, Option.bind_some, wN, if_pos, if_neg, nS, tN, t0, w0, w1, w2, w3, w4, w5, wm1, upA_ne, upA_same, if_true, if_false, Bool.false_eq_true, ra1, rl1, hl, b1]
      exact ih) 0 (Nat.zero_le _)
  simp (disch := first | assumption | omega | (simp (disch := omega) only [wN, w0, w1]; omega)) only [e249_0, e249_1, e249_3, e249_4, e249_7, e249_8, e249_9, e249_12, e249_13, e249_14, e249_17, e249_20, e249_21, e249_22, e249_25, e249_28, e249_29, e249_30, e249_33, e249_36, e249_37, kl_I, kl_R, kl_N, kl_L, oSm, oNn, Option.bind_some, wN, if_pos, if_neg, nS, tN, t0, w0, w1, w2, w3, w4, w5, wm1, upA_ne, upA_same, if_true, if_false, Bool.false_eq_true, q249]
  exact F
end NO

