/-! ===== the reference: doCommute answers cmB ===== -/
section MX
variable {sh : Shp} {d t g h n s : Nat} {σ : Mem} {z : Int} {c : List Gt} {a : Nat}
theorem M210c (hM : MS sh) (hG : HGm σ t c) (ht : t < 3) (hc : c.length ≤ 30) (hv : okC n c) (hN : σ.1 124 8 = (n : Int)) (hn : n ≤ 4) (hg : g < c.length) (hh : h < c.length) (hz : z = (t : Int)) : End (run sh (d + 2) 210 [mR 124, mI z, mI (g : Int), mI (h : Int)] σ) (fun r σ' => r = some (mI (if cmB (gA c g) (gA c h) = true then 1 else 0)) ∧ frW 137 138 1 0 σ σ') := by
  obtain ⟨r, σ', e1, e2, e3⟩ := M210 (d := d) hM hG ht hc hv hN hn hg hh hz
  refine ⟨r, σ', e1, ?_, e3⟩
  have k := co_cm hn (hv.at hg) (hv.at hh)
  rcases e2 with ⟨f1, f2⟩ | ⟨f1, f2⟩
  · rw [if_pos (k.mp f2)]; exact f1
  · rw [if_neg (fun q => f2 (k.mpr q))]; exact f1
/-- copies: all that a slot may hold -/
theorem M172 (hM : MS sh) {u : Nat} (hG : HGm σ t c) (hc : c.length ≤ 30) (ht : t < 3) (hu : u < 3) (htu : t ≠ u) {w : Int} (hz : z = (t : Int)) (hw : w = (u : Int)) : End (run sh d 172 [mR 124, mI z, mI w] σ) (fun r σ' => r = none ∧ HGm σ' u c ∧ frW 125 126 1 0 σ σ' ∧ (∀ y, y ≠ u → σ'.1 126 y = σ.1 126 y) ∧ ∀ y, (y < 120 * u ∨ 120 * u + 120 ≤ y) → σ'.1 125 y = σ.1 125 y) := by
  subst hz hw
  have mo := hM.1
  have m160 := hM.2.1
  obtain ⟨ra0, rk0, rl0⟩ := ms0 hM
  obtain ⟨ra1, rk1, rl1⟩ := ms1 hM
  have hl := hG.1
  have w120 : wi 120 = 120 := rfl
  have L := for_P (120) (fun i => ∀ (σ1 : Mem), ((∀ x, x < i → σ1.1 125 (120 * u + x) = σ.1 125 (120 * t + x)) ∧ (∀ x, (x < 120 * u ∨ 120 * u + i ≤ x) → σ1.1 125 x = σ.1 125 x) ∧ σ1.1 126 u = (c.length : Int) ∧ (∀ x, x ≠ u → σ1.1 126 x = σ.1 126 x) ∧ frW 125 126 1 0 σ σ1) → End (ev sh d 172 14 [some (mR (124)), some (mI ((t : Nat) : Int)), some (mI ((u : Nat) : Int)), some (mI ((i : Nat) : Int))] [] σ1) (fun r σ' => r = none ∧ HGm σ' u c ∧ frW 125 126 1 0 σ σ' ∧ (∀ y, y ≠ u → σ'.1 126 y = σ.1 126 y) ∧ ∀ y, (y < 120 * u ∨ 120 * u + 120 ≤ y) → σ'.1 125 y = σ.1 125 y)) (by
    intro σ1  hp
    replace hp : (∀ x, x < (120) → σ1.1 125 (120 * u + x) = σ.1 125 (120 * t + x)) ∧ (∀ x, (x < 120 * u ∨ 120 * u + (120) ≤ x) → σ1.1 125 x = σ.1 125 x) ∧ σ1.1 126 u = (c.length : Int) ∧ (∀ x, x ≠ u → σ1.1 126 x = σ.1 126 x) ∧ frW 125 126 1 0 σ σ1 := hp
    show End (ev sh d 172 14 [some (mR (124)), some (mI ((t : Nat) : Int)), some (mI ((u : Nat) : Int)), some (mI (((120) : Nat) : Int))] [] σ1) (fun r σ' => r = none ∧ HGm σ' u c ∧ frW 125 126 1 0 σ σ' ∧ (∀ y, y ≠ u → σ'.1 126 y = σ.1 126 y) ∧ ∀ y, (y < 120 * u ∨ 120 * u + 120 ≤ y) → σ'.1 125 y = σ.1 125 y)
    obtain ⟨e1, e2, e3, e4, e5⟩ := hp
    rw [e172_14]
    simp (disch := first | assumption | omega | (simp (disch := omega) only [wN, w0, w1]; omega)) only [e172_0, e172_1, e172_4, e172_5, e172_6, e172_9, e172_10, e172_11, e172_12, e172_13, e172_15, e172_17, e172_20, e172_21, e172_24, e172_26, e172_27, e172_28, e172_29, e172_30, e172_31, e172_34, e172_36, e172_37, e172_38, e172_39, e172_40, e172_41, e172_42, e172_45, e172_48, kl_I, kl_R, kl_N, kl_L, oSm, oNn, Option.bind_some, wN, if_pos, if_neg, nS, tN, t0, w0, w1, w2, w3, w4, w5, wm1, upA_ne, upA_same, if_true, if_false, Bool.false_eq_true, w120]
    refine End.of rfl ⟨rfl, ⟨e3, fun g hg => ?_⟩, e5, e4, e2⟩
    rw [show 120 * u + 4 * g + 1 = 120 * u + (4 * g + 1) by omega, show 120 * u + 4 * g + 2 = 120 * u + (4 * g + 2) by omega, show 120 * u + 4 * g + 3 = 120 * u + (4 * g + 3) by omega, show 120 * u + 4 * g = 120 * u + (4 * g) by omega, e1 _ (by omega), e1 _ (by omega), e1 _ (by omega), e1 _ (by omega)]
    exact hG.2 g hg) (fun i hi ih => by
    replace ih : ∀ (σ1 : Mem), ((∀ x, x < (i + 1) → σ1.1 125 (120 * u + x) = σ.1 125 (120 * t + x)) ∧ (∀ x, (x < 120 * u ∨ 120 * u + (i + 1) ≤ x) → σ1.1 125 x = σ.1 125 x) ∧ σ1.1 126 u = (c.length : Int) ∧ (∀ x, x ≠ u → σ1.1 126 x = σ.1 126 x) ∧ frW 125 126 1 0 σ σ1) → End (ev sh d 172 14 [some (mR (124)), some (mI ((t : Nat) : Int)), some (mI ((u : Nat) : Int)), some (mI (((i + 1) : Nat) : Int))] [] σ1) (fun r σ' => r = none ∧ HGm σ' u c ∧ frW 125 126 1 0 σ σ' ∧ (∀ y, y ≠ u → σ'.1 126 y = σ.1 126 y) ∧ ∀ y, (y < 120 * u ∨ 120 * u + 120 ≤ y) → σ'.1 125 y = σ.1 125 y) := ih
    intro σ1  hp
    replace hp : (∀ x, x < i → σ1.1 125 (120 * u + x) = σ.1 125 (120 * t + x)) ∧ (∀ x, (x < 120 * u ∨ 120 * u + i ≤ x) → σ1.1 125 x = σ.1 125 x) ∧ σ1.1 126 u = (c.length : Int) ∧ (∀ x, x ≠ u → σ1.1 126 x = σ.1 126 x) ∧ frW 125 126 1 0 σ σ1 := hp
    show End (ev sh d 172 14 [some (mR (124)), some (mI ((t : Nat) : Int)), some (mI ((u : Nat) : Int)), some (mI ((i : Nat) : Int))] [] σ1) (fun r σ' => r = none ∧ HGm σ' u c ∧ frW 125 126 1 0 σ σ' ∧ (∀ y, y ≠ u → σ'.1 126 y = σ.1 126 y) ∧ ∀ y, (y < 120 * u ∨ 120 * u + 120 ≤ y) → σ'.1 125 y = σ.1 125 y)
    obtain ⟨e1, e2, e3, e4, e5⟩ := hp
    have g1 := e2 (120 * t + i) (by omega)
    rw [e172_14]
    simp (disch := first | assumption | omega | (simp (disch := omega) only [wN, w0, w1]; omega)) only [e172_0, e172_1, e172_4, e172_5, e172_6, e172_9, e172_10, e172_11, e172_12, e172_13, e172_15, e172_17, e172_20, e172_21, e172_24, e172_26, e172_27, e172_28, e172_29, e172_30, e172_31, e172_34, e172_36, e172_37, e172_38, e172_39, e172_40, e172_41, e172_42, e172_45, e172_48, kl_I, kl_R, kl_N, kl_L, oSm, oNn, Option.bind_some, wN, if_pos, if_neg, nS, tN, t0, w0, w1, w2, w3, w4, w5, wm1, upA_ne, upA_same, if_true, if_false, Bool.false_eq_true, w120, ra0, rl0, n120, ← Int.natCast_add, g1]
    refine ih _ ⟨fun x hx => ?_, fun x hx => ?_, ?_, fun x hx => ?_, e5.tr (frW.a (by omega) (by omega))⟩
    · by_cases q : x = i
      · subst q
        simp (disch := omega) only [upA_same, up1_same]
      · simp (disch := omega) only [upA_same, up1_ne]
        exact e1 x (by omega)
    · simp (disch := omega) only [upA_same, up1_ne]
      exact e2 x (by omega)
    · simp (disch := omega) only [upA_ne]
      exact e3
    · simp (disch := omega) only [upA_ne]
      exact e4 x hx) 0 (Nat.zero_le _)
  simp (disch := first | assumption | omega | (simp (disch := omega) only [wN, w0, w1]; omega)) only [e172_0, e172_1, e172_4, e172_5, e172_6, e172_9, e172_10, e172_11, e172_12, e172_13, e172_15, e172_17, e172_20, e172_21, e172_24, e172_26, e172_27, e172_28, e172_29, e172_30, e172_31, e172_34, e172_36, e172_37, e172_38, e172_39, e172_40, e172_41, e172_42, e172_45, e172_48, kl_I, kl_R, kl_N, kl_L, oSm, oNn, Option.bind_some, wN, if_pos, if_neg, nS, tN, t0, w0, w1, w2, w3, w4, w5, wm1, upA_ne, upA_same, if_true, if_false, Bool.false_eq_true, q172, ra1, rl1, hl]
  refine L _ ⟨fun x hx => by omega, fun x _ => ?_, ?_, fun x hx => ?_, frW.a (by omega) (by omega)⟩
  · simp (disch := omega) only [upA_ne]
  · simp (disch := omega) only [upA_same, up1_same]
  · simp (disch := omega) only [upA_same, up1_ne]
end MX

