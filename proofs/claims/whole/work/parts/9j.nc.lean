/-! ===== the reference: gates close up, equal ones, what can pass ===== -/
/-- nothing but gates of slot t, how many they are, and rows of amplitudes has changed -/
def frS (t : Nat) (σ σ' : Mem) : Prop := (∀ a, a ≠ 125 → a ≠ 126 → a ≠ 137 → a ≠ 138 → σ'.1 a = σ.1 a) ∧ (∀ y, y ≠ t → σ'.1 126 y = σ.1 126 y) ∧ ∀ y, (y < 120 * t ∨ 120 * t + 120 ≤ y) → σ'.1 125 y = σ.1 125 y
theorem frS.rf {t : Nat} {σ : Mem} : frS t σ σ := ⟨fun _ _ _ _ _ => rfl, fun _ _ => rfl, fun _ _ => rfl⟩
theorem frS.tr {t : Nat} {σ σ1 σ2 : Mem} (h : frS t σ σ1) (h2 : frS t σ1 σ2) : frS t σ σ2 := ⟨fun a p q r s => (h2.1 a p q r s).trans (h.1 a p q r s), fun y hy => (h2.2.1 y hy).trans (h.2.1 y hy), fun y hy => (h2.2.2 y hy).trans (h.2.2 y hy)⟩
theorem frW.S {t : Nat} {σ σ' : Mem} (h : frW 137 138 1 0 σ σ') : frS t σ σ' := by
  have h124 : σ'.1 124 = σ.1 124 := funext fun i => h.2 i (by omega)
  refine ⟨fun a p q r s => ?_, fun y _ => by rw [(h.1 126 (by omega) (by omega)).1], fun y _ => by rw [(h.1 125 (by omega) (by omega)).1]⟩
  by_cases e : a = 124
  · subst e
    exact h124
  · exact (h.1 a (by omega) e).1
section NC
variable {sh : Shp} {d t g h n : Nat} {σ : Mem} {z : Int} {c : List Gt}
theorem M215 (hM : MS sh) (hG : HGm σ t c) (ht : t < 3) (hc : c.length ≤ 30) (hg : g < c.length) (hz : z = (t : Int)) : End (run sh d 215 [mR 124, mI z, mI (g : Int)] σ) (fun r σ' => r = none ∧ HGm σ' t (c.eraseIdx g) ∧ frS t σ σ') := by
  subst hz
  have mo := hM.1
  have m160 := hM.2.1
  obtain ⟨ra0, rk0, rl0⟩ := ms0 hM
  obtain ⟨ra1, rk1, rl1⟩ := ms1 hM
  have L := for_P (4 * (c.length - 1 - g)) (fun i => ∀ (σ1 : Mem), ((∀ x, 4 * g ≤ x → x < 4 * g + i → σ1.1 125 (120 * t + x) = σ.1 125 (120 * t + x + 4)) ∧ (∀ x, (x < 120 * t + 4 * g ∨ 120 * t + 4 * g + i ≤ x) → σ1.1 125 x = σ.1 125 x) ∧ (∀ a, a ≠ 125 → σ1.1 a = σ.1 a)) → End (ev sh d 215 4 [some (mR (124)), some (mI ((t : Nat) : Int)), some (mI ((g : Nat) : Int)), some (mI ((4 * g + i : Nat) : Int))] [] σ1) (fun r σ' => r = none ∧ HGm σ' t (c.eraseIdx g) ∧ frS t σ σ')) (by
    intro σ1  hp
    replace hp : (∀ x, 4 * g ≤ x → x < 4 * g + (4 * (c.length - 1 - g)) → σ1.1 125 (120 * t + x) = σ.1 125 (120 * t + x + 4)) ∧ (∀ x, (x < 120 * t + 4 * g ∨ 120 * t + 4 * g + (4 * (c.length - 1 - g)) ≤ x) → σ1.1 125 x = σ.1 125 x) ∧ (∀ a, a ≠ 125 → σ1.1 a = σ.1 a) := hp
    show End (ev sh d 215 4 [some (mR (124)), some (mI ((t : Nat) : Int)), some (mI ((g : Nat) : Int)), some (mI ((4 * g + (4 * (c.length - 1 - g)) : Nat) : Int))] [] σ1) (fun r σ' => r = none ∧ HGm σ' t (c.eraseIdx g) ∧ frS t σ σ')
    obtain ⟨e1, e2, e3⟩ := hp
    have hl : σ1.1 126 t = (c.length : Int) := by rw [e3 126 (by omega)]; exact hG.1
    have q1 : (4 : Int) * (c.length : Int) - 4 = ((4 * g + 4 * (c.length - 1 - g) : Nat) : Int) := by omega
    have q2 : (c.length : Int) - 1 = ((c.length - 1 : Nat) : Int) := by omega
    have le : (c.eraseIdx g).length = c.length - 1 := List.length_eraseIdx_of_lt hg
    rw [e215_4]
    simp (disch := first | assumption | omega | (simp (disch := omega) only [wN, w0, w1]; omega)) only [e215_0, e215_1, e215_2, e215_3, e215_5, e215_6, e215_7, e215_10, e215_11, e215_12, e215_13, e215_14, e215_15, e215_18, e215_19, e215_22, e215_24, e215_25, e215_26, e215_27, e215_28, e215_29, e215_32, e215_34, e215_35, e215_36, e215_37, e215_38, e215_39, e215_40, e215_41, e215_42, e215_45, e215_48, e215_49, e215_52, e215_53, e215_54, e215_57, e215_58, e215_59, e215_60, e215_61, e215_62, kl_I, kl_R, kl_N, kl_L, oSm, oNn, Option.bind_some, wN, if_pos, if_neg, nS, tN, t0, w0, w1, w2, w3, w4, w5, wm1, upA_ne, upA_same, if_true, if_false, Bool.false_eq_true, ra1, rl1, hl, q1, q2]
    refine End.of rfl ⟨rfl, ⟨?_, fun y hy => ?_⟩, fun a p q r s => ?_, fun y hy => ?_, fun y hy => ?_⟩
    · simp (disch := omega) only [upA_same, up1_same, le]
    · rw [le] at hy
      simp (disch := omega) only [upA_ne]
      rw [gA_erase]
      by_cases q : y < g
      · rw [if_pos q, e2 _ (by omega), e2 _ (by omega), e2 _ (by omega), e2 _ (by omega)]
        exact hG.2 y (by omega)
      · rw [if_neg q]
        have k := hG.2 (y + 1) (by omega)
        rw [show 120 * t + 4 * y + 1 = 120 * t + (4 * y + 1) by omega, show 120 * t + 4 * y + 2 = 120 * t + (4 * y + 2) by omega, show 120 * t + 4 * y + 3 = 120 * t + (4 * y + 3) by omega, e1 _ (by omega) (by omega), e1 _ (by omega) (by omega), e1 _ (by omega) (by omega), e1 _ (by omega) (by omega)]
        rw [show 120 * t + 4 * (y + 1) = 120 * t + 4 * y + 4 by omega] at k
        exact k
    · simp (disch := omega) only [upA_ne]
      exact e3 a p
    · simp (disch := omega) only [upA_same, up1_ne]
      rw [e3 126 (by omega)]
    · simp (disch := omega) only [upA_ne]
      exact e2 y (by omega)) (fun i hi ih => by
    replace ih : ∀ (σ1 : Mem), ((∀ x, 4 * g ≤ x → x < 4 * g + (i + 1) → σ1.1 125 (120 * t + x) = σ.1 125 (120 * t + x + 4)) ∧ (∀ x, (x < 120 * t + 4 * g ∨ 120 * t + 4 * g + (i + 1) ≤ x) → σ1.1 125 x = σ.1 125 x) ∧ (∀ a, a ≠ 125 → σ1.1 a = σ.1 a)) → End (ev sh d 215 4 [some (mR (124)), some (mI ((t : Nat) : Int)), some (mI ((g : Nat) : Int)), some (mI ((4 * g + (i + 1) : Nat) : Int))] [] σ1) (fun r σ' => r = none ∧ HGm σ' t (c.eraseIdx g) ∧ frS t σ σ') := ih
    intro σ1  hp
    replace hp : (∀ x, 4 * g ≤ x → x < 4 * g + i → σ1.1 125 (120 * t + x) = σ.1 125 (120 * t + x + 4)) ∧ (∀ x, (x < 120 * t + 4 * g ∨ 120 * t + 4 * g + i ≤ x) → σ1.1 125 x = σ.1 125 x) ∧ (∀ a, a ≠ 125 → σ1.1 a = σ.1 a) := hp
    show End (ev sh d 215 4 [some (mR (124)), some (mI ((t : Nat) : Int)), some (mI ((g : Nat) : Int)), some (mI ((4 * g + i : Nat) : Int))] [] σ1) (fun r σ' => r = none ∧ HGm σ' t (c.eraseIdx g) ∧ frS t σ σ')
    obtain ⟨e1, e2, e3⟩ := hp
    have hl : σ1.1 126 t = (c.length : Int) := by rw [e3 126 (by omega)]; exact hG.1
    have q1 : (4 : Int) * (c.length : Int) - 4 = ((4 * (c.length - 1) : Nat) : Int) := by omega
    have q2 : ((120 * t + (4 * g + i) : Nat) : Int) + 4 = ((120 * t + (4 * g + i) + 4 : Nat) : Int) := by omega
    have g1 := e2 (120 * t + (4 * g + i) + 4) (by omega)
    rw [e215_4]
    simp (disch := first | assumption | omega | (simp (disch := omega) only [wN, w0, w1]; omega)) only [e215_0, e215_1, e215_2, e215_3, e215_5, e215_6, e215_7, e215_10, e215_11, e215_12, e215_13, e215_14, e215_15, e215_18, e215_19, e215_22, e215_24, e215_25, e215_26, e215_27, e215_28, e215_29, e215_32, e215_34, e215_35, e215_36, e215_37, e215_38, e215_39, e215_40, e215_41, e215_42, e215_45, e215_48, e215_49, e215_52, e215_53, e215_54, e215_57, e215_58, e215_59, e215_60, e215_61, e215_62, kl_I, kl_R, kl_N, kl_L, oSm, oNn, Option.bind_some, wN, if_pos, if_neg, nS, tN, t0, w0, w1, w2, w3, w4, w5, wm1, upA_ne, upA_same, if_true, if_false, Bool.false_eq_true, ra0, rl0, ra1, rl1, hl, q1, n120, ← Int.natCast_add, q2, g1]
    refine ih _ ⟨fun x h1 h2 => ?_, fun x hx => ?_, fun a ha => ?_⟩
    · simp (disch := omega) only [upA_same]
      by_cases q : x = 4 * g + i
      · subst q
        rw [up1_same]
      · rw [up1_ne (by omega)]
        exact e1 x h1 (by omega)
    · simp (disch := omega) only [upA_same, up1_ne]
      exact e2 x (by omega)
    · simp (disch := omega) only [upA_ne]
      exact e3 a ha) 0 (Nat.zero_le _)
  have L0 := L σ ⟨fun x h1 h2 => by omega, fun _ _ => rfl, fun _ _ => rfl⟩
  rw [Nat.add_zero] at L0
  simp (disch := first | assumption | omega | (simp (disch := omega) only [wN, w0, w1]; omega)) only [e215_0, e215_1, e215_2, e215_3, e215_5, e215_6, e215_7, e215_10, e215_11, e215_12, e215_13, e215_14, e215_15, e215_18, e215_19, e215_22, e215_24, e215_25, e215_26, e215_27, e215_28, e215_29, e215_32, e215_34, e215_35, e215_36, e215_37, e215_38, e215_39, e215_40, e215_41, e215_42, e215_45, e215_48, e215_49, e215_52, e215_53, e215_54, e215_57, e215_58, e215_59, e215_60, e215_61, e215_62, kl_I, kl_R, kl_N, kl_L, oSm, oNn, Option.bind_some, wN, if_pos, if_neg, nS, tN, t0, w0, w1, w2, w3, w4, w5, wm1, upA_ne, upA_same, if_true, if_false, Bool.false_eq_true, q215, n4]
  exact L0
theorem M216 (hM : MS sh) (hG : HGm σ t c) (ht : t < 3) (hc : c.length ≤ 30) (hv : okC n c) (hn : n ≤ 4) (hg : g < c.length) (hh : h < c.length) (hz : z = (t : Int)) : run sh (d + 3) 216 [mR 124, mI z, mI (g : Int), mI (h : Int)] σ = some (some (mI (bi (alB (gA c g) (gA c h)))), σ) := by
  have mo := hM.1
  have a0 := of0 (d := d + 2) hM hG ht hc hg hz
  have a1 := of1 (d := d + 2) hM hG ht hc hg hz
  have a2 := of2 (d := d + 2) hM hG ht hc hg hz
  have b0 := of0 (d := d + 2) hM hG ht hc hh hz
  have b1 := of1 (d := d + 2) hM hG ht hc hh hz
  have b2 := of2 (d := d + 2) hM hG ht hc hh hz
  have al := E174 (d := d) hM hG ht hc hv (by omega) hg hz
  have bl := E174 (d := d) hM hG ht hc hv (by omega) hh hz
  obtain ⟨u1, u2, u3, u4, u5⟩ := hv.at hg
  obtain ⟨v1, v2, v3, v4, v5⟩ := hv.at hh
  have m1 := gm_lt (hv.at hg) (by omega)
  have m2 := gm_lt (hv.at hh) (by omega)
  have mm : alB (gA c g) (gA c h) = true ↔ (gA c g).1 = (gA c h).1 ∧ gm (gA c g) = gm (gA c h) ∧ ((gA c g).1 = 3 → (gA c g).2.1 = (gA c h).2.1) := by
    simp only [alB, Bool.and_eq_true, Bool.or_eq_true, decide_eq_true_eq]
    constructor
    · rintro ⟨p, q, r⟩
      exact ⟨p, q, fun x => r.resolve_left (fun y => y x)⟩
    · rintro ⟨p, q, r⟩
      refine ⟨p, q, ?_⟩
      by_cases x : (gA c g).1 = 3
      · exact Or.inr (r x)
      · exact Or.inl x
  generalize hq : gA c g = q at *
  generalize hr : gA c h = r at *
  obtain ⟨k, l, b⟩ := q
  obtain ⟨k', l', b'⟩ := r
  simp only at *
  by_cases e : k = k'
  · subst e
    by_cases e4 : k < 4
    · -- lines told alike
      have key : alB (k, l, b) (k, l', b') = true ↔ l = l' ∧ rb (k, l, b) = rb (k, l', b') := by
        rw [mm]
        by_cases k3 : k < 3
        · have e1 : gm (k, l, b) = 2 ^ l := by rw [gm, if_pos (by exact k3)]
          have e2 : gm (k, l', b') = 2 ^ l' := by rw [gm, if_pos (by exact k3)]
          rw [e1, e2, rb, rb, if_pos (by exact k3), if_pos (by exact k3)]
          constructor
          · rintro ⟨_, p, _⟩
            exact ⟨Nat.pow_right_inj (by omega) |>.mp p, rfl⟩
          · rintro ⟨p, _⟩
            exact ⟨rfl, by rw [p], fun x => by omega⟩
        · have k3' : k = 3 := by omega
          subst k3'
          have p5 := u5 (by omega)
          have r5 := v5 (by omega)
          obtain ⟨x, rfl⟩ : ∃ x : Nat, b = (x : Int) := ⟨b.toNat, by omega⟩
          obtain ⟨y, rfl⟩ : ∃ y : Nat, b' = (y : Int) := ⟨b'.toNat, by omega⟩
          have e1 : gm (3, l, (x : Int)) = 2 ^ l ||| 2 ^ x := rfl
          have e2 : gm (3, l', (y : Int)) = 2 ^ l' ||| 2 ^ y := rfl
          rw [e1, e2, rb, rb, if_neg (by simp), if_neg (by simp)]
          constructor
          · rintro ⟨_, p, q⟩
            have ll := q rfl
            refine ⟨ll, ?_⟩
            subst ll
            show ((x : Nat) : Int) = ((y : Nat) : Int)
            have hx := congrArg (fun N => N.testBit x) p
            simp only [Nat.testBit_or, Nat.testBit_two_pow] at hx
            have : ¬ l = x := by omega
            simp [this] at hx
            omega
          · rintro ⟨p, q⟩
            subst p
            have q' : ((x : Nat) : Int) = ((y : Nat) : Int) := q
            have : x = y := by omega
            subst this
            exact ⟨rfl, rfl, fun _ => rfl⟩
      have rr : -1 ≤ rb (k, l, b) ∧ rb (k, l, b) < 8 := by
        rw [rb]
        split
        · omega
        · have := u5 (by rename_i q; simp only at q; omega)
          simp only
          omega
      have rr' : -1 ≤ rb (k, l', b') ∧ rb (k, l', b') < 8 := by
        rw [rb]
        split
        · omega
        · have := v5 (by rename_i q; simp only at q; omega)
          simp only
          omega
      have ww := wi_id (z := rb (k, l, b)) (by omega) (by omega)
      have ww' := wi_id (z := rb (k, l', b')) (by omega) (by omega)
      generalize rb (k, l, b) = B at *
      generalize rb (k, l', b') = B' at *
      by_cases f1 : l = l'
      · subst f1
        by_cases f2 : B = B'
        · have x : alB (k, l, b) (k, l, b') = true := key.mpr ⟨rfl, f2⟩
          simp (disch := first | assumption | omega | (simp (disch := omega) only [wN, w0, w1]; omega)) only [e216_0, e216_1, e216_2, e216_3, e216_4, e216_7, e216_9, e216_11, e216_12, e216_13, e216_14, e216_15, e216_18, e216_21, e216_22, e216_23, e216_25, e216_26, e216_29, e216_30, e216_31, e216_32, e216_33, e216_36, e216_37, e216_38, e216_39, e216_40, e216_43, e216_46, e216_47, e216_48, e216_49, e216_50, e216_53, e216_54, e216_55, e216_56, e216_57, e216_60, e216_63, e216_64, e216_67, e216_68, e216_71, e216_72, e216_73, e216_74, e216_77, e216_78, e216_79, e216_80, e216_83, e216_86, e216_87, e216_90, e216_91, kl_I, kl_R, kl_N, kl_L, oSm, oNn, Option.bind_some, wN, if_pos, if_neg, nS, tN, t0, w0, w1, w2, w3, w4, w5, wm1, upA_ne, upA_same, if_true, if_false, Bool.false_eq_true, q216, a0, b0, a1, b1, a2, b2, ww, ww', f2]
        · have x : ¬ alB (k, l, b) (k, l, b') = true := fun q => f2 (key.mp q).2
          simp (disch := first | assumption | omega | (simp (disch := omega) only [wN, w0, w1]; omega)) only [e216_0, e216_1, e216_2, e216_3, e216_4, e216_7, e216_9, e216_11, e216_12, e216_13, e216_14, e216_15, e216_18, e216_21, e216_22, e216_23, e216_25, e216_26, e216_29, e216_30, e216_31, e216_32, e216_33, e216_36, e216_37, e216_38, e216_39, e216_40, e216_43, e216_46, e216_47, e216_48, e216_49, e216_50, e216_53, e216_54, e216_55, e216_56, e216_57, e216_60, e216_63, e216_64, e216_67, e216_68, e216_71, e216_72, e216_73, e216_74, e216_77, e216_78, e216_79, e216_80, e216_83, e216_86, e216_87, e216_90, e216_91, kl_I, kl_R, kl_N, kl_L, oSm, oNn, Option.bind_some, wN, if_pos, if_neg, nS, tN, t0, w0, w1, w2, w3, w4, w5, wm1, upA_ne, upA_same, if_true, if_false, Bool.false_eq_true, q216, a0, b0, a1, b1, a2, b2, ww, ww']
      · have x : ¬ alB (k, l, b) (k, l', b') = true := fun q => f1 (key.mp q).1
        simp (disch := first | assumption | omega | (simp (disch := omega) only [wN, w0, w1]; omega)) only [e216_0, e216_1, e216_2, e216_3, e216_4, e216_7, e216_9, e216_11, e216_12, e216_13, e216_14, e216_15, e216_18, e216_21, e216_22, e216_23, e216_25, e216_26, e216_29, e216_30, e216_31, e216_32, e216_33, e216_36, e216_37, e216_38, e216_39, e216_40, e216_43, e216_46, e216_47, e216_48, e216_49, e216_50, e216_53, e216_54, e216_55, e216_56, e216_57, e216_60, e216_63, e216_64, e216_67, e216_68, e216_71, e216_72, e216_73, e216_74, e216_77, e216_78, e216_79, e216_80, e216_83, e216_86, e216_87, e216_90, e216_91, kl_I, kl_R, kl_N, kl_L, oSm, oNn, Option.bind_some, wN, if_pos, if_neg, nS, tN, t0, w0, w1, w2, w3, w4, w5, wm1, upA_ne, upA_same, if_true, if_false, Bool.false_eq_true, q216, a0, b0, a1, b1]
    · by_cases f : gm (k, l, b) = gm (k, l', b')
      · have x : alB (k, l, b) (k, l', b') = true := mm.mpr ⟨rfl, f, fun q => by omega⟩
        rw [f] at al
        simp (disch := first | assumption | omega | (simp (disch := omega) only [wN, w0, w1]; omega)) only [e216_0, e216_1, e216_2, e216_3, e216_4, e216_7, e216_9, e216_11, e216_12, e216_13, e216_14, e216_15, e216_18, e216_21, e216_22, e216_23, e216_25, e216_26, e216_29, e216_30, e216_31, e216_32, e216_33, e216_36, e216_37, e216_38, e216_39, e216_40, e216_43, e216_46, e216_47, e216_48, e216_49, e216_50, e216_53, e216_54, e216_55, e216_56, e216_57, e216_60, e216_63, e216_64, e216_67, e216_68, e216_71, e216_72, e216_73, e216_74, e216_77, e216_78, e216_79, e216_80, e216_83, e216_86, e216_87, e216_90, e216_91, kl_I, kl_R, kl_N, kl_L, oSm, oNn, Option.bind_some, wN, if_pos, if_neg, nS, tN, t0, w0, w1, w2, w3, w4, w5, wm1, upA_ne, upA_same, if_true, if_false, Bool.false_eq_true, q216, a0, b0, al, bl]
      · have x : ¬ alB (k, l, b) (k, l', b') = true := fun q => f (mm.mp q).2.1
        simp (disch := first | assumption | omega | (simp (disch := omega) only [wN, w0, w1]; omega)) only [e216_0, e216_1, e216_2, e216_3, e216_4, e216_7, e216_9, e216_11, e216_12, e216_13, e216_14, e216_15, e216_18, e216_21, e216_22, e216_23, e216_25, e216_26, e216_29, e216_30, e216_31, e216_32, e216_33, e216_36, e216_37, e216_38, e216_39, e216_40, e216_43, e216_46, e216_47, e216_48, e216_49, e216_50, e216_53, e216_54, e216_55, e216_56, e216_57, e216_60, e216_63, e216_64, e216_67, e216_68, e216_71, e216_72, e216_73, e216_74, e216_77, e216_78, e216_79, e216_80, e216_83, e216_86, e216_87, e216_90, e216_91, kl_I, kl_R, kl_N, kl_L, oSm, oNn, Option.bind_some, wN, if_pos, if_neg, nS, tN, t0, w0, w1, w2, w3, w4, w5, wm1, upA_ne, upA_same, if_true, if_false, Bool.false_eq_true, q216, a0, b0, al, bl]
  · have x : ¬ alB (k, l, b) (k', l', b') = true := fun q => e (mm.mp q).1
    simp (disch := first | assumption | omega | (simp (disch := omega) only [wN, w0, w1]; omega)) only [e216_0, e216_1, e216_2, e216_3, e216_4, e216_7, e216_9, e216_11, e216_12, e216_13, e216_14, e216_15, e216_18, e216_21, e216_22, e216_23, e216_25, e216_26, e216_29, e216_30, e216_31, e216_32, e216_33, e216_36, e216_37, e216_38, e216_39, e216_40, e216_43, e216_46, e216_47, e216_48, e216_49, e216_50, e216_53, e216_54, e216_55, e216_56, e216_57, e216_60, e216_63, e216_64, e216_67, e216_68, e216_71, e216_72, e216_73, e216_74, e216_77, e216_78, e216_79, e216_80, e216_83, e216_86, e216_87, e216_90, e216_91, kl_I, kl_R, kl_N, kl_L, oSm, oNn, Option.bind_some, wN, if_pos, if_neg, nS, tN, t0, w0, w1, w2, w3, w4, w5, wm1, upA_ne, upA_same, if_true, if_false, Bool.false_eq_true, q216, a0, b0]
theorem M217 (hM : MS sh) (hG : HGm σ t c) (ht : t < 3) (hc : c.length ≤ 30) (hv : okC n c) (hN : σ.1 124 8 = (n : Int)) (hn : n ≤ 4) (hg : g < h) (hh : h < c.length) (hz : z = (t : Int)) : End (run sh (d + 3) 217 [mR 124, mI z, mI (g : Int), mI (h : Int)] σ) (fun r σ' => r = some (mI (bi (fbB c g h))) ∧ frW 137 138 1 0 σ σ') := by
  subst hz
  have mo := hM.1
  have L := for_P (h - (g + 1)) (fun i => ∀ (σ1 : Mem), ((∀ k, g + 1 ≤ k → k < g + 1 + i → cmB (gA c k) (gA c h) = true) ∧ frW 137 138 1 0 σ σ1) → End (ev sh (d + 3) 217 5 [some (mR (124)), some (mI ((t : Nat) : Int)), some (mI ((g : Nat) : Int)), some (mI ((h : Nat) : Int)), some (mI ((g + 1 + i : Nat) : Int))] [] σ1) (fun r σ' => r = some (mI (bi (fbB c g h))) ∧ frW 137 138 1 0 σ σ')) (by
    intro σ1  hp
    replace hp : (∀ k, g + 1 ≤ k → k < g + 1 + (h - (g + 1)) → cmB (gA c k) (gA c h) = true) ∧ frW 137 138 1 0 σ σ1 := hp
    show End (ev sh (d + 3) 217 5 [some (mR (124)), some (mI ((t : Nat) : Int)), some (mI ((g : Nat) : Int)), some (mI ((h : Nat) : Int)), some (mI ((g + 1 + (h - (g + 1)) : Nat) : Int))] [] σ1) (fun r σ' => r = some (mI (bi (fbB c g h))) ∧ frW 137 138 1 0 σ σ')
    rw [e217_5]
    simp (disch := first | assumption | omega | (simp (disch := omega) only [wN, w0, w1]; omega)) only [e217_0, e217_1, e217_2, e217_3, e217_7, e217_8, e217_11, e217_12, e217_13, e217_15, e217_16, e217_19, e217_22, e217_23, e217_24, e217_27, e217_30, e217_31, kl_I, kl_R, kl_N, kl_L, oSm, oNn, Option.bind_some, wN, if_pos, if_neg, nS, tN, t0, w0, w1, w2, w3, w4, w5, wm1, upA_ne, upA_same, if_true, if_false, Bool.false_eq_true]
    refine End.of rfl ⟨?_, hp.2⟩
    have x : fbB c g h = true := (fa_iff _ _).mpr fun k p q => hp.1 k p (by omega)
    rw [x]; rfl) (fun i hi ih => by
    replace ih : ∀ (σ1 : Mem), ((∀ k, g + 1 ≤ k → k < g + 1 + (i + 1) → cmB (gA c k) (gA c h) = true) ∧ frW 137 138 1 0 σ σ1) → End (ev sh (d + 3) 217 5 [some (mR (124)), some (mI ((t : Nat) : Int)), some (mI ((g : Nat) : Int)), some (mI ((h : Nat) : Int)), some (mI ((g + 1 + (i + 1) : Nat) : Int))] [] σ1) (fun r σ' => r = some (mI (bi (fbB c g h))) ∧ frW 137 138 1 0 σ σ') := ih
    intro σ1  hp
    replace hp : (∀ k, g + 1 ≤ k → k < g + 1 + i → cmB (gA c k) (gA c h) = true) ∧ frW 137 138 1 0 σ σ1 := hp
    show End (ev sh (d + 3) 217 5 [some (mR (124)), some (mI ((t : Nat) : Int)), some (mI ((g : Nat) : Int)), some (mI ((h : Nat) : Int)), some (mI ((g + 1 + i : Nat) : Int))] [] σ1) (fun r σ' => r = some (mI (bi (fbB c g h))) ∧ frW 137 138 1 0 σ σ')
    obtain ⟨h1, hp⟩ := hp
    have hG2 : HGm σ1 t c := hG.k (by rw [(hp.1 126 (by omega) (by omega)).1]) (fun _ _ _ => by rw [(hp.1 125 (by omega) (by omega)).1])
    have hN2 : σ1.1 124 8 = (n : Int) := by rw [hp.2 8 (by omega)]; exact hN
    obtain ⟨r, σ2, c1, rfl, c3⟩ := M210c (d := d) (z := (t : Int)) (σ := σ1) hM hG2 ht hc hv hN2 hn (g := g + 1 + i) (h := h) (by omega) hh rfl
    have hp2 := hp.tr c3
    rw [e217_5]
    by_cases hcm : cmB (gA c (g + 1 + i)) (gA c h) = true
    · rw [if_pos hcm] at c1
      simp (disch := first | assumption | omega | (simp (disch := omega) only [wN, w0, w1]; omega)) only [e217_0, e217_1, e217_2, e217_3, e217_7, e217_8, e217_11, e217_12, e217_13, e217_15, e217_16, e217_19, e217_22, e217_23, e217_24, e217_27, e217_30, e217_31, kl_I, kl_R, kl_N, kl_L, oSm, oNn, Option.bind_some, wN, if_pos, if_neg, nS, tN, t0, w0, w1, w2, w3, w4, w5, wm1, upA_ne, upA_same, if_true, if_false, Bool.false_eq_true, c1]
      refine ih _ ⟨fun k p q => ?_, hp2⟩
      by_cases e : k = g + 1 + i
      · rw [e]; exact hcm
      · exact h1 k p (by omega)
    · rw [if_neg hcm] at c1
      simp (disch := first | assumption | omega | (simp (disch := omega) only [wN, w0, w1]; omega)) only [e217_0, e217_1, e217_2, e217_3, e217_7, e217_8, e217_11, e217_12, e217_13, e217_15, e217_16, e217_19, e217_22, e217_23, e217_24, e217_27, e217_30, e217_31, kl_I, kl_R, kl_N, kl_L, oSm, oNn, Option.bind_some, wN, if_pos, if_neg, nS, tN, t0, w0, w1, w2, w3, w4, w5, wm1, upA_ne, upA_same, if_true, if_false, Bool.false_eq_true, c1]
      have x : fbB c g h = false := by
        cases q : fbB c g h with
        | false => rfl
        | true => exact absurd ((fa_iff _ _).mp q (g + 1 + i) (by omega) (by omega)) hcm
      exact End.of rfl ⟨by rw [x]; rfl, hp2⟩) 0 (Nat.zero_le _)
  simp (disch := first | assumption | omega | (simp (disch := omega) only [wN, w0, w1]; omega)) only [e217_0, e217_1, e217_2, e217_3, e217_7, e217_8, e217_11, e217_12, e217_13, e217_15, e217_16, e217_19, e217_22, e217_23, e217_24, e217_27, e217_30, e217_31, kl_I, kl_R, kl_N, kl_L, oSm, oNn, Option.bind_some, wN, if_pos, if_neg, nS, tN, t0, w0, w1, w2, w3, w4, w5, wm1, upA_ne, upA_same, if_true, if_false, Bool.false_eq_true, q217]
  exact L σ ⟨fun k p q => by omega, frW.rf⟩
end NC

