/-! ===== Layout: written whole ===== -/
section LYW
variable {sh : Shp} {d l o n m : Nat} {σ : Mem} {P : Nat → Nat}
theorem fil1 {f : Nat → Nat → Int} {a i : Nat} {g : Nat → Int} {v : Int} (h : ∀ x, x < i → f a x = g x) (hv : v = g i) : ∀ x, x < i + 1 → upA f a (up1 (f a) i v) a x = g x := by
  intro x hx
  rw [upA_same]
  by_cases e : x = i
  · subst e; rw [up1_same, hv]
  · rw [up1_ne e]; exact h x (by omega)
theorem Y76 (hs : lyS sh l) (hs2 : lyS sh o) (hap : o + 2 < l ∨ l + 2 < o) (hn : n ≤ 4) (hL : HL σ o n P) : End (run sh (d + 1) 76 [mR l, mR o] σ) (fun r σ' => r = none ∧ HL σ' l n P ∧ frI (l + 1) (l + 2) σ σ') := by
  obtain ⟨ho, r0, r1, k1, k2, l1, l2, hw⟩ := id hs
  obtain ⟨ho2, s0, s1, k21, k22, l21, l22, hw2⟩ := id hs2
  have L2 := for_P (5) (fun i => ∀ (σ1 : Mem), ((∀ x, x < 4 → σ1.1 (l + 1) x = σ.1 (o + 1) x) ∧ (∀ x, x < i → σ1.1 (l + 2) x = σ.1 (o + 2) x) ∧ frI (l + 1) (l + 2) σ σ1) → End (ev sh (d + 1) 76 27 [some (mR (l)), some (mR (o)), some (mI ((i : Nat) : Int))] [] σ1) (fun r σ' => r = none ∧ HL σ' l n P ∧ frI (l + 1) (l + 2) σ σ')) (by
    intro σ1  hp
    replace hp : (∀ x, x < 4 → σ1.1 (l + 1) x = σ.1 (o + 1) x) ∧ (∀ x, x < (5) → σ1.1 (l + 2) x = σ.1 (o + 2) x) ∧ frI (l + 1) (l + 2) σ σ1 := hp
    show End (ev sh (d + 1) 76 27 [some (mR (l)), some (mR (o)), some (mI (((5) : Nat) : Int))] [] σ1) (fun r σ' => r = none ∧ HL σ' l n P ∧ frI (l + 1) (l + 2) σ σ')
    rw [e76_27]
    simp (disch := first | assumption | omega | (simp (disch := omega) only [wN, w0, w1]; omega)) only [e76_0, e76_1, e76_3, e76_4, e76_7, e76_8, e76_11, e76_12, e76_13, e76_16, e76_17, e76_18, e76_19, e76_22, e76_25, e76_26, e76_28, e76_29, e76_32, e76_33, e76_36, e76_37, e76_38, e76_41, e76_42, e76_43, e76_44, e76_47, e76_50, kl_I, kl_R, kl_N, kl_L, oSm, oNn, Option.bind_some, wN, if_pos, if_neg, nS, tN, t0, w0, w1, w2, w3, w4, w5, wm1, upA_ne, upA_same, if_true, if_false]
    refine End.of rfl ⟨rfl, ⟨fun x hx => ?_, fun p hp2 => ?_⟩, hp.2.2⟩
    · rw [hp.1 x (by omega)]; exact hL.1 x hx
    · rw [hp.2.1 p hp2]; exact hL.2 p hp2) (fun i hi ih => by
    replace ih : ∀ (σ1 : Mem), ((∀ x, x < 4 → σ1.1 (l + 1) x = σ.1 (o + 1) x) ∧ (∀ x, x < (i + 1) → σ1.1 (l + 2) x = σ.1 (o + 2) x) ∧ frI (l + 1) (l + 2) σ σ1) → End (ev sh (d + 1) 76 27 [some (mR (l)), some (mR (o)), some (mI (((i + 1) : Nat) : Int))] [] σ1) (fun r σ' => r = none ∧ HL σ' l n P ∧ frI (l + 1) (l + 2) σ σ') := ih
    intro σ1  hp
    replace hp : (∀ x, x < 4 → σ1.1 (l + 1) x = σ.1 (o + 1) x) ∧ (∀ x, x < i → σ1.1 (l + 2) x = σ.1 (o + 2) x) ∧ frI (l + 1) (l + 2) σ σ1 := hp
    show End (ev sh (d + 1) 76 27 [some (mR (l)), some (mR (o)), some (mI ((i : Nat) : Int))] [] σ1) (fun r σ' => r = none ∧ HL σ' l n P ∧ frI (l + 1) (l + 2) σ σ')
    have e2 := hp.2.2.1 (o + 2) (by omega)
    rw [e76_27]
    simp (disch := first | assumption | omega | (simp (disch := omega) only [wN, w0, w1]; omega)) only [e76_0, e76_1, e76_3, e76_4, e76_7, e76_8, e76_11, e76_12, e76_13, e76_16, e76_17, e76_18, e76_19, e76_22, e76_25, e76_26, e76_28, e76_29, e76_32, e76_33, e76_36, e76_37, e76_38, e76_41, e76_42, e76_43, e76_44, e76_47, e76_50, kl_I, kl_R, kl_N, kl_L, oSm, oNn, Option.bind_some, wN, if_pos, if_neg, nS, tN, t0, w0, w1, w2, w3, w4, w5, wm1, upA_ne, upA_same, if_true, if_false, r1, s1, l2, l22]
    refine ih _ ⟨fun x hx => ?_, fil1 hp.2.1 (by rw [e2]), hp.2.2.tr (frI.up (by omega))⟩
    show upA _ _ _ _ _ = _
    rw [upA_ne (by omega)]; exact hp.1 x hx) 0 (Nat.zero_le _)
  have L1 := for_P (4) (fun i => ∀ (σ1 : Mem), ((∀ x, x < i → σ1.1 (l + 1) x = σ.1 (o + 1) x) ∧ frI (l + 1) (l + 2) σ σ1) → End (ev sh (d + 1) 76 2 [some (mR (l)), some (mR (o)), some (mI ((i : Nat) : Int))] [] σ1) (fun r σ' => r = none ∧ HL σ' l n P ∧ frI (l + 1) (l + 2) σ σ')) (by
    intro σ1  hp
    replace hp : (∀ x, x < (4) → σ1.1 (l + 1) x = σ.1 (o + 1) x) ∧ frI (l + 1) (l + 2) σ σ1 := hp
    show End (ev sh (d + 1) 76 2 [some (mR (l)), some (mR (o)), some (mI (((4) : Nat) : Int))] [] σ1) (fun r σ' => r = none ∧ HL σ' l n P ∧ frI (l + 1) (l + 2) σ σ')
    rw [e76_2]
    simp (disch := first | assumption | omega | (simp (disch := omega) only [wN, w0, w1]; omega)) only [e76_0, e76_1, e76_3, e76_4, e76_7, e76_8, e76_11, e76_12, e76_13, e76_16, e76_17, e76_18, e76_19, e76_22, e76_25, e76_26, e76_28, e76_29, e76_32, e76_33, e76_36, e76_37, e76_38, e76_41, e76_42, e76_43, e76_44, e76_47, e76_50, kl_I, kl_R, kl_N, kl_L, oSm, oNn, Option.bind_some, wN, if_pos, if_neg, nS, tN, t0, w0, w1, w2, w3, w4, w5, wm1, upA_ne, upA_same, if_true, if_false]
    exact L2 σ1 ⟨hp.1, fun x hx => by omega, hp.2⟩) (fun i hi ih => by
    replace ih : ∀ (σ1 : Mem), ((∀ x, x < (i + 1) → σ1.1 (l + 1) x = σ.1 (o + 1) x) ∧ frI (l + 1) (l + 2) σ σ1) → End (ev sh (d + 1) 76 2 [some (mR (l)), some (mR (o)), some (mI (((i + 1) : Nat) : Int))] [] σ1) (fun r σ' => r = none ∧ HL σ' l n P ∧ frI (l + 1) (l + 2) σ σ') := ih
    intro σ1  hp
    replace hp : (∀ x, x < i → σ1.1 (l + 1) x = σ.1 (o + 1) x) ∧ frI (l + 1) (l + 2) σ σ1 := hp
    show End (ev sh (d + 1) 76 2 [some (mR (l)), some (mR (o)), some (mI ((i : Nat) : Int))] [] σ1) (fun r σ' => r = none ∧ HL σ' l n P ∧ frI (l + 1) (l + 2) σ σ')
    have e2 := hp.2.1 (o + 1) (by omega)
    rw [e76_2]
    simp (disch := first | assumption | omega | (simp (disch := omega) only [wN, w0, w1]; omega)) only [e76_0, e76_1, e76_3, e76_4, e76_7, e76_8, e76_11, e76_12, e76_13, e76_16, e76_17, e76_18, e76_19, e76_22, e76_25, e76_26, e76_28, e76_29, e76_32, e76_33, e76_36, e76_37, e76_38, e76_41, e76_42, e76_43, e76_44, e76_47, e76_50, kl_I, kl_R, kl_N, kl_L, oSm, oNn, Option.bind_some, wN, if_pos, if_neg, nS, tN, t0, w0, w1, w2, w3, w4, w5, wm1, upA_ne, upA_same, if_true, if_false, r0, s0, l1, l21]
    exact ih _ ⟨fil1 hp.1 (by rw [e2]), hp.2.tr (frI.up (by omega))⟩) 0 (Nat.zero_le _)
  simp (disch := first | assumption | omega | (simp (disch := omega) only [wN, w0, w1]; omega)) only [e76_0, e76_1, e76_3, e76_4, e76_7, e76_8, e76_11, e76_12, e76_13, e76_16, e76_17, e76_18, e76_19, e76_22, e76_25, e76_26, e76_28, e76_29, e76_32, e76_33, e76_36, e76_37, e76_38, e76_41, e76_42, e76_43, e76_44, e76_47, e76_50, kl_I, kl_R, kl_N, kl_L, oSm, oNn, Option.bind_some, wN, if_pos, if_neg, nS, tN, t0, w0, w1, w2, w3, w4, w5, wm1, upA_ne, upA_same, if_true, if_false, q76]
  exact L1 σ ⟨fun x hx => by omega, frI.rf⟩
theorem laS_id (p : Nat) : ∀ n, laS (fun x => x) p n = if p < n then (p : Int) else -1
  | 0 => by simp [laS]
  | n + 1 => by
    rw [laS, laS_id p n]
    by_cases h : n = p
    · subst h; simp
    · rw [if_neg h]
      by_cases h2 : p < n
      · rw [if_pos h2, if_pos (by omega)]
      · rw [if_neg h2, if_neg (by omega)]
theorem Y74 (hs : lyS sh l) (hn : n ≤ 4) : End (run sh (d + 1) 74 [mR l, mI (n : Int)] σ) (fun r σ' => r = none ∧ HL σ' l n (fun x => x) ∧ frI (l + 1) (l + 2) σ σ') := by
  obtain ⟨ho, r0, r1, k1, k2, l1, l2, hw⟩ := id hs
  have L2 := for_P (5) (fun i => ∀ (σ1 : Mem), ((∀ x, x < 4 → σ1.1 (l + 1) x = (x : Int)) ∧ (∀ x, x < i → σ1.1 (l + 2) x = laS (fun x => x) x n) ∧ frI (l + 1) (l + 2) σ σ1) → End (ev sh (d + 1) 74 22 [some (mR (l)), some (mI ((n : Nat) : Int)), some (mI ((i : Nat) : Int))] [] σ1) (fun r σ' => r = none ∧ HL σ' l n (fun x => x) ∧ frI (l + 1) (l + 2) σ σ')) (by
    intro σ1  hp
    replace hp : (∀ x, x < 4 → σ1.1 (l + 1) x = (x : Int)) ∧ (∀ x, x < (5) → σ1.1 (l + 2) x = laS (fun x => x) x n) ∧ frI (l + 1) (l + 2) σ σ1 := hp
    show End (ev sh (d + 1) 74 22 [some (mR (l)), some (mI ((n : Nat) : Int)), some (mI (((5) : Nat) : Int))] [] σ1) (fun r σ' => r = none ∧ HL σ' l n (fun x => x) ∧ frI (l + 1) (l + 2) σ σ')
    rw [e74_22]
    simp (disch := first | assumption | omega | (simp (disch := omega) only [wN, w0, w1]; omega)) only [e74_0, e74_1, e74_3, e74_4, e74_7, e74_8, e74_11, e74_12, e74_13, e74_14, e74_17, e74_20, e74_21, e74_23, e74_24, e74_27, e74_28, e74_31, e74_32, e74_33, e74_34, e74_37, e74_38, e74_41, e74_42, e74_43, e74_46, e74_49, kl_I, kl_R, kl_N, kl_L, oSm, oNn, Option.bind_some, wN, if_pos, if_neg, nS, tN, t0, w0, w1, w2, w3, w4, w5, wm1, upA_ne, upA_same, if_true, if_false]
    exact End.of rfl ⟨rfl, ⟨fun x hx => hp.1 x (by omega), hp.2.1⟩, hp.2.2⟩) (fun i hi ih => by
    replace ih : ∀ (σ1 : Mem), ((∀ x, x < 4 → σ1.1 (l + 1) x = (x : Int)) ∧ (∀ x, x < (i + 1) → σ1.1 (l + 2) x = laS (fun x => x) x n) ∧ frI (l + 1) (l + 2) σ σ1) → End (ev sh (d + 1) 74 22 [some (mR (l)), some (mI ((n : Nat) : Int)), some (mI (((i + 1) : Nat) : Int))] [] σ1) (fun r σ' => r = none ∧ HL σ' l n (fun x => x) ∧ frI (l + 1) (l + 2) σ σ') := ih
    intro σ1  hp
    replace hp : (∀ x, x < 4 → σ1.1 (l + 1) x = (x : Int)) ∧ (∀ x, x < i → σ1.1 (l + 2) x = laS (fun x => x) x n) ∧ frI (l + 1) (l + 2) σ σ1 := hp
    show End (ev sh (d + 1) 74 22 [some (mR (l)), some (mI ((n : Nat) : Int)), some (mI ((i : Nat) : Int))] [] σ1) (fun r σ' => r = none ∧ HL σ' l n (fun x => x) ∧ frI (l + 1) (l + 2) σ σ')
    rw [e74_22]
    by_cases h : i < n
    · simp (disch := first | assumption | omega | (simp (disch := omega) only [wN, w0, w1]; omega)) only [e74_0, e74_1, e74_3, e74_4, e74_7, e74_8, e74_11, e74_12, e74_13, e74_14, e74_17, e74_20, e74_21, e74_23, e74_24, e74_27, e74_28, e74_31, e74_32, e74_33, e74_34, e74_37, e74_38, e74_41, e74_42, e74_43, e74_46, e74_49, kl_I, kl_R, kl_N, kl_L, oSm, oNn, Option.bind_some, wN, if_pos, if_neg, nS, tN, t0, w0, w1, w2, w3, w4, w5, wm1, upA_ne, upA_same, if_true, if_false, r1, l2]
      refine ih _ ⟨fun x hx => ?_, fil1 hp.2.1 (by rw [laS_id, if_pos h]), hp.2.2.tr (frI.up (by omega))⟩
      show upA _ _ _ _ _ = _
      rw [upA_ne (by omega)]; exact hp.1 x hx
    · simp (disch := first | assumption | omega | (simp (disch := omega) only [wN, w0, w1]; omega)) only [e74_0, e74_1, e74_3, e74_4, e74_7, e74_8, e74_11, e74_12, e74_13, e74_14, e74_17, e74_20, e74_21, e74_23, e74_24, e74_27, e74_28, e74_31, e74_32, e74_33, e74_34, e74_37, e74_38, e74_41, e74_42, e74_43, e74_46, e74_49, kl_I, kl_R, kl_N, kl_L, oSm, oNn, Option.bind_some, wN, if_pos, if_neg, nS, tN, t0, w0, w1, w2, w3, w4, w5, wm1, upA_ne, upA_same, if_true, if_false, r1, l2]
      refine ih _ ⟨fun x hx => ?_, fil1 hp.2.1 (by rw [laS_id, if_neg h]), hp.2.2.tr (frI.up (by omega))⟩
      show upA _ _ _ _ _ = _
      rw [upA_ne (by omega)]; exact hp.1 x hx) 0 (Nat.zero_le _)
  have L1 := for_P (4) (fun i => ∀ (σ1 : Mem), ((∀ x, x < i → σ1.1 (l + 1) x = (x : Int)) ∧ frI (l + 1) (l + 2) σ σ1) → End (ev sh (d + 1) 74 2 [some (mR (l)), some (mI ((n : Nat) : Int)), some (mI ((i : Nat) : Int))] [] σ1) (fun r σ' => r = none ∧ HL σ' l n (fun x => x) ∧ frI (l + 1) (l + 2) σ σ')) (by
    intro σ1  hp
    replace hp : (∀ x, x < (4) → σ1.1 (l + 1) x = (x : Int)) ∧ frI (l + 1) (l + 2) σ σ1 := hp
    show End (ev sh (d + 1) 74 2 [some (mR (l)), some (mI ((n : Nat) : Int)), some (mI (((4) : Nat) : Int))] [] σ1) (fun r σ' => r = none ∧ HL σ' l n (fun x => x) ∧ frI (l + 1) (l + 2) σ σ')
    rw [e74_2]
    simp (disch := first | assumption | omega | (simp (disch := omega) only [wN, w0, w1]; omega)) only [e74_0, e74_1, e74_3, e74_4, e74_7, e74_8, e74_11, e74_12, e74_13, e74_14, e74_17, e74_20, e74_21, e74_23, e74_24, e74_27, e74_28, e74_31, e74_32, e74_33, e74_34, e74_37, e74_38, e74_41, e74_42, e74_43, e74_46, e74_49, kl_I, kl_R, kl_N, kl_L, oSm, oNn, Option.bind_some, wN, if_pos, if_neg, nS, tN, t0, w0, w1, w2, w3, w4, w5, wm1, upA_ne, upA_same, if_true, if_false]
    exact L2 σ1 ⟨hp.1, fun x hx => by omega, hp.2⟩) (fun i hi ih => by
    replace ih : ∀ (σ1 : Mem), ((∀ x, x < (i + 1) → σ1.1 (l + 1) x = (x : Int)) ∧ frI (l + 1) (l + 2) σ σ1) → End (ev sh (d + 1) 74 2 [some (mR (l)), some (mI ((n : Nat) : Int)), some (mI (((i + 1) : Nat) : Int))] [] σ1) (fun r σ' => r = none ∧ HL σ' l n (fun x => x) ∧ frI (l + 1) (l + 2) σ σ') := ih
    intro σ1  hp
    replace hp : (∀ x, x < i → σ1.1 (l + 1) x = (x : Int)) ∧ frI (l + 1) (l + 2) σ σ1 := hp
    show End (ev sh (d + 1) 74 2 [some (mR (l)), some (mI ((n : Nat) : Int)), some (mI ((i : Nat) : Int))] [] σ1) (fun r σ' => r = none ∧ HL σ' l n (fun x => x) ∧ frI (l + 1) (l + 2) σ σ')
    rw [e74_2]
    simp (disch := first | assumption | omega | (simp (disch := omega) only [wN, w0, w1]; omega)) only [e74_0, e74_1, e74_3, e74_4, e74_7, e74_8, e74_11, e74_12, e74_13, e74_14, e74_17, e74_20, e74_21, e74_23, e74_24, e74_27, e74_28, e74_31, e74_32, e74_33, e74_34, e74_37, e74_38, e74_41, e74_42, e74_43, e74_46, e74_49, kl_I, kl_R, kl_N, kl_L, oSm, oNn, Option.bind_some, wN, if_pos, if_neg, nS, tN, t0, w0, w1, w2, w3, w4, w5, wm1, upA_ne, upA_same, if_true, if_false, r0, l1]
    exact ih _ ⟨fil1 hp.1 rfl, hp.2.tr (frI.up (by omega))⟩) 0 (Nat.zero_le _)
  simp (disch := first | assumption | omega | (simp (disch := omega) only [wN, w0, w1]; omega)) only [e74_0, e74_1, e74_3, e74_4, e74_7, e74_8, e74_11, e74_12, e74_13, e74_14, e74_17, e74_20, e74_21, e74_23, e74_24, e74_27, e74_28, e74_31, e74_32, e74_33, e74_34, e74_37, e74_38, e74_41, e74_42, e74_43, e74_46, e74_49, kl_I, kl_R, kl_N, kl_L, oSm, oNn, Option.bind_some, wN, if_pos, if_neg, nS, tN, t0, w0, w1, w2, w3, w4, w5, wm1, upA_ne, upA_same, if_true, if_false, q74]
  exact L1 σ ⟨fun x hx => by omega, frI.rf⟩
end LYW
