/-! ===== rests, filling, reading a layout ===== -/
theorem xdI {a b : Nat} (ha : a < 2147483648) (hb : b < 2147483648) : Int32.ofInt (a : Int) / Int32.ofInt (b : Int) = Int32.ofInt ((a / b : Nat) : Int) := by
  have hq : a / b ≤ a := Nat.div_le_self a b
  apply Int32.toInt_inj.mp
  rw [Int32.toInt_div, Int32.toInt_ofInt_of_le (by omega) (by omega), Int32.toInt_ofInt_of_le (by omega) (by omega), ← Int.ofNat_tdiv]
  generalize a / b = q at hq ⊢
  rw [Int32.toInt_ofInt_of_le (by omega) (by omega)]
  exact Int.bmod_eq_of_le (by omega) (by omega)
theorem xdiv_nn {a b : Nat} (ha : a < 2147483648) (hb : b < 2147483648) : xdiv (a : Int) (b : Int) = ((a / b : Nat) : Int) := by
  have hq : a / b ≤ a := Nat.div_le_self a b
  unfold xdiv
  rw [xdI ha hb]
  generalize a / b = q at hq ⊢
  rw [Int32.toInt_ofInt_of_le (by omega) (by omega)]
theorem xrem_nn {a b : Nat} (ha : a < 2147483648) (hb : b < 2147483648) : xrem (a : Int) (b : Int) = ((a % b : Nat) : Int) := by
  have hq : a % b ≤ a := Nat.mod_le a b
  have he : (a : Int) - ((a / b : Nat) : Int) * (b : Int) = ((a % b : Nat) : Int) := by
    have h := Nat.div_add_mod a b
    rw [← Int.natCast_mul, Nat.mul_comm]
    omega
  unfold xrem
  rw [xdI ha hb, ← Int32.ofInt_mul, ← Int32.ofInt_sub, he]
  generalize a % b = q at hq ⊢
  rw [Int32.toInt_ofInt_of_le (by omega) (by omega)]
theorem xdiv_10 {a : Nat} (ha : a < 2147483648) : xdiv (a : Int) 10 = ((a / 10 : Nat) : Int) := xdiv_nn (b := 10) ha (by omega)
theorem xrem_10 {a : Nat} (ha : a < 2147483648) : xrem (a : Int) 10 = ((a % 10 : Nat) : Int) := xrem_nn (b := 10) ha (by omega)
section FIL
variable {sh : Shp} {d a l n m k : Nat} {σ : Mem} {v : Int} {P : Nat → Nat}
theorem F287 (hk : skd sh a = 0) (ha : a < sh.1) (hl : sln sh a = k) (h9 : k ≤ 1000000) : End (run sh (d + 1) 287 [mR a, mI v] σ) (fun r σ' => r = none ∧ (∀ x, x < k → σ'.1 a x = v) ∧ frI a a σ σ') := by
  have L := for_P (k) (fun i => ∀ (σ1 : Mem), ((∀ x, x < i → σ1.1 a x = (fun _ => v) x) ∧ frI a a σ σ1) → End (ev sh (d + 1) 287 5 [some (mR (a)), some (mI (v)), some (mI ((i : Nat) : Int)), some (mI ((k : Nat) : Int))] [] σ1) (fun r σ' => r = none ∧ (∀ x, x < k → σ'.1 a x = v) ∧ frI a a σ σ')) (by
    intro σ1  hp
    replace hp : (∀ x, x < (k) → σ1.1 a x = (fun _ => v) x) ∧ frI a a σ σ1 := hp
    show End (ev sh (d + 1) 287 5 [some (mR (a)), some (mI (v)), some (mI (((k) : Nat) : Int)), some (mI ((k : Nat) : Int))] [] σ1) (fun r σ' => r = none ∧ (∀ x, x < k → σ'.1 a x = v) ∧ frI a a σ σ')
    rw [e287_5]
    simp (disch := first | assumption | omega | (simp (disch := omega) only [wN, w0, w1]; omega)) only [e287_0, e287_1, e287_2, e287_3, e287_4, e287_6, e287_7, e287_10, e287_11, e287_12, e287_13, e287_14, e287_17, e287_20, kl_I, kl_R, kl_N, kl_L, oSm, oNn, Option.bind_some, wN, if_pos, if_neg, nS, tN, t0, w0, w1, w2, w3, w4, w5, wm1, upA_ne, upA_same, if_true, if_false]
    exact End.of rfl ⟨rfl, hp.1, hp.2⟩) (fun i hi ih => by
    replace ih : ∀ (σ1 : Mem), ((∀ x, x < (i + 1) → σ1.1 a x = (fun _ => v) x) ∧ frI a a σ σ1) → End (ev sh (d + 1) 287 5 [some (mR (a)), some (mI (v)), some (mI (((i + 1) : Nat) : Int)), some (mI ((k : Nat) : Int))] [] σ1) (fun r σ' => r = none ∧ (∀ x, x < k → σ'.1 a x = v) ∧ frI a a σ σ') := ih
    intro σ1  hp
    replace hp : (∀ x, x < i → σ1.1 a x = (fun _ => v) x) ∧ frI a a σ σ1 := hp
    show End (ev sh (d + 1) 287 5 [some (mR (a)), some (mI (v)), some (mI ((i : Nat) : Int)), some (mI ((k : Nat) : Int))] [] σ1) (fun r σ' => r = none ∧ (∀ x, x < k → σ'.1 a x = v) ∧ frI a a σ σ')
    rw [e287_5]
    simp (disch := first | assumption | omega | (simp (disch := omega) only [wN, w0, w1]; omega)) only [e287_0, e287_1, e287_2, e287_3, e287_4, e287_6, e287_7, e287_10, e287_11, e287_12, e287_13, e287_14, e287_17, e287_20, kl_I, kl_R, kl_N, kl_L, oSm, oNn, Option.bind_some, wN, if_pos, if_neg, nS, tN, t0, w0, w1, w2, w3, w4, w5, wm1, upA_ne, upA_same, if_true, if_false, hl]
    exact ih _ ⟨fil1 hp.1 rfl, hp.2.tr (frI.up (by omega))⟩) 0 (Nat.zero_le _)
  simp (disch := first | assumption | omega | (simp (disch := omega) only [wN, w0, w1]; omega)) only [e287_0, e287_1, e287_2, e287_3, e287_4, e287_6, e287_7, e287_10, e287_11, e287_12, e287_13, e287_14, e287_17, e287_20, kl_I, kl_R, kl_N, kl_L, oSm, oNn, Option.bind_some, wN, if_pos, if_neg, nS, tN, t0, w0, w1, w2, w3, w4, w5, wm1, upA_ne, upA_same, if_true, if_false, q287, hl]
  exact L σ ⟨fun x hx => by omega, frI.rf⟩
/-- a layout as one number: a digit for each line -/
def dgC (P : Nat → Nat) : Nat → Nat
  | 0 => 0
  | i + 1 => dgC P i * 10 + P i
theorem dgC_lt {P : Nat → Nat} {n m : Nat} (h : okP n m P) (hm : m ≤ 5) : ∀ i, i ≤ n → dgC P i < 10 ^ i
  | 0, _ => by simp [dgC]
  | i + 1, hi => by
    have h1 := dgC_lt h hm i (by omega)
    have h2 := h.1 i (by omega)
    rw [dgC, Nat.pow_succ]
    omega
theorem Y75 (hs : lyS sh l) (hP : okP n m P) (hn : n ≤ 4) (hm : m ≤ 5) : End (run sh (d + 2) 75 [mR l, mI (dgC P n : Int), mI (n : Int)] σ) (fun r σ' => r = none ∧ HL σ' l n P ∧ frI (l + 1) (l + 2) σ σ') := by
  obtain ⟨ho, r0, r1, k1, k2, l1, l2, hw⟩ := id hs
  have hlt : ∀ i, i ≤ n → dgC P i < 10000 := fun i hi => by
    have h1 := dgC_lt hP hm i hi
    have h2 : 10 ^ i ≤ 10 ^ 4 := Nat.pow_le_pow_right (by omega) (by omega)
    omega
  have L := for_P (n) (fun i => ∀ (σ1 : Mem) (v5 : Option MV), ((∀ x, n - i ≤ x → x < n → σ1.1 (l + 1) x = (P x : Int)) ∧ (∀ p, p < 5 → σ1.1 (l + 2) p = -1 ∧ (∀ x, n - i ≤ x → x < n → P x ≠ p) ∨ ∃ x : Nat, n - i ≤ x ∧ x < n ∧ σ1.1 (l + 2) p = (x : Int) ∧ P x = p) ∧ frI (l + 1) (l + 2) σ σ1) → End (ev sh (d + 2) 75 19 [some (mR (l)), some (mI ((dgC P n : Nat) : Int)), some (mI ((n : Nat) : Int)), some (mI ((dgC P (n - i) : Nat) : Int)), some (mI ((n : Int) - 1 - (i : Int))), v5] [] σ1) (fun r σ' => r = none ∧ HL σ' l n P ∧ frI (l + 1) (l + 2) σ σ')) (by
    intro σ1 v5 hp
    replace hp : (∀ x, n - (n) ≤ x → x < n → σ1.1 (l + 1) x = (P x : Int)) ∧ (∀ p, p < 5 → σ1.1 (l + 2) p = -1 ∧ (∀ x, n - (n) ≤ x → x < n → P x ≠ p) ∨ ∃ x : Nat, n - (n) ≤ x ∧ x < n ∧ σ1.1 (l + 2) p = (x : Int) ∧ P x = p) ∧ frI (l + 1) (l + 2) σ σ1 := hp
    show End (ev sh (d + 2) 75 19 [some (mR (l)), some (mI ((dgC P n : Nat) : Int)), some (mI ((n : Nat) : Int)), some (mI ((dgC P (n - (n)) : Nat) : Int)), some (mI ((n : Int) - 1 - ((n) : Int))), v5] [] σ1) (fun r σ' => r = none ∧ HL σ' l n P ∧ frI (l + 1) (l + 2) σ σ')
    rw [e75_19, show (n : Int) - 1 - (n : Int) = -1 by omega]
    simp (disch := first | assumption | omega | (simp (disch := omega) only [wN, w0, w1]; omega)) only [e75_0, e75_1, e75_4, e75_5, e75_8, e75_9, e75_10, e75_11, e75_12, e75_15, e75_16, e75_17, e75_21, e75_24, e75_25, e75_27, e75_28, e75_30, e75_31, e75_33, e75_35, e75_38, e75_39, e75_41, e75_42, e75_43, e75_46, e75_49, kl_I, kl_R, kl_N, kl_L, oSm, oNn, Option.bind_some, wN, if_pos, if_neg, nS, tN, t0, w0, w1, w2, w3, w4, w5, wm1, upA_ne, upA_same, if_true, if_false]
    refine End.of rfl ⟨rfl, ⟨fun x hx => hp.1 x (by omega) hx, fun p hp2 => ?_⟩, hp.2.2⟩
    rcases laS_cases P p n with ⟨h1, h2⟩ | ⟨x, h1, h2, h3⟩
    · rcases hp.2.1 p hp2 with ⟨h4, h5⟩ | ⟨y, h4, h5, h6, h7⟩
      · rw [h1, h4]
      · exact absurd h7 (h2 y h5)
    · rcases hp.2.1 p hp2 with ⟨h4, h5⟩ | ⟨y, h4, h5, h6, h7⟩
      · exact absurd h3 (h5 x (by omega) h1)
      · rw [h2, h6, hP.2 x y h1 h5 (h3.trans h7.symm)]) (fun i hi ih => by
    replace ih : ∀ (σ1 : Mem) (v5 : Option MV), ((∀ x, n - (i + 1) ≤ x → x < n → σ1.1 (l + 1) x = (P x : Int)) ∧ (∀ p, p < 5 → σ1.1 (l + 2) p = -1 ∧ (∀ x, n - (i + 1) ≤ x → x < n → P x ≠ p) ∨ ∃ x : Nat, n - (i + 1) ≤ x ∧ x < n ∧ σ1.1 (l + 2) p = (x : Int) ∧ P x = p) ∧ frI (l + 1) (l + 2) σ σ1) → End (ev sh (d + 2) 75 19 [some (mR (l)), some (mI ((dgC P n : Nat) : Int)), some (mI ((n : Nat) : Int)), some (mI ((dgC P (n - (i + 1)) : Nat) : Int)), some (mI ((n : Int) - 1 - ((i + 1) : Int))), v5] [] σ1) (fun r σ' => r = none ∧ HL σ' l n P ∧ frI (l + 1) (l + 2) σ σ') := ih
    intro σ1 v5 hp
    replace hp : (∀ x, n - i ≤ x → x < n → σ1.1 (l + 1) x = (P x : Int)) ∧ (∀ p, p < 5 → σ1.1 (l + 2) p = -1 ∧ (∀ x, n - i ≤ x → x < n → P x ≠ p) ∨ ∃ x : Nat, n - i ≤ x ∧ x < n ∧ σ1.1 (l + 2) p = (x : Int) ∧ P x = p) ∧ frI (l + 1) (l + 2) σ σ1 := hp
    show End (ev sh (d + 2) 75 19 [some (mR (l)), some (mI ((dgC P n : Nat) : Int)), some (mI ((n : Nat) : Int)), some (mI ((dgC P (n - i) : Nat) : Int)), some (mI ((n : Int) - 1 - (i : Int))), v5] [] σ1) (fun r σ' => r = none ∧ HL σ' l n P ∧ frI (l + 1) (l + 2) σ σ')
    obtain ⟨t, ht⟩ : ∃ t : Nat, n = t + 1 + i := ⟨n - 1 - i, by omega⟩
    have e1 : (n : Int) - 1 - (i : Int) = (t : Int) := by omega
    have e2 : (n : Int) - 1 - ((i : Int) + 1) = (t : Int) + (-1) := by omega
    have e3 : n - i = t + 1 := by omega
    have e4 : n - (i + 1) = t := by omega
    rw [e2, e4] at ih
    rw [e3] at hp
    rw [e1, e3, e75_19]
    have h1 := hlt (t + 1) (by omega)
    have hPt := hP.1 t (by omega)
    have e5 : dgC P (t + 1) % 10 = P t := by rw [dgC]; omega
    have e6 : dgC P (t + 1) / 10 = dgC P t := by rw [dgC]; omega
    have y10 : ¬ wi 10 = 0 := by decide
    have hY := Y80 (d := d) (σ := σ1) (u := (t : Int)) (p := P t) hs (Or.inl ⟨by rw [wN (by omega)]; omega, by rw [wN (by omega)]; omega⟩) (by omega)
    rw [wN (show t < 2147483648 by omega), if_pos (show (0 : Int) ≤ (t : Int) by omega), tN] at hY
    simp (disch := first | assumption | omega | (simp (disch := omega) only [wN, w0, w1]; omega)) only [e75_0, e75_1, e75_4, e75_5, e75_8, e75_9, e75_10, e75_11, e75_12, e75_15, e75_16, e75_17, e75_21, e75_24, e75_25, e75_27, e75_28, e75_30, e75_31, e75_33, e75_35, e75_38, e75_39, e75_41, e75_42, e75_43, e75_46, e75_49, kl_I, kl_R, kl_N, kl_L, oSm, oNn, Option.bind_some, wN, if_pos, if_neg, nS, tN, t0, w0, w1, w2, w3, w4, w5, wm1, upA_ne, upA_same, if_true, if_false, xdiv_10, xrem_10, e5, e6, hY]
    refine ih _ _ ⟨fun x hx hx2 => ?_, fun p hp2 => ?_, ⟨fun a ha => ?_, hp.2.2.2⟩⟩
    · show upA (upA _ _ _) _ _ _ _ = _
      rw [upA_same]
      by_cases e : x = t
      · subst e; rw [up1_same]
      · rw [up1_ne e]; exact hp.1 x (by omega) hx2
    · show upA (upA _ _ _) _ _ _ _ = _ ∧ _ ∨ ∃ x : Nat, t ≤ x ∧ x < n ∧ upA (upA _ _ _) _ _ _ _ = _ ∧ _
      rw [upA_ne (by omega), upA_same]
      by_cases e : p = P t
      · subst e
        right
        exact ⟨t, Nat.le_refl _, by omega, by rw [up1_same], rfl⟩
      · rw [up1_ne e]
        rcases hp.2.1 p hp2 with ⟨h4, h5⟩ | ⟨y, h4, h5, h6, h7⟩
        · left
          refine ⟨h4, fun x hx hx2 => ?_⟩
          by_cases ex : x = t
          · subst ex; exact fun z => e z.symm
          · exact h5 x (by omega) hx2
        · right
          exact ⟨y, by omega, h5, h6, h7⟩
    · show upA (upA _ _ _) _ _ _ = _
      rw [upA_ne (by omega), upA_ne (by omega)]
      exact hp.2.2.1 a ha) 0 (Nat.zero_le _)
  obtain ⟨r, σ1, f1, rfl, f3, f4⟩ := F287 (d := d) (v := -1) (σ := σ) k2 (show l + 2 < sh.1 by omega) l2 (by omega)
  have w4 : mmn (n : Int) 4 = (n : Int) := by
    have := mmn_nn (a := n) (b := 4) (by omega) (by omega)
    rw [show ((4 : Nat) : Int) = 4 from rfl] at this
    rw [this, Nat.min_eq_left hn]
  simp (disch := first | assumption | omega | (simp (disch := omega) only [wN, w0, w1]; omega)) only [e75_0, e75_1, e75_4, e75_5, e75_8, e75_9, e75_10, e75_11, e75_12, e75_15, e75_16, e75_17, e75_21, e75_24, e75_25, e75_27, e75_28, e75_30, e75_31, e75_33, e75_35, e75_38, e75_39, e75_41, e75_42, e75_43, e75_46, e75_49, kl_I, kl_R, kl_N, kl_L, oSm, oNn, Option.bind_some, wN, if_pos, if_neg, nS, tN, t0, w0, w1, w2, w3, w4, w5, wm1, upA_ne, upA_same, if_true, if_false, q75, r1, f1, w4]
  have L0 := L σ1 none ⟨fun x h1 h2 => by omega, fun p hp => Or.inl ⟨f3 p hp, fun x h1 h2 => by omega⟩, f4.w (by omega) (by omega)⟩
  rw [show (n : Int) - 1 - ((0 : Nat) : Int) = (n : Int) - 1 by omega, Nat.sub_zero] at L0
  exact L0
end FIL
