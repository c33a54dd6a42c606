/-! ===== the reference: laysTried ===== -/
/-- digits met, the last i -/
def mtN (D : Nat) : Nat → Nat
  | 0 => 0
  | i + 1 => mtN D i ||| 2 ^ (D / 10 ^ i % 10)
theorem mtN_bit {D b : Nat} : ∀ i, (mtN D i).testBit b = true ↔ ∃ j, j < i ∧ D / 10 ^ j % 10 = b
  | 0 => by simp [mtN]
  | i + 1 => by
    rw [mtN, Nat.testBit_or, Bool.or_eq_true, mtN_bit i, Nat.testBit_two_pow, decide_eq_true_eq]
    constructor
    · rintro (⟨j, h1, h2⟩ | h)
      · exact ⟨j, by omega, h2⟩
      · exact ⟨i, by omega, h⟩
    · rintro ⟨j, h1, h2⟩
      by_cases e : j = i
      · right; rw [← e]; exact h2
      · left; exact ⟨j, by omega, h2⟩
theorem mtN_lt {D : Nat} : ∀ i, mtN D i < 1024
  | 0 => Nat.zero_lt_succ _
  | i + 1 => by
    have h := mtN_lt (D := D) i
    have h2 : 2 ^ (D / 10 ^ i % 10) < 2 ^ 10 := Nat.pow_lt_pow_right (by omega) (Nat.mod_lt _ (by omega))
    exact Nat.or_lt_two_pow (n := 10) h h2
section NM
variable {sh : Shp} {d m n D : Nat} {σ : Mem} {E : List Ed} {a : AX} {z w : Int} {c : List Gt} {P : Nat → Nat}
theorem M242 (hM : MS sh) (hN : σ.1 124 8 = (n : Int)) (hMp : σ.1 124 9 = (m : Int)) (hn : n ≤ 4) (hm : m ≤ 5) (hD : D < 100000) : End (run sh (d + 1) 242 [mR 124, mI (D : Int)] σ) (fun r σ' => r = some (mI (bi (rwV n m D))) ∧ (rwV n m D = true → HLm σ' 146 n (pOf n D)) ∧ frW 146 146 1 0 σ σ') := by
  have mo := hM.1
  have m160 := hM.2.1
  obtain ⟨ra40, rk40, rl40⟩ := ms40 hM
  have no : ∀ (h : ¬ okP n m (pOf n D)), rwV n m D = false := fun h => by
    cases q : rwV n m D with
    | false => rfl
    | true => exact absurd (rwV_iff.mp q) h
  have pe : ∀ i, i < n → pOf n D (n - 1 - i) = D / 10 ^ i % 10 := fun i hi => by
    unfold pOf
    rw [show n - 1 - (n - 1 - i) = i by omega]
  have L := for_P (n) (fun i => ∀ (σ1 : Mem), ((∀ j, j < i → σ1.1 146 (n - 1 - j) = ((D / 10 ^ j % 10 : Nat) : Int) ∧ D / 10 ^ j % 10 < m) ∧ (∀ j k, j < i → k < j → D / 10 ^ j % 10 ≠ D / 10 ^ k % 10) ∧ frW 146 146 1 0 σ σ1) → End (ev sh (d + 1) 242 12 [some (mR (124)), some (mI ((D : Nat) : Int)), some (mI ((D / 10 ^ i : Nat) : Int)), some (mI ((mtN D i : Nat) : Int)), some (mI ((n : Int) - 1 - (i : Int)))] [] σ1) (fun r σ' => r = some (mI (bi (rwV n m D))) ∧ (rwV n m D = true → HLm σ' 146 n (pOf n D)) ∧ frW 146 146 1 0 σ σ')) (by
    intro σ1  hp
    replace hp : (∀ j, j < (n) → σ1.1 146 (n - 1 - j) = ((D / 10 ^ j % 10 : Nat) : Int) ∧ D / 10 ^ j % 10 < m) ∧ (∀ j k, j < (n) → k < j → D / 10 ^ j % 10 ≠ D / 10 ^ k % 10) ∧ frW 146 146 1 0 σ σ1 := hp
    show End (ev sh (d + 1) 242 12 [some (mR (124)), some (mI ((D : Nat) : Int)), some (mI ((D / 10 ^ (n) : Nat) : Int)), some (mI ((mtN D (n) : Nat) : Int)), some (mI ((n : Int) - 1 - ((n) : Int)))] [] σ1) (fun r σ' => r = some (mI (bi (rwV n m D))) ∧ (rwV n m D = true → HLm σ' 146 n (pOf n D)) ∧ frW 146 146 1 0 σ σ')
    obtain ⟨e1, e2, e3⟩ := hp
    have q1 : (n : Int) - 1 - (n : Int) = -1 := by omega
    rw [q1, e242_12]
    simp (disch := first | assumption | omega | (simp (disch := omega) only [wN, w0, w1]; omega)) only [e242_0, e242_1, e242_2, e242_3, e242_4, e242_5, e242_8, e242_9, e242_10, e242_14, e242_17, e242_18, e242_21, e242_23, e242_24, e242_26, e242_27, e242_28, e242_29, e242_31, e242_32, e242_33, e242_34, e242_37, e242_39, e242_40, e242_41, e242_44, e242_47, e242_48, e242_49, e242_52, e242_54, e242_55, e242_58, e242_61, e242_62, e242_63, e242_64, e242_65, e242_66, e242_69, e242_71, e242_72, e242_73, e242_74, e242_75, e242_78, e242_81, e242_82, kl_I, kl_R, kl_N, kl_L, oSm, oNn, Option.bind_some, wN, if_pos, if_neg, nS, tN, t0, w0, w1, w2, w3, w4, w5, wm1, upA_ne, upA_same, if_true, if_false, Bool.false_eq_true]
    have ok : okP n m (pOf n D) := by
      refine ⟨fun x hx => ?_, fun x y hx hy h => ?_⟩
      · have := pe (n - 1 - x) (by omega)
        rw [show n - 1 - (n - 1 - x) = x by omega] at this
        rw [this]
        exact (e1 _ (by omega)).2
      · have p1 := pe (n - 1 - x) (by omega)
        rw [show n - 1 - (n - 1 - x) = x by omega] at p1
        have p2 := pe (n - 1 - y) (by omega)
        rw [show n - 1 - (n - 1 - y) = y by omega] at p2
        rw [p1, p2] at h
        rcases Nat.lt_trichotomy x y with g | g | g
        · exact absurd h (e2 _ _ (by omega) (by omega))
        · exact g
        · exact absurd h.symm (e2 _ _ (by omega) (by omega))
    have rv := rwV_iff.mpr ok
    refine End.of rfl ⟨by rw [rv]; rfl, fun _ x hx => ?_, e3⟩
    have p1 := pe (n - 1 - x) (by omega)
    have p2 := (e1 (n - 1 - x) (by omega)).1
    rw [show n - 1 - (n - 1 - x) = x by omega] at p1 p2
    rw [p1]; exact p2) (fun i hi ih => by
    replace ih : ∀ (σ1 : Mem), ((∀ j, j < (i + 1) → σ1.1 146 (n - 1 - j) = ((D / 10 ^ j % 10 : Nat) : Int) ∧ D / 10 ^ j % 10 < m) ∧ (∀ j k, j < (i + 1) → k < j → D / 10 ^ j % 10 ≠ D / 10 ^ k % 10) ∧ frW 146 146 1 0 σ σ1) → End (ev sh (d + 1) 242 12 [some (mR (124)), some (mI ((D : Nat) : Int)), some (mI ((D / 10 ^ (i + 1) : Nat) : Int)), some (mI ((mtN D (i + 1) : Nat) : Int)), some (mI ((n : Int) - 1 - ((i + 1) : Int)))] [] σ1) (fun r σ' => r = some (mI (bi (rwV n m D))) ∧ (rwV n m D = true → HLm σ' 146 n (pOf n D)) ∧ frW 146 146 1 0 σ σ') := ih
    intro σ1  hp
    replace hp : (∀ j, j < i → σ1.1 146 (n - 1 - j) = ((D / 10 ^ j % 10 : Nat) : Int) ∧ D / 10 ^ j % 10 < m) ∧ (∀ j k, j < i → k < j → D / 10 ^ j % 10 ≠ D / 10 ^ k % 10) ∧ frW 146 146 1 0 σ σ1 := hp
    show End (ev sh (d + 1) 242 12 [some (mR (124)), some (mI ((D : Nat) : Int)), some (mI ((D / 10 ^ i : Nat) : Int)), some (mI ((mtN D i : Nat) : Int)), some (mI ((n : Int) - 1 - (i : Int)))] [] σ1) (fun r σ' => r = some (mI (bi (rwV n m D))) ∧ (rwV n m D = true → HLm σ' 146 n (pOf n D)) ∧ frW 146 146 1 0 σ σ')
    obtain ⟨e1, e2, e3⟩ := hp
    have hm1 : σ1.1 124 9 = (m : Int) := by rw [e3.2 9 (by omega)]; exact hMp
    have q1 : (n : Int) - 1 - (i : Int) = ((n - 1 - i : Nat) : Int) := by omega
    have q2 : ((n - 1 - i : Nat) : Int) + -1 = (n : Int) - 1 - ((i + 1 : Nat) : Int) := by omega
    have hd : D / 10 ^ i < 100000 := Nat.lt_of_le_of_lt (Nat.div_le_self _ _) hD
    have x1 := xrem_10 (a := D / 10 ^ i) (by omega)
    have x2 := xdiv_10 (a := D / 10 ^ i) (by omega)
    rw [show D / 10 ^ i / 10 = D / 10 ^ (i + 1) by rw [Nat.div_div_eq_div_mul, Nat.pow_succ]] at x2
    have w10 : wi 10 = 10 := rfl
    have z10 : wi 10 ≠ 0 := by decide
    have dl : D / 10 ^ i % 10 < 10 := Nat.mod_lt _ (by omega)
    have hb := E167 (sh := sh) (d := d) (σ := (upA σ1.1 146 (up1 (σ1.1 146) (n - 1 - i) ((D / 10 ^ i % 10 : Nat) : Int)), σ1.2)) (b := mtN D i) (k := D / 10 ^ i % 10) (by have := mtN_lt (D := D) i; omega) (by omega)
    have xs := xshl_1 (k := D / 10 ^ i % 10) (by omega)
    have hbt := mtN_bit (D := D) (b := D / 10 ^ i % 10) i
    have p10 : 2 ^ (D / 10 ^ i % 10) < 2 ^ 10 := Nat.pow_lt_pow_right (by omega) dl
    have ml := mtN_lt (D := D) i
    have x3 := xor_nn (a := mtN D i) (b := 2 ^ (D / 10 ^ i % 10)) (by omega) (by omega)
    rw [show mtN D i ||| 2 ^ (D / 10 ^ i % 10) = mtN D (i + 1) from rfl] at x3
    have fr : frW 146 146 1 0 σ (upA σ1.1 146 (up1 (σ1.1 146) (n - 1 - i) ((D / 10 ^ i % 10 : Nat) : Int)), σ1.2) := e3.tr (frW.a (by omega) (by omega))
    have c1 : ∀ j, j < i + 1 → upA σ1.1 146 (up1 (σ1.1 146) (n - 1 - i) ((D / 10 ^ i % 10 : Nat) : Int)) 146 (n - 1 - j) = ((D / 10 ^ j % 10 : Nat) : Int) := fun j hj => by
      rw [upA_same]
      by_cases e : j = i
      · subst e; rw [up1_same]
      · rw [up1_ne (by omega)]; exact (e1 j (by omega)).1
    have key : ∀ x, x = D / 10 ^ i % 10 → pOf n D (n - 1 - i) = x := fun x hx => by rw [pe i hi, hx]
    rw [q1, e242_12]
    generalize hk : D / 10 ^ i % 10 = k at *
    by_cases h1 : k < m
    · by_cases h2 : (mtN D i).testBit k = true
      · rw [h2] at hb
        replace hb : run sh d 167 [mI (mtN D i : Int), mI (k : Int)] (upA σ1.1 146 (up1 (σ1.1 146) (n - 1 - i) (k : Int)), σ1.2) = some (some (mI 1), _) := hb
        simp (disch := first | assumption | omega | (simp (disch := omega) only [wN, w0, w1]; omega)) only [e242_0, e242_1, e242_2, e242_3, e242_4, e242_5, e242_8, e242_9, e242_10, e242_14, e242_17, e242_18, e242_21, e242_23, e242_24, e242_26, e242_27, e242_28, e242_29, e242_31, e242_32, e242_33, e242_34, e242_37, e242_39, e242_40, e242_41, e242_44, e242_47, e242_48, e242_49, e242_52, e242_54, e242_55, e242_58, e242_61, e242_62, e242_63, e242_64, e242_65, e242_66, e242_69, e242_71, e242_72, e242_73, e242_74, e242_75, e242_78, e242_81, e242_82, kl_I, kl_R, kl_N, kl_L, oSm, oNn, Option.bind_some, wN, if_pos, if_neg, nS, tN, t0, w0, w1, w2, w3, w4, w5, wm1, upA_ne, upA_same, if_true, if_false, Bool.false_eq_true, ra40, rl40, hm1, w10, x1, x2, up1_same, hb]
        have nk : ¬ okP n m (pOf n D) := fun ok => by
          obtain ⟨j, hj, hjb⟩ := hbt.mp h2
          have := ok.2 (n - 1 - i) (n - 1 - j) (by omega) (by omega) (by rw [key k rfl, pe j (by omega), hjb])
          omega
        exact End.of rfl ⟨by rw [no nk]; rfl, fun q => (by rw [no nk] at q; cases q), fr⟩
      · have h2' : (mtN D i).testBit k = false := by simpa using h2
        rw [h2'] at hb
        replace hb : run sh d 167 [mI (mtN D i : Int), mI (k : Int)] (upA σ1.1 146 (up1 (σ1.1 146) (n - 1 - i) (k : Int)), σ1.2) = some (some (mI 0), _) := hb
        simp (disch := first | assumption | omega | (simp (disch := omega) only [wN, w0, w1]; omega)) only [e242_0, e242_1, e242_2, e242_3, e242_4, e242_5, e242_8, e242_9, e242_10, e242_14, e242_17, e242_18, e242_21, e242_23, e242_24, e242_26, e242_27, e242_28, e242_29, e242_31, e242_32, e242_33, e242_34, e242_37, e242_39, e242_40, e242_41, e242_44, e242_47, e242_48, e242_49, e242_52, e242_54, e242_55, e242_58, e242_61, e242_62, e242_63, e242_64, e242_65, e242_66, e242_69, e242_71, e242_72, e242_73, e242_74, e242_75, e242_78, e242_81, e242_82, kl_I, kl_R, kl_N, kl_L, oSm, oNn, Option.bind_some, wN, if_pos, if_neg, nS, tN, t0, w0, w1, w2, w3, w4, w5, wm1, upA_ne, upA_same, if_true, if_false, Bool.false_eq_true, ra40, rl40, hm1, w10, x1, x2, up1_same, hb, xs, x3, q2]
        refine ih _ ⟨fun j hj => ⟨c1 j hj, ?_⟩, fun j l hj hl => ?_, fr⟩
        · by_cases e : j = i
          · rw [e, hk]; exact h1
          · exact (e1 j (by omega)).2
        · by_cases e : j = i
          · rw [e, hk]
            intro g
            exact h2 (hbt.mpr ⟨l, by omega, g.symm⟩)
          · exact e2 j l (by omega) hl
    · simp (disch := first | assumption | omega | (simp (disch := omega) only [wN, w0, w1]; omega)) only [e242_0, e242_1, e242_2, e242_3, e242_4, e242_5, e242_8, e242_9, e242_10, e242_14, e242_17, e242_18, e242_21, e242_23, e242_24, e242_26, e242_27, e242_28, e242_29, e242_31, e242_32, e242_33, e242_34, e242_37, e242_39, e242_40, e242_41, e242_44, e242_47, e242_48, e242_49, e242_52, e242_54, e242_55, e242_58, e242_61, e242_62, e242_63, e242_64, e242_65, e242_66, e242_69, e242_71, e242_72, e242_73, e242_74, e242_75, e242_78, e242_81, e242_82, kl_I, kl_R, kl_N, kl_L, oSm, oNn, Option.bind_some, wN, if_pos, if_neg, nS, tN, t0, w0, w1, w2, w3, w4, w5, wm1, upA_ne, upA_same, if_true, if_false, Bool.false_eq_true, ra40, rl40, hm1, w10, x1, x2, up1_same]
      have nk : ¬ okP n m (pOf n D) := fun ok => h1 (by
        have := ok.1 (n - 1 - i) (by omega)
        rw [key k rfl] at this
        exact this)
      exact End.of rfl ⟨by rw [no nk]; rfl, fun q => (by rw [no nk] at q; cases q), fr⟩) 0 (Nat.zero_le _)
  have L0 := L σ ⟨fun j hj => by omega, fun j k hj => by omega, frW.rf⟩
  rw [Nat.pow_zero, Nat.div_one] at L0
  simp (disch := first | assumption | omega | (simp (disch := omega) only [wN, w0, w1]; omega)) only [e242_0, e242_1, e242_2, e242_3, e242_4, e242_5, e242_8, e242_9, e242_10, e242_14, e242_17, e242_18, e242_21, e242_23, e242_24, e242_26, e242_27, e242_28, e242_29, e242_31, e242_32, e242_33, e242_34, e242_37, e242_39, e242_40, e242_41, e242_44, e242_47, e242_48, e242_49, e242_52, e242_54, e242_55, e242_58, e242_61, e242_62, e242_63, e242_64, e242_65, e242_66, e242_69, e242_71, e242_72, e242_73, e242_74, e242_75, e242_78, e242_81, e242_82, kl_I, kl_R, kl_N, kl_L, oSm, oNn, Option.bind_some, wN, if_pos, if_neg, nS, tN, t0, w0, w1, w2, w3, w4, w5, wm1, upA_ne, upA_same, if_true, if_false, Bool.false_eq_true, q242, hN]
  have e0 : (n : Int) - 1 - ((0 : Nat) : Int) = (n : Int) - 1 := by omega
  rw [e0] at L0
  exact L0
end NM

