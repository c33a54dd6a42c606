/-! ===== the reference: all that can is done ===== -/
theorem sb_or {A D k : Nat} (h : A < 2 ^ k) : sbB A (D ||| 2 ^ k) = sbB A D := by
  have e : A &&& (D ||| 2 ^ k) = A &&& D := by
    apply Nat.eq_of_testBit_eq
    intro j
    rw [Nat.testBit_and, Nat.testBit_or, Nat.testBit_and, Nat.testBit_two_pow]
    by_cases q : k = j
    · rw [← q, Nat.testBit_lt_two_pow h]; simp
    · simp [q]
  unfold sbB
  rw [e]
/-- what was passed cannot be done later -/
theorem daD_pre {F : Nat → Nat → Nat} {c : List Gt} {A P : Nat → Nat} {D N : Nat} (hA : ∀ g, g < N → A g < 2 ^ g) : ∀ k, k ≤ N → ∀ j, j < k → dbB F c A P (daD F c A P D k) j = false := by
  intro k
  induction k with
  | zero => intro _ j hj; omega
  | succ k ih =>
    intro hk j hj
    rw [daD]
    by_cases e : dbB F c A P (daD F c A P D k) k = true
    · rw [if_pos e]
      by_cases q : j = k
      · subst q
        unfold dbB opB
        rw [Nat.testBit_or, Nat.testBit_two_pow]
        simp
      · have h := ih (by omega) j (by omega)
        have aj : A j < 2 ^ k := Nat.lt_of_lt_of_le (hA j (by omega)) (Nat.pow_le_pow_right (by omega) (by omega))
        unfold dbB opB at h ⊢
        rw [sb_or aj, Nat.testBit_or, Nat.testBit_two_pow, show decide (k = j) = false from decide_eq_false (by omega), Bool.or_false]
        exact h
    · rw [if_neg e]
      by_cases q : j = k
      · subst q; simpa using e
      · exact ih (by omega) j (by omega)
theorem rrA_st {F : Nat → Nat → Nat} {c : List Gt} {A P : Nat → Nat} {x : Nat × (Nat → Nat) × List Sp} {g : Nat} : ∀ k, (∀ j, g ≤ j → j < g + k → dbB F c A P (rrA F c A P g x).1 j = false) → rrA F c A P (g + k) x = rrA F c A P g x
  | 0, _ => rfl
  | k + 1, h => by
    have e := rrA_st k (fun j h1 h2 => h j h1 (by omega))
    rw [← Nat.add_assoc, rrA, e, if_neg (by rw [h (g + k) (by omega) (by omega)]; simp)]
theorem sA_l {S : List Sp} {s : Sp} {j : Nat} (h : j < S.length) : sA (S ++ [s]) j = sA S j := by simp [sA, List.getD, List.getElem?_append_left h]
theorem sA_n {S : List Sp} {s : Sp} : sA (S ++ [s]) S.length = s := by simp [sA, List.getD]
theorem fst1_bf {p : Nat → Bool} : ∀ {k i x : Nat}, fst1 p k i = some x → ∀ y, i ≤ y → y < x → p y = false
  | 0, i, x, h, _, _, _ => by cases h
  | k + 1, i, x, h, y, h1, h2 => by
    rw [fst1] at h
    split at h
    · injection h with h; omega
    · rename_i g
      by_cases q : y = i
      · rw [q]; simpa using g
      · exact fst1_bf h y (by omega) h2
theorem fst1_nn {p : Nat → Bool} : ∀ {k i : Nat}, fst1 p k i = none → ∀ y, i ≤ y → y < i + k → p y = false
  | 0, i, _, _, _, _ => by omega
  | k + 1, i, h, y, h1, h2 => by
    rw [fst1] at h
    split at h
    · cases h
    · rename_i g
      by_cases q : y = i
      · rw [q]; simpa using g
      · exact fst1_nn h y (by omega) (by omega)
theorem rrA_cnt {F : Nat → Nat → Nat} {c : List Gt} {A P : Nat → Nat} {x : Nat × (Nat → Nat) × List Sp} : ∀ g, g ≤ c.length → (rrA F c A P g x).2.2.length + pcD x.1 c.length = pcD (rrA F c A P g x).1 c.length + x.2.2.length
  | 0, _ => Nat.add_comm _ _
  | g + 1, h => by
    have ih := rrA_cnt (F := F) (c := c) (A := A) (P := P) (x := x) g (by omega)
    rw [rrA]
    split
    · rename_i q
      have := pcD_or (dbB_bit q) c.length (by omega)
      simp only [List.length_append, List.length_cons, List.length_nil]
      omega
    · exact ih
section NP
variable {sh : Shp} {d m n g : Nat} {σ : Mem} {E : List Ed} {a : AX} {z w : Int} {c : List Gt} {P A : Nat → Nat} {b : Bool} {x : Nat × (Nat → Nat) × List Sp}
/-- a step more -/
theorem RV.st {σ' : Mem} {D' : Nat} {w' : Nat → Nat} {s : Sp} (h : RV b σ n P x) (hf : ∀ j, j < 4 * x.2.2.length → σ'.1 150 j = σ.1 150 j) (h0 : stC σ' x.2.2.length s) (h46 : σ'.1 124 46 = ((x.2.2.length + 1 : Nat) : Int)) (h48 : σ'.1 124 48 = (D' : Int)) (hw : b = true → ∀ p, p < 5 → σ'.1 149 p = (w' p : Int)) {P' : Nat → Nat} (h147 : HLm σ' 147 n P') (hx : ∀ l, n ≤ l → l < 4 → σ'.1 147 l = -1) : RV b σ' n P' (D', w', x.2.2 ++ [s]) := by
  obtain ⟨h1, h2, h3, h4, h5, h6⟩ := h
  refine ⟨h147, hx, h48, hw, by rw [h46]; simp, fun j hj => ?_⟩
  have hj' : j < x.2.2.length + 1 := by simpa using hj
  by_cases e : j = x.2.2.length
  · show stC σ' j (sA (x.2.2 ++ [s]) j)
    rw [e, sA_n]; exact h0
  · show stC σ' j (sA (x.2.2 ++ [s]) j)
    rw [sA_l (by omega)]
    have k := h6 j (by omega)
    unfold stC at k ⊢
    rw [hf _ (by omega), hf _ (by omega), hf _ (by omega), hf _ (by omega)]
    exact k
theorem M248 (hM : MS sh) (hR : RC σ n m c E A) (hc : c.length ≤ 30) (hv : okC n c) (hn : n ≤ 4) (hm : m ≤ 5) (hP : okP n m P) (hV : RV b σ n P x) (hD2 : x.1 < 2 ^ c.length) (hg : g < c.length) (h80 : x.2.2.length < 80) : End (run sh (d + 2) 248 [mR 124, mI (g : Int)] σ) (fun r σ' => r = none ∧ RV b σ' n P (x.1 ||| 2 ^ g, (if 3 ≤ (gA c g).1 then (fun _ => 0) else x.2.1), x.2.2 ++ [(sgP P (gA c g), false)]) ∧ frW 149 150 46 48 σ σ' ∧ σ'.1 124 47 = σ.1 124 47) := by
  have mo := hM.1
  have m160 := hM.2.1
  obtain ⟨ra41, rk41, rl41⟩ := ms41 hM
  obtain ⟨ra43, rk43, rl43⟩ := ms43 hM
  have hV0 := hV
  obtain ⟨h1, h2, h3, h4, h5, h6⟩ := hV
  obtain ⟨r1, r2, r3, _⟩ := hR
  obtain ⟨u1, u2, u3, u4, u5⟩ := hv.at hg
  have a3 := E173 (d := d) (z := 0) hM r1 (by omega) hc hv hg rfl
  have o0 := of0 (d := d + 1) (z := 0) hM r1 (by omega) hc hg rfl
  have o1 := of1 (d := d + 1) (z := 0) hM r1 (by omega) hc hg rfl
  have o2 := of2 (d := d + 1) (z := 0) hM r1 (by omega) hc hg rfl
  have o3 := of3 (d := d + 1) (z := 0) hM r1 (by omega) hc hg rfl
  have g1 := h1 _ u2
  have p1 := hP.1 _ u2
  have dg := D30 hD2 hc
  have xs := xshl_1 (k := g) (by omega)
  have pg : 2 ^ g < 2147483648 := Nat.lt_of_lt_of_le (Nat.pow_lt_pow_right (by omega) (show g < 31 by omega)) (p31 (Nat.le_refl 31))
  have xo := xor_nn (a := x.1) (b := 2 ^ g) (by omega) pg
  by_cases e : 3 ≤ (gA c g).1
  · rw [if_pos e] at a3
    rw [if_pos e]
    have u6 := u5 e
    obtain ⟨y, hy⟩ : ∃ y : Nat, (gA c g).2.2 = (y : Int) := ⟨(gA c g).2.2.toNat, by omega⟩
    rw [rb, if_neg (by omega), hy] at o2
    rw [rk, if_neg (by omega)] at o3
    have g2 := h1 y (by omega)
    obtain ⟨σ1, b1, b2, b3, b4, b5, b6, b7, b8⟩ := M245 (d := d + 1) (σ := σ) (k := ((gA c g).1 : Int)) (p := (P (gA c g).2.1 : Int)) (q := (P y : Int)) (u := 0) (sw := false) hM h5 h80
    have wb : bi false = 0 := rfl
    rw [wb] at b1
    have k48 : σ1.1 124 48 = (x.1 : Int) := by rw [b8.2 48 (by omega)]; exact h3
    have hs : stC σ1 x.2.2.length (sgP P (gA c g), false) := by
      refine ⟨b2, b3, ?_, ?_⟩
      · rw [b4, rb, if_neg (by show ¬ (gA c g).1 < 3; omega)]
        show _ = if 3 ≤ (gA c g).1 then _ else _
        rw [if_pos e, hy]; rfl
      · show _ = rk (sgP P (gA c g))
        rw [rk, if_neg (show ¬ (sgP P (gA c g)).1 = 0 by show ¬ (gA c g).1 = 0; omega)]
        exact b5
    have L := for_P (5) (fun i => ∀ (σ2 : Mem), ((∀ p, p < i → σ2.1 149 p = 0) ∧ frW 149 149 1 0 (upA σ1.1 124 (up1 (σ1.1 124) 48 ((x.1 ||| 2 ^ g : Nat) : Int)), σ1.2) σ2) → End (ev sh (d + 2) 248 72 [some (mR (124)), some (mI ((g : Nat) : Int)), some (mI (1)), some (mI ((i : Nat) : Int))] [] σ2) (fun r σ' => r = none ∧ RV b σ' n P (x.1 ||| 2 ^ g, (fun _ => 0), x.2.2 ++ [(sgP P (gA c g), false)]) ∧ frW 149 150 46 48 σ σ' ∧ σ'.1 124 47 = σ.1 124 47)) (by
      intro σ2  hp
      replace hp : (∀ p, p < (5) → σ2.1 149 p = 0) ∧ frW 149 149 1 0 (upA σ1.1 124 (up1 (σ1.1 124) 48 ((x.1 ||| 2 ^ g : Nat) : Int)), σ1.2) σ2 := hp
      show End (ev sh (d + 2) 248 72 [some (mR (124)), some (mI ((g : Nat) : Int)), some (mI (1)), some (mI (((5) : Nat) : Int))] [] σ2) (fun r σ' => r = none ∧ RV b σ' n P (x.1 ||| 2 ^ g, (fun _ => 0), x.2.2 ++ [(sgP P (gA c g), false)]) ∧ frW 149 150 46 48 σ σ' ∧ σ'.1 124 47 = σ.1 124 47)
      rw [e248_72]
      simp (disch := first | assumption | omega | (simp (disch := omega) only [wN, w0, w1]; omega)) only [e248_0, e248_1, e248_2, e248_3, e248_6, e248_7, e248_8, e248_9, e248_10, e248_11, e248_12, e248_15, e248_16, e248_19, e248_20, e248_21, e248_22, e248_23, e248_26, e248_27, e248_28, e248_31, e248_32, e248_35, e248_36, e248_37, e248_38, e248_39, e248_42, e248_43, e248_46, e248_47, e248_48, e248_49, e248_50, e248_51, e248_54, e248_55, e248_58, e248_59, e248_60, e248_63, e248_64, e248_65, e248_66, e248_67, e248_70, e248_71, e248_73, e248_74, e248_77, e248_78, e248_81, e248_82, e248_85, e248_86, e248_87, e248_88, e248_91, e248_94, kl_I, kl_R, kl_N, kl_L, oSm, oNn, Option.bind_some, wN, if_pos, if_neg, nS, tN, t0, w0, w1, w2, w3, w4, w5, wm1, upA_ne, upA_same, if_true, if_false, Bool.false_eq_true]
      have k150 : σ2.1 150 = σ1.1 150 := by
        rw [(hp.2.1 150 (by omega) (by omega)).1]
        simp (disch := omega) only [upA_ne]
      have k147 : σ2.1 147 = σ.1 147 := by
        rw [(hp.2.1 147 (by omega) (by omega)).1]
        simp (disch := omega) only [upA_ne]
        exact (b8.1 147 (by omega) (by omega)).1
      refine End.of rfl ⟨rfl, ?_, (b8.w (by omega) (by omega) (by omega) (by omega)).tr ((frW.f (i := 48) (by omega)).tr (hp.2.w (by omega) (by omega) (by omega) (by omega))), (by
        rw [hp.2.2 47 (by omega)]
        simp (disch := omega) only [upA_same, up1_ne]
        exact b8.2 47 (by omega))⟩
      refine hV0.st (fun j hj => by rw [k150]; exact b6 j hj) ?_ ?_ ?_ (fun _ p hp5 => ?_) (fun q hq => by rw [k147]; exact h1 q hq) (fun l p q => by rw [k147]; exact h2 l p q)
      · unfold stC at hs ⊢
        rw [k150]; exact hs
      · rw [hp.2.2 46 (by omega)]
        simp (disch := omega) only [upA_same, up1_ne]
        exact b7
      · rw [hp.2.2 48 (by omega)]
        simp (disch := omega) only [upA_same, up1_same]
      · exact hp.1 p hp5) (fun i hi ih => by
      replace ih : ∀ (σ2 : Mem), ((∀ p, p < (i + 1) → σ2.1 149 p = 0) ∧ frW 149 149 1 0 (upA σ1.1 124 (up1 (σ1.1 124) 48 ((x.1 ||| 2 ^ g : Nat) : Int)), σ1.2) σ2) → End (ev sh (d + 2) 248 72 [some (mR (124)), some (mI ((g : Nat) : Int)), some (mI (1)), some (mI (((i + 1) : Nat) : Int))] [] σ2) (fun r σ' => r = none ∧ RV b σ' n P (x.1 ||| 2 ^ g, (fun _ => 0), x.2.2 ++ [(sgP P (gA c g), false)]) ∧ frW 149 150 46 48 σ σ' ∧ σ'.1 124 47 = σ.1 124 47) := ih
      intro σ2  hp
      replace hp : (∀ p, p < i → σ2.1 149 p = 0) ∧ frW 149 149 1 0 (upA σ1.1 124 (up1 (σ1.1 124) 48 ((x.1 ||| 2 ^ g : Nat) : Int)), σ1.2) σ2 := hp
      show End (ev sh (d + 2) 248 72 [some (mR (124)), some (mI ((g : Nat) : Int)), some (mI (1)), some (mI ((i : Nat) : Int))] [] σ2) (fun r σ' => r = none ∧ RV b σ' n P (x.1 ||| 2 ^ g, (fun _ => 0), x.2.2 ++ [(sgP P (gA c g), false)]) ∧ frW 149 150 46 48 σ σ' ∧ σ'.1 124 47 = σ.1 124 47)
      rw [e248_72]
      simp (disch := first | assumption | omega | (simp (disch := omega) only [wN, w0, w1]; omega)) only [e248_0, e248_1, e248_2, e248_3, e248_6, e248_7, e248_8, e248_9, e248_10, e248_11, e248_12, e248_15, e248_16, e248_19, e248_20, e248_21, e248_22, e248_23, e248_26, e248_27, e248_28, e248_31, e248_32, e248_35, e248_36, e248_37, e248_38, e248_39, e248_42, e248_43, e248_46, e248_47, e248_48, e248_49, e248_50, e248_51, e248_54, e248_55, e248_58, e248_59, e248_60, e248_63, e248_64, e248_65, e248_66, e248_67, e248_70, e248_71, e248_73, e248_74, e248_77, e248_78, e248_81, e248_82, e248_85, e248_86, e248_87, e248_88, e248_91, e248_94, kl_I, kl_R, kl_N, kl_L, oSm, oNn, Option.bind_some, wN, if_pos, if_neg, nS, tN, t0, w0, w1, w2, w3, w4, w5, wm1, upA_ne, upA_same, if_true, if_false, Bool.false_eq_true, ra43, rl43]
      refine ih _ ⟨fun p hp5 => ?_, hp.2.tr (frW.a (a := 149) (by omega) (by omega))⟩
      simp (disch := omega) only [upA_same]
      by_cases q : p = i
      · rw [q, up1_same]
      · rw [up1_ne q]; exact hp.1 p (by omega)) 0 (Nat.zero_le _)
    simp (disch := first | assumption | omega | (simp (disch := omega) only [wN, w0, w1]; omega)) only [e248_0, e248_1, e248_2, e248_3, e248_6, e248_7, e248_8, e248_9, e248_10, e248_11, e248_12, e248_15, e248_16, e248_19, e248_20, e248_21, e248_22, e248_23, e248_26, e248_27, e248_28, e248_31, e248_32, e248_35, e248_36, e248_37, e248_38, e248_39, e248_42, e248_43, e248_46, e248_47, e248_48, e248_49, e248_50, e248_51, e248_54, e248_55, e248_58, e248_59, e248_60, e248_63, e248_64, e248_65, e248_66, e248_67, e248_70, e248_71, e248_73, e248_74, e248_77, e248_78, e248_81, e248_82, e248_85, e248_86, e248_87, e248_88, e248_91, e248_94, kl_I, kl_R, kl_N, kl_L, oSm, oNn, Option.bind_some, wN, if_pos, if_neg, nS, tN, t0, w0, w1, w2, w3, w4, w5, wm1, upA_ne, upA_same, if_true, if_false, Bool.false_eq_true, q248, a3, o0, o1, o2, o3, ra41, rl41, g1, g2, b1, k48, xs, xo]
    exact L _ ⟨fun p hp5 => by omega, frW.rf⟩
  · rw [if_neg e] at a3
    rw [if_neg e]
    obtain ⟨σ1, b1, b2, b3, b4, b5, b6, b7, b8⟩ := M245 (d := d + 1) (σ := σ) (k := ((gA c g).1 : Int)) (p := (P (gA c g).2.1 : Int)) (q := -1) (u := rk (gA c g)) (sw := false) hM h5 h80
    have wb : bi false = 0 := rfl
    rw [wb] at b1
    have k48 : σ1.1 124 48 = (x.1 : Int) := by rw [b8.2 48 (by omega)]; exact h3
    have hs : stC σ1 x.2.2.length (sgP P (gA c g), false) := by
      refine ⟨b2, b3, ?_, ?_⟩
      · rw [b4, rb, if_pos (by show (gA c g).1 < 3; omega)]
      · have b5' : σ1.1 150 (4 * x.2.2.length + 3) = rk (gA c g) := b5
        rw [b5']
        show rk (gA c g) = rk (sgP P (gA c g))
        rw [rk, rk]
        show _ = if (gA c g).1 = 0 then (if 3 ≤ (gA c g).1 then _ else (gA c g).2.2) else 0
        rw [if_neg e]
    simp (disch := first | assumption | omega | (simp (disch := omega) only [wN, w0, w1]; omega)) only [e248_0, e248_1, e248_2, e248_3, e248_6, e248_7, e248_8, e248_9, e248_10, e248_11, e248_12, e248_15, e248_16, e248_19, e248_20, e248_21, e248_22, e248_23, e248_26, e248_27, e248_28, e248_31, e248_32, e248_35, e248_36, e248_37, e248_38, e248_39, e248_42, e248_43, e248_46, e248_47, e248_48, e248_49, e248_50, e248_51, e248_54, e248_55, e248_58, e248_59, e248_60, e248_63, e248_64, e248_65, e248_66, e248_67, e248_70, e248_71, e248_72, e248_73, e248_74, e248_77, e248_78, e248_81, e248_82, e248_85, e248_86, e248_87, e248_88, e248_91, e248_94, kl_I, kl_R, kl_N, kl_L, oSm, oNn, Option.bind_some, wN, if_pos, if_neg, nS, tN, t0, w0, w1, w2, w3, w4, w5, wm1, upA_ne, upA_same, if_true, if_false, Bool.false_eq_true, q248, a3, o0, o1, o3, ra41, rl41, g1, b1, k48, xs, xo]
    refine End.of rfl ⟨rfl, ?_, (b8.w (by omega) (by omega) (by omega) (by omega)).tr (frW.f (i := 48) (by omega)), (by
      simp (disch := omega) only [upA_same, up1_ne]
      exact b8.2 47 (by omega))⟩
    refine hV0.st (fun j hj => ?_) ?_ ?_ ?_ (fun hb p hp5 => ?_) (fun q hq => ?_) (fun l p q => ?_)
    · simp (disch := omega) only [upA_ne]; exact b6 j hj
    · unfold stC at hs ⊢
      simp (disch := omega) only [upA_ne]; exact hs
    · simp (disch := omega) only [upA_same, up1_ne]; exact b7
    · simp (disch := omega) only [upA_same, up1_same]
    · simp (disch := omega) only [upA_ne]
      rw [(b8.1 149 (by omega) (by omega)).1]; exact h4 hb p hp5
    · simp (disch := omega) only [upA_ne]
      rw [(b8.1 147 (by omega) (by omega)).1]; exact h1 q hq
    · simp (disch := omega) only [upA_ne]
      rw [(b8.1 147 (by omega) (by omega)).1]; exact h2 l p q
theorem M250l (hM : MS sh) (hc : c.length ≤ 30) (hv : okC n c) (hn : n ≤ 4) (hm : m ≤ 5) (hP : okP n m P) (hx : x.1 < 2 ^ c.length) (h80 : x.2.2.length + 30 ≤ 80 + pcD x.1 c.length) : ∀ (k g : Nat) (σ1 : Mem), g + k = c.length → RC σ1 n m c E A → RV b σ1 n P (rrA (farE E) c A P g x) →
    End (ev sh (d + 4) 250 5 [some (mR (124)), some (mI (opI (fst1 (dbB (farE E) c A P (rrA (farE E) c A P g x).1) (c.length - 0) 0)))] [] σ1) (fun r σ' => r = none ∧ RV b σ' n P (rrA (farE E) c A P c.length x) ∧ frW 149 150 46 48 σ1 σ' ∧ σ'.1 124 47 = σ1.1 124 47) := by
  have mo := hM.1
  intro k
  induction k using Nat.strongRecOn with
  | ind k ih =>
    intro g σ1 hk hR hV
    have hA : ∀ g, g < c.length → A g < 2 ^ g := fun g hg => (hR.2.2.1 g hg).2
    have pre := daD_pre (F := farE E) (c := c) (A := A) (P := P) (D := x.1) hA g (by omega)
    rw [← rrA_D] at pre
    cases hf : fst1 (dbB (farE E) c A P (rrA (farE E) c A P g x).1) (c.length - 0) 0 with
    | none =>
      have e : rrA (farE E) c A P c.length x = rrA (farE E) c A P g x := by
        rw [← hk]
        exact rrA_st k fun j h1 h2 => fst1_nn hf j (by omega) (by omega)
      rw [e]
      have w9 : opI none = -1 := rfl
      rw [w9, e250_5]
      simp (disch := first | assumption | omega | (simp (disch := omega) only [wN, w0, w1]; omega)) only [e250_0, e250_1, e250_4, e250_6, e250_7, e250_10, e250_11, e250_12, e250_15, e250_16, e250_19, e250_20, e250_23, kl_I, kl_R, kl_N, kl_L, oSm, oNn, Option.bind_some, wN, if_pos, if_neg, nS, tN, t0, w0, w1, w2, w3, w4, w5, wm1, upA_ne, upA_same, if_true, if_false, Bool.false_eq_true]
      exact End.of rfl ⟨rfl, hV, frW.rf, rfl⟩
    | some g' =>
      have fi := fst1_in hf
      have gg : g ≤ g' := by
        rcases Nat.lt_or_ge g' g with q | q
        · have := pre g' q
          rw [fi.2.2] at this; cases this
        · exact q
      have hg' : g' < c.length := by omega
      have e : rrA (farE E) c A P g' x = rrA (farE E) c A P g x := by
        have := rrA_st (F := farE E) (c := c) (A := A) (P := P) (x := x) (g := g) (g' - g) (fun j h1 h2 => fst1_bf hf j (by omega) (by omega))
        rw [show g + (g' - g) = g' by omega] at this
        exact this
      have lt : (rrA (farE E) c A P g' x).1 < 2 ^ c.length := by rw [rrA_D]; exact daD_lt hx g' (by omega)
      have lt2 : (rrA (farE E) c A P (g' + 1) x).1 < 2 ^ c.length := by rw [rrA_D]; exact daD_lt hx (g' + 1) (by omega)
      have db := fi.2.2
      rw [← e] at db hV
      have es : rrA (farE E) c A P (g' + 1) x = ((rrA (farE E) c A P g' x).1 ||| 2 ^ g', (if 3 ≤ (gA c g').1 then (fun _ => 0) else (rrA (farE E) c A P g' x).2.1), (rrA (farE E) c A P g' x).2.2 ++ [(sgP P (gA c g'), false)]) := by
        rw [rrA, if_pos db]
      have c1 := rrA_cnt (F := farE E) (c := c) (A := A) (P := P) (x := x) g' (by omega)
      have c2 := pcD_or (dbB_bit db) c.length hg'
      have c3 := pcD_le ((rrA (farE E) c A P g' x).1 ||| 2 ^ g') c.length
      obtain ⟨r, σ2, a1, rfl, a2, a3, a4⟩ := M248 (d := d + 1) (g := g') hM hR hc hv hn hm hP hV lt hg' (by omega)
      have hR2 := hR.W a3 (by omega) (by omega)
      rw [← es] at a2
      have b1 := M249 (d := d) hM hR2 hc hv hn hm a2.1 hP a2.2.2.1 lt2
      have w9 : opI (some g') = (g' : Int) := rfl
      rw [w9, e250_5]
      simp (disch := first | assumption | omega | (simp (disch := omega) only [wN, w0, w1]; omega)) only [e250_0, e250_1, e250_4, e250_6, e250_7, e250_10, e250_11, e250_12, e250_15, e250_16, e250_19, e250_20, e250_23, kl_I, kl_R, kl_N, kl_L, oSm, oNn, Option.bind_some, wN, if_pos, if_neg, nS, tN, t0, w0, w1, w2, w3, w4, w5, wm1, upA_ne, upA_same, if_true, if_false, Bool.false_eq_true, a1, b1]
      exact (ih (c.length - (g' + 1)) (by omega) (g' + 1) σ2 (by omega) hR2 a2).imp fun r σ' q => ⟨q.1, q.2.1, a3.tr q.2.2.1, q.2.2.2.trans a4⟩
theorem M250 (hM : MS sh) (hc : c.length ≤ 30) (hv : okC n c) (hn : n ≤ 4) (hm : m ≤ 5) (hP : okP n m P) (hx : x.1 < 2 ^ c.length) (h80 : x.2.2.length + 30 ≤ 80 + pcD x.1 c.length) (hR : RC σ n m c E A) (hV : RV b σ n P x) : End (run sh (d + 4) 250 [mR 124] σ) (fun r σ' => r = none ∧ RV b σ' n P (rrA (farE E) c A P c.length x) ∧ frW 149 150 46 48 σ σ' ∧ σ'.1 124 47 = σ.1 124 47) := by
  have mo := hM.1
  have b1 := M249 (d := d) hM hR hc hv hn hm hV.1 hP hV.2.2.1 hx
  simp (disch := first | assumption | omega | (simp (disch := omega) only [wN, w0, w1]; omega)) only [e250_0, e250_1, e250_4, e250_6, e250_7, e250_10, e250_11, e250_12, e250_15, e250_16, e250_19, e250_20, e250_23, kl_I, kl_R, kl_N, kl_L, oSm, oNn, Option.bind_some, wN, if_pos, if_neg, nS, tN, t0, w0, w1, w2, w3, w4, w5, wm1, upA_ne, upA_same, if_true, if_false, Bool.false_eq_true, q250, b1]
  exact M250l (d := d) hM hc hv hn hm hP hx h80 c.length 0 σ (by omega) hR hV
end NP

