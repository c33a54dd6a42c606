/-! ===== the reference: both run, orders of lines ===== -/
def pkO (left : Nat) : Nat → Nat → Nat → Option Nat
  | 0, _, _ => none
  | f + 1, nth, p => if left.testBit p = true then (if nth = 0 then some p else pkO left f (nth - 1) (p + 1)) else pkO left f nth (p + 1)
def faC : Nat → Nat
  | 0 => 1
  | l + 1 => faC l * (l + 1)
/-- what is left, the rest, the ways, before line l -/
def stO (n o : Nat) : Nat → Nat × Nat × Nat
  | 0 => (2 ^ n - 1, o, faC n)
  | l + 1 => ((stO n o l).1 &&& ((stO n o l).1 ^^^ 2 ^ ((pkO (stO n o l).1 5 ((stO n o l).2.1 / ((stO n o l).2.2 / (n - l))) 0).getD 0)), (stO n o l).2.1 % ((stO n o l).2.2 / (n - l)), (stO n o l).2.2 / (n - l))
def stK (n o l : Nat) : Bool := decide ((stO n o l).1 < 32 ∧ (stO n o l).2.1 < 1000 ∧ (stO n o l).2.2 < 1000 ∧ 0 < (stO n o l).2.2 / (n - l)) && decide (pkO (stO n o l).1 5 ((stO n o l).2.1 / ((stO n o l).2.2 / (n - l))) 0 = some (pOf n ((rwL n n).getD o 0) l)) && decide (pOf n ((rwL n n).getD o 0) l < n)
theorem stK_all : ∀ n, n < 5 → (List.range (faC n)).all (fun o => (List.range n).all (stK n o)) = true := by decide +kernel
theorem stK_at {n o l : Nat} (hn : n ≤ 4) (ho : o < faC n) (hl : l < n) : stK n o l = true := by
  have h := stK_all n (by omega)
  rw [List.all_eq_true] at h
  have h2 := h o (List.mem_range.mpr ho)
  rw [List.all_eq_true] at h2
  exact h2 l (List.mem_range.mpr hl)
theorem faC_le : ∀ n, n < 5 → faC n ≤ 24 ∧ 0 < faC n ∧ faC n = (rwL n n).length := by decide +kernel
section NG
variable {sh : Shp} {d t n s : Nat} {σ : Mem} {z w : Int} {c ck : List Gt} {a : AX} {o : Nat}
theorem M226 (hM : MS sh) (hG : HGm σ 0 c) (hc : c.length ≤ 30) (hv : okC n c) (hK : HGm σ 1 ck) (hck : ck.length ≤ 30) (hvk : okC n ck) (hN : σ.1 124 8 = (n : Int)) (hn : n ≤ 4) (hs : s < 2 ^ n) : End (run sh (d + 3) 226 [mR 124, mI (s : Int)] σ) (fun r σ' => r = none ∧ HV σ' 137 (amV c s).1 ∧ σ'.1 124 31 = ((amV c s).2 : Int) ∧ HV σ' 143 (amV ck s).1 ∧ σ'.1 124 37 = ((amV ck s).2 : Int) ∧ frW 137 143 31 37 σ σ') := by
  have mo := hM.1
  have m160 := hM.2.1
  obtain ⟨ra29, rk29, rl29⟩ := ms29 hM
  obtain ⟨ra36, rk36, rl36⟩ := ms36 hM
  obtain ⟨r, σ1, a1, rfl, a3, a4, a5⟩ := M204 (d := d) (t := 1) (z := 1) hM hK (by omega) hck hvk hN hn hs rfl
  have w64 : wi 64 = 64 := rfl
  have L := for_P (64) (fun i => ∀ (σ2 : Mem), ((∀ x, x < i → σ2.2 143 x = σ1.2 137 x) ∧ frL 143 σ1 σ2) → End (ev sh (d + 3) 226 8 [some (mR (124)), some (mI ((s : Nat) : Int)), some (mI ((i : Nat) : Int))] [] σ2) (fun r σ' => r = none ∧ HV σ' 137 (amV c s).1 ∧ σ'.1 124 31 = ((amV c s).2 : Int) ∧ HV σ' 143 (amV ck s).1 ∧ σ'.1 124 37 = ((amV ck s).2 : Int) ∧ frW 137 143 31 37 σ σ')) (by
    intro σ2  hp
    replace hp : (∀ x, x < (64) → σ2.2 143 x = σ1.2 137 x) ∧ frL 143 σ1 σ2 := hp
    show End (ev sh (d + 3) 226 8 [some (mR (124)), some (mI ((s : Nat) : Int)), some (mI (((64) : Nat) : Int))] [] σ2) (fun r σ' => r = none ∧ HV σ' 137 (amV c s).1 ∧ σ'.1 124 31 = ((amV c s).2 : Int) ∧ HV σ' 143 (amV ck s).1 ∧ σ'.1 124 37 = ((amV ck s).2 : Int) ∧ frW 137 143 31 37 σ σ')
    obtain ⟨e1, e2⟩ := hp
    have p31 : σ2.1 124 31 = ((amV ck s).2 : Int) := by rw [e2.1]; exact a4
    have f1 : frW 137 143 31 37 σ σ2 := (a5.w (by omega) (by omega) (by omega) (by omega)).tr (frL.W e2 (by omega))
    have f2 : frW 137 143 31 37 σ (upA σ2.1 124 (up1 (σ2.1 124) 37 ((amV ck s).2 : Int)), σ2.2) := f1.tr (frW.f (by omega))
    have hG2 : HGm (upA σ2.1 124 (up1 (σ2.1 124) 37 ((amV ck s).2 : Int)), σ2.2) 0 c := hG.k (by rw [(f2.1 126 (by omega) (by omega)).1]) (fun _ _ _ => by rw [(f2.1 125 (by omega) (by omega)).1])
    obtain ⟨r, σ3, b1, rfl, b3, b4, b5⟩ := M204 (d := d) (t := 0) (z := 0) (σ := (upA σ2.1 124 (up1 (σ2.1 124) 37 ((amV ck s).2 : Int)), σ2.2)) hM hG2 (by omega) hc hv (by rw [f2.2 8 (by omega)]; exact hN) hn hs rfl
    rw [e226_8]
    simp (disch := first | assumption | omega | (simp (disch := omega) only [wN, w0, w1]; omega)) only [e226_0, e226_1, e226_2, e226_3, e226_6, e226_7, e226_9, e226_11, e226_14, e226_15, e226_18, e226_19, e226_20, e226_23, e226_24, e226_25, e226_26, e226_29, e226_32, e226_33, e226_34, e226_37, e226_40, e226_41, e226_42, e226_43, e226_46, kl_I, kl_R, kl_N, kl_L, oSm, oNn, Option.bind_some, wN, if_pos, if_neg, nS, tN, t0, w0, w1, w2, w3, w4, w5, wm1, upA_ne, upA_same, if_true, if_false, Bool.false_eq_true, w64, p31, b1]
    refine End.of rfl ⟨rfl, b3, b4, fun y hy => ?_, ?_, f2.tr (b5.w (by omega) (by omega) (by omega) (by omega))⟩
    · have q : σ3.2 143 = σ2.2 143 := (b5.1 143 (by omega) (by omega)).2
      rw [q, e1 _ (by omega), e1 _ (by omega), e1 _ (by omega), e1 _ (by omega)]
      exact a3 y hy
    · rw [b5.2 37 (by omega)]
      simp (disch := omega) only [upA_same, up1_same]) (fun i hi ih => by
    replace ih : ∀ (σ2 : Mem), ((∀ x, x < (i + 1) → σ2.2 143 x = σ1.2 137 x) ∧ frL 143 σ1 σ2) → End (ev sh (d + 3) 226 8 [some (mR (124)), some (mI ((s : Nat) : Int)), some (mI (((i + 1) : Nat) : Int))] [] σ2) (fun r σ' => r = none ∧ HV σ' 137 (amV c s).1 ∧ σ'.1 124 31 = ((amV c s).2 : Int) ∧ HV σ' 143 (amV ck s).1 ∧ σ'.1 124 37 = ((amV ck s).2 : Int) ∧ frW 137 143 31 37 σ σ') := ih
    intro σ2  hp
    replace hp : (∀ x, x < i → σ2.2 143 x = σ1.2 137 x) ∧ frL 143 σ1 σ2 := hp
    show End (ev sh (d + 3) 226 8 [some (mR (124)), some (mI ((s : Nat) : Int)), some (mI ((i : Nat) : Int))] [] σ2) (fun r σ' => r = none ∧ HV σ' 137 (amV c s).1 ∧ σ'.1 124 31 = ((amV c s).2 : Int) ∧ HV σ' 143 (amV ck s).1 ∧ σ'.1 124 37 = ((amV ck s).2 : Int) ∧ frW 137 143 31 37 σ σ')
    obtain ⟨e1, e2⟩ := hp
    have g1 : σ2.2 137 i = σ1.2 137 i := by rw [e2.2 137 (by omega)]
    rw [e226_8]
    simp (disch := first | assumption | omega | (simp (disch := omega) only [wN, w0, w1]; omega)) only [e226_0, e226_1, e226_2, e226_3, e226_6, e226_7, e226_9, e226_11, e226_14, e226_15, e226_18, e226_19, e226_20, e226_23, e226_24, e226_25, e226_26, e226_29, e226_32, e226_33, e226_34, e226_37, e226_40, e226_41, e226_42, e226_43, e226_46, kl_I, kl_R, kl_N, kl_L, oSm, oNn, Option.bind_some, wN, if_pos, if_neg, nS, tN, t0, w0, w1, w2, w3, w4, w5, wm1, upA_ne, upA_same, if_true, if_false, Bool.false_eq_true, w64, ra29, rl29, ra36, rl36, g1]
    refine ih _ ⟨fun x hx => ?_, e2.tr frL.up⟩
    simp (disch := omega) only [upA_same]
    by_cases q : x = i
    · rw [q, up1_same]
    · rw [up1_ne q]; exact e1 x (by omega)) 0 (Nat.zero_le _)
  simp (disch := first | assumption | omega | (simp (disch := omega) only [wN, w0, w1]; omega)) only [e226_0, e226_1, e226_2, e226_3, e226_6, e226_7, e226_9, e226_11, e226_14, e226_15, e226_18, e226_19, e226_20, e226_23, e226_24, e226_25, e226_26, e226_29, e226_32, e226_33, e226_34, e226_37, e226_40, e226_41, e226_42, e226_43, e226_46, kl_I, kl_R, kl_N, kl_L, oSm, oNn, Option.bind_some, wN, if_pos, if_neg, nS, tN, t0, w0, w1, w2, w3, w4, w5, wm1, upA_ne, upA_same, if_true, if_false, Bool.false_eq_true, q226, a1]
  exact L σ1 ⟨fun x hx => by omega, frL.rf⟩
theorem M229 (hM : MS sh) (hN : σ.1 124 8 = (n : Int)) (h1 : 1 ≤ n) (hn : n ≤ 4) : run sh d 229 [mR 124] σ = some (some (mI (faC n : Int)), σ) := by
  have mo := hM.1
  have b : ∀ i, i ≤ 4 → faC i ≤ 24 := fun i hi => (faC_le i (by omega)).1
  have F := for_up (fun i => ev sh d 229 4 [some (mR (124)), some (mI ((faC (i + 1) : Nat) : Int)), some (mI ((i + 2 : Nat) : Int))] [] (σ)) (n - 1) (fun i hi => by
    show ev sh d 229 4 [some (mR (124)), some (mI ((faC (i + 1) : Nat) : Int)), some (mI ((i + 2 : Nat) : Int))] [] (σ) = ev sh d 229 4 [some (mR (124)), some (mI ((faC ((i + 1) + 1) : Nat) : Int)), some (mI (((i + 1) + 2 : Nat) : Int))] [] (σ)
    have e : (faC (i + 1) : Int) * ((i + 2 : Nat) : Int) = ((faC (i + 1 + 1) : Nat) : Int) := (Int.natCast_mul (faC (i + 1)) (i + 2)).symm
    rw [e229_4]
    simp (disch := first | assumption | omega | (simp (disch := omega) only [wN, w0, w1]; omega)) only [e229_0, e229_1, e229_2, e229_3, e229_5, e229_6, e229_9, e229_12, e229_13, e229_14, e229_15, e229_16, e229_19, e229_22, e229_23, kl_I, kl_R, kl_N, kl_L, oSm, oNn, Option.bind_some, wN, if_pos, if_neg, nS, tN, t0, w0, w1, w2, w3, w4, w5, wm1, upA_ne, upA_same, if_true, if_false, Bool.false_eq_true, hN, e]) 0 (Nat.zero_le _)
  simp (disch := first | assumption | omega | (simp (disch := omega) only [wN, w0, w1]; omega)) only [e229_0, e229_1, e229_2, e229_3, e229_5, e229_6, e229_9, e229_12, e229_13, e229_14, e229_15, e229_16, e229_19, e229_22, e229_23, kl_I, kl_R, kl_N, kl_L, oSm, oNn, Option.bind_some, wN, if_pos, if_neg, nS, tN, t0, w0, w1, w2, w3, w4, w5, wm1, upA_ne, upA_same, if_true, if_false, Bool.false_eq_true, q229]
  refine F.trans ?_
  have e2 : n - 1 + 1 = n := by omega
  show ev sh d 229 4 [some (mR (124)), some (mI ((faC (n - 1 + 1) : Nat) : Int)), some (mI ((n - 1 + 2 : Nat) : Int))] [] σ = _
  rw [e229_4, e2]
  simp (disch := first | assumption | omega | (simp (disch := omega) only [wN, w0, w1]; omega)) only [e229_0, e229_1, e229_2, e229_3, e229_5, e229_6, e229_9, e229_12, e229_13, e229_14, e229_15, e229_16, e229_19, e229_22, e229_23, kl_I, kl_R, kl_N, kl_L, oSm, oNn, Option.bind_some, wN, if_pos, if_neg, nS, tN, t0, w0, w1, w2, w3, w4, w5, wm1, upA_ne, upA_same, if_true, if_false, Bool.false_eq_true, hN]
/-- where the nth one left stands -/
theorem M228w (hM : MS sh) {l : Nat} {r w : Int} {left : Nat} (hl : left < 32) : ∀ (f nth p q : Nat), p + f ≤ 5 → nth < 1000 → pkO left f nth p = some q → ev sh (d + 1) 228 55 [some (mR (124)), some (mI (z)), some (mI ((left : Nat) : Int)), some (mI (r)), some (mI (w)), some (mI ((l : Nat) : Int)), some (mI ((nth : Nat) : Int)), some (mI ((p : Nat) : Int))] [] σ = ev sh (d + 1) 228 93 [some (mR (124)), some (mI (z)), some (mI ((left : Nat) : Int)), some (mI (r)), some (mI (w)), some (mI ((l : Nat) : Int)), some (mI (0)), some (mI ((q : Nat) : Int))] [] σ := by
  intro f
  induction f with
  | zero => intro nth p q _ _ h; cases h
  | succ f ih =>
    intro nth p q h5 hn h
    have hb := E167 (sh := sh) (d := d) (σ := σ) (b := left) (k := p) (by omega) (by omega)
    rw [pkO] at h
    rw [e228_55]
    by_cases e : left.testBit p = true
    · rw [e] at hb
      replace hb : run sh d 167 [mI (left : Int), mI (p : Int)] σ = some (some (mI 1), σ) := hb
      rw [if_pos e] at h
      by_cases e2 : nth = 0
      · rw [if_pos e2] at h
        injection h with h
        subst e2 h
        simp (disch := first | assumption | omega | (simp (disch := omega) only [wN, w0, w1]; omega)) only [e228_0, e228_1, e228_2, e228_5, e228_6, e228_7, e228_8, e228_9, e228_10, e228_11, e228_12, e228_15, e228_17, e228_18, e228_20, e228_22, e228_23, e228_26, e228_29, e228_31, e228_32, e228_35, e228_37, e228_38, e228_39, e228_41, e228_42, e228_44, e228_45, e228_47, e228_48, e228_50, e228_51, e228_52, e228_53, e228_56, e228_58, e228_61, e228_64, e228_66, e228_69, e228_70, e228_72, e228_75, e228_78, e228_80, e228_81, e228_82, e228_84, e228_86, e228_87, e228_88, e228_90, e228_94, e228_97, e228_99, e228_101, e228_102, e228_103, e228_104, e228_106, e228_107, e228_108, e228_109, e228_110, e228_111, e228_114, e228_117, kl_I, kl_R, kl_N, kl_L, oSm, oNn, Option.bind_some, wN, if_pos, if_neg, nS, tN, t0, w0, w1, w2, w3, w4, w5, wm1, upA_ne, upA_same, if_true, if_false, Bool.false_eq_true, hb]
        rfl
      · rw [if_neg e2] at h
        have e3 : (nth : Int) - 1 = ((nth - 1 : Nat) : Int) := by omega
        simp (disch := first | assumption | omega | (simp (disch := omega) only [wN, w0, w1]; omega)) only [e228_0, e228_1, e228_2, e228_5, e228_6, e228_7, e228_8, e228_9, e228_10, e228_11, e228_12, e228_15, e228_17, e228_18, e228_20, e228_22, e228_23, e228_26, e228_29, e228_31, e228_32, e228_35, e228_37, e228_38, e228_39, e228_41, e228_42, e228_44, e228_45, e228_47, e228_48, e228_50, e228_51, e228_52, e228_53, e228_56, e228_58, e228_61, e228_64, e228_66, e228_69, e228_70, e228_72, e228_75, e228_78, e228_80, e228_81, e228_82, e228_84, e228_86, e228_87, e228_88, e228_90, e228_94, e228_97, e228_99, e228_101, e228_102, e228_103, e228_104, e228_106, e228_107, e228_108, e228_109, e228_110, e228_111, e228_114, e228_117, kl_I, kl_R, kl_N, kl_L, oSm, oNn, Option.bind_some, wN, if_pos, if_neg, nS, tN, t0, w0, w1, w2, w3, w4, w5, wm1, upA_ne, upA_same, if_true, if_false, Bool.false_eq_true, hb, e3]
        exact ih _ _ _ (by omega) (by omega) h
    · have e' : left.testBit p = false := by simpa using e
      rw [e'] at hb
      replace hb : run sh d 167 [mI (left : Int), mI (p : Int)] σ = some (some (mI 0), σ) := hb
      rw [if_neg e] at h
      simp (disch := first | assumption | omega | (simp (disch := omega) only [wN, w0, w1]; omega)) only [e228_0, e228_1, e228_2, e228_5, e228_6, e228_7, e228_8, e228_9, e228_10, e228_11, e228_12, e228_15, e228_17, e228_18, e228_20, e228_22, e228_23, e228_26, e228_29, e228_31, e228_32, e228_35, e228_37, e228_38, e228_39, e228_41, e228_42, e228_44, e228_45, e228_47, e228_48, e228_50, e228_51, e228_52, e228_53, e228_56, e228_58, e228_61, e228_64, e228_66, e228_69, e228_70, e228_72, e228_75, e228_78, e228_80, e228_81, e228_82, e228_84, e228_86, e228_87, e228_88, e228_90, e228_94, e228_97, e228_99, e228_101, e228_102, e228_103, e228_104, e228_106, e228_107, e228_108, e228_109, e228_110, e228_111, e228_114, e228_117, kl_I, kl_R, kl_N, kl_L, oSm, oNn, Option.bind_some, wN, if_pos, if_neg, nS, tN, t0, w0, w1, w2, w3, w4, w5, wm1, upA_ne, upA_same, if_true, if_false, Bool.false_eq_true, hb]
      exact ih _ _ _ (by omega) (by omega) h
def ordP (n o : Nat) : Nat → Nat := pOf n ((rwL n n).getD o 0)
theorem M228 (hM : MS sh) (hN : σ.1 124 8 = (n : Int)) (h1 : 1 ≤ n) (hn : n ≤ 4) (ho : o < faC n) : End (run sh (d + 1) 228 [mR 124, mI (o : Int)] σ) (fun r σ' => r = none ∧ (∀ x, x < n → σ'.1 144 x = (ordP n o x : Int)) ∧ frW 144 144 1 0 σ σ') := by
  have mo := hM.1
  have m160 := hM.2.1
  obtain ⟨ra38, rk38, rl38⟩ := ms38 hM
  have fb := faC_le n (by omega)
  have p16 : 2 ^ n ≤ 2 ^ 4 := Nat.pow_le_pow_right (by omega) hn
  have pp := Nat.two_pow_pos n
  have L := for_P (n) (fun i => ∀ (σ1 : Mem) (v6 v7 : Option MV), ((∀ x, x < i → σ1.1 144 x = (ordP n o x : Int)) ∧ frW 144 144 1 0 σ σ1) → End (ev sh (d + 1) 228 20 [some (mR (124)), some (mI ((o : Nat) : Int)), some (mI (((stO n o i).1 : Nat) : Int)), some (mI (((stO n o i).2.1 : Nat) : Int)), some (mI (((stO n o i).2.2 : Nat) : Int)), some (mI ((i : Nat) : Int)), v6, v7] [] σ1) (fun r σ' => r = none ∧ (∀ x, x < n → σ'.1 144 x = (ordP n o x : Int)) ∧ frW 144 144 1 0 σ σ')) (by
    intro σ1 v6 v7 hp
    replace hp : (∀ x, x < (n) → σ1.1 144 x = (ordP n o x : Int)) ∧ frW 144 144 1 0 σ σ1 := hp
    show End (ev sh (d + 1) 228 20 [some (mR (124)), some (mI ((o : Nat) : Int)), some (mI (((stO n o (n)).1 : Nat) : Int)), some (mI (((stO n o (n)).2.1 : Nat) : Int)), some (mI (((stO n o (n)).2.2 : Nat) : Int)), some (mI (((n) : Nat) : Int)), v6, v7] [] σ1) (fun r σ' => r = none ∧ (∀ x, x < n → σ'.1 144 x = (ordP n o x : Int)) ∧ frW 144 144 1 0 σ σ')
    have hN1 : σ1.1 124 8 = (n : Int) := by rw [hp.2.2 8 (by omega)]; exact hN
    rw [e228_20]
    simp (disch := first | assumption | omega | (simp (disch := omega) only [wN, w0, w1]; omega)) only [e228_0, e228_1, e228_2, e228_5, e228_6, e228_7, e228_8, e228_9, e228_10, e228_11, e228_12, e228_15, e228_17, e228_18, e228_22, e228_23, e228_26, e228_29, e228_31, e228_32, e228_35, e228_37, e228_38, e228_39, e228_41, e228_42, e228_44, e228_45, e228_47, e228_48, e228_50, e228_51, e228_52, e228_53, e228_56, e228_58, e228_61, e228_64, e228_66, e228_69, e228_70, e228_72, e228_75, e228_78, e228_80, e228_81, e228_82, e228_84, e228_86, e228_87, e228_88, e228_90, e228_94, e228_97, e228_99, e228_101, e228_102, e228_103, e228_104, e228_106, e228_107, e228_108, e228_109, e228_110, e228_111, e228_114, e228_117, kl_I, kl_R, kl_N, kl_L, oSm, oNn, Option.bind_some, wN, if_pos, if_neg, nS, tN, t0, w0, w1, w2, w3, w4, w5, wm1, upA_ne, upA_same, if_true, if_false, Bool.false_eq_true, hN1]
    exact End.of rfl ⟨rfl, hp⟩) (fun i hi ih => by
    replace ih : ∀ (σ1 : Mem) (v6 v7 : Option MV), ((∀ x, x < (i + 1) → σ1.1 144 x = (ordP n o x : Int)) ∧ frW 144 144 1 0 σ σ1) → End (ev sh (d + 1) 228 20 [some (mR (124)), some (mI ((o : Nat) : Int)), some (mI (((stO n o (i + 1)).1 : Nat) : Int)), some (mI (((stO n o (i + 1)).2.1 : Nat) : Int)), some (mI (((stO n o (i + 1)).2.2 : Nat) : Int)), some (mI (((i + 1) : Nat) : Int)), v6, v7] [] σ1) (fun r σ' => r = none ∧ (∀ x, x < n → σ'.1 144 x = (ordP n o x : Int)) ∧ frW 144 144 1 0 σ σ') := ih
    intro σ1 v6 v7 hp
    replace hp : (∀ x, x < i → σ1.1 144 x = (ordP n o x : Int)) ∧ frW 144 144 1 0 σ σ1 := hp
    show End (ev sh (d + 1) 228 20 [some (mR (124)), some (mI ((o : Nat) : Int)), some (mI (((stO n o i).1 : Nat) : Int)), some (mI (((stO n o i).2.1 : Nat) : Int)), some (mI (((stO n o i).2.2 : Nat) : Int)), some (mI ((i : Nat) : Int)), v6, v7] [] σ1) (fun r σ' => r = none ∧ (∀ x, x < n → σ'.1 144 x = (ordP n o x : Int)) ∧ frW 144 144 1 0 σ σ')
    have hN1 : σ1.1 124 8 = (n : Int) := by rw [hp.2.2 8 (by omega)]; exact hN
    have k := stK_at hn ho hi
    simp only [stK, Bool.and_eq_true, decide_eq_true_eq] at k
    obtain ⟨⟨⟨k1, k2, k3, k4⟩, k5⟩, k6⟩ := k
    have es : stO n o (i + 1) = ((stO n o i).1 &&& ((stO n o i).1 ^^^ 2 ^ ordP n o i), (stO n o i).2.1 % ((stO n o i).2.2 / (n - i)), (stO n o i).2.2 / (n - i)) := by
      rw [stO, k5]; rfl
    rw [es] at ih
    simp only at ih
    have dl : (stO n o i).2.2 / (n - i) < 1000 := Nat.lt_of_le_of_lt (Nat.div_le_self _ _) k3
    have dr : (stO n o i).2.1 / ((stO n o i).2.2 / (n - i)) < 1000 := Nat.lt_of_le_of_lt (Nat.div_le_self _ _) k2
    have x1 := xdiv_nn (a := (stO n o i).2.2) (b := n - i) (by omega) (by omega)
    have x2 := xdiv_nn (a := (stO n o i).2.1) (b := (stO n o i).2.2 / (n - i)) (by omega) (by omega)
    have x3 := xrem_nn (a := (stO n o i).2.1) (b := (stO n o i).2.2 / (n - i)) (by omega) (by omega)
    have q1 : (n : Int) - (i : Int) = ((n - i : Nat) : Int) := by omega
    have z1 : wi ((n - i : Nat) : Int) ≠ 0 := by rw [wN (by omega)]; omega
    have z2 : wi (((stO n o i).2.2 / (n - i) : Nat) : Int) ≠ 0 := by rw [wN (by omega)]; omega
    have W := M228w (d := d) (z := (o : Int)) (σ := σ1) (l := i) (r := (((stO n o i).2.1 % ((stO n o i).2.2 / (n - i)) : Nat) : Int)) (w := (((stO n o i).2.2 / (n - i) : Nat) : Int)) hM k1 5 _ 0 _ (by omega) dr k5
    have o5 : ordP n o i < n := k6
    replace W : _ = ev sh (d + 1) 228 93 [some (mR (124)), some (mI ((o : Nat) : Int)), some (mI (((stO n o i).1 : Nat) : Int)), some (mI (((stO n o i).2.1 % ((stO n o i).2.2 / (n - i)) : Nat) : Int)), some (mI (((stO n o i).2.2 / (n - i) : Nat) : Int)), some (mI ((i : Nat) : Int)), some (mI (0)), some (mI ((ordP n o i : Nat) : Int))] [] σ1 := W
    generalize hL : stO n o i = S at *
    obtain ⟨lf, rs, wy⟩ := S
    simp only at *
    generalize wy / (n - i) = W' at *
    generalize rs / W' = N' at *
    generalize rs % W' = R' at *
    generalize hO : ordP n o i = p at *
    have c1 := clr_nn (T := lf) (t := p) (by omega) (by omega)
    have xs := xshl_1 (k := p) (by omega)
    rw [e228_20]
    simp (disch := first | assumption | omega | (simp (disch := omega) only [wN, w0, w1]; omega)) only [e228_0, e228_1, e228_2, e228_5, e228_6, e228_7, e228_8, e228_9, e228_10, e228_11, e228_12, e228_15, e228_17, e228_18, e228_22, e228_23, e228_26, e228_29, e228_31, e228_32, e228_35, e228_37, e228_38, e228_39, e228_41, e228_42, e228_44, e228_45, e228_47, e228_48, e228_50, e228_51, e228_52, e228_53, e228_56, e228_58, e228_61, e228_64, e228_66, e228_69, e228_70, e228_72, e228_75, e228_78, e228_80, e228_81, e228_82, e228_84, e228_86, e228_87, e228_88, e228_90, e228_94, e228_97, e228_99, e228_101, e228_102, e228_103, e228_104, e228_106, e228_107, e228_108, e228_109, e228_110, e228_111, e228_114, e228_117, kl_I, kl_R, kl_N, kl_L, oSm, oNn, Option.bind_some, wN, if_pos, if_neg, nS, tN, t0, w0, w1, w2, w3, w4, w5, wm1, upA_ne, upA_same, if_true, if_false, Bool.false_eq_true, hN1, q1, x1, x2, x3, z1, z2]
    refine End.cg W ?_
    rw [e228_93]
    simp (disch := first | assumption | omega | (simp (disch := omega) only [wN, w0, w1]; omega)) only [e228_0, e228_1, e228_2, e228_5, e228_6, e228_7, e228_8, e228_9, e228_10, e228_11, e228_12, e228_15, e228_17, e228_18, e228_22, e228_23, e228_26, e228_29, e228_31, e228_32, e228_35, e228_37, e228_38, e228_39, e228_41, e228_42, e228_44, e228_45, e228_47, e228_48, e228_50, e228_51, e228_52, e228_53, e228_56, e228_58, e228_61, e228_64, e228_66, e228_69, e228_70, e228_72, e228_75, e228_78, e228_80, e228_81, e228_82, e228_84, e228_86, e228_87, e228_88, e228_90, e228_94, e228_97, e228_99, e228_101, e228_102, e228_103, e228_104, e228_106, e228_107, e228_108, e228_109, e228_110, e228_111, e228_114, e228_117, kl_I, kl_R, kl_N, kl_L, oSm, oNn, Option.bind_some, wN, if_pos, if_neg, nS, tN, t0, w0, w1, w2, w3, w4, w5, wm1, upA_ne, upA_same, if_true, if_false, Bool.false_eq_true, ra38, rl38, xs, c1]
    refine ih _ _ _ ⟨fun x hx => ?_, hp.2.tr (frW.a (by omega) (by omega))⟩
    simp (disch := omega) only [upA_same]
    by_cases e : x = i
    · subst e
      rw [up1_same, hO]
    · rw [up1_ne e]
      exact hp.1 x (by omega)) 0 (Nat.zero_le _)
  have x1 := xshl_1 (k := n) (by omega)
  have e1 : ((2 ^ n : Nat) : Int) - 1 = ((2 ^ n - 1 : Nat) : Int) := by omega
  have e2 := M229 (d := d) (σ := σ) hM hN h1 hn
  have L0 := L σ none none ⟨fun x hx => by omega, frW.rf⟩
  simp (disch := first | assumption | omega | (simp (disch := omega) only [wN, w0, w1]; omega)) only [e228_0, e228_1, e228_2, e228_5, e228_6, e228_7, e228_8, e228_9, e228_10, e228_11, e228_12, e228_15, e228_17, e228_18, e228_22, e228_23, e228_26, e228_29, e228_31, e228_32, e228_35, e228_37, e228_38, e228_39, e228_41, e228_42, e228_44, e228_45, e228_47, e228_48, e228_50, e228_51, e228_52, e228_53, e228_56, e228_58, e228_61, e228_64, e228_66, e228_69, e228_70, e228_72, e228_75, e228_78, e228_80, e228_81, e228_82, e228_84, e228_86, e228_87, e228_88, e228_90, e228_94, e228_97, e228_99, e228_101, e228_102, e228_103, e228_104, e228_106, e228_107, e228_108, e228_109, e228_110, e228_111, e228_114, e228_117, kl_I, kl_R, kl_N, kl_L, oSm, oNn, Option.bind_some, wN, if_pos, if_neg, nS, tN, t0, w0, w1, w2, w3, w4, w5, wm1, upA_ne, upA_same, if_true, if_false, Bool.false_eq_true, q228, hN, x1, e1, e2]
  exact L0
theorem M230 (hM : MS sh) (hN : σ.1 124 8 = (n : Int)) (h1 : 1 ≤ n) (hn : n ≤ 4) (ho : o < faC n) (hs : s < 2 ^ n) : End (run sh (d + 2) 230 [mR 124, mI (s : Int), mI (o : Int)] σ) (fun r σ' => r = some (mI (exT (ordP n o) s n : Int)) ∧ frW 144 144 1 0 σ σ') := by
  have mo := hM.1
  have m160 := hM.2.1
  obtain ⟨ra38, rk38, rl38⟩ := ms38 hM
  obtain ⟨r, σ1, a1, rfl, a2, a3⟩ := M228 (d := d) hM hN h1 hn ho
  have hN1 : σ1.1 124 8 = (n : Int) := by rw [a3.2 8 (by omega)]; exact hN
  have p16 : 2 ^ n ≤ 2 ^ 4 := Nat.pow_le_pow_right (by omega) hn
  have oP : ∀ x, x < n → ordP n o x < n := fun x hx => by
    have k := stK_at hn ho hx
    simp only [stK, Bool.and_eq_true, decide_eq_true_eq] at k
    exact k.2
  have bd := exT_lt (P := ordP n o) hs oP
  have F := for_up (fun i => ev sh (d + 2) 230 10 [some (mR (124)), some (mI ((s : Nat) : Int)), some (mI ((o : Nat) : Int)), some (mI ((exT (ordP n o) s i : Nat) : Int)), some (mI ((i : Nat) : Int))] [] (σ1)) (n) (fun i hi => by
    show ev sh (d + 2) 230 10 [some (mR (124)), some (mI ((s : Nat) : Int)), some (mI ((o : Nat) : Int)), some (mI ((exT (ordP n o) s i : Nat) : Int)), some (mI ((i : Nat) : Int))] [] (σ1) = ev sh (d + 2) 230 10 [some (mR (124)), some (mI ((s : Nat) : Int)), some (mI ((o : Nat) : Int)), some (mI ((exT (ordP n o) s (i + 1) : Nat) : Int)), some (mI (((i + 1) : Nat) : Int))] [] (σ1)
    have hb := E167 (sh := sh) (d := d + 1) (σ := σ1) (b := s) (k := i) (by omega) (by omega)
    have g1 := a2 i hi
    have o5 := oP i hi
    have b1 := bd i
    have xs := xshl_1 (k := ordP n o i) (by omega)
    have p2 : 2 ^ ordP n o i ≤ 2 ^ 4 := Nat.pow_le_pow_right (by omega) (by omega)
    have x2 := xor_nn (a := exT (ordP n o) s i) (b := 2 ^ ordP n o i) (by omega) (by omega)
    rw [e230_10, exT]
    by_cases e : s.testBit i = true
    · rw [e] at hb
      replace hb : run sh (d + 1) 167 [mI (s : Int), mI (i : Int)] σ1 = some (some (mI 1), σ1) := hb
      rw [if_pos e]
      simp (disch := first | assumption | omega | (simp (disch := omega) only [wN, w0, w1]; omega)) only [e230_0, e230_1, e230_2, e230_5, e230_6, e230_7, e230_8, e230_12, e230_13, e230_16, e230_19, e230_20, e230_22, e230_25, e230_28, e230_29, e230_30, e230_31, e230_34, e230_36, e230_37, e230_38, e230_39, e230_40, e230_43, e230_46, e230_47, kl_I, kl_R, kl_N, kl_L, oSm, oNn, Option.bind_some, wN, if_pos, if_neg, nS, tN, t0, w0, w1, w2, w3, w4, w5, wm1, upA_ne, upA_same, if_true, if_false, Bool.false_eq_true, hN1, hb, ra38, rl38, g1, xs, x2]
    · have e' : s.testBit i = false := by simpa using e
      rw [e'] at hb
      replace hb : run sh (d + 1) 167 [mI (s : Int), mI (i : Int)] σ1 = some (some (mI 0), σ1) := hb
      rw [if_neg e]
      simp (disch := first | assumption | omega | (simp (disch := omega) only [wN, w0, w1]; omega)) only [e230_0, e230_1, e230_2, e230_5, e230_6, e230_7, e230_8, e230_12, e230_13, e230_16, e230_19, e230_20, e230_22, e230_25, e230_28, e230_29, e230_30, e230_31, e230_34, e230_36, e230_37, e230_38, e230_39, e230_40, e230_43, e230_46, e230_47, kl_I, kl_R, kl_N, kl_L, oSm, oNn, Option.bind_some, wN, if_pos, if_neg, nS, tN, t0, w0, w1, w2, w3, w4, w5, wm1, upA_ne, upA_same, if_true, if_false, Bool.false_eq_true, hN1, hb]) 0 (Nat.zero_le _)
  simp (disch := first | assumption | omega | (simp (disch := omega) only [wN, w0, w1]; omega)) only [e230_0, e230_1, e230_2, e230_5, e230_6, e230_7, e230_8, e230_12, e230_13, e230_16, e230_19, e230_20, e230_22, e230_25, e230_28, e230_29, e230_30, e230_31, e230_34, e230_36, e230_37, e230_38, e230_39, e230_40, e230_43, e230_46, e230_47, kl_I, kl_R, kl_N, kl_L, oSm, oNn, Option.bind_some, wN, if_pos, if_neg, nS, tN, t0, w0, w1, w2, w3, w4, w5, wm1, upA_ne, upA_same, if_true, if_false, Bool.false_eq_true, q230, a1]
  refine End.cg F ?_
  show End (ev sh (d + 2) 230 10 [some (mR (124)), some (mI ((s : Nat) : Int)), some (mI ((o : Nat) : Int)), some (mI ((exT (ordP n o) s n : Nat) : Int)), some (mI ((n : Nat) : Int))] [] σ1) _
  rw [e230_10]
  simp (disch := first | assumption | omega | (simp (disch := omega) only [wN, w0, w1]; omega)) only [e230_0, e230_1, e230_2, e230_5, e230_6, e230_7, e230_8, e230_12, e230_13, e230_16, e230_19, e230_20, e230_22, e230_25, e230_28, e230_29, e230_30, e230_31, e230_34, e230_36, e230_37, e230_38, e230_39, e230_40, e230_43, e230_46, e230_47, kl_I, kl_R, kl_N, kl_L, oSm, oNn, Option.bind_some, wN, if_pos, if_neg, nS, tN, t0, w0, w1, w2, w3, w4, w5, wm1, upA_ne, upA_same, if_true, if_false, Bool.false_eq_true, hN1]
  exact End.of rfl ⟨rfl, a3⟩
end NG

