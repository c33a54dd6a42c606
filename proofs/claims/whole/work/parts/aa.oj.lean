/-! ===== the reference: fewestOf ===== -/
/-- the first of the layouts below k by which all can be done with l swaps -/
def qL (n : Nat) (c : List Gt) (E : List Ed) (lo : Bool) (l N : Nat) : Bool := caB (farE E) c E (ahS lo c) l (pOf n N) 0
theorem fAl_no {n m : Nat} {c : List Gt} {E : List Ed} {lo : Bool} {l : Nat} (h1 : 1 ≤ n) (hn : n ≤ 4) (hm : m ≤ 5) (h : ∀ N, N < 10 ^ n → rwV n m N = true → qL n c E lo l N = false) : fAl n m c E lo l = none := by
  unfold fAl
  refine fst1_no fun y _ hy => ?_
  have hy2 : y < (rwL n m).length := by omega
  have e : (rwL n m).getD y 0 = (rwL n m)[y] := by simp [List.getD, hy2]
  have hm' := List.getElem_mem hy2
  rw [← e, ← vT_rw h1 hn hm] at hm'
  have hlt := vT_lt m _ _ hm'
  have hv : ∀ k x, x ∈ vT n m k → rwV n m x = true := by
    intro k
    induction k with
    | zero => intro x hx; cases hx
    | succ k ih =>
      intro x hx
      rw [vT] at hx
      split at hx
      · rename_i g
        rw [List.mem_append, List.mem_singleton] at hx
        rcases hx with q | q
        · exact ih x q
        · rw [q]; exact g
      · exact ih x hx
  rw [vT_rw h1 hn hm] at hlt hm'
  exact h _ hlt (hv _ _ (by rw [vT_rw h1 hn hm]; exact hm'))
theorem fAl_at {n m : Nat} {c : List Gt} {E : List Ed} {lo : Bool} {l k : Nat} (h1 : 1 ≤ n) (hn : n ≤ 4) (hm : m ≤ 5) (hk : k < 10 ^ n) (h : ∀ N, N < k → rwV n m N = true → qL n c E lo l N = false) (hv : rwV n m k = true) (hq : qL n c E lo l k = true) : ∃ i, fAl n m c E lo l = some i ∧ (rwL n m).getD i 0 = k := by
  obtain ⟨R, hR⟩ := vT_pre (n := n) (m := m) (k := k + 1) (10 ^ n - (k + 1))
  rw [show k + 1 + (10 ^ n - (k + 1)) = 10 ^ n by omega, vT_rw h1 hn hm, vT, if_pos hv, List.append_assoc] at hR
  have hvv : ∀ k x, x ∈ vT n m k → rwV n m x = true := by
    intro k
    induction k with
    | zero => intro x hx; cases hx
    | succ k ih =>
      intro x hx
      rw [vT] at hx
      split at hx
      · rename_i g
        rw [List.mem_append, List.mem_singleton] at hx
        rcases hx with q | q
        · exact ih x q
        · rw [q]; exact g
      · exact ih x hx
  have e0 : (rwL n m).getD (vT n m k).length 0 = k := by
    rw [hR]
    simp [List.getD]
  refine ⟨(vT n m k).length, ?_, e0⟩
  unfold fAl
  refine fst1_at (by omega) ?_ (fun y _ hy => ?_) ?_
  · rw [hR]
    simp only [List.length_append, List.length_cons, List.length_nil]
    omega
  · have e : (rwL n m).getD y 0 = (vT n m k)[y] := by
      rw [hR]
      simp [List.getD, List.getElem?_append_left hy, hy]
    have hm' := List.getElem_mem hy
    show qL n c E lo l ((rwL n m).getD y 0) = false
    rw [e]
    exact h _ (vT_lt m _ _ hm') (hvv _ _ hm')
  · show qL n c E lo l ((rwL n m).getD (vT n m k).length 0) = true
    rw [e0]; exact hq
theorem fAn_sk {n m : Nat} {c : List Gt} {E : List Ed} {lo : Bool} : ∀ (i f l : Nat), (∀ y, l ≤ y → y < l + i → fAl n m c E lo y = none) → fAn n m c E lo (f + i) l = fAn n m c E lo f (l + i)
  | 0, _, _, _ => rfl
  | i + 1, f, l, h => by
    rw [← Nat.add_assoc, fAn, h l (by omega) (by omega)]
    simp only
    rw [fAn_sk i f (l + 1) (fun y h1 h2 => h y (by omega) (by omega)), show l + 1 + i = l + (i + 1) by omega]
/-- what the search in all layouts changes -/
def frT (σ σ' : Mem) : Prop := frW 146 156 46 50 σ σ' ∧ σ'.1 151 = σ.1 151
theorem frT.rf {σ : Mem} : frT σ σ := ⟨frW.rf, rfl⟩
theorem frT.tr {σ σ1 σ2 : Mem} (h : frT σ σ1) (h2 : frT σ1 σ2) : frT σ σ2 := ⟨h.1.tr h2.1, h2.2.trans h.2⟩
theorem frN.T {σ σ' : Mem} (h : frN σ σ') : frT σ σ' := ⟨h.1.w (by omega) (by omega) (by omega) (by omega), h.2⟩
theorem frW.T {σ σ' : Mem} (h : frW 146 146 1 0 σ σ') : frT σ σ' := ⟨h.w (by omega) (by omega) (by omega) (by omega), (h.1 151 (by omega) (by omega)).1⟩
theorem RC.T {σ σ' : Mem} {n m : Nat} {c : List Gt} {E : List Ed} {A : Nat → Nat} (h : RC σ n m c E A) (hf : frT σ σ') : RC σ' n m c E A := by
  obtain ⟨h1, h2, h3, h4, h5, h6⟩ := h
  refine ⟨h1.Wf hf.1 (by omega), h2.W hf.1 (by omega), fun y hy => by rw [hf.2]; exact h3 y hy, h4.W hf.1 (by omega) (by omega), by rw [hf.1.2 10 (by omega)]; exact h5, by rw [hf.1.2 8 (by omega)]; exact h6⟩
section OJ
variable {sh : Shp} {d m n : Nat} {σ : Mem} {E : List Ed} {a : AX} {z w : Int} {c : List Gt} {P A : Nat → Nat} {lo te : Bool}
theorem M271 (hM : MS sh) (h : InvM sh σ a) (hmn : ¬ a.1.2.2.1 < a.1.1) : End (run sh (d + 7) 271 [mR 124, mI (bi lo), mI (bi te)] σ) (fun r σ' => r = some (mI (fwA a lo te)) ∧ InvM sh σ' a) := by
  have hI := h
  have mo := hM.1
  have m160 := hM.2.1
  obtain ⟨ra40, rk40, rl40⟩ := ms40 hM
  obtain ⟨⟨n, c, m, E, P, x⟩, K, B, s, T⟩ := a
  obtain ⟨⟨hG, hN, hMp, hEl, hx0, hE, hP, hoS⟩, hik, hKp, hTp, h140, hTm⟩ := id h
  replace hG : HGm σ 0 c := hG
  replace hN : σ.1 124 8 = (n : Int) := hN
  replace hMp : σ.1 124 9 = (m : Int) := hMp
  replace hEl : σ.1 124 10 = (E.length : Int) := hEl
  replace hx0 : σ.1 124 11 = (x : Int) := hx0
  replace hE : HEm σ 127 128 E := hE
  replace hP : ∀ y, y < n → σ.1 129 y = (P y : Int) := hP
  replace hoS : okZ n c m E P x := hoS
  replace hTp : HPm σ B s := hTp
  replace h140 : s ≤ 140 := h140
  replace hTm : HT sh σ 157 T := hTm
  replace hik : σ.1 124 16 = bi K.isSome := hik
  obtain ⟨n1, n4', c30, hv, m2, m5, E10, hvE, hPk, x16⟩ := id hoS
  obtain ⟨r, σ1, a1, rfl, a2, a3⟩ := M244 (d := d + 2) (lo := lo) hM hG c30 hv hN n4' hMp hEl hE hvE m5 E10
  have hI1 := hI.W a3 (by omega) (by omega) (by omega)
  have hN1 : σ1.1 124 8 = (n : Int) := a2.2.2.2.2.2
  have hMp1 : σ1.1 124 9 = (m : Int) := by rw [a3.2 9 (by omega)]; exact hMp
  have pw : ∀ i, i ≤ 4 → 10 ^ i ≤ 10000 := fun i hi => by
    have : 10 ^ i ≤ 10 ^ 4 := Nat.pow_le_pow_right (by omega) hi
    omega
  have w6' : wi 6 = 6 := rfl
  have w7' : wi 7 = 7 := rfl
  have Mo := for_up (fun i => ev sh (d + 7) 271 10 [some (mR (124)), some (mI (bi lo)), some (mI (bi te)), some (mI ((10 ^ i : Nat) : Int)), some (mI ((i : Nat) : Int)), none] [] (σ1)) (n) (fun i hi => by
    show ev sh (d + 7) 271 10 [some (mR (124)), some (mI (bi lo)), some (mI (bi te)), some (mI ((10 ^ i : Nat) : Int)), some (mI ((i : Nat) : Int)), none] [] (σ1) = ev sh (d + 7) 271 10 [some (mR (124)), some (mI (bi lo)), some (mI (bi te)), some (mI ((10 ^ (i + 1) : Nat) : Int)), some (mI (((i + 1) : Nat) : Int)), none] [] (σ1)
    have p := pw i (by omega)
    have e : ((10 ^ i : Nat) : Int) * 10 = ((10 ^ (i + 1) : Nat) : Int) := by rw [Nat.pow_succ, Int.natCast_mul]; rfl
    rw [e271_10]
    simp (disch := first | assumption | omega | (simp (disch := omega) only [wN, w0, w1]; omega)) only [e271_0, e271_1, e271_2, e271_5, e271_6, e271_7, e271_8, e271_12, e271_13, e271_16, e271_19, e271_20, e271_22, e271_23, e271_24, e271_27, e271_30, e271_31, e271_35, e271_37, e271_40, e271_41, e271_45, e271_46, e271_49, e271_50, e271_52, e271_55, e271_58, e271_59, e271_60, e271_63, e271_65, e271_68, e271_71, e271_72, e271_75, e271_77, e271_80, e271_82, e271_83, e271_86, e271_89, e271_92, e271_95, e271_97, kl_I, kl_R, kl_N, kl_L, oSm, oNn, Option.bind_some, wN, if_pos, if_neg, nS, tN, t0, w0, w1, w2, w3, w4, w5, wm1, upA_ne, upA_same, if_true, if_false, Bool.false_eq_true, hN1, e]) 0 (Nat.zero_le _)
  have pn := pw n (by omega)
  have hla : laI sh 146 := ⟨rk40, rl40⟩
  have wte : wi (bi te) = bi te := by cases te <;> rfl
  show End _ (fun r σ' => r = some (mI (opA (rwL n m) te (fAn n m c E lo 7 0))) ∧ InvM sh σ' ((n, c, m, E, P, x), K, B, s, T))
  have fin : ∀ σ2, frT σ1 σ2 → InvM sh σ2 ((n, c, m, E, P, x), K, B, s, T) := fun σ2 hf => hI1.W hf.1 (by omega) (by omega) (by omega)
  have L := for_P (7) (fun i => ∀ (σ2 : Mem) (v5 : Option MV), ((∀ y, y < i → fAl n m c E lo y = none) ∧ frT σ1 σ2) → End (ev sh (d + 7) 271 33 [some (mR (124)), some (mI (bi lo)), some (mI (bi te)), some (mI ((10 ^ n : Nat) : Int)), some (mI ((i : Nat) : Int)), v5] [] σ2) (fun r σ' => r = some (mI (opA (rwL n m) te (fAn n m c E lo 7 0))) ∧ InvM sh σ' ((n, c, m, E, P, x), K, B, s, T))) (by
    intro σ2 v5 hp
    replace hp : (∀ y, y < (7) → fAl n m c E lo y = none) ∧ frT σ1 σ2 := hp
    show End (ev sh (d + 7) 271 33 [some (mR (124)), some (mI (bi lo)), some (mI (bi te)), some (mI ((10 ^ n : Nat) : Int)), some (mI (((7) : Nat) : Int)), v5] [] σ2) (fun r σ' => r = some (mI (opA (rwL n m) te (fAn n m c E lo 7 0))) ∧ InvM sh σ' ((n, c, m, E, P, x), K, B, s, T))
    have e : fAn n m c E lo 7 0 = none := by
      have := fAn_sk (n := n) (m := m) (c := c) (E := E) (lo := lo) 7 0 0 (fun y _ h => hp.1 y (by omega))
      rw [Nat.zero_add] at this
      rw [this]; rfl
    rw [e, e271_33]
    simp (disch := first | assumption | omega | (simp (disch := omega) only [wN, w0, w1]; omega)) only [e271_0, e271_1, e271_2, e271_5, e271_6, e271_7, e271_8, e271_12, e271_13, e271_16, e271_19, e271_20, e271_22, e271_23, e271_24, e271_27, e271_30, e271_31, e271_35, e271_37, e271_40, e271_41, e271_45, e271_46, e271_49, e271_50, e271_52, e271_55, e271_58, e271_59, e271_60, e271_63, e271_65, e271_68, e271_71, e271_72, e271_75, e271_77, e271_80, e271_82, e271_83, e271_86, e271_89, e271_92, e271_95, e271_97, kl_I, kl_R, kl_N, kl_L, oSm, oNn, Option.bind_some, wN, if_pos, if_neg, nS, tN, t0, w0, w1, w2, w3, w4, w5, wm1, upA_ne, upA_same, if_true, if_false, Bool.false_eq_true, w6', w7']
    exact End.of rfl ⟨rfl, fin _ hp.2⟩) (fun i hi ih => by
    replace ih : ∀ (σ2 : Mem) (v5 : Option MV), ((∀ y, y < (i + 1) → fAl n m c E lo y = none) ∧ frT σ1 σ2) → End (ev sh (d + 7) 271 33 [some (mR (124)), some (mI (bi lo)), some (mI (bi te)), some (mI ((10 ^ n : Nat) : Int)), some (mI (((i + 1) : Nat) : Int)), v5] [] σ2) (fun r σ' => r = some (mI (opA (rwL n m) te (fAn n m c E lo 7 0))) ∧ InvM sh σ' ((n, c, m, E, P, x), K, B, s, T)) := ih
    intro σ2 v5 hp
    replace hp : (∀ y, y < i → fAl n m c E lo y = none) ∧ frT σ1 σ2 := hp
    show End (ev sh (d + 7) 271 33 [some (mR (124)), some (mI (bi lo)), some (mI (bi te)), some (mI ((10 ^ n : Nat) : Int)), some (mI ((i : Nat) : Int)), v5] [] σ2) (fun r σ' => r = some (mI (opA (rwL n m) te (fAn n m c E lo 7 0))) ∧ InvM sh σ' ((n, c, m, E, P, x), K, B, s, T))
    have hi0 := hi
    have hno := hp.1
    have I := for_P (10 ^ n) (fun k => ∀ (σ3 : Mem), ((∀ N, N < k → rwV n m N = true → qL n c E lo i N = false) ∧ frT σ1 σ3) → End (ev sh (d + 7) 271 43 [some (mR (124)), some (mI (bi lo)), some (mI (bi te)), some (mI ((10 ^ n : Nat) : Int)), some (mI ((i : Nat) : Int)), some (mI ((k : Nat) : Int))] [] σ3) (fun r σ' => r = some (mI (opA (rwL n m) te (fAn n m c E lo 7 0))) ∧ InvM sh σ' ((n, c, m, E, P, x), K, B, s, T))) (by
      intro σ3  hp
      replace hp : (∀ N, N < (10 ^ n) → rwV n m N = true → qL n c E lo i N = false) ∧ frT σ1 σ3 := hp
      show End (ev sh (d + 7) 271 43 [some (mR (124)), some (mI (bi lo)), some (mI (bi te)), some (mI ((10 ^ n : Nat) : Int)), some (mI ((i : Nat) : Int)), some (mI (((10 ^ n) : Nat) : Int))] [] σ3) (fun r σ' => r = some (mI (opA (rwL n m) te (fAn n m c E lo 7 0))) ∧ InvM sh σ' ((n, c, m, E, P, x), K, B, s, T))
      rw [e271_43]
      simp (disch := first | assumption | omega | (simp (disch := omega) only [wN, w0, w1]; omega)) only [e271_0, e271_1, e271_2, e271_5, e271_6, e271_7, e271_8, e271_12, e271_13, e271_16, e271_19, e271_20, e271_22, e271_23, e271_24, e271_27, e271_30, e271_31, e271_35, e271_37, e271_40, e271_41, e271_45, e271_46, e271_49, e271_50, e271_52, e271_55, e271_58, e271_59, e271_60, e271_63, e271_65, e271_68, e271_71, e271_72, e271_75, e271_77, e271_80, e271_82, e271_83, e271_86, e271_89, e271_92, e271_95, e271_97, kl_I, kl_R, kl_N, kl_L, oSm, oNn, Option.bind_some, wN, if_pos, if_neg, nS, tN, t0, w0, w1, w2, w3, w4, w5, wm1, upA_ne, upA_same, if_true, if_false, Bool.false_eq_true]
      refine ih _ _ ⟨fun y hy => ?_, hp.2⟩
      by_cases q : y = i
      · rw [q]; exact fAl_no n1 n4' m5 hp.1
      · exact hno y (by omega)) (fun k hi ih => by
      replace ih : ∀ (σ3 : Mem), ((∀ N, N < (k + 1) → rwV n m N = true → qL n c E lo i N = false) ∧ frT σ1 σ3) → End (ev sh (d + 7) 271 43 [some (mR (124)), some (mI (bi lo)), some (mI (bi te)), some (mI ((10 ^ n : Nat) : Int)), some (mI ((i : Nat) : Int)), some (mI (((k + 1) : Nat) : Int))] [] σ3) (fun r σ' => r = some (mI (opA (rwL n m) te (fAn n m c E lo 7 0))) ∧ InvM sh σ' ((n, c, m, E, P, x), K, B, s, T)) := ih
      intro σ3  hp
      replace hp : (∀ N, N < k → rwV n m N = true → qL n c E lo i N = false) ∧ frT σ1 σ3 := hp
      show End (ev sh (d + 7) 271 43 [some (mR (124)), some (mI (bi lo)), some (mI (bi te)), some (mI ((10 ^ n : Nat) : Int)), some (mI ((i : Nat) : Int)), some (mI ((k : Nat) : Int))] [] σ3) (fun r σ' => r = some (mI (opA (rwL n m) te (fAn n m c E lo 7 0))) ∧ InvM sh σ' ((n, c, m, E, P, x), K, B, s, T))
      obtain ⟨p1, p2⟩ := hp
      have hR3 := a2.T p2
      have hMp3 : σ3.1 124 9 = (m : Int) := by rw [p2.1.2 9 (by omega)]; exact hMp1
      obtain ⟨r, σ4, b1, rfl, b2, b3⟩ := M242 (d := d + 5) (D := k) hM hR3.2.2.2.2.2 hMp3 n4' m5 (by omega)
      have p4 := p2.tr b3.T
      by_cases rv : rwV n m k = true
      · rw [rv] at b1
        replace b1 : run sh (d + 6) 242 [mR 124, mI (k : Int)] σ3 = some (some (mI 1), σ4) := b1
        obtain ⟨r, σ5, c1, rfl, c2⟩ := M268 (d := d) (M := i) (q := 146) hM c30 hv n4' m5 hvE E10 (by omega) (a2.T p4) hla (by omega) (b2 rv) (rwV_iff.mp rv) (by omega)
        have p5 := p4.tr c2.T
        by_cases qq : qL n c E lo i k = true
        · have cq : caB (farE E) c E (ahS lo c) i (pOf n k) 0 = true := qq
          rw [cq] at c1
          replace c1 : run sh (d + 6) 268 [mR 124, mR 146, mI (i : Int)] σ4 = some (some (mI 1), σ5) := c1
          obtain ⟨idx, f1, f2⟩ := fAl_at (lo := lo) (l := i) (c := c) (E := E) n1 n4' m5 hi p1 rv qq
          have e : fAn n m c E lo 7 0 = some (i, idx) := by
            have := fAn_sk (n := n) (m := m) (c := c) (E := E) (lo := lo) i (7 - i) 0 (fun y _ h => hno y (by omega))
            rw [show 7 - i + i = 7 by omega, Nat.zero_add, show 7 - i = (7 - (i + 1)) + 1 by omega] at this
            rw [this, fAn, f1]
          rw [e, e271_43]
          cases te with
          | true =>
            have wt : wi (bi true) = 1 := rfl
            have eo : opA (rwL n m) true (some (i, idx)) = (k : Int) := by
              show (((rwL n m).getD idx 0 : Nat) : Int) = _
              rw [f2]
            rw [eo]
            simp (disch := first | assumption | omega | (simp (disch := omega) only [wN, w0, w1]; omega)) only [e271_0, e271_1, e271_2, e271_5, e271_6, e271_7, e271_8, e271_12, e271_13, e271_16, e271_19, e271_20, e271_22, e271_23, e271_24, e271_27, e271_30, e271_31, e271_35, e271_37, e271_40, e271_41, e271_45, e271_46, e271_49, e271_50, e271_52, e271_55, e271_58, e271_59, e271_60, e271_63, e271_65, e271_68, e271_71, e271_72, e271_75, e271_77, e271_80, e271_82, e271_83, e271_86, e271_89, e271_92, e271_95, e271_97, kl_I, kl_R, kl_N, kl_L, oSm, oNn, Option.bind_some, wN, if_pos, if_neg, nS, tN, t0, w0, w1, w2, w3, w4, w5, wm1, upA_ne, upA_same, if_true, if_false, Bool.false_eq_true, b1, ra40, rl40, c1, wt]
            exact End.of rfl ⟨rfl, fin _ p5⟩
          | false =>
            have wt : wi (bi false) = 0 := rfl
            have eo : opA (rwL n m) false (some (i, idx)) = (i : Int) := rfl
            rw [eo]
            simp (disch := first | assumption | omega | (simp (disch := omega) only [wN, w0, w1]; omega)) only [e271_0, e271_1, e271_2, e271_5, e271_6, e271_7, e271_8, e271_12, e271_13, e271_16, e271_19, e271_20, e271_22, e271_23, e271_24, e271_27, e271_30, e271_31, e271_35, e271_37, e271_40, e271_41, e271_45, e271_46, e271_49, e271_50, e271_52, e271_55, e271_58, e271_59, e271_60, e271_63, e271_65, e271_68, e271_71, e271_72, e271_75, e271_77, e271_80, e271_82, e271_83, e271_86, e271_89, e271_92, e271_95, e271_97, kl_I, kl_R, kl_N, kl_L, oSm, oNn, Option.bind_some, wN, if_pos, if_neg, nS, tN, t0, w0, w1, w2, w3, w4, w5, wm1, upA_ne, upA_same, if_true, if_false, Bool.false_eq_true, b1, ra40, rl40, c1, wt]
            exact End.of rfl ⟨rfl, fin _ p5⟩
        · have qq' : qL n c E lo i k = false := by simpa using qq
          have cq : caB (farE E) c E (ahS lo c) i (pOf n k) 0 = false := qq'
          rw [cq] at c1
          replace c1 : run sh (d + 6) 268 [mR 124, mR 146, mI (i : Int)] σ4 = some (some (mI 0), σ5) := c1
          rw [e271_43]
          simp (disch := first | assumption | omega | (simp (disch := omega) only [wN, w0, w1]; omega)) only [e271_0, e271_1, e271_2, e271_5, e271_6, e271_7, e271_8, e271_12, e271_13, e271_16, e271_19, e271_20, e271_22, e271_23, e271_24, e271_27, e271_30, e271_31, e271_35, e271_37, e271_40, e271_41, e271_45, e271_46, e271_49, e271_50, e271_52, e271_55, e271_58, e271_59, e271_60, e271_63, e271_65, e271_68, e271_71, e271_72, e271_75, e271_77, e271_80, e271_82, e271_83, e271_86, e271_89, e271_92, e271_95, e271_97, kl_I, kl_R, kl_N, kl_L, oSm, oNn, Option.bind_some, wN, if_pos, if_neg, nS, tN, t0, w0, w1, w2, w3, w4, w5, wm1, upA_ne, upA_same, if_true, if_false, Bool.false_eq_true, b1, ra40, rl40, c1]
          refine ih _ ⟨fun N hN2 hv2 => ?_, p5⟩
          by_cases g : N = k
          · rw [g]; exact qq'
          · exact p1 N (by omega) hv2
      · have rv' : rwV n m k = false := by simpa using rv
        rw [rv'] at b1
        replace b1 : run sh (d + 6) 242 [mR 124, mI (k : Int)] σ3 = some (some (mI 0), σ4) := b1
        rw [e271_43]
        simp (disch := first | assumption | omega | (simp (disch := omega) only [wN, w0, w1]; omega)) only [e271_0, e271_1, e271_2, e271_5, e271_6, e271_7, e271_8, e271_12, e271_13, e271_16, e271_19, e271_20, e271_22, e271_23, e271_24, e271_27, e271_30, e271_31, e271_35, e271_37, e271_40, e271_41, e271_45, e271_46, e271_49, e271_50, e271_52, e271_55, e271_58, e271_59, e271_60, e271_63, e271_65, e271_68, e271_71, e271_72, e271_75, e271_77, e271_80, e271_82, e271_83, e271_86, e271_89, e271_92, e271_95, e271_97, kl_I, kl_R, kl_N, kl_L, oSm, oNn, Option.bind_some, wN, if_pos, if_neg, nS, tN, t0, w0, w1, w2, w3, w4, w5, wm1, upA_ne, upA_same, if_true, if_false, Bool.false_eq_true, b1]
        refine ih _ ⟨fun N hN2 hv2 => ?_, p4⟩
        by_cases g : N = k
        · rw [g] at hv2; exact absurd hv2 rv
        · exact p1 N (by omega) hv2) 0 (Nat.zero_le _)
    rw [e271_33]
    simp (disch := first | assumption | omega | (simp (disch := omega) only [wN, w0, w1]; omega)) only [e271_0, e271_1, e271_2, e271_5, e271_6, e271_7, e271_8, e271_12, e271_13, e271_16, e271_19, e271_20, e271_22, e271_23, e271_24, e271_27, e271_30, e271_31, e271_35, e271_37, e271_40, e271_41, e271_45, e271_46, e271_49, e271_50, e271_52, e271_55, e271_58, e271_59, e271_60, e271_63, e271_65, e271_68, e271_71, e271_72, e271_75, e271_77, e271_80, e271_82, e271_83, e271_86, e271_89, e271_92, e271_95, e271_97, kl_I, kl_R, kl_N, kl_L, oSm, oNn, Option.bind_some, wN, if_pos, if_neg, nS, tN, t0, w0, w1, w2, w3, w4, w5, wm1, upA_ne, upA_same, if_true, if_false, Bool.false_eq_true, w6']
    exact I _ ⟨fun N hN2 => by omega, hp.2⟩) 0 (Nat.zero_le _)
  have L0 := L σ1 none ⟨fun y hy => by omega, frT.rf⟩
  simp (disch := first | assumption | omega | (simp (disch := omega) only [wN, w0, w1]; omega)) only [e271_0, e271_1, e271_2, e271_5, e271_6, e271_7, e271_8, e271_12, e271_13, e271_16, e271_19, e271_20, e271_22, e271_23, e271_24, e271_27, e271_30, e271_31, e271_35, e271_37, e271_40, e271_41, e271_45, e271_46, e271_49, e271_50, e271_52, e271_55, e271_58, e271_59, e271_60, e271_63, e271_65, e271_68, e271_71, e271_72, e271_75, e271_77, e271_80, e271_82, e271_83, e271_86, e271_89, e271_92, e271_95, e271_97, kl_I, kl_R, kl_N, kl_L, oSm, oNn, Option.bind_some, wN, if_pos, if_neg, nS, tN, t0, w0, w1, w2, w3, w4, w5, wm1, upA_ne, upA_same, if_true, if_false, Bool.false_eq_true, q271, a1]
  refine End.cg Mo ?_
  rw [e271_10]
  simp (disch := first | assumption | omega | (simp (disch := omega) only [wN, w0, w1]; omega)) only [e271_0, e271_1, e271_2, e271_5, e271_6, e271_7, e271_8, e271_12, e271_13, e271_16, e271_19, e271_20, e271_22, e271_23, e271_24, e271_27, e271_30, e271_31, e271_35, e271_37, e271_40, e271_41, e271_45, e271_46, e271_49, e271_50, e271_52, e271_55, e271_58, e271_59, e271_60, e271_63, e271_65, e271_68, e271_71, e271_72, e271_75, e271_77, e271_80, e271_82, e271_83, e271_86, e271_89, e271_92, e271_95, e271_97, kl_I, kl_R, kl_N, kl_L, oSm, oNn, Option.bind_some, wN, if_pos, if_neg, nS, tN, t0, w0, w1, w2, w3, w4, w5, wm1, upA_ne, upA_same, if_true, if_false, Bool.false_eq_true, hN1]
  exact L0
theorem M272 (hM : MS sh) (h : InvM sh σ a) (hw' : i32 w) : End (run sh (d + 8) 272 [mR 124, mI w] σ) (fun r σ' => r = some (mI (aFewOf a w)) ∧ InvM sh σ' a) := by
  have hI := h
  have mo := hM.1
  obtain ⟨⟨n, c, m, E, P, x⟩, K, B, s, T⟩ := a
  obtain ⟨⟨hG, hN, hMp, hEl, hx0, hE, hP, hoS⟩, hik, hKp, hTp, h140, hTm⟩ := id h
  replace hG : HGm σ 0 c := hG
  replace hN : σ.1 124 8 = (n : Int) := hN
  replace hMp : σ.1 124 9 = (m : Int) := hMp
  replace hEl : σ.1 124 10 = (E.length : Int) := hEl
  replace hx0 : σ.1 124 11 = (x : Int) := hx0
  replace hE : HEm σ 127 128 E := hE
  replace hP : ∀ y, y < n → σ.1 129 y = (P y : Int) := hP
  replace hoS : okZ n c m E P x := hoS
  replace hTp : HPm σ B s := hTp
  replace h140 : s ≤ 140 := h140
  replace hTm : HT sh σ 157 T := hTm
  replace hik : σ.1 124 16 = bi K.isSome := hik
  obtain ⟨n1, n4', c30, hv, m2, m5, E10, hvE, hPk, x16⟩ := id hoS
  have ww := hw'.w
  have ei := E164 (sh := sh) (d := d + 7) (σ := σ) (z := w) (w := 0) (v := 4) hw' ⟨by omega, by omega⟩ ⟨by omega, by omega⟩
  unfold aFewOf
  simp only
  by_cases h1 : w < 0 ∨ 4 < w
  · rw [if_pos h1]
    rw [if_neg (by omega)] at ei
    simp (disch := first | assumption | omega | (simp (disch := omega) only [wN, w0, w1]; omega)) only [e272_0, e272_1, e272_2, e272_3, e272_6, e272_9, e272_10, e272_11, e272_12, e272_15, e272_16, e272_19, e272_22, e272_24, e272_25, e272_26, e272_29, e272_30, e272_31, e272_34, e272_37, e272_38, e272_39, e272_40, e272_43, e272_44, e272_47, e272_48, e272_49, e272_50, e272_51, e272_54, e272_55, e272_58, e272_59, e272_62, kl_I, kl_R, kl_N, kl_L, oSm, oNn, Option.bind_some, wN, if_pos, if_neg, nS, tN, t0, w0, w1, w2, w3, w4, w5, wm1, upA_ne, upA_same, if_true, if_false, Bool.false_eq_true, q272, ei]
    exact End.of rfl ⟨rfl, hI⟩
  · rw [if_neg h1]
    rw [if_pos (by omega)] at ei
    by_cases hmn : m < n
    · rw [if_pos hmn]
      simp (disch := first | assumption | omega | (simp (disch := omega) only [wN, w0, w1]; omega)) only [e272_0, e272_1, e272_2, e272_3, e272_6, e272_9, e272_10, e272_11, e272_12, e272_15, e272_16, e272_19, e272_22, e272_24, e272_25, e272_26, e272_29, e272_30, e272_31, e272_34, e272_37, e272_38, e272_39, e272_40, e272_43, e272_44, e272_47, e272_48, e272_49, e272_50, e272_51, e272_54, e272_55, e272_58, e272_59, e272_62, kl_I, kl_R, kl_N, kl_L, oSm, oNn, Option.bind_some, wN, if_pos, if_neg, nS, tN, t0, w0, w1, w2, w3, w4, w5, wm1, upA_ne, upA_same, if_true, if_false, Bool.false_eq_true, q272, ei, hN, hMp]
      exact End.of rfl ⟨rfl, hI⟩
    · rw [if_neg hmn]
      have x2 : xrem w 2 = ((w.toNat % 2 : Nat) : Int) := by
        have := xrem_nn (a := w.toNat) (b := 2) (by omega) (by omega)
        rw [show ((w.toNat : Nat) : Int) = w by omega] at this
        exact this
      have w2' : wi 2 = 2 := rfl
      rcases (show w = 0 ∨ w = 1 ∨ w = 2 ∨ w = 3 ∨ w = 4 by omega) with rfl | rfl | rfl | rfl | rfl
      · obtain ⟨r, σ1, a1, rfl, a2⟩ := M269 (d := d) (lo := true) hM hI hmn
        replace a1 : run sh (d + 7) 269 [mR 124, mI 1] σ = _ := a1
        simp (disch := first | assumption | omega | (simp (disch := omega) only [wN, w0, w1]; omega)) only [e272_0, e272_1, e272_2, e272_3, e272_6, e272_9, e272_10, e272_11, e272_12, e272_15, e272_16, e272_19, e272_22, e272_24, e272_25, e272_26, e272_29, e272_30, e272_31, e272_34, e272_37, e272_38, e272_39, e272_40, e272_43, e272_44, e272_47, e272_48, e272_49, e272_50, e272_51, e272_54, e272_55, e272_58, e272_59, e272_62, kl_I, kl_R, kl_N, kl_L, oSm, oNn, Option.bind_some, wN, if_pos, if_neg, nS, tN, t0, w0, w1, w2, w3, w4, w5, wm1, upA_ne, upA_same, if_true, if_false, Bool.false_eq_true, q272, ei, hN, hMp, a1]
        exact End.of rfl ⟨rfl, a2⟩
      · obtain ⟨r, σ1, a1, rfl, a2⟩ := M271 (d := d) (lo := false) (te := false) hM hI hmn
        replace a1 : run sh (d + 7) 271 [mR 124, mI 0, mI 0] σ = _ := a1
        replace x2 : xrem 1 2 = 1 := x2
        simp (disch := first | assumption | omega | (simp (disch := omega) only [wN, w0, w1]; omega)) only [e272_0, e272_1, e272_2, e272_3, e272_6, e272_9, e272_10, e272_11, e272_12, e272_15, e272_16, e272_19, e272_22, e272_24, e272_25, e272_26, e272_29, e272_30, e272_31, e272_34, e272_37, e272_38, e272_39, e272_40, e272_43, e272_44, e272_47, e272_48, e272_49, e272_50, e272_51, e272_54, e272_55, e272_58, e272_59, e272_62, kl_I, kl_R, kl_N, kl_L, oSm, oNn, Option.bind_some, wN, if_pos, if_neg, nS, tN, t0, w0, w1, w2, w3, w4, w5, wm1, upA_ne, upA_same, if_true, if_false, Bool.false_eq_true, q272, ei, hN, hMp, x2, w2', a1]
        exact End.of rfl ⟨rfl, a2⟩
      · obtain ⟨r, σ1, a1, rfl, a2⟩ := M271 (d := d) (lo := false) (te := true) hM hI hmn
        replace a1 : run sh (d + 7) 271 [mR 124, mI 0, mI 1] σ = _ := a1
        replace x2 : xrem 2 2 = 0 := x2
        simp (disch := first | assumption | omega | (simp (disch := omega) only [wN, w0, w1]; omega)) only [e272_0, e272_1, e272_2, e272_3, e272_6, e272_9, e272_10, e272_11, e272_12, e272_15, e272_16, e272_19, e272_22, e272_24, e272_25, e272_26, e272_29, e272_30, e272_31, e272_34, e272_37, e272_38, e272_39, e272_40, e272_43, e272_44, e272_47, e272_48, e272_49, e272_50, e272_51, e272_54, e272_55, e272_58, e272_59, e272_62, kl_I, kl_R, kl_N, kl_L, oSm, oNn, Option.bind_some, wN, if_pos, if_neg, nS, tN, t0, w0, w1, w2, w3, w4, w5, wm1, upA_ne, upA_same, if_true, if_false, Bool.false_eq_true, q272, ei, hN, hMp, x2, w2', a1]
        exact End.of rfl ⟨rfl, a2⟩
      · obtain ⟨r, σ1, a1, rfl, a2⟩ := M271 (d := d) (lo := true) (te := false) hM hI hmn
        replace a1 : run sh (d + 7) 271 [mR 124, mI 1, mI 0] σ = _ := a1
        replace x2 : xrem 3 2 = 1 := x2
        simp (disch := first | assumption | omega | (simp (disch := omega) only [wN, w0, w1]; omega)) only [e272_0, e272_1, e272_2, e272_3, e272_6, e272_9, e272_10, e272_11, e272_12, e272_15, e272_16, e272_19, e272_22, e272_24, e272_25, e272_26, e272_29, e272_30, e272_31, e272_34, e272_37, e272_38, e272_39, e272_40, e272_43, e272_44, e272_47, e272_48, e272_49, e272_50, e272_51, e272_54, e272_55, e272_58, e272_59, e272_62, kl_I, kl_R, kl_N, kl_L, oSm, oNn, Option.bind_some, wN, if_pos, if_neg, nS, tN, t0, w0, w1, w2, w3, w4, w5, wm1, upA_ne, upA_same, if_true, if_false, Bool.false_eq_true, q272, ei, hN, hMp, x2, w2', a1]
        exact End.of rfl ⟨rfl, a2⟩
      · obtain ⟨r, σ1, a1, rfl, a2⟩ := M271 (d := d) (lo := true) (te := true) hM hI hmn
        replace a1 : run sh (d + 7) 271 [mR 124, mI 1, mI 1] σ = _ := a1
        replace x2 : xrem 4 2 = 0 := x2
        simp (disch := first | assumption | omega | (simp (disch := omega) only [wN, w0, w1]; omega)) only [e272_0, e272_1, e272_2, e272_3, e272_6, e272_9, e272_10, e272_11, e272_12, e272_15, e272_16, e272_19, e272_22, e272_24, e272_25, e272_26, e272_29, e272_30, e272_31, e272_34, e272_37, e272_38, e272_39, e272_40, e272_43, e272_44, e272_47, e272_48, e272_49, e272_50, e272_51, e272_54, e272_55, e272_58, e272_59, e272_62, kl_I, kl_R, kl_N, kl_L, oSm, oNn, Option.bind_some, wN, if_pos, if_neg, nS, tN, t0, w0, w1, w2, w3, w4, w5, wm1, upA_ne, upA_same, if_true, if_false, Bool.false_eq_true, q272, ei, hN, hMp, x2, w2', a1]
        exact End.of rfl ⟨rfl, a2⟩
end OJ

